/-! PURE: law: facts by their words -/
section FF
variable {e fp t n t' : Nat} {b : Nat → Nat} {g : St}
theorem M_takes {x : Nat} (hx : x < 19) (h : Mt e b 0 fp t g) (r : RUN (ltr b) e t n) (hn : nb e b (t + n) t') {x1 x2 x3 x4 x5 x6 : Int32} (hs : fM_six x1 x2 x3 x4 x5 x6 = i3 (bvf (fun j => (wd x).getD j 0 - 96) (wd x).length)) : ∃ g', fM_takes x1 x2 x3 x4 x5 x6 g = some ((if isW b t n (wd x) then i3 1 else i3 0), g') ∧ Mt e b 0 fp (if isW b t n (wd x) then t' else t) g' ∧ FRM g g' := by
  obtain ⟨g1, a1, a2, a3, a4⟩ := M_isWord hx h r hs
  by_cases q : isW b t n (wd x)
  · rw [if_pos q] at a1
    obtain ⟨g2, c1, c2, c3⟩ := M_skip a2 a4 r hn
    refine ⟨g2, ?_, by rw [if_pos q]; exact c2, a3.tr c3⟩
    unfold fM_takes
    rw [a1, ob_s, if_pos q]
    show (if i3 1 = i3 0 then _ else (fM_skipWord g1).bind _) = _
    rw [if_neg (by decide), c1, ob_s]
  · rw [if_neg q] at a1
    refine ⟨g1, ?_, by rw [if_neg q]; exact a2, a3⟩
    unfold fM_takes
    rw [a1, ob_s, if_neg q]
    rfl
def fct (b : Nat → Nat) (t n : Nat) : Nat := if isW b t n (wd 5) then 0 else if isW b t n (wd 6) then 1 else if isW b t n (wd 7) then 2 else if isW b t n (wd 8) then 3 else if isW b t n (wd 9) then 4 else if isW b t n (wd 10) then 5 else if isW b t n (wd 11) then 6 else if isW b t n (wd 12) then 7 else 8

theorem X_factOf (hT : TXt e b g) (h0 : g 1 6 = i3 0) (h3 : g 1 3 = i3 (t + n)) (h4 : g 1 4 = i3 t) (hn : t + n ≤ e) : fX_LawReader_factOf g = some (nm (fct b t n)) := by
  unfold fX_LawReader_factOf fct
  rw [X_isWord (x := 5) (by omega) hT h0 h3 h4 hn, ob_s]
  by_cases q0 : isW b t n (wd 5)
  · rw [if_pos q0, if_pos q0]
    rfl
  rw [if_neg q0, if_neg q0, if_pos (show i3 0 = (0 : Int32) from rfl)]
  rw [X_isWord (x := 6) (by omega) hT h0 h3 h4 hn, ob_s]
  by_cases q1 : isW b t n (wd 6)
  · rw [if_pos q1, if_pos q1]
    rfl
  rw [if_neg q1, if_neg q1, if_pos (show i3 0 = (0 : Int32) from rfl)]
  rw [X_isWord (x := 7) (by omega) hT h0 h3 h4 hn, ob_s]
  by_cases q2 : isW b t n (wd 7)
  · rw [if_pos q2, if_pos q2]
    rfl
  rw [if_neg q2, if_neg q2, if_pos (show i3 0 = (0 : Int32) from rfl)]
  rw [X_isWord (x := 8) (by omega) hT h0 h3 h4 hn, ob_s]
  by_cases q3 : isW b t n (wd 8)
  · rw [if_pos q3, if_pos q3]
    rfl
  rw [if_neg q3, if_neg q3, if_pos (show i3 0 = (0 : Int32) from rfl)]
  rw [X_isWord (x := 9) (by omega) hT h0 h3 h4 hn, ob_s]
  by_cases q4 : isW b t n (wd 9)
  · rw [if_pos q4, if_pos q4]
    rfl
  rw [if_neg q4, if_neg q4, if_pos (show i3 0 = (0 : Int32) from rfl)]
  rw [X_isWord (x := 10) (by omega) hT h0 h3 h4 hn, ob_s]
  by_cases q5 : isW b t n (wd 10)
  · rw [if_pos q5, if_pos q5]
    rfl
  rw [if_neg q5, if_neg q5, if_pos (show i3 0 = (0 : Int32) from rfl)]
  rw [X_isWord (x := 11) (by omega) hT h0 h3 h4 hn, ob_s]
  by_cases q6 : isW b t n (wd 11)
  · rw [if_pos q6, if_pos q6]
    rfl
  rw [if_neg q6, if_neg q6, if_pos (show i3 0 = (0 : Int32) from rfl)]
  rw [X_isWord (x := 12) (by omega) hT h0 h3 h4 hn, ob_s]
  by_cases q7 : isW b t n (wd 12)
  · rw [if_pos q7, if_pos q7]
    rfl
  rw [if_neg q7, if_neg q7, if_pos (show i3 0 = (0 : Int32) from rfl)]
  rfl

theorem M_knownHere (h : Mt e b 0 fp t g) (r : RUN (ltr b) e t n) (hn : nb e b (t + n) t') : ∃ g', fM_knownHere g = some (nm (fct b t n), g') ∧ Mt e b 0 fp (if fct b t n = 8 then t else t') g' ∧ FRM g g' := by
  unfold fM_knownHere fct
  have f0 : FRM g g := FRM.rf
  obtain ⟨g0, e0, m0, k0⟩ := M_takes (x := 5) (by omega) h r hn (x1 := 11) (x2 := 9) (x3 := 14) (x4 := 4) (x5 := 0) (x6 := 0) (by decide +kernel)
  have F0 : FRM g g0 := FRM.tr FRM.rf k0
  rw [e0, ob_s]
  by_cases q0 : isW b t n (wd 5)
  · rw [if_pos q0] at m0
    refine ⟨g0, ?_, ?_, F0⟩
    · rw [if_pos q0, if_pos q0]
      rfl
    · rw [if_pos q0, if_neg (by omega)]
      exact m0
  rw [if_neg q0] at m0
  simp only [if_neg q0]
  rw [if_pos (show i3 0 = (0 : Int32) from rfl)]
  obtain ⟨g1, e1, m1, k1⟩ := M_takes (x := 6) (by omega) m0 r hn (x1 := 4) (x2 := 5) (x3 := 2) (x4 := 20) (x5 := 19) (x6 := 0) (by decide +kernel)
  have F1 : FRM g g1 := FRM.tr F0 k1
  rw [e1, ob_s]
  by_cases q1 : isW b t n (wd 6)
  · rw [if_pos q1] at m1
    refine ⟨g1, ?_, ?_, F1⟩
    · rw [if_pos q1, if_pos q1]
      rfl
    · rw [if_pos q1, if_neg (by omega)]
      exact m1
  rw [if_neg q1] at m1
  simp only [if_neg q1]
  rw [if_pos (show i3 0 = (0 : Int32) from rfl)]
  obtain ⟨g2, e2, m2, k2⟩ := M_takes (x := 7) (by omega) m1 r hn (x1 := 19) (x2 := 20) (x3 := 15) (x4 := 14) (x5 := 5) (x6 := 19) (by decide +kernel)
  have F2 : FRM g g2 := FRM.tr F1 k2
  rw [e2, ob_s]
  by_cases q2 : isW b t n (wd 7)
  · rw [if_pos q2] at m2
    refine ⟨g2, ?_, ?_, F2⟩
    · rw [if_pos q2, if_pos q2]
      rfl
    · rw [if_pos q2, if_neg (by omega)]
      exact m2
  rw [if_neg q2] at m2
  simp only [if_neg q2]
  rw [if_pos (show i3 0 = (0 : Int32) from rfl)]
  obtain ⟨g3, e3, m3, k3⟩ := M_takes (x := 8) (by omega) m2 r hn (x1 := 6) (x2 := 18) (x3 := 9) (x4 := 5) (x5 := 14) (x6 := 4) (by decide +kernel)
  have F3 : FRM g g3 := FRM.tr F2 k3
  rw [e3, ob_s]
  by_cases q3 : isW b t n (wd 8)
  · rw [if_pos q3] at m3
    refine ⟨g3, ?_, ?_, F3⟩
    · rw [if_pos q3, if_pos q3]
      rfl
    · rw [if_pos q3, if_neg (by omega)]
      exact m3
  rw [if_neg q3] at m3
  simp only [if_neg q3]
  rw [if_pos (show i3 0 = (0 : Int32) from rfl)]
  obtain ⟨g4, e4, m4, k4⟩ := M_takes (x := 9) (by omega) m3 r hn (x1 := 15) (x2 := 23) (x3 := 5) (x4 := 4) (x5 := 0) (x6 := 0) (by decide +kernel)
  have F4 : FRM g g4 := FRM.tr F3 k4
  rw [e4, ob_s]
  by_cases q4 : isW b t n (wd 9)
  · rw [if_pos q4] at m4
    refine ⟨g4, ?_, ?_, F4⟩
    · rw [if_pos q4, if_pos q4]
      rfl
    · rw [if_pos q4, if_neg (by omega)]
      exact m4
  rw [if_neg q4] at m4
  simp only [if_neg q4]
  rw [if_pos (show i3 0 = (0 : Int32) from rfl)]
  obtain ⟨g5, e5, m5, k5⟩ := M_takes (x := 10) (by omega) m4 r hn (x1 := 4) (x2 := 5) (x3 := 1) (x4 := 4) (x5 := 0) (x6 := 0) (by decide +kernel)
  have F5 : FRM g g5 := FRM.tr F4 k5
  rw [e5, ob_s]
  by_cases q5 : isW b t n (wd 10)
  · rw [if_pos q5] at m5
    refine ⟨g5, ?_, ?_, F5⟩
    · rw [if_pos q5, if_pos q5]
      rfl
    · rw [if_pos q5, if_neg (by omega)]
      exact m5
  rw [if_neg q5] at m5
  simp only [if_neg q5]
  rw [if_pos (show i3 0 = (0 : Int32) from rfl)]
  obtain ⟨g6, e6, m6, k6⟩ := M_takes (x := 11) (by omega) m5 r hn (x1 := 25) (x2 := 5) (x3 := 1) (x4 := 18) (x5 := 0) (x6 := 0) (by decide +kernel)
  have F6 : FRM g g6 := FRM.tr F5 k6
  rw [e6, ob_s]
  by_cases q6 : isW b t n (wd 11)
  · rw [if_pos q6] at m6
    refine ⟨g6, ?_, ?_, F6⟩
    · rw [if_pos q6, if_pos q6]
      rfl
    · rw [if_pos q6, if_neg (by omega)]
      exact m6
  rw [if_neg q6] at m6
  simp only [if_neg q6]
  rw [if_pos (show i3 0 = (0 : Int32) from rfl)]
  obtain ⟨g7, e7, m7, k7⟩ := M_takes (x := 12) (by omega) m6 r hn (x1 := 16) (x2 := 5) (x3 := 18) (x4 := 19) (x5 := 15) (x6 := 14) (by decide +kernel)
  have F7 : FRM g g7 := FRM.tr F6 k7
  rw [e7, ob_s]
  by_cases q7 : isW b t n (wd 12)
  · rw [if_pos q7] at m7
    refine ⟨g7, ?_, ?_, F7⟩
    · rw [if_pos q7, if_pos q7]
      rfl
    · rw [if_pos q7, if_neg (by omega)]
      exact m7
  rw [if_neg q7] at m7
  simp only [if_neg q7]
  rw [if_pos (show i3 0 = (0 : Int32) from rfl)]
  refine ⟨g7, rfl, ?_, F7⟩
  rw [if_pos trivial]
  exact m7
theorem fct_le : fct b t n ≤ 8 := by
  unfold fct
  by_cases q0 : isW b t n (wd 5)
  · rw [if_pos q0]; omega
  rw [if_neg q0]
  by_cases q1 : isW b t n (wd 6)
  · rw [if_pos q1]; omega
  rw [if_neg q1]
  by_cases q2 : isW b t n (wd 7)
  · rw [if_pos q2]; omega
  rw [if_neg q2]
  by_cases q3 : isW b t n (wd 8)
  · rw [if_pos q3]; omega
  rw [if_neg q3]
  by_cases q4 : isW b t n (wd 9)
  · rw [if_pos q4]; omega
  rw [if_neg q4]
  by_cases q5 : isW b t n (wd 10)
  · rw [if_pos q5]; omega
  rw [if_neg q5]
  by_cases q6 : isW b t n (wd 11)
  · rw [if_pos q6]; omega
  rw [if_neg q6]
  by_cases q7 : isW b t n (wd 12)
  · rw [if_pos q7]; omega
  rw [if_neg q7]
  omega
theorem wd_ne : ∀ x, x < 8 → ¬ wd 3 = wd (5 + x) ∧ ¬ wd 4 = wd (5 + x) ∧ ¬ wd 3 = wd 4 := by decide
theorem fct_34 (h : isW b t n (wd 3) ∨ isW b t n (wd 4)) : fct b t n = 8 := by
  have key : ∀ x, x < 8 → ¬ isW b t n (wd (5 + x)) := fun x hx z => by
    obtain ⟨n1, n2, _⟩ := wd_ne x hx
    rcases h with h | h
    · exact n1 (isW_inj h z)
    · exact n2 (isW_inj h z)
  unfold fct
  rw [if_neg (key 0 (by omega))]
  rw [if_neg (key 1 (by omega))]
  rw [if_neg (key 2 (by omega))]
  rw [if_neg (key 3 (by omega))]
  rw [if_neg (key 4 (by omega))]
  rw [if_neg (key 5 (by omega))]
  rw [if_neg (key 6 (by omega))]
  rw [if_neg (key 7 (by omega))]
theorem wd_pos : ∀ x, x < 19 → 1 ≤ (wd x).length := by decide
theorem isW_0 {x : Nat} (hx : x < 19) : ¬ isW b t 0 (wd x) := fun z => by
  have := wd_pos x hx
  have := z.1
  omega
theorem fct_0 : fct b t 0 = 8 := by
  unfold fct
  rw [if_neg (isW_0 (by omega))]
  rw [if_neg (isW_0 (by omega))]
  rw [if_neg (isW_0 (by omega))]
  rw [if_neg (isW_0 (by omega))]
  rw [if_neg (isW_0 (by omega))]
  rw [if_neg (isW_0 (by omega))]
  rw [if_neg (isW_0 (by omega))]
  rw [if_neg (isW_0 (by omega))]
end FF
