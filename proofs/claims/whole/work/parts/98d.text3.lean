/-! PURE: text: a digit of the reference -/
theorem M_dval {v d C : Nat} (hv : v ≤ C) (h1 : 48 ≤ d) (h2 : d ≤ 57) (hC : C < 1000000) (f : Int32 → Option ((Int32 × St) ⊕ (Int32 × St))) : (if (((10 : Int32) * i3 v) + i3 d) - (48 : Int32) ≤ i3 C then f ((((10 : Int32) * i3 v) + i3 d) - (48 : Int32)) else f (i3 C)) = f (i3 (cp C (10 * v + (d - 48)))) := by
  have e : (((10 : Int32) * i3 v) + i3 d) - (48 : Int32) = i3 (10 * v + (d - 48)) := by
    show i3 10 * i3 v + i3 d - i3 48 = _
    rw [i3_mul, i3_add, i3_sub (by omega)]
    congr 1
    omega
  rw [e]
  unfold cp
  by_cases q : 10 * v + (d - 48) < C
  · rw [if_pos (i3_yle (by omega) (by omega)), if_pos q]
  · rw [if_neg q]
    by_cases q2 : 10 * v + (d - 48) = C
    · rw [q2, if_pos (i3_yle (by omega) (Nat.le_refl _))]
    · rw [if_neg (i3_nle (by omega) (by omega))]
theorem M_dstep {x1 x2 x3 : Int32} {v d k : Nat} {y : St} (hv : v ≤ 100000) (h1 : 48 ≤ d) (h2 : d ≤ 57) (z1 : y 0 4 = i3 k) (t4 : fM_byteAt (i3 k) y = some (i3 d)) (t6 : fM_isDigit (i3 d) = i3 1) : fM_number_L44 x1 x2 x3 (i3 v, y) = some (.inl (i3 (cp 100000 (10 * v + (d - 48))), st y 0 4 (i3 (k + 1)))) := by
  have e := M_dval (C := 100000) hv h1 h2 (by omega) (fun s => fM_number_b91 x1 x2 x3 s y)
  have e2 : ∀ s, fM_number_b91 x1 x2 x3 s y = some (.inl (s, st y 0 4 (i3 (k + 1)))) := fun s => by
    unfold fM_number_b91
    rw [z1, show i3 k + (1 : Int32) = i3 (k + 1) from i3_add k 1]
  rw [← e2, ← e]
  unfold fM_number_L44
  show (fM_byteAt (y 0 4) y).bind _ = _
  rw [z1, t4, ob_s, t6, if_neg (show ¬ i3 1 = (0 : Int32) by decide)]
  rfl
