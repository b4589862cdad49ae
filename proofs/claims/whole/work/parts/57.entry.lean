/-! what holds at the law's entry -/
theorem and_l {a b : Cond} {args : Array Value} {s : State} (h : (Cond.and a b).before args s = true) : a.before args s = true := by rw [Cond.before_and, Bool.and_eq_true] at h; exact h.1
theorem and_r {a b : Cond} {args : Array Value} {s : State} (h : (Cond.and a b).before args s = true) : b.before args s = true := by rw [Cond.before_and, Bool.and_eq_true] at h; exact h.2
set_option maxRecDepth 20000 in
theorem str_0 {args : Array Value} {s : State} (hn : narrow_1.before args s = true) {A : Nat → Prop} (hA : ∀ a : Nat, a < s.heap.size → ¬ A a) : ∃ a t : Nat, (Term.string "BorrowedStones$Land" 51).eval args s none [] s = some (.ref a) ∧ va_O "java/lang/String" a A s s.heap ∧ va_OF "java/lang/String" "coder" "B" (.int 0) a A s s.heap ∧ va_OF "java/lang/String" "value" "[B" (.ref t) a A s s.heap ∧ va_T .byte t 6 (fun j => .int (([112, 101, 114, 115, 111, 110] : List Int32).getD j 0)) A s s.heap := by
  have hex : (Cond.exactly (.string "BorrowedStones$Land" 51) "java/lang/String").before args s = true := (and_l (and_r (and_l (and_l (and_r (and_r (and_l (and_l (and_l hn)))))))))
  have hco : (Cond.eq (.field (.string "BorrowedStones$Land" 51) "java/lang/String" "coder" "B") (.int 0)).before args s = true := (and_r (and_r (and_l (and_l (and_r (and_r (and_l (and_l (and_l hn)))))))))
  have har : (Cond.arrayOf (.field (.string "BorrowedStones$Land" 51) "java/lang/String" "value" "[B") .byte).before args s = true := (and_l (and_r (and_l (and_r (and_r (and_l (and_l (and_l hn))))))))
  have hle : (Cond.eq (.length (.field (.string "BorrowedStones$Land" 51) "java/lang/String" "value" "[B")) (.int (Int32.ofNat 6))).before args s = true := (and_l (and_r (and_r (and_l (and_r (and_r (and_l (and_l (and_l hn)))))))))
  have hel : ∀ j : Nat, j < 6 → (Cond.eq (.elem (.field (.string "BorrowedStones$Land" 51) "java/lang/String" "value" "[B") (.int (Int32.ofNat j))) (.int (([112, 101, 114, 115, 111, 110] : List Int32).getD j 0))).before args s = true := fun j hj => by
    rcases (show j = 0 ∨ j = 1 ∨ j = 2 ∨ j = 3 ∨ j = 4 ∨ j = 5 by omega) with rfl | rfl | rfl | rfl | rfl | rfl
    · exact (and_r (and_r (and_r (and_l (and_r (and_r (and_l (and_l (and_l hn)))))))))
    · exact (and_l (and_l (and_r (and_r (and_r (and_l (and_l (and_l hn))))))))
    · exact (and_l (and_r (and_l (and_r (and_r (and_r (and_l (and_l (and_l hn)))))))))
    · exact (and_r (and_r (and_l (and_r (and_r (and_r (and_l (and_l (and_l hn)))))))))
    · exact (and_l (and_r (and_r (and_r (and_r (and_l (and_l (and_l hn))))))))
    · exact (and_l (and_r (and_r (and_r (and_r (and_r (and_l (and_l (and_l hn)))))))))
  obtain ⟨a, c, cA, kA, q1, q2, q3, q4, q5, q6, -⟩ := Cond.exactly_spec (args := args) (first := s) (o := none) (s := s) (idx := []) hex
  obtain ⟨t, ht, hT⟩ := va_Tof (f := fun j => .int (([112, 101, 114, 115, 111, 110] : List Int32).getD j 0)) (A := A) (by decide) har (va_eqt hle) (fun j hj => va_eqt (hel j hj)) hA
  exact ⟨a, t, q1, ⟨cA, q3, q5, by rw [q6]; exact q2, hA a (Array.getElem?_eq_some_iff.mp q3).1⟩, vk_OFof q1 (va_eqt hco) hA, vk_OFof q1 ht hA, hT⟩
set_option maxRecDepth 20000 in
theorem str_1 {args : Array Value} {s : State} (hn : narrow_1.before args s = true) {A : Nat → Prop} (hA : ∀ a : Nat, a < s.heap.size → ¬ A a) : ∃ a t : Nat, (Term.string "BorrowedStones$Land" 57).eval args s none [] s = some (.ref a) ∧ va_O "java/lang/String" a A s s.heap ∧ va_OF "java/lang/String" "coder" "B" (.int 0) a A s s.heap ∧ va_OF "java/lang/String" "value" "[B" (.ref t) a A s s.heap ∧ va_T .byte t 6 (fun j => .int (([102, 114, 105, 101, 110, 100] : List Int32).getD j 0)) A s s.heap := by
  have hex : (Cond.exactly (.string "BorrowedStones$Land" 57) "java/lang/String").before args s = true := (and_r (and_r (and_r (and_r (and_r (and_r (and_l (and_l (and_l hn)))))))))
  have hco : (Cond.eq (.field (.string "BorrowedStones$Land" 57) "java/lang/String" "coder" "B") (.int 0)).before args s = true := (and_l (and_l (and_l (and_l (and_l (and_r (and_l (and_l hn))))))))
  have har : (Cond.arrayOf (.field (.string "BorrowedStones$Land" 57) "java/lang/String" "value" "[B") .byte).before args s = true := (and_r (and_l (and_l (and_l (and_l (and_r (and_l (and_l hn))))))))
  have hle : (Cond.eq (.length (.field (.string "BorrowedStones$Land" 57) "java/lang/String" "value" "[B")) (.int (Int32.ofNat 6))).before args s = true := (and_l (and_r (and_l (and_l (and_l (and_r (and_l (and_l hn))))))))
  have hel : ∀ j : Nat, j < 6 → (Cond.eq (.elem (.field (.string "BorrowedStones$Land" 57) "java/lang/String" "value" "[B") (.int (Int32.ofNat j))) (.int (([102, 114, 105, 101, 110, 100] : List Int32).getD j 0))).before args s = true := fun j hj => by
    rcases (show j = 0 ∨ j = 1 ∨ j = 2 ∨ j = 3 ∨ j = 4 ∨ j = 5 by omega) with rfl | rfl | rfl | rfl | rfl | rfl
    · exact (and_l (and_r (and_r (and_l (and_l (and_l (and_r (and_l (and_l hn)))))))))
    · exact (and_r (and_r (and_r (and_l (and_l (and_l (and_r (and_l (and_l hn)))))))))
    · exact (and_l (and_l (and_r (and_l (and_l (and_r (and_l (and_l hn))))))))
    · exact (and_l (and_r (and_l (and_r (and_l (and_l (and_r (and_l (and_l hn)))))))))
    · exact (and_r (and_r (and_l (and_r (and_l (and_l (and_r (and_l (and_l hn)))))))))
    · exact (and_l (and_r (and_r (and_l (and_l (and_r (and_l (and_l hn))))))))
  obtain ⟨a, c, cA, kA, q1, q2, q3, q4, q5, q6, -⟩ := Cond.exactly_spec (args := args) (first := s) (o := none) (s := s) (idx := []) hex
  obtain ⟨t, ht, hT⟩ := va_Tof (f := fun j => .int (([102, 114, 105, 101, 110, 100] : List Int32).getD j 0)) (A := A) (by decide) har (va_eqt hle) (fun j hj => va_eqt (hel j hj)) hA
  exact ⟨a, t, q1, ⟨cA, q3, q5, by rw [q6]; exact q2, hA a (Array.getElem?_eq_some_iff.mp q3).1⟩, vk_OFof q1 (va_eqt hco) hA, vk_OFof q1 ht hA, hT⟩
set_option maxRecDepth 20000 in
theorem str_2 {args : Array Value} {s : State} (hn : narrow_1.before args s = true) {A : Nat → Prop} (hA : ∀ a : Nat, a < s.heap.size → ¬ A a) : ∃ a t : Nat, (Term.string "BorrowedStones$Land" 59).eval args s none [] s = some (.ref a) ∧ va_O "java/lang/String" a A s s.heap ∧ va_OF "java/lang/String" "coder" "B" (.int 0) a A s s.heap ∧ va_OF "java/lang/String" "value" "[B" (.ref t) a A s s.heap ∧ va_T .byte t 4 (fun j => .int (([109, 111, 115, 116] : List Int32).getD j 0)) A s s.heap := by
  have hex : (Cond.exactly (.string "BorrowedStones$Land" 59) "java/lang/String").before args s = true := (and_r (and_r (and_r (and_r (and_l (and_l (and_r (and_l (and_l hn)))))))))
  have hco : (Cond.eq (.field (.string "BorrowedStones$Land" 59) "java/lang/String" "coder" "B") (.int 0)).before args s = true := (and_l (and_l (and_l (and_r (and_l (and_r (and_l (and_l hn))))))))
  have har : (Cond.arrayOf (.field (.string "BorrowedStones$Land" 59) "java/lang/String" "value" "[B") .byte).before args s = true := (and_l (and_r (and_l (and_l (and_r (and_l (and_r (and_l (and_l hn)))))))))
  have hle : (Cond.eq (.length (.field (.string "BorrowedStones$Land" 59) "java/lang/String" "value" "[B")) (.int (Int32.ofNat 4))).before args s = true := (and_r (and_r (and_l (and_l (and_r (and_l (and_r (and_l (and_l hn)))))))))
  have hel : ∀ j : Nat, j < 4 → (Cond.eq (.elem (.field (.string "BorrowedStones$Land" 59) "java/lang/String" "value" "[B") (.int (Int32.ofNat j))) (.int (([109, 111, 115, 116] : List Int32).getD j 0))).before args s = true := fun j hj => by
    rcases (show j = 0 ∨ j = 1 ∨ j = 2 ∨ j = 3 by omega) with rfl | rfl | rfl | rfl
    · exact (and_l (and_r (and_l (and_r (and_l (and_r (and_l (and_l hn))))))))
    · exact (and_l (and_r (and_r (and_l (and_r (and_l (and_r (and_l (and_l hn)))))))))
    · exact (and_r (and_r (and_r (and_l (and_r (and_l (and_r (and_l (and_l hn)))))))))
    · exact (and_l (and_l (and_r (and_r (and_l (and_r (and_l (and_l hn))))))))
  obtain ⟨a, c, cA, kA, q1, q2, q3, q4, q5, q6, -⟩ := Cond.exactly_spec (args := args) (first := s) (o := none) (s := s) (idx := []) hex
  obtain ⟨t, ht, hT⟩ := va_Tof (f := fun j => .int (([109, 111, 115, 116] : List Int32).getD j 0)) (A := A) (by decide) har (va_eqt hle) (fun j hj => va_eqt (hel j hj)) hA
  exact ⟨a, t, q1, ⟨cA, q3, q5, by rw [q6]; exact q2, hA a (Array.getElem?_eq_some_iff.mp q3).1⟩, vk_OFof q1 (va_eqt hco) hA, vk_OFof q1 ht hA, hT⟩
set_option maxRecDepth 20000 in
theorem str_3 {args : Array Value} {s : State} (hn : narrow_1.before args s = true) {A : Nat → Prop} (hA : ∀ a : Nat, a < s.heap.size → ¬ A a) : ∃ a t : Nat, (Term.string "BorrowedStones$LawReader" 81).eval args s none [] s = some (.ref a) ∧ va_O "java/lang/String" a A s s.heap ∧ va_OF "java/lang/String" "coder" "B" (.int 0) a A s s.heap ∧ va_OF "java/lang/String" "value" "[B" (.ref t) a A s s.heap ∧ va_T .byte t 5 (fun j => .int (([108, 101, 97, 115, 116] : List Int32).getD j 0)) A s s.heap := by
  have hex : (Cond.exactly (.string "BorrowedStones$LawReader" 81) "java/lang/String").before args s = true := (and_l (and_l (and_r (and_l (and_l (and_l (and_l (and_r hn))))))))
  have hco : (Cond.eq (.field (.string "BorrowedStones$LawReader" 81) "java/lang/String" "coder" "B") (.int 0)).before args s = true := (and_l (and_r (and_l (and_r (and_l (and_l (and_l (and_l (and_r hn)))))))))
  have har : (Cond.arrayOf (.field (.string "BorrowedStones$LawReader" 81) "java/lang/String" "value" "[B") .byte).before args s = true := (and_r (and_r (and_l (and_r (and_l (and_l (and_l (and_l (and_r hn)))))))))
  have hle : (Cond.eq (.length (.field (.string "BorrowedStones$LawReader" 81) "java/lang/String" "value" "[B")) (.int (Int32.ofNat 5))).before args s = true := (and_l (and_r (and_r (and_l (and_l (and_l (and_l (and_r hn))))))))
  have hel : ∀ j : Nat, j < 5 → (Cond.eq (.elem (.field (.string "BorrowedStones$LawReader" 81) "java/lang/String" "value" "[B") (.int (Int32.ofNat j))) (.int (([108, 101, 97, 115, 116] : List Int32).getD j 0))).before args s = true := fun j hj => by
    rcases (show j = 0 ∨ j = 1 ∨ j = 2 ∨ j = 3 ∨ j = 4 by omega) with rfl | rfl | rfl | rfl | rfl
    · exact (and_l (and_r (and_r (and_r (and_l (and_l (and_l (and_l (and_r hn)))))))))
    · exact (and_r (and_r (and_r (and_r (and_l (and_l (and_l (and_l (and_r hn)))))))))
    · exact (and_l (and_l (and_l (and_r (and_l (and_l (and_l (and_r hn))))))))
    · exact (and_l (and_r (and_l (and_l (and_r (and_l (and_l (and_l (and_r hn)))))))))
    · exact (and_r (and_r (and_l (and_l (and_r (and_l (and_l (and_l (and_r hn)))))))))
  obtain ⟨a, c, cA, kA, q1, q2, q3, q4, q5, q6, -⟩ := Cond.exactly_spec (args := args) (first := s) (o := none) (s := s) (idx := []) hex
  obtain ⟨t, ht, hT⟩ := va_Tof (f := fun j => .int (([108, 101, 97, 115, 116] : List Int32).getD j 0)) (A := A) (by decide) har (va_eqt hle) (fun j hj => va_eqt (hel j hj)) hA
  exact ⟨a, t, q1, ⟨cA, q3, q5, by rw [q6]; exact q2, hA a (Array.getElem?_eq_some_iff.mp q3).1⟩, vk_OFof q1 (va_eqt hco) hA, vk_OFof q1 ht hA, hT⟩
set_option maxRecDepth 20000 in
theorem str_4 {args : Array Value} {s : State} (hn : narrow_1.before args s = true) {A : Nat → Prop} (hA : ∀ a : Nat, a < s.heap.size → ¬ A a) : ∃ a t : Nat, (Term.string "BorrowedStones$LawReader" 90).eval args s none [] s = some (.ref a) ∧ va_O "java/lang/String" a A s s.heap ∧ va_OF "java/lang/String" "coder" "B" (.int 0) a A s s.heap ∧ va_OF "java/lang/String" "value" "[B" (.ref t) a A s s.heap ∧ va_T .byte t 4 (fun j => .int (([109, 111, 115, 116] : List Int32).getD j 0)) A s s.heap := by
  have hex : (Cond.exactly (.string "BorrowedStones$LawReader" 90) "java/lang/String").before args s = true := (and_l (and_r (and_l (and_l (and_r (and_l (and_l (and_r hn))))))))
  have hco : (Cond.eq (.field (.string "BorrowedStones$LawReader" 90) "java/lang/String" "coder" "B") (.int 0)).before args s = true := (and_l (and_r (and_r (and_l (and_l (and_r (and_l (and_l (and_r hn)))))))))
  have har : (Cond.arrayOf (.field (.string "BorrowedStones$LawReader" 90) "java/lang/String" "value" "[B") .byte).before args s = true := (and_r (and_r (and_r (and_l (and_l (and_r (and_l (and_l (and_r hn)))))))))
  have hle : (Cond.eq (.length (.field (.string "BorrowedStones$LawReader" 90) "java/lang/String" "value" "[B")) (.int (Int32.ofNat 4))).before args s = true := (and_l (and_l (and_r (and_l (and_r (and_l (and_l (and_r hn))))))))
  have hel : ∀ j : Nat, j < 4 → (Cond.eq (.elem (.field (.string "BorrowedStones$LawReader" 90) "java/lang/String" "value" "[B") (.int (Int32.ofNat j))) (.int (([109, 111, 115, 116] : List Int32).getD j 0))).before args s = true := fun j hj => by
    rcases (show j = 0 ∨ j = 1 ∨ j = 2 ∨ j = 3 by omega) with rfl | rfl | rfl | rfl
    · exact (and_l (and_r (and_l (and_r (and_l (and_r (and_l (and_l (and_r hn)))))))))
    · exact (and_r (and_r (and_l (and_r (and_l (and_r (and_l (and_l (and_r hn)))))))))
    · exact (and_l (and_r (and_r (and_l (and_r (and_l (and_l (and_r hn))))))))
    · exact (and_l (and_r (and_r (and_r (and_l (and_r (and_l (and_l (and_r hn)))))))))
  obtain ⟨a, c, cA, kA, q1, q2, q3, q4, q5, q6, -⟩ := Cond.exactly_spec (args := args) (first := s) (o := none) (s := s) (idx := []) hex
  obtain ⟨t, ht, hT⟩ := va_Tof (f := fun j => .int (([109, 111, 115, 116] : List Int32).getD j 0)) (A := A) (by decide) har (va_eqt hle) (fun j hj => va_eqt (hel j hj)) hA
  exact ⟨a, t, q1, ⟨cA, q3, q5, by rw [q6]; exact q2, hA a (Array.getElem?_eq_some_iff.mp q3).1⟩, vk_OFof q1 (va_eqt hco) hA, vk_OFof q1 ht hA, hT⟩
set_option maxRecDepth 20000 in
theorem str_5 {args : Array Value} {s : State} (hn : narrow_1.before args s = true) {A : Nat → Prop} (hA : ∀ a : Nat, a < s.heap.size → ¬ A a) : ∃ a t : Nat, (Term.string "BorrowedStones$LawReader" 105).eval args s none [] s = some (.ref a) ∧ va_O "java/lang/String" a A s s.heap ∧ va_OF "java/lang/String" "coder" "B" (.int 0) a A s s.heap ∧ va_OF "java/lang/String" "value" "[B" (.ref t) a A s s.heap ∧ va_T .byte t 4 (fun j => .int (([107, 105, 110, 100] : List Int32).getD j 0)) A s s.heap := by
  have hex : (Cond.exactly (.string "BorrowedStones$LawReader" 105) "java/lang/String").before args s = true := (and_l (and_r (and_r (and_r (and_l (and_r (and_l (and_l hn))))))))
  have hco : (Cond.eq (.field (.string "BorrowedStones$LawReader" 105) "java/lang/String" "coder" "B") (.int 0)).before args s = true := (and_l (and_r (and_r (and_r (and_r (and_l (and_r (and_l (and_l hn)))))))))
  have har : (Cond.arrayOf (.field (.string "BorrowedStones$LawReader" 105) "java/lang/String" "value" "[B") .byte).before args s = true := (and_r (and_r (and_r (and_r (and_r (and_l (and_r (and_l (and_l hn)))))))))
  have hle : (Cond.eq (.length (.field (.string "BorrowedStones$LawReader" 105) "java/lang/String" "value" "[B")) (.int (Int32.ofNat 4))).before args s = true := (and_l (and_l (and_l (and_l (and_r (and_r (and_l (and_l hn))))))))
  have hel : ∀ j : Nat, j < 4 → (Cond.eq (.elem (.field (.string "BorrowedStones$LawReader" 105) "java/lang/String" "value" "[B") (.int (Int32.ofNat j))) (.int (([107, 105, 110, 100] : List Int32).getD j 0))).before args s = true := fun j hj => by
    rcases (show j = 0 ∨ j = 1 ∨ j = 2 ∨ j = 3 by omega) with rfl | rfl | rfl | rfl
    · exact (and_r (and_l (and_l (and_l (and_r (and_r (and_l (and_l hn))))))))
    · exact (and_l (and_r (and_l (and_l (and_r (and_r (and_l (and_l hn))))))))
    · exact (and_l (and_r (and_r (and_l (and_l (and_r (and_r (and_l (and_l hn)))))))))
    · exact (and_r (and_r (and_r (and_l (and_l (and_r (and_r (and_l (and_l hn)))))))))
  obtain ⟨a, c, cA, kA, q1, q2, q3, q4, q5, q6, -⟩ := Cond.exactly_spec (args := args) (first := s) (o := none) (s := s) (idx := []) hex
  obtain ⟨t, ht, hT⟩ := va_Tof (f := fun j => .int (([107, 105, 110, 100] : List Int32).getD j 0)) (A := A) (by decide) har (va_eqt hle) (fun j hj => va_eqt (hel j hj)) hA
  exact ⟨a, t, q1, ⟨cA, q3, q5, by rw [q6]; exact q2, hA a (Array.getElem?_eq_some_iff.mp q3).1⟩, vk_OFof q1 (va_eqt hco) hA, vk_OFof q1 ht hA, hT⟩
set_option maxRecDepth 20000 in
theorem str_6 {args : Array Value} {s : State} (hn : narrow_1.before args s = true) {A : Nat → Prop} (hA : ∀ a : Nat, a < s.heap.size → ¬ A a) : ∃ a t : Nat, (Term.string "BorrowedStones$LawReader" 107).eval args s none [] s = some (.ref a) ∧ va_O "java/lang/String" a A s s.heap ∧ va_OF "java/lang/String" "coder" "B" (.int 0) a A s s.heap ∧ va_OF "java/lang/String" "value" "[B" (.ref t) a A s s.heap ∧ va_T .byte t 5 (fun j => .int (([100, 101, 98, 116, 115] : List Int32).getD j 0)) A s s.heap := by
  have hex : (Cond.exactly (.string "BorrowedStones$LawReader" 107) "java/lang/String").before args s = true := (and_l (and_r (and_r (and_l (and_r (and_r (and_l (and_l hn))))))))
  have hco : (Cond.eq (.field (.string "BorrowedStones$LawReader" 107) "java/lang/String" "coder" "B") (.int 0)).before args s = true := (and_l (and_r (and_r (and_r (and_l (and_r (and_r (and_l (and_l hn)))))))))
  have har : (Cond.arrayOf (.field (.string "BorrowedStones$LawReader" 107) "java/lang/String" "value" "[B") .byte).before args s = true := (and_r (and_r (and_r (and_r (and_l (and_r (and_r (and_l (and_l hn)))))))))
  have hle : (Cond.eq (.length (.field (.string "BorrowedStones$LawReader" 107) "java/lang/String" "value" "[B")) (.int (Int32.ofNat 5))).before args s = true := (and_l (and_l (and_l (and_r (and_r (and_r (and_l (and_l hn))))))))
  have hel : ∀ j : Nat, j < 5 → (Cond.eq (.elem (.field (.string "BorrowedStones$LawReader" 107) "java/lang/String" "value" "[B") (.int (Int32.ofNat j))) (.int (([100, 101, 98, 116, 115] : List Int32).getD j 0))).before args s = true := fun j hj => by
    rcases (show j = 0 ∨ j = 1 ∨ j = 2 ∨ j = 3 ∨ j = 4 by omega) with rfl | rfl | rfl | rfl | rfl
    · exact (and_l (and_r (and_l (and_l (and_r (and_r (and_r (and_l (and_l hn)))))))))
    · exact (and_r (and_r (and_l (and_l (and_r (and_r (and_r (and_l (and_l hn)))))))))
    · exact (and_l (and_r (and_l (and_r (and_r (and_r (and_l (and_l hn))))))))
    · exact (and_l (and_r (and_r (and_l (and_r (and_r (and_r (and_l (and_l hn)))))))))
    · exact (and_r (and_r (and_r (and_l (and_r (and_r (and_r (and_l (and_l hn)))))))))
  obtain ⟨a, c, cA, kA, q1, q2, q3, q4, q5, q6, -⟩ := Cond.exactly_spec (args := args) (first := s) (o := none) (s := s) (idx := []) hex
  obtain ⟨t, ht, hT⟩ := va_Tof (f := fun j => .int (([100, 101, 98, 116, 115] : List Int32).getD j 0)) (A := A) (by decide) har (va_eqt hle) (fun j hj => va_eqt (hel j hj)) hA
  exact ⟨a, t, q1, ⟨cA, q3, q5, by rw [q6]; exact q2, hA a (Array.getElem?_eq_some_iff.mp q3).1⟩, vk_OFof q1 (va_eqt hco) hA, vk_OFof q1 ht hA, hT⟩
set_option maxRecDepth 20000 in
theorem str_7 {args : Array Value} {s : State} (hn : narrow_1.before args s = true) {A : Nat → Prop} (hA : ∀ a : Nat, a < s.heap.size → ¬ A a) : ∃ a t : Nat, (Term.string "BorrowedStones$LawReader" 109).eval args s none [] s = some (.ref a) ∧ va_O "java/lang/String" a A s s.heap ∧ va_OF "java/lang/String" "coder" "B" (.int 0) a A s s.heap ∧ va_OF "java/lang/String" "value" "[B" (.ref t) a A s s.heap ∧ va_T .byte t 6 (fun j => .int (([115, 116, 111, 110, 101, 115] : List Int32).getD j 0)) A s s.heap := by
  have hex : (Cond.exactly (.string "BorrowedStones$LawReader" 109) "java/lang/String").before args s = true := (and_l (and_r (and_r (and_r (and_r (and_r (and_r (and_l (and_l hn)))))))))
  have hco : (Cond.eq (.field (.string "BorrowedStones$LawReader" 109) "java/lang/String" "coder" "B") (.int 0)).before args s = true := (and_r (and_r (and_r (and_r (and_r (and_r (and_r (and_l (and_l hn)))))))))
  have har : (Cond.arrayOf (.field (.string "BorrowedStones$LawReader" 109) "java/lang/String" "value" "[B") .byte).before args s = true := (and_l (and_l (and_l (and_l (and_l (and_l (and_r (and_l hn))))))))
  have hle : (Cond.eq (.length (.field (.string "BorrowedStones$LawReader" 109) "java/lang/String" "value" "[B")) (.int (Int32.ofNat 6))).before args s = true := (and_r (and_l (and_l (and_l (and_l (and_l (and_r (and_l hn))))))))
  have hel : ∀ j : Nat, j < 6 → (Cond.eq (.elem (.field (.string "BorrowedStones$LawReader" 109) "java/lang/String" "value" "[B") (.int (Int32.ofNat j))) (.int (([115, 116, 111, 110, 101, 115] : List Int32).getD j 0))).before args s = true := fun j hj => by
    rcases (show j = 0 ∨ j = 1 ∨ j = 2 ∨ j = 3 ∨ j = 4 ∨ j = 5 by omega) with rfl | rfl | rfl | rfl | rfl | rfl
    · exact (and_l (and_r (and_l (and_l (and_l (and_l (and_r (and_l hn))))))))
    · exact (and_l (and_r (and_r (and_l (and_l (and_l (and_l (and_r (and_l hn)))))))))
    · exact (and_r (and_r (and_r (and_l (and_l (and_l (and_l (and_r (and_l hn)))))))))
    · exact (and_l (and_l (and_r (and_l (and_l (and_l (and_r (and_l hn))))))))
    · exact (and_l (and_r (and_l (and_r (and_l (and_l (and_l (and_r (and_l hn)))))))))
    · exact (and_r (and_r (and_l (and_r (and_l (and_l (and_l (and_r (and_l hn)))))))))
  obtain ⟨a, c, cA, kA, q1, q2, q3, q4, q5, q6, -⟩ := Cond.exactly_spec (args := args) (first := s) (o := none) (s := s) (idx := []) hex
  obtain ⟨t, ht, hT⟩ := va_Tof (f := fun j => .int (([115, 116, 111, 110, 101, 115] : List Int32).getD j 0)) (A := A) (by decide) har (va_eqt hle) (fun j hj => va_eqt (hel j hj)) hA
  exact ⟨a, t, q1, ⟨cA, q3, q5, by rw [q6]; exact q2, hA a (Array.getElem?_eq_some_iff.mp q3).1⟩, vk_OFof q1 (va_eqt hco) hA, vk_OFof q1 ht hA, hT⟩
set_option maxRecDepth 20000 in
theorem str_8 {args : Array Value} {s : State} (hn : narrow_1.before args s = true) {A : Nat → Prop} (hA : ∀ a : Nat, a < s.heap.size → ¬ A a) : ∃ a t : Nat, (Term.string "BorrowedStones$LawReader" 111).eval args s none [] s = some (.ref a) ∧ va_O "java/lang/String" a A s s.heap ∧ va_OF "java/lang/String" "coder" "B" (.int 0) a A s s.heap ∧ va_OF "java/lang/String" "value" "[B" (.ref t) a A s s.heap ∧ va_T .byte t 6 (fun j => .int (([102, 114, 105, 101, 110, 100] : List Int32).getD j 0)) A s s.heap := by
  have hex : (Cond.exactly (.string "BorrowedStones$LawReader" 111) "java/lang/String").before args s = true := (and_r (and_r (and_l (and_l (and_r (and_l (and_l (and_r (and_l hn)))))))))
  have hco : (Cond.eq (.field (.string "BorrowedStones$LawReader" 111) "java/lang/String" "coder" "B") (.int 0)).before args s = true := (and_l (and_r (and_l (and_r (and_l (and_l (and_r (and_l hn))))))))
  have har : (Cond.arrayOf (.field (.string "BorrowedStones$LawReader" 111) "java/lang/String" "value" "[B") .byte).before args s = true := (and_l (and_r (and_r (and_l (and_r (and_l (and_l (and_r (and_l hn)))))))))
  have hle : (Cond.eq (.length (.field (.string "BorrowedStones$LawReader" 111) "java/lang/String" "value" "[B")) (.int (Int32.ofNat 6))).before args s = true := (and_r (and_r (and_r (and_l (and_r (and_l (and_l (and_r (and_l hn)))))))))
  have hel : ∀ j : Nat, j < 6 → (Cond.eq (.elem (.field (.string "BorrowedStones$LawReader" 111) "java/lang/String" "value" "[B") (.int (Int32.ofNat j))) (.int (([102, 114, 105, 101, 110, 100] : List Int32).getD j 0))).before args s = true := fun j hj => by
    rcases (show j = 0 ∨ j = 1 ∨ j = 2 ∨ j = 3 ∨ j = 4 ∨ j = 5 by omega) with rfl | rfl | rfl | rfl | rfl | rfl
    · exact (and_l (and_l (and_r (and_r (and_l (and_l (and_r (and_l hn))))))))
    · exact (and_l (and_r (and_l (and_r (and_r (and_l (and_l (and_r (and_l hn)))))))))
    · exact (and_r (and_r (and_l (and_r (and_r (and_l (and_l (and_r (and_l hn)))))))))
    · exact (and_l (and_r (and_r (and_r (and_l (and_l (and_r (and_l hn))))))))
    · exact (and_l (and_r (and_r (and_r (and_r (and_l (and_l (and_r (and_l hn)))))))))
    · exact (and_r (and_r (and_r (and_r (and_r (and_l (and_l (and_r (and_l hn)))))))))
  obtain ⟨a, c, cA, kA, q1, q2, q3, q4, q5, q6, -⟩ := Cond.exactly_spec (args := args) (first := s) (o := none) (s := s) (idx := []) hex
  obtain ⟨t, ht, hT⟩ := va_Tof (f := fun j => .int (([102, 114, 105, 101, 110, 100] : List Int32).getD j 0)) (A := A) (by decide) har (va_eqt hle) (fun j hj => va_eqt (hel j hj)) hA
  exact ⟨a, t, q1, ⟨cA, q3, q5, by rw [q6]; exact q2, hA a (Array.getElem?_eq_some_iff.mp q3).1⟩, vk_OFof q1 (va_eqt hco) hA, vk_OFof q1 ht hA, hT⟩
set_option maxRecDepth 20000 in
theorem str_9 {args : Array Value} {s : State} (hn : narrow_1.before args s = true) {A : Nat → Prop} (hA : ∀ a : Nat, a < s.heap.size → ¬ A a) : ∃ a t : Nat, (Term.string "BorrowedStones$LawReader" 113).eval args s none [] s = some (.ref a) ∧ va_O "java/lang/String" a A s s.heap ∧ va_OF "java/lang/String" "coder" "B" (.int 0) a A s s.heap ∧ va_OF "java/lang/String" "value" "[B" (.ref t) a A s s.heap ∧ va_T .byte t 4 (fun j => .int (([111, 119, 101, 100] : List Int32).getD j 0)) A s s.heap := by
  have hex : (Cond.exactly (.string "BorrowedStones$LawReader" 113) "java/lang/String").before args s = true := (and_l (and_r (and_l (and_r (and_l (and_r (and_l (and_r (and_l hn)))))))))
  have hco : (Cond.eq (.field (.string "BorrowedStones$LawReader" 113) "java/lang/String" "coder" "B") (.int 0)).before args s = true := (and_r (and_r (and_l (and_r (and_l (and_r (and_l (and_r (and_l hn)))))))))
  have har : (Cond.arrayOf (.field (.string "BorrowedStones$LawReader" 113) "java/lang/String" "value" "[B") .byte).before args s = true := (and_l (and_r (and_r (and_l (and_r (and_l (and_r (and_l hn))))))))
  have hle : (Cond.eq (.length (.field (.string "BorrowedStones$LawReader" 113) "java/lang/String" "value" "[B")) (.int (Int32.ofNat 4))).before args s = true := (and_l (and_r (and_r (and_r (and_l (and_r (and_l (and_r (and_l hn)))))))))
  have hel : ∀ j : Nat, j < 4 → (Cond.eq (.elem (.field (.string "BorrowedStones$LawReader" 113) "java/lang/String" "value" "[B") (.int (Int32.ofNat j))) (.int (([111, 119, 101, 100] : List Int32).getD j 0))).before args s = true := fun j hj => by
    rcases (show j = 0 ∨ j = 1 ∨ j = 2 ∨ j = 3 by omega) with rfl | rfl | rfl | rfl
    · exact (and_r (and_r (and_r (and_r (and_l (and_r (and_l (and_r (and_l hn)))))))))
    · exact (and_l (and_l (and_l (and_r (and_r (and_l (and_r (and_l hn))))))))
    · exact (and_l (and_r (and_l (and_l (and_r (and_r (and_l (and_r (and_l hn)))))))))
    · exact (and_r (and_r (and_l (and_l (and_r (and_r (and_l (and_r (and_l hn)))))))))
  obtain ⟨a, c, cA, kA, q1, q2, q3, q4, q5, q6, -⟩ := Cond.exactly_spec (args := args) (first := s) (o := none) (s := s) (idx := []) hex
  obtain ⟨t, ht, hT⟩ := va_Tof (f := fun j => .int (([111, 119, 101, 100] : List Int32).getD j 0)) (A := A) (by decide) har (va_eqt hle) (fun j hj => va_eqt (hel j hj)) hA
  exact ⟨a, t, q1, ⟨cA, q3, q5, by rw [q6]; exact q2, hA a (Array.getElem?_eq_some_iff.mp q3).1⟩, vk_OFof q1 (va_eqt hco) hA, vk_OFof q1 ht hA, hT⟩
set_option maxRecDepth 20000 in
theorem str_10 {args : Array Value} {s : State} (hn : narrow_1.before args s = true) {A : Nat → Prop} (hA : ∀ a : Nat, a < s.heap.size → ¬ A a) : ∃ a t : Nat, (Term.string "BorrowedStones$LawReader" 115).eval args s none [] s = some (.ref a) ∧ va_O "java/lang/String" a A s s.heap ∧ va_OF "java/lang/String" "coder" "B" (.int 0) a A s s.heap ∧ va_OF "java/lang/String" "value" "[B" (.ref t) a A s s.heap ∧ va_T .byte t 4 (fun j => .int (([100, 101, 97, 100] : List Int32).getD j 0)) A s s.heap := by
  have hex : (Cond.exactly (.string "BorrowedStones$LawReader" 115) "java/lang/String").before args s = true := (and_l (and_r (and_r (and_r (and_r (and_r (and_l (and_r (and_l hn)))))))))
  have hco : (Cond.eq (.field (.string "BorrowedStones$LawReader" 115) "java/lang/String" "coder" "B") (.int 0)).before args s = true := (and_r (and_r (and_r (and_r (and_r (and_r (and_l (and_r (and_l hn)))))))))
  have har : (Cond.arrayOf (.field (.string "BorrowedStones$LawReader" 115) "java/lang/String" "value" "[B") .byte).before args s = true := (and_l (and_l (and_l (and_l (and_l (and_r (and_r (and_l hn))))))))
  have hle : (Cond.eq (.length (.field (.string "BorrowedStones$LawReader" 115) "java/lang/String" "value" "[B")) (.int (Int32.ofNat 4))).before args s = true := (and_r (and_l (and_l (and_l (and_l (and_r (and_r (and_l hn))))))))
  have hel : ∀ j : Nat, j < 4 → (Cond.eq (.elem (.field (.string "BorrowedStones$LawReader" 115) "java/lang/String" "value" "[B") (.int (Int32.ofNat j))) (.int (([100, 101, 97, 100] : List Int32).getD j 0))).before args s = true := fun j hj => by
    rcases (show j = 0 ∨ j = 1 ∨ j = 2 ∨ j = 3 by omega) with rfl | rfl | rfl | rfl
    · exact (and_l (and_r (and_l (and_l (and_l (and_r (and_r (and_l hn))))))))
    · exact (and_l (and_r (and_r (and_l (and_l (and_l (and_r (and_r (and_l hn)))))))))
    · exact (and_r (and_r (and_r (and_l (and_l (and_l (and_r (and_r (and_l hn)))))))))
    · exact (and_l (and_l (and_r (and_l (and_l (and_r (and_r (and_l hn))))))))
  obtain ⟨a, c, cA, kA, q1, q2, q3, q4, q5, q6, -⟩ := Cond.exactly_spec (args := args) (first := s) (o := none) (s := s) (idx := []) hex
  obtain ⟨t, ht, hT⟩ := va_Tof (f := fun j => .int (([100, 101, 97, 100] : List Int32).getD j 0)) (A := A) (by decide) har (va_eqt hle) (fun j hj => va_eqt (hel j hj)) hA
  exact ⟨a, t, q1, ⟨cA, q3, q5, by rw [q6]; exact q2, hA a (Array.getElem?_eq_some_iff.mp q3).1⟩, vk_OFof q1 (va_eqt hco) hA, vk_OFof q1 ht hA, hT⟩
set_option maxRecDepth 20000 in
theorem str_11 {args : Array Value} {s : State} (hn : narrow_1.before args s = true) {A : Nat → Prop} (hA : ∀ a : Nat, a < s.heap.size → ¬ A a) : ∃ a t : Nat, (Term.string "BorrowedStones$LawReader" 117).eval args s none [] s = some (.ref a) ∧ va_O "java/lang/String" a A s s.heap ∧ va_OF "java/lang/String" "coder" "B" (.int 0) a A s s.heap ∧ va_OF "java/lang/String" "value" "[B" (.ref t) a A s s.heap ∧ va_T .byte t 4 (fun j => .int (([121, 101, 97, 114] : List Int32).getD j 0)) A s s.heap := by
  have hex : (Cond.exactly (.string "BorrowedStones$LawReader" 117) "java/lang/String").before args s = true := (and_l (and_r (and_l (and_r (and_l (and_r (and_r (and_l hn))))))))
  have hco : (Cond.eq (.field (.string "BorrowedStones$LawReader" 117) "java/lang/String" "coder" "B") (.int 0)).before args s = true := (and_l (and_r (and_r (and_l (and_r (and_l (and_r (and_r (and_l hn)))))))))
  have har : (Cond.arrayOf (.field (.string "BorrowedStones$LawReader" 117) "java/lang/String" "value" "[B") .byte).before args s = true := (and_r (and_r (and_r (and_l (and_r (and_l (and_r (and_r (and_l hn)))))))))
  have hle : (Cond.eq (.length (.field (.string "BorrowedStones$LawReader" 117) "java/lang/String" "value" "[B")) (.int (Int32.ofNat 4))).before args s = true := (and_l (and_l (and_r (and_r (and_l (and_r (and_r (and_l hn))))))))
  have hel : ∀ j : Nat, j < 4 → (Cond.eq (.elem (.field (.string "BorrowedStones$LawReader" 117) "java/lang/String" "value" "[B") (.int (Int32.ofNat j))) (.int (([121, 101, 97, 114] : List Int32).getD j 0))).before args s = true := fun j hj => by
    rcases (show j = 0 ∨ j = 1 ∨ j = 2 ∨ j = 3 by omega) with rfl | rfl | rfl | rfl
    · exact (and_l (and_r (and_l (and_r (and_r (and_l (and_r (and_r (and_l hn)))))))))
    · exact (and_r (and_r (and_l (and_r (and_r (and_l (and_r (and_r (and_l hn)))))))))
    · exact (and_l (and_r (and_r (and_r (and_l (and_r (and_r (and_l hn))))))))
    · exact (and_l (and_r (and_r (and_r (and_r (and_l (and_r (and_r (and_l hn)))))))))
  obtain ⟨a, c, cA, kA, q1, q2, q3, q4, q5, q6, -⟩ := Cond.exactly_spec (args := args) (first := s) (o := none) (s := s) (idx := []) hex
  obtain ⟨t, ht, hT⟩ := va_Tof (f := fun j => .int (([121, 101, 97, 114] : List Int32).getD j 0)) (A := A) (by decide) har (va_eqt hle) (fun j hj => va_eqt (hel j hj)) hA
  exact ⟨a, t, q1, ⟨cA, q3, q5, by rw [q6]; exact q2, hA a (Array.getElem?_eq_some_iff.mp q3).1⟩, vk_OFof q1 (va_eqt hco) hA, vk_OFof q1 ht hA, hT⟩
set_option maxRecDepth 20000 in
theorem str_12 {args : Array Value} {s : State} (hn : narrow_1.before args s = true) {A : Nat → Prop} (hA : ∀ a : Nat, a < s.heap.size → ¬ A a) : ∃ a t : Nat, (Term.string "BorrowedStones$LawReader" 119).eval args s none [] s = some (.ref a) ∧ va_O "java/lang/String" a A s s.heap ∧ va_OF "java/lang/String" "coder" "B" (.int 0) a A s s.heap ∧ va_OF "java/lang/String" "value" "[B" (.ref t) a A s s.heap ∧ va_T .byte t 6 (fun j => .int (([112, 101, 114, 115, 111, 110] : List Int32).getD j 0)) A s s.heap := by
  have hex : (Cond.exactly (.string "BorrowedStones$LawReader" 119) "java/lang/String").before args s = true := (and_l (and_r (and_r (and_l (and_r (and_r (and_r (and_l hn))))))))
  have hco : (Cond.eq (.field (.string "BorrowedStones$LawReader" 119) "java/lang/String" "coder" "B") (.int 0)).before args s = true := (and_l (and_r (and_r (and_r (and_l (and_r (and_r (and_r (and_l hn)))))))))
  have har : (Cond.arrayOf (.field (.string "BorrowedStones$LawReader" 119) "java/lang/String" "value" "[B") .byte).before args s = true := (and_r (and_r (and_r (and_r (and_l (and_r (and_r (and_r (and_l hn)))))))))
  have hle : (Cond.eq (.length (.field (.string "BorrowedStones$LawReader" 119) "java/lang/String" "value" "[B")) (.int (Int32.ofNat 6))).before args s = true := (and_l (and_l (and_l (and_r (and_r (and_r (and_r (and_l hn))))))))
  have hel : ∀ j : Nat, j < 6 → (Cond.eq (.elem (.field (.string "BorrowedStones$LawReader" 119) "java/lang/String" "value" "[B") (.int (Int32.ofNat j))) (.int (([112, 101, 114, 115, 111, 110] : List Int32).getD j 0))).before args s = true := fun j hj => by
    rcases (show j = 0 ∨ j = 1 ∨ j = 2 ∨ j = 3 ∨ j = 4 ∨ j = 5 by omega) with rfl | rfl | rfl | rfl | rfl | rfl
    · exact (and_l (and_r (and_l (and_l (and_r (and_r (and_r (and_r (and_l hn)))))))))
    · exact (and_r (and_r (and_l (and_l (and_r (and_r (and_r (and_r (and_l hn)))))))))
    · exact (and_l (and_r (and_l (and_r (and_r (and_r (and_r (and_l hn))))))))
    · exact (and_l (and_r (and_r (and_l (and_r (and_r (and_r (and_r (and_l hn)))))))))
    · exact (and_r (and_r (and_r (and_l (and_r (and_r (and_r (and_r (and_l hn)))))))))
    · exact (and_l (and_l (and_r (and_r (and_r (and_r (and_r (and_l hn))))))))
  obtain ⟨a, c, cA, kA, q1, q2, q3, q4, q5, q6, -⟩ := Cond.exactly_spec (args := args) (first := s) (o := none) (s := s) (idx := []) hex
  obtain ⟨t, ht, hT⟩ := va_Tof (f := fun j => .int (([112, 101, 114, 115, 111, 110] : List Int32).getD j 0)) (A := A) (by decide) har (va_eqt hle) (fun j hj => va_eqt (hel j hj)) hA
  exact ⟨a, t, q1, ⟨cA, q3, q5, by rw [q6]; exact q2, hA a (Array.getElem?_eq_some_iff.mp q3).1⟩, vk_OFof q1 (va_eqt hco) hA, vk_OFof q1 ht hA, hT⟩
set_option maxRecDepth 20000 in
theorem str_13 {args : Array Value} {s : State} (hn : narrow_1.before args s = true) {A : Nat → Prop} (hA : ∀ a : Nat, a < s.heap.size → ¬ A a) : ∃ a t : Nat, (Term.string "BorrowedStones$Steps" 68).eval args s none [] s = some (.ref a) ∧ va_O "java/lang/String" a A s s.heap ∧ va_OF "java/lang/String" "coder" "B" (.int 0) a A s s.heap ∧ va_OF "java/lang/String" "value" "[B" (.ref t) a A s s.heap ∧ va_T .byte t 5 (fun j => .int (([97, 103, 97, 105, 110] : List Int32).getD j 0)) A s s.heap := by
  have hex : (Cond.exactly (.string "BorrowedStones$Steps" 68) "java/lang/String").before args s = true := (and_r (and_r (and_r (and_r (and_r (and_r (and_l (and_l (and_r hn)))))))))
  have hco : (Cond.eq (.field (.string "BorrowedStones$Steps" 68) "java/lang/String" "coder" "B") (.int 0)).before args s = true := (and_l (and_l (and_l (and_l (and_l (and_r (and_l (and_r hn))))))))
  have har : (Cond.arrayOf (.field (.string "BorrowedStones$Steps" 68) "java/lang/String" "value" "[B") .byte).before args s = true := (and_r (and_l (and_l (and_l (and_l (and_r (and_l (and_r hn))))))))
  have hle : (Cond.eq (.length (.field (.string "BorrowedStones$Steps" 68) "java/lang/String" "value" "[B")) (.int (Int32.ofNat 5))).before args s = true := (and_l (and_r (and_l (and_l (and_l (and_r (and_l (and_r hn))))))))
  have hel : ∀ j : Nat, j < 5 → (Cond.eq (.elem (.field (.string "BorrowedStones$Steps" 68) "java/lang/String" "value" "[B") (.int (Int32.ofNat j))) (.int (([97, 103, 97, 105, 110] : List Int32).getD j 0))).before args s = true := fun j hj => by
    rcases (show j = 0 ∨ j = 1 ∨ j = 2 ∨ j = 3 ∨ j = 4 by omega) with rfl | rfl | rfl | rfl | rfl
    · exact (and_l (and_r (and_r (and_l (and_l (and_l (and_r (and_l (and_r hn)))))))))
    · exact (and_r (and_r (and_r (and_l (and_l (and_l (and_r (and_l (and_r hn)))))))))
    · exact (and_l (and_l (and_r (and_l (and_l (and_r (and_l (and_r hn))))))))
    · exact (and_l (and_r (and_l (and_r (and_l (and_l (and_r (and_l (and_r hn)))))))))
    · exact (and_r (and_r (and_l (and_r (and_l (and_l (and_r (and_l (and_r hn)))))))))
  obtain ⟨a, c, cA, kA, q1, q2, q3, q4, q5, q6, -⟩ := Cond.exactly_spec (args := args) (first := s) (o := none) (s := s) (idx := []) hex
  obtain ⟨t, ht, hT⟩ := va_Tof (f := fun j => .int (([97, 103, 97, 105, 110] : List Int32).getD j 0)) (A := A) (by decide) har (va_eqt hle) (fun j hj => va_eqt (hel j hj)) hA
  exact ⟨a, t, q1, ⟨cA, q3, q5, by rw [q6]; exact q2, hA a (Array.getElem?_eq_some_iff.mp q3).1⟩, vk_OFof q1 (va_eqt hco) hA, vk_OFof q1 ht hA, hT⟩
set_option maxRecDepth 20000 in
theorem str_14 {args : Array Value} {s : State} (hn : narrow_1.before args s = true) {A : Nat → Prop} (hA : ∀ a : Nat, a < s.heap.size → ¬ A a) : ∃ a t : Nat, (Term.string "BorrowedStones$Steps" 78).eval args s none [] s = some (.ref a) ∧ va_O "java/lang/String" a A s s.heap ∧ va_OF "java/lang/String" "coder" "B" (.int 0) a A s s.heap ∧ va_OF "java/lang/String" "value" "[B" (.ref t) a A s s.heap ∧ va_T .byte t 3 (fun j => .int (([100, 105, 101] : List Int32).getD j 0)) A s s.heap := by
  have hex : (Cond.exactly (.string "BorrowedStones$Steps" 78) "java/lang/String").before args s = true := (and_l (and_r (and_r (and_r (and_r (and_l (and_r (and_l (and_r hn)))))))))
  have hco : (Cond.eq (.field (.string "BorrowedStones$Steps" 78) "java/lang/String" "coder" "B") (.int 0)).before args s = true := (and_r (and_r (and_r (and_r (and_r (and_l (and_r (and_l (and_r hn)))))))))
  have har : (Cond.arrayOf (.field (.string "BorrowedStones$Steps" 78) "java/lang/String" "value" "[B") .byte).before args s = true := (and_l (and_l (and_l (and_l (and_r (and_r (and_l (and_r hn))))))))
  have hle : (Cond.eq (.length (.field (.string "BorrowedStones$Steps" 78) "java/lang/String" "value" "[B")) (.int (Int32.ofNat 3))).before args s = true := (and_r (and_l (and_l (and_l (and_r (and_r (and_l (and_r hn))))))))
  have hel : ∀ j : Nat, j < 3 → (Cond.eq (.elem (.field (.string "BorrowedStones$Steps" 78) "java/lang/String" "value" "[B") (.int (Int32.ofNat j))) (.int (([100, 105, 101] : List Int32).getD j 0))).before args s = true := fun j hj => by
    rcases (show j = 0 ∨ j = 1 ∨ j = 2 by omega) with rfl | rfl | rfl
    · exact (and_l (and_r (and_l (and_l (and_r (and_r (and_l (and_r hn))))))))
    · exact (and_l (and_r (and_r (and_l (and_l (and_r (and_r (and_l (and_r hn)))))))))
    · exact (and_r (and_r (and_r (and_l (and_l (and_r (and_r (and_l (and_r hn)))))))))
  obtain ⟨a, c, cA, kA, q1, q2, q3, q4, q5, q6, -⟩ := Cond.exactly_spec (args := args) (first := s) (o := none) (s := s) (idx := []) hex
  obtain ⟨t, ht, hT⟩ := va_Tof (f := fun j => .int (([100, 105, 101] : List Int32).getD j 0)) (A := A) (by decide) har (va_eqt hle) (fun j hj => va_eqt (hel j hj)) hA
  exact ⟨a, t, q1, ⟨cA, q3, q5, by rw [q6]; exact q2, hA a (Array.getElem?_eq_some_iff.mp q3).1⟩, vk_OFof q1 (va_eqt hco) hA, vk_OFof q1 ht hA, hT⟩
set_option maxRecDepth 20000 in
theorem str_15 {args : Array Value} {s : State} (hn : narrow_1.before args s = true) {A : Nat → Prop} (hA : ∀ a : Nat, a < s.heap.size → ¬ A a) : ∃ a t : Nat, (Term.string "BorrowedStones$Steps" 88).eval args s none [] s = some (.ref a) ∧ va_O "java/lang/String" a A s s.heap ∧ va_OF "java/lang/String" "coder" "B" (.int 0) a A s s.heap ∧ va_OF "java/lang/String" "value" "[B" (.ref t) a A s s.heap ∧ va_T .byte t 4 (fun j => .int (([108, 101, 110, 100] : List Int32).getD j 0)) A s s.heap := by
  have hex : (Cond.exactly (.string "BorrowedStones$Steps" 88) "java/lang/String").before args s = true := (and_r (and_r (and_l (and_r (and_r (and_r (and_r (and_l (and_r hn)))))))))
  have hco : (Cond.eq (.field (.string "BorrowedStones$Steps" 88) "java/lang/String" "coder" "B") (.int 0)).before args s = true := (and_l (and_r (and_r (and_r (and_r (and_r (and_l (and_r hn))))))))
  have har : (Cond.arrayOf (.field (.string "BorrowedStones$Steps" 88) "java/lang/String" "value" "[B") .byte).before args s = true := (and_l (and_r (and_r (and_r (and_r (and_r (and_r (and_l (and_r hn)))))))))
  have hle : (Cond.eq (.length (.field (.string "BorrowedStones$Steps" 88) "java/lang/String" "value" "[B")) (.int (Int32.ofNat 4))).before args s = true := (and_r (and_r (and_r (and_r (and_r (and_r (and_r (and_l (and_r hn)))))))))
  have hel : ∀ j : Nat, j < 4 → (Cond.eq (.elem (.field (.string "BorrowedStones$Steps" 88) "java/lang/String" "value" "[B") (.int (Int32.ofNat j))) (.int (([108, 101, 110, 100] : List Int32).getD j 0))).before args s = true := fun j hj => by
    rcases (show j = 0 ∨ j = 1 ∨ j = 2 ∨ j = 3 by omega) with rfl | rfl | rfl | rfl
    · exact (and_l (and_l (and_l (and_l (and_l (and_l (and_r (and_r hn))))))))
    · exact (and_r (and_l (and_l (and_l (and_l (and_l (and_r (and_r hn))))))))
    · exact (and_l (and_r (and_l (and_l (and_l (and_l (and_r (and_r hn))))))))
    · exact (and_l (and_r (and_r (and_l (and_l (and_l (and_l (and_r (and_r hn)))))))))
  obtain ⟨a, c, cA, kA, q1, q2, q3, q4, q5, q6, -⟩ := Cond.exactly_spec (args := args) (first := s) (o := none) (s := s) (idx := []) hex
  obtain ⟨t, ht, hT⟩ := va_Tof (f := fun j => .int (([108, 101, 110, 100] : List Int32).getD j 0)) (A := A) (by decide) har (va_eqt hle) (fun j hj => va_eqt (hel j hj)) hA
  exact ⟨a, t, q1, ⟨cA, q3, q5, by rw [q6]; exact q2, hA a (Array.getElem?_eq_some_iff.mp q3).1⟩, vk_OFof q1 (va_eqt hco) hA, vk_OFof q1 ht hA, hT⟩
set_option maxRecDepth 20000 in
theorem str_16 {args : Array Value} {s : State} (hn : narrow_1.before args s = true) {A : Nat → Prop} (hA : ∀ a : Nat, a < s.heap.size → ¬ A a) : ∃ a t : Nat, (Term.string "BorrowedStones$Steps" 90).eval args s none [] s = some (.ref a) ∧ va_O "java/lang/String" a A s s.heap ∧ va_OF "java/lang/String" "coder" "B" (.int 0) a A s s.heap ∧ va_OF "java/lang/String" "value" "[B" (.ref t) a A s s.heap ∧ va_T .byte t 3 (fun j => .int (([112, 97, 121] : List Int32).getD j 0)) A s s.heap := by
  have hex : (Cond.exactly (.string "BorrowedStones$Steps" 90) "java/lang/String").before args s = true := (and_r (and_r (and_l (and_r (and_r (and_l (and_l (and_r (and_r hn)))))))))
  have hco : (Cond.eq (.field (.string "BorrowedStones$Steps" 90) "java/lang/String" "coder" "B") (.int 0)).before args s = true := (and_l (and_r (and_r (and_r (and_l (and_l (and_r (and_r hn))))))))
  have har : (Cond.arrayOf (.field (.string "BorrowedStones$Steps" 90) "java/lang/String" "value" "[B") .byte).before args s = true := (and_l (and_r (and_r (and_r (and_r (and_l (and_l (and_r (and_r hn)))))))))
  have hle : (Cond.eq (.length (.field (.string "BorrowedStones$Steps" 90) "java/lang/String" "value" "[B")) (.int (Int32.ofNat 3))).before args s = true := (and_r (and_r (and_r (and_r (and_r (and_l (and_l (and_r (and_r hn)))))))))
  have hel : ∀ j : Nat, j < 3 → (Cond.eq (.elem (.field (.string "BorrowedStones$Steps" 90) "java/lang/String" "value" "[B") (.int (Int32.ofNat j))) (.int (([112, 97, 121] : List Int32).getD j 0))).before args s = true := fun j hj => by
    rcases (show j = 0 ∨ j = 1 ∨ j = 2 by omega) with rfl | rfl | rfl
    · exact (and_l (and_l (and_l (and_l (and_r (and_l (and_r (and_r hn))))))))
    · exact (and_r (and_l (and_l (and_l (and_r (and_l (and_r (and_r hn))))))))
    · exact (and_l (and_r (and_l (and_l (and_r (and_l (and_r (and_r hn))))))))
  obtain ⟨a, c, cA, kA, q1, q2, q3, q4, q5, q6, -⟩ := Cond.exactly_spec (args := args) (first := s) (o := none) (s := s) (idx := []) hex
  obtain ⟨t, ht, hT⟩ := va_Tof (f := fun j => .int (([112, 97, 121] : List Int32).getD j 0)) (A := A) (by decide) har (va_eqt hle) (fun j hj => va_eqt (hel j hj)) hA
  exact ⟨a, t, q1, ⟨cA, q3, q5, by rw [q6]; exact q2, hA a (Array.getElem?_eq_some_iff.mp q3).1⟩, vk_OFof q1 (va_eqt hco) hA, vk_OFof q1 ht hA, hT⟩
set_option maxRecDepth 20000 in
theorem str_17 {args : Array Value} {s : State} (hn : narrow_1.before args s = true) {A : Nat → Prop} (hA : ∀ a : Nat, a < s.heap.size → ¬ A a) : ∃ a t : Nat, (Term.string "BorrowedStones$Steps" 92).eval args s none [] s = some (.ref a) ∧ va_O "java/lang/String" a A s s.heap ∧ va_OF "java/lang/String" "coder" "B" (.int 0) a A s s.heap ∧ va_OF "java/lang/String" "value" "[B" (.ref t) a A s s.heap ∧ va_T .byte t 3 (fun j => .int (([111, 119, 101] : List Int32).getD j 0)) A s s.heap := by
  have hex : (Cond.exactly (.string "BorrowedStones$Steps" 92) "java/lang/String").before args s = true := (and_r (and_r (and_l (and_r (and_r (and_r (and_l (and_r (and_r hn)))))))))
  have hco : (Cond.eq (.field (.string "BorrowedStones$Steps" 92) "java/lang/String" "coder" "B") (.int 0)).before args s = true := (and_l (and_r (and_r (and_r (and_r (and_l (and_r (and_r hn))))))))
  have har : (Cond.arrayOf (.field (.string "BorrowedStones$Steps" 92) "java/lang/String" "value" "[B") .byte).before args s = true := (and_l (and_r (and_r (and_r (and_r (and_r (and_l (and_r (and_r hn)))))))))
  have hle : (Cond.eq (.length (.field (.string "BorrowedStones$Steps" 92) "java/lang/String" "value" "[B")) (.int (Int32.ofNat 3))).before args s = true := (and_r (and_r (and_r (and_r (and_r (and_r (and_l (and_r (and_r hn)))))))))
  have hel : ∀ j : Nat, j < 3 → (Cond.eq (.elem (.field (.string "BorrowedStones$Steps" 92) "java/lang/String" "value" "[B") (.int (Int32.ofNat j))) (.int (([111, 119, 101] : List Int32).getD j 0))).before args s = true := fun j hj => by
    rcases (show j = 0 ∨ j = 1 ∨ j = 2 by omega) with rfl | rfl | rfl
    · exact (and_l (and_l (and_l (and_l (and_l (and_r (and_r (and_r hn))))))))
    · exact (and_r (and_l (and_l (and_l (and_l (and_r (and_r (and_r hn))))))))
    · exact (and_l (and_r (and_l (and_l (and_l (and_r (and_r (and_r hn))))))))
  obtain ⟨a, c, cA, kA, q1, q2, q3, q4, q5, q6, -⟩ := Cond.exactly_spec (args := args) (first := s) (o := none) (s := s) (idx := []) hex
  obtain ⟨t, ht, hT⟩ := va_Tof (f := fun j => .int (([111, 119, 101] : List Int32).getD j 0)) (A := A) (by decide) har (va_eqt hle) (fun j hj => va_eqt (hel j hj)) hA
  exact ⟨a, t, q1, ⟨cA, q3, q5, by rw [q6]; exact q2, hA a (Array.getElem?_eq_some_iff.mp q3).1⟩, vk_OFof q1 (va_eqt hco) hA, vk_OFof q1 ht hA, hT⟩
set_option maxRecDepth 20000 in
theorem str_18 {args : Array Value} {s : State} (hn : narrow_1.before args s = true) {A : Nat → Prop} (hA : ∀ a : Nat, a < s.heap.size → ¬ A a) : ∃ a t : Nat, (Term.string "BorrowedStones$Steps" 94).eval args s none [] s = some (.ref a) ∧ va_O "java/lang/String" a A s s.heap ∧ va_OF "java/lang/String" "coder" "B" (.int 0) a A s s.heap ∧ va_OF "java/lang/String" "value" "[B" (.ref t) a A s s.heap ∧ va_T .byte t 4 (fun j => .int (([121, 101, 97, 114] : List Int32).getD j 0)) A s s.heap := by
  have hex : (Cond.exactly (.string "BorrowedStones$Steps" 94) "java/lang/String").before args s = true := (and_l (and_r (and_r (and_r (and_l (and_r (and_r (and_r hn))))))))
  have hco : (Cond.eq (.field (.string "BorrowedStones$Steps" 94) "java/lang/String" "coder" "B") (.int 0)).before args s = true := (and_l (and_r (and_r (and_r (and_r (and_l (and_r (and_r (and_r hn)))))))))
  have har : (Cond.arrayOf (.field (.string "BorrowedStones$Steps" 94) "java/lang/String" "value" "[B") .byte).before args s = true := (and_r (and_r (and_r (and_r (and_r (and_l (and_r (and_r (and_r hn)))))))))
  have hle : (Cond.eq (.length (.field (.string "BorrowedStones$Steps" 94) "java/lang/String" "value" "[B")) (.int (Int32.ofNat 4))).before args s = true := (and_l (and_l (and_l (and_l (and_r (and_r (and_r (and_r hn))))))))
  have hel : ∀ j : Nat, j < 4 → (Cond.eq (.elem (.field (.string "BorrowedStones$Steps" 94) "java/lang/String" "value" "[B") (.int (Int32.ofNat j))) (.int (([121, 101, 97, 114] : List Int32).getD j 0))).before args s = true := fun j hj => by
    rcases (show j = 0 ∨ j = 1 ∨ j = 2 ∨ j = 3 by omega) with rfl | rfl | rfl | rfl
    · exact (and_r (and_l (and_l (and_l (and_r (and_r (and_r (and_r hn))))))))
    · exact (and_l (and_r (and_l (and_l (and_r (and_r (and_r (and_r hn))))))))
    · exact (and_l (and_r (and_r (and_l (and_l (and_r (and_r (and_r (and_r hn)))))))))
    · exact (and_r (and_r (and_r (and_l (and_l (and_r (and_r (and_r (and_r hn)))))))))
  obtain ⟨a, c, cA, kA, q1, q2, q3, q4, q5, q6, -⟩ := Cond.exactly_spec (args := args) (first := s) (o := none) (s := s) (idx := []) hex
  obtain ⟨t, ht, hT⟩ := va_Tof (f := fun j => .int (([121, 101, 97, 114] : List Int32).getD j 0)) (A := A) (by decide) har (va_eqt hle) (fun j hj => va_eqt (hel j hj)) hA
  exact ⟨a, t, q1, ⟨cA, q3, q5, by rw [q6]; exact q2, hA a (Array.getElem?_eq_some_iff.mp q3).1⟩, vk_OFof q1 (va_eqt hco) hA, vk_OFof q1 ht hA, hT⟩
set_option maxRecDepth 100000 in
theorem evX_of {args : Array Value} {s : State} (hn : narrow_1.before args s = true) (hts : ∀ w ∈ lw_tbl, w.before args s = true) {A : Nat → Prop} (hA : ∀ a : Nat, a < s.heap.size → ¬ A a) : ∃ sK sV : Nat → Nat, evX sK sV A s s.heap := by
  obtain ⟨a0, t0, e0, h0⟩ := str_0 hn hA
  obtain ⟨a1, t1, e1, h1⟩ := str_1 hn hA
  obtain ⟨a2, t2, e2, h2⟩ := str_2 hn hA
  obtain ⟨a3, t3, e3, h3⟩ := str_3 hn hA
  obtain ⟨a4, t4, e4, h4⟩ := str_4 hn hA
  obtain ⟨a5, t5, e5, h5⟩ := str_5 hn hA
  obtain ⟨a6, t6, e6, h6⟩ := str_6 hn hA
  obtain ⟨a7, t7, e7, h7⟩ := str_7 hn hA
  obtain ⟨a8, t8, e8, h8⟩ := str_8 hn hA
  obtain ⟨a9, t9, e9, h9⟩ := str_9 hn hA
  obtain ⟨a10, t10, e10, h10⟩ := str_10 hn hA
  obtain ⟨a11, t11, e11, h11⟩ := str_11 hn hA
  obtain ⟨a12, t12, e12, h12⟩ := str_12 hn hA
  obtain ⟨a13, t13, e13, h13⟩ := str_13 hn hA
  obtain ⟨a14, t14, e14, h14⟩ := str_14 hn hA
  obtain ⟨a15, t15, e15, h15⟩ := str_15 hn hA
  obtain ⟨a16, t16, e16, h16⟩ := str_16 hn hA
  obtain ⟨a17, t17, e17, h17⟩ := str_17 hn hA
  obtain ⟨a18, t18, e18, h18⟩ := str_18 hn hA
  refine ⟨fun i => [a0, a1, a2, a3, a4, a5, a6, a7, a8, a9, a10, a11, a12, a13, a14, a15, a16, a17, a18].getD i 0, fun i => [t0, t1, t2, t3, t4, t5, t6, t7, t8, t9, t10, t11, t12, t13, t14, t15, t16, t17, t18].getD i 0, ?_⟩
  have g1 := vx_Zqof (hts _ (inT3 (List.mem_of_getElem? (i := 19) rfl))) (hts _ (inT1 (List.mem_of_getElem? (i := 14) rfl))) (and_l (and_r (and_l (and_l (and_l (and_l (and_l (and_l hn)))))))) hA
  have g2 := vx_Zqof (hts _ (inT3 (List.mem_of_getElem? (i := 21) rfl))) (hts _ (inT1 (List.mem_of_getElem? (i := 14) rfl))) (and_l (and_r (and_r (and_l (and_l (and_l (and_l (and_l (and_l hn))))))))) hA
  have g3 : va_Z "java/lang/String" "COMPACT_STRINGS" "Z" (.int 1) A s s.heap := va_Zof (hts _ (inT3 (List.mem_of_getElem? (i := 96) rfl))) (hts _ (inT1 (List.mem_of_getElem? (i := 18) rfl))) (va_eqt (and_r (and_r (and_r (and_l (and_l (and_l (and_l (and_l (and_l hn)))))))))) hA
  have g4 := va_Zqof (hts _ (inT3 (List.mem_of_getElem? (i := 112) rfl))) (hts _ (inT1 (List.mem_of_getElem? (i := 20) rfl))) (and_l (and_l (and_r (and_l (and_l (and_l (and_l (and_l hn)))))))) hA
  refine ⟨g1, g2, g3, fun i hi => ?_, fun i q hq => ?_, va_Nw.of rfl (hts _ (inT2 (List.mem_of_getElem? (i := 234) rfl))), va_Nw.of rfl (hts _ (inT4 (List.mem_of_getElem? (i := 230) rfl))), va_Nw.of rfl (hts _ (inT2 (List.mem_of_getElem? (i := 235) rfl))), va_Nw.of rfl (hts _ (inT2 (List.mem_of_getElem? (i := 237) rfl))), va_Nw.of rfl (hts _ (inT2 (List.mem_of_getElem? (i := 239) rfl))), g4⟩
  · rcases (show i = 0 ∨ i = 1 ∨ i = 2 ∨ i = 3 ∨ i = 4 ∨ i = 5 ∨ i = 6 ∨ i = 7 ∨ i = 8 ∨ i = 9 ∨ i = 10 ∨ i = 11 ∨ i = 12 ∨ i = 13 ∨ i = 14 ∨ i = 15 ∨ i = 16 ∨ i = 17 ∨ i = 18 by unfold nStr at hi; omega) with rfl | rfl | rfl | rfl | rfl | rfl | rfl | rfl | rfl | rfl | rfl | rfl | rfl | rfl | rfl | rfl | rfl | rfl | rfl
    · exact h0
    · exact h1
    · exact h2
    · exact h3
    · exact h4
    · exact h5
    · exact h6
    · exact h7
    · exact h8
    · exact h9
    · exact h10
    · exact h11
    · exact h12
    · exact h13
    · exact h14
    · exact h15
    · exact h16
    · exact h17
    · exact h18
  · have hi : i < 19 := (List.getElem?_eq_some_iff.mp hq).1
    rcases (show i = 0 ∨ i = 1 ∨ i = 2 ∨ i = 3 ∨ i = 4 ∨ i = 5 ∨ i = 6 ∨ i = 7 ∨ i = 8 ∨ i = 9 ∨ i = 10 ∨ i = 11 ∨ i = 12 ∨ i = 13 ∨ i = 14 ∨ i = 15 ∨ i = 16 ∨ i = 17 ∨ i = 18 by omega) with rfl | rfl | rfl | rfl | rfl | rfl | rfl | rfl | rfl | rfl | rfl | rfl | rfl | rfl | rfl | rfl | rfl | rfl | rfl
    · cases hq; exact vk_R.of (hts _ (inT3 (List.mem_of_getElem? (i := 82) rfl))) e0
    · cases hq; exact vk_R.of (hts _ (inT3 (List.mem_of_getElem? (i := 135) rfl))) e1
    · cases hq; exact vk_R.of (hts _ (inT3 (List.mem_of_getElem? (i := 136) rfl))) e2
    · cases hq; exact vk_R.of (hts _ (inT3 (List.mem_of_getElem? (i := 237) rfl))) e3
    · cases hq; exact vk_R.of (hts _ (inT3 (List.mem_of_getElem? (i := 238) rfl))) e4
    · cases hq; exact vk_R.of (hts _ (inT3 (List.mem_of_getElem? (i := 228) rfl))) e5
    · cases hq; exact vk_R.of (hts _ (inT3 (List.mem_of_getElem? (i := 230) rfl))) e6
    · cases hq; exact vk_R.of (hts _ (inT3 (List.mem_of_getElem? (i := 231) rfl))) e7
    · cases hq; exact vk_R.of (hts _ (inT3 (List.mem_of_getElem? (i := 232) rfl))) e8
    · cases hq; exact vk_R.of (hts _ (inT3 (List.mem_of_getElem? (i := 233) rfl))) e9
    · cases hq; exact vk_R.of (hts _ (inT3 (List.mem_of_getElem? (i := 234) rfl))) e10
    · cases hq; exact vk_R.of (hts _ (inT3 (List.mem_of_getElem? (i := 235) rfl))) e11
    · cases hq; exact vk_R.of (hts _ (inT3 (List.mem_of_getElem? (i := 236) rfl))) e12
    · cases hq; exact vk_R.of (hts _ (inT4 (List.mem_of_getElem? (i := 51) rfl))) e13
    · cases hq; exact vk_R.of (hts _ (inT4 (List.mem_of_getElem? (i := 59) rfl))) e14
    · cases hq; exact vk_R.of (hts _ (inT4 (List.mem_of_getElem? (i := 60) rfl))) e15
    · cases hq; exact vk_R.of (hts _ (inT4 (List.mem_of_getElem? (i := 61) rfl))) e16
    · cases hq; exact vk_R.of (hts _ (inT4 (List.mem_of_getElem? (i := 62) rfl))) e17
    · cases hq; exact vk_R.of (hts _ (inT4 (List.mem_of_getElem? (i := 63) rfl))) e18
