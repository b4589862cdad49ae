/-! THE LAW'S WALK, over any simulation of the class by the reference -/
theorem TM_kV {own C0 : String} {idx maxL n : Nat} {y : MethodName} {cy : ByteArray} {ret : Option FieldType} (h1 : Cond.methodLink own idx y ∈ lw_tbl) (h2 : Cond.instanceMethod y ∈ lw_tbl) (h3 : Cond.selects C0 y y ∈ lw_tbl) (h4 : Cond.initialized C0 ∈ lw_tbl) (h5 : Cond.code y cy maxL ret ∈ lw_tbl) (hd : y.cls = C0 ∧ y.cls ≠ "java/lang/invoke/MethodHandle" ∧ y.cls ≠ "java/lang/invoke/VarHandle" ∧ (parseMethodDescriptor y.desc).map (fun d => d.parameters.length) = some n) {B : List Cond} (hB : ∀ w ∈ B, w ∈ lw_tbl) (hg : B.all goodWord = true) : kV lw_tbl own C0 idx y cy maxL n ret (.code y cy maxL ret :: B) := by
  refine ⟨fun w hw => ?_, ⟨_, rfl⟩, hd⟩
  unfold wsV at hw
  rcases List.mem_append.mp hw with hw | hw
  · simp only [List.mem_cons, List.not_mem_nil, or_false] at hw
    rcases hw with rfl | rfl | rfl | rfl
    · exact ⟨h1, Or.inl rfl⟩
    · exact ⟨h2, Or.inl rfl⟩
    · exact ⟨h3, Or.inl rfl⟩
    · exact ⟨h4, Or.inl rfl⟩
  · rcases List.mem_cons.mp hw with rfl | hw
    · exact ⟨h5, Or.inl rfl⟩
    · exact ⟨hB _ hw, good_of_word (List.all_eq_true.mp hg w hw)⟩
theorem TL_gi {own : String} {idx maxL : Nat} {y : MethodName} {cy : ByteArray} {ret : Option FieldType} {hh : List (Nat × Nat × Nat × Nat)} (h1 : Cond.methodLink own idx y ∈ lw_tbl) (h2 : Cond.static y ∈ lw_tbl) (h4 : Cond.initialized y.cls ∈ lw_tbl) (h5 : Cond.codeWith y cy maxL ret hh ∈ lw_tbl) : GoodIn lw_tbl (va_wsS own idx y (.codeWith y cy maxL ret hh :: BL)) := fun w hw => by
  unfold va_wsS at hw
  rcases List.mem_append.mp hw with hw | hw
  · simp only [List.mem_cons, List.not_mem_nil, or_false] at hw
    rcases hw with rfl | rfl | rfl
    · exact ⟨h1, Or.inl rfl⟩
    · exact ⟨h2, Or.inl rfl⟩
    · exact ⟨h4, Or.inl rfl⟩
  · rcases List.mem_cons.mp hw with rfl | hw
    · exact ⟨h5, Or.inl rfl⟩
    · exact ⟨BL_in _ hw, good_of_word (List.all_eq_true.mp BL_good w hw)⟩
theorem kcd_one {kd k : Nat} {s t : Int32} (h1 : kcd kd k s) (h2 : kcd kd k t) : t = s ∧ s ≠ 0 := by
  match kd, h1, h2 with
  | 0, ⟨_, e1⟩, ⟨_, e2⟩ => subst e1 e2; exact ⟨rfl, by decide⟩
  | 1, ⟨_, e1⟩, ⟨_, e2⟩ => subst e1 e2; exact ⟨rfl, by decide⟩
  | _ + 2, h1, h2 =>
    rcases h1 with ⟨a, e1⟩ | ⟨a, e1⟩ <;> rcases h2 with ⟨b, e2⟩ | ⟨b, e2⟩
    · subst e1 e2; exact ⟨rfl, by decide⟩
    · omega
    · omega
    · subst e1 e2; exact ⟨rfl, by decide⟩
/-- what an answer of the class says against the reference's: its value and its mark of a throw -/
def simR {α : Type} (kd : Nat) (e : Nat ⊕ α) (v : α) (t : Int32) : Prop := (∃ w, e = .inr w ∧ t = 0 ∧ w = v) ∨ ∃ k, e = .inl k ∧ kcd kd k t
theorem simR_hk {α : Type} {kd : Nat} {e : Nat ⊕ α} {v : α} {t : Int32} (h : simR kd e v t) : ∀ k, e = .inl k → ∃ t, kcd kd k t := fun k hk => by
  rcases h with ⟨w, h, -⟩ | ⟨k2, h, h2⟩
  · rw [hk] at h; cases h
  · rw [hk] at h; cases h; exact ⟨t, h2⟩
theorem use_I {kd : Nat} {e : Nat ⊕ Int32} {v t r : Int32} {u : Nat → Int64} (h : simR kd e v t) (g : lwI kd e r u) : t = r ∧ (r = 0 → u 0 = v.toInt64) := by
  rcases h with ⟨w, h, h1, h2⟩ | ⟨k, h, h1⟩ <;> rcases g with ⟨w2, g, g1, g2⟩ | ⟨k2, g, g1⟩
  · rw [h] at g; cases g; subst h1 h2 g1; exact ⟨rfl, fun _ => g2⟩
  · rw [h] at g; cases g
  · rw [h] at g; cases g
  · rw [h] at g; cases g; exact ⟨(kcd_one g1 h1).1, fun e => absurd e (kcd_one g1 h1).2⟩
theorem use_Z {kd : Nat} {e : Nat ⊕ Int32} {v t r : Int32} {u : Nat → Int64} (h : simR kd e v t) (g : lwZ kd e r u) : t = r ∧ (r = 0 → u 0 = if v = 0 then 0 else 1) := by
  rcases h with ⟨w, h, h1, h2⟩ | ⟨k, h, h1⟩ <;> rcases g with ⟨w2, g, g1, g2⟩ | ⟨k2, g, g1⟩
  · rw [h] at g; cases g; subst h1 h2 g1; exact ⟨rfl, fun _ => g2⟩
  · rw [h] at g; cases g
  · rw [h] at g; cases g
  · rw [h] at g; cases g; exact ⟨(kcd_one g1 h1).1, fun e => absurd e (kcd_one g1 h1).2⟩
theorem use_L {kd : Nat} {e : Nat ⊕ Int64} {v : Int64} {t r : Int32} {u : Nat → Int64} (h : simR kd e v t) (g : lwL kd e r u) : t = r ∧ (r = 0 → u 0 = v) := by
  rcases h with ⟨w, h, h1, h2⟩ | ⟨k, h, h1⟩ <;> rcases g with ⟨w2, g, g1, g2⟩ | ⟨k2, g, g1⟩
  · rw [h] at g; cases g; subst h1 h2 g1; exact ⟨rfl, fun _ => g2⟩
  · rw [h] at g; cases g
  · rw [h] at g; cases g
  · rw [h] at g; cases g; exact ⟨(kcd_one g1 h1).1, fun e => absurd e (kcd_one g1 h1).2⟩
theorem lgc0 {u v : Int64} (h : u = v) : lg_cmp u v = 0 := by
  subst h
  unfold lg_cmp
  simp
abbrev Rel : Type := St → Sl → St → Sl → Prop
def Sim_feed (R : Rel) : Prop := ∀ (gX : St) (xX : Sl) (gM : St) (xM : Sl) (x1 : Int32) (x2 : Int32) (x3 : Int32) (x4 : Int32) (x5 : Int32), R gX xX gM xM → ∃ oX oM, fX_feed x1 x2 x3 x4 x5 gX = some oX ∧ fM_feed x1 x2 x3 x4 x5 gM = some oM ∧ R oX.2 xX oM.2 xM ∧ oX.1 = oM.1
def Sim_peninsula (R : Rel) : Prop := ∀ (gX : St) (xX : Sl) (gM : St) (xM : Sl) (x1 : Int32), R gX xX gM xM → ∃ oX oM, fX_peninsula x1 gX = some oX ∧ fM_peninsula x1 gM = some oM ∧ R oX.2 xX oM.2 xM ∧ simR 1 oX.1 oM.1 (oM.2 0 0)
def Sim_law (R : Rel) : Prop := ∀ (gX : St) (xX : Sl) (gM : St) (xM : Sl) (x1 : Int32), R gX xX gM xM → ∃ oX oM, fX_law x1 gX = some oX ∧ fM_law x1 gM = some oM ∧ R oX.2 xX oM.2 xM ∧ simR 1 oX.1 oM.1 (oM.2 0 0)
def Sim_work (R : Rel) : Prop := ∀ (gX : St) (xX : Sl) (gM : St) (xM : Sl) (x1 : Int32), R gX xX gM xM → ∃ oX oM, fX_work x1 gX = some oX ∧ fM_work x1 gM = some oM ∧ R oX.2 xX oM.2 xM ∧ simR 1 oX.1 oM.1 (oM.2 0 0)
def Sim_book (R : Rel) : Prop := ∀ (gX : St) (xX : Sl) (gM : St) (xM : Sl) (x1 : Int32), R gX xX gM xM → ∃ oX oM, fX_book x1 gX = some oX ∧ fM_book x1 gM = some oM ∧ R oX.2 xX oM.2 xM ∧ simR 1 oX.1 oM.1 (oM.2 0 0)
def Sim_fault (R : Rel) : Prop := ∀ (gX : St) (xX : Sl) (gM : St) (xM : Sl), R gX xX gM xM → ∃ oX oM, fX_fault gX = oX ∧ fM_fault gM = oM ∧ R gX xX oM.2 xM ∧ oX = oM.1
def Sim_undo (R : Rel) : Prop := ∀ (gX : St) (xX : Sl) (gM : St) (xM : Sl), R gX xX gM xM → ∃ oX oM, fX_undo gX = some oX ∧ fM_undo gM = some oM ∧ R oX.2 xX oM.2 xM ∧ oX.1 = oM.1
def Sim_told (R : Rel) : Prop := ∀ (gX : St) (xX : Sl) (gM : St) (xM : Sl) (x1 : Int32), R gX xX gM xM → ∃ oX oM, fX_told x1 gX = some oX ∧ fM_told x1 gM = some oM ∧ R oX.2 xX oM.2 xM ∧ simR 1 oX.1 oM.1 (oM.2 0 0)
def Sim_person (R : Rel) : Prop := ∀ (gX : St) (xX : Sl) (gM : St) (xM : Sl) (x1 : Int32) (x2 : Int32), R gX xX gM xM → ∃ oX oM, fX_person x1 x2 gX = some oX ∧ fM_person x1 x2 gM = some oM ∧ R oX.2 xX oM.2 xM ∧ simR 2 oX.1 oM.1 (oM.2 0 0)
def Sim_will (R : Rel) : Prop := ∀ (gX : St) (xX : Sl) (gM : St) (xM : Sl) (x1 : Int32) (x2 : Int32), R gX xX gM xM → ∃ oX oM, fX_will x1 x2 gX = some oX ∧ fM_will x1 x2 gM = some oM ∧ R oX.2 xX oM.2 xM ∧ simR 0 oX.1 oM.1 (oM.2 0 0)
def Sim_lends (R : Rel) : Prop := ∀ (gX : St) (xX : Sl) (gM : St) (xM : Sl) (x1 : Int32) (x2 : Int32), R gX xX gM xM → ∃ oX oM, fX_lends x1 x2 gX = some oX ∧ fM_lends x1 x2 gM = some oM ∧ R oX.2 xX oM.2 xM ∧ simR 0 oX.1 oM.1 (oM.2 0 0)
def Sim_would (R : Rel) : Prop := ∀ (gX : St) (xX : Sl) (gM : St) (xM : Sl) (x1 : Int32) (x2 : Int32) (x3 : Int32) (x4 : Int32) (x5 : Int32) (x6 : Int32) (x7 : Int32) (x8 : Int32), R gX xX gM xM → ∃ oX oM, fX_would x1 x2 x3 x4 x5 x6 x7 x8 gX = some oX ∧ fM_would x1 x2 x3 x4 x5 x6 x7 x8 gM = some oM ∧ R oX.2 xX oM.2 xM ∧ simR 1 oX.1 oM.1 (oM.2 0 0)
def Sim_lender (R : Rel) : Prop := ∀ (gX : St) (xX : Sl) (gM : St) (xM : Sl) (x1 : Int32), R gX xX gM xM → ∃ oX oM, fX_lender x1 gX = some oX ∧ fM_lender x1 gM = some oM ∧ R oX.2 xX oM.2 xM ∧ simR 0 oX.1 oM.1 (oM.2 0 0)
def Sim_ahead (R : Rel) : Prop := ∀ (gX : St) (xX : Sl) (gM : St) (xM : Sl) (x1 : Int32) (x2 : Int32), R gX xX gM xM → ∃ oX oM, fX_ahead x1 x2 gX = some oX ∧ fM_ahead x1 x2 gM = some oM ∧ R oX.2 xX oM.2 xM ∧ simR 1 oX.1 oM.1 (oM.2 0 0)
def Sim_truly (R : Rel) : Prop := ∀ (gX : St) (xX : Sl) (gM : St) (xM : Sl) (x1 : Int32), R gX xX gM xM → ∃ oX oM, fX_truly x1 gX = some oX ∧ fM_truly x1 gM = some oM ∧ R oX.2 xX oM.2 xM ∧ simR 0 oX.1 oM.1 (oM.2 0 0)
def Sim_chain (R : Rel) : Prop := ∀ (gX : St) (xX : Sl) (gM : St) (xM : Sl) (x1 : Int32), R gX xX gM xM → ∃ oX oM, fX_chain x1 gX = some oX ∧ fM_chain x1 gM = some oM ∧ R oX.2 xX oM.2 xM ∧ simR 0 oX.1 oM.1 (oM.2 0 0)
def Sim_served (R : Rel) : Prop := ∀ (gX : St) (xX : Sl) (gM : St) (xM : Sl) (x1 : Int32) (x2 : Int32), R gX xX gM xM → ∃ oX oM, fX_served x1 x2 gX = some oX ∧ fM_served x1 x2 gM = some oM ∧ R oX.2 xX oM.2 xM ∧ simR 1 oX.1 oM.1 (oM.2 0 0)
def Sim_giver (R : Rel) : Prop := ∀ (gX : St) (xX : Sl) (gM : St) (xM : Sl) (x1 : Int32) (x2 : Int32), R gX xX gM xM → ∃ oX oM, fX_giver x1 x2 gX = some oX ∧ fM_giver x1 x2 gM = some oM ∧ R oX.2 xX oM.2 xM ∧ simR 2 oX.1 oM.1 (oM.2 0 0)
def Sim_order (R : Rel) : Prop := ∀ (gX : St) (xX : Sl) (gM : St) (xM : Sl) (x1 : Int32) (x2 : Int32), R gX xX gM xM → ∃ oX oM, fX_order x1 x2 gX = some oX ∧ fM_order x1 x2 gM = some oM ∧ R oX.2 xX oM.2 xM ∧ simR 1 oX.1 oM.1 (oM.2 0 0)
def Sim_fits (R : Rel) : Prop := ∀ (gX : St) (xX : Sl) (gM : St) (xM : Sl) (x1 : Int32) (x2 : Int32), R gX xX gM xM → ∃ oX oM, fX_fits x1 x2 gX = some oX ∧ fM_fits x1 x2 gM = some oM ∧ R oX.2 xX oM.2 xM ∧ simR 1 oX.1 oM.1 (oM.2 0 0)
def Sim_look (R : Rel) : Prop := ∀ (gX : St) (xX : Sl) (gM : St) (xM : Sl) (x1 : Int32) (x2 : Int32), R gX xX gM xM → ∃ oX oM, fX_look x1 x2 gX = some oX ∧ fM_look x1 x2 gM = some oM ∧ R oX.2 xX oM.2 xM ∧ simR 1 oX.1 oM.1 (oM.2 0 0)
def Sim_neighbours (R : Rel) : Prop := ∀ (gX : St) (xX : Sl) (gM : St) (xM : Sl) (x1 : Int32) (x2 : Int32) (x3 : Int32), R gX xX gM xM → ∃ oX oM, fX_neighbours x1 x2 x3 gX = some oX ∧ fM_neighbours x1 x2 x3 gM = some oM ∧ R oX.2 xX oM.2 xM ∧ simR 1 oX.1 oM.1 (oM.2 0 0)
def Sim_home (R : Rel) : Prop := ∀ (gX : St) (xX : Sl) (gM : St) (xM : Sl) (x1 : Int32) (x2 : Int32) (x3 : Int32) (x4 : Int32), R gX xX gM xM → ∃ oX oM, fX_home x1 x2 x3 x4 gX xX = some oX ∧ fM_home x1 x2 x3 x4 gM xM = some oM ∧ R oX.2.1 oX.2.2 oM.2.1 oM.2.2 ∧ simR 1 oX.1 oM.1 (oM.2.1 0 0)
def Sim_flowers (R : Rel) : Prop := ∀ (gX : St) (xX : Sl) (gM : St) (xM : Sl) (x1 : Int32) (x2 : Int32) (x3 : Int32), R gX xX gM xM → ∃ oX oM, fX_flowers x1 x2 x3 gX = some oX ∧ fM_flowers x1 x2 x3 gM = some oM ∧ R oX.2 xX oM.2 xM ∧ simR 2 oX.1 oM.1 (oM.2 0 0)
def Sim_honoured (R : Rel) : Prop := ∀ (gX : St) (xX : Sl) (gM : St) (xM : Sl) (x1 : Int32), R gX xX gM xM → ∃ oX oM, fX_honoured x1 gX = some oX ∧ fM_honoured x1 gM = some oM ∧ R oX.2 xX oM.2 xM ∧ simR 1 oX.1 oM.1 (oM.2 0 0)
def Sim_sued (R : Rel) : Prop := ∀ (gX : St) (xX : Sl) (gM : St) (xM : Sl) (x1 : Int32), R gX xX gM xM → ∃ oX oM, fX_sued x1 gX = some oX ∧ fM_sued x1 gM = some oM ∧ R oX.2 xX oM.2 xM ∧ simR 1 oX.1 oM.1 (oM.2 0 0)
def Sim_free (R : Rel) : Prop := ∀ (gX : St) (xX : Sl) (gM : St) (xM : Sl) (x1 : Int32), R gX xX gM xM → ∃ oX oM, fX_free x1 gX = some oX ∧ fM_free x1 gM = some oM ∧ R oX.2 xX oM.2 xM ∧ simR 0 oX.1 oM.1 (oM.2 0 0)
def Sim_kin (R : Rel) : Prop := ∀ (gX : St) (xX : Sl) (gM : St) (xM : Sl) (x1 : Int32), R gX xX gM xM → ∃ oX oM, fX_kin x1 gX = some oX ∧ fM_kin x1 gM = some oM ∧ R oX.2 xX oM.2 xM ∧ simR 0 oX.1 oM.1 (oM.2 0 0)
def Sim_willing (R : Rel) : Prop := ∀ (gX : St) (xX : Sl) (gM : St) (xM : Sl) (x1 : Int32), R gX xX gM xM → ∃ oX oM, fX_willing x1 gX = some oX ∧ fM_willing x1 gM = some oM ∧ R oX.2 xX oM.2 xM ∧ simR 0 oX.1 oM.1 (oM.2 0 0)
def Sim_below (R : Rel) : Prop := ∀ (gX : St) (xX : Sl) (gM : St) (xM : Sl) (x1 : Int32), R gX xX gM xM → ∃ oX oM, fX_below x1 gX = some oX ∧ fM_below x1 gM = some oM ∧ R oX.2 xX oM.2 xM ∧ simR 0 oX.1 oM.1 (oM.2 0 0)
def Sim_debtless (R : Rel) : Prop := ∀ (gX : St) (xX : Sl) (gM : St) (xM : Sl), R gX xX gM xM → ∃ oX oM, fX_debtless gX = some oX ∧ fM_debtless gM = some oM ∧ R gX xX oM.2 xM ∧ oX = oM.1
def Sim_after (R : Rel) : Prop := ∀ (gX : St) (xX : Sl) (gM : St) (xM : Sl) (x1 : Int32) (x2 : Int32), R gX xX gM xM → ∃ oX oM, fX_after x1 x2 gX = some oX ∧ fM_after x1 x2 gM = some oM ∧ R oX.2 xX oM.2 xM ∧ simR 2 oX.1 oM.1 (oM.2 0 0)
def Sim_latest (R : Rel) : Prop := ∀ (gX : St) (xX : Sl) (gM : St) (xM : Sl) (x1 : Int32), R gX xX gM xM → ∃ oX oM, fX_latest x1 gX = some oX ∧ fM_latest x1 gM = some oM ∧ R oX.2 xX oM.2 xM ∧ simR 1 oX.1 oM.1 (oM.2 0 0)
def Sim_century (R : Rel) : Prop := ∀ (gX : St) (xX : Sl) (gM : St) (xM : Sl) (x1 : Int32) (x2 : Int32) (x3 : Int32) (x4 : Int32), R gX xX gM xM → ∃ oX oM, fX_century x1 x2 x3 x4 gX = some oX ∧ fM_century x1 x2 x3 x4 gM = some oM ∧ R oX.2 xX oM.2 xM ∧ simR 1 oX.1 oM.1 (oM.2 0 0)
def Sim_span (R : Rel) : Prop := ∀ (gX : St) (xX : Sl) (gM : St) (xM : Sl) (x1 : Int32) (x2 : Int32) (x3 : Int32) (x4 : Int32) (x5 : Int32) (x6 : Int32), R gX xX gM xM → ∃ oX oM, fX_span x1 x2 x3 x4 x5 x6 gX = some oX ∧ fM_span x1 x2 x3 x4 x5 x6 gM = some oM ∧ R oX.2 xX oM.2 xM ∧ simR 1 oX.1 oM.1 (oM.2 0 0)
def Sim_image (R : Rel) : Prop := ∀ (gX : St) (xX : Sl) (gM : St) (xM : Sl), R gX xX gM xM → ∃ oX oM, fX_image gX = some oX ∧ fM_image gM = some oM ∧ R oX.2 xX oM.2 xM ∧ oX.1 = oM.1
def Sim_restore (R : Rel) : Prop := ∀ (gX : St) (xX : Sl) (gM : St) (xM : Sl), R gX xX gM xM → ∃ oX oM, fX_restore gX = some oX ∧ fM_restore gM = some oM ∧ R oX.2 xX oM.2 xM ∧ oX.1 = oM.1
def Sim_status (R : Rel) : Prop := ∀ (gX : St) (xX : Sl) (gM : St) (xM : Sl) (x1 : Int32), R gX xX gM xM → ∃ oX oM, fX_status x1 gX = oX ∧ fM_status x1 gM = some oM ∧ R gX xX oM.2 xM ∧ oX = oM.1
def Sim_count (R : Rel) : Prop := ∀ (gX : St) (xX : Sl) (gM : St) (xM : Sl) (x1 : Int32), R gX xX gM xM → ∃ oX oM, fX_count x1 gX = oX ∧ fM_count x1 gM = oM ∧ R gX xX oM.2 xM ∧ oX = oM.1
/-- a place of the script -/
theorem argI {n L : Nat} (hn : 9 * n + 9 ≤ L) (hL : L ≤ 4608) (k : Nat) (hk : k < 9) : vp_in (Int32.ofNat (9 * n) + Int32.ofNat k) L ∧ (Int32.ofNat (9 * n) + Int32.ofNat k).toNatClampNeg = 9 * n + k := by
  have e : Int32.ofNat (9 * n) + Int32.ofNat k = Int32.ofNat (9 * n + k) := (Int32.ofNat_add _ _).symm
  have h2 : (Int32.ofNat (9 * n + k)).toInt = ((9 * n + k : Nat) : Int) := Int32.toInt_ofNat_of_lt (by omega)
  have h3 : (Int32.ofNat (9 * n + k)).toNatClampNeg = 9 * n + k := by
    show (Int32.ofNat (9 * n + k)).toInt.toNat = _
    rw [h2]
    omega
  rw [e]
  refine ⟨?_, h3⟩
  unfold vp_in
  rw [h3]
  rintro (h | h)
  · have := Int32.lt_iff_toInt_lt.mp h
    rw [h2] at this
    have h0 : (0 : Int32).toInt = 0 := rfl
    omega
  · omega
theorem argI0 {n L : Nat} (hn : 9 * n + 9 ≤ L) (hL : L ≤ 4608) : vp_in (Int32.ofNat (9 * n)) L ∧ (Int32.ofNat (9 * n)).toNatClampNeg = 9 * n := by
  have h := argI hn hL 0 (by omega)
  rw [show Int32.ofNat (9 * n) + Int32.ofNat 0 = Int32.ofNat (9 * n) from Int32.add_zero _] at h
  exact h
section LAW
variable {l : Launch} {D : va_G} {T : cT} {adX adM : Nat → Nat} {sK sV : Nat → Nat} {b L q n : Nat} {xs : Nat → Int32} {Γ : Cxt} {Q : State → Prop} {kc ks : Nat} {R : Rel} {f : Nat → Int64} {gX : St} {xX : Sl} {gM : St} {xM : Sl}
abbrev lwV (T : cT) (adX adM : Nat → Nat) (q : Nat) (f : Nat → Int64) (gX : St) (xX : Sl) (gM : St) (xM : Sl) : va_W := ([oL T q f] ++ wW shX T adX xX gX) ++ wW shM T adM xM gM
abbrev lwLv (adX adM : Nat → Nat) (b q n : Nat) : List (Nat × Value) := [(0, .ref b), (1, .ref (adX 0)), (2, .ref (adM 0)), (3, .ref q), (4, .int (Int32.ofNat (9 * n)))]
/-- what the law's walk stands on -/
def Cl (D : va_G) (T : cT) (sK sV : Nat → Nat) (b L : Nat) (xs : Nat → Int32) (Γ : Cxt) : Prop := Cx D T cL_law_ 8 lw_tbl RL ret Γ ∧ (∀ q : Nat, Γ.s.heap.size ≤ q → Γ.A q) ∧ EL sK sV Γ.A Γ.s ∧ va_X b L xs Γ.s Γ.s.heap ∧ b < Γ.s.heap.size ∧ ¬ Γ.A b ∧ L ≤ 4608
end LAW
