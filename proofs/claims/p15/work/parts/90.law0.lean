/-! between two calls -/
def h_J2 (z : tZ) (I : tI) (mo : Nat) : Prop := (I mo 30).toInt = 1 → ∀ c : Int, 0 ≤ c → c ≤ 7 → ∃ k : Nat, k < 8 ∧ (I (h_ad z mo 32) k).toInt = c
def h_T (E : tE) (A : Nat → Prop) (s : State) (z : tZ) (I : tI) (L : tL) (H : Heap) (locs : List Loc) (cp mo : Nat) : Prop := h_G h_so h_fk E A z I L s s.heap H locs ∧ h_I z I ∧ h_R z ∧ z.ty cp = 12 ∧ z.ty mo = 13 ∧ h_J1 (I (h_ad z mo 10)) ∧ h_J2 z I mo
