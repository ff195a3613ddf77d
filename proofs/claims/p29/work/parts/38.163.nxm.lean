/-! a year ends: what becomes of a player of the reference -/
def m_nx (I J : tI) (cb fi la hc it hu p : Nat) (y : Int32) : Prop := J hu p = 0 ∧ (((I cb p).toInt ≠ -1 ∧ ¬ q_un2 (I cb p) (I fi p) (I la p) (I hc p) (I it p) y ∧ J cb p = -1) ∨ (((I cb p).toInt = -1 ∨ q_un2 (I cb p) (I fi p) (I la p) (I hc p) (I it p) y) ∧ J cb p = I cb p))
theorem m_nx.c {I J J1 : tI} {cb fi la hc it hu p : Nat} {y : Int32} (h : m_nx I J cb fi la hc it hu p y) (e1 : J1 hu p = J hu p) (e2 : J1 cb p = J cb p) : m_nx I J1 cb fi la hc it hu p y := by
  unfold m_nx
  rw [e1, e2]
  exact h
theorem m_nx_A {I J J1 : tI} {cb fi la hc it hu v : Nat} {l l1 : Int} {y : Int32} (hA : ∀ q : Nat, (q : Int) < l → m_nx I J cb fi la hc it hu q y) (hv : (v : Int) = l) (e : l1 = l + 1) (hB : J cb v = I cb v) (eh : ∀ k : Nat, J1 hu k = if k = v then 0 else J hu k)
    (ec : ((I cb v).toInt ≠ -1 ∧ ¬ q_un2 (I cb v) (I fi v) (I la v) (I hc v) (I it v) y ∧ ∀ k : Nat, J1 cb k = if k = v then -1 else J cb k) ∨ (((I cb v).toInt = -1 ∨ q_un2 (I cb v) (I fi v) (I la v) (I hc v) (I it v) y) ∧ ∀ k : Nat, J1 cb k = J cb k)) : ∀ q : Nat, (q : Int) < l1 → m_nx I J1 cb fi la hc it hu q y := by
  intro q hq
  by_cases hqv : q = v
  · subst hqv
    refine ⟨by rw [eh, if_pos rfl], ?_⟩
    rcases ec with ⟨c1, c2, c3⟩ | ⟨c1, c2⟩
    · exact Or.inl ⟨c1, c2, by rw [c3, if_pos rfl]⟩
    · exact Or.inr ⟨c1, by rw [c2, hB]⟩
  · refine (hA q (by omega)).c (by rw [eh, if_neg hqv]) ?_
    rcases ec with ⟨c1, c2, c3⟩ | ⟨c1, c2⟩
    · rw [c3, if_neg hqv]
    · exact c2 q
theorem m_nx_B {I J J1 : tI} {cb hu v : Nat} {l l1 : Int} (hB : ∀ q : Nat, l ≤ (q : Int) → J hu q = I hu q ∧ J cb q = I cb q) (hv : (v : Int) = l) (e : l1 = l + 1) (eh : ∀ k : Nat, J1 hu k = if k = v then 0 else J hu k)
    (ec : (∀ k : Nat, J1 cb k = if k = v then -1 else J cb k) ∨ ∀ k : Nat, J1 cb k = J cb k) : ∀ q : Nat, l1 ≤ (q : Int) → J1 hu q = I hu q ∧ J1 cb q = I cb q := by
  intro q hq
  obtain ⟨h1, h2⟩ := hB q (by omega)
  rw [eh, if_neg (by omega)]
  rcases ec with c | c
  · rw [c, if_neg (by omega)]
    exact ⟨h1, h2⟩
  · rw [c]
    exact ⟨h1, h2⟩

