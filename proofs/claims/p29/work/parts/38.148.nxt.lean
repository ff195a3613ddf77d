/-! a year ends: what becomes of a player -/
def h_nx (I I1 : tI) (b : Nat) (y : Int32) : Prop := I1 b 7 = 0 ∧ (((I b 0).toInt ≠ -1 ∧ ¬ q_und (I b 0) (I b 1) (I b 2) (I b 6) y ∧ I1 b 0 = -1 ∧ I1 b 5 = 0 ∧ I1 b 6 = 0) ∨ (((I b 0).toInt = -1 ∨ q_und (I b 0) (I b 1) (I b 2) (I b 6) y) ∧ ∀ k : Nat, k < 7 → I1 b k = I b k))
theorem h_nx.c {I I1 I2 : tI} {b : Nat} {y : Int32} (h : h_nx I I1 b y) (e : ∀ k : Nat, I2 b k = I1 b k) : h_nx I I2 b y := by
  unfold h_nx
  rw [e 7, e 0, e 5, e 6]
  refine ⟨h.1, ?_⟩
  rcases h.2 with q | ⟨q1, q2⟩
  · exact Or.inl q
  · exact Or.inr ⟨q1, fun k hk => (e k).trans (q2 k hk)⟩
theorem h_nx.mk {I Ih Iw Ie : tI} {b : Nat} {y : Int32} (hB : ∀ k : Nat, k < 8 → Ih b k = I b k) (e : Iw = h_up Ih b 7 0) (ec : ((Iw b 0).toInt ≠ -1 ∧ ¬ q_und (Iw b 0) (Iw b 1) (Iw b 2) (Iw b 6) y ∧ Ie b 0 = -1 ∧ Ie b 5 = 0 ∧ Ie b 6 = 0) ∨ (((Iw b 0).toInt = -1 ∨ q_und (Iw b 0) (Iw b 1) (Iw b 2) (Iw b 6) y) ∧ Ie = Iw)) (fr : ∀ c k : Nat, (c ≠ b ∨ k = 7) → Ie c k = Iw c k) : h_nx I Ie b y := by
  have w : ∀ k : Nat, k < 7 → Iw b k = I b k := fun k hk => (h_n2 e (by omega)).trans (hB k (by omega))
  rw [w 0 (by decide), w 1 (by decide), w 2 (by decide), w 6 (by decide)] at ec
  refine ⟨(fr b 7 (Or.inr rfl)).trans (h_n0 e), ?_⟩
  rcases ec with q | ⟨q1, q2⟩
  · exact Or.inl q
  · refine Or.inr ⟨q1, fun k hk => ?_⟩
    rw [q2]
    exact w k hk

