/-! two are out -/
theorem h_out2 {I I1 I2 : tI} {o : Nat} {x y : Int32} (e1 : I1 = h_up I o x.toNatClampNeg 1) (e2 : I2 = h_up I1 o y.toNatClampNeg 1) (h0 : ∀ k : Nat, k < 8 → I o k = 0) (hx : 0 ≤ x.toInt) (hy : 0 ≤ y.toInt) (i : Int32) (hi : 0 ≤ i.toInt) (hi8 : i.toInt < 8) : ((I2 o i.toNatClampNeg).toInt = 1 ∧ (i.toInt = x.toInt ∨ i.toInt = y.toInt)) ∨ ((I2 o i.toNatClampNeg).toInt = 0 ∧ i.toInt ≠ x.toInt ∧ i.toInt ≠ y.toInt) := by
  have ci := h_cl (i := i) rfl hi
  by_cases hiy : i.toInt = y.toInt
  · left
    rw [← h_keq (k := i.toNatClampNeg) (i := y) rfl hy (by omega), h_n0 e2]
    exact ⟨by decide, Or.inr hiy⟩
  · rw [h_n2 e2 (h_kne (i := y) rfl hy (by omega))]
    by_cases hix : i.toInt = x.toInt
    · left
      rw [← h_keq (k := i.toNatClampNeg) (i := x) rfl hx (by omega), h_n0 e1]
      exact ⟨by decide, Or.inl hix⟩
    · right
      rw [h_n2 e1 (h_kne (i := x) rfl hx (by omega)), h0 _ (by omega)]
      exact ⟨by decide, hix, hiy⟩
