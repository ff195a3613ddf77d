/-! the laws that hold where none are told, as the reference lays them down at birth -/
theorem q_plmO {I I1 : tI} {lw o : Nat} {l l1 : Int} {i v : Int32} (h : ∀ j : Nat, (j : Int) < l → (I lw (o + j)).toInt = q_pl j) (h0 : 0 ≤ l) (e : I1 = h_up I lw i.toNatClampNeg v) (hi : i.toInt = o + l) (hv : v.toInt = q_pl l.toNat) (e1 : l1 = l + 1) : ∀ j : Nat, (j : Int) < l1 → (I1 lw (o + j)).toInt = q_pl j := by
  intro j hj
  by_cases hjl : (j : Int) = l
  · rw [← h_keq (k := o + j) (i := i) rfl (by omega) (by omega), h_n0 e, hv]
    congr 1
    omega
  · rw [h_n2 e (h_kne (i := i) rfl (by omega) (by omega))]
    exact h j (by omega)

