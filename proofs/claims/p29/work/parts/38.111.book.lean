/-! the book of laws -/
theorem h_copyL {z : tZ} {I I1 I2 I3 : tI} {a n l b m k : Nat} {u : Nat → Int} {c : Int32} (hu : h_lw I b m k u) (e1 : I1 = h_row I n (va_cpy (I m) (I n) 0 0 8)) (e2 : I2 = h_row I1 l (va_cpy (I1 k) (I1 l) 0 0 6)) (e3 : I3 = h_up I2 a 2 c) (hc : c = I b 2) (ta : z.ty a = 6) (tn : z.ty n = 600) (tl : z.ty l = 601) (tk : z.ty k = 601) : h_lw I3 a n l u ∧ h_ap z I I3 a n l := by
  have h1 : n ≠ l := h_ne2 tn tl (by decide)
  have h2 : n ≠ a := h_ne2 tn ta (by decide)
  have h3 : l ≠ a := h_ne2 tl ta (by decide)
  have h4 : k ≠ n := h_ne2 tk tn (by decide)
  refine ⟨⟨fun i hi => ?_, ?_, fun i h6 hi => ?_⟩, fun d j q => ?_⟩
  · rw [e3, show h_up I2 a 2 c n = I2 n from h_up_ne h2, e2, show h_row I1 l (va_cpy (I1 k) (I1 l) 0 0 6) n = I1 n from if_neg h1, e1, show h_row I n (va_cpy (I m) (I n) 0 0 8) n = va_cpy (I m) (I n) 0 0 8 from if_pos rfl]
    show (if 0 ≤ i ∧ i < 0 + 8 then I m (0 + (i - 0)) else I n i).toInt = u i
    rw [if_pos (by omega), show 0 + (i - 0) = i by omega]
    exact hu.1 i hi
  · rw [h_n0 e3, hc]
    exact hu.2.1
  · rw [e3, show h_up I2 a 2 c l = I2 l from h_up_ne h3, e2, show h_row I1 l (va_cpy (I1 k) (I1 l) 0 0 6) l = va_cpy (I1 k) (I1 l) 0 0 6 from if_pos rfl]
    show (if 0 ≤ i ∧ i < 0 + 6 then I1 k (0 + (i - 0)) else I1 l i).toInt = u (9 + i)
    rw [if_pos (by omega), show 0 + (i - 0) = i by omega, e1, show h_row I n (va_cpy (I m) (I n) 0 0 8) k = I k from if_neg h4]
    exact hu.2.2 i h6 hi
  · have b1 : d ≠ a := by
      intro hb
      subst hb
      rw [ta] at q
      omega
    have b2 : d ≠ l := by
      intro hb
      subst hb
      rw [tl] at q
      omega
    have b3 : d ≠ n := by
      intro hb
      subst hb
      rw [tn] at q
      omega
    rw [e3, show h_up I2 a 2 c d = I2 d from h_up_ne b1, e2, show h_row I1 l (va_cpy (I1 k) (I1 l) 0 0 6) d = I1 d from if_neg b2, e1, show h_row I n (va_cpy (I m) (I n) 0 0 8) d = I d from if_neg b3]
/-- a number of a text, by its name -/
def q_num (u : Nat → Int) (x : Int) : Int := if 0 ≤ x ∧ x ≤ 8 then u x.toNat else if 10 ≤ x ∧ x - 10 < u 8 then u (9 + (x - 10).toNat) else -9
/-- which text holds for a year -/
def h_of (R : Nat → Option Nat) (un : Nat) (y : Int) (b : Nat) : Prop := (∃ k : Nat, k < 10 ∧ (k : Int) ≤ y ∧ R k = some b ∧ ∀ j : Nat, k < j → j < 10 → (j : Int) ≤ y → R j = none) ∨ (b = un ∧ ∀ j : Nat, j < 10 → (j : Int) ≤ y → R j = none)
theorem q_ofmore {R : Nat → Option Nat} {l l1 y : Int} (h : ∀ j : Nat, l < (j : Int) → j < 10 → (j : Int) ≤ y → R j = none) (h0 : 0 ≤ l) (hn : l ≤ y → R l.toNat = none) (e : l1 = l - 1) : ∀ j : Nat, l1 < (j : Int) → j < 10 → (j : Int) ≤ y → R j = none := by
  intro j h1 h2 h3
  by_cases hj : l < (j : Int)
  · exact h j hj h2 h3
  · have ej : j = l.toNat := by omega
    subst ej
    exact hn (by omega)
theorem q_lomore {f : Nat → Int32} {l l1 y : Int} (h : ∀ j : Nat, l < (j : Int) → (j : Int) ≤ y → (f j).toInt = 0) (h0 : 0 ≤ l) (hn : (f l.toNat).toInt = 0) (e : l1 = l - 1) : ∀ j : Nat, l1 < (j : Int) → (j : Int) ≤ y → (f j).toInt = 0 := by
  intro j h1 h3
  by_cases hj : l < (j : Int)
  · exact h j hj h3
  · have ej : j = l.toNat := by omega
    subst ej
    exact hn

