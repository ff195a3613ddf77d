/-! bytes that are fed -/
def q_by (x : Int32) (t : Int) : Int32 := vp_nar .byte ((x >>> (Int32.ofInt t &&& 31)).toInt8.toInt32)
def q_part (f : Nat → Int32) (n : Int) (x : Int32) (j : Int) : Nat → Int32 := fun k => if n ≤ (k : Int) ∧ (k : Int) < n + j then q_by x (24 - 8 * ((k : Int) - n)) else f k
def q_feed (f : Nat → Int32) (n : Int) : List Int32 → (Nat → Int32)
  | [] => f
  | x :: t => q_feed (q_part f n x 4) (n + 4) t
theorem q_part0 {f : Nat → Int32} {n j : Int} {x : Int32} (h : j = 0) : q_part f n x j = f := by
  funext k
  unfold q_part
  rw [if_neg (by omega)]
theorem q_by_eq {x s v y : Int32} {t : Int} (hs : s.toInt = t) (e1 : v = x >>> (s &&& 31)) (e2 : y = v.toInt8.toInt32) : vp_nar .byte y = q_by x t := by
  have h : s = Int32.ofInt t := by
    rw [← hs]
    exact (Int32.ofInt_toInt s).symm
  unfold q_by
  rw [e2, e1, h]
theorem q_partS {I I1 : tI} {bt : Nat} {f : Nat → Int32} {n j j1 t : Int} {i x s v y : Int32} (h : I bt = q_part f n x j) (e : I1 = h_up I bt i.toNatClampNeg (vp_nar .byte y)) (hi : i.toInt = n + j) (hn : 0 ≤ n) (hj : 0 ≤ j) (hs : s.toInt = t) (ht : t = 24 - 8 * j) (e1 : v = x >>> (s &&& 31)) (e2 : y = v.toInt8.toInt32) (ej : j1 = j + 1) : I1 bt = q_part f n x j1 := by
  funext k
  subst ej
  by_cases hk : (k : Int) = n + j
  · have ek := h_keq (k := k) hi (by omega) hk
    rw [← ek, h_n0 e, q_by_eq hs e1 e2, ek]
    unfold q_part
    rw [if_pos (by omega)]
    congr 1
    omega
  · rw [h_n2 e (h_kne hi (by omega) hk), h]
    unfold q_part
    by_cases h1 : n ≤ (k : Int) ∧ (k : Int) < n + j
    · rw [if_pos h1, if_pos (by omega)]
    · rw [if_neg h1, if_neg (by omega)]

