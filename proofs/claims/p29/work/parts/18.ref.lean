/-! the reference: what its rows of laws hold, and more -/
theorem h_cl {i : Int32} {k : Int} (hi : i.toInt = k) (h0 : 0 ≤ k) : (i.toNatClampNeg : Int) = k := by
  have h : (i.toNatClampNeg : Int) = (i.toInt.toNat : Int) := rfl
  rw [h, hi]
  exact Int.toNat_of_nonneg h0
theorem h_lwr {z : tZ} {I : tI} (h : h_I z I) {a : Nat} (ha : z.ty a = 1310) {i : Int32} {k : Int} (hi : i.toInt = k) {v : Int32} (ev : v = I a i.toNatClampNeg) (h0 : 0 ≤ k) : (k % 16 = 8 → 0 ≤ v.toInt ∧ v.toInt ≤ 7) ∧ (8 < k % 16 → 0 ≤ v.toInt ∧ v.toInt ≤ 20) := by
  have q := h a i.toNatClampNeg
  rw [ha, ← ev] at q
  have hc := h_cl hi h0
  generalize i.toNatClampNeg = n at q hc
  have e : h_bd 1310 n = h_lb n := rfl
  rw [e] at q
  unfold h_lb at q
  constructor
  · intro h8
    rw [if_pos (by omega)] at q
    exact q
  · intro h8
    rw [if_neg (by omega), if_pos (by omega)] at q
    exact q
theorem h_lww {z : tZ} {I I1 : tI} (h : h_I z I) {a : Nat} {i v : Int32} (e : I1 = h_up I a i.toNatClampNeg v) (ha : z.ty a = 1310) {k : Int} (hi : i.toInt = k) (h0 : 0 ≤ k) (h8 : k % 16 = 8 → 0 ≤ v.toInt ∧ v.toInt ≤ 7) (h9 : 8 < k % 16 → 0 ≤ v.toInt ∧ v.toInt ≤ 20) : h_I z I1 := by
  have hc := h_cl hi h0
  refine h.wr e ha (lo := (h_lb i.toNatClampNeg).1) (hi := (h_lb i.toNatClampNeg).2) rfl ?_ ?_
  · unfold h_lb
    split
    · exact (h8 (by omega)).1
    · split
      · exact (h9 (by omega)).1
      · exact xi_lo _
  · unfold h_lb
    split
    · exact (h8 (by omega)).2
    · split
      · exact (h9 (by omega)).2
      · exact Int.le_of_lt_add_one (xi_hi _)
/-- the place of a field's row -/
def h_ad (z : tZ) (a k : Nat) : Nat := (z.R a k).getD 0
theorem h_ad.at {z : tZ} {a k b : Nat} (h : z.R a k = some b) : h_ad z a k = b := by
  unfold h_ad
  rw [h]
  rfl
theorem h_bitdn {x y v : Int32} (hx : x.toInt ≠ 0) (hy : y = x - 1) (e : v = x &&& y) : (v.toBitVec.toNat : Int) < x.toBitVec.toNat := by
  subst hy
  subst e
  have h1 : (x &&& (x - 1)).toBitVec = x.toBitVec &&& (x.toBitVec - 1#32) := rfl
  rw [h1, BitVec.toNat_and]
  have h2 : x.toBitVec.toNat ≠ 0 := by
    intro h
    apply hx
    have h3 : x.toInt = x.toBitVec.toInt := rfl
    rw [h3, BitVec.toInt_eq_toNat_of_lt (by omega), h]
    rfl
  have h4 : (x.toBitVec - 1#32).toNat = x.toBitVec.toNat - 1 := by
    have := x.toBitVec.isLt
    rw [BitVec.toNat_sub]
    simp
    omega
  have h5 : x.toBitVec.toNat &&& (x.toBitVec - 1#32).toNat ≤ (x.toBitVec - 1#32).toNat := Nat.and_le_right
  omega
theorem h_kne {i : Int32} {t : Int} {k : Nat} (hi : i.toInt = t) (h0 : 0 ≤ t) (hk : (k : Int) ≠ t) : k ≠ i.toNatClampNeg := by
  have := h_cl hi h0
  omega
theorem h_keq {i : Int32} {t : Int} {k : Nat} (hi : i.toInt = t) (h0 : 0 ≤ t) (hk : (k : Int) = t) : i.toNatClampNeg = k := by
  have := h_cl hi h0
  omega
/-- the lots of a text have weights of 1 at least -/
def h_ok (f : Nat → Int32) (y : Nat) : Prop := ∀ i : Nat, i < 7 → (i : Int) < (f (16 * y + 8)).toInt → 1 ≤ (f (16 * y + 9 + i)).toInt
def h_J1 (f : Nat → Int32) : Prop := ∀ y : Nat, y < 12 → y ≠ 10 → h_ok f y
theorem h_ok_same {f f1 : Nat → Int32} {y : Nat} (h : h_ok f y) (hk : ∀ k : Nat, 16 * y + 8 ≤ k → k < 16 * y + 16 → f1 k = f k) : h_ok f1 y := by
  intro i hi hc
  rw [hk _ (by omega) (by omega)] at hc ⊢
  exact h i hi hc
theorem h_J1_out {f f1 : Nat → Int32} (h : h_J1 f) (hk : ∀ k : Nat, (k < 160 ∨ 176 ≤ k) → f1 k = f k) : h_J1 f1 := fun y h1 h2 => h_ok_same (h y h1 h2) (fun k h3 h4 => hk k (by omega))
theorem h_J1_new {f f1 : Nat → Int32} {y0 : Nat} (h : h_J1 f) (hy : y0 < 10) (hok : h_ok f1 10) (h1 : ∀ j : Nat, j < 16 → f1 (16 * y0 + j) = f1 (160 + j)) (h2 : ∀ k : Nat, (k < 160 ∨ 176 ≤ k) → (k < 16 * y0 ∨ 16 * y0 + 16 ≤ k) → f1 k = f k) : h_J1 f1 := by
  intro y hy1 hy2
  by_cases e : y = y0
  · subst e
    intro i hi hc
    have q1 := h1 8 (by omega)
    have q2 := h1 (9 + i) (by omega)
    rw [q1] at hc
    rw [show 16 * y + 9 + i = 16 * y + (9 + i) by omega, q2]
    have := hok i hi hc
    rw [show 160 + (9 + i) = 16 * 10 + 9 + i by omega]
    exact this
  · exact h_ok_same (h y hy1 hy2) (fun k h3 h4 => h2 k (by omega) (by omega))
