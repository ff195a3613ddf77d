/-! greatest common divisors of longs; sums of weights -/
theorem l_lo (x : Int64) : -9223372036854775808 ≤ x.toInt := Int64.le_toInt x
theorem l_hi (x : Int64) : x.toInt < 9223372036854775808 := Int64.toInt_lt x
theorem h_lrem {x y v : Int64} (e : v = x - x / y * y) (hy : y.toInt ≠ 0) : v.toInt = x.toInt.tmod y.toInt := by
  have h1 := l_lo x
  have h2 := l_hi x
  have h3 : (x.toInt.tmod y.toInt).natAbs ≤ x.toInt.natAbs := by
    rw [Int.natAbs_tmod]
    exact Nat.mod_le _ _
  have h4 : (x.toInt.tmod y.toInt).natAbs < y.toInt.natAbs := by
    rw [Int.natAbs_tmod]
    exact Nat.mod_lt _ (by omega)
  have h5 := l_lo y
  have h6 := l_hi y
  rw [e, Int64.toInt_sub, Int64.toInt_mul, Int64.toInt_div, Int.bmod_mul_bmod, Int.sub_bmod_bmod]
  have h7 : x.toInt - x.toInt.tdiv y.toInt * y.toInt = x.toInt.tmod y.toInt := by
    rw [Int.tmod_def, Int.mul_comm]
  rw [h7]
  exact Int.bmod_eq_of_le (by omega) (by omega)
theorem h_lgcd {x y v : Int64} (e : v = x - x / y * y) (hy : y.toInt ≠ 0) : Int.gcd y.toInt v.toInt = Int.gcd x.toInt y.toInt ∧ v.toInt.natAbs < y.toInt.natAbs := by
  rw [h_lrem e hy]
  refine ⟨?_, ?_⟩
  · show Nat.gcd y.toInt.natAbs (x.toInt.tmod y.toInt).natAbs = Nat.gcd x.toInt.natAbs y.toInt.natAbs
    rw [Int.natAbs_tmod, Nat.gcd_comm x.toInt.natAbs, Nat.gcd_rec y.toInt.natAbs x.toInt.natAbs, Nat.gcd_comm]
  · rw [Int.natAbs_tmod]
    exact Nat.mod_lt _ (by omega)
theorem h_ldiv {x y v : Int64} (e : v = x / y) (hx : -9223372036854775808 < x.toInt) (hy : y.toInt ≠ 0) (hd : y.toInt ∣ x.toInt) : y.toInt * v.toInt = x.toInt := by
  have h1 := l_hi x
  have h2 : y.toInt * x.toInt.tdiv y.toInt = x.toInt := Int.mul_tdiv_cancel' hd
  have h3 : (x.toInt.tdiv y.toInt).natAbs ≤ x.toInt.natAbs := by
    have h4 : x.toInt.natAbs = y.toInt.natAbs * (x.toInt.tdiv y.toInt).natAbs := by
      rw [← Int.natAbs_mul, h2]
    rw [h4]
    exact Nat.le_mul_of_pos_left _ (by omega)
  have h5 : v.toInt = x.toInt.tdiv y.toInt := by
    rw [e, Int64.toInt_div]
    exact Int.bmod_eq_of_le (by omega) (by omega)
  rw [h5, h2]
/-- the fraction's lower part while chances are added up -/
def h_ci (b all : Int) (j : Nat) : Prop := b ≠ 0 ∧ ∃ q : Int, b ∣ q ∧ all ∣ q ∧ 0 < q ∧ q ≤ 140 ^ (j + 1)
theorem h_pow (j : Nat) (hj : j < 8) : (140 : Int) ^ (j + 1) ≤ 147578905600000000 := (by decide +kernel : ∀ k : Nat, k < 8 → (140 : Int) ^ (k + 1) ≤ 147578905600000000) j hj
theorem h_ci.le {b all : Int} {j : Nat} (h : h_ci b all j) (hj : j < 8) : b ≠ 0 ∧ b.natAbs ≤ 147578905600000000 := by
  obtain ⟨h0, q, h1, -, h2, h3⟩ := h
  have := h_pow j hj
  have h4 := Int.le_of_dvd h2 (Int.natAbs_dvd.mpr h1)
  exact ⟨h0, by omega⟩
theorem h_ci.step {b f g d b1 : Int} {all x : Int} {j : Nat} (hi : h_ci b all j) (hf : f = all * x) (h0 : 0 < all) (hx : 1 ≤ x) (hx2 : x ≤ 140) (hg : g.natAbs = Int.gcd b f) (hd : g * d = b) (hb1 : b1 = d * f) : h_ci b1 all (j + 1) := by
  obtain ⟨hb, q, h1, h2, h3, h4⟩ := hi
  have hf0 : f ≠ 0 := by
    rw [hf]
    exact Int.mul_ne_zero (by omega) (by omega)
  have hl : b1.natAbs = Int.lcm b f := by
    have e1 : Int.gcd b f * Int.lcm b f = b.natAbs * f.natAbs := Int.gcd_mul_lcm b f
    have e2 : g.natAbs * b1.natAbs = b.natAbs * f.natAbs := by
      rw [hb1, Int.natAbs_mul, ← Nat.mul_assoc, ← Int.natAbs_mul, hd]
    rw [← hg, ← e2] at e1
    have e3 : 0 < g.natAbs := by
      rcases Nat.eq_zero_or_pos g.natAbs with h | h
      · exfalso
        apply hb
        rw [← hd, Int.natAbs_eq_zero.mp h, Int.zero_mul]
      · exact h
    exact (Nat.eq_of_mul_eq_mul_left e3 e1).symm
  have hd0 : d ≠ 0 := by
    intro h
    apply hb
    rw [← hd, h, Int.mul_zero]
  refine ⟨by rw [hb1]; exact Int.mul_ne_zero hd0 hf0, q * x, ?_, ?_, ?_, ?_⟩
  · have h5 : (Int.lcm b f : Int) ∣ q * x := by
      refine Int.coe_lcm_dvd (Int.dvd_trans h1 (Int.dvd_mul_right q x)) ?_
      rw [hf]
      exact Int.mul_dvd_mul h2 (Int.dvd_refl x)
    rw [← hl] at h5
    exact Int.natAbs_dvd.mp h5
  · exact Int.dvd_trans h2 (Int.dvd_mul_right q x)
  · exact Int.mul_pos h3 (by omega)
  · have h5 : q * x ≤ 140 ^ (j + 1) * 140 := Int.mul_le_mul h4 hx2 (by omega) (by omega)
    rw [Int.pow_succ]
    exact h5
theorem h_lmul {x y v : Int64} {p : Int} (e : v = x * y) (hp : x.toInt * y.toInt = p) (h1 : -9223372036854775808 ≤ p) (h2 : p < 9223372036854775808) : v.toInt = p := by
  rw [e, Int64.toInt_mul, hp]
  exact Int.bmod_eq_of_le (by omega) (by omega)
/-- which row of laws holds -/
def h_blk (f : Nat → Int32) (y q : Nat) : Prop := (q ≤ y ∧ f q ≠ 0 ∧ ∀ j : Nat, q < j → j ≤ y → f j = 0) ∨ (q = 11 ∧ ∀ j : Nat, j ≤ y → f j = 0)
theorem h_blk.ex (f : Nat → Int32) : ∀ y : Nat, ∃ q : Nat, h_blk f y q
  | 0 => by
    by_cases h : f 0 = 0
    · refine ⟨11, Or.inr ⟨rfl, fun j hj => ?_⟩⟩
      rw [show j = 0 by omega]
      exact h
    · exact ⟨0, Or.inl ⟨Nat.le_refl 0, h, fun j h1 h2 => by omega⟩⟩
  | y + 1 => by
    by_cases h : f (y + 1) = 0
    · obtain ⟨q, hq⟩ := h_blk.ex f y
      refine ⟨q, ?_⟩
      rcases hq with ⟨h1, h2, h3⟩ | ⟨h1, h2⟩
      · refine Or.inl ⟨by omega, h2, fun j hj1 hj2 => ?_⟩
        by_cases e : j = y + 1
        · rw [e]
          exact h
        · exact h3 j hj1 (by omega)
      · refine Or.inr ⟨h1, fun j hj => ?_⟩
        by_cases e : j = y + 1
        · rw [e]
          exact h
        · exact h2 j (by omega)
    · exact ⟨y + 1, Or.inl ⟨Nat.le_refl _, h, fun j h1 h2 => by omega⟩⟩
theorem h_blk.lt {f : Nat → Int32} {y q : Nat} (h : h_blk f y q) (hy : y ≤ 9) : q < 12 ∧ q ≠ 10 := by
  rcases h with ⟨h1, -, -⟩ | ⟨h1, -⟩ <;> omega
def h_sum (w : Nat → Int) : Nat → Int
  | 0 => 0
  | n + 1 => h_sum w n + w n
theorem h_sum_mono {w : Nat → Int} {n m : Nat} (h : ∀ i : Nat, i < m → 0 ≤ w i) (hnm : n ≤ m) : h_sum w n ≤ h_sum w m := by
  induction m with
  | zero =>
    rw [show n = 0 by omega]
    exact Int.le_refl _
  | succ m ih =>
    by_cases e : n = m + 1
    · rw [e]
      exact Int.le_refl _
    · have h1 := ih (fun i hi => h i (by omega)) (by omega)
      have h2 := h m (by omega)
      show h_sum w n ≤ h_sum w m + w m
      omega
def h_hit (w : Nat → Int) (x : Int) (r : Nat) : Prop := h_sum w r ≤ x ∧ x < h_sum w (r + 1)
theorem h_hit.one {w : Nat → Int} {x : Int} {r r2 n : Nat} (hw : ∀ i : Nat, i < n → 0 ≤ w i) (h : h_hit w x r) (h2 : h_hit w x r2) (hr : r < n) (hr2 : r2 < n) : r = r2 := by
  rcases Nat.lt_trichotomy r r2 with q | q | q
  · have := h_sum_mono (w := w) (n := r + 1) (m := r2) (fun i hi => hw i (by omega)) (by omega)
    have := h.2
    have := h2.1
    omega
  · exact q
  · have := h_sum_mono (w := w) (n := r2 + 1) (m := r) (fun i hi => hw i (by omega)) (by omega)
    have := h.1
    have := h2.2
    omega
theorem h_gd {g a b : Int} (h : g.natAbs = Int.gcd a b) : g ∣ a ∧ g ∣ b := by
  refine ⟨Int.natAbs_dvd.mp ?_, Int.natAbs_dvd.mp ?_⟩
  · rw [h]
    exact Int.gcd_dvd_left a b
  · rw [h]
    exact Int.gcd_dvd_right a b
