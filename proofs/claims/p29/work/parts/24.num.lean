/-! greatest common divisors of longs; sums of weights -/
theorem l_lo (x : Int64) : -9223372036854775808 ≤ x.toInt := Int64.le_toInt x
theorem l_hi (x : Int64) : x.toInt < 9223372036854775808 := Int64.toInt_lt x
theorem h_lrem {x y v : Int64} (e : v = x - x / y * y) (hy : y.toInt ≠ 0) : v.toInt = x.toInt.tmod y.toInt := by
  have h1 := l_lo x
  have h2 := l_hi x
  have h3 : (x.toInt.tmod y.toInt).natAbs ≤ x.toInt.natAbs := by
    rw [Int.natAbs_tmod]
    exact Nat.mod_le _ _
  have h4 : (x.toInt.tmod y.toInt).natAbs < y.toInt.natAbs := by
    rw [Int.natAbs_tmod]
    exact Nat.mod_lt _ (by omega)
  have h5 := l_lo y
  have h6 := l_hi y
  rw [e, Int64.toInt_sub, Int64.toInt_mul, Int64.toInt_div, Int.bmod_mul_bmod, Int.sub_bmod_bmod]
  have h7 : x.toInt - x.toInt.tdiv y.toInt * y.toInt = x.toInt.tmod y.toInt := by
    rw [Int.tmod_def, Int.mul_comm]
  rw [h7]
  exact Int.bmod_eq_of_le (by omega) (by omega)
theorem h_lgcd {x y v : Int64} (e : v = x - x / y * y) (hy : y.toInt ≠ 0) : Int.gcd y.toInt v.toInt = Int.gcd x.toInt y.toInt ∧ v.toInt.natAbs < y.toInt.natAbs := by
  rw [h_lrem e hy]
  refine ⟨?_, ?_⟩
  · show Nat.gcd y.toInt.natAbs (x.toInt.tmod y.toInt).natAbs = Nat.gcd x.toInt.natAbs y.toInt.natAbs
    rw [Int.natAbs_tmod, Nat.gcd_comm x.toInt.natAbs, Nat.gcd_rec y.toInt.natAbs x.toInt.natAbs, Nat.gcd_comm]
  · rw [Int.natAbs_tmod]
    exact Nat.mod_lt _ (by omega)
theorem h_ldiv {x y v : Int64} (e : v = x / y) (hx : -9223372036854775808 < x.toInt) (hy : y.toInt ≠ 0) (hd : y.toInt ∣ x.toInt) : y.toInt * v.toInt = x.toInt := by
  have h1 := l_hi x
  have h2 : y.toInt * x.toInt.tdiv y.toInt = x.toInt := Int.mul_tdiv_cancel' hd
  have h3 : (x.toInt.tdiv y.toInt).natAbs ≤ x.toInt.natAbs := by
    have h4 : x.toInt.natAbs = y.toInt.natAbs * (x.toInt.tdiv y.toInt).natAbs := by
      rw [← Int.natAbs_mul, h2]
    rw [h4]
    exact Nat.le_mul_of_pos_left _ (by omega)
  have h5 : v.toInt = x.toInt.tdiv y.toInt := by
    rw [e, Int64.toInt_div]
    exact Int.bmod_eq_of_le (by omega) (by omega)
  rw [h5, h2]
/-- the fraction's lower part while chances are added up -/
def h_ci (b all : Int) (j : Nat) : Prop := b ≠ 0 ∧ ∃ q : Int, b ∣ q ∧ all ∣ q ∧ 0 < q ∧ q ≤ 140 ^ (j + 1)
theorem h_pow (j : Nat) (hj : j < 8) : (140 : Int) ^ (j + 1) ≤ 147578905600000000 := (by decide +kernel : ∀ k : Nat, k < 8 → (140 : Int) ^ (k + 1) ≤ 147578905600000000) j hj
theorem h_ci.le {b all : Int} {j : Nat} (h : h_ci b all j) (hj : j < 8) : b ≠ 0 ∧ b.natAbs ≤ 147578905600000000 := by
  obtain ⟨h0, q, h1, -, h2, h3⟩ := h
  have := h_pow j hj
  have h4 := Int.le_of_dvd h2 (Int.natAbs_dvd.mpr h1)
  exact ⟨h0, by omega⟩
theorem h_ci.zero {all : Int} (h0 : 0 < all) (h1 : all ≤ 140) : h_ci 1 all 0 := ⟨by decide, all, Int.one_dvd all, Int.dvd_refl all, h0, by simpa using h1⟩
theorem h_ci.step {b f g d b1 : Int} {all x : Int} {j : Nat} (hi : h_ci b all j) (hf : f = all * x) (h0 : 0 < all) (hx : 1 ≤ x) (hx2 : x ≤ 140) (hg : g.natAbs = Int.gcd b f) (hd : g * d = b) (hb1 : b1 = d * f) : h_ci b1 all (j + 1) := by
  obtain ⟨hb, q, h1, h2, h3, h4⟩ := hi
  have hf0 : f ≠ 0 := by
    rw [hf]
    exact Int.mul_ne_zero (by omega) (by omega)
  have hl : b1.natAbs = Int.lcm b f := by
    have e1 : Int.gcd b f * Int.lcm b f = b.natAbs * f.natAbs := Int.gcd_mul_lcm b f
    have e2 : g.natAbs * b1.natAbs = b.natAbs * f.natAbs := by
      rw [hb1, Int.natAbs_mul, ← Nat.mul_assoc, ← Int.natAbs_mul, hd]
    rw [← hg, ← e2] at e1
    have e3 : 0 < g.natAbs := by
      rcases Nat.eq_zero_or_pos g.natAbs with h | h
      · exfalso
        apply hb
        rw [← hd, Int.natAbs_eq_zero.mp h, Int.zero_mul]
      · exact h
    exact (Nat.eq_of_mul_eq_mul_left e3 e1).symm
  have hd0 : d ≠ 0 := by
    intro h
    apply hb
    rw [← hd, h, Int.mul_zero]
  refine ⟨by rw [hb1]; exact Int.mul_ne_zero hd0 hf0, q * x, ?_, ?_, ?_, ?_⟩
  · have h5 : (Int.lcm b f : Int) ∣ q * x := by
      refine Int.coe_lcm_dvd (Int.dvd_trans h1 (Int.dvd_mul_right q x)) ?_
      rw [hf]
      exact Int.mul_dvd_mul h2 (Int.dvd_refl x)
    rw [← hl] at h5
    exact Int.natAbs_dvd.mp h5
  · exact Int.dvd_trans h2 (Int.dvd_mul_right q x)
  · exact Int.mul_pos h3 (by omega)
  · have h5 : q * x ≤ 140 ^ (j + 1) * 140 := Int.mul_le_mul h4 hx2 (by omega) (by omega)
    rw [Int.pow_succ]
    exact h5
theorem h_ci.cut {b c b1 : Int} {all : Int} {j : Nat} (hi : h_ci b all j) (hd : c * b1 = b) : h_ci b1 all j := by
  obtain ⟨hb, q, h1, h2, h3, h4⟩ := hi
  refine ⟨?_, q, Int.dvd_trans ⟨c, by rw [← hd, Int.mul_comm]⟩ h1, h2, h3, h4⟩
  intro h
  apply hb
  rw [← hd, h, Int.mul_zero]
theorem h_ci.mono {b all : Int} {j : Nat} (hi : h_ci b all j) : h_ci b all (j + 1) := by
  obtain ⟨hb, q, h1, h2, h3, h4⟩ := hi
  refine ⟨hb, q, h1, h2, h3, ?_⟩
  have h5 : (0 : Int) < 140 ^ (j + 1) := Int.pow_pos (by decide)
  rw [Int.pow_succ]
  omega
theorem h_lmul {x y v : Int64} {p : Int} (e : v = x * y) (hp : x.toInt * y.toInt = p) (h1 : -9223372036854775808 ≤ p) (h2 : p < 9223372036854775808) : v.toInt = p := by
  rw [e, Int64.toInt_mul, hp]
  exact Int.bmod_eq_of_le (by omega) (by omega)
/-- which row of laws holds -/
def h_blk (f : Nat → Int32) (y q : Nat) : Prop := (q ≤ y ∧ f q ≠ 0 ∧ ∀ j : Nat, q < j → j ≤ y → f j = 0) ∨ (q = 11 ∧ ∀ j : Nat, j ≤ y → f j = 0)
theorem h_blk.ex (f : Nat → Int32) : ∀ y : Nat, ∃ q : Nat, h_blk f y q
  | 0 => by
    by_cases h : f 0 = 0
    · refine ⟨11, Or.inr ⟨rfl, fun j hj => ?_⟩⟩
      rw [show j = 0 by omega]
      exact h
    · exact ⟨0, Or.inl ⟨Nat.le_refl 0, h, fun j h1 h2 => by omega⟩⟩
  | y + 1 => by
    by_cases h : f (y + 1) = 0
    · obtain ⟨q, hq⟩ := h_blk.ex f y
      refine ⟨q, ?_⟩
      rcases hq with ⟨h1, h2, h3⟩ | ⟨h1, h2⟩
      · refine Or.inl ⟨by omega, h2, fun j hj1 hj2 => ?_⟩
        by_cases e : j = y + 1
        · rw [e]
          exact h
        · exact h3 j hj1 (by omega)
      · refine Or.inr ⟨h1, fun j hj => ?_⟩
        by_cases e : j = y + 1
        · rw [e]
          exact h
        · exact h2 j (by omega)
    · exact ⟨y + 1, Or.inl ⟨Nat.le_refl _, h, fun j h1 h2 => by omega⟩⟩
theorem h_blk.lt {f : Nat → Int32} {y q : Nat} (h : h_blk f y q) (hy : y ≤ 9) : q < 12 ∧ q ≠ 10 := by
  rcases h with ⟨h1, -, -⟩ | ⟨h1, -⟩ <;> omega
theorem h_blk.no {f : Nat → Int32} {y q : Nat} (h : h_blk f y q) (hz : ∀ j : Nat, j ≤ y → f j = 0) : q = 11 := by
  rcases h with ⟨h1, h2, -⟩ | ⟨h1, -⟩
  · exact absurd (hz q h1) h2
  · exact h1
theorem h_blk.is {f : Nat → Int32} {y q k : Nat} (h : h_blk f y q) (hk : k ≤ y) (hf : f k ≠ 0) (hz : ∀ j : Nat, k < j → j ≤ y → f j = 0) : q = k := by
  rcases h with ⟨h1, h2, h3⟩ | ⟨h1, h2⟩
  · rcases Nat.lt_trichotomy q k with h4 | h4 | h4
    · exact absurd (h3 k h4 hk) hf
    · exact h4
    · exact absurd (hz q h4 h1) h2
  · exact absurd (h2 k hk) hf
def h_lt0 (f : Nat → Int32) (q : Nat) : Int := if (f (16 * q + 8)).toInt = 1 then 0 else (f (16 * q + 8)).toInt
def h_wt (f : Nat → Int32) (q i : Nat) : Int := if (i : Int) < h_lt0 f q then (f (16 * q + 9 + i)).toInt else 0
def h_sum (w : Nat → Int) : Nat → Int
  | 0 => 0
  | n + 1 => h_sum w n + w n
theorem h_sum_ge {w : Nat → Int} {n : Nat} (h : ∀ i : Nat, i < n → 1 ≤ w i) : (n : Int) ≤ h_sum w n := by
  induction n with
  | zero => simp [h_sum]
  | succ n ih =>
    have h1 := ih (fun i hi => h i (by omega))
    have h2 := h n (by omega)
    show ((n + 1 : Nat) : Int) ≤ h_sum w n + w n
    omega
theorem h_sum_gt {w : Nat → Int} {n j : Nat} (h : ∀ i : Nat, i < n → 1 ≤ w i) (hj : j < n) : w j + n ≤ h_sum w n + 1 := by
  induction n with
  | zero => omega
  | succ n ih =>
    have h2 := h n (by omega)
    show w j + ((n + 1 : Nat) : Int) ≤ h_sum w n + w n + 1
    by_cases e : j = n
    · subst e
      have := h_sum_ge (n := j) (fun i hi => h i (by omega))
      omega
    · have h1 := ih (fun i hi => h i (by omega)) (by omega)
      omega
theorem h_lt0_b {z : tZ} {I : tI} {lw q : Nat} (h : h_I z I) (ht : z.ty lw = 1310) : 0 ≤ h_lt0 (I lw) q ∧ h_lt0 (I lw) q ≤ 7 ∧ h_lt0 (I lw) q ≠ 1 := by
  have q1 := h lw (16 * q + 8)
  rw [ht, show h_bd 1310 (16 * q + 8) = h_lb (16 * q + 8) from rfl] at q1
  unfold h_lb at q1
  rw [if_pos (by omega)] at q1
  unfold h_lt0
  by_cases e : (I lw (16 * q + 8)).toInt = 1
  · rw [if_pos e]
    omega
  · rw [if_neg e]
    exact ⟨q1.1, q1.2, e⟩
theorem h_wt_pos {f : Nat → Int32} {q i : Nat} (h : h_ok f q) (h7 : h_lt0 f q ≤ 7) (hi : (i : Int) < h_lt0 f q) : 1 ≤ h_wt f q i := by
  unfold h_wt
  rw [if_pos hi]
  refine h i (by omega) ?_
  unfold h_lt0 at hi
  split at hi
  · omega
  · exact hi
theorem h_gd {g a b : Int} (h : g.natAbs = Int.gcd a b) : g ∣ a ∧ g ∣ b := by
  refine ⟨Int.natAbs_dvd.mp ?_, Int.natAbs_dvd.mp ?_⟩
  · rw [h]
    exact Int.gcd_dvd_left a b
  · rw [h]
    exact Int.gcd_dvd_right a b
theorem h_m140 {a b : Int} (h1 : 0 ≤ a) (h2 : a ≤ 140) (h3 : 0 ≤ b) (h4 : b ≤ 140) : 0 ≤ a * b ∧ a * b ≤ 19600 := ⟨Int.mul_nonneg h1 h3, Int.le_trans (Int.mul_le_mul h2 h4 h3 (by decide)) (by decide)⟩

