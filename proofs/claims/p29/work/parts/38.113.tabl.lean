/-! a table: which letters were seen -/
def q_bit (c : Int) : Nat := if 0 ≤ c ∧ c ≤ 7 then 2 ^ c.toNat else 0
def q_seen (g : Int → Int) : Nat → Nat
  | 0 => 0
  | n + 1 => q_seen g n ||| q_bit (g n - 65)
theorem q_bit_lt (c : Int) : q_bit c < 2 ^ 8 := by
  unfold q_bit
  split
  · exact Nat.pow_lt_pow_right (by decide) (by omega)
  · decide
theorem q_seen_lt (g : Int → Int) : ∀ n : Nat, q_seen g n < 256 := by
  intro n
  induction n with
  | zero => exact (by decide : (0 : Nat) < 256)
  | succ n ih => exact Nat.or_lt_two_pow (n := 8) ih (q_bit_lt _)
theorem q_seen_in {g : Int → Int} {i i1 : Int} {x c s v : Int32} (hx : x = nI (q_seen g i.toNat)) (h0 : 0 ≤ i) (hc : c.toInt = g i - 65) (h1 : 0 ≤ c.toInt) (h7 : c.toInt ≤ 7) (e1 : s = 1 <<< (c &&& 31)) (e2 : v = x ||| s) (e : i1 = i + 1) : v = nI (q_seen g i1.toNat) := by
  have hb := h_bit_or8 (q_seen g i.toNat) (q_seen_lt g _) c.toInt.toNat (by omega)
  have hy : c = nI c.toInt.toNat := xi_of (by rw [nI_toInt (by omega)]; omega)
  rw [← hy, ← hx, ← e1, ← e2] at hb
  rw [hb, show i1.toNat = i.toNat + 1 by omega]
  show _ = nI (q_seen g i.toNat ||| q_bit (g (i.toNat : Int) - 65))
  rw [show ((i.toNat : Nat) : Int) = i by omega, ← hc]
  unfold q_bit
  rw [if_pos ⟨h1, h7⟩]
theorem q_seen_out {g : Int → Int} {i i1 : Int} {x : Int32} (hx : x = nI (q_seen g i.toNat)) (h0 : 0 ≤ i) (hc : ¬ (0 ≤ g i - 65 ∧ g i - 65 ≤ 7)) (e : i1 = i + 1) : x = nI (q_seen g i1.toNat) := by
  rw [hx, show i1.toNat = i.toNat + 1 by omega]
  show _ = nI (q_seen g i.toNat ||| q_bit (g (i.toNat : Int) - 65))
  rw [show ((i.toNat : Nat) : Int) = i by omega]
  unfold q_bit
  rw [if_neg hc, Nat.or_zero]
def h_istab (g : Int → Int) (n : Int) : Prop := n = 8 ∧ q_seen g 8 = 255
theorem q_tbmore {I I1 : tI} {rk : Nat} {g : Int → Int} {l l1 : Int} {i v : Int32} (h : ∀ j : Nat, (j : Int) < l → (I rk j).toInt = g j - 65) (h0 : 0 ≤ l) (e : I1 = h_up I rk i.toNatClampNeg v) (hi : i.toInt = l) (hv : v.toInt = g l - 65) (e1 : l1 = l + 1) : ∀ j : Nat, (j : Int) < l1 → (I1 rk j).toInt = g j - 65 := by
  intro j hj
  by_cases hjl : (j : Int) < l
  · rw [h_n2 e (h_kne hi (by omega) (by omega))]
    exact h j hjl
  · have ej : j = l.toNat := by omega
    subst ej
    have ek := h_keq (k := l.toNat) hi (by omega) (by omega)
    rw [← ek, h_n0 e, hv, ek, show ((l.toNat : Nat) : Int) = l by omega]
theorem q_seen_bit {g : Int → Int} {c : Nat} (hc : c < 8) : ∀ n : Nat, (q_seen g n).testBit c = true → ∃ k : Nat, k < n ∧ g k - 65 = c := by
  intro n
  induction n with
  | zero =>
    intro h
    have h0 : (0 : Nat).testBit c = false := Nat.zero_testBit c
    rw [show q_seen g 0 = 0 from rfl, h0] at h
    cases h
  | succ n ih =>
    intro h
    rw [show q_seen g (n + 1) = (q_seen g n ||| q_bit (g n - 65)) from rfl, Nat.testBit_or, Bool.or_eq_true] at h
    rcases h with h | h
    · obtain ⟨k, h1, h2⟩ := ih h
      exact ⟨k, by omega, h2⟩
    · unfold q_bit at h
      split at h
      · rename_i hb
        rw [Nat.testBit_two_pow, decide_eq_true_eq] at h
        exact ⟨n, by omega, by omega⟩
      · rw [Nat.zero_testBit] at h
        cases h
theorem q_255 : ∀ c : Nat, c < 8 → (255 : Nat).testBit c = true := by decide
theorem q_tab_all {g : Int → Int} {n : Int} (h : h_istab g n) (c : Int) (h0 : 0 ≤ c) (h7 : c ≤ 7) : ∃ k : Nat, k < 8 ∧ g k - 65 = c := by
  obtain ⟨k, h1, h2⟩ := q_seen_bit (g := g) (c := c.toNat) (by omega) 8 (by rw [h.2]; exact q_255 c.toNat (by omega))
  exact ⟨k, h1, by omega⟩
theorem q_seen8 {g : Int → Int} {x : Int32} (hx : x = nI (q_seen g 8)) : x.toInt = 255 ↔ q_seen g 8 = 255 := by
  have h := q_seen_lt g 8
  rw [hx, nI_toInt (by omega)]
  omega
theorem q_pc {g : Int → Int} : ∀ m : Nat, h_pc (q_seen g m) ≤ m ∧ (∀ k : Nat, k < m → ¬ (0 ≤ g k - 65 ∧ g k - 65 ≤ 7) → h_pc (q_seen g m) + 1 ≤ m) := by
  intro m
  induction m with
  | zero => exact ⟨(by decide : h_pc 0 ≤ 0), fun k hk => absurd hk (Nat.not_lt_zero _)⟩
  | succ m ih =>
    rw [show q_seen g (m + 1) = (q_seen g m ||| q_bit (g m - 65)) from rfl]
    by_cases hb : 0 ≤ g m - 65 ∧ g m - 65 ≤ 7
    · have e : q_bit (g m - 65) = 2 ^ (g m - 65).toNat := if_pos hb
      have h1 := h_pc_or (q_seen g m) (q_seen_lt g m) (g m - 65).toNat (by omega)
      rw [e]
      refine ⟨by omega, fun k hk hn => ?_⟩
      have hkm : k < m := by
        rcases Nat.lt_or_ge k m with h | h
        · exact h
        · have : k = m := by omega
          subst this
          exact absurd hb hn
      have := ih.2 k hkm hn
      omega
    · have e : q_bit (g m - 65) = 0 := if_neg hb
      rw [e, Nat.or_zero]
      have := ih.1
      exact ⟨by omega, fun k hk hn => by omega⟩
theorem q_tab_in {g : Int → Int} {n : Int} (h : h_istab g n) (k : Nat) (hk : k < 8) : 0 ≤ g k - 65 ∧ g k - 65 ≤ 7 := by
  have h1 := (q_pc (g := g) 8).2 k hk
  rw [h.2, show h_pc 255 = 8 by decide] at h1
  by_cases hb : 0 ≤ g k - 65 ∧ g k - 65 ≤ 7
  · exact hb
  · have := h1 hb
    omega

