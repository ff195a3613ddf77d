/-! the reference's words: one string, cut at its blanks -/
def q_b9 (i : Int) : Int := ((h_byt10.getD 9 []).getD i.toNat 0).toInt % 256
def q_W (k : Int) : Int := if k ≤ 3 then 0 else if k ≤ 10 then 1 else if k ≤ 16 then 2 else if k ≤ 22 then 3 else if k ≤ 28 then 4 else if k ≤ 33 then 5 else if k ≤ 37 then 6 else if k ≤ 42 then 7 else 8
def q_F (k : Int) : Int := if k ≤ 3 then 0 else if k ≤ 10 then 4 else if k ≤ 16 then 11 else if k ≤ 22 then 17 else if k ≤ 28 then 23 else if k ≤ 33 then 29 else if k ≤ 37 then 34 else if k ≤ 42 then 38 else 43
theorem q_key_cN : ∀ k : Nat, k < 43 → q_b9 k ≠ 32 → q_W ((k : Int) + 1) = q_W k ∧ q_F ((k : Int) + 1) = q_F k := by decide +kernel
theorem q_key_sN : ∀ k : Nat, k < 43 → q_b9 k = 32 → (q_W ((k : Int) + 1) = q_W k + 1 ∧ q_F ((k : Int) + 1) = (k : Int) + 1 ∧ 0 ≤ q_W k ∧ q_W k < 8 ∧ 0 ≤ q_F k ∧ q_F k ≤ k) ∧ ((q_wd.getD (q_W k).toNat []).length : Int) = (k : Int) - q_F k ∧ ∀ j : Nat, j < ((k : Int) - q_F k).toNat → q_b9 (q_F k + j) = (q_wd.getD (q_W k).toNat []).getD j 0 := by decide +kernel
theorem q_key_c {k k1 : Int} (h0 : 0 ≤ k) (h : k < 43) (hb : q_b9 k ≠ 32) (e : k1 = k + 1) : q_W k1 = q_W k ∧ q_F k1 = q_F k := by
  obtain ⟨n, rfl⟩ : ∃ n : Nat, k = n := ⟨k.toNat, by omega⟩
  subst e
  exact q_key_cN n (by omega) hb
theorem q_key_s {k k1 : Int} (h0 : 0 ≤ k) (h : k < 43) (hb : q_b9 k = 32) (e : k1 = k + 1) : q_W k1 = q_W k + 1 ∧ q_F k1 = k + 1 ∧ 0 ≤ q_W k ∧ q_W k < 8 ∧ 0 ≤ q_F k ∧ q_F k ≤ k := by
  obtain ⟨n, rfl⟩ : ∃ n : Nat, k = n := ⟨k.toNat, by omega⟩
  subst e
  exact (q_key_sN n (by omega) hb).1
theorem q_key_is {g : Int → Int} {p n k : Int} (h0 : 0 ≤ k) (h : k < 43) (hb : q_b9 k = 32) : q_is g p n (q_wd.getD (q_W k).toNat []) = true ↔ (k - q_F k = n ∧ ∀ j : Nat, (j : Int) < n → g (p + j) = q_b9 (q_F k + j)) := by
  obtain ⟨m, rfl⟩ : ∃ m : Nat, k = m := ⟨k.toNat, by omega⟩
  obtain ⟨h1, h2, h3⟩ := q_key_sN m (by omega) hb
  unfold q_is
  rw [Bool.and_eq_true, decide_eq_true_eq, q_eq_iff, h2]
  constructor
  · rintro ⟨a1, a2⟩
    exact ⟨a1, fun j hj => (a2 j (by omega)).trans (h3 j (by omega)).symm⟩
  · rintro ⟨a1, a2⟩
    exact ⟨a1, fun j hj => (a2 j (by omega)).trans (h3 j (by omega))⟩
/-- one word more that isn't it -/
theorem q_wfalse {g : Int → Int} {p n k w w1 : Int} (h : ∀ j : Nat, (j : Int) < w → q_is g p n (q_wd.getD j []) = false) (h0 : 0 ≤ k) (h43 : k < 43) (hb : q_b9 k = 32) (hw : w = q_W k) (hn : ¬ (k - q_F k = n ∧ ∀ j : Nat, (j : Int) < n → g (p + j) = q_b9 (q_F k + j))) (e : w1 = w + 1) : ∀ j : Nat, (j : Int) < w1 → q_is g p n (q_wd.getD j []) = false := by
  intro j hj
  by_cases hjw : (j : Int) < w
  · exact h j hjw
  · have e2 : j = (q_W k).toNat := by omega
    rw [Bool.eq_false_iff, e2]
    exact fun hi => hn ((q_key_is h0 h43 hb).mp hi)
theorem q_wtrue {g : Int → Int} {p n k w : Int} (h : ∀ j : Nat, (j : Int) < w → q_is g p n (q_wd.getD j []) = false) (h0 : 0 ≤ k) (h43 : k < 43) (hb : q_b9 k = 32) (hw : w = q_W k) (hy : k - q_F k = n ∧ ∀ j : Nat, (j : Int) < n → g (p + j) = q_b9 (q_F k + j)) : w = q_fd g p n q_wd 0 := by
  have hs := q_key_s h0 h43 hb rfl
  have h8 : (q_W k).toNat < 8 := by omega
  have h1 := q_fd_eq (g := g) (a := p) (n := n) q_wd 0 (q_W k).toNat h8 ((q_key_is h0 h43 hb).mpr hy) (fun j hj => h j (by omega))
  rw [h1]
  omega
theorem q_wnone {g : Int → Int} {p n w : Int} (h : ∀ j : Nat, (j : Int) < w → q_is g p n (q_wd.getD j []) = false) (h8 : 8 ≤ w) : q_fd g p n q_wd 0 = -1 := q_fd_no q_wd 0 (fun j hj => h j (by
  have hj8 : j < 8 := hj
  omega))
theorem q_W43 {k : Int} (h : 43 ≤ k) : q_W k = 8 := by
  unfold q_W
  rw [if_neg (by omega), if_neg (by omega), if_neg (by omega), if_neg (by omega), if_neg (by omega), if_neg (by omega), if_neg (by omega), if_neg (by omega)]
theorem q_len9 : (h_len10.getD 9 0 : Int) = 43 := by decide +kernel
theorem q_numstep2 {g : Int → Int} {a b b1 : Int} {v x t u r : Int32} (ex : x = 10 * v) (et : t = x + r) (eu : u = t - 48) (hr : r.toInt = g b) (hab : a ≤ b) (hb1 : b1 = b + 1) (hD : ∀ j : Int, a ≤ j → j < b → q_D (g j) = true) (hd : 48 ≤ g b ∧ g b ≤ 57) (h : b - a ≤ 5 → v.toInt = q_dec g a (b - a).toNat) : b1 - a ≤ 5 → u.toInt = q_dec g a (b1 - a).toNat := by
  intro hc
  have hv := h (by omega)
  have hb := q_dec_s (g := g) (a := a) (n := (b - a).toNat) (by omega) (fun j h1 h2 => hD j h1 (by omega))
  have h1 : x.toInt = 10 * v.toInt := xi_mul ex (by decide) rfl (by omega) (by omega)
  have h2 : t.toInt = x.toInt + r.toInt := xi_add et rfl rfl (by omega) (by omega)
  have h3 : u.toInt = t.toInt - 48 := xi_sub eu rfl (by decide) (by omega) (by omega)
  rw [q_dec_step hab hb1]
  omega
theorem q_dec1 {g : Int → Int} {a b : Int} (e : b = a + 1) : q_dec g a (b - a).toNat = g a - 48 := by
  rw [q_dec_step (b := a) (Int.le_refl a) e, show (a - a).toNat = 0 by omega]
  show 10 * 0 + (g a - 48) = _
  omega
/-- a token that was scanned: kind, word, number, as the reference writes them -/
def h_sc (k w v s wh wo : Int) : Prop := (k = 0 ∧ s = 4) ∨ (k = 1 ∧ w = -1 ∧ s = 0) ∨ (k = 1 ∧ 0 ≤ w ∧ w ≤ 7 ∧ s = 1 ∧ wh = w) ∨ (k = 2 ∧ s = 2 ∧ wo = v) ∨ (k = 3 ∧ s = 3) ∨ (k = 4 ∧ s = 0)
def h_tk (g : Int → Int) (I : tI) (a : Nat) (p : Int) : Prop := (I a 5).toInt = q_a g p ∧ (I a 6).toInt = q_e g p ∧ h_sc (q_k g p) (q_w g p) (q_v g p) (I a 3).toInt (I a 4).toInt (I a 7).toInt ∧ 0 ≤ p ∧ p ≤ (I a 5).toInt ∧ (I a 5).toInt ≤ (I a 6).toInt ∧ (I a 6).toInt ≤ 500 ∧ ((I a 3).toInt = 4 ∨ (I a 5).toInt < (I a 6).toInt)
theorem h_tk.c {g : Int → Int} {I I1 : tI} {a : Nat} {p : Int} (h : h_tk g I a p) (e3 : I1 a 3 = I a 3) (e4 : I1 a 4 = I a 4) (e5 : I1 a 5 = I a 5) (e6 : I1 a 6 = I a 6) (e7 : I1 a 7 = I a 7) : h_tk g I1 a p := by
  unfold h_tk at h ⊢
  rw [e3, e4, e5, e6, e7]
  exact h
theorem q_fd_rg {g : Int → Int} {a n : Int} : -1 ≤ q_fd g a n q_wd 0 ∧ q_fd g a n q_wd 0 ≤ 7 := by
  by_cases h : ∃ k : Nat, k < 8 ∧ q_is g a n (q_wd.getD k []) = true
  · have : ∀ m : Nat, m ≤ 8 → (∃ k : Nat, k < m ∧ q_is g a n (q_wd.getD k []) = true) → ∃ k : Nat, k < m ∧ q_is g a n (q_wd.getD k []) = true ∧ ∀ j : Nat, j < k → q_is g a n (q_wd.getD j []) = false := by
      intro m
      induction m with
      | zero => rintro _ ⟨k, hk, _⟩; exact absurd hk (Nat.not_lt_zero _)
      | succ m ih =>
        rintro hm ⟨k, hk, h1⟩
        by_cases h2 : ∃ k : Nat, k < m ∧ q_is g a n (q_wd.getD k []) = true
        · obtain ⟨k2, a1, a2, a3⟩ := ih (by omega) h2
          exact ⟨k2, by omega, a2, a3⟩
        · refine ⟨k, hk, h1, fun j hj => ?_⟩
          rw [Bool.eq_false_iff]
          exact fun hi => h2 ⟨j, by omega, hi⟩
    obtain ⟨k, hk, h1, h2⟩ := this 8 (Nat.le_refl _) h
    have h3 := q_fd_eq (g := g) (a := a) (n := n) q_wd 0 k hk h1 h2
    rw [h3]
    omega
  · rw [q_fd_no q_wd 0 (fun j hj => by
      rw [Bool.eq_false_iff]
      exact fun hi => h ⟨j, hj, hi⟩)]
    decide
/-! lines as the reference reads them -/
def h_ru (I : tI) (lw : Nat) (u : Nat → Int) : Prop := ∀ i : Nat, i < 16 → (I lw (160 + i)).toInt = u i
theorem h_ru.c {I I1 : tI} {lw : Nat} {u : Nat → Int} (h : h_ru I lw u) (e : ∀ k : Nat, I1 lw k = I lw k) : h_ru I1 lw u := fun i hi => by
  rw [e]
  exact h i hi
theorem h_ru.put {I I1 : tI} {lw : Nat} {u : Nat → Int} {y v : Int} (h : h_ru I lw u) (h0 : 0 ≤ y) (h1 : (I1 lw (160 + y).toNat).toInt = v) (h2 : ∀ k : Nat, (k : Int) ≠ 160 + y → I1 lw k = I lw k) : h_ru I1 lw (q_up u y.toNat v) := by
  intro i hi
  unfold q_up
  by_cases hiy : i = y.toNat
  · rw [if_pos hiy, ← h1]
    congr 2
    omega
  · rw [if_neg hiy, h2 (160 + i) (by omega)]
    exact h i hi
def q_hg (k : Int) : Int := if k = 0 then 50000 else if k = 1 then 15 else if k = 2 then 5 else if k = 3 then 5000 else if k = 4 then 300 else if k = 5 then 5000 else if k = 6 then 100 else 300
theorem q_ln_a {w : Int} (h0 : 0 ≤ w) (h3 : w ≤ 3) : q_ln w = [(w.toNat, if w < 3 then 1 else 0, q_hg w)] := by
  rcases (show w = 0 ∨ w = 1 ∨ w = 2 ∨ w = 3 by omega) with rfl | rfl | rfl | rfl <;> decide +kernel
theorem q_ln_4 {w : Int} (h : w = 4) : q_ln w = [(4, 0, q_hg 4), (5, 0, q_hg 5)] := by
  subst h
  decide +kernel
theorem q_ln_b {w y : Int} (h0 : 5 ≤ w) (h3 : w ≤ 6) (e : y = w + 1) : q_ln w = [(y.toNat, 0, q_hg y)] := by
  subst e
  rcases (show w = 5 ∨ w = 6 by omega) with rfl | rfl <;> decide +kernel
theorem q_ns_k {g : Int → Int} {i : Nat} {lo hi p : Int} {t : List (Nat × Int × Int)} {u : Nat → Int} (hk : q_k g p = 2) (h1 : lo ≤ q_v g p) (h2 : q_v g p ≤ hi) : q_ns g ((i, lo, hi) :: t) p u = q_ns g t (q_e g p) (q_up u i (q_v g p)) := by
  show (if q_nf g p lo hi = 0 then q_ns g t (q_e g p) (q_up u i (q_v g p)) else _) = _
  have h3 : q_nf g p lo hi = 0 := by
    unfold q_nf
    rw [if_neg (by omega), if_neg (by omega)]
  rw [if_pos h3]
theorem q_ns_g1 {g : Int → Int} {i : Nat} {lo hi p : Int} {t : List (Nat × Int × Int)} {u : Nat → Int} (hk : q_k g p ≠ 2) : q_ns g ((i, lo, hi) :: t) p u = (1, q_a g p, p, u) := by
  show (if q_nf g p lo hi = 0 then _ else (q_nf g p lo hi, q_a g p, p, u)) = _
  have h3 : q_nf g p lo hi = 1 := by
    unfold q_nf
    rw [if_pos hk]
  rw [h3]
  rfl
theorem q_ns_g2 {g : Int → Int} {i : Nat} {lo hi p : Int} {t : List (Nat × Int × Int)} {u : Nat → Int} (hk : q_k g p = 2) (hv : q_v g p < lo ∨ hi < q_v g p) : q_ns g ((i, lo, hi) :: t) p u = (2, q_a g p, p, u) := by
  show (if q_nf g p lo hi = 0 then _ else (q_nf g p lo hi, q_a g p, p, u)) = _
  have h3 : q_nf g p lo hi = 2 := by
    unfold q_nf
    rw [if_neg (by omega), if_pos hv]
  rw [h3]
  rfl
theorem q_line_w {g : Int → Int} {p : Int} {T : Int → Bool} {u : Nat → Int} (h1 : q_k g p = 1) (h2 : 0 ≤ q_w g p) (h3 : q_w g p ≤ 6) (h : T (q_w g p) = false) : q_line g p T u = q_ns g (q_ln (q_w g p)) (q_e g p) u := by
  unfold q_line
  rw [if_neg (by omega), if_neg (by rw [h]; decide), if_neg (by omega)]
/-- which words were told: bits by words -/
def h_tld (x : Int32) (T : Int → Bool) : Prop := ∃ b : Nat, b < 256 ∧ x = nI b ∧ ∀ w : Nat, w < 8 → b.testBit w = T w
theorem h_tld0 : h_tld 0 (fun _ => false) := ⟨0, by decide, by decide, fun w _ => Nat.zero_testBit _⟩
theorem h_bit_shr : ∀ b : Nat, b < 256 → ∀ k : Nat, k < 8 → ((nI b >>> (nI k &&& 31)) &&& 1 = 1 ↔ b.testBit k = true) := by decide +kernel
theorem h_bit_or8 : ∀ b : Nat, b < 256 → ∀ k : Nat, k < 8 → nI b ||| ((1 : Int32) <<< (nI k &&& 31)) = nI (b ||| 2 ^ k) := by decide +kernel
theorem h_tld.get {x : Int32} {T : Int → Bool} (h : h_tld x T) {w : Int} (h0 : 0 ≤ w) (h7 : w ≤ 7) {y s v : Int32} (hl : y.toInt = w) (e1 : s = x >>> (y &&& 31)) (e2 : v = s &&& 1) : (v.toInt = 1 ∧ T w = true) ∨ (v.toInt ≠ 1 ∧ T w = false) := by
  obtain ⟨b, hb, hx, ht⟩ := h
  have hy : y = nI w.toNat := xi_of (by rw [hl, nI_toInt (by omega)]; omega)
  have h1 := h_bit_shr b hb w.toNat (by omega)
  have h2 := ht w.toNat (by omega)
  rw [show ((w.toNat : Nat) : Int) = w by omega] at h2
  rw [← hy, ← hx, ← e1, ← e2, h2] at h1
  cases hT : T w with
  | true => exact Or.inl ⟨by rw [h1.mpr hT]; decide, rfl⟩
  | false =>
    refine Or.inr ⟨fun hv => ?_, rfl⟩
    have h3 := h1.mp (xi_of (by rw [hv]; decide))
    rw [hT] at h3
    cases h3
theorem h_tld.or {x : Int32} {T : Int → Bool} (h : h_tld x T) {w : Int} (h0 : 0 ≤ w) (h7 : w ≤ 7) {y s v : Int32} (hl : y.toInt = w) (e1 : s = 1 <<< (y &&& 31)) (e2 : v = x ||| s) : h_tld v (fun c => T c || decide (c = w)) := by
  obtain ⟨b, hb, hx, ht⟩ := h
  have hy : y = nI w.toNat := xi_of (by rw [hl, nI_toInt (by omega)]; omega)
  have h1 := h_bit_or8 b hb w.toNat (by omega)
  rw [← hy, ← hx, ← e1, ← e2] at h1
  have h2 : 2 ^ w.toNat < 2 ^ 8 := Nat.pow_lt_pow_right (by decide) (by omega)
  refine ⟨b ||| 2 ^ w.toNat, Nat.or_lt_two_pow (n := 8) hb h2, h1, fun c hc => ?_⟩
  rw [Nat.testBit_or, ht c hc, Nat.testBit_two_pow]
  congr 1
  have h3 : (w.toNat = c) ↔ ((c : Int) = w) := by omega
  simp only [h3]
def h_rv (I : tI) (lw : Nat) (u : Nat → Int) : Prop := ∀ i : Nat, i < 16 → i ≠ 8 → (I lw (160 + i)).toInt = u i
theorem h_ru.rv {I : tI} {lw : Nat} {u : Nat → Int} (h : h_ru I lw u) : h_rv I lw u := fun i hi _ => h i hi
theorem h_rv.ru {I : tI} {lw : Nat} {u : Nat → Int} (h : h_rv I lw u) (h8 : (I lw 168).toInt = u 8) : h_ru I lw u := fun i hi => by
  by_cases hi8 : i = 8
  · subst hi8
    exact h8
  · exact h i hi hi8
theorem h_rv.c {I I1 : tI} {lw : Nat} {u : Nat → Int} (h : h_rv I lw u) (e : ∀ k : Nat, k ≠ 168 → I1 lw k = I lw k) : h_rv I1 lw u := fun i hi h8 => by
  rw [e _ (by omega)]
  exact h i hi h8
theorem h_rv.put {I I1 : tI} {lw : Nat} {u : Nat → Int} {y v : Int} (h : h_rv I lw u) (h0 : 0 ≤ y) (h1 : (I1 lw (160 + y).toNat).toInt = v) (h2 : ∀ k : Nat, (k : Int) ≠ 160 + y → I1 lw k = I lw k) : h_rv I1 lw (q_up u y.toNat v) := by
  intro i hi h8
  unfold q_up
  by_cases hiy : i = y.toNat
  · rw [if_pos hiy, ← h1]
    congr 2
    omega
  · rw [if_neg hiy, h2 (160 + i) (by omega)]
    exact h i hi h8
theorem h_rv.up8 {I : tI} {lw : Nat} {u : Nat → Int} {v : Int} (h : h_rv I lw u) : h_rv I lw (q_up u 8 v) := fun i hi h8 => by
  unfold q_up
  rw [if_neg h8]
  exact h i hi h8
theorem q_up_ne {u : Nat → Int} {i j : Nat} {v : Int} (h : j ≠ i) : q_up u i v j = u j := if_neg h

