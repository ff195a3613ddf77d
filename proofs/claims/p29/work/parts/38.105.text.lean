/-! the lots of a text that is good -/
def q_ok (u : Nat → Int) : Prop := 1 ≤ u 8 ∧ u 8 ≤ 6 ∧ ∀ i : Nat, (i : Int) < u 8 → 1 ≤ u (9 + i) ∧ u (9 + i) ≤ 20
theorem q_ok_pl : q_ok q_pl := by
  refine ⟨by decide, by decide, fun i hi => ?_⟩
  have h8 : q_pl 8 = 1 := by decide
  rw [h8] at hi
  have : i = 0 := by omega
  subst this
  decide
theorem q_ok_up {u : Nat → Int} {i : Nat} {v : Int} (h : q_ok u) (hi : i < 8) : q_ok (q_up u i v) := by
  unfold q_ok
  rw [q_up_ne (show 8 ≠ i by omega)]
  refine ⟨h.1, h.2.1, fun j hj => ?_⟩
  rw [q_up_ne (show 9 + j ≠ i by omega)]
  exact h.2.2 j hj
theorem q_ns_okk {g : Int → Int} : ∀ (t : List (Nat × Int × Int)) (p : Int) (u : Nat → Int), (∀ q ∈ t, q.1 < 8) → q_ok u → (q_ns g t p u).1 = 0 → q_ok (q_ns g t p u).2.2.2 := by
  intro t
  induction t with
  | nil =>
    intro p u _ hu h
    unfold q_ns at h ⊢
    split at h
    · rename_i hk
      rw [if_pos hk]
      exact hu
    · cases h
  | cons x t ih =>
    obtain ⟨i, lo, hi⟩ := x
    intro p u ht hu h
    unfold q_ns at h ⊢
    split at h
    · rename_i hk
      rw [if_pos hk]
      exact ih _ _ (fun q hq => ht q (List.mem_cons_of_mem _ hq)) (q_ok_up hu (ht (i, lo, hi) (List.mem_cons_self ..))) h
    · rename_i hk
      exact absurd h hk
theorem q_lt_okk {g : Int → Int} : ∀ (n i : Nat) (p : Int) (u : Nat → Int), n + i = 6 → (∀ j : Nat, j < i → 1 ≤ u (9 + j) ∧ u (9 + j) ≤ 20) → (0 < i → u 8 = i) → (q_lt g n i p u).1 = 0 → q_ok (q_lt g n i p u).2.2.2 := by
  intro n
  have fin : ∀ (i : Nat) (u : Nat → Int), 0 < i → i ≤ 6 → (∀ j : Nat, j < i → 1 ≤ u (9 + j) ∧ u (9 + j) ≤ 20) → (0 < i → u 8 = i) → q_ok u := by
    intro i u h0 h6 h1 h2
    have h8 := h2 h0
    refine ⟨by omega, by omega, fun j hj => h1 j (by omega)⟩
  induction n with
  | zero =>
    intro i p u hn h1 h2 h
    unfold q_lt at h ⊢
    split at h
    · rename_i hk
      rw [if_pos hk]
      exact fin i u (by omega) (by omega) h1 h2
    · cases h
  | succ n ih =>
    intro i p u hn h1 h2 h
    unfold q_lt at h ⊢
    split at h
    · rename_i hk
      rw [if_pos hk]
      exact fin i u hk.2 (by omega) h1 h2
    · rename_i hk
      rw [if_neg hk]
      split at h
      · rename_i hf
        rw [if_pos hf]
        have hv : 1 ≤ q_v g p ∧ q_v g p ≤ 20 := by
          unfold q_nf at hf
          split at hf
          · cases hf
          · split at hf
            · cases hf
            · omega
        refine ih (i + 1) _ _ (by omega) (fun j hj => ?_) (fun _ => ?_) h
        · rw [q_up_ne (show 9 + j ≠ 8 by omega)]
          by_cases hji : j = i
          · subst hji
            rw [q_up_eq]
            exact hv
          · rw [q_up_ne (show 9 + j ≠ 9 + i by omega)]
            exact h1 j (by omega)
        · rw [q_up_eq]
          omega
      · rename_i hf
        exact absurd h hf
theorem q_ln_8 (w : Int) : ∀ q ∈ q_ln w, q.1 < 8 := by
  unfold q_ln
  repeat (first | (split) | (intro q hq; simp at hq; rcases hq with rfl | rfl <;> decide) | (intro q hq; simp at hq; subst hq; decide))
theorem q_line_ok {g : Int → Int} {p : Int} {T : Int → Bool} {u : Nat → Int} (hu : q_ok u) (h : (q_line g p T u).1 = 0) : q_ok (q_line g p T u).2.2.2 := by
  unfold q_line at h ⊢
  split at h
  · cases h
  · rename_i h1
    rw [if_neg h1]
    split at h
    · cases h
    · rename_i h2
      rw [if_neg h2]
      split at h
      · rename_i h3
        rw [if_pos h3]
        exact q_lt_okk 6 0 _ u rfl (fun j hj => absurd hj (Nat.not_lt_zero _)) (fun h0 => absurd h0 (Nat.lt_irrefl _)) h
      · rename_i h3
        rw [if_neg h3]
        exact q_ns_okk _ _ u (q_ln_8 _) hu h
theorem q_text_ok {g : Int → Int} : ∀ (n : Nat) (p : Int) (T : Int → Bool) (u : Nat → Int) (m : Int), q_ok u → (q_text g n p T u m).1 = 0 → q_ok (q_text g n p T u m).2.2.2 := by
  intro n
  induction n with
  | zero => intro p T u m _ h; cases h
  | succ n ih =>
    intro p T u m hu h
    unfold q_text at h ⊢
    split at h
    · rename_i hk
      rw [if_pos hk]
      exact hu
    · rename_i hk
      rw [if_neg hk]
      split at h
      · rename_i hl
        rw [if_pos hl]
        exact ih _ _ _ _ (q_line_ok hu hl) h
      · rename_i hl
        exact absurd h hl
theorem q_line_1 {g : Int → Int} {p : Int} {T : Int → Bool} {u : Nat → Int} (h : (q_line g p T u).1 = 0) : q_k g p = 1 ∧ q_w g p ≠ -1 := by
  by_cases hc : q_k g p ≠ 1 ∨ q_w g p = -1
  · rw [q_line_f1 hc] at h
    cases h
  · omega
theorem q_plmore {I I1 : tI} {lw : Nat} {l l1 : Int} {i v : Int32} (h : ∀ j : Nat, (j : Int) < l → (I lw (160 + j)).toInt = q_pl j) (h0 : 0 ≤ l) (e : I1 = h_up I lw i.toNatClampNeg v) (hi : i.toInt = 160 + l) (hv : v.toInt = q_pl l.toNat) (e1 : l1 = l + 1) : ∀ j : Nat, (j : Int) < l1 → (I1 lw (160 + j)).toInt = q_pl j := by
  intro j hj
  by_cases hjl : (j : Int) < l
  · rw [h_n2 e (h_kne hi (by omega) (by omega))]
    exact h j hjl
  · have ej : j = l.toNat := by omega
    subst ej
    have ek := h_keq (k := 160 + l.toNat) hi (by omega) (by omega)
    rw [← ek, h_n0 e]
    exact hv
theorem q_cpmore {I I1 : tI} {lw y : Nat} {l l1 : Int} {i i2 v : Int32} (h : ∀ j : Nat, (j : Int) < l → I lw (16 * y + j) = I lw (160 + j)) (h0 : 0 ≤ l) (h16 : l < 16) (hy : y < 10) (e : I1 = h_up I lw i.toNatClampNeg v) (hi : i.toInt = 16 * y + l) (hi2 : i2.toInt = 160 + l) (hv : v = I lw i2.toNatClampNeg) (e1 : l1 = l + 1) : ∀ j : Nat, (j : Int) < l1 → I1 lw (16 * y + j) = I1 lw (160 + j) := by
  intro j hj
  rw [h_n2 e (show 160 + j ≠ i.toNatClampNeg from h_kne hi (by omega) (by omega))]
  by_cases hjl : (j : Int) < l
  · rw [h_n2 e (h_kne hi (by omega) (by omega))]
    exact h j hjl
  · have ej : j = l.toNat := by omega
    subst ej
    have ek := h_keq (k := 16 * y + l.toNat) hi (by omega) (by omega)
    have ek2 := h_keq (k := 160 + l.toNat) hi2 (by omega) (by omega)
    rw [← ek, h_n0 e, hv, ek2]
theorem q_ok_hok {I : tI} {lw : Nat} {u : Nat → Int} (h : h_ru I lw u) (hu : q_ok u) : h_ok (I lw) 10 := by
  intro i hi hc
  have h8 := h 8 (by decide)
  rw [show 16 * 10 + 8 = 160 + 8 by rfl, h8] at hc
  rw [show 16 * 10 + 9 + i = 160 + (9 + i) by omega, h (9 + i) (by omega)]
  exact (hu.2.2 i hc).1

