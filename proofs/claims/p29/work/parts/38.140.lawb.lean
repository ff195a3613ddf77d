/-! the numbers of a text are within their bounds -/
def q_bd8 (i : Nat) : Int × Int := if i = 0 then (1, 50000) else if i = 1 then (1, 15) else if i = 2 then (1, 5) else if i = 3 then (0, 5000) else if i = 4 then (0, 300) else if i = 5 then (0, 5000) else if i = 6 then (0, 100) else (0, 300)
def q_okc (u : Nat → Int) : Prop := ∀ i : Nat, i < 8 → (q_bd8 i).1 ≤ u i ∧ u i ≤ (q_bd8 i).2
theorem q_okc.b {u : Nat → Int} (h : q_okc u) : q_okb u := ⟨h 0 (by decide), h 1 (by decide), h 2 (by decide), h 3 (by decide), h 4 (by decide), h 5 (by decide), h 6 (by decide), h 7 (by decide)⟩
theorem q_okc.u {u v : Nat → Int} (h : q_okc u) (e : ∀ i : Nat, i < 16 → u i = v i) : q_okc v := fun i hi => by
  rw [← e i (by omega)]
  exact h i hi
theorem q_okc_pl : q_okc q_pl := by
  intro i hi
  have h : i = 0 ∨ i = 1 ∨ i = 2 ∨ i = 3 ∨ i = 4 ∨ i = 5 ∨ i = 6 ∨ i = 7 := by omega
  rcases h with rfl | rfl | rfl | rfl | rfl | rfl | rfl | rfl <;> decide
theorem q_okc_up {u : Nat → Int} {i : Nat} {v : Int} (h : q_okc u) (hv : i < 8 → (q_bd8 i).1 ≤ v ∧ v ≤ (q_bd8 i).2) : q_okc (q_up u i v) := by
  intro j hj
  unfold q_up
  by_cases hji : j = i
  · rw [if_pos hji, hji]
    exact hv (by omega)
  · rw [if_neg hji]
    exact h j hj
theorem q_nf_0 {g : Int → Int} {p lo hi : Int} (h : q_nf g p lo hi = 0) : lo ≤ q_v g p ∧ q_v g p ≤ hi := by
  unfold q_nf at h
  split at h
  · cases h
  · split at h
    · cases h
    · rename_i h1
      omega
theorem q_ns_okc {g : Int → Int} : ∀ (t : List (Nat × Int × Int)) (p : Int) (u : Nat → Int), (∀ q ∈ t, q.1 < 8 ∧ q_bd8 q.1 = (q.2.1, q.2.2)) → q_okc u → (q_ns g t p u).1 = 0 → q_okc (q_ns g t p u).2.2.2 := by
  intro t
  induction t with
  | nil =>
    intro p u _ hu h
    unfold q_ns at h ⊢
    split at h
    · rename_i hk
      rw [if_pos hk]
      exact hu
    · cases h
  | cons x t ih =>
    obtain ⟨i, lo, hi⟩ := x
    intro p u ht hu h
    unfold q_ns at h ⊢
    split at h
    · rename_i hk
      rw [if_pos hk]
      have hq := (ht (i, lo, hi) (List.mem_cons_self ..)).2
      exact ih _ _ (fun q hq => ht q (List.mem_cons_of_mem _ hq)) (q_okc_up hu (fun _ => by rw [hq]; exact q_nf_0 hk)) h
    · rename_i hk
      exact absurd h hk
theorem q_lt_okc {g : Int → Int} : ∀ (n i : Nat) (p : Int) (u : Nat → Int), q_okc u → q_okc (q_lt g n i p u).2.2.2 := by
  intro n
  induction n with
  | zero =>
    intro i p u hu
    unfold q_lt
    split
    · exact hu
    · exact hu
  | succ n ih =>
    intro i p u hu
    unfold q_lt
    split
    · exact hu
    · split
      · exact ih _ _ _ (q_okc_up (q_okc_up hu (fun h => absurd h (by omega))) (fun h => absurd h (by omega)))
      · exact hu
theorem q_ln_c (w : Int) : ∀ q ∈ q_ln w, q.1 < 8 ∧ q_bd8 q.1 = (q.2.1, q.2.2) := by
  unfold q_ln
  repeat (first | (split) | (intro q hq; simp at hq; rcases hq with rfl | rfl <;> decide) | (intro q hq; simp at hq; subst hq; decide))
theorem q_line_okc {g : Int → Int} {p : Int} {T : Int → Bool} {u : Nat → Int} (hu : q_okc u) (h : (q_line g p T u).1 = 0) : q_okc (q_line g p T u).2.2.2 := by
  unfold q_line at h ⊢
  split at h
  · cases h
  · rename_i h1
    rw [if_neg h1]
    split at h
    · cases h
    · rename_i h2
      rw [if_neg h2]
      split at h
      · rename_i h3
        rw [if_pos h3]
        exact q_lt_okc 6 0 _ u hu
      · rename_i h3
        rw [if_neg h3]
        exact q_ns_okc _ _ u (q_ln_c _) hu h
theorem q_text_okc {g : Int → Int} : ∀ (n : Nat) (p : Int) (T : Int → Bool) (u : Nat → Int) (m : Int), q_okc u → (q_text g n p T u m).1 = 0 → q_okc (q_text g n p T u m).2.2.2 := by
  intro n
  induction n with
  | zero => intro p T u m _ h; cases h
  | succ n ih =>
    intro p T u m hu h
    unfold q_text at h ⊢
    split at h
    · rename_i hk
      rw [if_pos hk]
      exact hu
    · rename_i hk
      rw [if_neg hk]
      split at h
      · rename_i hl
        rw [if_pos hl]
        exact ih _ _ _ _ (q_line_okc hu hl) h
      · rename_i hl
        exact absurd h hl
/-- the reference's rows of laws that are in force -/
def h_lbd (I : tI) (lw hy : Nat) : Prop := (∀ y : Nat, y < 10 → (I hy y).toInt = 1 → q_okc (fun i => (I lw (16 * y + i)).toInt)) ∧ q_okc (fun i => (I lw (176 + i)).toInt)
theorem h_lbd.get {I : tI} {lw hy : Nat} (h : h_lbd I lw hy) {y : Int} {u : Nat → Int} (hr : h_r12 (I hy) (I lw) y u) : q_okb u := by
  rcases hr with ⟨k, a1, a2, a3, a4, a5⟩ | ⟨a4, a5⟩
  · exact ((h.1 k a1 a3).u a5).b
  · exact (h.2.u a5).b
theorem h_lbd.c {I I1 : tI} {lw hy : Nat} (h : h_lbd I lw hy) (el : ∀ k : Nat, (k < 160 ∨ 176 ≤ k) → I1 lw k = I lw k) (ey : ∀ k : Nat, I1 hy k = I hy k) : h_lbd I1 lw hy :=
  ⟨fun y hy9 h1 => (h.1 y hy9 (by rw [← ey]; exact h1)).u (fun i hi => by rw [el _ (by omega)]), h.2.u (fun i hi => by rw [el _ (by omega)])⟩
theorem h_lbd.tell {I I1 : tI} {lw hy y : Nat} {U : Nat → Int} (h : h_lbd I lw hy) (hU : q_okc U) (hy9 : y < 10) (g1 : ∀ i : Nat, i < 16 → (I1 lw (16 * y + i)).toInt = U i) (g2 : ∀ k : Nat, (k < 160 ∨ 176 ≤ k) → (k < 16 * y ∨ 16 * y + 16 ≤ k) → I1 lw k = I lw k) (g4 : ∀ k : Nat, k ≠ y → I1 hy k = I hy k) : h_lbd I1 lw hy := by
  refine ⟨fun y' h10 h1 => ?_, h.2.u (fun i hi => by rw [g2 _ (by omega) (by omega)])⟩
  by_cases hyy : y' = y
  · subst hyy
    exact hU.u (fun i hi => (g1 i hi).symm)
  · exact (h.1 y' h10 (by rw [← g4 y' hyy]; exact h1)).u (fun i hi => by rw [g2 _ (by omega) (by omega)])
theorem h_lbd.init {I : tI} {lw hy : Nat} (h2 : ∀ k : Nat, I hy k = 0) (h4 : ∀ i : Nat, i < 16 → (I lw (176 + i)).toInt = q_pl i) : h_lbd I lw hy :=
  ⟨fun y _ h => absurd h (by rw [h2 y]; decide), q_okc_pl.u (fun i hi => (h4 i hi).symm)⟩
theorem q_i10 {C : Prop} [h : Decidable C] : (if C then (1 : Int32) else 0).toInt = if C then 1 else 0 := by
  cases h with
  | isTrue hc => rw [if_pos hc, if_pos hc]; decide
  | isFalse hc => rw [if_neg hc, if_neg hc]; decide

