/-! words of lines -/
theorem q_eq_iff {g : Int → Int} : ∀ (u : List Int) (a : Int), q_eq g a u = true ↔ ∀ j : Nat, j < u.length → g (a + j) = u.getD j 0 := by
  intro u
  induction u with
  | nil => intro a; exact ⟨fun _ j hj => absurd hj (Nat.not_lt_zero _), fun _ => rfl⟩
  | cons c t ih =>
    intro a
    show (decide (g a = c) && q_eq g (a + 1) t) = true ↔ _
    rw [Bool.and_eq_true, decide_eq_true_eq, ih (a + 1)]
    constructor
    · rintro ⟨h1, h2⟩ j hj
      cases j with
      | zero =>
        rw [show a + ((0 : Nat) : Int) = a by omega]
        exact h1
      | succ j =>
        have h3 := h2 j (Nat.lt_of_succ_lt_succ hj)
        rw [show a + ((j + 1 : Nat) : Int) = a + 1 + j by omega]
        exact h3
    · intro h
      refine ⟨?_, fun j hj => ?_⟩
      · have h3 := h 0 (Nat.zero_lt_succ _)
        rw [show a + ((0 : Nat) : Int) = a by omega] at h3
        exact h3
      · have h3 := h (j + 1) (Nat.succ_lt_succ hj)
        rw [show a + ((j + 1 : Nat) : Int) = a + 1 + j by omega] at h3
        exact h3
def q_lnN (k : Nat) : Int := if k ≤ 4 then (k : Int) else (k : Int) + 1
def q_ll (w : Int) : Int := if w ≤ 4 then w else w + 1
theorem h_byt_wd : ∀ k : Nat, k < 8 → (q_wd.getD k []).length = h_len10.getD k 0 ∧ ∀ j : Nat, j < h_len10.getD k 0 → ((h_byt10.getD k []).getD j 0).toInt % 256 = (q_wd.getD k []).getD j 0 := by decide +kernel
theorem q_is_iff {g : Int → Int} {a n : Int} {k : Nat} (hk : k < 8) : q_is g a n (q_wd.getD k []) = true ↔ ((h_len10.getD k 0 : Int) = n ∧ ∀ j : Nat, (j : Int) < (h_len10.getD k 0 : Int) → g (a + j) = ((h_byt10.getD k []).getD j 0).toInt % 256) := by
  obtain ⟨h1, h2⟩ := h_byt_wd k hk
  unfold q_is
  rw [Bool.and_eq_true, decide_eq_true_eq, q_eq_iff, h1]
  constructor
  · rintro ⟨h3, h4⟩
    exact ⟨h3, fun j hj => (h4 j (by omega)).trans (h2 j (by omega)).symm⟩
  · rintro ⟨h3, h4⟩
    exact ⟨h3, fun j hj => (h4 j (by omega)).trans (h2 j hj)⟩
theorem q_fd_eq {g : Int → Int} {a n : Int} : ∀ (K : List (List Int)) (i : Int) (k : Nat), k < K.length → q_is g a n (K.getD k []) = true → (∀ j : Nat, j < k → q_is g a n (K.getD j []) = false) → q_fd g a n K i = i + k := by
  intro K
  induction K with
  | nil => intro i k hk; exact absurd hk (Nat.not_lt_zero _)
  | cons u t ih =>
    intro i k hk h1 h2
    show (if q_is g a n u = true then i else q_fd g a n t (i + 1)) = _
    cases k with
    | zero =>
      rw [if_pos (show q_is g a n u = true from h1)]
      omega
    | succ k =>
      have h3 : q_is g a n u = false := h2 0 (Nat.zero_lt_succ _)
      rw [if_neg (by rw [h3]; decide), ih (i + 1) k (Nat.lt_of_succ_lt_succ hk) h1 (fun j hj => h2 (j + 1) (Nat.succ_lt_succ hj))]
      omega
theorem q_fd_no {g : Int → Int} {a n : Int} : ∀ (K : List (List Int)) (i : Int), (∀ j : Nat, j < K.length → q_is g a n (K.getD j []) = false) → q_fd g a n K i = -1 := by
  intro K
  induction K with
  | nil => intro i _; rfl
  | cons u t ih =>
    intro i h
    show (if q_is g a n u = true then i else q_fd g a n t (i + 1)) = _
    have h3 : q_is g a n u = false := h 0 (Nat.zero_lt_succ _)
    rw [if_neg (by rw [h3]; decide)]
    exact ih (i + 1) (fun j hj => h (j + 1) (Nat.succ_lt_succ hj))
theorem q_wi_ln : ∀ k : Nat, k < 8 → h_wi (q_lnN k) = k := by decide +kernel
theorem q_lmore {g : Int → Int} {a n l l1 : Int} (h : ∀ k : Nat, k < 8 → q_lnN k < l → q_is g a n (q_wd.getD k []) = false) (hn : ¬ ((h_len10.getD (h_wi l) 0 : Int) = n ∧ ∀ j : Nat, (j : Int) < (h_len10.getD (h_wi l) 0 : Int) → g (a + j) = ((h_byt10.getD (h_wi l) []).getD j 0).toInt % 256)) (e : l1 = l + 1) : ∀ k : Nat, k < 8 → q_lnN k < l1 → q_is g a n (q_wd.getD k []) = false := by
  intro k hk hl
  by_cases hkl : q_lnN k < l
  · exact h k hk hkl
  · have e2 : l = q_lnN k := by omega
    rw [Bool.eq_false_iff]
    intro hi
    rw [e2, q_wi_ln k hk] at hn
    exact hn ((q_is_iff hk).mp hi)
theorem q_lfound {g : Int → Int} {a n l : Int} (h : ∀ k : Nat, k < 8 → q_lnN k < l → q_is g a n (q_wd.getD k []) = false) (h0 : 0 ≤ l) (h8 : l ≤ 8) (hn : 1 ≤ n) (hP : (h_len10.getD (h_wi l) 0 : Int) = n ∧ ∀ j : Nat, (j : Int) < (h_len10.getD (h_wi l) 0 : Int) → g (a + j) = ((h_byt10.getD (h_wi l) []).getD j 0).toInt % 256) : 0 ≤ q_fd g a n q_wd 0 ∧ q_fd g a n q_wd 0 ≤ 7 ∧ l = q_ll (q_fd g a n q_wd 0) := by
  obtain ⟨k, hk, e⟩ : ∃ k : Nat, k < 8 ∧ l = q_lnN k := by
    rcases (show l = 0 ∨ l = 1 ∨ l = 2 ∨ l = 3 ∨ l = 4 ∨ l = 5 ∨ l = 6 ∨ l = 7 ∨ l = 8 by omega) with rfl | rfl | rfl | rfl | rfl | rfl | rfl | rfl | rfl
    · exact ⟨0, by decide, by decide⟩
    · exact ⟨1, by decide, by decide⟩
    · exact ⟨2, by decide, by decide⟩
    · exact ⟨3, by decide, by decide⟩
    · exact ⟨4, by decide, by decide⟩
    · have h1 : (h_len10.getD (h_wi 5) 0 : Int) = 0 := by decide
      rw [h1] at hP
      omega
    · exact ⟨5, by decide, by decide⟩
    · exact ⟨6, by decide, by decide⟩
    · exact ⟨7, by decide, by decide⟩
  rw [e, q_wi_ln k hk] at hP
  have h1 : q_fd g a n q_wd 0 = 0 + k := q_fd_eq q_wd 0 k hk ((q_is_iff hk).mpr hP) (fun j hj => h j (by omega) (by
    rw [e]
    unfold q_lnN
    split <;> split <;> omega))
  rw [h1, e]
  refine ⟨by omega, by omega, ?_⟩
  unfold q_lnN q_ll
  split <;> split <;> omega
theorem q_lnone {g : Int → Int} {a n l : Int} (h : ∀ k : Nat, k < 8 → q_lnN k < l → q_is g a n (q_wd.getD k []) = false) (h8 : 9 ≤ l) : q_fd g a n q_wd 0 = -1 := q_fd_no q_wd 0 (fun j hj => h j hj (by
  have hj8 : j < 8 := hj
  unfold q_lnN
  split <;> omega))

