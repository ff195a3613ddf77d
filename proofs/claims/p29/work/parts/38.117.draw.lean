/-! lots: how many take part, whom a number falls on -/
def q_nl (u : Nat → Int) : Int := if 2 ≤ u 8 then u 8 else 0
def q_lot (u : Nat → Int) (as : Int) : Nat → Nat → Int → Int
  | 0, _, _ => -1
  | n + 1, i, x => if (i : Int) = as then q_lot u as n (i + 1) x else if x < u (9 + i) then (i : Int) else q_lot u as n (i + 1) (x - u (9 + i))
/-- the weights of those that are left -/
def q_sum (u : Nat → Int) (as : Int) : Nat → Nat → Int
  | 0, _ => 0
  | n + 1, i => (if (i : Int) = as then 0 else u (9 + i)) + q_sum u as n (i + 1)
theorem q_lot_rg {u : Nat → Int} {as : Int} : ∀ (n i : Nat) (x : Int), q_lot u as n i x = -1 ∨ ((i : Int) ≤ q_lot u as n i x ∧ q_lot u as n i x < (i : Int) + n ∧ q_lot u as n i x ≠ as) := by
  intro n
  induction n with
  | zero => intro i x; exact Or.inl rfl
  | succ n ih =>
    intro i x
    unfold q_lot
    by_cases h1 : (i : Int) = as
    · rw [if_pos h1]
      rcases ih (i + 1) x with h | h
      · exact Or.inl h
      · exact Or.inr ⟨by omega, by omega, h.2.2⟩
    · rw [if_neg h1]
      by_cases h2 : x < u (9 + i)
      · rw [if_pos h2]
        exact Or.inr ⟨by omega, by omega, h1⟩
      · rw [if_neg h2]
        rcases ih (i + 1) (x - u (9 + i)) with h | h
        · exact Or.inl h
        · exact Or.inr ⟨by omega, by omega, h.2.2⟩
theorem q_sum_0 {u : Nat → Int} {as : Int} : ∀ (n i : Nat), (∀ j : Nat, i ≤ j → j < i + n → 1 ≤ u (9 + j)) → 0 ≤ q_sum u as n i := by
  intro n
  induction n with
  | zero => intro i _; exact Int.le_refl 0
  | succ n ih =>
    intro i h
    have h1 := ih (i + 1) (fun j h1 h2 => h j (by omega) (by omega))
    have h2 := h i (Nat.le_refl _) (by omega)
    unfold q_sum
    split <;> omega
/-- it falls on no one just beyond the weights -/
theorem q_lot_no {u : Nat → Int} {as : Int} : ∀ (n i : Nat) (x : Int), 0 ≤ x → (∀ j : Nat, i ≤ j → j < i + n → 1 ≤ u (9 + j)) → (q_lot u as n i x = -1 ↔ q_sum u as n i ≤ x) := by
  intro n
  induction n with
  | zero => intro i x h0 _; exact ⟨fun _ => h0, fun _ => rfl⟩
  | succ n ih =>
    intro i x h0 h
    have hr := q_sum_0 (u := u) (as := as) n (i + 1) (fun j h1 h2 => h j (by omega) (by omega))
    have hw := h i (Nat.le_refl _) (by omega)
    unfold q_lot q_sum
    by_cases h1 : (i : Int) = as
    · rw [if_pos h1, if_pos h1, ih (i + 1) x h0 (fun j h1 h2 => h j (by omega) (by omega))]
      omega
    · rw [if_neg h1, if_neg h1]
      by_cases h2 : x < u (9 + i)
      · rw [if_pos h2]
        omega
      · rw [if_neg h2, ih (i + 1) (x - u (9 + i)) (by omega) (fun j h1 h2 => h j (by omega) (by omega))]
        omega
theorem q_sum_out {u : Nat → Int} {as : Int} : ∀ (n i : Nat), (as < (i : Int) ∨ (i : Int) + n ≤ as) → q_sum u as n i = q_sum u (-1) n i := by
  intro n
  induction n with
  | zero => intro i _; rfl
  | succ n ih =>
    intro i h
    unfold q_sum
    rw [if_neg (by omega), if_neg (by omega), ih (i + 1) (by omega)]
theorem q_sum_as {u : Nat → Int} {as : Int} : ∀ (n i : Nat), (i : Int) ≤ as → as < (i : Int) + n → q_sum u as n i = q_sum u (-1) n i - u (9 + as.toNat) := by
  intro n
  induction n with
  | zero => intro i h1 h2; omega
  | succ n ih =>
    intro i h1 h2
    unfold q_sum
    rw [if_neg (show ¬ ((i : Int) = -1) by omega)]
    by_cases h : (i : Int) = as
    · rw [if_pos h, q_sum_out n (i + 1) (by omega), show as.toNat = i by omega]
      omega
    · rw [if_neg h, ih (i + 1) (by omega) (by omega)]
      omega
/-- numbers that may be drawn -/
def q_draws (u : Nat → Int) (a b : Int) : Prop := (q_nl u = 0 ∧ a = 0 ∧ b = 0) ∨ (q_nl u ≠ 0 ∧ 0 ≤ a ∧ 0 ≤ b ∧ q_lot u (-1) (q_nl u).toNat 0 a ≠ -1 ∧ q_lot u (q_lot u (-1) (q_nl u).toNat 0 a) (q_nl u).toNat 0 b ≠ -1)
theorem q_nl_b {u : Nat → Int} (h : q_ok u) : (q_nl u = 0 ∧ u 8 = 1) ∨ (2 ≤ q_nl u ∧ q_nl u ≤ 6 ∧ q_nl u = u 8) := by
  have h1 := h.1
  have h2 := h.2.1
  unfold q_nl
  split <;> omega
theorem q_draws_sum {u : Nat → Int} (h : q_ok u) {a b : Int} (hn : q_nl u ≠ 0) : q_draws u a b ↔ (0 ≤ a ∧ a ≤ q_sum u (-1) (q_nl u).toNat 0 - 1 ∧ 0 ≤ b ∧ b ≤ q_sum u (-1) (q_nl u).toNat 0 - u (9 + (q_lot u (-1) (q_nl u).toNat 0 a).toNat) - 1) := by
  have hb := q_nl_b h
  have hw : ∀ j : Nat, 0 ≤ j → j < 0 + (q_nl u).toNat → 1 ≤ u (9 + j) := fun j _ hj => (h.2.2 j (by omega)).1
  constructor
  · rintro (q | ⟨_, h1, h2, h3, h4⟩)
    · exact absurd q.1 hn
    · have g1 := q_lot_rg (u := u) (as := -1) (q_nl u).toNat 0 a
      have e1 := q_lot_no (as := -1) (q_nl u).toNat 0 a h1 hw
      have e2 := q_lot_no (as := q_lot u (-1) (q_nl u).toNat 0 a) (q_nl u).toNat 0 b h2 hw
      have hl := g1.resolve_left h3
      rw [q_sum_as (q_nl u).toNat 0 (by omega) (by omega)] at e2
      refine ⟨h1, ?_, h2, ?_⟩
      · have := fun hc => h3 (e1.mpr hc)
        omega
      · have := fun hc => h4 (e2.mpr hc)
        omega
  · rintro ⟨h1, h2, h3, h4⟩
    have g1 := q_lot_rg (u := u) (as := -1) (q_nl u).toNat 0 a
    have e1 := q_lot_no (as := -1) (q_nl u).toNat 0 a h1 hw
    have h5 : q_lot u (-1) (q_nl u).toNat 0 a ≠ -1 := fun hc => by
      have := e1.mp hc
      omega
    have hl := g1.resolve_left h5
    have e2 := q_lot_no (as := q_lot u (-1) (q_nl u).toNat 0 a) (q_nl u).toNat 0 b h3 hw
    rw [q_sum_as (q_nl u).toNat 0 (by omega) (by omega)] at e2
    refine Or.inr ⟨hn, h1, h3, h5, fun hc => ?_⟩
    have := e2.mp hc
    omega
/-- the reference's row of laws for a year -/
def h_r12 (f g : Nat → Int32) (y : Int) (u : Nat → Int) : Prop := (∃ k : Nat, k < 10 ∧ (k : Int) ≤ y ∧ (f k).toInt = 1 ∧ (∀ j : Nat, k < j → (j : Int) ≤ y → (f j).toInt = 0) ∧ ∀ i : Nat, i < 16 → (g (16 * k + i)).toInt = u i) ∨ ((∀ j : Nat, (j : Int) ≤ y → (f j).toInt = 0) ∧ ∀ i : Nat, i < 16 → (g (176 + i)).toInt = u i)
theorem h_r12.at {f g : Nat → Int32} {y : Int} {u : Nat → Int} (h : h_r12 f g y u) {x : Nat} (hx : x < 16) {r : Int32} (hr : (∃ k : Nat, k < 10 ∧ (k : Int) ≤ y ∧ (f k).toInt = 1 ∧ (∀ j : Nat, k < j → (j : Int) ≤ y → (f j).toInt = 0) ∧ r = g (16 * k + x)) ∨ ((∀ j : Nat, (j : Int) ≤ y → (f j).toInt = 0) ∧ r = g (176 + x))) : r.toInt = u x := by
  rcases h with ⟨k, a1, a2, a3, a4, a5⟩ | ⟨a4, a5⟩
  · rcases hr with ⟨k2, b1, b2, b3, b4, b5⟩ | ⟨b4, b5⟩
    · have hk : k2 = k := by
        rcases Nat.lt_trichotomy k2 k with h | h | h
        · have := b4 k h a2
          omega
        · exact h
        · have := a4 k2 h b2
          omega
      rw [b5, hk]
      exact a5 x hx
    · have := b4 k a2
      omega
  · rcases hr with ⟨k2, b1, b2, b3, b4, b5⟩ | ⟨b4, b5⟩
    · have := a4 k2 b2
      omega
    · rw [b5]
      exact a5 x hx
theorem q_lot_n {m i i1 : Int} (h0 : 0 ≤ i) (h : i < m) (e : i1 = i + 1) : (m - i).toNat = (m - i1).toNat + 1 ∧ i1.toNat = i.toNat + 1 ∧ ((i.toNat : Nat) : Int) = i := by omega
theorem q_lot_skip {u : Nat → Int} {as m i i1 x : Int} (h0 : 0 ≤ i) (h : i < m) (e : i1 = i + 1) (ha : i = as) : q_lot u as (m - i).toNat i.toNat x = q_lot u as (m - i1).toNat i1.toNat x := by
  obtain ⟨a1, a2, a3⟩ := q_lot_n h0 h e
  rw [a1, a2]
  show (if ((i.toNat : Nat) : Int) = as then q_lot u as (m - i1).toNat (i.toNat + 1) x else _) = _
  rw [if_pos (a3.trans ha)]
theorem q_lot_hit {u : Nat → Int} {as m i x : Int} (h0 : 0 ≤ i) (h : i < m) (ha : i ≠ as) (hx : x < u (9 + i.toNat)) : q_lot u as (m - i).toNat i.toNat x = i := by
  obtain ⟨a1, a2, a3⟩ := q_lot_n h0 h rfl
  rw [a1]
  show (if ((i.toNat : Nat) : Int) = as then _ else if x < u (9 + i.toNat) then ((i.toNat : Nat) : Int) else _) = _
  rw [if_neg (by omega), if_pos hx, a3]
theorem q_lot_miss {u : Nat → Int} {as m i i1 x x1 : Int} (h0 : 0 ≤ i) (h : i < m) (e : i1 = i + 1) (ha : i ≠ as) (hx : u (9 + i.toNat) ≤ x) (ex : x1 = x - u (9 + i.toNat)) : q_lot u as (m - i).toNat i.toNat x = q_lot u as (m - i1).toNat i1.toNat x1 := by
  obtain ⟨a1, a2, a3⟩ := q_lot_n h0 h e
  rw [a1, a2, ex]
  show (if ((i.toNat : Nat) : Int) = as then _ else if x < u (9 + i.toNat) then _ else q_lot u as (m - i1).toNat (i.toNat + 1) (x - u (9 + i.toNat))) = _
  rw [if_neg (by omega), if_neg (by omega)]
theorem q_lot_end {u : Nat → Int} {as m i x : Int} (h : m ≤ i) : q_lot u as (m - i).toNat i.toNat x = -1 := by
  rw [show (m - i).toNat = 0 by omega]
  rfl
theorem q_sum_go {u : Nat → Int} {m i i1 : Int} (h0 : 0 ≤ i) (h : i < m) (e : i1 = i + 1) : q_sum u (-1) (m - i).toNat i.toNat = u (9 + i.toNat) + q_sum u (-1) (m - i1).toNat i1.toNat := by
  obtain ⟨a1, a2, a3⟩ := q_lot_n h0 h e
  rw [a1, a2]
  show (if ((i.toNat : Nat) : Int) = -1 then 0 else u (9 + i.toNat)) + q_sum u (-1) (m - i1).toNat (i.toNat + 1) = _
  rw [if_neg (by omega)]
theorem q_sum_end {u : Nat → Int} {m i : Int} (h : m ≤ i) : q_sum u (-1) (m - i).toNat i.toNat = 0 := by
  rw [show (m - i).toNat = 0 by omega]
  rfl
theorem q_nl_ne {u : Nat → Int} (hok : q_ok u) {r s : Int} (h1 : r = u 8) (hn : r ≠ 1) (h2 : s = u 8) : s = q_nl u := by
  have nb := q_nl_b hok
  omega

