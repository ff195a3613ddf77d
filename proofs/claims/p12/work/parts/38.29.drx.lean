/-! the reference's draw in the words of the text -/
theorem h_r12.blk {f g : Nat → Int32} {y : Int} {u : Nat → Int} {Y q : Nat} (hr : h_r12 f g y u) (hq : h_blk f Y q) (hY : (Y : Int) = y) : ∀ i : Nat, i < 16 → (g (16 * q + i)).toInt = u i := by
  have z0 : ∀ x : Int32, x.toInt = 0 → x = 0 := fun x h => h_k (k := 0) h (by decide)
  have z1 : ∀ x : Int32, x.toInt = 1 → x ≠ 0 := fun x h h9 => by
    rw [h9] at h
    exact absurd h (by decide)
  rcases hr with ⟨k, a1, a2, a3, a4, a5⟩ | ⟨a4, a5⟩
  · rcases hq with ⟨b1, b2, b3⟩ | ⟨b1, b2⟩
    · have hk : q = k := by
        rcases Nat.lt_trichotomy q k with h | h | h
        · exact absurd (b3 k h (by omega)) (z1 _ a3)
        · exact h
        · exact absurd (z0 _ (a4 q h (by omega))) b2
      subst hk
      exact a5
    · exact absurd (b2 k (by omega)) (z1 _ a3)
  · rcases hq with ⟨b1, b2, b3⟩ | ⟨b1, b2⟩
    · exact absurd (z0 _ (a4 q (by omega))) b2
    · subst b1
      exact a5
theorem h_lt0_q {g : Nat → Int32} {q : Nat} {u : Nat → Int} (h : ∀ i : Nat, i < 16 → (g (16 * q + i)).toInt = u i) (hok : q_ok u) : h_lt0 g q = q_nl u := by
  have h8 := h 8 (by decide)
  have h1 := hok.1
  have h2 := hok.2.1
  unfold h_lt0 q_nl
  rw [h8]
  by_cases h3 : u 8 = 1
  · rw [if_pos h3, if_neg (by omega)]
  · rw [if_neg h3, if_pos (by omega)]
theorem h_wt_q {g : Nat → Int32} {q : Nat} {u : Nat → Int} (h : ∀ i : Nat, i < 16 → (g (16 * q + i)).toInt = u i) (hok : q_ok u) {i : Nat} (hi : (i : Int) < q_nl u) : h_wt g q i = u (9 + i) := by
  have nb := q_nl_b hok
  unfold h_wt
  rw [h_lt0_q h hok, if_pos hi, Nat.add_assoc]
  exact h (9 + i) (by omega)
theorem q_sum_snoc {u : Nat → Int} : ∀ (n i : Nat), q_sum u (-1) (n + 1) i = q_sum u (-1) n i + u (9 + (i + n)) := by
  intro n
  induction n with
  | zero =>
    intro i
    show (if (i : Int) = -1 then 0 else u (9 + i)) + 0 = 0 + u (9 + (i + 0))
    rw [if_neg (by omega), Nat.add_zero]
    omega
  | succ n ih =>
    intro i
    show (if (i : Int) = -1 then 0 else u (9 + i)) + q_sum u (-1) (n + 1) (i + 1) = ((if (i : Int) = -1 then 0 else u (9 + i)) + q_sum u (-1) n (i + 1)) + u (9 + (i + (n + 1)))
    rw [ih (i + 1), show i + 1 + n = i + (n + 1) by omega]
    omega
theorem h_sum_q {w u : Nat → Int} : ∀ n : Nat, (∀ i : Nat, i < n → w i = u (9 + i)) → h_sum w n = q_sum u (-1) n 0 := by
  intro n
  induction n with
  | zero => intro _; rfl
  | succ n ih =>
    intro h
    rw [q_sum_snoc, Nat.zero_add]
    show h_sum w n + w n = _
    rw [ih (fun i hi => h i (by omega)), h n (by omega)]
theorem q_lot_is {u : Nat → Int} : ∀ (n i : Nat) (x : Int) (r : Nat), i ≤ r → r < i + n → (∀ j : Nat, i ≤ j → j < i + n → 1 ≤ u (9 + j)) → q_sum u (-1) (r - i) i ≤ x → x < q_sum u (-1) (r - i + 1) i → q_lot u (-1) n i x = r := by
  intro n
  induction n with
  | zero => intro i x r h1 h2; omega
  | succ n ih =>
    intro i x r h1 h2 hw h3 h4
    show (if (i : Int) = -1 then q_lot u (-1) n (i + 1) x else if x < u (9 + i) then (i : Int) else q_lot u (-1) n (i + 1) (x - u (9 + i))) = r
    rw [if_neg (by omega)]
    by_cases hr : r = i
    · subst hr
      rw [Nat.sub_self] at h4
      have e : q_sum u (-1) (0 + 1) r = (if (r : Int) = -1 then 0 else u (9 + r)) + 0 := rfl
      rw [e, if_neg (by omega)] at h4
      rw [if_pos (by omega)]
    · obtain ⟨d, hd⟩ : ∃ d : Nat, r - i = d + 1 := ⟨r - i - 1, by omega⟩
      have e : ∀ d : Nat, q_sum u (-1) (d + 1) i = (if (i : Int) = -1 then 0 else u (9 + i)) + q_sum u (-1) d (i + 1) := fun _ => rfl
      rw [hd, e, if_neg (by omega)] at h3
      rw [hd, e, if_neg (by omega)] at h4
      have h0 := q_sum_0 (u := u) (as := -1) d (i + 1) (fun j h5 h6 => hw j (by omega) (by omega))
      rw [if_neg (by omega)]
      exact ih (i + 1) _ r (by omega) (by omega) (fun j h5 h6 => hw j (by omega) (by omega)) (by rw [show r - (i + 1) = d by omega]; omega) (by rw [show r - (i + 1) + 1 = d + 1 by omega]; omega)
theorem h_drw {f g : Nat → Int32} {y : Int} {u : Nat → Int} {Y q : Nat} (hr : h_r12 f g y u) (hok : q_ok u) (hq : h_blk f Y q) (hY : (Y : Int) = y) : h_lt0 g q = q_nl u ∧ h_sum (h_wt g q) (h_lt0 g q).toNat = q_sum u (-1) (q_nl u).toNat 0 ∧ ∀ (w : Nat → Int) (a : Int) (x : Nat), (∀ i : Nat, i < 8 → w i = h_wt g q i) → h_hit w a x → (x : Int) < h_lt0 g q → q_lot u (-1) (q_nl u).toNat 0 a = x ∧ h_wt g q x = u (9 + x) := by
  have hb := hr.blk hq hY
  have nb := q_nl_b hok
  have e := h_lt0_q hb hok
  refine ⟨e, ?_, fun w a x hw hh hx => ?_⟩
  · rw [e]
    exact h_sum_q _ (fun i hi => h_wt_q hb hok (by omega))
  · rw [e] at hx
    have e1 : ∀ n : Nat, n ≤ (q_nl u).toNat → h_sum w n = q_sum u (-1) n 0 := fun n hn => h_sum_q n (fun i hi => by rw [hw i (by omega)]; exact h_wt_q hb hok (by omega))
    have h1 := hh.1
    have h2 := hh.2
    rw [e1 _ (by omega)] at h1 h2
    exact ⟨q_lot_is _ 0 a x (by omega) (by omega) (fun j _ hj => (hok.2.2 j (by omega)).1) h1 h2, h_wt_q hb hok hx⟩
/-- no one takes part in the lots -/
theorem h_dr0 {f g : Nat → Int32} {y : Int} {u : Nat → Int} {Y q : Nat} {a b : Int} (hr : h_r12 f g y u) (hok : q_ok u) (hq : h_blk f Y q) (hY : (Y : Int) = y) (h0 : h_lt0 g q = 0) : q_draws u a b ↔ a = 0 ∧ b = 0 := by
  obtain ⟨e, _, _⟩ := h_drw hr hok hq hY
  rw [h0] at e
  constructor
  · rintro (q | q)
    · exact q.2
    · exact absurd e.symm q.1
  · exact fun q => Or.inl ⟨e.symm, q⟩
theorem h_drA {f g : Nat → Int32} {y : Int} {u : Nat → Int} {Y q : Nat} {a b S : Int} (hr : h_r12 f g y u) (hok : q_ok u) (hq : h_blk f Y q) (hY : (Y : Int) = y) (h0 : h_lt0 g q ≠ 0) (hS : S = h_sum (h_wt g q) (h_lt0 g q).toNat) (hn : ¬ (0 ≤ a ∧ a ≤ S - 1)) : ¬ q_draws u a b := by
  obtain ⟨e, e2, _⟩ := h_drw hr hok hq hY
  rw [q_draws_sum hok (by rw [← e]; exact h0), ← e2, ← hS]
  omega
theorem h_drB {f g : Nat → Int32} {y : Int} {u : Nat → Int} {Y q x : Nat} {w : Nat → Int} {a b S V : Int} (hr : h_r12 f g y u) (hok : q_ok u) (hq : h_blk f Y q) (hY : (Y : Int) = y) (h0 : h_lt0 g q ≠ 0) (hS : S = h_sum (h_wt g q) (h_lt0 g q).toNat) (ha : 0 ≤ a ∧ a ≤ S - 1) (hw : ∀ i : Nat, i < 8 → w i = h_wt g q i) (hh : h_hit w a x) (hx : (x : Int) < h_lt0 g q) (hV : V = h_wt g q x) : q_draws u a b ↔ 0 ≤ b ∧ b ≤ S - V - 1 := by
  obtain ⟨e, e2, e3⟩ := h_drw hr hok hq hY
  obtain ⟨e4, e5⟩ := e3 w a x hw hh hx
  rw [q_draws_sum hok (by rw [← e]; exact h0), ← e2, e4, Int.toNat_natCast, ← e5, ← hS, ← hV]
  omega
