/-! small facts of numbers -/
theorem h_and255 {x v : Int32} (e : v = x &&& 255) : v.toInt = x.toInt % 256 := by
  have h1 : v.toBitVec.toNat = x.toBitVec.toNat % 2 ^ 8 := by
    rw [e]
    show (x.toBitVec &&& 255#32).toNat = _
    rw [BitVec.toNat_and]
    show x.toBitVec.toNat &&& (2 ^ 8 - 1) = _
    exact Nat.and_two_pow_sub_one_eq_mod _ 8
  have h2 : v.toInt = v.toBitVec.toInt := rfl
  have h3 : x.toInt = x.toBitVec.toInt := rfl
  rw [h2, h3, BitVec.toInt_eq_toNat_cond, BitVec.toInt_eq_toNat_cond]
  have h4 := x.toBitVec.isLt
  have h5 := v.toBitVec.isLt
  split <;> split <;> omega
theorem q_L_t {c : Int} (h : 97 ≤ c ∧ c ≤ 122) : q_L c = true := decide_eq_true h
theorem q_L_f {c : Int} (h : ¬ (97 ≤ c ∧ c ≤ 122)) : q_L c = false := decide_eq_false h
theorem q_D_t {c : Int} (h : 48 ≤ c ∧ c ≤ 57) : q_D c = true := decide_eq_true h
theorem q_D_f {c : Int} (h : ¬ (48 ≤ c ∧ c ≤ 57)) : q_D c = false := decide_eq_false h
theorem q_B_t {c : Int} (h : c = 32 ∨ c = 10) : q_B c = true := decide_eq_true h
theorem q_B_f {c : Int} (h : ¬ (c = 32 ∨ c = 10)) : q_B c = false := decide_eq_false h
/-- one place more -/
theorem q_more {P : Int → Prop} {a b b1 : Int} (h : ∀ j : Int, a ≤ j → j < b → P j) (hb : P b) (e : b1 = b + 1) : ∀ j : Int, a ≤ j → j < b1 → P j := by
  intro j h1 h2
  by_cases hj : j < b
  · exact h j h1 hj
  · have : j = b := by omega
    rw [this]
    exact hb
theorem q_none {P : Int → Prop} {a b : Int} (e : b = a) : ∀ j : Int, a ≤ j → j < b → P j := fun j h1 h2 => absurd h2 (by omega)
theorem q_dec_b {g : Int → Int} {a : Int} : ∀ n : Nat, (∀ j : Int, a ≤ j → j < a + n → q_D (g j) = true) → 0 ≤ q_dec g a n ∧ q_dec g a n < 10 ^ n := by
  intro n
  induction n with
  | zero => intro _; exact ⟨Int.le_refl 0, show (0 : Int) < 1 by decide⟩
  | succ n ih =>
    intro h
    obtain ⟨h1, h2⟩ := ih (fun j h1 h2 => h j h1 (by omega))
    have h3 : 48 ≤ g (a + n) ∧ g (a + n) ≤ 57 := of_decide_eq_true (h (a + n) (by omega) (by omega))
    have e : q_dec g a (n + 1) = 10 * q_dec g a n + (g (a + n) - 48) := rfl
    rw [e, Int.pow_succ]
    omega
theorem q_dec_s {g : Int → Int} {a : Int} {n : Nat} (hn : n ≤ 5) (h : ∀ j : Int, a ≤ j → j < a + n → q_D (g j) = true) : 0 ≤ q_dec g a n ∧ q_dec g a n < 100000 := by
  obtain ⟨h1, h2⟩ := q_dec_b n h
  refine ⟨h1, Int.lt_of_lt_of_le h2 ?_⟩
  rcases (show n = 0 ∨ n = 1 ∨ n = 2 ∨ n = 3 ∨ n = 4 ∨ n = 5 by omega) with rfl | rfl | rfl | rfl | rfl | rfl <;> decide
theorem q_dec_step {g : Int → Int} {a b b1 : Int} (h : a ≤ b) (e : b1 = b + 1) : q_dec g a (b1 - a).toNat = 10 * q_dec g a (b - a).toNat + (g b - 48) := by
  have h1 : (b1 - a).toNat = (b - a).toNat + 1 := by omega
  have h2 : a + ((b - a).toNat : Int) = b := by omega
  rw [h1]
  show 10 * q_dec g a (b - a).toNat + (g (a + ((b - a).toNat : Int)) - 48) = _
  rw [h2]
theorem q_numstep {g : Int → Int} {a b b1 : Int} {v x t u r : Int32} (ex : x = v * 10) (et : t = x + r) (eu : u = t - 48) (hr : r.toInt = g b) (hab : a ≤ b) (hb1 : b1 = b + 1) (hD : ∀ j : Int, a ≤ j → j < b → q_D (g j) = true) (hd : 48 ≤ g b ∧ g b ≤ 57) (h : b - a ≤ 5 → v.toInt = q_dec g a (b - a).toNat) : b1 - a ≤ 5 → u.toInt = q_dec g a (b1 - a).toNat := by
  intro hc
  have hv := h (by omega)
  have hb := q_dec_s (g := g) (a := a) (n := (b - a).toNat) (by omega) (fun j h1 h2 => hD j h1 (by omega))
  have h1 : x.toInt = v.toInt * 10 := xi_mul ex rfl (by decide) (by omega) (by omega)
  have h2 : t.toInt = x.toInt + r.toInt := xi_add et rfl rfl (by omega) (by omega)
  have h3 : u.toInt = t.toInt - 48 := xi_sub eu rfl (by decide) (by omega) (by omega)
  rw [q_dec_step hab hb1]
  omega
theorem q_tokA {g : Int → Int} {p a : Int} (h0 : 0 ≤ p) (h1 : p ≤ a) (h2 : a ≤ 500) (hr : ∀ j : Int, p ≤ j → j < a → q_B (g j) = true) (he : q_B (g a) = false) : q_a g p = a := q_run_eq 502 p a h1 (by omega) hr he
theorem q_tok0 {g : Int → Int} {p a : Int} (ha : q_a g p = a) (h : g a = -1) : q_e g p = a ∧ q_k g p = 0 := by
  unfold q_e q_k
  rw [ha, if_pos h, if_pos h]
  exact ⟨rfl, rfl⟩
theorem q_tok1 {g : Int → Int} {p a e : Int} (ha : q_a g p = a) (h0 : 0 ≤ a) (h : 97 ≤ g a ∧ g a ≤ 122) (h1 : a ≤ e) (h2 : e ≤ 500) (hr : ∀ j : Int, a ≤ j → j < e → q_L (g j) = true) (he : q_L (g e) = false) : q_e g p = e ∧ q_k g p = 1 := by
  have g1 : g a ≠ -1 := by omega
  refine ⟨?_, ?_⟩
  · unfold q_e
    rw [ha, if_neg g1, if_pos (q_L_t h)]
    exact q_run_eq 502 a e h1 (by omega) hr he
  · unfold q_k
    rw [ha, if_neg g1, if_pos (q_L_t h)]
theorem q_tok2 {g : Int → Int} {p a e : Int} (ha : q_a g p = a) (h0 : 0 ≤ a) (h : 48 ≤ g a ∧ g a ≤ 57) (h1 : a ≤ e) (h2 : e ≤ 500) (hr : ∀ j : Int, a ≤ j → j < e → q_D (g j) = true) (he : q_D (g e) = false) : q_e g p = e ∧ q_k g p = (if e - a ≤ 5 then 2 else 4) ∧ q_v g p = q_dec g a (e - a).toNat := by
  have g1 : g a ≠ -1 := by omega
  have g2 : ¬ q_L (g a) = true := by
    rw [q_L_f (by omega)]
    decide
  have h3 : q_e g p = e := by
    unfold q_e
    rw [ha, if_neg g1, if_neg g2, if_pos (q_D_t h)]
    exact q_run_eq 502 a e h1 (by omega) hr he
  refine ⟨h3, ?_, ?_⟩
  · unfold q_k
    rw [h3, ha, if_neg g1, if_neg g2, if_pos (q_D_t h)]
  · unfold q_v
    rw [h3, ha]
theorem q_tok3 {g : Int → Int} {p a : Int} (ha : q_a g p = a) (h : g a ≠ -1) (hL : ¬ (97 ≤ g a ∧ g a ≤ 122)) (hD : ¬ (48 ≤ g a ∧ g a ≤ 57)) : q_e g p = a + 1 ∧ q_k g p = (if g a = 59 then 3 else 4) := by
  have g1 : ¬ q_L (g a) = true := by
    rw [q_L_f hL]
    decide
  have g2 : ¬ q_D (g a) = true := by
    rw [q_D_f hD]
    decide
  refine ⟨?_, ?_⟩
  · unfold q_e
    rw [ha, if_neg h, if_neg g1, if_neg g2]
  · unfold q_k
    rw [ha, if_neg h, if_neg g1, if_neg g2]
theorem q_ne {q : Int → Bool} {g : Int → Int} {a e : Int} (h1 : a ≤ e) (ha : q (g a) = true) (he : q (g e) = false) : a < e := by
  rcases Int.lt_or_eq_of_le h1 with h | h
  · exact h
  · rw [h, he] at ha
    cases ha
def h_wi (x : Int) : Nat := if x = 0 then 0 else if x = 1 then 1 else if x = 2 then 2 else if x = 3 then 3 else if x = 4 then 4 else if x = 6 then 5 else if x = 7 then 6 else if x = 8 then 7 else 8
theorem q_wmore {g : Int → Int} {p : Int} {B : Nat → Int} {i i1 a : Int} (h : ∀ j : Nat, (j : Int) < i → g (p + j) = B j) (h0 : 0 ≤ i) (ea : a = p + i) (hb : g a = B i.toNat) (e : i1 = i + 1) : ∀ j : Nat, (j : Int) < i1 → g (p + j) = B j := by
  intro j hj
  by_cases hji : (j : Int) < i
  · exact h j hji
  · have : j = i.toNat := by omega
    subst this
    rw [show p + (i.toNat : Int) = a by omega]
    exact hb
theorem q_wno {g : Int → Int} {p : Int} {B : Nat → Int} {i a K : Int} (hi : 0 ≤ i) (hl : i < K) (ea : a = p + i) (hb : g a ≠ B i.toNat) : ¬ ∀ j : Nat, (j : Int) < K → g (p + j) = B j := by
  intro h
  have h1 := h i.toNat (by omega)
  rw [show p + (i.toNat : Int) = a by omega] at h1
  exact hb h1

