/-! chances: fractions in lowest terms -/
/-- what is left behind each club below n, club r aside -/
def q_cp (w : Nat → Int) (all : Int) (r : Nat) : Nat → Int
  | 0 => 1
  | n + 1 => if n = r then q_cp w all r n else q_cp w all r n * (all - w n)
/-- the ways over the clubs below n, brought to one lower part -/
def q_cs (w : Nat → Int) (all : Int) (r : Nat) : Nat → Int
  | 0 => 0
  | n + 1 => if n = r then q_cs w all r n else q_cs w all r n * (all - w n) + w n * q_cp w all r n
/-- two clubs aside -/
def q_cl (w : Nat → Int) (all : Int) (r f : Nat) : Nat → Int
  | 0 => 1
  | n + 1 => if n = r ∨ n = f then q_cl w all r f n else q_cl w all r f n * (all - w n)
def q_ct (w : Nat → Int) (all : Int) (r n : Nat) : Nat → Int
  | 0 => 0
  | m + 1 => if m = r then q_ct w all r n m else q_ct w all r n m + w m * q_cl w all r m n
theorem q_cl_far {w : Nat → Int} {all : Int} {r f : Nat} : ∀ n : Nat, n ≤ f → q_cl w all r f n = q_cp w all r n := by
  intro n
  induction n with
  | zero => intro _; rfl
  | succ n ih =>
    intro h
    have h1 := ih (by omega)
    show (if n = r ∨ n = f then q_cl w all r f n else q_cl w all r f n * (all - w n)) = if n = r then q_cp w all r n else q_cp w all r n * (all - w n)
    by_cases hr : n = r
    · rw [if_pos (Or.inl hr), if_pos hr, h1]
    · rw [if_neg (by omega), if_neg hr, h1]
theorem q_ct_s {w : Nat → Int} {all : Int} {r n : Nat} : ∀ m : Nat, m ≤ n → q_ct w all r (n + 1) m = if n = r then q_ct w all r n m else q_ct w all r n m * (all - w n) := by
  intro m
  induction m with
  | zero =>
    intro _
    show (0 : Int) = if n = r then 0 else 0 * (all - w n)
    by_cases hr : n = r
    · rw [if_pos hr]
    · rw [if_neg hr, Int.zero_mul]
  | succ m ih =>
    intro h
    have h1 := ih (by omega)
    have h2 : q_cl w all r m (n + 1) = if n = r ∨ n = m then q_cl w all r m n else q_cl w all r m n * (all - w n) := rfl
    show (if m = r then q_ct w all r (n + 1) m else q_ct w all r (n + 1) m + w m * q_cl w all r m (n + 1)) = if n = r then (if m = r then q_ct w all r n m else q_ct w all r n m + w m * q_cl w all r m n) else (if m = r then q_ct w all r n m else q_ct w all r n m + w m * q_cl w all r m n) * (all - w n)
    rw [h1, h2]
    by_cases hr : n = r
    · rw [if_pos hr, if_pos (Or.inl hr), if_pos hr]
    · rw [if_neg hr, if_neg (show ¬ (n = r ∨ n = m) by omega)]
      by_cases hm : m = r
      · simp only [if_pos hm, if_neg hr]
      · simp only [if_neg hm, if_neg hr]
        rw [Int.add_mul, Int.mul_assoc]
theorem q_ct_cs {w : Nat → Int} {all : Int} {r : Nat} : ∀ n : Nat, q_ct w all r n n = q_cs w all r n := by
  intro n
  induction n with
  | zero => rfl
  | succ n ih =>
    have h1 := q_ct_s (w := w) (all := all) (r := r) (n := n) n (Nat.le_refl n)
    have h2 : q_cl w all r n (n + 1) = q_cp w all r n := by
      show (if n = r ∨ n = n then q_cl w all r n n else q_cl w all r n n * (all - w n)) = _
      rw [if_pos (Or.inr rfl), q_cl_far n (Nat.le_refl n)]
    show (if n = r then q_ct w all r (n + 1) n else q_ct w all r (n + 1) n + w n * q_cl w all r n (n + 1)) = if n = r then q_cs w all r n else q_cs w all r n * (all - w n) + w n * q_cp w all r n
    rw [h1, h2, ih]
    by_cases hr : n = r
    · rw [if_pos hr, if_pos hr, if_pos hr]
    · rw [if_neg hr, if_neg hr, if_neg hr]
/-- a chance: above and below of a fraction in lowest terms -/
def q_red (N D a b : Int) : Prop := 0 ≤ a ∧ 0 < b ∧ Int.gcd a b = 1 ∧ a * D = N * b
theorem q_red.eq {N D a b a1 b1 : Int} (hD : 0 < D) (h : q_red N D a b) (h1 : q_red N D a1 b1) : a = a1 ∧ b = b1 := by
  obtain ⟨p0, p1, p2, p3⟩ := h
  obtain ⟨r0, r1, r2, r3⟩ := h1
  have key : a * b1 = a1 * b := by
    have e : (a * b1) * D = (a1 * b) * D := by
      rw [Int.mul_right_comm, p3, Int.mul_right_comm a1, r3, Int.mul_right_comm N b b1]
    exact Int.eq_of_mul_eq_mul_right (by omega) e
  have kn : a.natAbs * b1.natAbs = a1.natAbs * b.natAbs := by
    rw [← Int.natAbs_mul, ← Int.natAbs_mul, key]
  have d1 : b.natAbs ∣ b1.natAbs := by
    have hc : Nat.Coprime b.natAbs a.natAbs := by
      show Nat.gcd b.natAbs a.natAbs = 1
      rw [Nat.gcd_comm]
      exact p2
    exact hc.dvd_of_dvd_mul_left ⟨a1.natAbs, by rw [kn, Nat.mul_comm]⟩
  have d2 : b1.natAbs ∣ b.natAbs := by
    have hc : Nat.Coprime b1.natAbs a1.natAbs := by
      show Nat.gcd b1.natAbs a1.natAbs = 1
      rw [Nat.gcd_comm]
      exact r2
    exact hc.dvd_of_dvd_mul_left ⟨a.natAbs, by rw [← kn, Nat.mul_comm]⟩
  have eb : b.natAbs = b1.natAbs := Nat.dvd_antisymm d1 d2
  have eb2 : b = b1 := by omega
  refine ⟨?_, eb2⟩
  rw [← eb2] at key
  exact Int.eq_of_mul_eq_mul_right (by omega) key
/-- the steps of the greatest common part -/
def q_eu (M : Int) (s : Nat) (a b : Int) : Prop := 0 ≤ a ∧ 0 ≤ b ∧ ((s = 0 ∧ b * b ≤ M) ∨ (0 < s ∧ b ≤ a ∧ 0 < a ∧ a * b * 2 ^ (s - 1) ≤ M))
theorem q_emod {a b : Int} (hb : 0 < b) (hab : b ≤ a) : 2 * (a % b) ≤ a := by
  have h1 := Int.emod_lt_of_pos a hb
  have h2 : a % b = (a - b) % b := (Int.sub_emod_right a b).symm
  have h3 : (a - b) % b ≤ a - b := by
    have h4 := Int.emod_add_mul_ediv (a - b) b
    have h5 := Int.mul_nonneg (show 0 ≤ b by omega) (Int.ediv_nonneg (show 0 ≤ a - b by omega) (show 0 ≤ b by omega))
    omega
  omega
theorem q_eu.s {M a b : Int} {s : Nat} (h : q_eu M s a b) (hb : b ≠ 0) : q_eu M (s + 1) b (a % b) := by
  obtain ⟨h1, h2, h3⟩ := h
  have b0 : 0 < b := by omega
  have m1 := Int.emod_lt_of_pos a b0
  have m0 := Int.emod_nonneg a hb
  refine ⟨h2, m0, Or.inr ⟨by omega, by omega, b0, ?_⟩⟩
  rw [Nat.add_sub_cancel]
  rcases h3 with ⟨h4, h5⟩ | ⟨h4, h5, h6, h7⟩
  · rw [h4, Int.pow_zero, Int.mul_one]
    exact Int.le_trans (Int.mul_le_mul_of_nonneg_left (by omega) h2) h5
  · have h8 := q_emod b0 h5
    have e : (2 : Int) ^ s = 2 ^ (s - 1) * 2 := by
      have h10 : (s - 1) + 1 = s := by omega
      have h11 : (2 : Int) ^ ((s - 1) + 1) = 2 ^ (s - 1) * 2 := Int.pow_succ 2 (s - 1)
      rw [h10] at h11
      exact h11
    have hp : (0 : Int) ≤ 2 ^ (s - 1) := Int.le_of_lt (Int.pow_pos (by decide))
    have h9 : b * (a % b) * (2 ^ (s - 1) * 2) = (b * (2 * (a % b))) * 2 ^ (s - 1) := by
      rw [Int.mul_comm (2 ^ (s - 1)) 2, ← Int.mul_assoc, Int.mul_assoc b, Int.mul_comm (a % b) 2]
    rw [e, h9]
    refine Int.le_trans (Int.mul_le_mul_of_nonneg_right ?_ hp) h7
    rw [Int.mul_comm a b]
    exact Int.mul_le_mul_of_nonneg_left h8 h2
theorem q_eu.end {M a b : Int} {s : Nat} (h : q_eu M s a b) (hs : 0 < s) (hM : M < 2 ^ (s - 1)) : b = 0 := by
  obtain ⟨h1, h2, h3⟩ := h
  rcases h3 with ⟨h4, _⟩ | ⟨_, h5, h6, h7⟩
  · omega
  · by_cases hb : b = 0
    · exact hb
    · exfalso
      have h8 : 1 * 1 ≤ a * b := Int.mul_le_mul (by omega) (by omega) (by decide) (by omega)
      have h9 : 1 * 2 ^ (s - 1) ≤ a * b * 2 ^ (s - 1) := Int.mul_le_mul_of_nonneg_right (by omega) (Int.le_of_lt (Int.pow_pos (by decide)))
      rw [Int.one_mul] at h9
      omega
theorem q_red.of {N D a0 b0 g a b : Int} (h0 : 0 ≤ a0) (hb : 0 < b0) (hg : 0 < g) (eg : g.natAbs = Int.gcd a0 b0) (ea : g * a = a0) (eb : g * b = b0) (e : a0 * D = N * b0) : q_red N D a b := by
  have a1 : 0 ≤ a := by
    rcases (show a < 0 ∨ 0 ≤ a by omega) with h | h
    · have h9 := Int.mul_neg_of_pos_of_neg hg h
      omega
    · exact h
  have b1 : 0 < b := by
    rcases (show 0 < b ∨ b ≤ 0 by omega) with h | h
    · exact h
    · have h9 := Int.mul_nonpos_of_nonneg_of_nonpos (Int.le_of_lt hg) h
      omega
  refine ⟨a1, b1, ?_, ?_⟩
  · have h1 : Int.gcd (g * a) (g * b) = g.natAbs * Int.gcd a b := Int.gcd_mul_left g a b
    rw [ea, eb, ← eg] at h1
    have h2 : 0 < g.natAbs := by omega
    have h3 : g.natAbs * 1 = g.natAbs * Int.gcd a b := by omega
    exact (Nat.eq_of_mul_eq_mul_left h2 h3).symm
  · rw [← ea, ← eb] at e
    have e2 : g * (a * D) = g * (N * b) := by
      rw [← Int.mul_assoc, e, Int.mul_left_comm]
    exact Int.eq_of_mul_eq_mul_left (by omega) e2
/-! weights of the lots -/
def q_wgt (u : Nat → Int) : Nat → Int := fun i => u (9 + i)
def q_al (u : Nat → Int) : Int := q_sum u (-1) (q_nl u).toNat 0
theorem q_sum_j {u : Nat → Int} : ∀ (n i j : Nat), (∀ k : Nat, i ≤ k → k < i + n → 1 ≤ u (9 + k) ∧ u (9 + k) ≤ 20) → i ≤ j → j < i + n → u (9 + j) + (n : Int) - 1 ≤ q_sum u (-1) n i ∧ q_sum u (-1) n i ≤ u (9 + j) + 20 * (n : Int) - 20 := by
  intro n
  induction n with
  | zero => intro i j _ h1 h2; omega
  | succ n ih =>
    intro i j hk h1 h2
    have hi := hk i (by omega) (by omega)
    have e : q_sum u (-1) (n + 1) i = u (9 + i) + q_sum u (-1) n (i + 1) := by
      show (if (i : Int) = -1 then 0 else u (9 + i)) + q_sum u (-1) n (i + 1) = _
      rw [if_neg (by omega)]
    rw [e]
    by_cases hij : j = i
    · subst hij
      cases n with
      | zero =>
        have e0 : q_sum u (-1) 0 (j + 1) = 0 := rfl
        rw [e0]
        omega
      | succ n =>
        have h3 := ih (j + 1) (j + 1) (fun k a b => hk k (by omega) (by omega)) (by omega) (by omega)
        have h4 := hk (j + 1) (by omega) (by omega)
        omega
    · have h3 := ih (i + 1) j (fun k a b => hk k (by omega) (by omega)) (by omega) (by omega)
      omega
theorem q_al_b {u : Nat → Int} (hok : q_ok u) {j : Nat} (hj : (j : Int) < q_nl u) : (1 ≤ q_al u - q_wgt u j ∧ q_al u - q_wgt u j ≤ 119) ∧ (1 ≤ q_wgt u j ∧ q_wgt u j ≤ 20) ∧ q_al u ≤ 120 ∧ 2 ≤ q_nl u ∧ q_nl u ≤ 6 := by
  have h8 := hok.2.1
  have e : q_nl u = u 8 ∧ 2 ≤ u 8 := by
    unfold q_nl at hj ⊢
    by_cases h : 2 ≤ u 8
    · rw [if_pos h]
      exact ⟨rfl, h⟩
    · rw [if_neg h] at hj
      omega
  have hw := hok.2.2 j (by omega)
  have h1 := q_sum_j (u := u) (q_nl u).toNat 0 j (fun k _ hk => hok.2.2 k (by omega)) (by omega) (by omega)
  unfold q_al q_wgt
  omega
theorem q_mul_b {x y c d : Int} (h1 : 1 ≤ x) (h2 : x ≤ c) (h3 : 1 ≤ y) (h4 : y ≤ d) : 1 ≤ x * y ∧ x * y ≤ c * d := by
  have a := Int.mul_le_mul h1 h3 (by omega) (by omega)
  have b := Int.mul_le_mul h2 h4 (by omega) (by omega)
  exact ⟨by omega, b⟩
theorem q_p120 (k : Nat) (hk : k ≤ 6) : (120 : Int) ^ k ≤ 2985984000000 := (by decide +kernel : ∀ k : Nat, k < 7 → (120 : Int) ^ k ≤ 2985984000000) k (by omega)
theorem q_cl_b {u : Nat → Int} (hok : q_ok u) {r f : Nat} : ∀ k : Nat, (k : Int) ≤ q_nl u → 1 ≤ q_cl (q_wgt u) (q_al u) r f k ∧ q_cl (q_wgt u) (q_al u) r f k ≤ 120 ^ k := by
  intro k
  induction k with
  | zero => intro _; exact ⟨Int.le_refl 1, Int.le_refl 1⟩
  | succ k ih =>
    intro hk
    obtain ⟨h1, h2⟩ := ih (by omega)
    obtain ⟨⟨h3, h4⟩, _⟩ := q_al_b hok (j := k) (by omega)
    have h5 := q_mul_b h1 h2 h3 (show q_al u - q_wgt u k ≤ 120 by omega)
    have h6 := q_mul_b h1 h2 (show (1 : Int) ≤ 1 by omega) (show (1 : Int) ≤ 120 by omega)
    rw [Int.pow_succ]
    show 1 ≤ (if k = r ∨ k = f then q_cl (q_wgt u) (q_al u) r f k else q_cl (q_wgt u) (q_al u) r f k * (q_al u - q_wgt u k)) ∧ (if k = r ∨ k = f then q_cl (q_wgt u) (q_al u) r f k else q_cl (q_wgt u) (q_al u) r f k * (q_al u - q_wgt u k)) ≤ 120 ^ k * 120
    by_cases hr : k = r ∨ k = f
    · rw [if_pos hr]
      rw [Int.mul_one] at h6
      exact h6
    · rw [if_neg hr]
      exact h5
theorem q_cp_b {u : Nat → Int} (hok : q_ok u) {r : Nat} (k : Nat) (hk : (k : Int) ≤ q_nl u) : 1 ≤ q_cp (q_wgt u) (q_al u) r k ∧ q_cp (q_wgt u) (q_al u) r k ≤ 120 ^ k := by
  rw [← q_cl_far (f := k) k (Nat.le_refl k)]
  exact q_cl_b hok k hk
theorem q_p125 (k : Nat) (hk : k ≤ 5) : (120 : Int) ^ k ≤ 24883200000 := (by decide +kernel : ∀ k : Nat, k < 6 → (120 : Int) ^ k ≤ 24883200000) k (by omega)
theorem q_ct_5 {u : Nat → Int} (hok : q_ok u) {r n : Nat} (hn : (n : Int) ≤ q_nl u) (h5n : n ≤ 5) : ∀ k : Nat, k ≤ n → 0 ≤ q_ct (q_wgt u) (q_al u) r n k ∧ q_ct (q_wgt u) (q_al u) r n k ≤ (k : Int) * 497664000000 := by
  intro k
  induction k with
  | zero =>
    intro _
    show (0 : Int) ≤ 0 ∧ (0 : Int) ≤ ((0 : Nat) : Int) * _
    omega
  | succ k ih =>
    intro hk
    obtain ⟨h1, h2⟩ := ih (by omega)
    obtain ⟨_, ⟨h3, h4⟩, _, h8, h9⟩ := q_al_b hok (j := k) (by omega)
    obtain ⟨h5, h6⟩ := q_cl_b hok (r := r) (f := k) n hn
    have h7 := q_p125 n h5n
    have h10 := q_mul_b h3 h4 h5 (show q_cl (q_wgt u) (q_al u) r k n ≤ 24883200000 by omega)
    show 0 ≤ (if k = r then q_ct (q_wgt u) (q_al u) r n k else q_ct (q_wgt u) (q_al u) r n k + q_wgt u k * q_cl (q_wgt u) (q_al u) r k n) ∧ (if k = r then q_ct (q_wgt u) (q_al u) r n k else q_ct (q_wgt u) (q_al u) r n k + q_wgt u k * q_cl (q_wgt u) (q_al u) r k n) ≤ ((k + 1 : Nat) : Int) * 497664000000
    by_cases hr : k = r
    · rw [if_pos hr]
      omega
    · rw [if_neg hr]
      omega
theorem q_ct_b {u : Nat → Int} (hok : q_ok u) {r n : Nat} (hn : (n : Int) ≤ q_nl u) : ∀ k : Nat, k ≤ n → 0 ≤ q_ct (q_wgt u) (q_al u) r n k ∧ q_ct (q_wgt u) (q_al u) r n k ≤ (k : Int) * 59719680000000 := by
  intro k
  induction k with
  | zero =>
    intro _
    show (0 : Int) ≤ 0 ∧ (0 : Int) ≤ ((0 : Nat) : Int) * _
    omega
  | succ k ih =>
    intro hk
    obtain ⟨h1, h2⟩ := ih (by omega)
    obtain ⟨_, ⟨h3, h4⟩, _, h8, h9⟩ := q_al_b hok (j := k) (by omega)
    obtain ⟨h5, h6⟩ := q_cl_b hok (r := r) (f := k) n hn
    have h7 := q_p120 n (by omega)
    have h10 := q_mul_b h3 h4 h5 (show q_cl (q_wgt u) (q_al u) r k n ≤ 2985984000000 by omega)
    show 0 ≤ (if k = r then q_ct (q_wgt u) (q_al u) r n k else q_ct (q_wgt u) (q_al u) r n k + q_wgt u k * q_cl (q_wgt u) (q_al u) r k n) ∧ (if k = r then q_ct (q_wgt u) (q_al u) r n k else q_ct (q_wgt u) (q_al u) r n k + q_wgt u k * q_cl (q_wgt u) (q_al u) r k n) ≤ ((k + 1 : Nat) : Int) * 59719680000000
    by_cases hr : k = r
    · rw [if_pos hr]
      omega
    · rw [if_neg hr]
      omega
theorem q_cl_go {w : Nat → Int} {all x y : Int} {r f i i1 : Nat} (h : x = q_cl w all r f i) (e1 : i1 = i + 1) (hr : i ≠ r) (hf : i ≠ f) (hy : y = x * (all - w i)) : y = q_cl w all r f i1 := by
  rw [e1, hy, h]
  show _ = if i = r ∨ i = f then _ else _
  rw [if_neg (by omega)]
theorem q_cl_skip {w : Nat → Int} {all x : Int} {r f i i1 : Nat} (h : x = q_cl w all r f i) (e1 : i1 = i + 1) (hr : i = r ∨ i = f) : x = q_cl w all r f i1 := by
  rw [e1, h]
  show _ = if i = r ∨ i = f then _ else _
  rw [if_pos hr]
/-- the fraction of a chance: first, second place -/
def q_chN (u : Nat → Int) (c k : Int) : Int := if q_nl u = 0 then (if c = k then 1 else 0) else if q_nl u ≤ c then 0 else if k = 0 then q_wgt u c.toNat else q_cs (q_wgt u) (q_al u) c.toNat (q_nl u).toNat * q_wgt u c.toNat
def q_chD (u : Nat → Int) (c k : Int) : Int := if q_nl u = 0 then 1 else if q_nl u ≤ c then 1 else if k = 0 then q_al u else q_al u * q_cp (q_wgt u) (q_al u) c.toNat (q_nl u).toNat
theorem q_chD_pos {u : Nat → Int} (hok : q_ok u) {c k : Int} (hc : 0 ≤ c) : 0 < q_chD u c k := by
  unfold q_chD
  by_cases h1 : q_nl u = 0
  · rw [if_pos h1]
    decide
  · rw [if_neg h1]
    by_cases h2 : q_nl u ≤ c
    · rw [if_pos h2]
      decide
    · rw [if_neg h2]
      obtain ⟨⟨h3, _⟩, ⟨h4, _⟩, _⟩ := q_al_b hok (j := c.toNat) (by omega)
      by_cases h5 : k = 0
      · rw [if_pos h5]
        omega
      · rw [if_neg h5]
        have h6 := q_cp_b hok (r := c.toNat) (q_nl u).toNat (by omega)
        exact Int.mul_pos (by omega) (by omega)
/-! numbers of the machine that stay small -/
theorem h_ladd {x y v : Int64} {p : Int} (e : v = x + y) (hp : x.toInt + y.toInt = p) (h1 : -9223372036854775808 ≤ p) (h2 : p < 9223372036854775808) : v.toInt = p := by
  rw [e, Int64.toInt_add, hp]
  exact Int.bmod_eq_of_le (by omega) (by omega)
theorem q_mul_n {x y c d : Int} (h1 : 0 ≤ x) (h2 : x ≤ c) (h3 : 0 ≤ y) (h4 : y ≤ d) : 0 ≤ x * y ∧ x * y ≤ c * d := ⟨Int.mul_nonneg h1 h3, Int.mul_le_mul h2 h4 h3 (by omega)⟩
theorem q_eu0 {a b : Int} (h1 : 0 ≤ a) (h2 : 0 ≤ b) (h3 : b ≤ 100000000000000000) : q_eu 10000000000000000000000000000000000 0 a b := by
  have h4 := q_mul_n h2 h3 h2 h3
  exact ⟨h1, h2, Or.inl ⟨rfl, by omega⟩⟩
theorem q_eu200 {a b : Int} {s : Nat} (h : q_eu 10000000000000000000000000000000000 s a b) (hs : s = 200) : b = 0 := by
  subst hs
  exact h.end (by decide) (by decide +kernel)
theorem q_gpos {a A B : Int} (h0 : 0 ≤ a) (h : a.natAbs = Int.gcd A B) (hB : 0 < B) : 0 < a := by
  rcases (show 0 < a ∨ a ≤ 0 by omega) with h1 | h1
  · exact h1
  · exfalso
    have h2 : Int.gcd A B = 0 := by omega
    have h3 := (Int.gcd_eq_zero_iff.mp h2).2
    omega
theorem h_upL {L L1 L2 : tL} {a : Nat} {x y : Int64} (e1 : L1 = h_up L a 5 x) (e2 : L2 = h_up L1 a 6 y) : L2 a 5 = x ∧ L2 a 6 = y := by
  subst e1
  subst e2
  exact ⟨(h_up_at (by decide)).trans h_up_eq, h_up_eq⟩
theorem q_ct_go {w : Nat → Int} {all x y : Int} {r n i i1 : Nat} (h : x = q_ct w all r n i) (e1 : i1 = i + 1) (hr : i ≠ r) (hy : y = x + w i * q_cl w all r i n) : y = q_ct w all r n i1 := by
  rw [e1, hy, h]
  show _ = if i = r then _ else _
  rw [if_neg hr]
theorem q_ct_skip {w : Nat → Int} {all x : Int} {r n i i1 : Nat} (h : x = q_ct w all r n i) (e1 : i1 = i + 1) (hr : i = r) : x = q_ct w all r n i1 := by
  rw [e1, h]
  show _ = if i = r then _ else _
  rw [if_pos hr]
theorem q_cp_go {w : Nat → Int} {all m x y : Int} {r i i1 : Nat} (h : x = m * q_cp w all r i) (e1 : i1 = i + 1) (hr : i ≠ r) (hy : y = x * (all - w i)) : y = m * q_cp w all r i1 := by
  rw [e1, hy, h, Int.mul_assoc]
  show _ = m * (if i = r then _ else _)
  rw [if_neg hr]
theorem q_cp_skip {w : Nat → Int} {all m x : Int} {r i i1 : Nat} (h : x = m * q_cp w all r i) (e1 : i1 = i + 1) (hr : i = r) : x = m * q_cp w all r i1 := by
  rw [e1, h]
  show _ = m * (if i = r then _ else _)
  rw [if_pos hr]
/-! where a club is first met -/
theorem q_fst {f : Nat → Int32} {c l l1 : Int} {i v : Int32} (h : ∀ k : Nat, (k : Int) < l → (f k).toInt ≠ c) (ev : v = f i.toNatClampNeg) (hi : i.toInt = l) (h0 : 0 ≤ l) (hv : v.toInt ≠ c) (e1 : l1 = l + 1) : ∀ k : Nat, (k : Int) < l1 → (f k).toInt ≠ c := by
  intro k hk
  by_cases hkl : (k : Int) = l
  · have ek := h_keq (k := k) (i := i) hi h0 hkl
    rw [← ek, ← ev]
    exact hv
  · exact h k (by omega)
def q_at1 (f : Nat → Int32) (c r : Int) : Prop := (0 ≤ r ∧ r ≤ 7) ∧ (f r.toNat).toInt = c ∧ ∀ k : Nat, (k : Int) < r → (f k).toInt ≠ c
theorem q_at1.eq {f g : Nat → Int32} {c r r1 : Int} (h : q_at1 f c r) (h1 : q_at1 g c r1) (e : ∀ k : Nat, k < 8 → f k = g k) : r = r1 := by
  obtain ⟨a1, a2, a3⟩ := h
  obtain ⟨b1, b2, b3⟩ := h1
  rcases (show r < r1 ∨ r = r1 ∨ r1 < r by omega) with h9 | h9 | h9
  · exact absurd (by rw [← e _ (by omega)]; exact a2) (b3 r.toNat (by omega))
  · exact h9
  · exact absurd (by rw [e _ (by omega)]; exact b2) (a3 r1.toNat (by omega))
theorem q_ch_0 {u : Nat → Int} {c k : Int} (h0 : q_nl u = 0) : q_chN u c k = (if c = k then 1 else 0) ∧ q_chD u c k = 1 := by
  unfold q_chN q_chD
  rw [if_pos h0, if_pos h0]
  exact ⟨rfl, rfl⟩
theorem q_ch_1 {u : Nat → Int} {c k : Int} (h0 : q_nl u ≠ 0) (h1 : c < q_nl u) (hk : k = 0) : q_chN u c k = q_wgt u c.toNat ∧ q_chD u c k = q_al u := by
  unfold q_chN q_chD
  rw [if_neg h0, if_neg h0, if_neg (show ¬ q_nl u ≤ c by omega), if_neg (show ¬ q_nl u ≤ c by omega), if_pos hk, if_pos hk]
  exact ⟨rfl, rfl⟩
theorem q_ch_2 {u : Nat → Int} {c k : Int} (h0 : q_nl u ≠ 0) (h1 : c < q_nl u) (hk : k ≠ 0) : q_chN u c k = q_cs (q_wgt u) (q_al u) c.toNat (q_nl u).toNat * q_wgt u c.toNat ∧ q_chD u c k = q_al u * q_cp (q_wgt u) (q_al u) c.toNat (q_nl u).toNat := by
  unfold q_chN q_chD
  rw [if_neg h0, if_neg h0, if_neg (show ¬ q_nl u ≤ c by omega), if_neg (show ¬ q_nl u ≤ c by omega), if_neg hk, if_neg hk]
  exact ⟨rfl, rfl⟩
theorem q_ch_3 {u : Nat → Int} {c k : Int} (h0 : q_nl u ≠ 0) (h1 : q_nl u ≤ c) : q_chN u c k = 0 ∧ q_chD u c k = 1 := by
  unfold q_chN q_chD
  rw [if_neg h0, if_neg h0, if_pos h1, if_pos h1]
  exact ⟨rfl, rfl⟩
theorem q_red.one {N : Int} (h : 0 ≤ N) : q_red N 1 N 1 := ⟨h, by decide, Int.gcd_one_right N, rfl⟩
theorem q_chx {u : Nat → Int} {c k N D a b : Int} (h5 : a = N) (h6 : b = D) (h : (q_nl u = 0 ∧ D = 1 ∧ ((c = k ∧ N = 1) ∨ (c ≠ k ∧ N = 0))) ∨ (q_nl u ≠ 0 ∧ q_nl u ≤ c ∧ N = 0 ∧ D = 1)) : q_red (q_chN u c k) (q_chD u c k) a b := by
  rw [h5, h6]
  rcases h with ⟨h0, h1, h2⟩ | ⟨h0, h1, h2, h3⟩
  · obtain ⟨e1, e2⟩ := q_ch_0 (c := c) (k := k) h0
    rw [e1, e2, h1]
    rcases h2 with ⟨g1, g2⟩ | ⟨g1, g2⟩
    · rw [if_pos g1, g2]
      exact q_red.one (by decide)
    · rw [if_neg g1, g2]
      exact q_red.one (by decide)
  · obtain ⟨e1, e2⟩ := q_ch_3 (c := c) (k := k) h0 h1
    rw [e1, e2, h2, h3]
    exact q_red.one (by decide)
theorem q_red.le {N D a b : Int} (hD : 0 < D) (h : q_red N D a b) : b ≤ D ∧ a ≤ N := by
  obtain ⟨h0, h1, h2, h3⟩ := h
  have hc : Nat.Coprime b.natAbs a.natAbs := by
    show Nat.gcd b.natAbs a.natAbs = 1
    rw [Nat.gcd_comm]
    exact h2
  have hd : b.natAbs ∣ a.natAbs * D.natAbs := ⟨N.natAbs, by rw [← Int.natAbs_mul, h3, Int.natAbs_mul, Nat.mul_comm]⟩
  have h4 : b.natAbs ≤ D.natAbs := Nat.le_of_dvd (by omega) (hc.dvd_of_dvd_mul_left hd)
  have h5 : b ≤ D := by omega
  refine ⟨h5, ?_⟩
  rcases (show N < a ∨ a ≤ N by omega) with h6 | h6
  · exfalso
    have h7 : N * b ≤ N * D ∨ N < 0 := by
      rcases (show N < 0 ∨ 0 ≤ N by omega) with h8 | h8
      · exact Or.inr h8
      · exact Or.inl (Int.mul_le_mul_of_nonneg_left h5 h8)
    have h9 : N * D < a * D := Int.mul_lt_mul_of_pos_right h6 hD
    rcases h7 with h7 | h7
    · omega
    · have h8 := Int.mul_neg_of_neg_of_pos h7 h1
      have h10 := Int.mul_nonneg h0 (Int.le_of_lt hD)
      omega
  · exact h6
/-- one more club that may come first -/
theorem q_red.step {all x w p S P above below f g b1 B1 a2 b2 cut av bv : Int} (h : q_red (S * p) (all * P) above below) (hS : 0 ≤ S) (hP : 0 < P) (hall : 0 < all) (hx : 0 < x) (hw : 0 ≤ w) (hp : 0 ≤ p) (hf : f = all * x) (hg : 0 < g) (e1 : g * b1 = f) (e2 : g * B1 = below) (ea : a2 = above * b1 + w * p * B1) (eb : b2 = B1 * f) (hc : 0 < cut) (gc : cut.natAbs = Int.gcd a2 b2) (e3 : cut * av = a2) (e4 : cut * bv = b2) : q_red ((S * x + w * P) * p) (all * (P * x)) av bv := by
  obtain ⟨h0, h1, h2, h3⟩ := h
  have f0 : 0 < f := by
    rw [hf]
    exact Int.mul_pos hall hx
  have pos : ∀ y c : Int, 0 < c → g * y = c → 0 < y := by
    intro y c hc0 he
    rcases (show 0 < y ∨ y ≤ 0 by omega) with h9 | h9
    · exact h9
    · have := Int.mul_nonpos_of_nonneg_of_nonpos (Int.le_of_lt hg) h9
      omega
  have b10 := pos b1 f f0 e1
  have B10 := pos B1 below h1 e2
  have a20 : 0 ≤ a2 := by
    rw [ea]
    exact Int.add_nonneg (Int.mul_nonneg h0 (Int.le_of_lt b10)) (Int.mul_nonneg (Int.mul_nonneg hw hp) (Int.le_of_lt B10))
  have b20 : 0 < b2 := by
    rw [eb]
    exact Int.mul_pos B10 f0
  refine q_red.of a20 b20 hc gc e3 e4 ?_
  have k1 : b2 = below * b1 := by
    rw [eb, ← e1, ← e2]
    rw [Int.mul_left_comm B1 g b1, Int.mul_assoc]
  rw [k1, ea, Int.add_mul]
  have t1 : above * b1 * (all * (P * x)) = S * p * below * (b1 * x) := by
    have : above * b1 * (all * (P * x)) = (above * (all * P)) * (b1 * x) := by
      simp only [Int.mul_assoc, Int.mul_left_comm, Int.mul_comm]
    rw [this, h3]
  have t2 : w * p * B1 * (all * (P * x)) = w * p * P * (below * b1) := by
    have : w * p * B1 * (all * (P * x)) = w * p * P * (B1 * (all * x)) := by
      simp only [Int.mul_assoc, Int.mul_left_comm, Int.mul_comm]
    rw [this, ← hf, ← eb, k1]
  rw [t1, t2, Int.add_mul, Int.add_mul]
  simp only [Int.mul_assoc, Int.mul_left_comm, Int.mul_comm]
def q_ci (u : Nat → Int) (p : Int) (j : Nat) (a b : Int) : Prop := (p < q_nl u → q_red (q_cs (q_wgt u) (q_al u) p.toNat j * q_wgt u p.toNat) (q_al u * q_cp (q_wgt u) (q_al u) p.toNat j) a b) ∧ (q_nl u ≤ p → a = 0 ∧ b = 1)
theorem q_ci.z {u : Nat → Int} {p : Int} : q_ci u p 0 0 1 := by
  refine ⟨fun _ => ⟨by decide, by decide, by decide, ?_⟩, fun _ => ⟨rfl, rfl⟩⟩
  show (0 : Int) * (q_al u * 1) = 0 * q_wgt u p.toNat * 1
  rw [Int.zero_mul, Int.zero_mul, Int.zero_mul]
theorem q_ci.skip {u : Nat → Int} {p a b : Int} {j j1 : Nat} (h : q_ci u p j a b) (e : j1 = j + 1) (hj : j = p.toNat) : q_ci u p j1 a b := by
  refine ⟨fun hp => ?_, h.2⟩
  have h1 := h.1 hp
  rw [e]
  have c1 : q_cs (q_wgt u) (q_al u) p.toNat (j + 1) = q_cs (q_wgt u) (q_al u) p.toNat j := if_pos hj
  have c2 : q_cp (q_wgt u) (q_al u) p.toNat (j + 1) = q_cp (q_wgt u) (q_al u) p.toNat j := if_pos hj
  rw [c1, c2]
  exact h1
theorem q_ci.b {u : Nat → Int} {p a b : Int} {j : Nat} (hok : q_ok u) (h : q_ci u p j a b) (h0 : 0 ≤ p) (hp : p < q_nl u) (hj : (j : Int) < q_nl u) : 0 ≤ a ∧ a ≤ 49766400000000 ∧ 0 < b ∧ b ≤ 2985984000000 ∧ 1 ≤ q_cp (q_wgt u) (q_al u) p.toNat j ∧ 0 ≤ q_cs (q_wgt u) (q_al u) p.toNat j := by
  obtain ⟨_, ⟨g1, g2⟩, g3, g4, g5⟩ := q_al_b hok (j := p.toNat) (by omega)
  obtain ⟨⟨g7, g8⟩, _⟩ := q_al_b hok (j := 0) (by omega)
  have hc := q_cp_b hok (r := p.toNat) j (by omega)
  have h5 := q_p125 j (by omega)
  have hs := q_ct_5 hok (r := p.toNat) (n := j) (by omega) (by omega) j (Nat.le_refl j)
  rw [q_ct_cs] at hs
  have al0 : 1 ≤ q_al u := by
    obtain ⟨⟨m1, _⟩, ⟨m2, _⟩, _⟩ := q_al_b hok (j := 0) (by omega)
    omega
  have hD := q_mul_b al0 g3 hc.1 (show q_cp (q_wgt u) (q_al u) p.toNat j ≤ 24883200000 by omega)
  have hN := q_mul_n hs.1 (show q_cs (q_wgt u) (q_al u) p.toNat j ≤ 2488320000000 by omega) (show 0 ≤ q_wgt u p.toNat by omega) g2
  have hl := (h.1 hp).le (by omega)
  obtain ⟨r0, r1, _, _⟩ := h.1 hp
  omega
theorem q_ci.go {u : Nat → Int} {p above below f g b1 B1 a2 b2 cut av bv : Int} {j j1 : Nat} (hok : q_ok u) (h : q_ci u p j above below) (h0 : 0 ≤ p) (hp : p < q_nl u) (hj : (j : Int) < q_nl u) (hjp : j ≠ p.toNat) (ej : j1 = j + 1) (hf : f = q_al u * (q_al u - q_wgt u j)) (hg : 0 < g) (e1 : g * b1 = f) (e2 : g * B1 = below) (ea : a2 = above * b1 + q_wgt u j * q_wgt u p.toNat * B1) (eb : b2 = B1 * f) (hc : 0 < cut) (gc : cut.natAbs = Int.gcd a2 b2) (e3 : cut * av = a2) (e4 : cut * bv = b2) : q_ci u p j1 av bv := by
  have hb := h.b hok h0 hp hj
  obtain ⟨⟨m1, m2⟩, ⟨m3, m4⟩, _⟩ := q_al_b hok (j := j) hj
  obtain ⟨_, ⟨m5, m6⟩, _⟩ := q_al_b hok (j := p.toNat) (by omega)
  refine ⟨fun _ => ?_, fun h9 => absurd h9 (by omega)⟩
  have c1 : q_cs (q_wgt u) (q_al u) p.toNat (j + 1) = q_cs (q_wgt u) (q_al u) p.toNat j * (q_al u - q_wgt u j) + q_wgt u j * q_cp (q_wgt u) (q_al u) p.toNat j := if_neg hjp
  have c2 : q_cp (q_wgt u) (q_al u) p.toNat (j + 1) = q_cp (q_wgt u) (q_al u) p.toNat j * (q_al u - q_wgt u j) := if_neg hjp
  rw [ej, c1, c2]
  exact q_red.step (h.1 hp) hb.2.2.2.2.2 (by omega) (by omega) (by omega) (by omega) (by omega) hf hg e1 e2 ea eb hc gc e3 e4
theorem q_dvb {g a b : Int} (h : g * a = b) (hg : 0 < g) (hb : 0 ≤ b) : (0 ≤ a ∧ a ≤ b) ∧ (0 < b → 0 < a) := by
  have h0 : 0 ≤ a := by
    rcases (show a < 0 ∨ 0 ≤ a by omega) with h9 | h9
    · have := Int.mul_neg_of_pos_of_neg hg h9
      omega
    · exact h9
  refine ⟨⟨h0, ?_⟩, fun h2 => ?_⟩
  · have h1 : 1 * a ≤ g * a := Int.mul_le_mul_of_nonneg_right (by omega) h0
    omega
  · rcases (show 0 < a ∨ a = 0 by omega) with h9 | h9
    · exact h9
    · rw [h9, Int.mul_zero] at h
      omega
theorem q_uniq {g a b c : Int} (h : g * a = c) (h1 : g * b = c) (hg : 0 < g) : a = b := Int.eq_of_mul_eq_mul_left (by omega) (h.trans h1.symm)
theorem q_cfin0 {u : Nat → Int} {p k a b : Int} (h0 : q_nl u = 0) (hb : b = 1) (ha : (p = k ∧ a = 1) ∨ (p ≠ k ∧ a = 0)) : (0 ≤ a ∧ a ≤ 9000000000000000000) ∧ (0 < b ∧ b ≤ 9000000000000000000) ∧ a * q_chD u p k = q_chN u p k * b := by
  obtain ⟨e1, e2⟩ := q_ch_0 (c := p) (k := k) h0
  rw [e1, e2, hb]
  rcases ha with ⟨h1, h2⟩ | ⟨h1, h2⟩
  · rw [if_pos h1, h2]
    decide
  · rw [if_neg h1, h2]
    decide
theorem q_cfin1 {u : Nat → Int} {p k a b x y : Int} (hok : q_ok u) (h0 : q_nl u ≠ 0) (hk : k = 0) (hp : 0 ≤ p) (hx : x = if p < q_nl u then u (9 + p.toNat) else 0) (hy : y = q_al u) (ha : a = x) (hb : b = y) : (0 ≤ a ∧ a ≤ 9000000000000000000) ∧ (0 < b ∧ b ≤ 9000000000000000000) ∧ a * q_chD u p k = q_chN u p k * b := by
  have nb := q_nl_b hok
  obtain ⟨⟨_, _⟩, ⟨g1, _⟩, g3, _⟩ := q_al_b hok (j := 0) (by omega)
  have g0 : 1 ≤ q_al u := by
    obtain ⟨⟨m1, _⟩, ⟨m2, _⟩, _⟩ := q_al_b hok (j := 0) (by omega)
    omega
  by_cases h1 : p < q_nl u
  · rw [if_pos h1] at hx
    obtain ⟨e1, e2⟩ := q_ch_1 h0 h1 hk
    obtain ⟨_, ⟨g4, g5⟩, _⟩ := q_al_b hok (j := p.toNat) (by omega)
    have e3 : u (9 + p.toNat) = q_wgt u p.toNat := rfl
    rw [e1, e2, ha, hb, hx, hy, e3]
    exact ⟨by omega, by omega, rfl⟩
  · rw [if_neg h1] at hx
    obtain ⟨e1, e2⟩ := q_ch_3 (c := p) (k := k) h0 (by omega)
    rw [e1, e2, ha, hb, hx, hy]
    exact ⟨by decide, by omega, by omega⟩
theorem q_cfin {u : Nat → Int} {p k a b : Int} {j : Nat} (hok : q_ok u) (h : q_ci u p j a b) (h0 : 0 ≤ p) (hk : k ≠ 0) (hj : q_nl u ≠ 0 ∧ ((j : Int) = q_nl u ∨ q_nl u ≤ p)) : (0 ≤ a ∧ a ≤ 9000000000000000000) ∧ (0 < b ∧ b ≤ 9000000000000000000) ∧ a * q_chD u p k = q_chN u p k * b := by
  obtain ⟨hn, hj⟩ := hj
  have nb := q_nl_b hok
  by_cases h1 : p < q_nl u
  · obtain ⟨e1, e2⟩ := q_ch_2 (u := u) (c := p) (k := k) hn h1 hk
    have hr := h.1 h1
    have ej : j = (q_nl u).toNat := by omega
    rw [ej] at hr
    have hc := q_cp_b hok (r := p.toNat) (q_nl u).toNat (by omega)
    have h6 := q_p120 (q_nl u).toNat (by omega)
    have hs := q_ct_b hok (r := p.toNat) (n := (q_nl u).toNat) (by omega) (q_nl u).toNat (Nat.le_refl _)
    rw [q_ct_cs] at hs
    obtain ⟨⟨m1, _⟩, ⟨m2, m4⟩, m3, _⟩ := q_al_b hok (j := p.toNat) (by omega)
    have hD := q_mul_b (show 1 ≤ q_al u by omega) m3 hc.1 (show q_cp (q_wgt u) (q_al u) p.toNat (q_nl u).toNat ≤ 2985984000000 by omega)
    have hN := q_mul_n hs.1 (show q_cs (q_wgt u) (q_al u) p.toNat (q_nl u).toNat ≤ 358318080000000 by omega) (show 0 ≤ q_wgt u p.toNat by omega) m4
    have hl := hr.le (by omega)
    obtain ⟨r0, r1, _, r3⟩ := hr
    rw [e1, e2]
    exact ⟨by omega, by omega, r3⟩
  · obtain ⟨e1, e2⟩ := q_ch_3 (c := p) (k := k) hn (by omega)
    obtain ⟨h2, h3⟩ := h.2 (by omega)
    rw [e1, e2, h2, h3]
    decide

