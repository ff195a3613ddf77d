/-! the text of laws as a function of its bytes: tokens, lines, the whole -/
def q_at (f : Nat → Int32) (n p : Int) : Int := if 0 ≤ p ∧ p < n then (f p.toNat).toInt % 256 else -1
def q_B (c : Int) : Bool := decide (c = 32 ∨ c = 10)
def q_L (c : Int) : Bool := decide (97 ≤ c ∧ c ≤ 122)
def q_D (c : Int) : Bool := decide (48 ≤ c ∧ c ≤ 57)
/-- the first place from p on where it doesn't hold -/
def q_run (g : Int → Int) (q : Int → Bool) : Nat → Int → Int
  | 0, p => p
  | n + 1, p => if q (g p) = true then q_run g q n (p + 1) else p
theorem q_run_eq {g : Int → Int} {q : Int → Bool} : ∀ (n : Nat) (p e : Int), p ≤ e → e - p < n → (∀ j : Int, p ≤ j → j < e → q (g j) = true) → q (g e) = false → q_run g q n p = e := by
  intro n
  induction n with
  | zero => intro p e h1 h2; omega
  | succ n ih =>
    intro p e h1 h2 h3 h4
    unfold q_run
    by_cases hp : p = e
    · subst hp
      rw [h4]
      rfl
    · rw [if_pos (h3 p (by omega) (by omega))]
      exact ih (p + 1) e (by omega) (by omega) (fun j h5 h6 => h3 j (by omega) h6) h4
def q_a (g : Int → Int) (p : Int) : Int := q_run g q_B 502 p
def q_e (g : Int → Int) (p : Int) : Int := if g (q_a g p) = -1 then q_a g p else if q_L (g (q_a g p)) = true then q_run g q_L 502 (q_a g p) else if q_D (g (q_a g p)) = true then q_run g q_D 502 (q_a g p) else q_a g p + 1
def q_k (g : Int → Int) (p : Int) : Int := if g (q_a g p) = -1 then 0 else if q_L (g (q_a g p)) = true then 1 else if q_D (g (q_a g p)) = true then (if q_e g p - q_a g p ≤ 5 then 2 else 4) else if g (q_a g p) = 59 then 3 else 4
def q_dec (g : Int → Int) (a : Int) : Nat → Int
  | 0 => 0
  | n + 1 => 10 * q_dec g a n + (g (a + n) - 48)
def q_v (g : Int → Int) (p : Int) : Int := q_dec g (q_a g p) (q_e g p - q_a g p).toNat
def q_eq (g : Int → Int) : Int → List Int → Bool
  | _, [] => true
  | a, c :: t => decide (g a = c) && q_eq g (a + 1) t
def q_wd : List (List Int) := [[99, 97, 112], [114, 111, 115, 116, 101, 114], [121, 101, 97, 114, 115], [115, 112, 97, 114, 101], [109, 97, 116, 99, 104], [104, 117, 114, 116], [116, 97, 120], [108, 111, 116, 115]]
def q_is (g : Int → Int) (a n : Int) (u : List Int) : Bool := decide ((u.length : Int) = n) && q_eq g a u
def q_fd (g : Int → Int) (a n : Int) : List (List Int) → Int → Int
  | [], _ => -1
  | u :: t, i => if q_is g a n u = true then i else q_fd g a n t (i + 1)
def q_w (g : Int → Int) (p : Int) : Int := q_fd g (q_a g p) (q_e g p - q_a g p) q_wd 0
/-- a number that must lie within bounds: which fault, 0 if none -/
def q_nf (g : Int → Int) (p lo hi : Int) : Int := if q_k g p ≠ 2 then 1 else if q_v g p < lo ∨ hi < q_v g p then 2 else 0
def q_up (u : Nat → Int) (i : Nat) (v : Int) : Nat → Int := fun j => if j = i then v else u j
/-- fault, its place, where it goes on, the numbers -/
def q_ns (g : Int → Int) : List (Nat × Int × Int) → Int → (Nat → Int) → Int × Int × Int × (Nat → Int)
  | [], p, u => if q_k g p = 3 then (0, 0, q_e g p, u) else (1, q_a g p, p, u)
  | (i, lo, hi) :: t, p, u => if q_nf g p lo hi = 0 then q_ns g t (q_e g p) (q_up u i (q_v g p)) else (q_nf g p lo hi, q_a g p, p, u)
def q_lt (g : Int → Int) : Nat → Nat → Int → (Nat → Int) → Int × Int × Int × (Nat → Int)
  | 0, _, p, u => if q_k g p = 3 then (0, 0, q_e g p, u) else (1, q_a g p, p, u)
  | n + 1, i, p, u => if q_k g p = 3 ∧ 0 < i then (0, 0, q_e g p, u) else if q_nf g p 1 20 = 0 then q_lt g n (i + 1) (q_e g p) (q_up (q_up u (9 + i) (q_v g p)) 8 (i + 1)) else (q_nf g p 1 20, q_a g p, p, u)
def q_ln (w : Int) : List (Nat × Int × Int) := if w = 0 then [(0, 1, 50000)] else if w = 1 then [(1, 1, 15)] else if w = 2 then [(2, 1, 5)] else if w = 3 then [(3, 0, 5000)] else if w = 4 then [(4, 0, 300), (5, 0, 5000)] else if w = 5 then [(6, 0, 100)] else [(7, 0, 300)]
def q_line (g : Int → Int) (p : Int) (T : Int → Bool) (u : Nat → Int) : Int × Int × Int × (Nat → Int) :=
  if q_k g p ≠ 1 ∨ q_w g p = -1 then (1, q_a g p, p, u) else if T (q_w g p) = true then (3, q_a g p, p, u) else if q_w g p = 7 then q_lt g 6 0 (q_e g p) u else q_ns g (q_ln (q_w g p)) (q_e g p) u
/-- fault, its place, how many lines, the numbers -/
def q_text (g : Int → Int) : Nat → Int → (Int → Bool) → (Nat → Int) → Int → Int × Int × Int × (Nat → Int)
  | 0, _, _, u, _ => (9, 0, 0, u)
  | n + 1, p, T, u, m => if q_k g p = 0 then (0, -1, m, u) else if (q_line g p T u).1 = 0 then q_text g n (q_line g p T u).2.2.1 (fun w => T w || decide (w = q_w g p)) (q_line g p T u).2.2.2 (m + 1) else ((q_line g p T u).1, (q_line g p T u).2.1, -1, u)
def q_pl (i : Nat) : Int := if i = 0 then 1000 else if i = 1 then 15 else if i = 2 then 4 else if i = 4 then 100 else if i = 8 then 1 else if i = 9 then 1 else 0
theorem q_at_ge {f : Nat → Int32} {n p : Int} (h : n ≤ p) : q_at f n p = -1 := by
  unfold q_at
  rw [if_neg (by omega)]
theorem q_at_in {f : Nat → Int32} {n p : Int} (h : q_at f n p ≠ -1) : 0 ≤ p ∧ p < n := by
  unfold q_at at h
  by_cases hp : 0 ≤ p ∧ p < n
  · exact hp
  · rw [if_neg hp] at h
    exact absurd rfl h

