/-! rings: folds over players, over clubs -/
abbrev tS : Type := Int × List (Int × Nat)
def q_mc (f : Nat → Int32) (c : Int) : Nat → Bool := fun p => decide ((f p).toInt = c)
theorem q_mc_y {f : Nat → Int32} {c : Int} {p : Nat} (h : (f p).toInt = c) : q_mc f c p = true := decide_eq_true h
theorem q_mc_n {f : Nat → Int32} {c : Int} {p : Nat} (h : (f p).toInt ≠ c) : q_mc f c p = false := decide_eq_false h
theorem q_mc_i {f : Nat → Int32} {c : Int} {p : Nat} (h : q_mc f c p = true) : (f p).toInt = c := of_decide_eq_true h
def q_ct (P : Nat → Bool) : Nat → Nat
  | 0 => 0
  | n + 1 => if P n = true then q_ct P n + 1 else q_ct P n
theorem q_ct_y {P : Nat → Bool} {n : Nat} (h : P n = true) : q_ct P (n + 1) = q_ct P n + 1 := if_pos h
theorem q_ct_n {P : Nat → Bool} {n : Nat} (h : P n = false) : q_ct P (n + 1) = q_ct P n := if_neg (by rw [h]; exact Bool.false_ne_true)
theorem q_ct_m {P : Nat → Bool} {m n : Nat} (h : m ≤ n) : q_ct P m ≤ q_ct P n := by
  induction n with
  | zero =>
    rw [show m = 0 by omega]
    exact Nat.le_refl _
  | succ n ih =>
    by_cases e : m = n + 1
    · rw [e]
      exact Nat.le_refl _
    · have h1 := ih (by omega)
      cases hp : P n with
      | true => rw [q_ct_y hp]; omega
      | false => rw [q_ct_n hp]; exact h1
theorem q_ct_lt {P : Nat → Bool} {m n : Nat} (hp : P m = true) (h : m < n) : q_ct P m < q_ct P n := by
  have h1 := q_ct_m (P := P) (show m + 1 ≤ n by omega)
  rw [q_ct_y hp] at h1
  omega
theorem q_ct_ex {P : Nat → Bool} {k n : Nat} (h : k < q_ct P n) : ∃ p : Nat, p < n ∧ P p = true ∧ q_ct P p = k := by
  induction n with
  | zero => exact absurd h (Nat.not_lt_zero _)
  | succ n ih =>
    cases hp : P n with
    | true =>
      rw [q_ct_y hp] at h
      by_cases e : k = q_ct P n
      · exact ⟨n, Nat.lt_succ_self n, hp, e.symm⟩
      · obtain ⟨p, h1, h2, h3⟩ := ih (by omega)
        exact ⟨p, by omega, h2, h3⟩
    | false =>
      rw [q_ct_n hp] at h
      obtain ⟨p, h1, h2, h3⟩ := ih h
      exact ⟨p, by omega, h2, h3⟩
theorem q_ct_inj {P : Nat → Bool} {m n : Nat} (hm : P m = true) (hn : P n = true) (h : q_ct P m = q_ct P n) : m = n := by
  rcases Nat.lt_trichotomy m n with q | q | q
  · have := q_ct_lt hm q
    omega
  · exact q
  · have := q_ct_lt hn q
    omega
theorem q_ct_c {P Q : Nat → Bool} : ∀ n : Nat, (∀ i : Nat, i < n → P i = Q i) → q_ct P n = q_ct Q n := by
  intro n
  induction n with
  | zero => exact fun _ => rfl
  | succ n ih =>
    intro h
    show (if P n = true then q_ct P n + 1 else q_ct P n) = if Q n = true then q_ct Q n + 1 else q_ct Q n
    rw [ih (fun i hi => h i (by omega)), h n (by omega)]
def r_fp (P : Nat → Bool) (f : tS → Nat → tS) (s : tS) : Nat → tS
  | 0 => s
  | n + 1 => if P n = true then f (r_fp P f s n) n else r_fp P f s n
theorem r_fp_y {P : Nat → Bool} {f : tS → Nat → tS} {s : tS} {n : Nat} (h : P n = true) : r_fp P f s (n + 1) = f (r_fp P f s n) n := if_pos h
theorem r_fp_n {P : Nat → Bool} {f : tS → Nat → tS} {s : tS} {n : Nat} (h : P n = false) : r_fp P f s (n + 1) = r_fp P f s n := if_neg (by rw [h]; exact Bool.false_ne_true)
theorem r_fp_same {P : Nat → Bool} {f : tS → Nat → tS} {s : tS} {m n : Nat} (h : m ≤ n) (e : q_ct P m = q_ct P n) : r_fp P f s m = r_fp P f s n := by
  induction n with
  | zero => rw [show m = 0 by omega]
  | succ n ih =>
    by_cases e1 : m = n + 1
    · rw [e1]
    · have h1 := q_ct_m (P := P) (show m ≤ n by omega)
      cases hp : P n with
      | true =>
        rw [q_ct_y hp] at e
        omega
      | false =>
        rw [q_ct_n hp] at e
        rw [r_fp_n hp]
        exact ih (by omega) e
theorem r_fp_at {P : Nat → Bool} {f : tS → Nat → tS} {s : tS} {m n : Nat} (e : q_ct P m = q_ct P n) : r_fp P f s m = r_fp P f s n := by
  rcases Nat.le_total m n with h | h
  · exact r_fp_same h e
  · exact (r_fp_same h e.symm).symm
/-- the state behind k members -/
def r_at (P : Nat → Bool) (f : tS → Nat → tS) (s : tS) (n k : Nat) (t : tS) : Prop := ∃ m : Nat, m ≤ n ∧ q_ct P m = k ∧ t = r_fp P f s m
theorem r_at.z {P : Nat → Bool} {f : tS → Nat → tS} {s : tS} {n : Nat} : r_at P f s n 0 s := ⟨0, Nat.zero_le n, rfl, rfl⟩
theorem r_at.s {P : Nat → Bool} {f : tS → Nat → tS} {s t : tS} {n k p : Nat} (h : r_at P f s n k t) (hp : p < n) (hP : P p = true) (e : q_ct P p = k) : r_at P f s n (k + 1) (f t p) := by
  obtain ⟨m, h1, h2, h3⟩ := h
  exact ⟨p + 1, hp, by rw [q_ct_y hP, e], by rw [r_fp_y hP, h3, r_fp_at (h2.trans e.symm)]⟩
theorem r_at.e {P : Nat → Bool} {f : tS → Nat → tS} {s t : tS} {n k : Nat} (h : r_at P f s n k t) (e : k = q_ct P n) : t = r_fp P f s n := by
  obtain ⟨m, h1, h2, h3⟩ := h
  rw [h3]
  exact r_fp_same h1 (h2.trans e)
theorem r_fp_id {P : Nat → Bool} {f : tS → Nat → tS} {s : tS} : ∀ n : Nat, (∀ p : Nat, p < n → P p = true → f s p = s) → r_fp P f s n = s := by
  intro n
  induction n with
  | zero => exact fun _ => rfl
  | succ n ih =>
    intro h
    have h1 := ih (fun p hp => h p (by omega))
    cases hp : P n with
    | true => rw [r_fp_y hp, h1]; exact h n (by omega) hp
    | false => rw [r_fp_n hp, h1]
theorem r_fp_c {P Q : Nat → Bool} {f g : tS → Nat → tS} {s : tS} : ∀ n : Nat, (∀ p : Nat, p < n → P p = Q p) → (∀ p : Nat, p < n → P p = true → ∀ s : tS, f s p = g s p) → r_fp P f s n = r_fp Q g s n := by
  intro n
  induction n with
  | zero => exact fun _ _ => rfl
  | succ n ih =>
    intro h1 h2
    show (if P n = true then f (r_fp P f s n) n else r_fp P f s n) = if Q n = true then g (r_fp Q g s n) n else r_fp Q g s n
    rw [← ih (fun p hp => h1 p (by omega)) (fun p hp => h2 p (by omega)), ← h1 n (by omega)]
    by_cases hp : P n = true
    · rw [if_pos hp, if_pos hp, h2 n (by omega) hp]
    · rw [if_neg hp, if_neg hp]
theorem r_fp_k {P : Nat → Bool} {f : tS → Nat → tS} {K : tS → Prop} {s : tS} (h0 : K s) (h : ∀ (t : tS) (p : Nat), K t → K (f t p)) : ∀ n : Nat, K (r_fp P f s n) := by
  intro n
  induction n with
  | zero => exact h0
  | succ n ih =>
    show K (if P n = true then f (r_fp P f s n) n else r_fp P f s n)
    by_cases hp : P n = true
    · rw [if_pos hp]
      exact h _ _ ih
    · rw [if_neg hp]
      exact ih
/-- over clubs -/
def r_up (f : Int → tS → tS) (lo : Int) : Nat → tS → tS
  | 0, s => s
  | n + 1, s => f (lo + n) (r_up f lo n s)
theorem r_up_0 {f : Int → tS → tS} {lo : Int} {s : tS} : r_up f lo 0 s = s := rfl
theorem r_up_1 {f : Int → tS → tS} {lo : Int} {n : Nat} {s : tS} : r_up f lo (n + 1) s = f (lo + (n : Int)) (r_up f lo n s) := rfl
theorem r_up_k {f : Int → tS → tS} {K : tS → Prop} {lo : Int} (h : ∀ (c : Int) (t : tS), K t → K (f c t)) : ∀ (n : Nat) (s : tS), K s → K (r_up f lo n s) := by
  intro n
  induction n with
  | zero => exact fun _ h0 => h0
  | succ n ih => exact fun s h0 => h _ _ (ih s h0)
theorem r_up_c {f g : Int → tS → tS} {lo hi : Int} (h : ∀ c : Int, lo ≤ c → c < hi → ∀ t : tS, f c t = g c t) : ∀ (n : Nat) (s : tS), lo + n ≤ hi → r_up f lo n s = r_up g lo n s := by
  intro n
  induction n with
  | zero => exact fun _ _ => rfl
  | succ n ih =>
    intro s hn
    show f (lo + n) (r_up f lo n s) = g (lo + n) (r_up g lo n s)
    rw [ih s (by omega), h (lo + n) (by omega) (by omega)]
/-- rings: a gain each, above what was best -/
def r_st2 (g : Int → Nat → Nat → Int) (a b : Int) (p q : Nat) (s : tS) : tS := if 0 < g a p q ∧ 0 < g b q p ∧ s.1 < g a p q + g b q p then (g a p q + g b q p, [(a, p), (b, q)]) else s
def r_st3 (g : Int → Nat → Nat → Int) (a b c : Int) (p q r : Nat) (s : tS) : tS := if 0 < g a p r ∧ 0 < g b q p ∧ 0 < g c r q ∧ s.1 < g a p r + g b q p + g c r q then (g a p r + g b q p + g c r q, [(a, p), (b, q), (c, r)]) else s
def r_two (g : Int → Nat → Nat → Int) (cb : Nat → Int32) (n : Nat) (a b : Int) (s : tS) : tS := r_fp (q_mc cb a) (fun s p => r_fp (q_mc cb b) (fun s q => r_st2 g a b p q s) s n) s n
def r_thr (g : Int → Nat → Nat → Int) (cb : Nat → Int32) (n : Nat) (a b c : Int) (s : tS) : tS := r_fp (q_mc cb a) (fun s p => r_fp (q_mc cb b) (fun s q => r_fp (q_mc cb c) (fun s r => r_st3 g a b c p q r s) s n) s n) s n
def r_al2 (g : Int → Nat → Nat → Int) (cb : Nat → Int32) (n : Nat) (s : tS) : tS := r_up (fun a s => r_up (fun b s => r_two g cb n a b s) (a + 1) (7 - a).toNat s) 0 8 s
def r_al3 (g : Int → Nat → Nat → Int) (cb : Nat → Int32) (n : Nat) (s : tS) : tS := r_up (fun a s => r_up (fun b s => r_up (fun c s => if c = b then s else r_thr g cb n a b c s) (a + 1) (7 - a).toNat s) (a + 1) (7 - a).toNat s) 0 8 s
def r_all (g : Int → Nat → Nat → Int) (cb : Nat → Int32) (n : Nat) : tS := r_al3 g cb n (r_al2 g cb n (0, []))
theorem r_al2_e {g : Int → Nat → Nat → Int} {cb : Nat → Int32} {n : Nat} {s : tS} : r_up (fun (a : Int) (s : tS) => r_up (fun (b : Int) (s : tS) => r_two g cb n a b s) (a + 1) (7 - a).toNat s) 0 8 s = r_al2 g cb n s := rfl
theorem r_al3_e {g : Int → Nat → Nat → Int} {cb : Nat → Int32} {n : Nat} {s : tS} : r_up (fun (a : Int) (s : tS) => r_up (fun (b : Int) (s : tS) => r_up (fun (c : Int) (s : tS) => if c = b then s else r_thr g cb n a b c s) (a + 1) (7 - a).toNat s) (a + 1) (7 - a).toNat s) 0 8 s = r_al3 g cb n s := rfl
theorem r_all_e {g : Int → Nat → Nat → Int} {cb : Nat → Int32} {n : Nat} : r_al3 g cb n (r_al2 g cb n (0, [])) = r_all g cb n := rfl
/-- a sum above 0 is a ring's -/
def r_ok (s : tS) : Prop := (s.1 = 0 ∧ s.2 = []) ∨ (0 < s.1 ∧ s.2 ≠ [] ∧ s.2.length ≤ 3)
theorem r_ok_2 {g : Int → Nat → Nat → Int} {a b : Int} {p q : Nat} {s : tS} (h : r_ok s) : r_ok (r_st2 g a b p q s) := by
  unfold r_st2
  split
  · rename_i h1
    exact Or.inr ⟨by show 0 < g a p q + g b q p; omega, List.cons_ne_nil _ _, by show 2 ≤ 3; decide⟩
  · exact h
theorem r_ok_3 {g : Int → Nat → Nat → Int} {a b c : Int} {p q r : Nat} {s : tS} (h : r_ok s) : r_ok (r_st3 g a b c p q r s) := by
  unfold r_st3
  split
  · rename_i h1
    exact Or.inr ⟨by show 0 < g a p r + g b q p + g c r q; omega, List.cons_ne_nil _ _, by show 3 ≤ 3; decide⟩
  · exact h
theorem r_ok_two {g : Int → Nat → Nat → Int} {cb : Nat → Int32} {n : Nat} {a b : Int} {s : tS} (h : r_ok s) : r_ok (r_two g cb n a b s) :=
  r_fp_k (K := r_ok) h (fun _ _ h1 => r_fp_k (K := r_ok) h1 (fun _ _ h2 => r_ok_2 h2) n) n
theorem r_ok_thr {g : Int → Nat → Nat → Int} {cb : Nat → Int32} {n : Nat} {a b c : Int} {s : tS} (h : r_ok s) : r_ok (r_thr g cb n a b c s) :=
  r_fp_k (K := r_ok) h (fun _ _ h1 => r_fp_k (K := r_ok) h1 (fun _ _ h2 => r_fp_k (K := r_ok) h2 (fun _ _ h3 => r_ok_3 h3) n) n) n
theorem r_ok_all {g : Int → Nat → Nat → Int} {cb : Nat → Int32} {n : Nat} : r_ok (r_all g cb n) := by
  refine r_up_k (K := r_ok) (fun a t ht => r_up_k (K := r_ok) (fun b t ht => r_up_k (K := r_ok) (fun c t ht => ?_) _ _ ht) _ _ ht) _ _ ?_
  · show r_ok (if c = b then t else r_thr g cb n a b c t)
    by_cases e : c = b
    · rw [if_pos e]
      exact ht
    · rw [if_neg e]
      exact r_ok_thr ht
  · exact r_up_k (K := r_ok) (fun a t ht => r_up_k (K := r_ok) (fun b t ht => r_ok_two ht) _ _ ht) _ _ (Or.inl ⟨rfl, rfl⟩)
/-- what a ring's search rests on: gains of members alone -/
theorem r_two_c {g h : Int → Nat → Nat → Int} {cb cc : Nat → Int32} {n : Nat} {a b : Int} {s : tS} (ec : ∀ p : Nat, p < n → cb p = cc p) (eg : ∀ (c : Int) (p q : Nat), 0 ≤ c → c ≤ 7 → p < n → q < n → g c p q = h c p q) (ha : 0 ≤ a ∧ a ≤ 7) (hb : 0 ≤ b ∧ b ≤ 7) : r_two g cb n a b s = r_two h cc n a b s := by
  have ep : ∀ c : Int, ∀ p : Nat, p < n → q_mc cb c p = q_mc cc c p := fun c p hp => by
    unfold q_mc
    rw [ec p hp]
  refine r_fp_c n (ep a) (fun p hp _ s => r_fp_c n (ep b) (fun q hq _ s => ?_))
  unfold r_st2
  rw [eg a p q ha.1 ha.2 hp hq, eg b q p hb.1 hb.2 hq hp]
theorem r_thr_c {g h : Int → Nat → Nat → Int} {cb cc : Nat → Int32} {n : Nat} {a b c : Int} {s : tS} (ec : ∀ p : Nat, p < n → cb p = cc p) (eg : ∀ (c : Int) (p q : Nat), 0 ≤ c → c ≤ 7 → p < n → q < n → g c p q = h c p q) (ha : 0 ≤ a ∧ a ≤ 7) (hb : 0 ≤ b ∧ b ≤ 7) (hc : 0 ≤ c ∧ c ≤ 7) : r_thr g cb n a b c s = r_thr h cc n a b c s := by
  have ep : ∀ c : Int, ∀ p : Nat, p < n → q_mc cb c p = q_mc cc c p := fun c p hp => by
    unfold q_mc
    rw [ec p hp]
  refine r_fp_c n (ep a) (fun p hp _ s => r_fp_c n (ep b) (fun q hq _ s => r_fp_c n (ep c) (fun r hr _ s => ?_)))
  unfold r_st3
  rw [eg a p r ha.1 ha.2 hp hr, eg b q p hb.1 hb.2 hq hp, eg c r q hc.1 hc.2 hr hq]
theorem r_all_c {g h : Int → Nat → Nat → Int} {cb cc : Nat → Int32} {n : Nat} (ec : ∀ p : Nat, p < n → cb p = cc p) (eg : ∀ (c : Int) (p q : Nat), 0 ≤ c → c ≤ 7 → p < n → q < n → g c p q = h c p q) : r_all g cb n = r_all h cc n := by
  have e2 : r_al2 g cb n (0, []) = r_al2 h cc n (0, []) := by
    refine r_up_c (hi := 8) (fun a a0 a8 t => r_up_c (hi := 8) (fun b b0 b8 t => ?_) _ _ (by omega)) _ _ (by omega)
    exact r_two_c ec eg ⟨by omega, by omega⟩ ⟨by omega, by omega⟩
  unfold r_all
  rw [e2]
  refine r_up_c (hi := 8) (fun a a0 a8 t => r_up_c (hi := 8) (fun b b0 b8 t => r_up_c (hi := 8) (fun c c0 c8 t => ?_) _ _ (by omega)) _ _ (by omega)) _ _ (by omega)
  show (if c = b then t else r_thr g cb n a b c t) = if c = b then t else r_thr h cc n a b c t
  by_cases e : c = b
  · rw [if_pos e, if_pos e]
  · rw [if_neg e, if_neg e]
    exact r_thr_c ec eg ⟨by omega, by omega⟩ ⟨by omega, by omega⟩ ⟨by omega, by omega⟩
/-- nothing better: passed over -/
theorem r_thr_no {g : Int → Nat → Nat → Int} {cb : Nat → Int32} {n : Nat} {a b c : Int} {s : tS} (h : ∀ p q r : Nat, p < n → q < n → r < n → (cb p).toInt = a → (cb q).toInt = b → (cb r).toInt = c → g a p r + g b q p + g c r q ≤ s.1) : r_thr g cb n a b c s = s := by
  refine r_fp_id n (fun p hp h1 => r_fp_id n (fun q hq h2 => r_fp_id n (fun r hr h3 => ?_)))
  have h9 := h p q r hp hq hr (q_mc_i h1) (q_mc_i h2) (q_mc_i h3)
  exact if_neg (fun k => by omega)
theorem r_st3_no {g : Int → Nat → Nat → Int} {cb : Nat → Int32} {n p q : Nat} {a b c : Int} {s : tS} (h : g b q p ≤ 0 ∨ ∀ r : Nat, r < n → (cb r).toInt = c → g a p r + g b q p + g c r q ≤ s.1) : r_fp (q_mc cb c) (fun s r => r_st3 g a b c p q r s) s n = s := by
  refine r_fp_id n (fun r hr h3 => if_neg (fun k => ?_))
  rcases h with h | h
  · omega
  · have h9 := h r hr (q_mc_i h3)
    omega
/-- clubs one behind the other in a row of players -/
def q_sp (cb : Nat → Int32) (n : Nat) : Nat → Nat
  | 0 => 0
  | c + 1 => q_sp cb n c + q_ct (q_mc cb (c : Int)) n
theorem q_sp_m {cb : Nat → Int32} {n c d : Nat} (h : c ≤ d) : q_sp cb n c ≤ q_sp cb n d := by
  induction d with
  | zero =>
    rw [show c = 0 by omega]
    exact Nat.le_refl _
  | succ d ih =>
    by_cases e : c = d + 1
    · rw [e]
      exact Nat.le_refl _
    · have h1 := ih (by omega)
      show q_sp cb n c ≤ q_sp cb n d + q_ct (q_mc cb (d : Int)) n
      omega
theorem q_sp_s {cb : Nat → Int32} {n : Nat} : ∀ c : Nat, q_sp cb (n + 1) c = q_sp cb n c + if 0 ≤ (cb n).toInt ∧ (cb n).toInt < (c : Int) then 1 else 0 := by
  intro c
  induction c with
  | zero => rw [if_neg (by omega)]; rfl
  | succ c ih =>
    show q_sp cb (n + 1) c + q_ct (q_mc cb (c : Int)) (n + 1) = q_sp cb n c + q_ct (q_mc cb (c : Int)) n + _
    rw [ih]
    by_cases h : (cb n).toInt = (c : Int)
    · rw [q_ct_y (q_mc_y h), if_neg (by omega), if_pos (by omega)]
      omega
    · rw [q_ct_n (q_mc_n h)]
      by_cases h2 : 0 ≤ (cb n).toInt ∧ (cb n).toInt < (c : Int)
      · rw [if_pos h2, if_pos (by omega)]
        omega
      · rw [if_neg h2, if_neg (by omega)]
        omega
theorem q_sp_n {cb : Nat → Int32} (c : Nat) : ∀ n : Nat, q_sp cb n c ≤ n := by
  intro n
  induction n with
  | zero =>
    induction c with
    | zero => exact Nat.le_refl _
    | succ c ih =>
      show q_sp cb 0 c + 0 ≤ 0
      omega
  | succ n ih =>
    rw [q_sp_s]
    split <;> omega
/-- a place in the row: below the next club's beginning -/
theorem q_pos_lt {cb : Nat → Int32} {n c p : Nat} (hp : p < n) (h : (cb p).toInt = (c : Int)) : q_sp cb n c + q_ct (q_mc cb (c : Int)) p < q_sp cb n (c + 1) := by
  have h1 := q_ct_lt (P := q_mc cb (c : Int)) (q_mc_y h) hp
  show _ < q_sp cb n c + q_ct (q_mc cb (c : Int)) n
  omega
theorem q_pos_ex {cb : Nat → Int32} {n j : Nat} : ∀ d : Nat, j < q_sp cb n d → ∃ c p : Nat, c < d ∧ p < n ∧ (cb p).toInt = (c : Int) ∧ q_sp cb n c + q_ct (q_mc cb (c : Int)) p = j := by
  intro d
  induction d with
  | zero => exact fun h => absurd h (Nat.not_lt_zero _)
  | succ d ih =>
    intro h
    by_cases h1 : j < q_sp cb n d
    · obtain ⟨c, p, a1, a2, a3, a4⟩ := ih h1
      exact ⟨c, p, by omega, a2, a3, a4⟩
    · have h2 : j - q_sp cb n d < q_ct (q_mc cb (d : Int)) n := by
        have h3 : j < q_sp cb n d + q_ct (q_mc cb (d : Int)) n := h
        omega
      obtain ⟨p, a1, a2, a3⟩ := q_ct_ex h2
      exact ⟨d, p, by omega, a1, q_mc_i a2, by omega⟩
theorem q_pos_inj {cb : Nat → Int32} {n c d p q : Nat} (hp : p < n) (hq : q < n) (h1 : (cb p).toInt = (c : Int)) (h2 : (cb q).toInt = (d : Int)) (e : q_sp cb n c + q_ct (q_mc cb (c : Int)) p = q_sp cb n d + q_ct (q_mc cb (d : Int)) q) : p = q := by
  have a1 := q_pos_lt hp h1
  have a2 := q_pos_lt hq h2
  rcases Nat.lt_trichotomy c d with h | h | h
  · have := q_sp_m (cb := cb) (n := n) (show c + 1 ≤ d by omega)
    omega
  · subst h
    exact q_ct_inj (q_mc_y h1) (q_mc_y h2) (by omega)
  · have := q_sp_m (cb := cb) (n := n) (show d + 1 ≤ c by omega)
    omega
/-- legal, and by how much it is a gain -/
def r_lg (u : Nat → Int) (mn : Int) (cn pin pout : Int32) : Prop := mn ≤ u 1 ∧ (cn.toInt ≤ u 0 ∨ pin.toInt ≤ pout.toInt * u 4 / 100 + u 5)
theorem q_tf_lg {u : Nat → Int} {mn cn pin pout : Int32} : q_tf u mn cn pin pout = 0 ↔ r_lg u mn.toInt cn pin pout := by
  unfold q_tf r_lg
  by_cases h1 : u 1 < mn.toInt
  · rw [if_pos h1]
    exact ⟨fun h => absurd h (by decide), fun h => by omega⟩
  · rw [if_neg h1]
    by_cases h2 : u 0 < cn.toInt ∧ pout.toInt * u 4 / 100 + u 5 < pin.toInt
    · rw [if_pos h2]
      exact ⟨fun h => absurd h (by decide), fun h => by omega⟩
    · rw [if_neg h2]
      exact ⟨fun _ => by omega, fun _ => rfl⟩
/-- v: what it is if legal and above 0 -/
def r_gn (L : Prop) (x : Int) (v : Int) : Prop := (0 < x ∧ L ∧ v = x) ∨ (¬ (0 < x ∧ L) ∧ v = 0)
theorem r_gn.eq {L M : Prop} {x y v w : Int} (h : r_gn L x v) (g : r_gn M y w) (e : x = y) (eL : L ↔ M) : v = w := by
  subst e
  rcases h with ⟨h1, h2, h3⟩ | ⟨h1, h2⟩ <;> rcases g with ⟨g1, g2, g3⟩ | ⟨g1, g2⟩
  · rw [h3, g3]
  · exact absurd ⟨h1, eL.mp h2⟩ g1
  · exact absurd ⟨g1, eL.mpr g2⟩ h1
  · rw [h2, g2]
noncomputable def r_g (L : Int → Nat → Nat → Prop) (w : Int → Nat → Int32) (c : Int) (o i : Nat) : Int := @ite Int (0 < (w c i - w c o).toInt ∧ L c o i) (Classical.propDecidable _) (w c i - w c o).toInt 0
theorem r_g_y {L : Int → Nat → Nat → Prop} {w : Int → Nat → Int32} {c : Int} {o i : Nat} (h : 0 < (w c i - w c o).toInt) (hL : L c o i) : r_g L w c o i = (w c i - w c o).toInt := if_pos ⟨h, hL⟩
theorem r_g_n {L : Int → Nat → Nat → Prop} {w : Int → Nat → Int32} {c : Int} {o i : Nat} (h : (w c i - w c o).toInt ≤ 0 ∨ ¬ L c o i) : r_g L w c o i = 0 := if_neg (fun k => by
  rcases h with h | h
  · omega
  · exact h k.2)
theorem r_g_c {L M : Int → Nat → Nat → Prop} {w x : Int → Nat → Int32} {c : Int} {o i : Nat} (e1 : w c i = x c i) (e2 : w c o = x c o) (eL : L c o i ↔ M c o i) : r_g L w c o i = r_g M x c o i := by
  by_cases h : 0 < (x c i - x c o).toInt ∧ M c o i
  · rw [r_g_y h.1 h.2, r_g_y (by rw [e1, e2]; exact h.1) (eL.mpr h.2), e1, e2]
  · have h2 : (x c i - x c o).toInt ≤ 0 ∨ ¬ M c o i := by
      by_cases h3 : M c o i
      · exact Or.inl (by have : ¬ 0 < (x c i - x c o).toInt := fun k => h ⟨k, h3⟩; omega)
      · exact Or.inr h3
    rw [r_g_n h2, r_g_n (by rw [e1, e2]; rcases h2 with k | k; exact Or.inl k; exact Or.inr (fun m => k (eL.mp m)))]
