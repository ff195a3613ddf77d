/-! moves of a trade: clubs in it as bits, how many -/
theorem q_nI {x : Int32} (h : 0 ≤ x.toInt) : x = nI x.toInt.toNat := xi_of (by
  have h1 := xi_hi x
  rw [nI_toInt (by omega)]
  omega)
def q_sh (c : Int32) : Int32 := (1 : Int32) <<< (c &&& 31)
def q_cb (f t : Nat → Int32) : Nat → Int32
  | 0 => 0
  | n + 1 => q_cb f t n ||| (q_sh (f n) ||| q_sh (t n))
theorem q_cb_s {f t : Nat → Int32} {n : Nat} {x a b o v : Int32} (hx : x = q_cb f t n) (ea : a = (1 : Int32) <<< (f n &&& 31)) (eb : b = (1 : Int32) <<< (t n &&& 31)) (eo : o = a ||| b) (ev : v = x ||| o) : v = q_cb f t (n + 1) := by
  rw [ev, eo, ea, eb, hx]
  rfl
theorem q_cb_eq {f t f' t' : Nat → Int32} : ∀ n : Nat, (∀ i : Nat, i < n → f i = f' i ∧ t i = t' i) → q_cb f t n = q_cb f' t' n := by
  intro n
  induction n with
  | zero => exact fun _ => rfl
  | succ n ih =>
    intro h
    show q_cb f t n ||| (q_sh (f n) ||| q_sh (t n)) = q_cb f' t' n ||| (q_sh (f' n) ||| q_sh (t' n))
    rw [ih (fun i hi => h i (by omega)), (h n (by omega)).1, (h n (by omega)).2]
theorem q_or8 : ∀ a : Nat, a < 256 → ∀ b : Nat, b < 8 → ∀ c : Nat, c < 8 → nI a ||| (q_sh (nI b) ||| q_sh (nI c)) = nI (a ||| (2 ^ b ||| 2 ^ c)) ∧ (a ||| (2 ^ b ||| 2 ^ c)) < 256 := by decide +kernel
theorem q_cb_lt {f t : Nat → Int32} : ∀ n : Nat, (∀ i : Nat, i < n → (0 ≤ (f i).toInt ∧ (f i).toInt ≤ 7) ∧ 0 ≤ (t i).toInt ∧ (t i).toInt ≤ 7) → 0 ≤ (q_cb f t n).toInt ∧ (q_cb f t n).toInt ≤ 255 := by
  intro n
  induction n with
  | zero =>
    intro _
    show 0 ≤ (0 : Int32).toInt ∧ (0 : Int32).toInt ≤ 255
    decide
  | succ n ih =>
    intro h
    have h1 := ih (fun i hi => h i (by omega))
    obtain ⟨⟨h2, h3⟩, h4, h5⟩ := h n (by omega)
    have k := q_or8 (q_cb f t n).toInt.toNat (by omega) (f n).toInt.toNat (by omega) (t n).toInt.toNat (by omega)
    rw [← q_nI h1.1, ← q_nI h2, ← q_nI h4] at k
    show 0 ≤ (q_cb f t n ||| (q_sh (f n) ||| q_sh (t n))).toInt ∧ (q_cb f t n ||| (q_sh (f n) ||| q_sh (t n))).toInt ≤ 255
    rw [k.1, nI_toInt (by omega)]
    omega
def q_pop (n : Nat) : Nat := n % 2 + n / 2 % 2 + n / 4 % 2 + n / 8 % 2 + n / 16 % 2 + n / 32 % 2 + n / 64 % 2 + n / 128 % 2
theorem q_popd : ∀ n : Nat, n < 256 → 0 < n → (nI n &&& (nI n - 1)) = nI (n &&& (n - 1)) ∧ (n &&& (n - 1)) < n ∧ q_pop (n &&& (n - 1)) + 1 = q_pop n := by decide +kernel
theorem q_pop_dn {x y v : Int32} (h0 : 0 < x.toInt) (h : x.toInt ≤ 255) (ey : y = x - 1) (ev : v = x &&& y) : 0 ≤ v.toInt ∧ v.toInt < x.toInt ∧ q_pop v.toInt.toNat + 1 = q_pop x.toInt.toNat := by
  have k := q_popd x.toInt.toNat (by omega) (by omega)
  rw [← q_nI (show 0 ≤ x.toInt by omega)] at k
  have e : v.toInt = ((x.toInt.toNat &&& (x.toInt.toNat - 1) : Nat) : Int) := by rw [ev, ey, k.1, nI_toInt (by omega)]
  refine ⟨by omega, by omega, ?_⟩
  rw [e, Int.toNat_natCast]
  exact k.2.2
theorem q_pop_0 : q_pop 0 = 0 := by decide
/-- two more clubs: four at most then -/
def q_jn (cb x y : Int32) : Prop := q_pop ((cb ||| q_sh x) ||| q_sh y).toInt.toNat ≤ 4
theorem q_or1 {x c v v2 : Int32} (hx : 0 ≤ x.toInt ∧ x.toInt ≤ 255) (hc : 0 ≤ c.toInt ∧ c.toInt ≤ 7) (e1 : v = (1 : Int32) <<< (c &&& 31)) (e2 : v2 = x ||| v) : 0 ≤ v2.toInt ∧ v2.toInt ≤ 255 := by
  obtain ⟨h1, h2, _⟩ := h_orb hx.1 hx.2 hc.1 hc.2 e1 e2
  exact ⟨h1, h2⟩
/-- a club's bit: both ways to look -/
theorem q_bts : ∀ n : Nat, n < 256 → ∀ j : Nat, j < 8 → (((nI n &&& q_sh (nI j)) = 0 ↔ n.testBit j = false) ∧ (((nI n >>> (nI j &&& 31)) &&& 1) = 0 ↔ n.testBit j = false)) := by decide +kernel
theorem q_btc {x c a v : Int32} (hx : 0 ≤ x.toInt ∧ x.toInt ≤ 255) (hc : 0 ≤ c.toInt ∧ c.toInt ≤ 7) (ea : a = (1 : Int32) <<< (c &&& 31)) (ev : v = x &&& a) : v.toInt = 0 ↔ x.toInt.toNat.testBit c.toInt.toNat = false := by
  have k := (q_bts x.toInt.toNat (by omega) c.toInt.toNat (by omega)).1
  rw [← q_nI hx.1, ← q_nI hc.1] at k
  rw [← k, ev, ea]
  exact ⟨fun h => xi_of (h.trans (by decide)), fun h => by rw [show x &&& (1 : Int32) <<< (c &&& 31) = 0 from h]; decide⟩
theorem q_btm {x c a v : Int32} (hx : 0 ≤ x.toInt ∧ x.toInt ≤ 255) (hc : 0 ≤ c.toInt ∧ c.toInt ≤ 7) (ea : a = x >>> (c &&& 31)) (ev : v = a &&& 1) : v.toInt = 0 ↔ x.toInt.toNat.testBit c.toInt.toNat = false := by
  have k := (q_bts x.toInt.toNat (by omega) c.toInt.toNat (by omega)).2
  rw [← q_nI hx.1, ← q_nI hc.1] at k
  rw [← k, ev, ea]
  exact ⟨fun h => xi_of (h.trans (by decide)), fun h => by rw [h]; decide⟩
/-- a place written: what stands there, elsewhere -/
theorem h_wif {I I1 : tI} {a : Nat} {i v : Int32} {n : Nat} (e : I1 = h_up I a i.toNatClampNeg v) (hi : i.toNatClampNeg = n) : ∀ k : Nat, I1 a k = if k = n then v else I a k := by
  intro k
  by_cases hk : k = n
  · rw [if_pos hk, hk, ← hi]
    exact h_n0 e
  · rw [if_neg hk]
    exact h_n2 e (by rw [hi]; exact hk)
/-! what comes, what goes: over the moves -/
def q_pm (a : Nat → Nat) (f : Nat → Int32) (s : Int32) : Nat → Int32
  | 0 => s
  | n + 1 => if a n = 1 then q_pm a f s n + f n else if a n = 2 then q_pm a f s n - f n else q_pm a f s n
def q_on (k : Nat) (a : Nat → Nat) (f : Nat → Int32) : Nat → Int32
  | 0 => 0
  | n + 1 => if a n = k then q_on k a f n + f n else q_on k a f n
theorem q_pm_s (a : Nat → Nat) (f : Nat → Int32) (s : Int32) : ∀ n : Nat, q_pm a f s n = s + q_pm a f 0 n := by
  intro n
  induction n with
  | zero => exact (Int32.add_zero s).symm
  | succ n ih =>
    show (if a n = 1 then q_pm a f s n + f n else if a n = 2 then q_pm a f s n - f n else q_pm a f s n) = s + (if a n = 1 then q_pm a f 0 n + f n else if a n = 2 then q_pm a f 0 n - f n else q_pm a f 0 n)
    by_cases h1 : a n = 1
    · rw [if_pos h1, if_pos h1, ih, Int32.add_assoc]
    · rw [if_neg h1, if_neg h1]
      by_cases h2 : a n = 2
      · rw [if_pos h2, if_pos h2, ih, Int32.sub_eq_add_neg, Int32.sub_eq_add_neg, Int32.add_assoc]
      · rw [if_neg h2, if_neg h2, ih]
theorem q_pm_eq {a a' : Nat → Nat} {f f' : Nat → Int32} {s : Int32} : ∀ n : Nat, (∀ i : Nat, i < n → a i = a' i ∧ (a i ≠ 0 → f i = f' i)) → q_pm a f s n = q_pm a' f' s n := by
  intro n
  induction n with
  | zero => exact fun _ => rfl
  | succ n ih =>
    intro h
    obtain ⟨h1, h2⟩ := h n (by omega)
    show (if a n = 1 then q_pm a f s n + f n else if a n = 2 then q_pm a f s n - f n else q_pm a f s n) = (if a' n = 1 then q_pm a' f' s n + f' n else if a' n = 2 then q_pm a' f' s n - f' n else q_pm a' f' s n)
    rw [ih (fun i hi => h i (by omega)), ← h1]
    by_cases k1 : a n = 1
    · rw [if_pos k1, if_pos k1, h2 (by omega)]
    · rw [if_neg k1, if_neg k1]
      by_cases k2 : a n = 2
      · rw [if_pos k2, if_pos k2, h2 (by omega)]
      · rw [if_neg k2, if_neg k2]
theorem q_on_eq {k : Nat} {a a' : Nat → Nat} {f f' : Nat → Int32} (hk : k ≠ 0) : ∀ n : Nat, (∀ i : Nat, i < n → a i = a' i ∧ (a i ≠ 0 → f i = f' i)) → q_on k a f n = q_on k a' f' n := by
  intro n
  induction n with
  | zero => exact fun _ => rfl
  | succ n ih =>
    intro h
    obtain ⟨h1, h2⟩ := h n (by omega)
    show (if a n = k then q_on k a f n + f n else q_on k a f n) = (if a' n = k then q_on k a' f' n + f' n else q_on k a' f' n)
    rw [ih (fun i hi => h i (by omega)), ← h1]
    by_cases k1 : a n = k
    · rw [if_pos k1, if_pos k1, h2 (by omega)]
    · rw [if_neg k1, if_neg k1]
theorem q_on_b {k : Nat} {a : Nat → Nat} {f : Nat → Int32} : ∀ n : Nat, n ≤ 12 → (∀ i : Nat, i < n → a i ≠ 0 → 0 ≤ (f i).toInt ∧ (f i).toInt ≤ 30000) → k ≠ 0 → 0 ≤ (q_on k a f n).toInt ∧ (q_on k a f n).toInt ≤ 30000 * n := by
  intro n
  induction n with
  | zero =>
    intro _ _ _
    show 0 ≤ (0 : Int32).toInt ∧ (0 : Int32).toInt ≤ 30000 * ((0 : Nat) : Int)
    decide
  | succ n ih =>
    intro hn h hk
    have h1 := ih (by omega) (fun i hi => h i (by omega)) hk
    show 0 ≤ (if a n = k then q_on k a f n + f n else q_on k a f n).toInt ∧ (if a n = k then q_on k a f n + f n else q_on k a f n).toInt ≤ 30000 * ((n + 1 : Nat) : Int)
    by_cases k1 : a n = k
    · have h2 := h n (by omega) (by omega)
      have e9 : (q_on k a f n + f n).toInt = (q_on k a f n).toInt + (f n).toInt := xi_add rfl rfl rfl (by omega) (by omega)
      rw [if_pos k1, e9]
      omega
    · rw [if_neg k1]
      omega
/-- what is wrong for one club -/
def q_tf (u : Nat → Int) (mn cn pin pout : Int32) : Int := if u 1 < mn.toInt then 1 else if u 0 < cn.toInt ∧ pout.toInt * u 4 / 100 + u 5 < pin.toInt then 2 else 0
/-- the first club for which something is -/
def q_ff (F : Nat → Int) : Nat → Int
  | 0 => 0
  | n + 1 => if q_ff F n ≠ 0 then q_ff F n else if F n ≠ 0 then 100 * n + F n else 0
theorem q_ff_0 {F : Nat → Int} {n n1 : Nat} (h : q_ff F n = 0) (hF : F n = 0) (e : n1 = n + 1) : q_ff F n1 = 0 := by
  rw [e]
  show (if q_ff F n ≠ 0 then q_ff F n else if F n ≠ 0 then 100 * (n : Int) + F n else 0) = 0
  rw [if_neg (by omega), if_neg (by omega)]
theorem q_ff_1 {F : Nat → Int} {n : Nat} (h : q_ff F n = 0) (hF : 0 < F n) : ∀ d : Nat, q_ff F (n + 1 + d) = 100 * n + F n := by
  intro d
  induction d with
  | zero =>
    show (if q_ff F n ≠ 0 then q_ff F n else if F n ≠ 0 then 100 * (n : Int) + F n else 0) = _
    rw [if_neg (by omega), if_pos (by omega)]
  | succ d ih =>
    show (if q_ff F (n + 1 + d) ≠ 0 then q_ff F (n + 1 + d) else _) = _
    rw [if_pos (by omega), ih]
theorem q_ff_r {F : Nat → Int} {n : Nat} {r : Int} (h : q_ff F n = 0) (hn : n < 8) (hF : 0 < F n) (hr : r = 100 * n + F n) : r = q_ff F 8 := by
  have h1 := q_ff_1 h hF (7 - n)
  rw [show n + 1 + (7 - n) = 8 by omega] at h1
  rw [h1, hr]
theorem q_ff_eq {F G : Nat → Int} : ∀ n : Nat, (∀ i : Nat, i < n → F i = G i) → q_ff F n = q_ff G n := by
  intro n
  induction n with
  | zero => exact fun _ => rfl
  | succ n ih =>
    intro h
    show (if q_ff F n ≠ 0 then q_ff F n else if F n ≠ 0 then 100 * (n : Int) + F n else 0) = (if q_ff G n ≠ 0 then q_ff G n else if G n ≠ 0 then 100 * (n : Int) + G n else 0)
    rw [ih (fun i hi => h i (by omega)), h n (by omega)]
theorem q_nomore {P : Nat → Prop} {l l1 : Int} (h : ∀ i : Nat, (i : Int) < l → ¬ P i) (h0 : 0 ≤ l) (hn : ¬ P l.toNat) (e : l1 = l + 1) : ∀ i : Nat, (i : Int) < l1 → ¬ P i := by
  intro i hi
  by_cases hq : (i : Int) < l
  · exact h i hq
  · rw [show i = l.toNat by omega]
    exact hn
theorem q_pop_8 (n : Nat) : q_pop n ≤ 8 := by
  unfold q_pop
  omega
def c_has (I : tI) (th it : Nat) (n x y : Int) : Prop := ∃ i : Nat, (i : Int) < n ∧ (I th i).toInt = x ∧ (I it i).toInt = y
def m_has (I : tI) (md : Nat) (n x : Int) : Prop := ∃ i : Nat, (i : Int) < n ∧ (I md i).toInt = x

