/-! fines at a year's end -/
theorem q_ofiI {k : Int} (h : -2147483648 ≤ k) (h1 : k < 2147483648) : (Int32.ofInt k).toInt = k := Int32.toInt_ofInt_of_le (by omega) (by omega)
def q_mo (x : Int32) (cap : Int) : Int32 := if cap < x.toInt then Int32.ofInt (x.toInt - cap) else 0
theorem q_mo_of {x m : Int32} {cap : Int} (h0 : 0 ≤ m.toInt) (h1 : x.toInt - cap ≤ m.toInt) (h2 : m.toInt = 0 ∨ m.toInt = x.toInt - cap) : m = q_mo x cap := by
  unfold q_mo
  by_cases h : cap < x.toInt
  · rw [if_pos h]
    exact q_ofi (by omega)
  · rw [if_neg h]
    exact xi_of (by rw [show (0 : Int32).toInt = 0 by decide]; omega)
theorem q_hun_0 (h : Int) : q_hun 0 h = 0 := by
  unfold q_hun
  rw [show (0 : Int32).toInt = 0 by decide, Int.zero_mul]
  rfl
theorem q_hun33 {n h v d : Int32} {k : Int} (ev : v = n * h) (ed : d = v / 100) (hk : h.toInt = k) (h0 : 0 ≤ n.toInt) (hn : n.toInt ≤ 7100000) (k0 : 0 ≤ k) (k1 : k ≤ 300) : d = q_hun n k := by
  have hb := q_mulb h0 hn k0 k1
  have hv : v.toInt = n.toInt * k := xi_mul ev rfl hk (by omega) (by omega)
  exact q_ofi ((xi_div ed (by omega) (by decide : (100 : Int32).toInt = 100) (by decide)).trans (by rw [hv]))
theorem q_hunc {n r : Int32} {t k : Int} (h : 0 ≤ n.toInt → 0 ≤ t → n.toInt * t ≤ 214748364799 → r.toInt = n.toInt * t / 100) (ht : t = k) (h0 : 0 ≤ n.toInt) (hn : n.toInt ≤ 7100000) (k0 : 0 ≤ k) (k1 : k ≤ 300) : r = q_hun n k := by
  subst ht
  have hb := q_mulb h0 hn k0 k1
  exact q_ofi (h h0 k0 (by omega))
/-- of how many it is 0 -/
def q_nz (a : Nat → Int32) : Nat → Int
  | 0 => 0
  | n + 1 => q_nz a n + (if (a n).toInt = 0 then 1 else 0)
theorem q_nz_b (a : Nat → Int32) : ∀ n : Nat, 0 ≤ q_nz a n ∧ q_nz a n ≤ n := by
  intro n
  induction n with
  | zero => exact ⟨Int.le_refl _, Int.le_refl _⟩
  | succ n ih =>
    show 0 ≤ q_nz a n + (if (a n).toInt = 0 then 1 else 0) ∧ q_nz a n + (if (a n).toInt = 0 then 1 else 0) ≤ ((n + 1 : Nat) : Int)
    by_cases h : (a n).toInt = 0
    · rw [if_pos h]
      omega
    · rw [if_neg h]
      omega
theorem q_nz_eq {a b : Nat → Int32} : ∀ n : Nat, (∀ i : Nat, i < n → a i = b i) → q_nz a n = q_nz b n := by
  intro n
  induction n with
  | zero => exact fun _ => rfl
  | succ n ih =>
    intro h
    show q_nz a n + (if (a n).toInt = 0 then 1 else 0) = q_nz b n + (if (b n).toInt = 0 then 1 else 0)
    rw [ih (fun i hi => h i (by omega)), h n (by omega)]
theorem q_nz_1 {a : Nat → Int32} {n n1 : Nat} {x y : Int} (h : x = q_nz a n) (e : n1 = n + 1) (ha : (a n).toInt = 0) (ey : y = x + 1) : y = q_nz a n1 := by
  rw [e, ey, h]
  show _ = q_nz a n + (if (a n).toInt = 0 then 1 else 0)
  rw [if_pos ha]
theorem q_nz_0 {a : Nat → Int32} {n n1 : Nat} {x y : Int} (h : x = q_nz a n) (e : n1 = n + 1) (ha : (a n).toInt ≠ 0) (ey : y = x) : y = q_nz a n1 := by
  rw [e, ey, h]
  show _ = q_nz a n + (if (a n).toInt = 0 then 1 else 0)
  rw [if_neg ha, Int.add_zero]
def q_shr (a f : Nat → Int32) : Int32 := if 0 < q_nz a 8 then q_sums 0 f 8 / Int32.ofInt (q_nz a 8) else 0
def q_fnd (F a f : Nat → Int32) (k : Nat) : Int32 := F k + f k - (if (a k).toInt = 0 then q_shr a f else 0)
def q_lft (L : Int32) (a f : Nat → Int32) : Int32 := L + (q_sums 0 f 8 - q_shr a f * Int32.ofInt (q_nz a 8))
def q_fin (a : Nat → Int32) (t : Int) (c : Nat) : Int32 := q_hun (a c) t
theorem q_shr_eq {a f b g : Nat → Int32} (h : ∀ i : Nat, i < 8 → a i = b i) (h' : ∀ i : Nat, i < 8 → f i = g i) : q_shr a f = q_shr b g := by
  unfold q_shr
  rw [q_nz_eq 8 h, q_sums_eq 8 h']
theorem q_fnd_eq {F G a f b g : Nat → Int32} {k : Nat} (hk : k < 8) (e : F k = G k) (h : ∀ i : Nat, i < 8 → a i = b i) (h' : ∀ i : Nat, i < 8 → f i = g i) : q_fnd F a f k = q_fnd G b g k := by
  unfold q_fnd
  rw [e, q_shr_eq h h', h' k hk, h k hk]
theorem q_lft_eq {L M : Int32} {a f b g : Nat → Int32} (e : L = M) (h : ∀ i : Nat, i < 8 → a i = b i) (h' : ∀ i : Nat, i < 8 → f i = g i) : q_lft L a f = q_lft M b g := by
  unfold q_lft
  rw [e, q_shr_eq h h', q_nz_eq 8 h, q_sums_eq 8 h']
/-- steps over the clubs -/
theorem q_fi_s {F A B f : Nat → Int32} {v : Nat} {l l1 : Int} {x : Int32} (h : ∀ k : Nat, A k = if (k : Int) < l then F k + f k else F k) (hv : (v : Int) = l) (hl : l1 = l + 1) (hw : ∀ k : Nat, B k = if k = v then x else A k) (hx : x = A v + f v) : ∀ k : Nat, B k = if (k : Int) < l1 then F k + f k else F k := by
  intro k
  rw [hw k]
  by_cases hk : k = v
  · rw [if_pos hk, hk, if_pos (by omega), hx, h v, if_neg (by omega)]
  · rw [if_neg hk, h k]
    by_cases h2 : (k : Int) < l
    · rw [if_pos h2, if_pos (by omega)]
    · rw [if_neg h2, if_neg (by omega)]
theorem q_fi_n {F A B f : Nat → Int32} {v : Nat} {l l1 : Int} (h : ∀ k : Nat, A k = if (k : Int) < l then F k + f k else F k) (hv : (v : Int) = l) (hl : l1 = l + 1) (hw : ∀ k : Nat, B k = A k) (hf : f v = 0) : ∀ k : Nat, B k = if (k : Int) < l1 then F k + f k else F k := by
  intro k
  rw [hw k, h k]
  by_cases hk : k = v
  · rw [hk, if_neg (by omega), if_pos (by omega), hf, Int32.add_zero]
  · by_cases h2 : (k : Int) < l
    · rw [if_pos h2, if_pos (by omega)]
    · rw [if_neg h2, if_neg (by omega)]
theorem q_ab_s {A B f : Nat → Int32} {v : Nat} {l l1 : Int} {x : Int32} (h : ∀ k : Nat, (k : Int) < l → A k = f k) (hv : (v : Int) = l) (hl : l1 = l + 1) (hw : ∀ k : Nat, B k = if k = v then x else A k) (hx : f v = x) : ∀ k : Nat, (k : Int) < l1 → B k = f k := by
  intro k hk1
  rw [hw k]
  by_cases hk : k = v
  · rw [if_pos hk, hk, hx]
  · rw [if_neg hk]
    exact h k (by omega)
theorem q_fi_t {F A B a f : Nat → Int32} {v : Nat} {l l1 : Int} {x : Int32} (h : ∀ k : Nat, k < 8 → A k = if (k : Int) < l then q_fnd F a f k else F k + f k) (hv : (v : Int) = l) (hl : l1 = l + 1) (h8 : v < 8) (hw : ∀ k : Nat, B k = if k = v then x else A k) (hx : x = A v - (if (a v).toInt = 0 then q_shr a f else 0)) : ∀ k : Nat, k < 8 → B k = if (k : Int) < l1 then q_fnd F a f k else F k + f k := by
  intro k k8
  rw [hw k]
  by_cases hk : k = v
  · rw [if_pos hk, hk, if_pos (by omega), hx, h v h8, if_neg (by omega)]
    rfl
  · rw [if_neg hk, h k k8]
    by_cases h2 : (k : Int) < l
    · rw [if_pos h2, if_pos (by omega)]
    · rw [if_neg h2, if_neg (by omega)]
theorem q_fi_u {F A B a f : Nat → Int32} {v : Nat} {l l1 : Int} (h : ∀ k : Nat, k < 8 → A k = if (k : Int) < l then q_fnd F a f k else F k + f k) (hv : (v : Int) = l) (hl : l1 = l + 1) (hw : ∀ k : Nat, B k = A k) (ha : (a v).toInt ≠ 0) : ∀ k : Nat, k < 8 → B k = if (k : Int) < l1 then q_fnd F a f k else F k + f k := by
  intro k k8
  rw [hw k, h k k8]
  by_cases hk : k = v
  · rw [hk, if_neg (by omega), if_pos (by omega)]
    unfold q_fnd
    rw [if_neg ha, Int32.sub_zero]
  · by_cases h2 : (k : Int) < l
    · rw [if_pos h2, if_pos (by omega)]
    · rw [if_neg h2, if_neg (by omega)]
theorem q_shr_is {a f : Nat → Int32} {x s v : Int32} (hs : s = q_sums 0 f 8) (hx : x.toInt = q_nz a 8) (h0 : 0 < x.toInt) (ev : v = s / x) : v = q_shr a f := by
  unfold q_shr
  rw [if_pos (by omega), ev, hs, ← hx, Int32.ofInt_toInt]
theorem q_shr_no {a f : Nat → Int32} (h0 : q_nz a 8 ≤ 0) : (0 : Int32) = q_shr a f := by
  unfold q_shr
  rw [if_neg (by omega)]
theorem q_lft_is {a f : Nat → Int32} {L s x h v1 v2 v3 : Int32} (hs : s = q_sums 0 f 8) (hh : h = q_shr a f) (hx : x.toInt = q_nz a 8) (e1 : v1 = h * x) (e2 : v2 = s - v1) (e3 : v3 = L + v2) : v3 = q_lft L a f := by
  unfold q_lft
  rw [e3, e2, e1, hs, hh, ← hx, Int32.ofInt_toInt]
/-- who is above, as bits -/
theorem q_ora : ∀ x : Nat, x < 256 → ∀ n : Nat, n < 8 → x < 2 ^ n → (nI x ||| q_sh (nI n)) = nI (x ||| 2 ^ n) ∧ (x ||| 2 ^ n) < 2 ^ (n + 1) ∧ q_pop (x ||| 2 ^ n) = q_pop x + 1 ∧ ∀ k : Nat, k < 8 → (x ||| 2 ^ n).testBit k = (x.testBit k || k == n) := by decide +kernel
theorem q_p28 {n : Nat} (h : n ≤ 8) : 2 ^ n ≤ 256 := (by decide +kernel : ∀ k : Nat, k < 9 → 2 ^ k ≤ 256) n (by omega)
def q_abv (x : Int32) (a : Nat → Int32) (n : Nat) : Prop := 0 ≤ x.toInt ∧ x.toInt.toNat < 2 ^ n ∧ ((q_pop x.toInt.toNat : Nat) : Int) + q_nz a n = n ∧ ∀ k : Nat, k < n → (x.toInt.toNat.testBit k = false ↔ (a k).toInt = 0)
theorem q_abv.b {x : Int32} {a : Nat → Int32} {n : Nat} (h : q_abv x a n) (hn : n ≤ 8) : 0 ≤ x.toInt ∧ x.toInt ≤ 255 := by
  obtain ⟨h1, h2, _⟩ := h
  have h3 := q_p28 hn
  omega
theorem q_abv.z {a : Nat → Int32} : q_abv 0 a 0 := by
  refine ⟨by decide, by decide, ?_, fun k hk => absurd hk (Nat.not_lt_zero k)⟩
  show ((q_pop (0 : Int32).toInt.toNat : Nat) : Int) + 0 = ((0 : Nat) : Int)
  decide
theorem q_abv.n {x : Int32} {a : Nat → Int32} {n n1 : Nat} (h : q_abv x a n) (e : n1 = n + 1) (ha : (a n).toInt = 0) : q_abv x a n1 := by
  obtain ⟨h1, h2, h3, h4⟩ := h
  subst e
  refine ⟨h1, by rw [Nat.pow_succ]; omega, ?_, fun k hk => ?_⟩
  · show ((q_pop x.toInt.toNat : Nat) : Int) + (q_nz a n + (if (a n).toInt = 0 then 1 else 0)) = ((n + 1 : Nat) : Int)
    rw [if_pos ha]
    omega
  · by_cases hkn : k = n
    · subst hkn
      exact ⟨fun _ => ha, fun _ => Nat.testBit_lt_two_pow h2⟩
    · exact h4 k (by omega)
theorem q_abv.y {x s v c : Int32} {a : Nat → Int32} {n n1 : Nat} (h : q_abv x a n) (hn : n < 8) (e : n1 = n + 1) (hc : c.toInt = n) (es : s = (1 : Int32) <<< (c &&& 31)) (ev : v = x ||| s) (ha : (a n).toInt ≠ 0) : q_abv v a n1 := by
  have hb := h.b (by omega)
  obtain ⟨h1, h2, h3, h4⟩ := h
  subst e
  have k := q_ora x.toInt.toNat (by omega) n hn h2
  have ec : nI n = c := xi_of (by rw [nI_toInt (by omega), hc])
  rw [← q_nI h1, ec] at k
  have hp := q_p28 (n := n + 1) (by omega)
  have hl := k.2.1
  have e1 : v.toInt = ((x.toInt.toNat ||| 2 ^ n : Nat) : Int) := by
    rw [ev, es]
    show (x ||| q_sh c).toInt = _
    rw [k.1, nI_toInt (by omega)]
  have e2 : v.toInt.toNat = x.toInt.toNat ||| 2 ^ n := by
    rw [e1]
    exact Int.toNat_natCast _
  refine ⟨by rw [e1]; exact Int.natCast_nonneg _, by rw [e2]; exact hl, ?_, fun j hj => ?_⟩
  · rw [e2, k.2.2.1]
    show ((q_pop x.toInt.toNat + 1 : Nat) : Int) + (q_nz a n + (if (a n).toInt = 0 then 1 else 0)) = ((n + 1 : Nat) : Int)
    rw [if_neg ha]
    omega
  · rw [e2, k.2.2.2 j (by omega)]
    by_cases hjn : j = n
    · subst hjn
      simp [ha]
    · rw [← h4 j (by omega)]
      simp [hjn]
/-- how many are signed; what they cost at most -/
def q_sg (cb : Nat → Int32) : Nat → Int
  | 0 => 0
  | n + 1 => q_sg cb n + (if (cb n).toInt = -1 then 0 else 1)
theorem q_sg_b (cb : Nat → Int32) : ∀ n : Nat, 0 ≤ q_sg cb n ∧ q_sg cb n ≤ n := by
  intro n
  induction n with
  | zero => exact ⟨Int.le_refl _, Int.le_refl _⟩
  | succ n ih =>
    show 0 ≤ q_sg cb n + (if (cb n).toInt = -1 then 0 else 1) ∧ q_sg cb n + (if (cb n).toInt = -1 then 0 else 1) ≤ ((n + 1 : Nat) : Int)
    by_cases h : (cb n).toInt = -1
    · rw [if_pos h]
      omega
    · rw [if_neg h]
      omega
theorem q_sg_up {cb cb1 : Nat → Int32} {p : Nat} : ∀ n : Nat, (∀ i : Nat, i < n → i ≠ p → (cb1 i).toInt ≠ -1 → (cb i).toInt ≠ -1) → q_sg cb1 n ≤ q_sg cb n + (if p < n then 1 else 0) := by
  intro n
  induction n with
  | zero =>
    intro _
    rw [if_neg (Nat.not_lt_zero p)]
    exact Int.le_refl _
  | succ n ih =>
    intro h
    have i1 := ih (fun i hi => h i (by omega))
    show q_sg cb1 n + (if (cb1 n).toInt = -1 then 0 else 1) ≤ q_sg cb n + (if (cb n).toInt = -1 then 0 else 1) + (if p < n + 1 then 1 else 0)
    by_cases hp : n = p
    · subst hp
      rw [if_neg (Nat.lt_irrefl n)] at i1
      rw [if_pos (Nat.lt_succ_self n)]
      by_cases c1 : (cb1 n).toInt = -1
      · rw [if_pos c1]
        by_cases c2 : (cb n).toInt = -1
        · rw [if_pos c2]
          omega
        · rw [if_neg c2]
          omega
      · rw [if_neg c1]
        by_cases c2 : (cb n).toInt = -1
        · rw [if_pos c2]
          omega
        · rw [if_neg c2]
          omega
    · have h1 := h n (by omega) hp
      have e : (if p < n + 1 then (1 : Int) else 0) = if p < n then 1 else 0 := by
        by_cases q : p < n
        · rw [if_pos q, if_pos (by omega)]
        · rw [if_neg q, if_neg (by omega)]
      rw [e]
      by_cases c1 : (cb1 n).toInt = -1
      · rw [if_pos c1]
        by_cases c2 : (cb n).toInt = -1
        · rw [if_pos c2]
          omega
        · rw [if_neg c2]
          omega
      · rw [if_neg c1, if_neg (h1 c1)]
        omega
theorem q_sg_le {cb cb1 : Nat → Int32} (n : Nat) (h : ∀ i : Nat, i < n → (cb1 i).toInt ≠ -1 → (cb i).toInt ≠ -1) : q_sg cb1 n ≤ q_sg cb n := by
  have h1 := q_sg_up (cb := cb) (cb1 := cb1) (p := n) n (fun i hi _ => h i hi)
  rw [if_neg (Nat.lt_irrefl n)] at h1
  omega
theorem q_sg_dn {cb cb1 : Nat → Int32} {p : Nat} (h1 : (cb1 p).toInt = -1) (h2 : (cb p).toInt ≠ -1) : ∀ n : Nat, (∀ i : Nat, i < n → i ≠ p → (cb1 i).toInt ≠ -1 → (cb i).toInt ≠ -1) → p < n → q_sg cb1 n + 1 ≤ q_sg cb n := by
  intro n
  induction n with
  | zero => exact fun _ h => absurd h (Nat.not_lt_zero p)
  | succ n ih =>
    intro h hp
    show q_sg cb1 n + (if (cb1 n).toInt = -1 then 0 else 1) + 1 ≤ q_sg cb n + (if (cb n).toInt = -1 then 0 else 1)
    by_cases e : n = p
    · subst e
      have h3 := q_sg_le (cb := cb) (cb1 := cb1) n (fun i hi => h i (by omega) (by omega))
      rw [if_pos h1, if_neg h2]
      omega
    · have h3 := ih (fun i hi => h i (by omega)) (by omega)
      have h4 := h n (by omega) e
      by_cases c1 : (cb1 n).toInt = -1
      · rw [if_pos c1]
        by_cases c2 : (cb n).toInt = -1
        · rw [if_pos c2]
          omega
        · rw [if_neg c2]
          omega
      · rw [if_neg c1, if_neg (h4 c1)]
        omega
theorem q_sums_I {D : Int32} {f cb : Nat → Int32} (h0 : 0 ≤ D.toInt) : ∀ n : Nat, (∀ i : Nat, i < n → 0 ≤ (f i).toInt ∧ (f i).toInt ≤ if (cb i).toInt = -1 then 0 else 24500) → D.toInt + 24500 * q_sg cb n ≤ 8000000 → 0 ≤ (q_sums D f n).toInt ∧ (q_sums D f n).toInt ≤ D.toInt + 24500 * q_sg cb n := by
  intro n
  induction n with
  | zero => exact fun _ _ => ⟨h0, by show D.toInt ≤ D.toInt + 24500 * 0; omega⟩
  | succ n ih =>
    intro h hB
    have hs := q_sg_b cb n
    obtain ⟨f1, f2⟩ := h n (by omega)
    have e : q_sg cb (n + 1) = q_sg cb n + (if (cb n).toInt = -1 then 0 else 1) := rfl
    show 0 ≤ (q_sums D f n + f n).toInt ∧ (q_sums D f n + f n).toInt ≤ D.toInt + 24500 * q_sg cb (n + 1)
    by_cases c : (cb n).toInt = -1
    · rw [if_pos c] at f2 e
      obtain ⟨i1, i2⟩ := ih (fun i hi => h i (by omega)) (by omega)
      have a : (q_sums D f n + f n).toInt = (q_sums D f n).toInt + (f n).toInt := xi_add rfl rfl rfl (by omega) (by omega)
      omega
    · rw [if_neg c] at f2 e
      obtain ⟨i1, i2⟩ := ih (fun i hi => h i (by omega)) (by omega)
      have a : (q_sums D f n + f n).toInt = (q_sums D f n).toInt + (f n).toInt := xi_add rfl rfl rfl (by omega) (by omega)
      omega
theorem q_pay_245 {cl fr la pa ri y : Int32} (hf : 0 ≤ fr.toInt ∧ fr.toInt ≤ 9) (hy : y.toInt ≤ 9) (hp : 0 ≤ pa.toInt ∧ pa.toInt ≤ 20000) (hr : -500 ≤ ri.toInt ∧ ri.toInt ≤ 500) : (q_pay cl fr la pa ri y).toInt ≤ 24500 := by
  unfold q_pay
  by_cases h : cl.toInt = -1 ∨ y.toInt < fr.toInt ∨ la.toInt < y.toInt
  · rw [if_pos h]
    decide
  · rw [if_neg h]
    have hd : (y - fr).toInt = y.toInt - fr.toInt := xi_sub rfl rfl rfl (by omega) (by omega)
    have hm1 : ri.toInt * (y.toInt - fr.toInt) ≤ 500 * 9 := by
      have h1 := Int.mul_le_mul_of_nonneg_right hr.2 (show 0 ≤ y.toInt - fr.toInt by omega)
      omega
    have hm2 : -(500 * 9) ≤ ri.toInt * (y.toInt - fr.toInt) := by
      have h1 := Int.mul_le_mul_of_nonneg_right hr.1 (show 0 ≤ y.toInt - fr.toInt by omega)
      omega
    have hm : (ri * (y - fr)).toInt = ri.toInt * (y.toInt - fr.toInt) := xi_mul rfl rfl hd (by omega) (by omega)
    have ha : (pa + ri * (y - fr)).toInt = pa.toInt + ri.toInt * (y.toInt - fr.toInt) := xi_add rfl rfl hm (by omega) (by omega)
    unfold q_max0
    by_cases h2 : 0 < (pa + ri * (y - fr)).toInt
    · rw [if_pos h2, ha]
      omega
    · rw [if_neg h2]
      decide
theorem q_hun_b {x : Int32} {h : Int} (x0 : 0 ≤ x.toInt) (hx : x.toInt ≤ 24500) (h0 : 0 ≤ h) (h1 : h ≤ 100) : 0 ≤ (q_hun x h).toInt ∧ (q_hun x h).toInt ≤ x.toInt := by
  have m := q_mulb x0 hx h0 h1
  have m2 : x.toInt * h ≤ x.toInt * 100 := Int.mul_le_mul_of_nonneg_left h1 x0
  have e : (q_hun x h).toInt = x.toInt * h / 100 := q_ofiI (by omega) (by omega)
  rw [e]
  omega
theorem q_cn2_b {cl fr la pa ri hc it hu y ck : Int32} {h : Int} (hb : (q_pay cl fr la pa ri y).toInt ≤ 24500) (h0 : 0 ≤ h) (h1 : h ≤ 100) : 0 ≤ (q_cn2 cl fr la pa ri hc it hu y ck h).toInt ∧ (q_cn2 cl fr la pa ri hc it hu y ck h).toInt ≤ if cl.toInt = -1 then 0 else 24500 := by
  have p0 := q_pay_0 cl fr la pa ri y
  unfold q_cn2
  by_cases u : q_un2 cl fr la hc it y
  · rw [if_pos u, if_neg u.1]
    by_cases c : hu.toInt ≠ 0 ∧ y.toInt = ck.toInt
    · rw [if_pos c]
      obtain ⟨m1, m2⟩ := q_hun_b p0 hb h0 h1
      have e2 : (q_pay cl fr la pa ri y - q_hun (q_pay cl fr la pa ri y) h).toInt = (q_pay cl fr la pa ri y).toInt - (q_hun (q_pay cl fr la pa ri y) h).toInt := xi_sub rfl rfl rfl (by omega) (by omega)
      rw [e2]
      omega
    · rw [if_neg c]
      exact ⟨p0, hb⟩
  · rw [if_neg u]
    refine ⟨by decide, ?_⟩
    by_cases c : cl.toInt = -1
    · rw [if_pos c]
      decide
    · rw [if_neg c]
      decide
theorem m_cnt_b {z : tZ} {I : tI} {mo pl : Nat} {nb : Int} (h : h_plr z I pl (h_ad z mo 14) (h_ad z mo 15) (h_ad z mo 16) (h_ad z mo 17) (h_ad z mo 18) (h_ad z mo 19) (h_ad z mo 20) (h_ad z mo 21) (h_ad z mo 22) nb) (en : (I mo 13).toInt = nb) (h60 : nb ≤ 60) {c : Int} {y : Int32} (hc : 0 ≤ c ∧ c ≤ 7) (hy : y.toInt ≤ 9) {u : Int} (h0 : 0 ≤ u) (h1 : u ≤ 100) (hD : 0 ≤ (I (h_ad z mo 23) (10 * c + y.toInt).toNat).toInt) (hB : (I (h_ad z mo 23) (10 * c + y.toInt).toNat).toInt + 24500 * q_sg (I (h_ad z mo 14)) nb.toNat ≤ 8000000) : 0 ≤ (m_cnt z I mo c y u).toInt ∧ (m_cnt z I mo c y u).toInt ≤ (I (h_ad z mo 23) (10 * c + y.toInt).toNat).toInt + 24500 * q_sg (I (h_ad z mo 14)) nb.toNat := by
  unfold m_cnt
  rw [en]
  refine q_sums_I hD nb.toNat (fun p hp => ?_) hB
  obtain ⟨_, _, _, _, _, h6, h7, h8, _⟩ := (h.2 p (by omega)).1 (by omega)
  unfold m_f
  by_cases hq : (I (h_ad z mo 14) p).toInt = c
  · rw [if_pos hq]
    exact q_cn2_b (q_pay_245 h6 hy h7 h8) h0 h1
  · rw [if_neg hq]
    refine ⟨by decide, ?_⟩
    by_cases c9 : (I (h_ad z mo 14) p).toInt = -1
    · rw [if_pos c9]
      decide
    · rw [if_neg c9]
      decide
/-- what all dead money is bounded by: two calls for each contract that is waived, one for each that stands -/
def h_fb (z : tZ) (I : tI) (mo T : Nat) : Prop := ∀ k : Nat, k < 80 → 0 ≤ (I (h_ad z mo 23) k).toInt ∧ (I (h_ad z mo 23) k).toInt + 12250 * q_sg (I (h_ad z mo 14)) (I mo 13).toInt.toNat ≤ 12250 * (T : Int)
theorem h_fb.c {z z1 : tZ} {I I1 : tI} {mo T T1 : Nat} (h : h_fb z I mo T) (a1 : h_ad z1 mo 23 = h_ad z mo 23) (a2 : h_ad z1 mo 14 = h_ad z mo 14) (e1 : I1 (h_ad z mo 23) = I (h_ad z mo 23)) (e2 : I1 (h_ad z mo 14) = I (h_ad z mo 14)) (e3 : I1 mo 13 = I mo 13) (hT : T ≤ T1) : h_fb z1 I1 mo T1 := by
  intro k hk
  rw [a1, a2, e1, e2, e3]
  have h1 := h k hk
  omega
theorem h_fb.F {M : List (Nat × Nat)} {z : tZ} {I I1 : tI} {mo T : Nat} (h : h_fb z I mo T) (hR : h_R z) (tmo : z.ty mo = 13) (f : h_F M z I I1) (m1 : ∀ k, h_m M 1323 k = false) (m2 : ∀ k, h_m M 1314 k = false) (m3 : h_m M 13 13 = false) : h_fb z I1 mo T :=
  h.c rfl rfl (funext fun k => f.at (hR.ad tmo (rfl : h_rs 13 23 = some (1323, false)) (by decide)).2 (m1 k)) (funext fun k => f.at (hR.ad tmo (rfl : h_rs 13 14 = some (1314, false)) (by decide)).2 (m2 k)) (f.at tmo m3) (Nat.le_refl _)
theorem h_fb.X {M : List (Nat × Nat)} {MR : List Nat} {z z1 : tZ} {I I1 : tI} {L L1 : tL} {mo T : Nat} (h : h_fb z I mo T) (hR : h_R z) (tmo : z.ty mo = 13) (x : h_X M MR none z I L z1 I1 L1) (mR : MR.contains 13 = false) (m1 : ∀ k, h_m M 1323 k = false) (m2 : ∀ k, h_m M 1314 k = false) (m3 : h_m M 13 13 = false) : h_fb z1 I1 mo T :=
  h.c (x.ad hR tmo (by decide) mR (rfl : h_rs 13 23 = some (1323, false)) (by decide)) (x.ad hR tmo (by decide) mR (rfl : h_rs 13 14 = some (1314, false)) (by decide)) (funext fun k => x.I (hR.ad tmo (rfl : h_rs 13 23 = some (1323, false)) (by decide)).2 (by decide) (fun h9 => by cases h9) (m1 k)) (funext fun k => x.I (hR.ad tmo (rfl : h_rs 13 14 = some (1314, false)) (by decide)).2 (by decide) (fun h9 => by cases h9) (m2 k)) (x.I tmo (by decide) (fun h9 => by cases h9) m3) (Nat.le_refl _)
theorem h_fb.up {z : tZ} {I : tI} {mo T : Nat} (h : h_fb z I mo T) : h_fb z I mo (T + 1) := h.c rfl rfl rfl rfl rfl (Nat.le_succ _)
/-- dead money as before, no more signed than before -/
theorem h_fb.le {z : tZ} {I I1 : tI} {mo T : Nat} (h : h_fb z I mo T) (e1 : ∀ k : Nat, I1 (h_ad z mo 23) k = I (h_ad z mo 23) k) (hs : q_sg (I1 (h_ad z mo 14)) (I1 mo 13).toInt.toNat ≤ q_sg (I (h_ad z mo 14)) (I mo 13).toInt.toNat + 1) : h_fb z I1 mo (T + 1) := by
  intro k hk
  have h1 := h k hk
  rw [e1 k]
  omega
/-- a contract is waived -/
theorem h_fb.wv {z : tZ} {I I1 : tI} {mo T : Nat} (h : h_fb z I mo T) (hT : T ≤ 511) (e1 : ∀ k : Nat, k < 80 → ∃ v : Int32, 0 ≤ v.toInt ∧ v.toInt ≤ 24500 ∧ (I1 (h_ad z mo 23) k = I (h_ad z mo 23) k + v)) (hs : q_sg (I1 (h_ad z mo 14)) (I1 mo 13).toInt.toNat + 1 ≤ q_sg (I (h_ad z mo 14)) (I mo 13).toInt.toNat) : h_fb z I1 mo (T + 1) := by
  intro k hk
  have h1 := h k hk
  have h2 := (q_sg_b (I1 (h_ad z mo 14)) (I1 mo 13).toInt.toNat).1
  obtain ⟨v, v0, v1, e⟩ := e1 k hk
  have a : (I1 (h_ad z mo 23) k).toInt = (I (h_ad z mo 23) k).toInt + v.toInt := by
    rw [e]
    exact xi_add rfl rfl rfl (by omega) (by omega)
  rw [a]
  omega
/-- what is above the cap: of the class, of the reference -/
def c_ab (z : tZ) (I : tI) (bk : Nat) (u : Nat → Int) (c : Nat) : Int32 := q_mo (c_cnt z I bk (c : Int) (I bk 3) (u 6)) (u 0)
def m_ab (z : tZ) (I : tI) (mo : Nat) (u : Nat → Int) (c : Nat) : Int32 := q_mo (m_cnt z I mo (c : Int) (I mo 12) (u 6)) (u 0)
theorem m_cnt_F {M : List (Nat × Nat)} {z : tZ} {I I1 : tI} {mo : Nat} (hR : h_R z) (tmo : z.ty mo = 13) (f : h_F M z I I1) (m12 : h_m M 13 12 = false) (m13 : h_m M 13 13 = false) (m1 : ∀ t k : Nat, 1314 ≤ t → t ≤ 1323 → h_m M t k = false) (c : Int) (y : Int32) (h : Int) : m_cnt z I1 mo c y h = m_cnt z I mo c y h := by
  have ad := fun (j : Nat) (tt : Nat) (hb : h_rs 13 j = some (tt, false)) (hk : j < h_len (h_so 13)) => (hR.ad tmo hb hk).2
  have e := fun (j tt : Nat) (hb : h_rs 13 j = some (tt, false)) (hk : j < h_len (h_so 13)) (h1 : 1314 ≤ tt) (h2 : tt ≤ 1323) (k : Nat) => f.at (ad j tt hb hk) (m1 tt k h1 h2)
  unfold m_cnt
  rw [f.at tmo m13, e 23 1323 rfl (by decide) (by decide) (by decide)]
  refine q_sums_eq _ (fun p _ => ?_)
  unfold m_f
  rw [f.at tmo m12, e 14 1314 rfl (by decide) (by decide) (by decide), e 15 1315 rfl (by decide) (by decide) (by decide), e 16 1316 rfl (by decide) (by decide) (by decide), e 17 1317 rfl (by decide) (by decide) (by decide), e 18 1318 rfl (by decide) (by decide) (by decide), e 20 1320 rfl (by decide) (by decide) (by decide), e 21 1321 rfl (by decide) (by decide) (by decide), e 22 1322 rfl (by decide) (by decide) (by decide)]
theorem h_F.m1 {M : List (Nat × Nat)} (hM : M.all (fun q => q.1 < 1314 || 1323 < q.1) = true) : ∀ t k : Nat, 1314 ≤ t → t ≤ 1323 → h_m M t k = false := by
  intro t k h1 h2
  rw [Bool.eq_false_iff]
  intro h
  unfold h_m at h
  rw [List.any_eq_true] at h
  obtain ⟨q, hq, h3⟩ := h
  rw [Bool.and_eq_true] at h3
  have h4 := List.all_eq_true.mp hM q hq
  have e1 : q.1 = t := by simpa using h3.1
  rw [e1] at h4
  have h5 : t < 1314 ∨ 1323 < t := by simpa using h4
  omega
/-- fines of both are alike -/
def h_fn (z : tZ) (I : tI) (cp mo : Nat) : Prop := (∀ k : Nat, k < 8 → I (h_ad z (h_ad z cp 3) 6) k = I (h_ad z mo 49) k) ∧ I (h_ad z cp 3) 7 = I mo 50

