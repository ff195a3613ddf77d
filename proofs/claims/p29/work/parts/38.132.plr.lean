/-! a player's numbers: pay of a year, bound or not (Int32, as both compute them) -/
def q_max0 (x : Int32) : Int32 := if 0 < x.toInt then x else 0
theorem q_max0_of {x v : Int32} (e : v = if (0 : Int32) < x then x else 0) : v = q_max0 x := by
  unfold q_max0
  rw [e]
  have h : ((0 : Int32) < x) ↔ (0 < x.toInt) := by
    rw [Int32.lt_iff_toInt_lt, show (0 : Int32).toInt = 0 by decide]
  by_cases h1 : 0 < x.toInt
  · rw [if_pos h1, if_pos (h.mpr h1)]
  · rw [if_neg h1, if_neg (fun h2 => h1 (h.mp h2))]
def q_pay (cl fr la pa ri y : Int32) : Int32 := if cl.toInt = -1 ∨ y.toInt < fr.toInt ∨ la.toInt < y.toInt then 0 else q_max0 (pa + ri * (y - fr))
abbrev q_und (cl fr la co y : Int32) : Prop := cl.toInt ≠ -1 ∧ fr.toInt ≤ y.toInt ∧ y.toInt ≤ (if co.toInt = 0 then la.toInt else (la - 1).toInt)
abbrev q_un2 (cl fr la hc it y : Int32) : Prop := cl.toInt ≠ -1 ∧ fr.toInt ≤ y.toInt ∧ y.toInt ≤ la.toInt ∧ ¬ (y.toInt = la.toInt ∧ hc.toInt ≠ 0 ∧ it.toInt = 0)
theorem q_un_eq {cl fr la co hc it y : Int32} (hl : -1 ≤ la.toInt ∧ la.toInt ≤ 20) (hco : co.toInt = 0 ↔ ¬ (hc.toInt ≠ 0 ∧ it.toInt = 0)) : q_und cl fr la co y ↔ q_un2 cl fr la hc it y := by
  unfold q_und q_un2
  have e1 : (la - 1).toInt = la.toInt - 1 := xi_sub rfl rfl (show (1 : Int32).toInt = 1 by decide) (by omega) (by omega)
  by_cases h : co.toInt = 0
  · rw [if_pos h]
    have h2 := hco.mp h
    constructor
    · exact fun q => ⟨q.1, q.2.1, q.2.2, fun q9 => h2 q9.2⟩
    · exact fun q => ⟨q.1, q.2.1, q.2.2.1⟩
  · rw [if_neg h, e1]
    have h2 : hc.toInt ≠ 0 ∧ it.toInt = 0 := Classical.byContradiction (fun q => h (hco.mpr q))
    constructor
    · exact fun q => ⟨q.1, q.2.1, by omega, fun q9 => by omega⟩
    · exact fun q => ⟨q.1, q.2.1, by have := q.2.2.2; omega⟩
/-! so many hundredths, cut: over long, over int -/
theorem q_hun_of {a b c d : Int64} {r : Int32} {x y : Int} (ha : a.toInt = x) (hb : b.toInt = y) (ec : c = a * b) (ed : d = c / 100) (er : r = d.toInt32) (hx : 0 ≤ x) (hy : 0 ≤ y) (hxy : x * y ≤ 214748364799) : r.toInt = x * y / 100 := by
  have h0 : 0 ≤ x * y := Int.mul_nonneg hx hy
  have hc : c.toInt = x * y := h_lmul ec (by rw [ha, hb]) (by omega) (by omega)
  have hd : d.toInt = x * y / 100 := by
    rw [ed, Int64.toInt_div, hc, show (100 : Int64).toInt = 100 by decide, Int.tdiv_eq_ediv_of_nonneg h0]
    exact Int.bmod_eq_of_le (by omega) (by omega)
  rw [er, Int64.toInt_toInt32, hd]
  exact Int.bmod_eq_of_le (by omega) (by omega)
theorem q_pay_0 (cl fr la pa ri y : Int32) : 0 ≤ (q_pay cl fr la pa ri y).toInt := by
  unfold q_pay q_max0
  by_cases h : cl.toInt = -1 ∨ y.toInt < fr.toInt ∨ la.toInt < y.toInt
  · rw [if_pos h]
    decide
  · rw [if_neg h]
    by_cases h2 : 0 < (pa + ri * (y - fr)).toInt
    · rw [if_pos h2]
      omega
    · rw [if_neg h2]
      decide
/-- the numbers of a text are within their bounds -/
def q_okb (u : Nat → Int) : Prop := (1 ≤ u 0 ∧ u 0 ≤ 50000) ∧ (1 ≤ u 1 ∧ u 1 ≤ 15) ∧ (1 ≤ u 2 ∧ u 2 ≤ 5) ∧ (0 ≤ u 3 ∧ u 3 ≤ 5000) ∧ (0 ≤ u 4 ∧ u 4 ≤ 300) ∧ (0 ≤ u 5 ∧ u 5 ≤ 5000) ∧ (0 ≤ u 6 ∧ u 6 ≤ 100) ∧ (0 ≤ u 7 ∧ u 7 ≤ 300)
theorem q_ofi {v : Int32} {k : Int} (h : v.toInt = k) : v = Int32.ofInt k := by rw [← h, Int32.ofInt_toInt]
def q_hun (x : Int32) (h : Int) : Int32 := Int32.ofInt (x.toInt * h / 100)
theorem q_mulb {x h : Int} {A B : Int} (hx : 0 ≤ x) (hA : x ≤ A) (h0 : 0 ≤ h) (hB : h ≤ B) : 0 ≤ x * h ∧ x * h ≤ A * B := ⟨Int.mul_nonneg hx h0, Int.mul_le_mul hA hB h0 (by omega)⟩
theorem q_hun32 {n h v d : Int32} {k : Int} (ev : v = n * h) (ed : d = v / 100) (hk : h.toInt = k) (h0 : 0 ≤ n.toInt) (hn : n.toInt ≤ 1000000) (k0 : 0 ≤ k) (k1 : k ≤ 300) : d = q_hun n k := by
  have hb := q_mulb h0 hn k0 k1
  have hv : v.toInt = n.toInt * k := xi_mul ev rfl hk (by omega) (by omega)
  exact q_ofi ((xi_div ed (by omega) (by decide : (100 : Int32).toInt = 100) (by decide)).trans (by rw [hv]))
def q_cnt (cl fr la pa ri co hu y ck : Int32) (h : Int) : Int32 := if q_und cl fr la co y then (if hu.toInt ≠ 0 ∧ y.toInt = ck.toInt then q_pay cl fr la pa ri y - q_hun (q_pay cl fr la pa ri y) h else q_pay cl fr la pa ri y) else 0
def q_cn2 (cl fr la pa ri hc it hu y ck : Int32) (h : Int) : Int32 := if q_un2 cl fr la hc it y then (if hu.toInt ≠ 0 ∧ y.toInt = ck.toInt then q_pay cl fr la pa ri y - q_hun (q_pay cl fr la pa ri y) h else q_pay cl fr la pa ri y) else 0
theorem q_cn_eq {cl fr la pa ri co hc it hu y ck : Int32} {h : Int} (hl : -1 ≤ la.toInt ∧ la.toInt ≤ 20) (hco : co.toInt = 0 ↔ ¬ (hc.toInt ≠ 0 ∧ it.toInt = 0)) : q_cnt cl fr la pa ri co hu y ck h = q_cn2 cl fr la pa ri hc it hu y ck h := by
  unfold q_cnt q_cn2
  have e := q_un_eq (cl := cl) (fr := fr) (y := y) hl hco
  by_cases h1 : q_und cl fr la co y
  · rw [if_pos h1, if_pos (e.mp h1)]
  · rw [if_neg h1, if_neg (fun q => h1 (e.mpr q))]
/-- the sum of what each counts, in the order in which both add -/
def q_sums (s : Int32) (f : Nat → Int32) : Nat → Int32
  | 0 => s
  | n + 1 => q_sums s f n + f n
theorem q_sums_eq {s : Int32} {f g : Nat → Int32} : ∀ n : Nat, (∀ i : Nat, i < n → f i = g i) → q_sums s f n = q_sums s g n := by
  intro n
  induction n with
  | zero => exact fun _ => rfl
  | succ n ih =>
    intro h
    show q_sums s f n + f n = q_sums s g n + g n
    rw [ih (fun i hi => h i (by omega)), h n (by omega)]
theorem q_sums_s {s : Int32} {f : Nat → Int32} {n : Nat} {x y : Int32} (h : x = q_sums s f n) (e : y = x + f n) : y = q_sums s f (n + 1) := by
  rw [e, h]
  rfl
/-! what counts against a club in a year, how many players it has: class, reference -/
def c_f (z : tZ) (I : tI) (bk : Nat) (c : Int) (y : Int32) (h : Int) (p : Nat) : Int32 := if (I (h_ad z (h_ad z bk 1) p) 0).toInt = c then q_cnt (I (h_ad z (h_ad z bk 1) p) 0) (I (h_ad z (h_ad z bk 1) p) 1) (I (h_ad z (h_ad z bk 1) p) 2) (I (h_ad z (h_ad z bk 1) p) 3) (I (h_ad z (h_ad z bk 1) p) 4) (I (h_ad z (h_ad z bk 1) p) 6) (I (h_ad z (h_ad z bk 1) p) 7) y (I bk 3) h else 0
def c_g (z : tZ) (I : tI) (bk : Nat) (c : Int) (y : Int32) (p : Nat) : Int32 := if (I (h_ad z (h_ad z bk 1) p) 0).toInt = c ∧ q_und (I (h_ad z (h_ad z bk 1) p) 0) (I (h_ad z (h_ad z bk 1) p) 1) (I (h_ad z (h_ad z bk 1) p) 2) (I (h_ad z (h_ad z bk 1) p) 6) y then 1 else 0
def c_cnt (z : tZ) (I : tI) (bk : Nat) (c : Int) (y : Int32) (h : Int) : Int32 := q_sums (I (h_ad z (h_ad z bk 4) c.toNat) y.toInt.toNat) (c_f z I bk c y h) (I bk 2).toInt.toNat
def c_many (z : tZ) (I : tI) (bk : Nat) (c : Int) (y : Int32) : Int32 := q_sums 0 (c_g z I bk c y) (I bk 2).toInt.toNat
def m_f (z : tZ) (I : tI) (mo : Nat) (c : Int) (y : Int32) (h : Int) (p : Nat) : Int32 := if (I (h_ad z mo 14) p).toInt = c then q_cn2 (I (h_ad z mo 14) p) (I (h_ad z mo 15) p) (I (h_ad z mo 16) p) (I (h_ad z mo 17) p) (I (h_ad z mo 18) p) (I (h_ad z mo 20) p) (I (h_ad z mo 21) p) (I (h_ad z mo 22) p) y (I mo 12) h else 0
def m_g (z : tZ) (I : tI) (mo : Nat) (c : Int) (y : Int32) (p : Nat) : Int32 := if (I (h_ad z mo 14) p).toInt = c ∧ q_un2 (I (h_ad z mo 14) p) (I (h_ad z mo 15) p) (I (h_ad z mo 16) p) (I (h_ad z mo 20) p) (I (h_ad z mo 21) p) y then 1 else 0
def m_cnt (z : tZ) (I : tI) (mo : Nat) (c : Int) (y : Int32) (h : Int) : Int32 := q_sums (I (h_ad z mo 23) (10 * c + y.toInt).toNat) (m_f z I mo c y h) (I mo 13).toInt.toNat
def m_many (z : tZ) (I : tI) (mo : Nat) (c : Int) (y : Int32) : Int32 := q_sums 0 (m_g z I mo c y) (I mo 13).toInt.toNat
theorem q_num_at {u : Nat → Int} {x : Int} {n : Nat} (h : x = n) (hn : n ≤ 8) : q_num u x = u n := by
  unfold q_num
  rw [if_pos (by omega), h, Int.toNat_natCast]
/-! what is wrong with a contract -/
def q_btp (A : Prop) (k a : Int) : Prop := (A ∧ a = k) ∨ (¬ A ∧ a = 0)
theorem q_btp_eq {A B : Prop} {k a b : Int} (h : q_btp A k a) (g : q_btp B k b) (e : A ↔ B) : a = b := by
  rcases h with ⟨h1, h2⟩ | ⟨h1, h2⟩ <;> rcases g with ⟨g1, g2⟩ | ⟨g1, g2⟩
  · rw [h2, g2]
  · exact absurd (e.mp h1) g1
  · exact absurd (e.mpr g1) h1
  · rw [h2, g2]
def q_flt (A B C D : Prop) (r : Int) : Prop := ∃ a b c d : Int, r = a + b + c + d ∧ q_btp A 1 a ∧ q_btp B 2 b ∧ q_btp C 4 c ∧ q_btp D 8 d
theorem q_flt_eq {A B C D A' B' C' D' : Prop} {r s : Int} (h : q_flt A B C D r) (g : q_flt A' B' C' D' s) (ea : A ↔ A') (eb : B ↔ B') (ec : C ↔ C') (ed : D ↔ D') : r = s := by
  obtain ⟨a, b, c, d, h1, h2, h3, h4, h5⟩ := h
  obtain ⟨a', b', c', d', g1, g2, g3, g4, g5⟩ := g
  rw [h1, g1, q_btp_eq h2 g2 ea, q_btp_eq h3 g3 eb, q_btp_eq h4 g4 ec, q_btp_eq h5 g5 ed]
theorem h_upb {I I1 : tI} {a b k j : Nat} {v : Int32} (e : I1 = h_up I a j v) (hb : b ≠ a) : I1 b k = I b k := by
  rw [e]
  exact congrFun (h_up_ne hb) k
theorem h_nbk {I I1 : tI} {a b k j : Nat} {v : Int32} (e : I1 = h_up I a j v) (h : b ≠ a ∨ k = 7) (hj : j ≠ 7) : I1 b k = I b k := by
  rcases h with h | h
  · exact h_upb e h
  · exact h_n2 e (by omega)
/-- what about() tells of a player -/
def q_fact (cl fr la pa ri su ch hu x : Int32) : Int := if x.toInt = 0 then cl.toInt else if x.toInt = 1 then (if cl.toInt = -1 then -1 else la.toInt) else if x.toInt = 2 then (if ch.toInt = 0 then 0 else 1) else if x.toInt = 3 then su.toInt else if x.toInt = 4 then (if hu.toInt = 0 then 0 else 1) else if 10 ≤ x.toInt ∧ x.toInt ≤ 19 then (q_pay cl fr la pa ri (x - 10)).toInt else -9

