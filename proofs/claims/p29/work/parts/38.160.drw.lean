/-! the order of a draft: lots first, then as the table has them -/
def q_od (x y : Int) (k : Nat) : Nat := if x = -1 then k else (x.toNat :: y.toNat :: (List.range 8).filter (fun i => !(i == x.toNat) && !(i == y.toNat))).getD k 0
def q_fl (x y : Int) (i : Nat) : Nat := if x = -1 then i else 2 + i - (if x < (i : Int) then 1 else 0) - (if y < (i : Int) then 1 else 0)
theorem q_odfA : ∀ x : Nat, x < 8 → ∀ y : Nat, y < 8 → x ≠ y → q_od x y 0 = x ∧ q_od x y 1 = y ∧ q_fl x y 0 = 2 ∧ q_fl x y 8 = 8 := by decide +kernel
def q_odb (x y i : Nat) : Bool := (x == y) || ((i == x || i == y) && (q_fl x y (i + 1) == q_fl x y i)) || ((!(i == x) && !(i == y)) && ((q_od x y (q_fl x y i) == i) && ((q_fl x y (i + 1) == q_fl x y i + 1) && decide (q_fl x y i < 8))))
theorem q_odbT : ∀ x : Nat, x < 8 → ∀ y : Nat, y < 8 → ∀ i : Nat, i < 8 → q_odb x y i = true := by decide +kernel
theorem q_odfB (x : Nat) (hx : x < 8) (y : Nat) (hy : y < 8) (i : Nat) (hi : i < 8) : (x = y ∨ ((i = x ∨ i = y) ∧ q_fl x y (i + 1) = q_fl x y i)) ∨ ((i ≠ x ∧ i ≠ y) ∧ q_od x y (q_fl x y i) = i ∧ q_fl x y (i + 1) = q_fl x y i + 1 ∧ q_fl x y i < 8) := by
  have h := q_odbT x hx y hy i hi
  unfold q_odb at h
  simpa using h
theorem q_odf (x : Nat) (hx : x < 8) (y : Nat) (hy : y < 8) (hn : x ≠ y) : q_od x y 0 = x ∧ q_od x y 1 = y ∧ q_fl x y 0 = 2 ∧ q_fl x y 8 = 8 ∧ ∀ i : Nat, i < 8 → (i = x ∨ i = y → q_fl x y (i + 1) = q_fl x y i) ∧ (i ≠ x → i ≠ y → q_od x y (q_fl x y i) = i ∧ q_fl x y (i + 1) = q_fl x y i + 1 ∧ q_fl x y i < 8) := by
  obtain ⟨a, b, c, d⟩ := q_odfA x hx y hy hn
  refine ⟨a, b, c, d, fun i hi => ?_⟩
  rcases q_odfB x hx y hy i hi with (h | ⟨h, h1⟩) | ⟨⟨h, h0⟩, h1⟩
  · exact absurd h hn
  · refine ⟨fun _ => h1, fun g1 g2 => ?_⟩
    rcases h with h | h
    · exact absurd h g1
    · exact absurd h g2
  · refine ⟨fun g => ?_, fun _ _ => h1⟩
    rcases g with g | g
    · exact absurd g h
    · exact absurd g h0
def q_xy (x y : Int) : Prop := (x = -1 ∧ y = -1) ∨ (0 ≤ x ∧ x < 8 ∧ 0 ≤ y ∧ y < 8 ∧ x ≠ y)
theorem q_fl8 {x y : Int} (h : q_xy x y) : q_fl x y 8 = 8 := by
  rcases h with ⟨h, _⟩ | ⟨h1, h2, h3, h4, h5⟩
  · unfold q_fl
    rw [if_pos h]
  · have k := q_odf x.toNat (by omega) y.toNat (by omega) (by omega)
    rw [Int.toNat_of_nonneg h1, Int.toNat_of_nonneg h3] at k
    exact k.2.2.2.1
theorem q_flx {x y : Int} {i : Nat} (h : q_xy x y) (hi : i < 8) (he : (i : Int) = x ∨ (i : Int) = y) : q_fl x y (i + 1) = q_fl x y i := by
  rcases h with ⟨h, h2⟩ | ⟨h1, h2, h3, h4, h5⟩
  · omega
  · have k := q_odf x.toNat (by omega) y.toNat (by omega) (by omega)
    rw [Int.toNat_of_nonneg h1, Int.toNat_of_nonneg h3] at k
    exact (k.2.2.2.2 i hi).1 (by omega)
theorem q_fln {x y : Int} {i : Nat} (h : q_xy x y) (hi : i < 8) (hx : (i : Int) ≠ x) (hy : (i : Int) ≠ y) : q_od x y (q_fl x y i) = i ∧ q_fl x y (i + 1) = q_fl x y i + 1 ∧ q_fl x y i < 8 := by
  rcases h with ⟨h, _⟩ | ⟨h1, h2, h3, h4, h5⟩
  · unfold q_od q_fl
    rw [if_pos h, if_pos h, if_pos h]
    exact ⟨rfl, rfl, hi⟩
  · have k := q_odf x.toNat (by omega) y.toNat (by omega) (by omega)
    rw [Int.toNat_of_nonneg h1, Int.toNat_of_nonneg h3] at k
    exact (k.2.2.2.2 i hi).2 (by omega) (by omega)
/-- the first n places of an order are made -/
def q_oi (f r : Nat → Int32) (x y : Int) (n : Nat) : Prop := ∀ k : Nat, k < n → f k = r (q_od x y k)
theorem q_oi_w {f f1 r : Nat → Int32} {x y : Int} {i n : Nat} {v : Int32} (h : q_oi f r x y n) (hn : n = q_fl x y i) (hi : i < 8) (hq : q_xy x y) (hx : (i : Int) ≠ x) (hy : (i : Int) ≠ y) (hv : v = r i) (e : ∀ k : Nat, f1 k = if k = n then v else f k) : q_oi f1 r x y (n + 1) ∧ n + 1 = q_fl x y (i + 1) := by
  obtain ⟨a1, a2, a3⟩ := q_fln hq hi hx hy
  refine ⟨fun k hk => ?_, by omega⟩
  rw [e]
  by_cases hkn : k = n
  · rw [if_pos hkn, hkn, hn, a1, hv]
  · rw [if_neg hkn]
    exact h k (by omega)
theorem q_oi_2 {f r : Nat → Int32} {x y : Int} (h1 : 0 ≤ x ∧ x < 8) (h2 : 0 ≤ y ∧ y < 8) (hn : x ≠ y) (e0 : f 0 = r x.toNat) (e1 : f 1 = r y.toNat) : q_oi f r x y 2 ∧ 2 = q_fl x y 0 := by
  have k := q_odf x.toNat (by omega) y.toNat (by omega) (by omega)
  rw [Int.toNat_of_nonneg h1.1, Int.toNat_of_nonneg h2.1] at k
  refine ⟨fun j hj => ?_, k.2.2.1.symm⟩
  rcases (show j = 0 ∨ j = 1 by omega) with hj | hj
  · rw [hj, k.1]
    exact e0
  · rw [hj, k.2.1]
    exact e1
/-- who falls out of the lots -/
def q_lx (u : Nat → Int) (a : Int) : Int := q_lot u (-1) (q_nl u).toNat 0 a
def q_ly (u : Nat → Int) (a b : Int) : Int := if q_lx u a = -1 then -1 else q_lot u (q_lx u a) (q_nl u).toNat 0 b
theorem q_lxy {u : Nat → Int} {a b : Int} (hok : q_ok u) (h : q_draws u a b) : (q_nl u = 0 ∧ q_lx u a = -1 ∧ q_ly u a b = -1) ∨ (q_nl u ≠ 0 ∧ (0 ≤ q_lx u a ∧ q_lx u a ≤ 5) ∧ (0 ≤ q_ly u a b ∧ q_ly u a b ≤ 5) ∧ q_lx u a ≠ q_ly u a b ∧ q_ly u a b = q_lot u (q_lx u a) (q_nl u).toNat 0 b) := by
  have nb := q_nl_b hok
  rcases h with ⟨h1, _, _⟩ | ⟨h1, h2, h3, h4, h5⟩
  · have e : q_lx u a = -1 := by
      unfold q_lx
      rw [h1]
      rfl
    refine Or.inl ⟨h1, e, ?_⟩
    unfold q_ly
    rw [if_pos e]
  · have g1 := (q_lot_rg (u := u) (as := -1) (q_nl u).toNat 0 a).resolve_left h4
    have e : q_ly u a b = q_lot u (q_lx u a) (q_nl u).toNat 0 b := by
      unfold q_ly
      rw [if_neg (show ¬ q_lx u a = -1 from h4)]
    have g2 := (q_lot_rg (u := u) (as := q_lx u a) (q_nl u).toNat 0 b).resolve_left h5
    rw [← e] at g2
    have g1' : ((0 : Nat) : Int) ≤ q_lx u a ∧ q_lx u a < ((0 : Nat) : Int) + (q_nl u).toNat ∧ q_lx u a ≠ -1 := g1
    refine Or.inr ⟨h1, by omega, by omega, fun hc => g2.2.2 hc.symm, e⟩
theorem q_lxq {u : Nat → Int} {a b : Int} (hok : q_ok u) (h : q_draws u a b) : q_xy (q_lx u a) (q_ly u a b) := by
  rcases q_lxy hok h with ⟨_, h1, h2⟩ | ⟨_, h1, h2, h3, _⟩
  · exact Or.inl ⟨h1, h2⟩
  · exact Or.inr ⟨by omega, by omega, by omega, by omega, h3⟩
/-! the turns of an order handed out, one after the other -/
def q_u1 (f : Nat → Int32) (k : Nat) (v : Int32) : Nat → Int32 := fun j => if j = k then v else f j
def q_ky (od : Nat → Int32) (y : Int) (n : Nat) : Nat := (10 * (od n).toInt + y).toNat
def q_ho (od : Nat → Int32) (y : Int) (g h s : Nat → Int32) : Nat → (Nat → Int32) × (Nat → Int32)
  | 0 => (h, s)
  | n + 1 => if (n : Int) < ((q_ho od y g h s n).2 (q_ky od y n)).toInt then (q_u1 (q_ho od y g h s n).1 (q_ky od y n) (g (q_ky od y n)), q_u1 (q_ho od y g h s n).2 (q_ky od y n) 0) else q_ho od y g h s n
def q_hv (od : Nat → Int32) (y : Int) (g h s : Nat → Int32) (n : Nat) : Int32 := (q_ho od y g h s (n + 1)).1 (q_ky od y n)
/-- the turns as they stand behind n places -/
def h_hoi (I J : tI) (hd sh gv hv : Nat) (d : Nat) (od : Nat → Int32) (y : Int) (n : Nat) : Prop := (∀ k : Nat, J hd k = (q_ho od y (I gv) (I hd) (I sh) n).1 k) ∧ (∀ k : Nat, J sh k = (q_ho od y (I gv) (I hd) (I sh) n).2 k) ∧ (∀ k : Nat, k < n → J hv (d + k) = q_hv od y (I gv) (I hd) (I sh) k) ∧ ∀ k : Nat, (k < d ∨ d + n ≤ k) → J hv k = I hv k
theorem h_hoi.z {I J : tI} {hd sh gv hv d : Nat} {od : Nat → Int32} {y : Int} (e1 : ∀ k : Nat, J hd k = I hd k) (e2 : ∀ k : Nat, J sh k = I sh k) (e3 : ∀ k : Nat, J hv k = I hv k) : h_hoi I J hd sh gv hv d od y 0 := ⟨e1, e2, fun k hk => absurd hk (by omega), fun k _ => e3 k⟩
theorem h_hoi.s {I J J1 : tI} {hd sh gv hv d : Nat} {od : Nat → Int32} {y : Int} {n n1 x : Nat} {w : Int32} (h : h_hoi I J hd sh gv hv d od y n) (e : n1 = n + 1) (hx : x = q_ky od y n)
    (hc : ((n : Int) < (J sh x).toInt ∧ (∀ k : Nat, J1 hd k = if k = x then I gv x else J hd k) ∧ ∀ k : Nat, J1 sh k = if k = x then 0 else J sh k) ∨ ((J sh x).toInt ≤ n ∧ (∀ k : Nat, J1 hd k = J hd k) ∧ ∀ k : Nat, J1 sh k = J sh k)) (hw : w = J1 hd x) (hv' : ∀ k : Nat, J1 hv k = if k = d + n then w else J hv k) : h_hoi I J1 hd sh gv hv d od y n1 := by
  obtain ⟨a1, a2, a3, a4⟩ := h
  have key : (∀ k : Nat, J1 hd k = (q_ho od y (I gv) (I hd) (I sh) (n + 1)).1 k) ∧ ∀ k : Nat, J1 sh k = (q_ho od y (I gv) (I hd) (I sh) (n + 1)).2 k := by
    rw [hx] at hc
    unfold q_ho
    rcases hc with ⟨c1, c2, c3⟩ | ⟨c1, c2, c3⟩
    · rw [a2] at c1
      rw [if_pos c1]
      refine ⟨fun k => ?_, fun k => ?_⟩
      · rw [c2, a1]
        rfl
      · rw [c3, a2]
        rfl
    · rw [a2] at c1
      rw [if_neg (by omega)]
      exact ⟨fun k => by rw [c2]; exact a1 k, fun k => by rw [c3]; exact a2 k⟩
  rw [e]
  refine ⟨key.1, key.2, fun k hk => ?_, fun k hk => ?_⟩
  · rw [hv']
    by_cases hkn : k = n
    · rw [if_pos (by omega), hw, key.1, hkn, hx]
      rfl
    · rw [if_neg (by omega)]
      exact a3 k (by omega)
  · rw [hv', if_neg (by omega)]
    exact a4 k (by omega)
theorem h_hoi.c {I J J1 : tI} {hd sh gv hv d : Nat} {od : Nat → Int32} {y : Int} {n : Nat} (h : h_hoi I J hd sh gv hv d od y n) (e1 : ∀ k : Nat, J1 hd k = J hd k) (e2 : ∀ k : Nat, J1 sh k = J sh k) (e3 : ∀ k : Nat, J1 hv k = J hv k) : h_hoi I J1 hd sh gv hv d od y n := by
  obtain ⟨a1, a2, a3, a4⟩ := h
  exact ⟨fun k => by rw [e1]; exact a1 k, fun k => by rw [e2]; exact a2 k, fun k hk => by rw [e3]; exact a3 k hk, fun k hk => by rw [e3]; exact a4 k hk⟩
theorem h_hoi.fr {I I2 J : tI} {hd sh gv hv d : Nat} {od : Nat → Int32} {y : Int} {n : Nat} (e1 : I2 hd = I hd) (e2 : I2 sh = I sh) (e3 : I2 gv = I gv) (e4 : I2 hv = I hv) (h : h_hoi I2 J hd sh gv hv d od y n) : h_hoi I J hd sh gv hv d od y n := by
  unfold h_hoi at h ⊢
  rw [e1, e2, e3, e4] at h
  exact h
theorem q_ho_eq {od od' : Nat → Int32} {y : Int} {g h s g' h' s' : Nat → Int32} (hh : ∀ k : Nat, k < 80 → h k = h' k) (hs : ∀ k : Nat, k < 80 → s k = s' k) (hg : ∀ k : Nat, k < 80 → (s k).toInt ≠ 0 → g k = g' k) (h0 : ∀ k : Nat, k < 80 → 0 ≤ (s k).toInt) : ∀ n : Nat, (∀ i : Nat, i < n → od i = od' i ∧ q_ky od y i < 80) → (∀ k : Nat, k < 80 → (q_ho od y g h s n).1 k = (q_ho od' y g' h' s' n).1 k ∧ (q_ho od y g h s n).2 k = (q_ho od' y g' h' s' n).2 k ∧ ((q_ho od y g h s n).2 k = s k ∨ (q_ho od y g h s n).2 k = 0)) := by
  intro n
  induction n with
  | zero => exact fun _ k hk => ⟨hh k hk, hs k hk, Or.inl rfl⟩
  | succ n ih =>
    intro ho k hk
    have h1 := ih (fun i hi => ho i (by omega))
    obtain ⟨e1, e2⟩ := ho n (by omega)
    have ek : q_ky od' y n = q_ky od y n := by
      unfold q_ky
      rw [e1]
    obtain ⟨f1, f2, f3⟩ := h1 (q_ky od y n) e2
    obtain ⟨d1, d2, d3⟩ := h1 k hk
    unfold q_ho
    rw [ek, ← f2]
    by_cases hc : (n : Int) < ((q_ho od y g h s n).2 (q_ky od y n)).toInt
    · rw [if_pos hc, if_pos hc]
      have hne : (s (q_ky od y n)).toInt ≠ 0 := by
        rcases f3 with f3 | f3
        · rw [f3] at hc
          omega
        · rw [f3] at hc
          exact absurd hc (by rw [show (0 : Int32).toInt = 0 by decide]; omega)
      show (if k = q_ky od y n then g (q_ky od y n) else _) = (if k = q_ky od y n then g' (q_ky od y n) else _) ∧ (if k = q_ky od y n then (0 : Int32) else _) = (if k = q_ky od y n then (0 : Int32) else _) ∧ ((if k = q_ky od y n then (0 : Int32) else _) = s k ∨ (if k = q_ky od y n then (0 : Int32) else _) = 0)
      by_cases hkk : k = q_ky od y n
      · rw [if_pos hkk, if_pos hkk, if_pos hkk, if_pos hkk]
        exact ⟨hg _ e2 hne, rfl, Or.inr rfl⟩
      · rw [if_neg hkk, if_neg hkk, if_neg hkk, if_neg hkk]
        exact ⟨d1, d2, d3⟩
    · rw [if_neg hc, if_neg hc]
      exact ⟨d1, d2, d3⟩
theorem q_od_ltd : ∀ x : Nat, x < 8 → ∀ y : Nat, y < 8 → x ≠ y → ∀ k : Nat, k < 8 → q_od x y k < 8 := by decide +kernel
theorem q_od_lt {x y : Int} (h : q_xy x y) {k : Nat} (hk : k < 8) : q_od x y k < 8 := by
  rcases h with ⟨h, _⟩ | ⟨h1, h2, h3, h4, h5⟩
  · unfold q_od
    rw [if_pos h]
    exact hk
  · have g := q_od_ltd x.toNat (by omega) y.toNat (by omega) (by omega) k hk
    rw [Int.toNat_of_nonneg h1, Int.toNat_of_nonneg h3] at g
    exact g
theorem q_lot_in {u : Nat → Int} {a : Int} (hok : q_ok u) (h0 : 0 ≤ a) (h1 : a ≤ q_sum u (-1) (q_nl u).toNat 0 - 1) : 0 ≤ q_lot u (-1) (q_nl u).toNat 0 a ∧ q_lot u (-1) (q_nl u).toNat 0 a < q_nl u := by
  have nb := q_nl_b hok
  have hw : ∀ j : Nat, 0 ≤ j → j < 0 + (q_nl u).toNat → 1 ≤ u (9 + j) := fun j _ hj => (hok.2.2 j (by omega)).1
  have e1 := q_lot_no (as := -1) (q_nl u).toNat 0 a h0 hw
  have h3 : q_lot u (-1) (q_nl u).toNat 0 a ≠ -1 := fun hc => by
    have := e1.mp hc
    omega
  have g1 := (q_lot_rg (u := u) (as := -1) (q_nl u).toNat 0 a).resolve_left h3
  omega
theorem h_F_no48 {z : tZ} {I I1 : tI} (h : h_F [(1348, 999)] z I I1) {a k : Nat} (ha : z.ty a ≠ 1348) : I1 a k = I a k := h a k (by
  unfold h_m
  simp [Ne.symm ha])
/-- who is out: none, one, both -/
theorem h_io0 {I : tI} {io : Nat} (h : ∀ k : Nat, k < 8 → I io k = 0) : ∀ k : Nat, k < 8 → (I io k).toInt = if (k : Int) = -1 then 1 else 0 := by
  intro k hk
  rw [h k hk, if_neg (by omega)]
  decide
theorem h_io1 {I I1 : tI} {io n : Nat} {x : Int} (h : ∀ k : Nat, k < 8 → I io k = 0) (e : ∀ k : Nat, I1 io k = if k = n then 1 else I io k) (hn : (n : Int) = x) : ∀ k : Nat, k < 8 → (I1 io k).toInt = if (k : Int) = x then 1 else 0 := by
  intro k hk
  rw [e]
  by_cases hkn : k = n
  · rw [if_pos hkn, if_pos (by omega)]
    decide
  · rw [if_neg hkn, if_neg (by omega), h k hk]
    decide
theorem h_io2 {I I1 I2 : tI} {io n m : Nat} {x y : Int} (h : ∀ k : Nat, k < 8 → I io k = 0) (e : ∀ k : Nat, I1 io k = if k = n then 1 else I io k) (hn : (n : Int) = x) (e2 : ∀ k : Nat, I2 io k = if k = m then 1 else I1 io k) (hm : (m : Int) = y) : ∀ k : Nat, k < 8 → (I2 io k).toInt = if (k : Int) = x ∨ (k : Int) = y then 1 else 0 := by
  intro k hk
  rw [e2]
  by_cases hkm : k = m
  · rw [if_pos hkm, if_pos (Or.inr (by omega))]
    decide
  · rw [if_neg hkm, h_io1 h e hn k hk]
    by_cases hkx : (k : Int) = x
    · rw [if_pos hkx, if_pos (Or.inl hkx)]
    · rw [if_neg hkx, if_neg (by omega)]
theorem h_io3 {I : tI} {io : Nat} {x y : Int} (h : ∀ k : Nat, k < 8 → I io k = 0) (hx : x = -1) (hy : y = -1) : ∀ k : Nat, k < 8 → (I io k).toInt = if (k : Int) = x ∨ (k : Int) = y then 1 else 0 := by
  intro k hk
  rw [h k hk, if_neg (by omega)]
  decide
theorem q_ho_r {P : Int32 → Prop} {od : Nat → Int32} {y : Int} {g h s : Nat → Int32} (hh : ∀ k : Nat, k < 80 → P (h k)) (hg : ∀ k : Nat, k < 80 → (s k).toInt ≠ 0 → P (g k)) (h0 : ∀ k : Nat, k < 80 → 0 ≤ (s k).toInt) : ∀ n : Nat, (∀ i : Nat, i < n → q_ky od y i < 80) → ∀ k : Nat, k < 80 → P ((q_ho od y g h s n).1 k) := by
  intro n
  induction n with
  | zero => exact fun _ k hk => hh k hk
  | succ n ih =>
    intro ho k hk
    have h1 := ih (fun i hi => ho i (by omega))
    have f3 := (q_ho_eq (od := od) (od' := od) (y := y) (g := g) (h := h) (s := s) (g' := g) (h' := h) (s' := s) (fun _ _ => rfl) (fun _ _ => rfl) (fun _ _ _ => rfl) h0 n (fun i hi => ⟨rfl, ho i (by omega)⟩) (q_ky od y n) (ho n (by omega))).2.2
    unfold q_ho
    by_cases hc : (n : Int) < ((q_ho od y g h s n).2 (q_ky od y n)).toInt
    · rw [if_pos hc]
      have hne : (s (q_ky od y n)).toInt ≠ 0 := by
        rcases f3 with f3 | f3
        · rw [f3] at hc
          omega
        · rw [f3] at hc
          exact absurd hc (by rw [show (0 : Int32).toInt = 0 by decide]; omega)
      show P (if k = q_ky od y n then g (q_ky od y n) else (q_ho od y g h s n).1 k)
      by_cases hkk : k = q_ky od y n
      · rw [if_pos hkk]
        exact hg _ (ho n (by omega)) hne
      · rw [if_neg hkk]
        exact h1 k hk
    · rw [if_neg hc]
      exact h1 k hk

