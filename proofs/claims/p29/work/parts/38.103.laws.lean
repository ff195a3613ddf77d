/-! one text's numbers, told by a function; nothing else of its kind is touched -/
def h_lw (I : tI) (a n l : Nat) (u : Nat → Int) : Prop := (∀ i : Nat, i < 8 → (I n i).toInt = u i) ∧ (I a 2).toInt = u 8 ∧ ∀ i : Nat, i < 6 → (i : Int) < u 8 → (I l i).toInt = u (9 + i)
theorem h_lw.c {I I1 : tI} {a n l : Nat} {u : Nat → Int} (h : h_lw I a n l u) (e1 : ∀ i : Nat, I1 n i = I n i) (e2 : I1 a 2 = I a 2) (e3 : ∀ i : Nat, I1 l i = I l i) : h_lw I1 a n l u := by
  refine ⟨fun i hi => ?_, ?_, fun i h6 hi => ?_⟩
  · rw [e1]
    exact h.1 i hi
  · rw [e2]
    exact h.2.1
  · rw [e3]
    exact h.2.2 i h6 hi
def h_ap (z : tZ) (I I1 : tI) (a n l : Nat) : Prop := ∀ b k : Nat, (z.ty b = 6 ∧ b ≠ a) ∨ (z.ty b = 600 ∧ b ≠ n) ∨ (z.ty b = 601 ∧ b ≠ l) → I1 b k = I b k
theorem h_ap.rf {z : tZ} {I : tI} {a n l : Nat} : h_ap z I I a n l := fun _ _ _ => rfl
theorem h_ap.tr {z : tZ} {I I1 I2 : tI} {a n l : Nat} (h : h_ap z I I1 a n l) (h2 : h_ap z I1 I2 a n l) : h_ap z I I2 a n l := fun b k q => (h2 b k q).trans (h b k q)
theorem h_ap.w {z : tZ} {I I1 I2 : tI} {a n l b k : Nat} {v : Int32} (h : h_ap z I I1 a n l) (e : I2 = h_up I1 b k v) {t : Nat} (tb : z.ty b = t) (h6 : t ≠ 6) (h600 : t ≠ 600) (h601 : t ≠ 601) : h_ap z I I2 a n l := by
  intro c j q
  rw [← h c j q, e]
  have hc : c ≠ b := by
    intro hcb
    subst hcb
    rw [tb] at q
    rcases q with q | q | q
    · exact h6 q.1
    · exact h600 q.1
    · exact h601 q.1
  exact congrFun (h_up_ne hc) j
theorem h_ap.F {M : List (Nat × Nat)} {z : tZ} {I I1 I2 : tI} {a n l : Nat} (h : h_ap z I I1 a n l) (f : h_F M z I1 I2) (h6 : ∀ k, h_m M 6 k = false) (h600 : ∀ k, h_m M 600 k = false) (h601 : ∀ k, h_m M 601 k = false) : h_ap z I I2 a n l := by
  intro c j q
  rw [← h c j q]
  rcases q with q | q | q
  · exact f.at q.1 (h6 j)
  · exact f.at q.1 (h600 j)
  · exact f.at q.1 (h601 j)
theorem h_ap.wn {z : tZ} {I I1 I2 : tI} {a n l k : Nat} {v : Int32} (h : h_ap z I I1 a n l) (e : I2 = h_up I1 n k v) (tn : z.ty n = 600) : h_ap z I I2 a n l := by
  intro c j q
  rw [← h c j q, e]
  have hc : c ≠ n := by
    intro hcb
    subst hcb
    rw [tn] at q
    omega
  exact congrFun (h_up_ne hc) j
theorem h_ap.wl {z : tZ} {I I1 I2 : tI} {a n l k : Nat} {v : Int32} (h : h_ap z I I1 a n l) (e : I2 = h_up I1 l k v) (tl : z.ty l = 601) : h_ap z I I2 a n l := by
  intro c j q
  rw [← h c j q, e]
  have hc : c ≠ l := by
    intro hcb
    subst hcb
    rw [tl] at q
    omega
  exact congrFun (h_up_ne hc) j
theorem h_ap.wa {z : tZ} {I I1 I2 : tI} {a n l k : Nat} {v : Int32} (h : h_ap z I I1 a n l) (e : I2 = h_up I1 a k v) (ta : z.ty a = 6) : h_ap z I I2 a n l := by
  intro c j q
  rw [← h c j q, e]
  have hc : c ≠ a := by
    intro hcb
    subst hcb
    rw [ta] at q
    omega
  exact congrFun (h_up_ne hc) j
theorem h_lw.put {z : tZ} {I I1 : tI} {a n l k : Nat} {v : Int32} {u : Nat → Int} (h : h_lw I a n l u) (e : I1 = h_up I n k v) (ta : z.ty a = 6) (tn : z.ty n = 600) (tl : z.ty l = 601) (hk : k < 8) : h_lw I1 a n l (q_up u k v.toInt) := by
  have ha : a ≠ n := h_ne2 ta tn (by decide)
  have hl : l ≠ n := h_ne2 tl tn (by decide)
  refine ⟨fun i hi => ?_, ?_, fun i h6 hi => ?_⟩
  · unfold q_up
    by_cases hik : i = k
    · rw [if_pos hik, hik, h_n0 e]
    · rw [if_neg hik, h_n2 e hik]
      exact h.1 i hi
  · unfold q_up
    rw [if_neg (by omega), e, show h_up I n k v a = I a from h_up_ne ha]
    exact h.2.1
  · unfold q_up at hi ⊢
    rw [if_neg (by omega)] at hi
    rw [if_neg (by omega), e, show h_up I n k v l = I l from h_up_ne hl]
    exact h.2.2 i h6 hi
theorem h_lw.lot {z : tZ} {I I1 I2 : tI} {a n l k : Nat} {v c : Int32} {u : Nat → Int} (h : h_lw I a n l u) (e : I1 = h_up I l k v) (e2 : I2 = h_up I1 a 2 c) (hc : c.toInt = k + 1) (ta : z.ty a = 6) (tn : z.ty n = 600) (tl : z.ty l = 601) (hk : k < 6) (hu : k = 0 ∨ u 8 = k) : h_lw I2 a n l (q_up (q_up u (9 + k) v.toInt) 8 (k + 1)) := by
  have h1 : n ≠ l := h_ne2 tn tl (by decide)
  have h2 : n ≠ a := h_ne2 tn ta (by decide)
  have h3 : l ≠ a := h_ne2 tl ta (by decide)
  have en : ∀ i : Nat, I2 n i = I n i := fun i => by
    rw [e2, show h_up I1 a 2 c n = I1 n from h_up_ne h2, e]
    exact congrFun (h_up_ne h1) i
  have el : ∀ i : Nat, I2 l i = I1 l i := fun i => by
    rw [e2]
    exact congrFun (h_up_ne h3) i
  refine ⟨fun i hi => ?_, ?_, fun i h6 hi => ?_⟩
  · unfold q_up
    rw [if_neg (by omega), if_neg (by omega), en]
    exact h.1 i hi
  · unfold q_up
    rw [if_pos rfl, h_n0 e2, hc]
  · unfold q_up at hi ⊢
    rw [if_pos rfl] at hi
    rw [if_neg (by omega), el]
    by_cases hik : i = k
    · rw [if_pos (by omega), hik, h_n0 e]
    · rw [if_neg (by omega), h_n2 e hik]
      exact h.2.2 i h6 (by omega)
def q_lo (x : Int) : Int := (hf_L x.toNat).toInt
def q_hi (x : Int) : Int := (hf_M x.toNat).toInt
def q_e1 (x : Int) : Nat × Int × Int := (x.toNat, q_lo x, q_hi x)
/-- the numbers that a line still wants -/
def q_rw (w m : Int) : List (Nat × Int × Int) := if m < w then [] else if w = m then [q_e1 w] else [q_e1 w, q_e1 (w + 1)]
def q_last (x : Int) : Int := if x = 4 then 5 else x
theorem q_rw_cons {w m w1 : Int} (h : w ≤ m) (h1 : m ≤ w + 1) (e : w1 = w + 1) : q_rw w m = q_e1 w :: q_rw w1 m := by
  subst e
  unfold q_rw
  rw [if_neg (by omega)]
  by_cases hw : w = m
  · rw [if_pos hw, if_pos (by omega)]
  · rw [if_neg hw, if_neg (by omega), if_pos (by omega)]
theorem q_rw_nil {w m : Int} (h : m < w) : q_rw w m = [] := by
  unfold q_rw
  rw [if_pos h]
theorem q_rw_ln (w : Int) (h0 : 0 ≤ w) (h6 : w ≤ 6) : q_rw (q_ll w) (q_last (q_ll w)) = q_ln w := by
  rcases (show w = 0 ∨ w = 1 ∨ w = 2 ∨ w = 3 ∨ w = 4 ∨ w = 5 ∨ w = 6 by omega) with rfl | rfl | rfl | rfl | rfl | rfl | rfl <;> decide +kernel
theorem q_ns_ok {g : Int → Int} {x p v e : Int} {t : List (Nat × Int × Int)} {u : Nat → Int} (hk : q_k g p = 2) (hv : v = q_v g p) (h1 : q_lo x ≤ v) (h2 : v ≤ q_hi x) (he : e = q_e g p) : q_ns g (q_e1 x :: t) p u = q_ns g t e (q_up u x.toNat v) := by
  show (if q_nf g p (q_lo x) (q_hi x) = 0 then q_ns g t (q_e g p) (q_up u x.toNat (q_v g p)) else _) = _
  have h3 : q_nf g p (q_lo x) (q_hi x) = 0 := by
    unfold q_nf
    rw [if_neg (by omega), if_neg (by omega)]
  rw [if_pos h3, he, hv]
theorem q_ns_f1 {g : Int → Int} {x p : Int} {t : List (Nat × Int × Int)} {u : Nat → Int} (hk : q_k g p ≠ 2) : q_ns g (q_e1 x :: t) p u = (1, q_a g p, p, u) := by
  show (if q_nf g p (q_lo x) (q_hi x) = 0 then _ else (q_nf g p (q_lo x) (q_hi x), q_a g p, p, u)) = _
  have h3 : q_nf g p (q_lo x) (q_hi x) = 1 := by
    unfold q_nf
    rw [if_pos hk]
  rw [h3]
  rfl
theorem q_ns_f2 {g : Int → Int} {x p : Int} {t : List (Nat × Int × Int)} {u : Nat → Int} (hk : q_k g p = 2) (hv : q_v g p < q_lo x ∨ q_hi x < q_v g p) : q_ns g (q_e1 x :: t) p u = (2, q_a g p, p, u) := by
  show (if q_nf g p (q_lo x) (q_hi x) = 0 then _ else (q_nf g p (q_lo x) (q_hi x), q_a g p, p, u)) = _
  have h3 : q_nf g p (q_lo x) (q_hi x) = 2 := by
    unfold q_nf
    rw [if_neg (by omega), if_pos hv]
  rw [h3]
  rfl
theorem q_ns_e {g : Int → Int} {p : Int} {u : Nat → Int} (hk : q_k g p = 3) : q_ns g [] p u = (0, 0, q_e g p, u) := if_pos hk
theorem q_ns_n {g : Int → Int} {p : Int} {u : Nat → Int} (hk : q_k g p ≠ 3) : q_ns g [] p u = (1, q_a g p, p, u) := if_neg hk
theorem q_up_eq {u : Nat → Int} {i : Nat} {v : Int} : q_up u i v i = v := if_pos rfl
theorem q_lt_n {i : Int} (h0 : 0 ≤ i) (h6 : i < 6) {i1 : Int} (e : i1 = i + 1) : (6 - i).toNat = (6 - i1).toNat + 1 ∧ i1.toNat = i.toNat + 1 := by omega
theorem q_lt_ok {g : Int → Int} {i i1 p v e : Int} {u : Nat → Int} (h0 : 0 ≤ i) (h6 : i < 6) (e1 : i1 = i + 1) (hk : q_k g p = 2) (hv : v = q_v g p) (h1 : 1 ≤ v) (h2 : v ≤ 20) (he : e = q_e g p) : q_lt g (6 - i).toNat i.toNat p u = q_lt g (6 - i1).toNat i1.toNat e (q_up (q_up u (9 + i.toNat) v) 8 ((i.toNat : Int) + 1)) := by
  obtain ⟨a1, a2⟩ := q_lt_n h0 h6 e1
  have h3 : q_nf g p 1 20 = 0 := by
    unfold q_nf
    rw [if_neg (by omega), if_neg (by omega)]
  rw [a1, a2]
  show (if q_k g p = 3 ∧ 0 < i.toNat then _ else if q_nf g p 1 20 = 0 then q_lt g (6 - i1).toNat (i.toNat + 1) (q_e g p) (q_up (q_up u (9 + i.toNat) (q_v g p)) 8 ((i.toNat : Int) + 1)) else _) = _
  rw [if_neg (by omega), if_pos h3, he, hv]
theorem q_lt_m {g : Int → Int} {i p : Int} {u : Nat → Int} (h0 : 0 < i) (h6 : i ≤ 6) (hk : q_k g p = 3) : q_lt g (6 - i).toNat i.toNat p u = (0, 0, q_e g p, u) := by
  by_cases h : i = 6
  · subst h
    show (if q_k g p = 3 then _ else _) = _
    rw [if_pos hk]
  · obtain ⟨a1, a2⟩ := q_lt_n (i := i) (by omega) (by omega) rfl
    rw [a1]
    show (if q_k g p = 3 ∧ 0 < i.toNat then _ else _) = _
    rw [if_pos ⟨hk, by omega⟩]
theorem q_lt_f1 {g : Int → Int} {i p : Int} {u : Nat → Int} (h0 : 0 ≤ i) (h6 : i ≤ 6) (hk : q_k g p ≠ 2) (hm : ¬ (q_k g p = 3 ∧ 0 < i)) : q_lt g (6 - i).toNat i.toNat p u = (1, q_a g p, p, u) := by
  by_cases h : i = 6
  · subst h
    show (if q_k g p = 3 then _ else _) = _
    rw [if_neg (by omega)]
  · obtain ⟨a1, a2⟩ := q_lt_n (i := i) (by omega) (by omega) rfl
    have h3 : q_nf g p 1 20 = 1 := by
      unfold q_nf
      rw [if_pos hk]
    rw [a1]
    show (if q_k g p = 3 ∧ 0 < i.toNat then _ else if q_nf g p 1 20 = 0 then _ else (q_nf g p 1 20, q_a g p, p, u)) = _
    rw [if_neg (by omega), h3]
    rfl
theorem q_lt_f6 {g : Int → Int} {i p : Int} {u : Nat → Int} (h6 : i = 6) (hk : q_k g p ≠ 3) : q_lt g (6 - i).toNat i.toNat p u = (1, q_a g p, p, u) := by
  subst h6
  show (if q_k g p = 3 then _ else _) = _
  rw [if_neg hk]
theorem q_lt_f2 {g : Int → Int} {i p : Int} {u : Nat → Int} (h0 : 0 ≤ i) (h6 : i < 6) (hk : q_k g p = 2) (hv : q_v g p < 1 ∨ 20 < q_v g p) : q_lt g (6 - i).toNat i.toNat p u = (2, q_a g p, p, u) := by
  obtain ⟨a1, a2⟩ := q_lt_n (i := i) h0 h6 rfl
  have h3 : q_nf g p 1 20 = 2 := by
    unfold q_nf
    rw [if_neg (by omega), if_pos hv]
  rw [a1]
  show (if q_k g p = 3 ∧ 0 < i.toNat then _ else if q_nf g p 1 20 = 0 then _ else (q_nf g p 1 20, q_a g p, p, u)) = _
  rw [if_neg (by omega), h3]
  rfl
theorem q_lohi8 : q_lo 8 = 1 ∧ q_hi 8 = 20 := by decide +kernel
/-! which lines were told: bits by lines -/
def h_told (x : Int32) (T : Int → Bool) : Prop := ∃ b : Nat, b < 512 ∧ x = nI b ∧ ∀ w : Nat, w < 8 → b.testBit (q_lnN w).toNat = T w
theorem h_told0 : h_told 0 (fun _ => false) := ⟨0, by decide, by decide, fun w _ => Nat.zero_testBit _⟩
theorem h_bit_and : ∀ b : Nat, b < 512 → ∀ k : Nat, k < 9 → (nI b &&& ((1 : Int32) <<< (nI k &&& 31)) = 0 ↔ b.testBit k = false) := by decide +kernel
theorem h_bit_or : ∀ b : Nat, b < 512 → ∀ k : Nat, k < 9 → nI b ||| ((1 : Int32) <<< (nI k &&& 31)) = nI (b ||| 2 ^ k) := by decide +kernel
theorem q_ll_b (w : Int) : (w ≤ 4 ∧ q_ll w = w) ∨ (5 ≤ w ∧ q_ll w = w + 1) := by
  unfold q_ll
  split <;> omega
theorem q_ll_N {w : Int} (h0 : 0 ≤ w) : q_lnN w.toNat = q_ll w := by
  unfold q_lnN q_ll
  split <;> split <;> omega
theorem h_told.get {x : Int32} {T : Int → Bool} (h : h_told x T) {w : Int} (h0 : 0 ≤ w) (h7 : w ≤ 7) {y s v : Int32} (hl : y.toInt = q_ll w) (e1 : s = 1 <<< (y &&& 31)) (e2 : v = x &&& s) : (v.toInt = 0 ∧ T w = false) ∨ (v.toInt ≠ 0 ∧ T w = true) := by
  obtain ⟨b, hb, hx, ht⟩ := h
  have hq := q_ll_b w
  have hy : y = nI (q_ll w).toNat := xi_of (by rw [hl, nI_toInt (by omega)]; omega)
  have h1 := h_bit_and b hb (q_ll w).toNat (by omega)
  have h2 := ht w.toNat (by omega)
  rw [q_ll_N h0, show ((w.toNat : Nat) : Int) = w by omega] at h2
  rw [← hy, ← hx, ← e1, ← e2, h2] at h1
  cases hT : T w with
  | false => exact Or.inl ⟨by rw [h1.mpr hT]; decide, rfl⟩
  | true =>
    refine Or.inr ⟨fun hv => ?_, rfl⟩
    have h3 := h1.mp (xi_of (by rw [hv]; decide))
    rw [hT] at h3
    cases h3
theorem h_told.or {x : Int32} {T : Int → Bool} (h : h_told x T) {w : Int} (h0 : 0 ≤ w) (h7 : w ≤ 7) {y s v : Int32} (hl : y.toInt = q_ll w) (e1 : s = 1 <<< (y &&& 31)) (e2 : v = x ||| s) : h_told v (fun c => T c || decide (c = w)) := by
  obtain ⟨b, hb, hx, ht⟩ := h
  have hq := q_ll_b w
  have hy : y = nI (q_ll w).toNat := xi_of (by rw [hl, nI_toInt (by omega)]; omega)
  have h1 := h_bit_or b hb (q_ll w).toNat (by omega)
  rw [← hy, ← hx, ← e1, ← e2] at h1
  have h2 : 2 ^ (q_ll w).toNat < 2 ^ 9 := Nat.pow_lt_pow_right (by decide) (by omega)
  refine ⟨b ||| 2 ^ (q_ll w).toNat, Nat.or_lt_two_pow (n := 9) hb h2, h1, fun c hc => ?_⟩
  rw [Nat.testBit_or, ht c hc, Nat.testBit_two_pow]
  congr 1
  have h3 : ((q_ll w).toNat = (q_lnN c).toNat) ↔ ((c : Int) = w) := by
    rw [← q_ll_N h0]
    unfold q_lnN
    split <;> split <;> omega
  simp only [h3]
theorem q_line_f1 {g : Int → Int} {p : Int} {T : Int → Bool} {u : Nat → Int} (h : q_k g p ≠ 1 ∨ q_w g p = -1) : q_line g p T u = (1, q_a g p, p, u) := if_pos h
theorem q_line_f3 {g : Int → Int} {p : Int} {T : Int → Bool} {u : Nat → Int} (h1 : q_k g p = 1) (h2 : 0 ≤ q_w g p) (h : T (q_w g p) = true) : q_line g p T u = (3, q_a g p, p, u) := by
  unfold q_line
  rw [if_neg (by omega), if_pos h]
theorem q_line_l {g : Int → Int} {p : Int} {T : Int → Bool} {u : Nat → Int} (h1 : q_k g p = 1) (h2 : q_w g p = 7) (h : T (q_w g p) = false) : q_line g p T u = q_lt g 6 0 (q_e g p) u := by
  unfold q_line
  rw [if_neg (by omega), if_neg (by rw [h]; decide), if_pos h2]
theorem q_line_n {g : Int → Int} {p y : Int} {T : Int → Bool} {u : Nat → Int} (h1 : q_k g p = 1) (h2 : 0 ≤ q_w g p) (h3 : q_w g p ≤ 6) (hy : y = q_ll (q_w g p)) (h : T (q_w g p) = false) : q_line g p T u = q_ns g (q_rw y (q_last y)) (q_e g p) u := by
  unfold q_line
  rw [if_neg (by omega), if_neg (by rw [h]; decide), if_neg (by omega), hy, q_rw_ln _ h2 h3]
theorem xf_U_pl : ∀ i : Nat, i < 8 → (xf_U i).toInt = q_pl i := by decide +kernel
theorem h_reset {z : tZ} {I I1 I2 I3 : tI} {a n l k : Nat} (e1 : I1 = h_row I n (va_cpy xf_U (I n) 0 0 8)) (e2 : I2 = h_up I1 l k 1) (hk : k = 0) (e3 : I3 = h_up I2 a 2 1) (ta : z.ty a = 6) (tn : z.ty n = 600) (tl : z.ty l = 601) : h_lw I3 a n l q_pl ∧ h_ap z I I3 a n l := by
  subst hk
  have h1 : n ≠ l := h_ne2 tn tl (by decide)
  have h2 : n ≠ a := h_ne2 tn ta (by decide)
  have h3 : l ≠ a := h_ne2 tl ta (by decide)
  have o1 : ((1 : Int32).toInt : Int) = 1 := by decide
  refine ⟨⟨fun i hi => ?_, ?_, fun i h6 hi => ?_⟩, fun b j q => ?_⟩
  · rw [e3, show h_up I2 a 2 1 n = I2 n from h_up_ne h2, e2, show h_up I1 l 0 1 n = I1 n from h_up_ne h1, e1, show h_row I n (va_cpy xf_U (I n) 0 0 8) n = va_cpy xf_U (I n) 0 0 8 from if_pos rfl]
    show (if 0 ≤ i ∧ i < 0 + 8 then xf_U (0 + (i - 0)) else I n i).toInt = q_pl i
    rw [if_pos (by omega), show 0 + (i - 0) = i by omega]
    exact xf_U_pl i hi
  · rw [h_n0 e3, o1]
    rfl
  · have hi1 : (i : Int) < 1 := hi
    have i0 : i = 0 := by omega
    subst i0
    rw [e3, show h_up I2 a 2 1 l = I2 l from h_up_ne h3, h_n0 e2, o1]
    rfl
  · have b1 : b ≠ a := by
      intro hb
      subst hb
      rw [ta] at q
      omega
    have b2 : b ≠ l := by
      intro hb
      subst hb
      rw [tl] at q
      omega
    have b3 : b ≠ n := by
      intro hb
      subst hb
      rw [tn] at q
      omega
    rw [e3, show h_up I2 a 2 1 b = I2 b from h_up_ne b1, e2, show h_up I1 l 0 1 b = I1 b from h_up_ne b2, e1, show h_row I n (va_cpy xf_U (I n) 0 0 8) b = I b from if_neg b3]
theorem q_text_n {m m1 : Int} (h0 : 0 ≤ m) (h5 : m ≤ 500) (e : m1 = m + 1) : (501 - m).toNat = (501 - m1).toNat + 1 := by omega
theorem q_text_end {g : Int → Int} {p m : Int} {T : Int → Bool} {u : Nat → Int} (h0 : 0 ≤ m) (h5 : m ≤ 500) (hk : q_k g p = 0) : q_text g (501 - m).toNat p T u m = (0, -1, m, u) := by
  rw [q_text_n h0 h5 rfl]
  exact if_pos hk
theorem q_text_go {g : Int → Int} {p p1 m m1 : Int} {T : Int → Bool} {u : Nat → Int} (h0 : 0 ≤ m) (h5 : m ≤ 500) (e : m1 = m + 1) (hk : q_k g p ≠ 0) (h1 : (q_line g p T u).1 = 0) (hp : p1 = (q_line g p T u).2.2.1) : q_text g (501 - m).toNat p T u m = q_text g (501 - m1).toNat p1 (fun w => T w || decide (w = q_w g p)) (q_line g p T u).2.2.2 m1 := by
  rw [q_text_n h0 h5 e, e, hp]
  show (if q_k g p = 0 then _ else if (q_line g p T u).1 = 0 then q_text g (501 - (m + 1)).toNat (q_line g p T u).2.2.1 (fun w => T w || decide (w = q_w g p)) (q_line g p T u).2.2.2 (m + 1) else _) = _
  rw [if_neg hk, if_pos h1]
theorem q_text_f {g : Int → Int} {p m : Int} {T : Int → Bool} {u : Nat → Int} (h0 : 0 ≤ m) (h5 : m ≤ 500) (hk : q_k g p ≠ 0) (h1 : (q_line g p T u).1 ≠ 0) : q_text g (501 - m).toNat p T u m = ((q_line g p T u).1, (q_line g p T u).2.1, -1, u) := by
  rw [q_text_n h0 h5 rfl]
  show (if q_k g p = 0 then _ else if (q_line g p T u).1 = 0 then _ else ((q_line g p T u).1, (q_line g p T u).2.1, -1, u)) = _
  rw [if_neg hk, if_neg h1]

