/-! a trade is done: what was last told of a thing -/
def q_lst (cd : Nat → Int) (v : Nat → Int32) (k : Int) (old : Int32) : Nat → Int32
  | 0 => old
  | n + 1 => if cd n = k then v n else q_lst cd v k old n
theorem q_lst_n {cd : Nat → Int} {v : Nat → Int32} {k : Int} {old x : Int32} {n n1 : Nat} (h : x = q_lst cd v k old n) (e : n1 = n + 1) (hn : cd n ≠ k) : x = q_lst cd v k old n1 := by
  rw [e, h]
  exact (if_neg hn).symm
theorem q_lst_y {cd : Nat → Int} {v : Nat → Int32} {k : Int} {old y : Int32} {n n1 : Nat} (e : n1 = n + 1) (hc : cd n = k) (hy : y = v n) : y = q_lst cd v k old n1 := by
  rw [e, hy]
  exact (if_pos hc).symm
theorem q_lst_eq {cd cd' : Nat → Int} {v v' : Nat → Int32} {k : Int} {old old' : Int32} (ho : old = old') : ∀ n : Nat, (∀ i : Nat, i < n → cd i = cd' i ∧ (cd i = k → v i = v' i)) → q_lst cd v k old n = q_lst cd' v' k old' n := by
  intro n
  induction n with
  | zero => exact fun _ => ho
  | succ n ih =>
    intro h
    obtain ⟨h1, h2⟩ := h n (by omega)
    show (if cd n = k then v n else q_lst cd v k old n) = (if cd' n = k then v' n else q_lst cd' v' k old' n)
    rw [ih (fun i hi => h i (by omega)), ← h1]
    by_cases hk : cd n = k
    · rw [if_pos hk, if_pos hk, h2 hk]
    · rw [if_neg hk, if_neg hk]
/-- nothing told: as it was; else what the last one says -/
theorem q_lst_c {cd : Nat → Int} {v : Nat → Int32} {k : Int} {old : Int32} : ∀ n : Nat, (q_lst cd v k old n = old ∧ ∀ i : Nat, i < n → cd i ≠ k) ∨ ∃ i : Nat, i < n ∧ cd i = k ∧ q_lst cd v k old n = v i := by
  intro n
  induction n with
  | zero => exact Or.inl ⟨rfl, fun i hi => absurd hi (by omega)⟩
  | succ n ih =>
    by_cases hk : cd n = k
    · exact Or.inr ⟨n, by omega, hk, if_pos hk⟩
    · have e : q_lst cd v k old (n + 1) = q_lst cd v k old n := if_neg hk
      rw [e]
      rcases ih with ⟨h1, h2⟩ | ⟨i, h1, h2, h3⟩
      · exact Or.inl ⟨h1, fun i hi => by
          by_cases hin : i = n
          · rw [hin]
            exact hk
          · exact h2 i (by omega)⟩
      · exact Or.inr ⟨i, by omega, h2, h3⟩
def c_cd (I : tI) (it th : Nat) (i : Nat) : Int := if (I it i).toInt ≠ 0 then 60 + (I th i).toInt else (I th i).toInt
theorem c_cd_t {I : tI} {it th i : Nat} (h : (I it i).toInt ≠ 0) : c_cd I it th i = 60 + (I th i).toInt := if_pos h
theorem c_cd_p {I : tI} {it th i : Nat} (h : (I it i).toInt = 0) : c_cd I it th i = (I th i).toInt := if_neg (by omega)
/-- what is told of the turns -/
def h_tdo (I J : tI) (hd sh gv to_ sg : Nat) (cd : Nat → Int) (n : Nat) : Prop := ∀ k : Nat, k < 80 → J hd k = q_lst cd (I to_) (60 + k) (I hd k) n ∧ J sh k = q_lst cd (I sg) (60 + k) (I sh k) n ∧ J gv k = q_lst cd (fun i => q_lst cd (I to_) (60 + k) (I hd k) i) (60 + k) (I gv k) n
theorem h_tdo.z {I J : tI} {hd sh gv to_ sg : Nat} {cd : Nat → Int} (e : ∀ k : Nat, J hd k = I hd k ∧ J sh k = I sh k ∧ J gv k = I gv k) : h_tdo I J hd sh gv to_ sg cd 0 := fun k _ => e k
theorem h_tdo.n {I J J1 : tI} {hd sh gv to_ sg : Nat} {cd : Nat → Int} {n n1 : Nat} (h : h_tdo I J hd sh gv to_ sg cd n) (e : n1 = n + 1) (hc : cd n < 60) (e1 : ∀ k : Nat, J1 hd k = J hd k) (e2 : ∀ k : Nat, J1 sh k = J sh k) (e3 : ∀ k : Nat, J1 gv k = J gv k) : h_tdo I J1 hd sh gv to_ sg cd n1 := by
  intro k hk
  obtain ⟨a1, a2, a3⟩ := h k hk
  rw [e1, e2, e3]
  exact ⟨q_lst_n a1 e (by omega), q_lst_n a2 e (by omega), q_lst_n a3 e (by omega)⟩
theorem h_tdo.y {I J J1 : tI} {hd sh gv to_ sg : Nat} {cd : Nat → Int} {n n1 x : Nat} {a b : Int32} (h : h_tdo I J hd sh gv to_ sg cd n) (e : n1 = n + 1) (hc : cd n = 60 + x) (ea : a = I to_ n) (eb : b = I sg n) (e1 : ∀ k : Nat, J1 hd k = if k = x then a else J hd k) (e2 : ∀ k : Nat, J1 sh k = if k = x then b else J sh k) (e3 : ∀ k : Nat, J1 gv k = if k = x then J hd x else J gv k) : h_tdo I J1 hd sh gv to_ sg cd n1 := by
  intro k hk
  obtain ⟨a1, a2, a3⟩ := h k hk
  rw [e1, e2, e3]
  by_cases hx : k = x
  · subst hx
    rw [if_pos rfl, if_pos rfl, if_pos rfl]
    exact ⟨q_lst_y e hc ea, q_lst_y e hc eb, q_lst_y (v := fun i => q_lst cd (I to_) (60 + k) (I hd k) i) e hc a1⟩
  · rw [if_neg hx, if_neg hx, if_neg hx]
    exact ⟨q_lst_n a1 e (by omega), q_lst_n a2 e (by omega), q_lst_n a3 e (by omega)⟩
theorem h_tdo.c {I J J1 : tI} {hd sh gv to_ sg : Nat} {cd : Nat → Int} {n : Nat} (h : h_tdo I J hd sh gv to_ sg cd n) (e1 : ∀ k : Nat, J1 hd k = J hd k) (e2 : ∀ k : Nat, J1 sh k = J sh k) (e3 : ∀ k : Nat, J1 gv k = J gv k) : h_tdo I J1 hd sh gv to_ sg cd n := by
  intro k hk
  rw [e1, e2, e3]
  exact h k hk
/-- what is told of the players: the class -/
def h_pdo (z : tZ) (I J : tI) (pl to_ : Nat) (nb : Int) (cd : Nat → Int) (n : Nat) : Prop := ∀ p : Nat, (p : Int) < nb → ∀ b : Nat, z.R pl p = some b → J b 0 = q_lst cd (I to_) p (I b 0) n
theorem h_pdo.n {z : tZ} {I J J1 : tI} {pl to_ : Nat} {nb : Int} {cd : Nat → Int} {n n1 : Nat} (h : h_pdo z I J pl to_ nb cd n) (e : n1 = n + 1) (hc : 60 ≤ cd n) (h60 : nb ≤ 60) (hR : h_R z) (tp : z.ty pl = 101) (e1 : ∀ b : Nat, z.ty b = 7 → J1 b 0 = J b 0) : h_pdo z I J1 pl to_ nb cd n1 := by
  intro p hp b hb
  have tb : z.ty b = 7 := hR.opt tp (rfl : h_rs 101 _ = some (7, true)) (by rw [so_101]; show p < 60; omega) hb
  rw [e1 b tb]
  exact q_lst_n (h p hp b hb) e (by omega)
theorem h_pdo.y {z : tZ} {I J J1 : tI} {pl to_ : Nat} {nb : Int} {cd : Nat → Int} {n n1 q c : Nat} {a : Int32} (h : h_pdo z I J pl to_ nb cd n) (e : n1 = n + 1) (hc : cd n = q) (hq : z.R pl q = some c) (hdi : ∀ q q2 b : Nat, z.R pl q = some b → z.R pl q2 = some b → q = q2) (ea : a = I to_ n) (e1 : J1 = h_up J c 0 a) : h_pdo z I J1 pl to_ nb cd n1 := by
  intro p hp b hb
  by_cases hbc : b = c
  · subst hbc
    have hpq := hdi p q b hb hq
    rw [h_n0 e1]
    exact q_lst_y e (by omega) ea
  · have hpq : p ≠ q := fun hh => hbc (by rw [hh, hq] at hb; exact (Option.some.inj hb).symm)
    rw [show J1 b 0 = J b 0 by rw [e1, h_up_ne hbc]]
    exact q_lst_n (h p hp b hb) e (by omega)
theorem h_pdo.c {z : tZ} {I J J1 : tI} {pl to_ : Nat} {nb : Int} {cd : Nat → Int} {n : Nat} (h : h_pdo z I J pl to_ nb cd n) (h60 : nb ≤ 60) (hR : h_R z) (tp : z.ty pl = 101) (e1 : ∀ b : Nat, z.ty b = 7 → J1 b 0 = J b 0) : h_pdo z I J1 pl to_ nb cd n := by
  intro p hp b hb
  have tb : z.ty b = 7 := hR.opt tp (rfl : h_rs 101 _ = some (7, true)) (by rw [so_101]; show p < 60; omega) hb
  rw [e1 b tb]
  exact h p hp b hb
/-- the reference -/
def h_mdo (I J : tI) (cb mt : Nat) (cd : Nat → Int) (n : Nat) : Prop := ∀ p : Nat, p < 60 → J cb p = q_lst cd (I mt) p (I cb p) n
theorem h_mdo.n {I J J1 : tI} {cb mt : Nat} {cd : Nat → Int} {n n1 : Nat} (h : h_mdo I J cb mt cd n) (e : n1 = n + 1) (hc : 60 ≤ cd n) (e1 : ∀ k : Nat, J1 cb k = J cb k) : h_mdo I J1 cb mt cd n1 := by
  intro p hp
  rw [e1]
  exact q_lst_n (h p hp) e (by omega)
theorem h_mdo.y {I J J1 : tI} {cb mt q : Nat} {cd : Nat → Int} {n n1 : Nat} {a : Int32} (h : h_mdo I J cb mt cd n) (e : n1 = n + 1) (hc : cd n = q) (ea : a = I mt n) (e1 : ∀ k : Nat, J1 cb k = if k = q then a else J cb k) : h_mdo I J1 cb mt cd n1 := by
  intro p hp
  rw [e1]
  by_cases hpq : p = q
  · rw [if_pos hpq]
    exact q_lst_y e (by omega) ea
  · rw [if_neg hpq]
    exact q_lst_n (h p hp) e (by omega)
theorem h_mdo.c {I J J1 : tI} {cb mt : Nat} {cd : Nat → Int} {n : Nat} (h : h_mdo I J cb mt cd n) (e1 : ∀ k : Nat, J1 cb k = J cb k) : h_mdo I J1 cb mt cd n := by
  intro p hp
  rw [e1]
  exact h p hp
/-- the reference's turns: the giver is told -/
def h_tdm (I J : tI) (hd sh gv to_ sg fr : Nat) (cd : Nat → Int) (n : Nat) : Prop := ∀ k : Nat, k < 80 → J hd k = q_lst cd (I to_) (60 + k) (I hd k) n ∧ J sh k = q_lst cd (I sg) (60 + k) (I sh k) n ∧ J gv k = q_lst cd (I fr) (60 + k) (I gv k) n
theorem h_tdm.n {I J J1 : tI} {hd sh gv to_ sg fr : Nat} {cd : Nat → Int} {n n1 : Nat} (h : h_tdm I J hd sh gv to_ sg fr cd n) (e : n1 = n + 1) (hc : cd n < 60) (e1 : ∀ k : Nat, J1 hd k = J hd k) (e2 : ∀ k : Nat, J1 sh k = J sh k) (e3 : ∀ k : Nat, J1 gv k = J gv k) : h_tdm I J1 hd sh gv to_ sg fr cd n1 := by
  intro k hk
  obtain ⟨a1, a2, a3⟩ := h k hk
  rw [e1, e2, e3]
  exact ⟨q_lst_n a1 e (by omega), q_lst_n a2 e (by omega), q_lst_n a3 e (by omega)⟩
theorem h_tdm.y {I J J1 : tI} {hd sh gv to_ sg fr : Nat} {cd : Nat → Int} {n n1 x : Nat} {a b c : Int32} (h : h_tdm I J hd sh gv to_ sg fr cd n) (e : n1 = n + 1) (hc : cd n = 60 + x) (ea : a = I to_ n) (eb : b = I sg n) (ec : c = I fr n) (e1 : ∀ k : Nat, J1 hd k = if k = x then a else J hd k) (e2 : ∀ k : Nat, J1 sh k = if k = x then b else J sh k) (e3 : ∀ k : Nat, J1 gv k = if k = x then c else J gv k) : h_tdm I J1 hd sh gv to_ sg fr cd n1 := by
  intro k hk
  obtain ⟨a1, a2, a3⟩ := h k hk
  rw [e1, e2, e3]
  by_cases hx : k = x
  · subst hx
    rw [if_pos rfl, if_pos rfl, if_pos rfl]
    exact ⟨q_lst_y e hc ea, q_lst_y e hc eb, q_lst_y e hc ec⟩
  · rw [if_neg hx, if_neg hx, if_neg hx]
    exact ⟨q_lst_n a1 e (by omega), q_lst_n a2 e (by omega), q_lst_n a3 e (by omega)⟩
theorem h_tdm.c {I J J1 : tI} {hd sh gv to_ sg fr : Nat} {cd : Nat → Int} {n : Nat} (h : h_tdm I J hd sh gv to_ sg fr cd n) (e1 : ∀ k : Nat, J1 hd k = J hd k) (e2 : ∀ k : Nat, J1 sh k = J sh k) (e3 : ∀ k : Nat, J1 gv k = J gv k) : h_tdm I J1 hd sh gv to_ sg fr cd n := by
  intro k hk
  rw [e1, e2, e3]
  exact h k hk
theorem h_pdo.fr {z : tZ} {I I2 J : tI} {pl to_ : Nat} {nb : Int} {cd : Nat → Int} {n : Nat} (hnq : ∀ p : Nat, (p : Int) < nb → z.R pl p ≠ none) (h60 : nb ≤ 60) (hR : h_R z) (tp : z.ty pl = 101) (et : I2 to_ = I to_) (e1 : ∀ b : Nat, z.ty b = 7 → I2 b 0 = I b 0) (h : h_pdo z I2 J pl to_ nb cd n) : h_pdo z I J pl to_ nb cd n := by
  intro p hp b hb
  have tb : z.ty b = 7 := hR.opt tp (rfl : h_rs 101 _ = some (7, true)) (by rw [so_101]; show p < 60; omega) hb
  have h1 := h p hp b hb
  rw [et, e1 b tb] at h1
  exact h1
theorem h_tdo.fr {I I2 J : tI} {hd sh gv to_ sg : Nat} {cd : Nat → Int} {n : Nat} (e1 : I2 hd = I hd) (e2 : I2 sh = I sh) (e3 : I2 gv = I gv) (e4 : I2 to_ = I to_) (e5 : I2 sg = I sg) (h : h_tdo I2 J hd sh gv to_ sg cd n) : h_tdo I J hd sh gv to_ sg cd n := by
  intro k hk
  have h1 := h k hk
  rw [e1, e2, e3, e4, e5] at h1
  exact h1
theorem h_F_no2 {z : tZ} {I I1 : tI} (h : h_F [(2, 0), (2, 1), (2, 2), (2, 3)] z I I1) {a k : Nat} (ha : z.ty a ≠ 2) : I1 a k = I a k := h a k (by
  unfold h_m
  simp [Ne.symm ha])

