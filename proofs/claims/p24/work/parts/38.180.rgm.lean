/-! rings of the reference -/
def m_ctp (z : tZ) (I : tI) (mo : Nat) (h : Int) (p : Nat) : Int32 := q_cn2 (I (h_ad z mo 14) p) (I (h_ad z mo 15) p) (I (h_ad z mo 16) p) (I (h_ad z mo 17) p) (I (h_ad z mo 18) p) (I (h_ad z mo 20) p) (I (h_ad z mo 21) p) (I (h_ad z mo 22) p) (I mo 12) (I mo 12) h
def m_pyp (z : tZ) (I : tI) (mo : Nat) (p : Nat) : Int32 := q_pay (I (h_ad z mo 14) p) (I (h_ad z mo 15) p) (I (h_ad z mo 16) p) (I (h_ad z mo 17) p) (I (h_ad z mo 18) p) (I mo 12)
def m_L (z : tZ) (I : tI) (mo : Nat) (u : Nat → Int) (c : Int) (o i : Nat) : Prop := r_lg u (m_many z I mo c (I mo 12)).toInt (m_cnt z I mo c (I mo 12) (u 6) + m_ctp z I mo (u 6) i - m_ctp z I mo (u 6) o) (m_pyp z I mo i) (m_pyp z I mo o)
def m_w (z : tZ) (I : tI) (mo : Nat) (c : Int) (p : Nat) : Int32 := I (h_ad z mo 38) (140 * c + (p : Int)).toNat
noncomputable def m_G (z : tZ) (I : tI) (mo : Nat) (u : Nat → Int) : Int → Nat → Nat → Int := r_g (m_L z I mo u) (m_w z I mo)
/-- who is signed is under contract now -/
def g_un (z : tZ) (I : tI) (mo : Nat) : Prop := ∀ p : Nat, (p : Int) < (I mo 13).toInt → (I (h_ad z mo 14) p).toInt ≠ -1 → q_un2 (I (h_ad z mo 14) p) (I (h_ad z mo 15) p) (I (h_ad z mo 16) p) (I (h_ad z mo 20) p) (I (h_ad z mo 21) p) (I mo 12)
/-- what the search rests on -/
def m_pre (z : tZ) (I : tI) (mo : Nat) (u : Nat → Int) : Prop := h_r12 (I (h_ad z mo 11)) (I (h_ad z mo 10)) (I mo 12).toInt u ∧ q_okb u ∧ (∀ p : Nat, (p : Int) < (I mo 13).toInt → (q_pay (I (h_ad z mo 14) p) (I (h_ad z mo 15) p) (I (h_ad z mo 16) p) (I (h_ad z mo 17) p) (I (h_ad z mo 18) p) (I mo 12)).toInt ≤ 1000000) ∧ (∀ k : Nat, 0 ≤ (I (h_ad z mo 38) k).toInt ∧ (I (h_ad z mo 38) k).toInt ≤ 9999) ∧ g_un z I mo
/-- the best so far -/
def m_rs (z : tZ) (I : tI) (mo : Nat) (s : tS) : Prop := (I mo 44).toInt = s.1 ∧ (I mo 45).toInt = (s.2.length : Int) ∧ ∀ i : Nat, i < s.2.length → (I (h_ad z mo 39) i).toInt = (s.2.getD i (0, 0)).1 ∧ (I (h_ad z mo 40) i).toInt = (((s.2.getD i (0, 0)).2 : Nat) : Int)
theorem m_rs.F {M : List (Nat × Nat)} {z : tZ} {I I1 : tI} {mo : Nat} {s : tS} (h : m_rs z I mo s) (hR : h_R z) (tmo : z.ty mo = 13) (f : h_F M z I I1) (m1 : h_m M 13 44 = false) (m2 : h_m M 13 45 = false) (m3 : ∀ k, h_m M 1339 k = false) (m4 : ∀ k, h_m M 1340 k = false) : m_rs z I1 mo s := by
  have t3 := (hR.ad tmo (rfl : h_rs 13 39 = some (1339, false)) (by decide)).2
  have t4 := (hR.ad tmo (rfl : h_rs 13 40 = some (1340, false)) (by decide)).2
  unfold m_rs
  rw [f.at tmo m1, f.at tmo m2]
  exact ⟨h.1, h.2.1, fun i hi => by rw [f.at t3 (m3 i), f.at t4 (m4 i)]; exact h.2.2 i hi⟩
/-- the search writes nothing of what it rests on -/
def r_mM (M : List (Nat × Nat)) : Bool := M.all (fun q => decide (1339 ≤ q.1) || (q.1 == 13 && (q.2 == 44 || q.2 == 45 || q.2 == 41)))
theorem r_mM_no {M : List (Nat × Nat)} (hM : r_mM M = true) {t k : Nat} (h : (t < 1339 ∧ t ≠ 13) ∨ (t = 13 ∧ k < 41)) : h_m M t k = false := by
  rw [Bool.eq_false_iff]
  intro h1
  unfold h_m at h1
  rw [List.any_eq_true] at h1
  obtain ⟨q, hq, h3⟩ := h1
  rw [Bool.and_eq_true] at h3
  have h4 := List.all_eq_true.mp hM q hq
  have e1 : q.1 = t := by simpa using h3.1
  have e2 : q.2 = 999 ∨ q.2 = k := by simpa using h3.2
  have h5 : 1339 ≤ q.1 ∨ (q.1 = 13 ∧ ((q.2 = 44 ∨ q.2 = 45) ∨ q.2 = 41)) := by simpa using h4
  omega
theorem m_F {M : List (Nat × Nat)} {z : tZ} {I I1 : tI} {mo : Nat} (hR : h_R z) (tmo : z.ty mo = 13) (f : h_F M z I I1) (hM : r_mM M = true) : ∀ j tt : Nat, h_rs 13 j = some (tt, false) → j < h_len (h_so 13) → tt < 1339 → tt ≠ 13 → I1 (h_ad z mo j) = I (h_ad z mo j) := fun _ _ hb hk h1 h2 => funext fun _ => f.at (hR.ad tmo hb hk).2 (r_mM_no hM (Or.inl ⟨h1, h2⟩))
theorem m_G_F {M : List (Nat × Nat)} {z : tZ} {I I1 : tI} {mo : Nat} (hR : h_R z) (tmo : z.ty mo = 13) (f : h_F M z I I1) (hM : r_mM M = true) (u : Nat → Int) : m_G z I1 mo u = m_G z I mo u := by
  have e := m_F hR tmo f hM
  have e12 : I1 mo 12 = I mo 12 := f.at tmo (r_mM_no hM (Or.inr ⟨rfl, by decide⟩))
  have e13 : I1 mo 13 = I mo 13 := f.at tmo (r_mM_no hM (Or.inr ⟨rfl, by decide⟩))
  unfold m_G m_L m_w m_ctp m_pyp m_many m_g m_cnt m_f
  rw [e12, e13, e 14 1314 rfl (by decide) (by decide) (by decide), e 15 1315 rfl (by decide) (by decide) (by decide), e 16 1316 rfl (by decide) (by decide) (by decide), e 17 1317 rfl (by decide) (by decide) (by decide), e 18 1318 rfl (by decide) (by decide) (by decide), e 20 1320 rfl (by decide) (by decide) (by decide), e 21 1321 rfl (by decide) (by decide) (by decide), e 22 1322 rfl (by decide) (by decide) (by decide), e 23 1323 rfl (by decide) (by decide) (by decide), e 38 1338 rfl (by decide) (by decide) (by decide)]
theorem m_pre.F {M : List (Nat × Nat)} {z : tZ} {I I1 : tI} {mo : Nat} {u : Nat → Int} (h : m_pre z I mo u) (hR : h_R z) (tmo : z.ty mo = 13) (f : h_F M z I I1) (hM : r_mM M = true) : m_pre z I1 mo u := by
  have e := m_F hR tmo f hM
  have e12 : I1 mo 12 = I mo 12 := f.at tmo (r_mM_no hM (Or.inr ⟨rfl, by decide⟩))
  have e13 : I1 mo 13 = I mo 13 := f.at tmo (r_mM_no hM (Or.inr ⟨rfl, by decide⟩))
  unfold m_pre g_un
  rw [e12, e13, e 10 1310 rfl (by decide) (by decide) (by decide), e 11 1311 rfl (by decide) (by decide) (by decide), e 14 1314 rfl (by decide) (by decide) (by decide), e 15 1315 rfl (by decide) (by decide) (by decide), e 16 1316 rfl (by decide) (by decide) (by decide), e 17 1317 rfl (by decide) (by decide) (by decide), e 18 1318 rfl (by decide) (by decide) (by decide), e 20 1320 rfl (by decide) (by decide) (by decide), e 21 1321 rfl (by decide) (by decide) (by decide), e 38 1338 rfl (by decide) (by decide) (by decide)]
  exact h
theorem q_hunI {n h v d : Int32} {k : Int} (ev : v = n * h) (ed : d = v / 100) (hk : h.toInt = k) (h0 : 0 ≤ n.toInt) (hn : n.toInt ≤ 1000000) (k0 : 0 ≤ k) (k1 : k ≤ 300) : d.toInt = n.toInt * k / 100 ∧ 0 ≤ d.toInt ∧ d.toInt ≤ 3000000 := by
  have hb := q_mulb h0 hn k0 k1
  have hv : v.toInt = n.toInt * k := xi_mul ev rfl hk (by omega) (by omega)
  have hd : d.toInt = n.toInt * k / 100 := (xi_div ed (by omega) (by decide : (100 : Int32).toInt = 100) (by decide)).trans (by rw [hv])
  exact ⟨hd, by omega, by omega⟩
theorem r_g_le {L : Int → Nat → Nat → Prop} {w : Int → Nat → Int32} {c : Int} {o i : Nat} (h : 0 < (w c i - w c o).toInt) : r_g L w c o i ≤ (w c i - w c o).toInt := by
  by_cases hL : L c o i
  · rw [r_g_y h hL]
    exact Int.le_refl _
  · rw [r_g_n (Or.inr hL)]
    omega
theorem r_st2_n {g : Int → Nat → Nat → Int} {a b : Int} {p q : Nat} {s : tS} (h : g a p q ≤ 0 ∨ g b q p ≤ 0 ∨ g a p q + g b q p ≤ s.1) : r_st2 g a b p q s = s := if_neg (fun k => by omega)
theorem r_st2_y {g : Int → Nat → Nat → Int} {a b : Int} {p q : Nat} {s : tS} {x y : Int} (h1 : g a p q = x) (h2 : g b q p = y) (x0 : 0 < x) (y0 : 0 < y) (h : s.1 < x + y) : r_st2 g a b p q s = (x + y, [(a, p), (b, q)]) := by
  unfold r_st2
  rw [h1, h2]
  exact if_pos ⟨x0, y0, h⟩
theorem r_st3_n {g : Int → Nat → Nat → Int} {a b c : Int} {p q r : Nat} {s : tS} (h : g a p r ≤ 0 ∨ g b q p ≤ 0 ∨ g c r q ≤ 0 ∨ g a p r + g b q p + g c r q ≤ s.1) : r_st3 g a b c p q r s = s := if_neg (fun k => by omega)
theorem r_st3_y {g : Int → Nat → Nat → Int} {a b c : Int} {p q r : Nat} {s : tS} {x y w : Int} (h1 : g a p r = x) (h2 : g b q p = y) (h3 : g c r q = w) (x0 : 0 < x) (y0 : 0 < y) (w0 : 0 < w) (h : s.1 < x + y + w) : r_st3 g a b c p q r s = (x + y + w, [(a, p), (b, q), (c, r)]) := by
  unfold r_st3
  rw [h1, h2, h3]
  exact if_pos ⟨x0, y0, w0, h⟩

