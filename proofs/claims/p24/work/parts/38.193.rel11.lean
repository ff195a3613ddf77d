/-! rings: worths are small, who is signed is under contract, what was told -/
theorem q_ct_le {P : Nat → Bool} : ∀ n : Nat, q_ct P n ≤ n := by
  intro n
  induction n with
  | zero => exact Nat.le_refl _
  | succ n ih =>
    cases hp : P n with
    | true => rw [q_ct_y hp]; omega
    | false => rw [q_ct_n hp]; omega
def h_wbd (z : tZ) (I : tI) (mo : Nat) : Prop := ∀ k : Nat, 0 ≤ (I (h_ad z mo 38) k).toInt ∧ (I (h_ad z mo 38) k).toInt ≤ 9999
theorem h_wbd.s {z : tZ} {I1 I2 : tI} {mo k0 : Nat} {n : Int32} (W : h_wbd z I1 mo) (hn : 0 ≤ n.toInt ∧ n.toInt ≤ 9999) (e : I2 (h_ad z mo 38) k0 = n) (h : ∀ k : Nat, k ≠ k0 → I2 (h_ad z mo 38) k = I1 (h_ad z mo 38) k) : h_wbd z I2 mo := fun k => by
  by_cases q : k = k0
  · rw [q, e]
    exact hn
  · rw [h k q]
    exact W k
theorem h_wbd.c {z z1 : tZ} {I I1 : tI} {mo : Nat} (W : h_wbd z I mo) (a : h_ad z1 mo 38 = h_ad z mo 38) (e : I1 (h_ad z mo 38) = I (h_ad z mo 38)) : h_wbd z1 I1 mo := by
  unfold h_wbd
  rw [a, e]
  exact W
theorem g_un.k {z z1 : tZ} {I1 I2 : tI} {mo : Nat} (U : g_un z I1 mo) (h : ∀ p : Nat, (p : Int) < (I2 mo 13).toInt → (I2 (h_ad z1 mo 14) p).toInt ≠ -1 → ((p : Int) < (I1 mo 13).toInt ∧ (I1 (h_ad z mo 14) p).toInt ≠ -1 ∧ I2 (h_ad z1 mo 15) p = I1 (h_ad z mo 15) p ∧ I2 (h_ad z1 mo 16) p = I1 (h_ad z mo 16) p ∧ I2 (h_ad z1 mo 20) p = I1 (h_ad z mo 20) p ∧ I2 (h_ad z1 mo 21) p = I1 (h_ad z mo 21) p ∧ I2 mo 12 = I1 mo 12) ∨ q_un2 (I2 (h_ad z1 mo 14) p) (I2 (h_ad z1 mo 15) p) (I2 (h_ad z1 mo 16) p) (I2 (h_ad z1 mo 20) p) (I2 (h_ad z1 mo 21) p) (I2 mo 12)) : g_un z1 I2 mo := fun p hp hc => by
  rcases h p hp hc with ⟨a1, a2, a3, a4, a5, a6, a7⟩ | h9
  · rw [a3, a4, a5, a6, a7]
    obtain ⟨b1, b2, b3, b4⟩ := U p a1 a2
    exact ⟨hc, b2, b3, b4⟩
  · exact h9
def g_tld (z : tZ) (I : tI) (cp mo : Nat) : Prop := I (h_ad z cp 6) 10 = I mo 41 ∧ ∀ k : Nat, (k : Int) < (I mo 41).toInt → I (h_ad z (h_ad z cp 6) 11) k = I (h_ad z mo 46) k ∧ I (h_ad z (h_ad z cp 6) 12) k = I (h_ad z mo 47) k
theorem g_tld.c {z z1 : tZ} {I I1 : tI} {cp mo : Nat} (N : g_tld z I cp mo) (a1 : h_ad z1 cp 6 = h_ad z cp 6) (a2 : h_ad z1 (h_ad z cp 6) 11 = h_ad z (h_ad z cp 6) 11) (a3 : h_ad z1 (h_ad z cp 6) 12 = h_ad z (h_ad z cp 6) 12) (a4 : h_ad z1 mo 46 = h_ad z mo 46) (a5 : h_ad z1 mo 47 = h_ad z mo 47) (e0 : I1 (h_ad z cp 6) 10 = I (h_ad z cp 6) 10) (e1 : I1 (h_ad z (h_ad z cp 6) 11) = I (h_ad z (h_ad z cp 6) 11)) (e2 : I1 (h_ad z (h_ad z cp 6) 12) = I (h_ad z (h_ad z cp 6) 12)) (e3 : I1 mo 41 = I mo 41) (e4 : I1 (h_ad z mo 46) = I (h_ad z mo 46)) (e5 : I1 (h_ad z mo 47) = I (h_ad z mo 47)) : g_tld z1 I1 cp mo := by
  unfold g_tld
  rw [a1, a2, a3, a4, a5, e0, e1, e2, e3, e4, e5]
  exact N
/-- frames -/
theorem h_wbd.F {M : List (Nat × Nat)} {z : tZ} {I I1 : tI} {mo : Nat} (W : h_wbd z I mo) (hR : h_R z) (tmo : z.ty mo = 13) (f : h_F M z I I1) (m1 : ∀ k, h_m M 1338 k = false) : h_wbd z I1 mo := W.c rfl (funext fun k => f.at (hR.ad tmo (rfl : h_rs 13 38 = some (1338, false)) (by decide)).2 (m1 k))
theorem h_wbd.X {M : List (Nat × Nat)} {MR : List Nat} {z z1 : tZ} {I I1 : tI} {L L1 : tL} {mo : Nat} (W : h_wbd z I mo) (hR : h_R z) (tmo : z.ty mo = 13) (x : h_X M MR none z I L z1 I1 L1) (mR13 : MR.contains 13 = false) (m1 : ∀ k, h_m M 1338 k = false) : h_wbd z1 I1 mo := by
  have no : ∀ b : Nat, some b ≠ none := fun b h9 => by cases h9
  exact W.c (x.ad hR tmo (by decide) mR13 (rfl : h_rs 13 38 = some (1338, false)) (by decide)) (funext fun k => x.I (hR.ad tmo (rfl : h_rs 13 38 = some (1338, false)) (by decide)).2 (by decide) (no _) (m1 k))
theorem g_un.F {M : List (Nat × Nat)} {z : tZ} {I I1 : tI} {mo : Nat} (U : g_un z I mo) (hR : h_R z) (tmo : z.ty mo = 13) (f : h_F M z I I1) (m1 : ∀ k, h_m M 1314 k = false) (m2 : ∀ k, h_m M 1315 k = false) (m3 : ∀ k, h_m M 1316 k = false) (m4 : ∀ k, h_m M 1320 k = false) (m5 : ∀ k, h_m M 1321 k = false) (m6 : h_m M 13 12 = false) (m7 : h_m M 13 13 = false) : g_un z I1 mo := by
  have ad := fun (j tt : Nat) (hb : h_rs 13 j = some (tt, false)) (hk : j < h_len (h_so 13)) (hm : ∀ k, h_m M tt k = false) (p : Nat) => f.at (k := p) (hR.ad tmo hb hk).2 (hm p)
  refine U.k (fun p hp hc => Or.inl ?_)
  rw [f.at tmo m7] at hp
  rw [ad 14 1314 rfl (by decide) m1] at hc
  exact ⟨hp, hc, ad 15 1315 rfl (by decide) m2 p, ad 16 1316 rfl (by decide) m3 p, ad 20 1320 rfl (by decide) m4 p, ad 21 1321 rfl (by decide) m5 p, f.at tmo m6⟩
theorem g_un.X {M : List (Nat × Nat)} {MR : List Nat} {z z1 : tZ} {I I1 : tI} {L L1 : tL} {mo : Nat} (U : g_un z I mo) (hR : h_R z) (tmo : z.ty mo = 13) (x : h_X M MR none z I L z1 I1 L1) (mR13 : MR.contains 13 = false) (m1 : ∀ k, h_m M 1314 k = false) (m2 : ∀ k, h_m M 1315 k = false) (m3 : ∀ k, h_m M 1316 k = false) (m4 : ∀ k, h_m M 1320 k = false) (m5 : ∀ k, h_m M 1321 k = false) (m6 : h_m M 13 12 = false) (m7 : h_m M 13 13 = false) : g_un z1 I1 mo := by
  have no : ∀ b : Nat, some b ≠ none := fun b h9 => by cases h9
  have ad := fun (j tt : Nat) (hb : h_rs 13 j = some (tt, false)) (hk : j < h_len (h_so 13)) (ht : tt ≠ 0) (hm : ∀ k, h_m M tt k = false) (p : Nat) => (congrFun (congrArg I1 (x.ad hR tmo (by decide) mR13 hb hk)) p).trans (x.I (k := p) (hR.ad tmo hb hk).2 ht (no _) (hm p))
  refine U.k (fun p hp hc => Or.inl ?_)
  rw [x.I tmo (by decide) (no _) m7] at hp
  rw [ad 14 1314 rfl (by decide) (by decide) m1] at hc
  exact ⟨hp, hc, ad 15 1315 rfl (by decide) (by decide) m2 p, ad 16 1316 rfl (by decide) (by decide) m3 p, ad 20 1320 rfl (by decide) (by decide) m4 p, ad 21 1321 rfl (by decide) (by decide) m5 p, x.I tmo (by decide) (no _) m6⟩
theorem g_tld.F {M : List (Nat × Nat)} {z : tZ} {I I1 : tI} {cp mo : Nat} (N : g_tld z I cp mo) (hR : h_R z) (tcp : z.ty cp = 12) (tmo : z.ty mo = 13) (f : h_F M z I I1) (m1 : h_m M 8 10 = false) (m2 : ∀ k, h_m M 811 k = false) (m3 : ∀ k, h_m M 812 k = false) (m4 : h_m M 13 41 = false) (m5 : ∀ k, h_m M 1346 k = false) (m6 : ∀ k, h_m M 1347 k = false) : g_tld z I1 cp mo := by
  have trs := (hR.ad tcp (rfl : h_rs 12 6 = some (8, false)) (by decide)).2
  exact N.c rfl rfl rfl rfl rfl (f.at trs m1) (funext fun k => f.at (hR.ad trs (rfl : h_rs 8 11 = some (811, false)) (by decide)).2 (m2 k)) (funext fun k => f.at (hR.ad trs (rfl : h_rs 8 12 = some (812, false)) (by decide)).2 (m3 k)) (f.at tmo m4) (funext fun k => f.at (hR.ad tmo (rfl : h_rs 13 46 = some (1346, false)) (by decide)).2 (m5 k)) (funext fun k => f.at (hR.ad tmo (rfl : h_rs 13 47 = some (1347, false)) (by decide)).2 (m6 k))
theorem g_tld.X {M : List (Nat × Nat)} {MR : List Nat} {z z1 : tZ} {I I1 : tI} {L L1 : tL} {cp mo : Nat} (N : g_tld z I cp mo) (hR : h_R z) (tcp : z.ty cp = 12) (tmo : z.ty mo = 13) (x : h_X M MR none z I L z1 I1 L1) (mR8 : MR.contains 8 = false) (mR12 : MR.contains 12 = false) (mR13 : MR.contains 13 = false) (m1 : h_m M 8 10 = false) (m2 : ∀ k, h_m M 811 k = false) (m3 : ∀ k, h_m M 812 k = false) (m4 : h_m M 13 41 = false) (m5 : ∀ k, h_m M 1346 k = false) (m6 : ∀ k, h_m M 1347 k = false) : g_tld z1 I1 cp mo := by
  have no : ∀ b : Nat, some b ≠ none := fun b h9 => by cases h9
  have trs := (hR.ad tcp (rfl : h_rs 12 6 = some (8, false)) (by decide)).2
  exact N.c (x.ad hR tcp (by decide) mR12 (rfl : h_rs 12 6 = some (8, false)) (by decide)) (x.ad hR trs (by decide) mR8 (rfl : h_rs 8 11 = some (811, false)) (by decide)) (x.ad hR trs (by decide) mR8 (rfl : h_rs 8 12 = some (812, false)) (by decide)) (x.ad hR tmo (by decide) mR13 (rfl : h_rs 13 46 = some (1346, false)) (by decide)) (x.ad hR tmo (by decide) mR13 (rfl : h_rs 13 47 = some (1347, false)) (by decide)) (x.I trs (by decide) (no _) m1) (funext fun k => x.I (hR.ad trs (rfl : h_rs 8 11 = some (811, false)) (by decide)).2 (by decide) (no _) (m2 k)) (funext fun k => x.I (hR.ad trs (rfl : h_rs 8 12 = some (812, false)) (by decide)).2 (by decide) (no _) (m3 k)) (x.I tmo (by decide) (no _) m4) (funext fun k => x.I (hR.ad tmo (rfl : h_rs 13 46 = some (1346, false)) (by decide)).2 (by decide) (no _) (m5 k)) (funext fun k => x.I (hR.ad tmo (rfl : h_rs 13 47 = some (1347, false)) (by decide)).2 (by decide) (no _) (m6 k))
/-- beginning -/
theorem h_wbd.init {z : tZ} {I : tI} {mo : Nat} (H0 : h_0 [(600, 999), (601, 999), (6, 2), (54, 3), (1100, 999), (5, 3), (1310, 999), (1325, 999), (1326, 999), (1328, 999), (62, 9), (13, 9)] z I) (hR : h_R z) (tmo : z.ty mo = 13) : h_wbd z I mo := fun k => by
  rw [show I (h_ad z mo 38) k = 0 from H0.at (hR.ad tmo (rfl : h_rs 13 38 = some (1338, false)) (by decide)).2 (by decide) rfl]
  decide
theorem g_un.init {z : tZ} {I : tI} {mo : Nat} (hm : ∀ k : Nat, k ≠ 9 → I mo k = 0) : g_un z I mo := fun p hp _ => by
  rw [hm 13 (by decide), show (0 : Int32).toInt = 0 by decide] at hp
  omega
theorem g_tld.init {z : tZ} {I : tI} {cp mo : Nat} (H0 : h_0 [(600, 999), (601, 999), (6, 2), (54, 3), (1100, 999), (5, 3), (1310, 999), (1325, 999), (1326, 999), (1328, 999), (62, 9), (13, 9)] z I) (hR : h_R z) (tcp : z.ty cp = 12) (hm : ∀ k : Nat, k ≠ 9 → I mo k = 0) : g_tld z I cp mo := by
  have trs := (hR.ad tcp (rfl : h_rs 12 6 = some (8, false)) (by decide)).2
  unfold g_tld
  rw [show I (h_ad z cp 6) 10 = 0 from H0.at trs (by decide) rfl, hm 41 (by decide)]
  exact ⟨rfl, fun k hk => by rw [show (0 : Int32).toInt = 0 by decide] at hk; omega⟩
theorem g_wb_worth {z : tZ} {I1 I2 : tI} {mo : Nat} {c_t p_t n_t : Int} {n : Int32} {r2 : Int32} (W : h_wbd z I1 mo) (hn : n.toInt = n_t) (q : (¬ (0 ≤ c_t ∧ c_t ≤ 7 ∧ 0 ≤ p_t ∧ p_t ≤ 59 ∧ p_t < (I1 mo 13).toInt ∧ 0 ≤ n_t ∧ n_t ≤ 9999) ∧ r2.toInt = -2 ∧ ∀ k : Nat, I2 (h_ad z mo 38) k = I1 (h_ad z mo 38) k) ∨ ((0 ≤ c_t ∧ c_t ≤ 7 ∧ 0 ≤ p_t ∧ p_t ≤ 59 ∧ p_t < (I1 mo 13).toInt ∧ 0 ≤ n_t ∧ n_t ≤ 9999) ∧ r2 = I1 (h_ad z mo 38) (140 * c_t + p_t).toNat ∧ I2 (h_ad z mo 38) (140 * c_t + p_t).toNat = n ∧ ∀ k : Nat, k ≠ (140 * c_t + p_t).toNat → I2 (h_ad z mo 38) k = I1 (h_ad z mo 38) k)) : h_wbd z I2 mo := by
  rcases q with ⟨q1, q2, q3⟩ | ⟨q1, q2, q3, q4⟩
  · exact W.c rfl (funext q3)
  · exact W.s (by omega) q3 q4
theorem g_wb_worthTurn {z : tZ} {I1 I2 : tI} {mo : Nat} {c_t o_t y_t n_t : Int} {n : Int32} {r2 : Int32} (W : h_wbd z I1 mo) (hn : n.toInt = n_t) (q : (¬ (0 ≤ c_t ∧ c_t ≤ 7 ∧ 0 ≤ o_t ∧ o_t ≤ 7 ∧ 0 ≤ y_t ∧ y_t ≤ 9 ∧ 0 ≤ n_t ∧ n_t ≤ 9999) ∧ r2.toInt = -2 ∧ ∀ k : Nat, I2 (h_ad z mo 38) k = I1 (h_ad z mo 38) k) ∨ ((0 ≤ c_t ∧ c_t ≤ 7 ∧ 0 ≤ o_t ∧ o_t ≤ 7 ∧ 0 ≤ y_t ∧ y_t ≤ 9 ∧ 0 ≤ n_t ∧ n_t ≤ 9999) ∧ r2 = I1 (h_ad z mo 38) (140 * c_t + 60 + 10 * o_t + y_t).toNat ∧ I2 (h_ad z mo 38) (140 * c_t + 60 + 10 * o_t + y_t).toNat = n ∧ ∀ k : Nat, k ≠ (140 * c_t + 60 + 10 * o_t + y_t).toNat → I2 (h_ad z mo 38) k = I1 (h_ad z mo 38) k)) : h_wbd z I2 mo := by
  rcases q with ⟨q1, q2, q3⟩ | ⟨q1, q2, q3, q4⟩
  · exact W.c rfl (funext q3)
  · exact W.s (by omega) q3 q4
theorem g_un_sign {z : tZ} {I I1 I2 : tI} {cp mo : Nat} {r2 : Int32} {p_t c_t y_t n_t u_t q_t h_t : Int} {c y n u q0 h : Int32} {u_ : Nat → Int} (U : g_un z I1 mo) (hR : h_R z) (hI : h_I z I) (tcp : z.ty cp = 12) (tmo : z.ty mo = 13) (G : h_gb z I cp mo) (er : h_er z I I1) (hy : y.toInt = y_t) (hh : h.toInt = h_t) (q : (¬ (0 ≤ p_t ∧ p_t < (I1 mo 13).toInt ∧ 0 ≤ c_t ∧ c_t ≤ 7 ∧ 1 ≤ y_t ∧ y_t ≤ 5 ∧ 0 ≤ n_t ∧ n_t ≤ 20000 ∧ -500 ≤ u_t ∧ u_t ≤ 500 ∧ 0 ≤ q_t ∧ q_t ≤ 100 ∧ (h_t = 0 ∨ 2 ≤ y_t)) ∧ r2.toInt = -2 ∧ I2 = I1) ∨ ((0 ≤ p_t ∧ p_t < (I1 mo 13).toInt ∧ 0 ≤ c_t ∧ c_t ≤ 7 ∧ 1 ≤ y_t ∧ y_t ≤ 5 ∧ 0 ≤ n_t ∧ n_t ≤ 20000 ∧ -500 ≤ u_t ∧ u_t ≤ 500 ∧ 0 ≤ q_t ∧ q_t ≤ 100 ∧ (h_t = 0 ∨ 2 ≤ y_t)) ∧ ∃ f : Int, q_flt ((I1 (h_ad z mo 14) p_t.toNat).toInt ≠ -1) (u_ 1 ≤ (m_many z I1 mo c_t (I1 mo 12)).toInt) (u_ 2 < y_t) (u_ 0 < (m_cnt z I1 mo c_t (I1 mo 12) (u_ 6) + n).toInt ∧ (u_ 3 < n_t ∨ (I1 (h_ad z mo 24) c_t.toNat).toInt ≠ 0)) f ∧ ((f ≠ 0 ∧ r2.toInt = 0 ∧ I2 = I1) ∨ (f = 0 ∧ r2.toInt = 1 ∧ (I2 (h_ad z mo 14) p_t.toNat = c ∧ I2 (h_ad z mo 15) p_t.toNat = I1 mo 12 ∧ I2 (h_ad z mo 16) p_t.toNat = I1 mo 12 + y - 1 ∧ I2 (h_ad z mo 17) p_t.toNat = n ∧ I2 (h_ad z mo 18) p_t.toNat = u ∧ I2 (h_ad z mo 19) p_t.toNat = q0 ∧ I2 (h_ad z mo 20) p_t.toNat = h ∧ I2 (h_ad z mo 21) p_t.toNat = 0) ∧ (∀ k : Nat, k ≠ p_t.toNat → I2 (h_ad z mo 14) k = I1 (h_ad z mo 14) k ∧ I2 (h_ad z mo 15) k = I1 (h_ad z mo 15) k ∧ I2 (h_ad z mo 16) k = I1 (h_ad z mo 16) k ∧ I2 (h_ad z mo 17) k = I1 (h_ad z mo 17) k ∧ I2 (h_ad z mo 18) k = I1 (h_ad z mo 18) k ∧ I2 (h_ad z mo 19) k = I1 (h_ad z mo 19) k ∧ I2 (h_ad z mo 20) k = I1 (h_ad z mo 20) k ∧ I2 (h_ad z mo 21) k = I1 (h_ad z mo 21) k) ∧ ((((I1 (h_ad z mo 24) c_t.toNat).toInt ≠ 0 ∨ u_ 0 < (m_cnt z I1 mo c_t (I1 mo 12) (u_ 6) + n).toInt) ∧ I2 (h_ad z mo 24) c_t.toNat = 1) ∨ ((I1 (h_ad z mo 24) c_t.toNat).toInt = 0 ∧ (m_cnt z I1 mo c_t (I1 mo 12) (u_ 6) + n).toInt ≤ u_ 0 ∧ I2 (h_ad z mo 24) c_t.toNat = 0)) ∧ (∀ k : Nat, k ≠ c_t.toNat → I2 (h_ad z mo 24) k = I1 (h_ad z mo 24) k) ∧ I2 mo 33 = 0)))) (f2 : h_F [(1324, 999), (1314, 999), (1315, 999), (1316, 999), (1317, 999), (1318, 999), (1319, 999), (1320, 999), (1321, 999), (13, 33)] z I1 I2) : g_un z I2 mo := by
  obtain ⟨⟨tcp, tmo⟩, ⟨tbk, ttu, tbg, tdt⟩, ⟨tpl, tdd, tsu⟩, ⟨thd, tsh, tgv, two⟩, ⟨tit, tth, tfr, tto, tsg⟩, ⟨trk, tdr, tod, thv⟩, ⟨tlw, thy, ttb, tww⟩, ⟨tcb, tfi, tla, tpa, tri, tss, thc, tis, thu⟩, ⟨tde, tus, tow, tgi, tgu, tdw, tdx⟩, ⟨tmd, tmf, tmt, tmg⟩⟩ := h_tyB.mk hR tcp tmo
  obtain ⟨gsz, gpl, gdd, gsp, gtu, gmv, grk, gor, glb, gtw, gwp, gpz⟩ := G
  have j13 := hI.rd mo 13 tmo rfl (rfl : h_bd 13 13 = (0, 60))
  have x_mo := er.at tmo (by decide)
  have h12 := hI.rd mo 12 tmo rfl (rfl : h_bd 13 12 = (0, 9))
  rcases q with ⟨q1, q2, q3⟩ | ⟨q1, gl, q2, q3⟩
  · rw [q3]
    exact U
  rcases q3 with ⟨b1, b2, b3⟩ | ⟨b1, b2, b3, b4, b5, b6, b7⟩
  · rw [b3]
    exact U
  have e12 : I2 mo 12 = I1 mo 12 := f2.at tmo rfl
  have e13 : I2 mo 13 = I1 mo 13 := f2.at tmo rfl
  obtain ⟨c1, c2, c3, _, _, _, c7, c8⟩ := b3
  have a1 : (I1 mo 12 + y).toInt = (I1 mo 12).toInt + y_t := xi_add rfl rfl hy (by rw [x_mo]; omega) (by rw [x_mo]; omega)
  have a2 : (I1 mo 12 + y - 1).toInt = (I1 mo 12).toInt + y_t - 1 := xi_sub rfl a1 (by decide) (by rw [x_mo]; omega) (by rw [x_mo]; omega)
  refine U.k (fun p hp hc => ?_)
  by_cases e : p = p_t.toNat
  · refine Or.inr ⟨hc, ?_, ?_, ?_⟩
    · rw [e, c2, e12]
      exact Int.le_refl _
    · rw [e, c3, e12, a2]
      omega
    · rw [e, c3, e12, a2, c7, hh]
      omega
  · obtain ⟨d1, d2, d3, _, _, _, d7, d8⟩ := b4 p e
    exact Or.inl ⟨by rw [← e13]; exact hp, by rw [← d1]; exact hc, d2, d3, d7, d8, e12⟩
theorem g_un_waive {z : tZ} {I I1 I2 : tI} {cp mo : Nat} {r2 : Int32} {p_t : Int} (U : g_un z I1 mo) (hR : h_R z) (hI : h_I z I) (tcp : z.ty cp = 12) (tmo : z.ty mo = 13) (G : h_gb z I cp mo) (er : h_er z I I1) (q : (¬ (0 ≤ p_t ∧ p_t < (I1 mo 13).toInt) ∧ r2.toInt = -2 ∧ I2 = I1) ∨ ((0 ≤ p_t ∧ p_t < (I1 mo 13).toInt) ∧ (I1 (h_ad z mo 14) p_t.toNat).toInt = -1 ∧ r2.toInt = -4 ∧ I2 = I1) ∨ ((0 ≤ p_t ∧ p_t < (I1 mo 13).toInt) ∧ (I1 (h_ad z mo 14) p_t.toNat).toInt ≠ -1 ∧ r2 = q_rel (I1 mo 12).toInt.toNat (q_pr2 (I1 (h_ad z mo 14) p_t.toNat) (I1 (h_ad z mo 15) p_t.toNat) (I1 (h_ad z mo 16) p_t.toNat) (I1 (h_ad z mo 17) p_t.toNat) (I1 (h_ad z mo 18) p_t.toNat) (I1 (h_ad z mo 19) p_t.toNat) (I1 (h_ad z mo 20) p_t.toNat) (I1 (h_ad z mo 21) p_t.toNat)) (10 - (I1 mo 12).toInt.toNat) ∧ (∀ k : Nat, I2 (h_ad z mo 23) (10 * (I1 (h_ad z mo 14) p_t.toNat).toInt.toNat + k) = q_dea (I1 mo 12).toInt.toNat 10 (q_pr2 (I1 (h_ad z mo 14) p_t.toNat) (I1 (h_ad z mo 15) p_t.toNat) (I1 (h_ad z mo 16) p_t.toNat) (I1 (h_ad z mo 17) p_t.toNat) (I1 (h_ad z mo 18) p_t.toNat) (I1 (h_ad z mo 19) p_t.toNat) (I1 (h_ad z mo 20) p_t.toNat) (I1 (h_ad z mo 21) p_t.toNat)) (fun j : Nat => I1 (h_ad z mo 23) (10 * (I1 (h_ad z mo 14) p_t.toNat).toInt.toNat + j)) k) ∧ (∀ k : Nat, k < 10 * (I1 (h_ad z mo 14) p_t.toNat).toInt.toNat → I2 (h_ad z mo 23) k = I1 (h_ad z mo 23) k) ∧ I2 (h_ad z mo 14) p_t.toNat = -1 ∧ (∀ k : Nat, k ≠ p_t.toNat → I2 (h_ad z mo 14) k = I1 (h_ad z mo 14) k) ∧ I2 mo 33 = 0)) (f2 : h_F [(1323, 999), (1314, 999), (13, 33)] z I1 I2) : g_un z I2 mo := by
  obtain ⟨⟨tcp, tmo⟩, ⟨tbk, ttu, tbg, tdt⟩, ⟨tpl, tdd, tsu⟩, ⟨thd, tsh, tgv, two⟩, ⟨tit, tth, tfr, tto, tsg⟩, ⟨trk, tdr, tod, thv⟩, ⟨tlw, thy, ttb, tww⟩, ⟨tcb, tfi, tla, tpa, tri, tss, thc, tis, thu⟩, ⟨tde, tus, tow, tgi, tgu, tdw, tdx⟩, ⟨tmd, tmf, tmt, tmg⟩⟩ := h_tyB.mk hR tcp tmo
  obtain ⟨gsz, gpl, gdd, gsp, gtu, gmv, grk, gor, glb, gtw, gwp, gpz⟩ := G
  have j13 := hI.rd mo 13 tmo rfl (rfl : h_bd 13 13 = (0, 60))
  rcases q with ⟨q1, q2, q3⟩ | ⟨q1, q2, q3, q4⟩ | ⟨q1, q2, q3, q4, q5, q6, q7, q8⟩
  · rw [q3]
    exact U
  · rw [q4]
    exact U
  have e13 : I2 mo 13 = I1 mo 13 := f2.at tmo rfl
  refine U.k (fun p hp hc => Or.inl ?_)
  by_cases e : p = p_t.toNat
  · rw [e, q6] at hc
    exact absurd (by decide) hc
  · exact ⟨by rw [← e13]; exact hp, by rw [← q7 p e]; exact hc, f2.at tfi rfl, f2.at tla rfl, f2.at thc rfl, f2.at tis rfl, f2.at tmo rfl⟩
theorem g_un_choose {z : tZ} {I I1 I2 : tI} {cp mo : Nat} {r2 : Int32} {p_t : Int} (U : g_un z I1 mo) (hR : h_R z) (hI : h_I z I) (tcp : z.ty cp = 12) (tmo : z.ty mo = 13) (G : h_gb z I cp mo) (er : h_er z I I1) (q : (¬ (0 ≤ p_t ∧ p_t < (I1 mo 13).toInt) ∧ r2.toInt = -2 ∧ I2 = I1) ∨ ((0 ≤ p_t ∧ p_t < (I1 mo 13).toInt) ∧ ((I1 (h_ad z mo 14) p_t.toNat).toInt ≠ -1 ∧ ((I1 (h_ad z mo 20) p_t.toNat).toInt ≠ 0 ∧ (I1 (h_ad z mo 21) p_t.toNat).toInt = 0) ∧ (I1 (h_ad z mo 16) p_t.toNat).toInt = (I1 mo 12).toInt + 1) ∧ r2.toInt = 1 ∧ I2 = h_up I1 (h_ad z mo 21) p_t.toNat 1) ∨ ((0 ≤ p_t ∧ p_t < (I1 mo 13).toInt) ∧ ¬ ((I1 (h_ad z mo 14) p_t.toNat).toInt ≠ -1 ∧ ((I1 (h_ad z mo 20) p_t.toNat).toInt ≠ 0 ∧ (I1 (h_ad z mo 21) p_t.toNat).toInt = 0) ∧ (I1 (h_ad z mo 16) p_t.toNat).toInt = (I1 mo 12).toInt + 1) ∧ r2.toInt = -4 ∧ I2 = I1)) (f2 : h_F [(1321, 999)] z I1 I2) : g_un z I2 mo := by
  obtain ⟨⟨tcp, tmo⟩, ⟨tbk, ttu, tbg, tdt⟩, ⟨tpl, tdd, tsu⟩, ⟨thd, tsh, tgv, two⟩, ⟨tit, tth, tfr, tto, tsg⟩, ⟨trk, tdr, tod, thv⟩, ⟨tlw, thy, ttb, tww⟩, ⟨tcb, tfi, tla, tpa, tri, tss, thc, tis, thu⟩, ⟨tde, tus, tow, tgi, tgu, tdw, tdx⟩, ⟨tmd, tmf, tmt, tmg⟩⟩ := h_tyB.mk hR tcp tmo
  obtain ⟨gsz, gpl, gdd, gsp, gtu, gmv, grk, gor, glb, gtw, gwp, gpz⟩ := G
  have j13 := hI.rd mo 13 tmo rfl (rfl : h_bd 13 13 = (0, 60))
  rcases q with ⟨q1, q2, q3⟩ | ⟨q1, q2, q3, q4⟩ | ⟨q1, q2, q3, q4⟩
  · rw [q3]
    exact U
  · have e13 : I2 mo 13 = I1 mo 13 := f2.at tmo rfl
    have e12 : I2 mo 12 = I1 mo 12 := f2.at tmo rfl
    refine U.k (fun p hp hc => ?_)
    have ecb : I2 (h_ad z mo 14) p = I1 (h_ad z mo 14) p := f2.at tcb rfl
    have efi : I2 (h_ad z mo 15) p = I1 (h_ad z mo 15) p := f2.at tfi rfl
    have ela : I2 (h_ad z mo 16) p = I1 (h_ad z mo 16) p := f2.at tla rfl
    have ehc : I2 (h_ad z mo 20) p = I1 (h_ad z mo 20) p := f2.at thc rfl
    rw [e13] at hp
    rw [ecb] at hc
    by_cases e : p = p_t.toNat
    · obtain ⟨b1, b2, b3, b4⟩ := U p hp hc
      right
      rw [ecb, efi, ela, ehc, e12]
      refine ⟨b1, b2, b3, fun k9 => ?_⟩
      have h1 : I2 (h_ad z mo 21) p = 1 := by rw [q4, e]; exact h_up_eq
      rw [h1] at k9
      exact absurd k9.2.2 (by decide)
    · exact Or.inl ⟨hp, hc, efi, ela, ehc, by rw [q4]; exact h_up_at e, e12⟩
  · rw [q4]
    exact U
theorem g_un_deal {z : tZ} {I I1 I2 : tI} {cp mo : Nat} {r2 : Int32} {u_ : Nat → Int} (U : g_un z I1 mo) (hR : h_R z) (hI : h_I z I) (tcp : z.ty cp = 12) (tmo : z.ty mo = 13) (G : h_gb z I cp mo) (er : h_er z I I1) (q : ((I1 mo 33).toInt = 0 ∧ r2.toInt = -4 ∧ I2 = I1) ∨ ((I1 mo 33).toInt ≠ 0 ∧ q_ff (m_ft z I1 mo u_) 8 ≠ 0 ∧ r2.toInt = 0 ∧ I2 = I1) ∨ ((I1 mo 33).toInt ≠ 0 ∧ q_ff (m_ft z I1 mo u_) 8 = 0 ∧ r2 = I1 mo 33 ∧ h_mdo I1 I2 (h_ad z mo 14) (h_ad z mo 36) (fun i : Nat => (I1 (h_ad z mo 34) i).toInt) (I1 mo 33).toInt.toNat ∧ h_tdm I1 I2 (h_ad z mo 25) (h_ad z mo 27) (h_ad z mo 26) (h_ad z mo 36) (h_ad z mo 37) (h_ad z mo 35) (fun i : Nat => (I1 (h_ad z mo 34) i).toInt) (I1 mo 33).toInt.toNat ∧ I2 mo 33 = 0)) (f2 : h_F [(1314, 999), (1325, 999), (1327, 999), (1326, 999), (13, 33)] z I1 I2) : g_un z I2 mo := by
  obtain ⟨⟨tcp, tmo⟩, ⟨tbk, ttu, tbg, tdt⟩, ⟨tpl, tdd, tsu⟩, ⟨thd, tsh, tgv, two⟩, ⟨tit, tth, tfr, tto, tsg⟩, ⟨trk, tdr, tod, thv⟩, ⟨tlw, thy, ttb, tww⟩, ⟨tcb, tfi, tla, tpa, tri, tss, thc, tis, thu⟩, ⟨tde, tus, tow, tgi, tgu, tdw, tdx⟩, ⟨tmd, tmf, tmt, tmg⟩⟩ := h_tyB.mk hR tcp tmo
  obtain ⟨gsz, gpl, gdd, gsp, gtu, gmv, grk, gor, glb, gtw, gwp, gpz⟩ := G
  have j13 := hI.rd mo 13 tmo rfl (rfl : h_bd 13 13 = (0, 60))
  have x_cb := er.at tcb (by decide)
  have x_md := er.at tmd (by decide)
  have x_mo := er.at tmo (by decide)
  rcases q with ⟨q1, q2, q3⟩ | ⟨q1, q2, q3, q4⟩ | ⟨q1, q2, q3, q4, q5, q6⟩
  · rw [q3]
    exact U
  · rw [q4]
    exact U
  have e13 : I2 mo 13 = I1 mo 13 := f2.at tmo rfl
  refine U.k (fun i hi hc => Or.inl ?_)
  rw [e13] at hi
  refine ⟨hi, ?_, f2.at tfi rfl, f2.at tla rfl, f2.at thc rfl, f2.at tis rfl, f2.at tmo rfl⟩
  rw [x_mo] at hi
  have q9 := q4 i (by omega)
  rcases q_lst_c (cd := fun i : Nat => (I1 (h_ad z mo 34) i).toInt) (v := I1 (h_ad z mo 36)) (k := (i : Int)) (old := I1 (h_ad z mo 14) i) (I1 mo 33).toInt.toNat with ⟨e, _⟩ | ⟨j, hj, hcj, e⟩
  · rw [q9, e] at hc
    exact hc
  · rw [x_mo] at hj
    have hcj' : (I (h_ad z mo 34) j).toInt = (i : Int) := by rw [← x_md]; exact hcj
    rcases (gmv.2.2.1 j (by omega)).2 with ⟨_, _, _, _, a5⟩ | ⟨_, a2, a3, _⟩
    · rw [hcj', Int.toNat_natCast] at a5
      rw [x_cb, ← ((gpl.2 i (by omega)).1 (by omega)).1]
      exact a5
    · omega
theorem g_un_player {z : tZ} {I1 I2 : tI} {mo : Nat} {r2 : Int32} (U : g_un z I1 mo) (hR : h_R z) (tmo : z.ty mo = 13) (q : (60 ≤ (I1 mo 13).toInt ∧ r2.toInt = -3 ∧ I2 = I1) ∨ ((I1 mo 13).toInt < 60 ∧ r2.toInt = (I1 mo 13).toInt ∧ (I2 mo 13).toInt = (I1 mo 13).toInt + 1 ∧ (∀ j : Nat, I2 (h_ad z mo 14) j = if j = (I1 mo 13).toInt.toNat then -1 else I1 (h_ad z mo 14) j))) (f2 : h_F [(1314, 999), (13, 13)] z I1 I2) : g_un z I2 mo := by
  have ad := fun (j tt : Nat) (hb : h_rs 13 j = some (tt, false)) (hk : j < h_len (h_so 13)) (hm : ∀ k, h_m [(1314, 999), (13, 13)] tt k = false) (p : Nat) => f2.at (k := p) (hR.ad tmo hb hk).2 (hm p)
  rcases q with ⟨q1, q2, q3⟩ | ⟨q1, q2, q3, q4⟩
  · rw [q3]
    exact U
  refine U.k (fun p hp hc => Or.inl ?_)
  by_cases e : p = (I1 mo 13).toInt.toNat
  · rw [q4, if_pos e] at hc
    exact absurd (by decide) hc
  · rw [q4, if_neg e] at hc
    exact ⟨by omega, hc, ad 15 1315 rfl (by decide) (fun _ => rfl) p, ad 16 1316 rfl (by decide) (fun _ => rfl) p, ad 20 1320 rfl (by decide) (fun _ => rfl) p, ad 21 1321 rfl (by decide) (fun _ => rfl) p, f2.at tmo rfl⟩
theorem g_un_next {z : tZ} {I1 I2 : tI} {mo : Nat} {r2 : Int32} (U : g_un z I1 mo) (hR : h_R z) (tmo : z.ty mo = 13) (q : ((9 ≤ (I1 mo 12).toInt ∨ (I1 mo 31).toInt = 0) ∧ r2.toInt = -4 ∧ I2 = I1) ∨ ((I1 mo 12).toInt ≤ 8 ∧ (I1 mo 31).toInt = 1 ∧ r2.toInt = (I1 mo 12).toInt + 1 ∧ (I2 mo 12).toInt = (I1 mo 12).toInt + 1 ∧ I2 mo 30 = 0 ∧ I2 mo 31 = 0 ∧ I2 mo 33 = 0 ∧ (∀ q0 : Nat, (q0 : Int) < (I1 mo 13).toInt → m_nx I1 I2 (h_ad z mo 14) (h_ad z mo 15) (h_ad z mo 16) (h_ad z mo 20) (h_ad z mo 21) (h_ad z mo 22) q0 (I2 mo 12)) ∧ (∀ q0 : Nat, (I1 mo 13).toInt ≤ (q0 : Int) → I2 (h_ad z mo 22) q0 = I1 (h_ad z mo 22) q0 ∧ I2 (h_ad z mo 14) q0 = I1 (h_ad z mo 14) q0) ∧ ∀ k : Nat, k < 8 → I2 (h_ad z mo 24) k = 0)) (f2 : h_F [(1349, 999), (13, 50), (13, 12), (1322, 999), (1314, 999), (1324, 999), (13, 30), (13, 31), (13, 33)] z I1 I2) : g_un z I2 mo := by
  have ad := fun (j tt : Nat) (hb : h_rs 13 j = some (tt, false)) (hk : j < h_len (h_so 13)) (hm : ∀ k, h_m [(1349, 999), (13, 50), (13, 12), (1322, 999), (1314, 999), (1324, 999), (13, 30), (13, 31), (13, 33)] tt k = false) (p : Nat) => f2.at (k := p) (hR.ad tmo hb hk).2 (hm p)
  rcases q with ⟨q1, q2, q3⟩ | ⟨q1, q2, q3, q4, q5, q6, q7, q8, q9, q10⟩
  · rw [q3]
    exact U
  refine U.k (fun p hp hc => Or.inr ?_)
  rw [show I2 mo 13 = I1 mo 13 from f2.at tmo rfl] at hp
  rcases (q8 p hp).2 with ⟨_, _, d3⟩ | ⟨d1, d2⟩
  · rw [d3] at hc
    exact absurd (by decide) hc
  · rw [d2] at hc ⊢
    rw [ad 15 1315 rfl (by decide) (fun _ => rfl) p, ad 16 1316 rfl (by decide) (fun _ => rfl) p, ad 20 1320 rfl (by decide) (fun _ => rfl) p, ad 21 1321 rfl (by decide) (fun _ => rfl) p]
    exact d1.resolve_left hc
theorem m_many_ct {z : tZ} {I : tI} {mo : Nat} (U : g_un z I mo) (h60 : (I mo 13).toInt ≤ 60) {c : Int} (hc : c ≠ -1) : (m_many z I mo c (I mo 12)).toInt = ((q_ct (q_mc (I (h_ad z mo 14)) c) (I mo 13).toInt.toNat : Nat) : Int) := by
  unfold m_many
  have gen : ∀ n : Nat, n ≤ (I mo 13).toInt.toNat → (q_sums 0 (m_g z I mo c (I mo 12)) n).toInt = ((q_ct (q_mc (I (h_ad z mo 14)) c) n : Nat) : Int) := by
    intro n
    induction n with
    | zero =>
      intro _
      show (0 : Int32).toInt = ((0 : Nat) : Int)
      decide
    | succ n ih =>
      intro hn
      have h1 := ih (by omega)
      have hle := q_ct_le (P := q_mc (I (h_ad z mo 14)) c) n
      show (q_sums 0 (m_g z I mo c (I mo 12)) n + m_g z I mo c (I mo 12) n).toInt = _
      unfold m_g at h1 ⊢
      by_cases hq : (I (h_ad z mo 14) n).toInt = c
      · rw [if_pos ⟨hq, U n (by omega) (by rw [hq]; exact hc)⟩, q_ct_y (q_mc_y hq)]
        exact (xi_add rfl h1 (by decide : (1 : Int32).toInt = 1) (by omega) (by omega)).trans (by omega)
      · rw [if_neg (fun k => hq k.1), q_ct_n (q_mc_n hq), Int32.add_zero]
        exact h1
  exact gen _ (Nat.le_refl _)
/-- both searches are over the same gains -/
theorem g_rg {z : tZ} {I I1 : tI} {cp mo : Nat} {u_ : Nat → Int} (G : h_gb z I cp mo) (hR : h_R z) (hI : h_I z I) (tcp : z.ty cp = 12) (tmo : z.ty mo = 13) (ck : I (h_ad z cp 3) 3 = I mo 12) (er : h_er z I I1) (U : g_un z I mo) : r_all (c_G z I (h_ad z cp 3) u_) (c_cb z I (h_ad z cp 3)) (I mo 13).toInt.toNat = r_all (m_G z I1 mo u_) (I1 (h_ad z mo 14)) (I mo 13).toInt.toNat := by
  obtain ⟨⟨tcp, tmo⟩, ⟨tbk, ttu, tbg, tdt⟩, ⟨tpl, tdd, tsu⟩, ⟨thd, tsh, tgv, two⟩, ⟨tit, tth, tfr, tto, tsg⟩, ⟨trk, tdr, tod, thv⟩, ⟨tlw, thy, ttb, tww⟩, ⟨tcb, tfi, tla, tpa, tri, tss, thc, tis, thu⟩, ⟨tde, tus, tow, tgi, tgu, tdw, tdx⟩, ⟨tmd, tmf, tmt, tmg⟩⟩ := h_tyB.mk hR tcp tmo
  obtain ⟨gsz, gpl, gdd, gsp, gtu, gmv, grk, gor, glb, gtw, gwp, gpz⟩ := G
  have j13 := hI.rd mo 13 tmo rfl (rfl : h_bd 13 13 = (0, 60))
  have x_mo := er.at tmo (by decide)
  have x_cb := er.at tcb (by decide)
  have x_fi := er.at tfi (by decide)
  have x_la := er.at tla (by decide)
  have x_pa := er.at tpa (by decide)
  have x_ri := er.at tri (by decide)
  have x_hc := er.at thc (by decide)
  have x_is := er.at tis (by decide)
  have x_hu := er.at thu (by decide)
  have x_de := er.at tde (by decide)
  have x_ww := er.at tww (by decide)
  have h12 := hI.rd mo 12 tmo rfl (rfl : h_bd 13 12 = (0, 9))
  have eM : m_G z I1 mo u_ = m_G z I mo u_ := by
    unfold m_G m_L m_w m_ctp m_pyp m_many m_g m_cnt m_f
    rw [x_mo, x_cb, x_fi, x_la, x_pa, x_ri, x_hc, x_is, x_hu, x_de, x_ww]
  rw [eM, x_cb]
  have hp := fun (p : Nat) (h : p < (I mo 13).toInt.toNat) => (gpl.2 p (by omega)).1 (by omega)
  have ec : ∀ p : Nat, p < (I mo 13).toInt.toNat → c_cb z I (h_ad z cp 3) p = I (h_ad z mo 14) p := fun p h => (hp p h).1
  refine r_all_c ec (fun c o i c0 c7 ho hi => ?_)
  have ew : ∀ p : Nat, p < (I mo 13).toInt.toNat → c_w z I (h_ad z cp 3) c p = m_w z I mo c p := fun p h => by
    unfold c_w m_w
    rw [(gwp.2 c.toNat p (by omega) (by omega)).1 (by omega), show 140 * c.toNat + p = (140 * c + (p : Int)).toNat by omega]
  have e1 : (m_many z I mo c (I mo 12)).toInt = ((q_ct (q_mc (c_cb z I (h_ad z cp 3)) c) (I (h_ad z cp 3) 2).toInt.toNat : Nat) : Int) := by
    rw [m_many_ct U (by omega) (by omega), gsz, q_ct_c _ (P := q_mc (c_cb z I (h_ad z cp 3)) c) (Q := q_mc (I (h_ad z mo 14)) c) (fun p h => by unfold q_mc; rw [ec p h])]
  have e2 := gpl.cnt (bk := (h_ad z cp 3)) (mo := mo) (by rw [gsz]) j13.2 gdd gsz ck (c := c) (y := I (h_ad z cp 3) 3) ⟨c0, c7⟩ (by rw [ck]; exact h12) (u_ 6)
  have e3 : ∀ p : Nat, p < (I mo 13).toInt.toNat → c_ctp z I (h_ad z cp 3) (u_ 6) p = m_ctp z I mo (u_ 6) p := fun p h => by
    unfold c_ctp m_ctp
    rw [(hp p h).cnt, ck]
  have e4 : ∀ p : Nat, p < (I mo 13).toInt.toNat → c_pyp z I (h_ad z cp 3) p = m_pyp z I mo p := fun p h => by
    unfold c_pyp m_pyp
    rw [(hp p h).pay, ck]
  refine r_g_c (ew i hi) (ew o ho) ?_
  unfold c_L m_L
  rw [e1, e2, e3 i hi, e3 o ho, e4 i hi, e4 o ho, ck]
set_option maxHeartbeats 4000000 in
theorem g_ring2 {z : tZ} {I I1 I2 : tI} {cp mo : Nat} {u_ : Nat → Int} {r1 r2 : Int32} (G : h_gb z I cp mo) (hR : h_R z) (hI : h_I z I) (tcp : z.ty cp = 12) (tmo : z.ty mo = 13) (ck : I (h_ad z cp 3) 3 = I mo 12) (hal : h_ad z (h_ad z cp 6) 0 = (h_ad z cp 3)) (er : h_er z I I1) (N : g_tld z I cp mo) (U : g_un z I mo) (p : ((r_all (c_G z I (h_ad z (h_ad z cp 6) 0) u_) (c_cb z I (h_ad z (h_ad z cp 6) 0)) (I (h_ad z (h_ad z cp 6) 0) 2).toInt.toNat).2 = [] ∧ r1.toInt = -1 ∧ I1 (h_ad z cp 6) 10 = I (h_ad z cp 6) 10 ∧ (∀ k : Nat, I1 (h_ad z (h_ad z cp 6) 11) k = I (h_ad z (h_ad z cp 6) 11) k) ∧ ∀ k : Nat, I1 (h_ad z (h_ad z cp 6) 12) k = I (h_ad z (h_ad z cp 6) 12) k) ∨ ((r_all (c_G z I (h_ad z (h_ad z cp 6) 0) u_) (c_cb z I (h_ad z (h_ad z cp 6) 0)) (I (h_ad z (h_ad z cp 6) 0) 2).toInt.toNat).2 ≠ [] ∧ r1.toInt = (r_all (c_G z I (h_ad z (h_ad z cp 6) 0) u_) (c_cb z I (h_ad z (h_ad z cp 6) 0)) (I (h_ad z (h_ad z cp 6) 0) 2).toInt.toNat).1 ∧ (I1 (h_ad z cp 6) 10).toInt = ((r_all (c_G z I (h_ad z (h_ad z cp 6) 0) u_) (c_cb z I (h_ad z (h_ad z cp 6) 0)) (I (h_ad z (h_ad z cp 6) 0) 2).toInt.toNat).2.length : Int) ∧ ∀ i : Nat, i < (r_all (c_G z I (h_ad z (h_ad z cp 6) 0) u_) (c_cb z I (h_ad z (h_ad z cp 6) 0)) (I (h_ad z (h_ad z cp 6) 0) 2).toInt.toNat).2.length → (I1 (h_ad z (h_ad z cp 6) 11) i).toInt = ((r_all (c_G z I (h_ad z (h_ad z cp 6) 0) u_) (c_cb z I (h_ad z (h_ad z cp 6) 0)) (I (h_ad z (h_ad z cp 6) 0) 2).toInt.toNat).2.getD i (0, 0)).1 ∧ (I1 (h_ad z (h_ad z cp 6) 12) i).toInt = ((((r_all (c_G z I (h_ad z (h_ad z cp 6) 0) u_) (c_cb z I (h_ad z (h_ad z cp 6) 0)) (I (h_ad z (h_ad z cp 6) 0) 2).toInt.toNat).2.getD i (0, 0)).2 : Nat) : Int))) (q : ((r_all (m_G z I1 mo u_) (I1 (h_ad z mo 14)) (I1 mo 13).toInt.toNat).2 = [] ∧ r2.toInt = -1 ∧ I2 mo 41 = I1 mo 41 ∧ (∀ k : Nat, I2 (h_ad z mo 46) k = I1 (h_ad z mo 46) k) ∧ ∀ k : Nat, I2 (h_ad z mo 47) k = I1 (h_ad z mo 47) k) ∨ ((r_all (m_G z I1 mo u_) (I1 (h_ad z mo 14)) (I1 mo 13).toInt.toNat).2 ≠ [] ∧ r2.toInt = (r_all (m_G z I1 mo u_) (I1 (h_ad z mo 14)) (I1 mo 13).toInt.toNat).1 ∧ (I2 mo 41).toInt = ((r_all (m_G z I1 mo u_) (I1 (h_ad z mo 14)) (I1 mo 13).toInt.toNat).2.length : Int) ∧ ∀ i : Nat, i < (r_all (m_G z I1 mo u_) (I1 (h_ad z mo 14)) (I1 mo 13).toInt.toNat).2.length → (I2 (h_ad z mo 46) i).toInt = ((r_all (m_G z I1 mo u_) (I1 (h_ad z mo 14)) (I1 mo 13).toInt.toNat).2.getD i (0, 0)).1 ∧ (I2 (h_ad z mo 47) i).toInt = ((((r_all (m_G z I1 mo u_) (I1 (h_ad z mo 14)) (I1 mo 13).toInt.toNat).2.getD i (0, 0)).2 : Nat) : Int))) (f2 : h_F [(13, 44), (13, 45), (1339, 999), (1340, 999), (1343, 999), (1342, 999), (13, 41), (1346, 999), (1347, 999)] z I1 I2) : r1.toInt = r2.toInt ∧ g_tld z I2 cp mo := by
  have E := g_rg (u_ := u_) G hR hI tcp tmo ck er U
  have gsz := G.1
  have x_mo := er.at tmo (Or.inr rfl)
  have trs := (hR.ad tcp (rfl : h_rs 12 6 = some (8, false)) (by decide)).2
  have x_te := er.at (hR.ad tmo (rfl : h_rs 13 46 = some (1346, false)) (by decide)).2 (Or.inl (by decide))
  have x_tg := er.at (hR.ad tmo (rfl : h_rs 13 47 = some (1347, false)) (by decide)).2 (Or.inl (by decide))
  have y_n := f2.at (k := 10) trs rfl
  have y_c := fun k : Nat => f2.at (k := k) (hR.ad trs (rfl : h_rs 8 11 = some (811, false)) (by decide)).2 rfl
  have y_p := fun k : Nat => f2.at (k := k) (hR.ad trs (rfl : h_rs 8 12 = some (812, false)) (by decide)).2 rfl
  rw [hal, gsz, E] at p
  rw [x_mo, x_te, x_tg] at q
  obtain ⟨R, eR⟩ : ∃ t : tS, t = r_all (m_G z I1 mo u_) (I1 (h_ad z mo 14)) (I mo 13).toInt.toNat := ⟨_, rfl⟩
  rw [← eR] at p q
  obtain ⟨N1, N2⟩ := N
  rcases p with ⟨p1, p2, p3, p4, p5⟩ | ⟨p1, p2, p3, p4⟩ <;> rcases q with ⟨q1, q2, q3, q4, q5⟩ | ⟨q1, q2, q3, q4⟩
  · refine ⟨by rw [p2, q2], by rw [y_n, p3, q3]; exact N1, fun k hk => ?_⟩
    rw [q3] at hk
    rw [y_c, y_p, p4, p5, q4, q5]
    exact N2 k hk
  · exact absurd p1 q1
  · exact absurd q1 p1
  · refine ⟨by rw [p2, q2], by rw [y_n]; exact Int32.toInt_inj.mp (p3.trans q3.symm), fun k hk => ?_⟩
    obtain ⟨a1, a2⟩ := p4 k (by omega)
    obtain ⟨b1, b2⟩ := q4 k (by omega)
    rw [y_c, y_p]
    exact ⟨Int32.toInt_inj.mp (a1.trans b1.symm), Int32.toInt_inj.mp (a2.trans b2.symm)⟩
theorem g_ringed2 {z : tZ} {I : tI} {cp mo : Nat} {x_t : Int} {r1 r2 : Int32} (hI : h_I z I) (tmo : z.ty mo = 13) (N : g_tld z I cp mo) (p : r_tl (I (h_ad z cp 6) 10).toInt (I (h_ad z (h_ad z cp 6) 11)) (I (h_ad z (h_ad z cp 6) 12)) x_t r1.toInt) (q : r_tl (I mo 41).toInt (I (h_ad z mo 46)) (I (h_ad z mo 47)) x_t r2.toInt) : r1.toInt = r2.toInt := by
  have h41 := hI.rd mo 41 tmo rfl (rfl : h_bd 13 41 = (0, 3))
  rw [N.1] at p
  exact p.eq q h41.2 (fun i hi => N.2 i hi)
theorem g_hwb {z : tZ} {I : tI} {cp mo : Nat} (G : h_gb z I cp mo) (hI : h_I z I) (tmo : z.ty mo = 13) (W : h_wbd z I mo) : ∀ c p : Nat, c < 8 → p < (I (h_ad z cp 3) 2).toInt.toNat → 0 ≤ (c_w z I (h_ad z cp 3) (c : Int) p).toInt ∧ (c_w z I (h_ad z cp 3) (c : Int) p).toInt ≤ 9999 := by
  obtain ⟨gsz, gpl, gdd, gsp, gtu, gmv, grk, gor, glb, gtw, gwp, gpz⟩ := G
  have j13 := hI.rd mo 13 tmo rfl (rfl : h_bd 13 13 = (0, 60))
  intro c p hc hp
  rw [gsz] at hp
  unfold c_w
  rw [Int.toNat_natCast, (gwp.2 c p hc (by omega)).1 (by omega)]
  exact W _
theorem g_hpy {z : tZ} {I : tI} {cp mo : Nat} (G : h_gb z I cp mo) (hR : h_R z) (hI : h_I z I) (tcp : z.ty cp = 12) (tmo : z.ty mo = 13) : ∀ p : Nat, p < (I (h_ad z cp 3) 2).toInt.toNat → 0 ≤ (c_pyp z I (h_ad z cp 3) p).toInt ∧ (c_pyp z I (h_ad z cp 3) p).toInt ≤ 400000 := by
  have P3 := G.p3 hR hI tcp tmo h_er.rf (I (h_ad z cp 3) 3)
  obtain ⟨gsz, gpl, gdd, gsp, gtu, gmv, grk, gor, glb, gtw, gwp, gpz⟩ := G
  have j13 := hI.rd mo 13 tmo rfl (rfl : h_bd 13 13 = (0, 60))
  intro p hp
  rw [gsz] at hp
  have h3 := P3 p (by omega)
  unfold c_pyp
  rw [((gpl.2 p (by omega)).1 (by omega)).pay]
  exact ⟨h3.1, by omega⟩

