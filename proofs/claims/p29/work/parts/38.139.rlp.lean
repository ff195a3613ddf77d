/-! what class and reference have in common of players: contracts, hurt or not -/
def h_p1 (I : tI) (b cb fi la pa ri su hc it hu p : Nat) : Prop := I b 0 = I cb p ∧ I b 7 = I hu p ∧ ((I b 0).toInt = -1 → I b 5 = 0 ∧ I b 6 = 0) ∧ ((I b 0).toInt ≠ -1 → I b 1 = I fi p ∧ I b 2 = I la p ∧ I b 3 = I pa p ∧ I b 4 = I ri p ∧ I b 5 = I su p ∧ ((I b 6).toInt = 0 ↔ ¬ ((I hc p).toInt ≠ 0 ∧ (I it p).toInt = 0))) ∧ (-1 ≤ (I la p).toInt ∧ (I la p).toInt ≤ 13) ∧ (0 ≤ (I fi p).toInt ∧ (I fi p).toInt ≤ 9) ∧ (0 ≤ (I pa p).toInt ∧ (I pa p).toInt ≤ 20000) ∧ (-500 ≤ (I ri p).toInt ∧ (I ri p).toInt ≤ 500) ∧ (0 ≤ (I su p).toInt ∧ (I su p).toInt ≤ 100)
def h_plr (z : tZ) (I : tI) (pl cb fi la pa ri su hc it hu : Nat) (nb : Int) : Prop := (∀ p : Nat, (p : Int) < nb → z.R pl p ≠ none) ∧ ∀ p : Nat, p < 60 → ((p : Int) < nb → h_p1 I (h_ad z pl p) cb fi la pa ri su hc it hu p) ∧ (nb ≤ (p : Int) → I hu p = 0)
theorem h_p1.c {I I1 : tI} {b cb fi la pa ri su hc it hu p : Nat} (h : h_p1 I b cb fi la pa ri su hc it hu p) (eb : ∀ k : Nat, k < 8 → I1 b k = I b k) (e1 : I1 cb p = I cb p) (e2 : I1 fi p = I fi p) (e3 : I1 la p = I la p) (e4 : I1 pa p = I pa p) (e5 : I1 ri p = I ri p) (e6 : I1 su p = I su p) (e7 : I1 hc p = I hc p) (e8 : I1 it p = I it p) (e9 : I1 hu p = I hu p) : h_p1 I1 b cb fi la pa ri su hc it hu p := by
  unfold h_p1
  rw [eb 0 (by decide), eb 1 (by decide), eb 2 (by decide), eb 3 (by decide), eb 4 (by decide), eb 5 (by decide), eb 6 (by decide), eb 7 (by decide), e1, e2, e3, e4, e5, e6, e7, e8, e9]
  exact h
theorem h_plr.b {z : tZ} {I : tI} {pl cb fi la pa ri su hc it hu : Nat} {nb : Int} (h : h_plr z I pl cb fi la pa ri su hc it hu nb) (hR : h_R z) (tp : z.ty pl = 101) {p : Nat} (hp : (p : Int) < nb) (h60 : p < 60) : ∃ b, z.R pl p = some b ∧ z.ty b = 7 ∧ h_ad z pl p = b := by
  rcases hR.nl pl p tp (rfl : h_rs 101 p = some (7, true)) (by rw [so_101]; exact h60) with q | ⟨b, rb, tb⟩
  · exact absurd q (h.1 p hp)
  · exact ⟨b, rb, tb, h_ad.at rb⟩
theorem h_plr.inj {z : tZ} {I : tI} {pl cb fi la pa ri su hc it hu : Nat} {nb : Int} (h : h_plr z I pl cb fi la pa ri su hc it hu nb) (hU : h_U z) (hR : h_R z) (tp : z.ty pl = 101) {p q : Nat} (hp : (p : Int) < nb) (hq : (q : Int) < nb) (p60 : p < 60) (q60 : q < 60) (hn : p ≠ q) : h_ad z pl p ≠ h_ad z pl q := by
  obtain ⟨b, rb, tb, ab⟩ := h.b hR tp hp p60
  obtain ⟨c, rc, tc, ac⟩ := h.b hR tp hq q60
  rw [ab, ac]
  intro e
  subst e
  exact hn (hU.2.2 pl p pl q b (by rw [tp]; rfl) (by rw [tp]; rfl) rb rc).2
/-- one player is told anew, the others stay -/
theorem h_plr.upd {z : tZ} {I I2 : tI} {pl cb fi la pa ri su hc it hu p0 : Nat} {nb : Int} (h : h_plr z I pl cb fi la pa ri su hc it hu nb) (hU : h_U z) (hR : h_R z) (tp : z.ty pl = 101) (hp : (p0 : Int) < nb) (p60 : p0 < 60) (hn : h_p1 I2 (h_ad z pl p0) cb fi la pa ri su hc it hu p0)
    (eb : ∀ b k : Nat, z.ty b = 7 → b ≠ h_ad z pl p0 → k < 8 → I2 b k = I b k) (e : ∀ k : Nat, k ≠ p0 → I2 cb k = I cb k ∧ I2 fi k = I fi k ∧ I2 la k = I la k ∧ I2 pa k = I pa k ∧ I2 ri k = I ri k ∧ I2 su k = I su k ∧ I2 hc k = I hc k ∧ I2 it k = I it k ∧ I2 hu k = I hu k) : h_plr z I2 pl cb fi la pa ri su hc it hu nb := by
  refine ⟨h.1, fun p hp60 => ⟨fun hpn => ?_, fun hpn => ?_⟩⟩
  · by_cases hpp : p = p0
    · subst hpp
      exact hn
    · obtain ⟨b, rb, tb, ab⟩ := h.b hR tp hpn hp60
      have ne := h.inj hU hR tp hpn hp hp60 p60 hpp
      obtain ⟨a1, a2, a3, a4, a5, a6, a7, a8, a9⟩ := e p hpp
      exact ((h.2 p hp60).1 hpn).c (fun k hk => eb _ k (by rw [ab]; exact tb) ne hk) a1 a2 a3 a4 a5 a6 a7 a8 a9
  · rw [(e p (by omega)).2.2.2.2.2.2.2.2]
    exact (h.2 p hp60).2 hpn
theorem h_plr.c {z : tZ} {I I1 : tI} {pl cb fi la pa ri su hc it hu : Nat} {nb : Int} (h : h_plr z I pl cb fi la pa ri su hc it hu nb) (hR : h_R z) (tp : z.ty pl = 101) (eb : ∀ b k : Nat, z.ty b = 7 → k < 8 → I1 b k = I b k) (e : ∀ k : Nat, I1 cb k = I cb k ∧ I1 fi k = I fi k ∧ I1 la k = I la k ∧ I1 pa k = I pa k ∧ I1 ri k = I ri k ∧ I1 su k = I su k ∧ I1 hc k = I hc k ∧ I1 it k = I it k ∧ I1 hu k = I hu k) : h_plr z I1 pl cb fi la pa ri su hc it hu nb := by
  refine ⟨h.1, fun p hp60 => ⟨fun hpn => ?_, fun hpn => ?_⟩⟩
  · obtain ⟨b, rb, tb, ab⟩ := h.b hR tp hpn hp60
    obtain ⟨a1, a2, a3, a4, a5, a6, a7, a8, a9⟩ := e p
    exact ((h.2 p hp60).1 hpn).c (fun k hk => eb _ k (by rw [ab]; exact tb) hk) a1 a2 a3 a4 a5 a6 a7 a8 a9
  · rw [(e p).2.2.2.2.2.2.2.2]
    exact (h.2 p hp60).2 hpn
/-! the pay of a year is small -/
theorem q_pay_b {cl fr la pa ri y : Int32} (hf : 0 ≤ fr.toInt ∧ fr.toInt ≤ 9) (hl : la.toInt ≤ 13) (hp : 0 ≤ pa.toInt ∧ pa.toInt ≤ 20000) (hr : -500 ≤ ri.toInt ∧ ri.toInt ≤ 500) : (q_pay cl fr la pa ri y).toInt ≤ 1000000 := by
  unfold q_pay
  by_cases h : cl.toInt = -1 ∨ y.toInt < fr.toInt ∨ la.toInt < y.toInt
  · rw [if_pos h]
    decide
  · rw [if_neg h]
    have hd : (y - fr).toInt = y.toInt - fr.toInt := xi_sub rfl rfl rfl (by omega) (by omega)
    have hm1 : ri.toInt * (y.toInt - fr.toInt) ≤ 500 * 13 := by
      have h1 := Int.mul_le_mul_of_nonneg_right hr.2 (show 0 ≤ y.toInt - fr.toInt by omega)
      omega
    have hm2 : -(500 * 13) ≤ ri.toInt * (y.toInt - fr.toInt) := by
      have h1 := Int.mul_le_mul_of_nonneg_right hr.1 (show 0 ≤ y.toInt - fr.toInt by omega)
      omega
    have hm : (ri * (y - fr)).toInt = ri.toInt * (y.toInt - fr.toInt) := xi_mul rfl rfl hd (by omega) (by omega)
    have ha : (pa + ri * (y - fr)).toInt = pa.toInt + ri.toInt * (y.toInt - fr.toInt) := xi_add rfl rfl hm (by omega) (by omega)
    unfold q_max0
    by_cases h2 : 0 < (pa + ri * (y - fr)).toInt
    · rw [if_pos h2, ha]
      omega
    · rw [if_neg h2]
      decide
/-! sums of both are alike -/
theorem h_p1.cnt {I : tI} {b cb fi la pa ri su hc it hu p : Nat} (h : h_p1 I b cb fi la pa ri su hc it hu p) (y ck : Int32) (u : Int) : q_cnt (I b 0) (I b 1) (I b 2) (I b 3) (I b 4) (I b 6) (I b 7) y ck u = q_cn2 (I cb p) (I fi p) (I la p) (I pa p) (I ri p) (I hc p) (I it p) (I hu p) y ck u := by
  obtain ⟨h1, h2, h3, h4, h5, _⟩ := h
  by_cases hs : (I b 0).toInt = -1
  · have n1 : ¬ q_und (I b 0) (I b 1) (I b 2) (I b 6) y := fun q => q.1 hs
    have n2 : ¬ q_un2 (I cb p) (I fi p) (I la p) (I hc p) (I it p) y := fun q => q.1 (by rw [← h1]; exact hs)
    unfold q_cnt q_cn2
    rw [if_neg n1, if_neg n2]
  · obtain ⟨a1, a2, a3, a4, a5, a6⟩ := h4 hs
    rw [q_cn_eq (hc := I hc p) (it := I it p) (by rw [a2]; omega) a6, h1, h2, a1, a2, a3, a4]
theorem h_p1.und {I : tI} {b cb fi la pa ri su hc it hu p : Nat} (h : h_p1 I b cb fi la pa ri su hc it hu p) (y : Int32) : q_und (I b 0) (I b 1) (I b 2) (I b 6) y ↔ q_un2 (I cb p) (I fi p) (I la p) (I hc p) (I it p) y := by
  obtain ⟨h1, h2, h3, h4, h5, _⟩ := h
  by_cases hs : (I b 0).toInt = -1
  · exact ⟨fun q => absurd hs q.1, fun q => absurd (by rw [← h1]; exact hs) q.1⟩
  · obtain ⟨a1, a2, a3, a4, a5, a6⟩ := h4 hs
    rw [q_un_eq (hc := I hc p) (it := I it p) (by rw [a2]; omega) a6, h1, a1, a2]
theorem h_p1.fact {I : tI} {b cb fi la pa ri su hc it hu p : Nat} (h : h_p1 I b cb fi la pa ri su hc it hu p) (x : Int32) : q_fact (I b 0) (I b 1) (I b 2) (I b 3) (I b 4) (I b 5) (I b 6) (I b 7) x = q_fact (I cb p) (I fi p) (I la p) (I pa p) (I ri p) (if (I cb p).toInt = -1 then 0 else I su p) (if (I cb p).toInt ≠ -1 ∧ (I hc p).toInt ≠ 0 ∧ (I it p).toInt = 0 then 1 else 0) (I hu p) x := by
  obtain ⟨h1, h2, h3, h4, h5, _⟩ := h
  by_cases hs : (I b 0).toInt = -1
  · obtain ⟨a1, a2⟩ := h3 hs
    have hs2 : (I cb p).toInt = -1 := by rw [← h1]; exact hs
    rw [if_pos hs2, if_neg (fun q => q.1 hs2), a1, a2, h2]
    unfold q_fact q_pay
    rw [if_pos hs, if_pos hs2, if_pos (Or.inl hs), if_pos (Or.inl hs2), h1]
  · obtain ⟨a1, a2, a3, a4, a5, a6⟩ := h4 hs
    have hs2 : ¬ (I cb p).toInt = -1 := by rw [← h1]; exact hs
    rw [if_neg hs2, h1, h2, a1, a2, a3, a4, a5]
    have e : (if (I b 6).toInt = 0 then (0 : Int) else 1) = (if (if (I cb p).toInt ≠ -1 ∧ (I hc p).toInt ≠ 0 ∧ (I it p).toInt = 0 then (1 : Int32) else 0).toInt = 0 then 0 else 1) := by
      by_cases hc6 : (I b 6).toInt = 0
      · have n1 : ¬ ((I cb p).toInt ≠ -1 ∧ (I hc p).toInt ≠ 0 ∧ (I it p).toInt = 0) := fun q => (a6.mp hc6) q.2
        rw [if_pos hc6, if_neg n1]
        rfl
      · have n2 : (I cb p).toInt ≠ -1 ∧ (I hc p).toInt ≠ 0 ∧ (I it p).toInt = 0 := ⟨hs2, Classical.byContradiction (fun q => hc6 (a6.mpr q))⟩
        rw [if_neg hc6, if_pos n2]
        rfl
    unfold q_fact
    rw [e]
/-- dead money -/
def h_dd (z : tZ) (I : tI) (dd de : Nat) : Prop := ∀ c y : Nat, c < 8 → y < 10 → I (h_ad z dd c) y = I de (10 * c + y)
theorem h_plr.cnt {z : tZ} {I : tI} {bk mo : Nat} {nb : Int} (h : h_plr z I (h_ad z bk 1) (h_ad z mo 14) (h_ad z mo 15) (h_ad z mo 16) (h_ad z mo 17) (h_ad z mo 18) (h_ad z mo 19) (h_ad z mo 20) (h_ad z mo 21) (h_ad z mo 22) nb) (en : (I bk 2).toInt = nb) (h60 : nb ≤ 60) (hd : h_dd z I (h_ad z bk 4) (h_ad z mo 23)) (sz : I bk 2 = I mo 13) (ck : I bk 3 = I mo 12) {c : Int} {y : Int32} (hc : 0 ≤ c ∧ c ≤ 7) (hy : 0 ≤ y.toInt ∧ y.toInt ≤ 9) (u : Int) : c_cnt z I bk c y u = m_cnt z I mo c y u := by
  unfold c_cnt m_cnt
  rw [hd c.toNat y.toInt.toNat (by omega) (by omega), show 10 * c.toNat + y.toInt.toNat = (10 * c + y.toInt).toNat by omega, ← sz]
  refine q_sums_eq _ (fun p hp => ?_)
  have h1 := (h.2 p (by omega)).1 (by omega)
  unfold c_f m_f
  by_cases hq : (I (h_ad z (h_ad z bk 1) p) 0).toInt = c
  · rw [if_pos hq, if_pos (by rw [← h1.1]; exact hq), h1.cnt, ck]
  · rw [if_neg hq, if_neg (by rw [← h1.1]; exact hq)]
theorem h_plr.many {z : tZ} {I : tI} {bk mo : Nat} {nb : Int} (h : h_plr z I (h_ad z bk 1) (h_ad z mo 14) (h_ad z mo 15) (h_ad z mo 16) (h_ad z mo 17) (h_ad z mo 18) (h_ad z mo 19) (h_ad z mo 20) (h_ad z mo 21) (h_ad z mo 22) nb) (en : (I bk 2).toInt = nb) (h60 : nb ≤ 60) (sz : I bk 2 = I mo 13) (c : Int) (y : Int32) : c_many z I bk c y = m_many z I mo c y := by
  unfold c_many m_many
  rw [← sz]
  refine q_sums_eq _ (fun p hp => ?_)
  have h1 := (h.2 p (by omega)).1 (by omega)
  have e := h1.und y
  unfold c_g m_g
  by_cases hq : (I (h_ad z (h_ad z bk 1) p) 0).toInt = c ∧ q_und (I (h_ad z (h_ad z bk 1) p) 0) (I (h_ad z (h_ad z bk 1) p) 1) (I (h_ad z (h_ad z bk 1) p) 2) (I (h_ad z (h_ad z bk 1) p) 6) y
  · rw [if_pos hq, if_pos ⟨by rw [← h1.1]; exact hq.1, e.mp hq.2⟩]
  · rw [if_neg hq, if_neg (fun q => hq ⟨by rw [h1.1]; exact q.1, e.mpr q.2⟩)]
theorem h_plr.pb {z : tZ} {I : tI} {pl cb fi la pa ri su hc it hu : Nat} {nb : Int} (h : h_plr z I pl cb fi la pa ri su hc it hu nb) (h60 : nb ≤ 60) (y : Int32) : ∀ p : Nat, (p : Int) < nb → (q_pay (I cb p) (I fi p) (I la p) (I pa p) (I ri p) y).toInt ≤ 1000000 := by
  intro p hp
  obtain ⟨_, _, _, _, h5, h6, h7, h8, _⟩ := (h.2 p (by omega)).1 hp
  exact q_pay_b h6 h5.2 h7 h8
/-! what a waiver costs -/
def q_prt (cl fr la pa ri su co : Int32) (y : Nat) : Int32 := if q_und cl fr la co (Int32.ofInt y) then q_hun (q_pay cl fr la pa ri (Int32.ofInt y)) su.toInt else 0
def q_pr2 (cl fr la pa ri su hc it : Int32) (y : Nat) : Int32 := if q_un2 cl fr la hc it (Int32.ofInt y) then q_hun (q_pay cl fr la pa ri (Int32.ofInt y)) su.toInt else 0
theorem q_of {x : Int32} (h : 0 ≤ x.toInt) : Int32.ofInt ((x.toInt.toNat : Nat) : Int) = x := by
  rw [Int.toNat_of_nonneg h, Int32.ofInt_toInt]
def q_rel (ck : Nat) (f : Nat → Int32) (n : Nat) : Int32 := q_sums 0 (fun j => f (ck + j)) n
theorem q_rel_s {ck v v1 : Nat} {f : Nat → Int32} {x y : Int32} (h : x = q_rel ck f (v - ck)) (hv : ck ≤ v) (h1 : v1 = v + 1) (e : y = x + f v) : y = q_rel ck f (v1 - ck) := by
  unfold q_rel at h ⊢
  rw [h1, show v + 1 - ck = (v - ck) + 1 by omega]
  refine q_sums_s h ?_
  rw [e]
  show x + f v = x + f (ck + (v - ck))
  rw [show ck + (v - ck) = v by omega]
def q_dea (ck v : Nat) (f d : Nat → Int32) (k : Nat) : Int32 := if ck ≤ k ∧ k < v then d k + f k else d k
theorem q_dea_s {A B : Nat → Int32} {ck v v1 : Nat} {f d : Nat → Int32} (h : ∀ k : Nat, A k = q_dea ck v f d k) (hv : ck ≤ v) (h1 : v1 = v + 1) (hw : ∀ k : Nat, k ≠ v → B k = A k) (hx : B v = A v + f v) : ∀ k : Nat, B k = q_dea ck v1 f d k := by
  intro k
  unfold q_dea
  by_cases hk : k = v
  · subst hk
    rw [if_pos (by omega), hx, h k]
    unfold q_dea
    rw [if_neg (by omega)]
  · rw [hw k hk, h k]
    unfold q_dea
    by_cases hq : ck ≤ k ∧ k < v
    · rw [if_pos hq, if_pos (by omega)]
    · rw [if_neg hq, if_neg (by omega)]
theorem q_dea_0 {ck : Nat} {f d : Nat → Int32} (k : Nat) : d k = q_dea ck ck f d k := by
  unfold q_dea
  rw [if_neg (by omega)]
theorem h_F_no10 {z : tZ} {I I1 : tI} (h : h_F [(10, 3), (10, 4)] z I I1) {a k : Nat} (ha : z.ty a ≠ 10) : I1 a k = I a k := h a k (by
  unfold h_m
  simp [Ne.symm ha])

