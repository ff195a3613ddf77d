/-! rings of the class -/
def c_cb (z : tZ) (I : tI) (bk : Nat) (p : Nat) : Int32 := I (h_ad z (h_ad z bk 1) p) 0
def c_ctp (z : tZ) (I : tI) (bk : Nat) (h : Int) (p : Nat) : Int32 := q_cnt (I (h_ad z (h_ad z bk 1) p) 0) (I (h_ad z (h_ad z bk 1) p) 1) (I (h_ad z (h_ad z bk 1) p) 2) (I (h_ad z (h_ad z bk 1) p) 3) (I (h_ad z (h_ad z bk 1) p) 4) (I (h_ad z (h_ad z bk 1) p) 6) (I (h_ad z (h_ad z bk 1) p) 7) (I bk 3) (I bk 3) h
def c_pyp (z : tZ) (I : tI) (bk : Nat) (p : Nat) : Int32 := q_pay (I (h_ad z (h_ad z bk 1) p) 0) (I (h_ad z (h_ad z bk 1) p) 1) (I (h_ad z (h_ad z bk 1) p) 2) (I (h_ad z (h_ad z bk 1) p) 3) (I (h_ad z (h_ad z bk 1) p) 4) (I bk 3)
def c_L (z : tZ) (I : tI) (bk : Nat) (u : Nat → Int) (c : Int) (o i : Nat) : Prop := r_lg u ((q_ct (q_mc (c_cb z I bk) c) (I bk 2).toInt.toNat : Nat) : Int) (c_cnt z I bk c (I bk 3) (u 6) + c_ctp z I bk (u 6) i - c_ctp z I bk (u 6) o) (c_pyp z I bk i) (c_pyp z I bk o)
def c_w (z : tZ) (I : tI) (bk : Nat) (c : Int) (p : Nat) : Int32 := I (h_ad z (h_ad z (h_ad z bk 1) p) 8) c.toNat
noncomputable def c_G (z : tZ) (I : tI) (bk : Nat) (u : Nat → Int) : Int → Nat → Nat → Int := r_g (c_L z I bk u) (c_w z I bk)
theorem q_adj (c x y : Int32) : c + (0 - x + y) = c + y - x := by
  rw [Int32.zero_sub, Int32.add_comm (-x) y, ← Int32.add_assoc, ← Int32.sub_eq_add_neg]
/-- the row of players, by clubs -/
def c_lq (I : tI) (ln pa co n : Nat) (cb P Q : Nat → Int32) (C p : Nat) : Prop := ∀ d q : Nat, (d < C ∨ (d = C ∧ q < p)) → q < n → (cb q).toInt = (d : Int) → (I ln (q_sp cb n d + q_ct (q_mc cb (d : Int)) q)).toInt = (q : Int) ∧ I pa q = P q ∧ I co q = Q q
theorem c_lq.z {I : tI} {ln pa co n : Nat} {cb P Q : Nat → Int32} : c_lq I ln pa co n cb P Q 0 0 := fun d q h => absurd h (by omega)
theorem c_lq.nx {I : tI} {ln pa co n C C1 p : Nat} {cb P Q : Nat → Int32} (h : c_lq I ln pa co n cb P Q C p) (hp : n ≤ p) (e : C1 = C + 1) : c_lq I ln pa co n cb P Q C1 0 := fun d q h1 h2 h3 => h d q (by omega) h2 h3
theorem c_lq.n {I : tI} {ln pa co n C p p1 : Nat} {cb P Q : Nat → Int32} (h : c_lq I ln pa co n cb P Q C p) (hn : (cb p).toInt ≠ (C : Int)) (e : p1 = p + 1) : c_lq I ln pa co n cb P Q C p1 := by
  intro d q h1 h2 h3
  rcases h1 with h1 | ⟨h1, h4⟩
  · exact h d q (Or.inl h1) h2 h3
  · refine h d q (Or.inr ⟨h1, ?_⟩) h2 h3
    by_cases e9 : q = p
    · rw [e9, h1] at h3
      exact absurd h3 hn
    · omega
theorem c_lq.s {I I1 : tI} {ln pa co n C p p1 : Nat} {cb P Q : Nat → Int32} (h : c_lq I ln pa co n cb P Q C p) (hp : p < n) (hc : (cb p).toInt = (C : Int)) (e : p1 = p + 1) {x : Int32} (hx : x.toInt = (p : Int)) (e1 : ∀ k : Nat, I1 ln k = if k = q_sp cb n C + q_ct (q_mc cb (C : Int)) p then x else I ln k) (e2 : ∀ k : Nat, I1 pa k = if k = p then P p else I pa k) (e3 : ∀ k : Nat, I1 co k = if k = p then Q p else I co k) : c_lq I1 ln pa co n cb P Q C p1 := by
  intro d q h1 h2 h3
  by_cases e9 : q = p
  · subst e9
    have ed : d = C := by omega
    subst ed
    rw [e1, if_pos rfl, e2, if_pos rfl, e3, if_pos rfl]
    exact ⟨hx, rfl, rfl⟩
  · obtain ⟨a1, a2, a3⟩ := h d q (by omega) h2 h3
    have hpos : q_sp cb n d + q_ct (q_mc cb (d : Int)) q ≠ q_sp cb n C + q_ct (q_mc cb (C : Int)) p := fun k => e9 (q_pos_inj h2 hp h3 hc k)
    rw [e1, if_neg hpos, e2, if_neg e9, e3, if_neg e9]
    exact ⟨a1, a2, a3⟩
theorem c_lq.c {I I1 : tI} {ln pa co n C p : Nat} {cb P Q : Nat → Int32} (h : c_lq I ln pa co n cb P Q C p) (e1 : ∀ k : Nat, I1 ln k = I ln k) (e2 : ∀ k : Nat, I1 pa k = I pa k) (e3 : ∀ k : Nat, I1 co k = I co k) : c_lq I1 ln pa co n cb P Q C p := fun d q h1 h2 h3 => by
  rw [e1, e2, e3]
  exact h d q h1 h2 h3
def c_st (I : tI) (st n : Nat) (cb : Nat → Int32) (C : Nat) : Prop := ∀ d : Nat, d < C → (I st d).toInt = ((q_sp cb n d : Nat) : Int)
theorem c_st.s {I I1 : tI} {st n C C1 : Nat} {cb : Nat → Int32} (h : c_st I st n cb C) (e : C1 = C + 1) {x : Int32} (hx : x.toInt = ((q_sp cb n C : Nat) : Int)) (e1 : ∀ k : Nat, I1 st k = if k = C then x else I st k) : c_st I1 st n cb C1 := by
  intro d hd
  rw [e1]
  by_cases e9 : d = C
  · rw [if_pos e9, e9]
    exact hx
  · rw [if_neg e9]
    exact h d (by omega)
theorem c_st.c {I I1 : tI} {st n C : Nat} {cb : Nat → Int32} (h : c_st I st n cb C) (e1 : ∀ k : Nat, I1 st k = I st k) : c_st I1 st n cb C := fun d hd => by
  rw [e1]
  exact h d hd
theorem q_pos_b {cb : Nat → Int32} {n C p : Nat} (hp : p < n) (hc : (cb p).toInt = (C : Int)) : q_sp cb n C + q_ct (q_mc cb (C : Int)) p < n := by
  have h1 := q_pos_lt hp hc
  have h2 := q_sp_n (cb := cb) (C + 1) n
  omega
/-- gains of one player's club by giving it -/
def c_gp (z : tZ) (I : tI) (gn pt n : Nat) (cb : Nat → Int32) (G : Int → Nat → Nat → Int) (c : Int) (p : Nat) : Prop := (∀ q : Nat, q < n → 0 ≤ (cb q).toInt → (cb q).toInt ≠ c → (I (h_ad z gn p) q).toInt = G c p q ∧ G c p q ≤ (I pt p).toInt) ∧ 0 ≤ (I pt p).toInt ∧ (I pt p).toInt ≤ 9999
theorem c_gp.c {z : tZ} {I I1 : tI} {gn pt n p : Nat} {cb : Nat → Int32} {G : Int → Nat → Nat → Int} {c : Int} (h : c_gp z I gn pt n cb G c p) (e1 : ∀ q : Nat, I1 (h_ad z gn p) q = I (h_ad z gn p) q) (e2 : I1 pt p = I pt p) : c_gp z I1 gn pt n cb G c p := by
  unfold c_gp
  rw [e2]
  exact ⟨fun q hq h1 h2 => by rw [e1]; exact h.1 q hq h1 h2, h.2⟩
def c_go (z : tZ) (I : tI) (gn pt ct n : Nat) (cb : Nat → Int32) (G : Int → Nat → Nat → Int) (C : Nat) (k : Int) : Prop := ∀ p : Nat, p < n → (cb p).toInt = (C : Int) → ((q_sp cb n C + q_ct (q_mc cb (C : Int)) p : Nat) : Int) < k → c_gp z I gn pt n cb G (C : Int) p ∧ (I pt p).toInt ≤ (I ct C).toInt
theorem c_go.z {z : tZ} {I : tI} {gn pt ct n C : Nat} {cb : Nat → Int32} {G : Int → Nat → Nat → Int} {k : Int} (e : k = ((q_sp cb n C : Nat) : Int)) : c_go z I gn pt ct n cb G C k := fun p _ _ h => absurd h (by omega)
theorem c_go.s {z : tZ} {I I1 : tI} {gn pt ct n C p : Nat} {cb : Nat → Int32} {G : Int → Nat → Nat → Int} {k k1 : Int} (h : c_go z I gn pt ct n cb G C k) (hp : p < n) (hc : (cb p).toInt = (C : Int)) (hk : ((q_sp cb n C + q_ct (q_mc cb (C : Int)) p : Nat) : Int) = k) (hk1 : k1 = k + 1) (hg : c_gp z I1 gn pt n cb G (C : Int) p) (hle : (I1 pt p).toInt ≤ (I1 ct C).toInt) (e1 : ∀ p' : Nat, p' ≠ p → p' < n → ∀ q : Nat, I1 (h_ad z gn p') q = I (h_ad z gn p') q) (e2 : ∀ p' : Nat, p' ≠ p → I1 pt p' = I pt p') (hct : (I ct C).toInt ≤ (I1 ct C).toInt) : c_go z I1 gn pt ct n cb G C k1 := by
  intro p' hp' hc' hlt
  by_cases e : p' = p
  · subst e
    exact ⟨hg, hle⟩
  · have hne : q_sp cb n C + q_ct (q_mc cb (C : Int)) p' ≠ q_sp cb n C + q_ct (q_mc cb (C : Int)) p := fun k9 => e (q_pos_inj hp' hp hc' hc k9)
    obtain ⟨a1, a2⟩ := h p' hp' hc' (by omega)
    rw [e2 p' e]
    exact ⟨a1.c (e1 p' e hp') (e2 p' e), by omega⟩
def c_gi (z : tZ) (I : tI) (gn pt n : Nat) (cb : Nat → Int32) (G : Int → Nat → Nat → Int) (C p : Nat) (k : Int) : Prop := ∀ d q : Nat, d < 8 → q < n → (cb q).toInt = (d : Int) → ((q_sp cb n d + q_ct (q_mc cb (d : Int)) q : Nat) : Int) < k → d ≠ C → (I (h_ad z gn p) q).toInt = G (C : Int) p q ∧ G (C : Int) p q ≤ (I pt p).toInt
theorem c_gi.z {z : tZ} {I : tI} {gn pt n C p : Nat} {cb : Nat → Int32} {G : Int → Nat → Nat → Int} {k : Int} (e : k = 0) : c_gi z I gn pt n cb G C p k := fun d q _ _ _ h => absurd h (by omega)
theorem c_gi.s {z : tZ} {I I1 : tI} {gn pt n C p d q : Nat} {cb : Nat → Int32} {G : Int → Nat → Nat → Int} {k k1 : Int} (h : c_gi z I gn pt n cb G C p k) (hq : q < n) (hc : (cb q).toInt = (d : Int)) (hk : ((q_sp cb n d + q_ct (q_mc cb (d : Int)) q : Nat) : Int) = k) (hk1 : k1 = k + 1) {x : Int32} (e1 : ∀ j : Nat, I1 (h_ad z gn p) j = if j = q then x else I (h_ad z gn p) j) (hx : d ≠ C → x.toInt = G (C : Int) p q ∧ x.toInt ≤ (I1 pt p).toInt) (hpt : (I pt p).toInt ≤ (I1 pt p).toInt) : c_gi z I1 gn pt n cb G C p k1 := by
  intro d' q' h8 hq' hc' hlt hd
  by_cases e : q' = q
  · subst e
    have ed : d' = d := by omega
    subst ed
    rw [e1, if_pos rfl]
    obtain ⟨a1, a2⟩ := hx hd
    exact ⟨a1, by omega⟩
  · have hne : q_sp cb n d' + q_ct (q_mc cb (d' : Int)) q' ≠ q_sp cb n d + q_ct (q_mc cb (d : Int)) q := fun k9 => e (q_pos_inj hq' hq hc' hc k9)
    obtain ⟨a1, a2⟩ := h d' q' h8 hq' hc' (by omega) hd
    rw [e1, if_neg e]
    exact ⟨a1, by omega⟩
theorem c_gi.e {z : tZ} {I : tI} {gn pt n C p : Nat} {cb : Nat → Int32} {G : Int → Nat → Nat → Int} {k : Int} (h : c_gi z I gn pt n cb G C p k) (hk : ((q_sp cb n 8 : Nat) : Int) ≤ k) (h7 : ∀ q : Nat, q < n → (cb q).toInt ≤ 7) (hb : 0 ≤ (I pt p).toInt ∧ (I pt p).toInt ≤ 9999) : c_gp z I gn pt n cb G (C : Int) p := by
  refine ⟨fun q hq h0 hne => ?_, hb⟩
  have h9 := h7 q hq
  obtain ⟨d, hd⟩ : ∃ d : Nat, (cb q).toInt = (d : Int) := ⟨(cb q).toInt.toNat, by omega⟩
  have h1 := q_pos_lt hq hd
  have h2 := q_sp_m (cb := cb) (n := n) (show d + 1 ≤ 8 by omega)
  exact h d q (by omega) hq hd (by omega) (by omega)
/-- whose place it is -/
theorem q_pos_is {cb : Nat → Int32} {n d q C : Nat} (hq : q < n) (hd : (cb q).toInt = (d : Int)) (h1 : q_sp cb n C ≤ q_sp cb n d + q_ct (q_mc cb (d : Int)) q) (h2 : q_sp cb n d + q_ct (q_mc cb (d : Int)) q < q_sp cb n (C + 1)) : d = C := by
  have a1 := q_pos_lt hq hd
  rcases Nat.lt_trichotomy d C with h | h | h
  · have := q_sp_m (cb := cb) (n := n) (show d + 1 ≤ C by omega)
    omega
  · exact h
  · have := q_sp_m (cb := cb) (n := n) (show C + 1 ≤ d by omega)
    omega
theorem q_pos_ne {cb : Nat → Int32} {n d q C : Nat} (hq : q < n) (hd : (cb q).toInt = (d : Int)) (h : q_sp cb n d + q_ct (q_mc cb (d : Int)) q < q_sp cb n C ∨ q_sp cb n (C + 1) ≤ q_sp cb n d + q_ct (q_mc cb (d : Int)) q) : d ≠ C := by
  intro e
  subst e
  have a1 := q_pos_lt hq hd
  omega
/-- what the search over rings rests on -/
def c_gr (z : tZ) (I : tI) (rs n : Nat) (cb : Nat → Int32) (G : Int → Nat → Nat → Int) : Prop := n ≤ 60 ∧ c_st I (h_ad z rs 3) n cb 9 ∧ (∀ d q : Nat, d < 8 → q < n → (cb q).toInt = (d : Int) → (I (h_ad z rs 2) (q_sp cb n d + q_ct (q_mc cb (d : Int)) q)).toInt = (q : Int)) ∧ (∀ c p : Nat, c < 8 → p < n → (cb p).toInt = (c : Int) → c_gp z I (h_ad z rs 6) (h_ad z rs 7) n cb G (c : Int) p ∧ (I (h_ad z rs 7) p).toInt ≤ (I (h_ad z rs 8) c).toInt) ∧ ∀ c : Nat, c < 8 → 0 ≤ (I (h_ad z rs 8) c).toInt ∧ (I (h_ad z rs 8) c).toInt ≤ 9999
/-- the best so far, over the rows as they stood -/
def c_rs (z : tZ) (J I : tI) (rs : Nat) (s : tS) : Prop := (I rs 9).toInt = s.1 ∧ ((s.2 = [] ∧ I rs 10 = J rs 10 ∧ (∀ k : Nat, I (h_ad z rs 11) k = J (h_ad z rs 11) k) ∧ ∀ k : Nat, I (h_ad z rs 12) k = J (h_ad z rs 12) k) ∨ (s.2 ≠ [] ∧ (I rs 10).toInt = (s.2.length : Int) ∧ ∀ i : Nat, i < s.2.length → (I (h_ad z rs 11) i).toInt = (s.2.getD i (0, 0)).1 ∧ (I (h_ad z rs 12) i).toInt = (((s.2.getD i (0, 0)).2 : Nat) : Int)))
theorem h_rowne {z : tZ} (hU : h_U z) (hR : h_R z) {gn : Nat} (tgn : z.ty gn = 806) {p q : Nat} (hp : p < 60) (hq : q < 60) (hn : p ≠ q) : h_ad z gn p ≠ h_ad z gn q := by
  intro e
  have r1 := (hR.ad tgn (rfl : h_rs 806 p = some (856, false)) (by rw [so_806]; exact hp)).1
  have r2 := (hR.ad tgn (rfl : h_rs 806 q = some (856, false)) (by rw [so_806]; exact hq)).1
  rw [e] at r1
  exact hn (hU.2.2 gn p gn q _ (by rw [tgn]; rfl) (by rw [tgn]; rfl) r1 r2).2
theorem c_w_F {M : List (Nat × Nat)} {z : tZ} {I I1 : tI} (hR : h_R z) (f : h_F M z I I1) {bk pl : Nat} (tbk : z.ty bk = 1) (apl : h_ad z bk 1 = pl) (tpl : z.ty pl = 101) (h8 : ∀ k, h_m M 708 k = false) {p : Nat} (hp : p < 60) (hn : z.R pl p ≠ none) {c : Int} : c_w z I1 bk c p = c_w z I bk c p := by
  obtain ⟨b, rb, tb, ab⟩ := h_plb hR tpl hp hn
  have tw := (hR.ad tb (rfl : h_rs 7 8 = some (708, false)) (by decide)).2
  unfold c_w
  rw [apl, ab]
  exact f.at tw (h8 _)
theorem h_lwc {M : List (Nat × Nat)} {z : tZ} {I I1 : tI} (hR : h_R z) (f : h_F M z I I1) {b : Nat} {u : Nat → Int} (h : h_lw I b (h_ad z b 0) (h_ad z b 1) u) (tb : z.ty b = 6) (h6 : ∀ k, h_m M 6 k = false) (h600 : ∀ k, h_m M 600 k = false) (h601 : ∀ k, h_m M 601 k = false) : h_lw I1 b (h_ad z b 0) (h_ad z b 1) u := by
  obtain ⟨n, rn, tn⟩ := hR.at b 0 tb (rfl : h_rs 6 0 = some (600, false)) (by decide)
  obtain ⟨l, rl, tl⟩ := hR.at b 1 tb (rfl : h_rs 6 1 = some (601, false)) (by decide)
  rw [h_ad.at rn, h_ad.at rl] at h ⊢
  exact h.c (fun i => f.at tn (h600 i)) (f.at tb (h6 2)) (fun i => f.at tl (h601 i))
theorem c_rs_2 {z : tZ} {J I : tI} {rs : Nat} {x a b : Int} {p q : Nat} (h9 : (I rs 9).toInt = x) (h10 : (I rs 10).toInt = 2) (c0 : (I (h_ad z rs 11) 0).toInt = a) (p0 : (I (h_ad z rs 12) 0).toInt = (p : Int)) (c1 : (I (h_ad z rs 11) 1).toInt = b) (p1 : (I (h_ad z rs 12) 1).toInt = (q : Int)) : c_rs z J I rs (x, [(a, p), (b, q)]) := by
  refine ⟨h9, Or.inr ⟨List.cons_ne_nil _ _, h10, fun i hi => ?_⟩⟩
  have hi2 : i < 2 := hi
  rcases (show i = 0 ∨ i = 1 by omega) with rfl | rfl
  · exact ⟨c0, p0⟩
  · exact ⟨c1, p1⟩
theorem c_rs_3 {z : tZ} {J I : tI} {rs : Nat} {x a b c : Int} {p q r : Nat} (h9 : (I rs 9).toInt = x) (h10 : (I rs 10).toInt = 3) (c0 : (I (h_ad z rs 11) 0).toInt = a) (p0 : (I (h_ad z rs 12) 0).toInt = (p : Int)) (c1 : (I (h_ad z rs 11) 1).toInt = b) (p1 : (I (h_ad z rs 12) 1).toInt = (q : Int)) (c2 : (I (h_ad z rs 11) 2).toInt = c) (p2 : (I (h_ad z rs 12) 2).toInt = (r : Int)) : c_rs z J I rs (x, [(a, p), (b, q), (c, r)]) := by
  refine ⟨h9, Or.inr ⟨List.cons_ne_nil _ _, h10, fun i hi => ?_⟩⟩
  have hi2 : i < 3 := hi
  rcases (show i = 0 ∨ i = 1 ∨ i = 2 by omega) with rfl | rfl | rfl
  · exact ⟨c0, p0⟩
  · exact ⟨c1, p1⟩
  · exact ⟨c2, p2⟩
theorem c_gr.F {M : List (Nat × Nat)} {z : tZ} {I I1 : tI} {rs n : Nat} {cb : Nat → Int32} {G : Int → Nat → Nat → Int} (h : c_gr z I rs n cb G) (hR : h_R z) (trs : z.ty rs = 8) (f : h_F M z I I1) (m2 : ∀ k, h_m M 802 k = false) (m3 : ∀ k, h_m M 803 k = false) (m6 : ∀ k, h_m M 856 k = false) (m7 : ∀ k, h_m M 807 k = false) (m8 : ∀ k, h_m M 808 k = false) : c_gr z I1 rs n cb G := by
  obtain ⟨h1, h2, h3, h4, h5⟩ := h
  have t2 := (hR.ad trs (rfl : h_rs 8 2 = some (802, false)) (by decide)).2
  have t3 := (hR.ad trs (rfl : h_rs 8 3 = some (803, false)) (by decide)).2
  have t6 := (hR.ad trs (rfl : h_rs 8 6 = some (806, false)) (by decide)).2
  have t7 := (hR.ad trs (rfl : h_rs 8 7 = some (807, false)) (by decide)).2
  have t8 := (hR.ad trs (rfl : h_rs 8 8 = some (808, false)) (by decide)).2
  refine ⟨h1, h2.c (fun k => f.at t3 (m3 k)), fun d q h8 hq hd => by rw [f.at t2 (m2 _)]; exact h3 d q h8 hq hd, fun c p hc hp hd => ?_, fun c hc => by rw [f.at t8 (m8 _)]; exact h5 c hc⟩
  have tr := (hR.ad t6 (rfl : h_rs 806 p = some (856, false)) (by rw [so_806]; show p < 60; omega)).2
  obtain ⟨a1, a2⟩ := h4 c p hc hp hd
  rw [f.at t7 (m7 _), f.at t8 (m8 _)]
  exact ⟨a1.c (fun q => f.at tr (m6 q)) (f.at t7 (m7 p)), a2⟩
theorem c_gr.top {z : tZ} {I : tI} {rs n : Nat} {cb : Nat → Int32} {G : Int → Nat → Nat → Int} (h : c_gr z I rs n cb G) {c d : Int} (hc : 0 ≤ c ∧ c ≤ 7) (hd : 0 ≤ d) (hcd : d ≠ c) {p q : Nat} (hp : p < n) (hq : q < n) (h1 : (cb p).toInt = c) (h2 : (cb q).toInt = d) : G c p q ≤ (I (h_ad z rs 7) p).toInt ∧ (I (h_ad z rs 7) p).toInt ≤ (I (h_ad z rs 8) c.toNat).toInt := by
  obtain ⟨_, _, _, h4, _⟩ := h
  have e : ((c.toNat : Nat) : Int) = c := by omega
  obtain ⟨a1, a2⟩ := h4 c.toNat p (by omega) hp (by rw [e]; exact h1)
  rw [e] at a1
  exact ⟨(a1.1 q hq (by omega) (by omega)).2, a2⟩
/-- the class's functions stay -/
theorem c_all_F {M : List (Nat × Nat)} {z : tZ} {I I1 : tI} (hR : h_R z) (f : h_F M z I I1) {bk pl : Nat} (tbk : z.ty bk = 1) (apl : h_ad z bk 1 = pl) (tpl : z.ty pl = 101) (h1 : ∀ k, h_m M 1 k = false) (h7 : ∀ k, h_m M 7 k = false) (h154 : ∀ k, h_m M 154 k = false) (h708 : ∀ k, h_m M 708 k = false) {n : Nat} (en : (I bk 2).toInt.toNat = n) (h0 : 0 ≤ (I bk 2).toInt) (h60 : n ≤ 60) (hnn : ∀ p : Nat, p < n → z.R pl p ≠ none) (u : Nat → Int) : (∀ p : Nat, p < n → c_cb z I1 bk p = c_cb z I bk p) ∧ (∀ p : Nat, p < n → c_pyp z I1 bk p = c_pyp z I bk p) ∧ (∀ p : Nat, p < n → c_ctp z I1 bk (u 6) p = c_ctp z I bk (u 6) p) ∧ ∀ (c : Int) (o i : Nat), 0 ≤ c → c ≤ 7 → o < n → i < n → c_G z I1 bk u c o i = c_G z I bk u c o i := by
  have e3 := f.at tbk (h1 3)
  have e2 := f.at tbk (h1 2)
  have a1 : ∀ p : Nat, p < n → c_cb z I1 bk p = c_cb z I bk p := fun p hp => by
    obtain ⟨b, rb, tb, ab⟩ := h_plb hR tpl (by omega) (hnn p hp)
    unfold c_cb
    rw [apl, ab]
    exact f.at tb (h7 0)
  have a2 : ∀ p : Nat, p < n → c_pyp z I1 bk p = c_pyp z I bk p := fun p hp => by
    obtain ⟨b, rb, tb, ab⟩ := h_plb hR tpl (by omega) (hnn p hp)
    unfold c_pyp
    rw [apl, ab, e3, f.at tb (h7 0), f.at tb (h7 1), f.at tb (h7 2), f.at tb (h7 3), f.at tb (h7 4)]
  have a3 : ∀ p : Nat, p < n → c_ctp z I1 bk (u 6) p = c_ctp z I bk (u 6) p := fun p hp => by
    obtain ⟨b, rb, tb, ab⟩ := h_plb hR tpl (by omega) (hnn p hp)
    unfold c_ctp
    rw [apl, ab, e3, f.at tb (h7 0), f.at tb (h7 1), f.at tb (h7 2), f.at tb (h7 3), f.at tb (h7 4), f.at tb (h7 6), f.at tb (h7 7)]
  refine ⟨a1, a2, a3, fun c o i hc0 hc7 ho hi => ?_⟩
  refine r_g_c (c_w_F hR f tbk apl tpl h708 (by omega) (hnn i hi)) (c_w_F hR f tbk apl tpl h708 (by omega) (hnn o ho)) ?_
  unfold c_L
  rw [e2, en, e3, a2 o ho, a2 i hi, a3 o ho, a3 i hi, c_cnt_F hR f tbk apl tpl h1 h7 h154 (n := (n : Int)) (by omega) (by omega) (fun p hp => hnn p (by omega)) ⟨hc0, hc7⟩, q_ct_c n (P := q_mc (c_cb z I1 bk) c) (Q := q_mc (c_cb z I bk) c) (fun p hp => by unfold q_mc; rw [a1 p hp])]
/-- what is told of a ring -/
def r_tl (mn : Int) (P Q : Nat → Int32) (x v : Int) : Prop := (mn ≤ 0 ∧ v = -1) ∨ (0 < mn ∧ x = 0 ∧ v = mn) ∨ (1 ≤ x ∧ x ≤ mn ∧ v = (P (x - 1).toNat).toInt) ∨ (0 < mn ∧ 4 ≤ x ∧ x ≤ 3 + mn ∧ v = (Q (x - 4).toNat).toInt) ∨ (0 < mn ∧ (x < 0 ∨ (mn < x ∧ x < 4) ∨ 3 + mn < x) ∧ v = -1)
theorem r_tl.eq {mn : Int} {P Q R S : Nat → Int32} {x v w : Int} (h : r_tl mn P Q x v) (g : r_tl mn R S x w) (h3 : mn ≤ 3) (e : ∀ i : Nat, (i : Int) < mn → P i = R i ∧ Q i = S i) : v = w := by
  rcases h with ⟨h1, h2⟩ | ⟨h1, h2, h3⟩ | ⟨h1, h2, h3⟩ | ⟨h0, h1, h2, h3⟩ | ⟨h1, h2, h3⟩ <;> rcases g with ⟨g1, g2⟩ | ⟨g1, g2, g3⟩ | ⟨g1, g2, g3⟩ | ⟨g0, g1, g2, g3⟩ | ⟨g1, g2, g3⟩ <;> first | omega | (rw [h3, g3, (e (x - 1).toNat (by omega)).1]; done) | (rw [h3, g3, (e (x - 4).toNat (by omega)).2]; done)
/-- a loop over the places of a club: the state behind k of them -/
def r_lp (z : tZ) (J I : tI) (rs : Nat) (P : Nat → Bool) (f : tS → Nat → tS) (s : tS) (n k : Nat) : Prop := ∃ t : tS, r_at P f s n k t ∧ c_rs z J I rs t

