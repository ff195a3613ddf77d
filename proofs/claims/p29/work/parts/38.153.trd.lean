/-! a trade over the tables: the class, the reference -/
def c_kd (I : tI) (it fr to_ : Nat) (c : Int) (i : Nat) : Nat := if (I it i).toInt ≠ 0 then 0 else if (I to_ i).toInt = c then 1 else if (I fr i).toInt = c then 2 else 0
def c_py (z : tZ) (I : tI) (bk th : Nat) (i : Nat) : Int32 := q_pay (I (h_ad z (h_ad z bk 1) (I th i).toInt.toNat) 0) (I (h_ad z (h_ad z bk 1) (I th i).toInt.toNat) 1) (I (h_ad z (h_ad z bk 1) (I th i).toInt.toNat) 2) (I (h_ad z (h_ad z bk 1) (I th i).toInt.toNat) 3) (I (h_ad z (h_ad z bk 1) (I th i).toInt.toNat) 4) (I bk 3)
def c_ct (z : tZ) (I : tI) (bk th : Nat) (h : Int) (i : Nat) : Int32 := q_cnt (I (h_ad z (h_ad z bk 1) (I th i).toInt.toNat) 0) (I (h_ad z (h_ad z bk 1) (I th i).toInt.toNat) 1) (I (h_ad z (h_ad z bk 1) (I th i).toInt.toNat) 2) (I (h_ad z (h_ad z bk 1) (I th i).toInt.toNat) 3) (I (h_ad z (h_ad z bk 1) (I th i).toInt.toNat) 4) (I (h_ad z (h_ad z bk 1) (I th i).toInt.toNat) 6) (I (h_ad z (h_ad z bk 1) (I th i).toInt.toNat) 7) (I bk 3) (I bk 3) h
def c_tfx (z : tZ) (I : tI) (bk it th fr to_ : Nat) (n : Nat) (u : Nat → Int) (c : Int) : Int := q_tf u (c_many z I bk c (I bk 3) + q_pm (c_kd I it fr to_ c) (fun _ => 1) 0 n) (c_cnt z I bk c (I bk 3) (u 6) + q_pm (c_kd I it fr to_ c) (c_ct z I bk th (u 6)) 0 n) (q_on 1 (c_kd I it fr to_ c) (c_py z I bk th) n) (q_on 2 (c_kd I it fr to_ c) (c_py z I bk th) n)
def c_ft (z : tZ) (I : tI) (bg : Nat) (u : Nat → Int) (c : Nat) : Int := if (I bg 4).toInt.toNat.testBit c = false then 0 else c_tfx z I (h_ad z bg 0) (h_ad z bg 5) (h_ad z bg 6) (h_ad z bg 7) (h_ad z bg 8) (I bg 3).toInt.toNat u c
def m_kd (I : tI) (md mf mt : Nat) (c : Int) (i : Nat) : Nat := if 60 ≤ (I md i).toInt then 0 else if (I mt i).toInt = c then 1 else if (I mf i).toInt = c then 2 else 0
def m_py (z : tZ) (I : tI) (mo md : Nat) (i : Nat) : Int32 := q_pay (I (h_ad z mo 14) (I md i).toInt.toNat) (I (h_ad z mo 15) (I md i).toInt.toNat) (I (h_ad z mo 16) (I md i).toInt.toNat) (I (h_ad z mo 17) (I md i).toInt.toNat) (I (h_ad z mo 18) (I md i).toInt.toNat) (I mo 12)
def m_ct (z : tZ) (I : tI) (mo md : Nat) (h : Int) (i : Nat) : Int32 := q_cn2 (I (h_ad z mo 14) (I md i).toInt.toNat) (I (h_ad z mo 15) (I md i).toInt.toNat) (I (h_ad z mo 16) (I md i).toInt.toNat) (I (h_ad z mo 17) (I md i).toInt.toNat) (I (h_ad z mo 18) (I md i).toInt.toNat) (I (h_ad z mo 20) (I md i).toInt.toNat) (I (h_ad z mo 21) (I md i).toInt.toNat) (I (h_ad z mo 22) (I md i).toInt.toNat) (I mo 12) (I mo 12) h
def m_tfx (z : tZ) (I : tI) (mo md mf mt : Nat) (n : Nat) (u : Nat → Int) (c : Int) : Int := q_tf u (q_pm (m_kd I md mf mt c) (fun _ => 1) (m_many z I mo c (I mo 12)) n) (q_pm (m_kd I md mf mt c) (m_ct z I mo md (u 6)) (m_cnt z I mo c (I mo 12) (u 6)) n) (q_on 1 (m_kd I md mf mt c) (m_py z I mo md) n) (q_on 2 (m_kd I md mf mt c) (m_py z I mo md) n)
def m_ft (z : tZ) (I : tI) (mo : Nat) (u : Nat → Int) (c : Nat) : Int := if (q_cb (I (h_ad z mo 35)) (I (h_ad z mo 36)) (I mo 33).toInt.toNat).toInt.toNat.testBit c = false then 0 else m_tfx z I mo (h_ad z mo 34) (h_ad z mo 35) (h_ad z mo 36) (I mo 33).toInt.toNat u c
/-- steps over the moves -/
theorem q_pm_1 {a : Nat → Nat} {f : Nat → Int32} {s x y : Int32} {n n1 : Nat} (h : x = q_pm a f s n) (e : n1 = n + 1) (ha : a n = 1) (ey : y = x + f n) : y = q_pm a f s n1 := by
  rw [e, ey, h]
  exact (if_pos ha).symm
theorem q_pm_2 {a : Nat → Nat} {f : Nat → Int32} {s x y : Int32} {n n1 : Nat} (h : x = q_pm a f s n) (e : n1 = n + 1) (ha : a n = 2) (ey : y = x - f n) : y = q_pm a f s n1 := by
  rw [e, ey, h]
  show _ = (if a n = 1 then q_pm a f s n + f n else if a n = 2 then q_pm a f s n - f n else q_pm a f s n)
  rw [if_neg (by omega), if_pos ha]
theorem q_pm_0 {a : Nat → Nat} {f : Nat → Int32} {s x : Int32} {n n1 : Nat} (h : x = q_pm a f s n) (e : n1 = n + 1) (ha : a n = 0) : x = q_pm a f s n1 := by
  rw [e, h]
  show _ = (if a n = 1 then q_pm a f s n + f n else if a n = 2 then q_pm a f s n - f n else q_pm a f s n)
  rw [if_neg (by omega), if_neg (by omega)]
theorem q_on_1 {k : Nat} {a : Nat → Nat} {f : Nat → Int32} {x y : Int32} {n n1 : Nat} (h : x = q_on k a f n) (e : n1 = n + 1) (ha : a n = k) (ey : y = x + f n) : y = q_on k a f n1 := by
  rw [e, ey, h]
  exact (if_pos ha).symm
theorem q_on_0 {k : Nat} {a : Nat → Nat} {f : Nat → Int32} {x : Int32} {n n1 : Nat} (h : x = q_on k a f n) (e : n1 = n + 1) (ha : a n ≠ k) : x = q_on k a f n1 := by
  rw [e, h]
  exact (if_neg ha).symm
theorem c_kd_0 {I : tI} {it fr to_ : Nat} {c : Int} {i : Nat} (h : (I it i).toInt ≠ 0 ∨ ((I to_ i).toInt ≠ c ∧ (I fr i).toInt ≠ c)) : c_kd I it fr to_ c i = 0 := by
  unfold c_kd
  by_cases h1 : (I it i).toInt ≠ 0
  · rw [if_pos h1]
  · rw [if_neg h1, if_neg (by omega), if_neg (by omega)]
theorem c_kd_1 {I : tI} {it fr to_ : Nat} {c : Int} {i : Nat} (h : (I it i).toInt = 0) (h1 : (I to_ i).toInt = c) : c_kd I it fr to_ c i = 1 := by
  unfold c_kd
  rw [if_neg (by omega), if_pos h1]
theorem c_kd_2 {I : tI} {it fr to_ : Nat} {c : Int} {i : Nat} (h : (I it i).toInt = 0) (h1 : (I to_ i).toInt ≠ c) (h2 : (I fr i).toInt = c) : c_kd I it fr to_ c i = 2 := by
  unfold c_kd
  rw [if_neg (by omega), if_neg h1, if_pos h2]
theorem m_kd_0 {I : tI} {md mf mt : Nat} {c : Int} {i : Nat} (h : 60 ≤ (I md i).toInt ∨ ((I mt i).toInt ≠ c ∧ (I mf i).toInt ≠ c)) : m_kd I md mf mt c i = 0 := by
  unfold m_kd
  by_cases h1 : 60 ≤ (I md i).toInt
  · rw [if_pos h1]
  · rw [if_neg h1, if_neg (by omega), if_neg (by omega)]
theorem m_kd_1 {I : tI} {md mf mt : Nat} {c : Int} {i : Nat} (h : (I md i).toInt < 60) (h1 : (I mt i).toInt = c) : m_kd I md mf mt c i = 1 := by
  unfold m_kd
  rw [if_neg (by omega), if_pos h1]
theorem m_kd_2 {I : tI} {md mf mt : Nat} {c : Int} {i : Nat} (h : (I md i).toInt < 60) (h1 : (I mt i).toInt ≠ c) (h2 : (I mf i).toInt = c) : m_kd I md mf mt c i = 2 := by
  unfold m_kd
  rw [if_neg (by omega), if_neg h1, if_pos h2]
/-! tables that differ elsewhere -/
theorem h_lwF {M : List (Nat × Nat)} {z : tZ} {I I1 : tI} (hR : h_R z) (f : h_F M z I I1) (h6 : ∀ k, h_m M 6 k = false) (h600 : ∀ k, h_m M 600 k = false) (h601 : ∀ k, h_m M 601 k = false) {tx un : Nat} (ttx : z.ty tx = 401) (tun : z.ty un = 6) {y : Int} {u : Nat → Int} (h : ∀ b : Nat, h_of (z.R tx) un y b → h_lw I b (h_ad z b 0) (h_ad z b 1) u) : ∀ b : Nat, h_of (z.R tx) un y b → h_lw I1 b (h_ad z b 0) (h_ad z b 1) u := by
  intro b hb
  have tb : z.ty b = 6 := by
    rcases hb with ⟨k, hk, _, hr, _⟩ | ⟨hb, _⟩
    · exact hR.opt ttx (rfl : h_rs 401 _ = some (6, true)) (by rw [so_401]; exact hk) hr
    · rw [hb]
      exact tun
  obtain ⟨n, rn, tn⟩ := hR.at b 0 tb (rfl : h_rs 6 0 = some (600, false)) (by decide)
  obtain ⟨l, rl, tl⟩ := hR.at b 1 tb (rfl : h_rs 6 1 = some (601, false)) (by decide)
  have h1 := h b hb
  rw [h_ad.at rn, h_ad.at rl] at h1 ⊢
  exact h1.c (fun i => f.at tn (h600 i)) (f.at tb (h6 2)) (fun i => f.at tl (h601 i))
theorem h_plb {z : tZ} (hR : h_R z) {pl p : Nat} (tp : z.ty pl = 101) (hp : p < 60) (hn : z.R pl p ≠ none) : ∃ b, z.R pl p = some b ∧ z.ty b = 7 ∧ h_ad z pl p = b := by
  rcases hR.nl pl p tp (rfl : h_rs 101 p = some (7, true)) (by rw [so_101]; exact hp) with q | ⟨b, rb, tb⟩
  · exact absurd q hn
  · exact ⟨b, rb, tb, h_ad.at rb⟩
theorem c_cnt_F {M : List (Nat × Nat)} {z : tZ} {I I1 : tI} (hR : h_R z) (f : h_F M z I I1) {bk pl : Nat} (tbk : z.ty bk = 1) (apl : h_ad z bk 1 = pl) (tpl : z.ty pl = 101) (h1 : ∀ k, h_m M 1 k = false) (h7 : ∀ k, h_m M 7 k = false) (h154 : ∀ k, h_m M 154 k = false) {n : Int} (en : (I bk 2).toInt = n) (h60 : n ≤ 60) (hnn : ∀ p : Nat, (p : Int) < n → z.R pl p ≠ none) {c : Int} (hc : 0 ≤ c ∧ c ≤ 7) (y : Int32) (h : Int) : c_cnt z I1 bk c y h = c_cnt z I bk c y h := by
  obtain ⟨dd, rdd, tdd⟩ := hR.at bk 4 tbk (rfl : h_rs 1 4 = some (104, false)) (by decide)
  obtain ⟨ro, rro, tro⟩ := hR.at dd c.toNat tdd (rfl : h_rs 104 _ = some (154, false)) (by rw [so_104]; show _ < 8; omega)
  unfold c_cnt
  rw [f.at tbk (h1 2), h_ad.at rdd, h_ad.at rro, f.at tro (h154 _)]
  refine q_sums_eq _ (fun p hp => ?_)
  obtain ⟨b, rb, tb, ab⟩ := h_plb hR (p := p) tpl (by omega) (hnn p (by omega))
  unfold c_f
  rw [apl, ab, f.at tb (h7 0), f.at tb (h7 1), f.at tb (h7 2), f.at tb (h7 3), f.at tb (h7 4), f.at tb (h7 6), f.at tb (h7 7), f.at tbk (h1 3)]
theorem c_many_F {M : List (Nat × Nat)} {z : tZ} {I I1 : tI} (hR : h_R z) (f : h_F M z I I1) {bk pl : Nat} (tbk : z.ty bk = 1) (apl : h_ad z bk 1 = pl) (tpl : z.ty pl = 101) (h1 : ∀ k, h_m M 1 k = false) (h7 : ∀ k, h_m M 7 k = false) {n : Int} (en : (I bk 2).toInt = n) (h60 : n ≤ 60) (hnn : ∀ p : Nat, (p : Int) < n → z.R pl p ≠ none) (c : Int) (y : Int32) : c_many z I1 bk c y = c_many z I bk c y := by
  unfold c_many
  rw [f.at tbk (h1 2)]
  refine q_sums_eq _ (fun p hp => ?_)
  obtain ⟨b, rb, tb, ab⟩ := h_plb hR (p := p) tpl (by omega) (hnn p (by omega))
  unfold c_g
  rw [apl, ab, f.at tb (h7 0), f.at tb (h7 1), f.at tb (h7 2), f.at tb (h7 6)]
theorem q_tf_1 {u : Nat → Int} {mn cn pin pout : Int32} {r : Int} (h : u 1 < mn.toInt) (hr : r = 1) : r = q_tf u mn cn pin pout := by
  unfold q_tf
  rw [if_pos h, hr]
theorem q_tf_2 {u : Nat → Int} {mn cn pin pout : Int32} {r : Int} (h : mn.toInt ≤ u 1) (h1 : u 0 < cn.toInt) (h2 : pout.toInt * u 4 / 100 + u 5 < pin.toInt) (hr : r = 2) : r = q_tf u mn cn pin pout := by
  unfold q_tf
  rw [if_neg (by omega), if_pos ⟨h1, h2⟩, hr]
theorem q_tf_0 {u : Nat → Int} {mn cn pin pout : Int32} {r : Int} (h : mn.toInt ≤ u 1) (h1 : cn.toInt ≤ u 0 ∨ pin.toInt ≤ pout.toInt * u 4 / 100 + u 5) (hr : r = 0) : r = q_tf u mn cn pin pout := by
  unfold q_tf
  rw [if_neg (by omega), if_neg (by omega), hr]
/-! gains: over the moves -/
def c_kg (I : tI) (fr to_ : Nat) (c : Int) (i : Nat) : Nat := if (I to_ i).toInt = c then 1 else if (I fr i).toInt = c then 2 else 0
def c_wm (z : tZ) (I : tI) (bg c : Nat) (i : Nat) : Int32 := if (I (h_ad z bg 5) i).toInt ≠ 0 then I (h_ad z (h_ad z (h_ad z bg 1) 3) c) (I (h_ad z bg 6) i).toInt.toNat else I (h_ad z (h_ad z (h_ad z (h_ad z bg 0) 1) (I (h_ad z bg 6) i).toInt.toNat) 8) c
theorem c_kg_0 {I : tI} {fr to_ : Nat} {c : Int} {i : Nat} (h : (I to_ i).toInt ≠ c) (h1 : (I fr i).toInt ≠ c) : c_kg I fr to_ c i = 0 := by
  unfold c_kg
  rw [if_neg h, if_neg h1]
theorem c_kg_1 {I : tI} {fr to_ : Nat} {c : Int} {i : Nat} (h : (I to_ i).toInt = c) : c_kg I fr to_ c i = 1 := by
  unfold c_kg
  rw [if_pos h]
theorem c_kg_2 {I : tI} {fr to_ : Nat} {c : Int} {i : Nat} (h : (I to_ i).toInt ≠ c) (h1 : (I fr i).toInt = c) : c_kg I fr to_ c i = 2 := by
  unfold c_kg
  rw [if_neg h, if_pos h1]
theorem c_kd_it {I : tI} {it fr to_ : Nat} {c : Int} {i : Nat} (h : c_kd I it fr to_ c i ≠ 0) : (I it i).toInt = 0 := Classical.byContradiction (fun q => h (c_kd_0 (Or.inl q)))
/-- what judging a trade rests on -/
def h_tpre (z : tZ) (I : tI) (bk it th : Nat) (n : Int) (u : Nat → Int) : Prop := (∀ b : Nat, h_of (z.R (h_ad z (h_ad z bk 0) 1)) (h_ad z (h_ad z bk 0) 0) (I bk 3).toInt b → h_lw I b (h_ad z b 0) (h_ad z b 1) u) ∧ q_okb u ∧ (∀ p : Nat, (p : Int) < (I bk 2).toInt → z.R (h_ad z bk 1) p ≠ none) ∧ (∀ i : Nat, (i : Int) < n → (I it i).toInt = 0 → 0 ≤ (I th i).toInt ∧ (I th i).toInt < (I bk 2).toInt) ∧ (∀ p : Nat, (p : Int) < (I bk 2).toInt → 0 ≤ (q_pay (I (h_ad z (h_ad z bk 1) p) 0) (I (h_ad z (h_ad z bk 1) p) 1) (I (h_ad z (h_ad z bk 1) p) 2) (I (h_ad z (h_ad z bk 1) p) 3) (I (h_ad z (h_ad z bk 1) p) 4) (I bk 3)).toInt ∧ (q_pay (I (h_ad z (h_ad z bk 1) p) 0) (I (h_ad z (h_ad z bk 1) p) 1) (I (h_ad z (h_ad z bk 1) p) 2) (I (h_ad z (h_ad z bk 1) p) 3) (I (h_ad z (h_ad z bk 1) p) 4) (I bk 3)).toInt ≤ 30000)
theorem h_tpre.F {M : List (Nat × Nat)} {z : tZ} {I I1 : tI} {bk it th : Nat} {n : Int} {u : Nat → Int} (h : h_tpre z I bk it th n u) (hI : h_I z I) (hR : h_R z) (f : h_F M z I I1) (tbk : z.ty bk = 1) (tit : z.ty it = 1005) (tth : z.ty th = 1006) (h1 : ∀ k, h_m M 1 k = false) (h6 : ∀ k, h_m M 6 k = false) (h600 : ∀ k, h_m M 600 k = false) (h601 : ∀ k, h_m M 601 k = false) (h7 : ∀ k, h_m M 7 k = false) (h5 : ∀ k, h_m M 1005 k = false) (h66 : ∀ k, h_m M 1006 k = false) : h_tpre z I1 bk it th n u := by
  obtain ⟨a1, a2, a3, a4, a5⟩ := h
  obtain ⟨lb, rlb, tlb⟩ := hR.at bk 0 tbk (rfl : h_rs 1 0 = some (4, false)) (by decide)
  obtain ⟨pl, rpl, tpl⟩ := hR.at bk 1 tbk (rfl : h_rs 1 1 = some (101, false)) (by decide)
  obtain ⟨un, run_, tun⟩ := hR.at lb 0 tlb (rfl : h_rs 4 0 = some (6, false)) (by decide)
  obtain ⟨tx, rtx, ttx⟩ := hR.at lb 1 tlb (rfl : h_rs 4 1 = some (401, false)) (by decide)
  have j2 := hI.rd bk 2 tbk rfl (rfl : h_bd 1 2 = (0, 60))
  rw [h_ad.at rlb, h_ad.at rtx, h_ad.at run_] at a1
  rw [h_ad.at rpl] at a3 a5
  unfold h_tpre
  rw [h_ad.at rlb, h_ad.at rtx, h_ad.at run_, h_ad.at rpl, f.at tbk (h1 3), f.at tbk (h1 2)]
  refine ⟨h_lwF hR f h6 h600 h601 ttx tun a1, a2, a3, fun i hi h0 => ?_, fun p hp => ?_⟩
  · rw [f.at tit (h5 i)] at h0
    rw [f.at tth (h66 i)]
    exact a4 i hi h0
  · obtain ⟨b, rb, tb, ab⟩ := h_plb hR (p := p) tpl (by omega) (a3 p hp)
    have h9 := a5 p hp
    rw [ab] at h9 ⊢
    rw [f.at tb (h7 0), f.at tb (h7 1), f.at tb (h7 2), f.at tb (h7 3), f.at tb (h7 4)]
    exact h9
theorem c_tfx_F {M : List (Nat × Nat)} {z : tZ} {I I1 : tI} {bk it th fr to_ : Nat} {n : Nat} {u : Nat → Int} (h : h_tpre z I bk it th n u) (hI : h_I z I) (hR : h_R z) (f : h_F M z I I1) (tbk : z.ty bk = 1) (tit : z.ty it = 1005) (tth : z.ty th = 1006) (tfr : z.ty fr = 1007) (tto : z.ty to_ = 1008) (h1 : ∀ k, h_m M 1 k = false) (h7 : ∀ k, h_m M 7 k = false) (h154 : ∀ k, h_m M 154 k = false) (h5 : ∀ k, h_m M 1005 k = false) (h66 : ∀ k, h_m M 1006 k = false) (h67 : ∀ k, h_m M 1007 k = false) (h68 : ∀ k, h_m M 1008 k = false) {c : Int} (hc : 0 ≤ c ∧ c ≤ 7) : c_tfx z I1 bk it th fr to_ n u c = c_tfx z I bk it th fr to_ n u c := by
  obtain ⟨a1, a2, a3, a4, a5⟩ := h
  obtain ⟨pl, rpl, tpl⟩ := hR.at bk 1 tbk (rfl : h_rs 1 1 = some (101, false)) (by decide)
  have j2 := hI.rd bk 2 tbk rfl (rfl : h_bd 1 2 = (0, 60))
  rw [h_ad.at rpl] at a3
  have ek : c_kd I1 it fr to_ c = c_kd I it fr to_ c := by
    funext i
    unfold c_kd
    rw [f.at tit (h5 i), f.at tto (h68 i), f.at tfr (h67 i)]
  have cell : ∀ i : Nat, i < n → c_kd I it fr to_ c i ≠ 0 → ∃ b, h_ad z (h_ad z bk 1) (I1 th i).toInt.toNat = b ∧ h_ad z (h_ad z bk 1) (I th i).toInt.toNat = b ∧ z.ty b = 7 := by
    intro i hi hk
    have h9 := a4 i (by omega) (c_kd_it hk)
    obtain ⟨b, rb, tb, ab⟩ := h_plb hR (p := (I th i).toInt.toNat) tpl (by omega) (a3 _ (by omega))
    exact ⟨b, by rw [f.at tth (h66 i), h_ad.at rpl]; exact ab, by rw [h_ad.at rpl]; exact ab, tb⟩
  have e1 : ∀ i : Nat, i < n → c_kd I it fr to_ c i = c_kd I it fr to_ c i ∧ (c_kd I it fr to_ c i ≠ 0 → c_py z I1 bk th i = c_py z I bk th i) := by
    intro i hi
    refine ⟨rfl, fun hk => ?_⟩
    obtain ⟨b, g1, g2, tb⟩ := cell i hi hk
    unfold c_py
    rw [g1, g2, f.at tb (h7 0), f.at tb (h7 1), f.at tb (h7 2), f.at tb (h7 3), f.at tb (h7 4), f.at tbk (h1 3)]
  have e2 : ∀ i : Nat, i < n → c_kd I it fr to_ c i = c_kd I it fr to_ c i ∧ (c_kd I it fr to_ c i ≠ 0 → c_ct z I1 bk th (u 6) i = c_ct z I bk th (u 6) i) := by
    intro i hi
    refine ⟨rfl, fun hk => ?_⟩
    obtain ⟨b, g1, g2, tb⟩ := cell i hi hk
    unfold c_ct
    rw [g1, g2, f.at tb (h7 0), f.at tb (h7 1), f.at tb (h7 2), f.at tb (h7 3), f.at tb (h7 4), f.at tb (h7 6), f.at tb (h7 7), f.at tbk (h1 3)]
  unfold c_tfx
  rw [ek, f.at tbk (h1 3), c_many_F hR f tbk (h_ad.at rpl) tpl h1 h7 rfl j2.2 a3, c_cnt_F hR f tbk (h_ad.at rpl) tpl h1 h7 h154 rfl j2.2 a3 hc, q_pm_eq n e2, q_on_eq (k := 1) (by decide) n e1, q_on_eq (k := 2) (by decide) n e1]
theorem h_tpre.po {z : tZ} {I : tI} {bk it th fr to_ : Nat} {n : Nat} {u : Nat → Int} (h : h_tpre z I bk it th n u) (hn : n ≤ 12) (c : Int) (k : Nat) (hk : k ≠ 0) : 0 ≤ (q_on k (c_kd I it fr to_ c) (c_py z I bk th) n).toInt ∧ (q_on k (c_kd I it fr to_ c) (c_py z I bk th) n).toInt ≤ 400000 := by
  obtain ⟨a1, a2, a3, a4, a5⟩ := h
  have h1 := q_on_b (k := k) (a := c_kd I it fr to_ c) (f := c_py z I bk th) n hn (fun i hi hq => by
    have h9 := a4 i (by omega) (c_kd_it hq)
    exact a5 (I th i).toInt.toNat (by omega)) hk
  omega
theorem q_hunT {n h v d : Int32} {k : Int} (ev : v = n * h) (ed : d = v / 100) (hk : h.toInt = k) (h0 : 0 ≤ n.toInt) (hn : n.toInt ≤ 1000000) (k0 : 0 ≤ k) (k1 : k ≤ 300) : d.toInt = n.toInt * k / 100 ∧ 0 ≤ d.toInt ∧ d.toInt ≤ 3000000 := by
  have hb := q_mulb h0 hn k0 k1
  have hv : v.toInt = n.toInt * k := xi_mul ev rfl hk (by omega) (by omega)
  have hd : d.toInt = n.toInt * k / 100 := (xi_div ed (by omega) (by decide : (100 : Int32).toInt = 100) (by decide)).trans (by rw [hv])
  have h1 : 0 ≤ n.toInt * k / 100 := Int.ediv_nonneg hb.1 (by decide)
  exact ⟨hd, by omega, by omega⟩

