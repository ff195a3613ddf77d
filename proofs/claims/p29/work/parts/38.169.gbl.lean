/-! moves: one more; who is in it; what is wrong -/
theorem g_mv.add {z : tZ} {I I2 : tI} {bg it th fr to_ sg mo md mf mt mg pl hd : Nat} {nb n : Int} {x y a b k w kw : Int32} (h : g_mv z I bg it th fr to_ sg mo md mf mt mg pl hd nb) (en : (I mo 33).toInt = n) (h0 : 0 ≤ n) (c3 : (I2 bg 3).toInt = n + 1) (m3 : (I2 mo 33).toInt = n + 1) (c4 : I2 bg 4 = I bg 4 ||| (q_sh a ||| q_sh b)) (d1 : ∀ j : Nat, I2 th j = if j = n.toNat then x else I th j) (d2 : ∀ j : Nat, I2 it j = if j = n.toNat then y else I it j) (d3 : ∀ j : Nat, I2 fr j = if j = n.toNat then a else I fr j) (d4 : ∀ j : Nat, I2 to_ j = if j = n.toNat then b else I to_ j) (d5 : ∀ j : Nat, I2 sg j = if j = n.toNat then k else I sg j) (d6 : ∀ j : Nat, I2 md j = if j = n.toNat then w else I md j) (d7 : ∀ j : Nat, I2 mf j = if j = n.toNat then a else I mf j) (d8 : ∀ j : Nat, I2 mt j = if j = n.toNat then b else I mt j) (d9 : ∀ j : Nat, I2 mg j = if j = n.toNat then kw else I mg j) (ep : ∀ p : Nat, (p : Int) < nb → I2 (h_ad z pl p) 0 = I (h_ad z pl p) 0) (eh : ∀ k : Nat, I2 hd k = I hd k)
    (ha : 0 ≤ a.toInt ∧ a.toInt ≤ 7) (hb : 0 ≤ b.toInt ∧ b.toInt ≤ 7) (hab : a.toInt ≠ b.toInt) (hn : (y.toInt = 0 ∧ x = w ∧ 0 ≤ w.toInt ∧ w.toInt < nb ∧ (I (h_ad z pl w.toInt.toNat) 0).toInt ≠ -1) ∨ (y.toInt ≠ 0 ∧ w.toInt = 60 + x.toInt ∧ 0 ≤ x.toInt ∧ x.toInt ≤ 79 ∧ k = kw ∧ (0 ≤ kw.toInt ∧ kw.toInt ≤ 8) ∧ I hd x.toInt.toNat = a)) (hd_ : ¬ m_has I md n w.toInt) : g_mv z I2 bg it th fr to_ sg mo md mf mt mg pl hd nb := by
  obtain ⟨h1, h2, h3, h4⟩ := h
  rw [en] at h2 h3 h4
  unfold g_mv
  rw [m3]
  have eN : (n + 1).toNat = n.toNat + 1 := by omega
  refine ⟨xi_of (by rw [c3, m3]), ?_, fun i hi => ?_, fun i j hij hj => ?_⟩
  · rw [eN, c4, h2]
    show _ = q_cb (I2 mf) (I2 mt) n.toNat ||| (q_sh (I2 mf n.toNat) ||| q_sh (I2 mt n.toNat))
    rw [d7, d8, if_pos rfl, if_pos rfl, q_cb_eq (f := I2 mf) (t := I2 mt) (f' := I mf) (t' := I mt) n.toNat (fun i hi => by
      rw [d7, d8, if_neg (by omega), if_neg (by omega)]
      exact ⟨rfl, rfl⟩)]
  · by_cases hin : i = n.toNat
    · unfold g_m1
      rw [d1, d2, d3, d4, d5, d6, d7, d8, d9, hin]
      simp only [if_pos]
      refine ⟨⟨trivial, trivial, ha, hb, hab⟩, ?_⟩
      rcases hn with ⟨a1, a2, a3, a4, a5⟩ | ⟨a1, a2, a3, a4, a5, a6, a7⟩
      · exact Or.inl ⟨a1, a2, a3, a4, by rw [ep _ (by omega)]; exact a5⟩
      · exact Or.inr ⟨a1, a2, a3, a4, a5, a6, by rw [eh]; exact a7⟩
    · exact (h3 i (by omega)).c (Int.le_refl _) (by rw [d2, if_neg hin]) (by rw [d1, if_neg hin]) (by rw [d3, if_neg hin]) (by rw [d4, if_neg hin]) (by rw [d5, if_neg hin]) (by rw [d6, if_neg hin]) (by rw [d7, if_neg hin]) (by rw [d8, if_neg hin]) (by rw [d9, if_neg hin]) (fun p hp hq => by rw [ep p hp]; exact hq) (fun k _ => eh k)
  · rw [d6, d6, if_neg (by omega)]
    by_cases hjn : j = n.toNat
    · rw [if_pos hjn]
      exact fun hc => hd_ ⟨i, by omega, hc⟩
    · rw [if_neg hjn]
      exact h4 i j hij (by omega)
theorem g_has_p {z : tZ} {I : tI} {bg it th fr to_ sg mo md mf mt mg pl hd : Nat} {nb x : Int} (h : g_mv z I bg it th fr to_ sg mo md mf mt mg pl hd nb) (hx : x < 60) : c_has I th it (I bg 3).toInt x 0 ↔ m_has I md (I mo 33).toInt x := by
  obtain ⟨h1, h2, h3, h4⟩ := h
  rw [h1]
  constructor
  · rintro ⟨i, a1, a2, a3⟩
    rcases (h3 i a1).2 with ⟨b1, b2, _⟩ | ⟨b1, _⟩
    · exact ⟨i, a1, by rw [← b2]; exact a2⟩
    · exact absurd a3 b1
  · rintro ⟨i, a1, a2⟩
    rcases (h3 i a1).2 with ⟨b1, b2, _⟩ | ⟨b1, b2, b3, _⟩
    · exact ⟨i, a1, by rw [b2]; exact a2, b1⟩
    · omega
theorem g_has_t {z : tZ} {I : tI} {bg it th fr to_ sg mo md mf mt mg pl hd : Nat} {nb x : Int} (h : g_mv z I bg it th fr to_ sg mo md mf mt mg pl hd nb) (h60 : nb ≤ 60) (hb : ∀ i : Nat, 0 ≤ (I it i).toInt ∧ (I it i).toInt ≤ 1) (hx : 0 ≤ x) : c_has I th it (I bg 3).toInt x 1 ↔ m_has I md (I mo 33).toInt (60 + x) := by
  obtain ⟨h1, h2, h3, h4⟩ := h
  rw [h1]
  constructor
  · rintro ⟨i, a1, a2, a3⟩
    rcases (h3 i a1).2 with ⟨b1, _⟩ | ⟨b1, b2, _⟩
    · omega
    · exact ⟨i, a1, by omega⟩
  · rintro ⟨i, a1, a2⟩
    rcases (h3 i a1).2 with ⟨b1, b2, b3, b4, _⟩ | ⟨b1, b2, _⟩
    · omega
    · have := hb i
      exact ⟨i, a1, by omega, by omega⟩
theorem q_lst_eq2 {cd cd' : Nat → Int} {v v' : Nat → Int32} {k : Int} {old old' : Int32} : ∀ n : Nat, (∀ i : Nat, i < n → cd i = cd' i ∧ (cd i = k → v i = v' i)) → (∃ i : Nat, i < n ∧ cd i = k) → q_lst cd v k old n = q_lst cd' v' k old' n := by
  intro n
  induction n with
  | zero =>
    intro _ h
    obtain ⟨i, hi, _⟩ := h
    omega
  | succ n ih =>
    intro h hx
    obtain ⟨h1, h2⟩ := h n (by omega)
    show (if cd n = k then v n else q_lst cd v k old n) = (if cd' n = k then v' n else q_lst cd' v' k old' n)
    rw [← h1]
    by_cases hk : cd n = k
    · rw [if_pos hk, if_pos hk, h2 hk]
    · rw [if_neg hk, if_neg hk]
      refine ih (fun i hi => h i (by omega)) ?_
      obtain ⟨i, hi, hc⟩ := hx
      refine ⟨i, ?_, hc⟩
      by_cases hin : i = n
      · rw [hin] at hc
        exact absurd hc hk
      · omega
/-- the codes of moves are alike -/
theorem g_mv.cd {z : tZ} {I : tI} {bg it th fr to_ sg mo md mf mt mg pl hd : Nat} {nb : Int} (h : g_mv z I bg it th fr to_ sg mo md mf mt mg pl hd nb) {i : Nat} (hi : (i : Int) < (I mo 33).toInt) : c_cd I it th i = (I md i).toInt := by
  rcases (h.2.2.1 i hi).2 with ⟨b1, b2, _⟩ | ⟨b1, b2, _⟩
  · rw [c_cd_p b1, b2]
  · rw [c_cd_t b1, b2]
theorem g_mv.kd {z : tZ} {I : tI} {bg it th fr to_ sg mo md mf mt mg pl hd : Nat} {nb : Int} (h : g_mv z I bg it th fr to_ sg mo md mf mt mg pl hd nb) (h60 : nb ≤ 60) {i : Nat} (hi : (i : Int) < (I mo 33).toInt) (c : Int) : c_kd I it fr to_ c i = m_kd I md mf mt c i ∧ (c_kd I it fr to_ c i ≠ 0 → I th i = I md i ∧ 0 ≤ (I md i).toInt ∧ (I md i).toInt < nb) := by
  obtain ⟨⟨a1, a2, a3, a4, a5⟩, h2⟩ := h.2.2.1 i hi
  rcases h2 with ⟨b1, b2, b3, b4, b5⟩ | ⟨b1, b2, b3, b4, _⟩
  · refine ⟨?_, fun _ => ⟨b2, b3, b4⟩⟩
    unfold c_kd m_kd
    rw [if_neg (show ¬ (I it i).toInt ≠ 0 by omega), if_neg (show ¬ 60 ≤ (I md i).toInt by omega), a1, a2]
  · refine ⟨?_, fun hk => absurd (c_kd_it hk) b1⟩
    rw [c_kd_0 (Or.inl b1), m_kd_0 (Or.inl (by omega))]
theorem h_p1.pay {I : tI} {b cb fi la pa ri su hc it hu p : Nat} (h : h_p1 I b cb fi la pa ri su hc it hu p) (y : Int32) : q_pay (I b 0) (I b 1) (I b 2) (I b 3) (I b 4) y = q_pay (I cb p) (I fi p) (I la p) (I pa p) (I ri p) y := by
  obtain ⟨h1, h2, h3, h4, h5, _⟩ := h
  by_cases hs : (I b 0).toInt = -1
  · have hs2 : (I cb p).toInt = -1 := by rw [← h1]; exact hs
    unfold q_pay
    rw [if_pos (Or.inl hs), if_pos (Or.inl hs2)]
  · obtain ⟨a1, a2, a3, a4, a5, a6⟩ := h4 hs
    rw [h1, a1, a2, a3, a4]
/-- what is wrong with a trade for one club: both tell the same -/
theorem g_tfx {z : tZ} {I : tI} {bk mo bg it th fr to_ sg hd : Nat} {nb : Int} {n : Nat} (gpl : h_plr z I (h_ad z bk 1) (h_ad z mo 14) (h_ad z mo 15) (h_ad z mo 16) (h_ad z mo 17) (h_ad z mo 18) (h_ad z mo 19) (h_ad z mo 20) (h_ad z mo 21) (h_ad z mo 22) nb) (en : (I bk 2).toInt = nb) (h60 : nb ≤ 60) (gdd : h_dd z I (h_ad z bk 4) (h_ad z mo 23)) (sz : I bk 2 = I mo 13) (ck : I bk 3 = I mo 12) (h12 : 0 ≤ (I mo 12).toInt ∧ (I mo 12).toInt ≤ 9) (gmv : g_mv z I bg it th fr to_ sg mo (h_ad z mo 34) (h_ad z mo 35) (h_ad z mo 36) (h_ad z mo 37) (h_ad z bk 1) hd nb) (hn : (n : Int) = (I mo 33).toInt) (u : Nat → Int) {c : Int} (hc : 0 ≤ c ∧ c ≤ 7) : c_tfx z I bk it th fr to_ n u c = m_tfx z I mo (h_ad z mo 34) (h_ad z mo 35) (h_ad z mo 36) n u c := by
  have e1 := gpl.cnt (bk := bk) (mo := mo) en h60 gdd sz ck (c := c) (y := I mo 12) hc h12 (u 6)
  have e2 := gpl.many (bk := bk) (mo := mo) en h60 sz c (I mo 12)
  have k1 : ∀ f : Nat → Int32, ∀ i : Nat, i < n → c_kd I it fr to_ c i = m_kd I (h_ad z mo 34) (h_ad z mo 35) (h_ad z mo 36) c i ∧ (c_kd I it fr to_ c i ≠ 0 → f i = f i) := fun f i hi => ⟨(gmv.kd h60 (by omega) c).1, fun _ => rfl⟩
  have k2 : ∀ i : Nat, i < n → c_kd I it fr to_ c i = m_kd I (h_ad z mo 34) (h_ad z mo 35) (h_ad z mo 36) c i ∧ (c_kd I it fr to_ c i ≠ 0 → c_py z I bk th i = m_py z I mo (h_ad z mo 34) i) := by
    intro i hi
    obtain ⟨a1, a2⟩ := gmv.kd h60 (i := i) (by omega) c
    refine ⟨a1, fun hk => ?_⟩
    obtain ⟨b1, b2, b3⟩ := a2 hk
    have hp := (gpl.2 (I (h_ad z mo 34) i).toInt.toNat (by omega)).1 (by omega)
    unfold c_py m_py
    rw [b1, ck]
    exact hp.pay (I mo 12)
  have k3 : ∀ i : Nat, i < n → c_kd I it fr to_ c i = m_kd I (h_ad z mo 34) (h_ad z mo 35) (h_ad z mo 36) c i ∧ (c_kd I it fr to_ c i ≠ 0 → c_ct z I bk th (u 6) i = m_ct z I mo (h_ad z mo 34) (u 6) i) := by
    intro i hi
    obtain ⟨a1, a2⟩ := gmv.kd h60 (i := i) (by omega) c
    refine ⟨a1, fun hk => ?_⟩
    obtain ⟨b1, b2, b3⟩ := a2 hk
    have hp := (gpl.2 (I (h_ad z mo 34) i).toInt.toNat (by omega)).1 (by omega)
    unfold c_ct m_ct
    rw [b1, ck]
    exact hp.cnt (I mo 12) (I mo 12) (u 6)
  unfold c_tfx m_tfx
  rw [ck, e1, e2, q_pm_eq n (k1 (fun _ => 1)), q_pm_eq n k3, q_on_eq (k := 1) (by decide) n k2, q_on_eq (k := 2) (by decide) n k2, ← q_pm_s, ← q_pm_s]

