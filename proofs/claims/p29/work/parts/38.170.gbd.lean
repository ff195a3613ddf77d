/-! a deal done: what becomes of players and turns -/
theorem g_deal_p1 {z : tZ} {I I2 : tI} {bg it th fr to_ sg mo md mf mt mg pl hd b cb fi la pa ri su hc is hu p n : Nat} {nb : Int} (gmv : g_mv z I bg it th fr to_ sg mo md mf mt mg pl hd nb) (hn : (n : Int) = (I mo 33).toInt) (h60 : nb ≤ 60) (h1 : h_p1 I b cb fi la pa ri su hc is hu p) (hpn : (p : Int) < nb) (ab : h_ad z pl p = b)
    (p0 : I2 b 0 = q_lst (c_cd I it th) (I to_) p (I b 0) n) (q0 : I2 cb p = q_lst (fun i : Nat => (I md i).toInt) (I mt) p (I cb p) n) (eb : ∀ k : Nat, 1 ≤ k → k < 8 → I2 b k = I b k) (e1 : I2 fi p = I fi p) (e2 : I2 la p = I la p) (e3 : I2 pa p = I pa p) (e4 : I2 ri p = I ri p) (e5 : I2 su p = I su p) (e6 : I2 hc p = I hc p) (e7 : I2 is p = I is p) (e8 : I2 hu p = I hu p) : h_p1 I2 b cb fi la pa ri su hc is hu p := by
  obtain ⟨a1, a2, a3, a4, a5⟩ := h1
  have hq : I2 b 0 = I2 cb p := by
    rw [p0, q0]
    refine q_lst_eq a1 n (fun i hi => ⟨gmv.cd (by omega), fun _ => ?_⟩)
    exact (gmv.2.2.1 i (by omega)).1.2.1
  have hc9 := q_lst_c (cd := c_cd I it th) (v := I to_) (k := (p : Int)) (old := I b 0) n
  rw [← p0] at hc9
  have hm : ∀ i : Nat, i < n → c_cd I it th i = (p : Int) → (I b 0).toInt ≠ -1 ∧ (I to_ i).toInt ≠ -1 := by
    intro i hi hc
    obtain ⟨⟨b1, b2, b3, b4, b5⟩, b6⟩ := gmv.2.2.1 i (by omega)
    rw [gmv.cd (by omega)] at hc
    rcases b6 with ⟨d1, d2, d3, d4, d5⟩ | ⟨d1, d2, d3, d4, _⟩
    · rw [hc, Int.toNat_natCast, ab] at d5
      exact ⟨d5, by rw [b2]; omega⟩
    · omega
  unfold h_p1
  rw [eb 1 (by decide) (by decide), eb 2 (by decide) (by decide), eb 3 (by decide) (by decide), eb 4 (by decide) (by decide), eb 5 (by decide) (by decide), eb 6 (by decide) (by decide), eb 7 (by decide) (by decide), e1, e2, e3, e4, e5, e6, e7, e8]
  refine ⟨hq, a2, fun h9 => ?_, fun h9 => ?_, a5⟩
  · rcases hc9 with ⟨c1, _⟩ | ⟨i, c1, c2, c3⟩
    · rw [c1] at h9
      exact a3 h9
    · rw [c3] at h9
      exact absurd h9 (hm i c1 c2).2
  · rcases hc9 with ⟨c1, _⟩ | ⟨i, c1, c2, c3⟩
    · rw [c1] at h9
      exact a4 h9
    · exact a4 (hm i c1 c2).1
theorem g_deal_tu {z : tZ} {I I2 : tI} {bg it th fr to_ sg mo md mf mt mg pl hd sh gv ow gu gi n : Nat} {nb : Int} (gmv : g_mv z I bg it th fr to_ sg mo md mf mt mg pl hd nb) (hn : (n : Int) = (I mo 33).toInt) (h60 : nb ≤ 60) (gtu : g_tu I hd sh gv ow gu gi) (p : h_tdo I I2 hd sh gv to_ sg (c_cd I it th) n) (q : h_tdm I I2 ow gu gi mt mg mf (fun i : Nat => (I md i).toInt) n) : g_tu I2 hd sh gv ow gu gi := by
  intro k hk
  obtain ⟨a1, a2, a3, a4, a5⟩ := gtu k hk
  obtain ⟨p1, p2, p3⟩ := p k hk
  obtain ⟨q1, q2, q3⟩ := q k hk
  have ecd : ∀ i : Nat, i < n → c_cd I it th i = (I md i).toInt := fun i hi => gmv.cd (by omega)
  have hm : ∀ i : Nat, i < n → c_cd I it th i = 60 + (k : Int) → (I to_ i = I mt i ∧ 0 ≤ (I to_ i).toInt ∧ (I to_ i).toInt ≤ 7) ∧ (I sg i = I mg i ∧ 0 ≤ (I sg i).toInt ∧ (I sg i).toInt ≤ 8) ∧ I hd k = I mf i ∧ 0 ≤ (I mf i).toInt ∧ (I mf i).toInt ≤ 7 := by
    intro i hi hc
    obtain ⟨⟨b1, b2, b3, b4, b5⟩, b6⟩ := gmv.2.2.1 i (by omega)
    rw [ecd i hi] at hc
    rcases b6 with ⟨d1, d2, d3, d4, d5⟩ | ⟨d1, d2, d3, d4, d5, d6, d7⟩
    · omega
    · rw [show (I th i).toInt.toNat = k by omega] at d7
      exact ⟨⟨b2, by rw [b2]; omega⟩, ⟨d5, by rw [d5]; omega⟩, d7, b3⟩
  have e1 : I2 hd k = I2 ow k := by
    rw [p1, q1]
    exact q_lst_eq a1 n (fun i hi => ⟨ecd i hi, fun hc => (hm i hi hc).1.1⟩)
  have e2 : I2 sh k = I2 gu k := by
    rw [p2, q2]
    exact q_lst_eq a2 n (fun i hi => ⟨ecd i hi, fun hc => (hm i hi hc).2.1.1⟩)
  have c1 := q_lst_c (cd := c_cd I it th) (v := I to_) (k := 60 + (k : Int)) (old := I hd k) n
  have c2 := q_lst_c (cd := c_cd I it th) (v := I sg) (k := 60 + (k : Int)) (old := I sh k) n
  rw [← p1] at c1
  rw [← p2] at c2
  refine ⟨e1, e2, ?_, ?_, fun h9 => ?_⟩
  · rcases c1 with ⟨d1, _⟩ | ⟨i, d1, d2, d3⟩
    · rw [d1]
      exact a3
    · rw [d3]
      exact (hm i d1 d2).1.2
  · rcases c2 with ⟨d1, _⟩ | ⟨i, d1, d2, d3⟩
    · rw [d1]
      exact a4
    · rw [d3]
      exact (hm i d1 d2).2.1.2
  · by_cases hx : ∃ i : Nat, i < n ∧ c_cd I it th i = 60 + (k : Int)
    · have key : ∀ i : Nat, i < n → c_cd I it th i = 60 + (k : Int) → q_lst (c_cd I it th) (I to_) (60 + (k : Int)) (I hd k) i = I mf i := by
        intro i hi hc
        rcases q_lst_c (cd := c_cd I it th) (v := I to_) (k := 60 + (k : Int)) (old := I hd k) i with ⟨d1, _⟩ | ⟨j, d1, d2, d3⟩
        · rw [d1]
          exact (hm i hi hc).2.2.1
        · exfalso
          have h8 := gmv.2.2.2 j i d1 (by omega)
          rw [← ecd j (by omega), ← ecd i hi, d2, hc] at h8
          exact h8 rfl
      have e3 : I2 gv k = I2 gi k := by
        rw [p3, q3]
        exact q_lst_eq2 n (fun i hi => ⟨ecd i hi, fun hc => key i hi hc⟩) hx
      refine ⟨e3, ?_⟩
      rw [e3, q3]
      rcases q_lst_c (cd := fun i : Nat => (I md i).toInt) (v := I mf) (k := 60 + (k : Int)) (old := I gi k) n with ⟨_, d2⟩ | ⟨i, d1, d2, d3⟩
      · obtain ⟨i, hi, hc⟩ := hx
        exact absurd (by rw [← ecd i hi]; exact hc) (d2 i hi)
      · rw [d3]
        exact (hm i d1 (by rw [ecd i d1]; exact d2)).2.2.2
    · have n1 : ∀ i : Nat, i < n → c_cd I it th i ≠ 60 + (k : Int) := fun i hi hc => hx ⟨i, hi, hc⟩
      have s1 : I2 sh k = I sh k := by
        rcases c2 with ⟨d1, _⟩ | ⟨i, d1, d2, _⟩
        · exact d1
        · exact absurd d2 (n1 i d1)
      have g1 : I2 gv k = I gv k := by
        rw [p3]
        rcases q_lst_c (cd := c_cd I it th) (v := fun i : Nat => q_lst (c_cd I it th) (I to_) (60 + (k : Int)) (I hd k) i) (k := 60 + (k : Int)) (old := I gv k) n with ⟨d1, _⟩ | ⟨i, d1, d2, _⟩
        · exact d1
        · exact absurd d2 (n1 i d1)
      have g2 : I2 gi k = I gi k := by
        rw [q3]
        rcases q_lst_c (cd := fun i : Nat => (I md i).toInt) (v := I mf) (k := 60 + (k : Int)) (old := I gi k) n with ⟨d1, _⟩ | ⟨i, d1, d2, _⟩
        · exact d1
        · exact absurd (by rw [ecd i d1]; exact d2) (n1 i d1)
      rw [s1] at h9
      rw [g1, g2]
      exact a5 h9
theorem m_ft_eq {z : tZ} {I I1 : tI} {mo : Nat} (e0 : I1 mo = I mo) (e14 : I1 (h_ad z mo 14) = I (h_ad z mo 14)) (e15 : I1 (h_ad z mo 15) = I (h_ad z mo 15)) (e16 : I1 (h_ad z mo 16) = I (h_ad z mo 16)) (e17 : I1 (h_ad z mo 17) = I (h_ad z mo 17)) (e18 : I1 (h_ad z mo 18) = I (h_ad z mo 18)) (e20 : I1 (h_ad z mo 20) = I (h_ad z mo 20)) (e21 : I1 (h_ad z mo 21) = I (h_ad z mo 21)) (e22 : I1 (h_ad z mo 22) = I (h_ad z mo 22)) (e23 : I1 (h_ad z mo 23) = I (h_ad z mo 23)) (e34 : I1 (h_ad z mo 34) = I (h_ad z mo 34)) (e35 : I1 (h_ad z mo 35) = I (h_ad z mo 35)) (e36 : I1 (h_ad z mo 36) = I (h_ad z mo 36)) (u : Nat → Int) : m_ft z I1 mo u = m_ft z I mo u := by
  have k1 : ∀ c : Int, m_kd I1 (h_ad z mo 34) (h_ad z mo 35) (h_ad z mo 36) c = m_kd I (h_ad z mo 34) (h_ad z mo 35) (h_ad z mo 36) c := by
    intro c
    funext i
    unfold m_kd
    rw [e34, e35, e36]
  have k2 : m_py z I1 mo (h_ad z mo 34) = m_py z I mo (h_ad z mo 34) := by
    funext i
    unfold m_py
    rw [e0, e34, e14, e15, e16, e17, e18]
  have k3 : m_ct z I1 mo (h_ad z mo 34) (u 6) = m_ct z I mo (h_ad z mo 34) (u 6) := by
    funext i
    unfold m_ct
    rw [e0, e34, e14, e15, e16, e17, e18, e20, e21, e22]
  funext c
  obtain ⟨m1, m2⟩ := m_cnt_eq (z := z) e0 e14 e15 e16 e17 e18 e20 e21 e22 e23 (c : Int) (I mo 12) (u 6)
  unfold m_ft m_tfx
  rw [e0, e35, e36, k1, k2, k3, m1, m2]
theorem g_ft {z : tZ} {I : tI} {bk mo bg hd : Nat} {nb : Int} (gpl : h_plr z I (h_ad z bk 1) (h_ad z mo 14) (h_ad z mo 15) (h_ad z mo 16) (h_ad z mo 17) (h_ad z mo 18) (h_ad z mo 19) (h_ad z mo 20) (h_ad z mo 21) (h_ad z mo 22) nb) (en : (I bk 2).toInt = nb) (h60 : nb ≤ 60) (gdd : h_dd z I (h_ad z bk 4) (h_ad z mo 23)) (sz : I bk 2 = I mo 13) (ck : I bk 3 = I mo 12) (h12 : 0 ≤ (I mo 12).toInt ∧ (I mo 12).toInt ≤ 9) (gmv : g_mv z I bg (h_ad z bg 5) (h_ad z bg 6) (h_ad z bg 7) (h_ad z bg 8) (h_ad z bg 9) mo (h_ad z mo 34) (h_ad z mo 35) (h_ad z mo 36) (h_ad z mo 37) (h_ad z bk 1) hd nb) (hal : h_ad z bg 0 = bk) (h33 : 0 ≤ (I mo 33).toInt) (u : Nat → Int) {c : Nat} (hc : c < 8) : c_ft z I bg u c = m_ft z I mo u c := by
  unfold c_ft m_ft
  rw [hal, gmv.1, gmv.2.1]
  by_cases hb : (q_cb (I (h_ad z mo 35)) (I (h_ad z mo 36)) (I mo 33).toInt.toNat).toInt.toNat.testBit c = false
  · rw [if_pos hb, if_pos hb]
  · rw [if_neg hb, if_neg hb]
    exact g_tfx gpl en h60 gdd sz ck h12 gmv (by omega) u (by omega)

