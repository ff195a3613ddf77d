/-! calls that change who is signed, or dead money -/
theorem g_fb_sign {z : tZ} {I1 I2 : tI} {mo T : Nat} {r2 : Int32} {p_t c_t y_t n_t u_t q_t h_t : Int} {c y n u q0 h : Int32} {u_ : Nat → Int} (R : h_fb z I1 mo T) (hR : h_R z) (tmo : z.ty mo = 13)  (q : (¬ (0 ≤ p_t ∧ p_t < (I1 mo 13).toInt ∧ 0 ≤ c_t ∧ c_t ≤ 7 ∧ 1 ≤ y_t ∧ y_t ≤ 5 ∧ 0 ≤ n_t ∧ n_t ≤ 20000 ∧ -500 ≤ u_t ∧ u_t ≤ 500 ∧ 0 ≤ q_t ∧ q_t ≤ 100 ∧ (h_t = 0 ∨ 2 ≤ y_t)) ∧ r2.toInt = -2 ∧ I2 = I1) ∨ ((0 ≤ p_t ∧ p_t < (I1 mo 13).toInt ∧ 0 ≤ c_t ∧ c_t ≤ 7 ∧ 1 ≤ y_t ∧ y_t ≤ 5 ∧ 0 ≤ n_t ∧ n_t ≤ 20000 ∧ -500 ≤ u_t ∧ u_t ≤ 500 ∧ 0 ≤ q_t ∧ q_t ≤ 100 ∧ (h_t = 0 ∨ 2 ≤ y_t)) ∧ ∃ f : Int, q_flt ((I1 (h_ad z mo 14) p_t.toNat).toInt ≠ -1) (u_ 1 ≤ (m_many z I1 mo c_t (I1 mo 12)).toInt) (u_ 2 < y_t) (u_ 0 < (m_cnt z I1 mo c_t (I1 mo 12) (u_ 6) + n).toInt ∧ (u_ 3 < n_t ∨ (I1 (h_ad z mo 24) c_t.toNat).toInt ≠ 0)) f ∧ ((f ≠ 0 ∧ r2.toInt = 0 ∧ I2 = I1) ∨ (f = 0 ∧ r2.toInt = 1 ∧ (I2 (h_ad z mo 14) p_t.toNat = c ∧ I2 (h_ad z mo 15) p_t.toNat = I1 mo 12 ∧ I2 (h_ad z mo 16) p_t.toNat = I1 mo 12 + y - 1 ∧ I2 (h_ad z mo 17) p_t.toNat = n ∧ I2 (h_ad z mo 18) p_t.toNat = u ∧ I2 (h_ad z mo 19) p_t.toNat = q0 ∧ I2 (h_ad z mo 20) p_t.toNat = h ∧ I2 (h_ad z mo 21) p_t.toNat = 0) ∧ (∀ k : Nat, k ≠ p_t.toNat → I2 (h_ad z mo 14) k = I1 (h_ad z mo 14) k ∧ I2 (h_ad z mo 15) k = I1 (h_ad z mo 15) k ∧ I2 (h_ad z mo 16) k = I1 (h_ad z mo 16) k ∧ I2 (h_ad z mo 17) k = I1 (h_ad z mo 17) k ∧ I2 (h_ad z mo 18) k = I1 (h_ad z mo 18) k ∧ I2 (h_ad z mo 19) k = I1 (h_ad z mo 19) k ∧ I2 (h_ad z mo 20) k = I1 (h_ad z mo 20) k ∧ I2 (h_ad z mo 21) k = I1 (h_ad z mo 21) k) ∧ ((((I1 (h_ad z mo 24) c_t.toNat).toInt ≠ 0 ∨ u_ 0 < (m_cnt z I1 mo c_t (I1 mo 12) (u_ 6) + n).toInt) ∧ I2 (h_ad z mo 24) c_t.toNat = 1) ∨ ((I1 (h_ad z mo 24) c_t.toNat).toInt = 0 ∧ (m_cnt z I1 mo c_t (I1 mo 12) (u_ 6) + n).toInt ≤ u_ 0 ∧ I2 (h_ad z mo 24) c_t.toNat = 0)) ∧ (∀ k : Nat, k ≠ c_t.toNat → I2 (h_ad z mo 24) k = I1 (h_ad z mo 24) k) ∧ I2 mo 33 = 0)))) (f2 : h_F [(1324, 999), (1314, 999), (1315, 999), (1316, 999), (1317, 999), (1318, 999), (1319, 999), (1320, 999), (1321, 999), (13, 33)] z I1 I2) : h_fb z I2 mo (T + 1) := by
  have tcb := (hR.ad tmo (rfl : h_rs 13 14 = some (1314, false)) (by decide)).2
  have tde := (hR.ad tmo (rfl : h_rs 13 23 = some (1323, false)) (by decide)).2
  rcases q with ⟨q1, q2, q3⟩ | ⟨q1, gl, q2, q3⟩
  · rw [q3]
    exact R.up
  rcases q3 with ⟨b1, b2, b3⟩ | ⟨b1, b2, b3, b4, b5, b6, b7⟩
  · rw [b3]
    exact R.up
  refine R.le (fun k => f2.at tde rfl) ?_
  rw [show I2 mo 13 = I1 mo 13 from f2.at tmo rfl]
  have h9 := q_sg_up (cb := I1 (h_ad z mo 14)) (cb1 := I2 (h_ad z mo 14)) (p := p_t.toNat) (I1 mo 13).toInt.toNat (fun i hi hn hc => by rw [← (b4 i hn).1]; exact hc)
  split at h9 <;> omega
theorem g_fb_waive {z : tZ} {I I1 I2 : tI} {cp mo T : Nat} {r2 : Int32} {p_t : Int} (R : h_fb z I1 mo T) (hR : h_R z) (hI : h_I z I) (tmo : z.ty mo = 13) (tcp : z.ty cp = 12) (G : h_gb z I cp mo) (er : h_er z I I1)  (hT : T ≤ 511) (q : (¬ (0 ≤ p_t ∧ p_t < (I1 mo 13).toInt) ∧ r2.toInt = -2 ∧ I2 = I1) ∨ ((0 ≤ p_t ∧ p_t < (I1 mo 13).toInt) ∧ (I1 (h_ad z mo 14) p_t.toNat).toInt = -1 ∧ r2.toInt = -4 ∧ I2 = I1) ∨ ((0 ≤ p_t ∧ p_t < (I1 mo 13).toInt) ∧ (I1 (h_ad z mo 14) p_t.toNat).toInt ≠ -1 ∧ r2 = q_rel (I1 mo 12).toInt.toNat (q_pr2 (I1 (h_ad z mo 14) p_t.toNat) (I1 (h_ad z mo 15) p_t.toNat) (I1 (h_ad z mo 16) p_t.toNat) (I1 (h_ad z mo 17) p_t.toNat) (I1 (h_ad z mo 18) p_t.toNat) (I1 (h_ad z mo 19) p_t.toNat) (I1 (h_ad z mo 20) p_t.toNat) (I1 (h_ad z mo 21) p_t.toNat)) (10 - (I1 mo 12).toInt.toNat) ∧ (∀ k : Nat, I2 (h_ad z mo 23) (10 * (I1 (h_ad z mo 14) p_t.toNat).toInt.toNat + k) = q_dea (I1 mo 12).toInt.toNat 10 (q_pr2 (I1 (h_ad z mo 14) p_t.toNat) (I1 (h_ad z mo 15) p_t.toNat) (I1 (h_ad z mo 16) p_t.toNat) (I1 (h_ad z mo 17) p_t.toNat) (I1 (h_ad z mo 18) p_t.toNat) (I1 (h_ad z mo 19) p_t.toNat) (I1 (h_ad z mo 20) p_t.toNat) (I1 (h_ad z mo 21) p_t.toNat)) (fun j : Nat => I1 (h_ad z mo 23) (10 * (I1 (h_ad z mo 14) p_t.toNat).toInt.toNat + j)) k) ∧ (∀ k : Nat, k < 10 * (I1 (h_ad z mo 14) p_t.toNat).toInt.toNat → I2 (h_ad z mo 23) k = I1 (h_ad z mo 23) k) ∧ I2 (h_ad z mo 14) p_t.toNat = -1 ∧ (∀ k : Nat, k ≠ p_t.toNat → I2 (h_ad z mo 14) k = I1 (h_ad z mo 14) k) ∧ I2 mo 33 = 0)) (f2 : h_F [(1323, 999), (1314, 999), (13, 33)] z I1 I2) : h_fb z I2 mo (T + 1) := by
  obtain ⟨⟨tcp, tmo⟩, ⟨tbk, ttu, tbg, tdt⟩, ⟨tpl, tdd, tsu⟩, ⟨thd, tsh, tgv, two⟩, ⟨tit, tth, tfr, tto, tsg⟩, ⟨trk, tdr, tod, thv⟩, ⟨tlw, thy, ttb, tww⟩, ⟨tcb, tfi, tla, tpa, tri, tss, thc, tis, thu⟩, ⟨tde, tus, tow, tgi, tgu, tdw, tdx⟩, ⟨tmd, tmf, tmt, tmg⟩⟩ := h_tyB.mk hR tcp tmo
  obtain ⟨gsz, gpl, gdd, gsp, gtu, gmv, grk, gor, glb, gtw, gwp, gpz⟩ := G
  have j13 := hI.rd mo 13 tmo rfl (rfl : h_bd 13 13 = (0, 60))
  have x_cb := er.at tcb (by decide)
  have x_fi := er.at tfi (by decide)
  have x_la := er.at tla (by decide)
  have x_pa := er.at tpa (by decide)
  have x_ri := er.at tri (by decide)
  have x_ss := er.at tss (by decide)
  have x_mo := er.at tmo (by decide)
  rcases q with ⟨q1, q2, q3⟩ | ⟨q1, q2, q3, q4⟩ | ⟨q1, q2, q3, q4, q5, q6, q7, q8⟩
  · rw [q3]
    exact R.up
  · rw [q4]
    exact R.up
  have hcb := hI.rd (h_ad z mo 14) p_t.toNat tcb rfl (rfl : h_bd 1314 _ = (-1, 7))
  rw [x_mo] at q1
  obtain ⟨_, _, _, _, _, h6, h7, h8, h9⟩ := (gpl.2 p_t.toNat (by omega)).1 (by omega)
  rw [x_cb] at q2 q4 q5 q7
  rw [x_fi, x_la, x_pa, x_ri, x_ss] at q4
  refine R.wv hT (fun k hk => ?_) ?_
  · by_cases hkc : k < 10 * (I (h_ad z mo 14) p_t.toNat).toInt.toNat
    · exact ⟨0, by decide, by decide, by rw [q5 k hkc, Int32.add_zero]⟩
    · obtain ⟨j, hj⟩ : ∃ j : Nat, k = 10 * (I (h_ad z mo 14) p_t.toNat).toInt.toNat + j := ⟨k - 10 * (I (h_ad z mo 14) p_t.toNat).toInt.toNat, by omega⟩
      rw [hj, q4 j]
      unfold q_dea
      by_cases c9 : (I1 mo 12).toInt.toNat ≤ j ∧ j < 10
      · rw [if_pos c9]
        refine ⟨_, ?_, ?_, rfl⟩
        all_goals (unfold q_pr2)
        · split
          · exact (q_hun_b (q_pay_0 _ _ _ _ _ _) (q_pay_245 h6 (by rw [q_ofiI (by omega) (by omega)]; omega) h7 h8) h9.1 h9.2).1
          · decide
        · split
          · have h3 := q_pay_245 (cl := I (h_ad z mo 14) p_t.toNat) (la := I (h_ad z mo 16) p_t.toNat) (y := Int32.ofInt (j : Int)) h6 (by rw [q_ofiI (by omega) (by omega)]; omega) h7 h8
            exact Int.le_trans (q_hun_b (q_pay_0 _ _ _ _ _ _) h3 h9.1 h9.2).2 h3
          · decide
      · rw [if_neg c9]
        exact ⟨0, by decide, by decide, (Int32.add_zero _).symm⟩
  · rw [show I2 mo 13 = I1 mo 13 from f2.at tmo rfl, x_mo]
    refine q_sg_dn (p := p_t.toNat) (by rw [q6]; decide) (by rw [x_cb]; exact q2) (I mo 13).toInt.toNat (fun i hi hn hc => by rw [x_cb, ← q7 i hn]; exact hc) (by omega)
theorem g_fb_deal {z : tZ} {I I1 I2 : tI} {cp mo T : Nat} {r2 : Int32} {u_ : Nat → Int} (R : h_fb z I1 mo T) (hR : h_R z) (hI : h_I z I) (tmo : z.ty mo = 13) (tcp : z.ty cp = 12) (G : h_gb z I cp mo) (er : h_er z I I1)  (q : ((I1 mo 33).toInt = 0 ∧ r2.toInt = -4 ∧ I2 = I1) ∨ ((I1 mo 33).toInt ≠ 0 ∧ q_ff (m_ft z I1 mo u_) 8 ≠ 0 ∧ r2.toInt = 0 ∧ I2 = I1) ∨ ((I1 mo 33).toInt ≠ 0 ∧ q_ff (m_ft z I1 mo u_) 8 = 0 ∧ r2 = I1 mo 33 ∧ h_mdo I1 I2 (h_ad z mo 14) (h_ad z mo 36) (fun i : Nat => (I1 (h_ad z mo 34) i).toInt) (I1 mo 33).toInt.toNat ∧ h_tdm I1 I2 (h_ad z mo 25) (h_ad z mo 27) (h_ad z mo 26) (h_ad z mo 36) (h_ad z mo 37) (h_ad z mo 35) (fun i : Nat => (I1 (h_ad z mo 34) i).toInt) (I1 mo 33).toInt.toNat ∧ I2 mo 33 = 0)) (f2 : h_F [(1314, 999), (1325, 999), (1327, 999), (1326, 999), (13, 33)] z I1 I2) : h_fb z I2 mo (T + 1) := by
  obtain ⟨⟨tcp, tmo⟩, ⟨tbk, ttu, tbg, tdt⟩, ⟨tpl, tdd, tsu⟩, ⟨thd, tsh, tgv, two⟩, ⟨tit, tth, tfr, tto, tsg⟩, ⟨trk, tdr, tod, thv⟩, ⟨tlw, thy, ttb, tww⟩, ⟨tcb, tfi, tla, tpa, tri, tss, thc, tis, thu⟩, ⟨tde, tus, tow, tgi, tgu, tdw, tdx⟩, ⟨tmd, tmf, tmt, tmg⟩⟩ := h_tyB.mk hR tcp tmo
  obtain ⟨gsz, gpl, gdd, gsp, gtu, gmv, grk, gor, glb, gtw, gwp, gpz⟩ := G
  have j13 := hI.rd mo 13 tmo rfl (rfl : h_bd 13 13 = (0, 60))
  have x_cb := er.at tcb (by decide)
  have x_md := er.at tmd (by decide)
  have x_mo := er.at tmo (by decide)
  rcases q with ⟨q1, q2, q3⟩ | ⟨q1, q2, q3, q4⟩ | ⟨q1, q2, q3, q4, q5, q6⟩
  · rw [q3]
    exact R.up
  · rw [q4]
    exact R.up
  refine R.le (fun k => f2.at tde rfl) ?_
  rw [show I2 mo 13 = I1 mo 13 from f2.at tmo rfl]
  have h9 := q_sg_le (cb := I1 (h_ad z mo 14)) (cb1 := I2 (h_ad z mo 14)) (I1 mo 13).toInt.toNat (fun i hi hc => by
    rw [x_mo] at hi
    have q9 := q4 i (by omega)
    rcases q_lst_c (cd := fun i : Nat => (I1 (h_ad z mo 34) i).toInt) (v := I1 (h_ad z mo 36)) (k := (i : Int)) (old := I1 (h_ad z mo 14) i) (I1 mo 33).toInt.toNat with ⟨e, _⟩ | ⟨j, hj, hcj, e⟩
    · rw [q9, e] at hc
      exact hc
    · rw [x_mo] at hj
      have hcj' : (I (h_ad z mo 34) j).toInt = (i : Int) := by rw [← x_md]; exact hcj
      rcases (gmv.2.2.1 j (by omega)).2 with ⟨_, _, _, _, a5⟩ | ⟨_, a2, a3, _⟩
      · rw [hcj', Int.toNat_natCast] at a5
        rw [x_cb, ← ((gpl.2 i (by omega)).1 (by omega)).1]
        exact a5
      · omega)
  omega
theorem g_fb_player {z : tZ} {I1 I2 : tI} {mo T : Nat} {r2 : Int32} (R : h_fb z I1 mo T) (hR : h_R z) (tmo : z.ty mo = 13) (q : (60 ≤ (I1 mo 13).toInt ∧ r2.toInt = -3 ∧ I2 = I1) ∨ ((I1 mo 13).toInt < 60 ∧ r2.toInt = (I1 mo 13).toInt ∧ (I2 mo 13).toInt = (I1 mo 13).toInt + 1 ∧ (∀ j : Nat, I2 (h_ad z mo 14) j = if j = (I1 mo 13).toInt.toNat then -1 else I1 (h_ad z mo 14) j))) (f2 : h_F [(1314, 999), (13, 13)] z I1 I2) : h_fb z I2 mo (T + 1) := by
  have tcb := (hR.ad tmo (rfl : h_rs 13 14 = some (1314, false)) (by decide)).2
  have tde := (hR.ad tmo (rfl : h_rs 13 23 = some (1323, false)) (by decide)).2
  rcases q with ⟨q1, q2, q3⟩ | ⟨q1, q2, q3, q4⟩
  · rw [q3]
    exact R.up
  refine R.le (fun k => f2.at tde rfl) ?_
  by_cases hn : 0 ≤ (I1 mo 13).toInt
  · have e : (I2 mo 13).toInt.toNat = (I1 mo 13).toInt.toNat + 1 := by omega
    rw [e]
    show q_sg (I2 (h_ad z mo 14)) (I1 mo 13).toInt.toNat + (if (I2 (h_ad z mo 14) (I1 mo 13).toInt.toNat).toInt = -1 then 0 else 1) ≤ _
    rw [if_pos (by rw [q4, if_pos rfl]; decide)]
    have h9 := q_sg_le (cb := I1 (h_ad z mo 14)) (cb1 := I2 (h_ad z mo 14)) (I1 mo 13).toInt.toNat (fun i hi hc => by
      rw [q4, if_neg (by omega)] at hc
      exact hc)
    omega
  · have b1 := q_sg_b (I1 (h_ad z mo 14)) (I1 mo 13).toInt.toNat
    have b2 := q_sg_b (I2 (h_ad z mo 14)) (I2 mo 13).toInt.toNat
    omega
theorem g_fb_next {z : tZ} {I1 I2 : tI} {mo T : Nat} {r2 : Int32} (R : h_fb z I1 mo T) (hR : h_R z) (tmo : z.ty mo = 13) (q : ((9 ≤ (I1 mo 12).toInt ∨ (I1 mo 31).toInt = 0) ∧ r2.toInt = -4 ∧ I2 = I1) ∨ ((I1 mo 12).toInt ≤ 8 ∧ (I1 mo 31).toInt = 1 ∧ r2.toInt = (I1 mo 12).toInt + 1 ∧ (I2 mo 12).toInt = (I1 mo 12).toInt + 1 ∧ I2 mo 30 = 0 ∧ I2 mo 31 = 0 ∧ I2 mo 33 = 0 ∧ (∀ q0 : Nat, (q0 : Int) < (I1 mo 13).toInt → m_nx I1 I2 (h_ad z mo 14) (h_ad z mo 15) (h_ad z mo 16) (h_ad z mo 20) (h_ad z mo 21) (h_ad z mo 22) q0 (I2 mo 12)) ∧ (∀ q0 : Nat, (I1 mo 13).toInt ≤ (q0 : Int) → I2 (h_ad z mo 22) q0 = I1 (h_ad z mo 22) q0 ∧ I2 (h_ad z mo 14) q0 = I1 (h_ad z mo 14) q0) ∧ ∀ k : Nat, k < 8 → I2 (h_ad z mo 24) k = 0)) (f2 : h_F [(1349, 999), (13, 50), (13, 12), (1322, 999), (1314, 999), (1324, 999), (13, 30), (13, 31), (13, 33)] z I1 I2) : h_fb z I2 mo (T + 1) := by
  have tcb := (hR.ad tmo (rfl : h_rs 13 14 = some (1314, false)) (by decide)).2
  have tde := (hR.ad tmo (rfl : h_rs 13 23 = some (1323, false)) (by decide)).2
  rcases q with ⟨q1, q2, q3⟩ | ⟨q1, q2, q3, q4, q5, q6, q7, q8, q9, q10⟩
  · rw [q3]
    exact R.up
  refine R.le (fun k => f2.at tde rfl) ?_
  rw [show I2 mo 13 = I1 mo 13 from f2.at tmo rfl]
  have h9 := q_sg_le (cb := I1 (h_ad z mo 14)) (cb1 := I2 (h_ad z mo 14)) (I1 mo 13).toInt.toNat (fun i hi hc => by
    rcases (q8 i (by omega)).2 with ⟨_, _, d3⟩ | ⟨_, d2⟩
    · exact absurd (by rw [d3]; decide) hc
    · rw [d2] at hc
      exact hc)
  omega
/-- what counts is small -/
theorem g_cmb {z : tZ} {I : tI} {cp mo T : Nat} {u_ : Nat → Int} (G : h_gb z I cp mo) (hI : h_I z I) (tmo : z.ty mo = 13) (R : h_fb z I mo T) (hT : T ≤ 511) (hob : q_okb u_) : ∀ c : Nat, c < 8 → 0 ≤ (m_cnt z I mo (c : Int) (I mo 12) (u_ 6)).toInt ∧ (m_cnt z I mo (c : Int) (I mo 12) (u_ 6)).toInt ≤ 7100000 := by
  obtain ⟨gsz, gpl, gdd, gsp, gtu, gmv, grk, gor, glb, gtw, gwp, gpz⟩ := G
  have j13 := hI.rd mo 13 tmo rfl (rfl : h_bd 13 13 = (0, 60))
  have h12 := hI.rd mo 12 tmo rfl (rfl : h_bd 13 12 = (0, 9))
  intro c hc
  have e : (10 * (c : Int) + (I mo 12).toInt).toNat = 10 * c + (I mo 12).toInt.toNat := by omega
  have b := R (10 * c + (I mo 12).toInt.toNat) (by omega)
  have sg := q_sg_b (I (h_ad z mo 14)) (I mo 13).toInt.toNat
  have h6 := hob.2.2.2.2.2.2.1
  have m := m_cnt_b gpl rfl j13.2 (c := (c : Int)) (y := I mo 12) (by omega) h12.2 h6.1 h6.2 (by rw [e]; exact b.1) (by rw [e]; omega)
  rw [e] at m
  omega
theorem g_hcm {z : tZ} {I : tI} {cp mo T : Nat} {u_ : Nat → Int} (G : h_gb z I cp mo) (hI : h_I z I) (tmo : z.ty mo = 13) (ck : I (h_ad z cp 3) 3 = I mo 12) (R : h_fb z I mo T) (hT : T ≤ 511) (hob : q_okb u_) : ∀ c : Nat, c < 8 → 0 ≤ (c_cnt z I (h_ad z cp 3) (c : Int) (I (h_ad z cp 3) 3) (u_ 6)).toInt ∧ (c_cnt z I (h_ad z cp 3) (c : Int) (I (h_ad z cp 3) 3) (u_ 6)).toInt ≤ 7100000 := by
  have h9 := g_cmb G hI tmo R hT hob
  obtain ⟨gsz, gpl, gdd, gsp, gtu, gmv, grk, gor, glb, gtw, gwp, gpz⟩ := G
  have j13 := hI.rd mo 13 tmo rfl (rfl : h_bd 13 13 = (0, 60))
  have h12 := hI.rd mo 12 tmo rfl (rfl : h_bd 13 12 = (0, 9))
  intro c hc
  rw [gpl.cnt (bk := (h_ad z cp 3)) (mo := mo) (by rw [gsz]) j13.2 gdd gsz ck (c := (c : Int)) (y := I (h_ad z cp 3) 3) (by omega) (by rw [ck]; exact h12) (u_ 6), ck]
  exact h9 c hc
theorem g_hcn {z : tZ} {I I1 : tI} {cp mo T : Nat} {u_ : Nat → Int} (G : h_gb z I cp mo) (hR : h_R z) (hI : h_I z I) (tmo : z.ty mo = 13) (er : h_er z I I1) (R : h_fb z I1 mo T) (hT : T ≤ 511) (hob : q_okb u_) : ∀ c : Nat, c < 8 → 0 ≤ (m_cnt z I1 mo (c : Int) (I1 mo 12) (u_ 6)).toInt ∧ (m_cnt z I1 mo (c : Int) (I1 mo 12) (u_ 6)).toInt ≤ 7100000 := by
  have ad := fun (j tt : Nat) (hb : h_rs 13 j = some (tt, false)) (hk : j < h_len (h_so 13)) (h1 : 1300 ≤ tt) => er.at (hR.ad tmo hb hk).2 (Or.inl h1)
  have x_mo := er.at tmo (Or.inr rfl)
  have x14 := ad 14 1314 rfl (by decide) (by decide)
  have x23 := ad 23 1323 rfl (by decide) (by decide)
  have R0 : h_fb z I mo T := R.c rfl rfl x23.symm x14.symm (congrFun x_mo 13).symm (Nat.le_refl _)
  have h9 := g_cmb G hI tmo R0 hT hob
  intro c hc
  obtain ⟨m1, m2⟩ := m_cnt_eq (z := z) x_mo x14 (ad 15 1315 rfl (by decide) (by decide)) (ad 16 1316 rfl (by decide) (by decide)) (ad 17 1317 rfl (by decide) (by decide)) (ad 18 1318 rfl (by decide) (by decide)) (ad 20 1320 rfl (by decide) (by decide)) (ad 21 1321 rfl (by decide) (by decide)) (ad 22 1322 rfl (by decide) (by decide)) x23 (c : Int) (I mo 12) (u_ 6)
  rw [x_mo, m1]
  exact h9 c hc
set_option maxHeartbeats 4000000 in
theorem g_fines2 {z : tZ} {I I1 I2 : tI} {cp mo : Nat} {u_ : Nat → Int} {r1 r2 : Int32} (G : h_gb z I cp mo) (hR : h_R z) (hI : h_I z I) (tcp : z.ty cp = 12) (tmo : z.ty mo = 13) (ck : I (h_ad z cp 3) 3 = I mo 12) (N : h_fn z I cp mo) (Rdr : (I (h_ad z (h_ad z cp 7) 2) (I mo 12).toInt.toNat).toInt = (I mo 31).toInt ∧ ∀ k : Nat, (I mo 12).toInt < (k : Int) → I (h_ad z (h_ad z cp 7) 2) k = 0) (Rtb : I (h_ad z cp 7) 1 = I mo 30) (p : ((9 ≤ (I (h_ad z cp 3) 3).toInt ∨ (I (h_ad z (h_ad z cp 7) 2) ((I (h_ad z cp 3) 3).toInt).toNat).toInt = 0) ∧ r1.toInt = -4 ∧ I1 = I) ∨ ((I (h_ad z cp 3) 3).toInt ≤ 8 ∧ (I (h_ad z (h_ad z cp 7) 2) ((I (h_ad z cp 3) 3).toInt).toNat).toInt = 1 ∧ r1.toInt = (I (h_ad z cp 3) 3).toInt + 1 ∧ (I1 (h_ad z cp 3) 3).toInt = (I (h_ad z cp 3) 3).toInt + 1 ∧ I1 (h_ad z cp 7) 1 = 0 ∧ (∀ q : Nat, (q : Int) < (I (h_ad z cp 3) 2).toInt → ∀ b : Nat, z.R (h_ad z (h_ad z cp 3) 1) q = some b → h_nx I I1 b (I1 (h_ad z cp 3) 3)) ∧ (∀ k : Nat, k < 8 → I1 (h_ad z (h_ad z cp 3) 5) k = 0) ∧ I1 (h_ad z cp 5) 3 = 0 ∧ I1 (h_ad z cp 5) 4 = 0)) (p' : ((I (h_ad z cp 3) 3).toInt ≤ 8 → (I (h_ad z (h_ad z cp 7) 2) (I (h_ad z cp 3) 3).toInt.toNat).toInt = 1 → ((∀ k : Nat, k < 8 → I1 (h_ad z (h_ad z cp 3) 6) k = q_fnd (I (h_ad z (h_ad z cp 3) 6)) (c_ab z I (h_ad z cp 3) u_) (q_fin (c_ab z I (h_ad z cp 3) u_) (u_ 7)) k) ∧ I1 (h_ad z cp 3) 7 = q_lft (I (h_ad z cp 3) 7) (c_ab z I (h_ad z cp 3) u_) (q_fin (c_ab z I (h_ad z cp 3) u_) (u_ 7))))) (f1 : h_F [(108, 999), (106, 999), (1, 7), (1, 3), (105, 999), (7, 7), (7, 0), (7, 1), (7, 2), (7, 3), (7, 4), (7, 5), (7, 6), (3, 1), (10, 3), (10, 4)] z I I1) (q : ((9 ≤ (I1 mo 12).toInt ∨ (I1 mo 31).toInt = 0) ∧ r2.toInt = -4 ∧ I2 = I1) ∨ ((I1 mo 12).toInt ≤ 8 ∧ (I1 mo 31).toInt = 1 ∧ r2.toInt = (I1 mo 12).toInt + 1 ∧ (I2 mo 12).toInt = (I1 mo 12).toInt + 1 ∧ I2 mo 30 = 0 ∧ I2 mo 31 = 0 ∧ I2 mo 33 = 0 ∧ (∀ q0 : Nat, (q0 : Int) < (I1 mo 13).toInt → m_nx I1 I2 (h_ad z mo 14) (h_ad z mo 15) (h_ad z mo 16) (h_ad z mo 20) (h_ad z mo 21) (h_ad z mo 22) q0 (I2 mo 12)) ∧ (∀ q0 : Nat, (I1 mo 13).toInt ≤ (q0 : Int) → I2 (h_ad z mo 22) q0 = I1 (h_ad z mo 22) q0 ∧ I2 (h_ad z mo 14) q0 = I1 (h_ad z mo 14) q0) ∧ ∀ k : Nat, k < 8 → I2 (h_ad z mo 24) k = 0)) (q' : ((I1 mo 12).toInt ≤ 8 → (I1 mo 31).toInt = 1 → ((∀ k : Nat, k < 8 → I2 (h_ad z mo 49) k = q_fnd (I1 (h_ad z mo 49)) (m_ab z I1 mo u_) (q_fin (m_ab z I1 mo u_) (u_ 7)) k) ∧ I2 mo 50 = q_lft (I1 mo 50) (m_ab z I1 mo u_) (q_fin (m_ab z I1 mo u_) (u_ 7))))) (f2 : h_F [(1349, 999), (13, 50), (13, 12), (1322, 999), (1314, 999), (1324, 999), (13, 30), (13, 31), (13, 33)] z I1 I2) : h_fn z I2 cp mo := by
  obtain ⟨⟨tcp, tmo⟩, ⟨tbk, ttu, tbg, tdt⟩, ⟨tpl, tdd, tsu⟩, ⟨thd, tsh, tgv, two⟩, ⟨tit, tth, tfr, tto, tsg⟩, ⟨trk, tdr, tod, thv⟩, ⟨tlw, thy, ttb, tww⟩, ⟨tcb, tfi, tla, tpa, tri, tss, thc, tis, thu⟩, ⟨tde, tus, tow, tgi, tgu, tdw, tdx⟩, ⟨tmd, tmf, tmt, tmg⟩⟩ := h_tyB.mk hR tcp tmo
  obtain ⟨gsz, gpl, gdd, gsp, gtu, gmv, grk, gor, glb, gtw, gwp, gpz⟩ := G
  have j13 := hI.rd mo 13 tmo rfl (rfl : h_bd 13 13 = (0, 60))
  have h12 := hI.rd mo 12 tmo rfl (rfl : h_bd 13 12 = (0, 9))
  have h31 := hI.rd mo 31 tmo rfl (rfl : h_bd 13 31 = (0, 1))
  have tpu := (hR.ad tmo (rfl : h_rs 13 49 = some (1349, false)) (by decide)).2
  have tfn := (hR.ad tbk (rfl : h_rs 1 6 = some (106, false)) (by decide)).2
  obtain ⟨Ra, Rb⟩ := Rdr
  have x_mo := f1.ref (by decide) tmo (by decide)
  have x_cb := f1.ref (by decide) tcb (by decide)
  have x_fi := f1.ref (by decide) tfi (by decide)
  have x_la := f1.ref (by decide) tla (by decide)
  have x_pa := f1.ref (by decide) tpa (by decide)
  have x_ri := f1.ref (by decide) tri (by decide)
  have x_hc := f1.ref (by decide) thc (by decide)
  have x_is := f1.ref (by decide) tis (by decide)
  have x_hu := f1.ref (by decide) thu (by decide)
  have x_de := f1.ref (by decide) tde (by decide)
  have x_pu := f1.ref (by decide) tpu (by decide)
  have y_bk := f2.cls (by decide) tbk (by decide)
  have y_fn := f2.cls (by decide) tfn (by decide)
  rw [ck, Ra] at p'
  rw [ck, Ra, gsz] at p
  rw [x_mo] at q q'
  rcases p with ⟨p1, p2, p3⟩ | ⟨p1, p2, p3, p4, p5, p6, p7, p8, p9⟩ <;> rcases q with ⟨q1, q2, q3⟩ | ⟨q1, q2, q3, q4, q5, q6, q7, q8, q9, q10⟩
  · rw [q3, p3]
    exact N
  · omega
  · omega
  obtain ⟨P1, P2⟩ := p' (by omega) (by omega)
  obtain ⟨Q1, Q2⟩ := q' (by omega) (by omega)
  have ea : ∀ c : Nat, c < 8 → c_ab z I (h_ad z cp 3) u_ c = m_ab z I1 mo u_ c := fun c hc => by
    obtain ⟨m1, m2⟩ := m_cnt_eq (z := z) x_mo x_cb x_fi x_la x_pa x_ri x_hc x_is x_hu x_de (c : Int) (I mo 12) (u_ 6)
    unfold c_ab m_ab
    rw [gpl.cnt (bk := (h_ad z cp 3)) (mo := mo) (by rw [gsz]) j13.2 gdd gsz ck (c := (c : Int)) (y := I (h_ad z cp 3) 3) (by omega) (by rw [ck]; exact h12) (u_ 6), ck, x_mo, m1]
  have ef : ∀ c : Nat, c < 8 → q_fin (c_ab z I (h_ad z cp 3) u_) (u_ 7) c = q_fin (m_ab z I1 mo u_) (u_ 7) c := fun c hc => by
    unfold q_fin
    rw [ea c hc]
  unfold h_fn
  rw [y_fn, y_bk]
  refine ⟨fun k k8 => ?_, ?_⟩
  · rw [P1 k k8, Q1 k k8]
    exact q_fnd_eq k8 (by rw [x_pu]; exact N.1 k k8) ea ef
  · rw [P2, Q2]
    exact q_lft_eq N.2 ea ef
theorem g_purse2 {z : tZ} {I : tI} {cp mo : Nat} {c_t : Int} {r1 r2 : Int32} (N : h_fn z I cp mo) (p : (¬ (0 ≤ c_t ∧ c_t ≤ 7) ∧ r1.toInt = -2000000000) ∨ (0 ≤ c_t ∧ c_t ≤ 7 ∧ r1 = I (h_ad z (h_ad z cp 3) 6) c_t.toNat)) (q : (¬ (0 ≤ c_t ∧ c_t ≤ 7) ∧ r2.toInt = -2000000000) ∨ (0 ≤ c_t ∧ c_t ≤ 7 ∧ r2 = I (h_ad z mo 49) c_t.toNat)) : r1.toInt = r2.toInt := by
  rcases p with ⟨p1, p2⟩ | ⟨p1, p2, p3⟩ <;> rcases q with ⟨q1, q2⟩ | ⟨q1, q2, q3⟩
  · rw [p2, q2]
  · exact absurd ⟨q1, q2⟩ p1
  · exact absurd ⟨p1, p2⟩ q1
  · rw [p3, q3, N.1 c_t.toNat (by omega)]
theorem g_count2 {z : tZ} {I : tI} {cp mo : Nat} {x_t : Int} {r1 r2 : Int32} (G : h_gb z I cp mo) (ck : I (h_ad z cp 3) 3 = I mo 12) (N : h_fn z I cp mo) (tp : I (h_ad z cp 0) 1 = I mo 1) (Rdr : (I (h_ad z (h_ad z cp 7) 2) (I mo 12).toInt.toNat).toInt = (I mo 31).toInt ∧ ∀ k : Nat, (I mo 12).toInt < (k : Int) → I (h_ad z (h_ad z cp 7) 2) k = 0) (Rtb : I (h_ad z cp 7) 1 = I mo 30) (p : (x_t = 0 ∧ r1 = I (h_ad z cp 3) 3) ∨ (x_t = 1 ∧ r1 = I (h_ad z cp 3) 2) ∨ (x_t = 2 ∧ r1 = I (h_ad z cp 5) 3) ∨ (x_t = 3 ∧ r1 = I (h_ad z cp 3) 7) ∨ (x_t = 4 ∧ r1 = I (h_ad z cp 0) 1) ∨ (x_t = 5 ∧ r1.toInt = (I (h_ad z cp 7) 1).toInt) ∨ (x_t = 6 ∧ r1.toInt = ((I (h_ad z (h_ad z cp 7) 2) (I (h_ad z cp 3) 3).toInt.toNat)).toInt) ∨ ((x_t < 0 ∨ 6 < x_t) ∧ r1.toInt = -1)) (q : (x_t = 0 ∧ r2 = I mo 12) ∨ (x_t = 1 ∧ r2 = I mo 13) ∨ (x_t = 2 ∧ r2 = I mo 33) ∨ (x_t = 3 ∧ r2 = I mo 50) ∨ (x_t = 4 ∧ r2 = I mo 1) ∨ (x_t = 5 ∧ r2.toInt = (I mo 30).toInt) ∨ (x_t = 6 ∧ r2.toInt = (I mo 31).toInt) ∨ ((x_t < 0 ∨ 6 < x_t) ∧ r2.toInt = -1)) : r1.toInt = r2.toInt := by
  obtain ⟨gsz, gpl, gdd, gsp, gtu, gmv, grk, gor, glb, gtw, gwp, gpz⟩ := G
  obtain ⟨Ra, Rb⟩ := Rdr
  have e3 := gmv.1
  have e7 := N.2
  rw [ck, gsz, e3, e7, tp, Rtb, Ra] at p
  rcases p with ⟨p1, p2⟩ | ⟨p1, p2⟩ | ⟨p1, p2⟩ | ⟨p1, p2⟩ | ⟨p1, p2⟩ | ⟨p1, p2⟩ | ⟨p1, p2⟩ | ⟨p1, p2⟩ <;> rcases q with ⟨q1, q2⟩ | ⟨q1, q2⟩ | ⟨q1, q2⟩ | ⟨q1, q2⟩ | ⟨q1, q2⟩ | ⟨q1, q2⟩ | ⟨q1, q2⟩ | ⟨q1, q2⟩ <;> first | (rw [p2, q2]; done) | omega
theorem h_fn.c {z z1 : tZ} {I I1 : tI} {cp mo : Nat} (N : h_fn z I cp mo) (a1 : h_ad z1 cp 3 = (h_ad z cp 3)) (a2 : h_ad z1 (h_ad z cp 3) 6 = h_ad z (h_ad z cp 3) 6) (a3 : h_ad z1 mo 49 = h_ad z mo 49) (e1 : I1 (h_ad z (h_ad z cp 3) 6) = I (h_ad z (h_ad z cp 3) 6)) (e2 : I1 (h_ad z mo 49) = I (h_ad z mo 49)) (e3 : I1 (h_ad z cp 3) 7 = I (h_ad z cp 3) 7) (e4 : I1 mo 50 = I mo 50) : h_fn z1 I1 cp mo := by
  unfold h_fn
  rw [a1, a2, a3, e1, e2, e3, e4]
  exact N
theorem h_fn.F {M : List (Nat × Nat)} {z : tZ} {I I1 : tI} {cp mo : Nat} (N : h_fn z I cp mo) (hR : h_R z) (tcp : z.ty cp = 12) (tmo : z.ty mo = 13) (f : h_F M z I I1) (m1 : ∀ k, h_m M 106 k = false) (m2 : ∀ k, h_m M 1349 k = false) (m3 : h_m M 1 7 = false) (m4 : h_m M 13 50 = false) : h_fn z I1 cp mo := by
  have tbk := (hR.ad tcp (rfl : h_rs 12 3 = some (1, false)) (by decide)).2
  exact N.c rfl rfl rfl (funext fun k => f.at (hR.ad tbk (rfl : h_rs 1 6 = some (106, false)) (by decide)).2 (m1 k)) (funext fun k => f.at (hR.ad tmo (rfl : h_rs 13 49 = some (1349, false)) (by decide)).2 (m2 k)) (f.at tbk m3) (f.at tmo m4)
theorem h_fn.X {M : List (Nat × Nat)} {MR : List Nat} {z z1 : tZ} {I I1 : tI} {L L1 : tL} {cp mo : Nat} (N : h_fn z I cp mo) (hR : h_R z) (tcp : z.ty cp = 12) (tmo : z.ty mo = 13) (x : h_X M MR none z I L z1 I1 L1) (mR1 : MR.contains 1 = false) (mR12 : MR.contains 12 = false) (mR13 : MR.contains 13 = false) (m1 : ∀ k, h_m M 106 k = false) (m2 : ∀ k, h_m M 1349 k = false) (m3 : h_m M 1 7 = false) (m4 : h_m M 13 50 = false) : h_fn z1 I1 cp mo := by
  have tbk := (hR.ad tcp (rfl : h_rs 12 3 = some (1, false)) (by decide)).2
  have no : ∀ b : Nat, some b ≠ none := fun b h9 => by cases h9
  exact N.c (x.ad hR tcp (by decide) mR12 (rfl : h_rs 12 3 = some (1, false)) (by decide)) (x.ad hR tbk (by decide) mR1 (rfl : h_rs 1 6 = some (106, false)) (by decide)) (x.ad hR tmo (by decide) mR13 (rfl : h_rs 13 49 = some (1349, false)) (by decide)) (funext fun k => x.I (hR.ad tbk (rfl : h_rs 1 6 = some (106, false)) (by decide)).2 (by decide) (no _) (m1 k)) (funext fun k => x.I (hR.ad tmo (rfl : h_rs 13 49 = some (1349, false)) (by decide)).2 (by decide) (no _) (m2 k)) (x.I tbk (by decide) (no _) m3) (x.I tmo (by decide) (no _) m4)
theorem h_fn.init {z : tZ} {I : tI} {cp mo : Nat} (H0 : h_0 [(600, 999), (601, 999), (6, 2), (54, 3), (1100, 999), (5, 3), (1310, 999), (1325, 999), (1326, 999), (1328, 999), (62, 9), (13, 9)] z I) (hR : h_R z) (tcp : z.ty cp = 12) (tmo : z.ty mo = 13) (hm : ∀ k : Nat, k ≠ 9 → I mo k = 0) : h_fn z I cp mo := by
  have tbk := (hR.ad tcp (rfl : h_rs 12 3 = some (1, false)) (by decide)).2
  have tfn := (hR.ad tbk (rfl : h_rs 1 6 = some (106, false)) (by decide)).2
  have tpu := (hR.ad tmo (rfl : h_rs 13 49 = some (1349, false)) (by decide)).2
  exact ⟨fun k _ => (H0.at tfn (by decide) rfl).trans (H0.at tpu (by decide) rfl).symm, (H0.at tbk (by decide) rfl).trans (hm 50 (by decide)).symm⟩
theorem h_fb.init {z : tZ} {I : tI} {mo : Nat} (H0 : h_0 [(600, 999), (601, 999), (6, 2), (54, 3), (1100, 999), (5, 3), (1310, 999), (1325, 999), (1326, 999), (1328, 999), (62, 9), (13, 9)] z I) (hR : h_R z) (tmo : z.ty mo = 13) (hm : ∀ k : Nat, k ≠ 9 → I mo k = 0) : h_fb z I mo 0 := by
  have tde := (hR.ad tmo (rfl : h_rs 13 23 = some (1323, false)) (by decide)).2
  intro k hk
  rw [show I (h_ad z mo 23) k = 0 from (H0.at tde (by decide) rfl), hm 13 (by decide), show (0 : Int32).toInt = 0 by decide]
  show 0 ≤ (0 : Int) ∧ (0 : Int) + 12250 * 0 ≤ 12250 * ((0 : Nat) : Int)
  decide

