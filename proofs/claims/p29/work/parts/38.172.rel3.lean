set_option maxHeartbeats 4000000 in
theorem g_about2 {z : tZ} {I : tI} {cp mo : Nat} {p_t : Int} {x : Int32} {r1 r2 : Int32} (G : h_gb z I cp mo) (hU : h_U z) (hR : h_R z) (hI : h_I z I) (tcp : z.ty cp = 12) (tmo : z.ty mo = 13) (ck : I (h_ad z cp 3) 3 = I mo 12) (p : (¬ (0 ≤ p_t ∧ p_t < (I (h_ad z cp 3) 2).toInt) ∧ r1.toInt = -9) ∨ ((0 ≤ p_t ∧ p_t < (I (h_ad z cp 3) 2).toInt) ∧ r1.toInt = q_fact (I (h_ad z (h_ad z (h_ad z cp 3) 1) p_t.toNat) 0) (I (h_ad z (h_ad z (h_ad z cp 3) 1) p_t.toNat) 1) (I (h_ad z (h_ad z (h_ad z cp 3) 1) p_t.toNat) 2) (I (h_ad z (h_ad z (h_ad z cp 3) 1) p_t.toNat) 3) (I (h_ad z (h_ad z (h_ad z cp 3) 1) p_t.toNat) 4) (I (h_ad z (h_ad z (h_ad z cp 3) 1) p_t.toNat) 5) (I (h_ad z (h_ad z (h_ad z cp 3) 1) p_t.toNat) 6) (I (h_ad z (h_ad z (h_ad z cp 3) 1) p_t.toNat) 7) x)) (q : (¬ (0 ≤ p_t ∧ p_t < (I mo 13).toInt) ∧ r2.toInt = -9) ∨ ((0 ≤ p_t ∧ p_t < (I mo 13).toInt) ∧ r2.toInt = q_fact (I (h_ad z mo 14) p_t.toNat) (I (h_ad z mo 15) p_t.toNat) (I (h_ad z mo 16) p_t.toNat) (I (h_ad z mo 17) p_t.toNat) (I (h_ad z mo 18) p_t.toNat) (if (I (h_ad z mo 14) p_t.toNat).toInt = -1 then 0 else (I (h_ad z mo 19) p_t.toNat)) (if (I (h_ad z mo 14) p_t.toNat).toInt ≠ -1 ∧ (I (h_ad z mo 20) p_t.toNat).toInt ≠ 0 ∧ (I (h_ad z mo 21) p_t.toNat).toInt = 0 then 1 else 0) (I (h_ad z mo 22) p_t.toNat) x)) : r1.toInt = r2.toInt := by
  obtain ⟨⟨tcp, tmo⟩, ⟨tbk, ttu, tbg, tdt⟩, ⟨tpl, tdd, tsu⟩, ⟨thd, tsh, tgv, two⟩, ⟨tit, tth, tfr, tto, tsg⟩, ⟨trk, tdr, tod, thv⟩, ⟨tlw, thy, ttb, tww⟩, ⟨tcb, tfi, tla, tpa, tri, tss, thc, tis, thu⟩, ⟨tde, tus, tow, tgi, tgu, tdw, tdx⟩, ⟨tmd, tmf, tmt, tmg⟩⟩ := h_tyB.mk hR tcp tmo
  have G0 := G
  obtain ⟨gsz, gpl, gdd, gsp, gtu, gmv, grk, gor, glb, gtw, gwp, gpz⟩ := G
  have j13 := hI.rd mo 13 tmo rfl (rfl : h_bd 13 13 = (0, 60))
  rw [gsz] at p
  rcases p with ⟨p1, p2⟩ | ⟨p1, p2⟩ <;> rcases q with ⟨q1, q2⟩ | ⟨q1, q2⟩
  · rw [p2, q2]
  · exact absurd q1 p1
  · exact absurd p1 q1
  · rw [p2, q2]
    exact ((gpl.2 p_t.toNat (by omega)).1 (by omega)).fact x
set_option maxHeartbeats 4000000 in
theorem g_club2 {z : tZ} {I : tI} {cp mo : Nat} {c_t y_t x_t : Int} {y : Int32} {u_ : Nat → Int} {r1 r2 : Int32} (G : h_gb z I cp mo) (hU : h_U z) (hR : h_R z) (hI : h_I z I) (tcp : z.ty cp = 12) (tmo : z.ty mo = 13) (ck : I (h_ad z cp 3) 3 = I mo 12) (hy : y.toInt = y_t) (p : ((¬ (0 ≤ c_t ∧ c_t ≤ 7 ∧ (I (h_ad z cp 3) 3).toInt ≤ y_t ∧ y_t ≤ 9) ∨ x_t < 0 ∨ 3 < x_t) ∧ r1.toInt = -2) ∨ ((0 ≤ c_t ∧ c_t ≤ 7 ∧ (I (h_ad z cp 3) 3).toInt ≤ y_t ∧ y_t ≤ 9) ∧ ((x_t = 0 ∧ r1 = c_cnt z I (h_ad z cp 3) c_t y (u_ 6)) ∨ (x_t = 1 ∧ r1 = I (h_ad z (h_ad z (h_ad z cp 3) 4) c_t.toNat) y_t.toNat) ∨ (x_t = 2 ∧ r1 = c_many z I (h_ad z cp 3) c_t y) ∨ (x_t = 3 ∧ ((y_t = (I (h_ad z cp 3) 3).toInt ∧ (I (h_ad z (h_ad z cp 3) 5) c_t.toNat).toInt ≠ 0 ∧ r1.toInt = 1) ∨ (¬ (y_t = (I (h_ad z cp 3) 3).toInt ∧ (I (h_ad z (h_ad z cp 3) 5) c_t.toNat).toInt ≠ 0) ∧ r1.toInt = 0)))))) (q : ((¬ (0 ≤ c_t ∧ c_t ≤ 7 ∧ (I mo 12).toInt ≤ y_t ∧ y_t ≤ 9) ∨ x_t < 0 ∨ 3 < x_t) ∧ r2.toInt = -2) ∨ ((0 ≤ c_t ∧ c_t ≤ 7 ∧ (I mo 12).toInt ≤ y_t ∧ y_t ≤ 9) ∧ ((x_t = 0 ∧ r2 = m_cnt z I mo c_t y (u_ 6)) ∨ (x_t = 1 ∧ r2 = I (h_ad z mo 23) (10 * c_t + y_t).toNat) ∨ (x_t = 2 ∧ r2 = m_many z I mo c_t y) ∨ (x_t = 3 ∧ ((y_t = (I mo 12).toInt ∧ (I (h_ad z mo 24) c_t.toNat).toInt ≠ 0 ∧ r2.toInt = 1) ∨ (¬ (y_t = (I mo 12).toInt ∧ (I (h_ad z mo 24) c_t.toNat).toInt ≠ 0) ∧ r2.toInt = 0)))))) : r1.toInt = r2.toInt := by
  obtain ⟨⟨tcp, tmo⟩, ⟨tbk, ttu, tbg, tdt⟩, ⟨tpl, tdd, tsu⟩, ⟨thd, tsh, tgv, two⟩, ⟨tit, tth, tfr, tto, tsg⟩, ⟨trk, tdr, tod, thv⟩, ⟨tlw, thy, ttb, tww⟩, ⟨tcb, tfi, tla, tpa, tri, tss, thc, tis, thu⟩, ⟨tde, tus, tow, tgi, tgu, tdw, tdx⟩, ⟨tmd, tmf, tmt, tmg⟩⟩ := h_tyB.mk hR tcp tmo
  have G0 := G
  obtain ⟨gsz, gpl, gdd, gsp, gtu, gmv, grk, gor, glb, gtw, gwp, gpz⟩ := G
  have j13 := hI.rd mo 13 tmo rfl (rfl : h_bd 13 13 = (0, 60))
  rw [ck] at p
  have h12 := hI.rd mo 12 tmo rfl (rfl : h_bd 13 12 = (0, 9))
  rcases p with ⟨p1, p2⟩ | ⟨p1, p2⟩ <;> rcases q with ⟨q1, q2⟩ | ⟨q1, q2⟩
  · rw [p2, q2]
  · rcases q2 with q2 | q2 | q2 | q2 <;> omega
  · rcases p2 with p2 | p2 | p2 | p2 <;> omega
  · have e1 := gpl.cnt (bk := (h_ad z cp 3)) (mo := mo) (by rw [gsz]) j13.2 gdd gsz ck (c := c_t) (y := y) (by omega) (by omega) (u_ 6)
    have e2 := gpl.many (bk := (h_ad z cp 3)) (mo := mo) (by rw [gsz]) j13.2 gsz c_t y
    have e3 := gdd c_t.toNat y_t.toNat (by omega) (by omega)
    have e4 := gsp c_t.toNat (by omega)
    rw [show 10 * c_t.toNat + y_t.toNat = (10 * c_t + y_t).toNat by omega] at e3
    rw [e1, e2, e3, e4] at p2
    rcases p2 with ⟨a1, a2⟩ | ⟨a1, a2⟩ | ⟨a1, a2⟩ | ⟨a1, a2⟩ <;> rcases q2 with ⟨b1, b2⟩ | ⟨b1, b2⟩ | ⟨b1, b2⟩ | ⟨b1, b2⟩ <;> first | omega | rw [a2, b2]
set_option maxHeartbeats 4000000 in
theorem g_wrong2 {z : tZ} {I : tI} {cp mo : Nat} {p_t c_t y_t n_t u_t q_t h_t : Int} {c y n : Int32} {u_ : Nat → Int} {r1 r2 : Int32} (G : h_gb z I cp mo) (hU : h_U z) (hR : h_R z) (hI : h_I z I) (tcp : z.ty cp = 12) (tmo : z.ty mo = 13) (ck : I (h_ad z cp 3) 3 = I mo 12) (p : (¬ (0 ≤ p_t ∧ p_t < (I (h_ad z cp 3) 2).toInt ∧ 0 ≤ c_t ∧ c_t ≤ 7 ∧ 1 ≤ y_t ∧ y_t ≤ 5 ∧ 0 ≤ n_t ∧ n_t ≤ 20000 ∧ -500 ≤ u_t ∧ u_t ≤ 500 ∧ 0 ≤ q_t ∧ q_t ≤ 100 ∧ (h_t = 0 ∨ 2 ≤ y_t)) ∧ r1.toInt = -2) ∨ ((0 ≤ p_t ∧ p_t < (I (h_ad z cp 3) 2).toInt ∧ 0 ≤ c_t ∧ c_t ≤ 7 ∧ 1 ≤ y_t ∧ y_t ≤ 5 ∧ 0 ≤ n_t ∧ n_t ≤ 20000 ∧ -500 ≤ u_t ∧ u_t ≤ 500 ∧ 0 ≤ q_t ∧ q_t ≤ 100 ∧ (h_t = 0 ∨ 2 ≤ y_t)) ∧ q_flt ((I (h_ad z (h_ad z (h_ad z cp 3) 1) p_t.toNat) 0).toInt ≠ -1) (u_ 1 ≤ (c_many z I (h_ad z cp 3) c_t (I (h_ad z cp 3) 3)).toInt) (u_ 2 < y_t) (u_ 0 < (c_cnt z I (h_ad z cp 3) c_t (I (h_ad z cp 3) 3) (u_ 6) + n).toInt ∧ (u_ 3 < n_t ∨ (I (h_ad z (h_ad z cp 3) 5) c_t.toNat).toInt ≠ 0)) r1.toInt)) (q : (¬ (0 ≤ p_t ∧ p_t < (I mo 13).toInt ∧ 0 ≤ c_t ∧ c_t ≤ 7 ∧ 1 ≤ y_t ∧ y_t ≤ 5 ∧ 0 ≤ n_t ∧ n_t ≤ 20000 ∧ -500 ≤ u_t ∧ u_t ≤ 500 ∧ 0 ≤ q_t ∧ q_t ≤ 100 ∧ (h_t = 0 ∨ 2 ≤ y_t)) ∧ r2.toInt = -2) ∨ ((0 ≤ p_t ∧ p_t < (I mo 13).toInt ∧ 0 ≤ c_t ∧ c_t ≤ 7 ∧ 1 ≤ y_t ∧ y_t ≤ 5 ∧ 0 ≤ n_t ∧ n_t ≤ 20000 ∧ -500 ≤ u_t ∧ u_t ≤ 500 ∧ 0 ≤ q_t ∧ q_t ≤ 100 ∧ (h_t = 0 ∨ 2 ≤ y_t)) ∧ q_flt ((I (h_ad z mo 14) p_t.toNat).toInt ≠ -1) (u_ 1 ≤ (m_many z I mo c_t (I mo 12)).toInt) (u_ 2 < y_t) (u_ 0 < (m_cnt z I mo c_t (I mo 12) (u_ 6) + n).toInt ∧ (u_ 3 < n_t ∨ (I (h_ad z mo 24) c_t.toNat).toInt ≠ 0)) r2.toInt)) : r1.toInt = r2.toInt := by
  obtain ⟨⟨tcp, tmo⟩, ⟨tbk, ttu, tbg, tdt⟩, ⟨tpl, tdd, tsu⟩, ⟨thd, tsh, tgv, two⟩, ⟨tit, tth, tfr, tto, tsg⟩, ⟨trk, tdr, tod, thv⟩, ⟨tlw, thy, ttb, tww⟩, ⟨tcb, tfi, tla, tpa, tri, tss, thc, tis, thu⟩, ⟨tde, tus, tow, tgi, tgu, tdw, tdx⟩, ⟨tmd, tmf, tmt, tmg⟩⟩ := h_tyB.mk hR tcp tmo
  have G0 := G
  obtain ⟨gsz, gpl, gdd, gsp, gtu, gmv, grk, gor, glb, gtw, gwp, gpz⟩ := G
  have j13 := hI.rd mo 13 tmo rfl (rfl : h_bd 13 13 = (0, 60))
  have h12 := hI.rd mo 12 tmo rfl (rfl : h_bd 13 12 = (0, 9))
  rw [gsz, ck] at p
  rcases p with ⟨p1, p2⟩ | ⟨p1, p2⟩ <;> rcases q with ⟨q1, q2⟩ | ⟨q1, q2⟩
  · rw [p2, q2]
  · exact absurd q1 p1
  · exact absurd p1 q1
  · have h1 := (gpl.2 p_t.toNat (by omega)).1 (by omega)
    have e1 := gpl.cnt (bk := (h_ad z cp 3)) (mo := mo) (by rw [gsz]) j13.2 gdd gsz ck (c := c_t) (y := I mo 12) (by omega) h12 (u_ 6)
    have e2 := gpl.many (bk := (h_ad z cp 3)) (mo := mo) (by rw [gsz]) j13.2 gsz c_t (I mo 12)
    have e4 := gsp c_t.toNat (by omega)
    rw [h1.1, e1, e2, e4] at p2
    exact q_flt_eq p2 q2 Iff.rfl Iff.rfl Iff.rfl Iff.rfl
set_option maxHeartbeats 4000000 in
theorem g_turn2 {z : tZ} {I : tI} {cp mo : Nat} {y_t i_t x_t : Int} {r1 r2 : Int32} (G : h_gb z I cp mo) (hU : h_U z) (hR : h_R z) (hI : h_I z I) (tcp : z.ty cp = 12) (tmo : z.ty mo = 13) (ck : I (h_ad z cp 3) 3 = I mo 12) (p : (¬ (0 ≤ y_t ∧ y_t ≤ 9 ∧ (I (h_ad z (h_ad z cp 7) 2) y_t.toNat).toInt ≠ 0 ∧ 0 ≤ i_t ∧ i_t ≤ 7) ∧ r1.toInt = -1) ∨ ((0 ≤ y_t ∧ y_t ≤ 9 ∧ (I (h_ad z (h_ad z cp 7) 2) y_t.toNat).toInt ≠ 0 ∧ 0 ≤ i_t ∧ i_t ≤ 7) ∧ ((x_t = 0 ∧ r1 = I (h_ad z (h_ad z (h_ad z cp 7) 3) y_t.toNat) i_t.toNat) ∨ (x_t = 1 ∧ r1 = I (h_ad z (h_ad z (h_ad z cp 7) 4) y_t.toNat) i_t.toNat) ∨ (x_t ≠ 0 ∧ x_t ≠ 1 ∧ r1.toInt = -1)))) (q : (¬ (0 ≤ y_t ∧ y_t ≤ 9 ∧ 0 ≤ i_t ∧ i_t ≤ 7 ∧ (I (h_ad z mo 28) (8 * y_t + i_t).toNat).toInt ≠ -1) ∧ r2.toInt = -1) ∨ ((0 ≤ y_t ∧ y_t ≤ 9 ∧ 0 ≤ i_t ∧ i_t ≤ 7 ∧ (I (h_ad z mo 28) (8 * y_t + i_t).toNat).toInt ≠ -1) ∧ ((x_t = 0 ∧ r2 = (I (h_ad z mo 28) (8 * y_t + i_t).toNat)) ∨ (x_t = 1 ∧ r2 = (I (h_ad z mo 29) (8 * y_t + i_t).toNat)) ∨ (x_t ≠ 0 ∧ x_t ≠ 1 ∧ r2.toInt = -1)))) : r1.toInt = r2.toInt := by
  obtain ⟨⟨tcp, tmo⟩, ⟨tbk, ttu, tbg, tdt⟩, ⟨tpl, tdd, tsu⟩, ⟨thd, tsh, tgv, two⟩, ⟨tit, tth, tfr, tto, tsg⟩, ⟨trk, tdr, tod, thv⟩, ⟨tlw, thy, ttb, tww⟩, ⟨tcb, tfi, tla, tpa, tri, tss, thc, tis, thu⟩, ⟨tde, tus, tow, tgi, tgu, tdw, tdx⟩, ⟨tmd, tmf, tmt, tmg⟩⟩ := h_tyB.mk hR tcp tmo
  have G0 := G
  obtain ⟨gsz, gpl, gdd, gsp, gtu, gmv, grk, gor, glb, gtw, gwp, gpz⟩ := G
  have j13 := hI.rd mo 13 tmo rfl (rfl : h_bd 13 13 = (0, 60))
  have key : 0 ≤ y_t → y_t ≤ 9 → 0 ≤ i_t → i_t ≤ 7 → ((I (h_ad z (h_ad z cp 7) 2) y_t.toNat).toInt ≠ 0 ↔ (I (h_ad z mo 28) (8 * y_t + i_t).toNat).toInt ≠ -1) ∧ ((I (h_ad z (h_ad z cp 7) 2) y_t.toNat).toInt ≠ 0 → I (h_ad z (h_ad z (h_ad z cp 7) 3) y_t.toNat) i_t.toNat = I (h_ad z mo 28) (8 * y_t + i_t).toNat ∧ I (h_ad z (h_ad z (h_ad z cp 7) 4) y_t.toNat) i_t.toNat = I (h_ad z mo 29) (8 * y_t + i_t).toNat) := by
    intro h1 h2 h3 h4
    have e := gor y_t.toNat (by omega)
    have ei : (8 * y_t + i_t).toNat = 8 * y_t.toNat + i_t.toNat := by omega
    rw [ei]
    rcases e with ⟨a1, a2⟩ | ⟨a1, a2⟩
    · rw [a2 i_t.toNat (by omega), a1]
      exact ⟨⟨fun h => absurd rfl h, fun h => absurd (by decide) h⟩, fun h => absurd rfl h⟩
    · obtain ⟨b1, b2, b3, b4⟩ := a2 i_t.toNat (by omega)
      exact ⟨⟨fun _ => by omega, fun _ => by omega⟩, fun _ => ⟨b1, b2⟩⟩
  rcases p with ⟨p1, p2⟩ | ⟨⟨p1, p1b, p1c, p1d, p1e⟩, p2⟩ <;> rcases q with ⟨q1, q2⟩ | ⟨⟨q1, q1b, q1c, q1d, q1e⟩, q2⟩
  · rw [p2, q2]
  · exact absurd ⟨q1, q1b, (key q1 q1b q1c q1d).1.mpr q1e, q1c, q1d⟩ p1
  · exact absurd ⟨p1, p1b, p1d, p1e, (key p1 p1b p1d p1e).1.mp p1c⟩ q1
  · obtain ⟨k1, k2⟩ := (key q1 q1b q1c q1d).2 p1c
    rw [k1, k2] at p2
    rcases p2 with ⟨a1, a2⟩ | ⟨a1, a2⟩ | ⟨a1, a2, a3⟩ <;> rcases q2 with ⟨b1, b2⟩ | ⟨b1, b2⟩ | ⟨b1, b2, b3⟩ <;> first | omega | rw [a2, b2] | rw [a3, b3]
set_option maxHeartbeats 4000000 in
theorem g_owner2 {z : tZ} {I : tI} {cp mo : Nat} {o_t y_t x_t : Int} {r1 r2 : Int32} (G : h_gb z I cp mo) (hU : h_U z) (hR : h_R z) (hI : h_I z I) (tcp : z.ty cp = 12) (tmo : z.ty mo = 13) (ck : I (h_ad z cp 3) 3 = I mo 12) (p : (¬ (0 ≤ o_t ∧ o_t ≤ 7 ∧ 0 ≤ y_t ∧ y_t ≤ 9 ∧ 0 ≤ x_t ∧ x_t ≤ 1) ∧ r1.toInt = -2) ∨ ((0 ≤ o_t ∧ o_t ≤ 7 ∧ 0 ≤ y_t ∧ y_t ≤ 9 ∧ 0 ≤ x_t ∧ x_t ≤ 1) ∧ ((x_t = 0 ∧ r1 = I (h_ad z (h_ad z cp 4) 0) (10 * o_t + y_t).toNat) ∨ (x_t = 1 ∧ r1 = I (h_ad z (h_ad z cp 4) 1) (10 * o_t + y_t).toNat)))) (q : (¬ (0 ≤ o_t ∧ o_t ≤ 7 ∧ 0 ≤ y_t ∧ y_t ≤ 9 ∧ 0 ≤ x_t ∧ x_t ≤ 1) ∧ r2.toInt = -2) ∨ ((0 ≤ o_t ∧ o_t ≤ 7 ∧ 0 ≤ y_t ∧ y_t ≤ 9 ∧ 0 ≤ x_t ∧ x_t ≤ 1) ∧ ((x_t = 0 ∧ r2 = I (h_ad z mo 25) (10 * o_t + y_t).toNat) ∨ (x_t = 1 ∧ r2 = I (h_ad z mo 27) (10 * o_t + y_t).toNat)))) : r1.toInt = r2.toInt := by
  obtain ⟨⟨tcp, tmo⟩, ⟨tbk, ttu, tbg, tdt⟩, ⟨tpl, tdd, tsu⟩, ⟨thd, tsh, tgv, two⟩, ⟨tit, tth, tfr, tto, tsg⟩, ⟨trk, tdr, tod, thv⟩, ⟨tlw, thy, ttb, tww⟩, ⟨tcb, tfi, tla, tpa, tri, tss, thc, tis, thu⟩, ⟨tde, tus, tow, tgi, tgu, tdw, tdx⟩, ⟨tmd, tmf, tmt, tmg⟩⟩ := h_tyB.mk hR tcp tmo
  have G0 := G
  obtain ⟨gsz, gpl, gdd, gsp, gtu, gmv, grk, gor, glb, gtw, gwp, gpz⟩ := G
  have j13 := hI.rd mo 13 tmo rfl (rfl : h_bd 13 13 = (0, 60))
  rcases p with ⟨p1, p2⟩ | ⟨p1, p2⟩ <;> rcases q with ⟨q1, q2⟩ | ⟨q1, q2⟩
  · rw [p2, q2]
  · exact absurd q1 p1
  · exact absurd p1 q1
  · obtain ⟨e1, e2, _⟩ := gtu (10 * o_t + y_t).toNat (by omega)
    rw [e1, e2] at p2
    rcases p2 with ⟨a1, a2⟩ | ⟨a1, a2⟩ <;> rcases q2 with ⟨b1, b2⟩ | ⟨b1, b2⟩ <;> first | omega | rw [a2, b2]

