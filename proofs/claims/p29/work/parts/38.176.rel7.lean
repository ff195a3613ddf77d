set_option maxHeartbeats 4000000 in
theorem g_worthTurn2 {z : tZ} {I I1 I2 : tI} {cp mo : Nat} {c_t o_t y_t n_t : Int} {n : Int32} {r1 r2 : Int32} (G : h_gb z I cp mo) (hU : h_U z) (hR : h_R z) (hI : h_I z I) (tcp : z.ty cp = 12) (tmo : z.ty mo = 13) (ck : I (h_ad z cp 3) 3 = I mo 12) (p : (¬ (0 ≤ c_t ∧ c_t ≤ 7 ∧ 0 ≤ o_t ∧ o_t ≤ 7 ∧ 0 ≤ y_t ∧ y_t ≤ 9 ∧ 0 ≤ n_t ∧ n_t ≤ 9999) ∧ r1.toInt = -2 ∧ I1 = I) ∨ ((0 ≤ c_t ∧ c_t ≤ 7 ∧ 0 ≤ o_t ∧ o_t ≤ 7 ∧ 0 ≤ y_t ∧ y_t ≤ 9 ∧ 0 ≤ n_t ∧ n_t ≤ 9999) ∧ r1 = I (h_ad z (h_ad z (h_ad z cp 4) 3) c_t.toNat) (10 * o_t + y_t).toNat ∧ I1 = h_up I (h_ad z (h_ad z (h_ad z cp 4) 3) c_t.toNat) (10 * o_t + y_t).toNat n)) (f1 : h_F [(1153, 999)] z I I1) (q : (¬ (0 ≤ c_t ∧ c_t ≤ 7 ∧ 0 ≤ o_t ∧ o_t ≤ 7 ∧ 0 ≤ y_t ∧ y_t ≤ 9 ∧ 0 ≤ n_t ∧ n_t ≤ 9999) ∧ r2.toInt = -2 ∧ ∀ k : Nat, I2 (h_ad z mo 38) k = I1 (h_ad z mo 38) k) ∨ ((0 ≤ c_t ∧ c_t ≤ 7 ∧ 0 ≤ o_t ∧ o_t ≤ 7 ∧ 0 ≤ y_t ∧ y_t ≤ 9 ∧ 0 ≤ n_t ∧ n_t ≤ 9999) ∧ r2 = I1 (h_ad z mo 38) (140 * c_t + 60 + 10 * o_t + y_t).toNat ∧ I2 (h_ad z mo 38) (140 * c_t + 60 + 10 * o_t + y_t).toNat = n ∧ ∀ k : Nat, k ≠ (140 * c_t + 60 + 10 * o_t + y_t).toNat → I2 (h_ad z mo 38) k = I1 (h_ad z mo 38) k)) (f2 : h_F [(1338, 999)] z I1 I2) : r1.toInt = r2.toInt ∧ h_gb z I2 cp mo := by
  obtain ⟨⟨tcp, tmo⟩, ⟨tbk, ttu, tbg, tdt⟩, ⟨tpl, tdd, tsu⟩, ⟨thd, tsh, tgv, two⟩, ⟨tit, tth, tfr, tto, tsg⟩, ⟨trk, tdr, tod, thv⟩, ⟨tlw, thy, ttb, tww⟩, ⟨tcb, tfi, tla, tpa, tri, tss, thc, tis, thu⟩, ⟨tde, tus, tow, tgi, tgu, tdw, tdx⟩, ⟨tmd, tmf, tmt, tmg⟩⟩ := h_tyB.mk hR tcp tmo
  have G0 := G
  obtain ⟨gsz, gpl, gdd, gsp, gtu, gmv, grk, gor, glb, gtw, gwp, gpz⟩ := G
  have j13 := hI.rd mo 13 tmo rfl (rfl : h_bd 13 13 = (0, 60))
  have x_ww := f1.ref (by decide) tww (by decide)
  obtain ⟨same, gn⟩ := gtw.wt hU hR two tww p q f2
  refine ⟨same, ?_⟩
  have f := f1.app f2
  have ew : ∀ k : Nat, k % 140 < 60 → I2 (h_ad z mo 38) k = I (h_ad z mo 38) k := fun k hk => by
    rcases q with ⟨q1, q2, q3⟩ | ⟨q1, q2, q3, q4⟩
    · exact (q3 k).trans (congrFun x_ww k)
    · exact (q4 k (by omega)).trans (congrFun x_ww k)
  have e13 : I2 mo 13 = I mo 13 := f.at tmo rfl
  unfold h_gb
  rw [e13]
  refine ⟨?_, ?_, ?_, ?_, ?_, ?_, ?_, ?_, ?_, ?_, ?_, ?_⟩
  · exact (f.at tbk rfl).trans gsz
  · exact gpl.F hR tpl tcb tfi tla tpa tri tss thc tis thu f (fun k hk => by rcases (show k = 0 ∨ k = 1 ∨ k = 2 ∨ k = 3 ∨ k = 4 ∨ k = 5 ∨ k = 6 ∨ k = 7 by omega) with rfl | rfl | rfl | rfl | rfl | rfl | rfl | rfl <;> rfl) (fun _ => rfl) (fun _ => rfl) (fun _ => rfl) (fun _ => rfl) (fun _ => rfl) (fun _ => rfl) (fun _ => rfl) (fun _ => rfl) (fun _ => rfl)
  · exact gdd.F hR tdd tde f (fun _ => rfl) (fun _ => rfl)
  · exact gsp.F tsu tus f (fun _ => rfl) (fun _ => rfl)
  · exact gtu.F thd tsh tgv tow tgu tgi f (fun _ => rfl) (fun _ => rfl) (fun _ => rfl) (fun _ => rfl) (fun _ => rfl) (fun _ => rfl)
  · exact gmv.F tbg tit tth tfr tto tsg tmo tmd tmf tmt tmg thd f rfl rfl (fun _ => rfl) (fun _ => rfl) (fun _ => rfl) (fun _ => rfl) (fun _ => rfl) rfl (fun _ => rfl) (fun _ => rfl) (fun _ => rfl) (fun _ => rfl) (fun _ => rfl) (fun p hp hq => by
        obtain ⟨b, rb, tb, ab⟩ := gpl.b hR tpl hp (by omega)
        rw [ab] at hq ⊢
        rw [f.at tb rfl]
        exact hq)
  · exact grk.F trk ttb f (fun _ => rfl) (fun _ => rfl)
  · exact gor.F hR tdr tod thv tdw tdx f (fun _ => rfl) (fun _ => rfl) (fun _ => rfl) (fun _ => rfl) (fun _ => rfl)
  · exact glb.c (fun k _ => f.at tlw rfl) (fun k => f.at thy rfl)
  · exact gn
  · exact gwp.F hR tpl f (fun _ => rfl) ew
  · exact gpz.F tfi tla tpa tri tss f (fun _ => rfl) (fun _ => rfl) (fun _ => rfl) (fun _ => rfl) (fun _ => rfl)

set_option maxHeartbeats 4000000 in
theorem g_worth2 {z : tZ} {I I1 I2 : tI} {cp mo : Nat} {c_t p_t n_t : Int} {n : Int32} {r1 r2 : Int32} (G : h_gb z I cp mo) (hU : h_U z) (hR : h_R z) (hI : h_I z I) (tcp : z.ty cp = 12) (tmo : z.ty mo = 13) (ck : I (h_ad z cp 3) 3 = I mo 12) (p : (¬ ((0 ≤ c_t ∧ c_t ≤ 7 ∧ 0 ≤ p_t ∧ p_t ≤ 59 ∧ p_t < (I (h_ad z cp 3) 2).toInt ∧ 0 ≤ n_t ∧ n_t ≤ 9999) ∧ z.R (h_ad z (h_ad z cp 3) 1) p_t.toNat ≠ none) ∧ r1.toInt = -2 ∧ I1 = I) ∨ (((0 ≤ c_t ∧ c_t ≤ 7 ∧ 0 ≤ p_t ∧ p_t ≤ 59 ∧ p_t < (I (h_ad z cp 3) 2).toInt ∧ 0 ≤ n_t ∧ n_t ≤ 9999) ∧ z.R (h_ad z (h_ad z cp 3) 1) p_t.toNat ≠ none) ∧ r1 = I (h_ad z (h_ad z (h_ad z (h_ad z cp 3) 1) p_t.toNat) 8) c_t.toNat ∧ I1 = h_up I (h_ad z (h_ad z (h_ad z (h_ad z cp 3) 1) p_t.toNat) 8) c_t.toNat n)) (f1 : h_F [(708, 999)] z I I1) (q : (¬ (0 ≤ c_t ∧ c_t ≤ 7 ∧ 0 ≤ p_t ∧ p_t ≤ 59 ∧ p_t < (I1 mo 13).toInt ∧ 0 ≤ n_t ∧ n_t ≤ 9999) ∧ r2.toInt = -2 ∧ ∀ k : Nat, I2 (h_ad z mo 38) k = I1 (h_ad z mo 38) k) ∨ ((0 ≤ c_t ∧ c_t ≤ 7 ∧ 0 ≤ p_t ∧ p_t ≤ 59 ∧ p_t < (I1 mo 13).toInt ∧ 0 ≤ n_t ∧ n_t ≤ 9999) ∧ r2 = I1 (h_ad z mo 38) (140 * c_t + p_t).toNat ∧ I2 (h_ad z mo 38) (140 * c_t + p_t).toNat = n ∧ ∀ k : Nat, k ≠ (140 * c_t + p_t).toNat → I2 (h_ad z mo 38) k = I1 (h_ad z mo 38) k)) (f2 : h_F [(1338, 999)] z I1 I2) : r1.toInt = r2.toInt ∧ h_gb z I2 cp mo := by
  obtain ⟨⟨tcp, tmo⟩, ⟨tbk, ttu, tbg, tdt⟩, ⟨tpl, tdd, tsu⟩, ⟨thd, tsh, tgv, two⟩, ⟨tit, tth, tfr, tto, tsg⟩, ⟨trk, tdr, tod, thv⟩, ⟨tlw, thy, ttb, tww⟩, ⟨tcb, tfi, tla, tpa, tri, tss, thc, tis, thu⟩, ⟨tde, tus, tow, tgi, tgu, tdw, tdx⟩, ⟨tmd, tmf, tmt, tmg⟩⟩ := h_tyB.mk hR tcp tmo
  have G0 := G
  obtain ⟨gsz, gpl, gdd, gsp, gtu, gmv, grk, gor, glb, gtw, gwp, gpz⟩ := G
  have j13 := hI.rd mo 13 tmo rfl (rfl : h_bd 13 13 = (0, 60))
  have x_ww := f1.ref (by decide) tww (by decide)
  have x_mo := f1.ref (by decide) tmo (by decide)
  rw [gsz] at p
  rw [x_mo] at q
  obtain ⟨same, gn⟩ := gwp.worth j13.2 hU hR tpl tww p q f2
  refine ⟨same, ?_⟩
  have f := f1.app f2
  have ew : ∀ k : Nat, 60 ≤ k % 140 → I2 (h_ad z mo 38) k = I (h_ad z mo 38) k := fun k hk => by
    rcases q with ⟨q1, q2, q3⟩ | ⟨q1, q2, q3, q4⟩
    · exact (q3 k).trans (congrFun x_ww k)
    · exact (q4 k (by omega)).trans (congrFun x_ww k)
  have e13 : I2 mo 13 = I mo 13 := f.at tmo rfl
  unfold h_gb
  rw [e13]
  refine ⟨?_, ?_, ?_, ?_, ?_, ?_, ?_, ?_, ?_, ?_, ?_, ?_⟩
  · exact (f.at tbk rfl).trans gsz
  · exact gpl.F hR tpl tcb tfi tla tpa tri tss thc tis thu f (fun k hk => by rcases (show k = 0 ∨ k = 1 ∨ k = 2 ∨ k = 3 ∨ k = 4 ∨ k = 5 ∨ k = 6 ∨ k = 7 by omega) with rfl | rfl | rfl | rfl | rfl | rfl | rfl | rfl <;> rfl) (fun _ => rfl) (fun _ => rfl) (fun _ => rfl) (fun _ => rfl) (fun _ => rfl) (fun _ => rfl) (fun _ => rfl) (fun _ => rfl) (fun _ => rfl)
  · exact gdd.F hR tdd tde f (fun _ => rfl) (fun _ => rfl)
  · exact gsp.F tsu tus f (fun _ => rfl) (fun _ => rfl)
  · exact gtu.F thd tsh tgv tow tgu tgi f (fun _ => rfl) (fun _ => rfl) (fun _ => rfl) (fun _ => rfl) (fun _ => rfl) (fun _ => rfl)
  · exact gmv.F tbg tit tth tfr tto tsg tmo tmd tmf tmt tmg thd f rfl rfl (fun _ => rfl) (fun _ => rfl) (fun _ => rfl) (fun _ => rfl) (fun _ => rfl) rfl (fun _ => rfl) (fun _ => rfl) (fun _ => rfl) (fun _ => rfl) (fun _ => rfl) (fun p hp hq => by
        obtain ⟨b, rb, tb, ab⟩ := gpl.b hR tpl hp (by omega)
        rw [ab] at hq ⊢
        rw [f.at tb rfl]
        exact hq)
  · exact grk.F trk ttb f (fun _ => rfl) (fun _ => rfl)
  · exact gor.F hR tdr tod thv tdw tdx f (fun _ => rfl) (fun _ => rfl) (fun _ => rfl) (fun _ => rfl) (fun _ => rfl)
  · exact glb.c (fun k _ => f.at tlw rfl) (fun k => f.at thy rfl)
  · exact gtw.F hR two f (fun _ => rfl) ew
  · exact gn
  · exact gpz.F tfi tla tpa tri tss f (fun _ => rfl) (fun _ => rfl) (fun _ => rfl) (fun _ => rfl) (fun _ => rfl)

set_option maxHeartbeats 4000000 in
theorem g_draw2 {z : tZ} {I I1 I2 : tI} {cp mo : Nat} {a_t b_t : Int} {u_ : Nat → Int} {r1 r2 : Int32} (G : h_gb z I cp mo) (hU : h_U z) (hR : h_R z) (hI : h_I z I) (tcp : z.ty cp = 12) (tmo : z.ty mo = 13) (ck : I (h_ad z cp 3) 3 = I mo 12) (Rdr : (I (h_ad z (h_ad z cp 7) 2) (I mo 12).toInt.toNat).toInt = (I mo 31).toInt ∧ ∀ k : Nat, (I mo 12).toInt < (k : Int) → I (h_ad z (h_ad z cp 7) 2) k = 0) (Rtb : I (h_ad z cp 7) 1 = I mo 30) (hok : q_ok u_) (p : (¬ q_draws u_ a_t b_t ∧ r1.toInt = -2 ∧ I1 = I) ∨ (q_draws u_ a_t b_t ∧ ((I (h_ad z cp 7) 1).toInt = 0 ∨ (I (h_ad z (h_ad z cp 7) 2) ((I (h_ad z cp 3) 3).toInt).toNat).toInt = 1) ∧ r1.toInt = -4 ∧ I1 = I) ∨ (q_draws u_ a_t b_t ∧ (I (h_ad z cp 7) 1).toInt = 1 ∧ (I (h_ad z (h_ad z cp 7) 2) ((I (h_ad z cp 3) 3).toInt).toNat).toInt = 0 ∧ r1.toInt = 1 ∧ (∀ k : Nat, I1 (h_ad z (h_ad z cp 7) 2) k = if k = ((I (h_ad z cp 3) 3).toInt).toNat then 1 else I (h_ad z (h_ad z cp 7) 2) k) ∧ (∀ k : Nat, k < 8 → I1 (h_ad z (h_ad z (h_ad z cp 7) 3) ((I (h_ad z cp 3) 3).toInt).toNat) k = I (h_ad z (h_ad z cp 7) 0) (q_od (q_lx u_ a_t) (q_ly u_ a_t b_t) k)) ∧ (∀ a k : Nat, z.ty a = 353 → a ≠ (h_ad z (h_ad z (h_ad z cp 7) 3) ((I (h_ad z cp 3) 3).toInt).toNat) → I1 a k = I a k) ∧ h_hoi I I1 (h_ad z (h_ad z cp 4) 0) (h_ad z (h_ad z cp 4) 1) (h_ad z (h_ad z cp 4) 2) (h_ad z (h_ad z (h_ad z cp 7) 4) ((I (h_ad z cp 3) 3).toInt).toNat) 0 (I1 (h_ad z (h_ad z (h_ad z cp 7) 3) ((I (h_ad z cp 3) 3).toInt).toNat)) (I (h_ad z cp 3) 3).toInt 8 ∧ (∀ a k : Nat, z.ty a = 354 → a ≠ (h_ad z (h_ad z (h_ad z cp 7) 4) ((I (h_ad z cp 3) 3).toInt).toNat) → I1 a k = I a k) ∧ I1 (h_ad z cp 5) 3 = 0 ∧ I1 (h_ad z cp 5) 4 = 0)) (f1 : h_F [(353, 999), (302, 999), (354, 999), (1100, 999), (1101, 999), (10, 3), (10, 4)] z I I1) (q : (¬ q_draws u_ a_t b_t ∧ r2.toInt = -2 ∧ (∀ a k : Nat, z.ty a ≠ 1348 → I2 a k = I1 a k)) ∨ (q_draws u_ a_t b_t ∧ ((I1 mo 30).toInt = 0 ∨ (I1 mo 31).toInt = 1) ∧ r2.toInt = -4 ∧ (∀ a k : Nat, z.ty a ≠ 1348 → I2 a k = I1 a k)) ∨ (q_draws u_ a_t b_t ∧ (I1 mo 30).toInt = 1 ∧ (I1 mo 31).toInt = 0 ∧ r2.toInt = 1 ∧ I2 mo 31 = 1 ∧ I2 mo 33 = 0 ∧ (∀ k : Nat, k < 8 → I2 (h_ad z mo 28) ((8 * (I1 mo 12).toInt.toNat) + k) = I1 (h_ad z mo 32) (q_od (q_lx u_ a_t) (q_ly u_ a_t b_t) k)) ∧ (∀ k : Nat, (k < (8 * (I1 mo 12).toInt.toNat) ∨ (8 * (I1 mo 12).toInt.toNat) + 8 ≤ k) → I2 (h_ad z mo 28) k = I1 (h_ad z mo 28) k) ∧ h_hoi I1 I2 (h_ad z mo 25) (h_ad z mo 27) (h_ad z mo 26) (h_ad z mo 29) (8 * (I1 mo 12).toInt.toNat) (fun k : Nat => I2 (h_ad z mo 28) ((8 * (I1 mo 12).toInt.toNat) + k)) (I1 mo 12).toInt 8)) (f2 : h_F [(1348, 999), (1328, 999), (1325, 999), (1327, 999), (1329, 999), (13, 31), (13, 33)] z I1 I2) : r1.toInt = r2.toInt ∧ ((I2 (h_ad z (h_ad z cp 7) 2) (I2 mo 12).toInt.toNat).toInt = (I2 mo 31).toInt ∧ ∀ k : Nat, (I2 mo 12).toInt < (k : Int) → I2 (h_ad z (h_ad z cp 7) 2) k = 0) ∧ I2 (h_ad z cp 7) 1 = I2 mo 30 ∧ h_gb z I2 cp mo := by
  obtain ⟨⟨tcp, tmo⟩, ⟨tbk, ttu, tbg, tdt⟩, ⟨tpl, tdd, tsu⟩, ⟨thd, tsh, tgv, two⟩, ⟨tit, tth, tfr, tto, tsg⟩, ⟨trk, tdr, tod, thv⟩, ⟨tlw, thy, ttb, tww⟩, ⟨tcb, tfi, tla, tpa, tri, tss, thc, tis, thu⟩, ⟨tde, tus, tow, tgi, tgu, tdw, tdx⟩, ⟨tmd, tmf, tmt, tmg⟩⟩ := h_tyB.mk hR tcp tmo
  have G0 := G
  obtain ⟨gsz, gpl, gdd, gsp, gtu, gmv, grk, gor, glb, gtw, gwp, gpz⟩ := G
  have j13 := hI.rd mo 13 tmo rfl (rfl : h_bd 13 13 = (0, 60))
  have x_ow := f1.ref (by decide) tow (by decide)
  have x_gu := f1.ref (by decide) tgu (by decide)
  have x_gi := f1.ref (by decide) tgi (by decide)
  have x_dw := f1.ref (by decide) tdw (by decide)
  have x_dx := f1.ref (by decide) tdx (by decide)
  have x_tb := f1.ref (by decide) ttb (by decide)
  have x_mo := f1.ref (by decide) tmo (by decide)
  have h12 := hI.rd mo 12 tmo rfl (rfl : h_bd 13 12 = (0, 9))
  obtain ⟨Ra, Rb⟩ := Rdr
  rw [ck, Ra, Rtb] at p
  rw [x_dw, x_tb, x_mo] at q
  have f := f1.app f2
  have e12 : I2 mo 12 = I mo 12 := f.at tmo rfl
  have e30 : I2 mo 30 = I mo 30 := f.at tmo rfl
  have ed1 : I2 (h_ad z cp 7) 1 = I (h_ad z cp 7) 1 := f.at tdt rfl
  have y_dr := f2.cls (by decide) tdr (by decide)
  rw [e12, e30, ed1, y_dr]
  rcases p with ⟨p1, p2, p3⟩ | ⟨p1, p2, p3, p4⟩ | ⟨p1, p2, p3, p4, p5, p6, p7, p8, p9, p10, p11⟩ <;> rcases q with ⟨q1, q2, q3⟩ | ⟨q1, q2, q3, q4⟩ | ⟨q1, q2, q3, q4, q5, q6, q7, q8, q9⟩
  · refine ⟨by rw [p2, q2], ⟨by rw [p3, q3 mo 31 (by rw [tmo]; decide), p3]; exact Ra, fun k hk => by rw [p3]; exact Rb k hk⟩, Rtb, ?_⟩
    have f9 : h_F [(1348, 999)] z I I2 := fun a k hm => (q3 a k (fun h9 => by
      rw [h9] at hm
      cases hm)).trans (by rw [p3])
    exact G0.F hR tcp tmo f9 (by decide) j13.2
  · exact absurd q1 p1
  · exact absurd q1 p1
  · exact absurd p1 q1
  · refine ⟨by rw [p3, q3], ⟨by rw [p4, q4 mo 31 (by rw [tmo]; decide), p4]; exact Ra, fun k hk => by rw [p4]; exact Rb k hk⟩, Rtb, ?_⟩
    have f9 : h_F [(1348, 999)] z I I2 := fun a k hm => (q4 a k (fun h9 => by
      rw [h9] at hm
      cases hm)).trans (by rw [p4])
    exact G0.F hR tcp tmo f9 (by decide) j13.2
  · omega
  · exact absurd p1 q1
  · omega
  have hq8 := q_lxq hok p1
  refine ⟨by rw [p4, q4], ⟨by rw [p5, if_pos rfl, q5], fun k hk => by rw [p5, if_neg (by omega)]; exact Rb k hk⟩, Rtb, ?_⟩
  have hY : (I mo 12).toInt.toNat < 10 := by omega
  have ro := hR.ad tod (rfl : h_rs 303 (I mo 12).toInt.toNat = some (353, false)) (by rw [so_303]; exact hY)
  have rh := hR.ad thv (rfl : h_rs 304 (I mo 12).toInt.toNat = some (354, false)) (by rw [so_304]; exact hY)
  have y_bg := f2.cls (by decide) tbg (by decide)
  have y_hd := f2.cls (by decide) thd (by decide)
  have y_sh := f2.cls (by decide) tsh (by decide)
  have y_ro := f2.cls (by decide) ro.2 (by decide)
  have y_rh := f2.cls (by decide) rh.2 (by decide)
  have bt : ∀ k : Nat, 0 ≤ (I (h_ad z mo 32) k).toInt ∧ (I (h_ad z mo 32) k).toInt ≤ 7 := fun k => hI.rd _ k ttb rfl (rfl : h_bd 1332 _ = (0, 7))
  -- the orders are alike
  have eo : ∀ i : Nat, i < 8 → I1 (h_ad z (h_ad z (h_ad z cp 7) 3) (I mo 12).toInt.toNat) i = I2 (h_ad z mo 28) (8 * (I mo 12).toInt.toNat + i) := fun i hi => by
    rw [p6 i hi, q7 i hi]
    exact grk _ (q_od_lt hq8 hi)
  have bo : ∀ i : Nat, i < 8 → 0 ≤ (I2 (h_ad z mo 28) (8 * (I mo 12).toInt.toNat + i)).toInt ∧ (I2 (h_ad z mo 28) (8 * (I mo 12).toInt.toNat + i)).toInt ≤ 7 := fun i hi => by
    rw [q7 i hi]
    exact bt _
  have ky : ∀ i : Nat, i < 8 → q_ky (I1 (h_ad z (h_ad z (h_ad z cp 7) 3) (I mo 12).toInt.toNat)) (I mo 12).toInt i < 80 := fun i hi => by
    have h9 := bo i hi
    unfold q_ky
    rw [eo i hi]
    omega
  have q9' : h_hoi I I2 (h_ad z mo 25) (h_ad z mo 27) (h_ad z mo 26) (h_ad z mo 29) (8 * (I mo 12).toInt.toNat) (fun k : Nat => I2 (h_ad z mo 28) (8 * (I mo 12).toInt.toNat + k)) (I mo 12).toInt 8 := h_hoi.fr x_ow x_gu x_gi x_dx q9
  have hoq := fun n (hn : n ≤ 8) => q_ho_eq (od := I1 (h_ad z (h_ad z (h_ad z cp 7) 3) (I mo 12).toInt.toNat)) (od' := fun k : Nat => I2 (h_ad z mo 28) (8 * (I mo 12).toInt.toNat + k)) (y := (I mo 12).toInt) (fun k hk => (gtu k hk).1) (fun k hk => (gtu k hk).2.1) (fun k hk h9 => ((gtu k hk).2.2.2.2 h9).1) (fun k hk => (gtu k hk).2.2.2.1.1) n (fun i hi => ⟨eo i (by omega), ky i (by omega)⟩)
  have hor := fun n (hn : n ≤ 8) => q_ho_r (P := fun v => 0 ≤ v.toInt ∧ v.toInt ≤ 7) (od := I1 (h_ad z (h_ad z (h_ad z cp 7) 3) (I mo 12).toInt.toNat)) (y := (I mo 12).toInt) (g := I (h_ad z (h_ad z cp 4) 2)) (h := I (h_ad z (h_ad z cp 4) 0)) (s := I (h_ad z (h_ad z cp 4) 1)) (fun k hk => (gtu k hk).2.2.1) (fun k hk h9 => ((gtu k hk).2.2.2.2 h9).2) (fun k hk => (gtu k hk).2.2.2.1.1) n (fun i hi => ky i (by omega))
  have e13 : I2 mo 13 = I mo 13 := f.at tmo rfl
  unfold h_gb
  rw [e13]
  refine ⟨?_, ?_, ?_, ?_, ?_, ?_, ?_, ?_, ?_, ?_, ?_, ?_⟩
  · exact (f.at tbk rfl).trans gsz
  · exact gpl.F hR tpl tcb tfi tla tpa tri tss thc tis thu f (fun k hk => by rcases (show k = 0 ∨ k = 1 ∨ k = 2 ∨ k = 3 ∨ k = 4 ∨ k = 5 ∨ k = 6 ∨ k = 7 by omega) with rfl | rfl | rfl | rfl | rfl | rfl | rfl | rfl <;> rfl) (fun _ => rfl) (fun _ => rfl) (fun _ => rfl) (fun _ => rfl) (fun _ => rfl) (fun _ => rfl) (fun _ => rfl) (fun _ => rfl) (fun _ => rfl)
  · exact gdd.F hR tdd tde f (fun _ => rfl) (fun _ => rfl)
  · exact gsp.F tsu tus f (fun _ => rfl) (fun _ => rfl)
  · exact (fun k hk => by
        obtain ⟨s1, s2, s3⟩ := hoq 8 (Nat.le_refl _) k hk
        obtain ⟨g1, g2, g3, g4, g5⟩ := gtu k hk
        have e1 : I2 (h_ad z (h_ad z cp 4) 0) k = (q_ho (I1 (h_ad z (h_ad z (h_ad z cp 7) 3) (I mo 12).toInt.toNat)) (I mo 12).toInt (I (h_ad z (h_ad z cp 4) 2)) (I (h_ad z (h_ad z cp 4) 0)) (I (h_ad z (h_ad z cp 4) 1)) 8).1 k := by
          rw [y_hd]
          exact p8.1 k
        have e2 : I2 (h_ad z (h_ad z cp 4) 1) k = (q_ho (I1 (h_ad z (h_ad z (h_ad z cp 7) 3) (I mo 12).toInt.toNat)) (I mo 12).toInt (I (h_ad z (h_ad z cp 4) 2)) (I (h_ad z (h_ad z cp 4) 0)) (I (h_ad z (h_ad z cp 4) 1)) 8).2 k := by
          rw [y_sh]
          exact p8.2.1 k
        refine ⟨by rw [e1, q9'.1 k]; exact s1, by rw [e2, q9'.2.1 k]; exact s2, by rw [e1]; exact hor 8 (Nat.le_refl _) k hk, ?_, fun h9 => ?_⟩
        · rcases s3 with s3 | s3
          · rw [e2, s3]
            exact g4
          · rw [e2, s3]
            decide
        · rcases s3 with s3 | s3
          · rw [e2, s3] at h9
            rw [show I2 (h_ad z (h_ad z cp 4) 2) k = I (h_ad z (h_ad z cp 4) 2) k from f.at tgv rfl, show I2 (h_ad z mo 26) k = I (h_ad z mo 26) k from f.at tgi rfl]
            exact g5 h9
          · rw [e2, s3] at h9
            exact absurd (by decide) h9)
  · exact g_mv.z (by rw [y_bg]; exact p10) (by rw [y_bg]; exact p11) q6
  · exact grk.F trk ttb f (fun _ => rfl) (fun _ => rfl)
  · exact (fun y hy => by
        have ry := hR.ad tod (rfl : h_rs 303 y = some (353, false)) (by rw [so_303]; exact hy)
        have rz := hR.ad thv (rfl : h_rs 304 y = some (354, false)) (by rw [so_304]; exact hy)
        rw [y_dr, p5]
        by_cases hyy : y = (I mo 12).toInt.toNat
        · rw [if_pos hyy]
          refine Or.inr ⟨by decide, fun i hi => ?_⟩
          rw [hyy, y_ro, y_rh]
          refine ⟨eo i hi, ?_, bo i hi⟩
          have h1 := p8.2.2.1 i hi
          rw [Nat.zero_add] at h1
          rw [h1, q9'.2.2.1 i hi]
          unfold q_hv
          have e9 : q_ky (fun k : Nat => I2 (h_ad z mo 28) (8 * (I mo 12).toInt.toNat + k)) (I mo 12).toInt i = q_ky (I1 (h_ad z (h_ad z (h_ad z cp 7) 3) (I mo 12).toInt.toNat)) (I mo 12).toInt i := by
            unfold q_ky
            rw [eo i hi]
          rw [e9]
          exact (hoq (i + 1) (by omega) _ (ky i hi)).1
        · rw [if_neg hyy]
          have n1 : h_ad z (h_ad z (h_ad z cp 7) 3) y ≠ h_ad z (h_ad z (h_ad z cp 7) 3) (I mo 12).toInt.toNat := fun h9 => by
            have r3 := ry.1
            rw [h9] at r3
            exact hyy (hU.2.2 _ y _ _ _ (by rw [tod]; rfl) (by rw [tod]; rfl) r3 ro.1).2
          have n2 : h_ad z (h_ad z (h_ad z cp 7) 4) y ≠ h_ad z (h_ad z (h_ad z cp 7) 4) (I mo 12).toInt.toNat := fun h9 => by
            have r3 := rz.1
            rw [h9] at r3
            exact hyy (hU.2.2 _ y _ _ _ (by rw [thv]; rfl) (by rw [thv]; rfl) r3 rh.1).2
          have ew : ∀ i : Nat, i < 8 → I2 (h_ad z mo 28) (8 * y + i) = I (h_ad z mo 28) (8 * y + i) := fun i hi => by
            rw [q8 _ (by omega)]
          have ex : ∀ i : Nat, i < 8 → I2 (h_ad z mo 29) (8 * y + i) = I (h_ad z mo 29) (8 * y + i) := fun i hi => q9'.2.2.2 _ (by omega)
          rcases gor y hy with ⟨c1, c2⟩ | ⟨c1, c2⟩
          · exact Or.inl ⟨c1, fun i hi => by rw [ew i hi]; exact c2 i hi⟩
          · refine Or.inr ⟨c1, fun i hi => ?_⟩
            rw [ew i hi, ex i hi, f2.cls (by decide) ry.2 (by decide), f2.cls (by decide) rz.2 (by decide), p7 _ i ry.2 n1, p9 _ i rz.2 n2]
            exact c2 i hi)
  · exact glb.c (fun k _ => f.at tlw rfl) (fun k => f.at thy rfl)
  · exact gtw.F hR two f (fun _ => rfl) (fun k _ => f.at tww rfl)
  · exact gwp.F hR tpl f (fun _ => rfl) (fun k _ => f.at tww rfl)
  · exact gpz.F tfi tla tpa tri tss f (fun _ => rfl) (fun _ => rfl) (fun _ => rfl) (fun _ => rfl) (fun _ => rfl)

set_option maxHeartbeats 4000000 in
theorem g_next2 {z : tZ} {I I1 I2 : tI} {cp mo : Nat}  {r1 r2 : Int32} (G : h_gb z I cp mo) (hU : h_U z) (hR : h_R z) (hI : h_I z I) (tcp : z.ty cp = 12) (tmo : z.ty mo = 13) (ck : I (h_ad z cp 3) 3 = I mo 12) (Rdr : (I (h_ad z (h_ad z cp 7) 2) (I mo 12).toInt.toNat).toInt = (I mo 31).toInt ∧ ∀ k : Nat, (I mo 12).toInt < (k : Int) → I (h_ad z (h_ad z cp 7) 2) k = 0) (Rtb : I (h_ad z cp 7) 1 = I mo 30) (p : ((9 ≤ (I (h_ad z cp 3) 3).toInt ∨ (I (h_ad z (h_ad z cp 7) 2) ((I (h_ad z cp 3) 3).toInt).toNat).toInt = 0) ∧ r1.toInt = -4 ∧ I1 = I) ∨ ((I (h_ad z cp 3) 3).toInt ≤ 8 ∧ (I (h_ad z (h_ad z cp 7) 2) ((I (h_ad z cp 3) 3).toInt).toNat).toInt = 1 ∧ r1.toInt = (I (h_ad z cp 3) 3).toInt + 1 ∧ (I1 (h_ad z cp 3) 3).toInt = (I (h_ad z cp 3) 3).toInt + 1 ∧ I1 (h_ad z cp 7) 1 = 0 ∧ (∀ q : Nat, (q : Int) < (I (h_ad z cp 3) 2).toInt → ∀ b : Nat, z.R (h_ad z (h_ad z cp 3) 1) q = some b → h_nx I I1 b (I1 (h_ad z cp 3) 3)) ∧ (∀ k : Nat, k < 8 → I1 (h_ad z (h_ad z cp 3) 5) k = 0) ∧ I1 (h_ad z cp 5) 3 = 0 ∧ I1 (h_ad z cp 5) 4 = 0)) (f1 : h_F [(108, 999), (106, 999), (1, 7), (1, 3), (105, 999), (7, 7), (7, 0), (7, 1), (7, 2), (7, 3), (7, 4), (7, 5), (7, 6), (3, 1), (10, 3), (10, 4)] z I I1) (q : ((9 ≤ (I1 mo 12).toInt ∨ (I1 mo 31).toInt = 0) ∧ r2.toInt = -4 ∧ I2 = I1) ∨ ((I1 mo 12).toInt ≤ 8 ∧ (I1 mo 31).toInt = 1 ∧ r2.toInt = (I1 mo 12).toInt + 1 ∧ (I2 mo 12).toInt = (I1 mo 12).toInt + 1 ∧ I2 mo 30 = 0 ∧ I2 mo 31 = 0 ∧ I2 mo 33 = 0 ∧ (∀ q : Nat, (q : Int) < (I1 mo 13).toInt → m_nx I1 I2 (h_ad z mo 14) (h_ad z mo 15) (h_ad z mo 16) (h_ad z mo 20) (h_ad z mo 21) (h_ad z mo 22) q (I2 mo 12)) ∧ (∀ q : Nat, (I1 mo 13).toInt ≤ (q : Int) → I2 (h_ad z mo 22) q = I1 (h_ad z mo 22) q ∧ I2 (h_ad z mo 14) q = I1 (h_ad z mo 14) q) ∧ ∀ k : Nat, k < 8 → I2 (h_ad z mo 24) k = 0)) (f2 : h_F [(1349, 999), (13, 50), (13, 12), (1322, 999), (1314, 999), (1324, 999), (13, 30), (13, 31), (13, 33)] z I1 I2) : r1.toInt = r2.toInt ∧ I2 (h_ad z cp 3) 3 = I2 mo 12 ∧ ((I2 (h_ad z (h_ad z cp 7) 2) (I2 mo 12).toInt.toNat).toInt = (I2 mo 31).toInt ∧ ∀ k : Nat, (I2 mo 12).toInt < (k : Int) → I2 (h_ad z (h_ad z cp 7) 2) k = 0) ∧ I2 (h_ad z cp 7) 1 = I2 mo 30 ∧ h_gb z I2 cp mo := by
  obtain ⟨⟨tcp, tmo⟩, ⟨tbk, ttu, tbg, tdt⟩, ⟨tpl, tdd, tsu⟩, ⟨thd, tsh, tgv, two⟩, ⟨tit, tth, tfr, tto, tsg⟩, ⟨trk, tdr, tod, thv⟩, ⟨tlw, thy, ttb, tww⟩, ⟨tcb, tfi, tla, tpa, tri, tss, thc, tis, thu⟩, ⟨tde, tus, tow, tgi, tgu, tdw, tdx⟩, ⟨tmd, tmf, tmt, tmg⟩⟩ := h_tyB.mk hR tcp tmo
  have G0 := G
  obtain ⟨gsz, gpl, gdd, gsp, gtu, gmv, grk, gor, glb, gtw, gwp, gpz⟩ := G
  have j13 := hI.rd mo 13 tmo rfl (rfl : h_bd 13 13 = (0, 60))
  have x_cb := f1.ref (by decide) tcb (by decide)
  have x_fi := f1.ref (by decide) tfi (by decide)
  have x_la := f1.ref (by decide) tla (by decide)
  have x_hc := f1.ref (by decide) thc (by decide)
  have x_is := f1.ref (by decide) tis (by decide)
  have x_hu := f1.ref (by decide) thu (by decide)
  have x_us := f1.ref (by decide) tus (by decide)
  have x_mo := f1.ref (by decide) tmo (by decide)
  have h12 := hI.rd mo 12 tmo rfl (rfl : h_bd 13 12 = (0, 9))
  have h31 := hI.rd mo 31 tmo rfl (rfl : h_bd 13 31 = (0, 1))
  obtain ⟨Ra, Rb⟩ := Rdr
  rw [ck, Ra, gsz] at p
  rw [x_mo] at q
  have f := f1.app f2
  have y_bk := f2.cls (by decide) tbk (by decide)
  have y_bg := f2.cls (by decide) tbg (by decide)
  have y_dt := f2.cls (by decide) tdt (by decide)
  have y_su := f2.cls (by decide) tsu (by decide)
  have e_dr : ∀ k : Nat, I2 (h_ad z (h_ad z cp 7) 2) k = I (h_ad z (h_ad z cp 7) 2) k := fun k => f.at tdr rfl
  have y7 : ∀ c : Nat, z.ty c = 7 → I2 c = I1 c := fun c tc => f2.cls (by decide) tc (by decide)
  rcases p with ⟨p1, p2, p3⟩ | ⟨p1, p2, p3, p4, p5, p6, p7, p8, p9⟩ <;> rcases q with ⟨q1, q2, q3⟩ | ⟨q1, q2, q3, q4, q5, q6, q7, q8, q9, q10⟩
  · exact ⟨by rw [p2, q2], by rw [q3, p3]; exact ck, by rw [q3, p3]; exact ⟨Ra, Rb⟩, by rw [q3, p3]; exact Rtb, by rw [q3, p3]; exact G0⟩
  · omega
  · omega
  have ey : I1 (h_ad z cp 3) 3 = I2 mo 12 := xi_of (by rw [p4, q4])
  refine ⟨by rw [p3, q3], by rw [y_bk]; exact ey, ⟨by rw [e_dr, q6, Rb _ (by omega)], fun k hk => by rw [e_dr]; exact Rb k (by omega)⟩, by rw [y_dt, p5, q5], ?_⟩
  have e_fi : ∀ k : Nat, I2 (h_ad z mo 15) k = I (h_ad z mo 15) k := fun k => f.at tfi rfl
  have e_la : ∀ k : Nat, I2 (h_ad z mo 16) k = I (h_ad z mo 16) k := fun k => f.at tla rfl
  have e_pa : ∀ k : Nat, I2 (h_ad z mo 17) k = I (h_ad z mo 17) k := fun k => f.at tpa rfl
  have e_ri : ∀ k : Nat, I2 (h_ad z mo 18) k = I (h_ad z mo 18) k := fun k => f.at tri rfl
  have e_ss : ∀ k : Nat, I2 (h_ad z mo 19) k = I (h_ad z mo 19) k := fun k => f.at tss rfl
  have e_hc : ∀ k : Nat, I2 (h_ad z mo 20) k = I (h_ad z mo 20) k := fun k => f.at thc rfl
  have e_is : ∀ k : Nat, I2 (h_ad z mo 21) k = I (h_ad z mo 21) k := fun k => f.at tis rfl
  have e13 : I2 mo 13 = I mo 13 := f.at tmo rfl
  unfold h_gb
  rw [e13]
  refine ⟨?_, ?_, ?_, ?_, ?_, ?_, ?_, ?_, ?_, ?_, ?_, ?_⟩
  · exact (f.at tbk rfl).trans gsz
  · exact ⟨gpl.1, fun p hp => ⟨fun hpn => by
        obtain ⟨b, rb, tb, ab⟩ := gpl.b hR tpl hpn hp
        have h1 := (gpl.2 p hp).1 hpn
        rw [ab] at h1 ⊢
        have hn := p6 p hpn b rb
        have hm := q8 p hpn
        unfold m_nx at hm
        rw [x_cb, x_fi, x_la, x_hc, x_is, ← ey] at hm
        have hu9 := h1.und (I1 (h_ad z cp 3) 3)
        obtain ⟨a1, a2, a3, a4, a5⟩ := h1
        obtain ⟨n1, n2⟩ := hn
        obtain ⟨m1, m2⟩ := hm
        unfold h_p1
        rw [y7 b tb, n1, m1, e_fi, e_la, e_pa, e_ri, e_ss, e_hc, e_is]
        rcases n2 with ⟨c1, c2, c3, c4, c5⟩ | ⟨c1, c2⟩ <;> rcases m2 with ⟨d1, d2, d3⟩ | ⟨d1, d2⟩
        · rw [c3, c4, c5, d3]
          exact ⟨rfl, rfl, fun _ => ⟨rfl, rfl⟩, fun h9 => absurd rfl h9, a5⟩
        · rw [← a1] at d1
          rcases d1 with d1 | d1
          · exact absurd d1 c1
          · exact absurd (hu9.mpr (by rw [← a1]; exact d1)) c2
        · rw [← a1] at d1
          rcases c1 with c1 | c1
          · exact absurd c1 d1
          · exact absurd (hu9.mp c1) d2
        · rw [c2 0 (by decide), c2 1 (by decide), c2 2 (by decide), c2 3 (by decide), c2 4 (by decide), c2 5 (by decide), c2 6 (by decide), d2]
          exact ⟨a1, rfl, a3, a4, a5⟩, fun hpn => by
        rw [(q9 p hpn).1, x_hu]
        exact (gpl.2 p hp).2 hpn⟩⟩
  · exact gdd.F hR tdd tde f (fun _ => rfl) (fun _ => rfl)
  · exact (fun c hc => by rw [y_su, p7 c hc, q10 c hc])
  · exact gtu.F thd tsh tgv tow tgu tgi f (fun _ => rfl) (fun _ => rfl) (fun _ => rfl) (fun _ => rfl) (fun _ => rfl) (fun _ => rfl)
  · exact g_mv.z (by rw [y_bg]; exact p8) (by rw [y_bg]; exact p9) q7
  · exact grk.F trk ttb f (fun _ => rfl) (fun _ => rfl)
  · exact gor.F hR tdr tod thv tdw tdx f (fun _ => rfl) (fun _ => rfl) (fun _ => rfl) (fun _ => rfl) (fun _ => rfl)
  · exact glb.c (fun k _ => f.at tlw rfl) (fun k => f.at thy rfl)
  · exact gtw.F hR two f (fun _ => rfl) (fun k _ => f.at tww rfl)
  · exact gwp.F hR tpl f (fun _ => rfl) (fun k _ => f.at tww rfl)
  · exact gpz.F tfi tla tpa tri tss f (fun _ => rfl) (fun _ => rfl) (fun _ => rfl) (fun _ => rfl) (fun _ => rfl)

set_option maxHeartbeats 4000000 in
theorem g_table2 {z : tZ} {I I1 I2 : tI} {cp mo : Nat}  {r1 r2 : Int32} (G : h_gb z I cp mo) (hU : h_U z) (hR : h_R z) (hI : h_I z I) (tcp : z.ty cp = 12) (tmo : z.ty mo = 13) (ck : I (h_ad z cp 3) 3 = I mo 12) (Rtp : I (h_ad z cp 0) 1 = I mo 1 ∧ I (h_ad z (h_ad z cp 0) 0) = I (h_ad z mo 0)) (Rdr : (I (h_ad z (h_ad z cp 7) 2) (I mo 12).toInt.toNat).toInt = (I mo 31).toInt ∧ ∀ k : Nat, (I mo 12).toInt < (k : Int) → I (h_ad z (h_ad z cp 7) 2) k = 0) (Rtb : I (h_ad z cp 7) 1 = I mo 30) (p : (¬ h_istab (q_at (I (h_ad z (h_ad z cp 0) 0)) (I (h_ad z cp 0) 1).toInt) (I (h_ad z cp 0) 1).toInt ∧ r1.toInt = -1 ∧ (∀ k : Nat, I1 (h_ad z (h_ad z cp 7) 0) k = I (h_ad z (h_ad z cp 7) 0) k) ∧ I1 (h_ad z cp 7) 1 = I (h_ad z cp 7) 1) ∨ (h_istab (q_at (I (h_ad z (h_ad z cp 0) 0)) (I (h_ad z cp 0) 1).toInt) (I (h_ad z cp 0) 1).toInt ∧ (I (h_ad z (h_ad z cp 7) 2) ((I (h_ad z cp 3) 3).toInt).toNat).toInt = 1 ∧ r1.toInt = -4 ∧ (∀ k : Nat, I1 (h_ad z (h_ad z cp 7) 0) k = I (h_ad z (h_ad z cp 7) 0) k) ∧ I1 (h_ad z cp 7) 1 = I (h_ad z cp 7) 1) ∨ (h_istab (q_at (I (h_ad z (h_ad z cp 0) 0)) (I (h_ad z cp 0) 1).toInt) (I (h_ad z cp 0) 1).toInt ∧ (I (h_ad z (h_ad z cp 7) 2) ((I (h_ad z cp 3) 3).toInt).toNat).toInt = 0 ∧ r1.toInt = 1 ∧ (∀ j : Nat, j < 8 → (I1 (h_ad z (h_ad z cp 7) 0) j).toInt = (q_at (I (h_ad z (h_ad z cp 0) 0)) (I (h_ad z cp 0) 1).toInt) j - 65) ∧ I1 (h_ad z cp 7) 1 = 1)) (f1 : h_F [(300, 999), (3, 1), (9, 1)] z I I1) (q : ((I1 mo 31).toInt = 1 ∧ r2.toInt = -4 ∧ (∀ k : Nat, I2 (h_ad z mo 32) k = I1 (h_ad z mo 32) k) ∧ I2 mo 30 = I1 mo 30) ∨ ((I1 mo 31).toInt = 0 ∧ ¬ h_istab (q_at (I1 (h_ad z mo 0)) (I1 mo 1).toInt) (I1 mo 1).toInt ∧ r2.toInt = -1 ∧ (∀ k : Nat, I2 (h_ad z mo 32) k = I1 (h_ad z mo 32) k) ∧ I2 mo 30 = I1 mo 30) ∨ ((I1 mo 31).toInt = 0 ∧ h_istab (q_at (I1 (h_ad z mo 0)) (I1 mo 1).toInt) (I1 mo 1).toInt ∧ r2.toInt = 1 ∧ (∀ j : Nat, j < 8 → (I2 (h_ad z mo 32) j).toInt = (q_at (I1 (h_ad z mo 0)) (I1 mo 1).toInt) j - 65) ∧ I2 mo 30 = 1)) (f2 : h_F [(13, 1), (1332, 999), (13, 30)] z I1 I2) : h_gb z I2 cp mo := by
  obtain ⟨⟨tcp, tmo⟩, ⟨tbk, ttu, tbg, tdt⟩, ⟨tpl, tdd, tsu⟩, ⟨thd, tsh, tgv, two⟩, ⟨tit, tth, tfr, tto, tsg⟩, ⟨trk, tdr, tod, thv⟩, ⟨tlw, thy, ttb, tww⟩, ⟨tcb, tfi, tla, tpa, tri, tss, thc, tis, thu⟩, ⟨tde, tus, tow, tgi, tgu, tdw, tdx⟩, ⟨tmd, tmf, tmt, tmg⟩⟩ := h_tyB.mk hR tcp tmo
  have G0 := G
  obtain ⟨gsz, gpl, gdd, gsp, gtu, gmv, grk, gor, glb, gtw, gwp, gpz⟩ := G
  have j13 := hI.rd mo 13 tmo rfl (rfl : h_bd 13 13 = (0, 60))
  have x_tb := f1.ref (by decide) ttb (by decide)
  have x_mo := f1.ref (by decide) tmo (by decide)
  have tmb := (hR.ad tmo (rfl : h_rs 13 0 = some (1300, false)) (by decide)).2
  have x_mb := f1.ref (by decide) tmb (by decide)
  obtain ⟨Ra, Rb⟩ := Rdr
  rw [ck, Ra, Rtp.1, Rtp.2] at p
  rw [x_mo, x_mb, x_tb] at q
  have f := f1.app f2
  have y_rk := f2.cls (by decide) trk (by decide)
  have e13 : I2 mo 13 = I mo 13 := f.at tmo rfl
  unfold h_gb
  rw [e13]
  refine ⟨?_, ?_, ?_, ?_, ?_, ?_, ?_, ?_, ?_, ?_, ?_, ?_⟩
  · exact (f.at tbk rfl).trans gsz
  · exact gpl.F hR tpl tcb tfi tla tpa tri tss thc tis thu f (fun k hk => by rcases (show k = 0 ∨ k = 1 ∨ k = 2 ∨ k = 3 ∨ k = 4 ∨ k = 5 ∨ k = 6 ∨ k = 7 by omega) with rfl | rfl | rfl | rfl | rfl | rfl | rfl | rfl <;> rfl) (fun _ => rfl) (fun _ => rfl) (fun _ => rfl) (fun _ => rfl) (fun _ => rfl) (fun _ => rfl) (fun _ => rfl) (fun _ => rfl) (fun _ => rfl)
  · exact gdd.F hR tdd tde f (fun _ => rfl) (fun _ => rfl)
  · exact gsp.F tsu tus f (fun _ => rfl) (fun _ => rfl)
  · exact gtu.F thd tsh tgv tow tgu tgi f (fun _ => rfl) (fun _ => rfl) (fun _ => rfl) (fun _ => rfl) (fun _ => rfl) (fun _ => rfl)
  · exact gmv.F tbg tit tth tfr tto tsg tmo tmd tmf tmt tmg thd f rfl rfl (fun _ => rfl) (fun _ => rfl) (fun _ => rfl) (fun _ => rfl) (fun _ => rfl) rfl (fun _ => rfl) (fun _ => rfl) (fun _ => rfl) (fun _ => rfl) (fun _ => rfl) (fun p hp hq => by
        obtain ⟨b, rb, tb, ab⟩ := gpl.b hR tpl hp (by omega)
        rw [ab] at hq ⊢
        rw [f.at tb rfl]
        exact hq)
  · exact (fun k hk => by
        rw [y_rk]
        rcases p with ⟨p1, p2, p3, p4⟩ | ⟨p1, p2, p3, p4, p5⟩ | ⟨p1, p2, p3, p4, p5⟩ <;> rcases q with ⟨q1, q2, q3, q4⟩ | ⟨q1, q2, q3, q4, q5⟩ | ⟨q1, q2, q3, q4, q5⟩
        · rw [p3, q3]
          exact grk k hk
        · rw [p3, q4]
          exact grk k hk
        · exact absurd q2 p1
        · rw [p4, q3]
          exact grk k hk
        · exact absurd p1 q2
        · omega
        · omega
        · exact absurd p1 q2
        · exact xi_of (by rw [p4 k hk, q4 k hk]))
  · exact gor.F hR tdr tod thv tdw tdx f (fun _ => rfl) (fun _ => rfl) (fun _ => rfl) (fun _ => rfl) (fun _ => rfl)
  · exact glb.c (fun k _ => f.at tlw rfl) (fun k => f.at thy rfl)
  · exact gtw.F hR two f (fun _ => rfl) (fun k _ => f.at tww rfl)
  · exact gwp.F hR tpl f (fun _ => rfl) (fun k _ => f.at tww rfl)
  · exact gpz.F tfi tla tpa tri tss f (fun _ => rfl) (fun _ => rfl) (fun _ => rfl) (fun _ => rfl) (fun _ => rfl)

theorem g_laws2 {z : tZ} {I I1 : tI} {cp mo : Nat} {y_t : Int} {r2 : Int32} (G : h_gb z I cp mo) (hR : h_R z) (hI : h_I z I) (tcp : z.ty cp = 12) (tmo : z.ty mo = 13) (q : (¬ ((I mo 12).toInt ≤ y_t ∧ y_t ≤ 9) ∧ r2.toInt = -2 ∧ I1 mo 8 = I mo 8 ∧ I1 mo 9 = I mo 9 ∧ (∀ k : Nat, I1 (h_ad z mo 10) k = I (h_ad z mo 10) k) ∧ ∀ k : Nat, I1 (h_ad z mo 11) k = I (h_ad z mo 11) k) ∨ (((I mo 12).toInt ≤ y_t ∧ y_t ≤ 9) ∧ (I1 mo 8).toInt = (q_text (q_at (I (h_ad z mo 0)) (I mo 1).toInt) 501 0 (fun _ => false) q_pl 0).1 ∧ (I1 mo 9).toInt = (q_text (q_at (I (h_ad z mo 0)) (I mo 1).toInt) 501 0 (fun _ => false) q_pl 0).2.1 ∧ r2.toInt = (q_text (q_at (I (h_ad z mo 0)) (I mo 1).toInt) 501 0 (fun _ => false) q_pl 0).2.2.1 ∧ (((q_text (q_at (I (h_ad z mo 0)) (I mo 1).toInt) 501 0 (fun _ => false) q_pl 0).1 ≠ 0 ∧ (∀ k : Nat, (k < 160 ∨ 176 ≤ k) → I1 (h_ad z mo 10) k = I (h_ad z mo 10) k) ∧ ∀ k : Nat, I1 (h_ad z mo 11) k = I (h_ad z mo 11) k) ∨ ((q_text (q_at (I (h_ad z mo 0)) (I mo 1).toInt) 501 0 (fun _ => false) q_pl 0).1 = 0 ∧ (∀ i : Nat, i < 16 → (I1 (h_ad z mo 10) (16 * y_t.toNat + i)).toInt = (q_text (q_at (I (h_ad z mo 0)) (I mo 1).toInt) 501 0 (fun _ => false) q_pl 0).2.2.2 i) ∧ (∀ k : Nat, (k < 160 ∨ 176 ≤ k) → (k < 16 * y_t.toNat ∨ 16 * y_t.toNat + 16 ≤ k) → I1 (h_ad z mo 10) k = I (h_ad z mo 10) k) ∧ I1 (h_ad z mo 11) y_t.toNat = 1 ∧ ∀ k : Nat, k ≠ y_t.toNat → I1 (h_ad z mo 11) k = I (h_ad z mo 11) k)))) (f1 : h_F [(13, 5), (13, 3), (13, 4), (13, 7), (13, 6), (13, 8), (13, 9), (1310, 999), (13, 2), (13, 1), (1311, 999)] z I I1) : h_gb z I1 cp mo := by
  obtain ⟨⟨tcp, tmo⟩, ⟨tbk, ttu, tbg, tdt⟩, ⟨tpl, tdd, tsu⟩, ⟨thd, tsh, tgv, two⟩, ⟨tit, tth, tfr, tto, tsg⟩, ⟨trk, tdr, tod, thv⟩, ⟨tlw, thy, ttb, tww⟩, ⟨tcb, tfi, tla, tpa, tri, tss, thc, tis, thu⟩, ⟨tde, tus, tow, tgi, tgu, tdw, tdx⟩, ⟨tmd, tmf, tmt, tmg⟩⟩ := h_tyB.mk hR tcp tmo
  have G0 := G
  obtain ⟨gsz, gpl, gdd, gsp, gtu, gmv, grk, gor, glb, gtw, gwp, gpz⟩ := G
  have j13 := hI.rd mo 13 tmo rfl (rfl : h_bd 13 13 = (0, 60))
  have f := f1
  have e13 : I1 mo 13 = I mo 13 := f.at tmo rfl
  unfold h_gb
  rw [e13]
  refine ⟨?_, ?_, ?_, ?_, ?_, ?_, ?_, ?_, ?_, ?_, ?_, ?_⟩
  · exact (f.at tbk rfl).trans gsz
  · exact gpl.F hR tpl tcb tfi tla tpa tri tss thc tis thu f (fun k hk => by rcases (show k = 0 ∨ k = 1 ∨ k = 2 ∨ k = 3 ∨ k = 4 ∨ k = 5 ∨ k = 6 ∨ k = 7 by omega) with rfl | rfl | rfl | rfl | rfl | rfl | rfl | rfl <;> rfl) (fun _ => rfl) (fun _ => rfl) (fun _ => rfl) (fun _ => rfl) (fun _ => rfl) (fun _ => rfl) (fun _ => rfl) (fun _ => rfl) (fun _ => rfl)
  · exact gdd.F hR tdd tde f (fun _ => rfl) (fun _ => rfl)
  · exact gsp.F tsu tus f (fun _ => rfl) (fun _ => rfl)
  · exact gtu.F thd tsh tgv tow tgu tgi f (fun _ => rfl) (fun _ => rfl) (fun _ => rfl) (fun _ => rfl) (fun _ => rfl) (fun _ => rfl)
  · exact gmv.F tbg tit tth tfr tto tsg tmo tmd tmf tmt tmg thd f rfl rfl (fun _ => rfl) (fun _ => rfl) (fun _ => rfl) (fun _ => rfl) (fun _ => rfl) rfl (fun _ => rfl) (fun _ => rfl) (fun _ => rfl) (fun _ => rfl) (fun _ => rfl) (fun p hp hq => by
        obtain ⟨b, rb, tb, ab⟩ := gpl.b hR tpl hp (by omega)
        rw [ab] at hq ⊢
        rw [f.at tb rfl]
        exact hq)
  · exact grk.F trk ttb f (fun _ => rfl) (fun _ => rfl)
  · exact gor.F hR tdr tod thv tdw tdx f (fun _ => rfl) (fun _ => rfl) (fun _ => rfl) (fun _ => rfl) (fun _ => rfl)
  · exact (by
        have hokc := q_text_okc (g := q_at (I (h_ad z mo 0)) (I mo 1).toInt) 501 0 (fun _ => false) q_pl 0 q_okc_pl
        rcases q with ⟨q1, q2, q3, q4, q5, q6⟩ | ⟨q1, q2, q3, q4, q5⟩
        · exact glb.c (fun k _ => q5 k) (fun k => q6 k)
        · rcases q5 with ⟨u1, u2, u3⟩ | ⟨u1, u2, u3, u4, u5⟩
          · exact glb.c (fun k hk => u2 k hk) (fun k => u3 k)
          · exact glb.tell (hokc u1) (y := y_t.toNat) (by omega) u2 u3 u5)
  · exact gtw.F hR two f (fun _ => rfl) (fun k _ => f.at tww rfl)
  · exact gwp.F hR tpl f (fun _ => rfl) (fun k _ => f.at tww rfl)
  · exact gpz.F tfi tla tpa tri tss f (fun _ => rfl) (fun _ => rfl) (fun _ => rfl) (fun _ => rfl) (fun _ => rfl)


