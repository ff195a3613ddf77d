set_option maxHeartbeats 4000000 in
theorem g_check2 {z : tZ} {I I1 : tI} {cp mo : Nat} {u_ : Nat → Int} {r1 r2 : Int32} (G : h_gb z I cp mo) (hU : h_U z) (hR : h_R z) (hI : h_I z I) (tcp : z.ty cp = 12) (tmo : z.ty mo = 13) (ck : I (h_ad z cp 3) 3 = I mo 12) (hal : h_ad z (h_ad z cp 5) 0 = h_ad z cp 3) (hal1 : h_ad z (h_ad z cp 5) 1 = h_ad z cp 4) (p : ((I (h_ad z cp 5) 3).toInt = 0 ∧ r1.toInt = -4) ∨ ((I (h_ad z cp 5) 3).toInt ≠ 0 ∧ r1.toInt = q_ff (c_ft z I (h_ad z cp 5) u_) 8)) (f1 : h_F [(2, 0), (2, 1), (2, 2), (2, 3)] z I I1) (q : ((I1 mo 33).toInt = 0 ∧ r2.toInt = -4) ∨ ((I1 mo 33).toInt ≠ 0 ∧ r2.toInt = q_ff (m_ft z I1 mo u_) 8)) : r1.toInt = r2.toInt ∧ h_gb z I1 cp mo := by
  obtain ⟨⟨tcp, tmo⟩, ⟨tbk, ttu, tbg, tdt⟩, ⟨tpl, tdd, tsu⟩, ⟨thd, tsh, tgv, two⟩, ⟨tit, tth, tfr, tto, tsg⟩, ⟨trk, tdr, tod, thv⟩, ⟨tlw, thy, ttb, tww⟩, ⟨tcb, tfi, tla, tpa, tri, tss, thc, tis, thu⟩, ⟨tde, tus, tow, tgi, tgu, tdw, tdx⟩, ⟨tmd, tmf, tmt, tmg⟩⟩ := h_tyB.mk hR tcp tmo
  have G0 := G
  obtain ⟨gsz, gpl, gdd, gsp, gtu, gmv, grk, gor, glb, gtw, gwp, gpz⟩ := G
  have j13 := hI.rd mo 13 tmo rfl (rfl : h_bd 13 13 = (0, 60))
  have x_cb := f1.ref (by decide) tcb (by decide)
  have x_fi := f1.ref (by decide) tfi (by decide)
  have x_la := f1.ref (by decide) tla (by decide)
  have x_pa := f1.ref (by decide) tpa (by decide)
  have x_ri := f1.ref (by decide) tri (by decide)
  have x_hc := f1.ref (by decide) thc (by decide)
  have x_is := f1.ref (by decide) tis (by decide)
  have x_hu := f1.ref (by decide) thu (by decide)
  have x_de := f1.ref (by decide) tde (by decide)
  have x_md := f1.ref (by decide) tmd (by decide)
  have x_mf := f1.ref (by decide) tmf (by decide)
  have x_mt := f1.ref (by decide) tmt (by decide)
  have x_mo := f1.ref (by decide) tmo (by decide)
  have h12 := hI.rd mo 12 tmo rfl (rfl : h_bd 13 12 = (0, 9))
  have h33 := hI.rd mo 33 tmo rfl (rfl : h_bd 13 33 = (0, 12))
  have eft := m_ft_eq (z := z) x_mo x_cb x_fi x_la x_pa x_ri x_hc x_is x_hu x_de x_md x_mf x_mt u_
  have eff : q_ff (c_ft z I (h_ad z cp 5) u_) 8 = q_ff (m_ft z I mo u_) 8 := q_ff_eq 8 (fun c hc => g_ft gpl (by rw [gsz]) j13.2 gdd gsz ck h12 gmv hal h33.1 u_ hc)
  rw [eff, gmv.1] at p
  rw [eft, x_mo] at q
  refine ⟨by rcases p with ⟨p1, p2⟩ | ⟨p1, p2⟩ <;> rcases q with ⟨q1, q2⟩ | ⟨q1, q2⟩ <;> omega, ?_⟩
  exact G0.F hR tcp tmo f1 (by decide) j13.2
set_option maxHeartbeats 4000000 in
theorem g_gain2 {z : tZ} {I : tI} {cp mo : Nat} {c_t : Int} {r1 r2 : Int32} (G : h_gb z I cp mo) (hU : h_U z) (hR : h_R z) (hI : h_I z I) (tcp : z.ty cp = 12) (tmo : z.ty mo = 13) (ck : I (h_ad z cp 3) 3 = I mo 12) (hal : h_ad z (h_ad z cp 5) 0 = h_ad z cp 3) (hal1 : h_ad z (h_ad z cp 5) 1 = h_ad z cp 4) (p : (¬ (0 ≤ c_t ∧ c_t ≤ 7) ∧ r1.toInt = -2000000000) ∨ ((0 ≤ c_t ∧ c_t ≤ 7) ∧ r1 = q_pm (c_kg I (h_ad z (h_ad z cp 5) 7) (h_ad z (h_ad z cp 5) 8) c_t) (c_wm z I (h_ad z cp 5) c_t.toNat) 0 (I (h_ad z cp 5) 3).toInt.toNat)) (q : (¬ (0 ≤ c_t ∧ c_t ≤ 7) ∧ r2.toInt = -2000000000) ∨ ((0 ≤ c_t ∧ c_t ≤ 7) ∧ r2 = q_pm (c_kg I (h_ad z mo 35) (h_ad z mo 36) c_t) (fun i : Nat => I (h_ad z mo 38) (140 * c_t + (I (h_ad z mo 34) i).toInt).toNat) 0 (I mo 33).toInt.toNat)) : r1.toInt = r2.toInt := by
  obtain ⟨⟨tcp, tmo⟩, ⟨tbk, ttu, tbg, tdt⟩, ⟨tpl, tdd, tsu⟩, ⟨thd, tsh, tgv, two⟩, ⟨tit, tth, tfr, tto, tsg⟩, ⟨trk, tdr, tod, thv⟩, ⟨tlw, thy, ttb, tww⟩, ⟨tcb, tfi, tla, tpa, tri, tss, thc, tis, thu⟩, ⟨tde, tus, tow, tgi, tgu, tdw, tdx⟩, ⟨tmd, tmf, tmt, tmg⟩⟩ := h_tyB.mk hR tcp tmo
  have G0 := G
  obtain ⟨gsz, gpl, gdd, gsp, gtu, gmv, grk, gor, glb, gtw, gwp, gpz⟩ := G
  have j13 := hI.rd mo 13 tmo rfl (rfl : h_bd 13 13 = (0, 60))
  rcases p with ⟨p1, p2⟩ | ⟨p1, p2⟩ <;> rcases q with ⟨q1, q2⟩ | ⟨q1, q2⟩
  · rw [p2, q2]
  · exact absurd q1 p1
  · exact absurd p1 q1
  have h33 := hI.rd mo 33 tmo rfl (rfl : h_bd 13 33 = (0, 12))
  rw [p2, q2, gmv.1, q_pm_eq (a' := c_kg I (h_ad z mo 35) (h_ad z mo 36) c_t) (f' := fun i : Nat => I (h_ad z mo 38) (140 * c_t + (I (h_ad z mo 34) i).toInt).toNat) _ (fun i hi => ?_)]
  obtain ⟨⟨a1, a2, a3, a4, a5⟩, a6⟩ := gmv.2.2.1 i (by omega)
  refine ⟨by unfold c_kg; rw [a1, a2], fun _ => ?_⟩
  unfold c_wm
  rw [hal, hal1]
  rcases a6 with ⟨b1, b2, b3, b4, _⟩ | ⟨b1, b2, b3, b4, _⟩
  · rw [if_neg (by omega), b2]
    have e := (gwp.2 c_t.toNat (I (h_ad z mo 34) i).toInt.toNat (by omega) (by omega)).1 (by omega)
    rw [e]
    show _ = I (h_ad z mo 38) (140 * c_t + (I (h_ad z mo 34) i).toInt).toNat
    rw [show 140 * c_t.toNat + (I (h_ad z mo 34) i).toInt.toNat = (140 * c_t + (I (h_ad z mo 34) i).toInt).toNat by omega]
  · rw [if_pos b1]
    have e := gtw c_t.toNat (I (h_ad z (h_ad z cp 5) 6) i).toInt.toNat (by omega) (by omega)
    rw [e]
    show _ = I (h_ad z mo 38) (140 * c_t + (I (h_ad z mo 34) i).toInt).toNat
    rw [show 140 * c_t.toNat + 60 + (I (h_ad z (h_ad z cp 5) 6) i).toInt.toNat = (140 * c_t + (I (h_ad z mo 34) i).toInt).toNat by omega]
set_option maxHeartbeats 4000000 in
theorem g_deal2 {z : tZ} {I I1 I2 : tI} {cp mo : Nat} {u_ : Nat → Int} {r1 r2 : Int32} (G : h_gb z I cp mo) (hU : h_U z) (hR : h_R z) (hI : h_I z I) (tcp : z.ty cp = 12) (tmo : z.ty mo = 13) (ck : I (h_ad z cp 3) 3 = I mo 12) (hal : h_ad z (h_ad z cp 5) 0 = h_ad z cp 3) (hal1 : h_ad z (h_ad z cp 5) 1 = h_ad z cp 4) (p : ((I (h_ad z cp 5) 3).toInt = 0 ∧ r1.toInt = -4 ∧ I1 = I) ∨ ((I (h_ad z cp 5) 3).toInt ≠ 0 ∧ q_ff (c_ft z I (h_ad z cp 5) u_) 8 ≠ 0 ∧ r1.toInt = 0 ∧ (∀ a k : Nat, z.ty a ≠ 2 → I1 a k = I a k)) ∨ ((I (h_ad z cp 5) 3).toInt ≠ 0 ∧ q_ff (c_ft z I (h_ad z cp 5) u_) 8 = 0 ∧ r1 = I (h_ad z cp 5) 3 ∧ h_pdo z I I1 (h_ad z (h_ad z (h_ad z cp 5) 0) 1) (h_ad z (h_ad z cp 5) 8) (I (h_ad z (h_ad z cp 5) 0) 2).toInt (c_cd I (h_ad z (h_ad z cp 5) 5) (h_ad z (h_ad z cp 5) 6)) (I (h_ad z cp 5) 3).toInt.toNat ∧ h_tdo I I1 (h_ad z (h_ad z (h_ad z cp 5) 1) 0) (h_ad z (h_ad z (h_ad z cp 5) 1) 1) (h_ad z (h_ad z (h_ad z cp 5) 1) 2) (h_ad z (h_ad z cp 5) 8) (h_ad z (h_ad z cp 5) 9) (c_cd I (h_ad z (h_ad z cp 5) 5) (h_ad z (h_ad z cp 5) 6)) (I (h_ad z cp 5) 3).toInt.toNat ∧ I1 (h_ad z cp 5) 3 = 0 ∧ I1 (h_ad z cp 5) 4 = 0)) (f1 : h_F [(2, 0), (2, 1), (2, 2), (2, 3), (10, 3), (10, 4), (1102, 999), (1100, 999), (1101, 999), (7, 0)] z I I1) (q : ((I1 mo 33).toInt = 0 ∧ r2.toInt = -4 ∧ I2 = I1) ∨ ((I1 mo 33).toInt ≠ 0 ∧ q_ff (m_ft z I1 mo u_) 8 ≠ 0 ∧ r2.toInt = 0 ∧ I2 = I1) ∨ ((I1 mo 33).toInt ≠ 0 ∧ q_ff (m_ft z I1 mo u_) 8 = 0 ∧ r2 = I1 mo 33 ∧ h_mdo I1 I2 (h_ad z mo 14) (h_ad z mo 36) (fun i : Nat => (I1 (h_ad z mo 34) i).toInt) (I1 mo 33).toInt.toNat ∧ h_tdm I1 I2 (h_ad z mo 25) (h_ad z mo 27) (h_ad z mo 26) (h_ad z mo 36) (h_ad z mo 37) (h_ad z mo 35) (fun i : Nat => (I1 (h_ad z mo 34) i).toInt) (I1 mo 33).toInt.toNat ∧ I2 mo 33 = 0)) (f2 : h_F [(1314, 999), (1325, 999), (1327, 999), (1326, 999), (13, 33)] z I1 I2) : r1.toInt = r2.toInt ∧ h_gb z I2 cp mo := by
  obtain ⟨⟨tcp, tmo⟩, ⟨tbk, ttu, tbg, tdt⟩, ⟨tpl, tdd, tsu⟩, ⟨thd, tsh, tgv, two⟩, ⟨tit, tth, tfr, tto, tsg⟩, ⟨trk, tdr, tod, thv⟩, ⟨tlw, thy, ttb, tww⟩, ⟨tcb, tfi, tla, tpa, tri, tss, thc, tis, thu⟩, ⟨tde, tus, tow, tgi, tgu, tdw, tdx⟩, ⟨tmd, tmf, tmt, tmg⟩⟩ := h_tyB.mk hR tcp tmo
  have G0 := G
  obtain ⟨gsz, gpl, gdd, gsp, gtu, gmv, grk, gor, glb, gtw, gwp, gpz⟩ := G
  have j13 := hI.rd mo 13 tmo rfl (rfl : h_bd 13 13 = (0, 60))
  have x_cb := f1.ref (by decide) tcb (by decide)
  have x_fi := f1.ref (by decide) tfi (by decide)
  have x_la := f1.ref (by decide) tla (by decide)
  have x_pa := f1.ref (by decide) tpa (by decide)
  have x_ri := f1.ref (by decide) tri (by decide)
  have x_hc := f1.ref (by decide) thc (by decide)
  have x_is := f1.ref (by decide) tis (by decide)
  have x_hu := f1.ref (by decide) thu (by decide)
  have x_de := f1.ref (by decide) tde (by decide)
  have x_md := f1.ref (by decide) tmd (by decide)
  have x_mf := f1.ref (by decide) tmf (by decide)
  have x_mt := f1.ref (by decide) tmt (by decide)
  have x_mo := f1.ref (by decide) tmo (by decide)
  have x_ow := f1.ref (by decide) tow (by decide)
  have x_gu := f1.ref (by decide) tgu (by decide)
  have x_gi := f1.ref (by decide) tgi (by decide)
  have x_mg := f1.ref (by decide) tmg (by decide)
  have x_ss := f1.ref (by decide) tss (by decide)
  have h12 := hI.rd mo 12 tmo rfl (rfl : h_bd 13 12 = (0, 9))
  have h33 := hI.rd mo 33 tmo rfl (rfl : h_bd 13 33 = (0, 12))
  have eft := m_ft_eq (z := z) x_mo x_cb x_fi x_la x_pa x_ri x_hc x_is x_hu x_de x_md x_mf x_mt u_
  have eff : q_ff (c_ft z I (h_ad z cp 5) u_) 8 = q_ff (m_ft z I mo u_) 8 := q_ff_eq 8 (fun c hc => g_ft gpl (by rw [gsz]) j13.2 gdd gsz ck h12 gmv hal h33.1 u_ hc)
  rw [eff, gmv.1] at p
  have hmq : ∀ k : Nat, I1 mo k = I mo k := fun k => congrFun x_mo k
  rw [eft, hmq] at q
  rw [hal, hal1] at p
  rcases p with ⟨p1, p2, p3⟩ | ⟨p1, p2, p3, p4⟩ | ⟨p1, p2, p3, p4, p5, p6, p7⟩ <;> rcases q with ⟨q1, q2, q3⟩ | ⟨q1, q2, q3, q4⟩ | ⟨q1, q2, q3, q4, q5, q6⟩
  · exact ⟨by rw [p2, q2], by rw [q3, p3]; exact G0⟩
  · exact absurd p1 q1
  · exact absurd p1 q1
  · exact absurd q1 p1
  · refine ⟨by rw [p3, q3], ?_⟩
    rw [q4]
    have f9 : h_F [(2, 999)] z I I1 := fun a k hm => p4 a k (fun h9 => by
      rw [h9] at hm
      cases hm)
    exact G0.F hR tcp tmo f9 (by decide) j13.2
  · exact absurd q2 p2
  · exact absurd q1 p1
  · exact absurd p2 q2
  refine ⟨by rw [p3, q3], ?_⟩
  have f := f1.app f2
  have y7 : ∀ c : Nat, z.ty c = 7 → I2 c = I1 c := fun c tc => f2.cls (by decide) tc (by decide)
  have y_bg := f2.cls (by decide) tbg (by decide)
  have y_hd := f2.cls (by decide) thd (by decide)
  have y_sh := f2.cls (by decide) tsh (by decide)
  have y_gv := f2.cls (by decide) tgv (by decide)
  have hN : (((I mo 33).toInt.toNat : Nat) : Int) = (I mo 33).toInt := by omega
  have ecd : (fun i : Nat => (I1 (h_ad z mo 34) i).toInt) = fun i : Nat => (I (h_ad z mo 34) i).toInt := by
    funext i
    rw [x_md]
  rw [ecd] at q4 q5
  have p5' : h_tdo I I2 (h_ad z (h_ad z cp 4) 0) (h_ad z (h_ad z cp 4) 1) (h_ad z (h_ad z cp 4) 2) (h_ad z (h_ad z cp 5) 8) (h_ad z (h_ad z cp 5) 9) (c_cd I (h_ad z (h_ad z cp 5) 5) (h_ad z (h_ad z cp 5) 6)) (I mo 33).toInt.toNat := p5.c (fun k => congrFun y_hd k) (fun k => congrFun y_sh k) (fun k => congrFun y_gv k)
  have q5' : h_tdm I I2 (h_ad z mo 25) (h_ad z mo 27) (h_ad z mo 26) (h_ad z mo 36) (h_ad z mo 37) (h_ad z mo 35) (fun i : Nat => (I (h_ad z mo 34) i).toInt) (I mo 33).toInt.toNat := by
    intro k hk
    have h9 := q5 k hk
    rw [x_ow, x_gu, x_gi, x_mt, x_mg, x_mf] at h9
    exact h9
  have e13 : I2 mo 13 = I mo 13 := f.at tmo rfl
  unfold h_gb
  rw [e13]
  refine ⟨?_, ?_, ?_, ?_, ?_, ?_, ?_, ?_, ?_, ?_, ?_, ?_⟩
  · exact (f.at tbk rfl).trans gsz
  · exact ⟨gpl.1, fun p hp => ⟨fun hpn => by
        obtain ⟨b, rb, tb, ab⟩ := gpl.b hR tpl hpn hp
        have h1 := (gpl.2 p hp).1 hpn
        rw [ab] at h1 ⊢
        have q9 := q4 p hp
        rw [x_cb, x_mt] at q9
        exact g_deal_p1 gmv hN j13.2 h1 hpn ab (by rw [y7 b tb]; exact p4 p (by rw [gsz]; exact hpn) b rb) q9 (fun k k1 k8 => by
          rcases (show k = 1 ∨ k = 2 ∨ k = 3 ∨ k = 4 ∨ k = 5 ∨ k = 6 ∨ k = 7 by omega) with rfl | rfl | rfl | rfl | rfl | rfl | rfl <;> exact f.at tb rfl) (f.at tfi rfl) (f.at tla rfl) (f.at tpa rfl) (f.at tri rfl) (f.at tss rfl) (f.at thc rfl) (f.at tis rfl) (f.at thu rfl), fun hpn => by
        rw [show I2 (h_ad z mo 22) p = I (h_ad z mo 22) p from f.at thu rfl]
        exact (gpl.2 p hp).2 hpn⟩⟩
  · exact gdd.F hR tdd tde f (fun _ => rfl) (fun _ => rfl)
  · exact gsp.F tsu tus f (fun _ => rfl) (fun _ => rfl)
  · exact g_deal_tu gmv hN j13.2 gtu p5' q5'
  · exact g_mv.z (by rw [y_bg]; exact p6) (by rw [y_bg]; exact p7) q6
  · exact grk.F trk ttb f (fun _ => rfl) (fun _ => rfl)
  · exact gor.F hR tdr tod thv tdw tdx f (fun _ => rfl) (fun _ => rfl) (fun _ => rfl) (fun _ => rfl) (fun _ => rfl)
  · exact glb.c (fun k _ => f.at tlw rfl) (fun k => f.at thy rfl)
  · exact gtw.F hR two f (fun _ => rfl) (fun k _ => f.at tww rfl)
  · exact gwp.F hR tpl f (fun _ => rfl) (fun k _ => f.at tww rfl)
  · exact gpz.F tfi tla tpa tri tss f (fun _ => rfl) (fun _ => rfl) (fun _ => rfl) (fun _ => rfl) (fun _ => rfl)


