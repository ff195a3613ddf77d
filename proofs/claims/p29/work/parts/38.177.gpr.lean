/-! premises of calls, from the relation -/
theorem q_pay_30 {cl fr la pa ri y : Int32} (hf : 0 ≤ fr.toInt ∧ fr.toInt ≤ 9) (hl : la.toInt ≤ 13) (hp : 0 ≤ pa.toInt ∧ pa.toInt ≤ 20000) (hr : -500 ≤ ri.toInt ∧ ri.toInt ≤ 500) : (q_pay cl fr la pa ri y).toInt ≤ 30000 := by
  unfold q_pay
  by_cases h : cl.toInt = -1 ∨ y.toInt < fr.toInt ∨ la.toInt < y.toInt
  · rw [if_pos h]
    decide
  · rw [if_neg h]
    have hd : (y - fr).toInt = y.toInt - fr.toInt := xi_sub rfl rfl rfl (by omega) (by omega)
    have hm1 : ri.toInt * (y.toInt - fr.toInt) ≤ 500 * 13 := by
      have h1 := Int.mul_le_mul_of_nonneg_right hr.2 (show 0 ≤ y.toInt - fr.toInt by omega)
      omega
    have hm2 : -(500 * 13) ≤ ri.toInt * (y.toInt - fr.toInt) := by
      have h1 := Int.mul_le_mul_of_nonneg_right hr.1 (show 0 ≤ y.toInt - fr.toInt by omega)
      omega
    have hm : (ri * (y - fr)).toInt = ri.toInt * (y.toInt - fr.toInt) := xi_mul rfl rfl hd (by omega) (by omega)
    have ha : (pa + ri * (y - fr)).toInt = pa.toInt + ri.toInt * (y.toInt - fr.toInt) := xi_add rfl rfl hm (by omega) (by omega)
    unfold q_max0
    by_cases h2 : 0 < (pa + ri * (y - fr)).toInt
    · rw [if_pos h2, ha]
      omega
    · rw [if_neg h2]
      decide
theorem h_plr.p3 {z : tZ} {I : tI} {pl cb fi la pa ri su hc it hu : Nat} {nb : Int} (h : h_plr z I pl cb fi la pa ri su hc it hu nb) (h60 : nb ≤ 60) (y : Int32) : ∀ p : Nat, (p : Int) < nb → 0 ≤ (q_pay (I cb p) (I fi p) (I la p) (I pa p) (I ri p) y).toInt ∧ (q_pay (I cb p) (I fi p) (I la p) (I pa p) (I ri p) y).toInt ≤ 30000 := by
  intro p hp
  obtain ⟨_, _, _, _, h5, h6, h7, h8, _⟩ := (h.2 p (by omega)).1 hp
  exact ⟨q_pay_0 _ _ _ _ _ _, q_pay_30 h6 h5.2 h7 h8⟩
/-- the reference's tables are the same -/
def h_er (z : tZ) (I I1 : tI) : Prop := ∀ a : Nat, (1300 ≤ z.ty a ∨ z.ty a = 13) → I1 a = I a
theorem h_er.rf {z : tZ} {I : tI} : h_er z I I := fun _ _ => rfl
theorem h_er.at {z : tZ} {I I1 : tI} (h : h_er z I I1) {a t : Nat} (ha : z.ty a = t) (ht : 1300 ≤ t ∨ t = 13) : I1 a = I a := h a (by rw [ha]; exact ht)
theorem h_er.r12 {z : tZ} {I I1 : tI} {mo : Nat} (h : h_er z I I1) (hR : h_R z) (tmo : z.ty mo = 13) {u : Nat → Int} (hr : h_r12 (I (h_ad z mo 11)) (I (h_ad z mo 10)) (I mo 12).toInt u) : h_r12 (I1 (h_ad z mo 11)) (I1 (h_ad z mo 10)) (I1 mo 12).toInt u := by
  have tlw := (hR.ad tmo (rfl : h_rs 13 10 = some (1310, false)) (by decide)).2
  have thy := (hR.ad tmo (rfl : h_rs 13 11 = some (1311, false)) (by decide)).2
  rw [h.at thy (by decide), h.at tlw (by decide), h.at tmo (by decide)]
  exact hr
theorem h_gb.ob {z : tZ} {I : tI} {cp mo : Nat} (G : h_gb z I cp mo) {y : Int} {u : Nat → Int} (hr : h_r12 (I (h_ad z mo 11)) (I (h_ad z mo 10)) y u) : q_okb u := by
  obtain ⟨gsz, gpl, gdd, gsp, gtu, gmv, grk, gor, glb, gtw, gwp, gpz⟩ := G
  exact glb.get hr
theorem h_gb.nn {z : tZ} {I : tI} {cp mo : Nat} (G : h_gb z I cp mo) : ∀ p : Nat, (p : Int) < (I (h_ad z cp 3) 2).toInt → z.R (h_ad z (h_ad z cp 3) 1) p ≠ none := by
  obtain ⟨gsz, gpl, gdd, gsp, gtu, gmv, grk, gor, glb, gtw, gwp, gpz⟩ := G
  rw [gsz]
  exact gpl.1
theorem h_gb.sx {z : tZ} {I : tI} {cp mo : Nat} (G : h_gb z I cp mo) (hI : h_I z I) (tmo : z.ty mo = 13) : ∀ p : Nat, (p : Int) < (I (h_ad z cp 3) 2).toInt → 0 ≤ (I (h_ad z (h_ad z (h_ad z cp 3) 1) p) 5).toInt ∧ (I (h_ad z (h_ad z (h_ad z cp 3) 1) p) 5).toInt ≤ 100 := by
  obtain ⟨gsz, gpl, gdd, gsp, gtu, gmv, grk, gor, glb, gtw, gwp, gpz⟩ := G
  have j13 := hI.rd mo 13 tmo rfl (rfl : h_bd 13 13 = (0, 60))
  intro p hp
  rw [gsz] at hp
  obtain ⟨_, _, h3, h4, _, _, _, _, h9⟩ := (gpl.2 p (by omega)).1 hp
  by_cases hq : (I (h_ad z (h_ad z (h_ad z cp 3) 1) p) 0).toInt = -1
  · rw [(h3 hq).1]
    decide
  · rw [(h4 hq).2.2.2.2.1]
    exact h9
theorem h_gb.pb {z : tZ} {I I1 : tI} {cp mo : Nat} (G : h_gb z I cp mo) (hR : h_R z) (hI : h_I z I) (tcp : z.ty cp = 12) (tmo : z.ty mo = 13) (er : h_er z I I1) (y : Int32) : ∀ p : Nat, (p : Int) < (I1 mo 13).toInt → (q_pay (I1 (h_ad z mo 14) p) (I1 (h_ad z mo 15) p) (I1 (h_ad z mo 16) p) (I1 (h_ad z mo 17) p) (I1 (h_ad z mo 18) p) y).toInt ≤ 1000000 := by
  obtain ⟨gsz, gpl, gdd, gsp, gtu, gmv, grk, gor, glb, gtw, gwp, gpz⟩ := G
  have j13 := hI.rd mo 13 tmo rfl (rfl : h_bd 13 13 = (0, 60))
  obtain ⟨⟨tcp, tmo⟩, ⟨tbk, ttu, tbg, tdt⟩, ⟨tpl, tdd, tsu⟩, ⟨thd, tsh, tgv, two⟩, ⟨tit, tth, tfr, tto, tsg⟩, ⟨trk, tdr, tod, thv⟩, ⟨tlw, thy, ttb, tww⟩, ⟨tcb, tfi, tla, tpa, tri, tss, thc, tis, thu⟩, ⟨tde, tus, tow, tgi, tgu, tdw, tdx⟩, ⟨tmd, tmf, tmt, tmg⟩⟩ := h_tyB.mk hR tcp tmo
  rw [er.at tmo (by decide), er.at tcb (by decide), er.at tfi (by decide), er.at tla (by decide), er.at tpa (by decide), er.at tri (by decide)]
  exact gpl.pb j13.2 y
theorem h_gb.p3 {z : tZ} {I I1 : tI} {cp mo : Nat} (G : h_gb z I cp mo) (hR : h_R z) (hI : h_I z I) (tcp : z.ty cp = 12) (tmo : z.ty mo = 13) (er : h_er z I I1) (y : Int32) : ∀ p : Nat, (p : Int) < (I1 mo 13).toInt → 0 ≤ (q_pay (I1 (h_ad z mo 14) p) (I1 (h_ad z mo 15) p) (I1 (h_ad z mo 16) p) (I1 (h_ad z mo 17) p) (I1 (h_ad z mo 18) p) y).toInt ∧ (q_pay (I1 (h_ad z mo 14) p) (I1 (h_ad z mo 15) p) (I1 (h_ad z mo 16) p) (I1 (h_ad z mo 17) p) (I1 (h_ad z mo 18) p) y).toInt ≤ 30000 := by
  obtain ⟨gsz, gpl, gdd, gsp, gtu, gmv, grk, gor, glb, gtw, gwp, gpz⟩ := G
  have j13 := hI.rd mo 13 tmo rfl (rfl : h_bd 13 13 = (0, 60))
  obtain ⟨⟨tcp, tmo⟩, ⟨tbk, ttu, tbg, tdt⟩, ⟨tpl, tdd, tsu⟩, ⟨thd, tsh, tgv, two⟩, ⟨tit, tth, tfr, tto, tsg⟩, ⟨trk, tdr, tod, thv⟩, ⟨tlw, thy, ttb, tww⟩, ⟨tcb, tfi, tla, tpa, tri, tss, thc, tis, thu⟩, ⟨tde, tus, tow, tgi, tgu, tdw, tdx⟩, ⟨tmd, tmf, tmt, tmg⟩⟩ := h_tyB.mk hR tcp tmo
  rw [er.at tmo (by decide), er.at tcb (by decide), er.at tfi (by decide), er.at tla (by decide), er.at tpa (by decide), er.at tri (by decide)]
  exact gpl.p3 j13.2 y
theorem h_gb.bs {z : tZ} {I I1 : tI} {cp mo : Nat} (G : h_gb z I cp mo) (hR : h_R z) (hI : h_I z I) (tcp : z.ty cp = 12) (tmo : z.ty mo = 13) (er : h_er z I I1) : ∀ p : Nat, (p : Int) < (I1 mo 13).toInt → (∀ y : Int32, (q_pay (I1 (h_ad z mo 14) p) (I1 (h_ad z mo 15) p) (I1 (h_ad z mo 16) p) (I1 (h_ad z mo 17) p) (I1 (h_ad z mo 18) p) y).toInt ≤ 1000000) ∧ 0 ≤ (I1 (h_ad z mo 19) p).toInt ∧ (I1 (h_ad z mo 19) p).toInt ≤ 100 := by
  obtain ⟨gsz, gpl, gdd, gsp, gtu, gmv, grk, gor, glb, gtw, gwp, gpz⟩ := G
  have j13 := hI.rd mo 13 tmo rfl (rfl : h_bd 13 13 = (0, 60))
  obtain ⟨⟨tcp, tmo⟩, ⟨tbk, ttu, tbg, tdt⟩, ⟨tpl, tdd, tsu⟩, ⟨thd, tsh, tgv, two⟩, ⟨tit, tth, tfr, tto, tsg⟩, ⟨trk, tdr, tod, thv⟩, ⟨tlw, thy, ttb, tww⟩, ⟨tcb, tfi, tla, tpa, tri, tss, thc, tis, thu⟩, ⟨tde, tus, tow, tgi, tgu, tdw, tdx⟩, ⟨tmd, tmf, tmt, tmg⟩⟩ := h_tyB.mk hR tcp tmo
  rw [er.at tmo (by decide), er.at tcb (by decide), er.at tfi (by decide), er.at tla (by decide), er.at tpa (by decide), er.at tri (by decide), er.at tss (by decide)]
  intro p hp
  obtain ⟨_, _, _, _, _, _, _, _, h9⟩ := (gpl.2 p (by omega)).1 hp
  exact ⟨fun y => gpl.pb j13.2 y p hp, h9⟩
theorem h_gb.ft {z : tZ} {I I1 : tI} {cp mo : Nat} (G : h_gb z I cp mo) (hR : h_R z) (hI : h_I z I) (tcp : z.ty cp = 12) (tmo : z.ty mo = 13) (er : h_er z I I1) : ∀ i : Nat, (i : Int) < (I1 mo 33).toInt → (0 ≤ (I1 (h_ad z mo 35) i).toInt ∧ (I1 (h_ad z mo 35) i).toInt ≤ 7) ∧ 0 ≤ (I1 (h_ad z mo 36) i).toInt ∧ (I1 (h_ad z mo 36) i).toInt ≤ 7 := by
  obtain ⟨gsz, gpl, gdd, gsp, gtu, gmv, grk, gor, glb, gtw, gwp, gpz⟩ := G
  obtain ⟨⟨tcp, tmo⟩, ⟨tbk, ttu, tbg, tdt⟩, ⟨tpl, tdd, tsu⟩, ⟨thd, tsh, tgv, two⟩, ⟨tit, tth, tfr, tto, tsg⟩, ⟨trk, tdr, tod, thv⟩, ⟨tlw, thy, ttb, tww⟩, ⟨tcb, tfi, tla, tpa, tri, tss, thc, tis, thu⟩, ⟨tde, tus, tow, tgi, tgu, tdw, tdx⟩, ⟨tmd, tmf, tmt, tmg⟩⟩ := h_tyB.mk hR tcp tmo
  rw [er.at tmo (by decide), er.at tmf (by decide), er.at tmt (by decide)]
  intro i hi
  obtain ⟨⟨_, _, b3, b4, _⟩, _⟩ := gmv.2.2.1 i hi
  exact ⟨b3, b4⟩
theorem h_gb.ne {z : tZ} {I I1 : tI} {cp mo : Nat} (G : h_gb z I cp mo) (hR : h_R z) (hI : h_I z I) (tcp : z.ty cp = 12) (tmo : z.ty mo = 13) (er : h_er z I I1) : ∀ i : Nat, (i : Int) < (I1 mo 33).toInt → (I1 (h_ad z mo 35) i).toInt ≠ (I1 (h_ad z mo 36) i).toInt := by
  obtain ⟨gsz, gpl, gdd, gsp, gtu, gmv, grk, gor, glb, gtw, gwp, gpz⟩ := G
  obtain ⟨⟨tcp, tmo⟩, ⟨tbk, ttu, tbg, tdt⟩, ⟨tpl, tdd, tsu⟩, ⟨thd, tsh, tgv, two⟩, ⟨tit, tth, tfr, tto, tsg⟩, ⟨trk, tdr, tod, thv⟩, ⟨tlw, thy, ttb, tww⟩, ⟨tcb, tfi, tla, tpa, tri, tss, thc, tis, thu⟩, ⟨tde, tus, tow, tgi, tgu, tdw, tdx⟩, ⟨tmd, tmf, tmt, tmg⟩⟩ := h_tyB.mk hR tcp tmo
  rw [er.at tmo (by decide), er.at tmf (by decide), er.at tmt (by decide)]
  intro i hi
  exact (gmv.2.2.1 i hi).1.2.2.2.2
theorem h_gb.mm {z : tZ} {I I1 : tI} {cp mo : Nat} (G : h_gb z I cp mo) (hR : h_R z) (hI : h_I z I) (tcp : z.ty cp = 12) (tmo : z.ty mo = 13) (er : h_er z I I1) : ∀ i : Nat, (i : Int) < (I1 mo 33).toInt → (I1 (h_ad z mo 34) i).toInt < 60 → 0 ≤ (I1 (h_ad z mo 34) i).toInt ∧ (I1 (h_ad z mo 34) i).toInt < (I1 mo 13).toInt := by
  obtain ⟨gsz, gpl, gdd, gsp, gtu, gmv, grk, gor, glb, gtw, gwp, gpz⟩ := G
  obtain ⟨⟨tcp, tmo⟩, ⟨tbk, ttu, tbg, tdt⟩, ⟨tpl, tdd, tsu⟩, ⟨thd, tsh, tgv, two⟩, ⟨tit, tth, tfr, tto, tsg⟩, ⟨trk, tdr, tod, thv⟩, ⟨tlw, thy, ttb, tww⟩, ⟨tcb, tfi, tla, tpa, tri, tss, thc, tis, thu⟩, ⟨tde, tus, tow, tgi, tgu, tdw, tdx⟩, ⟨tmd, tmf, tmt, tmg⟩⟩ := h_tyB.mk hR tcp tmo
  rw [er.at tmo (by decide), er.at tmd (by decide)]
  intro i hi h60
  obtain ⟨_, b6⟩ := gmv.2.2.1 i hi
  rcases b6 with ⟨_, _, a3, a4, _⟩ | ⟨_, a2, a3, _⟩
  · exact ⟨a3, a4⟩
  · omega
theorem h_gb.h2 {z : tZ} {I I1 : tI} {cp mo : Nat} (G : h_gb z I cp mo) (hR : h_R z) (hI : h_I z I) (tcp : z.ty cp = 12) (tmo : z.ty mo = 13) (er : h_er z I I1) : ∀ k : Nat, k < 80 → 0 ≤ (I1 (h_ad z mo 25) k).toInt ∧ (I1 (h_ad z mo 25) k).toInt ≤ 7 := by
  obtain ⟨gsz, gpl, gdd, gsp, gtu, gmv, grk, gor, glb, gtw, gwp, gpz⟩ := G
  obtain ⟨⟨tcp, tmo⟩, ⟨tbk, ttu, tbg, tdt⟩, ⟨tpl, tdd, tsu⟩, ⟨thd, tsh, tgv, two⟩, ⟨tit, tth, tfr, tto, tsg⟩, ⟨trk, tdr, tod, thv⟩, ⟨tlw, thy, ttb, tww⟩, ⟨tcb, tfi, tla, tpa, tri, tss, thc, tis, thu⟩, ⟨tde, tus, tow, tgi, tgu, tdw, tdx⟩, ⟨tmd, tmf, tmt, tmg⟩⟩ := h_tyB.mk hR tcp tmo
  rw [er.at tow (by decide)]
  intro k hk
  rw [← (gtu k hk).1]
  exact (gtu k hk).2.2.1
theorem h_gb.ho {z : tZ} {I : tI} {cp mo : Nat} (G : h_gb z I cp mo) : ∀ k : Nat, k < 80 → 0 ≤ (I (h_ad z (h_ad z cp 4) 0) k).toInt ∧ (I (h_ad z (h_ad z cp 4) 0) k).toInt ≤ 7 := by
  obtain ⟨gsz, gpl, gdd, gsp, gtu, gmv, grk, gor, glb, gtw, gwp, gpz⟩ := G
  exact fun k hk => (gtu k hk).2.2.1
theorem h_gb.cb {z : tZ} {I : tI} {cp mo : Nat} (G : h_gb z I cp mo) : 0 ≤ (I (h_ad z cp 5) 4).toInt ∧ (I (h_ad z cp 5) 4).toInt ≤ 255 := by
  obtain ⟨gsz, gpl, gdd, gsp, gtu, gmv, grk, gor, glb, gtw, gwp, gpz⟩ := G
  rw [gmv.2.1]
  refine q_cb_lt _ (fun i hi => ?_)
  obtain ⟨⟨_, _, b3, b4, _⟩, _⟩ := gmv.2.2.1 i (by omega)
  exact ⟨b3, b4⟩
theorem h_gb.mq {z : tZ} {I : tI} {cp mo : Nat} (G : h_gb z I cp mo) (hal : h_ad z (h_ad z cp 5) 0 = (h_ad z cp 3)) : ∀ i : Nat, (i : Int) < (I (h_ad z cp 5) 3).toInt → ((I (h_ad z (h_ad z cp 5) 5) i).toInt = 0 → 0 ≤ (I (h_ad z (h_ad z cp 5) 6) i).toInt ∧ (I (h_ad z (h_ad z cp 5) 6) i).toInt < (I (h_ad z (h_ad z cp 5) 0) 2).toInt) ∧ ((I (h_ad z (h_ad z cp 5) 5) i).toInt ≠ 0 → 0 ≤ (I (h_ad z (h_ad z cp 5) 6) i).toInt ∧ (I (h_ad z (h_ad z cp 5) 6) i).toInt ≤ 79) := by
  obtain ⟨gsz, gpl, gdd, gsp, gtu, gmv, grk, gor, glb, gtw, gwp, gpz⟩ := G
  rw [hal, gsz, gmv.1]
  intro i hi
  obtain ⟨_, b6⟩ := gmv.2.2.1 i hi
  rcases b6 with ⟨a1, a2, a3, a4, _⟩ | ⟨a1, _, a3, a4, _⟩
  · exact ⟨fun _ => by rw [a2]; exact ⟨a3, a4⟩, fun h => absurd a1 h⟩
  · exact ⟨fun h => absurd h a1, fun _ => ⟨a3, a4⟩⟩
theorem h_gb.nq {z : tZ} {I : tI} {cp mo : Nat} (G : h_gb z I cp mo) (hal : h_ad z (h_ad z cp 5) 0 = (h_ad z cp 3)) : ∀ p : Nat, (p : Int) < (I (h_ad z (h_ad z cp 5) 0) 2).toInt → z.R (h_ad z (h_ad z (h_ad z cp 5) 0) 1) p ≠ none := by
  rw [hal]
  exact G.nn
theorem g_di {z : tZ} {pl : Nat} (hU : h_U z) (tpl : z.ty pl = 101) : ∀ q q2 b : Nat, z.R pl q = some b → z.R pl q2 = some b → q = q2 := fun q q2 b h1 h2 => (hU.2.2 pl q pl q2 b (by rw [tpl]; rfl) (by rw [tpl]; rfl) h1 h2).2
theorem g_dn {z : tZ} {cp : Nat} (hU : h_U z) (hR : h_R z) (tcp : z.ty cp = 12) : ∀ q q2 b : Nat, z.R (h_ad z (h_ad z cp 3) 1) q = some b → z.R (h_ad z (h_ad z cp 3) 1) q2 = some b → q = q2 := by
  have tbk := (hR.ad tcp (rfl : h_rs 12 3 = some (1, false)) (by decide)).2
  exact g_di hU (hR.ad tbk (rfl : h_rs 1 1 = some (101, false)) (by decide)).2
theorem g_dq {z : tZ} {cp : Nat} (hU : h_U z) (hR : h_R z) (tcp : z.ty cp = 12) (hal : h_ad z (h_ad z cp 5) 0 = (h_ad z cp 3)) : ∀ q q2 b : Nat, z.R (h_ad z (h_ad z (h_ad z cp 5) 0) 1) q = some b → z.R (h_ad z (h_ad z (h_ad z cp 5) 0) 1) q2 = some b → q = q2 := by
  rw [hal]
  exact g_dn hU hR tcp
theorem h_gb.tp {z : tZ} {I : tI} {cp mo : Nat} (G : h_gb z I cp mo) (hI : h_I z I) (tmo : z.ty mo = 13) (hal : h_ad z (h_ad z cp 5) 0 = (h_ad z cp 3)) {u : Nat → Int} (hcl : ∀ b : Nat, h_of (z.R (h_ad z (h_ad z (h_ad z cp 3) 0) 1)) (h_ad z (h_ad z (h_ad z cp 3) 0) 0) (I (h_ad z cp 3) 3).toInt b → h_lw I b (h_ad z b 0) (h_ad z b 1) u) (hob : q_okb u) : h_tpre z I (h_ad z (h_ad z cp 5) 0) (h_ad z (h_ad z cp 5) 5) (h_ad z (h_ad z cp 5) 6) (I (h_ad z cp 5) 3).toInt u := by
  have hmq := G.mq hal
  have hnn := G.nn
  obtain ⟨gsz, gpl, gdd, gsp, gtu, gmv, grk, gor, glb, gtw, gwp, gpz⟩ := G
  have j13 := hI.rd mo 13 tmo rfl (rfl : h_bd 13 13 = (0, 60))
  rw [hal] at hmq ⊢
  refine ⟨hcl, hob, hnn, fun i hi h0 => (hmq i hi).1 h0, fun p hp => ?_⟩
  rw [gsz] at hp
  have h1 := (gpl.2 p (by omega)).1 hp
  rw [h1.pay]
  exact gpl.p3 j13.2 _ p hp
theorem h_gb.rk {z : tZ} {I : tI} {cp mo : Nat} (G : h_gb z I cp mo) (hI : h_I z I) (tmo : z.ty mo = 13) (hR : h_R z) : (I (h_ad z cp 7) 1).toInt = 1 → ∀ k : Nat, k < 8 → 0 ≤ (I (h_ad z (h_ad z cp 7) 0) k).toInt ∧ (I (h_ad z (h_ad z cp 7) 0) k).toInt ≤ 7 := by
  obtain ⟨gsz, gpl, gdd, gsp, gtu, gmv, grk, gor, glb, gtw, gwp, gpz⟩ := G
  have ttb := (hR.ad tmo (rfl : h_rs 13 32 = some (1332, false)) (by decide)).2
  intro _ k hk
  rw [grk k hk]
  exact hI.rd _ k ttb rfl (rfl : h_bd 1332 _ = (0, 7))
theorem g_m70 : ∀ k : Nat, k ≠ 0 → h_m [(1, 2), (56, 0), (7, 0)] 7 k = false := by
  intro k hk
  cases k with
  | zero => exact absurd rfl hk
  | succ n => rfl
/-! turns at birth -/
theorem q_hdO {I I1 : tI} {hd : Nat} {i v : Int32} {l l1 : Int} (h : ∀ k : Nat, (k : Int) < l → (I hd k).toInt = (k : Int) / 10) (h0 : 0 ≤ l) (e : I1 = h_up I hd i.toNatClampNeg v) (hi : i.toInt = l) (hv : v.toInt = l / 10) (e1 : l1 = l + 1) : ∀ k : Nat, (k : Int) < l1 → (I1 hd k).toInt = (k : Int) / 10 := by
  intro k hk
  by_cases hkl : (k : Int) = l
  · have ek := h_keq (k := k) (i := i) rfl (by omega) (by omega)
    have e9 : I1 hd k = v := by
      rw [← ek]
      exact h_n0 e
    rw [e9, hv, hkl]
  · rw [h_n2 e (h_kne (i := i) rfl (by omega) (by omega))]
    exact h k (by omega)
def q_dl (f g : Nat → Int32) (c y : Int) : Prop := ∀ a b : Nat, a < 8 → b < 10 → ((a : Int) < c ∨ ((a : Int) = c ∧ (b : Int) < y)) → (f (10 * a + b)).toInt = a ∧ g (8 * b + a) = -1
theorem q_dl.s {z : tZ} {I I1 I2 I3 : tI} {ow gi dw : Nat} {c y y1 : Int} {i1 i2 i3 v1 v2 v3 : Int32} (h : q_dl (I ow) (I dw) c y) (tow : z.ty ow = 1325) (tgi : z.ty gi = 1326) (tdw : z.ty dw = 1328) (e1 : I1 = h_up I ow i1.toNatClampNeg v1) (e2 : I2 = h_up I1 gi i2.toNatClampNeg v2) (e3 : I3 = h_up I2 dw i3.toNatClampNeg v3) (j1 : i1.toInt = 10 * c + y) (j3 : i3.toInt = 8 * y + c) (w1 : v1.toInt = c) (w3 : v3 = -1) (c0 : 0 ≤ c ∧ c ≤ 7) (y0 : 0 ≤ y ∧ y ≤ 9) (hy1 : y1 = y + 1) : q_dl (I3 ow) (I3 dw) c y1 := by
  have f1 : ∀ k : Nat, I3 ow k = I1 ow k := fun k => (h_n1 e3 tow tdw (by decide)).trans (h_n1 e2 tow tgi (by decide))
  have f3 : ∀ k : Nat, I2 dw k = I dw k := fun k => (h_n1 e2 tdw tgi (by decide)).trans (h_n1 e1 tdw tow (by decide))
  intro a b ha hb hab
  by_cases hx : (a : Int) = c ∧ (b : Int) = y
  · refine ⟨?_, ?_⟩
    · rw [f1, ← h_keq (k := 10 * a + b) (i := i1) rfl (by omega) (by omega), h_n0 e1, w1]
      exact hx.1.symm
    · rw [← h_keq (k := 8 * b + a) (i := i3) rfl (by omega) (by omega), h_n0 e3, w3]
  · have h9 := h a b ha hb (by omega)
    refine ⟨?_, ?_⟩
    · rw [f1, h_n2 e1 (h_kne (i := i1) rfl (by omega) (by omega))]
      exact h9.1
    · rw [h_n2 e3 (h_kne (i := i3) rfl (by omega) (by omega)), f3]
      exact h9.2
theorem q_dl.nx {f g : Nat → Int32} {c c1 y : Int} (h : q_dl f g c y) (hy : 10 ≤ y) (h1 : c1 = c + 1) : q_dl f g c1 0 := fun a b ha hb hab => h a b ha hb (by omega)
theorem q_dl.end {f g : Nat → Int32} {c y : Int} (h : q_dl f g c y) (hc : 8 ≤ c) : (∀ k : Nat, k < 80 → (f k).toInt = (k : Int) / 10) ∧ ∀ k : Nat, k < 80 → g k = -1 := by
  refine ⟨fun k hk => ?_, fun k hk => ?_⟩
  · have h1 := (h (k / 10) (k % 10) (by omega) (by omega) (Or.inl (by omega))).1
    rw [show 10 * (k / 10) + k % 10 = k by omega] at h1
    omega
  · have h1 := (h (k % 8) (k / 8) (by omega) (by omega) (Or.inl (by omega))).2
    rw [show 8 * (k / 8) + k % 8 = k by omega] at h1
    exact h1
theorem h_gb.init {z : tZ} {I : tI} {cp mo : Nat} (H0 : h_0 [(600, 999), (601, 999), (6, 2), (54, 3), (1100, 999), (5, 3), (1310, 999), (1325, 999), (1326, 999), (1328, 999), (62, 9), (13, 9)] z I) (hR : h_R z) (tcp : z.ty cp = 12) (tmo : z.ty mo = 13) (hm : ∀ k : Nat, k ≠ 9 → I mo k = 0) (hh : ∀ k : Nat, k < 80 → (I (h_ad z (h_ad z cp 4) 0) k).toInt = (k : Int) / 10) (ho : ∀ k : Nat, k < 80 → (I (h_ad z mo 25) k).toInt = (k : Int) / 10) (hd : ∀ k : Nat, k < 80 → I (h_ad z mo 28) k = -1) (hpl : ∀ i : Nat, i < 16 → (I (h_ad z mo 10) (176 + i)).toInt = q_pl i) : h_gb z I cp mo := by
  obtain ⟨⟨tcp, tmo⟩, ⟨tbk, ttu, tbg, tdt⟩, ⟨tpl, tdd, tsu⟩, ⟨thd, tsh, tgv, two⟩, ⟨tit, tth, tfr, tto, tsg⟩, ⟨trk, tdr, tod, thv⟩, ⟨tlw, thy, ttb, tww⟩, ⟨tcb, tfi, tla, tpa, tri, tss, thc, tis, thu⟩, ⟨tde, tus, tow, tgi, tgu, tdw, tdx⟩, ⟨tmd, tmf, tmt, tmg⟩⟩ := h_tyB.mk hR tcp tmo
  have e0 : (0 : Int32).toInt = 0 := by decide
  unfold h_gb
  rw [hm 13 (by decide), e0]
  refine ⟨(H0.at tbk (by decide) rfl), ⟨fun p hp => absurd hp (by omega), fun p hp => ⟨fun h9 => absurd h9 (by omega), fun _ => (H0.at thu (by decide) rfl)⟩⟩, fun c y hc hy => (H0.at (h_dd.row hR tdd hc).2 (by decide) rfl).trans (H0.at tde (by decide) rfl).symm, fun c hc => (H0.at tsu (by decide) rfl).trans (H0.at tus (by decide) rfl).symm, fun k hk => ?_, g_mv.z (H0.at tbg (by decide) rfl) (H0.at tbg (by decide) rfl) (hm 33 (by decide)), fun k hk => (H0.at trk (by decide) rfl).trans (H0.at ttb (by decide) rfl).symm, fun y hy => Or.inl ⟨?_, fun i hi => hd _ (by omega)⟩, h_lbd.init (fun k => (H0.at thy (by decide) rfl)) hpl, h_tw.init H0 hR two tww (fun _ => rfl) (fun _ => rfl), h_wp.init H0 tww (fun _ => rfl), fun p _ _ => ⟨(H0.at tfi (by decide) rfl), (H0.at tla (by decide) rfl), (H0.at tpa (by decide) rfl), (H0.at tri (by decide) rfl), (H0.at tss (by decide) rfl)⟩⟩
  · have s0 : I (h_ad z (h_ad z cp 4) 1) k = 0 := (H0.at tsh (by decide) rfl)
    refine ⟨xi_of (by rw [hh k hk, ho k hk]), s0.trans ((H0.at tgu (by decide) rfl)).symm, by rw [hh k hk]; omega, by rw [s0]; decide, fun h9 => absurd (by rw [s0]; decide) h9⟩
  · rw [show I (h_ad z (h_ad z cp 7) 2) y = 0 from (H0.at tdr (by decide) rfl)]
    decide

