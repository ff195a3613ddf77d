set_option maxHeartbeats 4000000 in
theorem g_trade2 {z : tZ} {I I1 I2 : tI} {cp mo : Nat}  {r1 r2 : Int32} (G : h_gb z I cp mo) (hU : h_U z) (hR : h_R z) (hI : h_I z I) (tcp : z.ty cp = 12) (tmo : z.ty mo = 13) (ck : I (h_ad z cp 3) 3 = I mo 12) (p : I1 (h_ad z cp 5) 3 = 0 ∧ I1 (h_ad z cp 5) 4 = 0) (f1 : h_F [(10, 3), (10, 4)] z I I1) (q : I2 mo 33 = 0) (f2 : h_F [(13, 33)] z I1 I2) : h_gb z I2 cp mo := by
  obtain ⟨⟨tcp, tmo⟩, ⟨tbk, ttu, tbg, tdt⟩, ⟨tpl, tdd, tsu⟩, ⟨thd, tsh, tgv, two⟩, ⟨tit, tth, tfr, tto, tsg⟩, ⟨trk, tdr, tod, thv⟩, ⟨tlw, thy, ttb, tww⟩, ⟨tcb, tfi, tla, tpa, tri, tss, thc, tis, thu⟩, ⟨tde, tus, tow, tgi, tgu, tdw, tdx⟩, ⟨tmd, tmf, tmt, tmg⟩⟩ := h_tyB.mk hR tcp tmo
  have G0 := G
  obtain ⟨gsz, gpl, gdd, gsp, gtu, gmv, grk, gor, glb, gtw, gwp, gpz⟩ := G
  have j13 := hI.rd mo 13 tmo rfl (rfl : h_bd 13 13 = (0, 60))
  have f := f1.app f2
  have y_bg := f2.cls (by decide) tbg (by decide)
  have e13 : I2 mo 13 = I mo 13 := f.at tmo rfl
  unfold h_gb
  rw [e13]
  refine ⟨?_, ?_, ?_, ?_, ?_, ?_, ?_, ?_, ?_, ?_, ?_, ?_⟩
  · exact (f.at tbk rfl).trans gsz
  · exact gpl.F hR tpl tcb tfi tla tpa tri tss thc tis thu f (fun k hk => by rcases (show k = 0 ∨ k = 1 ∨ k = 2 ∨ k = 3 ∨ k = 4 ∨ k = 5 ∨ k = 6 ∨ k = 7 by omega) with rfl | rfl | rfl | rfl | rfl | rfl | rfl | rfl <;> rfl) (fun _ => rfl) (fun _ => rfl) (fun _ => rfl) (fun _ => rfl) (fun _ => rfl) (fun _ => rfl) (fun _ => rfl) (fun _ => rfl) (fun _ => rfl)
  · exact gdd.F hR tdd tde f (fun _ => rfl) (fun _ => rfl)
  · exact gsp.F tsu tus f (fun _ => rfl) (fun _ => rfl)
  · exact gtu.F thd tsh tgv tow tgu tgi f (fun _ => rfl) (fun _ => rfl) (fun _ => rfl) (fun _ => rfl) (fun _ => rfl) (fun _ => rfl)
  · exact g_mv.z (by rw [y_bg]; exact p.1) (by rw [y_bg]; exact p.2) q
  · exact grk.F trk ttb f (fun _ => rfl) (fun _ => rfl)
  · exact gor.F hR tdr tod thv tdw tdx f (fun _ => rfl) (fun _ => rfl) (fun _ => rfl) (fun _ => rfl) (fun _ => rfl)
  · exact glb.c (fun k _ => f.at tlw rfl) (fun k => f.at thy rfl)
  · exact gtw.F hR two f (fun _ => rfl) (fun k _ => f.at tww rfl)
  · exact gwp.F hR tpl f (fun _ => rfl) (fun k _ => f.at tww rfl)
  · exact gpz.F tfi tla tpa tri tss f (fun _ => rfl) (fun _ => rfl) (fun _ => rfl) (fun _ => rfl) (fun _ => rfl)

set_option maxHeartbeats 4000000 in
theorem g_hurt2 {z : tZ} {I I1 I2 : tI} {cp mo : Nat} {p_t h_t : Int} {h : Int32} {r1 r2 : Int32} (G : h_gb z I cp mo) (hU : h_U z) (hR : h_R z) (hI : h_I z I) (tcp : z.ty cp = 12) (tmo : z.ty mo = 13) (ck : I (h_ad z cp 3) 3 = I mo 12) (hh : h.toInt = h_t) (p : (¬ (0 ≤ p_t ∧ p_t < (I (h_ad z cp 3) 2).toInt) ∧ r1.toInt = -2 ∧ I1 = I) ∨ ((0 ≤ p_t ∧ p_t < (I (h_ad z cp 3) 2).toInt) ∧ (((I (h_ad z (h_ad z (h_ad z cp 3) 1) p_t.toNat) 7).toInt = h_t ∧ r1.toInt = 0) ∨ ((I (h_ad z (h_ad z (h_ad z cp 3) 1) p_t.toNat) 7).toInt ≠ h_t ∧ r1.toInt = 1)) ∧ I1 = h_up I (h_ad z (h_ad z (h_ad z cp 3) 1) p_t.toNat) 7 h)) (f1 : h_F [(7, 7)] z I I1) (q : (¬ (0 ≤ p_t ∧ p_t < (I1 mo 13).toInt) ∧ r2.toInt = -2 ∧ I2 = I1) ∨ ((0 ≤ p_t ∧ p_t < (I1 mo 13).toInt) ∧ (((I1 (h_ad z mo 22) p_t.toNat).toInt = h_t ∧ r2.toInt = 0) ∨ ((I1 (h_ad z mo 22) p_t.toNat).toInt ≠ h_t ∧ r2.toInt = 1)) ∧ I2 = h_up I1 (h_ad z mo 22) p_t.toNat h)) (f2 : h_F [(1322, 999)] z I1 I2) : r1.toInt = r2.toInt ∧ h_gb z I2 cp mo := by
  obtain ⟨⟨tcp, tmo⟩, ⟨tbk, ttu, tbg, tdt⟩, ⟨tpl, tdd, tsu⟩, ⟨thd, tsh, tgv, two⟩, ⟨tit, tth, tfr, tto, tsg⟩, ⟨trk, tdr, tod, thv⟩, ⟨tlw, thy, ttb, tww⟩, ⟨tcb, tfi, tla, tpa, tri, tss, thc, tis, thu⟩, ⟨tde, tus, tow, tgi, tgu, tdw, tdx⟩, ⟨tmd, tmf, tmt, tmg⟩⟩ := h_tyB.mk hR tcp tmo
  have G0 := G
  obtain ⟨gsz, gpl, gdd, gsp, gtu, gmv, grk, gor, glb, gtw, gwp, gpz⟩ := G
  have j13 := hI.rd mo 13 tmo rfl (rfl : h_bd 13 13 = (0, 60))
  have x_hu := f1.ref (by decide) thu (by decide)
  have x_mo := f1.ref (by decide) tmo (by decide)
  rw [gsz] at p
  rw [x_hu, x_mo] at q
  rcases p with ⟨p1, p2, p3⟩ | ⟨p1, p2, p3⟩ <;> rcases q with ⟨q1, q2, q3⟩ | ⟨q1, q2, q3⟩
  · exact ⟨by rw [p2, q2], by rw [q3, p3]; exact G0⟩
  · exact absurd q1 p1
  · exact absurd p1 q1
  have h1 := (gpl.2 p_t.toNat (by omega)).1 (by omega)
  obtain ⟨b, rb, tb, ab⟩ := gpl.b hR tpl (p := p_t.toNat) (by omega) (by omega)
  rw [ab] at p2 p3 h1
  have e7 := h1.2.1
  refine ⟨by rw [← e7] at q2; omega, ?_⟩
  have f := f1.app f2
  have n1 : b ≠ (h_ad z mo 22) := h_ne2 tb thu (by decide)
  have eo : ∀ c k : Nat, c ≠ b → c ≠ (h_ad z mo 22) → I2 c k = I c k := fun c k g1 g2 => (h_upb q3 g2).trans (h_upb p3 g1)
  have eb : ∀ k : Nat, k ≠ 7 → I2 b k = I b k := fun k hk => (h_upb q3 n1).trans (h_n2 p3 hk)
  have e27 : I2 b 7 = h := (h_upb q3 n1).trans (h_n0 p3)
  have h27 : I2 (h_ad z mo 22) p_t.toNat = h := h_n0 q3
  have e_cb : ∀ k : Nat, I2 (h_ad z mo 14) k = I (h_ad z mo 14) k := fun k => f.at tcb rfl
  have e_fi : ∀ k : Nat, I2 (h_ad z mo 15) k = I (h_ad z mo 15) k := fun k => f.at tfi rfl
  have e_la : ∀ k : Nat, I2 (h_ad z mo 16) k = I (h_ad z mo 16) k := fun k => f.at tla rfl
  have e_pa : ∀ k : Nat, I2 (h_ad z mo 17) k = I (h_ad z mo 17) k := fun k => f.at tpa rfl
  have e_ri : ∀ k : Nat, I2 (h_ad z mo 18) k = I (h_ad z mo 18) k := fun k => f.at tri rfl
  have e_ss : ∀ k : Nat, I2 (h_ad z mo 19) k = I (h_ad z mo 19) k := fun k => f.at tss rfl
  have e_hc : ∀ k : Nat, I2 (h_ad z mo 20) k = I (h_ad z mo 20) k := fun k => f.at thc rfl
  have e_is : ∀ k : Nat, I2 (h_ad z mo 21) k = I (h_ad z mo 21) k := fun k => f.at tis rfl
  have e13 : I2 mo 13 = I mo 13 := f.at tmo rfl
  unfold h_gb
  rw [e13]
  refine ⟨?_, ?_, ?_, ?_, ?_, ?_, ?_, ?_, ?_, ?_, ?_, ?_⟩
  · exact (f.at tbk rfl).trans gsz
  · exact gpl.upd hU hR tpl (p0 := p_t.toNat) (by omega) (by omega) (by
        rw [ab]
        unfold h_p1
        rw [e27, h27, eb 0 (by decide), eb 1 (by decide), eb 2 (by decide), eb 3 (by decide), eb 4 (by decide), eb 5 (by decide), eb 6 (by decide), e_cb, e_fi, e_la, e_pa, e_ri, e_ss, e_hc, e_is]
        exact ⟨h1.1, rfl, h1.2.2⟩) (fun c k tc hc hk => eo c k (by rw [← ab]; exact hc) (h_ne2 tc thu (by decide))) (fun k hk => ⟨e_cb k, e_fi k, e_la k, e_pa k, e_ri k, e_ss k, e_hc k, e_is k, (h_n2 q3 hk).trans (congrFun x_hu k)⟩)
  · exact gdd.F hR tdd tde f (fun _ => rfl) (fun _ => rfl)
  · exact gsp.F tsu tus f (fun _ => rfl) (fun _ => rfl)
  · exact gtu.F thd tsh tgv tow tgu tgi f (fun _ => rfl) (fun _ => rfl) (fun _ => rfl) (fun _ => rfl) (fun _ => rfl) (fun _ => rfl)
  · exact gmv.F tbg tit tth tfr tto tsg tmo tmd tmf tmt tmg thd f rfl rfl (fun _ => rfl) (fun _ => rfl) (fun _ => rfl) (fun _ => rfl) (fun _ => rfl) rfl (fun _ => rfl) (fun _ => rfl) (fun _ => rfl) (fun _ => rfl) (fun _ => rfl) (fun p hp hq => by
        obtain ⟨b, rb, tb, ab⟩ := gpl.b hR tpl hp (by omega)
        rw [ab] at hq ⊢
        rw [f.at tb rfl]
        exact hq)
  · exact grk.F trk ttb f (fun _ => rfl) (fun _ => rfl)
  · exact gor.F hR tdr tod thv tdw tdx f (fun _ => rfl) (fun _ => rfl) (fun _ => rfl) (fun _ => rfl) (fun _ => rfl)
  · exact glb.c (fun k _ => f.at tlw rfl) (fun k => f.at thy rfl)
  · exact gtw.F hR two f (fun _ => rfl) (fun k _ => f.at tww rfl)
  · exact gwp.F hR tpl f (fun _ => rfl) (fun k _ => f.at tww rfl)
  · exact gpz.F tfi tla tpa tri tss f (fun _ => rfl) (fun _ => rfl) (fun _ => rfl) (fun _ => rfl) (fun _ => rfl)

set_option maxHeartbeats 4000000 in
theorem g_choose2 {z : tZ} {I I1 I2 : tI} {cp mo : Nat} {p_t : Int} {r1 r2 : Int32} (G : h_gb z I cp mo) (hU : h_U z) (hR : h_R z) (hI : h_I z I) (tcp : z.ty cp = 12) (tmo : z.ty mo = 13) (ck : I (h_ad z cp 3) 3 = I mo 12) (p : (¬ (0 ≤ p_t ∧ p_t < (I (h_ad z cp 3) 2).toInt) ∧ r1.toInt = -2 ∧ I1 = I) ∨ ((0 ≤ p_t ∧ p_t < (I (h_ad z cp 3) 2).toInt) ∧ ((I (h_ad z (h_ad z (h_ad z cp 3) 1) p_t.toNat) 0).toInt ≠ -1 ∧ (I (h_ad z (h_ad z (h_ad z cp 3) 1) p_t.toNat) 6).toInt ≠ 0 ∧ (I (h_ad z (h_ad z (h_ad z cp 3) 1) p_t.toNat) 2).toInt = (I (h_ad z cp 3) 3).toInt + 1) ∧ r1.toInt = 1 ∧ I1 = h_up I (h_ad z (h_ad z (h_ad z cp 3) 1) p_t.toNat) 6 0) ∨ ((0 ≤ p_t ∧ p_t < (I (h_ad z cp 3) 2).toInt) ∧ ¬ ((I (h_ad z (h_ad z (h_ad z cp 3) 1) p_t.toNat) 0).toInt ≠ -1 ∧ (I (h_ad z (h_ad z (h_ad z cp 3) 1) p_t.toNat) 6).toInt ≠ 0 ∧ (I (h_ad z (h_ad z (h_ad z cp 3) 1) p_t.toNat) 2).toInt = (I (h_ad z cp 3) 3).toInt + 1) ∧ r1.toInt = -4 ∧ I1 = I)) (f1 : h_F [(7, 6)] z I I1) (q : (¬ (0 ≤ p_t ∧ p_t < (I1 mo 13).toInt) ∧ r2.toInt = -2 ∧ I2 = I1) ∨ ((0 ≤ p_t ∧ p_t < (I1 mo 13).toInt) ∧ ((I1 (h_ad z mo 14) p_t.toNat).toInt ≠ -1 ∧ ((I1 (h_ad z mo 20) p_t.toNat).toInt ≠ 0 ∧ (I1 (h_ad z mo 21) p_t.toNat).toInt = 0) ∧ (I1 (h_ad z mo 16) p_t.toNat).toInt = (I1 mo 12).toInt + 1) ∧ r2.toInt = 1 ∧ I2 = h_up I1 (h_ad z mo 21) p_t.toNat 1) ∨ ((0 ≤ p_t ∧ p_t < (I1 mo 13).toInt) ∧ ¬ ((I1 (h_ad z mo 14) p_t.toNat).toInt ≠ -1 ∧ ((I1 (h_ad z mo 20) p_t.toNat).toInt ≠ 0 ∧ (I1 (h_ad z mo 21) p_t.toNat).toInt = 0) ∧ (I1 (h_ad z mo 16) p_t.toNat).toInt = (I1 mo 12).toInt + 1) ∧ r2.toInt = -4 ∧ I2 = I1)) (f2 : h_F [(1321, 999)] z I1 I2) : r1.toInt = r2.toInt ∧ h_gb z I2 cp mo := by
  obtain ⟨⟨tcp, tmo⟩, ⟨tbk, ttu, tbg, tdt⟩, ⟨tpl, tdd, tsu⟩, ⟨thd, tsh, tgv, two⟩, ⟨tit, tth, tfr, tto, tsg⟩, ⟨trk, tdr, tod, thv⟩, ⟨tlw, thy, ttb, tww⟩, ⟨tcb, tfi, tla, tpa, tri, tss, thc, tis, thu⟩, ⟨tde, tus, tow, tgi, tgu, tdw, tdx⟩, ⟨tmd, tmf, tmt, tmg⟩⟩ := h_tyB.mk hR tcp tmo
  have G0 := G
  obtain ⟨gsz, gpl, gdd, gsp, gtu, gmv, grk, gor, glb, gtw, gwp, gpz⟩ := G
  have j13 := hI.rd mo 13 tmo rfl (rfl : h_bd 13 13 = (0, 60))
  have x_cb := f1.ref (by decide) tcb (by decide)
  have x_hc := f1.ref (by decide) thc (by decide)
  have x_is := f1.ref (by decide) tis (by decide)
  have x_la := f1.ref (by decide) tla (by decide)
  have x_mo := f1.ref (by decide) tmo (by decide)
  rw [gsz, ck] at p
  rw [x_cb, x_hc, x_is, x_la, x_mo] at q
  have key : 0 ≤ p_t ∧ p_t < (I mo 13).toInt → ((I (h_ad z (h_ad z (h_ad z cp 3) 1) p_t.toNat) 0).toInt ≠ -1 ∧ (I (h_ad z (h_ad z (h_ad z cp 3) 1) p_t.toNat) 6).toInt ≠ 0 ∧ (I (h_ad z (h_ad z (h_ad z cp 3) 1) p_t.toNat) 2).toInt = (I mo 12).toInt + 1 ↔ (I (h_ad z mo 14) p_t.toNat).toInt ≠ -1 ∧ ((I (h_ad z mo 20) p_t.toNat).toInt ≠ 0 ∧ (I (h_ad z mo 21) p_t.toNat).toInt = 0) ∧ (I (h_ad z mo 16) p_t.toNat).toInt = (I mo 12).toInt + 1) := by
    intro hp
    have h1 := (gpl.2 p_t.toNat (by omega)).1 (by omega)
    obtain ⟨a1, a2, a3, a4, a5⟩ := h1
    constructor
    · rintro ⟨b1, b2, b3⟩
      obtain ⟨c1, c2, c3, c4, c5, c6⟩ := a4 b1
      exact ⟨by rw [← a1]; exact b1, Classical.byContradiction (fun h9 => b2 (c6.mpr h9)), by rw [← c2]; exact b3⟩
    · rintro ⟨b1, b2, b3⟩
      rw [← a1] at b1
      obtain ⟨c1, c2, c3, c4, c5, c6⟩ := a4 b1
      exact ⟨b1, fun h9 => c6.mp h9 b2, by rw [c2]; exact b3⟩
  rcases p with ⟨p1, p2, p3⟩ | ⟨p1, pc, p2, p3⟩ | ⟨p1, pc, p2, p3⟩ <;> rcases q with ⟨q1, q2, q3⟩ | ⟨q1, qc, q2, q3⟩ | ⟨q1, qc, q2, q3⟩
  · exact ⟨by rw [p2, q2], by rw [q3, p3]; exact G0⟩
  · exact absurd q1 p1
  · exact absurd q1 p1
  · exact absurd p1 q1
  rotate_left
  · exact absurd ((key p1).mp pc) qc
  · exact absurd p1 q1
  · exact absurd ((key p1).mpr qc) pc
  · exact ⟨by rw [p2, q2], by rw [q3, p3]; exact G0⟩
  refine ⟨by rw [p2, q2], ?_⟩
  have h1 := (gpl.2 p_t.toNat (by omega)).1 (by omega)
  obtain ⟨b, rb, tb, ab⟩ := gpl.b hR tpl (p := p_t.toNat) (by omega) (by omega)
  rw [ab] at pc p3 h1
  have f := f1.app f2
  have n1 : b ≠ (h_ad z mo 21) := h_ne2 tb tis (by decide)
  have eo : ∀ c k : Nat, c ≠ b → c ≠ (h_ad z mo 21) → I2 c k = I c k := fun c k g1 g2 => (h_upb q3 g2).trans (h_upb p3 g1)
  have eb : ∀ k : Nat, k ≠ 6 → I2 b k = I b k := fun k hk => (h_upb q3 n1).trans (h_n2 p3 hk)
  have e26 : I2 b 6 = 0 := (h_upb q3 n1).trans (h_n0 p3)
  have h21 : I2 (h_ad z mo 21) p_t.toNat = 1 := h_n0 q3
  have e_cb : ∀ k : Nat, I2 (h_ad z mo 14) k = I (h_ad z mo 14) k := fun k => f.at tcb rfl
  have e_fi : ∀ k : Nat, I2 (h_ad z mo 15) k = I (h_ad z mo 15) k := fun k => f.at tfi rfl
  have e_la : ∀ k : Nat, I2 (h_ad z mo 16) k = I (h_ad z mo 16) k := fun k => f.at tla rfl
  have e_pa : ∀ k : Nat, I2 (h_ad z mo 17) k = I (h_ad z mo 17) k := fun k => f.at tpa rfl
  have e_ri : ∀ k : Nat, I2 (h_ad z mo 18) k = I (h_ad z mo 18) k := fun k => f.at tri rfl
  have e_ss : ∀ k : Nat, I2 (h_ad z mo 19) k = I (h_ad z mo 19) k := fun k => f.at tss rfl
  have e_hc : ∀ k : Nat, I2 (h_ad z mo 20) k = I (h_ad z mo 20) k := fun k => f.at thc rfl
  have e_hu : ∀ k : Nat, I2 (h_ad z mo 22) k = I (h_ad z mo 22) k := fun k => f.at thu rfl
  have e13 : I2 mo 13 = I mo 13 := f.at tmo rfl
  unfold h_gb
  rw [e13]
  refine ⟨?_, ?_, ?_, ?_, ?_, ?_, ?_, ?_, ?_, ?_, ?_, ?_⟩
  · exact (f.at tbk rfl).trans gsz
  · exact gpl.upd hU hR tpl (p0 := p_t.toNat) (by omega) (by omega) (by
        rw [ab]
        obtain ⟨a1, a2, a3, a4, a5⟩ := h1
        obtain ⟨c1, c2, c3, c4, c5, c6⟩ := a4 pc.1
        unfold h_p1
        rw [e26, h21, eb 0 (by decide), eb 1 (by decide), eb 2 (by decide), eb 3 (by decide), eb 4 (by decide), eb 5 (by decide), eb 7 (by decide), e_cb, e_fi, e_la, e_pa, e_ri, e_ss, e_hc, e_hu]
        exact ⟨a1, a2, fun h9 => absurd h9 pc.1, fun _ => ⟨c1, c2, c3, c4, c5, ⟨fun _ h9 => absurd h9.2 (by decide), fun _ => by decide⟩⟩, a5⟩) (fun c k tc hc hk => eo c k (by rw [← ab]; exact hc) (h_ne2 tc tis (by decide))) (fun k hk => ⟨e_cb k, e_fi k, e_la k, e_pa k, e_ri k, e_ss k, e_hc k, (h_n2 q3 hk).trans (congrFun x_is k), e_hu k⟩)
  · exact gdd.F hR tdd tde f (fun _ => rfl) (fun _ => rfl)
  · exact gsp.F tsu tus f (fun _ => rfl) (fun _ => rfl)
  · exact gtu.F thd tsh tgv tow tgu tgi f (fun _ => rfl) (fun _ => rfl) (fun _ => rfl) (fun _ => rfl) (fun _ => rfl) (fun _ => rfl)
  · exact gmv.F tbg tit tth tfr tto tsg tmo tmd tmf tmt tmg thd f rfl rfl (fun _ => rfl) (fun _ => rfl) (fun _ => rfl) (fun _ => rfl) (fun _ => rfl) rfl (fun _ => rfl) (fun _ => rfl) (fun _ => rfl) (fun _ => rfl) (fun _ => rfl) (fun p hp hq => by
        obtain ⟨b, rb, tb, ab⟩ := gpl.b hR tpl hp (by omega)
        rw [ab] at hq ⊢
        rw [f.at tb rfl]
        exact hq)
  · exact grk.F trk ttb f (fun _ => rfl) (fun _ => rfl)
  · exact gor.F hR tdr tod thv tdw tdx f (fun _ => rfl) (fun _ => rfl) (fun _ => rfl) (fun _ => rfl) (fun _ => rfl)
  · exact glb.c (fun k _ => f.at tlw rfl) (fun k => f.at thy rfl)
  · exact gtw.F hR two f (fun _ => rfl) (fun k _ => f.at tww rfl)
  · exact gwp.F hR tpl f (fun _ => rfl) (fun k _ => f.at tww rfl)
  · exact gpz.F tfi tla tpa tri tss f (fun _ => rfl) (fun _ => rfl) (fun _ => rfl) (fun _ => rfl) (fun _ => rfl)

set_option maxHeartbeats 4000000 in
theorem g_sign2 {z : tZ} {I I1 I2 : tI} {cp mo : Nat} {p_t c_t y_t n_t u_t q_t h_t : Int} {c y n u q0 h : Int32} {u_ : Nat → Int} {r1 r2 : Int32} (G : h_gb z I cp mo) (hU : h_U z) (hR : h_R z) (hI : h_I z I) (tcp : z.ty cp = 12) (tmo : z.ty mo = 13) (ck : I (h_ad z cp 3) 3 = I mo 12) (hh : h.toInt = h_t) (hy : y.toInt = y_t) (hn : n.toInt = n_t) (hu_ : u.toInt = u_t) (hq : q0.toInt = q_t) (hc0 : c.toInt = c_t) (p : (¬ (0 ≤ p_t ∧ p_t < (I (h_ad z cp 3) 2).toInt ∧ 0 ≤ c_t ∧ c_t ≤ 7 ∧ 1 ≤ y_t ∧ y_t ≤ 5 ∧ 0 ≤ n_t ∧ n_t ≤ 20000 ∧ -500 ≤ u_t ∧ u_t ≤ 500 ∧ 0 ≤ q_t ∧ q_t ≤ 100 ∧ (h_t = 0 ∨ 2 ≤ y_t)) ∧ r1.toInt = -2 ∧ I1 = I) ∨ ((0 ≤ p_t ∧ p_t < (I (h_ad z cp 3) 2).toInt ∧ 0 ≤ c_t ∧ c_t ≤ 7 ∧ 1 ≤ y_t ∧ y_t ≤ 5 ∧ 0 ≤ n_t ∧ n_t ≤ 20000 ∧ -500 ≤ u_t ∧ u_t ≤ 500 ∧ 0 ≤ q_t ∧ q_t ≤ 100 ∧ (h_t = 0 ∨ 2 ≤ y_t)) ∧ ∃ f : Int, q_flt ((I (h_ad z (h_ad z (h_ad z cp 3) 1) p_t.toNat) 0).toInt ≠ -1) (u_ 1 ≤ (c_many z I (h_ad z cp 3) c_t (I (h_ad z cp 3) 3)).toInt) (u_ 2 < y_t) (u_ 0 < (c_cnt z I (h_ad z cp 3) c_t (I (h_ad z cp 3) 3) (u_ 6) + n).toInt ∧ (u_ 3 < n_t ∨ (I (h_ad z (h_ad z cp 3) 5) c_t.toNat).toInt ≠ 0)) f ∧ ((f ≠ 0 ∧ r1.toInt = 0 ∧ I1 = I) ∨ (f = 0 ∧ r1.toInt = 1 ∧ (I1 (h_ad z (h_ad z (h_ad z cp 3) 1) p_t.toNat) 0 = c ∧ I1 (h_ad z (h_ad z (h_ad z cp 3) 1) p_t.toNat) 1 = I (h_ad z cp 3) 3 ∧ I1 (h_ad z (h_ad z (h_ad z cp 3) 1) p_t.toNat) 2 = I (h_ad z cp 3) 3 + y - 1 ∧ I1 (h_ad z (h_ad z (h_ad z cp 3) 1) p_t.toNat) 3 = n ∧ I1 (h_ad z (h_ad z (h_ad z cp 3) 1) p_t.toNat) 4 = u ∧ I1 (h_ad z (h_ad z (h_ad z cp 3) 1) p_t.toNat) 5 = q0 ∧ I1 (h_ad z (h_ad z (h_ad z cp 3) 1) p_t.toNat) 6 = h) ∧ (∀ a k : Nat, z.ty a = 7 → (a ≠ (h_ad z (h_ad z (h_ad z cp 3) 1) p_t.toNat) ∨ k = 7) → I1 a k = I a k) ∧ ((u_ 0 < (c_cnt z I (h_ad z cp 3) c_t (I (h_ad z cp 3) 3) (u_ 6) + n).toInt ∧ I1 (h_ad z (h_ad z cp 3) 5) = h_up I (h_ad z (h_ad z cp 3) 5) c_t.toNat 1 (h_ad z (h_ad z cp 3) 5)) ∨ ((c_cnt z I (h_ad z cp 3) c_t (I (h_ad z cp 3) 3) (u_ 6) + n).toInt ≤ u_ 0 ∧ I1 (h_ad z (h_ad z cp 3) 5) = I (h_ad z (h_ad z cp 3) 5))) ∧ I1 (h_ad z cp 5) 3 = 0 ∧ I1 (h_ad z cp 5) 4 = 0)))) (f1 : h_F [(105, 999), (7, 0), (7, 1), (7, 2), (7, 3), (7, 4), (7, 5), (7, 6), (10, 3), (10, 4)] z I I1) (q : (¬ (0 ≤ p_t ∧ p_t < (I1 mo 13).toInt ∧ 0 ≤ c_t ∧ c_t ≤ 7 ∧ 1 ≤ y_t ∧ y_t ≤ 5 ∧ 0 ≤ n_t ∧ n_t ≤ 20000 ∧ -500 ≤ u_t ∧ u_t ≤ 500 ∧ 0 ≤ q_t ∧ q_t ≤ 100 ∧ (h_t = 0 ∨ 2 ≤ y_t)) ∧ r2.toInt = -2 ∧ I2 = I1) ∨ ((0 ≤ p_t ∧ p_t < (I1 mo 13).toInt ∧ 0 ≤ c_t ∧ c_t ≤ 7 ∧ 1 ≤ y_t ∧ y_t ≤ 5 ∧ 0 ≤ n_t ∧ n_t ≤ 20000 ∧ -500 ≤ u_t ∧ u_t ≤ 500 ∧ 0 ≤ q_t ∧ q_t ≤ 100 ∧ (h_t = 0 ∨ 2 ≤ y_t)) ∧ ∃ f : Int, q_flt ((I1 (h_ad z mo 14) p_t.toNat).toInt ≠ -1) (u_ 1 ≤ (m_many z I1 mo c_t (I1 mo 12)).toInt) (u_ 2 < y_t) (u_ 0 < (m_cnt z I1 mo c_t (I1 mo 12) (u_ 6) + n).toInt ∧ (u_ 3 < n_t ∨ (I1 (h_ad z mo 24) c_t.toNat).toInt ≠ 0)) f ∧ ((f ≠ 0 ∧ r2.toInt = 0 ∧ I2 = I1) ∨ (f = 0 ∧ r2.toInt = 1 ∧ (I2 (h_ad z mo 14) p_t.toNat = c ∧ I2 (h_ad z mo 15) p_t.toNat = I1 mo 12 ∧ I2 (h_ad z mo 16) p_t.toNat = I1 mo 12 + y - 1 ∧ I2 (h_ad z mo 17) p_t.toNat = n ∧ I2 (h_ad z mo 18) p_t.toNat = u ∧ I2 (h_ad z mo 19) p_t.toNat = q0 ∧ I2 (h_ad z mo 20) p_t.toNat = h ∧ I2 (h_ad z mo 21) p_t.toNat = 0) ∧ (∀ k : Nat, k ≠ p_t.toNat → I2 (h_ad z mo 14) k = I1 (h_ad z mo 14) k ∧ I2 (h_ad z mo 15) k = I1 (h_ad z mo 15) k ∧ I2 (h_ad z mo 16) k = I1 (h_ad z mo 16) k ∧ I2 (h_ad z mo 17) k = I1 (h_ad z mo 17) k ∧ I2 (h_ad z mo 18) k = I1 (h_ad z mo 18) k ∧ I2 (h_ad z mo 19) k = I1 (h_ad z mo 19) k ∧ I2 (h_ad z mo 20) k = I1 (h_ad z mo 20) k ∧ I2 (h_ad z mo 21) k = I1 (h_ad z mo 21) k) ∧ ((((I1 (h_ad z mo 24) c_t.toNat).toInt ≠ 0 ∨ u_ 0 < (m_cnt z I1 mo c_t (I1 mo 12) (u_ 6) + n).toInt) ∧ I2 (h_ad z mo 24) c_t.toNat = 1) ∨ ((I1 (h_ad z mo 24) c_t.toNat).toInt = 0 ∧ (m_cnt z I1 mo c_t (I1 mo 12) (u_ 6) + n).toInt ≤ u_ 0 ∧ I2 (h_ad z mo 24) c_t.toNat = 0)) ∧ (∀ k : Nat, k ≠ c_t.toNat → I2 (h_ad z mo 24) k = I1 (h_ad z mo 24) k) ∧ I2 mo 33 = 0)))) (f2 : h_F [(1324, 999), (1314, 999), (1315, 999), (1316, 999), (1317, 999), (1318, 999), (1319, 999), (1320, 999), (1321, 999), (13, 33)] z I1 I2) : r1.toInt = r2.toInt ∧ h_gb z I2 cp mo := by
  obtain ⟨⟨tcp, tmo⟩, ⟨tbk, ttu, tbg, tdt⟩, ⟨tpl, tdd, tsu⟩, ⟨thd, tsh, tgv, two⟩, ⟨tit, tth, tfr, tto, tsg⟩, ⟨trk, tdr, tod, thv⟩, ⟨tlw, thy, ttb, tww⟩, ⟨tcb, tfi, tla, tpa, tri, tss, thc, tis, thu⟩, ⟨tde, tus, tow, tgi, tgu, tdw, tdx⟩, ⟨tmd, tmf, tmt, tmg⟩⟩ := h_tyB.mk hR tcp tmo
  have G0 := G
  obtain ⟨gsz, gpl, gdd, gsp, gtu, gmv, grk, gor, glb, gtw, gwp, gpz⟩ := G
  have j13 := hI.rd mo 13 tmo rfl (rfl : h_bd 13 13 = (0, 60))
  have x_cb := f1.ref (by decide) tcb (by decide)
  have x_fi := f1.ref (by decide) tfi (by decide)
  have x_la := f1.ref (by decide) tla (by decide)
  have x_pa := f1.ref (by decide) tpa (by decide)
  have x_ri := f1.ref (by decide) tri (by decide)
  have x_ss := f1.ref (by decide) tss (by decide)
  have x_hc := f1.ref (by decide) thc (by decide)
  have x_is := f1.ref (by decide) tis (by decide)
  have x_hu := f1.ref (by decide) thu (by decide)
  have x_de := f1.ref (by decide) tde (by decide)
  have x_us := f1.ref (by decide) tus (by decide)
  have x_mo := f1.ref (by decide) tmo (by decide)
  obtain ⟨ec, em⟩ := m_cnt_eq (z := z) x_mo x_cb x_fi x_la x_pa x_ri x_hc x_is x_hu x_de c_t (I mo 12) (u_ 6)
  have h12 := hI.rd mo 12 tmo rfl (rfl : h_bd 13 12 = (0, 9))
  rw [gsz, ck] at p
  rw [x_mo, x_cb, x_us, ec, em] at q
  rcases p with ⟨p1, p2, p3⟩ | ⟨p1, fl, p2, p3⟩ <;> rcases q with ⟨q1, q2, q3⟩ | ⟨q1, gl, q2, q3⟩
  · exact ⟨by rw [p2, q2], by rw [q3, p3]; exact G0⟩
  · exact absurd q1 p1
  · exact absurd p1 q1
  have h1 := (gpl.2 p_t.toNat (by omega)).1 (by omega)
  have e1 := gpl.cnt (bk := (h_ad z cp 3)) (mo := mo) (by rw [gsz]) j13.2 gdd gsz ck (c := c_t) (y := I mo 12) (by omega) h12 (u_ 6)
  have e2 := gpl.many (bk := (h_ad z cp 3)) (mo := mo) (by rw [gsz]) j13.2 gsz c_t (I mo 12)
  have e4 := gsp c_t.toNat (by omega)
  rw [h1.1, e1, e2, e4] at p2
  have efg : fl = gl := q_flt_eq p2 q2 Iff.rfl Iff.rfl Iff.rfl Iff.rfl
  rcases p3 with ⟨a1, a2, a3⟩ | ⟨a1, a2, a3, a4, a5, a6, a7⟩ <;> rcases q3 with ⟨b1, b2, b3⟩ | ⟨b1, b2, b3, b4, b5, b6, b7⟩
  · exact ⟨by rw [a2, b2], by rw [b3, a3]; exact G0⟩
  · exact absurd (efg.trans b1) a1
  · exact absurd (efg.symm.trans a1) b1
  refine ⟨by rw [a2, b2], ?_⟩
  obtain ⟨b, rb, tb, ab⟩ := gpl.b hR tpl (p := p_t.toNat) (by omega) (by omega)
  rw [ab] at a3 a4 h1
  have f := f1.app f2
  have y7 : ∀ c : Nat, z.ty c = 7 → I2 c = I1 c := fun c tc => f2.cls (by decide) tc (by decide)
  have y_bg := f2.cls (by decide) tbg (by decide)
  have y_su := f2.cls (by decide) tsu (by decide)
  obtain ⟨g0, g1, g2, g3, g4, g5, g6⟩ := a3
  obtain ⟨k0, k1, k2, k3, k4, k5, k6, k7⟩ := b3
  have e7 : I2 b 7 = I b 7 := (congrFun (y7 b tb) 7).trans (a4 b 7 tb (Or.inr rfl))
  have ehu : ∀ k : Nat, I2 (h_ad z mo 22) k = I (h_ad z mo 22) k := fun k => f.at thu rfl
  have ye : (I mo 12 + y - 1).toInt = (I mo 12).toInt + y_t - 1 := xi_sub (x := I mo 12 + y) rfl (xi_add rfl rfl hy (by omega) (by omega)) (by decide) (by omega) (by omega)
  have e13 : I2 mo 13 = I mo 13 := f.at tmo rfl
  unfold h_gb
  rw [e13]
  refine ⟨?_, ?_, ?_, ?_, ?_, ?_, ?_, ?_, ?_, ?_, ?_, ?_⟩
  · exact (f.at tbk rfl).trans gsz
  · exact gpl.upd hU hR tpl (p0 := p_t.toNat) (by omega) (by omega) (by
        rw [ab]
        unfold h_p1
        rw [e7, ehu, y7 b tb, g0, g1, g2, g3, g4, g5, g6, k0, k1, k2, k3, k4, k5, k6, k7]
        refine ⟨rfl, h1.2.1, fun h9 => absurd h9 (by omega), fun _ => ⟨rfl, rfl, rfl, rfl, rfl, ?_⟩, by omega, by omega, by omega, by omega, by omega⟩
        exact ⟨fun h9 h8 => h8.1 h9, fun h9 => Classical.byContradiction (fun h8 => h9 ⟨h8, by decide⟩)⟩) (fun c k tc hc hk => by
        rw [y7 c tc]
        exact a4 c k tc (Or.inl (by rw [← ab]; exact hc))) (fun k hk => by
        obtain ⟨m0, m1, m2, m3, m4, m5, m6, m7⟩ := b4 k hk
        exact ⟨m0, m1.trans (congrFun x_fi k), m2.trans (congrFun x_la k), m3.trans (congrFun x_pa k), m4.trans (congrFun x_ri k), m5.trans (congrFun x_ss k), m6.trans (congrFun x_hc k), m7.trans (congrFun x_is k), ehu k⟩)
  · exact gdd.F hR tdd tde f (fun _ => rfl) (fun _ => rfl)
  · exact (fun c2 hc2 => by
        rw [y_su]
        by_cases hcc : c2 = c_t.toNat
        · rw [hcc]
          have s0 := hI.rd (h_ad z (h_ad z cp 3) 5) c_t.toNat tsu rfl (rfl : h_bd 105 _ = (0, 1))
          rcases a5 with ⟨s1, s2⟩ | ⟨s1, s2⟩ <;> rcases b5 with ⟨s3, s4⟩ | ⟨s3, s4, s5⟩
          · rw [s2, s4]
            exact h_up_eq
          · rw [e1] at s1
            omega
          · rw [s2, s4]
            rw [e1] at s1
            rw [← e4] at s3
            exact xi_of (by rw [show (1 : Int32).toInt = 1 by decide]; omega)
          · rw [s2, s5]
            rw [← e4] at s3
            exact xi_of (by rw [show (0 : Int32).toInt = 0 by decide]; exact s3)
        · rw [b6 c2 hcc]
          rcases a5 with ⟨s1, s2⟩ | ⟨s1, s2⟩
          · rw [s2, h_up_at hcc]
            exact gsp c2 hc2
          · rw [s2]
            exact gsp c2 hc2)
  · exact gtu.F thd tsh tgv tow tgu tgi f (fun _ => rfl) (fun _ => rfl) (fun _ => rfl) (fun _ => rfl) (fun _ => rfl) (fun _ => rfl)
  · exact g_mv.z (by rw [y_bg]; exact a6) (by rw [y_bg]; exact a7) b7
  · exact grk.F trk ttb f (fun _ => rfl) (fun _ => rfl)
  · exact gor.F hR tdr tod thv tdw tdx f (fun _ => rfl) (fun _ => rfl) (fun _ => rfl) (fun _ => rfl) (fun _ => rfl)
  · exact glb.c (fun k _ => f.at tlw rfl) (fun k => f.at thy rfl)
  · exact gtw.F hR two f (fun _ => rfl) (fun k _ => f.at tww rfl)
  · exact gwp.F hR tpl f (fun _ => rfl) (fun k _ => f.at tww rfl)
  · exact (fun p2 hp2 h60 => by
        obtain ⟨m0, m1, m2, m3, m4, m5, m6, m7⟩ := b4 p2 (by omega)
        rw [m1, m2, m3, m4, m5, x_fi, x_la, x_pa, x_ri, x_ss]
        exact gpz p2 hp2 h60)


