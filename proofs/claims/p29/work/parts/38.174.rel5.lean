theorem m_has_eq {I I1 : tI} {md : Nat} (e : I1 md = I md) {n x : Int} : m_has I1 md n x = m_has I md n x := by
  unfold m_has
  rw [e]
set_option maxHeartbeats 4000000 in
theorem g_waive2 {z : tZ} {I I1 I2 : tI} {cp mo : Nat} {p_t : Int} {r1 r2 : Int32} (G : h_gb z I cp mo) (hU : h_U z) (hR : h_R z) (hI : h_I z I) (tcp : z.ty cp = 12) (tmo : z.ty mo = 13) (ck : I (h_ad z cp 3) 3 = I mo 12) (p : (¬ (0 ≤ p_t ∧ p_t < (I (h_ad z cp 3) 2).toInt) ∧ r1.toInt = -2 ∧ I1 = I) ∨ ((0 ≤ p_t ∧ p_t < (I (h_ad z cp 3) 2).toInt) ∧ (I (h_ad z (h_ad z (h_ad z cp 3) 1) p_t.toNat) 0).toInt = -1 ∧ r1.toInt = -4 ∧ I1 = I) ∨ ((0 ≤ p_t ∧ p_t < (I (h_ad z cp 3) 2).toInt) ∧ (I (h_ad z (h_ad z (h_ad z cp 3) 1) p_t.toNat) 0).toInt ≠ -1 ∧ r1 = q_rel (I (h_ad z cp 3) 3).toInt.toNat (q_prt (I (h_ad z (h_ad z (h_ad z cp 3) 1) p_t.toNat) 0) (I (h_ad z (h_ad z (h_ad z cp 3) 1) p_t.toNat) 1) (I (h_ad z (h_ad z (h_ad z cp 3) 1) p_t.toNat) 2) (I (h_ad z (h_ad z (h_ad z cp 3) 1) p_t.toNat) 3) (I (h_ad z (h_ad z (h_ad z cp 3) 1) p_t.toNat) 4) (I (h_ad z (h_ad z (h_ad z cp 3) 1) p_t.toNat) 5) (I (h_ad z (h_ad z (h_ad z cp 3) 1) p_t.toNat) 6)) (10 - (I (h_ad z cp 3) 3).toInt.toNat) ∧ (∀ k : Nat, I1 (h_ad z (h_ad z (h_ad z cp 3) 4) (I (h_ad z (h_ad z (h_ad z cp 3) 1) p_t.toNat) 0).toInt.toNat) k = q_dea (I (h_ad z cp 3) 3).toInt.toNat 10 (q_prt (I (h_ad z (h_ad z (h_ad z cp 3) 1) p_t.toNat) 0) (I (h_ad z (h_ad z (h_ad z cp 3) 1) p_t.toNat) 1) (I (h_ad z (h_ad z (h_ad z cp 3) 1) p_t.toNat) 2) (I (h_ad z (h_ad z (h_ad z cp 3) 1) p_t.toNat) 3) (I (h_ad z (h_ad z (h_ad z cp 3) 1) p_t.toNat) 4) (I (h_ad z (h_ad z (h_ad z cp 3) 1) p_t.toNat) 5) (I (h_ad z (h_ad z (h_ad z cp 3) 1) p_t.toNat) 6)) (I (h_ad z (h_ad z (h_ad z cp 3) 4) (I (h_ad z (h_ad z (h_ad z cp 3) 1) p_t.toNat) 0).toInt.toNat)) k) ∧ (I1 (h_ad z (h_ad z (h_ad z cp 3) 1) p_t.toNat) 0 = -1 ∧ I1 (h_ad z (h_ad z (h_ad z cp 3) 1) p_t.toNat) 5 = 0 ∧ I1 (h_ad z (h_ad z (h_ad z cp 3) 1) p_t.toNat) 6 = 0) ∧ (∀ a k : Nat, z.ty a ≠ 10 → a ≠ (h_ad z (h_ad z (h_ad z cp 3) 4) (I (h_ad z (h_ad z (h_ad z cp 3) 1) p_t.toNat) 0).toInt.toNat) → (a ≠ (h_ad z (h_ad z (h_ad z cp 3) 1) p_t.toNat) ∨ k = 7) → I1 a k = I a k) ∧ I1 (h_ad z cp 5) 3 = 0 ∧ I1 (h_ad z cp 5) 4 = 0)) (f1 : h_F [(154, 999), (7, 0), (7, 1), (7, 2), (7, 3), (7, 4), (7, 5), (7, 6), (10, 3), (10, 4)] z I I1) (q : (¬ (0 ≤ p_t ∧ p_t < (I1 mo 13).toInt) ∧ r2.toInt = -2 ∧ I2 = I1) ∨ ((0 ≤ p_t ∧ p_t < (I1 mo 13).toInt) ∧ (I1 (h_ad z mo 14) p_t.toNat).toInt = -1 ∧ r2.toInt = -4 ∧ I2 = I1) ∨ ((0 ≤ p_t ∧ p_t < (I1 mo 13).toInt) ∧ (I1 (h_ad z mo 14) p_t.toNat).toInt ≠ -1 ∧ r2 = q_rel (I1 mo 12).toInt.toNat (q_pr2 (I1 (h_ad z mo 14) p_t.toNat) (I1 (h_ad z mo 15) p_t.toNat) (I1 (h_ad z mo 16) p_t.toNat) (I1 (h_ad z mo 17) p_t.toNat) (I1 (h_ad z mo 18) p_t.toNat) (I1 (h_ad z mo 19) p_t.toNat) (I1 (h_ad z mo 20) p_t.toNat) (I1 (h_ad z mo 21) p_t.toNat)) (10 - (I1 mo 12).toInt.toNat) ∧ (∀ k : Nat, I2 (h_ad z mo 23) (10 * (I1 (h_ad z mo 14) p_t.toNat).toInt.toNat + k) = q_dea (I1 mo 12).toInt.toNat 10 (q_pr2 (I1 (h_ad z mo 14) p_t.toNat) (I1 (h_ad z mo 15) p_t.toNat) (I1 (h_ad z mo 16) p_t.toNat) (I1 (h_ad z mo 17) p_t.toNat) (I1 (h_ad z mo 18) p_t.toNat) (I1 (h_ad z mo 19) p_t.toNat) (I1 (h_ad z mo 20) p_t.toNat) (I1 (h_ad z mo 21) p_t.toNat)) (fun j : Nat => I1 (h_ad z mo 23) (10 * (I1 (h_ad z mo 14) p_t.toNat).toInt.toNat + j)) k) ∧ (∀ k : Nat, k < 10 * (I1 (h_ad z mo 14) p_t.toNat).toInt.toNat → I2 (h_ad z mo 23) k = I1 (h_ad z mo 23) k) ∧ I2 (h_ad z mo 14) p_t.toNat = -1 ∧ (∀ k : Nat, k ≠ p_t.toNat → I2 (h_ad z mo 14) k = I1 (h_ad z mo 14) k) ∧ I2 mo 33 = 0)) (f2 : h_F [(1323, 999), (1314, 999), (13, 33)] z I1 I2) : r1.toInt = r2.toInt ∧ h_gb z I2 cp mo := by
  obtain ⟨⟨tcp, tmo⟩, ⟨tbk, ttu, tbg, tdt⟩, ⟨tpl, tdd, tsu⟩, ⟨thd, tsh, tgv, two⟩, ⟨tit, tth, tfr, tto, tsg⟩, ⟨trk, tdr, tod, thv⟩, ⟨tlw, thy, ttb, tww⟩, ⟨tcb, tfi, tla, tpa, tri, tss, thc, tis, thu⟩, ⟨tde, tus, tow, tgi, tgu, tdw, tdx⟩, ⟨tmd, tmf, tmt, tmg⟩⟩ := h_tyB.mk hR tcp tmo
  have G0 := G
  obtain ⟨gsz, gpl, gdd, gsp, gtu, gmv, grk, gor, glb, gtw, gwp, gpz⟩ := G
  have j13 := hI.rd mo 13 tmo rfl (rfl : h_bd 13 13 = (0, 60))
  have x_cb := f1.ref (by decide) tcb (by decide)
  have x_fi := f1.ref (by decide) tfi (by decide)
  have x_la := f1.ref (by decide) tla (by decide)
  have x_pa := f1.ref (by decide) tpa (by decide)
  have x_ri := f1.ref (by decide) tri (by decide)
  have x_ss := f1.ref (by decide) tss (by decide)
  have x_hc := f1.ref (by decide) thc (by decide)
  have x_is := f1.ref (by decide) tis (by decide)
  have x_hu := f1.ref (by decide) thu (by decide)
  have x_de := f1.ref (by decide) tde (by decide)
  have x_mo := f1.ref (by decide) tmo (by decide)
  rw [gsz] at p
  rw [x_cb, x_fi, x_la, x_pa, x_ri, x_ss, x_hc, x_is, x_de, x_mo] at q
  rcases p with ⟨p1, p2, p3⟩ | ⟨p1, p2, p3, p4⟩ | ⟨p1, p2, p3, p4, p5, p6, p7, p8⟩
  · rcases q with ⟨q1, q2, q3⟩ | ⟨q1, _⟩ | ⟨q1, _⟩
    · exact ⟨by rw [p2, q2], by rw [q3, p3]; exact G0⟩
    · exact absurd q1 p1
    · exact absurd q1 p1
  · have h1 := (gpl.2 p_t.toNat (by omega)).1 (by omega)
    rcases q with ⟨q1, _⟩ | ⟨q1, q2, q3, q4⟩ | ⟨q1, q2, _⟩
    · exact absurd p1 q1
    · exact ⟨by rw [p3, q3], by rw [q4, p4]; exact G0⟩
    · exact absurd (by rw [← h1.1]; exact p2) q2
  have h1 := (gpl.2 p_t.toNat (by omega)).1 (by omega)
  rcases q with ⟨q1, _⟩ | ⟨q1, q2, _⟩ | ⟨q1, q2, q3, q4, q5, q6, q7, q8⟩
  · exact absurd p1 q1
  · exact absurd (by rw [h1.1]; exact q2) p2
  obtain ⟨b, rb, tb, ab⟩ := gpl.b hR tpl (p := p_t.toNat) (by omega) (by omega)
  rw [ab] at p2 p3 p4 p5 p6 h1
  have hcl := hI.rd b 0 tb rfl (rfl : h_bd 7 0 = (-1, 7))
  have erow := h_dd.row hR tdd (c := (I b 0).toInt.toNat) (by omega)
  rw [ck] at p3 p4
  have eF : q_prt (I b 0) (I b 1) (I b 2) (I b 3) (I b 4) (I b 5) (I b 6) = q_pr2 (I (h_ad z mo 14) p_t.toNat) (I (h_ad z mo 15) p_t.toNat) (I (h_ad z mo 16) p_t.toNat) (I (h_ad z mo 17) p_t.toNat) (I (h_ad z mo 18) p_t.toNat) (I (h_ad z mo 19) p_t.toNat) (I (h_ad z mo 20) p_t.toNat) (I (h_ad z mo 21) p_t.toNat) := by
    funext y
    obtain ⟨c1, c2, c3, c4, c5, c6⟩ := h1.2.2.2.1 p2
    unfold q_prt q_pr2
    have hu9 := h1.und (Int32.ofInt y)
    have hp9 := h1.pay (Int32.ofInt y)
    by_cases hh : q_und (I b 0) (I b 1) (I b 2) (I b 6) (Int32.ofInt y)
    · rw [if_pos hh, if_pos (hu9.mp hh), hp9, c5]
    · rw [if_neg hh, if_neg (fun h9 => hh (hu9.mpr h9))]
  rw [eF] at p3 p4
  rw [← h1.1] at q4 q5
  refine ⟨by rw [p3, q3], ?_⟩
  have f := f1.app f2
  have y7 : ∀ c : Nat, z.ty c = 7 → I2 c = I1 c := fun c tc => f2.cls (by decide) tc (by decide)
  have y154 : ∀ c : Nat, z.ty c = 154 → I2 c = I1 c := fun c tc => f2.cls (by decide) tc (by decide)
  have y_bg := f2.cls (by decide) tbg (by decide)
  have nb_ : ∀ c : Nat, z.ty c = 7 → c ≠ (h_ad z (h_ad z (h_ad z cp 3) 4) (I b 0).toInt.toNat) := fun c tc => h_ne2 tc erow.2 (by decide)
  have e_fi : ∀ k : Nat, I2 (h_ad z mo 15) k = I (h_ad z mo 15) k := fun k => f.at tfi rfl
  have e_la : ∀ k : Nat, I2 (h_ad z mo 16) k = I (h_ad z mo 16) k := fun k => f.at tla rfl
  have e_pa : ∀ k : Nat, I2 (h_ad z mo 17) k = I (h_ad z mo 17) k := fun k => f.at tpa rfl
  have e_ri : ∀ k : Nat, I2 (h_ad z mo 18) k = I (h_ad z mo 18) k := fun k => f.at tri rfl
  have e_ss : ∀ k : Nat, I2 (h_ad z mo 19) k = I (h_ad z mo 19) k := fun k => f.at tss rfl
  have e_hc : ∀ k : Nat, I2 (h_ad z mo 20) k = I (h_ad z mo 20) k := fun k => f.at thc rfl
  have e_is : ∀ k : Nat, I2 (h_ad z mo 21) k = I (h_ad z mo 21) k := fun k => f.at tis rfl
  have e_hu : ∀ k : Nat, I2 (h_ad z mo 22) k = I (h_ad z mo 22) k := fun k => f.at thu rfl
  have e13 : I2 mo 13 = I mo 13 := f.at tmo rfl
  unfold h_gb
  rw [e13]
  refine ⟨?_, ?_, ?_, ?_, ?_, ?_, ?_, ?_, ?_, ?_, ?_, ?_⟩
  · exact (f.at tbk rfl).trans gsz
  · exact gpl.upd hU hR tpl (p0 := p_t.toNat) (by omega) (by omega) (by
        rw [ab]
        unfold h_p1
        rw [y7 b tb, p5.1, p5.2.1, p5.2.2, q6, e_hu, e_fi, e_la, e_pa, e_ri, e_ss, e_hc, e_is, p6 b 7 (by rw [tb]; decide) (nb_ b tb) (Or.inr rfl)]
        exact ⟨rfl, h1.2.1, fun _ => ⟨rfl, rfl⟩, fun h9 => absurd rfl h9, h1.2.2.2.2⟩) (fun c k tc hc hk => by
        rw [y7 c tc]
        exact p6 c k (by rw [tc]; decide) (nb_ c tc) (Or.inl (by rw [← ab]; exact hc))) (fun k hk => ⟨q7 k hk, e_fi k, e_la k, e_pa k, e_ri k, e_ss k, e_hc k, e_is k, e_hu k⟩)
  · exact (fun c y hc hy => by
        have r2 := h_dd.row hR tdd hc
        rw [y154 _ r2.2]
        have g1 := gdd c y hc hy
        by_cases hcc : c = (I b 0).toInt.toNat
        · rw [hcc, p4 y, q4 y]
          unfold q_dea
          rw [hcc] at g1
          rw [g1, ← h1.1]
        · have hne : h_ad z (h_ad z (h_ad z cp 3) 4) c ≠ h_ad z (h_ad z (h_ad z cp 3) 4) (I b 0).toInt.toNat := fun h9 => by
            have r3 := r2.1
            rw [h9] at r3
            exact hcc (hU.2.2 _ c _ _ _ (by rw [tdd]; rfl) (by rw [tdd]; rfl) r3 erow.1).2
          rw [p6 _ y (by rw [r2.2]; decide) hne (Or.inl (h_ne2 r2.2 tb (by decide))), g1]
          by_cases hlt : c < (I b 0).toInt.toNat
          · exact (q5 _ (by omega)).symm
          · have q9 := q4 (10 * (c - (I b 0).toInt.toNat) + y)
            rw [show 10 * (I b 0).toInt.toNat + (10 * (c - (I b 0).toInt.toNat) + y) = 10 * c + y by omega] at q9
            rw [q9]
            unfold q_dea
            rw [if_neg (by omega)]
            show _ = I (h_ad z mo 23) (10 * (I b 0).toInt.toNat + (10 * (c - (I b 0).toInt.toNat) + y))
            rw [show 10 * (I b 0).toInt.toNat + (10 * (c - (I b 0).toInt.toNat) + y) = 10 * c + y by omega])
  · exact gsp.F tsu tus f (fun _ => rfl) (fun _ => rfl)
  · exact gtu.F thd tsh tgv tow tgu tgi f (fun _ => rfl) (fun _ => rfl) (fun _ => rfl) (fun _ => rfl) (fun _ => rfl) (fun _ => rfl)
  · exact g_mv.z (by rw [y_bg]; exact p7) (by rw [y_bg]; exact p8) q8
  · exact grk.F trk ttb f (fun _ => rfl) (fun _ => rfl)
  · exact gor.F hR tdr tod thv tdw tdx f (fun _ => rfl) (fun _ => rfl) (fun _ => rfl) (fun _ => rfl) (fun _ => rfl)
  · exact glb.c (fun k _ => f.at tlw rfl) (fun k => f.at thy rfl)
  · exact gtw.F hR two f (fun _ => rfl) (fun k _ => f.at tww rfl)
  · exact gwp.F hR tpl f (fun _ => rfl) (fun k _ => f.at tww rfl)
  · exact gpz.F tfi tla tpa tri tss f (fun _ => rfl) (fun _ => rfl) (fun _ => rfl) (fun _ => rfl) (fun _ => rfl)

set_option maxHeartbeats 4000000 in
theorem g_give2 {z : tZ} {I I1 I2 : tI} {cp mo : Nat} {p_t c_t : Int} {p0 c : Int32} {r1 r2 : Int32} (G : h_gb z I cp mo) (hU : h_U z) (hR : h_R z) (hI : h_I z I) (tcp : z.ty cp = 12) (tmo : z.ty mo = 13) (ck : I (h_ad z cp 3) 3 = I mo 12) (hp0 : p0.toInt = p_t) (hc0 : c.toInt = c_t) (p : (¬ ((0 ≤ p_t ∧ p_t < (I (h_ad z cp 3) 2).toInt) ∧ 0 ≤ c_t ∧ c_t ≤ 7) ∧ r1.toInt = -2 ∧ I1 = I) ∨ (((0 ≤ p_t ∧ p_t < (I (h_ad z cp 3) 2).toInt) ∧ 0 ≤ c_t ∧ c_t ≤ 7) ∧ ((I (h_ad z (h_ad z (h_ad z cp 3) 1) p_t.toNat) 0).toInt = -1 ∨ (I (h_ad z (h_ad z (h_ad z cp 3) 1) p_t.toNat) 0).toInt = c_t ∨ (c_has I (h_ad z (h_ad z cp 5) 6) (h_ad z (h_ad z cp 5) 5) (I (h_ad z cp 5) 3).toInt (p_t) (0)) ∨ ¬ q_jn (I (h_ad z cp 5) 4) (I (h_ad z (h_ad z (h_ad z cp 3) 1) p_t.toNat) 0) c) ∧ r1.toInt = -4 ∧ I1 = I) ∨ (((0 ≤ p_t ∧ p_t < (I (h_ad z cp 3) 2).toInt) ∧ 0 ≤ c_t ∧ c_t ≤ 7) ∧ ¬ ((I (h_ad z (h_ad z (h_ad z cp 3) 1) p_t.toNat) 0).toInt = -1 ∨ (I (h_ad z (h_ad z (h_ad z cp 3) 1) p_t.toNat) 0).toInt = c_t ∨ (c_has I (h_ad z (h_ad z cp 5) 6) (h_ad z (h_ad z cp 5) 5) (I (h_ad z cp 5) 3).toInt (p_t) (0)) ∨ ¬ q_jn (I (h_ad z cp 5) 4) (I (h_ad z (h_ad z (h_ad z cp 3) 1) p_t.toNat) 0) c) ∧ ((12 ≤ (I (h_ad z cp 5) 3).toInt ∧ r1.toInt = -3 ∧ I1 = I) ∨ ((I (h_ad z cp 5) 3).toInt < 12 ∧ r1.toInt = (I (h_ad z cp 5) 3).toInt + 1 ∧ (I1 (h_ad z cp 5) 3).toInt = (I (h_ad z cp 5) 3).toInt + 1 ∧ I1 (h_ad z cp 5) 4 = I (h_ad z cp 5) 4 ||| (q_sh (I (h_ad z (h_ad z (h_ad z cp 3) 1) p_t.toNat) 0) ||| q_sh (c)) ∧ (∀ j : Nat, I1 (h_ad z (h_ad z cp 5) 6) j = if j = (I (h_ad z cp 5) 3).toInt.toNat then p0 else I (h_ad z (h_ad z cp 5) 6) j) ∧ (∀ j : Nat, I1 (h_ad z (h_ad z cp 5) 5) j = if j = (I (h_ad z cp 5) 3).toInt.toNat then 0 else I (h_ad z (h_ad z cp 5) 5) j) ∧ (∀ j : Nat, I1 (h_ad z (h_ad z cp 5) 7) j = if j = (I (h_ad z cp 5) 3).toInt.toNat then I (h_ad z (h_ad z (h_ad z cp 3) 1) p_t.toNat) 0 else I (h_ad z (h_ad z cp 5) 7) j) ∧ (∀ j : Nat, I1 (h_ad z (h_ad z cp 5) 8) j = if j = (I (h_ad z cp 5) 3).toInt.toNat then c else I (h_ad z (h_ad z cp 5) 8) j) ∧ (∀ j : Nat, I1 (h_ad z (h_ad z cp 5) 9) j = if j = (I (h_ad z cp 5) 3).toInt.toNat then 0 else I (h_ad z (h_ad z cp 5) 9) j))))) (f1 : h_F [(10, 3), (10, 4), (1006, 999), (1005, 999), (1007, 999), (1008, 999), (1009, 999)] z I I1) (q : (¬ ((0 ≤ p_t ∧ p_t < (I1 mo 13).toInt) ∧ 0 ≤ c_t ∧ c_t ≤ 7) ∧ r2.toInt = -2 ∧ I2 = I1) ∨ (((0 ≤ p_t ∧ p_t < (I1 mo 13).toInt) ∧ 0 ≤ c_t ∧ c_t ≤ 7) ∧ ((I1 (h_ad z mo 14) p_t.toNat).toInt = -1 ∨ (I1 (h_ad z mo 14) p_t.toNat).toInt = c_t) ∧ r2.toInt = -4 ∧ I2 = I1) ∨ (((0 ≤ p_t ∧ p_t < (I1 mo 13).toInt) ∧ 0 ≤ c_t ∧ c_t ≤ 7) ∧ ¬ ((I1 (h_ad z mo 14) p_t.toNat).toInt = -1 ∨ (I1 (h_ad z mo 14) p_t.toNat).toInt = c_t) ∧ ((((m_has I1 (h_ad z mo 34) (I1 mo 33).toInt (p_t)) ∨ ¬ q_jn (q_cb (I1 (h_ad z mo 35)) (I1 (h_ad z mo 36)) (I1 mo 33).toInt.toNat) (I1 (h_ad z mo 14) p_t.toNat) c) ∧ r2.toInt = -4 ∧ I2 = I1) ∨ (¬ ((m_has I1 (h_ad z mo 34) (I1 mo 33).toInt (p_t)) ∨ ¬ q_jn (q_cb (I1 (h_ad z mo 35)) (I1 (h_ad z mo 36)) (I1 mo 33).toInt.toNat) (I1 (h_ad z mo 14) p_t.toNat) c) ∧ (((I1 mo 33).toInt = 12 ∧ r2.toInt = -3 ∧ I2 = I1) ∨ ((I1 mo 33).toInt < 12 ∧ r2.toInt = (I1 mo 33).toInt + 1 ∧ (I2 mo 33).toInt = (I1 mo 33).toInt + 1 ∧ (∀ j : Nat, I2 (h_ad z mo 34) j = if j = (I1 mo 33).toInt.toNat then p0 else I1 (h_ad z mo 34) j) ∧ (∀ j : Nat, I2 (h_ad z mo 35) j = if j = (I1 mo 33).toInt.toNat then (I1 (h_ad z mo 14) p_t.toNat) else I1 (h_ad z mo 35) j) ∧ (∀ j : Nat, I2 (h_ad z mo 36) j = if j = (I1 mo 33).toInt.toNat then c else I1 (h_ad z mo 36) j) ∧ (∀ j : Nat, I2 (h_ad z mo 37) j = if j = (I1 mo 33).toInt.toNat then 0 else I1 (h_ad z mo 37) j))))))) (f2 : h_F [(1334, 999), (1335, 999), (1336, 999), (1337, 999), (13, 33)] z I1 I2) : r1.toInt = r2.toInt ∧ h_gb z I2 cp mo := by
  obtain ⟨⟨tcp, tmo⟩, ⟨tbk, ttu, tbg, tdt⟩, ⟨tpl, tdd, tsu⟩, ⟨thd, tsh, tgv, two⟩, ⟨tit, tth, tfr, tto, tsg⟩, ⟨trk, tdr, tod, thv⟩, ⟨tlw, thy, ttb, tww⟩, ⟨tcb, tfi, tla, tpa, tri, tss, thc, tis, thu⟩, ⟨tde, tus, tow, tgi, tgu, tdw, tdx⟩, ⟨tmd, tmf, tmt, tmg⟩⟩ := h_tyB.mk hR tcp tmo
  have G0 := G
  obtain ⟨gsz, gpl, gdd, gsp, gtu, gmv, grk, gor, glb, gtw, gwp, gpz⟩ := G
  have j13 := hI.rd mo 13 tmo rfl (rfl : h_bd 13 13 = (0, 60))
  have x_cb := f1.ref (by decide) tcb (by decide)
  have x_md := f1.ref (by decide) tmd (by decide)
  have x_mf := f1.ref (by decide) tmf (by decide)
  have x_mt := f1.ref (by decide) tmt (by decide)
  have x_mg := f1.ref (by decide) tmg (by decide)
  have x_mo := f1.ref (by decide) tmo (by decide)
  rw [gsz] at p
  rw [m_has_eq x_md, x_cb, x_md, x_mf, x_mt, x_mg, x_mo] at q
  rcases p with ⟨p1, p2, p3⟩ | ⟨p1, pb, p2, p3⟩ | ⟨p1, pb, p4⟩
  · rcases q with ⟨q1, q2, q3⟩ | ⟨q1, _⟩ | ⟨q1, _⟩
    · exact ⟨by rw [p2, q2], by rw [q3, p3]; exact G0⟩
    · exact absurd q1 p1
    · exact absurd q1 p1
  all_goals
    have h1 := (gpl.2 p_t.toNat (by omega)).1 (by omega)
    obtain ⟨b, rb, tb, ab⟩ := gpl.b hR tpl (p := p_t.toNat) (by omega) (by omega)
    have hh := g_has_p gmv (x := p_t) (by omega)
    rw [ab] at h1 pb
    rw [h1.1, gmv.2.1, hh] at pb
  · rcases q with ⟨q1, _⟩ | ⟨q1, qb, q2, q3⟩ | ⟨q1, qb, q4⟩
    · exact absurd p1 q1
    · exact ⟨by rw [p2, q2], by rw [q3, p3]; exact G0⟩
    · rcases q4 with ⟨q5, q6, q7⟩ | ⟨q5, _⟩
      · exact ⟨by rw [p2, q6], by rw [q7, p3]; exact G0⟩
      · exfalso
        rcases pb with pb | pb | pb | pb
        · exact qb (Or.inl pb)
        · exact qb (Or.inr pb)
        · exact q5 (Or.inl pb)
        · exact q5 (Or.inr pb)
  · rcases q with ⟨q1, _⟩ | ⟨q1, qb, _⟩ | ⟨q1, qb, q4⟩
    · exact absurd p1 q1
    · rcases qb with qb | qb
      · exact absurd (Or.inl qb) pb
      · exact absurd (Or.inr (Or.inl qb)) pb
    · rcases q4 with ⟨q5, _⟩ | ⟨q5, q6⟩
      · rcases q5 with q5 | q5
        · exact absurd (Or.inr (Or.inr (Or.inl q5))) pb
        · exact absurd (Or.inr (Or.inr (Or.inr q5))) pb
      · have hm := gmv.1
        rw [hm, ab] at p4
        have h33 := hI.rd mo 33 tmo rfl (rfl : h_bd 13 33 = (0, 12))
        rcases p4 with ⟨a1, a2, a3⟩ | ⟨a1, a2, a3, a4, a5, a6, a7, a8, a9⟩ <;> rcases q6 with ⟨b1, b2, b3⟩ | ⟨b1, b2, b3, b4, b5, b6, b7⟩
        · exact ⟨by rw [a2, b2], by rw [b3, a3]; exact G0⟩
        · omega
        · omega
        refine ⟨by rw [a2, b2], ?_⟩
        have f := f1.app f2
        have hcl := hI.rd b 0 tb rfl (rfl : h_bd 7 0 = (-1, 7))
        have y_bg := f2.cls (by decide) tbg (by decide)
        have y_th := f2.cls (by decide) tth (by decide)
        have y_it := f2.cls (by decide) tit (by decide)
        have y_fr := f2.cls (by decide) tfr (by decide)
        have y_to := f2.cls (by decide) tto (by decide)
        have y_sg := f2.cls (by decide) tsg (by decide)
        have e13 : I2 mo 13 = I mo 13 := f.at tmo rfl
        unfold h_gb
        rw [e13]
        refine ⟨?_, ?_, ?_, ?_, ?_, ?_, ?_, ?_, ?_, ?_, ?_, ?_⟩
        · exact (f.at tbk rfl).trans gsz
        · exact gpl.F hR tpl tcb tfi tla tpa tri tss thc tis thu f (fun k hk => by rcases (show k = 0 ∨ k = 1 ∨ k = 2 ∨ k = 3 ∨ k = 4 ∨ k = 5 ∨ k = 6 ∨ k = 7 by omega) with rfl | rfl | rfl | rfl | rfl | rfl | rfl | rfl <;> rfl) (fun _ => rfl) (fun _ => rfl) (fun _ => rfl) (fun _ => rfl) (fun _ => rfl) (fun _ => rfl) (fun _ => rfl) (fun _ => rfl) (fun _ => rfl)
        · exact gdd.F hR tdd tde f (fun _ => rfl) (fun _ => rfl)
        · exact gsp.F tsu tus f (fun _ => rfl) (fun _ => rfl)
        · exact gtu.F thd tsh tgv tow tgu tgi f (fun _ => rfl) (fun _ => rfl) (fun _ => rfl) (fun _ => rfl) (fun _ => rfl) (fun _ => rfl)
        · exact g_mv.add gmv (n := (I mo 33).toInt) (x := p0) (y := 0) (a := I b 0) (b := c) (k := 0) (w := p0) (kw := 0) rfl h33.1 (by rw [y_bg]; exact a3) b3 (by rw [y_bg]; exact a4) (fun j => by rw [y_th]; exact a5 j) (fun j => by rw [y_it]; exact a6 j) (fun j => by rw [y_fr]; exact a7 j) (fun j => by rw [y_to]; exact a8 j) (fun j => by rw [y_sg]; exact a9 j) b4 (fun j => by rw [b5 j, ← h1.1]) b6 b7 (fun p2 hp2 => by
                    obtain ⟨b2, rb2, tb2, ab2⟩ := gpl.b hR tpl hp2 (by omega)
                    rw [ab2]
                    exact f.at tb2 rfl) (fun k => f.at thd rfl) (by rw [← h1.1] at pb; omega) (by omega) (by rw [← h1.1] at pb; omega) (Or.inl ⟨by decide, rfl, by omega, by omega, by
                    rw [hp0, ab, h1.1]
                    exact fun h9 => pb (Or.inl h9)⟩) (by rw [hp0]; exact fun h9 => q5 (Or.inl h9))
        · exact grk.F trk ttb f (fun _ => rfl) (fun _ => rfl)
        · exact gor.F hR tdr tod thv tdw tdx f (fun _ => rfl) (fun _ => rfl) (fun _ => rfl) (fun _ => rfl) (fun _ => rfl)
        · exact glb.c (fun k _ => f.at tlw rfl) (fun k => f.at thy rfl)
        · exact gtw.F hR two f (fun _ => rfl) (fun k _ => f.at tww rfl)
        · exact gwp.F hR tpl f (fun _ => rfl) (fun k _ => f.at tww rfl)
        · exact gpz.F tfi tla tpa tri tss f (fun _ => rfl) (fun _ => rfl) (fun _ => rfl) (fun _ => rfl) (fun _ => rfl)

set_option maxHeartbeats 4000000 in
theorem g_giveTurn2 {z : tZ} {I I1 I2 : tI} {cp mo : Nat} {o_t y_t c_t k_t : Int} {c k : Int32} {r1 r2 : Int32} (G : h_gb z I cp mo) (hU : h_U z) (hR : h_R z) (hI : h_I z I) (tcp : z.ty cp = 12) (tmo : z.ty mo = 13) (ck : I (h_ad z cp 3) 3 = I mo 12) (hc0 : c.toInt = c_t) (hk0 : k.toInt = k_t) (Rdr : (I (h_ad z (h_ad z cp 7) 2) (I mo 12).toInt.toNat).toInt = (I mo 31).toInt ∧ ∀ k : Nat, (I mo 12).toInt < (k : Int) → I (h_ad z (h_ad z cp 7) 2) k = 0) (p : (¬ (0 ≤ o_t ∧ o_t ≤ 7 ∧ (I (h_ad z cp 3) 3).toInt ≤ y_t ∧ y_t ≤ 9 ∧ 0 ≤ c_t ∧ c_t ≤ 7 ∧ 0 ≤ k_t ∧ k_t ≤ 8) ∧ r1.toInt = -2 ∧ I1 = I) ∨ ((0 ≤ o_t ∧ o_t ≤ 7 ∧ (I (h_ad z cp 3) 3).toInt ≤ y_t ∧ y_t ≤ 9 ∧ 0 ≤ c_t ∧ c_t ≤ 7 ∧ 0 ≤ k_t ∧ k_t ≤ 8) ∧ ((I (h_ad z (h_ad z cp 4) 0) (10 * o_t + y_t).toNat).toInt = c_t ∨ (c_has I (h_ad z (h_ad z cp 5) 6) (h_ad z (h_ad z cp 5) 5) (I (h_ad z cp 5) 3).toInt (10 * o_t + y_t) (1)) ∨ (I (h_ad z (h_ad z cp 7) 2) y_t.toNat).toInt ≠ 0 ∨ (I (h_ad z (h_ad z cp 4) 1) (10 * o_t + y_t).toNat).toInt ≠ 0 ∨ ¬ q_jn (I (h_ad z cp 5) 4) (I (h_ad z (h_ad z cp 4) 0) (10 * o_t + y_t).toNat) c) ∧ r1.toInt = -4 ∧ I1 = I) ∨ ((0 ≤ o_t ∧ o_t ≤ 7 ∧ (I (h_ad z cp 3) 3).toInt ≤ y_t ∧ y_t ≤ 9 ∧ 0 ≤ c_t ∧ c_t ≤ 7 ∧ 0 ≤ k_t ∧ k_t ≤ 8) ∧ ¬ ((I (h_ad z (h_ad z cp 4) 0) (10 * o_t + y_t).toNat).toInt = c_t ∨ (c_has I (h_ad z (h_ad z cp 5) 6) (h_ad z (h_ad z cp 5) 5) (I (h_ad z cp 5) 3).toInt (10 * o_t + y_t) (1)) ∨ (I (h_ad z (h_ad z cp 7) 2) y_t.toNat).toInt ≠ 0 ∨ (I (h_ad z (h_ad z cp 4) 1) (10 * o_t + y_t).toNat).toInt ≠ 0 ∨ ¬ q_jn (I (h_ad z cp 5) 4) (I (h_ad z (h_ad z cp 4) 0) (10 * o_t + y_t).toNat) c) ∧ ∃ w : Int32, w.toInt = 10 * o_t + y_t ∧ ((12 ≤ (I (h_ad z cp 5) 3).toInt ∧ r1.toInt = -3 ∧ I1 = I) ∨ ((I (h_ad z cp 5) 3).toInt < 12 ∧ r1.toInt = (I (h_ad z cp 5) 3).toInt + 1 ∧ (I1 (h_ad z cp 5) 3).toInt = (I (h_ad z cp 5) 3).toInt + 1 ∧ I1 (h_ad z cp 5) 4 = I (h_ad z cp 5) 4 ||| (q_sh ((I (h_ad z (h_ad z cp 4) 0) (10 * o_t + y_t).toNat)) ||| q_sh (c)) ∧ (∀ j : Nat, I1 (h_ad z (h_ad z cp 5) 6) j = if j = (I (h_ad z cp 5) 3).toInt.toNat then w else I (h_ad z (h_ad z cp 5) 6) j) ∧ (∀ j : Nat, I1 (h_ad z (h_ad z cp 5) 5) j = if j = (I (h_ad z cp 5) 3).toInt.toNat then 1 else I (h_ad z (h_ad z cp 5) 5) j) ∧ (∀ j : Nat, I1 (h_ad z (h_ad z cp 5) 7) j = if j = (I (h_ad z cp 5) 3).toInt.toNat then (I (h_ad z (h_ad z cp 4) 0) (10 * o_t + y_t).toNat) else I (h_ad z (h_ad z cp 5) 7) j) ∧ (∀ j : Nat, I1 (h_ad z (h_ad z cp 5) 8) j = if j = (I (h_ad z cp 5) 3).toInt.toNat then c else I (h_ad z (h_ad z cp 5) 8) j) ∧ (∀ j : Nat, I1 (h_ad z (h_ad z cp 5) 9) j = if j = (I (h_ad z cp 5) 3).toInt.toNat then k else I (h_ad z (h_ad z cp 5) 9) j))))) (f1 : h_F [(10, 3), (10, 4), (1006, 999), (1005, 999), (1007, 999), (1008, 999), (1009, 999)] z I I1) (q : (¬ (0 ≤ o_t ∧ o_t ≤ 7 ∧ (I1 mo 12).toInt ≤ y_t ∧ y_t ≤ 9 ∧ 0 ≤ c_t ∧ c_t ≤ 7 ∧ 0 ≤ k_t ∧ k_t ≤ 8) ∧ r2.toInt = -2 ∧ I2 = I1) ∨ ((0 ≤ o_t ∧ o_t ≤ 7 ∧ (I1 mo 12).toInt ≤ y_t ∧ y_t ≤ 9 ∧ 0 ≤ c_t ∧ c_t ≤ 7 ∧ 0 ≤ k_t ∧ k_t ≤ 8) ∧ ((I1 (h_ad z mo 25) (10 * o_t + y_t).toNat).toInt = c_t ∨ (y_t = (I1 mo 12).toInt ∧ (I1 mo 31).toInt ≠ 0) ∨ 0 < (I1 (h_ad z mo 27) (10 * o_t + y_t).toNat).toInt) ∧ r2.toInt = -4 ∧ I2 = I1) ∨ ((0 ≤ o_t ∧ o_t ≤ 7 ∧ (I1 mo 12).toInt ≤ y_t ∧ y_t ≤ 9 ∧ 0 ≤ c_t ∧ c_t ≤ 7 ∧ 0 ≤ k_t ∧ k_t ≤ 8) ∧ ¬ ((I1 (h_ad z mo 25) (10 * o_t + y_t).toNat).toInt = c_t ∨ (y_t = (I1 mo 12).toInt ∧ (I1 mo 31).toInt ≠ 0) ∨ 0 < (I1 (h_ad z mo 27) (10 * o_t + y_t).toNat).toInt) ∧ ∃ w : Int32, w.toInt = 60 + 10 * o_t + y_t ∧ ((((m_has I1 (h_ad z mo 34) (I1 mo 33).toInt (60 + 10 * o_t + y_t)) ∨ ¬ q_jn (q_cb (I1 (h_ad z mo 35)) (I1 (h_ad z mo 36)) (I1 mo 33).toInt.toNat) (I1 (h_ad z mo 25) (10 * o_t + y_t).toNat) c) ∧ r2.toInt = -4 ∧ I2 = I1) ∨ (¬ ((m_has I1 (h_ad z mo 34) (I1 mo 33).toInt (60 + 10 * o_t + y_t)) ∨ ¬ q_jn (q_cb (I1 (h_ad z mo 35)) (I1 (h_ad z mo 36)) (I1 mo 33).toInt.toNat) (I1 (h_ad z mo 25) (10 * o_t + y_t).toNat) c) ∧ (((I1 mo 33).toInt = 12 ∧ r2.toInt = -3 ∧ I2 = I1) ∨ ((I1 mo 33).toInt < 12 ∧ r2.toInt = (I1 mo 33).toInt + 1 ∧ (I2 mo 33).toInt = (I1 mo 33).toInt + 1 ∧ (∀ j : Nat, I2 (h_ad z mo 34) j = if j = (I1 mo 33).toInt.toNat then w else I1 (h_ad z mo 34) j) ∧ (∀ j : Nat, I2 (h_ad z mo 35) j = if j = (I1 mo 33).toInt.toNat then (I1 (h_ad z mo 25) (10 * o_t + y_t).toNat) else I1 (h_ad z mo 35) j) ∧ (∀ j : Nat, I2 (h_ad z mo 36) j = if j = (I1 mo 33).toInt.toNat then c else I1 (h_ad z mo 36) j) ∧ (∀ j : Nat, I2 (h_ad z mo 37) j = if j = (I1 mo 33).toInt.toNat then k else I1 (h_ad z mo 37) j))))))) (f2 : h_F [(1334, 999), (1335, 999), (1336, 999), (1337, 999), (13, 33)] z I1 I2) : r1.toInt = r2.toInt ∧ h_gb z I2 cp mo := by
  obtain ⟨⟨tcp, tmo⟩, ⟨tbk, ttu, tbg, tdt⟩, ⟨tpl, tdd, tsu⟩, ⟨thd, tsh, tgv, two⟩, ⟨tit, tth, tfr, tto, tsg⟩, ⟨trk, tdr, tod, thv⟩, ⟨tlw, thy, ttb, tww⟩, ⟨tcb, tfi, tla, tpa, tri, tss, thc, tis, thu⟩, ⟨tde, tus, tow, tgi, tgu, tdw, tdx⟩, ⟨tmd, tmf, tmt, tmg⟩⟩ := h_tyB.mk hR tcp tmo
  have G0 := G
  obtain ⟨gsz, gpl, gdd, gsp, gtu, gmv, grk, gor, glb, gtw, gwp, gpz⟩ := G
  have j13 := hI.rd mo 13 tmo rfl (rfl : h_bd 13 13 = (0, 60))
  have x_ow := f1.ref (by decide) tow (by decide)
  have x_gu := f1.ref (by decide) tgu (by decide)
  have x_md := f1.ref (by decide) tmd (by decide)
  have x_mf := f1.ref (by decide) tmf (by decide)
  have x_mt := f1.ref (by decide) tmt (by decide)
  have x_mg := f1.ref (by decide) tmg (by decide)
  have x_mo := f1.ref (by decide) tmo (by decide)
  have hb8 : ∀ i : Nat, 0 ≤ (I (h_ad z (h_ad z cp 5) 5) i).toInt ∧ (I (h_ad z (h_ad z cp 5) 5) i).toInt ≤ 1 := fun i => hI.rd _ i tit rfl (rfl : h_bd 1005 _ = (0, 1))
  have h12 := hI.rd mo 12 tmo rfl (rfl : h_bd 13 12 = (0, 9))
  rw [ck] at p
  rw [m_has_eq x_md, x_ow, x_gu, x_md, x_mf, x_mt, x_mg, x_mo] at q
  rcases p with ⟨p1, p2, p3⟩ | ⟨p1, pb, p2, p3⟩ | ⟨p1, pb, p4⟩
  · rcases q with ⟨q1, q2, q3⟩ | ⟨q1, _⟩ | ⟨q1, _⟩
    · exact ⟨by rw [p2, q2], by rw [q3, p3]; exact G0⟩
    · exact absurd q1 p1
    · exact absurd q1 p1
  all_goals
    obtain ⟨e1, e2, e3, e4, e5⟩ := gtu (10 * o_t + y_t).toNat (by omega)
    have hh := g_has_t gmv j13.2 hb8 (x := 10 * o_t + y_t) (by omega)
    rw [show 60 + (10 * o_t + y_t) = 60 + 10 * o_t + y_t by omega] at hh
    have hdr : (I (h_ad z (h_ad z cp 7) 2) y_t.toNat).toInt ≠ 0 ↔ (y_t = (I mo 12).toInt ∧ (I mo 31).toInt ≠ 0) := by
      by_cases hy : y_t = (I mo 12).toInt
      · rw [hy, Rdr.1]
        exact ⟨fun h9 => ⟨rfl, h9⟩, fun h9 => h9.2⟩
      · rw [Rdr.2 y_t.toNat (by omega)]
        exact ⟨fun h9 => absurd (by decide) h9, fun h9 => absurd h9.1 hy⟩
    have hsh : (I (h_ad z (h_ad z cp 4) 1) (10 * o_t + y_t).toNat).toInt ≠ 0 ↔ 0 < (I (h_ad z mo 27) (10 * o_t + y_t).toNat).toInt := by
      rw [e2] at e4 ⊢
      omega
    rw [e1, gmv.2.1, hh, hdr, hsh] at pb
  · rcases q with ⟨q1, _⟩ | ⟨q1, qb, q2, q3⟩ | ⟨q1, qb, w, hw, q4⟩
    · exact absurd p1 q1
    · exact ⟨by rw [p2, q2], by rw [q3, p3]; exact G0⟩
    · rcases q4 with ⟨q5, q6, q7⟩ | ⟨q5, _⟩
      · exact ⟨by rw [p2, q6], by rw [q7, p3]; exact G0⟩
      · exfalso
        rcases pb with pb | pb | pb | pb | pb
        · exact qb (Or.inl pb)
        · exact q5 (Or.inl pb)
        · exact qb (Or.inr (Or.inl pb))
        · exact qb (Or.inr (Or.inr pb))
        · exact q5 (Or.inr pb)
  · rcases q with ⟨q1, _⟩ | ⟨q1, qb, _⟩ | ⟨q1, qb, w, hw, q4⟩
    · exact absurd p1 q1
    · rcases qb with qb | qb | qb
      · exact absurd (Or.inl qb) pb
      · exact absurd (Or.inr (Or.inr (Or.inl qb))) pb
      · exact absurd (Or.inr (Or.inr (Or.inr (Or.inl qb)))) pb
    · rcases q4 with ⟨q5, _⟩ | ⟨q5, q6⟩
      · rcases q5 with q5 | q5
        · exact absurd (Or.inr (Or.inl q5)) pb
        · exact absurd (Or.inr (Or.inr (Or.inr (Or.inr q5)))) pb
      · have hm := gmv.1
        obtain ⟨v, hv, p4⟩ := p4
        rw [hm] at p4
        have h33 := hI.rd mo 33 tmo rfl (rfl : h_bd 13 33 = (0, 12))
        rcases p4 with ⟨a1, a2, a3⟩ | ⟨a1, a2, a3, a4, a5, a6, a7, a8, a9⟩ <;> rcases q6 with ⟨b1, b2, b3⟩ | ⟨b1, b2, b3, b4, b5, b6, b7⟩
        · exact ⟨by rw [a2, b2], by rw [b3, a3]; exact G0⟩
        · omega
        · omega
        refine ⟨by rw [a2, b2], ?_⟩
        have f := f1.app f2
        have y_bg := f2.cls (by decide) tbg (by decide)
        have y_th := f2.cls (by decide) tth (by decide)
        have y_it := f2.cls (by decide) tit (by decide)
        have y_fr := f2.cls (by decide) tfr (by decide)
        have y_to := f2.cls (by decide) tto (by decide)
        have y_sg := f2.cls (by decide) tsg (by decide)
        have e13 : I2 mo 13 = I mo 13 := f.at tmo rfl
        unfold h_gb
        rw [e13]
        refine ⟨?_, ?_, ?_, ?_, ?_, ?_, ?_, ?_, ?_, ?_, ?_, ?_⟩
        · exact (f.at tbk rfl).trans gsz
        · exact gpl.F hR tpl tcb tfi tla tpa tri tss thc tis thu f (fun k hk => by rcases (show k = 0 ∨ k = 1 ∨ k = 2 ∨ k = 3 ∨ k = 4 ∨ k = 5 ∨ k = 6 ∨ k = 7 by omega) with rfl | rfl | rfl | rfl | rfl | rfl | rfl | rfl <;> rfl) (fun _ => rfl) (fun _ => rfl) (fun _ => rfl) (fun _ => rfl) (fun _ => rfl) (fun _ => rfl) (fun _ => rfl) (fun _ => rfl) (fun _ => rfl)
        · exact gdd.F hR tdd tde f (fun _ => rfl) (fun _ => rfl)
        · exact gsp.F tsu tus f (fun _ => rfl) (fun _ => rfl)
        · exact gtu.F thd tsh tgv tow tgu tgi f (fun _ => rfl) (fun _ => rfl) (fun _ => rfl) (fun _ => rfl) (fun _ => rfl) (fun _ => rfl)
        · exact g_mv.add gmv (n := (I mo 33).toInt) (x := v) (y := 1) (a := I (h_ad z (h_ad z cp 4) 0) (10 * o_t + y_t).toNat) (b := c) (k := k) (w := w) (kw := k) rfl h33.1 (by rw [y_bg]; exact a3) b3 (by rw [y_bg]; exact a4) (fun j => by rw [y_th]; exact a5 j) (fun j => by rw [y_it]; exact a6 j) (fun j => by rw [y_fr]; exact a7 j) (fun j => by rw [y_to]; exact a8 j) (fun j => by rw [y_sg]; exact a9 j) b4 (fun j => by rw [b5 j, e1]) b6 b7 (fun p2 hp2 => by
                    obtain ⟨b2, rb2, tb2, ab2⟩ := gpl.b hR tpl hp2 (by omega)
                    rw [ab2]
                    exact f.at tb2 rfl) (fun k => f.at thd rfl) e3 (by omega) (fun h9 => pb (Or.inl (by rw [← e1]; omega))) (Or.inr ⟨by decide, by omega, by omega, by omega, rfl, by omega, by rw [hv]⟩) (by rw [hw]; exact fun h9 => q5 (Or.inl h9))
        · exact grk.F trk ttb f (fun _ => rfl) (fun _ => rfl)
        · exact gor.F hR tdr tod thv tdw tdx f (fun _ => rfl) (fun _ => rfl) (fun _ => rfl) (fun _ => rfl) (fun _ => rfl)
        · exact glb.c (fun k _ => f.at tlw rfl) (fun k => f.at thy rfl)
        · exact gtw.F hR two f (fun _ => rfl) (fun k _ => f.at tww rfl)
        · exact gwp.F hR tpl f (fun _ => rfl) (fun k _ => f.at tww rfl)
        · exact gpz.F tfi tla tpa tri tss f (fun _ => rfl) (fun _ => rfl) (fun _ => rfl) (fun _ => rfl) (fun _ => rfl)


