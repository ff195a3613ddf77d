/-! cells are made: the relation over the new table -/
theorem h_X.ad {M : List (Nat × Nat)} {MR : List Nat} {z z1 : tZ} {I I1 : tI} {L L1 : tL} (x : h_X M MR none z I L z1 I1 L1) (hR : h_R z) {a k t t' : Nat} (ha : z.ty a = t) (ht : t ≠ 0) (hm : MR.contains t = false) (hb : h_rs t k = some (t', false)) (hk : k < h_len (h_so t)) : h_ad z1 a k = h_ad z a k := by
  have r := (hR.ad ha hb hk).1
  have r1 := x.R ha ht (fun q => by cases q) hm r
  exact h_ad.at r1
theorem h_dd.X {M : List (Nat × Nat)} {MR : List Nat} {z z1 : tZ} {I I1 : tI} {L L1 : tL} {dd de : Nat} (h : h_dd z I dd de) (hR : h_R z) (td : z.ty dd = 104) (te : z.ty de = 1323) (x : h_X M MR none z I L z1 I1 L1) (hm : MR.contains 104 = false) (m1 : ∀ k, h_m M 154 k = false) (m2 : ∀ k, h_m M 1323 k = false) : h_dd z1 I1 dd de := by
  intro c y hc hy
  rw [x.ad hR td (by decide) hm (rfl : h_rs 104 c = some (154, false)) (by rw [so_104]; exact hc), x.I (h_dd.row hR td hc).2 (by decide) (fun q => by cases q) (m1 y), x.I te (by decide) (fun q => by cases q) (m2 _)]
  exact h c y hc hy
theorem g_or.X {M : List (Nat × Nat)} {MR : List Nat} {z z1 : tZ} {I I1 : tI} {L L1 : tL} {dr od hv dw dx : Nat} (h : g_or z I dr od hv dw dx) (hR : h_R z) (t1 : z.ty dr = 302) (t2 : z.ty od = 303) (t3 : z.ty hv = 304) (t4 : z.ty dw = 1328) (t5 : z.ty dx = 1329) (x : h_X M MR none z I L z1 I1 L1) (r1 : MR.contains 303 = false) (r2 : MR.contains 304 = false) (m1 : ∀ k, h_m M 302 k = false) (m2 : ∀ k, h_m M 353 k = false) (m3 : ∀ k, h_m M 354 k = false) (m4 : ∀ k, h_m M 1328 k = false) (m5 : ∀ k, h_m M 1329 k = false) : g_or z1 I1 dr od hv dw dx := by
  have no : ∀ b : Nat, some b ≠ none := fun b q => by cases q
  intro y hy
  have a := (hR.ad t2 (rfl : h_rs 303 y = some (353, false)) (by rw [so_303]; exact hy)).2
  have b := (hR.ad t3 (rfl : h_rs 304 y = some (354, false)) (by rw [so_304]; exact hy)).2
  rw [x.I t1 (by decide) (no _) (m1 y)]
  rcases h y hy with ⟨c1, c2⟩ | ⟨c1, c2⟩
  · exact Or.inl ⟨c1, fun i hi => by rw [x.I t4 (by decide) (no _) (m4 _)]; exact c2 i hi⟩
  · refine Or.inr ⟨c1, fun i hi => ?_⟩
    rw [x.ad hR t2 (by decide) r1 (rfl : h_rs 303 y = some (353, false)) (by rw [so_303]; exact hy), x.ad hR t3 (by decide) r2 (rfl : h_rs 304 y = some (354, false)) (by rw [so_304]; exact hy), x.I t4 (by decide) (no _) (m4 _), x.I t5 (by decide) (no _) (m5 _), x.I a (by decide) (no _) (m2 _), x.I b (by decide) (no _) (m3 _)]
    exact c2 i hi
theorem h_plr.X {M : List (Nat × Nat)} {MR : List Nat} {z z1 : tZ} {I I1 : tI} {L L1 : tL} {pl cb fi la pa ri su hc it hu : Nat} {nb : Int} (h : h_plr z I pl cb fi la pa ri su hc it hu nb) (hR : h_R z) (tp : z.ty pl = 101) (x : h_X M MR none z I L z1 I1 L1) (hm : MR.contains 101 = false) (h7 : ∀ k : Nat, k < 8 → h_m M 7 k = false) (e : ∀ k : Nat, I1 cb k = I cb k ∧ I1 fi k = I fi k ∧ I1 la k = I la k ∧ I1 pa k = I pa k ∧ I1 ri k = I ri k ∧ I1 su k = I su k ∧ I1 hc k = I hc k ∧ I1 it k = I it k ∧ I1 hu k = I hu k) : h_plr z1 I1 pl cb fi la pa ri su hc it hu nb := by
  have no : ∀ b : Nat, some b ≠ none := fun b q => by cases q
  have eR : z1.R pl = z.R pl := (x pl (by rw [tp]; decide) (no _)).2.1 (by rw [tp]; exact hm)
  refine ⟨fun p hp => by rw [eR]; exact h.1 p hp, fun p hp60 => ⟨fun hpn => ?_, fun hpn => ?_⟩⟩
  · obtain ⟨b, rb, tb, ab⟩ := h.b hR tp hpn hp60
    obtain ⟨a1, a2, a3, a4, a5, a6, a7, a8, a9⟩ := e p
    have h1 := (h.2 p hp60).1 hpn
    rw [ab] at h1
    rw [show h_ad z1 pl p = b from h_ad.at (by rw [eR]; exact rb)]
    exact h1.c (fun k hk => x.I tb (by decide) (no _) (h7 k hk)) a1 a2 a3 a4 a5 a6 a7 a8 a9
  · rw [(e p).2.2.2.2.2.2.2.2]
    exact (h.2 p hp60).2 hpn
theorem h_gb.X {M : List (Nat × Nat)} {MR : List Nat} {z z1 : tZ} {I I1 : tI} {L L1 : tL} {cp mo : Nat} (G : h_gb z I cp mo) (hR : h_R z) (tcp : z.ty cp = 12) (tmo : z.ty mo = 13) (x : h_X M MR none z I L z1 I1 L1) (hM : M.all g_av = true) (hMR : ∀ t ∈ ([1, 3, 10, 11, 12, 13, 7, 101, 104, 303, 304, 1103] : List Nat), MR.contains t = false) (h60 : (I mo 13).toInt ≤ 60) : h_gb z1 I1 cp mo := by
  have no : ∀ b : Nat, some b ≠ none := fun b q => by cases q
  obtain ⟨⟨tcp, tmo⟩, ⟨tbk, ttu, tbg, tdt⟩, ⟨tpl, tdd, tsu⟩, ⟨thd, tsh, tgv, two⟩, ⟨tit, tth, tfr, tto, tsg⟩, ⟨trk, tdr, tod, thv⟩, ⟨tlw, thy, ttb, tww⟩, ⟨tcb, tfi, tla, tpa, tri, tss, thc, tis, thu⟩, ⟨tde, tus, tow, tgi, tgu, tdw, tdx⟩, ⟨tmd, tmf, tmt, tmg⟩⟩ := h_tyB.mk hR tcp tmo
  obtain ⟨a1, a2, a3, a4, a5, a6, a7, a8, a9, a10, a11, a12⟩ := G
  have o_bk : h_ad z1 cp 3 = (h_ad z cp 3) := x.ad hR tcp (by decide) (hMR 12 (by decide)) (rfl : h_rs 12 3 = some (_, false)) (by decide)
  have o_tu : h_ad z1 cp 4 = (h_ad z cp 4) := x.ad hR tcp (by decide) (hMR 12 (by decide)) (rfl : h_rs 12 4 = some (_, false)) (by decide)
  have o_bg : h_ad z1 cp 5 = (h_ad z cp 5) := x.ad hR tcp (by decide) (hMR 12 (by decide)) (rfl : h_rs 12 5 = some (_, false)) (by decide)
  have o_dt : h_ad z1 cp 7 = (h_ad z cp 7) := x.ad hR tcp (by decide) (hMR 12 (by decide)) (rfl : h_rs 12 7 = some (_, false)) (by decide)
  have o_pl : h_ad z1 (h_ad z cp 3) 1 = (h_ad z (h_ad z cp 3) 1) := x.ad hR tbk (by decide) (hMR 1 (by decide)) (rfl : h_rs 1 1 = some (_, false)) (by decide)
  have o_dd : h_ad z1 (h_ad z cp 3) 4 = (h_ad z (h_ad z cp 3) 4) := x.ad hR tbk (by decide) (hMR 1 (by decide)) (rfl : h_rs 1 4 = some (_, false)) (by decide)
  have o_su : h_ad z1 (h_ad z cp 3) 5 = (h_ad z (h_ad z cp 3) 5) := x.ad hR tbk (by decide) (hMR 1 (by decide)) (rfl : h_rs 1 5 = some (_, false)) (by decide)
  have o_hd : h_ad z1 (h_ad z cp 4) 0 = (h_ad z (h_ad z cp 4) 0) := x.ad hR ttu (by decide) (hMR 11 (by decide)) (rfl : h_rs 11 0 = some (_, false)) (by decide)
  have o_sh : h_ad z1 (h_ad z cp 4) 1 = (h_ad z (h_ad z cp 4) 1) := x.ad hR ttu (by decide) (hMR 11 (by decide)) (rfl : h_rs 11 1 = some (_, false)) (by decide)
  have o_gv : h_ad z1 (h_ad z cp 4) 2 = (h_ad z (h_ad z cp 4) 2) := x.ad hR ttu (by decide) (hMR 11 (by decide)) (rfl : h_rs 11 2 = some (_, false)) (by decide)
  have o_wo : h_ad z1 (h_ad z cp 4) 3 = (h_ad z (h_ad z cp 4) 3) := x.ad hR ttu (by decide) (hMR 11 (by decide)) (rfl : h_rs 11 3 = some (_, false)) (by decide)
  have o_it : h_ad z1 (h_ad z cp 5) 5 = (h_ad z (h_ad z cp 5) 5) := x.ad hR tbg (by decide) (hMR 10 (by decide)) (rfl : h_rs 10 5 = some (_, false)) (by decide)
  have o_th : h_ad z1 (h_ad z cp 5) 6 = (h_ad z (h_ad z cp 5) 6) := x.ad hR tbg (by decide) (hMR 10 (by decide)) (rfl : h_rs 10 6 = some (_, false)) (by decide)
  have o_fr : h_ad z1 (h_ad z cp 5) 7 = (h_ad z (h_ad z cp 5) 7) := x.ad hR tbg (by decide) (hMR 10 (by decide)) (rfl : h_rs 10 7 = some (_, false)) (by decide)
  have o_to : h_ad z1 (h_ad z cp 5) 8 = (h_ad z (h_ad z cp 5) 8) := x.ad hR tbg (by decide) (hMR 10 (by decide)) (rfl : h_rs 10 8 = some (_, false)) (by decide)
  have o_sg : h_ad z1 (h_ad z cp 5) 9 = (h_ad z (h_ad z cp 5) 9) := x.ad hR tbg (by decide) (hMR 10 (by decide)) (rfl : h_rs 10 9 = some (_, false)) (by decide)
  have o_rk : h_ad z1 (h_ad z cp 7) 0 = (h_ad z (h_ad z cp 7) 0) := x.ad hR tdt (by decide) (hMR 3 (by decide)) (rfl : h_rs 3 0 = some (_, false)) (by decide)
  have o_dr : h_ad z1 (h_ad z cp 7) 2 = (h_ad z (h_ad z cp 7) 2) := x.ad hR tdt (by decide) (hMR 3 (by decide)) (rfl : h_rs 3 2 = some (_, false)) (by decide)
  have o_od : h_ad z1 (h_ad z cp 7) 3 = (h_ad z (h_ad z cp 7) 3) := x.ad hR tdt (by decide) (hMR 3 (by decide)) (rfl : h_rs 3 3 = some (_, false)) (by decide)
  have o_hv : h_ad z1 (h_ad z cp 7) 4 = (h_ad z (h_ad z cp 7) 4) := x.ad hR tdt (by decide) (hMR 3 (by decide)) (rfl : h_rs 3 4 = some (_, false)) (by decide)
  have o_lw : h_ad z1 mo 10 = (h_ad z mo 10) := x.ad hR tmo (by decide) (hMR 13 (by decide)) (rfl : h_rs 13 10 = some (_, false)) (by decide)
  have o_hy : h_ad z1 mo 11 = (h_ad z mo 11) := x.ad hR tmo (by decide) (hMR 13 (by decide)) (rfl : h_rs 13 11 = some (_, false)) (by decide)
  have o_tb : h_ad z1 mo 32 = (h_ad z mo 32) := x.ad hR tmo (by decide) (hMR 13 (by decide)) (rfl : h_rs 13 32 = some (_, false)) (by decide)
  have o_ww : h_ad z1 mo 38 = (h_ad z mo 38) := x.ad hR tmo (by decide) (hMR 13 (by decide)) (rfl : h_rs 13 38 = some (_, false)) (by decide)
  have o_cb : h_ad z1 mo 14 = (h_ad z mo 14) := x.ad hR tmo (by decide) (hMR 13 (by decide)) (rfl : h_rs 13 14 = some (_, false)) (by decide)
  have o_fi : h_ad z1 mo 15 = (h_ad z mo 15) := x.ad hR tmo (by decide) (hMR 13 (by decide)) (rfl : h_rs 13 15 = some (_, false)) (by decide)
  have o_la : h_ad z1 mo 16 = (h_ad z mo 16) := x.ad hR tmo (by decide) (hMR 13 (by decide)) (rfl : h_rs 13 16 = some (_, false)) (by decide)
  have o_pa : h_ad z1 mo 17 = (h_ad z mo 17) := x.ad hR tmo (by decide) (hMR 13 (by decide)) (rfl : h_rs 13 17 = some (_, false)) (by decide)
  have o_ri : h_ad z1 mo 18 = (h_ad z mo 18) := x.ad hR tmo (by decide) (hMR 13 (by decide)) (rfl : h_rs 13 18 = some (_, false)) (by decide)
  have o_ss : h_ad z1 mo 19 = (h_ad z mo 19) := x.ad hR tmo (by decide) (hMR 13 (by decide)) (rfl : h_rs 13 19 = some (_, false)) (by decide)
  have o_hc : h_ad z1 mo 20 = (h_ad z mo 20) := x.ad hR tmo (by decide) (hMR 13 (by decide)) (rfl : h_rs 13 20 = some (_, false)) (by decide)
  have o_is : h_ad z1 mo 21 = (h_ad z mo 21) := x.ad hR tmo (by decide) (hMR 13 (by decide)) (rfl : h_rs 13 21 = some (_, false)) (by decide)
  have o_hu : h_ad z1 mo 22 = (h_ad z mo 22) := x.ad hR tmo (by decide) (hMR 13 (by decide)) (rfl : h_rs 13 22 = some (_, false)) (by decide)
  have o_de : h_ad z1 mo 23 = (h_ad z mo 23) := x.ad hR tmo (by decide) (hMR 13 (by decide)) (rfl : h_rs 13 23 = some (_, false)) (by decide)
  have o_us : h_ad z1 mo 24 = (h_ad z mo 24) := x.ad hR tmo (by decide) (hMR 13 (by decide)) (rfl : h_rs 13 24 = some (_, false)) (by decide)
  have o_ow : h_ad z1 mo 25 = (h_ad z mo 25) := x.ad hR tmo (by decide) (hMR 13 (by decide)) (rfl : h_rs 13 25 = some (_, false)) (by decide)
  have o_gi : h_ad z1 mo 26 = (h_ad z mo 26) := x.ad hR tmo (by decide) (hMR 13 (by decide)) (rfl : h_rs 13 26 = some (_, false)) (by decide)
  have o_gu : h_ad z1 mo 27 = (h_ad z mo 27) := x.ad hR tmo (by decide) (hMR 13 (by decide)) (rfl : h_rs 13 27 = some (_, false)) (by decide)
  have o_dw : h_ad z1 mo 28 = (h_ad z mo 28) := x.ad hR tmo (by decide) (hMR 13 (by decide)) (rfl : h_rs 13 28 = some (_, false)) (by decide)
  have o_dx : h_ad z1 mo 29 = (h_ad z mo 29) := x.ad hR tmo (by decide) (hMR 13 (by decide)) (rfl : h_rs 13 29 = some (_, false)) (by decide)
  have o_md : h_ad z1 mo 34 = (h_ad z mo 34) := x.ad hR tmo (by decide) (hMR 13 (by decide)) (rfl : h_rs 13 34 = some (_, false)) (by decide)
  have o_mf : h_ad z1 mo 35 = (h_ad z mo 35) := x.ad hR tmo (by decide) (hMR 13 (by decide)) (rfl : h_rs 13 35 = some (_, false)) (by decide)
  have o_mt : h_ad z1 mo 36 = (h_ad z mo 36) := x.ad hR tmo (by decide) (hMR 13 (by decide)) (rfl : h_rs 13 36 = some (_, false)) (by decide)
  have o_mg : h_ad z1 mo 37 = (h_ad z mo 37) := x.ad hR tmo (by decide) (hMR 13 (by decide)) (rfl : h_rs 13 37 = some (_, false)) (by decide)
  have x_cb : ∀ k : Nat, I1 (h_ad z mo 14) k = I (h_ad z mo 14) k := fun k => x.I tcb (by decide) (no _) (g_avF hM 1314 k rfl rfl)
  have x_fi : ∀ k : Nat, I1 (h_ad z mo 15) k = I (h_ad z mo 15) k := fun k => x.I tfi (by decide) (no _) (g_avF hM 1315 k rfl rfl)
  have x_la : ∀ k : Nat, I1 (h_ad z mo 16) k = I (h_ad z mo 16) k := fun k => x.I tla (by decide) (no _) (g_avF hM 1316 k rfl rfl)
  have x_pa : ∀ k : Nat, I1 (h_ad z mo 17) k = I (h_ad z mo 17) k := fun k => x.I tpa (by decide) (no _) (g_avF hM 1317 k rfl rfl)
  have x_ri : ∀ k : Nat, I1 (h_ad z mo 18) k = I (h_ad z mo 18) k := fun k => x.I tri (by decide) (no _) (g_avF hM 1318 k rfl rfl)
  have x_ss : ∀ k : Nat, I1 (h_ad z mo 19) k = I (h_ad z mo 19) k := fun k => x.I tss (by decide) (no _) (g_avF hM 1319 k rfl rfl)
  have x_hc : ∀ k : Nat, I1 (h_ad z mo 20) k = I (h_ad z mo 20) k := fun k => x.I thc (by decide) (no _) (g_avF hM 1320 k rfl rfl)
  have x_is : ∀ k : Nat, I1 (h_ad z mo 21) k = I (h_ad z mo 21) k := fun k => x.I tis (by decide) (no _) (g_avF hM 1321 k rfl rfl)
  have x_hu : ∀ k : Nat, I1 (h_ad z mo 22) k = I (h_ad z mo 22) k := fun k => x.I thu (by decide) (no _) (g_avF hM 1322 k rfl rfl)
  have x_de : ∀ k : Nat, I1 (h_ad z mo 23) k = I (h_ad z mo 23) k := fun k => x.I tde (by decide) (no _) (g_avF hM 1323 k rfl rfl)
  have x_us : ∀ k : Nat, I1 (h_ad z mo 24) k = I (h_ad z mo 24) k := fun k => x.I tus (by decide) (no _) (g_avF hM 1324 k rfl rfl)
  have x_ow : ∀ k : Nat, I1 (h_ad z mo 25) k = I (h_ad z mo 25) k := fun k => x.I tow (by decide) (no _) (g_avF hM 1325 k rfl rfl)
  have x_gi : ∀ k : Nat, I1 (h_ad z mo 26) k = I (h_ad z mo 26) k := fun k => x.I tgi (by decide) (no _) (g_avF hM 1326 k rfl rfl)
  have x_gu : ∀ k : Nat, I1 (h_ad z mo 27) k = I (h_ad z mo 27) k := fun k => x.I tgu (by decide) (no _) (g_avF hM 1327 k rfl rfl)
  have x_dw : ∀ k : Nat, I1 (h_ad z mo 28) k = I (h_ad z mo 28) k := fun k => x.I tdw (by decide) (no _) (g_avF hM 1328 k rfl rfl)
  have x_dx : ∀ k : Nat, I1 (h_ad z mo 29) k = I (h_ad z mo 29) k := fun k => x.I tdx (by decide) (no _) (g_avF hM 1329 k rfl rfl)
  have x_md : ∀ k : Nat, I1 (h_ad z mo 34) k = I (h_ad z mo 34) k := fun k => x.I tmd (by decide) (no _) (g_avF hM 1334 k rfl rfl)
  have x_mf : ∀ k : Nat, I1 (h_ad z mo 35) k = I (h_ad z mo 35) k := fun k => x.I tmf (by decide) (no _) (g_avF hM 1335 k rfl rfl)
  have x_mt : ∀ k : Nat, I1 (h_ad z mo 36) k = I (h_ad z mo 36) k := fun k => x.I tmt (by decide) (no _) (g_avF hM 1336 k rfl rfl)
  have x_mg : ∀ k : Nat, I1 (h_ad z mo 37) k = I (h_ad z mo 37) k := fun k => x.I tmg (by decide) (no _) (g_avF hM 1337 k rfl rfl)
  have x_su : ∀ k : Nat, I1 (h_ad z (h_ad z cp 3) 5) k = I (h_ad z (h_ad z cp 3) 5) k := fun k => x.I tsu (by decide) (no _) (g_avF hM 105 k rfl rfl)
  have x_hd : ∀ k : Nat, I1 (h_ad z (h_ad z cp 4) 0) k = I (h_ad z (h_ad z cp 4) 0) k := fun k => x.I thd (by decide) (no _) (g_avF hM 1100 k rfl rfl)
  have x_sh : ∀ k : Nat, I1 (h_ad z (h_ad z cp 4) 1) k = I (h_ad z (h_ad z cp 4) 1) k := fun k => x.I tsh (by decide) (no _) (g_avF hM 1101 k rfl rfl)
  have x_gv : ∀ k : Nat, I1 (h_ad z (h_ad z cp 4) 2) k = I (h_ad z (h_ad z cp 4) 2) k := fun k => x.I tgv (by decide) (no _) (g_avF hM 1102 k rfl rfl)
  have x_it : ∀ k : Nat, I1 (h_ad z (h_ad z cp 5) 5) k = I (h_ad z (h_ad z cp 5) 5) k := fun k => x.I tit (by decide) (no _) (g_avF hM 1005 k rfl rfl)
  have x_th : ∀ k : Nat, I1 (h_ad z (h_ad z cp 5) 6) k = I (h_ad z (h_ad z cp 5) 6) k := fun k => x.I tth (by decide) (no _) (g_avF hM 1006 k rfl rfl)
  have x_fr : ∀ k : Nat, I1 (h_ad z (h_ad z cp 5) 7) k = I (h_ad z (h_ad z cp 5) 7) k := fun k => x.I tfr (by decide) (no _) (g_avF hM 1007 k rfl rfl)
  have x_to : ∀ k : Nat, I1 (h_ad z (h_ad z cp 5) 8) k = I (h_ad z (h_ad z cp 5) 8) k := fun k => x.I tto (by decide) (no _) (g_avF hM 1008 k rfl rfl)
  have x_sg : ∀ k : Nat, I1 (h_ad z (h_ad z cp 5) 9) k = I (h_ad z (h_ad z cp 5) 9) k := fun k => x.I tsg (by decide) (no _) (g_avF hM 1009 k rfl rfl)
  have x_rk : ∀ k : Nat, I1 (h_ad z (h_ad z cp 7) 0) k = I (h_ad z (h_ad z cp 7) 0) k := fun k => x.I trk (by decide) (no _) (g_avF hM 300 k rfl rfl)
  have x_tb : ∀ k : Nat, I1 (h_ad z mo 32) k = I (h_ad z mo 32) k := fun k => x.I ttb (by decide) (no _) (g_avF hM 1332 k rfl rfl)
  have x_lw : ∀ k : Nat, I1 (h_ad z mo 10) k = I (h_ad z mo 10) k := fun k => x.I tlw (by decide) (no _) (g_avF hM 1310 k rfl rfl)
  have x_hy : ∀ k : Nat, I1 (h_ad z mo 11) k = I (h_ad z mo 11) k := fun k => x.I thy (by decide) (no _) (g_avF hM 1311 k rfl rfl)
  have x_b3 : I1 (h_ad z cp 5) 3 = I (h_ad z cp 5) 3 := x.I tbg (by decide) (no _) (g_avF hM 10 3 rfl rfl)
  have x_b4 : I1 (h_ad z cp 5) 4 = I (h_ad z cp 5) 4 := x.I tbg (by decide) (no _) (g_avF hM 10 4 rfl rfl)
  have x_33 : I1 mo 33 = I mo 33 := x.I tmo (by decide) (no _) (g_avF hM 13 33 rfl rfl)
  have x_13 : I1 mo 13 = I mo 13 := x.I tmo (by decide) (no _) (g_avF hM 13 13 rfl rfl)
  have h7 : ∀ k : Nat, k < 8 → h_m M 7 k = false := fun k hk => by
    rcases (show k = 0 ∨ k = 1 ∨ k = 2 ∨ k = 3 ∨ k = 4 ∨ k = 5 ∨ k = 6 ∨ k = 7 by omega) with rfl | rfl | rfl | rfl | rfl | rfl | rfl | rfl <;> exact g_avF hM 7 _ rfl rfl
  unfold h_gb
  rw [o_bk, o_tu, o_bg, o_dt, o_pl, o_dd, o_su, o_hd, o_sh, o_gv, o_wo, o_it, o_th, o_fr, o_to, o_sg, o_rk, o_dr, o_od, o_hv, o_lw, o_hy, o_tb, o_ww, o_cb, o_fi, o_la, o_pa, o_ri, o_ss, o_hc, o_is, o_hu, o_de, o_us, o_ow, o_gi, o_gu, o_dw, o_dx, o_md, o_mf, o_mt, o_mg, x_13]
  refine ⟨(x.I tbk (by decide) (no _) (g_avF hM 1 2 rfl rfl)).trans a1, ?_, ?_, ?_, ?_, ?_, ?_, ?_, ?_, ?_, ?_, ?_⟩
  · exact a2.X hR tpl x (hMR 101 (by decide)) h7 (fun k => ⟨x_cb k, x_fi k, x_la k, x_pa k, x_ri k, x_ss k, x_hc k, x_is k, x_hu k⟩)
  · exact a3.X hR tdd tde x (hMR 104 (by decide)) (fun k => g_avF hM 154 k rfl rfl) (fun k => g_avF hM 1323 k rfl rfl)
  · intro c hc
    rw [x_su, x_us]
    exact a4 c hc
  · intro k hk
    rw [x_hd, x_sh, x_gv, x_ow, x_gu, x_gi]
    exact a5 k hk
  · exact a6.c (Int.le_refl _) x_b3 x_b4 x_33 x_it x_th x_fr x_to x_sg x_md x_mf x_mt x_mg (fun p hp hq => by
      obtain ⟨b, rb, tb, ab⟩ := a2.b hR tpl hp (by omega)
      rw [ab] at hq
      rw [show h_ad z1 (h_ad z (h_ad z cp 3) 1) p = b from h_ad.at (x.R tpl (by decide) (no _) (hMR 101 (by decide)) rb), x.I tb (by decide) (no _) (h7 0 (by decide))]
      exact hq) (fun k _ => x_hd k)
  · intro k hk
    rw [x_rk, x_tb]
    exact a7 k hk
  · exact a8.X hR tdr tod thv tdw tdx x (hMR 303 (by decide)) (hMR 304 (by decide)) (fun k => g_avF hM 302 k rfl rfl) (fun k => g_avF hM 353 k rfl rfl) (fun k => g_avF hM 354 k rfl rfl) (fun k => g_avF hM 1328 k rfl rfl) (fun k => g_avF hM 1329 k rfl rfl)
  · exact a9.c (fun k _ => x_lw k) x_hy
  · exact a10.X hR two tww x (hMR 1103 (by decide)) (fun k => g_avF hM 1153 k rfl rfl) (fun k => g_avF hM 1338 k rfl rfl)
  · exact a11.X hR tpl tww x (hMR 101 (by decide)) (hMR 7 (by decide)) (fun k => g_avF hM 708 k rfl rfl) (fun k => g_avF hM 1338 k rfl rfl)
  · intro p hp h6
    rw [x_fi, x_la, x_pa, x_ri, x_ss]
    exact a12 p hp h6
def g_avp (q : Nat × Nat) : Bool := g_av q || (q.1 == 1 && q.2 == 2)
theorem g_avFp {M : List (Nat × Nat)} (hM : M.all g_avp = true) (t k : Nat) (h1 : g_avp (t, k) = false) (h2 : g_avp (t, 999) = false) : h_m M t k = false := by
  rw [Bool.eq_false_iff]
  intro h
  unfold h_m at h
  rw [List.any_eq_true] at h
  obtain ⟨q, hq, h3⟩ := h
  rw [Bool.and_eq_true] at h3
  have h4 := List.all_eq_true.mp hM q hq
  have e1 : q.1 = t := by simpa using h3.1
  have e2 : q.2 = 999 ∨ q.2 = k := by simpa using h3.2
  obtain ⟨q1, q2⟩ := q
  simp only at e1 e2
  subst e1
  rcases e2 with e2 | e2
  · rw [e2, h2] at h4
    cases h4
  · rw [e2, h1] at h4
    cases h4
set_option maxHeartbeats 4000000 in
theorem g_player2 {M M3 : List (Nat × Nat)} {z z1 : tZ} {I I1 I2 : tI} {L L1 : tL} {cp mo : Nat} {r1 r2 : Int32} (G : h_gb z I cp mo) (hU : h_U z) (hR : h_R z) (hI : h_I z I) (hR1 : h_R z1) (tcp : z.ty cp = 12) (tmo : z.ty mo = 13) (x : h_X M [101] none z I L z1 I1 L1) (qq : h_Q M3 none z z1 I1) (hM : M.all g_avp = true) (hM3 : ∀ k : Nat, k ≠ 0 → h_m M3 7 k = false) (hM8 : ∀ k, h_m M3 708 k = false)
    (p : (60 ≤ (I (h_ad z cp 3) 2).toInt ∧ r1.toInt = -3 ∧ I1 (h_ad z cp 3) 2 = I (h_ad z cp 3) 2 ∧ z1.R (h_ad z (h_ad z cp 3) 1) = z.R (h_ad z (h_ad z cp 3) 1)) ∨ ((I (h_ad z cp 3) 2).toInt < 60 ∧ r1.toInt = (I (h_ad z cp 3) 2).toInt ∧ (I1 (h_ad z cp 3) 2).toInt = (I (h_ad z cp 3) 2).toInt + 1 ∧ ∃ q : Nat, z.ty q = 0 ∧ I1 q 0 = -1 ∧ z1.R (h_ad z (h_ad z cp 3) 1) = fun k => if k = (I (h_ad z cp 3) 2).toInt.toNat then some q else z.R (h_ad z (h_ad z cp 3) 1) k))
    (q : (60 ≤ (I1 mo 13).toInt ∧ r2.toInt = -3 ∧ I2 = I1) ∨ ((I1 mo 13).toInt < 60 ∧ r2.toInt = (I1 mo 13).toInt ∧ (I2 mo 13).toInt = (I1 mo 13).toInt + 1 ∧ ∀ j : Nat, I2 (h_ad z1 mo 14) j = if j = (I1 mo 13).toInt.toNat then -1 else I1 (h_ad z1 mo 14) j)) (f2 : h_F [(1314, 999), (13, 13)] z1 I1 I2) : r1.toInt = r2.toInt ∧ h_gb z1 I2 cp mo := by
  have no : ∀ b : Nat, some b ≠ none := fun b q => by cases q
  obtain ⟨⟨tcp, tmo⟩, ⟨tbk, ttu, tbg, tdt⟩, ⟨tpl, tdd, tsu⟩, ⟨thd, tsh, tgv, two⟩, ⟨tit, tth, tfr, tto, tsg⟩, ⟨trk, tdr, tod, thv⟩, ⟨tlw, thy, ttb, tww⟩, ⟨tcb, tfi, tla, tpa, tri, tss, thc, tis, thu⟩, ⟨tde, tus, tow, tgi, tgu, tdw, tdx⟩, ⟨tmd, tmf, tmt, tmg⟩⟩ := h_tyB.mk hR tcp tmo
  obtain ⟨a1, a2, a3, a4, a5, a6, a7, a8, a9, a10, a11, a12⟩ := G
  have hMR : ∀ t ∈ ([1, 3, 10, 11, 12, 13, 7, 104, 303, 304, 1103] : List Nat), ([101] : List Nat).contains t = false := by decide
  have o_bk : h_ad z1 cp 3 = (h_ad z cp 3) := x.ad hR tcp (by decide) (hMR 12 (by decide)) (rfl : h_rs 12 3 = some (_, false)) (by decide)
  have o_tu : h_ad z1 cp 4 = (h_ad z cp 4) := x.ad hR tcp (by decide) (hMR 12 (by decide)) (rfl : h_rs 12 4 = some (_, false)) (by decide)
  have o_bg : h_ad z1 cp 5 = (h_ad z cp 5) := x.ad hR tcp (by decide) (hMR 12 (by decide)) (rfl : h_rs 12 5 = some (_, false)) (by decide)
  have o_dt : h_ad z1 cp 7 = (h_ad z cp 7) := x.ad hR tcp (by decide) (hMR 12 (by decide)) (rfl : h_rs 12 7 = some (_, false)) (by decide)
  have o_pl : h_ad z1 (h_ad z cp 3) 1 = (h_ad z (h_ad z cp 3) 1) := x.ad hR tbk (by decide) (hMR 1 (by decide)) (rfl : h_rs 1 1 = some (_, false)) (by decide)
  have o_dd : h_ad z1 (h_ad z cp 3) 4 = (h_ad z (h_ad z cp 3) 4) := x.ad hR tbk (by decide) (hMR 1 (by decide)) (rfl : h_rs 1 4 = some (_, false)) (by decide)
  have o_su : h_ad z1 (h_ad z cp 3) 5 = (h_ad z (h_ad z cp 3) 5) := x.ad hR tbk (by decide) (hMR 1 (by decide)) (rfl : h_rs 1 5 = some (_, false)) (by decide)
  have o_hd : h_ad z1 (h_ad z cp 4) 0 = (h_ad z (h_ad z cp 4) 0) := x.ad hR ttu (by decide) (hMR 11 (by decide)) (rfl : h_rs 11 0 = some (_, false)) (by decide)
  have o_sh : h_ad z1 (h_ad z cp 4) 1 = (h_ad z (h_ad z cp 4) 1) := x.ad hR ttu (by decide) (hMR 11 (by decide)) (rfl : h_rs 11 1 = some (_, false)) (by decide)
  have o_gv : h_ad z1 (h_ad z cp 4) 2 = (h_ad z (h_ad z cp 4) 2) := x.ad hR ttu (by decide) (hMR 11 (by decide)) (rfl : h_rs 11 2 = some (_, false)) (by decide)
  have o_wo : h_ad z1 (h_ad z cp 4) 3 = (h_ad z (h_ad z cp 4) 3) := x.ad hR ttu (by decide) (hMR 11 (by decide)) (rfl : h_rs 11 3 = some (_, false)) (by decide)
  have o_it : h_ad z1 (h_ad z cp 5) 5 = (h_ad z (h_ad z cp 5) 5) := x.ad hR tbg (by decide) (hMR 10 (by decide)) (rfl : h_rs 10 5 = some (_, false)) (by decide)
  have o_th : h_ad z1 (h_ad z cp 5) 6 = (h_ad z (h_ad z cp 5) 6) := x.ad hR tbg (by decide) (hMR 10 (by decide)) (rfl : h_rs 10 6 = some (_, false)) (by decide)
  have o_fr : h_ad z1 (h_ad z cp 5) 7 = (h_ad z (h_ad z cp 5) 7) := x.ad hR tbg (by decide) (hMR 10 (by decide)) (rfl : h_rs 10 7 = some (_, false)) (by decide)
  have o_to : h_ad z1 (h_ad z cp 5) 8 = (h_ad z (h_ad z cp 5) 8) := x.ad hR tbg (by decide) (hMR 10 (by decide)) (rfl : h_rs 10 8 = some (_, false)) (by decide)
  have o_sg : h_ad z1 (h_ad z cp 5) 9 = (h_ad z (h_ad z cp 5) 9) := x.ad hR tbg (by decide) (hMR 10 (by decide)) (rfl : h_rs 10 9 = some (_, false)) (by decide)
  have o_rk : h_ad z1 (h_ad z cp 7) 0 = (h_ad z (h_ad z cp 7) 0) := x.ad hR tdt (by decide) (hMR 3 (by decide)) (rfl : h_rs 3 0 = some (_, false)) (by decide)
  have o_dr : h_ad z1 (h_ad z cp 7) 2 = (h_ad z (h_ad z cp 7) 2) := x.ad hR tdt (by decide) (hMR 3 (by decide)) (rfl : h_rs 3 2 = some (_, false)) (by decide)
  have o_od : h_ad z1 (h_ad z cp 7) 3 = (h_ad z (h_ad z cp 7) 3) := x.ad hR tdt (by decide) (hMR 3 (by decide)) (rfl : h_rs 3 3 = some (_, false)) (by decide)
  have o_hv : h_ad z1 (h_ad z cp 7) 4 = (h_ad z (h_ad z cp 7) 4) := x.ad hR tdt (by decide) (hMR 3 (by decide)) (rfl : h_rs 3 4 = some (_, false)) (by decide)
  have o_lw : h_ad z1 mo 10 = (h_ad z mo 10) := x.ad hR tmo (by decide) (hMR 13 (by decide)) (rfl : h_rs 13 10 = some (_, false)) (by decide)
  have o_hy : h_ad z1 mo 11 = (h_ad z mo 11) := x.ad hR tmo (by decide) (hMR 13 (by decide)) (rfl : h_rs 13 11 = some (_, false)) (by decide)
  have o_tb : h_ad z1 mo 32 = (h_ad z mo 32) := x.ad hR tmo (by decide) (hMR 13 (by decide)) (rfl : h_rs 13 32 = some (_, false)) (by decide)
  have o_ww : h_ad z1 mo 38 = (h_ad z mo 38) := x.ad hR tmo (by decide) (hMR 13 (by decide)) (rfl : h_rs 13 38 = some (_, false)) (by decide)
  have o_cb : h_ad z1 mo 14 = (h_ad z mo 14) := x.ad hR tmo (by decide) (hMR 13 (by decide)) (rfl : h_rs 13 14 = some (_, false)) (by decide)
  have o_fi : h_ad z1 mo 15 = (h_ad z mo 15) := x.ad hR tmo (by decide) (hMR 13 (by decide)) (rfl : h_rs 13 15 = some (_, false)) (by decide)
  have o_la : h_ad z1 mo 16 = (h_ad z mo 16) := x.ad hR tmo (by decide) (hMR 13 (by decide)) (rfl : h_rs 13 16 = some (_, false)) (by decide)
  have o_pa : h_ad z1 mo 17 = (h_ad z mo 17) := x.ad hR tmo (by decide) (hMR 13 (by decide)) (rfl : h_rs 13 17 = some (_, false)) (by decide)
  have o_ri : h_ad z1 mo 18 = (h_ad z mo 18) := x.ad hR tmo (by decide) (hMR 13 (by decide)) (rfl : h_rs 13 18 = some (_, false)) (by decide)
  have o_ss : h_ad z1 mo 19 = (h_ad z mo 19) := x.ad hR tmo (by decide) (hMR 13 (by decide)) (rfl : h_rs 13 19 = some (_, false)) (by decide)
  have o_hc : h_ad z1 mo 20 = (h_ad z mo 20) := x.ad hR tmo (by decide) (hMR 13 (by decide)) (rfl : h_rs 13 20 = some (_, false)) (by decide)
  have o_is : h_ad z1 mo 21 = (h_ad z mo 21) := x.ad hR tmo (by decide) (hMR 13 (by decide)) (rfl : h_rs 13 21 = some (_, false)) (by decide)
  have o_hu : h_ad z1 mo 22 = (h_ad z mo 22) := x.ad hR tmo (by decide) (hMR 13 (by decide)) (rfl : h_rs 13 22 = some (_, false)) (by decide)
  have o_de : h_ad z1 mo 23 = (h_ad z mo 23) := x.ad hR tmo (by decide) (hMR 13 (by decide)) (rfl : h_rs 13 23 = some (_, false)) (by decide)
  have o_us : h_ad z1 mo 24 = (h_ad z mo 24) := x.ad hR tmo (by decide) (hMR 13 (by decide)) (rfl : h_rs 13 24 = some (_, false)) (by decide)
  have o_ow : h_ad z1 mo 25 = (h_ad z mo 25) := x.ad hR tmo (by decide) (hMR 13 (by decide)) (rfl : h_rs 13 25 = some (_, false)) (by decide)
  have o_gi : h_ad z1 mo 26 = (h_ad z mo 26) := x.ad hR tmo (by decide) (hMR 13 (by decide)) (rfl : h_rs 13 26 = some (_, false)) (by decide)
  have o_gu : h_ad z1 mo 27 = (h_ad z mo 27) := x.ad hR tmo (by decide) (hMR 13 (by decide)) (rfl : h_rs 13 27 = some (_, false)) (by decide)
  have o_dw : h_ad z1 mo 28 = (h_ad z mo 28) := x.ad hR tmo (by decide) (hMR 13 (by decide)) (rfl : h_rs 13 28 = some (_, false)) (by decide)
  have o_dx : h_ad z1 mo 29 = (h_ad z mo 29) := x.ad hR tmo (by decide) (hMR 13 (by decide)) (rfl : h_rs 13 29 = some (_, false)) (by decide)
  have o_md : h_ad z1 mo 34 = (h_ad z mo 34) := x.ad hR tmo (by decide) (hMR 13 (by decide)) (rfl : h_rs 13 34 = some (_, false)) (by decide)
  have o_mf : h_ad z1 mo 35 = (h_ad z mo 35) := x.ad hR tmo (by decide) (hMR 13 (by decide)) (rfl : h_rs 13 35 = some (_, false)) (by decide)
  have o_mt : h_ad z1 mo 36 = (h_ad z mo 36) := x.ad hR tmo (by decide) (hMR 13 (by decide)) (rfl : h_rs 13 36 = some (_, false)) (by decide)
  have o_mg : h_ad z1 mo 37 = (h_ad z mo 37) := x.ad hR tmo (by decide) (hMR 13 (by decide)) (rfl : h_rs 13 37 = some (_, false)) (by decide)
  have x_cb : ∀ k : Nat, I1 (h_ad z mo 14) k = I (h_ad z mo 14) k := fun k => x.I tcb (by decide) (no _) (g_avFp hM 1314 k rfl rfl)
  have x_fi : ∀ k : Nat, I1 (h_ad z mo 15) k = I (h_ad z mo 15) k := fun k => x.I tfi (by decide) (no _) (g_avFp hM 1315 k rfl rfl)
  have x_la : ∀ k : Nat, I1 (h_ad z mo 16) k = I (h_ad z mo 16) k := fun k => x.I tla (by decide) (no _) (g_avFp hM 1316 k rfl rfl)
  have x_pa : ∀ k : Nat, I1 (h_ad z mo 17) k = I (h_ad z mo 17) k := fun k => x.I tpa (by decide) (no _) (g_avFp hM 1317 k rfl rfl)
  have x_ri : ∀ k : Nat, I1 (h_ad z mo 18) k = I (h_ad z mo 18) k := fun k => x.I tri (by decide) (no _) (g_avFp hM 1318 k rfl rfl)
  have x_ss : ∀ k : Nat, I1 (h_ad z mo 19) k = I (h_ad z mo 19) k := fun k => x.I tss (by decide) (no _) (g_avFp hM 1319 k rfl rfl)
  have x_hc : ∀ k : Nat, I1 (h_ad z mo 20) k = I (h_ad z mo 20) k := fun k => x.I thc (by decide) (no _) (g_avFp hM 1320 k rfl rfl)
  have x_is : ∀ k : Nat, I1 (h_ad z mo 21) k = I (h_ad z mo 21) k := fun k => x.I tis (by decide) (no _) (g_avFp hM 1321 k rfl rfl)
  have x_hu : ∀ k : Nat, I1 (h_ad z mo 22) k = I (h_ad z mo 22) k := fun k => x.I thu (by decide) (no _) (g_avFp hM 1322 k rfl rfl)
  have x_de : ∀ k : Nat, I1 (h_ad z mo 23) k = I (h_ad z mo 23) k := fun k => x.I tde (by decide) (no _) (g_avFp hM 1323 k rfl rfl)
  have x_us : ∀ k : Nat, I1 (h_ad z mo 24) k = I (h_ad z mo 24) k := fun k => x.I tus (by decide) (no _) (g_avFp hM 1324 k rfl rfl)
  have x_ow : ∀ k : Nat, I1 (h_ad z mo 25) k = I (h_ad z mo 25) k := fun k => x.I tow (by decide) (no _) (g_avFp hM 1325 k rfl rfl)
  have x_gi : ∀ k : Nat, I1 (h_ad z mo 26) k = I (h_ad z mo 26) k := fun k => x.I tgi (by decide) (no _) (g_avFp hM 1326 k rfl rfl)
  have x_gu : ∀ k : Nat, I1 (h_ad z mo 27) k = I (h_ad z mo 27) k := fun k => x.I tgu (by decide) (no _) (g_avFp hM 1327 k rfl rfl)
  have x_dw : ∀ k : Nat, I1 (h_ad z mo 28) k = I (h_ad z mo 28) k := fun k => x.I tdw (by decide) (no _) (g_avFp hM 1328 k rfl rfl)
  have x_dx : ∀ k : Nat, I1 (h_ad z mo 29) k = I (h_ad z mo 29) k := fun k => x.I tdx (by decide) (no _) (g_avFp hM 1329 k rfl rfl)
  have x_md : ∀ k : Nat, I1 (h_ad z mo 34) k = I (h_ad z mo 34) k := fun k => x.I tmd (by decide) (no _) (g_avFp hM 1334 k rfl rfl)
  have x_mf : ∀ k : Nat, I1 (h_ad z mo 35) k = I (h_ad z mo 35) k := fun k => x.I tmf (by decide) (no _) (g_avFp hM 1335 k rfl rfl)
  have x_mt : ∀ k : Nat, I1 (h_ad z mo 36) k = I (h_ad z mo 36) k := fun k => x.I tmt (by decide) (no _) (g_avFp hM 1336 k rfl rfl)
  have x_mg : ∀ k : Nat, I1 (h_ad z mo 37) k = I (h_ad z mo 37) k := fun k => x.I tmg (by decide) (no _) (g_avFp hM 1337 k rfl rfl)
  have x_su : ∀ k : Nat, I1 (h_ad z (h_ad z cp 3) 5) k = I (h_ad z (h_ad z cp 3) 5) k := fun k => x.I tsu (by decide) (no _) (g_avFp hM 105 k rfl rfl)
  have x_hd : ∀ k : Nat, I1 (h_ad z (h_ad z cp 4) 0) k = I (h_ad z (h_ad z cp 4) 0) k := fun k => x.I thd (by decide) (no _) (g_avFp hM 1100 k rfl rfl)
  have x_sh : ∀ k : Nat, I1 (h_ad z (h_ad z cp 4) 1) k = I (h_ad z (h_ad z cp 4) 1) k := fun k => x.I tsh (by decide) (no _) (g_avFp hM 1101 k rfl rfl)
  have x_gv : ∀ k : Nat, I1 (h_ad z (h_ad z cp 4) 2) k = I (h_ad z (h_ad z cp 4) 2) k := fun k => x.I tgv (by decide) (no _) (g_avFp hM 1102 k rfl rfl)
  have x_it : ∀ k : Nat, I1 (h_ad z (h_ad z cp 5) 5) k = I (h_ad z (h_ad z cp 5) 5) k := fun k => x.I tit (by decide) (no _) (g_avFp hM 1005 k rfl rfl)
  have x_th : ∀ k : Nat, I1 (h_ad z (h_ad z cp 5) 6) k = I (h_ad z (h_ad z cp 5) 6) k := fun k => x.I tth (by decide) (no _) (g_avFp hM 1006 k rfl rfl)
  have x_fr : ∀ k : Nat, I1 (h_ad z (h_ad z cp 5) 7) k = I (h_ad z (h_ad z cp 5) 7) k := fun k => x.I tfr (by decide) (no _) (g_avFp hM 1007 k rfl rfl)
  have x_to : ∀ k : Nat, I1 (h_ad z (h_ad z cp 5) 8) k = I (h_ad z (h_ad z cp 5) 8) k := fun k => x.I tto (by decide) (no _) (g_avFp hM 1008 k rfl rfl)
  have x_sg : ∀ k : Nat, I1 (h_ad z (h_ad z cp 5) 9) k = I (h_ad z (h_ad z cp 5) 9) k := fun k => x.I tsg (by decide) (no _) (g_avFp hM 1009 k rfl rfl)
  have x_rk : ∀ k : Nat, I1 (h_ad z (h_ad z cp 7) 0) k = I (h_ad z (h_ad z cp 7) 0) k := fun k => x.I trk (by decide) (no _) (g_avFp hM 300 k rfl rfl)
  have x_tb : ∀ k : Nat, I1 (h_ad z mo 32) k = I (h_ad z mo 32) k := fun k => x.I ttb (by decide) (no _) (g_avFp hM 1332 k rfl rfl)
  have x_lw : ∀ k : Nat, I1 (h_ad z mo 10) k = I (h_ad z mo 10) k := fun k => x.I tlw (by decide) (no _) (g_avFp hM 1310 k rfl rfl)
  have x_hy : ∀ k : Nat, I1 (h_ad z mo 11) k = I (h_ad z mo 11) k := fun k => x.I thy (by decide) (no _) (g_avFp hM 1311 k rfl rfl)
  have x_b3 : I1 (h_ad z cp 5) 3 = I (h_ad z cp 5) 3 := x.I tbg (by decide) (no _) (g_avFp hM 10 3 rfl rfl)
  have x_b4 : I1 (h_ad z cp 5) 4 = I (h_ad z cp 5) 4 := x.I tbg (by decide) (no _) (g_avFp hM 10 4 rfl rfl)
  have x_33 : I1 mo 33 = I mo 33 := x.I tmo (by decide) (no _) (g_avFp hM 13 33 rfl rfl)
  have x_13 : I1 mo 13 = I mo 13 := x.I tmo (by decide) (no _) (g_avFp hM 13 13 rfl rfl)
  have h7 : ∀ k : Nat, k < 8 → h_m M 7 k = false := fun k hk => by
    rcases (show k = 0 ∨ k = 1 ∨ k = 2 ∨ k = 3 ∨ k = 4 ∨ k = 5 ∨ k = 6 ∨ k = 7 by omega) with rfl | rfl | rfl | rfl | rfl | rfl | rfl | rfl <;> exact g_avFp hM 7 _ rfl rfl
  have j13 := hI.rd mo 13 tmo rfl (rfl : h_bd 13 13 = (0, 60))
  have nR : ∀ b : Nat, z.ty b ≠ 0 → z1.ty b = z.ty b := fun b hb => (x b hb (no _)).1
  have kt : ∀ b t : Nat, z.ty b = t → t ≠ 0 → z1.ty b = t := fun b t hb ht => by rw [nR b (by rw [hb]; exact ht)]; exact hb
  have c2 : ∀ b t : Nat, z.ty b = t → t ≠ 0 → t ≠ 1314 → t ≠ 13 → I2 b = I1 b := fun b t hb h0 h1 h2 => by
    funext k
    exact f2.at (kt b t hb h0) (by
      unfold h_m
      simp [Ne.symm h1, Ne.symm h2])
  have wp := a11.player (nb := (I mo 13).toInt) (r := r1) (bk := (h_ad z cp 3)) (by rw [a1]) j13.1 hU hR hR1 tpl tww x qq (fun k => g_avFp hM 708 k rfl rfl) (fun k => g_avFp hM 1338 k rfl rfl) hM8 (by
    rcases p with p | ⟨p1, p2, p3, y, p4, p5, p6⟩
    · exact Or.inl p
    · exact Or.inr ⟨p1, p2, p3, y, p4, p6⟩)
  rw [o_cb, x_13] at q
  rw [a1] at p
  rcases p with ⟨p1, p2, p3, p4⟩ | ⟨p1, p2, p3, y, p4, p5, p6⟩ <;> rcases q with ⟨q1, q2, q3⟩ | ⟨q1, q2, q3, q4⟩
  rotate_left
  · omega
  · omega
  rotate_right
  · refine ⟨by rw [p2, q2], ?_⟩
    rw [q3]
    rw [p3] at wp
    unfold h_gb
    rw [o_bk, o_tu, o_bg, o_dt, o_pl, o_dd, o_su, o_hd, o_sh, o_gv, o_wo, o_it, o_th, o_fr, o_to, o_sg, o_rk, o_dr, o_od, o_hv, o_lw, o_hy, o_tb, o_ww, o_cb, o_fi, o_la, o_pa, o_ri, o_ss, o_hc, o_is, o_hu, o_de, o_us, o_ow, o_gi, o_gu, o_dw, o_dx, o_md, o_mf, o_mt, o_mg, x_13]
    refine ⟨p3, ?_, ?_, ?_, ?_, ?_, ?_, ?_, ?_, ?_, ?_, ?_⟩
    · refine ⟨fun p hp => by rw [p4]; exact a2.1 p hp, fun p hp60 => ⟨fun hpn => ?_, fun hpn => ?_⟩⟩
      · obtain ⟨b, rb, tb, ab⟩ := a2.b hR tpl hpn hp60
        have h1 := (a2.2 p hp60).1 hpn
        rw [ab] at h1
        rw [show h_ad z1 (h_ad z (h_ad z cp 3) 1) p = b from h_ad.at (by rw [p4]; exact rb)]
        exact h1.c (fun k hk => x.I tb (by decide) (no _) (h7 k hk)) (x_cb p) (x_fi p) (x_la p) (x_pa p) (x_ri p) (x_ss p) (x_hc p) (x_is p) (x_hu p)
      · rw [x_hu]
        exact (a2.2 p hp60).2 hpn
    · exact a3.X hR tdd tde x (hMR 104 (by decide)) (fun k => g_avFp hM 154 k rfl rfl) (fun k => g_avFp hM 1323 k rfl rfl)
    · intro c hc
      rw [x_su, x_us]
      exact a4 c hc
    · intro k hk
      rw [x_hd, x_sh, x_gv, x_ow, x_gu, x_gi]
      exact a5 k hk
    · exact a6.c (Int.le_refl _) x_b3 x_b4 x_33 x_it x_th x_fr x_to x_sg x_md x_mf x_mt x_mg (fun p hp hq => by
        obtain ⟨b, rb, tb, ab⟩ := a2.b hR tpl hp (by omega)
        rw [ab] at hq
        rw [show h_ad z1 (h_ad z (h_ad z cp 3) 1) p = b from h_ad.at (by rw [p4]; exact rb), x.I tb (by decide) (no _) (h7 0 (by decide))]
        exact hq) (fun k _ => x_hd k)
    · intro k hk
      rw [x_rk, x_tb]
      exact a7 k hk
    · exact a8.X hR tdr tod thv tdw tdx x (hMR 303 (by decide)) (hMR 304 (by decide)) (fun k => g_avFp hM 302 k rfl rfl) (fun k => g_avFp hM 353 k rfl rfl) (fun k => g_avFp hM 354 k rfl rfl) (fun k => g_avFp hM 1328 k rfl rfl) (fun k => g_avFp hM 1329 k rfl rfl)
    · exact a9.c (fun k _ => x_lw k) x_hy
    · exact a10.X hR two tww x (hMR 1103 (by decide)) (fun k => g_avFp hM 1153 k rfl rfl) (fun k => g_avFp hM 1338 k rfl rfl)
    · exact wp
    · intro p hp h6
      rw [x_fi, x_la, x_pa, x_ri, x_ss]
      exact a12 p hp h6
  · refine ⟨by rw [p2, q2], ?_⟩
    have wp2 : h_wp z1 I2 (h_ad z (h_ad z cp 3) 1) (h_ad z mo 38) (I2 mo 13).toInt := by
      rw [q3]
      rw [p3] at wp
      have tpl1 := kt _ _ tpl (by decide)
      have tww1 := kt _ _ tww (by decide)
      exact wp.F hR1 tpl1 f2 (fun _ => rfl) (fun k _ => f2.at tww1 rfl)
    have ty7 : z1.ty y = 7 := by
      rcases hR1.nl (h_ad z (h_ad z cp 3) 1) (I mo 13).toInt.toNat (kt _ _ tpl (by decide)) (rfl : h_rs 101 _ = some (7, true)) (by rw [so_101]; show _ < 60; omega) with g | ⟨b, g1, g2⟩
      · rw [p6] at g
        simp at g
      · rw [p6] at g1
        simp at g1
        rw [g1]
        exact g2
    have y0 : ∀ k : Nat, k ≠ 0 → I1 y k = 0 := fun k hk => qq.2.2 y k (by rw [ty7]; decide) (Or.inl p4) (by rw [ty7]; exact hM3 k hk)
    unfold h_gb
    rw [o_bk, o_tu, o_bg, o_dt, o_pl, o_dd, o_su, o_hd, o_sh, o_gv, o_wo, o_it, o_th, o_fr, o_to, o_sg, o_rk, o_dr, o_od, o_hv, o_lw, o_hy, o_tb, o_ww, o_cb, o_fi, o_la, o_pa, o_ri, o_ss, o_hc, o_is, o_hu, o_de, o_us, o_ow, o_gi, o_gu, o_dw, o_dx, o_md, o_mf, o_mt, o_mg]
    refine ⟨xi_of (by rw [c2 _ _ tbk (by decide) (by decide) (by decide), p3, q3]), ?_, ?_, ?_, ?_, ?_, ?_, ?_, ?_, ?_, wp2, ?_⟩
    · refine ⟨fun p hp => ?_, fun p hp60 => ⟨fun hpn => ?_, fun hpn => ?_⟩⟩
      · rw [p6]
        show (if p = (I mo 13).toInt.toNat then some y else z.R (h_ad z (h_ad z cp 3) 1) p) ≠ none
        by_cases hpe : p = (I mo 13).toInt.toNat
        · rw [if_pos hpe]
          exact fun h9 => by cases h9
        · rw [if_neg hpe]
          exact a2.1 p (by omega)
      · by_cases hpe : p = (I mo 13).toInt.toNat
        · rw [show h_ad z1 (h_ad z (h_ad z cp 3) 1) p = y from h_ad.at (by rw [p6, hpe]; exact if_pos rfl)]
          obtain ⟨w1, w2, w3, w4, w5⟩ := a12 p (by omega) hp60
          have hh := (a2.2 p hp60).2 (by omega)
          unfold h_p1
          rw [f2.at ty7 rfl, f2.at ty7 rfl, f2.at ty7 rfl, f2.at ty7 rfl, p5, y0 7 (by decide), y0 5 (by decide), y0 6 (by decide), c2 _ _ tfi (by decide) (by decide) (by decide), c2 _ _ tla (by decide) (by decide) (by decide), c2 _ _ tpa (by decide) (by decide) (by decide), c2 _ _ tri (by decide) (by decide) (by decide), c2 _ _ tss (by decide) (by decide) (by decide), c2 _ _ thu (by decide) (by decide) (by decide), x_fi, x_la, x_pa, x_ri, x_ss, x_hu, w1, w2, w3, w4, w5, hh, q4 p, if_pos hpe]
          exact ⟨rfl, rfl, fun _ => ⟨rfl, rfl⟩, fun h9 => absurd (by decide) h9, by decide, by decide, by decide, by decide, by decide⟩
        · obtain ⟨b, rb, tb, ab⟩ := a2.b hR tpl (p := p) (by omega) hp60
          have h1 := (a2.2 p hp60).1 (by omega)
          rw [ab] at h1
          rw [show h_ad z1 (h_ad z (h_ad z cp 3) 1) p = b from h_ad.at (by rw [p6]; exact (if_neg hpe).trans rb)]
          refine h1.c (fun k hk => (congrFun (c2 _ _ tb (by decide) (by decide) (by decide)) k).trans (x.I tb (by decide) (no _) (h7 k hk))) ?_ ((congrFun (c2 _ _ tfi (by decide) (by decide) (by decide)) p).trans (x_fi p)) ((congrFun (c2 _ _ tla (by decide) (by decide) (by decide)) p).trans (x_la p)) ((congrFun (c2 _ _ tpa (by decide) (by decide) (by decide)) p).trans (x_pa p)) ((congrFun (c2 _ _ tri (by decide) (by decide) (by decide)) p).trans (x_ri p)) ((congrFun (c2 _ _ tss (by decide) (by decide) (by decide)) p).trans (x_ss p)) ((congrFun (c2 _ _ thc (by decide) (by decide) (by decide)) p).trans (x_hc p)) ((congrFun (c2 _ _ tis (by decide) (by decide) (by decide)) p).trans (x_is p)) ((congrFun (c2 _ _ thu (by decide) (by decide) (by decide)) p).trans (x_hu p))
          rw [q4 p, if_neg hpe]
          exact x_cb p
      · rw [c2 _ _ thu (by decide) (by decide) (by decide), x_hu]
        exact (a2.2 p hp60).2 (by omega)
    · exact (a3.X hR tdd tde x (hMR 104 (by decide)) (fun k => g_avFp hM 154 k rfl rfl) (fun k => g_avFp hM 1323 k rfl rfl)).F hR1 (kt _ _ tdd (by decide)) (kt _ _ tde (by decide)) f2 (fun _ => rfl) (fun _ => rfl)
    · intro c hc
      rw [c2 _ _ tsu (by decide) (by decide) (by decide), c2 _ _ tus (by decide) (by decide) (by decide), x_su, x_us]
      exact a4 c hc
    · intro k hk
      rw [c2 _ _ thd (by decide) (by decide) (by decide), c2 _ _ tsh (by decide) (by decide) (by decide), c2 _ _ tgv (by decide) (by decide) (by decide), c2 _ _ tow (by decide) (by decide) (by decide), c2 _ _ tgu (by decide) (by decide) (by decide), c2 _ _ tgi (by decide) (by decide) (by decide), x_hd, x_sh, x_gv, x_ow, x_gu, x_gi]
      exact a5 k hk
    · refine a6.c (by omega) ((congrFun (c2 _ _ tbg (by decide) (by decide) (by decide)) 3).trans x_b3) ((congrFun (c2 _ _ tbg (by decide) (by decide) (by decide)) 4).trans x_b4) ((f2.at (kt _ _ tmo (by decide)) rfl).trans x_33) (fun i => (congrFun (c2 _ _ tit (by decide) (by decide) (by decide)) i).trans (x_it i)) (fun i => (congrFun (c2 _ _ tth (by decide) (by decide) (by decide)) i).trans (x_th i)) (fun i => (congrFun (c2 _ _ tfr (by decide) (by decide) (by decide)) i).trans (x_fr i)) (fun i => (congrFun (c2 _ _ tto (by decide) (by decide) (by decide)) i).trans (x_to i)) (fun i => (congrFun (c2 _ _ tsg (by decide) (by decide) (by decide)) i).trans (x_sg i)) (fun i => (congrFun (c2 _ _ tmd (by decide) (by decide) (by decide)) i).trans (x_md i)) (fun i => (congrFun (c2 _ _ tmf (by decide) (by decide) (by decide)) i).trans (x_mf i)) (fun i => (congrFun (c2 _ _ tmt (by decide) (by decide) (by decide)) i).trans (x_mt i)) (fun i => (congrFun (c2 _ _ tmg (by decide) (by decide) (by decide)) i).trans (x_mg i)) (fun p hp hq => ?_) (fun k _ => (congrFun (c2 _ _ thd (by decide) (by decide) (by decide)) k).trans (x_hd k))
      obtain ⟨b, rb, tb, ab⟩ := a2.b hR tpl hp (by omega)
      rw [ab] at hq
      rw [show h_ad z1 (h_ad z (h_ad z cp 3) 1) p = b from h_ad.at (by rw [p6]; exact (if_neg (by omega)).trans rb), c2 _ _ tb (by decide) (by decide) (by decide), x.I tb (by decide) (no _) (h7 0 (by decide))]
      exact hq
    · intro k hk
      rw [c2 _ _ trk (by decide) (by decide) (by decide), c2 _ _ ttb (by decide) (by decide) (by decide), x_rk, x_tb]
      exact a7 k hk
    · exact (a8.X hR tdr tod thv tdw tdx x (hMR 303 (by decide)) (hMR 304 (by decide)) (fun k => g_avFp hM 302 k rfl rfl) (fun k => g_avFp hM 353 k rfl rfl) (fun k => g_avFp hM 354 k rfl rfl) (fun k => g_avFp hM 1328 k rfl rfl) (fun k => g_avFp hM 1329 k rfl rfl)).F hR1 (kt _ _ tdr (by decide)) (kt _ _ tod (by decide)) (kt _ _ thv (by decide)) (kt _ _ tdw (by decide)) (kt _ _ tdx (by decide)) f2 (fun _ => rfl) (fun _ => rfl) (fun _ => rfl) (fun _ => rfl) (fun _ => rfl)
    · exact a9.c (fun k _ => (congrFun (c2 _ _ tlw (by decide) (by decide) (by decide)) k).trans (x_lw k)) (fun k => (congrFun (c2 _ _ thy (by decide) (by decide) (by decide)) k).trans (x_hy k))
    · exact (a10.X hR two tww x (hMR 1103 (by decide)) (fun k => g_avFp hM 1153 k rfl rfl) (fun k => g_avFp hM 1338 k rfl rfl)).F hR1 (kt _ _ two (by decide)) f2 (fun _ => rfl) (fun k _ => f2.at (kt _ _ tww (by decide)) rfl)
    · intro p hp h6
      rw [c2 _ _ tfi (by decide) (by decide) (by decide), c2 _ _ tla (by decide) (by decide) (by decide), c2 _ _ tpa (by decide) (by decide) (by decide), c2 _ _ tri (by decide) (by decide) (by decide), c2 _ _ tss (by decide) (by decide) (by decide), x_fi, x_la, x_pa, x_ri, x_ss]
      exact a12 p (by omega) h6

