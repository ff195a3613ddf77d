theorem h_tyB.mk {z : tZ} (hR : h_R z) {cp mo : Nat} (tcp : z.ty cp = 12) (tmo : z.ty mo = 13) : h_tyB z cp mo := by
  have tbk := (hR.ad tcp (rfl : h_rs 12 3 = some (1, false)) (by decide)).2
  have ttu := (hR.ad tcp (rfl : h_rs 12 4 = some (11, false)) (by decide)).2
  have tbg := (hR.ad tcp (rfl : h_rs 12 5 = some (10, false)) (by decide)).2
  have tdt := (hR.ad tcp (rfl : h_rs 12 7 = some (3, false)) (by decide)).2
  have tpl := (hR.ad tbk (rfl : h_rs 1 1 = some (101, false)) (by decide)).2
  have tdd := (hR.ad tbk (rfl : h_rs 1 4 = some (104, false)) (by decide)).2
  have tsu := (hR.ad tbk (rfl : h_rs 1 5 = some (105, false)) (by decide)).2
  have thd := (hR.ad ttu (rfl : h_rs 11 0 = some (1100, false)) (by decide)).2
  have tsh := (hR.ad ttu (rfl : h_rs 11 1 = some (1101, false)) (by decide)).2
  have tgv := (hR.ad ttu (rfl : h_rs 11 2 = some (1102, false)) (by decide)).2
  have two := (hR.ad ttu (rfl : h_rs 11 3 = some (1103, false)) (by decide)).2
  have tit := (hR.ad tbg (rfl : h_rs 10 5 = some (1005, false)) (by decide)).2
  have tth := (hR.ad tbg (rfl : h_rs 10 6 = some (1006, false)) (by decide)).2
  have tfr := (hR.ad tbg (rfl : h_rs 10 7 = some (1007, false)) (by decide)).2
  have tto := (hR.ad tbg (rfl : h_rs 10 8 = some (1008, false)) (by decide)).2
  have tsg := (hR.ad tbg (rfl : h_rs 10 9 = some (1009, false)) (by decide)).2
  have trk := (hR.ad tdt (rfl : h_rs 3 0 = some (300, false)) (by decide)).2
  have tdr := (hR.ad tdt (rfl : h_rs 3 2 = some (302, false)) (by decide)).2
  have tod := (hR.ad tdt (rfl : h_rs 3 3 = some (303, false)) (by decide)).2
  have thv := (hR.ad tdt (rfl : h_rs 3 4 = some (304, false)) (by decide)).2
  have tlw := (hR.ad tmo (rfl : h_rs 13 10 = some (1310, false)) (by decide)).2
  have thy := (hR.ad tmo (rfl : h_rs 13 11 = some (1311, false)) (by decide)).2
  have ttb := (hR.ad tmo (rfl : h_rs 13 32 = some (1332, false)) (by decide)).2
  have tww := (hR.ad tmo (rfl : h_rs 13 38 = some (1338, false)) (by decide)).2
  have tcb := (hR.ad tmo (rfl : h_rs 13 14 = some (1314, false)) (by decide)).2
  have tfi := (hR.ad tmo (rfl : h_rs 13 15 = some (1315, false)) (by decide)).2
  have tla := (hR.ad tmo (rfl : h_rs 13 16 = some (1316, false)) (by decide)).2
  have tpa := (hR.ad tmo (rfl : h_rs 13 17 = some (1317, false)) (by decide)).2
  have tri := (hR.ad tmo (rfl : h_rs 13 18 = some (1318, false)) (by decide)).2
  have tss := (hR.ad tmo (rfl : h_rs 13 19 = some (1319, false)) (by decide)).2
  have thc := (hR.ad tmo (rfl : h_rs 13 20 = some (1320, false)) (by decide)).2
  have tis := (hR.ad tmo (rfl : h_rs 13 21 = some (1321, false)) (by decide)).2
  have thu := (hR.ad tmo (rfl : h_rs 13 22 = some (1322, false)) (by decide)).2
  have tde := (hR.ad tmo (rfl : h_rs 13 23 = some (1323, false)) (by decide)).2
  have tus := (hR.ad tmo (rfl : h_rs 13 24 = some (1324, false)) (by decide)).2
  have tow := (hR.ad tmo (rfl : h_rs 13 25 = some (1325, false)) (by decide)).2
  have tgi := (hR.ad tmo (rfl : h_rs 13 26 = some (1326, false)) (by decide)).2
  have tgu := (hR.ad tmo (rfl : h_rs 13 27 = some (1327, false)) (by decide)).2
  have tdw := (hR.ad tmo (rfl : h_rs 13 28 = some (1328, false)) (by decide)).2
  have tdx := (hR.ad tmo (rfl : h_rs 13 29 = some (1329, false)) (by decide)).2
  have tmd := (hR.ad tmo (rfl : h_rs 13 34 = some (1334, false)) (by decide)).2
  have tmf := (hR.ad tmo (rfl : h_rs 13 35 = some (1335, false)) (by decide)).2
  have tmt := (hR.ad tmo (rfl : h_rs 13 36 = some (1336, false)) (by decide)).2
  have tmg := (hR.ad tmo (rfl : h_rs 13 37 = some (1337, false)) (by decide)).2
  exact ⟨⟨tcp, tmo⟩, ⟨tbk, ttu, tbg, tdt⟩, ⟨tpl, tdd, tsu⟩, ⟨thd, tsh, tgv, two⟩, ⟨tit, tth, tfr, tto, tsg⟩, ⟨trk, tdr, tod, thv⟩, ⟨tlw, thy, ttb, tww⟩, ⟨tcb, tfi, tla, tpa, tri, tss, thc, tis, thu⟩, ⟨tde, tus, tow, tgi, tgu, tdw, tdx⟩, ⟨tmd, tmf, tmt, tmg⟩⟩
def g_av (q : Nat × Nat) : Bool := !([10, 101, 104, 105, 154, 300, 302, 353, 354, 708, 1005, 1006, 1007, 1008, 1009, 1100, 1101, 1102, 1153, 1310, 1311, 1314, 1315, 1316, 1317, 1318, 1319, 1320, 1321, 1322, 1323, 1324, 1325, 1326, 1327, 1328, 1329, 1332, 1334, 1335, 1336, 1337, 1338].contains q.1) && (q.1 != 7 || q.2 == 8) && (q.1 != 1 || q.2 == 3 || q.2 == 7) && (q.1 != 13 || !([13, 33, 999].contains q.2))
theorem g_avF {M : List (Nat × Nat)} (hM : M.all g_av = true) (t k : Nat) (h1 : g_av (t, k) = false) (h2 : g_av (t, 999) = false) : h_m M t k = false := by
  rw [Bool.eq_false_iff]
  intro h
  unfold h_m at h
  rw [List.any_eq_true] at h
  obtain ⟨q, hq, h3⟩ := h
  rw [Bool.and_eq_true] at h3
  have h4 := List.all_eq_true.mp hM q hq
  have e1 : q.1 = t := by simpa using h3.1
  have e2 : q.2 = 999 ∨ q.2 = k := by simpa using h3.2
  obtain ⟨q1, q2⟩ := q
  simp only at e1 e2
  subst e1
  rcases e2 with e2 | e2
  · rw [e2, h2] at h4
    cases h4
  · rw [e2, h1] at h4
    cases h4
theorem h_gb.F {M : List (Nat × Nat)} {z : tZ} {I I1 : tI} {cp mo : Nat} (G : h_gb z I cp mo) (hR : h_R z) (tcp : z.ty cp = 12) (tmo : z.ty mo = 13) (f : h_F M z I I1) (hM : M.all g_av = true) (h60 : (I mo 13).toInt ≤ 60) : h_gb z I1 cp mo := by
  obtain ⟨⟨tcp, tmo⟩, ⟨tbk, ttu, tbg, tdt⟩, ⟨tpl, tdd, tsu⟩, ⟨thd, tsh, tgv, two⟩, ⟨tit, tth, tfr, tto, tsg⟩, ⟨trk, tdr, tod, thv⟩, ⟨tlw, thy, ttb, tww⟩, ⟨tcb, tfi, tla, tpa, tri, tss, thc, tis, thu⟩, ⟨tde, tus, tow, tgi, tgu, tdw, tdx⟩, ⟨tmd, tmf, tmt, tmg⟩⟩ := h_tyB.mk hR tcp tmo
  obtain ⟨a1, a2, a3, a4, a5, a6, a7, a8, a9, a10, a11, a12⟩ := G
  have e13 : I1 mo 13 = I mo 13 := f.at tmo (g_avF hM 13 13 rfl rfl)
  unfold h_gb
  rw [e13]
  refine ⟨(f.at tbk (g_avF hM 1 2 rfl rfl)).trans a1, ?_, ?_, ?_, ?_, ?_, ?_, ?_, ?_, ?_, ?_, ?_⟩
  · exact a2.F hR tpl tcb tfi tla tpa tri tss thc tis thu f (fun k hk => by
      rcases (show k = 0 ∨ k = 1 ∨ k = 2 ∨ k = 3 ∨ k = 4 ∨ k = 5 ∨ k = 6 ∨ k = 7 by omega) with rfl | rfl | rfl | rfl | rfl | rfl | rfl | rfl <;> exact g_avF hM 7 _ rfl rfl) (fun k => g_avF hM 1314 k rfl rfl) (fun k => g_avF hM 1315 k rfl rfl) (fun k => g_avF hM 1316 k rfl rfl) (fun k => g_avF hM 1317 k rfl rfl) (fun k => g_avF hM 1318 k rfl rfl) (fun k => g_avF hM 1319 k rfl rfl) (fun k => g_avF hM 1320 k rfl rfl) (fun k => g_avF hM 1321 k rfl rfl) (fun k => g_avF hM 1322 k rfl rfl)
  · exact a3.F hR tdd tde f (fun k => g_avF hM 154 k rfl rfl) (fun k => g_avF hM 1323 k rfl rfl)
  · exact a4.F tsu tus f (fun k => g_avF hM 105 k rfl rfl) (fun k => g_avF hM 1324 k rfl rfl)
  · exact a5.F thd tsh tgv tow tgu tgi f (fun k => g_avF hM 1100 k rfl rfl) (fun k => g_avF hM 1101 k rfl rfl) (fun k => g_avF hM 1102 k rfl rfl) (fun k => g_avF hM 1325 k rfl rfl) (fun k => g_avF hM 1327 k rfl rfl) (fun k => g_avF hM 1326 k rfl rfl)
  · exact a6.F tbg tit tth tfr tto tsg tmo tmd tmf tmt tmg thd f (g_avF hM 10 3 rfl rfl) (g_avF hM 10 4 rfl rfl) (fun k => g_avF hM 1005 k rfl rfl) (fun k => g_avF hM 1006 k rfl rfl) (fun k => g_avF hM 1007 k rfl rfl) (fun k => g_avF hM 1008 k rfl rfl) (fun k => g_avF hM 1009 k rfl rfl) (g_avF hM 13 33 rfl rfl) (fun k => g_avF hM 1334 k rfl rfl) (fun k => g_avF hM 1335 k rfl rfl) (fun k => g_avF hM 1336 k rfl rfl) (fun k => g_avF hM 1337 k rfl rfl) (fun k => g_avF hM 1100 k rfl rfl) (fun p hp hq => by
      obtain ⟨b, rb, tb, ab⟩ := a2.b hR tpl hp (by omega)
      rw [ab] at hq ⊢
      rw [f.at tb (g_avF hM 7 0 rfl rfl)]
      exact hq)
  · exact a7.F trk ttb f (fun k => g_avF hM 300 k rfl rfl) (fun k => g_avF hM 1332 k rfl rfl)
  · exact a8.F hR tdr tod thv tdw tdx f (fun k => g_avF hM 302 k rfl rfl) (fun k => g_avF hM 353 k rfl rfl) (fun k => g_avF hM 354 k rfl rfl) (fun k => g_avF hM 1328 k rfl rfl) (fun k => g_avF hM 1329 k rfl rfl)
  · exact a9.c (fun k _ => f.at tlw (g_avF hM 1310 k rfl rfl)) (fun k => f.at thy (g_avF hM 1311 k rfl rfl))
  · exact a10.F hR two f (fun k => g_avF hM 1153 k rfl rfl) (fun k _ => f.at tww (g_avF hM 1338 k rfl rfl))
  · exact a11.F hR tpl f (fun k => g_avF hM 708 k rfl rfl) (fun k _ => f.at tww (g_avF hM 1338 k rfl rfl))
  · exact a12.F tfi tla tpa tri tss f (fun k => g_avF hM 1315 k rfl rfl) (fun k => g_avF hM 1316 k rfl rfl) (fun k => g_avF hM 1317 k rfl rfl) (fun k => g_avF hM 1318 k rfl rfl) (fun k => g_avF hM 1319 k rfl rfl)
/-- a call of one side leaves the other's cells -/
theorem h_F.ref {M : List (Nat × Nat)} {z : tZ} {I I1 : tI} (f : h_F M z I I1) (hM : M.all (fun q => decide (q.1 < 1300) && q.1 != 13) = true) {a t : Nat} (ha : z.ty a = t) (ht : 1300 ≤ t ∨ t = 13) : I1 a = I a := by
  funext k
  refine f.at ha ?_
  rw [Bool.eq_false_iff]
  intro h
  unfold h_m at h
  rw [List.any_eq_true] at h
  obtain ⟨q, hq, h3⟩ := h
  rw [Bool.and_eq_true] at h3
  have h4 := List.all_eq_true.mp hM q hq
  have e1 : q.1 = t := by simpa using h3.1
  simp at h4
  omega
theorem h_F.cls {M : List (Nat × Nat)} {z : tZ} {I I1 : tI} (f : h_F M z I I1) (hM : M.all (fun q => decide (1300 ≤ q.1) || q.1 == 13) = true) {a t : Nat} (ha : z.ty a = t) (ht : t < 1300 ∧ t ≠ 13) : I1 a = I a := by
  funext k
  refine f.at ha ?_
  rw [Bool.eq_false_iff]
  intro h
  unfold h_m at h
  rw [List.any_eq_true] at h
  obtain ⟨q, hq, h3⟩ := h
  rw [Bool.and_eq_true] at h3
  have h4 := List.all_eq_true.mp hM q hq
  have e1 : q.1 = t := by simpa using h3.1
  simp at h4
  omega
theorem m_cnt_eq {z : tZ} {I I1 : tI} {mo : Nat} (e0 : I1 mo = I mo) (e14 : I1 (h_ad z mo 14) = I (h_ad z mo 14)) (e15 : I1 (h_ad z mo 15) = I (h_ad z mo 15)) (e16 : I1 (h_ad z mo 16) = I (h_ad z mo 16)) (e17 : I1 (h_ad z mo 17) = I (h_ad z mo 17)) (e18 : I1 (h_ad z mo 18) = I (h_ad z mo 18)) (e20 : I1 (h_ad z mo 20) = I (h_ad z mo 20)) (e21 : I1 (h_ad z mo 21) = I (h_ad z mo 21)) (e22 : I1 (h_ad z mo 22) = I (h_ad z mo 22)) (e23 : I1 (h_ad z mo 23) = I (h_ad z mo 23)) (c : Int) (y : Int32) (h : Int) : m_cnt z I1 mo c y h = m_cnt z I mo c y h ∧ m_many z I1 mo c y = m_many z I mo c y := by
  have ef : m_f z I1 mo c y h = m_f z I mo c y h := by
    funext p
    unfold m_f
    rw [e0, e14, e15, e16, e17, e18, e20, e21, e22]
  have eg : m_g z I1 mo c y = m_g z I mo c y := by
    funext p
    unfold m_g
    rw [e14, e15, e16, e20, e21]
  unfold m_cnt m_many
  rw [ef, eg, e0, e23]
  exact ⟨rfl, rfl⟩

