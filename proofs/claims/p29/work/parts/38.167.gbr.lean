/-! group B: what class and reference have in common -/
theorem h_R.ad {z : tZ} (h : h_R z) {a k t t' : Nat} (ha : z.ty a = t) (hb : h_rs t k = some (t', false)) (hk : k < h_len (h_so t)) : z.R a k = some (h_ad z a k) ∧ z.ty (h_ad z a k) = t' := by
  obtain ⟨b, rb, tb⟩ := h.at a k ha hb hk
  rw [h_ad.at rb]
  exact ⟨rb, tb⟩
theorem h_F.app {M1 M2 : List (Nat × Nat)} {z : tZ} {I I1 I2 : tI} (f1 : h_F M1 z I I1) (f2 : h_F M2 z I1 I2) : h_F (M1 ++ M2) z I I2 := by
  intro a k hm
  have h1 : h_m (M1 ++ M2) (z.ty a) k = (h_m M1 (z.ty a) k || h_m M2 (z.ty a) k) := by
    unfold h_m
    rw [List.any_append]
  rw [h1, Bool.or_eq_false_iff] at hm
  rw [f2 a k hm.2, f1 a k hm.1]
def g_sp (I : tI) (su us : Nat) : Prop := ∀ c : Nat, c < 8 → I su c = I us c
def g_tu (I : tI) (hd sh gv ow gu gi : Nat) : Prop := ∀ k : Nat, k < 80 → I hd k = I ow k ∧ I sh k = I gu k ∧ (0 ≤ (I hd k).toInt ∧ (I hd k).toInt ≤ 7) ∧ (0 ≤ (I sh k).toInt ∧ (I sh k).toInt ≤ 8) ∧ ((I sh k).toInt ≠ 0 → I gv k = I gi k ∧ 0 ≤ (I gv k).toInt ∧ (I gv k).toInt ≤ 7)
def g_m1 (z : tZ) (I : tI) (it th fr to_ sg md mf mt mg pl hd : Nat) (nb : Int) (i : Nat) : Prop := (I fr i = I mf i ∧ I to_ i = I mt i ∧ (0 ≤ (I mf i).toInt ∧ (I mf i).toInt ≤ 7) ∧ (0 ≤ (I mt i).toInt ∧ (I mt i).toInt ≤ 7) ∧ (I mf i).toInt ≠ (I mt i).toInt) ∧ (((I it i).toInt = 0 ∧ I th i = I md i ∧ 0 ≤ (I md i).toInt ∧ (I md i).toInt < nb ∧ (I (h_ad z pl (I md i).toInt.toNat) 0).toInt ≠ -1) ∨ ((I it i).toInt ≠ 0 ∧ (I md i).toInt = 60 + (I th i).toInt ∧ 0 ≤ (I th i).toInt ∧ (I th i).toInt ≤ 79 ∧ I sg i = I mg i ∧ (0 ≤ (I mg i).toInt ∧ (I mg i).toInt ≤ 8) ∧ I hd (I th i).toInt.toNat = I mf i))
def g_mv (z : tZ) (I : tI) (bg it th fr to_ sg mo md mf mt mg pl hd : Nat) (nb : Int) : Prop := I bg 3 = I mo 33 ∧ I bg 4 = q_cb (I mf) (I mt) (I mo 33).toInt.toNat ∧ (∀ i : Nat, (i : Int) < (I mo 33).toInt → g_m1 z I it th fr to_ sg md mf mt mg pl hd nb i) ∧ ∀ i j : Nat, i < j → (j : Int) < (I mo 33).toInt → (I md i).toInt ≠ (I md j).toInt
def g_rk (I : tI) (rk tb : Nat) : Prop := ∀ k : Nat, k < 8 → I rk k = I tb k
def g_or (z : tZ) (I : tI) (dr od hv dw dx : Nat) : Prop := ∀ y : Nat, y < 10 → ((I dr y).toInt = 0 ∧ ∀ i : Nat, i < 8 → I dw (8 * y + i) = -1) ∨ ((I dr y).toInt = 1 ∧ ∀ i : Nat, i < 8 → I (h_ad z od y) i = I dw (8 * y + i) ∧ I (h_ad z hv y) i = I dx (8 * y + i) ∧ 0 ≤ (I dw (8 * y + i)).toInt ∧ (I dw (8 * y + i)).toInt ≤ 7)
/-- tables that differ elsewhere -/
theorem h_plr.F {M : List (Nat × Nat)} {z : tZ} {I I1 : tI} {pl cb fi la pa ri su hc it hu : Nat} {nb : Int} (h : h_plr z I pl cb fi la pa ri su hc it hu nb) (hR : h_R z) (tp : z.ty pl = 101) (t1 : z.ty cb = 1314) (t2 : z.ty fi = 1315) (t3 : z.ty la = 1316) (t4 : z.ty pa = 1317) (t5 : z.ty ri = 1318) (t6 : z.ty su = 1319) (t7 : z.ty hc = 1320) (t8 : z.ty it = 1321) (t9 : z.ty hu = 1322) (f : h_F M z I I1) (h7 : ∀ k : Nat, k < 8 → h_m M 7 k = false) (m1 : ∀ k, h_m M 1314 k = false) (m2 : ∀ k, h_m M 1315 k = false) (m3 : ∀ k, h_m M 1316 k = false) (m4 : ∀ k, h_m M 1317 k = false) (m5 : ∀ k, h_m M 1318 k = false) (m6 : ∀ k, h_m M 1319 k = false) (m7 : ∀ k, h_m M 1320 k = false) (m8 : ∀ k, h_m M 1321 k = false) (m9 : ∀ k, h_m M 1322 k = false) : h_plr z I1 pl cb fi la pa ri su hc it hu nb :=
  h.c hR tp (fun b k tb hk => f.at tb (h7 k hk)) (fun k => ⟨f.at t1 (m1 k), f.at t2 (m2 k), f.at t3 (m3 k), f.at t4 (m4 k), f.at t5 (m5 k), f.at t6 (m6 k), f.at t7 (m7 k), f.at t8 (m8 k), f.at t9 (m9 k)⟩)
theorem h_dd.row {z : tZ} (hR : h_R z) {dd : Nat} (td : z.ty dd = 104) {c : Nat} (hc : c < 8) : z.R dd c = some (h_ad z dd c) ∧ z.ty (h_ad z dd c) = 154 := hR.ad td (rfl : h_rs 104 c = some (154, false)) (by rw [so_104]; exact hc)
theorem h_dd.F {M : List (Nat × Nat)} {z : tZ} {I I1 : tI} {dd de : Nat} (h : h_dd z I dd de) (hR : h_R z) (td : z.ty dd = 104) (te : z.ty de = 1323) (f : h_F M z I I1) (m1 : ∀ k, h_m M 154 k = false) (m2 : ∀ k, h_m M 1323 k = false) : h_dd z I1 dd de := by
  intro c y hc hy
  rw [f.at (h_dd.row hR td hc).2 (m1 y), f.at te (m2 _)]
  exact h c y hc hy
theorem g_sp.F {M : List (Nat × Nat)} {z : tZ} {I I1 : tI} {su us : Nat} (h : g_sp I su us) (t1 : z.ty su = 105) (t2 : z.ty us = 1324) (f : h_F M z I I1) (m1 : ∀ k, h_m M 105 k = false) (m2 : ∀ k, h_m M 1324 k = false) : g_sp I1 su us := by
  intro c hc
  rw [f.at t1 (m1 c), f.at t2 (m2 c)]
  exact h c hc
theorem g_tu.F {M : List (Nat × Nat)} {z : tZ} {I I1 : tI} {hd sh gv ow gu gi : Nat} (h : g_tu I hd sh gv ow gu gi) (t1 : z.ty hd = 1100) (t2 : z.ty sh = 1101) (t3 : z.ty gv = 1102) (t4 : z.ty ow = 1325) (t5 : z.ty gu = 1327) (t6 : z.ty gi = 1326) (f : h_F M z I I1) (m1 : ∀ k, h_m M 1100 k = false) (m2 : ∀ k, h_m M 1101 k = false) (m3 : ∀ k, h_m M 1102 k = false) (m4 : ∀ k, h_m M 1325 k = false) (m5 : ∀ k, h_m M 1327 k = false) (m6 : ∀ k, h_m M 1326 k = false) : g_tu I1 hd sh gv ow gu gi := by
  intro k hk
  rw [f.at t1 (m1 k), f.at t2 (m2 k), f.at t3 (m3 k), f.at t4 (m4 k), f.at t5 (m5 k), f.at t6 (m6 k)]
  exact h k hk
theorem g_rk.F {M : List (Nat × Nat)} {z : tZ} {I I1 : tI} {rk tb : Nat} (h : g_rk I rk tb) (t1 : z.ty rk = 300) (t2 : z.ty tb = 1332) (f : h_F M z I I1) (m1 : ∀ k, h_m M 300 k = false) (m2 : ∀ k, h_m M 1332 k = false) : g_rk I1 rk tb := by
  intro k hk
  rw [f.at t1 (m1 k), f.at t2 (m2 k)]
  exact h k hk
theorem g_or.F {M : List (Nat × Nat)} {z : tZ} {I I1 : tI} {dr od hv dw dx : Nat} (h : g_or z I dr od hv dw dx) (hR : h_R z) (t1 : z.ty dr = 302) (t2 : z.ty od = 303) (t3 : z.ty hv = 304) (t4 : z.ty dw = 1328) (t5 : z.ty dx = 1329) (f : h_F M z I I1) (m1 : ∀ k, h_m M 302 k = false) (m2 : ∀ k, h_m M 353 k = false) (m3 : ∀ k, h_m M 354 k = false) (m4 : ∀ k, h_m M 1328 k = false) (m5 : ∀ k, h_m M 1329 k = false) : g_or z I1 dr od hv dw dx := by
  intro y hy
  have a := (hR.ad t2 (rfl : h_rs 303 y = some (353, false)) (by rw [so_303]; exact hy)).2
  have b := (hR.ad t3 (rfl : h_rs 304 y = some (354, false)) (by rw [so_304]; exact hy)).2
  rw [f.at t1 (m1 y)]
  rcases h y hy with ⟨c1, c2⟩ | ⟨c1, c2⟩
  · exact Or.inl ⟨c1, fun i hi => by rw [f.at t4 (m4 _)]; exact c2 i hi⟩
  · exact Or.inr ⟨c1, fun i hi => by rw [f.at t4 (m4 _), f.at t5 (m5 _), f.at a (m2 _), f.at b (m3 _)]; exact c2 i hi⟩
/-- moves: what they rest on is the same -/
theorem g_m1.c {z z1 : tZ} {I I1 : tI} {it th fr to_ sg md mf mt mg pl hd : Nat} {nb nb1 : Int} {i : Nat} (h : g_m1 z I it th fr to_ sg md mf mt mg pl hd nb i) (hn : nb ≤ nb1) (e1 : I1 it i = I it i) (e2 : I1 th i = I th i) (e3 : I1 fr i = I fr i) (e4 : I1 to_ i = I to_ i) (e5 : I1 sg i = I sg i) (e6 : I1 md i = I md i) (e7 : I1 mf i = I mf i) (e8 : I1 mt i = I mt i) (e9 : I1 mg i = I mg i) (ep : ∀ p : Nat, (p : Int) < nb → (I (h_ad z pl p) 0).toInt ≠ -1 → (I1 (h_ad z1 pl p) 0).toInt ≠ -1) (eh : ∀ k : Nat, k < 80 → I1 hd k = I hd k) : g_m1 z1 I1 it th fr to_ sg md mf mt mg pl hd nb1 i := by
  unfold g_m1
  rw [e1, e2, e3, e4, e5, e6, e7, e8, e9]
  obtain ⟨h1, h2⟩ := h
  refine ⟨h1, ?_⟩
  rcases h2 with ⟨a1, a2, a3, a4, a5⟩ | ⟨a1, a2, a3, a4, a5, a6, a7⟩
  · exact Or.inl ⟨a1, a2, a3, by omega, ep _ (by omega) a5⟩
  · exact Or.inr ⟨a1, a2, a3, a4, a5, a6, by rw [eh _ (by omega)]; exact a7⟩
theorem g_mv.c {z z1 : tZ} {I I1 : tI} {bg it th fr to_ sg mo md mf mt mg pl hd : Nat} {nb nb1 : Int} (h : g_mv z I bg it th fr to_ sg mo md mf mt mg pl hd nb) (hn : nb ≤ nb1) (b3 : I1 bg 3 = I bg 3) (b4 : I1 bg 4 = I bg 4) (m3 : I1 mo 33 = I mo 33) (e1 : ∀ i : Nat, I1 it i = I it i) (e2 : ∀ i : Nat, I1 th i = I th i) (e3 : ∀ i : Nat, I1 fr i = I fr i) (e4 : ∀ i : Nat, I1 to_ i = I to_ i) (e5 : ∀ i : Nat, I1 sg i = I sg i) (e6 : ∀ i : Nat, I1 md i = I md i) (e7 : ∀ i : Nat, I1 mf i = I mf i) (e8 : ∀ i : Nat, I1 mt i = I mt i) (e9 : ∀ i : Nat, I1 mg i = I mg i) (ep : ∀ p : Nat, (p : Int) < nb → (I (h_ad z pl p) 0).toInt ≠ -1 → (I1 (h_ad z1 pl p) 0).toInt ≠ -1) (eh : ∀ k : Nat, k < 80 → I1 hd k = I hd k) : g_mv z1 I1 bg it th fr to_ sg mo md mf mt mg pl hd nb1 := by
  obtain ⟨h1, h2, h3, h4⟩ := h
  unfold g_mv
  rw [b3, b4, m3]
  refine ⟨h1, ?_, fun i hi => (h3 i hi).c hn (e1 i) (e2 i) (e3 i) (e4 i) (e5 i) (e6 i) (e7 i) (e8 i) (e9 i) ep eh, fun i j hij hj => ?_⟩
  · rw [h2]
    exact q_cb_eq _ (fun i _ => ⟨(e7 i).symm, (e8 i).symm⟩)
  · rw [e6 i, e6 j]
    exact h4 i j hij hj
theorem g_mv.F {M : List (Nat × Nat)} {z : tZ} {I I1 : tI} {bg it th fr to_ sg mo md mf mt mg pl hd : Nat} {nb : Int} (h : g_mv z I bg it th fr to_ sg mo md mf mt mg pl hd nb) (t1 : z.ty bg = 10) (t2 : z.ty it = 1005) (t3 : z.ty th = 1006) (t4 : z.ty fr = 1007) (t5 : z.ty to_ = 1008) (t6 : z.ty sg = 1009) (t7 : z.ty mo = 13) (t8 : z.ty md = 1334) (t9 : z.ty mf = 1335) (t10 : z.ty mt = 1336) (t11 : z.ty mg = 1337) (t12 : z.ty hd = 1100) (f : h_F M z I I1) (m1 : h_m M 10 3 = false) (m1b : h_m M 10 4 = false) (m2 : ∀ k, h_m M 1005 k = false) (m3 : ∀ k, h_m M 1006 k = false) (m4 : ∀ k, h_m M 1007 k = false) (m5 : ∀ k, h_m M 1008 k = false) (m6 : ∀ k, h_m M 1009 k = false) (m7 : h_m M 13 33 = false) (m8 : ∀ k, h_m M 1334 k = false) (m9 : ∀ k, h_m M 1335 k = false) (m10 : ∀ k, h_m M 1336 k = false) (m11 : ∀ k, h_m M 1337 k = false) (m12 : ∀ k, h_m M 1100 k = false) (ep : ∀ p : Nat, (p : Int) < nb → (I (h_ad z pl p) 0).toInt ≠ -1 → (I1 (h_ad z pl p) 0).toInt ≠ -1) : g_mv z I1 bg it th fr to_ sg mo md mf mt mg pl hd nb :=
  h.c (Int.le_refl _) (f.at t1 m1) (f.at t1 m1b) (f.at t7 m7) (fun i => f.at t2 (m2 i)) (fun i => f.at t3 (m3 i)) (fun i => f.at t4 (m4 i)) (fun i => f.at t5 (m5 i)) (fun i => f.at t6 (m6 i)) (fun i => f.at t8 (m8 i)) (fun i => f.at t9 (m9 i)) (fun i => f.at t10 (m10 i)) (fun i => f.at t11 (m11 i)) ep (fun k _ => f.at t12 (m12 k))
/-- no moves -/
theorem g_mv.z {z : tZ} {I : tI} {bg it th fr to_ sg mo md mf mt mg pl hd : Nat} {nb : Int} (h3 : I bg 3 = 0) (h4 : I bg 4 = 0) (hm : I mo 33 = 0) : g_mv z I bg it th fr to_ sg mo md mf mt mg pl hd nb := by
  have z0 : (0 : Int32).toInt = 0 := by decide
  unfold g_mv
  rw [h3, h4, hm, z0]
  exact ⟨rfl, rfl, fun i hi => absurd hi (by omega), fun i j _ hj => absurd hj (by omega)⟩
/-- places of players that haven't come yet -/
def g_pz (I : tI) (fi la pa ri su : Nat) (nb : Int) : Prop := ∀ p : Nat, nb ≤ (p : Int) → p < 60 → I fi p = 0 ∧ I la p = 0 ∧ I pa p = 0 ∧ I ri p = 0 ∧ I su p = 0
theorem g_pz.F {M : List (Nat × Nat)} {z : tZ} {I I1 : tI} {fi la pa ri su : Nat} {nb : Int} (h : g_pz I fi la pa ri su nb) (t2 : z.ty fi = 1315) (t3 : z.ty la = 1316) (t4 : z.ty pa = 1317) (t5 : z.ty ri = 1318) (t6 : z.ty su = 1319) (f : h_F M z I I1) (m2 : ∀ k, h_m M 1315 k = false) (m3 : ∀ k, h_m M 1316 k = false) (m4 : ∀ k, h_m M 1317 k = false) (m5 : ∀ k, h_m M 1318 k = false) (m6 : ∀ k, h_m M 1319 k = false) : g_pz I1 fi la pa ri su nb := by
  intro p hp h60
  rw [f.at t2 (m2 p), f.at t3 (m3 p), f.at t4 (m4 p), f.at t5 (m5 p), f.at t6 (m6 p)]
  exact h p hp h60
def h_gb (z : tZ) (I : tI) (cp mo : Nat) : Prop := I (h_ad z cp 3) 2 = I mo 13 ∧ h_plr z I (h_ad z (h_ad z cp 3) 1) (h_ad z mo 14) (h_ad z mo 15) (h_ad z mo 16) (h_ad z mo 17) (h_ad z mo 18) (h_ad z mo 19) (h_ad z mo 20) (h_ad z mo 21) (h_ad z mo 22) (I mo 13).toInt ∧ h_dd z I (h_ad z (h_ad z cp 3) 4) (h_ad z mo 23) ∧ g_sp I (h_ad z (h_ad z cp 3) 5) (h_ad z mo 24) ∧ g_tu I (h_ad z (h_ad z cp 4) 0) (h_ad z (h_ad z cp 4) 1) (h_ad z (h_ad z cp 4) 2) (h_ad z mo 25) (h_ad z mo 27) (h_ad z mo 26) ∧ g_mv z I (h_ad z cp 5) (h_ad z (h_ad z cp 5) 5) (h_ad z (h_ad z cp 5) 6) (h_ad z (h_ad z cp 5) 7) (h_ad z (h_ad z cp 5) 8) (h_ad z (h_ad z cp 5) 9) mo (h_ad z mo 34) (h_ad z mo 35) (h_ad z mo 36) (h_ad z mo 37) (h_ad z (h_ad z cp 3) 1) (h_ad z (h_ad z cp 4) 0) (I mo 13).toInt ∧ g_rk I (h_ad z (h_ad z cp 7) 0) (h_ad z mo 32) ∧ g_or z I (h_ad z (h_ad z cp 7) 2) (h_ad z (h_ad z cp 7) 3) (h_ad z (h_ad z cp 7) 4) (h_ad z mo 28) (h_ad z mo 29) ∧ h_lbd I (h_ad z mo 10) (h_ad z mo 11) ∧ h_tw z I (h_ad z (h_ad z cp 4) 3) (h_ad z mo 38) ∧ h_wp z I (h_ad z (h_ad z cp 3) 1) (h_ad z mo 38) (I mo 13).toInt ∧ g_pz I (h_ad z mo 15) (h_ad z mo 16) (h_ad z mo 17) (h_ad z mo 18) (h_ad z mo 19) (I mo 13).toInt
/-- the kinds of all places -/
def h_tyB (z : tZ) (cp mo : Nat) : Prop := (z.ty cp = 12 ∧ z.ty mo = 13) ∧ (z.ty (h_ad z cp 3) = 1 ∧ z.ty (h_ad z cp 4) = 11 ∧ z.ty (h_ad z cp 5) = 10 ∧ z.ty (h_ad z cp 7) = 3) ∧ (z.ty (h_ad z (h_ad z cp 3) 1) = 101 ∧ z.ty (h_ad z (h_ad z cp 3) 4) = 104 ∧ z.ty (h_ad z (h_ad z cp 3) 5) = 105) ∧ (z.ty (h_ad z (h_ad z cp 4) 0) = 1100 ∧ z.ty (h_ad z (h_ad z cp 4) 1) = 1101 ∧ z.ty (h_ad z (h_ad z cp 4) 2) = 1102 ∧ z.ty (h_ad z (h_ad z cp 4) 3) = 1103) ∧ (z.ty (h_ad z (h_ad z cp 5) 5) = 1005 ∧ z.ty (h_ad z (h_ad z cp 5) 6) = 1006 ∧ z.ty (h_ad z (h_ad z cp 5) 7) = 1007 ∧ z.ty (h_ad z (h_ad z cp 5) 8) = 1008 ∧ z.ty (h_ad z (h_ad z cp 5) 9) = 1009) ∧ (z.ty (h_ad z (h_ad z cp 7) 0) = 300 ∧ z.ty (h_ad z (h_ad z cp 7) 2) = 302 ∧ z.ty (h_ad z (h_ad z cp 7) 3) = 303 ∧ z.ty (h_ad z (h_ad z cp 7) 4) = 304) ∧ (z.ty (h_ad z mo 10) = 1310 ∧ z.ty (h_ad z mo 11) = 1311 ∧ z.ty (h_ad z mo 32) = 1332 ∧ z.ty (h_ad z mo 38) = 1338) ∧ (z.ty (h_ad z mo 14) = 1314 ∧ z.ty (h_ad z mo 15) = 1315 ∧ z.ty (h_ad z mo 16) = 1316 ∧ z.ty (h_ad z mo 17) = 1317 ∧ z.ty (h_ad z mo 18) = 1318 ∧ z.ty (h_ad z mo 19) = 1319 ∧ z.ty (h_ad z mo 20) = 1320 ∧ z.ty (h_ad z mo 21) = 1321 ∧ z.ty (h_ad z mo 22) = 1322) ∧ (z.ty (h_ad z mo 23) = 1323 ∧ z.ty (h_ad z mo 24) = 1324 ∧ z.ty (h_ad z mo 25) = 1325 ∧ z.ty (h_ad z mo 26) = 1326 ∧ z.ty (h_ad z mo 27) = 1327 ∧ z.ty (h_ad z mo 28) = 1328 ∧ z.ty (h_ad z mo 29) = 1329) ∧ (z.ty (h_ad z mo 34) = 1334 ∧ z.ty (h_ad z mo 35) = 1335 ∧ z.ty (h_ad z mo 36) = 1336 ∧ z.ty (h_ad z mo 37) = 1337)

