set_option maxHeartbeats 4000000 in
set_option maxRecDepth 100000 in
theorem tX7_findGainsR (l : Launch) (E : tE) (X : tX) (A : Nat → Prop) (z : tZ) (I0 : tI) (L0 : tL) (a0 : Nat) (t_a0 : z.ty a0 = 8) (c : Int32) (c_t : Int) (h_c : c.toInt = c_t) (b_c : 0 ≤ c_t ∧ c_t ≤ 7) (u_ : Nat → Int) (hcl : ∀ b : Nat, h_of (z.R (h_ad z (h_ad z (h_ad z a0 0) 0) 1)) (h_ad z (h_ad z (h_ad z a0 0) 0) 0) (I0 (h_ad z a0 0) 3).toInt b → h_lw I0 b (h_ad z b 0) (h_ad z b 1) u_) (hob : q_okb u_) (hnn : ∀ p : Nat, (p : Int) < (I0 (h_ad z a0 0) 2).toInt → z.R (h_ad z (h_ad z a0 0) 1) p ≠ none) (hU : h_U z) (CB : Nat → Int32) (PP : Nat → Int32) (QQ : Nat → Int32) (GG : Int → Nat → Nat → Int) (hlk : (∀ p : Nat, p < (I0 (h_ad z a0 0) 2).toInt.toNat → CB p = c_cb z I0 (h_ad z a0 0) p) ∧ (∀ p : Nat, p < (I0 (h_ad z a0 0) 2).toInt.toNat → PP p = c_pyp z I0 (h_ad z a0 0) p) ∧ (∀ p : Nat, p < (I0 (h_ad z a0 0) 2).toInt.toNat → QQ p = c_ctp z I0 (h_ad z a0 0) (u_ 6) p) ∧ ∀ (c : Int) (o i : Nat), 0 ≤ c → c ≤ 7 → o < (I0 (h_ad z a0 0) 2).toInt.toNat → i < (I0 (h_ad z a0 0) 2).toInt.toNat → GG c o i = c_G z I0 (h_ad z a0 0) u_ c o i) (hln : c_st I0 (h_ad z a0 3) (I0 (h_ad z a0 0) 2).toInt.toNat CB 9 ∧ c_lq I0 (h_ad z a0 2) (h_ad z a0 4) (h_ad z a0 5) (I0 (h_ad z a0 0) 2).toInt.toNat CB PP QQ 8 0) (hwb : ∀ c p : Nat, c < 8 → p < (I0 (h_ad z a0 0) 2).toInt.toNat → 0 ≤ (c_w z I0 (h_ad z a0 0) (c : Int) p).toInt ∧ (c_w z I0 (h_ad z a0 0) (c : Int) p).toInt ≤ 9999) (hpy : ∀ p : Nat, p < (I0 (h_ad z a0 0) 2).toInt.toNat → 0 ≤ (PP p).toInt ∧ (PP p).toInt ≤ 400000) : Met l yX7_findGains wsX7_findGains ({ frames := 5, cells := 0, slots := 0, locals := 320 }) (va_Pc [.ref a0, .int c] (h_P E X A z I0 L0)) (va_Qv (fun (I1 : tI) => h_I z I1 ∧ h_F [(2, 0), (2, 1), (2, 2), (2, 3), (808, 999), (807, 999), (856, 999)] z I0 I1 ∧ ((∀ p : Nat, p < (I0 (h_ad z a0 0) 2).toInt.toNat → (CB p).toInt = c_t → c_gp z I1 (h_ad z a0 6) (h_ad z a0 7) (I0 (h_ad z a0 0) 2).toInt.toNat CB GG c_t p ∧ (I1 (h_ad z a0 7) p).toInt ≤ (I1 (h_ad z a0 8) c_t.toNat).toInt) ∧ (0 ≤ (I1 (h_ad z a0 8) c_t.toNat).toInt ∧ (I1 (h_ad z a0 8) c_t.toNat).toInt ≤ 9999) ∧ (∀ p : Nat, p < (I0 (h_ad z a0 0) 2).toInt.toNat → (CB p).toInt ≠ c_t → I1 (h_ad z a0 7) p = I0 (h_ad z a0 7) p ∧ ∀ q : Nat, I1 (h_ad z (h_ad z a0 6) p) q = I0 (h_ad z (h_ad z a0 6) p) q) ∧ ∀ d : Nat, d ≠ c_t.toNat → I1 (h_ad z a0 8) d = I0 (h_ad z a0 8) d)) (fun (I1 : tI) t => h_B E A z I1 L0 t) A) 0 0 A := by
  refine Met.ofW (cc := cX7_findGains) (maxL := 11) (ret := none) (by decide) rfl ?_
  intro pr_ ev_ s m args below meth cd_ s₁ B hml hv
  obtain ⟨rfl, hE, hk, hX, hA, hK, hI, hR, hB0⟩ := hv
  have g : h_G h_so h_fk E A z I0 L0 s s.heap s.heap [] := ⟨hK, va_S.rf, hB0⟩
  have hF : h_F [(2, 0), (2, 1), (2, 2), (2, 3), (808, 999), (807, 999), (856, 999)] z I0 I0 := h_F.rf
  have hx := B.exec
  have hb := B.bytes
  have hr := B.returns
  have hts := atoms_spec (ws := wsX7_findGains) B.pre
  have hown : s.vm.findClass RX7 = some m.cls := findClass_of_methodNamed B.named
  have hlocks := B.notSynchronized
  have iX7 : ∀ w ∈ u_ws RX7 TX7 13, w ∈ wsX7_findGains := by decide +kernel
  have iX0 : ∀ w ∈ u_ws RX0 TX0 9, w ∈ wsX7_findGains := by decide +kernel
  have hl := lv_entry ([.ref a0, .int c]) (n := 11) (Nat.le_of_ble_eq_true rfl)
  rw [lg_entry_eq]
  generalize (lg_sl ([.ref a0, .int c]) ++ List.replicate (11 - (lg_sl ([.ref a0, .int c])).length) Slot.unset).toArray = ls at hl ⊢
  have hl : lv_has ls 11 [(0, .ref a0), (1, .int c)] := hl
  have hnn0 := hnn
  have hcl0 := hcl
  obtain ⟨bk, rbk, tbk⟩ := hR.at a0 0 t_a0 (rfl : h_rs 8 0 = some (1, false)) (by decide)
  have abk : h_ad z a0 0 = bk := h_ad.at rbk
  obtain ⟨ln, rln, tln⟩ := hR.at a0 2 t_a0 (rfl : h_rs 8 2 = some (802, false)) (by decide)
  have aln : h_ad z a0 2 = ln := h_ad.at rln
  obtain ⟨st, rst, tst⟩ := hR.at a0 3 t_a0 (rfl : h_rs 8 3 = some (803, false)) (by decide)
  have ast : h_ad z a0 3 = st := h_ad.at rst
  obtain ⟨pa, rpa, tpa⟩ := hR.at a0 4 t_a0 (rfl : h_rs 8 4 = some (804, false)) (by decide)
  have apa : h_ad z a0 4 = pa := h_ad.at rpa
  obtain ⟨co, rco, tco⟩ := hR.at a0 5 t_a0 (rfl : h_rs 8 5 = some (805, false)) (by decide)
  have aco : h_ad z a0 5 = co := h_ad.at rco
  obtain ⟨gn, rgn, tgn⟩ := hR.at a0 6 t_a0 (rfl : h_rs 8 6 = some (806, false)) (by decide)
  have agn : h_ad z a0 6 = gn := h_ad.at rgn
  obtain ⟨pt, rpt, tpt⟩ := hR.at a0 7 t_a0 (rfl : h_rs 8 7 = some (807, false)) (by decide)
  have apt : h_ad z a0 7 = pt := h_ad.at rpt
  obtain ⟨ct, rct, tct⟩ := hR.at a0 8 t_a0 (rfl : h_rs 8 8 = some (808, false)) (by decide)
  have act : h_ad z a0 8 = ct := h_ad.at rct
  obtain ⟨pl, rpl, tpl⟩ := hR.at bk 1 tbk (rfl : h_rs 1 1 = some (101, false)) (by decide)
  have apl : h_ad z bk 1 = pl := h_ad.at rpl
  obtain ⟨f0_2, ef0_2⟩ : ∃ v : Int32, v = I0 bk 2 := ⟨_, rfl⟩
  have qf0_2 : (I0 bk 2).toInt = f0_2.toInt := congrArg Int32.toInt ef0_2.symm
  have jf0_2 := hI.rd bk 2 tbk ef0_2 (rfl : h_bd 1 2 = (0, 60))
  obtain ⟨f0_3, ef0_3⟩ : ∃ v : Int32, v = I0 bk 3 := ⟨_, rfl⟩
  have qf0_3 : (I0 bk 3).toInt = f0_3.toInt := congrArg Int32.toInt ef0_3.symm
  have jf0_3 := hI.rd bk 3 tbk ef0_3 (rfl : h_bd 1 3 = (0, 9))
  obtain ⟨lb, rlb, tlb⟩ := hR.at bk 0 tbk (rfl : h_rs 1 0 = some (4, false)) (by decide)
  have alb : h_ad z bk 0 = lb := h_ad.at rlb
  obtain ⟨un, run, tun⟩ := hR.at lb 0 tlb (rfl : h_rs 4 0 = some (6, false)) (by decide)
  have aun : h_ad z lb 0 = un := h_ad.at run
  obtain ⟨tx, rtx, ttx⟩ := hR.at lb 1 tlb (rfl : h_rs 4 1 = some (401, false)) (by decide)
  have atx : h_ad z lb 1 = tx := h_ad.at rtx
  have hclB := hcl
  rw [abk] at hclB
  rw [abk, alb, aun, atx, qf0_3] at hcl
  have hnnB := hnn
  rw [abk] at hnnB
  rw [abk, apl, qf0_2] at hnn
  rw [abk] at hwb hpy hln
  rw [ast, aln, apa, aco] at hln
  rw [abk] at hlk
  obtain ⟨hcb, hPP, hQQ, hGG⟩ := hlk
  obtain ⟨N, eN⟩ : ∃ n : Nat, n = f0_2.toInt.toNat := ⟨_, rfl⟩
  rw [qf0_2, ← eN] at hln hwb hpy hcb hPP hQQ hGG
  obtain ⟨hst, hlq⟩ := hln
  have hC8 : c_t.toNat < 8 := by omega
  have cC : ((c_t.toNat : Nat) : Int) = c_t := by omega
  have kc : c.toNatClampNeg = c_t.toNat := h_keq h_c (by omega) (by omega)
  have sC := hst c_t.toNat (by omega)
  have sC1 := hst (c_t.toNat + 1) (by omega)
  have s8 := hst 8 (by decide)
  have sd : q_sp CB N (c_t.toNat + 1) = q_sp CB N c_t.toNat + q_ct (q_mc CB ((c_t.toNat : Nat) : Int)) N := rfl
  have sb := q_sp_n (cb := CB) 8 N
  have sm := q_sp_m (cb := CB) (n := N) (show c_t.toNat + 1 ≤ 8 by omega)
  have cb7 : ∀ q : Nat, q < N → (CB q).toInt ≤ 7 := fun q hq => by rw [hcb q hq]; unfold c_cb; rw [apl]; obtain ⟨b, rb, tb, ab⟩ := h_plb hR (p := q) tpl (by omega) (hnn q (by omega)); rw [ab]; exact (hI.rd b 0 tb rfl (rfl : h_bd 7 0 = (-1, 7))).2
  have hct : q_ct (q_mc (c_cb z I0 bk) c_t) N = q_ct (q_mc CB ((c_t.toNat : Nat) : Int)) N := by rw [cC]; exact q_ct_c N (fun p hp => by unfold q_mc; rw [hcb p hp])
  refine lv_aload_n hx hb dX7_findGains_0 rfl (lv_at hl 0 rfl) ?_
  refine h_get (v := .ref bk) hx hb hts iX7 hown g t_a0 (by decide) so_8 rfl 0 (by decide) (hts (.fieldLink RX7 48 "CapLeague$RingSearch" "books" "LCapLeague$Books;") (by decide +kernel)) rfl dX7_findGains_1 (by show va_rf (z.R a0 0) = _; rw [rbk]; rfl) ?_
  refine va_csq (W.runV (As := []) (rest := []) ⟨hx, hb, hml, hown, hts⟩ (tX0_lawsNowF l E X A z I0 L0 bk tbk) (cwV 0 hts gX7_findGains_X0_lawsNow rfl rfl rfl (by decide +kernel) ⟨Nat.le_of_ble_eq_true rfl, Nat.le_of_ble_eq_true rfl⟩) ⟨h_blind _ _ _ _ _ _ _, h_recv g tbk (by decide) so_1 (q := (RX0, TX0, 9)) rfl, h_pre _ hE hk hX hA hI hR g⟩ rfl rfl hl.1 rfl (lv_room (Nat.le_of_ble_eq_true rfl)) dX7_findGains_4 ⟨Nat.le_of_ble_eq_true rfl, Nat.le_of_ble_eq_true rfl⟩) (fun rh1 h1 => ?_)
  obtain ⟨h1, h1p0⟩ := h1
  obtain ⟨rh1, rfl, trh1⟩ := h1
  refine xw_v (v := .ref rh1) rfl ?_
  rw [alb, aun, atx, qf0_3] at h1p0
  obtain ⟨bb, ebb, hof⟩ := h1p0
  cases ebb
  refine lv_astore_n (lv' := [(2, .ref rh1), (0, .ref a0), (1, .int c)]) hx hb dX7_findGains_7 rfl hl (by decide) rfl (fun ls hl => ?_)
  refine lv_aload_n hx hb dX7_findGains_8 rfl (lv_at hl 1 rfl) ?_
  refine h_get (v := .ref st) hx hb hts iX7 hown g t_a0 (by decide) so_8 rfl 3 (by decide) (hts (.fieldLink RX7 22 "CapLeague$RingSearch" "start" "[I") (by decide +kernel)) rfl dX7_findGains_9 (by show va_rf (z.R a0 3) = _; rw [rst]; rfl) ?_
  refine lv_iload_n hx hb dX7_findGains_12 rfl (lv_at hl 2 rfl) ?_
  refine lv_iconst (v := 1) hx hb dX7_findGains_13 (by decide) ?_
  refine lv_iadd hx hb dX7_findGains_14 ?_
  refine lv_topi (fun v2 ev2 => ?_)
  have jv2 : v2.toInt = c_t + 1 := xi_add ev2 h_c (by decide) (by omega) (by omega)
  refine h_ald hx hb g tst (by decide) so_803 (xi_in (by omega) (by omega)) dX7_findGains_15 ?_
  refine lv_topi (fun v3 ev3 => ?_)
  have jv3 := hI.rd st v2.toNatClampNeg tst ev3 (rfl : h_bd 803 _ = (0, 60))
  have st_v3 : v3.toInt = ((q_sp CB N (c_t.toNat + 1) : Nat) : Int) := by rw [← sC1, ← (h_keq (i := v2) (t := v2.toInt) (k := c_t.toNat + 1) rfl (by omega) (by omega) : v2.toNatClampNeg = c_t.toNat + 1), ev3]
  refine lv_aload_n hx hb dX7_findGains_16 rfl (lv_at hl 1 rfl) ?_
  refine h_get (v := .ref st) hx hb hts iX7 hown g t_a0 (by decide) so_8 rfl 3 (by decide) (hts (.fieldLink RX7 22 "CapLeague$RingSearch" "start" "[I") (by decide +kernel)) rfl dX7_findGains_17 (by show va_rf (z.R a0 3) = _; rw [rst]; rfl) ?_
  refine lv_iload_n hx hb dX7_findGains_20 rfl (lv_at hl 2 rfl) ?_
  refine h_ald hx hb g tst (by decide) so_803 (xi_in (by rw [h_c]; omega) (by rw [h_c]; omega)) dX7_findGains_21 ?_
  refine lv_topi (fun v4 ev4 => ?_)
  have jv4 := hI.rd st c.toNatClampNeg tst ev4 (rfl : h_bd 803 _ = (0, 60))
  have st_v4 : v4.toInt = ((q_sp CB N c_t.toNat : Nat) : Int) := by rw [← sC, ← kc, ev4]
  refine lv_isub hx hb dX7_findGains_22 ?_
  refine lv_topi (fun v5 ev5 => ?_)
  have jv5 : v5.toInt = v3.toInt - v4.toInt := xi_sub ev5 rfl rfl (by omega) (by omega)
  have hmn : v5.toInt = ((q_ct (q_mc CB ((c_t.toNat : Nat) : Int)) N : Nat) : Int) := by omega
  refine lv_istore_n (lv' := [(3, .int v5), (2, .ref rh1), (0, .ref a0), (1, .int c)]) hx hb dX7_findGains_23 rfl hl (by decide) rfl (fun ls hl => ?_)
  refine lv_aload_n hx hb dX7_findGains_24 rfl (lv_at hl 2 rfl) ?_
  refine h_get (v := .ref bk) hx hb hts iX7 hown g t_a0 (by decide) so_8 rfl 0 (by decide) (hts (.fieldLink RX7 48 "CapLeague$RingSearch" "books" "LCapLeague$Books;") (by decide +kernel)) rfl dX7_findGains_25 (by show va_rf (z.R a0 0) = _; rw [rbk]; rfl) ?_
  refine lv_iload_n hx hb dX7_findGains_28 rfl (lv_at hl 3 rfl) ?_
  refine lv_aload_n hx hb dX7_findGains_29 rfl (lv_at hl 2 rfl) ?_
  refine h_get (v := .ref bk) hx hb hts iX7 hown g t_a0 (by decide) so_8 rfl 0 (by decide) (hts (.fieldLink RX7 48 "CapLeague$RingSearch" "books" "LCapLeague$Books;") (by decide +kernel)) rfl dX7_findGains_30 (by show va_rf (z.R a0 0) = _; rw [rbk]; rfl) ?_
  refine h_get (v := .int f0_3) hx hb hts iX0 hown g tbk (by decide) so_1 rfl 3 (by decide) (hts (.fieldLink RX7 88 "CapLeague$Books" "clock" "I") (by decide +kernel)) rfl dX7_findGains_33 (congrArg Value.int (ef0_3.symm)) ?_
  refine vp_callSi (W.runV (As := [.int c, .int f0_3]) (rest := []) ⟨hx, hb, hml, hown, hts⟩ (tX0_countsB l E X A z I0 L0 bk tbk c (c_t) h_c (by omega) f0_3 (f0_3.toInt) rfl (by omega) (u_) (hclB) (hob) (hnnB)) (cwV 2 hts gX7_findGains_X0_counts rfl rfl rfl (by decide +kernel) ⟨Nat.le_of_ble_eq_true rfl, Nat.le_of_ble_eq_true rfl⟩) ⟨h_blind _ _ _ _ _ _ _, h_recv g tbk (by decide) so_1 (q := (RX0, TX0, 9)) rfl, h_pre _ hE hk hX hA hI hR g⟩ rfl rfl hl.1 rfl (lv_room (Nat.le_of_ble_eq_true rfl)) dX7_findGains_36 ⟨Nat.le_of_ble_eq_true rfl, Nat.le_of_ble_eq_true rfl⟩) (fun rh6 h6 => ?_)
  have h6p0 := h6
  have jrh6 : -2147483648 ≤ rh6.toInt ∧ rh6.toInt ≤ 2147483647 := ⟨xi_lo _, Int.le_of_lt_add_one (xi_hi _)⟩
  refine lv_istore (lv' := [(4, .int rh6), (3, .int v5), (2, .ref rh1), (0, .ref a0), (1, .int c)]) hx hb dX7_findGains_39 hl (by decide) rfl (fun ls hl => ?_)
  refine lv_aload_n hx hb dX7_findGains_41 rfl (lv_at hl 3 rfl) ?_
  refine h_get (v := .ref ct) hx hb hts iX7 hown g t_a0 (by decide) so_8 rfl 8 (by decide) (hts (.fieldLink RX7 39 "CapLeague$RingSearch" "clubTop" "[I") (by decide +kernel)) rfl dX7_findGains_42 (by show va_rf (z.R a0 8) = _; rw [rct]; rfl) ?_
  refine lv_iload_n hx hb dX7_findGains_45 rfl (lv_at hl 4 rfl) ?_
  refine lv_iconst (v := 0) hx hb dX7_findGains_46 (by decide) ?_
  refine h_ast hx hb g tct (by decide) so_808 (xi_in (by rw [h_c]; omega) (by rw [h_c]; omega)) dX7_findGains_47 (fun I7 H locs eI7 g => ?_)
  have hI := hI.wr eI7 tct (rfl : h_bd 808 _ = ((-2147483648), 2147483647)) (by decide) (by decide)
  have hF := hF.wr eI7 tct rfl
  refine lv_aload_n hx hb dX7_findGains_48 rfl (lv_at hl 3 rfl) ?_
  refine h_get (v := .ref st) hx hb hts iX7 hown g t_a0 (by decide) so_8 rfl 3 (by decide) (hts (.fieldLink RX7 22 "CapLeague$RingSearch" "start" "[I") (by decide +kernel)) rfl dX7_findGains_49 (by show va_rf (z.R a0 3) = _; rw [rst]; rfl) ?_
  refine lv_iload_n hx hb dX7_findGains_52 rfl (lv_at hl 4 rfl) ?_
  refine h_ald hx hb g tst (by decide) so_803 (xi_in (by rw [h_c]; omega) (by rw [h_c]; omega)) dX7_findGains_53 ?_
  refine xw_i ((h_n1 eI7 tst tct (by decide)).trans (ev4.symm)) ?_
  refine lv_istore (lv' := [(5, .int v4), (4, .int rh6), (3, .int v5), (2, .ref rh1), (0, .ref a0), (1, .int c)]) hx hb dX7_findGains_54 hl (by decide) rfl (fun ls hl => ?_)
  have loop56_0 : ∀ (n : Nat) (I9 : tI) (H : Heap) (locs : List Loc) (ls : Array Slot) (v8 : Int32), h_G h_so h_fk E A z I9 L0 s s.heap H locs → h_I z I9 → h_F [(2, 0), (2, 1), (2, 2), (2, 3), (808, 999), (807, 999), (856, 999)] z I0 I9 → lv_has ls 11 [(0, .ref a0), (1, .int c), (2, .ref rh1), (3, .int v5), (4, .int rh6), (5, .int v8)] → (0 ≤ v8.toInt ∧ v8.toInt ≤ 60) → h_F [(2, 0), (2, 1), (2, 2), (2, 3), (808, 999), (807, 999), (856, 999)] z I7 I9 → (c_go z I9 gn pt ct N CB GG c_t.toNat (v8.toInt)) → (((q_sp CB N c_t.toNat : Nat) : Int) ≤ v8.toInt) → (∀ p : Nat, p < N → (CB p).toInt ≠ c_t → I9 pt p = I0 pt p ∧ ∀ q : Nat, I9 (h_ad z gn p) q = I0 (h_ad z gn p) q) → (∀ d : Nat, d ≠ c_t.toNat → I9 ct d = I0 ct d) → (0 ≤ (I9 ct c_t.toNat).toInt ∧ (I9 ct c_t.toNat).toInt ≤ 9999) → (60 - v8.toInt) < (n : Int) → W pr_ l ev_ (headSpec wsX7_findGains ({ frames := 5, cells := 0, slots := 0, locals := 320 })).room s m ([.ref a0, .int c] : List Value).toArray below meth cd_ H locs 0 0 (MQ below (va_Qv (fun (I1 : tI) => h_I z I1 ∧ h_F [(2, 0), (2, 1), (2, 2), (2, 3), (808, 999), (807, 999), (856, 999)] z I0 I1 ∧ ((∀ p : Nat, p < (I0 (h_ad z a0 0) 2).toInt.toNat → (CB p).toInt = c_t → c_gp z I1 (h_ad z a0 6) (h_ad z a0 7) (I0 (h_ad z a0 0) 2).toInt.toNat CB GG c_t p ∧ (I1 (h_ad z a0 7) p).toInt ≤ (I1 (h_ad z a0 8) c_t.toNat).toInt) ∧ (0 ≤ (I1 (h_ad z a0 8) c_t.toNat).toInt ∧ (I1 (h_ad z a0 8) c_t.toNat).toInt ≤ 9999) ∧ (∀ p : Nat, p < (I0 (h_ad z a0 0) 2).toInt.toNat → (CB p).toInt ≠ c_t → I1 (h_ad z a0 7) p = I0 (h_ad z a0 7) p ∧ ∀ q : Nat, I1 (h_ad z (h_ad z a0 6) p) q = I0 (h_ad z (h_ad z a0 6) p) q) ∧ ∀ d : Nat, d ≠ c_t.toNat → I1 (h_ad z a0 8) d = I0 (h_ad z a0 8) d)) (fun (I1 : tI) t => h_B E A z I1 L0 t) A) ([.ref a0, .int c] : List Value).toArray s 0 0 A) (F0 m 56 ls []) := by
    intro n
    induction n with
    | zero => intro I9 H locs ls v8 g hI hF hl jv8 hL56 hx56_0 hx56_1 hx56_2 hx56_3 hx56_4 hn; exact absurd hn (by omega)
    | succ n ih56 =>
      intro I9 H locs ls v8 g hI hF hl jv8 hL56 hx56_0 hx56_1 hx56_2 hx56_3 hx56_4 hn
      have ki : v8.toNatClampNeg = v8.toInt.toNat := h_keq rfl (by omega) (by omega)
      refine lv_iload hx hb dX7_findGains_56 (lv_at hl 5 rfl) ?_
      refine lv_aload_n hx hb dX7_findGains_58 rfl (lv_at hl 0 rfl) ?_
      refine h_get (v := .ref st) hx hb hts iX7 hown g t_a0 (by decide) so_8 rfl 3 (by decide) (hts (.fieldLink RX7 22 "CapLeague$RingSearch" "start" "[I") (by decide +kernel)) rfl dX7_findGains_59 (by show va_rf (z.R a0 3) = _; rw [rst]; rfl) ?_
      refine lv_iload_n hx hb dX7_findGains_62 rfl (lv_at hl 1 rfl) ?_
      refine lv_iconst (v := 1) hx hb dX7_findGains_63 (by decide) ?_
      refine lv_iadd hx hb dX7_findGains_64 ?_
      refine xw_i (v := v2) ev2.symm ?_
      refine h_ald hx hb g tst (by decide) so_803 (xi_in (by omega) (by omega)) dX7_findGains_65 ?_
      refine xw_i ((h_F.at hL56 tst rfl).trans ((h_n1 eI7 tst tct (by decide)).trans (ev3.symm))) ?_
      refine lv_icmp_ge (tgt := 258) hx hb dX7_findGains_66 (by decide) (fun c10 => ?_) (fun c10 => ?_)
      · have ic10 := (xi_le c10 rfl rfl : v3.toInt ≤ v8.toInt)
        have hS := g.2.1
        exact W.vret hx hb hr (fun t ht hW => ⟨⟨I9, rfl, ⟨hI, hF, (by rw [abk, agn, apt, act, qf0_2, ← eN]; exact ⟨fun p hp hc => by have h8 := hx56_0 p hp (by rw [cC]; exact hc) (by have h7 := q_pos_lt (c := c_t.toNat) hp (by rw [cC]; exact hc); omega); rw [cC] at h8; exact h8, hx56_4, hx56_2, hx56_3⟩)⟩, h_ret g ht⟩, hS.F ht⟩) hS.2.2 dX7_findGains_258
      · have ic10 := (xi_nle c10 rfl rfl : v8.toInt < v3.toInt)
        obtain ⟨p0, hp0, hP0, hk0⟩ := q_ct_ex (P := q_mc CB ((c_t.toNat : Nat) : Int)) (k := v8.toInt.toNat - q_sp CB N c_t.toNat) (n := N) (by omega)
        have hc0 := q_mc_i hP0
        have l0 := (hlq c_t.toNat p0 (Or.inl hC8) hp0 hc0).1
        rw [show q_sp CB N c_t.toNat + q_ct (q_mc CB ((c_t.toNat : Nat) : Int)) p0 = v8.toInt.toNat by omega, ← ki] at l0
        refine lv_aload_n hx hb dX7_findGains_69 rfl (lv_at hl 0 rfl) ?_
        refine h_get (v := .ref ln) hx hb hts iX7 hown g t_a0 (by decide) so_8 rfl 2 (by decide) (hts (.fieldLink RX7 18 "CapLeague$RingSearch" "line" "[I") (by decide +kernel)) rfl dX7_findGains_70 (by show va_rf (z.R a0 2) = _; rw [rln]; rfl) ?_
        refine lv_iload hx hb dX7_findGains_73 (lv_at hl 5 rfl) ?_
        refine h_ald hx hb g tln (by decide) so_802 (xi_in (by omega) (by omega)) dX7_findGains_75 ?_
        refine lv_topi (fun v11 ev11 => ?_)
        have jv11 := hI.rd ln v8.toNatClampNeg tln ev11 (rfl : h_bd 802 _ = (0, 59))
        have ep0 : p0 = v11.toInt.toNat := by rw [show I0 ln _ = I9 ln _ from ((h_F.at hL56 tln rfl).trans (h_n1 eI7 tln tct (by decide))).symm, ← ev11] at l0; omega
        subst ep0
        have kp0 : v11.toNatClampNeg = v11.toInt.toNat := h_keq rfl (by omega) (by omega)
        have hrn : ∀ p : Nat, p ≠ v11.toInt.toNat → p < N → h_ad z gn p ≠ h_ad z gn v11.toInt.toNat := fun p hp hN => h_rowne hU hR tgn (by omega) (by omega) hp
        refine lv_istore (lv' := [(6, .int v11), (0, .ref a0), (1, .int c), (2, .ref rh1), (3, .int v5), (4, .int rh6), (5, .int v8)]) hx hb dX7_findGains_76 hl (by decide) rfl (fun ls hl => ?_)
        refine lv_aload_n hx hb dX7_findGains_78 rfl (lv_at hl 1 rfl) ?_
        refine h_get (v := .ref pt) hx hb hts iX7 hown g t_a0 (by decide) so_8 rfl 7 (by decide) (hts (.fieldLink RX7 36 "CapLeague$RingSearch" "playerTop" "[I") (by decide +kernel)) rfl dX7_findGains_79 (by show va_rf (z.R a0 7) = _; rw [rpt]; rfl) ?_
        refine lv_iload hx hb dX7_findGains_82 (lv_at hl 0 rfl) ?_
        refine lv_iconst (v := 0) hx hb dX7_findGains_84 (by decide) ?_
        refine h_ast hx hb g tpt (by decide) so_807 (xi_in (by omega) (by omega)) dX7_findGains_85 (fun I12 H locs eI12 g => ?_)
        have hI := hI.wr eI12 tpt (rfl : h_bd 807 _ = ((-2147483648), 2147483647)) (by decide) (by decide)
        have hF := hF.wr eI12 tpt rfl
        refine lv_iconst (v := 0) hx hb dX7_findGains_86 (by decide) ?_
        refine lv_istore (lv' := [(7, .int 0), (6, .int v11), (0, .ref a0), (1, .int c), (2, .ref rh1), (3, .int v5), (4, .int rh6), (5, .int v8)]) hx hb dX7_findGains_87 hl (by decide) rfl (fun ls hl => ?_)
        have loop89_1 : ∀ (n : Nat) (I14 : tI) (H : Heap) (locs : List Loc) (ls : Array Slot) (v13 : Int32), h_G h_so h_fk E A z I14 L0 s s.heap H locs → h_I z I14 → h_F [(2, 0), (2, 1), (2, 2), (2, 3), (808, 999), (807, 999), (856, 999)] z I0 I14 → lv_has ls 11 [(0, .ref a0), (1, .int c), (2, .ref rh1), (3, .int v5), (4, .int rh6), (5, .int v8), (6, .int v11), (7, .int v13)] → (0 ≤ v13.toInt ∧ v13.toInt ≤ 60) → h_F [(2, 0), (2, 1), (2, 2), (2, 3), (807, 999), (856, 999)] z I12 I14 → (c_gi z I14 gn pt N CB GG c_t.toNat (v11.toInt).toNat (v13.toInt)) → (0 ≤ (I14 pt (v11.toInt).toNat).toInt ∧ (I14 pt (v11.toInt).toNat).toInt ≤ 9999) → (∀ k : Nat, k ≠ (v11.toInt).toNat → I14 pt k = I9 pt k) → (∀ p : Nat, p ≠ (v11.toInt).toNat → p < N → ∀ q : Nat, I14 (h_ad z gn p) q = I9 (h_ad z gn p) q) → (60 - v13.toInt) < (n : Int) → W pr_ l ev_ (headSpec wsX7_findGains ({ frames := 5, cells := 0, slots := 0, locals := 320 })).room s m ([.ref a0, .int c] : List Value).toArray below meth cd_ H locs 0 0 (MQ below (va_Qv (fun (I1 : tI) => h_I z I1 ∧ h_F [(2, 0), (2, 1), (2, 2), (2, 3), (808, 999), (807, 999), (856, 999)] z I0 I1 ∧ ((∀ p : Nat, p < (I0 (h_ad z a0 0) 2).toInt.toNat → (CB p).toInt = c_t → c_gp z I1 (h_ad z a0 6) (h_ad z a0 7) (I0 (h_ad z a0 0) 2).toInt.toNat CB GG c_t p ∧ (I1 (h_ad z a0 7) p).toInt ≤ (I1 (h_ad z a0 8) c_t.toNat).toInt) ∧ (0 ≤ (I1 (h_ad z a0 8) c_t.toNat).toInt ∧ (I1 (h_ad z a0 8) c_t.toNat).toInt ≤ 9999) ∧ (∀ p : Nat, p < (I0 (h_ad z a0 0) 2).toInt.toNat → (CB p).toInt ≠ c_t → I1 (h_ad z a0 7) p = I0 (h_ad z a0 7) p ∧ ∀ q : Nat, I1 (h_ad z (h_ad z a0 6) p) q = I0 (h_ad z (h_ad z a0 6) p) q) ∧ ∀ d : Nat, d ≠ c_t.toNat → I1 (h_ad z a0 8) d = I0 (h_ad z a0 8) d)) (fun (I1 : tI) t => h_B E A z I1 L0 t) A) ([.ref a0, .int c] : List Value).toArray s 0 0 A) (F0 m 89 ls []) := by
          intro n
          induction n with
          | zero => intro I14 H locs ls v13 g hI hF hl jv13 hL89 hx89_0 hx89_1 hx89_2 hx89_3 hn; exact absurd hn (by omega)
          | succ n ih89 =>
            intro I14 H locs ls v13 g hI hF hl jv13 hL89 hx89_0 hx89_1 hx89_2 hx89_3 hn
            have kj : v13.toNatClampNeg = v13.toInt.toNat := h_keq rfl (by omega) (by omega)
            refine lv_iload hx hb dX7_findGains_89 (lv_at hl 7 rfl) ?_
            refine lv_aload_n hx hb dX7_findGains_91 rfl (lv_at hl 0 rfl) ?_
            refine h_get (v := .ref st) hx hb hts iX7 hown g t_a0 (by decide) so_8 rfl 3 (by decide) (hts (.fieldLink RX7 22 "CapLeague$RingSearch" "start" "[I") (by decide +kernel)) rfl dX7_findGains_92 (by show va_rf (z.R a0 3) = _; rw [rst]; rfl) ?_
            refine lv_bipush (v := 8) hx hb dX7_findGains_95 (by decide) ?_
            refine h_ald hx hb g tst (by decide) so_803 (by unfold vp_in; decide) dX7_findGains_97 ?_
            refine lv_topi (fun v15 ev15 => ?_)
            have jv15 := hI.rd st (8 : Int32).toNatClampNeg tst ev15 (rfl : h_bd 803 _ = (0, 60))
            have st_v15 : v15.toInt = ((q_sp CB N 8 : Nat) : Int) := by rw [← s8, ← (show (8 : Int32).toNatClampNeg = 8 by decide), ev15]; exact congrArg Int32.toInt ((h_F.at hL89 tst rfl).trans ((h_n1 eI12 tst tpt (by decide)).trans ((h_F.at hL56 tst rfl).trans (h_n1 eI7 tst tct (by decide)))))
            refine lv_icmp_ge (tgt := 230) hx hb dX7_findGains_98 (by decide) (fun c16 => ?_) (fun c16 => ?_)
            · have ic16 := (xi_le c16 rfl rfl : v15.toInt ≤ v13.toInt)
              have hgp := hx89_0.e (by omega) cb7 hx89_1
              refine lv_aload_n hx hb dX7_findGains_230 rfl (lv_at hl 0 rfl) ?_
              refine h_get (v := .ref ct) hx hb hts iX7 hown g t_a0 (by decide) so_8 rfl 8 (by decide) (hts (.fieldLink RX7 39 "CapLeague$RingSearch" "clubTop" "[I") (by decide +kernel)) rfl dX7_findGains_231 (by show va_rf (z.R a0 8) = _; rw [rct]; rfl) ?_
              refine lv_iload_n hx hb dX7_findGains_234 rfl (lv_at hl 1 rfl) ?_
              refine lv_aload_n hx hb dX7_findGains_235 rfl (lv_at hl 0 rfl) ?_
              refine h_get (v := .ref ct) hx hb hts iX7 hown g t_a0 (by decide) so_8 rfl 8 (by decide) (hts (.fieldLink RX7 39 "CapLeague$RingSearch" "clubTop" "[I") (by decide +kernel)) rfl dX7_findGains_236 (by show va_rf (z.R a0 8) = _; rw [rct]; rfl) ?_
              refine lv_iload_n hx hb dX7_findGains_239 rfl (lv_at hl 1 rfl) ?_
              refine h_ald hx hb g tct (by decide) so_808 (xi_in (by rw [h_c]; omega) (by rw [h_c]; omega)) dX7_findGains_240 ?_
              refine lv_topi (fun v17 ev17 => ?_)
              have jv17 := hI.rd ct c.toNatClampNeg tct ev17 (rfl : h_bd 808 _ = ((-2147483648), 2147483647))
              have ct0 : I9 ct c_t.toNat = v17 := by rw [← kc, ev17]; exact ((h_F.at hL89 tct rfl).trans (h_n1 eI12 tct tpt (by decide))).symm
              have nbv17 : 0 ≤ v17.toInt ∧ v17.toInt ≤ 9999 := by have h9 := hx56_4; rw [ct0] at h9; exact h9
              refine lv_aload_n hx hb dX7_findGains_241 rfl (lv_at hl 0 rfl) ?_
              refine h_get (v := .ref pt) hx hb hts iX7 hown g t_a0 (by decide) so_8 rfl 7 (by decide) (hts (.fieldLink RX7 36 "CapLeague$RingSearch" "playerTop" "[I") (by decide +kernel)) rfl dX7_findGains_242 (by show va_rf (z.R a0 7) = _; rw [rpt]; rfl) ?_
              refine lv_iload hx hb dX7_findGains_245 (lv_at hl 6 rfl) ?_
              refine h_ald hx hb g tpt (by decide) so_807 (xi_in (by omega) (by omega)) dX7_findGains_247 ?_
              refine lv_topi (fun v18 ev18 => ?_)
              have jv18 := hI.rd pt v11.toNatClampNeg tpt ev18 (rfl : h_bd 807 _ = ((-2147483648), 2147483647))
              have pt1 : I14 pt v11.toInt.toNat = v18 := by rw [← kp0]; exact ev18.symm
              have nbv18 : 0 ≤ v18.toInt ∧ v18.toInt ≤ 9999 := by have h9 := hx89_1; rw [pt1] at h9; exact h9
              refine va_mmax hx hb (hml.trans hl.1.symm) hown (hts (.methodLink RX7 114 Lib.Math.max.name) (by decide +kernel)) (hts (.static Lib.Math.max.name) (by decide +kernel)) (hts (.initialized "java/lang/Math") (by decide +kernel)) (hts (.code Lib.Math.max.name Lib.Math.max.code 2 (some .int)) (by decide +kernel)) (Nat.le_of_ble_eq_true rfl) (Nat.le_of_ble_eq_true rfl) (Nat.le_of_ble_eq_true rfl) (Nat.le_of_ble_eq_true rfl) dX7_findGains_248 ?_
              refine lv_topi (fun v19 ev19 => ?_)
              have jv19 := h_max (a := v17.toInt) (b := v18.toInt) ev19 rfl rfl
              refine h_ast hx hb g tct (by decide) so_808 (xi_in (by rw [h_c]; omega) (by rw [h_c]; omega)) dX7_findGains_251 (fun I20 H locs eI20 g => ?_)
              have hI := hI.wr eI20 tct (rfl : h_bd 808 _ = ((-2147483648), 2147483647)) (xi_lo _) (Int.le_of_lt_add_one (xi_hi _))
              have hF := hF.wr eI20 tct rfl
              obtain ⟨v21, ev21⟩ : ∃ z : Int32, z = v8 + 1 := ⟨_, rfl⟩
              have jv21 : v21.toInt = v8.toInt + 1 := xi_add ev21 rfl (by decide) (by omega) (by omega)
              refine lv_iinc (v := v21) (lv' := [(5, .int v21), (0, .ref a0), (1, .int c), (2, .ref rh1), (3, .int v5), (4, .int rh6), (6, .int v11), (7, .int v13)]) hx hb dX7_findGains_252 hl (k := 5) rfl (by rw [ev21]; rfl) (by decide) rfl (fun ls hl => ?_)
              refine lv_goto (tgt := 56) hx hb dX7_findGains_255 (by decide) ?_
              exact ih56 I20 _ _ _ v21 g hI hF (lv_sub hl [1, 2, 3, 4, 5, 0] rfl) (by omega) (h_F.wr (h_F.call (h_F.wr (h_F.call (h_F.rf : h_F [(2, 0), (2, 1), (2, 2), (2, 3), (808, 999), (807, 999), (856, 999)] z I7 I7) hL56 rfl) eI12 tpt rfl) hL89 rfl) eI20 tct rfl) (hx56_0.s (p := v11.toInt.toNat) hp0 hc0 (by omega) (by omega : v21.toInt = v8.toInt + 1) (hgp.c (fun q => by have tr9 := (hR.ad tgn (rfl : h_rs 806 v11.toInt.toNat = some (856, false)) (by rw [so_806]; show _ < 60; omega)).2; exact h_n1 eI20 tr9 tct (by decide)) (h_n1 eI20 tpt tct (by decide))) (by rw [show I20 ct c_t.toNat = v19 by rw [← kc]; exact h_n0 eI20, show I20 pt v11.toInt.toNat = I14 pt v11.toInt.toNat from (h_n1 eI20 tpt tct (by decide)), pt1]; omega) (fun p hp hN q => by have tr9 : z.ty (h_ad z gn p) = 856 := (hR.ad tgn (rfl : h_rs 806 p = some (856, false)) (by rw [so_806]; show p < 60; omega)).2; exact (h_n1 eI20 tr9 tct (by decide)).trans (hx89_3 p hp hN q)) (fun k hk => ((h_n1 eI20 tpt tct (by decide))).trans (hx89_2 k hk)) (by rw [show I20 ct c_t.toNat = v19 by rw [← kc]; exact h_n0 eI20, ct0]; omega)) (by omega) (fun p hN hp => by have hp9 : p ≠ v11.toInt.toNat := (fun e9 => by rw [e9] at hp; omega); obtain ⟨a1, a2⟩ := hx56_2 p hN hp; have tr9 : z.ty (h_ad z gn p) = 856 := (hR.ad tgn (rfl : h_rs 806 p = some (856, false)) (by rw [so_806]; show p < 60; omega)).2; exact ⟨((h_n1 eI20 tpt tct (by decide))).trans ((hx89_2 p hp9).trans a1), fun q => (h_n1 eI20 tr9 tct (by decide)).trans ((hx89_3 p hp9 hN q).trans (a2 q))⟩) (fun d hd => (h_n2 eI20 (by rw [kc]; exact hd)).trans (((h_F.at hL89 tct rfl).trans (h_n1 eI12 tct tpt (by decide))).trans (hx56_3 d hd))) (by rw [show I20 ct c_t.toNat = v19 by rw [← kc]; exact h_n0 eI20]; omega) (by omega)
            · have ic16 := (xi_nle c16 rfl rfl : v13.toInt < v15.toInt)
              obtain ⟨d, q0, hd8, hq0, hqd, hqk⟩ := q_pos_ex (cb := CB) (n := N) (j := v13.toInt.toNat) 8 (by omega)
              have l1 := (hlq d q0 (Or.inl hd8) hq0 hqd).1
              rw [hqk, ← kj] at l1
              refine lv_aload_n hx hb dX7_findGains_101 rfl (lv_at hl 0 rfl) ?_
              refine h_get (v := .ref ln) hx hb hts iX7 hown g t_a0 (by decide) so_8 rfl 2 (by decide) (hts (.fieldLink RX7 18 "CapLeague$RingSearch" "line" "[I") (by decide +kernel)) rfl dX7_findGains_102 (by show va_rf (z.R a0 2) = _; rw [rln]; rfl) ?_
              refine lv_iload hx hb dX7_findGains_105 (lv_at hl 7 rfl) ?_
              refine h_ald hx hb g tln (by decide) so_802 (xi_in (by omega) (by omega)) dX7_findGains_107 ?_
              refine lv_topi (fun v22 ev22 => ?_)
              have jv22 := hI.rd ln v13.toNatClampNeg tln ev22 (rfl : h_bd 802 _ = (0, 59))
              have eq0 : q0 = v22.toInt.toNat := by rw [show I0 ln _ = I14 ln _ from ((h_F.at hL89 tln rfl).trans ((h_n1 eI12 tln tpt (by decide)).trans ((h_F.at hL56 tln rfl).trans (h_n1 eI7 tln tct (by decide))))).symm, ← ev22] at l1; omega
              subst eq0
              have kq0 : v22.toNatClampNeg = v22.toInt.toNat := h_keq rfl (by omega) (by omega)
              refine lv_istore (lv' := [(8, .int v22), (0, .ref a0), (1, .int c), (2, .ref rh1), (3, .int v5), (4, .int rh6), (5, .int v8), (6, .int v11), (7, .int v13)]) hx hb dX7_findGains_108 hl (by decide) rfl (fun ls hl => ?_)
              refine lv_iload hx hb dX7_findGains_110 (lv_at hl 8 rfl) ?_
              refine lv_aload_n hx hb dX7_findGains_112 rfl (lv_at hl 1 rfl) ?_
              refine h_get (v := .ref st) hx hb hts iX7 hown g t_a0 (by decide) so_8 rfl 3 (by decide) (hts (.fieldLink RX7 22 "CapLeague$RingSearch" "start" "[I") (by decide +kernel)) rfl dX7_findGains_113 (by show va_rf (z.R a0 3) = _; rw [rst]; rfl) ?_
              refine lv_iload_n hx hb dX7_findGains_116 rfl (lv_at hl 2 rfl) ?_
              refine h_ald hx hb g tst (by decide) so_803 (xi_in (by rw [h_c]; omega) (by rw [h_c]; omega)) dX7_findGains_117 ?_
              refine xw_i ((h_F.at hL89 tst rfl).trans ((h_n1 eI12 tst tpt (by decide)).trans ((h_F.at hL56 tst rfl).trans ((h_n1 eI7 tst tct (by decide)).trans (ev4.symm))))) ?_
              refine lv_icmp_lt (tgt := 134) hx hb dX7_findGains_118 (by decide) (fun c23 => ?_) (fun c23 => ?_)
              · have ic23 := (xi_lt c23 rfl rfl : v13.toInt < v4.toInt)
                have hdC : d ≠ c_t.toNat := q_pos_ne hq0 hqd (by rw [hqk]; omega)
                refine lv_iconst (v := 1) hx hb dX7_findGains_134 (by decide) ?_
                refine lv_goto (tgt := 139) hx hb dX7_findGains_135 (by decide) ?_
                refine lv_istore (lv' := [(9, .int 1), (8, .int v22), (0, .ref a0), (1, .int c), (2, .ref rh1), (3, .int v5), (4, .int rh6), (5, .int v8), (6, .int v11), (7, .int v13)]) hx hb dX7_findGains_139 hl (by decide) rfl (fun ls hl => ?_)
                refine lv_iload hx hb dX7_findGains_141 (lv_at hl 0 rfl) ?_
                refine lv_if_eq (tgt := 158) hx hb dX7_findGains_143 (by decide) (fun h => absurd h (by decide)) (fun _ => ?_)
                refine lv_aload_n hx hb dX7_findGains_146 rfl (lv_at hl 2 rfl) ?_
                refine lv_iload_n hx hb dX7_findGains_147 rfl (lv_at hl 3 rfl) ?_
                refine lv_iload hx hb dX7_findGains_148 (lv_at hl 8 rfl) ?_
                refine lv_iload hx hb dX7_findGains_150 (lv_at hl 1 rfl) ?_
                refine vp_callSi (W.runV (As := [.int c, .int v11, .int v22]) (rest := []) ⟨hx, hb, hml, hown, hts⟩ (tX7_worthMoreR l E X A z I14 L0 a0 t_a0 c (c_t) h_c (by omega) v11 (v11.toInt) rfl (by omega) v22 (v22.toInt) rfl (by omega) (by rw [abk, show I14 bk 2 = f0_2 from (h_F.at hL89 tbk rfl).trans ((h_n1 eI12 tbk tpt (by decide)).trans ((h_F.at hL56 tbk rfl).trans ((h_n1 eI7 tbk tct (by decide)).trans (ef0_2.symm))))]; omega) (by rw [abk, show I14 bk 2 = f0_2 from (h_F.at hL89 tbk rfl).trans ((h_n1 eI12 tbk tpt (by decide)).trans ((h_F.at hL56 tbk rfl).trans ((h_n1 eI7 tbk tct (by decide)).trans (ef0_2.symm))))]; omega) (by rw [abk, apl, show I14 bk 2 = f0_2 from (h_F.at hL89 tbk rfl).trans ((h_n1 eI12 tbk tpt (by decide)).trans ((h_F.at hL56 tbk rfl).trans ((h_n1 eI7 tbk tct (by decide)).trans (ef0_2.symm))))]; exact hnn)) (cwV 3 hts gX7_findGains_X7_worthMore rfl rfl rfl (by decide +kernel) ⟨Nat.le_of_ble_eq_true rfl, Nat.le_of_ble_eq_true rfl⟩) ⟨h_blind _ _ _ _ _ _ _, h_recv g t_a0 (by decide) so_8 (q := (RX7, TX7, 13)) rfl, h_pre _ hE hk hX hA hI hR g⟩ rfl rfl hl.1 rfl (lv_room (Nat.le_of_ble_eq_true rfl)) dX7_findGains_152 ⟨Nat.le_of_ble_eq_true rfl, Nat.le_of_ble_eq_true rfl⟩) (fun rh25 h25 => ?_)
                have h25p0 := h25
                have jrh25 : -2147483648 ≤ rh25.toInt ∧ rh25.toInt ≤ 2147483647 := ⟨xi_lo _, Int.le_of_lt_add_one (xi_hi _)⟩
                rw [abk, c_w_F hR hF tbk apl tpl (fun _ => rfl) (by omega) (hnn _ (by omega)), c_w_F hR hF tbk apl tpl (fun _ => rfl) (by omega) (hnn _ (by omega))] at h25p0
                have w1 := hwb c_t.toNat v11.toInt.toNat hC8 hp0
                have w2 := hwb c_t.toNat v22.toInt.toNat hC8 hq0
                rw [cC] at w1 w2
                have moI : rh25.toInt = (c_w z I0 bk c_t v22.toInt.toNat).toInt - (c_w z I0 bk c_t v11.toInt.toNat).toInt := xi_sub h25p0 rfl rfl (by omega) (by omega)
                have nbrh25 : -9999 ≤ rh25.toInt ∧ rh25.toInt ≤ 9999 := by omega
                refine lv_goto (tgt := 159) hx hb dX7_findGains_155 (by decide) ?_
                refine lv_istore (lv' := [(10, .int rh25), (9, .int 1), (8, .int v22), (0, .ref a0), (1, .int c), (2, .ref rh1), (3, .int v5), (4, .int rh6), (5, .int v8), (6, .int v11), (7, .int v13)]) hx hb dX7_findGains_159 hl (by decide) rfl (fun ls hl => ?_)
                refine lv_aload_n hx hb dX7_findGains_161 rfl (lv_at hl 3 rfl) ?_
                refine h_get (v := .ref gn) hx hb hts iX7 hown g t_a0 (by decide) so_8 rfl 6 (by decide) (hts (.fieldLink RX7 33 "CapLeague$RingSearch" "gains" "[[I") (by decide +kernel)) rfl dX7_findGains_162 (by show va_rf (z.R a0 6) = _; rw [rgn]; rfl) ?_
                refine lv_iload hx hb dX7_findGains_165 (lv_at hl 9 rfl) ?_
                obtain ⟨b26, rb26, tb26⟩ := hR.at gn v11.toNatClampNeg tgn (rfl : h_rs 806 _ = some (856, false)) (by rw [so_806]; exact h_lt (n := 60) (xi_in (by omega) (by omega)))
                refine h_aldA (v := .ref b26) hx hb g tgn (by decide) so_806 (xi_in (by omega) (by omega)) dX7_findGains_167 (by rw [rb26]; rfl) ?_
                have ar_b26 : h_ad z gn v11.toInt.toNat = b26 := by rw [← kp0]; exact h_ad.at rb26
                refine lv_iload hx hb dX7_findGains_168 (lv_at hl 2 rfl) ?_
                refine lv_iload hx hb dX7_findGains_170 (lv_at hl 0 rfl) ?_
                refine lv_if_le (tgt := 195) hx hb dX7_findGains_172 (by decide) (fun c27 => ?_) (fun c27 => ?_)
                · have ic27 := (xi_le c27 rfl (by decide) : rh25.toInt ≤ 0)
                  refine lv_iconst (v := 0) hx hb dX7_findGains_195 (by decide) ?_
                  refine h_ast hx hb g tb26 (by decide) so_856 (xi_in (by omega) (by omega)) dX7_findGains_196 (fun I28 H locs eI28 g => ?_)
                  have hI := hI.wr eI28 tb26 (rfl : h_bd 856 _ = ((-2147483648), 2147483647)) (by decide) (by decide)
                  have hF := hF.wr eI28 tb26 rfl
                  have hX : d ≠ c_t.toNat → (0 : Int32).toInt = GG ((c_t.toNat : Nat) : Int) v11.toInt.toNat v22.toInt.toNat := fun _ => by have z0 : (0 : Int32).toInt = 0 := (by decide); rw [cC, hGG c_t _ _ (by omega) (by omega) hp0 hq0, z0]; exact (r_g_n (Or.inl (by rw [← h25p0]; omega))).symm
                  refine lv_aload_n hx hb dX7_findGains_197 rfl (lv_at hl 3 rfl) ?_
                  refine h_get (v := .ref pt) hx hb hts iX7 hown g t_a0 (by decide) so_8 rfl 7 (by decide) (hts (.fieldLink RX7 36 "CapLeague$RingSearch" "playerTop" "[I") (by decide +kernel)) rfl dX7_findGains_198 (by show va_rf (z.R a0 7) = _; rw [rpt]; rfl) ?_
                  refine lv_iload hx hb dX7_findGains_201 (lv_at hl 9 rfl) ?_
                  refine lv_aload_n hx hb dX7_findGains_203 rfl (lv_at hl 3 rfl) ?_
                  refine h_get (v := .ref pt) hx hb hts iX7 hown g t_a0 (by decide) so_8 rfl 7 (by decide) (hts (.fieldLink RX7 36 "CapLeague$RingSearch" "playerTop" "[I") (by decide +kernel)) rfl dX7_findGains_204 (by show va_rf (z.R a0 7) = _; rw [rpt]; rfl) ?_
                  refine lv_iload hx hb dX7_findGains_207 (lv_at hl 9 rfl) ?_
                  refine h_ald hx hb g tpt (by decide) so_807 (xi_in (by omega) (by omega)) dX7_findGains_209 ?_
                  refine lv_topi (fun v29 ev29 => ?_)
                  have jv29 := hI.rd pt v11.toNatClampNeg tpt ev29 (rfl : h_bd 807 _ = ((-2147483648), 2147483647))
                  have pt0 : I14 pt v11.toInt.toNat = v29 := by rw [← kp0, ev29]; exact (h_n1 eI28 tpt tb26 (by decide)).symm
                  have nbv29 : 0 ≤ v29.toInt ∧ v29.toInt ≤ 9999 := by have h9 := hx89_1; rw [pt0] at h9; exact h9
                  refine lv_aload_n hx hb dX7_findGains_210 rfl (lv_at hl 3 rfl) ?_
                  refine h_get (v := .ref gn) hx hb hts iX7 hown g t_a0 (by decide) so_8 rfl 6 (by decide) (hts (.fieldLink RX7 33 "CapLeague$RingSearch" "gains" "[[I") (by decide +kernel)) rfl dX7_findGains_211 (by show va_rf (z.R a0 6) = _; rw [rgn]; rfl) ?_
                  refine lv_iload hx hb dX7_findGains_214 (lv_at hl 9 rfl) ?_
                  refine h_aldA (v := .ref b26) hx hb g tgn (by decide) so_806 (xi_in (by omega) (by omega)) dX7_findGains_216 (by rw [rb26]; rfl) ?_
                  refine lv_iload hx hb dX7_findGains_217 (lv_at hl 2 rfl) ?_
                  refine h_ald hx hb g tb26 (by decide) so_856 (xi_in (by omega) (by omega)) dX7_findGains_219 ?_
                  refine xw_i (h_n0 eI28) ?_
                  refine va_mmax hx hb (hml.trans hl.1.symm) hown (hts (.methodLink RX7 114 Lib.Math.max.name) (by decide +kernel)) (hts (.static Lib.Math.max.name) (by decide +kernel)) (hts (.initialized "java/lang/Math") (by decide +kernel)) (hts (.code Lib.Math.max.name Lib.Math.max.code 2 (some .int)) (by decide +kernel)) (Nat.le_of_ble_eq_true rfl) (Nat.le_of_ble_eq_true rfl) (Nat.le_of_ble_eq_true rfl) (Nat.le_of_ble_eq_true rfl) dX7_findGains_220 ?_
                  refine lv_topi (fun v30 ev30 => ?_)
                  have jv30 := h_max (a := v29.toInt) (b := 0) ev30 rfl (by decide)
                  refine h_ast hx hb g tpt (by decide) so_807 (xi_in (by omega) (by omega)) dX7_findGains_223 (fun I31 H locs eI31 g => ?_)
                  have hI := hI.wr eI31 tpt (rfl : h_bd 807 _ = ((-2147483648), 2147483647)) (xi_lo _) (Int.le_of_lt_add_one (xi_hi _))
                  have hF := hF.wr eI31 tpt rfl
                  obtain ⟨v32, ev32⟩ : ∃ z : Int32, z = v13 + 1 := ⟨_, rfl⟩
                  have jv32 : v32.toInt = v13.toInt + 1 := xi_add ev32 rfl (by decide) (by omega) (by omega)
                  refine lv_iinc (v := v32) (lv' := [(7, .int v32), (10, .int rh25), (9, .int 1), (8, .int v22), (0, .ref a0), (1, .int c), (2, .ref rh1), (3, .int v5), (4, .int rh6), (5, .int v8), (6, .int v11)]) hx hb dX7_findGains_224 hl (k := 10) rfl (by rw [ev32]; rfl) (by decide) rfl (fun ls hl => ?_)
                  refine lv_goto (tgt := 89) hx hb dX7_findGains_227 (by decide) ?_
                  have npt : I31 pt v11.toInt.toNat = v30 := by rw [← kp0]; exact h_n0 eI31
                  exact ih89 I31 _ _ _ v32 g hI hF (lv_sub hl [4, 5, 6, 7, 8, 9, 10, 0] rfl) (by omega) (h_F.wr (h_F.wr (h_F.call (h_F.rf : h_F [(2, 0), (2, 1), (2, 2), (2, 3), (807, 999), (856, 999)] z I12 I12) hL89 rfl) eI28 tb26 rfl) eI31 tpt rfl) (hx89_0.s (d := d) (q := v22.toInt.toNat) hq0 hqd (by omega) (by omega : v32.toInt = v13.toInt + 1) (x := (0 : Int32)) (by rw [ar_b26]; exact fun j => (h_n1 eI31 tb26 tpt (by decide)).trans (h_wif eI28 kq0 j)) (fun h9 => ⟨hX h9, by rw [npt]; have z0 : (0 : Int32).toInt = 0 := (by decide); omega⟩) (by rw [npt, pt0]; omega)) (by rw [npt]; omega) (fun k hk => by have h9 : ∀ j : Nat, I31 pt j = if j = v11.toInt.toNat then v30 else I14 pt j := fun j => (h_wif eI31 kp0 j).trans (by rw [h_n1 eI28 tpt tb26 (by decide)]); rw [h9 k, if_neg hk]; exact hx89_2 k hk) (fun p hp hN q => by have tr9 : z.ty (h_ad z gn p) = 856 := (hR.ad tgn (rfl : h_rs 806 p = some (856, false)) (by rw [so_806]; show p < 60; omega)).2; exact ((h_n1 eI31 tr9 tpt (by decide)).trans (h_upb eI28 (by rw [← ar_b26]; exact hrn p hp hN))).trans (hx89_3 p hp hN q)) (by omega)
                · have ic27 := (xi_nle c27 rfl (by decide) : 0 < rh25.toInt)
                  refine lv_aload_n hx hb dX7_findGains_175 rfl (lv_at hl 3 rfl) ?_
                  refine lv_iload hx hb dX7_findGains_176 (lv_at hl 9 rfl) ?_
                  refine lv_iload hx hb dX7_findGains_178 (lv_at hl 2 rfl) ?_
                  refine lv_iload_n hx hb dX7_findGains_180 rfl (lv_at hl 6 rfl) ?_
                  refine lv_iload hx hb dX7_findGains_181 (lv_at hl 7 rfl) ?_
                  refine lv_aload_n hx hb dX7_findGains_183 rfl (lv_at hl 5 rfl) ?_
                  refine va_calli (va_runV (As := [.int v11, .int v22, .int v5, .int rh6, .ref rh1]) (rest := [.int v22, .ref b26]) ⟨hx, hb, hml, hown, hts⟩ (tX7_isLegalR l E X A z I14 L0 a0 t_a0 v11 (v11.toInt) rfl (by omega) v22 (v22.toInt) rfl (by omega) v5 (v5.toInt) rfl rh6 (rh6.toInt) rfl rh1 trh1 (u_) (h_lwF hR hF (fun _ => rfl) (fun _ => rfl) (fun _ => rfl) ttx tun hcl _ hof) (hob) (by rw [apa, show I14 pa v11.toInt.toNat = PP v11.toInt.toNat from ((h_F.at hL89 tpa rfl).trans ((h_n1 eI12 tpa tpt (by decide)).trans ((h_F.at hL56 tpa rfl).trans (h_n1 eI7 tpa tct (by decide))))).trans (hlq c_t.toNat _ (Or.inl hC8) hp0 hc0).2.1]; exact hpy _ hp0)) (cwV 5 hts gX7_findGains_X7_isLegal rfl rfl rfl (by decide +kernel) ⟨Nat.le_of_ble_eq_true rfl, Nat.le_of_ble_eq_true rfl⟩) ⟨h_blind _ _ _ _ _ _ _, h_recv g t_a0 (by decide) so_8 (q := (RX7, TX7, 13)) rfl, h_pre _ hE hk hX hA hI hR g⟩ rfl rfl hl.1 rfl (lv_room (Nat.le_of_ble_eq_true rfl)) dX7_findGains_184 ⟨Nat.le_of_ble_eq_true rfl, Nat.le_of_ble_eq_true rfl⟩) g.2.1 (fun q _ h => h) (fun q h => h) (fun rh33 I34 t H1 locs ht hvm h33 hB hz1 hk1 hS => ?_)
                  obtain ⟨hI, fh33, h33⟩ := h33
                  replace g := h_after g hB ht hS
                  generalize H1 = H at g
                  clear hB hk1 hz1 ht hvm hS
                  have hF := hF.call fh33 rfl
                  obtain ⟨h33, h33p0⟩ := h33
                  rw [apa, aco, show I14 pa v11.toInt.toNat = PP v11.toInt.toNat from ((h_F.at hL89 tpa rfl).trans ((h_n1 eI12 tpa tpt (by decide)).trans ((h_F.at hL56 tpa rfl).trans (h_n1 eI7 tpa tct (by decide))))).trans (hlq c_t.toNat _ (Or.inl hC8) hp0 hc0).2.1, show I14 co v11.toInt.toNat = QQ v11.toInt.toNat from ((h_F.at hL89 tco rfl).trans ((h_n1 eI12 tco tpt (by decide)).trans ((h_F.at hL56 tco rfl).trans (h_n1 eI7 tco tct (by decide))))).trans (hlq c_t.toNat _ (Or.inl hC8) hp0 hc0).2.2, show I14 pa v22.toInt.toNat = PP v22.toInt.toNat from ((h_F.at hL89 tpa rfl).trans ((h_n1 eI12 tpa tpt (by decide)).trans ((h_F.at hL56 tpa rfl).trans (h_n1 eI7 tpa tct (by decide))))).trans (hlq d _ (Or.inl hd8) hq0 hqd).2.1, show I14 co v22.toInt.toNat = QQ v22.toInt.toNat from ((h_F.at hL89 tco rfl).trans ((h_n1 eI12 tco tpt (by decide)).trans ((h_F.at hL56 tco rfl).trans (h_n1 eI7 tco tct (by decide))))).trans (hlq d _ (Or.inl hd8) hq0 hqd).2.2] at h33p0
                  have hLL : r_lg u_ v5.toInt (rh6 + QQ v22.toInt.toNat - QQ v11.toInt.toNat) (PP v22.toInt.toNat) (PP v11.toInt.toNat) ↔ c_L z I0 bk u_ c_t v11.toInt.toNat v22.toInt.toNat := by unfold c_L; rw [← hPP _ hq0, ← hPP _ hp0, ← hQQ _ hq0, ← hQQ _ hp0, qf0_2, ← eN, hct, ← hmn, ← ef0_3, ← h6p0]
                  refine lv_if_eq (tgt := 195) hx hb dX7_findGains_187 (by decide) (fun c35 => ?_) (fun c35 => ?_)
                  · have ic35 := (xi_eq c35 rfl (by decide) : rh33.toInt = 0)
                    refine lv_iconst (v := 0) hx hb dX7_findGains_195 (by decide) ?_
                    refine h_ast hx hb g tb26 (by decide) so_856 (xi_in (by omega) (by omega)) dX7_findGains_196 (fun I36 H locs eI36 g => ?_)
                    have hI := hI.wr eI36 tb26 (rfl : h_bd 856 _ = ((-2147483648), 2147483647)) (by decide) (by decide)
                    have hF := hF.wr eI36 tb26 rfl
                    have hX : d ≠ c_t.toNat → (0 : Int32).toInt = GG ((c_t.toNat : Nat) : Int) v11.toInt.toNat v22.toInt.toNat := fun _ => by have z0 : (0 : Int32).toInt = 0 := (by decide); rw [cC, hGG c_t _ _ (by omega) (by omega) hp0 hq0, z0]; exact (r_g_n (Or.inr (fun k9 => by rcases h33p0 with q | q; omega; exact q.2 (hLL.mpr k9)))).symm
                    refine lv_aload_n hx hb dX7_findGains_197 rfl (lv_at hl 3 rfl) ?_
                    refine h_get (v := .ref pt) hx hb hts iX7 hown g t_a0 (by decide) so_8 rfl 7 (by decide) (hts (.fieldLink RX7 36 "CapLeague$RingSearch" "playerTop" "[I") (by decide +kernel)) rfl dX7_findGains_198 (by show va_rf (z.R a0 7) = _; rw [rpt]; rfl) ?_
                    refine lv_iload hx hb dX7_findGains_201 (lv_at hl 9 rfl) ?_
                    refine lv_aload_n hx hb dX7_findGains_203 rfl (lv_at hl 3 rfl) ?_
                    refine h_get (v := .ref pt) hx hb hts iX7 hown g t_a0 (by decide) so_8 rfl 7 (by decide) (hts (.fieldLink RX7 36 "CapLeague$RingSearch" "playerTop" "[I") (by decide +kernel)) rfl dX7_findGains_204 (by show va_rf (z.R a0 7) = _; rw [rpt]; rfl) ?_
                    refine lv_iload hx hb dX7_findGains_207 (lv_at hl 9 rfl) ?_
                    refine h_ald hx hb g tpt (by decide) so_807 (xi_in (by omega) (by omega)) dX7_findGains_209 ?_
                    refine lv_topi (fun v37 ev37 => ?_)
                    have jv37 := hI.rd pt v11.toNatClampNeg tpt ev37 (rfl : h_bd 807 _ = ((-2147483648), 2147483647))
                    have pt0 : I14 pt v11.toInt.toNat = v37 := by rw [← kp0, ev37]; exact ((h_n1 eI36 tpt tb26 (by decide)).trans (h_F.at fh33 tpt rfl)).symm
                    have nbv37 : 0 ≤ v37.toInt ∧ v37.toInt ≤ 9999 := by have h9 := hx89_1; rw [pt0] at h9; exact h9
                    refine lv_aload_n hx hb dX7_findGains_210 rfl (lv_at hl 3 rfl) ?_
                    refine h_get (v := .ref gn) hx hb hts iX7 hown g t_a0 (by decide) so_8 rfl 6 (by decide) (hts (.fieldLink RX7 33 "CapLeague$RingSearch" "gains" "[[I") (by decide +kernel)) rfl dX7_findGains_211 (by show va_rf (z.R a0 6) = _; rw [rgn]; rfl) ?_
                    refine lv_iload hx hb dX7_findGains_214 (lv_at hl 9 rfl) ?_
                    refine h_aldA (v := .ref b26) hx hb g tgn (by decide) so_806 (xi_in (by omega) (by omega)) dX7_findGains_216 (by rw [rb26]; rfl) ?_
                    refine lv_iload hx hb dX7_findGains_217 (lv_at hl 2 rfl) ?_
                    refine h_ald hx hb g tb26 (by decide) so_856 (xi_in (by omega) (by omega)) dX7_findGains_219 ?_
                    refine xw_i (h_n0 eI36) ?_
                    refine va_mmax hx hb (hml.trans hl.1.symm) hown (hts (.methodLink RX7 114 Lib.Math.max.name) (by decide +kernel)) (hts (.static Lib.Math.max.name) (by decide +kernel)) (hts (.initialized "java/lang/Math") (by decide +kernel)) (hts (.code Lib.Math.max.name Lib.Math.max.code 2 (some .int)) (by decide +kernel)) (Nat.le_of_ble_eq_true rfl) (Nat.le_of_ble_eq_true rfl) (Nat.le_of_ble_eq_true rfl) (Nat.le_of_ble_eq_true rfl) dX7_findGains_220 ?_
                    refine lv_topi (fun v38 ev38 => ?_)
                    have jv38 := h_max (a := v37.toInt) (b := 0) ev38 rfl (by decide)
                    refine h_ast hx hb g tpt (by decide) so_807 (xi_in (by omega) (by omega)) dX7_findGains_223 (fun I39 H locs eI39 g => ?_)
                    have hI := hI.wr eI39 tpt (rfl : h_bd 807 _ = ((-2147483648), 2147483647)) (xi_lo _) (Int.le_of_lt_add_one (xi_hi _))
                    have hF := hF.wr eI39 tpt rfl
                    obtain ⟨v40, ev40⟩ : ∃ z : Int32, z = v13 + 1 := ⟨_, rfl⟩
                    have jv40 : v40.toInt = v13.toInt + 1 := xi_add ev40 rfl (by decide) (by omega) (by omega)
                    refine lv_iinc (v := v40) (lv' := [(7, .int v40), (10, .int rh25), (9, .int 1), (8, .int v22), (0, .ref a0), (1, .int c), (2, .ref rh1), (3, .int v5), (4, .int rh6), (5, .int v8), (6, .int v11)]) hx hb dX7_findGains_224 hl (k := 10) rfl (by rw [ev40]; rfl) (by decide) rfl (fun ls hl => ?_)
                    refine lv_goto (tgt := 89) hx hb dX7_findGains_227 (by decide) ?_
                    have npt : I39 pt v11.toInt.toNat = v38 := by rw [← kp0]; exact h_n0 eI39
                    exact ih89 I39 _ _ _ v40 g hI hF (lv_sub hl [4, 5, 6, 7, 8, 9, 10, 0] rfl) (by omega) (h_F.wr (h_F.wr (h_F.call (h_F.call (h_F.rf : h_F [(2, 0), (2, 1), (2, 2), (2, 3), (807, 999), (856, 999)] z I12 I12) hL89 rfl) fh33 rfl) eI36 tb26 rfl) eI39 tpt rfl) (hx89_0.s (d := d) (q := v22.toInt.toNat) hq0 hqd (by omega) (by omega : v40.toInt = v13.toInt + 1) (x := (0 : Int32)) (by rw [ar_b26]; exact fun j => (h_n1 eI39 tb26 tpt (by decide)).trans ((h_wif eI36 kq0 j).trans (by rw [h_F.at fh33 tb26 rfl]))) (fun h9 => ⟨hX h9, by rw [npt]; have z0 : (0 : Int32).toInt = 0 := (by decide); omega⟩) (by rw [npt, pt0]; omega)) (by rw [npt]; omega) (fun k hk => by have h9 : ∀ j : Nat, I39 pt j = if j = v11.toInt.toNat then v38 else I14 pt j := fun j => (h_wif eI39 kp0 j).trans (by rw [(h_n1 eI36 tpt tb26 (by decide)).trans (h_F.at fh33 tpt rfl)]); rw [h9 k, if_neg hk]; exact hx89_2 k hk) (fun p hp hN q => by have tr9 : z.ty (h_ad z gn p) = 856 := (hR.ad tgn (rfl : h_rs 806 p = some (856, false)) (by rw [so_806]; show p < 60; omega)).2; exact ((h_n1 eI39 tr9 tpt (by decide)).trans ((h_upb eI36 (by rw [← ar_b26]; exact hrn p hp hN)).trans (h_F.at fh33 tr9 rfl))).trans (hx89_3 p hp hN q)) (by omega)
                  · have ic35 := (xi_ne c35 rfl (by decide) : rh33.toInt ≠ 0)
                    refine lv_iload hx hb dX7_findGains_190 (lv_at hl 0 rfl) ?_
                    refine lv_goto (tgt := 196) hx hb dX7_findGains_192 (by decide) ?_
                    refine h_ast hx hb g tb26 (by decide) so_856 (xi_in (by omega) (by omega)) dX7_findGains_196 (fun I41 H locs eI41 g => ?_)
                    have hI := hI.wr eI41 tb26 (rfl : h_bd 856 _ = ((-2147483648), 2147483647)) (xi_lo _) (Int.le_of_lt_add_one (xi_hi _))
                    have hF := hF.wr eI41 tb26 rfl
                    have hX : d ≠ c_t.toNat → rh25.toInt = GG ((c_t.toNat : Nat) : Int) v11.toInt.toNat v22.toInt.toNat := fun _ => by rw [cC, hGG c_t _ _ (by omega) (by omega) hp0 hq0]; exact (congrArg Int32.toInt h25p0).trans (r_g_y (by rw [← h25p0]; omega) (hLL.mp (by rcases h33p0 with q | q; exact q.2; omega))).symm
                    refine lv_aload_n hx hb dX7_findGains_197 rfl (lv_at hl 3 rfl) ?_
                    refine h_get (v := .ref pt) hx hb hts iX7 hown g t_a0 (by decide) so_8 rfl 7 (by decide) (hts (.fieldLink RX7 36 "CapLeague$RingSearch" "playerTop" "[I") (by decide +kernel)) rfl dX7_findGains_198 (by show va_rf (z.R a0 7) = _; rw [rpt]; rfl) ?_
                    refine lv_iload hx hb dX7_findGains_201 (lv_at hl 9 rfl) ?_
                    refine lv_aload_n hx hb dX7_findGains_203 rfl (lv_at hl 3 rfl) ?_
                    refine h_get (v := .ref pt) hx hb hts iX7 hown g t_a0 (by decide) so_8 rfl 7 (by decide) (hts (.fieldLink RX7 36 "CapLeague$RingSearch" "playerTop" "[I") (by decide +kernel)) rfl dX7_findGains_204 (by show va_rf (z.R a0 7) = _; rw [rpt]; rfl) ?_
                    refine lv_iload hx hb dX7_findGains_207 (lv_at hl 9 rfl) ?_
                    refine h_ald hx hb g tpt (by decide) so_807 (xi_in (by omega) (by omega)) dX7_findGains_209 ?_
                    refine lv_topi (fun v42 ev42 => ?_)
                    have jv42 := hI.rd pt v11.toNatClampNeg tpt ev42 (rfl : h_bd 807 _ = ((-2147483648), 2147483647))
                    have pt0 : I14 pt v11.toInt.toNat = v42 := by rw [← kp0, ev42]; exact ((h_n1 eI41 tpt tb26 (by decide)).trans (h_F.at fh33 tpt rfl)).symm
                    have nbv42 : 0 ≤ v42.toInt ∧ v42.toInt ≤ 9999 := by have h9 := hx89_1; rw [pt0] at h9; exact h9
                    refine lv_aload_n hx hb dX7_findGains_210 rfl (lv_at hl 3 rfl) ?_
                    refine h_get (v := .ref gn) hx hb hts iX7 hown g t_a0 (by decide) so_8 rfl 6 (by decide) (hts (.fieldLink RX7 33 "CapLeague$RingSearch" "gains" "[[I") (by decide +kernel)) rfl dX7_findGains_211 (by show va_rf (z.R a0 6) = _; rw [rgn]; rfl) ?_
                    refine lv_iload hx hb dX7_findGains_214 (lv_at hl 9 rfl) ?_
                    refine h_aldA (v := .ref b26) hx hb g tgn (by decide) so_806 (xi_in (by omega) (by omega)) dX7_findGains_216 (by rw [rb26]; rfl) ?_
                    refine lv_iload hx hb dX7_findGains_217 (lv_at hl 2 rfl) ?_
                    refine h_ald hx hb g tb26 (by decide) so_856 (xi_in (by omega) (by omega)) dX7_findGains_219 ?_
                    refine xw_i (h_n0 eI41) ?_
                    refine va_mmax hx hb (hml.trans hl.1.symm) hown (hts (.methodLink RX7 114 Lib.Math.max.name) (by decide +kernel)) (hts (.static Lib.Math.max.name) (by decide +kernel)) (hts (.initialized "java/lang/Math") (by decide +kernel)) (hts (.code Lib.Math.max.name Lib.Math.max.code 2 (some .int)) (by decide +kernel)) (Nat.le_of_ble_eq_true rfl) (Nat.le_of_ble_eq_true rfl) (Nat.le_of_ble_eq_true rfl) (Nat.le_of_ble_eq_true rfl) dX7_findGains_220 ?_
                    refine lv_topi (fun v43 ev43 => ?_)
                    have jv43 := h_max (a := v42.toInt) (b := rh25.toInt) ev43 rfl rfl
                    refine h_ast hx hb g tpt (by decide) so_807 (xi_in (by omega) (by omega)) dX7_findGains_223 (fun I44 H locs eI44 g => ?_)
                    have hI := hI.wr eI44 tpt (rfl : h_bd 807 _ = ((-2147483648), 2147483647)) (xi_lo _) (Int.le_of_lt_add_one (xi_hi _))
                    have hF := hF.wr eI44 tpt rfl
                    obtain ⟨v45, ev45⟩ : ∃ z : Int32, z = v13 + 1 := ⟨_, rfl⟩
                    have jv45 : v45.toInt = v13.toInt + 1 := xi_add ev45 rfl (by decide) (by omega) (by omega)
                    refine lv_iinc (v := v45) (lv' := [(7, .int v45), (10, .int rh25), (9, .int 1), (8, .int v22), (0, .ref a0), (1, .int c), (2, .ref rh1), (3, .int v5), (4, .int rh6), (5, .int v8), (6, .int v11)]) hx hb dX7_findGains_224 hl (k := 10) rfl (by rw [ev45]; rfl) (by decide) rfl (fun ls hl => ?_)
                    refine lv_goto (tgt := 89) hx hb dX7_findGains_227 (by decide) ?_
                    have npt : I44 pt v11.toInt.toNat = v43 := by rw [← kp0]; exact h_n0 eI44
                    exact ih89 I44 _ _ _ v45 g hI hF (lv_sub hl [4, 5, 6, 7, 8, 9, 10, 0] rfl) (by omega) (h_F.wr (h_F.wr (h_F.call (h_F.call (h_F.rf : h_F [(2, 0), (2, 1), (2, 2), (2, 3), (807, 999), (856, 999)] z I12 I12) hL89 rfl) fh33 rfl) eI41 tb26 rfl) eI44 tpt rfl) (hx89_0.s (d := d) (q := v22.toInt.toNat) hq0 hqd (by omega) (by omega : v45.toInt = v13.toInt + 1) (x := rh25) (by rw [ar_b26]; exact fun j => (h_n1 eI44 tb26 tpt (by decide)).trans ((h_wif eI41 kq0 j).trans (by rw [h_F.at fh33 tb26 rfl]))) (fun h9 => ⟨hX h9, by rw [npt]; omega⟩) (by rw [npt, pt0]; omega)) (by rw [npt]; omega) (fun k hk => by have h9 : ∀ j : Nat, I44 pt j = if j = v11.toInt.toNat then v43 else I14 pt j := fun j => (h_wif eI44 kp0 j).trans (by rw [(h_n1 eI41 tpt tb26 (by decide)).trans (h_F.at fh33 tpt rfl)]); rw [h9 k, if_neg hk]; exact hx89_2 k hk) (fun p hp hN q => by have tr9 : z.ty (h_ad z gn p) = 856 := (hR.ad tgn (rfl : h_rs 806 p = some (856, false)) (by rw [so_806]; show p < 60; omega)).2; exact ((h_n1 eI44 tr9 tpt (by decide)).trans ((h_upb eI41 (by rw [← ar_b26]; exact hrn p hp hN)).trans (h_F.at fh33 tr9 rfl))).trans (hx89_3 p hp hN q)) (by omega)
              · have ic23 := (xi_nlt c23 rfl rfl : v4.toInt ≤ v13.toInt)
                refine lv_iload hx hb dX7_findGains_121 (lv_at hl 8 rfl) ?_
                refine lv_aload_n hx hb dX7_findGains_123 rfl (lv_at hl 1 rfl) ?_
                refine h_get (v := .ref st) hx hb hts iX7 hown g t_a0 (by decide) so_8 rfl 3 (by decide) (hts (.fieldLink RX7 22 "CapLeague$RingSearch" "start" "[I") (by decide +kernel)) rfl dX7_findGains_124 (by show va_rf (z.R a0 3) = _; rw [rst]; rfl) ?_
                refine lv_iload_n hx hb dX7_findGains_127 rfl (lv_at hl 2 rfl) ?_
                refine lv_iconst (v := 1) hx hb dX7_findGains_128 (by decide) ?_
                refine lv_iadd hx hb dX7_findGains_129 ?_
                refine xw_i (v := v2) ev2.symm ?_
                refine h_ald hx hb g tst (by decide) so_803 (xi_in (by omega) (by omega)) dX7_findGains_130 ?_
                refine xw_i ((h_F.at hL89 tst rfl).trans ((h_n1 eI12 tst tpt (by decide)).trans ((h_F.at hL56 tst rfl).trans ((h_n1 eI7 tst tct (by decide)).trans (ev3.symm))))) ?_
                refine lv_icmp_lt (tgt := 138) hx hb dX7_findGains_131 (by decide) (fun c46 => ?_) (fun c46 => ?_)
                · have ic46 := (xi_lt c46 rfl rfl : v13.toInt < v3.toInt)
                  have hdC : d = c_t.toNat := q_pos_is hq0 hqd (by rw [hqk]; omega) (by rw [hqk]; omega)
                  refine lv_iconst (v := 0) hx hb dX7_findGains_138 (by decide) ?_
                  refine lv_istore (lv' := [(9, .int 0), (8, .int v22), (0, .ref a0), (1, .int c), (2, .ref rh1), (3, .int v5), (4, .int rh6), (5, .int v8), (6, .int v11), (7, .int v13)]) hx hb dX7_findGains_139 hl (by decide) rfl (fun ls hl => ?_)
                  refine lv_iload hx hb dX7_findGains_141 (lv_at hl 0 rfl) ?_
                  refine lv_if_eq (tgt := 158) hx hb dX7_findGains_143 (by decide) (fun _ => ?_) (fun h => absurd (by decide) h)
                  refine lv_iconst (v := 0) hx hb dX7_findGains_158 (by decide) ?_
                  refine lv_istore (lv' := [(10, .int 0), (9, .int 0), (8, .int v22), (0, .ref a0), (1, .int c), (2, .ref rh1), (3, .int v5), (4, .int rh6), (5, .int v8), (6, .int v11), (7, .int v13)]) hx hb dX7_findGains_159 hl (by decide) rfl (fun ls hl => ?_)
                  refine lv_aload_n hx hb dX7_findGains_161 rfl (lv_at hl 3 rfl) ?_
                  refine h_get (v := .ref gn) hx hb hts iX7 hown g t_a0 (by decide) so_8 rfl 6 (by decide) (hts (.fieldLink RX7 33 "CapLeague$RingSearch" "gains" "[[I") (by decide +kernel)) rfl dX7_findGains_162 (by show va_rf (z.R a0 6) = _; rw [rgn]; rfl) ?_
                  refine lv_iload hx hb dX7_findGains_165 (lv_at hl 9 rfl) ?_
                  obtain ⟨b48, rb48, tb48⟩ := hR.at gn v11.toNatClampNeg tgn (rfl : h_rs 806 _ = some (856, false)) (by rw [so_806]; exact h_lt (n := 60) (xi_in (by omega) (by omega)))
                  refine h_aldA (v := .ref b48) hx hb g tgn (by decide) so_806 (xi_in (by omega) (by omega)) dX7_findGains_167 (by rw [rb48]; rfl) ?_
                  have ar_b48 : h_ad z gn v11.toInt.toNat = b48 := by rw [← kp0]; exact h_ad.at rb48
                  refine lv_iload hx hb dX7_findGains_168 (lv_at hl 2 rfl) ?_
                  refine lv_iload hx hb dX7_findGains_170 (lv_at hl 0 rfl) ?_
                  refine lv_if_le (tgt := 195) hx hb dX7_findGains_172 (by decide) (fun _ => ?_) (fun h => absurd (by decide) h)
                  refine lv_iconst (v := 0) hx hb dX7_findGains_195 (by decide) ?_
                  refine h_ast hx hb g tb48 (by decide) so_856 (xi_in (by omega) (by omega)) dX7_findGains_196 (fun I50 H locs eI50 g => ?_)
                  have hI := hI.wr eI50 tb48 (rfl : h_bd 856 _ = ((-2147483648), 2147483647)) (by decide) (by decide)
                  have hF := hF.wr eI50 tb48 rfl
                  have hX : d ≠ c_t.toNat → (0 : Int32).toInt = GG ((c_t.toNat : Nat) : Int) v11.toInt.toNat v22.toInt.toNat := fun h9 => absurd hdC h9
                  refine lv_aload_n hx hb dX7_findGains_197 rfl (lv_at hl 3 rfl) ?_
                  refine h_get (v := .ref pt) hx hb hts iX7 hown g t_a0 (by decide) so_8 rfl 7 (by decide) (hts (.fieldLink RX7 36 "CapLeague$RingSearch" "playerTop" "[I") (by decide +kernel)) rfl dX7_findGains_198 (by show va_rf (z.R a0 7) = _; rw [rpt]; rfl) ?_
                  refine lv_iload hx hb dX7_findGains_201 (lv_at hl 9 rfl) ?_
                  refine lv_aload_n hx hb dX7_findGains_203 rfl (lv_at hl 3 rfl) ?_
                  refine h_get (v := .ref pt) hx hb hts iX7 hown g t_a0 (by decide) so_8 rfl 7 (by decide) (hts (.fieldLink RX7 36 "CapLeague$RingSearch" "playerTop" "[I") (by decide +kernel)) rfl dX7_findGains_204 (by show va_rf (z.R a0 7) = _; rw [rpt]; rfl) ?_
                  refine lv_iload hx hb dX7_findGains_207 (lv_at hl 9 rfl) ?_
                  refine h_ald hx hb g tpt (by decide) so_807 (xi_in (by omega) (by omega)) dX7_findGains_209 ?_
                  refine lv_topi (fun v51 ev51 => ?_)
                  have jv51 := hI.rd pt v11.toNatClampNeg tpt ev51 (rfl : h_bd 807 _ = ((-2147483648), 2147483647))
                  have pt0 : I14 pt v11.toInt.toNat = v51 := by rw [← kp0, ev51]; exact (h_n1 eI50 tpt tb48 (by decide)).symm
                  have nbv51 : 0 ≤ v51.toInt ∧ v51.toInt ≤ 9999 := by have h9 := hx89_1; rw [pt0] at h9; exact h9
                  refine lv_aload_n hx hb dX7_findGains_210 rfl (lv_at hl 3 rfl) ?_
                  refine h_get (v := .ref gn) hx hb hts iX7 hown g t_a0 (by decide) so_8 rfl 6 (by decide) (hts (.fieldLink RX7 33 "CapLeague$RingSearch" "gains" "[[I") (by decide +kernel)) rfl dX7_findGains_211 (by show va_rf (z.R a0 6) = _; rw [rgn]; rfl) ?_
                  refine lv_iload hx hb dX7_findGains_214 (lv_at hl 9 rfl) ?_
                  refine h_aldA (v := .ref b48) hx hb g tgn (by decide) so_806 (xi_in (by omega) (by omega)) dX7_findGains_216 (by rw [rb48]; rfl) ?_
                  refine lv_iload hx hb dX7_findGains_217 (lv_at hl 2 rfl) ?_
                  refine h_ald hx hb g tb48 (by decide) so_856 (xi_in (by omega) (by omega)) dX7_findGains_219 ?_
                  refine xw_i (h_n0 eI50) ?_
                  refine va_mmax hx hb (hml.trans hl.1.symm) hown (hts (.methodLink RX7 114 Lib.Math.max.name) (by decide +kernel)) (hts (.static Lib.Math.max.name) (by decide +kernel)) (hts (.initialized "java/lang/Math") (by decide +kernel)) (hts (.code Lib.Math.max.name Lib.Math.max.code 2 (some .int)) (by decide +kernel)) (Nat.le_of_ble_eq_true rfl) (Nat.le_of_ble_eq_true rfl) (Nat.le_of_ble_eq_true rfl) (Nat.le_of_ble_eq_true rfl) dX7_findGains_220 ?_
                  refine lv_topi (fun v52 ev52 => ?_)
                  have jv52 := h_max (a := v51.toInt) (b := 0) ev52 rfl (by decide)
                  refine h_ast hx hb g tpt (by decide) so_807 (xi_in (by omega) (by omega)) dX7_findGains_223 (fun I53 H locs eI53 g => ?_)
                  have hI := hI.wr eI53 tpt (rfl : h_bd 807 _ = ((-2147483648), 2147483647)) (xi_lo _) (Int.le_of_lt_add_one (xi_hi _))
                  have hF := hF.wr eI53 tpt rfl
                  obtain ⟨v54, ev54⟩ : ∃ z : Int32, z = v13 + 1 := ⟨_, rfl⟩
                  have jv54 : v54.toInt = v13.toInt + 1 := xi_add ev54 rfl (by decide) (by omega) (by omega)
                  refine lv_iinc (v := v54) (lv' := [(7, .int v54), (10, .int 0), (9, .int 0), (8, .int v22), (0, .ref a0), (1, .int c), (2, .ref rh1), (3, .int v5), (4, .int rh6), (5, .int v8), (6, .int v11)]) hx hb dX7_findGains_224 hl (k := 10) rfl (by rw [ev54]; rfl) (by decide) rfl (fun ls hl => ?_)
                  refine lv_goto (tgt := 89) hx hb dX7_findGains_227 (by decide) ?_
                  have npt : I53 pt v11.toInt.toNat = v52 := by rw [← kp0]; exact h_n0 eI53
                  exact ih89 I53 _ _ _ v54 g hI hF (lv_sub hl [4, 5, 6, 7, 8, 9, 10, 0] rfl) (by omega) (h_F.wr (h_F.wr (h_F.call (h_F.rf : h_F [(2, 0), (2, 1), (2, 2), (2, 3), (807, 999), (856, 999)] z I12 I12) hL89 rfl) eI50 tb48 rfl) eI53 tpt rfl) (hx89_0.s (d := d) (q := v22.toInt.toNat) hq0 hqd (by omega) (by omega : v54.toInt = v13.toInt + 1) (x := (0 : Int32)) (by rw [ar_b48]; exact fun j => (h_n1 eI53 tb48 tpt (by decide)).trans (h_wif eI50 kq0 j)) (fun h9 => ⟨hX h9, by rw [npt]; have z0 : (0 : Int32).toInt = 0 := (by decide); omega⟩) (by rw [npt, pt0]; omega)) (by rw [npt]; omega) (fun k hk => by have h9 : ∀ j : Nat, I53 pt j = if j = v11.toInt.toNat then v52 else I14 pt j := fun j => (h_wif eI53 kp0 j).trans (by rw [h_n1 eI50 tpt tb48 (by decide)]); rw [h9 k, if_neg hk]; exact hx89_2 k hk) (fun p hp hN q => by have tr9 : z.ty (h_ad z gn p) = 856 := (hR.ad tgn (rfl : h_rs 806 p = some (856, false)) (by rw [so_806]; show p < 60; omega)).2; exact ((h_n1 eI53 tr9 tpt (by decide)).trans (h_upb eI50 (by rw [← ar_b48]; exact hrn p hp hN))).trans (hx89_3 p hp hN q)) (by omega)
                · have ic46 := (xi_nlt c46 rfl rfl : v3.toInt ≤ v13.toInt)
                  have hdC : d ≠ c_t.toNat := q_pos_ne hq0 hqd (by rw [hqk]; omega)
                  refine lv_iconst (v := 1) hx hb dX7_findGains_134 (by decide) ?_
                  refine lv_goto (tgt := 139) hx hb dX7_findGains_135 (by decide) ?_
                  refine lv_istore (lv' := [(9, .int 1), (8, .int v22), (0, .ref a0), (1, .int c), (2, .ref rh1), (3, .int v5), (4, .int rh6), (5, .int v8), (6, .int v11), (7, .int v13)]) hx hb dX7_findGains_139 hl (by decide) rfl (fun ls hl => ?_)
                  refine lv_iload hx hb dX7_findGains_141 (lv_at hl 0 rfl) ?_
                  refine lv_if_eq (tgt := 158) hx hb dX7_findGains_143 (by decide) (fun h => absurd h (by decide)) (fun _ => ?_)
                  refine lv_aload_n hx hb dX7_findGains_146 rfl (lv_at hl 2 rfl) ?_
                  refine lv_iload_n hx hb dX7_findGains_147 rfl (lv_at hl 3 rfl) ?_
                  refine lv_iload hx hb dX7_findGains_148 (lv_at hl 8 rfl) ?_
                  refine lv_iload hx hb dX7_findGains_150 (lv_at hl 1 rfl) ?_
                  refine vp_callSi (W.runV (As := [.int c, .int v11, .int v22]) (rest := []) ⟨hx, hb, hml, hown, hts⟩ (tX7_worthMoreR l E X A z I14 L0 a0 t_a0 c (c_t) h_c (by omega) v11 (v11.toInt) rfl (by omega) v22 (v22.toInt) rfl (by omega) (by rw [abk, show I14 bk 2 = f0_2 from (h_F.at hL89 tbk rfl).trans ((h_n1 eI12 tbk tpt (by decide)).trans ((h_F.at hL56 tbk rfl).trans ((h_n1 eI7 tbk tct (by decide)).trans (ef0_2.symm))))]; omega) (by rw [abk, show I14 bk 2 = f0_2 from (h_F.at hL89 tbk rfl).trans ((h_n1 eI12 tbk tpt (by decide)).trans ((h_F.at hL56 tbk rfl).trans ((h_n1 eI7 tbk tct (by decide)).trans (ef0_2.symm))))]; omega) (by rw [abk, apl, show I14 bk 2 = f0_2 from (h_F.at hL89 tbk rfl).trans ((h_n1 eI12 tbk tpt (by decide)).trans ((h_F.at hL56 tbk rfl).trans ((h_n1 eI7 tbk tct (by decide)).trans (ef0_2.symm))))]; exact hnn)) (cwV 3 hts gX7_findGains_X7_worthMore rfl rfl rfl (by decide +kernel) ⟨Nat.le_of_ble_eq_true rfl, Nat.le_of_ble_eq_true rfl⟩) ⟨h_blind _ _ _ _ _ _ _, h_recv g t_a0 (by decide) so_8 (q := (RX7, TX7, 13)) rfl, h_pre _ hE hk hX hA hI hR g⟩ rfl rfl hl.1 rfl (lv_room (Nat.le_of_ble_eq_true rfl)) dX7_findGains_152 ⟨Nat.le_of_ble_eq_true rfl, Nat.le_of_ble_eq_true rfl⟩) (fun rh56 h56 => ?_)
                  have h56p0 := h56
                  have jrh56 : -2147483648 ≤ rh56.toInt ∧ rh56.toInt ≤ 2147483647 := ⟨xi_lo _, Int.le_of_lt_add_one (xi_hi _)⟩
                  rw [abk, c_w_F hR hF tbk apl tpl (fun _ => rfl) (by omega) (hnn _ (by omega)), c_w_F hR hF tbk apl tpl (fun _ => rfl) (by omega) (hnn _ (by omega))] at h56p0
                  have w1 := hwb c_t.toNat v11.toInt.toNat hC8 hp0
                  have w2 := hwb c_t.toNat v22.toInt.toNat hC8 hq0
                  rw [cC] at w1 w2
                  have moI : rh56.toInt = (c_w z I0 bk c_t v22.toInt.toNat).toInt - (c_w z I0 bk c_t v11.toInt.toNat).toInt := xi_sub h56p0 rfl rfl (by omega) (by omega)
                  have nbrh56 : -9999 ≤ rh56.toInt ∧ rh56.toInt ≤ 9999 := by omega
                  refine lv_goto (tgt := 159) hx hb dX7_findGains_155 (by decide) ?_
                  refine lv_istore (lv' := [(10, .int rh56), (9, .int 1), (8, .int v22), (0, .ref a0), (1, .int c), (2, .ref rh1), (3, .int v5), (4, .int rh6), (5, .int v8), (6, .int v11), (7, .int v13)]) hx hb dX7_findGains_159 hl (by decide) rfl (fun ls hl => ?_)
                  refine lv_aload_n hx hb dX7_findGains_161 rfl (lv_at hl 3 rfl) ?_
                  refine h_get (v := .ref gn) hx hb hts iX7 hown g t_a0 (by decide) so_8 rfl 6 (by decide) (hts (.fieldLink RX7 33 "CapLeague$RingSearch" "gains" "[[I") (by decide +kernel)) rfl dX7_findGains_162 (by show va_rf (z.R a0 6) = _; rw [rgn]; rfl) ?_
                  refine lv_iload hx hb dX7_findGains_165 (lv_at hl 9 rfl) ?_
                  obtain ⟨b57, rb57, tb57⟩ := hR.at gn v11.toNatClampNeg tgn (rfl : h_rs 806 _ = some (856, false)) (by rw [so_806]; exact h_lt (n := 60) (xi_in (by omega) (by omega)))
                  refine h_aldA (v := .ref b57) hx hb g tgn (by decide) so_806 (xi_in (by omega) (by omega)) dX7_findGains_167 (by rw [rb57]; rfl) ?_
                  have ar_b57 : h_ad z gn v11.toInt.toNat = b57 := by rw [← kp0]; exact h_ad.at rb57
                  refine lv_iload hx hb dX7_findGains_168 (lv_at hl 2 rfl) ?_
                  refine lv_iload hx hb dX7_findGains_170 (lv_at hl 0 rfl) ?_
                  refine lv_if_le (tgt := 195) hx hb dX7_findGains_172 (by decide) (fun c58 => ?_) (fun c58 => ?_)
                  · have ic58 := (xi_le c58 rfl (by decide) : rh56.toInt ≤ 0)
                    refine lv_iconst (v := 0) hx hb dX7_findGains_195 (by decide) ?_
                    refine h_ast hx hb g tb57 (by decide) so_856 (xi_in (by omega) (by omega)) dX7_findGains_196 (fun I59 H locs eI59 g => ?_)
                    have hI := hI.wr eI59 tb57 (rfl : h_bd 856 _ = ((-2147483648), 2147483647)) (by decide) (by decide)
                    have hF := hF.wr eI59 tb57 rfl
                    have hX : d ≠ c_t.toNat → (0 : Int32).toInt = GG ((c_t.toNat : Nat) : Int) v11.toInt.toNat v22.toInt.toNat := fun _ => by have z0 : (0 : Int32).toInt = 0 := (by decide); rw [cC, hGG c_t _ _ (by omega) (by omega) hp0 hq0, z0]; exact (r_g_n (Or.inl (by rw [← h56p0]; omega))).symm
                    refine lv_aload_n hx hb dX7_findGains_197 rfl (lv_at hl 3 rfl) ?_
                    refine h_get (v := .ref pt) hx hb hts iX7 hown g t_a0 (by decide) so_8 rfl 7 (by decide) (hts (.fieldLink RX7 36 "CapLeague$RingSearch" "playerTop" "[I") (by decide +kernel)) rfl dX7_findGains_198 (by show va_rf (z.R a0 7) = _; rw [rpt]; rfl) ?_
                    refine lv_iload hx hb dX7_findGains_201 (lv_at hl 9 rfl) ?_
                    refine lv_aload_n hx hb dX7_findGains_203 rfl (lv_at hl 3 rfl) ?_
                    refine h_get (v := .ref pt) hx hb hts iX7 hown g t_a0 (by decide) so_8 rfl 7 (by decide) (hts (.fieldLink RX7 36 "CapLeague$RingSearch" "playerTop" "[I") (by decide +kernel)) rfl dX7_findGains_204 (by show va_rf (z.R a0 7) = _; rw [rpt]; rfl) ?_
                    refine lv_iload hx hb dX7_findGains_207 (lv_at hl 9 rfl) ?_
                    refine h_ald hx hb g tpt (by decide) so_807 (xi_in (by omega) (by omega)) dX7_findGains_209 ?_
                    refine lv_topi (fun v60 ev60 => ?_)
                    have jv60 := hI.rd pt v11.toNatClampNeg tpt ev60 (rfl : h_bd 807 _ = ((-2147483648), 2147483647))
                    have pt0 : I14 pt v11.toInt.toNat = v60 := by rw [← kp0, ev60]; exact (h_n1 eI59 tpt tb57 (by decide)).symm
                    have nbv60 : 0 ≤ v60.toInt ∧ v60.toInt ≤ 9999 := by have h9 := hx89_1; rw [pt0] at h9; exact h9
                    refine lv_aload_n hx hb dX7_findGains_210 rfl (lv_at hl 3 rfl) ?_
                    refine h_get (v := .ref gn) hx hb hts iX7 hown g t_a0 (by decide) so_8 rfl 6 (by decide) (hts (.fieldLink RX7 33 "CapLeague$RingSearch" "gains" "[[I") (by decide +kernel)) rfl dX7_findGains_211 (by show va_rf (z.R a0 6) = _; rw [rgn]; rfl) ?_
                    refine lv_iload hx hb dX7_findGains_214 (lv_at hl 9 rfl) ?_
                    refine h_aldA (v := .ref b57) hx hb g tgn (by decide) so_806 (xi_in (by omega) (by omega)) dX7_findGains_216 (by rw [rb57]; rfl) ?_
                    refine lv_iload hx hb dX7_findGains_217 (lv_at hl 2 rfl) ?_
                    refine h_ald hx hb g tb57 (by decide) so_856 (xi_in (by omega) (by omega)) dX7_findGains_219 ?_
                    refine xw_i (h_n0 eI59) ?_
                    refine va_mmax hx hb (hml.trans hl.1.symm) hown (hts (.methodLink RX7 114 Lib.Math.max.name) (by decide +kernel)) (hts (.static Lib.Math.max.name) (by decide +kernel)) (hts (.initialized "java/lang/Math") (by decide +kernel)) (hts (.code Lib.Math.max.name Lib.Math.max.code 2 (some .int)) (by decide +kernel)) (Nat.le_of_ble_eq_true rfl) (Nat.le_of_ble_eq_true rfl) (Nat.le_of_ble_eq_true rfl) (Nat.le_of_ble_eq_true rfl) dX7_findGains_220 ?_
                    refine lv_topi (fun v61 ev61 => ?_)
                    have jv61 := h_max (a := v60.toInt) (b := 0) ev61 rfl (by decide)
                    refine h_ast hx hb g tpt (by decide) so_807 (xi_in (by omega) (by omega)) dX7_findGains_223 (fun I62 H locs eI62 g => ?_)
                    have hI := hI.wr eI62 tpt (rfl : h_bd 807 _ = ((-2147483648), 2147483647)) (xi_lo _) (Int.le_of_lt_add_one (xi_hi _))
                    have hF := hF.wr eI62 tpt rfl
                    obtain ⟨v63, ev63⟩ : ∃ z : Int32, z = v13 + 1 := ⟨_, rfl⟩
                    have jv63 : v63.toInt = v13.toInt + 1 := xi_add ev63 rfl (by decide) (by omega) (by omega)
                    refine lv_iinc (v := v63) (lv' := [(7, .int v63), (10, .int rh56), (9, .int 1), (8, .int v22), (0, .ref a0), (1, .int c), (2, .ref rh1), (3, .int v5), (4, .int rh6), (5, .int v8), (6, .int v11)]) hx hb dX7_findGains_224 hl (k := 10) rfl (by rw [ev63]; rfl) (by decide) rfl (fun ls hl => ?_)
                    refine lv_goto (tgt := 89) hx hb dX7_findGains_227 (by decide) ?_
                    have npt : I62 pt v11.toInt.toNat = v61 := by rw [← kp0]; exact h_n0 eI62
                    exact ih89 I62 _ _ _ v63 g hI hF (lv_sub hl [4, 5, 6, 7, 8, 9, 10, 0] rfl) (by omega) (h_F.wr (h_F.wr (h_F.call (h_F.rf : h_F [(2, 0), (2, 1), (2, 2), (2, 3), (807, 999), (856, 999)] z I12 I12) hL89 rfl) eI59 tb57 rfl) eI62 tpt rfl) (hx89_0.s (d := d) (q := v22.toInt.toNat) hq0 hqd (by omega) (by omega : v63.toInt = v13.toInt + 1) (x := (0 : Int32)) (by rw [ar_b57]; exact fun j => (h_n1 eI62 tb57 tpt (by decide)).trans (h_wif eI59 kq0 j)) (fun h9 => ⟨hX h9, by rw [npt]; have z0 : (0 : Int32).toInt = 0 := (by decide); omega⟩) (by rw [npt, pt0]; omega)) (by rw [npt]; omega) (fun k hk => by have h9 : ∀ j : Nat, I62 pt j = if j = v11.toInt.toNat then v61 else I14 pt j := fun j => (h_wif eI62 kp0 j).trans (by rw [h_n1 eI59 tpt tb57 (by decide)]); rw [h9 k, if_neg hk]; exact hx89_2 k hk) (fun p hp hN q => by have tr9 : z.ty (h_ad z gn p) = 856 := (hR.ad tgn (rfl : h_rs 806 p = some (856, false)) (by rw [so_806]; show p < 60; omega)).2; exact ((h_n1 eI62 tr9 tpt (by decide)).trans (h_upb eI59 (by rw [← ar_b57]; exact hrn p hp hN))).trans (hx89_3 p hp hN q)) (by omega)
                  · have ic58 := (xi_nle c58 rfl (by decide) : 0 < rh56.toInt)
                    refine lv_aload_n hx hb dX7_findGains_175 rfl (lv_at hl 3 rfl) ?_
                    refine lv_iload hx hb dX7_findGains_176 (lv_at hl 9 rfl) ?_
                    refine lv_iload hx hb dX7_findGains_178 (lv_at hl 2 rfl) ?_
                    refine lv_iload_n hx hb dX7_findGains_180 rfl (lv_at hl 6 rfl) ?_
                    refine lv_iload hx hb dX7_findGains_181 (lv_at hl 7 rfl) ?_
                    refine lv_aload_n hx hb dX7_findGains_183 rfl (lv_at hl 5 rfl) ?_
                    refine va_calli (va_runV (As := [.int v11, .int v22, .int v5, .int rh6, .ref rh1]) (rest := [.int v22, .ref b57]) ⟨hx, hb, hml, hown, hts⟩ (tX7_isLegalR l E X A z I14 L0 a0 t_a0 v11 (v11.toInt) rfl (by omega) v22 (v22.toInt) rfl (by omega) v5 (v5.toInt) rfl rh6 (rh6.toInt) rfl rh1 trh1 (u_) (h_lwF hR hF (fun _ => rfl) (fun _ => rfl) (fun _ => rfl) ttx tun hcl _ hof) (hob) (by rw [apa, show I14 pa v11.toInt.toNat = PP v11.toInt.toNat from ((h_F.at hL89 tpa rfl).trans ((h_n1 eI12 tpa tpt (by decide)).trans ((h_F.at hL56 tpa rfl).trans (h_n1 eI7 tpa tct (by decide))))).trans (hlq c_t.toNat _ (Or.inl hC8) hp0 hc0).2.1]; exact hpy _ hp0)) (cwV 5 hts gX7_findGains_X7_isLegal rfl rfl rfl (by decide +kernel) ⟨Nat.le_of_ble_eq_true rfl, Nat.le_of_ble_eq_true rfl⟩) ⟨h_blind _ _ _ _ _ _ _, h_recv g t_a0 (by decide) so_8 (q := (RX7, TX7, 13)) rfl, h_pre _ hE hk hX hA hI hR g⟩ rfl rfl hl.1 rfl (lv_room (Nat.le_of_ble_eq_true rfl)) dX7_findGains_184 ⟨Nat.le_of_ble_eq_true rfl, Nat.le_of_ble_eq_true rfl⟩) g.2.1 (fun q _ h => h) (fun q h => h) (fun rh64 I65 t H1 locs ht hvm h64 hB hz1 hk1 hS => ?_)
                    obtain ⟨hI, fh64, h64⟩ := h64
                    replace g := h_after g hB ht hS
                    generalize H1 = H at g
                    clear hB hk1 hz1 ht hvm hS
                    have hF := hF.call fh64 rfl
                    obtain ⟨h64, h64p0⟩ := h64
                    rw [apa, aco, show I14 pa v11.toInt.toNat = PP v11.toInt.toNat from ((h_F.at hL89 tpa rfl).trans ((h_n1 eI12 tpa tpt (by decide)).trans ((h_F.at hL56 tpa rfl).trans (h_n1 eI7 tpa tct (by decide))))).trans (hlq c_t.toNat _ (Or.inl hC8) hp0 hc0).2.1, show I14 co v11.toInt.toNat = QQ v11.toInt.toNat from ((h_F.at hL89 tco rfl).trans ((h_n1 eI12 tco tpt (by decide)).trans ((h_F.at hL56 tco rfl).trans (h_n1 eI7 tco tct (by decide))))).trans (hlq c_t.toNat _ (Or.inl hC8) hp0 hc0).2.2, show I14 pa v22.toInt.toNat = PP v22.toInt.toNat from ((h_F.at hL89 tpa rfl).trans ((h_n1 eI12 tpa tpt (by decide)).trans ((h_F.at hL56 tpa rfl).trans (h_n1 eI7 tpa tct (by decide))))).trans (hlq d _ (Or.inl hd8) hq0 hqd).2.1, show I14 co v22.toInt.toNat = QQ v22.toInt.toNat from ((h_F.at hL89 tco rfl).trans ((h_n1 eI12 tco tpt (by decide)).trans ((h_F.at hL56 tco rfl).trans (h_n1 eI7 tco tct (by decide))))).trans (hlq d _ (Or.inl hd8) hq0 hqd).2.2] at h64p0
                    have hLL : r_lg u_ v5.toInt (rh6 + QQ v22.toInt.toNat - QQ v11.toInt.toNat) (PP v22.toInt.toNat) (PP v11.toInt.toNat) ↔ c_L z I0 bk u_ c_t v11.toInt.toNat v22.toInt.toNat := by unfold c_L; rw [← hPP _ hq0, ← hPP _ hp0, ← hQQ _ hq0, ← hQQ _ hp0, qf0_2, ← eN, hct, ← hmn, ← ef0_3, ← h6p0]
                    refine lv_if_eq (tgt := 195) hx hb dX7_findGains_187 (by decide) (fun c66 => ?_) (fun c66 => ?_)
                    · have ic66 := (xi_eq c66 rfl (by decide) : rh64.toInt = 0)
                      refine lv_iconst (v := 0) hx hb dX7_findGains_195 (by decide) ?_
                      refine h_ast hx hb g tb57 (by decide) so_856 (xi_in (by omega) (by omega)) dX7_findGains_196 (fun I67 H locs eI67 g => ?_)
                      have hI := hI.wr eI67 tb57 (rfl : h_bd 856 _ = ((-2147483648), 2147483647)) (by decide) (by decide)
                      have hF := hF.wr eI67 tb57 rfl
                      have hX : d ≠ c_t.toNat → (0 : Int32).toInt = GG ((c_t.toNat : Nat) : Int) v11.toInt.toNat v22.toInt.toNat := fun _ => by have z0 : (0 : Int32).toInt = 0 := (by decide); rw [cC, hGG c_t _ _ (by omega) (by omega) hp0 hq0, z0]; exact (r_g_n (Or.inr (fun k9 => by rcases h64p0 with q | q; omega; exact q.2 (hLL.mpr k9)))).symm
                      refine lv_aload_n hx hb dX7_findGains_197 rfl (lv_at hl 3 rfl) ?_
                      refine h_get (v := .ref pt) hx hb hts iX7 hown g t_a0 (by decide) so_8 rfl 7 (by decide) (hts (.fieldLink RX7 36 "CapLeague$RingSearch" "playerTop" "[I") (by decide +kernel)) rfl dX7_findGains_198 (by show va_rf (z.R a0 7) = _; rw [rpt]; rfl) ?_
                      refine lv_iload hx hb dX7_findGains_201 (lv_at hl 9 rfl) ?_
                      refine lv_aload_n hx hb dX7_findGains_203 rfl (lv_at hl 3 rfl) ?_
                      refine h_get (v := .ref pt) hx hb hts iX7 hown g t_a0 (by decide) so_8 rfl 7 (by decide) (hts (.fieldLink RX7 36 "CapLeague$RingSearch" "playerTop" "[I") (by decide +kernel)) rfl dX7_findGains_204 (by show va_rf (z.R a0 7) = _; rw [rpt]; rfl) ?_
                      refine lv_iload hx hb dX7_findGains_207 (lv_at hl 9 rfl) ?_
                      refine h_ald hx hb g tpt (by decide) so_807 (xi_in (by omega) (by omega)) dX7_findGains_209 ?_
                      refine lv_topi (fun v68 ev68 => ?_)
                      have jv68 := hI.rd pt v11.toNatClampNeg tpt ev68 (rfl : h_bd 807 _ = ((-2147483648), 2147483647))
                      have pt0 : I14 pt v11.toInt.toNat = v68 := by rw [← kp0, ev68]; exact ((h_n1 eI67 tpt tb57 (by decide)).trans (h_F.at fh64 tpt rfl)).symm
                      have nbv68 : 0 ≤ v68.toInt ∧ v68.toInt ≤ 9999 := by have h9 := hx89_1; rw [pt0] at h9; exact h9
                      refine lv_aload_n hx hb dX7_findGains_210 rfl (lv_at hl 3 rfl) ?_
                      refine h_get (v := .ref gn) hx hb hts iX7 hown g t_a0 (by decide) so_8 rfl 6 (by decide) (hts (.fieldLink RX7 33 "CapLeague$RingSearch" "gains" "[[I") (by decide +kernel)) rfl dX7_findGains_211 (by show va_rf (z.R a0 6) = _; rw [rgn]; rfl) ?_
                      refine lv_iload hx hb dX7_findGains_214 (lv_at hl 9 rfl) ?_
                      refine h_aldA (v := .ref b57) hx hb g tgn (by decide) so_806 (xi_in (by omega) (by omega)) dX7_findGains_216 (by rw [rb57]; rfl) ?_
                      refine lv_iload hx hb dX7_findGains_217 (lv_at hl 2 rfl) ?_
                      refine h_ald hx hb g tb57 (by decide) so_856 (xi_in (by omega) (by omega)) dX7_findGains_219 ?_
                      refine xw_i (h_n0 eI67) ?_
                      refine va_mmax hx hb (hml.trans hl.1.symm) hown (hts (.methodLink RX7 114 Lib.Math.max.name) (by decide +kernel)) (hts (.static Lib.Math.max.name) (by decide +kernel)) (hts (.initialized "java/lang/Math") (by decide +kernel)) (hts (.code Lib.Math.max.name Lib.Math.max.code 2 (some .int)) (by decide +kernel)) (Nat.le_of_ble_eq_true rfl) (Nat.le_of_ble_eq_true rfl) (Nat.le_of_ble_eq_true rfl) (Nat.le_of_ble_eq_true rfl) dX7_findGains_220 ?_
                      refine lv_topi (fun v69 ev69 => ?_)
                      have jv69 := h_max (a := v68.toInt) (b := 0) ev69 rfl (by decide)
                      refine h_ast hx hb g tpt (by decide) so_807 (xi_in (by omega) (by omega)) dX7_findGains_223 (fun I70 H locs eI70 g => ?_)
                      have hI := hI.wr eI70 tpt (rfl : h_bd 807 _ = ((-2147483648), 2147483647)) (xi_lo _) (Int.le_of_lt_add_one (xi_hi _))
                      have hF := hF.wr eI70 tpt rfl
                      obtain ⟨v71, ev71⟩ : ∃ z : Int32, z = v13 + 1 := ⟨_, rfl⟩
                      have jv71 : v71.toInt = v13.toInt + 1 := xi_add ev71 rfl (by decide) (by omega) (by omega)
                      refine lv_iinc (v := v71) (lv' := [(7, .int v71), (10, .int rh56), (9, .int 1), (8, .int v22), (0, .ref a0), (1, .int c), (2, .ref rh1), (3, .int v5), (4, .int rh6), (5, .int v8), (6, .int v11)]) hx hb dX7_findGains_224 hl (k := 10) rfl (by rw [ev71]; rfl) (by decide) rfl (fun ls hl => ?_)
                      refine lv_goto (tgt := 89) hx hb dX7_findGains_227 (by decide) ?_
                      have npt : I70 pt v11.toInt.toNat = v69 := by rw [← kp0]; exact h_n0 eI70
                      exact ih89 I70 _ _ _ v71 g hI hF (lv_sub hl [4, 5, 6, 7, 8, 9, 10, 0] rfl) (by omega) (h_F.wr (h_F.wr (h_F.call (h_F.call (h_F.rf : h_F [(2, 0), (2, 1), (2, 2), (2, 3), (807, 999), (856, 999)] z I12 I12) hL89 rfl) fh64 rfl) eI67 tb57 rfl) eI70 tpt rfl) (hx89_0.s (d := d) (q := v22.toInt.toNat) hq0 hqd (by omega) (by omega : v71.toInt = v13.toInt + 1) (x := (0 : Int32)) (by rw [ar_b57]; exact fun j => (h_n1 eI70 tb57 tpt (by decide)).trans ((h_wif eI67 kq0 j).trans (by rw [h_F.at fh64 tb57 rfl]))) (fun h9 => ⟨hX h9, by rw [npt]; have z0 : (0 : Int32).toInt = 0 := (by decide); omega⟩) (by rw [npt, pt0]; omega)) (by rw [npt]; omega) (fun k hk => by have h9 : ∀ j : Nat, I70 pt j = if j = v11.toInt.toNat then v69 else I14 pt j := fun j => (h_wif eI70 kp0 j).trans (by rw [(h_n1 eI67 tpt tb57 (by decide)).trans (h_F.at fh64 tpt rfl)]); rw [h9 k, if_neg hk]; exact hx89_2 k hk) (fun p hp hN q => by have tr9 : z.ty (h_ad z gn p) = 856 := (hR.ad tgn (rfl : h_rs 806 p = some (856, false)) (by rw [so_806]; show p < 60; omega)).2; exact ((h_n1 eI70 tr9 tpt (by decide)).trans ((h_upb eI67 (by rw [← ar_b57]; exact hrn p hp hN)).trans (h_F.at fh64 tr9 rfl))).trans (hx89_3 p hp hN q)) (by omega)
                    · have ic66 := (xi_ne c66 rfl (by decide) : rh64.toInt ≠ 0)
                      refine lv_iload hx hb dX7_findGains_190 (lv_at hl 0 rfl) ?_
                      refine lv_goto (tgt := 196) hx hb dX7_findGains_192 (by decide) ?_
                      refine h_ast hx hb g tb57 (by decide) so_856 (xi_in (by omega) (by omega)) dX7_findGains_196 (fun I72 H locs eI72 g => ?_)
                      have hI := hI.wr eI72 tb57 (rfl : h_bd 856 _ = ((-2147483648), 2147483647)) (xi_lo _) (Int.le_of_lt_add_one (xi_hi _))
                      have hF := hF.wr eI72 tb57 rfl
                      have hX : d ≠ c_t.toNat → rh56.toInt = GG ((c_t.toNat : Nat) : Int) v11.toInt.toNat v22.toInt.toNat := fun _ => by rw [cC, hGG c_t _ _ (by omega) (by omega) hp0 hq0]; exact (congrArg Int32.toInt h56p0).trans (r_g_y (by rw [← h56p0]; omega) (hLL.mp (by rcases h64p0 with q | q; exact q.2; omega))).symm
                      refine lv_aload_n hx hb dX7_findGains_197 rfl (lv_at hl 3 rfl) ?_
                      refine h_get (v := .ref pt) hx hb hts iX7 hown g t_a0 (by decide) so_8 rfl 7 (by decide) (hts (.fieldLink RX7 36 "CapLeague$RingSearch" "playerTop" "[I") (by decide +kernel)) rfl dX7_findGains_198 (by show va_rf (z.R a0 7) = _; rw [rpt]; rfl) ?_
                      refine lv_iload hx hb dX7_findGains_201 (lv_at hl 9 rfl) ?_
                      refine lv_aload_n hx hb dX7_findGains_203 rfl (lv_at hl 3 rfl) ?_
                      refine h_get (v := .ref pt) hx hb hts iX7 hown g t_a0 (by decide) so_8 rfl 7 (by decide) (hts (.fieldLink RX7 36 "CapLeague$RingSearch" "playerTop" "[I") (by decide +kernel)) rfl dX7_findGains_204 (by show va_rf (z.R a0 7) = _; rw [rpt]; rfl) ?_
                      refine lv_iload hx hb dX7_findGains_207 (lv_at hl 9 rfl) ?_
                      refine h_ald hx hb g tpt (by decide) so_807 (xi_in (by omega) (by omega)) dX7_findGains_209 ?_
                      refine lv_topi (fun v73 ev73 => ?_)
                      have jv73 := hI.rd pt v11.toNatClampNeg tpt ev73 (rfl : h_bd 807 _ = ((-2147483648), 2147483647))
                      have pt0 : I14 pt v11.toInt.toNat = v73 := by rw [← kp0, ev73]; exact ((h_n1 eI72 tpt tb57 (by decide)).trans (h_F.at fh64 tpt rfl)).symm
                      have nbv73 : 0 ≤ v73.toInt ∧ v73.toInt ≤ 9999 := by have h9 := hx89_1; rw [pt0] at h9; exact h9
                      refine lv_aload_n hx hb dX7_findGains_210 rfl (lv_at hl 3 rfl) ?_
                      refine h_get (v := .ref gn) hx hb hts iX7 hown g t_a0 (by decide) so_8 rfl 6 (by decide) (hts (.fieldLink RX7 33 "CapLeague$RingSearch" "gains" "[[I") (by decide +kernel)) rfl dX7_findGains_211 (by show va_rf (z.R a0 6) = _; rw [rgn]; rfl) ?_
                      refine lv_iload hx hb dX7_findGains_214 (lv_at hl 9 rfl) ?_
                      refine h_aldA (v := .ref b57) hx hb g tgn (by decide) so_806 (xi_in (by omega) (by omega)) dX7_findGains_216 (by rw [rb57]; rfl) ?_
                      refine lv_iload hx hb dX7_findGains_217 (lv_at hl 2 rfl) ?_
                      refine h_ald hx hb g tb57 (by decide) so_856 (xi_in (by omega) (by omega)) dX7_findGains_219 ?_
                      refine xw_i (h_n0 eI72) ?_
                      refine va_mmax hx hb (hml.trans hl.1.symm) hown (hts (.methodLink RX7 114 Lib.Math.max.name) (by decide +kernel)) (hts (.static Lib.Math.max.name) (by decide +kernel)) (hts (.initialized "java/lang/Math") (by decide +kernel)) (hts (.code Lib.Math.max.name Lib.Math.max.code 2 (some .int)) (by decide +kernel)) (Nat.le_of_ble_eq_true rfl) (Nat.le_of_ble_eq_true rfl) (Nat.le_of_ble_eq_true rfl) (Nat.le_of_ble_eq_true rfl) dX7_findGains_220 ?_
                      refine lv_topi (fun v74 ev74 => ?_)
                      have jv74 := h_max (a := v73.toInt) (b := rh56.toInt) ev74 rfl rfl
                      refine h_ast hx hb g tpt (by decide) so_807 (xi_in (by omega) (by omega)) dX7_findGains_223 (fun I75 H locs eI75 g => ?_)
                      have hI := hI.wr eI75 tpt (rfl : h_bd 807 _ = ((-2147483648), 2147483647)) (xi_lo _) (Int.le_of_lt_add_one (xi_hi _))
                      have hF := hF.wr eI75 tpt rfl
                      obtain ⟨v76, ev76⟩ : ∃ z : Int32, z = v13 + 1 := ⟨_, rfl⟩
                      have jv76 : v76.toInt = v13.toInt + 1 := xi_add ev76 rfl (by decide) (by omega) (by omega)
                      refine lv_iinc (v := v76) (lv' := [(7, .int v76), (10, .int rh56), (9, .int 1), (8, .int v22), (0, .ref a0), (1, .int c), (2, .ref rh1), (3, .int v5), (4, .int rh6), (5, .int v8), (6, .int v11)]) hx hb dX7_findGains_224 hl (k := 10) rfl (by rw [ev76]; rfl) (by decide) rfl (fun ls hl => ?_)
                      refine lv_goto (tgt := 89) hx hb dX7_findGains_227 (by decide) ?_
                      have npt : I75 pt v11.toInt.toNat = v74 := by rw [← kp0]; exact h_n0 eI75
                      exact ih89 I75 _ _ _ v76 g hI hF (lv_sub hl [4, 5, 6, 7, 8, 9, 10, 0] rfl) (by omega) (h_F.wr (h_F.wr (h_F.call (h_F.call (h_F.rf : h_F [(2, 0), (2, 1), (2, 2), (2, 3), (807, 999), (856, 999)] z I12 I12) hL89 rfl) fh64 rfl) eI72 tb57 rfl) eI75 tpt rfl) (hx89_0.s (d := d) (q := v22.toInt.toNat) hq0 hqd (by omega) (by omega : v76.toInt = v13.toInt + 1) (x := rh56) (by rw [ar_b57]; exact fun j => (h_n1 eI75 tb57 tpt (by decide)).trans ((h_wif eI72 kq0 j).trans (by rw [h_F.at fh64 tb57 rfl]))) (fun h9 => ⟨hX h9, by rw [npt]; omega⟩) (by rw [npt, pt0]; omega)) (by rw [npt]; omega) (fun k hk => by have h9 : ∀ j : Nat, I75 pt j = if j = v11.toInt.toNat then v74 else I14 pt j := fun j => (h_wif eI75 kp0 j).trans (by rw [(h_n1 eI72 tpt tb57 (by decide)).trans (h_F.at fh64 tpt rfl)]); rw [h9 k, if_neg hk]; exact hx89_2 k hk) (fun p hp hN q => by have tr9 : z.ty (h_ad z gn p) = 856 := (hR.ad tgn (rfl : h_rs 806 p = some (856, false)) (by rw [so_806]; show p < 60; omega)).2; exact ((h_n1 eI75 tr9 tpt (by decide)).trans ((h_upb eI72 (by rw [← ar_b57]; exact hrn p hp hN)).trans (h_F.at fh64 tr9 rfl))).trans (hx89_3 p hp hN q)) (by omega)
        have kc77 : (0 : Int32).toInt = 0 := by decide
        exact loop89_1 _ I12 _ _ _ (0) g hI hF (lv_sub hl [2, 3, 4, 5, 6, 7, 1, 0] rfl) ⟨by decide, by decide⟩ (h_F.rf : h_F [(2, 0), (2, 1), (2, 2), (2, 3), (807, 999), (856, 999)] z I12 I12) (c_gi.z (by decide)) (by rw [show I12 pt v11.toInt.toNat = 0 by rw [← kp0]; exact h_n0 eI12]; decide) (fun k hk => (h_n2 eI12 (by rw [kp0]; exact hk))) (fun p hp hN q => by have tr9 : z.ty (h_ad z gn p) = 856 := (hR.ad tgn (rfl : h_rs 806 p = some (856, false)) (by rw [so_806]; show p < 60; omega)).2; exact h_n1 eI12 tr9 tpt (by decide)) (show (60 - (0 : Int)) < (((60 - (0 : Int)).toNat + 1 : Nat) : Int) by omega)
  exact loop56_0 _ I7 _ _ _ v4 g hI hF (lv_sub hl [4, 5, 3, 2, 1, 0] rfl) (by omega) (h_F.rf : h_F [(2, 0), (2, 1), (2, 2), (2, 3), (808, 999), (807, 999), (856, 999)] z I7 I7) (c_go.z st_v4) (by omega) (fun p hN hp => ⟨h_n1 eI7 tpt tct (by decide), fun q => by have tr9 : z.ty (h_ad z gn p) = 856 := (hR.ad tgn (rfl : h_rs 806 p = some (856, false)) (by rw [so_806]; show p < 60; omega)).2; exact h_n1 eI7 tr9 tct (by decide)⟩) (fun d hd => h_n2 eI7 (by rw [kc]; exact hd)) (by rw [show I7 ct c_t.toNat = 0 by rw [← kc]; exact h_n0 eI7]; decide) (show (60 - v4.toInt) < (((60 - v4.toInt).toNat + 1 : Nat) : Int) by omega)

