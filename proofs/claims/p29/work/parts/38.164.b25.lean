set_option maxHeartbeats 4000000 in
set_option maxRecDepth 100000 in
theorem tX11_nextB (l : Launch) (E : tE) (X : tX) (A : Nat → Prop) (z : tZ) (I0 : tI) (L0 : tL) (a0 : Nat) (t_a0 : z.ty a0 = 12) (hnn : ∀ p : Nat, (p : Int) < (I0 (h_ad z a0 3) 2).toInt → z.R (h_ad z (h_ad z a0 3) 1) p ≠ none) (hdi : ∀ q q2 b : Nat, z.R (h_ad z (h_ad z a0 3) 1) q = some b → z.R (h_ad z (h_ad z a0 3) 1) q2 = some b → q = q2) : Met l yX11_next wsX11_next ({ frames := 7, cells := 0, slots := 0, locals := 448 }) (va_Pc [.ref a0] (h_P E X A z I0 L0)) (va_Qi (fun r (I1 : tI) => h_I z I1 ∧ h_F [(108, 999), (106, 999), (1, 7), (1, 3), (105, 999), (7, 7), (7, 0), (7, 1), (7, 2), (7, 3), (7, 4), (7, 5), (7, 6), (3, 1), (10, 3), (10, 4)] z I0 I1 ∧ (((9 ≤ (I0 (h_ad z a0 3) 3).toInt ∨ (I0 (h_ad z (h_ad z a0 7) 2) ((I0 (h_ad z a0 3) 3).toInt).toNat).toInt = 0) ∧ r.toInt = -4 ∧ I1 = I0) ∨ ((I0 (h_ad z a0 3) 3).toInt ≤ 8 ∧ (I0 (h_ad z (h_ad z a0 7) 2) ((I0 (h_ad z a0 3) 3).toInt).toNat).toInt = 1 ∧ r.toInt = (I0 (h_ad z a0 3) 3).toInt + 1 ∧ (I1 (h_ad z a0 3) 3).toInt = (I0 (h_ad z a0 3) 3).toInt + 1 ∧ I1 (h_ad z a0 7) 1 = 0 ∧ (∀ q : Nat, (q : Int) < (I0 (h_ad z a0 3) 2).toInt → ∀ b : Nat, z.R (h_ad z (h_ad z a0 3) 1) q = some b → h_nx I0 I1 b (I1 (h_ad z a0 3) 3)) ∧ (∀ k : Nat, k < 8 → I1 (h_ad z (h_ad z a0 3) 5) k = 0) ∧ I1 (h_ad z a0 5) 3 = 0 ∧ I1 (h_ad z a0 5) 4 = 0))) (fun (I1 : tI) t => h_B E A z I1 L0 t) A) 0 0 A := by
  refine Met.ofW (cc := cX11_next) (maxL := 1) (ret := (some .int)) (by decide) rfl ?_
  intro pr_ ev_ s m args below meth cd_ s₁ B hml hv
  obtain ⟨rfl, hE, hk, hX, hA, hK, hI, hR, hB0⟩ := hv
  have g : h_G h_so h_fk E A z I0 L0 s s.heap s.heap [] := ⟨hK, va_S.rf, hB0⟩
  have hF : h_F [(108, 999), (106, 999), (1, 7), (1, 3), (105, 999), (7, 7), (7, 0), (7, 1), (7, 2), (7, 3), (7, 4), (7, 5), (7, 6), (3, 1), (10, 3), (10, 4)] z I0 I0 := h_F.rf
  have hx := B.exec
  have hb := B.bytes
  have hr := B.returns
  have hts := atoms_spec (ws := wsX11_next) B.pre
  have hown : s.vm.findClass RX11 = some m.cls := findClass_of_methodNamed B.named
  have hlocks := B.notSynchronized
  have iX11 : ∀ w ∈ u_ws RX11 TX11 8, w ∈ wsX11_next := by decide +kernel
  have iX0 : ∀ w ∈ u_ws RX0 TX0 9, w ∈ wsX11_next := by decide +kernel
  have iX2 : ∀ w ∈ u_ws RX2 TX2 7, w ∈ wsX11_next := by decide +kernel
  have hl := lv_entry ([.ref a0]) (n := 1) (Nat.le_of_ble_eq_true rfl)
  rw [lg_entry_eq]
  generalize (lg_sl ([.ref a0]) ++ List.replicate (1 - (lg_sl ([.ref a0])).length) Slot.unset).toArray = ls at hl ⊢
  have hl : lv_has ls 1 [(0, .ref a0)] := hl
  obtain ⟨bk, rbk, tbk⟩ := hR.at a0 3 t_a0 (rfl : h_rs 12 3 = some (1, false)) (by decide)
  have abk : h_ad z a0 3 = bk := h_ad.at rbk
  obtain ⟨dt, rdt, tdt⟩ := hR.at a0 7 t_a0 (rfl : h_rs 12 7 = some (3, false)) (by decide)
  have adt : h_ad z a0 7 = dt := h_ad.at rdt
  obtain ⟨dr, rdr, tdr⟩ := hR.at dt 2 tdt (rfl : h_rs 3 2 = some (302, false)) (by decide)
  have adr : h_ad z dt 2 = dr := h_ad.at rdr
  obtain ⟨f0_3, ef0_3⟩ : ∃ v : Int32, v = I0 bk 3 := ⟨_, rfl⟩
  have qf0_3 : (I0 bk 3).toInt = f0_3.toInt := congrArg Int32.toInt ef0_3.symm
  have jf0_3 := hI.rd bk 3 tbk ef0_3 (rfl : h_bd 1 3 = (0, 9))
  obtain ⟨d0_1, ed0_1⟩ : ∃ v : Int32, v = I0 dt 1 := ⟨_, rfl⟩
  have qd0_1 : (I0 dt 1).toInt = d0_1.toInt := congrArg Int32.toInt ed0_1.symm
  have jd0_1 := hI.rd dt 1 tdt ed0_1 (rfl : h_bd 3 1 = (0, 1))
  obtain ⟨pl, rpl, tpl⟩ := hR.at bk 1 tbk (rfl : h_rs 1 1 = some (101, false)) (by decide)
  have apl : h_ad z bk 1 = pl := h_ad.at rpl
  obtain ⟨su, rsu, tsu⟩ := hR.at bk 5 tbk (rfl : h_rs 1 5 = some (105, false)) (by decide)
  have asu : h_ad z bk 5 = su := h_ad.at rsu
  obtain ⟨bg, rbg, tbg⟩ := hR.at a0 5 t_a0 (rfl : h_rs 12 5 = some (10, false)) (by decide)
  have abg : h_ad z a0 5 = bg := h_ad.at rbg
  obtain ⟨f0_2, ef0_2⟩ : ∃ v : Int32, v = I0 bk 2 := ⟨_, rfl⟩
  have qf0_2 : (I0 bk 2).toInt = f0_2.toInt := congrArg Int32.toInt ef0_2.symm
  have jf0_2 := hI.rd bk 2 tbk ef0_2 (rfl : h_bd 1 2 = (0, 60))
  rw [abk, apl, ← ef0_2] at hnn
  rw [abk, apl] at hdi
  refine lv_aload_n hx hb dX11_next_0 rfl (lv_at hl 0 rfl) ?_
  refine h_get (v := .ref bk) hx hb hts iX11 hown g t_a0 (by decide) so_12 rfl 3 (by decide) (hts (.fieldLink RX11 37 "CapLeague" "books" "LCapLeague$Books;") (by decide +kernel)) rfl dX11_next_1 (by show va_rf (z.R a0 3) = _; rw [rbk]; rfl) ?_
  refine h_get (v := .int f0_3) hx hb hts iX0 hown g tbk (by decide) so_1 rfl 3 (by decide) (hts (.fieldLink RX11 142 "CapLeague$Books" "clock" "I") (by decide +kernel)) rfl dX11_next_4 (congrArg Value.int (ef0_3.symm)) ?_
  refine lv_bipush (v := 9) hx hb dX11_next_7 (by decide) ?_
  refine lv_icmp_ge (tgt := 29) hx hb dX11_next_9 (by decide) (fun c1 => ?_) (fun c1 => ?_)
  · have ic1 := (xi_le c1 (by decide) rfl : 9 ≤ f0_3.toInt)
    refine lv_bipush (v := (-4)) hx hb dX11_next_29 (by decide) ?_
    have hS := g.2.1
    exact W.iret (v := (-4)) hx hb hr (fun t ht hW => ⟨⟨(-4), I0, rfl, ⟨hI, hF, (by rw [abk, adt, adr, apl, asu, abg, qf0_3, ← ef0_2]; exact Or.inl ⟨Or.inl (by omega), by decide, rfl⟩)⟩, h_ret g ht⟩, hS.F ht⟩) hS.2.2 dX11_next_31
  · have ic1 := (xi_nle c1 (by decide) rfl : f0_3.toInt < 9)
    refine lv_aload_n hx hb dX11_next_12 rfl (lv_at hl 0 rfl) ?_
    refine h_get (v := .ref dt) hx hb hts iX11 hown g t_a0 (by decide) so_12 rfl 7 (by decide) (hts (.fieldLink RX11 69 "CapLeague" "draft" "LCapLeague$Draft;") (by decide +kernel)) rfl dX11_next_13 (by show va_rf (z.R a0 7) = _; rw [rdt]; rfl) ?_
    refine lv_aload_n hx hb dX11_next_16 rfl (lv_at hl 0 rfl) ?_
    refine h_get (v := .ref bk) hx hb hts iX11 hown g t_a0 (by decide) so_12 rfl 3 (by decide) (hts (.fieldLink RX11 37 "CapLeague" "books" "LCapLeague$Books;") (by decide +kernel)) rfl dX11_next_17 (by show va_rf (z.R a0 3) = _; rw [rbk]; rfl) ?_
    refine h_get (v := .int f0_3) hx hb hts iX0 hown g tbk (by decide) so_1 rfl 3 (by decide) (hts (.fieldLink RX11 142 "CapLeague$Books" "clock" "I") (by decide +kernel)) rfl dX11_next_20 (congrArg Value.int (ef0_3.symm)) ?_
    refine vp_callSi (W.runV (As := [.int f0_3]) (rest := []) ⟨hx, hb, hml, hown, hts⟩ (tX2_isDrawnF l E X A z I0 L0 dt tdt f0_3 (f0_3.toInt) rfl) (cwV 1 hts gX11_next_X2_isDrawn rfl rfl rfl (by decide +kernel) ⟨Nat.le_of_ble_eq_true rfl, Nat.le_of_ble_eq_true rfl⟩) ⟨h_blind _ _ _ _ _ _ _, h_recv g tdt (by decide) so_3 (q := (RX2, TX2, 7)) rfl, h_pre _ hE hk hX hA hI hR g⟩ rfl rfl hl.1 rfl (lv_room (Nat.le_of_ble_eq_true rfl)) dX11_next_23 ⟨Nat.le_of_ble_eq_true rfl, Nat.le_of_ble_eq_true rfl⟩) (fun rh2 h2 => ?_)
    obtain ⟨h2, h2p0⟩ := h2
    rw [adr] at h2p0
    refine lv_if_ne (tgt := 32) hx hb dX11_next_26 (by decide) (fun c3 => ?_) (fun c3 => ?_)
    · have ic3 := (xi_ne c3 rfl (by decide) : rh2.toInt ≠ 0)
      refine lv_aload_n hx hb dX11_next_32 rfl (lv_at hl 0 rfl) ?_
      refine h_get (v := .ref bk) hx hb hts iX11 hown g t_a0 (by decide) so_12 rfl 3 (by decide) (hts (.fieldLink RX11 37 "CapLeague" "books" "LCapLeague$Books;") (by decide +kernel)) rfl dX11_next_33 (by show va_rf (z.R a0 3) = _; rw [rbk]; rfl) ?_
      refine va_callv (va_runV (As := []) (rest := []) ⟨hx, hb, hml, hown, hts⟩ (tX0_closeYearB l E X A z I0 L0 bk tbk (by rw [show I0 bk 3 = f0_3 from ef0_3.symm]; omega) (by rw [apl, ← ef0_2]; exact hnn) (by rw [apl]; exact hdi)) (cwV 0 hts gX11_next_X0_closeYear rfl rfl rfl (by decide +kernel) ⟨Nat.le_of_ble_eq_true rfl, Nat.le_of_ble_eq_true rfl⟩) ⟨h_blind _ _ _ _ _ _ _, h_recv g tbk (by decide) so_1 (q := (RX0, TX0, 9)) rfl, h_pre _ hE hk hX hA hI hR g⟩ rfl rfl hl.1 rfl (lv_room (Nat.le_of_ble_eq_true rfl)) dX11_next_36 ⟨Nat.le_of_ble_eq_true rfl, Nat.le_of_ble_eq_true rfl⟩) g.2.1 (fun q _ h => h) (fun q h => h) (fun I5 t H1 locs ht hvm h4 hB hz1 hk1 hS => ?_)
      obtain ⟨hI, fh4, h4⟩ := h4
      replace g := h_after g hB ht hS
      generalize H1 = H at g
      clear hB hk1 hz1 ht hvm hS
      have hF := hF.call fh4 rfl
      obtain ⟨h4p0, h4p1, h4p2⟩ := h4
      rw [show I0 bk 3 = f0_3 from ef0_3.symm] at h4p0
      obtain ⟨v6, ev6⟩ : ∃ v : Int32, v = I5 bk 3 := ⟨_, rfl⟩
      rw [← ev6] at h4p0
      have jv6 := hI.rd bk 3 tbk ev6 (rfl : h_bd 1 3 = (0, 9))
      rw [apl, ← ef0_2] at h4p1
      rw [asu] at h4p2
      refine lv_aload_n hx hb dX11_next_39 rfl (lv_at hl 0 rfl) ?_
      refine h_get (v := .ref dt) hx hb hts iX11 hown g t_a0 (by decide) so_12 rfl 7 (by decide) (hts (.fieldLink RX11 69 "CapLeague" "draft" "LCapLeague$Draft;") (by decide +kernel)) rfl dX11_next_40 (by show va_rf (z.R a0 7) = _; rw [rdt]; rfl) ?_
      refine lv_iconst (v := 0) hx hb dX11_next_43 (by decide) ?_
      refine h_putI (ty := .boolean) (v := 0) hx hb hts iX2 tyX2 tyX2_ok nmX2 hown g tdt (by decide) so_3 rfl 1 (by decide) rfl (hts (.fieldLink RX11 257 "CapLeague$Draft" "tableTold" "Z") (by decide +kernel)) rfl rfl (by decide +kernel) (by decide) (by decide) dX11_next_44 (fun I7 H locs eI7 g => ?_)
      have hI := hI.wr eI7 tdt (rfl : h_bd 3 1 = (0, 1)) (by decide) (by decide)
      have hF := hF.wr eI7 tdt rfl
      refine lv_aload_n hx hb dX11_next_47 rfl (lv_at hl 0 rfl) ?_
      refine h_get (v := .ref bg) hx hb hts iX11 hown g t_a0 (by decide) so_12 rfl 5 (by decide) (hts (.fieldLink RX11 53 "CapLeague" "bargain" "LCapLeague$Trade;") (by decide +kernel)) rfl dX11_next_48 (by show va_rf (z.R a0 5) = _; rw [rbg]; rfl) ?_
      refine va_callv (va_runV (As := []) (rest := []) ⟨hx, hb, hml, hown, hts⟩ (tX9_clearB l E X A z I7 L0 bg tbg) (cwV 0 hts gX11_next_X9_clear rfl rfl rfl (by decide +kernel) ⟨Nat.le_of_ble_eq_true rfl, Nat.le_of_ble_eq_true rfl⟩) ⟨h_blind _ _ _ _ _ _ _, h_recv g tbg (by decide) so_10 (q := (RX9, TX9, 10)) rfl, h_pre _ hE hk hX hA hI hR g⟩ rfl rfl hl.1 rfl (lv_room (Nat.le_of_ble_eq_true rfl)) dX11_next_51 ⟨Nat.le_of_ble_eq_true rfl, Nat.le_of_ble_eq_true rfl⟩) g.2.1 (fun q _ h => h) (fun q h => h) (fun I9 t H1 locs ht hvm h8 hB hz1 hk1 hS => ?_)
      obtain ⟨hI, fh8, h8⟩ := h8
      replace g := h_after g hB ht hS
      generalize H1 = H at g
      clear hB hk1 hz1 ht hvm hS
      have hF := hF.call fh8 rfl
      have h8p0 := h8
      refine lv_aload_n hx hb dX11_next_54 rfl (lv_at hl 0 rfl) ?_
      refine h_get (v := .ref bk) hx hb hts iX11 hown g t_a0 (by decide) so_12 rfl 3 (by decide) (hts (.fieldLink RX11 37 "CapLeague" "books" "LCapLeague$Books;") (by decide +kernel)) rfl dX11_next_55 (by show va_rf (z.R a0 3) = _; rw [rbk]; rfl) ?_
      refine h_get (v := .int v6) hx hb hts iX0 hown g tbk (by decide) so_1 rfl 3 (by decide) (hts (.fieldLink RX11 142 "CapLeague$Books" "clock" "I") (by decide +kernel)) rfl dX11_next_58 (congrArg Value.int ((h_F.at fh8 tbk rfl).trans ((h_n1 eI7 tbk tdt (by decide)).trans (ev6.symm)))) ?_
      have hS := g.2.1
      exact W.iret (v := v6) hx hb hr (fun t ht hW => ⟨⟨v6, I9, rfl, ⟨hI, hF, (by rw [abk, adt, adr, apl, asu, abg, qf0_3, ← ef0_2]; exact Or.inr ⟨by omega, (by rcases h2p0 with q | q; omega; omega), by omega, by rw [show I9 bk 3 = v6 from (h_F.at fh8 tbk rfl).trans ((h_n1 eI7 tbk tdt (by decide)).trans (ev6.symm))]; omega, (h_F.at fh8 tdt rfl).trans (h_n0 eI7), (fun q hq b hb => by have tb := (hR.opt tpl (rfl : h_rs 101 _ = some (7, true)) (by rw [so_101]; show q < 60; omega) hb); rw [show I9 bk 3 = I5 bk 3 from (h_F.at fh8 tbk rfl).trans (h_n1 eI7 tbk tdt (by decide))]; exact (h4p1 q hq b hb).c (fun k => (h_F.at fh8 tb rfl).trans (h_n1 eI7 tb tdt (by decide)))), (fun k hk => ((h_F.at fh8 tsu rfl).trans (h_n1 eI7 tsu tdt (by decide))).trans (h4p2 k hk)), h8p0.1, h8p0.2⟩)⟩, h_ret g ht⟩, hS.F ht⟩) hS.2.2 dX11_next_61
    · have ic3 := (xi_eq c3 rfl (by decide) : rh2.toInt = 0)
      refine lv_bipush (v := (-4)) hx hb dX11_next_29 (by decide) ?_
      have hS := g.2.1
      exact W.iret (v := (-4)) hx hb hr (fun t ht hW => ⟨⟨(-4), I0, rfl, ⟨hI, hF, (by rw [abk, adt, adr, apl, asu, abg, qf0_3, ← ef0_2]; exact Or.inl ⟨Or.inr (by rcases h2p0 with q | q; omega; omega), by decide, rfl⟩)⟩, h_ret g ht⟩, hS.F ht⟩) hS.2.2 dX11_next_31
set_option maxHeartbeats 4000000 in
set_option maxRecDepth 100000 in
theorem tX12_nextB (l : Launch) (E : tE) (X : tX) (A : Nat → Prop) (z : tZ) (I0 : tI) (L0 : tL) (a0 : Nat) (t_a0 : z.ty a0 = 13) : Met l yX12_next wsX12_next ({ frames := 5, cells := 0, slots := 0, locals := 320 }) (va_Pc [.ref a0] (h_P E X A z I0 L0)) (va_Qi (fun r (I1 : tI) => h_I z I1 ∧ h_F [(1349, 999), (13, 50), (13, 12), (1322, 999), (1314, 999), (1324, 999), (13, 30), (13, 31), (13, 33)] z I0 I1 ∧ ((I1 a0 30).toInt = 1 → (I0 a0 30).toInt = 1) ∧ (((9 ≤ (I0 a0 12).toInt ∨ (I0 a0 31).toInt = 0) ∧ r.toInt = -4 ∧ I1 = I0) ∨ ((I0 a0 12).toInt ≤ 8 ∧ (I0 a0 31).toInt = 1 ∧ r.toInt = (I0 a0 12).toInt + 1 ∧ (I1 a0 12).toInt = (I0 a0 12).toInt + 1 ∧ I1 a0 30 = 0 ∧ I1 a0 31 = 0 ∧ I1 a0 33 = 0 ∧ (∀ q : Nat, (q : Int) < (I0 a0 13).toInt → m_nx I0 I1 (h_ad z a0 14) (h_ad z a0 15) (h_ad z a0 16) (h_ad z a0 20) (h_ad z a0 21) (h_ad z a0 22) q (I1 a0 12)) ∧ (∀ q : Nat, (I0 a0 13).toInt ≤ (q : Int) → I1 (h_ad z a0 22) q = I0 (h_ad z a0 22) q ∧ I1 (h_ad z a0 14) q = I0 (h_ad z a0 14) q) ∧ ∀ k : Nat, k < 8 → I1 (h_ad z a0 24) k = 0))) (fun (I1 : tI) t => h_B E A z I1 L0 t) A) 0 0 A := by
  refine Met.ofW (cc := cX12_next) (maxL := 6) (ret := (some .int)) (by decide) rfl ?_
  intro pr_ ev_ s m args below meth cd_ s₁ B hml hv
  obtain ⟨rfl, hE, hk, hX, hA, hK, hI, hR, hB0⟩ := hv
  have g : h_G h_so h_fk E A z I0 L0 s s.heap s.heap [] := ⟨hK, va_S.rf, hB0⟩
  have hF : h_F [(1349, 999), (13, 50), (13, 12), (1322, 999), (1314, 999), (1324, 999), (13, 30), (13, 31), (13, 33)] z I0 I0 := h_F.rf
  have hx := B.exec
  have hb := B.bytes
  have hr := B.returns
  have hts := atoms_spec (ws := wsX12_next) B.pre
  have hown : s.vm.findClass RX12 = some m.cls := findClass_of_methodNamed B.named
  have hlocks := B.notSynchronized
  have iX12 : ∀ w ∈ u_ws RX12 TX12 51, w ∈ wsX12_next := by decide +kernel
  have hl := lv_entry ([.ref a0]) (n := 6) (Nat.le_of_ble_eq_true rfl)
  rw [lg_entry_eq]
  generalize (lg_sl ([.ref a0]) ++ List.replicate (6 - (lg_sl ([.ref a0])).length) Slot.unset).toArray = ls at hl ⊢
  have hl : lv_has ls 6 [(0, .ref a0)] := hl
  obtain ⟨cb, rcb, tcb⟩ := hR.at a0 14 t_a0 (rfl : h_rs 13 14 = some (1314, false)) (by decide)
  have acb : h_ad z a0 14 = cb := h_ad.at rcb
  obtain ⟨fi, rfi, tfi⟩ := hR.at a0 15 t_a0 (rfl : h_rs 13 15 = some (1315, false)) (by decide)
  have afi : h_ad z a0 15 = fi := h_ad.at rfi
  obtain ⟨la, rla, tla⟩ := hR.at a0 16 t_a0 (rfl : h_rs 13 16 = some (1316, false)) (by decide)
  have ala : h_ad z a0 16 = la := h_ad.at rla
  obtain ⟨hc, rhc, thc⟩ := hR.at a0 20 t_a0 (rfl : h_rs 13 20 = some (1320, false)) (by decide)
  have ahc : h_ad z a0 20 = hc := h_ad.at rhc
  obtain ⟨it, rit, tit⟩ := hR.at a0 21 t_a0 (rfl : h_rs 13 21 = some (1321, false)) (by decide)
  have ait : h_ad z a0 21 = it := h_ad.at rit
  obtain ⟨hu, rhu, thu⟩ := hR.at a0 22 t_a0 (rfl : h_rs 13 22 = some (1322, false)) (by decide)
  have ahu : h_ad z a0 22 = hu := h_ad.at rhu
  obtain ⟨us, rus, tus⟩ := hR.at a0 24 t_a0 (rfl : h_rs 13 24 = some (1324, false)) (by decide)
  have aus : h_ad z a0 24 = us := h_ad.at rus
  obtain ⟨f0_12, ef0_12⟩ : ∃ v : Int32, v = I0 a0 12 := ⟨_, rfl⟩
  have qf0_12 : (I0 a0 12).toInt = f0_12.toInt := congrArg Int32.toInt ef0_12.symm
  have jf0_12 := hI.rd a0 12 t_a0 ef0_12 (rfl : h_bd 13 12 = (0, 9))
  obtain ⟨f0_13, ef0_13⟩ : ∃ v : Int32, v = I0 a0 13 := ⟨_, rfl⟩
  have qf0_13 : (I0 a0 13).toInt = f0_13.toInt := congrArg Int32.toInt ef0_13.symm
  have jf0_13 := hI.rd a0 13 t_a0 ef0_13 (rfl : h_bd 13 13 = (0, 60))
  obtain ⟨f0_30, ef0_30⟩ : ∃ v : Int32, v = I0 a0 30 := ⟨_, rfl⟩
  have qf0_30 : (I0 a0 30).toInt = f0_30.toInt := congrArg Int32.toInt ef0_30.symm
  have jf0_30 := hI.rd a0 30 t_a0 ef0_30 (rfl : h_bd 13 30 = (0, 1))
  obtain ⟨f0_31, ef0_31⟩ : ∃ v : Int32, v = I0 a0 31 := ⟨_, rfl⟩
  have qf0_31 : (I0 a0 31).toInt = f0_31.toInt := congrArg Int32.toInt ef0_31.symm
  have jf0_31 := hI.rd a0 31 t_a0 ef0_31 (rfl : h_bd 13 31 = (0, 1))
  refine lv_aload_n hx hb dX12_next_0 rfl (lv_at hl 0 rfl) ?_
  refine h_get (v := .int f0_12) hx hb hts iX12 hown g t_a0 (by decide) so_13 rfl 12 (by decide) (hts (.fieldLink RX12 187 "CapLeagueModel" "clock" "I") (by decide +kernel)) rfl dX12_next_1 (congrArg Value.int (ef0_12.symm)) ?_
  refine lv_bipush (v := 9) hx hb dX12_next_4 (by decide) ?_
  refine lv_icmp_eq (tgt := 16) hx hb dX12_next_6 (by decide) (fun c1 => ?_) (fun c1 => ?_)
  · have ic1 := (xi_eq c1 rfl (by decide) : f0_12.toInt = 9)
    refine lv_bipush (v := (-4)) hx hb dX12_next_16 (by decide) ?_
    have hS := g.2.1
    exact W.iret (v := (-4)) hx hb hr (fun t ht hW => ⟨⟨(-4), I0, rfl, ⟨hI, hF, ⟨(by have qr : ((-4) : Int32).toInt = (-4) := (by decide); omega), (by rw [qf0_12, qf0_31, ← ef0_13, acb, afi, ala, ahc, ait, ahu, aus]; exact Or.inl ⟨by omega, by decide, rfl⟩)⟩⟩, h_ret g ht⟩, hS.F ht⟩) hS.2.2 dX12_next_18
  · have ic1 := (xi_ne c1 rfl (by decide) : f0_12.toInt ≠ 9)
    refine lv_aload_n hx hb dX12_next_9 rfl (lv_at hl 0 rfl) ?_
    refine h_get (v := .int f0_31) hx hb hts iX12 hown g t_a0 (by decide) so_13 rfl 31 (by decide) (hts (.fieldLink RX12 264 "CapLeagueModel" "isDrawn" "Z") (by decide +kernel)) rfl dX12_next_10 (congrArg Value.int (ef0_31.symm)) ?_
    refine lv_if_ne (tgt := 19) hx hb dX12_next_13 (by decide) (fun c2 => ?_) (fun c2 => ?_)
    · have ic2 := (xi_ne c2 rfl (by decide) : f0_31.toInt ≠ 0)
      refine lv_iconst (v := 0) hx hb dX12_next_19 (by decide) ?_
      refine lv_istore_n (lv' := [(1, .int 0), (0, .ref a0)]) hx hb dX12_next_20 rfl hl (by decide) rfl (fun ls hl => ?_)
      refine lv_iconst (v := 0) hx hb dX12_next_21 (by decide) ?_
      refine lv_istore_n (lv' := [(2, .int 0), (1, .int 0), (0, .ref a0)]) hx hb dX12_next_22 rfl hl (by decide) rfl (fun ls hl => ?_)
      refine lv_iconst (v := 0) hx hb dX12_next_23 (by decide) ?_
      refine lv_istore_n (lv' := [(3, .int 0), (2, .int 0), (1, .int 0), (0, .ref a0)]) hx hb dX12_next_24 rfl hl (by decide) rfl (fun ls hl => ?_)
      have loop25_0 : ∀ (n : Nat) (I6 : tI) (H : Heap) (locs : List Loc) (ls : Array Slot) (v3 v4 v5 : Int32), h_G h_so h_fk E A z I6 L0 s s.heap H locs → h_I z I6 → h_F [(1349, 999), (13, 50), (13, 12), (1322, 999), (1314, 999), (1324, 999), (13, 30), (13, 31), (13, 33)] z I0 I6 → lv_has ls 6 [(0, .ref a0), (1, .int v3), (2, .int v4), (3, .int v5)] → ((-2147483648) ≤ v3.toInt ∧ v3.toInt ≤ 2147483647) → ((-2147483648) ≤ v4.toInt ∧ v4.toInt ≤ 2147483647) → (0 ≤ v5.toInt ∧ v5.toInt ≤ 8) → h_F [(1349, 999)] z I0 I6 → (8 - v5.toInt) < (n : Int) → W pr_ l ev_ (headSpec wsX12_next ({ frames := 5, cells := 0, slots := 0, locals := 320 })).room s m ([.ref a0] : List Value).toArray below meth cd_ H locs 0 0 (MQ below (va_Qi (fun r (I1 : tI) => h_I z I1 ∧ h_F [(1349, 999), (13, 50), (13, 12), (1322, 999), (1314, 999), (1324, 999), (13, 30), (13, 31), (13, 33)] z I0 I1 ∧ ((I1 a0 30).toInt = 1 → (I0 a0 30).toInt = 1) ∧ (((9 ≤ (I0 a0 12).toInt ∨ (I0 a0 31).toInt = 0) ∧ r.toInt = -4 ∧ I1 = I0) ∨ ((I0 a0 12).toInt ≤ 8 ∧ (I0 a0 31).toInt = 1 ∧ r.toInt = (I0 a0 12).toInt + 1 ∧ (I1 a0 12).toInt = (I0 a0 12).toInt + 1 ∧ I1 a0 30 = 0 ∧ I1 a0 31 = 0 ∧ I1 a0 33 = 0 ∧ (∀ q : Nat, (q : Int) < (I0 a0 13).toInt → m_nx I0 I1 (h_ad z a0 14) (h_ad z a0 15) (h_ad z a0 16) (h_ad z a0 20) (h_ad z a0 21) (h_ad z a0 22) q (I1 a0 12)) ∧ (∀ q : Nat, (I0 a0 13).toInt ≤ (q : Int) → I1 (h_ad z a0 22) q = I0 (h_ad z a0 22) q ∧ I1 (h_ad z a0 14) q = I0 (h_ad z a0 14) q) ∧ ∀ k : Nat, k < 8 → I1 (h_ad z a0 24) k = 0))) (fun (I1 : tI) t => h_B E A z I1 L0 t) A) ([.ref a0] : List Value).toArray s 0 0 A) (F0 m 25 ls []) := by
        intro n
        induction n with
        | zero => intro I6 H locs ls v3 v4 v5 g hI hF hl jv3 jv4 jv5 hL25 hn; exact absurd hn (by omega)
        | succ n ih25 =>
          intro I6 H locs ls v3 v4 v5 g hI hF hl jv3 jv4 jv5 hL25 hn
          refine lv_iload_n hx hb dX12_next_25 rfl (lv_at hl 3 rfl) ?_
          refine lv_bipush (v := 8) hx hb dX12_next_26 (by decide) ?_
          refine lv_icmp_ge (tgt := 106) hx hb dX12_next_28 (by decide) (fun c7 => ?_) (fun c7 => ?_)
          · have ic7 := (xi_le c7 (by decide) rfl : 8 ≤ v5.toInt)
            refine lv_bipush (v := 8) hx hb dX12_next_106 (by decide) ?_
            refine lv_iload_n hx hb dX12_next_108 rfl (lv_at hl 2 rfl) ?_
            refine vp_callSi (W.runS (As := [.int v4]) (rest := [.int 8]) ⟨hx, hb, hml, hown, hts⟩ (tX12_bits l E X A z I6 L0 v4 (v4.toInt) rfl) (va_cwS 1 hts gX12_next_X12_bits rfl rfl rfl (by decide +kernel) ⟨Nat.le_of_ble_eq_true rfl, Nat.le_of_ble_eq_true rfl⟩) ⟨h_blind _ _ _ _ _ _ _, h_pre _ hE hk hX hA hI hR g⟩ rfl rfl hl.1 rfl (lv_room (Nat.le_of_ble_eq_true rfl)) dX12_next_109 ⟨Nat.le_of_ble_eq_true rfl, Nat.le_of_ble_eq_true rfl⟩) (fun rh8 h8 => ?_)
            have jrh8 : -2147483648 ≤ rh8.toInt ∧ rh8.toInt ≤ 2147483647 := ⟨xi_lo _, Int.le_of_lt_add_one (xi_hi _)⟩
            refine lv_isub hx hb dX12_next_112 ?_
            refine lv_topi (fun v9 ev9 => ?_)
            have jv9 : -2147483648 ≤ v9.toInt ∧ v9.toInt ≤ 2147483647 := ⟨xi_lo _, Int.le_of_lt_add_one (xi_hi _)⟩
            refine lv_istore_n (lv' := [(3, .int v9), (0, .ref a0), (1, .int v3), (2, .int v4)]) hx hb dX12_next_113 rfl hl (by decide) rfl (fun ls hl => ?_)
            refine lv_iload_n hx hb dX12_next_114 rfl (lv_at hl 0 rfl) ?_
            refine lv_if_ne (tgt := 122) hx hb dX12_next_115 (by decide) (fun c10 => ?_) (fun c10 => ?_)
            · have ic10 := (xi_ne c10 rfl (by decide) : v9.toInt ≠ 0)
              refine lv_iload_n hx hb dX12_next_122 rfl (lv_at hl 2 rfl) ?_
              refine lv_iload_n hx hb dX12_next_123 rfl (lv_at hl 0 rfl) ?_
              refine lv_idiv hx hb dX12_next_124 (h_ne0 (by omega)) ?_
              refine lv_topi (fun v11 ev11 => ?_)
              have jv11 : -2147483648 ≤ v11.toInt ∧ v11.toInt ≤ 2147483647 := ⟨xi_lo _, Int.le_of_lt_add_one (xi_hi _)⟩
              refine lv_istore (lv' := [(4, .int v11), (3, .int v9), (0, .ref a0), (1, .int v3), (2, .int v4)]) hx hb dX12_next_125 hl (by decide) rfl (fun ls hl => ?_)
              refine lv_iconst (v := 0) hx hb dX12_next_127 (by decide) ?_
              refine lv_istore (lv' := [(5, .int 0), (4, .int v11), (3, .int v9), (0, .ref a0), (1, .int v3), (2, .int v4)]) hx hb dX12_next_128 hl (by decide) rfl (fun ls hl => ?_)
              have loop130_1 : ∀ (n : Nat) (I13 : tI) (H : Heap) (locs : List Loc) (ls : Array Slot) (v12 : Int32), h_G h_so h_fk E A z I13 L0 s s.heap H locs → h_I z I13 → h_F [(1349, 999), (13, 50), (13, 12), (1322, 999), (1314, 999), (1324, 999), (13, 30), (13, 31), (13, 33)] z I0 I13 → lv_has ls 6 [(0, .ref a0), (1, .int v3), (2, .int v4), (3, .int v9), (4, .int v11), (5, .int v12)] → (0 ≤ v12.toInt ∧ v12.toInt ≤ 8) → h_F [(1349, 999)] z I6 I13 → (8 - v12.toInt) < (n : Int) → W pr_ l ev_ (headSpec wsX12_next ({ frames := 5, cells := 0, slots := 0, locals := 320 })).room s m ([.ref a0] : List Value).toArray below meth cd_ H locs 0 0 (MQ below (va_Qi (fun r (I1 : tI) => h_I z I1 ∧ h_F [(1349, 999), (13, 50), (13, 12), (1322, 999), (1314, 999), (1324, 999), (13, 30), (13, 31), (13, 33)] z I0 I1 ∧ ((I1 a0 30).toInt = 1 → (I0 a0 30).toInt = 1) ∧ (((9 ≤ (I0 a0 12).toInt ∨ (I0 a0 31).toInt = 0) ∧ r.toInt = -4 ∧ I1 = I0) ∨ ((I0 a0 12).toInt ≤ 8 ∧ (I0 a0 31).toInt = 1 ∧ r.toInt = (I0 a0 12).toInt + 1 ∧ (I1 a0 12).toInt = (I0 a0 12).toInt + 1 ∧ I1 a0 30 = 0 ∧ I1 a0 31 = 0 ∧ I1 a0 33 = 0 ∧ (∀ q : Nat, (q : Int) < (I0 a0 13).toInt → m_nx I0 I1 (h_ad z a0 14) (h_ad z a0 15) (h_ad z a0 16) (h_ad z a0 20) (h_ad z a0 21) (h_ad z a0 22) q (I1 a0 12)) ∧ (∀ q : Nat, (I0 a0 13).toInt ≤ (q : Int) → I1 (h_ad z a0 22) q = I0 (h_ad z a0 22) q ∧ I1 (h_ad z a0 14) q = I0 (h_ad z a0 14) q) ∧ ∀ k : Nat, k < 8 → I1 (h_ad z a0 24) k = 0))) (fun (I1 : tI) t => h_B E A z I1 L0 t) A) ([.ref a0] : List Value).toArray s 0 0 A) (F0 m 130 ls []) := by
                intro n
                induction n with
                | zero => intro I13 H locs ls v12 g hI hF hl jv12 hL130 hn; exact absurd hn (by omega)
                | succ n ih130 =>
                  intro I13 H locs ls v12 g hI hF hl jv12 hL130 hn
                  refine lv_iload hx hb dX12_next_130 (lv_at hl 5 rfl) ?_
                  refine lv_bipush (v := 8) hx hb dX12_next_132 (by decide) ?_
                  refine lv_icmp_ge (tgt := 169) hx hb dX12_next_134 (by decide) (fun c14 => ?_) (fun c14 => ?_)
                  · have ic14 := (xi_le c14 (by decide) rfl : 8 ≤ v12.toInt)
                    refine lv_aload_n hx hb dX12_next_169 rfl (lv_at hl 0 rfl) ?_
                    refine lv_dup hx hb dX12_next_170 rfl ?_
                    refine h_get (v := .int (I13 a0 50)) hx hb hts iX12 hown g t_a0 (by decide) so_13 rfl 50 (by decide) (hts (.fieldLink RX12 329 "CapLeagueModel" "league" "I") (by decide +kernel)) rfl dX12_next_171 rfl ?_
                    refine lv_topi (fun v15 ev15 => ?_)
                    have jv15 := hI.rd a0 50 t_a0 ev15 (rfl : h_bd 13 50 = ((-2147483648), 2147483647))
                    refine lv_iload_n hx hb dX12_next_174 rfl (lv_at hl 1 rfl) ?_
                    refine lv_iload hx hb dX12_next_175 (lv_at hl 4 rfl) ?_
                    refine lv_iload_n hx hb dX12_next_177 rfl (lv_at hl 3 rfl) ?_
                    refine lv_imul hx hb dX12_next_178 ?_
                    refine lv_topi (fun v16 ev16 => ?_)
                    have jv16 : -2147483648 ≤ v16.toInt ∧ v16.toInt ≤ 2147483647 := ⟨xi_lo _, Int.le_of_lt_add_one (xi_hi _)⟩
                    refine lv_isub hx hb dX12_next_179 ?_
                    refine lv_topi (fun v17 ev17 => ?_)
                    have jv17 : -2147483648 ≤ v17.toInt ∧ v17.toInt ≤ 2147483647 := ⟨xi_lo _, Int.le_of_lt_add_one (xi_hi _)⟩
                    refine lv_iadd hx hb dX12_next_180 ?_
                    refine lv_topi (fun v18 ev18 => ?_)
                    have jv18 : -2147483648 ≤ v18.toInt ∧ v18.toInt ≤ 2147483647 := ⟨xi_lo _, Int.le_of_lt_add_one (xi_hi _)⟩
                    refine h_putI (ty := .int) (v := v18) hx hb hts iX12 tyX12 tyX12_ok nmX12 hown g t_a0 (by decide) so_13 rfl 50 (by decide) rfl (hts (.fieldLink RX12 329 "CapLeagueModel" "league" "I") (by decide +kernel)) rfl rfl (by decide +kernel) rfl rfl dX12_next_181 (fun I19 H locs eI19 g => ?_)
                    have hI := hI.wr eI19 t_a0 (rfl : h_bd 13 50 = ((-2147483648), 2147483647)) (xi_lo _) (Int.le_of_lt_add_one (xi_hi _))
                    have hF := hF.wr eI19 t_a0 rfl
                    refine lv_aload_n hx hb dX12_next_184 rfl (lv_at hl 0 rfl) ?_
                    refine lv_dup hx hb dX12_next_185 rfl ?_
                    refine h_get (v := .int f0_12) hx hb hts iX12 hown g t_a0 (by decide) so_13 rfl 12 (by decide) (hts (.fieldLink RX12 187 "CapLeagueModel" "clock" "I") (by decide +kernel)) rfl dX12_next_186 (congrArg Value.int ((h_n2 eI19 (by decide)).trans ((h_F.at hL130 t_a0 rfl).trans ((h_F.at hL25 t_a0 rfl).trans (ef0_12.symm))))) ?_
                    refine lv_iconst (v := 1) hx hb dX12_next_189 (by decide) ?_
                    refine lv_iadd hx hb dX12_next_190 ?_
                    refine lv_topi (fun v20 ev20 => ?_)
                    have jv20 : v20.toInt = f0_12.toInt + 1 := xi_add ev20 rfl (by decide) (by omega) (by omega)
                    refine h_putI (ty := .int) (v := v20) hx hb hts iX12 tyX12 tyX12_ok nmX12 hown g t_a0 (by decide) so_13 rfl 12 (by decide) rfl (hts (.fieldLink RX12 187 "CapLeagueModel" "clock" "I") (by decide +kernel)) rfl rfl (by decide +kernel) rfl rfl dX12_next_191 (fun I21 H locs eI21 g => ?_)
                    have hI := hI.wr eI21 t_a0 (rfl : h_bd 13 12 = (0, 9)) (by omega) (by omega)
                    have hF := hF.wr eI21 t_a0 rfl
                    obtain ⟨ck, eck⟩ : ∃ x : Int32, x = v20 := ⟨_, rfl⟩
                    refine lv_iconst (v := 0) hx hb dX12_next_194 (by decide) ?_
                    refine lv_istore (lv' := [(5, .int 0), (0, .ref a0), (1, .int v3), (2, .int v4), (3, .int v9), (4, .int v11)]) hx hb dX12_next_195 hl (by decide) rfl (fun ls hl => ?_)
                    have loop197_2 : ∀ (n : Nat) (I23 : tI) (H : Heap) (locs : List Loc) (ls : Array Slot) (v22 : Int32), h_G h_so h_fk E A z I23 L0 s s.heap H locs → h_I z I23 → h_F [(1349, 999), (13, 50), (13, 12), (1322, 999), (1314, 999), (1324, 999), (13, 30), (13, 31), (13, 33)] z I0 I23 → lv_has ls 6 [(0, .ref a0), (5, .int v22)] → (0 ≤ v22.toInt ∧ v22.toInt ≤ 60) → h_F [(1322, 999), (1314, 999)] z I21 I23 → (∀ q : Nat, (q : Int) < v22.toInt → m_nx I0 I23 cb fi la hc it hu q ck) → (∀ q : Nat, v22.toInt ≤ (q : Int) → I23 hu q = I0 hu q ∧ I23 cb q = I0 cb q) → (v22.toInt ≤ f0_13.toInt) → (60 - v22.toInt) < (n : Int) → W pr_ l ev_ (headSpec wsX12_next ({ frames := 5, cells := 0, slots := 0, locals := 320 })).room s m ([.ref a0] : List Value).toArray below meth cd_ H locs 0 0 (MQ below (va_Qi (fun r (I1 : tI) => h_I z I1 ∧ h_F [(1349, 999), (13, 50), (13, 12), (1322, 999), (1314, 999), (1324, 999), (13, 30), (13, 31), (13, 33)] z I0 I1 ∧ ((I1 a0 30).toInt = 1 → (I0 a0 30).toInt = 1) ∧ (((9 ≤ (I0 a0 12).toInt ∨ (I0 a0 31).toInt = 0) ∧ r.toInt = -4 ∧ I1 = I0) ∨ ((I0 a0 12).toInt ≤ 8 ∧ (I0 a0 31).toInt = 1 ∧ r.toInt = (I0 a0 12).toInt + 1 ∧ (I1 a0 12).toInt = (I0 a0 12).toInt + 1 ∧ I1 a0 30 = 0 ∧ I1 a0 31 = 0 ∧ I1 a0 33 = 0 ∧ (∀ q : Nat, (q : Int) < (I0 a0 13).toInt → m_nx I0 I1 (h_ad z a0 14) (h_ad z a0 15) (h_ad z a0 16) (h_ad z a0 20) (h_ad z a0 21) (h_ad z a0 22) q (I1 a0 12)) ∧ (∀ q : Nat, (I0 a0 13).toInt ≤ (q : Int) → I1 (h_ad z a0 22) q = I0 (h_ad z a0 22) q ∧ I1 (h_ad z a0 14) q = I0 (h_ad z a0 14) q) ∧ ∀ k : Nat, k < 8 → I1 (h_ad z a0 24) k = 0))) (fun (I1 : tI) t => h_B E A z I1 L0 t) A) ([.ref a0] : List Value).toArray s 0 0 A) (F0 m 197 ls []) := by
                      intro n
                      induction n with
                      | zero => intro I23 H locs ls v22 g hI hF hl jv22 hL197 hx197_0 hx197_1 hx197_2 hn; exact absurd hn (by omega)
                      | succ n ih197 =>
                        intro I23 H locs ls v22 g hI hF hl jv22 hL197 hx197_0 hx197_1 hx197_2 hn
                        refine lv_iload hx hb dX12_next_197 (lv_at hl 1 rfl) ?_
                        refine lv_aload_n hx hb dX12_next_199 rfl (lv_at hl 0 rfl) ?_
                        refine h_get (v := .int f0_13) hx hb hts iX12 hown g t_a0 (by decide) so_13 rfl 13 (by decide) (hts (.fieldLink RX12 202 "CapLeagueModel" "players" "I") (by decide +kernel)) rfl dX12_next_200 (congrArg Value.int ((h_F.at hL197 t_a0 rfl).trans ((h_n2 eI21 (by decide)).trans ((h_n2 eI19 (by decide)).trans ((h_F.at hL130 t_a0 rfl).trans ((h_F.at hL25 t_a0 rfl).trans (ef0_13.symm))))))) ?_
                        refine lv_icmp_ge (tgt := 252) hx hb dX12_next_203 (by decide) (fun c24 => ?_) (fun c24 => ?_)
                        · have ic24 := (xi_le c24 rfl rfl : f0_13.toInt ≤ v22.toInt)
                          refine lv_iconst (v := 0) hx hb dX12_next_252 (by decide) ?_
                          refine lv_istore (lv' := [(5, .int 0), (0, .ref a0)]) hx hb dX12_next_253 hl (by decide) rfl (fun ls hl => ?_)
                          have loop255_3 : ∀ (n : Nat) (I26 : tI) (H : Heap) (locs : List Loc) (ls : Array Slot) (v25 : Int32), h_G h_so h_fk E A z I26 L0 s s.heap H locs → h_I z I26 → h_F [(1349, 999), (13, 50), (13, 12), (1322, 999), (1314, 999), (1324, 999), (13, 30), (13, 31), (13, 33)] z I0 I26 → lv_has ls 6 [(0, .ref a0), (5, .int v25)] → (0 ≤ v25.toInt ∧ v25.toInt ≤ 8) → h_F [(1324, 999)] z I23 I26 → (∀ q : Nat, (q : Int) < v25.toInt → I26 us q = 0) → (8 - v25.toInt) < (n : Int) → W pr_ l ev_ (headSpec wsX12_next ({ frames := 5, cells := 0, slots := 0, locals := 320 })).room s m ([.ref a0] : List Value).toArray below meth cd_ H locs 0 0 (MQ below (va_Qi (fun r (I1 : tI) => h_I z I1 ∧ h_F [(1349, 999), (13, 50), (13, 12), (1322, 999), (1314, 999), (1324, 999), (13, 30), (13, 31), (13, 33)] z I0 I1 ∧ ((I1 a0 30).toInt = 1 → (I0 a0 30).toInt = 1) ∧ (((9 ≤ (I0 a0 12).toInt ∨ (I0 a0 31).toInt = 0) ∧ r.toInt = -4 ∧ I1 = I0) ∨ ((I0 a0 12).toInt ≤ 8 ∧ (I0 a0 31).toInt = 1 ∧ r.toInt = (I0 a0 12).toInt + 1 ∧ (I1 a0 12).toInt = (I0 a0 12).toInt + 1 ∧ I1 a0 30 = 0 ∧ I1 a0 31 = 0 ∧ I1 a0 33 = 0 ∧ (∀ q : Nat, (q : Int) < (I0 a0 13).toInt → m_nx I0 I1 (h_ad z a0 14) (h_ad z a0 15) (h_ad z a0 16) (h_ad z a0 20) (h_ad z a0 21) (h_ad z a0 22) q (I1 a0 12)) ∧ (∀ q : Nat, (I0 a0 13).toInt ≤ (q : Int) → I1 (h_ad z a0 22) q = I0 (h_ad z a0 22) q ∧ I1 (h_ad z a0 14) q = I0 (h_ad z a0 14) q) ∧ ∀ k : Nat, k < 8 → I1 (h_ad z a0 24) k = 0))) (fun (I1 : tI) t => h_B E A z I1 L0 t) A) ([.ref a0] : List Value).toArray s 0 0 A) (F0 m 255 ls []) := by
                            intro n
                            induction n with
                            | zero => intro I26 H locs ls v25 g hI hF hl jv25 hL255 hx255_0 hn; exact absurd hn (by omega)
                            | succ n ih255 =>
                              intro I26 H locs ls v25 g hI hF hl jv25 hL255 hx255_0 hn
                              refine lv_iload hx hb dX12_next_255 (lv_at hl 1 rfl) ?_
                              refine lv_bipush (v := 8) hx hb dX12_next_257 (by decide) ?_
                              refine lv_icmp_ge (tgt := 276) hx hb dX12_next_259 (by decide) (fun c27 => ?_) (fun c27 => ?_)
                              · have ic27 := (xi_le c27 (by decide) rfl : 8 ≤ v25.toInt)
                                refine lv_aload_n hx hb dX12_next_276 rfl (lv_at hl 0 rfl) ?_
                                refine lv_iconst (v := 0) hx hb dX12_next_277 (by decide) ?_
                                refine h_putI (ty := .boolean) (v := 0) hx hb hts iX12 tyX12 tyX12_ok nmX12 hown g t_a0 (by decide) so_13 rfl 30 (by decide) rfl (hts (.fieldLink RX12 306 "CapLeagueModel" "hasTable" "Z") (by decide +kernel)) rfl rfl (by decide +kernel) (by decide) (by decide) dX12_next_278 (fun I28 H locs eI28 g => ?_)
                                have hI := hI.wr eI28 t_a0 (rfl : h_bd 13 30 = (0, 1)) (by decide) (by decide)
                                have hF := hF.wr eI28 t_a0 rfl
                                refine lv_aload_n hx hb dX12_next_281 rfl (lv_at hl 0 rfl) ?_
                                refine lv_iconst (v := 0) hx hb dX12_next_282 (by decide) ?_
                                refine h_putI (ty := .boolean) (v := 0) hx hb hts iX12 tyX12 tyX12_ok nmX12 hown g t_a0 (by decide) so_13 rfl 31 (by decide) rfl (hts (.fieldLink RX12 264 "CapLeagueModel" "isDrawn" "Z") (by decide +kernel)) rfl rfl (by decide +kernel) (by decide) (by decide) dX12_next_283 (fun I29 H locs eI29 g => ?_)
                                have hI := hI.wr eI29 t_a0 (rfl : h_bd 13 31 = (0, 1)) (by decide) (by decide)
                                have hF := hF.wr eI29 t_a0 rfl
                                refine lv_aload_n hx hb dX12_next_286 rfl (lv_at hl 0 rfl) ?_
                                refine lv_iconst (v := 0) hx hb dX12_next_287 (by decide) ?_
                                refine h_putI (ty := .int) (v := 0) hx hb hts iX12 tyX12 tyX12_ok nmX12 hown g t_a0 (by decide) so_13 rfl 33 (by decide) rfl (hts (.fieldLink RX12 247 "CapLeagueModel" "moves" "I") (by decide +kernel)) rfl rfl (by decide +kernel) rfl rfl dX12_next_288 (fun I30 H locs eI30 g => ?_)
                                have hI := hI.wr eI30 t_a0 (rfl : h_bd 13 33 = (0, 12)) (by decide) (by decide)
                                have hF := hF.wr eI30 t_a0 rfl
                                refine lv_aload_n hx hb dX12_next_291 rfl (lv_at hl 0 rfl) ?_
                                refine h_get (v := .int v20) hx hb hts iX12 hown g t_a0 (by decide) so_13 rfl 12 (by decide) (hts (.fieldLink RX12 187 "CapLeagueModel" "clock" "I") (by decide +kernel)) rfl dX12_next_292 (congrArg Value.int ((h_n2 eI30 (by decide)).trans ((h_n2 eI29 (by decide)).trans ((h_n2 eI28 (by decide)).trans ((h_F.at hL255 t_a0 rfl).trans ((h_F.at hL197 t_a0 rfl).trans (h_n0 eI21))))))) ?_
                                have hS := g.2.1
                                exact W.iret (v := v20) hx hb hr (fun t ht hW => ⟨⟨v20, I30, rfl, ⟨hI, hF, ⟨(by have q1_30 : (I30 a0 30).toInt = 0 := (congrArg Int32.toInt ((h_n2 eI30 (by decide)).trans ((h_n2 eI29 (by decide)).trans (h_n0 eI28)))).trans (by decide); omega), (by rw [qf0_12, qf0_31, ← ef0_13, acb, afi, ala, ahc, ait, ahu, aus]; rw [show I30 a0 12 = v20 from (h_n2 eI30 (by decide)).trans ((h_n2 eI29 (by decide)).trans ((h_n2 eI28 (by decide)).trans ((h_F.at hL255 t_a0 rfl).trans ((h_F.at hL197 t_a0 rfl).trans (h_n0 eI21))))), ← eck]; exact Or.inr ⟨by omega, by omega, by rw [eck]; omega, by rw [eck]; omega, (h_n2 eI30 (by decide)).trans ((h_n2 eI29 (by decide)).trans (h_n0 eI28)), (h_n2 eI30 (by decide)).trans (h_n0 eI29), h_n0 eI30, (fun q hq => (hx197_0 q (by omega)).c ((h_n1 eI30 thu t_a0 (by decide)).trans ((h_n1 eI29 thu t_a0 (by decide)).trans ((h_n1 eI28 thu t_a0 (by decide)).trans (h_F.at hL255 thu rfl)))) ((h_n1 eI30 tcb t_a0 (by decide)).trans ((h_n1 eI29 tcb t_a0 (by decide)).trans ((h_n1 eI28 tcb t_a0 (by decide)).trans (h_F.at hL255 tcb rfl))))), (fun q hq => ⟨((h_n1 eI30 thu t_a0 (by decide)).trans ((h_n1 eI29 thu t_a0 (by decide)).trans ((h_n1 eI28 thu t_a0 (by decide)).trans (h_F.at hL255 thu rfl)))).trans (hx197_1 q (by omega)).1, ((h_n1 eI30 tcb t_a0 (by decide)).trans ((h_n1 eI29 tcb t_a0 (by decide)).trans ((h_n1 eI28 tcb t_a0 (by decide)).trans (h_F.at hL255 tcb rfl)))).trans (hx197_1 q (by omega)).2⟩), fun k hk => ((h_n1 eI30 tus t_a0 (by decide)).trans ((h_n1 eI29 tus t_a0 (by decide)).trans (h_n1 eI28 tus t_a0 (by decide)))).trans (hx255_0 k (by omega))⟩)⟩⟩, h_ret g ht⟩, hS.F ht⟩) hS.2.2 dX12_next_295
                              · have ic27 := (xi_nle c27 (by decide) rfl : v25.toInt < 8)
                                refine lv_aload_n hx hb dX12_next_262 rfl (lv_at hl 0 rfl) ?_
                                refine h_get (v := .ref us) hx hb hts iX12 hown g t_a0 (by decide) so_13 rfl 24 (by decide) (hts (.fieldLink RX12 55 "CapLeagueModel" "usedSpare" "[Z") (by decide +kernel)) rfl dX12_next_263 (by show va_rf (z.R a0 24) = _; rw [rus]; rfl) ?_
                                refine lv_iload hx hb dX12_next_266 (lv_at hl 1 rfl) ?_
                                refine lv_iconst (v := 0) hx hb dX12_next_268 (by decide) ?_
                                refine h_zast hx hb g tus (by decide) so_1324 (xi_in (by omega) (by omega)) dX12_next_269 (fun I31 H locs eI31 g => ?_)
                                rw [h_nz (by decide) (by decide)] at eI31
                                have hI := hI.wr eI31 tus (rfl : h_bd 1324 _ = (0, 1)) (by decide) (by decide)
                                have hF := hF.wr eI31 tus rfl
                                obtain ⟨v32, ev32⟩ : ∃ z : Int32, z = v25 + 1 := ⟨_, rfl⟩
                                have jv32 : v32.toInt = v25.toInt + 1 := xi_add ev32 rfl (by decide) (by omega) (by omega)
                                refine lv_iinc (v := v32) (lv' := [(5, .int v32), (0, .ref a0)]) hx hb dX12_next_270 hl (k := 1) rfl (by rw [ev32]; rfl) (by decide) rfl (fun ls hl => ?_)
                                refine lv_goto (tgt := 255) hx hb dX12_next_273 (by decide) ?_
                                exact ih255 I31 _ _ _ v32 g hI hF (lv_sub hl [1, 0] rfl) (by omega) (h_F.wr (h_F.call (h_F.rf : h_F [(1324, 999)] z I23 I23) hL255 rfl) eI31 tus rfl) (fun q hq => by by_cases hqv : (q : Int) < v25.toInt; exact (h_n2 eI31 (by rw [(h_keq rfl (by omega) (by omega) : v25.toNatClampNeg = v25.toInt.toNat)]; omega)).trans (hx255_0 q hqv); rw [show q = v25.toInt.toNat by omega, ← (h_keq rfl (by omega) (by omega) : v25.toNatClampNeg = v25.toInt.toNat)]; exact h_n0 eI31) (by omega)
                          have kc33 : (0 : Int32).toInt = 0 := by decide
                          exact loop255_3 _ I23 _ _ _ (0) g hI hF (lv_sub hl [1, 0] rfl) ⟨by decide, by decide⟩ (h_F.rf : h_F [(1324, 999)] z I23 I23) (fun q hq => absurd hq (by omega)) (show (8 - (0 : Int)) < (((8 - (0 : Int)).toNat + 1 : Nat) : Int) by omega)
                        · have ic24 := (xi_nle c24 rfl rfl : v22.toInt < f0_13.toInt)
                          refine lv_aload_n hx hb dX12_next_206 rfl (lv_at hl 0 rfl) ?_
                          refine h_get (v := .ref hu) hx hb hts iX12 hown g t_a0 (by decide) so_13 rfl 22 (by decide) (hts (.fieldLink RX12 49 "CapLeagueModel" "isHurt" "[Z") (by decide +kernel)) rfl dX12_next_207 (by show va_rf (z.R a0 22) = _; rw [rhu]; rfl) ?_
                          refine lv_iload hx hb dX12_next_210 (lv_at hl 1 rfl) ?_
                          refine lv_iconst (v := 0) hx hb dX12_next_212 (by decide) ?_
                          refine h_zast hx hb g thu (by decide) so_1322 (xi_in (by omega) (by omega)) dX12_next_213 (fun I34 H locs eI34 g => ?_)
                          rw [h_nz (by decide) (by decide)] at eI34
                          have hI := hI.wr eI34 thu (rfl : h_bd 1322 _ = (0, 1)) (by decide) (by decide)
                          have hF := hF.wr eI34 thu rfl
                          refine lv_aload_n hx hb dX12_next_214 rfl (lv_at hl 0 rfl) ?_
                          refine h_get (v := .ref cb) hx hb hts iX12 hown g t_a0 (by decide) so_13 rfl 14 (by decide) (hts (.fieldLink RX12 25 "CapLeagueModel" "clubOf" "[I") (by decide +kernel)) rfl dX12_next_215 (by show va_rf (z.R a0 14) = _; rw [rcb]; rfl) ?_
                          refine lv_iload hx hb dX12_next_218 (lv_at hl 1 rfl) ?_
                          refine h_ald hx hb g tcb (by decide) so_1314 (xi_in (by omega) (by omega)) dX12_next_220 ?_
                          refine lv_topi (fun v35 ev35 => ?_)
                          have jv35 := hI.rd cb v22.toNatClampNeg tcb ev35 (rfl : h_bd 1314 _ = ((-1), 7))
                          have kv : v22.toNatClampNeg = v22.toInt.toNat := h_keq rfl (by omega) (by omega)
                          have gv35 : I0 cb v22.toInt.toNat = v35 := by rw [← kv, ev35]; exact ((h_n1 eI34 tcb thu (by decide)).trans (hx197_1 _ (by rw [kv]; omega)).2).symm
                          refine lv_iconst (v := (-1)) hx hb dX12_next_221 (by decide) ?_
                          refine lv_icmp_eq (tgt := 246) hx hb dX12_next_222 (by decide) (fun c36 => ?_) (fun c36 => ?_)
                          · have ic36 := (xi_eq c36 rfl (by decide) : v35.toInt = (-1))
                            obtain ⟨v37, ev37⟩ : ∃ z : Int32, z = v22 + 1 := ⟨_, rfl⟩
                            have jv37 : v37.toInt = v22.toInt + 1 := xi_add ev37 rfl (by decide) (by omega) (by omega)
                            refine lv_iinc (v := v37) (lv' := [(5, .int v37), (0, .ref a0)]) hx hb dX12_next_246 hl (k := 1) rfl (by rw [ev37]; rfl) (by decide) rfl (fun ls hl => ?_)
                            refine lv_goto (tgt := 197) hx hb dX12_next_249 (by decide) ?_
                            exact ih197 I34 _ _ _ v37 g hI hF (lv_sub hl [1, 0] rfl) (by omega) (h_F.wr (h_F.call (h_F.rf : h_F [(1322, 999), (1314, 999)] z I21 I21) hL197 rfl) eI34 thu rfl) (m_nx_A (v := v22.toInt.toNat) hx197_0 (by omega) (by omega : v37.toInt = v22.toInt + 1) (hx197_1 _ (by omega)).2 (fun j => h_wif eI34 kv j) (Or.inr ⟨Or.inl (by rw [gv35]; omega), fun j => h_n1 eI34 tcb thu (by decide)⟩)) (m_nx_B (v := v22.toInt.toNat) hx197_1 (by omega) (by omega : v37.toInt = v22.toInt + 1) (fun j => h_wif eI34 kv j) (Or.inr (fun j => h_n1 eI34 tcb thu (by decide)))) (by omega) (by omega)
                          · have ic36 := (xi_ne c36 rfl (by decide) : v35.toInt ≠ (-1))
                            refine lv_aload_n hx hb dX12_next_225 rfl (lv_at hl 0 rfl) ?_
                            refine lv_iload hx hb dX12_next_226 (lv_at hl 1 rfl) ?_
                            refine lv_aload_n hx hb dX12_next_228 rfl (lv_at hl 0 rfl) ?_
                            refine h_get (v := .int v20) hx hb hts iX12 hown g t_a0 (by decide) so_13 rfl 12 (by decide) (hts (.fieldLink RX12 187 "CapLeagueModel" "clock" "I") (by decide +kernel)) rfl dX12_next_229 (congrArg Value.int ((h_n1 eI34 t_a0 thu (by decide)).trans ((h_F.at hL197 t_a0 rfl).trans (h_n0 eI21)))) ?_
                            refine vp_callSi (W.runV (As := [.int v22, .int v20]) (rest := []) ⟨hx, hb, hml, hown, hts⟩ (tX12_isUnderB l E X A z I34 L0 a0 t_a0 v22 (v22.toInt) rfl (by omega) v20 (v20.toInt) rfl) (cwV 2 hts gX12_next_X12_isUnder rfl rfl rfl (by decide +kernel) ⟨Nat.le_of_ble_eq_true rfl, Nat.le_of_ble_eq_true rfl⟩) ⟨h_blind _ _ _ _ _ _ _, h_recv g t_a0 (by decide) so_13 (q := (RX12, TX12, 51)) rfl, h_pre _ hE hk hX hA hI hR g⟩ rfl rfl hl.1 rfl (lv_room (Nat.le_of_ble_eq_true rfl)) dX12_next_232 ⟨Nat.le_of_ble_eq_true rfl, Nat.le_of_ble_eq_true rfl⟩) (fun rh38 h38 => ?_)
                            obtain ⟨h38, h38p0⟩ := h38
                            rw [acb, afi, ala, ahc, ait, show I34 fi v22.toInt.toNat = I0 fi v22.toInt.toNat from hF.at tfi rfl, show I34 la v22.toInt.toNat = I0 la v22.toInt.toNat from hF.at tla rfl, show I34 hc v22.toInt.toNat = I0 hc v22.toInt.toNat from hF.at thc rfl, show I34 it v22.toInt.toNat = I0 it v22.toInt.toNat from hF.at tit rfl, show I34 cb v22.toInt.toNat = I0 cb v22.toInt.toNat from (h_n1 eI34 tcb thu (by decide)).trans (hx197_1 _ (by omega)).2] at h38p0
                            rw [← eck] at h38p0
                            refine lv_if_ne (tgt := 246) hx hb dX12_next_235 (by decide) (fun c39 => ?_) (fun c39 => ?_)
                            · have ic39 := (xi_ne c39 rfl (by decide) : rh38.toInt ≠ 0)
                              obtain ⟨v40, ev40⟩ : ∃ z : Int32, z = v22 + 1 := ⟨_, rfl⟩
                              have jv40 : v40.toInt = v22.toInt + 1 := xi_add ev40 rfl (by decide) (by omega) (by omega)
                              refine lv_iinc (v := v40) (lv' := [(5, .int v40), (0, .ref a0)]) hx hb dX12_next_246 hl (k := 1) rfl (by rw [ev40]; rfl) (by decide) rfl (fun ls hl => ?_)
                              refine lv_goto (tgt := 197) hx hb dX12_next_249 (by decide) ?_
                              exact ih197 I34 _ _ _ v40 g hI hF (lv_sub hl [1, 0] rfl) (by omega) (h_F.wr (h_F.call (h_F.rf : h_F [(1322, 999), (1314, 999)] z I21 I21) hL197 rfl) eI34 thu rfl) (m_nx_A (v := v22.toInt.toNat) hx197_0 (by omega) (by omega : v40.toInt = v22.toInt + 1) (hx197_1 _ (by omega)).2 (fun j => h_wif eI34 kv j) (Or.inr ⟨Or.inr (by rcases h38p0 with q | q; exact q.2; exact absurd q.1 (by omega)), fun j => h_n1 eI34 tcb thu (by decide)⟩)) (m_nx_B (v := v22.toInt.toNat) hx197_1 (by omega) (by omega : v40.toInt = v22.toInt + 1) (fun j => h_wif eI34 kv j) (Or.inr (fun j => h_n1 eI34 tcb thu (by decide)))) (by omega) (by omega)
                            · have ic39 := (xi_eq c39 rfl (by decide) : rh38.toInt = 0)
                              refine lv_aload_n hx hb dX12_next_238 rfl (lv_at hl 0 rfl) ?_
                              refine h_get (v := .ref cb) hx hb hts iX12 hown g t_a0 (by decide) so_13 rfl 14 (by decide) (hts (.fieldLink RX12 25 "CapLeagueModel" "clubOf" "[I") (by decide +kernel)) rfl dX12_next_239 (by show va_rf (z.R a0 14) = _; rw [rcb]; rfl) ?_
                              refine lv_iload hx hb dX12_next_242 (lv_at hl 1 rfl) ?_
                              refine lv_iconst (v := (-1)) hx hb dX12_next_244 (by decide) ?_
                              refine h_ast hx hb g tcb (by decide) so_1314 (xi_in (by omega) (by omega)) dX12_next_245 (fun I41 H locs eI41 g => ?_)
                              have hI := hI.wr eI41 tcb (rfl : h_bd 1314 _ = ((-1), 7)) (by decide) (by decide)
                              have hF := hF.wr eI41 tcb rfl
                              obtain ⟨v42, ev42⟩ : ∃ z : Int32, z = v22 + 1 := ⟨_, rfl⟩
                              have jv42 : v42.toInt = v22.toInt + 1 := xi_add ev42 rfl (by decide) (by omega) (by omega)
                              refine lv_iinc (v := v42) (lv' := [(5, .int v42), (0, .ref a0)]) hx hb dX12_next_246 hl (k := 1) rfl (by rw [ev42]; rfl) (by decide) rfl (fun ls hl => ?_)
                              refine lv_goto (tgt := 197) hx hb dX12_next_249 (by decide) ?_
                              exact ih197 I41 _ _ _ v42 g hI hF (lv_sub hl [1, 0] rfl) (by omega) (h_F.wr (h_F.wr (h_F.call (h_F.rf : h_F [(1322, 999), (1314, 999)] z I21 I21) hL197 rfl) eI34 thu rfl) eI41 tcb rfl) (m_nx_A (v := v22.toInt.toNat) hx197_0 (by omega) (by omega : v42.toInt = v22.toInt + 1) (hx197_1 _ (by omega)).2 (fun j => (h_n1 eI41 thu tcb (by decide)).trans (h_wif eI34 kv j)) (Or.inl ⟨by rw [gv35]; omega, (by rcases h38p0 with q | q; exact absurd q.1 (by omega); exact q.2), fun j => (h_wif eI41 kv j).trans (by rw [h_n1 eI34 tcb thu (by decide)])⟩)) (m_nx_B (v := v22.toInt.toNat) hx197_1 (by omega) (by omega : v42.toInt = v22.toInt + 1) (fun j => (h_n1 eI41 thu tcb (by decide)).trans (h_wif eI34 kv j)) (Or.inl (fun j => (h_wif eI41 kv j).trans (by rw [h_n1 eI34 tcb thu (by decide)])))) (by omega) (by omega)
                    have kc43 : (0 : Int32).toInt = 0 := by decide
                    exact loop197_2 _ I21 _ _ _ (0) g hI hF (lv_sub hl [1, 0] rfl) ⟨by decide, by decide⟩ (h_F.rf : h_F [(1322, 999), (1314, 999)] z I21 I21) (fun q hq => absurd hq (by omega)) (fun q _ => ⟨(h_n1 eI21 thu t_a0 (by decide)).trans ((h_n1 eI19 thu t_a0 (by decide)).trans ((h_F.at hL130 thu rfl).trans (h_F.at hL25 thu rfl))), (h_n1 eI21 tcb t_a0 (by decide)).trans ((h_n1 eI19 tcb t_a0 (by decide)).trans ((h_F.at hL130 tcb rfl).trans (h_F.at hL25 tcb rfl)))⟩) (by omega) (show (60 - (0 : Int)) < (((60 - (0 : Int)).toNat + 1 : Nat) : Int) by omega)
                  · have ic14 := (xi_nle c14 (by decide) rfl : v12.toInt < 8)
                    refine lv_aload_n hx hb dX12_next_137 rfl (lv_at hl 0 rfl) ?_
                    obtain ⟨b44, rb44, tb44⟩ := hR.at a0 49 t_a0 (rfl : h_rs 13 49 = some (1349, false)) (by decide)
                    refine h_get (v := .ref b44) hx hb hts iX12 hown g t_a0 (by decide) so_13 rfl 49 (by decide) (hts (.fieldLink RX12 112 "CapLeagueModel" "purse" "[I") (by decide +kernel)) rfl dX12_next_138 (by show va_rf (z.R a0 49) = _; rw [rb44]; rfl) ?_
                    refine lv_iload hx hb dX12_next_141 (lv_at hl 5 rfl) ?_
                    refine lv_dup2_11 hx hb dX12_next_143 rfl rfl ?_
                    refine h_ald hx hb g tb44 (by decide) so_1349 (xi_in (by omega) (by omega)) dX12_next_144 ?_
                    refine lv_topi (fun v45 ev45 => ?_)
                    have jv45 := hI.rd b44 v12.toNatClampNeg tb44 ev45 (rfl : h_bd 1349 _ = ((-2147483648), 2147483647))
                    refine lv_iload_n hx hb dX12_next_145 rfl (lv_at hl 2 rfl) ?_
                    refine lv_iload hx hb dX12_next_146 (lv_at hl 5 rfl) ?_
                    refine lv_ishr hx hb dX12_next_148 ?_
                    refine lv_topi (fun v46 ev46 => ?_)
                    have jv46 : -2147483648 ≤ v46.toInt ∧ v46.toInt ≤ 2147483647 := ⟨xi_lo _, Int.le_of_lt_add_one (xi_hi _)⟩
                    refine lv_iconst (v := 1) hx hb dX12_next_149 (by decide) ?_
                    refine lv_iand hx hb dX12_next_150 ?_
                    refine lv_topi (fun v47 ev47 => ?_)
                    have jv47 : 0 ≤ v47.toInt ∧ v47.toInt ≤ 1 := h_andn 1 (by decide) ev47
                    refine lv_iconst (v := 1) hx hb dX12_next_151 (by decide) ?_
                    refine lv_icmp_ne (tgt := 159) hx hb dX12_next_152 (by decide) (fun c48 => ?_) (fun c48 => ?_)
                    · have ic48 := (xi_ne c48 rfl (by decide) : v47.toInt ≠ 1)
                      refine lv_iload hx hb dX12_next_159 (lv_at hl 4 rfl) ?_
                      refine lv_isub hx hb dX12_next_161 ?_
                      refine lv_topi (fun v49 ev49 => ?_)
                      have jv49 : -2147483648 ≤ v49.toInt ∧ v49.toInt ≤ 2147483647 := ⟨xi_lo _, Int.le_of_lt_add_one (xi_hi _)⟩
                      refine h_ast hx hb g tb44 (by decide) so_1349 (xi_in (by omega) (by omega)) dX12_next_162 (fun I50 H locs eI50 g => ?_)
                      have hI := hI.wr eI50 tb44 (rfl : h_bd 1349 _ = ((-2147483648), 2147483647)) (xi_lo _) (Int.le_of_lt_add_one (xi_hi _))
                      have hF := hF.wr eI50 tb44 rfl
                      obtain ⟨v51, ev51⟩ : ∃ z : Int32, z = v12 + 1 := ⟨_, rfl⟩
                      have jv51 : v51.toInt = v12.toInt + 1 := xi_add ev51 rfl (by decide) (by omega) (by omega)
                      refine lv_iinc (v := v51) (lv' := [(5, .int v51), (0, .ref a0), (1, .int v3), (2, .int v4), (3, .int v9), (4, .int v11)]) hx hb dX12_next_163 hl (k := 5) rfl (by rw [ev51]; rfl) (by decide) rfl (fun ls hl => ?_)
                      refine lv_goto (tgt := 130) hx hb dX12_next_166 (by decide) ?_
                      exact ih130 I50 _ _ _ v51 g hI hF (lv_sub hl [1, 2, 3, 4, 5, 0] rfl) (by omega) (h_F.wr (h_F.call (h_F.rf : h_F [(1349, 999)] z I6 I6) hL130 rfl) eI50 tb44 rfl) (by omega)
                    · have ic48 := (xi_eq c48 rfl (by decide) : v47.toInt = 1)
                      refine lv_iconst (v := 0) hx hb dX12_next_155 (by decide) ?_
                      refine lv_goto (tgt := 161) hx hb dX12_next_156 (by decide) ?_
                      refine lv_isub hx hb dX12_next_161 ?_
                      refine lv_topi (fun v52 ev52 => ?_)
                      have jv52 : v52.toInt = v45.toInt - 0 := xi_sub ev52 rfl (by decide) (by omega) (by omega)
                      refine h_ast hx hb g tb44 (by decide) so_1349 (xi_in (by omega) (by omega)) dX12_next_162 (fun I53 H locs eI53 g => ?_)
                      have hI := hI.wr eI53 tb44 (rfl : h_bd 1349 _ = ((-2147483648), 2147483647)) (xi_lo _) (Int.le_of_lt_add_one (xi_hi _))
                      have hF := hF.wr eI53 tb44 rfl
                      obtain ⟨v54, ev54⟩ : ∃ z : Int32, z = v12 + 1 := ⟨_, rfl⟩
                      have jv54 : v54.toInt = v12.toInt + 1 := xi_add ev54 rfl (by decide) (by omega) (by omega)
                      refine lv_iinc (v := v54) (lv' := [(5, .int v54), (0, .ref a0), (1, .int v3), (2, .int v4), (3, .int v9), (4, .int v11)]) hx hb dX12_next_163 hl (k := 5) rfl (by rw [ev54]; rfl) (by decide) rfl (fun ls hl => ?_)
                      refine lv_goto (tgt := 130) hx hb dX12_next_166 (by decide) ?_
                      exact ih130 I53 _ _ _ v54 g hI hF (lv_sub hl [1, 2, 3, 4, 5, 0] rfl) (by omega) (h_F.wr (h_F.call (h_F.rf : h_F [(1349, 999)] z I6 I6) hL130 rfl) eI53 tb44 rfl) (by omega)
              exact loop130_1 _ I6 _ _ _ (0) g hI hF (lv_sub hl [3, 4, 5, 2, 1, 0] rfl) ⟨by decide, by decide⟩ (h_F.rf : h_F [(1349, 999)] z I6 I6) (show (8 - (0 : Int)) < (((8 - (0 : Int)).toNat + 1 : Nat) : Int) by omega)
            · have ic10 := (xi_eq c10 rfl (by decide) : v9.toInt = 0)
              refine lv_iconst (v := 0) hx hb dX12_next_118 (by decide) ?_
              refine lv_goto (tgt := 125) hx hb dX12_next_119 (by decide) ?_
              refine lv_istore (lv' := [(4, .int 0), (3, .int v9), (0, .ref a0), (1, .int v3), (2, .int v4)]) hx hb dX12_next_125 hl (by decide) rfl (fun ls hl => ?_)
              refine lv_iconst (v := 0) hx hb dX12_next_127 (by decide) ?_
              refine lv_istore (lv' := [(5, .int 0), (4, .int 0), (3, .int v9), (0, .ref a0), (1, .int v3), (2, .int v4)]) hx hb dX12_next_128 hl (by decide) rfl (fun ls hl => ?_)
              have loop130_4 : ∀ (n : Nat) (I56 : tI) (H : Heap) (locs : List Loc) (ls : Array Slot) (v55 : Int32), h_G h_so h_fk E A z I56 L0 s s.heap H locs → h_I z I56 → h_F [(1349, 999), (13, 50), (13, 12), (1322, 999), (1314, 999), (1324, 999), (13, 30), (13, 31), (13, 33)] z I0 I56 → lv_has ls 6 [(0, .ref a0), (1, .int v3), (2, .int v4), (3, .int v9), (4, .int 0), (5, .int v55)] → (0 ≤ v55.toInt ∧ v55.toInt ≤ 8) → h_F [(1349, 999)] z I6 I56 → (8 - v55.toInt) < (n : Int) → W pr_ l ev_ (headSpec wsX12_next ({ frames := 5, cells := 0, slots := 0, locals := 320 })).room s m ([.ref a0] : List Value).toArray below meth cd_ H locs 0 0 (MQ below (va_Qi (fun r (I1 : tI) => h_I z I1 ∧ h_F [(1349, 999), (13, 50), (13, 12), (1322, 999), (1314, 999), (1324, 999), (13, 30), (13, 31), (13, 33)] z I0 I1 ∧ ((I1 a0 30).toInt = 1 → (I0 a0 30).toInt = 1) ∧ (((9 ≤ (I0 a0 12).toInt ∨ (I0 a0 31).toInt = 0) ∧ r.toInt = -4 ∧ I1 = I0) ∨ ((I0 a0 12).toInt ≤ 8 ∧ (I0 a0 31).toInt = 1 ∧ r.toInt = (I0 a0 12).toInt + 1 ∧ (I1 a0 12).toInt = (I0 a0 12).toInt + 1 ∧ I1 a0 30 = 0 ∧ I1 a0 31 = 0 ∧ I1 a0 33 = 0 ∧ (∀ q : Nat, (q : Int) < (I0 a0 13).toInt → m_nx I0 I1 (h_ad z a0 14) (h_ad z a0 15) (h_ad z a0 16) (h_ad z a0 20) (h_ad z a0 21) (h_ad z a0 22) q (I1 a0 12)) ∧ (∀ q : Nat, (I0 a0 13).toInt ≤ (q : Int) → I1 (h_ad z a0 22) q = I0 (h_ad z a0 22) q ∧ I1 (h_ad z a0 14) q = I0 (h_ad z a0 14) q) ∧ ∀ k : Nat, k < 8 → I1 (h_ad z a0 24) k = 0))) (fun (I1 : tI) t => h_B E A z I1 L0 t) A) ([.ref a0] : List Value).toArray s 0 0 A) (F0 m 130 ls []) := by
                intro n
                induction n with
                | zero => intro I56 H locs ls v55 g hI hF hl jv55 hL130 hn; exact absurd hn (by omega)
                | succ n ih130 =>
                  intro I56 H locs ls v55 g hI hF hl jv55 hL130 hn
                  refine lv_iload hx hb dX12_next_130 (lv_at hl 5 rfl) ?_
                  refine lv_bipush (v := 8) hx hb dX12_next_132 (by decide) ?_
                  refine lv_icmp_ge (tgt := 169) hx hb dX12_next_134 (by decide) (fun c57 => ?_) (fun c57 => ?_)
                  · have ic57 := (xi_le c57 (by decide) rfl : 8 ≤ v55.toInt)
                    refine lv_aload_n hx hb dX12_next_169 rfl (lv_at hl 0 rfl) ?_
                    refine lv_dup hx hb dX12_next_170 rfl ?_
                    refine h_get (v := .int (I56 a0 50)) hx hb hts iX12 hown g t_a0 (by decide) so_13 rfl 50 (by decide) (hts (.fieldLink RX12 329 "CapLeagueModel" "league" "I") (by decide +kernel)) rfl dX12_next_171 rfl ?_
                    refine lv_topi (fun v58 ev58 => ?_)
                    have jv58 := hI.rd a0 50 t_a0 ev58 (rfl : h_bd 13 50 = ((-2147483648), 2147483647))
                    refine lv_iload_n hx hb dX12_next_174 rfl (lv_at hl 1 rfl) ?_
                    refine lv_iload hx hb dX12_next_175 (lv_at hl 4 rfl) ?_
                    refine lv_iload_n hx hb dX12_next_177 rfl (lv_at hl 3 rfl) ?_
                    refine lv_imul hx hb dX12_next_178 ?_
                    refine lv_topi (fun v59 ev59 => ?_)
                    have jv59 : v59.toInt = 0 * v9.toInt := xi_mul ev59 (by decide) rfl (by omega) (by omega)
                    refine lv_isub hx hb dX12_next_179 ?_
                    refine lv_topi (fun v60 ev60 => ?_)
                    have jv60 : v60.toInt = v3.toInt - v59.toInt := xi_sub ev60 rfl rfl (by omega) (by omega)
                    refine lv_iadd hx hb dX12_next_180 ?_
                    refine lv_topi (fun v61 ev61 => ?_)
                    have jv61 : -2147483648 ≤ v61.toInt ∧ v61.toInt ≤ 2147483647 := ⟨xi_lo _, Int.le_of_lt_add_one (xi_hi _)⟩
                    refine h_putI (ty := .int) (v := v61) hx hb hts iX12 tyX12 tyX12_ok nmX12 hown g t_a0 (by decide) so_13 rfl 50 (by decide) rfl (hts (.fieldLink RX12 329 "CapLeagueModel" "league" "I") (by decide +kernel)) rfl rfl (by decide +kernel) rfl rfl dX12_next_181 (fun I62 H locs eI62 g => ?_)
                    have hI := hI.wr eI62 t_a0 (rfl : h_bd 13 50 = ((-2147483648), 2147483647)) (xi_lo _) (Int.le_of_lt_add_one (xi_hi _))
                    have hF := hF.wr eI62 t_a0 rfl
                    refine lv_aload_n hx hb dX12_next_184 rfl (lv_at hl 0 rfl) ?_
                    refine lv_dup hx hb dX12_next_185 rfl ?_
                    refine h_get (v := .int f0_12) hx hb hts iX12 hown g t_a0 (by decide) so_13 rfl 12 (by decide) (hts (.fieldLink RX12 187 "CapLeagueModel" "clock" "I") (by decide +kernel)) rfl dX12_next_186 (congrArg Value.int ((h_n2 eI62 (by decide)).trans ((h_F.at hL130 t_a0 rfl).trans ((h_F.at hL25 t_a0 rfl).trans (ef0_12.symm))))) ?_
                    refine lv_iconst (v := 1) hx hb dX12_next_189 (by decide) ?_
                    refine lv_iadd hx hb dX12_next_190 ?_
                    refine lv_topi (fun v63 ev63 => ?_)
                    have jv63 : v63.toInt = f0_12.toInt + 1 := xi_add ev63 rfl (by decide) (by omega) (by omega)
                    refine h_putI (ty := .int) (v := v63) hx hb hts iX12 tyX12 tyX12_ok nmX12 hown g t_a0 (by decide) so_13 rfl 12 (by decide) rfl (hts (.fieldLink RX12 187 "CapLeagueModel" "clock" "I") (by decide +kernel)) rfl rfl (by decide +kernel) rfl rfl dX12_next_191 (fun I64 H locs eI64 g => ?_)
                    have hI := hI.wr eI64 t_a0 (rfl : h_bd 13 12 = (0, 9)) (by omega) (by omega)
                    have hF := hF.wr eI64 t_a0 rfl
                    obtain ⟨ck, eck⟩ : ∃ x : Int32, x = v63 := ⟨_, rfl⟩
                    refine lv_iconst (v := 0) hx hb dX12_next_194 (by decide) ?_
                    refine lv_istore (lv' := [(5, .int 0), (0, .ref a0), (1, .int v3), (2, .int v4), (3, .int v9), (4, .int 0)]) hx hb dX12_next_195 hl (by decide) rfl (fun ls hl => ?_)
                    have loop197_5 : ∀ (n : Nat) (I66 : tI) (H : Heap) (locs : List Loc) (ls : Array Slot) (v65 : Int32), h_G h_so h_fk E A z I66 L0 s s.heap H locs → h_I z I66 → h_F [(1349, 999), (13, 50), (13, 12), (1322, 999), (1314, 999), (1324, 999), (13, 30), (13, 31), (13, 33)] z I0 I66 → lv_has ls 6 [(0, .ref a0), (5, .int v65)] → (0 ≤ v65.toInt ∧ v65.toInt ≤ 60) → h_F [(1322, 999), (1314, 999)] z I64 I66 → (∀ q : Nat, (q : Int) < v65.toInt → m_nx I0 I66 cb fi la hc it hu q ck) → (∀ q : Nat, v65.toInt ≤ (q : Int) → I66 hu q = I0 hu q ∧ I66 cb q = I0 cb q) → (v65.toInt ≤ f0_13.toInt) → (60 - v65.toInt) < (n : Int) → W pr_ l ev_ (headSpec wsX12_next ({ frames := 5, cells := 0, slots := 0, locals := 320 })).room s m ([.ref a0] : List Value).toArray below meth cd_ H locs 0 0 (MQ below (va_Qi (fun r (I1 : tI) => h_I z I1 ∧ h_F [(1349, 999), (13, 50), (13, 12), (1322, 999), (1314, 999), (1324, 999), (13, 30), (13, 31), (13, 33)] z I0 I1 ∧ ((I1 a0 30).toInt = 1 → (I0 a0 30).toInt = 1) ∧ (((9 ≤ (I0 a0 12).toInt ∨ (I0 a0 31).toInt = 0) ∧ r.toInt = -4 ∧ I1 = I0) ∨ ((I0 a0 12).toInt ≤ 8 ∧ (I0 a0 31).toInt = 1 ∧ r.toInt = (I0 a0 12).toInt + 1 ∧ (I1 a0 12).toInt = (I0 a0 12).toInt + 1 ∧ I1 a0 30 = 0 ∧ I1 a0 31 = 0 ∧ I1 a0 33 = 0 ∧ (∀ q : Nat, (q : Int) < (I0 a0 13).toInt → m_nx I0 I1 (h_ad z a0 14) (h_ad z a0 15) (h_ad z a0 16) (h_ad z a0 20) (h_ad z a0 21) (h_ad z a0 22) q (I1 a0 12)) ∧ (∀ q : Nat, (I0 a0 13).toInt ≤ (q : Int) → I1 (h_ad z a0 22) q = I0 (h_ad z a0 22) q ∧ I1 (h_ad z a0 14) q = I0 (h_ad z a0 14) q) ∧ ∀ k : Nat, k < 8 → I1 (h_ad z a0 24) k = 0))) (fun (I1 : tI) t => h_B E A z I1 L0 t) A) ([.ref a0] : List Value).toArray s 0 0 A) (F0 m 197 ls []) := by
                      intro n
                      induction n with
                      | zero => intro I66 H locs ls v65 g hI hF hl jv65 hL197 hx197_0 hx197_1 hx197_2 hn; exact absurd hn (by omega)
                      | succ n ih197 =>
                        intro I66 H locs ls v65 g hI hF hl jv65 hL197 hx197_0 hx197_1 hx197_2 hn
                        refine lv_iload hx hb dX12_next_197 (lv_at hl 1 rfl) ?_
                        refine lv_aload_n hx hb dX12_next_199 rfl (lv_at hl 0 rfl) ?_
                        refine h_get (v := .int f0_13) hx hb hts iX12 hown g t_a0 (by decide) so_13 rfl 13 (by decide) (hts (.fieldLink RX12 202 "CapLeagueModel" "players" "I") (by decide +kernel)) rfl dX12_next_200 (congrArg Value.int ((h_F.at hL197 t_a0 rfl).trans ((h_n2 eI64 (by decide)).trans ((h_n2 eI62 (by decide)).trans ((h_F.at hL130 t_a0 rfl).trans ((h_F.at hL25 t_a0 rfl).trans (ef0_13.symm))))))) ?_
                        refine lv_icmp_ge (tgt := 252) hx hb dX12_next_203 (by decide) (fun c67 => ?_) (fun c67 => ?_)
                        · have ic67 := (xi_le c67 rfl rfl : f0_13.toInt ≤ v65.toInt)
                          refine lv_iconst (v := 0) hx hb dX12_next_252 (by decide) ?_
                          refine lv_istore (lv' := [(5, .int 0), (0, .ref a0)]) hx hb dX12_next_253 hl (by decide) rfl (fun ls hl => ?_)
                          have loop255_6 : ∀ (n : Nat) (I69 : tI) (H : Heap) (locs : List Loc) (ls : Array Slot) (v68 : Int32), h_G h_so h_fk E A z I69 L0 s s.heap H locs → h_I z I69 → h_F [(1349, 999), (13, 50), (13, 12), (1322, 999), (1314, 999), (1324, 999), (13, 30), (13, 31), (13, 33)] z I0 I69 → lv_has ls 6 [(0, .ref a0), (5, .int v68)] → (0 ≤ v68.toInt ∧ v68.toInt ≤ 8) → h_F [(1324, 999)] z I66 I69 → (∀ q : Nat, (q : Int) < v68.toInt → I69 us q = 0) → (8 - v68.toInt) < (n : Int) → W pr_ l ev_ (headSpec wsX12_next ({ frames := 5, cells := 0, slots := 0, locals := 320 })).room s m ([.ref a0] : List Value).toArray below meth cd_ H locs 0 0 (MQ below (va_Qi (fun r (I1 : tI) => h_I z I1 ∧ h_F [(1349, 999), (13, 50), (13, 12), (1322, 999), (1314, 999), (1324, 999), (13, 30), (13, 31), (13, 33)] z I0 I1 ∧ ((I1 a0 30).toInt = 1 → (I0 a0 30).toInt = 1) ∧ (((9 ≤ (I0 a0 12).toInt ∨ (I0 a0 31).toInt = 0) ∧ r.toInt = -4 ∧ I1 = I0) ∨ ((I0 a0 12).toInt ≤ 8 ∧ (I0 a0 31).toInt = 1 ∧ r.toInt = (I0 a0 12).toInt + 1 ∧ (I1 a0 12).toInt = (I0 a0 12).toInt + 1 ∧ I1 a0 30 = 0 ∧ I1 a0 31 = 0 ∧ I1 a0 33 = 0 ∧ (∀ q : Nat, (q : Int) < (I0 a0 13).toInt → m_nx I0 I1 (h_ad z a0 14) (h_ad z a0 15) (h_ad z a0 16) (h_ad z a0 20) (h_ad z a0 21) (h_ad z a0 22) q (I1 a0 12)) ∧ (∀ q : Nat, (I0 a0 13).toInt ≤ (q : Int) → I1 (h_ad z a0 22) q = I0 (h_ad z a0 22) q ∧ I1 (h_ad z a0 14) q = I0 (h_ad z a0 14) q) ∧ ∀ k : Nat, k < 8 → I1 (h_ad z a0 24) k = 0))) (fun (I1 : tI) t => h_B E A z I1 L0 t) A) ([.ref a0] : List Value).toArray s 0 0 A) (F0 m 255 ls []) := by
                            intro n
                            induction n with
                            | zero => intro I69 H locs ls v68 g hI hF hl jv68 hL255 hx255_0 hn; exact absurd hn (by omega)
                            | succ n ih255 =>
                              intro I69 H locs ls v68 g hI hF hl jv68 hL255 hx255_0 hn
                              refine lv_iload hx hb dX12_next_255 (lv_at hl 1 rfl) ?_
                              refine lv_bipush (v := 8) hx hb dX12_next_257 (by decide) ?_
                              refine lv_icmp_ge (tgt := 276) hx hb dX12_next_259 (by decide) (fun c70 => ?_) (fun c70 => ?_)
                              · have ic70 := (xi_le c70 (by decide) rfl : 8 ≤ v68.toInt)
                                refine lv_aload_n hx hb dX12_next_276 rfl (lv_at hl 0 rfl) ?_
                                refine lv_iconst (v := 0) hx hb dX12_next_277 (by decide) ?_
                                refine h_putI (ty := .boolean) (v := 0) hx hb hts iX12 tyX12 tyX12_ok nmX12 hown g t_a0 (by decide) so_13 rfl 30 (by decide) rfl (hts (.fieldLink RX12 306 "CapLeagueModel" "hasTable" "Z") (by decide +kernel)) rfl rfl (by decide +kernel) (by decide) (by decide) dX12_next_278 (fun I71 H locs eI71 g => ?_)
                                have hI := hI.wr eI71 t_a0 (rfl : h_bd 13 30 = (0, 1)) (by decide) (by decide)
                                have hF := hF.wr eI71 t_a0 rfl
                                refine lv_aload_n hx hb dX12_next_281 rfl (lv_at hl 0 rfl) ?_
                                refine lv_iconst (v := 0) hx hb dX12_next_282 (by decide) ?_
                                refine h_putI (ty := .boolean) (v := 0) hx hb hts iX12 tyX12 tyX12_ok nmX12 hown g t_a0 (by decide) so_13 rfl 31 (by decide) rfl (hts (.fieldLink RX12 264 "CapLeagueModel" "isDrawn" "Z") (by decide +kernel)) rfl rfl (by decide +kernel) (by decide) (by decide) dX12_next_283 (fun I72 H locs eI72 g => ?_)
                                have hI := hI.wr eI72 t_a0 (rfl : h_bd 13 31 = (0, 1)) (by decide) (by decide)
                                have hF := hF.wr eI72 t_a0 rfl
                                refine lv_aload_n hx hb dX12_next_286 rfl (lv_at hl 0 rfl) ?_
                                refine lv_iconst (v := 0) hx hb dX12_next_287 (by decide) ?_
                                refine h_putI (ty := .int) (v := 0) hx hb hts iX12 tyX12 tyX12_ok nmX12 hown g t_a0 (by decide) so_13 rfl 33 (by decide) rfl (hts (.fieldLink RX12 247 "CapLeagueModel" "moves" "I") (by decide +kernel)) rfl rfl (by decide +kernel) rfl rfl dX12_next_288 (fun I73 H locs eI73 g => ?_)
                                have hI := hI.wr eI73 t_a0 (rfl : h_bd 13 33 = (0, 12)) (by decide) (by decide)
                                have hF := hF.wr eI73 t_a0 rfl
                                refine lv_aload_n hx hb dX12_next_291 rfl (lv_at hl 0 rfl) ?_
                                refine h_get (v := .int v63) hx hb hts iX12 hown g t_a0 (by decide) so_13 rfl 12 (by decide) (hts (.fieldLink RX12 187 "CapLeagueModel" "clock" "I") (by decide +kernel)) rfl dX12_next_292 (congrArg Value.int ((h_n2 eI73 (by decide)).trans ((h_n2 eI72 (by decide)).trans ((h_n2 eI71 (by decide)).trans ((h_F.at hL255 t_a0 rfl).trans ((h_F.at hL197 t_a0 rfl).trans (h_n0 eI64))))))) ?_
                                have hS := g.2.1
                                exact W.iret (v := v63) hx hb hr (fun t ht hW => ⟨⟨v63, I73, rfl, ⟨hI, hF, ⟨(by have q1_30 : (I73 a0 30).toInt = 0 := (congrArg Int32.toInt ((h_n2 eI73 (by decide)).trans ((h_n2 eI72 (by decide)).trans (h_n0 eI71)))).trans (by decide); omega), (by rw [qf0_12, qf0_31, ← ef0_13, acb, afi, ala, ahc, ait, ahu, aus]; rw [show I73 a0 12 = v63 from (h_n2 eI73 (by decide)).trans ((h_n2 eI72 (by decide)).trans ((h_n2 eI71 (by decide)).trans ((h_F.at hL255 t_a0 rfl).trans ((h_F.at hL197 t_a0 rfl).trans (h_n0 eI64))))), ← eck]; exact Or.inr ⟨by omega, by omega, by rw [eck]; omega, by rw [eck]; omega, (h_n2 eI73 (by decide)).trans ((h_n2 eI72 (by decide)).trans (h_n0 eI71)), (h_n2 eI73 (by decide)).trans (h_n0 eI72), h_n0 eI73, (fun q hq => (hx197_0 q (by omega)).c ((h_n1 eI73 thu t_a0 (by decide)).trans ((h_n1 eI72 thu t_a0 (by decide)).trans ((h_n1 eI71 thu t_a0 (by decide)).trans (h_F.at hL255 thu rfl)))) ((h_n1 eI73 tcb t_a0 (by decide)).trans ((h_n1 eI72 tcb t_a0 (by decide)).trans ((h_n1 eI71 tcb t_a0 (by decide)).trans (h_F.at hL255 tcb rfl))))), (fun q hq => ⟨((h_n1 eI73 thu t_a0 (by decide)).trans ((h_n1 eI72 thu t_a0 (by decide)).trans ((h_n1 eI71 thu t_a0 (by decide)).trans (h_F.at hL255 thu rfl)))).trans (hx197_1 q (by omega)).1, ((h_n1 eI73 tcb t_a0 (by decide)).trans ((h_n1 eI72 tcb t_a0 (by decide)).trans ((h_n1 eI71 tcb t_a0 (by decide)).trans (h_F.at hL255 tcb rfl)))).trans (hx197_1 q (by omega)).2⟩), fun k hk => ((h_n1 eI73 tus t_a0 (by decide)).trans ((h_n1 eI72 tus t_a0 (by decide)).trans (h_n1 eI71 tus t_a0 (by decide)))).trans (hx255_0 k (by omega))⟩)⟩⟩, h_ret g ht⟩, hS.F ht⟩) hS.2.2 dX12_next_295
                              · have ic70 := (xi_nle c70 (by decide) rfl : v68.toInt < 8)
                                refine lv_aload_n hx hb dX12_next_262 rfl (lv_at hl 0 rfl) ?_
                                refine h_get (v := .ref us) hx hb hts iX12 hown g t_a0 (by decide) so_13 rfl 24 (by decide) (hts (.fieldLink RX12 55 "CapLeagueModel" "usedSpare" "[Z") (by decide +kernel)) rfl dX12_next_263 (by show va_rf (z.R a0 24) = _; rw [rus]; rfl) ?_
                                refine lv_iload hx hb dX12_next_266 (lv_at hl 1 rfl) ?_
                                refine lv_iconst (v := 0) hx hb dX12_next_268 (by decide) ?_
                                refine h_zast hx hb g tus (by decide) so_1324 (xi_in (by omega) (by omega)) dX12_next_269 (fun I74 H locs eI74 g => ?_)
                                rw [h_nz (by decide) (by decide)] at eI74
                                have hI := hI.wr eI74 tus (rfl : h_bd 1324 _ = (0, 1)) (by decide) (by decide)
                                have hF := hF.wr eI74 tus rfl
                                obtain ⟨v75, ev75⟩ : ∃ z : Int32, z = v68 + 1 := ⟨_, rfl⟩
                                have jv75 : v75.toInt = v68.toInt + 1 := xi_add ev75 rfl (by decide) (by omega) (by omega)
                                refine lv_iinc (v := v75) (lv' := [(5, .int v75), (0, .ref a0)]) hx hb dX12_next_270 hl (k := 1) rfl (by rw [ev75]; rfl) (by decide) rfl (fun ls hl => ?_)
                                refine lv_goto (tgt := 255) hx hb dX12_next_273 (by decide) ?_
                                exact ih255 I74 _ _ _ v75 g hI hF (lv_sub hl [1, 0] rfl) (by omega) (h_F.wr (h_F.call (h_F.rf : h_F [(1324, 999)] z I66 I66) hL255 rfl) eI74 tus rfl) (fun q hq => by by_cases hqv : (q : Int) < v68.toInt; exact (h_n2 eI74 (by rw [(h_keq rfl (by omega) (by omega) : v68.toNatClampNeg = v68.toInt.toNat)]; omega)).trans (hx255_0 q hqv); rw [show q = v68.toInt.toNat by omega, ← (h_keq rfl (by omega) (by omega) : v68.toNatClampNeg = v68.toInt.toNat)]; exact h_n0 eI74) (by omega)
                          have kc76 : (0 : Int32).toInt = 0 := by decide
                          exact loop255_6 _ I66 _ _ _ (0) g hI hF (lv_sub hl [1, 0] rfl) ⟨by decide, by decide⟩ (h_F.rf : h_F [(1324, 999)] z I66 I66) (fun q hq => absurd hq (by omega)) (show (8 - (0 : Int)) < (((8 - (0 : Int)).toNat + 1 : Nat) : Int) by omega)
                        · have ic67 := (xi_nle c67 rfl rfl : v65.toInt < f0_13.toInt)
                          refine lv_aload_n hx hb dX12_next_206 rfl (lv_at hl 0 rfl) ?_
                          refine h_get (v := .ref hu) hx hb hts iX12 hown g t_a0 (by decide) so_13 rfl 22 (by decide) (hts (.fieldLink RX12 49 "CapLeagueModel" "isHurt" "[Z") (by decide +kernel)) rfl dX12_next_207 (by show va_rf (z.R a0 22) = _; rw [rhu]; rfl) ?_
                          refine lv_iload hx hb dX12_next_210 (lv_at hl 1 rfl) ?_
                          refine lv_iconst (v := 0) hx hb dX12_next_212 (by decide) ?_
                          refine h_zast hx hb g thu (by decide) so_1322 (xi_in (by omega) (by omega)) dX12_next_213 (fun I77 H locs eI77 g => ?_)
                          rw [h_nz (by decide) (by decide)] at eI77
                          have hI := hI.wr eI77 thu (rfl : h_bd 1322 _ = (0, 1)) (by decide) (by decide)
                          have hF := hF.wr eI77 thu rfl
                          refine lv_aload_n hx hb dX12_next_214 rfl (lv_at hl 0 rfl) ?_
                          refine h_get (v := .ref cb) hx hb hts iX12 hown g t_a0 (by decide) so_13 rfl 14 (by decide) (hts (.fieldLink RX12 25 "CapLeagueModel" "clubOf" "[I") (by decide +kernel)) rfl dX12_next_215 (by show va_rf (z.R a0 14) = _; rw [rcb]; rfl) ?_
                          refine lv_iload hx hb dX12_next_218 (lv_at hl 1 rfl) ?_
                          refine h_ald hx hb g tcb (by decide) so_1314 (xi_in (by omega) (by omega)) dX12_next_220 ?_
                          refine lv_topi (fun v78 ev78 => ?_)
                          have jv78 := hI.rd cb v65.toNatClampNeg tcb ev78 (rfl : h_bd 1314 _ = ((-1), 7))
                          have kv : v65.toNatClampNeg = v65.toInt.toNat := h_keq rfl (by omega) (by omega)
                          have gv78 : I0 cb v65.toInt.toNat = v78 := by rw [← kv, ev78]; exact ((h_n1 eI77 tcb thu (by decide)).trans (hx197_1 _ (by rw [kv]; omega)).2).symm
                          refine lv_iconst (v := (-1)) hx hb dX12_next_221 (by decide) ?_
                          refine lv_icmp_eq (tgt := 246) hx hb dX12_next_222 (by decide) (fun c79 => ?_) (fun c79 => ?_)
                          · have ic79 := (xi_eq c79 rfl (by decide) : v78.toInt = (-1))
                            obtain ⟨v80, ev80⟩ : ∃ z : Int32, z = v65 + 1 := ⟨_, rfl⟩
                            have jv80 : v80.toInt = v65.toInt + 1 := xi_add ev80 rfl (by decide) (by omega) (by omega)
                            refine lv_iinc (v := v80) (lv' := [(5, .int v80), (0, .ref a0)]) hx hb dX12_next_246 hl (k := 1) rfl (by rw [ev80]; rfl) (by decide) rfl (fun ls hl => ?_)
                            refine lv_goto (tgt := 197) hx hb dX12_next_249 (by decide) ?_
                            exact ih197 I77 _ _ _ v80 g hI hF (lv_sub hl [1, 0] rfl) (by omega) (h_F.wr (h_F.call (h_F.rf : h_F [(1322, 999), (1314, 999)] z I64 I64) hL197 rfl) eI77 thu rfl) (m_nx_A (v := v65.toInt.toNat) hx197_0 (by omega) (by omega : v80.toInt = v65.toInt + 1) (hx197_1 _ (by omega)).2 (fun j => h_wif eI77 kv j) (Or.inr ⟨Or.inl (by rw [gv78]; omega), fun j => h_n1 eI77 tcb thu (by decide)⟩)) (m_nx_B (v := v65.toInt.toNat) hx197_1 (by omega) (by omega : v80.toInt = v65.toInt + 1) (fun j => h_wif eI77 kv j) (Or.inr (fun j => h_n1 eI77 tcb thu (by decide)))) (by omega) (by omega)
                          · have ic79 := (xi_ne c79 rfl (by decide) : v78.toInt ≠ (-1))
                            refine lv_aload_n hx hb dX12_next_225 rfl (lv_at hl 0 rfl) ?_
                            refine lv_iload hx hb dX12_next_226 (lv_at hl 1 rfl) ?_
                            refine lv_aload_n hx hb dX12_next_228 rfl (lv_at hl 0 rfl) ?_
                            refine h_get (v := .int v63) hx hb hts iX12 hown g t_a0 (by decide) so_13 rfl 12 (by decide) (hts (.fieldLink RX12 187 "CapLeagueModel" "clock" "I") (by decide +kernel)) rfl dX12_next_229 (congrArg Value.int ((h_n1 eI77 t_a0 thu (by decide)).trans ((h_F.at hL197 t_a0 rfl).trans (h_n0 eI64)))) ?_
                            refine vp_callSi (W.runV (As := [.int v65, .int v63]) (rest := []) ⟨hx, hb, hml, hown, hts⟩ (tX12_isUnderB l E X A z I77 L0 a0 t_a0 v65 (v65.toInt) rfl (by omega) v63 (v63.toInt) rfl) (cwV 2 hts gX12_next_X12_isUnder rfl rfl rfl (by decide +kernel) ⟨Nat.le_of_ble_eq_true rfl, Nat.le_of_ble_eq_true rfl⟩) ⟨h_blind _ _ _ _ _ _ _, h_recv g t_a0 (by decide) so_13 (q := (RX12, TX12, 51)) rfl, h_pre _ hE hk hX hA hI hR g⟩ rfl rfl hl.1 rfl (lv_room (Nat.le_of_ble_eq_true rfl)) dX12_next_232 ⟨Nat.le_of_ble_eq_true rfl, Nat.le_of_ble_eq_true rfl⟩) (fun rh81 h81 => ?_)
                            obtain ⟨h81, h81p0⟩ := h81
                            rw [acb, afi, ala, ahc, ait, show I77 fi v65.toInt.toNat = I0 fi v65.toInt.toNat from hF.at tfi rfl, show I77 la v65.toInt.toNat = I0 la v65.toInt.toNat from hF.at tla rfl, show I77 hc v65.toInt.toNat = I0 hc v65.toInt.toNat from hF.at thc rfl, show I77 it v65.toInt.toNat = I0 it v65.toInt.toNat from hF.at tit rfl, show I77 cb v65.toInt.toNat = I0 cb v65.toInt.toNat from (h_n1 eI77 tcb thu (by decide)).trans (hx197_1 _ (by omega)).2] at h81p0
                            rw [← eck] at h81p0
                            refine lv_if_ne (tgt := 246) hx hb dX12_next_235 (by decide) (fun c82 => ?_) (fun c82 => ?_)
                            · have ic82 := (xi_ne c82 rfl (by decide) : rh81.toInt ≠ 0)
                              obtain ⟨v83, ev83⟩ : ∃ z : Int32, z = v65 + 1 := ⟨_, rfl⟩
                              have jv83 : v83.toInt = v65.toInt + 1 := xi_add ev83 rfl (by decide) (by omega) (by omega)
                              refine lv_iinc (v := v83) (lv' := [(5, .int v83), (0, .ref a0)]) hx hb dX12_next_246 hl (k := 1) rfl (by rw [ev83]; rfl) (by decide) rfl (fun ls hl => ?_)
                              refine lv_goto (tgt := 197) hx hb dX12_next_249 (by decide) ?_
                              exact ih197 I77 _ _ _ v83 g hI hF (lv_sub hl [1, 0] rfl) (by omega) (h_F.wr (h_F.call (h_F.rf : h_F [(1322, 999), (1314, 999)] z I64 I64) hL197 rfl) eI77 thu rfl) (m_nx_A (v := v65.toInt.toNat) hx197_0 (by omega) (by omega : v83.toInt = v65.toInt + 1) (hx197_1 _ (by omega)).2 (fun j => h_wif eI77 kv j) (Or.inr ⟨Or.inr (by rcases h81p0 with q | q; exact q.2; exact absurd q.1 (by omega)), fun j => h_n1 eI77 tcb thu (by decide)⟩)) (m_nx_B (v := v65.toInt.toNat) hx197_1 (by omega) (by omega : v83.toInt = v65.toInt + 1) (fun j => h_wif eI77 kv j) (Or.inr (fun j => h_n1 eI77 tcb thu (by decide)))) (by omega) (by omega)
                            · have ic82 := (xi_eq c82 rfl (by decide) : rh81.toInt = 0)
                              refine lv_aload_n hx hb dX12_next_238 rfl (lv_at hl 0 rfl) ?_
                              refine h_get (v := .ref cb) hx hb hts iX12 hown g t_a0 (by decide) so_13 rfl 14 (by decide) (hts (.fieldLink RX12 25 "CapLeagueModel" "clubOf" "[I") (by decide +kernel)) rfl dX12_next_239 (by show va_rf (z.R a0 14) = _; rw [rcb]; rfl) ?_
                              refine lv_iload hx hb dX12_next_242 (lv_at hl 1 rfl) ?_
                              refine lv_iconst (v := (-1)) hx hb dX12_next_244 (by decide) ?_
                              refine h_ast hx hb g tcb (by decide) so_1314 (xi_in (by omega) (by omega)) dX12_next_245 (fun I84 H locs eI84 g => ?_)
                              have hI := hI.wr eI84 tcb (rfl : h_bd 1314 _ = ((-1), 7)) (by decide) (by decide)
                              have hF := hF.wr eI84 tcb rfl
                              obtain ⟨v85, ev85⟩ : ∃ z : Int32, z = v65 + 1 := ⟨_, rfl⟩
                              have jv85 : v85.toInt = v65.toInt + 1 := xi_add ev85 rfl (by decide) (by omega) (by omega)
                              refine lv_iinc (v := v85) (lv' := [(5, .int v85), (0, .ref a0)]) hx hb dX12_next_246 hl (k := 1) rfl (by rw [ev85]; rfl) (by decide) rfl (fun ls hl => ?_)
                              refine lv_goto (tgt := 197) hx hb dX12_next_249 (by decide) ?_
                              exact ih197 I84 _ _ _ v85 g hI hF (lv_sub hl [1, 0] rfl) (by omega) (h_F.wr (h_F.wr (h_F.call (h_F.rf : h_F [(1322, 999), (1314, 999)] z I64 I64) hL197 rfl) eI77 thu rfl) eI84 tcb rfl) (m_nx_A (v := v65.toInt.toNat) hx197_0 (by omega) (by omega : v85.toInt = v65.toInt + 1) (hx197_1 _ (by omega)).2 (fun j => (h_n1 eI84 thu tcb (by decide)).trans (h_wif eI77 kv j)) (Or.inl ⟨by rw [gv78]; omega, (by rcases h81p0 with q | q; exact absurd q.1 (by omega); exact q.2), fun j => (h_wif eI84 kv j).trans (by rw [h_n1 eI77 tcb thu (by decide)])⟩)) (m_nx_B (v := v65.toInt.toNat) hx197_1 (by omega) (by omega : v85.toInt = v65.toInt + 1) (fun j => (h_n1 eI84 thu tcb (by decide)).trans (h_wif eI77 kv j)) (Or.inl (fun j => (h_wif eI84 kv j).trans (by rw [h_n1 eI77 tcb thu (by decide)])))) (by omega) (by omega)
                    have kc86 : (0 : Int32).toInt = 0 := by decide
                    exact loop197_5 _ I64 _ _ _ (0) g hI hF (lv_sub hl [1, 0] rfl) ⟨by decide, by decide⟩ (h_F.rf : h_F [(1322, 999), (1314, 999)] z I64 I64) (fun q hq => absurd hq (by omega)) (fun q _ => ⟨(h_n1 eI64 thu t_a0 (by decide)).trans ((h_n1 eI62 thu t_a0 (by decide)).trans ((h_F.at hL130 thu rfl).trans (h_F.at hL25 thu rfl))), (h_n1 eI64 tcb t_a0 (by decide)).trans ((h_n1 eI62 tcb t_a0 (by decide)).trans ((h_F.at hL130 tcb rfl).trans (h_F.at hL25 tcb rfl)))⟩) (by omega) (show (60 - (0 : Int)) < (((60 - (0 : Int)).toNat + 1 : Nat) : Int) by omega)
                  · have ic57 := (xi_nle c57 (by decide) rfl : v55.toInt < 8)
                    refine lv_aload_n hx hb dX12_next_137 rfl (lv_at hl 0 rfl) ?_
                    obtain ⟨b87, rb87, tb87⟩ := hR.at a0 49 t_a0 (rfl : h_rs 13 49 = some (1349, false)) (by decide)
                    refine h_get (v := .ref b87) hx hb hts iX12 hown g t_a0 (by decide) so_13 rfl 49 (by decide) (hts (.fieldLink RX12 112 "CapLeagueModel" "purse" "[I") (by decide +kernel)) rfl dX12_next_138 (by show va_rf (z.R a0 49) = _; rw [rb87]; rfl) ?_
                    refine lv_iload hx hb dX12_next_141 (lv_at hl 5 rfl) ?_
                    refine lv_dup2_11 hx hb dX12_next_143 rfl rfl ?_
                    refine h_ald hx hb g tb87 (by decide) so_1349 (xi_in (by omega) (by omega)) dX12_next_144 ?_
                    refine lv_topi (fun v88 ev88 => ?_)
                    have jv88 := hI.rd b87 v55.toNatClampNeg tb87 ev88 (rfl : h_bd 1349 _ = ((-2147483648), 2147483647))
                    refine lv_iload_n hx hb dX12_next_145 rfl (lv_at hl 2 rfl) ?_
                    refine lv_iload hx hb dX12_next_146 (lv_at hl 5 rfl) ?_
                    refine lv_ishr hx hb dX12_next_148 ?_
                    refine lv_topi (fun v89 ev89 => ?_)
                    have jv89 : -2147483648 ≤ v89.toInt ∧ v89.toInt ≤ 2147483647 := ⟨xi_lo _, Int.le_of_lt_add_one (xi_hi _)⟩
                    refine lv_iconst (v := 1) hx hb dX12_next_149 (by decide) ?_
                    refine lv_iand hx hb dX12_next_150 ?_
                    refine lv_topi (fun v90 ev90 => ?_)
                    have jv90 : 0 ≤ v90.toInt ∧ v90.toInt ≤ 1 := h_andn 1 (by decide) ev90
                    refine lv_iconst (v := 1) hx hb dX12_next_151 (by decide) ?_
                    refine lv_icmp_ne (tgt := 159) hx hb dX12_next_152 (by decide) (fun c91 => ?_) (fun c91 => ?_)
                    · have ic91 := (xi_ne c91 rfl (by decide) : v90.toInt ≠ 1)
                      refine lv_iload hx hb dX12_next_159 (lv_at hl 4 rfl) ?_
                      refine lv_isub hx hb dX12_next_161 ?_
                      refine lv_topi (fun v92 ev92 => ?_)
                      have jv92 : v92.toInt = v88.toInt - 0 := xi_sub ev92 rfl (by decide) (by omega) (by omega)
                      refine h_ast hx hb g tb87 (by decide) so_1349 (xi_in (by omega) (by omega)) dX12_next_162 (fun I93 H locs eI93 g => ?_)
                      have hI := hI.wr eI93 tb87 (rfl : h_bd 1349 _ = ((-2147483648), 2147483647)) (xi_lo _) (Int.le_of_lt_add_one (xi_hi _))
                      have hF := hF.wr eI93 tb87 rfl
                      obtain ⟨v94, ev94⟩ : ∃ z : Int32, z = v55 + 1 := ⟨_, rfl⟩
                      have jv94 : v94.toInt = v55.toInt + 1 := xi_add ev94 rfl (by decide) (by omega) (by omega)
                      refine lv_iinc (v := v94) (lv' := [(5, .int v94), (0, .ref a0), (1, .int v3), (2, .int v4), (3, .int v9), (4, .int 0)]) hx hb dX12_next_163 hl (k := 5) rfl (by rw [ev94]; rfl) (by decide) rfl (fun ls hl => ?_)
                      refine lv_goto (tgt := 130) hx hb dX12_next_166 (by decide) ?_
                      exact ih130 I93 _ _ _ v94 g hI hF (lv_sub hl [1, 2, 3, 4, 5, 0] rfl) (by omega) (h_F.wr (h_F.call (h_F.rf : h_F [(1349, 999)] z I6 I6) hL130 rfl) eI93 tb87 rfl) (by omega)
                    · have ic91 := (xi_eq c91 rfl (by decide) : v90.toInt = 1)
                      refine lv_iconst (v := 0) hx hb dX12_next_155 (by decide) ?_
                      refine lv_goto (tgt := 161) hx hb dX12_next_156 (by decide) ?_
                      refine lv_isub hx hb dX12_next_161 ?_
                      refine lv_topi (fun v95 ev95 => ?_)
                      have jv95 : v95.toInt = v88.toInt - 0 := xi_sub ev95 rfl (by decide) (by omega) (by omega)
                      refine h_ast hx hb g tb87 (by decide) so_1349 (xi_in (by omega) (by omega)) dX12_next_162 (fun I96 H locs eI96 g => ?_)
                      have hI := hI.wr eI96 tb87 (rfl : h_bd 1349 _ = ((-2147483648), 2147483647)) (xi_lo _) (Int.le_of_lt_add_one (xi_hi _))
                      have hF := hF.wr eI96 tb87 rfl
                      obtain ⟨v97, ev97⟩ : ∃ z : Int32, z = v55 + 1 := ⟨_, rfl⟩
                      have jv97 : v97.toInt = v55.toInt + 1 := xi_add ev97 rfl (by decide) (by omega) (by omega)
                      refine lv_iinc (v := v97) (lv' := [(5, .int v97), (0, .ref a0), (1, .int v3), (2, .int v4), (3, .int v9), (4, .int 0)]) hx hb dX12_next_163 hl (k := 5) rfl (by rw [ev97]; rfl) (by decide) rfl (fun ls hl => ?_)
                      refine lv_goto (tgt := 130) hx hb dX12_next_166 (by decide) ?_
                      exact ih130 I96 _ _ _ v97 g hI hF (lv_sub hl [1, 2, 3, 4, 5, 0] rfl) (by omega) (h_F.wr (h_F.call (h_F.rf : h_F [(1349, 999)] z I6 I6) hL130 rfl) eI96 tb87 rfl) (by omega)
              exact loop130_4 _ I6 _ _ _ (0) g hI hF (lv_sub hl [3, 4, 5, 2, 1, 0] rfl) ⟨by decide, by decide⟩ (h_F.rf : h_F [(1349, 999)] z I6 I6) (show (8 - (0 : Int)) < (((8 - (0 : Int)).toNat + 1 : Nat) : Int) by omega)
          · have ic7 := (xi_nle c7 (by decide) rfl : v5.toInt < 8)
            refine lv_aload_n hx hb dX12_next_31 rfl (lv_at hl 0 rfl) ?_
            refine lv_iload_n hx hb dX12_next_32 rfl (lv_at hl 3 rfl) ?_
            refine lv_aload_n hx hb dX12_next_33 rfl (lv_at hl 0 rfl) ?_
            refine h_get (v := .int f0_12) hx hb hts iX12 hown g t_a0 (by decide) so_13 rfl 12 (by decide) (hts (.fieldLink RX12 187 "CapLeagueModel" "clock" "I") (by decide +kernel)) rfl dX12_next_34 (congrArg Value.int ((h_F.at hL25 t_a0 rfl).trans (ef0_12.symm))) ?_
            refine vp_callSi (W.runV (As := [.int v5, .int f0_12]) (rest := []) ⟨hx, hb, hml, hown, hts⟩ (tX12_counts l E X A z I6 L0 a0 t_a0 v5 (v5.toInt) rfl (by omega) f0_12 (f0_12.toInt) rfl (by omega)) (cwV 2 hts gX12_next_X12_counts rfl rfl rfl (by decide +kernel) ⟨Nat.le_of_ble_eq_true rfl, Nat.le_of_ble_eq_true rfl⟩) ⟨h_blind _ _ _ _ _ _ _, h_recv g t_a0 (by decide) so_13 (q := (RX12, TX12, 51)) rfl, h_pre _ hE hk hX hA hI hR g⟩ rfl rfl hl.1 rfl (lv_room (Nat.le_of_ble_eq_true rfl)) dX12_next_37 ⟨Nat.le_of_ble_eq_true rfl, Nat.le_of_ble_eq_true rfl⟩) (fun rh98 h98 => ?_)
            have jrh98 : -2147483648 ≤ rh98.toInt ∧ rh98.toInt ≤ 2147483647 := ⟨xi_lo _, Int.le_of_lt_add_one (xi_hi _)⟩
            refine lv_aload_n hx hb dX12_next_40 rfl (lv_at hl 0 rfl) ?_
            refine lv_aload_n hx hb dX12_next_41 rfl (lv_at hl 0 rfl) ?_
            refine h_get (v := .int f0_12) hx hb hts iX12 hown g t_a0 (by decide) so_13 rfl 12 (by decide) (hts (.fieldLink RX12 187 "CapLeagueModel" "clock" "I") (by decide +kernel)) rfl dX12_next_42 (congrArg Value.int ((h_F.at hL25 t_a0 rfl).trans (ef0_12.symm))) ?_
            refine lv_iconst (v := 0) hx hb dX12_next_45 (by decide) ?_
            refine vp_callSi (W.runV (As := [.int f0_12, .int 0]) (rest := [.int rh98]) ⟨hx, hb, hml, hown, hts⟩ (tX12_lawOf l E X A z I6 L0 a0 t_a0 f0_12 (f0_12.toInt) rfl (by omega) 0 (0) (by decide) (by omega)) (cwV 2 hts gX12_next_X12_lawOf rfl rfl rfl (by decide +kernel) ⟨Nat.le_of_ble_eq_true rfl, Nat.le_of_ble_eq_true rfl⟩) ⟨h_blind _ _ _ _ _ _ _, h_recv g t_a0 (by decide) so_13 (q := (RX12, TX12, 51)) rfl, h_pre _ hE hk hX hA hI hR g⟩ rfl rfl hl.1 rfl (lv_room (Nat.le_of_ble_eq_true rfl)) dX12_next_46 ⟨Nat.le_of_ble_eq_true rfl, Nat.le_of_ble_eq_true rfl⟩) (fun rh99 h99 => ?_)
            have jrh99 : -2147483648 ≤ rh99.toInt ∧ rh99.toInt ≤ 2147483647 := ⟨xi_lo _, Int.le_of_lt_add_one (xi_hi _)⟩
            refine lv_isub hx hb dX12_next_49 ?_
            refine lv_topi (fun v100 ev100 => ?_)
            have jv100 : -2147483648 ≤ v100.toInt ∧ v100.toInt ≤ 2147483647 := ⟨xi_lo _, Int.le_of_lt_add_one (xi_hi _)⟩
            refine lv_istore (lv' := [(4, .int v100), (0, .ref a0), (1, .int v3), (2, .int v4), (3, .int v5)]) hx hb dX12_next_50 hl (by decide) rfl (fun ls hl => ?_)
            refine lv_iload hx hb dX12_next_52 (lv_at hl 0 rfl) ?_
            refine lv_if_gt (tgt := 60) hx hb dX12_next_54 (by decide) (fun c101 => ?_) (fun c101 => ?_)
            · have ic101 := (xi_lt c101 (by decide) rfl : 0 < v100.toInt)
              refine lv_iload_n hx hb dX12_next_60 rfl (lv_at hl 3 rfl) ?_
              refine lv_iconst (v := 1) hx hb dX12_next_61 (by decide) ?_
              refine lv_iload_n hx hb dX12_next_62 rfl (lv_at hl 4 rfl) ?_
              refine lv_ishl hx hb dX12_next_63 ?_
              refine lv_topi (fun v102 ev102 => ?_)
              have jv102 : -2147483648 ≤ v102.toInt ∧ v102.toInt ≤ 2147483647 := ⟨xi_lo _, Int.le_of_lt_add_one (xi_hi _)⟩
              refine lv_ior hx hb dX12_next_64 ?_
              refine lv_topi (fun v103 ev103 => ?_)
              have jv103 : -2147483648 ≤ v103.toInt ∧ v103.toInt ≤ 2147483647 := ⟨xi_lo _, Int.le_of_lt_add_one (xi_hi _)⟩
              refine lv_istore_n (lv' := [(2, .int v103), (4, .int v100), (0, .ref a0), (1, .int v3), (3, .int v5)]) hx hb dX12_next_65 rfl hl (by decide) rfl (fun ls hl => ?_)
              refine lv_iload hx hb dX12_next_66 (lv_at hl 1 rfl) ?_
              refine lv_aload_n hx hb dX12_next_68 rfl (lv_at hl 2 rfl) ?_
              refine lv_aload_n hx hb dX12_next_69 rfl (lv_at hl 2 rfl) ?_
              refine h_get (v := .int f0_12) hx hb hts iX12 hown g t_a0 (by decide) so_13 rfl 12 (by decide) (hts (.fieldLink RX12 187 "CapLeagueModel" "clock" "I") (by decide +kernel)) rfl dX12_next_70 (congrArg Value.int ((h_F.at hL25 t_a0 rfl).trans (ef0_12.symm))) ?_
              refine lv_bipush (v := 7) hx hb dX12_next_73 (by decide) ?_
              refine vp_callSi (W.runV (As := [.int f0_12, .int 7]) (rest := [.int v100]) ⟨hx, hb, hml, hown, hts⟩ (tX12_lawOf l E X A z I6 L0 a0 t_a0 f0_12 (f0_12.toInt) rfl (by omega) 7 (7) (by decide) (by omega)) (cwV 2 hts gX12_next_X12_lawOf rfl rfl rfl (by decide +kernel) ⟨Nat.le_of_ble_eq_true rfl, Nat.le_of_ble_eq_true rfl⟩) ⟨h_blind _ _ _ _ _ _ _, h_recv g t_a0 (by decide) so_13 (q := (RX12, TX12, 51)) rfl, h_pre _ hE hk hX hA hI hR g⟩ rfl rfl hl.1 rfl (lv_room (Nat.le_of_ble_eq_true rfl)) dX12_next_75 ⟨Nat.le_of_ble_eq_true rfl, Nat.le_of_ble_eq_true rfl⟩) (fun rh104 h104 => ?_)
              have jrh104 : -2147483648 ≤ rh104.toInt ∧ rh104.toInt ≤ 2147483647 := ⟨xi_lo _, Int.le_of_lt_add_one (xi_hi _)⟩
              refine lv_imul hx hb dX12_next_78 ?_
              refine lv_topi (fun v105 ev105 => ?_)
              have jv105 : -2147483648 ≤ v105.toInt ∧ v105.toInt ≤ 2147483647 := ⟨xi_lo _, Int.le_of_lt_add_one (xi_hi _)⟩
              refine lv_bipush (v := 100) hx hb dX12_next_79 (by decide) ?_
              refine lv_idiv hx hb dX12_next_81 (by decide) ?_
              refine lv_topi (fun v106 ev106 => ?_)
              have jv106 : -2147483648 ≤ v106.toInt ∧ v106.toInt ≤ 2147483647 := ⟨xi_lo _, Int.le_of_lt_add_one (xi_hi _)⟩
              refine lv_istore (lv' := [(5, .int v106), (2, .int v103), (4, .int v100), (0, .ref a0), (1, .int v3), (3, .int v5)]) hx hb dX12_next_82 hl (by decide) rfl (fun ls hl => ?_)
              refine lv_aload_n hx hb dX12_next_84 rfl (lv_at hl 3 rfl) ?_
              obtain ⟨b107, rb107, tb107⟩ := hR.at a0 49 t_a0 (rfl : h_rs 13 49 = some (1349, false)) (by decide)
              refine h_get (v := .ref b107) hx hb hts iX12 hown g t_a0 (by decide) so_13 rfl 49 (by decide) (hts (.fieldLink RX12 112 "CapLeagueModel" "purse" "[I") (by decide +kernel)) rfl dX12_next_85 (by show va_rf (z.R a0 49) = _; rw [rb107]; rfl) ?_
              refine lv_iload_n hx hb dX12_next_88 rfl (lv_at hl 5 rfl) ?_
              refine lv_dup2_11 hx hb dX12_next_89 rfl rfl ?_
              refine h_ald hx hb g tb107 (by decide) so_1349 (xi_in (by omega) (by omega)) dX12_next_90 ?_
              refine lv_topi (fun v108 ev108 => ?_)
              have jv108 := hI.rd b107 v5.toNatClampNeg tb107 ev108 (rfl : h_bd 1349 _ = ((-2147483648), 2147483647))
              refine lv_iload hx hb dX12_next_91 (lv_at hl 0 rfl) ?_
              refine lv_iadd hx hb dX12_next_93 ?_
              refine lv_topi (fun v109 ev109 => ?_)
              have jv109 : -2147483648 ≤ v109.toInt ∧ v109.toInt ≤ 2147483647 := ⟨xi_lo _, Int.le_of_lt_add_one (xi_hi _)⟩
              refine h_ast hx hb g tb107 (by decide) so_1349 (xi_in (by omega) (by omega)) dX12_next_94 (fun I110 H locs eI110 g => ?_)
              have hI := hI.wr eI110 tb107 (rfl : h_bd 1349 _ = ((-2147483648), 2147483647)) (xi_lo _) (Int.le_of_lt_add_one (xi_hi _))
              have hF := hF.wr eI110 tb107 rfl
              refine lv_iload_n hx hb dX12_next_95 rfl (lv_at hl 4 rfl) ?_
              refine lv_iload hx hb dX12_next_96 (lv_at hl 0 rfl) ?_
              refine lv_iadd hx hb dX12_next_98 ?_
              refine lv_topi (fun v111 ev111 => ?_)
              have jv111 : -2147483648 ≤ v111.toInt ∧ v111.toInt ≤ 2147483647 := ⟨xi_lo _, Int.le_of_lt_add_one (xi_hi _)⟩
              refine lv_istore_n (lv' := [(1, .int v111), (5, .int v106), (2, .int v103), (4, .int v100), (0, .ref a0), (3, .int v5)]) hx hb dX12_next_99 rfl hl (by decide) rfl (fun ls hl => ?_)
              obtain ⟨v112, ev112⟩ : ∃ z : Int32, z = v5 + 1 := ⟨_, rfl⟩
              have jv112 : v112.toInt = v5.toInt + 1 := xi_add ev112 rfl (by decide) (by omega) (by omega)
              refine lv_iinc (v := v112) (lv' := [(3, .int v112), (1, .int v111), (5, .int v106), (2, .int v103), (4, .int v100), (0, .ref a0)]) hx hb dX12_next_100 hl (k := 5) rfl (by rw [ev112]; rfl) (by decide) rfl (fun ls hl => ?_)
              refine lv_goto (tgt := 25) hx hb dX12_next_103 (by decide) ?_
              exact ih25 I110 _ _ _ v111 v103 v112 g hI hF (lv_sub hl [5, 1, 3, 0] rfl) (by omega) (by omega) (by omega) (h_F.wr (h_F.call (h_F.rf : h_F [(1349, 999)] z I0 I0) hL25 rfl) eI110 tb107 rfl) (by omega)
            · have ic101 := (xi_nlt c101 (by decide) rfl : v100.toInt ≤ 0)
              refine lv_goto (tgt := 100) hx hb dX12_next_57 (by decide) ?_
              obtain ⟨v113, ev113⟩ : ∃ z : Int32, z = v5 + 1 := ⟨_, rfl⟩
              have jv113 : v113.toInt = v5.toInt + 1 := xi_add ev113 rfl (by decide) (by omega) (by omega)
              refine lv_iinc (v := v113) (lv' := [(3, .int v113), (4, .int v100), (0, .ref a0), (1, .int v3), (2, .int v4)]) hx hb dX12_next_100 hl (k := 4) rfl (by rw [ev113]; rfl) (by decide) rfl (fun ls hl => ?_)
              refine lv_goto (tgt := 25) hx hb dX12_next_103 (by decide) ?_
              exact ih25 I6 _ _ _ v3 v4 v113 g hI hF (lv_sub hl [2, 3, 4, 0] rfl) (by omega) (by omega) (by omega) (h_F.call (h_F.rf : h_F [(1349, 999)] z I0 I0) hL25 rfl) (by omega)
      exact loop25_0 _ I0 _ _ _ (0) (0) (0) g hI hF (lv_sub hl [3, 2, 1, 0] rfl) ⟨by decide, by decide⟩ ⟨by decide, by decide⟩ ⟨by decide, by decide⟩ (h_F.rf : h_F [(1349, 999)] z I0 I0) (show (8 - (0 : Int)) < (((8 - (0 : Int)).toNat + 1 : Nat) : Int) by omega)
    · have ic2 := (xi_eq c2 rfl (by decide) : f0_31.toInt = 0)
      refine lv_bipush (v := (-4)) hx hb dX12_next_16 (by decide) ?_
      have hS := g.2.1
      exact W.iret (v := (-4)) hx hb hr (fun t ht hW => ⟨⟨(-4), I0, rfl, ⟨hI, hF, ⟨(by have qr : ((-4) : Int32).toInt = (-4) := (by decide); omega), (by rw [qf0_12, qf0_31, ← ef0_13, acb, afi, ala, ahc, ait, ahu, aus]; exact Or.inl ⟨by omega, by decide, rfl⟩)⟩⟩, h_ret g ht⟩, hS.F ht⟩) hS.2.2 dX12_next_18

