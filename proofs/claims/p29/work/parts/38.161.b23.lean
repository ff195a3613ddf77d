set_option maxHeartbeats 4000000 in
set_option maxRecDepth 100000 in
theorem tX10_settleB (l : Launch) (E : tE) (X : tX) (A : Nat → Prop) (z : tZ) (I0 : tI) (L0 : tL) (a0 : Nat) (t_a0 : z.ty a0 = 11) (x : Int32) (x_t : Int) (h_x : x.toInt = x_t) (b_x : 0 ≤ x_t ∧ x_t ≤ 79) (y : Int32) (y_t : Int) (h_y : y.toInt = y_t) : Met l yX10_settle wsX10_settle ({ frames := 1, cells := 0, slots := 0, locals := 64 }) (va_Pc [.ref a0, .int x, .int y] (h_P E X A z I0 L0)) (va_Qi (fun r (I1 : tI) => h_I z I1 ∧ h_F [(1100, 999), (1101, 999)] z I0 I1 ∧ (r = I1 (h_ad z a0 0) x_t.toNat ∧ ((y_t < (I0 (h_ad z a0 1) x_t.toNat).toInt ∧ (∀ j : Nat, I1 (h_ad z a0 0) j = if j = x_t.toNat then I0 (h_ad z a0 2) x_t.toNat else I0 (h_ad z a0 0) j) ∧ (∀ j : Nat, I1 (h_ad z a0 1) j = if j = x_t.toNat then 0 else I0 (h_ad z a0 1) j)) ∨ ((I0 (h_ad z a0 1) x_t.toNat).toInt ≤ y_t ∧ (∀ j : Nat, I1 (h_ad z a0 0) j = I0 (h_ad z a0 0) j) ∧ ∀ j : Nat, I1 (h_ad z a0 1) j = I0 (h_ad z a0 1) j)))) (fun (I1 : tI) t => h_B E A z I1 L0 t) A) 0 0 A := by
  refine Met.ofW (cc := cX10_settle) (maxL := 3) (ret := (some .int)) (by decide) rfl ?_
  intro pr_ ev_ s m args below meth cd_ s₁ B hml hv
  obtain ⟨rfl, hE, hk, hX, hA, hK, hI, hR, hB0⟩ := hv
  have g : h_G h_so h_fk E A z I0 L0 s s.heap s.heap [] := ⟨hK, va_S.rf, hB0⟩
  have hF : h_F [(1100, 999), (1101, 999)] z I0 I0 := h_F.rf
  have hx := B.exec
  have hb := B.bytes
  have hr := B.returns
  have hts := atoms_spec (ws := wsX10_settle) B.pre
  have hown : s.vm.findClass RX10 = some m.cls := findClass_of_methodNamed B.named
  have hlocks := B.notSynchronized
  have iX10 : ∀ w ∈ u_ws RX10 TX10 4, w ∈ wsX10_settle := by decide +kernel
  have hl := lv_entry ([.ref a0, .int x, .int y]) (n := 3) (Nat.le_of_ble_eq_true rfl)
  rw [lg_entry_eq]
  generalize (lg_sl ([.ref a0, .int x, .int y]) ++ List.replicate (3 - (lg_sl ([.ref a0, .int x, .int y])).length) Slot.unset).toArray = ls at hl ⊢
  have hl : lv_has ls 3 [(0, .ref a0), (1, .int x), (2, .int y)] := hl
  have b_y : -2147483648 ≤ y_t ∧ y_t ≤ 2147483647 := h_y ▸ ⟨xi_lo y, Int.le_of_lt_add_one (xi_hi y)⟩
  obtain ⟨hd, rhd, thd⟩ := hR.at a0 0 t_a0 (rfl : h_rs 11 0 = some (1100, false)) (by decide)
  have ahd : h_ad z a0 0 = hd := h_ad.at rhd
  obtain ⟨sh, rsh, tsh⟩ := hR.at a0 1 t_a0 (rfl : h_rs 11 1 = some (1101, false)) (by decide)
  have ash : h_ad z a0 1 = sh := h_ad.at rsh
  obtain ⟨gv, rgv, tgv⟩ := hR.at a0 2 t_a0 (rfl : h_rs 11 2 = some (1102, false)) (by decide)
  have agv : h_ad z a0 2 = gv := h_ad.at rgv
  have kn : x.toNatClampNeg = x_t.toNat := h_keq h_x (by omega) (by omega)
  refine lv_iload_n hx hb dX10_settle_0 rfl (lv_at hl 1 rfl) ?_
  refine lv_if_lt (tgt := 10) hx hb dX10_settle_1 (by decide) (fun h => absurd (xi_lt h h_x (by decide) : x_t < 0) (by omega)) (fun c1 => ?_)
  have ic1 := (xi_nlt c1 h_x (by decide) : 0 ≤ x_t)
  refine lv_iload_n hx hb dX10_settle_4 rfl (lv_at hl 1 rfl) ?_
  refine lv_bipush (v := 80) hx hb dX10_settle_5 (by decide) ?_
  refine lv_icmp_lt (tgt := 12) hx hb dX10_settle_7 (by decide) (fun c2 => ?_) (fun h => absurd (xi_nlt h h_x (by decide) : 80 ≤ x_t) (by omega))
  have ic2 := (xi_lt c2 h_x (by decide) : x_t < 80)
  refine lv_iload_n hx hb dX10_settle_12 rfl (lv_at hl 2 rfl) ?_
  refine lv_aload_n hx hb dX10_settle_13 rfl (lv_at hl 0 rfl) ?_
  refine h_get (v := .ref sh) hx hb hts iX10 hown g t_a0 (by decide) so_11 rfl 1 (by decide) (hts (.fieldLink RX10 15 "CapLeague$Turns" "shield" "[I") (by decide +kernel)) rfl dX10_settle_14 (by show va_rf (z.R a0 1) = _; rw [rsh]; rfl) ?_
  refine lv_iload_n hx hb dX10_settle_17 rfl (lv_at hl 1 rfl) ?_
  refine h_ald hx hb g tsh (by decide) so_1101 (xi_in (by rw [h_x]; omega) (by rw [h_x]; omega)) dX10_settle_18 ?_
  refine lv_topi (fun v3 ev3 => ?_)
  have jv3 := hI.rd sh x.toNatClampNeg tsh ev3 (rfl : h_bd 1101 _ = ((-2147483648), 2147483647))
  refine lv_icmp_ge (tgt := 41) hx hb dX10_settle_19 (by decide) (fun c4 => ?_) (fun c4 => ?_)
  · have ic4 := (xi_le c4 rfl h_y : v3.toInt ≤ y_t)
    refine lv_aload_n hx hb dX10_settle_41 rfl (lv_at hl 0 rfl) ?_
    refine h_get (v := .ref hd) hx hb hts iX10 hown g t_a0 (by decide) so_11 rfl 0 (by decide) (hts (.fieldLink RX10 11 "CapLeague$Turns" "holder" "[I") (by decide +kernel)) rfl dX10_settle_42 (by show va_rf (z.R a0 0) = _; rw [rhd]; rfl) ?_
    refine lv_iload_n hx hb dX10_settle_45 rfl (lv_at hl 1 rfl) ?_
    refine h_ald hx hb g thd (by decide) so_1100 (xi_in (by rw [h_x]; omega) (by rw [h_x]; omega)) dX10_settle_46 ?_
    refine lv_topi (fun v5 ev5 => ?_)
    have jv5 := hI.rd hd x.toNatClampNeg thd ev5 (rfl : h_bd 1100 _ = ((-2147483648), 2147483647))
    have hS := g.2.1
    exact W.iret (v := v5) hx hb hr (fun t ht hW => ⟨⟨v5, I0, rfl, ⟨hI, hF, (by rw [ahd, ash, agv]; exact ⟨by rw [← kn]; exact (ev5.symm).symm, Or.inr ⟨by rw [show I0 sh x_t.toNat = v3 by rw [← kn]; exact ev3.symm]; omega, fun _ => rfl, fun _ => rfl⟩⟩)⟩, h_ret g ht⟩, hS.F ht⟩) hS.2.2 dX10_settle_47
  · have ic4 := (xi_nle c4 rfl h_y : y_t < v3.toInt)
    refine lv_aload_n hx hb dX10_settle_22 rfl (lv_at hl 0 rfl) ?_
    refine h_get (v := .ref hd) hx hb hts iX10 hown g t_a0 (by decide) so_11 rfl 0 (by decide) (hts (.fieldLink RX10 11 "CapLeague$Turns" "holder" "[I") (by decide +kernel)) rfl dX10_settle_23 (by show va_rf (z.R a0 0) = _; rw [rhd]; rfl) ?_
    refine lv_iload_n hx hb dX10_settle_26 rfl (lv_at hl 1 rfl) ?_
    refine lv_aload_n hx hb dX10_settle_27 rfl (lv_at hl 0 rfl) ?_
    refine h_get (v := .ref gv) hx hb hts iX10 hown g t_a0 (by decide) so_11 rfl 2 (by decide) (hts (.fieldLink RX10 18 "CapLeague$Turns" "giver" "[I") (by decide +kernel)) rfl dX10_settle_28 (by show va_rf (z.R a0 2) = _; rw [rgv]; rfl) ?_
    refine lv_iload_n hx hb dX10_settle_31 rfl (lv_at hl 1 rfl) ?_
    refine h_ald hx hb g tgv (by decide) so_1102 (xi_in (by rw [h_x]; omega) (by rw [h_x]; omega)) dX10_settle_32 ?_
    refine lv_topi (fun v6 ev6 => ?_)
    have jv6 := hI.rd gv x.toNatClampNeg tgv ev6 (rfl : h_bd 1102 _ = ((-2147483648), 2147483647))
    refine h_ast hx hb g thd (by decide) so_1100 (xi_in (by rw [h_x]; omega) (by rw [h_x]; omega)) dX10_settle_33 (fun I7 H locs eI7 g => ?_)
    have hI := hI.wr eI7 thd (rfl : h_bd 1100 _ = ((-2147483648), 2147483647)) (xi_lo _) (Int.le_of_lt_add_one (xi_hi _))
    have hF := hF.wr eI7 thd rfl
    refine lv_aload_n hx hb dX10_settle_34 rfl (lv_at hl 0 rfl) ?_
    refine h_get (v := .ref sh) hx hb hts iX10 hown g t_a0 (by decide) so_11 rfl 1 (by decide) (hts (.fieldLink RX10 15 "CapLeague$Turns" "shield" "[I") (by decide +kernel)) rfl dX10_settle_35 (by show va_rf (z.R a0 1) = _; rw [rsh]; rfl) ?_
    refine lv_iload_n hx hb dX10_settle_38 rfl (lv_at hl 1 rfl) ?_
    refine lv_iconst (v := 0) hx hb dX10_settle_39 (by decide) ?_
    refine h_ast hx hb g tsh (by decide) so_1101 (xi_in (by rw [h_x]; omega) (by rw [h_x]; omega)) dX10_settle_40 (fun I8 H locs eI8 g => ?_)
    have hI := hI.wr eI8 tsh (rfl : h_bd 1101 _ = ((-2147483648), 2147483647)) (by decide) (by decide)
    have hF := hF.wr eI8 tsh rfl
    refine lv_aload_n hx hb dX10_settle_41 rfl (lv_at hl 0 rfl) ?_
    refine h_get (v := .ref hd) hx hb hts iX10 hown g t_a0 (by decide) so_11 rfl 0 (by decide) (hts (.fieldLink RX10 11 "CapLeague$Turns" "holder" "[I") (by decide +kernel)) rfl dX10_settle_42 (by show va_rf (z.R a0 0) = _; rw [rhd]; rfl) ?_
    refine lv_iload_n hx hb dX10_settle_45 rfl (lv_at hl 1 rfl) ?_
    refine h_ald hx hb g thd (by decide) so_1100 (xi_in (by rw [h_x]; omega) (by rw [h_x]; omega)) dX10_settle_46 ?_
    refine xw_i ((h_n1 eI8 thd tsh (by decide)).trans (h_n0 eI7)) ?_
    have hS := g.2.1
    exact W.iret (v := v6) hx hb hr (fun t ht hW => ⟨⟨v6, I8, rfl, ⟨hI, hF, (by rw [ahd, ash, agv]; exact ⟨by rw [← kn]; exact ((h_n1 eI8 thd tsh (by decide)).trans (h_n0 eI7)).symm, Or.inl ⟨by rw [show I0 sh x_t.toNat = v3 by rw [← kn]; exact ev3.symm]; omega, by rw [show I0 gv x_t.toNat = v6 by rw [← kn]; exact ev6.symm]; exact fun j => (h_n1 eI8 thd tsh (by decide)).trans (h_wif eI7 kn j), fun j => (h_wif eI8 kn j).trans (by rw [h_n1 eI7 tsh thd (by decide)])⟩⟩)⟩, h_ret g ht⟩, hS.F ht⟩) hS.2.2 dX10_settle_47
set_option maxHeartbeats 4000000 in
set_option maxRecDepth 100000 in
theorem tX2_orderB (l : Launch) (E : tE) (X : tX) (A : Nat → Prop) (z : tZ) (I0 : tI) (L0 : tL) (a0 : Nat) (t_a0 : z.ty a0 = 3) (y : Int32) (y_t : Int) (h_y : y.toInt = y_t) (b_y : 0 ≤ y_t ∧ y_t ≤ 9) (n0 : Nat) (t_n0 : z.ty n0 = 6) (a : Int32) (a_t : Int) (h_a : a.toInt = a_t) (b : Int32) (b_t : Int) (h_b : b.toInt = b_t) (u_ : Nat → Int) (hu : h_lw I0 n0 (h_ad z n0 0) (h_ad z n0 1) u_) (hok : q_ok u_) (hdr : q_draws u_ a_t b_t) : Met l yX2_makeOrder wsX2_makeOrder ({ frames := 3, cells := 0, slots := 0, locals := 192 }) (va_Pc [.ref a0, .int y, .ref n0, .int a, .int b] (h_P E X A z I0 L0)) (va_Qv (fun (I1 : tI) => h_I z I1 ∧ h_F [(353, 999)] z I0 I1 ∧ ((∀ k : Nat, k < 8 → I1 (h_ad z (h_ad z a0 3) y_t.toNat) k = I0 (h_ad z a0 0) (q_od (q_lx u_ a_t) (q_ly u_ a_t b_t) k))) ∧ (∀ a k : Nat, a ≠ (h_ad z (h_ad z a0 3) y_t.toNat) → I1 a k = I0 a k)) (fun (I1 : tI) t => h_B E A z I1 L0 t) A) 0 0 A := by
  refine Met.ofW (cc := cX2_makeOrder) (maxL := 9) (ret := none) (by decide) rfl ?_
  intro pr_ ev_ s m args below meth cd_ s₁ B hml hv
  obtain ⟨rfl, hE, hk, hX, hA, hK, hI, hR, hB0⟩ := hv
  have g : h_G h_so h_fk E A z I0 L0 s s.heap s.heap [] := ⟨hK, va_S.rf, hB0⟩
  have hF : h_F [(353, 999)] z I0 I0 := h_F.rf
  have hx := B.exec
  have hb := B.bytes
  have hr := B.returns
  have hts := atoms_spec (ws := wsX2_makeOrder) B.pre
  have hown : s.vm.findClass RX2 = some m.cls := findClass_of_methodNamed B.named
  have hlocks := B.notSynchronized
  have iX2 : ∀ w ∈ u_ws RX2 TX2 7, w ∈ wsX2_makeOrder := by decide +kernel
  have hl := lv_entry ([.ref a0, .int y, .ref n0, .int a, .int b]) (n := 9) (Nat.le_of_ble_eq_true rfl)
  rw [lg_entry_eq]
  generalize (lg_sl ([.ref a0, .int y, .ref n0, .int a, .int b]) ++ List.replicate (9 - (lg_sl ([.ref a0, .int y, .ref n0, .int a, .int b])).length) Slot.unset).toArray = ls at hl ⊢
  have hl : lv_has ls 9 [(0, .ref a0), (1, .int y), (2, .ref n0), (3, .int a), (4, .int b)] := hl
  have b_a : -2147483648 ≤ a_t ∧ a_t ≤ 2147483647 := h_a ▸ ⟨xi_lo a, Int.le_of_lt_add_one (xi_hi a)⟩
  have b_b : -2147483648 ≤ b_t ∧ b_t ≤ 2147483647 := h_b ▸ ⟨xi_lo b, Int.le_of_lt_add_one (xi_hi b)⟩
  obtain ⟨rk, rrk, trk⟩ := hR.at a0 0 t_a0 (rfl : h_rs 3 0 = some (300, false)) (by decide)
  have ark : h_ad z a0 0 = rk := h_ad.at rrk
  obtain ⟨od, rod, tod⟩ := hR.at a0 3 t_a0 (rfl : h_rs 3 3 = some (303, false)) (by decide)
  have aod : h_ad z a0 3 = od := h_ad.at rod
  have ky : y.toNatClampNeg = y_t.toNat := h_keq h_y (by omega) (by omega)
  obtain ⟨ro, rro, tro⟩ := hR.at od y_t.toNat tod (rfl : h_rs 303 _ = some (353, false)) (by rw [so_303]; show _ < 10; omega)
  obtain ⟨lx, elx⟩ : ∃ k : Int, k = q_lx u_ a_t := ⟨_, rfl⟩
  obtain ⟨ly, ely⟩ : ∃ k : Int, k = q_ly u_ a_t b_t := ⟨_, rfl⟩
  have hq := q_lxq hok hdr
  have hlx := q_lxy hok hdr
  rw [← elx, ← ely] at hq hlx
  refine lv_iload_n hx hb dX2_makeOrder_0 rfl (lv_at hl 1 rfl) ?_
  refine vp_callSi (xr_of (va_runSN (As := [.int y]) (rest := []) ⟨hx, hb, hml, hown, hts⟩ (tX11_isYear l E X A z I0 L0 y (y_t) h_y) (⟨va_cnB 1 hts gX2_makeOrder_X11_isYear_n31 rfl rfl rfl (hE.link 10 rfl) (hts (.initialized RX11) (by decide +kernel)) (by decide +kernel) ⟨Nat.le_of_ble_eq_true rfl, Nat.le_of_ble_eq_true rfl⟩, hts (.static yX11_isYear) (by decide +kernel), trivial⟩) ⟨h_blind _ _ _ _ _ _ _, h_pre _ hE hk hX hA hI hR g⟩ rfl rfl hl.1 rfl (lv_room (Nat.le_of_ble_eq_true rfl)) dX2_makeOrder_1 ⟨Nat.le_of_ble_eq_true rfl, Nat.le_of_ble_eq_true rfl⟩)) (fun rh1 h1 => ?_)
  rcases h1 with ⟨rfl, h1⟩ | ⟨rfl, h1⟩
  · skip
    refine lv_if_ne (tgt := 8) hx hb dX2_makeOrder_4 (by decide) (fun h => absurd (by decide) h) (fun _ => ?_)
    have hS := g.2.1
    exact W.vret hx hb hr (fun t ht hW => ⟨⟨I0, rfl, ⟨hI, hF, ⟨(by exfalso; omega), (by exfalso; omega)⟩⟩, h_ret g ht⟩, hS.F ht⟩) hS.2.2 dX2_makeOrder_7
  · skip
    refine lv_if_ne (tgt := 8) hx hb dX2_makeOrder_4 (by decide) (fun _ => ?_) (fun h => absurd h (by decide))
    refine lv_aload_n hx hb dX2_makeOrder_8 rfl (lv_at hl 2 rfl) ?_
    refine lv_iload_n hx hb dX2_makeOrder_9 rfl (lv_at hl 3 rfl) ?_
    refine lv_iconst (v := (-1)) hx hb dX2_makeOrder_10 (by decide) ?_
    refine vp_callSi (W.runV (As := [.int a, .int (-1)]) (rest := []) ⟨hx, hb, hml, hown, hts⟩ (tX5_lotOfF l E X A z I0 L0 n0 t_n0 a (a_t) h_a (-1) ((-1)) (by decide) (u_) (hu) (hok)) (cwV 2 hts gX2_makeOrder_X5_lotOf rfl rfl rfl (by decide +kernel) ⟨Nat.le_of_ble_eq_true rfl, Nat.le_of_ble_eq_true rfl⟩) ⟨h_blind _ _ _ _ _ _ _, h_recv g t_n0 (by decide) so_6 (q := (RX5, TX5, 3)) rfl, h_pre _ hE hk hX hA hI hR g⟩ rfl rfl hl.1 rfl (lv_room (Nat.le_of_ble_eq_true rfl)) dX2_makeOrder_11 ⟨Nat.le_of_ble_eq_true rfl, Nat.le_of_ble_eq_true rfl⟩) (fun rh4 h4 => ?_)
    obtain ⟨h4, h4p0⟩ := h4
    have ex : rh4.toInt = lx := by rw [elx]; exact h4p0
    refine lv_istore (lv' := [(5, .int rh4), (0, .ref a0), (1, .int y), (2, .ref n0), (3, .int a), (4, .int b)]) hx hb dX2_makeOrder_14 hl (by decide) rfl (fun ls hl => ?_)
    refine lv_iload hx hb dX2_makeOrder_16 (lv_at hl 0 rfl) ?_
    refine lv_iconst (v := (-1)) hx hb dX2_makeOrder_18 (by decide) ?_
    refine lv_icmp_ne (tgt := 26) hx hb dX2_makeOrder_19 (by decide) (fun c5 => ?_) (fun c5 => ?_)
    · have ic5 := (xi_ne c5 rfl (by decide) : rh4.toInt ≠ (-1))
      refine lv_aload_n hx hb dX2_makeOrder_26 rfl (lv_at hl 3 rfl) ?_
      refine lv_iload hx hb dX2_makeOrder_27 (lv_at hl 5 rfl) ?_
      refine lv_iload hx hb dX2_makeOrder_29 (lv_at hl 0 rfl) ?_
      refine vp_callSi (W.runV (As := [.int b, .int rh4]) (rest := []) ⟨hx, hb, hml, hown, hts⟩ (tX5_lotOfF l E X A z I0 L0 n0 t_n0 b (b_t) h_b rh4 (rh4.toInt) rfl (u_) (hu) (hok)) (cwV 2 hts gX2_makeOrder_X5_lotOf rfl rfl rfl (by decide +kernel) ⟨Nat.le_of_ble_eq_true rfl, Nat.le_of_ble_eq_true rfl⟩) ⟨h_blind _ _ _ _ _ _ _, h_recv g t_n0 (by decide) so_6 (q := (RX5, TX5, 3)) rfl, h_pre _ hE hk hX hA hI hR g⟩ rfl rfl hl.1 rfl (lv_room (Nat.le_of_ble_eq_true rfl)) dX2_makeOrder_31 ⟨Nat.le_of_ble_eq_true rfl, Nat.le_of_ble_eq_true rfl⟩) (fun rh6 h6 => ?_)
      obtain ⟨h6, h6p0⟩ := h6
      have ey : rh6.toInt = ly := by rw [ex] at h6p0; rcases hlx with q | q; omega; rw [q.2.2.2.2]; exact h6p0
      refine lv_istore (lv' := [(6, .int rh6), (5, .int rh4), (0, .ref a0), (1, .int y), (2, .ref n0), (3, .int a), (4, .int b)]) hx hb dX2_makeOrder_34 hl (by decide) rfl (fun ls hl => ?_)
      refine lv_iconst (v := 0) hx hb dX2_makeOrder_36 (by decide) ?_
      refine lv_istore (lv' := [(7, .int 0), (6, .int rh6), (5, .int rh4), (0, .ref a0), (1, .int y), (2, .ref n0), (3, .int a), (4, .int b)]) hx hb dX2_makeOrder_37 hl (by decide) rfl (fun ls hl => ?_)
      refine lv_iload hx hb dX2_makeOrder_39 (lv_at hl 2 rfl) ?_
      refine lv_iconst (v := (-1)) hx hb dX2_makeOrder_41 (by decide) ?_
      refine lv_icmp_eq (tgt := 84) hx hb dX2_makeOrder_42 (by decide) (fun h => absurd (xi_eq h rfl (by decide) : rh4.toInt = (-1)) (by omega)) (fun c7 => ?_)
      have ic7 := (xi_ne c7 rfl (by decide) : rh4.toInt ≠ (-1))
      refine lv_iload hx hb dX2_makeOrder_45 (lv_at hl 1 rfl) ?_
      refine lv_iconst (v := (-1)) hx hb dX2_makeOrder_47 (by decide) ?_
      refine lv_icmp_eq (tgt := 84) hx hb dX2_makeOrder_48 (by decide) (fun c8 => ?_) (fun c8 => ?_)
      · have ic8 := (xi_eq c8 rfl (by decide) : rh6.toInt = (-1))
        exfalso; rcases hlx with q | q; omega; omega
      · have ic8 := (xi_ne c8 rfl (by decide) : rh6.toInt ≠ (-1))
        refine lv_aload_n hx hb dX2_makeOrder_51 rfl (lv_at hl 3 rfl) ?_
        refine h_get (v := .ref od) hx hb hts iX2 hown g t_a0 (by decide) so_3 rfl 3 (by decide) (hts (.fieldLink RX2 21 "CapLeague$Draft" "order" "[[I") (by decide +kernel)) rfl dX2_makeOrder_52 (by show va_rf (z.R a0 3) = _; rw [rod]; rfl) ?_
        refine lv_iload_n hx hb dX2_makeOrder_55 rfl (lv_at hl 4 rfl) ?_
        obtain ⟨b9, rb9, tb9⟩ := hR.at od y.toNatClampNeg tod (rfl : h_rs 303 _ = some (353, false)) (by rw [so_303]; exact h_lt (n := 10) (xi_in (by rw [h_y]; omega) (by rw [h_y]; omega)))
        refine h_aldA (v := .ref b9) hx hb g tod (by decide) so_303 (xi_in (by rw [h_y]; omega) (by rw [h_y]; omega)) dX2_makeOrder_56 (by rw [rb9]; rfl) ?_
        refine lv_iconst (v := 0) hx hb dX2_makeOrder_57 (by decide) ?_
        refine lv_aload_n hx hb dX2_makeOrder_58 rfl (lv_at hl 3 rfl) ?_
        refine h_get (v := .ref rk) hx hb hts iX2 hown g t_a0 (by decide) so_3 rfl 0 (by decide) (hts (.fieldLink RX2 9 "CapLeague$Draft" "ranks" "[I") (by decide +kernel)) rfl dX2_makeOrder_59 (by show va_rf (z.R a0 0) = _; rw [rrk]; rfl) ?_
        refine lv_iload hx hb dX2_makeOrder_62 (lv_at hl 2 rfl) ?_
        refine h_ald hx hb g trk (by decide) so_300 (xi_in (by omega) (by omega)) dX2_makeOrder_64 ?_
        refine lv_topi (fun v10 ev10 => ?_)
        have jv10 := hI.rd rk rh4.toNatClampNeg trk ev10 (rfl : h_bd 300 _ = ((-2147483648), 2147483647))
        have gv10 : I0 rk (rh4.toInt).toNat = v10 := by rw [← (h_keq rfl (by omega) (by omega) : rh4.toNatClampNeg = (rh4.toInt).toNat)]; exact (hF.at trk rfl).symm.trans ev10.symm
        refine h_ast hx hb g tb9 (by decide) so_353 (by unfold vp_in; decide) dX2_makeOrder_65 (fun I11 H locs eI11 g => ?_)
        have hI := hI.wr eI11 tb9 (rfl : h_bd 353 _ = ((-2147483648), 2147483647)) (xi_lo _) (Int.le_of_lt_add_one (xi_hi _))
        have hF := hF.wr eI11 tb9 rfl
        have ebI11 : b9 = ro := by rw [ky] at rb9; exact Option.some.inj (rb9.symm.trans rro)
        have wI11 : I11 = h_up I0 ro (0 : Int32).toNatClampNeg v10 := by rw [eI11, ebI11]
        refine lv_aload_n hx hb dX2_makeOrder_66 rfl (lv_at hl 3 rfl) ?_
        refine h_get (v := .ref od) hx hb hts iX2 hown g t_a0 (by decide) so_3 rfl 3 (by decide) (hts (.fieldLink RX2 21 "CapLeague$Draft" "order" "[[I") (by decide +kernel)) rfl dX2_makeOrder_67 (by show va_rf (z.R a0 3) = _; rw [rod]; rfl) ?_
        refine lv_iload_n hx hb dX2_makeOrder_70 rfl (lv_at hl 4 rfl) ?_
        obtain ⟨b12, rb12, tb12⟩ := hR.at od y.toNatClampNeg tod (rfl : h_rs 303 _ = some (353, false)) (by rw [so_303]; exact h_lt (n := 10) (xi_in (by rw [h_y]; omega) (by rw [h_y]; omega)))
        refine h_aldA (v := .ref b12) hx hb g tod (by decide) so_303 (xi_in (by rw [h_y]; omega) (by rw [h_y]; omega)) dX2_makeOrder_71 (by rw [rb12]; rfl) ?_
        refine lv_iconst (v := 1) hx hb dX2_makeOrder_72 (by decide) ?_
        refine lv_aload_n hx hb dX2_makeOrder_73 rfl (lv_at hl 3 rfl) ?_
        refine h_get (v := .ref rk) hx hb hts iX2 hown g t_a0 (by decide) so_3 rfl 0 (by decide) (hts (.fieldLink RX2 9 "CapLeague$Draft" "ranks" "[I") (by decide +kernel)) rfl dX2_makeOrder_74 (by show va_rf (z.R a0 0) = _; rw [rrk]; rfl) ?_
        refine lv_iload hx hb dX2_makeOrder_77 (lv_at hl 1 rfl) ?_
        refine h_ald hx hb g trk (by decide) so_300 (xi_in (by omega) (by omega)) dX2_makeOrder_79 ?_
        refine lv_topi (fun v13 ev13 => ?_)
        have jv13 := hI.rd rk rh6.toNatClampNeg trk ev13 (rfl : h_bd 300 _ = ((-2147483648), 2147483647))
        have gv13 : I0 rk (rh6.toInt).toNat = v13 := by rw [← (h_keq rfl (by omega) (by omega) : rh6.toNatClampNeg = (rh6.toInt).toNat)]; exact (hF.at trk rfl).symm.trans ev13.symm
        refine h_ast hx hb g tb12 (by decide) so_353 (by unfold vp_in; decide) dX2_makeOrder_80 (fun I14 H locs eI14 g => ?_)
        have hI := hI.wr eI14 tb12 (rfl : h_bd 353 _ = ((-2147483648), 2147483647)) (xi_lo _) (Int.le_of_lt_add_one (xi_hi _))
        have hF := hF.wr eI14 tb12 rfl
        have ebI14 : b12 = ro := by rw [ky] at rb12; exact Option.some.inj (rb12.symm.trans rro)
        have wI14 : I14 = h_up I11 ro (1 : Int32).toNatClampNeg v13 := by rw [eI14, ebI14]
        refine lv_iconst (v := 2) hx hb dX2_makeOrder_81 (by decide) ?_
        refine lv_istore (lv' := [(7, .int 2), (6, .int rh6), (5, .int rh4), (0, .ref a0), (1, .int y), (2, .ref n0), (3, .int a), (4, .int b)]) hx hb dX2_makeOrder_82 hl (by decide) rfl (fun ls hl => ?_)
        refine lv_iconst (v := 0) hx hb dX2_makeOrder_84 (by decide) ?_
        refine lv_istore (lv' := [(8, .int 0), (7, .int 2), (6, .int rh6), (5, .int rh4), (0, .ref a0), (1, .int y), (2, .ref n0), (3, .int a), (4, .int b)]) hx hb dX2_makeOrder_85 hl (by decide) rfl (fun ls hl => ?_)
        have loop87_0 : ∀ (n : Nat) (I17 : tI) (H : Heap) (locs : List Loc) (ls : Array Slot) (v15 v16 : Int32), h_G h_so h_fk E A z I17 L0 s s.heap H locs → h_I z I17 → h_F [(353, 999)] z I0 I17 → lv_has ls 9 [(0, .ref a0), (1, .int y), (5, .int rh4), (6, .int rh6), (7, .int v15), (8, .int v16)] → (0 ≤ v15.toInt ∧ v15.toInt ≤ 8) → (0 ≤ v16.toInt ∧ v16.toInt ≤ 8) → h_F [(353, 999)] z I14 I17 → ((v15.toInt).toNat = q_fl lx ly (v16.toInt).toNat) → (q_oi (I17 ro) (I0 rk) lx ly (v15.toInt).toNat) → (∀ a k : Nat, a ≠ ro → I17 a k = I0 a k) → (8 - v16.toInt) < (n : Int) → W pr_ l ev_ (headSpec wsX2_makeOrder ({ frames := 3, cells := 0, slots := 0, locals := 192 })).room s m ([.ref a0, .int y, .ref n0, .int a, .int b] : List Value).toArray below meth cd_ H locs 0 0 (MQ below (va_Qv (fun (I1 : tI) => h_I z I1 ∧ h_F [(353, 999)] z I0 I1 ∧ ((∀ k : Nat, k < 8 → I1 (h_ad z (h_ad z a0 3) y_t.toNat) k = I0 (h_ad z a0 0) (q_od (q_lx u_ a_t) (q_ly u_ a_t b_t) k))) ∧ (∀ a k : Nat, a ≠ (h_ad z (h_ad z a0 3) y_t.toNat) → I1 a k = I0 a k)) (fun (I1 : tI) t => h_B E A z I1 L0 t) A) ([.ref a0, .int y, .ref n0, .int a, .int b] : List Value).toArray s 0 0 A) (F0 m 87 ls []) := by
          intro n
          induction n with
          | zero => intro I17 H locs ls v15 v16 g hI hF hl jv15 jv16 hL87 hx87_0 hx87_1 hx87_2 hn; exact absurd hn (by omega)
          | succ n ih87 =>
            intro I17 H locs ls v15 v16 g hI hF hl jv15 jv16 hL87 hx87_0 hx87_1 hx87_2 hn
            refine lv_iload hx hb dX2_makeOrder_87 (lv_at hl 5 rfl) ?_
            refine lv_bipush (v := 8) hx hb dX2_makeOrder_89 (by decide) ?_
            refine lv_icmp_ge (tgt := 140) hx hb dX2_makeOrder_91 (by decide) (fun c18 => ?_) (fun c18 => ?_)
            · have ic18 := (xi_le c18 (by decide) rfl : 8 ≤ v16.toInt)
              have hS := g.2.1
              exact W.vret hx hb hr (fun t ht hW => ⟨⟨I17, rfl, ⟨hI, hF, ⟨(by rw [ark, aod, h_ad.at rro, ← elx, ← ely]; have n8 : v15.toInt.toNat = 8 := (by by_cases h9 : v16.toInt = 8; rw [hx87_0, show v16.toInt.toNat = 8 by omega]; exact q_fl8 hq; omega); rw [n8] at hx87_1; exact fun k hk => hx87_1 k hk), (by rw [aod, h_ad.at rro]; exact hx87_2)⟩⟩, h_ret g ht⟩, hS.F ht⟩) hS.2.2 dX2_makeOrder_140
            · have ic18 := (xi_nle c18 (by decide) rfl : v16.toInt < 8)
              refine lv_iload hx hb dX2_makeOrder_94 (lv_at hl 4 rfl) ?_
              refine lv_bipush (v := 8) hx hb dX2_makeOrder_96 (by decide) ?_
              refine lv_icmp_ge (tgt := 140) hx hb dX2_makeOrder_98 (by decide) (fun c19 => ?_) (fun c19 => ?_)
              · have ic19 := (xi_le c19 (by decide) rfl : 8 ≤ v15.toInt)
                have hS := g.2.1
                exact W.vret hx hb hr (fun t ht hW => ⟨⟨I17, rfl, ⟨hI, hF, ⟨(by rw [ark, aod, h_ad.at rro, ← elx, ← ely]; have n8 : v15.toInt.toNat = 8 := (by by_cases h9 : v16.toInt = 8; rw [hx87_0, show v16.toInt.toNat = 8 by omega]; exact q_fl8 hq; omega); rw [n8] at hx87_1; exact fun k hk => hx87_1 k hk), (by rw [aod, h_ad.at rro]; exact hx87_2)⟩⟩, h_ret g ht⟩, hS.F ht⟩) hS.2.2 dX2_makeOrder_140
              · have ic19 := (xi_nle c19 (by decide) rfl : v15.toInt < 8)
                refine lv_iload hx hb dX2_makeOrder_101 (lv_at hl 5 rfl) ?_
                refine lv_iload hx hb dX2_makeOrder_103 (lv_at hl 2 rfl) ?_
                refine lv_icmp_eq (tgt := 134) hx hb dX2_makeOrder_105 (by decide) (fun c20 => ?_) (fun c20 => ?_)
                · have ic20 := (xi_eq c20 rfl rfl : v16.toInt = rh4.toInt)
                  obtain ⟨v21, ev21⟩ : ∃ z : Int32, z = v16 + 1 := ⟨_, rfl⟩
                  have jv21 : v21.toInt = v16.toInt + 1 := xi_add ev21 rfl (by decide) (by omega) (by omega)
                  refine lv_iinc (v := v21) (lv' := [(8, .int v21), (0, .ref a0), (1, .int y), (5, .int rh4), (6, .int rh6), (7, .int v15)]) hx hb dX2_makeOrder_134 hl (k := 5) rfl (by rw [ev21]; rfl) (by decide) rfl (fun ls hl => ?_)
                  refine lv_goto (tgt := 87) hx hb dX2_makeOrder_137 (by decide) ?_
                  exact ih87 I17 _ _ _ v15 v21 g hI hF (lv_sub hl [1, 2, 3, 4, 5, 0] rfl) (by omega) (by omega) (h_F.call (h_F.rf : h_F [(353, 999)] z I14 I14) hL87 rfl) (by rw [show (v21.toInt).toNat = v16.toInt.toNat + 1 by omega, q_flx hq (by omega) (by omega)]; exact hx87_0) (hx87_1) (hx87_2) (by omega)
                · have ic20 := (xi_ne c20 rfl rfl : v16.toInt ≠ rh4.toInt)
                  refine lv_iload hx hb dX2_makeOrder_108 (lv_at hl 5 rfl) ?_
                  refine lv_iload hx hb dX2_makeOrder_110 (lv_at hl 3 rfl) ?_
                  refine lv_icmp_eq (tgt := 134) hx hb dX2_makeOrder_112 (by decide) (fun c22 => ?_) (fun c22 => ?_)
                  · have ic22 := (xi_eq c22 rfl rfl : v16.toInt = rh6.toInt)
                    obtain ⟨v23, ev23⟩ : ∃ z : Int32, z = v16 + 1 := ⟨_, rfl⟩
                    have jv23 : v23.toInt = v16.toInt + 1 := xi_add ev23 rfl (by decide) (by omega) (by omega)
                    refine lv_iinc (v := v23) (lv' := [(8, .int v23), (0, .ref a0), (1, .int y), (5, .int rh4), (6, .int rh6), (7, .int v15)]) hx hb dX2_makeOrder_134 hl (k := 5) rfl (by rw [ev23]; rfl) (by decide) rfl (fun ls hl => ?_)
                    refine lv_goto (tgt := 87) hx hb dX2_makeOrder_137 (by decide) ?_
                    exact ih87 I17 _ _ _ v15 v23 g hI hF (lv_sub hl [1, 2, 3, 4, 5, 0] rfl) (by omega) (by omega) (h_F.call (h_F.rf : h_F [(353, 999)] z I14 I14) hL87 rfl) (by rw [show (v23.toInt).toNat = v16.toInt.toNat + 1 by omega, q_flx hq (by omega) (by omega)]; exact hx87_0) (hx87_1) (hx87_2) (by omega)
                  · have ic22 := (xi_ne c22 rfl rfl : v16.toInt ≠ rh6.toInt)
                    refine lv_aload_n hx hb dX2_makeOrder_115 rfl (lv_at hl 0 rfl) ?_
                    refine h_get (v := .ref od) hx hb hts iX2 hown g t_a0 (by decide) so_3 rfl 3 (by decide) (hts (.fieldLink RX2 21 "CapLeague$Draft" "order" "[[I") (by decide +kernel)) rfl dX2_makeOrder_116 (by show va_rf (z.R a0 3) = _; rw [rod]; rfl) ?_
                    refine lv_iload_n hx hb dX2_makeOrder_119 rfl (lv_at hl 1 rfl) ?_
                    obtain ⟨b24, rb24, tb24⟩ := hR.at od y.toNatClampNeg tod (rfl : h_rs 303 _ = some (353, false)) (by rw [so_303]; exact h_lt (n := 10) (xi_in (by rw [h_y]; omega) (by rw [h_y]; omega)))
                    refine h_aldA (v := .ref b24) hx hb g tod (by decide) so_303 (xi_in (by rw [h_y]; omega) (by rw [h_y]; omega)) dX2_makeOrder_120 (by rw [rb24]; rfl) ?_
                    refine lv_iload hx hb dX2_makeOrder_121 (lv_at hl 4 rfl) ?_
                    refine lv_aload_n hx hb dX2_makeOrder_123 rfl (lv_at hl 0 rfl) ?_
                    refine h_get (v := .ref rk) hx hb hts iX2 hown g t_a0 (by decide) so_3 rfl 0 (by decide) (hts (.fieldLink RX2 9 "CapLeague$Draft" "ranks" "[I") (by decide +kernel)) rfl dX2_makeOrder_124 (by show va_rf (z.R a0 0) = _; rw [rrk]; rfl) ?_
                    refine lv_iload hx hb dX2_makeOrder_127 (lv_at hl 5 rfl) ?_
                    refine h_ald hx hb g trk (by decide) so_300 (xi_in (by omega) (by omega)) dX2_makeOrder_129 ?_
                    refine lv_topi (fun v25 ev25 => ?_)
                    have jv25 := hI.rd rk v16.toNatClampNeg trk ev25 (rfl : h_bd 300 _ = ((-2147483648), 2147483647))
                    have gv25 : I0 rk (v16.toInt).toNat = v25 := by rw [← (h_keq rfl (by omega) (by omega) : v16.toNatClampNeg = (v16.toInt).toNat)]; exact (hF.at trk rfl).symm.trans ev25.symm
                    refine h_ast hx hb g tb24 (by decide) so_353 (xi_in (by omega) (by omega)) dX2_makeOrder_130 (fun I26 H locs eI26 g => ?_)
                    have hI := hI.wr eI26 tb24 (rfl : h_bd 353 _ = ((-2147483648), 2147483647)) (xi_lo _) (Int.le_of_lt_add_one (xi_hi _))
                    have hF := hF.wr eI26 tb24 rfl
                    have ebI26 : b24 = ro := by rw [ky] at rb24; exact Option.some.inj (rb24.symm.trans rro)
                    have wI26 : I26 = h_up I17 ro v15.toNatClampNeg v25 := by rw [eI26, ebI26]
                    obtain ⟨v27, ev27⟩ : ∃ z : Int32, z = v15 + 1 := ⟨_, rfl⟩
                    have jv27 : v27.toInt = v15.toInt + 1 := xi_add ev27 rfl (by decide) (by omega) (by omega)
                    refine lv_iinc (v := v27) (lv' := [(7, .int v27), (0, .ref a0), (1, .int y), (5, .int rh4), (6, .int rh6), (8, .int v16)]) hx hb dX2_makeOrder_131 hl (k := 4) rfl (by rw [ev27]; rfl) (by decide) rfl (fun ls hl => ?_)
                    obtain ⟨v28, ev28⟩ : ∃ z : Int32, z = v16 + 1 := ⟨_, rfl⟩
                    have jv28 : v28.toInt = v16.toInt + 1 := xi_add ev28 rfl (by decide) (by omega) (by omega)
                    refine lv_iinc (v := v28) (lv' := [(8, .int v28), (7, .int v27), (0, .ref a0), (1, .int y), (5, .int rh4), (6, .int rh6)]) hx hb dX2_makeOrder_134 hl (k := 5) rfl (by rw [ev28]; rfl) (by decide) rfl (fun ls hl => ?_)
                    refine lv_goto (tgt := 87) hx hb dX2_makeOrder_137 (by decide) ?_
                    have oiw := q_oi_w hx87_1 hx87_0 (by omega) hq (by omega) (by omega) gv25.symm (h_wif wI26 (h_keq rfl (by omega) (by omega)))
                    exact ih87 I26 _ _ _ v27 v28 g hI hF (lv_sub hl [2, 3, 4, 5, 1, 0] rfl) (by omega) (by omega) (h_F.wr (h_F.call (h_F.rf : h_F [(353, 999)] z I14 I14) hL87 rfl) eI26 tb24 rfl) (by rw [show (v27.toInt).toNat = v15.toInt.toNat + 1 by omega, show (v28.toInt).toNat = v16.toInt.toNat + 1 by omega]; exact oiw.2) (by rw [show (v27.toInt).toNat = v15.toInt.toNat + 1 by omega]; exact oiw.1) (fun a k ha => (h_upb wI26 ha).trans (hx87_2 a k ha)) (by omega)
        have kc29 : (2 : Int32).toInt = 2 := by decide
        have kc30 : (0 : Int32).toInt = 0 := by decide
        have oi2 := q_oi_2 (f := I14 ro) (r := I0 rk) (x := lx) (y := ly) (by omega) (by omega) (by omega) ((h_n2 wI14 (by decide)).trans ((h_n0 wI11).trans (by rw [← ex]; exact gv10.symm))) ((h_n0 wI14).trans (by rw [← ey]; exact gv13.symm))
        exact loop87_0 _ I14 _ _ _ (2) (0) g hI hF (lv_sub hl [4, 5, 3, 2, 1, 0] rfl) ⟨by decide, by decide⟩ ⟨by decide, by decide⟩ (h_F.rf : h_F [(353, 999)] z I14 I14) (oi2.2) (oi2.1) (fun a k ha => (h_upb wI14 ha).trans (h_upb wI11 ha)) (show (8 - (0 : Int)) < (((8 - (0 : Int)).toNat + 1 : Nat) : Int) by omega)
    · have ic5 := (xi_eq c5 rfl (by decide) : rh4.toInt = (-1))
      refine lv_iconst (v := (-1)) hx hb dX2_makeOrder_22 (by decide) ?_
      refine lv_goto (tgt := 34) hx hb dX2_makeOrder_23 (by decide) ?_
      refine lv_istore (lv' := [(6, .int (-1)), (5, .int rh4), (0, .ref a0), (1, .int y), (2, .ref n0), (3, .int a), (4, .int b)]) hx hb dX2_makeOrder_34 hl (by decide) rfl (fun ls hl => ?_)
      refine lv_iconst (v := 0) hx hb dX2_makeOrder_36 (by decide) ?_
      refine lv_istore (lv' := [(7, .int 0), (6, .int (-1)), (5, .int rh4), (0, .ref a0), (1, .int y), (2, .ref n0), (3, .int a), (4, .int b)]) hx hb dX2_makeOrder_37 hl (by decide) rfl (fun ls hl => ?_)
      refine lv_iload hx hb dX2_makeOrder_39 (lv_at hl 2 rfl) ?_
      refine lv_iconst (v := (-1)) hx hb dX2_makeOrder_41 (by decide) ?_
      refine lv_icmp_eq (tgt := 84) hx hb dX2_makeOrder_42 (by decide) (fun c31 => ?_) (fun h => absurd (xi_ne h rfl (by decide) : rh4.toInt ≠ (-1)) (by omega))
      have ic31 := (xi_eq c31 rfl (by decide) : rh4.toInt = (-1))
      refine lv_iconst (v := 0) hx hb dX2_makeOrder_84 (by decide) ?_
      refine lv_istore (lv' := [(8, .int 0), (7, .int 0), (6, .int (-1)), (5, .int rh4), (0, .ref a0), (1, .int y), (2, .ref n0), (3, .int a), (4, .int b)]) hx hb dX2_makeOrder_85 hl (by decide) rfl (fun ls hl => ?_)
      have loop87_1 : ∀ (n : Nat) (I34 : tI) (H : Heap) (locs : List Loc) (ls : Array Slot) (v32 v33 : Int32), h_G h_so h_fk E A z I34 L0 s s.heap H locs → h_I z I34 → h_F [(353, 999)] z I0 I34 → lv_has ls 9 [(0, .ref a0), (1, .int y), (5, .int rh4), (6, .int (-1)), (7, .int v32), (8, .int v33)] → (0 ≤ v32.toInt ∧ v32.toInt ≤ 8) → (0 ≤ v33.toInt ∧ v33.toInt ≤ 8) → h_F [(353, 999)] z I0 I34 → ((v32.toInt).toNat = q_fl lx ly (v33.toInt).toNat) → (q_oi (I34 ro) (I0 rk) lx ly (v32.toInt).toNat) → (∀ a k : Nat, a ≠ ro → I34 a k = I0 a k) → (8 - v33.toInt) < (n : Int) → W pr_ l ev_ (headSpec wsX2_makeOrder ({ frames := 3, cells := 0, slots := 0, locals := 192 })).room s m ([.ref a0, .int y, .ref n0, .int a, .int b] : List Value).toArray below meth cd_ H locs 0 0 (MQ below (va_Qv (fun (I1 : tI) => h_I z I1 ∧ h_F [(353, 999)] z I0 I1 ∧ ((∀ k : Nat, k < 8 → I1 (h_ad z (h_ad z a0 3) y_t.toNat) k = I0 (h_ad z a0 0) (q_od (q_lx u_ a_t) (q_ly u_ a_t b_t) k))) ∧ (∀ a k : Nat, a ≠ (h_ad z (h_ad z a0 3) y_t.toNat) → I1 a k = I0 a k)) (fun (I1 : tI) t => h_B E A z I1 L0 t) A) ([.ref a0, .int y, .ref n0, .int a, .int b] : List Value).toArray s 0 0 A) (F0 m 87 ls []) := by
        intro n
        induction n with
        | zero => intro I34 H locs ls v32 v33 g hI hF hl jv32 jv33 hL87 hx87_0 hx87_1 hx87_2 hn; exact absurd hn (by omega)
        | succ n ih87 =>
          intro I34 H locs ls v32 v33 g hI hF hl jv32 jv33 hL87 hx87_0 hx87_1 hx87_2 hn
          refine lv_iload hx hb dX2_makeOrder_87 (lv_at hl 5 rfl) ?_
          refine lv_bipush (v := 8) hx hb dX2_makeOrder_89 (by decide) ?_
          refine lv_icmp_ge (tgt := 140) hx hb dX2_makeOrder_91 (by decide) (fun c35 => ?_) (fun c35 => ?_)
          · have ic35 := (xi_le c35 (by decide) rfl : 8 ≤ v33.toInt)
            have hS := g.2.1
            exact W.vret hx hb hr (fun t ht hW => ⟨⟨I34, rfl, ⟨hI, hF, ⟨(by rw [ark, aod, h_ad.at rro, ← elx, ← ely]; have n8 : v32.toInt.toNat = 8 := (by by_cases h9 : v33.toInt = 8; rw [hx87_0, show v33.toInt.toNat = 8 by omega]; exact q_fl8 hq; omega); rw [n8] at hx87_1; exact fun k hk => hx87_1 k hk), (by rw [aod, h_ad.at rro]; exact hx87_2)⟩⟩, h_ret g ht⟩, hS.F ht⟩) hS.2.2 dX2_makeOrder_140
          · have ic35 := (xi_nle c35 (by decide) rfl : v33.toInt < 8)
            refine lv_iload hx hb dX2_makeOrder_94 (lv_at hl 4 rfl) ?_
            refine lv_bipush (v := 8) hx hb dX2_makeOrder_96 (by decide) ?_
            refine lv_icmp_ge (tgt := 140) hx hb dX2_makeOrder_98 (by decide) (fun c36 => ?_) (fun c36 => ?_)
            · have ic36 := (xi_le c36 (by decide) rfl : 8 ≤ v32.toInt)
              have hS := g.2.1
              exact W.vret hx hb hr (fun t ht hW => ⟨⟨I34, rfl, ⟨hI, hF, ⟨(by rw [ark, aod, h_ad.at rro, ← elx, ← ely]; have n8 : v32.toInt.toNat = 8 := (by by_cases h9 : v33.toInt = 8; rw [hx87_0, show v33.toInt.toNat = 8 by omega]; exact q_fl8 hq; omega); rw [n8] at hx87_1; exact fun k hk => hx87_1 k hk), (by rw [aod, h_ad.at rro]; exact hx87_2)⟩⟩, h_ret g ht⟩, hS.F ht⟩) hS.2.2 dX2_makeOrder_140
            · have ic36 := (xi_nle c36 (by decide) rfl : v32.toInt < 8)
              refine lv_iload hx hb dX2_makeOrder_101 (lv_at hl 5 rfl) ?_
              refine lv_iload hx hb dX2_makeOrder_103 (lv_at hl 2 rfl) ?_
              refine lv_icmp_eq (tgt := 134) hx hb dX2_makeOrder_105 (by decide) (fun h => absurd (xi_eq h rfl rfl : v33.toInt = rh4.toInt) (by omega)) (fun c37 => ?_)
              have ic37 := (xi_ne c37 rfl rfl : v33.toInt ≠ rh4.toInt)
              refine lv_iload hx hb dX2_makeOrder_108 (lv_at hl 5 rfl) ?_
              refine lv_iload hx hb dX2_makeOrder_110 (lv_at hl 3 rfl) ?_
              refine lv_icmp_eq (tgt := 134) hx hb dX2_makeOrder_112 (by decide) (fun h => absurd (xi_eq h rfl (by decide) : v33.toInt = (-1)) (by omega)) (fun c38 => ?_)
              have ic38 := (xi_ne c38 rfl (by decide) : v33.toInt ≠ (-1))
              refine lv_aload_n hx hb dX2_makeOrder_115 rfl (lv_at hl 0 rfl) ?_
              refine h_get (v := .ref od) hx hb hts iX2 hown g t_a0 (by decide) so_3 rfl 3 (by decide) (hts (.fieldLink RX2 21 "CapLeague$Draft" "order" "[[I") (by decide +kernel)) rfl dX2_makeOrder_116 (by show va_rf (z.R a0 3) = _; rw [rod]; rfl) ?_
              refine lv_iload_n hx hb dX2_makeOrder_119 rfl (lv_at hl 1 rfl) ?_
              obtain ⟨b39, rb39, tb39⟩ := hR.at od y.toNatClampNeg tod (rfl : h_rs 303 _ = some (353, false)) (by rw [so_303]; exact h_lt (n := 10) (xi_in (by rw [h_y]; omega) (by rw [h_y]; omega)))
              refine h_aldA (v := .ref b39) hx hb g tod (by decide) so_303 (xi_in (by rw [h_y]; omega) (by rw [h_y]; omega)) dX2_makeOrder_120 (by rw [rb39]; rfl) ?_
              refine lv_iload hx hb dX2_makeOrder_121 (lv_at hl 4 rfl) ?_
              refine lv_aload_n hx hb dX2_makeOrder_123 rfl (lv_at hl 0 rfl) ?_
              refine h_get (v := .ref rk) hx hb hts iX2 hown g t_a0 (by decide) so_3 rfl 0 (by decide) (hts (.fieldLink RX2 9 "CapLeague$Draft" "ranks" "[I") (by decide +kernel)) rfl dX2_makeOrder_124 (by show va_rf (z.R a0 0) = _; rw [rrk]; rfl) ?_
              refine lv_iload hx hb dX2_makeOrder_127 (lv_at hl 5 rfl) ?_
              refine h_ald hx hb g trk (by decide) so_300 (xi_in (by omega) (by omega)) dX2_makeOrder_129 ?_
              refine lv_topi (fun v40 ev40 => ?_)
              have jv40 := hI.rd rk v33.toNatClampNeg trk ev40 (rfl : h_bd 300 _ = ((-2147483648), 2147483647))
              have gv40 : I0 rk (v33.toInt).toNat = v40 := by rw [← (h_keq rfl (by omega) (by omega) : v33.toNatClampNeg = (v33.toInt).toNat)]; exact (hF.at trk rfl).symm.trans ev40.symm
              refine h_ast hx hb g tb39 (by decide) so_353 (xi_in (by omega) (by omega)) dX2_makeOrder_130 (fun I41 H locs eI41 g => ?_)
              have hI := hI.wr eI41 tb39 (rfl : h_bd 353 _ = ((-2147483648), 2147483647)) (xi_lo _) (Int.le_of_lt_add_one (xi_hi _))
              have hF := hF.wr eI41 tb39 rfl
              have ebI41 : b39 = ro := by rw [ky] at rb39; exact Option.some.inj (rb39.symm.trans rro)
              have wI41 : I41 = h_up I34 ro v32.toNatClampNeg v40 := by rw [eI41, ebI41]
              obtain ⟨v42, ev42⟩ : ∃ z : Int32, z = v32 + 1 := ⟨_, rfl⟩
              have jv42 : v42.toInt = v32.toInt + 1 := xi_add ev42 rfl (by decide) (by omega) (by omega)
              refine lv_iinc (v := v42) (lv' := [(7, .int v42), (0, .ref a0), (1, .int y), (5, .int rh4), (6, .int (-1)), (8, .int v33)]) hx hb dX2_makeOrder_131 hl (k := 4) rfl (by rw [ev42]; rfl) (by decide) rfl (fun ls hl => ?_)
              obtain ⟨v43, ev43⟩ : ∃ z : Int32, z = v33 + 1 := ⟨_, rfl⟩
              have jv43 : v43.toInt = v33.toInt + 1 := xi_add ev43 rfl (by decide) (by omega) (by omega)
              refine lv_iinc (v := v43) (lv' := [(8, .int v43), (7, .int v42), (0, .ref a0), (1, .int y), (5, .int rh4), (6, .int (-1))]) hx hb dX2_makeOrder_134 hl (k := 5) rfl (by rw [ev43]; rfl) (by decide) rfl (fun ls hl => ?_)
              refine lv_goto (tgt := 87) hx hb dX2_makeOrder_137 (by decide) ?_
              have oiw := q_oi_w hx87_1 hx87_0 (by omega) hq (by omega) (by omega) gv40.symm (h_wif wI41 (h_keq rfl (by omega) (by omega)))
              exact ih87 I41 _ _ _ v42 v43 g hI hF (lv_sub hl [2, 3, 4, 5, 1, 0] rfl) (by omega) (by omega) (h_F.wr (h_F.call (h_F.rf : h_F [(353, 999)] z I0 I0) hL87 rfl) eI41 tb39 rfl) (by rw [show (v42.toInt).toNat = v32.toInt.toNat + 1 by omega, show (v43.toInt).toNat = v33.toInt.toNat + 1 by omega]; exact oiw.2) (by rw [show (v42.toInt).toNat = v32.toInt.toNat + 1 by omega]; exact oiw.1) (fun a k ha => (h_upb wI41 ha).trans (hx87_2 a k ha)) (by omega)
      have kc44 : (0 : Int32).toInt = 0 := by decide
      have kc45 : (0 : Int32).toInt = 0 := by decide
      exact loop87_1 _ I0 _ _ _ (0) (0) g hI hF (lv_sub hl [4, 5, 3, 2, 1, 0] rfl) ⟨by decide, by decide⟩ ⟨by decide, by decide⟩ (h_F.rf : h_F [(353, 999)] z I0 I0) (by unfold q_fl; rw [if_pos (by omega)]) (fun k hk => absurd hk (by have h9 : ((0 : Int32).toInt).toNat = 0 := (by decide); omega)) (fun a k _ => rfl) (show (8 - (0 : Int)) < (((8 - (0 : Int)).toNat + 1 : Nat) : Int) by omega)
set_option maxHeartbeats 4000000 in
set_option maxRecDepth 100000 in
theorem tX2_handOutB (l : Launch) (E : tE) (X : tX) (A : Nat → Prop) (z : tZ) (I0 : tI) (L0 : tL) (a0 : Nat) (t_a0 : z.ty a0 = 3) (y : Int32) (y_t : Int) (h_y : y.toInt = y_t) (b_y : 0 ≤ y_t ∧ y_t ≤ 9) (u0 : Nat) (t_u0 : z.ty u0 = 11) (hod : ∀ k : Nat, k < 8 → 0 ≤ (I0 (h_ad z (h_ad z a0 3) y_t.toNat) k).toInt ∧ (I0 (h_ad z (h_ad z a0 3) y_t.toNat) k).toInt ≤ 7) : Met l yX2_handOut wsX2_handOut ({ frames := 2, cells := 0, slots := 0, locals := 128 }) (va_Pc [.ref a0, .int y, .ref u0] (h_P E X A z I0 L0)) (va_Qv (fun (I1 : tI) => h_I z I1 ∧ h_F [(302, 999), (354, 999), (1100, 999), (1101, 999)] z I0 I1 ∧ (∀ k : Nat, I1 (h_ad z a0 2) k = if k = y_t.toNat then 1 else I0 (h_ad z a0 2) k) ∧ (h_hoi I0 I1 (h_ad z u0 0) (h_ad z u0 1) (h_ad z u0 2) (h_ad z (h_ad z a0 4) y_t.toNat) 0 (I0 (h_ad z (h_ad z a0 3) y_t.toNat)) y_t 8) ∧ (∀ a k : Nat, z.ty a = 354 → a ≠ (h_ad z (h_ad z a0 4) y_t.toNat) → I1 a k = I0 a k)) (fun (I1 : tI) t => h_B E A z I1 L0 t) A) 0 0 A := by
  refine Met.ofW (cc := cX2_handOut) (maxL := 4) (ret := none) (by decide) rfl ?_
  intro pr_ ev_ s m args below meth cd_ s₁ B hml hv
  obtain ⟨rfl, hE, hk, hX, hA, hK, hI, hR, hB0⟩ := hv
  have g : h_G h_so h_fk E A z I0 L0 s s.heap s.heap [] := ⟨hK, va_S.rf, hB0⟩
  have hF : h_F [(302, 999), (354, 999), (1100, 999), (1101, 999)] z I0 I0 := h_F.rf
  have hx := B.exec
  have hb := B.bytes
  have hr := B.returns
  have hts := atoms_spec (ws := wsX2_handOut) B.pre
  have hown : s.vm.findClass RX2 = some m.cls := findClass_of_methodNamed B.named
  have hlocks := B.notSynchronized
  have iX2 : ∀ w ∈ u_ws RX2 TX2 7, w ∈ wsX2_handOut := by decide +kernel
  have hl := lv_entry ([.ref a0, .int y, .ref u0]) (n := 4) (Nat.le_of_ble_eq_true rfl)
  rw [lg_entry_eq]
  generalize (lg_sl ([.ref a0, .int y, .ref u0]) ++ List.replicate (4 - (lg_sl ([.ref a0, .int y, .ref u0])).length) Slot.unset).toArray = ls at hl ⊢
  have hl : lv_has ls 4 [(0, .ref a0), (1, .int y), (2, .ref u0)] := hl
  obtain ⟨dr, rdr, tdr⟩ := hR.at a0 2 t_a0 (rfl : h_rs 3 2 = some (302, false)) (by decide)
  have adr : h_ad z a0 2 = dr := h_ad.at rdr
  obtain ⟨od, rod, tod⟩ := hR.at a0 3 t_a0 (rfl : h_rs 3 3 = some (303, false)) (by decide)
  have aod : h_ad z a0 3 = od := h_ad.at rod
  obtain ⟨hs, rhs, ths⟩ := hR.at a0 4 t_a0 (rfl : h_rs 3 4 = some (304, false)) (by decide)
  have ahs : h_ad z a0 4 = hs := h_ad.at rhs
  have ky : y.toNatClampNeg = y_t.toNat := h_keq h_y (by omega) (by omega)
  obtain ⟨hd, rhd, thd⟩ := hR.at u0 0 t_u0 (rfl : h_rs 11 0 = some (1100, false)) (by decide)
  have ahd : h_ad z u0 0 = hd := h_ad.at rhd
  obtain ⟨sh, rsh, tsh⟩ := hR.at u0 1 t_u0 (rfl : h_rs 11 1 = some (1101, false)) (by decide)
  have ash : h_ad z u0 1 = sh := h_ad.at rsh
  obtain ⟨gv, rgv, tgv⟩ := hR.at u0 2 t_u0 (rfl : h_rs 11 2 = some (1102, false)) (by decide)
  have agv : h_ad z u0 2 = gv := h_ad.at rgv
  obtain ⟨ro, rro, tro⟩ := hR.at od y_t.toNat tod (rfl : h_rs 303 _ = some (353, false)) (by rw [so_303]; show _ < 10; omega)
  obtain ⟨rh, rrh, trh⟩ := hR.at hs y_t.toNat ths (rfl : h_rs 304 _ = some (354, false)) (by rw [so_304]; show _ < 10; omega)
  rw [aod, h_ad.at rro] at hod
  obtain ⟨oo, eoo⟩ : ∃ f : Nat → Int32, f = I0 ro := ⟨_, rfl⟩
  refine lv_iload_n hx hb dX2_handOut_0 rfl (lv_at hl 1 rfl) ?_
  refine vp_callSi (xr_of (va_runSN (As := [.int y]) (rest := []) ⟨hx, hb, hml, hown, hts⟩ (tX11_isYear l E X A z I0 L0 y (y_t) h_y) (⟨va_cnB 1 hts gX2_handOut_X11_isYear_n31 rfl rfl rfl (hE.link 10 rfl) (hts (.initialized RX11) (by decide +kernel)) (by decide +kernel) ⟨Nat.le_of_ble_eq_true rfl, Nat.le_of_ble_eq_true rfl⟩, hts (.static yX11_isYear) (by decide +kernel), trivial⟩) ⟨h_blind _ _ _ _ _ _ _, h_pre _ hE hk hX hA hI hR g⟩ rfl rfl hl.1 rfl (lv_room (Nat.le_of_ble_eq_true rfl)) dX2_handOut_1 ⟨Nat.le_of_ble_eq_true rfl, Nat.le_of_ble_eq_true rfl⟩)) (fun rh1 h1 => ?_)
  rcases h1 with ⟨rfl, h1⟩ | ⟨rfl, h1⟩
  · skip
    refine lv_if_ne (tgt := 8) hx hb dX2_handOut_4 (by decide) (fun h => absurd (by decide) h) (fun _ => ?_)
    have hS := g.2.1
    exact W.vret hx hb hr (fun t ht hW => ⟨⟨I0, rfl, ⟨hI, hF, ⟨(by exfalso; omega), (by exfalso; omega), (by exfalso; omega)⟩⟩, h_ret g ht⟩, hS.F ht⟩) hS.2.2 dX2_handOut_7
  · skip
    refine lv_if_ne (tgt := 8) hx hb dX2_handOut_4 (by decide) (fun _ => ?_) (fun h => absurd h (by decide))
    refine lv_aload_n hx hb dX2_handOut_8 rfl (lv_at hl 0 rfl) ?_
    refine h_get (v := .ref dr) hx hb hts iX2 hown g t_a0 (by decide) so_3 rfl 2 (by decide) (hts (.fieldLink RX2 15 "CapLeague$Draft" "drawn" "[Z") (by decide +kernel)) rfl dX2_handOut_9 (by show va_rf (z.R a0 2) = _; rw [rdr]; rfl) ?_
    refine lv_iload_n hx hb dX2_handOut_12 rfl (lv_at hl 1 rfl) ?_
    refine lv_iconst (v := 1) hx hb dX2_handOut_13 (by decide) ?_
    refine h_zast hx hb g tdr (by decide) so_302 (xi_in (by rw [h_y]; omega) (by rw [h_y]; omega)) dX2_handOut_14 (fun I4 H locs eI4 g => ?_)
    rw [h_nz (by decide) (by decide)] at eI4
    have hI := hI.wr eI4 tdr (rfl : h_bd 302 _ = (0, 1)) (by decide) (by decide)
    have hF := hF.wr eI4 tdr rfl
    refine lv_iconst (v := 0) hx hb dX2_handOut_15 (by decide) ?_
    refine lv_istore_n (lv' := [(3, .int 0), (0, .ref a0), (1, .int y), (2, .ref u0)]) hx hb dX2_handOut_16 rfl hl (by decide) rfl (fun ls hl => ?_)
    have loop17_0 : ∀ (n : Nat) (I6 : tI) (H : Heap) (locs : List Loc) (ls : Array Slot) (v5 : Int32), h_G h_so h_fk E A z I6 L0 s s.heap H locs → h_I z I6 → h_F [(302, 999), (354, 999), (1100, 999), (1101, 999)] z I0 I6 → lv_has ls 4 [(0, .ref a0), (1, .int y), (2, .ref u0), (3, .int v5)] → (0 ≤ v5.toInt ∧ v5.toInt ≤ 8) → h_F [(354, 999), (1100, 999), (1101, 999)] z I4 I6 → (h_hoi I0 I6 hd sh gv rh 0 oo y_t (v5.toInt).toNat) → (∀ a k : Nat, z.ty a = 354 → a ≠ rh → I6 a k = I0 a k) → (8 - v5.toInt) < (n : Int) → W pr_ l ev_ (headSpec wsX2_handOut ({ frames := 2, cells := 0, slots := 0, locals := 128 })).room s m ([.ref a0, .int y, .ref u0] : List Value).toArray below meth cd_ H locs 0 0 (MQ below (va_Qv (fun (I1 : tI) => h_I z I1 ∧ h_F [(302, 999), (354, 999), (1100, 999), (1101, 999)] z I0 I1 ∧ (∀ k : Nat, I1 (h_ad z a0 2) k = if k = y_t.toNat then 1 else I0 (h_ad z a0 2) k) ∧ (h_hoi I0 I1 (h_ad z u0 0) (h_ad z u0 1) (h_ad z u0 2) (h_ad z (h_ad z a0 4) y_t.toNat) 0 (I0 (h_ad z (h_ad z a0 3) y_t.toNat)) y_t 8) ∧ (∀ a k : Nat, z.ty a = 354 → a ≠ (h_ad z (h_ad z a0 4) y_t.toNat) → I1 a k = I0 a k)) (fun (I1 : tI) t => h_B E A z I1 L0 t) A) ([.ref a0, .int y, .ref u0] : List Value).toArray s 0 0 A) (F0 m 17 ls []) := by
      intro n
      induction n with
      | zero => intro I6 H locs ls v5 g hI hF hl jv5 hL17 hx17_0 hx17_1 hn; exact absurd hn (by omega)
      | succ n ih17 =>
        intro I6 H locs ls v5 g hI hF hl jv5 hL17 hx17_0 hx17_1 hn
        have kv : v5.toNatClampNeg = v5.toInt.toNat := h_keq rfl (by omega) (by omega)
        refine lv_iload_n hx hb dX2_handOut_17 rfl (lv_at hl 3 rfl) ?_
        refine lv_bipush (v := 8) hx hb dX2_handOut_18 (by decide) ?_
        refine lv_icmp_ge (tgt := 54) hx hb dX2_handOut_20 (by decide) (fun c7 => ?_) (fun c7 => ?_)
        · have ic7 := (xi_le c7 (by decide) rfl : 8 ≤ v5.toInt)
          have hS := g.2.1
          exact W.vret hx hb hr (fun t ht hW => ⟨⟨I6, rfl, ⟨hI, hF, ⟨(by rw [adr]; intro k; by_cases hk : k = y_t.toNat; rw [if_pos hk, hk, ← h_keq (i := y) (t := y_t) (k := y_t.toNat) h_y (by omega) (by omega)]; exact (h_F.at hL17 tdr rfl).trans (h_n0 eI4); rw [if_neg hk]; exact (h_F.at hL17 tdr rfl).trans (h_n2 eI4 (h_kne (t := y_t) h_y (by omega) (by omega)))), (by rw [ahs, h_ad.at rrh, ahd, ash, agv, aod, h_ad.at rro, ← eoo]; have h9 := hx17_0; rw [show v5.toInt.toNat = 8 by omega] at h9; exact h9), (by rw [ahs, h_ad.at rrh]; exact hx17_1)⟩⟩, h_ret g ht⟩, hS.F ht⟩) hS.2.2 dX2_handOut_54
        · have ic7 := (xi_nle c7 (by decide) rfl : v5.toInt < 8)
          refine lv_aload_n hx hb dX2_handOut_23 rfl (lv_at hl 0 rfl) ?_
          refine h_get (v := .ref hs) hx hb hts iX2 hown g t_a0 (by decide) so_3 rfl 4 (by decide) (hts (.fieldLink RX2 24 "CapLeague$Draft" "having" "[[I") (by decide +kernel)) rfl dX2_handOut_24 (by show va_rf (z.R a0 4) = _; rw [rhs]; rfl) ?_
          refine lv_iload_n hx hb dX2_handOut_27 rfl (lv_at hl 1 rfl) ?_
          obtain ⟨b8, rb8, tb8⟩ := hR.at hs y.toNatClampNeg ths (rfl : h_rs 304 _ = some (354, false)) (by rw [so_304]; exact h_lt (n := 10) (xi_in (by rw [h_y]; omega) (by rw [h_y]; omega)))
          refine h_aldA (v := .ref b8) hx hb g ths (by decide) so_304 (xi_in (by rw [h_y]; omega) (by rw [h_y]; omega)) dX2_handOut_28 (by rw [rb8]; rfl) ?_
          refine lv_iload_n hx hb dX2_handOut_29 rfl (lv_at hl 3 rfl) ?_
          refine lv_aload_n hx hb dX2_handOut_30 rfl (lv_at hl 2 rfl) ?_
          refine lv_aload_n hx hb dX2_handOut_31 rfl (lv_at hl 0 rfl) ?_
          refine h_get (v := .ref od) hx hb hts iX2 hown g t_a0 (by decide) so_3 rfl 3 (by decide) (hts (.fieldLink RX2 21 "CapLeague$Draft" "order" "[[I") (by decide +kernel)) rfl dX2_handOut_32 (by show va_rf (z.R a0 3) = _; rw [rod]; rfl) ?_
          refine lv_iload_n hx hb dX2_handOut_35 rfl (lv_at hl 1 rfl) ?_
          obtain ⟨b9, rb9, tb9⟩ := hR.at od y.toNatClampNeg tod (rfl : h_rs 303 _ = some (353, false)) (by rw [so_303]; exact h_lt (n := 10) (xi_in (by rw [h_y]; omega) (by rw [h_y]; omega)))
          refine h_aldA (v := .ref b9) hx hb g tod (by decide) so_303 (xi_in (by rw [h_y]; omega) (by rw [h_y]; omega)) dX2_handOut_36 (by rw [rb9]; rfl) ?_
          refine lv_iload_n hx hb dX2_handOut_37 rfl (lv_at hl 3 rfl) ?_
          refine h_ald hx hb g tb9 (by decide) so_353 (xi_in (by omega) (by omega)) dX2_handOut_38 ?_
          refine lv_topi (fun v10 ev10 => ?_)
          have jv10 := hI.rd b9 v5.toNatClampNeg tb9 ev10 (rfl : h_bd 353 _ = ((-2147483648), 2147483647))
          have eo : b9 = ro := by rw [ky] at rb9; exact Option.some.inj (rb9.symm.trans rro)
          have gv10 : I0 ro v5.toInt.toNat = v10 := by rw [← kv, ev10, eo]; exact (hF.at tro rfl).symm
          have mv10 := hod v5.toInt.toNat (by omega)
          rw [gv10] at mv10
          refine lv_iload_n hx hb dX2_handOut_39 rfl (lv_at hl 1 rfl) ?_
          refine vp_callSi (W.runS (As := [.int v10, .int y]) (rest := [.ref u0, .int v5, .ref b8]) ⟨hx, hb, hml, hown, hts⟩ (tX10_keyR l E X A z I6 L0 v10 (v10.toInt) rfl (by omega) y (y_t) h_y (by omega)) (va_cwS 2 hts gX2_handOut_X10_keyOf rfl rfl rfl (by decide +kernel) ⟨Nat.le_of_ble_eq_true rfl, Nat.le_of_ble_eq_true rfl⟩) ⟨h_blind _ _ _ _ _ _ _, h_pre _ hE hk hX hA hI hR g⟩ rfl rfl hl.1 rfl (lv_room (Nat.le_of_ble_eq_true rfl)) dX2_handOut_40 ⟨Nat.le_of_ble_eq_true rfl, Nat.le_of_ble_eq_true rfl⟩) (fun rh11 h11 => ?_)
          obtain ⟨h11, h11p0⟩ := h11
          refine lv_iload_n hx hb dX2_handOut_43 rfl (lv_at hl 3 rfl) ?_
          refine va_calli (va_runV (As := [.int rh11, .int v5]) (rest := [.int v5, .ref b8]) ⟨hx, hb, hml, hown, hts⟩ (tX10_settleB l E X A z I6 L0 u0 t_u0 rh11 (rh11.toInt) rfl (by omega) v5 (v5.toInt) rfl) (cwV 2 hts gX2_handOut_X10_settle rfl rfl rfl (by decide +kernel) ⟨Nat.le_of_ble_eq_true rfl, Nat.le_of_ble_eq_true rfl⟩) ⟨h_blind _ _ _ _ _ _ _, h_recv g t_u0 (by decide) so_11 (q := (RX10, TX10, 4)) rfl, h_pre _ hE hk hX hA hI hR g⟩ rfl rfl hl.1 rfl (lv_room (Nat.le_of_ble_eq_true rfl)) dX2_handOut_44 ⟨Nat.le_of_ble_eq_true rfl, Nat.le_of_ble_eq_true rfl⟩) g.2.1 (fun q _ h => h) (fun q h => h) (fun rh12 I13 t H1 locs ht hvm h12 hB hz1 hk1 hS => ?_)
          obtain ⟨hI, fh12, h12⟩ := h12
          replace g := h_after g hB ht hS
          generalize H1 = H at g
          clear hB hk1 hz1 ht hvm hS
          have hF := hF.call fh12 rfl
          have h12p0 := h12
          have jrh12 : -2147483648 ≤ rh12.toInt ∧ rh12.toInt ≤ 2147483647 := ⟨xi_lo _, Int.le_of_lt_add_one (xi_hi _)⟩
          rw [ahd, ash, agv] at h12p0
          have kx : (rh11.toInt).toNat = q_ky oo y_t v5.toInt.toNat := by unfold q_ky; rw [eoo, gv10]; omega
          refine h_ast hx hb g tb8 (by decide) so_354 (xi_in (by omega) (by omega)) dX2_handOut_47 (fun I14 H locs eI14 g => ?_)
          have hI := hI.wr eI14 tb8 (rfl : h_bd 354 _ = ((-2147483648), 2147483647)) (xi_lo _) (Int.le_of_lt_add_one (xi_hi _))
          have hF := hF.wr eI14 tb8 rfl
          have eh : b8 = rh := by rw [ky] at rb8; exact Option.some.inj (rb8.symm.trans rrh)
          have wI14 : I14 = h_up I13 rh v5.toNatClampNeg rh12 := by rw [eI14, eh]
          obtain ⟨v15, ev15⟩ : ∃ z : Int32, z = v5 + 1 := ⟨_, rfl⟩
          have jv15 : v15.toInt = v5.toInt + 1 := xi_add ev15 rfl (by decide) (by omega) (by omega)
          refine lv_iinc (v := v15) (lv' := [(3, .int v15), (0, .ref a0), (1, .int y), (2, .ref u0)]) hx hb dX2_handOut_48 hl (k := 3) rfl (by rw [ev15]; rfl) (by decide) rfl (fun ls hl => ?_)
          refine lv_goto (tgt := 17) hx hb dX2_handOut_51 (by decide) ?_
          exact ih17 I14 _ _ _ v15 g hI hF (lv_sub hl [1, 2, 3, 0] rfl) (by omega) (h_F.wr (h_F.call (h_F.call (h_F.rf : h_F [(354, 999), (1100, 999), (1101, 999)] z I4 I4) hL17 rfl) fh12 rfl) eI14 tb8 rfl) (h_hoi.s hx17_0 (by omega : (v15.toInt).toNat = v5.toInt.toNat + 1) kx (by rcases h12p0.2 with ⟨c1, c2, c3⟩ | ⟨c1, c2, c3⟩; exact Or.inl ⟨by omega, fun k => (h_n1 eI14 thd tb8 (by decide)).trans ((c2 k).trans (by rw [show I6 gv (rh11.toInt).toNat = I0 gv (rh11.toInt).toNat from (h_F.at hL17 tgv rfl).trans (h_n1 eI4 tgv tdr (by decide))])), fun k => (h_n1 eI14 tsh tb8 (by decide)).trans (c3 k)⟩; exact Or.inr ⟨by omega, fun k => (h_n1 eI14 thd tb8 (by decide)).trans (c2 k), fun k => (h_n1 eI14 tsh tb8 (by decide)).trans (c3 k)⟩) (h12p0.1.trans (h_n1 eI14 thd tb8 (by decide)).symm) (fun k => by rw [Nat.zero_add]; exact (h_wif wI14 kv k).trans (by rw [show I13 rh k = I6 rh k from h_F.at fh12 trh rfl]))) (fun a k ta ha => (h_upb wI14 ha).trans ((h_F.at fh12 ta rfl).trans (hx17_1 a k ta ha))) (by omega)
    have kc16 : (0 : Int32).toInt = 0 := by decide
    exact loop17_0 _ I4 _ _ _ (0) g hI hF (lv_sub hl [1, 2, 3, 0] rfl) ⟨by decide, by decide⟩ (h_F.rf : h_F [(354, 999), (1100, 999), (1101, 999)] z I4 I4) (h_hoi.z (fun k => h_n1 eI4 thd tdr (by decide)) (fun k => h_n1 eI4 tsh tdr (by decide)) (fun k => h_n1 eI4 trh tdr (by decide))) (fun a k ta _ => h_n1 eI4 ta tdr (by decide)) (show (8 - (0 : Int)) < (((8 - (0 : Int)).toNat + 1 : Nat) : Int) by omega)
set_option maxHeartbeats 4000000 in
set_option maxRecDepth 100000 in
theorem tX11_drawB (l : Launch) (E : tE) (X : tX) (A : Nat → Prop) (z : tZ) (I0 : tI) (L0 : tL) (a0 : Nat) (t_a0 : z.ty a0 = 12) (a : Int32) (a_t : Int) (h_a : a.toInt = a_t) (b : Int32) (b_t : Int) (h_b : b.toInt = b_t) (u_ : Nat → Int) (hcl : ∀ b : Nat, h_of (z.R (h_ad z (h_ad z (h_ad z a0 3) 0) 1)) (h_ad z (h_ad z (h_ad z a0 3) 0) 0) (I0 (h_ad z a0 3) 3).toInt b → h_lw I0 b (h_ad z b 0) (h_ad z b 1) u_) (hok : q_ok u_) (hrk : (I0 (h_ad z a0 7) 1).toInt = 1 → ∀ k : Nat, k < 8 → 0 ≤ (I0 (h_ad z (h_ad z a0 7) 0) k).toInt ∧ (I0 (h_ad z (h_ad z a0 7) 0) k).toInt ≤ 7) : Met l yX11_draw wsX11_draw ({ frames := 4, cells := 0, slots := 0, locals := 256 }) (va_Pc [.ref a0, .int a, .int b] (h_P E X A z I0 L0)) (va_Qi (fun r (I1 : tI) => h_I z I1 ∧ h_F [(353, 999), (302, 999), (354, 999), (1100, 999), (1101, 999), (10, 3), (10, 4)] z I0 I1 ∧ ((¬ q_draws u_ a_t b_t ∧ r.toInt = -2 ∧ I1 = I0) ∨ (q_draws u_ a_t b_t ∧ ((I0 (h_ad z a0 7) 1).toInt = 0 ∨ (I0 (h_ad z (h_ad z a0 7) 2) ((I0 (h_ad z a0 3) 3).toInt).toNat).toInt = 1) ∧ r.toInt = -4 ∧ I1 = I0) ∨ (q_draws u_ a_t b_t ∧ (I0 (h_ad z a0 7) 1).toInt = 1 ∧ (I0 (h_ad z (h_ad z a0 7) 2) ((I0 (h_ad z a0 3) 3).toInt).toNat).toInt = 0 ∧ r.toInt = 1 ∧ (∀ k : Nat, I1 (h_ad z (h_ad z a0 7) 2) k = if k = ((I0 (h_ad z a0 3) 3).toInt).toNat then 1 else I0 (h_ad z (h_ad z a0 7) 2) k) ∧ (∀ k : Nat, k < 8 → I1 (h_ad z (h_ad z (h_ad z a0 7) 3) ((I0 (h_ad z a0 3) 3).toInt).toNat) k = I0 (h_ad z (h_ad z a0 7) 0) (q_od (q_lx u_ a_t) (q_ly u_ a_t b_t) k)) ∧ (∀ a k : Nat, z.ty a = 353 → a ≠ (h_ad z (h_ad z (h_ad z a0 7) 3) ((I0 (h_ad z a0 3) 3).toInt).toNat) → I1 a k = I0 a k) ∧ h_hoi I0 I1 (h_ad z (h_ad z a0 4) 0) (h_ad z (h_ad z a0 4) 1) (h_ad z (h_ad z a0 4) 2) (h_ad z (h_ad z (h_ad z a0 7) 4) ((I0 (h_ad z a0 3) 3).toInt).toNat) 0 (I1 (h_ad z (h_ad z (h_ad z a0 7) 3) ((I0 (h_ad z a0 3) 3).toInt).toNat)) (I0 (h_ad z a0 3) 3).toInt 8 ∧ (∀ a k : Nat, z.ty a = 354 → a ≠ (h_ad z (h_ad z (h_ad z a0 7) 4) ((I0 (h_ad z a0 3) 3).toInt).toNat) → I1 a k = I0 a k) ∧ I1 (h_ad z a0 5) 3 = 0 ∧ I1 (h_ad z a0 5) 4 = 0))) (fun (I1 : tI) t => h_B E A z I1 L0 t) A) 0 0 A := by
  refine Met.ofW (cc := cX11_draw) (maxL := 4) (ret := (some .int)) (by decide) rfl ?_
  intro pr_ ev_ s m args below meth cd_ s₁ B hml hv
  obtain ⟨rfl, hE, hk, hX, hA, hK, hI, hR, hB0⟩ := hv
  have g : h_G h_so h_fk E A z I0 L0 s s.heap s.heap [] := ⟨hK, va_S.rf, hB0⟩
  have hF : h_F [(353, 999), (302, 999), (354, 999), (1100, 999), (1101, 999), (10, 3), (10, 4)] z I0 I0 := h_F.rf
  have hx := B.exec
  have hb := B.bytes
  have hr := B.returns
  have hts := atoms_spec (ws := wsX11_draw) B.pre
  have hown : s.vm.findClass RX11 = some m.cls := findClass_of_methodNamed B.named
  have hlocks := B.notSynchronized
  have iX11 : ∀ w ∈ u_ws RX11 TX11 8, w ∈ wsX11_draw := by decide +kernel
  have iX2 : ∀ w ∈ u_ws RX2 TX2 7, w ∈ wsX11_draw := by decide +kernel
  have iX0 : ∀ w ∈ u_ws RX0 TX0 9, w ∈ wsX11_draw := by decide +kernel
  have hl := lv_entry ([.ref a0, .int a, .int b]) (n := 4) (Nat.le_of_ble_eq_true rfl)
  rw [lg_entry_eq]
  generalize (lg_sl ([.ref a0, .int a, .int b]) ++ List.replicate (4 - (lg_sl ([.ref a0, .int a, .int b])).length) Slot.unset).toArray = ls at hl ⊢
  have hl : lv_has ls 4 [(0, .ref a0), (1, .int a), (2, .int b)] := hl
  have b_a : -2147483648 ≤ a_t ∧ a_t ≤ 2147483647 := h_a ▸ ⟨xi_lo a, Int.le_of_lt_add_one (xi_hi a)⟩
  have b_b : -2147483648 ≤ b_t ∧ b_t ≤ 2147483647 := h_b ▸ ⟨xi_lo b, Int.le_of_lt_add_one (xi_hi b)⟩
  obtain ⟨bk, rbk, tbk⟩ := hR.at a0 3 t_a0 (rfl : h_rs 12 3 = some (1, false)) (by decide)
  have abk : h_ad z a0 3 = bk := h_ad.at rbk
  obtain ⟨lb, rlb, tlb⟩ := hR.at bk 0 tbk (rfl : h_rs 1 0 = some (4, false)) (by decide)
  have alb : h_ad z bk 0 = lb := h_ad.at rlb
  obtain ⟨un, run, tun⟩ := hR.at lb 0 tlb (rfl : h_rs 4 0 = some (6, false)) (by decide)
  have aun : h_ad z lb 0 = un := h_ad.at run
  obtain ⟨tx, rtx, ttx⟩ := hR.at lb 1 tlb (rfl : h_rs 4 1 = some (401, false)) (by decide)
  have atx : h_ad z lb 1 = tx := h_ad.at rtx
  obtain ⟨dt, rdt, tdt⟩ := hR.at a0 7 t_a0 (rfl : h_rs 12 7 = some (3, false)) (by decide)
  have adt : h_ad z a0 7 = dt := h_ad.at rdt
  obtain ⟨dr, rdr, tdr⟩ := hR.at dt 2 tdt (rfl : h_rs 3 2 = some (302, false)) (by decide)
  have adr : h_ad z dt 2 = dr := h_ad.at rdr
  obtain ⟨f0_3, ef0_3⟩ : ∃ v : Int32, v = I0 bk 3 := ⟨_, rfl⟩
  have qf0_3 : (I0 bk 3).toInt = f0_3.toInt := congrArg Int32.toInt ef0_3.symm
  have jf0_3 := hI.rd bk 3 tbk ef0_3 (rfl : h_bd 1 3 = (0, 9))
  obtain ⟨d0_1, ed0_1⟩ : ∃ v : Int32, v = I0 dt 1 := ⟨_, rfl⟩
  have qd0_1 : (I0 dt 1).toInt = d0_1.toInt := congrArg Int32.toInt ed0_1.symm
  have jd0_1 := hI.rd dt 1 tdt ed0_1 (rfl : h_bd 3 1 = (0, 1))
  rw [abk, alb, aun, atx, qf0_3] at hcl
  have d31 : (I0 dr (f0_3.toInt).toNat).toInt = 0 ∨ (I0 dr (f0_3.toInt).toNat).toInt = 1 := by have hq := hI.rd dr (f0_3.toInt).toNat tdr rfl (rfl : h_bd 302 _ = (0, 1)); omega
  obtain ⟨rk, rrk, trk⟩ := hR.at dt 0 tdt (rfl : h_rs 3 0 = some (300, false)) (by decide)
  have ark : h_ad z dt 0 = rk := h_ad.at rrk
  obtain ⟨od, rod, tod⟩ := hR.at dt 3 tdt (rfl : h_rs 3 3 = some (303, false)) (by decide)
  have aod : h_ad z dt 3 = od := h_ad.at rod
  obtain ⟨hs, rhs, ths⟩ := hR.at dt 4 tdt (rfl : h_rs 3 4 = some (304, false)) (by decide)
  have ahs : h_ad z dt 4 = hs := h_ad.at rhs
  obtain ⟨tu, rtu, ttu⟩ := hR.at a0 4 t_a0 (rfl : h_rs 12 4 = some (11, false)) (by decide)
  have atu : h_ad z a0 4 = tu := h_ad.at rtu
  obtain ⟨hd, rhd, thd⟩ := hR.at tu 0 ttu (rfl : h_rs 11 0 = some (1100, false)) (by decide)
  have ahd : h_ad z tu 0 = hd := h_ad.at rhd
  obtain ⟨sh, rsh, tsh⟩ := hR.at tu 1 ttu (rfl : h_rs 11 1 = some (1101, false)) (by decide)
  have ash : h_ad z tu 1 = sh := h_ad.at rsh
  obtain ⟨gv, rgv, tgv⟩ := hR.at tu 2 ttu (rfl : h_rs 11 2 = some (1102, false)) (by decide)
  have agv : h_ad z tu 2 = gv := h_ad.at rgv
  obtain ⟨bg, rbg, tbg⟩ := hR.at a0 5 t_a0 (rfl : h_rs 12 5 = some (10, false)) (by decide)
  have abg : h_ad z a0 5 = bg := h_ad.at rbg
  rw [adt, ark, qd0_1] at hrk
  obtain ⟨ro, rro, tro⟩ := hR.at od (f0_3.toInt).toNat tod (rfl : h_rs 303 _ = some (353, false)) (by rw [so_303]; show _ < 10; omega)
  obtain ⟨rh, rrh, trh⟩ := hR.at hs (f0_3.toInt).toNat ths (rfl : h_rs 304 _ = some (354, false)) (by rw [so_304]; show _ < 10; omega)
  refine lv_aload_n hx hb dX11_draw_0 rfl (lv_at hl 0 rfl) ?_
  refine h_get (v := .ref bk) hx hb hts iX11 hown g t_a0 (by decide) so_12 rfl 3 (by decide) (hts (.fieldLink RX11 37 "CapLeague" "books" "LCapLeague$Books;") (by decide +kernel)) rfl dX11_draw_1 (by show va_rf (z.R a0 3) = _; rw [rbk]; rfl) ?_
  refine va_csq (W.runV (As := []) (rest := []) ⟨hx, hb, hml, hown, hts⟩ (tX0_lawsNowF l E X A z I0 L0 bk tbk) (cwV 0 hts gX11_draw_X0_lawsNow rfl rfl rfl (by decide +kernel) ⟨Nat.le_of_ble_eq_true rfl, Nat.le_of_ble_eq_true rfl⟩) ⟨h_blind _ _ _ _ _ _ _, h_recv g tbk (by decide) so_1 (q := (RX0, TX0, 9)) rfl, h_pre _ hE hk hX hA hI hR g⟩ rfl rfl hl.1 rfl (lv_room (Nat.le_of_ble_eq_true rfl)) dX11_draw_4 ⟨Nat.le_of_ble_eq_true rfl, Nat.le_of_ble_eq_true rfl⟩) (fun rh1 h1 => ?_)
  obtain ⟨h1, h1p0⟩ := h1
  obtain ⟨rh1, rfl, trh1⟩ := h1
  refine xw_v (v := .ref rh1) rfl ?_
  rw [alb, aun, atx, qf0_3] at h1p0
  obtain ⟨bb, ebb, hof⟩ := h1p0
  cases ebb
  have hlb := hcl _ hof
  refine lv_astore_n (lv' := [(3, .ref rh1), (0, .ref a0), (1, .int a), (2, .int b)]) hx hb dX11_draw_7 rfl hl (by decide) rfl (fun ls hl => ?_)
  refine lv_aload_n hx hb dX11_draw_8 rfl (lv_at hl 0 rfl) ?_
  refine lv_iload_n hx hb dX11_draw_9 rfl (lv_at hl 2 rfl) ?_
  refine lv_iload_n hx hb dX11_draw_10 rfl (lv_at hl 3 rfl) ?_
  refine vp_callSi (W.runV (As := [.int a, .int b]) (rest := []) ⟨hx, hb, hml, hown, hts⟩ (tX5_areDrawsF l E X A z I0 L0 rh1 trh1 a (a_t) h_a b (b_t) h_b (u_) (hlb) (hok)) (cwV 2 hts gX11_draw_X5_areDraws rfl rfl rfl (by decide +kernel) ⟨Nat.le_of_ble_eq_true rfl, Nat.le_of_ble_eq_true rfl⟩) ⟨h_blind _ _ _ _ _ _ _, h_recv g trh1 (by decide) so_6 (q := (RX5, TX5, 3)) rfl, h_pre _ hE hk hX hA hI hR g⟩ rfl rfl hl.1 rfl (lv_room (Nat.le_of_ble_eq_true rfl)) dX11_draw_11 ⟨Nat.le_of_ble_eq_true rfl, Nat.le_of_ble_eq_true rfl⟩) (fun rh2 h2 => ?_)
  obtain ⟨h2, h2p0⟩ := h2
  refine lv_if_ne (tgt := 20) hx hb dX11_draw_14 (by decide) (fun c3 => ?_) (fun c3 => ?_)
  · have ic3 := (xi_ne c3 rfl (by decide) : rh2.toInt ≠ 0)
    refine lv_aload_n hx hb dX11_draw_20 rfl (lv_at hl 1 rfl) ?_
    refine h_get (v := .ref dt) hx hb hts iX11 hown g t_a0 (by decide) so_12 rfl 7 (by decide) (hts (.fieldLink RX11 69 "CapLeague" "draft" "LCapLeague$Draft;") (by decide +kernel)) rfl dX11_draw_21 (by show va_rf (z.R a0 7) = _; rw [rdt]; rfl) ?_
    refine h_get (v := .int d0_1) hx hb hts iX2 hown g tdt (by decide) so_3 rfl 1 (by decide) (hts (.fieldLink RX11 257 "CapLeague$Draft" "tableTold" "Z") (by decide +kernel)) rfl dX11_draw_24 (congrArg Value.int (ed0_1.symm)) ?_
    refine lv_if_eq (tgt := 47) hx hb dX11_draw_27 (by decide) (fun c4 => ?_) (fun c4 => ?_)
    · have ic4 := (xi_eq c4 rfl (by decide) : d0_1.toInt = 0)
      refine lv_bipush (v := (-4)) hx hb dX11_draw_47 (by decide) ?_
      have hS := g.2.1
      exact W.iret (v := (-4)) hx hb hr (fun t ht hW => ⟨⟨(-4), I0, rfl, ⟨hI, hF, (by rw [abk, adt, adr, qf0_3, qd0_1]; exact Or.inr (Or.inl ⟨(by rcases h2p0 with q | q; exact q.2; exact absurd q.1 (by omega)), Or.inl (by omega), by decide, rfl⟩))⟩, h_ret g ht⟩, hS.F ht⟩) hS.2.2 dX11_draw_49
    · have ic4 := (xi_ne c4 rfl (by decide) : d0_1.toInt ≠ 0)
      refine lv_aload_n hx hb dX11_draw_30 rfl (lv_at hl 1 rfl) ?_
      refine h_get (v := .ref dt) hx hb hts iX11 hown g t_a0 (by decide) so_12 rfl 7 (by decide) (hts (.fieldLink RX11 69 "CapLeague" "draft" "LCapLeague$Draft;") (by decide +kernel)) rfl dX11_draw_31 (by show va_rf (z.R a0 7) = _; rw [rdt]; rfl) ?_
      refine lv_aload_n hx hb dX11_draw_34 rfl (lv_at hl 1 rfl) ?_
      refine h_get (v := .ref bk) hx hb hts iX11 hown g t_a0 (by decide) so_12 rfl 3 (by decide) (hts (.fieldLink RX11 37 "CapLeague" "books" "LCapLeague$Books;") (by decide +kernel)) rfl dX11_draw_35 (by show va_rf (z.R a0 3) = _; rw [rbk]; rfl) ?_
      refine h_get (v := .int f0_3) hx hb hts iX0 hown g tbk (by decide) so_1 rfl 3 (by decide) (hts (.fieldLink RX11 142 "CapLeague$Books" "clock" "I") (by decide +kernel)) rfl dX11_draw_38 (congrArg Value.int (ef0_3.symm)) ?_
      refine vp_callSi (W.runV (As := [.int f0_3]) (rest := []) ⟨hx, hb, hml, hown, hts⟩ (tX2_isDrawnF l E X A z I0 L0 dt tdt f0_3 (f0_3.toInt) rfl) (cwV 1 hts gX11_draw_X2_isDrawn rfl rfl rfl (by decide +kernel) ⟨Nat.le_of_ble_eq_true rfl, Nat.le_of_ble_eq_true rfl⟩) ⟨h_blind _ _ _ _ _ _ _, h_recv g tdt (by decide) so_3 (q := (RX2, TX2, 7)) rfl, h_pre _ hE hk hX hA hI hR g⟩ rfl rfl hl.1 rfl (lv_room (Nat.le_of_ble_eq_true rfl)) dX11_draw_41 ⟨Nat.le_of_ble_eq_true rfl, Nat.le_of_ble_eq_true rfl⟩) (fun rh5 h5 => ?_)
      obtain ⟨h5, h5p0⟩ := h5
      rw [adr] at h5p0
      refine lv_if_eq (tgt := 50) hx hb dX11_draw_44 (by decide) (fun c6 => ?_) (fun c6 => ?_)
      · have ic6 := (xi_eq c6 rfl (by decide) : rh5.toInt = 0)
        refine lv_aload_n hx hb dX11_draw_50 rfl (lv_at hl 1 rfl) ?_
        refine h_get (v := .ref dt) hx hb hts iX11 hown g t_a0 (by decide) so_12 rfl 7 (by decide) (hts (.fieldLink RX11 69 "CapLeague" "draft" "LCapLeague$Draft;") (by decide +kernel)) rfl dX11_draw_51 (by show va_rf (z.R a0 7) = _; rw [rdt]; rfl) ?_
        refine lv_aload_n hx hb dX11_draw_54 rfl (lv_at hl 1 rfl) ?_
        refine h_get (v := .ref bk) hx hb hts iX11 hown g t_a0 (by decide) so_12 rfl 3 (by decide) (hts (.fieldLink RX11 37 "CapLeague" "books" "LCapLeague$Books;") (by decide +kernel)) rfl dX11_draw_55 (by show va_rf (z.R a0 3) = _; rw [rbk]; rfl) ?_
        refine h_get (v := .int f0_3) hx hb hts iX0 hown g tbk (by decide) so_1 rfl 3 (by decide) (hts (.fieldLink RX11 142 "CapLeague$Books" "clock" "I") (by decide +kernel)) rfl dX11_draw_58 (congrArg Value.int (ef0_3.symm)) ?_
        refine lv_aload_n hx hb dX11_draw_61 rfl (lv_at hl 0 rfl) ?_
        refine lv_iload_n hx hb dX11_draw_62 rfl (lv_at hl 2 rfl) ?_
        refine lv_iload_n hx hb dX11_draw_63 rfl (lv_at hl 3 rfl) ?_
        refine va_callv (va_runV (As := [.int f0_3, .ref rh1, .int a, .int b]) (rest := []) ⟨hx, hb, hml, hown, hts⟩ (tX2_orderB l E X A z I0 L0 dt tdt f0_3 (f0_3.toInt) rfl (by omega) rh1 trh1 a (a_t) h_a b (b_t) h_b (u_) (hlb) (hok) ((by rcases h2p0 with q | q; exact q.2; exact absurd q.1 (by omega)))) (cwV 4 hts gX11_draw_X2_makeOrder rfl rfl rfl (by decide +kernel) ⟨Nat.le_of_ble_eq_true rfl, Nat.le_of_ble_eq_true rfl⟩) ⟨h_blind _ _ _ _ _ _ _, h_recv g tdt (by decide) so_3 (q := (RX2, TX2, 7)) rfl, h_pre _ hE hk hX hA hI hR g⟩ rfl rfl hl.1 rfl (lv_room (Nat.le_of_ble_eq_true rfl)) dX11_draw_64 ⟨Nat.le_of_ble_eq_true rfl, Nat.le_of_ble_eq_true rfl⟩) g.2.1 (fun q _ h => h) (fun q h => h) (fun I8 t H1 locs ht hvm h7 hB hz1 hk1 hS => ?_)
        obtain ⟨hI, fh7, h7⟩ := h7
        replace g := h_after g hB ht hS
        generalize H1 = H at g
        clear hB hk1 hz1 ht hvm hS
        have hF := hF.call fh7 rfl
        obtain ⟨h7p0, h7p1⟩ := h7
        rw [ark, aod, h_ad.at rro] at h7p0
        rw [aod, h_ad.at rro] at h7p1
        refine lv_aload_n hx hb dX11_draw_67 rfl (lv_at hl 1 rfl) ?_
        refine h_get (v := .ref dt) hx hb hts iX11 hown g t_a0 (by decide) so_12 rfl 7 (by decide) (hts (.fieldLink RX11 69 "CapLeague" "draft" "LCapLeague$Draft;") (by decide +kernel)) rfl dX11_draw_68 (by show va_rf (z.R a0 7) = _; rw [rdt]; rfl) ?_
        refine lv_aload_n hx hb dX11_draw_71 rfl (lv_at hl 1 rfl) ?_
        refine h_get (v := .ref bk) hx hb hts iX11 hown g t_a0 (by decide) so_12 rfl 3 (by decide) (hts (.fieldLink RX11 37 "CapLeague" "books" "LCapLeague$Books;") (by decide +kernel)) rfl dX11_draw_72 (by show va_rf (z.R a0 3) = _; rw [rbk]; rfl) ?_
        refine h_get (v := .int f0_3) hx hb hts iX0 hown g tbk (by decide) so_1 rfl 3 (by decide) (hts (.fieldLink RX11 142 "CapLeague$Books" "clock" "I") (by decide +kernel)) rfl dX11_draw_75 (congrArg Value.int ((h_F.at fh7 tbk rfl).trans (ef0_3.symm))) ?_
        refine lv_aload_n hx hb dX11_draw_78 rfl (lv_at hl 1 rfl) ?_
        refine h_get (v := .ref tu) hx hb hts iX11 hown g t_a0 (by decide) so_12 rfl 4 (by decide) (hts (.fieldLink RX11 44 "CapLeague" "turns" "LCapLeague$Turns;") (by decide +kernel)) rfl dX11_draw_79 (by show va_rf (z.R a0 4) = _; rw [rtu]; rfl) ?_
        refine va_callv (va_runV (As := [.int f0_3, .ref tu]) (rest := []) ⟨hx, hb, hml, hown, hts⟩ (tX2_handOutB l E X A z I8 L0 dt tdt f0_3 (f0_3.toInt) rfl (by omega) tu ttu (by rw [aod, h_ad.at rro]; exact fun k hk => by rw [h7p0 k hk]; exact hrk (by omega) _ (q_od_lt (q_lxq hok (by rcases h2p0 with q | q; exact q.2; exact absurd q.1 (by omega))) hk))) (cwV 2 hts gX11_draw_X2_handOut rfl rfl rfl (by decide +kernel) ⟨Nat.le_of_ble_eq_true rfl, Nat.le_of_ble_eq_true rfl⟩) ⟨h_blind _ _ _ _ _ _ _, h_recv g tdt (by decide) so_3 (q := (RX2, TX2, 7)) rfl, h_pre _ hE hk hX hA hI hR g⟩ rfl rfl hl.1 rfl (lv_room (Nat.le_of_ble_eq_true rfl)) dX11_draw_82 ⟨Nat.le_of_ble_eq_true rfl, Nat.le_of_ble_eq_true rfl⟩) g.2.1 (fun q _ h => h) (fun q h => h) (fun I10 t H1 locs ht hvm h9 hB hz1 hk1 hS => ?_)
        obtain ⟨hI, fh9, h9⟩ := h9
        replace g := h_after g hB ht hS
        generalize H1 = H at g
        clear hB hk1 hz1 ht hvm hS
        have hF := hF.call fh9 rfl
        obtain ⟨h9p0, h9p1, h9p2⟩ := h9
        rw [adr] at h9p0
        rw [ahs, h_ad.at rrh] at h9p1
        rw [ahd, ash, agv, aod, h_ad.at rro] at h9p1
        rw [ahs, h_ad.at rrh] at h9p2
        have ho1 := h_hoi.fr (funext (fun k => h_F.at fh7 thd rfl) : I8 hd = I0 hd) (funext (fun k => h_F.at fh7 tsh rfl) : I8 sh = I0 sh) (funext (fun k => h_F.at fh7 tgv rfl) : I8 gv = I0 gv) (funext (fun k => h_F.at fh7 trh rfl) : I8 rh = I0 rh) h9p1
        refine lv_aload_n hx hb dX11_draw_85 rfl (lv_at hl 1 rfl) ?_
        refine h_get (v := .ref bg) hx hb hts iX11 hown g t_a0 (by decide) so_12 rfl 5 (by decide) (hts (.fieldLink RX11 53 "CapLeague" "bargain" "LCapLeague$Trade;") (by decide +kernel)) rfl dX11_draw_86 (by show va_rf (z.R a0 5) = _; rw [rbg]; rfl) ?_
        refine va_callv (va_runV (As := []) (rest := []) ⟨hx, hb, hml, hown, hts⟩ (tX9_clearB l E X A z I10 L0 bg tbg) (cwV 0 hts gX11_draw_X9_clear rfl rfl rfl (by decide +kernel) ⟨Nat.le_of_ble_eq_true rfl, Nat.le_of_ble_eq_true rfl⟩) ⟨h_blind _ _ _ _ _ _ _, h_recv g tbg (by decide) so_10 (q := (RX9, TX9, 10)) rfl, h_pre _ hE hk hX hA hI hR g⟩ rfl rfl hl.1 rfl (lv_room (Nat.le_of_ble_eq_true rfl)) dX11_draw_89 ⟨Nat.le_of_ble_eq_true rfl, Nat.le_of_ble_eq_true rfl⟩) g.2.1 (fun q _ h => h) (fun q h => h) (fun I12 t H1 locs ht hvm h11 hB hz1 hk1 hS => ?_)
        obtain ⟨hI, fh11, h11⟩ := h11
        replace g := h_after g hB ht hS
        generalize H1 = H at g
        clear hB hk1 hz1 ht hvm hS
        have hF := hF.call fh11 rfl
        have h11p0 := h11
        refine lv_iconst (v := 1) hx hb dX11_draw_92 (by decide) ?_
        have hS := g.2.1
        exact W.iret (v := 1) hx hb hr (fun t ht hW => ⟨⟨1, I12, rfl, ⟨hI, hF, (by rw [abk, adt, adr, qf0_3, qd0_1]; rw [aod, ahs, h_ad.at rro, h_ad.at rrh, ark, atu, ahd, ash, agv, abg]; exact Or.inr (Or.inr ⟨(by rcases h2p0 with q | q; exact q.2; exact absurd q.1 (by omega)), by omega, (by rcases h5p0 with q | q; omega; omega), by decide, (fun k => (h_F.at fh11 tdr rfl).trans ((h9p0 k).trans (by rw [show I8 dr k = I0 dr k from h_F.at fh7 tdr rfl]))), (fun k hk => by rw [(funext (fun k => (h_F.at fh11 tro rfl).trans (h_F.at fh9 tro rfl)) : I12 ro = I8 ro)]; exact h7p0 k hk), (fun a k ta ha => (h_F.at fh11 ta rfl).trans ((h_F.at fh9 ta rfl).trans (h7p1 a k ha))), (by rw [(funext (fun k => (h_F.at fh11 tro rfl).trans (h_F.at fh9 tro rfl)) : I12 ro = I8 ro)]; exact ho1.c (fun k => h_F.at fh11 thd rfl) (fun k => h_F.at fh11 tsh rfl) (fun k => h_F.at fh11 trh rfl)), (fun a k ta ha => (h_F.at fh11 ta rfl).trans ((h9p2 a k ta ha).trans (h_F.at fh7 ta rfl))), h11p0.1, h11p0.2⟩))⟩, h_ret g ht⟩, hS.F ht⟩) hS.2.2 dX11_draw_93
      · have ic6 := (xi_ne c6 rfl (by decide) : rh5.toInt ≠ 0)
        refine lv_bipush (v := (-4)) hx hb dX11_draw_47 (by decide) ?_
        have hS := g.2.1
        exact W.iret (v := (-4)) hx hb hr (fun t ht hW => ⟨⟨(-4), I0, rfl, ⟨hI, hF, (by rw [abk, adt, adr, qf0_3, qd0_1]; exact Or.inr (Or.inl ⟨(by rcases h2p0 with q | q; exact q.2; exact absurd q.1 (by omega)), Or.inr (by rcases h5p0 with q | q; omega; omega), by decide, rfl⟩))⟩, h_ret g ht⟩, hS.F ht⟩) hS.2.2 dX11_draw_49
  · have ic3 := (xi_eq c3 rfl (by decide) : rh2.toInt = 0)
    refine lv_bipush (v := (-2)) hx hb dX11_draw_17 (by decide) ?_
    have hS := g.2.1
    exact W.iret (v := (-2)) hx hb hr (fun t ht hW => ⟨⟨(-2), I0, rfl, ⟨hI, hF, (by rw [abk, adt, adr, qf0_3, qd0_1]; exact Or.inl ⟨(by rcases h2p0 with q | q; exact absurd q.1 (by omega); exact q.2), by decide, rfl⟩)⟩, h_ret g ht⟩, hS.F ht⟩) hS.2.2 dX11_draw_19

