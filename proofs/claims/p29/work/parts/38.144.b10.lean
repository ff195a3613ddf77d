set_option maxHeartbeats 4000000 in
set_option maxRecDepth 100000 in
theorem tX12_hurtB (l : Launch) (E : tE) (X : tX) (A : Nat → Prop) (z : tZ) (I0 : tI) (L0 : tL) (a0 : Nat) (t_a0 : z.ty a0 = 13) (p : Int32) (p_t : Int) (h_p : p.toInt = p_t) (h : Int32) (h_t : Int) (h_h : h.toInt = h_t) (b_h : 0 ≤ h_t ∧ h_t ≤ 1) : Met l yX12_hurt wsX12_hurt ({ frames := 3, cells := 0, slots := 0, locals := 192 }) (va_Pc [.ref a0, .int p, .int h] (h_P E X A z I0 L0)) (va_Qi (fun r (I1 : tI) => h_I z I1 ∧ h_F [(1322, 999)] z I0 I1 ∧ ((¬ (0 ≤ p_t ∧ p_t < (I0 a0 13).toInt) ∧ r.toInt = -2 ∧ I1 = I0) ∨ ((0 ≤ p_t ∧ p_t < (I0 a0 13).toInt) ∧ (((I0 (h_ad z a0 22) p_t.toNat).toInt = h_t ∧ r.toInt = 0) ∨ ((I0 (h_ad z a0 22) p_t.toNat).toInt ≠ h_t ∧ r.toInt = 1)) ∧ I1 = h_up I0 (h_ad z a0 22) p_t.toNat h))) (fun (I1 : tI) t => h_B E A z I1 L0 t) A) 0 0 A := by
  refine Met.ofW (cc := cX12_hurt) (maxL := 4) (ret := (some .int)) (by decide) rfl ?_
  intro pr_ ev_ s m args below meth cd_ s₁ B hml hv
  obtain ⟨rfl, hE, hk, hX, hA, hK, hI, hR, hB0⟩ := hv
  have g : h_G h_so h_fk E A z I0 L0 s s.heap s.heap [] := ⟨hK, va_S.rf, hB0⟩
  have hF : h_F [(1322, 999)] z I0 I0 := h_F.rf
  have hx := B.exec
  have hb := B.bytes
  have hr := B.returns
  have hts := atoms_spec (ws := wsX12_hurt) B.pre
  have hown : s.vm.findClass RX12 = some m.cls := findClass_of_methodNamed B.named
  have hlocks := B.notSynchronized
  have iX12 : ∀ w ∈ u_ws RX12 TX12 51, w ∈ wsX12_hurt := by decide +kernel
  have hl := lv_entry ([.ref a0, .int p, .int h]) (n := 4) (Nat.le_of_ble_eq_true rfl)
  rw [lg_entry_eq]
  generalize (lg_sl ([.ref a0, .int p, .int h]) ++ List.replicate (4 - (lg_sl ([.ref a0, .int p, .int h])).length) Slot.unset).toArray = ls at hl ⊢
  have hl : lv_has ls 4 [(0, .ref a0), (1, .int p), (2, .int h)] := hl
  have b_p : -2147483648 ≤ p_t ∧ p_t ≤ 2147483647 := h_p ▸ ⟨xi_lo p, Int.le_of_lt_add_one (xi_hi p)⟩
  obtain ⟨hu, rhu, thu⟩ := hR.at a0 22 t_a0 (rfl : h_rs 13 22 = some (1322, false)) (by decide)
  have ahu : h_ad z a0 22 = hu := h_ad.at rhu
  obtain ⟨xhu, exhu⟩ : ∃ v : Int32, v = I0 hu p.toNatClampNeg := ⟨_, rfl⟩
  have jxhu := hI.rd hu p.toNatClampNeg thu exhu (rfl : h_bd 1322 _ = (0, 1))
  obtain ⟨f0_13, ef0_13⟩ : ∃ v : Int32, v = I0 a0 13 := ⟨_, rfl⟩
  have qf0_13 : (I0 a0 13).toInt = f0_13.toInt := congrArg Int32.toInt ef0_13.symm
  have jf0_13 := hI.rd a0 13 t_a0 ef0_13 (rfl : h_bd 13 13 = (0, 60))
  refine lv_aload_n hx hb dX12_hurt_0 rfl (lv_at hl 0 rfl) ?_
  refine lv_iload_n hx hb dX12_hurt_1 rfl (lv_at hl 1 rfl) ?_
  refine vp_callSi (W.runV (As := [.int p]) (rest := []) ⟨hx, hb, hml, hown, hts⟩ (tX12_isPlayerF l E X A z I0 L0 a0 t_a0 p (p_t) h_p) (cwV 1 hts gX12_hurt_X12_isPlayer rfl rfl rfl (by decide +kernel) ⟨Nat.le_of_ble_eq_true rfl, Nat.le_of_ble_eq_true rfl⟩) ⟨h_blind _ _ _ _ _ _ _, h_recv g t_a0 (by decide) so_13 (q := (RX12, TX12, 51)) rfl, h_pre _ hE hk hX hA hI hR g⟩ rfl rfl hl.1 rfl (lv_room (Nat.le_of_ble_eq_true rfl)) dX12_hurt_2 ⟨Nat.le_of_ble_eq_true rfl, Nat.le_of_ble_eq_true rfl⟩) (fun rh1 h1 => ?_)
  rcases h1 with ⟨rfl, h1⟩ | ⟨rfl, h1⟩
  · skip
    refine lv_if_ne (tgt := 11) hx hb dX12_hurt_5 (by decide) (fun h => absurd (by decide) h) (fun _ => ?_)
    refine lv_bipush (v := (-2)) hx hb dX12_hurt_8 (by decide) ?_
    have hS := g.2.1
    exact W.iret (v := (-2)) hx hb hr (fun t ht hW => ⟨⟨(-2), I0, rfl, ⟨hI, hF, (Or.inl ⟨by omega, by decide, rfl⟩)⟩, h_ret g ht⟩, hS.F ht⟩) hS.2.2 dX12_hurt_10
  · skip
    have kp : p.toNatClampNeg = p_t.toNat := h_keq h_p (by omega) (by omega)
    refine lv_if_ne (tgt := 11) hx hb dX12_hurt_5 (by decide) (fun _ => ?_) (fun h => absurd h (by decide))
    refine lv_aload_n hx hb dX12_hurt_11 rfl (lv_at hl 0 rfl) ?_
    refine h_get (v := .ref hu) hx hb hts iX12 hown g t_a0 (by decide) so_13 rfl 22 (by decide) (hts (.fieldLink RX12 49 "CapLeagueModel" "isHurt" "[Z") (by decide +kernel)) rfl dX12_hurt_12 (by show va_rf (z.R a0 22) = _; rw [rhu]; rfl) ?_
    refine lv_iload_n hx hb dX12_hurt_15 rfl (lv_at hl 1 rfl) ?_
    refine h_zald hx hb g thu (by decide) so_1322 (xi_in (by rw [h_p]; omega) (by rw [h_p]; omega)) dX12_hurt_16 ?_
    refine xw_i (exhu.symm) ?_
    refine lv_istore_n (lv' := [(3, .int xhu), (0, .ref a0), (1, .int p), (2, .int h)]) hx hb dX12_hurt_17 rfl hl (by decide) rfl (fun ls hl => ?_)
    refine lv_aload_n hx hb dX12_hurt_18 rfl (lv_at hl 1 rfl) ?_
    refine h_get (v := .ref hu) hx hb hts iX12 hown g t_a0 (by decide) so_13 rfl 22 (by decide) (hts (.fieldLink RX12 49 "CapLeagueModel" "isHurt" "[Z") (by decide +kernel)) rfl dX12_hurt_19 (by show va_rf (z.R a0 22) = _; rw [rhu]; rfl) ?_
    refine lv_iload_n hx hb dX12_hurt_22 rfl (lv_at hl 2 rfl) ?_
    refine lv_iload_n hx hb dX12_hurt_23 rfl (lv_at hl 3 rfl) ?_
    refine h_zast hx hb g thu (by decide) so_1322 (xi_in (by rw [h_p]; omega) (by rw [h_p]; omega)) dX12_hurt_24 (fun I4 H locs eI4 g => ?_)
    rw [h_nz (by rw [h_h]; omega) (by rw [h_h]; omega)] at eI4
    have hI := hI.wr eI4 thu (rfl : h_bd 1322 _ = (0, 1)) (by rw [h_h]; omega) (by rw [h_h]; omega)
    have hF := hF.wr eI4 thu rfl
    refine lv_iload_n hx hb dX12_hurt_25 rfl (lv_at hl 0 rfl) ?_
    refine lv_iload_n hx hb dX12_hurt_26 rfl (lv_at hl 3 rfl) ?_
    refine lv_icmp_eq (tgt := 34) hx hb dX12_hurt_27 (by decide) (fun c5 => ?_) (fun c5 => ?_)
    · have ic5 := (xi_eq c5 rfl h_h : xhu.toInt = h_t)
      refine lv_iconst (v := 0) hx hb dX12_hurt_34 (by decide) ?_
      have hS := g.2.1
      exact W.iret (v := 0) hx hb hr (fun t ht hW => ⟨⟨0, I4, rfl, ⟨hI, hF, (by rw [ahu, ← kp, ← exhu]; have z9 : (0 : Int32).toInt = 0 := (by decide); exact Or.inr ⟨by omega, by omega, eI4⟩)⟩, h_ret g ht⟩, hS.F ht⟩) hS.2.2 dX12_hurt_35
    · have ic5 := (xi_ne c5 rfl h_h : xhu.toInt ≠ h_t)
      refine lv_iconst (v := 1) hx hb dX12_hurt_30 (by decide) ?_
      refine lv_goto (tgt := 35) hx hb dX12_hurt_31 (by decide) ?_
      have hS := g.2.1
      exact W.iret (v := 1) hx hb hr (fun t ht hW => ⟨⟨1, I4, rfl, ⟨hI, hF, (by rw [ahu, ← kp, ← exhu]; have z9 : (1 : Int32).toInt = 1 := (by decide); exact Or.inr ⟨by omega, by omega, eI4⟩)⟩, h_ret g ht⟩, hS.F ht⟩) hS.2.2 dX12_hurt_35
set_option maxHeartbeats 4000000 in
set_option maxRecDepth 100000 in
theorem tX12_chooseB (l : Launch) (E : tE) (X : tX) (A : Nat → Prop) (z : tZ) (I0 : tI) (L0 : tL) (a0 : Nat) (t_a0 : z.ty a0 = 13) (p : Int32) (p_t : Int) (h_p : p.toInt = p_t) : Met l yX12_choose wsX12_choose ({ frames := 3, cells := 0, slots := 0, locals := 192 }) (va_Pc [.ref a0, .int p] (h_P E X A z I0 L0)) (va_Qi (fun r (I1 : tI) => h_I z I1 ∧ h_F [(1321, 999)] z I0 I1 ∧ ((¬ (0 ≤ p_t ∧ p_t < (I0 a0 13).toInt) ∧ r.toInt = -2 ∧ I1 = I0) ∨ ((0 ≤ p_t ∧ p_t < (I0 a0 13).toInt) ∧ ((I0 (h_ad z a0 14) p_t.toNat).toInt ≠ -1 ∧ ((I0 (h_ad z a0 20) p_t.toNat).toInt ≠ 0 ∧ (I0 (h_ad z a0 21) p_t.toNat).toInt = 0) ∧ (I0 (h_ad z a0 16) p_t.toNat).toInt = (I0 a0 12).toInt + 1) ∧ r.toInt = 1 ∧ I1 = h_up I0 (h_ad z a0 21) p_t.toNat 1) ∨ ((0 ≤ p_t ∧ p_t < (I0 a0 13).toInt) ∧ ¬ ((I0 (h_ad z a0 14) p_t.toNat).toInt ≠ -1 ∧ ((I0 (h_ad z a0 20) p_t.toNat).toInt ≠ 0 ∧ (I0 (h_ad z a0 21) p_t.toNat).toInt = 0) ∧ (I0 (h_ad z a0 16) p_t.toNat).toInt = (I0 a0 12).toInt + 1) ∧ r.toInt = -4 ∧ I1 = I0))) (fun (I1 : tI) t => h_B E A z I1 L0 t) A) 0 0 A := by
  refine Met.ofW (cc := cX12_choose) (maxL := 2) (ret := (some .int)) (by decide) rfl ?_
  intro pr_ ev_ s m args below meth cd_ s₁ B hml hv
  obtain ⟨rfl, hE, hk, hX, hA, hK, hI, hR, hB0⟩ := hv
  have g : h_G h_so h_fk E A z I0 L0 s s.heap s.heap [] := ⟨hK, va_S.rf, hB0⟩
  have hF : h_F [(1321, 999)] z I0 I0 := h_F.rf
  have hx := B.exec
  have hb := B.bytes
  have hr := B.returns
  have hts := atoms_spec (ws := wsX12_choose) B.pre
  have hown : s.vm.findClass RX12 = some m.cls := findClass_of_methodNamed B.named
  have hlocks := B.notSynchronized
  have iX12 : ∀ w ∈ u_ws RX12 TX12 51, w ∈ wsX12_choose := by decide +kernel
  have hl := lv_entry ([.ref a0, .int p]) (n := 2) (Nat.le_of_ble_eq_true rfl)
  rw [lg_entry_eq]
  generalize (lg_sl ([.ref a0, .int p]) ++ List.replicate (2 - (lg_sl ([.ref a0, .int p])).length) Slot.unset).toArray = ls at hl ⊢
  have hl : lv_has ls 2 [(0, .ref a0), (1, .int p)] := hl
  have b_p : -2147483648 ≤ p_t ∧ p_t ≤ 2147483647 := h_p ▸ ⟨xi_lo p, Int.le_of_lt_add_one (xi_hi p)⟩
  obtain ⟨cb, rcb, tcb⟩ := hR.at a0 14 t_a0 (rfl : h_rs 13 14 = some (1314, false)) (by decide)
  have acb : h_ad z a0 14 = cb := h_ad.at rcb
  obtain ⟨hc, rhc, thc⟩ := hR.at a0 20 t_a0 (rfl : h_rs 13 20 = some (1320, false)) (by decide)
  have ahc : h_ad z a0 20 = hc := h_ad.at rhc
  obtain ⟨it, rit, tit⟩ := hR.at a0 21 t_a0 (rfl : h_rs 13 21 = some (1321, false)) (by decide)
  have ait : h_ad z a0 21 = it := h_ad.at rit
  obtain ⟨la, rla, tla⟩ := hR.at a0 16 t_a0 (rfl : h_rs 13 16 = some (1316, false)) (by decide)
  have ala : h_ad z a0 16 = la := h_ad.at rla
  obtain ⟨xcb, excb⟩ : ∃ v : Int32, v = I0 cb p.toNatClampNeg := ⟨_, rfl⟩
  have jxcb := hI.rd cb p.toNatClampNeg tcb excb (rfl : h_bd 1314 _ = ((-1), 7))
  obtain ⟨xhc, exhc⟩ : ∃ v : Int32, v = I0 hc p.toNatClampNeg := ⟨_, rfl⟩
  have jxhc := hI.rd hc p.toNatClampNeg thc exhc (rfl : h_bd 1320 _ = (0, 1))
  obtain ⟨xit, exit⟩ : ∃ v : Int32, v = I0 it p.toNatClampNeg := ⟨_, rfl⟩
  have jxit := hI.rd it p.toNatClampNeg tit exit (rfl : h_bd 1321 _ = (0, 1))
  obtain ⟨xla, exla⟩ : ∃ v : Int32, v = I0 la p.toNatClampNeg := ⟨_, rfl⟩
  have jxla := hI.rd la p.toNatClampNeg tla exla (rfl : h_bd 1316 _ = ((-2147483648), 2147483647))
  obtain ⟨f0_12, ef0_12⟩ : ∃ v : Int32, v = I0 a0 12 := ⟨_, rfl⟩
  have qf0_12 : (I0 a0 12).toInt = f0_12.toInt := congrArg Int32.toInt ef0_12.symm
  have jf0_12 := hI.rd a0 12 t_a0 ef0_12 (rfl : h_bd 13 12 = (0, 9))
  obtain ⟨f0_13, ef0_13⟩ : ∃ v : Int32, v = I0 a0 13 := ⟨_, rfl⟩
  have qf0_13 : (I0 a0 13).toInt = f0_13.toInt := congrArg Int32.toInt ef0_13.symm
  have jf0_13 := hI.rd a0 13 t_a0 ef0_13 (rfl : h_bd 13 13 = (0, 60))
  refine lv_aload_n hx hb dX12_choose_0 rfl (lv_at hl 0 rfl) ?_
  refine lv_iload_n hx hb dX12_choose_1 rfl (lv_at hl 1 rfl) ?_
  refine vp_callSi (W.runV (As := [.int p]) (rest := []) ⟨hx, hb, hml, hown, hts⟩ (tX12_isPlayerF l E X A z I0 L0 a0 t_a0 p (p_t) h_p) (cwV 1 hts gX12_choose_X12_isPlayer rfl rfl rfl (by decide +kernel) ⟨Nat.le_of_ble_eq_true rfl, Nat.le_of_ble_eq_true rfl⟩) ⟨h_blind _ _ _ _ _ _ _, h_recv g t_a0 (by decide) so_13 (q := (RX12, TX12, 51)) rfl, h_pre _ hE hk hX hA hI hR g⟩ rfl rfl hl.1 rfl (lv_room (Nat.le_of_ble_eq_true rfl)) dX12_choose_2 ⟨Nat.le_of_ble_eq_true rfl, Nat.le_of_ble_eq_true rfl⟩) (fun rh1 h1 => ?_)
  rcases h1 with ⟨rfl, h1⟩ | ⟨rfl, h1⟩
  · skip
    refine lv_if_ne (tgt := 11) hx hb dX12_choose_5 (by decide) (fun h => absurd (by decide) h) (fun _ => ?_)
    refine lv_bipush (v := (-2)) hx hb dX12_choose_8 (by decide) ?_
    have hS := g.2.1
    exact W.iret (v := (-2)) hx hb hr (fun t ht hW => ⟨⟨(-2), I0, rfl, ⟨hI, hF, (Or.inl ⟨by omega, by decide, rfl⟩)⟩, h_ret g ht⟩, hS.F ht⟩) hS.2.2 dX12_choose_10
  · skip
    have kp : p.toNatClampNeg = p_t.toNat := h_keq h_p (by omega) (by omega)
    refine lv_if_ne (tgt := 11) hx hb dX12_choose_5 (by decide) (fun _ => ?_) (fun h => absurd h (by decide))
    refine lv_aload_n hx hb dX12_choose_11 rfl (lv_at hl 0 rfl) ?_
    refine h_get (v := .ref cb) hx hb hts iX12 hown g t_a0 (by decide) so_13 rfl 14 (by decide) (hts (.fieldLink RX12 25 "CapLeagueModel" "clubOf" "[I") (by decide +kernel)) rfl dX12_choose_12 (by show va_rf (z.R a0 14) = _; rw [rcb]; rfl) ?_
    refine lv_iload_n hx hb dX12_choose_15 rfl (lv_at hl 1 rfl) ?_
    refine h_ald hx hb g tcb (by decide) so_1314 (xi_in (by rw [h_p]; omega) (by rw [h_p]; omega)) dX12_choose_16 ?_
    refine xw_i (excb.symm) ?_
    refine lv_iconst (v := (-1)) hx hb dX12_choose_17 (by decide) ?_
    refine lv_icmp_eq (tgt := 54) hx hb dX12_choose_18 (by decide) (fun c4 => ?_) (fun c4 => ?_)
    · have ic4 := (xi_eq c4 rfl (by decide) : xcb.toInt = (-1))
      refine lv_bipush (v := (-4)) hx hb dX12_choose_54 (by decide) ?_
      have hS := g.2.1
      exact W.iret (v := (-4)) hx hb hr (fun t ht hW => ⟨⟨(-4), I0, rfl, ⟨hI, hF, (by rw [acb, ahc, ait, ala, ← kp, ← excb, ← exhc, ← exit, ← exla, qf0_12]; exact Or.inr (Or.inr ⟨by omega, by omega, by decide, rfl⟩))⟩, h_ret g ht⟩, hS.F ht⟩) hS.2.2 dX12_choose_56
    · have ic4 := (xi_ne c4 rfl (by decide) : xcb.toInt ≠ (-1))
      refine lv_aload_n hx hb dX12_choose_21 rfl (lv_at hl 0 rfl) ?_
      refine h_get (v := .ref hc) hx hb hts iX12 hown g t_a0 (by decide) so_13 rfl 20 (by decide) (hts (.fieldLink RX12 43 "CapLeagueModel" "hasChoice" "[Z") (by decide +kernel)) rfl dX12_choose_22 (by show va_rf (z.R a0 20) = _; rw [rhc]; rfl) ?_
      refine lv_iload_n hx hb dX12_choose_25 rfl (lv_at hl 1 rfl) ?_
      refine h_zald hx hb g thc (by decide) so_1320 (xi_in (by rw [h_p]; omega) (by rw [h_p]; omega)) dX12_choose_26 ?_
      refine xw_i (exhc.symm) ?_
      refine lv_if_eq (tgt := 54) hx hb dX12_choose_27 (by decide) (fun c5 => ?_) (fun c5 => ?_)
      · have ic5 := (xi_eq c5 rfl (by decide) : xhc.toInt = 0)
        refine lv_bipush (v := (-4)) hx hb dX12_choose_54 (by decide) ?_
        have hS := g.2.1
        exact W.iret (v := (-4)) hx hb hr (fun t ht hW => ⟨⟨(-4), I0, rfl, ⟨hI, hF, (by rw [acb, ahc, ait, ala, ← kp, ← excb, ← exhc, ← exit, ← exla, qf0_12]; exact Or.inr (Or.inr ⟨by omega, by omega, by decide, rfl⟩))⟩, h_ret g ht⟩, hS.F ht⟩) hS.2.2 dX12_choose_56
      · have ic5 := (xi_ne c5 rfl (by decide) : xhc.toInt ≠ 0)
        refine lv_aload_n hx hb dX12_choose_30 rfl (lv_at hl 0 rfl) ?_
        refine h_get (v := .ref it) hx hb hts iX12 hown g t_a0 (by decide) so_13 rfl 21 (by decide) (hts (.fieldLink RX12 46 "CapLeagueModel" "isTaken" "[Z") (by decide +kernel)) rfl dX12_choose_31 (by show va_rf (z.R a0 21) = _; rw [rit]; rfl) ?_
        refine lv_iload_n hx hb dX12_choose_34 rfl (lv_at hl 1 rfl) ?_
        refine h_zald hx hb g tit (by decide) so_1321 (xi_in (by rw [h_p]; omega) (by rw [h_p]; omega)) dX12_choose_35 ?_
        refine xw_i (exit.symm) ?_
        refine lv_if_ne (tgt := 54) hx hb dX12_choose_36 (by decide) (fun c6 => ?_) (fun c6 => ?_)
        · have ic6 := (xi_ne c6 rfl (by decide) : xit.toInt ≠ 0)
          refine lv_bipush (v := (-4)) hx hb dX12_choose_54 (by decide) ?_
          have hS := g.2.1
          exact W.iret (v := (-4)) hx hb hr (fun t ht hW => ⟨⟨(-4), I0, rfl, ⟨hI, hF, (by rw [acb, ahc, ait, ala, ← kp, ← excb, ← exhc, ← exit, ← exla, qf0_12]; exact Or.inr (Or.inr ⟨by omega, by omega, by decide, rfl⟩))⟩, h_ret g ht⟩, hS.F ht⟩) hS.2.2 dX12_choose_56
        · have ic6 := (xi_eq c6 rfl (by decide) : xit.toInt = 0)
          refine lv_aload_n hx hb dX12_choose_39 rfl (lv_at hl 0 rfl) ?_
          refine h_get (v := .ref la) hx hb hts iX12 hown g t_a0 (by decide) so_13 rfl 16 (by decide) (hts (.fieldLink RX12 31 "CapLeagueModel" "last" "[I") (by decide +kernel)) rfl dX12_choose_40 (by show va_rf (z.R a0 16) = _; rw [rla]; rfl) ?_
          refine lv_iload_n hx hb dX12_choose_43 rfl (lv_at hl 1 rfl) ?_
          refine h_ald hx hb g tla (by decide) so_1316 (xi_in (by rw [h_p]; omega) (by rw [h_p]; omega)) dX12_choose_44 ?_
          refine xw_i (exla.symm) ?_
          refine lv_aload_n hx hb dX12_choose_45 rfl (lv_at hl 0 rfl) ?_
          refine h_get (v := .int f0_12) hx hb hts iX12 hown g t_a0 (by decide) so_13 rfl 12 (by decide) (hts (.fieldLink RX12 187 "CapLeagueModel" "clock" "I") (by decide +kernel)) rfl dX12_choose_46 (congrArg Value.int (ef0_12.symm)) ?_
          refine lv_iconst (v := 1) hx hb dX12_choose_49 (by decide) ?_
          refine lv_iadd hx hb dX12_choose_50 ?_
          refine lv_topi (fun v7 ev7 => ?_)
          have jv7 : v7.toInt = f0_12.toInt + 1 := xi_add ev7 rfl (by decide) (by omega) (by omega)
          refine lv_icmp_eq (tgt := 57) hx hb dX12_choose_51 (by decide) (fun c8 => ?_) (fun c8 => ?_)
          · have ic8 := (xi_eq c8 rfl rfl : xla.toInt = v7.toInt)
            refine lv_aload_n hx hb dX12_choose_57 rfl (lv_at hl 0 rfl) ?_
            refine h_get (v := .ref it) hx hb hts iX12 hown g t_a0 (by decide) so_13 rfl 21 (by decide) (hts (.fieldLink RX12 46 "CapLeagueModel" "isTaken" "[Z") (by decide +kernel)) rfl dX12_choose_58 (by show va_rf (z.R a0 21) = _; rw [rit]; rfl) ?_
            refine lv_iload_n hx hb dX12_choose_61 rfl (lv_at hl 1 rfl) ?_
            refine lv_iconst (v := 1) hx hb dX12_choose_62 (by decide) ?_
            refine h_zast hx hb g tit (by decide) so_1321 (xi_in (by rw [h_p]; omega) (by rw [h_p]; omega)) dX12_choose_63 (fun I9 H locs eI9 g => ?_)
            rw [h_nz (by decide) (by decide)] at eI9
            have hI := hI.wr eI9 tit (rfl : h_bd 1321 _ = (0, 1)) (by decide) (by decide)
            have hF := hF.wr eI9 tit rfl
            refine lv_iconst (v := 1) hx hb dX12_choose_64 (by decide) ?_
            have hS := g.2.1
            exact W.iret (v := 1) hx hb hr (fun t ht hW => ⟨⟨1, I9, rfl, ⟨hI, hF, (by rw [acb, ahc, ait, ala, ← kp, ← excb, ← exhc, ← exit, ← exla, qf0_12]; exact Or.inr (Or.inl ⟨by omega, ⟨by omega, by omega, by omega⟩, by decide, eI9⟩))⟩, h_ret g ht⟩, hS.F ht⟩) hS.2.2 dX12_choose_65
          · have ic8 := (xi_ne c8 rfl rfl : xla.toInt ≠ v7.toInt)
            refine lv_bipush (v := (-4)) hx hb dX12_choose_54 (by decide) ?_
            have hS := g.2.1
            exact W.iret (v := (-4)) hx hb hr (fun t ht hW => ⟨⟨(-4), I0, rfl, ⟨hI, hF, (by rw [acb, ahc, ait, ala, ← kp, ← excb, ← exhc, ← exit, ← exla, qf0_12]; exact Or.inr (Or.inr ⟨by omega, by omega, by decide, rfl⟩))⟩, h_ret g ht⟩, hS.F ht⟩) hS.2.2 dX12_choose_56
set_option maxHeartbeats 4000000 in
set_option maxRecDepth 100000 in
theorem tX12_aboutB (l : Launch) (E : tE) (X : tX) (A : Nat → Prop) (z : tZ) (I0 : tI) (L0 : tL) (a0 : Nat) (t_a0 : z.ty a0 = 13) (p : Int32) (p_t : Int) (h_p : p.toInt = p_t) (x : Int32) (x_t : Int) (h_x : x.toInt = x_t) : Met l yX12_about wsX12_about ({ frames := 3, cells := 0, slots := 0, locals := 192 }) (va_Pc [.ref a0, .int p, .int x] (h_P E X A z I0 L0)) (vp_Si (fun r => ((¬ (0 ≤ p_t ∧ p_t < (I0 a0 13).toInt) ∧ r.toInt = -9) ∨ ((0 ≤ p_t ∧ p_t < (I0 a0 13).toInt) ∧ r.toInt = q_fact (I0 (h_ad z a0 14) p_t.toNat) (I0 (h_ad z a0 15) p_t.toNat) (I0 (h_ad z a0 16) p_t.toNat) (I0 (h_ad z a0 17) p_t.toNat) (I0 (h_ad z a0 18) p_t.toNat) (if (I0 (h_ad z a0 14) p_t.toNat).toInt = -1 then 0 else (I0 (h_ad z a0 19) p_t.toNat)) (if (I0 (h_ad z a0 14) p_t.toNat).toInt ≠ -1 ∧ (I0 (h_ad z a0 20) p_t.toNat).toInt ≠ 0 ∧ (I0 (h_ad z a0 21) p_t.toNat).toInt = 0 then 1 else 0) (I0 (h_ad z a0 22) p_t.toNat) x)))) 0 0 (fun _ => False) := by
  refine Met.ofW (cc := cX12_about) (maxL := 4) (ret := (some .int)) (by decide) rfl ?_
  intro pr_ ev_ s m args below meth cd_ s₁ B hml hv
  obtain ⟨rfl, hE, hk, hX, hA, hK, hI, hR, hB0⟩ := hv
  have g : h_G h_so h_fk E A z I0 L0 s s.heap s.heap [] := ⟨hK, va_S.rf, hB0⟩
  have hx := B.exec
  have hb := B.bytes
  have hr := B.returns
  have hts := atoms_spec (ws := wsX12_about) B.pre
  have hown : s.vm.findClass RX12 = some m.cls := findClass_of_methodNamed B.named
  have hlocks := B.notSynchronized
  have iX12 : ∀ w ∈ u_ws RX12 TX12 51, w ∈ wsX12_about := by decide +kernel
  have hl := lv_entry ([.ref a0, .int p, .int x]) (n := 4) (Nat.le_of_ble_eq_true rfl)
  rw [lg_entry_eq]
  generalize (lg_sl ([.ref a0, .int p, .int x]) ++ List.replicate (4 - (lg_sl ([.ref a0, .int p, .int x])).length) Slot.unset).toArray = ls at hl ⊢
  have hl : lv_has ls 4 [(0, .ref a0), (1, .int p), (2, .int x)] := hl
  have b_p : -2147483648 ≤ p_t ∧ p_t ≤ 2147483647 := h_p ▸ ⟨xi_lo p, Int.le_of_lt_add_one (xi_hi p)⟩
  have b_x : -2147483648 ≤ x_t ∧ x_t ≤ 2147483647 := h_x ▸ ⟨xi_lo x, Int.le_of_lt_add_one (xi_hi x)⟩
  obtain ⟨cb, rcb, tcb⟩ := hR.at a0 14 t_a0 (rfl : h_rs 13 14 = some (1314, false)) (by decide)
  have acb : h_ad z a0 14 = cb := h_ad.at rcb
  obtain ⟨fi, rfi, tfi⟩ := hR.at a0 15 t_a0 (rfl : h_rs 13 15 = some (1315, false)) (by decide)
  have afi : h_ad z a0 15 = fi := h_ad.at rfi
  obtain ⟨la, rla, tla⟩ := hR.at a0 16 t_a0 (rfl : h_rs 13 16 = some (1316, false)) (by decide)
  have ala : h_ad z a0 16 = la := h_ad.at rla
  obtain ⟨pa, rpa, tpa⟩ := hR.at a0 17 t_a0 (rfl : h_rs 13 17 = some (1317, false)) (by decide)
  have apa : h_ad z a0 17 = pa := h_ad.at rpa
  obtain ⟨ri, rri, tri⟩ := hR.at a0 18 t_a0 (rfl : h_rs 13 18 = some (1318, false)) (by decide)
  have ari : h_ad z a0 18 = ri := h_ad.at rri
  obtain ⟨su, rsu, tsu⟩ := hR.at a0 19 t_a0 (rfl : h_rs 13 19 = some (1319, false)) (by decide)
  have asu : h_ad z a0 19 = su := h_ad.at rsu
  obtain ⟨hc, rhc, thc⟩ := hR.at a0 20 t_a0 (rfl : h_rs 13 20 = some (1320, false)) (by decide)
  have ahc : h_ad z a0 20 = hc := h_ad.at rhc
  obtain ⟨it, rit, tit⟩ := hR.at a0 21 t_a0 (rfl : h_rs 13 21 = some (1321, false)) (by decide)
  have ait : h_ad z a0 21 = it := h_ad.at rit
  obtain ⟨hu, rhu, thu⟩ := hR.at a0 22 t_a0 (rfl : h_rs 13 22 = some (1322, false)) (by decide)
  have ahu : h_ad z a0 22 = hu := h_ad.at rhu
  obtain ⟨xcb, excb⟩ : ∃ v : Int32, v = I0 cb p.toNatClampNeg := ⟨_, rfl⟩
  have jxcb := hI.rd cb p.toNatClampNeg tcb excb (rfl : h_bd 1314 _ = ((-1), 7))
  obtain ⟨xfi, exfi⟩ : ∃ v : Int32, v = I0 fi p.toNatClampNeg := ⟨_, rfl⟩
  have jxfi := hI.rd fi p.toNatClampNeg tfi exfi (rfl : h_bd 1315 _ = ((-2147483648), 2147483647))
  obtain ⟨xla, exla⟩ : ∃ v : Int32, v = I0 la p.toNatClampNeg := ⟨_, rfl⟩
  have jxla := hI.rd la p.toNatClampNeg tla exla (rfl : h_bd 1316 _ = ((-2147483648), 2147483647))
  obtain ⟨xpa, expa⟩ : ∃ v : Int32, v = I0 pa p.toNatClampNeg := ⟨_, rfl⟩
  have jxpa := hI.rd pa p.toNatClampNeg tpa expa (rfl : h_bd 1317 _ = ((-2147483648), 2147483647))
  obtain ⟨xri, exri⟩ : ∃ v : Int32, v = I0 ri p.toNatClampNeg := ⟨_, rfl⟩
  have jxri := hI.rd ri p.toNatClampNeg tri exri (rfl : h_bd 1318 _ = ((-2147483648), 2147483647))
  obtain ⟨xsu, exsu⟩ : ∃ v : Int32, v = I0 su p.toNatClampNeg := ⟨_, rfl⟩
  have jxsu := hI.rd su p.toNatClampNeg tsu exsu (rfl : h_bd 1319 _ = ((-2147483648), 2147483647))
  obtain ⟨xhc, exhc⟩ : ∃ v : Int32, v = I0 hc p.toNatClampNeg := ⟨_, rfl⟩
  have jxhc := hI.rd hc p.toNatClampNeg thc exhc (rfl : h_bd 1320 _ = (0, 1))
  obtain ⟨xit, exit⟩ : ∃ v : Int32, v = I0 it p.toNatClampNeg := ⟨_, rfl⟩
  have jxit := hI.rd it p.toNatClampNeg tit exit (rfl : h_bd 1321 _ = (0, 1))
  obtain ⟨xhu, exhu⟩ : ∃ v : Int32, v = I0 hu p.toNatClampNeg := ⟨_, rfl⟩
  have jxhu := hI.rd hu p.toNatClampNeg thu exhu (rfl : h_bd 1322 _ = (0, 1))
  obtain ⟨f0_13, ef0_13⟩ : ∃ v : Int32, v = I0 a0 13 := ⟨_, rfl⟩
  have qf0_13 : (I0 a0 13).toInt = f0_13.toInt := congrArg Int32.toInt ef0_13.symm
  have jf0_13 := hI.rd a0 13 t_a0 ef0_13 (rfl : h_bd 13 13 = (0, 60))
  refine lv_aload_n hx hb dX12_about_0 rfl (lv_at hl 0 rfl) ?_
  refine lv_iload_n hx hb dX12_about_1 rfl (lv_at hl 1 rfl) ?_
  refine vp_callSi (W.runV (As := [.int p]) (rest := []) ⟨hx, hb, hml, hown, hts⟩ (tX12_isPlayerF l E X A z I0 L0 a0 t_a0 p (p_t) h_p) (cwV 1 hts gX12_about_X12_isPlayer rfl rfl rfl (by decide +kernel) ⟨Nat.le_of_ble_eq_true rfl, Nat.le_of_ble_eq_true rfl⟩) ⟨h_blind _ _ _ _ _ _ _, h_recv g t_a0 (by decide) so_13 (q := (RX12, TX12, 51)) rfl, h_pre _ hE hk hX hA hI hR g⟩ rfl rfl hl.1 rfl (lv_room (Nat.le_of_ble_eq_true rfl)) dX12_about_2 ⟨Nat.le_of_ble_eq_true rfl, Nat.le_of_ble_eq_true rfl⟩) (fun rh1 h1 => ?_)
  rcases h1 with ⟨rfl, h1⟩ | ⟨rfl, h1⟩
  · skip
    refine lv_if_ne (tgt := 11) hx hb dX12_about_5 (by decide) (fun h => absurd (by decide) h) (fun _ => ?_)
    refine lv_bipush (v := (-9)) hx hb dX12_about_8 (by decide) ?_
    exact W.iret (v := (-9)) hx hb hr (fun t ht hW => ⟨(-9), rfl, (Or.inl ⟨by omega, by decide⟩), ht⟩) (fun _ h => by cases h) dX12_about_10
  · skip
    have kp : p.toNatClampNeg = p_t.toNat := h_keq h_p (by omega) (by omega)
    refine lv_if_ne (tgt := 11) hx hb dX12_about_5 (by decide) (fun _ => ?_) (fun h => absurd h (by decide))
    refine lv_aload_n hx hb dX12_about_11 rfl (lv_at hl 0 rfl) ?_
    refine h_get (v := .ref cb) hx hb hts iX12 hown g t_a0 (by decide) so_13 rfl 14 (by decide) (hts (.fieldLink RX12 25 "CapLeagueModel" "clubOf" "[I") (by decide +kernel)) rfl dX12_about_12 (by show va_rf (z.R a0 14) = _; rw [rcb]; rfl) ?_
    refine lv_iload_n hx hb dX12_about_15 rfl (lv_at hl 1 rfl) ?_
    refine h_ald hx hb g tcb (by decide) so_1314 (xi_in (by rw [h_p]; omega) (by rw [h_p]; omega)) dX12_about_16 ?_
    refine xw_i (excb.symm) ?_
    refine lv_iconst (v := (-1)) hx hb dX12_about_17 (by decide) ?_
    refine lv_icmp_eq (tgt := 25) hx hb dX12_about_18 (by decide) (fun c4 => ?_) (fun c4 => ?_)
    · have ic4 := (xi_eq c4 rfl (by decide) : xcb.toInt = (-1))
      refine lv_iconst (v := 0) hx hb dX12_about_25 (by decide) ?_
      refine lv_istore_n (lv' := [(3, .int 0), (0, .ref a0), (1, .int p), (2, .int x)]) hx hb dX12_about_26 rfl hl (by decide) rfl (fun ls hl => ?_)
      refine lv_iload_n hx hb dX12_about_27 rfl (lv_at hl 3 rfl) ?_
      have qc5 : x.toInt = x_t := h_x
      rcases (show (x.toInt < 0 ∨ 4 < x.toInt) ∨ x.toInt = 0 ∨ x.toInt = 1 ∨ x.toInt = 2 ∨ x.toInt = 3 ∨ x.toInt = 4 by omega) with c5 | c5 | c5 | c5 | c5 | c5
      · refine lv_tableOut (tgt := 144) hx hb dX12_about_28 c5 (by decide) ?_
        refine lv_iload_n hx hb dX12_about_144 rfl (lv_at hl 3 rfl) ?_
        refine lv_i2l hx hb dX12_about_145 rfl ?_
        refine lv_topl (fun v6 ev6 => ?_)
        have jv6 : v6.toInt = x_t := by rw [ev6, xi_64]; exact h_x
        refine lv_ldc2 (v := 10) hx hb hown (hts (.constantLong RX12 200 (10)) (by decide +kernel)) dX12_about_146 ?_
        refine lv_ldc2 (v := 19) hx hb hown (hts (.constantLong RX12 250 (19)) (by decide +kernel)) dX12_about_149 ?_
        refine vp_callSi (W.runS (As := [.long v6, .long 10, .long 19]) (rest := []) ⟨hx, hb, hml, hown, hts⟩ (tX12_in l E X A z I0 L0 v6 (x_t) jv6 10 (10) (by decide) 19 (19) (by decide)) (va_cwS 3 hts gX12_about_X12_in rfl rfl rfl (by decide +kernel) ⟨Nat.le_of_ble_eq_true rfl, Nat.le_of_ble_eq_true rfl⟩) ⟨h_blind _ _ _ _ _ _ _, h_pre _ hE hk hX hA hI hR g⟩ rfl rfl hl.1 rfl (lv_room (Nat.le_of_ble_eq_true rfl)) dX12_about_152 ⟨Nat.le_of_ble_eq_true rfl, Nat.le_of_ble_eq_true rfl⟩) (fun rh7 h7 => ?_)
        rcases h7 with ⟨rfl, h7⟩ | ⟨rfl, h7⟩
        · skip
          refine lv_if_eq (tgt := 170) hx hb dX12_about_155 (by decide) (fun _ => ?_) (fun h => absurd (by decide) h)
          refine lv_bipush (v := (-9)) hx hb dX12_about_170 (by decide) ?_
          exact W.iret (v := (-9)) hx hb hr (fun t ht hW => ⟨(-9), rfl, (by refine Or.inr ⟨by omega, ?_⟩; rw [acb, afi, ala, apa, ari, asu, ahc, ait, ahu, ← kp, ← excb, ← exfi, ← exla, ← expa, ← exri, ← exsu, ← exhc, ← exit, ← exhu]; have qx : x.toInt = x_t := h_x; have z0_ : (0 : Int32).toInt = 0 := (by decide); have z1_ : (1 : Int32).toInt = 1 := (by decide); unfold q_fact; have z9 : ((-9) : Int32).toInt = (-9) := (by decide); (try rw [q_i10]); (repeat (first | rw [if_pos (by omega)] | rw [if_neg (by omega)])); all_goals omega), ht⟩) (fun _ h => by cases h) dX12_about_172
        · skip
          refine lv_if_eq (tgt := 170) hx hb dX12_about_155 (by decide) (fun h => absurd h (by decide)) (fun _ => ?_)
          refine lv_aload_n hx hb dX12_about_158 rfl (lv_at hl 1 rfl) ?_
          refine lv_iload_n hx hb dX12_about_159 rfl (lv_at hl 2 rfl) ?_
          refine lv_iload_n hx hb dX12_about_160 rfl (lv_at hl 3 rfl) ?_
          refine lv_bipush (v := 10) hx hb dX12_about_161 (by decide) ?_
          refine lv_isub hx hb dX12_about_163 ?_
          refine lv_topi (fun v10 ev10 => ?_)
          have jv10 : v10.toInt = x_t - 10 := xi_sub ev10 h_x (by decide) (by omega) (by omega)
          refine vp_callSi (W.runV (As := [.int p, .int v10]) (rest := []) ⟨hx, hb, hml, hown, hts⟩ (tX12_payOfB l E X A z I0 L0 a0 t_a0 p (p_t) h_p (by omega) v10 (v10.toInt) rfl) (cwV 2 hts gX12_about_X12_payOf rfl rfl rfl (by decide +kernel) ⟨Nat.le_of_ble_eq_true rfl, Nat.le_of_ble_eq_true rfl⟩) ⟨h_blind _ _ _ _ _ _ _, h_recv g t_a0 (by decide) so_13 (q := (RX12, TX12, 51)) rfl, h_pre _ hE hk hX hA hI hR g⟩ rfl rfl hl.1 rfl (lv_room (Nat.le_of_ble_eq_true rfl)) dX12_about_164 ⟨Nat.le_of_ble_eq_true rfl, Nat.le_of_ble_eq_true rfl⟩) (fun rh11 h11 => ?_)
          have h11p0 := h11
          have jrh11 : -2147483648 ≤ rh11.toInt ∧ rh11.toInt ≤ 2147483647 := ⟨xi_lo _, Int.le_of_lt_add_one (xi_hi _)⟩
          rw [acb, afi, ala, apa, ari, ← kp, ← excb, ← exfi, ← exla, ← expa, ← exri] at h11p0
          refine lv_goto (tgt := 172) hx hb dX12_about_167 (by decide) ?_
          exact W.iret (v := rh11) hx hb hr (fun t ht hW => ⟨rh11, rfl, (by refine Or.inr ⟨by omega, ?_⟩; rw [acb, afi, ala, apa, ari, asu, ahc, ait, ahu, ← kp, ← excb, ← exfi, ← exla, ← expa, ← exri, ← exsu, ← exhc, ← exit, ← exhu]; have qx : x.toInt = x_t := h_x; have z0_ : (0 : Int32).toInt = 0 := (by decide); have z1_ : (1 : Int32).toInt = 1 := (by decide); unfold q_fact; (repeat (first | rw [if_pos (by omega)] | rw [if_neg (by omega)])); rw [← ev10, ← h11p0]), ht⟩) (fun _ h => by cases h) dX12_about_172
      · refine lv_tableIn (off := 36) (tgt := 64) hx hb dX12_about_28 (by omega) (by omega) (by rw [show (x.toInt - 0).toNat = 0 by omega]; rfl) (by decide) ?_
        refine lv_aload_n hx hb dX12_about_64 rfl (lv_at hl 1 rfl) ?_
        refine h_get (v := .ref cb) hx hb hts iX12 hown g t_a0 (by decide) so_13 rfl 14 (by decide) (hts (.fieldLink RX12 25 "CapLeagueModel" "clubOf" "[I") (by decide +kernel)) rfl dX12_about_65 (by show va_rf (z.R a0 14) = _; rw [rcb]; rfl) ?_
        refine lv_iload_n hx hb dX12_about_68 rfl (lv_at hl 2 rfl) ?_
        refine h_ald hx hb g tcb (by decide) so_1314 (xi_in (by rw [h_p]; omega) (by rw [h_p]; omega)) dX12_about_69 ?_
        refine xw_i (excb.symm) ?_
        exact W.iret (v := xcb) hx hb hr (fun t ht hW => ⟨xcb, rfl, (by refine Or.inr ⟨by omega, ?_⟩; rw [acb, afi, ala, apa, ari, asu, ahc, ait, ahu, ← kp, ← excb, ← exfi, ← exla, ← expa, ← exri, ← exsu, ← exhc, ← exit, ← exhu]; have qx : x.toInt = x_t := h_x; have z0_ : (0 : Int32).toInt = 0 := (by decide); have z1_ : (1 : Int32).toInt = 1 := (by decide); unfold q_fact; (try rw [q_i10]); (repeat (first | rw [if_pos (by omega)] | rw [if_neg (by omega)])); all_goals omega), ht⟩) (fun _ h => by cases h) dX12_about_70
      · refine lv_tableIn (off := 43) (tgt := 71) hx hb dX12_about_28 (by omega) (by omega) (by rw [show (x.toInt - 0).toNat = 1 by omega]; rfl) (by decide) ?_
        refine lv_iload_n hx hb dX12_about_71 rfl (lv_at hl 0 rfl) ?_
        refine lv_if_eq (tgt := 84) hx hb dX12_about_72 (by decide) (fun _ => ?_) (fun h => absurd (by decide) h)
        refine lv_iconst (v := (-1)) hx hb dX12_about_84 (by decide) ?_
        exact W.iret (v := (-1)) hx hb hr (fun t ht hW => ⟨(-1), rfl, (by refine Or.inr ⟨by omega, ?_⟩; rw [acb, afi, ala, apa, ari, asu, ahc, ait, ahu, ← kp, ← excb, ← exfi, ← exla, ← expa, ← exri, ← exsu, ← exhc, ← exit, ← exhu]; have qx : x.toInt = x_t := h_x; have z0_ : (0 : Int32).toInt = 0 := (by decide); have z1_ : (1 : Int32).toInt = 1 := (by decide); unfold q_fact; have z9 : ((-1) : Int32).toInt = (-1) := (by decide); (try rw [q_i10]); (repeat (first | rw [if_pos (by omega)] | rw [if_neg (by omega)])); all_goals omega), ht⟩) (fun _ h => by cases h) dX12_about_85
      · refine lv_tableIn (off := 58) (tgt := 86) hx hb dX12_about_28 (by omega) (by omega) (by rw [show (x.toInt - 0).toNat = 2 by omega]; rfl) (by decide) ?_
        refine lv_iload_n hx hb dX12_about_86 rfl (lv_at hl 0 rfl) ?_
        refine lv_if_eq (tgt := 112) hx hb dX12_about_87 (by decide) (fun _ => ?_) (fun h => absurd (by decide) h)
        refine lv_iconst (v := 0) hx hb dX12_about_112 (by decide) ?_
        exact W.iret (v := 0) hx hb hr (fun t ht hW => ⟨0, rfl, (by refine Or.inr ⟨by omega, ?_⟩; rw [acb, afi, ala, apa, ari, asu, ahc, ait, ahu, ← kp, ← excb, ← exfi, ← exla, ← expa, ← exri, ← exsu, ← exhc, ← exit, ← exhu]; have qx : x.toInt = x_t := h_x; have z0_ : (0 : Int32).toInt = 0 := (by decide); have z1_ : (1 : Int32).toInt = 1 := (by decide); unfold q_fact; have z9 : (0 : Int32).toInt = 0 := (by decide); (try rw [q_i10]); (repeat (first | rw [if_pos (by omega)] | rw [if_neg (by omega)])); all_goals omega), ht⟩) (fun _ h => by cases h) dX12_about_113
      · refine lv_tableIn (off := 86) (tgt := 114) hx hb dX12_about_28 (by omega) (by omega) (by rw [show (x.toInt - 0).toNat = 3 by omega]; rfl) (by decide) ?_
        refine lv_iload_n hx hb dX12_about_114 rfl (lv_at hl 0 rfl) ?_
        refine lv_if_eq (tgt := 127) hx hb dX12_about_115 (by decide) (fun _ => ?_) (fun h => absurd (by decide) h)
        refine lv_iconst (v := 0) hx hb dX12_about_127 (by decide) ?_
        exact W.iret (v := 0) hx hb hr (fun t ht hW => ⟨0, rfl, (by refine Or.inr ⟨by omega, ?_⟩; rw [acb, afi, ala, apa, ari, asu, ahc, ait, ahu, ← kp, ← excb, ← exfi, ← exla, ← expa, ← exri, ← exsu, ← exhc, ← exit, ← exhu]; have qx : x.toInt = x_t := h_x; have z0_ : (0 : Int32).toInt = 0 := (by decide); have z1_ : (1 : Int32).toInt = 1 := (by decide); unfold q_fact; have z9 : (0 : Int32).toInt = 0 := (by decide); (try rw [q_i10]); (repeat (first | rw [if_pos (by omega)] | rw [if_neg (by omega)])); all_goals omega), ht⟩) (fun _ h => by cases h) dX12_about_128
      · refine lv_tableIn (off := 101) (tgt := 129) hx hb dX12_about_28 (by omega) (by omega) (by rw [show (x.toInt - 0).toNat = 4 by omega]; rfl) (by decide) ?_
        refine lv_aload_n hx hb dX12_about_129 rfl (lv_at hl 1 rfl) ?_
        refine h_get (v := .ref hu) hx hb hts iX12 hown g t_a0 (by decide) so_13 rfl 22 (by decide) (hts (.fieldLink RX12 49 "CapLeagueModel" "isHurt" "[Z") (by decide +kernel)) rfl dX12_about_130 (by show va_rf (z.R a0 22) = _; rw [rhu]; rfl) ?_
        refine lv_iload_n hx hb dX12_about_133 rfl (lv_at hl 2 rfl) ?_
        refine h_zald hx hb g thu (by decide) so_1322 (xi_in (by rw [h_p]; omega) (by rw [h_p]; omega)) dX12_about_134 ?_
        refine xw_i (exhu.symm) ?_
        refine lv_if_eq (tgt := 142) hx hb dX12_about_135 (by decide) (fun c15 => ?_) (fun c15 => ?_)
        · have ic15 := (xi_eq c15 rfl (by decide) : xhu.toInt = 0)
          refine lv_iconst (v := 0) hx hb dX12_about_142 (by decide) ?_
          exact W.iret (v := 0) hx hb hr (fun t ht hW => ⟨0, rfl, (by refine Or.inr ⟨by omega, ?_⟩; rw [acb, afi, ala, apa, ari, asu, ahc, ait, ahu, ← kp, ← excb, ← exfi, ← exla, ← expa, ← exri, ← exsu, ← exhc, ← exit, ← exhu]; have qx : x.toInt = x_t := h_x; have z0_ : (0 : Int32).toInt = 0 := (by decide); have z1_ : (1 : Int32).toInt = 1 := (by decide); unfold q_fact; have z9 : (0 : Int32).toInt = 0 := (by decide); (try rw [q_i10]); (repeat (first | rw [if_pos (by omega)] | rw [if_neg (by omega)])); all_goals omega), ht⟩) (fun _ h => by cases h) dX12_about_143
        · have ic15 := (xi_ne c15 rfl (by decide) : xhu.toInt ≠ 0)
          refine lv_iconst (v := 1) hx hb dX12_about_138 (by decide) ?_
          refine lv_goto (tgt := 143) hx hb dX12_about_139 (by decide) ?_
          exact W.iret (v := 1) hx hb hr (fun t ht hW => ⟨1, rfl, (by refine Or.inr ⟨by omega, ?_⟩; rw [acb, afi, ala, apa, ari, asu, ahc, ait, ahu, ← kp, ← excb, ← exfi, ← exla, ← expa, ← exri, ← exsu, ← exhc, ← exit, ← exhu]; have qx : x.toInt = x_t := h_x; have z0_ : (0 : Int32).toInt = 0 := (by decide); have z1_ : (1 : Int32).toInt = 1 := (by decide); unfold q_fact; have z9 : (1 : Int32).toInt = 1 := (by decide); (try rw [q_i10]); (repeat (first | rw [if_pos (by omega)] | rw [if_neg (by omega)])); all_goals omega), ht⟩) (fun _ h => by cases h) dX12_about_143
    · have ic4 := (xi_ne c4 rfl (by decide) : xcb.toInt ≠ (-1))
      refine lv_iconst (v := 1) hx hb dX12_about_21 (by decide) ?_
      refine lv_goto (tgt := 26) hx hb dX12_about_22 (by decide) ?_
      refine lv_istore_n (lv' := [(3, .int 1), (0, .ref a0), (1, .int p), (2, .int x)]) hx hb dX12_about_26 rfl hl (by decide) rfl (fun ls hl => ?_)
      refine lv_iload_n hx hb dX12_about_27 rfl (lv_at hl 3 rfl) ?_
      have qc16 : x.toInt = x_t := h_x
      rcases (show (x.toInt < 0 ∨ 4 < x.toInt) ∨ x.toInt = 0 ∨ x.toInt = 1 ∨ x.toInt = 2 ∨ x.toInt = 3 ∨ x.toInt = 4 by omega) with c16 | c16 | c16 | c16 | c16 | c16
      · refine lv_tableOut (tgt := 144) hx hb dX12_about_28 c16 (by decide) ?_
        refine lv_iload_n hx hb dX12_about_144 rfl (lv_at hl 3 rfl) ?_
        refine lv_i2l hx hb dX12_about_145 rfl ?_
        refine lv_topl (fun v17 ev17 => ?_)
        have jv17 : v17.toInt = x_t := by rw [ev17, xi_64]; exact h_x
        refine lv_ldc2 (v := 10) hx hb hown (hts (.constantLong RX12 200 (10)) (by decide +kernel)) dX12_about_146 ?_
        refine lv_ldc2 (v := 19) hx hb hown (hts (.constantLong RX12 250 (19)) (by decide +kernel)) dX12_about_149 ?_
        refine vp_callSi (W.runS (As := [.long v17, .long 10, .long 19]) (rest := []) ⟨hx, hb, hml, hown, hts⟩ (tX12_in l E X A z I0 L0 v17 (x_t) jv17 10 (10) (by decide) 19 (19) (by decide)) (va_cwS 3 hts gX12_about_X12_in rfl rfl rfl (by decide +kernel) ⟨Nat.le_of_ble_eq_true rfl, Nat.le_of_ble_eq_true rfl⟩) ⟨h_blind _ _ _ _ _ _ _, h_pre _ hE hk hX hA hI hR g⟩ rfl rfl hl.1 rfl (lv_room (Nat.le_of_ble_eq_true rfl)) dX12_about_152 ⟨Nat.le_of_ble_eq_true rfl, Nat.le_of_ble_eq_true rfl⟩) (fun rh18 h18 => ?_)
        rcases h18 with ⟨rfl, h18⟩ | ⟨rfl, h18⟩
        · skip
          refine lv_if_eq (tgt := 170) hx hb dX12_about_155 (by decide) (fun _ => ?_) (fun h => absurd (by decide) h)
          refine lv_bipush (v := (-9)) hx hb dX12_about_170 (by decide) ?_
          exact W.iret (v := (-9)) hx hb hr (fun t ht hW => ⟨(-9), rfl, (by refine Or.inr ⟨by omega, ?_⟩; rw [acb, afi, ala, apa, ari, asu, ahc, ait, ahu, ← kp, ← excb, ← exfi, ← exla, ← expa, ← exri, ← exsu, ← exhc, ← exit, ← exhu]; have qx : x.toInt = x_t := h_x; have z0_ : (0 : Int32).toInt = 0 := (by decide); have z1_ : (1 : Int32).toInt = 1 := (by decide); unfold q_fact; have z9 : ((-9) : Int32).toInt = (-9) := (by decide); (try rw [q_i10]); (repeat (first | rw [if_pos (by omega)] | rw [if_neg (by omega)])); all_goals omega), ht⟩) (fun _ h => by cases h) dX12_about_172
        · skip
          refine lv_if_eq (tgt := 170) hx hb dX12_about_155 (by decide) (fun h => absurd h (by decide)) (fun _ => ?_)
          refine lv_aload_n hx hb dX12_about_158 rfl (lv_at hl 1 rfl) ?_
          refine lv_iload_n hx hb dX12_about_159 rfl (lv_at hl 2 rfl) ?_
          refine lv_iload_n hx hb dX12_about_160 rfl (lv_at hl 3 rfl) ?_
          refine lv_bipush (v := 10) hx hb dX12_about_161 (by decide) ?_
          refine lv_isub hx hb dX12_about_163 ?_
          refine lv_topi (fun v21 ev21 => ?_)
          have jv21 : v21.toInt = x_t - 10 := xi_sub ev21 h_x (by decide) (by omega) (by omega)
          refine vp_callSi (W.runV (As := [.int p, .int v21]) (rest := []) ⟨hx, hb, hml, hown, hts⟩ (tX12_payOfB l E X A z I0 L0 a0 t_a0 p (p_t) h_p (by omega) v21 (v21.toInt) rfl) (cwV 2 hts gX12_about_X12_payOf rfl rfl rfl (by decide +kernel) ⟨Nat.le_of_ble_eq_true rfl, Nat.le_of_ble_eq_true rfl⟩) ⟨h_blind _ _ _ _ _ _ _, h_recv g t_a0 (by decide) so_13 (q := (RX12, TX12, 51)) rfl, h_pre _ hE hk hX hA hI hR g⟩ rfl rfl hl.1 rfl (lv_room (Nat.le_of_ble_eq_true rfl)) dX12_about_164 ⟨Nat.le_of_ble_eq_true rfl, Nat.le_of_ble_eq_true rfl⟩) (fun rh22 h22 => ?_)
          have h22p0 := h22
          have jrh22 : -2147483648 ≤ rh22.toInt ∧ rh22.toInt ≤ 2147483647 := ⟨xi_lo _, Int.le_of_lt_add_one (xi_hi _)⟩
          rw [acb, afi, ala, apa, ari, ← kp, ← excb, ← exfi, ← exla, ← expa, ← exri] at h22p0
          refine lv_goto (tgt := 172) hx hb dX12_about_167 (by decide) ?_
          exact W.iret (v := rh22) hx hb hr (fun t ht hW => ⟨rh22, rfl, (by refine Or.inr ⟨by omega, ?_⟩; rw [acb, afi, ala, apa, ari, asu, ahc, ait, ahu, ← kp, ← excb, ← exfi, ← exla, ← expa, ← exri, ← exsu, ← exhc, ← exit, ← exhu]; have qx : x.toInt = x_t := h_x; have z0_ : (0 : Int32).toInt = 0 := (by decide); have z1_ : (1 : Int32).toInt = 1 := (by decide); unfold q_fact; (repeat (first | rw [if_pos (by omega)] | rw [if_neg (by omega)])); rw [← ev21, ← h22p0]), ht⟩) (fun _ h => by cases h) dX12_about_172
      · refine lv_tableIn (off := 36) (tgt := 64) hx hb dX12_about_28 (by omega) (by omega) (by rw [show (x.toInt - 0).toNat = 0 by omega]; rfl) (by decide) ?_
        refine lv_aload_n hx hb dX12_about_64 rfl (lv_at hl 1 rfl) ?_
        refine h_get (v := .ref cb) hx hb hts iX12 hown g t_a0 (by decide) so_13 rfl 14 (by decide) (hts (.fieldLink RX12 25 "CapLeagueModel" "clubOf" "[I") (by decide +kernel)) rfl dX12_about_65 (by show va_rf (z.R a0 14) = _; rw [rcb]; rfl) ?_
        refine lv_iload_n hx hb dX12_about_68 rfl (lv_at hl 2 rfl) ?_
        refine h_ald hx hb g tcb (by decide) so_1314 (xi_in (by rw [h_p]; omega) (by rw [h_p]; omega)) dX12_about_69 ?_
        refine xw_i (excb.symm) ?_
        exact W.iret (v := xcb) hx hb hr (fun t ht hW => ⟨xcb, rfl, (by refine Or.inr ⟨by omega, ?_⟩; rw [acb, afi, ala, apa, ari, asu, ahc, ait, ahu, ← kp, ← excb, ← exfi, ← exla, ← expa, ← exri, ← exsu, ← exhc, ← exit, ← exhu]; have qx : x.toInt = x_t := h_x; have z0_ : (0 : Int32).toInt = 0 := (by decide); have z1_ : (1 : Int32).toInt = 1 := (by decide); unfold q_fact; (try rw [q_i10]); (repeat (first | rw [if_pos (by omega)] | rw [if_neg (by omega)])); all_goals omega), ht⟩) (fun _ h => by cases h) dX12_about_70
      · refine lv_tableIn (off := 43) (tgt := 71) hx hb dX12_about_28 (by omega) (by omega) (by rw [show (x.toInt - 0).toNat = 1 by omega]; rfl) (by decide) ?_
        refine lv_iload_n hx hb dX12_about_71 rfl (lv_at hl 0 rfl) ?_
        refine lv_if_eq (tgt := 84) hx hb dX12_about_72 (by decide) (fun h => absurd h (by decide)) (fun _ => ?_)
        refine lv_aload_n hx hb dX12_about_75 rfl (lv_at hl 1 rfl) ?_
        refine h_get (v := .ref la) hx hb hts iX12 hown g t_a0 (by decide) so_13 rfl 16 (by decide) (hts (.fieldLink RX12 31 "CapLeagueModel" "last" "[I") (by decide +kernel)) rfl dX12_about_76 (by show va_rf (z.R a0 16) = _; rw [rla]; rfl) ?_
        refine lv_iload_n hx hb dX12_about_79 rfl (lv_at hl 2 rfl) ?_
        refine h_ald hx hb g tla (by decide) so_1316 (xi_in (by rw [h_p]; omega) (by rw [h_p]; omega)) dX12_about_80 ?_
        refine xw_i (exla.symm) ?_
        refine lv_goto (tgt := 85) hx hb dX12_about_81 (by decide) ?_
        exact W.iret (v := xla) hx hb hr (fun t ht hW => ⟨xla, rfl, (by refine Or.inr ⟨by omega, ?_⟩; rw [acb, afi, ala, apa, ari, asu, ahc, ait, ahu, ← kp, ← excb, ← exfi, ← exla, ← expa, ← exri, ← exsu, ← exhc, ← exit, ← exhu]; have qx : x.toInt = x_t := h_x; have z0_ : (0 : Int32).toInt = 0 := (by decide); have z1_ : (1 : Int32).toInt = 1 := (by decide); unfold q_fact; (try rw [q_i10]); (repeat (first | rw [if_pos (by omega)] | rw [if_neg (by omega)])); all_goals omega), ht⟩) (fun _ h => by cases h) dX12_about_85
      · refine lv_tableIn (off := 58) (tgt := 86) hx hb dX12_about_28 (by omega) (by omega) (by rw [show (x.toInt - 0).toNat = 2 by omega]; rfl) (by decide) ?_
        refine lv_iload_n hx hb dX12_about_86 rfl (lv_at hl 0 rfl) ?_
        refine lv_if_eq (tgt := 112) hx hb dX12_about_87 (by decide) (fun h => absurd h (by decide)) (fun _ => ?_)
        refine lv_aload_n hx hb dX12_about_90 rfl (lv_at hl 1 rfl) ?_
        refine h_get (v := .ref hc) hx hb hts iX12 hown g t_a0 (by decide) so_13 rfl 20 (by decide) (hts (.fieldLink RX12 43 "CapLeagueModel" "hasChoice" "[Z") (by decide +kernel)) rfl dX12_about_91 (by show va_rf (z.R a0 20) = _; rw [rhc]; rfl) ?_
        refine lv_iload_n hx hb dX12_about_94 rfl (lv_at hl 2 rfl) ?_
        refine h_zald hx hb g thc (by decide) so_1320 (xi_in (by rw [h_p]; omega) (by rw [h_p]; omega)) dX12_about_95 ?_
        refine xw_i (exhc.symm) ?_
        refine lv_if_eq (tgt := 112) hx hb dX12_about_96 (by decide) (fun c25 => ?_) (fun c25 => ?_)
        · have ic25 := (xi_eq c25 rfl (by decide) : xhc.toInt = 0)
          refine lv_iconst (v := 0) hx hb dX12_about_112 (by decide) ?_
          exact W.iret (v := 0) hx hb hr (fun t ht hW => ⟨0, rfl, (by refine Or.inr ⟨by omega, ?_⟩; rw [acb, afi, ala, apa, ari, asu, ahc, ait, ahu, ← kp, ← excb, ← exfi, ← exla, ← expa, ← exri, ← exsu, ← exhc, ← exit, ← exhu]; have qx : x.toInt = x_t := h_x; have z0_ : (0 : Int32).toInt = 0 := (by decide); have z1_ : (1 : Int32).toInt = 1 := (by decide); unfold q_fact; have z9 : (0 : Int32).toInt = 0 := (by decide); (try rw [q_i10]); (repeat (first | rw [if_pos (by omega)] | rw [if_neg (by omega)])); all_goals omega), ht⟩) (fun _ h => by cases h) dX12_about_113
        · have ic25 := (xi_ne c25 rfl (by decide) : xhc.toInt ≠ 0)
          refine lv_aload_n hx hb dX12_about_99 rfl (lv_at hl 1 rfl) ?_
          refine h_get (v := .ref it) hx hb hts iX12 hown g t_a0 (by decide) so_13 rfl 21 (by decide) (hts (.fieldLink RX12 46 "CapLeagueModel" "isTaken" "[Z") (by decide +kernel)) rfl dX12_about_100 (by show va_rf (z.R a0 21) = _; rw [rit]; rfl) ?_
          refine lv_iload_n hx hb dX12_about_103 rfl (lv_at hl 2 rfl) ?_
          refine h_zald hx hb g tit (by decide) so_1321 (xi_in (by rw [h_p]; omega) (by rw [h_p]; omega)) dX12_about_104 ?_
          refine xw_i (exit.symm) ?_
          refine lv_if_ne (tgt := 112) hx hb dX12_about_105 (by decide) (fun c26 => ?_) (fun c26 => ?_)
          · have ic26 := (xi_ne c26 rfl (by decide) : xit.toInt ≠ 0)
            refine lv_iconst (v := 0) hx hb dX12_about_112 (by decide) ?_
            exact W.iret (v := 0) hx hb hr (fun t ht hW => ⟨0, rfl, (by refine Or.inr ⟨by omega, ?_⟩; rw [acb, afi, ala, apa, ari, asu, ahc, ait, ahu, ← kp, ← excb, ← exfi, ← exla, ← expa, ← exri, ← exsu, ← exhc, ← exit, ← exhu]; have qx : x.toInt = x_t := h_x; have z0_ : (0 : Int32).toInt = 0 := (by decide); have z1_ : (1 : Int32).toInt = 1 := (by decide); unfold q_fact; have z9 : (0 : Int32).toInt = 0 := (by decide); (try rw [q_i10]); (repeat (first | rw [if_pos (by omega)] | rw [if_neg (by omega)])); all_goals omega), ht⟩) (fun _ h => by cases h) dX12_about_113
          · have ic26 := (xi_eq c26 rfl (by decide) : xit.toInt = 0)
            refine lv_iconst (v := 1) hx hb dX12_about_108 (by decide) ?_
            refine lv_goto (tgt := 113) hx hb dX12_about_109 (by decide) ?_
            exact W.iret (v := 1) hx hb hr (fun t ht hW => ⟨1, rfl, (by refine Or.inr ⟨by omega, ?_⟩; rw [acb, afi, ala, apa, ari, asu, ahc, ait, ahu, ← kp, ← excb, ← exfi, ← exla, ← expa, ← exri, ← exsu, ← exhc, ← exit, ← exhu]; have qx : x.toInt = x_t := h_x; have z0_ : (0 : Int32).toInt = 0 := (by decide); have z1_ : (1 : Int32).toInt = 1 := (by decide); unfold q_fact; have z9 : (1 : Int32).toInt = 1 := (by decide); (try rw [q_i10]); (repeat (first | rw [if_pos (by omega)] | rw [if_neg (by omega)])); all_goals omega), ht⟩) (fun _ h => by cases h) dX12_about_113
      · refine lv_tableIn (off := 86) (tgt := 114) hx hb dX12_about_28 (by omega) (by omega) (by rw [show (x.toInt - 0).toNat = 3 by omega]; rfl) (by decide) ?_
        refine lv_iload_n hx hb dX12_about_114 rfl (lv_at hl 0 rfl) ?_
        refine lv_if_eq (tgt := 127) hx hb dX12_about_115 (by decide) (fun h => absurd h (by decide)) (fun _ => ?_)
        refine lv_aload_n hx hb dX12_about_118 rfl (lv_at hl 1 rfl) ?_
        refine h_get (v := .ref su) hx hb hts iX12 hown g t_a0 (by decide) so_13 rfl 19 (by decide) (hts (.fieldLink RX12 40 "CapLeagueModel" "sure" "[I") (by decide +kernel)) rfl dX12_about_119 (by show va_rf (z.R a0 19) = _; rw [rsu]; rfl) ?_
        refine lv_iload_n hx hb dX12_about_122 rfl (lv_at hl 2 rfl) ?_
        refine h_ald hx hb g tsu (by decide) so_1319 (xi_in (by rw [h_p]; omega) (by rw [h_p]; omega)) dX12_about_123 ?_
        refine xw_i (exsu.symm) ?_
        refine lv_goto (tgt := 128) hx hb dX12_about_124 (by decide) ?_
        exact W.iret (v := xsu) hx hb hr (fun t ht hW => ⟨xsu, rfl, (by refine Or.inr ⟨by omega, ?_⟩; rw [acb, afi, ala, apa, ari, asu, ahc, ait, ahu, ← kp, ← excb, ← exfi, ← exla, ← expa, ← exri, ← exsu, ← exhc, ← exit, ← exhu]; have qx : x.toInt = x_t := h_x; have z0_ : (0 : Int32).toInt = 0 := (by decide); have z1_ : (1 : Int32).toInt = 1 := (by decide); unfold q_fact; (try rw [q_i10]); (repeat (first | rw [if_pos (by omega)] | rw [if_neg (by omega)])); all_goals omega), ht⟩) (fun _ h => by cases h) dX12_about_128
      · refine lv_tableIn (off := 101) (tgt := 129) hx hb dX12_about_28 (by omega) (by omega) (by rw [show (x.toInt - 0).toNat = 4 by omega]; rfl) (by decide) ?_
        refine lv_aload_n hx hb dX12_about_129 rfl (lv_at hl 1 rfl) ?_
        refine h_get (v := .ref hu) hx hb hts iX12 hown g t_a0 (by decide) so_13 rfl 22 (by decide) (hts (.fieldLink RX12 49 "CapLeagueModel" "isHurt" "[Z") (by decide +kernel)) rfl dX12_about_130 (by show va_rf (z.R a0 22) = _; rw [rhu]; rfl) ?_
        refine lv_iload_n hx hb dX12_about_133 rfl (lv_at hl 2 rfl) ?_
        refine h_zald hx hb g thu (by decide) so_1322 (xi_in (by rw [h_p]; omega) (by rw [h_p]; omega)) dX12_about_134 ?_
        refine xw_i (exhu.symm) ?_
        refine lv_if_eq (tgt := 142) hx hb dX12_about_135 (by decide) (fun c28 => ?_) (fun c28 => ?_)
        · have ic28 := (xi_eq c28 rfl (by decide) : xhu.toInt = 0)
          refine lv_iconst (v := 0) hx hb dX12_about_142 (by decide) ?_
          exact W.iret (v := 0) hx hb hr (fun t ht hW => ⟨0, rfl, (by refine Or.inr ⟨by omega, ?_⟩; rw [acb, afi, ala, apa, ari, asu, ahc, ait, ahu, ← kp, ← excb, ← exfi, ← exla, ← expa, ← exri, ← exsu, ← exhc, ← exit, ← exhu]; have qx : x.toInt = x_t := h_x; have z0_ : (0 : Int32).toInt = 0 := (by decide); have z1_ : (1 : Int32).toInt = 1 := (by decide); unfold q_fact; have z9 : (0 : Int32).toInt = 0 := (by decide); (try rw [q_i10]); (repeat (first | rw [if_pos (by omega)] | rw [if_neg (by omega)])); all_goals omega), ht⟩) (fun _ h => by cases h) dX12_about_143
        · have ic28 := (xi_ne c28 rfl (by decide) : xhu.toInt ≠ 0)
          refine lv_iconst (v := 1) hx hb dX12_about_138 (by decide) ?_
          refine lv_goto (tgt := 143) hx hb dX12_about_139 (by decide) ?_
          exact W.iret (v := 1) hx hb hr (fun t ht hW => ⟨1, rfl, (by refine Or.inr ⟨by omega, ?_⟩; rw [acb, afi, ala, apa, ari, asu, ahc, ait, ahu, ← kp, ← excb, ← exfi, ← exla, ← expa, ← exri, ← exsu, ← exhc, ← exit, ← exhu]; have qx : x.toInt = x_t := h_x; have z0_ : (0 : Int32).toInt = 0 := (by decide); have z1_ : (1 : Int32).toInt = 1 := (by decide); unfold q_fact; have z9 : (1 : Int32).toInt = 1 := (by decide); (try rw [q_i10]); (repeat (first | rw [if_pos (by omega)] | rw [if_neg (by omega)])); all_goals omega), ht⟩) (fun _ h => by cases h) dX12_about_143
set_option maxHeartbeats 4000000 in
set_option maxRecDepth 100000 in
theorem tX12_clubB (l : Launch) (E : tE) (X : tX) (A : Nat → Prop) (z : tZ) (I0 : tI) (L0 : tL) (a0 : Nat) (t_a0 : z.ty a0 = 13) (c : Int32) (c_t : Int) (h_c : c.toInt = c_t) (y : Int32) (y_t : Int) (h_y : y.toInt = y_t) (x : Int32) (x_t : Int) (h_x : x.toInt = x_t) (u_ : Nat → Int) (hrl : h_r12 (I0 (h_ad z a0 11)) (I0 (h_ad z a0 10)) (I0 a0 12).toInt u_) (hob : q_okb u_) (hpb : ∀ p : Nat, (p : Int) < (I0 a0 13).toInt → (q_pay (I0 (h_ad z a0 14) p) (I0 (h_ad z a0 15) p) (I0 (h_ad z a0 16) p) (I0 (h_ad z a0 17) p) (I0 (h_ad z a0 18) p) y).toInt ≤ 1000000) : Met l yX12_club wsX12_club ({ frames := 5, cells := 0, slots := 0, locals := 320 }) (va_Pc [.ref a0, .int c, .int y, .int x] (h_P E X A z I0 L0)) (vp_Si (fun r => (((¬ (0 ≤ c_t ∧ c_t ≤ 7 ∧ (I0 a0 12).toInt ≤ y_t ∧ y_t ≤ 9) ∨ x_t < 0 ∨ 3 < x_t) ∧ r.toInt = -2) ∨ ((0 ≤ c_t ∧ c_t ≤ 7 ∧ (I0 a0 12).toInt ≤ y_t ∧ y_t ≤ 9) ∧ ((x_t = 0 ∧ r = m_cnt z I0 a0 c_t y (u_ 6)) ∨ (x_t = 1 ∧ r = I0 (h_ad z a0 23) (10 * c_t + y_t).toNat) ∨ (x_t = 2 ∧ r = m_many z I0 a0 c_t y) ∨ (x_t = 3 ∧ ((y_t = (I0 a0 12).toInt ∧ (I0 (h_ad z a0 24) c_t.toNat).toInt ≠ 0 ∧ r.toInt = 1) ∨ (¬ (y_t = (I0 a0 12).toInt ∧ (I0 (h_ad z a0 24) c_t.toNat).toInt ≠ 0) ∧ r.toInt = 0)))))))) 0 0 (fun _ => False) := by
  refine Met.ofW (cc := cX12_club) (maxL := 4) (ret := (some .int)) (by decide) rfl ?_
  intro pr_ ev_ s m args below meth cd_ s₁ B hml hv
  obtain ⟨rfl, hE, hk, hX, hA, hK, hI, hR, hB0⟩ := hv
  have g : h_G h_so h_fk E A z I0 L0 s s.heap s.heap [] := ⟨hK, va_S.rf, hB0⟩
  have hx := B.exec
  have hb := B.bytes
  have hr := B.returns
  have hts := atoms_spec (ws := wsX12_club) B.pre
  have hown : s.vm.findClass RX12 = some m.cls := findClass_of_methodNamed B.named
  have hlocks := B.notSynchronized
  have iX12 : ∀ w ∈ u_ws RX12 TX12 51, w ∈ wsX12_club := by decide +kernel
  have hl := lv_entry ([.ref a0, .int c, .int y, .int x]) (n := 4) (Nat.le_of_ble_eq_true rfl)
  rw [lg_entry_eq]
  generalize (lg_sl ([.ref a0, .int c, .int y, .int x]) ++ List.replicate (4 - (lg_sl ([.ref a0, .int c, .int y, .int x])).length) Slot.unset).toArray = ls at hl ⊢
  have hl : lv_has ls 4 [(0, .ref a0), (1, .int c), (2, .int y), (3, .int x)] := hl
  have b_c : -2147483648 ≤ c_t ∧ c_t ≤ 2147483647 := h_c ▸ ⟨xi_lo c, Int.le_of_lt_add_one (xi_hi c)⟩
  have b_y : -2147483648 ≤ y_t ∧ y_t ≤ 2147483647 := h_y ▸ ⟨xi_lo y, Int.le_of_lt_add_one (xi_hi y)⟩
  have b_x : -2147483648 ≤ x_t ∧ x_t ≤ 2147483647 := h_x ▸ ⟨xi_lo x, Int.le_of_lt_add_one (xi_hi x)⟩
  obtain ⟨us, rus, tus⟩ := hR.at a0 24 t_a0 (rfl : h_rs 13 24 = some (1324, false)) (by decide)
  have aus : h_ad z a0 24 = us := h_ad.at rus
  obtain ⟨de, rde, tde⟩ := hR.at a0 23 t_a0 (rfl : h_rs 13 23 = some (1323, false)) (by decide)
  have ade : h_ad z a0 23 = de := h_ad.at rde
  obtain ⟨f0_12, ef0_12⟩ : ∃ v : Int32, v = I0 a0 12 := ⟨_, rfl⟩
  have qf0_12 : (I0 a0 12).toInt = f0_12.toInt := congrArg Int32.toInt ef0_12.symm
  have jf0_12 := hI.rd a0 12 t_a0 ef0_12 (rfl : h_bd 13 12 = (0, 9))
  refine lv_iload_n hx hb dX12_club_0 rfl (lv_at hl 1 rfl) ?_
  refine vp_callSi (W.runS (As := [.int c]) (rest := []) ⟨hx, hb, hml, hown, hts⟩ (tX12_isClub l E X A z I0 L0 c (c_t) h_c) (va_cwS 1 hts gX12_club_X12_isClub rfl rfl rfl (by decide +kernel) ⟨Nat.le_of_ble_eq_true rfl, Nat.le_of_ble_eq_true rfl⟩) ⟨h_blind _ _ _ _ _ _ _, h_pre _ hE hk hX hA hI hR g⟩ rfl rfl hl.1 rfl (lv_room (Nat.le_of_ble_eq_true rfl)) dX12_club_1 ⟨Nat.le_of_ble_eq_true rfl, Nat.le_of_ble_eq_true rfl⟩) (fun rh1 h1 => ?_)
  rcases h1 with ⟨rfl, h1⟩ | ⟨rfl, h1⟩
  · skip
    refine lv_if_eq (tgt := 23) hx hb dX12_club_4 (by decide) (fun _ => ?_) (fun h => absurd (by decide) h)
    refine lv_bipush (v := (-2)) hx hb dX12_club_23 (by decide) ?_
    exact W.iret (v := (-2)) hx hb hr (fun t ht hW => ⟨(-2), rfl, (by rw [qf0_12]; exact Or.inl ⟨by omega, by decide⟩), ht⟩) (fun _ h => by cases h) dX12_club_25
  · skip
    refine lv_if_eq (tgt := 23) hx hb dX12_club_4 (by decide) (fun h => absurd h (by decide)) (fun _ => ?_)
    refine lv_iload_n hx hb dX12_club_7 rfl (lv_at hl 2 rfl) ?_
    refine lv_i2l hx hb dX12_club_8 rfl ?_
    refine lv_topl (fun v4 ev4 => ?_)
    have jv4 : v4.toInt = y_t := by rw [ev4, xi_64]; exact h_y
    refine lv_aload_n hx hb dX12_club_9 rfl (lv_at hl 0 rfl) ?_
    refine h_get (v := .int f0_12) hx hb hts iX12 hown g t_a0 (by decide) so_13 rfl 12 (by decide) (hts (.fieldLink RX12 187 "CapLeagueModel" "clock" "I") (by decide +kernel)) rfl dX12_club_10 (congrArg Value.int (ef0_12.symm)) ?_
    refine lv_i2l hx hb dX12_club_13 rfl ?_
    refine lv_topl (fun v5 ev5 => ?_)
    have jv5 : v5.toInt = f0_12.toInt := by rw [ev5, xi_64]
    refine lv_ldc2 (v := 9) hx hb hown (hts (.constantLong RX12 190 (9)) (by decide +kernel)) dX12_club_14 ?_
    refine vp_callSi (W.runS (As := [.long v4, .long v5, .long 9]) (rest := []) ⟨hx, hb, hml, hown, hts⟩ (tX12_in l E X A z I0 L0 v4 (y_t) jv4 v5 (f0_12.toInt) jv5 9 (9) (by decide)) (va_cwS 3 hts gX12_club_X12_in rfl rfl rfl (by decide +kernel) ⟨Nat.le_of_ble_eq_true rfl, Nat.le_of_ble_eq_true rfl⟩) ⟨h_blind _ _ _ _ _ _ _, h_pre _ hE hk hX hA hI hR g⟩ rfl rfl hl.1 rfl (lv_room (Nat.le_of_ble_eq_true rfl)) dX12_club_17 ⟨Nat.le_of_ble_eq_true rfl, Nat.le_of_ble_eq_true rfl⟩) (fun rh6 h6 => ?_)
    rcases h6 with ⟨rfl, h6⟩ | ⟨rfl, h6⟩
    · skip
      refine lv_if_ne (tgt := 26) hx hb dX12_club_20 (by decide) (fun h => absurd (by decide) h) (fun _ => ?_)
      refine lv_bipush (v := (-2)) hx hb dX12_club_23 (by decide) ?_
      exact W.iret (v := (-2)) hx hb hr (fun t ht hW => ⟨(-2), rfl, (by rw [qf0_12]; exact Or.inl ⟨by omega, by decide⟩), ht⟩) (fun _ h => by cases h) dX12_club_25
    · skip
      refine lv_if_ne (tgt := 26) hx hb dX12_club_20 (by decide) (fun _ => ?_) (fun h => absurd h (by decide))
      have kc : c.toNatClampNeg = c_t.toNat := h_keq h_c (by omega) (by omega)
      have ky : y.toNatClampNeg = y_t.toNat := h_keq h_y (by omega) (by omega)
      refine lv_iload_n hx hb dX12_club_26 rfl (lv_at hl 3 rfl) ?_
      have qc9 : x.toInt = x_t := h_x
      rcases (show (x.toInt < 0 ∨ 3 < x.toInt) ∨ x.toInt = 0 ∨ x.toInt = 1 ∨ x.toInt = 2 ∨ x.toInt = 3 by omega) with c9 | c9 | c9 | c9 | c9
      · refine lv_tableOut (tgt := 105) hx hb dX12_club_27 c9 (by decide) ?_
        refine lv_bipush (v := (-2)) hx hb dX12_club_105 (by decide) ?_
        exact W.iret (v := (-2)) hx hb hr (fun t ht hW => ⟨(-2), rfl, (by rw [qf0_12]; exact Or.inl ⟨by omega, by decide⟩), ht⟩) (fun _ h => by cases h) dX12_club_107
      · refine lv_tableIn (off := 29) (tgt := 56) hx hb dX12_club_27 (by omega) (by omega) (by rw [show (x.toInt - 0).toNat = 0 by omega]; rfl) (by decide) ?_
        refine lv_aload_n hx hb dX12_club_56 rfl (lv_at hl 0 rfl) ?_
        refine lv_iload_n hx hb dX12_club_57 rfl (lv_at hl 1 rfl) ?_
        refine lv_iload_n hx hb dX12_club_58 rfl (lv_at hl 2 rfl) ?_
        refine vp_callSi (W.runV (As := [.int c, .int y]) (rest := []) ⟨hx, hb, hml, hown, hts⟩ (tX12_countsB l E X A z I0 L0 a0 t_a0 c (c_t) h_c (by omega) y (y_t) h_y (by omega) (u_) (hrl) (hob) (hpb)) (cwV 2 hts gX12_club_X12_counts rfl rfl rfl (by decide +kernel) ⟨Nat.le_of_ble_eq_true rfl, Nat.le_of_ble_eq_true rfl⟩) ⟨h_blind _ _ _ _ _ _ _, h_recv g t_a0 (by decide) so_13 (q := (RX12, TX12, 51)) rfl, h_pre _ hE hk hX hA hI hR g⟩ rfl rfl hl.1 rfl (lv_room (Nat.le_of_ble_eq_true rfl)) dX12_club_59 ⟨Nat.le_of_ble_eq_true rfl, Nat.le_of_ble_eq_true rfl⟩) (fun rh10 h10 => ?_)
        have h10p0 := h10
        have jrh10 : -2147483648 ≤ rh10.toInt ∧ rh10.toInt ≤ 2147483647 := ⟨xi_lo _, Int.le_of_lt_add_one (xi_hi _)⟩
        exact W.iret (v := rh10) hx hb hr (fun t ht hW => ⟨rh10, rfl, (by rw [qf0_12]; refine Or.inr ⟨by omega, ?_⟩; exact Or.inl ⟨by omega, h10p0⟩), ht⟩) (fun _ h => by cases h) dX12_club_62
      · refine lv_tableIn (off := 36) (tgt := 63) hx hb dX12_club_27 (by omega) (by omega) (by rw [show (x.toInt - 0).toNat = 1 by omega]; rfl) (by decide) ?_
        refine lv_aload_n hx hb dX12_club_63 rfl (lv_at hl 0 rfl) ?_
        refine h_get (v := .ref de) hx hb hts iX12 hown g t_a0 (by decide) so_13 rfl 23 (by decide) (hts (.fieldLink RX12 52 "CapLeagueModel" "dead" "[I") (by decide +kernel)) rfl dX12_club_64 (by show va_rf (z.R a0 23) = _; rw [rde]; rfl) ?_
        refine lv_bipush (v := 10) hx hb dX12_club_67 (by decide) ?_
        refine lv_iload_n hx hb dX12_club_69 rfl (lv_at hl 1 rfl) ?_
        refine lv_imul hx hb dX12_club_70 ?_
        refine lv_topi (fun v11 ev11 => ?_)
        have jv11 : v11.toInt = 10 * c_t := xi_mul ev11 (by decide) h_c (by omega) (by omega)
        refine lv_iload_n hx hb dX12_club_71 rfl (lv_at hl 2 rfl) ?_
        refine lv_iadd hx hb dX12_club_72 ?_
        refine lv_topi (fun v12 ev12 => ?_)
        have jv12 : v12.toInt = v11.toInt + y_t := xi_add ev12 rfl h_y (by omega) (by omega)
        refine h_ald hx hb g tde (by decide) so_1323 (xi_in (by omega) (by omega)) dX12_club_73 ?_
        refine lv_topi (fun v13 ev13 => ?_)
        have jv13 := hI.rd de v12.toNatClampNeg tde ev13 (rfl : h_bd 1323 _ = ((-2147483648), 2147483647))
        exact W.iret (v := v13) hx hb hr (fun t ht hW => ⟨v13, rfl, (by rw [qf0_12]; refine Or.inr ⟨by omega, ?_⟩; refine Or.inr (Or.inl ⟨by omega, ?_⟩); rw [ade, ← h_keq (i := v12) (t := v12.toInt) (k := (10 * c_t + y_t).toNat) rfl (by omega) (by omega)]; exact ev13), ht⟩) (fun _ h => by cases h) dX12_club_74
      · refine lv_tableIn (off := 48) (tgt := 75) hx hb dX12_club_27 (by omega) (by omega) (by rw [show (x.toInt - 0).toNat = 2 by omega]; rfl) (by decide) ?_
        refine lv_aload_n hx hb dX12_club_75 rfl (lv_at hl 0 rfl) ?_
        refine lv_iload_n hx hb dX12_club_76 rfl (lv_at hl 1 rfl) ?_
        refine lv_iload_n hx hb dX12_club_77 rfl (lv_at hl 2 rfl) ?_
        refine vp_callSi (W.runV (As := [.int c, .int y]) (rest := []) ⟨hx, hb, hml, hown, hts⟩ (tX12_manyOfB l E X A z I0 L0 a0 t_a0 c (c_t) h_c y (y_t) h_y) (cwV 2 hts gX12_club_X12_manyOf rfl rfl rfl (by decide +kernel) ⟨Nat.le_of_ble_eq_true rfl, Nat.le_of_ble_eq_true rfl⟩) ⟨h_blind _ _ _ _ _ _ _, h_recv g t_a0 (by decide) so_13 (q := (RX12, TX12, 51)) rfl, h_pre _ hE hk hX hA hI hR g⟩ rfl rfl hl.1 rfl (lv_room (Nat.le_of_ble_eq_true rfl)) dX12_club_78 ⟨Nat.le_of_ble_eq_true rfl, Nat.le_of_ble_eq_true rfl⟩) (fun rh14 h14 => ?_)
        have h14p0 := h14
        have jrh14 : -2147483648 ≤ rh14.toInt ∧ rh14.toInt ≤ 2147483647 := ⟨xi_lo _, Int.le_of_lt_add_one (xi_hi _)⟩
        exact W.iret (v := rh14) hx hb hr (fun t ht hW => ⟨rh14, rfl, (by rw [qf0_12]; refine Or.inr ⟨by omega, ?_⟩; exact Or.inr (Or.inr (Or.inl ⟨by omega, h14p0⟩))), ht⟩) (fun _ h => by cases h) dX12_club_81
      · refine lv_tableIn (off := 55) (tgt := 82) hx hb dX12_club_27 (by omega) (by omega) (by rw [show (x.toInt - 0).toNat = 3 by omega]; rfl) (by decide) ?_
        refine lv_iload_n hx hb dX12_club_82 rfl (lv_at hl 2 rfl) ?_
        refine lv_aload_n hx hb dX12_club_83 rfl (lv_at hl 0 rfl) ?_
        refine h_get (v := .int f0_12) hx hb hts iX12 hown g t_a0 (by decide) so_13 rfl 12 (by decide) (hts (.fieldLink RX12 187 "CapLeagueModel" "clock" "I") (by decide +kernel)) rfl dX12_club_84 (congrArg Value.int (ef0_12.symm)) ?_
        refine lv_icmp_ne (tgt := 103) hx hb dX12_club_87 (by decide) (fun c15 => ?_) (fun c15 => ?_)
        · have ic15 := (xi_ne c15 h_y rfl : y_t ≠ f0_12.toInt)
          refine lv_iconst (v := 0) hx hb dX12_club_103 (by decide) ?_
          exact W.iret (v := 0) hx hb hr (fun t ht hW => ⟨0, rfl, (by rw [qf0_12]; refine Or.inr ⟨by omega, ?_⟩; refine Or.inr (Or.inr (Or.inr ⟨by omega, ?_⟩)); rw [aus]; have z9 : (0 : Int32).toInt = 0 := (by decide); omega), ht⟩) (fun _ h => by cases h) dX12_club_104
        · have ic15 := (xi_eq c15 h_y rfl : y_t = f0_12.toInt)
          refine lv_aload_n hx hb dX12_club_90 rfl (lv_at hl 0 rfl) ?_
          refine h_get (v := .ref us) hx hb hts iX12 hown g t_a0 (by decide) so_13 rfl 24 (by decide) (hts (.fieldLink RX12 55 "CapLeagueModel" "usedSpare" "[Z") (by decide +kernel)) rfl dX12_club_91 (by show va_rf (z.R a0 24) = _; rw [rus]; rfl) ?_
          refine lv_iload_n hx hb dX12_club_94 rfl (lv_at hl 1 rfl) ?_
          refine h_zald hx hb g tus (by decide) so_1324 (xi_in (by rw [h_c]; omega) (by rw [h_c]; omega)) dX12_club_95 ?_
          refine lv_topi (fun v16 ev16 => ?_)
          have jv16 := hI.rd us c.toNatClampNeg tus ev16 (rfl : h_bd 1324 _ = (0, 1))
          refine lv_if_eq (tgt := 103) hx hb dX12_club_96 (by decide) (fun c17 => ?_) (fun c17 => ?_)
          · have ic17 := (xi_eq c17 rfl (by decide) : v16.toInt = 0)
            refine lv_iconst (v := 0) hx hb dX12_club_103 (by decide) ?_
            exact W.iret (v := 0) hx hb hr (fun t ht hW => ⟨0, rfl, (by rw [qf0_12]; refine Or.inr ⟨by omega, ?_⟩; refine Or.inr (Or.inr (Or.inr ⟨by omega, ?_⟩)); rw [aus, ← kc, ← ev16]; have z9 : (0 : Int32).toInt = 0 := (by decide); omega), ht⟩) (fun _ h => by cases h) dX12_club_104
          · have ic17 := (xi_ne c17 rfl (by decide) : v16.toInt ≠ 0)
            refine lv_iconst (v := 1) hx hb dX12_club_99 (by decide) ?_
            refine lv_goto (tgt := 104) hx hb dX12_club_100 (by decide) ?_
            exact W.iret (v := 1) hx hb hr (fun t ht hW => ⟨1, rfl, (by rw [qf0_12]; refine Or.inr ⟨by omega, ?_⟩; refine Or.inr (Or.inr (Or.inr ⟨by omega, ?_⟩)); rw [aus, ← kc, ← ev16]; have z9 : (1 : Int32).toInt = 1 := (by decide); omega), ht⟩) (fun _ h => by cases h) dX12_club_104

