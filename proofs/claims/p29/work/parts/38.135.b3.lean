set_option maxHeartbeats 4000000 in
set_option maxRecDepth 100000 in
theorem tX12_countOfB (l : Launch) (E : tE) (X : tX) (A : Nat → Prop) (z : tZ) (I0 : tI) (L0 : tL) (a0 : Nat) (t_a0 : z.ty a0 = 13) (p : Int32) (p_t : Int) (h_p : p.toInt = p_t) (b_p : 0 ≤ p_t ∧ p_t ≤ 59) (y : Int32) (y_t : Int) (h_y : y.toInt = y_t) : Met l yX12_countOf wsX12_countOf ({ frames := 3, cells := 0, slots := 0, locals := 192 }) (va_Pc [.ref a0, .int p, .int y] (h_P E X A z I0 L0)) (vp_Si (fun r => (∀ u : Nat → Int, h_r12 (I0 (h_ad z a0 11)) (I0 (h_ad z a0 10)) (I0 a0 12).toInt u → q_okb u → (q_pay (I0 (h_ad z a0 14) p_t.toNat) (I0 (h_ad z a0 15) p_t.toNat) (I0 (h_ad z a0 16) p_t.toNat) (I0 (h_ad z a0 17) p_t.toNat) (I0 (h_ad z a0 18) p_t.toNat) y).toInt ≤ 1000000 → r = q_cn2 (I0 (h_ad z a0 14) p_t.toNat) (I0 (h_ad z a0 15) p_t.toNat) (I0 (h_ad z a0 16) p_t.toNat) (I0 (h_ad z a0 17) p_t.toNat) (I0 (h_ad z a0 18) p_t.toNat) (I0 (h_ad z a0 20) p_t.toNat) (I0 (h_ad z a0 21) p_t.toNat) (I0 (h_ad z a0 22) p_t.toNat) y (I0 a0 12) (u 6)))) 0 0 (fun _ => False) := by
  refine Met.ofW (cc := cX12_countOf) (maxL := 4) (ret := (some .int)) (by decide) rfl ?_
  intro pr_ ev_ s m args below meth cd_ s₁ B hml hv
  obtain ⟨rfl, hE, hk, hX, hA, hK, hI, hR, hB0⟩ := hv
  have g : h_G h_so h_fk E A z I0 L0 s s.heap s.heap [] := ⟨hK, va_S.rf, hB0⟩
  have hx := B.exec
  have hb := B.bytes
  have hr := B.returns
  have hts := atoms_spec (ws := wsX12_countOf) B.pre
  have hown : s.vm.findClass RX12 = some m.cls := findClass_of_methodNamed B.named
  have hlocks := B.notSynchronized
  have iX12 : ∀ w ∈ u_ws RX12 TX12 51, w ∈ wsX12_countOf := by decide +kernel
  have hl := lv_entry ([.ref a0, .int p, .int y]) (n := 4) (Nat.le_of_ble_eq_true rfl)
  rw [lg_entry_eq]
  generalize (lg_sl ([.ref a0, .int p, .int y]) ++ List.replicate (4 - (lg_sl ([.ref a0, .int p, .int y])).length) Slot.unset).toArray = ls at hl ⊢
  have hl : lv_has ls 4 [(0, .ref a0), (1, .int p), (2, .int y)] := hl
  have b_y : -2147483648 ≤ y_t ∧ y_t ≤ 2147483647 := h_y ▸ ⟨xi_lo y, Int.le_of_lt_add_one (xi_hi y)⟩
  obtain ⟨cb, rcb, tcb⟩ := hR.at a0 14 t_a0 (rfl : h_rs 13 14 = some (1314, false)) (by decide)
  have acb : h_ad z a0 14 = cb := h_ad.at rcb
  obtain ⟨fi, rfi, tfi⟩ := hR.at a0 15 t_a0 (rfl : h_rs 13 15 = some (1315, false)) (by decide)
  have afi : h_ad z a0 15 = fi := h_ad.at rfi
  obtain ⟨la, rla, tla⟩ := hR.at a0 16 t_a0 (rfl : h_rs 13 16 = some (1316, false)) (by decide)
  have ala : h_ad z a0 16 = la := h_ad.at rla
  obtain ⟨pa, rpa, tpa⟩ := hR.at a0 17 t_a0 (rfl : h_rs 13 17 = some (1317, false)) (by decide)
  have apa : h_ad z a0 17 = pa := h_ad.at rpa
  obtain ⟨ri, rri, tri⟩ := hR.at a0 18 t_a0 (rfl : h_rs 13 18 = some (1318, false)) (by decide)
  have ari : h_ad z a0 18 = ri := h_ad.at rri
  obtain ⟨hc, rhc, thc⟩ := hR.at a0 20 t_a0 (rfl : h_rs 13 20 = some (1320, false)) (by decide)
  have ahc : h_ad z a0 20 = hc := h_ad.at rhc
  obtain ⟨it, rit, tit⟩ := hR.at a0 21 t_a0 (rfl : h_rs 13 21 = some (1321, false)) (by decide)
  have ait : h_ad z a0 21 = it := h_ad.at rit
  obtain ⟨hu, rhu, thu⟩ := hR.at a0 22 t_a0 (rfl : h_rs 13 22 = some (1322, false)) (by decide)
  have ahu : h_ad z a0 22 = hu := h_ad.at rhu
  obtain ⟨lw, rlw, tlw⟩ := hR.at a0 10 t_a0 (rfl : h_rs 13 10 = some (1310, false)) (by decide)
  have alw : h_ad z a0 10 = lw := h_ad.at rlw
  obtain ⟨hy, rhy, thy⟩ := hR.at a0 11 t_a0 (rfl : h_rs 13 11 = some (1311, false)) (by decide)
  have ahy : h_ad z a0 11 = hy := h_ad.at rhy
  obtain ⟨xcb, excb⟩ : ∃ v : Int32, v = I0 cb p.toNatClampNeg := ⟨_, rfl⟩
  have jxcb := hI.rd cb p.toNatClampNeg tcb excb (rfl : h_bd 1314 _ = ((-1), 7))
  obtain ⟨xfi, exfi⟩ : ∃ v : Int32, v = I0 fi p.toNatClampNeg := ⟨_, rfl⟩
  have jxfi := hI.rd fi p.toNatClampNeg tfi exfi (rfl : h_bd 1315 _ = ((-2147483648), 2147483647))
  obtain ⟨xla, exla⟩ : ∃ v : Int32, v = I0 la p.toNatClampNeg := ⟨_, rfl⟩
  have jxla := hI.rd la p.toNatClampNeg tla exla (rfl : h_bd 1316 _ = ((-2147483648), 2147483647))
  obtain ⟨xpa, expa⟩ : ∃ v : Int32, v = I0 pa p.toNatClampNeg := ⟨_, rfl⟩
  have jxpa := hI.rd pa p.toNatClampNeg tpa expa (rfl : h_bd 1317 _ = ((-2147483648), 2147483647))
  obtain ⟨xri, exri⟩ : ∃ v : Int32, v = I0 ri p.toNatClampNeg := ⟨_, rfl⟩
  have jxri := hI.rd ri p.toNatClampNeg tri exri (rfl : h_bd 1318 _ = ((-2147483648), 2147483647))
  obtain ⟨xhc, exhc⟩ : ∃ v : Int32, v = I0 hc p.toNatClampNeg := ⟨_, rfl⟩
  have jxhc := hI.rd hc p.toNatClampNeg thc exhc (rfl : h_bd 1320 _ = (0, 1))
  obtain ⟨xit, exit⟩ : ∃ v : Int32, v = I0 it p.toNatClampNeg := ⟨_, rfl⟩
  have jxit := hI.rd it p.toNatClampNeg tit exit (rfl : h_bd 1321 _ = (0, 1))
  obtain ⟨xhu, exhu⟩ : ∃ v : Int32, v = I0 hu p.toNatClampNeg := ⟨_, rfl⟩
  have jxhu := hI.rd hu p.toNatClampNeg thu exhu (rfl : h_bd 1322 _ = (0, 1))
  obtain ⟨f0_12, ef0_12⟩ : ∃ v : Int32, v = I0 a0 12 := ⟨_, rfl⟩
  have qf0_12 : (I0 a0 12).toInt = f0_12.toInt := congrArg Int32.toInt ef0_12.symm
  have jf0_12 := hI.rd a0 12 t_a0 ef0_12 (rfl : h_bd 13 12 = (0, 9))
  have kp : p.toNatClampNeg = p_t.toNat := h_keq h_p (by omega) (by omega)
  have qy : y.toInt = y_t := h_y
  refine lv_aload_n hx hb dX12_countOf_0 rfl (lv_at hl 0 rfl) ?_
  refine lv_iload_n hx hb dX12_countOf_1 rfl (lv_at hl 1 rfl) ?_
  refine lv_iload_n hx hb dX12_countOf_2 rfl (lv_at hl 2 rfl) ?_
  refine vp_callSi (W.runV (As := [.int p, .int y]) (rest := []) ⟨hx, hb, hml, hown, hts⟩ (tX12_isUnderB l E X A z I0 L0 a0 t_a0 p (p_t) h_p (by omega) y (y_t) h_y) (cwV 2 hts gX12_countOf_X12_isUnder rfl rfl rfl (by decide +kernel) ⟨Nat.le_of_ble_eq_true rfl, Nat.le_of_ble_eq_true rfl⟩) ⟨h_blind _ _ _ _ _ _ _, h_recv g t_a0 (by decide) so_13 (q := (RX12, TX12, 51)) rfl, h_pre _ hE hk hX hA hI hR g⟩ rfl rfl hl.1 rfl (lv_room (Nat.le_of_ble_eq_true rfl)) dX12_countOf_3 ⟨Nat.le_of_ble_eq_true rfl, Nat.le_of_ble_eq_true rfl⟩) (fun rh1 h1 => ?_)
  obtain ⟨h1, h1p0⟩ := h1
  rw [acb, afi, ala, ahc, ait, ← kp, ← excb, ← exfi, ← exla, ← exhc, ← exit] at h1p0
  refine lv_if_ne (tgt := 11) hx hb dX12_countOf_6 (by decide) (fun c2 => ?_) (fun c2 => ?_)
  · have ic2 := (xi_ne c2 rfl (by decide) : rh1.toInt ≠ 0)
    refine lv_aload_n hx hb dX12_countOf_11 rfl (lv_at hl 0 rfl) ?_
    refine lv_iload_n hx hb dX12_countOf_12 rfl (lv_at hl 1 rfl) ?_
    refine lv_iload_n hx hb dX12_countOf_13 rfl (lv_at hl 2 rfl) ?_
    refine vp_callSi (W.runV (As := [.int p, .int y]) (rest := []) ⟨hx, hb, hml, hown, hts⟩ (tX12_payOfB l E X A z I0 L0 a0 t_a0 p (p_t) h_p (by omega) y (y_t) h_y) (cwV 2 hts gX12_countOf_X12_payOf rfl rfl rfl (by decide +kernel) ⟨Nat.le_of_ble_eq_true rfl, Nat.le_of_ble_eq_true rfl⟩) ⟨h_blind _ _ _ _ _ _ _, h_recv g t_a0 (by decide) so_13 (q := (RX12, TX12, 51)) rfl, h_pre _ hE hk hX hA hI hR g⟩ rfl rfl hl.1 rfl (lv_room (Nat.le_of_ble_eq_true rfl)) dX12_countOf_14 ⟨Nat.le_of_ble_eq_true rfl, Nat.le_of_ble_eq_true rfl⟩) (fun rh3 h3 => ?_)
    have h3p0 := h3
    have jrh3 : -2147483648 ≤ rh3.toInt ∧ rh3.toInt ≤ 2147483647 := ⟨xi_lo _, Int.le_of_lt_add_one (xi_hi _)⟩
    rw [acb, afi, ala, apa, ari, ← kp, ← excb, ← exfi, ← exla, ← expa, ← exri] at h3p0
    have py0 : 0 ≤ rh3.toInt := by rw [h3p0]; exact q_pay_0 _ _ _ _ _ _
    refine lv_istore_n (lv' := [(3, .int rh3), (0, .ref a0), (1, .int p), (2, .int y)]) hx hb dX12_countOf_17 rfl hl (by decide) rfl (fun ls hl => ?_)
    refine lv_aload_n hx hb dX12_countOf_18 rfl (lv_at hl 1 rfl) ?_
    refine h_get (v := .ref hu) hx hb hts iX12 hown g t_a0 (by decide) so_13 rfl 22 (by decide) (hts (.fieldLink RX12 49 "CapLeagueModel" "isHurt" "[Z") (by decide +kernel)) rfl dX12_countOf_19 (by show va_rf (z.R a0 22) = _; rw [rhu]; rfl) ?_
    refine lv_iload_n hx hb dX12_countOf_22 rfl (lv_at hl 2 rfl) ?_
    refine h_zald hx hb g thu (by decide) so_1322 (xi_in (by rw [h_p]; omega) (by rw [h_p]; omega)) dX12_countOf_23 ?_
    refine xw_i (exhu.symm) ?_
    refine lv_if_eq (tgt := 52) hx hb dX12_countOf_24 (by decide) (fun c4 => ?_) (fun c4 => ?_)
    · have ic4 := (xi_eq c4 rfl (by decide) : xhu.toInt = 0)
      refine lv_iload_n hx hb dX12_countOf_52 rfl (lv_at hl 0 rfl) ?_
      exact W.iret (v := rh3) hx hb hr (fun t ht hW => ⟨rh3, rfl, (fun u hr hob hpb => by rw [ahy, alw, ← ef0_12] at hr; rw [← ef0_12, acb, afi, ala, apa, ari, ahc, ait, ahu, ← kp, ← excb, ← exfi, ← exla, ← expa, ← exri, ← exhc, ← exit, ← exhu]; rw [acb, afi, ala, apa, ari, ← kp, ← excb, ← exfi, ← exla, ← expa, ← exri] at hpb; unfold q_cn2; rw [if_pos (by rcases h1p0 with q | q; exact q.2; exact absurd q.1 (by omega)), if_neg (fun q => absurd q (by omega))]; exact h3p0), ht⟩) (fun _ h => by cases h) dX12_countOf_53
    · have ic4 := (xi_ne c4 rfl (by decide) : xhu.toInt ≠ 0)
      refine lv_iload_n hx hb dX12_countOf_27 rfl (lv_at hl 3 rfl) ?_
      refine lv_aload_n hx hb dX12_countOf_28 rfl (lv_at hl 1 rfl) ?_
      refine h_get (v := .int f0_12) hx hb hts iX12 hown g t_a0 (by decide) so_13 rfl 12 (by decide) (hts (.fieldLink RX12 187 "CapLeagueModel" "clock" "I") (by decide +kernel)) rfl dX12_countOf_29 (congrArg Value.int (ef0_12.symm)) ?_
      refine lv_icmp_ne (tgt := 52) hx hb dX12_countOf_32 (by decide) (fun c5 => ?_) (fun c5 => ?_)
      · have ic5 := (xi_ne c5 h_y rfl : y_t ≠ f0_12.toInt)
        refine lv_iload_n hx hb dX12_countOf_52 rfl (lv_at hl 0 rfl) ?_
        exact W.iret (v := rh3) hx hb hr (fun t ht hW => ⟨rh3, rfl, (fun u hr hob hpb => by rw [ahy, alw, ← ef0_12] at hr; rw [← ef0_12, acb, afi, ala, apa, ari, ahc, ait, ahu, ← kp, ← excb, ← exfi, ← exla, ← expa, ← exri, ← exhc, ← exit, ← exhu]; rw [acb, afi, ala, apa, ari, ← kp, ← excb, ← exfi, ← exla, ← expa, ← exri] at hpb; unfold q_cn2; rw [if_pos (by rcases h1p0 with q | q; exact q.2; exact absurd q.1 (by omega)), if_neg (fun q => absurd q (by omega))]; exact h3p0), ht⟩) (fun _ h => by cases h) dX12_countOf_53
      · have ic5 := (xi_eq c5 h_y rfl : y_t = f0_12.toInt)
        refine lv_iload_n hx hb dX12_countOf_35 rfl (lv_at hl 0 rfl) ?_
        refine lv_iload_n hx hb dX12_countOf_36 rfl (lv_at hl 0 rfl) ?_
        refine lv_aload_n hx hb dX12_countOf_37 rfl (lv_at hl 1 rfl) ?_
        refine lv_iload_n hx hb dX12_countOf_38 rfl (lv_at hl 3 rfl) ?_
        refine lv_bipush (v := 6) hx hb dX12_countOf_39 (by decide) ?_
        refine vp_callSi (W.runV (As := [.int y, .int 6]) (rest := [.int rh3, .int rh3]) ⟨hx, hb, hml, hown, hts⟩ (tX12_lawOfF l E X A z I0 L0 a0 t_a0 y (y_t) h_y (by omega) 6 (6) (by decide) (by omega)) (cwV 2 hts gX12_countOf_X12_lawOf rfl rfl rfl (by decide +kernel) ⟨Nat.le_of_ble_eq_true rfl, Nat.le_of_ble_eq_true rfl⟩) ⟨h_blind _ _ _ _ _ _ _, h_recv g t_a0 (by decide) so_13 (q := (RX12, TX12, 51)) rfl, h_pre _ hE hk hX hA hI hR g⟩ rfl rfl hl.1 rfl (lv_room (Nat.le_of_ble_eq_true rfl)) dX12_countOf_41 ⟨Nat.le_of_ble_eq_true rfl, Nat.le_of_ble_eq_true rfl⟩) (fun rh6 h6 => ?_)
        obtain ⟨h6p0, h6p1, h6p2⟩ := h6
        have jrh6 : -2147483648 ≤ rh6.toInt ∧ rh6.toInt ≤ 2147483647 := ⟨xi_lo _, Int.le_of_lt_add_one (xi_hi _)⟩
        rw [alw, ahy] at h6p0
        refine lv_imul hx hb dX12_countOf_44 ?_
        refine lv_topi (fun v7 ev7 => ?_)
        have jv7 : -2147483648 ≤ v7.toInt ∧ v7.toInt ≤ 2147483647 := ⟨xi_lo _, Int.le_of_lt_add_one (xi_hi _)⟩
        refine lv_bipush (v := 100) hx hb dX12_countOf_45 (by decide) ?_
        refine lv_idiv hx hb dX12_countOf_47 (by decide) ?_
        refine lv_topi (fun v8 ev8 => ?_)
        have jv8 : -2147483648 ≤ v8.toInt ∧ v8.toInt ≤ 2147483647 := ⟨xi_lo _, Int.le_of_lt_add_one (xi_hi _)⟩
        refine lv_isub hx hb dX12_countOf_48 ?_
        refine lv_topi (fun v9 ev9 => ?_)
        have jv9 : -2147483648 ≤ v9.toInt ∧ v9.toInt ≤ 2147483647 := ⟨xi_lo _, Int.le_of_lt_add_one (xi_hi _)⟩
        refine lv_goto (tgt := 53) hx hb dX12_countOf_49 (by decide) ?_
        exact W.iret (v := v9) hx hb hr (fun t ht hW => ⟨v9, rfl, (fun u hr hob hpb => by have hq9 : xhu.toInt ≠ 0 ∧ y.toInt = f0_12.toInt := ⟨by omega, by omega⟩; rw [ahy, alw, ← ef0_12] at hr; rw [← ef0_12, acb, afi, ala, apa, ari, ahc, ait, ahu, ← kp, ← excb, ← exfi, ← exla, ← expa, ← exri, ← exhc, ← exit, ← exhu]; rw [acb, afi, ala, apa, ari, ← kp, ← excb, ← exfi, ← exla, ← expa, ← exri] at hpb; unfold q_cn2; rw [← h3p0] at hpb; have hr2 : h_r12 (I0 hy) (I0 lw) y_t u := (by rw [show y_t = f0_12.toInt by omega]; exact hr); have g6 := hr2.at (x := 6) (by decide) h6p0; have hb6 := hob.2.2.2.2.2.2.1; have h9 := q_hun32 ev7 ev8 g6 py0 hpb hb6.1 (by omega); rw [if_pos (by rcases h1p0 with q | q; exact q.2; exact absurd q.1 (by omega)), if_pos hq9, ev9, h9, ← h3p0]), ht⟩) (fun _ h => by cases h) dX12_countOf_53
  · have ic2 := (xi_eq c2 rfl (by decide) : rh1.toInt = 0)
    refine lv_iconst (v := 0) hx hb dX12_countOf_9 (by decide) ?_
    exact W.iret (v := 0) hx hb hr (fun t ht hW => ⟨0, rfl, (fun u hr hob hpb => by rw [ahy, alw, ← ef0_12] at hr; rw [← ef0_12, acb, afi, ala, apa, ari, ahc, ait, ahu, ← kp, ← excb, ← exfi, ← exla, ← expa, ← exri, ← exhc, ← exit, ← exhu]; rw [acb, afi, ala, apa, ari, ← kp, ← excb, ← exfi, ← exla, ← expa, ← exri] at hpb; unfold q_cn2; rw [if_neg (by rcases h1p0 with q | q; exact absurd q.1 (by omega); exact q.2)]), ht⟩) (fun _ h => by cases h) dX12_countOf_10

