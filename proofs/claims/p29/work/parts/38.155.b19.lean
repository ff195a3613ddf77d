set_option maxHeartbeats 4000000 in
set_option maxRecDepth 100000 in
theorem tX12_wrongTB (l : Launch) (E : tE) (X : tX) (A : Nat → Prop) (z : tZ) (I0 : tI) (L0 : tL) (a0 : Nat) (t_a0 : z.ty a0 = 13) (u_ : Nat → Int) (hrl : h_r12 (I0 (h_ad z a0 11)) (I0 (h_ad z a0 10)) (I0 a0 12).toInt u_) (hob : q_okb u_) (hpb : ∀ p : Nat, (p : Int) < (I0 a0 13).toInt → 0 ≤ (q_pay (I0 (h_ad z a0 14) p) (I0 (h_ad z a0 15) p) (I0 (h_ad z a0 16) p) (I0 (h_ad z a0 17) p) (I0 (h_ad z a0 18) p) (I0 a0 12)).toInt ∧ (q_pay (I0 (h_ad z a0 14) p) (I0 (h_ad z a0 15) p) (I0 (h_ad z a0 16) p) (I0 (h_ad z a0 17) p) (I0 (h_ad z a0 18) p) (I0 a0 12)).toInt ≤ 30000) (hft : ∀ i : Nat, (i : Int) < (I0 a0 33).toInt → (0 ≤ (I0 (h_ad z a0 35) i).toInt ∧ (I0 (h_ad z a0 35) i).toInt ≤ 7) ∧ 0 ≤ (I0 (h_ad z a0 36) i).toInt ∧ (I0 (h_ad z a0 36) i).toInt ≤ 7) (hne : ∀ i : Nat, (i : Int) < (I0 a0 33).toInt → (I0 (h_ad z a0 35) i).toInt ≠ (I0 (h_ad z a0 36) i).toInt) (hmm : ∀ i : Nat, (i : Int) < (I0 a0 33).toInt → (I0 (h_ad z a0 34) i).toInt < 60 → 0 ≤ (I0 (h_ad z a0 34) i).toInt ∧ (I0 (h_ad z a0 34) i).toInt < (I0 a0 13).toInt) : Met l yX12_wrongTrade wsX12_wrongTrade ({ frames := 5, cells := 0, slots := 0, locals := 320 }) (va_Pc [.ref a0] (h_P E X A z I0 L0)) (vp_Si (fun r => (0 ≤ r.toInt ∧ r.toInt ≤ 702) ∧ (r.toInt = q_ff (m_ft z I0 a0 u_) 8))) 0 0 (fun _ => False) := by
  refine Met.ofW (cc := cX12_wrongTrade) (maxL := 9) (ret := (some .int)) (by decide) rfl ?_
  intro pr_ ev_ s m args below meth cd_ s₁ B hml hv
  obtain ⟨rfl, hE, hk, hX, hA, hK, hI, hR, hB0⟩ := hv
  have g : h_G h_so h_fk E A z I0 L0 s s.heap s.heap [] := ⟨hK, va_S.rf, hB0⟩
  have hx := B.exec
  have hb := B.bytes
  have hr := B.returns
  have hts := atoms_spec (ws := wsX12_wrongTrade) B.pre
  have hown : s.vm.findClass RX12 = some m.cls := findClass_of_methodNamed B.named
  have hlocks := B.notSynchronized
  have iX12 : ∀ w ∈ u_ws RX12 TX12 51, w ∈ wsX12_wrongTrade := by decide +kernel
  have hl := lv_entry ([.ref a0]) (n := 9) (Nat.le_of_ble_eq_true rfl)
  rw [lg_entry_eq]
  generalize (lg_sl ([.ref a0]) ++ List.replicate (9 - (lg_sl ([.ref a0])).length) Slot.unset).toArray = ls at hl ⊢
  have hl : lv_has ls 9 [(0, .ref a0)] := hl
  obtain ⟨cb, rcb, tcb⟩ := hR.at a0 14 t_a0 (rfl : h_rs 13 14 = some (1314, false)) (by decide)
  have acb : h_ad z a0 14 = cb := h_ad.at rcb
  obtain ⟨fi, rfi, tfi⟩ := hR.at a0 15 t_a0 (rfl : h_rs 13 15 = some (1315, false)) (by decide)
  have afi : h_ad z a0 15 = fi := h_ad.at rfi
  obtain ⟨la, rla, tla⟩ := hR.at a0 16 t_a0 (rfl : h_rs 13 16 = some (1316, false)) (by decide)
  have ala : h_ad z a0 16 = la := h_ad.at rla
  obtain ⟨pa, rpa, tpa⟩ := hR.at a0 17 t_a0 (rfl : h_rs 13 17 = some (1317, false)) (by decide)
  have apa : h_ad z a0 17 = pa := h_ad.at rpa
  obtain ⟨ri, rri, tri⟩ := hR.at a0 18 t_a0 (rfl : h_rs 13 18 = some (1318, false)) (by decide)
  have ari : h_ad z a0 18 = ri := h_ad.at rri
  obtain ⟨hc, rhc, thc⟩ := hR.at a0 20 t_a0 (rfl : h_rs 13 20 = some (1320, false)) (by decide)
  have ahc : h_ad z a0 20 = hc := h_ad.at rhc
  obtain ⟨it, rit, tit⟩ := hR.at a0 21 t_a0 (rfl : h_rs 13 21 = some (1321, false)) (by decide)
  have ait : h_ad z a0 21 = it := h_ad.at rit
  obtain ⟨hu, rhu, thu⟩ := hR.at a0 22 t_a0 (rfl : h_rs 13 22 = some (1322, false)) (by decide)
  have ahu : h_ad z a0 22 = hu := h_ad.at rhu
  obtain ⟨lw, rlw, tlw⟩ := hR.at a0 10 t_a0 (rfl : h_rs 13 10 = some (1310, false)) (by decide)
  have alw : h_ad z a0 10 = lw := h_ad.at rlw
  obtain ⟨hy, rhy, thy⟩ := hR.at a0 11 t_a0 (rfl : h_rs 13 11 = some (1311, false)) (by decide)
  have ahy : h_ad z a0 11 = hy := h_ad.at rhy
  obtain ⟨md, rmd, tmd⟩ := hR.at a0 34 t_a0 (rfl : h_rs 13 34 = some (1334, false)) (by decide)
  have amd : h_ad z a0 34 = md := h_ad.at rmd
  obtain ⟨mf, rmf, tmf⟩ := hR.at a0 35 t_a0 (rfl : h_rs 13 35 = some (1335, false)) (by decide)
  have amf : h_ad z a0 35 = mf := h_ad.at rmf
  obtain ⟨mt, rmt, tmt⟩ := hR.at a0 36 t_a0 (rfl : h_rs 13 36 = some (1336, false)) (by decide)
  have amt : h_ad z a0 36 = mt := h_ad.at rmt
  obtain ⟨f0_12, ef0_12⟩ : ∃ v : Int32, v = I0 a0 12 := ⟨_, rfl⟩
  have qf0_12 : (I0 a0 12).toInt = f0_12.toInt := congrArg Int32.toInt ef0_12.symm
  have jf0_12 := hI.rd a0 12 t_a0 ef0_12 (rfl : h_bd 13 12 = (0, 9))
  obtain ⟨f0_13, ef0_13⟩ : ∃ v : Int32, v = I0 a0 13 := ⟨_, rfl⟩
  have qf0_13 : (I0 a0 13).toInt = f0_13.toInt := congrArg Int32.toInt ef0_13.symm
  have jf0_13 := hI.rd a0 13 t_a0 ef0_13 (rfl : h_bd 13 13 = (0, 60))
  obtain ⟨f0_33, ef0_33⟩ : ∃ v : Int32, v = I0 a0 33 := ⟨_, rfl⟩
  have qf0_33 : (I0 a0 33).toInt = f0_33.toInt := congrArg Int32.toInt ef0_33.symm
  have jf0_33 := hI.rd a0 33 t_a0 ef0_33 (rfl : h_bd 13 33 = (0, 12))
  have hr0 := hrl
  have hpb0 := hpb
  rw [ahy, alw, qf0_12] at hrl
  rw [amf, amt, ← ef0_33] at hft
  rw [amf, amt, ← ef0_33] at hne
  rw [amd, ← ef0_33, ← ef0_13] at hmm
  obtain ⟨FT, eFT⟩ : ∃ g : Nat → Int, g = m_ft z I0 a0 u_ := ⟨_, rfl⟩
  obtain ⟨py, epy⟩ : ∃ g : Nat → Int32, g = m_py z I0 a0 md := ⟨_, rfl⟩
  obtain ⟨ct, ect⟩ : ∃ g : Nat → Int32, g = m_ct z I0 a0 md (u_ 6) := ⟨_, rfl⟩
  refine lv_aload_n hx hb dX12_wrongTrade_0 rfl (lv_at hl 0 rfl) ?_
  refine vp_callSi (W.runV (As := []) (rest := []) ⟨hx, hb, hml, hown, hts⟩ (tX12_clubsOfB l E X A z I0 L0 a0 t_a0) (cwV 0 hts gX12_wrongTrade_X12_clubsOf rfl rfl rfl (by decide +kernel) ⟨Nat.le_of_ble_eq_true rfl, Nat.le_of_ble_eq_true rfl⟩) ⟨h_blind _ _ _ _ _ _ _, h_recv g t_a0 (by decide) so_13 (q := (RX12, TX12, 51)) rfl, h_pre _ hE hk hX hA hI hR g⟩ rfl rfl hl.1 rfl (lv_room (Nat.le_of_ble_eq_true rfl)) dX12_wrongTrade_1 ⟨Nat.le_of_ble_eq_true rfl, Nat.le_of_ble_eq_true rfl⟩) (fun rh1 h1 => ?_)
  have h1p0 := h1
  have jrh1 : -2147483648 ≤ rh1.toInt ∧ rh1.toInt ≤ 2147483647 := ⟨xi_lo _, Int.le_of_lt_add_one (xi_hi _)⟩
  rw [amf, amt, ← ef0_33] at h1p0
  have cb0 : 0 ≤ rh1.toInt ∧ rh1.toInt ≤ 255 := by rw [h1p0]; exact q_cb_lt _ (fun i hi => hft i (by omega))
  refine lv_istore_n (lv' := [(1, .int rh1), (0, .ref a0)]) hx hb dX12_wrongTrade_4 rfl hl (by decide) rfl (fun ls hl => ?_)
  refine lv_iconst (v := 0) hx hb dX12_wrongTrade_5 (by decide) ?_
  refine lv_istore_n (lv' := [(2, .int 0), (1, .int rh1), (0, .ref a0)]) hx hb dX12_wrongTrade_6 rfl hl (by decide) rfl (fun ls hl => ?_)
  have loop7_0 : ∀ (n : Nat) (ls : Array Slot) (v2 : Int32), lv_has ls 9 [(0, .ref a0), (1, .int rh1), (2, .int v2)] → (0 ≤ v2.toInt ∧ v2.toInt ≤ 8) → (q_ff FT (v2.toInt).toNat = 0) → (8 - v2.toInt) < (n : Int) → W pr_ l ev_ (headSpec wsX12_wrongTrade ({ frames := 5, cells := 0, slots := 0, locals := 320 })).room s m ([.ref a0] : List Value).toArray below meth cd_ s.heap [] 0 0 (MQ below (vp_Si (fun r => (0 ≤ r.toInt ∧ r.toInt ≤ 702) ∧ (r.toInt = q_ff (m_ft z I0 a0 u_) 8))) ([.ref a0] : List Value).toArray s 0 0 (fun _ => False)) (F0 m 7 ls []) := by
    intro n
    induction n with
    | zero => intro ls v2 hl jv2 hx7_0 hn; exact absurd hn (by omega)
    | succ n ih7 =>
      intro ls v2 hl jv2 hx7_0 hn
      obtain ⟨kd, ekd⟩ : ∃ g : Nat → Nat, g = m_kd I0 md mf mt v2.toInt := ⟨_, rfl⟩
      refine lv_iload_n hx hb dX12_wrongTrade_7 rfl (lv_at hl 2 rfl) ?_
      refine lv_bipush (v := 8) hx hb dX12_wrongTrade_8 (by decide) ?_
      refine lv_icmp_ge (tgt := 253) hx hb dX12_wrongTrade_10 (by decide) (fun c3 => ?_) (fun c3 => ?_)
      · have ic3 := (xi_le c3 (by decide) rfl : 8 ≤ v2.toInt)
        refine lv_iconst (v := 0) hx hb dX12_wrongTrade_253 (by decide) ?_
        exact W.iret (v := 0) hx hb hr (fun t ht hW => ⟨0, rfl, ⟨⟨(by decide), (by decide)⟩, (by rw [← eFT]; have h9 := hx7_0; rw [show v2.toInt.toNat = 8 by omega] at h9; rw [h9]; decide)⟩, ht⟩) (fun _ h => by cases h) dX12_wrongTrade_254
      · have ic3 := (xi_nle c3 (by decide) rfl : v2.toInt < 8)
        refine lv_iload_n hx hb dX12_wrongTrade_13 rfl (lv_at hl 1 rfl) ?_
        refine lv_iload_n hx hb dX12_wrongTrade_14 rfl (lv_at hl 2 rfl) ?_
        refine lv_ishr hx hb dX12_wrongTrade_15 ?_
        refine lv_topi (fun v4 ev4 => ?_)
        have jv4 : -2147483648 ≤ v4.toInt ∧ v4.toInt ≤ 2147483647 := ⟨xi_lo _, Int.le_of_lt_add_one (xi_hi _)⟩
        refine lv_iconst (v := 1) hx hb dX12_wrongTrade_16 (by decide) ?_
        refine lv_iand hx hb dX12_wrongTrade_17 ?_
        refine lv_topi (fun v5 ev5 => ?_)
        have jv5 : -2147483648 ≤ v5.toInt ∧ v5.toInt ≤ 2147483647 := ⟨xi_lo _, Int.le_of_lt_add_one (xi_hi _)⟩
        have bt := q_btm (c := v2) cb0 (by omega) ev4 ev5
        refine lv_if_ne (tgt := 24) hx hb dX12_wrongTrade_18 (by decide) (fun c6 => ?_) (fun c6 => ?_)
        · have ic6 := (xi_ne c6 rfl (by decide) : v5.toInt ≠ 0)
          refine lv_aload_n hx hb dX12_wrongTrade_24 rfl (lv_at hl 0 rfl) ?_
          refine lv_iload_n hx hb dX12_wrongTrade_25 rfl (lv_at hl 2 rfl) ?_
          refine lv_aload_n hx hb dX12_wrongTrade_26 rfl (lv_at hl 0 rfl) ?_
          refine h_get (v := .int f0_12) hx hb hts iX12 hown g t_a0 (by decide) so_13 rfl 12 (by decide) (hts (.fieldLink RX12 187 "CapLeagueModel" "clock" "I") (by decide +kernel)) rfl dX12_wrongTrade_27 (congrArg Value.int (ef0_12.symm)) ?_
          refine vp_callSi (W.runV (As := [.int v2, .int f0_12]) (rest := []) ⟨hx, hb, hml, hown, hts⟩ (tX12_manyOfB l E X A z I0 L0 a0 t_a0 v2 (v2.toInt) rfl f0_12 (f0_12.toInt) rfl) (cwV 2 hts gX12_wrongTrade_X12_manyOf rfl rfl rfl (by decide +kernel) ⟨Nat.le_of_ble_eq_true rfl, Nat.le_of_ble_eq_true rfl⟩) ⟨h_blind _ _ _ _ _ _ _, h_recv g t_a0 (by decide) so_13 (q := (RX12, TX12, 51)) rfl, h_pre _ hE hk hX hA hI hR g⟩ rfl rfl hl.1 rfl (lv_room (Nat.le_of_ble_eq_true rfl)) dX12_wrongTrade_30 ⟨Nat.le_of_ble_eq_true rfl, Nat.le_of_ble_eq_true rfl⟩) (fun rh7 h7 => ?_)
          have h7p0 := h7
          have jrh7 : -2147483648 ≤ rh7.toInt ∧ rh7.toInt ≤ 2147483647 := ⟨xi_lo _, Int.le_of_lt_add_one (xi_hi _)⟩
          rw [ef0_12] at h7p0
          refine lv_istore_n (lv' := [(3, .int rh7), (0, .ref a0), (1, .int rh1), (2, .int v2)]) hx hb dX12_wrongTrade_33 rfl hl (by decide) rfl (fun ls hl => ?_)
          refine lv_aload_n hx hb dX12_wrongTrade_34 rfl (lv_at hl 1 rfl) ?_
          refine lv_iload_n hx hb dX12_wrongTrade_35 rfl (lv_at hl 3 rfl) ?_
          refine lv_aload_n hx hb dX12_wrongTrade_36 rfl (lv_at hl 1 rfl) ?_
          refine h_get (v := .int f0_12) hx hb hts iX12 hown g t_a0 (by decide) so_13 rfl 12 (by decide) (hts (.fieldLink RX12 187 "CapLeagueModel" "clock" "I") (by decide +kernel)) rfl dX12_wrongTrade_37 (congrArg Value.int (ef0_12.symm)) ?_
          refine vp_callSi (W.runV (As := [.int v2, .int f0_12]) (rest := []) ⟨hx, hb, hml, hown, hts⟩ (tX12_countsB l E X A z I0 L0 a0 t_a0 v2 (v2.toInt) rfl (by omega) f0_12 (f0_12.toInt) rfl (by omega) (u_) (hr0) (hob) (by rw [ef0_12]; exact fun p hp => by have h9 := hpb0 p hp; omega)) (cwV 2 hts gX12_wrongTrade_X12_counts rfl rfl rfl (by decide +kernel) ⟨Nat.le_of_ble_eq_true rfl, Nat.le_of_ble_eq_true rfl⟩) ⟨h_blind _ _ _ _ _ _ _, h_recv g t_a0 (by decide) so_13 (q := (RX12, TX12, 51)) rfl, h_pre _ hE hk hX hA hI hR g⟩ rfl rfl hl.1 rfl (lv_room (Nat.le_of_ble_eq_true rfl)) dX12_wrongTrade_40 ⟨Nat.le_of_ble_eq_true rfl, Nat.le_of_ble_eq_true rfl⟩) (fun rh8 h8 => ?_)
          have h8p0 := h8
          have jrh8 : -2147483648 ≤ rh8.toInt ∧ rh8.toInt ≤ 2147483647 := ⟨xi_lo _, Int.le_of_lt_add_one (xi_hi _)⟩
          rw [ef0_12] at h8p0
          refine lv_istore (lv' := [(4, .int rh8), (3, .int rh7), (0, .ref a0), (1, .int rh1), (2, .int v2)]) hx hb dX12_wrongTrade_43 hl (by decide) rfl (fun ls hl => ?_)
          refine lv_iconst (v := 0) hx hb dX12_wrongTrade_45 (by decide) ?_
          refine lv_istore (lv' := [(5, .int 0), (4, .int rh8), (3, .int rh7), (0, .ref a0), (1, .int rh1), (2, .int v2)]) hx hb dX12_wrongTrade_46 hl (by decide) rfl (fun ls hl => ?_)
          refine lv_iconst (v := 0) hx hb dX12_wrongTrade_48 (by decide) ?_
          refine lv_istore (lv' := [(6, .int 0), (5, .int 0), (4, .int rh8), (3, .int rh7), (0, .ref a0), (1, .int rh1), (2, .int v2)]) hx hb dX12_wrongTrade_49 hl (by decide) rfl (fun ls hl => ?_)
          refine lv_iconst (v := 0) hx hb dX12_wrongTrade_51 (by decide) ?_
          refine lv_istore (lv' := [(7, .int 0), (6, .int 0), (5, .int 0), (4, .int rh8), (3, .int rh7), (0, .ref a0), (1, .int rh1), (2, .int v2)]) hx hb dX12_wrongTrade_52 hl (by decide) rfl (fun ls hl => ?_)
          have loop54_1 : ∀ (n : Nat) (ls : Array Slot) (v9 v10 v11 v12 v13 : Int32), lv_has ls 9 [(0, .ref a0), (1, .int rh1), (2, .int v2), (3, .int v9), (4, .int v10), (5, .int v11), (6, .int v12), (7, .int v13)] → ((-2147483648) ≤ v9.toInt ∧ v9.toInt ≤ 2147483647) → ((-2147483648) ≤ v10.toInt ∧ v10.toInt ≤ 2147483647) → ((-2147483648) ≤ v11.toInt ∧ v11.toInt ≤ 2147483647) → ((-2147483648) ≤ v12.toInt ∧ v12.toInt ≤ 2147483647) → (0 ≤ v13.toInt ∧ v13.toInt ≤ 12) → (v9 = q_pm kd (fun _ => 1) (m_many z I0 a0 v2.toInt (I0 a0 12)) (v13.toInt).toNat) → (v10 = q_pm kd ct (m_cnt z I0 a0 v2.toInt (I0 a0 12) (u_ 6)) (v13.toInt).toNat) → (v11 = q_on 1 kd py (v13.toInt).toNat) → (v12 = q_on 2 kd py (v13.toInt).toNat) → (v13.toInt ≤ f0_33.toInt) → (12 - v13.toInt) < (n : Int) → W pr_ l ev_ (headSpec wsX12_wrongTrade ({ frames := 5, cells := 0, slots := 0, locals := 320 })).room s m ([.ref a0] : List Value).toArray below meth cd_ s.heap [] 0 0 (MQ below (vp_Si (fun r => (0 ≤ r.toInt ∧ r.toInt ≤ 702) ∧ (r.toInt = q_ff (m_ft z I0 a0 u_) 8))) ([.ref a0] : List Value).toArray s 0 0 (fun _ => False)) (F0 m 54 ls []) := by
            intro n
            induction n with
            | zero => intro ls v9 v10 v11 v12 v13 hl jv9 jv10 jv11 jv12 jv13 hx54_0 hx54_1 hx54_2 hx54_3 hx54_4 hn; exact absurd hn (by omega)
            | succ n ih54 =>
              intro ls v9 v10 v11 v12 v13 hl jv9 jv10 jv11 jv12 jv13 hx54_0 hx54_1 hx54_2 hx54_3 hx54_4 hn
              have kv : v13.toNatClampNeg = v13.toInt.toNat := h_keq rfl (by omega) (by omega)
              refine lv_iload hx hb dX12_wrongTrade_54 (lv_at hl 7 rfl) ?_
              refine lv_aload_n hx hb dX12_wrongTrade_56 rfl (lv_at hl 0 rfl) ?_
              refine h_get (v := .int f0_33) hx hb hts iX12 hown g t_a0 (by decide) so_13 rfl 33 (by decide) (hts (.fieldLink RX12 247 "CapLeagueModel" "moves" "I") (by decide +kernel)) rfl dX12_wrongTrade_57 (congrArg Value.int (ef0_33.symm)) ?_
              refine lv_icmp_ge (tgt := 176) hx hb dX12_wrongTrade_60 (by decide) (fun c14 => ?_) (fun c14 => ?_)
              · have ic14 := (xi_le c14 rfl rfl : f0_33.toInt ≤ v13.toInt)
                have eN : v13.toInt.toNat = f0_33.toInt.toNat := by omega
                rw [eN] at hx54_0 hx54_1 hx54_2 hx54_3
                have hpo := q_on_b (k := 2) (a := kd) (f := py) f0_33.toInt.toNat (by omega) (fun i hi hq => by rw [ekd] at hq; have h9 : (I0 md i).toInt < 60 := Classical.byContradiction (fun q => hq (m_kd_0 (Or.inl (by omega)))); have h8 := hmm i (by omega) h9; rw [epy]; unfold m_py; exact hpb0 (I0 md i).toInt.toNat (by rw [← ef0_13]; omega)) (by decide)
                rw [← hx54_3] at hpo
                have eFc : FT v2.toInt.toNat = q_tf u_ (q_pm kd (fun _ => 1) (m_many z I0 a0 v2.toInt (I0 a0 12)) f0_33.toInt.toNat) (q_pm kd ct (m_cnt z I0 a0 v2.toInt (I0 a0 12) (u_ 6)) f0_33.toInt.toNat) (q_on 1 kd py f0_33.toInt.toNat) (q_on 2 kd py f0_33.toInt.toNat) := by rw [eFT]; unfold m_ft; rw [amf, amt, amd, ← ef0_33, ← h1p0, if_neg (fun q => absurd (bt.mpr q) (by omega)), show ((v2.toInt.toNat : Nat) : Int) = v2.toInt by omega]; unfold m_tfx; rw [← ekd, ← epy, ← ect]
                rw [← hx54_0, ← hx54_1, ← hx54_2, ← hx54_3] at eFc
                refine lv_iload_n hx hb dX12_wrongTrade_176 rfl (lv_at hl 3 rfl) ?_
                refine lv_aload_n hx hb dX12_wrongTrade_177 rfl (lv_at hl 0 rfl) ?_
                refine lv_aload_n hx hb dX12_wrongTrade_178 rfl (lv_at hl 0 rfl) ?_
                refine h_get (v := .int f0_12) hx hb hts iX12 hown g t_a0 (by decide) so_13 rfl 12 (by decide) (hts (.fieldLink RX12 187 "CapLeagueModel" "clock" "I") (by decide +kernel)) rfl dX12_wrongTrade_179 (congrArg Value.int (ef0_12.symm)) ?_
                refine lv_iconst (v := 1) hx hb dX12_wrongTrade_182 (by decide) ?_
                refine vp_callSi (W.runV (As := [.int f0_12, .int 1]) (rest := [.int v9]) ⟨hx, hb, hml, hown, hts⟩ (tX12_lawOfF l E X A z I0 L0 a0 t_a0 f0_12 (f0_12.toInt) rfl (by omega) 1 (1) (by decide) (by omega)) (cwV 2 hts gX12_wrongTrade_X12_lawOf rfl rfl rfl (by decide +kernel) ⟨Nat.le_of_ble_eq_true rfl, Nat.le_of_ble_eq_true rfl⟩) ⟨h_blind _ _ _ _ _ _ _, h_recv g t_a0 (by decide) so_13 (q := (RX12, TX12, 51)) rfl, h_pre _ hE hk hX hA hI hR g⟩ rfl rfl hl.1 rfl (lv_room (Nat.le_of_ble_eq_true rfl)) dX12_wrongTrade_183 ⟨Nat.le_of_ble_eq_true rfl, Nat.le_of_ble_eq_true rfl⟩) (fun rh15 h15 => ?_)
                obtain ⟨h15p0, h15p1, h15p2⟩ := h15
                have jrh15 : -2147483648 ≤ rh15.toInt ∧ rh15.toInt ≤ 2147483647 := ⟨xi_lo _, Int.le_of_lt_add_one (xi_hi _)⟩
                rw [alw, ahy] at h15p0
                have grh15 := hrl.at (x := 1) (by decide) h15p0
                clear h15p0
                have brh15 : 1 ≤ rh15.toInt ∧ rh15.toInt ≤ 15 := by have h9 := hob; unfold q_okb at h9; omega
                refine lv_icmp_le (tgt := 196) hx hb dX12_wrongTrade_186 (by decide) (fun c16 => ?_) (fun c16 => ?_)
                · have ic16 := (xi_le c16 rfl rfl : v9.toInt ≤ rh15.toInt)
                  refine lv_iload hx hb dX12_wrongTrade_196 (lv_at hl 4 rfl) ?_
                  refine lv_aload_n hx hb dX12_wrongTrade_198 rfl (lv_at hl 0 rfl) ?_
                  refine lv_aload_n hx hb dX12_wrongTrade_199 rfl (lv_at hl 0 rfl) ?_
                  refine h_get (v := .int f0_12) hx hb hts iX12 hown g t_a0 (by decide) so_13 rfl 12 (by decide) (hts (.fieldLink RX12 187 "CapLeagueModel" "clock" "I") (by decide +kernel)) rfl dX12_wrongTrade_200 (congrArg Value.int (ef0_12.symm)) ?_
                  refine lv_iconst (v := 0) hx hb dX12_wrongTrade_203 (by decide) ?_
                  refine vp_callSi (W.runV (As := [.int f0_12, .int 0]) (rest := [.int v10]) ⟨hx, hb, hml, hown, hts⟩ (tX12_lawOfF l E X A z I0 L0 a0 t_a0 f0_12 (f0_12.toInt) rfl (by omega) 0 (0) (by decide) (by omega)) (cwV 2 hts gX12_wrongTrade_X12_lawOf rfl rfl rfl (by decide +kernel) ⟨Nat.le_of_ble_eq_true rfl, Nat.le_of_ble_eq_true rfl⟩) ⟨h_blind _ _ _ _ _ _ _, h_recv g t_a0 (by decide) so_13 (q := (RX12, TX12, 51)) rfl, h_pre _ hE hk hX hA hI hR g⟩ rfl rfl hl.1 rfl (lv_room (Nat.le_of_ble_eq_true rfl)) dX12_wrongTrade_204 ⟨Nat.le_of_ble_eq_true rfl, Nat.le_of_ble_eq_true rfl⟩) (fun rh17 h17 => ?_)
                  obtain ⟨h17p0, h17p1, h17p2⟩ := h17
                  have jrh17 : -2147483648 ≤ rh17.toInt ∧ rh17.toInt ≤ 2147483647 := ⟨xi_lo _, Int.le_of_lt_add_one (xi_hi _)⟩
                  rw [alw, ahy] at h17p0
                  have grh17 := hrl.at (x := 0) (by decide) h17p0
                  clear h17p0
                  have brh17 : 1 ≤ rh17.toInt ∧ rh17.toInt ≤ 50000 := by have h9 := hob; unfold q_okb at h9; omega
                  refine lv_icmp_le (tgt := 247) hx hb dX12_wrongTrade_207 (by decide) (fun c18 => ?_) (fun c18 => ?_)
                  · have ic18 := (xi_le c18 rfl rfl : v10.toInt ≤ rh17.toInt)
                    obtain ⟨v19, ev19⟩ : ∃ z : Int32, z = v2 + 1 := ⟨_, rfl⟩
                    have jv19 : v19.toInt = v2.toInt + 1 := xi_add ev19 rfl (by decide) (by omega) (by omega)
                    refine lv_iinc (v := v19) (lv' := [(2, .int v19), (0, .ref a0), (1, .int rh1), (3, .int v9), (4, .int v10), (5, .int v11), (6, .int v12), (7, .int v13)]) hx hb dX12_wrongTrade_247 hl (k := 2) rfl (by rw [ev19]; rfl) (by decide) rfl (fun ls hl => ?_)
                    refine lv_goto (tgt := 7) hx hb dX12_wrongTrade_250 (by decide) ?_
                    exact ih7 _ v19 (lv_sub hl [1, 2, 0] rfl) (by omega) (q_ff_0 hx7_0 (by rw [eFc]; exact (q_tf_0 (by omega) (by omega) rfl).symm) (by omega : v19.toInt.toNat = v2.toInt.toNat + 1)) (by omega)
                  · have ic18 := (xi_nle c18 rfl rfl : rh17.toInt < v10.toInt)
                    refine lv_iload hx hb dX12_wrongTrade_210 (lv_at hl 5 rfl) ?_
                    refine lv_iload hx hb dX12_wrongTrade_212 (lv_at hl 6 rfl) ?_
                    refine lv_aload_n hx hb dX12_wrongTrade_214 rfl (lv_at hl 0 rfl) ?_
                    refine lv_aload_n hx hb dX12_wrongTrade_215 rfl (lv_at hl 0 rfl) ?_
                    refine h_get (v := .int f0_12) hx hb hts iX12 hown g t_a0 (by decide) so_13 rfl 12 (by decide) (hts (.fieldLink RX12 187 "CapLeagueModel" "clock" "I") (by decide +kernel)) rfl dX12_wrongTrade_216 (congrArg Value.int (ef0_12.symm)) ?_
                    refine lv_iconst (v := 4) hx hb dX12_wrongTrade_219 (by decide) ?_
                    refine vp_callSi (W.runV (As := [.int f0_12, .int 4]) (rest := [.int v12, .int v11]) ⟨hx, hb, hml, hown, hts⟩ (tX12_lawOfF l E X A z I0 L0 a0 t_a0 f0_12 (f0_12.toInt) rfl (by omega) 4 (4) (by decide) (by omega)) (cwV 2 hts gX12_wrongTrade_X12_lawOf rfl rfl rfl (by decide +kernel) ⟨Nat.le_of_ble_eq_true rfl, Nat.le_of_ble_eq_true rfl⟩) ⟨h_blind _ _ _ _ _ _ _, h_recv g t_a0 (by decide) so_13 (q := (RX12, TX12, 51)) rfl, h_pre _ hE hk hX hA hI hR g⟩ rfl rfl hl.1 rfl (lv_room (Nat.le_of_ble_eq_true rfl)) dX12_wrongTrade_220 ⟨Nat.le_of_ble_eq_true rfl, Nat.le_of_ble_eq_true rfl⟩) (fun rh20 h20 => ?_)
                    obtain ⟨h20p0, h20p1, h20p2⟩ := h20
                    have jrh20 : -2147483648 ≤ rh20.toInt ∧ rh20.toInt ≤ 2147483647 := ⟨xi_lo _, Int.le_of_lt_add_one (xi_hi _)⟩
                    rw [alw, ahy] at h20p0
                    have grh20 := hrl.at (x := 4) (by decide) h20p0
                    clear h20p0
                    have brh20 : 0 ≤ rh20.toInt ∧ rh20.toInt ≤ 300 := by have h9 := hob; unfold q_okb at h9; omega
                    refine lv_imul hx hb dX12_wrongTrade_223 ?_
                    refine lv_topi (fun v21 ev21 => ?_)
                    have jv21 : -2147483648 ≤ v21.toInt ∧ v21.toInt ≤ 2147483647 := ⟨xi_lo _, Int.le_of_lt_add_one (xi_hi _)⟩
                    refine lv_bipush (v := 100) hx hb dX12_wrongTrade_224 (by decide) ?_
                    refine lv_idiv hx hb dX12_wrongTrade_226 (by decide) ?_
                    refine lv_topi (fun v22 ev22 => ?_)
                    have jv22 : -2147483648 ≤ v22.toInt ∧ v22.toInt ≤ 2147483647 := ⟨xi_lo _, Int.le_of_lt_add_one (xi_hi _)⟩
                    have hd4 := q_hunT ev21 ev22 grh20 hpo.1 (by omega) hob.2.2.2.2.1.1 hob.2.2.2.2.1.2
                    refine lv_aload_n hx hb dX12_wrongTrade_227 rfl (lv_at hl 0 rfl) ?_
                    refine lv_aload_n hx hb dX12_wrongTrade_228 rfl (lv_at hl 0 rfl) ?_
                    refine h_get (v := .int f0_12) hx hb hts iX12 hown g t_a0 (by decide) so_13 rfl 12 (by decide) (hts (.fieldLink RX12 187 "CapLeagueModel" "clock" "I") (by decide +kernel)) rfl dX12_wrongTrade_229 (congrArg Value.int (ef0_12.symm)) ?_
                    refine lv_iconst (v := 5) hx hb dX12_wrongTrade_232 (by decide) ?_
                    refine vp_callSi (W.runV (As := [.int f0_12, .int 5]) (rest := [.int v22, .int v11]) ⟨hx, hb, hml, hown, hts⟩ (tX12_lawOfF l E X A z I0 L0 a0 t_a0 f0_12 (f0_12.toInt) rfl (by omega) 5 (5) (by decide) (by omega)) (cwV 2 hts gX12_wrongTrade_X12_lawOf rfl rfl rfl (by decide +kernel) ⟨Nat.le_of_ble_eq_true rfl, Nat.le_of_ble_eq_true rfl⟩) ⟨h_blind _ _ _ _ _ _ _, h_recv g t_a0 (by decide) so_13 (q := (RX12, TX12, 51)) rfl, h_pre _ hE hk hX hA hI hR g⟩ rfl rfl hl.1 rfl (lv_room (Nat.le_of_ble_eq_true rfl)) dX12_wrongTrade_233 ⟨Nat.le_of_ble_eq_true rfl, Nat.le_of_ble_eq_true rfl⟩) (fun rh23 h23 => ?_)
                    obtain ⟨h23p0, h23p1, h23p2⟩ := h23
                    have jrh23 : -2147483648 ≤ rh23.toInt ∧ rh23.toInt ≤ 2147483647 := ⟨xi_lo _, Int.le_of_lt_add_one (xi_hi _)⟩
                    rw [alw, ahy] at h23p0
                    have grh23 := hrl.at (x := 5) (by decide) h23p0
                    clear h23p0
                    have brh23 : 0 ≤ rh23.toInt ∧ rh23.toInt ≤ 5000 := by have h9 := hob; unfold q_okb at h9; omega
                    refine lv_iadd hx hb dX12_wrongTrade_236 ?_
                    refine lv_topi (fun v24 ev24 => ?_)
                    have jv24 : v24.toInt = v22.toInt + rh23.toInt := xi_add ev24 rfl rfl (by omega) (by omega)
                    refine lv_icmp_le (tgt := 247) hx hb dX12_wrongTrade_237 (by decide) (fun c25 => ?_) (fun c25 => ?_)
                    · have ic25 := (xi_le c25 rfl rfl : v11.toInt ≤ v24.toInt)
                      obtain ⟨v26, ev26⟩ : ∃ z : Int32, z = v2 + 1 := ⟨_, rfl⟩
                      have jv26 : v26.toInt = v2.toInt + 1 := xi_add ev26 rfl (by decide) (by omega) (by omega)
                      refine lv_iinc (v := v26) (lv' := [(2, .int v26), (0, .ref a0), (1, .int rh1), (3, .int v9), (4, .int v10), (5, .int v11), (6, .int v12), (7, .int v13)]) hx hb dX12_wrongTrade_247 hl (k := 2) rfl (by rw [ev26]; rfl) (by decide) rfl (fun ls hl => ?_)
                      refine lv_goto (tgt := 7) hx hb dX12_wrongTrade_250 (by decide) ?_
                      exact ih7 _ v26 (lv_sub hl [1, 2, 0] rfl) (by omega) (q_ff_0 hx7_0 (by rw [eFc]; exact (q_tf_0 (by omega) (by omega) rfl).symm) (by omega : v26.toInt.toNat = v2.toInt.toNat + 1)) (by omega)
                    · have ic25 := (xi_nle c25 rfl rfl : v24.toInt < v11.toInt)
                      refine lv_bipush (v := 100) hx hb dX12_wrongTrade_240 (by decide) ?_
                      refine lv_iload_n hx hb dX12_wrongTrade_242 rfl (lv_at hl 2 rfl) ?_
                      refine lv_imul hx hb dX12_wrongTrade_243 ?_
                      refine lv_topi (fun v27 ev27 => ?_)
                      have jv27 : v27.toInt = 100 * v2.toInt := xi_mul ev27 (by decide) rfl (by omega) (by omega)
                      refine lv_iconst (v := 2) hx hb dX12_wrongTrade_244 (by decide) ?_
                      refine lv_iadd hx hb dX12_wrongTrade_245 ?_
                      refine lv_topi (fun v28 ev28 => ?_)
                      have jv28 : v28.toInt = v27.toInt + 2 := xi_add ev28 rfl (by decide) (by omega) (by omega)
                      exact W.iret (v := v28) hx hb hr (fun t ht hW => ⟨v28, rfl, ⟨⟨(by omega), (by omega)⟩, (by rw [← eFT]; have h9 : FT v2.toInt.toNat = 2 := (by rw [eFc]; exact (q_tf_2 (by omega) (by omega) (by omega) rfl).symm); exact q_ff_r hx7_0 (by omega) (by omega) (by omega))⟩, ht⟩) (fun _ h => by cases h) dX12_wrongTrade_246
                · have ic16 := (xi_nle c16 rfl rfl : rh15.toInt < v9.toInt)
                  refine lv_bipush (v := 100) hx hb dX12_wrongTrade_189 (by decide) ?_
                  refine lv_iload_n hx hb dX12_wrongTrade_191 rfl (lv_at hl 2 rfl) ?_
                  refine lv_imul hx hb dX12_wrongTrade_192 ?_
                  refine lv_topi (fun v29 ev29 => ?_)
                  have jv29 : v29.toInt = 100 * v2.toInt := xi_mul ev29 (by decide) rfl (by omega) (by omega)
                  refine lv_iconst (v := 1) hx hb dX12_wrongTrade_193 (by decide) ?_
                  refine lv_iadd hx hb dX12_wrongTrade_194 ?_
                  refine lv_topi (fun v30 ev30 => ?_)
                  have jv30 : v30.toInt = v29.toInt + 1 := xi_add ev30 rfl (by decide) (by omega) (by omega)
                  exact W.iret (v := v30) hx hb hr (fun t ht hW => ⟨v30, rfl, ⟨⟨(by omega), (by omega)⟩, (by rw [← eFT]; have h9 : FT v2.toInt.toNat = 1 := (by rw [eFc]; exact (q_tf_1 (by omega) rfl).symm); exact q_ff_r hx7_0 (by omega) (by omega) (by omega))⟩, ht⟩) (fun _ h => by cases h) dX12_wrongTrade_195
              · have ic14 := (xi_nle c14 rfl rfl : v13.toInt < f0_33.toInt)
                refine lv_aload_n hx hb dX12_wrongTrade_63 rfl (lv_at hl 0 rfl) ?_
                refine h_get (v := .ref md) hx hb hts iX12 hown g t_a0 (by decide) so_13 rfl 34 (by decide) (hts (.fieldLink RX12 76 "CapLeagueModel" "moved" "[I") (by decide +kernel)) rfl dX12_wrongTrade_64 (by show va_rf (z.R a0 34) = _; rw [rmd]; rfl) ?_
                refine lv_iload hx hb dX12_wrongTrade_67 (lv_at hl 7 rfl) ?_
                refine h_ald hx hb g tmd (by decide) so_1334 (xi_in (by omega) (by omega)) dX12_wrongTrade_69 ?_
                refine lv_topi (fun v31 ev31 => ?_)
                have jv31 := hI.rd md v13.toNatClampNeg tmd ev31 (rfl : h_bd 1334 _ = (0, 139))
                have gv31 : I0 md v13.toInt.toNat = v31 := by rw [← kv]; exact ev31.symm
                refine lv_istore (lv' := [(8, .int v31), (0, .ref a0), (1, .int rh1), (2, .int v2), (3, .int v9), (4, .int v10), (5, .int v11), (6, .int v12), (7, .int v13)]) hx hb dX12_wrongTrade_70 hl (by decide) rfl (fun ls hl => ?_)
                refine lv_iload hx hb dX12_wrongTrade_72 (lv_at hl 0 rfl) ?_
                refine lv_bipush (v := 60) hx hb dX12_wrongTrade_74 (by decide) ?_
                refine lv_icmp_lt (tgt := 82) hx hb dX12_wrongTrade_76 (by decide) (fun c32 => ?_) (fun c32 => ?_)
                · have ic32 := (xi_lt c32 rfl (by decide) : v31.toInt < 60)
                  have mv31 := hmm v13.toInt.toNat (by omega) (by rw [gv31]; omega)
                  rw [gv31] at mv31
                  refine lv_aload_n hx hb dX12_wrongTrade_82 rfl (lv_at hl 1 rfl) ?_
                  refine h_get (v := .ref mt) hx hb hts iX12 hown g t_a0 (by decide) so_13 rfl 36 (by decide) (hts (.fieldLink RX12 82 "CapLeagueModel" "to" "[I") (by decide +kernel)) rfl dX12_wrongTrade_83 (by show va_rf (z.R a0 36) = _; rw [rmt]; rfl) ?_
                  refine lv_iload hx hb dX12_wrongTrade_86 (lv_at hl 8 rfl) ?_
                  refine h_ald hx hb g tmt (by decide) so_1336 (xi_in (by omega) (by omega)) dX12_wrongTrade_88 ?_
                  refine lv_topi (fun v33 ev33 => ?_)
                  have jv33 := hI.rd mt v13.toNatClampNeg tmt ev33 (rfl : h_bd 1336 _ = (0, 7))
                  have gv33 : I0 mt v13.toInt.toNat = v33 := by rw [← kv]; exact ev33.symm
                  refine lv_iload_n hx hb dX12_wrongTrade_89 rfl (lv_at hl 3 rfl) ?_
                  refine lv_icmp_ne (tgt := 126) hx hb dX12_wrongTrade_90 (by decide) (fun c34 => ?_) (fun c34 => ?_)
                  · have ic34 := (xi_ne c34 rfl rfl : v33.toInt ≠ v2.toInt)
                    refine lv_aload_n hx hb dX12_wrongTrade_126 rfl (lv_at hl 1 rfl) ?_
                    refine h_get (v := .ref mf) hx hb hts iX12 hown g t_a0 (by decide) so_13 rfl 35 (by decide) (hts (.fieldLink RX12 79 "CapLeagueModel" "from" "[I") (by decide +kernel)) rfl dX12_wrongTrade_127 (by show va_rf (z.R a0 35) = _; rw [rmf]; rfl) ?_
                    refine lv_iload hx hb dX12_wrongTrade_130 (lv_at hl 8 rfl) ?_
                    refine h_ald hx hb g tmf (by decide) so_1335 (xi_in (by omega) (by omega)) dX12_wrongTrade_132 ?_
                    refine lv_topi (fun v35 ev35 => ?_)
                    have jv35 := hI.rd mf v13.toNatClampNeg tmf ev35 (rfl : h_bd 1335 _ = ((-2147483648), 2147483647))
                    have gv35 : I0 mf v13.toInt.toNat = v35 := by rw [← kv]; exact ev35.symm
                    refine lv_iload_n hx hb dX12_wrongTrade_133 rfl (lv_at hl 3 rfl) ?_
                    refine lv_icmp_ne (tgt := 170) hx hb dX12_wrongTrade_134 (by decide) (fun c36 => ?_) (fun c36 => ?_)
                    · have ic36 := (xi_ne c36 rfl rfl : v35.toInt ≠ v2.toInt)
                      obtain ⟨v37, ev37⟩ : ∃ z : Int32, z = v13 + 1 := ⟨_, rfl⟩
                      have jv37 : v37.toInt = v13.toInt + 1 := xi_add ev37 rfl (by decide) (by omega) (by omega)
                      refine lv_iinc (v := v37) (lv' := [(7, .int v37), (8, .int v31), (0, .ref a0), (1, .int rh1), (2, .int v2), (3, .int v9), (4, .int v10), (5, .int v11), (6, .int v12)]) hx hb dX12_wrongTrade_170 hl (k := 8) rfl (by rw [ev37]; rfl) (by decide) rfl (fun ls hl => ?_)
                      refine lv_goto (tgt := 54) hx hb dX12_wrongTrade_173 (by decide) ?_
                      exact ih54 _ v9 v10 v11 v12 v37 (lv_sub hl [2, 3, 4, 5, 6, 7, 8, 0] rfl) (by omega) (by omega) (by omega) (by omega) (by omega) (q_pm_0 hx54_0 (by omega : (v37.toInt).toNat = v13.toInt.toNat + 1) (by rw [ekd]; exact m_kd_0 (Or.inr ⟨by rw [gv33]; omega, by rw [gv35]; omega⟩) : kd v13.toInt.toNat = 0)) (q_pm_0 hx54_1 (by omega : (v37.toInt).toNat = v13.toInt.toNat + 1) (by rw [ekd]; exact m_kd_0 (Or.inr ⟨by rw [gv33]; omega, by rw [gv35]; omega⟩) : kd v13.toInt.toNat = 0)) (q_on_0 hx54_2 (by omega : (v37.toInt).toNat = v13.toInt.toNat + 1) (by rw [(by rw [ekd]; exact m_kd_0 (Or.inr ⟨by rw [gv33]; omega, by rw [gv35]; omega⟩) : kd v13.toInt.toNat = 0)]; decide)) (q_on_0 hx54_3 (by omega : (v37.toInt).toNat = v13.toInt.toNat + 1) (by rw [(by rw [ekd]; exact m_kd_0 (Or.inr ⟨by rw [gv33]; omega, by rw [gv35]; omega⟩) : kd v13.toInt.toNat = 0)]; decide)) (by omega) (by omega)
                    · have ic36 := (xi_eq c36 rfl rfl : v35.toInt = v2.toInt)
                      obtain ⟨v38, ev38⟩ : ∃ z : Int32, z = v9 + (-1) := ⟨_, rfl⟩
                      have jv38 : -2147483648 ≤ v38.toInt ∧ v38.toInt ≤ 2147483647 := ⟨xi_lo _, Int.le_of_lt_add_one (xi_hi _)⟩
                      refine lv_iinc (v := v38) (lv' := [(3, .int v38), (8, .int v31), (0, .ref a0), (1, .int rh1), (2, .int v2), (4, .int v10), (5, .int v11), (6, .int v12), (7, .int v13)]) hx hb dX12_wrongTrade_137 hl (k := 4) rfl (by rw [ev38]; rfl) (by decide) rfl (fun ls hl => ?_)
                      refine lv_iload hx hb dX12_wrongTrade_140 (lv_at hl 5 rfl) ?_
                      refine lv_aload_n hx hb dX12_wrongTrade_142 rfl (lv_at hl 2 rfl) ?_
                      refine lv_iload hx hb dX12_wrongTrade_143 (lv_at hl 1 rfl) ?_
                      refine lv_aload_n hx hb dX12_wrongTrade_145 rfl (lv_at hl 2 rfl) ?_
                      refine h_get (v := .int f0_12) hx hb hts iX12 hown g t_a0 (by decide) so_13 rfl 12 (by decide) (hts (.fieldLink RX12 187 "CapLeagueModel" "clock" "I") (by decide +kernel)) rfl dX12_wrongTrade_146 (congrArg Value.int (ef0_12.symm)) ?_
                      refine vp_callSi (W.runV (As := [.int v31, .int f0_12]) (rest := [.int v10]) ⟨hx, hb, hml, hown, hts⟩ (tX12_countOfB l E X A z I0 L0 a0 t_a0 v31 (v31.toInt) rfl (by omega) f0_12 (f0_12.toInt) rfl) (cwV 2 hts gX12_wrongTrade_X12_countOf rfl rfl rfl (by decide +kernel) ⟨Nat.le_of_ble_eq_true rfl, Nat.le_of_ble_eq_true rfl⟩) ⟨h_blind _ _ _ _ _ _ _, h_recv g t_a0 (by decide) so_13 (q := (RX12, TX12, 51)) rfl, h_pre _ hE hk hX hA hI hR g⟩ rfl rfl hl.1 rfl (lv_room (Nat.le_of_ble_eq_true rfl)) dX12_wrongTrade_149 ⟨Nat.le_of_ble_eq_true rfl, Nat.le_of_ble_eq_true rfl⟩) (fun rh39 h39 => ?_)
                      have h39p0 := h39
                      have jrh39 : -2147483648 ≤ rh39.toInt ∧ rh39.toInt ≤ 2147483647 := ⟨xi_lo _, Int.le_of_lt_add_one (xi_hi _)⟩
                      have eCt : ct v13.toInt.toNat = rh39 := by have h9 := h39p0 u_ hr0 hob (by have h8 := hpb0 v31.toInt.toNat (by omega); rw [← ef0_12] at h8; omega); rw [ect]; unfold m_ct; rw [gv31, h9, ← ef0_12]
                      refine lv_isub hx hb dX12_wrongTrade_152 ?_
                      refine lv_topi (fun v40 ev40 => ?_)
                      have jv40 : -2147483648 ≤ v40.toInt ∧ v40.toInt ≤ 2147483647 := ⟨xi_lo _, Int.le_of_lt_add_one (xi_hi _)⟩
                      refine lv_istore (lv' := [(4, .int v40), (3, .int v38), (8, .int v31), (0, .ref a0), (1, .int rh1), (2, .int v2), (5, .int v11), (6, .int v12), (7, .int v13)]) hx hb dX12_wrongTrade_153 hl (by decide) rfl (fun ls hl => ?_)
                      refine lv_iload hx hb dX12_wrongTrade_155 (lv_at hl 7 rfl) ?_
                      refine lv_aload_n hx hb dX12_wrongTrade_157 rfl (lv_at hl 3 rfl) ?_
                      refine lv_iload hx hb dX12_wrongTrade_158 (lv_at hl 2 rfl) ?_
                      refine lv_aload_n hx hb dX12_wrongTrade_160 rfl (lv_at hl 3 rfl) ?_
                      refine h_get (v := .int f0_12) hx hb hts iX12 hown g t_a0 (by decide) so_13 rfl 12 (by decide) (hts (.fieldLink RX12 187 "CapLeagueModel" "clock" "I") (by decide +kernel)) rfl dX12_wrongTrade_161 (congrArg Value.int (ef0_12.symm)) ?_
                      refine vp_callSi (W.runV (As := [.int v31, .int f0_12]) (rest := [.int v12]) ⟨hx, hb, hml, hown, hts⟩ (tX12_payOfB l E X A z I0 L0 a0 t_a0 v31 (v31.toInt) rfl (by omega) f0_12 (f0_12.toInt) rfl) (cwV 2 hts gX12_wrongTrade_X12_payOf rfl rfl rfl (by decide +kernel) ⟨Nat.le_of_ble_eq_true rfl, Nat.le_of_ble_eq_true rfl⟩) ⟨h_blind _ _ _ _ _ _ _, h_recv g t_a0 (by decide) so_13 (q := (RX12, TX12, 51)) rfl, h_pre _ hE hk hX hA hI hR g⟩ rfl rfl hl.1 rfl (lv_room (Nat.le_of_ble_eq_true rfl)) dX12_wrongTrade_164 ⟨Nat.le_of_ble_eq_true rfl, Nat.le_of_ble_eq_true rfl⟩) (fun rh41 h41 => ?_)
                      have h41p0 := h41
                      have jrh41 : -2147483648 ≤ rh41.toInt ∧ rh41.toInt ≤ 2147483647 := ⟨xi_lo _, Int.le_of_lt_add_one (xi_hi _)⟩
                      have ePy : py v13.toInt.toNat = rh41 := by rw [epy]; unfold m_py; rw [gv31, h41p0, ← ef0_12]
                      refine lv_iadd hx hb dX12_wrongTrade_167 ?_
                      refine lv_topi (fun v42 ev42 => ?_)
                      have jv42 : -2147483648 ≤ v42.toInt ∧ v42.toInt ≤ 2147483647 := ⟨xi_lo _, Int.le_of_lt_add_one (xi_hi _)⟩
                      refine lv_istore (lv' := [(6, .int v42), (4, .int v40), (3, .int v38), (8, .int v31), (0, .ref a0), (1, .int rh1), (2, .int v2), (5, .int v11), (7, .int v13)]) hx hb dX12_wrongTrade_168 hl (by decide) rfl (fun ls hl => ?_)
                      obtain ⟨v43, ev43⟩ : ∃ z : Int32, z = v13 + 1 := ⟨_, rfl⟩
                      have jv43 : v43.toInt = v13.toInt + 1 := xi_add ev43 rfl (by decide) (by omega) (by omega)
                      refine lv_iinc (v := v43) (lv' := [(7, .int v43), (6, .int v42), (4, .int v40), (3, .int v38), (8, .int v31), (0, .ref a0), (1, .int rh1), (2, .int v2), (5, .int v11)]) hx hb dX12_wrongTrade_170 hl (k := 8) rfl (by rw [ev43]; rfl) (by decide) rfl (fun ls hl => ?_)
                      refine lv_goto (tgt := 54) hx hb dX12_wrongTrade_173 (by decide) ?_
                      exact ih54 _ v38 v40 v11 v42 v43 (lv_sub hl [5, 6, 7, 3, 2, 8, 1, 0] rfl) (by omega) (by omega) (by omega) (by omega) (by omega) (q_pm_2 hx54_0 (by omega : (v43.toInt).toNat = v13.toInt.toNat + 1) (by rw [ekd]; exact m_kd_2 (by rw [gv31]; omega) (by rw [gv33]; omega) (by rw [gv35]; omega) : kd v13.toInt.toNat = 2) (by rw [ev38]; exact (Int32.sub_eq_add_neg _ _).symm)) (q_pm_2 hx54_1 (by omega : (v43.toInt).toNat = v13.toInt.toNat + 1) (by rw [ekd]; exact m_kd_2 (by rw [gv31]; omega) (by rw [gv33]; omega) (by rw [gv35]; omega) : kd v13.toInt.toNat = 2) (by rw [eCt]; exact ev40)) (q_on_0 hx54_2 (by omega : (v43.toInt).toNat = v13.toInt.toNat + 1) (by rw [(by rw [ekd]; exact m_kd_2 (by rw [gv31]; omega) (by rw [gv33]; omega) (by rw [gv35]; omega) : kd v13.toInt.toNat = 2)]; decide)) (q_on_1 hx54_3 (by omega : (v43.toInt).toNat = v13.toInt.toNat + 1) (by rw [ekd]; exact m_kd_2 (by rw [gv31]; omega) (by rw [gv33]; omega) (by rw [gv35]; omega) : kd v13.toInt.toNat = 2) (by rw [ePy]; exact ev42)) (by omega) (by omega)
                  · have ic34 := (xi_eq c34 rfl rfl : v33.toInt = v2.toInt)
                    obtain ⟨v44, ev44⟩ : ∃ z : Int32, z = v9 + 1 := ⟨_, rfl⟩
                    have jv44 : -2147483648 ≤ v44.toInt ∧ v44.toInt ≤ 2147483647 := ⟨xi_lo _, Int.le_of_lt_add_one (xi_hi _)⟩
                    refine lv_iinc (v := v44) (lv' := [(3, .int v44), (8, .int v31), (0, .ref a0), (1, .int rh1), (2, .int v2), (4, .int v10), (5, .int v11), (6, .int v12), (7, .int v13)]) hx hb dX12_wrongTrade_93 hl (k := 4) rfl (by rw [ev44]; rfl) (by decide) rfl (fun ls hl => ?_)
                    refine lv_iload hx hb dX12_wrongTrade_96 (lv_at hl 5 rfl) ?_
                    refine lv_aload_n hx hb dX12_wrongTrade_98 rfl (lv_at hl 2 rfl) ?_
                    refine lv_iload hx hb dX12_wrongTrade_99 (lv_at hl 1 rfl) ?_
                    refine lv_aload_n hx hb dX12_wrongTrade_101 rfl (lv_at hl 2 rfl) ?_
                    refine h_get (v := .int f0_12) hx hb hts iX12 hown g t_a0 (by decide) so_13 rfl 12 (by decide) (hts (.fieldLink RX12 187 "CapLeagueModel" "clock" "I") (by decide +kernel)) rfl dX12_wrongTrade_102 (congrArg Value.int (ef0_12.symm)) ?_
                    refine vp_callSi (W.runV (As := [.int v31, .int f0_12]) (rest := [.int v10]) ⟨hx, hb, hml, hown, hts⟩ (tX12_countOfB l E X A z I0 L0 a0 t_a0 v31 (v31.toInt) rfl (by omega) f0_12 (f0_12.toInt) rfl) (cwV 2 hts gX12_wrongTrade_X12_countOf rfl rfl rfl (by decide +kernel) ⟨Nat.le_of_ble_eq_true rfl, Nat.le_of_ble_eq_true rfl⟩) ⟨h_blind _ _ _ _ _ _ _, h_recv g t_a0 (by decide) so_13 (q := (RX12, TX12, 51)) rfl, h_pre _ hE hk hX hA hI hR g⟩ rfl rfl hl.1 rfl (lv_room (Nat.le_of_ble_eq_true rfl)) dX12_wrongTrade_105 ⟨Nat.le_of_ble_eq_true rfl, Nat.le_of_ble_eq_true rfl⟩) (fun rh45 h45 => ?_)
                    have h45p0 := h45
                    have jrh45 : -2147483648 ≤ rh45.toInt ∧ rh45.toInt ≤ 2147483647 := ⟨xi_lo _, Int.le_of_lt_add_one (xi_hi _)⟩
                    have eCt : ct v13.toInt.toNat = rh45 := by have h9 := h45p0 u_ hr0 hob (by have h8 := hpb0 v31.toInt.toNat (by omega); rw [← ef0_12] at h8; omega); rw [ect]; unfold m_ct; rw [gv31, h9, ← ef0_12]
                    refine lv_iadd hx hb dX12_wrongTrade_108 ?_
                    refine lv_topi (fun v46 ev46 => ?_)
                    have jv46 : -2147483648 ≤ v46.toInt ∧ v46.toInt ≤ 2147483647 := ⟨xi_lo _, Int.le_of_lt_add_one (xi_hi _)⟩
                    refine lv_istore (lv' := [(4, .int v46), (3, .int v44), (8, .int v31), (0, .ref a0), (1, .int rh1), (2, .int v2), (5, .int v11), (6, .int v12), (7, .int v13)]) hx hb dX12_wrongTrade_109 hl (by decide) rfl (fun ls hl => ?_)
                    refine lv_iload hx hb dX12_wrongTrade_111 (lv_at hl 6 rfl) ?_
                    refine lv_aload_n hx hb dX12_wrongTrade_113 rfl (lv_at hl 3 rfl) ?_
                    refine lv_iload hx hb dX12_wrongTrade_114 (lv_at hl 2 rfl) ?_
                    refine lv_aload_n hx hb dX12_wrongTrade_116 rfl (lv_at hl 3 rfl) ?_
                    refine h_get (v := .int f0_12) hx hb hts iX12 hown g t_a0 (by decide) so_13 rfl 12 (by decide) (hts (.fieldLink RX12 187 "CapLeagueModel" "clock" "I") (by decide +kernel)) rfl dX12_wrongTrade_117 (congrArg Value.int (ef0_12.symm)) ?_
                    refine vp_callSi (W.runV (As := [.int v31, .int f0_12]) (rest := [.int v11]) ⟨hx, hb, hml, hown, hts⟩ (tX12_payOfB l E X A z I0 L0 a0 t_a0 v31 (v31.toInt) rfl (by omega) f0_12 (f0_12.toInt) rfl) (cwV 2 hts gX12_wrongTrade_X12_payOf rfl rfl rfl (by decide +kernel) ⟨Nat.le_of_ble_eq_true rfl, Nat.le_of_ble_eq_true rfl⟩) ⟨h_blind _ _ _ _ _ _ _, h_recv g t_a0 (by decide) so_13 (q := (RX12, TX12, 51)) rfl, h_pre _ hE hk hX hA hI hR g⟩ rfl rfl hl.1 rfl (lv_room (Nat.le_of_ble_eq_true rfl)) dX12_wrongTrade_120 ⟨Nat.le_of_ble_eq_true rfl, Nat.le_of_ble_eq_true rfl⟩) (fun rh47 h47 => ?_)
                    have h47p0 := h47
                    have jrh47 : -2147483648 ≤ rh47.toInt ∧ rh47.toInt ≤ 2147483647 := ⟨xi_lo _, Int.le_of_lt_add_one (xi_hi _)⟩
                    have ePy : py v13.toInt.toNat = rh47 := by rw [epy]; unfold m_py; rw [gv31, h47p0, ← ef0_12]
                    refine lv_iadd hx hb dX12_wrongTrade_123 ?_
                    refine lv_topi (fun v48 ev48 => ?_)
                    have jv48 : -2147483648 ≤ v48.toInt ∧ v48.toInt ≤ 2147483647 := ⟨xi_lo _, Int.le_of_lt_add_one (xi_hi _)⟩
                    refine lv_istore (lv' := [(5, .int v48), (4, .int v46), (3, .int v44), (8, .int v31), (0, .ref a0), (1, .int rh1), (2, .int v2), (6, .int v12), (7, .int v13)]) hx hb dX12_wrongTrade_124 hl (by decide) rfl (fun ls hl => ?_)
                    refine lv_aload_n hx hb dX12_wrongTrade_126 rfl (lv_at hl 4 rfl) ?_
                    refine h_get (v := .ref mf) hx hb hts iX12 hown g t_a0 (by decide) so_13 rfl 35 (by decide) (hts (.fieldLink RX12 79 "CapLeagueModel" "from" "[I") (by decide +kernel)) rfl dX12_wrongTrade_127 (by show va_rf (z.R a0 35) = _; rw [rmf]; rfl) ?_
                    refine lv_iload hx hb dX12_wrongTrade_130 (lv_at hl 8 rfl) ?_
                    refine h_ald hx hb g tmf (by decide) so_1335 (xi_in (by omega) (by omega)) dX12_wrongTrade_132 ?_
                    refine lv_topi (fun v49 ev49 => ?_)
                    have jv49 := hI.rd mf v13.toNatClampNeg tmf ev49 (rfl : h_bd 1335 _ = ((-2147483648), 2147483647))
                    have gv49 : I0 mf v13.toInt.toNat = v49 := by rw [← kv]; exact ev49.symm
                    refine lv_iload_n hx hb dX12_wrongTrade_133 rfl (lv_at hl 6 rfl) ?_
                    refine lv_icmp_ne (tgt := 170) hx hb dX12_wrongTrade_134 (by decide) (fun c50 => ?_) (fun c50 => ?_)
                    · have ic50 := (xi_ne c50 rfl rfl : v49.toInt ≠ v2.toInt)
                      obtain ⟨v51, ev51⟩ : ∃ z : Int32, z = v13 + 1 := ⟨_, rfl⟩
                      have jv51 : v51.toInt = v13.toInt + 1 := xi_add ev51 rfl (by decide) (by omega) (by omega)
                      refine lv_iinc (v := v51) (lv' := [(7, .int v51), (5, .int v48), (4, .int v46), (3, .int v44), (8, .int v31), (0, .ref a0), (1, .int rh1), (2, .int v2), (6, .int v12)]) hx hb dX12_wrongTrade_170 hl (k := 8) rfl (by rw [ev51]; rfl) (by decide) rfl (fun ls hl => ?_)
                      refine lv_goto (tgt := 54) hx hb dX12_wrongTrade_173 (by decide) ?_
                      exact ih54 _ v44 v46 v48 v12 v51 (lv_sub hl [5, 6, 7, 3, 2, 1, 8, 0] rfl) (by omega) (by omega) (by omega) (by omega) (by omega) (q_pm_1 hx54_0 (by omega : (v51.toInt).toNat = v13.toInt.toNat + 1) (by rw [ekd]; exact m_kd_1 (by rw [gv31]; omega) (by rw [gv33]; omega) : kd v13.toInt.toNat = 1) (by rw [ev44])) (q_pm_1 hx54_1 (by omega : (v51.toInt).toNat = v13.toInt.toNat + 1) (by rw [ekd]; exact m_kd_1 (by rw [gv31]; omega) (by rw [gv33]; omega) : kd v13.toInt.toNat = 1) (by rw [eCt]; exact ev46)) (q_on_1 hx54_2 (by omega : (v51.toInt).toNat = v13.toInt.toNat + 1) (by rw [ekd]; exact m_kd_1 (by rw [gv31]; omega) (by rw [gv33]; omega) : kd v13.toInt.toNat = 1) (by rw [ePy]; exact ev48)) (q_on_0 hx54_3 (by omega : (v51.toInt).toNat = v13.toInt.toNat + 1) (by rw [(by rw [ekd]; exact m_kd_1 (by rw [gv31]; omega) (by rw [gv33]; omega) : kd v13.toInt.toNat = 1)]; decide)) (by omega) (by omega)
                    · have ic50 := (xi_eq c50 rfl rfl : v49.toInt = v2.toInt)
                      exact absurd (show (I0 mf v13.toInt.toNat).toInt = (I0 mt v13.toInt.toNat).toInt by rw [gv49, gv33]; omega) (hne _ (by omega))
                · have ic32 := (xi_nlt c32 rfl (by decide) : 60 ≤ v31.toInt)
                  refine lv_goto (tgt := 170) hx hb dX12_wrongTrade_79 (by decide) ?_
                  obtain ⟨v52, ev52⟩ : ∃ z : Int32, z = v13 + 1 := ⟨_, rfl⟩
                  have jv52 : v52.toInt = v13.toInt + 1 := xi_add ev52 rfl (by decide) (by omega) (by omega)
                  refine lv_iinc (v := v52) (lv' := [(7, .int v52), (8, .int v31), (0, .ref a0), (1, .int rh1), (2, .int v2), (3, .int v9), (4, .int v10), (5, .int v11), (6, .int v12)]) hx hb dX12_wrongTrade_170 hl (k := 8) rfl (by rw [ev52]; rfl) (by decide) rfl (fun ls hl => ?_)
                  refine lv_goto (tgt := 54) hx hb dX12_wrongTrade_173 (by decide) ?_
                  exact ih54 _ v9 v10 v11 v12 v52 (lv_sub hl [2, 3, 4, 5, 6, 7, 8, 0] rfl) (by omega) (by omega) (by omega) (by omega) (by omega) (q_pm_0 hx54_0 (by omega : (v52.toInt).toNat = v13.toInt.toNat + 1) (by rw [ekd]; exact m_kd_0 (Or.inl (by rw [gv31]; omega)) : kd v13.toInt.toNat = 0)) (q_pm_0 hx54_1 (by omega : (v52.toInt).toNat = v13.toInt.toNat + 1) (by rw [ekd]; exact m_kd_0 (Or.inl (by rw [gv31]; omega)) : kd v13.toInt.toNat = 0)) (q_on_0 hx54_2 (by omega : (v52.toInt).toNat = v13.toInt.toNat + 1) (by rw [(by rw [ekd]; exact m_kd_0 (Or.inl (by rw [gv31]; omega)) : kd v13.toInt.toNat = 0)]; decide)) (q_on_0 hx54_3 (by omega : (v52.toInt).toNat = v13.toInt.toNat + 1) (by rw [(by rw [ekd]; exact m_kd_0 (Or.inl (by rw [gv31]; omega)) : kd v13.toInt.toNat = 0)]; decide)) (by omega) (by omega)
          have kc53 : (0 : Int32).toInt = 0 := by decide
          have kc54 : (0 : Int32).toInt = 0 := by decide
          have kc55 : (0 : Int32).toInt = 0 := by decide
          exact loop54_1 _ _ rh7 rh8 (0) (0) (0) (lv_sub hl [5, 6, 7, 4, 3, 2, 1, 0] rfl) (by omega) (by omega) ⟨by decide, by decide⟩ ⟨by decide, by decide⟩ ⟨by decide, by decide⟩ (by show _ = m_many _ _ _ _ _; exact h7p0) (by show _ = m_cnt _ _ _ _ _ _; exact h8p0) (rfl) (rfl) (by omega) (show (12 - (0 : Int)) < (((12 - (0 : Int)).toNat + 1 : Nat) : Int) by omega)
        · have ic6 := (xi_eq c6 rfl (by decide) : v5.toInt = 0)
          refine lv_goto (tgt := 247) hx hb dX12_wrongTrade_21 (by decide) ?_
          obtain ⟨v56, ev56⟩ : ∃ z : Int32, z = v2 + 1 := ⟨_, rfl⟩
          have jv56 : v56.toInt = v2.toInt + 1 := xi_add ev56 rfl (by decide) (by omega) (by omega)
          refine lv_iinc (v := v56) (lv' := [(2, .int v56), (0, .ref a0), (1, .int rh1)]) hx hb dX12_wrongTrade_247 hl (k := 2) rfl (by rw [ev56]; rfl) (by decide) rfl (fun ls hl => ?_)
          refine lv_goto (tgt := 7) hx hb dX12_wrongTrade_250 (by decide) ?_
          exact ih7 _ v56 (lv_sub hl [1, 2, 0] rfl) (by omega) (q_ff_0 hx7_0 (by rw [eFT]; unfold m_ft; rw [amf, amt, ← ef0_33, ← h1p0, if_pos (bt.mp (by omega))]) (by omega : v56.toInt.toNat = v2.toInt.toNat + 1)) (by omega)
  have kc57 : (0 : Int32).toInt = 0 := by decide
  exact loop7_0 _ _ (0) (lv_sub hl [2, 1, 0] rfl) ⟨by decide, by decide⟩ (rfl) (show (8 - (0 : Int)) < (((8 - (0 : Int)).toNat + 1 : Nat) : Int) by omega)
set_option maxHeartbeats 4000000 in
set_option maxRecDepth 100000 in
theorem tX12_checkB (l : Launch) (E : tE) (X : tX) (A : Nat → Prop) (z : tZ) (I0 : tI) (L0 : tL) (a0 : Nat) (t_a0 : z.ty a0 = 13) (u_ : Nat → Int) (hrl : h_r12 (I0 (h_ad z a0 11)) (I0 (h_ad z a0 10)) (I0 a0 12).toInt u_) (hob : q_okb u_) (hpb : ∀ p : Nat, (p : Int) < (I0 a0 13).toInt → 0 ≤ (q_pay (I0 (h_ad z a0 14) p) (I0 (h_ad z a0 15) p) (I0 (h_ad z a0 16) p) (I0 (h_ad z a0 17) p) (I0 (h_ad z a0 18) p) (I0 a0 12)).toInt ∧ (q_pay (I0 (h_ad z a0 14) p) (I0 (h_ad z a0 15) p) (I0 (h_ad z a0 16) p) (I0 (h_ad z a0 17) p) (I0 (h_ad z a0 18) p) (I0 a0 12)).toInt ≤ 30000) (hft : ∀ i : Nat, (i : Int) < (I0 a0 33).toInt → (0 ≤ (I0 (h_ad z a0 35) i).toInt ∧ (I0 (h_ad z a0 35) i).toInt ≤ 7) ∧ 0 ≤ (I0 (h_ad z a0 36) i).toInt ∧ (I0 (h_ad z a0 36) i).toInt ≤ 7) (hne : ∀ i : Nat, (i : Int) < (I0 a0 33).toInt → (I0 (h_ad z a0 35) i).toInt ≠ (I0 (h_ad z a0 36) i).toInt) (hmm : ∀ i : Nat, (i : Int) < (I0 a0 33).toInt → (I0 (h_ad z a0 34) i).toInt < 60 → 0 ≤ (I0 (h_ad z a0 34) i).toInt ∧ (I0 (h_ad z a0 34) i).toInt < (I0 a0 13).toInt) : Met l yX12_check wsX12_check ({ frames := 6, cells := 0, slots := 0, locals := 384 }) (va_Pc [.ref a0] (h_P E X A z I0 L0)) (vp_Si (fun r => (((I0 a0 33).toInt = 0 ∧ r.toInt = -4) ∨ ((I0 a0 33).toInt ≠ 0 ∧ r.toInt = q_ff (m_ft z I0 a0 u_) 8)))) 0 0 (fun _ => False) := by
  refine Met.ofW (cc := cX12_check) (maxL := 1) (ret := (some .int)) (by decide) rfl ?_
  intro pr_ ev_ s m args below meth cd_ s₁ B hml hv
  obtain ⟨rfl, hE, hk, hX, hA, hK, hI, hR, hB0⟩ := hv
  have g : h_G h_so h_fk E A z I0 L0 s s.heap s.heap [] := ⟨hK, va_S.rf, hB0⟩
  have hx := B.exec
  have hb := B.bytes
  have hr := B.returns
  have hts := atoms_spec (ws := wsX12_check) B.pre
  have hown : s.vm.findClass RX12 = some m.cls := findClass_of_methodNamed B.named
  have hlocks := B.notSynchronized
  have iX12 : ∀ w ∈ u_ws RX12 TX12 51, w ∈ wsX12_check := by decide +kernel
  have hl := lv_entry ([.ref a0]) (n := 1) (Nat.le_of_ble_eq_true rfl)
  rw [lg_entry_eq]
  generalize (lg_sl ([.ref a0]) ++ List.replicate (1 - (lg_sl ([.ref a0])).length) Slot.unset).toArray = ls at hl ⊢
  have hl : lv_has ls 1 [(0, .ref a0)] := hl
  obtain ⟨f0_33, ef0_33⟩ : ∃ v : Int32, v = I0 a0 33 := ⟨_, rfl⟩
  have qf0_33 : (I0 a0 33).toInt = f0_33.toInt := congrArg Int32.toInt ef0_33.symm
  have jf0_33 := hI.rd a0 33 t_a0 ef0_33 (rfl : h_bd 13 33 = (0, 12))
  refine lv_aload_n hx hb dX12_check_0 rfl (lv_at hl 0 rfl) ?_
  refine h_get (v := .int f0_33) hx hb hts iX12 hown g t_a0 (by decide) so_13 rfl 33 (by decide) (hts (.fieldLink RX12 247 "CapLeagueModel" "moves" "I") (by decide +kernel)) rfl dX12_check_1 (congrArg Value.int (ef0_33.symm)) ?_
  refine lv_if_ne (tgt := 12) hx hb dX12_check_4 (by decide) (fun c1 => ?_) (fun c1 => ?_)
  · have ic1 := (xi_ne c1 rfl (by decide) : f0_33.toInt ≠ 0)
    refine lv_aload_n hx hb dX12_check_12 rfl (lv_at hl 0 rfl) ?_
    refine vp_callSi (W.runV (As := []) (rest := []) ⟨hx, hb, hml, hown, hts⟩ (tX12_wrongTB l E X A z I0 L0 a0 t_a0 (u_) (hrl) (hob) (hpb) (hft) (hne) (hmm)) (cwV 0 hts gX12_check_X12_wrongTrade rfl rfl rfl (by decide +kernel) ⟨Nat.le_of_ble_eq_true rfl, Nat.le_of_ble_eq_true rfl⟩) ⟨h_blind _ _ _ _ _ _ _, h_recv g t_a0 (by decide) so_13 (q := (RX12, TX12, 51)) rfl, h_pre _ hE hk hX hA hI hR g⟩ rfl rfl hl.1 rfl (lv_room (Nat.le_of_ble_eq_true rfl)) dX12_check_13 ⟨Nat.le_of_ble_eq_true rfl, Nat.le_of_ble_eq_true rfl⟩) (fun rh2 h2 => ?_)
    obtain ⟨h2, h2p0⟩ := h2
    exact W.iret (v := rh2) hx hb hr (fun t ht hW => ⟨rh2, rfl, (by rw [qf0_33]; exact Or.inr ⟨by omega, h2p0⟩), ht⟩) (fun _ h => by cases h) dX12_check_16
  · have ic1 := (xi_eq c1 rfl (by decide) : f0_33.toInt = 0)
    refine lv_bipush (v := (-4)) hx hb dX12_check_7 (by decide) ?_
    refine lv_goto (tgt := 16) hx hb dX12_check_9 (by decide) ?_
    exact W.iret (v := (-4)) hx hb hr (fun t ht hW => ⟨(-4), rfl, (by rw [qf0_33]; exact Or.inl ⟨by omega, by decide⟩), ht⟩) (fun _ h => by cases h) dX12_check_16
set_option maxHeartbeats 4000000 in
set_option maxRecDepth 100000 in
theorem tX12_worthToB (l : Launch) (E : tE) (X : tX) (A : Nat → Prop) (z : tZ) (I0 : tI) (L0 : tL) (a0 : Nat) (t_a0 : z.ty a0 = 13) (c : Int32) (c_t : Int) (h_c : c.toInt = c_t) (b_c : 0 ≤ c_t ∧ c_t ≤ 7) (x : Int32) (x_t : Int) (h_x : x.toInt = x_t) (b_x : 0 ≤ x_t ∧ x_t ≤ 139) : Met l yX12_worthTo wsX12_worthTo ({ frames := 1, cells := 0, slots := 0, locals := 64 }) (va_Pc [.ref a0, .int c, .int x] (h_P E X A z I0 L0)) (vp_Si (fun r => (r = I0 (h_ad z a0 38) (140 * c_t + x_t).toNat))) 0 0 (fun _ => False) := by
  refine Met.ofW (cc := cX12_worthTo) (maxL := 3) (ret := (some .int)) (by decide) rfl ?_
  intro pr_ ev_ s m args below meth cd_ s₁ B hml hv
  obtain ⟨rfl, hE, hk, hX, hA, hK, hI, hR, hB0⟩ := hv
  have g : h_G h_so h_fk E A z I0 L0 s s.heap s.heap [] := ⟨hK, va_S.rf, hB0⟩
  have hx := B.exec
  have hb := B.bytes
  have hr := B.returns
  have hts := atoms_spec (ws := wsX12_worthTo) B.pre
  have hown : s.vm.findClass RX12 = some m.cls := findClass_of_methodNamed B.named
  have hlocks := B.notSynchronized
  have iX12 : ∀ w ∈ u_ws RX12 TX12 51, w ∈ wsX12_worthTo := by decide +kernel
  have hl := lv_entry ([.ref a0, .int c, .int x]) (n := 3) (Nat.le_of_ble_eq_true rfl)
  rw [lg_entry_eq]
  generalize (lg_sl ([.ref a0, .int c, .int x]) ++ List.replicate (3 - (lg_sl ([.ref a0, .int c, .int x])).length) Slot.unset).toArray = ls at hl ⊢
  have hl : lv_has ls 3 [(0, .ref a0), (1, .int c), (2, .int x)] := hl
  obtain ⟨ww, rww, tww⟩ := hR.at a0 38 t_a0 (rfl : h_rs 13 38 = some (1338, false)) (by decide)
  have aww : h_ad z a0 38 = ww := h_ad.at rww
  refine lv_aload_n hx hb dX12_worthTo_0 rfl (lv_at hl 0 rfl) ?_
  refine h_get (v := .ref ww) hx hb hts iX12 hown g t_a0 (by decide) so_13 rfl 38 (by decide) (hts (.fieldLink RX12 88 "CapLeagueModel" "worths" "[I") (by decide +kernel)) rfl dX12_worthTo_1 (by show va_rf (z.R a0 38) = _; rw [rww]; rfl) ?_
  refine lv_sipush (v := 140) hx hb dX12_worthTo_4 (by decide) ?_
  refine lv_iload_n hx hb dX12_worthTo_7 rfl (lv_at hl 1 rfl) ?_
  refine lv_imul hx hb dX12_worthTo_8 ?_
  refine lv_topi (fun v1 ev1 => ?_)
  have jv1 : v1.toInt = 140 * c_t := xi_mul ev1 (by decide) h_c (by omega) (by omega)
  refine lv_iload_n hx hb dX12_worthTo_9 rfl (lv_at hl 2 rfl) ?_
  refine lv_iadd hx hb dX12_worthTo_10 ?_
  refine lv_topi (fun v2 ev2 => ?_)
  have jv2 : v2.toInt = v1.toInt + x_t := xi_add ev2 rfl h_x (by omega) (by omega)
  refine h_ald hx hb g tww (by decide) so_1338 (xi_in (by omega) (by omega)) dX12_worthTo_11 ?_
  refine lv_topi (fun v3 ev3 => ?_)
  have jv3 := hI.rd ww v2.toNatClampNeg tww ev3 (rfl : h_bd 1338 _ = ((-2147483648), 2147483647))
  exact W.iret (v := v3) hx hb hr (fun t ht hW => ⟨v3, rfl, (by rw [aww, ← h_keq (i := v2) (t := v2.toInt) (k := (140 * c_t + x_t).toNat) rfl (by omega) (by omega)]; exact ev3), ht⟩) (fun _ h => by cases h) dX12_worthTo_12
set_option maxHeartbeats 4000000 in
set_option maxRecDepth 100000 in
theorem tX12_gainOfB (l : Launch) (E : tE) (X : tX) (A : Nat → Prop) (z : tZ) (I0 : tI) (L0 : tL) (a0 : Nat) (t_a0 : z.ty a0 = 13) (c : Int32) (c_t : Int) (h_c : c.toInt = c_t) (b_c : 0 ≤ c_t ∧ c_t ≤ 7) (hne : ∀ i : Nat, (i : Int) < (I0 a0 33).toInt → (I0 (h_ad z a0 35) i).toInt ≠ (I0 (h_ad z a0 36) i).toInt) : Met l yX12_gainOf wsX12_gainOf ({ frames := 2, cells := 0, slots := 0, locals := 128 }) (va_Pc [.ref a0, .int c] (h_P E X A z I0 L0)) (vp_Si (fun r => (r = q_pm (c_kg I0 (h_ad z a0 35) (h_ad z a0 36) c_t) (fun i : Nat => I0 (h_ad z a0 38) (140 * c_t + (I0 (h_ad z a0 34) i).toInt).toNat) 0 (I0 a0 33).toInt.toNat))) 0 0 (fun _ => False) := by
  refine Met.ofW (cc := cX12_gainOf) (maxL := 4) (ret := (some .int)) (by decide) rfl ?_
  intro pr_ ev_ s m args below meth cd_ s₁ B hml hv
  obtain ⟨rfl, hE, hk, hX, hA, hK, hI, hR, hB0⟩ := hv
  have g : h_G h_so h_fk E A z I0 L0 s s.heap s.heap [] := ⟨hK, va_S.rf, hB0⟩
  have hx := B.exec
  have hb := B.bytes
  have hr := B.returns
  have hts := atoms_spec (ws := wsX12_gainOf) B.pre
  have hown : s.vm.findClass RX12 = some m.cls := findClass_of_methodNamed B.named
  have hlocks := B.notSynchronized
  have iX12 : ∀ w ∈ u_ws RX12 TX12 51, w ∈ wsX12_gainOf := by decide +kernel
  have hl := lv_entry ([.ref a0, .int c]) (n := 4) (Nat.le_of_ble_eq_true rfl)
  rw [lg_entry_eq]
  generalize (lg_sl ([.ref a0, .int c]) ++ List.replicate (4 - (lg_sl ([.ref a0, .int c])).length) Slot.unset).toArray = ls at hl ⊢
  have hl : lv_has ls 4 [(0, .ref a0), (1, .int c)] := hl
  obtain ⟨md, rmd, tmd⟩ := hR.at a0 34 t_a0 (rfl : h_rs 13 34 = some (1334, false)) (by decide)
  have amd : h_ad z a0 34 = md := h_ad.at rmd
  obtain ⟨mf, rmf, tmf⟩ := hR.at a0 35 t_a0 (rfl : h_rs 13 35 = some (1335, false)) (by decide)
  have amf : h_ad z a0 35 = mf := h_ad.at rmf
  obtain ⟨mt, rmt, tmt⟩ := hR.at a0 36 t_a0 (rfl : h_rs 13 36 = some (1336, false)) (by decide)
  have amt : h_ad z a0 36 = mt := h_ad.at rmt
  obtain ⟨ww, rww, tww⟩ := hR.at a0 38 t_a0 (rfl : h_rs 13 38 = some (1338, false)) (by decide)
  have aww : h_ad z a0 38 = ww := h_ad.at rww
  obtain ⟨f0_33, ef0_33⟩ : ∃ v : Int32, v = I0 a0 33 := ⟨_, rfl⟩
  have qf0_33 : (I0 a0 33).toInt = f0_33.toInt := congrArg Int32.toInt ef0_33.symm
  have jf0_33 := hI.rd a0 33 t_a0 ef0_33 (rfl : h_bd 13 33 = (0, 12))
  rw [amf, amt, ← ef0_33] at hne
  obtain ⟨wg, ewg⟩ : ∃ g : Nat → Int32, g = fun i : Nat => I0 ww (140 * c_t + (I0 md i).toInt).toNat := ⟨_, rfl⟩
  refine lv_iconst (v := 0) hx hb dX12_gainOf_0 (by decide) ?_
  refine lv_istore_n (lv' := [(2, .int 0), (0, .ref a0), (1, .int c)]) hx hb dX12_gainOf_1 rfl hl (by decide) rfl (fun ls hl => ?_)
  refine lv_iconst (v := 0) hx hb dX12_gainOf_2 (by decide) ?_
  refine lv_istore_n (lv' := [(3, .int 0), (2, .int 0), (0, .ref a0), (1, .int c)]) hx hb dX12_gainOf_3 rfl hl (by decide) rfl (fun ls hl => ?_)
  have loop4_0 : ∀ (n : Nat) (ls : Array Slot) (v1 v2 : Int32), lv_has ls 4 [(0, .ref a0), (1, .int c), (2, .int v1), (3, .int v2)] → ((-2147483648) ≤ v1.toInt ∧ v1.toInt ≤ 2147483647) → (0 ≤ v2.toInt ∧ v2.toInt ≤ 12) → (v1 = q_pm (c_kg I0 mf mt c_t) wg 0 (v2.toInt).toNat) → (v2.toInt ≤ f0_33.toInt) → (12 - v2.toInt) < (n : Int) → W pr_ l ev_ (headSpec wsX12_gainOf ({ frames := 2, cells := 0, slots := 0, locals := 128 })).room s m ([.ref a0, .int c] : List Value).toArray below meth cd_ s.heap [] 0 0 (MQ below (vp_Si (fun r => (r = q_pm (c_kg I0 (h_ad z a0 35) (h_ad z a0 36) c_t) (fun i : Nat => I0 (h_ad z a0 38) (140 * c_t + (I0 (h_ad z a0 34) i).toInt).toNat) 0 (I0 a0 33).toInt.toNat))) ([.ref a0, .int c] : List Value).toArray s 0 0 (fun _ => False)) (F0 m 4 ls []) := by
    intro n
    induction n with
    | zero => intro ls v1 v2 hl jv1 jv2 hx4_0 hx4_1 hn; exact absurd hn (by omega)
    | succ n ih4 =>
      intro ls v1 v2 hl jv1 jv2 hx4_0 hx4_1 hn
      have kv : v2.toNatClampNeg = v2.toInt.toNat := h_keq rfl (by omega) (by omega)
      refine lv_iload_n hx hb dX12_gainOf_4 rfl (lv_at hl 3 rfl) ?_
      refine lv_aload_n hx hb dX12_gainOf_5 rfl (lv_at hl 0 rfl) ?_
      refine h_get (v := .int f0_33) hx hb hts iX12 hown g t_a0 (by decide) so_13 rfl 33 (by decide) (hts (.fieldLink RX12 247 "CapLeagueModel" "moves" "I") (by decide +kernel)) rfl dX12_gainOf_6 (congrArg Value.int (ef0_33.symm)) ?_
      refine lv_icmp_ge (tgt := 72) hx hb dX12_gainOf_9 (by decide) (fun c3 => ?_) (fun c3 => ?_)
      · have ic3 := (xi_le c3 rfl rfl : f0_33.toInt ≤ v2.toInt)
        refine lv_iload_n hx hb dX12_gainOf_72 rfl (lv_at hl 2 rfl) ?_
        exact W.iret (v := v1) hx hb hr (fun t ht hW => ⟨v1, rfl, (by rw [amf, amt, amd, aww, ← ef0_33, show f0_33.toInt.toNat = v2.toInt.toNat by omega, ← ewg]; exact hx4_0), ht⟩) (fun _ h => by cases h) dX12_gainOf_73
      · have ic3 := (xi_nle c3 rfl rfl : v2.toInt < f0_33.toInt)
        refine lv_iload_n hx hb dX12_gainOf_12 rfl (lv_at hl 2 rfl) ?_
        refine lv_aload_n hx hb dX12_gainOf_13 rfl (lv_at hl 0 rfl) ?_
        refine h_get (v := .ref mt) hx hb hts iX12 hown g t_a0 (by decide) so_13 rfl 36 (by decide) (hts (.fieldLink RX12 82 "CapLeagueModel" "to" "[I") (by decide +kernel)) rfl dX12_gainOf_14 (by show va_rf (z.R a0 36) = _; rw [rmt]; rfl) ?_
        refine lv_iload_n hx hb dX12_gainOf_17 rfl (lv_at hl 3 rfl) ?_
        refine h_ald hx hb g tmt (by decide) so_1336 (xi_in (by omega) (by omega)) dX12_gainOf_18 ?_
        refine lv_topi (fun v4 ev4 => ?_)
        have jv4 := hI.rd mt v2.toNatClampNeg tmt ev4 (rfl : h_bd 1336 _ = (0, 7))
        have gv4 : I0 mt v2.toInt.toNat = v4 := by rw [← kv]; exact ev4.symm
        refine lv_iload_n hx hb dX12_gainOf_19 rfl (lv_at hl 1 rfl) ?_
        refine lv_icmp_ne (tgt := 37) hx hb dX12_gainOf_20 (by decide) (fun c5 => ?_) (fun c5 => ?_)
        · have ic5 := (xi_ne c5 rfl h_c : v4.toInt ≠ c_t)
          refine lv_iconst (v := 0) hx hb dX12_gainOf_37 (by decide) ?_
          refine lv_aload_n hx hb dX12_gainOf_38 rfl (lv_at hl 0 rfl) ?_
          refine h_get (v := .ref mf) hx hb hts iX12 hown g t_a0 (by decide) so_13 rfl 35 (by decide) (hts (.fieldLink RX12 79 "CapLeagueModel" "from" "[I") (by decide +kernel)) rfl dX12_gainOf_39 (by show va_rf (z.R a0 35) = _; rw [rmf]; rfl) ?_
          refine lv_iload_n hx hb dX12_gainOf_42 rfl (lv_at hl 3 rfl) ?_
          refine h_ald hx hb g tmf (by decide) so_1335 (xi_in (by omega) (by omega)) dX12_gainOf_43 ?_
          refine lv_topi (fun v6 ev6 => ?_)
          have jv6 := hI.rd mf v2.toNatClampNeg tmf ev6 (rfl : h_bd 1335 _ = ((-2147483648), 2147483647))
          have gv6 : I0 mf v2.toInt.toNat = v6 := by rw [← kv]; exact ev6.symm
          refine lv_iload_n hx hb dX12_gainOf_44 rfl (lv_at hl 1 rfl) ?_
          refine lv_icmp_ne (tgt := 62) hx hb dX12_gainOf_45 (by decide) (fun c7 => ?_) (fun c7 => ?_)
          · have ic7 := (xi_ne c7 rfl h_c : v6.toInt ≠ c_t)
            refine lv_iconst (v := 0) hx hb dX12_gainOf_62 (by decide) ?_
            refine lv_isub hx hb dX12_gainOf_63 ?_
            refine xw_i (v := 0) (by decide) ?_
            refine lv_iadd hx hb dX12_gainOf_64 ?_
            refine lv_topi (fun v8 ev8 => ?_)
            have jv8 : v8.toInt = v1.toInt + 0 := xi_add ev8 rfl (by decide) (by omega) (by omega)
            refine lv_istore_n (lv' := [(2, .int v8), (0, .ref a0), (1, .int c), (3, .int v2)]) hx hb dX12_gainOf_65 rfl hl (by decide) rfl (fun ls hl => ?_)
            obtain ⟨v9, ev9⟩ : ∃ z : Int32, z = v2 + 1 := ⟨_, rfl⟩
            have jv9 : v9.toInt = v2.toInt + 1 := xi_add ev9 rfl (by decide) (by omega) (by omega)
            refine lv_iinc (v := v9) (lv' := [(3, .int v9), (2, .int v8), (0, .ref a0), (1, .int c)]) hx hb dX12_gainOf_66 hl (k := 3) rfl (by rw [ev9]; rfl) (by decide) rfl (fun ls hl => ?_)
            refine lv_goto (tgt := 4) hx hb dX12_gainOf_69 (by decide) ?_
            exact ih4 _ v8 v9 (lv_sub hl [2, 3, 1, 0] rfl) (by omega) (by omega) (q_pm_0 (x := v8) (by rw [ev8, Int32.add_zero]; exact hx4_0) (by omega : v9.toInt.toNat = v2.toInt.toNat + 1) (c_kg_0 (by rw [gv4]; omega) (by rw [gv6]; omega))) (by omega) (by omega)
          · have ic7 := (xi_eq c7 rfl h_c : v6.toInt = c_t)
            refine lv_aload_n hx hb dX12_gainOf_48 rfl (lv_at hl 0 rfl) ?_
            refine lv_iload_n hx hb dX12_gainOf_49 rfl (lv_at hl 1 rfl) ?_
            refine lv_aload_n hx hb dX12_gainOf_50 rfl (lv_at hl 0 rfl) ?_
            refine h_get (v := .ref md) hx hb hts iX12 hown g t_a0 (by decide) so_13 rfl 34 (by decide) (hts (.fieldLink RX12 76 "CapLeagueModel" "moved" "[I") (by decide +kernel)) rfl dX12_gainOf_51 (by show va_rf (z.R a0 34) = _; rw [rmd]; rfl) ?_
            refine lv_iload_n hx hb dX12_gainOf_54 rfl (lv_at hl 3 rfl) ?_
            refine h_ald hx hb g tmd (by decide) so_1334 (xi_in (by omega) (by omega)) dX12_gainOf_55 ?_
            refine lv_topi (fun v10 ev10 => ?_)
            have jv10 := hI.rd md v2.toNatClampNeg tmd ev10 (rfl : h_bd 1334 _ = (0, 139))
            have gv10 : I0 md v2.toInt.toNat = v10 := by rw [← kv]; exact ev10.symm
            refine vp_callSi (W.runV (As := [.int c, .int v10]) (rest := [.int 0, .int v1]) ⟨hx, hb, hml, hown, hts⟩ (tX12_worthToB l E X A z I0 L0 a0 t_a0 c (c_t) h_c (by omega) v10 (v10.toInt) rfl (by omega)) (cwV 2 hts gX12_gainOf_X12_worthTo rfl rfl rfl (by decide +kernel) ⟨Nat.le_of_ble_eq_true rfl, Nat.le_of_ble_eq_true rfl⟩) ⟨h_blind _ _ _ _ _ _ _, h_recv g t_a0 (by decide) so_13 (q := (RX12, TX12, 51)) rfl, h_pre _ hE hk hX hA hI hR g⟩ rfl rfl hl.1 rfl (lv_room (Nat.le_of_ble_eq_true rfl)) dX12_gainOf_56 ⟨Nat.le_of_ble_eq_true rfl, Nat.le_of_ble_eq_true rfl⟩) (fun rh11 h11 => ?_)
            have h11p0 := h11
            have jrh11 : -2147483648 ≤ rh11.toInt ∧ rh11.toInt ≤ 2147483647 := ⟨xi_lo _, Int.le_of_lt_add_one (xi_hi _)⟩
            have eW : wg v2.toInt.toNat = rh11 := by rw [aww] at h11p0; rw [ewg]; show I0 ww (140 * c_t + (I0 md v2.toInt.toNat).toInt).toNat = rh11; rw [gv10]; exact h11p0.symm
            refine lv_goto (tgt := 63) hx hb dX12_gainOf_59 (by decide) ?_
            refine lv_isub hx hb dX12_gainOf_63 ?_
            refine lv_topi (fun v12 ev12 => ?_)
            have jv12 : -2147483648 ≤ v12.toInt ∧ v12.toInt ≤ 2147483647 := ⟨xi_lo _, Int.le_of_lt_add_one (xi_hi _)⟩
            refine lv_iadd hx hb dX12_gainOf_64 ?_
            refine lv_topi (fun v13 ev13 => ?_)
            have jv13 : -2147483648 ≤ v13.toInt ∧ v13.toInt ≤ 2147483647 := ⟨xi_lo _, Int.le_of_lt_add_one (xi_hi _)⟩
            refine lv_istore_n (lv' := [(2, .int v13), (0, .ref a0), (1, .int c), (3, .int v2)]) hx hb dX12_gainOf_65 rfl hl (by decide) rfl (fun ls hl => ?_)
            obtain ⟨v14, ev14⟩ : ∃ z : Int32, z = v2 + 1 := ⟨_, rfl⟩
            have jv14 : v14.toInt = v2.toInt + 1 := xi_add ev14 rfl (by decide) (by omega) (by omega)
            refine lv_iinc (v := v14) (lv' := [(3, .int v14), (2, .int v13), (0, .ref a0), (1, .int c)]) hx hb dX12_gainOf_66 hl (k := 3) rfl (by rw [ev14]; rfl) (by decide) rfl (fun ls hl => ?_)
            refine lv_goto (tgt := 4) hx hb dX12_gainOf_69 (by decide) ?_
            exact ih4 _ v13 v14 (lv_sub hl [2, 3, 1, 0] rfl) (by omega) (by omega) (q_pm_2 hx4_0 (by omega : v14.toInt.toNat = v2.toInt.toNat + 1) (c_kg_2 (by rw [gv4]; omega) (by rw [gv6]; omega)) (by rw [eW, ev13, ev12, Int32.zero_sub, Int32.sub_eq_add_neg])) (by omega) (by omega)
        · have ic5 := (xi_eq c5 rfl h_c : v4.toInt = c_t)
          refine lv_aload_n hx hb dX12_gainOf_23 rfl (lv_at hl 0 rfl) ?_
          refine lv_iload_n hx hb dX12_gainOf_24 rfl (lv_at hl 1 rfl) ?_
          refine lv_aload_n hx hb dX12_gainOf_25 rfl (lv_at hl 0 rfl) ?_
          refine h_get (v := .ref md) hx hb hts iX12 hown g t_a0 (by decide) so_13 rfl 34 (by decide) (hts (.fieldLink RX12 76 "CapLeagueModel" "moved" "[I") (by decide +kernel)) rfl dX12_gainOf_26 (by show va_rf (z.R a0 34) = _; rw [rmd]; rfl) ?_
          refine lv_iload_n hx hb dX12_gainOf_29 rfl (lv_at hl 3 rfl) ?_
          refine h_ald hx hb g tmd (by decide) so_1334 (xi_in (by omega) (by omega)) dX12_gainOf_30 ?_
          refine lv_topi (fun v15 ev15 => ?_)
          have jv15 := hI.rd md v2.toNatClampNeg tmd ev15 (rfl : h_bd 1334 _ = (0, 139))
          have gv15 : I0 md v2.toInt.toNat = v15 := by rw [← kv]; exact ev15.symm
          refine vp_callSi (W.runV (As := [.int c, .int v15]) (rest := [.int v1]) ⟨hx, hb, hml, hown, hts⟩ (tX12_worthToB l E X A z I0 L0 a0 t_a0 c (c_t) h_c (by omega) v15 (v15.toInt) rfl (by omega)) (cwV 2 hts gX12_gainOf_X12_worthTo rfl rfl rfl (by decide +kernel) ⟨Nat.le_of_ble_eq_true rfl, Nat.le_of_ble_eq_true rfl⟩) ⟨h_blind _ _ _ _ _ _ _, h_recv g t_a0 (by decide) so_13 (q := (RX12, TX12, 51)) rfl, h_pre _ hE hk hX hA hI hR g⟩ rfl rfl hl.1 rfl (lv_room (Nat.le_of_ble_eq_true rfl)) dX12_gainOf_31 ⟨Nat.le_of_ble_eq_true rfl, Nat.le_of_ble_eq_true rfl⟩) (fun rh16 h16 => ?_)
          have h16p0 := h16
          have jrh16 : -2147483648 ≤ rh16.toInt ∧ rh16.toInt ≤ 2147483647 := ⟨xi_lo _, Int.le_of_lt_add_one (xi_hi _)⟩
          have eW : wg v2.toInt.toNat = rh16 := by rw [aww] at h16p0; rw [ewg]; show I0 ww (140 * c_t + (I0 md v2.toInt.toNat).toInt).toNat = rh16; rw [gv15]; exact h16p0.symm
          refine lv_goto (tgt := 38) hx hb dX12_gainOf_34 (by decide) ?_
          refine lv_aload_n hx hb dX12_gainOf_38 rfl (lv_at hl 0 rfl) ?_
          refine h_get (v := .ref mf) hx hb hts iX12 hown g t_a0 (by decide) so_13 rfl 35 (by decide) (hts (.fieldLink RX12 79 "CapLeagueModel" "from" "[I") (by decide +kernel)) rfl dX12_gainOf_39 (by show va_rf (z.R a0 35) = _; rw [rmf]; rfl) ?_
          refine lv_iload_n hx hb dX12_gainOf_42 rfl (lv_at hl 3 rfl) ?_
          refine h_ald hx hb g tmf (by decide) so_1335 (xi_in (by omega) (by omega)) dX12_gainOf_43 ?_
          refine lv_topi (fun v17 ev17 => ?_)
          have jv17 := hI.rd mf v2.toNatClampNeg tmf ev17 (rfl : h_bd 1335 _ = ((-2147483648), 2147483647))
          have gv17 : I0 mf v2.toInt.toNat = v17 := by rw [← kv]; exact ev17.symm
          refine lv_iload_n hx hb dX12_gainOf_44 rfl (lv_at hl 1 rfl) ?_
          refine lv_icmp_ne (tgt := 62) hx hb dX12_gainOf_45 (by decide) (fun c18 => ?_) (fun c18 => ?_)
          · have ic18 := (xi_ne c18 rfl h_c : v17.toInt ≠ c_t)
            refine lv_iconst (v := 0) hx hb dX12_gainOf_62 (by decide) ?_
            refine lv_isub hx hb dX12_gainOf_63 ?_
            refine lv_topi (fun v19 ev19 => ?_)
            have jv19 : v19.toInt = rh16.toInt - 0 := xi_sub ev19 rfl (by decide) (by omega) (by omega)
            refine lv_iadd hx hb dX12_gainOf_64 ?_
            refine lv_topi (fun v20 ev20 => ?_)
            have jv20 : -2147483648 ≤ v20.toInt ∧ v20.toInt ≤ 2147483647 := ⟨xi_lo _, Int.le_of_lt_add_one (xi_hi _)⟩
            refine lv_istore_n (lv' := [(2, .int v20), (0, .ref a0), (1, .int c), (3, .int v2)]) hx hb dX12_gainOf_65 rfl hl (by decide) rfl (fun ls hl => ?_)
            obtain ⟨v21, ev21⟩ : ∃ z : Int32, z = v2 + 1 := ⟨_, rfl⟩
            have jv21 : v21.toInt = v2.toInt + 1 := xi_add ev21 rfl (by decide) (by omega) (by omega)
            refine lv_iinc (v := v21) (lv' := [(3, .int v21), (2, .int v20), (0, .ref a0), (1, .int c)]) hx hb dX12_gainOf_66 hl (k := 3) rfl (by rw [ev21]; rfl) (by decide) rfl (fun ls hl => ?_)
            refine lv_goto (tgt := 4) hx hb dX12_gainOf_69 (by decide) ?_
            exact ih4 _ v20 v21 (lv_sub hl [2, 3, 1, 0] rfl) (by omega) (by omega) (q_pm_1 hx4_0 (by omega : v21.toInt.toNat = v2.toInt.toNat + 1) (c_kg_1 (by rw [gv4]; omega)) (by rw [eW, ev20, ev19, Int32.sub_zero])) (by omega) (by omega)
          · have ic18 := (xi_eq c18 rfl h_c : v17.toInt = c_t)
            exact absurd (show (I0 mf v2.toInt.toNat).toInt = (I0 mt v2.toInt.toNat).toInt by rw [gv17, gv4]; omega) (hne _ (by omega))
  have kc22 : (0 : Int32).toInt = 0 := by decide
  have kc23 : (0 : Int32).toInt = 0 := by decide
  exact loop4_0 _ _ (0) (0) (lv_sub hl [2, 3, 1, 0] rfl) ⟨by decide, by decide⟩ ⟨by decide, by decide⟩ (rfl) (by omega) (show (12 - (0 : Int)) < (((12 - (0 : Int)).toNat + 1 : Nat) : Int) by omega)
set_option maxHeartbeats 4000000 in
set_option maxRecDepth 100000 in
theorem tX12_gainB (l : Launch) (E : tE) (X : tX) (A : Nat → Prop) (z : tZ) (I0 : tI) (L0 : tL) (a0 : Nat) (t_a0 : z.ty a0 = 13) (c : Int32) (c_t : Int) (h_c : c.toInt = c_t) (hne : ∀ i : Nat, (i : Int) < (I0 a0 33).toInt → (I0 (h_ad z a0 35) i).toInt ≠ (I0 (h_ad z a0 36) i).toInt) : Met l yX12_gain wsX12_gain ({ frames := 3, cells := 0, slots := 0, locals := 192 }) (va_Pc [.ref a0, .int c] (h_P E X A z I0 L0)) (vp_Si (fun r => ((¬ (0 ≤ c_t ∧ c_t ≤ 7) ∧ r.toInt = -2000000000) ∨ ((0 ≤ c_t ∧ c_t ≤ 7) ∧ r = q_pm (c_kg I0 (h_ad z a0 35) (h_ad z a0 36) c_t) (fun i : Nat => I0 (h_ad z a0 38) (140 * c_t + (I0 (h_ad z a0 34) i).toInt).toNat) 0 (I0 a0 33).toInt.toNat)))) 0 0 (fun _ => False) := by
  refine Met.ofW (cc := cX12_gain) (maxL := 2) (ret := (some .int)) (by decide) rfl ?_
  intro pr_ ev_ s m args below meth cd_ s₁ B hml hv
  obtain ⟨rfl, hE, hk, hX, hA, hK, hI, hR, hB0⟩ := hv
  have g : h_G h_so h_fk E A z I0 L0 s s.heap s.heap [] := ⟨hK, va_S.rf, hB0⟩
  have hx := B.exec
  have hb := B.bytes
  have hr := B.returns
  have hts := atoms_spec (ws := wsX12_gain) B.pre
  have hown : s.vm.findClass RX12 = some m.cls := findClass_of_methodNamed B.named
  have hlocks := B.notSynchronized
  have hl := lv_entry ([.ref a0, .int c]) (n := 2) (Nat.le_of_ble_eq_true rfl)
  rw [lg_entry_eq]
  generalize (lg_sl ([.ref a0, .int c]) ++ List.replicate (2 - (lg_sl ([.ref a0, .int c])).length) Slot.unset).toArray = ls at hl ⊢
  have hl : lv_has ls 2 [(0, .ref a0), (1, .int c)] := hl
  have b_c : -2147483648 ≤ c_t ∧ c_t ≤ 2147483647 := h_c ▸ ⟨xi_lo c, Int.le_of_lt_add_one (xi_hi c)⟩
  refine lv_iload_n hx hb dX12_gain_0 rfl (lv_at hl 1 rfl) ?_
  refine vp_callSi (W.runS (As := [.int c]) (rest := []) ⟨hx, hb, hml, hown, hts⟩ (tX12_isClub l E X A z I0 L0 c (c_t) h_c) (va_cwS 1 hts gX12_gain_X12_isClub rfl rfl rfl (by decide +kernel) ⟨Nat.le_of_ble_eq_true rfl, Nat.le_of_ble_eq_true rfl⟩) ⟨h_blind _ _ _ _ _ _ _, h_pre _ hE hk hX hA hI hR g⟩ rfl rfl hl.1 rfl (lv_room (Nat.le_of_ble_eq_true rfl)) dX12_gain_1 ⟨Nat.le_of_ble_eq_true rfl, Nat.le_of_ble_eq_true rfl⟩) (fun rh1 h1 => ?_)
  rcases h1 with ⟨rfl, h1⟩ | ⟨rfl, h1⟩
  · skip
    refine lv_if_eq (tgt := 15) hx hb dX12_gain_4 (by decide) (fun _ => ?_) (fun h => absurd (by decide) h)
    refine lv_ldcw (v := (-2000000000)) hx hb hown (hts (.constant RX12 277 (-2000000000)) (by decide +kernel)) dX12_gain_15 ?_
    exact W.iret (v := (-2000000000)) hx hb hr (fun t ht hW => ⟨(-2000000000), rfl, (Or.inl ⟨by omega, by decide⟩), ht⟩) (fun _ h => by cases h) dX12_gain_18
  · skip
    refine lv_if_eq (tgt := 15) hx hb dX12_gain_4 (by decide) (fun h => absurd h (by decide)) (fun _ => ?_)
    refine lv_aload_n hx hb dX12_gain_7 rfl (lv_at hl 0 rfl) ?_
    refine lv_iload_n hx hb dX12_gain_8 rfl (lv_at hl 1 rfl) ?_
    refine vp_callSi (W.runV (As := [.int c]) (rest := []) ⟨hx, hb, hml, hown, hts⟩ (tX12_gainOfB l E X A z I0 L0 a0 t_a0 c (c_t) h_c (by omega) (hne)) (cwV 1 hts gX12_gain_X12_gainOf rfl rfl rfl (by decide +kernel) ⟨Nat.le_of_ble_eq_true rfl, Nat.le_of_ble_eq_true rfl⟩) ⟨h_blind _ _ _ _ _ _ _, h_recv g t_a0 (by decide) so_13 (q := (RX12, TX12, 51)) rfl, h_pre _ hE hk hX hA hI hR g⟩ rfl rfl hl.1 rfl (lv_room (Nat.le_of_ble_eq_true rfl)) dX12_gain_9 ⟨Nat.le_of_ble_eq_true rfl, Nat.le_of_ble_eq_true rfl⟩) (fun rh4 h4 => ?_)
    have h4p0 := h4
    have jrh4 : -2147483648 ≤ rh4.toInt ∧ rh4.toInt ≤ 2147483647 := ⟨xi_lo _, Int.le_of_lt_add_one (xi_hi _)⟩
    refine lv_goto (tgt := 18) hx hb dX12_gain_12 (by decide) ?_
    exact W.iret (v := rh4) hx hb hr (fun t ht hW => ⟨rh4, rfl, (Or.inr ⟨by omega, h4p0⟩), ht⟩) (fun _ h => by cases h) dX12_gain_18

