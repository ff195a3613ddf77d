set_option maxHeartbeats 4000000 in
set_option maxRecDepth 100000 in
theorem tX12_waiveB (l : Launch) (E : tE) (X : tX) (A : Nat → Prop) (z : tZ) (I0 : tI) (L0 : tL) (a0 : Nat) (t_a0 : z.ty a0 = 13) (p : Int32) (p_t : Int) (h_p : p.toInt = p_t) (hbs : ∀ p : Nat, (p : Int) < (I0 a0 13).toInt → (∀ y : Int32, (q_pay (I0 (h_ad z a0 14) p) (I0 (h_ad z a0 15) p) (I0 (h_ad z a0 16) p) (I0 (h_ad z a0 17) p) (I0 (h_ad z a0 18) p) y).toInt ≤ 1000000) ∧ 0 ≤ (I0 (h_ad z a0 19) p).toInt ∧ (I0 (h_ad z a0 19) p).toInt ≤ 100) : Met l yX12_waive wsX12_waive ({ frames := 3, cells := 0, slots := 0, locals := 192 }) (va_Pc [.ref a0, .int p] (h_P E X A z I0 L0)) (va_Qi (fun r (I1 : tI) => h_I z I1 ∧ h_F [(1323, 999), (1314, 999), (13, 33)] z I0 I1 ∧ ((¬ (0 ≤ p_t ∧ p_t < (I0 a0 13).toInt) ∧ r.toInt = -2 ∧ I1 = I0) ∨ ((0 ≤ p_t ∧ p_t < (I0 a0 13).toInt) ∧ (I0 (h_ad z a0 14) p_t.toNat).toInt = -1 ∧ r.toInt = -4 ∧ I1 = I0) ∨ ((0 ≤ p_t ∧ p_t < (I0 a0 13).toInt) ∧ (I0 (h_ad z a0 14) p_t.toNat).toInt ≠ -1 ∧ r = q_rel (I0 a0 12).toInt.toNat (q_pr2 (I0 (h_ad z a0 14) p_t.toNat) (I0 (h_ad z a0 15) p_t.toNat) (I0 (h_ad z a0 16) p_t.toNat) (I0 (h_ad z a0 17) p_t.toNat) (I0 (h_ad z a0 18) p_t.toNat) (I0 (h_ad z a0 19) p_t.toNat) (I0 (h_ad z a0 20) p_t.toNat) (I0 (h_ad z a0 21) p_t.toNat)) (10 - (I0 a0 12).toInt.toNat) ∧ (∀ k : Nat, I1 (h_ad z a0 23) (10 * (I0 (h_ad z a0 14) p_t.toNat).toInt.toNat + k) = q_dea (I0 a0 12).toInt.toNat 10 (q_pr2 (I0 (h_ad z a0 14) p_t.toNat) (I0 (h_ad z a0 15) p_t.toNat) (I0 (h_ad z a0 16) p_t.toNat) (I0 (h_ad z a0 17) p_t.toNat) (I0 (h_ad z a0 18) p_t.toNat) (I0 (h_ad z a0 19) p_t.toNat) (I0 (h_ad z a0 20) p_t.toNat) (I0 (h_ad z a0 21) p_t.toNat)) (fun j : Nat => I0 (h_ad z a0 23) (10 * (I0 (h_ad z a0 14) p_t.toNat).toInt.toNat + j)) k) ∧ (∀ k : Nat, k < 10 * (I0 (h_ad z a0 14) p_t.toNat).toInt.toNat → I1 (h_ad z a0 23) k = I0 (h_ad z a0 23) k) ∧ I1 (h_ad z a0 14) p_t.toNat = -1 ∧ (∀ k : Nat, k ≠ p_t.toNat → I1 (h_ad z a0 14) k = I0 (h_ad z a0 14) k) ∧ I1 a0 33 = 0))) (fun (I1 : tI) t => h_B E A z I1 L0 t) A) 0 0 A := by
  refine Met.ofW (cc := cX12_waive) (maxL := 5) (ret := (some .int)) (by decide) rfl ?_
  intro pr_ ev_ s m args below meth cd_ s₁ B hml hv
  obtain ⟨rfl, hE, hk, hX, hA, hK, hI, hR, hB0⟩ := hv
  have g : h_G h_so h_fk E A z I0 L0 s s.heap s.heap [] := ⟨hK, va_S.rf, hB0⟩
  have hF : h_F [(1323, 999), (1314, 999), (13, 33)] z I0 I0 := h_F.rf
  have hx := B.exec
  have hb := B.bytes
  have hr := B.returns
  have hts := atoms_spec (ws := wsX12_waive) B.pre
  have hown : s.vm.findClass RX12 = some m.cls := findClass_of_methodNamed B.named
  have hlocks := B.notSynchronized
  have iX12 : ∀ w ∈ u_ws RX12 TX12 51, w ∈ wsX12_waive := by decide +kernel
  have hl := lv_entry ([.ref a0, .int p]) (n := 5) (Nat.le_of_ble_eq_true rfl)
  rw [lg_entry_eq]
  generalize (lg_sl ([.ref a0, .int p]) ++ List.replicate (5 - (lg_sl ([.ref a0, .int p])).length) Slot.unset).toArray = ls at hl ⊢
  have hl : lv_has ls 5 [(0, .ref a0), (1, .int p)] := hl
  have b_p : -2147483648 ≤ p_t ∧ p_t ≤ 2147483647 := h_p ▸ ⟨xi_lo p, Int.le_of_lt_add_one (xi_hi p)⟩
  obtain ⟨cb, rcb, tcb⟩ := hR.at a0 14 t_a0 (rfl : h_rs 13 14 = some (1314, false)) (by decide)
  have acb : h_ad z a0 14 = cb := h_ad.at rcb
  obtain ⟨fi, rfi, tfi⟩ := hR.at a0 15 t_a0 (rfl : h_rs 13 15 = some (1315, false)) (by decide)
  have afi : h_ad z a0 15 = fi := h_ad.at rfi
  obtain ⟨la, rla, tla⟩ := hR.at a0 16 t_a0 (rfl : h_rs 13 16 = some (1316, false)) (by decide)
  have ala : h_ad z a0 16 = la := h_ad.at rla
  obtain ⟨pa, rpa, tpa⟩ := hR.at a0 17 t_a0 (rfl : h_rs 13 17 = some (1317, false)) (by decide)
  have apa : h_ad z a0 17 = pa := h_ad.at rpa
  obtain ⟨ri, rri, tri⟩ := hR.at a0 18 t_a0 (rfl : h_rs 13 18 = some (1318, false)) (by decide)
  have ari : h_ad z a0 18 = ri := h_ad.at rri
  obtain ⟨su, rsu, tsu⟩ := hR.at a0 19 t_a0 (rfl : h_rs 13 19 = some (1319, false)) (by decide)
  have asu : h_ad z a0 19 = su := h_ad.at rsu
  obtain ⟨hc, rhc, thc⟩ := hR.at a0 20 t_a0 (rfl : h_rs 13 20 = some (1320, false)) (by decide)
  have ahc : h_ad z a0 20 = hc := h_ad.at rhc
  obtain ⟨it, rit, tit⟩ := hR.at a0 21 t_a0 (rfl : h_rs 13 21 = some (1321, false)) (by decide)
  have ait : h_ad z a0 21 = it := h_ad.at rit
  obtain ⟨de, rde, tde⟩ := hR.at a0 23 t_a0 (rfl : h_rs 13 23 = some (1323, false)) (by decide)
  have ade : h_ad z a0 23 = de := h_ad.at rde
  obtain ⟨xcb, excb⟩ : ∃ v : Int32, v = I0 cb p.toNatClampNeg := ⟨_, rfl⟩
  have jxcb := hI.rd cb p.toNatClampNeg tcb excb (rfl : h_bd 1314 _ = ((-1), 7))
  obtain ⟨xfi, exfi⟩ : ∃ v : Int32, v = I0 fi p.toNatClampNeg := ⟨_, rfl⟩
  have jxfi := hI.rd fi p.toNatClampNeg tfi exfi (rfl : h_bd 1315 _ = ((-2147483648), 2147483647))
  obtain ⟨xla, exla⟩ : ∃ v : Int32, v = I0 la p.toNatClampNeg := ⟨_, rfl⟩
  have jxla := hI.rd la p.toNatClampNeg tla exla (rfl : h_bd 1316 _ = ((-2147483648), 2147483647))
  obtain ⟨xpa, expa⟩ : ∃ v : Int32, v = I0 pa p.toNatClampNeg := ⟨_, rfl⟩
  have jxpa := hI.rd pa p.toNatClampNeg tpa expa (rfl : h_bd 1317 _ = ((-2147483648), 2147483647))
  obtain ⟨xri, exri⟩ : ∃ v : Int32, v = I0 ri p.toNatClampNeg := ⟨_, rfl⟩
  have jxri := hI.rd ri p.toNatClampNeg tri exri (rfl : h_bd 1318 _ = ((-2147483648), 2147483647))
  obtain ⟨xsu, exsu⟩ : ∃ v : Int32, v = I0 su p.toNatClampNeg := ⟨_, rfl⟩
  have jxsu := hI.rd su p.toNatClampNeg tsu exsu (rfl : h_bd 1319 _ = ((-2147483648), 2147483647))
  obtain ⟨xhc, exhc⟩ : ∃ v : Int32, v = I0 hc p.toNatClampNeg := ⟨_, rfl⟩
  have jxhc := hI.rd hc p.toNatClampNeg thc exhc (rfl : h_bd 1320 _ = (0, 1))
  obtain ⟨xit, exit⟩ : ∃ v : Int32, v = I0 it p.toNatClampNeg := ⟨_, rfl⟩
  have jxit := hI.rd it p.toNatClampNeg tit exit (rfl : h_bd 1321 _ = (0, 1))
  obtain ⟨f0_12, ef0_12⟩ : ∃ v : Int32, v = I0 a0 12 := ⟨_, rfl⟩
  have qf0_12 : (I0 a0 12).toInt = f0_12.toInt := congrArg Int32.toInt ef0_12.symm
  have jf0_12 := hI.rd a0 12 t_a0 ef0_12 (rfl : h_bd 13 12 = (0, 9))
  obtain ⟨f0_13, ef0_13⟩ : ∃ v : Int32, v = I0 a0 13 := ⟨_, rfl⟩
  have qf0_13 : (I0 a0 13).toInt = f0_13.toInt := congrArg Int32.toInt ef0_13.symm
  have jf0_13 := hI.rd a0 13 t_a0 ef0_13 (rfl : h_bd 13 13 = (0, 60))
  refine lv_aload_n hx hb dX12_waive_0 rfl (lv_at hl 0 rfl) ?_
  refine lv_iload_n hx hb dX12_waive_1 rfl (lv_at hl 1 rfl) ?_
  refine vp_callSi (W.runV (As := [.int p]) (rest := []) ⟨hx, hb, hml, hown, hts⟩ (tX12_isPlayerF l E X A z I0 L0 a0 t_a0 p (p_t) h_p) (cwV 1 hts gX12_waive_X12_isPlayer rfl rfl rfl (by decide +kernel) ⟨Nat.le_of_ble_eq_true rfl, Nat.le_of_ble_eq_true rfl⟩) ⟨h_blind _ _ _ _ _ _ _, h_recv g t_a0 (by decide) so_13 (q := (RX12, TX12, 51)) rfl, h_pre _ hE hk hX hA hI hR g⟩ rfl rfl hl.1 rfl (lv_room (Nat.le_of_ble_eq_true rfl)) dX12_waive_2 ⟨Nat.le_of_ble_eq_true rfl, Nat.le_of_ble_eq_true rfl⟩) (fun rh1 h1 => ?_)
  rcases h1 with ⟨rfl, h1⟩ | ⟨rfl, h1⟩
  · skip
    refine lv_if_ne (tgt := 11) hx hb dX12_waive_5 (by decide) (fun h => absurd (by decide) h) (fun _ => ?_)
    refine lv_bipush (v := (-2)) hx hb dX12_waive_8 (by decide) ?_
    have hS := g.2.1
    exact W.iret (v := (-2)) hx hb hr (fun t ht hW => ⟨⟨(-2), I0, rfl, ⟨hI, hF, (Or.inl ⟨by omega, by decide, rfl⟩)⟩, h_ret g ht⟩, hS.F ht⟩) hS.2.2 dX12_waive_10
  · skip
    have kp : p.toNatClampNeg = p_t.toNat := h_keq h_p (by omega) (by omega)
    obtain ⟨hpb, hsu⟩ := hbs p_t.toNat (by omega)
    rw [acb, afi, ala, apa, ari, ← kp, ← excb, ← exfi, ← exla, ← expa, ← exri] at hpb
    rw [asu, ← kp, ← exsu] at hsu
    refine lv_if_ne (tgt := 11) hx hb dX12_waive_5 (by decide) (fun _ => ?_) (fun h => absurd h (by decide))
    refine lv_aload_n hx hb dX12_waive_11 rfl (lv_at hl 0 rfl) ?_
    refine h_get (v := .ref cb) hx hb hts iX12 hown g t_a0 (by decide) so_13 rfl 14 (by decide) (hts (.fieldLink RX12 25 "CapLeagueModel" "clubOf" "[I") (by decide +kernel)) rfl dX12_waive_12 (by show va_rf (z.R a0 14) = _; rw [rcb]; rfl) ?_
    refine lv_iload_n hx hb dX12_waive_15 rfl (lv_at hl 1 rfl) ?_
    refine h_ald hx hb g tcb (by decide) so_1314 (xi_in (by rw [h_p]; omega) (by rw [h_p]; omega)) dX12_waive_16 ?_
    refine xw_i (excb.symm) ?_
    refine lv_iconst (v := (-1)) hx hb dX12_waive_17 (by decide) ?_
    refine lv_icmp_ne (tgt := 24) hx hb dX12_waive_18 (by decide) (fun c4 => ?_) (fun c4 => ?_)
    · have ic4 := (xi_ne c4 rfl (by decide) : xcb.toInt ≠ (-1))
      have hg0 : 0 ≤ xcb.toInt ∧ xcb.toInt ≤ 7 := by omega
      obtain ⟨F, eF⟩ : ∃ f : Nat → Int32, f = (q_pr2 xcb xfi xla xpa xri xsu xhc xit) := ⟨_, rfl⟩
      obtain ⟨dc, edc⟩ : ∃ n : Nat, n = 10 * xcb.toInt.toNat := ⟨_, rfl⟩
      refine lv_iconst (v := 0) hx hb dX12_waive_24 (by decide) ?_
      refine lv_istore_n (lv' := [(2, .int 0), (0, .ref a0), (1, .int p)]) hx hb dX12_waive_25 rfl hl (by decide) rfl (fun ls hl => ?_)
      refine lv_aload_n hx hb dX12_waive_26 rfl (lv_at hl 1 rfl) ?_
      refine h_get (v := .int f0_12) hx hb hts iX12 hown g t_a0 (by decide) so_13 rfl 12 (by decide) (hts (.fieldLink RX12 187 "CapLeagueModel" "clock" "I") (by decide +kernel)) rfl dX12_waive_27 (congrArg Value.int (ef0_12.symm)) ?_
      refine lv_istore_n (lv' := [(3, .int f0_12), (2, .int 0), (0, .ref a0), (1, .int p)]) hx hb dX12_waive_30 rfl hl (by decide) rfl (fun ls hl => ?_)
      have loop31_0 : ∀ (n : Nat) (I7 : tI) (H : Heap) (locs : List Loc) (ls : Array Slot) (v5 v6 : Int32), h_G h_so h_fk E A z I7 L0 s s.heap H locs → h_I z I7 → h_F [(1323, 999), (1314, 999), (13, 33)] z I0 I7 → lv_has ls 5 [(0, .ref a0), (1, .int p), (2, .int v5), (3, .int v6)] → ((-2147483648) ≤ v5.toInt ∧ v5.toInt ≤ 2147483647) → (0 ≤ v6.toInt ∧ v6.toInt ≤ 10) → h_F [(1323, 999)] z I0 I7 → (v5 = q_rel f0_12.toInt.toNat F ((v6.toInt).toNat - f0_12.toInt.toNat)) → (∀ k : Nat, I7 de (dc + k) = q_dea f0_12.toInt.toNat (v6.toInt).toNat F (fun j => I0 de (dc + j)) k) → (∀ k : Nat, k < dc → I7 de k = I0 de k) → (f0_12.toInt ≤ v6.toInt) → (10 - v6.toInt) < (n : Int) → W pr_ l ev_ (headSpec wsX12_waive ({ frames := 3, cells := 0, slots := 0, locals := 192 })).room s m ([.ref a0, .int p] : List Value).toArray below meth cd_ H locs 0 0 (MQ below (va_Qi (fun r (I1 : tI) => h_I z I1 ∧ h_F [(1323, 999), (1314, 999), (13, 33)] z I0 I1 ∧ ((¬ (0 ≤ p_t ∧ p_t < (I0 a0 13).toInt) ∧ r.toInt = -2 ∧ I1 = I0) ∨ ((0 ≤ p_t ∧ p_t < (I0 a0 13).toInt) ∧ (I0 (h_ad z a0 14) p_t.toNat).toInt = -1 ∧ r.toInt = -4 ∧ I1 = I0) ∨ ((0 ≤ p_t ∧ p_t < (I0 a0 13).toInt) ∧ (I0 (h_ad z a0 14) p_t.toNat).toInt ≠ -1 ∧ r = q_rel (I0 a0 12).toInt.toNat (q_pr2 (I0 (h_ad z a0 14) p_t.toNat) (I0 (h_ad z a0 15) p_t.toNat) (I0 (h_ad z a0 16) p_t.toNat) (I0 (h_ad z a0 17) p_t.toNat) (I0 (h_ad z a0 18) p_t.toNat) (I0 (h_ad z a0 19) p_t.toNat) (I0 (h_ad z a0 20) p_t.toNat) (I0 (h_ad z a0 21) p_t.toNat)) (10 - (I0 a0 12).toInt.toNat) ∧ (∀ k : Nat, I1 (h_ad z a0 23) (10 * (I0 (h_ad z a0 14) p_t.toNat).toInt.toNat + k) = q_dea (I0 a0 12).toInt.toNat 10 (q_pr2 (I0 (h_ad z a0 14) p_t.toNat) (I0 (h_ad z a0 15) p_t.toNat) (I0 (h_ad z a0 16) p_t.toNat) (I0 (h_ad z a0 17) p_t.toNat) (I0 (h_ad z a0 18) p_t.toNat) (I0 (h_ad z a0 19) p_t.toNat) (I0 (h_ad z a0 20) p_t.toNat) (I0 (h_ad z a0 21) p_t.toNat)) (fun j : Nat => I0 (h_ad z a0 23) (10 * (I0 (h_ad z a0 14) p_t.toNat).toInt.toNat + j)) k) ∧ (∀ k : Nat, k < 10 * (I0 (h_ad z a0 14) p_t.toNat).toInt.toNat → I1 (h_ad z a0 23) k = I0 (h_ad z a0 23) k) ∧ I1 (h_ad z a0 14) p_t.toNat = -1 ∧ (∀ k : Nat, k ≠ p_t.toNat → I1 (h_ad z a0 14) k = I0 (h_ad z a0 14) k) ∧ I1 a0 33 = 0))) (fun (I1 : tI) t => h_B E A z I1 L0 t) A) ([.ref a0, .int p] : List Value).toArray s 0 0 A) (F0 m 31 ls []) := by
        intro n
        induction n with
        | zero => intro I7 H locs ls v5 v6 g hI hF hl jv5 jv6 hL31 hx31_0 hx31_1 hx31_2 hx31_3 hn; exact absurd hn (by omega)
        | succ n ih31 =>
          intro I7 H locs ls v5 v6 g hI hF hl jv5 jv6 hL31 hx31_0 hx31_1 hx31_2 hx31_3 hn
          have eF1 : F v6.toInt.toNat = if q_un2 xcb xfi xla xhc xit v6 then q_hun (q_pay xcb xfi xla xpa xri v6) xsu.toInt else 0 := by rw [eF]; unfold q_pr2; rw [q_of (by omega)]
          refine lv_iload_n hx hb dX12_waive_31 rfl (lv_at hl 3 rfl) ?_
          refine lv_bipush (v := 10) hx hb dX12_waive_32 (by decide) ?_
          refine lv_icmp_ge (tgt := 99) hx hb dX12_waive_34 (by decide) (fun c8 => ?_) (fun c8 => ?_)
          · have ic8 := (xi_le c8 (by decide) rfl : 10 ≤ v6.toInt)
            refine lv_aload_n hx hb dX12_waive_99 rfl (lv_at hl 0 rfl) ?_
            refine h_get (v := .ref cb) hx hb hts iX12 hown g t_a0 (by decide) so_13 rfl 14 (by decide) (hts (.fieldLink RX12 25 "CapLeagueModel" "clubOf" "[I") (by decide +kernel)) rfl dX12_waive_100 (by show va_rf (z.R a0 14) = _; rw [rcb]; rfl) ?_
            refine lv_iload_n hx hb dX12_waive_103 rfl (lv_at hl 1 rfl) ?_
            refine lv_iconst (v := (-1)) hx hb dX12_waive_104 (by decide) ?_
            refine h_ast hx hb g tcb (by decide) so_1314 (xi_in (by rw [h_p]; omega) (by rw [h_p]; omega)) dX12_waive_105 (fun I9 H locs eI9 g => ?_)
            have hI := hI.wr eI9 tcb (rfl : h_bd 1314 _ = ((-1), 7)) (by decide) (by decide)
            have hF := hF.wr eI9 tcb rfl
            refine lv_aload_n hx hb dX12_waive_106 rfl (lv_at hl 0 rfl) ?_
            refine lv_iconst (v := 0) hx hb dX12_waive_107 (by decide) ?_
            refine h_putI (ty := .int) (v := 0) hx hb hts iX12 tyX12 tyX12_ok nmX12 hown g t_a0 (by decide) so_13 rfl 33 (by decide) rfl (hts (.fieldLink RX12 247 "CapLeagueModel" "moves" "I") (by decide +kernel)) rfl rfl (by decide +kernel) rfl rfl dX12_waive_108 (fun I10 H locs eI10 g => ?_)
            have hI := hI.wr eI10 t_a0 (rfl : h_bd 13 33 = (0, 12)) (by decide) (by decide)
            have hF := hF.wr eI10 t_a0 rfl
            refine lv_iload_n hx hb dX12_waive_111 rfl (lv_at hl 2 rfl) ?_
            have hS := g.2.1
            exact W.iret (v := v5) hx hb hr (fun t ht hW => ⟨⟨v5, I10, rfl, ⟨hI, hF, (by rw [acb, afi, ala, apa, ari, asu, ahc, ait, ade, ← kp, ← excb, ← exfi, ← exla, ← expa, ← exri, ← exsu, ← exhc, ← exit, ← ef0_12]; rw [← eF, ← edc]; have y10 : v6.toInt.toNat = 10 := (by omega); have h9 := hx31_0; have h8 := hx31_1; rw [y10] at h9 h8; exact Or.inr (Or.inr ⟨by omega, by omega, h9, fun k => ((h_n1 eI10 tde t_a0 (by decide)).trans (h_n1 eI9 tde tcb (by decide))).trans (h8 k), fun k hk => ((h_n1 eI10 tde t_a0 (by decide)).trans (h_n1 eI9 tde tcb (by decide))).trans (hx31_2 k hk), (h_n1 eI10 tcb t_a0 (by decide)).trans (h_n0 eI9), fun k hk => (h_n1 eI10 tcb t_a0 (by decide)).trans ((h_n2 eI9 hk).trans (h_F.at hL31 tcb rfl)), h_n0 eI10⟩))⟩, h_ret g ht⟩, hS.F ht⟩) hS.2.2 dX12_waive_112
          · have ic8 := (xi_nle c8 (by decide) rfl : v6.toInt < 10)
            refine lv_aload_n hx hb dX12_waive_37 rfl (lv_at hl 0 rfl) ?_
            refine lv_iload_n hx hb dX12_waive_38 rfl (lv_at hl 1 rfl) ?_
            refine lv_iload_n hx hb dX12_waive_39 rfl (lv_at hl 3 rfl) ?_
            refine vp_callSi (W.runV (As := [.int p, .int v6]) (rest := []) ⟨hx, hb, hml, hown, hts⟩ (tX12_isUnderB l E X A z I7 L0 a0 t_a0 p (p_t) h_p (by omega) v6 (v6.toInt) rfl) (cwV 2 hts gX12_waive_X12_isUnder rfl rfl rfl (by decide +kernel) ⟨Nat.le_of_ble_eq_true rfl, Nat.le_of_ble_eq_true rfl⟩) ⟨h_blind _ _ _ _ _ _ _, h_recv g t_a0 (by decide) so_13 (q := (RX12, TX12, 51)) rfl, h_pre _ hE hk hX hA hI hR g⟩ rfl rfl hl.1 rfl (lv_room (Nat.le_of_ble_eq_true rfl)) dX12_waive_40 ⟨Nat.le_of_ble_eq_true rfl, Nat.le_of_ble_eq_true rfl⟩) (fun rh11 h11 => ?_)
            obtain ⟨h11, h11p0⟩ := h11
            rw [acb, afi, ala, ahc, ait, ← kp] at h11p0
            rw [show I7 cb p.toNatClampNeg = xcb from (h_F.at hL31 tcb rfl).trans (excb.symm), show I7 fi p.toNatClampNeg = xfi from (h_F.at hL31 tfi rfl).trans (exfi.symm), show I7 la p.toNatClampNeg = xla from (h_F.at hL31 tla rfl).trans (exla.symm), show I7 hc p.toNatClampNeg = xhc from (h_F.at hL31 thc rfl).trans (exhc.symm), show I7 it p.toNatClampNeg = xit from (h_F.at hL31 tit rfl).trans (exit.symm)] at h11p0
            refine lv_if_ne (tgt := 49) hx hb dX12_waive_43 (by decide) (fun c12 => ?_) (fun c12 => ?_)
            · have ic12 := (xi_ne c12 rfl (by decide) : rh11.toInt ≠ 0)
              refine lv_aload_n hx hb dX12_waive_49 rfl (lv_at hl 0 rfl) ?_
              refine lv_iload_n hx hb dX12_waive_50 rfl (lv_at hl 1 rfl) ?_
              refine lv_iload_n hx hb dX12_waive_51 rfl (lv_at hl 3 rfl) ?_
              refine vp_callSi (W.runV (As := [.int p, .int v6]) (rest := []) ⟨hx, hb, hml, hown, hts⟩ (tX12_payOfB l E X A z I7 L0 a0 t_a0 p (p_t) h_p (by omega) v6 (v6.toInt) rfl) (cwV 2 hts gX12_waive_X12_payOf rfl rfl rfl (by decide +kernel) ⟨Nat.le_of_ble_eq_true rfl, Nat.le_of_ble_eq_true rfl⟩) ⟨h_blind _ _ _ _ _ _ _, h_recv g t_a0 (by decide) so_13 (q := (RX12, TX12, 51)) rfl, h_pre _ hE hk hX hA hI hR g⟩ rfl rfl hl.1 rfl (lv_room (Nat.le_of_ble_eq_true rfl)) dX12_waive_52 ⟨Nat.le_of_ble_eq_true rfl, Nat.le_of_ble_eq_true rfl⟩) (fun rh13 h13 => ?_)
              have h13p0 := h13
              have jrh13 : -2147483648 ≤ rh13.toInt ∧ rh13.toInt ≤ 2147483647 := ⟨xi_lo _, Int.le_of_lt_add_one (xi_hi _)⟩
              rw [acb, afi, ala, apa, ari, ← kp] at h13p0
              rw [show I7 cb p.toNatClampNeg = xcb from (h_F.at hL31 tcb rfl).trans (excb.symm), show I7 fi p.toNatClampNeg = xfi from (h_F.at hL31 tfi rfl).trans (exfi.symm), show I7 la p.toNatClampNeg = xla from (h_F.at hL31 tla rfl).trans (exla.symm), show I7 pa p.toNatClampNeg = xpa from (h_F.at hL31 tpa rfl).trans (expa.symm), show I7 ri p.toNatClampNeg = xri from (h_F.at hL31 tri rfl).trans (exri.symm)] at h13p0
              have py0 : 0 ≤ rh13.toInt := by rw [h13p0]; exact q_pay_0 _ _ _ _ _ _
              refine lv_aload_n hx hb dX12_waive_55 rfl (lv_at hl 0 rfl) ?_
              refine h_get (v := .ref su) hx hb hts iX12 hown g t_a0 (by decide) so_13 rfl 19 (by decide) (hts (.fieldLink RX12 40 "CapLeagueModel" "sure" "[I") (by decide +kernel)) rfl dX12_waive_56 (by show va_rf (z.R a0 19) = _; rw [rsu]; rfl) ?_
              refine lv_iload_n hx hb dX12_waive_59 rfl (lv_at hl 1 rfl) ?_
              refine h_ald hx hb g tsu (by decide) so_1319 (xi_in (by rw [h_p]; omega) (by rw [h_p]; omega)) dX12_waive_60 ?_
              refine xw_i ((h_F.at hL31 tsu rfl).trans (exsu.symm)) ?_
              refine lv_imul hx hb dX12_waive_61 ?_
              refine lv_topi (fun v14 ev14 => ?_)
              have jv14 : -2147483648 ≤ v14.toInt ∧ v14.toInt ≤ 2147483647 := ⟨xi_lo _, Int.le_of_lt_add_one (xi_hi _)⟩
              refine lv_bipush (v := 100) hx hb dX12_waive_62 (by decide) ?_
              refine lv_idiv hx hb dX12_waive_64 (by decide) ?_
              refine lv_topi (fun v15 ev15 => ?_)
              have jv15 : -2147483648 ≤ v15.toInt ∧ v15.toInt ≤ 2147483647 := ⟨xi_lo _, Int.le_of_lt_add_one (xi_hi _)⟩
              have hp9 := q_hun32 ev14 ev15 rfl py0 (by rw [h13p0]; exact hpb _) hsu.1 (by omega)
              have ep : F v6.toInt.toNat = v15 := by rw [eF1, if_pos (by rcases h11p0 with q | q; exact q.2; exact absurd q.1 (by omega)), ← h13p0, hp9]
              refine lv_istore (lv' := [(4, .int v15), (0, .ref a0), (1, .int p), (2, .int v5), (3, .int v6)]) hx hb dX12_waive_65 hl (by decide) rfl (fun ls hl => ?_)
              refine lv_aload_n hx hb dX12_waive_67 rfl (lv_at hl 1 rfl) ?_
              refine h_get (v := .ref de) hx hb hts iX12 hown g t_a0 (by decide) so_13 rfl 23 (by decide) (hts (.fieldLink RX12 52 "CapLeagueModel" "dead" "[I") (by decide +kernel)) rfl dX12_waive_68 (by show va_rf (z.R a0 23) = _; rw [rde]; rfl) ?_
              refine lv_bipush (v := 10) hx hb dX12_waive_71 (by decide) ?_
              refine lv_aload_n hx hb dX12_waive_73 rfl (lv_at hl 1 rfl) ?_
              refine h_get (v := .ref cb) hx hb hts iX12 hown g t_a0 (by decide) so_13 rfl 14 (by decide) (hts (.fieldLink RX12 25 "CapLeagueModel" "clubOf" "[I") (by decide +kernel)) rfl dX12_waive_74 (by show va_rf (z.R a0 14) = _; rw [rcb]; rfl) ?_
              refine lv_iload_n hx hb dX12_waive_77 rfl (lv_at hl 2 rfl) ?_
              refine h_ald hx hb g tcb (by decide) so_1314 (xi_in (by rw [h_p]; omega) (by rw [h_p]; omega)) dX12_waive_78 ?_
              refine xw_i ((h_F.at hL31 tcb rfl).trans (excb.symm)) ?_
              refine lv_imul hx hb dX12_waive_79 ?_
              refine lv_topi (fun v16 ev16 => ?_)
              have jv16 : v16.toInt = 10 * xcb.toInt := xi_mul ev16 (by decide) rfl (by omega) (by omega)
              refine lv_iload_n hx hb dX12_waive_80 rfl (lv_at hl 4 rfl) ?_
              refine lv_iadd hx hb dX12_waive_81 ?_
              refine lv_topi (fun v17 ev17 => ?_)
              have jv17 : v17.toInt = v16.toInt + v6.toInt := xi_add ev17 rfl rfl (by omega) (by omega)
              refine lv_dup2_11 hx hb dX12_waive_82 rfl rfl ?_
              refine h_ald hx hb g tde (by decide) so_1323 (xi_in (by omega) (by omega)) dX12_waive_83 ?_
              refine lv_topi (fun v18 ev18 => ?_)
              have jv18 := hI.rd de v17.toNatClampNeg tde ev18 (rfl : h_bd 1323 _ = ((-2147483648), 2147483647))
              refine lv_iload hx hb dX12_waive_84 (lv_at hl 0 rfl) ?_
              refine lv_iadd hx hb dX12_waive_86 ?_
              refine lv_topi (fun v19 ev19 => ?_)
              have jv19 : -2147483648 ≤ v19.toInt ∧ v19.toInt ≤ 2147483647 := ⟨xi_lo _, Int.le_of_lt_add_one (xi_hi _)⟩
              refine h_ast hx hb g tde (by decide) so_1323 (xi_in (by omega) (by omega)) dX12_waive_87 (fun I20 H locs eI20 g => ?_)
              have hI := hI.wr eI20 tde (rfl : h_bd 1323 _ = ((-2147483648), 2147483647)) (xi_lo _) (Int.le_of_lt_add_one (xi_hi _))
              have hF := hF.wr eI20 tde rfl
              have ki : v17.toNatClampNeg = dc + v6.toInt.toNat := h_keq rfl (by omega) (by omega)
              refine lv_iload_n hx hb dX12_waive_88 rfl (lv_at hl 3 rfl) ?_
              refine lv_iload hx hb dX12_waive_89 (lv_at hl 0 rfl) ?_
              refine lv_iadd hx hb dX12_waive_91 ?_
              refine lv_topi (fun v21 ev21 => ?_)
              have jv21 : -2147483648 ≤ v21.toInt ∧ v21.toInt ≤ 2147483647 := ⟨xi_lo _, Int.le_of_lt_add_one (xi_hi _)⟩
              refine lv_istore_n (lv' := [(2, .int v21), (4, .int v15), (0, .ref a0), (1, .int p), (3, .int v6)]) hx hb dX12_waive_92 rfl hl (by decide) rfl (fun ls hl => ?_)
              obtain ⟨v22, ev22⟩ : ∃ z : Int32, z = v6 + 1 := ⟨_, rfl⟩
              have jv22 : v22.toInt = v6.toInt + 1 := xi_add ev22 rfl (by decide) (by omega) (by omega)
              refine lv_iinc (v := v22) (lv' := [(3, .int v22), (2, .int v21), (4, .int v15), (0, .ref a0), (1, .int p)]) hx hb dX12_waive_93 hl (k := 4) rfl (by rw [ev22]; rfl) (by decide) rfl (fun ls hl => ?_)
              refine lv_goto (tgt := 31) hx hb dX12_waive_96 (by decide) ?_
              exact ih31 I20 _ _ _ v21 v22 g hI hF (lv_sub hl [3, 4, 1, 0] rfl) (by omega) (by omega) (h_F.wr (h_F.call (h_F.rf : h_F [(1323, 999)] z I0 I0) hL31 rfl) eI20 tde rfl) (q_rel_s hx31_0 (by omega) (by omega : v22.toInt.toNat = v6.toInt.toNat + 1) (by rw [ep]; exact ev21)) (q_dea_s (A := fun k => I7 de (dc + k)) (B := fun k => I20 de (dc + k)) hx31_1 (by omega) (by omega : v22.toInt.toNat = v6.toInt.toNat + 1) (fun k hk => by rw [ki] at eI20; exact h_n2 eI20 (by omega)) (by rw [ep]; rw [ki] at eI20; have ex9 := ev18.symm; rw [ki] at ex9; show I20 de (dc + _) = I7 de (dc + _) + _; rw [ex9, ← ev19]; exact h_n0 eI20)) (fun k hk => (by rw [ki] at eI20; exact h_n2 eI20 (by omega) : I20 de k = I7 de k).trans (hx31_2 k hk)) (by omega) (by omega)
            · have ic12 := (xi_eq c12 rfl (by decide) : rh11.toInt = 0)
              refine lv_goto (tgt := 93) hx hb dX12_waive_46 (by decide) ?_
              obtain ⟨v23, ev23⟩ : ∃ z : Int32, z = v6 + 1 := ⟨_, rfl⟩
              have jv23 : v23.toInt = v6.toInt + 1 := xi_add ev23 rfl (by decide) (by omega) (by omega)
              refine lv_iinc (v := v23) (lv' := [(3, .int v23), (0, .ref a0), (1, .int p), (2, .int v5)]) hx hb dX12_waive_93 hl (k := 3) rfl (by rw [ev23]; rfl) (by decide) rfl (fun ls hl => ?_)
              refine lv_goto (tgt := 31) hx hb dX12_waive_96 (by decide) ?_
              exact ih31 I7 _ _ _ v5 v23 g hI hF (lv_sub hl [1, 2, 3, 0] rfl) (by omega) (by omega) (h_F.call (h_F.rf : h_F [(1323, 999)] z I0 I0) hL31 rfl) (q_rel_s hx31_0 (by omega) (by omega : v23.toInt.toNat = v6.toInt.toNat + 1) (by rw [eF1, if_neg (by rcases h11p0 with q | q; exact absurd q.1 (by omega); exact q.2)]; exact (Int32.add_zero _).symm)) (q_dea_s (A := fun k => I7 de (dc + k)) (B := fun k => I7 de (dc + k)) hx31_1 (by omega) (by omega : v23.toInt.toNat = v6.toInt.toNat + 1) (fun k _ => rfl) (by rw [eF1, if_neg (by rcases h11p0 with q | q; exact absurd q.1 (by omega); exact q.2)]; exact (Int32.add_zero _).symm)) (hx31_2) (by omega) (by omega)
      have kc24 : (0 : Int32).toInt = 0 := by decide
      exact loop31_0 _ I0 _ _ _ (0) f0_12 g hI hF (lv_sub hl [2, 3, 1, 0] rfl) ⟨by decide, by decide⟩ (by omega) (h_F.rf : h_F [(1323, 999)] z I0 I0) (by rw [Nat.sub_self]; rfl) (fun k => q_dea_0 (d := fun j => I0 de (dc + j)) k) (fun k _ => rfl) (by omega) (show (10 - f0_12.toInt) < (((10 - f0_12.toInt).toNat + 1 : Nat) : Int) by omega)
    · have ic4 := (xi_eq c4 rfl (by decide) : xcb.toInt = (-1))
      refine lv_bipush (v := (-4)) hx hb dX12_waive_21 (by decide) ?_
      have hS := g.2.1
      exact W.iret (v := (-4)) hx hb hr (fun t ht hW => ⟨⟨(-4), I0, rfl, ⟨hI, hF, (by rw [acb, afi, ala, apa, ari, asu, ahc, ait, ade, ← kp, ← excb, ← exfi, ← exla, ← expa, ← exri, ← exsu, ← exhc, ← exit, ← ef0_12]; exact Or.inr (Or.inl ⟨by omega, by omega, by decide, rfl⟩))⟩, h_ret g ht⟩, hS.F ht⟩) hS.2.2 dX12_waive_23

