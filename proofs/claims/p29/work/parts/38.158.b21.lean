set_option maxHeartbeats 4000000 in
set_option maxRecDepth 100000 in
theorem tX10_handB (l : Launch) (E : tE) (X : tX) (A : Nat → Prop) (z : tZ) (I0 : tI) (L0 : tL) (a0 : Nat) (t_a0 : z.ty a0 = 11) (x : Int32) (x_t : Int) (h_x : x.toInt = x_t) (b_x : 0 ≤ x_t ∧ x_t ≤ 79) (y : Int32) (y_t : Int) (h_y : y.toInt = y_t) (k : Int32) (k_t : Int) (h_k : k.toInt = k_t) : Met l yX10_hand wsX10_hand ({ frames := 1, cells := 0, slots := 0, locals := 64 }) (va_Pc [.ref a0, .int x, .int y, .int k] (h_P E X A z I0 L0)) (va_Qv (fun (I1 : tI) => h_I z I1 ∧ h_F [(1102, 999), (1100, 999), (1101, 999)] z I0 I1 ∧ ((∀ j : Nat, I1 (h_ad z a0 0) j = if j = x_t.toNat then y else I0 (h_ad z a0 0) j) ∧ (∀ j : Nat, I1 (h_ad z a0 1) j = if j = x_t.toNat then k else I0 (h_ad z a0 1) j) ∧ (∀ j : Nat, I1 (h_ad z a0 2) j = if j = x_t.toNat then I0 (h_ad z a0 0) x_t.toNat else I0 (h_ad z a0 2) j))) (fun (I1 : tI) t => h_B E A z I1 L0 t) A) 0 0 A := by
  refine Met.ofW (cc := cX10_hand) (maxL := 4) (ret := none) (by decide) rfl ?_
  intro pr_ ev_ s m args below meth cd_ s₁ B hml hv
  obtain ⟨rfl, hE, hk, hX, hA, hK, hI, hR, hB0⟩ := hv
  have g : h_G h_so h_fk E A z I0 L0 s s.heap s.heap [] := ⟨hK, va_S.rf, hB0⟩
  have hF : h_F [(1102, 999), (1100, 999), (1101, 999)] z I0 I0 := h_F.rf
  have hx := B.exec
  have hb := B.bytes
  have hr := B.returns
  have hts := atoms_spec (ws := wsX10_hand) B.pre
  have hown : s.vm.findClass RX10 = some m.cls := findClass_of_methodNamed B.named
  have hlocks := B.notSynchronized
  have iX10 : ∀ w ∈ u_ws RX10 TX10 4, w ∈ wsX10_hand := by decide +kernel
  have hl := lv_entry ([.ref a0, .int x, .int y, .int k]) (n := 4) (Nat.le_of_ble_eq_true rfl)
  rw [lg_entry_eq]
  generalize (lg_sl ([.ref a0, .int x, .int y, .int k]) ++ List.replicate (4 - (lg_sl ([.ref a0, .int x, .int y, .int k])).length) Slot.unset).toArray = ls at hl ⊢
  have hl : lv_has ls 4 [(0, .ref a0), (1, .int x), (2, .int y), (3, .int k)] := hl
  have b_y : -2147483648 ≤ y_t ∧ y_t ≤ 2147483647 := h_y ▸ ⟨xi_lo y, Int.le_of_lt_add_one (xi_hi y)⟩
  have b_k : -2147483648 ≤ k_t ∧ k_t ≤ 2147483647 := h_k ▸ ⟨xi_lo k, Int.le_of_lt_add_one (xi_hi k)⟩
  obtain ⟨hd, rhd, thd⟩ := hR.at a0 0 t_a0 (rfl : h_rs 11 0 = some (1100, false)) (by decide)
  have ahd : h_ad z a0 0 = hd := h_ad.at rhd
  obtain ⟨sh, rsh, tsh⟩ := hR.at a0 1 t_a0 (rfl : h_rs 11 1 = some (1101, false)) (by decide)
  have ash : h_ad z a0 1 = sh := h_ad.at rsh
  obtain ⟨gv, rgv, tgv⟩ := hR.at a0 2 t_a0 (rfl : h_rs 11 2 = some (1102, false)) (by decide)
  have agv : h_ad z a0 2 = gv := h_ad.at rgv
  have kn : x.toNatClampNeg = x_t.toNat := h_keq h_x (by omega) (by omega)
  refine lv_iload_n hx hb dX10_hand_0 rfl (lv_at hl 1 rfl) ?_
  refine lv_if_lt (tgt := 36) hx hb dX10_hand_1 (by decide) (fun h => absurd (xi_lt h h_x (by decide) : x_t < 0) (by omega)) (fun c1 => ?_)
  have ic1 := (xi_nlt c1 h_x (by decide) : 0 ≤ x_t)
  refine lv_iload_n hx hb dX10_hand_4 rfl (lv_at hl 1 rfl) ?_
  refine lv_bipush (v := 80) hx hb dX10_hand_5 (by decide) ?_
  refine lv_icmp_ge (tgt := 36) hx hb dX10_hand_7 (by decide) (fun h => absurd (xi_le h (by decide) h_x : 80 ≤ x_t) (by omega)) (fun c2 => ?_)
  have ic2 := (xi_nle c2 (by decide) h_x : x_t < 80)
  refine lv_aload_n hx hb dX10_hand_10 rfl (lv_at hl 0 rfl) ?_
  refine h_get (v := .ref gv) hx hb hts iX10 hown g t_a0 (by decide) so_11 rfl 2 (by decide) (hts (.fieldLink RX10 18 "CapLeague$Turns" "giver" "[I") (by decide +kernel)) rfl dX10_hand_11 (by show va_rf (z.R a0 2) = _; rw [rgv]; rfl) ?_
  refine lv_iload_n hx hb dX10_hand_14 rfl (lv_at hl 1 rfl) ?_
  refine lv_aload_n hx hb dX10_hand_15 rfl (lv_at hl 0 rfl) ?_
  refine h_get (v := .ref hd) hx hb hts iX10 hown g t_a0 (by decide) so_11 rfl 0 (by decide) (hts (.fieldLink RX10 11 "CapLeague$Turns" "holder" "[I") (by decide +kernel)) rfl dX10_hand_16 (by show va_rf (z.R a0 0) = _; rw [rhd]; rfl) ?_
  refine lv_iload_n hx hb dX10_hand_19 rfl (lv_at hl 1 rfl) ?_
  refine h_ald hx hb g thd (by decide) so_1100 (xi_in (by rw [h_x]; omega) (by rw [h_x]; omega)) dX10_hand_20 ?_
  refine lv_topi (fun v3 ev3 => ?_)
  have jv3 := hI.rd hd x.toNatClampNeg thd ev3 (rfl : h_bd 1100 _ = ((-2147483648), 2147483647))
  refine h_ast hx hb g tgv (by decide) so_1102 (xi_in (by rw [h_x]; omega) (by rw [h_x]; omega)) dX10_hand_21 (fun I4 H locs eI4 g => ?_)
  have hI := hI.wr eI4 tgv (rfl : h_bd 1102 _ = ((-2147483648), 2147483647)) (xi_lo _) (Int.le_of_lt_add_one (xi_hi _))
  have hF := hF.wr eI4 tgv rfl
  refine lv_aload_n hx hb dX10_hand_22 rfl (lv_at hl 0 rfl) ?_
  refine h_get (v := .ref hd) hx hb hts iX10 hown g t_a0 (by decide) so_11 rfl 0 (by decide) (hts (.fieldLink RX10 11 "CapLeague$Turns" "holder" "[I") (by decide +kernel)) rfl dX10_hand_23 (by show va_rf (z.R a0 0) = _; rw [rhd]; rfl) ?_
  refine lv_iload_n hx hb dX10_hand_26 rfl (lv_at hl 1 rfl) ?_
  refine lv_iload_n hx hb dX10_hand_27 rfl (lv_at hl 2 rfl) ?_
  refine h_ast hx hb g thd (by decide) so_1100 (xi_in (by rw [h_x]; omega) (by rw [h_x]; omega)) dX10_hand_28 (fun I5 H locs eI5 g => ?_)
  have hI := hI.wr eI5 thd (rfl : h_bd 1100 _ = ((-2147483648), 2147483647)) (xi_lo _) (Int.le_of_lt_add_one (xi_hi _))
  have hF := hF.wr eI5 thd rfl
  refine lv_aload_n hx hb dX10_hand_29 rfl (lv_at hl 0 rfl) ?_
  refine h_get (v := .ref sh) hx hb hts iX10 hown g t_a0 (by decide) so_11 rfl 1 (by decide) (hts (.fieldLink RX10 15 "CapLeague$Turns" "shield" "[I") (by decide +kernel)) rfl dX10_hand_30 (by show va_rf (z.R a0 1) = _; rw [rsh]; rfl) ?_
  refine lv_iload_n hx hb dX10_hand_33 rfl (lv_at hl 1 rfl) ?_
  refine lv_iload_n hx hb dX10_hand_34 rfl (lv_at hl 3 rfl) ?_
  refine h_ast hx hb g tsh (by decide) so_1101 (xi_in (by rw [h_x]; omega) (by rw [h_x]; omega)) dX10_hand_35 (fun I6 H locs eI6 g => ?_)
  have hI := hI.wr eI6 tsh (rfl : h_bd 1101 _ = ((-2147483648), 2147483647)) (xi_lo _) (Int.le_of_lt_add_one (xi_hi _))
  have hF := hF.wr eI6 tsh rfl
  have hS := g.2.1
  exact W.vret hx hb hr (fun t ht hW => ⟨⟨I6, rfl, ⟨hI, hF, (by rw [ahd, ash, agv]; exact ⟨fun j => (h_n1 eI6 thd tsh (by decide)).trans ((h_wif eI5 kn j).trans (by rw [h_n1 eI4 thd tgv (by decide)])), fun j => (h_wif eI6 kn j).trans (by rw [(h_n1 eI5 tsh thd (by decide)).trans (h_n1 eI4 tsh tgv (by decide))]), by rw [show I0 hd x_t.toNat = v3 by rw [← kn]; exact ev3.symm]; exact fun j => (h_n1 eI6 tgv tsh (by decide)).trans ((h_n1 eI5 tgv thd (by decide)).trans (h_wif eI4 kn j))⟩)⟩, h_ret g ht⟩, hS.F ht⟩) hS.2.2 dX10_hand_36
set_option maxHeartbeats 4000000 in
set_option maxRecDepth 100000 in
theorem tX9_carryB (l : Launch) (E : tE) (X : tX) (A : Nat → Prop) (z : tZ) (I0 : tI) (L0 : tL) (a0 : Nat) (t_a0 : z.ty a0 = 10) (hmq : (∀ i : Nat, (i : Int) < (I0 a0 3).toInt → ((I0 (h_ad z a0 5) i).toInt = 0 → 0 ≤ (I0 (h_ad z a0 6) i).toInt ∧ (I0 (h_ad z a0 6) i).toInt < (I0 (h_ad z a0 0) 2).toInt) ∧ ((I0 (h_ad z a0 5) i).toInt ≠ 0 → 0 ≤ (I0 (h_ad z a0 6) i).toInt ∧ (I0 (h_ad z a0 6) i).toInt ≤ 79))) (hnq : ∀ p : Nat, (p : Int) < (I0 (h_ad z a0 0) 2).toInt → z.R (h_ad z (h_ad z a0 0) 1) p ≠ none) (hdi : ∀ q q2 b : Nat, z.R (h_ad z (h_ad z a0 0) 1) q = some b → z.R (h_ad z (h_ad z a0 0) 1) q2 = some b → q = q2) : Met l yX9_carryOut wsX9_carryOut ({ frames := 2, cells := 0, slots := 0, locals := 128 }) (va_Pc [.ref a0] (h_P E X A z I0 L0)) (va_Qi (fun r (I1 : tI) => h_I z I1 ∧ h_F [(10, 3), (10, 4), (1102, 999), (1100, 999), (1101, 999), (7, 0)] z I0 I1 ∧ (r = I0 a0 3) ∧ (h_pdo z I0 I1 (h_ad z (h_ad z a0 0) 1) (h_ad z a0 8) (I0 (h_ad z a0 0) 2).toInt (c_cd I0 (h_ad z a0 5) (h_ad z a0 6)) (I0 a0 3).toInt.toNat) ∧ (h_tdo I0 I1 (h_ad z (h_ad z a0 1) 0) (h_ad z (h_ad z a0 1) 1) (h_ad z (h_ad z a0 1) 2) (h_ad z a0 8) (h_ad z a0 9) (c_cd I0 (h_ad z a0 5) (h_ad z a0 6)) (I0 a0 3).toInt.toNat) ∧ (I1 a0 3 = 0 ∧ I1 a0 4 = 0)) (fun (I1 : tI) t => h_B E A z I1 L0 t) A) 0 0 A := by
  refine Met.ofW (cc := cX9_carryOut) (maxL := 4) (ret := (some .int)) (by decide) rfl ?_
  intro pr_ ev_ s m args below meth cd_ s₁ B hml hv
  obtain ⟨rfl, hE, hk, hX, hA, hK, hI, hR, hB0⟩ := hv
  have g : h_G h_so h_fk E A z I0 L0 s s.heap s.heap [] := ⟨hK, va_S.rf, hB0⟩
  have hF : h_F [(10, 3), (10, 4), (1102, 999), (1100, 999), (1101, 999), (7, 0)] z I0 I0 := h_F.rf
  have hx := B.exec
  have hb := B.bytes
  have hr := B.returns
  have hts := atoms_spec (ws := wsX9_carryOut) B.pre
  have hown : s.vm.findClass RX9 = some m.cls := findClass_of_methodNamed B.named
  have hlocks := B.notSynchronized
  have iX9 : ∀ w ∈ u_ws RX9 TX9 10, w ∈ wsX9_carryOut := by decide +kernel
  have iX6 : ∀ w ∈ u_ws RX6 TX6 9, w ∈ wsX9_carryOut := by decide +kernel
  have hl := lv_entry ([.ref a0]) (n := 4) (Nat.le_of_ble_eq_true rfl)
  rw [lg_entry_eq]
  generalize (lg_sl ([.ref a0]) ++ List.replicate (4 - (lg_sl ([.ref a0])).length) Slot.unset).toArray = ls at hl ⊢
  have hl : lv_has ls 4 [(0, .ref a0)] := hl
  obtain ⟨bk, rbk, tbk⟩ := hR.at a0 0 t_a0 (rfl : h_rs 10 0 = some (1, false)) (by decide)
  have abk : h_ad z a0 0 = bk := h_ad.at rbk
  obtain ⟨tu, rtu, ttu⟩ := hR.at a0 1 t_a0 (rfl : h_rs 10 1 = some (11, false)) (by decide)
  have atu : h_ad z a0 1 = tu := h_ad.at rtu
  obtain ⟨it, rit, tit⟩ := hR.at a0 5 t_a0 (rfl : h_rs 10 5 = some (1005, false)) (by decide)
  have ait : h_ad z a0 5 = it := h_ad.at rit
  obtain ⟨th, rth, tth⟩ := hR.at a0 6 t_a0 (rfl : h_rs 10 6 = some (1006, false)) (by decide)
  have ath : h_ad z a0 6 = th := h_ad.at rth
  obtain ⟨to, rto, tto⟩ := hR.at a0 8 t_a0 (rfl : h_rs 10 8 = some (1008, false)) (by decide)
  have ato : h_ad z a0 8 = to := h_ad.at rto
  obtain ⟨sg, rsg, tsg⟩ := hR.at a0 9 t_a0 (rfl : h_rs 10 9 = some (1009, false)) (by decide)
  have asg : h_ad z a0 9 = sg := h_ad.at rsg
  obtain ⟨pl, rpl, tpl⟩ := hR.at bk 1 tbk (rfl : h_rs 1 1 = some (101, false)) (by decide)
  have apl : h_ad z bk 1 = pl := h_ad.at rpl
  obtain ⟨hd, rhd, thd⟩ := hR.at tu 0 ttu (rfl : h_rs 11 0 = some (1100, false)) (by decide)
  have ahd : h_ad z tu 0 = hd := h_ad.at rhd
  obtain ⟨sh, rsh, tsh⟩ := hR.at tu 1 ttu (rfl : h_rs 11 1 = some (1101, false)) (by decide)
  have ash : h_ad z tu 1 = sh := h_ad.at rsh
  obtain ⟨gv, rgv, tgv⟩ := hR.at tu 2 ttu (rfl : h_rs 11 2 = some (1102, false)) (by decide)
  have agv : h_ad z tu 2 = gv := h_ad.at rgv
  obtain ⟨f0_3, ef0_3⟩ : ∃ v : Int32, v = I0 a0 3 := ⟨_, rfl⟩
  have qf0_3 : (I0 a0 3).toInt = f0_3.toInt := congrArg Int32.toInt ef0_3.symm
  have jf0_3 := hI.rd a0 3 t_a0 ef0_3 (rfl : h_bd 10 3 = (0, 12))
  obtain ⟨k_2, ek_2⟩ : ∃ v : Int32, v = I0 bk 2 := ⟨_, rfl⟩
  have qk_2 : (I0 bk 2).toInt = k_2.toInt := congrArg Int32.toInt ek_2.symm
  have jk_2 := hI.rd bk 2 tbk ek_2 (rfl : h_bd 1 2 = (0, 60))
  rw [abk, ait, ath, ← ek_2, ← ef0_3] at hmq
  rw [abk, apl, ← ek_2] at hnq
  rw [abk, apl] at hdi
  obtain ⟨cd, ecd⟩ : ∃ g : Nat → Int, g = c_cd I0 it th := ⟨_, rfl⟩
  refine lv_aload_n hx hb dX9_carryOut_0 rfl (lv_at hl 0 rfl) ?_
  refine h_get (v := .int f0_3) hx hb hts iX9 hown g t_a0 (by decide) so_10 rfl 3 (by decide) (hts (.fieldLink RX9 43 "CapLeague$Trade" "size" "I") (by decide +kernel)) rfl dX9_carryOut_1 (congrArg Value.int (ef0_3.symm)) ?_
  refine lv_istore_n (lv' := [(1, .int f0_3), (0, .ref a0)]) hx hb dX9_carryOut_4 rfl hl (by decide) rfl (fun ls hl => ?_)
  refine lv_iconst (v := 0) hx hb dX9_carryOut_5 (by decide) ?_
  refine lv_istore_n (lv' := [(2, .int 0), (1, .int f0_3), (0, .ref a0)]) hx hb dX9_carryOut_6 rfl hl (by decide) rfl (fun ls hl => ?_)
  have loop7_0 : ∀ (n : Nat) (I2 : tI) (H : Heap) (locs : List Loc) (ls : Array Slot) (v1 : Int32), h_G h_so h_fk E A z I2 L0 s s.heap H locs → h_I z I2 → h_F [(10, 3), (10, 4), (1102, 999), (1100, 999), (1101, 999), (7, 0)] z I0 I2 → lv_has ls 4 [(0, .ref a0), (1, .int f0_3), (2, .int v1)] → (0 ≤ v1.toInt ∧ v1.toInt ≤ 12) → h_F [(1102, 999), (1100, 999), (1101, 999), (7, 0)] z I0 I2 → (h_pdo z I0 I2 pl to k_2.toInt cd (v1.toInt).toNat) → (h_tdo I0 I2 hd sh gv to sg cd (v1.toInt).toNat) → (v1.toInt ≤ f0_3.toInt) → (12 - v1.toInt) < (n : Int) → W pr_ l ev_ (headSpec wsX9_carryOut ({ frames := 2, cells := 0, slots := 0, locals := 128 })).room s m ([.ref a0] : List Value).toArray below meth cd_ H locs 0 0 (MQ below (va_Qi (fun r (I1 : tI) => h_I z I1 ∧ h_F [(10, 3), (10, 4), (1102, 999), (1100, 999), (1101, 999), (7, 0)] z I0 I1 ∧ (r = I0 a0 3) ∧ (h_pdo z I0 I1 (h_ad z (h_ad z a0 0) 1) (h_ad z a0 8) (I0 (h_ad z a0 0) 2).toInt (c_cd I0 (h_ad z a0 5) (h_ad z a0 6)) (I0 a0 3).toInt.toNat) ∧ (h_tdo I0 I1 (h_ad z (h_ad z a0 1) 0) (h_ad z (h_ad z a0 1) 1) (h_ad z (h_ad z a0 1) 2) (h_ad z a0 8) (h_ad z a0 9) (c_cd I0 (h_ad z a0 5) (h_ad z a0 6)) (I0 a0 3).toInt.toNat) ∧ (I1 a0 3 = 0 ∧ I1 a0 4 = 0)) (fun (I1 : tI) t => h_B E A z I1 L0 t) A) ([.ref a0] : List Value).toArray s 0 0 A) (F0 m 7 ls []) := by
    intro n
    induction n with
    | zero => intro I2 H locs ls v1 g hI hF hl jv1 hL7 hx7_0 hx7_1 hx7_2 hn; exact absurd hn (by omega)
    | succ n ih7 =>
      intro I2 H locs ls v1 g hI hF hl jv1 hL7 hx7_0 hx7_1 hx7_2 hn
      have kv : v1.toNatClampNeg = v1.toInt.toNat := h_keq rfl (by omega) (by omega)
      have hmv := hmq v1.toInt.toNat
      refine lv_iload_n hx hb dX9_carryOut_7 rfl (lv_at hl 2 rfl) ?_
      refine lv_iload_n hx hb dX9_carryOut_8 rfl (lv_at hl 1 rfl) ?_
      refine lv_icmp_ge (tgt := 96) hx hb dX9_carryOut_9 (by decide) (fun c3 => ?_) (fun c3 => ?_)
      · have ic3 := (xi_le c3 rfl rfl : f0_3.toInt ≤ v1.toInt)
        refine lv_aload_n hx hb dX9_carryOut_96 rfl (lv_at hl 0 rfl) ?_
        refine va_callv (va_runV (As := []) (rest := []) ⟨hx, hb, hml, hown, hts⟩ (tX9_clearB l E X A z I2 L0 a0 t_a0) (cwV 0 hts gX9_carryOut_X9_clear rfl rfl rfl (by decide +kernel) ⟨Nat.le_of_ble_eq_true rfl, Nat.le_of_ble_eq_true rfl⟩) ⟨h_blind _ _ _ _ _ _ _, h_recv g t_a0 (by decide) so_10 (q := (RX9, TX9, 10)) rfl, h_pre _ hE hk hX hA hI hR g⟩ rfl rfl hl.1 rfl (lv_room (Nat.le_of_ble_eq_true rfl)) dX9_carryOut_97 ⟨Nat.le_of_ble_eq_true rfl, Nat.le_of_ble_eq_true rfl⟩) g.2.1 (fun q _ h => h) (fun q h => h) (fun I5 t H1 locs ht hvm h4 hB hz1 hk1 hS => ?_)
        obtain ⟨hI, fh4, h4⟩ := h4
        replace g := h_after g hB ht hS
        generalize H1 = H at g
        clear hB hk1 hz1 ht hvm hS
        have hF := hF.call fh4 rfl
        have h4p0 := h4
        refine lv_iload_n hx hb dX9_carryOut_100 rfl (lv_at hl 1 rfl) ?_
        have hS := g.2.1
        exact W.iret (v := f0_3) hx hb hr (fun t ht hW => ⟨⟨f0_3, I5, rfl, ⟨hI, hF, ⟨(by rw [← ef0_3]), (by rw [abk, apl, ato, ait, ath, ← ek_2, ← ef0_3, ← ecd, show f0_3.toInt.toNat = v1.toInt.toNat by omega]; exact hx7_0.c (by omega) hR tpl (fun b tb => h_F.at fh4 tb rfl)), (by rw [atu, ahd, ash, agv, ato, asg, ait, ath, ← ef0_3, ← ecd, show f0_3.toInt.toNat = v1.toInt.toNat by omega]; exact hx7_1.c (fun k => h_F.at fh4 thd rfl) (fun k => h_F.at fh4 tsh rfl) (fun k => h_F.at fh4 tgv rfl)), (h4p0)⟩⟩, h_ret g ht⟩, hS.F ht⟩) hS.2.2 dX9_carryOut_101
      · have ic3 := (xi_nle c3 rfl rfl : v1.toInt < f0_3.toInt)
        refine lv_aload_n hx hb dX9_carryOut_12 rfl (lv_at hl 0 rfl) ?_
        refine h_get (v := .ref it) hx hb hts iX9 hown g t_a0 (by decide) so_10 rfl 5 (by decide) (hts (.fieldLink RX9 18 "CapLeague$Trade" "isTurn" "[Z") (by decide +kernel)) rfl dX9_carryOut_13 (by show va_rf (z.R a0 5) = _; rw [rit]; rfl) ?_
        refine lv_iload_n hx hb dX9_carryOut_16 rfl (lv_at hl 2 rfl) ?_
        refine h_zald hx hb g tit (by decide) so_1005 (xi_in (by omega) (by omega)) dX9_carryOut_17 ?_
        refine lv_topi (fun v6 ev6 => ?_)
        have jv6 := hI.rd it v1.toNatClampNeg tit ev6 (rfl : h_bd 1005 _ = (0, 1))
        have gv6 : I0 it v1.toInt.toNat = v6 := by rw [← kv, ev6]; exact (hF.at tit rfl).symm
        refine lv_if_eq (tgt := 25) hx hb dX9_carryOut_18 (by decide) (fun c7 => ?_) (fun c7 => ?_)
        · have ic7 := (xi_eq c7 rfl (by decide) : v6.toInt = 0)
          refine lv_aload_n hx hb dX9_carryOut_25 rfl (lv_at hl 0 rfl) ?_
          refine h_get (v := .ref bk) hx hb hts iX9 hown g t_a0 (by decide) so_10 rfl 0 (by decide) (hts (.fieldLink RX9 35 "CapLeague$Trade" "books" "LCapLeague$Books;") (by decide +kernel)) rfl dX9_carryOut_26 (by show va_rf (z.R a0 0) = _; rw [rbk]; rfl) ?_
          refine lv_aload_n hx hb dX9_carryOut_29 rfl (lv_at hl 0 rfl) ?_
          refine h_get (v := .ref th) hx hb hts iX9 hown g t_a0 (by decide) so_10 rfl 6 (by decide) (hts (.fieldLink RX9 22 "CapLeague$Trade" "thing" "[I") (by decide +kernel)) rfl dX9_carryOut_30 (by show va_rf (z.R a0 6) = _; rw [rth]; rfl) ?_
          refine lv_iload_n hx hb dX9_carryOut_33 rfl (lv_at hl 2 rfl) ?_
          refine h_ald hx hb g tth (by decide) so_1006 (xi_in (by omega) (by omega)) dX9_carryOut_34 ?_
          refine lv_topi (fun v8 ev8 => ?_)
          have jv8 := hI.rd th v1.toNatClampNeg tth ev8 (rfl : h_bd 1006 _ = ((-2147483648), 2147483647))
          have gv8 : I0 th v1.toInt.toNat = v8 := by rw [← kv, ev8]; exact (hF.at tth rfl).symm
          obtain ⟨hm0, hm1⟩ := hmv (by omega)
          rw [gv6, gv8] at hm0 hm1
          have hmx := hm0 (by omega)
          refine va_csq (W.runV (As := [.int v8]) (rest := []) ⟨hx, hb, hml, hown, hts⟩ (tX0_playerAtN l E X A z I2 L0 bk tbk v8 (v8.toInt) rfl (by omega) (by rw [show I2 bk 2 = k_2 from (h_F.at hL7 tbk rfl).trans (ek_2.symm)]; omega) (by rw [apl]; exact hnq _ (by omega))) (cwV 1 hts gX9_carryOut_X0_playerAt rfl rfl rfl (by decide +kernel) ⟨Nat.le_of_ble_eq_true rfl, Nat.le_of_ble_eq_true rfl⟩) ⟨h_blind _ _ _ _ _ _ _, h_recv g tbk (by decide) so_1 (q := (RX0, TX0, 9)) rfl, h_pre _ hE hk hX hA hI hR g⟩ rfl rfl hl.1 rfl (lv_room (Nat.le_of_ble_eq_true rfl)) dX9_carryOut_35 ⟨Nat.le_of_ble_eq_true rfl, Nat.le_of_ble_eq_true rfl⟩) (fun rh9 h9 => ?_)
          obtain ⟨h9, h9p0⟩ := h9
          obtain ⟨rh9, rfl, trh9⟩ := h9
          refine xw_v (v := .ref rh9) rfl ?_
          rw [apl] at h9p0
          have rp : z.R pl v8.toInt.toNat = some rh9 := h9p0.symm
          refine lv_astore_n (lv' := [(3, .ref rh9), (0, .ref a0), (1, .int f0_3), (2, .int v1)]) hx hb dX9_carryOut_38 rfl hl (by decide) rfl (fun ls hl => ?_)
          refine lv_aload_n hx hb dX9_carryOut_39 rfl (lv_at hl 1 rfl) ?_
          refine h_get (v := .ref it) hx hb hts iX9 hown g t_a0 (by decide) so_10 rfl 5 (by decide) (hts (.fieldLink RX9 18 "CapLeague$Trade" "isTurn" "[Z") (by decide +kernel)) rfl dX9_carryOut_40 (by show va_rf (z.R a0 5) = _; rw [rit]; rfl) ?_
          refine lv_iload_n hx hb dX9_carryOut_43 rfl (lv_at hl 3 rfl) ?_
          refine h_zald hx hb g tit (by decide) so_1005 (xi_in (by omega) (by omega)) dX9_carryOut_44 ?_
          refine xw_i (ev6.symm) ?_
          refine lv_if_eq (tgt := 76) hx hb dX9_carryOut_45 (by decide) (fun c10 => ?_) (fun h => absurd (xi_ne h rfl (by decide) : v6.toInt ≠ 0) (by omega))
          have ic10 := (xi_eq c10 rfl (by decide) : v6.toInt = 0)
          refine lv_aload_n hx hb dX9_carryOut_76 rfl (lv_at hl 0 rfl) ?_
          refine lv_ifnull hx hb dX9_carryOut_77 ?_
          refine lv_aload_n hx hb dX9_carryOut_80 rfl (lv_at hl 0 rfl) ?_
          refine lv_aload_n hx hb dX9_carryOut_81 rfl (lv_at hl 1 rfl) ?_
          refine h_get (v := .ref to) hx hb hts iX9 hown g t_a0 (by decide) so_10 rfl 8 (by decide) (hts (.fieldLink RX9 29 "CapLeague$Trade" "to" "[I") (by decide +kernel)) rfl dX9_carryOut_82 (by show va_rf (z.R a0 8) = _; rw [rto]; rfl) ?_
          refine lv_iload_n hx hb dX9_carryOut_85 rfl (lv_at hl 3 rfl) ?_
          refine h_ald hx hb g tto (by decide) so_1008 (xi_in (by omega) (by omega)) dX9_carryOut_86 ?_
          refine lv_topi (fun v11 ev11 => ?_)
          have jv11 := hI.rd to v1.toNatClampNeg tto ev11 (rfl : h_bd 1008 _ = (0, 7))
          have gv11 : I0 to v1.toInt.toNat = v11 := by rw [← kv, ev11]; exact (hF.at tto rfl).symm
          refine h_putI (ty := .int) (v := v11) hx hb hts iX6 tyX6 tyX6_ok nmX6 hown g trh9 (by decide) so_7 rfl 0 (by decide) rfl (hts (.fieldLink RX9 124 "CapLeague$Player" "club" "I") (by decide +kernel)) rfl rfl (by decide +kernel) rfl rfl dX9_carryOut_87 (fun I12 H locs eI12 g => ?_)
          have hI := hI.wr eI12 trh9 (rfl : h_bd 7 0 = ((-1), 7)) (by omega) (by omega)
          have hF := hF.wr eI12 trh9 rfl
          obtain ⟨v13, ev13⟩ : ∃ z : Int32, z = v1 + 1 := ⟨_, rfl⟩
          have jv13 : v13.toInt = v1.toInt + 1 := xi_add ev13 rfl (by decide) (by omega) (by omega)
          refine lv_iinc (v := v13) (lv' := [(2, .int v13), (3, .ref rh9), (0, .ref a0), (1, .int f0_3)]) hx hb dX9_carryOut_90 hl (k := 3) rfl (by rw [ev13]; rfl) (by decide) rfl (fun ls hl => ?_)
          refine lv_goto (tgt := 7) hx hb dX9_carryOut_93 (by decide) ?_
          exact ih7 I12 _ _ _ v13 g hI hF (lv_sub hl [2, 3, 0] rfl) (by omega) (h_F.wr (h_F.call (h_F.rf : h_F [(1102, 999), (1100, 999), (1101, 999), (7, 0)] z I0 I0) hL7 rfl) eI12 trh9 rfl) (h_pdo.y hx7_0 (by omega : (v13.toInt).toNat = v1.toInt.toNat + 1) (show cd v1.toInt.toNat = ((v8.toInt.toNat : Nat) : Int) by rw [ecd, c_cd_p (by rw [gv6]; omega), gv8]; omega) rp hdi gv11.symm eI12) (h_tdo.n hx7_1 (by omega : (v13.toInt).toNat = v1.toInt.toNat + 1) (by rw [ecd, c_cd_p (by rw [gv6]; omega), gv8]; omega) (fun k => h_n1 eI12 thd trh9 (by decide)) (fun k => h_n1 eI12 tsh trh9 (by decide)) (fun k => h_n1 eI12 tgv trh9 (by decide))) (by omega) (by omega)
        · have ic7 := (xi_ne c7 rfl (by decide) : v6.toInt ≠ 0)
          refine lv_null hx hb dX9_carryOut_21 ?_
          refine lv_goto (tgt := 38) hx hb dX9_carryOut_22 (by decide) ?_
          refine lv_astore_nN (lv' := [(3, .null), (0, .ref a0), (1, .int f0_3), (2, .int v1)]) hx hb dX9_carryOut_38 rfl hl (by decide) rfl (fun ls hl => ?_)
          refine lv_aload_n hx hb dX9_carryOut_39 rfl (lv_at hl 1 rfl) ?_
          refine h_get (v := .ref it) hx hb hts iX9 hown g t_a0 (by decide) so_10 rfl 5 (by decide) (hts (.fieldLink RX9 18 "CapLeague$Trade" "isTurn" "[Z") (by decide +kernel)) rfl dX9_carryOut_40 (by show va_rf (z.R a0 5) = _; rw [rit]; rfl) ?_
          refine lv_iload_n hx hb dX9_carryOut_43 rfl (lv_at hl 3 rfl) ?_
          refine h_zald hx hb g tit (by decide) so_1005 (xi_in (by omega) (by omega)) dX9_carryOut_44 ?_
          refine xw_i (ev6.symm) ?_
          refine lv_if_eq (tgt := 76) hx hb dX9_carryOut_45 (by decide) (fun h => absurd (xi_eq h rfl (by decide) : v6.toInt = 0) (by omega)) (fun c14 => ?_)
          have ic14 := (xi_ne c14 rfl (by decide) : v6.toInt ≠ 0)
          refine lv_aload_n hx hb dX9_carryOut_48 rfl (lv_at hl 1 rfl) ?_
          refine h_get (v := .ref tu) hx hb hts iX9 hown g t_a0 (by decide) so_10 rfl 1 (by decide) (hts (.fieldLink RX9 39 "CapLeague$Trade" "turns" "LCapLeague$Turns;") (by decide +kernel)) rfl dX9_carryOut_49 (by show va_rf (z.R a0 1) = _; rw [rtu]; rfl) ?_
          refine lv_aload_n hx hb dX9_carryOut_52 rfl (lv_at hl 1 rfl) ?_
          refine h_get (v := .ref th) hx hb hts iX9 hown g t_a0 (by decide) so_10 rfl 6 (by decide) (hts (.fieldLink RX9 22 "CapLeague$Trade" "thing" "[I") (by decide +kernel)) rfl dX9_carryOut_53 (by show va_rf (z.R a0 6) = _; rw [rth]; rfl) ?_
          refine lv_iload_n hx hb dX9_carryOut_56 rfl (lv_at hl 3 rfl) ?_
          refine h_ald hx hb g tth (by decide) so_1006 (xi_in (by omega) (by omega)) dX9_carryOut_57 ?_
          refine lv_topi (fun v15 ev15 => ?_)
          have jv15 := hI.rd th v1.toNatClampNeg tth ev15 (rfl : h_bd 1006 _ = ((-2147483648), 2147483647))
          have gv15 : I0 th v1.toInt.toNat = v15 := by rw [← kv, ev15]; exact (hF.at tth rfl).symm
          obtain ⟨hm0, hm1⟩ := hmv (by omega)
          rw [gv6, gv15] at hm0 hm1
          have hmx := hm1 (by omega)
          refine lv_aload_n hx hb dX9_carryOut_58 rfl (lv_at hl 1 rfl) ?_
          refine h_get (v := .ref to) hx hb hts iX9 hown g t_a0 (by decide) so_10 rfl 8 (by decide) (hts (.fieldLink RX9 29 "CapLeague$Trade" "to" "[I") (by decide +kernel)) rfl dX9_carryOut_59 (by show va_rf (z.R a0 8) = _; rw [rto]; rfl) ?_
          refine lv_iload_n hx hb dX9_carryOut_62 rfl (lv_at hl 3 rfl) ?_
          refine h_ald hx hb g tto (by decide) so_1008 (xi_in (by omega) (by omega)) dX9_carryOut_63 ?_
          refine lv_topi (fun v16 ev16 => ?_)
          have jv16 := hI.rd to v1.toNatClampNeg tto ev16 (rfl : h_bd 1008 _ = (0, 7))
          have gv16 : I0 to v1.toInt.toNat = v16 := by rw [← kv, ev16]; exact (hF.at tto rfl).symm
          refine lv_aload_n hx hb dX9_carryOut_64 rfl (lv_at hl 1 rfl) ?_
          refine h_get (v := .ref sg) hx hb hts iX9 hown g t_a0 (by decide) so_10 rfl 9 (by decide) (hts (.fieldLink RX9 32 "CapLeague$Trade" "shield" "[I") (by decide +kernel)) rfl dX9_carryOut_65 (by show va_rf (z.R a0 9) = _; rw [rsg]; rfl) ?_
          refine lv_iload_n hx hb dX9_carryOut_68 rfl (lv_at hl 3 rfl) ?_
          refine h_ald hx hb g tsg (by decide) so_1009 (xi_in (by omega) (by omega)) dX9_carryOut_69 ?_
          refine lv_topi (fun v17 ev17 => ?_)
          have jv17 := hI.rd sg v1.toNatClampNeg tsg ev17 (rfl : h_bd 1009 _ = ((-2147483648), 2147483647))
          have gv17 : I0 sg v1.toInt.toNat = v17 := by rw [← kv, ev17]; exact (hF.at tsg rfl).symm
          refine va_callv (va_runV (As := [.int v15, .int v16, .int v17]) (rest := []) ⟨hx, hb, hml, hown, hts⟩ (tX10_handB l E X A z I2 L0 tu ttu v15 (v15.toInt) rfl (by omega) v16 (v16.toInt) rfl v17 (v17.toInt) rfl) (cwV 3 hts gX9_carryOut_X10_hand rfl rfl rfl (by decide +kernel) ⟨Nat.le_of_ble_eq_true rfl, Nat.le_of_ble_eq_true rfl⟩) ⟨h_blind _ _ _ _ _ _ _, h_recv g ttu (by decide) so_11 (q := (RX10, TX10, 4)) rfl, h_pre _ hE hk hX hA hI hR g⟩ rfl rfl hl.1 rfl (lv_room (Nat.le_of_ble_eq_true rfl)) dX9_carryOut_70 ⟨Nat.le_of_ble_eq_true rfl, Nat.le_of_ble_eq_true rfl⟩) g.2.1 (fun q _ h => h) (fun q h => h) (fun I19 t H1 locs ht hvm h18 hB hz1 hk1 hS => ?_)
          obtain ⟨hI, fh18, h18⟩ := h18
          replace g := h_after g hB ht hS
          generalize H1 = H at g
          clear hB hk1 hz1 ht hvm hS
          have hF := hF.call fh18 rfl
          have h18p0 := h18
          rw [ahd, ash, agv] at h18p0
          refine lv_goto (tgt := 90) hx hb dX9_carryOut_73 (by decide) ?_
          obtain ⟨v20, ev20⟩ : ∃ z : Int32, z = v1 + 1 := ⟨_, rfl⟩
          have jv20 : v20.toInt = v1.toInt + 1 := xi_add ev20 rfl (by decide) (by omega) (by omega)
          refine lv_iinc (v := v20) (lv' := [(2, .int v20), (3, .null), (0, .ref a0), (1, .int f0_3)]) hx hb dX9_carryOut_90 hl (k := 3) rfl (by rw [ev20]; rfl) (by decide) rfl (fun ls hl => ?_)
          refine lv_goto (tgt := 7) hx hb dX9_carryOut_93 (by decide) ?_
          exact ih7 I19 _ _ _ v20 g hI hF (lv_sub hl [2, 3, 0] rfl) (by omega) (h_F.call (h_F.call (h_F.rf : h_F [(1102, 999), (1100, 999), (1101, 999), (7, 0)] z I0 I0) hL7 rfl) fh18 rfl) (h_pdo.n hx7_0 (by omega : (v20.toInt).toNat = v1.toInt.toNat + 1) (by rw [ecd, c_cd_t (by rw [gv6]; omega), gv15]; omega) (by omega) hR tpl (fun b tb => h_F.at fh18 tb rfl)) (h_tdo.y hx7_1 (by omega : (v20.toInt).toNat = v1.toInt.toNat + 1) (show cd v1.toInt.toNat = 60 + ((v15.toInt.toNat : Nat) : Int) by rw [ecd, c_cd_t (by rw [gv6]; omega), gv15]; omega) gv16.symm gv17.symm h18p0.1 h18p0.2.1 h18p0.2.2) (by omega) (by omega)
  have kc21 : (0 : Int32).toInt = 0 := by decide
  exact loop7_0 _ I0 _ _ _ (0) g hI hF (lv_sub hl [2, 1, 0] rfl) ⟨by decide, by decide⟩ (h_F.rf : h_F [(1102, 999), (1100, 999), (1101, 999), (7, 0)] z I0 I0) (fun p hp b hb => rfl) (h_tdo.z (fun k => ⟨rfl, rfl, rfl⟩)) (by omega) (show (12 - (0 : Int)) < (((12 - (0 : Int)).toNat + 1 : Nat) : Int) by omega)
set_option maxHeartbeats 4000000 in
set_option maxRecDepth 100000 in
theorem tX11_dealB (l : Launch) (E : tE) (X : tX) (A : Nat → Prop) (z : tZ) (I0 : tI) (L0 : tL) (a0 : Nat) (t_a0 : z.ty a0 = 12) (u_ : Nat → Int) (htp : h_tpre z I0 (h_ad z (h_ad z a0 5) 0) (h_ad z (h_ad z a0 5) 5) (h_ad z (h_ad z a0 5) 6) (I0 (h_ad z a0 5) 3).toInt u_) (hcb : 0 ≤ (I0 (h_ad z a0 5) 4).toInt ∧ (I0 (h_ad z a0 5) 4).toInt ≤ 255) (hmq : (∀ i : Nat, (i : Int) < (I0 (h_ad z a0 5) 3).toInt → ((I0 (h_ad z (h_ad z a0 5) 5) i).toInt = 0 → 0 ≤ (I0 (h_ad z (h_ad z a0 5) 6) i).toInt ∧ (I0 (h_ad z (h_ad z a0 5) 6) i).toInt < (I0 (h_ad z (h_ad z a0 5) 0) 2).toInt) ∧ ((I0 (h_ad z (h_ad z a0 5) 5) i).toInt ≠ 0 → 0 ≤ (I0 (h_ad z (h_ad z a0 5) 6) i).toInt ∧ (I0 (h_ad z (h_ad z a0 5) 6) i).toInt ≤ 79))) (hnq : ∀ p : Nat, (p : Int) < (I0 (h_ad z (h_ad z a0 5) 0) 2).toInt → z.R (h_ad z (h_ad z (h_ad z a0 5) 0) 1) p ≠ none) (hdi : ∀ q q2 b : Nat, z.R (h_ad z (h_ad z (h_ad z a0 5) 0) 1) q = some b → z.R (h_ad z (h_ad z (h_ad z a0 5) 0) 1) q2 = some b → q = q2) : Met l yX11_deal wsX11_deal ({ frames := 7, cells := 0, slots := 0, locals := 448 }) (va_Pc [.ref a0] (h_P E X A z I0 L0)) (va_Qi (fun r (I1 : tI) => h_I z I1 ∧ h_F [(2, 0), (2, 1), (2, 2), (2, 3), (10, 3), (10, 4), (1102, 999), (1100, 999), (1101, 999), (7, 0)] z I0 I1 ∧ (((I0 (h_ad z a0 5) 3).toInt = 0 ∧ r.toInt = -4 ∧ I1 = I0) ∨ ((I0 (h_ad z a0 5) 3).toInt ≠ 0 ∧ q_ff (c_ft z I0 (h_ad z a0 5) u_) 8 ≠ 0 ∧ r.toInt = 0 ∧ (∀ a k : Nat, z.ty a ≠ 2 → I1 a k = I0 a k)) ∨ ((I0 (h_ad z a0 5) 3).toInt ≠ 0 ∧ q_ff (c_ft z I0 (h_ad z a0 5) u_) 8 = 0 ∧ r = I0 (h_ad z a0 5) 3 ∧ h_pdo z I0 I1 (h_ad z (h_ad z (h_ad z a0 5) 0) 1) (h_ad z (h_ad z a0 5) 8) (I0 (h_ad z (h_ad z a0 5) 0) 2).toInt (c_cd I0 (h_ad z (h_ad z a0 5) 5) (h_ad z (h_ad z a0 5) 6)) (I0 (h_ad z a0 5) 3).toInt.toNat ∧ h_tdo I0 I1 (h_ad z (h_ad z (h_ad z a0 5) 1) 0) (h_ad z (h_ad z (h_ad z a0 5) 1) 1) (h_ad z (h_ad z (h_ad z a0 5) 1) 2) (h_ad z (h_ad z a0 5) 8) (h_ad z (h_ad z a0 5) 9) (c_cd I0 (h_ad z (h_ad z a0 5) 5) (h_ad z (h_ad z a0 5) 6)) (I0 (h_ad z a0 5) 3).toInt.toNat ∧ I1 (h_ad z a0 5) 3 = 0 ∧ I1 (h_ad z a0 5) 4 = 0))) (fun (I1 : tI) t => h_B E A z I1 L0 t) A) 0 0 A := by
  refine Met.ofW (cc := cX11_deal) (maxL := 1) (ret := (some .int)) (by decide) rfl ?_
  intro pr_ ev_ s m args below meth cd_ s₁ B hml hv
  obtain ⟨rfl, hE, hk, hX, hA, hK, hI, hR, hB0⟩ := hv
  have g : h_G h_so h_fk E A z I0 L0 s s.heap s.heap [] := ⟨hK, va_S.rf, hB0⟩
  have hF : h_F [(2, 0), (2, 1), (2, 2), (2, 3), (10, 3), (10, 4), (1102, 999), (1100, 999), (1101, 999), (7, 0)] z I0 I0 := h_F.rf
  have hx := B.exec
  have hb := B.bytes
  have hr := B.returns
  have hts := atoms_spec (ws := wsX11_deal) B.pre
  have hown : s.vm.findClass RX11 = some m.cls := findClass_of_methodNamed B.named
  have hlocks := B.notSynchronized
  have iX11 : ∀ w ∈ u_ws RX11 TX11 8, w ∈ wsX11_deal := by decide +kernel
  have hl := lv_entry ([.ref a0]) (n := 1) (Nat.le_of_ble_eq_true rfl)
  rw [lg_entry_eq]
  generalize (lg_sl ([.ref a0]) ++ List.replicate (1 - (lg_sl ([.ref a0])).length) Slot.unset).toArray = ls at hl ⊢
  have hl : lv_has ls 1 [(0, .ref a0)] := hl
  obtain ⟨bg, rbg, tbg⟩ := hR.at a0 5 t_a0 (rfl : h_rs 12 5 = some (10, false)) (by decide)
  have abg : h_ad z a0 5 = bg := h_ad.at rbg
  obtain ⟨bk, rbk, tbk⟩ := hR.at bg 0 tbg (rfl : h_rs 10 0 = some (1, false)) (by decide)
  have abk : h_ad z bg 0 = bk := h_ad.at rbk
  obtain ⟨tu, rtu, ttu⟩ := hR.at bg 1 tbg (rfl : h_rs 10 1 = some (11, false)) (by decide)
  have atu : h_ad z bg 1 = tu := h_ad.at rtu
  obtain ⟨pl, rpl, tpl⟩ := hR.at bk 1 tbk (rfl : h_rs 1 1 = some (101, false)) (by decide)
  have apl : h_ad z bk 1 = pl := h_ad.at rpl
  obtain ⟨it, rit, tit⟩ := hR.at bg 5 tbg (rfl : h_rs 10 5 = some (1005, false)) (by decide)
  have ait : h_ad z bg 5 = it := h_ad.at rit
  obtain ⟨th, rth, tth⟩ := hR.at bg 6 tbg (rfl : h_rs 10 6 = some (1006, false)) (by decide)
  have ath : h_ad z bg 6 = th := h_ad.at rth
  obtain ⟨to, rto, tto⟩ := hR.at bg 8 tbg (rfl : h_rs 10 8 = some (1008, false)) (by decide)
  have ato : h_ad z bg 8 = to := h_ad.at rto
  obtain ⟨sg, rsg, tsg⟩ := hR.at bg 9 tbg (rfl : h_rs 10 9 = some (1009, false)) (by decide)
  have asg : h_ad z bg 9 = sg := h_ad.at rsg
  obtain ⟨hd, rhd, thd⟩ := hR.at tu 0 ttu (rfl : h_rs 11 0 = some (1100, false)) (by decide)
  have ahd : h_ad z tu 0 = hd := h_ad.at rhd
  obtain ⟨sh, rsh, tsh⟩ := hR.at tu 1 ttu (rfl : h_rs 11 1 = some (1101, false)) (by decide)
  have ash : h_ad z tu 1 = sh := h_ad.at rsh
  obtain ⟨gv, rgv, tgv⟩ := hR.at tu 2 ttu (rfl : h_rs 11 2 = some (1102, false)) (by decide)
  have agv : h_ad z tu 2 = gv := h_ad.at rgv
  rw [abg] at htp hcb hmq hnq hdi
  obtain ⟨cd, ecd⟩ : ∃ g : Nat → Int, g = c_cd I0 it th := ⟨_, rfl⟩
  have hmq0 := hmq
  have hnq0 := hnq
  rw [abk, ait, ath] at hmq
  rw [abk, apl] at hnq
  have hI0 := hI
  refine lv_aload_n hx hb dX11_deal_0 rfl (lv_at hl 0 rfl) ?_
  refine h_get (v := .ref bg) hx hb hts iX11 hown g t_a0 (by decide) so_12 rfl 5 (by decide) (hts (.fieldLink RX11 53 "CapLeague" "bargain" "LCapLeague$Trade;") (by decide +kernel)) rfl dX11_deal_1 (by show va_rf (z.R a0 5) = _; rw [rbg]; rfl) ?_
  refine vp_callSi (W.runV (As := []) (rest := []) ⟨hx, hb, hml, hown, hts⟩ (tX9_emptyB l E X A z I0 L0 bg tbg) (cwV 0 hts gX11_deal_X9_isEmpty rfl rfl rfl (by decide +kernel) ⟨Nat.le_of_ble_eq_true rfl, Nat.le_of_ble_eq_true rfl⟩) ⟨h_blind _ _ _ _ _ _ _, h_recv g tbg (by decide) so_10 (q := (RX9, TX9, 10)) rfl, h_pre _ hE hk hX hA hI hR g⟩ rfl rfl hl.1 rfl (lv_room (Nat.le_of_ble_eq_true rfl)) dX11_deal_4 ⟨Nat.le_of_ble_eq_true rfl, Nat.le_of_ble_eq_true rfl⟩) (fun rh1 h1 => ?_)
  obtain ⟨h1, h1p0⟩ := h1
  refine lv_if_eq (tgt := 13) hx hb dX11_deal_7 (by decide) (fun c2 => ?_) (fun c2 => ?_)
  · have ic2 := (xi_eq c2 rfl (by decide) : rh1.toInt = 0)
    refine lv_aload_n hx hb dX11_deal_13 rfl (lv_at hl 0 rfl) ?_
    refine h_get (v := .ref bg) hx hb hts iX11 hown g t_a0 (by decide) so_12 rfl 5 (by decide) (hts (.fieldLink RX11 53 "CapLeague" "bargain" "LCapLeague$Trade;") (by decide +kernel)) rfl dX11_deal_14 (by show va_rf (z.R a0 5) = _; rw [rbg]; rfl) ?_
    refine va_calli (va_runV (As := []) (rest := []) ⟨hx, hb, hml, hown, hts⟩ (tX9_firstB l E X A z I0 L0 bg tbg (u_) (htp) (hcb)) (cwV 0 hts gX11_deal_X9_firstFault rfl rfl rfl (by decide +kernel) ⟨Nat.le_of_ble_eq_true rfl, Nat.le_of_ble_eq_true rfl⟩) ⟨h_blind _ _ _ _ _ _ _, h_recv g tbg (by decide) so_10 (q := (RX9, TX9, 10)) rfl, h_pre _ hE hk hX hA hI hR g⟩ rfl rfl hl.1 rfl (lv_room (Nat.le_of_ble_eq_true rfl)) dX11_deal_17 ⟨Nat.le_of_ble_eq_true rfl, Nat.le_of_ble_eq_true rfl⟩) g.2.1 (fun q _ h => h) (fun q h => h) (fun rh3 I4 t H1 locs ht hvm h3 hB hz1 hk1 hS => ?_)
    obtain ⟨hI, fh3, h3⟩ := h3
    replace g := h_after g hB ht hS
    generalize H1 = H at g
    clear hB hk1 hz1 ht hvm hS
    have hF := hF.call fh3 rfl
    obtain ⟨h3, h3p0⟩ := h3
    refine lv_if_ne (tgt := 33) hx hb dX11_deal_20 (by decide) (fun c5 => ?_) (fun c5 => ?_)
    · have ic5 := (xi_ne c5 rfl (by decide) : rh3.toInt ≠ 0)
      refine lv_iconst (v := 0) hx hb dX11_deal_33 (by decide) ?_
      have hS := g.2.1
      exact W.iret (v := 0) hx hb hr (fun t ht hW => ⟨⟨0, I4, rfl, ⟨hI, hF, (by rw [abg]; exact Or.inr (Or.inl ⟨(by rcases h1p0 with q | q; omega; exact q.2), (by rw [← h3p0]; omega), by decide, fun a k ha => h_F_no2 fh3 ha⟩))⟩, h_ret g ht⟩, hS.F ht⟩) hS.2.2 dX11_deal_34
    · have ic5 := (xi_eq c5 rfl (by decide) : rh3.toInt = 0)
      refine lv_aload_n hx hb dX11_deal_23 rfl (lv_at hl 0 rfl) ?_
      refine h_get (v := .ref bg) hx hb hts iX11 hown g t_a0 (by decide) so_12 rfl 5 (by decide) (hts (.fieldLink RX11 53 "CapLeague" "bargain" "LCapLeague$Trade;") (by decide +kernel)) rfl dX11_deal_24 (by show va_rf (z.R a0 5) = _; rw [rbg]; rfl) ?_
      refine va_calli (va_runV (As := []) (rest := []) ⟨hx, hb, hml, hown, hts⟩ (tX9_carryB l E X A z I4 L0 bg tbg (by rw [abk, ait, ath, show I4 bg 3 = I0 bg 3 from h_F.at fh3 tbg rfl, show I4 bk 2 = I0 bk 2 from h_F.at fh3 tbk rfl]; exact fun i hi => by rw [h_F.at fh3 tit rfl, h_F.at fh3 tth rfl]; exact hmq i hi) (by rw [abk, apl, show I4 bk 2 = I0 bk 2 from h_F.at fh3 tbk rfl]; exact hnq) (hdi)) (cwV 0 hts gX11_deal_X9_carryOut rfl rfl rfl (by decide +kernel) ⟨Nat.le_of_ble_eq_true rfl, Nat.le_of_ble_eq_true rfl⟩) ⟨h_blind _ _ _ _ _ _ _, h_recv g tbg (by decide) so_10 (q := (RX9, TX9, 10)) rfl, h_pre _ hE hk hX hA hI hR g⟩ rfl rfl hl.1 rfl (lv_room (Nat.le_of_ble_eq_true rfl)) dX11_deal_27 ⟨Nat.le_of_ble_eq_true rfl, Nat.le_of_ble_eq_true rfl⟩) g.2.1 (fun q _ h => h) (fun q h => h) (fun rh6 I7 t H1 locs ht hvm h6 hB hz1 hk1 hS => ?_)
      obtain ⟨hI, fh6, h6⟩ := h6
      replace g := h_after g hB ht hS
      generalize H1 = H at g
      clear hB hk1 hz1 ht hvm hS
      have hF := hF.call fh6 rfl
      obtain ⟨h6p0, h6p1, h6p2, h6p3⟩ := h6
      have jrh6 : -2147483648 ≤ rh6.toInt ∧ rh6.toInt ≤ 2147483647 := ⟨xi_lo _, Int.le_of_lt_add_one (xi_hi _)⟩
      rw [show I4 bg 3 = I0 bg 3 from h_F.at fh3 tbg rfl] at h6p0
      have ec : c_cd I4 it th = c_cd I0 it th := by funext i; unfold c_cd; rw [h_F.at fh3 tit rfl, h_F.at fh3 tth rfl]
      rw [abk, apl, ato, ait, ath, ec, show I4 bg 3 = I0 bg 3 from h_F.at fh3 tbg rfl, show I4 bk 2 = I0 bk 2 from h_F.at fh3 tbk rfl] at h6p1
      rw [atu, ahd, ash, agv, ato, asg, ait, ath, ec, show I4 bg 3 = I0 bg 3 from h_F.at fh3 tbg rfl] at h6p2
      have p1 := h_pdo.fr hnq (hI0.rd bk 2 tbk rfl (rfl : h_bd 1 2 = (0, 60))).2 hR tpl (funext (fun k => h_F.at fh3 tto rfl)) (fun b tb => h_F.at fh3 tb rfl) h6p1
      have p2 := h_tdo.fr (funext (fun k => h_F.at fh3 thd rfl)) (funext (fun k => h_F.at fh3 tsh rfl)) (funext (fun k => h_F.at fh3 tgv rfl)) (funext (fun k => h_F.at fh3 tto rfl)) (funext (fun k => h_F.at fh3 tsg rfl)) h6p2
      refine lv_goto (tgt := 34) hx hb dX11_deal_30 (by decide) ?_
      have hS := g.2.1
      exact W.iret (v := rh6) hx hb hr (fun t ht hW => ⟨⟨rh6, I7, rfl, ⟨hI, hF, (by rw [abg, abk, apl, atu, ahd, ash, agv, ato, asg, ait, ath]; exact Or.inr (Or.inr ⟨(by rcases h1p0 with q | q; omega; exact q.2), (by rw [← h3p0]; omega), h6p0, p1, p2, h6p3.1, h6p3.2⟩))⟩, h_ret g ht⟩, hS.F ht⟩) hS.2.2 dX11_deal_34
  · have ic2 := (xi_ne c2 rfl (by decide) : rh1.toInt ≠ 0)
    refine lv_bipush (v := (-4)) hx hb dX11_deal_10 (by decide) ?_
    have hS := g.2.1
    exact W.iret (v := (-4)) hx hb hr (fun t ht hW => ⟨⟨(-4), I0, rfl, ⟨hI, hF, (by rw [abg]; exact Or.inl ⟨by rcases h1p0 with q | q; exact q.2; omega, by decide, rfl⟩)⟩, h_ret g ht⟩, hS.F ht⟩) hS.2.2 dX11_deal_12

