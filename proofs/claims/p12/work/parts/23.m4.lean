set_option maxHeartbeats 4000000 in
set_option maxRecDepth 100000 in
theorem tX12_number7 (l : Launch) (E : tE) (X : tX) (A : Nat → Prop) (z : tZ) (I0 : tI) (L0 : tL) (a0 : Nat) (t_a0 : z.ty a0 = 13) (y : Int32) (y_t : Int) (h_y : y.toInt = y_t) (b_y : 0 ≤ y_t ∧ y_t ≤ 7) (a : Int32) (a_t : Int) (h_a : a.toInt = a_t) (b : Int32) (b_t : Int) (h_b : b.toInt = b_t) : Met l yX12_number wsX12_number ({ frames := 7, cells := 0, slots := 0, locals := 448 }) (va_Pc [.ref a0, .int y, .int a, .int b] (h_P E X A z I0 L0)) (va_Qi (fun r (I1 : tI) => h_I z I1 ∧ h_F [(13, 5), (13, 3), (13, 4), (13, 7), (13, 6), (13, 8), (13, 9), (1310, 999)] z I0 I1 ∧ (0 ≤ r.toInt ∧ r.toInt ≤ 1) ∧ (r.toInt = 0 ∨ (I0 a0 3).toInt = 2) ∧ (r.toInt = 0 ∨ ((I1 a0 3).toInt = 1 → 0 ≤ (I1 a0 4).toInt)) ∧ (r.toInt = 0 ∨ (I0 a0 6).toInt ≤ (I1 a0 6).toInt) ∧ (r.toInt = 0 ∨ (I1 a0 3).toInt = 4 ∨ (I0 a0 6).toInt < (I1 a0 6).toInt) ∧ (∀ k : Nat, (k : Int) ≠ 160 + y_t → I1 (h_ad z a0 10) k = I0 (h_ad z a0 10) k)) (fun (I1 : tI) t => h_B E A z I1 L0 t) A) 0 0 A := by
  refine Met.ofW (cc := cX12_number) (maxL := 4) (ret := (some .boolean)) (by decide) rfl ?_
  intro pr_ ev_ s m args below meth cd_ s₁ B hml hv
  obtain ⟨rfl, hE, hk, hX, hA, hK, hI, hR, hB0⟩ := hv
  have g : h_G h_so h_fk E A z I0 L0 s s.heap s.heap [] := ⟨hK, va_S.rf, hB0⟩
  have hF : h_F [(13, 5), (13, 3), (13, 4), (13, 7), (13, 6), (13, 8), (13, 9), (1310, 999)] z I0 I0 := h_F.rf
  have hx := B.exec
  have hb := B.bytes
  have hr := B.returns
  have hts := atoms_spec (ws := wsX12_number) B.pre
  have hown : s.vm.findClass RX12 = some m.cls := findClass_of_methodNamed B.named
  have hlocks := B.notSynchronized
  have iX12 : ∀ w ∈ u_ws RX12 TX12 51, w ∈ wsX12_number := by decide +kernel
  have hl := lv_entry ([.ref a0, .int y, .int a, .int b]) (n := 4) (Nat.le_of_ble_eq_true rfl)
  rw [lg_entry_eq]
  generalize (lg_sl ([.ref a0, .int y, .int a, .int b]) ++ List.replicate (4 - (lg_sl ([.ref a0, .int y, .int a, .int b])).length) Slot.unset).toArray = ls at hl ⊢
  have hl : lv_has ls 4 [(0, .ref a0), (1, .int y), (2, .int a), (3, .int b)] := hl
  have b_a : -2147483648 ≤ a_t ∧ a_t ≤ 2147483647 := h_a ▸ ⟨xi_lo a, Int.le_of_lt_add_one (xi_hi a)⟩
  have b_b : -2147483648 ≤ b_t ∧ b_t ≤ 2147483647 := h_b ▸ ⟨xi_lo b, Int.le_of_lt_add_one (xi_hi b)⟩
  obtain ⟨lw, rlw, tlw⟩ := hR.at a0 10 t_a0 (rfl : h_rs 13 10 = some (1310, false)) (by decide)
  have alw : h_ad z a0 10 = lw := h_ad.at rlw
  obtain ⟨f0_3, ef0_3⟩ : ∃ v : Int32, v = I0 a0 3 := ⟨_, rfl⟩
  have qf0_3 : (I0 a0 3).toInt = f0_3.toInt := congrArg Int32.toInt ef0_3.symm
  have jf0_3 := hI.rd a0 3 t_a0 ef0_3 (rfl : h_bd 13 3 = ((-2147483648), 2147483647))
  obtain ⟨f0_4, ef0_4⟩ : ∃ v : Int32, v = I0 a0 4 := ⟨_, rfl⟩
  have qf0_4 : (I0 a0 4).toInt = f0_4.toInt := congrArg Int32.toInt ef0_4.symm
  have jf0_4 := hI.rd a0 4 t_a0 ef0_4 (rfl : h_bd 13 4 = ((-1), 60))
  obtain ⟨f0_6, ef0_6⟩ : ∃ v : Int32, v = I0 a0 6 := ⟨_, rfl⟩
  have qf0_6 : (I0 a0 6).toInt = f0_6.toInt := congrArg Int32.toInt ef0_6.symm
  have jf0_6 := hI.rd a0 6 t_a0 ef0_6 (rfl : h_bd 13 6 = (0, 500))
  obtain ⟨f0_7, ef0_7⟩ : ∃ v : Int32, v = I0 a0 7 := ⟨_, rfl⟩
  have qf0_7 : (I0 a0 7).toInt = f0_7.toInt := congrArg Int32.toInt ef0_7.symm
  have jf0_7 := hI.rd a0 7 t_a0 ef0_7 (rfl : h_bd 13 7 = ((-2147483648), 2147483647))
  refine lv_aload_n hx hb dX12_number_0 rfl (lv_at hl 0 rfl) ?_
  refine h_get (v := .int f0_3) hx hb hts iX12 hown g t_a0 (by decide) so_13 rfl 3 (by decide) (hts (.fieldLink RX12 146 "CapLeagueModel" "sort" "I") (by decide +kernel)) rfl dX12_number_1 (congrArg Value.int (ef0_3.symm)) ?_
  refine lv_iconst (v := 2) hx hb dX12_number_4 (by decide) ?_
  refine lv_icmp_eq (tgt := 14) hx hb dX12_number_5 (by decide) (fun c1 => ?_) (fun c1 => ?_)
  · have ic1 := (xi_eq c1 rfl (by decide) : f0_3.toInt = 2)
    refine lv_aload_n hx hb dX12_number_14 rfl (lv_at hl 0 rfl) ?_
    refine h_get (v := .int f0_7) hx hb hts iX12 hown g t_a0 (by decide) so_13 rfl 7 (by decide) (hts (.fieldLink RX12 163 "CapLeagueModel" "worth" "I") (by decide +kernel)) rfl dX12_number_15 (congrArg Value.int (ef0_7.symm)) ?_
    refine lv_i2l hx hb dX12_number_18 rfl ?_
    refine lv_topl (fun v2 ev2 => ?_)
    have jv2 : v2.toInt = f0_7.toInt := by rw [ev2, xi_64]
    refine lv_iload_n hx hb dX12_number_19 rfl (lv_at hl 2 rfl) ?_
    refine lv_i2l hx hb dX12_number_20 rfl ?_
    refine lv_topl (fun v3 ev3 => ?_)
    have jv3 : v3.toInt = a_t := by rw [ev3, xi_64]; exact h_a
    refine lv_iload_n hx hb dX12_number_21 rfl (lv_at hl 3 rfl) ?_
    refine lv_i2l hx hb dX12_number_22 rfl ?_
    refine lv_topl (fun v4 ev4 => ?_)
    have jv4 : v4.toInt = b_t := by rw [ev4, xi_64]; exact h_b
    refine vp_callSi (W.runS (As := [.long v2, .long v3, .long v4]) (rest := []) ⟨hx, hb, hml, hown, hts⟩ (tX12_in l E X A z I0 L0 v2 (f0_7.toInt) jv2 v3 (a_t) jv3 v4 (b_t) jv4) (va_cwS 3 hts gX12_number_X12_in rfl rfl rfl (by decide +kernel) ⟨Nat.le_of_ble_eq_true rfl, Nat.le_of_ble_eq_true rfl⟩) ⟨h_blind _ _ _ _ _ _ _, h_pre _ hE hk hX hA hI hR g⟩ rfl rfl hl.1 rfl (lv_room (Nat.le_of_ble_eq_true rfl)) dX12_number_23 ⟨Nat.le_of_ble_eq_true rfl, Nat.le_of_ble_eq_true rfl⟩) (fun rh5 h5 => ?_)
    rcases h5 with ⟨rfl, h5⟩ | ⟨rfl, h5⟩
    · skip
      refine lv_if_ne (tgt := 35) hx hb dX12_number_26 (by decide) (fun h => absurd (by decide) h) (fun _ => ?_)
      refine lv_aload_n hx hb dX12_number_29 rfl (lv_at hl 0 rfl) ?_
      refine lv_iconst (v := 2) hx hb dX12_number_30 (by decide) ?_
      refine va_calli (va_runV (As := [.int 2]) (rest := []) ⟨hx, hb, hml, hown, hts⟩ (tX12_fails l E X A z I0 L0 a0 t_a0 2 (2) (by decide)) (cwV 1 hts gX12_number_X12_fails rfl rfl rfl (by decide +kernel) ⟨Nat.le_of_ble_eq_true rfl, Nat.le_of_ble_eq_true rfl⟩) ⟨h_blind _ _ _ _ _ _ _, h_recv g t_a0 (by decide) so_13 (q := (RX12, TX12, 51)) rfl, h_pre _ hE hk hX hA hI hR g⟩ rfl rfl hl.1 rfl (lv_room (Nat.le_of_ble_eq_true rfl)) dX12_number_31 ⟨Nat.le_of_ble_eq_true rfl, Nat.le_of_ble_eq_true rfl⟩) g.2.1 (fun q _ h => h) (fun q h => h) (fun rh7 I8 t H1 locs ht hvm h7 hB hz1 hk1 hS => ?_)
      obtain ⟨hI, fh7, h7⟩ := h7
      replace g := h_after g hB ht hS
      generalize H1 = H at g
      clear hB hk1 hz1 ht hvm hS
      have hF := hF.call fh7 rfl
      have hS := g.2.1
      exact W.zret (v := rh7) hx hb hr (h_nb (by omega) (by omega)).1 (fun t ht hW => ⟨⟨rh7, I8, rfl, ⟨hI, hF, ⟨⟨(by omega), (by omega)⟩, (by have q1_3 : (I8 a0 3).toInt = f0_3.toInt := (congrArg Int32.toInt ((h_F.at fh7 t_a0 rfl).trans (ef0_3.symm))).trans rfl; omega), (by have q1_3 : (I8 a0 3).toInt = f0_3.toInt := (congrArg Int32.toInt ((h_F.at fh7 t_a0 rfl).trans (ef0_3.symm))).trans rfl; have q1_4 : (I8 a0 4).toInt = f0_4.toInt := (congrArg Int32.toInt ((h_F.at fh7 t_a0 rfl).trans (ef0_4.symm))).trans rfl; omega), (by have q1_6 : (I8 a0 6).toInt = f0_6.toInt := (congrArg Int32.toInt ((h_F.at fh7 t_a0 rfl).trans (ef0_6.symm))).trans rfl; omega), (by have q1_3 : (I8 a0 3).toInt = f0_3.toInt := (congrArg Int32.toInt ((h_F.at fh7 t_a0 rfl).trans (ef0_3.symm))).trans rfl; have q1_6 : (I8 a0 6).toInt = f0_6.toInt := (congrArg Int32.toInt ((h_F.at fh7 t_a0 rfl).trans (ef0_6.symm))).trans rfl; omega), (by rw [alw]; exact fun k hk => h_F.at fh7 tlw rfl)⟩⟩, h_ret g ht⟩, hS.F ht⟩) hS.2.2 dX12_number_34
    · skip
      refine lv_if_ne (tgt := 35) hx hb dX12_number_26 (by decide) (fun _ => ?_) (fun h => absurd h (by decide))
      refine lv_aload_n hx hb dX12_number_35 rfl (lv_at hl 0 rfl) ?_
      refine h_get (v := .ref lw) hx hb hts iX12 hown g t_a0 (by decide) so_13 rfl 10 (by decide) (hts (.fieldLink RX12 17 "CapLeagueModel" "laws" "[I") (by decide +kernel)) rfl dX12_number_36 (by show va_rf (z.R a0 10) = _; rw [rlw]; rfl) ?_
      refine lv_sipush (v := 160) hx hb dX12_number_39 (by decide) ?_
      refine lv_iload_n hx hb dX12_number_42 rfl (lv_at hl 1 rfl) ?_
      refine lv_iadd hx hb dX12_number_43 ?_
      refine lv_topi (fun v10 ev10 => ?_)
      have jv10 : v10.toInt = 160 + y_t := xi_add ev10 (by decide) h_y (by omega) (by omega)
      refine lv_aload_n hx hb dX12_number_44 rfl (lv_at hl 0 rfl) ?_
      refine h_get (v := .int f0_7) hx hb hts iX12 hown g t_a0 (by decide) so_13 rfl 7 (by decide) (hts (.fieldLink RX12 163 "CapLeagueModel" "worth" "I") (by decide +kernel)) rfl dX12_number_45 (congrArg Value.int (ef0_7.symm)) ?_
      refine h_ast hx hb g tlw (by decide) so_1310 (xi_in (by omega) (by omega)) dX12_number_48 (fun I11 H locs eI11 g => ?_)
      have hI := h_lww hI eI11 tlw (k := v10.toInt) rfl (by omega) (by omega) (by omega)
      have hF := hF.wr eI11 tlw rfl
      refine lv_aload_n hx hb dX12_number_49 rfl (lv_at hl 0 rfl) ?_
      refine va_callv (va_runV (As := []) (rest := []) ⟨hx, hb, hml, hown, hts⟩ (tX12_scan l E X A z I11 L0 a0 t_a0) (cwV 0 hts gX12_number_X12_scan rfl rfl rfl (by decide +kernel) ⟨Nat.le_of_ble_eq_true rfl, Nat.le_of_ble_eq_true rfl⟩) ⟨h_blind _ _ _ _ _ _ _, h_recv g t_a0 (by decide) so_13 (q := (RX12, TX12, 51)) rfl, h_pre _ hE hk hX hA hI hR g⟩ rfl rfl hl.1 rfl (lv_room (Nat.le_of_ble_eq_true rfl)) dX12_number_50 ⟨Nat.le_of_ble_eq_true rfl, Nat.le_of_ble_eq_true rfl⟩) g.2.1 (fun q _ h => h) (fun q h => h) (fun I13 t H1 locs ht hvm h12 hB hz1 hk1 hS => ?_)
      obtain ⟨hI, fh12, h12⟩ := h12
      replace g := h_after g hB ht hS
      generalize H1 = H at g
      clear hB hk1 hz1 ht hvm hS
      have hF := hF.call fh12 rfl
      obtain ⟨h12p0, h12p1, h12p2⟩ := h12
      rw [show I11 a0 6 = f0_6 from (h_n1 eI11 t_a0 tlw (by decide)).trans (ef0_6.symm)] at h12p1
      rw [show I11 a0 6 = f0_6 from (h_n1 eI11 t_a0 tlw (by decide)).trans (ef0_6.symm)] at h12p2
      obtain ⟨v14, ev14⟩ : ∃ v : Int32, v = I13 a0 3 := ⟨_, rfl⟩
      have jv14 := hI.rd a0 3 t_a0 ev14 (rfl : h_bd 13 3 = ((-2147483648), 2147483647))
      rw [← ev14] at h12p0
      rw [← ev14] at h12p2
      obtain ⟨v15, ev15⟩ : ∃ v : Int32, v = I13 a0 4 := ⟨_, rfl⟩
      have jv15 := hI.rd a0 4 t_a0 ev15 (rfl : h_bd 13 4 = ((-1), 60))
      rw [← ev15] at h12p0
      obtain ⟨v16, ev16⟩ : ∃ v : Int32, v = I13 a0 6 := ⟨_, rfl⟩
      have jv16 := hI.rd a0 6 t_a0 ev16 (rfl : h_bd 13 6 = (0, 500))
      rw [← ev16] at h12p1
      rw [← ev16] at h12p2
      refine lv_iconst (v := 1) hx hb dX12_number_53 (by decide) ?_
      have hS := g.2.1
      exact W.zret (v := 1) hx hb hr (by decide) (fun t ht hW => ⟨⟨1, I13, rfl, ⟨hI, hF, ⟨⟨(by decide), (by decide)⟩, (by have qr : (1 : Int32).toInt = 1 := (by decide); have q1_3 : (I13 a0 3).toInt = v14.toInt := (congrArg Int32.toInt (ev14.symm)).trans rfl; omega), (by have qr : (1 : Int32).toInt = 1 := (by decide); have q1_3 : (I13 a0 3).toInt = v14.toInt := (congrArg Int32.toInt (ev14.symm)).trans rfl; have q1_4 : (I13 a0 4).toInt = v15.toInt := (congrArg Int32.toInt (ev15.symm)).trans rfl; omega), (by have qr : (1 : Int32).toInt = 1 := (by decide); have q1_6 : (I13 a0 6).toInt = v16.toInt := (congrArg Int32.toInt (ev16.symm)).trans rfl; omega), (by have qr : (1 : Int32).toInt = 1 := (by decide); have q1_3 : (I13 a0 3).toInt = v14.toInt := (congrArg Int32.toInt (ev14.symm)).trans rfl; have q1_6 : (I13 a0 6).toInt = v16.toInt := (congrArg Int32.toInt (ev16.symm)).trans rfl; omega), (by rw [alw]; exact fun k hk => (h_F.at fh12 tlw rfl).trans (h_n2 eI11 (h_kne (t := v10.toInt) rfl (by omega) (by omega))))⟩⟩, h_ret g ht⟩, hS.F ht⟩) hS.2.2 dX12_number_54
  · have ic1 := (xi_ne c1 rfl (by decide) : f0_3.toInt ≠ 2)
    refine lv_aload_n hx hb dX12_number_8 rfl (lv_at hl 0 rfl) ?_
    refine lv_iconst (v := 1) hx hb dX12_number_9 (by decide) ?_
    refine va_calli (va_runV (As := [.int 1]) (rest := []) ⟨hx, hb, hml, hown, hts⟩ (tX12_fails l E X A z I0 L0 a0 t_a0 1 (1) (by decide)) (cwV 1 hts gX12_number_X12_fails rfl rfl rfl (by decide +kernel) ⟨Nat.le_of_ble_eq_true rfl, Nat.le_of_ble_eq_true rfl⟩) ⟨h_blind _ _ _ _ _ _ _, h_recv g t_a0 (by decide) so_13 (q := (RX12, TX12, 51)) rfl, h_pre _ hE hk hX hA hI hR g⟩ rfl rfl hl.1 rfl (lv_room (Nat.le_of_ble_eq_true rfl)) dX12_number_10 ⟨Nat.le_of_ble_eq_true rfl, Nat.le_of_ble_eq_true rfl⟩) g.2.1 (fun q _ h => h) (fun q h => h) (fun rh17 I18 t H1 locs ht hvm h17 hB hz1 hk1 hS => ?_)
    obtain ⟨hI, fh17, h17⟩ := h17
    replace g := h_after g hB ht hS
    generalize H1 = H at g
    clear hB hk1 hz1 ht hvm hS
    have hF := hF.call fh17 rfl
    have hS := g.2.1
    exact W.zret (v := rh17) hx hb hr (h_nb (by omega) (by omega)).1 (fun t ht hW => ⟨⟨rh17, I18, rfl, ⟨hI, hF, ⟨⟨(by omega), (by omega)⟩, (by have q1_3 : (I18 a0 3).toInt = f0_3.toInt := (congrArg Int32.toInt ((h_F.at fh17 t_a0 rfl).trans (ef0_3.symm))).trans rfl; omega), (by have q1_3 : (I18 a0 3).toInt = f0_3.toInt := (congrArg Int32.toInt ((h_F.at fh17 t_a0 rfl).trans (ef0_3.symm))).trans rfl; have q1_4 : (I18 a0 4).toInt = f0_4.toInt := (congrArg Int32.toInt ((h_F.at fh17 t_a0 rfl).trans (ef0_4.symm))).trans rfl; omega), (by have q1_6 : (I18 a0 6).toInt = f0_6.toInt := (congrArg Int32.toInt ((h_F.at fh17 t_a0 rfl).trans (ef0_6.symm))).trans rfl; omega), (by have q1_3 : (I18 a0 3).toInt = f0_3.toInt := (congrArg Int32.toInt ((h_F.at fh17 t_a0 rfl).trans (ef0_3.symm))).trans rfl; have q1_6 : (I18 a0 6).toInt = f0_6.toInt := (congrArg Int32.toInt ((h_F.at fh17 t_a0 rfl).trans (ef0_6.symm))).trans rfl; omega), (by rw [alw]; exact fun k hk => h_F.at fh17 tlw rfl)⟩⟩, h_ret g ht⟩, hS.F ht⟩) hS.2.2 dX12_number_13
set_option maxHeartbeats 4000000 in
set_option maxRecDepth 100000 in
theorem tX12_number9 (l : Launch) (E : tE) (X : tX) (A : Nat → Prop) (z : tZ) (I0 : tI) (L0 : tL) (a0 : Nat) (t_a0 : z.ty a0 = 13) (y : Int32) (y_t : Int) (h_y : y.toInt = y_t) (b_y : 9 ≤ y_t ∧ y_t ≤ 15) (a : Int32) (a_t : Int) (h_a : a.toInt = a_t) (b_a : 1 ≤ a_t ∧ a_t ≤ 1) (b : Int32) (b_t : Int) (h_b : b.toInt = b_t) (b_b : 20 ≤ b_t ∧ b_t ≤ 20) : Met l yX12_number wsX12_number ({ frames := 7, cells := 0, slots := 0, locals := 448 }) (va_Pc [.ref a0, .int y, .int a, .int b] (h_P E X A z I0 L0)) (va_Qi (fun r (I1 : tI) => h_I z I1 ∧ h_F [(13, 5), (13, 3), (13, 4), (13, 7), (13, 6), (13, 8), (13, 9), (1310, 999)] z I0 I1 ∧ (0 ≤ r.toInt ∧ r.toInt ≤ 1) ∧ (r.toInt = 0 ∨ (I0 a0 3).toInt = 2) ∧ (r.toInt = 0 ∨ ((I1 a0 3).toInt = 1 → 0 ≤ (I1 a0 4).toInt)) ∧ (r.toInt = 0 ∨ (I0 a0 6).toInt ≤ (I1 a0 6).toInt) ∧ (r.toInt = 0 ∨ (I1 a0 3).toInt = 4 ∨ (I0 a0 6).toInt < (I1 a0 6).toInt) ∧ (∀ k : Nat, (k : Int) ≠ 160 + y_t → I1 (h_ad z a0 10) k = I0 (h_ad z a0 10) k) ∧ (∀ k : Nat, (k : Int) = 160 + y_t → r.toInt = 0 ∨ 1 ≤ (I1 (h_ad z a0 10) k).toInt)) (fun (I1 : tI) t => h_B E A z I1 L0 t) A) 0 0 A := by
  refine Met.ofW (cc := cX12_number) (maxL := 4) (ret := (some .boolean)) (by decide) rfl ?_
  intro pr_ ev_ s m args below meth cd_ s₁ B hml hv
  obtain ⟨rfl, hE, hk, hX, hA, hK, hI, hR, hB0⟩ := hv
  have g : h_G h_so h_fk E A z I0 L0 s s.heap s.heap [] := ⟨hK, va_S.rf, hB0⟩
  have hF : h_F [(13, 5), (13, 3), (13, 4), (13, 7), (13, 6), (13, 8), (13, 9), (1310, 999)] z I0 I0 := h_F.rf
  have hx := B.exec
  have hb := B.bytes
  have hr := B.returns
  have hts := atoms_spec (ws := wsX12_number) B.pre
  have hown : s.vm.findClass RX12 = some m.cls := findClass_of_methodNamed B.named
  have hlocks := B.notSynchronized
  have iX12 : ∀ w ∈ u_ws RX12 TX12 51, w ∈ wsX12_number := by decide +kernel
  have hl := lv_entry ([.ref a0, .int y, .int a, .int b]) (n := 4) (Nat.le_of_ble_eq_true rfl)
  rw [lg_entry_eq]
  generalize (lg_sl ([.ref a0, .int y, .int a, .int b]) ++ List.replicate (4 - (lg_sl ([.ref a0, .int y, .int a, .int b])).length) Slot.unset).toArray = ls at hl ⊢
  have hl : lv_has ls 4 [(0, .ref a0), (1, .int y), (2, .int a), (3, .int b)] := hl
  obtain ⟨lw, rlw, tlw⟩ := hR.at a0 10 t_a0 (rfl : h_rs 13 10 = some (1310, false)) (by decide)
  have alw : h_ad z a0 10 = lw := h_ad.at rlw
  obtain ⟨f0_3, ef0_3⟩ : ∃ v : Int32, v = I0 a0 3 := ⟨_, rfl⟩
  have qf0_3 : (I0 a0 3).toInt = f0_3.toInt := congrArg Int32.toInt ef0_3.symm
  have jf0_3 := hI.rd a0 3 t_a0 ef0_3 (rfl : h_bd 13 3 = ((-2147483648), 2147483647))
  obtain ⟨f0_4, ef0_4⟩ : ∃ v : Int32, v = I0 a0 4 := ⟨_, rfl⟩
  have qf0_4 : (I0 a0 4).toInt = f0_4.toInt := congrArg Int32.toInt ef0_4.symm
  have jf0_4 := hI.rd a0 4 t_a0 ef0_4 (rfl : h_bd 13 4 = ((-1), 60))
  obtain ⟨f0_6, ef0_6⟩ : ∃ v : Int32, v = I0 a0 6 := ⟨_, rfl⟩
  have qf0_6 : (I0 a0 6).toInt = f0_6.toInt := congrArg Int32.toInt ef0_6.symm
  have jf0_6 := hI.rd a0 6 t_a0 ef0_6 (rfl : h_bd 13 6 = (0, 500))
  obtain ⟨f0_7, ef0_7⟩ : ∃ v : Int32, v = I0 a0 7 := ⟨_, rfl⟩
  have qf0_7 : (I0 a0 7).toInt = f0_7.toInt := congrArg Int32.toInt ef0_7.symm
  have jf0_7 := hI.rd a0 7 t_a0 ef0_7 (rfl : h_bd 13 7 = ((-2147483648), 2147483647))
  refine lv_aload_n hx hb dX12_number_0 rfl (lv_at hl 0 rfl) ?_
  refine h_get (v := .int f0_3) hx hb hts iX12 hown g t_a0 (by decide) so_13 rfl 3 (by decide) (hts (.fieldLink RX12 146 "CapLeagueModel" "sort" "I") (by decide +kernel)) rfl dX12_number_1 (congrArg Value.int (ef0_3.symm)) ?_
  refine lv_iconst (v := 2) hx hb dX12_number_4 (by decide) ?_
  refine lv_icmp_eq (tgt := 14) hx hb dX12_number_5 (by decide) (fun c1 => ?_) (fun c1 => ?_)
  · have ic1 := (xi_eq c1 rfl (by decide) : f0_3.toInt = 2)
    refine lv_aload_n hx hb dX12_number_14 rfl (lv_at hl 0 rfl) ?_
    refine h_get (v := .int f0_7) hx hb hts iX12 hown g t_a0 (by decide) so_13 rfl 7 (by decide) (hts (.fieldLink RX12 163 "CapLeagueModel" "worth" "I") (by decide +kernel)) rfl dX12_number_15 (congrArg Value.int (ef0_7.symm)) ?_
    refine lv_i2l hx hb dX12_number_18 rfl ?_
    refine lv_topl (fun v2 ev2 => ?_)
    have jv2 : v2.toInt = f0_7.toInt := by rw [ev2, xi_64]
    refine lv_iload_n hx hb dX12_number_19 rfl (lv_at hl 2 rfl) ?_
    refine lv_i2l hx hb dX12_number_20 rfl ?_
    refine lv_topl (fun v3 ev3 => ?_)
    have jv3 : v3.toInt = a_t := by rw [ev3, xi_64]; exact h_a
    refine lv_iload_n hx hb dX12_number_21 rfl (lv_at hl 3 rfl) ?_
    refine lv_i2l hx hb dX12_number_22 rfl ?_
    refine lv_topl (fun v4 ev4 => ?_)
    have jv4 : v4.toInt = b_t := by rw [ev4, xi_64]; exact h_b
    refine vp_callSi (W.runS (As := [.long v2, .long v3, .long v4]) (rest := []) ⟨hx, hb, hml, hown, hts⟩ (tX12_in l E X A z I0 L0 v2 (f0_7.toInt) jv2 v3 (a_t) jv3 v4 (b_t) jv4) (va_cwS 3 hts gX12_number_X12_in rfl rfl rfl (by decide +kernel) ⟨Nat.le_of_ble_eq_true rfl, Nat.le_of_ble_eq_true rfl⟩) ⟨h_blind _ _ _ _ _ _ _, h_pre _ hE hk hX hA hI hR g⟩ rfl rfl hl.1 rfl (lv_room (Nat.le_of_ble_eq_true rfl)) dX12_number_23 ⟨Nat.le_of_ble_eq_true rfl, Nat.le_of_ble_eq_true rfl⟩) (fun rh5 h5 => ?_)
    rcases h5 with ⟨rfl, h5⟩ | ⟨rfl, h5⟩
    · skip
      refine lv_if_ne (tgt := 35) hx hb dX12_number_26 (by decide) (fun h => absurd (by decide) h) (fun _ => ?_)
      refine lv_aload_n hx hb dX12_number_29 rfl (lv_at hl 0 rfl) ?_
      refine lv_iconst (v := 2) hx hb dX12_number_30 (by decide) ?_
      refine va_calli (va_runV (As := [.int 2]) (rest := []) ⟨hx, hb, hml, hown, hts⟩ (tX12_fails l E X A z I0 L0 a0 t_a0 2 (2) (by decide)) (cwV 1 hts gX12_number_X12_fails rfl rfl rfl (by decide +kernel) ⟨Nat.le_of_ble_eq_true rfl, Nat.le_of_ble_eq_true rfl⟩) ⟨h_blind _ _ _ _ _ _ _, h_recv g t_a0 (by decide) so_13 (q := (RX12, TX12, 51)) rfl, h_pre _ hE hk hX hA hI hR g⟩ rfl rfl hl.1 rfl (lv_room (Nat.le_of_ble_eq_true rfl)) dX12_number_31 ⟨Nat.le_of_ble_eq_true rfl, Nat.le_of_ble_eq_true rfl⟩) g.2.1 (fun q _ h => h) (fun q h => h) (fun rh7 I8 t H1 locs ht hvm h7 hB hz1 hk1 hS => ?_)
      obtain ⟨hI, fh7, h7⟩ := h7
      replace g := h_after g hB ht hS
      generalize H1 = H at g
      clear hB hk1 hz1 ht hvm hS
      have hF := hF.call fh7 rfl
      have hS := g.2.1
      exact W.zret (v := rh7) hx hb hr (h_nb (by omega) (by omega)).1 (fun t ht hW => ⟨⟨rh7, I8, rfl, ⟨hI, hF, ⟨⟨(by omega), (by omega)⟩, (by have q1_3 : (I8 a0 3).toInt = f0_3.toInt := (congrArg Int32.toInt ((h_F.at fh7 t_a0 rfl).trans (ef0_3.symm))).trans rfl; omega), (by have q1_3 : (I8 a0 3).toInt = f0_3.toInt := (congrArg Int32.toInt ((h_F.at fh7 t_a0 rfl).trans (ef0_3.symm))).trans rfl; have q1_4 : (I8 a0 4).toInt = f0_4.toInt := (congrArg Int32.toInt ((h_F.at fh7 t_a0 rfl).trans (ef0_4.symm))).trans rfl; omega), (by have q1_6 : (I8 a0 6).toInt = f0_6.toInt := (congrArg Int32.toInt ((h_F.at fh7 t_a0 rfl).trans (ef0_6.symm))).trans rfl; omega), (by have q1_3 : (I8 a0 3).toInt = f0_3.toInt := (congrArg Int32.toInt ((h_F.at fh7 t_a0 rfl).trans (ef0_3.symm))).trans rfl; have q1_6 : (I8 a0 6).toInt = f0_6.toInt := (congrArg Int32.toInt ((h_F.at fh7 t_a0 rfl).trans (ef0_6.symm))).trans rfl; omega), (by rw [alw]; exact fun k hk => h_F.at fh7 tlw rfl), (fun k hk => Or.inl (by omega))⟩⟩, h_ret g ht⟩, hS.F ht⟩) hS.2.2 dX12_number_34
    · skip
      refine lv_if_ne (tgt := 35) hx hb dX12_number_26 (by decide) (fun _ => ?_) (fun h => absurd h (by decide))
      refine lv_aload_n hx hb dX12_number_35 rfl (lv_at hl 0 rfl) ?_
      refine h_get (v := .ref lw) hx hb hts iX12 hown g t_a0 (by decide) so_13 rfl 10 (by decide) (hts (.fieldLink RX12 17 "CapLeagueModel" "laws" "[I") (by decide +kernel)) rfl dX12_number_36 (by show va_rf (z.R a0 10) = _; rw [rlw]; rfl) ?_
      refine lv_sipush (v := 160) hx hb dX12_number_39 (by decide) ?_
      refine lv_iload_n hx hb dX12_number_42 rfl (lv_at hl 1 rfl) ?_
      refine lv_iadd hx hb dX12_number_43 ?_
      refine lv_topi (fun v10 ev10 => ?_)
      have jv10 : v10.toInt = 160 + y_t := xi_add ev10 (by decide) h_y (by omega) (by omega)
      refine lv_aload_n hx hb dX12_number_44 rfl (lv_at hl 0 rfl) ?_
      refine h_get (v := .int f0_7) hx hb hts iX12 hown g t_a0 (by decide) so_13 rfl 7 (by decide) (hts (.fieldLink RX12 163 "CapLeagueModel" "worth" "I") (by decide +kernel)) rfl dX12_number_45 (congrArg Value.int (ef0_7.symm)) ?_
      refine h_ast hx hb g tlw (by decide) so_1310 (xi_in (by omega) (by omega)) dX12_number_48 (fun I11 H locs eI11 g => ?_)
      have hI := h_lww hI eI11 tlw (k := v10.toInt) rfl (by omega) (by omega) (by omega)
      have hF := hF.wr eI11 tlw rfl
      refine lv_aload_n hx hb dX12_number_49 rfl (lv_at hl 0 rfl) ?_
      refine va_callv (va_runV (As := []) (rest := []) ⟨hx, hb, hml, hown, hts⟩ (tX12_scan l E X A z I11 L0 a0 t_a0) (cwV 0 hts gX12_number_X12_scan rfl rfl rfl (by decide +kernel) ⟨Nat.le_of_ble_eq_true rfl, Nat.le_of_ble_eq_true rfl⟩) ⟨h_blind _ _ _ _ _ _ _, h_recv g t_a0 (by decide) so_13 (q := (RX12, TX12, 51)) rfl, h_pre _ hE hk hX hA hI hR g⟩ rfl rfl hl.1 rfl (lv_room (Nat.le_of_ble_eq_true rfl)) dX12_number_50 ⟨Nat.le_of_ble_eq_true rfl, Nat.le_of_ble_eq_true rfl⟩) g.2.1 (fun q _ h => h) (fun q h => h) (fun I13 t H1 locs ht hvm h12 hB hz1 hk1 hS => ?_)
      obtain ⟨hI, fh12, h12⟩ := h12
      replace g := h_after g hB ht hS
      generalize H1 = H at g
      clear hB hk1 hz1 ht hvm hS
      have hF := hF.call fh12 rfl
      obtain ⟨h12p0, h12p1, h12p2⟩ := h12
      rw [show I11 a0 6 = f0_6 from (h_n1 eI11 t_a0 tlw (by decide)).trans (ef0_6.symm)] at h12p1
      rw [show I11 a0 6 = f0_6 from (h_n1 eI11 t_a0 tlw (by decide)).trans (ef0_6.symm)] at h12p2
      obtain ⟨v14, ev14⟩ : ∃ v : Int32, v = I13 a0 3 := ⟨_, rfl⟩
      have jv14 := hI.rd a0 3 t_a0 ev14 (rfl : h_bd 13 3 = ((-2147483648), 2147483647))
      rw [← ev14] at h12p0
      rw [← ev14] at h12p2
      obtain ⟨v15, ev15⟩ : ∃ v : Int32, v = I13 a0 4 := ⟨_, rfl⟩
      have jv15 := hI.rd a0 4 t_a0 ev15 (rfl : h_bd 13 4 = ((-1), 60))
      rw [← ev15] at h12p0
      obtain ⟨v16, ev16⟩ : ∃ v : Int32, v = I13 a0 6 := ⟨_, rfl⟩
      have jv16 := hI.rd a0 6 t_a0 ev16 (rfl : h_bd 13 6 = (0, 500))
      rw [← ev16] at h12p1
      rw [← ev16] at h12p2
      refine lv_iconst (v := 1) hx hb dX12_number_53 (by decide) ?_
      have hS := g.2.1
      exact W.zret (v := 1) hx hb hr (by decide) (fun t ht hW => ⟨⟨1, I13, rfl, ⟨hI, hF, ⟨⟨(by decide), (by decide)⟩, (by have qr : (1 : Int32).toInt = 1 := (by decide); have q1_3 : (I13 a0 3).toInt = v14.toInt := (congrArg Int32.toInt (ev14.symm)).trans rfl; omega), (by have qr : (1 : Int32).toInt = 1 := (by decide); have q1_3 : (I13 a0 3).toInt = v14.toInt := (congrArg Int32.toInt (ev14.symm)).trans rfl; have q1_4 : (I13 a0 4).toInt = v15.toInt := (congrArg Int32.toInt (ev15.symm)).trans rfl; omega), (by have qr : (1 : Int32).toInt = 1 := (by decide); have q1_6 : (I13 a0 6).toInt = v16.toInt := (congrArg Int32.toInt (ev16.symm)).trans rfl; omega), (by have qr : (1 : Int32).toInt = 1 := (by decide); have q1_3 : (I13 a0 3).toInt = v14.toInt := (congrArg Int32.toInt (ev14.symm)).trans rfl; have q1_6 : (I13 a0 6).toInt = v16.toInt := (congrArg Int32.toInt (ev16.symm)).trans rfl; omega), (by rw [alw]; exact fun k hk => (h_F.at fh12 tlw rfl).trans (h_n2 eI11 (h_kne (t := v10.toInt) rfl (by omega) (by omega)))), (by rw [alw]; intro k hk; right; rw [← h_keq (k := k) (i := v10) (t := v10.toInt) rfl (by omega) (by omega), (h_F.at fh12 tlw rfl).trans (h_n0 eI11)]; omega)⟩⟩, h_ret g ht⟩, hS.F ht⟩) hS.2.2 dX12_number_54
  · have ic1 := (xi_ne c1 rfl (by decide) : f0_3.toInt ≠ 2)
    refine lv_aload_n hx hb dX12_number_8 rfl (lv_at hl 0 rfl) ?_
    refine lv_iconst (v := 1) hx hb dX12_number_9 (by decide) ?_
    refine va_calli (va_runV (As := [.int 1]) (rest := []) ⟨hx, hb, hml, hown, hts⟩ (tX12_fails l E X A z I0 L0 a0 t_a0 1 (1) (by decide)) (cwV 1 hts gX12_number_X12_fails rfl rfl rfl (by decide +kernel) ⟨Nat.le_of_ble_eq_true rfl, Nat.le_of_ble_eq_true rfl⟩) ⟨h_blind _ _ _ _ _ _ _, h_recv g t_a0 (by decide) so_13 (q := (RX12, TX12, 51)) rfl, h_pre _ hE hk hX hA hI hR g⟩ rfl rfl hl.1 rfl (lv_room (Nat.le_of_ble_eq_true rfl)) dX12_number_10 ⟨Nat.le_of_ble_eq_true rfl, Nat.le_of_ble_eq_true rfl⟩) g.2.1 (fun q _ h => h) (fun q h => h) (fun rh17 I18 t H1 locs ht hvm h17 hB hz1 hk1 hS => ?_)
    obtain ⟨hI, fh17, h17⟩ := h17
    replace g := h_after g hB ht hS
    generalize H1 = H at g
    clear hB hk1 hz1 ht hvm hS
    have hF := hF.call fh17 rfl
    have hS := g.2.1
    exact W.zret (v := rh17) hx hb hr (h_nb (by omega) (by omega)).1 (fun t ht hW => ⟨⟨rh17, I18, rfl, ⟨hI, hF, ⟨⟨(by omega), (by omega)⟩, (by have q1_3 : (I18 a0 3).toInt = f0_3.toInt := (congrArg Int32.toInt ((h_F.at fh17 t_a0 rfl).trans (ef0_3.symm))).trans rfl; omega), (by have q1_3 : (I18 a0 3).toInt = f0_3.toInt := (congrArg Int32.toInt ((h_F.at fh17 t_a0 rfl).trans (ef0_3.symm))).trans rfl; have q1_4 : (I18 a0 4).toInt = f0_4.toInt := (congrArg Int32.toInt ((h_F.at fh17 t_a0 rfl).trans (ef0_4.symm))).trans rfl; omega), (by have q1_6 : (I18 a0 6).toInt = f0_6.toInt := (congrArg Int32.toInt ((h_F.at fh17 t_a0 rfl).trans (ef0_6.symm))).trans rfl; omega), (by have q1_3 : (I18 a0 3).toInt = f0_3.toInt := (congrArg Int32.toInt ((h_F.at fh17 t_a0 rfl).trans (ef0_3.symm))).trans rfl; have q1_6 : (I18 a0 6).toInt = f0_6.toInt := (congrArg Int32.toInt ((h_F.at fh17 t_a0 rfl).trans (ef0_6.symm))).trans rfl; omega), (by rw [alw]; exact fun k hk => h_F.at fh17 tlw rfl), (fun k hk => Or.inl (by omega))⟩⟩, h_ret g ht⟩, hS.F ht⟩) hS.2.2 dX12_number_13
set_option maxHeartbeats 4000000 in
set_option maxRecDepth 100000 in
theorem tX12_readLine (l : Launch) (E : tE) (X : tX) (A : Nat → Prop) (z : tZ) (I0 : tI) (L0 : tL) (a0 : Nat) (t_a0 : z.ty a0 = 13) (x : Int32) (x_t : Int) (h_x : x.toInt = x_t) (hsw : (I0 a0 3).toInt = 1 → 0 ≤ (I0 a0 4).toInt) (hok : h_ok (I0 (h_ad z a0 10)) 10) : Met l yX12_readLine wsX12_readLine ({ frames := 8, cells := 0, slots := 0, locals := 512 }) (va_Pc [.ref a0, .int x] (h_P E X A z I0 L0)) (va_Qi (fun r (I1 : tI) => h_I z I1 ∧ h_F [(13, 5), (13, 3), (13, 4), (13, 7), (13, 6), (13, 8), (13, 9), (1310, 999)] z I0 I1 ∧ (0 ≤ r.toInt ∧ r.toInt ≤ 1) ∧ (r.toInt = 0 ∨ (I0 a0 6).toInt < (I1 a0 6).toInt) ∧ (r.toInt = 0 ∨ ((I1 a0 3).toInt = 1 → 0 ≤ (I1 a0 4).toInt)) ∧ (r.toInt = 0 ∨ h_ok (I1 (h_ad z a0 10)) 10) ∧ (∀ k : Nat, (k < 160 ∨ 176 ≤ k) → I1 (h_ad z a0 10) k = I0 (h_ad z a0 10) k)) (fun (I1 : tI) t => h_B E A z I1 L0 t) A) 0 0 A := by
  refine Met.ofW (cc := cX12_readLine) (maxL := 5) (ret := (some .boolean)) (by decide) rfl ?_
  intro pr_ ev_ s m args below meth cd_ s₁ B hml hv
  obtain ⟨rfl, hE, hk, hX, hA, hK, hI, hR, hB0⟩ := hv
  have g : h_G h_so h_fk E A z I0 L0 s s.heap s.heap [] := ⟨hK, va_S.rf, hB0⟩
  have hF : h_F [(13, 5), (13, 3), (13, 4), (13, 7), (13, 6), (13, 8), (13, 9), (1310, 999)] z I0 I0 := h_F.rf
  have hx := B.exec
  have hb := B.bytes
  have hr := B.returns
  have hts := atoms_spec (ws := wsX12_readLine) B.pre
  have hown : s.vm.findClass RX12 = some m.cls := findClass_of_methodNamed B.named
  have hlocks := B.notSynchronized
  have iX12 : ∀ w ∈ u_ws RX12 TX12 51, w ∈ wsX12_readLine := by decide +kernel
  have hl := lv_entry ([.ref a0, .int x]) (n := 5) (Nat.le_of_ble_eq_true rfl)
  rw [lg_entry_eq]
  generalize (lg_sl ([.ref a0, .int x]) ++ List.replicate (5 - (lg_sl ([.ref a0, .int x])).length) Slot.unset).toArray = ls at hl ⊢
  have hl : lv_has ls 5 [(0, .ref a0), (1, .int x)] := hl
  have b_x : -2147483648 ≤ x_t ∧ x_t ≤ 2147483647 := h_x ▸ ⟨xi_lo x, Int.le_of_lt_add_one (xi_hi x)⟩
  obtain ⟨lw, rlw, tlw⟩ := hR.at a0 10 t_a0 (rfl : h_rs 13 10 = some (1310, false)) (by decide)
  have alw : h_ad z a0 10 = lw := h_ad.at rlw
  obtain ⟨f0_3, ef0_3⟩ : ∃ v : Int32, v = I0 a0 3 := ⟨_, rfl⟩
  have qf0_3 : (I0 a0 3).toInt = f0_3.toInt := congrArg Int32.toInt ef0_3.symm
  have jf0_3 := hI.rd a0 3 t_a0 ef0_3 (rfl : h_bd 13 3 = ((-2147483648), 2147483647))
  obtain ⟨f0_4, ef0_4⟩ : ∃ v : Int32, v = I0 a0 4 := ⟨_, rfl⟩
  have qf0_4 : (I0 a0 4).toInt = f0_4.toInt := congrArg Int32.toInt ef0_4.symm
  have jf0_4 := hI.rd a0 4 t_a0 ef0_4 (rfl : h_bd 13 4 = ((-1), 60))
  obtain ⟨f0_6, ef0_6⟩ : ∃ v : Int32, v = I0 a0 6 := ⟨_, rfl⟩
  have qf0_6 : (I0 a0 6).toInt = f0_6.toInt := congrArg Int32.toInt ef0_6.symm
  have jf0_6 := hI.rd a0 6 t_a0 ef0_6 (rfl : h_bd 13 6 = (0, 500))
  rw [alw] at hok
  refine lv_aload_n hx hb dX12_readLine_0 rfl (lv_at hl 0 rfl) ?_
  refine h_get (v := .int f0_3) hx hb hts iX12 hown g t_a0 (by decide) so_13 rfl 3 (by decide) (hts (.fieldLink RX12 146 "CapLeagueModel" "sort" "I") (by decide +kernel)) rfl dX12_readLine_1 (congrArg Value.int (ef0_3.symm)) ?_
  refine lv_iconst (v := 1) hx hb dX12_readLine_4 (by decide) ?_
  refine lv_icmp_eq (tgt := 14) hx hb dX12_readLine_5 (by decide) (fun c1 => ?_) (fun c1 => ?_)
  · have ic1 := (xi_eq c1 rfl (by decide) : f0_3.toInt = 1)
    refine lv_aload_n hx hb dX12_readLine_14 rfl (lv_at hl 0 rfl) ?_
    refine h_get (v := .int f0_4) hx hb hts iX12 hown g t_a0 (by decide) so_13 rfl 4 (by decide) (hts (.fieldLink RX12 157 "CapLeagueModel" "what" "I") (by decide +kernel)) rfl dX12_readLine_15 (congrArg Value.int (ef0_4.symm)) ?_
    refine lv_istore_n (lv' := [(2, .int f0_4), (0, .ref a0), (1, .int x)]) hx hb dX12_readLine_18 rfl hl (by decide) rfl (fun ls hl => ?_)
    refine lv_iload_n hx hb dX12_readLine_19 rfl (lv_at hl 2 rfl) ?_
    refine lv_iload_n hx hb dX12_readLine_20 rfl (lv_at hl 0 rfl) ?_
    refine lv_ishr hx hb dX12_readLine_21 ?_
    refine lv_topi (fun v2 ev2 => ?_)
    have jv2 : -2147483648 ≤ v2.toInt ∧ v2.toInt ≤ 2147483647 := ⟨xi_lo _, Int.le_of_lt_add_one (xi_hi _)⟩
    refine lv_iconst (v := 1) hx hb dX12_readLine_22 (by decide) ?_
    refine lv_iand hx hb dX12_readLine_23 ?_
    refine lv_topi (fun v3 ev3 => ?_)
    have jv3 : 0 ≤ v3.toInt ∧ v3.toInt ≤ 1 := h_andn 1 (by decide) ev3
    refine lv_iconst (v := 1) hx hb dX12_readLine_24 (by decide) ?_
    refine lv_icmp_ne (tgt := 34) hx hb dX12_readLine_25 (by decide) (fun c4 => ?_) (fun c4 => ?_)
    · have ic4 := (xi_ne c4 rfl (by decide) : v3.toInt ≠ 1)
      refine lv_aload_n hx hb dX12_readLine_34 rfl (lv_at hl 1 rfl) ?_
      refine va_callv (va_runV (As := []) (rest := []) ⟨hx, hb, hml, hown, hts⟩ (tX12_scan l E X A z I0 L0 a0 t_a0) (cwV 0 hts gX12_readLine_X12_scan rfl rfl rfl (by decide +kernel) ⟨Nat.le_of_ble_eq_true rfl, Nat.le_of_ble_eq_true rfl⟩) ⟨h_blind _ _ _ _ _ _ _, h_recv g t_a0 (by decide) so_13 (q := (RX12, TX12, 51)) rfl, h_pre _ hE hk hX hA hI hR g⟩ rfl rfl hl.1 rfl (lv_room (Nat.le_of_ble_eq_true rfl)) dX12_readLine_35 ⟨Nat.le_of_ble_eq_true rfl, Nat.le_of_ble_eq_true rfl⟩) g.2.1 (fun q _ h => h) (fun q h => h) (fun I6 t H1 locs ht hvm h5 hB hz1 hk1 hS => ?_)
      obtain ⟨hI, fh5, h5⟩ := h5
      replace g := h_after g hB ht hS
      generalize H1 = H at g
      clear hB hk1 hz1 ht hvm hS
      have hF := hF.call fh5 rfl
      obtain ⟨h5p0, h5p1, h5p2⟩ := h5
      rw [show I0 a0 6 = f0_6 from ef0_6.symm] at h5p1
      rw [show I0 a0 6 = f0_6 from ef0_6.symm] at h5p2
      obtain ⟨v7, ev7⟩ : ∃ v : Int32, v = I6 a0 3 := ⟨_, rfl⟩
      have jv7 := hI.rd a0 3 t_a0 ev7 (rfl : h_bd 13 3 = ((-2147483648), 2147483647))
      rw [← ev7] at h5p0
      rw [← ev7] at h5p2
      obtain ⟨v8, ev8⟩ : ∃ v : Int32, v = I6 a0 4 := ⟨_, rfl⟩
      have jv8 := hI.rd a0 4 t_a0 ev8 (rfl : h_bd 13 4 = ((-1), 60))
      rw [← ev8] at h5p0
      obtain ⟨v9, ev9⟩ : ∃ v : Int32, v = I6 a0 6 := ⟨_, rfl⟩
      have jv9 := hI.rd a0 6 t_a0 ev9 (rfl : h_bd 13 6 = (0, 500))
      rw [← ev9] at h5p1
      rw [← ev9] at h5p2
      refine lv_iload_n hx hb dX12_readLine_38 rfl (lv_at hl 0 rfl) ?_
      refine lv_iconst (v := 4) hx hb dX12_readLine_39 (by decide) ?_
      refine lv_icmp_ge (tgt := 66) hx hb dX12_readLine_40 (by decide) (fun c10 => ?_) (fun c10 => ?_)
      · have ic10 := (xi_le c10 (by decide) rfl : 4 ≤ f0_4.toInt)
        refine lv_iload_n hx hb dX12_readLine_66 rfl (lv_at hl 0 rfl) ?_
        refine lv_iconst (v := 4) hx hb dX12_readLine_67 (by decide) ?_
        refine lv_icmp_ne (tgt := 106) hx hb dX12_readLine_68 (by decide) (fun c11 => ?_) (fun c11 => ?_)
        · have ic11 := (xi_ne c11 rfl (by decide) : f0_4.toInt ≠ 4)
          refine lv_iload_n hx hb dX12_readLine_106 rfl (lv_at hl 0 rfl) ?_
          refine lv_bipush (v := 7) hx hb dX12_readLine_107 (by decide) ?_
          refine lv_icmp_ge (tgt := 130) hx hb dX12_readLine_109 (by decide) (fun c12 => ?_) (fun c12 => ?_)
          · have ic12 := (xi_le c12 (by decide) rfl : 7 ≤ f0_4.toInt)
            refine lv_aload_n hx hb dX12_readLine_130 rfl (lv_at hl 1 rfl) ?_
            refine h_get (v := .ref lw) hx hb hts iX12 hown g t_a0 (by decide) so_13 rfl 10 (by decide) (hts (.fieldLink RX12 17 "CapLeagueModel" "laws" "[I") (by decide +kernel)) rfl dX12_readLine_131 (by show va_rf (z.R a0 10) = _; rw [rlw]; rfl) ?_
            refine lv_sipush (v := 168) hx hb dX12_readLine_134 (by decide) ?_
            refine lv_iconst (v := 0) hx hb dX12_readLine_137 (by decide) ?_
            refine h_ast hx hb g tlw (by decide) so_1310 (by unfold vp_in; decide) dX12_readLine_138 (fun I13 H locs eI13 g => ?_)
            have hI := h_lww hI eI13 tlw (k := 168) (by decide) (by omega) (by rw [show (0 : Int32).toInt = 0 by decide]; omega) (by rw [show (0 : Int32).toInt = 0 by decide]; omega)
            have hF := hF.wr eI13 tlw rfl
            have loop139_0 : ∀ (n : Nat) (I14 : tI) (H : Heap) (locs : List Loc) (ls : Array Slot), h_G h_so h_fk E A z I14 L0 s s.heap H locs → h_I z I14 → h_F [(13, 5), (13, 3), (13, 4), (13, 7), (13, 6), (13, 8), (13, 9), (1310, 999)] z I0 I14 → lv_has ls 5 [(0, .ref a0)] → ((I0 a0 6).toInt ≤ (I14 a0 6).toInt) → ((I14 a0 3).toInt = 4 ∨ (I0 a0 6).toInt < (I14 a0 6).toInt) → (h_ok (I14 lw) 10) → (∀ k : Nat, (k < 160 ∨ 176 ≤ k) → I14 lw k = I0 lw k) → ((I14 lw 168).toInt ≤ 6) → (((501 - (I14 a0 6).toInt).toNat : Int)) < (n : Int) → W pr_ l ev_ (headSpec wsX12_readLine ({ frames := 8, cells := 0, slots := 0, locals := 512 })).room s m ([.ref a0, .int x] : List Value).toArray below meth cd_ H locs 0 0 (MQ below (va_Qi (fun r (I1 : tI) => h_I z I1 ∧ h_F [(13, 5), (13, 3), (13, 4), (13, 7), (13, 6), (13, 8), (13, 9), (1310, 999)] z I0 I1 ∧ (0 ≤ r.toInt ∧ r.toInt ≤ 1) ∧ (r.toInt = 0 ∨ (I0 a0 6).toInt < (I1 a0 6).toInt) ∧ (r.toInt = 0 ∨ ((I1 a0 3).toInt = 1 → 0 ≤ (I1 a0 4).toInt)) ∧ (r.toInt = 0 ∨ h_ok (I1 (h_ad z a0 10)) 10) ∧ (∀ k : Nat, (k < 160 ∨ 176 ≤ k) → I1 (h_ad z a0 10) k = I0 (h_ad z a0 10) k)) (fun (I1 : tI) t => h_B E A z I1 L0 t) A) ([.ref a0, .int x] : List Value).toArray s 0 0 A) (F0 m 139 ls []) := by
              intro n
              induction n with
              | zero => intro I14 H locs ls g hI hF hl hx139_0 hx139_1 hx139_2 hx139_3 hx139_4 hn; exact absurd hn (by omega)
              | succ n ih139 =>
                intro I14 H locs ls g hI hF hl hx139_0 hx139_1 hx139_2 hx139_3 hx139_4 hn
                obtain ⟨v15, ev15⟩ : ∃ v : Int32, v = I14 a0 3 := ⟨_, rfl⟩
                rw [← ev15] at hx139_1
                have jv15 := hI.rd a0 3 t_a0 ev15 (rfl : h_bd 13 3 = ((-2147483648), 2147483647))
                obtain ⟨v16, ev16⟩ : ∃ v : Int32, v = I14 a0 6 := ⟨_, rfl⟩
                rw [← ev16] at hx139_0 hx139_1 hn
                have jv16 := hI.rd a0 6 t_a0 ev16 (rfl : h_bd 13 6 = (0, 500))
                refine lv_aload_n hx hb dX12_readLine_139 rfl (lv_at hl 0 rfl) ?_
                refine h_get (v := .ref lw) hx hb hts iX12 hown g t_a0 (by decide) so_13 rfl 10 (by decide) (hts (.fieldLink RX12 17 "CapLeagueModel" "laws" "[I") (by decide +kernel)) rfl dX12_readLine_140 (by show va_rf (z.R a0 10) = _; rw [rlw]; rfl) ?_
                refine lv_sipush (v := 168) hx hb dX12_readLine_143 (by decide) ?_
                refine h_ald hx hb g tlw (by decide) so_1310 (by unfold vp_in; decide) dX12_readLine_146 ?_
                refine lv_topi (fun v17 ev17 => ?_)
                have kv17 := h_lwr hI tlw (k := 168) (by decide) ev17 (by omega)
                have jv17 : -2147483648 ≤ v17.toInt ∧ v17.toInt ≤ 2147483647 := ⟨xi_lo _, Int.le_of_lt_add_one (xi_hi _)⟩
                have mv17 : 0 ≤ v17.toInt ∧ v17.toInt ≤ 7 := by omega
                have nv17 : (I14 lw 168).toInt = v17.toInt := congrArg Int32.toInt (show I14 lw 168 = v17 from ev17.symm)
                refine lv_istore (lv' := [(4, .int v17), (0, .ref a0)]) hx hb dX12_readLine_147 hl (by decide) rfl (fun ls hl => ?_)
                refine lv_aload_n hx hb dX12_readLine_149 rfl (lv_at hl 1 rfl) ?_
                refine h_get (v := .int v15) hx hb hts iX12 hown g t_a0 (by decide) so_13 rfl 3 (by decide) (hts (.fieldLink RX12 146 "CapLeagueModel" "sort" "I") (by decide +kernel)) rfl dX12_readLine_150 (congrArg Value.int (ev15.symm)) ?_
                refine lv_iconst (v := 2) hx hb dX12_readLine_153 (by decide) ?_
                refine lv_icmp_ne (tgt := 170) hx hb dX12_readLine_154 (by decide) (fun c18 => ?_) (fun c18 => ?_)
                · have ic18 := (xi_ne c18 rfl (by decide) : v15.toInt ≠ 2)
                  refine lv_aload_n hx hb dX12_readLine_170 rfl (lv_at hl 1 rfl) ?_
                  refine lv_bipush (v := 9) hx hb dX12_readLine_171 (by decide) ?_
                  refine lv_iload hx hb dX12_readLine_173 (lv_at hl 0 rfl) ?_
                  refine lv_iadd hx hb dX12_readLine_175 ?_
                  refine lv_topi (fun v19 ev19 => ?_)
                  have jv19 : v19.toInt = 9 + v17.toInt := xi_add ev19 (by decide) rfl (by omega) (by omega)
                  refine lv_iconst (v := 1) hx hb dX12_readLine_176 (by decide) ?_
                  refine lv_bipush (v := 20) hx hb dX12_readLine_177 (by decide) ?_
                  refine va_calli (va_runV (As := [.int v19, .int 1, .int 20]) (rest := []) ⟨hx, hb, hml, hown, hts⟩ (tX12_number9 l E X A z I14 L0 a0 t_a0 v19 (v19.toInt) rfl (by omega) 1 (1) (by decide) (by omega) 20 (20) (by decide) (by omega)) (cwV 3 hts gX12_readLine_X12_number rfl rfl rfl (by decide +kernel) ⟨Nat.le_of_ble_eq_true rfl, Nat.le_of_ble_eq_true rfl⟩) ⟨h_blind _ _ _ _ _ _ _, h_recv g t_a0 (by decide) so_13 (q := (RX12, TX12, 51)) rfl, h_pre _ hE hk hX hA hI hR g⟩ rfl rfl hl.1 rfl (lv_room (Nat.le_of_ble_eq_true rfl)) dX12_readLine_179 ⟨Nat.le_of_ble_eq_true rfl, Nat.le_of_ble_eq_true rfl⟩) g.2.1 (fun q _ h => h) (fun q h => h) (fun rh20 I21 t H1 locs ht hvm h20 hB hz1 hk1 hS => ?_)
                  obtain ⟨hI, fh20, h20⟩ := h20
                  replace g := h_after g hB ht hS
                  generalize H1 = H at g
                  clear hB hk1 hz1 ht hvm hS
                  have hF := hF.call fh20 rfl
                  obtain ⟨h20, h20p0, h20p1, h20p2, h20p3, h20p4, h20p5⟩ := h20
                  rw [alw] at h20p4
                  simp only [alw] at h20p5
                  rw [show I14 a0 3 = v15 from ev15.symm] at h20p0
                  rw [show I14 a0 6 = v16 from ev16.symm] at h20p2
                  rw [show I14 a0 6 = v16 from ev16.symm] at h20p3
                  obtain ⟨v22, ev22⟩ : ∃ v : Int32, v = I21 a0 3 := ⟨_, rfl⟩
                  have jv22 := hI.rd a0 3 t_a0 ev22 (rfl : h_bd 13 3 = ((-2147483648), 2147483647))
                  rw [← ev22] at h20p1
                  rw [← ev22] at h20p3
                  obtain ⟨v23, ev23⟩ : ∃ v : Int32, v = I21 a0 4 := ⟨_, rfl⟩
                  have jv23 := hI.rd a0 4 t_a0 ev23 (rfl : h_bd 13 4 = ((-1), 60))
                  rw [← ev23] at h20p1
                  obtain ⟨v24, ev24⟩ : ∃ v : Int32, v = I21 a0 6 := ⟨_, rfl⟩
                  have jv24 := hI.rd a0 6 t_a0 ev24 (rfl : h_bd 13 6 = (0, 500))
                  rw [← ev24] at h20p2
                  rw [← ev24] at h20p3
                  refine lv_istore_n (lv' := [(3, .int rh20), (4, .int v17), (0, .ref a0)]) hx hb dX12_readLine_182 rfl hl (by decide) rfl (fun ls hl => ?_)
                  refine lv_aload_n hx hb dX12_readLine_183 rfl (lv_at hl 2 rfl) ?_
                  refine h_get (v := .ref lw) hx hb hts iX12 hown g t_a0 (by decide) so_13 rfl 10 (by decide) (hts (.fieldLink RX12 17 "CapLeagueModel" "laws" "[I") (by decide +kernel)) rfl dX12_readLine_184 (by show va_rf (z.R a0 10) = _; rw [rlw]; rfl) ?_
                  refine lv_sipush (v := 168) hx hb dX12_readLine_187 (by decide) ?_
                  refine lv_iload hx hb dX12_readLine_190 (lv_at hl 1 rfl) ?_
                  refine lv_iconst (v := 1) hx hb dX12_readLine_192 (by decide) ?_
                  refine lv_iadd hx hb dX12_readLine_193 ?_
                  refine lv_topi (fun v25 ev25 => ?_)
                  have jv25 : v25.toInt = v17.toInt + 1 := xi_add ev25 rfl (by decide) (by omega) (by omega)
                  refine h_ast hx hb g tlw (by decide) so_1310 (by unfold vp_in; decide) dX12_readLine_194 (fun I26 H locs eI26 g => ?_)
                  have hI := h_lww hI eI26 tlw (k := 168) (by decide) (by omega) (by omega) (by omega)
                  have hF := hF.wr eI26 tlw rfl
                  refine lv_iload_n hx hb dX12_readLine_195 rfl (lv_at hl 0 rfl) ?_
                  refine lv_if_eq (tgt := 207) hx hb dX12_readLine_196 (by decide) (fun c27 => ?_) (fun c27 => ?_)
                  · have ic27 := (xi_eq c27 rfl (by decide) : rh20.toInt = 0)
                    refine lv_iload_n hx hb dX12_readLine_207 rfl (lv_at hl 0 rfl) ?_
                    refine lv_if_ne (tgt := 213) hx hb dX12_readLine_208 (by decide) (fun h => absurd (xi_ne h rfl (by decide) : rh20.toInt ≠ 0) (by omega)) (fun c28 => ?_)
                    have ic28 := (xi_eq c28 rfl (by decide) : rh20.toInt = 0)
                    refine lv_iconst (v := 0) hx hb dX12_readLine_211 (by decide) ?_
                    have hS := g.2.1
                    exact W.zret (v := 0) hx hb hr (by decide) (fun t ht hW => ⟨⟨0, I26, rfl, ⟨hI, hF, ⟨⟨(by decide), (by decide)⟩, (by have qr : (0 : Int32).toInt = 0 := (by decide); have q1_6 : (I26 a0 6).toInt = v24.toInt := (congrArg Int32.toInt ((h_n1 eI26 t_a0 tlw (by decide)).trans (ev24.symm))).trans rfl; omega), (by have qr : (0 : Int32).toInt = 0 := (by decide); have q1_3 : (I26 a0 3).toInt = v22.toInt := (congrArg Int32.toInt ((h_n1 eI26 t_a0 tlw (by decide)).trans (ev22.symm))).trans rfl; have q1_4 : (I26 a0 4).toInt = v23.toInt := (congrArg Int32.toInt ((h_n1 eI26 t_a0 tlw (by decide)).trans (ev23.symm))).trans rfl; omega), (by left; decide), (by rw [alw]; exact fun k hk => (h_n2 eI26 (h_kne (t := 168) (by decide) (by omega) (by omega))).trans ((h20p4 k (by omega)).trans (hx139_3 k (by omega))))⟩⟩, h_ret g ht⟩, hS.F ht⟩) hS.2.2 dX12_readLine_212
                  · have ic27 := (xi_ne c27 rfl (by decide) : rh20.toInt ≠ 0)
                    refine lv_aload_n hx hb dX12_readLine_199 rfl (lv_at hl 2 rfl) ?_
                    refine h_get (v := .int v22) hx hb hts iX12 hown g t_a0 (by decide) so_13 rfl 3 (by decide) (hts (.fieldLink RX12 146 "CapLeagueModel" "sort" "I") (by decide +kernel)) rfl dX12_readLine_200 (congrArg Value.int ((h_n1 eI26 t_a0 tlw (by decide)).trans (ev22.symm))) ?_
                    refine lv_iconst (v := 2) hx hb dX12_readLine_203 (by decide) ?_
                    refine lv_icmp_eq (tgt := 139) hx hb dX12_readLine_204 (by decide) (fun c29 => ?_) (fun c29 => ?_)
                    · have ic29 := (xi_eq c29 rfl (by decide) : v22.toInt = 2)
                      have k30 : (I26 a0 3).toInt = v22.toInt := (congrArg Int32.toInt ((h_n1 eI26 t_a0 tlw (by decide)).trans (ev22.symm))).trans rfl
                      have k31 : (I26 a0 6).toInt = v24.toInt := (congrArg Int32.toInt ((h_n1 eI26 t_a0 tlw (by decide)).trans (ev24.symm))).trans rfl
                      exact ih139 I26 _ _ _ g hI hF (lv_sub hl [2] rfl) (by omega) (by omega) (h_ok_push (f := I14 lw) (f1 := I21 lw) (n := v17.toInt) (hx139_2) nv17 (by omega) (fun k hk => h20p4 k (by omega)) (fun k hk => (h20p5 k (by omega)).resolve_left (by omega)) (show (I26 lw 168).toInt = _ from by rw [show I26 lw 168 = v25 from h_n0 eI26]; omega) (fun k hk => h_n2 eI26 hk)) (fun k hk => (h_n2 eI26 (h_kne (t := 168) (by decide) (by omega) (by omega))).trans ((h20p4 k (by omega)).trans (hx139_3 k (by omega)))) (by rw [show I26 lw 168 = v25 from h_n0 eI26]; omega) (by omega)
                    · have ic29 := (xi_ne c29 rfl (by decide) : v22.toInt ≠ 2)
                      refine lv_iload_n hx hb dX12_readLine_207 rfl (lv_at hl 0 rfl) ?_
                      refine lv_if_ne (tgt := 213) hx hb dX12_readLine_208 (by decide) (fun c32 => ?_) (fun h => absurd (xi_eq h rfl (by decide) : rh20.toInt = 0) (by omega))
                      have ic32 := (xi_ne c32 rfl (by decide) : rh20.toInt ≠ 0)
                      refine lv_aload_n hx hb dX12_readLine_213 rfl (lv_at hl 2 rfl) ?_
                      refine h_get (v := .int v22) hx hb hts iX12 hown g t_a0 (by decide) so_13 rfl 3 (by decide) (hts (.fieldLink RX12 146 "CapLeagueModel" "sort" "I") (by decide +kernel)) rfl dX12_readLine_214 (congrArg Value.int ((h_n1 eI26 t_a0 tlw (by decide)).trans (ev22.symm))) ?_
                      refine lv_iconst (v := 3) hx hb dX12_readLine_217 (by decide) ?_
                      refine lv_icmp_eq (tgt := 227) hx hb dX12_readLine_218 (by decide) (fun c33 => ?_) (fun c33 => ?_)
                      · have ic33 := (xi_eq c33 rfl (by decide) : v22.toInt = 3)
                        refine lv_aload_n hx hb dX12_readLine_227 rfl (lv_at hl 2 rfl) ?_
                        refine va_callv (va_runV (As := []) (rest := []) ⟨hx, hb, hml, hown, hts⟩ (tX12_scan l E X A z I26 L0 a0 t_a0) (cwV 0 hts gX12_readLine_X12_scan rfl rfl rfl (by decide +kernel) ⟨Nat.le_of_ble_eq_true rfl, Nat.le_of_ble_eq_true rfl⟩) ⟨h_blind _ _ _ _ _ _ _, h_recv g t_a0 (by decide) so_13 (q := (RX12, TX12, 51)) rfl, h_pre _ hE hk hX hA hI hR g⟩ rfl rfl hl.1 rfl (lv_room (Nat.le_of_ble_eq_true rfl)) dX12_readLine_228 ⟨Nat.le_of_ble_eq_true rfl, Nat.le_of_ble_eq_true rfl⟩) g.2.1 (fun q _ h => h) (fun q h => h) (fun I35 t H1 locs ht hvm h34 hB hz1 hk1 hS => ?_)
                        obtain ⟨hI, fh34, h34⟩ := h34
                        replace g := h_after g hB ht hS
                        generalize H1 = H at g
                        clear hB hk1 hz1 ht hvm hS
                        have hF := hF.call fh34 rfl
                        obtain ⟨h34p0, h34p1, h34p2⟩ := h34
                        rw [show I26 a0 6 = v24 from (h_n1 eI26 t_a0 tlw (by decide)).trans (ev24.symm)] at h34p1
                        rw [show I26 a0 6 = v24 from (h_n1 eI26 t_a0 tlw (by decide)).trans (ev24.symm)] at h34p2
                        obtain ⟨v36, ev36⟩ : ∃ v : Int32, v = I35 a0 3 := ⟨_, rfl⟩
                        have jv36 := hI.rd a0 3 t_a0 ev36 (rfl : h_bd 13 3 = ((-2147483648), 2147483647))
                        rw [← ev36] at h34p0
                        rw [← ev36] at h34p2
                        obtain ⟨v37, ev37⟩ : ∃ v : Int32, v = I35 a0 4 := ⟨_, rfl⟩
                        have jv37 := hI.rd a0 4 t_a0 ev37 (rfl : h_bd 13 4 = ((-1), 60))
                        rw [← ev37] at h34p0
                        obtain ⟨v38, ev38⟩ : ∃ v : Int32, v = I35 a0 6 := ⟨_, rfl⟩
                        have jv38 := hI.rd a0 6 t_a0 ev38 (rfl : h_bd 13 6 = (0, 500))
                        rw [← ev38] at h34p1
                        rw [← ev38] at h34p2
                        refine lv_iconst (v := 1) hx hb dX12_readLine_231 (by decide) ?_
                        have hS := g.2.1
                        exact W.zret (v := 1) hx hb hr (by decide) (fun t ht hW => ⟨⟨1, I35, rfl, ⟨hI, hF, ⟨⟨(by decide), (by decide)⟩, (by have qr : (1 : Int32).toInt = 1 := (by decide); have q1_6 : (I35 a0 6).toInt = v38.toInt := (congrArg Int32.toInt (ev38.symm)).trans rfl; omega), (by have qr : (1 : Int32).toInt = 1 := (by decide); have q1_3 : (I35 a0 3).toInt = v36.toInt := (congrArg Int32.toInt (ev36.symm)).trans rfl; have q1_4 : (I35 a0 4).toInt = v37.toInt := (congrArg Int32.toInt (ev37.symm)).trans rfl; omega), (by right; rw [alw]; exact h_ok_same (f := I26 lw) (h_ok_push (f := I14 lw) (f1 := I21 lw) (n := v17.toInt) (hx139_2) nv17 (by omega) (fun k hk => h20p4 k (by omega)) (fun k hk => (h20p5 k (by omega)).resolve_left (by omega)) (show (I26 lw 168).toInt = _ from by rw [show I26 lw 168 = v25 from h_n0 eI26]; omega) (fun k hk => h_n2 eI26 hk)) (fun k hk1 hk2 => h_F.at fh34 tlw rfl)), (by rw [alw]; exact fun k hk => (h_F.at fh34 tlw rfl).trans ((h_n2 eI26 (h_kne (t := 168) (by decide) (by omega) (by omega))).trans ((h20p4 k (by omega)).trans (hx139_3 k (by omega)))))⟩⟩, h_ret g ht⟩, hS.F ht⟩) hS.2.2 dX12_readLine_232
                      · have ic33 := (xi_ne c33 rfl (by decide) : v22.toInt ≠ 3)
                        refine lv_aload_n hx hb dX12_readLine_221 rfl (lv_at hl 2 rfl) ?_
                        refine lv_iconst (v := 1) hx hb dX12_readLine_222 (by decide) ?_
                        refine va_calli (va_runV (As := [.int 1]) (rest := []) ⟨hx, hb, hml, hown, hts⟩ (tX12_fails l E X A z I26 L0 a0 t_a0 1 (1) (by decide)) (cwV 1 hts gX12_readLine_X12_fails rfl rfl rfl (by decide +kernel) ⟨Nat.le_of_ble_eq_true rfl, Nat.le_of_ble_eq_true rfl⟩) ⟨h_blind _ _ _ _ _ _ _, h_recv g t_a0 (by decide) so_13 (q := (RX12, TX12, 51)) rfl, h_pre _ hE hk hX hA hI hR g⟩ rfl rfl hl.1 rfl (lv_room (Nat.le_of_ble_eq_true rfl)) dX12_readLine_223 ⟨Nat.le_of_ble_eq_true rfl, Nat.le_of_ble_eq_true rfl⟩) g.2.1 (fun q _ h => h) (fun q h => h) (fun rh39 I40 t H1 locs ht hvm h39 hB hz1 hk1 hS => ?_)
                        obtain ⟨hI, fh39, h39⟩ := h39
                        replace g := h_after g hB ht hS
                        generalize H1 = H at g
                        clear hB hk1 hz1 ht hvm hS
                        have hF := hF.call fh39 rfl
                        have hS := g.2.1
                        exact W.zret (v := rh39) hx hb hr (h_nb (by omega) (by omega)).1 (fun t ht hW => ⟨⟨rh39, I40, rfl, ⟨hI, hF, ⟨⟨(by omega), (by omega)⟩, (by have q1_6 : (I40 a0 6).toInt = v24.toInt := (congrArg Int32.toInt ((h_F.at fh39 t_a0 rfl).trans ((h_n1 eI26 t_a0 tlw (by decide)).trans (ev24.symm)))).trans rfl; omega), (by have q1_3 : (I40 a0 3).toInt = v22.toInt := (congrArg Int32.toInt ((h_F.at fh39 t_a0 rfl).trans ((h_n1 eI26 t_a0 tlw (by decide)).trans (ev22.symm)))).trans rfl; have q1_4 : (I40 a0 4).toInt = v23.toInt := (congrArg Int32.toInt ((h_F.at fh39 t_a0 rfl).trans ((h_n1 eI26 t_a0 tlw (by decide)).trans (ev23.symm)))).trans rfl; omega), (by left; omega), (by rw [alw]; exact fun k hk => (h_F.at fh39 tlw rfl).trans ((h_n2 eI26 (h_kne (t := 168) (by decide) (by omega) (by omega))).trans ((h20p4 k (by omega)).trans (hx139_3 k (by omega)))))⟩⟩, h_ret g ht⟩, hS.F ht⟩) hS.2.2 dX12_readLine_226
                · have ic18 := (xi_eq c18 rfl (by decide) : v15.toInt = 2)
                  refine lv_iload hx hb dX12_readLine_157 (lv_at hl 0 rfl) ?_
                  refine lv_bipush (v := 6) hx hb dX12_readLine_159 (by decide) ?_
                  refine lv_icmp_ne (tgt := 170) hx hb dX12_readLine_161 (by decide) (fun c41 => ?_) (fun c41 => ?_)
                  · have ic41 := (xi_ne c41 rfl (by decide) : v17.toInt ≠ 6)
                    refine lv_aload_n hx hb dX12_readLine_170 rfl (lv_at hl 1 rfl) ?_
                    refine lv_bipush (v := 9) hx hb dX12_readLine_171 (by decide) ?_
                    refine lv_iload hx hb dX12_readLine_173 (lv_at hl 0 rfl) ?_
                    refine lv_iadd hx hb dX12_readLine_175 ?_
                    refine lv_topi (fun v42 ev42 => ?_)
                    have jv42 : v42.toInt = 9 + v17.toInt := xi_add ev42 (by decide) rfl (by omega) (by omega)
                    refine lv_iconst (v := 1) hx hb dX12_readLine_176 (by decide) ?_
                    refine lv_bipush (v := 20) hx hb dX12_readLine_177 (by decide) ?_
                    refine va_calli (va_runV (As := [.int v42, .int 1, .int 20]) (rest := []) ⟨hx, hb, hml, hown, hts⟩ (tX12_number9 l E X A z I14 L0 a0 t_a0 v42 (v42.toInt) rfl (by omega) 1 (1) (by decide) (by omega) 20 (20) (by decide) (by omega)) (cwV 3 hts gX12_readLine_X12_number rfl rfl rfl (by decide +kernel) ⟨Nat.le_of_ble_eq_true rfl, Nat.le_of_ble_eq_true rfl⟩) ⟨h_blind _ _ _ _ _ _ _, h_recv g t_a0 (by decide) so_13 (q := (RX12, TX12, 51)) rfl, h_pre _ hE hk hX hA hI hR g⟩ rfl rfl hl.1 rfl (lv_room (Nat.le_of_ble_eq_true rfl)) dX12_readLine_179 ⟨Nat.le_of_ble_eq_true rfl, Nat.le_of_ble_eq_true rfl⟩) g.2.1 (fun q _ h => h) (fun q h => h) (fun rh43 I44 t H1 locs ht hvm h43 hB hz1 hk1 hS => ?_)
                    obtain ⟨hI, fh43, h43⟩ := h43
                    replace g := h_after g hB ht hS
                    generalize H1 = H at g
                    clear hB hk1 hz1 ht hvm hS
                    have hF := hF.call fh43 rfl
                    obtain ⟨h43, h43p0, h43p1, h43p2, h43p3, h43p4, h43p5⟩ := h43
                    rw [alw] at h43p4
                    simp only [alw] at h43p5
                    rw [show I14 a0 3 = v15 from ev15.symm] at h43p0
                    rw [show I14 a0 6 = v16 from ev16.symm] at h43p2
                    rw [show I14 a0 6 = v16 from ev16.symm] at h43p3
                    obtain ⟨v45, ev45⟩ : ∃ v : Int32, v = I44 a0 3 := ⟨_, rfl⟩
                    have jv45 := hI.rd a0 3 t_a0 ev45 (rfl : h_bd 13 3 = ((-2147483648), 2147483647))
                    rw [← ev45] at h43p1
                    rw [← ev45] at h43p3
                    obtain ⟨v46, ev46⟩ : ∃ v : Int32, v = I44 a0 4 := ⟨_, rfl⟩
                    have jv46 := hI.rd a0 4 t_a0 ev46 (rfl : h_bd 13 4 = ((-1), 60))
                    rw [← ev46] at h43p1
                    obtain ⟨v47, ev47⟩ : ∃ v : Int32, v = I44 a0 6 := ⟨_, rfl⟩
                    have jv47 := hI.rd a0 6 t_a0 ev47 (rfl : h_bd 13 6 = (0, 500))
                    rw [← ev47] at h43p2
                    rw [← ev47] at h43p3
                    refine lv_istore_n (lv' := [(3, .int rh43), (4, .int v17), (0, .ref a0)]) hx hb dX12_readLine_182 rfl hl (by decide) rfl (fun ls hl => ?_)
                    refine lv_aload_n hx hb dX12_readLine_183 rfl (lv_at hl 2 rfl) ?_
                    refine h_get (v := .ref lw) hx hb hts iX12 hown g t_a0 (by decide) so_13 rfl 10 (by decide) (hts (.fieldLink RX12 17 "CapLeagueModel" "laws" "[I") (by decide +kernel)) rfl dX12_readLine_184 (by show va_rf (z.R a0 10) = _; rw [rlw]; rfl) ?_
                    refine lv_sipush (v := 168) hx hb dX12_readLine_187 (by decide) ?_
                    refine lv_iload hx hb dX12_readLine_190 (lv_at hl 1 rfl) ?_
                    refine lv_iconst (v := 1) hx hb dX12_readLine_192 (by decide) ?_
                    refine lv_iadd hx hb dX12_readLine_193 ?_
                    refine lv_topi (fun v48 ev48 => ?_)
                    have jv48 : v48.toInt = v17.toInt + 1 := xi_add ev48 rfl (by decide) (by omega) (by omega)
                    refine h_ast hx hb g tlw (by decide) so_1310 (by unfold vp_in; decide) dX12_readLine_194 (fun I49 H locs eI49 g => ?_)
                    have hI := h_lww hI eI49 tlw (k := 168) (by decide) (by omega) (by omega) (by omega)
                    have hF := hF.wr eI49 tlw rfl
                    refine lv_iload_n hx hb dX12_readLine_195 rfl (lv_at hl 0 rfl) ?_
                    refine lv_if_eq (tgt := 207) hx hb dX12_readLine_196 (by decide) (fun c50 => ?_) (fun c50 => ?_)
                    · have ic50 := (xi_eq c50 rfl (by decide) : rh43.toInt = 0)
                      refine lv_iload_n hx hb dX12_readLine_207 rfl (lv_at hl 0 rfl) ?_
                      refine lv_if_ne (tgt := 213) hx hb dX12_readLine_208 (by decide) (fun h => absurd (xi_ne h rfl (by decide) : rh43.toInt ≠ 0) (by omega)) (fun c51 => ?_)
                      have ic51 := (xi_eq c51 rfl (by decide) : rh43.toInt = 0)
                      refine lv_iconst (v := 0) hx hb dX12_readLine_211 (by decide) ?_
                      have hS := g.2.1
                      exact W.zret (v := 0) hx hb hr (by decide) (fun t ht hW => ⟨⟨0, I49, rfl, ⟨hI, hF, ⟨⟨(by decide), (by decide)⟩, (by have qr : (0 : Int32).toInt = 0 := (by decide); have q1_6 : (I49 a0 6).toInt = v47.toInt := (congrArg Int32.toInt ((h_n1 eI49 t_a0 tlw (by decide)).trans (ev47.symm))).trans rfl; omega), (by have qr : (0 : Int32).toInt = 0 := (by decide); have q1_3 : (I49 a0 3).toInt = v45.toInt := (congrArg Int32.toInt ((h_n1 eI49 t_a0 tlw (by decide)).trans (ev45.symm))).trans rfl; have q1_4 : (I49 a0 4).toInt = v46.toInt := (congrArg Int32.toInt ((h_n1 eI49 t_a0 tlw (by decide)).trans (ev46.symm))).trans rfl; omega), (by left; decide), (by rw [alw]; exact fun k hk => (h_n2 eI49 (h_kne (t := 168) (by decide) (by omega) (by omega))).trans ((h43p4 k (by omega)).trans (hx139_3 k (by omega))))⟩⟩, h_ret g ht⟩, hS.F ht⟩) hS.2.2 dX12_readLine_212
                    · have ic50 := (xi_ne c50 rfl (by decide) : rh43.toInt ≠ 0)
                      refine lv_aload_n hx hb dX12_readLine_199 rfl (lv_at hl 2 rfl) ?_
                      refine h_get (v := .int v45) hx hb hts iX12 hown g t_a0 (by decide) so_13 rfl 3 (by decide) (hts (.fieldLink RX12 146 "CapLeagueModel" "sort" "I") (by decide +kernel)) rfl dX12_readLine_200 (congrArg Value.int ((h_n1 eI49 t_a0 tlw (by decide)).trans (ev45.symm))) ?_
                      refine lv_iconst (v := 2) hx hb dX12_readLine_203 (by decide) ?_
                      refine lv_icmp_eq (tgt := 139) hx hb dX12_readLine_204 (by decide) (fun c52 => ?_) (fun c52 => ?_)
                      · have ic52 := (xi_eq c52 rfl (by decide) : v45.toInt = 2)
                        have k53 : (I49 a0 3).toInt = v45.toInt := (congrArg Int32.toInt ((h_n1 eI49 t_a0 tlw (by decide)).trans (ev45.symm))).trans rfl
                        have k54 : (I49 a0 6).toInt = v47.toInt := (congrArg Int32.toInt ((h_n1 eI49 t_a0 tlw (by decide)).trans (ev47.symm))).trans rfl
                        exact ih139 I49 _ _ _ g hI hF (lv_sub hl [2] rfl) (by omega) (by omega) (h_ok_push (f := I14 lw) (f1 := I44 lw) (n := v17.toInt) (hx139_2) nv17 (by omega) (fun k hk => h43p4 k (by omega)) (fun k hk => (h43p5 k (by omega)).resolve_left (by omega)) (show (I49 lw 168).toInt = _ from by rw [show I49 lw 168 = v48 from h_n0 eI49]; omega) (fun k hk => h_n2 eI49 hk)) (fun k hk => (h_n2 eI49 (h_kne (t := 168) (by decide) (by omega) (by omega))).trans ((h43p4 k (by omega)).trans (hx139_3 k (by omega)))) (by rw [show I49 lw 168 = v48 from h_n0 eI49]; omega) (by omega)
                      · have ic52 := (xi_ne c52 rfl (by decide) : v45.toInt ≠ 2)
                        refine lv_iload_n hx hb dX12_readLine_207 rfl (lv_at hl 0 rfl) ?_
                        refine lv_if_ne (tgt := 213) hx hb dX12_readLine_208 (by decide) (fun c55 => ?_) (fun h => absurd (xi_eq h rfl (by decide) : rh43.toInt = 0) (by omega))
                        have ic55 := (xi_ne c55 rfl (by decide) : rh43.toInt ≠ 0)
                        refine lv_aload_n hx hb dX12_readLine_213 rfl (lv_at hl 2 rfl) ?_
                        refine h_get (v := .int v45) hx hb hts iX12 hown g t_a0 (by decide) so_13 rfl 3 (by decide) (hts (.fieldLink RX12 146 "CapLeagueModel" "sort" "I") (by decide +kernel)) rfl dX12_readLine_214 (congrArg Value.int ((h_n1 eI49 t_a0 tlw (by decide)).trans (ev45.symm))) ?_
                        refine lv_iconst (v := 3) hx hb dX12_readLine_217 (by decide) ?_
                        refine lv_icmp_eq (tgt := 227) hx hb dX12_readLine_218 (by decide) (fun c56 => ?_) (fun c56 => ?_)
                        · have ic56 := (xi_eq c56 rfl (by decide) : v45.toInt = 3)
                          refine lv_aload_n hx hb dX12_readLine_227 rfl (lv_at hl 2 rfl) ?_
                          refine va_callv (va_runV (As := []) (rest := []) ⟨hx, hb, hml, hown, hts⟩ (tX12_scan l E X A z I49 L0 a0 t_a0) (cwV 0 hts gX12_readLine_X12_scan rfl rfl rfl (by decide +kernel) ⟨Nat.le_of_ble_eq_true rfl, Nat.le_of_ble_eq_true rfl⟩) ⟨h_blind _ _ _ _ _ _ _, h_recv g t_a0 (by decide) so_13 (q := (RX12, TX12, 51)) rfl, h_pre _ hE hk hX hA hI hR g⟩ rfl rfl hl.1 rfl (lv_room (Nat.le_of_ble_eq_true rfl)) dX12_readLine_228 ⟨Nat.le_of_ble_eq_true rfl, Nat.le_of_ble_eq_true rfl⟩) g.2.1 (fun q _ h => h) (fun q h => h) (fun I58 t H1 locs ht hvm h57 hB hz1 hk1 hS => ?_)
                          obtain ⟨hI, fh57, h57⟩ := h57
                          replace g := h_after g hB ht hS
                          generalize H1 = H at g
                          clear hB hk1 hz1 ht hvm hS
                          have hF := hF.call fh57 rfl
                          obtain ⟨h57p0, h57p1, h57p2⟩ := h57
                          rw [show I49 a0 6 = v47 from (h_n1 eI49 t_a0 tlw (by decide)).trans (ev47.symm)] at h57p1
                          rw [show I49 a0 6 = v47 from (h_n1 eI49 t_a0 tlw (by decide)).trans (ev47.symm)] at h57p2
                          obtain ⟨v59, ev59⟩ : ∃ v : Int32, v = I58 a0 3 := ⟨_, rfl⟩
                          have jv59 := hI.rd a0 3 t_a0 ev59 (rfl : h_bd 13 3 = ((-2147483648), 2147483647))
                          rw [← ev59] at h57p0
                          rw [← ev59] at h57p2
                          obtain ⟨v60, ev60⟩ : ∃ v : Int32, v = I58 a0 4 := ⟨_, rfl⟩
                          have jv60 := hI.rd a0 4 t_a0 ev60 (rfl : h_bd 13 4 = ((-1), 60))
                          rw [← ev60] at h57p0
                          obtain ⟨v61, ev61⟩ : ∃ v : Int32, v = I58 a0 6 := ⟨_, rfl⟩
                          have jv61 := hI.rd a0 6 t_a0 ev61 (rfl : h_bd 13 6 = (0, 500))
                          rw [← ev61] at h57p1
                          rw [← ev61] at h57p2
                          refine lv_iconst (v := 1) hx hb dX12_readLine_231 (by decide) ?_
                          have hS := g.2.1
                          exact W.zret (v := 1) hx hb hr (by decide) (fun t ht hW => ⟨⟨1, I58, rfl, ⟨hI, hF, ⟨⟨(by decide), (by decide)⟩, (by have qr : (1 : Int32).toInt = 1 := (by decide); have q1_6 : (I58 a0 6).toInt = v61.toInt := (congrArg Int32.toInt (ev61.symm)).trans rfl; omega), (by have qr : (1 : Int32).toInt = 1 := (by decide); have q1_3 : (I58 a0 3).toInt = v59.toInt := (congrArg Int32.toInt (ev59.symm)).trans rfl; have q1_4 : (I58 a0 4).toInt = v60.toInt := (congrArg Int32.toInt (ev60.symm)).trans rfl; omega), (by right; rw [alw]; exact h_ok_same (f := I49 lw) (h_ok_push (f := I14 lw) (f1 := I44 lw) (n := v17.toInt) (hx139_2) nv17 (by omega) (fun k hk => h43p4 k (by omega)) (fun k hk => (h43p5 k (by omega)).resolve_left (by omega)) (show (I49 lw 168).toInt = _ from by rw [show I49 lw 168 = v48 from h_n0 eI49]; omega) (fun k hk => h_n2 eI49 hk)) (fun k hk1 hk2 => h_F.at fh57 tlw rfl)), (by rw [alw]; exact fun k hk => (h_F.at fh57 tlw rfl).trans ((h_n2 eI49 (h_kne (t := 168) (by decide) (by omega) (by omega))).trans ((h43p4 k (by omega)).trans (hx139_3 k (by omega)))))⟩⟩, h_ret g ht⟩, hS.F ht⟩) hS.2.2 dX12_readLine_232
                        · have ic56 := (xi_ne c56 rfl (by decide) : v45.toInt ≠ 3)
                          refine lv_aload_n hx hb dX12_readLine_221 rfl (lv_at hl 2 rfl) ?_
                          refine lv_iconst (v := 1) hx hb dX12_readLine_222 (by decide) ?_
                          refine va_calli (va_runV (As := [.int 1]) (rest := []) ⟨hx, hb, hml, hown, hts⟩ (tX12_fails l E X A z I49 L0 a0 t_a0 1 (1) (by decide)) (cwV 1 hts gX12_readLine_X12_fails rfl rfl rfl (by decide +kernel) ⟨Nat.le_of_ble_eq_true rfl, Nat.le_of_ble_eq_true rfl⟩) ⟨h_blind _ _ _ _ _ _ _, h_recv g t_a0 (by decide) so_13 (q := (RX12, TX12, 51)) rfl, h_pre _ hE hk hX hA hI hR g⟩ rfl rfl hl.1 rfl (lv_room (Nat.le_of_ble_eq_true rfl)) dX12_readLine_223 ⟨Nat.le_of_ble_eq_true rfl, Nat.le_of_ble_eq_true rfl⟩) g.2.1 (fun q _ h => h) (fun q h => h) (fun rh62 I63 t H1 locs ht hvm h62 hB hz1 hk1 hS => ?_)
                          obtain ⟨hI, fh62, h62⟩ := h62
                          replace g := h_after g hB ht hS
                          generalize H1 = H at g
                          clear hB hk1 hz1 ht hvm hS
                          have hF := hF.call fh62 rfl
                          have hS := g.2.1
                          exact W.zret (v := rh62) hx hb hr (h_nb (by omega) (by omega)).1 (fun t ht hW => ⟨⟨rh62, I63, rfl, ⟨hI, hF, ⟨⟨(by omega), (by omega)⟩, (by have q1_6 : (I63 a0 6).toInt = v47.toInt := (congrArg Int32.toInt ((h_F.at fh62 t_a0 rfl).trans ((h_n1 eI49 t_a0 tlw (by decide)).trans (ev47.symm)))).trans rfl; omega), (by have q1_3 : (I63 a0 3).toInt = v45.toInt := (congrArg Int32.toInt ((h_F.at fh62 t_a0 rfl).trans ((h_n1 eI49 t_a0 tlw (by decide)).trans (ev45.symm)))).trans rfl; have q1_4 : (I63 a0 4).toInt = v46.toInt := (congrArg Int32.toInt ((h_F.at fh62 t_a0 rfl).trans ((h_n1 eI49 t_a0 tlw (by decide)).trans (ev46.symm)))).trans rfl; omega), (by left; omega), (by rw [alw]; exact fun k hk => (h_F.at fh62 tlw rfl).trans ((h_n2 eI49 (h_kne (t := 168) (by decide) (by omega) (by omega))).trans ((h43p4 k (by omega)).trans (hx139_3 k (by omega)))))⟩⟩, h_ret g ht⟩, hS.F ht⟩) hS.2.2 dX12_readLine_226
                  · have ic41 := (xi_eq c41 rfl (by decide) : v17.toInt = 6)
                    refine lv_aload_n hx hb dX12_readLine_164 rfl (lv_at hl 1 rfl) ?_
                    refine lv_iconst (v := 1) hx hb dX12_readLine_165 (by decide) ?_
                    refine va_calli (va_runV (As := [.int 1]) (rest := []) ⟨hx, hb, hml, hown, hts⟩ (tX12_fails l E X A z I14 L0 a0 t_a0 1 (1) (by decide)) (cwV 1 hts gX12_readLine_X12_fails rfl rfl rfl (by decide +kernel) ⟨Nat.le_of_ble_eq_true rfl, Nat.le_of_ble_eq_true rfl⟩) ⟨h_blind _ _ _ _ _ _ _, h_recv g t_a0 (by decide) so_13 (q := (RX12, TX12, 51)) rfl, h_pre _ hE hk hX hA hI hR g⟩ rfl rfl hl.1 rfl (lv_room (Nat.le_of_ble_eq_true rfl)) dX12_readLine_166 ⟨Nat.le_of_ble_eq_true rfl, Nat.le_of_ble_eq_true rfl⟩) g.2.1 (fun q _ h => h) (fun q h => h) (fun rh64 I65 t H1 locs ht hvm h64 hB hz1 hk1 hS => ?_)
                    obtain ⟨hI, fh64, h64⟩ := h64
                    replace g := h_after g hB ht hS
                    generalize H1 = H at g
                    clear hB hk1 hz1 ht hvm hS
                    have hF := hF.call fh64 rfl
                    have hS := g.2.1
                    exact W.zret (v := rh64) hx hb hr (h_nb (by omega) (by omega)).1 (fun t ht hW => ⟨⟨rh64, I65, rfl, ⟨hI, hF, ⟨⟨(by omega), (by omega)⟩, (by have q1_6 : (I65 a0 6).toInt = v16.toInt := (congrArg Int32.toInt ((h_F.at fh64 t_a0 rfl).trans (ev16.symm))).trans rfl; omega), (by have q1_3 : (I65 a0 3).toInt = v15.toInt := (congrArg Int32.toInt ((h_F.at fh64 t_a0 rfl).trans (ev15.symm))).trans rfl; omega), (by left; omega), (by rw [alw]; exact fun k hk => (h_F.at fh64 tlw rfl).trans (hx139_3 k (by omega)))⟩⟩, h_ret g ht⟩, hS.F ht⟩) hS.2.2 dX12_readLine_169
            have k66 : (I13 a0 3).toInt = v7.toInt := (congrArg Int32.toInt ((h_n1 eI13 t_a0 tlw (by decide)).trans (ev7.symm))).trans rfl
            have k67 : (I13 a0 6).toInt = v9.toInt := (congrArg Int32.toInt ((h_n1 eI13 t_a0 tlw (by decide)).trans (ev9.symm))).trans rfl
            exact loop139_0 _ I13 _ _ _ g hI hF (lv_sub hl [1] rfl) (by omega) (by omega) (h_ok_zero (show (I13 lw 168).toInt = 0 from by rw [show I13 lw 168 = 0 from h_n0 eI13]; decide)) (fun k hk => (h_n2 eI13 (h_kne (t := 168) (by decide) (by omega) (by omega))).trans (h_F.at fh5 tlw rfl)) (by rw [show I13 lw 168 = 0 from h_n0 eI13]; decide) (show (((501 - (I13 a0 6).toInt).toNat : Int)) < (((((501 - (I13 a0 6).toInt).toNat : Int)).toNat + 1 : Nat) : Int) by omega)
          · have ic12 := (xi_nle c12 (by decide) rfl : f0_4.toInt < 7)
            refine lv_aload_n hx hb dX12_readLine_112 rfl (lv_at hl 1 rfl) ?_
            refine lv_iload_n hx hb dX12_readLine_113 rfl (lv_at hl 0 rfl) ?_
            refine lv_iconst (v := 1) hx hb dX12_readLine_114 (by decide) ?_
            refine lv_iadd hx hb dX12_readLine_115 ?_
            refine lv_topi (fun v68 ev68 => ?_)
            have jv68 : v68.toInt = f0_4.toInt + 1 := xi_add ev68 rfl (by decide) (by omega) (by omega)
            refine lv_iconst (v := 0) hx hb dX12_readLine_116 (by decide) ?_
            refine lv_iload_n hx hb dX12_readLine_117 rfl (lv_at hl 0 rfl) ?_
            refine lv_iconst (v := 1) hx hb dX12_readLine_118 (by decide) ?_
            refine lv_iadd hx hb dX12_readLine_119 ?_
            refine xw_i (v := v68) ev68.symm ?_
            refine vp_callSi (W.runS (As := [.int v68]) (rest := [.int 0, .int v68, .ref a0]) ⟨hx, hb, hml, hown, hts⟩ (tX12_high l E X A z I6 L0 v68 (v68.toInt) rfl) (va_cwS 1 hts gX12_readLine_X12_high rfl rfl rfl (by decide +kernel) ⟨Nat.le_of_ble_eq_true rfl, Nat.le_of_ble_eq_true rfl⟩) ⟨h_blind _ _ _ _ _ _ _, h_pre _ hE hk hX hA hI hR g⟩ rfl rfl hl.1 rfl (lv_room (Nat.le_of_ble_eq_true rfl)) dX12_readLine_120 ⟨Nat.le_of_ble_eq_true rfl, Nat.le_of_ble_eq_true rfl⟩) (fun rh69 h69 => ?_)
            have jrh69 : -2147483648 ≤ rh69.toInt ∧ rh69.toInt ≤ 2147483647 := ⟨xi_lo _, Int.le_of_lt_add_one (xi_hi _)⟩
            refine va_calli (va_runV (As := [.int v68, .int 0, .int rh69]) (rest := []) ⟨hx, hb, hml, hown, hts⟩ (tX12_number7 l E X A z I6 L0 a0 t_a0 v68 (v68.toInt) rfl (by omega) 0 (0) (by decide) rh69 (rh69.toInt) rfl) (cwV 3 hts gX12_readLine_X12_number rfl rfl rfl (by decide +kernel) ⟨Nat.le_of_ble_eq_true rfl, Nat.le_of_ble_eq_true rfl⟩) ⟨h_blind _ _ _ _ _ _ _, h_recv g t_a0 (by decide) so_13 (q := (RX12, TX12, 51)) rfl, h_pre _ hE hk hX hA hI hR g⟩ rfl rfl hl.1 rfl (lv_room (Nat.le_of_ble_eq_true rfl)) dX12_readLine_123 ⟨Nat.le_of_ble_eq_true rfl, Nat.le_of_ble_eq_true rfl⟩) g.2.1 (fun q _ h => h) (fun q h => h) (fun rh70 I71 t H1 locs ht hvm h70 hB hz1 hk1 hS => ?_)
            obtain ⟨hI, fh70, h70⟩ := h70
            replace g := h_after g hB ht hS
            generalize H1 = H at g
            clear hB hk1 hz1 ht hvm hS
            have hF := hF.call fh70 rfl
            obtain ⟨h70, h70p0, h70p1, h70p2, h70p3, h70p4⟩ := h70
            rw [alw] at h70p4
            rw [show I6 a0 3 = v7 from ev7.symm] at h70p0
            rw [show I6 a0 6 = v9 from ev9.symm] at h70p2
            rw [show I6 a0 6 = v9 from ev9.symm] at h70p3
            obtain ⟨v72, ev72⟩ : ∃ v : Int32, v = I71 a0 3 := ⟨_, rfl⟩
            have jv72 := hI.rd a0 3 t_a0 ev72 (rfl : h_bd 13 3 = ((-2147483648), 2147483647))
            rw [← ev72] at h70p1
            rw [← ev72] at h70p3
            obtain ⟨v73, ev73⟩ : ∃ v : Int32, v = I71 a0 4 := ⟨_, rfl⟩
            have jv73 := hI.rd a0 4 t_a0 ev73 (rfl : h_bd 13 4 = ((-1), 60))
            rw [← ev73] at h70p1
            obtain ⟨v74, ev74⟩ : ∃ v : Int32, v = I71 a0 6 := ⟨_, rfl⟩
            have jv74 := hI.rd a0 6 t_a0 ev74 (rfl : h_bd 13 6 = (0, 500))
            rw [← ev74] at h70p2
            rw [← ev74] at h70p3
            refine lv_istore_n (lv' := [(3, .int rh70), (2, .int f0_4), (0, .ref a0), (1, .int x)]) hx hb dX12_readLine_126 rfl hl (by decide) rfl (fun ls hl => ?_)
            refine lv_goto (tgt := 207) hx hb dX12_readLine_127 (by decide) ?_
            refine lv_iload_n hx hb dX12_readLine_207 rfl (lv_at hl 0 rfl) ?_
            refine lv_if_ne (tgt := 213) hx hb dX12_readLine_208 (by decide) (fun c75 => ?_) (fun c75 => ?_)
            · have ic75 := (xi_ne c75 rfl (by decide) : rh70.toInt ≠ 0)
              refine lv_aload_n hx hb dX12_readLine_213 rfl (lv_at hl 2 rfl) ?_
              refine h_get (v := .int v72) hx hb hts iX12 hown g t_a0 (by decide) so_13 rfl 3 (by decide) (hts (.fieldLink RX12 146 "CapLeagueModel" "sort" "I") (by decide +kernel)) rfl dX12_readLine_214 (congrArg Value.int (ev72.symm)) ?_
              refine lv_iconst (v := 3) hx hb dX12_readLine_217 (by decide) ?_
              refine lv_icmp_eq (tgt := 227) hx hb dX12_readLine_218 (by decide) (fun c76 => ?_) (fun c76 => ?_)
              · have ic76 := (xi_eq c76 rfl (by decide) : v72.toInt = 3)
                refine lv_aload_n hx hb dX12_readLine_227 rfl (lv_at hl 2 rfl) ?_
                refine va_callv (va_runV (As := []) (rest := []) ⟨hx, hb, hml, hown, hts⟩ (tX12_scan l E X A z I71 L0 a0 t_a0) (cwV 0 hts gX12_readLine_X12_scan rfl rfl rfl (by decide +kernel) ⟨Nat.le_of_ble_eq_true rfl, Nat.le_of_ble_eq_true rfl⟩) ⟨h_blind _ _ _ _ _ _ _, h_recv g t_a0 (by decide) so_13 (q := (RX12, TX12, 51)) rfl, h_pre _ hE hk hX hA hI hR g⟩ rfl rfl hl.1 rfl (lv_room (Nat.le_of_ble_eq_true rfl)) dX12_readLine_228 ⟨Nat.le_of_ble_eq_true rfl, Nat.le_of_ble_eq_true rfl⟩) g.2.1 (fun q _ h => h) (fun q h => h) (fun I78 t H1 locs ht hvm h77 hB hz1 hk1 hS => ?_)
                obtain ⟨hI, fh77, h77⟩ := h77
                replace g := h_after g hB ht hS
                generalize H1 = H at g
                clear hB hk1 hz1 ht hvm hS
                have hF := hF.call fh77 rfl
                obtain ⟨h77p0, h77p1, h77p2⟩ := h77
                rw [show I71 a0 6 = v74 from ev74.symm] at h77p1
                rw [show I71 a0 6 = v74 from ev74.symm] at h77p2
                obtain ⟨v79, ev79⟩ : ∃ v : Int32, v = I78 a0 3 := ⟨_, rfl⟩
                have jv79 := hI.rd a0 3 t_a0 ev79 (rfl : h_bd 13 3 = ((-2147483648), 2147483647))
                rw [← ev79] at h77p0
                rw [← ev79] at h77p2
                obtain ⟨v80, ev80⟩ : ∃ v : Int32, v = I78 a0 4 := ⟨_, rfl⟩
                have jv80 := hI.rd a0 4 t_a0 ev80 (rfl : h_bd 13 4 = ((-1), 60))
                rw [← ev80] at h77p0
                obtain ⟨v81, ev81⟩ : ∃ v : Int32, v = I78 a0 6 := ⟨_, rfl⟩
                have jv81 := hI.rd a0 6 t_a0 ev81 (rfl : h_bd 13 6 = (0, 500))
                rw [← ev81] at h77p1
                rw [← ev81] at h77p2
                refine lv_iconst (v := 1) hx hb dX12_readLine_231 (by decide) ?_
                have hS := g.2.1
                exact W.zret (v := 1) hx hb hr (by decide) (fun t ht hW => ⟨⟨1, I78, rfl, ⟨hI, hF, ⟨⟨(by decide), (by decide)⟩, (by have qr : (1 : Int32).toInt = 1 := (by decide); have q1_6 : (I78 a0 6).toInt = v81.toInt := (congrArg Int32.toInt (ev81.symm)).trans rfl; omega), (by have qr : (1 : Int32).toInt = 1 := (by decide); have q1_3 : (I78 a0 3).toInt = v79.toInt := (congrArg Int32.toInt (ev79.symm)).trans rfl; have q1_4 : (I78 a0 4).toInt = v80.toInt := (congrArg Int32.toInt (ev80.symm)).trans rfl; omega), (by right; rw [alw]; exact h_ok_same (f := I71 lw) (h_ok_same (f := I6 lw) (h_ok_same (f := I0 lw) (hok) (fun k hk1 hk2 => h_F.at fh5 tlw rfl)) (fun k hk1 hk2 => h70p4 k (by omega))) (fun k hk1 hk2 => h_F.at fh77 tlw rfl)), (by rw [alw]; exact fun k hk => (h_F.at fh77 tlw rfl).trans ((h70p4 k (by omega)).trans (h_F.at fh5 tlw rfl)))⟩⟩, h_ret g ht⟩, hS.F ht⟩) hS.2.2 dX12_readLine_232
              · have ic76 := (xi_ne c76 rfl (by decide) : v72.toInt ≠ 3)
                refine lv_aload_n hx hb dX12_readLine_221 rfl (lv_at hl 2 rfl) ?_
                refine lv_iconst (v := 1) hx hb dX12_readLine_222 (by decide) ?_
                refine va_calli (va_runV (As := [.int 1]) (rest := []) ⟨hx, hb, hml, hown, hts⟩ (tX12_fails l E X A z I71 L0 a0 t_a0 1 (1) (by decide)) (cwV 1 hts gX12_readLine_X12_fails rfl rfl rfl (by decide +kernel) ⟨Nat.le_of_ble_eq_true rfl, Nat.le_of_ble_eq_true rfl⟩) ⟨h_blind _ _ _ _ _ _ _, h_recv g t_a0 (by decide) so_13 (q := (RX12, TX12, 51)) rfl, h_pre _ hE hk hX hA hI hR g⟩ rfl rfl hl.1 rfl (lv_room (Nat.le_of_ble_eq_true rfl)) dX12_readLine_223 ⟨Nat.le_of_ble_eq_true rfl, Nat.le_of_ble_eq_true rfl⟩) g.2.1 (fun q _ h => h) (fun q h => h) (fun rh82 I83 t H1 locs ht hvm h82 hB hz1 hk1 hS => ?_)
                obtain ⟨hI, fh82, h82⟩ := h82
                replace g := h_after g hB ht hS
                generalize H1 = H at g
                clear hB hk1 hz1 ht hvm hS
                have hF := hF.call fh82 rfl
                have hS := g.2.1
                exact W.zret (v := rh82) hx hb hr (h_nb (by omega) (by omega)).1 (fun t ht hW => ⟨⟨rh82, I83, rfl, ⟨hI, hF, ⟨⟨(by omega), (by omega)⟩, (by have q1_6 : (I83 a0 6).toInt = v74.toInt := (congrArg Int32.toInt ((h_F.at fh82 t_a0 rfl).trans (ev74.symm))).trans rfl; omega), (by have q1_3 : (I83 a0 3).toInt = v72.toInt := (congrArg Int32.toInt ((h_F.at fh82 t_a0 rfl).trans (ev72.symm))).trans rfl; have q1_4 : (I83 a0 4).toInt = v73.toInt := (congrArg Int32.toInt ((h_F.at fh82 t_a0 rfl).trans (ev73.symm))).trans rfl; omega), (by left; omega), (by rw [alw]; exact fun k hk => (h_F.at fh82 tlw rfl).trans ((h70p4 k (by omega)).trans (h_F.at fh5 tlw rfl)))⟩⟩, h_ret g ht⟩, hS.F ht⟩) hS.2.2 dX12_readLine_226
            · have ic75 := (xi_eq c75 rfl (by decide) : rh70.toInt = 0)
              refine lv_iconst (v := 0) hx hb dX12_readLine_211 (by decide) ?_
              have hS := g.2.1
              exact W.zret (v := 0) hx hb hr (by decide) (fun t ht hW => ⟨⟨0, I71, rfl, ⟨hI, hF, ⟨⟨(by decide), (by decide)⟩, (by have qr : (0 : Int32).toInt = 0 := (by decide); have q1_6 : (I71 a0 6).toInt = v74.toInt := (congrArg Int32.toInt (ev74.symm)).trans rfl; omega), (by have qr : (0 : Int32).toInt = 0 := (by decide); have q1_3 : (I71 a0 3).toInt = v72.toInt := (congrArg Int32.toInt (ev72.symm)).trans rfl; have q1_4 : (I71 a0 4).toInt = v73.toInt := (congrArg Int32.toInt (ev73.symm)).trans rfl; omega), (by left; decide), (by rw [alw]; exact fun k hk => (h70p4 k (by omega)).trans (h_F.at fh5 tlw rfl))⟩⟩, h_ret g ht⟩, hS.F ht⟩) hS.2.2 dX12_readLine_212
        · have ic11 := (xi_eq c11 rfl (by decide) : f0_4.toInt = 4)
          refine lv_aload_n hx hb dX12_readLine_71 rfl (lv_at hl 1 rfl) ?_
          refine lv_iconst (v := 4) hx hb dX12_readLine_72 (by decide) ?_
          refine lv_iconst (v := 0) hx hb dX12_readLine_73 (by decide) ?_
          refine lv_iconst (v := 4) hx hb dX12_readLine_74 (by decide) ?_
          refine vp_callSi (W.runS (As := [.int 4]) (rest := [.int 0, .int 4, .ref a0]) ⟨hx, hb, hml, hown, hts⟩ (tX12_high l E X A z I6 L0 4 (4) (by decide)) (va_cwS 1 hts gX12_readLine_X12_high rfl rfl rfl (by decide +kernel) ⟨Nat.le_of_ble_eq_true rfl, Nat.le_of_ble_eq_true rfl⟩) ⟨h_blind _ _ _ _ _ _ _, h_pre _ hE hk hX hA hI hR g⟩ rfl rfl hl.1 rfl (lv_room (Nat.le_of_ble_eq_true rfl)) dX12_readLine_75 ⟨Nat.le_of_ble_eq_true rfl, Nat.le_of_ble_eq_true rfl⟩) (fun rh84 h84 => ?_)
          have jrh84 : -2147483648 ≤ rh84.toInt ∧ rh84.toInt ≤ 2147483647 := ⟨xi_lo _, Int.le_of_lt_add_one (xi_hi _)⟩
          refine va_calli (va_runV (As := [.int 4, .int 0, .int rh84]) (rest := []) ⟨hx, hb, hml, hown, hts⟩ (tX12_number7 l E X A z I6 L0 a0 t_a0 4 (4) (by decide) (by omega) 0 (0) (by decide) rh84 (rh84.toInt) rfl) (cwV 3 hts gX12_readLine_X12_number rfl rfl rfl (by decide +kernel) ⟨Nat.le_of_ble_eq_true rfl, Nat.le_of_ble_eq_true rfl⟩) ⟨h_blind _ _ _ _ _ _ _, h_recv g t_a0 (by decide) so_13 (q := (RX12, TX12, 51)) rfl, h_pre _ hE hk hX hA hI hR g⟩ rfl rfl hl.1 rfl (lv_room (Nat.le_of_ble_eq_true rfl)) dX12_readLine_78 ⟨Nat.le_of_ble_eq_true rfl, Nat.le_of_ble_eq_true rfl⟩) g.2.1 (fun q _ h => h) (fun q h => h) (fun rh85 I86 t H1 locs ht hvm h85 hB hz1 hk1 hS => ?_)
          obtain ⟨hI, fh85, h85⟩ := h85
          replace g := h_after g hB ht hS
          generalize H1 = H at g
          clear hB hk1 hz1 ht hvm hS
          have hF := hF.call fh85 rfl
          obtain ⟨h85, h85p0, h85p1, h85p2, h85p3, h85p4⟩ := h85
          rw [alw] at h85p4
          rw [show I6 a0 3 = v7 from ev7.symm] at h85p0
          rw [show I6 a0 6 = v9 from ev9.symm] at h85p2
          rw [show I6 a0 6 = v9 from ev9.symm] at h85p3
          obtain ⟨v87, ev87⟩ : ∃ v : Int32, v = I86 a0 3 := ⟨_, rfl⟩
          have jv87 := hI.rd a0 3 t_a0 ev87 (rfl : h_bd 13 3 = ((-2147483648), 2147483647))
          rw [← ev87] at h85p1
          rw [← ev87] at h85p3
          obtain ⟨v88, ev88⟩ : ∃ v : Int32, v = I86 a0 4 := ⟨_, rfl⟩
          have jv88 := hI.rd a0 4 t_a0 ev88 (rfl : h_bd 13 4 = ((-1), 60))
          rw [← ev88] at h85p1
          obtain ⟨v89, ev89⟩ : ∃ v : Int32, v = I86 a0 6 := ⟨_, rfl⟩
          have jv89 := hI.rd a0 6 t_a0 ev89 (rfl : h_bd 13 6 = (0, 500))
          rw [← ev89] at h85p2
          rw [← ev89] at h85p3
          refine lv_if_eq (tgt := 101) hx hb dX12_readLine_81 (by decide) (fun c90 => ?_) (fun c90 => ?_)
          · have ic90 := (xi_eq c90 rfl (by decide) : rh85.toInt = 0)
            refine lv_iconst (v := 0) hx hb dX12_readLine_101 (by decide) ?_
            refine lv_istore_n (lv' := [(3, .int 0), (2, .int f0_4), (0, .ref a0), (1, .int x)]) hx hb dX12_readLine_102 rfl hl (by decide) rfl (fun ls hl => ?_)
            refine lv_goto (tgt := 207) hx hb dX12_readLine_103 (by decide) ?_
            refine lv_iload_n hx hb dX12_readLine_207 rfl (lv_at hl 0 rfl) ?_
            refine lv_if_ne (tgt := 213) hx hb dX12_readLine_208 (by decide) (fun h => absurd (by decide) h) (fun _ => ?_)
            refine lv_iconst (v := 0) hx hb dX12_readLine_211 (by decide) ?_
            have hS := g.2.1
            exact W.zret (v := 0) hx hb hr (by decide) (fun t ht hW => ⟨⟨0, I86, rfl, ⟨hI, hF, ⟨⟨(by decide), (by decide)⟩, (by have qr : (0 : Int32).toInt = 0 := (by decide); have q1_6 : (I86 a0 6).toInt = v89.toInt := (congrArg Int32.toInt (ev89.symm)).trans rfl; omega), (by have qr : (0 : Int32).toInt = 0 := (by decide); have q1_3 : (I86 a0 3).toInt = v87.toInt := (congrArg Int32.toInt (ev87.symm)).trans rfl; have q1_4 : (I86 a0 4).toInt = v88.toInt := (congrArg Int32.toInt (ev88.symm)).trans rfl; omega), (by left; decide), (by rw [alw]; exact fun k hk => (h85p4 k (by omega)).trans (h_F.at fh5 tlw rfl))⟩⟩, h_ret g ht⟩, hS.F ht⟩) hS.2.2 dX12_readLine_212
          · have ic90 := (xi_ne c90 rfl (by decide) : rh85.toInt ≠ 0)
            refine lv_aload_n hx hb dX12_readLine_84 rfl (lv_at hl 1 rfl) ?_
            refine lv_iconst (v := 5) hx hb dX12_readLine_85 (by decide) ?_
            refine lv_iconst (v := 0) hx hb dX12_readLine_86 (by decide) ?_
            refine lv_iconst (v := 5) hx hb dX12_readLine_87 (by decide) ?_
            refine vp_callSi (W.runS (As := [.int 5]) (rest := [.int 0, .int 5, .ref a0]) ⟨hx, hb, hml, hown, hts⟩ (tX12_high l E X A z I86 L0 5 (5) (by decide)) (va_cwS 1 hts gX12_readLine_X12_high rfl rfl rfl (by decide +kernel) ⟨Nat.le_of_ble_eq_true rfl, Nat.le_of_ble_eq_true rfl⟩) ⟨h_blind _ _ _ _ _ _ _, h_pre _ hE hk hX hA hI hR g⟩ rfl rfl hl.1 rfl (lv_room (Nat.le_of_ble_eq_true rfl)) dX12_readLine_88 ⟨Nat.le_of_ble_eq_true rfl, Nat.le_of_ble_eq_true rfl⟩) (fun rh92 h92 => ?_)
            have jrh92 : -2147483648 ≤ rh92.toInt ∧ rh92.toInt ≤ 2147483647 := ⟨xi_lo _, Int.le_of_lt_add_one (xi_hi _)⟩
            refine va_calli (va_runV (As := [.int 5, .int 0, .int rh92]) (rest := []) ⟨hx, hb, hml, hown, hts⟩ (tX12_number7 l E X A z I86 L0 a0 t_a0 5 (5) (by decide) (by omega) 0 (0) (by decide) rh92 (rh92.toInt) rfl) (cwV 3 hts gX12_readLine_X12_number rfl rfl rfl (by decide +kernel) ⟨Nat.le_of_ble_eq_true rfl, Nat.le_of_ble_eq_true rfl⟩) ⟨h_blind _ _ _ _ _ _ _, h_recv g t_a0 (by decide) so_13 (q := (RX12, TX12, 51)) rfl, h_pre _ hE hk hX hA hI hR g⟩ rfl rfl hl.1 rfl (lv_room (Nat.le_of_ble_eq_true rfl)) dX12_readLine_91 ⟨Nat.le_of_ble_eq_true rfl, Nat.le_of_ble_eq_true rfl⟩) g.2.1 (fun q _ h => h) (fun q h => h) (fun rh93 I94 t H1 locs ht hvm h93 hB hz1 hk1 hS => ?_)
            obtain ⟨hI, fh93, h93⟩ := h93
            replace g := h_after g hB ht hS
            generalize H1 = H at g
            clear hB hk1 hz1 ht hvm hS
            have hF := hF.call fh93 rfl
            obtain ⟨h93, h93p0, h93p1, h93p2, h93p3, h93p4⟩ := h93
            rw [alw] at h93p4
            rw [show I86 a0 3 = v87 from ev87.symm] at h93p0
            rw [show I86 a0 6 = v89 from ev89.symm] at h93p2
            rw [show I86 a0 6 = v89 from ev89.symm] at h93p3
            obtain ⟨v95, ev95⟩ : ∃ v : Int32, v = I94 a0 3 := ⟨_, rfl⟩
            have jv95 := hI.rd a0 3 t_a0 ev95 (rfl : h_bd 13 3 = ((-2147483648), 2147483647))
            rw [← ev95] at h93p1
            rw [← ev95] at h93p3
            obtain ⟨v96, ev96⟩ : ∃ v : Int32, v = I94 a0 4 := ⟨_, rfl⟩
            have jv96 := hI.rd a0 4 t_a0 ev96 (rfl : h_bd 13 4 = ((-1), 60))
            rw [← ev96] at h93p1
            obtain ⟨v97, ev97⟩ : ∃ v : Int32, v = I94 a0 6 := ⟨_, rfl⟩
            have jv97 := hI.rd a0 6 t_a0 ev97 (rfl : h_bd 13 6 = (0, 500))
            rw [← ev97] at h93p2
            rw [← ev97] at h93p3
            refine lv_if_eq (tgt := 101) hx hb dX12_readLine_94 (by decide) (fun c98 => ?_) (fun c98 => ?_)
            · have ic98 := (xi_eq c98 rfl (by decide) : rh93.toInt = 0)
              refine lv_iconst (v := 0) hx hb dX12_readLine_101 (by decide) ?_
              refine lv_istore_n (lv' := [(3, .int 0), (2, .int f0_4), (0, .ref a0), (1, .int x)]) hx hb dX12_readLine_102 rfl hl (by decide) rfl (fun ls hl => ?_)
              refine lv_goto (tgt := 207) hx hb dX12_readLine_103 (by decide) ?_
              refine lv_iload_n hx hb dX12_readLine_207 rfl (lv_at hl 0 rfl) ?_
              refine lv_if_ne (tgt := 213) hx hb dX12_readLine_208 (by decide) (fun h => absurd (by decide) h) (fun _ => ?_)
              refine lv_iconst (v := 0) hx hb dX12_readLine_211 (by decide) ?_
              have hS := g.2.1
              exact W.zret (v := 0) hx hb hr (by decide) (fun t ht hW => ⟨⟨0, I94, rfl, ⟨hI, hF, ⟨⟨(by decide), (by decide)⟩, (by have qr : (0 : Int32).toInt = 0 := (by decide); have q1_6 : (I94 a0 6).toInt = v97.toInt := (congrArg Int32.toInt (ev97.symm)).trans rfl; omega), (by have qr : (0 : Int32).toInt = 0 := (by decide); have q1_3 : (I94 a0 3).toInt = v95.toInt := (congrArg Int32.toInt (ev95.symm)).trans rfl; have q1_4 : (I94 a0 4).toInt = v96.toInt := (congrArg Int32.toInt (ev96.symm)).trans rfl; omega), (by left; decide), (by rw [alw]; exact fun k hk => (h93p4 k (by omega)).trans ((h85p4 k (by omega)).trans (h_F.at fh5 tlw rfl)))⟩⟩, h_ret g ht⟩, hS.F ht⟩) hS.2.2 dX12_readLine_212
            · have ic98 := (xi_ne c98 rfl (by decide) : rh93.toInt ≠ 0)
              refine lv_iconst (v := 1) hx hb dX12_readLine_97 (by decide) ?_
              refine lv_goto (tgt := 102) hx hb dX12_readLine_98 (by decide) ?_
              refine lv_istore_n (lv' := [(3, .int 1), (2, .int f0_4), (0, .ref a0), (1, .int x)]) hx hb dX12_readLine_102 rfl hl (by decide) rfl (fun ls hl => ?_)
              refine lv_goto (tgt := 207) hx hb dX12_readLine_103 (by decide) ?_
              refine lv_iload_n hx hb dX12_readLine_207 rfl (lv_at hl 0 rfl) ?_
              refine lv_if_ne (tgt := 213) hx hb dX12_readLine_208 (by decide) (fun _ => ?_) (fun h => absurd h (by decide))
              refine lv_aload_n hx hb dX12_readLine_213 rfl (lv_at hl 2 rfl) ?_
              refine h_get (v := .int v95) hx hb hts iX12 hown g t_a0 (by decide) so_13 rfl 3 (by decide) (hts (.fieldLink RX12 146 "CapLeagueModel" "sort" "I") (by decide +kernel)) rfl dX12_readLine_214 (congrArg Value.int (ev95.symm)) ?_
              refine lv_iconst (v := 3) hx hb dX12_readLine_217 (by decide) ?_
              refine lv_icmp_eq (tgt := 227) hx hb dX12_readLine_218 (by decide) (fun c101 => ?_) (fun c101 => ?_)
              · have ic101 := (xi_eq c101 rfl (by decide) : v95.toInt = 3)
                refine lv_aload_n hx hb dX12_readLine_227 rfl (lv_at hl 2 rfl) ?_
                refine va_callv (va_runV (As := []) (rest := []) ⟨hx, hb, hml, hown, hts⟩ (tX12_scan l E X A z I94 L0 a0 t_a0) (cwV 0 hts gX12_readLine_X12_scan rfl rfl rfl (by decide +kernel) ⟨Nat.le_of_ble_eq_true rfl, Nat.le_of_ble_eq_true rfl⟩) ⟨h_blind _ _ _ _ _ _ _, h_recv g t_a0 (by decide) so_13 (q := (RX12, TX12, 51)) rfl, h_pre _ hE hk hX hA hI hR g⟩ rfl rfl hl.1 rfl (lv_room (Nat.le_of_ble_eq_true rfl)) dX12_readLine_228 ⟨Nat.le_of_ble_eq_true rfl, Nat.le_of_ble_eq_true rfl⟩) g.2.1 (fun q _ h => h) (fun q h => h) (fun I103 t H1 locs ht hvm h102 hB hz1 hk1 hS => ?_)
                obtain ⟨hI, fh102, h102⟩ := h102
                replace g := h_after g hB ht hS
                generalize H1 = H at g
                clear hB hk1 hz1 ht hvm hS
                have hF := hF.call fh102 rfl
                obtain ⟨h102p0, h102p1, h102p2⟩ := h102
                rw [show I94 a0 6 = v97 from ev97.symm] at h102p1
                rw [show I94 a0 6 = v97 from ev97.symm] at h102p2
                obtain ⟨v104, ev104⟩ : ∃ v : Int32, v = I103 a0 3 := ⟨_, rfl⟩
                have jv104 := hI.rd a0 3 t_a0 ev104 (rfl : h_bd 13 3 = ((-2147483648), 2147483647))
                rw [← ev104] at h102p0
                rw [← ev104] at h102p2
                obtain ⟨v105, ev105⟩ : ∃ v : Int32, v = I103 a0 4 := ⟨_, rfl⟩
                have jv105 := hI.rd a0 4 t_a0 ev105 (rfl : h_bd 13 4 = ((-1), 60))
                rw [← ev105] at h102p0
                obtain ⟨v106, ev106⟩ : ∃ v : Int32, v = I103 a0 6 := ⟨_, rfl⟩
                have jv106 := hI.rd a0 6 t_a0 ev106 (rfl : h_bd 13 6 = (0, 500))
                rw [← ev106] at h102p1
                rw [← ev106] at h102p2
                refine lv_iconst (v := 1) hx hb dX12_readLine_231 (by decide) ?_
                have hS := g.2.1
                exact W.zret (v := 1) hx hb hr (by decide) (fun t ht hW => ⟨⟨1, I103, rfl, ⟨hI, hF, ⟨⟨(by decide), (by decide)⟩, (by have qr : (1 : Int32).toInt = 1 := (by decide); have q1_6 : (I103 a0 6).toInt = v106.toInt := (congrArg Int32.toInt (ev106.symm)).trans rfl; omega), (by have qr : (1 : Int32).toInt = 1 := (by decide); have q1_3 : (I103 a0 3).toInt = v104.toInt := (congrArg Int32.toInt (ev104.symm)).trans rfl; have q1_4 : (I103 a0 4).toInt = v105.toInt := (congrArg Int32.toInt (ev105.symm)).trans rfl; omega), (by right; rw [alw]; exact h_ok_same (f := I94 lw) (h_ok_same (f := I86 lw) (h_ok_same (f := I6 lw) (h_ok_same (f := I0 lw) (hok) (fun k hk1 hk2 => h_F.at fh5 tlw rfl)) (fun k hk1 hk2 => h85p4 k (by omega))) (fun k hk1 hk2 => h93p4 k (by omega))) (fun k hk1 hk2 => h_F.at fh102 tlw rfl)), (by rw [alw]; exact fun k hk => (h_F.at fh102 tlw rfl).trans ((h93p4 k (by omega)).trans ((h85p4 k (by omega)).trans (h_F.at fh5 tlw rfl))))⟩⟩, h_ret g ht⟩, hS.F ht⟩) hS.2.2 dX12_readLine_232
              · have ic101 := (xi_ne c101 rfl (by decide) : v95.toInt ≠ 3)
                refine lv_aload_n hx hb dX12_readLine_221 rfl (lv_at hl 2 rfl) ?_
                refine lv_iconst (v := 1) hx hb dX12_readLine_222 (by decide) ?_
                refine va_calli (va_runV (As := [.int 1]) (rest := []) ⟨hx, hb, hml, hown, hts⟩ (tX12_fails l E X A z I94 L0 a0 t_a0 1 (1) (by decide)) (cwV 1 hts gX12_readLine_X12_fails rfl rfl rfl (by decide +kernel) ⟨Nat.le_of_ble_eq_true rfl, Nat.le_of_ble_eq_true rfl⟩) ⟨h_blind _ _ _ _ _ _ _, h_recv g t_a0 (by decide) so_13 (q := (RX12, TX12, 51)) rfl, h_pre _ hE hk hX hA hI hR g⟩ rfl rfl hl.1 rfl (lv_room (Nat.le_of_ble_eq_true rfl)) dX12_readLine_223 ⟨Nat.le_of_ble_eq_true rfl, Nat.le_of_ble_eq_true rfl⟩) g.2.1 (fun q _ h => h) (fun q h => h) (fun rh107 I108 t H1 locs ht hvm h107 hB hz1 hk1 hS => ?_)
                obtain ⟨hI, fh107, h107⟩ := h107
                replace g := h_after g hB ht hS
                generalize H1 = H at g
                clear hB hk1 hz1 ht hvm hS
                have hF := hF.call fh107 rfl
                have hS := g.2.1
                exact W.zret (v := rh107) hx hb hr (h_nb (by omega) (by omega)).1 (fun t ht hW => ⟨⟨rh107, I108, rfl, ⟨hI, hF, ⟨⟨(by omega), (by omega)⟩, (by have q1_6 : (I108 a0 6).toInt = v97.toInt := (congrArg Int32.toInt ((h_F.at fh107 t_a0 rfl).trans (ev97.symm))).trans rfl; omega), (by have q1_3 : (I108 a0 3).toInt = v95.toInt := (congrArg Int32.toInt ((h_F.at fh107 t_a0 rfl).trans (ev95.symm))).trans rfl; have q1_4 : (I108 a0 4).toInt = v96.toInt := (congrArg Int32.toInt ((h_F.at fh107 t_a0 rfl).trans (ev96.symm))).trans rfl; omega), (by left; omega), (by rw [alw]; exact fun k hk => (h_F.at fh107 tlw rfl).trans ((h93p4 k (by omega)).trans ((h85p4 k (by omega)).trans (h_F.at fh5 tlw rfl))))⟩⟩, h_ret g ht⟩, hS.F ht⟩) hS.2.2 dX12_readLine_226
      · have ic10 := (xi_nle c10 (by decide) rfl : f0_4.toInt < 4)
        refine lv_aload_n hx hb dX12_readLine_43 rfl (lv_at hl 1 rfl) ?_
        refine lv_iload_n hx hb dX12_readLine_44 rfl (lv_at hl 0 rfl) ?_
        refine lv_iload_n hx hb dX12_readLine_45 rfl (lv_at hl 0 rfl) ?_
        refine lv_iconst (v := 3) hx hb dX12_readLine_46 (by decide) ?_
        refine lv_icmp_ge (tgt := 54) hx hb dX12_readLine_47 (by decide) (fun c109 => ?_) (fun c109 => ?_)
        · have ic109 := (xi_le c109 (by decide) rfl : 3 ≤ f0_4.toInt)
          refine lv_iconst (v := 0) hx hb dX12_readLine_54 (by decide) ?_
          refine lv_iload_n hx hb dX12_readLine_55 rfl (lv_at hl 0 rfl) ?_
          refine vp_callSi (W.runS (As := [.int f0_4]) (rest := [.int 0, .int f0_4, .ref a0]) ⟨hx, hb, hml, hown, hts⟩ (tX12_high l E X A z I6 L0 f0_4 (f0_4.toInt) rfl) (va_cwS 1 hts gX12_readLine_X12_high rfl rfl rfl (by decide +kernel) ⟨Nat.le_of_ble_eq_true rfl, Nat.le_of_ble_eq_true rfl⟩) ⟨h_blind _ _ _ _ _ _ _, h_pre _ hE hk hX hA hI hR g⟩ rfl rfl hl.1 rfl (lv_room (Nat.le_of_ble_eq_true rfl)) dX12_readLine_56 ⟨Nat.le_of_ble_eq_true rfl, Nat.le_of_ble_eq_true rfl⟩) (fun rh110 h110 => ?_)
          have jrh110 : -2147483648 ≤ rh110.toInt ∧ rh110.toInt ≤ 2147483647 := ⟨xi_lo _, Int.le_of_lt_add_one (xi_hi _)⟩
          refine va_calli (va_runV (As := [.int f0_4, .int 0, .int rh110]) (rest := []) ⟨hx, hb, hml, hown, hts⟩ (tX12_number7 l E X A z I6 L0 a0 t_a0 f0_4 (f0_4.toInt) rfl (by omega) 0 (0) (by decide) rh110 (rh110.toInt) rfl) (cwV 3 hts gX12_readLine_X12_number rfl rfl rfl (by decide +kernel) ⟨Nat.le_of_ble_eq_true rfl, Nat.le_of_ble_eq_true rfl⟩) ⟨h_blind _ _ _ _ _ _ _, h_recv g t_a0 (by decide) so_13 (q := (RX12, TX12, 51)) rfl, h_pre _ hE hk hX hA hI hR g⟩ rfl rfl hl.1 rfl (lv_room (Nat.le_of_ble_eq_true rfl)) dX12_readLine_59 ⟨Nat.le_of_ble_eq_true rfl, Nat.le_of_ble_eq_true rfl⟩) g.2.1 (fun q _ h => h) (fun q h => h) (fun rh111 I112 t H1 locs ht hvm h111 hB hz1 hk1 hS => ?_)
          obtain ⟨hI, fh111, h111⟩ := h111
          replace g := h_after g hB ht hS
          generalize H1 = H at g
          clear hB hk1 hz1 ht hvm hS
          have hF := hF.call fh111 rfl
          obtain ⟨h111, h111p0, h111p1, h111p2, h111p3, h111p4⟩ := h111
          rw [alw] at h111p4
          rw [show I6 a0 3 = v7 from ev7.symm] at h111p0
          rw [show I6 a0 6 = v9 from ev9.symm] at h111p2
          rw [show I6 a0 6 = v9 from ev9.symm] at h111p3
          obtain ⟨v113, ev113⟩ : ∃ v : Int32, v = I112 a0 3 := ⟨_, rfl⟩
          have jv113 := hI.rd a0 3 t_a0 ev113 (rfl : h_bd 13 3 = ((-2147483648), 2147483647))
          rw [← ev113] at h111p1
          rw [← ev113] at h111p3
          obtain ⟨v114, ev114⟩ : ∃ v : Int32, v = I112 a0 4 := ⟨_, rfl⟩
          have jv114 := hI.rd a0 4 t_a0 ev114 (rfl : h_bd 13 4 = ((-1), 60))
          rw [← ev114] at h111p1
          obtain ⟨v115, ev115⟩ : ∃ v : Int32, v = I112 a0 6 := ⟨_, rfl⟩
          have jv115 := hI.rd a0 6 t_a0 ev115 (rfl : h_bd 13 6 = (0, 500))
          rw [← ev115] at h111p2
          rw [← ev115] at h111p3
          refine lv_istore_n (lv' := [(3, .int rh111), (2, .int f0_4), (0, .ref a0), (1, .int x)]) hx hb dX12_readLine_62 rfl hl (by decide) rfl (fun ls hl => ?_)
          refine lv_goto (tgt := 207) hx hb dX12_readLine_63 (by decide) ?_
          refine lv_iload_n hx hb dX12_readLine_207 rfl (lv_at hl 0 rfl) ?_
          refine lv_if_ne (tgt := 213) hx hb dX12_readLine_208 (by decide) (fun c116 => ?_) (fun c116 => ?_)
          · have ic116 := (xi_ne c116 rfl (by decide) : rh111.toInt ≠ 0)
            refine lv_aload_n hx hb dX12_readLine_213 rfl (lv_at hl 2 rfl) ?_
            refine h_get (v := .int v113) hx hb hts iX12 hown g t_a0 (by decide) so_13 rfl 3 (by decide) (hts (.fieldLink RX12 146 "CapLeagueModel" "sort" "I") (by decide +kernel)) rfl dX12_readLine_214 (congrArg Value.int (ev113.symm)) ?_
            refine lv_iconst (v := 3) hx hb dX12_readLine_217 (by decide) ?_
            refine lv_icmp_eq (tgt := 227) hx hb dX12_readLine_218 (by decide) (fun c117 => ?_) (fun c117 => ?_)
            · have ic117 := (xi_eq c117 rfl (by decide) : v113.toInt = 3)
              refine lv_aload_n hx hb dX12_readLine_227 rfl (lv_at hl 2 rfl) ?_
              refine va_callv (va_runV (As := []) (rest := []) ⟨hx, hb, hml, hown, hts⟩ (tX12_scan l E X A z I112 L0 a0 t_a0) (cwV 0 hts gX12_readLine_X12_scan rfl rfl rfl (by decide +kernel) ⟨Nat.le_of_ble_eq_true rfl, Nat.le_of_ble_eq_true rfl⟩) ⟨h_blind _ _ _ _ _ _ _, h_recv g t_a0 (by decide) so_13 (q := (RX12, TX12, 51)) rfl, h_pre _ hE hk hX hA hI hR g⟩ rfl rfl hl.1 rfl (lv_room (Nat.le_of_ble_eq_true rfl)) dX12_readLine_228 ⟨Nat.le_of_ble_eq_true rfl, Nat.le_of_ble_eq_true rfl⟩) g.2.1 (fun q _ h => h) (fun q h => h) (fun I119 t H1 locs ht hvm h118 hB hz1 hk1 hS => ?_)
              obtain ⟨hI, fh118, h118⟩ := h118
              replace g := h_after g hB ht hS
              generalize H1 = H at g
              clear hB hk1 hz1 ht hvm hS
              have hF := hF.call fh118 rfl
              obtain ⟨h118p0, h118p1, h118p2⟩ := h118
              rw [show I112 a0 6 = v115 from ev115.symm] at h118p1
              rw [show I112 a0 6 = v115 from ev115.symm] at h118p2
              obtain ⟨v120, ev120⟩ : ∃ v : Int32, v = I119 a0 3 := ⟨_, rfl⟩
              have jv120 := hI.rd a0 3 t_a0 ev120 (rfl : h_bd 13 3 = ((-2147483648), 2147483647))
              rw [← ev120] at h118p0
              rw [← ev120] at h118p2
              obtain ⟨v121, ev121⟩ : ∃ v : Int32, v = I119 a0 4 := ⟨_, rfl⟩
              have jv121 := hI.rd a0 4 t_a0 ev121 (rfl : h_bd 13 4 = ((-1), 60))
              rw [← ev121] at h118p0
              obtain ⟨v122, ev122⟩ : ∃ v : Int32, v = I119 a0 6 := ⟨_, rfl⟩
              have jv122 := hI.rd a0 6 t_a0 ev122 (rfl : h_bd 13 6 = (0, 500))
              rw [← ev122] at h118p1
              rw [← ev122] at h118p2
              refine lv_iconst (v := 1) hx hb dX12_readLine_231 (by decide) ?_
              have hS := g.2.1
              exact W.zret (v := 1) hx hb hr (by decide) (fun t ht hW => ⟨⟨1, I119, rfl, ⟨hI, hF, ⟨⟨(by decide), (by decide)⟩, (by have qr : (1 : Int32).toInt = 1 := (by decide); have q1_6 : (I119 a0 6).toInt = v122.toInt := (congrArg Int32.toInt (ev122.symm)).trans rfl; omega), (by have qr : (1 : Int32).toInt = 1 := (by decide); have q1_3 : (I119 a0 3).toInt = v120.toInt := (congrArg Int32.toInt (ev120.symm)).trans rfl; have q1_4 : (I119 a0 4).toInt = v121.toInt := (congrArg Int32.toInt (ev121.symm)).trans rfl; omega), (by right; rw [alw]; exact h_ok_same (f := I112 lw) (h_ok_same (f := I6 lw) (h_ok_same (f := I0 lw) (hok) (fun k hk1 hk2 => h_F.at fh5 tlw rfl)) (fun k hk1 hk2 => h111p4 k (by omega))) (fun k hk1 hk2 => h_F.at fh118 tlw rfl)), (by rw [alw]; exact fun k hk => (h_F.at fh118 tlw rfl).trans ((h111p4 k (by omega)).trans (h_F.at fh5 tlw rfl)))⟩⟩, h_ret g ht⟩, hS.F ht⟩) hS.2.2 dX12_readLine_232
            · have ic117 := (xi_ne c117 rfl (by decide) : v113.toInt ≠ 3)
              refine lv_aload_n hx hb dX12_readLine_221 rfl (lv_at hl 2 rfl) ?_
              refine lv_iconst (v := 1) hx hb dX12_readLine_222 (by decide) ?_
              refine va_calli (va_runV (As := [.int 1]) (rest := []) ⟨hx, hb, hml, hown, hts⟩ (tX12_fails l E X A z I112 L0 a0 t_a0 1 (1) (by decide)) (cwV 1 hts gX12_readLine_X12_fails rfl rfl rfl (by decide +kernel) ⟨Nat.le_of_ble_eq_true rfl, Nat.le_of_ble_eq_true rfl⟩) ⟨h_blind _ _ _ _ _ _ _, h_recv g t_a0 (by decide) so_13 (q := (RX12, TX12, 51)) rfl, h_pre _ hE hk hX hA hI hR g⟩ rfl rfl hl.1 rfl (lv_room (Nat.le_of_ble_eq_true rfl)) dX12_readLine_223 ⟨Nat.le_of_ble_eq_true rfl, Nat.le_of_ble_eq_true rfl⟩) g.2.1 (fun q _ h => h) (fun q h => h) (fun rh123 I124 t H1 locs ht hvm h123 hB hz1 hk1 hS => ?_)
              obtain ⟨hI, fh123, h123⟩ := h123
              replace g := h_after g hB ht hS
              generalize H1 = H at g
              clear hB hk1 hz1 ht hvm hS
              have hF := hF.call fh123 rfl
              have hS := g.2.1
              exact W.zret (v := rh123) hx hb hr (h_nb (by omega) (by omega)).1 (fun t ht hW => ⟨⟨rh123, I124, rfl, ⟨hI, hF, ⟨⟨(by omega), (by omega)⟩, (by have q1_6 : (I124 a0 6).toInt = v115.toInt := (congrArg Int32.toInt ((h_F.at fh123 t_a0 rfl).trans (ev115.symm))).trans rfl; omega), (by have q1_3 : (I124 a0 3).toInt = v113.toInt := (congrArg Int32.toInt ((h_F.at fh123 t_a0 rfl).trans (ev113.symm))).trans rfl; have q1_4 : (I124 a0 4).toInt = v114.toInt := (congrArg Int32.toInt ((h_F.at fh123 t_a0 rfl).trans (ev114.symm))).trans rfl; omega), (by left; omega), (by rw [alw]; exact fun k hk => (h_F.at fh123 tlw rfl).trans ((h111p4 k (by omega)).trans (h_F.at fh5 tlw rfl)))⟩⟩, h_ret g ht⟩, hS.F ht⟩) hS.2.2 dX12_readLine_226
          · have ic116 := (xi_eq c116 rfl (by decide) : rh111.toInt = 0)
            refine lv_iconst (v := 0) hx hb dX12_readLine_211 (by decide) ?_
            have hS := g.2.1
            exact W.zret (v := 0) hx hb hr (by decide) (fun t ht hW => ⟨⟨0, I112, rfl, ⟨hI, hF, ⟨⟨(by decide), (by decide)⟩, (by have qr : (0 : Int32).toInt = 0 := (by decide); have q1_6 : (I112 a0 6).toInt = v115.toInt := (congrArg Int32.toInt (ev115.symm)).trans rfl; omega), (by have qr : (0 : Int32).toInt = 0 := (by decide); have q1_3 : (I112 a0 3).toInt = v113.toInt := (congrArg Int32.toInt (ev113.symm)).trans rfl; have q1_4 : (I112 a0 4).toInt = v114.toInt := (congrArg Int32.toInt (ev114.symm)).trans rfl; omega), (by left; decide), (by rw [alw]; exact fun k hk => (h111p4 k (by omega)).trans (h_F.at fh5 tlw rfl))⟩⟩, h_ret g ht⟩, hS.F ht⟩) hS.2.2 dX12_readLine_212
        · have ic109 := (xi_nle c109 (by decide) rfl : f0_4.toInt < 3)
          refine lv_iconst (v := 1) hx hb dX12_readLine_50 (by decide) ?_
          refine lv_goto (tgt := 55) hx hb dX12_readLine_51 (by decide) ?_
          refine lv_iload_n hx hb dX12_readLine_55 rfl (lv_at hl 0 rfl) ?_
          refine vp_callSi (W.runS (As := [.int f0_4]) (rest := [.int 1, .int f0_4, .ref a0]) ⟨hx, hb, hml, hown, hts⟩ (tX12_high l E X A z I6 L0 f0_4 (f0_4.toInt) rfl) (va_cwS 1 hts gX12_readLine_X12_high rfl rfl rfl (by decide +kernel) ⟨Nat.le_of_ble_eq_true rfl, Nat.le_of_ble_eq_true rfl⟩) ⟨h_blind _ _ _ _ _ _ _, h_pre _ hE hk hX hA hI hR g⟩ rfl rfl hl.1 rfl (lv_room (Nat.le_of_ble_eq_true rfl)) dX12_readLine_56 ⟨Nat.le_of_ble_eq_true rfl, Nat.le_of_ble_eq_true rfl⟩) (fun rh125 h125 => ?_)
          have jrh125 : -2147483648 ≤ rh125.toInt ∧ rh125.toInt ≤ 2147483647 := ⟨xi_lo _, Int.le_of_lt_add_one (xi_hi _)⟩
          refine va_calli (va_runV (As := [.int f0_4, .int 1, .int rh125]) (rest := []) ⟨hx, hb, hml, hown, hts⟩ (tX12_number7 l E X A z I6 L0 a0 t_a0 f0_4 (f0_4.toInt) rfl (by omega) 1 (1) (by decide) rh125 (rh125.toInt) rfl) (cwV 3 hts gX12_readLine_X12_number rfl rfl rfl (by decide +kernel) ⟨Nat.le_of_ble_eq_true rfl, Nat.le_of_ble_eq_true rfl⟩) ⟨h_blind _ _ _ _ _ _ _, h_recv g t_a0 (by decide) so_13 (q := (RX12, TX12, 51)) rfl, h_pre _ hE hk hX hA hI hR g⟩ rfl rfl hl.1 rfl (lv_room (Nat.le_of_ble_eq_true rfl)) dX12_readLine_59 ⟨Nat.le_of_ble_eq_true rfl, Nat.le_of_ble_eq_true rfl⟩) g.2.1 (fun q _ h => h) (fun q h => h) (fun rh126 I127 t H1 locs ht hvm h126 hB hz1 hk1 hS => ?_)
          obtain ⟨hI, fh126, h126⟩ := h126
          replace g := h_after g hB ht hS
          generalize H1 = H at g
          clear hB hk1 hz1 ht hvm hS
          have hF := hF.call fh126 rfl
          obtain ⟨h126, h126p0, h126p1, h126p2, h126p3, h126p4⟩ := h126
          rw [alw] at h126p4
          rw [show I6 a0 3 = v7 from ev7.symm] at h126p0
          rw [show I6 a0 6 = v9 from ev9.symm] at h126p2
          rw [show I6 a0 6 = v9 from ev9.symm] at h126p3
          obtain ⟨v128, ev128⟩ : ∃ v : Int32, v = I127 a0 3 := ⟨_, rfl⟩
          have jv128 := hI.rd a0 3 t_a0 ev128 (rfl : h_bd 13 3 = ((-2147483648), 2147483647))
          rw [← ev128] at h126p1
          rw [← ev128] at h126p3
          obtain ⟨v129, ev129⟩ : ∃ v : Int32, v = I127 a0 4 := ⟨_, rfl⟩
          have jv129 := hI.rd a0 4 t_a0 ev129 (rfl : h_bd 13 4 = ((-1), 60))
          rw [← ev129] at h126p1
          obtain ⟨v130, ev130⟩ : ∃ v : Int32, v = I127 a0 6 := ⟨_, rfl⟩
          have jv130 := hI.rd a0 6 t_a0 ev130 (rfl : h_bd 13 6 = (0, 500))
          rw [← ev130] at h126p2
          rw [← ev130] at h126p3
          refine lv_istore_n (lv' := [(3, .int rh126), (2, .int f0_4), (0, .ref a0), (1, .int x)]) hx hb dX12_readLine_62 rfl hl (by decide) rfl (fun ls hl => ?_)
          refine lv_goto (tgt := 207) hx hb dX12_readLine_63 (by decide) ?_
          refine lv_iload_n hx hb dX12_readLine_207 rfl (lv_at hl 0 rfl) ?_
          refine lv_if_ne (tgt := 213) hx hb dX12_readLine_208 (by decide) (fun c131 => ?_) (fun c131 => ?_)
          · have ic131 := (xi_ne c131 rfl (by decide) : rh126.toInt ≠ 0)
            refine lv_aload_n hx hb dX12_readLine_213 rfl (lv_at hl 2 rfl) ?_
            refine h_get (v := .int v128) hx hb hts iX12 hown g t_a0 (by decide) so_13 rfl 3 (by decide) (hts (.fieldLink RX12 146 "CapLeagueModel" "sort" "I") (by decide +kernel)) rfl dX12_readLine_214 (congrArg Value.int (ev128.symm)) ?_
            refine lv_iconst (v := 3) hx hb dX12_readLine_217 (by decide) ?_
            refine lv_icmp_eq (tgt := 227) hx hb dX12_readLine_218 (by decide) (fun c132 => ?_) (fun c132 => ?_)
            · have ic132 := (xi_eq c132 rfl (by decide) : v128.toInt = 3)
              refine lv_aload_n hx hb dX12_readLine_227 rfl (lv_at hl 2 rfl) ?_
              refine va_callv (va_runV (As := []) (rest := []) ⟨hx, hb, hml, hown, hts⟩ (tX12_scan l E X A z I127 L0 a0 t_a0) (cwV 0 hts gX12_readLine_X12_scan rfl rfl rfl (by decide +kernel) ⟨Nat.le_of_ble_eq_true rfl, Nat.le_of_ble_eq_true rfl⟩) ⟨h_blind _ _ _ _ _ _ _, h_recv g t_a0 (by decide) so_13 (q := (RX12, TX12, 51)) rfl, h_pre _ hE hk hX hA hI hR g⟩ rfl rfl hl.1 rfl (lv_room (Nat.le_of_ble_eq_true rfl)) dX12_readLine_228 ⟨Nat.le_of_ble_eq_true rfl, Nat.le_of_ble_eq_true rfl⟩) g.2.1 (fun q _ h => h) (fun q h => h) (fun I134 t H1 locs ht hvm h133 hB hz1 hk1 hS => ?_)
              obtain ⟨hI, fh133, h133⟩ := h133
              replace g := h_after g hB ht hS
              generalize H1 = H at g
              clear hB hk1 hz1 ht hvm hS
              have hF := hF.call fh133 rfl
              obtain ⟨h133p0, h133p1, h133p2⟩ := h133
              rw [show I127 a0 6 = v130 from ev130.symm] at h133p1
              rw [show I127 a0 6 = v130 from ev130.symm] at h133p2
              obtain ⟨v135, ev135⟩ : ∃ v : Int32, v = I134 a0 3 := ⟨_, rfl⟩
              have jv135 := hI.rd a0 3 t_a0 ev135 (rfl : h_bd 13 3 = ((-2147483648), 2147483647))
              rw [← ev135] at h133p0
              rw [← ev135] at h133p2
              obtain ⟨v136, ev136⟩ : ∃ v : Int32, v = I134 a0 4 := ⟨_, rfl⟩
              have jv136 := hI.rd a0 4 t_a0 ev136 (rfl : h_bd 13 4 = ((-1), 60))
              rw [← ev136] at h133p0
              obtain ⟨v137, ev137⟩ : ∃ v : Int32, v = I134 a0 6 := ⟨_, rfl⟩
              have jv137 := hI.rd a0 6 t_a0 ev137 (rfl : h_bd 13 6 = (0, 500))
              rw [← ev137] at h133p1
              rw [← ev137] at h133p2
              refine lv_iconst (v := 1) hx hb dX12_readLine_231 (by decide) ?_
              have hS := g.2.1
              exact W.zret (v := 1) hx hb hr (by decide) (fun t ht hW => ⟨⟨1, I134, rfl, ⟨hI, hF, ⟨⟨(by decide), (by decide)⟩, (by have qr : (1 : Int32).toInt = 1 := (by decide); have q1_6 : (I134 a0 6).toInt = v137.toInt := (congrArg Int32.toInt (ev137.symm)).trans rfl; omega), (by have qr : (1 : Int32).toInt = 1 := (by decide); have q1_3 : (I134 a0 3).toInt = v135.toInt := (congrArg Int32.toInt (ev135.symm)).trans rfl; have q1_4 : (I134 a0 4).toInt = v136.toInt := (congrArg Int32.toInt (ev136.symm)).trans rfl; omega), (by right; rw [alw]; exact h_ok_same (f := I127 lw) (h_ok_same (f := I6 lw) (h_ok_same (f := I0 lw) (hok) (fun k hk1 hk2 => h_F.at fh5 tlw rfl)) (fun k hk1 hk2 => h126p4 k (by omega))) (fun k hk1 hk2 => h_F.at fh133 tlw rfl)), (by rw [alw]; exact fun k hk => (h_F.at fh133 tlw rfl).trans ((h126p4 k (by omega)).trans (h_F.at fh5 tlw rfl)))⟩⟩, h_ret g ht⟩, hS.F ht⟩) hS.2.2 dX12_readLine_232
            · have ic132 := (xi_ne c132 rfl (by decide) : v128.toInt ≠ 3)
              refine lv_aload_n hx hb dX12_readLine_221 rfl (lv_at hl 2 rfl) ?_
              refine lv_iconst (v := 1) hx hb dX12_readLine_222 (by decide) ?_
              refine va_calli (va_runV (As := [.int 1]) (rest := []) ⟨hx, hb, hml, hown, hts⟩ (tX12_fails l E X A z I127 L0 a0 t_a0 1 (1) (by decide)) (cwV 1 hts gX12_readLine_X12_fails rfl rfl rfl (by decide +kernel) ⟨Nat.le_of_ble_eq_true rfl, Nat.le_of_ble_eq_true rfl⟩) ⟨h_blind _ _ _ _ _ _ _, h_recv g t_a0 (by decide) so_13 (q := (RX12, TX12, 51)) rfl, h_pre _ hE hk hX hA hI hR g⟩ rfl rfl hl.1 rfl (lv_room (Nat.le_of_ble_eq_true rfl)) dX12_readLine_223 ⟨Nat.le_of_ble_eq_true rfl, Nat.le_of_ble_eq_true rfl⟩) g.2.1 (fun q _ h => h) (fun q h => h) (fun rh138 I139 t H1 locs ht hvm h138 hB hz1 hk1 hS => ?_)
              obtain ⟨hI, fh138, h138⟩ := h138
              replace g := h_after g hB ht hS
              generalize H1 = H at g
              clear hB hk1 hz1 ht hvm hS
              have hF := hF.call fh138 rfl
              have hS := g.2.1
              exact W.zret (v := rh138) hx hb hr (h_nb (by omega) (by omega)).1 (fun t ht hW => ⟨⟨rh138, I139, rfl, ⟨hI, hF, ⟨⟨(by omega), (by omega)⟩, (by have q1_6 : (I139 a0 6).toInt = v130.toInt := (congrArg Int32.toInt ((h_F.at fh138 t_a0 rfl).trans (ev130.symm))).trans rfl; omega), (by have q1_3 : (I139 a0 3).toInt = v128.toInt := (congrArg Int32.toInt ((h_F.at fh138 t_a0 rfl).trans (ev128.symm))).trans rfl; have q1_4 : (I139 a0 4).toInt = v129.toInt := (congrArg Int32.toInt ((h_F.at fh138 t_a0 rfl).trans (ev129.symm))).trans rfl; omega), (by left; omega), (by rw [alw]; exact fun k hk => (h_F.at fh138 tlw rfl).trans ((h126p4 k (by omega)).trans (h_F.at fh5 tlw rfl)))⟩⟩, h_ret g ht⟩, hS.F ht⟩) hS.2.2 dX12_readLine_226
          · have ic131 := (xi_eq c131 rfl (by decide) : rh126.toInt = 0)
            refine lv_iconst (v := 0) hx hb dX12_readLine_211 (by decide) ?_
            have hS := g.2.1
            exact W.zret (v := 0) hx hb hr (by decide) (fun t ht hW => ⟨⟨0, I127, rfl, ⟨hI, hF, ⟨⟨(by decide), (by decide)⟩, (by have qr : (0 : Int32).toInt = 0 := (by decide); have q1_6 : (I127 a0 6).toInt = v130.toInt := (congrArg Int32.toInt (ev130.symm)).trans rfl; omega), (by have qr : (0 : Int32).toInt = 0 := (by decide); have q1_3 : (I127 a0 3).toInt = v128.toInt := (congrArg Int32.toInt (ev128.symm)).trans rfl; have q1_4 : (I127 a0 4).toInt = v129.toInt := (congrArg Int32.toInt (ev129.symm)).trans rfl; omega), (by left; decide), (by rw [alw]; exact fun k hk => (h126p4 k (by omega)).trans (h_F.at fh5 tlw rfl))⟩⟩, h_ret g ht⟩, hS.F ht⟩) hS.2.2 dX12_readLine_212
    · have ic4 := (xi_eq c4 rfl (by decide) : v3.toInt = 1)
      refine lv_aload_n hx hb dX12_readLine_28 rfl (lv_at hl 1 rfl) ?_
      refine lv_iconst (v := 3) hx hb dX12_readLine_29 (by decide) ?_
      refine va_calli (va_runV (As := [.int 3]) (rest := []) ⟨hx, hb, hml, hown, hts⟩ (tX12_fails l E X A z I0 L0 a0 t_a0 3 (3) (by decide)) (cwV 1 hts gX12_readLine_X12_fails rfl rfl rfl (by decide +kernel) ⟨Nat.le_of_ble_eq_true rfl, Nat.le_of_ble_eq_true rfl⟩) ⟨h_blind _ _ _ _ _ _ _, h_recv g t_a0 (by decide) so_13 (q := (RX12, TX12, 51)) rfl, h_pre _ hE hk hX hA hI hR g⟩ rfl rfl hl.1 rfl (lv_room (Nat.le_of_ble_eq_true rfl)) dX12_readLine_30 ⟨Nat.le_of_ble_eq_true rfl, Nat.le_of_ble_eq_true rfl⟩) g.2.1 (fun q _ h => h) (fun q h => h) (fun rh140 I141 t H1 locs ht hvm h140 hB hz1 hk1 hS => ?_)
      obtain ⟨hI, fh140, h140⟩ := h140
      replace g := h_after g hB ht hS
      generalize H1 = H at g
      clear hB hk1 hz1 ht hvm hS
      have hF := hF.call fh140 rfl
      have hS := g.2.1
      exact W.zret (v := rh140) hx hb hr (h_nb (by omega) (by omega)).1 (fun t ht hW => ⟨⟨rh140, I141, rfl, ⟨hI, hF, ⟨⟨(by omega), (by omega)⟩, (by have q1_6 : (I141 a0 6).toInt = f0_6.toInt := (congrArg Int32.toInt ((h_F.at fh140 t_a0 rfl).trans (ef0_6.symm))).trans rfl; omega), (by have q1_3 : (I141 a0 3).toInt = f0_3.toInt := (congrArg Int32.toInt ((h_F.at fh140 t_a0 rfl).trans (ef0_3.symm))).trans rfl; have q1_4 : (I141 a0 4).toInt = f0_4.toInt := (congrArg Int32.toInt ((h_F.at fh140 t_a0 rfl).trans (ef0_4.symm))).trans rfl; omega), (by left; omega), (by rw [alw]; exact fun k hk => h_F.at fh140 tlw rfl)⟩⟩, h_ret g ht⟩, hS.F ht⟩) hS.2.2 dX12_readLine_33
  · have ic1 := (xi_ne c1 rfl (by decide) : f0_3.toInt ≠ 1)
    refine lv_aload_n hx hb dX12_readLine_8 rfl (lv_at hl 0 rfl) ?_
    refine lv_iconst (v := 1) hx hb dX12_readLine_9 (by decide) ?_
    refine va_calli (va_runV (As := [.int 1]) (rest := []) ⟨hx, hb, hml, hown, hts⟩ (tX12_fails l E X A z I0 L0 a0 t_a0 1 (1) (by decide)) (cwV 1 hts gX12_readLine_X12_fails rfl rfl rfl (by decide +kernel) ⟨Nat.le_of_ble_eq_true rfl, Nat.le_of_ble_eq_true rfl⟩) ⟨h_blind _ _ _ _ _ _ _, h_recv g t_a0 (by decide) so_13 (q := (RX12, TX12, 51)) rfl, h_pre _ hE hk hX hA hI hR g⟩ rfl rfl hl.1 rfl (lv_room (Nat.le_of_ble_eq_true rfl)) dX12_readLine_10 ⟨Nat.le_of_ble_eq_true rfl, Nat.le_of_ble_eq_true rfl⟩) g.2.1 (fun q _ h => h) (fun q h => h) (fun rh142 I143 t H1 locs ht hvm h142 hB hz1 hk1 hS => ?_)
    obtain ⟨hI, fh142, h142⟩ := h142
    replace g := h_after g hB ht hS
    generalize H1 = H at g
    clear hB hk1 hz1 ht hvm hS
    have hF := hF.call fh142 rfl
    have hS := g.2.1
    exact W.zret (v := rh142) hx hb hr (h_nb (by omega) (by omega)).1 (fun t ht hW => ⟨⟨rh142, I143, rfl, ⟨hI, hF, ⟨⟨(by omega), (by omega)⟩, (by have q1_6 : (I143 a0 6).toInt = f0_6.toInt := (congrArg Int32.toInt ((h_F.at fh142 t_a0 rfl).trans (ef0_6.symm))).trans rfl; omega), (by have q1_3 : (I143 a0 3).toInt = f0_3.toInt := (congrArg Int32.toInt ((h_F.at fh142 t_a0 rfl).trans (ef0_3.symm))).trans rfl; have q1_4 : (I143 a0 4).toInt = f0_4.toInt := (congrArg Int32.toInt ((h_F.at fh142 t_a0 rfl).trans (ef0_4.symm))).trans rfl; omega), (by left; omega), (by rw [alw]; exact fun k hk => h_F.at fh142 tlw rfl)⟩⟩, h_ret g ht⟩, hS.F ht⟩) hS.2.2 dX12_readLine_13
set_option maxHeartbeats 4000000 in
set_option maxRecDepth 100000 in
theorem tX12_laws (l : Launch) (E : tE) (X : tX) (A : Nat → Prop) (z : tZ) (I0 : tI) (L0 : tL) (a0 : Nat) (t_a0 : z.ty a0 = 13) (y : Int32) (y_t : Int) (h_y : y.toInt = y_t) (hJ : h_J1 (I0 (h_ad z a0 10))) : Met l yX12_laws wsX12_laws ({ frames := 9, cells := 0, slots := 0, locals := 576 }) (va_Pc [.ref a0, .int y] (h_P E X A z I0 L0)) (va_Qi (fun r (I1 : tI) => h_I z I1 ∧ h_F [(13, 5), (13, 3), (13, 4), (13, 7), (13, 6), (13, 8), (13, 9), (1310, 999), (13, 2), (13, 1), (1311, 999)] z I0 I1 ∧ (h_J1 (I1 (h_ad z a0 10)))) (fun (I1 : tI) t => h_B E A z I1 L0 t) A) 0 0 A := by
  refine Met.ofW (cc := cX12_laws) (maxL := 5) (ret := (some .int)) (by decide) rfl ?_
  intro pr_ ev_ s m args below meth cd_ s₁ B hml hv
  obtain ⟨rfl, hE, hk, hX, hA, hK, hI, hR, hB0⟩ := hv
  have g : h_G h_so h_fk E A z I0 L0 s s.heap s.heap [] := ⟨hK, va_S.rf, hB0⟩
  have hF : h_F [(13, 5), (13, 3), (13, 4), (13, 7), (13, 6), (13, 8), (13, 9), (1310, 999), (13, 2), (13, 1), (1311, 999)] z I0 I0 := h_F.rf
  have hx := B.exec
  have hb := B.bytes
  have hr := B.returns
  have hts := atoms_spec (ws := wsX12_laws) B.pre
  have hown : s.vm.findClass RX12 = some m.cls := findClass_of_methodNamed B.named
  have hlocks := B.notSynchronized
  have iX12 : ∀ w ∈ u_ws RX12 TX12 51, w ∈ wsX12_laws := by decide +kernel
  have hl := lv_entry ([.ref a0, .int y]) (n := 5) (Nat.le_of_ble_eq_true rfl)
  rw [lg_entry_eq]
  generalize (lg_sl ([.ref a0, .int y]) ++ List.replicate (5 - (lg_sl ([.ref a0, .int y])).length) Slot.unset).toArray = ls at hl ⊢
  have hl : lv_has ls 5 [(0, .ref a0), (1, .int y)] := hl
  have b_y : -2147483648 ≤ y_t ∧ y_t ≤ 2147483647 := h_y ▸ ⟨xi_lo y, Int.le_of_lt_add_one (xi_hi y)⟩
  obtain ⟨lw, rlw, tlw⟩ := hR.at a0 10 t_a0 (rfl : h_rs 13 10 = some (1310, false)) (by decide)
  have alw : h_ad z a0 10 = lw := h_ad.at rlw
  obtain ⟨f0_12, ef0_12⟩ : ∃ v : Int32, v = I0 a0 12 := ⟨_, rfl⟩
  have qf0_12 : (I0 a0 12).toInt = f0_12.toInt := congrArg Int32.toInt ef0_12.symm
  have jf0_12 := hI.rd a0 12 t_a0 ef0_12 (rfl : h_bd 13 12 = (0, 9))
  rw [alw] at hJ
  refine lv_aload_n hx hb dX12_laws_0 rfl (lv_at hl 0 rfl) ?_
  refine lv_aload_n hx hb dX12_laws_1 rfl (lv_at hl 0 rfl) ?_
  refine h_get (v := .int (I0 a0 1)) hx hb hts iX12 hown g t_a0 (by decide) so_13 rfl 1 (by decide) (hts (.fieldLink RX12 119 "CapLeagueModel" "taped" "I") (by decide +kernel)) rfl dX12_laws_2 rfl ?_
  refine lv_topi (fun v1 ev1 => ?_)
  have jv1 := hI.rd a0 1 t_a0 ev1 (rfl : h_bd 13 1 = (0, 500))
  refine h_putI (ty := .int) (v := v1) hx hb hts iX12 tyX12 tyX12_ok nmX12 hown g t_a0 (by decide) so_13 rfl 2 (by decide) rfl (hts (.fieldLink RX12 122 "CapLeagueModel" "size" "I") (by decide +kernel)) rfl rfl (by decide +kernel) rfl rfl dX12_laws_5 (fun I2 H locs eI2 g => ?_)
  have hI := hI.wr eI2 t_a0 (rfl : h_bd 13 2 = (0, 500)) (by omega) (by omega)
  have hF := hF.wr eI2 t_a0 rfl
  refine lv_aload_n hx hb dX12_laws_8 rfl (lv_at hl 0 rfl) ?_
  refine lv_iconst (v := 0) hx hb dX12_laws_9 (by decide) ?_
  refine h_putI (ty := .int) (v := 0) hx hb hts iX12 tyX12 tyX12_ok nmX12 hown g t_a0 (by decide) so_13 rfl 1 (by decide) rfl (hts (.fieldLink RX12 119 "CapLeagueModel" "taped" "I") (by decide +kernel)) rfl rfl (by decide +kernel) rfl rfl dX12_laws_10 (fun I3 H locs eI3 g => ?_)
  have hI := hI.wr eI3 t_a0 (rfl : h_bd 13 1 = (0, 500)) (by decide) (by decide)
  have hF := hF.wr eI3 t_a0 rfl
  refine lv_iload_n hx hb dX12_laws_13 rfl (lv_at hl 1 rfl) ?_
  refine lv_i2l hx hb dX12_laws_14 rfl ?_
  refine lv_topl (fun v4 ev4 => ?_)
  have jv4 : v4.toInt = y_t := by rw [ev4, xi_64]; exact h_y
  refine lv_aload_n hx hb dX12_laws_15 rfl (lv_at hl 0 rfl) ?_
  refine h_get (v := .int f0_12) hx hb hts iX12 hown g t_a0 (by decide) so_13 rfl 12 (by decide) (hts (.fieldLink RX12 187 "CapLeagueModel" "clock" "I") (by decide +kernel)) rfl dX12_laws_16 (congrArg Value.int ((h_n2 eI3 (by decide)).trans ((h_n2 eI2 (by decide)).trans (ef0_12.symm)))) ?_
  refine lv_i2l hx hb dX12_laws_19 rfl ?_
  refine lv_topl (fun v5 ev5 => ?_)
  have jv5 : v5.toInt = f0_12.toInt := by rw [ev5, xi_64]
  refine lv_ldc2 (v := 9) hx hb hown (hts (.constantLong RX12 190 (9)) (by decide +kernel)) dX12_laws_20 ?_
  refine vp_callSi (W.runS (As := [.long v4, .long v5, .long 9]) (rest := []) ⟨hx, hb, hml, hown, hts⟩ (tX12_in l E X A z I3 L0 v4 (y_t) jv4 v5 (f0_12.toInt) jv5 9 (9) (by decide)) (va_cwS 3 hts gX12_laws_X12_in rfl rfl rfl (by decide +kernel) ⟨Nat.le_of_ble_eq_true rfl, Nat.le_of_ble_eq_true rfl⟩) ⟨h_blind _ _ _ _ _ _ _, h_pre _ hE hk hX hA hI hR g⟩ rfl rfl hl.1 rfl (lv_room (Nat.le_of_ble_eq_true rfl)) dX12_laws_23 ⟨Nat.le_of_ble_eq_true rfl, Nat.le_of_ble_eq_true rfl⟩) (fun rh6 h6 => ?_)
  rcases h6 with ⟨rfl, h6⟩ | ⟨rfl, h6⟩
  · skip
    refine lv_if_ne (tgt := 32) hx hb dX12_laws_26 (by decide) (fun h => absurd (by decide) h) (fun _ => ?_)
    refine lv_bipush (v := (-2)) hx hb dX12_laws_29 (by decide) ?_
    have hS := g.2.1
    exact W.iret (v := (-2)) hx hb hr (fun t ht hW => ⟨⟨(-2), I3, rfl, ⟨hI, hF, (by rw [alw]; exact h_J1_out hJ (fun k hk => (h_n1 eI3 tlw t_a0 (by decide)).trans (h_n1 eI2 tlw t_a0 (by decide))))⟩, h_ret g ht⟩, hS.F ht⟩) hS.2.2 dX12_laws_31
  · skip
    refine lv_if_ne (tgt := 32) hx hb dX12_laws_26 (by decide) (fun _ => ?_) (fun h => absurd h (by decide))
    refine lv_aload_n hx hb dX12_laws_32 rfl (lv_at hl 0 rfl) ?_
    refine lv_iconst (v := 0) hx hb dX12_laws_33 (by decide) ?_
    refine h_putI (ty := .int) (v := 0) hx hb hts iX12 tyX12 tyX12_ok nmX12 hown g t_a0 (by decide) so_13 rfl 8 (by decide) rfl (hts (.fieldLink RX12 166 "CapLeagueModel" "faultKind" "I") (by decide +kernel)) rfl rfl (by decide +kernel) rfl rfl dX12_laws_34 (fun I9 H locs eI9 g => ?_)
    have hI := hI.wr eI9 t_a0 (rfl : h_bd 13 8 = ((-2147483648), 2147483647)) (by decide) (by decide)
    have hF := hF.wr eI9 t_a0 rfl
    refine lv_aload_n hx hb dX12_laws_37 rfl (lv_at hl 0 rfl) ?_
    refine lv_iconst (v := (-1)) hx hb dX12_laws_38 (by decide) ?_
    refine h_putI (ty := .int) (v := (-1)) hx hb hts iX12 tyX12 tyX12_ok nmX12 hown g t_a0 (by decide) so_13 rfl 9 (by decide) rfl (hts (.fieldLink RX12 13 "CapLeagueModel" "faultPlace" "I") (by decide +kernel)) rfl rfl (by decide +kernel) rfl rfl dX12_laws_39 (fun I10 H locs eI10 g => ?_)
    have hI := hI.wr eI10 t_a0 (rfl : h_bd 13 9 = ((-2147483648), 2147483647)) (by decide) (by decide)
    have hF := hF.wr eI10 t_a0 rfl
    refine lv_iconst (v := 0) hx hb dX12_laws_42 (by decide) ?_
    refine lv_istore_n (lv' := [(2, .int 0), (0, .ref a0), (1, .int y)]) hx hb dX12_laws_43 rfl hl (by decide) rfl (fun ls hl => ?_)
    have loop44_0 : ∀ (n : Nat) (I12 : tI) (H : Heap) (locs : List Loc) (ls : Array Slot) (v11 : Int32), h_G h_so h_fk E A z I12 L0 s s.heap H locs → h_I z I12 → h_F [(13, 5), (13, 3), (13, 4), (13, 7), (13, 6), (13, 8), (13, 9), (1310, 999), (13, 2), (13, 1), (1311, 999)] z I0 I12 → lv_has ls 5 [(0, .ref a0), (1, .int y), (2, .int v11)] → (0 ≤ v11.toInt ∧ v11.toInt ≤ 16) → (8 < v11.toInt → (I12 lw 168).toInt = 1) → (9 < v11.toInt → (I12 lw 169).toInt = 1) → (∀ k : Nat, (k < 160 ∨ 176 ≤ k) → I12 lw k = I0 lw k) → (16 - v11.toInt) < (n : Int) → W pr_ l ev_ (headSpec wsX12_laws ({ frames := 9, cells := 0, slots := 0, locals := 576 })).room s m ([.ref a0, .int y] : List Value).toArray below meth cd_ H locs 0 0 (MQ below (va_Qi (fun r (I1 : tI) => h_I z I1 ∧ h_F [(13, 5), (13, 3), (13, 4), (13, 7), (13, 6), (13, 8), (13, 9), (1310, 999), (13, 2), (13, 1), (1311, 999)] z I0 I1 ∧ (h_J1 (I1 (h_ad z a0 10)))) (fun (I1 : tI) t => h_B E A z I1 L0 t) A) ([.ref a0, .int y] : List Value).toArray s 0 0 A) (F0 m 44 ls []) := by
      intro n
      induction n with
      | zero => intro I12 H locs ls v11 g hI hF hl jv11 hx44_0 hx44_1 hx44_2 hn; exact absurd hn (by omega)
      | succ n ih44 =>
        intro I12 H locs ls v11 g hI hF hl jv11 hx44_0 hx44_1 hx44_2 hn
        refine lv_iload_n hx hb dX12_laws_44 rfl (lv_at hl 2 rfl) ?_
        refine lv_bipush (v := 16) hx hb dX12_laws_45 (by decide) ?_
        refine lv_icmp_ge (tgt := 70) hx hb dX12_laws_47 (by decide) (fun c13 => ?_) (fun c13 => ?_)
        · have ic13 := (xi_le c13 (by decide) rfl : 16 ≤ v11.toInt)
          refine lv_aload_n hx hb dX12_laws_70 rfl (lv_at hl 0 rfl) ?_
          refine lv_iconst (v := 0) hx hb dX12_laws_71 (by decide) ?_
          refine h_putI (ty := .int) (v := 0) hx hb hts iX12 tyX12 tyX12_ok nmX12 hown g t_a0 (by decide) so_13 rfl 6 (by decide) rfl (hts (.fieldLink RX12 140 "CapLeagueModel" "end" "I") (by decide +kernel)) rfl rfl (by decide +kernel) rfl rfl dX12_laws_72 (fun I14 H locs eI14 g => ?_)
          have hI := hI.wr eI14 t_a0 (rfl : h_bd 13 6 = (0, 500)) (by decide) (by decide)
          have hF := hF.wr eI14 t_a0 rfl
          refine lv_aload_n hx hb dX12_laws_75 rfl (lv_at hl 0 rfl) ?_
          refine va_callv (va_runV (As := []) (rest := []) ⟨hx, hb, hml, hown, hts⟩ (tX12_scan l E X A z I14 L0 a0 t_a0) (cwV 0 hts gX12_laws_X12_scan rfl rfl rfl (by decide +kernel) ⟨Nat.le_of_ble_eq_true rfl, Nat.le_of_ble_eq_true rfl⟩) ⟨h_blind _ _ _ _ _ _ _, h_recv g t_a0 (by decide) so_13 (q := (RX12, TX12, 51)) rfl, h_pre _ hE hk hX hA hI hR g⟩ rfl rfl hl.1 rfl (lv_room (Nat.le_of_ble_eq_true rfl)) dX12_laws_76 ⟨Nat.le_of_ble_eq_true rfl, Nat.le_of_ble_eq_true rfl⟩) g.2.1 (fun q _ h => h) (fun q h => h) (fun I16 t H1 locs ht hvm h15 hB hz1 hk1 hS => ?_)
          obtain ⟨hI, fh15, h15⟩ := h15
          replace g := h_after g hB ht hS
          generalize H1 = H at g
          clear hB hk1 hz1 ht hvm hS
          have hF := hF.call fh15 rfl
          obtain ⟨h15p0, h15p1, h15p2⟩ := h15
          rw [show I14 a0 6 = 0 from h_n0 eI14] at h15p1
          rw [show (0 : Int32).toInt = 0 by decide] at h15p1
          rw [show I14 a0 6 = 0 from h_n0 eI14] at h15p2
          rw [show (0 : Int32).toInt = 0 by decide] at h15p2
          obtain ⟨v17, ev17⟩ : ∃ v : Int32, v = I16 a0 3 := ⟨_, rfl⟩
          have jv17 := hI.rd a0 3 t_a0 ev17 (rfl : h_bd 13 3 = ((-2147483648), 2147483647))
          rw [← ev17] at h15p0
          rw [← ev17] at h15p2
          obtain ⟨v18, ev18⟩ : ∃ v : Int32, v = I16 a0 4 := ⟨_, rfl⟩
          have jv18 := hI.rd a0 4 t_a0 ev18 (rfl : h_bd 13 4 = ((-1), 60))
          rw [← ev18] at h15p0
          obtain ⟨v19, ev19⟩ : ∃ v : Int32, v = I16 a0 6 := ⟨_, rfl⟩
          have jv19 := hI.rd a0 6 t_a0 ev19 (rfl : h_bd 13 6 = (0, 500))
          rw [← ev19] at h15p1
          rw [← ev19] at h15p2
          refine lv_iconst (v := 0) hx hb dX12_laws_79 (by decide) ?_
          refine lv_istore_n (lv' := [(2, .int 0), (0, .ref a0), (1, .int y)]) hx hb dX12_laws_80 rfl hl (by decide) rfl (fun ls hl => ?_)
          refine lv_iconst (v := 0) hx hb dX12_laws_81 (by decide) ?_
          refine lv_istore_n (lv' := [(3, .int 0), (2, .int 0), (0, .ref a0), (1, .int y)]) hx hb dX12_laws_82 rfl hl (by decide) rfl (fun ls hl => ?_)
          have loop83_1 : ∀ (n : Nat) (I22 : tI) (H : Heap) (locs : List Loc) (ls : Array Slot) (v20 v21 : Int32), h_G h_so h_fk E A z I22 L0 s s.heap H locs → h_I z I22 → h_F [(13, 5), (13, 3), (13, 4), (13, 7), (13, 6), (13, 8), (13, 9), (1310, 999), (13, 2), (13, 1), (1311, 999)] z I0 I22 → lv_has ls 5 [(0, .ref a0), (1, .int y), (2, .int v20), (3, .int v21)] → ((-2147483648) ≤ v20.toInt ∧ v20.toInt ≤ 2147483647) → ((-2147483648) ≤ v21.toInt ∧ v21.toInt ≤ 2147483647) → ((I22 a0 3).toInt = 1 → 0 ≤ (I22 a0 4).toInt) → (h_ok (I22 lw) 10) → (∀ k : Nat, (k < 160 ∨ 176 ≤ k) → I22 lw k = I0 lw k) → (((501 - (I22 a0 6).toInt).toNat : Int)) < (n : Int) → W pr_ l ev_ (headSpec wsX12_laws ({ frames := 9, cells := 0, slots := 0, locals := 576 })).room s m ([.ref a0, .int y] : List Value).toArray below meth cd_ H locs 0 0 (MQ below (va_Qi (fun r (I1 : tI) => h_I z I1 ∧ h_F [(13, 5), (13, 3), (13, 4), (13, 7), (13, 6), (13, 8), (13, 9), (1310, 999), (13, 2), (13, 1), (1311, 999)] z I0 I1 ∧ (h_J1 (I1 (h_ad z a0 10)))) (fun (I1 : tI) t => h_B E A z I1 L0 t) A) ([.ref a0, .int y] : List Value).toArray s 0 0 A) (F0 m 83 ls []) := by
            intro n
            induction n with
            | zero => intro I22 H locs ls v20 v21 g hI hF hl jv20 jv21 hx83_0 hx83_1 hx83_2 hn; exact absurd hn (by omega)
            | succ n ih83 =>
              intro I22 H locs ls v20 v21 g hI hF hl jv20 jv21 hx83_0 hx83_1 hx83_2 hn
              obtain ⟨v23, ev23⟩ : ∃ v : Int32, v = I22 a0 3 := ⟨_, rfl⟩
              rw [← ev23] at hx83_0
              have jv23 := hI.rd a0 3 t_a0 ev23 (rfl : h_bd 13 3 = ((-2147483648), 2147483647))
              obtain ⟨v24, ev24⟩ : ∃ v : Int32, v = I22 a0 4 := ⟨_, rfl⟩
              rw [← ev24] at hx83_0
              have jv24 := hI.rd a0 4 t_a0 ev24 (rfl : h_bd 13 4 = ((-1), 60))
              obtain ⟨v25, ev25⟩ : ∃ v : Int32, v = I22 a0 6 := ⟨_, rfl⟩
              rw [← ev25] at hn
              have jv25 := hI.rd a0 6 t_a0 ev25 (rfl : h_bd 13 6 = (0, 500))
              refine lv_aload_n hx hb dX12_laws_83 rfl (lv_at hl 0 rfl) ?_
              refine h_get (v := .int v23) hx hb hts iX12 hown g t_a0 (by decide) so_13 rfl 3 (by decide) (hts (.fieldLink RX12 146 "CapLeagueModel" "sort" "I") (by decide +kernel)) rfl dX12_laws_84 (congrArg Value.int (ev23.symm)) ?_
              refine lv_iconst (v := 4) hx hb dX12_laws_87 (by decide) ?_
              refine lv_icmp_eq (tgt := 132) hx hb dX12_laws_88 (by decide) (fun c26 => ?_) (fun c26 => ?_)
              · have ic26 := (xi_eq c26 rfl (by decide) : v23.toInt = 4)
                refine lv_iconst (v := 0) hx hb dX12_laws_132 (by decide) ?_
                refine lv_istore (lv' := [(4, .int 0), (0, .ref a0), (1, .int y), (2, .int v20), (3, .int v21)]) hx hb dX12_laws_133 hl (by decide) rfl (fun ls hl => ?_)
                have loop135_2 : ∀ (n : Nat) (I28 : tI) (H : Heap) (locs : List Loc) (ls : Array Slot) (v27 : Int32), h_G h_so h_fk E A z I28 L0 s s.heap H locs → h_I z I28 → h_F [(13, 5), (13, 3), (13, 4), (13, 7), (13, 6), (13, 8), (13, 9), (1310, 999), (13, 2), (13, 1), (1311, 999)] z I0 I28 → lv_has ls 5 [(0, .ref a0), (1, .int y), (3, .int v21), (4, .int v27)] → (0 ≤ v27.toInt ∧ v27.toInt ≤ 16) → (∀ j : Nat, (j : Int) < v27.toInt → I28 lw (16 * y_t.toNat + j) = I28 lw (160 + j)) → (∀ k : Nat, (k < 160 ∨ 176 ≤ k) → (k < 16 * y_t.toNat ∨ 16 * y_t.toNat + 16 ≤ k) → I28 lw k = I0 lw k) → (h_ok (I28 lw) 10) → (16 - v27.toInt) < (n : Int) → W pr_ l ev_ (headSpec wsX12_laws ({ frames := 9, cells := 0, slots := 0, locals := 576 })).room s m ([.ref a0, .int y] : List Value).toArray below meth cd_ H locs 0 0 (MQ below (va_Qi (fun r (I1 : tI) => h_I z I1 ∧ h_F [(13, 5), (13, 3), (13, 4), (13, 7), (13, 6), (13, 8), (13, 9), (1310, 999), (13, 2), (13, 1), (1311, 999)] z I0 I1 ∧ (h_J1 (I1 (h_ad z a0 10)))) (fun (I1 : tI) t => h_B E A z I1 L0 t) A) ([.ref a0, .int y] : List Value).toArray s 0 0 A) (F0 m 135 ls []) := by
                  intro n
                  induction n with
                  | zero => intro I28 H locs ls v27 g hI hF hl jv27 hx135_0 hx135_1 hx135_2 hn; exact absurd hn (by omega)
                  | succ n ih135 =>
                    intro I28 H locs ls v27 g hI hF hl jv27 hx135_0 hx135_1 hx135_2 hn
                    refine lv_iload hx hb dX12_laws_135 (lv_at hl 3 rfl) ?_
                    refine lv_bipush (v := 16) hx hb dX12_laws_137 (by decide) ?_
                    refine lv_icmp_ge (tgt := 171) hx hb dX12_laws_139 (by decide) (fun c29 => ?_) (fun c29 => ?_)
                    · have ic29 := (xi_le c29 (by decide) rfl : 16 ≤ v27.toInt)
                      refine lv_aload_n hx hb dX12_laws_171 rfl (lv_at hl 0 rfl) ?_
                      obtain ⟨b30, rb30, tb30⟩ := hR.at a0 11 t_a0 (rfl : h_rs 13 11 = some (1311, false)) (by decide)
                      refine h_get (v := .ref b30) hx hb hts iX12 hown g t_a0 (by decide) so_13 rfl 11 (by decide) (hts (.fieldLink RX12 21 "CapLeagueModel" "hasLaws" "[Z") (by decide +kernel)) rfl dX12_laws_172 (by show va_rf (z.R a0 11) = _; rw [rb30]; rfl) ?_
                      refine lv_iload_n hx hb dX12_laws_175 rfl (lv_at hl 1 rfl) ?_
                      refine lv_iconst (v := 1) hx hb dX12_laws_176 (by decide) ?_
                      refine h_zast hx hb g tb30 (by decide) so_1311 (xi_in (by rw [h_y]; omega) (by rw [h_y]; omega)) dX12_laws_177 (fun I31 H locs eI31 g => ?_)
                      rw [h_nz (by decide) (by decide)] at eI31
                      have hI := hI.wr eI31 tb30 (rfl : h_bd 1311 _ = (0, 1)) (by decide) (by decide)
                      have hF := hF.wr eI31 tb30 rfl
                      refine lv_iload_n hx hb dX12_laws_178 rfl (lv_at hl 2 rfl) ?_
                      have hS := g.2.1
                      exact W.iret (v := v21) hx hb hr (fun t ht hW => ⟨⟨v21, I31, rfl, ⟨hI, hF, (by rw [alw]; exact h_J1_new (y0 := y_t.toNat) hJ (by omega) (h_ok_same hx135_2 (fun k _ _ => h_n1 eI31 tlw tb30 (by decide))) (fun j hj => (h_n1 eI31 tlw tb30 (by decide)).trans ((hx135_0 j (by omega)).trans (h_n1 eI31 tlw tb30 (by decide)).symm)) (fun k hk hk2 => (h_n1 eI31 tlw tb30 (by decide)).trans (hx135_1 k hk hk2)))⟩, h_ret g ht⟩, hS.F ht⟩) hS.2.2 dX12_laws_179
                    · have ic29 := (xi_nle c29 (by decide) rfl : v27.toInt < 16)
                      refine lv_aload_n hx hb dX12_laws_142 rfl (lv_at hl 0 rfl) ?_
                      refine h_get (v := .ref lw) hx hb hts iX12 hown g t_a0 (by decide) so_13 rfl 10 (by decide) (hts (.fieldLink RX12 17 "CapLeagueModel" "laws" "[I") (by decide +kernel)) rfl dX12_laws_143 (by show va_rf (z.R a0 10) = _; rw [rlw]; rfl) ?_
                      refine lv_bipush (v := 16) hx hb dX12_laws_146 (by decide) ?_
                      refine lv_iload_n hx hb dX12_laws_148 rfl (lv_at hl 1 rfl) ?_
                      refine lv_imul hx hb dX12_laws_149 ?_
                      refine lv_topi (fun v32 ev32 => ?_)
                      have jv32 : v32.toInt = 16 * y_t := xi_mul ev32 (by decide) h_y (by omega) (by omega)
                      refine lv_iload hx hb dX12_laws_150 (lv_at hl 3 rfl) ?_
                      refine lv_iadd hx hb dX12_laws_152 ?_
                      refine lv_topi (fun v33 ev33 => ?_)
                      have jv33 : v33.toInt = v32.toInt + v27.toInt := xi_add ev33 rfl rfl (by omega) (by omega)
                      refine lv_aload_n hx hb dX12_laws_153 rfl (lv_at hl 0 rfl) ?_
                      refine h_get (v := .ref lw) hx hb hts iX12 hown g t_a0 (by decide) so_13 rfl 10 (by decide) (hts (.fieldLink RX12 17 "CapLeagueModel" "laws" "[I") (by decide +kernel)) rfl dX12_laws_154 (by show va_rf (z.R a0 10) = _; rw [rlw]; rfl) ?_
                      refine lv_sipush (v := 160) hx hb dX12_laws_157 (by decide) ?_
                      refine lv_iload hx hb dX12_laws_160 (lv_at hl 3 rfl) ?_
                      refine lv_iadd hx hb dX12_laws_162 ?_
                      refine lv_topi (fun v34 ev34 => ?_)
                      have jv34 : v34.toInt = 160 + v27.toInt := xi_add ev34 (by decide) rfl (by omega) (by omega)
                      refine h_ald hx hb g tlw (by decide) so_1310 (xi_in (by omega) (by omega)) dX12_laws_163 ?_
                      refine lv_topi (fun v35 ev35 => ?_)
                      have kv35 := h_lwr hI tlw (k := v34.toInt) rfl ev35 (by omega)
                      have jv35 : -2147483648 ≤ v35.toInt ∧ v35.toInt ≤ 2147483647 := ⟨xi_lo _, Int.le_of_lt_add_one (xi_hi _)⟩
                      refine h_ast hx hb g tlw (by decide) so_1310 (xi_in (by omega) (by omega)) dX12_laws_164 (fun I36 H locs eI36 g => ?_)
                      have hI := h_lww hI eI36 tlw (k := v33.toInt) rfl (by omega) (by omega) (by omega)
                      have hF := hF.wr eI36 tlw rfl
                      obtain ⟨v37, ev37⟩ : ∃ z : Int32, z = v27 + 1 := ⟨_, rfl⟩
                      have jv37 : v37.toInt = v27.toInt + 1 := xi_add ev37 rfl (by decide) (by omega) (by omega)
                      refine lv_iinc (v := v37) (lv' := [(4, .int v37), (0, .ref a0), (1, .int y), (3, .int v21)]) hx hb dX12_laws_165 hl (k := 3) rfl (by rw [ev37]; rfl) (by decide) rfl (fun ls hl => ?_)
                      refine lv_goto (tgt := 135) hx hb dX12_laws_168 (by decide) ?_
                      exact ih135 I36 _ _ _ v37 g hI hF (lv_sub hl [1, 2, 3, 0] rfl) (by omega) (h_cp eI36 (show v33.toInt = 16 * y_t + v27.toInt from by omega) (by omega) (show v34.toInt = 160 + v27.toInt from by omega) (by omega) (by omega) ev35 hx135_0 (by omega)) (fun k hk hk2 => (h_n2 eI36 (h_kne (t := v33.toInt) rfl (by omega) (by omega))).trans (hx135_1 k hk hk2)) (h_ok_same (f := I28 lw) (hx135_2) (fun k hk1 hk2 => h_n2 eI36 (h_kne (t := v33.toInt) rfl (by omega) (by omega)))) (by omega)
                have kc38 : (0 : Int32).toInt = 0 := by decide
                exact loop135_2 _ I22 _ _ _ (0) g hI hF (lv_sub hl [1, 2, 4, 0] rfl) ⟨by decide, by decide⟩ (fun j hj => absurd hj (by omega)) (fun k hk hk2 => hx83_2 k (by omega)) (hx83_1) (show (16 - (0 : Int)) < (((16 - (0 : Int)).toNat + 1 : Nat) : Int) by omega)
              · have ic26 := (xi_ne c26 rfl (by decide) : v23.toInt ≠ 4)
                refine lv_aload_n hx hb dX12_laws_91 rfl (lv_at hl 0 rfl) ?_
                refine h_get (v := .int v23) hx hb hts iX12 hown g t_a0 (by decide) so_13 rfl 3 (by decide) (hts (.fieldLink RX12 146 "CapLeagueModel" "sort" "I") (by decide +kernel)) rfl dX12_laws_92 (congrArg Value.int (ev23.symm)) ?_
                refine lv_iconst (v := 1) hx hb dX12_laws_95 (by decide) ?_
                refine lv_icmp_ne (tgt := 108) hx hb dX12_laws_96 (by decide) (fun c39 => ?_) (fun c39 => ?_)
                · have ic39 := (xi_ne c39 rfl (by decide) : v23.toInt ≠ 1)
                  refine lv_iconst (v := 0) hx hb dX12_laws_108 (by decide) ?_
                  refine lv_istore (lv' := [(4, .int 0), (0, .ref a0), (1, .int y), (2, .int v20), (3, .int v21)]) hx hb dX12_laws_109 hl (by decide) rfl (fun ls hl => ?_)
                  refine lv_aload_n hx hb dX12_laws_111 rfl (lv_at hl 1 rfl) ?_
                  refine lv_iload_n hx hb dX12_laws_112 rfl (lv_at hl 3 rfl) ?_
                  refine va_calli (va_runV (As := [.int v20]) (rest := []) ⟨hx, hb, hml, hown, hts⟩ (tX12_readLine l E X A z I22 L0 a0 t_a0 v20 (v20.toInt) rfl (by rw [ev23.symm, ev24.symm]; omega) (by rw [alw]; exact hx83_1)) (cwV 1 hts gX12_laws_X12_readLine rfl rfl rfl (by decide +kernel) ⟨Nat.le_of_ble_eq_true rfl, Nat.le_of_ble_eq_true rfl⟩) ⟨h_blind _ _ _ _ _ _ _, h_recv g t_a0 (by decide) so_13 (q := (RX12, TX12, 51)) rfl, h_pre _ hE hk hX hA hI hR g⟩ rfl rfl hl.1 rfl (lv_room (Nat.le_of_ble_eq_true rfl)) dX12_laws_113 ⟨Nat.le_of_ble_eq_true rfl, Nat.le_of_ble_eq_true rfl⟩) g.2.1 (fun q _ h => h) (fun q h => h) (fun rh40 I41 t H1 locs ht hvm h40 hB hz1 hk1 hS => ?_)
                  obtain ⟨hI, fh40, h40⟩ := h40
                  replace g := h_after g hB ht hS
                  generalize H1 = H at g
                  clear hB hk1 hz1 ht hvm hS
                  have hF := hF.call fh40 rfl
                  obtain ⟨h40, h40p0, h40p1, h40p2, h40p3⟩ := h40
                  rw [alw] at h40p2
                  rw [alw] at h40p3
                  rw [show I22 a0 6 = v25 from ev25.symm] at h40p0
                  obtain ⟨v42, ev42⟩ : ∃ v : Int32, v = I41 a0 3 := ⟨_, rfl⟩
                  have jv42 := hI.rd a0 3 t_a0 ev42 (rfl : h_bd 13 3 = ((-2147483648), 2147483647))
                  rw [← ev42] at h40p1
                  obtain ⟨v43, ev43⟩ : ∃ v : Int32, v = I41 a0 4 := ⟨_, rfl⟩
                  have jv43 := hI.rd a0 4 t_a0 ev43 (rfl : h_bd 13 4 = ((-1), 60))
                  rw [← ev43] at h40p1
                  obtain ⟨v44, ev44⟩ : ∃ v : Int32, v = I41 a0 6 := ⟨_, rfl⟩
                  have jv44 := hI.rd a0 6 t_a0 ev44 (rfl : h_bd 13 6 = (0, 500))
                  rw [← ev44] at h40p0
                  refine lv_if_ne (tgt := 121) hx hb dX12_laws_116 (by decide) (fun c45 => ?_) (fun c45 => ?_)
                  · have ic45 := (xi_ne c45 rfl (by decide) : rh40.toInt ≠ 0)
                    refine lv_iload_n hx hb dX12_laws_121 rfl (lv_at hl 3 rfl) ?_
                    refine lv_iload hx hb dX12_laws_122 (lv_at hl 0 rfl) ?_
                    refine lv_ior hx hb dX12_laws_124 ?_
                    refine lv_topi (fun v46 ev46 => ?_)
                    have jv46 : -2147483648 ≤ v46.toInt ∧ v46.toInt ≤ 2147483647 := ⟨xi_lo _, Int.le_of_lt_add_one (xi_hi _)⟩
                    refine lv_istore_n (lv' := [(2, .int v46), (4, .int 0), (0, .ref a0), (1, .int y), (3, .int v21)]) hx hb dX12_laws_125 rfl hl (by decide) rfl (fun ls hl => ?_)
                    obtain ⟨v47, ev47⟩ : ∃ z : Int32, z = v21 + 1 := ⟨_, rfl⟩
                    have jv47 : -2147483648 ≤ v47.toInt ∧ v47.toInt ≤ 2147483647 := ⟨xi_lo _, Int.le_of_lt_add_one (xi_hi _)⟩
                    refine lv_iinc (v := v47) (lv' := [(3, .int v47), (2, .int v46), (4, .int 0), (0, .ref a0), (1, .int y)]) hx hb dX12_laws_126 hl (k := 4) rfl (by rw [ev47]; rfl) (by decide) rfl (fun ls hl => ?_)
                    refine lv_goto (tgt := 83) hx hb dX12_laws_129 (by decide) ?_
                    have k48 : (I41 a0 3).toInt = v42.toInt := (congrArg Int32.toInt (ev42.symm)).trans rfl
                    have k49 : (I41 a0 4).toInt = v43.toInt := (congrArg Int32.toInt (ev43.symm)).trans rfl
                    have k50 : (I41 a0 6).toInt = v44.toInt := (congrArg Int32.toInt (ev44.symm)).trans rfl
                    exact ih83 I41 _ _ _ v46 v47 g hI hF (lv_sub hl [3, 4, 1, 0] rfl) (by omega) (by omega) (by omega) ((h40p2).resolve_left (by omega)) (fun k hk => (h40p3 k (by omega)).trans (hx83_2 k (by omega))) (by omega)
                  · have ic45 := (xi_eq c45 rfl (by decide) : rh40.toInt = 0)
                    refine lv_iconst (v := (-1)) hx hb dX12_laws_119 (by decide) ?_
                    have hS := g.2.1
                    exact W.iret (v := (-1)) hx hb hr (fun t ht hW => ⟨⟨(-1), I41, rfl, ⟨hI, hF, (by rw [alw]; exact h_J1_out hJ (fun k hk => (h40p3 k (by omega)).trans (hx83_2 k (by omega))))⟩, h_ret g ht⟩, hS.F ht⟩) hS.2.2 dX12_laws_120
                · have ic39 := (xi_eq c39 rfl (by decide) : v23.toInt = 1)
                  refine lv_iconst (v := 1) hx hb dX12_laws_99 (by decide) ?_
                  refine lv_aload_n hx hb dX12_laws_100 rfl (lv_at hl 0 rfl) ?_
                  refine h_get (v := .int v24) hx hb hts iX12 hown g t_a0 (by decide) so_13 rfl 4 (by decide) (hts (.fieldLink RX12 157 "CapLeagueModel" "what" "I") (by decide +kernel)) rfl dX12_laws_101 (congrArg Value.int (ev24.symm)) ?_
                  refine lv_ishl hx hb dX12_laws_104 ?_
                  refine lv_topi (fun v51 ev51 => ?_)
                  have jv51 : -2147483648 ≤ v51.toInt ∧ v51.toInt ≤ 2147483647 := ⟨xi_lo _, Int.le_of_lt_add_one (xi_hi _)⟩
                  refine lv_goto (tgt := 109) hx hb dX12_laws_105 (by decide) ?_
                  refine lv_istore (lv' := [(4, .int v51), (0, .ref a0), (1, .int y), (2, .int v20), (3, .int v21)]) hx hb dX12_laws_109 hl (by decide) rfl (fun ls hl => ?_)
                  refine lv_aload_n hx hb dX12_laws_111 rfl (lv_at hl 1 rfl) ?_
                  refine lv_iload_n hx hb dX12_laws_112 rfl (lv_at hl 3 rfl) ?_
                  refine va_calli (va_runV (As := [.int v20]) (rest := []) ⟨hx, hb, hml, hown, hts⟩ (tX12_readLine l E X A z I22 L0 a0 t_a0 v20 (v20.toInt) rfl (by rw [ev23.symm, ev24.symm]; omega) (by rw [alw]; exact hx83_1)) (cwV 1 hts gX12_laws_X12_readLine rfl rfl rfl (by decide +kernel) ⟨Nat.le_of_ble_eq_true rfl, Nat.le_of_ble_eq_true rfl⟩) ⟨h_blind _ _ _ _ _ _ _, h_recv g t_a0 (by decide) so_13 (q := (RX12, TX12, 51)) rfl, h_pre _ hE hk hX hA hI hR g⟩ rfl rfl hl.1 rfl (lv_room (Nat.le_of_ble_eq_true rfl)) dX12_laws_113 ⟨Nat.le_of_ble_eq_true rfl, Nat.le_of_ble_eq_true rfl⟩) g.2.1 (fun q _ h => h) (fun q h => h) (fun rh52 I53 t H1 locs ht hvm h52 hB hz1 hk1 hS => ?_)
                  obtain ⟨hI, fh52, h52⟩ := h52
                  replace g := h_after g hB ht hS
                  generalize H1 = H at g
                  clear hB hk1 hz1 ht hvm hS
                  have hF := hF.call fh52 rfl
                  obtain ⟨h52, h52p0, h52p1, h52p2, h52p3⟩ := h52
                  rw [alw] at h52p2
                  rw [alw] at h52p3
                  rw [show I22 a0 6 = v25 from ev25.symm] at h52p0
                  obtain ⟨v54, ev54⟩ : ∃ v : Int32, v = I53 a0 3 := ⟨_, rfl⟩
                  have jv54 := hI.rd a0 3 t_a0 ev54 (rfl : h_bd 13 3 = ((-2147483648), 2147483647))
                  rw [← ev54] at h52p1
                  obtain ⟨v55, ev55⟩ : ∃ v : Int32, v = I53 a0 4 := ⟨_, rfl⟩
                  have jv55 := hI.rd a0 4 t_a0 ev55 (rfl : h_bd 13 4 = ((-1), 60))
                  rw [← ev55] at h52p1
                  obtain ⟨v56, ev56⟩ : ∃ v : Int32, v = I53 a0 6 := ⟨_, rfl⟩
                  have jv56 := hI.rd a0 6 t_a0 ev56 (rfl : h_bd 13 6 = (0, 500))
                  rw [← ev56] at h52p0
                  refine lv_if_ne (tgt := 121) hx hb dX12_laws_116 (by decide) (fun c57 => ?_) (fun c57 => ?_)
                  · have ic57 := (xi_ne c57 rfl (by decide) : rh52.toInt ≠ 0)
                    refine lv_iload_n hx hb dX12_laws_121 rfl (lv_at hl 3 rfl) ?_
                    refine lv_iload hx hb dX12_laws_122 (lv_at hl 0 rfl) ?_
                    refine lv_ior hx hb dX12_laws_124 ?_
                    refine lv_topi (fun v58 ev58 => ?_)
                    have jv58 : -2147483648 ≤ v58.toInt ∧ v58.toInt ≤ 2147483647 := ⟨xi_lo _, Int.le_of_lt_add_one (xi_hi _)⟩
                    refine lv_istore_n (lv' := [(2, .int v58), (4, .int v51), (0, .ref a0), (1, .int y), (3, .int v21)]) hx hb dX12_laws_125 rfl hl (by decide) rfl (fun ls hl => ?_)
                    obtain ⟨v59, ev59⟩ : ∃ z : Int32, z = v21 + 1 := ⟨_, rfl⟩
                    have jv59 : -2147483648 ≤ v59.toInt ∧ v59.toInt ≤ 2147483647 := ⟨xi_lo _, Int.le_of_lt_add_one (xi_hi _)⟩
                    refine lv_iinc (v := v59) (lv' := [(3, .int v59), (2, .int v58), (4, .int v51), (0, .ref a0), (1, .int y)]) hx hb dX12_laws_126 hl (k := 4) rfl (by rw [ev59]; rfl) (by decide) rfl (fun ls hl => ?_)
                    refine lv_goto (tgt := 83) hx hb dX12_laws_129 (by decide) ?_
                    have k60 : (I53 a0 3).toInt = v54.toInt := (congrArg Int32.toInt (ev54.symm)).trans rfl
                    have k61 : (I53 a0 4).toInt = v55.toInt := (congrArg Int32.toInt (ev55.symm)).trans rfl
                    have k62 : (I53 a0 6).toInt = v56.toInt := (congrArg Int32.toInt (ev56.symm)).trans rfl
                    exact ih83 I53 _ _ _ v58 v59 g hI hF (lv_sub hl [3, 4, 1, 0] rfl) (by omega) (by omega) (by omega) ((h52p2).resolve_left (by omega)) (fun k hk => (h52p3 k (by omega)).trans (hx83_2 k (by omega))) (by omega)
                  · have ic57 := (xi_eq c57 rfl (by decide) : rh52.toInt = 0)
                    refine lv_iconst (v := (-1)) hx hb dX12_laws_119 (by decide) ?_
                    have hS := g.2.1
                    exact W.iret (v := (-1)) hx hb hr (fun t ht hW => ⟨⟨(-1), I53, rfl, ⟨hI, hF, (by rw [alw]; exact h_J1_out hJ (fun k hk => (h52p3 k (by omega)).trans (hx83_2 k (by omega))))⟩, h_ret g ht⟩, hS.F ht⟩) hS.2.2 dX12_laws_120
          have kc63 : (0 : Int32).toInt = 0 := by decide
          have kc64 : (0 : Int32).toInt = 0 := by decide
          have k65 : (I16 a0 3).toInt = v17.toInt := (congrArg Int32.toInt (ev17.symm)).trans rfl
          have k66 : (I16 a0 4).toInt = v18.toInt := (congrArg Int32.toInt (ev18.symm)).trans rfl
          have k67 : (I16 a0 6).toInt = v19.toInt := (congrArg Int32.toInt (ev19.symm)).trans rfl
          exact loop83_1 _ I16 _ _ _ (0) (0) g hI hF (lv_sub hl [2, 3, 1, 0] rfl) ⟨by decide, by decide⟩ ⟨by decide, by decide⟩ (by omega) (h_ok_same (f := I14 lw) (h_ok_same (f := I12 lw) (h_ok_one (hx44_0 (by omega)) (hx44_1 (by omega))) (fun k hk1 hk2 => h_n1 eI14 tlw t_a0 (by decide))) (fun k hk1 hk2 => h_F.at fh15 tlw rfl)) (fun k hk => (h_F.at fh15 tlw rfl).trans ((h_n1 eI14 tlw t_a0 (by decide)).trans (hx44_2 k (by omega)))) (show (((501 - (I16 a0 6).toInt).toNat : Int)) < (((((501 - (I16 a0 6).toInt).toNat : Int)).toNat + 1 : Nat) : Int) by omega)
        · have ic13 := (xi_nle c13 (by decide) rfl : v11.toInt < 16)
          refine lv_aload_n hx hb dX12_laws_50 rfl (lv_at hl 0 rfl) ?_
          refine h_get (v := .ref lw) hx hb hts iX12 hown g t_a0 (by decide) so_13 rfl 10 (by decide) (hts (.fieldLink RX12 17 "CapLeagueModel" "laws" "[I") (by decide +kernel)) rfl dX12_laws_51 (by show va_rf (z.R a0 10) = _; rw [rlw]; rfl) ?_
          refine lv_sipush (v := 160) hx hb dX12_laws_54 (by decide) ?_
          refine lv_iload_n hx hb dX12_laws_57 rfl (lv_at hl 2 rfl) ?_
          refine lv_iadd hx hb dX12_laws_58 ?_
          refine lv_topi (fun v68 ev68 => ?_)
          have jv68 : v68.toInt = 160 + v11.toInt := xi_add ev68 (by decide) rfl (by omega) (by omega)
          refine lv_iload_n hx hb dX12_laws_59 rfl (lv_at hl 2 rfl) ?_
          refine vp_callSi (W.runS (As := [.int v11]) (rest := [.int v68, .ref lw]) ⟨hx, hb, hml, hown, hts⟩ (tX12_plainP l E X A z I12 L0 v11 (v11.toInt) rfl) (va_cwS 1 hts gX12_laws_X12_plain rfl rfl rfl (by decide +kernel) ⟨Nat.le_of_ble_eq_true rfl, Nat.le_of_ble_eq_true rfl⟩) ⟨h_blind _ _ _ _ _ _ _, h_pre _ hE hk hX hA hI hR g⟩ rfl rfl hl.1 rfl (lv_room (Nat.le_of_ble_eq_true rfl)) dX12_laws_60 ⟨Nat.le_of_ble_eq_true rfl, Nat.le_of_ble_eq_true rfl⟩) (fun rh69 h69 => ?_)
          obtain ⟨h69p0, h69p1, h69p2⟩ := h69
          have jrh69 : -2147483648 ≤ rh69.toInt ∧ rh69.toInt ≤ 2147483647 := ⟨xi_lo _, Int.le_of_lt_add_one (xi_hi _)⟩
          refine h_ast hx hb g tlw (by decide) so_1310 (xi_in (by omega) (by omega)) dX12_laws_63 (fun I70 H locs eI70 g => ?_)
          have hI := h_lww hI eI70 tlw (k := v68.toInt) rfl (by omega) (by omega) (by omega)
          have hF := hF.wr eI70 tlw rfl
          obtain ⟨v71, ev71⟩ : ∃ z : Int32, z = v11 + 1 := ⟨_, rfl⟩
          have jv71 : v71.toInt = v11.toInt + 1 := xi_add ev71 rfl (by decide) (by omega) (by omega)
          refine lv_iinc (v := v71) (lv' := [(2, .int v71), (0, .ref a0), (1, .int y)]) hx hb dX12_laws_64 hl (k := 2) rfl (by rw [ev71]; rfl) (by decide) rfl (fun ls hl => ?_)
          refine lv_goto (tgt := 44) hx hb dX12_laws_67 (by decide) ?_
          exact ih44 I70 _ _ _ v71 g hI hF (lv_sub hl [1, 2, 0] rfl) (by omega) (h_pl eI70 (show v68.toInt = 160 + v11.toInt from by omega) (by omega) (by decide) hx44_0 (by omega) (by omega)) (h_pl eI70 (show v68.toInt = 160 + v11.toInt from by omega) (by omega) (by decide) hx44_1 (by omega) (by omega)) (fun k hk => (h_n2 eI70 (h_kne (t := v68.toInt) rfl (by omega) (by omega))).trans (hx44_2 k (by omega))) (by omega)
    have kc72 : (0 : Int32).toInt = 0 := by decide
    exact loop44_0 _ I10 _ _ _ (0) g hI hF (lv_sub hl [1, 2, 0] rfl) ⟨by decide, by decide⟩ (fun h => absurd h (by decide)) (fun h => absurd h (by decide)) (fun k hk => (h_n1 eI10 tlw t_a0 (by decide)).trans ((h_n1 eI9 tlw t_a0 (by decide)).trans ((h_n1 eI3 tlw t_a0 (by decide)).trans (h_n1 eI2 tlw t_a0 (by decide))))) (show (16 - (0 : Int)) < (((16 - (0 : Int)).toNat + 1 : Nat) : Int) by omega)
