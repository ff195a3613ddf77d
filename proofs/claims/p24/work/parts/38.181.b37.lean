set_option maxHeartbeats 4000000 in
set_option maxRecDepth 100000 in
theorem tX12_isLegalR (l : Launch) (E : tE) (X : tX) (A : Nat → Prop) (z : tZ) (I0 : tI) (L0 : tL) (a0 : Nat) (t_a0 : z.ty a0 = 13) (c : Int32) (c_t : Int) (h_c : c.toInt = c_t) (b_c : 0 ≤ c_t ∧ c_t ≤ 7) (o : Int32) (o_t : Int) (h_o : o.toInt = o_t) (b_o : 0 ≤ o_t ∧ o_t ≤ 59) (i : Int32) (i_t : Int) (h_i : i.toInt = i_t) (b_i : 0 ≤ i_t ∧ i_t ≤ 59) (u_ : Nat → Int) (hmp : m_pre z I0 a0 u_) (ho : o_t < (I0 a0 13).toInt) (hi : i_t < (I0 a0 13).toInt) : Met l yX12_isLegal wsX12_isLegal ({ frames := 5, cells := 0, slots := 0, locals := 320 }) (va_Pc [.ref a0, .int c, .int o, .int i] (h_P E X A z I0 L0)) (vp_Si (fun r => (0 ≤ r.toInt ∧ r.toInt ≤ 1) ∧ ((r.toInt = 1 ∧ (m_L z I0 a0 u_ c_t o_t.toNat i_t.toNat)) ∨ (r.toInt = 0 ∧ ¬ (m_L z I0 a0 u_ c_t o_t.toNat i_t.toNat))))) 0 0 (fun _ => False) := by
  refine Met.ofW (cc := cX12_isLegal) (maxL := 5) (ret := (some .boolean)) (by decide) rfl ?_
  intro pr_ ev_ s m args below meth cd_ s₁ B hml hv
  obtain ⟨rfl, hE, hk, hX, hA, hK, hI, hR, hB0⟩ := hv
  have g : h_G h_so h_fk E A z I0 L0 s s.heap s.heap [] := ⟨hK, va_S.rf, hB0⟩
  have hx := B.exec
  have hb := B.bytes
  have hr := B.returns
  have hts := atoms_spec (ws := wsX12_isLegal) B.pre
  have hown : s.vm.findClass RX12 = some m.cls := findClass_of_methodNamed B.named
  have hlocks := B.notSynchronized
  have iX12 : ∀ w ∈ u_ws RX12 TX12 51, w ∈ wsX12_isLegal := by decide +kernel
  have hl := lv_entry ([.ref a0, .int c, .int o, .int i]) (n := 5) (Nat.le_of_ble_eq_true rfl)
  rw [lg_entry_eq]
  generalize (lg_sl ([.ref a0, .int c, .int o, .int i]) ++ List.replicate (5 - (lg_sl ([.ref a0, .int c, .int o, .int i])).length) Slot.unset).toArray = ls at hl ⊢
  have hl : lv_has ls 5 [(0, .ref a0), (1, .int c), (2, .int o), (3, .int i)] := hl
  obtain ⟨lw, rlw, tlw⟩ := hR.at a0 10 t_a0 (rfl : h_rs 13 10 = some (1310, false)) (by decide)
  have alw : h_ad z a0 10 = lw := h_ad.at rlw
  obtain ⟨hy, rhy, thy⟩ := hR.at a0 11 t_a0 (rfl : h_rs 13 11 = some (1311, false)) (by decide)
  have ahy : h_ad z a0 11 = hy := h_ad.at rhy
  obtain ⟨f0_12, ef0_12⟩ : ∃ v : Int32, v = I0 a0 12 := ⟨_, rfl⟩
  have qf0_12 : (I0 a0 12).toInt = f0_12.toInt := congrArg Int32.toInt ef0_12.symm
  have jf0_12 := hI.rd a0 12 t_a0 ef0_12 (rfl : h_bd 13 12 = (0, 9))
  obtain ⟨f0_13, ef0_13⟩ : ∃ v : Int32, v = I0 a0 13 := ⟨_, rfl⟩
  have qf0_13 : (I0 a0 13).toInt = f0_13.toInt := congrArg Int32.toInt ef0_13.symm
  have jf0_13 := hI.rd a0 13 t_a0 ef0_13 (rfl : h_bd 13 13 = (0, 60))
  obtain ⟨hr0, hob, hpb, hwb, hun⟩ := id hmp
  have hrl := hr0
  rw [ahy, alw, qf0_12] at hrl
  rw [qf0_13] at ho hi
  have hpb0 := hpb
  rw [qf0_13] at hpb
  refine lv_aload_n hx hb dX12_isLegal_0 rfl (lv_at hl 0 rfl) ?_
  refine lv_iload_n hx hb dX12_isLegal_1 rfl (lv_at hl 1 rfl) ?_
  refine lv_aload_n hx hb dX12_isLegal_2 rfl (lv_at hl 0 rfl) ?_
  refine h_get (v := .int f0_12) hx hb hts iX12 hown g t_a0 (by decide) so_13 rfl 12 (by decide) (hts (.fieldLink RX12 187 "CapLeagueModel" "clock" "I") (by decide +kernel)) rfl dX12_isLegal_3 (congrArg Value.int (ef0_12.symm)) ?_
  refine vp_callSi (W.runV (As := [.int c, .int f0_12]) (rest := []) ⟨hx, hb, hml, hown, hts⟩ (tX12_manyOfB l E X A z I0 L0 a0 t_a0 c (c_t) h_c f0_12 (f0_12.toInt) rfl) (cwV 2 hts gX12_isLegal_X12_manyOf rfl rfl rfl (by decide +kernel) ⟨Nat.le_of_ble_eq_true rfl, Nat.le_of_ble_eq_true rfl⟩) ⟨h_blind _ _ _ _ _ _ _, h_recv g t_a0 (by decide) so_13 (q := (RX12, TX12, 51)) rfl, h_pre _ hE hk hX hA hI hR g⟩ rfl rfl hl.1 rfl (lv_room (Nat.le_of_ble_eq_true rfl)) dX12_isLegal_6 ⟨Nat.le_of_ble_eq_true rfl, Nat.le_of_ble_eq_true rfl⟩) (fun rh1 h1 => ?_)
  have h1p0 := h1
  have jrh1 : -2147483648 ≤ rh1.toInt ∧ rh1.toInt ≤ 2147483647 := ⟨xi_lo _, Int.le_of_lt_add_one (xi_hi _)⟩
  rw [ef0_12] at h1p0
  have hmn := congrArg Int32.toInt h1p0
  refine lv_aload_n hx hb dX12_isLegal_9 rfl (lv_at hl 0 rfl) ?_
  refine lv_aload_n hx hb dX12_isLegal_10 rfl (lv_at hl 0 rfl) ?_
  refine h_get (v := .int f0_12) hx hb hts iX12 hown g t_a0 (by decide) so_13 rfl 12 (by decide) (hts (.fieldLink RX12 187 "CapLeagueModel" "clock" "I") (by decide +kernel)) rfl dX12_isLegal_11 (congrArg Value.int (ef0_12.symm)) ?_
  refine lv_iconst (v := 1) hx hb dX12_isLegal_14 (by decide) ?_
  refine vp_callSi (W.runV (As := [.int f0_12, .int 1]) (rest := [.int rh1]) ⟨hx, hb, hml, hown, hts⟩ (tX12_lawOfF l E X A z I0 L0 a0 t_a0 f0_12 (f0_12.toInt) rfl (by omega) 1 (1) (by decide) (by omega)) (cwV 2 hts gX12_isLegal_X12_lawOf rfl rfl rfl (by decide +kernel) ⟨Nat.le_of_ble_eq_true rfl, Nat.le_of_ble_eq_true rfl⟩) ⟨h_blind _ _ _ _ _ _ _, h_recv g t_a0 (by decide) so_13 (q := (RX12, TX12, 51)) rfl, h_pre _ hE hk hX hA hI hR g⟩ rfl rfl hl.1 rfl (lv_room (Nat.le_of_ble_eq_true rfl)) dX12_isLegal_15 ⟨Nat.le_of_ble_eq_true rfl, Nat.le_of_ble_eq_true rfl⟩) (fun rh2 h2 => ?_)
  obtain ⟨h2p0, h2p1, h2p2⟩ := h2
  have jrh2 : -2147483648 ≤ rh2.toInt ∧ rh2.toInt ≤ 2147483647 := ⟨xi_lo _, Int.le_of_lt_add_one (xi_hi _)⟩
  rw [alw, ahy] at h2p0
  have lg_1 : rh2.toInt = u_ 1 := hrl.at (x := 1) (by decide) h2p0
  clear h2p0
  have hb1 := hob.2.1
  have nbrh2 : 1 ≤ rh2.toInt ∧ rh2.toInt ≤ 15 := by omega
  refine lv_icmp_le (tgt := 23) hx hb dX12_isLegal_18 (by decide) (fun c3 => ?_) (fun c3 => ?_)
  · have ic3 := (xi_le c3 rfl rfl : rh1.toInt ≤ rh2.toInt)
    refine lv_aload_n hx hb dX12_isLegal_23 rfl (lv_at hl 0 rfl) ?_
    refine lv_iload_n hx hb dX12_isLegal_24 rfl (lv_at hl 1 rfl) ?_
    refine lv_aload_n hx hb dX12_isLegal_25 rfl (lv_at hl 0 rfl) ?_
    refine h_get (v := .int f0_12) hx hb hts iX12 hown g t_a0 (by decide) so_13 rfl 12 (by decide) (hts (.fieldLink RX12 187 "CapLeagueModel" "clock" "I") (by decide +kernel)) rfl dX12_isLegal_26 (congrArg Value.int (ef0_12.symm)) ?_
    refine vp_callSi (W.runV (As := [.int c, .int f0_12]) (rest := []) ⟨hx, hb, hml, hown, hts⟩ (tX12_countsB l E X A z I0 L0 a0 t_a0 c (c_t) h_c (by omega) f0_12 (f0_12.toInt) rfl (by omega) (u_) (hr0) (hob) (by rw [ef0_12]; exact hpb0)) (cwV 2 hts gX12_isLegal_X12_counts rfl rfl rfl (by decide +kernel) ⟨Nat.le_of_ble_eq_true rfl, Nat.le_of_ble_eq_true rfl⟩) ⟨h_blind _ _ _ _ _ _ _, h_recv g t_a0 (by decide) so_13 (q := (RX12, TX12, 51)) rfl, h_pre _ hE hk hX hA hI hR g⟩ rfl rfl hl.1 rfl (lv_room (Nat.le_of_ble_eq_true rfl)) dX12_isLegal_29 ⟨Nat.le_of_ble_eq_true rfl, Nat.le_of_ble_eq_true rfl⟩) (fun rh4 h4 => ?_)
    have h4p0 := h4
    have jrh4 : -2147483648 ≤ rh4.toInt ∧ rh4.toInt ≤ 2147483647 := ⟨xi_lo _, Int.le_of_lt_add_one (xi_hi _)⟩
    rw [ef0_12] at h4p0
    refine lv_aload_n hx hb dX12_isLegal_32 rfl (lv_at hl 0 rfl) ?_
    refine lv_iload_n hx hb dX12_isLegal_33 rfl (lv_at hl 3 rfl) ?_
    refine lv_aload_n hx hb dX12_isLegal_34 rfl (lv_at hl 0 rfl) ?_
    refine h_get (v := .int f0_12) hx hb hts iX12 hown g t_a0 (by decide) so_13 rfl 12 (by decide) (hts (.fieldLink RX12 187 "CapLeagueModel" "clock" "I") (by decide +kernel)) rfl dX12_isLegal_35 (congrArg Value.int (ef0_12.symm)) ?_
    refine vp_callSi (W.runV (As := [.int i, .int f0_12]) (rest := [.int rh4]) ⟨hx, hb, hml, hown, hts⟩ (tX12_countOfB l E X A z I0 L0 a0 t_a0 i (i_t) h_i (by omega) f0_12 (f0_12.toInt) rfl) (cwV 2 hts gX12_isLegal_X12_countOf rfl rfl rfl (by decide +kernel) ⟨Nat.le_of_ble_eq_true rfl, Nat.le_of_ble_eq_true rfl⟩) ⟨h_blind _ _ _ _ _ _ _, h_recv g t_a0 (by decide) so_13 (q := (RX12, TX12, 51)) rfl, h_pre _ hE hk hX hA hI hR g⟩ rfl rfl hl.1 rfl (lv_room (Nat.le_of_ble_eq_true rfl)) dX12_isLegal_38 ⟨Nat.le_of_ble_eq_true rfl, Nat.le_of_ble_eq_true rfl⟩) (fun rh5 h5 => ?_)
    have h5p0 := h5
    have jrh5 : -2147483648 ≤ rh5.toInt ∧ rh5.toInt ≤ 2147483647 := ⟨xi_lo _, Int.le_of_lt_add_one (xi_hi _)⟩
    have ct_i : rh5 = m_ctp z I0 a0 (u_ 6) i_t.toNat := by have h9 := h5p0 u_ hr0 hob (by rw [ef0_12]; exact hpb _ (by omega)); rw [ef0_12] at h9; exact h9
    refine lv_iadd hx hb dX12_isLegal_41 ?_
    refine lv_topi (fun v6 ev6 => ?_)
    have jv6 : -2147483648 ≤ v6.toInt ∧ v6.toInt ≤ 2147483647 := ⟨xi_lo _, Int.le_of_lt_add_one (xi_hi _)⟩
    refine lv_aload_n hx hb dX12_isLegal_42 rfl (lv_at hl 0 rfl) ?_
    refine lv_iload_n hx hb dX12_isLegal_43 rfl (lv_at hl 2 rfl) ?_
    refine lv_aload_n hx hb dX12_isLegal_44 rfl (lv_at hl 0 rfl) ?_
    refine h_get (v := .int f0_12) hx hb hts iX12 hown g t_a0 (by decide) so_13 rfl 12 (by decide) (hts (.fieldLink RX12 187 "CapLeagueModel" "clock" "I") (by decide +kernel)) rfl dX12_isLegal_45 (congrArg Value.int (ef0_12.symm)) ?_
    refine vp_callSi (W.runV (As := [.int o, .int f0_12]) (rest := [.int v6]) ⟨hx, hb, hml, hown, hts⟩ (tX12_countOfB l E X A z I0 L0 a0 t_a0 o (o_t) h_o (by omega) f0_12 (f0_12.toInt) rfl) (cwV 2 hts gX12_isLegal_X12_countOf rfl rfl rfl (by decide +kernel) ⟨Nat.le_of_ble_eq_true rfl, Nat.le_of_ble_eq_true rfl⟩) ⟨h_blind _ _ _ _ _ _ _, h_recv g t_a0 (by decide) so_13 (q := (RX12, TX12, 51)) rfl, h_pre _ hE hk hX hA hI hR g⟩ rfl rfl hl.1 rfl (lv_room (Nat.le_of_ble_eq_true rfl)) dX12_isLegal_48 ⟨Nat.le_of_ble_eq_true rfl, Nat.le_of_ble_eq_true rfl⟩) (fun rh7 h7 => ?_)
    have h7p0 := h7
    have jrh7 : -2147483648 ≤ rh7.toInt ∧ rh7.toInt ≤ 2147483647 := ⟨xi_lo _, Int.le_of_lt_add_one (xi_hi _)⟩
    have ct_o : rh7 = m_ctp z I0 a0 (u_ 6) o_t.toNat := by have h9 := h7p0 u_ hr0 hob (by rw [ef0_12]; exact hpb _ (by omega)); rw [ef0_12] at h9; exact h9
    refine lv_isub hx hb dX12_isLegal_51 ?_
    refine lv_topi (fun v8 ev8 => ?_)
    have jv8 : -2147483648 ≤ v8.toInt ∧ v8.toInt ≤ 2147483647 := ⟨xi_lo _, Int.le_of_lt_add_one (xi_hi _)⟩
    have cnT : v8 = m_cnt z I0 a0 c_t (I0 a0 12) (u_ 6) + m_ctp z I0 a0 (u_ 6) i_t.toNat - m_ctp z I0 a0 (u_ 6) o_t.toNat := by rw [ev8, ev6, h4p0, ct_i, ct_o]
    have cnI := congrArg Int32.toInt cnT
    refine lv_istore (lv' := [(4, .int v8), (0, .ref a0), (1, .int c), (2, .int o), (3, .int i)]) hx hb dX12_isLegal_52 hl (by decide) rfl (fun ls hl => ?_)
    refine lv_iload hx hb dX12_isLegal_54 (lv_at hl 0 rfl) ?_
    refine lv_aload_n hx hb dX12_isLegal_56 rfl (lv_at hl 1 rfl) ?_
    refine lv_aload_n hx hb dX12_isLegal_57 rfl (lv_at hl 1 rfl) ?_
    refine h_get (v := .int f0_12) hx hb hts iX12 hown g t_a0 (by decide) so_13 rfl 12 (by decide) (hts (.fieldLink RX12 187 "CapLeagueModel" "clock" "I") (by decide +kernel)) rfl dX12_isLegal_58 (congrArg Value.int (ef0_12.symm)) ?_
    refine lv_iconst (v := 0) hx hb dX12_isLegal_61 (by decide) ?_
    refine vp_callSi (W.runV (As := [.int f0_12, .int 0]) (rest := [.int v8]) ⟨hx, hb, hml, hown, hts⟩ (tX12_lawOfF l E X A z I0 L0 a0 t_a0 f0_12 (f0_12.toInt) rfl (by omega) 0 (0) (by decide) (by omega)) (cwV 2 hts gX12_isLegal_X12_lawOf rfl rfl rfl (by decide +kernel) ⟨Nat.le_of_ble_eq_true rfl, Nat.le_of_ble_eq_true rfl⟩) ⟨h_blind _ _ _ _ _ _ _, h_recv g t_a0 (by decide) so_13 (q := (RX12, TX12, 51)) rfl, h_pre _ hE hk hX hA hI hR g⟩ rfl rfl hl.1 rfl (lv_room (Nat.le_of_ble_eq_true rfl)) dX12_isLegal_62 ⟨Nat.le_of_ble_eq_true rfl, Nat.le_of_ble_eq_true rfl⟩) (fun rh9 h9 => ?_)
    obtain ⟨h9p0, h9p1, h9p2⟩ := h9
    have jrh9 : -2147483648 ≤ rh9.toInt ∧ rh9.toInt ≤ 2147483647 := ⟨xi_lo _, Int.le_of_lt_add_one (xi_hi _)⟩
    rw [alw, ahy] at h9p0
    have lg_0 : rh9.toInt = u_ 0 := hrl.at (x := 0) (by decide) h9p0
    clear h9p0
    have hb0 := hob.1
    have nbrh9 : 1 ≤ rh9.toInt ∧ rh9.toInt ≤ 50000 := by omega
    refine lv_icmp_le (tgt := 112) hx hb dX12_isLegal_65 (by decide) (fun c10 => ?_) (fun c10 => ?_)
    · have ic10 := (xi_le c10 rfl rfl : v8.toInt ≤ rh9.toInt)
      refine lv_iconst (v := 1) hx hb dX12_isLegal_112 (by decide) ?_
      refine lv_goto (tgt := 117) hx hb dX12_isLegal_113 (by decide) ?_
      exact W.zret (v := 1) hx hb hr (by decide) (fun t ht hW => ⟨1, rfl, ⟨⟨(by decide), (by decide)⟩, (by have z9 : (1 : Int32).toInt = 1 := (by decide); exact Or.inl ⟨z9, by unfold m_L r_lg; exact ⟨by omega, Or.inl (by omega)⟩⟩)⟩, ht⟩) (fun _ h => by cases h) dX12_isLegal_117
    · have ic10 := (xi_nle c10 rfl rfl : rh9.toInt < v8.toInt)
      refine lv_aload_n hx hb dX12_isLegal_68 rfl (lv_at hl 1 rfl) ?_
      refine lv_iload_n hx hb dX12_isLegal_69 rfl (lv_at hl 4 rfl) ?_
      refine lv_aload_n hx hb dX12_isLegal_70 rfl (lv_at hl 1 rfl) ?_
      refine h_get (v := .int f0_12) hx hb hts iX12 hown g t_a0 (by decide) so_13 rfl 12 (by decide) (hts (.fieldLink RX12 187 "CapLeagueModel" "clock" "I") (by decide +kernel)) rfl dX12_isLegal_71 (congrArg Value.int (ef0_12.symm)) ?_
      refine vp_callSi (W.runV (As := [.int i, .int f0_12]) (rest := []) ⟨hx, hb, hml, hown, hts⟩ (tX12_payOfB l E X A z I0 L0 a0 t_a0 i (i_t) h_i (by omega) f0_12 (f0_12.toInt) rfl) (cwV 2 hts gX12_isLegal_X12_payOf rfl rfl rfl (by decide +kernel) ⟨Nat.le_of_ble_eq_true rfl, Nat.le_of_ble_eq_true rfl⟩) ⟨h_blind _ _ _ _ _ _ _, h_recv g t_a0 (by decide) so_13 (q := (RX12, TX12, 51)) rfl, h_pre _ hE hk hX hA hI hR g⟩ rfl rfl hl.1 rfl (lv_room (Nat.le_of_ble_eq_true rfl)) dX12_isLegal_74 ⟨Nat.le_of_ble_eq_true rfl, Nat.le_of_ble_eq_true rfl⟩) (fun rh11 h11 => ?_)
      have h11p0 := h11
      have jrh11 : -2147483648 ≤ rh11.toInt ∧ rh11.toInt ≤ 2147483647 := ⟨xi_lo _, Int.le_of_lt_add_one (xi_hi _)⟩
      have py_i : rh11 = m_pyp z I0 a0 i_t.toNat := by rw [ef0_12] at h11p0; exact h11p0
      have pb_i : 0 ≤ rh11.toInt ∧ rh11.toInt ≤ 1000000 := by rw [h11p0]; exact ⟨q_pay_0 _ _ _ _ _ _, by rw [ef0_12]; exact hpb _ (by omega)⟩
      refine lv_aload_n hx hb dX12_isLegal_77 rfl (lv_at hl 1 rfl) ?_
      refine lv_iload_n hx hb dX12_isLegal_78 rfl (lv_at hl 3 rfl) ?_
      refine lv_aload_n hx hb dX12_isLegal_79 rfl (lv_at hl 1 rfl) ?_
      refine h_get (v := .int f0_12) hx hb hts iX12 hown g t_a0 (by decide) so_13 rfl 12 (by decide) (hts (.fieldLink RX12 187 "CapLeagueModel" "clock" "I") (by decide +kernel)) rfl dX12_isLegal_80 (congrArg Value.int (ef0_12.symm)) ?_
      refine vp_callSi (W.runV (As := [.int o, .int f0_12]) (rest := [.int rh11]) ⟨hx, hb, hml, hown, hts⟩ (tX12_payOfB l E X A z I0 L0 a0 t_a0 o (o_t) h_o (by omega) f0_12 (f0_12.toInt) rfl) (cwV 2 hts gX12_isLegal_X12_payOf rfl rfl rfl (by decide +kernel) ⟨Nat.le_of_ble_eq_true rfl, Nat.le_of_ble_eq_true rfl⟩) ⟨h_blind _ _ _ _ _ _ _, h_recv g t_a0 (by decide) so_13 (q := (RX12, TX12, 51)) rfl, h_pre _ hE hk hX hA hI hR g⟩ rfl rfl hl.1 rfl (lv_room (Nat.le_of_ble_eq_true rfl)) dX12_isLegal_83 ⟨Nat.le_of_ble_eq_true rfl, Nat.le_of_ble_eq_true rfl⟩) (fun rh12 h12 => ?_)
      have h12p0 := h12
      have jrh12 : -2147483648 ≤ rh12.toInt ∧ rh12.toInt ≤ 2147483647 := ⟨xi_lo _, Int.le_of_lt_add_one (xi_hi _)⟩
      have py_o : rh12 = m_pyp z I0 a0 o_t.toNat := by rw [ef0_12] at h12p0; exact h12p0
      have pb_o : 0 ≤ rh12.toInt ∧ rh12.toInt ≤ 1000000 := by rw [h12p0]; exact ⟨q_pay_0 _ _ _ _ _ _, by rw [ef0_12]; exact hpb _ (by omega)⟩
      refine lv_aload_n hx hb dX12_isLegal_86 rfl (lv_at hl 1 rfl) ?_
      refine lv_aload_n hx hb dX12_isLegal_87 rfl (lv_at hl 1 rfl) ?_
      refine h_get (v := .int f0_12) hx hb hts iX12 hown g t_a0 (by decide) so_13 rfl 12 (by decide) (hts (.fieldLink RX12 187 "CapLeagueModel" "clock" "I") (by decide +kernel)) rfl dX12_isLegal_88 (congrArg Value.int (ef0_12.symm)) ?_
      refine lv_iconst (v := 4) hx hb dX12_isLegal_91 (by decide) ?_
      refine vp_callSi (W.runV (As := [.int f0_12, .int 4]) (rest := [.int rh12, .int rh11]) ⟨hx, hb, hml, hown, hts⟩ (tX12_lawOfF l E X A z I0 L0 a0 t_a0 f0_12 (f0_12.toInt) rfl (by omega) 4 (4) (by decide) (by omega)) (cwV 2 hts gX12_isLegal_X12_lawOf rfl rfl rfl (by decide +kernel) ⟨Nat.le_of_ble_eq_true rfl, Nat.le_of_ble_eq_true rfl⟩) ⟨h_blind _ _ _ _ _ _ _, h_recv g t_a0 (by decide) so_13 (q := (RX12, TX12, 51)) rfl, h_pre _ hE hk hX hA hI hR g⟩ rfl rfl hl.1 rfl (lv_room (Nat.le_of_ble_eq_true rfl)) dX12_isLegal_92 ⟨Nat.le_of_ble_eq_true rfl, Nat.le_of_ble_eq_true rfl⟩) (fun rh13 h13 => ?_)
      obtain ⟨h13p0, h13p1, h13p2⟩ := h13
      have jrh13 : -2147483648 ≤ rh13.toInt ∧ rh13.toInt ≤ 2147483647 := ⟨xi_lo _, Int.le_of_lt_add_one (xi_hi _)⟩
      rw [alw, ahy] at h13p0
      have lg_4 : rh13.toInt = u_ 4 := hrl.at (x := 4) (by decide) h13p0
      clear h13p0
      have hb4 := hob.2.2.2.2.1
      have nbrh13 : 0 ≤ rh13.toInt ∧ rh13.toInt ≤ 300 := by omega
      refine lv_imul hx hb dX12_isLegal_95 ?_
      refine lv_topi (fun v14 ev14 => ?_)
      have jv14 : -2147483648 ≤ v14.toInt ∧ v14.toInt ≤ 2147483647 := ⟨xi_lo _, Int.le_of_lt_add_one (xi_hi _)⟩
      refine lv_bipush (v := 100) hx hb dX12_isLegal_96 (by decide) ?_
      refine lv_idiv hx hb dX12_isLegal_98 (by decide) ?_
      refine lv_topi (fun v15 ev15 => ?_)
      have jv15 : -2147483648 ≤ v15.toInt ∧ v15.toInt ≤ 2147483647 := ⟨xi_lo _, Int.le_of_lt_add_one (xi_hi _)⟩
      have hnI := q_hunI ev14 ev15 lg_4 pb_o.1 pb_o.2 hb4.1 (by omega)
      have nbv15 : 0 ≤ v15.toInt ∧ v15.toInt ≤ 3000000 := hnI.2
      refine lv_aload_n hx hb dX12_isLegal_99 rfl (lv_at hl 1 rfl) ?_
      refine lv_aload_n hx hb dX12_isLegal_100 rfl (lv_at hl 1 rfl) ?_
      refine h_get (v := .int f0_12) hx hb hts iX12 hown g t_a0 (by decide) so_13 rfl 12 (by decide) (hts (.fieldLink RX12 187 "CapLeagueModel" "clock" "I") (by decide +kernel)) rfl dX12_isLegal_101 (congrArg Value.int (ef0_12.symm)) ?_
      refine lv_iconst (v := 5) hx hb dX12_isLegal_104 (by decide) ?_
      refine vp_callSi (W.runV (As := [.int f0_12, .int 5]) (rest := [.int v15, .int rh11]) ⟨hx, hb, hml, hown, hts⟩ (tX12_lawOfF l E X A z I0 L0 a0 t_a0 f0_12 (f0_12.toInt) rfl (by omega) 5 (5) (by decide) (by omega)) (cwV 2 hts gX12_isLegal_X12_lawOf rfl rfl rfl (by decide +kernel) ⟨Nat.le_of_ble_eq_true rfl, Nat.le_of_ble_eq_true rfl⟩) ⟨h_blind _ _ _ _ _ _ _, h_recv g t_a0 (by decide) so_13 (q := (RX12, TX12, 51)) rfl, h_pre _ hE hk hX hA hI hR g⟩ rfl rfl hl.1 rfl (lv_room (Nat.le_of_ble_eq_true rfl)) dX12_isLegal_105 ⟨Nat.le_of_ble_eq_true rfl, Nat.le_of_ble_eq_true rfl⟩) (fun rh16 h16 => ?_)
      obtain ⟨h16p0, h16p1, h16p2⟩ := h16
      have jrh16 : -2147483648 ≤ rh16.toInt ∧ rh16.toInt ≤ 2147483647 := ⟨xi_lo _, Int.le_of_lt_add_one (xi_hi _)⟩
      rw [alw, ahy] at h16p0
      have lg_5 : rh16.toInt = u_ 5 := hrl.at (x := 5) (by decide) h16p0
      clear h16p0
      have hb5 := hob.2.2.2.2.2.1
      have nbrh16 : 0 ≤ rh16.toInt ∧ rh16.toInt ≤ 5000 := by omega
      refine lv_iadd hx hb dX12_isLegal_108 ?_
      refine lv_topi (fun v17 ev17 => ?_)
      have jv17 : v17.toInt = v15.toInt + rh16.toInt := xi_add ev17 rfl rfl (by omega) (by omega)
      refine lv_icmp_gt (tgt := 116) hx hb dX12_isLegal_109 (by decide) (fun c18 => ?_) (fun c18 => ?_)
      · have ic18 := (xi_lt c18 rfl rfl : v17.toInt < rh11.toInt)
        refine lv_iconst (v := 0) hx hb dX12_isLegal_116 (by decide) ?_
        exact W.zret (v := 0) hx hb hr (by decide) (fun t ht hW => ⟨0, rfl, ⟨⟨(by decide), (by decide)⟩, (by have z9 : (0 : Int32).toInt = 0 := (by decide); exact Or.inr ⟨z9, fun q => by unfold m_L r_lg at q; rw [← py_i, ← py_o] at q; omega⟩)⟩, ht⟩) (fun _ h => by cases h) dX12_isLegal_117
      · have ic18 := (xi_nlt c18 rfl rfl : rh11.toInt ≤ v17.toInt)
        refine lv_iconst (v := 1) hx hb dX12_isLegal_112 (by decide) ?_
        refine lv_goto (tgt := 117) hx hb dX12_isLegal_113 (by decide) ?_
        exact W.zret (v := 1) hx hb hr (by decide) (fun t ht hW => ⟨1, rfl, ⟨⟨(by decide), (by decide)⟩, (by have z9 : (1 : Int32).toInt = 1 := (by decide); exact Or.inl ⟨z9, by unfold m_L r_lg; rw [← py_i, ← py_o]; exact ⟨by omega, Or.inr (by omega)⟩⟩)⟩, ht⟩) (fun _ h => by cases h) dX12_isLegal_117
  · have ic3 := (xi_nle c3 rfl rfl : rh2.toInt < rh1.toInt)
    refine lv_iconst (v := 0) hx hb dX12_isLegal_21 (by decide) ?_
    exact W.zret (v := 0) hx hb hr (by decide) (fun t ht hW => ⟨0, rfl, ⟨⟨(by decide), (by decide)⟩, (by have z9 : (0 : Int32).toInt = 0 := (by decide); exact Or.inr ⟨z9, fun q => by unfold m_L r_lg at q; omega⟩)⟩, ht⟩) (fun _ h => by cases h) dX12_isLegal_22
set_option maxHeartbeats 4000000 in
set_option maxRecDepth 100000 in
theorem tX12_tryRing2R (l : Launch) (E : tE) (X : tX) (A : Nat → Prop) (z : tZ) (I0 : tI) (L0 : tL) (a0 : Nat) (t_a0 : z.ty a0 = 13) (u_ : Nat → Int) (hmp : m_pre z I0 a0 u_) (hg : ∀ i : Nat, i < 2 → (I0 (h_ad z a0 43) i).toInt < (I0 a0 13).toInt) (s_ : tS) (hs : m_rs z I0 a0 s_) : Met l yX12_tryRing wsX12_tryRing ({ frames := 6, cells := 0, slots := 0, locals := 384 }) (va_Pc [.ref a0, .int 2] (h_P E X A z I0 L0)) (va_Qv (fun (I1 : tI) => h_I z I1 ∧ h_F [(13, 44), (13, 45), (1339, 999), (1340, 999)] z I0 I1 ∧ (m_rs z I1 a0 (r_st2 (m_G z I0 a0 u_) (I0 (h_ad z a0 42) 0).toInt (I0 (h_ad z a0 42) 1).toInt (I0 (h_ad z a0 43) 0).toInt.toNat (I0 (h_ad z a0 43) 1).toInt.toNat s_))) (fun (I1 : tI) t => h_B E A z I1 L0 t) A) 0 0 A := by
  refine Met.ofW (cc := cX12_tryRing) (maxL := 7) (ret := none) (by decide) rfl ?_
  intro pr_ ev_ s m args below meth cd_ s₁ B hml hv
  obtain ⟨rfl, hE, hk, hX, hA, hK, hI, hR, hB0⟩ := hv
  have g : h_G h_so h_fk E A z I0 L0 s s.heap s.heap [] := ⟨hK, va_S.rf, hB0⟩
  have hF : h_F [(13, 44), (13, 45), (1339, 999), (1340, 999)] z I0 I0 := h_F.rf
  have hx := B.exec
  have hb := B.bytes
  have hr := B.returns
  have hts := atoms_spec (ws := wsX12_tryRing) B.pre
  have hown : s.vm.findClass RX12 = some m.cls := findClass_of_methodNamed B.named
  have hlocks := B.notSynchronized
  have iX12 : ∀ w ∈ u_ws RX12 TX12 51, w ∈ wsX12_tryRing := by decide +kernel
  have hl := lv_entry ([.ref a0, .int 2]) (n := 7) (Nat.le_of_ble_eq_true rfl)
  rw [lg_entry_eq]
  generalize (lg_sl ([.ref a0, .int 2]) ++ List.replicate (7 - (lg_sl ([.ref a0, .int 2])).length) Slot.unset).toArray = ls at hl ⊢
  have hl : lv_has ls 7 [(0, .ref a0), (1, .int 2)] := hl
  obtain ⟨tc, rtc, ttc⟩ := hR.at a0 42 t_a0 (rfl : h_rs 13 42 = some (1342, false)) (by decide)
  have atc : h_ad z a0 42 = tc := h_ad.at rtc
  obtain ⟨tg, rtg, ttg⟩ := hR.at a0 43 t_a0 (rfl : h_rs 13 43 = some (1343, false)) (by decide)
  have atg : h_ad z a0 43 = tg := h_ad.at rtg
  obtain ⟨rc, rrc, trc⟩ := hR.at a0 39 t_a0 (rfl : h_rs 13 39 = some (1339, false)) (by decide)
  have arc : h_ad z a0 39 = rc := h_ad.at rrc
  obtain ⟨rg, rrg, trg⟩ := hR.at a0 40 t_a0 (rfl : h_rs 13 40 = some (1340, false)) (by decide)
  have arg : h_ad z a0 40 = rg := h_ad.at rrg
  obtain ⟨f0_13, ef0_13⟩ : ∃ v : Int32, v = I0 a0 13 := ⟨_, rfl⟩
  have qf0_13 : (I0 a0 13).toInt = f0_13.toInt := congrArg Int32.toInt ef0_13.symm
  have jf0_13 := hI.rd a0 13 t_a0 ef0_13 (rfl : h_bd 13 13 = (0, 60))
  obtain ⟨f0_44, ef0_44⟩ : ∃ v : Int32, v = I0 a0 44 := ⟨_, rfl⟩
  have qf0_44 : (I0 a0 44).toInt = f0_44.toInt := congrArg Int32.toInt ef0_44.symm
  have jf0_44 := hI.rd a0 44 t_a0 ef0_44 (rfl : h_bd 13 44 = ((-2147483648), 2147483647))
  obtain ⟨f0_45, ef0_45⟩ : ∃ v : Int32, v = I0 a0 45 := ⟨_, rfl⟩
  have qf0_45 : (I0 a0 45).toInt = f0_45.toInt := congrArg Int32.toInt ef0_45.symm
  have jf0_45 := hI.rd a0 45 t_a0 ef0_45 (rfl : h_bd 13 45 = (0, 3))
  have hmp0 := hmp
  obtain ⟨hr0, hob, hpb, hwb, hun⟩ := id hmp
  have hs0 := hs
  obtain ⟨hs1, hs2, hs3⟩ := hs
  rw [qf0_44] at hs1
  obtain ⟨c0, ec0⟩ : ∃ v : Int32, v = I0 tc 0 := ⟨_, rfl⟩
  have ekc0 : I0 tc (0 : Int32).toNatClampNeg = c0 := by rw [show (0 : Int32).toNatClampNeg = 0 by decide]; exact ec0.symm
  have jc0 := hI.rd tc 0 ttc ec0 (rfl : h_bd 1342 _ = (0, 7))
  obtain ⟨g0, eg0⟩ : ∃ v : Int32, v = I0 tg 0 := ⟨_, rfl⟩
  have ekg0 : I0 tg (0 : Int32).toNatClampNeg = g0 := by rw [show (0 : Int32).toNatClampNeg = 0 by decide]; exact eg0.symm
  have jg0 := hI.rd tg 0 ttg eg0 (rfl : h_bd 1343 _ = (0, 59))
  have hg0 : g0.toInt < f0_13.toInt := by have h9 := hg 0 (by decide); rw [atg, ← eg0, qf0_13] at h9; exact h9
  obtain ⟨c1, ec1⟩ : ∃ v : Int32, v = I0 tc 1 := ⟨_, rfl⟩
  have ekc1 : I0 tc (1 : Int32).toNatClampNeg = c1 := by rw [show (1 : Int32).toNatClampNeg = 1 by decide]; exact ec1.symm
  have jc1 := hI.rd tc 1 ttc ec1 (rfl : h_bd 1342 _ = (0, 7))
  obtain ⟨g1, eg1⟩ : ∃ v : Int32, v = I0 tg 1 := ⟨_, rfl⟩
  have ekg1 : I0 tg (1 : Int32).toNatClampNeg = g1 := by rw [show (1 : Int32).toNatClampNeg = 1 by decide]; exact eg1.symm
  have jg1 := hI.rd tg 1 ttg eg1 (rfl : h_bd 1343 _ = (0, 59))
  have hg1 : g1.toInt < f0_13.toInt := by have h9 := hg 1 (by decide); rw [atg, ← eg1, qf0_13] at h9; exact h9
  refine lv_iconst (v := 0) hx hb dX12_tryRing_0 (by decide) ?_
  refine lv_istore_n (lv' := [(2, .int 0), (0, .ref a0), (1, .int 2)]) hx hb dX12_tryRing_1 rfl hl (by decide) rfl (fun ls hl => ?_)
  refine lv_iconst (v := 0) hx hb dX12_tryRing_2 (by decide) ?_
  refine lv_istore_n (lv' := [(3, .int 0), (2, .int 0), (0, .ref a0), (1, .int 2)]) hx hb dX12_tryRing_3 rfl hl (by decide) rfl (fun ls hl => ?_)
  refine lv_iload_n hx hb dX12_tryRing_4 rfl (lv_at hl 0 rfl) ?_
  refine lv_iload_n hx hb dX12_tryRing_5 rfl (lv_at hl 3 rfl) ?_
  refine lv_icmp_ge (tgt := 71) hx hb dX12_tryRing_6 (by decide) (fun h => absurd h (by decide)) (fun _ => ?_)
  refine lv_iload_n hx hb dX12_tryRing_9 rfl (lv_at hl 0 rfl) ?_
  refine lv_iload_n hx hb dX12_tryRing_10 rfl (lv_at hl 3 rfl) ?_
  refine lv_iadd hx hb dX12_tryRing_11 ?_
  refine xw_i (v := 2) (by decide) ?_
  refine lv_iconst (v := 1) hx hb dX12_tryRing_12 (by decide) ?_
  refine lv_isub hx hb dX12_tryRing_13 ?_
  refine xw_i (v := 1) (by decide) ?_
  refine lv_iload_n hx hb dX12_tryRing_14 rfl (lv_at hl 3 rfl) ?_
  refine lv_irem hx hb dX12_tryRing_15 (by decide) ?_
  refine xw_i (v := 1) (by decide) ?_
  refine lv_istore (lv' := [(4, .int 1), (3, .int 0), (2, .int 0), (0, .ref a0), (1, .int 2)]) hx hb dX12_tryRing_16 hl (by decide) rfl (fun ls hl => ?_)
  refine lv_aload_n hx hb dX12_tryRing_18 rfl (lv_at hl 3 rfl) ?_
  refine h_get (v := .ref tc) hx hb hts iX12 hown g t_a0 (by decide) so_13 rfl 42 (by decide) (hts (.fieldLink RX12 97 "CapLeagueModel" "triedClub" "[I") (by decide +kernel)) rfl dX12_tryRing_19 (by show va_rf (z.R a0 42) = _; rw [rtc]; rfl) ?_
  refine lv_iload_n hx hb dX12_tryRing_22 rfl (lv_at hl 1 rfl) ?_
  refine h_ald hx hb g ttc (by decide) so_1342 (by unfold vp_in; decide) dX12_tryRing_23 ?_
  refine xw_i (ekc0) ?_
  refine lv_istore (lv' := [(5, .int c0), (4, .int 1), (3, .int 0), (2, .int 0), (0, .ref a0), (1, .int 2)]) hx hb dX12_tryRing_24 hl (by decide) rfl (fun ls hl => ?_)
  refine lv_aload_n hx hb dX12_tryRing_26 rfl (lv_at hl 4 rfl) ?_
  refine lv_iload hx hb dX12_tryRing_27 (lv_at hl 0 rfl) ?_
  refine lv_aload_n hx hb dX12_tryRing_29 rfl (lv_at hl 4 rfl) ?_
  refine h_get (v := .ref tg) hx hb hts iX12 hown g t_a0 (by decide) so_13 rfl 43 (by decide) (hts (.fieldLink RX12 100 "CapLeagueModel" "triedGives" "[I") (by decide +kernel)) rfl dX12_tryRing_30 (by show va_rf (z.R a0 43) = _; rw [rtg]; rfl) ?_
  refine lv_iload hx hb dX12_tryRing_33 (lv_at hl 1 rfl) ?_
  refine h_ald hx hb g ttg (by decide) so_1343 (by unfold vp_in; decide) dX12_tryRing_35 ?_
  refine xw_i (ekg1) ?_
  refine vp_callSi (W.runV (As := [.int c0, .int g1]) (rest := []) ⟨hx, hb, hml, hown, hts⟩ (tX12_worthToB l E X A z I0 L0 a0 t_a0 c0 (c0.toInt) rfl (by omega) g1 (g1.toInt) rfl (by omega)) (cwV 2 hts gX12_tryRing_X12_worthTo rfl rfl rfl (by decide +kernel) ⟨Nat.le_of_ble_eq_true rfl, Nat.le_of_ble_eq_true rfl⟩) ⟨h_blind _ _ _ _ _ _ _, h_recv g t_a0 (by decide) so_13 (q := (RX12, TX12, 51)) rfl, h_pre _ hE hk hX hA hI hR g⟩ rfl rfl hl.1 rfl (lv_room (Nat.le_of_ble_eq_true rfl)) dX12_tryRing_36 ⟨Nat.le_of_ble_eq_true rfl, Nat.le_of_ble_eq_true rfl⟩) (fun rh2 h2 => ?_)
  have h2p0 := h2
  have jrh2 : -2147483648 ≤ rh2.toInt ∧ rh2.toInt ≤ 2147483647 := ⟨xi_lo _, Int.le_of_lt_add_one (xi_hi _)⟩
  have wbrh2 : 0 ≤ rh2.toInt ∧ rh2.toInt ≤ 9999 := by rw [h2p0]; exact hwb _
  refine lv_aload_n hx hb dX12_tryRing_39 rfl (lv_at hl 4 rfl) ?_
  refine lv_iload hx hb dX12_tryRing_40 (lv_at hl 0 rfl) ?_
  refine lv_aload_n hx hb dX12_tryRing_42 rfl (lv_at hl 4 rfl) ?_
  refine h_get (v := .ref tg) hx hb hts iX12 hown g t_a0 (by decide) so_13 rfl 43 (by decide) (hts (.fieldLink RX12 100 "CapLeagueModel" "triedGives" "[I") (by decide +kernel)) rfl dX12_tryRing_43 (by show va_rf (z.R a0 43) = _; rw [rtg]; rfl) ?_
  refine lv_iload_n hx hb dX12_tryRing_46 rfl (lv_at hl 2 rfl) ?_
  refine h_ald hx hb g ttg (by decide) so_1343 (by unfold vp_in; decide) dX12_tryRing_47 ?_
  refine xw_i (ekg0) ?_
  refine vp_callSi (W.runV (As := [.int c0, .int g0]) (rest := [.int rh2]) ⟨hx, hb, hml, hown, hts⟩ (tX12_worthToB l E X A z I0 L0 a0 t_a0 c0 (c0.toInt) rfl (by omega) g0 (g0.toInt) rfl (by omega)) (cwV 2 hts gX12_tryRing_X12_worthTo rfl rfl rfl (by decide +kernel) ⟨Nat.le_of_ble_eq_true rfl, Nat.le_of_ble_eq_true rfl⟩) ⟨h_blind _ _ _ _ _ _ _, h_recv g t_a0 (by decide) so_13 (q := (RX12, TX12, 51)) rfl, h_pre _ hE hk hX hA hI hR g⟩ rfl rfl hl.1 rfl (lv_room (Nat.le_of_ble_eq_true rfl)) dX12_tryRing_48 ⟨Nat.le_of_ble_eq_true rfl, Nat.le_of_ble_eq_true rfl⟩) (fun rh3 h3 => ?_)
  have h3p0 := h3
  have jrh3 : -2147483648 ≤ rh3.toInt ∧ rh3.toInt ≤ 2147483647 := ⟨xi_lo _, Int.le_of_lt_add_one (xi_hi _)⟩
  have wbrh3 : 0 ≤ rh3.toInt ∧ rh3.toInt ≤ 9999 := by rw [h3p0]; exact hwb _
  refine lv_isub hx hb dX12_tryRing_51 ?_
  refine lv_topi (fun v4 ev4 => ?_)
  have jv4 : v4.toInt = rh2.toInt - rh3.toInt := xi_sub ev4 rfl rfl (by omega) (by omega)
  have bE0 : m_w z I0 a0 c0.toInt g1.toInt.toNat - m_w z I0 a0 c0.toInt g0.toInt.toNat = v4 := by unfold m_w; rw [show ((g1.toInt.toNat : Nat) : Int) = g1.toInt by omega, show ((g0.toInt.toNat : Nat) : Int) = g0.toInt by omega, ← h2p0, ← h3p0]; exact ev4.symm
  refine lv_istore (lv' := [(6, .int v4), (5, .int c0), (4, .int 1), (3, .int 0), (2, .int 0), (0, .ref a0), (1, .int 2)]) hx hb dX12_tryRing_52 hl (by decide) rfl (fun ls hl => ?_)
  refine lv_iload hx hb dX12_tryRing_54 (lv_at hl 0 rfl) ?_
  refine lv_if_gt (tgt := 60) hx hb dX12_tryRing_56 (by decide) (fun c5 => ?_) (fun c5 => ?_)
  · have ic5 := (xi_lt c5 (by decide) rfl : 0 < v4.toInt)
    refine lv_iload_n hx hb dX12_tryRing_60 rfl (lv_at hl 4 rfl) ?_
    refine lv_iload hx hb dX12_tryRing_61 (lv_at hl 0 rfl) ?_
    refine lv_iadd hx hb dX12_tryRing_63 ?_
    refine lv_topi (fun v6 ev6 => ?_)
    have jv6 : v6.toInt = 0 + v4.toInt := xi_add ev6 (by decide) rfl (by omega) (by omega)
    refine lv_istore_n (lv' := [(2, .int v6), (6, .int v4), (5, .int c0), (4, .int 1), (3, .int 0), (0, .ref a0), (1, .int 2)]) hx hb dX12_tryRing_64 rfl hl (by decide) rfl (fun ls hl => ?_)
    refine lv_iinc (v := 1) (lv' := [(3, .int 1), (2, .int v6), (6, .int v4), (5, .int c0), (4, .int 1), (0, .ref a0), (1, .int 2)]) hx hb dX12_tryRing_65 hl (k := 4) rfl (by decide) (by decide) rfl (fun ls hl => ?_)
    refine lv_goto (tgt := 4) hx hb dX12_tryRing_68 (by decide) ?_
    refine lv_iload_n hx hb dX12_tryRing_4 rfl (lv_at hl 0 rfl) ?_
    refine lv_iload_n hx hb dX12_tryRing_5 rfl (lv_at hl 6 rfl) ?_
    refine lv_icmp_ge (tgt := 71) hx hb dX12_tryRing_6 (by decide) (fun h => absurd h (by decide)) (fun _ => ?_)
    refine lv_iload_n hx hb dX12_tryRing_9 rfl (lv_at hl 0 rfl) ?_
    refine lv_iload_n hx hb dX12_tryRing_10 rfl (lv_at hl 6 rfl) ?_
    refine lv_iadd hx hb dX12_tryRing_11 ?_
    refine xw_i (v := 3) (by decide) ?_
    refine lv_iconst (v := 1) hx hb dX12_tryRing_12 (by decide) ?_
    refine lv_isub hx hb dX12_tryRing_13 ?_
    refine xw_i (v := 2) (by decide) ?_
    refine lv_iload_n hx hb dX12_tryRing_14 rfl (lv_at hl 6 rfl) ?_
    refine lv_irem hx hb dX12_tryRing_15 (by decide) ?_
    refine xw_i (v := 0) (by decide) ?_
    refine lv_istore (lv' := [(4, .int 0), (3, .int 1), (2, .int v6), (6, .int v4), (5, .int c0), (0, .ref a0), (1, .int 2)]) hx hb dX12_tryRing_16 hl (by decide) rfl (fun ls hl => ?_)
    refine lv_aload_n hx hb dX12_tryRing_18 rfl (lv_at hl 5 rfl) ?_
    refine h_get (v := .ref tc) hx hb hts iX12 hown g t_a0 (by decide) so_13 rfl 42 (by decide) (hts (.fieldLink RX12 97 "CapLeagueModel" "triedClub" "[I") (by decide +kernel)) rfl dX12_tryRing_19 (by show va_rf (z.R a0 42) = _; rw [rtc]; rfl) ?_
    refine lv_iload_n hx hb dX12_tryRing_22 rfl (lv_at hl 1 rfl) ?_
    refine h_ald hx hb g ttc (by decide) so_1342 (by unfold vp_in; decide) dX12_tryRing_23 ?_
    refine xw_i (ekc1) ?_
    refine lv_istore (lv' := [(5, .int c1), (4, .int 0), (3, .int 1), (2, .int v6), (6, .int v4), (0, .ref a0), (1, .int 2)]) hx hb dX12_tryRing_24 hl (by decide) rfl (fun ls hl => ?_)
    refine lv_aload_n hx hb dX12_tryRing_26 rfl (lv_at hl 5 rfl) ?_
    refine lv_iload hx hb dX12_tryRing_27 (lv_at hl 0 rfl) ?_
    refine lv_aload_n hx hb dX12_tryRing_29 rfl (lv_at hl 5 rfl) ?_
    refine h_get (v := .ref tg) hx hb hts iX12 hown g t_a0 (by decide) so_13 rfl 43 (by decide) (hts (.fieldLink RX12 100 "CapLeagueModel" "triedGives" "[I") (by decide +kernel)) rfl dX12_tryRing_30 (by show va_rf (z.R a0 43) = _; rw [rtg]; rfl) ?_
    refine lv_iload hx hb dX12_tryRing_33 (lv_at hl 1 rfl) ?_
    refine h_ald hx hb g ttg (by decide) so_1343 (by unfold vp_in; decide) dX12_tryRing_35 ?_
    refine xw_i (ekg0) ?_
    refine vp_callSi (W.runV (As := [.int c1, .int g0]) (rest := []) ⟨hx, hb, hml, hown, hts⟩ (tX12_worthToB l E X A z I0 L0 a0 t_a0 c1 (c1.toInt) rfl (by omega) g0 (g0.toInt) rfl (by omega)) (cwV 2 hts gX12_tryRing_X12_worthTo rfl rfl rfl (by decide +kernel) ⟨Nat.le_of_ble_eq_true rfl, Nat.le_of_ble_eq_true rfl⟩) ⟨h_blind _ _ _ _ _ _ _, h_recv g t_a0 (by decide) so_13 (q := (RX12, TX12, 51)) rfl, h_pre _ hE hk hX hA hI hR g⟩ rfl rfl hl.1 rfl (lv_room (Nat.le_of_ble_eq_true rfl)) dX12_tryRing_36 ⟨Nat.le_of_ble_eq_true rfl, Nat.le_of_ble_eq_true rfl⟩) (fun rh8 h8 => ?_)
    have h8p0 := h8
    have jrh8 : -2147483648 ≤ rh8.toInt ∧ rh8.toInt ≤ 2147483647 := ⟨xi_lo _, Int.le_of_lt_add_one (xi_hi _)⟩
    have wbrh8 : 0 ≤ rh8.toInt ∧ rh8.toInt ≤ 9999 := by rw [h8p0]; exact hwb _
    refine lv_aload_n hx hb dX12_tryRing_39 rfl (lv_at hl 5 rfl) ?_
    refine lv_iload hx hb dX12_tryRing_40 (lv_at hl 0 rfl) ?_
    refine lv_aload_n hx hb dX12_tryRing_42 rfl (lv_at hl 5 rfl) ?_
    refine h_get (v := .ref tg) hx hb hts iX12 hown g t_a0 (by decide) so_13 rfl 43 (by decide) (hts (.fieldLink RX12 100 "CapLeagueModel" "triedGives" "[I") (by decide +kernel)) rfl dX12_tryRing_43 (by show va_rf (z.R a0 43) = _; rw [rtg]; rfl) ?_
    refine lv_iload_n hx hb dX12_tryRing_46 rfl (lv_at hl 2 rfl) ?_
    refine h_ald hx hb g ttg (by decide) so_1343 (by unfold vp_in; decide) dX12_tryRing_47 ?_
    refine xw_i (ekg1) ?_
    refine vp_callSi (W.runV (As := [.int c1, .int g1]) (rest := [.int rh8]) ⟨hx, hb, hml, hown, hts⟩ (tX12_worthToB l E X A z I0 L0 a0 t_a0 c1 (c1.toInt) rfl (by omega) g1 (g1.toInt) rfl (by omega)) (cwV 2 hts gX12_tryRing_X12_worthTo rfl rfl rfl (by decide +kernel) ⟨Nat.le_of_ble_eq_true rfl, Nat.le_of_ble_eq_true rfl⟩) ⟨h_blind _ _ _ _ _ _ _, h_recv g t_a0 (by decide) so_13 (q := (RX12, TX12, 51)) rfl, h_pre _ hE hk hX hA hI hR g⟩ rfl rfl hl.1 rfl (lv_room (Nat.le_of_ble_eq_true rfl)) dX12_tryRing_48 ⟨Nat.le_of_ble_eq_true rfl, Nat.le_of_ble_eq_true rfl⟩) (fun rh9 h9 => ?_)
    have h9p0 := h9
    have jrh9 : -2147483648 ≤ rh9.toInt ∧ rh9.toInt ≤ 2147483647 := ⟨xi_lo _, Int.le_of_lt_add_one (xi_hi _)⟩
    have wbrh9 : 0 ≤ rh9.toInt ∧ rh9.toInt ≤ 9999 := by rw [h9p0]; exact hwb _
    refine lv_isub hx hb dX12_tryRing_51 ?_
    refine lv_topi (fun v10 ev10 => ?_)
    have jv10 : v10.toInt = rh8.toInt - rh9.toInt := xi_sub ev10 rfl rfl (by omega) (by omega)
    have bE1 : m_w z I0 a0 c1.toInt g0.toInt.toNat - m_w z I0 a0 c1.toInt g1.toInt.toNat = v10 := by unfold m_w; rw [show ((g0.toInt.toNat : Nat) : Int) = g0.toInt by omega, show ((g1.toInt.toNat : Nat) : Int) = g1.toInt by omega, ← h8p0, ← h9p0]; exact ev10.symm
    refine lv_istore (lv' := [(6, .int v10), (5, .int c1), (4, .int 0), (3, .int 1), (2, .int v6), (0, .ref a0), (1, .int 2)]) hx hb dX12_tryRing_52 hl (by decide) rfl (fun ls hl => ?_)
    refine lv_iload hx hb dX12_tryRing_54 (lv_at hl 0 rfl) ?_
    refine lv_if_gt (tgt := 60) hx hb dX12_tryRing_56 (by decide) (fun c11 => ?_) (fun c11 => ?_)
    · have ic11 := (xi_lt c11 (by decide) rfl : 0 < v10.toInt)
      refine lv_iload_n hx hb dX12_tryRing_60 rfl (lv_at hl 4 rfl) ?_
      refine lv_iload hx hb dX12_tryRing_61 (lv_at hl 0 rfl) ?_
      refine lv_iadd hx hb dX12_tryRing_63 ?_
      refine lv_topi (fun v12 ev12 => ?_)
      have jv12 : v12.toInt = v6.toInt + v10.toInt := xi_add ev12 rfl rfl (by omega) (by omega)
      refine lv_istore_n (lv' := [(2, .int v12), (6, .int v10), (5, .int c1), (4, .int 0), (3, .int 1), (0, .ref a0), (1, .int 2)]) hx hb dX12_tryRing_64 rfl hl (by decide) rfl (fun ls hl => ?_)
      refine lv_iinc (v := 2) (lv' := [(3, .int 2), (2, .int v12), (6, .int v10), (5, .int c1), (4, .int 0), (0, .ref a0), (1, .int 2)]) hx hb dX12_tryRing_65 hl (k := 4) rfl (by decide) (by decide) rfl (fun ls hl => ?_)
      refine lv_goto (tgt := 4) hx hb dX12_tryRing_68 (by decide) ?_
      refine lv_iload_n hx hb dX12_tryRing_4 rfl (lv_at hl 0 rfl) ?_
      refine lv_iload_n hx hb dX12_tryRing_5 rfl (lv_at hl 6 rfl) ?_
      refine lv_icmp_ge (tgt := 71) hx hb dX12_tryRing_6 (by decide) (fun _ => ?_) (fun h => absurd (by decide) h)
      refine lv_iload_n hx hb dX12_tryRing_71 rfl (lv_at hl 1 rfl) ?_
      refine lv_aload_n hx hb dX12_tryRing_72 rfl (lv_at hl 5 rfl) ?_
      refine h_get (v := .int f0_44) hx hb hts iX12 hown g t_a0 (by decide) so_13 rfl 44 (by decide) (hts (.fieldLink RX12 280 "CapLeagueModel" "bestSum" "I") (by decide +kernel)) rfl dX12_tryRing_73 (congrArg Value.int (ef0_44.symm)) ?_
      refine lv_icmp_gt (tgt := 80) hx hb dX12_tryRing_76 (by decide) (fun c14 => ?_) (fun c14 => ?_)
      · have ic14 := (xi_lt c14 rfl rfl : f0_44.toInt < v12.toInt)
        refine lv_iconst (v := 0) hx hb dX12_tryRing_80 (by decide) ?_
        refine lv_istore_n (lv' := [(3, .int 0), (2, .int v12), (6, .int v10), (5, .int c1), (4, .int 0), (0, .ref a0), (1, .int 2)]) hx hb dX12_tryRing_81 rfl hl (by decide) rfl (fun ls hl => ?_)
        refine lv_iload_n hx hb dX12_tryRing_82 rfl (lv_at hl 0 rfl) ?_
        refine lv_iload_n hx hb dX12_tryRing_83 rfl (lv_at hl 6 rfl) ?_
        refine lv_icmp_ge (tgt := 125) hx hb dX12_tryRing_84 (by decide) (fun h => absurd h (by decide)) (fun _ => ?_)
        refine lv_aload_n hx hb dX12_tryRing_87 rfl (lv_at hl 5 rfl) ?_
        refine lv_aload_n hx hb dX12_tryRing_88 rfl (lv_at hl 5 rfl) ?_
        refine h_get (v := .ref tc) hx hb hts iX12 hown g t_a0 (by decide) so_13 rfl 42 (by decide) (hts (.fieldLink RX12 97 "CapLeagueModel" "triedClub" "[I") (by decide +kernel)) rfl dX12_tryRing_89 (by show va_rf (z.R a0 42) = _; rw [rtc]; rfl) ?_
        refine lv_iload_n hx hb dX12_tryRing_92 rfl (lv_at hl 0 rfl) ?_
        refine h_ald hx hb g ttc (by decide) so_1342 (by unfold vp_in; decide) dX12_tryRing_93 ?_
        refine xw_i (ekc0) ?_
        refine lv_aload_n hx hb dX12_tryRing_94 rfl (lv_at hl 5 rfl) ?_
        refine h_get (v := .ref tg) hx hb hts iX12 hown g t_a0 (by decide) so_13 rfl 43 (by decide) (hts (.fieldLink RX12 100 "CapLeagueModel" "triedGives" "[I") (by decide +kernel)) rfl dX12_tryRing_95 (by show va_rf (z.R a0 43) = _; rw [rtg]; rfl) ?_
        refine lv_iload_n hx hb dX12_tryRing_98 rfl (lv_at hl 0 rfl) ?_
        refine h_ald hx hb g ttg (by decide) so_1343 (by unfold vp_in; decide) dX12_tryRing_99 ?_
        refine xw_i (ekg0) ?_
        refine lv_aload_n hx hb dX12_tryRing_100 rfl (lv_at hl 5 rfl) ?_
        refine h_get (v := .ref tg) hx hb hts iX12 hown g t_a0 (by decide) so_13 rfl 43 (by decide) (hts (.fieldLink RX12 100 "CapLeagueModel" "triedGives" "[I") (by decide +kernel)) rfl dX12_tryRing_101 (by show va_rf (z.R a0 43) = _; rw [rtg]; rfl) ?_
        refine lv_iload_n hx hb dX12_tryRing_104 rfl (lv_at hl 0 rfl) ?_
        refine lv_iload_n hx hb dX12_tryRing_105 rfl (lv_at hl 6 rfl) ?_
        refine lv_iadd hx hb dX12_tryRing_106 ?_
        refine xw_i (v := 2) (by decide) ?_
        refine lv_iconst (v := 1) hx hb dX12_tryRing_107 (by decide) ?_
        refine lv_isub hx hb dX12_tryRing_108 ?_
        refine xw_i (v := 1) (by decide) ?_
        refine lv_iload_n hx hb dX12_tryRing_109 rfl (lv_at hl 6 rfl) ?_
        refine lv_irem hx hb dX12_tryRing_110 (by decide) ?_
        refine xw_i (v := 1) (by decide) ?_
        refine h_ald hx hb g ttg (by decide) so_1343 (by unfold vp_in; decide) dX12_tryRing_111 ?_
        refine xw_i (ekg1) ?_
        refine vp_callSi (W.runV (As := [.int c0, .int g0, .int g1]) (rest := []) ⟨hx, hb, hml, hown, hts⟩ (tX12_isLegalR l E X A z I0 L0 a0 t_a0 c0 (c0.toInt) rfl (by omega) g0 (g0.toInt) rfl (by omega) g1 (g1.toInt) rfl (by omega) (u_) (hmp0) (by rw [qf0_13]; omega) (by rw [qf0_13]; omega)) (cwV 3 hts gX12_tryRing_X12_isLegal rfl rfl rfl (by decide +kernel) ⟨Nat.le_of_ble_eq_true rfl, Nat.le_of_ble_eq_true rfl⟩) ⟨h_blind _ _ _ _ _ _ _, h_recv g t_a0 (by decide) so_13 (q := (RX12, TX12, 51)) rfl, h_pre _ hE hk hX hA hI hR g⟩ rfl rfl hl.1 rfl (lv_room (Nat.le_of_ble_eq_true rfl)) dX12_tryRing_112 ⟨Nat.le_of_ble_eq_true rfl, Nat.le_of_ble_eq_true rfl⟩) (fun rh16 h16 => ?_)
        obtain ⟨h16, h16p0⟩ := h16
        refine lv_if_ne (tgt := 119) hx hb dX12_tryRing_115 (by decide) (fun c17 => ?_) (fun c17 => ?_)
        · have ic17 := (xi_ne c17 rfl (by decide) : rh16.toInt ≠ 0)
          refine lv_iinc (v := 1) (lv' := [(3, .int 1), (2, .int v12), (6, .int v10), (5, .int c1), (4, .int 0), (0, .ref a0), (1, .int 2)]) hx hb dX12_tryRing_119 hl (k := 0) rfl (by decide) (by decide) rfl (fun ls hl => ?_)
          refine lv_goto (tgt := 82) hx hb dX12_tryRing_122 (by decide) ?_
          refine lv_iload_n hx hb dX12_tryRing_82 rfl (lv_at hl 0 rfl) ?_
          refine lv_iload_n hx hb dX12_tryRing_83 rfl (lv_at hl 6 rfl) ?_
          refine lv_icmp_ge (tgt := 125) hx hb dX12_tryRing_84 (by decide) (fun h => absurd h (by decide)) (fun _ => ?_)
          refine lv_aload_n hx hb dX12_tryRing_87 rfl (lv_at hl 5 rfl) ?_
          refine lv_aload_n hx hb dX12_tryRing_88 rfl (lv_at hl 5 rfl) ?_
          refine h_get (v := .ref tc) hx hb hts iX12 hown g t_a0 (by decide) so_13 rfl 42 (by decide) (hts (.fieldLink RX12 97 "CapLeagueModel" "triedClub" "[I") (by decide +kernel)) rfl dX12_tryRing_89 (by show va_rf (z.R a0 42) = _; rw [rtc]; rfl) ?_
          refine lv_iload_n hx hb dX12_tryRing_92 rfl (lv_at hl 0 rfl) ?_
          refine h_ald hx hb g ttc (by decide) so_1342 (by unfold vp_in; decide) dX12_tryRing_93 ?_
          refine xw_i (ekc1) ?_
          refine lv_aload_n hx hb dX12_tryRing_94 rfl (lv_at hl 5 rfl) ?_
          refine h_get (v := .ref tg) hx hb hts iX12 hown g t_a0 (by decide) so_13 rfl 43 (by decide) (hts (.fieldLink RX12 100 "CapLeagueModel" "triedGives" "[I") (by decide +kernel)) rfl dX12_tryRing_95 (by show va_rf (z.R a0 43) = _; rw [rtg]; rfl) ?_
          refine lv_iload_n hx hb dX12_tryRing_98 rfl (lv_at hl 0 rfl) ?_
          refine h_ald hx hb g ttg (by decide) so_1343 (by unfold vp_in; decide) dX12_tryRing_99 ?_
          refine xw_i (ekg1) ?_
          refine lv_aload_n hx hb dX12_tryRing_100 rfl (lv_at hl 5 rfl) ?_
          refine h_get (v := .ref tg) hx hb hts iX12 hown g t_a0 (by decide) so_13 rfl 43 (by decide) (hts (.fieldLink RX12 100 "CapLeagueModel" "triedGives" "[I") (by decide +kernel)) rfl dX12_tryRing_101 (by show va_rf (z.R a0 43) = _; rw [rtg]; rfl) ?_
          refine lv_iload_n hx hb dX12_tryRing_104 rfl (lv_at hl 0 rfl) ?_
          refine lv_iload_n hx hb dX12_tryRing_105 rfl (lv_at hl 6 rfl) ?_
          refine lv_iadd hx hb dX12_tryRing_106 ?_
          refine xw_i (v := 3) (by decide) ?_
          refine lv_iconst (v := 1) hx hb dX12_tryRing_107 (by decide) ?_
          refine lv_isub hx hb dX12_tryRing_108 ?_
          refine xw_i (v := 2) (by decide) ?_
          refine lv_iload_n hx hb dX12_tryRing_109 rfl (lv_at hl 6 rfl) ?_
          refine lv_irem hx hb dX12_tryRing_110 (by decide) ?_
          refine xw_i (v := 0) (by decide) ?_
          refine h_ald hx hb g ttg (by decide) so_1343 (by unfold vp_in; decide) dX12_tryRing_111 ?_
          refine xw_i (ekg0) ?_
          refine vp_callSi (W.runV (As := [.int c1, .int g1, .int g0]) (rest := []) ⟨hx, hb, hml, hown, hts⟩ (tX12_isLegalR l E X A z I0 L0 a0 t_a0 c1 (c1.toInt) rfl (by omega) g1 (g1.toInt) rfl (by omega) g0 (g0.toInt) rfl (by omega) (u_) (hmp0) (by rw [qf0_13]; omega) (by rw [qf0_13]; omega)) (cwV 3 hts gX12_tryRing_X12_isLegal rfl rfl rfl (by decide +kernel) ⟨Nat.le_of_ble_eq_true rfl, Nat.le_of_ble_eq_true rfl⟩) ⟨h_blind _ _ _ _ _ _ _, h_recv g t_a0 (by decide) so_13 (q := (RX12, TX12, 51)) rfl, h_pre _ hE hk hX hA hI hR g⟩ rfl rfl hl.1 rfl (lv_room (Nat.le_of_ble_eq_true rfl)) dX12_tryRing_112 ⟨Nat.le_of_ble_eq_true rfl, Nat.le_of_ble_eq_true rfl⟩) (fun rh19 h19 => ?_)
          obtain ⟨h19, h19p0⟩ := h19
          refine lv_if_ne (tgt := 119) hx hb dX12_tryRing_115 (by decide) (fun c20 => ?_) (fun c20 => ?_)
          · have ic20 := (xi_ne c20 rfl (by decide) : rh19.toInt ≠ 0)
            refine lv_iinc (v := 2) (lv' := [(3, .int 2), (2, .int v12), (6, .int v10), (5, .int c1), (4, .int 0), (0, .ref a0), (1, .int 2)]) hx hb dX12_tryRing_119 hl (k := 0) rfl (by decide) (by decide) rfl (fun ls hl => ?_)
            refine lv_goto (tgt := 82) hx hb dX12_tryRing_122 (by decide) ?_
            refine lv_iload_n hx hb dX12_tryRing_82 rfl (lv_at hl 0 rfl) ?_
            refine lv_iload_n hx hb dX12_tryRing_83 rfl (lv_at hl 6 rfl) ?_
            refine lv_icmp_ge (tgt := 125) hx hb dX12_tryRing_84 (by decide) (fun _ => ?_) (fun h => absurd (by decide) h)
            refine lv_aload_n hx hb dX12_tryRing_125 rfl (lv_at hl 5 rfl) ?_
            refine lv_iload_n hx hb dX12_tryRing_126 rfl (lv_at hl 1 rfl) ?_
            refine h_putI (ty := .int) (v := v12) hx hb hts iX12 tyX12 tyX12_ok nmX12 hown g t_a0 (by decide) so_13 rfl 44 (by decide) rfl (hts (.fieldLink RX12 280 "CapLeagueModel" "bestSum" "I") (by decide +kernel)) rfl rfl (by decide +kernel) rfl rfl dX12_tryRing_127 (fun I22 H locs eI22 g => ?_)
            have hI := hI.wr eI22 t_a0 (rfl : h_bd 13 44 = ((-2147483648), 2147483647)) (xi_lo _) (Int.le_of_lt_add_one (xi_hi _))
            have hF := hF.wr eI22 t_a0 rfl
            refine lv_aload_n hx hb dX12_tryRing_130 rfl (lv_at hl 5 rfl) ?_
            refine lv_iload_n hx hb dX12_tryRing_131 rfl (lv_at hl 6 rfl) ?_
            refine h_putI (ty := .int) (v := 2) hx hb hts iX12 tyX12 tyX12_ok nmX12 hown g t_a0 (by decide) so_13 rfl 45 (by decide) rfl (hts (.fieldLink RX12 286 "CapLeagueModel" "bestMany" "I") (by decide +kernel)) rfl rfl (by decide +kernel) rfl rfl dX12_tryRing_132 (fun I23 H locs eI23 g => ?_)
            have hI := hI.wr eI23 t_a0 (rfl : h_bd 13 45 = (0, 3)) (by decide) (by decide)
            have hF := hF.wr eI23 t_a0 rfl
            refine lv_iconst (v := 0) hx hb dX12_tryRing_135 (by decide) ?_
            refine lv_istore_n (lv' := [(3, .int 0), (2, .int v12), (6, .int v10), (5, .int c1), (4, .int 0), (0, .ref a0), (1, .int 2)]) hx hb dX12_tryRing_136 rfl hl (by decide) rfl (fun ls hl => ?_)
            refine lv_iload_n hx hb dX12_tryRing_137 rfl (lv_at hl 0 rfl) ?_
            refine lv_iload_n hx hb dX12_tryRing_138 rfl (lv_at hl 6 rfl) ?_
            refine lv_icmp_ge (tgt := 172) hx hb dX12_tryRing_139 (by decide) (fun h => absurd h (by decide)) (fun _ => ?_)
            refine lv_aload_n hx hb dX12_tryRing_142 rfl (lv_at hl 5 rfl) ?_
            refine h_get (v := .ref rc) hx hb hts iX12 hown g t_a0 (by decide) so_13 rfl 39 (by decide) (hts (.fieldLink RX12 91 "CapLeagueModel" "ringClub" "[I") (by decide +kernel)) rfl dX12_tryRing_143 (by show va_rf (z.R a0 39) = _; rw [rrc]; rfl) ?_
            refine lv_iload_n hx hb dX12_tryRing_146 rfl (lv_at hl 0 rfl) ?_
            refine lv_aload_n hx hb dX12_tryRing_147 rfl (lv_at hl 5 rfl) ?_
            refine h_get (v := .ref tc) hx hb hts iX12 hown g t_a0 (by decide) so_13 rfl 42 (by decide) (hts (.fieldLink RX12 97 "CapLeagueModel" "triedClub" "[I") (by decide +kernel)) rfl dX12_tryRing_148 (by show va_rf (z.R a0 42) = _; rw [rtc]; rfl) ?_
            refine lv_iload_n hx hb dX12_tryRing_151 rfl (lv_at hl 0 rfl) ?_
            refine h_ald hx hb g ttc (by decide) so_1342 (by unfold vp_in; decide) dX12_tryRing_152 ?_
            refine xw_i ((h_n1 eI23 ttc t_a0 (by decide)).trans ((h_n1 eI22 ttc t_a0 (by decide)).trans (ekc0))) ?_
            refine h_ast hx hb g trc (by decide) so_1339 (by unfold vp_in; decide) dX12_tryRing_153 (fun I25 H locs eI25 g => ?_)
            have hI := hI.wr eI25 trc (rfl : h_bd 1339 _ = ((-2147483648), 2147483647)) (xi_lo _) (Int.le_of_lt_add_one (xi_hi _))
            have hF := hF.wr eI25 trc rfl
            refine lv_aload_n hx hb dX12_tryRing_154 rfl (lv_at hl 5 rfl) ?_
            refine h_get (v := .ref rg) hx hb hts iX12 hown g t_a0 (by decide) so_13 rfl 40 (by decide) (hts (.fieldLink RX12 94 "CapLeagueModel" "ringGives" "[I") (by decide +kernel)) rfl dX12_tryRing_155 (by show va_rf (z.R a0 40) = _; rw [rrg]; rfl) ?_
            refine lv_iload_n hx hb dX12_tryRing_158 rfl (lv_at hl 0 rfl) ?_
            refine lv_aload_n hx hb dX12_tryRing_159 rfl (lv_at hl 5 rfl) ?_
            refine h_get (v := .ref tg) hx hb hts iX12 hown g t_a0 (by decide) so_13 rfl 43 (by decide) (hts (.fieldLink RX12 100 "CapLeagueModel" "triedGives" "[I") (by decide +kernel)) rfl dX12_tryRing_160 (by show va_rf (z.R a0 43) = _; rw [rtg]; rfl) ?_
            refine lv_iload_n hx hb dX12_tryRing_163 rfl (lv_at hl 0 rfl) ?_
            refine h_ald hx hb g ttg (by decide) so_1343 (by unfold vp_in; decide) dX12_tryRing_164 ?_
            refine xw_i ((h_n1 eI25 ttg trc (by decide)).trans ((h_n1 eI23 ttg t_a0 (by decide)).trans ((h_n1 eI22 ttg t_a0 (by decide)).trans (ekg0)))) ?_
            refine h_ast hx hb g trg (by decide) so_1340 (by unfold vp_in; decide) dX12_tryRing_165 (fun I26 H locs eI26 g => ?_)
            have hI := hI.wr eI26 trg (rfl : h_bd 1340 _ = ((-2147483648), 2147483647)) (xi_lo _) (Int.le_of_lt_add_one (xi_hi _))
            have hF := hF.wr eI26 trg rfl
            refine lv_iinc (v := 1) (lv' := [(3, .int 1), (2, .int v12), (6, .int v10), (5, .int c1), (4, .int 0), (0, .ref a0), (1, .int 2)]) hx hb dX12_tryRing_166 hl (k := 0) rfl (by decide) (by decide) rfl (fun ls hl => ?_)
            refine lv_goto (tgt := 137) hx hb dX12_tryRing_169 (by decide) ?_
            refine lv_iload_n hx hb dX12_tryRing_137 rfl (lv_at hl 0 rfl) ?_
            refine lv_iload_n hx hb dX12_tryRing_138 rfl (lv_at hl 6 rfl) ?_
            refine lv_icmp_ge (tgt := 172) hx hb dX12_tryRing_139 (by decide) (fun h => absurd h (by decide)) (fun _ => ?_)
            refine lv_aload_n hx hb dX12_tryRing_142 rfl (lv_at hl 5 rfl) ?_
            refine h_get (v := .ref rc) hx hb hts iX12 hown g t_a0 (by decide) so_13 rfl 39 (by decide) (hts (.fieldLink RX12 91 "CapLeagueModel" "ringClub" "[I") (by decide +kernel)) rfl dX12_tryRing_143 (by show va_rf (z.R a0 39) = _; rw [rrc]; rfl) ?_
            refine lv_iload_n hx hb dX12_tryRing_146 rfl (lv_at hl 0 rfl) ?_
            refine lv_aload_n hx hb dX12_tryRing_147 rfl (lv_at hl 5 rfl) ?_
            refine h_get (v := .ref tc) hx hb hts iX12 hown g t_a0 (by decide) so_13 rfl 42 (by decide) (hts (.fieldLink RX12 97 "CapLeagueModel" "triedClub" "[I") (by decide +kernel)) rfl dX12_tryRing_148 (by show va_rf (z.R a0 42) = _; rw [rtc]; rfl) ?_
            refine lv_iload_n hx hb dX12_tryRing_151 rfl (lv_at hl 0 rfl) ?_
            refine h_ald hx hb g ttc (by decide) so_1342 (by unfold vp_in; decide) dX12_tryRing_152 ?_
            refine xw_i ((h_n1 eI26 ttc trg (by decide)).trans ((h_n1 eI25 ttc trc (by decide)).trans ((h_n1 eI23 ttc t_a0 (by decide)).trans ((h_n1 eI22 ttc t_a0 (by decide)).trans (ekc1))))) ?_
            refine h_ast hx hb g trc (by decide) so_1339 (by unfold vp_in; decide) dX12_tryRing_153 (fun I28 H locs eI28 g => ?_)
            have hI := hI.wr eI28 trc (rfl : h_bd 1339 _ = ((-2147483648), 2147483647)) (xi_lo _) (Int.le_of_lt_add_one (xi_hi _))
            have hF := hF.wr eI28 trc rfl
            refine lv_aload_n hx hb dX12_tryRing_154 rfl (lv_at hl 5 rfl) ?_
            refine h_get (v := .ref rg) hx hb hts iX12 hown g t_a0 (by decide) so_13 rfl 40 (by decide) (hts (.fieldLink RX12 94 "CapLeagueModel" "ringGives" "[I") (by decide +kernel)) rfl dX12_tryRing_155 (by show va_rf (z.R a0 40) = _; rw [rrg]; rfl) ?_
            refine lv_iload_n hx hb dX12_tryRing_158 rfl (lv_at hl 0 rfl) ?_
            refine lv_aload_n hx hb dX12_tryRing_159 rfl (lv_at hl 5 rfl) ?_
            refine h_get (v := .ref tg) hx hb hts iX12 hown g t_a0 (by decide) so_13 rfl 43 (by decide) (hts (.fieldLink RX12 100 "CapLeagueModel" "triedGives" "[I") (by decide +kernel)) rfl dX12_tryRing_160 (by show va_rf (z.R a0 43) = _; rw [rtg]; rfl) ?_
            refine lv_iload_n hx hb dX12_tryRing_163 rfl (lv_at hl 0 rfl) ?_
            refine h_ald hx hb g ttg (by decide) so_1343 (by unfold vp_in; decide) dX12_tryRing_164 ?_
            refine xw_i ((h_n1 eI28 ttg trc (by decide)).trans ((h_n1 eI26 ttg trg (by decide)).trans ((h_n1 eI25 ttg trc (by decide)).trans ((h_n1 eI23 ttg t_a0 (by decide)).trans ((h_n1 eI22 ttg t_a0 (by decide)).trans (ekg1)))))) ?_
            refine h_ast hx hb g trg (by decide) so_1340 (by unfold vp_in; decide) dX12_tryRing_165 (fun I29 H locs eI29 g => ?_)
            have hI := hI.wr eI29 trg (rfl : h_bd 1340 _ = ((-2147483648), 2147483647)) (xi_lo _) (Int.le_of_lt_add_one (xi_hi _))
            have hF := hF.wr eI29 trg rfl
            refine lv_iinc (v := 2) (lv' := [(3, .int 2), (2, .int v12), (6, .int v10), (5, .int c1), (4, .int 0), (0, .ref a0), (1, .int 2)]) hx hb dX12_tryRing_166 hl (k := 0) rfl (by decide) (by decide) rfl (fun ls hl => ?_)
            refine lv_goto (tgt := 137) hx hb dX12_tryRing_169 (by decide) ?_
            refine lv_iload_n hx hb dX12_tryRing_137 rfl (lv_at hl 0 rfl) ?_
            refine lv_iload_n hx hb dX12_tryRing_138 rfl (lv_at hl 6 rfl) ?_
            refine lv_icmp_ge (tgt := 172) hx hb dX12_tryRing_139 (by decide) (fun _ => ?_) (fun h => absurd (by decide) h)
            have hS := g.2.1
            exact W.vret hx hb hr (fun t ht hW => ⟨⟨I29, rfl, ⟨hI, hF, (by rw [atc, atg, ← ec0, ← ec1, ← eg0, ← eg1]; rw [show r_st2 (m_G z I0 a0 u_) c0.toInt c1.toInt g0.toInt.toNat g1.toInt.toNat s_ = _ from r_st2_y (g := m_G z I0 a0 u_) ((r_g_y (by rw [bE0]; omega) (by rcases h16p0 with q | q; exact q.2; omega)).trans (congrArg Int32.toInt bE0) : m_G z I0 a0 u_ c0.toInt g0.toInt.toNat g1.toInt.toNat = v4.toInt) ((r_g_y (by rw [bE1]; omega) (by rcases h19p0 with q | q; exact q.2; omega)).trans (congrArg Int32.toInt bE1) : m_G z I0 a0 u_ c1.toInt g1.toInt.toNat g0.toInt.toNat = v10.toInt) (by omega) (by omega) (by omega)]; unfold m_rs; rw [arc, arg]; exact ⟨by rw [(h_n1 eI29 t_a0 trg (by decide)).trans ((h_n1 eI28 t_a0 trc (by decide)).trans ((h_n1 eI26 t_a0 trg (by decide)).trans ((h_n1 eI25 t_a0 trc (by decide)).trans ((h_n2 eI23 (by decide)).trans (h_n0 eI22)))))]; show _ = v4.toInt + v10.toInt; omega, by rw [(h_n1 eI29 t_a0 trg (by decide)).trans ((h_n1 eI28 t_a0 trc (by decide)).trans ((h_n1 eI26 t_a0 trg (by decide)).trans ((h_n1 eI25 t_a0 trc (by decide)).trans (h_n0 eI23))))]; show (2 : Int32).toInt = ((2 : Nat) : Int); decide, fun i hi => by rcases (show i = 0 ∨ i = 1 by simp at hi; omega) with rfl | rfl; exact ⟨by have h9 := (h_n1 eI29 trc trg (by decide)).trans ((h_n2 eI28 (by decide)).trans ((h_n1 eI26 trc trg (by decide)).trans (h_n0 eI25))); rw [show (0 : Int32).toNatClampNeg = 0 by decide] at h9; rw [h9]; rfl, by have h9 := (h_n2 eI29 (by decide)).trans ((h_n1 eI28 trg trc (by decide)).trans (h_n0 eI26)); rw [show (0 : Int32).toNatClampNeg = 0 by decide] at h9; rw [h9]; show g0.toInt = ((g0.toInt.toNat : Nat) : Int); omega⟩; exact ⟨by have h9 := (h_n1 eI29 trc trg (by decide)).trans (h_n0 eI28); rw [show (1 : Int32).toNatClampNeg = 1 by decide] at h9; rw [h9]; rfl, by have h9 := h_n0 eI29; rw [show (1 : Int32).toNatClampNeg = 1 by decide] at h9; rw [h9]; show g1.toInt = ((g1.toInt.toNat : Nat) : Int); omega⟩⟩)⟩, h_ret g ht⟩, hS.F ht⟩) hS.2.2 dX12_tryRing_172
          · have ic20 := (xi_eq c20 rfl (by decide) : rh19.toInt = 0)
            have hS := g.2.1
            exact W.vret hx hb hr (fun t ht hW => ⟨⟨I0, rfl, ⟨hI, hF, (by rw [atc, atg, ← ec0, ← ec1, ← eg0, ← eg1]; rw [r_st2_n (Or.inr (Or.inl (by rw [show m_G z I0 a0 u_ c1.toInt g1.toInt.toNat g0.toInt.toNat = 0 from r_g_n (Or.inr (by rcases h19p0 with q | q; omega; exact q.2))]; exact Int.le_refl _)))]; exact hs0)⟩, h_ret g ht⟩, hS.F ht⟩) hS.2.2 dX12_tryRing_118
        · have ic17 := (xi_eq c17 rfl (by decide) : rh16.toInt = 0)
          have hS := g.2.1
          exact W.vret hx hb hr (fun t ht hW => ⟨⟨I0, rfl, ⟨hI, hF, (by rw [atc, atg, ← ec0, ← ec1, ← eg0, ← eg1]; rw [r_st2_n (Or.inl (by rw [show m_G z I0 a0 u_ c0.toInt g0.toInt.toNat g1.toInt.toNat = 0 from r_g_n (Or.inr (by rcases h16p0 with q | q; omega; exact q.2))]; exact Int.le_refl _))]; exact hs0)⟩, h_ret g ht⟩, hS.F ht⟩) hS.2.2 dX12_tryRing_118
      · have ic14 := (xi_nlt c14 rfl rfl : v12.toInt ≤ f0_44.toInt)
        have hS := g.2.1
        exact W.vret hx hb hr (fun t ht hW => ⟨⟨I0, rfl, ⟨hI, hF, (by rw [atc, atg, ← ec0, ← ec1, ← eg0, ← eg1]; have l0 : m_G z I0 a0 u_ c0.toInt g0.toInt.toNat g1.toInt.toNat ≤ (m_w z I0 a0 c0.toInt g1.toInt.toNat - m_w z I0 a0 c0.toInt g0.toInt.toNat).toInt := r_g_le (by rw [bE0]; omega); have l1 : m_G z I0 a0 u_ c1.toInt g1.toInt.toNat g0.toInt.toNat ≤ (m_w z I0 a0 c1.toInt g0.toInt.toNat - m_w z I0 a0 c1.toInt g1.toInt.toNat).toInt := r_g_le (by rw [bE1]; omega); rw [bE0] at l0; rw [bE1] at l1; rw [r_st2_n (Or.inr (Or.inr ((by omega))))]; exact hs0)⟩, h_ret g ht⟩, hS.F ht⟩) hS.2.2 dX12_tryRing_79
    · have ic11 := (xi_nlt c11 (by decide) rfl : v10.toInt ≤ 0)
      have hS := g.2.1
      exact W.vret hx hb hr (fun t ht hW => ⟨⟨I0, rfl, ⟨hI, hF, (by rw [atc, atg, ← ec0, ← ec1, ← eg0, ← eg1]; rw [r_st2_n (Or.inr (Or.inl (by rw [show m_G z I0 a0 u_ c1.toInt g1.toInt.toNat g0.toInt.toNat = 0 from r_g_n (Or.inl (by rw [bE1]; omega))]; exact Int.le_refl _)))]; exact hs0)⟩, h_ret g ht⟩, hS.F ht⟩) hS.2.2 dX12_tryRing_59
  · have ic5 := (xi_nlt c5 (by decide) rfl : v4.toInt ≤ 0)
    have hS := g.2.1
    exact W.vret hx hb hr (fun t ht hW => ⟨⟨I0, rfl, ⟨hI, hF, (by rw [atc, atg, ← ec0, ← ec1, ← eg0, ← eg1]; rw [r_st2_n (Or.inl (by rw [show m_G z I0 a0 u_ c0.toInt g0.toInt.toNat g1.toInt.toNat = 0 from r_g_n (Or.inl (by rw [bE0]; omega))]; exact Int.le_refl _))]; exact hs0)⟩, h_ret g ht⟩, hS.F ht⟩) hS.2.2 dX12_tryRing_59
set_option maxHeartbeats 4000000 in
set_option maxRecDepth 100000 in
theorem tX12_tryRing3R (l : Launch) (E : tE) (X : tX) (A : Nat → Prop) (z : tZ) (I0 : tI) (L0 : tL) (a0 : Nat) (t_a0 : z.ty a0 = 13) (u_ : Nat → Int) (hmp : m_pre z I0 a0 u_) (hg : ∀ i : Nat, i < 3 → (I0 (h_ad z a0 43) i).toInt < (I0 a0 13).toInt) (s_ : tS) (hs : m_rs z I0 a0 s_) : Met l yX12_tryRing wsX12_tryRing ({ frames := 6, cells := 0, slots := 0, locals := 384 }) (va_Pc [.ref a0, .int 3] (h_P E X A z I0 L0)) (va_Qv (fun (I1 : tI) => h_I z I1 ∧ h_F [(13, 44), (13, 45), (1339, 999), (1340, 999)] z I0 I1 ∧ (m_rs z I1 a0 (r_st3 (m_G z I0 a0 u_) (I0 (h_ad z a0 42) 0).toInt (I0 (h_ad z a0 42) 1).toInt (I0 (h_ad z a0 42) 2).toInt (I0 (h_ad z a0 43) 0).toInt.toNat (I0 (h_ad z a0 43) 1).toInt.toNat (I0 (h_ad z a0 43) 2).toInt.toNat s_))) (fun (I1 : tI) t => h_B E A z I1 L0 t) A) 0 0 A := by
  refine Met.ofW (cc := cX12_tryRing) (maxL := 7) (ret := none) (by decide) rfl ?_
  intro pr_ ev_ s m args below meth cd_ s₁ B hml hv
  obtain ⟨rfl, hE, hk, hX, hA, hK, hI, hR, hB0⟩ := hv
  have g : h_G h_so h_fk E A z I0 L0 s s.heap s.heap [] := ⟨hK, va_S.rf, hB0⟩
  have hF : h_F [(13, 44), (13, 45), (1339, 999), (1340, 999)] z I0 I0 := h_F.rf
  have hx := B.exec
  have hb := B.bytes
  have hr := B.returns
  have hts := atoms_spec (ws := wsX12_tryRing) B.pre
  have hown : s.vm.findClass RX12 = some m.cls := findClass_of_methodNamed B.named
  have hlocks := B.notSynchronized
  have iX12 : ∀ w ∈ u_ws RX12 TX12 51, w ∈ wsX12_tryRing := by decide +kernel
  have hl := lv_entry ([.ref a0, .int 3]) (n := 7) (Nat.le_of_ble_eq_true rfl)
  rw [lg_entry_eq]
  generalize (lg_sl ([.ref a0, .int 3]) ++ List.replicate (7 - (lg_sl ([.ref a0, .int 3])).length) Slot.unset).toArray = ls at hl ⊢
  have hl : lv_has ls 7 [(0, .ref a0), (1, .int 3)] := hl
  obtain ⟨tc, rtc, ttc⟩ := hR.at a0 42 t_a0 (rfl : h_rs 13 42 = some (1342, false)) (by decide)
  have atc : h_ad z a0 42 = tc := h_ad.at rtc
  obtain ⟨tg, rtg, ttg⟩ := hR.at a0 43 t_a0 (rfl : h_rs 13 43 = some (1343, false)) (by decide)
  have atg : h_ad z a0 43 = tg := h_ad.at rtg
  obtain ⟨rc, rrc, trc⟩ := hR.at a0 39 t_a0 (rfl : h_rs 13 39 = some (1339, false)) (by decide)
  have arc : h_ad z a0 39 = rc := h_ad.at rrc
  obtain ⟨rg, rrg, trg⟩ := hR.at a0 40 t_a0 (rfl : h_rs 13 40 = some (1340, false)) (by decide)
  have arg : h_ad z a0 40 = rg := h_ad.at rrg
  obtain ⟨f0_13, ef0_13⟩ : ∃ v : Int32, v = I0 a0 13 := ⟨_, rfl⟩
  have qf0_13 : (I0 a0 13).toInt = f0_13.toInt := congrArg Int32.toInt ef0_13.symm
  have jf0_13 := hI.rd a0 13 t_a0 ef0_13 (rfl : h_bd 13 13 = (0, 60))
  obtain ⟨f0_44, ef0_44⟩ : ∃ v : Int32, v = I0 a0 44 := ⟨_, rfl⟩
  have qf0_44 : (I0 a0 44).toInt = f0_44.toInt := congrArg Int32.toInt ef0_44.symm
  have jf0_44 := hI.rd a0 44 t_a0 ef0_44 (rfl : h_bd 13 44 = ((-2147483648), 2147483647))
  obtain ⟨f0_45, ef0_45⟩ : ∃ v : Int32, v = I0 a0 45 := ⟨_, rfl⟩
  have qf0_45 : (I0 a0 45).toInt = f0_45.toInt := congrArg Int32.toInt ef0_45.symm
  have jf0_45 := hI.rd a0 45 t_a0 ef0_45 (rfl : h_bd 13 45 = (0, 3))
  have hmp0 := hmp
  obtain ⟨hr0, hob, hpb, hwb, hun⟩ := id hmp
  have hs0 := hs
  obtain ⟨hs1, hs2, hs3⟩ := hs
  rw [qf0_44] at hs1
  obtain ⟨c0, ec0⟩ : ∃ v : Int32, v = I0 tc 0 := ⟨_, rfl⟩
  have ekc0 : I0 tc (0 : Int32).toNatClampNeg = c0 := by rw [show (0 : Int32).toNatClampNeg = 0 by decide]; exact ec0.symm
  have jc0 := hI.rd tc 0 ttc ec0 (rfl : h_bd 1342 _ = (0, 7))
  obtain ⟨g0, eg0⟩ : ∃ v : Int32, v = I0 tg 0 := ⟨_, rfl⟩
  have ekg0 : I0 tg (0 : Int32).toNatClampNeg = g0 := by rw [show (0 : Int32).toNatClampNeg = 0 by decide]; exact eg0.symm
  have jg0 := hI.rd tg 0 ttg eg0 (rfl : h_bd 1343 _ = (0, 59))
  have hg0 : g0.toInt < f0_13.toInt := by have h9 := hg 0 (by decide); rw [atg, ← eg0, qf0_13] at h9; exact h9
  obtain ⟨c1, ec1⟩ : ∃ v : Int32, v = I0 tc 1 := ⟨_, rfl⟩
  have ekc1 : I0 tc (1 : Int32).toNatClampNeg = c1 := by rw [show (1 : Int32).toNatClampNeg = 1 by decide]; exact ec1.symm
  have jc1 := hI.rd tc 1 ttc ec1 (rfl : h_bd 1342 _ = (0, 7))
  obtain ⟨g1, eg1⟩ : ∃ v : Int32, v = I0 tg 1 := ⟨_, rfl⟩
  have ekg1 : I0 tg (1 : Int32).toNatClampNeg = g1 := by rw [show (1 : Int32).toNatClampNeg = 1 by decide]; exact eg1.symm
  have jg1 := hI.rd tg 1 ttg eg1 (rfl : h_bd 1343 _ = (0, 59))
  have hg1 : g1.toInt < f0_13.toInt := by have h9 := hg 1 (by decide); rw [atg, ← eg1, qf0_13] at h9; exact h9
  obtain ⟨c2, ec2⟩ : ∃ v : Int32, v = I0 tc 2 := ⟨_, rfl⟩
  have ekc2 : I0 tc (2 : Int32).toNatClampNeg = c2 := by rw [show (2 : Int32).toNatClampNeg = 2 by decide]; exact ec2.symm
  have jc2 := hI.rd tc 2 ttc ec2 (rfl : h_bd 1342 _ = (0, 7))
  obtain ⟨g2, eg2⟩ : ∃ v : Int32, v = I0 tg 2 := ⟨_, rfl⟩
  have ekg2 : I0 tg (2 : Int32).toNatClampNeg = g2 := by rw [show (2 : Int32).toNatClampNeg = 2 by decide]; exact eg2.symm
  have jg2 := hI.rd tg 2 ttg eg2 (rfl : h_bd 1343 _ = (0, 59))
  have hg2 : g2.toInt < f0_13.toInt := by have h9 := hg 2 (by decide); rw [atg, ← eg2, qf0_13] at h9; exact h9
  refine lv_iconst (v := 0) hx hb dX12_tryRing_0 (by decide) ?_
  refine lv_istore_n (lv' := [(2, .int 0), (0, .ref a0), (1, .int 3)]) hx hb dX12_tryRing_1 rfl hl (by decide) rfl (fun ls hl => ?_)
  refine lv_iconst (v := 0) hx hb dX12_tryRing_2 (by decide) ?_
  refine lv_istore_n (lv' := [(3, .int 0), (2, .int 0), (0, .ref a0), (1, .int 3)]) hx hb dX12_tryRing_3 rfl hl (by decide) rfl (fun ls hl => ?_)
  refine lv_iload_n hx hb dX12_tryRing_4 rfl (lv_at hl 0 rfl) ?_
  refine lv_iload_n hx hb dX12_tryRing_5 rfl (lv_at hl 3 rfl) ?_
  refine lv_icmp_ge (tgt := 71) hx hb dX12_tryRing_6 (by decide) (fun h => absurd h (by decide)) (fun _ => ?_)
  refine lv_iload_n hx hb dX12_tryRing_9 rfl (lv_at hl 0 rfl) ?_
  refine lv_iload_n hx hb dX12_tryRing_10 rfl (lv_at hl 3 rfl) ?_
  refine lv_iadd hx hb dX12_tryRing_11 ?_
  refine xw_i (v := 3) (by decide) ?_
  refine lv_iconst (v := 1) hx hb dX12_tryRing_12 (by decide) ?_
  refine lv_isub hx hb dX12_tryRing_13 ?_
  refine xw_i (v := 2) (by decide) ?_
  refine lv_iload_n hx hb dX12_tryRing_14 rfl (lv_at hl 3 rfl) ?_
  refine lv_irem hx hb dX12_tryRing_15 (by decide) ?_
  refine xw_i (v := 2) (by decide) ?_
  refine lv_istore (lv' := [(4, .int 2), (3, .int 0), (2, .int 0), (0, .ref a0), (1, .int 3)]) hx hb dX12_tryRing_16 hl (by decide) rfl (fun ls hl => ?_)
  refine lv_aload_n hx hb dX12_tryRing_18 rfl (lv_at hl 3 rfl) ?_
  refine h_get (v := .ref tc) hx hb hts iX12 hown g t_a0 (by decide) so_13 rfl 42 (by decide) (hts (.fieldLink RX12 97 "CapLeagueModel" "triedClub" "[I") (by decide +kernel)) rfl dX12_tryRing_19 (by show va_rf (z.R a0 42) = _; rw [rtc]; rfl) ?_
  refine lv_iload_n hx hb dX12_tryRing_22 rfl (lv_at hl 1 rfl) ?_
  refine h_ald hx hb g ttc (by decide) so_1342 (by unfold vp_in; decide) dX12_tryRing_23 ?_
  refine xw_i (ekc0) ?_
  refine lv_istore (lv' := [(5, .int c0), (4, .int 2), (3, .int 0), (2, .int 0), (0, .ref a0), (1, .int 3)]) hx hb dX12_tryRing_24 hl (by decide) rfl (fun ls hl => ?_)
  refine lv_aload_n hx hb dX12_tryRing_26 rfl (lv_at hl 4 rfl) ?_
  refine lv_iload hx hb dX12_tryRing_27 (lv_at hl 0 rfl) ?_
  refine lv_aload_n hx hb dX12_tryRing_29 rfl (lv_at hl 4 rfl) ?_
  refine h_get (v := .ref tg) hx hb hts iX12 hown g t_a0 (by decide) so_13 rfl 43 (by decide) (hts (.fieldLink RX12 100 "CapLeagueModel" "triedGives" "[I") (by decide +kernel)) rfl dX12_tryRing_30 (by show va_rf (z.R a0 43) = _; rw [rtg]; rfl) ?_
  refine lv_iload hx hb dX12_tryRing_33 (lv_at hl 1 rfl) ?_
  refine h_ald hx hb g ttg (by decide) so_1343 (by unfold vp_in; decide) dX12_tryRing_35 ?_
  refine xw_i (ekg2) ?_
  refine vp_callSi (W.runV (As := [.int c0, .int g2]) (rest := []) ⟨hx, hb, hml, hown, hts⟩ (tX12_worthToB l E X A z I0 L0 a0 t_a0 c0 (c0.toInt) rfl (by omega) g2 (g2.toInt) rfl (by omega)) (cwV 2 hts gX12_tryRing_X12_worthTo rfl rfl rfl (by decide +kernel) ⟨Nat.le_of_ble_eq_true rfl, Nat.le_of_ble_eq_true rfl⟩) ⟨h_blind _ _ _ _ _ _ _, h_recv g t_a0 (by decide) so_13 (q := (RX12, TX12, 51)) rfl, h_pre _ hE hk hX hA hI hR g⟩ rfl rfl hl.1 rfl (lv_room (Nat.le_of_ble_eq_true rfl)) dX12_tryRing_36 ⟨Nat.le_of_ble_eq_true rfl, Nat.le_of_ble_eq_true rfl⟩) (fun rh2 h2 => ?_)
  have h2p0 := h2
  have jrh2 : -2147483648 ≤ rh2.toInt ∧ rh2.toInt ≤ 2147483647 := ⟨xi_lo _, Int.le_of_lt_add_one (xi_hi _)⟩
  have wbrh2 : 0 ≤ rh2.toInt ∧ rh2.toInt ≤ 9999 := by rw [h2p0]; exact hwb _
  refine lv_aload_n hx hb dX12_tryRing_39 rfl (lv_at hl 4 rfl) ?_
  refine lv_iload hx hb dX12_tryRing_40 (lv_at hl 0 rfl) ?_
  refine lv_aload_n hx hb dX12_tryRing_42 rfl (lv_at hl 4 rfl) ?_
  refine h_get (v := .ref tg) hx hb hts iX12 hown g t_a0 (by decide) so_13 rfl 43 (by decide) (hts (.fieldLink RX12 100 "CapLeagueModel" "triedGives" "[I") (by decide +kernel)) rfl dX12_tryRing_43 (by show va_rf (z.R a0 43) = _; rw [rtg]; rfl) ?_
  refine lv_iload_n hx hb dX12_tryRing_46 rfl (lv_at hl 2 rfl) ?_
  refine h_ald hx hb g ttg (by decide) so_1343 (by unfold vp_in; decide) dX12_tryRing_47 ?_
  refine xw_i (ekg0) ?_
  refine vp_callSi (W.runV (As := [.int c0, .int g0]) (rest := [.int rh2]) ⟨hx, hb, hml, hown, hts⟩ (tX12_worthToB l E X A z I0 L0 a0 t_a0 c0 (c0.toInt) rfl (by omega) g0 (g0.toInt) rfl (by omega)) (cwV 2 hts gX12_tryRing_X12_worthTo rfl rfl rfl (by decide +kernel) ⟨Nat.le_of_ble_eq_true rfl, Nat.le_of_ble_eq_true rfl⟩) ⟨h_blind _ _ _ _ _ _ _, h_recv g t_a0 (by decide) so_13 (q := (RX12, TX12, 51)) rfl, h_pre _ hE hk hX hA hI hR g⟩ rfl rfl hl.1 rfl (lv_room (Nat.le_of_ble_eq_true rfl)) dX12_tryRing_48 ⟨Nat.le_of_ble_eq_true rfl, Nat.le_of_ble_eq_true rfl⟩) (fun rh3 h3 => ?_)
  have h3p0 := h3
  have jrh3 : -2147483648 ≤ rh3.toInt ∧ rh3.toInt ≤ 2147483647 := ⟨xi_lo _, Int.le_of_lt_add_one (xi_hi _)⟩
  have wbrh3 : 0 ≤ rh3.toInt ∧ rh3.toInt ≤ 9999 := by rw [h3p0]; exact hwb _
  refine lv_isub hx hb dX12_tryRing_51 ?_
  refine lv_topi (fun v4 ev4 => ?_)
  have jv4 : v4.toInt = rh2.toInt - rh3.toInt := xi_sub ev4 rfl rfl (by omega) (by omega)
  have bE0 : m_w z I0 a0 c0.toInt g2.toInt.toNat - m_w z I0 a0 c0.toInt g0.toInt.toNat = v4 := by unfold m_w; rw [show ((g2.toInt.toNat : Nat) : Int) = g2.toInt by omega, show ((g0.toInt.toNat : Nat) : Int) = g0.toInt by omega, ← h2p0, ← h3p0]; exact ev4.symm
  refine lv_istore (lv' := [(6, .int v4), (5, .int c0), (4, .int 2), (3, .int 0), (2, .int 0), (0, .ref a0), (1, .int 3)]) hx hb dX12_tryRing_52 hl (by decide) rfl (fun ls hl => ?_)
  refine lv_iload hx hb dX12_tryRing_54 (lv_at hl 0 rfl) ?_
  refine lv_if_gt (tgt := 60) hx hb dX12_tryRing_56 (by decide) (fun c5 => ?_) (fun c5 => ?_)
  · have ic5 := (xi_lt c5 (by decide) rfl : 0 < v4.toInt)
    refine lv_iload_n hx hb dX12_tryRing_60 rfl (lv_at hl 4 rfl) ?_
    refine lv_iload hx hb dX12_tryRing_61 (lv_at hl 0 rfl) ?_
    refine lv_iadd hx hb dX12_tryRing_63 ?_
    refine lv_topi (fun v6 ev6 => ?_)
    have jv6 : v6.toInt = 0 + v4.toInt := xi_add ev6 (by decide) rfl (by omega) (by omega)
    refine lv_istore_n (lv' := [(2, .int v6), (6, .int v4), (5, .int c0), (4, .int 2), (3, .int 0), (0, .ref a0), (1, .int 3)]) hx hb dX12_tryRing_64 rfl hl (by decide) rfl (fun ls hl => ?_)
    refine lv_iinc (v := 1) (lv' := [(3, .int 1), (2, .int v6), (6, .int v4), (5, .int c0), (4, .int 2), (0, .ref a0), (1, .int 3)]) hx hb dX12_tryRing_65 hl (k := 4) rfl (by decide) (by decide) rfl (fun ls hl => ?_)
    refine lv_goto (tgt := 4) hx hb dX12_tryRing_68 (by decide) ?_
    refine lv_iload_n hx hb dX12_tryRing_4 rfl (lv_at hl 0 rfl) ?_
    refine lv_iload_n hx hb dX12_tryRing_5 rfl (lv_at hl 6 rfl) ?_
    refine lv_icmp_ge (tgt := 71) hx hb dX12_tryRing_6 (by decide) (fun h => absurd h (by decide)) (fun _ => ?_)
    refine lv_iload_n hx hb dX12_tryRing_9 rfl (lv_at hl 0 rfl) ?_
    refine lv_iload_n hx hb dX12_tryRing_10 rfl (lv_at hl 6 rfl) ?_
    refine lv_iadd hx hb dX12_tryRing_11 ?_
    refine xw_i (v := 4) (by decide) ?_
    refine lv_iconst (v := 1) hx hb dX12_tryRing_12 (by decide) ?_
    refine lv_isub hx hb dX12_tryRing_13 ?_
    refine xw_i (v := 3) (by decide) ?_
    refine lv_iload_n hx hb dX12_tryRing_14 rfl (lv_at hl 6 rfl) ?_
    refine lv_irem hx hb dX12_tryRing_15 (by decide) ?_
    refine xw_i (v := 0) (by decide) ?_
    refine lv_istore (lv' := [(4, .int 0), (3, .int 1), (2, .int v6), (6, .int v4), (5, .int c0), (0, .ref a0), (1, .int 3)]) hx hb dX12_tryRing_16 hl (by decide) rfl (fun ls hl => ?_)
    refine lv_aload_n hx hb dX12_tryRing_18 rfl (lv_at hl 5 rfl) ?_
    refine h_get (v := .ref tc) hx hb hts iX12 hown g t_a0 (by decide) so_13 rfl 42 (by decide) (hts (.fieldLink RX12 97 "CapLeagueModel" "triedClub" "[I") (by decide +kernel)) rfl dX12_tryRing_19 (by show va_rf (z.R a0 42) = _; rw [rtc]; rfl) ?_
    refine lv_iload_n hx hb dX12_tryRing_22 rfl (lv_at hl 1 rfl) ?_
    refine h_ald hx hb g ttc (by decide) so_1342 (by unfold vp_in; decide) dX12_tryRing_23 ?_
    refine xw_i (ekc1) ?_
    refine lv_istore (lv' := [(5, .int c1), (4, .int 0), (3, .int 1), (2, .int v6), (6, .int v4), (0, .ref a0), (1, .int 3)]) hx hb dX12_tryRing_24 hl (by decide) rfl (fun ls hl => ?_)
    refine lv_aload_n hx hb dX12_tryRing_26 rfl (lv_at hl 5 rfl) ?_
    refine lv_iload hx hb dX12_tryRing_27 (lv_at hl 0 rfl) ?_
    refine lv_aload_n hx hb dX12_tryRing_29 rfl (lv_at hl 5 rfl) ?_
    refine h_get (v := .ref tg) hx hb hts iX12 hown g t_a0 (by decide) so_13 rfl 43 (by decide) (hts (.fieldLink RX12 100 "CapLeagueModel" "triedGives" "[I") (by decide +kernel)) rfl dX12_tryRing_30 (by show va_rf (z.R a0 43) = _; rw [rtg]; rfl) ?_
    refine lv_iload hx hb dX12_tryRing_33 (lv_at hl 1 rfl) ?_
    refine h_ald hx hb g ttg (by decide) so_1343 (by unfold vp_in; decide) dX12_tryRing_35 ?_
    refine xw_i (ekg0) ?_
    refine vp_callSi (W.runV (As := [.int c1, .int g0]) (rest := []) ⟨hx, hb, hml, hown, hts⟩ (tX12_worthToB l E X A z I0 L0 a0 t_a0 c1 (c1.toInt) rfl (by omega) g0 (g0.toInt) rfl (by omega)) (cwV 2 hts gX12_tryRing_X12_worthTo rfl rfl rfl (by decide +kernel) ⟨Nat.le_of_ble_eq_true rfl, Nat.le_of_ble_eq_true rfl⟩) ⟨h_blind _ _ _ _ _ _ _, h_recv g t_a0 (by decide) so_13 (q := (RX12, TX12, 51)) rfl, h_pre _ hE hk hX hA hI hR g⟩ rfl rfl hl.1 rfl (lv_room (Nat.le_of_ble_eq_true rfl)) dX12_tryRing_36 ⟨Nat.le_of_ble_eq_true rfl, Nat.le_of_ble_eq_true rfl⟩) (fun rh8 h8 => ?_)
    have h8p0 := h8
    have jrh8 : -2147483648 ≤ rh8.toInt ∧ rh8.toInt ≤ 2147483647 := ⟨xi_lo _, Int.le_of_lt_add_one (xi_hi _)⟩
    have wbrh8 : 0 ≤ rh8.toInt ∧ rh8.toInt ≤ 9999 := by rw [h8p0]; exact hwb _
    refine lv_aload_n hx hb dX12_tryRing_39 rfl (lv_at hl 5 rfl) ?_
    refine lv_iload hx hb dX12_tryRing_40 (lv_at hl 0 rfl) ?_
    refine lv_aload_n hx hb dX12_tryRing_42 rfl (lv_at hl 5 rfl) ?_
    refine h_get (v := .ref tg) hx hb hts iX12 hown g t_a0 (by decide) so_13 rfl 43 (by decide) (hts (.fieldLink RX12 100 "CapLeagueModel" "triedGives" "[I") (by decide +kernel)) rfl dX12_tryRing_43 (by show va_rf (z.R a0 43) = _; rw [rtg]; rfl) ?_
    refine lv_iload_n hx hb dX12_tryRing_46 rfl (lv_at hl 2 rfl) ?_
    refine h_ald hx hb g ttg (by decide) so_1343 (by unfold vp_in; decide) dX12_tryRing_47 ?_
    refine xw_i (ekg1) ?_
    refine vp_callSi (W.runV (As := [.int c1, .int g1]) (rest := [.int rh8]) ⟨hx, hb, hml, hown, hts⟩ (tX12_worthToB l E X A z I0 L0 a0 t_a0 c1 (c1.toInt) rfl (by omega) g1 (g1.toInt) rfl (by omega)) (cwV 2 hts gX12_tryRing_X12_worthTo rfl rfl rfl (by decide +kernel) ⟨Nat.le_of_ble_eq_true rfl, Nat.le_of_ble_eq_true rfl⟩) ⟨h_blind _ _ _ _ _ _ _, h_recv g t_a0 (by decide) so_13 (q := (RX12, TX12, 51)) rfl, h_pre _ hE hk hX hA hI hR g⟩ rfl rfl hl.1 rfl (lv_room (Nat.le_of_ble_eq_true rfl)) dX12_tryRing_48 ⟨Nat.le_of_ble_eq_true rfl, Nat.le_of_ble_eq_true rfl⟩) (fun rh9 h9 => ?_)
    have h9p0 := h9
    have jrh9 : -2147483648 ≤ rh9.toInt ∧ rh9.toInt ≤ 2147483647 := ⟨xi_lo _, Int.le_of_lt_add_one (xi_hi _)⟩
    have wbrh9 : 0 ≤ rh9.toInt ∧ rh9.toInt ≤ 9999 := by rw [h9p0]; exact hwb _
    refine lv_isub hx hb dX12_tryRing_51 ?_
    refine lv_topi (fun v10 ev10 => ?_)
    have jv10 : v10.toInt = rh8.toInt - rh9.toInt := xi_sub ev10 rfl rfl (by omega) (by omega)
    have bE1 : m_w z I0 a0 c1.toInt g0.toInt.toNat - m_w z I0 a0 c1.toInt g1.toInt.toNat = v10 := by unfold m_w; rw [show ((g0.toInt.toNat : Nat) : Int) = g0.toInt by omega, show ((g1.toInt.toNat : Nat) : Int) = g1.toInt by omega, ← h8p0, ← h9p0]; exact ev10.symm
    refine lv_istore (lv' := [(6, .int v10), (5, .int c1), (4, .int 0), (3, .int 1), (2, .int v6), (0, .ref a0), (1, .int 3)]) hx hb dX12_tryRing_52 hl (by decide) rfl (fun ls hl => ?_)
    refine lv_iload hx hb dX12_tryRing_54 (lv_at hl 0 rfl) ?_
    refine lv_if_gt (tgt := 60) hx hb dX12_tryRing_56 (by decide) (fun c11 => ?_) (fun c11 => ?_)
    · have ic11 := (xi_lt c11 (by decide) rfl : 0 < v10.toInt)
      refine lv_iload_n hx hb dX12_tryRing_60 rfl (lv_at hl 4 rfl) ?_
      refine lv_iload hx hb dX12_tryRing_61 (lv_at hl 0 rfl) ?_
      refine lv_iadd hx hb dX12_tryRing_63 ?_
      refine lv_topi (fun v12 ev12 => ?_)
      have jv12 : v12.toInt = v6.toInt + v10.toInt := xi_add ev12 rfl rfl (by omega) (by omega)
      refine lv_istore_n (lv' := [(2, .int v12), (6, .int v10), (5, .int c1), (4, .int 0), (3, .int 1), (0, .ref a0), (1, .int 3)]) hx hb dX12_tryRing_64 rfl hl (by decide) rfl (fun ls hl => ?_)
      refine lv_iinc (v := 2) (lv' := [(3, .int 2), (2, .int v12), (6, .int v10), (5, .int c1), (4, .int 0), (0, .ref a0), (1, .int 3)]) hx hb dX12_tryRing_65 hl (k := 4) rfl (by decide) (by decide) rfl (fun ls hl => ?_)
      refine lv_goto (tgt := 4) hx hb dX12_tryRing_68 (by decide) ?_
      refine lv_iload_n hx hb dX12_tryRing_4 rfl (lv_at hl 0 rfl) ?_
      refine lv_iload_n hx hb dX12_tryRing_5 rfl (lv_at hl 6 rfl) ?_
      refine lv_icmp_ge (tgt := 71) hx hb dX12_tryRing_6 (by decide) (fun h => absurd h (by decide)) (fun _ => ?_)
      refine lv_iload_n hx hb dX12_tryRing_9 rfl (lv_at hl 0 rfl) ?_
      refine lv_iload_n hx hb dX12_tryRing_10 rfl (lv_at hl 6 rfl) ?_
      refine lv_iadd hx hb dX12_tryRing_11 ?_
      refine xw_i (v := 5) (by decide) ?_
      refine lv_iconst (v := 1) hx hb dX12_tryRing_12 (by decide) ?_
      refine lv_isub hx hb dX12_tryRing_13 ?_
      refine xw_i (v := 4) (by decide) ?_
      refine lv_iload_n hx hb dX12_tryRing_14 rfl (lv_at hl 6 rfl) ?_
      refine lv_irem hx hb dX12_tryRing_15 (by decide) ?_
      refine xw_i (v := 1) (by decide) ?_
      refine lv_istore (lv' := [(4, .int 1), (3, .int 2), (2, .int v12), (6, .int v10), (5, .int c1), (0, .ref a0), (1, .int 3)]) hx hb dX12_tryRing_16 hl (by decide) rfl (fun ls hl => ?_)
      refine lv_aload_n hx hb dX12_tryRing_18 rfl (lv_at hl 5 rfl) ?_
      refine h_get (v := .ref tc) hx hb hts iX12 hown g t_a0 (by decide) so_13 rfl 42 (by decide) (hts (.fieldLink RX12 97 "CapLeagueModel" "triedClub" "[I") (by decide +kernel)) rfl dX12_tryRing_19 (by show va_rf (z.R a0 42) = _; rw [rtc]; rfl) ?_
      refine lv_iload_n hx hb dX12_tryRing_22 rfl (lv_at hl 1 rfl) ?_
      refine h_ald hx hb g ttc (by decide) so_1342 (by unfold vp_in; decide) dX12_tryRing_23 ?_
      refine xw_i (ekc2) ?_
      refine lv_istore (lv' := [(5, .int c2), (4, .int 1), (3, .int 2), (2, .int v12), (6, .int v10), (0, .ref a0), (1, .int 3)]) hx hb dX12_tryRing_24 hl (by decide) rfl (fun ls hl => ?_)
      refine lv_aload_n hx hb dX12_tryRing_26 rfl (lv_at hl 5 rfl) ?_
      refine lv_iload hx hb dX12_tryRing_27 (lv_at hl 0 rfl) ?_
      refine lv_aload_n hx hb dX12_tryRing_29 rfl (lv_at hl 5 rfl) ?_
      refine h_get (v := .ref tg) hx hb hts iX12 hown g t_a0 (by decide) so_13 rfl 43 (by decide) (hts (.fieldLink RX12 100 "CapLeagueModel" "triedGives" "[I") (by decide +kernel)) rfl dX12_tryRing_30 (by show va_rf (z.R a0 43) = _; rw [rtg]; rfl) ?_
      refine lv_iload hx hb dX12_tryRing_33 (lv_at hl 1 rfl) ?_
      refine h_ald hx hb g ttg (by decide) so_1343 (by unfold vp_in; decide) dX12_tryRing_35 ?_
      refine xw_i (ekg1) ?_
      refine vp_callSi (W.runV (As := [.int c2, .int g1]) (rest := []) ⟨hx, hb, hml, hown, hts⟩ (tX12_worthToB l E X A z I0 L0 a0 t_a0 c2 (c2.toInt) rfl (by omega) g1 (g1.toInt) rfl (by omega)) (cwV 2 hts gX12_tryRing_X12_worthTo rfl rfl rfl (by decide +kernel) ⟨Nat.le_of_ble_eq_true rfl, Nat.le_of_ble_eq_true rfl⟩) ⟨h_blind _ _ _ _ _ _ _, h_recv g t_a0 (by decide) so_13 (q := (RX12, TX12, 51)) rfl, h_pre _ hE hk hX hA hI hR g⟩ rfl rfl hl.1 rfl (lv_room (Nat.le_of_ble_eq_true rfl)) dX12_tryRing_36 ⟨Nat.le_of_ble_eq_true rfl, Nat.le_of_ble_eq_true rfl⟩) (fun rh14 h14 => ?_)
      have h14p0 := h14
      have jrh14 : -2147483648 ≤ rh14.toInt ∧ rh14.toInt ≤ 2147483647 := ⟨xi_lo _, Int.le_of_lt_add_one (xi_hi _)⟩
      have wbrh14 : 0 ≤ rh14.toInt ∧ rh14.toInt ≤ 9999 := by rw [h14p0]; exact hwb _
      refine lv_aload_n hx hb dX12_tryRing_39 rfl (lv_at hl 5 rfl) ?_
      refine lv_iload hx hb dX12_tryRing_40 (lv_at hl 0 rfl) ?_
      refine lv_aload_n hx hb dX12_tryRing_42 rfl (lv_at hl 5 rfl) ?_
      refine h_get (v := .ref tg) hx hb hts iX12 hown g t_a0 (by decide) so_13 rfl 43 (by decide) (hts (.fieldLink RX12 100 "CapLeagueModel" "triedGives" "[I") (by decide +kernel)) rfl dX12_tryRing_43 (by show va_rf (z.R a0 43) = _; rw [rtg]; rfl) ?_
      refine lv_iload_n hx hb dX12_tryRing_46 rfl (lv_at hl 2 rfl) ?_
      refine h_ald hx hb g ttg (by decide) so_1343 (by unfold vp_in; decide) dX12_tryRing_47 ?_
      refine xw_i (ekg2) ?_
      refine vp_callSi (W.runV (As := [.int c2, .int g2]) (rest := [.int rh14]) ⟨hx, hb, hml, hown, hts⟩ (tX12_worthToB l E X A z I0 L0 a0 t_a0 c2 (c2.toInt) rfl (by omega) g2 (g2.toInt) rfl (by omega)) (cwV 2 hts gX12_tryRing_X12_worthTo rfl rfl rfl (by decide +kernel) ⟨Nat.le_of_ble_eq_true rfl, Nat.le_of_ble_eq_true rfl⟩) ⟨h_blind _ _ _ _ _ _ _, h_recv g t_a0 (by decide) so_13 (q := (RX12, TX12, 51)) rfl, h_pre _ hE hk hX hA hI hR g⟩ rfl rfl hl.1 rfl (lv_room (Nat.le_of_ble_eq_true rfl)) dX12_tryRing_48 ⟨Nat.le_of_ble_eq_true rfl, Nat.le_of_ble_eq_true rfl⟩) (fun rh15 h15 => ?_)
      have h15p0 := h15
      have jrh15 : -2147483648 ≤ rh15.toInt ∧ rh15.toInt ≤ 2147483647 := ⟨xi_lo _, Int.le_of_lt_add_one (xi_hi _)⟩
      have wbrh15 : 0 ≤ rh15.toInt ∧ rh15.toInt ≤ 9999 := by rw [h15p0]; exact hwb _
      refine lv_isub hx hb dX12_tryRing_51 ?_
      refine lv_topi (fun v16 ev16 => ?_)
      have jv16 : v16.toInt = rh14.toInt - rh15.toInt := xi_sub ev16 rfl rfl (by omega) (by omega)
      have bE2 : m_w z I0 a0 c2.toInt g1.toInt.toNat - m_w z I0 a0 c2.toInt g2.toInt.toNat = v16 := by unfold m_w; rw [show ((g1.toInt.toNat : Nat) : Int) = g1.toInt by omega, show ((g2.toInt.toNat : Nat) : Int) = g2.toInt by omega, ← h14p0, ← h15p0]; exact ev16.symm
      refine lv_istore (lv' := [(6, .int v16), (5, .int c2), (4, .int 1), (3, .int 2), (2, .int v12), (0, .ref a0), (1, .int 3)]) hx hb dX12_tryRing_52 hl (by decide) rfl (fun ls hl => ?_)
      refine lv_iload hx hb dX12_tryRing_54 (lv_at hl 0 rfl) ?_
      refine lv_if_gt (tgt := 60) hx hb dX12_tryRing_56 (by decide) (fun c17 => ?_) (fun c17 => ?_)
      · have ic17 := (xi_lt c17 (by decide) rfl : 0 < v16.toInt)
        refine lv_iload_n hx hb dX12_tryRing_60 rfl (lv_at hl 4 rfl) ?_
        refine lv_iload hx hb dX12_tryRing_61 (lv_at hl 0 rfl) ?_
        refine lv_iadd hx hb dX12_tryRing_63 ?_
        refine lv_topi (fun v18 ev18 => ?_)
        have jv18 : v18.toInt = v12.toInt + v16.toInt := xi_add ev18 rfl rfl (by omega) (by omega)
        refine lv_istore_n (lv' := [(2, .int v18), (6, .int v16), (5, .int c2), (4, .int 1), (3, .int 2), (0, .ref a0), (1, .int 3)]) hx hb dX12_tryRing_64 rfl hl (by decide) rfl (fun ls hl => ?_)
        refine lv_iinc (v := 3) (lv' := [(3, .int 3), (2, .int v18), (6, .int v16), (5, .int c2), (4, .int 1), (0, .ref a0), (1, .int 3)]) hx hb dX12_tryRing_65 hl (k := 4) rfl (by decide) (by decide) rfl (fun ls hl => ?_)
        refine lv_goto (tgt := 4) hx hb dX12_tryRing_68 (by decide) ?_
        refine lv_iload_n hx hb dX12_tryRing_4 rfl (lv_at hl 0 rfl) ?_
        refine lv_iload_n hx hb dX12_tryRing_5 rfl (lv_at hl 6 rfl) ?_
        refine lv_icmp_ge (tgt := 71) hx hb dX12_tryRing_6 (by decide) (fun _ => ?_) (fun h => absurd (by decide) h)
        refine lv_iload_n hx hb dX12_tryRing_71 rfl (lv_at hl 1 rfl) ?_
        refine lv_aload_n hx hb dX12_tryRing_72 rfl (lv_at hl 5 rfl) ?_
        refine h_get (v := .int f0_44) hx hb hts iX12 hown g t_a0 (by decide) so_13 rfl 44 (by decide) (hts (.fieldLink RX12 280 "CapLeagueModel" "bestSum" "I") (by decide +kernel)) rfl dX12_tryRing_73 (congrArg Value.int (ef0_44.symm)) ?_
        refine lv_icmp_gt (tgt := 80) hx hb dX12_tryRing_76 (by decide) (fun c20 => ?_) (fun c20 => ?_)
        · have ic20 := (xi_lt c20 rfl rfl : f0_44.toInt < v18.toInt)
          refine lv_iconst (v := 0) hx hb dX12_tryRing_80 (by decide) ?_
          refine lv_istore_n (lv' := [(3, .int 0), (2, .int v18), (6, .int v16), (5, .int c2), (4, .int 1), (0, .ref a0), (1, .int 3)]) hx hb dX12_tryRing_81 rfl hl (by decide) rfl (fun ls hl => ?_)
          refine lv_iload_n hx hb dX12_tryRing_82 rfl (lv_at hl 0 rfl) ?_
          refine lv_iload_n hx hb dX12_tryRing_83 rfl (lv_at hl 6 rfl) ?_
          refine lv_icmp_ge (tgt := 125) hx hb dX12_tryRing_84 (by decide) (fun h => absurd h (by decide)) (fun _ => ?_)
          refine lv_aload_n hx hb dX12_tryRing_87 rfl (lv_at hl 5 rfl) ?_
          refine lv_aload_n hx hb dX12_tryRing_88 rfl (lv_at hl 5 rfl) ?_
          refine h_get (v := .ref tc) hx hb hts iX12 hown g t_a0 (by decide) so_13 rfl 42 (by decide) (hts (.fieldLink RX12 97 "CapLeagueModel" "triedClub" "[I") (by decide +kernel)) rfl dX12_tryRing_89 (by show va_rf (z.R a0 42) = _; rw [rtc]; rfl) ?_
          refine lv_iload_n hx hb dX12_tryRing_92 rfl (lv_at hl 0 rfl) ?_
          refine h_ald hx hb g ttc (by decide) so_1342 (by unfold vp_in; decide) dX12_tryRing_93 ?_
          refine xw_i (ekc0) ?_
          refine lv_aload_n hx hb dX12_tryRing_94 rfl (lv_at hl 5 rfl) ?_
          refine h_get (v := .ref tg) hx hb hts iX12 hown g t_a0 (by decide) so_13 rfl 43 (by decide) (hts (.fieldLink RX12 100 "CapLeagueModel" "triedGives" "[I") (by decide +kernel)) rfl dX12_tryRing_95 (by show va_rf (z.R a0 43) = _; rw [rtg]; rfl) ?_
          refine lv_iload_n hx hb dX12_tryRing_98 rfl (lv_at hl 0 rfl) ?_
          refine h_ald hx hb g ttg (by decide) so_1343 (by unfold vp_in; decide) dX12_tryRing_99 ?_
          refine xw_i (ekg0) ?_
          refine lv_aload_n hx hb dX12_tryRing_100 rfl (lv_at hl 5 rfl) ?_
          refine h_get (v := .ref tg) hx hb hts iX12 hown g t_a0 (by decide) so_13 rfl 43 (by decide) (hts (.fieldLink RX12 100 "CapLeagueModel" "triedGives" "[I") (by decide +kernel)) rfl dX12_tryRing_101 (by show va_rf (z.R a0 43) = _; rw [rtg]; rfl) ?_
          refine lv_iload_n hx hb dX12_tryRing_104 rfl (lv_at hl 0 rfl) ?_
          refine lv_iload_n hx hb dX12_tryRing_105 rfl (lv_at hl 6 rfl) ?_
          refine lv_iadd hx hb dX12_tryRing_106 ?_
          refine xw_i (v := 3) (by decide) ?_
          refine lv_iconst (v := 1) hx hb dX12_tryRing_107 (by decide) ?_
          refine lv_isub hx hb dX12_tryRing_108 ?_
          refine xw_i (v := 2) (by decide) ?_
          refine lv_iload_n hx hb dX12_tryRing_109 rfl (lv_at hl 6 rfl) ?_
          refine lv_irem hx hb dX12_tryRing_110 (by decide) ?_
          refine xw_i (v := 2) (by decide) ?_
          refine h_ald hx hb g ttg (by decide) so_1343 (by unfold vp_in; decide) dX12_tryRing_111 ?_
          refine xw_i (ekg2) ?_
          refine vp_callSi (W.runV (As := [.int c0, .int g0, .int g2]) (rest := []) ⟨hx, hb, hml, hown, hts⟩ (tX12_isLegalR l E X A z I0 L0 a0 t_a0 c0 (c0.toInt) rfl (by omega) g0 (g0.toInt) rfl (by omega) g2 (g2.toInt) rfl (by omega) (u_) (hmp0) (by rw [qf0_13]; omega) (by rw [qf0_13]; omega)) (cwV 3 hts gX12_tryRing_X12_isLegal rfl rfl rfl (by decide +kernel) ⟨Nat.le_of_ble_eq_true rfl, Nat.le_of_ble_eq_true rfl⟩) ⟨h_blind _ _ _ _ _ _ _, h_recv g t_a0 (by decide) so_13 (q := (RX12, TX12, 51)) rfl, h_pre _ hE hk hX hA hI hR g⟩ rfl rfl hl.1 rfl (lv_room (Nat.le_of_ble_eq_true rfl)) dX12_tryRing_112 ⟨Nat.le_of_ble_eq_true rfl, Nat.le_of_ble_eq_true rfl⟩) (fun rh22 h22 => ?_)
          obtain ⟨h22, h22p0⟩ := h22
          refine lv_if_ne (tgt := 119) hx hb dX12_tryRing_115 (by decide) (fun c23 => ?_) (fun c23 => ?_)
          · have ic23 := (xi_ne c23 rfl (by decide) : rh22.toInt ≠ 0)
            refine lv_iinc (v := 1) (lv' := [(3, .int 1), (2, .int v18), (6, .int v16), (5, .int c2), (4, .int 1), (0, .ref a0), (1, .int 3)]) hx hb dX12_tryRing_119 hl (k := 0) rfl (by decide) (by decide) rfl (fun ls hl => ?_)
            refine lv_goto (tgt := 82) hx hb dX12_tryRing_122 (by decide) ?_
            refine lv_iload_n hx hb dX12_tryRing_82 rfl (lv_at hl 0 rfl) ?_
            refine lv_iload_n hx hb dX12_tryRing_83 rfl (lv_at hl 6 rfl) ?_
            refine lv_icmp_ge (tgt := 125) hx hb dX12_tryRing_84 (by decide) (fun h => absurd h (by decide)) (fun _ => ?_)
            refine lv_aload_n hx hb dX12_tryRing_87 rfl (lv_at hl 5 rfl) ?_
            refine lv_aload_n hx hb dX12_tryRing_88 rfl (lv_at hl 5 rfl) ?_
            refine h_get (v := .ref tc) hx hb hts iX12 hown g t_a0 (by decide) so_13 rfl 42 (by decide) (hts (.fieldLink RX12 97 "CapLeagueModel" "triedClub" "[I") (by decide +kernel)) rfl dX12_tryRing_89 (by show va_rf (z.R a0 42) = _; rw [rtc]; rfl) ?_
            refine lv_iload_n hx hb dX12_tryRing_92 rfl (lv_at hl 0 rfl) ?_
            refine h_ald hx hb g ttc (by decide) so_1342 (by unfold vp_in; decide) dX12_tryRing_93 ?_
            refine xw_i (ekc1) ?_
            refine lv_aload_n hx hb dX12_tryRing_94 rfl (lv_at hl 5 rfl) ?_
            refine h_get (v := .ref tg) hx hb hts iX12 hown g t_a0 (by decide) so_13 rfl 43 (by decide) (hts (.fieldLink RX12 100 "CapLeagueModel" "triedGives" "[I") (by decide +kernel)) rfl dX12_tryRing_95 (by show va_rf (z.R a0 43) = _; rw [rtg]; rfl) ?_
            refine lv_iload_n hx hb dX12_tryRing_98 rfl (lv_at hl 0 rfl) ?_
            refine h_ald hx hb g ttg (by decide) so_1343 (by unfold vp_in; decide) dX12_tryRing_99 ?_
            refine xw_i (ekg1) ?_
            refine lv_aload_n hx hb dX12_tryRing_100 rfl (lv_at hl 5 rfl) ?_
            refine h_get (v := .ref tg) hx hb hts iX12 hown g t_a0 (by decide) so_13 rfl 43 (by decide) (hts (.fieldLink RX12 100 "CapLeagueModel" "triedGives" "[I") (by decide +kernel)) rfl dX12_tryRing_101 (by show va_rf (z.R a0 43) = _; rw [rtg]; rfl) ?_
            refine lv_iload_n hx hb dX12_tryRing_104 rfl (lv_at hl 0 rfl) ?_
            refine lv_iload_n hx hb dX12_tryRing_105 rfl (lv_at hl 6 rfl) ?_
            refine lv_iadd hx hb dX12_tryRing_106 ?_
            refine xw_i (v := 4) (by decide) ?_
            refine lv_iconst (v := 1) hx hb dX12_tryRing_107 (by decide) ?_
            refine lv_isub hx hb dX12_tryRing_108 ?_
            refine xw_i (v := 3) (by decide) ?_
            refine lv_iload_n hx hb dX12_tryRing_109 rfl (lv_at hl 6 rfl) ?_
            refine lv_irem hx hb dX12_tryRing_110 (by decide) ?_
            refine xw_i (v := 0) (by decide) ?_
            refine h_ald hx hb g ttg (by decide) so_1343 (by unfold vp_in; decide) dX12_tryRing_111 ?_
            refine xw_i (ekg0) ?_
            refine vp_callSi (W.runV (As := [.int c1, .int g1, .int g0]) (rest := []) ⟨hx, hb, hml, hown, hts⟩ (tX12_isLegalR l E X A z I0 L0 a0 t_a0 c1 (c1.toInt) rfl (by omega) g1 (g1.toInt) rfl (by omega) g0 (g0.toInt) rfl (by omega) (u_) (hmp0) (by rw [qf0_13]; omega) (by rw [qf0_13]; omega)) (cwV 3 hts gX12_tryRing_X12_isLegal rfl rfl rfl (by decide +kernel) ⟨Nat.le_of_ble_eq_true rfl, Nat.le_of_ble_eq_true rfl⟩) ⟨h_blind _ _ _ _ _ _ _, h_recv g t_a0 (by decide) so_13 (q := (RX12, TX12, 51)) rfl, h_pre _ hE hk hX hA hI hR g⟩ rfl rfl hl.1 rfl (lv_room (Nat.le_of_ble_eq_true rfl)) dX12_tryRing_112 ⟨Nat.le_of_ble_eq_true rfl, Nat.le_of_ble_eq_true rfl⟩) (fun rh25 h25 => ?_)
            obtain ⟨h25, h25p0⟩ := h25
            refine lv_if_ne (tgt := 119) hx hb dX12_tryRing_115 (by decide) (fun c26 => ?_) (fun c26 => ?_)
            · have ic26 := (xi_ne c26 rfl (by decide) : rh25.toInt ≠ 0)
              refine lv_iinc (v := 2) (lv' := [(3, .int 2), (2, .int v18), (6, .int v16), (5, .int c2), (4, .int 1), (0, .ref a0), (1, .int 3)]) hx hb dX12_tryRing_119 hl (k := 0) rfl (by decide) (by decide) rfl (fun ls hl => ?_)
              refine lv_goto (tgt := 82) hx hb dX12_tryRing_122 (by decide) ?_
              refine lv_iload_n hx hb dX12_tryRing_82 rfl (lv_at hl 0 rfl) ?_
              refine lv_iload_n hx hb dX12_tryRing_83 rfl (lv_at hl 6 rfl) ?_
              refine lv_icmp_ge (tgt := 125) hx hb dX12_tryRing_84 (by decide) (fun h => absurd h (by decide)) (fun _ => ?_)
              refine lv_aload_n hx hb dX12_tryRing_87 rfl (lv_at hl 5 rfl) ?_
              refine lv_aload_n hx hb dX12_tryRing_88 rfl (lv_at hl 5 rfl) ?_
              refine h_get (v := .ref tc) hx hb hts iX12 hown g t_a0 (by decide) so_13 rfl 42 (by decide) (hts (.fieldLink RX12 97 "CapLeagueModel" "triedClub" "[I") (by decide +kernel)) rfl dX12_tryRing_89 (by show va_rf (z.R a0 42) = _; rw [rtc]; rfl) ?_
              refine lv_iload_n hx hb dX12_tryRing_92 rfl (lv_at hl 0 rfl) ?_
              refine h_ald hx hb g ttc (by decide) so_1342 (by unfold vp_in; decide) dX12_tryRing_93 ?_
              refine xw_i (ekc2) ?_
              refine lv_aload_n hx hb dX12_tryRing_94 rfl (lv_at hl 5 rfl) ?_
              refine h_get (v := .ref tg) hx hb hts iX12 hown g t_a0 (by decide) so_13 rfl 43 (by decide) (hts (.fieldLink RX12 100 "CapLeagueModel" "triedGives" "[I") (by decide +kernel)) rfl dX12_tryRing_95 (by show va_rf (z.R a0 43) = _; rw [rtg]; rfl) ?_
              refine lv_iload_n hx hb dX12_tryRing_98 rfl (lv_at hl 0 rfl) ?_
              refine h_ald hx hb g ttg (by decide) so_1343 (by unfold vp_in; decide) dX12_tryRing_99 ?_
              refine xw_i (ekg2) ?_
              refine lv_aload_n hx hb dX12_tryRing_100 rfl (lv_at hl 5 rfl) ?_
              refine h_get (v := .ref tg) hx hb hts iX12 hown g t_a0 (by decide) so_13 rfl 43 (by decide) (hts (.fieldLink RX12 100 "CapLeagueModel" "triedGives" "[I") (by decide +kernel)) rfl dX12_tryRing_101 (by show va_rf (z.R a0 43) = _; rw [rtg]; rfl) ?_
              refine lv_iload_n hx hb dX12_tryRing_104 rfl (lv_at hl 0 rfl) ?_
              refine lv_iload_n hx hb dX12_tryRing_105 rfl (lv_at hl 6 rfl) ?_
              refine lv_iadd hx hb dX12_tryRing_106 ?_
              refine xw_i (v := 5) (by decide) ?_
              refine lv_iconst (v := 1) hx hb dX12_tryRing_107 (by decide) ?_
              refine lv_isub hx hb dX12_tryRing_108 ?_
              refine xw_i (v := 4) (by decide) ?_
              refine lv_iload_n hx hb dX12_tryRing_109 rfl (lv_at hl 6 rfl) ?_
              refine lv_irem hx hb dX12_tryRing_110 (by decide) ?_
              refine xw_i (v := 1) (by decide) ?_
              refine h_ald hx hb g ttg (by decide) so_1343 (by unfold vp_in; decide) dX12_tryRing_111 ?_
              refine xw_i (ekg1) ?_
              refine vp_callSi (W.runV (As := [.int c2, .int g2, .int g1]) (rest := []) ⟨hx, hb, hml, hown, hts⟩ (tX12_isLegalR l E X A z I0 L0 a0 t_a0 c2 (c2.toInt) rfl (by omega) g2 (g2.toInt) rfl (by omega) g1 (g1.toInt) rfl (by omega) (u_) (hmp0) (by rw [qf0_13]; omega) (by rw [qf0_13]; omega)) (cwV 3 hts gX12_tryRing_X12_isLegal rfl rfl rfl (by decide +kernel) ⟨Nat.le_of_ble_eq_true rfl, Nat.le_of_ble_eq_true rfl⟩) ⟨h_blind _ _ _ _ _ _ _, h_recv g t_a0 (by decide) so_13 (q := (RX12, TX12, 51)) rfl, h_pre _ hE hk hX hA hI hR g⟩ rfl rfl hl.1 rfl (lv_room (Nat.le_of_ble_eq_true rfl)) dX12_tryRing_112 ⟨Nat.le_of_ble_eq_true rfl, Nat.le_of_ble_eq_true rfl⟩) (fun rh28 h28 => ?_)
              obtain ⟨h28, h28p0⟩ := h28
              refine lv_if_ne (tgt := 119) hx hb dX12_tryRing_115 (by decide) (fun c29 => ?_) (fun c29 => ?_)
              · have ic29 := (xi_ne c29 rfl (by decide) : rh28.toInt ≠ 0)
                refine lv_iinc (v := 3) (lv' := [(3, .int 3), (2, .int v18), (6, .int v16), (5, .int c2), (4, .int 1), (0, .ref a0), (1, .int 3)]) hx hb dX12_tryRing_119 hl (k := 0) rfl (by decide) (by decide) rfl (fun ls hl => ?_)
                refine lv_goto (tgt := 82) hx hb dX12_tryRing_122 (by decide) ?_
                refine lv_iload_n hx hb dX12_tryRing_82 rfl (lv_at hl 0 rfl) ?_
                refine lv_iload_n hx hb dX12_tryRing_83 rfl (lv_at hl 6 rfl) ?_
                refine lv_icmp_ge (tgt := 125) hx hb dX12_tryRing_84 (by decide) (fun _ => ?_) (fun h => absurd (by decide) h)
                refine lv_aload_n hx hb dX12_tryRing_125 rfl (lv_at hl 5 rfl) ?_
                refine lv_iload_n hx hb dX12_tryRing_126 rfl (lv_at hl 1 rfl) ?_
                refine h_putI (ty := .int) (v := v18) hx hb hts iX12 tyX12 tyX12_ok nmX12 hown g t_a0 (by decide) so_13 rfl 44 (by decide) rfl (hts (.fieldLink RX12 280 "CapLeagueModel" "bestSum" "I") (by decide +kernel)) rfl rfl (by decide +kernel) rfl rfl dX12_tryRing_127 (fun I31 H locs eI31 g => ?_)
                have hI := hI.wr eI31 t_a0 (rfl : h_bd 13 44 = ((-2147483648), 2147483647)) (xi_lo _) (Int.le_of_lt_add_one (xi_hi _))
                have hF := hF.wr eI31 t_a0 rfl
                refine lv_aload_n hx hb dX12_tryRing_130 rfl (lv_at hl 5 rfl) ?_
                refine lv_iload_n hx hb dX12_tryRing_131 rfl (lv_at hl 6 rfl) ?_
                refine h_putI (ty := .int) (v := 3) hx hb hts iX12 tyX12 tyX12_ok nmX12 hown g t_a0 (by decide) so_13 rfl 45 (by decide) rfl (hts (.fieldLink RX12 286 "CapLeagueModel" "bestMany" "I") (by decide +kernel)) rfl rfl (by decide +kernel) rfl rfl dX12_tryRing_132 (fun I32 H locs eI32 g => ?_)
                have hI := hI.wr eI32 t_a0 (rfl : h_bd 13 45 = (0, 3)) (by decide) (by decide)
                have hF := hF.wr eI32 t_a0 rfl
                refine lv_iconst (v := 0) hx hb dX12_tryRing_135 (by decide) ?_
                refine lv_istore_n (lv' := [(3, .int 0), (2, .int v18), (6, .int v16), (5, .int c2), (4, .int 1), (0, .ref a0), (1, .int 3)]) hx hb dX12_tryRing_136 rfl hl (by decide) rfl (fun ls hl => ?_)
                refine lv_iload_n hx hb dX12_tryRing_137 rfl (lv_at hl 0 rfl) ?_
                refine lv_iload_n hx hb dX12_tryRing_138 rfl (lv_at hl 6 rfl) ?_
                refine lv_icmp_ge (tgt := 172) hx hb dX12_tryRing_139 (by decide) (fun h => absurd h (by decide)) (fun _ => ?_)
                refine lv_aload_n hx hb dX12_tryRing_142 rfl (lv_at hl 5 rfl) ?_
                refine h_get (v := .ref rc) hx hb hts iX12 hown g t_a0 (by decide) so_13 rfl 39 (by decide) (hts (.fieldLink RX12 91 "CapLeagueModel" "ringClub" "[I") (by decide +kernel)) rfl dX12_tryRing_143 (by show va_rf (z.R a0 39) = _; rw [rrc]; rfl) ?_
                refine lv_iload_n hx hb dX12_tryRing_146 rfl (lv_at hl 0 rfl) ?_
                refine lv_aload_n hx hb dX12_tryRing_147 rfl (lv_at hl 5 rfl) ?_
                refine h_get (v := .ref tc) hx hb hts iX12 hown g t_a0 (by decide) so_13 rfl 42 (by decide) (hts (.fieldLink RX12 97 "CapLeagueModel" "triedClub" "[I") (by decide +kernel)) rfl dX12_tryRing_148 (by show va_rf (z.R a0 42) = _; rw [rtc]; rfl) ?_
                refine lv_iload_n hx hb dX12_tryRing_151 rfl (lv_at hl 0 rfl) ?_
                refine h_ald hx hb g ttc (by decide) so_1342 (by unfold vp_in; decide) dX12_tryRing_152 ?_
                refine xw_i ((h_n1 eI32 ttc t_a0 (by decide)).trans ((h_n1 eI31 ttc t_a0 (by decide)).trans (ekc0))) ?_
                refine h_ast hx hb g trc (by decide) so_1339 (by unfold vp_in; decide) dX12_tryRing_153 (fun I34 H locs eI34 g => ?_)
                have hI := hI.wr eI34 trc (rfl : h_bd 1339 _ = ((-2147483648), 2147483647)) (xi_lo _) (Int.le_of_lt_add_one (xi_hi _))
                have hF := hF.wr eI34 trc rfl
                refine lv_aload_n hx hb dX12_tryRing_154 rfl (lv_at hl 5 rfl) ?_
                refine h_get (v := .ref rg) hx hb hts iX12 hown g t_a0 (by decide) so_13 rfl 40 (by decide) (hts (.fieldLink RX12 94 "CapLeagueModel" "ringGives" "[I") (by decide +kernel)) rfl dX12_tryRing_155 (by show va_rf (z.R a0 40) = _; rw [rrg]; rfl) ?_
                refine lv_iload_n hx hb dX12_tryRing_158 rfl (lv_at hl 0 rfl) ?_
                refine lv_aload_n hx hb dX12_tryRing_159 rfl (lv_at hl 5 rfl) ?_
                refine h_get (v := .ref tg) hx hb hts iX12 hown g t_a0 (by decide) so_13 rfl 43 (by decide) (hts (.fieldLink RX12 100 "CapLeagueModel" "triedGives" "[I") (by decide +kernel)) rfl dX12_tryRing_160 (by show va_rf (z.R a0 43) = _; rw [rtg]; rfl) ?_
                refine lv_iload_n hx hb dX12_tryRing_163 rfl (lv_at hl 0 rfl) ?_
                refine h_ald hx hb g ttg (by decide) so_1343 (by unfold vp_in; decide) dX12_tryRing_164 ?_
                refine xw_i ((h_n1 eI34 ttg trc (by decide)).trans ((h_n1 eI32 ttg t_a0 (by decide)).trans ((h_n1 eI31 ttg t_a0 (by decide)).trans (ekg0)))) ?_
                refine h_ast hx hb g trg (by decide) so_1340 (by unfold vp_in; decide) dX12_tryRing_165 (fun I35 H locs eI35 g => ?_)
                have hI := hI.wr eI35 trg (rfl : h_bd 1340 _ = ((-2147483648), 2147483647)) (xi_lo _) (Int.le_of_lt_add_one (xi_hi _))
                have hF := hF.wr eI35 trg rfl
                refine lv_iinc (v := 1) (lv' := [(3, .int 1), (2, .int v18), (6, .int v16), (5, .int c2), (4, .int 1), (0, .ref a0), (1, .int 3)]) hx hb dX12_tryRing_166 hl (k := 0) rfl (by decide) (by decide) rfl (fun ls hl => ?_)
                refine lv_goto (tgt := 137) hx hb dX12_tryRing_169 (by decide) ?_
                refine lv_iload_n hx hb dX12_tryRing_137 rfl (lv_at hl 0 rfl) ?_
                refine lv_iload_n hx hb dX12_tryRing_138 rfl (lv_at hl 6 rfl) ?_
                refine lv_icmp_ge (tgt := 172) hx hb dX12_tryRing_139 (by decide) (fun h => absurd h (by decide)) (fun _ => ?_)
                refine lv_aload_n hx hb dX12_tryRing_142 rfl (lv_at hl 5 rfl) ?_
                refine h_get (v := .ref rc) hx hb hts iX12 hown g t_a0 (by decide) so_13 rfl 39 (by decide) (hts (.fieldLink RX12 91 "CapLeagueModel" "ringClub" "[I") (by decide +kernel)) rfl dX12_tryRing_143 (by show va_rf (z.R a0 39) = _; rw [rrc]; rfl) ?_
                refine lv_iload_n hx hb dX12_tryRing_146 rfl (lv_at hl 0 rfl) ?_
                refine lv_aload_n hx hb dX12_tryRing_147 rfl (lv_at hl 5 rfl) ?_
                refine h_get (v := .ref tc) hx hb hts iX12 hown g t_a0 (by decide) so_13 rfl 42 (by decide) (hts (.fieldLink RX12 97 "CapLeagueModel" "triedClub" "[I") (by decide +kernel)) rfl dX12_tryRing_148 (by show va_rf (z.R a0 42) = _; rw [rtc]; rfl) ?_
                refine lv_iload_n hx hb dX12_tryRing_151 rfl (lv_at hl 0 rfl) ?_
                refine h_ald hx hb g ttc (by decide) so_1342 (by unfold vp_in; decide) dX12_tryRing_152 ?_
                refine xw_i ((h_n1 eI35 ttc trg (by decide)).trans ((h_n1 eI34 ttc trc (by decide)).trans ((h_n1 eI32 ttc t_a0 (by decide)).trans ((h_n1 eI31 ttc t_a0 (by decide)).trans (ekc1))))) ?_
                refine h_ast hx hb g trc (by decide) so_1339 (by unfold vp_in; decide) dX12_tryRing_153 (fun I37 H locs eI37 g => ?_)
                have hI := hI.wr eI37 trc (rfl : h_bd 1339 _ = ((-2147483648), 2147483647)) (xi_lo _) (Int.le_of_lt_add_one (xi_hi _))
                have hF := hF.wr eI37 trc rfl
                refine lv_aload_n hx hb dX12_tryRing_154 rfl (lv_at hl 5 rfl) ?_
                refine h_get (v := .ref rg) hx hb hts iX12 hown g t_a0 (by decide) so_13 rfl 40 (by decide) (hts (.fieldLink RX12 94 "CapLeagueModel" "ringGives" "[I") (by decide +kernel)) rfl dX12_tryRing_155 (by show va_rf (z.R a0 40) = _; rw [rrg]; rfl) ?_
                refine lv_iload_n hx hb dX12_tryRing_158 rfl (lv_at hl 0 rfl) ?_
                refine lv_aload_n hx hb dX12_tryRing_159 rfl (lv_at hl 5 rfl) ?_
                refine h_get (v := .ref tg) hx hb hts iX12 hown g t_a0 (by decide) so_13 rfl 43 (by decide) (hts (.fieldLink RX12 100 "CapLeagueModel" "triedGives" "[I") (by decide +kernel)) rfl dX12_tryRing_160 (by show va_rf (z.R a0 43) = _; rw [rtg]; rfl) ?_
                refine lv_iload_n hx hb dX12_tryRing_163 rfl (lv_at hl 0 rfl) ?_
                refine h_ald hx hb g ttg (by decide) so_1343 (by unfold vp_in; decide) dX12_tryRing_164 ?_
                refine xw_i ((h_n1 eI37 ttg trc (by decide)).trans ((h_n1 eI35 ttg trg (by decide)).trans ((h_n1 eI34 ttg trc (by decide)).trans ((h_n1 eI32 ttg t_a0 (by decide)).trans ((h_n1 eI31 ttg t_a0 (by decide)).trans (ekg1)))))) ?_
                refine h_ast hx hb g trg (by decide) so_1340 (by unfold vp_in; decide) dX12_tryRing_165 (fun I38 H locs eI38 g => ?_)
                have hI := hI.wr eI38 trg (rfl : h_bd 1340 _ = ((-2147483648), 2147483647)) (xi_lo _) (Int.le_of_lt_add_one (xi_hi _))
                have hF := hF.wr eI38 trg rfl
                refine lv_iinc (v := 2) (lv' := [(3, .int 2), (2, .int v18), (6, .int v16), (5, .int c2), (4, .int 1), (0, .ref a0), (1, .int 3)]) hx hb dX12_tryRing_166 hl (k := 0) rfl (by decide) (by decide) rfl (fun ls hl => ?_)
                refine lv_goto (tgt := 137) hx hb dX12_tryRing_169 (by decide) ?_
                refine lv_iload_n hx hb dX12_tryRing_137 rfl (lv_at hl 0 rfl) ?_
                refine lv_iload_n hx hb dX12_tryRing_138 rfl (lv_at hl 6 rfl) ?_
                refine lv_icmp_ge (tgt := 172) hx hb dX12_tryRing_139 (by decide) (fun h => absurd h (by decide)) (fun _ => ?_)
                refine lv_aload_n hx hb dX12_tryRing_142 rfl (lv_at hl 5 rfl) ?_
                refine h_get (v := .ref rc) hx hb hts iX12 hown g t_a0 (by decide) so_13 rfl 39 (by decide) (hts (.fieldLink RX12 91 "CapLeagueModel" "ringClub" "[I") (by decide +kernel)) rfl dX12_tryRing_143 (by show va_rf (z.R a0 39) = _; rw [rrc]; rfl) ?_
                refine lv_iload_n hx hb dX12_tryRing_146 rfl (lv_at hl 0 rfl) ?_
                refine lv_aload_n hx hb dX12_tryRing_147 rfl (lv_at hl 5 rfl) ?_
                refine h_get (v := .ref tc) hx hb hts iX12 hown g t_a0 (by decide) so_13 rfl 42 (by decide) (hts (.fieldLink RX12 97 "CapLeagueModel" "triedClub" "[I") (by decide +kernel)) rfl dX12_tryRing_148 (by show va_rf (z.R a0 42) = _; rw [rtc]; rfl) ?_
                refine lv_iload_n hx hb dX12_tryRing_151 rfl (lv_at hl 0 rfl) ?_
                refine h_ald hx hb g ttc (by decide) so_1342 (by unfold vp_in; decide) dX12_tryRing_152 ?_
                refine xw_i ((h_n1 eI38 ttc trg (by decide)).trans ((h_n1 eI37 ttc trc (by decide)).trans ((h_n1 eI35 ttc trg (by decide)).trans ((h_n1 eI34 ttc trc (by decide)).trans ((h_n1 eI32 ttc t_a0 (by decide)).trans ((h_n1 eI31 ttc t_a0 (by decide)).trans (ekc2))))))) ?_
                refine h_ast hx hb g trc (by decide) so_1339 (by unfold vp_in; decide) dX12_tryRing_153 (fun I40 H locs eI40 g => ?_)
                have hI := hI.wr eI40 trc (rfl : h_bd 1339 _ = ((-2147483648), 2147483647)) (xi_lo _) (Int.le_of_lt_add_one (xi_hi _))
                have hF := hF.wr eI40 trc rfl
                refine lv_aload_n hx hb dX12_tryRing_154 rfl (lv_at hl 5 rfl) ?_
                refine h_get (v := .ref rg) hx hb hts iX12 hown g t_a0 (by decide) so_13 rfl 40 (by decide) (hts (.fieldLink RX12 94 "CapLeagueModel" "ringGives" "[I") (by decide +kernel)) rfl dX12_tryRing_155 (by show va_rf (z.R a0 40) = _; rw [rrg]; rfl) ?_
                refine lv_iload_n hx hb dX12_tryRing_158 rfl (lv_at hl 0 rfl) ?_
                refine lv_aload_n hx hb dX12_tryRing_159 rfl (lv_at hl 5 rfl) ?_
                refine h_get (v := .ref tg) hx hb hts iX12 hown g t_a0 (by decide) so_13 rfl 43 (by decide) (hts (.fieldLink RX12 100 "CapLeagueModel" "triedGives" "[I") (by decide +kernel)) rfl dX12_tryRing_160 (by show va_rf (z.R a0 43) = _; rw [rtg]; rfl) ?_
                refine lv_iload_n hx hb dX12_tryRing_163 rfl (lv_at hl 0 rfl) ?_
                refine h_ald hx hb g ttg (by decide) so_1343 (by unfold vp_in; decide) dX12_tryRing_164 ?_
                refine xw_i ((h_n1 eI40 ttg trc (by decide)).trans ((h_n1 eI38 ttg trg (by decide)).trans ((h_n1 eI37 ttg trc (by decide)).trans ((h_n1 eI35 ttg trg (by decide)).trans ((h_n1 eI34 ttg trc (by decide)).trans ((h_n1 eI32 ttg t_a0 (by decide)).trans ((h_n1 eI31 ttg t_a0 (by decide)).trans (ekg2)))))))) ?_
                refine h_ast hx hb g trg (by decide) so_1340 (by unfold vp_in; decide) dX12_tryRing_165 (fun I41 H locs eI41 g => ?_)
                have hI := hI.wr eI41 trg (rfl : h_bd 1340 _ = ((-2147483648), 2147483647)) (xi_lo _) (Int.le_of_lt_add_one (xi_hi _))
                have hF := hF.wr eI41 trg rfl
                refine lv_iinc (v := 3) (lv' := [(3, .int 3), (2, .int v18), (6, .int v16), (5, .int c2), (4, .int 1), (0, .ref a0), (1, .int 3)]) hx hb dX12_tryRing_166 hl (k := 0) rfl (by decide) (by decide) rfl (fun ls hl => ?_)
                refine lv_goto (tgt := 137) hx hb dX12_tryRing_169 (by decide) ?_
                refine lv_iload_n hx hb dX12_tryRing_137 rfl (lv_at hl 0 rfl) ?_
                refine lv_iload_n hx hb dX12_tryRing_138 rfl (lv_at hl 6 rfl) ?_
                refine lv_icmp_ge (tgt := 172) hx hb dX12_tryRing_139 (by decide) (fun _ => ?_) (fun h => absurd (by decide) h)
                have hS := g.2.1
                exact W.vret hx hb hr (fun t ht hW => ⟨⟨I41, rfl, ⟨hI, hF, (by rw [atc, atg, ← ec0, ← ec1, ← ec2, ← eg0, ← eg1, ← eg2]; rw [show r_st3 (m_G z I0 a0 u_) c0.toInt c1.toInt c2.toInt g0.toInt.toNat g1.toInt.toNat g2.toInt.toNat s_ = _ from r_st3_y (g := m_G z I0 a0 u_) ((r_g_y (by rw [bE0]; omega) (by rcases h22p0 with q | q; exact q.2; omega)).trans (congrArg Int32.toInt bE0) : m_G z I0 a0 u_ c0.toInt g0.toInt.toNat g2.toInt.toNat = v4.toInt) ((r_g_y (by rw [bE1]; omega) (by rcases h25p0 with q | q; exact q.2; omega)).trans (congrArg Int32.toInt bE1) : m_G z I0 a0 u_ c1.toInt g1.toInt.toNat g0.toInt.toNat = v10.toInt) ((r_g_y (by rw [bE2]; omega) (by rcases h28p0 with q | q; exact q.2; omega)).trans (congrArg Int32.toInt bE2) : m_G z I0 a0 u_ c2.toInt g2.toInt.toNat g1.toInt.toNat = v16.toInt) (by omega) (by omega) (by omega) (by omega)]; unfold m_rs; rw [arc, arg]; exact ⟨by rw [(h_n1 eI41 t_a0 trg (by decide)).trans ((h_n1 eI40 t_a0 trc (by decide)).trans ((h_n1 eI38 t_a0 trg (by decide)).trans ((h_n1 eI37 t_a0 trc (by decide)).trans ((h_n1 eI35 t_a0 trg (by decide)).trans ((h_n1 eI34 t_a0 trc (by decide)).trans ((h_n2 eI32 (by decide)).trans (h_n0 eI31)))))))]; show _ = v4.toInt + v10.toInt + v16.toInt; omega, by rw [(h_n1 eI41 t_a0 trg (by decide)).trans ((h_n1 eI40 t_a0 trc (by decide)).trans ((h_n1 eI38 t_a0 trg (by decide)).trans ((h_n1 eI37 t_a0 trc (by decide)).trans ((h_n1 eI35 t_a0 trg (by decide)).trans ((h_n1 eI34 t_a0 trc (by decide)).trans (h_n0 eI32))))))]; show (3 : Int32).toInt = ((3 : Nat) : Int); decide, fun i hi => by rcases (show i = 0 ∨ i = 1 ∨ i = 2 by simp at hi; omega) with rfl | rfl | rfl; exact ⟨by have h9 := (h_n1 eI41 trc trg (by decide)).trans ((h_n2 eI40 (by decide)).trans ((h_n1 eI38 trc trg (by decide)).trans ((h_n2 eI37 (by decide)).trans ((h_n1 eI35 trc trg (by decide)).trans (h_n0 eI34))))); rw [show (0 : Int32).toNatClampNeg = 0 by decide] at h9; rw [h9]; rfl, by have h9 := (h_n2 eI41 (by decide)).trans ((h_n1 eI40 trg trc (by decide)).trans ((h_n2 eI38 (by decide)).trans ((h_n1 eI37 trg trc (by decide)).trans (h_n0 eI35)))); rw [show (0 : Int32).toNatClampNeg = 0 by decide] at h9; rw [h9]; show g0.toInt = ((g0.toInt.toNat : Nat) : Int); omega⟩; exact ⟨by have h9 := (h_n1 eI41 trc trg (by decide)).trans ((h_n2 eI40 (by decide)).trans ((h_n1 eI38 trc trg (by decide)).trans (h_n0 eI37))); rw [show (1 : Int32).toNatClampNeg = 1 by decide] at h9; rw [h9]; rfl, by have h9 := (h_n2 eI41 (by decide)).trans ((h_n1 eI40 trg trc (by decide)).trans (h_n0 eI38)); rw [show (1 : Int32).toNatClampNeg = 1 by decide] at h9; rw [h9]; show g1.toInt = ((g1.toInt.toNat : Nat) : Int); omega⟩; exact ⟨by have h9 := (h_n1 eI41 trc trg (by decide)).trans (h_n0 eI40); rw [show (2 : Int32).toNatClampNeg = 2 by decide] at h9; rw [h9]; rfl, by have h9 := h_n0 eI41; rw [show (2 : Int32).toNatClampNeg = 2 by decide] at h9; rw [h9]; show g2.toInt = ((g2.toInt.toNat : Nat) : Int); omega⟩⟩)⟩, h_ret g ht⟩, hS.F ht⟩) hS.2.2 dX12_tryRing_172
              · have ic29 := (xi_eq c29 rfl (by decide) : rh28.toInt = 0)
                have hS := g.2.1
                exact W.vret hx hb hr (fun t ht hW => ⟨⟨I0, rfl, ⟨hI, hF, (by rw [atc, atg, ← ec0, ← ec1, ← ec2, ← eg0, ← eg1, ← eg2]; rw [r_st3_n (Or.inr (Or.inr (Or.inl (by rw [show m_G z I0 a0 u_ c2.toInt g2.toInt.toNat g1.toInt.toNat = 0 from r_g_n (Or.inr (by rcases h28p0 with q | q; omega; exact q.2))]; exact Int.le_refl _))))]; exact hs0)⟩, h_ret g ht⟩, hS.F ht⟩) hS.2.2 dX12_tryRing_118
            · have ic26 := (xi_eq c26 rfl (by decide) : rh25.toInt = 0)
              have hS := g.2.1
              exact W.vret hx hb hr (fun t ht hW => ⟨⟨I0, rfl, ⟨hI, hF, (by rw [atc, atg, ← ec0, ← ec1, ← ec2, ← eg0, ← eg1, ← eg2]; rw [r_st3_n (Or.inr (Or.inl (by rw [show m_G z I0 a0 u_ c1.toInt g1.toInt.toNat g0.toInt.toNat = 0 from r_g_n (Or.inr (by rcases h25p0 with q | q; omega; exact q.2))]; exact Int.le_refl _)))]; exact hs0)⟩, h_ret g ht⟩, hS.F ht⟩) hS.2.2 dX12_tryRing_118
          · have ic23 := (xi_eq c23 rfl (by decide) : rh22.toInt = 0)
            have hS := g.2.1
            exact W.vret hx hb hr (fun t ht hW => ⟨⟨I0, rfl, ⟨hI, hF, (by rw [atc, atg, ← ec0, ← ec1, ← ec2, ← eg0, ← eg1, ← eg2]; rw [r_st3_n (Or.inl (by rw [show m_G z I0 a0 u_ c0.toInt g0.toInt.toNat g2.toInt.toNat = 0 from r_g_n (Or.inr (by rcases h22p0 with q | q; omega; exact q.2))]; exact Int.le_refl _))]; exact hs0)⟩, h_ret g ht⟩, hS.F ht⟩) hS.2.2 dX12_tryRing_118
        · have ic20 := (xi_nlt c20 rfl rfl : v18.toInt ≤ f0_44.toInt)
          have hS := g.2.1
          exact W.vret hx hb hr (fun t ht hW => ⟨⟨I0, rfl, ⟨hI, hF, (by rw [atc, atg, ← ec0, ← ec1, ← ec2, ← eg0, ← eg1, ← eg2]; have l0 : m_G z I0 a0 u_ c0.toInt g0.toInt.toNat g2.toInt.toNat ≤ (m_w z I0 a0 c0.toInt g2.toInt.toNat - m_w z I0 a0 c0.toInt g0.toInt.toNat).toInt := r_g_le (by rw [bE0]; omega); have l1 : m_G z I0 a0 u_ c1.toInt g1.toInt.toNat g0.toInt.toNat ≤ (m_w z I0 a0 c1.toInt g0.toInt.toNat - m_w z I0 a0 c1.toInt g1.toInt.toNat).toInt := r_g_le (by rw [bE1]; omega); have l2 : m_G z I0 a0 u_ c2.toInt g2.toInt.toNat g1.toInt.toNat ≤ (m_w z I0 a0 c2.toInt g1.toInt.toNat - m_w z I0 a0 c2.toInt g2.toInt.toNat).toInt := r_g_le (by rw [bE2]; omega); rw [bE0] at l0; rw [bE1] at l1; rw [bE2] at l2; rw [r_st3_n (Or.inr (Or.inr (Or.inr ((by omega)))))]; exact hs0)⟩, h_ret g ht⟩, hS.F ht⟩) hS.2.2 dX12_tryRing_79
      · have ic17 := (xi_nlt c17 (by decide) rfl : v16.toInt ≤ 0)
        have hS := g.2.1
        exact W.vret hx hb hr (fun t ht hW => ⟨⟨I0, rfl, ⟨hI, hF, (by rw [atc, atg, ← ec0, ← ec1, ← ec2, ← eg0, ← eg1, ← eg2]; rw [r_st3_n (Or.inr (Or.inr (Or.inl (by rw [show m_G z I0 a0 u_ c2.toInt g2.toInt.toNat g1.toInt.toNat = 0 from r_g_n (Or.inl (by rw [bE2]; omega))]; exact Int.le_refl _))))]; exact hs0)⟩, h_ret g ht⟩, hS.F ht⟩) hS.2.2 dX12_tryRing_59
    · have ic11 := (xi_nlt c11 (by decide) rfl : v10.toInt ≤ 0)
      have hS := g.2.1
      exact W.vret hx hb hr (fun t ht hW => ⟨⟨I0, rfl, ⟨hI, hF, (by rw [atc, atg, ← ec0, ← ec1, ← ec2, ← eg0, ← eg1, ← eg2]; rw [r_st3_n (Or.inr (Or.inl (by rw [show m_G z I0 a0 u_ c1.toInt g1.toInt.toNat g0.toInt.toNat = 0 from r_g_n (Or.inl (by rw [bE1]; omega))]; exact Int.le_refl _)))]; exact hs0)⟩, h_ret g ht⟩, hS.F ht⟩) hS.2.2 dX12_tryRing_59
  · have ic5 := (xi_nlt c5 (by decide) rfl : v4.toInt ≤ 0)
    have hS := g.2.1
    exact W.vret hx hb hr (fun t ht hW => ⟨⟨I0, rfl, ⟨hI, hF, (by rw [atc, atg, ← ec0, ← ec1, ← ec2, ← eg0, ← eg1, ← eg2]; rw [r_st3_n (Or.inl (by rw [show m_G z I0 a0 u_ c0.toInt g0.toInt.toNat g2.toInt.toNat = 0 from r_g_n (Or.inl (by rw [bE0]; omega))]; exact Int.le_refl _))]; exact hs0)⟩, h_ret g ht⟩, hS.F ht⟩) hS.2.2 dX12_tryRing_59

