set_option maxHeartbeats 4000000 in
set_option maxRecDepth 100000 in
theorem tX7_factR (l : Launch) (E : tE) (X : tX) (A : Nat → Prop) (z : tZ) (I0 : tI) (L0 : tL) (a0 : Nat) (t_a0 : z.ty a0 = 8) (x : Int32) (x_t : Int) (h_x : x.toInt = x_t) : Met l yX7_fact wsX7_fact ({ frames := 1, cells := 0, slots := 0, locals := 64 }) (va_Pc [.ref a0, .int x] (h_P E X A z I0 L0)) (vp_Si (fun r => (r_tl (I0 a0 10).toInt (I0 (h_ad z a0 11)) (I0 (h_ad z a0 12)) x_t r.toInt))) 0 0 (fun _ => False) := by
  refine Met.ofW (cc := cX7_fact) (maxL := 2) (ret := (some .int)) (by decide) rfl ?_
  intro pr_ ev_ s m args below meth cd_ s₁ B hml hv
  obtain ⟨rfl, hE, hk, hX, hA, hK, hI, hR, hB0⟩ := hv
  have g : h_G h_so h_fk E A z I0 L0 s s.heap s.heap [] := ⟨hK, va_S.rf, hB0⟩
  have hx := B.exec
  have hb := B.bytes
  have hr := B.returns
  have hts := atoms_spec (ws := wsX7_fact) B.pre
  have hown : s.vm.findClass RX7 = some m.cls := findClass_of_methodNamed B.named
  have hlocks := B.notSynchronized
  have iX7 : ∀ w ∈ u_ws RX7 TX7 13, w ∈ wsX7_fact := by decide +kernel
  have hl := lv_entry ([.ref a0, .int x]) (n := 2) (Nat.le_of_ble_eq_true rfl)
  rw [lg_entry_eq]
  generalize (lg_sl ([.ref a0, .int x]) ++ List.replicate (2 - (lg_sl ([.ref a0, .int x])).length) Slot.unset).toArray = ls at hl ⊢
  have hl : lv_has ls 2 [(0, .ref a0), (1, .int x)] := hl
  have b_x : -2147483648 ≤ x_t ∧ x_t ≤ 2147483647 := h_x ▸ ⟨xi_lo x, Int.le_of_lt_add_one (xi_hi x)⟩
  obtain ⟨cr, rcr, tcr⟩ := hR.at a0 11 t_a0 (rfl : h_rs 8 11 = some (811, false)) (by decide)
  have acr : h_ad z a0 11 = cr := h_ad.at rcr
  obtain ⟨pr, rpr, tpr⟩ := hR.at a0 12 t_a0 (rfl : h_rs 8 12 = some (812, false)) (by decide)
  have apr : h_ad z a0 12 = pr := h_ad.at rpr
  obtain ⟨f0_10, ef0_10⟩ : ∃ v : Int32, v = I0 a0 10 := ⟨_, rfl⟩
  have qf0_10 : (I0 a0 10).toInt = f0_10.toInt := congrArg Int32.toInt ef0_10.symm
  have jf0_10 := hI.rd a0 10 t_a0 ef0_10 (rfl : h_bd 8 10 = (0, 3))
  refine lv_iload_n hx hb dX7_fact_0 rfl (lv_at hl 1 rfl) ?_
  refine lv_if_ne (tgt := 20) hx hb dX7_fact_1 (by decide) (fun c1 => ?_) (fun c1 => ?_)
  · have ic1 := (xi_ne c1 h_x (by decide) : x_t ≠ 0)
    refine lv_iload_n hx hb dX7_fact_20 rfl (lv_at hl 1 rfl) ?_
    refine lv_iconst (v := 1) hx hb dX7_fact_21 (by decide) ?_
    refine lv_icmp_lt (tgt := 42) hx hb dX7_fact_22 (by decide) (fun c2 => ?_) (fun c2 => ?_)
    · have ic2 := (xi_lt c2 h_x (by decide) : x_t < 1)
      refine lv_iload_n hx hb dX7_fact_42 rfl (lv_at hl 1 rfl) ?_
      refine lv_iconst (v := 4) hx hb dX7_fact_43 (by decide) ?_
      refine lv_icmp_lt (tgt := 68) hx hb dX7_fact_44 (by decide) (fun c3 => ?_) (fun h => absurd (xi_nlt h h_x (by decide) : 4 ≤ x_t) (by omega))
      have ic3 := (xi_lt c3 h_x (by decide) : x_t < 4)
      refine lv_iconst (v := (-1)) hx hb dX7_fact_68 (by decide) ?_
      exact W.iret (v := (-1)) hx hb hr (fun t ht hW => ⟨(-1), rfl, (by have z9 : ((-1) : Int32).toInt = -1 := (by decide); rw [acr, apr, qf0_10]; unfold r_tl; omega), ht⟩) (fun _ h => by cases h) dX7_fact_69
    · have ic2 := (xi_nlt c2 h_x (by decide) : 1 ≤ x_t)
      refine lv_iload_n hx hb dX7_fact_25 rfl (lv_at hl 1 rfl) ?_
      refine lv_aload_n hx hb dX7_fact_26 rfl (lv_at hl 0 rfl) ?_
      refine h_get (v := .int f0_10) hx hb hts iX7 hown g t_a0 (by decide) so_8 rfl 10 (by decide) (hts (.fieldLink RX7 71 "CapLeague$RingSearch" "clubsInRing" "I") (by decide +kernel)) rfl dX7_fact_27 (congrArg Value.int (ef0_10.symm)) ?_
      refine lv_icmp_gt (tgt := 42) hx hb dX7_fact_30 (by decide) (fun c4 => ?_) (fun c4 => ?_)
      · have ic4 := (xi_lt c4 rfl h_x : f0_10.toInt < x_t)
        refine lv_iload_n hx hb dX7_fact_42 rfl (lv_at hl 1 rfl) ?_
        refine lv_iconst (v := 4) hx hb dX7_fact_43 (by decide) ?_
        refine lv_icmp_lt (tgt := 68) hx hb dX7_fact_44 (by decide) (fun c5 => ?_) (fun c5 => ?_)
        · have ic5 := (xi_lt c5 h_x (by decide) : x_t < 4)
          refine lv_iconst (v := (-1)) hx hb dX7_fact_68 (by decide) ?_
          exact W.iret (v := (-1)) hx hb hr (fun t ht hW => ⟨(-1), rfl, (by have z9 : ((-1) : Int32).toInt = -1 := (by decide); rw [acr, apr, qf0_10]; unfold r_tl; omega), ht⟩) (fun _ h => by cases h) dX7_fact_69
        · have ic5 := (xi_nlt c5 h_x (by decide) : 4 ≤ x_t)
          refine lv_iload_n hx hb dX7_fact_47 rfl (lv_at hl 1 rfl) ?_
          refine lv_iconst (v := 4) hx hb dX7_fact_48 (by decide) ?_
          refine lv_isub hx hb dX7_fact_49 ?_
          refine lv_topi (fun v6 ev6 => ?_)
          have jv6 : v6.toInt = x_t - 4 := xi_sub ev6 h_x (by decide) (by omega) (by omega)
          refine lv_aload_n hx hb dX7_fact_50 rfl (lv_at hl 0 rfl) ?_
          refine h_get (v := .int f0_10) hx hb hts iX7 hown g t_a0 (by decide) so_8 rfl 10 (by decide) (hts (.fieldLink RX7 71 "CapLeague$RingSearch" "clubsInRing" "I") (by decide +kernel)) rfl dX7_fact_51 (congrArg Value.int (ef0_10.symm)) ?_
          refine lv_icmp_ge (tgt := 68) hx hb dX7_fact_54 (by decide) (fun c7 => ?_) (fun c7 => ?_)
          · have ic7 := (xi_le c7 rfl rfl : f0_10.toInt ≤ v6.toInt)
            refine lv_iconst (v := (-1)) hx hb dX7_fact_68 (by decide) ?_
            exact W.iret (v := (-1)) hx hb hr (fun t ht hW => ⟨(-1), rfl, (by have z9 : ((-1) : Int32).toInt = -1 := (by decide); rw [acr, apr, qf0_10]; unfold r_tl; omega), ht⟩) (fun _ h => by cases h) dX7_fact_69
          · have ic7 := (xi_nle c7 rfl rfl : v6.toInt < f0_10.toInt)
            refine lv_aload_n hx hb dX7_fact_57 rfl (lv_at hl 0 rfl) ?_
            refine h_get (v := .ref pr) hx hb hts iX7 hown g t_a0 (by decide) so_8 rfl 12 (by decide) (hts (.fieldLink RX7 45 "CapLeague$RingSearch" "playerRow" "[I") (by decide +kernel)) rfl dX7_fact_58 (by show va_rf (z.R a0 12) = _; rw [rpr]; rfl) ?_
            refine lv_iload_n hx hb dX7_fact_61 rfl (lv_at hl 1 rfl) ?_
            refine lv_iconst (v := 4) hx hb dX7_fact_62 (by decide) ?_
            refine lv_isub hx hb dX7_fact_63 ?_
            refine xw_i (v := v6) ev6.symm ?_
            refine h_ald hx hb g tpr (by decide) so_812 (xi_in (by omega) (by omega)) dX7_fact_64 ?_
            refine lv_topi (fun v8 ev8 => ?_)
            have jv8 := hI.rd pr v6.toNatClampNeg tpr ev8 (rfl : h_bd 812 _ = ((-2147483648), 2147483647))
            have tl : v8.toInt = (I0 pr (x_t - 4).toNat).toInt := by rw [ev8, (h_keq (i := v6) (t := v6.toInt) (k := (x_t - 4).toNat) rfl (by omega) (by omega) : v6.toNatClampNeg = (x_t - 4).toNat)]
            refine lv_goto (tgt := 69) hx hb dX7_fact_65 (by decide) ?_
            exact W.iret (v := v8) hx hb hr (fun t ht hW => ⟨v8, rfl, (by rw [acr, apr, qf0_10]; unfold r_tl; omega), ht⟩) (fun _ h => by cases h) dX7_fact_69
      · have ic4 := (xi_nlt c4 rfl h_x : x_t ≤ f0_10.toInt)
        refine lv_aload_n hx hb dX7_fact_33 rfl (lv_at hl 0 rfl) ?_
        refine h_get (v := .ref cr) hx hb hts iX7 hown g t_a0 (by decide) so_8 rfl 11 (by decide) (hts (.fieldLink RX7 42 "CapLeague$RingSearch" "clubRow" "[I") (by decide +kernel)) rfl dX7_fact_34 (by show va_rf (z.R a0 11) = _; rw [rcr]; rfl) ?_
        refine lv_iload_n hx hb dX7_fact_37 rfl (lv_at hl 1 rfl) ?_
        refine lv_iconst (v := 1) hx hb dX7_fact_38 (by decide) ?_
        refine lv_isub hx hb dX7_fact_39 ?_
        refine lv_topi (fun v9 ev9 => ?_)
        have jv9 : v9.toInt = x_t - 1 := xi_sub ev9 h_x (by decide) (by omega) (by omega)
        refine h_ald hx hb g tcr (by decide) so_811 (xi_in (by omega) (by omega)) dX7_fact_40 ?_
        refine lv_topi (fun v10 ev10 => ?_)
        have jv10 := hI.rd cr v9.toNatClampNeg tcr ev10 (rfl : h_bd 811 _ = ((-2147483648), 2147483647))
        have tl : v10.toInt = (I0 cr (x_t - 1).toNat).toInt := by rw [ev10, (h_keq (i := v9) (t := v9.toInt) (k := (x_t - 1).toNat) rfl (by omega) (by omega) : v9.toNatClampNeg = (x_t - 1).toNat)]
        exact W.iret (v := v10) hx hb hr (fun t ht hW => ⟨v10, rfl, (by rw [acr, apr, qf0_10]; unfold r_tl; omega), ht⟩) (fun _ h => by cases h) dX7_fact_41
  · have ic1 := (xi_eq c1 h_x (by decide) : x_t = 0)
    refine lv_aload_n hx hb dX7_fact_4 rfl (lv_at hl 0 rfl) ?_
    refine h_get (v := .int f0_10) hx hb hts iX7 hown g t_a0 (by decide) so_8 rfl 10 (by decide) (hts (.fieldLink RX7 71 "CapLeague$RingSearch" "clubsInRing" "I") (by decide +kernel)) rfl dX7_fact_5 (congrArg Value.int (ef0_10.symm)) ?_
    refine lv_if_le (tgt := 18) hx hb dX7_fact_8 (by decide) (fun c11 => ?_) (fun c11 => ?_)
    · have ic11 := (xi_le c11 rfl (by decide) : f0_10.toInt ≤ 0)
      refine lv_iconst (v := (-1)) hx hb dX7_fact_18 (by decide) ?_
      exact W.iret (v := (-1)) hx hb hr (fun t ht hW => ⟨(-1), rfl, (by have z9 : ((-1) : Int32).toInt = -1 := (by decide); rw [acr, apr, qf0_10]; unfold r_tl; omega), ht⟩) (fun _ h => by cases h) dX7_fact_19
    · have ic11 := (xi_nle c11 rfl (by decide) : 0 < f0_10.toInt)
      refine lv_aload_n hx hb dX7_fact_11 rfl (lv_at hl 0 rfl) ?_
      refine h_get (v := .int f0_10) hx hb hts iX7 hown g t_a0 (by decide) so_8 rfl 10 (by decide) (hts (.fieldLink RX7 71 "CapLeague$RingSearch" "clubsInRing" "I") (by decide +kernel)) rfl dX7_fact_12 (congrArg Value.int (ef0_10.symm)) ?_
      refine lv_goto (tgt := 19) hx hb dX7_fact_15 (by decide) ?_
      exact W.iret (v := f0_10) hx hb hr (fun t ht hW => ⟨f0_10, rfl, (by rw [acr, apr, qf0_10]; unfold r_tl; omega), ht⟩) (fun _ h => by cases h) dX7_fact_19
set_option maxHeartbeats 4000000 in
set_option maxRecDepth 100000 in
theorem tX12_ringedR (l : Launch) (E : tE) (X : tX) (A : Nat → Prop) (z : tZ) (I0 : tI) (L0 : tL) (a0 : Nat) (t_a0 : z.ty a0 = 13) (x : Int32) (x_t : Int) (h_x : x.toInt = x_t) : Met l yX12_ringed wsX12_ringed ({ frames := 2, cells := 0, slots := 0, locals := 128 }) (va_Pc [.ref a0, .int x] (h_P E X A z I0 L0)) (vp_Si (fun r => (r_tl (I0 a0 41).toInt (I0 (h_ad z a0 46)) (I0 (h_ad z a0 47)) x_t r.toInt))) 0 0 (fun _ => False) := by
  refine Met.ofW (cc := cX12_ringed) (maxL := 2) (ret := (some .int)) (by decide) rfl ?_
  intro pr_ ev_ s m args below meth cd_ s₁ B hml hv
  obtain ⟨rfl, hE, hk, hX, hA, hK, hI, hR, hB0⟩ := hv
  have g : h_G h_so h_fk E A z I0 L0 s s.heap s.heap [] := ⟨hK, va_S.rf, hB0⟩
  have hx := B.exec
  have hb := B.bytes
  have hr := B.returns
  have hts := atoms_spec (ws := wsX12_ringed) B.pre
  have hown : s.vm.findClass RX12 = some m.cls := findClass_of_methodNamed B.named
  have hlocks := B.notSynchronized
  have iX12 : ∀ w ∈ u_ws RX12 TX12 51, w ∈ wsX12_ringed := by decide +kernel
  have hl := lv_entry ([.ref a0, .int x]) (n := 2) (Nat.le_of_ble_eq_true rfl)
  rw [lg_entry_eq]
  generalize (lg_sl ([.ref a0, .int x]) ++ List.replicate (2 - (lg_sl ([.ref a0, .int x])).length) Slot.unset).toArray = ls at hl ⊢
  have hl : lv_has ls 2 [(0, .ref a0), (1, .int x)] := hl
  have b_x : -2147483648 ≤ x_t ∧ x_t ≤ 2147483647 := h_x ▸ ⟨xi_lo x, Int.le_of_lt_add_one (xi_hi x)⟩
  obtain ⟨td, rtd, ttd⟩ := hR.at a0 46 t_a0 (rfl : h_rs 13 46 = some (1346, false)) (by decide)
  have atd : h_ad z a0 46 = td := h_ad.at rtd
  obtain ⟨te, rte, tte⟩ := hR.at a0 47 t_a0 (rfl : h_rs 13 47 = some (1347, false)) (by decide)
  have ate : h_ad z a0 47 = te := h_ad.at rte
  obtain ⟨f0_41, ef0_41⟩ : ∃ v : Int32, v = I0 a0 41 := ⟨_, rfl⟩
  have qf0_41 : (I0 a0 41).toInt = f0_41.toInt := congrArg Int32.toInt ef0_41.symm
  have jf0_41 := hI.rd a0 41 t_a0 ef0_41 (rfl : h_bd 13 41 = (0, 3))
  refine lv_aload_n hx hb dX12_ringed_0 rfl (lv_at hl 0 rfl) ?_
  refine h_get (v := .int f0_41) hx hb hts iX12 hown g t_a0 (by decide) so_13 rfl 41 (by decide) (hts (.fieldLink RX12 297 "CapLeagueModel" "ringMany" "I") (by decide +kernel)) rfl dX12_ringed_1 (congrArg Value.int (ef0_41.symm)) ?_
  refine lv_if_ne (tgt := 9) hx hb dX12_ringed_4 (by decide) (fun c1 => ?_) (fun c1 => ?_)
  · have ic1 := (xi_ne c1 rfl (by decide) : f0_41.toInt ≠ 0)
    refine lv_iload_n hx hb dX12_ringed_9 rfl (lv_at hl 1 rfl) ?_
    refine lv_if_ne (tgt := 18) hx hb dX12_ringed_10 (by decide) (fun c2 => ?_) (fun c2 => ?_)
    · have ic2 := (xi_ne c2 h_x (by decide) : x_t ≠ 0)
      refine lv_iload_n hx hb dX12_ringed_18 rfl (lv_at hl 1 rfl) ?_
      refine lv_i2l hx hb dX12_ringed_19 rfl ?_
      refine lv_topl (fun v3 ev3 => ?_)
      have jv3 : v3.toInt = x_t := by rw [ev3, xi_64]; exact h_x
      refine lv_lconst (v := 1) hx hb dX12_ringed_20 (by decide) ?_
      refine lv_aload_n hx hb dX12_ringed_21 rfl (lv_at hl 0 rfl) ?_
      refine h_get (v := .int f0_41) hx hb hts iX12 hown g t_a0 (by decide) so_13 rfl 41 (by decide) (hts (.fieldLink RX12 297 "CapLeagueModel" "ringMany" "I") (by decide +kernel)) rfl dX12_ringed_22 (congrArg Value.int (ef0_41.symm)) ?_
      refine lv_i2l hx hb dX12_ringed_25 rfl ?_
      refine lv_topl (fun v4 ev4 => ?_)
      have jv4 : v4.toInt = f0_41.toInt := by rw [ev4, xi_64]
      refine vp_callSi (W.runS (As := [.long v3, .long 1, .long v4]) (rest := []) ⟨hx, hb, hml, hown, hts⟩ (tX12_in l E X A z I0 L0 v3 (x_t) jv3 1 (1) (by decide) v4 (f0_41.toInt) jv4) (va_cwS 3 hts gX12_ringed_X12_in rfl rfl rfl (by decide +kernel) ⟨Nat.le_of_ble_eq_true rfl, Nat.le_of_ble_eq_true rfl⟩) ⟨h_blind _ _ _ _ _ _ _, h_pre _ hE hk hX hA hI hR g⟩ rfl rfl hl.1 rfl (lv_room (Nat.le_of_ble_eq_true rfl)) dX12_ringed_26 ⟨Nat.le_of_ble_eq_true rfl, Nat.le_of_ble_eq_true rfl⟩) (fun rh5 h5 => ?_)
      rcases h5 with ⟨rfl, h5⟩ | ⟨rfl, h5⟩
      · skip
        refine lv_if_eq (tgt := 41) hx hb dX12_ringed_29 (by decide) (fun _ => ?_) (fun h => absurd (by decide) h)
        refine lv_iload_n hx hb dX12_ringed_41 rfl (lv_at hl 1 rfl) ?_
        refine lv_i2l hx hb dX12_ringed_42 rfl ?_
        refine lv_topl (fun v7 ev7 => ?_)
        have jv7 : v7.toInt = x_t := by rw [ev7, xi_64]; exact h_x
        refine lv_ldc2 (v := 4) hx hb hown (hts (.constantLong RX12 300 (4)) (by decide +kernel)) dX12_ringed_43 ?_
        refine lv_iconst (v := 3) hx hb dX12_ringed_46 (by decide) ?_
        refine lv_aload_n hx hb dX12_ringed_47 rfl (lv_at hl 0 rfl) ?_
        refine h_get (v := .int f0_41) hx hb hts iX12 hown g t_a0 (by decide) so_13 rfl 41 (by decide) (hts (.fieldLink RX12 297 "CapLeagueModel" "ringMany" "I") (by decide +kernel)) rfl dX12_ringed_48 (congrArg Value.int (ef0_41.symm)) ?_
        refine lv_iadd hx hb dX12_ringed_51 ?_
        refine lv_topi (fun v8 ev8 => ?_)
        have jv8 : v8.toInt = 3 + f0_41.toInt := xi_add ev8 (by decide) rfl (by omega) (by omega)
        refine lv_i2l hx hb dX12_ringed_52 rfl ?_
        refine lv_topl (fun v9 ev9 => ?_)
        have jv9 : v9.toInt = v8.toInt := by rw [ev9, xi_64]
        refine vp_callSi (W.runS (As := [.long v7, .long 4, .long v9]) (rest := []) ⟨hx, hb, hml, hown, hts⟩ (tX12_in l E X A z I0 L0 v7 (x_t) jv7 4 (4) (by decide) v9 (v8.toInt) jv9) (va_cwS 3 hts gX12_ringed_X12_in rfl rfl rfl (by decide +kernel) ⟨Nat.le_of_ble_eq_true rfl, Nat.le_of_ble_eq_true rfl⟩) ⟨h_blind _ _ _ _ _ _ _, h_pre _ hE hk hX hA hI hR g⟩ rfl rfl hl.1 rfl (lv_room (Nat.le_of_ble_eq_true rfl)) dX12_ringed_53 ⟨Nat.le_of_ble_eq_true rfl, Nat.le_of_ble_eq_true rfl⟩) (fun rh10 h10 => ?_)
        rcases h10 with ⟨rfl, h10⟩ | ⟨rfl, h10⟩
        · skip
          refine lv_if_eq (tgt := 70) hx hb dX12_ringed_56 (by decide) (fun _ => ?_) (fun h => absurd (by decide) h)
          refine lv_iconst (v := (-1)) hx hb dX12_ringed_70 (by decide) ?_
          exact W.iret (v := (-1)) hx hb hr (fun t ht hW => ⟨(-1), rfl, (by have z9 : ((-1) : Int32).toInt = -1 := (by decide); rw [atd, ate, qf0_41]; unfold r_tl; omega), ht⟩) (fun _ h => by cases h) dX12_ringed_71
        · skip
          refine lv_if_eq (tgt := 70) hx hb dX12_ringed_56 (by decide) (fun h => absurd h (by decide)) (fun _ => ?_)
          refine lv_aload_n hx hb dX12_ringed_59 rfl (lv_at hl 0 rfl) ?_
          refine h_get (v := .ref te) hx hb hts iX12 hown g t_a0 (by decide) so_13 rfl 47 (by decide) (hts (.fieldLink RX12 106 "CapLeagueModel" "toldGives" "[I") (by decide +kernel)) rfl dX12_ringed_60 (by show va_rf (z.R a0 47) = _; rw [rte]; rfl) ?_
          refine lv_iload_n hx hb dX12_ringed_63 rfl (lv_at hl 1 rfl) ?_
          refine lv_iconst (v := 4) hx hb dX12_ringed_64 (by decide) ?_
          refine lv_isub hx hb dX12_ringed_65 ?_
          refine lv_topi (fun v13 ev13 => ?_)
          have jv13 : v13.toInt = x_t - 4 := xi_sub ev13 h_x (by decide) (by omega) (by omega)
          refine h_ald hx hb g tte (by decide) so_1347 (xi_in (by omega) (by omega)) dX12_ringed_66 ?_
          refine lv_topi (fun v14 ev14 => ?_)
          have jv14 := hI.rd te v13.toNatClampNeg tte ev14 (rfl : h_bd 1347 _ = ((-2147483648), 2147483647))
          have tl : v14.toInt = (I0 te (x_t - 4).toNat).toInt := by rw [ev14, (h_keq (i := v13) (t := v13.toInt) (k := (x_t - 4).toNat) rfl (by omega) (by omega) : v13.toNatClampNeg = (x_t - 4).toNat)]
          refine lv_goto (tgt := 71) hx hb dX12_ringed_67 (by decide) ?_
          exact W.iret (v := v14) hx hb hr (fun t ht hW => ⟨v14, rfl, (by rw [atd, ate, qf0_41]; unfold r_tl; omega), ht⟩) (fun _ h => by cases h) dX12_ringed_71
      · skip
        refine lv_if_eq (tgt := 41) hx hb dX12_ringed_29 (by decide) (fun h => absurd h (by decide)) (fun _ => ?_)
        refine lv_aload_n hx hb dX12_ringed_32 rfl (lv_at hl 0 rfl) ?_
        refine h_get (v := .ref td) hx hb hts iX12 hown g t_a0 (by decide) so_13 rfl 46 (by decide) (hts (.fieldLink RX12 103 "CapLeagueModel" "toldClub" "[I") (by decide +kernel)) rfl dX12_ringed_33 (by show va_rf (z.R a0 46) = _; rw [rtd]; rfl) ?_
        refine lv_iload_n hx hb dX12_ringed_36 rfl (lv_at hl 1 rfl) ?_
        refine lv_iconst (v := 1) hx hb dX12_ringed_37 (by decide) ?_
        refine lv_isub hx hb dX12_ringed_38 ?_
        refine lv_topi (fun v16 ev16 => ?_)
        have jv16 : v16.toInt = x_t - 1 := xi_sub ev16 h_x (by decide) (by omega) (by omega)
        refine h_ald hx hb g ttd (by decide) so_1346 (xi_in (by omega) (by omega)) dX12_ringed_39 ?_
        refine lv_topi (fun v17 ev17 => ?_)
        have jv17 := hI.rd td v16.toNatClampNeg ttd ev17 (rfl : h_bd 1346 _ = ((-2147483648), 2147483647))
        have tl : v17.toInt = (I0 td (x_t - 1).toNat).toInt := by rw [ev17, (h_keq (i := v16) (t := v16.toInt) (k := (x_t - 1).toNat) rfl (by omega) (by omega) : v16.toNatClampNeg = (x_t - 1).toNat)]
        exact W.iret (v := v17) hx hb hr (fun t ht hW => ⟨v17, rfl, (by rw [atd, ate, qf0_41]; unfold r_tl; omega), ht⟩) (fun _ h => by cases h) dX12_ringed_40
    · have ic2 := (xi_eq c2 h_x (by decide) : x_t = 0)
      refine lv_aload_n hx hb dX12_ringed_13 rfl (lv_at hl 0 rfl) ?_
      refine h_get (v := .int f0_41) hx hb hts iX12 hown g t_a0 (by decide) so_13 rfl 41 (by decide) (hts (.fieldLink RX12 297 "CapLeagueModel" "ringMany" "I") (by decide +kernel)) rfl dX12_ringed_14 (congrArg Value.int (ef0_41.symm)) ?_
      exact W.iret (v := f0_41) hx hb hr (fun t ht hW => ⟨f0_41, rfl, (by rw [atd, ate, qf0_41]; unfold r_tl; omega), ht⟩) (fun _ h => by cases h) dX12_ringed_17
  · have ic1 := (xi_eq c1 rfl (by decide) : f0_41.toInt = 0)
    refine lv_iconst (v := (-1)) hx hb dX12_ringed_7 (by decide) ?_
    exact W.iret (v := (-1)) hx hb hr (fun t ht hW => ⟨(-1), rfl, (by have z9 : ((-1) : Int32).toInt = -1 := (by decide); rw [atd, ate, qf0_41]; unfold r_tl; omega), ht⟩) (fun _ h => by cases h) dX12_ringed_8
set_option maxHeartbeats 4000000 in
set_option maxRecDepth 100000 in
theorem tX11_ringR (l : Launch) (E : tE) (X : tX) (A : Nat → Prop) (z : tZ) (I0 : tI) (L0 : tL) (a0 : Nat) (t_a0 : z.ty a0 = 12) (u_ : Nat → Int) (hcl : ∀ b : Nat, h_of (z.R (h_ad z (h_ad z (h_ad z (h_ad z a0 6) 0) 0) 1)) (h_ad z (h_ad z (h_ad z (h_ad z a0 6) 0) 0) 0) (I0 (h_ad z (h_ad z a0 6) 0) 3).toInt b → h_lw I0 b (h_ad z b 0) (h_ad z b 1) u_) (hob : q_okb u_) (hnn : ∀ p : Nat, (p : Int) < (I0 (h_ad z (h_ad z a0 6) 0) 2).toInt → z.R (h_ad z (h_ad z (h_ad z a0 6) 0) 1) p ≠ none) (hU : h_U z) (hwb : ∀ c p : Nat, c < 8 → p < (I0 (h_ad z (h_ad z a0 6) 0) 2).toInt.toNat → 0 ≤ (c_w z I0 (h_ad z (h_ad z a0 6) 0) (c : Int) p).toInt ∧ (c_w z I0 (h_ad z (h_ad z a0 6) 0) (c : Int) p).toInt ≤ 9999) (hpy : ∀ p : Nat, p < (I0 (h_ad z (h_ad z a0 6) 0) 2).toInt.toNat → 0 ≤ ((c_pyp z I0 (h_ad z (h_ad z a0 6) 0)) p).toInt ∧ ((c_pyp z I0 (h_ad z (h_ad z a0 6) 0)) p).toInt ≤ 400000) : Met l yX11_ring wsX11_ring ({ frames := 7, cells := 0, slots := 0, locals := 448 }) (va_Pc [.ref a0] (h_P E X A z I0 L0)) (va_Qi (fun r (I1 : tI) => h_I z I1 ∧ h_F [(803, 999), (802, 999), (804, 999), (805, 999), (2, 0), (2, 1), (2, 2), (2, 3), (808, 999), (807, 999), (856, 999), (8, 10), (811, 999), (812, 999), (8, 9)] z I0 I1 ∧ (((r_all (c_G z I0 (h_ad z (h_ad z a0 6) 0) u_) (c_cb z I0 (h_ad z (h_ad z a0 6) 0)) (I0 (h_ad z (h_ad z a0 6) 0) 2).toInt.toNat).2 = [] ∧ r.toInt = -1 ∧ I1 (h_ad z a0 6) 10 = I0 (h_ad z a0 6) 10 ∧ (∀ k : Nat, I1 (h_ad z (h_ad z a0 6) 11) k = I0 (h_ad z (h_ad z a0 6) 11) k) ∧ ∀ k : Nat, I1 (h_ad z (h_ad z a0 6) 12) k = I0 (h_ad z (h_ad z a0 6) 12) k) ∨ ((r_all (c_G z I0 (h_ad z (h_ad z a0 6) 0) u_) (c_cb z I0 (h_ad z (h_ad z a0 6) 0)) (I0 (h_ad z (h_ad z a0 6) 0) 2).toInt.toNat).2 ≠ [] ∧ r.toInt = (r_all (c_G z I0 (h_ad z (h_ad z a0 6) 0) u_) (c_cb z I0 (h_ad z (h_ad z a0 6) 0)) (I0 (h_ad z (h_ad z a0 6) 0) 2).toInt.toNat).1 ∧ (I1 (h_ad z a0 6) 10).toInt = ((r_all (c_G z I0 (h_ad z (h_ad z a0 6) 0) u_) (c_cb z I0 (h_ad z (h_ad z a0 6) 0)) (I0 (h_ad z (h_ad z a0 6) 0) 2).toInt.toNat).2.length : Int) ∧ ∀ i : Nat, i < (r_all (c_G z I0 (h_ad z (h_ad z a0 6) 0) u_) (c_cb z I0 (h_ad z (h_ad z a0 6) 0)) (I0 (h_ad z (h_ad z a0 6) 0) 2).toInt.toNat).2.length → (I1 (h_ad z (h_ad z a0 6) 11) i).toInt = ((r_all (c_G z I0 (h_ad z (h_ad z a0 6) 0) u_) (c_cb z I0 (h_ad z (h_ad z a0 6) 0)) (I0 (h_ad z (h_ad z a0 6) 0) 2).toInt.toNat).2.getD i (0, 0)).1 ∧ (I1 (h_ad z (h_ad z a0 6) 12) i).toInt = ((((r_all (c_G z I0 (h_ad z (h_ad z a0 6) 0) u_) (c_cb z I0 (h_ad z (h_ad z a0 6) 0)) (I0 (h_ad z (h_ad z a0 6) 0) 2).toInt.toNat).2.getD i (0, 0)).2 : Nat) : Int)))) (fun (I1 : tI) t => h_B E A z I1 L0 t) A) 0 0 A := by
  refine Met.ofW (cc := cX11_ring) (maxL := 1) (ret := (some .int)) (by decide) rfl ?_
  intro pr_ ev_ s m args below meth cd_ s₁ B hml hv
  obtain ⟨rfl, hE, hk, hX, hA, hK, hI, hR, hB0⟩ := hv
  have g : h_G h_so h_fk E A z I0 L0 s s.heap s.heap [] := ⟨hK, va_S.rf, hB0⟩
  have hF : h_F [(803, 999), (802, 999), (804, 999), (805, 999), (2, 0), (2, 1), (2, 2), (2, 3), (808, 999), (807, 999), (856, 999), (8, 10), (811, 999), (812, 999), (8, 9)] z I0 I0 := h_F.rf
  have hx := B.exec
  have hb := B.bytes
  have hr := B.returns
  have hts := atoms_spec (ws := wsX11_ring) B.pre
  have hown : s.vm.findClass RX11 = some m.cls := findClass_of_methodNamed B.named
  have hlocks := B.notSynchronized
  have iX11 : ∀ w ∈ u_ws RX11 TX11 8, w ∈ wsX11_ring := by decide +kernel
  have hl := lv_entry ([.ref a0]) (n := 1) (Nat.le_of_ble_eq_true rfl)
  rw [lg_entry_eq]
  generalize (lg_sl ([.ref a0]) ++ List.replicate (1 - (lg_sl ([.ref a0])).length) Slot.unset).toArray = ls at hl ⊢
  have hl : lv_has ls 1 [(0, .ref a0)] := hl
  obtain ⟨rg, rrg, trg⟩ := hR.at a0 6 t_a0 (rfl : h_rs 12 6 = some (8, false)) (by decide)
  have arg : h_ad z a0 6 = rg := h_ad.at rrg
  refine lv_aload_n hx hb dX11_ring_0 rfl (lv_at hl 0 rfl) ?_
  refine h_get (v := .ref rg) hx hb hts iX11 hown g t_a0 (by decide) so_12 rfl 6 (by decide) (hts (.fieldLink RX11 62 "CapLeague" "rings" "LCapLeague$RingSearch;") (by decide +kernel)) rfl dX11_ring_1 (by show va_rf (z.R a0 6) = _; rw [rrg]; rfl) ?_
  refine va_calli (va_runV (As := []) (rest := []) ⟨hx, hb, hml, hown, hts⟩ (tX7_findBestR l E X A z I0 L0 rg trg (u_) (by rw [← arg]; exact hcl) (hob) (by rw [← arg]; exact hnn) (hU) (by rw [← arg]; exact hwb) (by rw [← arg]; exact hpy)) (cwV 0 hts gX11_ring_X7_findBest rfl rfl rfl (by decide +kernel) ⟨Nat.le_of_ble_eq_true rfl, Nat.le_of_ble_eq_true rfl⟩) ⟨h_blind _ _ _ _ _ _ _, h_recv g trg (by decide) so_8 (q := (RX7, TX7, 13)) rfl, h_pre _ hE hk hX hA hI hR g⟩ rfl rfl hl.1 rfl (lv_room (Nat.le_of_ble_eq_true rfl)) dX11_ring_4 ⟨Nat.le_of_ble_eq_true rfl, Nat.le_of_ble_eq_true rfl⟩) g.2.1 (fun q _ h => h) (fun q h => h) (fun rh1 I2 t H1 locs ht hvm h1 hB hz1 hk1 hS => ?_)
  obtain ⟨hI, fh1, h1⟩ := h1
  replace g := h_after g hB ht hS
  generalize H1 = H at g
  clear hB hk1 hz1 ht hvm hS
  have hF := hF.call fh1 rfl
  have h1p0 := h1
  have jrh1 : -2147483648 ≤ rh1.toInt ∧ rh1.toInt ≤ 2147483647 := ⟨xi_lo _, Int.le_of_lt_add_one (xi_hi _)⟩
  have hS := g.2.1
  exact W.iret (v := rh1) hx hb hr (fun t ht hW => ⟨⟨rh1, I2, rfl, ⟨hI, hF, (by rw [arg]; exact h1p0)⟩, h_ret g ht⟩, hS.F ht⟩) hS.2.2 dX11_ring_7
set_option maxHeartbeats 4000000 in
set_option maxRecDepth 100000 in
theorem tX11_ringedR (l : Launch) (E : tE) (X : tX) (A : Nat → Prop) (z : tZ) (I0 : tI) (L0 : tL) (a0 : Nat) (t_a0 : z.ty a0 = 12) (x : Int32) (x_t : Int) (h_x : x.toInt = x_t) : Met l yX11_ringed wsX11_ringed ({ frames := 2, cells := 0, slots := 0, locals := 128 }) (va_Pc [.ref a0, .int x] (h_P E X A z I0 L0)) (vp_Si (fun r => (r_tl (I0 (h_ad z a0 6) 10).toInt (I0 (h_ad z (h_ad z a0 6) 11)) (I0 (h_ad z (h_ad z a0 6) 12)) x_t r.toInt))) 0 0 (fun _ => False) := by
  refine Met.ofW (cc := cX11_ringed) (maxL := 2) (ret := (some .int)) (by decide) rfl ?_
  intro pr_ ev_ s m args below meth cd_ s₁ B hml hv
  obtain ⟨rfl, hE, hk, hX, hA, hK, hI, hR, hB0⟩ := hv
  have g : h_G h_so h_fk E A z I0 L0 s s.heap s.heap [] := ⟨hK, va_S.rf, hB0⟩
  have hx := B.exec
  have hb := B.bytes
  have hr := B.returns
  have hts := atoms_spec (ws := wsX11_ringed) B.pre
  have hown : s.vm.findClass RX11 = some m.cls := findClass_of_methodNamed B.named
  have hlocks := B.notSynchronized
  have iX11 : ∀ w ∈ u_ws RX11 TX11 8, w ∈ wsX11_ringed := by decide +kernel
  have hl := lv_entry ([.ref a0, .int x]) (n := 2) (Nat.le_of_ble_eq_true rfl)
  rw [lg_entry_eq]
  generalize (lg_sl ([.ref a0, .int x]) ++ List.replicate (2 - (lg_sl ([.ref a0, .int x])).length) Slot.unset).toArray = ls at hl ⊢
  have hl : lv_has ls 2 [(0, .ref a0), (1, .int x)] := hl
  have b_x : -2147483648 ≤ x_t ∧ x_t ≤ 2147483647 := h_x ▸ ⟨xi_lo x, Int.le_of_lt_add_one (xi_hi x)⟩
  obtain ⟨rg, rrg, trg⟩ := hR.at a0 6 t_a0 (rfl : h_rs 12 6 = some (8, false)) (by decide)
  have arg : h_ad z a0 6 = rg := h_ad.at rrg
  refine lv_aload_n hx hb dX11_ringed_0 rfl (lv_at hl 0 rfl) ?_
  refine h_get (v := .ref rg) hx hb hts iX11 hown g t_a0 (by decide) so_12 rfl 6 (by decide) (hts (.fieldLink RX11 62 "CapLeague" "rings" "LCapLeague$RingSearch;") (by decide +kernel)) rfl dX11_ringed_1 (by show va_rf (z.R a0 6) = _; rw [rrg]; rfl) ?_
  refine lv_iload_n hx hb dX11_ringed_4 rfl (lv_at hl 1 rfl) ?_
  refine vp_callSi (W.runV (As := [.int x]) (rest := []) ⟨hx, hb, hml, hown, hts⟩ (tX7_factR l E X A z I0 L0 rg trg x (x_t) h_x) (cwV 1 hts gX11_ringed_X7_fact rfl rfl rfl (by decide +kernel) ⟨Nat.le_of_ble_eq_true rfl, Nat.le_of_ble_eq_true rfl⟩) ⟨h_blind _ _ _ _ _ _ _, h_recv g trg (by decide) so_8 (q := (RX7, TX7, 13)) rfl, h_pre _ hE hk hX hA hI hR g⟩ rfl rfl hl.1 rfl (lv_room (Nat.le_of_ble_eq_true rfl)) dX11_ringed_5 ⟨Nat.le_of_ble_eq_true rfl, Nat.le_of_ble_eq_true rfl⟩) (fun rh1 h1 => ?_)
  have h1p0 := h1
  have jrh1 : -2147483648 ≤ rh1.toInt ∧ rh1.toInt ≤ 2147483647 := ⟨xi_lo _, Int.le_of_lt_add_one (xi_hi _)⟩
  exact W.iret (v := rh1) hx hb hr (fun t ht hW => ⟨rh1, rfl, (by rw [arg]; exact h1p0), ht⟩) (fun _ h => by cases h) dX11_ringed_8

