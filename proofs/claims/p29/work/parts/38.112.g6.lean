set_option maxHeartbeats 4000000 in
set_option maxRecDepth 100000 in
theorem tX5_copyFromF (l : Launch) (E : tE) (X : tX) (A : Nat → Prop) (z : tZ) (I0 : tI) (L0 : tL) (a0 : Nat) (t_a0 : z.ty a0 = 6) (q0 : Nat) (t_q0 : z.ty q0 = 6) (u_ : Nat → Int) (hu : h_lw I0 q0 (h_ad z q0 0) (h_ad z q0 1) u_) : Met l yX5_copyFrom wsX5_copyFrom ({ frames := 1, cells := 0, slots := 0, locals := 64 }) (va_Pc [.ref a0, .ref q0] (h_P E X A z I0 L0)) (va_Qv (fun (I1 : tI) => h_I z I1 ∧ h_F [(600, 999), (601, 999), (6, 2)] z I0 I1 ∧ (h_lw I1 a0 (h_ad z a0 0) (h_ad z a0 1) u_) ∧ (h_ap z I0 I1 a0 (h_ad z a0 0) (h_ad z a0 1))) (fun (I1 : tI) t => h_B E A z I1 L0 t) A) 0 0 A := by
  refine Met.ofW (cc := cX5_copyFrom) (maxL := 2) (ret := none) (by decide) rfl ?_
  intro pr_ ev_ s m args below meth cd_ s₁ B hml hv
  obtain ⟨rfl, hE, hk, hX, hA, hK, hI, hR, hB0⟩ := hv
  have g : h_G h_so h_fk E A z I0 L0 s s.heap s.heap [] := ⟨hK, va_S.rf, hB0⟩
  have hF : h_F [(600, 999), (601, 999), (6, 2)] z I0 I0 := h_F.rf
  have hx := B.exec
  have hb := B.bytes
  have hr := B.returns
  have hts := atoms_spec (ws := wsX5_copyFrom) B.pre
  have hown : s.vm.findClass RX5 = some m.cls := findClass_of_methodNamed B.named
  have hlocks := B.notSynchronized
  have iX5 : ∀ w ∈ u_ws RX5 TX5 3, w ∈ wsX5_copyFrom := by decide +kernel
  have hl := lv_entry ([.ref a0, .ref q0]) (n := 2) (Nat.le_of_ble_eq_true rfl)
  rw [lg_entry_eq]
  generalize (lg_sl ([.ref a0, .ref q0]) ++ List.replicate (2 - (lg_sl ([.ref a0, .ref q0])).length) Slot.unset).toArray = ls at hl ⊢
  have hl : lv_has ls 2 [(0, .ref a0), (1, .ref q0)] := hl
  obtain ⟨nu, rnu, tnu⟩ := hR.at a0 0 t_a0 (rfl : h_rs 6 0 = some (600, false)) (by decide)
  have anu : h_ad z a0 0 = nu := h_ad.at rnu
  obtain ⟨lo, rlo, tlo⟩ := hR.at a0 1 t_a0 (rfl : h_rs 6 1 = some (601, false)) (by decide)
  have alo : h_ad z a0 1 = lo := h_ad.at rlo
  obtain ⟨nq, rnq, tnq⟩ := hR.at q0 0 t_q0 (rfl : h_rs 6 0 = some (600, false)) (by decide)
  have anq : h_ad z q0 0 = nq := h_ad.at rnq
  obtain ⟨lq, rlq, tlq⟩ := hR.at q0 1 t_q0 (rfl : h_rs 6 1 = some (601, false)) (by decide)
  have alq : h_ad z q0 1 = lq := h_ad.at rlq
  rw [anq, alq] at hu
  refine lv_aload_n hx hb dX5_copyFrom_0 rfl (lv_at hl 1 rfl) ?_
  refine h_get (v := .ref nq) hx hb hts iX5 hown g t_q0 (by decide) so_6 rfl 0 (by decide) (hts (.fieldLink RX5 9 "CapLeague$Laws" "numbers" "[I") (by decide +kernel)) rfl dX5_copyFrom_1 (by show va_rf (z.R q0 0) = _; rw [rnq]; rfl) ?_
  refine lv_iconst (v := 0) hx hb dX5_copyFrom_4 (by decide) ?_
  refine lv_aload_n hx hb dX5_copyFrom_5 rfl (lv_at hl 0 rfl) ?_
  refine h_get (v := .ref nu) hx hb hts iX5 hown g t_a0 (by decide) so_6 rfl 0 (by decide) (hts (.fieldLink RX5 9 "CapLeague$Laws" "numbers" "[I") (by decide +kernel)) rfl dX5_copyFrom_6 (by show va_rf (z.R a0 0) = _; rw [rnu]; rfl) ?_
  refine lv_iconst (v := 0) hx hb dX5_copyFrom_9 (by decide) ?_
  refine lv_bipush (v := 8) hx hb dX5_copyFrom_10 (by decide) ?_
  refine h_copy hx hb (hml.trans hl.1.symm) hown (hts (.methodLink RX5 24 arraycopyName) (by decide +kernel)) (hts (.native arraycopyName) (by decide +kernel)) (hts (.static arraycopyName) (by decide +kernel)) (hts (.initialized "java/lang/System") (by decide +kernel)) g tnq (by decide) so_600 tnu (by decide) so_600 (by decide) (by decide) (by decide) (by decide) (by decide) (Nat.le_of_ble_eq_true rfl) (Nat.le_of_ble_eq_true rfl) dX5_copyFrom_12 (fun I1 H locs eI1 g => ?_)
  have hI := hI.row eI1 tnu (fun _ => (rfl : h_bd 600 _ = (-2147483648, 2147483647))) (fun k => h_anyb _)
  have hF := hF.row eI1 tnu (fun _ => rfl)
  refine lv_aload_n hx hb dX5_copyFrom_15 rfl (lv_at hl 1 rfl) ?_
  refine h_get (v := .ref lq) hx hb hts iX5 hown g t_q0 (by decide) so_6 rfl 1 (by decide) (hts (.fieldLink RX5 15 "CapLeague$Laws" "lots" "[I") (by decide +kernel)) rfl dX5_copyFrom_16 (by show va_rf (z.R q0 1) = _; rw [rlq]; rfl) ?_
  refine lv_iconst (v := 0) hx hb dX5_copyFrom_19 (by decide) ?_
  refine lv_aload_n hx hb dX5_copyFrom_20 rfl (lv_at hl 0 rfl) ?_
  refine h_get (v := .ref lo) hx hb hts iX5 hown g t_a0 (by decide) so_6 rfl 1 (by decide) (hts (.fieldLink RX5 15 "CapLeague$Laws" "lots" "[I") (by decide +kernel)) rfl dX5_copyFrom_21 (by show va_rf (z.R a0 1) = _; rw [rlo]; rfl) ?_
  refine lv_iconst (v := 0) hx hb dX5_copyFrom_24 (by decide) ?_
  refine lv_bipush (v := 6) hx hb dX5_copyFrom_25 (by decide) ?_
  refine h_copy hx hb (hml.trans hl.1.symm) hown (hts (.methodLink RX5 24 arraycopyName) (by decide +kernel)) (hts (.native arraycopyName) (by decide +kernel)) (hts (.static arraycopyName) (by decide +kernel)) (hts (.initialized "java/lang/System") (by decide +kernel)) g tlq (by decide) so_601 tlo (by decide) so_601 (by decide) (by decide) (by decide) (by decide) (by decide) (Nat.le_of_ble_eq_true rfl) (Nat.le_of_ble_eq_true rfl) dX5_copyFrom_27 (fun I2 H locs eI2 g => ?_)
  have hI := hI.row eI2 tlo (fun _ => (rfl : h_bd 601 _ = (-2147483648, 2147483647))) (fun k => h_anyb _)
  have hF := hF.row eI2 tlo (fun _ => rfl)
  refine lv_aload_n hx hb dX5_copyFrom_30 rfl (lv_at hl 0 rfl) ?_
  refine lv_aload_n hx hb dX5_copyFrom_31 rfl (lv_at hl 1 rfl) ?_
  refine h_get (v := .int (I2 q0 2)) hx hb hts iX5 hown g t_q0 (by decide) so_6 rfl 2 (by decide) (hts (.fieldLink RX5 30 "CapLeague$Laws" "lotCount" "I") (by decide +kernel)) rfl dX5_copyFrom_32 rfl ?_
  refine lv_topi (fun v3 ev3 => ?_)
  have jv3 := hI.rd q0 2 t_q0 ev3 (rfl : h_bd 6 2 = (0, 6))
  refine h_putI (ty := .int) (v := v3) hx hb hts iX5 tyX5 tyX5_ok nmX5 hown g t_a0 (by decide) so_6 rfl 2 (by decide) rfl (hts (.fieldLink RX5 30 "CapLeague$Laws" "lotCount" "I") (by decide +kernel)) rfl rfl (by decide +kernel) rfl rfl dX5_copyFrom_35 (fun I4 H locs eI4 g => ?_)
  have hI := hI.wr eI4 t_a0 (rfl : h_bd 6 2 = (0, 6)) (by omega) (by omega)
  have hF := hF.wr eI4 t_a0 rfl
  have hS := g.2.1
  exact W.vret hx hb hr (fun t ht hW => ⟨⟨I4, rfl, ⟨hI, hF, ⟨(by rw [anu, alo]; exact (h_copyL (z := z) hu eI1 eI2 eI4 (by rw [ev3, h_nr eI2 t_q0 tlo (by decide), h_nr eI1 t_q0 tnu (by decide)]) t_a0 tnu tlo tlq).1), (by rw [anu, alo]; exact (h_copyL (z := z) hu eI1 eI2 eI4 (by rw [ev3, h_nr eI2 t_q0 tlo (by decide), h_nr eI1 t_q0 tnu (by decide)]) t_a0 tnu tlo tlq).2)⟩⟩, h_ret g ht⟩, hS.F ht⟩) hS.2.2 dX5_copyFrom_38
set_option maxHeartbeats 4000000 in
set_option maxRecDepth 100000 in
theorem tX5_numberF (l : Launch) (E : tE) (X : tX) (A : Nat → Prop) (z : tZ) (I0 : tI) (L0 : tL) (a0 : Nat) (t_a0 : z.ty a0 = 6) (x : Int32) (x_t : Int) (h_x : x.toInt = x_t) (u_ : Nat → Int) (hu : h_lw I0 a0 (h_ad z a0 0) (h_ad z a0 1) u_) : Met l yX5_number wsX5_number ({ frames := 1, cells := 0, slots := 0, locals := 64 }) (va_Pc [.ref a0, .int x] (h_P E X A z I0 L0)) (vp_Si (fun r => (r.toInt = q_num u_ x_t))) 0 0 (fun _ => False) := by
  refine Met.ofW (cc := cX5_number) (maxL := 2) (ret := (some .int)) (by decide) rfl ?_
  intro pr_ ev_ s m args below meth cd_ s₁ B hml hv
  obtain ⟨rfl, hE, hk, hX, hA, hK, hI, hR, hB0⟩ := hv
  have g : h_G h_so h_fk E A z I0 L0 s s.heap s.heap [] := ⟨hK, va_S.rf, hB0⟩
  have hx := B.exec
  have hb := B.bytes
  have hr := B.returns
  have hts := atoms_spec (ws := wsX5_number) B.pre
  have hown : s.vm.findClass RX5 = some m.cls := findClass_of_methodNamed B.named
  have hlocks := B.notSynchronized
  have iX5 : ∀ w ∈ u_ws RX5 TX5 3, w ∈ wsX5_number := by decide +kernel
  have hl := lv_entry ([.ref a0, .int x]) (n := 2) (Nat.le_of_ble_eq_true rfl)
  rw [lg_entry_eq]
  generalize (lg_sl ([.ref a0, .int x]) ++ List.replicate (2 - (lg_sl ([.ref a0, .int x])).length) Slot.unset).toArray = ls at hl ⊢
  have hl : lv_has ls 2 [(0, .ref a0), (1, .int x)] := hl
  have b_x : -2147483648 ≤ x_t ∧ x_t ≤ 2147483647 := h_x ▸ ⟨xi_lo x, Int.le_of_lt_add_one (xi_hi x)⟩
  obtain ⟨nu, rnu, tnu⟩ := hR.at a0 0 t_a0 (rfl : h_rs 6 0 = some (600, false)) (by decide)
  have anu : h_ad z a0 0 = nu := h_ad.at rnu
  obtain ⟨lo, rlo, tlo⟩ := hR.at a0 1 t_a0 (rfl : h_rs 6 1 = some (601, false)) (by decide)
  have alo : h_ad z a0 1 = lo := h_ad.at rlo
  rw [anu, alo] at hu
  obtain ⟨f0_2, ef0_2⟩ : ∃ v : Int32, v = I0 a0 2 := ⟨_, rfl⟩
  have qf0_2 : (I0 a0 2).toInt = f0_2.toInt := congrArg Int32.toInt ef0_2.symm
  have jf0_2 := hI.rd a0 2 t_a0 ef0_2 (rfl : h_bd 6 2 = (0, 6))
  have u8 : f0_2.toInt = u_ 8 := by rw [ef0_2]; exact hu.2.1
  refine lv_iload_n hx hb dX5_number_0 rfl (lv_at hl 1 rfl) ?_
  refine lv_if_lt (tgt := 17) hx hb dX5_number_1 (by decide) (fun c1 => ?_) (fun c1 => ?_)
  · have ic1 := (xi_lt c1 h_x (by decide) : x_t < 0)
    refine lv_iload_n hx hb dX5_number_17 rfl (lv_at hl 1 rfl) ?_
    refine lv_bipush (v := 8) hx hb dX5_number_18 (by decide) ?_
    refine lv_icmp_ne (tgt := 28) hx hb dX5_number_20 (by decide) (fun c2 => ?_) (fun h => absurd (xi_eq h h_x (by decide) : x_t = 8) (by omega))
    have ic2 := (xi_ne c2 h_x (by decide) : x_t ≠ 8)
    refine lv_iload_n hx hb dX5_number_28 rfl (lv_at hl 1 rfl) ?_
    refine lv_bipush (v := 10) hx hb dX5_number_29 (by decide) ?_
    refine lv_icmp_lt (tgt := 57) hx hb dX5_number_31 (by decide) (fun c3 => ?_) (fun h => absurd (xi_nlt h h_x (by decide) : 10 ≤ x_t) (by omega))
    have ic3 := (xi_lt c3 h_x (by decide) : x_t < 10)
    refine lv_bipush (v := (-9)) hx hb dX5_number_57 (by decide) ?_
    exact W.iret (v := (-9)) hx hb hr (fun t ht hW => ⟨(-9), rfl, (by unfold q_num; rw [if_neg (by omega), if_neg (by omega)]; decide), ht⟩) (fun _ h => by cases h) dX5_number_59
  · have ic1 := (xi_nlt c1 h_x (by decide) : 0 ≤ x_t)
    refine lv_iload_n hx hb dX5_number_4 rfl (lv_at hl 1 rfl) ?_
    refine lv_bipush (v := 8) hx hb dX5_number_5 (by decide) ?_
    refine lv_icmp_ge (tgt := 17) hx hb dX5_number_7 (by decide) (fun c4 => ?_) (fun c4 => ?_)
    · have ic4 := (xi_le c4 (by decide) h_x : 8 ≤ x_t)
      refine lv_iload_n hx hb dX5_number_17 rfl (lv_at hl 1 rfl) ?_
      refine lv_bipush (v := 8) hx hb dX5_number_18 (by decide) ?_
      refine lv_icmp_ne (tgt := 28) hx hb dX5_number_20 (by decide) (fun c5 => ?_) (fun c5 => ?_)
      · have ic5 := (xi_ne c5 h_x (by decide) : x_t ≠ 8)
        refine lv_iload_n hx hb dX5_number_28 rfl (lv_at hl 1 rfl) ?_
        refine lv_bipush (v := 10) hx hb dX5_number_29 (by decide) ?_
        refine lv_icmp_lt (tgt := 57) hx hb dX5_number_31 (by decide) (fun c6 => ?_) (fun c6 => ?_)
        · have ic6 := (xi_lt c6 h_x (by decide) : x_t < 10)
          refine lv_bipush (v := (-9)) hx hb dX5_number_57 (by decide) ?_
          exact W.iret (v := (-9)) hx hb hr (fun t ht hW => ⟨(-9), rfl, (by unfold q_num; rw [if_neg (by omega), if_neg (by omega)]; decide), ht⟩) (fun _ h => by cases h) dX5_number_59
        · have ic6 := (xi_nlt c6 h_x (by decide) : 10 ≤ x_t)
          refine lv_iload_n hx hb dX5_number_34 rfl (lv_at hl 1 rfl) ?_
          refine lv_bipush (v := 10) hx hb dX5_number_35 (by decide) ?_
          refine lv_isub hx hb dX5_number_37 ?_
          refine lv_topi (fun v7 ev7 => ?_)
          have jv7 : v7.toInt = x_t - 10 := xi_sub ev7 h_x (by decide) (by omega) (by omega)
          refine lv_aload_n hx hb dX5_number_38 rfl (lv_at hl 0 rfl) ?_
          refine h_get (v := .int f0_2) hx hb hts iX5 hown g t_a0 (by decide) so_6 rfl 2 (by decide) (hts (.fieldLink RX5 30 "CapLeague$Laws" "lotCount" "I") (by decide +kernel)) rfl dX5_number_39 (congrArg Value.int (ef0_2.symm)) ?_
          refine lv_icmp_ge (tgt := 57) hx hb dX5_number_42 (by decide) (fun c8 => ?_) (fun c8 => ?_)
          · have ic8 := (xi_le c8 rfl rfl : f0_2.toInt ≤ v7.toInt)
            refine lv_bipush (v := (-9)) hx hb dX5_number_57 (by decide) ?_
            exact W.iret (v := (-9)) hx hb hr (fun t ht hW => ⟨(-9), rfl, (by unfold q_num; rw [if_neg (by omega), if_neg (by omega)]; decide), ht⟩) (fun _ h => by cases h) dX5_number_59
          · have ic8 := (xi_nle c8 rfl rfl : v7.toInt < f0_2.toInt)
            refine lv_aload_n hx hb dX5_number_45 rfl (lv_at hl 0 rfl) ?_
            refine h_get (v := .ref lo) hx hb hts iX5 hown g t_a0 (by decide) so_6 rfl 1 (by decide) (hts (.fieldLink RX5 15 "CapLeague$Laws" "lots" "[I") (by decide +kernel)) rfl dX5_number_46 (by show va_rf (z.R a0 1) = _; rw [rlo]; rfl) ?_
            refine lv_iload_n hx hb dX5_number_49 rfl (lv_at hl 1 rfl) ?_
            refine lv_bipush (v := 10) hx hb dX5_number_50 (by decide) ?_
            refine lv_isub hx hb dX5_number_52 ?_
            refine xw_i (v := v7) ev7.symm ?_
            refine h_ald hx hb g tlo (by decide) so_601 (xi_in (by omega) (by omega)) dX5_number_53 ?_
            refine lv_topi (fun v9 ev9 => ?_)
            have jv9 := hI.rd lo v7.toNatClampNeg tlo ev9 (rfl : h_bd 601 _ = ((-2147483648), 2147483647))
            refine lv_goto (tgt := 59) hx hb dX5_number_54 (by decide) ?_
            exact W.iret (v := v9) hx hb hr (fun t ht hW => ⟨v9, rfl, (by unfold q_num; rw [if_neg (by omega), if_pos (by omega), ev9, h_keq (i := v7) (t := v7.toInt) (k := (x_t - 10).toNat) rfl (by omega) (by omega)]; exact hu.2.2 (x_t - 10).toNat (by omega) (by omega)), ht⟩) (fun _ h => by cases h) dX5_number_59
      · have ic5 := (xi_eq c5 h_x (by decide) : x_t = 8)
        refine lv_aload_n hx hb dX5_number_23 rfl (lv_at hl 0 rfl) ?_
        refine h_get (v := .int f0_2) hx hb hts iX5 hown g t_a0 (by decide) so_6 rfl 2 (by decide) (hts (.fieldLink RX5 30 "CapLeague$Laws" "lotCount" "I") (by decide +kernel)) rfl dX5_number_24 (congrArg Value.int (ef0_2.symm)) ?_
        exact W.iret (v := f0_2) hx hb hr (fun t ht hW => ⟨f0_2, rfl, (by unfold q_num; rw [if_pos (by omega), show x_t.toNat = 8 by omega]; exact u8), ht⟩) (fun _ h => by cases h) dX5_number_27
    · have ic4 := (xi_nle c4 (by decide) h_x : x_t < 8)
      refine lv_aload_n hx hb dX5_number_10 rfl (lv_at hl 0 rfl) ?_
      refine h_get (v := .ref nu) hx hb hts iX5 hown g t_a0 (by decide) so_6 rfl 0 (by decide) (hts (.fieldLink RX5 9 "CapLeague$Laws" "numbers" "[I") (by decide +kernel)) rfl dX5_number_11 (by show va_rf (z.R a0 0) = _; rw [rnu]; rfl) ?_
      refine lv_iload_n hx hb dX5_number_14 rfl (lv_at hl 1 rfl) ?_
      refine h_ald hx hb g tnu (by decide) so_600 (xi_in (by rw [h_x]; omega) (by rw [h_x]; omega)) dX5_number_15 ?_
      refine lv_topi (fun v10 ev10 => ?_)
      have jv10 := hI.rd nu x.toNatClampNeg tnu ev10 (rfl : h_bd 600 _ = ((-2147483648), 2147483647))
      exact W.iret (v := v10) hx hb hr (fun t ht hW => ⟨v10, rfl, (by unfold q_num; rw [if_pos (by omega), ev10, h_keq (i := x) (t := x_t) (k := x_t.toNat) h_x (by omega) (by omega)]; exact hu.1 x_t.toNat (by omega)), ht⟩) (fun _ h => by cases h) dX5_number_16
set_option maxHeartbeats 4000000 in
set_option maxRecDepth 100000 in
theorem tX3_ofF (l : Launch) (E : tE) (X : tX) (A : Nat → Prop) (z : tZ) (I0 : tI) (L0 : tL) (a0 : Nat) (t_a0 : z.ty a0 = 4) (y : Int32) (y_t : Int) (h_y : y.toInt = y_t) : Met l yX3_of wsX3_of ({ frames := 1, cells := 0, slots := 0, locals := 64 }) (va_Pc [.ref a0, .int y] (h_P E X A z I0 L0)) (va_Sq (fun r => (∃ b, r = some b ∧ z.ty b = 6) ∧ (∃ b, r = some b ∧ h_of (z.R (h_ad z a0 1)) (h_ad z a0 0) y_t b))) 0 0 (fun _ => False) := by
  refine Met.ofW (cc := cX3_of) (maxL := 3) (ret := (some (.object "CapLeague$Laws"))) (by decide) rfl ?_
  intro pr_ ev_ s m args below meth cd_ s₁ B hml hv
  obtain ⟨rfl, hE, hk, hX, hA, hK, hI, hR, hB0⟩ := hv
  have g : h_G h_so h_fk E A z I0 L0 s s.heap s.heap [] := ⟨hK, va_S.rf, hB0⟩
  have hx := B.exec
  have hb := B.bytes
  have hr := B.returns
  have hts := atoms_spec (ws := wsX3_of) B.pre
  have hown : s.vm.findClass RX3 = some m.cls := findClass_of_methodNamed B.named
  have hlocks := B.notSynchronized
  have iX3 : ∀ w ∈ u_ws RX3 TX3 2, w ∈ wsX3_of := by decide +kernel
  have hl := lv_entry ([.ref a0, .int y]) (n := 3) (Nat.le_of_ble_eq_true rfl)
  rw [lg_entry_eq]
  generalize (lg_sl ([.ref a0, .int y]) ++ List.replicate (3 - (lg_sl ([.ref a0, .int y])).length) Slot.unset).toArray = ls at hl ⊢
  have hl : lv_has ls 3 [(0, .ref a0), (1, .int y)] := hl
  have b_y : -2147483648 ≤ y_t ∧ y_t ≤ 2147483647 := h_y ▸ ⟨xi_lo y, Int.le_of_lt_add_one (xi_hi y)⟩
  obtain ⟨un, run, tun⟩ := hR.at a0 0 t_a0 (rfl : h_rs 4 0 = some (6, false)) (by decide)
  have aun : h_ad z a0 0 = un := h_ad.at run
  obtain ⟨tx, rtx, ttx⟩ := hR.at a0 1 t_a0 (rfl : h_rs 4 1 = some (401, false)) (by decide)
  have atx : h_ad z a0 1 = tx := h_ad.at rtx
  refine lv_bipush (v := 9) hx hb dX3_of_0 (by decide) ?_
  refine lv_istore_n (lv' := [(2, .int 9), (0, .ref a0), (1, .int y)]) hx hb dX3_of_2 rfl hl (by decide) rfl (fun ls hl => ?_)
  have loop3_0 : ∀ (n : Nat) (ls : Array Slot) (v1 : Int32), lv_has ls 3 [(0, .ref a0), (1, .int y), (2, .int v1)] → ((-1) ≤ v1.toInt ∧ v1.toInt ≤ 9) → (∀ j : Nat, v1.toInt < (j : Int) → j < 10 → (j : Int) ≤ y_t → z.R tx j = none) → (v1.toInt + 1) < (n : Int) → W pr_ l ev_ (headSpec wsX3_of ({ frames := 1, cells := 0, slots := 0, locals := 64 })).room s m ([.ref a0, .int y] : List Value).toArray below meth cd_ s.heap [] 0 0 (MQ below (va_Sq (fun r => (∃ b, r = some b ∧ z.ty b = 6) ∧ (∃ b, r = some b ∧ h_of (z.R (h_ad z a0 1)) (h_ad z a0 0) y_t b))) ([.ref a0, .int y] : List Value).toArray s 0 0 (fun _ => False)) (F0 m 3 ls []) := by
    intro n
    induction n with
    | zero => intro ls v1 hl jv1 hx3_0 hn; exact absurd hn (by omega)
    | succ n ih3 =>
      intro ls v1 hl jv1 hx3_0 hn
      refine lv_iload_n hx hb dX3_of_3 rfl (lv_at hl 2 rfl) ?_
      refine lv_if_lt (tgt := 34) hx hb dX3_of_4 (by decide) (fun c2 => ?_) (fun c2 => ?_)
      · have ic2 := (xi_lt c2 rfl (by decide) : v1.toInt < 0)
        refine lv_aload_n hx hb dX3_of_34 rfl (lv_at hl 0 rfl) ?_
        refine h_get (v := .ref un) hx hb hts iX3 hown g t_a0 (by decide) so_4 rfl 0 (by decide) (hts (.fieldLink RX3 12 "CapLeague$LawBook" "untold" "LCapLeague$Laws;") (by decide +kernel)) rfl dX3_of_35 (by show va_rf (z.R a0 0) = _; rw [run]; rfl) ?_
        exact W.aret (v := .ref un) hx hb hr (Or.inl ⟨_, rfl⟩) (Or.inr ⟨_, rfl⟩) (fun t ht hW => ⟨some un, rfl, ⟨⟨un, rfl, tun⟩, (⟨un, rfl, by rw [aun, atx]; exact Or.inr ⟨rfl, fun j h2 h3 => hx3_0 j (by omega) h2 h3⟩⟩)⟩, ht⟩) (fun _ h => by cases h) dX3_of_38
      · have ic2 := (xi_nlt c2 rfl (by decide) : 0 ≤ v1.toInt)
        refine lv_iload_n hx hb dX3_of_7 rfl (lv_at hl 2 rfl) ?_
        refine lv_iload_n hx hb dX3_of_8 rfl (lv_at hl 1 rfl) ?_
        refine lv_icmp_gt (tgt := 28) hx hb dX3_of_9 (by decide) (fun c3 => ?_) (fun c3 => ?_)
        · have ic3 := (xi_lt c3 h_y rfl : y_t < v1.toInt)
          obtain ⟨v4, ev4⟩ : ∃ z : Int32, z = v1 + (-1) := ⟨_, rfl⟩
          have jv4 : v4.toInt = v1.toInt + (-1) := xi_add ev4 rfl (by decide) (by omega) (by omega)
          refine lv_iinc (v := v4) (lv' := [(2, .int v4), (0, .ref a0), (1, .int y)]) hx hb dX3_of_28 hl (k := 2) rfl (by rw [ev4]; rfl) (by decide) rfl (fun ls hl => ?_)
          refine lv_goto (tgt := 3) hx hb dX3_of_31 (by decide) ?_
          exact ih3 _ v4 (lv_sub hl [1, 2, 0] rfl) (by omega) (q_ofmore hx3_0 (by omega) (fun h9 => absurd h9 (by omega)) (by omega)) (by omega)
        · have ic3 := (xi_nlt c3 h_y rfl : v1.toInt ≤ y_t)
          refine lv_aload_n hx hb dX3_of_12 rfl (lv_at hl 0 rfl) ?_
          refine h_get (v := .ref tx) hx hb hts iX3 hown g t_a0 (by decide) so_4 rfl 1 (by decide) (hts (.fieldLink RX3 18 "CapLeague$LawBook" "texts" "[LCapLeague$Laws;") (by decide +kernel)) rfl dX3_of_13 (by show va_rf (z.R a0 1) = _; rw [rtx]; rfl) ?_
          refine lv_iload_n hx hb dX3_of_16 rfl (lv_at hl 2 rfl) ?_
          rcases hR.nl tx v1.toNatClampNeg ttx (rfl : h_rs 401 _ = some (6, true)) (by rw [so_401]; exact h_lt (n := 10) (xi_in (by omega) (by omega))) with rb5 | ⟨b5, rb5, tb5⟩
          · refine h_aldL (v := .null) hx hb g ttx (by decide) so_401 (xi_in (by omega) (by omega)) dX3_of_17 (by rw [rb5]; rfl) ?_
            refine lv_ifnullN (tgt := 28) hx hb dX3_of_18 (by decide) ?_
            obtain ⟨v6, ev6⟩ : ∃ z : Int32, z = v1 + (-1) := ⟨_, rfl⟩
            have jv6 : v6.toInt = v1.toInt + (-1) := xi_add ev6 rfl (by decide) (by omega) (by omega)
            refine lv_iinc (v := v6) (lv' := [(2, .int v6), (0, .ref a0), (1, .int y)]) hx hb dX3_of_28 hl (k := 2) rfl (by rw [ev6]; rfl) (by decide) rfl (fun ls hl => ?_)
            refine lv_goto (tgt := 3) hx hb dX3_of_31 (by decide) ?_
            exact ih3 _ v6 (lv_sub hl [1, 2, 0] rfl) (by omega) (q_ofmore hx3_0 (by omega) (fun _ => by rw [← h_keq (i := v1) (t := v1.toInt) (k := (v1.toInt).toNat) rfl (by omega) (by omega)]; exact rb5) (by omega)) (by omega)
          · refine h_aldL (v := .ref b5) hx hb g ttx (by decide) so_401 (xi_in (by omega) (by omega)) dX3_of_17 (by rw [rb5]; rfl) ?_
            refine lv_ifnull hx hb dX3_of_18 ?_
            refine lv_aload_n hx hb dX3_of_21 rfl (lv_at hl 0 rfl) ?_
            refine h_get (v := .ref tx) hx hb hts iX3 hown g t_a0 (by decide) so_4 rfl 1 (by decide) (hts (.fieldLink RX3 18 "CapLeague$LawBook" "texts" "[LCapLeague$Laws;") (by decide +kernel)) rfl dX3_of_22 (by show va_rf (z.R a0 1) = _; rw [rtx]; rfl) ?_
            refine lv_iload_n hx hb dX3_of_25 rfl (lv_at hl 2 rfl) ?_
            refine h_aldL (v := .ref b5) hx hb g ttx (by decide) so_401 (xi_in (by omega) (by omega)) dX3_of_26 (by rw [rb5]; rfl) ?_
            exact W.aret (v := .ref b5) hx hb hr (Or.inl ⟨_, rfl⟩) (Or.inr ⟨_, rfl⟩) (fun t ht hW => ⟨some b5, rfl, ⟨⟨b5, rfl, tb5⟩, (⟨b5, rfl, by rw [aun, atx]; exact Or.inl ⟨(v1.toInt).toNat, by omega, by omega, by rw [← h_keq (i := v1) (t := v1.toInt) (k := (v1.toInt).toNat) rfl (by omega) (by omega)]; exact rb5, fun j h1 h2 h3 => hx3_0 j (by omega) h2 h3⟩⟩)⟩, ht⟩) (fun _ h => by cases h) dX3_of_27
  have kc7 : (9 : Int32).toInt = 9 := by decide
  exact loop3_0 _ _ (9) (lv_sub hl [1, 2, 0] rfl) ⟨by decide, by decide⟩ (fun j h1 h2 h3 => absurd h1 (by omega)) (show ((9 : Int) + 1) < ((((9 : Int) + 1).toNat + 1 : Nat) : Int) by omega)
set_option maxHeartbeats 4000000 in
set_option maxRecDepth 100000 in
theorem tX12_lawOfF (l : Launch) (E : tE) (X : tX) (A : Nat → Prop) (z : tZ) (I0 : tI) (L0 : tL) (a0 : Nat) (t_a0 : z.ty a0 = 13) (y : Int32) (y_t : Int) (h_y : y.toInt = y_t) (b_y : 0 ≤ y_t ∧ y_t ≤ 9) (x : Int32) (x_t : Int) (h_x : x.toInt = x_t) (b_x : 0 ≤ x_t ∧ x_t ≤ 15) : Met l yX12_lawOf wsX12_lawOf ({ frames := 1, cells := 0, slots := 0, locals := 64 }) (va_Pc [.ref a0, .int y, .int x] (h_P E X A z I0 L0)) (vp_Si (fun r => ((∃ k : Nat, k < 10 ∧ (k : Int) ≤ y_t ∧ (I0 (h_ad z a0 11) k).toInt = 1 ∧ (∀ j : Nat, k < j → (j : Int) ≤ y_t → (I0 (h_ad z a0 11) j).toInt = 0) ∧ r = I0 (h_ad z a0 10) (16 * k + x_t.toNat)) ∨ ((∀ j : Nat, (j : Int) ≤ y_t → (I0 (h_ad z a0 11) j).toInt = 0) ∧ r = I0 (h_ad z a0 10) (176 + x_t.toNat))) ∧ (x_t ≠ 8 ∨ (0 ≤ r.toInt ∧ r.toInt ≤ 7)) ∧ (x_t ≤ 8 ∨ (0 ≤ r.toInt ∧ r.toInt ≤ 20)))) 0 0 (fun _ => False) := by
  refine Met.ofW (cc := cX12_lawOf) (maxL := 4) (ret := (some .int)) (by decide) rfl ?_
  intro pr_ ev_ s m args below meth cd_ s₁ B hml hv
  obtain ⟨rfl, hE, hk, hX, hA, hK, hI, hR, hB0⟩ := hv
  have g : h_G h_so h_fk E A z I0 L0 s s.heap s.heap [] := ⟨hK, va_S.rf, hB0⟩
  have hx := B.exec
  have hb := B.bytes
  have hr := B.returns
  have hts := atoms_spec (ws := wsX12_lawOf) B.pre
  have hown : s.vm.findClass RX12 = some m.cls := findClass_of_methodNamed B.named
  have hlocks := B.notSynchronized
  have iX12 : ∀ w ∈ u_ws RX12 TX12 51, w ∈ wsX12_lawOf := by decide +kernel
  have hl := lv_entry ([.ref a0, .int y, .int x]) (n := 4) (Nat.le_of_ble_eq_true rfl)
  rw [lg_entry_eq]
  generalize (lg_sl ([.ref a0, .int y, .int x]) ++ List.replicate (4 - (lg_sl ([.ref a0, .int y, .int x])).length) Slot.unset).toArray = ls at hl ⊢
  have hl : lv_has ls 4 [(0, .ref a0), (1, .int y), (2, .int x)] := hl
  obtain ⟨lw, rlw, tlw⟩ := hR.at a0 10 t_a0 (rfl : h_rs 13 10 = some (1310, false)) (by decide)
  have alw : h_ad z a0 10 = lw := h_ad.at rlw
  obtain ⟨hy, rhy, thy⟩ := hR.at a0 11 t_a0 (rfl : h_rs 13 11 = some (1311, false)) (by decide)
  have ahy : h_ad z a0 11 = hy := h_ad.at rhy
  refine lv_iload_n hx hb dX12_lawOf_0 rfl (lv_at hl 1 rfl) ?_
  refine lv_istore_n (lv' := [(3, .int y), (0, .ref a0), (1, .int y), (2, .int x)]) hx hb dX12_lawOf_1 rfl hl (by decide) rfl (fun ls hl => ?_)
  have loop2_0 : ∀ (n : Nat) (ls : Array Slot) (v1 : Int32), lv_has ls 4 [(0, .ref a0), (2, .int x), (3, .int v1)] → ((-1) ≤ v1.toInt ∧ v1.toInt ≤ 9) → (∀ j : Nat, v1.toInt < (j : Int) → (j : Int) ≤ y_t → (I0 hy j).toInt = 0) → (v1.toInt ≤ y_t) → (v1.toInt + 2) < (n : Int) → W pr_ l ev_ (headSpec wsX12_lawOf ({ frames := 1, cells := 0, slots := 0, locals := 64 })).room s m ([.ref a0, .int y, .int x] : List Value).toArray below meth cd_ s.heap [] 0 0 (MQ below (vp_Si (fun r => ((∃ k : Nat, k < 10 ∧ (k : Int) ≤ y_t ∧ (I0 (h_ad z a0 11) k).toInt = 1 ∧ (∀ j : Nat, k < j → (j : Int) ≤ y_t → (I0 (h_ad z a0 11) j).toInt = 0) ∧ r = I0 (h_ad z a0 10) (16 * k + x_t.toNat)) ∨ ((∀ j : Nat, (j : Int) ≤ y_t → (I0 (h_ad z a0 11) j).toInt = 0) ∧ r = I0 (h_ad z a0 10) (176 + x_t.toNat))) ∧ (x_t ≠ 8 ∨ (0 ≤ r.toInt ∧ r.toInt ≤ 7)) ∧ (x_t ≤ 8 ∨ (0 ≤ r.toInt ∧ r.toInt ≤ 20)))) ([.ref a0, .int y, .int x] : List Value).toArray s 0 0 (fun _ => False)) (F0 m 2 ls []) := by
    intro n
    induction n with
    | zero => intro ls v1 hl jv1 hx2_0 hx2_1 hn; exact absurd hn (by omega)
    | succ n ih2 =>
      intro ls v1 hl jv1 hx2_0 hx2_1 hn
      refine lv_iload_n hx hb dX12_lawOf_2 rfl (lv_at hl 2 rfl) ?_
      refine lv_if_lt (tgt := 21) hx hb dX12_lawOf_3 (by decide) (fun c2 => ?_) (fun c2 => ?_)
      · have ic2 := (xi_lt c2 rfl (by decide) : v1.toInt < 0)
        refine lv_aload_n hx hb dX12_lawOf_21 rfl (lv_at hl 0 rfl) ?_
        refine h_get (v := .ref lw) hx hb hts iX12 hown g t_a0 (by decide) so_13 rfl 10 (by decide) (hts (.fieldLink RX12 17 "CapLeagueModel" "laws" "[I") (by decide +kernel)) rfl dX12_lawOf_22 (by show va_rf (z.R a0 10) = _; rw [rlw]; rfl) ?_
        refine lv_bipush (v := 16) hx hb dX12_lawOf_25 (by decide) ?_
        refine lv_iload_n hx hb dX12_lawOf_27 rfl (lv_at hl 2 rfl) ?_
        refine lv_if_ge (tgt := 36) hx hb dX12_lawOf_28 (by decide) (fun h => absurd (xi_le h (by decide) rfl : 0 ≤ v1.toInt) (by omega)) (fun c3 => ?_)
        have ic3 := (xi_nle c3 (by decide) rfl : v1.toInt < 0)
        refine lv_bipush (v := 11) hx hb dX12_lawOf_31 (by decide) ?_
        refine lv_goto (tgt := 37) hx hb dX12_lawOf_33 (by decide) ?_
        refine lv_imul hx hb dX12_lawOf_37 ?_
        refine xw_i (v := 176) (by decide) ?_
        refine lv_iload_n hx hb dX12_lawOf_38 rfl (lv_at hl 1 rfl) ?_
        refine lv_iadd hx hb dX12_lawOf_39 ?_
        refine lv_topi (fun v4 ev4 => ?_)
        have jv4 : v4.toInt = 176 + x_t := xi_add ev4 (by decide) h_x (by omega) (by omega)
        refine h_ald hx hb g tlw (by decide) so_1310 (xi_in (by omega) (by omega)) dX12_lawOf_40 ?_
        refine lv_topi (fun v5 ev5 => ?_)
        have kv5 := h_lwr hI tlw (k := v4.toInt) rfl ev5 (by omega)
        have jv5 : -2147483648 ≤ v5.toInt ∧ v5.toInt ≤ 2147483647 := ⟨xi_lo _, Int.le_of_lt_add_one (xi_hi _)⟩
        exact W.iret (v := v5) hx hb hr (fun t ht hW => ⟨v5, rfl, ⟨(by rw [alw, ahy]; exact Or.inr ⟨fun j h2 => hx2_0 j (by omega) h2, by rw [ev5, h_keq (i := v4) (t := v4.toInt) (k := 176 + x_t.toNat) rfl (by omega) (by omega)]⟩), (by omega), (by omega)⟩, ht⟩) (fun _ h => by cases h) dX12_lawOf_41
      · have ic2 := (xi_nlt c2 rfl (by decide) : 0 ≤ v1.toInt)
        refine lv_aload_n hx hb dX12_lawOf_6 rfl (lv_at hl 0 rfl) ?_
        refine h_get (v := .ref hy) hx hb hts iX12 hown g t_a0 (by decide) so_13 rfl 11 (by decide) (hts (.fieldLink RX12 21 "CapLeagueModel" "hasLaws" "[Z") (by decide +kernel)) rfl dX12_lawOf_7 (by show va_rf (z.R a0 11) = _; rw [rhy]; rfl) ?_
        refine lv_iload_n hx hb dX12_lawOf_10 rfl (lv_at hl 2 rfl) ?_
        refine h_zald hx hb g thy (by decide) so_1311 (xi_in (by omega) (by omega)) dX12_lawOf_11 ?_
        refine lv_topi (fun v6 ev6 => ?_)
        have jv6 := hI.rd hy v1.toNatClampNeg thy ev6 (rfl : h_bd 1311 _ = (0, 1))
        refine lv_if_ne (tgt := 21) hx hb dX12_lawOf_12 (by decide) (fun c7 => ?_) (fun c7 => ?_)
        · have ic7 := (xi_ne c7 rfl (by decide) : v6.toInt ≠ 0)
          refine lv_aload_n hx hb dX12_lawOf_21 rfl (lv_at hl 0 rfl) ?_
          refine h_get (v := .ref lw) hx hb hts iX12 hown g t_a0 (by decide) so_13 rfl 10 (by decide) (hts (.fieldLink RX12 17 "CapLeagueModel" "laws" "[I") (by decide +kernel)) rfl dX12_lawOf_22 (by show va_rf (z.R a0 10) = _; rw [rlw]; rfl) ?_
          refine lv_bipush (v := 16) hx hb dX12_lawOf_25 (by decide) ?_
          refine lv_iload_n hx hb dX12_lawOf_27 rfl (lv_at hl 2 rfl) ?_
          refine lv_if_ge (tgt := 36) hx hb dX12_lawOf_28 (by decide) (fun c8 => ?_) (fun h => absurd (xi_nle h (by decide) rfl : v1.toInt < 0) (by omega))
          have ic8 := (xi_le c8 (by decide) rfl : 0 ≤ v1.toInt)
          refine lv_iload_n hx hb dX12_lawOf_36 rfl (lv_at hl 2 rfl) ?_
          refine lv_imul hx hb dX12_lawOf_37 ?_
          refine lv_topi (fun v9 ev9 => ?_)
          have jv9 : v9.toInt = 16 * v1.toInt := xi_mul ev9 (by decide) rfl (by omega) (by omega)
          refine lv_iload_n hx hb dX12_lawOf_38 rfl (lv_at hl 1 rfl) ?_
          refine lv_iadd hx hb dX12_lawOf_39 ?_
          refine lv_topi (fun v10 ev10 => ?_)
          have jv10 : v10.toInt = v9.toInt + x_t := xi_add ev10 rfl h_x (by omega) (by omega)
          refine h_ald hx hb g tlw (by decide) so_1310 (xi_in (by omega) (by omega)) dX12_lawOf_40 ?_
          refine lv_topi (fun v11 ev11 => ?_)
          have kv11 := h_lwr hI tlw (k := v10.toInt) rfl ev11 (by omega)
          have jv11 : -2147483648 ≤ v11.toInt ∧ v11.toInt ≤ 2147483647 := ⟨xi_lo _, Int.le_of_lt_add_one (xi_hi _)⟩
          exact W.iret (v := v11) hx hb hr (fun t ht hW => ⟨v11, rfl, ⟨(by rw [alw, ahy]; exact Or.inl ⟨(v1.toInt).toNat, by omega, by omega, by rw [← h_keq (i := v1) (t := v1.toInt) (k := (v1.toInt).toNat) rfl (by omega) (by omega), ← ev6]; omega, fun j h1 h2 => hx2_0 j (by omega) h2, by rw [ev11, h_keq (i := v10) (t := v10.toInt) (k := 16 * (v1.toInt).toNat + x_t.toNat) rfl (by omega) (by omega)]⟩), (by omega), (by omega)⟩, ht⟩) (fun _ h => by cases h) dX12_lawOf_41
        · have ic7 := (xi_eq c7 rfl (by decide) : v6.toInt = 0)
          obtain ⟨v12, ev12⟩ : ∃ z : Int32, z = v1 + (-1) := ⟨_, rfl⟩
          have jv12 : v12.toInt = v1.toInt + (-1) := xi_add ev12 rfl (by decide) (by omega) (by omega)
          refine lv_iinc (v := v12) (lv' := [(3, .int v12), (0, .ref a0), (2, .int x)]) hx hb dX12_lawOf_15 hl (k := 2) rfl (by rw [ev12]; rfl) (by decide) rfl (fun ls hl => ?_)
          refine lv_goto (tgt := 2) hx hb dX12_lawOf_18 (by decide) ?_
          exact ih2 _ v12 (lv_sub hl [1, 2, 0] rfl) (by omega) (q_lomore hx2_0 (by omega) (by rw [← h_keq (i := v1) (t := v1.toInt) (k := (v1.toInt).toNat) rfl (by omega) (by omega), ← ev6]; omega) (by omega)) (by omega) (by omega)
  exact loop2_0 _ _ y (lv_sub hl [1, 3, 0] rfl) (by rw [h_y]; omega) (fun j h1 h2 => absurd h1 (by omega)) (by omega) (show (y.toInt + 2) < (((y.toInt + 2).toNat + 1 : Nat) : Int) by omega)

