set_option maxHeartbeats 4000000 in
set_option maxRecDepth 100000 in
theorem tX12_in (l : Launch) (E : tE) (X : tX) (A : Nat → Prop) (z : tZ) (I0 : tI) (L0 : tL) (x : Int64) (x_t : Int) (h_x : x.toInt = x_t) (y : Int64) (y_t : Int) (h_y : y.toInt = y_t) (w : Int64) (w_t : Int) (h_w : w.toInt = w_t) : Met l yX12_in wsX12_in ({ frames := 1, cells := 0, slots := 0, locals := 64 }) (va_Pc [.long x, .long y, .long w] (h_P E X A z I0 L0)) (vp_Si (fun r => ((r = 0 ∧ ¬ (y_t ≤ x_t ∧ x_t ≤ w_t)) ∨ (r = 1 ∧ y_t ≤ x_t ∧ x_t ≤ w_t)))) 0 0 (fun _ => False) := by
  refine Met.ofW (cc := cX12_in) (maxL := 6) (ret := (some .boolean)) (by decide) rfl ?_
  intro pr_ ev_ s m args below meth cd_ s₁ B hml hv
  obtain ⟨rfl, hE, hk, hX, hA, hK, hI, hR, hB0⟩ := hv
  have g : h_G h_so h_fk E A z I0 L0 s s.heap s.heap [] := ⟨hK, va_S.rf, hB0⟩
  have hx := B.exec
  have hb := B.bytes
  have hr := B.returns
  have hts := atoms_spec (ws := wsX12_in) B.pre
  have hown : s.vm.findClass RX12 = some m.cls := findClass_of_methodNamed B.named
  have hlocks := B.notSynchronized
  have hl := lv_entry ([.long x, .long y, .long w]) (n := 6) (Nat.le_of_ble_eq_true rfl)
  rw [lg_entry_eq]
  generalize (lg_sl ([.long x, .long y, .long w]) ++ List.replicate (6 - (lg_sl ([.long x, .long y, .long w])).length) Slot.unset).toArray = ls at hl ⊢
  have hl : lv_has ls 6 [(0, .long x), (2, .long y), (4, .long w)] := hl
  refine lv_lload_n hx hb dX12_in_0 rfl (lv_at hl 0 rfl) ?_
  refine lv_lload_n hx hb dX12_in_1 rfl (lv_at hl 1 rfl) ?_
  refine W.lcmp hx hb dX12_in_2 ?_
  refine lv_if_lt (tgt := 17) hx hb dX12_in_3 (by decide) (fun c1 => ?_) (fun c1 => ?_)
  · have ic1 : x.toInt < y.toInt := xl_lt c1
    rw [h_x] at ic1
    rw [h_y] at ic1
    refine lv_iconst (v := 0) hx hb dX12_in_17 (by decide) ?_
    exact W.zret (v := 0) hx hb hr (by decide) (fun t ht hW => ⟨0, rfl, (by exact Or.inl ⟨rfl, by omega⟩), ht⟩) (fun _ h => by cases h) dX12_in_18
  · have ic1 : y.toInt ≤ x.toInt := xl_nlt c1
    rw [h_y] at ic1
    rw [h_x] at ic1
    refine lv_lload_n hx hb dX12_in_6 rfl (lv_at hl 0 rfl) ?_
    refine lv_lload hx hb dX12_in_7 (lv_at hl 2 rfl) ?_
    refine W.lcmp hx hb dX12_in_9 ?_
    refine lv_if_gt (tgt := 17) hx hb dX12_in_10 (by decide) (fun c2 => ?_) (fun c2 => ?_)
    · have ic2 : w.toInt < x.toInt := xl_gt c2
      rw [h_w] at ic2
      rw [h_x] at ic2
      refine lv_iconst (v := 0) hx hb dX12_in_17 (by decide) ?_
      exact W.zret (v := 0) hx hb hr (by decide) (fun t ht hW => ⟨0, rfl, (by exact Or.inl ⟨rfl, by omega⟩), ht⟩) (fun _ h => by cases h) dX12_in_18
    · have ic2 : x.toInt ≤ w.toInt := xl_ngt c2
      rw [h_x] at ic2
      rw [h_w] at ic2
      refine lv_iconst (v := 1) hx hb dX12_in_13 (by decide) ?_
      refine lv_goto (tgt := 18) hx hb dX12_in_14 (by decide) ?_
      exact W.zret (v := 1) hx hb hr (by decide) (fun t ht hW => ⟨1, rfl, (by exact Or.inr (⟨rfl, by omega⟩)), ht⟩) (fun _ h => by cases h) dX12_in_18
set_option maxHeartbeats 4000000 in
set_option maxRecDepth 100000 in
theorem tX12_isClub (l : Launch) (E : tE) (X : tX) (A : Nat → Prop) (z : tZ) (I0 : tI) (L0 : tL) (c : Int32) (c_t : Int) (h_c : c.toInt = c_t) : Met l yX12_isClub wsX12_isClub ({ frames := 2, cells := 0, slots := 0, locals := 128 }) (va_Pc [.int c] (h_P E X A z I0 L0)) (vp_Si (fun r => ((r = 0 ∧ ¬ (0 ≤ c_t ∧ c_t ≤ 7)) ∨ (r = 1 ∧ 0 ≤ c_t ∧ c_t ≤ 7)))) 0 0 (fun _ => False) := by
  refine Met.ofW (cc := cX12_isClub) (maxL := 1) (ret := (some .boolean)) (by decide) rfl ?_
  intro pr_ ev_ s m args below meth cd_ s₁ B hml hv
  obtain ⟨rfl, hE, hk, hX, hA, hK, hI, hR, hB0⟩ := hv
  have g : h_G h_so h_fk E A z I0 L0 s s.heap s.heap [] := ⟨hK, va_S.rf, hB0⟩
  have hx := B.exec
  have hb := B.bytes
  have hr := B.returns
  have hts := atoms_spec (ws := wsX12_isClub) B.pre
  have hown : s.vm.findClass RX12 = some m.cls := findClass_of_methodNamed B.named
  have hlocks := B.notSynchronized
  have hl := lv_entry ([.int c]) (n := 1) (Nat.le_of_ble_eq_true rfl)
  rw [lg_entry_eq]
  generalize (lg_sl ([.int c]) ++ List.replicate (1 - (lg_sl ([.int c])).length) Slot.unset).toArray = ls at hl ⊢
  have hl : lv_has ls 1 [(0, .int c)] := hl
  have b_c : -2147483648 ≤ c_t ∧ c_t ≤ 2147483647 := h_c ▸ ⟨xi_lo c, Int.le_of_lt_add_one (xi_hi c)⟩
  refine lv_iload_n hx hb dX12_isClub_0 rfl (lv_at hl 0 rfl) ?_
  refine lv_i2l hx hb dX12_isClub_1 rfl ?_
  refine lv_topl (fun v1 ev1 => ?_)
  have jv1 : v1.toInt = c_t := by rw [ev1, xi_64]; exact h_c
  refine lv_lconst (v := 0) hx hb dX12_isClub_2 (by decide) ?_
  refine lv_ldc2 (v := 7) hx hb hown (hts (.constantLong RX12 205 (7)) (by decide +kernel)) dX12_isClub_3 ?_
  refine vp_callSi (W.runS (As := [.long v1, .long 0, .long 7]) (rest := []) ⟨hx, hb, hml, hown, hts⟩ (tX12_in l E X A z I0 L0 v1 (c_t) jv1 0 (0) (by decide) 7 (7) (by decide)) (va_cwS 3 hts gX12_isClub_X12_in rfl rfl rfl (by decide +kernel) ⟨Nat.le_of_ble_eq_true rfl, Nat.le_of_ble_eq_true rfl⟩) ⟨h_blind _ _ _ _ _ _ _, h_pre _ hE hk hX hA hI hR g⟩ rfl rfl hl.1 rfl (lv_room (Nat.le_of_ble_eq_true rfl)) dX12_isClub_6 ⟨Nat.le_of_ble_eq_true rfl, Nat.le_of_ble_eq_true rfl⟩) (fun rh2 h2 => ?_)
  rcases h2 with ⟨rfl, h2⟩ | ⟨rfl, h2⟩
  · skip
    exact W.zret (v := 0) hx hb hr (by decide) (fun t ht hW => ⟨0, rfl, (by exact Or.inl ⟨rfl, by omega⟩), ht⟩) (fun _ h => by cases h) dX12_isClub_9
  · skip
    exact W.zret (v := 1) hx hb hr (by decide) (fun t ht hW => ⟨1, rfl, (by exact Or.inr (⟨rfl, by omega⟩)), ht⟩) (fun _ h => by cases h) dX12_isClub_9
set_option maxHeartbeats 4000000 in
set_option maxRecDepth 100000 in
theorem tX12_payOf (l : Launch) (E : tE) (X : tX) (A : Nat → Prop) (z : tZ) (I0 : tI) (L0 : tL) (a0 : Nat) (t_a0 : z.ty a0 = 13) (p : Int32) (p_t : Int) (h_p : p.toInt = p_t) (b_p : 0 ≤ p_t ∧ p_t ≤ 59) (y : Int32) (y_t : Int) (h_y : y.toInt = y_t) : Met l yX12_payOf wsX12_payOf ({ frames := 1, cells := 0, slots := 0, locals := 64 }) (va_Pc [.ref a0, .int p, .int y] (h_P E X A z I0 L0)) (vp_Si (fun r => True)) 0 0 (fun _ => False) := by
  refine Met.ofW (cc := cX12_payOf) (maxL := 4) (ret := (some .int)) (by decide) rfl ?_
  intro pr_ ev_ s m args below meth cd_ s₁ B hml hv
  obtain ⟨rfl, hE, hk, hX, hA, hK, hI, hR, hB0⟩ := hv
  have g : h_G h_so h_fk E A z I0 L0 s s.heap s.heap [] := ⟨hK, va_S.rf, hB0⟩
  have hx := B.exec
  have hb := B.bytes
  have hr := B.returns
  have hts := atoms_spec (ws := wsX12_payOf) B.pre
  have hown : s.vm.findClass RX12 = some m.cls := findClass_of_methodNamed B.named
  have hlocks := B.notSynchronized
  have iX12 : ∀ w ∈ u_ws RX12 TX12 51, w ∈ wsX12_payOf := by decide +kernel
  have hl := lv_entry ([.ref a0, .int p, .int y]) (n := 4) (Nat.le_of_ble_eq_true rfl)
  rw [lg_entry_eq]
  generalize (lg_sl ([.ref a0, .int p, .int y]) ++ List.replicate (4 - (lg_sl ([.ref a0, .int p, .int y])).length) Slot.unset).toArray = ls at hl ⊢
  have hl : lv_has ls 4 [(0, .ref a0), (1, .int p), (2, .int y)] := hl
  have b_y : -2147483648 ≤ y_t ∧ y_t ≤ 2147483647 := h_y ▸ ⟨xi_lo y, Int.le_of_lt_add_one (xi_hi y)⟩
  refine lv_aload_n hx hb dX12_payOf_0 rfl (lv_at hl 0 rfl) ?_
  obtain ⟨b1, rb1, tb1⟩ := hR.at a0 14 t_a0 (rfl : h_rs 13 14 = some (1314, false)) (by decide)
  refine h_get (v := .ref b1) hx hb hts iX12 hown g t_a0 (by decide) so_13 rfl 14 (by decide) (hts (.fieldLink RX12 25 "CapLeagueModel" "clubOf" "[I") (by decide +kernel)) rfl dX12_payOf_1 (by show va_rf (z.R a0 14) = _; rw [rb1]; rfl) ?_
  refine lv_iload_n hx hb dX12_payOf_4 rfl (lv_at hl 1 rfl) ?_
  refine h_ald hx hb g tb1 (by decide) so_1314 (xi_in (by rw [h_p]; omega) (by rw [h_p]; omega)) dX12_payOf_5 ?_
  refine lv_topi (fun v2 ev2 => ?_)
  have jv2 := hI.rd b1 p.toNatClampNeg tb1 ev2 (rfl : h_bd 1314 _ = ((-1), 7))
  refine lv_iconst (v := (-1)) hx hb dX12_payOf_6 (by decide) ?_
  refine lv_icmp_eq (tgt := 30) hx hb dX12_payOf_7 (by decide) (fun c3 => ?_) (fun c3 => ?_)
  · have ic3 := (xi_eq c3 rfl (by decide) : v2.toInt = (-1))
    refine lv_iconst (v := 0) hx hb dX12_payOf_30 (by decide) ?_
    exact W.iret (v := 0) hx hb hr (fun t ht hW => ⟨0, rfl, trivial, ht⟩) (fun _ h => by cases h) dX12_payOf_31
  · have ic3 := (xi_ne c3 rfl (by decide) : v2.toInt ≠ (-1))
    refine lv_iload_n hx hb dX12_payOf_10 rfl (lv_at hl 2 rfl) ?_
    refine lv_aload_n hx hb dX12_payOf_11 rfl (lv_at hl 0 rfl) ?_
    obtain ⟨b4, rb4, tb4⟩ := hR.at a0 15 t_a0 (rfl : h_rs 13 15 = some (1315, false)) (by decide)
    refine h_get (v := .ref b4) hx hb hts iX12 hown g t_a0 (by decide) so_13 rfl 15 (by decide) (hts (.fieldLink RX12 28 "CapLeagueModel" "first" "[I") (by decide +kernel)) rfl dX12_payOf_12 (by show va_rf (z.R a0 15) = _; rw [rb4]; rfl) ?_
    refine lv_iload_n hx hb dX12_payOf_15 rfl (lv_at hl 1 rfl) ?_
    refine h_ald hx hb g tb4 (by decide) so_1315 (xi_in (by rw [h_p]; omega) (by rw [h_p]; omega)) dX12_payOf_16 ?_
    refine lv_topi (fun v5 ev5 => ?_)
    have jv5 := hI.rd b4 p.toNatClampNeg tb4 ev5 (rfl : h_bd 1315 _ = ((-2147483648), 2147483647))
    refine lv_icmp_lt (tgt := 30) hx hb dX12_payOf_17 (by decide) (fun c6 => ?_) (fun c6 => ?_)
    · have ic6 := (xi_lt c6 h_y rfl : y_t < v5.toInt)
      refine lv_iconst (v := 0) hx hb dX12_payOf_30 (by decide) ?_
      exact W.iret (v := 0) hx hb hr (fun t ht hW => ⟨0, rfl, trivial, ht⟩) (fun _ h => by cases h) dX12_payOf_31
    · have ic6 := (xi_nlt c6 h_y rfl : v5.toInt ≤ y_t)
      refine lv_iload_n hx hb dX12_payOf_20 rfl (lv_at hl 2 rfl) ?_
      refine lv_aload_n hx hb dX12_payOf_21 rfl (lv_at hl 0 rfl) ?_
      obtain ⟨b7, rb7, tb7⟩ := hR.at a0 16 t_a0 (rfl : h_rs 13 16 = some (1316, false)) (by decide)
      refine h_get (v := .ref b7) hx hb hts iX12 hown g t_a0 (by decide) so_13 rfl 16 (by decide) (hts (.fieldLink RX12 31 "CapLeagueModel" "last" "[I") (by decide +kernel)) rfl dX12_payOf_22 (by show va_rf (z.R a0 16) = _; rw [rb7]; rfl) ?_
      refine lv_iload_n hx hb dX12_payOf_25 rfl (lv_at hl 1 rfl) ?_
      refine h_ald hx hb g tb7 (by decide) so_1316 (xi_in (by rw [h_p]; omega) (by rw [h_p]; omega)) dX12_payOf_26 ?_
      refine lv_topi (fun v8 ev8 => ?_)
      have jv8 := hI.rd b7 p.toNatClampNeg tb7 ev8 (rfl : h_bd 1316 _ = ((-2147483648), 2147483647))
      refine lv_icmp_le (tgt := 32) hx hb dX12_payOf_27 (by decide) (fun c9 => ?_) (fun c9 => ?_)
      · have ic9 := (xi_le c9 h_y rfl : y_t ≤ v8.toInt)
        refine lv_aload_n hx hb dX12_payOf_32 rfl (lv_at hl 0 rfl) ?_
        obtain ⟨b10, rb10, tb10⟩ := hR.at a0 17 t_a0 (rfl : h_rs 13 17 = some (1317, false)) (by decide)
        refine h_get (v := .ref b10) hx hb hts iX12 hown g t_a0 (by decide) so_13 rfl 17 (by decide) (hts (.fieldLink RX12 34 "CapLeagueModel" "pay" "[I") (by decide +kernel)) rfl dX12_payOf_33 (by show va_rf (z.R a0 17) = _; rw [rb10]; rfl) ?_
        refine lv_iload_n hx hb dX12_payOf_36 rfl (lv_at hl 1 rfl) ?_
        refine h_ald hx hb g tb10 (by decide) so_1317 (xi_in (by rw [h_p]; omega) (by rw [h_p]; omega)) dX12_payOf_37 ?_
        refine lv_topi (fun v11 ev11 => ?_)
        have jv11 := hI.rd b10 p.toNatClampNeg tb10 ev11 (rfl : h_bd 1317 _ = ((-2147483648), 2147483647))
        refine lv_iload_n hx hb dX12_payOf_38 rfl (lv_at hl 2 rfl) ?_
        refine lv_aload_n hx hb dX12_payOf_39 rfl (lv_at hl 0 rfl) ?_
        refine h_get (v := .ref b4) hx hb hts iX12 hown g t_a0 (by decide) so_13 rfl 15 (by decide) (hts (.fieldLink RX12 28 "CapLeagueModel" "first" "[I") (by decide +kernel)) rfl dX12_payOf_40 (by show va_rf (z.R a0 15) = _; rw [rb4]; rfl) ?_
        refine lv_iload_n hx hb dX12_payOf_43 rfl (lv_at hl 1 rfl) ?_
        refine h_ald hx hb g tb4 (by decide) so_1315 (xi_in (by rw [h_p]; omega) (by rw [h_p]; omega)) dX12_payOf_44 ?_
        refine xw_i (ev5.symm) ?_
        refine lv_isub hx hb dX12_payOf_45 ?_
        refine lv_topi (fun v12 ev12 => ?_)
        have jv12 : -2147483648 ≤ v12.toInt ∧ v12.toInt ≤ 2147483647 := ⟨xi_lo _, Int.le_of_lt_add_one (xi_hi _)⟩
        refine lv_aload_n hx hb dX12_payOf_46 rfl (lv_at hl 0 rfl) ?_
        obtain ⟨b13, rb13, tb13⟩ := hR.at a0 18 t_a0 (rfl : h_rs 13 18 = some (1318, false)) (by decide)
        refine h_get (v := .ref b13) hx hb hts iX12 hown g t_a0 (by decide) so_13 rfl 18 (by decide) (hts (.fieldLink RX12 37 "CapLeagueModel" "rise" "[I") (by decide +kernel)) rfl dX12_payOf_47 (by show va_rf (z.R a0 18) = _; rw [rb13]; rfl) ?_
        refine lv_iload_n hx hb dX12_payOf_50 rfl (lv_at hl 1 rfl) ?_
        refine h_ald hx hb g tb13 (by decide) so_1318 (xi_in (by rw [h_p]; omega) (by rw [h_p]; omega)) dX12_payOf_51 ?_
        refine lv_topi (fun v14 ev14 => ?_)
        have jv14 := hI.rd b13 p.toNatClampNeg tb13 ev14 (rfl : h_bd 1318 _ = ((-2147483648), 2147483647))
        refine lv_imul hx hb dX12_payOf_52 ?_
        refine lv_topi (fun v15 ev15 => ?_)
        have jv15 : -2147483648 ≤ v15.toInt ∧ v15.toInt ≤ 2147483647 := ⟨xi_lo _, Int.le_of_lt_add_one (xi_hi _)⟩
        refine lv_iadd hx hb dX12_payOf_53 ?_
        refine lv_topi (fun v16 ev16 => ?_)
        have jv16 : -2147483648 ≤ v16.toInt ∧ v16.toInt ≤ 2147483647 := ⟨xi_lo _, Int.le_of_lt_add_one (xi_hi _)⟩
        refine lv_istore_n (lv' := [(3, .int v16), (0, .ref a0), (1, .int p), (2, .int y)]) hx hb dX12_payOf_54 rfl hl (by decide) rfl (fun ls hl => ?_)
        refine lv_iload_n hx hb dX12_payOf_55 rfl (lv_at hl 0 rfl) ?_
        refine lv_if_le (tgt := 63) hx hb dX12_payOf_56 (by decide) (fun c17 => ?_) (fun c17 => ?_)
        · have ic17 := (xi_le c17 rfl (by decide) : v16.toInt ≤ 0)
          refine lv_iconst (v := 0) hx hb dX12_payOf_63 (by decide) ?_
          exact W.iret (v := 0) hx hb hr (fun t ht hW => ⟨0, rfl, trivial, ht⟩) (fun _ h => by cases h) dX12_payOf_64
        · have ic17 := (xi_nle c17 rfl (by decide) : 0 < v16.toInt)
          refine lv_iload_n hx hb dX12_payOf_59 rfl (lv_at hl 0 rfl) ?_
          refine lv_goto (tgt := 64) hx hb dX12_payOf_60 (by decide) ?_
          exact W.iret (v := v16) hx hb hr (fun t ht hW => ⟨v16, rfl, trivial, ht⟩) (fun _ h => by cases h) dX12_payOf_64
      · have ic9 := (xi_nle c9 h_y rfl : v8.toInt < y_t)
        refine lv_iconst (v := 0) hx hb dX12_payOf_30 (by decide) ?_
        exact W.iret (v := 0) hx hb hr (fun t ht hW => ⟨0, rfl, trivial, ht⟩) (fun _ h => by cases h) dX12_payOf_31
set_option maxHeartbeats 4000000 in
set_option maxRecDepth 100000 in
theorem tX12_isUnder (l : Launch) (E : tE) (X : tX) (A : Nat → Prop) (z : tZ) (I0 : tI) (L0 : tL) (a0 : Nat) (t_a0 : z.ty a0 = 13) (p : Int32) (p_t : Int) (h_p : p.toInt = p_t) (b_p : 0 ≤ p_t ∧ p_t ≤ 59) (y : Int32) (y_t : Int) (h_y : y.toInt = y_t) : Met l yX12_isUnder wsX12_isUnder ({ frames := 2, cells := 0, slots := 0, locals := 128 }) (va_Pc [.ref a0, .int p, .int y] (h_P E X A z I0 L0)) (vp_Si (fun r => (0 ≤ r.toInt ∧ r.toInt ≤ 1))) 0 0 (fun _ => False) := by
  refine Met.ofW (cc := cX12_isUnder) (maxL := 3) (ret := (some .boolean)) (by decide) rfl ?_
  intro pr_ ev_ s m args below meth cd_ s₁ B hml hv
  obtain ⟨rfl, hE, hk, hX, hA, hK, hI, hR, hB0⟩ := hv
  have g : h_G h_so h_fk E A z I0 L0 s s.heap s.heap [] := ⟨hK, va_S.rf, hB0⟩
  have hx := B.exec
  have hb := B.bytes
  have hr := B.returns
  have hts := atoms_spec (ws := wsX12_isUnder) B.pre
  have hown : s.vm.findClass RX12 = some m.cls := findClass_of_methodNamed B.named
  have hlocks := B.notSynchronized
  have iX12 : ∀ w ∈ u_ws RX12 TX12 51, w ∈ wsX12_isUnder := by decide +kernel
  have hl := lv_entry ([.ref a0, .int p, .int y]) (n := 3) (Nat.le_of_ble_eq_true rfl)
  rw [lg_entry_eq]
  generalize (lg_sl ([.ref a0, .int p, .int y]) ++ List.replicate (3 - (lg_sl ([.ref a0, .int p, .int y])).length) Slot.unset).toArray = ls at hl ⊢
  have hl : lv_has ls 3 [(0, .ref a0), (1, .int p), (2, .int y)] := hl
  have b_y : -2147483648 ≤ y_t ∧ y_t ≤ 2147483647 := h_y ▸ ⟨xi_lo y, Int.le_of_lt_add_one (xi_hi y)⟩
  refine lv_aload_n hx hb dX12_isUnder_0 rfl (lv_at hl 0 rfl) ?_
  obtain ⟨b1, rb1, tb1⟩ := hR.at a0 14 t_a0 (rfl : h_rs 13 14 = some (1314, false)) (by decide)
  refine h_get (v := .ref b1) hx hb hts iX12 hown g t_a0 (by decide) so_13 rfl 14 (by decide) (hts (.fieldLink RX12 25 "CapLeagueModel" "clubOf" "[I") (by decide +kernel)) rfl dX12_isUnder_1 (by show va_rf (z.R a0 14) = _; rw [rb1]; rfl) ?_
  refine lv_iload_n hx hb dX12_isUnder_4 rfl (lv_at hl 1 rfl) ?_
  refine h_ald hx hb g tb1 (by decide) so_1314 (xi_in (by rw [h_p]; omega) (by rw [h_p]; omega)) dX12_isUnder_5 ?_
  refine lv_topi (fun v2 ev2 => ?_)
  have jv2 := hI.rd b1 p.toNatClampNeg tb1 ev2 (rfl : h_bd 1314 _ = ((-1), 7))
  refine lv_iconst (v := (-1)) hx hb dX12_isUnder_6 (by decide) ?_
  refine lv_icmp_eq (tgt := 64) hx hb dX12_isUnder_7 (by decide) (fun c3 => ?_) (fun c3 => ?_)
  · have ic3 := (xi_eq c3 rfl (by decide) : v2.toInt = (-1))
    refine lv_iconst (v := 0) hx hb dX12_isUnder_64 (by decide) ?_
    exact W.zret (v := 0) hx hb hr (by decide) (fun t ht hW => ⟨0, rfl, ⟨(by decide), (by decide)⟩, ht⟩) (fun _ h => by cases h) dX12_isUnder_65
  · have ic3 := (xi_ne c3 rfl (by decide) : v2.toInt ≠ (-1))
    refine lv_iload_n hx hb dX12_isUnder_10 rfl (lv_at hl 2 rfl) ?_
    refine lv_i2l hx hb dX12_isUnder_11 rfl ?_
    refine lv_topl (fun v4 ev4 => ?_)
    have jv4 : v4.toInt = y_t := by rw [ev4, xi_64]; exact h_y
    refine lv_aload_n hx hb dX12_isUnder_12 rfl (lv_at hl 0 rfl) ?_
    obtain ⟨b5, rb5, tb5⟩ := hR.at a0 15 t_a0 (rfl : h_rs 13 15 = some (1315, false)) (by decide)
    refine h_get (v := .ref b5) hx hb hts iX12 hown g t_a0 (by decide) so_13 rfl 15 (by decide) (hts (.fieldLink RX12 28 "CapLeagueModel" "first" "[I") (by decide +kernel)) rfl dX12_isUnder_13 (by show va_rf (z.R a0 15) = _; rw [rb5]; rfl) ?_
    refine lv_iload_n hx hb dX12_isUnder_16 rfl (lv_at hl 1 rfl) ?_
    refine h_ald hx hb g tb5 (by decide) so_1315 (xi_in (by rw [h_p]; omega) (by rw [h_p]; omega)) dX12_isUnder_17 ?_
    refine lv_topi (fun v6 ev6 => ?_)
    have jv6 := hI.rd b5 p.toNatClampNeg tb5 ev6 (rfl : h_bd 1315 _ = ((-2147483648), 2147483647))
    refine lv_i2l hx hb dX12_isUnder_18 rfl ?_
    refine lv_topl (fun v7 ev7 => ?_)
    have jv7 : v7.toInt = v6.toInt := by rw [ev7, xi_64]
    refine lv_aload_n hx hb dX12_isUnder_19 rfl (lv_at hl 0 rfl) ?_
    obtain ⟨b8, rb8, tb8⟩ := hR.at a0 16 t_a0 (rfl : h_rs 13 16 = some (1316, false)) (by decide)
    refine h_get (v := .ref b8) hx hb hts iX12 hown g t_a0 (by decide) so_13 rfl 16 (by decide) (hts (.fieldLink RX12 31 "CapLeagueModel" "last" "[I") (by decide +kernel)) rfl dX12_isUnder_20 (by show va_rf (z.R a0 16) = _; rw [rb8]; rfl) ?_
    refine lv_iload_n hx hb dX12_isUnder_23 rfl (lv_at hl 1 rfl) ?_
    refine h_ald hx hb g tb8 (by decide) so_1316 (xi_in (by rw [h_p]; omega) (by rw [h_p]; omega)) dX12_isUnder_24 ?_
    refine lv_topi (fun v9 ev9 => ?_)
    have jv9 := hI.rd b8 p.toNatClampNeg tb8 ev9 (rfl : h_bd 1316 _ = ((-2147483648), 2147483647))
    refine lv_i2l hx hb dX12_isUnder_25 rfl ?_
    refine lv_topl (fun v10 ev10 => ?_)
    have jv10 : v10.toInt = v9.toInt := by rw [ev10, xi_64]
    refine vp_callSi (W.runS (As := [.long v4, .long v7, .long v10]) (rest := []) ⟨hx, hb, hml, hown, hts⟩ (tX12_in l E X A z I0 L0 v4 (y_t) jv4 v7 (v6.toInt) jv7 v10 (v9.toInt) jv10) (va_cwS 3 hts gX12_isUnder_X12_in rfl rfl rfl (by decide +kernel) ⟨Nat.le_of_ble_eq_true rfl, Nat.le_of_ble_eq_true rfl⟩) ⟨h_blind _ _ _ _ _ _ _, h_pre _ hE hk hX hA hI hR g⟩ rfl rfl hl.1 rfl (lv_room (Nat.le_of_ble_eq_true rfl)) dX12_isUnder_26 ⟨Nat.le_of_ble_eq_true rfl, Nat.le_of_ble_eq_true rfl⟩) (fun rh11 h11 => ?_)
    rcases h11 with ⟨rfl, h11⟩ | ⟨rfl, h11⟩
    · skip
      refine lv_if_eq (tgt := 64) hx hb dX12_isUnder_29 (by decide) (fun _ => ?_) (fun h => absurd (by decide) h)
      refine lv_iconst (v := 0) hx hb dX12_isUnder_64 (by decide) ?_
      exact W.zret (v := 0) hx hb hr (by decide) (fun t ht hW => ⟨0, rfl, ⟨(by decide), (by decide)⟩, ht⟩) (fun _ h => by cases h) dX12_isUnder_65
    · skip
      refine lv_if_eq (tgt := 64) hx hb dX12_isUnder_29 (by decide) (fun h => absurd h (by decide)) (fun _ => ?_)
      refine lv_iload_n hx hb dX12_isUnder_32 rfl (lv_at hl 2 rfl) ?_
      refine lv_aload_n hx hb dX12_isUnder_33 rfl (lv_at hl 0 rfl) ?_
      refine h_get (v := .ref b8) hx hb hts iX12 hown g t_a0 (by decide) so_13 rfl 16 (by decide) (hts (.fieldLink RX12 31 "CapLeagueModel" "last" "[I") (by decide +kernel)) rfl dX12_isUnder_34 (by show va_rf (z.R a0 16) = _; rw [rb8]; rfl) ?_
      refine lv_iload_n hx hb dX12_isUnder_37 rfl (lv_at hl 1 rfl) ?_
      refine h_ald hx hb g tb8 (by decide) so_1316 (xi_in (by rw [h_p]; omega) (by rw [h_p]; omega)) dX12_isUnder_38 ?_
      refine xw_i (ev9.symm) ?_
      refine lv_icmp_ne (tgt := 60) hx hb dX12_isUnder_39 (by decide) (fun c14 => ?_) (fun c14 => ?_)
      · have ic14 := (xi_ne c14 h_y rfl : y_t ≠ v9.toInt)
        refine lv_iconst (v := 1) hx hb dX12_isUnder_60 (by decide) ?_
        refine lv_goto (tgt := 65) hx hb dX12_isUnder_61 (by decide) ?_
        exact W.zret (v := 1) hx hb hr (by decide) (fun t ht hW => ⟨1, rfl, ⟨(by decide), (by decide)⟩, ht⟩) (fun _ h => by cases h) dX12_isUnder_65
      · have ic14 := (xi_eq c14 h_y rfl : y_t = v9.toInt)
        refine lv_aload_n hx hb dX12_isUnder_42 rfl (lv_at hl 0 rfl) ?_
        obtain ⟨b15, rb15, tb15⟩ := hR.at a0 20 t_a0 (rfl : h_rs 13 20 = some (1320, false)) (by decide)
        refine h_get (v := .ref b15) hx hb hts iX12 hown g t_a0 (by decide) so_13 rfl 20 (by decide) (hts (.fieldLink RX12 43 "CapLeagueModel" "hasChoice" "[Z") (by decide +kernel)) rfl dX12_isUnder_43 (by show va_rf (z.R a0 20) = _; rw [rb15]; rfl) ?_
        refine lv_iload_n hx hb dX12_isUnder_46 rfl (lv_at hl 1 rfl) ?_
        refine h_zald hx hb g tb15 (by decide) so_1320 (xi_in (by rw [h_p]; omega) (by rw [h_p]; omega)) dX12_isUnder_47 ?_
        refine lv_topi (fun v16 ev16 => ?_)
        have jv16 := hI.rd b15 p.toNatClampNeg tb15 ev16 (rfl : h_bd 1320 _ = (0, 1))
        refine lv_if_eq (tgt := 60) hx hb dX12_isUnder_48 (by decide) (fun c17 => ?_) (fun c17 => ?_)
        · have ic17 := (xi_eq c17 rfl (by decide) : v16.toInt = 0)
          refine lv_iconst (v := 1) hx hb dX12_isUnder_60 (by decide) ?_
          refine lv_goto (tgt := 65) hx hb dX12_isUnder_61 (by decide) ?_
          exact W.zret (v := 1) hx hb hr (by decide) (fun t ht hW => ⟨1, rfl, ⟨(by decide), (by decide)⟩, ht⟩) (fun _ h => by cases h) dX12_isUnder_65
        · have ic17 := (xi_ne c17 rfl (by decide) : v16.toInt ≠ 0)
          refine lv_aload_n hx hb dX12_isUnder_51 rfl (lv_at hl 0 rfl) ?_
          obtain ⟨b18, rb18, tb18⟩ := hR.at a0 21 t_a0 (rfl : h_rs 13 21 = some (1321, false)) (by decide)
          refine h_get (v := .ref b18) hx hb hts iX12 hown g t_a0 (by decide) so_13 rfl 21 (by decide) (hts (.fieldLink RX12 46 "CapLeagueModel" "isTaken" "[Z") (by decide +kernel)) rfl dX12_isUnder_52 (by show va_rf (z.R a0 21) = _; rw [rb18]; rfl) ?_
          refine lv_iload_n hx hb dX12_isUnder_55 rfl (lv_at hl 1 rfl) ?_
          refine h_zald hx hb g tb18 (by decide) so_1321 (xi_in (by rw [h_p]; omega) (by rw [h_p]; omega)) dX12_isUnder_56 ?_
          refine lv_topi (fun v19 ev19 => ?_)
          have jv19 := hI.rd b18 p.toNatClampNeg tb18 ev19 (rfl : h_bd 1321 _ = (0, 1))
          refine lv_if_eq (tgt := 64) hx hb dX12_isUnder_57 (by decide) (fun c20 => ?_) (fun c20 => ?_)
          · have ic20 := (xi_eq c20 rfl (by decide) : v19.toInt = 0)
            refine lv_iconst (v := 0) hx hb dX12_isUnder_64 (by decide) ?_
            exact W.zret (v := 0) hx hb hr (by decide) (fun t ht hW => ⟨0, rfl, ⟨(by decide), (by decide)⟩, ht⟩) (fun _ h => by cases h) dX12_isUnder_65
          · have ic20 := (xi_ne c20 rfl (by decide) : v19.toInt ≠ 0)
            refine lv_iconst (v := 1) hx hb dX12_isUnder_60 (by decide) ?_
            refine lv_goto (tgt := 65) hx hb dX12_isUnder_61 (by decide) ?_
            exact W.zret (v := 1) hx hb hr (by decide) (fun t ht hW => ⟨1, rfl, ⟨(by decide), (by decide)⟩, ht⟩) (fun _ h => by cases h) dX12_isUnder_65
set_option maxHeartbeats 4000000 in
set_option maxRecDepth 100000 in
theorem tX12_worthTo (l : Launch) (E : tE) (X : tX) (A : Nat → Prop) (z : tZ) (I0 : tI) (L0 : tL) (a0 : Nat) (t_a0 : z.ty a0 = 13) (c : Int32) (c_t : Int) (h_c : c.toInt = c_t) (b_c : 0 ≤ c_t ∧ c_t ≤ 7) (x : Int32) (x_t : Int) (h_x : x.toInt = x_t) (b_x : 0 ≤ x_t ∧ x_t ≤ 139) : Met l yX12_worthTo wsX12_worthTo ({ frames := 1, cells := 0, slots := 0, locals := 64 }) (va_Pc [.ref a0, .int c, .int x] (h_P E X A z I0 L0)) (vp_Si (fun r => True)) 0 0 (fun _ => False) := by
  refine Met.ofW (cc := cX12_worthTo) (maxL := 3) (ret := (some .int)) (by decide) rfl ?_
  intro pr_ ev_ s m args below meth cd_ s₁ B hml hv
  obtain ⟨rfl, hE, hk, hX, hA, hK, hI, hR, hB0⟩ := hv
  have g : h_G h_so h_fk E A z I0 L0 s s.heap s.heap [] := ⟨hK, va_S.rf, hB0⟩
  have hx := B.exec
  have hb := B.bytes
  have hr := B.returns
  have hts := atoms_spec (ws := wsX12_worthTo) B.pre
  have hown : s.vm.findClass RX12 = some m.cls := findClass_of_methodNamed B.named
  have hlocks := B.notSynchronized
  have iX12 : ∀ w ∈ u_ws RX12 TX12 51, w ∈ wsX12_worthTo := by decide +kernel
  have hl := lv_entry ([.ref a0, .int c, .int x]) (n := 3) (Nat.le_of_ble_eq_true rfl)
  rw [lg_entry_eq]
  generalize (lg_sl ([.ref a0, .int c, .int x]) ++ List.replicate (3 - (lg_sl ([.ref a0, .int c, .int x])).length) Slot.unset).toArray = ls at hl ⊢
  have hl : lv_has ls 3 [(0, .ref a0), (1, .int c), (2, .int x)] := hl
  refine lv_aload_n hx hb dX12_worthTo_0 rfl (lv_at hl 0 rfl) ?_
  obtain ⟨b1, rb1, tb1⟩ := hR.at a0 38 t_a0 (rfl : h_rs 13 38 = some (1338, false)) (by decide)
  refine h_get (v := .ref b1) hx hb hts iX12 hown g t_a0 (by decide) so_13 rfl 38 (by decide) (hts (.fieldLink RX12 88 "CapLeagueModel" "worths" "[I") (by decide +kernel)) rfl dX12_worthTo_1 (by show va_rf (z.R a0 38) = _; rw [rb1]; rfl) ?_
  refine lv_sipush (v := 140) hx hb dX12_worthTo_4 (by decide) ?_
  refine lv_iload_n hx hb dX12_worthTo_7 rfl (lv_at hl 1 rfl) ?_
  refine lv_imul hx hb dX12_worthTo_8 ?_
  refine lv_topi (fun v2 ev2 => ?_)
  have jv2 : v2.toInt = 140 * c_t := xi_mul ev2 (by decide) h_c (by omega) (by omega)
  refine lv_iload_n hx hb dX12_worthTo_9 rfl (lv_at hl 2 rfl) ?_
  refine lv_iadd hx hb dX12_worthTo_10 ?_
  refine lv_topi (fun v3 ev3 => ?_)
  have jv3 : v3.toInt = v2.toInt + x_t := xi_add ev3 rfl h_x (by omega) (by omega)
  refine h_ald hx hb g tb1 (by decide) so_1338 (xi_in (by omega) (by omega)) dX12_worthTo_11 ?_
  refine lv_topi (fun v4 ev4 => ?_)
  have jv4 := hI.rd b1 v3.toNatClampNeg tb1 ev4 (rfl : h_bd 1338 _ = ((-2147483648), 2147483647))
  exact W.iret (v := v4) hx hb hr (fun t ht hW => ⟨v4, rfl, trivial, ht⟩) (fun _ h => by cases h) dX12_worthTo_12
set_option maxHeartbeats 4000000 in
set_option maxRecDepth 100000 in
theorem tX12_ringed (l : Launch) (E : tE) (X : tX) (A : Nat → Prop) (z : tZ) (I0 : tI) (L0 : tL) (a0 : Nat) (t_a0 : z.ty a0 = 13) (x : Int32) (x_t : Int) (h_x : x.toInt = x_t) : Met l yX12_ringed wsX12_ringed ({ frames := 2, cells := 0, slots := 0, locals := 128 }) (va_Pc [.ref a0, .int x] (h_P E X A z I0 L0)) (vp_Si (fun r => True)) 0 0 (fun _ => False) := by
  refine Met.ofW (cc := cX12_ringed) (maxL := 2) (ret := (some .int)) (by decide) rfl ?_
  intro pr_ ev_ s m args below meth cd_ s₁ B hml hv
  obtain ⟨rfl, hE, hk, hX, hA, hK, hI, hR, hB0⟩ := hv
  have g : h_G h_so h_fk E A z I0 L0 s s.heap s.heap [] := ⟨hK, va_S.rf, hB0⟩
  have hx := B.exec
  have hb := B.bytes
  have hr := B.returns
  have hts := atoms_spec (ws := wsX12_ringed) B.pre
  have hown : s.vm.findClass RX12 = some m.cls := findClass_of_methodNamed B.named
  have hlocks := B.notSynchronized
  have iX12 : ∀ w ∈ u_ws RX12 TX12 51, w ∈ wsX12_ringed := by decide +kernel
  have hl := lv_entry ([.ref a0, .int x]) (n := 2) (Nat.le_of_ble_eq_true rfl)
  rw [lg_entry_eq]
  generalize (lg_sl ([.ref a0, .int x]) ++ List.replicate (2 - (lg_sl ([.ref a0, .int x])).length) Slot.unset).toArray = ls at hl ⊢
  have hl : lv_has ls 2 [(0, .ref a0), (1, .int x)] := hl
  have b_x : -2147483648 ≤ x_t ∧ x_t ≤ 2147483647 := h_x ▸ ⟨xi_lo x, Int.le_of_lt_add_one (xi_hi x)⟩
  refine lv_aload_n hx hb dX12_ringed_0 rfl (lv_at hl 0 rfl) ?_
  refine h_get (v := .int (I0 a0 41)) hx hb hts iX12 hown g t_a0 (by decide) so_13 rfl 41 (by decide) (hts (.fieldLink RX12 297 "CapLeagueModel" "ringMany" "I") (by decide +kernel)) rfl dX12_ringed_1 rfl ?_
  refine lv_topi (fun v1 ev1 => ?_)
  have jv1 := hI.rd a0 41 t_a0 ev1 (rfl : h_bd 13 41 = (0, 3))
  refine lv_if_ne (tgt := 9) hx hb dX12_ringed_4 (by decide) (fun c2 => ?_) (fun c2 => ?_)
  · have ic2 := (xi_ne c2 rfl (by decide) : v1.toInt ≠ 0)
    refine lv_iload_n hx hb dX12_ringed_9 rfl (lv_at hl 1 rfl) ?_
    refine lv_if_ne (tgt := 18) hx hb dX12_ringed_10 (by decide) (fun c3 => ?_) (fun c3 => ?_)
    · have ic3 := (xi_ne c3 h_x (by decide) : x_t ≠ 0)
      refine lv_iload_n hx hb dX12_ringed_18 rfl (lv_at hl 1 rfl) ?_
      refine lv_i2l hx hb dX12_ringed_19 rfl ?_
      refine lv_topl (fun v4 ev4 => ?_)
      have jv4 : v4.toInt = x_t := by rw [ev4, xi_64]; exact h_x
      refine lv_lconst (v := 1) hx hb dX12_ringed_20 (by decide) ?_
      refine lv_aload_n hx hb dX12_ringed_21 rfl (lv_at hl 0 rfl) ?_
      refine h_get (v := .int v1) hx hb hts iX12 hown g t_a0 (by decide) so_13 rfl 41 (by decide) (hts (.fieldLink RX12 297 "CapLeagueModel" "ringMany" "I") (by decide +kernel)) rfl dX12_ringed_22 (congrArg Value.int (ev1.symm)) ?_
      refine lv_i2l hx hb dX12_ringed_25 rfl ?_
      refine lv_topl (fun v5 ev5 => ?_)
      have jv5 : v5.toInt = v1.toInt := by rw [ev5, xi_64]
      refine vp_callSi (W.runS (As := [.long v4, .long 1, .long v5]) (rest := []) ⟨hx, hb, hml, hown, hts⟩ (tX12_in l E X A z I0 L0 v4 (x_t) jv4 1 (1) (by decide) v5 (v1.toInt) jv5) (va_cwS 3 hts gX12_ringed_X12_in rfl rfl rfl (by decide +kernel) ⟨Nat.le_of_ble_eq_true rfl, Nat.le_of_ble_eq_true rfl⟩) ⟨h_blind _ _ _ _ _ _ _, h_pre _ hE hk hX hA hI hR g⟩ rfl rfl hl.1 rfl (lv_room (Nat.le_of_ble_eq_true rfl)) dX12_ringed_26 ⟨Nat.le_of_ble_eq_true rfl, Nat.le_of_ble_eq_true rfl⟩) (fun rh6 h6 => ?_)
      rcases h6 with ⟨rfl, h6⟩ | ⟨rfl, h6⟩
      · skip
        refine lv_if_eq (tgt := 41) hx hb dX12_ringed_29 (by decide) (fun _ => ?_) (fun h => absurd (by decide) h)
        refine lv_iload_n hx hb dX12_ringed_41 rfl (lv_at hl 1 rfl) ?_
        refine lv_i2l hx hb dX12_ringed_42 rfl ?_
        refine lv_topl (fun v8 ev8 => ?_)
        have jv8 : v8.toInt = x_t := by rw [ev8, xi_64]; exact h_x
        refine lv_ldc2 (v := 4) hx hb hown (hts (.constantLong RX12 300 (4)) (by decide +kernel)) dX12_ringed_43 ?_
        refine lv_iconst (v := 3) hx hb dX12_ringed_46 (by decide) ?_
        refine lv_aload_n hx hb dX12_ringed_47 rfl (lv_at hl 0 rfl) ?_
        refine h_get (v := .int v1) hx hb hts iX12 hown g t_a0 (by decide) so_13 rfl 41 (by decide) (hts (.fieldLink RX12 297 "CapLeagueModel" "ringMany" "I") (by decide +kernel)) rfl dX12_ringed_48 (congrArg Value.int (ev1.symm)) ?_
        refine lv_iadd hx hb dX12_ringed_51 ?_
        refine lv_topi (fun v9 ev9 => ?_)
        have jv9 : v9.toInt = 3 + v1.toInt := xi_add ev9 (by decide) rfl (by omega) (by omega)
        refine lv_i2l hx hb dX12_ringed_52 rfl ?_
        refine lv_topl (fun v10 ev10 => ?_)
        have jv10 : v10.toInt = v9.toInt := by rw [ev10, xi_64]
        refine vp_callSi (W.runS (As := [.long v8, .long 4, .long v10]) (rest := []) ⟨hx, hb, hml, hown, hts⟩ (tX12_in l E X A z I0 L0 v8 (x_t) jv8 4 (4) (by decide) v10 (v9.toInt) jv10) (va_cwS 3 hts gX12_ringed_X12_in rfl rfl rfl (by decide +kernel) ⟨Nat.le_of_ble_eq_true rfl, Nat.le_of_ble_eq_true rfl⟩) ⟨h_blind _ _ _ _ _ _ _, h_pre _ hE hk hX hA hI hR g⟩ rfl rfl hl.1 rfl (lv_room (Nat.le_of_ble_eq_true rfl)) dX12_ringed_53 ⟨Nat.le_of_ble_eq_true rfl, Nat.le_of_ble_eq_true rfl⟩) (fun rh11 h11 => ?_)
        rcases h11 with ⟨rfl, h11⟩ | ⟨rfl, h11⟩
        · skip
          refine lv_if_eq (tgt := 70) hx hb dX12_ringed_56 (by decide) (fun _ => ?_) (fun h => absurd (by decide) h)
          refine lv_iconst (v := (-1)) hx hb dX12_ringed_70 (by decide) ?_
          exact W.iret (v := (-1)) hx hb hr (fun t ht hW => ⟨(-1), rfl, trivial, ht⟩) (fun _ h => by cases h) dX12_ringed_71
        · skip
          refine lv_if_eq (tgt := 70) hx hb dX12_ringed_56 (by decide) (fun h => absurd h (by decide)) (fun _ => ?_)
          refine lv_aload_n hx hb dX12_ringed_59 rfl (lv_at hl 0 rfl) ?_
          obtain ⟨b14, rb14, tb14⟩ := hR.at a0 47 t_a0 (rfl : h_rs 13 47 = some (1347, false)) (by decide)
          refine h_get (v := .ref b14) hx hb hts iX12 hown g t_a0 (by decide) so_13 rfl 47 (by decide) (hts (.fieldLink RX12 106 "CapLeagueModel" "toldGives" "[I") (by decide +kernel)) rfl dX12_ringed_60 (by show va_rf (z.R a0 47) = _; rw [rb14]; rfl) ?_
          refine lv_iload_n hx hb dX12_ringed_63 rfl (lv_at hl 1 rfl) ?_
          refine lv_iconst (v := 4) hx hb dX12_ringed_64 (by decide) ?_
          refine lv_isub hx hb dX12_ringed_65 ?_
          refine lv_topi (fun v15 ev15 => ?_)
          have jv15 : v15.toInt = x_t - 4 := xi_sub ev15 h_x (by decide) (by omega) (by omega)
          refine h_ald hx hb g tb14 (by decide) so_1347 (xi_in (by omega) (by omega)) dX12_ringed_66 ?_
          refine lv_topi (fun v16 ev16 => ?_)
          have jv16 := hI.rd b14 v15.toNatClampNeg tb14 ev16 (rfl : h_bd 1347 _ = ((-2147483648), 2147483647))
          refine lv_goto (tgt := 71) hx hb dX12_ringed_67 (by decide) ?_
          exact W.iret (v := v16) hx hb hr (fun t ht hW => ⟨v16, rfl, trivial, ht⟩) (fun _ h => by cases h) dX12_ringed_71
      · skip
        refine lv_if_eq (tgt := 41) hx hb dX12_ringed_29 (by decide) (fun h => absurd h (by decide)) (fun _ => ?_)
        refine lv_aload_n hx hb dX12_ringed_32 rfl (lv_at hl 0 rfl) ?_
        obtain ⟨b18, rb18, tb18⟩ := hR.at a0 46 t_a0 (rfl : h_rs 13 46 = some (1346, false)) (by decide)
        refine h_get (v := .ref b18) hx hb hts iX12 hown g t_a0 (by decide) so_13 rfl 46 (by decide) (hts (.fieldLink RX12 103 "CapLeagueModel" "toldClub" "[I") (by decide +kernel)) rfl dX12_ringed_33 (by show va_rf (z.R a0 46) = _; rw [rb18]; rfl) ?_
        refine lv_iload_n hx hb dX12_ringed_36 rfl (lv_at hl 1 rfl) ?_
        refine lv_iconst (v := 1) hx hb dX12_ringed_37 (by decide) ?_
        refine lv_isub hx hb dX12_ringed_38 ?_
        refine lv_topi (fun v19 ev19 => ?_)
        have jv19 : v19.toInt = x_t - 1 := xi_sub ev19 h_x (by decide) (by omega) (by omega)
        refine h_ald hx hb g tb18 (by decide) so_1346 (xi_in (by omega) (by omega)) dX12_ringed_39 ?_
        refine lv_topi (fun v20 ev20 => ?_)
        have jv20 := hI.rd b18 v19.toNatClampNeg tb18 ev20 (rfl : h_bd 1346 _ = ((-2147483648), 2147483647))
        exact W.iret (v := v20) hx hb hr (fun t ht hW => ⟨v20, rfl, trivial, ht⟩) (fun _ h => by cases h) dX12_ringed_40
    · have ic3 := (xi_eq c3 h_x (by decide) : x_t = 0)
      refine lv_aload_n hx hb dX12_ringed_13 rfl (lv_at hl 0 rfl) ?_
      refine h_get (v := .int v1) hx hb hts iX12 hown g t_a0 (by decide) so_13 rfl 41 (by decide) (hts (.fieldLink RX12 297 "CapLeagueModel" "ringMany" "I") (by decide +kernel)) rfl dX12_ringed_14 (congrArg Value.int (ev1.symm)) ?_
      exact W.iret (v := v1) hx hb hr (fun t ht hW => ⟨v1, rfl, trivial, ht⟩) (fun _ h => by cases h) dX12_ringed_17
  · have ic2 := (xi_eq c2 rfl (by decide) : v1.toInt = 0)
    refine lv_iconst (v := (-1)) hx hb dX12_ringed_7 (by decide) ?_
    exact W.iret (v := (-1)) hx hb hr (fun t ht hW => ⟨(-1), rfl, trivial, ht⟩) (fun _ h => by cases h) dX12_ringed_8
set_option maxHeartbeats 4000000 in
set_option maxRecDepth 100000 in
theorem tX12_purse (l : Launch) (E : tE) (X : tX) (A : Nat → Prop) (z : tZ) (I0 : tI) (L0 : tL) (a0 : Nat) (t_a0 : z.ty a0 = 13) (c : Int32) (c_t : Int) (h_c : c.toInt = c_t) : Met l yX12_purse wsX12_purse ({ frames := 3, cells := 0, slots := 0, locals := 192 }) (va_Pc [.ref a0, .int c] (h_P E X A z I0 L0)) (vp_Si (fun r => True)) 0 0 (fun _ => False) := by
  refine Met.ofW (cc := cX12_purse) (maxL := 2) (ret := (some .int)) (by decide) rfl ?_
  intro pr_ ev_ s m args below meth cd_ s₁ B hml hv
  obtain ⟨rfl, hE, hk, hX, hA, hK, hI, hR, hB0⟩ := hv
  have g : h_G h_so h_fk E A z I0 L0 s s.heap s.heap [] := ⟨hK, va_S.rf, hB0⟩
  have hx := B.exec
  have hb := B.bytes
  have hr := B.returns
  have hts := atoms_spec (ws := wsX12_purse) B.pre
  have hown : s.vm.findClass RX12 = some m.cls := findClass_of_methodNamed B.named
  have hlocks := B.notSynchronized
  have iX12 : ∀ w ∈ u_ws RX12 TX12 51, w ∈ wsX12_purse := by decide +kernel
  have hl := lv_entry ([.ref a0, .int c]) (n := 2) (Nat.le_of_ble_eq_true rfl)
  rw [lg_entry_eq]
  generalize (lg_sl ([.ref a0, .int c]) ++ List.replicate (2 - (lg_sl ([.ref a0, .int c])).length) Slot.unset).toArray = ls at hl ⊢
  have hl : lv_has ls 2 [(0, .ref a0), (1, .int c)] := hl
  have b_c : -2147483648 ≤ c_t ∧ c_t ≤ 2147483647 := h_c ▸ ⟨xi_lo c, Int.le_of_lt_add_one (xi_hi c)⟩
  refine lv_iload_n hx hb dX12_purse_0 rfl (lv_at hl 1 rfl) ?_
  refine vp_callSi (W.runS (As := [.int c]) (rest := []) ⟨hx, hb, hml, hown, hts⟩ (tX12_isClub l E X A z I0 L0 c (c_t) h_c) (va_cwS 1 hts gX12_purse_X12_isClub rfl rfl rfl (by decide +kernel) ⟨Nat.le_of_ble_eq_true rfl, Nat.le_of_ble_eq_true rfl⟩) ⟨h_blind _ _ _ _ _ _ _, h_pre _ hE hk hX hA hI hR g⟩ rfl rfl hl.1 rfl (lv_room (Nat.le_of_ble_eq_true rfl)) dX12_purse_1 ⟨Nat.le_of_ble_eq_true rfl, Nat.le_of_ble_eq_true rfl⟩) (fun rh1 h1 => ?_)
  rcases h1 with ⟨rfl, h1⟩ | ⟨rfl, h1⟩
  · skip
    refine lv_if_eq (tgt := 16) hx hb dX12_purse_4 (by decide) (fun _ => ?_) (fun h => absurd (by decide) h)
    refine lv_ldcw (v := (-2000000000)) hx hb hown (hts (.constant RX12 277 (-2000000000)) (by decide +kernel)) dX12_purse_16 ?_
    exact W.iret (v := (-2000000000)) hx hb hr (fun t ht hW => ⟨(-2000000000), rfl, trivial, ht⟩) (fun _ h => by cases h) dX12_purse_19
  · skip
    refine lv_if_eq (tgt := 16) hx hb dX12_purse_4 (by decide) (fun h => absurd h (by decide)) (fun _ => ?_)
    refine lv_aload_n hx hb dX12_purse_7 rfl (lv_at hl 0 rfl) ?_
    obtain ⟨b4, rb4, tb4⟩ := hR.at a0 49 t_a0 (rfl : h_rs 13 49 = some (1349, false)) (by decide)
    refine h_get (v := .ref b4) hx hb hts iX12 hown g t_a0 (by decide) so_13 rfl 49 (by decide) (hts (.fieldLink RX12 112 "CapLeagueModel" "purse" "[I") (by decide +kernel)) rfl dX12_purse_8 (by show va_rf (z.R a0 49) = _; rw [rb4]; rfl) ?_
    refine lv_iload_n hx hb dX12_purse_11 rfl (lv_at hl 1 rfl) ?_
    refine h_ald hx hb g tb4 (by decide) so_1349 (xi_in (by rw [h_c]; omega) (by rw [h_c]; omega)) dX12_purse_12 ?_
    refine lv_topi (fun v5 ev5 => ?_)
    have jv5 := hI.rd b4 c.toNatClampNeg tb4 ev5 (rfl : h_bd 1349 _ = ((-2147483648), 2147483647))
    refine lv_goto (tgt := 19) hx hb dX12_purse_13 (by decide) ?_
    exact W.iret (v := v5) hx hb hr (fun t ht hW => ⟨v5, rfl, trivial, ht⟩) (fun _ h => by cases h) dX12_purse_19
set_option maxHeartbeats 4000000 in
set_option maxRecDepth 100000 in
theorem tX12_count (l : Launch) (E : tE) (X : tX) (A : Nat → Prop) (z : tZ) (I0 : tI) (L0 : tL) (a0 : Nat) (t_a0 : z.ty a0 = 13) (x : Int32) (x_t : Int) (h_x : x.toInt = x_t) : Met l yX12_count wsX12_count ({ frames := 1, cells := 0, slots := 0, locals := 64 }) (va_Pc [.ref a0, .int x] (h_P E X A z I0 L0)) (vp_Si (fun r => True)) 0 0 (fun _ => False) := by
  refine Met.ofW (cc := cX12_count) (maxL := 2) (ret := (some .int)) (by decide) rfl ?_
  intro pr_ ev_ s m args below meth cd_ s₁ B hml hv
  obtain ⟨rfl, hE, hk, hX, hA, hK, hI, hR, hB0⟩ := hv
  have g : h_G h_so h_fk E A z I0 L0 s s.heap s.heap [] := ⟨hK, va_S.rf, hB0⟩
  have hx := B.exec
  have hb := B.bytes
  have hr := B.returns
  have hts := atoms_spec (ws := wsX12_count) B.pre
  have hown : s.vm.findClass RX12 = some m.cls := findClass_of_methodNamed B.named
  have hlocks := B.notSynchronized
  have iX12 : ∀ w ∈ u_ws RX12 TX12 51, w ∈ wsX12_count := by decide +kernel
  have hl := lv_entry ([.ref a0, .int x]) (n := 2) (Nat.le_of_ble_eq_true rfl)
  rw [lg_entry_eq]
  generalize (lg_sl ([.ref a0, .int x]) ++ List.replicate (2 - (lg_sl ([.ref a0, .int x])).length) Slot.unset).toArray = ls at hl ⊢
  have hl : lv_has ls 2 [(0, .ref a0), (1, .int x)] := hl
  have b_x : -2147483648 ≤ x_t ∧ x_t ≤ 2147483647 := h_x ▸ ⟨xi_lo x, Int.le_of_lt_add_one (xi_hi x)⟩
  refine lv_iload_n hx hb dX12_count_0 rfl (lv_at hl 1 rfl) ?_
  have qc1 : x.toInt = x_t := h_x
  rcases (show (x.toInt < 0 ∨ 6 < x.toInt) ∨ x.toInt = 0 ∨ x.toInt = 1 ∨ x.toInt = 2 ∨ x.toInt = 3 ∨ x.toInt = 4 ∨ x.toInt = 5 ∨ x.toInt = 6 by omega) with c1 | c1 | c1 | c1 | c1 | c1 | c1 | c1
  · refine lv_tableOut (tgt := 95) hx hb dX12_count_1 c1 (by decide) ?_
    refine lv_iconst (v := (-1)) hx hb dX12_count_95 (by decide) ?_
    exact W.iret (v := (-1)) hx hb hr (fun t ht hW => ⟨(-1), rfl, trivial, ht⟩) (fun _ h => by cases h) dX12_count_96
  · refine lv_tableIn (off := 43) (tgt := 44) hx hb dX12_count_1 (by omega) (by omega) (by rw [show (x.toInt - 0).toNat = 0 by omega]; rfl) (by decide) ?_
    refine lv_aload_n hx hb dX12_count_44 rfl (lv_at hl 0 rfl) ?_
    refine h_get (v := .int (I0 a0 12)) hx hb hts iX12 hown g t_a0 (by decide) so_13 rfl 12 (by decide) (hts (.fieldLink RX12 187 "CapLeagueModel" "clock" "I") (by decide +kernel)) rfl dX12_count_45 rfl ?_
    refine lv_topi (fun v2 ev2 => ?_)
    have jv2 := hI.rd a0 12 t_a0 ev2 (rfl : h_bd 13 12 = (0, 9))
    exact W.iret (v := v2) hx hb hr (fun t ht hW => ⟨v2, rfl, trivial, ht⟩) (fun _ h => by cases h) dX12_count_48
  · refine lv_tableIn (off := 48) (tgt := 49) hx hb dX12_count_1 (by omega) (by omega) (by rw [show (x.toInt - 0).toNat = 1 by omega]; rfl) (by decide) ?_
    refine lv_aload_n hx hb dX12_count_49 rfl (lv_at hl 0 rfl) ?_
    refine h_get (v := .int (I0 a0 13)) hx hb hts iX12 hown g t_a0 (by decide) so_13 rfl 13 (by decide) (hts (.fieldLink RX12 202 "CapLeagueModel" "players" "I") (by decide +kernel)) rfl dX12_count_50 rfl ?_
    refine lv_topi (fun v3 ev3 => ?_)
    have jv3 := hI.rd a0 13 t_a0 ev3 (rfl : h_bd 13 13 = (0, 60))
    exact W.iret (v := v3) hx hb hr (fun t ht hW => ⟨v3, rfl, trivial, ht⟩) (fun _ h => by cases h) dX12_count_53
  · refine lv_tableIn (off := 53) (tgt := 54) hx hb dX12_count_1 (by omega) (by omega) (by rw [show (x.toInt - 0).toNat = 2 by omega]; rfl) (by decide) ?_
    refine lv_aload_n hx hb dX12_count_54 rfl (lv_at hl 0 rfl) ?_
    refine h_get (v := .int (I0 a0 33)) hx hb hts iX12 hown g t_a0 (by decide) so_13 rfl 33 (by decide) (hts (.fieldLink RX12 247 "CapLeagueModel" "moves" "I") (by decide +kernel)) rfl dX12_count_55 rfl ?_
    refine lv_topi (fun v4 ev4 => ?_)
    have jv4 := hI.rd a0 33 t_a0 ev4 (rfl : h_bd 13 33 = (0, 12))
    exact W.iret (v := v4) hx hb hr (fun t ht hW => ⟨v4, rfl, trivial, ht⟩) (fun _ h => by cases h) dX12_count_58
  · refine lv_tableIn (off := 58) (tgt := 59) hx hb dX12_count_1 (by omega) (by omega) (by rw [show (x.toInt - 0).toNat = 3 by omega]; rfl) (by decide) ?_
    refine lv_aload_n hx hb dX12_count_59 rfl (lv_at hl 0 rfl) ?_
    refine h_get (v := .int (I0 a0 50)) hx hb hts iX12 hown g t_a0 (by decide) so_13 rfl 50 (by decide) (hts (.fieldLink RX12 329 "CapLeagueModel" "league" "I") (by decide +kernel)) rfl dX12_count_60 rfl ?_
    refine lv_topi (fun v5 ev5 => ?_)
    have jv5 := hI.rd a0 50 t_a0 ev5 (rfl : h_bd 13 50 = ((-2147483648), 2147483647))
    exact W.iret (v := v5) hx hb hr (fun t ht hW => ⟨v5, rfl, trivial, ht⟩) (fun _ h => by cases h) dX12_count_63
  · refine lv_tableIn (off := 63) (tgt := 64) hx hb dX12_count_1 (by omega) (by omega) (by rw [show (x.toInt - 0).toNat = 4 by omega]; rfl) (by decide) ?_
    refine lv_aload_n hx hb dX12_count_64 rfl (lv_at hl 0 rfl) ?_
    refine h_get (v := .int (I0 a0 1)) hx hb hts iX12 hown g t_a0 (by decide) so_13 rfl 1 (by decide) (hts (.fieldLink RX12 119 "CapLeagueModel" "taped" "I") (by decide +kernel)) rfl dX12_count_65 rfl ?_
    refine lv_topi (fun v6 ev6 => ?_)
    have jv6 := hI.rd a0 1 t_a0 ev6 (rfl : h_bd 13 1 = (0, 500))
    exact W.iret (v := v6) hx hb hr (fun t ht hW => ⟨v6, rfl, trivial, ht⟩) (fun _ h => by cases h) dX12_count_68
  · refine lv_tableIn (off := 68) (tgt := 69) hx hb dX12_count_1 (by omega) (by omega) (by rw [show (x.toInt - 0).toNat = 5 by omega]; rfl) (by decide) ?_
    refine lv_aload_n hx hb dX12_count_69 rfl (lv_at hl 0 rfl) ?_
    refine h_get (v := .int (I0 a0 30)) hx hb hts iX12 hown g t_a0 (by decide) so_13 rfl 30 (by decide) (hts (.fieldLink RX12 306 "CapLeagueModel" "hasTable" "Z") (by decide +kernel)) rfl dX12_count_70 rfl ?_
    refine lv_topi (fun v7 ev7 => ?_)
    have jv7 := hI.rd a0 30 t_a0 ev7 (rfl : h_bd 13 30 = (0, 1))
    refine lv_if_eq (tgt := 80) hx hb dX12_count_73 (by decide) (fun c8 => ?_) (fun c8 => ?_)
    · have ic8 := (xi_eq c8 rfl (by decide) : v7.toInt = 0)
      refine lv_iconst (v := 0) hx hb dX12_count_80 (by decide) ?_
      exact W.iret (v := 0) hx hb hr (fun t ht hW => ⟨0, rfl, trivial, ht⟩) (fun _ h => by cases h) dX12_count_81
    · have ic8 := (xi_ne c8 rfl (by decide) : v7.toInt ≠ 0)
      refine lv_iconst (v := 1) hx hb dX12_count_76 (by decide) ?_
      refine lv_goto (tgt := 81) hx hb dX12_count_77 (by decide) ?_
      exact W.iret (v := 1) hx hb hr (fun t ht hW => ⟨1, rfl, trivial, ht⟩) (fun _ h => by cases h) dX12_count_81
  · refine lv_tableIn (off := 81) (tgt := 82) hx hb dX12_count_1 (by omega) (by omega) (by rw [show (x.toInt - 0).toNat = 6 by omega]; rfl) (by decide) ?_
    refine lv_aload_n hx hb dX12_count_82 rfl (lv_at hl 0 rfl) ?_
    refine h_get (v := .int (I0 a0 31)) hx hb hts iX12 hown g t_a0 (by decide) so_13 rfl 31 (by decide) (hts (.fieldLink RX12 264 "CapLeagueModel" "isDrawn" "Z") (by decide +kernel)) rfl dX12_count_83 rfl ?_
    refine lv_topi (fun v9 ev9 => ?_)
    have jv9 := hI.rd a0 31 t_a0 ev9 (rfl : h_bd 13 31 = (0, 1))
    refine lv_if_eq (tgt := 93) hx hb dX12_count_86 (by decide) (fun c10 => ?_) (fun c10 => ?_)
    · have ic10 := (xi_eq c10 rfl (by decide) : v9.toInt = 0)
      refine lv_iconst (v := 0) hx hb dX12_count_93 (by decide) ?_
      exact W.iret (v := 0) hx hb hr (fun t ht hW => ⟨0, rfl, trivial, ht⟩) (fun _ h => by cases h) dX12_count_94
    · have ic10 := (xi_ne c10 rfl (by decide) : v9.toInt ≠ 0)
      refine lv_iconst (v := 1) hx hb dX12_count_89 (by decide) ?_
      refine lv_goto (tgt := 94) hx hb dX12_count_90 (by decide) ?_
      exact W.iret (v := 1) hx hb hr (fun t ht hW => ⟨1, rfl, trivial, ht⟩) (fun _ h => by cases h) dX12_count_94
