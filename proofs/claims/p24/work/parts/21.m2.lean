set_option maxHeartbeats 4000000 in
set_option maxRecDepth 100000 in
theorem tX12_lawOf (l : Launch) (E : tE) (X : tX) (A : Nat → Prop) (z : tZ) (I0 : tI) (L0 : tL) (a0 : Nat) (t_a0 : z.ty a0 = 13) (y : Int32) (y_t : Int) (h_y : y.toInt = y_t) (b_y : 0 ≤ y_t ∧ y_t ≤ 9) (k : Int32) (k_t : Int) (h_k : k.toInt = k_t) (b_k : 0 ≤ k_t ∧ k_t ≤ 15) : Met l yX12_lawOf wsX12_lawOf ({ frames := 1, cells := 0, slots := 0, locals := 64 }) (va_Pc [.ref a0, .int y, .int k] (h_P E X A z I0 L0)) (vp_Si (fun r => True)) 0 0 (fun _ => False) := by
  refine Met.ofW (cc := cX12_lawOf) (maxL := 4) (ret := (some .int)) (by decide) rfl ?_
  intro pr_ ev_ s m args below meth cd_ s₁ B hml hv
  obtain ⟨rfl, hE, hk, hX, hA, hK, hI, hR, hB0⟩ := hv
  have g : h_G h_so h_fk E A z I0 L0 s s.heap s.heap [] := ⟨hK, va_S.rf, hB0⟩
  have hx := B.exec
  have hb := B.bytes
  have hr := B.returns
  have hts := atoms_spec (ws := wsX12_lawOf) B.pre
  have hown : s.vm.findClass RX12 = some m.cls := findClass_of_methodNamed B.named
  have hlocks := B.notSynchronized
  have iX12 : ∀ w ∈ u_ws RX12 TX12 51, w ∈ wsX12_lawOf := by decide +kernel
  have hl := lv_entry ([.ref a0, .int y, .int k]) (n := 4) (Nat.le_of_ble_eq_true rfl)
  rw [lg_entry_eq]
  generalize (lg_sl ([.ref a0, .int y, .int k]) ++ List.replicate (4 - (lg_sl ([.ref a0, .int y, .int k])).length) Slot.unset).toArray = ls at hl ⊢
  have hl : lv_has ls 4 [(0, .ref a0), (1, .int y), (2, .int k)] := hl
  refine lv_iload_n hx hb dX12_lawOf_0 rfl (lv_at hl 1 rfl) ?_
  refine lv_istore_n (lv' := [(3, .int y), (0, .ref a0), (1, .int y), (2, .int k)]) hx hb dX12_lawOf_1 rfl hl (by decide) rfl (fun ls hl => ?_)
  have loop2_0 : ∀ (n : Nat) (ls : Array Slot) (v1 : Int32), lv_has ls 4 [(0, .ref a0), (2, .int k), (3, .int v1)] → ((-1) ≤ v1.toInt ∧ v1.toInt ≤ 9) → (v1.toInt + 2) < (n : Int) → W pr_ l ev_ (headSpec wsX12_lawOf ({ frames := 1, cells := 0, slots := 0, locals := 64 })).room s m ([.ref a0, .int y, .int k] : List Value).toArray below meth cd_ s.heap [] 0 0 (MQ below (vp_Si (fun r => True)) ([.ref a0, .int y, .int k] : List Value).toArray s 0 0 (fun _ => False)) (F0 m 2 ls []) := by
    intro n
    induction n with
    | zero => intro ls v1 hl jv1 hn; exact absurd hn (by omega)
    | succ n ih2 =>
      intro ls v1 hl jv1 hn
      refine lv_iload_n hx hb dX12_lawOf_2 rfl (lv_at hl 2 rfl) ?_
      refine lv_if_lt (tgt := 21) hx hb dX12_lawOf_3 (by decide) (fun c2 => ?_) (fun c2 => ?_)
      · have ic2 := (xi_lt c2 rfl (by decide) : v1.toInt < 0)
        refine lv_aload_n hx hb dX12_lawOf_21 rfl (lv_at hl 0 rfl) ?_
        obtain ⟨b3, rb3, tb3⟩ := hR.at a0 10 t_a0 (rfl : h_rs 13 10 = some (1310, false)) (by decide)
        refine h_get (v := .ref b3) hx hb hts iX12 hown g t_a0 (by decide) so_13 rfl 10 (by decide) (hts (.fieldLink RX12 17 "CapLeagueModel" "laws" "[I") (by decide +kernel)) rfl dX12_lawOf_22 (by show va_rf (z.R a0 10) = _; rw [rb3]; rfl) ?_
        refine lv_bipush (v := 16) hx hb dX12_lawOf_25 (by decide) ?_
        refine lv_iload_n hx hb dX12_lawOf_27 rfl (lv_at hl 2 rfl) ?_
        refine lv_if_ge (tgt := 36) hx hb dX12_lawOf_28 (by decide) (fun h => absurd (xi_le h (by decide) rfl : 0 ≤ v1.toInt) (by omega)) (fun c4 => ?_)
        have ic4 := (xi_nle c4 (by decide) rfl : v1.toInt < 0)
        refine lv_bipush (v := 11) hx hb dX12_lawOf_31 (by decide) ?_
        refine lv_goto (tgt := 37) hx hb dX12_lawOf_33 (by decide) ?_
        refine lv_imul hx hb dX12_lawOf_37 ?_
        refine xw_i (v := 176) (by decide) ?_
        refine lv_iload_n hx hb dX12_lawOf_38 rfl (lv_at hl 1 rfl) ?_
        refine lv_iadd hx hb dX12_lawOf_39 ?_
        refine lv_topi (fun v5 ev5 => ?_)
        have jv5 : v5.toInt = 176 + k_t := xi_add ev5 (by decide) h_k (by omega) (by omega)
        refine h_ald hx hb g tb3 (by decide) so_1310 (xi_in (by omega) (by omega)) dX12_lawOf_40 ?_
        refine lv_topi (fun v6 ev6 => ?_)
        have kv6 := h_lwr hI tb3 (k := v5.toInt) rfl ev6 (by omega)
        have jv6 : -2147483648 ≤ v6.toInt ∧ v6.toInt ≤ 2147483647 := ⟨xi_lo _, Int.le_of_lt_add_one (xi_hi _)⟩
        exact W.iret (v := v6) hx hb hr (fun t ht hW => ⟨v6, rfl, trivial, ht⟩) (fun _ h => by cases h) dX12_lawOf_41
      · have ic2 := (xi_nlt c2 rfl (by decide) : 0 ≤ v1.toInt)
        refine lv_aload_n hx hb dX12_lawOf_6 rfl (lv_at hl 0 rfl) ?_
        obtain ⟨b7, rb7, tb7⟩ := hR.at a0 11 t_a0 (rfl : h_rs 13 11 = some (1311, false)) (by decide)
        refine h_get (v := .ref b7) hx hb hts iX12 hown g t_a0 (by decide) so_13 rfl 11 (by decide) (hts (.fieldLink RX12 21 "CapLeagueModel" "hasLaws" "[Z") (by decide +kernel)) rfl dX12_lawOf_7 (by show va_rf (z.R a0 11) = _; rw [rb7]; rfl) ?_
        refine lv_iload_n hx hb dX12_lawOf_10 rfl (lv_at hl 2 rfl) ?_
        refine h_zald hx hb g tb7 (by decide) so_1311 (xi_in (by omega) (by omega)) dX12_lawOf_11 ?_
        refine lv_topi (fun v8 ev8 => ?_)
        have jv8 := hI.rd b7 v1.toNatClampNeg tb7 ev8 (rfl : h_bd 1311 _ = (0, 1))
        refine lv_if_ne (tgt := 21) hx hb dX12_lawOf_12 (by decide) (fun c9 => ?_) (fun c9 => ?_)
        · have ic9 := (xi_ne c9 rfl (by decide) : v8.toInt ≠ 0)
          refine lv_aload_n hx hb dX12_lawOf_21 rfl (lv_at hl 0 rfl) ?_
          obtain ⟨b10, rb10, tb10⟩ := hR.at a0 10 t_a0 (rfl : h_rs 13 10 = some (1310, false)) (by decide)
          refine h_get (v := .ref b10) hx hb hts iX12 hown g t_a0 (by decide) so_13 rfl 10 (by decide) (hts (.fieldLink RX12 17 "CapLeagueModel" "laws" "[I") (by decide +kernel)) rfl dX12_lawOf_22 (by show va_rf (z.R a0 10) = _; rw [rb10]; rfl) ?_
          refine lv_bipush (v := 16) hx hb dX12_lawOf_25 (by decide) ?_
          refine lv_iload_n hx hb dX12_lawOf_27 rfl (lv_at hl 2 rfl) ?_
          refine lv_if_ge (tgt := 36) hx hb dX12_lawOf_28 (by decide) (fun c11 => ?_) (fun h => absurd (xi_nle h (by decide) rfl : v1.toInt < 0) (by omega))
          have ic11 := (xi_le c11 (by decide) rfl : 0 ≤ v1.toInt)
          refine lv_iload_n hx hb dX12_lawOf_36 rfl (lv_at hl 2 rfl) ?_
          refine lv_imul hx hb dX12_lawOf_37 ?_
          refine lv_topi (fun v12 ev12 => ?_)
          have jv12 : v12.toInt = 16 * v1.toInt := xi_mul ev12 (by decide) rfl (by omega) (by omega)
          refine lv_iload_n hx hb dX12_lawOf_38 rfl (lv_at hl 1 rfl) ?_
          refine lv_iadd hx hb dX12_lawOf_39 ?_
          refine lv_topi (fun v13 ev13 => ?_)
          have jv13 : v13.toInt = v12.toInt + k_t := xi_add ev13 rfl h_k (by omega) (by omega)
          refine h_ald hx hb g tb10 (by decide) so_1310 (xi_in (by omega) (by omega)) dX12_lawOf_40 ?_
          refine lv_topi (fun v14 ev14 => ?_)
          have kv14 := h_lwr hI tb10 (k := v13.toInt) rfl ev14 (by omega)
          have jv14 : -2147483648 ≤ v14.toInt ∧ v14.toInt ≤ 2147483647 := ⟨xi_lo _, Int.le_of_lt_add_one (xi_hi _)⟩
          exact W.iret (v := v14) hx hb hr (fun t ht hW => ⟨v14, rfl, trivial, ht⟩) (fun _ h => by cases h) dX12_lawOf_41
        · have ic9 := (xi_eq c9 rfl (by decide) : v8.toInt = 0)
          obtain ⟨v15, ev15⟩ : ∃ z : Int32, z = v1 + (-1) := ⟨_, rfl⟩
          have jv15 : v15.toInt = v1.toInt + (-1) := xi_add ev15 rfl (by decide) (by omega) (by omega)
          refine lv_iinc (v := v15) (lv' := [(3, .int v15), (0, .ref a0), (2, .int k)]) hx hb dX12_lawOf_15 hl (k := 2) rfl (by rw [ev15]; rfl) (by decide) rfl (fun ls hl => ?_)
          refine lv_goto (tgt := 2) hx hb dX12_lawOf_18 (by decide) ?_
          exact ih2 _ v15 (lv_sub hl [1, 2, 0] rfl) (by omega) (by omega)
  exact loop2_0 _ _ y (lv_sub hl [1, 3, 0] rfl) (by rw [h_y]; omega) (show (y.toInt + 2) < (((y.toInt + 2).toNat + 1 : Nat) : Int) by omega)
set_option maxHeartbeats 4000000 in
set_option maxRecDepth 100000 in
theorem tX12_countOf (l : Launch) (E : tE) (X : tX) (A : Nat → Prop) (z : tZ) (I0 : tI) (L0 : tL) (a0 : Nat) (t_a0 : z.ty a0 = 13) (p : Int32) (p_t : Int) (h_p : p.toInt = p_t) (b_p : 0 ≤ p_t ∧ p_t ≤ 59) (y : Int32) (y_t : Int) (h_y : y.toInt = y_t) : Met l yX12_countOf wsX12_countOf ({ frames := 3, cells := 0, slots := 0, locals := 192 }) (va_Pc [.ref a0, .int p, .int y] (h_P E X A z I0 L0)) (vp_Si (fun r => True)) 0 0 (fun _ => False) := by
  refine Met.ofW (cc := cX12_countOf) (maxL := 4) (ret := (some .int)) (by decide) rfl ?_
  intro pr_ ev_ s m args below meth cd_ s₁ B hml hv
  obtain ⟨rfl, hE, hk, hX, hA, hK, hI, hR, hB0⟩ := hv
  have g : h_G h_so h_fk E A z I0 L0 s s.heap s.heap [] := ⟨hK, va_S.rf, hB0⟩
  have hx := B.exec
  have hb := B.bytes
  have hr := B.returns
  have hts := atoms_spec (ws := wsX12_countOf) B.pre
  have hown : s.vm.findClass RX12 = some m.cls := findClass_of_methodNamed B.named
  have hlocks := B.notSynchronized
  have iX12 : ∀ w ∈ u_ws RX12 TX12 51, w ∈ wsX12_countOf := by decide +kernel
  have hl := lv_entry ([.ref a0, .int p, .int y]) (n := 4) (Nat.le_of_ble_eq_true rfl)
  rw [lg_entry_eq]
  generalize (lg_sl ([.ref a0, .int p, .int y]) ++ List.replicate (4 - (lg_sl ([.ref a0, .int p, .int y])).length) Slot.unset).toArray = ls at hl ⊢
  have hl : lv_has ls 4 [(0, .ref a0), (1, .int p), (2, .int y)] := hl
  have b_y : -2147483648 ≤ y_t ∧ y_t ≤ 2147483647 := h_y ▸ ⟨xi_lo y, Int.le_of_lt_add_one (xi_hi y)⟩
  refine lv_aload_n hx hb dX12_countOf_0 rfl (lv_at hl 0 rfl) ?_
  refine lv_iload_n hx hb dX12_countOf_1 rfl (lv_at hl 1 rfl) ?_
  refine lv_iload_n hx hb dX12_countOf_2 rfl (lv_at hl 2 rfl) ?_
  refine vp_callSi (W.runV (As := [.int p, .int y]) (rest := []) ⟨hx, hb, hml, hown, hts⟩ (tX12_isUnder l E X A z I0 L0 a0 t_a0 p (p_t) h_p (by omega) y (y_t) h_y) (cwV 2 hts gX12_countOf_X12_isUnder rfl rfl rfl (by decide +kernel) ⟨Nat.le_of_ble_eq_true rfl, Nat.le_of_ble_eq_true rfl⟩) ⟨h_blind _ _ _ _ _ _ _, h_recv g t_a0 (by decide) so_13 (q := (RX12, TX12, 51)) rfl, h_pre _ hE hk hX hA hI hR g⟩ rfl rfl hl.1 rfl (lv_room (Nat.le_of_ble_eq_true rfl)) dX12_countOf_3 ⟨Nat.le_of_ble_eq_true rfl, Nat.le_of_ble_eq_true rfl⟩) (fun rh1 h1 => ?_)
  refine lv_if_ne (tgt := 11) hx hb dX12_countOf_6 (by decide) (fun c2 => ?_) (fun c2 => ?_)
  · have ic2 := (xi_ne c2 rfl (by decide) : rh1.toInt ≠ 0)
    refine lv_aload_n hx hb dX12_countOf_11 rfl (lv_at hl 0 rfl) ?_
    refine lv_iload_n hx hb dX12_countOf_12 rfl (lv_at hl 1 rfl) ?_
    refine lv_iload_n hx hb dX12_countOf_13 rfl (lv_at hl 2 rfl) ?_
    refine vp_callSi (W.runV (As := [.int p, .int y]) (rest := []) ⟨hx, hb, hml, hown, hts⟩ (tX12_payOf l E X A z I0 L0 a0 t_a0 p (p_t) h_p (by omega) y (y_t) h_y) (cwV 2 hts gX12_countOf_X12_payOf rfl rfl rfl (by decide +kernel) ⟨Nat.le_of_ble_eq_true rfl, Nat.le_of_ble_eq_true rfl⟩) ⟨h_blind _ _ _ _ _ _ _, h_recv g t_a0 (by decide) so_13 (q := (RX12, TX12, 51)) rfl, h_pre _ hE hk hX hA hI hR g⟩ rfl rfl hl.1 rfl (lv_room (Nat.le_of_ble_eq_true rfl)) dX12_countOf_14 ⟨Nat.le_of_ble_eq_true rfl, Nat.le_of_ble_eq_true rfl⟩) (fun rh3 h3 => ?_)
    have jrh3 : -2147483648 ≤ rh3.toInt ∧ rh3.toInt ≤ 2147483647 := ⟨xi_lo _, Int.le_of_lt_add_one (xi_hi _)⟩
    refine lv_istore_n (lv' := [(3, .int rh3), (0, .ref a0), (1, .int p), (2, .int y)]) hx hb dX12_countOf_17 rfl hl (by decide) rfl (fun ls hl => ?_)
    refine lv_aload_n hx hb dX12_countOf_18 rfl (lv_at hl 1 rfl) ?_
    obtain ⟨b4, rb4, tb4⟩ := hR.at a0 22 t_a0 (rfl : h_rs 13 22 = some (1322, false)) (by decide)
    refine h_get (v := .ref b4) hx hb hts iX12 hown g t_a0 (by decide) so_13 rfl 22 (by decide) (hts (.fieldLink RX12 49 "CapLeagueModel" "isHurt" "[Z") (by decide +kernel)) rfl dX12_countOf_19 (by show va_rf (z.R a0 22) = _; rw [rb4]; rfl) ?_
    refine lv_iload_n hx hb dX12_countOf_22 rfl (lv_at hl 2 rfl) ?_
    refine h_zald hx hb g tb4 (by decide) so_1322 (xi_in (by rw [h_p]; omega) (by rw [h_p]; omega)) dX12_countOf_23 ?_
    refine lv_topi (fun v5 ev5 => ?_)
    have jv5 := hI.rd b4 p.toNatClampNeg tb4 ev5 (rfl : h_bd 1322 _ = (0, 1))
    refine lv_if_eq (tgt := 52) hx hb dX12_countOf_24 (by decide) (fun c6 => ?_) (fun c6 => ?_)
    · have ic6 := (xi_eq c6 rfl (by decide) : v5.toInt = 0)
      refine lv_iload_n hx hb dX12_countOf_52 rfl (lv_at hl 0 rfl) ?_
      exact W.iret (v := rh3) hx hb hr (fun t ht hW => ⟨rh3, rfl, trivial, ht⟩) (fun _ h => by cases h) dX12_countOf_53
    · have ic6 := (xi_ne c6 rfl (by decide) : v5.toInt ≠ 0)
      refine lv_iload_n hx hb dX12_countOf_27 rfl (lv_at hl 3 rfl) ?_
      refine lv_aload_n hx hb dX12_countOf_28 rfl (lv_at hl 1 rfl) ?_
      refine h_get (v := .int (I0 a0 12)) hx hb hts iX12 hown g t_a0 (by decide) so_13 rfl 12 (by decide) (hts (.fieldLink RX12 187 "CapLeagueModel" "clock" "I") (by decide +kernel)) rfl dX12_countOf_29 rfl ?_
      refine lv_topi (fun v7 ev7 => ?_)
      have jv7 := hI.rd a0 12 t_a0 ev7 (rfl : h_bd 13 12 = (0, 9))
      refine lv_icmp_ne (tgt := 52) hx hb dX12_countOf_32 (by decide) (fun c8 => ?_) (fun c8 => ?_)
      · have ic8 := (xi_ne c8 h_y rfl : y_t ≠ v7.toInt)
        refine lv_iload_n hx hb dX12_countOf_52 rfl (lv_at hl 0 rfl) ?_
        exact W.iret (v := rh3) hx hb hr (fun t ht hW => ⟨rh3, rfl, trivial, ht⟩) (fun _ h => by cases h) dX12_countOf_53
      · have ic8 := (xi_eq c8 h_y rfl : y_t = v7.toInt)
        refine lv_iload_n hx hb dX12_countOf_35 rfl (lv_at hl 0 rfl) ?_
        refine lv_iload_n hx hb dX12_countOf_36 rfl (lv_at hl 0 rfl) ?_
        refine lv_aload_n hx hb dX12_countOf_37 rfl (lv_at hl 1 rfl) ?_
        refine lv_iload_n hx hb dX12_countOf_38 rfl (lv_at hl 3 rfl) ?_
        refine lv_bipush (v := 6) hx hb dX12_countOf_39 (by decide) ?_
        refine vp_callSi (W.runV (As := [.int y, .int 6]) (rest := [.int rh3, .int rh3]) ⟨hx, hb, hml, hown, hts⟩ (tX12_lawOf l E X A z I0 L0 a0 t_a0 y (y_t) h_y (by omega) 6 (6) (by decide) (by omega)) (cwV 2 hts gX12_countOf_X12_lawOf rfl rfl rfl (by decide +kernel) ⟨Nat.le_of_ble_eq_true rfl, Nat.le_of_ble_eq_true rfl⟩) ⟨h_blind _ _ _ _ _ _ _, h_recv g t_a0 (by decide) so_13 (q := (RX12, TX12, 51)) rfl, h_pre _ hE hk hX hA hI hR g⟩ rfl rfl hl.1 rfl (lv_room (Nat.le_of_ble_eq_true rfl)) dX12_countOf_41 ⟨Nat.le_of_ble_eq_true rfl, Nat.le_of_ble_eq_true rfl⟩) (fun rh9 h9 => ?_)
        have jrh9 : -2147483648 ≤ rh9.toInt ∧ rh9.toInt ≤ 2147483647 := ⟨xi_lo _, Int.le_of_lt_add_one (xi_hi _)⟩
        refine lv_imul hx hb dX12_countOf_44 ?_
        refine lv_topi (fun v10 ev10 => ?_)
        have jv10 : -2147483648 ≤ v10.toInt ∧ v10.toInt ≤ 2147483647 := ⟨xi_lo _, Int.le_of_lt_add_one (xi_hi _)⟩
        refine lv_bipush (v := 100) hx hb dX12_countOf_45 (by decide) ?_
        refine lv_idiv hx hb dX12_countOf_47 (by decide) ?_
        refine lv_topi (fun v11 ev11 => ?_)
        have jv11 : -2147483648 ≤ v11.toInt ∧ v11.toInt ≤ 2147483647 := ⟨xi_lo _, Int.le_of_lt_add_one (xi_hi _)⟩
        refine lv_isub hx hb dX12_countOf_48 ?_
        refine lv_topi (fun v12 ev12 => ?_)
        have jv12 : -2147483648 ≤ v12.toInt ∧ v12.toInt ≤ 2147483647 := ⟨xi_lo _, Int.le_of_lt_add_one (xi_hi _)⟩
        refine lv_goto (tgt := 53) hx hb dX12_countOf_49 (by decide) ?_
        exact W.iret (v := v12) hx hb hr (fun t ht hW => ⟨v12, rfl, trivial, ht⟩) (fun _ h => by cases h) dX12_countOf_53
  · have ic2 := (xi_eq c2 rfl (by decide) : rh1.toInt = 0)
    refine lv_iconst (v := 0) hx hb dX12_countOf_9 (by decide) ?_
    exact W.iret (v := 0) hx hb hr (fun t ht hW => ⟨0, rfl, trivial, ht⟩) (fun _ h => by cases h) dX12_countOf_10
set_option maxHeartbeats 4000000 in
set_option maxRecDepth 100000 in
theorem tX12_counts (l : Launch) (E : tE) (X : tX) (A : Nat → Prop) (z : tZ) (I0 : tI) (L0 : tL) (a0 : Nat) (t_a0 : z.ty a0 = 13) (c : Int32) (c_t : Int) (h_c : c.toInt = c_t) (b_c : 0 ≤ c_t ∧ c_t ≤ 7) (y : Int32) (y_t : Int) (h_y : y.toInt = y_t) (b_y : 0 ≤ y_t ∧ y_t ≤ 9) : Met l yX12_counts wsX12_counts ({ frames := 4, cells := 0, slots := 0, locals := 256 }) (va_Pc [.ref a0, .int c, .int y] (h_P E X A z I0 L0)) (vp_Si (fun r => True)) 0 0 (fun _ => False) := by
  refine Met.ofW (cc := cX12_counts) (maxL := 5) (ret := (some .int)) (by decide) rfl ?_
  intro pr_ ev_ s m args below meth cd_ s₁ B hml hv
  obtain ⟨rfl, hE, hk, hX, hA, hK, hI, hR, hB0⟩ := hv
  have g : h_G h_so h_fk E A z I0 L0 s s.heap s.heap [] := ⟨hK, va_S.rf, hB0⟩
  have hx := B.exec
  have hb := B.bytes
  have hr := B.returns
  have hts := atoms_spec (ws := wsX12_counts) B.pre
  have hown : s.vm.findClass RX12 = some m.cls := findClass_of_methodNamed B.named
  have hlocks := B.notSynchronized
  have iX12 : ∀ w ∈ u_ws RX12 TX12 51, w ∈ wsX12_counts := by decide +kernel
  have hl := lv_entry ([.ref a0, .int c, .int y]) (n := 5) (Nat.le_of_ble_eq_true rfl)
  rw [lg_entry_eq]
  generalize (lg_sl ([.ref a0, .int c, .int y]) ++ List.replicate (5 - (lg_sl ([.ref a0, .int c, .int y])).length) Slot.unset).toArray = ls at hl ⊢
  have hl : lv_has ls 5 [(0, .ref a0), (1, .int c), (2, .int y)] := hl
  refine lv_aload_n hx hb dX12_counts_0 rfl (lv_at hl 0 rfl) ?_
  obtain ⟨b1, rb1, tb1⟩ := hR.at a0 23 t_a0 (rfl : h_rs 13 23 = some (1323, false)) (by decide)
  refine h_get (v := .ref b1) hx hb hts iX12 hown g t_a0 (by decide) so_13 rfl 23 (by decide) (hts (.fieldLink RX12 52 "CapLeagueModel" "dead" "[I") (by decide +kernel)) rfl dX12_counts_1 (by show va_rf (z.R a0 23) = _; rw [rb1]; rfl) ?_
  refine lv_bipush (v := 10) hx hb dX12_counts_4 (by decide) ?_
  refine lv_iload_n hx hb dX12_counts_6 rfl (lv_at hl 1 rfl) ?_
  refine lv_imul hx hb dX12_counts_7 ?_
  refine lv_topi (fun v2 ev2 => ?_)
  have jv2 : v2.toInt = 10 * c_t := xi_mul ev2 (by decide) h_c (by omega) (by omega)
  refine lv_iload_n hx hb dX12_counts_8 rfl (lv_at hl 2 rfl) ?_
  refine lv_iadd hx hb dX12_counts_9 ?_
  refine lv_topi (fun v3 ev3 => ?_)
  have jv3 : v3.toInt = v2.toInt + y_t := xi_add ev3 rfl h_y (by omega) (by omega)
  refine h_ald hx hb g tb1 (by decide) so_1323 (xi_in (by omega) (by omega)) dX12_counts_10 ?_
  refine lv_topi (fun v4 ev4 => ?_)
  have jv4 := hI.rd b1 v3.toNatClampNeg tb1 ev4 (rfl : h_bd 1323 _ = ((-2147483648), 2147483647))
  refine lv_istore_n (lv' := [(3, .int v4), (0, .ref a0), (1, .int c), (2, .int y)]) hx hb dX12_counts_11 rfl hl (by decide) rfl (fun ls hl => ?_)
  refine lv_iconst (v := 0) hx hb dX12_counts_12 (by decide) ?_
  refine lv_istore (lv' := [(4, .int 0), (3, .int v4), (0, .ref a0), (1, .int c), (2, .int y)]) hx hb dX12_counts_13 hl (by decide) rfl (fun ls hl => ?_)
  have loop15_0 : ∀ (n : Nat) (ls : Array Slot) (v5 v6 : Int32), lv_has ls 5 [(0, .ref a0), (1, .int c), (2, .int y), (3, .int v5), (4, .int v6)] → ((-2147483648) ≤ v5.toInt ∧ v5.toInt ≤ 2147483647) → (0 ≤ v6.toInt ∧ v6.toInt ≤ 60) → (60 - v6.toInt) < (n : Int) → W pr_ l ev_ (headSpec wsX12_counts ({ frames := 4, cells := 0, slots := 0, locals := 256 })).room s m ([.ref a0, .int c, .int y] : List Value).toArray below meth cd_ s.heap [] 0 0 (MQ below (vp_Si (fun r => True)) ([.ref a0, .int c, .int y] : List Value).toArray s 0 0 (fun _ => False)) (F0 m 15 ls []) := by
    intro n
    induction n with
    | zero => intro ls v5 v6 hl jv5 jv6 hn; exact absurd hn (by omega)
    | succ n ih15 =>
      intro ls v5 v6 hl jv5 jv6 hn
      refine lv_iload hx hb dX12_counts_15 (lv_at hl 4 rfl) ?_
      refine lv_aload_n hx hb dX12_counts_17 rfl (lv_at hl 0 rfl) ?_
      refine h_get (v := .int (I0 a0 13)) hx hb hts iX12 hown g t_a0 (by decide) so_13 rfl 13 (by decide) (hts (.fieldLink RX12 202 "CapLeagueModel" "players" "I") (by decide +kernel)) rfl dX12_counts_18 rfl ?_
      refine lv_topi (fun v7 ev7 => ?_)
      have jv7 := hI.rd a0 13 t_a0 ev7 (rfl : h_bd 13 13 = (0, 60))
      refine lv_icmp_ge (tgt := 55) hx hb dX12_counts_21 (by decide) (fun c8 => ?_) (fun c8 => ?_)
      · have ic8 := (xi_le c8 rfl rfl : v7.toInt ≤ v6.toInt)
        refine lv_iload_n hx hb dX12_counts_55 rfl (lv_at hl 3 rfl) ?_
        exact W.iret (v := v5) hx hb hr (fun t ht hW => ⟨v5, rfl, trivial, ht⟩) (fun _ h => by cases h) dX12_counts_56
      · have ic8 := (xi_nle c8 rfl rfl : v6.toInt < v7.toInt)
        refine lv_iload_n hx hb dX12_counts_24 rfl (lv_at hl 3 rfl) ?_
        refine lv_aload_n hx hb dX12_counts_25 rfl (lv_at hl 0 rfl) ?_
        obtain ⟨b9, rb9, tb9⟩ := hR.at a0 14 t_a0 (rfl : h_rs 13 14 = some (1314, false)) (by decide)
        refine h_get (v := .ref b9) hx hb hts iX12 hown g t_a0 (by decide) so_13 rfl 14 (by decide) (hts (.fieldLink RX12 25 "CapLeagueModel" "clubOf" "[I") (by decide +kernel)) rfl dX12_counts_26 (by show va_rf (z.R a0 14) = _; rw [rb9]; rfl) ?_
        refine lv_iload hx hb dX12_counts_29 (lv_at hl 4 rfl) ?_
        refine h_ald hx hb g tb9 (by decide) so_1314 (xi_in (by omega) (by omega)) dX12_counts_31 ?_
        refine lv_topi (fun v10 ev10 => ?_)
        have jv10 := hI.rd b9 v6.toNatClampNeg tb9 ev10 (rfl : h_bd 1314 _ = ((-1), 7))
        refine lv_iload_n hx hb dX12_counts_32 rfl (lv_at hl 1 rfl) ?_
        refine lv_icmp_ne (tgt := 46) hx hb dX12_counts_33 (by decide) (fun c11 => ?_) (fun c11 => ?_)
        · have ic11 := (xi_ne c11 rfl h_c : v10.toInt ≠ c_t)
          refine lv_iconst (v := 0) hx hb dX12_counts_46 (by decide) ?_
          refine lv_iadd hx hb dX12_counts_47 ?_
          refine lv_topi (fun v12 ev12 => ?_)
          have jv12 : v12.toInt = v5.toInt + 0 := xi_add ev12 rfl (by decide) (by omega) (by omega)
          refine lv_istore_n (lv' := [(3, .int v12), (0, .ref a0), (1, .int c), (2, .int y), (4, .int v6)]) hx hb dX12_counts_48 rfl hl (by decide) rfl (fun ls hl => ?_)
          obtain ⟨v13, ev13⟩ : ∃ z : Int32, z = v6 + 1 := ⟨_, rfl⟩
          have jv13 : v13.toInt = v6.toInt + 1 := xi_add ev13 rfl (by decide) (by omega) (by omega)
          refine lv_iinc (v := v13) (lv' := [(4, .int v13), (3, .int v12), (0, .ref a0), (1, .int c), (2, .int y)]) hx hb dX12_counts_49 hl (k := 4) rfl (by rw [ev13]; rfl) (by decide) rfl (fun ls hl => ?_)
          refine lv_goto (tgt := 15) hx hb dX12_counts_52 (by decide) ?_
          exact ih15 _ v12 v13 (lv_sub hl [2, 3, 4, 1, 0] rfl) (by omega) (by omega) (by omega)
        · have ic11 := (xi_eq c11 rfl h_c : v10.toInt = c_t)
          refine lv_aload_n hx hb dX12_counts_36 rfl (lv_at hl 0 rfl) ?_
          refine lv_iload hx hb dX12_counts_37 (lv_at hl 4 rfl) ?_
          refine lv_iload_n hx hb dX12_counts_39 rfl (lv_at hl 2 rfl) ?_
          refine vp_callSi (W.runV (As := [.int v6, .int y]) (rest := [.int v5]) ⟨hx, hb, hml, hown, hts⟩ (tX12_countOf l E X A z I0 L0 a0 t_a0 v6 (v6.toInt) rfl (by omega) y (y_t) h_y) (cwV 2 hts gX12_counts_X12_countOf rfl rfl rfl (by decide +kernel) ⟨Nat.le_of_ble_eq_true rfl, Nat.le_of_ble_eq_true rfl⟩) ⟨h_blind _ _ _ _ _ _ _, h_recv g t_a0 (by decide) so_13 (q := (RX12, TX12, 51)) rfl, h_pre _ hE hk hX hA hI hR g⟩ rfl rfl hl.1 rfl (lv_room (Nat.le_of_ble_eq_true rfl)) dX12_counts_40 ⟨Nat.le_of_ble_eq_true rfl, Nat.le_of_ble_eq_true rfl⟩) (fun rh14 h14 => ?_)
          have jrh14 : -2147483648 ≤ rh14.toInt ∧ rh14.toInt ≤ 2147483647 := ⟨xi_lo _, Int.le_of_lt_add_one (xi_hi _)⟩
          refine lv_goto (tgt := 47) hx hb dX12_counts_43 (by decide) ?_
          refine lv_iadd hx hb dX12_counts_47 ?_
          refine lv_topi (fun v15 ev15 => ?_)
          have jv15 : -2147483648 ≤ v15.toInt ∧ v15.toInt ≤ 2147483647 := ⟨xi_lo _, Int.le_of_lt_add_one (xi_hi _)⟩
          refine lv_istore_n (lv' := [(3, .int v15), (0, .ref a0), (1, .int c), (2, .int y), (4, .int v6)]) hx hb dX12_counts_48 rfl hl (by decide) rfl (fun ls hl => ?_)
          obtain ⟨v16, ev16⟩ : ∃ z : Int32, z = v6 + 1 := ⟨_, rfl⟩
          have jv16 : v16.toInt = v6.toInt + 1 := xi_add ev16 rfl (by decide) (by omega) (by omega)
          refine lv_iinc (v := v16) (lv' := [(4, .int v16), (3, .int v15), (0, .ref a0), (1, .int c), (2, .int y)]) hx hb dX12_counts_49 hl (k := 4) rfl (by rw [ev16]; rfl) (by decide) rfl (fun ls hl => ?_)
          refine lv_goto (tgt := 15) hx hb dX12_counts_52 (by decide) ?_
          exact ih15 _ v15 v16 (lv_sub hl [2, 3, 4, 1, 0] rfl) (by omega) (by omega) (by omega)
  exact loop15_0 _ _ v4 (0) (lv_sub hl [2, 3, 4, 1, 0] rfl) (by omega) ⟨by decide, by decide⟩ (show (60 - (0 : Int)) < (((60 - (0 : Int)).toNat + 1 : Nat) : Int) by omega)
set_option maxHeartbeats 4000000 in
set_option maxRecDepth 100000 in
theorem tX12_bits (l : Launch) (E : tE) (X : tX) (A : Nat → Prop) (z : tZ) (I0 : tI) (L0 : tL) (x : Int32) (x_t : Int) (h_x : x.toInt = x_t) : Met l yX12_bits wsX12_bits ({ frames := 1, cells := 0, slots := 0, locals := 64 }) (va_Pc [.int x] (h_P E X A z I0 L0)) (vp_Si (fun r => True)) 0 0 (fun _ => False) := by
  refine Met.ofW (cc := cX12_bits) (maxL := 3) (ret := (some .int)) (by decide) rfl ?_
  intro pr_ ev_ s m args below meth cd_ s₁ B hml hv
  obtain ⟨rfl, hE, hk, hX, hA, hK, hI, hR, hB0⟩ := hv
  have g : h_G h_so h_fk E A z I0 L0 s s.heap s.heap [] := ⟨hK, va_S.rf, hB0⟩
  have hx := B.exec
  have hb := B.bytes
  have hr := B.returns
  have hts := atoms_spec (ws := wsX12_bits) B.pre
  have hown : s.vm.findClass RX12 = some m.cls := findClass_of_methodNamed B.named
  have hlocks := B.notSynchronized
  have hl := lv_entry ([.int x]) (n := 3) (Nat.le_of_ble_eq_true rfl)
  rw [lg_entry_eq]
  generalize (lg_sl ([.int x]) ++ List.replicate (3 - (lg_sl ([.int x])).length) Slot.unset).toArray = ls at hl ⊢
  have hl : lv_has ls 3 [(0, .int x)] := hl
  have b_x : -2147483648 ≤ x_t ∧ x_t ≤ 2147483647 := h_x ▸ ⟨xi_lo x, Int.le_of_lt_add_one (xi_hi x)⟩
  refine lv_iconst (v := 0) hx hb dX12_bits_0 (by decide) ?_
  refine lv_istore_n (lv' := [(1, .int 0), (0, .int x)]) hx hb dX12_bits_1 rfl hl (by decide) rfl (fun ls hl => ?_)
  refine lv_iload_n hx hb dX12_bits_2 rfl (lv_at hl 1 rfl) ?_
  refine lv_istore_n (lv' := [(2, .int x), (1, .int 0), (0, .int x)]) hx hb dX12_bits_3 rfl hl (by decide) rfl (fun ls hl => ?_)
  have loop4_0 : ∀ (n : Nat) (ls : Array Slot) (v1 v2 : Int32), lv_has ls 3 [(1, .int v1), (2, .int v2)] → ((-2147483648) ≤ v1.toInt ∧ v1.toInt ≤ 2147483647) → ((-2147483648) ≤ v2.toInt ∧ v2.toInt ≤ 2147483647) → (((v2).toBitVec.toNat : Int)) < (n : Int) → W pr_ l ev_ (headSpec wsX12_bits ({ frames := 1, cells := 0, slots := 0, locals := 64 })).room s m ([.int x] : List Value).toArray below meth cd_ s.heap [] 0 0 (MQ below (vp_Si (fun r => True)) ([.int x] : List Value).toArray s 0 0 (fun _ => False)) (F0 m 4 ls []) := by
    intro n
    induction n with
    | zero => intro ls v1 v2 hl jv1 jv2 hn; exact absurd hn (by omega)
    | succ n ih4 =>
      intro ls v1 v2 hl jv1 jv2 hn
      refine lv_iload_n hx hb dX12_bits_4 rfl (lv_at hl 1 rfl) ?_
      refine lv_if_eq (tgt := 20) hx hb dX12_bits_5 (by decide) (fun c3 => ?_) (fun c3 => ?_)
      · have ic3 := (xi_eq c3 rfl (by decide) : v2.toInt = 0)
        refine lv_iload_n hx hb dX12_bits_20 rfl (lv_at hl 0 rfl) ?_
        exact W.iret (v := v1) hx hb hr (fun t ht hW => ⟨v1, rfl, trivial, ht⟩) (fun _ h => by cases h) dX12_bits_21
      · have ic3 := (xi_ne c3 rfl (by decide) : v2.toInt ≠ 0)
        obtain ⟨v4, ev4⟩ : ∃ z : Int32, z = v1 + 1 := ⟨_, rfl⟩
        have jv4 : -2147483648 ≤ v4.toInt ∧ v4.toInt ≤ 2147483647 := ⟨xi_lo _, Int.le_of_lt_add_one (xi_hi _)⟩
        refine lv_iinc (v := v4) (lv' := [(1, .int v4), (2, .int v2)]) hx hb dX12_bits_8 hl (k := 0) rfl (by rw [ev4]; rfl) (by decide) rfl (fun ls hl => ?_)
        refine lv_iload_n hx hb dX12_bits_11 rfl (lv_at hl 1 rfl) ?_
        refine lv_iload_n hx hb dX12_bits_12 rfl (lv_at hl 1 rfl) ?_
        refine lv_iconst (v := 1) hx hb dX12_bits_13 (by decide) ?_
        refine lv_isub hx hb dX12_bits_14 ?_
        refine lv_topi (fun v5 ev5 => ?_)
        have jv5 : -2147483648 ≤ v5.toInt ∧ v5.toInt ≤ 2147483647 := ⟨xi_lo _, Int.le_of_lt_add_one (xi_hi _)⟩
        refine lv_iand hx hb dX12_bits_15 ?_
        refine lv_topi (fun v6 ev6 => ?_)
        have jv6 : -2147483648 ≤ v6.toInt ∧ v6.toInt ≤ 2147483647 := ⟨xi_lo _, Int.le_of_lt_add_one (xi_hi _)⟩
        have dv6 := h_bitdn (by omega) ev5 ev6
        refine lv_istore_n (lv' := [(2, .int v6), (1, .int v4)]) hx hb dX12_bits_16 rfl hl (by decide) rfl (fun ls hl => ?_)
        refine lv_goto (tgt := 4) hx hb dX12_bits_17 (by decide) ?_
        exact ih4 _ v4 v6 (lv_sub hl [1, 0] rfl) (by omega) (by omega) (by omega)
  exact loop4_0 _ _ (0) x (lv_sub hl [1, 0] rfl) ⟨by decide, by decide⟩ (by rw [h_x]; omega) (show (((x).toBitVec.toNat : Int)) < (((((x).toBitVec.toNat : Int)).toNat + 1 : Nat) : Int) by omega)
