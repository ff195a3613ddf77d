set_option maxHeartbeats 4000000 in
set_option maxRecDepth 100000 in
theorem tX12_lawOf (l : Launch) (E : tE) (X : tX) (A : Nat → Prop) (z : tZ) (I0 : tI) (L0 : tL) (a0 : Nat) (t_a0 : z.ty a0 = 13) (y : Int32) (y_t : Int) (h_y : y.toInt = y_t) (b_y : 0 ≤ y_t ∧ y_t ≤ 9) (k : Int32) (k_t : Int) (h_k : k.toInt = k_t) (b_k : 0 ≤ k_t ∧ k_t ≤ 15) : Met l yX12_lawOf wsX12_lawOf ({ frames := 1, cells := 0, slots := 0, locals := 64 }) (va_Pc [.ref a0, .int y, .int k] (h_P E X A z I0 L0)) (vp_Si (fun r => True)) 0 0 (fun _ => False) := by
  refine Met.ofW (cc := cX12_lawOf) (maxL := 4) (ret := (some .int)) (by decide) rfl ?_
  intro pr_ ev_ s m args below meth cd_ s₁ B hml hv
  obtain ⟨rfl, hE, hk, hX, hA, hK, hI, hR, hB0⟩ := hv
  have g : h_G h_so h_fk E A z I0 L0 s s.heap s.heap [] := ⟨hK, va_S.rf, hB0⟩
  have hx := B.exec
  have hb := B.bytes
  have hr := B.returns
  have hts := atoms_spec (ws := wsX12_lawOf) B.pre
  have hown : s.vm.findClass RX12 = some m.cls := findClass_of_methodNamed B.named
  have hlocks := B.notSynchronized
  have iX12 : ∀ w ∈ u_ws RX12 TX12 51, w ∈ wsX12_lawOf := by decide +kernel
  have hl := lv_entry ([.ref a0, .int y, .int k]) (n := 4) (Nat.le_of_ble_eq_true rfl)
  rw [lg_entry_eq]
  generalize (lg_sl ([.ref a0, .int y, .int k]) ++ List.replicate (4 - (lg_sl ([.ref a0, .int y, .int k])).length) Slot.unset).toArray = ls at hl ⊢
  have hl : lv_has ls 4 [(0, .ref a0), (1, .int y), (2, .int k)] := hl
  refine lv_iload_n hx hb dX12_lawOf_0 rfl (lv_at hl 1 rfl) ?_
  refine lv_istore_n (lv' := [(3, .int y), (0, .ref a0), (1, .int y), (2, .int k)]) hx hb dX12_lawOf_1 rfl hl (by decide) rfl (fun ls hl => ?_)
  have loop2_0 : ∀ (n : Nat) (ls : Array Slot) (v1 : Int32), lv_has ls 4 [(0, .ref a0), (2, .int k), (3, .int v1)] → ((-1) ≤ v1.toInt ∧ v1.toInt ≤ 9) → (v1.toInt + 2) < (n : Int) → W pr_ l ev_ (headSpec wsX12_lawOf ({ frames := 1, cells := 0, slots := 0, locals := 64 })).room s m ([.ref a0, .int y, .int k] : List Value).toArray below meth cd_ s.heap [] 0 0 (MQ below (vp_Si (fun r => True)) ([.ref a0, .int y, .int k] : List Value).toArray s 0 0 (fun _ => False)) (F0 m 2 ls []) := by
    intro n
    induction n with
    | zero => intro ls v1 hl jv1 hn; exact absurd hn (by omega)
    | succ n ih2 =>
      intro ls v1 hl jv1 hn
      refine lv_iload_n hx hb dX12_lawOf_2 rfl (lv_at hl 2 rfl) ?_
      refine lv_if_lt (tgt := 21) hx hb dX12_lawOf_3 (by decide) (fun c2 => ?_) (fun c2 => ?_)
      · have ic2 := (xi_lt c2 rfl (by decide) : v1.toInt < 0)
        refine lv_aload_n hx hb dX12_lawOf_21 rfl (lv_at hl 0 rfl) ?_
        obtain ⟨b3, rb3, tb3⟩ := hR.at a0 10 t_a0 (rfl : h_rs 13 10 = some (1310, false)) (by decide)
        refine h_get (v := .ref b3) hx hb hts iX12 hown g t_a0 (by decide) so_13 rfl 10 (by decide) (hts (.fieldLink RX12 17 "CapLeagueModel" "laws" "[I") (by decide +kernel)) rfl dX12_lawOf_22 (by show va_rf (z.R a0 10) = _; rw [rb3]; rfl) ?_
        refine lv_bipush (v := 16) hx hb dX12_lawOf_25 (by decide) ?_
        refine lv_iload_n hx hb dX12_lawOf_27 rfl (lv_at hl 2 rfl) ?_
        refine lv_if_ge (tgt := 36) hx hb dX12_lawOf_28 (by decide) (fun h => absurd (xi_le h (by decide) rfl : 0 ≤ v1.toInt) (by omega)) (fun c4 => ?_)
        have ic4 := (xi_nle c4 (by decide) rfl : v1.toInt < 0)
        refine lv_bipush (v := 11) hx hb dX12_lawOf_31 (by decide) ?_
        refine lv_goto (tgt := 37) hx hb dX12_lawOf_33 (by decide) ?_
        refine lv_imul hx hb dX12_lawOf_37 ?_
        refine xw_i (v := 176) (by decide) ?_
        refine lv_iload_n hx hb dX12_lawOf_38 rfl (lv_at hl 1 rfl) ?_
        refine lv_iadd hx hb dX12_lawOf_39 ?_
        refine lv_topi (fun v5 ev5 => ?_)
        have jv5 : v5.toInt = 176 + k_t := xi_add ev5 (by decide) h_k (by omega) (by omega)
        refine h_ald hx hb g tb3 (by decide) so_1310 (xi_in (by omega) (by omega)) dX12_lawOf_40 ?_
        refine lv_topi (fun v6 ev6 => ?_)
        have kv6 := h_lwr hI tb3 (k := v5.toInt) rfl ev6 (by omega)
        have jv6 : -2147483648 ≤ v6.toInt ∧ v6.toInt ≤ 2147483647 := ⟨xi_lo _, Int.le_of_lt_add_one (xi_hi _)⟩
        exact W.iret (v := v6) hx hb hr (fun t ht hW => ⟨v6, rfl, trivial, ht⟩) (fun _ h => by cases h) dX12_lawOf_41
      · have ic2 := (xi_nlt c2 rfl (by decide) : 0 ≤ v1.toInt)
        refine lv_aload_n hx hb dX12_lawOf_6 rfl (lv_at hl 0 rfl) ?_
        obtain ⟨b7, rb7, tb7⟩ := hR.at a0 11 t_a0 (rfl : h_rs 13 11 = some (1311, false)) (by decide)
        refine h_get (v := .ref b7) hx hb hts iX12 hown g t_a0 (by decide) so_13 rfl 11 (by decide) (hts (.fieldLink RX12 21 "CapLeagueModel" "hasLaws" "[Z") (by decide +kernel)) rfl dX12_lawOf_7 (by show va_rf (z.R a0 11) = _; rw [rb7]; rfl) ?_
        refine lv_iload_n hx hb dX12_lawOf_10 rfl (lv_at hl 2 rfl) ?_
        refine h_zald hx hb g tb7 (by decide) so_1311 (xi_in (by omega) (by omega)) dX12_lawOf_11 ?_
        refine lv_topi (fun v8 ev8 => ?_)
        have jv8 := hI.rd b7 v1.toNatClampNeg tb7 ev8 (rfl : h_bd 1311 _ = (0, 1))
        refine lv_if_ne (tgt := 21) hx hb dX12_lawOf_12 (by decide) (fun c9 => ?_) (fun c9 => ?_)
        · have ic9 := (xi_ne c9 rfl (by decide) : v8.toInt ≠ 0)
          refine lv_aload_n hx hb dX12_lawOf_21 rfl (lv_at hl 0 rfl) ?_
          obtain ⟨b10, rb10, tb10⟩ := hR.at a0 10 t_a0 (rfl : h_rs 13 10 = some (1310, false)) (by decide)
          refine h_get (v := .ref b10) hx hb hts iX12 hown g t_a0 (by decide) so_13 rfl 10 (by decide) (hts (.fieldLink RX12 17 "CapLeagueModel" "laws" "[I") (by decide +kernel)) rfl dX12_lawOf_22 (by show va_rf (z.R a0 10) = _; rw [rb10]; rfl) ?_
          refine lv_bipush (v := 16) hx hb dX12_lawOf_25 (by decide) ?_
          refine lv_iload_n hx hb dX12_lawOf_27 rfl (lv_at hl 2 rfl) ?_
          refine lv_if_ge (tgt := 36) hx hb dX12_lawOf_28 (by decide) (fun c11 => ?_) (fun h => absurd (xi_nle h (by decide) rfl : v1.toInt < 0) (by omega))
          have ic11 := (xi_le c11 (by decide) rfl : 0 ≤ v1.toInt)
          refine lv_iload_n hx hb dX12_lawOf_36 rfl (lv_at hl 2 rfl) ?_
          refine lv_imul hx hb dX12_lawOf_37 ?_
          refine lv_topi (fun v12 ev12 => ?_)
          have jv12 : v12.toInt = 16 * v1.toInt := xi_mul ev12 (by decide) rfl (by omega) (by omega)
          refine lv_iload_n hx hb dX12_lawOf_38 rfl (lv_at hl 1 rfl) ?_
          refine lv_iadd hx hb dX12_lawOf_39 ?_
          refine lv_topi (fun v13 ev13 => ?_)
          have jv13 : v13.toInt = v12.toInt + k_t := xi_add ev13 rfl h_k (by omega) (by omega)
          refine h_ald hx hb g tb10 (by decide) so_1310 (xi_in (by omega) (by omega)) dX12_lawOf_40 ?_
          refine lv_topi (fun v14 ev14 => ?_)
          have kv14 := h_lwr hI tb10 (k := v13.toInt) rfl ev14 (by omega)
          have jv14 : -2147483648 ≤ v14.toInt ∧ v14.toInt ≤ 2147483647 := ⟨xi_lo _, Int.le_of_lt_add_one (xi_hi _)⟩
          exact W.iret (v := v14) hx hb hr (fun t ht hW => ⟨v14, rfl, trivial, ht⟩) (fun _ h => by cases h) dX12_lawOf_41
        · have ic9 := (xi_eq c9 rfl (by decide) : v8.toInt = 0)
          obtain ⟨v15, ev15⟩ : ∃ z : Int32, z = v1 + (-1) := ⟨_, rfl⟩
          have jv15 : v15.toInt = v1.toInt + (-1) := xi_add ev15 rfl (by decide) (by omega) (by omega)
          refine lv_iinc (v := v15) (lv' := [(3, .int v15), (0, .ref a0), (2, .int k)]) hx hb dX12_lawOf_15 hl (k := 2) rfl (by rw [ev15]; rfl) (by decide) rfl (fun ls hl => ?_)
          refine lv_goto (tgt := 2) hx hb dX12_lawOf_18 (by decide) ?_
          exact ih2 _ v15 (lv_sub hl [1, 2, 0] rfl) (by omega) (by omega)
  exact loop2_0 _ _ y (lv_sub hl [1, 3, 0] rfl) (by rw [h_y]; omega) (show (y.toInt + 2) < (((y.toInt + 2).toNat + 1 : Nat) : Int) by omega)
set_option maxHeartbeats 4000000 in
set_option maxRecDepth 100000 in
theorem tX12_countOf (l : Launch) (E : tE) (X : tX) (A : Nat → Prop) (z : tZ) (I0 : tI) (L0 : tL) (a0 : Nat) (t_a0 : z.ty a0 = 13) (p : Int32) (p_t : Int) (h_p : p.toInt = p_t) (b_p : 0 ≤ p_t ∧ p_t ≤ 59) (y : Int32) (y_t : Int) (h_y : y.toInt = y_t) : Met l yX12_countOf wsX12_countOf ({ frames := 3, cells := 0, slots := 0, locals := 192 }) (va_Pc [.ref a0, .int p, .int y] (h_P E X A z I0 L0)) (vp_Si (fun r => True)) 0 0 (fun _ => False) := by
  refine Met.ofW (cc := cX12_countOf) (maxL := 4) (ret := (some .int)) (by decide) rfl ?_
  intro pr_ ev_ s m args below meth cd_ s₁ B hml hv
  obtain ⟨rfl, hE, hk, hX, hA, hK, hI, hR, hB0⟩ := hv
  have g : h_G h_so h_fk E A z I0 L0 s s.heap s.heap [] := ⟨hK, va_S.rf, hB0⟩
  have hx := B.exec
  have hb := B.bytes
  have hr := B.returns
  have hts := atoms_spec (ws := wsX12_countOf) B.pre
  have hown : s.vm.findClass RX12 = some m.cls := findClass_of_methodNamed B.named
  have hlocks := B.notSynchronized
  have iX12 : ∀ w ∈ u_ws RX12 TX12 51, w ∈ wsX12_countOf := by decide +kernel
  have hl := lv_entry ([.ref a0, .int p, .int y]) (n := 4) (Nat.le_of_ble_eq_true rfl)
  rw [lg_entry_eq]
  generalize (lg_sl ([.ref a0, .int p, .int y]) ++ List.replicate (4 - (lg_sl ([.ref a0, .int p, .int y])).length) Slot.unset).toArray = ls at hl ⊢
  have hl : lv_has ls 4 [(0, .ref a0), (1, .int p), (2, .int y)] := hl
  have b_y : -2147483648 ≤ y_t ∧ y_t ≤ 2147483647 := h_y ▸ ⟨xi_lo y, Int.le_of_lt_add_one (xi_hi y)⟩
  refine lv_aload_n hx hb dX12_countOf_0 rfl (lv_at hl 0 rfl) ?_
  refine lv_iload_n hx hb dX12_countOf_1 rfl (lv_at hl 1 rfl) ?_
  refine lv_iload_n hx hb dX12_countOf_2 rfl (lv_at hl 2 rfl) ?_
  refine vp_callSi (W.runV (As := [.int p, .int y]) (rest := []) ⟨hx, hb, hml, hown, hts⟩ (tX12_isUnder l E X A z I0 L0 a0 t_a0 p (p_t) h_p (by omega) y (y_t) h_y) (cwV 2 hts gX12_countOf_X12_isUnder rfl rfl rfl (by decide +kernel) ⟨Nat.le_of_ble_eq_true rfl, Nat.le_of_ble_eq_true rfl⟩) ⟨h_blind _ _ _ _ _ _ _, h_recv g t_a0 (by decide) so_13 (q := (RX12, TX12, 51)) rfl, h_pre _ hE hk hX hA hI hR g⟩ rfl rfl hl.1 rfl (lv_room (Nat.le_of_ble_eq_true rfl)) dX12_countOf_3 ⟨Nat.le_of_ble_eq_true rfl, Nat.le_of_ble_eq_true rfl⟩) (fun rh1 h1 => ?_)
  refine lv_if_ne (tgt := 11) hx hb dX12_countOf_6 (by decide) (fun c2 => ?_) (fun c2 => ?_)
  · have ic2 := (xi_ne c2 rfl (by decide) : rh1.toInt ≠ 0)
    refine lv_aload_n hx hb dX12_countOf_11 rfl (lv_at hl 0 rfl) ?_
    refine lv_iload_n hx hb dX12_countOf_12 rfl (lv_at hl 1 rfl) ?_
    refine lv_iload_n hx hb dX12_countOf_13 rfl (lv_at hl 2 rfl) ?_
    refine vp_callSi (W.runV (As := [.int p, .int y]) (rest := []) ⟨hx, hb, hml, hown, hts⟩ (tX12_payOf l E X A z I0 L0 a0 t_a0 p (p_t) h_p (by omega) y (y_t) h_y) (cwV 2 hts gX12_countOf_X12_payOf rfl rfl rfl (by decide +kernel) ⟨Nat.le_of_ble_eq_true rfl, Nat.le_of_ble_eq_true rfl⟩) ⟨h_blind _ _ _ _ _ _ _, h_recv g t_a0 (by decide) so_13 (q := (RX12, TX12, 51)) rfl, h_pre _ hE hk hX hA hI hR g⟩ rfl rfl hl.1 rfl (lv_room (Nat.le_of_ble_eq_true rfl)) dX12_countOf_14 ⟨Nat.le_of_ble_eq_true rfl, Nat.le_of_ble_eq_true rfl⟩) (fun rh3 h3 => ?_)
    have jrh3 : -2147483648 ≤ rh3.toInt ∧ rh3.toInt ≤ 2147483647 := ⟨xi_lo _, Int.le_of_lt_add_one (xi_hi _)⟩
    refine lv_istore_n (lv' := [(3, .int rh3), (0, .ref a0), (1, .int p), (2, .int y)]) hx hb dX12_countOf_17 rfl hl (by decide) rfl (fun ls hl => ?_)
    refine lv_aload_n hx hb dX12_countOf_18 rfl (lv_at hl 1 rfl) ?_
    obtain ⟨b4, rb4, tb4⟩ := hR.at a0 22 t_a0 (rfl : h_rs 13 22 = some (1322, false)) (by decide)
    refine h_get (v := .ref b4) hx hb hts iX12 hown g t_a0 (by decide) so_13 rfl 22 (by decide) (hts (.fieldLink RX12 49 "CapLeagueModel" "isHurt" "[Z") (by decide +kernel)) rfl dX12_countOf_19 (by show va_rf (z.R a0 22) = _; rw [rb4]; rfl) ?_
    refine lv_iload_n hx hb dX12_countOf_22 rfl (lv_at hl 2 rfl) ?_
    refine h_zald hx hb g tb4 (by decide) so_1322 (xi_in (by rw [h_p]; omega) (by rw [h_p]; omega)) dX12_countOf_23 ?_
    refine lv_topi (fun v5 ev5 => ?_)
    have jv5 := hI.rd b4 p.toNatClampNeg tb4 ev5 (rfl : h_bd 1322 _ = (0, 1))
    refine lv_if_eq (tgt := 52) hx hb dX12_countOf_24 (by decide) (fun c6 => ?_) (fun c6 => ?_)
    · have ic6 := (xi_eq c6 rfl (by decide) : v5.toInt = 0)
      refine lv_iload_n hx hb dX12_countOf_52 rfl (lv_at hl 0 rfl) ?_
      exact W.iret (v := rh3) hx hb hr (fun t ht hW => ⟨rh3, rfl, trivial, ht⟩) (fun _ h => by cases h) dX12_countOf_53
    · have ic6 := (xi_ne c6 rfl (by decide) : v5.toInt ≠ 0)
      refine lv_iload_n hx hb dX12_countOf_27 rfl (lv_at hl 3 rfl) ?_
      refine lv_aload_n hx hb dX12_countOf_28 rfl (lv_at hl 1 rfl) ?_
      refine h_get (v := .int (I0 a0 12)) hx hb hts iX12 hown g t_a0 (by decide) so_13 rfl 12 (by decide) (hts (.fieldLink RX12 187 "CapLeagueModel" "clock" "I") (by decide +kernel)) rfl dX12_countOf_29 rfl ?_
      refine lv_topi (fun v7 ev7 => ?_)
      have jv7 := hI.rd a0 12 t_a0 ev7 (rfl : h_bd 13 12 = (0, 9))
      refine lv_icmp_ne (tgt := 52) hx hb dX12_countOf_32 (by decide) (fun c8 => ?_) (fun c8 => ?_)
      · have ic8 := (xi_ne c8 h_y rfl : y_t ≠ v7.toInt)
        refine lv_iload_n hx hb dX12_countOf_52 rfl (lv_at hl 0 rfl) ?_
        exact W.iret (v := rh3) hx hb hr (fun t ht hW => ⟨rh3, rfl, trivial, ht⟩) (fun _ h => by cases h) dX12_countOf_53
      · have ic8 := (xi_eq c8 h_y rfl : y_t = v7.toInt)
        refine lv_iload_n hx hb dX12_countOf_35 rfl (lv_at hl 0 rfl) ?_
        refine lv_iload_n hx hb dX12_countOf_36 rfl (lv_at hl 0 rfl) ?_
        refine lv_aload_n hx hb dX12_countOf_37 rfl (lv_at hl 1 rfl) ?_
        refine lv_iload_n hx hb dX12_countOf_38 rfl (lv_at hl 3 rfl) ?_
        refine lv_bipush (v := 6) hx hb dX12_countOf_39 (by decide) ?_
        refine vp_callSi (W.runV (As := [.int y, .int 6]) (rest := [.int rh3, .int rh3]) ⟨hx, hb, hml, hown, hts⟩ (tX12_lawOf l E X A z I0 L0 a0 t_a0 y (y_t) h_y (by omega) 6 (6) (by decide) (by omega)) (cwV 2 hts gX12_countOf_X12_lawOf rfl rfl rfl (by decide +kernel) ⟨Nat.le_of_ble_eq_true rfl, Nat.le_of_ble_eq_true rfl⟩) ⟨h_blind _ _ _ _ _ _ _, h_recv g t_a0 (by decide) so_13 (q := (RX12, TX12, 51)) rfl, h_pre _ hE hk hX hA hI hR g⟩ rfl rfl hl.1 rfl (lv_room (Nat.le_of_ble_eq_true rfl)) dX12_countOf_41 ⟨Nat.le_of_ble_eq_true rfl, Nat.le_of_ble_eq_true rfl⟩) (fun rh9 h9 => ?_)
        have jrh9 : -2147483648 ≤ rh9.toInt ∧ rh9.toInt ≤ 2147483647 := ⟨xi_lo _, Int.le_of_lt_add_one (xi_hi _)⟩
        refine lv_imul hx hb dX12_countOf_44 ?_
        refine lv_topi (fun v10 ev10 => ?_)
        have jv10 : -2147483648 ≤ v10.toInt ∧ v10.toInt ≤ 2147483647 := ⟨xi_lo _, Int.le_of_lt_add_one (xi_hi _)⟩
        refine lv_bipush (v := 100) hx hb dX12_countOf_45 (by decide) ?_
        refine lv_idiv hx hb dX12_countOf_47 (by decide) ?_
        refine lv_topi (fun v11 ev11 => ?_)
        have jv11 : -2147483648 ≤ v11.toInt ∧ v11.toInt ≤ 2147483647 := ⟨xi_lo _, Int.le_of_lt_add_one (xi_hi _)⟩
        refine lv_isub hx hb dX12_countOf_48 ?_
        refine lv_topi (fun v12 ev12 => ?_)
        have jv12 : -2147483648 ≤ v12.toInt ∧ v12.toInt ≤ 2147483647 := ⟨xi_lo _, Int.le_of_lt_add_one (xi_hi _)⟩
        refine lv_goto (tgt := 53) hx hb dX12_countOf_49 (by decide) ?_
        exact W.iret (v := v12) hx hb hr (fun t ht hW => ⟨v12, rfl, trivial, ht⟩) (fun _ h => by cases h) dX12_countOf_53
  · have ic2 := (xi_eq c2 rfl (by decide) : rh1.toInt = 0)
    refine lv_iconst (v := 0) hx hb dX12_countOf_9 (by decide) ?_
    exact W.iret (v := 0) hx hb hr (fun t ht hW => ⟨0, rfl, trivial, ht⟩) (fun _ h => by cases h) dX12_countOf_10
set_option maxHeartbeats 4000000 in
set_option maxRecDepth 100000 in
theorem tX12_counts (l : Launch) (E : tE) (X : tX) (A : Nat → Prop) (z : tZ) (I0 : tI) (L0 : tL) (a0 : Nat) (t_a0 : z.ty a0 = 13) (c : Int32) (c_t : Int) (h_c : c.toInt = c_t) (b_c : 0 ≤ c_t ∧ c_t ≤ 7) (y : Int32) (y_t : Int) (h_y : y.toInt = y_t) (b_y : 0 ≤ y_t ∧ y_t ≤ 9) : Met l yX12_counts wsX12_counts ({ frames := 4, cells := 0, slots := 0, locals := 256 }) (va_Pc [.ref a0, .int c, .int y] (h_P E X A z I0 L0)) (vp_Si (fun r => True)) 0 0 (fun _ => False) := by
  refine Met.ofW (cc := cX12_counts) (maxL := 5) (ret := (some .int)) (by decide) rfl ?_
  intro pr_ ev_ s m args below meth cd_ s₁ B hml hv
  obtain ⟨rfl, hE, hk, hX, hA, hK, hI, hR, hB0⟩ := hv
  have g : h_G h_so h_fk E A z I0 L0 s s.heap s.heap [] := ⟨hK, va_S.rf, hB0⟩
  have hx := B.exec
  have hb := B.bytes
  have hr := B.returns
  have hts := atoms_spec (ws := wsX12_counts) B.pre
  have hown : s.vm.findClass RX12 = some m.cls := findClass_of_methodNamed B.named
  have hlocks := B.notSynchronized
  have iX12 : ∀ w ∈ u_ws RX12 TX12 51, w ∈ wsX12_counts := by decide +kernel
  have hl := lv_entry ([.ref a0, .int c, .int y]) (n := 5) (Nat.le_of_ble_eq_true rfl)
  rw [lg_entry_eq]
  generalize (lg_sl ([.ref a0, .int c, .int y]) ++ List.replicate (5 - (lg_sl ([.ref a0, .int c, .int y])).length) Slot.unset).toArray = ls at hl ⊢
  have hl : lv_has ls 5 [(0, .ref a0), (1, .int c), (2, .int y)] := hl
  refine lv_aload_n hx hb dX12_counts_0 rfl (lv_at hl 0 rfl) ?_
  obtain ⟨b1, rb1, tb1⟩ := hR.at a0 23 t_a0 (rfl : h_rs 13 23 = some (1323, false)) (by decide)
  refine h_get (v := .ref b1) hx hb hts iX12 hown g t_a0 (by decide) so_13 rfl 23 (by decide) (hts (.fieldLink RX12 52 "CapLeagueModel" "dead" "[I") (by decide +kernel)) rfl dX12_counts_1 (by show va_rf (z.R a0 23) = _; rw [rb1]; rfl) ?_
  refine lv_bipush (v := 10) hx hb dX12_counts_4 (by decide) ?_
  refine lv_iload_n hx hb dX12_counts_6 rfl (lv_at hl 1 rfl) ?_
  refine lv_imul hx hb dX12_counts_7 ?_
  refine lv_topi (fun v2 ev2 => ?_)
  have jv2 : v2.toInt = 10 * c_t := xi_mul ev2 (by decide) h_c (by omega) (by omega)
  refine lv_iload_n hx hb dX12_counts_8 rfl (lv_at hl 2 rfl) ?_
  refine lv_iadd hx hb dX12_counts_9 ?_
  refine lv_topi (fun v3 ev3 => ?_)
  have jv3 : v3.toInt = v2.toInt + y_t := xi_add ev3 rfl h_y (by omega) (by omega)
  refine h_ald hx hb g tb1 (by decide) so_1323 (xi_in (by omega) (by omega)) dX12_counts_10 ?_
  refine lv_topi (fun v4 ev4 => ?_)
  have jv4 := hI.rd b1 v3.toNatClampNeg tb1 ev4 (rfl : h_bd 1323 _ = ((-2147483648), 2147483647))
  refine lv_istore_n (lv' := [(3, .int v4), (0, .ref a0), (1, .int c), (2, .int y)]) hx hb dX12_counts_11 rfl hl (by decide) rfl (fun ls hl => ?_)
  refine lv_iconst (v := 0) hx hb dX12_counts_12 (by decide) ?_
  refine lv_istore (lv' := [(4, .int 0), (3, .int v4), (0, .ref a0), (1, .int c), (2, .int y)]) hx hb dX12_counts_13 hl (by decide) rfl (fun ls hl => ?_)
  have loop15_0 : ∀ (n : Nat) (ls : Array Slot) (v5 v6 : Int32), lv_has ls 5 [(0, .ref a0), (1, .int c), (2, .int y), (3, .int v5), (4, .int v6)] → ((-2147483648) ≤ v5.toInt ∧ v5.toInt ≤ 2147483647) → (0 ≤ v6.toInt ∧ v6.toInt ≤ 60) → (60 - v6.toInt) < (n : Int) → W pr_ l ev_ (headSpec wsX12_counts ({ frames := 4, cells := 0, slots := 0, locals := 256 })).room s m ([.ref a0, .int c, .int y] : List Value).toArray below meth cd_ s.heap [] 0 0 (MQ below (vp_Si (fun r => True)) ([.ref a0, .int c, .int y] : List Value).toArray s 0 0 (fun _ => False)) (F0 m 15 ls []) := by
    intro n
    induction n with
    | zero => intro ls v5 v6 hl jv5 jv6 hn; exact absurd hn (by omega)
    | succ n ih15 =>
      intro ls v5 v6 hl jv5 jv6 hn
      refine lv_iload hx hb dX12_counts_15 (lv_at hl 4 rfl) ?_
      refine lv_aload_n hx hb dX12_counts_17 rfl (lv_at hl 0 rfl) ?_
      refine h_get (v := .int (I0 a0 13)) hx hb hts iX12 hown g t_a0 (by decide) so_13 rfl 13 (by decide) (hts (.fieldLink RX12 202 "CapLeagueModel" "players" "I") (by decide +kernel)) rfl dX12_counts_18 rfl ?_
      refine lv_topi (fun v7 ev7 => ?_)
      have jv7 := hI.rd a0 13 t_a0 ev7 (rfl : h_bd 13 13 = (0, 60))
      refine lv_icmp_ge (tgt := 55) hx hb dX12_counts_21 (by decide) (fun c8 => ?_) (fun c8 => ?_)
      · have ic8 := (xi_le c8 rfl rfl : v7.toInt ≤ v6.toInt)
        refine lv_iload_n hx hb dX12_counts_55 rfl (lv_at hl 3 rfl) ?_
        exact W.iret (v := v5) hx hb hr (fun t ht hW => ⟨v5, rfl, trivial, ht⟩) (fun _ h => by cases h) dX12_counts_56
      · have ic8 := (xi_nle c8 rfl rfl : v6.toInt < v7.toInt)
        refine lv_iload_n hx hb dX12_counts_24 rfl (lv_at hl 3 rfl) ?_
        refine lv_aload_n hx hb dX12_counts_25 rfl (lv_at hl 0 rfl) ?_
        obtain ⟨b9, rb9, tb9⟩ := hR.at a0 14 t_a0 (rfl : h_rs 13 14 = some (1314, false)) (by decide)
        refine h_get (v := .ref b9) hx hb hts iX12 hown g t_a0 (by decide) so_13 rfl 14 (by decide) (hts (.fieldLink RX12 25 "CapLeagueModel" "clubOf" "[I") (by decide +kernel)) rfl dX12_counts_26 (by show va_rf (z.R a0 14) = _; rw [rb9]; rfl) ?_
        refine lv_iload hx hb dX12_counts_29 (lv_at hl 4 rfl) ?_
        refine h_ald hx hb g tb9 (by decide) so_1314 (xi_in (by omega) (by omega)) dX12_counts_31 ?_
        refine lv_topi (fun v10 ev10 => ?_)
        have jv10 := hI.rd b9 v6.toNatClampNeg tb9 ev10 (rfl : h_bd 1314 _ = ((-1), 7))
        refine lv_iload_n hx hb dX12_counts_32 rfl (lv_at hl 1 rfl) ?_
        refine lv_icmp_ne (tgt := 46) hx hb dX12_counts_33 (by decide) (fun c11 => ?_) (fun c11 => ?_)
        · have ic11 := (xi_ne c11 rfl h_c : v10.toInt ≠ c_t)
          refine lv_iconst (v := 0) hx hb dX12_counts_46 (by decide) ?_
          refine lv_iadd hx hb dX12_counts_47 ?_
          refine lv_topi (fun v12 ev12 => ?_)
          have jv12 : v12.toInt = v5.toInt + 0 := xi_add ev12 rfl (by decide) (by omega) (by omega)
          refine lv_istore_n (lv' := [(3, .int v12), (0, .ref a0), (1, .int c), (2, .int y), (4, .int v6)]) hx hb dX12_counts_48 rfl hl (by decide) rfl (fun ls hl => ?_)
          obtain ⟨v13, ev13⟩ : ∃ z : Int32, z = v6 + 1 := ⟨_, rfl⟩
          have jv13 : v13.toInt = v6.toInt + 1 := xi_add ev13 rfl (by decide) (by omega) (by omega)
          refine lv_iinc (v := v13) (lv' := [(4, .int v13), (3, .int v12), (0, .ref a0), (1, .int c), (2, .int y)]) hx hb dX12_counts_49 hl (k := 4) rfl (by rw [ev13]; rfl) (by decide) rfl (fun ls hl => ?_)
          refine lv_goto (tgt := 15) hx hb dX12_counts_52 (by decide) ?_
          exact ih15 _ v12 v13 (lv_sub hl [2, 3, 4, 1, 0] rfl) (by omega) (by omega) (by omega)
        · have ic11 := (xi_eq c11 rfl h_c : v10.toInt = c_t)
          refine lv_aload_n hx hb dX12_counts_36 rfl (lv_at hl 0 rfl) ?_
          refine lv_iload hx hb dX12_counts_37 (lv_at hl 4 rfl) ?_
          refine lv_iload_n hx hb dX12_counts_39 rfl (lv_at hl 2 rfl) ?_
          refine vp_callSi (W.runV (As := [.int v6, .int y]) (rest := [.int v5]) ⟨hx, hb, hml, hown, hts⟩ (tX12_countOf l E X A z I0 L0 a0 t_a0 v6 (v6.toInt) rfl (by omega) y (y_t) h_y) (cwV 2 hts gX12_counts_X12_countOf rfl rfl rfl (by decide +kernel) ⟨Nat.le_of_ble_eq_true rfl, Nat.le_of_ble_eq_true rfl⟩) ⟨h_blind _ _ _ _ _ _ _, h_recv g t_a0 (by decide) so_13 (q := (RX12, TX12, 51)) rfl, h_pre _ hE hk hX hA hI hR g⟩ rfl rfl hl.1 rfl (lv_room (Nat.le_of_ble_eq_true rfl)) dX12_counts_40 ⟨Nat.le_of_ble_eq_true rfl, Nat.le_of_ble_eq_true rfl⟩) (fun rh14 h14 => ?_)
          have jrh14 : -2147483648 ≤ rh14.toInt ∧ rh14.toInt ≤ 2147483647 := ⟨xi_lo _, Int.le_of_lt_add_one (xi_hi _)⟩
          refine lv_goto (tgt := 47) hx hb dX12_counts_43 (by decide) ?_
          refine lv_iadd hx hb dX12_counts_47 ?_
          refine lv_topi (fun v15 ev15 => ?_)
          have jv15 : -2147483648 ≤ v15.toInt ∧ v15.toInt ≤ 2147483647 := ⟨xi_lo _, Int.le_of_lt_add_one (xi_hi _)⟩
          refine lv_istore_n (lv' := [(3, .int v15), (0, .ref a0), (1, .int c), (2, .int y), (4, .int v6)]) hx hb dX12_counts_48 rfl hl (by decide) rfl (fun ls hl => ?_)
          obtain ⟨v16, ev16⟩ : ∃ z : Int32, z = v6 + 1 := ⟨_, rfl⟩
          have jv16 : v16.toInt = v6.toInt + 1 := xi_add ev16 rfl (by decide) (by omega) (by omega)
          refine lv_iinc (v := v16) (lv' := [(4, .int v16), (3, .int v15), (0, .ref a0), (1, .int c), (2, .int y)]) hx hb dX12_counts_49 hl (k := 4) rfl (by rw [ev16]; rfl) (by decide) rfl (fun ls hl => ?_)
          refine lv_goto (tgt := 15) hx hb dX12_counts_52 (by decide) ?_
          exact ih15 _ v15 v16 (lv_sub hl [2, 3, 4, 1, 0] rfl) (by omega) (by omega) (by omega)
  exact loop15_0 _ _ v4 (0) (lv_sub hl [2, 3, 4, 1, 0] rfl) (by omega) ⟨by decide, by decide⟩ (show (60 - (0 : Int)) < (((60 - (0 : Int)).toNat + 1 : Nat) : Int) by omega)
set_option maxHeartbeats 4000000 in
set_option maxRecDepth 100000 in
theorem tX12_manyOf (l : Launch) (E : tE) (X : tX) (A : Nat → Prop) (z : tZ) (I0 : tI) (L0 : tL) (a0 : Nat) (t_a0 : z.ty a0 = 13) (c : Int32) (c_t : Int) (h_c : c.toInt = c_t) (y : Int32) (y_t : Int) (h_y : y.toInt = y_t) : Met l yX12_manyOf wsX12_manyOf ({ frames := 3, cells := 0, slots := 0, locals := 192 }) (va_Pc [.ref a0, .int c, .int y] (h_P E X A z I0 L0)) (vp_Si (fun r => True)) 0 0 (fun _ => False) := by
  refine Met.ofW (cc := cX12_manyOf) (maxL := 5) (ret := (some .int)) (by decide) rfl ?_
  intro pr_ ev_ s m args below meth cd_ s₁ B hml hv
  obtain ⟨rfl, hE, hk, hX, hA, hK, hI, hR, hB0⟩ := hv
  have g : h_G h_so h_fk E A z I0 L0 s s.heap s.heap [] := ⟨hK, va_S.rf, hB0⟩
  have hx := B.exec
  have hb := B.bytes
  have hr := B.returns
  have hts := atoms_spec (ws := wsX12_manyOf) B.pre
  have hown : s.vm.findClass RX12 = some m.cls := findClass_of_methodNamed B.named
  have hlocks := B.notSynchronized
  have iX12 : ∀ w ∈ u_ws RX12 TX12 51, w ∈ wsX12_manyOf := by decide +kernel
  have hl := lv_entry ([.ref a0, .int c, .int y]) (n := 5) (Nat.le_of_ble_eq_true rfl)
  rw [lg_entry_eq]
  generalize (lg_sl ([.ref a0, .int c, .int y]) ++ List.replicate (5 - (lg_sl ([.ref a0, .int c, .int y])).length) Slot.unset).toArray = ls at hl ⊢
  have hl : lv_has ls 5 [(0, .ref a0), (1, .int c), (2, .int y)] := hl
  have b_c : -2147483648 ≤ c_t ∧ c_t ≤ 2147483647 := h_c ▸ ⟨xi_lo c, Int.le_of_lt_add_one (xi_hi c)⟩
  have b_y : -2147483648 ≤ y_t ∧ y_t ≤ 2147483647 := h_y ▸ ⟨xi_lo y, Int.le_of_lt_add_one (xi_hi y)⟩
  refine lv_iconst (v := 0) hx hb dX12_manyOf_0 (by decide) ?_
  refine lv_istore_n (lv' := [(3, .int 0), (0, .ref a0), (1, .int c), (2, .int y)]) hx hb dX12_manyOf_1 rfl hl (by decide) rfl (fun ls hl => ?_)
  refine lv_iconst (v := 0) hx hb dX12_manyOf_2 (by decide) ?_
  refine lv_istore (lv' := [(4, .int 0), (3, .int 0), (0, .ref a0), (1, .int c), (2, .int y)]) hx hb dX12_manyOf_3 hl (by decide) rfl (fun ls hl => ?_)
  have loop5_0 : ∀ (n : Nat) (ls : Array Slot) (v1 v2 : Int32), lv_has ls 5 [(0, .ref a0), (1, .int c), (2, .int y), (3, .int v1), (4, .int v2)] → ((-2147483648) ≤ v1.toInt ∧ v1.toInt ≤ 2147483647) → (0 ≤ v2.toInt ∧ v2.toInt ≤ 60) → (60 - v2.toInt) < (n : Int) → W pr_ l ev_ (headSpec wsX12_manyOf ({ frames := 3, cells := 0, slots := 0, locals := 192 })).room s m ([.ref a0, .int c, .int y] : List Value).toArray below meth cd_ s.heap [] 0 0 (MQ below (vp_Si (fun r => True)) ([.ref a0, .int c, .int y] : List Value).toArray s 0 0 (fun _ => False)) (F0 m 5 ls []) := by
    intro n
    induction n with
    | zero => intro ls v1 v2 hl jv1 jv2 hn; exact absurd hn (by omega)
    | succ n ih5 =>
      intro ls v1 v2 hl jv1 jv2 hn
      refine lv_iload hx hb dX12_manyOf_5 (lv_at hl 4 rfl) ?_
      refine lv_aload_n hx hb dX12_manyOf_7 rfl (lv_at hl 0 rfl) ?_
      refine h_get (v := .int (I0 a0 13)) hx hb hts iX12 hown g t_a0 (by decide) so_13 rfl 13 (by decide) (hts (.fieldLink RX12 202 "CapLeagueModel" "players" "I") (by decide +kernel)) rfl dX12_manyOf_8 rfl ?_
      refine lv_topi (fun v3 ev3 => ?_)
      have jv3 := hI.rd a0 13 t_a0 ev3 (rfl : h_bd 13 13 = (0, 60))
      refine lv_icmp_ge (tgt := 49) hx hb dX12_manyOf_11 (by decide) (fun c4 => ?_) (fun c4 => ?_)
      · have ic4 := (xi_le c4 rfl rfl : v3.toInt ≤ v2.toInt)
        refine lv_iload_n hx hb dX12_manyOf_49 rfl (lv_at hl 3 rfl) ?_
        exact W.iret (v := v1) hx hb hr (fun t ht hW => ⟨v1, rfl, trivial, ht⟩) (fun _ h => by cases h) dX12_manyOf_50
      · have ic4 := (xi_nle c4 rfl rfl : v2.toInt < v3.toInt)
        refine lv_iload_n hx hb dX12_manyOf_14 rfl (lv_at hl 3 rfl) ?_
        refine lv_aload_n hx hb dX12_manyOf_15 rfl (lv_at hl 0 rfl) ?_
        obtain ⟨b5, rb5, tb5⟩ := hR.at a0 14 t_a0 (rfl : h_rs 13 14 = some (1314, false)) (by decide)
        refine h_get (v := .ref b5) hx hb hts iX12 hown g t_a0 (by decide) so_13 rfl 14 (by decide) (hts (.fieldLink RX12 25 "CapLeagueModel" "clubOf" "[I") (by decide +kernel)) rfl dX12_manyOf_16 (by show va_rf (z.R a0 14) = _; rw [rb5]; rfl) ?_
        refine lv_iload hx hb dX12_manyOf_19 (lv_at hl 4 rfl) ?_
        refine h_ald hx hb g tb5 (by decide) so_1314 (xi_in (by omega) (by omega)) dX12_manyOf_21 ?_
        refine lv_topi (fun v6 ev6 => ?_)
        have jv6 := hI.rd b5 v2.toNatClampNeg tb5 ev6 (rfl : h_bd 1314 _ = ((-1), 7))
        refine lv_iload_n hx hb dX12_manyOf_22 rfl (lv_at hl 1 rfl) ?_
        refine lv_icmp_ne (tgt := 40) hx hb dX12_manyOf_23 (by decide) (fun c7 => ?_) (fun c7 => ?_)
        · have ic7 := (xi_ne c7 rfl h_c : v6.toInt ≠ c_t)
          refine lv_iconst (v := 0) hx hb dX12_manyOf_40 (by decide) ?_
          refine lv_iadd hx hb dX12_manyOf_41 ?_
          refine lv_topi (fun v8 ev8 => ?_)
          have jv8 : v8.toInt = v1.toInt + 0 := xi_add ev8 rfl (by decide) (by omega) (by omega)
          refine lv_istore_n (lv' := [(3, .int v8), (0, .ref a0), (1, .int c), (2, .int y), (4, .int v2)]) hx hb dX12_manyOf_42 rfl hl (by decide) rfl (fun ls hl => ?_)
          obtain ⟨v9, ev9⟩ : ∃ z : Int32, z = v2 + 1 := ⟨_, rfl⟩
          have jv9 : v9.toInt = v2.toInt + 1 := xi_add ev9 rfl (by decide) (by omega) (by omega)
          refine lv_iinc (v := v9) (lv' := [(4, .int v9), (3, .int v8), (0, .ref a0), (1, .int c), (2, .int y)]) hx hb dX12_manyOf_43 hl (k := 4) rfl (by rw [ev9]; rfl) (by decide) rfl (fun ls hl => ?_)
          refine lv_goto (tgt := 5) hx hb dX12_manyOf_46 (by decide) ?_
          exact ih5 _ v8 v9 (lv_sub hl [2, 3, 4, 1, 0] rfl) (by omega) (by omega) (by omega)
        · have ic7 := (xi_eq c7 rfl h_c : v6.toInt = c_t)
          refine lv_aload_n hx hb dX12_manyOf_26 rfl (lv_at hl 0 rfl) ?_
          refine lv_iload hx hb dX12_manyOf_27 (lv_at hl 4 rfl) ?_
          refine lv_iload_n hx hb dX12_manyOf_29 rfl (lv_at hl 2 rfl) ?_
          refine vp_callSi (W.runV (As := [.int v2, .int y]) (rest := [.int v1]) ⟨hx, hb, hml, hown, hts⟩ (tX12_isUnder l E X A z I0 L0 a0 t_a0 v2 (v2.toInt) rfl (by omega) y (y_t) h_y) (cwV 2 hts gX12_manyOf_X12_isUnder rfl rfl rfl (by decide +kernel) ⟨Nat.le_of_ble_eq_true rfl, Nat.le_of_ble_eq_true rfl⟩) ⟨h_blind _ _ _ _ _ _ _, h_recv g t_a0 (by decide) so_13 (q := (RX12, TX12, 51)) rfl, h_pre _ hE hk hX hA hI hR g⟩ rfl rfl hl.1 rfl (lv_room (Nat.le_of_ble_eq_true rfl)) dX12_manyOf_30 ⟨Nat.le_of_ble_eq_true rfl, Nat.le_of_ble_eq_true rfl⟩) (fun rh10 h10 => ?_)
          refine lv_if_eq (tgt := 40) hx hb dX12_manyOf_33 (by decide) (fun c11 => ?_) (fun c11 => ?_)
          · have ic11 := (xi_eq c11 rfl (by decide) : rh10.toInt = 0)
            refine lv_iconst (v := 0) hx hb dX12_manyOf_40 (by decide) ?_
            refine lv_iadd hx hb dX12_manyOf_41 ?_
            refine lv_topi (fun v12 ev12 => ?_)
            have jv12 : v12.toInt = v1.toInt + 0 := xi_add ev12 rfl (by decide) (by omega) (by omega)
            refine lv_istore_n (lv' := [(3, .int v12), (0, .ref a0), (1, .int c), (2, .int y), (4, .int v2)]) hx hb dX12_manyOf_42 rfl hl (by decide) rfl (fun ls hl => ?_)
            obtain ⟨v13, ev13⟩ : ∃ z : Int32, z = v2 + 1 := ⟨_, rfl⟩
            have jv13 : v13.toInt = v2.toInt + 1 := xi_add ev13 rfl (by decide) (by omega) (by omega)
            refine lv_iinc (v := v13) (lv' := [(4, .int v13), (3, .int v12), (0, .ref a0), (1, .int c), (2, .int y)]) hx hb dX12_manyOf_43 hl (k := 4) rfl (by rw [ev13]; rfl) (by decide) rfl (fun ls hl => ?_)
            refine lv_goto (tgt := 5) hx hb dX12_manyOf_46 (by decide) ?_
            exact ih5 _ v12 v13 (lv_sub hl [2, 3, 4, 1, 0] rfl) (by omega) (by omega) (by omega)
          · have ic11 := (xi_ne c11 rfl (by decide) : rh10.toInt ≠ 0)
            refine lv_iconst (v := 1) hx hb dX12_manyOf_36 (by decide) ?_
            refine lv_goto (tgt := 41) hx hb dX12_manyOf_37 (by decide) ?_
            refine lv_iadd hx hb dX12_manyOf_41 ?_
            refine lv_topi (fun v14 ev14 => ?_)
            have jv14 : -2147483648 ≤ v14.toInt ∧ v14.toInt ≤ 2147483647 := ⟨xi_lo _, Int.le_of_lt_add_one (xi_hi _)⟩
            refine lv_istore_n (lv' := [(3, .int v14), (0, .ref a0), (1, .int c), (2, .int y), (4, .int v2)]) hx hb dX12_manyOf_42 rfl hl (by decide) rfl (fun ls hl => ?_)
            obtain ⟨v15, ev15⟩ : ∃ z : Int32, z = v2 + 1 := ⟨_, rfl⟩
            have jv15 : v15.toInt = v2.toInt + 1 := xi_add ev15 rfl (by decide) (by omega) (by omega)
            refine lv_iinc (v := v15) (lv' := [(4, .int v15), (3, .int v14), (0, .ref a0), (1, .int c), (2, .int y)]) hx hb dX12_manyOf_43 hl (k := 4) rfl (by rw [ev15]; rfl) (by decide) rfl (fun ls hl => ?_)
            refine lv_goto (tgt := 5) hx hb dX12_manyOf_46 (by decide) ?_
            exact ih5 _ v14 v15 (lv_sub hl [2, 3, 4, 1, 0] rfl) (by omega) (by omega) (by omega)
  exact loop5_0 _ _ (0) (0) (lv_sub hl [2, 3, 4, 1, 0] rfl) ⟨by decide, by decide⟩ ⟨by decide, by decide⟩ (show (60 - (0 : Int)) < (((60 - (0 : Int)).toNat + 1 : Nat) : Int) by omega)
set_option maxHeartbeats 4000000 in
set_option maxRecDepth 100000 in
theorem tX12_bits (l : Launch) (E : tE) (X : tX) (A : Nat → Prop) (z : tZ) (I0 : tI) (L0 : tL) (x : Int32) (x_t : Int) (h_x : x.toInt = x_t) : Met l yX12_bits wsX12_bits ({ frames := 1, cells := 0, slots := 0, locals := 64 }) (va_Pc [.int x] (h_P E X A z I0 L0)) (vp_Si (fun r => True)) 0 0 (fun _ => False) := by
  refine Met.ofW (cc := cX12_bits) (maxL := 3) (ret := (some .int)) (by decide) rfl ?_
  intro pr_ ev_ s m args below meth cd_ s₁ B hml hv
  obtain ⟨rfl, hE, hk, hX, hA, hK, hI, hR, hB0⟩ := hv
  have g : h_G h_so h_fk E A z I0 L0 s s.heap s.heap [] := ⟨hK, va_S.rf, hB0⟩
  have hx := B.exec
  have hb := B.bytes
  have hr := B.returns
  have hts := atoms_spec (ws := wsX12_bits) B.pre
  have hown : s.vm.findClass RX12 = some m.cls := findClass_of_methodNamed B.named
  have hlocks := B.notSynchronized
  have hl := lv_entry ([.int x]) (n := 3) (Nat.le_of_ble_eq_true rfl)
  rw [lg_entry_eq]
  generalize (lg_sl ([.int x]) ++ List.replicate (3 - (lg_sl ([.int x])).length) Slot.unset).toArray = ls at hl ⊢
  have hl : lv_has ls 3 [(0, .int x)] := hl
  have b_x : -2147483648 ≤ x_t ∧ x_t ≤ 2147483647 := h_x ▸ ⟨xi_lo x, Int.le_of_lt_add_one (xi_hi x)⟩
  refine lv_iconst (v := 0) hx hb dX12_bits_0 (by decide) ?_
  refine lv_istore_n (lv' := [(1, .int 0), (0, .int x)]) hx hb dX12_bits_1 rfl hl (by decide) rfl (fun ls hl => ?_)
  refine lv_iload_n hx hb dX12_bits_2 rfl (lv_at hl 1 rfl) ?_
  refine lv_istore_n (lv' := [(2, .int x), (1, .int 0), (0, .int x)]) hx hb dX12_bits_3 rfl hl (by decide) rfl (fun ls hl => ?_)
  have loop4_0 : ∀ (n : Nat) (ls : Array Slot) (v1 v2 : Int32), lv_has ls 3 [(1, .int v1), (2, .int v2)] → ((-2147483648) ≤ v1.toInt ∧ v1.toInt ≤ 2147483647) → ((-2147483648) ≤ v2.toInt ∧ v2.toInt ≤ 2147483647) → (((v2).toBitVec.toNat : Int)) < (n : Int) → W pr_ l ev_ (headSpec wsX12_bits ({ frames := 1, cells := 0, slots := 0, locals := 64 })).room s m ([.int x] : List Value).toArray below meth cd_ s.heap [] 0 0 (MQ below (vp_Si (fun r => True)) ([.int x] : List Value).toArray s 0 0 (fun _ => False)) (F0 m 4 ls []) := by
    intro n
    induction n with
    | zero => intro ls v1 v2 hl jv1 jv2 hn; exact absurd hn (by omega)
    | succ n ih4 =>
      intro ls v1 v2 hl jv1 jv2 hn
      refine lv_iload_n hx hb dX12_bits_4 rfl (lv_at hl 1 rfl) ?_
      refine lv_if_eq (tgt := 20) hx hb dX12_bits_5 (by decide) (fun c3 => ?_) (fun c3 => ?_)
      · have ic3 := (xi_eq c3 rfl (by decide) : v2.toInt = 0)
        refine lv_iload_n hx hb dX12_bits_20 rfl (lv_at hl 0 rfl) ?_
        exact W.iret (v := v1) hx hb hr (fun t ht hW => ⟨v1, rfl, trivial, ht⟩) (fun _ h => by cases h) dX12_bits_21
      · have ic3 := (xi_ne c3 rfl (by decide) : v2.toInt ≠ 0)
        obtain ⟨v4, ev4⟩ : ∃ z : Int32, z = v1 + 1 := ⟨_, rfl⟩
        have jv4 : -2147483648 ≤ v4.toInt ∧ v4.toInt ≤ 2147483647 := ⟨xi_lo _, Int.le_of_lt_add_one (xi_hi _)⟩
        refine lv_iinc (v := v4) (lv' := [(1, .int v4), (2, .int v2)]) hx hb dX12_bits_8 hl (k := 0) rfl (by rw [ev4]; rfl) (by decide) rfl (fun ls hl => ?_)
        refine lv_iload_n hx hb dX12_bits_11 rfl (lv_at hl 1 rfl) ?_
        refine lv_iload_n hx hb dX12_bits_12 rfl (lv_at hl 1 rfl) ?_
        refine lv_iconst (v := 1) hx hb dX12_bits_13 (by decide) ?_
        refine lv_isub hx hb dX12_bits_14 ?_
        refine lv_topi (fun v5 ev5 => ?_)
        have jv5 : -2147483648 ≤ v5.toInt ∧ v5.toInt ≤ 2147483647 := ⟨xi_lo _, Int.le_of_lt_add_one (xi_hi _)⟩
        refine lv_iand hx hb dX12_bits_15 ?_
        refine lv_topi (fun v6 ev6 => ?_)
        have jv6 : -2147483648 ≤ v6.toInt ∧ v6.toInt ≤ 2147483647 := ⟨xi_lo _, Int.le_of_lt_add_one (xi_hi _)⟩
        have dv6 := h_bitdn (by omega) ev5 ev6
        refine lv_istore_n (lv' := [(2, .int v6), (1, .int v4)]) hx hb dX12_bits_16 rfl hl (by decide) rfl (fun ls hl => ?_)
        refine lv_goto (tgt := 4) hx hb dX12_bits_17 (by decide) ?_
        exact ih4 _ v4 v6 (lv_sub hl [1, 0] rfl) (by omega) (by omega) (by omega)
  exact loop4_0 _ _ (0) x (lv_sub hl [1, 0] rfl) ⟨by decide, by decide⟩ (by rw [h_x]; omega) (show (((x).toBitVec.toNat : Int)) < (((((x).toBitVec.toNat : Int)).toNat + 1 : Nat) : Int) by omega)
set_option maxHeartbeats 4000000 in
set_option maxRecDepth 100000 in
theorem tX12_isLegal (l : Launch) (E : tE) (X : tX) (A : Nat → Prop) (z : tZ) (I0 : tI) (L0 : tL) (a0 : Nat) (t_a0 : z.ty a0 = 13) (c : Int32) (c_t : Int) (h_c : c.toInt = c_t) (b_c : 0 ≤ c_t ∧ c_t ≤ 7) (o : Int32) (o_t : Int) (h_o : o.toInt = o_t) (b_o : 0 ≤ o_t ∧ o_t ≤ 59) (i : Int32) (i_t : Int) (h_i : i.toInt = i_t) (b_i : 0 ≤ i_t ∧ i_t ≤ 59) : Met l yX12_isLegal wsX12_isLegal ({ frames := 5, cells := 0, slots := 0, locals := 320 }) (va_Pc [.ref a0, .int c, .int o, .int i] (h_P E X A z I0 L0)) (vp_Si (fun r => (0 ≤ r.toInt ∧ r.toInt ≤ 1))) 0 0 (fun _ => False) := by
  refine Met.ofW (cc := cX12_isLegal) (maxL := 5) (ret := (some .boolean)) (by decide) rfl ?_
  intro pr_ ev_ s m args below meth cd_ s₁ B hml hv
  obtain ⟨rfl, hE, hk, hX, hA, hK, hI, hR, hB0⟩ := hv
  have g : h_G h_so h_fk E A z I0 L0 s s.heap s.heap [] := ⟨hK, va_S.rf, hB0⟩
  have hx := B.exec
  have hb := B.bytes
  have hr := B.returns
  have hts := atoms_spec (ws := wsX12_isLegal) B.pre
  have hown : s.vm.findClass RX12 = some m.cls := findClass_of_methodNamed B.named
  have hlocks := B.notSynchronized
  have iX12 : ∀ w ∈ u_ws RX12 TX12 51, w ∈ wsX12_isLegal := by decide +kernel
  have hl := lv_entry ([.ref a0, .int c, .int o, .int i]) (n := 5) (Nat.le_of_ble_eq_true rfl)
  rw [lg_entry_eq]
  generalize (lg_sl ([.ref a0, .int c, .int o, .int i]) ++ List.replicate (5 - (lg_sl ([.ref a0, .int c, .int o, .int i])).length) Slot.unset).toArray = ls at hl ⊢
  have hl : lv_has ls 5 [(0, .ref a0), (1, .int c), (2, .int o), (3, .int i)] := hl
  refine lv_aload_n hx hb dX12_isLegal_0 rfl (lv_at hl 0 rfl) ?_
  refine lv_iload_n hx hb dX12_isLegal_1 rfl (lv_at hl 1 rfl) ?_
  refine lv_aload_n hx hb dX12_isLegal_2 rfl (lv_at hl 0 rfl) ?_
  refine h_get (v := .int (I0 a0 12)) hx hb hts iX12 hown g t_a0 (by decide) so_13 rfl 12 (by decide) (hts (.fieldLink RX12 187 "CapLeagueModel" "clock" "I") (by decide +kernel)) rfl dX12_isLegal_3 rfl ?_
  refine lv_topi (fun v1 ev1 => ?_)
  have jv1 := hI.rd a0 12 t_a0 ev1 (rfl : h_bd 13 12 = (0, 9))
  refine vp_callSi (W.runV (As := [.int c, .int v1]) (rest := []) ⟨hx, hb, hml, hown, hts⟩ (tX12_manyOf l E X A z I0 L0 a0 t_a0 c (c_t) h_c v1 (v1.toInt) rfl) (cwV 2 hts gX12_isLegal_X12_manyOf rfl rfl rfl (by decide +kernel) ⟨Nat.le_of_ble_eq_true rfl, Nat.le_of_ble_eq_true rfl⟩) ⟨h_blind _ _ _ _ _ _ _, h_recv g t_a0 (by decide) so_13 (q := (RX12, TX12, 51)) rfl, h_pre _ hE hk hX hA hI hR g⟩ rfl rfl hl.1 rfl (lv_room (Nat.le_of_ble_eq_true rfl)) dX12_isLegal_6 ⟨Nat.le_of_ble_eq_true rfl, Nat.le_of_ble_eq_true rfl⟩) (fun rh2 h2 => ?_)
  have jrh2 : -2147483648 ≤ rh2.toInt ∧ rh2.toInt ≤ 2147483647 := ⟨xi_lo _, Int.le_of_lt_add_one (xi_hi _)⟩
  refine lv_aload_n hx hb dX12_isLegal_9 rfl (lv_at hl 0 rfl) ?_
  refine lv_aload_n hx hb dX12_isLegal_10 rfl (lv_at hl 0 rfl) ?_
  refine h_get (v := .int v1) hx hb hts iX12 hown g t_a0 (by decide) so_13 rfl 12 (by decide) (hts (.fieldLink RX12 187 "CapLeagueModel" "clock" "I") (by decide +kernel)) rfl dX12_isLegal_11 (congrArg Value.int (ev1.symm)) ?_
  refine lv_iconst (v := 1) hx hb dX12_isLegal_14 (by decide) ?_
  refine vp_callSi (W.runV (As := [.int v1, .int 1]) (rest := [.int rh2]) ⟨hx, hb, hml, hown, hts⟩ (tX12_lawOf l E X A z I0 L0 a0 t_a0 v1 (v1.toInt) rfl (by omega) 1 (1) (by decide) (by omega)) (cwV 2 hts gX12_isLegal_X12_lawOf rfl rfl rfl (by decide +kernel) ⟨Nat.le_of_ble_eq_true rfl, Nat.le_of_ble_eq_true rfl⟩) ⟨h_blind _ _ _ _ _ _ _, h_recv g t_a0 (by decide) so_13 (q := (RX12, TX12, 51)) rfl, h_pre _ hE hk hX hA hI hR g⟩ rfl rfl hl.1 rfl (lv_room (Nat.le_of_ble_eq_true rfl)) dX12_isLegal_15 ⟨Nat.le_of_ble_eq_true rfl, Nat.le_of_ble_eq_true rfl⟩) (fun rh3 h3 => ?_)
  have jrh3 : -2147483648 ≤ rh3.toInt ∧ rh3.toInt ≤ 2147483647 := ⟨xi_lo _, Int.le_of_lt_add_one (xi_hi _)⟩
  refine lv_icmp_le (tgt := 23) hx hb dX12_isLegal_18 (by decide) (fun c4 => ?_) (fun c4 => ?_)
  · have ic4 := (xi_le c4 rfl rfl : rh2.toInt ≤ rh3.toInt)
    refine lv_aload_n hx hb dX12_isLegal_23 rfl (lv_at hl 0 rfl) ?_
    refine lv_iload_n hx hb dX12_isLegal_24 rfl (lv_at hl 1 rfl) ?_
    refine lv_aload_n hx hb dX12_isLegal_25 rfl (lv_at hl 0 rfl) ?_
    refine h_get (v := .int v1) hx hb hts iX12 hown g t_a0 (by decide) so_13 rfl 12 (by decide) (hts (.fieldLink RX12 187 "CapLeagueModel" "clock" "I") (by decide +kernel)) rfl dX12_isLegal_26 (congrArg Value.int (ev1.symm)) ?_
    refine vp_callSi (W.runV (As := [.int c, .int v1]) (rest := []) ⟨hx, hb, hml, hown, hts⟩ (tX12_counts l E X A z I0 L0 a0 t_a0 c (c_t) h_c (by omega) v1 (v1.toInt) rfl (by omega)) (cwV 2 hts gX12_isLegal_X12_counts rfl rfl rfl (by decide +kernel) ⟨Nat.le_of_ble_eq_true rfl, Nat.le_of_ble_eq_true rfl⟩) ⟨h_blind _ _ _ _ _ _ _, h_recv g t_a0 (by decide) so_13 (q := (RX12, TX12, 51)) rfl, h_pre _ hE hk hX hA hI hR g⟩ rfl rfl hl.1 rfl (lv_room (Nat.le_of_ble_eq_true rfl)) dX12_isLegal_29 ⟨Nat.le_of_ble_eq_true rfl, Nat.le_of_ble_eq_true rfl⟩) (fun rh5 h5 => ?_)
    have jrh5 : -2147483648 ≤ rh5.toInt ∧ rh5.toInt ≤ 2147483647 := ⟨xi_lo _, Int.le_of_lt_add_one (xi_hi _)⟩
    refine lv_aload_n hx hb dX12_isLegal_32 rfl (lv_at hl 0 rfl) ?_
    refine lv_iload_n hx hb dX12_isLegal_33 rfl (lv_at hl 3 rfl) ?_
    refine lv_aload_n hx hb dX12_isLegal_34 rfl (lv_at hl 0 rfl) ?_
    refine h_get (v := .int v1) hx hb hts iX12 hown g t_a0 (by decide) so_13 rfl 12 (by decide) (hts (.fieldLink RX12 187 "CapLeagueModel" "clock" "I") (by decide +kernel)) rfl dX12_isLegal_35 (congrArg Value.int (ev1.symm)) ?_
    refine vp_callSi (W.runV (As := [.int i, .int v1]) (rest := [.int rh5]) ⟨hx, hb, hml, hown, hts⟩ (tX12_countOf l E X A z I0 L0 a0 t_a0 i (i_t) h_i (by omega) v1 (v1.toInt) rfl) (cwV 2 hts gX12_isLegal_X12_countOf rfl rfl rfl (by decide +kernel) ⟨Nat.le_of_ble_eq_true rfl, Nat.le_of_ble_eq_true rfl⟩) ⟨h_blind _ _ _ _ _ _ _, h_recv g t_a0 (by decide) so_13 (q := (RX12, TX12, 51)) rfl, h_pre _ hE hk hX hA hI hR g⟩ rfl rfl hl.1 rfl (lv_room (Nat.le_of_ble_eq_true rfl)) dX12_isLegal_38 ⟨Nat.le_of_ble_eq_true rfl, Nat.le_of_ble_eq_true rfl⟩) (fun rh6 h6 => ?_)
    have jrh6 : -2147483648 ≤ rh6.toInt ∧ rh6.toInt ≤ 2147483647 := ⟨xi_lo _, Int.le_of_lt_add_one (xi_hi _)⟩
    refine lv_iadd hx hb dX12_isLegal_41 ?_
    refine lv_topi (fun v7 ev7 => ?_)
    have jv7 : -2147483648 ≤ v7.toInt ∧ v7.toInt ≤ 2147483647 := ⟨xi_lo _, Int.le_of_lt_add_one (xi_hi _)⟩
    refine lv_aload_n hx hb dX12_isLegal_42 rfl (lv_at hl 0 rfl) ?_
    refine lv_iload_n hx hb dX12_isLegal_43 rfl (lv_at hl 2 rfl) ?_
    refine lv_aload_n hx hb dX12_isLegal_44 rfl (lv_at hl 0 rfl) ?_
    refine h_get (v := .int v1) hx hb hts iX12 hown g t_a0 (by decide) so_13 rfl 12 (by decide) (hts (.fieldLink RX12 187 "CapLeagueModel" "clock" "I") (by decide +kernel)) rfl dX12_isLegal_45 (congrArg Value.int (ev1.symm)) ?_
    refine vp_callSi (W.runV (As := [.int o, .int v1]) (rest := [.int v7]) ⟨hx, hb, hml, hown, hts⟩ (tX12_countOf l E X A z I0 L0 a0 t_a0 o (o_t) h_o (by omega) v1 (v1.toInt) rfl) (cwV 2 hts gX12_isLegal_X12_countOf rfl rfl rfl (by decide +kernel) ⟨Nat.le_of_ble_eq_true rfl, Nat.le_of_ble_eq_true rfl⟩) ⟨h_blind _ _ _ _ _ _ _, h_recv g t_a0 (by decide) so_13 (q := (RX12, TX12, 51)) rfl, h_pre _ hE hk hX hA hI hR g⟩ rfl rfl hl.1 rfl (lv_room (Nat.le_of_ble_eq_true rfl)) dX12_isLegal_48 ⟨Nat.le_of_ble_eq_true rfl, Nat.le_of_ble_eq_true rfl⟩) (fun rh8 h8 => ?_)
    have jrh8 : -2147483648 ≤ rh8.toInt ∧ rh8.toInt ≤ 2147483647 := ⟨xi_lo _, Int.le_of_lt_add_one (xi_hi _)⟩
    refine lv_isub hx hb dX12_isLegal_51 ?_
    refine lv_topi (fun v9 ev9 => ?_)
    have jv9 : -2147483648 ≤ v9.toInt ∧ v9.toInt ≤ 2147483647 := ⟨xi_lo _, Int.le_of_lt_add_one (xi_hi _)⟩
    refine lv_istore (lv' := [(4, .int v9), (0, .ref a0), (1, .int c), (2, .int o), (3, .int i)]) hx hb dX12_isLegal_52 hl (by decide) rfl (fun ls hl => ?_)
    refine lv_iload hx hb dX12_isLegal_54 (lv_at hl 0 rfl) ?_
    refine lv_aload_n hx hb dX12_isLegal_56 rfl (lv_at hl 1 rfl) ?_
    refine lv_aload_n hx hb dX12_isLegal_57 rfl (lv_at hl 1 rfl) ?_
    refine h_get (v := .int v1) hx hb hts iX12 hown g t_a0 (by decide) so_13 rfl 12 (by decide) (hts (.fieldLink RX12 187 "CapLeagueModel" "clock" "I") (by decide +kernel)) rfl dX12_isLegal_58 (congrArg Value.int (ev1.symm)) ?_
    refine lv_iconst (v := 0) hx hb dX12_isLegal_61 (by decide) ?_
    refine vp_callSi (W.runV (As := [.int v1, .int 0]) (rest := [.int v9]) ⟨hx, hb, hml, hown, hts⟩ (tX12_lawOf l E X A z I0 L0 a0 t_a0 v1 (v1.toInt) rfl (by omega) 0 (0) (by decide) (by omega)) (cwV 2 hts gX12_isLegal_X12_lawOf rfl rfl rfl (by decide +kernel) ⟨Nat.le_of_ble_eq_true rfl, Nat.le_of_ble_eq_true rfl⟩) ⟨h_blind _ _ _ _ _ _ _, h_recv g t_a0 (by decide) so_13 (q := (RX12, TX12, 51)) rfl, h_pre _ hE hk hX hA hI hR g⟩ rfl rfl hl.1 rfl (lv_room (Nat.le_of_ble_eq_true rfl)) dX12_isLegal_62 ⟨Nat.le_of_ble_eq_true rfl, Nat.le_of_ble_eq_true rfl⟩) (fun rh10 h10 => ?_)
    have jrh10 : -2147483648 ≤ rh10.toInt ∧ rh10.toInt ≤ 2147483647 := ⟨xi_lo _, Int.le_of_lt_add_one (xi_hi _)⟩
    refine lv_icmp_le (tgt := 112) hx hb dX12_isLegal_65 (by decide) (fun c11 => ?_) (fun c11 => ?_)
    · have ic11 := (xi_le c11 rfl rfl : v9.toInt ≤ rh10.toInt)
      refine lv_iconst (v := 1) hx hb dX12_isLegal_112 (by decide) ?_
      refine lv_goto (tgt := 117) hx hb dX12_isLegal_113 (by decide) ?_
      exact W.zret (v := 1) hx hb hr (by decide) (fun t ht hW => ⟨1, rfl, ⟨(by decide), (by decide)⟩, ht⟩) (fun _ h => by cases h) dX12_isLegal_117
    · have ic11 := (xi_nle c11 rfl rfl : rh10.toInt < v9.toInt)
      refine lv_aload_n hx hb dX12_isLegal_68 rfl (lv_at hl 1 rfl) ?_
      refine lv_iload_n hx hb dX12_isLegal_69 rfl (lv_at hl 4 rfl) ?_
      refine lv_aload_n hx hb dX12_isLegal_70 rfl (lv_at hl 1 rfl) ?_
      refine h_get (v := .int v1) hx hb hts iX12 hown g t_a0 (by decide) so_13 rfl 12 (by decide) (hts (.fieldLink RX12 187 "CapLeagueModel" "clock" "I") (by decide +kernel)) rfl dX12_isLegal_71 (congrArg Value.int (ev1.symm)) ?_
      refine vp_callSi (W.runV (As := [.int i, .int v1]) (rest := []) ⟨hx, hb, hml, hown, hts⟩ (tX12_payOf l E X A z I0 L0 a0 t_a0 i (i_t) h_i (by omega) v1 (v1.toInt) rfl) (cwV 2 hts gX12_isLegal_X12_payOf rfl rfl rfl (by decide +kernel) ⟨Nat.le_of_ble_eq_true rfl, Nat.le_of_ble_eq_true rfl⟩) ⟨h_blind _ _ _ _ _ _ _, h_recv g t_a0 (by decide) so_13 (q := (RX12, TX12, 51)) rfl, h_pre _ hE hk hX hA hI hR g⟩ rfl rfl hl.1 rfl (lv_room (Nat.le_of_ble_eq_true rfl)) dX12_isLegal_74 ⟨Nat.le_of_ble_eq_true rfl, Nat.le_of_ble_eq_true rfl⟩) (fun rh12 h12 => ?_)
      have jrh12 : -2147483648 ≤ rh12.toInt ∧ rh12.toInt ≤ 2147483647 := ⟨xi_lo _, Int.le_of_lt_add_one (xi_hi _)⟩
      refine lv_aload_n hx hb dX12_isLegal_77 rfl (lv_at hl 1 rfl) ?_
      refine lv_iload_n hx hb dX12_isLegal_78 rfl (lv_at hl 3 rfl) ?_
      refine lv_aload_n hx hb dX12_isLegal_79 rfl (lv_at hl 1 rfl) ?_
      refine h_get (v := .int v1) hx hb hts iX12 hown g t_a0 (by decide) so_13 rfl 12 (by decide) (hts (.fieldLink RX12 187 "CapLeagueModel" "clock" "I") (by decide +kernel)) rfl dX12_isLegal_80 (congrArg Value.int (ev1.symm)) ?_
      refine vp_callSi (W.runV (As := [.int o, .int v1]) (rest := [.int rh12]) ⟨hx, hb, hml, hown, hts⟩ (tX12_payOf l E X A z I0 L0 a0 t_a0 o (o_t) h_o (by omega) v1 (v1.toInt) rfl) (cwV 2 hts gX12_isLegal_X12_payOf rfl rfl rfl (by decide +kernel) ⟨Nat.le_of_ble_eq_true rfl, Nat.le_of_ble_eq_true rfl⟩) ⟨h_blind _ _ _ _ _ _ _, h_recv g t_a0 (by decide) so_13 (q := (RX12, TX12, 51)) rfl, h_pre _ hE hk hX hA hI hR g⟩ rfl rfl hl.1 rfl (lv_room (Nat.le_of_ble_eq_true rfl)) dX12_isLegal_83 ⟨Nat.le_of_ble_eq_true rfl, Nat.le_of_ble_eq_true rfl⟩) (fun rh13 h13 => ?_)
      have jrh13 : -2147483648 ≤ rh13.toInt ∧ rh13.toInt ≤ 2147483647 := ⟨xi_lo _, Int.le_of_lt_add_one (xi_hi _)⟩
      refine lv_aload_n hx hb dX12_isLegal_86 rfl (lv_at hl 1 rfl) ?_
      refine lv_aload_n hx hb dX12_isLegal_87 rfl (lv_at hl 1 rfl) ?_
      refine h_get (v := .int v1) hx hb hts iX12 hown g t_a0 (by decide) so_13 rfl 12 (by decide) (hts (.fieldLink RX12 187 "CapLeagueModel" "clock" "I") (by decide +kernel)) rfl dX12_isLegal_88 (congrArg Value.int (ev1.symm)) ?_
      refine lv_iconst (v := 4) hx hb dX12_isLegal_91 (by decide) ?_
      refine vp_callSi (W.runV (As := [.int v1, .int 4]) (rest := [.int rh13, .int rh12]) ⟨hx, hb, hml, hown, hts⟩ (tX12_lawOf l E X A z I0 L0 a0 t_a0 v1 (v1.toInt) rfl (by omega) 4 (4) (by decide) (by omega)) (cwV 2 hts gX12_isLegal_X12_lawOf rfl rfl rfl (by decide +kernel) ⟨Nat.le_of_ble_eq_true rfl, Nat.le_of_ble_eq_true rfl⟩) ⟨h_blind _ _ _ _ _ _ _, h_recv g t_a0 (by decide) so_13 (q := (RX12, TX12, 51)) rfl, h_pre _ hE hk hX hA hI hR g⟩ rfl rfl hl.1 rfl (lv_room (Nat.le_of_ble_eq_true rfl)) dX12_isLegal_92 ⟨Nat.le_of_ble_eq_true rfl, Nat.le_of_ble_eq_true rfl⟩) (fun rh14 h14 => ?_)
      have jrh14 : -2147483648 ≤ rh14.toInt ∧ rh14.toInt ≤ 2147483647 := ⟨xi_lo _, Int.le_of_lt_add_one (xi_hi _)⟩
      refine lv_imul hx hb dX12_isLegal_95 ?_
      refine lv_topi (fun v15 ev15 => ?_)
      have jv15 : -2147483648 ≤ v15.toInt ∧ v15.toInt ≤ 2147483647 := ⟨xi_lo _, Int.le_of_lt_add_one (xi_hi _)⟩
      refine lv_bipush (v := 100) hx hb dX12_isLegal_96 (by decide) ?_
      refine lv_idiv hx hb dX12_isLegal_98 (by decide) ?_
      refine lv_topi (fun v16 ev16 => ?_)
      have jv16 : -2147483648 ≤ v16.toInt ∧ v16.toInt ≤ 2147483647 := ⟨xi_lo _, Int.le_of_lt_add_one (xi_hi _)⟩
      refine lv_aload_n hx hb dX12_isLegal_99 rfl (lv_at hl 1 rfl) ?_
      refine lv_aload_n hx hb dX12_isLegal_100 rfl (lv_at hl 1 rfl) ?_
      refine h_get (v := .int v1) hx hb hts iX12 hown g t_a0 (by decide) so_13 rfl 12 (by decide) (hts (.fieldLink RX12 187 "CapLeagueModel" "clock" "I") (by decide +kernel)) rfl dX12_isLegal_101 (congrArg Value.int (ev1.symm)) ?_
      refine lv_iconst (v := 5) hx hb dX12_isLegal_104 (by decide) ?_
      refine vp_callSi (W.runV (As := [.int v1, .int 5]) (rest := [.int v16, .int rh12]) ⟨hx, hb, hml, hown, hts⟩ (tX12_lawOf l E X A z I0 L0 a0 t_a0 v1 (v1.toInt) rfl (by omega) 5 (5) (by decide) (by omega)) (cwV 2 hts gX12_isLegal_X12_lawOf rfl rfl rfl (by decide +kernel) ⟨Nat.le_of_ble_eq_true rfl, Nat.le_of_ble_eq_true rfl⟩) ⟨h_blind _ _ _ _ _ _ _, h_recv g t_a0 (by decide) so_13 (q := (RX12, TX12, 51)) rfl, h_pre _ hE hk hX hA hI hR g⟩ rfl rfl hl.1 rfl (lv_room (Nat.le_of_ble_eq_true rfl)) dX12_isLegal_105 ⟨Nat.le_of_ble_eq_true rfl, Nat.le_of_ble_eq_true rfl⟩) (fun rh17 h17 => ?_)
      have jrh17 : -2147483648 ≤ rh17.toInt ∧ rh17.toInt ≤ 2147483647 := ⟨xi_lo _, Int.le_of_lt_add_one (xi_hi _)⟩
      refine lv_iadd hx hb dX12_isLegal_108 ?_
      refine lv_topi (fun v18 ev18 => ?_)
      have jv18 : -2147483648 ≤ v18.toInt ∧ v18.toInt ≤ 2147483647 := ⟨xi_lo _, Int.le_of_lt_add_one (xi_hi _)⟩
      refine lv_icmp_gt (tgt := 116) hx hb dX12_isLegal_109 (by decide) (fun c19 => ?_) (fun c19 => ?_)
      · have ic19 := (xi_lt c19 rfl rfl : v18.toInt < rh12.toInt)
        refine lv_iconst (v := 0) hx hb dX12_isLegal_116 (by decide) ?_
        exact W.zret (v := 0) hx hb hr (by decide) (fun t ht hW => ⟨0, rfl, ⟨(by decide), (by decide)⟩, ht⟩) (fun _ h => by cases h) dX12_isLegal_117
      · have ic19 := (xi_nlt c19 rfl rfl : rh12.toInt ≤ v18.toInt)
        refine lv_iconst (v := 1) hx hb dX12_isLegal_112 (by decide) ?_
        refine lv_goto (tgt := 117) hx hb dX12_isLegal_113 (by decide) ?_
        exact W.zret (v := 1) hx hb hr (by decide) (fun t ht hW => ⟨1, rfl, ⟨(by decide), (by decide)⟩, ht⟩) (fun _ h => by cases h) dX12_isLegal_117
  · have ic4 := (xi_nle c4 rfl rfl : rh3.toInt < rh2.toInt)
    refine lv_iconst (v := 0) hx hb dX12_isLegal_21 (by decide) ?_
    exact W.zret (v := 0) hx hb hr (by decide) (fun t ht hW => ⟨0, rfl, ⟨(by decide), (by decide)⟩, ht⟩) (fun _ h => by cases h) dX12_isLegal_22
set_option maxHeartbeats 4000000 in
set_option maxRecDepth 100000 in
theorem tX12_tryRing (l : Launch) (E : tE) (X : tX) (A : Nat → Prop) (z : tZ) (I0 : tI) (L0 : tL) (a0 : Nat) (t_a0 : z.ty a0 = 13) (u : Int32) (u_t : Int) (h_u : u.toInt = u_t) (b_u : 2 ≤ u_t ∧ u_t ≤ 3) : Met l yX12_tryRing wsX12_tryRing ({ frames := 6, cells := 0, slots := 0, locals := 384 }) (va_Pc [.ref a0, .int u] (h_P E X A z I0 L0)) (va_Qv (fun (I1 : tI) => h_I z I1 ∧ h_F [(13, 44), (13, 45), (1339, 999), (1340, 999)] z I0 I1 ∧ True) (fun (I1 : tI) t => h_B E A z I1 L0 t) A) 0 0 A := by
  refine Met.ofW (cc := cX12_tryRing) (maxL := 7) (ret := none) (by decide) rfl ?_
  intro pr_ ev_ s m args below meth cd_ s₁ B hml hv
  obtain ⟨rfl, hE, hk, hX, hA, hK, hI, hR, hB0⟩ := hv
  have g : h_G h_so h_fk E A z I0 L0 s s.heap s.heap [] := ⟨hK, va_S.rf, hB0⟩
  have hF : h_F [(13, 44), (13, 45), (1339, 999), (1340, 999)] z I0 I0 := h_F.rf
  have hx := B.exec
  have hb := B.bytes
  have hr := B.returns
  have hts := atoms_spec (ws := wsX12_tryRing) B.pre
  have hown : s.vm.findClass RX12 = some m.cls := findClass_of_methodNamed B.named
  have hlocks := B.notSynchronized
  have iX12 : ∀ w ∈ u_ws RX12 TX12 51, w ∈ wsX12_tryRing := by decide +kernel
  have hl := lv_entry ([.ref a0, .int u]) (n := 7) (Nat.le_of_ble_eq_true rfl)
  rw [lg_entry_eq]
  generalize (lg_sl ([.ref a0, .int u]) ++ List.replicate (7 - (lg_sl ([.ref a0, .int u])).length) Slot.unset).toArray = ls at hl ⊢
  have hl : lv_has ls 7 [(0, .ref a0), (1, .int u)] := hl
  refine lv_iconst (v := 0) hx hb dX12_tryRing_0 (by decide) ?_
  refine lv_istore_n (lv' := [(2, .int 0), (0, .ref a0), (1, .int u)]) hx hb dX12_tryRing_1 rfl hl (by decide) rfl (fun ls hl => ?_)
  refine lv_iconst (v := 0) hx hb dX12_tryRing_2 (by decide) ?_
  refine lv_istore_n (lv' := [(3, .int 0), (2, .int 0), (0, .ref a0), (1, .int u)]) hx hb dX12_tryRing_3 rfl hl (by decide) rfl (fun ls hl => ?_)
  have loop4_0 : ∀ (n : Nat) (I3 : tI) (H : Heap) (locs : List Loc) (ls : Array Slot) (v1 v2 : Int32), h_G h_so h_fk E A z I3 L0 s s.heap H locs → h_I z I3 → h_F [(13, 44), (13, 45), (1339, 999), (1340, 999)] z I0 I3 → lv_has ls 7 [(0, .ref a0), (1, .int u), (2, .int v1), (3, .int v2)] → ((-2147483648) ≤ v1.toInt ∧ v1.toInt ≤ 2147483647) → (0 ≤ v2.toInt ∧ v2.toInt ≤ 3) → (3 - v2.toInt) < (n : Int) → W pr_ l ev_ (headSpec wsX12_tryRing ({ frames := 6, cells := 0, slots := 0, locals := 384 })).room s m ([.ref a0, .int u] : List Value).toArray below meth cd_ H locs 0 0 (MQ below (va_Qv (fun (I1 : tI) => h_I z I1 ∧ h_F [(13, 44), (13, 45), (1339, 999), (1340, 999)] z I0 I1 ∧ True) (fun (I1 : tI) t => h_B E A z I1 L0 t) A) ([.ref a0, .int u] : List Value).toArray s 0 0 A) (F0 m 4 ls []) := by
    intro n
    induction n with
    | zero => intro I3 H locs ls v1 v2 g hI hF hl jv1 jv2 hn; exact absurd hn (by omega)
    | succ n ih4 =>
      intro I3 H locs ls v1 v2 g hI hF hl jv1 jv2 hn
      refine lv_iload_n hx hb dX12_tryRing_4 rfl (lv_at hl 3 rfl) ?_
      refine lv_iload_n hx hb dX12_tryRing_5 rfl (lv_at hl 1 rfl) ?_
      refine lv_icmp_ge (tgt := 71) hx hb dX12_tryRing_6 (by decide) (fun c4 => ?_) (fun c4 => ?_)
      · have ic4 := (xi_le c4 h_u rfl : u_t ≤ v2.toInt)
        refine lv_iload_n hx hb dX12_tryRing_71 rfl (lv_at hl 2 rfl) ?_
        refine lv_aload_n hx hb dX12_tryRing_72 rfl (lv_at hl 0 rfl) ?_
        refine h_get (v := .int (I3 a0 44)) hx hb hts iX12 hown g t_a0 (by decide) so_13 rfl 44 (by decide) (hts (.fieldLink RX12 280 "CapLeagueModel" "bestSum" "I") (by decide +kernel)) rfl dX12_tryRing_73 rfl ?_
        refine lv_topi (fun v5 ev5 => ?_)
        have jv5 := hI.rd a0 44 t_a0 ev5 (rfl : h_bd 13 44 = ((-2147483648), 2147483647))
        refine lv_icmp_gt (tgt := 80) hx hb dX12_tryRing_76 (by decide) (fun c6 => ?_) (fun c6 => ?_)
        · have ic6 := (xi_lt c6 rfl rfl : v5.toInt < v1.toInt)
          refine lv_iconst (v := 0) hx hb dX12_tryRing_80 (by decide) ?_
          refine lv_istore_n (lv' := [(3, .int 0), (0, .ref a0), (1, .int u), (2, .int v1)]) hx hb dX12_tryRing_81 rfl hl (by decide) rfl (fun ls hl => ?_)
          have loop82_1 : ∀ (n : Nat) (I8 : tI) (H : Heap) (locs : List Loc) (ls : Array Slot) (v7 : Int32), h_G h_so h_fk E A z I8 L0 s s.heap H locs → h_I z I8 → h_F [(13, 44), (13, 45), (1339, 999), (1340, 999)] z I0 I8 → lv_has ls 7 [(0, .ref a0), (1, .int u), (2, .int v1), (3, .int v7)] → (0 ≤ v7.toInt ∧ v7.toInt ≤ 3) → (3 - v7.toInt) < (n : Int) → W pr_ l ev_ (headSpec wsX12_tryRing ({ frames := 6, cells := 0, slots := 0, locals := 384 })).room s m ([.ref a0, .int u] : List Value).toArray below meth cd_ H locs 0 0 (MQ below (va_Qv (fun (I1 : tI) => h_I z I1 ∧ h_F [(13, 44), (13, 45), (1339, 999), (1340, 999)] z I0 I1 ∧ True) (fun (I1 : tI) t => h_B E A z I1 L0 t) A) ([.ref a0, .int u] : List Value).toArray s 0 0 A) (F0 m 82 ls []) := by
            intro n
            induction n with
            | zero => intro I8 H locs ls v7 g hI hF hl jv7 hn; exact absurd hn (by omega)
            | succ n ih82 =>
              intro I8 H locs ls v7 g hI hF hl jv7 hn
              refine lv_iload_n hx hb dX12_tryRing_82 rfl (lv_at hl 3 rfl) ?_
              refine lv_iload_n hx hb dX12_tryRing_83 rfl (lv_at hl 1 rfl) ?_
              refine lv_icmp_ge (tgt := 125) hx hb dX12_tryRing_84 (by decide) (fun c9 => ?_) (fun c9 => ?_)
              · have ic9 := (xi_le c9 h_u rfl : u_t ≤ v7.toInt)
                refine lv_aload_n hx hb dX12_tryRing_125 rfl (lv_at hl 0 rfl) ?_
                refine lv_iload_n hx hb dX12_tryRing_126 rfl (lv_at hl 2 rfl) ?_
                refine h_putI (ty := .int) (v := v1) hx hb hts iX12 tyX12 tyX12_ok nmX12 hown g t_a0 (by decide) so_13 rfl 44 (by decide) rfl (hts (.fieldLink RX12 280 "CapLeagueModel" "bestSum" "I") (by decide +kernel)) rfl rfl (by decide +kernel) rfl rfl dX12_tryRing_127 (fun I10 H locs eI10 g => ?_)
                have hI := hI.wr eI10 t_a0 (rfl : h_bd 13 44 = ((-2147483648), 2147483647)) (xi_lo _) (Int.le_of_lt_add_one (xi_hi _))
                have hF := hF.wr eI10 t_a0 rfl
                refine lv_aload_n hx hb dX12_tryRing_130 rfl (lv_at hl 0 rfl) ?_
                refine lv_iload_n hx hb dX12_tryRing_131 rfl (lv_at hl 1 rfl) ?_
                refine h_putI (ty := .int) (v := u) hx hb hts iX12 tyX12 tyX12_ok nmX12 hown g t_a0 (by decide) so_13 rfl 45 (by decide) rfl (hts (.fieldLink RX12 286 "CapLeagueModel" "bestMany" "I") (by decide +kernel)) rfl rfl (by decide +kernel) rfl rfl dX12_tryRing_132 (fun I11 H locs eI11 g => ?_)
                have hI := hI.wr eI11 t_a0 (rfl : h_bd 13 45 = (0, 3)) (by rw [h_u]; omega) (by rw [h_u]; omega)
                have hF := hF.wr eI11 t_a0 rfl
                refine lv_iconst (v := 0) hx hb dX12_tryRing_135 (by decide) ?_
                refine lv_istore_n (lv' := [(3, .int 0), (0, .ref a0), (1, .int u), (2, .int v1)]) hx hb dX12_tryRing_136 rfl hl (by decide) rfl (fun ls hl => ?_)
                have loop137_2 : ∀ (n : Nat) (I13 : tI) (H : Heap) (locs : List Loc) (ls : Array Slot) (v12 : Int32), h_G h_so h_fk E A z I13 L0 s s.heap H locs → h_I z I13 → h_F [(13, 44), (13, 45), (1339, 999), (1340, 999)] z I0 I13 → lv_has ls 7 [(0, .ref a0), (1, .int u), (3, .int v12)] → (0 ≤ v12.toInt ∧ v12.toInt ≤ 3) → (3 - v12.toInt) < (n : Int) → W pr_ l ev_ (headSpec wsX12_tryRing ({ frames := 6, cells := 0, slots := 0, locals := 384 })).room s m ([.ref a0, .int u] : List Value).toArray below meth cd_ H locs 0 0 (MQ below (va_Qv (fun (I1 : tI) => h_I z I1 ∧ h_F [(13, 44), (13, 45), (1339, 999), (1340, 999)] z I0 I1 ∧ True) (fun (I1 : tI) t => h_B E A z I1 L0 t) A) ([.ref a0, .int u] : List Value).toArray s 0 0 A) (F0 m 137 ls []) := by
                  intro n
                  induction n with
                  | zero => intro I13 H locs ls v12 g hI hF hl jv12 hn; exact absurd hn (by omega)
                  | succ n ih137 =>
                    intro I13 H locs ls v12 g hI hF hl jv12 hn
                    refine lv_iload_n hx hb dX12_tryRing_137 rfl (lv_at hl 2 rfl) ?_
                    refine lv_iload_n hx hb dX12_tryRing_138 rfl (lv_at hl 1 rfl) ?_
                    refine lv_icmp_ge (tgt := 172) hx hb dX12_tryRing_139 (by decide) (fun c14 => ?_) (fun c14 => ?_)
                    · have ic14 := (xi_le c14 h_u rfl : u_t ≤ v12.toInt)
                      have hS := g.2.1
                      exact W.vret hx hb hr (fun t ht hW => ⟨⟨I13, rfl, ⟨hI, hF, trivial⟩, h_ret g ht⟩, hS.F ht⟩) hS.2.2 dX12_tryRing_172
                    · have ic14 := (xi_nle c14 h_u rfl : v12.toInt < u_t)
                      refine lv_aload_n hx hb dX12_tryRing_142 rfl (lv_at hl 0 rfl) ?_
                      obtain ⟨b15, rb15, tb15⟩ := hR.at a0 39 t_a0 (rfl : h_rs 13 39 = some (1339, false)) (by decide)
                      refine h_get (v := .ref b15) hx hb hts iX12 hown g t_a0 (by decide) so_13 rfl 39 (by decide) (hts (.fieldLink RX12 91 "CapLeagueModel" "ringClub" "[I") (by decide +kernel)) rfl dX12_tryRing_143 (by show va_rf (z.R a0 39) = _; rw [rb15]; rfl) ?_
                      refine lv_iload_n hx hb dX12_tryRing_146 rfl (lv_at hl 2 rfl) ?_
                      refine lv_aload_n hx hb dX12_tryRing_147 rfl (lv_at hl 0 rfl) ?_
                      obtain ⟨b16, rb16, tb16⟩ := hR.at a0 42 t_a0 (rfl : h_rs 13 42 = some (1342, false)) (by decide)
                      refine h_get (v := .ref b16) hx hb hts iX12 hown g t_a0 (by decide) so_13 rfl 42 (by decide) (hts (.fieldLink RX12 97 "CapLeagueModel" "triedClub" "[I") (by decide +kernel)) rfl dX12_tryRing_148 (by show va_rf (z.R a0 42) = _; rw [rb16]; rfl) ?_
                      refine lv_iload_n hx hb dX12_tryRing_151 rfl (lv_at hl 2 rfl) ?_
                      refine h_ald hx hb g tb16 (by decide) so_1342 (xi_in (by omega) (by omega)) dX12_tryRing_152 ?_
                      refine lv_topi (fun v17 ev17 => ?_)
                      have jv17 := hI.rd b16 v12.toNatClampNeg tb16 ev17 (rfl : h_bd 1342 _ = (0, 7))
                      refine h_ast hx hb g tb15 (by decide) so_1339 (xi_in (by omega) (by omega)) dX12_tryRing_153 (fun I18 H locs eI18 g => ?_)
                      have hI := hI.wr eI18 tb15 (rfl : h_bd 1339 _ = ((-2147483648), 2147483647)) (xi_lo _) (Int.le_of_lt_add_one (xi_hi _))
                      have hF := hF.wr eI18 tb15 rfl
                      refine lv_aload_n hx hb dX12_tryRing_154 rfl (lv_at hl 0 rfl) ?_
                      obtain ⟨b19, rb19, tb19⟩ := hR.at a0 40 t_a0 (rfl : h_rs 13 40 = some (1340, false)) (by decide)
                      refine h_get (v := .ref b19) hx hb hts iX12 hown g t_a0 (by decide) so_13 rfl 40 (by decide) (hts (.fieldLink RX12 94 "CapLeagueModel" "ringGives" "[I") (by decide +kernel)) rfl dX12_tryRing_155 (by show va_rf (z.R a0 40) = _; rw [rb19]; rfl) ?_
                      refine lv_iload_n hx hb dX12_tryRing_158 rfl (lv_at hl 2 rfl) ?_
                      refine lv_aload_n hx hb dX12_tryRing_159 rfl (lv_at hl 0 rfl) ?_
                      obtain ⟨b20, rb20, tb20⟩ := hR.at a0 43 t_a0 (rfl : h_rs 13 43 = some (1343, false)) (by decide)
                      refine h_get (v := .ref b20) hx hb hts iX12 hown g t_a0 (by decide) so_13 rfl 43 (by decide) (hts (.fieldLink RX12 100 "CapLeagueModel" "triedGives" "[I") (by decide +kernel)) rfl dX12_tryRing_160 (by show va_rf (z.R a0 43) = _; rw [rb20]; rfl) ?_
                      refine lv_iload_n hx hb dX12_tryRing_163 rfl (lv_at hl 2 rfl) ?_
                      refine h_ald hx hb g tb20 (by decide) so_1343 (xi_in (by omega) (by omega)) dX12_tryRing_164 ?_
                      refine lv_topi (fun v21 ev21 => ?_)
                      have jv21 := hI.rd b20 v12.toNatClampNeg tb20 ev21 (rfl : h_bd 1343 _ = (0, 59))
                      refine h_ast hx hb g tb19 (by decide) so_1340 (xi_in (by omega) (by omega)) dX12_tryRing_165 (fun I22 H locs eI22 g => ?_)
                      have hI := hI.wr eI22 tb19 (rfl : h_bd 1340 _ = ((-2147483648), 2147483647)) (xi_lo _) (Int.le_of_lt_add_one (xi_hi _))
                      have hF := hF.wr eI22 tb19 rfl
                      obtain ⟨v23, ev23⟩ : ∃ z : Int32, z = v12 + 1 := ⟨_, rfl⟩
                      have jv23 : v23.toInt = v12.toInt + 1 := xi_add ev23 rfl (by decide) (by omega) (by omega)
                      refine lv_iinc (v := v23) (lv' := [(3, .int v23), (0, .ref a0), (1, .int u)]) hx hb dX12_tryRing_166 hl (k := 2) rfl (by rw [ev23]; rfl) (by decide) rfl (fun ls hl => ?_)
                      refine lv_goto (tgt := 137) hx hb dX12_tryRing_169 (by decide) ?_
                      exact ih137 I22 _ _ _ v23 g hI hF (lv_sub hl [1, 2, 0] rfl) (by omega) (by omega)
                exact loop137_2 _ I11 _ _ _ (0) g hI hF (lv_sub hl [1, 2, 0] rfl) ⟨by decide, by decide⟩ (show (3 - (0 : Int)) < (((3 - (0 : Int)).toNat + 1 : Nat) : Int) by omega)
              · have ic9 := (xi_nle c9 h_u rfl : v7.toInt < u_t)
                refine lv_aload_n hx hb dX12_tryRing_87 rfl (lv_at hl 0 rfl) ?_
                refine lv_aload_n hx hb dX12_tryRing_88 rfl (lv_at hl 0 rfl) ?_
                obtain ⟨b24, rb24, tb24⟩ := hR.at a0 42 t_a0 (rfl : h_rs 13 42 = some (1342, false)) (by decide)
                refine h_get (v := .ref b24) hx hb hts iX12 hown g t_a0 (by decide) so_13 rfl 42 (by decide) (hts (.fieldLink RX12 97 "CapLeagueModel" "triedClub" "[I") (by decide +kernel)) rfl dX12_tryRing_89 (by show va_rf (z.R a0 42) = _; rw [rb24]; rfl) ?_
                refine lv_iload_n hx hb dX12_tryRing_92 rfl (lv_at hl 3 rfl) ?_
                refine h_ald hx hb g tb24 (by decide) so_1342 (xi_in (by omega) (by omega)) dX12_tryRing_93 ?_
                refine lv_topi (fun v25 ev25 => ?_)
                have jv25 := hI.rd b24 v7.toNatClampNeg tb24 ev25 (rfl : h_bd 1342 _ = (0, 7))
                refine lv_aload_n hx hb dX12_tryRing_94 rfl (lv_at hl 0 rfl) ?_
                obtain ⟨b26, rb26, tb26⟩ := hR.at a0 43 t_a0 (rfl : h_rs 13 43 = some (1343, false)) (by decide)
                refine h_get (v := .ref b26) hx hb hts iX12 hown g t_a0 (by decide) so_13 rfl 43 (by decide) (hts (.fieldLink RX12 100 "CapLeagueModel" "triedGives" "[I") (by decide +kernel)) rfl dX12_tryRing_95 (by show va_rf (z.R a0 43) = _; rw [rb26]; rfl) ?_
                refine lv_iload_n hx hb dX12_tryRing_98 rfl (lv_at hl 3 rfl) ?_
                refine h_ald hx hb g tb26 (by decide) so_1343 (xi_in (by omega) (by omega)) dX12_tryRing_99 ?_
                refine lv_topi (fun v27 ev27 => ?_)
                have jv27 := hI.rd b26 v7.toNatClampNeg tb26 ev27 (rfl : h_bd 1343 _ = (0, 59))
                refine lv_aload_n hx hb dX12_tryRing_100 rfl (lv_at hl 0 rfl) ?_
                refine h_get (v := .ref b26) hx hb hts iX12 hown g t_a0 (by decide) so_13 rfl 43 (by decide) (hts (.fieldLink RX12 100 "CapLeagueModel" "triedGives" "[I") (by decide +kernel)) rfl dX12_tryRing_101 (by show va_rf (z.R a0 43) = _; rw [rb26]; rfl) ?_
                refine lv_iload_n hx hb dX12_tryRing_104 rfl (lv_at hl 3 rfl) ?_
                refine lv_iload_n hx hb dX12_tryRing_105 rfl (lv_at hl 1 rfl) ?_
                refine lv_iadd hx hb dX12_tryRing_106 ?_
                refine lv_topi (fun v28 ev28 => ?_)
                have jv28 : v28.toInt = v7.toInt + u_t := xi_add ev28 rfl h_u (by omega) (by omega)
                refine lv_iconst (v := 1) hx hb dX12_tryRing_107 (by decide) ?_
                refine lv_isub hx hb dX12_tryRing_108 ?_
                refine lv_topi (fun v29 ev29 => ?_)
                have jv29 : v29.toInt = v28.toInt - 1 := xi_sub ev29 rfl (by decide) (by omega) (by omega)
                refine lv_iload_n hx hb dX12_tryRing_109 rfl (lv_at hl 1 rfl) ?_
                refine lv_irem hx hb dX12_tryRing_110 (h_ne0 (by rw [h_u]; omega)) ?_
                refine lv_topi (fun v30 ev30 => ?_)
                have jv30 := h_rem ev30 (by omega) (by omega)
                refine h_ald hx hb g tb26 (by decide) so_1343 (xi_in (by omega) (by omega)) dX12_tryRing_111 ?_
                refine lv_topi (fun v31 ev31 => ?_)
                have jv31 := hI.rd b26 v30.toNatClampNeg tb26 ev31 (rfl : h_bd 1343 _ = (0, 59))
                refine vp_callSi (W.runV (As := [.int v25, .int v27, .int v31]) (rest := []) ⟨hx, hb, hml, hown, hts⟩ (tX12_isLegal l E X A z I8 L0 a0 t_a0 v25 (v25.toInt) rfl (by omega) v27 (v27.toInt) rfl (by omega) v31 (v31.toInt) rfl (by omega)) (cwV 3 hts gX12_tryRing_X12_isLegal rfl rfl rfl (by decide +kernel) ⟨Nat.le_of_ble_eq_true rfl, Nat.le_of_ble_eq_true rfl⟩) ⟨h_blind _ _ _ _ _ _ _, h_recv g t_a0 (by decide) so_13 (q := (RX12, TX12, 51)) rfl, h_pre _ hE hk hX hA hI hR g⟩ rfl rfl hl.1 rfl (lv_room (Nat.le_of_ble_eq_true rfl)) dX12_tryRing_112 ⟨Nat.le_of_ble_eq_true rfl, Nat.le_of_ble_eq_true rfl⟩) (fun rh32 h32 => ?_)
                refine lv_if_ne (tgt := 119) hx hb dX12_tryRing_115 (by decide) (fun c33 => ?_) (fun c33 => ?_)
                · have ic33 := (xi_ne c33 rfl (by decide) : rh32.toInt ≠ 0)
                  obtain ⟨v34, ev34⟩ : ∃ z : Int32, z = v7 + 1 := ⟨_, rfl⟩
                  have jv34 : v34.toInt = v7.toInt + 1 := xi_add ev34 rfl (by decide) (by omega) (by omega)
                  refine lv_iinc (v := v34) (lv' := [(3, .int v34), (0, .ref a0), (1, .int u), (2, .int v1)]) hx hb dX12_tryRing_119 hl (k := 3) rfl (by rw [ev34]; rfl) (by decide) rfl (fun ls hl => ?_)
                  refine lv_goto (tgt := 82) hx hb dX12_tryRing_122 (by decide) ?_
                  exact ih82 I8 _ _ _ v34 g hI hF (lv_sub hl [1, 2, 3, 0] rfl) (by omega) (by omega)
                · have ic33 := (xi_eq c33 rfl (by decide) : rh32.toInt = 0)
                  have hS := g.2.1
                  exact W.vret hx hb hr (fun t ht hW => ⟨⟨I8, rfl, ⟨hI, hF, trivial⟩, h_ret g ht⟩, hS.F ht⟩) hS.2.2 dX12_tryRing_118
          exact loop82_1 _ I3 _ _ _ (0) g hI hF (lv_sub hl [1, 2, 3, 0] rfl) ⟨by decide, by decide⟩ (show (3 - (0 : Int)) < (((3 - (0 : Int)).toNat + 1 : Nat) : Int) by omega)
        · have ic6 := (xi_nlt c6 rfl rfl : v1.toInt ≤ v5.toInt)
          have hS := g.2.1
          exact W.vret hx hb hr (fun t ht hW => ⟨⟨I3, rfl, ⟨hI, hF, trivial⟩, h_ret g ht⟩, hS.F ht⟩) hS.2.2 dX12_tryRing_79
      · have ic4 := (xi_nle c4 h_u rfl : v2.toInt < u_t)
        refine lv_iload_n hx hb dX12_tryRing_9 rfl (lv_at hl 3 rfl) ?_
        refine lv_iload_n hx hb dX12_tryRing_10 rfl (lv_at hl 1 rfl) ?_
        refine lv_iadd hx hb dX12_tryRing_11 ?_
        refine lv_topi (fun v35 ev35 => ?_)
        have jv35 : v35.toInt = v2.toInt + u_t := xi_add ev35 rfl h_u (by omega) (by omega)
        refine lv_iconst (v := 1) hx hb dX12_tryRing_12 (by decide) ?_
        refine lv_isub hx hb dX12_tryRing_13 ?_
        refine lv_topi (fun v36 ev36 => ?_)
        have jv36 : v36.toInt = v35.toInt - 1 := xi_sub ev36 rfl (by decide) (by omega) (by omega)
        refine lv_iload_n hx hb dX12_tryRing_14 rfl (lv_at hl 1 rfl) ?_
        refine lv_irem hx hb dX12_tryRing_15 (h_ne0 (by rw [h_u]; omega)) ?_
        refine lv_topi (fun v37 ev37 => ?_)
        have jv37 := h_rem ev37 (by omega) (by omega)
        refine lv_istore (lv' := [(4, .int v37), (0, .ref a0), (1, .int u), (2, .int v1), (3, .int v2)]) hx hb dX12_tryRing_16 hl (by decide) rfl (fun ls hl => ?_)
        refine lv_aload_n hx hb dX12_tryRing_18 rfl (lv_at hl 1 rfl) ?_
        obtain ⟨b38, rb38, tb38⟩ := hR.at a0 42 t_a0 (rfl : h_rs 13 42 = some (1342, false)) (by decide)
        refine h_get (v := .ref b38) hx hb hts iX12 hown g t_a0 (by decide) so_13 rfl 42 (by decide) (hts (.fieldLink RX12 97 "CapLeagueModel" "triedClub" "[I") (by decide +kernel)) rfl dX12_tryRing_19 (by show va_rf (z.R a0 42) = _; rw [rb38]; rfl) ?_
        refine lv_iload_n hx hb dX12_tryRing_22 rfl (lv_at hl 4 rfl) ?_
        refine h_ald hx hb g tb38 (by decide) so_1342 (xi_in (by omega) (by omega)) dX12_tryRing_23 ?_
        refine lv_topi (fun v39 ev39 => ?_)
        have jv39 := hI.rd b38 v2.toNatClampNeg tb38 ev39 (rfl : h_bd 1342 _ = (0, 7))
        refine lv_istore (lv' := [(5, .int v39), (4, .int v37), (0, .ref a0), (1, .int u), (2, .int v1), (3, .int v2)]) hx hb dX12_tryRing_24 hl (by decide) rfl (fun ls hl => ?_)
        refine lv_aload_n hx hb dX12_tryRing_26 rfl (lv_at hl 2 rfl) ?_
        refine lv_iload hx hb dX12_tryRing_27 (lv_at hl 0 rfl) ?_
        refine lv_aload_n hx hb dX12_tryRing_29 rfl (lv_at hl 2 rfl) ?_
        obtain ⟨b40, rb40, tb40⟩ := hR.at a0 43 t_a0 (rfl : h_rs 13 43 = some (1343, false)) (by decide)
        refine h_get (v := .ref b40) hx hb hts iX12 hown g t_a0 (by decide) so_13 rfl 43 (by decide) (hts (.fieldLink RX12 100 "CapLeagueModel" "triedGives" "[I") (by decide +kernel)) rfl dX12_tryRing_30 (by show va_rf (z.R a0 43) = _; rw [rb40]; rfl) ?_
        refine lv_iload hx hb dX12_tryRing_33 (lv_at hl 1 rfl) ?_
        refine h_ald hx hb g tb40 (by decide) so_1343 (xi_in (by omega) (by omega)) dX12_tryRing_35 ?_
        refine lv_topi (fun v41 ev41 => ?_)
        have jv41 := hI.rd b40 v37.toNatClampNeg tb40 ev41 (rfl : h_bd 1343 _ = (0, 59))
        refine vp_callSi (W.runV (As := [.int v39, .int v41]) (rest := []) ⟨hx, hb, hml, hown, hts⟩ (tX12_worthTo l E X A z I3 L0 a0 t_a0 v39 (v39.toInt) rfl (by omega) v41 (v41.toInt) rfl (by omega)) (cwV 2 hts gX12_tryRing_X12_worthTo rfl rfl rfl (by decide +kernel) ⟨Nat.le_of_ble_eq_true rfl, Nat.le_of_ble_eq_true rfl⟩) ⟨h_blind _ _ _ _ _ _ _, h_recv g t_a0 (by decide) so_13 (q := (RX12, TX12, 51)) rfl, h_pre _ hE hk hX hA hI hR g⟩ rfl rfl hl.1 rfl (lv_room (Nat.le_of_ble_eq_true rfl)) dX12_tryRing_36 ⟨Nat.le_of_ble_eq_true rfl, Nat.le_of_ble_eq_true rfl⟩) (fun rh42 h42 => ?_)
        have jrh42 : -2147483648 ≤ rh42.toInt ∧ rh42.toInt ≤ 2147483647 := ⟨xi_lo _, Int.le_of_lt_add_one (xi_hi _)⟩
        refine lv_aload_n hx hb dX12_tryRing_39 rfl (lv_at hl 2 rfl) ?_
        refine lv_iload hx hb dX12_tryRing_40 (lv_at hl 0 rfl) ?_
        refine lv_aload_n hx hb dX12_tryRing_42 rfl (lv_at hl 2 rfl) ?_
        refine h_get (v := .ref b40) hx hb hts iX12 hown g t_a0 (by decide) so_13 rfl 43 (by decide) (hts (.fieldLink RX12 100 "CapLeagueModel" "triedGives" "[I") (by decide +kernel)) rfl dX12_tryRing_43 (by show va_rf (z.R a0 43) = _; rw [rb40]; rfl) ?_
        refine lv_iload_n hx hb dX12_tryRing_46 rfl (lv_at hl 5 rfl) ?_
        refine h_ald hx hb g tb40 (by decide) so_1343 (xi_in (by omega) (by omega)) dX12_tryRing_47 ?_
        refine lv_topi (fun v43 ev43 => ?_)
        have jv43 := hI.rd b40 v2.toNatClampNeg tb40 ev43 (rfl : h_bd 1343 _ = (0, 59))
        refine vp_callSi (W.runV (As := [.int v39, .int v43]) (rest := [.int rh42]) ⟨hx, hb, hml, hown, hts⟩ (tX12_worthTo l E X A z I3 L0 a0 t_a0 v39 (v39.toInt) rfl (by omega) v43 (v43.toInt) rfl (by omega)) (cwV 2 hts gX12_tryRing_X12_worthTo rfl rfl rfl (by decide +kernel) ⟨Nat.le_of_ble_eq_true rfl, Nat.le_of_ble_eq_true rfl⟩) ⟨h_blind _ _ _ _ _ _ _, h_recv g t_a0 (by decide) so_13 (q := (RX12, TX12, 51)) rfl, h_pre _ hE hk hX hA hI hR g⟩ rfl rfl hl.1 rfl (lv_room (Nat.le_of_ble_eq_true rfl)) dX12_tryRing_48 ⟨Nat.le_of_ble_eq_true rfl, Nat.le_of_ble_eq_true rfl⟩) (fun rh44 h44 => ?_)
        have jrh44 : -2147483648 ≤ rh44.toInt ∧ rh44.toInt ≤ 2147483647 := ⟨xi_lo _, Int.le_of_lt_add_one (xi_hi _)⟩
        refine lv_isub hx hb dX12_tryRing_51 ?_
        refine lv_topi (fun v45 ev45 => ?_)
        have jv45 : -2147483648 ≤ v45.toInt ∧ v45.toInt ≤ 2147483647 := ⟨xi_lo _, Int.le_of_lt_add_one (xi_hi _)⟩
        refine lv_istore (lv' := [(6, .int v45), (5, .int v39), (4, .int v37), (0, .ref a0), (1, .int u), (2, .int v1), (3, .int v2)]) hx hb dX12_tryRing_52 hl (by decide) rfl (fun ls hl => ?_)
        refine lv_iload hx hb dX12_tryRing_54 (lv_at hl 0 rfl) ?_
        refine lv_if_gt (tgt := 60) hx hb dX12_tryRing_56 (by decide) (fun c46 => ?_) (fun c46 => ?_)
        · have ic46 := (xi_lt c46 (by decide) rfl : 0 < v45.toInt)
          refine lv_iload_n hx hb dX12_tryRing_60 rfl (lv_at hl 5 rfl) ?_
          refine lv_iload hx hb dX12_tryRing_61 (lv_at hl 0 rfl) ?_
          refine lv_iadd hx hb dX12_tryRing_63 ?_
          refine lv_topi (fun v47 ev47 => ?_)
          have jv47 : -2147483648 ≤ v47.toInt ∧ v47.toInt ≤ 2147483647 := ⟨xi_lo _, Int.le_of_lt_add_one (xi_hi _)⟩
          refine lv_istore_n (lv' := [(2, .int v47), (6, .int v45), (5, .int v39), (4, .int v37), (0, .ref a0), (1, .int u), (3, .int v2)]) hx hb dX12_tryRing_64 rfl hl (by decide) rfl (fun ls hl => ?_)
          obtain ⟨v48, ev48⟩ : ∃ z : Int32, z = v2 + 1 := ⟨_, rfl⟩
          have jv48 : v48.toInt = v2.toInt + 1 := xi_add ev48 rfl (by decide) (by omega) (by omega)
          refine lv_iinc (v := v48) (lv' := [(3, .int v48), (2, .int v47), (6, .int v45), (5, .int v39), (4, .int v37), (0, .ref a0), (1, .int u)]) hx hb dX12_tryRing_65 hl (k := 6) rfl (by rw [ev48]; rfl) (by decide) rfl (fun ls hl => ?_)
          refine lv_goto (tgt := 4) hx hb dX12_tryRing_68 (by decide) ?_
          exact ih4 I3 _ _ _ v47 v48 g hI hF (lv_sub hl [5, 6, 1, 0] rfl) (by omega) (by omega) (by omega)
        · have ic46 := (xi_nlt c46 (by decide) rfl : v45.toInt ≤ 0)
          have hS := g.2.1
          exact W.vret hx hb hr (fun t ht hW => ⟨⟨I3, rfl, ⟨hI, hF, trivial⟩, h_ret g ht⟩, hS.F ht⟩) hS.2.2 dX12_tryRing_59
  exact loop4_0 _ I0 _ _ _ (0) (0) g hI hF (lv_sub hl [2, 3, 1, 0] rfl) ⟨by decide, by decide⟩ ⟨by decide, by decide⟩ (show (3 - (0 : Int)) < (((3 - (0 : Int)).toNat + 1 : Nat) : Int) by omega)
set_option maxHeartbeats 4000000 in
set_option maxRecDepth 100000 in
theorem tX12_givers0 (l : Launch) (E : tE) (X : tX) (A : Nat → Prop) (z : tZ) (I0 : tI) (L0 : tL) (a0 : Nat) (t_a0 : z.ty a0 = 13) (i : Int32) (i_t : Int) (h_i : i.toInt = i_t) (b_i : 2 ≤ i_t ∧ i_t ≤ 3) (u : Int32) (u_t : Int) (h_u : u.toInt = u_t) (b_u : 2 ≤ u_t ∧ u_t ≤ 3) (hi : i_t = u_t) : Met l yX12_givers wsX12_givers ({ frames := 7, cells := 0, slots := 0, locals := 448 }) (va_Pc [.ref a0, .int i, .int u] (h_P E X A z I0 L0)) (va_Qv (fun (I1 : tI) => h_I z I1 ∧ h_F [(13, 44), (13, 45), (1339, 999), (1340, 999), (1343, 999)] z I0 I1 ∧ True) (fun (I1 : tI) t => h_B E A z I1 L0 t) A) 0 0 A := by
  refine Met.ofW (cc := cX12_givers) (maxL := 4) (ret := none) (by decide) rfl ?_
  intro pr_ ev_ s m args below meth cd_ s₁ B hml hv
  obtain ⟨rfl, hE, hk, hX, hA, hK, hI, hR, hB0⟩ := hv
  have g : h_G h_so h_fk E A z I0 L0 s s.heap s.heap [] := ⟨hK, va_S.rf, hB0⟩
  have hF : h_F [(13, 44), (13, 45), (1339, 999), (1340, 999), (1343, 999)] z I0 I0 := h_F.rf
  have hx := B.exec
  have hb := B.bytes
  have hr := B.returns
  have hts := atoms_spec (ws := wsX12_givers) B.pre
  have hown : s.vm.findClass RX12 = some m.cls := findClass_of_methodNamed B.named
  have hlocks := B.notSynchronized
  have iX12 : ∀ w ∈ u_ws RX12 TX12 51, w ∈ wsX12_givers := by decide +kernel
  have hl := lv_entry ([.ref a0, .int i, .int u]) (n := 4) (Nat.le_of_ble_eq_true rfl)
  rw [lg_entry_eq]
  generalize (lg_sl ([.ref a0, .int i, .int u]) ++ List.replicate (4 - (lg_sl ([.ref a0, .int i, .int u])).length) Slot.unset).toArray = ls at hl ⊢
  have hl : lv_has ls 4 [(0, .ref a0), (1, .int i), (2, .int u)] := hl
  refine lv_iload_n hx hb dX12_givers_0 rfl (lv_at hl 1 rfl) ?_
  refine lv_iload_n hx hb dX12_givers_1 rfl (lv_at hl 2 rfl) ?_
  refine lv_icmp_ne (tgt := 11) hx hb dX12_givers_2 (by decide) (fun h => absurd (xi_ne h h_i h_u : i_t ≠ u_t) (by omega)) (fun c1 => ?_)
  have ic1 := (xi_eq c1 h_i h_u : i_t = u_t)
  refine lv_aload_n hx hb dX12_givers_5 rfl (lv_at hl 0 rfl) ?_
  refine lv_iload_n hx hb dX12_givers_6 rfl (lv_at hl 2 rfl) ?_
  refine va_callv (va_runV (As := [.int u]) (rest := []) ⟨hx, hb, hml, hown, hts⟩ (tX12_tryRing l E X A z I0 L0 a0 t_a0 u (u_t) h_u (by omega)) (cwV 1 hts gX12_givers_X12_tryRing rfl rfl rfl (by decide +kernel) ⟨Nat.le_of_ble_eq_true rfl, Nat.le_of_ble_eq_true rfl⟩) ⟨h_blind _ _ _ _ _ _ _, h_recv g t_a0 (by decide) so_13 (q := (RX12, TX12, 51)) rfl, h_pre _ hE hk hX hA hI hR g⟩ rfl rfl hl.1 rfl (lv_room (Nat.le_of_ble_eq_true rfl)) dX12_givers_7 ⟨Nat.le_of_ble_eq_true rfl, Nat.le_of_ble_eq_true rfl⟩) g.2.1 (fun q _ h => h) (fun q h => h) (fun I3 t H1 locs ht hvm h2 hB hz1 hk1 hS => ?_)
  obtain ⟨hI, fh2, h2⟩ := h2
  replace g := h_after g hB ht hS
  generalize H1 = H at g
  clear hB hk1 hz1 ht hvm hS
  have hF := hF.call fh2 rfl
  have hS := g.2.1
  exact W.vret hx hb hr (fun t ht hW => ⟨⟨I3, rfl, ⟨hI, hF, trivial⟩, h_ret g ht⟩, hS.F ht⟩) hS.2.2 dX12_givers_10
set_option maxHeartbeats 4000000 in
set_option maxRecDepth 100000 in
theorem tX12_givers1 (l : Launch) (E : tE) (X : tX) (A : Nat → Prop) (z : tZ) (I0 : tI) (L0 : tL) (a0 : Nat) (t_a0 : z.ty a0 = 13) (i : Int32) (i_t : Int) (h_i : i.toInt = i_t) (b_i : 1 ≤ i_t ∧ i_t ≤ 2) (u : Int32) (u_t : Int) (h_u : u.toInt = u_t) (b_u : 2 ≤ u_t ∧ u_t ≤ 3) (hi : i_t = u_t - 1) : Met l yX12_givers wsX12_givers ({ frames := 8, cells := 0, slots := 0, locals := 512 }) (va_Pc [.ref a0, .int i, .int u] (h_P E X A z I0 L0)) (va_Qv (fun (I1 : tI) => h_I z I1 ∧ h_F [(13, 44), (13, 45), (1339, 999), (1340, 999), (1343, 999)] z I0 I1 ∧ True) (fun (I1 : tI) t => h_B E A z I1 L0 t) A) 0 0 A := by
  refine Met.ofW (cc := cX12_givers) (maxL := 4) (ret := none) (by decide) rfl ?_
  intro pr_ ev_ s m args below meth cd_ s₁ B hml hv
  obtain ⟨rfl, hE, hk, hX, hA, hK, hI, hR, hB0⟩ := hv
  have g : h_G h_so h_fk E A z I0 L0 s s.heap s.heap [] := ⟨hK, va_S.rf, hB0⟩
  have hF : h_F [(13, 44), (13, 45), (1339, 999), (1340, 999), (1343, 999)] z I0 I0 := h_F.rf
  have hx := B.exec
  have hb := B.bytes
  have hr := B.returns
  have hts := atoms_spec (ws := wsX12_givers) B.pre
  have hown : s.vm.findClass RX12 = some m.cls := findClass_of_methodNamed B.named
  have hlocks := B.notSynchronized
  have iX12 : ∀ w ∈ u_ws RX12 TX12 51, w ∈ wsX12_givers := by decide +kernel
  have hl := lv_entry ([.ref a0, .int i, .int u]) (n := 4) (Nat.le_of_ble_eq_true rfl)
  rw [lg_entry_eq]
  generalize (lg_sl ([.ref a0, .int i, .int u]) ++ List.replicate (4 - (lg_sl ([.ref a0, .int i, .int u])).length) Slot.unset).toArray = ls at hl ⊢
  have hl : lv_has ls 4 [(0, .ref a0), (1, .int i), (2, .int u)] := hl
  refine lv_iload_n hx hb dX12_givers_0 rfl (lv_at hl 1 rfl) ?_
  refine lv_iload_n hx hb dX12_givers_1 rfl (lv_at hl 2 rfl) ?_
  refine lv_icmp_ne (tgt := 11) hx hb dX12_givers_2 (by decide) (fun c1 => ?_) (fun h => absurd (xi_eq h h_i h_u : i_t = u_t) (by omega))
  have ic1 := (xi_ne c1 h_i h_u : i_t ≠ u_t)
  refine lv_iconst (v := 0) hx hb dX12_givers_11 (by decide) ?_
  refine lv_istore_n (lv' := [(3, .int 0), (0, .ref a0), (1, .int i), (2, .int u)]) hx hb dX12_givers_12 rfl hl (by decide) rfl (fun ls hl => ?_)
  have loop13_0 : ∀ (n : Nat) (I3 : tI) (H : Heap) (locs : List Loc) (ls : Array Slot) (v2 : Int32), h_G h_so h_fk E A z I3 L0 s s.heap H locs → h_I z I3 → h_F [(13, 44), (13, 45), (1339, 999), (1340, 999), (1343, 999)] z I0 I3 → lv_has ls 4 [(0, .ref a0), (1, .int i), (2, .int u), (3, .int v2)] → (0 ≤ v2.toInt ∧ v2.toInt ≤ 60) → (60 - v2.toInt) < (n : Int) → W pr_ l ev_ (headSpec wsX12_givers ({ frames := 8, cells := 0, slots := 0, locals := 512 })).room s m ([.ref a0, .int i, .int u] : List Value).toArray below meth cd_ H locs 0 0 (MQ below (va_Qv (fun (I1 : tI) => h_I z I1 ∧ h_F [(13, 44), (13, 45), (1339, 999), (1340, 999), (1343, 999)] z I0 I1 ∧ True) (fun (I1 : tI) t => h_B E A z I1 L0 t) A) ([.ref a0, .int i, .int u] : List Value).toArray s 0 0 A) (F0 m 13 ls []) := by
    intro n
    induction n with
    | zero => intro I3 H locs ls v2 g hI hF hl jv2 hn; exact absurd hn (by omega)
    | succ n ih13 =>
      intro I3 H locs ls v2 g hI hF hl jv2 hn
      refine lv_iload_n hx hb dX12_givers_13 rfl (lv_at hl 3 rfl) ?_
      refine lv_aload_n hx hb dX12_givers_14 rfl (lv_at hl 0 rfl) ?_
      refine h_get (v := .int (I3 a0 13)) hx hb hts iX12 hown g t_a0 (by decide) so_13 rfl 13 (by decide) (hts (.fieldLink RX12 202 "CapLeagueModel" "players" "I") (by decide +kernel)) rfl dX12_givers_15 rfl ?_
      refine lv_topi (fun v4 ev4 => ?_)
      have jv4 := hI.rd a0 13 t_a0 ev4 (rfl : h_bd 13 13 = (0, 60))
      refine lv_icmp_ge (tgt := 72) hx hb dX12_givers_18 (by decide) (fun c5 => ?_) (fun c5 => ?_)
      · have ic5 := (xi_le c5 rfl rfl : v4.toInt ≤ v2.toInt)
        have hS := g.2.1
        exact W.vret hx hb hr (fun t ht hW => ⟨⟨I3, rfl, ⟨hI, hF, trivial⟩, h_ret g ht⟩, hS.F ht⟩) hS.2.2 dX12_givers_72
      · have ic5 := (xi_nle c5 rfl rfl : v2.toInt < v4.toInt)
        refine lv_aload_n hx hb dX12_givers_21 rfl (lv_at hl 0 rfl) ?_
        obtain ⟨b6, rb6, tb6⟩ := hR.at a0 14 t_a0 (rfl : h_rs 13 14 = some (1314, false)) (by decide)
        refine h_get (v := .ref b6) hx hb hts iX12 hown g t_a0 (by decide) so_13 rfl 14 (by decide) (hts (.fieldLink RX12 25 "CapLeagueModel" "clubOf" "[I") (by decide +kernel)) rfl dX12_givers_22 (by show va_rf (z.R a0 14) = _; rw [rb6]; rfl) ?_
        refine lv_iload_n hx hb dX12_givers_25 rfl (lv_at hl 3 rfl) ?_
        refine h_ald hx hb g tb6 (by decide) so_1314 (xi_in (by omega) (by omega)) dX12_givers_26 ?_
        refine lv_topi (fun v7 ev7 => ?_)
        have jv7 := hI.rd b6 v2.toNatClampNeg tb6 ev7 (rfl : h_bd 1314 _ = ((-1), 7))
        refine lv_aload_n hx hb dX12_givers_27 rfl (lv_at hl 0 rfl) ?_
        obtain ⟨b8, rb8, tb8⟩ := hR.at a0 42 t_a0 (rfl : h_rs 13 42 = some (1342, false)) (by decide)
        refine h_get (v := .ref b8) hx hb hts iX12 hown g t_a0 (by decide) so_13 rfl 42 (by decide) (hts (.fieldLink RX12 97 "CapLeagueModel" "triedClub" "[I") (by decide +kernel)) rfl dX12_givers_28 (by show va_rf (z.R a0 42) = _; rw [rb8]; rfl) ?_
        refine lv_iload_n hx hb dX12_givers_31 rfl (lv_at hl 1 rfl) ?_
        refine h_ald hx hb g tb8 (by decide) so_1342 (xi_in (by rw [h_i]; omega) (by rw [h_i]; omega)) dX12_givers_32 ?_
        refine lv_topi (fun v9 ev9 => ?_)
        have jv9 := hI.rd b8 i.toNatClampNeg tb8 ev9 (rfl : h_bd 1342 _ = (0, 7))
        refine lv_icmp_ne (tgt := 66) hx hb dX12_givers_33 (by decide) (fun c10 => ?_) (fun c10 => ?_)
        · have ic10 := (xi_ne c10 rfl rfl : v7.toInt ≠ v9.toInt)
          obtain ⟨v11, ev11⟩ : ∃ z : Int32, z = v2 + 1 := ⟨_, rfl⟩
          have jv11 : v11.toInt = v2.toInt + 1 := xi_add ev11 rfl (by decide) (by omega) (by omega)
          refine lv_iinc (v := v11) (lv' := [(3, .int v11), (0, .ref a0), (1, .int i), (2, .int u)]) hx hb dX12_givers_66 hl (k := 3) rfl (by rw [ev11]; rfl) (by decide) rfl (fun ls hl => ?_)
          refine lv_goto (tgt := 13) hx hb dX12_givers_69 (by decide) ?_
          exact ih13 I3 _ _ _ v11 g hI hF (lv_sub hl [1, 2, 3, 0] rfl) (by omega) (by omega)
        · have ic10 := (xi_eq c10 rfl rfl : v7.toInt = v9.toInt)
          refine lv_aload_n hx hb dX12_givers_36 rfl (lv_at hl 0 rfl) ?_
          refine lv_iload_n hx hb dX12_givers_37 rfl (lv_at hl 3 rfl) ?_
          refine lv_aload_n hx hb dX12_givers_38 rfl (lv_at hl 0 rfl) ?_
          refine h_get (v := .int (I3 a0 12)) hx hb hts iX12 hown g t_a0 (by decide) so_13 rfl 12 (by decide) (hts (.fieldLink RX12 187 "CapLeagueModel" "clock" "I") (by decide +kernel)) rfl dX12_givers_39 rfl ?_
          refine lv_topi (fun v12 ev12 => ?_)
          have jv12 := hI.rd a0 12 t_a0 ev12 (rfl : h_bd 13 12 = (0, 9))
          refine vp_callSi (W.runV (As := [.int v2, .int v12]) (rest := []) ⟨hx, hb, hml, hown, hts⟩ (tX12_isUnder l E X A z I3 L0 a0 t_a0 v2 (v2.toInt) rfl (by omega) v12 (v12.toInt) rfl) (cwV 2 hts gX12_givers_X12_isUnder rfl rfl rfl (by decide +kernel) ⟨Nat.le_of_ble_eq_true rfl, Nat.le_of_ble_eq_true rfl⟩) ⟨h_blind _ _ _ _ _ _ _, h_recv g t_a0 (by decide) so_13 (q := (RX12, TX12, 51)) rfl, h_pre _ hE hk hX hA hI hR g⟩ rfl rfl hl.1 rfl (lv_room (Nat.le_of_ble_eq_true rfl)) dX12_givers_42 ⟨Nat.le_of_ble_eq_true rfl, Nat.le_of_ble_eq_true rfl⟩) (fun rh13 h13 => ?_)
          refine lv_if_ne (tgt := 51) hx hb dX12_givers_45 (by decide) (fun c14 => ?_) (fun c14 => ?_)
          · have ic14 := (xi_ne c14 rfl (by decide) : rh13.toInt ≠ 0)
            refine lv_aload_n hx hb dX12_givers_51 rfl (lv_at hl 0 rfl) ?_
            obtain ⟨b15, rb15, tb15⟩ := hR.at a0 43 t_a0 (rfl : h_rs 13 43 = some (1343, false)) (by decide)
            refine h_get (v := .ref b15) hx hb hts iX12 hown g t_a0 (by decide) so_13 rfl 43 (by decide) (hts (.fieldLink RX12 100 "CapLeagueModel" "triedGives" "[I") (by decide +kernel)) rfl dX12_givers_52 (by show va_rf (z.R a0 43) = _; rw [rb15]; rfl) ?_
            refine lv_iload_n hx hb dX12_givers_55 rfl (lv_at hl 1 rfl) ?_
            refine lv_iload_n hx hb dX12_givers_56 rfl (lv_at hl 3 rfl) ?_
            refine h_ast hx hb g tb15 (by decide) so_1343 (xi_in (by rw [h_i]; omega) (by rw [h_i]; omega)) dX12_givers_57 (fun I16 H locs eI16 g => ?_)
            have hI := hI.wr eI16 tb15 (rfl : h_bd 1343 _ = (0, 59)) (by omega) (by omega)
            have hF := hF.wr eI16 tb15 rfl
            refine lv_aload_n hx hb dX12_givers_58 rfl (lv_at hl 0 rfl) ?_
            refine lv_iload_n hx hb dX12_givers_59 rfl (lv_at hl 1 rfl) ?_
            refine lv_iconst (v := 1) hx hb dX12_givers_60 (by decide) ?_
            refine lv_iadd hx hb dX12_givers_61 ?_
            refine lv_topi (fun v17 ev17 => ?_)
            have jv17 : v17.toInt = i_t + 1 := xi_add ev17 h_i (by decide) (by omega) (by omega)
            refine lv_iload_n hx hb dX12_givers_62 rfl (lv_at hl 2 rfl) ?_
            refine va_callv (va_runV (As := [.int v17, .int u]) (rest := []) ⟨hx, hb, hml, hown, hts⟩ (tX12_givers0 l E X A z I16 L0 a0 t_a0 v17 (v17.toInt) rfl (by omega) u (u_t) h_u (by omega) (by omega)) (cwV 2 hts gX12_givers_X12_givers rfl rfl rfl (by decide +kernel) ⟨Nat.le_of_ble_eq_true rfl, Nat.le_of_ble_eq_true rfl⟩) ⟨h_blind _ _ _ _ _ _ _, h_recv g t_a0 (by decide) so_13 (q := (RX12, TX12, 51)) rfl, h_pre _ hE hk hX hA hI hR g⟩ rfl rfl hl.1 rfl (lv_room (Nat.le_of_ble_eq_true rfl)) dX12_givers_63 ⟨Nat.le_of_ble_eq_true rfl, Nat.le_of_ble_eq_true rfl⟩) g.2.1 (fun q _ h => h) (fun q h => h) (fun I19 t H1 locs ht hvm h18 hB hz1 hk1 hS => ?_)
            obtain ⟨hI, fh18, h18⟩ := h18
            replace g := h_after g hB ht hS
            generalize H1 = H at g
            clear hB hk1 hz1 ht hvm hS
            have hF := hF.call fh18 rfl
            obtain ⟨v20, ev20⟩ : ∃ z : Int32, z = v2 + 1 := ⟨_, rfl⟩
            have jv20 : v20.toInt = v2.toInt + 1 := xi_add ev20 rfl (by decide) (by omega) (by omega)
            refine lv_iinc (v := v20) (lv' := [(3, .int v20), (0, .ref a0), (1, .int i), (2, .int u)]) hx hb dX12_givers_66 hl (k := 3) rfl (by rw [ev20]; rfl) (by decide) rfl (fun ls hl => ?_)
            refine lv_goto (tgt := 13) hx hb dX12_givers_69 (by decide) ?_
            exact ih13 I19 _ _ _ v20 g hI hF (lv_sub hl [1, 2, 3, 0] rfl) (by omega) (by omega)
          · have ic14 := (xi_eq c14 rfl (by decide) : rh13.toInt = 0)
            refine lv_goto (tgt := 66) hx hb dX12_givers_48 (by decide) ?_
            obtain ⟨v21, ev21⟩ : ∃ z : Int32, z = v2 + 1 := ⟨_, rfl⟩
            have jv21 : v21.toInt = v2.toInt + 1 := xi_add ev21 rfl (by decide) (by omega) (by omega)
            refine lv_iinc (v := v21) (lv' := [(3, .int v21), (0, .ref a0), (1, .int i), (2, .int u)]) hx hb dX12_givers_66 hl (k := 3) rfl (by rw [ev21]; rfl) (by decide) rfl (fun ls hl => ?_)
            refine lv_goto (tgt := 13) hx hb dX12_givers_69 (by decide) ?_
            exact ih13 I3 _ _ _ v21 g hI hF (lv_sub hl [1, 2, 3, 0] rfl) (by omega) (by omega)
  exact loop13_0 _ I0 _ _ _ (0) g hI hF (lv_sub hl [1, 2, 3, 0] rfl) ⟨by decide, by decide⟩ (show (60 - (0 : Int)) < (((60 - (0 : Int)).toNat + 1 : Nat) : Int) by omega)
set_option maxHeartbeats 4000000 in
set_option maxRecDepth 100000 in
theorem tX12_givers2 (l : Launch) (E : tE) (X : tX) (A : Nat → Prop) (z : tZ) (I0 : tI) (L0 : tL) (a0 : Nat) (t_a0 : z.ty a0 = 13) (i : Int32) (i_t : Int) (h_i : i.toInt = i_t) (b_i : 0 ≤ i_t ∧ i_t ≤ 1) (u : Int32) (u_t : Int) (h_u : u.toInt = u_t) (b_u : 2 ≤ u_t ∧ u_t ≤ 3) (hi : i_t = u_t - 2) : Met l yX12_givers wsX12_givers ({ frames := 9, cells := 0, slots := 0, locals := 576 }) (va_Pc [.ref a0, .int i, .int u] (h_P E X A z I0 L0)) (va_Qv (fun (I1 : tI) => h_I z I1 ∧ h_F [(13, 44), (13, 45), (1339, 999), (1340, 999), (1343, 999)] z I0 I1 ∧ True) (fun (I1 : tI) t => h_B E A z I1 L0 t) A) 0 0 A := by
  refine Met.ofW (cc := cX12_givers) (maxL := 4) (ret := none) (by decide) rfl ?_
  intro pr_ ev_ s m args below meth cd_ s₁ B hml hv
  obtain ⟨rfl, hE, hk, hX, hA, hK, hI, hR, hB0⟩ := hv
  have g : h_G h_so h_fk E A z I0 L0 s s.heap s.heap [] := ⟨hK, va_S.rf, hB0⟩
  have hF : h_F [(13, 44), (13, 45), (1339, 999), (1340, 999), (1343, 999)] z I0 I0 := h_F.rf
  have hx := B.exec
  have hb := B.bytes
  have hr := B.returns
  have hts := atoms_spec (ws := wsX12_givers) B.pre
  have hown : s.vm.findClass RX12 = some m.cls := findClass_of_methodNamed B.named
  have hlocks := B.notSynchronized
  have iX12 : ∀ w ∈ u_ws RX12 TX12 51, w ∈ wsX12_givers := by decide +kernel
  have hl := lv_entry ([.ref a0, .int i, .int u]) (n := 4) (Nat.le_of_ble_eq_true rfl)
  rw [lg_entry_eq]
  generalize (lg_sl ([.ref a0, .int i, .int u]) ++ List.replicate (4 - (lg_sl ([.ref a0, .int i, .int u])).length) Slot.unset).toArray = ls at hl ⊢
  have hl : lv_has ls 4 [(0, .ref a0), (1, .int i), (2, .int u)] := hl
  refine lv_iload_n hx hb dX12_givers_0 rfl (lv_at hl 1 rfl) ?_
  refine lv_iload_n hx hb dX12_givers_1 rfl (lv_at hl 2 rfl) ?_
  refine lv_icmp_ne (tgt := 11) hx hb dX12_givers_2 (by decide) (fun c1 => ?_) (fun h => absurd (xi_eq h h_i h_u : i_t = u_t) (by omega))
  have ic1 := (xi_ne c1 h_i h_u : i_t ≠ u_t)
  refine lv_iconst (v := 0) hx hb dX12_givers_11 (by decide) ?_
  refine lv_istore_n (lv' := [(3, .int 0), (0, .ref a0), (1, .int i), (2, .int u)]) hx hb dX12_givers_12 rfl hl (by decide) rfl (fun ls hl => ?_)
  have loop13_0 : ∀ (n : Nat) (I3 : tI) (H : Heap) (locs : List Loc) (ls : Array Slot) (v2 : Int32), h_G h_so h_fk E A z I3 L0 s s.heap H locs → h_I z I3 → h_F [(13, 44), (13, 45), (1339, 999), (1340, 999), (1343, 999)] z I0 I3 → lv_has ls 4 [(0, .ref a0), (1, .int i), (2, .int u), (3, .int v2)] → (0 ≤ v2.toInt ∧ v2.toInt ≤ 60) → (60 - v2.toInt) < (n : Int) → W pr_ l ev_ (headSpec wsX12_givers ({ frames := 9, cells := 0, slots := 0, locals := 576 })).room s m ([.ref a0, .int i, .int u] : List Value).toArray below meth cd_ H locs 0 0 (MQ below (va_Qv (fun (I1 : tI) => h_I z I1 ∧ h_F [(13, 44), (13, 45), (1339, 999), (1340, 999), (1343, 999)] z I0 I1 ∧ True) (fun (I1 : tI) t => h_B E A z I1 L0 t) A) ([.ref a0, .int i, .int u] : List Value).toArray s 0 0 A) (F0 m 13 ls []) := by
    intro n
    induction n with
    | zero => intro I3 H locs ls v2 g hI hF hl jv2 hn; exact absurd hn (by omega)
    | succ n ih13 =>
      intro I3 H locs ls v2 g hI hF hl jv2 hn
      refine lv_iload_n hx hb dX12_givers_13 rfl (lv_at hl 3 rfl) ?_
      refine lv_aload_n hx hb dX12_givers_14 rfl (lv_at hl 0 rfl) ?_
      refine h_get (v := .int (I3 a0 13)) hx hb hts iX12 hown g t_a0 (by decide) so_13 rfl 13 (by decide) (hts (.fieldLink RX12 202 "CapLeagueModel" "players" "I") (by decide +kernel)) rfl dX12_givers_15 rfl ?_
      refine lv_topi (fun v4 ev4 => ?_)
      have jv4 := hI.rd a0 13 t_a0 ev4 (rfl : h_bd 13 13 = (0, 60))
      refine lv_icmp_ge (tgt := 72) hx hb dX12_givers_18 (by decide) (fun c5 => ?_) (fun c5 => ?_)
      · have ic5 := (xi_le c5 rfl rfl : v4.toInt ≤ v2.toInt)
        have hS := g.2.1
        exact W.vret hx hb hr (fun t ht hW => ⟨⟨I3, rfl, ⟨hI, hF, trivial⟩, h_ret g ht⟩, hS.F ht⟩) hS.2.2 dX12_givers_72
      · have ic5 := (xi_nle c5 rfl rfl : v2.toInt < v4.toInt)
        refine lv_aload_n hx hb dX12_givers_21 rfl (lv_at hl 0 rfl) ?_
        obtain ⟨b6, rb6, tb6⟩ := hR.at a0 14 t_a0 (rfl : h_rs 13 14 = some (1314, false)) (by decide)
        refine h_get (v := .ref b6) hx hb hts iX12 hown g t_a0 (by decide) so_13 rfl 14 (by decide) (hts (.fieldLink RX12 25 "CapLeagueModel" "clubOf" "[I") (by decide +kernel)) rfl dX12_givers_22 (by show va_rf (z.R a0 14) = _; rw [rb6]; rfl) ?_
        refine lv_iload_n hx hb dX12_givers_25 rfl (lv_at hl 3 rfl) ?_
        refine h_ald hx hb g tb6 (by decide) so_1314 (xi_in (by omega) (by omega)) dX12_givers_26 ?_
        refine lv_topi (fun v7 ev7 => ?_)
        have jv7 := hI.rd b6 v2.toNatClampNeg tb6 ev7 (rfl : h_bd 1314 _ = ((-1), 7))
        refine lv_aload_n hx hb dX12_givers_27 rfl (lv_at hl 0 rfl) ?_
        obtain ⟨b8, rb8, tb8⟩ := hR.at a0 42 t_a0 (rfl : h_rs 13 42 = some (1342, false)) (by decide)
        refine h_get (v := .ref b8) hx hb hts iX12 hown g t_a0 (by decide) so_13 rfl 42 (by decide) (hts (.fieldLink RX12 97 "CapLeagueModel" "triedClub" "[I") (by decide +kernel)) rfl dX12_givers_28 (by show va_rf (z.R a0 42) = _; rw [rb8]; rfl) ?_
        refine lv_iload_n hx hb dX12_givers_31 rfl (lv_at hl 1 rfl) ?_
        refine h_ald hx hb g tb8 (by decide) so_1342 (xi_in (by rw [h_i]; omega) (by rw [h_i]; omega)) dX12_givers_32 ?_
        refine lv_topi (fun v9 ev9 => ?_)
        have jv9 := hI.rd b8 i.toNatClampNeg tb8 ev9 (rfl : h_bd 1342 _ = (0, 7))
        refine lv_icmp_ne (tgt := 66) hx hb dX12_givers_33 (by decide) (fun c10 => ?_) (fun c10 => ?_)
        · have ic10 := (xi_ne c10 rfl rfl : v7.toInt ≠ v9.toInt)
          obtain ⟨v11, ev11⟩ : ∃ z : Int32, z = v2 + 1 := ⟨_, rfl⟩
          have jv11 : v11.toInt = v2.toInt + 1 := xi_add ev11 rfl (by decide) (by omega) (by omega)
          refine lv_iinc (v := v11) (lv' := [(3, .int v11), (0, .ref a0), (1, .int i), (2, .int u)]) hx hb dX12_givers_66 hl (k := 3) rfl (by rw [ev11]; rfl) (by decide) rfl (fun ls hl => ?_)
          refine lv_goto (tgt := 13) hx hb dX12_givers_69 (by decide) ?_
          exact ih13 I3 _ _ _ v11 g hI hF (lv_sub hl [1, 2, 3, 0] rfl) (by omega) (by omega)
        · have ic10 := (xi_eq c10 rfl rfl : v7.toInt = v9.toInt)
          refine lv_aload_n hx hb dX12_givers_36 rfl (lv_at hl 0 rfl) ?_
          refine lv_iload_n hx hb dX12_givers_37 rfl (lv_at hl 3 rfl) ?_
          refine lv_aload_n hx hb dX12_givers_38 rfl (lv_at hl 0 rfl) ?_
          refine h_get (v := .int (I3 a0 12)) hx hb hts iX12 hown g t_a0 (by decide) so_13 rfl 12 (by decide) (hts (.fieldLink RX12 187 "CapLeagueModel" "clock" "I") (by decide +kernel)) rfl dX12_givers_39 rfl ?_
          refine lv_topi (fun v12 ev12 => ?_)
          have jv12 := hI.rd a0 12 t_a0 ev12 (rfl : h_bd 13 12 = (0, 9))
          refine vp_callSi (W.runV (As := [.int v2, .int v12]) (rest := []) ⟨hx, hb, hml, hown, hts⟩ (tX12_isUnder l E X A z I3 L0 a0 t_a0 v2 (v2.toInt) rfl (by omega) v12 (v12.toInt) rfl) (cwV 2 hts gX12_givers_X12_isUnder rfl rfl rfl (by decide +kernel) ⟨Nat.le_of_ble_eq_true rfl, Nat.le_of_ble_eq_true rfl⟩) ⟨h_blind _ _ _ _ _ _ _, h_recv g t_a0 (by decide) so_13 (q := (RX12, TX12, 51)) rfl, h_pre _ hE hk hX hA hI hR g⟩ rfl rfl hl.1 rfl (lv_room (Nat.le_of_ble_eq_true rfl)) dX12_givers_42 ⟨Nat.le_of_ble_eq_true rfl, Nat.le_of_ble_eq_true rfl⟩) (fun rh13 h13 => ?_)
          refine lv_if_ne (tgt := 51) hx hb dX12_givers_45 (by decide) (fun c14 => ?_) (fun c14 => ?_)
          · have ic14 := (xi_ne c14 rfl (by decide) : rh13.toInt ≠ 0)
            refine lv_aload_n hx hb dX12_givers_51 rfl (lv_at hl 0 rfl) ?_
            obtain ⟨b15, rb15, tb15⟩ := hR.at a0 43 t_a0 (rfl : h_rs 13 43 = some (1343, false)) (by decide)
            refine h_get (v := .ref b15) hx hb hts iX12 hown g t_a0 (by decide) so_13 rfl 43 (by decide) (hts (.fieldLink RX12 100 "CapLeagueModel" "triedGives" "[I") (by decide +kernel)) rfl dX12_givers_52 (by show va_rf (z.R a0 43) = _; rw [rb15]; rfl) ?_
            refine lv_iload_n hx hb dX12_givers_55 rfl (lv_at hl 1 rfl) ?_
            refine lv_iload_n hx hb dX12_givers_56 rfl (lv_at hl 3 rfl) ?_
            refine h_ast hx hb g tb15 (by decide) so_1343 (xi_in (by rw [h_i]; omega) (by rw [h_i]; omega)) dX12_givers_57 (fun I16 H locs eI16 g => ?_)
            have hI := hI.wr eI16 tb15 (rfl : h_bd 1343 _ = (0, 59)) (by omega) (by omega)
            have hF := hF.wr eI16 tb15 rfl
            refine lv_aload_n hx hb dX12_givers_58 rfl (lv_at hl 0 rfl) ?_
            refine lv_iload_n hx hb dX12_givers_59 rfl (lv_at hl 1 rfl) ?_
            refine lv_iconst (v := 1) hx hb dX12_givers_60 (by decide) ?_
            refine lv_iadd hx hb dX12_givers_61 ?_
            refine lv_topi (fun v17 ev17 => ?_)
            have jv17 : v17.toInt = i_t + 1 := xi_add ev17 h_i (by decide) (by omega) (by omega)
            refine lv_iload_n hx hb dX12_givers_62 rfl (lv_at hl 2 rfl) ?_
            refine va_callv (va_runV (As := [.int v17, .int u]) (rest := []) ⟨hx, hb, hml, hown, hts⟩ (tX12_givers1 l E X A z I16 L0 a0 t_a0 v17 (v17.toInt) rfl (by omega) u (u_t) h_u (by omega) (by omega)) (cwV 2 hts gX12_givers_X12_givers rfl rfl rfl (by decide +kernel) ⟨Nat.le_of_ble_eq_true rfl, Nat.le_of_ble_eq_true rfl⟩) ⟨h_blind _ _ _ _ _ _ _, h_recv g t_a0 (by decide) so_13 (q := (RX12, TX12, 51)) rfl, h_pre _ hE hk hX hA hI hR g⟩ rfl rfl hl.1 rfl (lv_room (Nat.le_of_ble_eq_true rfl)) dX12_givers_63 ⟨Nat.le_of_ble_eq_true rfl, Nat.le_of_ble_eq_true rfl⟩) g.2.1 (fun q _ h => h) (fun q h => h) (fun I19 t H1 locs ht hvm h18 hB hz1 hk1 hS => ?_)
            obtain ⟨hI, fh18, h18⟩ := h18
            replace g := h_after g hB ht hS
            generalize H1 = H at g
            clear hB hk1 hz1 ht hvm hS
            have hF := hF.call fh18 rfl
            obtain ⟨v20, ev20⟩ : ∃ z : Int32, z = v2 + 1 := ⟨_, rfl⟩
            have jv20 : v20.toInt = v2.toInt + 1 := xi_add ev20 rfl (by decide) (by omega) (by omega)
            refine lv_iinc (v := v20) (lv' := [(3, .int v20), (0, .ref a0), (1, .int i), (2, .int u)]) hx hb dX12_givers_66 hl (k := 3) rfl (by rw [ev20]; rfl) (by decide) rfl (fun ls hl => ?_)
            refine lv_goto (tgt := 13) hx hb dX12_givers_69 (by decide) ?_
            exact ih13 I19 _ _ _ v20 g hI hF (lv_sub hl [1, 2, 3, 0] rfl) (by omega) (by omega)
          · have ic14 := (xi_eq c14 rfl (by decide) : rh13.toInt = 0)
            refine lv_goto (tgt := 66) hx hb dX12_givers_48 (by decide) ?_
            obtain ⟨v21, ev21⟩ : ∃ z : Int32, z = v2 + 1 := ⟨_, rfl⟩
            have jv21 : v21.toInt = v2.toInt + 1 := xi_add ev21 rfl (by decide) (by omega) (by omega)
            refine lv_iinc (v := v21) (lv' := [(3, .int v21), (0, .ref a0), (1, .int i), (2, .int u)]) hx hb dX12_givers_66 hl (k := 3) rfl (by rw [ev21]; rfl) (by decide) rfl (fun ls hl => ?_)
            refine lv_goto (tgt := 13) hx hb dX12_givers_69 (by decide) ?_
            exact ih13 I3 _ _ _ v21 g hI hF (lv_sub hl [1, 2, 3, 0] rfl) (by omega) (by omega)
  exact loop13_0 _ I0 _ _ _ (0) g hI hF (lv_sub hl [1, 2, 3, 0] rfl) ⟨by decide, by decide⟩ (show (60 - (0 : Int)) < (((60 - (0 : Int)).toNat + 1 : Nat) : Int) by omega)
set_option maxHeartbeats 4000000 in
set_option maxRecDepth 100000 in
theorem tX12_givers3 (l : Launch) (E : tE) (X : tX) (A : Nat → Prop) (z : tZ) (I0 : tI) (L0 : tL) (a0 : Nat) (t_a0 : z.ty a0 = 13) (i : Int32) (i_t : Int) (h_i : i.toInt = i_t) (b_i : 0 ≤ i_t ∧ i_t ≤ 0) (u : Int32) (u_t : Int) (h_u : u.toInt = u_t) (b_u : 2 ≤ u_t ∧ u_t ≤ 3) (hi : i_t = u_t - 3) : Met l yX12_givers wsX12_givers ({ frames := 10, cells := 0, slots := 0, locals := 640 }) (va_Pc [.ref a0, .int i, .int u] (h_P E X A z I0 L0)) (va_Qv (fun (I1 : tI) => h_I z I1 ∧ h_F [(13, 44), (13, 45), (1339, 999), (1340, 999), (1343, 999)] z I0 I1 ∧ True) (fun (I1 : tI) t => h_B E A z I1 L0 t) A) 0 0 A := by
  refine Met.ofW (cc := cX12_givers) (maxL := 4) (ret := none) (by decide) rfl ?_
  intro pr_ ev_ s m args below meth cd_ s₁ B hml hv
  obtain ⟨rfl, hE, hk, hX, hA, hK, hI, hR, hB0⟩ := hv
  have g : h_G h_so h_fk E A z I0 L0 s s.heap s.heap [] := ⟨hK, va_S.rf, hB0⟩
  have hF : h_F [(13, 44), (13, 45), (1339, 999), (1340, 999), (1343, 999)] z I0 I0 := h_F.rf
  have hx := B.exec
  have hb := B.bytes
  have hr := B.returns
  have hts := atoms_spec (ws := wsX12_givers) B.pre
  have hown : s.vm.findClass RX12 = some m.cls := findClass_of_methodNamed B.named
  have hlocks := B.notSynchronized
  have iX12 : ∀ w ∈ u_ws RX12 TX12 51, w ∈ wsX12_givers := by decide +kernel
  have hl := lv_entry ([.ref a0, .int i, .int u]) (n := 4) (Nat.le_of_ble_eq_true rfl)
  rw [lg_entry_eq]
  generalize (lg_sl ([.ref a0, .int i, .int u]) ++ List.replicate (4 - (lg_sl ([.ref a0, .int i, .int u])).length) Slot.unset).toArray = ls at hl ⊢
  have hl : lv_has ls 4 [(0, .ref a0), (1, .int i), (2, .int u)] := hl
  refine lv_iload_n hx hb dX12_givers_0 rfl (lv_at hl 1 rfl) ?_
  refine lv_iload_n hx hb dX12_givers_1 rfl (lv_at hl 2 rfl) ?_
  refine lv_icmp_ne (tgt := 11) hx hb dX12_givers_2 (by decide) (fun c1 => ?_) (fun h => absurd (xi_eq h h_i h_u : i_t = u_t) (by omega))
  have ic1 := (xi_ne c1 h_i h_u : i_t ≠ u_t)
  refine lv_iconst (v := 0) hx hb dX12_givers_11 (by decide) ?_
  refine lv_istore_n (lv' := [(3, .int 0), (0, .ref a0), (1, .int i), (2, .int u)]) hx hb dX12_givers_12 rfl hl (by decide) rfl (fun ls hl => ?_)
  have loop13_0 : ∀ (n : Nat) (I3 : tI) (H : Heap) (locs : List Loc) (ls : Array Slot) (v2 : Int32), h_G h_so h_fk E A z I3 L0 s s.heap H locs → h_I z I3 → h_F [(13, 44), (13, 45), (1339, 999), (1340, 999), (1343, 999)] z I0 I3 → lv_has ls 4 [(0, .ref a0), (1, .int i), (2, .int u), (3, .int v2)] → (0 ≤ v2.toInt ∧ v2.toInt ≤ 60) → (60 - v2.toInt) < (n : Int) → W pr_ l ev_ (headSpec wsX12_givers ({ frames := 10, cells := 0, slots := 0, locals := 640 })).room s m ([.ref a0, .int i, .int u] : List Value).toArray below meth cd_ H locs 0 0 (MQ below (va_Qv (fun (I1 : tI) => h_I z I1 ∧ h_F [(13, 44), (13, 45), (1339, 999), (1340, 999), (1343, 999)] z I0 I1 ∧ True) (fun (I1 : tI) t => h_B E A z I1 L0 t) A) ([.ref a0, .int i, .int u] : List Value).toArray s 0 0 A) (F0 m 13 ls []) := by
    intro n
    induction n with
    | zero => intro I3 H locs ls v2 g hI hF hl jv2 hn; exact absurd hn (by omega)
    | succ n ih13 =>
      intro I3 H locs ls v2 g hI hF hl jv2 hn
      refine lv_iload_n hx hb dX12_givers_13 rfl (lv_at hl 3 rfl) ?_
      refine lv_aload_n hx hb dX12_givers_14 rfl (lv_at hl 0 rfl) ?_
      refine h_get (v := .int (I3 a0 13)) hx hb hts iX12 hown g t_a0 (by decide) so_13 rfl 13 (by decide) (hts (.fieldLink RX12 202 "CapLeagueModel" "players" "I") (by decide +kernel)) rfl dX12_givers_15 rfl ?_
      refine lv_topi (fun v4 ev4 => ?_)
      have jv4 := hI.rd a0 13 t_a0 ev4 (rfl : h_bd 13 13 = (0, 60))
      refine lv_icmp_ge (tgt := 72) hx hb dX12_givers_18 (by decide) (fun c5 => ?_) (fun c5 => ?_)
      · have ic5 := (xi_le c5 rfl rfl : v4.toInt ≤ v2.toInt)
        have hS := g.2.1
        exact W.vret hx hb hr (fun t ht hW => ⟨⟨I3, rfl, ⟨hI, hF, trivial⟩, h_ret g ht⟩, hS.F ht⟩) hS.2.2 dX12_givers_72
      · have ic5 := (xi_nle c5 rfl rfl : v2.toInt < v4.toInt)
        refine lv_aload_n hx hb dX12_givers_21 rfl (lv_at hl 0 rfl) ?_
        obtain ⟨b6, rb6, tb6⟩ := hR.at a0 14 t_a0 (rfl : h_rs 13 14 = some (1314, false)) (by decide)
        refine h_get (v := .ref b6) hx hb hts iX12 hown g t_a0 (by decide) so_13 rfl 14 (by decide) (hts (.fieldLink RX12 25 "CapLeagueModel" "clubOf" "[I") (by decide +kernel)) rfl dX12_givers_22 (by show va_rf (z.R a0 14) = _; rw [rb6]; rfl) ?_
        refine lv_iload_n hx hb dX12_givers_25 rfl (lv_at hl 3 rfl) ?_
        refine h_ald hx hb g tb6 (by decide) so_1314 (xi_in (by omega) (by omega)) dX12_givers_26 ?_
        refine lv_topi (fun v7 ev7 => ?_)
        have jv7 := hI.rd b6 v2.toNatClampNeg tb6 ev7 (rfl : h_bd 1314 _ = ((-1), 7))
        refine lv_aload_n hx hb dX12_givers_27 rfl (lv_at hl 0 rfl) ?_
        obtain ⟨b8, rb8, tb8⟩ := hR.at a0 42 t_a0 (rfl : h_rs 13 42 = some (1342, false)) (by decide)
        refine h_get (v := .ref b8) hx hb hts iX12 hown g t_a0 (by decide) so_13 rfl 42 (by decide) (hts (.fieldLink RX12 97 "CapLeagueModel" "triedClub" "[I") (by decide +kernel)) rfl dX12_givers_28 (by show va_rf (z.R a0 42) = _; rw [rb8]; rfl) ?_
        refine lv_iload_n hx hb dX12_givers_31 rfl (lv_at hl 1 rfl) ?_
        refine h_ald hx hb g tb8 (by decide) so_1342 (xi_in (by rw [h_i]; omega) (by rw [h_i]; omega)) dX12_givers_32 ?_
        refine lv_topi (fun v9 ev9 => ?_)
        have jv9 := hI.rd b8 i.toNatClampNeg tb8 ev9 (rfl : h_bd 1342 _ = (0, 7))
        refine lv_icmp_ne (tgt := 66) hx hb dX12_givers_33 (by decide) (fun c10 => ?_) (fun c10 => ?_)
        · have ic10 := (xi_ne c10 rfl rfl : v7.toInt ≠ v9.toInt)
          obtain ⟨v11, ev11⟩ : ∃ z : Int32, z = v2 + 1 := ⟨_, rfl⟩
          have jv11 : v11.toInt = v2.toInt + 1 := xi_add ev11 rfl (by decide) (by omega) (by omega)
          refine lv_iinc (v := v11) (lv' := [(3, .int v11), (0, .ref a0), (1, .int i), (2, .int u)]) hx hb dX12_givers_66 hl (k := 3) rfl (by rw [ev11]; rfl) (by decide) rfl (fun ls hl => ?_)
          refine lv_goto (tgt := 13) hx hb dX12_givers_69 (by decide) ?_
          exact ih13 I3 _ _ _ v11 g hI hF (lv_sub hl [1, 2, 3, 0] rfl) (by omega) (by omega)
        · have ic10 := (xi_eq c10 rfl rfl : v7.toInt = v9.toInt)
          refine lv_aload_n hx hb dX12_givers_36 rfl (lv_at hl 0 rfl) ?_
          refine lv_iload_n hx hb dX12_givers_37 rfl (lv_at hl 3 rfl) ?_
          refine lv_aload_n hx hb dX12_givers_38 rfl (lv_at hl 0 rfl) ?_
          refine h_get (v := .int (I3 a0 12)) hx hb hts iX12 hown g t_a0 (by decide) so_13 rfl 12 (by decide) (hts (.fieldLink RX12 187 "CapLeagueModel" "clock" "I") (by decide +kernel)) rfl dX12_givers_39 rfl ?_
          refine lv_topi (fun v12 ev12 => ?_)
          have jv12 := hI.rd a0 12 t_a0 ev12 (rfl : h_bd 13 12 = (0, 9))
          refine vp_callSi (W.runV (As := [.int v2, .int v12]) (rest := []) ⟨hx, hb, hml, hown, hts⟩ (tX12_isUnder l E X A z I3 L0 a0 t_a0 v2 (v2.toInt) rfl (by omega) v12 (v12.toInt) rfl) (cwV 2 hts gX12_givers_X12_isUnder rfl rfl rfl (by decide +kernel) ⟨Nat.le_of_ble_eq_true rfl, Nat.le_of_ble_eq_true rfl⟩) ⟨h_blind _ _ _ _ _ _ _, h_recv g t_a0 (by decide) so_13 (q := (RX12, TX12, 51)) rfl, h_pre _ hE hk hX hA hI hR g⟩ rfl rfl hl.1 rfl (lv_room (Nat.le_of_ble_eq_true rfl)) dX12_givers_42 ⟨Nat.le_of_ble_eq_true rfl, Nat.le_of_ble_eq_true rfl⟩) (fun rh13 h13 => ?_)
          refine lv_if_ne (tgt := 51) hx hb dX12_givers_45 (by decide) (fun c14 => ?_) (fun c14 => ?_)
          · have ic14 := (xi_ne c14 rfl (by decide) : rh13.toInt ≠ 0)
            refine lv_aload_n hx hb dX12_givers_51 rfl (lv_at hl 0 rfl) ?_
            obtain ⟨b15, rb15, tb15⟩ := hR.at a0 43 t_a0 (rfl : h_rs 13 43 = some (1343, false)) (by decide)
            refine h_get (v := .ref b15) hx hb hts iX12 hown g t_a0 (by decide) so_13 rfl 43 (by decide) (hts (.fieldLink RX12 100 "CapLeagueModel" "triedGives" "[I") (by decide +kernel)) rfl dX12_givers_52 (by show va_rf (z.R a0 43) = _; rw [rb15]; rfl) ?_
            refine lv_iload_n hx hb dX12_givers_55 rfl (lv_at hl 1 rfl) ?_
            refine lv_iload_n hx hb dX12_givers_56 rfl (lv_at hl 3 rfl) ?_
            refine h_ast hx hb g tb15 (by decide) so_1343 (xi_in (by rw [h_i]; omega) (by rw [h_i]; omega)) dX12_givers_57 (fun I16 H locs eI16 g => ?_)
            have hI := hI.wr eI16 tb15 (rfl : h_bd 1343 _ = (0, 59)) (by omega) (by omega)
            have hF := hF.wr eI16 tb15 rfl
            refine lv_aload_n hx hb dX12_givers_58 rfl (lv_at hl 0 rfl) ?_
            refine lv_iload_n hx hb dX12_givers_59 rfl (lv_at hl 1 rfl) ?_
            refine lv_iconst (v := 1) hx hb dX12_givers_60 (by decide) ?_
            refine lv_iadd hx hb dX12_givers_61 ?_
            refine lv_topi (fun v17 ev17 => ?_)
            have jv17 : v17.toInt = i_t + 1 := xi_add ev17 h_i (by decide) (by omega) (by omega)
            refine lv_iload_n hx hb dX12_givers_62 rfl (lv_at hl 2 rfl) ?_
            refine va_callv (va_runV (As := [.int v17, .int u]) (rest := []) ⟨hx, hb, hml, hown, hts⟩ (tX12_givers2 l E X A z I16 L0 a0 t_a0 v17 (v17.toInt) rfl (by omega) u (u_t) h_u (by omega) (by omega)) (cwV 2 hts gX12_givers_X12_givers rfl rfl rfl (by decide +kernel) ⟨Nat.le_of_ble_eq_true rfl, Nat.le_of_ble_eq_true rfl⟩) ⟨h_blind _ _ _ _ _ _ _, h_recv g t_a0 (by decide) so_13 (q := (RX12, TX12, 51)) rfl, h_pre _ hE hk hX hA hI hR g⟩ rfl rfl hl.1 rfl (lv_room (Nat.le_of_ble_eq_true rfl)) dX12_givers_63 ⟨Nat.le_of_ble_eq_true rfl, Nat.le_of_ble_eq_true rfl⟩) g.2.1 (fun q _ h => h) (fun q h => h) (fun I19 t H1 locs ht hvm h18 hB hz1 hk1 hS => ?_)
            obtain ⟨hI, fh18, h18⟩ := h18
            replace g := h_after g hB ht hS
            generalize H1 = H at g
            clear hB hk1 hz1 ht hvm hS
            have hF := hF.call fh18 rfl
            obtain ⟨v20, ev20⟩ : ∃ z : Int32, z = v2 + 1 := ⟨_, rfl⟩
            have jv20 : v20.toInt = v2.toInt + 1 := xi_add ev20 rfl (by decide) (by omega) (by omega)
            refine lv_iinc (v := v20) (lv' := [(3, .int v20), (0, .ref a0), (1, .int i), (2, .int u)]) hx hb dX12_givers_66 hl (k := 3) rfl (by rw [ev20]; rfl) (by decide) rfl (fun ls hl => ?_)
            refine lv_goto (tgt := 13) hx hb dX12_givers_69 (by decide) ?_
            exact ih13 I19 _ _ _ v20 g hI hF (lv_sub hl [1, 2, 3, 0] rfl) (by omega) (by omega)
          · have ic14 := (xi_eq c14 rfl (by decide) : rh13.toInt = 0)
            refine lv_goto (tgt := 66) hx hb dX12_givers_48 (by decide) ?_
            obtain ⟨v21, ev21⟩ : ∃ z : Int32, z = v2 + 1 := ⟨_, rfl⟩
            have jv21 : v21.toInt = v2.toInt + 1 := xi_add ev21 rfl (by decide) (by omega) (by omega)
            refine lv_iinc (v := v21) (lv' := [(3, .int v21), (0, .ref a0), (1, .int i), (2, .int u)]) hx hb dX12_givers_66 hl (k := 3) rfl (by rw [ev21]; rfl) (by decide) rfl (fun ls hl => ?_)
            refine lv_goto (tgt := 13) hx hb dX12_givers_69 (by decide) ?_
            exact ih13 I3 _ _ _ v21 g hI hF (lv_sub hl [1, 2, 3, 0] rfl) (by omega) (by omega)
  exact loop13_0 _ I0 _ _ _ (0) g hI hF (lv_sub hl [1, 2, 3, 0] rfl) ⟨by decide, by decide⟩ (show (60 - (0 : Int)) < (((60 - (0 : Int)).toNat + 1 : Nat) : Int) by omega)
set_option maxHeartbeats 4000000 in
set_option maxRecDepth 100000 in
theorem tX12_ring (l : Launch) (E : tE) (X : tX) (A : Nat → Prop) (z : tZ) (I0 : tI) (L0 : tL) (a0 : Nat) (t_a0 : z.ty a0 = 13) : Met l yX12_ring wsX12_ring ({ frames := 11, cells := 0, slots := 0, locals := 704 }) (va_Pc [.ref a0] (h_P E X A z I0 L0)) (va_Qi (fun r (I1 : tI) => h_I z I1 ∧ h_F [(13, 44), (13, 45), (1339, 999), (1340, 999), (1343, 999), (1342, 999), (13, 41), (1346, 999), (1347, 999)] z I0 I1 ∧ True) (fun (I1 : tI) t => h_B E A z I1 L0 t) A) 0 0 A := by
  refine Met.ofW (cc := cX12_ring) (maxL := 4) (ret := (some .int)) (by decide) rfl ?_
  intro pr_ ev_ s m args below meth cd_ s₁ B hml hv
  obtain ⟨rfl, hE, hk, hX, hA, hK, hI, hR, hB0⟩ := hv
  have g : h_G h_so h_fk E A z I0 L0 s s.heap s.heap [] := ⟨hK, va_S.rf, hB0⟩
  have hF : h_F [(13, 44), (13, 45), (1339, 999), (1340, 999), (1343, 999), (1342, 999), (13, 41), (1346, 999), (1347, 999)] z I0 I0 := h_F.rf
  have hx := B.exec
  have hb := B.bytes
  have hr := B.returns
  have hts := atoms_spec (ws := wsX12_ring) B.pre
  have hown : s.vm.findClass RX12 = some m.cls := findClass_of_methodNamed B.named
  have hlocks := B.notSynchronized
  have iX12 : ∀ w ∈ u_ws RX12 TX12 51, w ∈ wsX12_ring := by decide +kernel
  have hl := lv_entry ([.ref a0]) (n := 4) (Nat.le_of_ble_eq_true rfl)
  rw [lg_entry_eq]
  generalize (lg_sl ([.ref a0]) ++ List.replicate (4 - (lg_sl ([.ref a0])).length) Slot.unset).toArray = ls at hl ⊢
  have hl : lv_has ls 4 [(0, .ref a0)] := hl
  refine lv_aload_n hx hb dX12_ring_0 rfl (lv_at hl 0 rfl) ?_
  refine lv_iconst (v := 0) hx hb dX12_ring_1 (by decide) ?_
  refine h_putI (ty := .int) (v := 0) hx hb hts iX12 tyX12 tyX12_ok nmX12 hown g t_a0 (by decide) so_13 rfl 44 (by decide) rfl (hts (.fieldLink RX12 280 "CapLeagueModel" "bestSum" "I") (by decide +kernel)) rfl rfl (by decide +kernel) rfl rfl dX12_ring_2 (fun I1 H locs eI1 g => ?_)
  have hI := hI.wr eI1 t_a0 (rfl : h_bd 13 44 = ((-2147483648), 2147483647)) (by decide) (by decide)
  have hF := hF.wr eI1 t_a0 rfl
  refine lv_aload_n hx hb dX12_ring_5 rfl (lv_at hl 0 rfl) ?_
  refine lv_iconst (v := 0) hx hb dX12_ring_6 (by decide) ?_
  refine h_putI (ty := .int) (v := 0) hx hb hts iX12 tyX12 tyX12_ok nmX12 hown g t_a0 (by decide) so_13 rfl 45 (by decide) rfl (hts (.fieldLink RX12 286 "CapLeagueModel" "bestMany" "I") (by decide +kernel)) rfl rfl (by decide +kernel) rfl rfl dX12_ring_7 (fun I2 H locs eI2 g => ?_)
  have hI := hI.wr eI2 t_a0 (rfl : h_bd 13 45 = (0, 3)) (by decide) (by decide)
  have hF := hF.wr eI2 t_a0 rfl
  refine lv_iconst (v := 0) hx hb dX12_ring_10 (by decide) ?_
  refine lv_istore_n (lv' := [(1, .int 0), (0, .ref a0)]) hx hb dX12_ring_11 rfl hl (by decide) rfl (fun ls hl => ?_)
  have loop12_0 : ∀ (n : Nat) (I4 : tI) (H : Heap) (locs : List Loc) (ls : Array Slot) (v3 : Int32), h_G h_so h_fk E A z I4 L0 s s.heap H locs → h_I z I4 → h_F [(13, 44), (13, 45), (1339, 999), (1340, 999), (1343, 999), (1342, 999), (13, 41), (1346, 999), (1347, 999)] z I0 I4 → lv_has ls 4 [(0, .ref a0), (1, .int v3)] → (0 ≤ v3.toInt ∧ v3.toInt ≤ 8) → (8 - v3.toInt) < (n : Int) → W pr_ l ev_ (headSpec wsX12_ring ({ frames := 11, cells := 0, slots := 0, locals := 704 })).room s m ([.ref a0] : List Value).toArray below meth cd_ H locs 0 0 (MQ below (va_Qi (fun r (I1 : tI) => h_I z I1 ∧ h_F [(13, 44), (13, 45), (1339, 999), (1340, 999), (1343, 999), (1342, 999), (13, 41), (1346, 999), (1347, 999)] z I0 I1 ∧ True) (fun (I1 : tI) t => h_B E A z I1 L0 t) A) ([.ref a0] : List Value).toArray s 0 0 A) (F0 m 12 ls []) := by
    intro n
    induction n with
    | zero => intro I4 H locs ls v3 g hI hF hl jv3 hn; exact absurd hn (by omega)
    | succ n ih12 =>
      intro I4 H locs ls v3 g hI hF hl jv3 hn
      refine lv_iload_n hx hb dX12_ring_12 rfl (lv_at hl 1 rfl) ?_
      refine lv_bipush (v := 8) hx hb dX12_ring_13 (by decide) ?_
      refine lv_icmp_ge (tgt := 60) hx hb dX12_ring_15 (by decide) (fun c5 => ?_) (fun c5 => ?_)
      · have ic5 := (xi_le c5 (by decide) rfl : 8 ≤ v3.toInt)
        refine lv_iconst (v := 0) hx hb dX12_ring_60 (by decide) ?_
        refine lv_istore_n (lv' := [(1, .int 0), (0, .ref a0)]) hx hb dX12_ring_61 rfl hl (by decide) rfl (fun ls hl => ?_)
        have loop62_1 : ∀ (n : Nat) (I7 : tI) (H : Heap) (locs : List Loc) (ls : Array Slot) (v6 : Int32), h_G h_so h_fk E A z I7 L0 s s.heap H locs → h_I z I7 → h_F [(13, 44), (13, 45), (1339, 999), (1340, 999), (1343, 999), (1342, 999), (13, 41), (1346, 999), (1347, 999)] z I0 I7 → lv_has ls 4 [(0, .ref a0), (1, .int v6)] → (0 ≤ v6.toInt ∧ v6.toInt ≤ 8) → (8 - v6.toInt) < (n : Int) → W pr_ l ev_ (headSpec wsX12_ring ({ frames := 11, cells := 0, slots := 0, locals := 704 })).room s m ([.ref a0] : List Value).toArray below meth cd_ H locs 0 0 (MQ below (va_Qi (fun r (I1 : tI) => h_I z I1 ∧ h_F [(13, 44), (13, 45), (1339, 999), (1340, 999), (1343, 999), (1342, 999), (13, 41), (1346, 999), (1347, 999)] z I0 I1 ∧ True) (fun (I1 : tI) t => h_B E A z I1 L0 t) A) ([.ref a0] : List Value).toArray s 0 0 A) (F0 m 62 ls []) := by
          intro n
          induction n with
          | zero => intro I7 H locs ls v6 g hI hF hl jv6 hn; exact absurd hn (by omega)
          | succ n ih62 =>
            intro I7 H locs ls v6 g hI hF hl jv6 hn
            refine lv_iload_n hx hb dX12_ring_62 rfl (lv_at hl 1 rfl) ?_
            refine lv_bipush (v := 8) hx hb dX12_ring_63 (by decide) ?_
            refine lv_icmp_ge (tgt := 141) hx hb dX12_ring_65 (by decide) (fun c8 => ?_) (fun c8 => ?_)
            · have ic8 := (xi_le c8 (by decide) rfl : 8 ≤ v6.toInt)
              refine lv_aload_n hx hb dX12_ring_141 rfl (lv_at hl 0 rfl) ?_
              refine h_get (v := .int (I7 a0 45)) hx hb hts iX12 hown g t_a0 (by decide) so_13 rfl 45 (by decide) (hts (.fieldLink RX12 286 "CapLeagueModel" "bestMany" "I") (by decide +kernel)) rfl dX12_ring_142 rfl ?_
              refine lv_topi (fun v9 ev9 => ?_)
              have jv9 := hI.rd a0 45 t_a0 ev9 (rfl : h_bd 13 45 = (0, 3))
              refine lv_if_ne (tgt := 150) hx hb dX12_ring_145 (by decide) (fun c10 => ?_) (fun c10 => ?_)
              · have ic10 := (xi_ne c10 rfl (by decide) : v9.toInt ≠ 0)
                refine lv_aload_n hx hb dX12_ring_150 rfl (lv_at hl 0 rfl) ?_
                refine lv_aload_n hx hb dX12_ring_151 rfl (lv_at hl 0 rfl) ?_
                refine h_get (v := .int v9) hx hb hts iX12 hown g t_a0 (by decide) so_13 rfl 45 (by decide) (hts (.fieldLink RX12 286 "CapLeagueModel" "bestMany" "I") (by decide +kernel)) rfl dX12_ring_152 (congrArg Value.int (ev9.symm)) ?_
                refine h_putI (ty := .int) (v := v9) hx hb hts iX12 tyX12 tyX12_ok nmX12 hown g t_a0 (by decide) so_13 rfl 41 (by decide) rfl (hts (.fieldLink RX12 297 "CapLeagueModel" "ringMany" "I") (by decide +kernel)) rfl rfl (by decide +kernel) rfl rfl dX12_ring_155 (fun I11 H locs eI11 g => ?_)
                have hI := hI.wr eI11 t_a0 (rfl : h_bd 13 41 = (0, 3)) (by omega) (by omega)
                have hF := hF.wr eI11 t_a0 rfl
                refine lv_iconst (v := 0) hx hb dX12_ring_158 (by decide) ?_
                refine lv_istore_n (lv' := [(1, .int 0), (0, .ref a0)]) hx hb dX12_ring_159 rfl hl (by decide) rfl (fun ls hl => ?_)
                have loop160_2 : ∀ (n : Nat) (I13 : tI) (H : Heap) (locs : List Loc) (ls : Array Slot) (v12 : Int32), h_G h_so h_fk E A z I13 L0 s s.heap H locs → h_I z I13 → h_F [(13, 44), (13, 45), (1339, 999), (1340, 999), (1343, 999), (1342, 999), (13, 41), (1346, 999), (1347, 999)] z I0 I13 → lv_has ls 4 [(0, .ref a0), (1, .int v12)] → (0 ≤ v12.toInt ∧ v12.toInt ≤ 3) → (3 - v12.toInt) < (n : Int) → W pr_ l ev_ (headSpec wsX12_ring ({ frames := 11, cells := 0, slots := 0, locals := 704 })).room s m ([.ref a0] : List Value).toArray below meth cd_ H locs 0 0 (MQ below (va_Qi (fun r (I1 : tI) => h_I z I1 ∧ h_F [(13, 44), (13, 45), (1339, 999), (1340, 999), (1343, 999), (1342, 999), (13, 41), (1346, 999), (1347, 999)] z I0 I1 ∧ True) (fun (I1 : tI) t => h_B E A z I1 L0 t) A) ([.ref a0] : List Value).toArray s 0 0 A) (F0 m 160 ls []) := by
                  intro n
                  induction n with
                  | zero => intro I13 H locs ls v12 g hI hF hl jv12 hn; exact absurd hn (by omega)
                  | succ n ih160 =>
                    intro I13 H locs ls v12 g hI hF hl jv12 hn
                    refine lv_iload_n hx hb dX12_ring_160 rfl (lv_at hl 1 rfl) ?_
                    refine lv_iconst (v := 3) hx hb dX12_ring_161 (by decide) ?_
                    refine lv_icmp_ge (tgt := 195) hx hb dX12_ring_162 (by decide) (fun c14 => ?_) (fun c14 => ?_)
                    · have ic14 := (xi_le c14 (by decide) rfl : 3 ≤ v12.toInt)
                      refine lv_aload_n hx hb dX12_ring_195 rfl (lv_at hl 0 rfl) ?_
                      refine h_get (v := .int (I13 a0 44)) hx hb hts iX12 hown g t_a0 (by decide) so_13 rfl 44 (by decide) (hts (.fieldLink RX12 280 "CapLeagueModel" "bestSum" "I") (by decide +kernel)) rfl dX12_ring_196 rfl ?_
                      refine lv_topi (fun v15 ev15 => ?_)
                      have jv15 := hI.rd a0 44 t_a0 ev15 (rfl : h_bd 13 44 = ((-2147483648), 2147483647))
                      have hS := g.2.1
                      exact W.iret (v := v15) hx hb hr (fun t ht hW => ⟨⟨v15, I13, rfl, ⟨hI, hF, trivial⟩, h_ret g ht⟩, hS.F ht⟩) hS.2.2 dX12_ring_199
                    · have ic14 := (xi_nle c14 (by decide) rfl : v12.toInt < 3)
                      refine lv_aload_n hx hb dX12_ring_165 rfl (lv_at hl 0 rfl) ?_
                      obtain ⟨b16, rb16, tb16⟩ := hR.at a0 46 t_a0 (rfl : h_rs 13 46 = some (1346, false)) (by decide)
                      refine h_get (v := .ref b16) hx hb hts iX12 hown g t_a0 (by decide) so_13 rfl 46 (by decide) (hts (.fieldLink RX12 103 "CapLeagueModel" "toldClub" "[I") (by decide +kernel)) rfl dX12_ring_166 (by show va_rf (z.R a0 46) = _; rw [rb16]; rfl) ?_
                      refine lv_iload_n hx hb dX12_ring_169 rfl (lv_at hl 1 rfl) ?_
                      refine lv_aload_n hx hb dX12_ring_170 rfl (lv_at hl 0 rfl) ?_
                      obtain ⟨b17, rb17, tb17⟩ := hR.at a0 39 t_a0 (rfl : h_rs 13 39 = some (1339, false)) (by decide)
                      refine h_get (v := .ref b17) hx hb hts iX12 hown g t_a0 (by decide) so_13 rfl 39 (by decide) (hts (.fieldLink RX12 91 "CapLeagueModel" "ringClub" "[I") (by decide +kernel)) rfl dX12_ring_171 (by show va_rf (z.R a0 39) = _; rw [rb17]; rfl) ?_
                      refine lv_iload_n hx hb dX12_ring_174 rfl (lv_at hl 1 rfl) ?_
                      refine h_ald hx hb g tb17 (by decide) so_1339 (xi_in (by omega) (by omega)) dX12_ring_175 ?_
                      refine lv_topi (fun v18 ev18 => ?_)
                      have jv18 := hI.rd b17 v12.toNatClampNeg tb17 ev18 (rfl : h_bd 1339 _ = ((-2147483648), 2147483647))
                      refine h_ast hx hb g tb16 (by decide) so_1346 (xi_in (by omega) (by omega)) dX12_ring_176 (fun I19 H locs eI19 g => ?_)
                      have hI := hI.wr eI19 tb16 (rfl : h_bd 1346 _ = ((-2147483648), 2147483647)) (xi_lo _) (Int.le_of_lt_add_one (xi_hi _))
                      have hF := hF.wr eI19 tb16 rfl
                      refine lv_aload_n hx hb dX12_ring_177 rfl (lv_at hl 0 rfl) ?_
                      obtain ⟨b20, rb20, tb20⟩ := hR.at a0 47 t_a0 (rfl : h_rs 13 47 = some (1347, false)) (by decide)
                      refine h_get (v := .ref b20) hx hb hts iX12 hown g t_a0 (by decide) so_13 rfl 47 (by decide) (hts (.fieldLink RX12 106 "CapLeagueModel" "toldGives" "[I") (by decide +kernel)) rfl dX12_ring_178 (by show va_rf (z.R a0 47) = _; rw [rb20]; rfl) ?_
                      refine lv_iload_n hx hb dX12_ring_181 rfl (lv_at hl 1 rfl) ?_
                      refine lv_aload_n hx hb dX12_ring_182 rfl (lv_at hl 0 rfl) ?_
                      obtain ⟨b21, rb21, tb21⟩ := hR.at a0 40 t_a0 (rfl : h_rs 13 40 = some (1340, false)) (by decide)
                      refine h_get (v := .ref b21) hx hb hts iX12 hown g t_a0 (by decide) so_13 rfl 40 (by decide) (hts (.fieldLink RX12 94 "CapLeagueModel" "ringGives" "[I") (by decide +kernel)) rfl dX12_ring_183 (by show va_rf (z.R a0 40) = _; rw [rb21]; rfl) ?_
                      refine lv_iload_n hx hb dX12_ring_186 rfl (lv_at hl 1 rfl) ?_
                      refine h_ald hx hb g tb21 (by decide) so_1340 (xi_in (by omega) (by omega)) dX12_ring_187 ?_
                      refine lv_topi (fun v22 ev22 => ?_)
                      have jv22 := hI.rd b21 v12.toNatClampNeg tb21 ev22 (rfl : h_bd 1340 _ = ((-2147483648), 2147483647))
                      refine h_ast hx hb g tb20 (by decide) so_1347 (xi_in (by omega) (by omega)) dX12_ring_188 (fun I23 H locs eI23 g => ?_)
                      have hI := hI.wr eI23 tb20 (rfl : h_bd 1347 _ = ((-2147483648), 2147483647)) (xi_lo _) (Int.le_of_lt_add_one (xi_hi _))
                      have hF := hF.wr eI23 tb20 rfl
                      obtain ⟨v24, ev24⟩ : ∃ z : Int32, z = v12 + 1 := ⟨_, rfl⟩
                      have jv24 : v24.toInt = v12.toInt + 1 := xi_add ev24 rfl (by decide) (by omega) (by omega)
                      refine lv_iinc (v := v24) (lv' := [(1, .int v24), (0, .ref a0)]) hx hb dX12_ring_189 hl (k := 1) rfl (by rw [ev24]; rfl) (by decide) rfl (fun ls hl => ?_)
                      refine lv_goto (tgt := 160) hx hb dX12_ring_192 (by decide) ?_
                      exact ih160 I23 _ _ _ v24 g hI hF (lv_sub hl [1, 0] rfl) (by omega) (by omega)
                exact loop160_2 _ I11 _ _ _ (0) g hI hF (lv_sub hl [1, 0] rfl) ⟨by decide, by decide⟩ (show (3 - (0 : Int)) < (((3 - (0 : Int)).toNat + 1 : Nat) : Int) by omega)
              · have ic10 := (xi_eq c10 rfl (by decide) : v9.toInt = 0)
                refine lv_iconst (v := (-1)) hx hb dX12_ring_148 (by decide) ?_
                have hS := g.2.1
                exact W.iret (v := (-1)) hx hb hr (fun t ht hW => ⟨⟨(-1), I7, rfl, ⟨hI, hF, trivial⟩, h_ret g ht⟩, hS.F ht⟩) hS.2.2 dX12_ring_149
            · have ic8 := (xi_nle c8 (by decide) rfl : v6.toInt < 8)
              refine lv_iload_n hx hb dX12_ring_68 rfl (lv_at hl 1 rfl) ?_
              refine lv_iconst (v := 1) hx hb dX12_ring_69 (by decide) ?_
              refine lv_iadd hx hb dX12_ring_70 ?_
              refine lv_topi (fun v25 ev25 => ?_)
              have jv25 : v25.toInt = v6.toInt + 1 := xi_add ev25 rfl (by decide) (by omega) (by omega)
              refine lv_istore_n (lv' := [(2, .int v25), (0, .ref a0), (1, .int v6)]) hx hb dX12_ring_71 rfl hl (by decide) rfl (fun ls hl => ?_)
              have loop72_3 : ∀ (n : Nat) (I27 : tI) (H : Heap) (locs : List Loc) (ls : Array Slot) (v26 : Int32), h_G h_so h_fk E A z I27 L0 s s.heap H locs → h_I z I27 → h_F [(13, 44), (13, 45), (1339, 999), (1340, 999), (1343, 999), (1342, 999), (13, 41), (1346, 999), (1347, 999)] z I0 I27 → lv_has ls 4 [(0, .ref a0), (1, .int v6), (2, .int v26)] → (1 ≤ v26.toInt ∧ v26.toInt ≤ 8) → (8 - v26.toInt) < (n : Int) → W pr_ l ev_ (headSpec wsX12_ring ({ frames := 11, cells := 0, slots := 0, locals := 704 })).room s m ([.ref a0] : List Value).toArray below meth cd_ H locs 0 0 (MQ below (va_Qi (fun r (I1 : tI) => h_I z I1 ∧ h_F [(13, 44), (13, 45), (1339, 999), (1340, 999), (1343, 999), (1342, 999), (13, 41), (1346, 999), (1347, 999)] z I0 I1 ∧ True) (fun (I1 : tI) t => h_B E A z I1 L0 t) A) ([.ref a0] : List Value).toArray s 0 0 A) (F0 m 72 ls []) := by
                intro n
                induction n with
                | zero => intro I27 H locs ls v26 g hI hF hl jv26 hn; exact absurd hn (by omega)
                | succ n ih72 =>
                  intro I27 H locs ls v26 g hI hF hl jv26 hn
                  refine lv_iload_n hx hb dX12_ring_72 rfl (lv_at hl 2 rfl) ?_
                  refine lv_bipush (v := 8) hx hb dX12_ring_73 (by decide) ?_
                  refine lv_icmp_ge (tgt := 135) hx hb dX12_ring_75 (by decide) (fun c28 => ?_) (fun c28 => ?_)
                  · have ic28 := (xi_le c28 (by decide) rfl : 8 ≤ v26.toInt)
                    obtain ⟨v29, ev29⟩ : ∃ z : Int32, z = v6 + 1 := ⟨_, rfl⟩
                    have jv29 : v29.toInt = v6.toInt + 1 := xi_add ev29 rfl (by decide) (by omega) (by omega)
                    refine lv_iinc (v := v29) (lv' := [(1, .int v29), (0, .ref a0), (2, .int v26)]) hx hb dX12_ring_135 hl (k := 1) rfl (by rw [ev29]; rfl) (by decide) rfl (fun ls hl => ?_)
                    refine lv_goto (tgt := 62) hx hb dX12_ring_138 (by decide) ?_
                    exact ih62 I27 _ _ _ v29 g hI hF (lv_sub hl [1, 0] rfl) (by omega) (by omega)
                  · have ic28 := (xi_nle c28 (by decide) rfl : v26.toInt < 8)
                    refine lv_iload_n hx hb dX12_ring_78 rfl (lv_at hl 1 rfl) ?_
                    refine lv_iconst (v := 1) hx hb dX12_ring_79 (by decide) ?_
                    refine lv_iadd hx hb dX12_ring_80 ?_
                    refine xw_i (v := v25) ev25.symm ?_
                    refine lv_istore_n (lv' := [(3, .int v25), (0, .ref a0), (1, .int v6), (2, .int v26)]) hx hb dX12_ring_81 rfl hl (by decide) rfl (fun ls hl => ?_)
                    have loop82_4 : ∀ (n : Nat) (I31 : tI) (H : Heap) (locs : List Loc) (ls : Array Slot) (v30 : Int32), h_G h_so h_fk E A z I31 L0 s s.heap H locs → h_I z I31 → h_F [(13, 44), (13, 45), (1339, 999), (1340, 999), (1343, 999), (1342, 999), (13, 41), (1346, 999), (1347, 999)] z I0 I31 → lv_has ls 4 [(0, .ref a0), (1, .int v6), (2, .int v26), (3, .int v30)] → (1 ≤ v30.toInt ∧ v30.toInt ≤ 8) → (8 - v30.toInt) < (n : Int) → W pr_ l ev_ (headSpec wsX12_ring ({ frames := 11, cells := 0, slots := 0, locals := 704 })).room s m ([.ref a0] : List Value).toArray below meth cd_ H locs 0 0 (MQ below (va_Qi (fun r (I1 : tI) => h_I z I1 ∧ h_F [(13, 44), (13, 45), (1339, 999), (1340, 999), (1343, 999), (1342, 999), (13, 41), (1346, 999), (1347, 999)] z I0 I1 ∧ True) (fun (I1 : tI) t => h_B E A z I1 L0 t) A) ([.ref a0] : List Value).toArray s 0 0 A) (F0 m 82 ls []) := by
                      intro n
                      induction n with
                      | zero => intro I31 H locs ls v30 g hI hF hl jv30 hn; exact absurd hn (by omega)
                      | succ n ih82 =>
                        intro I31 H locs ls v30 g hI hF hl jv30 hn
                        refine lv_iload_n hx hb dX12_ring_82 rfl (lv_at hl 3 rfl) ?_
                        refine lv_bipush (v := 8) hx hb dX12_ring_83 (by decide) ?_
                        refine lv_icmp_ge (tgt := 129) hx hb dX12_ring_85 (by decide) (fun c32 => ?_) (fun c32 => ?_)
                        · have ic32 := (xi_le c32 (by decide) rfl : 8 ≤ v30.toInt)
                          obtain ⟨v33, ev33⟩ : ∃ z : Int32, z = v26 + 1 := ⟨_, rfl⟩
                          have jv33 : v33.toInt = v26.toInt + 1 := xi_add ev33 rfl (by decide) (by omega) (by omega)
                          refine lv_iinc (v := v33) (lv' := [(2, .int v33), (0, .ref a0), (1, .int v6), (3, .int v30)]) hx hb dX12_ring_129 hl (k := 2) rfl (by rw [ev33]; rfl) (by decide) rfl (fun ls hl => ?_)
                          refine lv_goto (tgt := 72) hx hb dX12_ring_132 (by decide) ?_
                          exact ih72 I31 _ _ _ v33 g hI hF (lv_sub hl [1, 2, 0] rfl) (by omega) (by omega)
                        · have ic32 := (xi_nle c32 (by decide) rfl : v30.toInt < 8)
                          refine lv_iload_n hx hb dX12_ring_88 rfl (lv_at hl 2 rfl) ?_
                          refine lv_iload_n hx hb dX12_ring_89 rfl (lv_at hl 3 rfl) ?_
                          refine lv_icmp_ne (tgt := 96) hx hb dX12_ring_90 (by decide) (fun c34 => ?_) (fun c34 => ?_)
                          · have ic34 := (xi_ne c34 rfl rfl : v26.toInt ≠ v30.toInt)
                            refine lv_aload_n hx hb dX12_ring_96 rfl (lv_at hl 0 rfl) ?_
                            obtain ⟨b35, rb35, tb35⟩ := hR.at a0 42 t_a0 (rfl : h_rs 13 42 = some (1342, false)) (by decide)
                            refine h_get (v := .ref b35) hx hb hts iX12 hown g t_a0 (by decide) so_13 rfl 42 (by decide) (hts (.fieldLink RX12 97 "CapLeagueModel" "triedClub" "[I") (by decide +kernel)) rfl dX12_ring_97 (by show va_rf (z.R a0 42) = _; rw [rb35]; rfl) ?_
                            refine lv_iconst (v := 0) hx hb dX12_ring_100 (by decide) ?_
                            refine lv_iload_n hx hb dX12_ring_101 rfl (lv_at hl 1 rfl) ?_
                            refine h_ast hx hb g tb35 (by decide) so_1342 (by unfold vp_in; decide) dX12_ring_102 (fun I36 H locs eI36 g => ?_)
                            have hI := hI.wr eI36 tb35 (rfl : h_bd 1342 _ = (0, 7)) (by omega) (by omega)
                            have hF := hF.wr eI36 tb35 rfl
                            refine lv_aload_n hx hb dX12_ring_103 rfl (lv_at hl 0 rfl) ?_
                            refine h_get (v := .ref b35) hx hb hts iX12 hown g t_a0 (by decide) so_13 rfl 42 (by decide) (hts (.fieldLink RX12 97 "CapLeagueModel" "triedClub" "[I") (by decide +kernel)) rfl dX12_ring_104 (by show va_rf (z.R a0 42) = _; rw [rb35]; rfl) ?_
                            refine lv_iconst (v := 1) hx hb dX12_ring_107 (by decide) ?_
                            refine lv_iload_n hx hb dX12_ring_108 rfl (lv_at hl 2 rfl) ?_
                            refine h_ast hx hb g tb35 (by decide) so_1342 (by unfold vp_in; decide) dX12_ring_109 (fun I37 H locs eI37 g => ?_)
                            have hI := hI.wr eI37 tb35 (rfl : h_bd 1342 _ = (0, 7)) (by omega) (by omega)
                            have hF := hF.wr eI37 tb35 rfl
                            refine lv_aload_n hx hb dX12_ring_110 rfl (lv_at hl 0 rfl) ?_
                            refine h_get (v := .ref b35) hx hb hts iX12 hown g t_a0 (by decide) so_13 rfl 42 (by decide) (hts (.fieldLink RX12 97 "CapLeagueModel" "triedClub" "[I") (by decide +kernel)) rfl dX12_ring_111 (by show va_rf (z.R a0 42) = _; rw [rb35]; rfl) ?_
                            refine lv_iconst (v := 2) hx hb dX12_ring_114 (by decide) ?_
                            refine lv_iload_n hx hb dX12_ring_115 rfl (lv_at hl 3 rfl) ?_
                            refine h_ast hx hb g tb35 (by decide) so_1342 (by unfold vp_in; decide) dX12_ring_116 (fun I38 H locs eI38 g => ?_)
                            have hI := hI.wr eI38 tb35 (rfl : h_bd 1342 _ = (0, 7)) (by omega) (by omega)
                            have hF := hF.wr eI38 tb35 rfl
                            refine lv_aload_n hx hb dX12_ring_117 rfl (lv_at hl 0 rfl) ?_
                            refine lv_iconst (v := 0) hx hb dX12_ring_118 (by decide) ?_
                            refine lv_iconst (v := 3) hx hb dX12_ring_119 (by decide) ?_
                            refine va_callv (va_runV (As := [.int 0, .int 3]) (rest := []) ⟨hx, hb, hml, hown, hts⟩ (tX12_givers3 l E X A z I38 L0 a0 t_a0 0 (0) (by decide) (by omega) 3 (3) (by decide) (by omega) (by omega)) (cwV 2 hts gX12_ring_X12_givers rfl rfl rfl (by decide +kernel) ⟨Nat.le_of_ble_eq_true rfl, Nat.le_of_ble_eq_true rfl⟩) ⟨h_blind _ _ _ _ _ _ _, h_recv g t_a0 (by decide) so_13 (q := (RX12, TX12, 51)) rfl, h_pre _ hE hk hX hA hI hR g⟩ rfl rfl hl.1 rfl (lv_room (Nat.le_of_ble_eq_true rfl)) dX12_ring_120 ⟨Nat.le_of_ble_eq_true rfl, Nat.le_of_ble_eq_true rfl⟩) g.2.1 (fun q _ h => h) (fun q h => h) (fun I40 t H1 locs ht hvm h39 hB hz1 hk1 hS => ?_)
                            obtain ⟨hI, fh39, h39⟩ := h39
                            replace g := h_after g hB ht hS
                            generalize H1 = H at g
                            clear hB hk1 hz1 ht hvm hS
                            have hF := hF.call fh39 rfl
                            obtain ⟨v41, ev41⟩ : ∃ z : Int32, z = v30 + 1 := ⟨_, rfl⟩
                            have jv41 : v41.toInt = v30.toInt + 1 := xi_add ev41 rfl (by decide) (by omega) (by omega)
                            refine lv_iinc (v := v41) (lv' := [(3, .int v41), (0, .ref a0), (1, .int v6), (2, .int v26)]) hx hb dX12_ring_123 hl (k := 3) rfl (by rw [ev41]; rfl) (by decide) rfl (fun ls hl => ?_)
                            refine lv_goto (tgt := 82) hx hb dX12_ring_126 (by decide) ?_
                            exact ih82 I40 _ _ _ v41 g hI hF (lv_sub hl [1, 2, 3, 0] rfl) (by omega) (by omega)
                          · have ic34 := (xi_eq c34 rfl rfl : v26.toInt = v30.toInt)
                            refine lv_goto (tgt := 123) hx hb dX12_ring_93 (by decide) ?_
                            obtain ⟨v42, ev42⟩ : ∃ z : Int32, z = v30 + 1 := ⟨_, rfl⟩
                            have jv42 : v42.toInt = v30.toInt + 1 := xi_add ev42 rfl (by decide) (by omega) (by omega)
                            refine lv_iinc (v := v42) (lv' := [(3, .int v42), (0, .ref a0), (1, .int v6), (2, .int v26)]) hx hb dX12_ring_123 hl (k := 3) rfl (by rw [ev42]; rfl) (by decide) rfl (fun ls hl => ?_)
                            refine lv_goto (tgt := 82) hx hb dX12_ring_126 (by decide) ?_
                            exact ih82 I31 _ _ _ v42 g hI hF (lv_sub hl [1, 2, 3, 0] rfl) (by omega) (by omega)
                    exact loop82_4 _ I27 _ _ _ v25 g hI hF (lv_sub hl [1, 2, 3, 0] rfl) (by omega) (show (8 - v25.toInt) < (((8 - v25.toInt).toNat + 1 : Nat) : Int) by omega)
              exact loop72_3 _ I7 _ _ _ v25 g hI hF (lv_sub hl [1, 2, 0] rfl) (by omega) (show (8 - v25.toInt) < (((8 - v25.toInt).toNat + 1 : Nat) : Int) by omega)
        exact loop62_1 _ I4 _ _ _ (0) g hI hF (lv_sub hl [1, 0] rfl) ⟨by decide, by decide⟩ (show (8 - (0 : Int)) < (((8 - (0 : Int)).toNat + 1 : Nat) : Int) by omega)
      · have ic5 := (xi_nle c5 (by decide) rfl : v3.toInt < 8)
        refine lv_iload_n hx hb dX12_ring_18 rfl (lv_at hl 1 rfl) ?_
        refine lv_iconst (v := 1) hx hb dX12_ring_19 (by decide) ?_
        refine lv_iadd hx hb dX12_ring_20 ?_
        refine lv_topi (fun v43 ev43 => ?_)
        have jv43 : v43.toInt = v3.toInt + 1 := xi_add ev43 rfl (by decide) (by omega) (by omega)
        refine lv_istore_n (lv' := [(2, .int v43), (0, .ref a0), (1, .int v3)]) hx hb dX12_ring_21 rfl hl (by decide) rfl (fun ls hl => ?_)
        have loop22_5 : ∀ (n : Nat) (I45 : tI) (H : Heap) (locs : List Loc) (ls : Array Slot) (v44 : Int32), h_G h_so h_fk E A z I45 L0 s s.heap H locs → h_I z I45 → h_F [(13, 44), (13, 45), (1339, 999), (1340, 999), (1343, 999), (1342, 999), (13, 41), (1346, 999), (1347, 999)] z I0 I45 → lv_has ls 4 [(0, .ref a0), (1, .int v3), (2, .int v44)] → (1 ≤ v44.toInt ∧ v44.toInt ≤ 8) → (8 - v44.toInt) < (n : Int) → W pr_ l ev_ (headSpec wsX12_ring ({ frames := 11, cells := 0, slots := 0, locals := 704 })).room s m ([.ref a0] : List Value).toArray below meth cd_ H locs 0 0 (MQ below (va_Qi (fun r (I1 : tI) => h_I z I1 ∧ h_F [(13, 44), (13, 45), (1339, 999), (1340, 999), (1343, 999), (1342, 999), (13, 41), (1346, 999), (1347, 999)] z I0 I1 ∧ True) (fun (I1 : tI) t => h_B E A z I1 L0 t) A) ([.ref a0] : List Value).toArray s 0 0 A) (F0 m 22 ls []) := by
          intro n
          induction n with
          | zero => intro I45 H locs ls v44 g hI hF hl jv44 hn; exact absurd hn (by omega)
          | succ n ih22 =>
            intro I45 H locs ls v44 g hI hF hl jv44 hn
            refine lv_iload_n hx hb dX12_ring_22 rfl (lv_at hl 2 rfl) ?_
            refine lv_bipush (v := 8) hx hb dX12_ring_23 (by decide) ?_
            refine lv_icmp_ge (tgt := 54) hx hb dX12_ring_25 (by decide) (fun c46 => ?_) (fun c46 => ?_)
            · have ic46 := (xi_le c46 (by decide) rfl : 8 ≤ v44.toInt)
              obtain ⟨v47, ev47⟩ : ∃ z : Int32, z = v3 + 1 := ⟨_, rfl⟩
              have jv47 : v47.toInt = v3.toInt + 1 := xi_add ev47 rfl (by decide) (by omega) (by omega)
              refine lv_iinc (v := v47) (lv' := [(1, .int v47), (0, .ref a0), (2, .int v44)]) hx hb dX12_ring_54 hl (k := 1) rfl (by rw [ev47]; rfl) (by decide) rfl (fun ls hl => ?_)
              refine lv_goto (tgt := 12) hx hb dX12_ring_57 (by decide) ?_
              exact ih12 I45 _ _ _ v47 g hI hF (lv_sub hl [1, 0] rfl) (by omega) (by omega)
            · have ic46 := (xi_nle c46 (by decide) rfl : v44.toInt < 8)
              refine lv_aload_n hx hb dX12_ring_28 rfl (lv_at hl 0 rfl) ?_
              obtain ⟨b48, rb48, tb48⟩ := hR.at a0 42 t_a0 (rfl : h_rs 13 42 = some (1342, false)) (by decide)
              refine h_get (v := .ref b48) hx hb hts iX12 hown g t_a0 (by decide) so_13 rfl 42 (by decide) (hts (.fieldLink RX12 97 "CapLeagueModel" "triedClub" "[I") (by decide +kernel)) rfl dX12_ring_29 (by show va_rf (z.R a0 42) = _; rw [rb48]; rfl) ?_
              refine lv_iconst (v := 0) hx hb dX12_ring_32 (by decide) ?_
              refine lv_iload_n hx hb dX12_ring_33 rfl (lv_at hl 1 rfl) ?_
              refine h_ast hx hb g tb48 (by decide) so_1342 (by unfold vp_in; decide) dX12_ring_34 (fun I49 H locs eI49 g => ?_)
              have hI := hI.wr eI49 tb48 (rfl : h_bd 1342 _ = (0, 7)) (by omega) (by omega)
              have hF := hF.wr eI49 tb48 rfl
              refine lv_aload_n hx hb dX12_ring_35 rfl (lv_at hl 0 rfl) ?_
              refine h_get (v := .ref b48) hx hb hts iX12 hown g t_a0 (by decide) so_13 rfl 42 (by decide) (hts (.fieldLink RX12 97 "CapLeagueModel" "triedClub" "[I") (by decide +kernel)) rfl dX12_ring_36 (by show va_rf (z.R a0 42) = _; rw [rb48]; rfl) ?_
              refine lv_iconst (v := 1) hx hb dX12_ring_39 (by decide) ?_
              refine lv_iload_n hx hb dX12_ring_40 rfl (lv_at hl 2 rfl) ?_
              refine h_ast hx hb g tb48 (by decide) so_1342 (by unfold vp_in; decide) dX12_ring_41 (fun I50 H locs eI50 g => ?_)
              have hI := hI.wr eI50 tb48 (rfl : h_bd 1342 _ = (0, 7)) (by omega) (by omega)
              have hF := hF.wr eI50 tb48 rfl
              refine lv_aload_n hx hb dX12_ring_42 rfl (lv_at hl 0 rfl) ?_
              refine lv_iconst (v := 0) hx hb dX12_ring_43 (by decide) ?_
              refine lv_iconst (v := 2) hx hb dX12_ring_44 (by decide) ?_
              refine va_callv (va_runV (As := [.int 0, .int 2]) (rest := []) ⟨hx, hb, hml, hown, hts⟩ (tX12_givers2 l E X A z I50 L0 a0 t_a0 0 (0) (by decide) (by omega) 2 (2) (by decide) (by omega) (by omega)) (cwV 2 hts gX12_ring_X12_givers rfl rfl rfl (by decide +kernel) ⟨Nat.le_of_ble_eq_true rfl, Nat.le_of_ble_eq_true rfl⟩) ⟨h_blind _ _ _ _ _ _ _, h_recv g t_a0 (by decide) so_13 (q := (RX12, TX12, 51)) rfl, h_pre _ hE hk hX hA hI hR g⟩ rfl rfl hl.1 rfl (lv_room (Nat.le_of_ble_eq_true rfl)) dX12_ring_45 ⟨Nat.le_of_ble_eq_true rfl, Nat.le_of_ble_eq_true rfl⟩) g.2.1 (fun q _ h => h) (fun q h => h) (fun I52 t H1 locs ht hvm h51 hB hz1 hk1 hS => ?_)
              obtain ⟨hI, fh51, h51⟩ := h51
              replace g := h_after g hB ht hS
              generalize H1 = H at g
              clear hB hk1 hz1 ht hvm hS
              have hF := hF.call fh51 rfl
              obtain ⟨v53, ev53⟩ : ∃ z : Int32, z = v44 + 1 := ⟨_, rfl⟩
              have jv53 : v53.toInt = v44.toInt + 1 := xi_add ev53 rfl (by decide) (by omega) (by omega)
              refine lv_iinc (v := v53) (lv' := [(2, .int v53), (0, .ref a0), (1, .int v3)]) hx hb dX12_ring_48 hl (k := 2) rfl (by rw [ev53]; rfl) (by decide) rfl (fun ls hl => ?_)
              refine lv_goto (tgt := 22) hx hb dX12_ring_51 (by decide) ?_
              exact ih22 I52 _ _ _ v53 g hI hF (lv_sub hl [1, 2, 0] rfl) (by omega) (by omega)
        exact loop22_5 _ I4 _ _ _ v43 g hI hF (lv_sub hl [1, 2, 0] rfl) (by omega) (show (8 - v43.toInt) < (((8 - v43.toInt).toNat + 1 : Nat) : Int) by omega)
  exact loop12_0 _ I2 _ _ _ (0) g hI hF (lv_sub hl [1, 0] rfl) ⟨by decide, by decide⟩ (show (8 - (0 : Int)) < (((8 - (0 : Int)).toNat + 1 : Nat) : Int) by omega)
