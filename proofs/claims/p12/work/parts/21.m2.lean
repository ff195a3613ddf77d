set_option maxHeartbeats 4000000 in
set_option maxRecDepth 100000 in
theorem tX12_lawOf (l : Launch) (E : tE) (X : tX) (A : Nat → Prop) (z : tZ) (I0 : tI) (L0 : tL) (a0 : Nat) (t_a0 : z.ty a0 = 13) (y : Int32) (y_t : Int) (h_y : y.toInt = y_t) (b_y : 0 ≤ y_t ∧ y_t ≤ 9) (k : Int32) (k_t : Int) (h_k : k.toInt = k_t) (b_k : 0 ≤ k_t ∧ k_t ≤ 15) : Met l yX12_lawOf wsX12_lawOf ({ frames := 1, cells := 0, slots := 0, locals := 64 }) (va_Pc [.ref a0, .int y, .int k] (h_P E X A z I0 L0)) (vp_Si (fun r => True)) 0 0 (fun _ => False) := by
  refine Met.ofW (cc := cX12_lawOf) (maxL := 4) (ret := (some .int)) (by decide) rfl ?_
  intro pr_ ev_ s m args below meth cd_ s₁ B hml hv
  obtain ⟨rfl, hE, hk, hX, hA, hK, hI, hR, hB0⟩ := hv
  have g : h_G h_so h_fk E A z I0 L0 s s.heap s.heap [] := ⟨hK, va_S.rf, hB0⟩
  have hx := B.exec
  have hb := B.bytes
  have hr := B.returns
  have hts := atoms_spec (ws := wsX12_lawOf) B.pre
  have hown : s.vm.findClass RX12 = some m.cls := findClass_of_methodNamed B.named
  have hlocks := B.notSynchronized
  have iX12 : ∀ w ∈ u_ws RX12 TX12 51, w ∈ wsX12_lawOf := by decide +kernel
  have hl := lv_entry ([.ref a0, .int y, .int k]) (n := 4) (Nat.le_of_ble_eq_true rfl)
  rw [lg_entry_eq]
  generalize (lg_sl ([.ref a0, .int y, .int k]) ++ List.replicate (4 - (lg_sl ([.ref a0, .int y, .int k])).length) Slot.unset).toArray = ls at hl ⊢
  have hl : lv_has ls 4 [(0, .ref a0), (1, .int y), (2, .int k)] := hl
  refine lv_iload_n hx hb dX12_lawOf_0 rfl (lv_at hl 1 rfl) ?_
  refine lv_istore_n (lv' := [(3, .int y), (0, .ref a0), (1, .int y), (2, .int k)]) hx hb dX12_lawOf_1 rfl hl (by decide) rfl (fun ls hl => ?_)
  have loop2_0 : ∀ (n : Nat) (ls : Array Slot) (v1 : Int32), lv_has ls 4 [(0, .ref a0), (2, .int k), (3, .int v1)] → ((-1) ≤ v1.toInt ∧ v1.toInt ≤ 9) → (v1.toInt + 2) < (n : Int) → W pr_ l ev_ (headSpec wsX12_lawOf ({ frames := 1, cells := 0, slots := 0, locals := 64 })).room s m ([.ref a0, .int y, .int k] : List Value).toArray below meth cd_ s.heap [] 0 0 (MQ below (vp_Si (fun r => True)) ([.ref a0, .int y, .int k] : List Value).toArray s 0 0 (fun _ => False)) (F0 m 2 ls []) := by
    intro n
    induction n with
    | zero => intro ls v1 hl jv1 hn; exact absurd hn (by omega)
    | succ n ih2 =>
      intro ls v1 hl jv1 hn
      refine lv_iload_n hx hb dX12_lawOf_2 rfl (lv_at hl 2 rfl) ?_
      refine lv_if_lt (tgt := 21) hx hb dX12_lawOf_3 (by decide) (fun c2 => ?_) (fun c2 => ?_)
      · have ic2 := (xi_lt c2 rfl (by decide) : v1.toInt < 0)
        refine lv_aload_n hx hb dX12_lawOf_21 rfl (lv_at hl 0 rfl) ?_
        obtain ⟨b3, rb3, tb3⟩ := hR.at a0 10 t_a0 (rfl : h_rs 13 10 = some (1310, false)) (by decide)
        refine h_get (v := .ref b3) hx hb hts iX12 hown g t_a0 (by decide) so_13 rfl 10 (by decide) (hts (.fieldLink RX12 17 "CapLeagueModel" "laws" "[I") (by decide +kernel)) rfl dX12_lawOf_22 (by show va_rf (z.R a0 10) = _; rw [rb3]; rfl) ?_
        refine lv_bipush (v := 16) hx hb dX12_lawOf_25 (by decide) ?_
        refine lv_iload_n hx hb dX12_lawOf_27 rfl (lv_at hl 2 rfl) ?_
        refine lv_if_ge (tgt := 36) hx hb dX12_lawOf_28 (by decide) (fun h => absurd (xi_le h (by decide) rfl : 0 ≤ v1.toInt) (by omega)) (fun c4 => ?_)
        have ic4 := (xi_nle c4 (by decide) rfl : v1.toInt < 0)
        refine lv_bipush (v := 11) hx hb dX12_lawOf_31 (by decide) ?_
        refine lv_goto (tgt := 37) hx hb dX12_lawOf_33 (by decide) ?_
        refine lv_imul hx hb dX12_lawOf_37 ?_
        refine xw_i (v := 176) (by decide) ?_
        refine lv_iload_n hx hb dX12_lawOf_38 rfl (lv_at hl 1 rfl) ?_
        refine lv_iadd hx hb dX12_lawOf_39 ?_
        refine lv_topi (fun v5 ev5 => ?_)
        have jv5 : v5.toInt = 176 + k_t := xi_add ev5 (by decide) h_k (by omega) (by omega)
        refine h_ald hx hb g tb3 (by decide) so_1310 (xi_in (by omega) (by omega)) dX12_lawOf_40 ?_
        refine lv_topi (fun v6 ev6 => ?_)
        have kv6 := h_lwr hI tb3 (k := v5.toInt) rfl ev6 (by omega)
        have jv6 : -2147483648 ≤ v6.toInt ∧ v6.toInt ≤ 2147483647 := ⟨xi_lo _, Int.le_of_lt_add_one (xi_hi _)⟩
        exact W.iret (v := v6) hx hb hr (fun t ht hW => ⟨v6, rfl, trivial, ht⟩) (fun _ h => by cases h) dX12_lawOf_41
      · have ic2 := (xi_nlt c2 rfl (by decide) : 0 ≤ v1.toInt)
        refine lv_aload_n hx hb dX12_lawOf_6 rfl (lv_at hl 0 rfl) ?_
        obtain ⟨b7, rb7, tb7⟩ := hR.at a0 11 t_a0 (rfl : h_rs 13 11 = some (1311, false)) (by decide)
        refine h_get (v := .ref b7) hx hb hts iX12 hown g t_a0 (by decide) so_13 rfl 11 (by decide) (hts (.fieldLink RX12 21 "CapLeagueModel" "hasLaws" "[Z") (by decide +kernel)) rfl dX12_lawOf_7 (by show va_rf (z.R a0 11) = _; rw [rb7]; rfl) ?_
        refine lv_iload_n hx hb dX12_lawOf_10 rfl (lv_at hl 2 rfl) ?_
        refine h_zald hx hb g tb7 (by decide) so_1311 (xi_in (by omega) (by omega)) dX12_lawOf_11 ?_
        refine lv_topi (fun v8 ev8 => ?_)
        have jv8 := hI.rd b7 v1.toNatClampNeg tb7 ev8 (rfl : h_bd 1311 _ = (0, 1))
        refine lv_if_ne (tgt := 21) hx hb dX12_lawOf_12 (by decide) (fun c9 => ?_) (fun c9 => ?_)
        · have ic9 := (xi_ne c9 rfl (by decide) : v8.toInt ≠ 0)
          refine lv_aload_n hx hb dX12_lawOf_21 rfl (lv_at hl 0 rfl) ?_
          obtain ⟨b10, rb10, tb10⟩ := hR.at a0 10 t_a0 (rfl : h_rs 13 10 = some (1310, false)) (by decide)
          refine h_get (v := .ref b10) hx hb hts iX12 hown g t_a0 (by decide) so_13 rfl 10 (by decide) (hts (.fieldLink RX12 17 "CapLeagueModel" "laws" "[I") (by decide +kernel)) rfl dX12_lawOf_22 (by show va_rf (z.R a0 10) = _; rw [rb10]; rfl) ?_
          refine lv_bipush (v := 16) hx hb dX12_lawOf_25 (by decide) ?_
          refine lv_iload_n hx hb dX12_lawOf_27 rfl (lv_at hl 2 rfl) ?_
          refine lv_if_ge (tgt := 36) hx hb dX12_lawOf_28 (by decide) (fun c11 => ?_) (fun h => absurd (xi_nle h (by decide) rfl : v1.toInt < 0) (by omega))
          have ic11 := (xi_le c11 (by decide) rfl : 0 ≤ v1.toInt)
          refine lv_iload_n hx hb dX12_lawOf_36 rfl (lv_at hl 2 rfl) ?_
          refine lv_imul hx hb dX12_lawOf_37 ?_
          refine lv_topi (fun v12 ev12 => ?_)
          have jv12 : v12.toInt = 16 * v1.toInt := xi_mul ev12 (by decide) rfl (by omega) (by omega)
          refine lv_iload_n hx hb dX12_lawOf_38 rfl (lv_at hl 1 rfl) ?_
          refine lv_iadd hx hb dX12_lawOf_39 ?_
          refine lv_topi (fun v13 ev13 => ?_)
          have jv13 : v13.toInt = v12.toInt + k_t := xi_add ev13 rfl h_k (by omega) (by omega)
          refine h_ald hx hb g tb10 (by decide) so_1310 (xi_in (by omega) (by omega)) dX12_lawOf_40 ?_
          refine lv_topi (fun v14 ev14 => ?_)
          have kv14 := h_lwr hI tb10 (k := v13.toInt) rfl ev14 (by omega)
          have jv14 : -2147483648 ≤ v14.toInt ∧ v14.toInt ≤ 2147483647 := ⟨xi_lo _, Int.le_of_lt_add_one (xi_hi _)⟩
          exact W.iret (v := v14) hx hb hr (fun t ht hW => ⟨v14, rfl, trivial, ht⟩) (fun _ h => by cases h) dX12_lawOf_41
        · have ic9 := (xi_eq c9 rfl (by decide) : v8.toInt = 0)
          obtain ⟨v15, ev15⟩ : ∃ z : Int32, z = v1 + (-1) := ⟨_, rfl⟩
          have jv15 : v15.toInt = v1.toInt + (-1) := xi_add ev15 rfl (by decide) (by omega) (by omega)
          refine lv_iinc (v := v15) (lv' := [(3, .int v15), (0, .ref a0), (2, .int k)]) hx hb dX12_lawOf_15 hl (k := 2) rfl (by rw [ev15]; rfl) (by decide) rfl (fun ls hl => ?_)
          refine lv_goto (tgt := 2) hx hb dX12_lawOf_18 (by decide) ?_
          exact ih2 _ v15 (lv_sub hl [1, 2, 0] rfl) (by omega) (by omega)
  exact loop2_0 _ _ y (lv_sub hl [1, 3, 0] rfl) (by rw [h_y]; omega) (show (y.toInt + 2) < (((y.toInt + 2).toNat + 1 : Nat) : Int) by omega)
set_option maxHeartbeats 4000000 in
set_option maxRecDepth 100000 in
theorem tX12_lawOf8 (l : Launch) (E : tE) (X : tX) (A : Nat → Prop) (z : tZ) (I0 : tI) (L0 : tL) (a0 : Nat) (t_a0 : z.ty a0 = 13) (y : Int32) (y_t : Int) (h_y : y.toInt = y_t) (b_y : 0 ≤ y_t ∧ y_t ≤ 9) (k : Int32) (k_t : Int) (h_k : k.toInt = k_t) (b_k : 8 ≤ k_t ∧ k_t ≤ 8) : Met l yX12_lawOf wsX12_lawOf ({ frames := 1, cells := 0, slots := 0, locals := 64 }) (va_Pc [.ref a0, .int y, .int k] (h_P E X A z I0 L0)) (vp_Si (fun r => (0 ≤ r.toInt ∧ r.toInt ≤ 7))) 0 0 (fun _ => False) := by
  refine Met.ofW (cc := cX12_lawOf) (maxL := 4) (ret := (some .int)) (by decide) rfl ?_
  intro pr_ ev_ s m args below meth cd_ s₁ B hml hv
  obtain ⟨rfl, hE, hk, hX, hA, hK, hI, hR, hB0⟩ := hv
  have g : h_G h_so h_fk E A z I0 L0 s s.heap s.heap [] := ⟨hK, va_S.rf, hB0⟩
  have hx := B.exec
  have hb := B.bytes
  have hr := B.returns
  have hts := atoms_spec (ws := wsX12_lawOf) B.pre
  have hown : s.vm.findClass RX12 = some m.cls := findClass_of_methodNamed B.named
  have hlocks := B.notSynchronized
  have iX12 : ∀ w ∈ u_ws RX12 TX12 51, w ∈ wsX12_lawOf := by decide +kernel
  have hl := lv_entry ([.ref a0, .int y, .int k]) (n := 4) (Nat.le_of_ble_eq_true rfl)
  rw [lg_entry_eq]
  generalize (lg_sl ([.ref a0, .int y, .int k]) ++ List.replicate (4 - (lg_sl ([.ref a0, .int y, .int k])).length) Slot.unset).toArray = ls at hl ⊢
  have hl : lv_has ls 4 [(0, .ref a0), (1, .int y), (2, .int k)] := hl
  refine lv_iload_n hx hb dX12_lawOf_0 rfl (lv_at hl 1 rfl) ?_
  refine lv_istore_n (lv' := [(3, .int y), (0, .ref a0), (1, .int y), (2, .int k)]) hx hb dX12_lawOf_1 rfl hl (by decide) rfl (fun ls hl => ?_)
  have loop2_0 : ∀ (n : Nat) (ls : Array Slot) (v1 : Int32), lv_has ls 4 [(0, .ref a0), (2, .int k), (3, .int v1)] → ((-1) ≤ v1.toInt ∧ v1.toInt ≤ 9) → (v1.toInt + 2) < (n : Int) → W pr_ l ev_ (headSpec wsX12_lawOf ({ frames := 1, cells := 0, slots := 0, locals := 64 })).room s m ([.ref a0, .int y, .int k] : List Value).toArray below meth cd_ s.heap [] 0 0 (MQ below (vp_Si (fun r => (0 ≤ r.toInt ∧ r.toInt ≤ 7))) ([.ref a0, .int y, .int k] : List Value).toArray s 0 0 (fun _ => False)) (F0 m 2 ls []) := by
    intro n
    induction n with
    | zero => intro ls v1 hl jv1 hn; exact absurd hn (by omega)
    | succ n ih2 =>
      intro ls v1 hl jv1 hn
      refine lv_iload_n hx hb dX12_lawOf_2 rfl (lv_at hl 2 rfl) ?_
      refine lv_if_lt (tgt := 21) hx hb dX12_lawOf_3 (by decide) (fun c2 => ?_) (fun c2 => ?_)
      · have ic2 := (xi_lt c2 rfl (by decide) : v1.toInt < 0)
        refine lv_aload_n hx hb dX12_lawOf_21 rfl (lv_at hl 0 rfl) ?_
        obtain ⟨b3, rb3, tb3⟩ := hR.at a0 10 t_a0 (rfl : h_rs 13 10 = some (1310, false)) (by decide)
        refine h_get (v := .ref b3) hx hb hts iX12 hown g t_a0 (by decide) so_13 rfl 10 (by decide) (hts (.fieldLink RX12 17 "CapLeagueModel" "laws" "[I") (by decide +kernel)) rfl dX12_lawOf_22 (by show va_rf (z.R a0 10) = _; rw [rb3]; rfl) ?_
        refine lv_bipush (v := 16) hx hb dX12_lawOf_25 (by decide) ?_
        refine lv_iload_n hx hb dX12_lawOf_27 rfl (lv_at hl 2 rfl) ?_
        refine lv_if_ge (tgt := 36) hx hb dX12_lawOf_28 (by decide) (fun h => absurd (xi_le h (by decide) rfl : 0 ≤ v1.toInt) (by omega)) (fun c4 => ?_)
        have ic4 := (xi_nle c4 (by decide) rfl : v1.toInt < 0)
        refine lv_bipush (v := 11) hx hb dX12_lawOf_31 (by decide) ?_
        refine lv_goto (tgt := 37) hx hb dX12_lawOf_33 (by decide) ?_
        refine lv_imul hx hb dX12_lawOf_37 ?_
        refine xw_i (v := 176) (by decide) ?_
        refine lv_iload_n hx hb dX12_lawOf_38 rfl (lv_at hl 1 rfl) ?_
        refine lv_iadd hx hb dX12_lawOf_39 ?_
        refine lv_topi (fun v5 ev5 => ?_)
        have jv5 : v5.toInt = 176 + k_t := xi_add ev5 (by decide) h_k (by omega) (by omega)
        refine h_ald hx hb g tb3 (by decide) so_1310 (xi_in (by omega) (by omega)) dX12_lawOf_40 ?_
        refine lv_topi (fun v6 ev6 => ?_)
        have kv6 := h_lwr hI tb3 (k := v5.toInt) rfl ev6 (by omega)
        have jv6 : -2147483648 ≤ v6.toInt ∧ v6.toInt ≤ 2147483647 := ⟨xi_lo _, Int.le_of_lt_add_one (xi_hi _)⟩
        have mv6 : 0 ≤ v6.toInt ∧ v6.toInt ≤ 7 := by omega
        exact W.iret (v := v6) hx hb hr (fun t ht hW => ⟨v6, rfl, ⟨(by omega), (by omega)⟩, ht⟩) (fun _ h => by cases h) dX12_lawOf_41
      · have ic2 := (xi_nlt c2 rfl (by decide) : 0 ≤ v1.toInt)
        refine lv_aload_n hx hb dX12_lawOf_6 rfl (lv_at hl 0 rfl) ?_
        obtain ⟨b7, rb7, tb7⟩ := hR.at a0 11 t_a0 (rfl : h_rs 13 11 = some (1311, false)) (by decide)
        refine h_get (v := .ref b7) hx hb hts iX12 hown g t_a0 (by decide) so_13 rfl 11 (by decide) (hts (.fieldLink RX12 21 "CapLeagueModel" "hasLaws" "[Z") (by decide +kernel)) rfl dX12_lawOf_7 (by show va_rf (z.R a0 11) = _; rw [rb7]; rfl) ?_
        refine lv_iload_n hx hb dX12_lawOf_10 rfl (lv_at hl 2 rfl) ?_
        refine h_zald hx hb g tb7 (by decide) so_1311 (xi_in (by omega) (by omega)) dX12_lawOf_11 ?_
        refine lv_topi (fun v8 ev8 => ?_)
        have jv8 := hI.rd b7 v1.toNatClampNeg tb7 ev8 (rfl : h_bd 1311 _ = (0, 1))
        refine lv_if_ne (tgt := 21) hx hb dX12_lawOf_12 (by decide) (fun c9 => ?_) (fun c9 => ?_)
        · have ic9 := (xi_ne c9 rfl (by decide) : v8.toInt ≠ 0)
          refine lv_aload_n hx hb dX12_lawOf_21 rfl (lv_at hl 0 rfl) ?_
          obtain ⟨b10, rb10, tb10⟩ := hR.at a0 10 t_a0 (rfl : h_rs 13 10 = some (1310, false)) (by decide)
          refine h_get (v := .ref b10) hx hb hts iX12 hown g t_a0 (by decide) so_13 rfl 10 (by decide) (hts (.fieldLink RX12 17 "CapLeagueModel" "laws" "[I") (by decide +kernel)) rfl dX12_lawOf_22 (by show va_rf (z.R a0 10) = _; rw [rb10]; rfl) ?_
          refine lv_bipush (v := 16) hx hb dX12_lawOf_25 (by decide) ?_
          refine lv_iload_n hx hb dX12_lawOf_27 rfl (lv_at hl 2 rfl) ?_
          refine lv_if_ge (tgt := 36) hx hb dX12_lawOf_28 (by decide) (fun c11 => ?_) (fun h => absurd (xi_nle h (by decide) rfl : v1.toInt < 0) (by omega))
          have ic11 := (xi_le c11 (by decide) rfl : 0 ≤ v1.toInt)
          refine lv_iload_n hx hb dX12_lawOf_36 rfl (lv_at hl 2 rfl) ?_
          refine lv_imul hx hb dX12_lawOf_37 ?_
          refine lv_topi (fun v12 ev12 => ?_)
          have jv12 : v12.toInt = 16 * v1.toInt := xi_mul ev12 (by decide) rfl (by omega) (by omega)
          refine lv_iload_n hx hb dX12_lawOf_38 rfl (lv_at hl 1 rfl) ?_
          refine lv_iadd hx hb dX12_lawOf_39 ?_
          refine lv_topi (fun v13 ev13 => ?_)
          have jv13 : v13.toInt = v12.toInt + k_t := xi_add ev13 rfl h_k (by omega) (by omega)
          refine h_ald hx hb g tb10 (by decide) so_1310 (xi_in (by omega) (by omega)) dX12_lawOf_40 ?_
          refine lv_topi (fun v14 ev14 => ?_)
          have kv14 := h_lwr hI tb10 (k := v13.toInt) rfl ev14 (by omega)
          have jv14 : -2147483648 ≤ v14.toInt ∧ v14.toInt ≤ 2147483647 := ⟨xi_lo _, Int.le_of_lt_add_one (xi_hi _)⟩
          have mv14 : 0 ≤ v14.toInt ∧ v14.toInt ≤ 7 := by omega
          exact W.iret (v := v14) hx hb hr (fun t ht hW => ⟨v14, rfl, ⟨(by omega), (by omega)⟩, ht⟩) (fun _ h => by cases h) dX12_lawOf_41
        · have ic9 := (xi_eq c9 rfl (by decide) : v8.toInt = 0)
          obtain ⟨v15, ev15⟩ : ∃ z : Int32, z = v1 + (-1) := ⟨_, rfl⟩
          have jv15 : v15.toInt = v1.toInt + (-1) := xi_add ev15 rfl (by decide) (by omega) (by omega)
          refine lv_iinc (v := v15) (lv' := [(3, .int v15), (0, .ref a0), (2, .int k)]) hx hb dX12_lawOf_15 hl (k := 2) rfl (by rw [ev15]; rfl) (by decide) rfl (fun ls hl => ?_)
          refine lv_goto (tgt := 2) hx hb dX12_lawOf_18 (by decide) ?_
          exact ih2 _ v15 (lv_sub hl [1, 2, 0] rfl) (by omega) (by omega)
  exact loop2_0 _ _ y (lv_sub hl [1, 3, 0] rfl) (by rw [h_y]; omega) (show (y.toInt + 2) < (((y.toInt + 2).toNat + 1 : Nat) : Int) by omega)
set_option maxHeartbeats 4000000 in
set_option maxRecDepth 100000 in
theorem tX12_lawOf9 (l : Launch) (E : tE) (X : tX) (A : Nat → Prop) (z : tZ) (I0 : tI) (L0 : tL) (a0 : Nat) (t_a0 : z.ty a0 = 13) (y : Int32) (y_t : Int) (h_y : y.toInt = y_t) (b_y : 0 ≤ y_t ∧ y_t ≤ 9) (k : Int32) (k_t : Int) (h_k : k.toInt = k_t) (b_k : 9 ≤ k_t ∧ k_t ≤ 15) : Met l yX12_lawOf wsX12_lawOf ({ frames := 1, cells := 0, slots := 0, locals := 64 }) (va_Pc [.ref a0, .int y, .int k] (h_P E X A z I0 L0)) (vp_Si (fun r => (0 ≤ r.toInt ∧ r.toInt ≤ 20))) 0 0 (fun _ => False) := by
  refine Met.ofW (cc := cX12_lawOf) (maxL := 4) (ret := (some .int)) (by decide) rfl ?_
  intro pr_ ev_ s m args below meth cd_ s₁ B hml hv
  obtain ⟨rfl, hE, hk, hX, hA, hK, hI, hR, hB0⟩ := hv
  have g : h_G h_so h_fk E A z I0 L0 s s.heap s.heap [] := ⟨hK, va_S.rf, hB0⟩
  have hx := B.exec
  have hb := B.bytes
  have hr := B.returns
  have hts := atoms_spec (ws := wsX12_lawOf) B.pre
  have hown : s.vm.findClass RX12 = some m.cls := findClass_of_methodNamed B.named
  have hlocks := B.notSynchronized
  have iX12 : ∀ w ∈ u_ws RX12 TX12 51, w ∈ wsX12_lawOf := by decide +kernel
  have hl := lv_entry ([.ref a0, .int y, .int k]) (n := 4) (Nat.le_of_ble_eq_true rfl)
  rw [lg_entry_eq]
  generalize (lg_sl ([.ref a0, .int y, .int k]) ++ List.replicate (4 - (lg_sl ([.ref a0, .int y, .int k])).length) Slot.unset).toArray = ls at hl ⊢
  have hl : lv_has ls 4 [(0, .ref a0), (1, .int y), (2, .int k)] := hl
  refine lv_iload_n hx hb dX12_lawOf_0 rfl (lv_at hl 1 rfl) ?_
  refine lv_istore_n (lv' := [(3, .int y), (0, .ref a0), (1, .int y), (2, .int k)]) hx hb dX12_lawOf_1 rfl hl (by decide) rfl (fun ls hl => ?_)
  have loop2_0 : ∀ (n : Nat) (ls : Array Slot) (v1 : Int32), lv_has ls 4 [(0, .ref a0), (2, .int k), (3, .int v1)] → ((-1) ≤ v1.toInt ∧ v1.toInt ≤ 9) → (v1.toInt + 2) < (n : Int) → W pr_ l ev_ (headSpec wsX12_lawOf ({ frames := 1, cells := 0, slots := 0, locals := 64 })).room s m ([.ref a0, .int y, .int k] : List Value).toArray below meth cd_ s.heap [] 0 0 (MQ below (vp_Si (fun r => (0 ≤ r.toInt ∧ r.toInt ≤ 20))) ([.ref a0, .int y, .int k] : List Value).toArray s 0 0 (fun _ => False)) (F0 m 2 ls []) := by
    intro n
    induction n with
    | zero => intro ls v1 hl jv1 hn; exact absurd hn (by omega)
    | succ n ih2 =>
      intro ls v1 hl jv1 hn
      refine lv_iload_n hx hb dX12_lawOf_2 rfl (lv_at hl 2 rfl) ?_
      refine lv_if_lt (tgt := 21) hx hb dX12_lawOf_3 (by decide) (fun c2 => ?_) (fun c2 => ?_)
      · have ic2 := (xi_lt c2 rfl (by decide) : v1.toInt < 0)
        refine lv_aload_n hx hb dX12_lawOf_21 rfl (lv_at hl 0 rfl) ?_
        obtain ⟨b3, rb3, tb3⟩ := hR.at a0 10 t_a0 (rfl : h_rs 13 10 = some (1310, false)) (by decide)
        refine h_get (v := .ref b3) hx hb hts iX12 hown g t_a0 (by decide) so_13 rfl 10 (by decide) (hts (.fieldLink RX12 17 "CapLeagueModel" "laws" "[I") (by decide +kernel)) rfl dX12_lawOf_22 (by show va_rf (z.R a0 10) = _; rw [rb3]; rfl) ?_
        refine lv_bipush (v := 16) hx hb dX12_lawOf_25 (by decide) ?_
        refine lv_iload_n hx hb dX12_lawOf_27 rfl (lv_at hl 2 rfl) ?_
        refine lv_if_ge (tgt := 36) hx hb dX12_lawOf_28 (by decide) (fun h => absurd (xi_le h (by decide) rfl : 0 ≤ v1.toInt) (by omega)) (fun c4 => ?_)
        have ic4 := (xi_nle c4 (by decide) rfl : v1.toInt < 0)
        refine lv_bipush (v := 11) hx hb dX12_lawOf_31 (by decide) ?_
        refine lv_goto (tgt := 37) hx hb dX12_lawOf_33 (by decide) ?_
        refine lv_imul hx hb dX12_lawOf_37 ?_
        refine xw_i (v := 176) (by decide) ?_
        refine lv_iload_n hx hb dX12_lawOf_38 rfl (lv_at hl 1 rfl) ?_
        refine lv_iadd hx hb dX12_lawOf_39 ?_
        refine lv_topi (fun v5 ev5 => ?_)
        have jv5 : v5.toInt = 176 + k_t := xi_add ev5 (by decide) h_k (by omega) (by omega)
        refine h_ald hx hb g tb3 (by decide) so_1310 (xi_in (by omega) (by omega)) dX12_lawOf_40 ?_
        refine lv_topi (fun v6 ev6 => ?_)
        have kv6 := h_lwr hI tb3 (k := v5.toInt) rfl ev6 (by omega)
        have jv6 : -2147483648 ≤ v6.toInt ∧ v6.toInt ≤ 2147483647 := ⟨xi_lo _, Int.le_of_lt_add_one (xi_hi _)⟩
        have mv6 : 0 ≤ v6.toInt ∧ v6.toInt ≤ 20 := by omega
        exact W.iret (v := v6) hx hb hr (fun t ht hW => ⟨v6, rfl, ⟨(by omega), (by omega)⟩, ht⟩) (fun _ h => by cases h) dX12_lawOf_41
      · have ic2 := (xi_nlt c2 rfl (by decide) : 0 ≤ v1.toInt)
        refine lv_aload_n hx hb dX12_lawOf_6 rfl (lv_at hl 0 rfl) ?_
        obtain ⟨b7, rb7, tb7⟩ := hR.at a0 11 t_a0 (rfl : h_rs 13 11 = some (1311, false)) (by decide)
        refine h_get (v := .ref b7) hx hb hts iX12 hown g t_a0 (by decide) so_13 rfl 11 (by decide) (hts (.fieldLink RX12 21 "CapLeagueModel" "hasLaws" "[Z") (by decide +kernel)) rfl dX12_lawOf_7 (by show va_rf (z.R a0 11) = _; rw [rb7]; rfl) ?_
        refine lv_iload_n hx hb dX12_lawOf_10 rfl (lv_at hl 2 rfl) ?_
        refine h_zald hx hb g tb7 (by decide) so_1311 (xi_in (by omega) (by omega)) dX12_lawOf_11 ?_
        refine lv_topi (fun v8 ev8 => ?_)
        have jv8 := hI.rd b7 v1.toNatClampNeg tb7 ev8 (rfl : h_bd 1311 _ = (0, 1))
        refine lv_if_ne (tgt := 21) hx hb dX12_lawOf_12 (by decide) (fun c9 => ?_) (fun c9 => ?_)
        · have ic9 := (xi_ne c9 rfl (by decide) : v8.toInt ≠ 0)
          refine lv_aload_n hx hb dX12_lawOf_21 rfl (lv_at hl 0 rfl) ?_
          obtain ⟨b10, rb10, tb10⟩ := hR.at a0 10 t_a0 (rfl : h_rs 13 10 = some (1310, false)) (by decide)
          refine h_get (v := .ref b10) hx hb hts iX12 hown g t_a0 (by decide) so_13 rfl 10 (by decide) (hts (.fieldLink RX12 17 "CapLeagueModel" "laws" "[I") (by decide +kernel)) rfl dX12_lawOf_22 (by show va_rf (z.R a0 10) = _; rw [rb10]; rfl) ?_
          refine lv_bipush (v := 16) hx hb dX12_lawOf_25 (by decide) ?_
          refine lv_iload_n hx hb dX12_lawOf_27 rfl (lv_at hl 2 rfl) ?_
          refine lv_if_ge (tgt := 36) hx hb dX12_lawOf_28 (by decide) (fun c11 => ?_) (fun h => absurd (xi_nle h (by decide) rfl : v1.toInt < 0) (by omega))
          have ic11 := (xi_le c11 (by decide) rfl : 0 ≤ v1.toInt)
          refine lv_iload_n hx hb dX12_lawOf_36 rfl (lv_at hl 2 rfl) ?_
          refine lv_imul hx hb dX12_lawOf_37 ?_
          refine lv_topi (fun v12 ev12 => ?_)
          have jv12 : v12.toInt = 16 * v1.toInt := xi_mul ev12 (by decide) rfl (by omega) (by omega)
          refine lv_iload_n hx hb dX12_lawOf_38 rfl (lv_at hl 1 rfl) ?_
          refine lv_iadd hx hb dX12_lawOf_39 ?_
          refine lv_topi (fun v13 ev13 => ?_)
          have jv13 : v13.toInt = v12.toInt + k_t := xi_add ev13 rfl h_k (by omega) (by omega)
          refine h_ald hx hb g tb10 (by decide) so_1310 (xi_in (by omega) (by omega)) dX12_lawOf_40 ?_
          refine lv_topi (fun v14 ev14 => ?_)
          have kv14 := h_lwr hI tb10 (k := v13.toInt) rfl ev14 (by omega)
          have jv14 : -2147483648 ≤ v14.toInt ∧ v14.toInt ≤ 2147483647 := ⟨xi_lo _, Int.le_of_lt_add_one (xi_hi _)⟩
          have mv14 : 0 ≤ v14.toInt ∧ v14.toInt ≤ 20 := by omega
          exact W.iret (v := v14) hx hb hr (fun t ht hW => ⟨v14, rfl, ⟨(by omega), (by omega)⟩, ht⟩) (fun _ h => by cases h) dX12_lawOf_41
        · have ic9 := (xi_eq c9 rfl (by decide) : v8.toInt = 0)
          obtain ⟨v15, ev15⟩ : ∃ z : Int32, z = v1 + (-1) := ⟨_, rfl⟩
          have jv15 : v15.toInt = v1.toInt + (-1) := xi_add ev15 rfl (by decide) (by omega) (by omega)
          refine lv_iinc (v := v15) (lv' := [(3, .int v15), (0, .ref a0), (2, .int k)]) hx hb dX12_lawOf_15 hl (k := 2) rfl (by rw [ev15]; rfl) (by decide) rfl (fun ls hl => ?_)
          refine lv_goto (tgt := 2) hx hb dX12_lawOf_18 (by decide) ?_
          exact ih2 _ v15 (lv_sub hl [1, 2, 0] rfl) (by omega) (by omega)
  exact loop2_0 _ _ y (lv_sub hl [1, 3, 0] rfl) (by rw [h_y]; omega) (show (y.toInt + 2) < (((y.toInt + 2).toNat + 1 : Nat) : Int) by omega)
set_option maxHeartbeats 4000000 in
set_option maxRecDepth 100000 in
theorem tX12_law (l : Launch) (E : tE) (X : tX) (A : Nat → Prop) (z : tZ) (I0 : tI) (L0 : tL) (a0 : Nat) (t_a0 : z.ty a0 = 13) (y : Int32) (y_t : Int) (h_y : y.toInt = y_t) (x : Int32) (x_t : Int) (h_x : x.toInt = x_t) : Met l yX12_law wsX12_law ({ frames := 2, cells := 0, slots := 0, locals := 128 }) (va_Pc [.ref a0, .int y, .int x] (h_P E X A z I0 L0)) (vp_Si (fun r => True)) 0 0 (fun _ => False) := by
  refine Met.ofW (cc := cX12_law) (maxL := 3) (ret := (some .int)) (by decide) rfl ?_
  intro pr_ ev_ s m args below meth cd_ s₁ B hml hv
  obtain ⟨rfl, hE, hk, hX, hA, hK, hI, hR, hB0⟩ := hv
  have g : h_G h_so h_fk E A z I0 L0 s s.heap s.heap [] := ⟨hK, va_S.rf, hB0⟩
  have hx := B.exec
  have hb := B.bytes
  have hr := B.returns
  have hts := atoms_spec (ws := wsX12_law) B.pre
  have hown : s.vm.findClass RX12 = some m.cls := findClass_of_methodNamed B.named
  have hlocks := B.notSynchronized
  have hl := lv_entry ([.ref a0, .int y, .int x]) (n := 3) (Nat.le_of_ble_eq_true rfl)
  rw [lg_entry_eq]
  generalize (lg_sl ([.ref a0, .int y, .int x]) ++ List.replicate (3 - (lg_sl ([.ref a0, .int y, .int x])).length) Slot.unset).toArray = ls at hl ⊢
  have hl : lv_has ls 3 [(0, .ref a0), (1, .int y), (2, .int x)] := hl
  have b_y : -2147483648 ≤ y_t ∧ y_t ≤ 2147483647 := h_y ▸ ⟨xi_lo y, Int.le_of_lt_add_one (xi_hi y)⟩
  have b_x : -2147483648 ≤ x_t ∧ x_t ≤ 2147483647 := h_x ▸ ⟨xi_lo x, Int.le_of_lt_add_one (xi_hi x)⟩
  refine lv_iload_n hx hb dX12_law_0 rfl (lv_at hl 1 rfl) ?_
  refine lv_i2l hx hb dX12_law_1 rfl ?_
  refine lv_topl (fun v1 ev1 => ?_)
  have jv1 : v1.toInt = y_t := by rw [ev1, xi_64]; exact h_y
  refine lv_lconst (v := 0) hx hb dX12_law_2 (by decide) ?_
  refine lv_ldc2 (v := 9) hx hb hown (hts (.constantLong RX12 190 (9)) (by decide +kernel)) dX12_law_3 ?_
  refine vp_callSi (W.runS (As := [.long v1, .long 0, .long 9]) (rest := []) ⟨hx, hb, hml, hown, hts⟩ (tX12_in l E X A z I0 L0 v1 (y_t) jv1 0 (0) (by decide) 9 (9) (by decide)) (va_cwS 3 hts gX12_law_X12_in rfl rfl rfl (by decide +kernel) ⟨Nat.le_of_ble_eq_true rfl, Nat.le_of_ble_eq_true rfl⟩) ⟨h_blind _ _ _ _ _ _ _, h_pre _ hE hk hX hA hI hR g⟩ rfl rfl hl.1 rfl (lv_room (Nat.le_of_ble_eq_true rfl)) dX12_law_6 ⟨Nat.le_of_ble_eq_true rfl, Nat.le_of_ble_eq_true rfl⟩) (fun rh2 h2 => ?_)
  rcases h2 with ⟨rfl, h2⟩ | ⟨rfl, h2⟩
  · skip
    refine lv_if_ne (tgt := 15) hx hb dX12_law_9 (by decide) (fun h => absurd (by decide) h) (fun _ => ?_)
    refine lv_bipush (v := (-9)) hx hb dX12_law_12 (by decide) ?_
    exact W.iret (v := (-9)) hx hb hr (fun t ht hW => ⟨(-9), rfl, trivial, ht⟩) (fun _ h => by cases h) dX12_law_14
  · skip
    refine lv_if_ne (tgt := 15) hx hb dX12_law_9 (by decide) (fun _ => ?_) (fun h => absurd h (by decide))
    refine lv_iload_n hx hb dX12_law_15 rfl (lv_at hl 2 rfl) ?_
    refine lv_i2l hx hb dX12_law_16 rfl ?_
    refine lv_topl (fun v5 ev5 => ?_)
    have jv5 : v5.toInt = x_t := by rw [ev5, xi_64]; exact h_x
    refine lv_lconst (v := 0) hx hb dX12_law_17 (by decide) ?_
    refine lv_ldc2 (v := 8) hx hb hown (hts (.constantLong RX12 195 (8)) (by decide +kernel)) dX12_law_18 ?_
    refine vp_callSi (W.runS (As := [.long v5, .long 0, .long 8]) (rest := []) ⟨hx, hb, hml, hown, hts⟩ (tX12_in l E X A z I0 L0 v5 (x_t) jv5 0 (0) (by decide) 8 (8) (by decide)) (va_cwS 3 hts gX12_law_X12_in rfl rfl rfl (by decide +kernel) ⟨Nat.le_of_ble_eq_true rfl, Nat.le_of_ble_eq_true rfl⟩) ⟨h_blind _ _ _ _ _ _ _, h_pre _ hE hk hX hA hI hR g⟩ rfl rfl hl.1 rfl (lv_room (Nat.le_of_ble_eq_true rfl)) dX12_law_21 ⟨Nat.le_of_ble_eq_true rfl, Nat.le_of_ble_eq_true rfl⟩) (fun rh6 h6 => ?_)
    rcases h6 with ⟨rfl, h6⟩ | ⟨rfl, h6⟩
    · skip
      refine lv_if_eq (tgt := 34) hx hb dX12_law_24 (by decide) (fun _ => ?_) (fun h => absurd (by decide) h)
      refine lv_iload_n hx hb dX12_law_34 rfl (lv_at hl 2 rfl) ?_
      refine lv_i2l hx hb dX12_law_35 rfl ?_
      refine lv_topl (fun v8 ev8 => ?_)
      have jv8 : v8.toInt = x_t := by rw [ev8, xi_64]; exact h_x
      refine lv_ldc2 (v := 10) hx hb hown (hts (.constantLong RX12 200 (10)) (by decide +kernel)) dX12_law_36 ?_
      refine lv_bipush (v := 9) hx hb dX12_law_39 (by decide) ?_
      refine lv_aload_n hx hb dX12_law_41 rfl (lv_at hl 0 rfl) ?_
      refine lv_iload_n hx hb dX12_law_42 rfl (lv_at hl 1 rfl) ?_
      refine lv_bipush (v := 8) hx hb dX12_law_43 (by decide) ?_
      refine vp_callSi (W.runV (As := [.int y, .int 8]) (rest := [.int 9, .long 10, .long v8]) ⟨hx, hb, hml, hown, hts⟩ (tX12_lawOf8 l E X A z I0 L0 a0 t_a0 y (y_t) h_y (by omega) 8 (8) (by decide) (by omega)) (cwV 2 hts gX12_law_X12_lawOf rfl rfl rfl (by decide +kernel) ⟨Nat.le_of_ble_eq_true rfl, Nat.le_of_ble_eq_true rfl⟩) ⟨h_blind _ _ _ _ _ _ _, h_recv g t_a0 (by decide) so_13 (q := (RX12, TX12, 51)) rfl, h_pre _ hE hk hX hA hI hR g⟩ rfl rfl hl.1 rfl (lv_room (Nat.le_of_ble_eq_true rfl)) dX12_law_45 ⟨Nat.le_of_ble_eq_true rfl, Nat.le_of_ble_eq_true rfl⟩) (fun rh9 h9 => ?_)
      refine lv_iadd hx hb dX12_law_48 ?_
      refine lv_topi (fun v10 ev10 => ?_)
      have jv10 : v10.toInt = 9 + rh9.toInt := xi_add ev10 (by decide) rfl (by omega) (by omega)
      refine lv_i2l hx hb dX12_law_49 rfl ?_
      refine lv_topl (fun v11 ev11 => ?_)
      have jv11 : v11.toInt = v10.toInt := by rw [ev11, xi_64]
      refine vp_callSi (W.runS (As := [.long v8, .long 10, .long v11]) (rest := []) ⟨hx, hb, hml, hown, hts⟩ (tX12_in l E X A z I0 L0 v8 (x_t) jv8 10 (10) (by decide) v11 (v10.toInt) jv11) (va_cwS 3 hts gX12_law_X12_in rfl rfl rfl (by decide +kernel) ⟨Nat.le_of_ble_eq_true rfl, Nat.le_of_ble_eq_true rfl⟩) ⟨h_blind _ _ _ _ _ _ _, h_pre _ hE hk hX hA hI hR g⟩ rfl rfl hl.1 rfl (lv_room (Nat.le_of_ble_eq_true rfl)) dX12_law_50 ⟨Nat.le_of_ble_eq_true rfl, Nat.le_of_ble_eq_true rfl⟩) (fun rh12 h12 => ?_)
      rcases h12 with ⟨rfl, h12⟩ | ⟨rfl, h12⟩
      · skip
        refine lv_if_eq (tgt := 67) hx hb dX12_law_53 (by decide) (fun _ => ?_) (fun h => absurd (by decide) h)
        refine lv_bipush (v := (-9)) hx hb dX12_law_67 (by decide) ?_
        exact W.iret (v := (-9)) hx hb hr (fun t ht hW => ⟨(-9), rfl, trivial, ht⟩) (fun _ h => by cases h) dX12_law_69
      · skip
        refine lv_if_eq (tgt := 67) hx hb dX12_law_53 (by decide) (fun h => absurd h (by decide)) (fun _ => ?_)
        refine lv_aload_n hx hb dX12_law_56 rfl (lv_at hl 0 rfl) ?_
        refine lv_iload_n hx hb dX12_law_57 rfl (lv_at hl 1 rfl) ?_
        refine lv_iload_n hx hb dX12_law_58 rfl (lv_at hl 2 rfl) ?_
        refine lv_iconst (v := 1) hx hb dX12_law_59 (by decide) ?_
        refine lv_isub hx hb dX12_law_60 ?_
        refine lv_topi (fun v15 ev15 => ?_)
        have jv15 : v15.toInt = x_t - 1 := xi_sub ev15 h_x (by decide) (by omega) (by omega)
        refine vp_callSi (W.runV (As := [.int y, .int v15]) (rest := []) ⟨hx, hb, hml, hown, hts⟩ (tX12_lawOf9 l E X A z I0 L0 a0 t_a0 y (y_t) h_y (by omega) v15 (v15.toInt) rfl (by omega)) (cwV 2 hts gX12_law_X12_lawOf rfl rfl rfl (by decide +kernel) ⟨Nat.le_of_ble_eq_true rfl, Nat.le_of_ble_eq_true rfl⟩) ⟨h_blind _ _ _ _ _ _ _, h_recv g t_a0 (by decide) so_13 (q := (RX12, TX12, 51)) rfl, h_pre _ hE hk hX hA hI hR g⟩ rfl rfl hl.1 rfl (lv_room (Nat.le_of_ble_eq_true rfl)) dX12_law_61 ⟨Nat.le_of_ble_eq_true rfl, Nat.le_of_ble_eq_true rfl⟩) (fun rh16 h16 => ?_)
        refine lv_goto (tgt := 69) hx hb dX12_law_64 (by decide) ?_
        exact W.iret (v := rh16) hx hb hr (fun t ht hW => ⟨rh16, rfl, trivial, ht⟩) (fun _ h => by cases h) dX12_law_69
    · skip
      refine lv_if_eq (tgt := 34) hx hb dX12_law_24 (by decide) (fun h => absurd h (by decide)) (fun _ => ?_)
      refine lv_aload_n hx hb dX12_law_27 rfl (lv_at hl 0 rfl) ?_
      refine lv_iload_n hx hb dX12_law_28 rfl (lv_at hl 1 rfl) ?_
      refine lv_iload_n hx hb dX12_law_29 rfl (lv_at hl 2 rfl) ?_
      refine vp_callSi (W.runV (As := [.int y, .int x]) (rest := []) ⟨hx, hb, hml, hown, hts⟩ (tX12_lawOf l E X A z I0 L0 a0 t_a0 y (y_t) h_y (by omega) x (x_t) h_x (by omega)) (cwV 2 hts gX12_law_X12_lawOf rfl rfl rfl (by decide +kernel) ⟨Nat.le_of_ble_eq_true rfl, Nat.le_of_ble_eq_true rfl⟩) ⟨h_blind _ _ _ _ _ _ _, h_recv g t_a0 (by decide) so_13 (q := (RX12, TX12, 51)) rfl, h_pre _ hE hk hX hA hI hR g⟩ rfl rfl hl.1 rfl (lv_room (Nat.le_of_ble_eq_true rfl)) dX12_law_30 ⟨Nat.le_of_ble_eq_true rfl, Nat.le_of_ble_eq_true rfl⟩) (fun rh18 h18 => ?_)
      have jrh18 : -2147483648 ≤ rh18.toInt ∧ rh18.toInt ≤ 2147483647 := ⟨xi_lo _, Int.le_of_lt_add_one (xi_hi _)⟩
      exact W.iret (v := rh18) hx hb hr (fun t ht hW => ⟨rh18, rfl, trivial, ht⟩) (fun _ h => by cases h) dX12_law_33
set_option maxHeartbeats 4000000 in
set_option maxRecDepth 100000 in
theorem tX12_lots (l : Launch) (E : tE) (X : tX) (A : Nat → Prop) (z : tZ) (I0 : tI) (L0 : tL) (a0 : Nat) (t_a0 : z.ty a0 = 13) : Met l yX12_lots wsX12_lots ({ frames := 2, cells := 0, slots := 0, locals := 128 }) (va_Pc [.ref a0] (h_P E X A z I0 L0)) (vp_Si (fun r => (0 ≤ r.toInt ∧ r.toInt ≤ 7))) 0 0 (fun _ => False) := by
  refine Met.ofW (cc := cX12_lots) (maxL := 1) (ret := (some .int)) (by decide) rfl ?_
  intro pr_ ev_ s m args below meth cd_ s₁ B hml hv
  obtain ⟨rfl, hE, hk, hX, hA, hK, hI, hR, hB0⟩ := hv
  have g : h_G h_so h_fk E A z I0 L0 s s.heap s.heap [] := ⟨hK, va_S.rf, hB0⟩
  have hx := B.exec
  have hb := B.bytes
  have hr := B.returns
  have hts := atoms_spec (ws := wsX12_lots) B.pre
  have hown : s.vm.findClass RX12 = some m.cls := findClass_of_methodNamed B.named
  have hlocks := B.notSynchronized
  have iX12 : ∀ w ∈ u_ws RX12 TX12 51, w ∈ wsX12_lots := by decide +kernel
  have hl := lv_entry ([.ref a0]) (n := 1) (Nat.le_of_ble_eq_true rfl)
  rw [lg_entry_eq]
  generalize (lg_sl ([.ref a0]) ++ List.replicate (1 - (lg_sl ([.ref a0])).length) Slot.unset).toArray = ls at hl ⊢
  have hl : lv_has ls 1 [(0, .ref a0)] := hl
  refine lv_aload_n hx hb dX12_lots_0 rfl (lv_at hl 0 rfl) ?_
  refine lv_aload_n hx hb dX12_lots_1 rfl (lv_at hl 0 rfl) ?_
  refine h_get (v := .int (I0 a0 12)) hx hb hts iX12 hown g t_a0 (by decide) so_13 rfl 12 (by decide) (hts (.fieldLink RX12 187 "CapLeagueModel" "clock" "I") (by decide +kernel)) rfl dX12_lots_2 rfl ?_
  refine lv_topi (fun v1 ev1 => ?_)
  have jv1 := hI.rd a0 12 t_a0 ev1 (rfl : h_bd 13 12 = (0, 9))
  refine lv_bipush (v := 8) hx hb dX12_lots_5 (by decide) ?_
  refine vp_callSi (W.runV (As := [.int v1, .int 8]) (rest := []) ⟨hx, hb, hml, hown, hts⟩ (tX12_lawOf8 l E X A z I0 L0 a0 t_a0 v1 (v1.toInt) rfl (by omega) 8 (8) (by decide) (by omega)) (cwV 2 hts gX12_lots_X12_lawOf rfl rfl rfl (by decide +kernel) ⟨Nat.le_of_ble_eq_true rfl, Nat.le_of_ble_eq_true rfl⟩) ⟨h_blind _ _ _ _ _ _ _, h_recv g t_a0 (by decide) so_13 (q := (RX12, TX12, 51)) rfl, h_pre _ hE hk hX hA hI hR g⟩ rfl rfl hl.1 rfl (lv_room (Nat.le_of_ble_eq_true rfl)) dX12_lots_7 ⟨Nat.le_of_ble_eq_true rfl, Nat.le_of_ble_eq_true rfl⟩) (fun rh2 h2 => ?_)
  refine lv_iconst (v := 1) hx hb dX12_lots_10 (by decide) ?_
  refine lv_icmp_ne (tgt := 18) hx hb dX12_lots_11 (by decide) (fun c3 => ?_) (fun c3 => ?_)
  · have ic3 := (xi_ne c3 rfl (by decide) : rh2.toInt ≠ 1)
    refine lv_aload_n hx hb dX12_lots_18 rfl (lv_at hl 0 rfl) ?_
    refine lv_aload_n hx hb dX12_lots_19 rfl (lv_at hl 0 rfl) ?_
    refine h_get (v := .int v1) hx hb hts iX12 hown g t_a0 (by decide) so_13 rfl 12 (by decide) (hts (.fieldLink RX12 187 "CapLeagueModel" "clock" "I") (by decide +kernel)) rfl dX12_lots_20 (congrArg Value.int (ev1.symm)) ?_
    refine lv_bipush (v := 8) hx hb dX12_lots_23 (by decide) ?_
    refine vp_callSi (W.runV (As := [.int v1, .int 8]) (rest := []) ⟨hx, hb, hml, hown, hts⟩ (tX12_lawOf8 l E X A z I0 L0 a0 t_a0 v1 (v1.toInt) rfl (by omega) 8 (8) (by decide) (by omega)) (cwV 2 hts gX12_lots_X12_lawOf rfl rfl rfl (by decide +kernel) ⟨Nat.le_of_ble_eq_true rfl, Nat.le_of_ble_eq_true rfl⟩) ⟨h_blind _ _ _ _ _ _ _, h_recv g t_a0 (by decide) so_13 (q := (RX12, TX12, 51)) rfl, h_pre _ hE hk hX hA hI hR g⟩ rfl rfl hl.1 rfl (lv_room (Nat.le_of_ble_eq_true rfl)) dX12_lots_25 ⟨Nat.le_of_ble_eq_true rfl, Nat.le_of_ble_eq_true rfl⟩) (fun rh4 h4 => ?_)
    exact W.iret (v := rh4) hx hb hr (fun t ht hW => ⟨rh4, rfl, ⟨(by omega), (by omega)⟩, ht⟩) (fun _ h => by cases h) dX12_lots_28
  · have ic3 := (xi_eq c3 rfl (by decide) : rh2.toInt = 1)
    refine lv_iconst (v := 0) hx hb dX12_lots_14 (by decide) ?_
    refine lv_goto (tgt := 28) hx hb dX12_lots_15 (by decide) ?_
    exact W.iret (v := 0) hx hb hr (fun t ht hW => ⟨0, rfl, ⟨(by decide), (by decide)⟩, ht⟩) (fun _ h => by cases h) dX12_lots_28
set_option maxHeartbeats 4000000 in
set_option maxRecDepth 100000 in
theorem tX12_weight (l : Launch) (E : tE) (X : tX) (A : Nat → Prop) (z : tZ) (I0 : tI) (L0 : tL) (a0 : Nat) (t_a0 : z.ty a0 = 13) (i : Int32) (i_t : Int) (h_i : i.toInt = i_t) (b_i : 0 ≤ i_t ∧ i_t ≤ 2147483647) : Met l yX12_weight wsX12_weight ({ frames := 3, cells := 0, slots := 0, locals := 192 }) (va_Pc [.ref a0, .int i] (h_P E X A z I0 L0)) (vp_Si (fun r => (0 ≤ r.toInt ∧ r.toInt ≤ 20))) 0 0 (fun _ => False) := by
  refine Met.ofW (cc := cX12_weight) (maxL := 2) (ret := (some .int)) (by decide) rfl ?_
  intro pr_ ev_ s m args below meth cd_ s₁ B hml hv
  obtain ⟨rfl, hE, hk, hX, hA, hK, hI, hR, hB0⟩ := hv
  have g : h_G h_so h_fk E A z I0 L0 s s.heap s.heap [] := ⟨hK, va_S.rf, hB0⟩
  have hx := B.exec
  have hb := B.bytes
  have hr := B.returns
  have hts := atoms_spec (ws := wsX12_weight) B.pre
  have hown : s.vm.findClass RX12 = some m.cls := findClass_of_methodNamed B.named
  have hlocks := B.notSynchronized
  have iX12 : ∀ w ∈ u_ws RX12 TX12 51, w ∈ wsX12_weight := by decide +kernel
  have hl := lv_entry ([.ref a0, .int i]) (n := 2) (Nat.le_of_ble_eq_true rfl)
  rw [lg_entry_eq]
  generalize (lg_sl ([.ref a0, .int i]) ++ List.replicate (2 - (lg_sl ([.ref a0, .int i])).length) Slot.unset).toArray = ls at hl ⊢
  have hl : lv_has ls 2 [(0, .ref a0), (1, .int i)] := hl
  refine lv_iload_n hx hb dX12_weight_0 rfl (lv_at hl 1 rfl) ?_
  refine lv_aload_n hx hb dX12_weight_1 rfl (lv_at hl 0 rfl) ?_
  refine vp_callSi (W.runV (As := []) (rest := [.int i]) ⟨hx, hb, hml, hown, hts⟩ (tX12_lots l E X A z I0 L0 a0 t_a0) (cwV 0 hts gX12_weight_X12_lots rfl rfl rfl (by decide +kernel) ⟨Nat.le_of_ble_eq_true rfl, Nat.le_of_ble_eq_true rfl⟩) ⟨h_blind _ _ _ _ _ _ _, h_recv g t_a0 (by decide) so_13 (q := (RX12, TX12, 51)) rfl, h_pre _ hE hk hX hA hI hR g⟩ rfl rfl hl.1 rfl (lv_room (Nat.le_of_ble_eq_true rfl)) dX12_weight_2 ⟨Nat.le_of_ble_eq_true rfl, Nat.le_of_ble_eq_true rfl⟩) (fun rh1 h1 => ?_)
  refine lv_icmp_ge (tgt := 23) hx hb dX12_weight_5 (by decide) (fun c2 => ?_) (fun c2 => ?_)
  · have ic2 := (xi_le c2 rfl h_i : rh1.toInt ≤ i_t)
    refine lv_iconst (v := 0) hx hb dX12_weight_23 (by decide) ?_
    exact W.iret (v := 0) hx hb hr (fun t ht hW => ⟨0, rfl, ⟨(by decide), (by decide)⟩, ht⟩) (fun _ h => by cases h) dX12_weight_24
  · have ic2 := (xi_nle c2 rfl h_i : i_t < rh1.toInt)
    refine lv_aload_n hx hb dX12_weight_8 rfl (lv_at hl 0 rfl) ?_
    refine lv_aload_n hx hb dX12_weight_9 rfl (lv_at hl 0 rfl) ?_
    refine h_get (v := .int (I0 a0 12)) hx hb hts iX12 hown g t_a0 (by decide) so_13 rfl 12 (by decide) (hts (.fieldLink RX12 187 "CapLeagueModel" "clock" "I") (by decide +kernel)) rfl dX12_weight_10 rfl ?_
    refine lv_topi (fun v3 ev3 => ?_)
    have jv3 := hI.rd a0 12 t_a0 ev3 (rfl : h_bd 13 12 = (0, 9))
    refine lv_bipush (v := 9) hx hb dX12_weight_13 (by decide) ?_
    refine lv_iload_n hx hb dX12_weight_15 rfl (lv_at hl 1 rfl) ?_
    refine lv_iadd hx hb dX12_weight_16 ?_
    refine lv_topi (fun v4 ev4 => ?_)
    have jv4 : v4.toInt = 9 + i_t := xi_add ev4 (by decide) h_i (by omega) (by omega)
    refine vp_callSi (W.runV (As := [.int v3, .int v4]) (rest := []) ⟨hx, hb, hml, hown, hts⟩ (tX12_lawOf9 l E X A z I0 L0 a0 t_a0 v3 (v3.toInt) rfl (by omega) v4 (v4.toInt) rfl (by omega)) (cwV 2 hts gX12_weight_X12_lawOf rfl rfl rfl (by decide +kernel) ⟨Nat.le_of_ble_eq_true rfl, Nat.le_of_ble_eq_true rfl⟩) ⟨h_blind _ _ _ _ _ _ _, h_recv g t_a0 (by decide) so_13 (q := (RX12, TX12, 51)) rfl, h_pre _ hE hk hX hA hI hR g⟩ rfl rfl hl.1 rfl (lv_room (Nat.le_of_ble_eq_true rfl)) dX12_weight_17 ⟨Nat.le_of_ble_eq_true rfl, Nat.le_of_ble_eq_true rfl⟩) (fun rh5 h5 => ?_)
    refine lv_goto (tgt := 24) hx hb dX12_weight_20 (by decide) ?_
    exact W.iret (v := rh5) hx hb hr (fun t ht hW => ⟨rh5, rfl, ⟨(by omega), (by omega)⟩, ht⟩) (fun _ h => by cases h) dX12_weight_24
set_option maxHeartbeats 4000000 in
set_option maxRecDepth 100000 in
theorem tX12_countOf (l : Launch) (E : tE) (X : tX) (A : Nat → Prop) (z : tZ) (I0 : tI) (L0 : tL) (a0 : Nat) (t_a0 : z.ty a0 = 13) (p : Int32) (p_t : Int) (h_p : p.toInt = p_t) (b_p : 0 ≤ p_t ∧ p_t ≤ 59) (y : Int32) (y_t : Int) (h_y : y.toInt = y_t) : Met l yX12_countOf wsX12_countOf ({ frames := 3, cells := 0, slots := 0, locals := 192 }) (va_Pc [.ref a0, .int p, .int y] (h_P E X A z I0 L0)) (vp_Si (fun r => True)) 0 0 (fun _ => False) := by
  refine Met.ofW (cc := cX12_countOf) (maxL := 4) (ret := (some .int)) (by decide) rfl ?_
  intro pr_ ev_ s m args below meth cd_ s₁ B hml hv
  obtain ⟨rfl, hE, hk, hX, hA, hK, hI, hR, hB0⟩ := hv
  have g : h_G h_so h_fk E A z I0 L0 s s.heap s.heap [] := ⟨hK, va_S.rf, hB0⟩
  have hx := B.exec
  have hb := B.bytes
  have hr := B.returns
  have hts := atoms_spec (ws := wsX12_countOf) B.pre
  have hown : s.vm.findClass RX12 = some m.cls := findClass_of_methodNamed B.named
  have hlocks := B.notSynchronized
  have iX12 : ∀ w ∈ u_ws RX12 TX12 51, w ∈ wsX12_countOf := by decide +kernel
  have hl := lv_entry ([.ref a0, .int p, .int y]) (n := 4) (Nat.le_of_ble_eq_true rfl)
  rw [lg_entry_eq]
  generalize (lg_sl ([.ref a0, .int p, .int y]) ++ List.replicate (4 - (lg_sl ([.ref a0, .int p, .int y])).length) Slot.unset).toArray = ls at hl ⊢
  have hl : lv_has ls 4 [(0, .ref a0), (1, .int p), (2, .int y)] := hl
  have b_y : -2147483648 ≤ y_t ∧ y_t ≤ 2147483647 := h_y ▸ ⟨xi_lo y, Int.le_of_lt_add_one (xi_hi y)⟩
  refine lv_aload_n hx hb dX12_countOf_0 rfl (lv_at hl 0 rfl) ?_
  refine lv_iload_n hx hb dX12_countOf_1 rfl (lv_at hl 1 rfl) ?_
  refine lv_iload_n hx hb dX12_countOf_2 rfl (lv_at hl 2 rfl) ?_
  refine vp_callSi (W.runV (As := [.int p, .int y]) (rest := []) ⟨hx, hb, hml, hown, hts⟩ (tX12_isUnder l E X A z I0 L0 a0 t_a0 p (p_t) h_p (by omega) y (y_t) h_y) (cwV 2 hts gX12_countOf_X12_isUnder rfl rfl rfl (by decide +kernel) ⟨Nat.le_of_ble_eq_true rfl, Nat.le_of_ble_eq_true rfl⟩) ⟨h_blind _ _ _ _ _ _ _, h_recv g t_a0 (by decide) so_13 (q := (RX12, TX12, 51)) rfl, h_pre _ hE hk hX hA hI hR g⟩ rfl rfl hl.1 rfl (lv_room (Nat.le_of_ble_eq_true rfl)) dX12_countOf_3 ⟨Nat.le_of_ble_eq_true rfl, Nat.le_of_ble_eq_true rfl⟩) (fun rh1 h1 => ?_)
  refine lv_if_ne (tgt := 11) hx hb dX12_countOf_6 (by decide) (fun c2 => ?_) (fun c2 => ?_)
  · have ic2 := (xi_ne c2 rfl (by decide) : rh1.toInt ≠ 0)
    refine lv_aload_n hx hb dX12_countOf_11 rfl (lv_at hl 0 rfl) ?_
    refine lv_iload_n hx hb dX12_countOf_12 rfl (lv_at hl 1 rfl) ?_
    refine lv_iload_n hx hb dX12_countOf_13 rfl (lv_at hl 2 rfl) ?_
    refine vp_callSi (W.runV (As := [.int p, .int y]) (rest := []) ⟨hx, hb, hml, hown, hts⟩ (tX12_payOf l E X A z I0 L0 a0 t_a0 p (p_t) h_p (by omega) y (y_t) h_y) (cwV 2 hts gX12_countOf_X12_payOf rfl rfl rfl (by decide +kernel) ⟨Nat.le_of_ble_eq_true rfl, Nat.le_of_ble_eq_true rfl⟩) ⟨h_blind _ _ _ _ _ _ _, h_recv g t_a0 (by decide) so_13 (q := (RX12, TX12, 51)) rfl, h_pre _ hE hk hX hA hI hR g⟩ rfl rfl hl.1 rfl (lv_room (Nat.le_of_ble_eq_true rfl)) dX12_countOf_14 ⟨Nat.le_of_ble_eq_true rfl, Nat.le_of_ble_eq_true rfl⟩) (fun rh3 h3 => ?_)
    have jrh3 : -2147483648 ≤ rh3.toInt ∧ rh3.toInt ≤ 2147483647 := ⟨xi_lo _, Int.le_of_lt_add_one (xi_hi _)⟩
    refine lv_istore_n (lv' := [(3, .int rh3), (0, .ref a0), (1, .int p), (2, .int y)]) hx hb dX12_countOf_17 rfl hl (by decide) rfl (fun ls hl => ?_)
    refine lv_aload_n hx hb dX12_countOf_18 rfl (lv_at hl 1 rfl) ?_
    obtain ⟨b4, rb4, tb4⟩ := hR.at a0 22 t_a0 (rfl : h_rs 13 22 = some (1322, false)) (by decide)
    refine h_get (v := .ref b4) hx hb hts iX12 hown g t_a0 (by decide) so_13 rfl 22 (by decide) (hts (.fieldLink RX12 49 "CapLeagueModel" "isHurt" "[Z") (by decide +kernel)) rfl dX12_countOf_19 (by show va_rf (z.R a0 22) = _; rw [rb4]; rfl) ?_
    refine lv_iload_n hx hb dX12_countOf_22 rfl (lv_at hl 2 rfl) ?_
    refine h_zald hx hb g tb4 (by decide) so_1322 (xi_in (by rw [h_p]; omega) (by rw [h_p]; omega)) dX12_countOf_23 ?_
    refine lv_topi (fun v5 ev5 => ?_)
    have jv5 := hI.rd b4 p.toNatClampNeg tb4 ev5 (rfl : h_bd 1322 _ = (0, 1))
    refine lv_if_eq (tgt := 52) hx hb dX12_countOf_24 (by decide) (fun c6 => ?_) (fun c6 => ?_)
    · have ic6 := (xi_eq c6 rfl (by decide) : v5.toInt = 0)
      refine lv_iload_n hx hb dX12_countOf_52 rfl (lv_at hl 0 rfl) ?_
      exact W.iret (v := rh3) hx hb hr (fun t ht hW => ⟨rh3, rfl, trivial, ht⟩) (fun _ h => by cases h) dX12_countOf_53
    · have ic6 := (xi_ne c6 rfl (by decide) : v5.toInt ≠ 0)
      refine lv_iload_n hx hb dX12_countOf_27 rfl (lv_at hl 3 rfl) ?_
      refine lv_aload_n hx hb dX12_countOf_28 rfl (lv_at hl 1 rfl) ?_
      refine h_get (v := .int (I0 a0 12)) hx hb hts iX12 hown g t_a0 (by decide) so_13 rfl 12 (by decide) (hts (.fieldLink RX12 187 "CapLeagueModel" "clock" "I") (by decide +kernel)) rfl dX12_countOf_29 rfl ?_
      refine lv_topi (fun v7 ev7 => ?_)
      have jv7 := hI.rd a0 12 t_a0 ev7 (rfl : h_bd 13 12 = (0, 9))
      refine lv_icmp_ne (tgt := 52) hx hb dX12_countOf_32 (by decide) (fun c8 => ?_) (fun c8 => ?_)
      · have ic8 := (xi_ne c8 h_y rfl : y_t ≠ v7.toInt)
        refine lv_iload_n hx hb dX12_countOf_52 rfl (lv_at hl 0 rfl) ?_
        exact W.iret (v := rh3) hx hb hr (fun t ht hW => ⟨rh3, rfl, trivial, ht⟩) (fun _ h => by cases h) dX12_countOf_53
      · have ic8 := (xi_eq c8 h_y rfl : y_t = v7.toInt)
        refine lv_iload_n hx hb dX12_countOf_35 rfl (lv_at hl 0 rfl) ?_
        refine lv_iload_n hx hb dX12_countOf_36 rfl (lv_at hl 0 rfl) ?_
        refine lv_aload_n hx hb dX12_countOf_37 rfl (lv_at hl 1 rfl) ?_
        refine lv_iload_n hx hb dX12_countOf_38 rfl (lv_at hl 3 rfl) ?_
        refine lv_bipush (v := 6) hx hb dX12_countOf_39 (by decide) ?_
        refine vp_callSi (W.runV (As := [.int y, .int 6]) (rest := [.int rh3, .int rh3]) ⟨hx, hb, hml, hown, hts⟩ (tX12_lawOf l E X A z I0 L0 a0 t_a0 y (y_t) h_y (by omega) 6 (6) (by decide) (by omega)) (cwV 2 hts gX12_countOf_X12_lawOf rfl rfl rfl (by decide +kernel) ⟨Nat.le_of_ble_eq_true rfl, Nat.le_of_ble_eq_true rfl⟩) ⟨h_blind _ _ _ _ _ _ _, h_recv g t_a0 (by decide) so_13 (q := (RX12, TX12, 51)) rfl, h_pre _ hE hk hX hA hI hR g⟩ rfl rfl hl.1 rfl (lv_room (Nat.le_of_ble_eq_true rfl)) dX12_countOf_41 ⟨Nat.le_of_ble_eq_true rfl, Nat.le_of_ble_eq_true rfl⟩) (fun rh9 h9 => ?_)
        have jrh9 : -2147483648 ≤ rh9.toInt ∧ rh9.toInt ≤ 2147483647 := ⟨xi_lo _, Int.le_of_lt_add_one (xi_hi _)⟩
        refine lv_imul hx hb dX12_countOf_44 ?_
        refine lv_topi (fun v10 ev10 => ?_)
        have jv10 : -2147483648 ≤ v10.toInt ∧ v10.toInt ≤ 2147483647 := ⟨xi_lo _, Int.le_of_lt_add_one (xi_hi _)⟩
        refine lv_bipush (v := 100) hx hb dX12_countOf_45 (by decide) ?_
        refine lv_idiv hx hb dX12_countOf_47 (by decide) ?_
        refine lv_topi (fun v11 ev11 => ?_)
        have jv11 : -2147483648 ≤ v11.toInt ∧ v11.toInt ≤ 2147483647 := ⟨xi_lo _, Int.le_of_lt_add_one (xi_hi _)⟩
        refine lv_isub hx hb dX12_countOf_48 ?_
        refine lv_topi (fun v12 ev12 => ?_)
        have jv12 : -2147483648 ≤ v12.toInt ∧ v12.toInt ≤ 2147483647 := ⟨xi_lo _, Int.le_of_lt_add_one (xi_hi _)⟩
        refine lv_goto (tgt := 53) hx hb dX12_countOf_49 (by decide) ?_
        exact W.iret (v := v12) hx hb hr (fun t ht hW => ⟨v12, rfl, trivial, ht⟩) (fun _ h => by cases h) dX12_countOf_53
  · have ic2 := (xi_eq c2 rfl (by decide) : rh1.toInt = 0)
    refine lv_iconst (v := 0) hx hb dX12_countOf_9 (by decide) ?_
    exact W.iret (v := 0) hx hb hr (fun t ht hW => ⟨0, rfl, trivial, ht⟩) (fun _ h => by cases h) dX12_countOf_10
set_option maxHeartbeats 4000000 in
set_option maxRecDepth 100000 in
theorem tX12_counts (l : Launch) (E : tE) (X : tX) (A : Nat → Prop) (z : tZ) (I0 : tI) (L0 : tL) (a0 : Nat) (t_a0 : z.ty a0 = 13) (c : Int32) (c_t : Int) (h_c : c.toInt = c_t) (b_c : 0 ≤ c_t ∧ c_t ≤ 7) (y : Int32) (y_t : Int) (h_y : y.toInt = y_t) (b_y : 0 ≤ y_t ∧ y_t ≤ 9) : Met l yX12_counts wsX12_counts ({ frames := 4, cells := 0, slots := 0, locals := 256 }) (va_Pc [.ref a0, .int c, .int y] (h_P E X A z I0 L0)) (vp_Si (fun r => True)) 0 0 (fun _ => False) := by
  refine Met.ofW (cc := cX12_counts) (maxL := 5) (ret := (some .int)) (by decide) rfl ?_
  intro pr_ ev_ s m args below meth cd_ s₁ B hml hv
  obtain ⟨rfl, hE, hk, hX, hA, hK, hI, hR, hB0⟩ := hv
  have g : h_G h_so h_fk E A z I0 L0 s s.heap s.heap [] := ⟨hK, va_S.rf, hB0⟩
  have hx := B.exec
  have hb := B.bytes
  have hr := B.returns
  have hts := atoms_spec (ws := wsX12_counts) B.pre
  have hown : s.vm.findClass RX12 = some m.cls := findClass_of_methodNamed B.named
  have hlocks := B.notSynchronized
  have iX12 : ∀ w ∈ u_ws RX12 TX12 51, w ∈ wsX12_counts := by decide +kernel
  have hl := lv_entry ([.ref a0, .int c, .int y]) (n := 5) (Nat.le_of_ble_eq_true rfl)
  rw [lg_entry_eq]
  generalize (lg_sl ([.ref a0, .int c, .int y]) ++ List.replicate (5 - (lg_sl ([.ref a0, .int c, .int y])).length) Slot.unset).toArray = ls at hl ⊢
  have hl : lv_has ls 5 [(0, .ref a0), (1, .int c), (2, .int y)] := hl
  refine lv_aload_n hx hb dX12_counts_0 rfl (lv_at hl 0 rfl) ?_
  obtain ⟨b1, rb1, tb1⟩ := hR.at a0 23 t_a0 (rfl : h_rs 13 23 = some (1323, false)) (by decide)
  refine h_get (v := .ref b1) hx hb hts iX12 hown g t_a0 (by decide) so_13 rfl 23 (by decide) (hts (.fieldLink RX12 52 "CapLeagueModel" "dead" "[I") (by decide +kernel)) rfl dX12_counts_1 (by show va_rf (z.R a0 23) = _; rw [rb1]; rfl) ?_
  refine lv_bipush (v := 10) hx hb dX12_counts_4 (by decide) ?_
  refine lv_iload_n hx hb dX12_counts_6 rfl (lv_at hl 1 rfl) ?_
  refine lv_imul hx hb dX12_counts_7 ?_
  refine lv_topi (fun v2 ev2 => ?_)
  have jv2 : v2.toInt = 10 * c_t := xi_mul ev2 (by decide) h_c (by omega) (by omega)
  refine lv_iload_n hx hb dX12_counts_8 rfl (lv_at hl 2 rfl) ?_
  refine lv_iadd hx hb dX12_counts_9 ?_
  refine lv_topi (fun v3 ev3 => ?_)
  have jv3 : v3.toInt = v2.toInt + y_t := xi_add ev3 rfl h_y (by omega) (by omega)
  refine h_ald hx hb g tb1 (by decide) so_1323 (xi_in (by omega) (by omega)) dX12_counts_10 ?_
  refine lv_topi (fun v4 ev4 => ?_)
  have jv4 := hI.rd b1 v3.toNatClampNeg tb1 ev4 (rfl : h_bd 1323 _ = ((-2147483648), 2147483647))
  refine lv_istore_n (lv' := [(3, .int v4), (0, .ref a0), (1, .int c), (2, .int y)]) hx hb dX12_counts_11 rfl hl (by decide) rfl (fun ls hl => ?_)
  refine lv_iconst (v := 0) hx hb dX12_counts_12 (by decide) ?_
  refine lv_istore (lv' := [(4, .int 0), (3, .int v4), (0, .ref a0), (1, .int c), (2, .int y)]) hx hb dX12_counts_13 hl (by decide) rfl (fun ls hl => ?_)
  have loop15_0 : ∀ (n : Nat) (ls : Array Slot) (v5 v6 : Int32), lv_has ls 5 [(0, .ref a0), (1, .int c), (2, .int y), (3, .int v5), (4, .int v6)] → ((-2147483648) ≤ v5.toInt ∧ v5.toInt ≤ 2147483647) → (0 ≤ v6.toInt ∧ v6.toInt ≤ 60) → (60 - v6.toInt) < (n : Int) → W pr_ l ev_ (headSpec wsX12_counts ({ frames := 4, cells := 0, slots := 0, locals := 256 })).room s m ([.ref a0, .int c, .int y] : List Value).toArray below meth cd_ s.heap [] 0 0 (MQ below (vp_Si (fun r => True)) ([.ref a0, .int c, .int y] : List Value).toArray s 0 0 (fun _ => False)) (F0 m 15 ls []) := by
    intro n
    induction n with
    | zero => intro ls v5 v6 hl jv5 jv6 hn; exact absurd hn (by omega)
    | succ n ih15 =>
      intro ls v5 v6 hl jv5 jv6 hn
      refine lv_iload hx hb dX12_counts_15 (lv_at hl 4 rfl) ?_
      refine lv_aload_n hx hb dX12_counts_17 rfl (lv_at hl 0 rfl) ?_
      refine h_get (v := .int (I0 a0 13)) hx hb hts iX12 hown g t_a0 (by decide) so_13 rfl 13 (by decide) (hts (.fieldLink RX12 202 "CapLeagueModel" "players" "I") (by decide +kernel)) rfl dX12_counts_18 rfl ?_
      refine lv_topi (fun v7 ev7 => ?_)
      have jv7 := hI.rd a0 13 t_a0 ev7 (rfl : h_bd 13 13 = (0, 60))
      refine lv_icmp_ge (tgt := 55) hx hb dX12_counts_21 (by decide) (fun c8 => ?_) (fun c8 => ?_)
      · have ic8 := (xi_le c8 rfl rfl : v7.toInt ≤ v6.toInt)
        refine lv_iload_n hx hb dX12_counts_55 rfl (lv_at hl 3 rfl) ?_
        exact W.iret (v := v5) hx hb hr (fun t ht hW => ⟨v5, rfl, trivial, ht⟩) (fun _ h => by cases h) dX12_counts_56
      · have ic8 := (xi_nle c8 rfl rfl : v6.toInt < v7.toInt)
        refine lv_iload_n hx hb dX12_counts_24 rfl (lv_at hl 3 rfl) ?_
        refine lv_aload_n hx hb dX12_counts_25 rfl (lv_at hl 0 rfl) ?_
        obtain ⟨b9, rb9, tb9⟩ := hR.at a0 14 t_a0 (rfl : h_rs 13 14 = some (1314, false)) (by decide)
        refine h_get (v := .ref b9) hx hb hts iX12 hown g t_a0 (by decide) so_13 rfl 14 (by decide) (hts (.fieldLink RX12 25 "CapLeagueModel" "clubOf" "[I") (by decide +kernel)) rfl dX12_counts_26 (by show va_rf (z.R a0 14) = _; rw [rb9]; rfl) ?_
        refine lv_iload hx hb dX12_counts_29 (lv_at hl 4 rfl) ?_
        refine h_ald hx hb g tb9 (by decide) so_1314 (xi_in (by omega) (by omega)) dX12_counts_31 ?_
        refine lv_topi (fun v10 ev10 => ?_)
        have jv10 := hI.rd b9 v6.toNatClampNeg tb9 ev10 (rfl : h_bd 1314 _ = ((-1), 7))
        refine lv_iload_n hx hb dX12_counts_32 rfl (lv_at hl 1 rfl) ?_
        refine lv_icmp_ne (tgt := 46) hx hb dX12_counts_33 (by decide) (fun c11 => ?_) (fun c11 => ?_)
        · have ic11 := (xi_ne c11 rfl h_c : v10.toInt ≠ c_t)
          refine lv_iconst (v := 0) hx hb dX12_counts_46 (by decide) ?_
          refine lv_iadd hx hb dX12_counts_47 ?_
          refine lv_topi (fun v12 ev12 => ?_)
          have jv12 : v12.toInt = v5.toInt + 0 := xi_add ev12 rfl (by decide) (by omega) (by omega)
          refine lv_istore_n (lv' := [(3, .int v12), (0, .ref a0), (1, .int c), (2, .int y), (4, .int v6)]) hx hb dX12_counts_48 rfl hl (by decide) rfl (fun ls hl => ?_)
          obtain ⟨v13, ev13⟩ : ∃ z : Int32, z = v6 + 1 := ⟨_, rfl⟩
          have jv13 : v13.toInt = v6.toInt + 1 := xi_add ev13 rfl (by decide) (by omega) (by omega)
          refine lv_iinc (v := v13) (lv' := [(4, .int v13), (3, .int v12), (0, .ref a0), (1, .int c), (2, .int y)]) hx hb dX12_counts_49 hl (k := 4) rfl (by rw [ev13]; rfl) (by decide) rfl (fun ls hl => ?_)
          refine lv_goto (tgt := 15) hx hb dX12_counts_52 (by decide) ?_
          exact ih15 _ v12 v13 (lv_sub hl [2, 3, 4, 1, 0] rfl) (by omega) (by omega) (by omega)
        · have ic11 := (xi_eq c11 rfl h_c : v10.toInt = c_t)
          refine lv_aload_n hx hb dX12_counts_36 rfl (lv_at hl 0 rfl) ?_
          refine lv_iload hx hb dX12_counts_37 (lv_at hl 4 rfl) ?_
          refine lv_iload_n hx hb dX12_counts_39 rfl (lv_at hl 2 rfl) ?_
          refine vp_callSi (W.runV (As := [.int v6, .int y]) (rest := [.int v5]) ⟨hx, hb, hml, hown, hts⟩ (tX12_countOf l E X A z I0 L0 a0 t_a0 v6 (v6.toInt) rfl (by omega) y (y_t) h_y) (cwV 2 hts gX12_counts_X12_countOf rfl rfl rfl (by decide +kernel) ⟨Nat.le_of_ble_eq_true rfl, Nat.le_of_ble_eq_true rfl⟩) ⟨h_blind _ _ _ _ _ _ _, h_recv g t_a0 (by decide) so_13 (q := (RX12, TX12, 51)) rfl, h_pre _ hE hk hX hA hI hR g⟩ rfl rfl hl.1 rfl (lv_room (Nat.le_of_ble_eq_true rfl)) dX12_counts_40 ⟨Nat.le_of_ble_eq_true rfl, Nat.le_of_ble_eq_true rfl⟩) (fun rh14 h14 => ?_)
          have jrh14 : -2147483648 ≤ rh14.toInt ∧ rh14.toInt ≤ 2147483647 := ⟨xi_lo _, Int.le_of_lt_add_one (xi_hi _)⟩
          refine lv_goto (tgt := 47) hx hb dX12_counts_43 (by decide) ?_
          refine lv_iadd hx hb dX12_counts_47 ?_
          refine lv_topi (fun v15 ev15 => ?_)
          have jv15 : -2147483648 ≤ v15.toInt ∧ v15.toInt ≤ 2147483647 := ⟨xi_lo _, Int.le_of_lt_add_one (xi_hi _)⟩
          refine lv_istore_n (lv' := [(3, .int v15), (0, .ref a0), (1, .int c), (2, .int y), (4, .int v6)]) hx hb dX12_counts_48 rfl hl (by decide) rfl (fun ls hl => ?_)
          obtain ⟨v16, ev16⟩ : ∃ z : Int32, z = v6 + 1 := ⟨_, rfl⟩
          have jv16 : v16.toInt = v6.toInt + 1 := xi_add ev16 rfl (by decide) (by omega) (by omega)
          refine lv_iinc (v := v16) (lv' := [(4, .int v16), (3, .int v15), (0, .ref a0), (1, .int c), (2, .int y)]) hx hb dX12_counts_49 hl (k := 4) rfl (by rw [ev16]; rfl) (by decide) rfl (fun ls hl => ?_)
          refine lv_goto (tgt := 15) hx hb dX12_counts_52 (by decide) ?_
          exact ih15 _ v15 v16 (lv_sub hl [2, 3, 4, 1, 0] rfl) (by omega) (by omega) (by omega)
  exact loop15_0 _ _ v4 (0) (lv_sub hl [2, 3, 4, 1, 0] rfl) (by omega) ⟨by decide, by decide⟩ (show (60 - (0 : Int)) < (((60 - (0 : Int)).toNat + 1 : Nat) : Int) by omega)
set_option maxHeartbeats 4000000 in
set_option maxRecDepth 100000 in
theorem tX12_manyOf (l : Launch) (E : tE) (X : tX) (A : Nat → Prop) (z : tZ) (I0 : tI) (L0 : tL) (a0 : Nat) (t_a0 : z.ty a0 = 13) (c : Int32) (c_t : Int) (h_c : c.toInt = c_t) (y : Int32) (y_t : Int) (h_y : y.toInt = y_t) : Met l yX12_manyOf wsX12_manyOf ({ frames := 3, cells := 0, slots := 0, locals := 192 }) (va_Pc [.ref a0, .int c, .int y] (h_P E X A z I0 L0)) (vp_Si (fun r => True)) 0 0 (fun _ => False) := by
  refine Met.ofW (cc := cX12_manyOf) (maxL := 5) (ret := (some .int)) (by decide) rfl ?_
  intro pr_ ev_ s m args below meth cd_ s₁ B hml hv
  obtain ⟨rfl, hE, hk, hX, hA, hK, hI, hR, hB0⟩ := hv
  have g : h_G h_so h_fk E A z I0 L0 s s.heap s.heap [] := ⟨hK, va_S.rf, hB0⟩
  have hx := B.exec
  have hb := B.bytes
  have hr := B.returns
  have hts := atoms_spec (ws := wsX12_manyOf) B.pre
  have hown : s.vm.findClass RX12 = some m.cls := findClass_of_methodNamed B.named
  have hlocks := B.notSynchronized
  have iX12 : ∀ w ∈ u_ws RX12 TX12 51, w ∈ wsX12_manyOf := by decide +kernel
  have hl := lv_entry ([.ref a0, .int c, .int y]) (n := 5) (Nat.le_of_ble_eq_true rfl)
  rw [lg_entry_eq]
  generalize (lg_sl ([.ref a0, .int c, .int y]) ++ List.replicate (5 - (lg_sl ([.ref a0, .int c, .int y])).length) Slot.unset).toArray = ls at hl ⊢
  have hl : lv_has ls 5 [(0, .ref a0), (1, .int c), (2, .int y)] := hl
  have b_c : -2147483648 ≤ c_t ∧ c_t ≤ 2147483647 := h_c ▸ ⟨xi_lo c, Int.le_of_lt_add_one (xi_hi c)⟩
  have b_y : -2147483648 ≤ y_t ∧ y_t ≤ 2147483647 := h_y ▸ ⟨xi_lo y, Int.le_of_lt_add_one (xi_hi y)⟩
  refine lv_iconst (v := 0) hx hb dX12_manyOf_0 (by decide) ?_
  refine lv_istore_n (lv' := [(3, .int 0), (0, .ref a0), (1, .int c), (2, .int y)]) hx hb dX12_manyOf_1 rfl hl (by decide) rfl (fun ls hl => ?_)
  refine lv_iconst (v := 0) hx hb dX12_manyOf_2 (by decide) ?_
  refine lv_istore (lv' := [(4, .int 0), (3, .int 0), (0, .ref a0), (1, .int c), (2, .int y)]) hx hb dX12_manyOf_3 hl (by decide) rfl (fun ls hl => ?_)
  have loop5_0 : ∀ (n : Nat) (ls : Array Slot) (v1 v2 : Int32), lv_has ls 5 [(0, .ref a0), (1, .int c), (2, .int y), (3, .int v1), (4, .int v2)] → ((-2147483648) ≤ v1.toInt ∧ v1.toInt ≤ 2147483647) → (0 ≤ v2.toInt ∧ v2.toInt ≤ 60) → (60 - v2.toInt) < (n : Int) → W pr_ l ev_ (headSpec wsX12_manyOf ({ frames := 3, cells := 0, slots := 0, locals := 192 })).room s m ([.ref a0, .int c, .int y] : List Value).toArray below meth cd_ s.heap [] 0 0 (MQ below (vp_Si (fun r => True)) ([.ref a0, .int c, .int y] : List Value).toArray s 0 0 (fun _ => False)) (F0 m 5 ls []) := by
    intro n
    induction n with
    | zero => intro ls v1 v2 hl jv1 jv2 hn; exact absurd hn (by omega)
    | succ n ih5 =>
      intro ls v1 v2 hl jv1 jv2 hn
      refine lv_iload hx hb dX12_manyOf_5 (lv_at hl 4 rfl) ?_
      refine lv_aload_n hx hb dX12_manyOf_7 rfl (lv_at hl 0 rfl) ?_
      refine h_get (v := .int (I0 a0 13)) hx hb hts iX12 hown g t_a0 (by decide) so_13 rfl 13 (by decide) (hts (.fieldLink RX12 202 "CapLeagueModel" "players" "I") (by decide +kernel)) rfl dX12_manyOf_8 rfl ?_
      refine lv_topi (fun v3 ev3 => ?_)
      have jv3 := hI.rd a0 13 t_a0 ev3 (rfl : h_bd 13 13 = (0, 60))
      refine lv_icmp_ge (tgt := 49) hx hb dX12_manyOf_11 (by decide) (fun c4 => ?_) (fun c4 => ?_)
      · have ic4 := (xi_le c4 rfl rfl : v3.toInt ≤ v2.toInt)
        refine lv_iload_n hx hb dX12_manyOf_49 rfl (lv_at hl 3 rfl) ?_
        exact W.iret (v := v1) hx hb hr (fun t ht hW => ⟨v1, rfl, trivial, ht⟩) (fun _ h => by cases h) dX12_manyOf_50
      · have ic4 := (xi_nle c4 rfl rfl : v2.toInt < v3.toInt)
        refine lv_iload_n hx hb dX12_manyOf_14 rfl (lv_at hl 3 rfl) ?_
        refine lv_aload_n hx hb dX12_manyOf_15 rfl (lv_at hl 0 rfl) ?_
        obtain ⟨b5, rb5, tb5⟩ := hR.at a0 14 t_a0 (rfl : h_rs 13 14 = some (1314, false)) (by decide)
        refine h_get (v := .ref b5) hx hb hts iX12 hown g t_a0 (by decide) so_13 rfl 14 (by decide) (hts (.fieldLink RX12 25 "CapLeagueModel" "clubOf" "[I") (by decide +kernel)) rfl dX12_manyOf_16 (by show va_rf (z.R a0 14) = _; rw [rb5]; rfl) ?_
        refine lv_iload hx hb dX12_manyOf_19 (lv_at hl 4 rfl) ?_
        refine h_ald hx hb g tb5 (by decide) so_1314 (xi_in (by omega) (by omega)) dX12_manyOf_21 ?_
        refine lv_topi (fun v6 ev6 => ?_)
        have jv6 := hI.rd b5 v2.toNatClampNeg tb5 ev6 (rfl : h_bd 1314 _ = ((-1), 7))
        refine lv_iload_n hx hb dX12_manyOf_22 rfl (lv_at hl 1 rfl) ?_
        refine lv_icmp_ne (tgt := 40) hx hb dX12_manyOf_23 (by decide) (fun c7 => ?_) (fun c7 => ?_)
        · have ic7 := (xi_ne c7 rfl h_c : v6.toInt ≠ c_t)
          refine lv_iconst (v := 0) hx hb dX12_manyOf_40 (by decide) ?_
          refine lv_iadd hx hb dX12_manyOf_41 ?_
          refine lv_topi (fun v8 ev8 => ?_)
          have jv8 : v8.toInt = v1.toInt + 0 := xi_add ev8 rfl (by decide) (by omega) (by omega)
          refine lv_istore_n (lv' := [(3, .int v8), (0, .ref a0), (1, .int c), (2, .int y), (4, .int v2)]) hx hb dX12_manyOf_42 rfl hl (by decide) rfl (fun ls hl => ?_)
          obtain ⟨v9, ev9⟩ : ∃ z : Int32, z = v2 + 1 := ⟨_, rfl⟩
          have jv9 : v9.toInt = v2.toInt + 1 := xi_add ev9 rfl (by decide) (by omega) (by omega)
          refine lv_iinc (v := v9) (lv' := [(4, .int v9), (3, .int v8), (0, .ref a0), (1, .int c), (2, .int y)]) hx hb dX12_manyOf_43 hl (k := 4) rfl (by rw [ev9]; rfl) (by decide) rfl (fun ls hl => ?_)
          refine lv_goto (tgt := 5) hx hb dX12_manyOf_46 (by decide) ?_
          exact ih5 _ v8 v9 (lv_sub hl [2, 3, 4, 1, 0] rfl) (by omega) (by omega) (by omega)
        · have ic7 := (xi_eq c7 rfl h_c : v6.toInt = c_t)
          refine lv_aload_n hx hb dX12_manyOf_26 rfl (lv_at hl 0 rfl) ?_
          refine lv_iload hx hb dX12_manyOf_27 (lv_at hl 4 rfl) ?_
          refine lv_iload_n hx hb dX12_manyOf_29 rfl (lv_at hl 2 rfl) ?_
          refine vp_callSi (W.runV (As := [.int v2, .int y]) (rest := [.int v1]) ⟨hx, hb, hml, hown, hts⟩ (tX12_isUnder l E X A z I0 L0 a0 t_a0 v2 (v2.toInt) rfl (by omega) y (y_t) h_y) (cwV 2 hts gX12_manyOf_X12_isUnder rfl rfl rfl (by decide +kernel) ⟨Nat.le_of_ble_eq_true rfl, Nat.le_of_ble_eq_true rfl⟩) ⟨h_blind _ _ _ _ _ _ _, h_recv g t_a0 (by decide) so_13 (q := (RX12, TX12, 51)) rfl, h_pre _ hE hk hX hA hI hR g⟩ rfl rfl hl.1 rfl (lv_room (Nat.le_of_ble_eq_true rfl)) dX12_manyOf_30 ⟨Nat.le_of_ble_eq_true rfl, Nat.le_of_ble_eq_true rfl⟩) (fun rh10 h10 => ?_)
          refine lv_if_eq (tgt := 40) hx hb dX12_manyOf_33 (by decide) (fun c11 => ?_) (fun c11 => ?_)
          · have ic11 := (xi_eq c11 rfl (by decide) : rh10.toInt = 0)
            refine lv_iconst (v := 0) hx hb dX12_manyOf_40 (by decide) ?_
            refine lv_iadd hx hb dX12_manyOf_41 ?_
            refine lv_topi (fun v12 ev12 => ?_)
            have jv12 : v12.toInt = v1.toInt + 0 := xi_add ev12 rfl (by decide) (by omega) (by omega)
            refine lv_istore_n (lv' := [(3, .int v12), (0, .ref a0), (1, .int c), (2, .int y), (4, .int v2)]) hx hb dX12_manyOf_42 rfl hl (by decide) rfl (fun ls hl => ?_)
            obtain ⟨v13, ev13⟩ : ∃ z : Int32, z = v2 + 1 := ⟨_, rfl⟩
            have jv13 : v13.toInt = v2.toInt + 1 := xi_add ev13 rfl (by decide) (by omega) (by omega)
            refine lv_iinc (v := v13) (lv' := [(4, .int v13), (3, .int v12), (0, .ref a0), (1, .int c), (2, .int y)]) hx hb dX12_manyOf_43 hl (k := 4) rfl (by rw [ev13]; rfl) (by decide) rfl (fun ls hl => ?_)
            refine lv_goto (tgt := 5) hx hb dX12_manyOf_46 (by decide) ?_
            exact ih5 _ v12 v13 (lv_sub hl [2, 3, 4, 1, 0] rfl) (by omega) (by omega) (by omega)
          · have ic11 := (xi_ne c11 rfl (by decide) : rh10.toInt ≠ 0)
            refine lv_iconst (v := 1) hx hb dX12_manyOf_36 (by decide) ?_
            refine lv_goto (tgt := 41) hx hb dX12_manyOf_37 (by decide) ?_
            refine lv_iadd hx hb dX12_manyOf_41 ?_
            refine lv_topi (fun v14 ev14 => ?_)
            have jv14 : -2147483648 ≤ v14.toInt ∧ v14.toInt ≤ 2147483647 := ⟨xi_lo _, Int.le_of_lt_add_one (xi_hi _)⟩
            refine lv_istore_n (lv' := [(3, .int v14), (0, .ref a0), (1, .int c), (2, .int y), (4, .int v2)]) hx hb dX12_manyOf_42 rfl hl (by decide) rfl (fun ls hl => ?_)
            obtain ⟨v15, ev15⟩ : ∃ z : Int32, z = v2 + 1 := ⟨_, rfl⟩
            have jv15 : v15.toInt = v2.toInt + 1 := xi_add ev15 rfl (by decide) (by omega) (by omega)
            refine lv_iinc (v := v15) (lv' := [(4, .int v15), (3, .int v14), (0, .ref a0), (1, .int c), (2, .int y)]) hx hb dX12_manyOf_43 hl (k := 4) rfl (by rw [ev15]; rfl) (by decide) rfl (fun ls hl => ?_)
            refine lv_goto (tgt := 5) hx hb dX12_manyOf_46 (by decide) ?_
            exact ih5 _ v14 v15 (lv_sub hl [2, 3, 4, 1, 0] rfl) (by omega) (by omega) (by omega)
  exact loop5_0 _ _ (0) (0) (lv_sub hl [2, 3, 4, 1, 0] rfl) ⟨by decide, by decide⟩ ⟨by decide, by decide⟩ (show (60 - (0 : Int)) < (((60 - (0 : Int)).toNat + 1 : Nat) : Int) by omega)
set_option maxHeartbeats 4000000 in
set_option maxRecDepth 100000 in
theorem tX12_wrongOf (l : Launch) (E : tE) (X : tX) (A : Nat → Prop) (z : tZ) (I0 : tI) (L0 : tL) (a0 : Nat) (t_a0 : z.ty a0 = 13) (p : Int32) (p_t : Int) (h_p : p.toInt = p_t) (b_p : 0 ≤ p_t ∧ p_t ≤ 59) (c : Int32) (c_t : Int) (h_c : c.toInt = c_t) (b_c : 0 ≤ c_t ∧ c_t ≤ 7) (y : Int32) (y_t : Int) (h_y : y.toInt = y_t) (n : Int32) (n_t : Int) (h_n : n.toInt = n_t) : Met l yX12_wrongOf wsX12_wrongOf ({ frames := 5, cells := 0, slots := 0, locals := 320 }) (va_Pc [.ref a0, .int p, .int c, .int y, .int n] (h_P E X A z I0 L0)) (vp_Si (fun r => True)) 0 0 (fun _ => False) := by
  refine Met.ofW (cc := cX12_wrongOf) (maxL := 7) (ret := (some .int)) (by decide) rfl ?_
  intro pr_ ev_ s m args below meth cd_ s₁ B hml hv
  obtain ⟨rfl, hE, hk, hX, hA, hK, hI, hR, hB0⟩ := hv
  have g : h_G h_so h_fk E A z I0 L0 s s.heap s.heap [] := ⟨hK, va_S.rf, hB0⟩
  have hx := B.exec
  have hb := B.bytes
  have hr := B.returns
  have hts := atoms_spec (ws := wsX12_wrongOf) B.pre
  have hown : s.vm.findClass RX12 = some m.cls := findClass_of_methodNamed B.named
  have hlocks := B.notSynchronized
  have iX12 : ∀ w ∈ u_ws RX12 TX12 51, w ∈ wsX12_wrongOf := by decide +kernel
  have hl := lv_entry ([.ref a0, .int p, .int c, .int y, .int n]) (n := 7) (Nat.le_of_ble_eq_true rfl)
  rw [lg_entry_eq]
  generalize (lg_sl ([.ref a0, .int p, .int c, .int y, .int n]) ++ List.replicate (7 - (lg_sl ([.ref a0, .int p, .int c, .int y, .int n])).length) Slot.unset).toArray = ls at hl ⊢
  have hl : lv_has ls 7 [(0, .ref a0), (1, .int p), (2, .int c), (3, .int y), (4, .int n)] := hl
  have b_y : -2147483648 ≤ y_t ∧ y_t ≤ 2147483647 := h_y ▸ ⟨xi_lo y, Int.le_of_lt_add_one (xi_hi y)⟩
  have b_n : -2147483648 ≤ n_t ∧ n_t ≤ 2147483647 := h_n ▸ ⟨xi_lo n, Int.le_of_lt_add_one (xi_hi n)⟩
  refine lv_aload_n hx hb dX12_wrongOf_0 rfl (lv_at hl 0 rfl) ?_
  obtain ⟨b1, rb1, tb1⟩ := hR.at a0 14 t_a0 (rfl : h_rs 13 14 = some (1314, false)) (by decide)
  refine h_get (v := .ref b1) hx hb hts iX12 hown g t_a0 (by decide) so_13 rfl 14 (by decide) (hts (.fieldLink RX12 25 "CapLeagueModel" "clubOf" "[I") (by decide +kernel)) rfl dX12_wrongOf_1 (by show va_rf (z.R a0 14) = _; rw [rb1]; rfl) ?_
  refine lv_iload_n hx hb dX12_wrongOf_4 rfl (lv_at hl 1 rfl) ?_
  refine h_ald hx hb g tb1 (by decide) so_1314 (xi_in (by rw [h_p]; omega) (by rw [h_p]; omega)) dX12_wrongOf_5 ?_
  refine lv_topi (fun v2 ev2 => ?_)
  have jv2 := hI.rd b1 p.toNatClampNeg tb1 ev2 (rfl : h_bd 1314 _ = ((-1), 7))
  refine lv_iconst (v := (-1)) hx hb dX12_wrongOf_6 (by decide) ?_
  refine lv_icmp_eq (tgt := 14) hx hb dX12_wrongOf_7 (by decide) (fun c3 => ?_) (fun c3 => ?_)
  · have ic3 := (xi_eq c3 rfl (by decide) : v2.toInt = (-1))
    refine lv_iconst (v := 0) hx hb dX12_wrongOf_14 (by decide) ?_
    refine lv_istore (lv' := [(5, .int 0), (0, .ref a0), (1, .int p), (2, .int c), (3, .int y), (4, .int n)]) hx hb dX12_wrongOf_15 hl (by decide) rfl (fun ls hl => ?_)
    refine lv_aload_n hx hb dX12_wrongOf_17 rfl (lv_at hl 1 rfl) ?_
    refine lv_iload_n hx hb dX12_wrongOf_18 rfl (lv_at hl 3 rfl) ?_
    refine lv_aload_n hx hb dX12_wrongOf_19 rfl (lv_at hl 1 rfl) ?_
    refine h_get (v := .int (I0 a0 12)) hx hb hts iX12 hown g t_a0 (by decide) so_13 rfl 12 (by decide) (hts (.fieldLink RX12 187 "CapLeagueModel" "clock" "I") (by decide +kernel)) rfl dX12_wrongOf_20 rfl ?_
    refine lv_topi (fun v4 ev4 => ?_)
    have jv4 := hI.rd a0 12 t_a0 ev4 (rfl : h_bd 13 12 = (0, 9))
    refine vp_callSi (W.runV (As := [.int c, .int v4]) (rest := []) ⟨hx, hb, hml, hown, hts⟩ (tX12_manyOf l E X A z I0 L0 a0 t_a0 c (c_t) h_c v4 (v4.toInt) rfl) (cwV 2 hts gX12_wrongOf_X12_manyOf rfl rfl rfl (by decide +kernel) ⟨Nat.le_of_ble_eq_true rfl, Nat.le_of_ble_eq_true rfl⟩) ⟨h_blind _ _ _ _ _ _ _, h_recv g t_a0 (by decide) so_13 (q := (RX12, TX12, 51)) rfl, h_pre _ hE hk hX hA hI hR g⟩ rfl rfl hl.1 rfl (lv_room (Nat.le_of_ble_eq_true rfl)) dX12_wrongOf_23 ⟨Nat.le_of_ble_eq_true rfl, Nat.le_of_ble_eq_true rfl⟩) (fun rh5 h5 => ?_)
    have jrh5 : -2147483648 ≤ rh5.toInt ∧ rh5.toInt ≤ 2147483647 := ⟨xi_lo _, Int.le_of_lt_add_one (xi_hi _)⟩
    refine lv_aload_n hx hb dX12_wrongOf_26 rfl (lv_at hl 1 rfl) ?_
    refine lv_aload_n hx hb dX12_wrongOf_27 rfl (lv_at hl 1 rfl) ?_
    refine h_get (v := .int v4) hx hb hts iX12 hown g t_a0 (by decide) so_13 rfl 12 (by decide) (hts (.fieldLink RX12 187 "CapLeagueModel" "clock" "I") (by decide +kernel)) rfl dX12_wrongOf_28 (congrArg Value.int (ev4.symm)) ?_
    refine lv_iconst (v := 1) hx hb dX12_wrongOf_31 (by decide) ?_
    refine vp_callSi (W.runV (As := [.int v4, .int 1]) (rest := [.int rh5]) ⟨hx, hb, hml, hown, hts⟩ (tX12_lawOf l E X A z I0 L0 a0 t_a0 v4 (v4.toInt) rfl (by omega) 1 (1) (by decide) (by omega)) (cwV 2 hts gX12_wrongOf_X12_lawOf rfl rfl rfl (by decide +kernel) ⟨Nat.le_of_ble_eq_true rfl, Nat.le_of_ble_eq_true rfl⟩) ⟨h_blind _ _ _ _ _ _ _, h_recv g t_a0 (by decide) so_13 (q := (RX12, TX12, 51)) rfl, h_pre _ hE hk hX hA hI hR g⟩ rfl rfl hl.1 rfl (lv_room (Nat.le_of_ble_eq_true rfl)) dX12_wrongOf_32 ⟨Nat.le_of_ble_eq_true rfl, Nat.le_of_ble_eq_true rfl⟩) (fun rh6 h6 => ?_)
    have jrh6 : -2147483648 ≤ rh6.toInt ∧ rh6.toInt ≤ 2147483647 := ⟨xi_lo _, Int.le_of_lt_add_one (xi_hi _)⟩
    refine lv_icmp_lt (tgt := 44) hx hb dX12_wrongOf_35 (by decide) (fun c7 => ?_) (fun c7 => ?_)
    · have ic7 := (xi_lt c7 rfl rfl : rh5.toInt < rh6.toInt)
      refine lv_iload_n hx hb dX12_wrongOf_44 rfl (lv_at hl 4 rfl) ?_
      refine lv_aload_n hx hb dX12_wrongOf_45 rfl (lv_at hl 1 rfl) ?_
      refine lv_aload_n hx hb dX12_wrongOf_46 rfl (lv_at hl 1 rfl) ?_
      refine h_get (v := .int v4) hx hb hts iX12 hown g t_a0 (by decide) so_13 rfl 12 (by decide) (hts (.fieldLink RX12 187 "CapLeagueModel" "clock" "I") (by decide +kernel)) rfl dX12_wrongOf_47 (congrArg Value.int (ev4.symm)) ?_
      refine lv_iconst (v := 2) hx hb dX12_wrongOf_50 (by decide) ?_
      refine vp_callSi (W.runV (As := [.int v4, .int 2]) (rest := [.int y]) ⟨hx, hb, hml, hown, hts⟩ (tX12_lawOf l E X A z I0 L0 a0 t_a0 v4 (v4.toInt) rfl (by omega) 2 (2) (by decide) (by omega)) (cwV 2 hts gX12_wrongOf_X12_lawOf rfl rfl rfl (by decide +kernel) ⟨Nat.le_of_ble_eq_true rfl, Nat.le_of_ble_eq_true rfl⟩) ⟨h_blind _ _ _ _ _ _ _, h_recv g t_a0 (by decide) so_13 (q := (RX12, TX12, 51)) rfl, h_pre _ hE hk hX hA hI hR g⟩ rfl rfl hl.1 rfl (lv_room (Nat.le_of_ble_eq_true rfl)) dX12_wrongOf_51 ⟨Nat.le_of_ble_eq_true rfl, Nat.le_of_ble_eq_true rfl⟩) (fun rh8 h8 => ?_)
      have jrh8 : -2147483648 ≤ rh8.toInt ∧ rh8.toInt ≤ 2147483647 := ⟨xi_lo _, Int.le_of_lt_add_one (xi_hi _)⟩
      refine lv_icmp_le (tgt := 63) hx hb dX12_wrongOf_54 (by decide) (fun c9 => ?_) (fun c9 => ?_)
      · have ic9 := (xi_le c9 h_y rfl : y_t ≤ rh8.toInt)
        refine lv_aload_n hx hb dX12_wrongOf_63 rfl (lv_at hl 1 rfl) ?_
        refine lv_iload_n hx hb dX12_wrongOf_64 rfl (lv_at hl 3 rfl) ?_
        refine lv_aload_n hx hb dX12_wrongOf_65 rfl (lv_at hl 1 rfl) ?_
        refine h_get (v := .int v4) hx hb hts iX12 hown g t_a0 (by decide) so_13 rfl 12 (by decide) (hts (.fieldLink RX12 187 "CapLeagueModel" "clock" "I") (by decide +kernel)) rfl dX12_wrongOf_66 (congrArg Value.int (ev4.symm)) ?_
        refine vp_callSi (W.runV (As := [.int c, .int v4]) (rest := []) ⟨hx, hb, hml, hown, hts⟩ (tX12_counts l E X A z I0 L0 a0 t_a0 c (c_t) h_c (by omega) v4 (v4.toInt) rfl (by omega)) (cwV 2 hts gX12_wrongOf_X12_counts rfl rfl rfl (by decide +kernel) ⟨Nat.le_of_ble_eq_true rfl, Nat.le_of_ble_eq_true rfl⟩) ⟨h_blind _ _ _ _ _ _ _, h_recv g t_a0 (by decide) so_13 (q := (RX12, TX12, 51)) rfl, h_pre _ hE hk hX hA hI hR g⟩ rfl rfl hl.1 rfl (lv_room (Nat.le_of_ble_eq_true rfl)) dX12_wrongOf_69 ⟨Nat.le_of_ble_eq_true rfl, Nat.le_of_ble_eq_true rfl⟩) (fun rh10 h10 => ?_)
        have jrh10 : -2147483648 ≤ rh10.toInt ∧ rh10.toInt ≤ 2147483647 := ⟨xi_lo _, Int.le_of_lt_add_one (xi_hi _)⟩
        refine lv_iload hx hb dX12_wrongOf_72 (lv_at hl 5 rfl) ?_
        refine lv_iadd hx hb dX12_wrongOf_74 ?_
        refine lv_topi (fun v11 ev11 => ?_)
        have jv11 : -2147483648 ≤ v11.toInt ∧ v11.toInt ≤ 2147483647 := ⟨xi_lo _, Int.le_of_lt_add_one (xi_hi _)⟩
        refine lv_aload_n hx hb dX12_wrongOf_75 rfl (lv_at hl 1 rfl) ?_
        refine lv_aload_n hx hb dX12_wrongOf_76 rfl (lv_at hl 1 rfl) ?_
        refine h_get (v := .int v4) hx hb hts iX12 hown g t_a0 (by decide) so_13 rfl 12 (by decide) (hts (.fieldLink RX12 187 "CapLeagueModel" "clock" "I") (by decide +kernel)) rfl dX12_wrongOf_77 (congrArg Value.int (ev4.symm)) ?_
        refine lv_iconst (v := 0) hx hb dX12_wrongOf_80 (by decide) ?_
        refine vp_callSi (W.runV (As := [.int v4, .int 0]) (rest := [.int v11]) ⟨hx, hb, hml, hown, hts⟩ (tX12_lawOf l E X A z I0 L0 a0 t_a0 v4 (v4.toInt) rfl (by omega) 0 (0) (by decide) (by omega)) (cwV 2 hts gX12_wrongOf_X12_lawOf rfl rfl rfl (by decide +kernel) ⟨Nat.le_of_ble_eq_true rfl, Nat.le_of_ble_eq_true rfl⟩) ⟨h_blind _ _ _ _ _ _ _, h_recv g t_a0 (by decide) so_13 (q := (RX12, TX12, 51)) rfl, h_pre _ hE hk hX hA hI hR g⟩ rfl rfl hl.1 rfl (lv_room (Nat.le_of_ble_eq_true rfl)) dX12_wrongOf_81 ⟨Nat.le_of_ble_eq_true rfl, Nat.le_of_ble_eq_true rfl⟩) (fun rh12 h12 => ?_)
        have jrh12 : -2147483648 ≤ rh12.toInt ∧ rh12.toInt ≤ 2147483647 := ⟨xi_lo _, Int.le_of_lt_add_one (xi_hi _)⟩
        refine lv_icmp_le (tgt := 91) hx hb dX12_wrongOf_84 (by decide) (fun c13 => ?_) (fun c13 => ?_)
        · have ic13 := (xi_le c13 rfl rfl : v11.toInt ≤ rh12.toInt)
          refine lv_iconst (v := 0) hx hb dX12_wrongOf_91 (by decide) ?_
          refine lv_istore (lv' := [(6, .int 0), (5, .int 0), (0, .ref a0), (1, .int p), (2, .int c), (3, .int y), (4, .int n)]) hx hb dX12_wrongOf_92 hl (by decide) rfl (fun ls hl => ?_)
          refine lv_iload hx hb dX12_wrongOf_94 (lv_at hl 0 rfl) ?_
          refine lv_if_eq (tgt := 129) hx hb dX12_wrongOf_96 (by decide) (fun _ => ?_) (fun h => absurd (by decide) h)
          refine lv_iload hx hb dX12_wrongOf_129 (lv_at hl 1 rfl) ?_
          exact W.iret (v := 0) hx hb hr (fun t ht hW => ⟨0, rfl, trivial, ht⟩) (fun _ h => by cases h) dX12_wrongOf_131
        · have ic13 := (xi_nle c13 rfl rfl : rh12.toInt < v11.toInt)
          refine lv_iconst (v := 1) hx hb dX12_wrongOf_87 (by decide) ?_
          refine lv_goto (tgt := 92) hx hb dX12_wrongOf_88 (by decide) ?_
          refine lv_istore (lv' := [(6, .int 1), (5, .int 0), (0, .ref a0), (1, .int p), (2, .int c), (3, .int y), (4, .int n)]) hx hb dX12_wrongOf_92 hl (by decide) rfl (fun ls hl => ?_)
          refine lv_iload hx hb dX12_wrongOf_94 (lv_at hl 0 rfl) ?_
          refine lv_if_eq (tgt := 129) hx hb dX12_wrongOf_96 (by decide) (fun h => absurd h (by decide)) (fun _ => ?_)
          refine lv_iload hx hb dX12_wrongOf_99 (lv_at hl 6 rfl) ?_
          refine lv_aload_n hx hb dX12_wrongOf_101 rfl (lv_at hl 2 rfl) ?_
          refine lv_aload_n hx hb dX12_wrongOf_102 rfl (lv_at hl 2 rfl) ?_
          refine h_get (v := .int v4) hx hb hts iX12 hown g t_a0 (by decide) so_13 rfl 12 (by decide) (hts (.fieldLink RX12 187 "CapLeagueModel" "clock" "I") (by decide +kernel)) rfl dX12_wrongOf_103 (congrArg Value.int (ev4.symm)) ?_
          refine lv_iconst (v := 3) hx hb dX12_wrongOf_106 (by decide) ?_
          refine vp_callSi (W.runV (As := [.int v4, .int 3]) (rest := [.int n]) ⟨hx, hb, hml, hown, hts⟩ (tX12_lawOf l E X A z I0 L0 a0 t_a0 v4 (v4.toInt) rfl (by omega) 3 (3) (by decide) (by omega)) (cwV 2 hts gX12_wrongOf_X12_lawOf rfl rfl rfl (by decide +kernel) ⟨Nat.le_of_ble_eq_true rfl, Nat.le_of_ble_eq_true rfl⟩) ⟨h_blind _ _ _ _ _ _ _, h_recv g t_a0 (by decide) so_13 (q := (RX12, TX12, 51)) rfl, h_pre _ hE hk hX hA hI hR g⟩ rfl rfl hl.1 rfl (lv_room (Nat.le_of_ble_eq_true rfl)) dX12_wrongOf_107 ⟨Nat.le_of_ble_eq_true rfl, Nat.le_of_ble_eq_true rfl⟩) (fun rh16 h16 => ?_)
          have jrh16 : -2147483648 ≤ rh16.toInt ∧ rh16.toInt ≤ 2147483647 := ⟨xi_lo _, Int.le_of_lt_add_one (xi_hi _)⟩
          refine lv_icmp_gt (tgt := 122) hx hb dX12_wrongOf_110 (by decide) (fun c17 => ?_) (fun c17 => ?_)
          · have ic17 := (xi_lt c17 rfl h_n : rh16.toInt < n_t)
            refine lv_iload hx hb dX12_wrongOf_122 (lv_at hl 1 rfl) ?_
            refine lv_bipush (v := 8) hx hb dX12_wrongOf_124 (by decide) ?_
            refine lv_ior hx hb dX12_wrongOf_126 ?_
            refine lv_topi (fun v18 ev18 => ?_)
            have jv18 : -2147483648 ≤ v18.toInt ∧ v18.toInt ≤ 2147483647 := ⟨xi_lo _, Int.le_of_lt_add_one (xi_hi _)⟩
            refine lv_istore (lv' := [(5, .int v18), (6, .int 1), (0, .ref a0), (1, .int p), (2, .int c), (3, .int y), (4, .int n)]) hx hb dX12_wrongOf_127 hl (by decide) rfl (fun ls hl => ?_)
            refine lv_iload hx hb dX12_wrongOf_129 (lv_at hl 0 rfl) ?_
            exact W.iret (v := v18) hx hb hr (fun t ht hW => ⟨v18, rfl, trivial, ht⟩) (fun _ h => by cases h) dX12_wrongOf_131
          · have ic17 := (xi_nlt c17 rfl h_n : n_t ≤ rh16.toInt)
            refine lv_aload_n hx hb dX12_wrongOf_113 rfl (lv_at hl 2 rfl) ?_
            obtain ⟨b19, rb19, tb19⟩ := hR.at a0 24 t_a0 (rfl : h_rs 13 24 = some (1324, false)) (by decide)
            refine h_get (v := .ref b19) hx hb hts iX12 hown g t_a0 (by decide) so_13 rfl 24 (by decide) (hts (.fieldLink RX12 55 "CapLeagueModel" "usedSpare" "[Z") (by decide +kernel)) rfl dX12_wrongOf_114 (by show va_rf (z.R a0 24) = _; rw [rb19]; rfl) ?_
            refine lv_iload_n hx hb dX12_wrongOf_117 rfl (lv_at hl 4 rfl) ?_
            refine h_zald hx hb g tb19 (by decide) so_1324 (xi_in (by rw [h_c]; omega) (by rw [h_c]; omega)) dX12_wrongOf_118 ?_
            refine lv_topi (fun v20 ev20 => ?_)
            have jv20 := hI.rd b19 c.toNatClampNeg tb19 ev20 (rfl : h_bd 1324 _ = (0, 1))
            refine lv_if_eq (tgt := 129) hx hb dX12_wrongOf_119 (by decide) (fun c21 => ?_) (fun c21 => ?_)
            · have ic21 := (xi_eq c21 rfl (by decide) : v20.toInt = 0)
              refine lv_iload hx hb dX12_wrongOf_129 (lv_at hl 1 rfl) ?_
              exact W.iret (v := 0) hx hb hr (fun t ht hW => ⟨0, rfl, trivial, ht⟩) (fun _ h => by cases h) dX12_wrongOf_131
            · have ic21 := (xi_ne c21 rfl (by decide) : v20.toInt ≠ 0)
              refine lv_iload hx hb dX12_wrongOf_122 (lv_at hl 1 rfl) ?_
              refine lv_bipush (v := 8) hx hb dX12_wrongOf_124 (by decide) ?_
              refine lv_ior hx hb dX12_wrongOf_126 ?_
              refine lv_topi (fun v22 ev22 => ?_)
              have jv22 : -2147483648 ≤ v22.toInt ∧ v22.toInt ≤ 2147483647 := ⟨xi_lo _, Int.le_of_lt_add_one (xi_hi _)⟩
              refine lv_istore (lv' := [(5, .int v22), (6, .int 1), (0, .ref a0), (1, .int p), (2, .int c), (3, .int y), (4, .int n)]) hx hb dX12_wrongOf_127 hl (by decide) rfl (fun ls hl => ?_)
              refine lv_iload hx hb dX12_wrongOf_129 (lv_at hl 0 rfl) ?_
              exact W.iret (v := v22) hx hb hr (fun t ht hW => ⟨v22, rfl, trivial, ht⟩) (fun _ h => by cases h) dX12_wrongOf_131
      · have ic9 := (xi_nle c9 h_y rfl : rh8.toInt < y_t)
        refine lv_iload hx hb dX12_wrongOf_57 (lv_at hl 0 rfl) ?_
        refine lv_iconst (v := 4) hx hb dX12_wrongOf_59 (by decide) ?_
        refine lv_ior hx hb dX12_wrongOf_60 ?_
        refine lv_topi (fun v23 ev23 => ?_)
        have jv23 : -2147483648 ≤ v23.toInt ∧ v23.toInt ≤ 2147483647 := ⟨xi_lo _, Int.le_of_lt_add_one (xi_hi _)⟩
        refine lv_istore (lv' := [(5, .int v23), (0, .ref a0), (1, .int p), (2, .int c), (3, .int y), (4, .int n)]) hx hb dX12_wrongOf_61 hl (by decide) rfl (fun ls hl => ?_)
        refine lv_aload_n hx hb dX12_wrongOf_63 rfl (lv_at hl 1 rfl) ?_
        refine lv_iload_n hx hb dX12_wrongOf_64 rfl (lv_at hl 3 rfl) ?_
        refine lv_aload_n hx hb dX12_wrongOf_65 rfl (lv_at hl 1 rfl) ?_
        refine h_get (v := .int v4) hx hb hts iX12 hown g t_a0 (by decide) so_13 rfl 12 (by decide) (hts (.fieldLink RX12 187 "CapLeagueModel" "clock" "I") (by decide +kernel)) rfl dX12_wrongOf_66 (congrArg Value.int (ev4.symm)) ?_
        refine vp_callSi (W.runV (As := [.int c, .int v4]) (rest := []) ⟨hx, hb, hml, hown, hts⟩ (tX12_counts l E X A z I0 L0 a0 t_a0 c (c_t) h_c (by omega) v4 (v4.toInt) rfl (by omega)) (cwV 2 hts gX12_wrongOf_X12_counts rfl rfl rfl (by decide +kernel) ⟨Nat.le_of_ble_eq_true rfl, Nat.le_of_ble_eq_true rfl⟩) ⟨h_blind _ _ _ _ _ _ _, h_recv g t_a0 (by decide) so_13 (q := (RX12, TX12, 51)) rfl, h_pre _ hE hk hX hA hI hR g⟩ rfl rfl hl.1 rfl (lv_room (Nat.le_of_ble_eq_true rfl)) dX12_wrongOf_69 ⟨Nat.le_of_ble_eq_true rfl, Nat.le_of_ble_eq_true rfl⟩) (fun rh24 h24 => ?_)
        have jrh24 : -2147483648 ≤ rh24.toInt ∧ rh24.toInt ≤ 2147483647 := ⟨xi_lo _, Int.le_of_lt_add_one (xi_hi _)⟩
        refine lv_iload hx hb dX12_wrongOf_72 (lv_at hl 5 rfl) ?_
        refine lv_iadd hx hb dX12_wrongOf_74 ?_
        refine lv_topi (fun v25 ev25 => ?_)
        have jv25 : -2147483648 ≤ v25.toInt ∧ v25.toInt ≤ 2147483647 := ⟨xi_lo _, Int.le_of_lt_add_one (xi_hi _)⟩
        refine lv_aload_n hx hb dX12_wrongOf_75 rfl (lv_at hl 1 rfl) ?_
        refine lv_aload_n hx hb dX12_wrongOf_76 rfl (lv_at hl 1 rfl) ?_
        refine h_get (v := .int v4) hx hb hts iX12 hown g t_a0 (by decide) so_13 rfl 12 (by decide) (hts (.fieldLink RX12 187 "CapLeagueModel" "clock" "I") (by decide +kernel)) rfl dX12_wrongOf_77 (congrArg Value.int (ev4.symm)) ?_
        refine lv_iconst (v := 0) hx hb dX12_wrongOf_80 (by decide) ?_
        refine vp_callSi (W.runV (As := [.int v4, .int 0]) (rest := [.int v25]) ⟨hx, hb, hml, hown, hts⟩ (tX12_lawOf l E X A z I0 L0 a0 t_a0 v4 (v4.toInt) rfl (by omega) 0 (0) (by decide) (by omega)) (cwV 2 hts gX12_wrongOf_X12_lawOf rfl rfl rfl (by decide +kernel) ⟨Nat.le_of_ble_eq_true rfl, Nat.le_of_ble_eq_true rfl⟩) ⟨h_blind _ _ _ _ _ _ _, h_recv g t_a0 (by decide) so_13 (q := (RX12, TX12, 51)) rfl, h_pre _ hE hk hX hA hI hR g⟩ rfl rfl hl.1 rfl (lv_room (Nat.le_of_ble_eq_true rfl)) dX12_wrongOf_81 ⟨Nat.le_of_ble_eq_true rfl, Nat.le_of_ble_eq_true rfl⟩) (fun rh26 h26 => ?_)
        have jrh26 : -2147483648 ≤ rh26.toInt ∧ rh26.toInt ≤ 2147483647 := ⟨xi_lo _, Int.le_of_lt_add_one (xi_hi _)⟩
        refine lv_icmp_le (tgt := 91) hx hb dX12_wrongOf_84 (by decide) (fun c27 => ?_) (fun c27 => ?_)
        · have ic27 := (xi_le c27 rfl rfl : v25.toInt ≤ rh26.toInt)
          refine lv_iconst (v := 0) hx hb dX12_wrongOf_91 (by decide) ?_
          refine lv_istore (lv' := [(6, .int 0), (5, .int v23), (0, .ref a0), (1, .int p), (2, .int c), (3, .int y), (4, .int n)]) hx hb dX12_wrongOf_92 hl (by decide) rfl (fun ls hl => ?_)
          refine lv_iload hx hb dX12_wrongOf_94 (lv_at hl 0 rfl) ?_
          refine lv_if_eq (tgt := 129) hx hb dX12_wrongOf_96 (by decide) (fun _ => ?_) (fun h => absurd (by decide) h)
          refine lv_iload hx hb dX12_wrongOf_129 (lv_at hl 1 rfl) ?_
          exact W.iret (v := v23) hx hb hr (fun t ht hW => ⟨v23, rfl, trivial, ht⟩) (fun _ h => by cases h) dX12_wrongOf_131
        · have ic27 := (xi_nle c27 rfl rfl : rh26.toInt < v25.toInt)
          refine lv_iconst (v := 1) hx hb dX12_wrongOf_87 (by decide) ?_
          refine lv_goto (tgt := 92) hx hb dX12_wrongOf_88 (by decide) ?_
          refine lv_istore (lv' := [(6, .int 1), (5, .int v23), (0, .ref a0), (1, .int p), (2, .int c), (3, .int y), (4, .int n)]) hx hb dX12_wrongOf_92 hl (by decide) rfl (fun ls hl => ?_)
          refine lv_iload hx hb dX12_wrongOf_94 (lv_at hl 0 rfl) ?_
          refine lv_if_eq (tgt := 129) hx hb dX12_wrongOf_96 (by decide) (fun h => absurd h (by decide)) (fun _ => ?_)
          refine lv_iload hx hb dX12_wrongOf_99 (lv_at hl 6 rfl) ?_
          refine lv_aload_n hx hb dX12_wrongOf_101 rfl (lv_at hl 2 rfl) ?_
          refine lv_aload_n hx hb dX12_wrongOf_102 rfl (lv_at hl 2 rfl) ?_
          refine h_get (v := .int v4) hx hb hts iX12 hown g t_a0 (by decide) so_13 rfl 12 (by decide) (hts (.fieldLink RX12 187 "CapLeagueModel" "clock" "I") (by decide +kernel)) rfl dX12_wrongOf_103 (congrArg Value.int (ev4.symm)) ?_
          refine lv_iconst (v := 3) hx hb dX12_wrongOf_106 (by decide) ?_
          refine vp_callSi (W.runV (As := [.int v4, .int 3]) (rest := [.int n]) ⟨hx, hb, hml, hown, hts⟩ (tX12_lawOf l E X A z I0 L0 a0 t_a0 v4 (v4.toInt) rfl (by omega) 3 (3) (by decide) (by omega)) (cwV 2 hts gX12_wrongOf_X12_lawOf rfl rfl rfl (by decide +kernel) ⟨Nat.le_of_ble_eq_true rfl, Nat.le_of_ble_eq_true rfl⟩) ⟨h_blind _ _ _ _ _ _ _, h_recv g t_a0 (by decide) so_13 (q := (RX12, TX12, 51)) rfl, h_pre _ hE hk hX hA hI hR g⟩ rfl rfl hl.1 rfl (lv_room (Nat.le_of_ble_eq_true rfl)) dX12_wrongOf_107 ⟨Nat.le_of_ble_eq_true rfl, Nat.le_of_ble_eq_true rfl⟩) (fun rh30 h30 => ?_)
          have jrh30 : -2147483648 ≤ rh30.toInt ∧ rh30.toInt ≤ 2147483647 := ⟨xi_lo _, Int.le_of_lt_add_one (xi_hi _)⟩
          refine lv_icmp_gt (tgt := 122) hx hb dX12_wrongOf_110 (by decide) (fun c31 => ?_) (fun c31 => ?_)
          · have ic31 := (xi_lt c31 rfl h_n : rh30.toInt < n_t)
            refine lv_iload hx hb dX12_wrongOf_122 (lv_at hl 1 rfl) ?_
            refine lv_bipush (v := 8) hx hb dX12_wrongOf_124 (by decide) ?_
            refine lv_ior hx hb dX12_wrongOf_126 ?_
            refine lv_topi (fun v32 ev32 => ?_)
            have jv32 : -2147483648 ≤ v32.toInt ∧ v32.toInt ≤ 2147483647 := ⟨xi_lo _, Int.le_of_lt_add_one (xi_hi _)⟩
            refine lv_istore (lv' := [(5, .int v32), (6, .int 1), (0, .ref a0), (1, .int p), (2, .int c), (3, .int y), (4, .int n)]) hx hb dX12_wrongOf_127 hl (by decide) rfl (fun ls hl => ?_)
            refine lv_iload hx hb dX12_wrongOf_129 (lv_at hl 0 rfl) ?_
            exact W.iret (v := v32) hx hb hr (fun t ht hW => ⟨v32, rfl, trivial, ht⟩) (fun _ h => by cases h) dX12_wrongOf_131
          · have ic31 := (xi_nlt c31 rfl h_n : n_t ≤ rh30.toInt)
            refine lv_aload_n hx hb dX12_wrongOf_113 rfl (lv_at hl 2 rfl) ?_
            obtain ⟨b33, rb33, tb33⟩ := hR.at a0 24 t_a0 (rfl : h_rs 13 24 = some (1324, false)) (by decide)
            refine h_get (v := .ref b33) hx hb hts iX12 hown g t_a0 (by decide) so_13 rfl 24 (by decide) (hts (.fieldLink RX12 55 "CapLeagueModel" "usedSpare" "[Z") (by decide +kernel)) rfl dX12_wrongOf_114 (by show va_rf (z.R a0 24) = _; rw [rb33]; rfl) ?_
            refine lv_iload_n hx hb dX12_wrongOf_117 rfl (lv_at hl 4 rfl) ?_
            refine h_zald hx hb g tb33 (by decide) so_1324 (xi_in (by rw [h_c]; omega) (by rw [h_c]; omega)) dX12_wrongOf_118 ?_
            refine lv_topi (fun v34 ev34 => ?_)
            have jv34 := hI.rd b33 c.toNatClampNeg tb33 ev34 (rfl : h_bd 1324 _ = (0, 1))
            refine lv_if_eq (tgt := 129) hx hb dX12_wrongOf_119 (by decide) (fun c35 => ?_) (fun c35 => ?_)
            · have ic35 := (xi_eq c35 rfl (by decide) : v34.toInt = 0)
              refine lv_iload hx hb dX12_wrongOf_129 (lv_at hl 1 rfl) ?_
              exact W.iret (v := v23) hx hb hr (fun t ht hW => ⟨v23, rfl, trivial, ht⟩) (fun _ h => by cases h) dX12_wrongOf_131
            · have ic35 := (xi_ne c35 rfl (by decide) : v34.toInt ≠ 0)
              refine lv_iload hx hb dX12_wrongOf_122 (lv_at hl 1 rfl) ?_
              refine lv_bipush (v := 8) hx hb dX12_wrongOf_124 (by decide) ?_
              refine lv_ior hx hb dX12_wrongOf_126 ?_
              refine lv_topi (fun v36 ev36 => ?_)
              have jv36 : -2147483648 ≤ v36.toInt ∧ v36.toInt ≤ 2147483647 := ⟨xi_lo _, Int.le_of_lt_add_one (xi_hi _)⟩
              refine lv_istore (lv' := [(5, .int v36), (6, .int 1), (0, .ref a0), (1, .int p), (2, .int c), (3, .int y), (4, .int n)]) hx hb dX12_wrongOf_127 hl (by decide) rfl (fun ls hl => ?_)
              refine lv_iload hx hb dX12_wrongOf_129 (lv_at hl 0 rfl) ?_
              exact W.iret (v := v36) hx hb hr (fun t ht hW => ⟨v36, rfl, trivial, ht⟩) (fun _ h => by cases h) dX12_wrongOf_131
    · have ic7 := (xi_nlt c7 rfl rfl : rh6.toInt ≤ rh5.toInt)
      refine lv_iload hx hb dX12_wrongOf_38 (lv_at hl 0 rfl) ?_
      refine lv_iconst (v := 2) hx hb dX12_wrongOf_40 (by decide) ?_
      refine lv_ior hx hb dX12_wrongOf_41 ?_
      refine lv_topi (fun v37 ev37 => ?_)
      have jv37 : -2147483648 ≤ v37.toInt ∧ v37.toInt ≤ 2147483647 := ⟨xi_lo _, Int.le_of_lt_add_one (xi_hi _)⟩
      refine lv_istore (lv' := [(5, .int v37), (0, .ref a0), (1, .int p), (2, .int c), (3, .int y), (4, .int n)]) hx hb dX12_wrongOf_42 hl (by decide) rfl (fun ls hl => ?_)
      refine lv_iload_n hx hb dX12_wrongOf_44 rfl (lv_at hl 4 rfl) ?_
      refine lv_aload_n hx hb dX12_wrongOf_45 rfl (lv_at hl 1 rfl) ?_
      refine lv_aload_n hx hb dX12_wrongOf_46 rfl (lv_at hl 1 rfl) ?_
      refine h_get (v := .int v4) hx hb hts iX12 hown g t_a0 (by decide) so_13 rfl 12 (by decide) (hts (.fieldLink RX12 187 "CapLeagueModel" "clock" "I") (by decide +kernel)) rfl dX12_wrongOf_47 (congrArg Value.int (ev4.symm)) ?_
      refine lv_iconst (v := 2) hx hb dX12_wrongOf_50 (by decide) ?_
      refine vp_callSi (W.runV (As := [.int v4, .int 2]) (rest := [.int y]) ⟨hx, hb, hml, hown, hts⟩ (tX12_lawOf l E X A z I0 L0 a0 t_a0 v4 (v4.toInt) rfl (by omega) 2 (2) (by decide) (by omega)) (cwV 2 hts gX12_wrongOf_X12_lawOf rfl rfl rfl (by decide +kernel) ⟨Nat.le_of_ble_eq_true rfl, Nat.le_of_ble_eq_true rfl⟩) ⟨h_blind _ _ _ _ _ _ _, h_recv g t_a0 (by decide) so_13 (q := (RX12, TX12, 51)) rfl, h_pre _ hE hk hX hA hI hR g⟩ rfl rfl hl.1 rfl (lv_room (Nat.le_of_ble_eq_true rfl)) dX12_wrongOf_51 ⟨Nat.le_of_ble_eq_true rfl, Nat.le_of_ble_eq_true rfl⟩) (fun rh38 h38 => ?_)
      have jrh38 : -2147483648 ≤ rh38.toInt ∧ rh38.toInt ≤ 2147483647 := ⟨xi_lo _, Int.le_of_lt_add_one (xi_hi _)⟩
      refine lv_icmp_le (tgt := 63) hx hb dX12_wrongOf_54 (by decide) (fun c39 => ?_) (fun c39 => ?_)
      · have ic39 := (xi_le c39 h_y rfl : y_t ≤ rh38.toInt)
        refine lv_aload_n hx hb dX12_wrongOf_63 rfl (lv_at hl 1 rfl) ?_
        refine lv_iload_n hx hb dX12_wrongOf_64 rfl (lv_at hl 3 rfl) ?_
        refine lv_aload_n hx hb dX12_wrongOf_65 rfl (lv_at hl 1 rfl) ?_
        refine h_get (v := .int v4) hx hb hts iX12 hown g t_a0 (by decide) so_13 rfl 12 (by decide) (hts (.fieldLink RX12 187 "CapLeagueModel" "clock" "I") (by decide +kernel)) rfl dX12_wrongOf_66 (congrArg Value.int (ev4.symm)) ?_
        refine vp_callSi (W.runV (As := [.int c, .int v4]) (rest := []) ⟨hx, hb, hml, hown, hts⟩ (tX12_counts l E X A z I0 L0 a0 t_a0 c (c_t) h_c (by omega) v4 (v4.toInt) rfl (by omega)) (cwV 2 hts gX12_wrongOf_X12_counts rfl rfl rfl (by decide +kernel) ⟨Nat.le_of_ble_eq_true rfl, Nat.le_of_ble_eq_true rfl⟩) ⟨h_blind _ _ _ _ _ _ _, h_recv g t_a0 (by decide) so_13 (q := (RX12, TX12, 51)) rfl, h_pre _ hE hk hX hA hI hR g⟩ rfl rfl hl.1 rfl (lv_room (Nat.le_of_ble_eq_true rfl)) dX12_wrongOf_69 ⟨Nat.le_of_ble_eq_true rfl, Nat.le_of_ble_eq_true rfl⟩) (fun rh40 h40 => ?_)
        have jrh40 : -2147483648 ≤ rh40.toInt ∧ rh40.toInt ≤ 2147483647 := ⟨xi_lo _, Int.le_of_lt_add_one (xi_hi _)⟩
        refine lv_iload hx hb dX12_wrongOf_72 (lv_at hl 5 rfl) ?_
        refine lv_iadd hx hb dX12_wrongOf_74 ?_
        refine lv_topi (fun v41 ev41 => ?_)
        have jv41 : -2147483648 ≤ v41.toInt ∧ v41.toInt ≤ 2147483647 := ⟨xi_lo _, Int.le_of_lt_add_one (xi_hi _)⟩
        refine lv_aload_n hx hb dX12_wrongOf_75 rfl (lv_at hl 1 rfl) ?_
        refine lv_aload_n hx hb dX12_wrongOf_76 rfl (lv_at hl 1 rfl) ?_
        refine h_get (v := .int v4) hx hb hts iX12 hown g t_a0 (by decide) so_13 rfl 12 (by decide) (hts (.fieldLink RX12 187 "CapLeagueModel" "clock" "I") (by decide +kernel)) rfl dX12_wrongOf_77 (congrArg Value.int (ev4.symm)) ?_
        refine lv_iconst (v := 0) hx hb dX12_wrongOf_80 (by decide) ?_
        refine vp_callSi (W.runV (As := [.int v4, .int 0]) (rest := [.int v41]) ⟨hx, hb, hml, hown, hts⟩ (tX12_lawOf l E X A z I0 L0 a0 t_a0 v4 (v4.toInt) rfl (by omega) 0 (0) (by decide) (by omega)) (cwV 2 hts gX12_wrongOf_X12_lawOf rfl rfl rfl (by decide +kernel) ⟨Nat.le_of_ble_eq_true rfl, Nat.le_of_ble_eq_true rfl⟩) ⟨h_blind _ _ _ _ _ _ _, h_recv g t_a0 (by decide) so_13 (q := (RX12, TX12, 51)) rfl, h_pre _ hE hk hX hA hI hR g⟩ rfl rfl hl.1 rfl (lv_room (Nat.le_of_ble_eq_true rfl)) dX12_wrongOf_81 ⟨Nat.le_of_ble_eq_true rfl, Nat.le_of_ble_eq_true rfl⟩) (fun rh42 h42 => ?_)
        have jrh42 : -2147483648 ≤ rh42.toInt ∧ rh42.toInt ≤ 2147483647 := ⟨xi_lo _, Int.le_of_lt_add_one (xi_hi _)⟩
        refine lv_icmp_le (tgt := 91) hx hb dX12_wrongOf_84 (by decide) (fun c43 => ?_) (fun c43 => ?_)
        · have ic43 := (xi_le c43 rfl rfl : v41.toInt ≤ rh42.toInt)
          refine lv_iconst (v := 0) hx hb dX12_wrongOf_91 (by decide) ?_
          refine lv_istore (lv' := [(6, .int 0), (5, .int v37), (0, .ref a0), (1, .int p), (2, .int c), (3, .int y), (4, .int n)]) hx hb dX12_wrongOf_92 hl (by decide) rfl (fun ls hl => ?_)
          refine lv_iload hx hb dX12_wrongOf_94 (lv_at hl 0 rfl) ?_
          refine lv_if_eq (tgt := 129) hx hb dX12_wrongOf_96 (by decide) (fun _ => ?_) (fun h => absurd (by decide) h)
          refine lv_iload hx hb dX12_wrongOf_129 (lv_at hl 1 rfl) ?_
          exact W.iret (v := v37) hx hb hr (fun t ht hW => ⟨v37, rfl, trivial, ht⟩) (fun _ h => by cases h) dX12_wrongOf_131
        · have ic43 := (xi_nle c43 rfl rfl : rh42.toInt < v41.toInt)
          refine lv_iconst (v := 1) hx hb dX12_wrongOf_87 (by decide) ?_
          refine lv_goto (tgt := 92) hx hb dX12_wrongOf_88 (by decide) ?_
          refine lv_istore (lv' := [(6, .int 1), (5, .int v37), (0, .ref a0), (1, .int p), (2, .int c), (3, .int y), (4, .int n)]) hx hb dX12_wrongOf_92 hl (by decide) rfl (fun ls hl => ?_)
          refine lv_iload hx hb dX12_wrongOf_94 (lv_at hl 0 rfl) ?_
          refine lv_if_eq (tgt := 129) hx hb dX12_wrongOf_96 (by decide) (fun h => absurd h (by decide)) (fun _ => ?_)
          refine lv_iload hx hb dX12_wrongOf_99 (lv_at hl 6 rfl) ?_
          refine lv_aload_n hx hb dX12_wrongOf_101 rfl (lv_at hl 2 rfl) ?_
          refine lv_aload_n hx hb dX12_wrongOf_102 rfl (lv_at hl 2 rfl) ?_
          refine h_get (v := .int v4) hx hb hts iX12 hown g t_a0 (by decide) so_13 rfl 12 (by decide) (hts (.fieldLink RX12 187 "CapLeagueModel" "clock" "I") (by decide +kernel)) rfl dX12_wrongOf_103 (congrArg Value.int (ev4.symm)) ?_
          refine lv_iconst (v := 3) hx hb dX12_wrongOf_106 (by decide) ?_
          refine vp_callSi (W.runV (As := [.int v4, .int 3]) (rest := [.int n]) ⟨hx, hb, hml, hown, hts⟩ (tX12_lawOf l E X A z I0 L0 a0 t_a0 v4 (v4.toInt) rfl (by omega) 3 (3) (by decide) (by omega)) (cwV 2 hts gX12_wrongOf_X12_lawOf rfl rfl rfl (by decide +kernel) ⟨Nat.le_of_ble_eq_true rfl, Nat.le_of_ble_eq_true rfl⟩) ⟨h_blind _ _ _ _ _ _ _, h_recv g t_a0 (by decide) so_13 (q := (RX12, TX12, 51)) rfl, h_pre _ hE hk hX hA hI hR g⟩ rfl rfl hl.1 rfl (lv_room (Nat.le_of_ble_eq_true rfl)) dX12_wrongOf_107 ⟨Nat.le_of_ble_eq_true rfl, Nat.le_of_ble_eq_true rfl⟩) (fun rh46 h46 => ?_)
          have jrh46 : -2147483648 ≤ rh46.toInt ∧ rh46.toInt ≤ 2147483647 := ⟨xi_lo _, Int.le_of_lt_add_one (xi_hi _)⟩
          refine lv_icmp_gt (tgt := 122) hx hb dX12_wrongOf_110 (by decide) (fun c47 => ?_) (fun c47 => ?_)
          · have ic47 := (xi_lt c47 rfl h_n : rh46.toInt < n_t)
            refine lv_iload hx hb dX12_wrongOf_122 (lv_at hl 1 rfl) ?_
            refine lv_bipush (v := 8) hx hb dX12_wrongOf_124 (by decide) ?_
            refine lv_ior hx hb dX12_wrongOf_126 ?_
            refine lv_topi (fun v48 ev48 => ?_)
            have jv48 : -2147483648 ≤ v48.toInt ∧ v48.toInt ≤ 2147483647 := ⟨xi_lo _, Int.le_of_lt_add_one (xi_hi _)⟩
            refine lv_istore (lv' := [(5, .int v48), (6, .int 1), (0, .ref a0), (1, .int p), (2, .int c), (3, .int y), (4, .int n)]) hx hb dX12_wrongOf_127 hl (by decide) rfl (fun ls hl => ?_)
            refine lv_iload hx hb dX12_wrongOf_129 (lv_at hl 0 rfl) ?_
            exact W.iret (v := v48) hx hb hr (fun t ht hW => ⟨v48, rfl, trivial, ht⟩) (fun _ h => by cases h) dX12_wrongOf_131
          · have ic47 := (xi_nlt c47 rfl h_n : n_t ≤ rh46.toInt)
            refine lv_aload_n hx hb dX12_wrongOf_113 rfl (lv_at hl 2 rfl) ?_
            obtain ⟨b49, rb49, tb49⟩ := hR.at a0 24 t_a0 (rfl : h_rs 13 24 = some (1324, false)) (by decide)
            refine h_get (v := .ref b49) hx hb hts iX12 hown g t_a0 (by decide) so_13 rfl 24 (by decide) (hts (.fieldLink RX12 55 "CapLeagueModel" "usedSpare" "[Z") (by decide +kernel)) rfl dX12_wrongOf_114 (by show va_rf (z.R a0 24) = _; rw [rb49]; rfl) ?_
            refine lv_iload_n hx hb dX12_wrongOf_117 rfl (lv_at hl 4 rfl) ?_
            refine h_zald hx hb g tb49 (by decide) so_1324 (xi_in (by rw [h_c]; omega) (by rw [h_c]; omega)) dX12_wrongOf_118 ?_
            refine lv_topi (fun v50 ev50 => ?_)
            have jv50 := hI.rd b49 c.toNatClampNeg tb49 ev50 (rfl : h_bd 1324 _ = (0, 1))
            refine lv_if_eq (tgt := 129) hx hb dX12_wrongOf_119 (by decide) (fun c51 => ?_) (fun c51 => ?_)
            · have ic51 := (xi_eq c51 rfl (by decide) : v50.toInt = 0)
              refine lv_iload hx hb dX12_wrongOf_129 (lv_at hl 1 rfl) ?_
              exact W.iret (v := v37) hx hb hr (fun t ht hW => ⟨v37, rfl, trivial, ht⟩) (fun _ h => by cases h) dX12_wrongOf_131
            · have ic51 := (xi_ne c51 rfl (by decide) : v50.toInt ≠ 0)
              refine lv_iload hx hb dX12_wrongOf_122 (lv_at hl 1 rfl) ?_
              refine lv_bipush (v := 8) hx hb dX12_wrongOf_124 (by decide) ?_
              refine lv_ior hx hb dX12_wrongOf_126 ?_
              refine lv_topi (fun v52 ev52 => ?_)
              have jv52 : -2147483648 ≤ v52.toInt ∧ v52.toInt ≤ 2147483647 := ⟨xi_lo _, Int.le_of_lt_add_one (xi_hi _)⟩
              refine lv_istore (lv' := [(5, .int v52), (6, .int 1), (0, .ref a0), (1, .int p), (2, .int c), (3, .int y), (4, .int n)]) hx hb dX12_wrongOf_127 hl (by decide) rfl (fun ls hl => ?_)
              refine lv_iload hx hb dX12_wrongOf_129 (lv_at hl 0 rfl) ?_
              exact W.iret (v := v52) hx hb hr (fun t ht hW => ⟨v52, rfl, trivial, ht⟩) (fun _ h => by cases h) dX12_wrongOf_131
      · have ic39 := (xi_nle c39 h_y rfl : rh38.toInt < y_t)
        refine lv_iload hx hb dX12_wrongOf_57 (lv_at hl 0 rfl) ?_
        refine lv_iconst (v := 4) hx hb dX12_wrongOf_59 (by decide) ?_
        refine lv_ior hx hb dX12_wrongOf_60 ?_
        refine lv_topi (fun v53 ev53 => ?_)
        have jv53 : -2147483648 ≤ v53.toInt ∧ v53.toInt ≤ 2147483647 := ⟨xi_lo _, Int.le_of_lt_add_one (xi_hi _)⟩
        refine lv_istore (lv' := [(5, .int v53), (0, .ref a0), (1, .int p), (2, .int c), (3, .int y), (4, .int n)]) hx hb dX12_wrongOf_61 hl (by decide) rfl (fun ls hl => ?_)
        refine lv_aload_n hx hb dX12_wrongOf_63 rfl (lv_at hl 1 rfl) ?_
        refine lv_iload_n hx hb dX12_wrongOf_64 rfl (lv_at hl 3 rfl) ?_
        refine lv_aload_n hx hb dX12_wrongOf_65 rfl (lv_at hl 1 rfl) ?_
        refine h_get (v := .int v4) hx hb hts iX12 hown g t_a0 (by decide) so_13 rfl 12 (by decide) (hts (.fieldLink RX12 187 "CapLeagueModel" "clock" "I") (by decide +kernel)) rfl dX12_wrongOf_66 (congrArg Value.int (ev4.symm)) ?_
        refine vp_callSi (W.runV (As := [.int c, .int v4]) (rest := []) ⟨hx, hb, hml, hown, hts⟩ (tX12_counts l E X A z I0 L0 a0 t_a0 c (c_t) h_c (by omega) v4 (v4.toInt) rfl (by omega)) (cwV 2 hts gX12_wrongOf_X12_counts rfl rfl rfl (by decide +kernel) ⟨Nat.le_of_ble_eq_true rfl, Nat.le_of_ble_eq_true rfl⟩) ⟨h_blind _ _ _ _ _ _ _, h_recv g t_a0 (by decide) so_13 (q := (RX12, TX12, 51)) rfl, h_pre _ hE hk hX hA hI hR g⟩ rfl rfl hl.1 rfl (lv_room (Nat.le_of_ble_eq_true rfl)) dX12_wrongOf_69 ⟨Nat.le_of_ble_eq_true rfl, Nat.le_of_ble_eq_true rfl⟩) (fun rh54 h54 => ?_)
        have jrh54 : -2147483648 ≤ rh54.toInt ∧ rh54.toInt ≤ 2147483647 := ⟨xi_lo _, Int.le_of_lt_add_one (xi_hi _)⟩
        refine lv_iload hx hb dX12_wrongOf_72 (lv_at hl 5 rfl) ?_
        refine lv_iadd hx hb dX12_wrongOf_74 ?_
        refine lv_topi (fun v55 ev55 => ?_)
        have jv55 : -2147483648 ≤ v55.toInt ∧ v55.toInt ≤ 2147483647 := ⟨xi_lo _, Int.le_of_lt_add_one (xi_hi _)⟩
        refine lv_aload_n hx hb dX12_wrongOf_75 rfl (lv_at hl 1 rfl) ?_
        refine lv_aload_n hx hb dX12_wrongOf_76 rfl (lv_at hl 1 rfl) ?_
        refine h_get (v := .int v4) hx hb hts iX12 hown g t_a0 (by decide) so_13 rfl 12 (by decide) (hts (.fieldLink RX12 187 "CapLeagueModel" "clock" "I") (by decide +kernel)) rfl dX12_wrongOf_77 (congrArg Value.int (ev4.symm)) ?_
        refine lv_iconst (v := 0) hx hb dX12_wrongOf_80 (by decide) ?_
        refine vp_callSi (W.runV (As := [.int v4, .int 0]) (rest := [.int v55]) ⟨hx, hb, hml, hown, hts⟩ (tX12_lawOf l E X A z I0 L0 a0 t_a0 v4 (v4.toInt) rfl (by omega) 0 (0) (by decide) (by omega)) (cwV 2 hts gX12_wrongOf_X12_lawOf rfl rfl rfl (by decide +kernel) ⟨Nat.le_of_ble_eq_true rfl, Nat.le_of_ble_eq_true rfl⟩) ⟨h_blind _ _ _ _ _ _ _, h_recv g t_a0 (by decide) so_13 (q := (RX12, TX12, 51)) rfl, h_pre _ hE hk hX hA hI hR g⟩ rfl rfl hl.1 rfl (lv_room (Nat.le_of_ble_eq_true rfl)) dX12_wrongOf_81 ⟨Nat.le_of_ble_eq_true rfl, Nat.le_of_ble_eq_true rfl⟩) (fun rh56 h56 => ?_)
        have jrh56 : -2147483648 ≤ rh56.toInt ∧ rh56.toInt ≤ 2147483647 := ⟨xi_lo _, Int.le_of_lt_add_one (xi_hi _)⟩
        refine lv_icmp_le (tgt := 91) hx hb dX12_wrongOf_84 (by decide) (fun c57 => ?_) (fun c57 => ?_)
        · have ic57 := (xi_le c57 rfl rfl : v55.toInt ≤ rh56.toInt)
          refine lv_iconst (v := 0) hx hb dX12_wrongOf_91 (by decide) ?_
          refine lv_istore (lv' := [(6, .int 0), (5, .int v53), (0, .ref a0), (1, .int p), (2, .int c), (3, .int y), (4, .int n)]) hx hb dX12_wrongOf_92 hl (by decide) rfl (fun ls hl => ?_)
          refine lv_iload hx hb dX12_wrongOf_94 (lv_at hl 0 rfl) ?_
          refine lv_if_eq (tgt := 129) hx hb dX12_wrongOf_96 (by decide) (fun _ => ?_) (fun h => absurd (by decide) h)
          refine lv_iload hx hb dX12_wrongOf_129 (lv_at hl 1 rfl) ?_
          exact W.iret (v := v53) hx hb hr (fun t ht hW => ⟨v53, rfl, trivial, ht⟩) (fun _ h => by cases h) dX12_wrongOf_131
        · have ic57 := (xi_nle c57 rfl rfl : rh56.toInt < v55.toInt)
          refine lv_iconst (v := 1) hx hb dX12_wrongOf_87 (by decide) ?_
          refine lv_goto (tgt := 92) hx hb dX12_wrongOf_88 (by decide) ?_
          refine lv_istore (lv' := [(6, .int 1), (5, .int v53), (0, .ref a0), (1, .int p), (2, .int c), (3, .int y), (4, .int n)]) hx hb dX12_wrongOf_92 hl (by decide) rfl (fun ls hl => ?_)
          refine lv_iload hx hb dX12_wrongOf_94 (lv_at hl 0 rfl) ?_
          refine lv_if_eq (tgt := 129) hx hb dX12_wrongOf_96 (by decide) (fun h => absurd h (by decide)) (fun _ => ?_)
          refine lv_iload hx hb dX12_wrongOf_99 (lv_at hl 6 rfl) ?_
          refine lv_aload_n hx hb dX12_wrongOf_101 rfl (lv_at hl 2 rfl) ?_
          refine lv_aload_n hx hb dX12_wrongOf_102 rfl (lv_at hl 2 rfl) ?_
          refine h_get (v := .int v4) hx hb hts iX12 hown g t_a0 (by decide) so_13 rfl 12 (by decide) (hts (.fieldLink RX12 187 "CapLeagueModel" "clock" "I") (by decide +kernel)) rfl dX12_wrongOf_103 (congrArg Value.int (ev4.symm)) ?_
          refine lv_iconst (v := 3) hx hb dX12_wrongOf_106 (by decide) ?_
          refine vp_callSi (W.runV (As := [.int v4, .int 3]) (rest := [.int n]) ⟨hx, hb, hml, hown, hts⟩ (tX12_lawOf l E X A z I0 L0 a0 t_a0 v4 (v4.toInt) rfl (by omega) 3 (3) (by decide) (by omega)) (cwV 2 hts gX12_wrongOf_X12_lawOf rfl rfl rfl (by decide +kernel) ⟨Nat.le_of_ble_eq_true rfl, Nat.le_of_ble_eq_true rfl⟩) ⟨h_blind _ _ _ _ _ _ _, h_recv g t_a0 (by decide) so_13 (q := (RX12, TX12, 51)) rfl, h_pre _ hE hk hX hA hI hR g⟩ rfl rfl hl.1 rfl (lv_room (Nat.le_of_ble_eq_true rfl)) dX12_wrongOf_107 ⟨Nat.le_of_ble_eq_true rfl, Nat.le_of_ble_eq_true rfl⟩) (fun rh60 h60 => ?_)
          have jrh60 : -2147483648 ≤ rh60.toInt ∧ rh60.toInt ≤ 2147483647 := ⟨xi_lo _, Int.le_of_lt_add_one (xi_hi _)⟩
          refine lv_icmp_gt (tgt := 122) hx hb dX12_wrongOf_110 (by decide) (fun c61 => ?_) (fun c61 => ?_)
          · have ic61 := (xi_lt c61 rfl h_n : rh60.toInt < n_t)
            refine lv_iload hx hb dX12_wrongOf_122 (lv_at hl 1 rfl) ?_
            refine lv_bipush (v := 8) hx hb dX12_wrongOf_124 (by decide) ?_
            refine lv_ior hx hb dX12_wrongOf_126 ?_
            refine lv_topi (fun v62 ev62 => ?_)
            have jv62 : -2147483648 ≤ v62.toInt ∧ v62.toInt ≤ 2147483647 := ⟨xi_lo _, Int.le_of_lt_add_one (xi_hi _)⟩
            refine lv_istore (lv' := [(5, .int v62), (6, .int 1), (0, .ref a0), (1, .int p), (2, .int c), (3, .int y), (4, .int n)]) hx hb dX12_wrongOf_127 hl (by decide) rfl (fun ls hl => ?_)
            refine lv_iload hx hb dX12_wrongOf_129 (lv_at hl 0 rfl) ?_
            exact W.iret (v := v62) hx hb hr (fun t ht hW => ⟨v62, rfl, trivial, ht⟩) (fun _ h => by cases h) dX12_wrongOf_131
          · have ic61 := (xi_nlt c61 rfl h_n : n_t ≤ rh60.toInt)
            refine lv_aload_n hx hb dX12_wrongOf_113 rfl (lv_at hl 2 rfl) ?_
            obtain ⟨b63, rb63, tb63⟩ := hR.at a0 24 t_a0 (rfl : h_rs 13 24 = some (1324, false)) (by decide)
            refine h_get (v := .ref b63) hx hb hts iX12 hown g t_a0 (by decide) so_13 rfl 24 (by decide) (hts (.fieldLink RX12 55 "CapLeagueModel" "usedSpare" "[Z") (by decide +kernel)) rfl dX12_wrongOf_114 (by show va_rf (z.R a0 24) = _; rw [rb63]; rfl) ?_
            refine lv_iload_n hx hb dX12_wrongOf_117 rfl (lv_at hl 4 rfl) ?_
            refine h_zald hx hb g tb63 (by decide) so_1324 (xi_in (by rw [h_c]; omega) (by rw [h_c]; omega)) dX12_wrongOf_118 ?_
            refine lv_topi (fun v64 ev64 => ?_)
            have jv64 := hI.rd b63 c.toNatClampNeg tb63 ev64 (rfl : h_bd 1324 _ = (0, 1))
            refine lv_if_eq (tgt := 129) hx hb dX12_wrongOf_119 (by decide) (fun c65 => ?_) (fun c65 => ?_)
            · have ic65 := (xi_eq c65 rfl (by decide) : v64.toInt = 0)
              refine lv_iload hx hb dX12_wrongOf_129 (lv_at hl 1 rfl) ?_
              exact W.iret (v := v53) hx hb hr (fun t ht hW => ⟨v53, rfl, trivial, ht⟩) (fun _ h => by cases h) dX12_wrongOf_131
            · have ic65 := (xi_ne c65 rfl (by decide) : v64.toInt ≠ 0)
              refine lv_iload hx hb dX12_wrongOf_122 (lv_at hl 1 rfl) ?_
              refine lv_bipush (v := 8) hx hb dX12_wrongOf_124 (by decide) ?_
              refine lv_ior hx hb dX12_wrongOf_126 ?_
              refine lv_topi (fun v66 ev66 => ?_)
              have jv66 : -2147483648 ≤ v66.toInt ∧ v66.toInt ≤ 2147483647 := ⟨xi_lo _, Int.le_of_lt_add_one (xi_hi _)⟩
              refine lv_istore (lv' := [(5, .int v66), (6, .int 1), (0, .ref a0), (1, .int p), (2, .int c), (3, .int y), (4, .int n)]) hx hb dX12_wrongOf_127 hl (by decide) rfl (fun ls hl => ?_)
              refine lv_iload hx hb dX12_wrongOf_129 (lv_at hl 0 rfl) ?_
              exact W.iret (v := v66) hx hb hr (fun t ht hW => ⟨v66, rfl, trivial, ht⟩) (fun _ h => by cases h) dX12_wrongOf_131
  · have ic3 := (xi_ne c3 rfl (by decide) : v2.toInt ≠ (-1))
    refine lv_iconst (v := 1) hx hb dX12_wrongOf_10 (by decide) ?_
    refine lv_goto (tgt := 15) hx hb dX12_wrongOf_11 (by decide) ?_
    refine lv_istore (lv' := [(5, .int 1), (0, .ref a0), (1, .int p), (2, .int c), (3, .int y), (4, .int n)]) hx hb dX12_wrongOf_15 hl (by decide) rfl (fun ls hl => ?_)
    refine lv_aload_n hx hb dX12_wrongOf_17 rfl (lv_at hl 1 rfl) ?_
    refine lv_iload_n hx hb dX12_wrongOf_18 rfl (lv_at hl 3 rfl) ?_
    refine lv_aload_n hx hb dX12_wrongOf_19 rfl (lv_at hl 1 rfl) ?_
    refine h_get (v := .int (I0 a0 12)) hx hb hts iX12 hown g t_a0 (by decide) so_13 rfl 12 (by decide) (hts (.fieldLink RX12 187 "CapLeagueModel" "clock" "I") (by decide +kernel)) rfl dX12_wrongOf_20 rfl ?_
    refine lv_topi (fun v67 ev67 => ?_)
    have jv67 := hI.rd a0 12 t_a0 ev67 (rfl : h_bd 13 12 = (0, 9))
    refine vp_callSi (W.runV (As := [.int c, .int v67]) (rest := []) ⟨hx, hb, hml, hown, hts⟩ (tX12_manyOf l E X A z I0 L0 a0 t_a0 c (c_t) h_c v67 (v67.toInt) rfl) (cwV 2 hts gX12_wrongOf_X12_manyOf rfl rfl rfl (by decide +kernel) ⟨Nat.le_of_ble_eq_true rfl, Nat.le_of_ble_eq_true rfl⟩) ⟨h_blind _ _ _ _ _ _ _, h_recv g t_a0 (by decide) so_13 (q := (RX12, TX12, 51)) rfl, h_pre _ hE hk hX hA hI hR g⟩ rfl rfl hl.1 rfl (lv_room (Nat.le_of_ble_eq_true rfl)) dX12_wrongOf_23 ⟨Nat.le_of_ble_eq_true rfl, Nat.le_of_ble_eq_true rfl⟩) (fun rh68 h68 => ?_)
    have jrh68 : -2147483648 ≤ rh68.toInt ∧ rh68.toInt ≤ 2147483647 := ⟨xi_lo _, Int.le_of_lt_add_one (xi_hi _)⟩
    refine lv_aload_n hx hb dX12_wrongOf_26 rfl (lv_at hl 1 rfl) ?_
    refine lv_aload_n hx hb dX12_wrongOf_27 rfl (lv_at hl 1 rfl) ?_
    refine h_get (v := .int v67) hx hb hts iX12 hown g t_a0 (by decide) so_13 rfl 12 (by decide) (hts (.fieldLink RX12 187 "CapLeagueModel" "clock" "I") (by decide +kernel)) rfl dX12_wrongOf_28 (congrArg Value.int (ev67.symm)) ?_
    refine lv_iconst (v := 1) hx hb dX12_wrongOf_31 (by decide) ?_
    refine vp_callSi (W.runV (As := [.int v67, .int 1]) (rest := [.int rh68]) ⟨hx, hb, hml, hown, hts⟩ (tX12_lawOf l E X A z I0 L0 a0 t_a0 v67 (v67.toInt) rfl (by omega) 1 (1) (by decide) (by omega)) (cwV 2 hts gX12_wrongOf_X12_lawOf rfl rfl rfl (by decide +kernel) ⟨Nat.le_of_ble_eq_true rfl, Nat.le_of_ble_eq_true rfl⟩) ⟨h_blind _ _ _ _ _ _ _, h_recv g t_a0 (by decide) so_13 (q := (RX12, TX12, 51)) rfl, h_pre _ hE hk hX hA hI hR g⟩ rfl rfl hl.1 rfl (lv_room (Nat.le_of_ble_eq_true rfl)) dX12_wrongOf_32 ⟨Nat.le_of_ble_eq_true rfl, Nat.le_of_ble_eq_true rfl⟩) (fun rh69 h69 => ?_)
    have jrh69 : -2147483648 ≤ rh69.toInt ∧ rh69.toInt ≤ 2147483647 := ⟨xi_lo _, Int.le_of_lt_add_one (xi_hi _)⟩
    refine lv_icmp_lt (tgt := 44) hx hb dX12_wrongOf_35 (by decide) (fun c70 => ?_) (fun c70 => ?_)
    · have ic70 := (xi_lt c70 rfl rfl : rh68.toInt < rh69.toInt)
      refine lv_iload_n hx hb dX12_wrongOf_44 rfl (lv_at hl 4 rfl) ?_
      refine lv_aload_n hx hb dX12_wrongOf_45 rfl (lv_at hl 1 rfl) ?_
      refine lv_aload_n hx hb dX12_wrongOf_46 rfl (lv_at hl 1 rfl) ?_
      refine h_get (v := .int v67) hx hb hts iX12 hown g t_a0 (by decide) so_13 rfl 12 (by decide) (hts (.fieldLink RX12 187 "CapLeagueModel" "clock" "I") (by decide +kernel)) rfl dX12_wrongOf_47 (congrArg Value.int (ev67.symm)) ?_
      refine lv_iconst (v := 2) hx hb dX12_wrongOf_50 (by decide) ?_
      refine vp_callSi (W.runV (As := [.int v67, .int 2]) (rest := [.int y]) ⟨hx, hb, hml, hown, hts⟩ (tX12_lawOf l E X A z I0 L0 a0 t_a0 v67 (v67.toInt) rfl (by omega) 2 (2) (by decide) (by omega)) (cwV 2 hts gX12_wrongOf_X12_lawOf rfl rfl rfl (by decide +kernel) ⟨Nat.le_of_ble_eq_true rfl, Nat.le_of_ble_eq_true rfl⟩) ⟨h_blind _ _ _ _ _ _ _, h_recv g t_a0 (by decide) so_13 (q := (RX12, TX12, 51)) rfl, h_pre _ hE hk hX hA hI hR g⟩ rfl rfl hl.1 rfl (lv_room (Nat.le_of_ble_eq_true rfl)) dX12_wrongOf_51 ⟨Nat.le_of_ble_eq_true rfl, Nat.le_of_ble_eq_true rfl⟩) (fun rh71 h71 => ?_)
      have jrh71 : -2147483648 ≤ rh71.toInt ∧ rh71.toInt ≤ 2147483647 := ⟨xi_lo _, Int.le_of_lt_add_one (xi_hi _)⟩
      refine lv_icmp_le (tgt := 63) hx hb dX12_wrongOf_54 (by decide) (fun c72 => ?_) (fun c72 => ?_)
      · have ic72 := (xi_le c72 h_y rfl : y_t ≤ rh71.toInt)
        refine lv_aload_n hx hb dX12_wrongOf_63 rfl (lv_at hl 1 rfl) ?_
        refine lv_iload_n hx hb dX12_wrongOf_64 rfl (lv_at hl 3 rfl) ?_
        refine lv_aload_n hx hb dX12_wrongOf_65 rfl (lv_at hl 1 rfl) ?_
        refine h_get (v := .int v67) hx hb hts iX12 hown g t_a0 (by decide) so_13 rfl 12 (by decide) (hts (.fieldLink RX12 187 "CapLeagueModel" "clock" "I") (by decide +kernel)) rfl dX12_wrongOf_66 (congrArg Value.int (ev67.symm)) ?_
        refine vp_callSi (W.runV (As := [.int c, .int v67]) (rest := []) ⟨hx, hb, hml, hown, hts⟩ (tX12_counts l E X A z I0 L0 a0 t_a0 c (c_t) h_c (by omega) v67 (v67.toInt) rfl (by omega)) (cwV 2 hts gX12_wrongOf_X12_counts rfl rfl rfl (by decide +kernel) ⟨Nat.le_of_ble_eq_true rfl, Nat.le_of_ble_eq_true rfl⟩) ⟨h_blind _ _ _ _ _ _ _, h_recv g t_a0 (by decide) so_13 (q := (RX12, TX12, 51)) rfl, h_pre _ hE hk hX hA hI hR g⟩ rfl rfl hl.1 rfl (lv_room (Nat.le_of_ble_eq_true rfl)) dX12_wrongOf_69 ⟨Nat.le_of_ble_eq_true rfl, Nat.le_of_ble_eq_true rfl⟩) (fun rh73 h73 => ?_)
        have jrh73 : -2147483648 ≤ rh73.toInt ∧ rh73.toInt ≤ 2147483647 := ⟨xi_lo _, Int.le_of_lt_add_one (xi_hi _)⟩
        refine lv_iload hx hb dX12_wrongOf_72 (lv_at hl 5 rfl) ?_
        refine lv_iadd hx hb dX12_wrongOf_74 ?_
        refine lv_topi (fun v74 ev74 => ?_)
        have jv74 : -2147483648 ≤ v74.toInt ∧ v74.toInt ≤ 2147483647 := ⟨xi_lo _, Int.le_of_lt_add_one (xi_hi _)⟩
        refine lv_aload_n hx hb dX12_wrongOf_75 rfl (lv_at hl 1 rfl) ?_
        refine lv_aload_n hx hb dX12_wrongOf_76 rfl (lv_at hl 1 rfl) ?_
        refine h_get (v := .int v67) hx hb hts iX12 hown g t_a0 (by decide) so_13 rfl 12 (by decide) (hts (.fieldLink RX12 187 "CapLeagueModel" "clock" "I") (by decide +kernel)) rfl dX12_wrongOf_77 (congrArg Value.int (ev67.symm)) ?_
        refine lv_iconst (v := 0) hx hb dX12_wrongOf_80 (by decide) ?_
        refine vp_callSi (W.runV (As := [.int v67, .int 0]) (rest := [.int v74]) ⟨hx, hb, hml, hown, hts⟩ (tX12_lawOf l E X A z I0 L0 a0 t_a0 v67 (v67.toInt) rfl (by omega) 0 (0) (by decide) (by omega)) (cwV 2 hts gX12_wrongOf_X12_lawOf rfl rfl rfl (by decide +kernel) ⟨Nat.le_of_ble_eq_true rfl, Nat.le_of_ble_eq_true rfl⟩) ⟨h_blind _ _ _ _ _ _ _, h_recv g t_a0 (by decide) so_13 (q := (RX12, TX12, 51)) rfl, h_pre _ hE hk hX hA hI hR g⟩ rfl rfl hl.1 rfl (lv_room (Nat.le_of_ble_eq_true rfl)) dX12_wrongOf_81 ⟨Nat.le_of_ble_eq_true rfl, Nat.le_of_ble_eq_true rfl⟩) (fun rh75 h75 => ?_)
        have jrh75 : -2147483648 ≤ rh75.toInt ∧ rh75.toInt ≤ 2147483647 := ⟨xi_lo _, Int.le_of_lt_add_one (xi_hi _)⟩
        refine lv_icmp_le (tgt := 91) hx hb dX12_wrongOf_84 (by decide) (fun c76 => ?_) (fun c76 => ?_)
        · have ic76 := (xi_le c76 rfl rfl : v74.toInt ≤ rh75.toInt)
          refine lv_iconst (v := 0) hx hb dX12_wrongOf_91 (by decide) ?_
          refine lv_istore (lv' := [(6, .int 0), (5, .int 1), (0, .ref a0), (1, .int p), (2, .int c), (3, .int y), (4, .int n)]) hx hb dX12_wrongOf_92 hl (by decide) rfl (fun ls hl => ?_)
          refine lv_iload hx hb dX12_wrongOf_94 (lv_at hl 0 rfl) ?_
          refine lv_if_eq (tgt := 129) hx hb dX12_wrongOf_96 (by decide) (fun _ => ?_) (fun h => absurd (by decide) h)
          refine lv_iload hx hb dX12_wrongOf_129 (lv_at hl 1 rfl) ?_
          exact W.iret (v := 1) hx hb hr (fun t ht hW => ⟨1, rfl, trivial, ht⟩) (fun _ h => by cases h) dX12_wrongOf_131
        · have ic76 := (xi_nle c76 rfl rfl : rh75.toInt < v74.toInt)
          refine lv_iconst (v := 1) hx hb dX12_wrongOf_87 (by decide) ?_
          refine lv_goto (tgt := 92) hx hb dX12_wrongOf_88 (by decide) ?_
          refine lv_istore (lv' := [(6, .int 1), (5, .int 1), (0, .ref a0), (1, .int p), (2, .int c), (3, .int y), (4, .int n)]) hx hb dX12_wrongOf_92 hl (by decide) rfl (fun ls hl => ?_)
          refine lv_iload hx hb dX12_wrongOf_94 (lv_at hl 0 rfl) ?_
          refine lv_if_eq (tgt := 129) hx hb dX12_wrongOf_96 (by decide) (fun h => absurd h (by decide)) (fun _ => ?_)
          refine lv_iload hx hb dX12_wrongOf_99 (lv_at hl 6 rfl) ?_
          refine lv_aload_n hx hb dX12_wrongOf_101 rfl (lv_at hl 2 rfl) ?_
          refine lv_aload_n hx hb dX12_wrongOf_102 rfl (lv_at hl 2 rfl) ?_
          refine h_get (v := .int v67) hx hb hts iX12 hown g t_a0 (by decide) so_13 rfl 12 (by decide) (hts (.fieldLink RX12 187 "CapLeagueModel" "clock" "I") (by decide +kernel)) rfl dX12_wrongOf_103 (congrArg Value.int (ev67.symm)) ?_
          refine lv_iconst (v := 3) hx hb dX12_wrongOf_106 (by decide) ?_
          refine vp_callSi (W.runV (As := [.int v67, .int 3]) (rest := [.int n]) ⟨hx, hb, hml, hown, hts⟩ (tX12_lawOf l E X A z I0 L0 a0 t_a0 v67 (v67.toInt) rfl (by omega) 3 (3) (by decide) (by omega)) (cwV 2 hts gX12_wrongOf_X12_lawOf rfl rfl rfl (by decide +kernel) ⟨Nat.le_of_ble_eq_true rfl, Nat.le_of_ble_eq_true rfl⟩) ⟨h_blind _ _ _ _ _ _ _, h_recv g t_a0 (by decide) so_13 (q := (RX12, TX12, 51)) rfl, h_pre _ hE hk hX hA hI hR g⟩ rfl rfl hl.1 rfl (lv_room (Nat.le_of_ble_eq_true rfl)) dX12_wrongOf_107 ⟨Nat.le_of_ble_eq_true rfl, Nat.le_of_ble_eq_true rfl⟩) (fun rh79 h79 => ?_)
          have jrh79 : -2147483648 ≤ rh79.toInt ∧ rh79.toInt ≤ 2147483647 := ⟨xi_lo _, Int.le_of_lt_add_one (xi_hi _)⟩
          refine lv_icmp_gt (tgt := 122) hx hb dX12_wrongOf_110 (by decide) (fun c80 => ?_) (fun c80 => ?_)
          · have ic80 := (xi_lt c80 rfl h_n : rh79.toInt < n_t)
            refine lv_iload hx hb dX12_wrongOf_122 (lv_at hl 1 rfl) ?_
            refine lv_bipush (v := 8) hx hb dX12_wrongOf_124 (by decide) ?_
            refine lv_ior hx hb dX12_wrongOf_126 ?_
            refine lv_topi (fun v81 ev81 => ?_)
            have jv81 : -2147483648 ≤ v81.toInt ∧ v81.toInt ≤ 2147483647 := ⟨xi_lo _, Int.le_of_lt_add_one (xi_hi _)⟩
            refine lv_istore (lv' := [(5, .int v81), (6, .int 1), (0, .ref a0), (1, .int p), (2, .int c), (3, .int y), (4, .int n)]) hx hb dX12_wrongOf_127 hl (by decide) rfl (fun ls hl => ?_)
            refine lv_iload hx hb dX12_wrongOf_129 (lv_at hl 0 rfl) ?_
            exact W.iret (v := v81) hx hb hr (fun t ht hW => ⟨v81, rfl, trivial, ht⟩) (fun _ h => by cases h) dX12_wrongOf_131
          · have ic80 := (xi_nlt c80 rfl h_n : n_t ≤ rh79.toInt)
            refine lv_aload_n hx hb dX12_wrongOf_113 rfl (lv_at hl 2 rfl) ?_
            obtain ⟨b82, rb82, tb82⟩ := hR.at a0 24 t_a0 (rfl : h_rs 13 24 = some (1324, false)) (by decide)
            refine h_get (v := .ref b82) hx hb hts iX12 hown g t_a0 (by decide) so_13 rfl 24 (by decide) (hts (.fieldLink RX12 55 "CapLeagueModel" "usedSpare" "[Z") (by decide +kernel)) rfl dX12_wrongOf_114 (by show va_rf (z.R a0 24) = _; rw [rb82]; rfl) ?_
            refine lv_iload_n hx hb dX12_wrongOf_117 rfl (lv_at hl 4 rfl) ?_
            refine h_zald hx hb g tb82 (by decide) so_1324 (xi_in (by rw [h_c]; omega) (by rw [h_c]; omega)) dX12_wrongOf_118 ?_
            refine lv_topi (fun v83 ev83 => ?_)
            have jv83 := hI.rd b82 c.toNatClampNeg tb82 ev83 (rfl : h_bd 1324 _ = (0, 1))
            refine lv_if_eq (tgt := 129) hx hb dX12_wrongOf_119 (by decide) (fun c84 => ?_) (fun c84 => ?_)
            · have ic84 := (xi_eq c84 rfl (by decide) : v83.toInt = 0)
              refine lv_iload hx hb dX12_wrongOf_129 (lv_at hl 1 rfl) ?_
              exact W.iret (v := 1) hx hb hr (fun t ht hW => ⟨1, rfl, trivial, ht⟩) (fun _ h => by cases h) dX12_wrongOf_131
            · have ic84 := (xi_ne c84 rfl (by decide) : v83.toInt ≠ 0)
              refine lv_iload hx hb dX12_wrongOf_122 (lv_at hl 1 rfl) ?_
              refine lv_bipush (v := 8) hx hb dX12_wrongOf_124 (by decide) ?_
              refine lv_ior hx hb dX12_wrongOf_126 ?_
              refine lv_topi (fun v85 ev85 => ?_)
              have jv85 : -2147483648 ≤ v85.toInt ∧ v85.toInt ≤ 2147483647 := ⟨xi_lo _, Int.le_of_lt_add_one (xi_hi _)⟩
              refine lv_istore (lv' := [(5, .int v85), (6, .int 1), (0, .ref a0), (1, .int p), (2, .int c), (3, .int y), (4, .int n)]) hx hb dX12_wrongOf_127 hl (by decide) rfl (fun ls hl => ?_)
              refine lv_iload hx hb dX12_wrongOf_129 (lv_at hl 0 rfl) ?_
              exact W.iret (v := v85) hx hb hr (fun t ht hW => ⟨v85, rfl, trivial, ht⟩) (fun _ h => by cases h) dX12_wrongOf_131
      · have ic72 := (xi_nle c72 h_y rfl : rh71.toInt < y_t)
        refine lv_iload hx hb dX12_wrongOf_57 (lv_at hl 0 rfl) ?_
        refine lv_iconst (v := 4) hx hb dX12_wrongOf_59 (by decide) ?_
        refine lv_ior hx hb dX12_wrongOf_60 ?_
        refine lv_topi (fun v86 ev86 => ?_)
        have jv86 : -2147483648 ≤ v86.toInt ∧ v86.toInt ≤ 2147483647 := ⟨xi_lo _, Int.le_of_lt_add_one (xi_hi _)⟩
        refine lv_istore (lv' := [(5, .int v86), (0, .ref a0), (1, .int p), (2, .int c), (3, .int y), (4, .int n)]) hx hb dX12_wrongOf_61 hl (by decide) rfl (fun ls hl => ?_)
        refine lv_aload_n hx hb dX12_wrongOf_63 rfl (lv_at hl 1 rfl) ?_
        refine lv_iload_n hx hb dX12_wrongOf_64 rfl (lv_at hl 3 rfl) ?_
        refine lv_aload_n hx hb dX12_wrongOf_65 rfl (lv_at hl 1 rfl) ?_
        refine h_get (v := .int v67) hx hb hts iX12 hown g t_a0 (by decide) so_13 rfl 12 (by decide) (hts (.fieldLink RX12 187 "CapLeagueModel" "clock" "I") (by decide +kernel)) rfl dX12_wrongOf_66 (congrArg Value.int (ev67.symm)) ?_
        refine vp_callSi (W.runV (As := [.int c, .int v67]) (rest := []) ⟨hx, hb, hml, hown, hts⟩ (tX12_counts l E X A z I0 L0 a0 t_a0 c (c_t) h_c (by omega) v67 (v67.toInt) rfl (by omega)) (cwV 2 hts gX12_wrongOf_X12_counts rfl rfl rfl (by decide +kernel) ⟨Nat.le_of_ble_eq_true rfl, Nat.le_of_ble_eq_true rfl⟩) ⟨h_blind _ _ _ _ _ _ _, h_recv g t_a0 (by decide) so_13 (q := (RX12, TX12, 51)) rfl, h_pre _ hE hk hX hA hI hR g⟩ rfl rfl hl.1 rfl (lv_room (Nat.le_of_ble_eq_true rfl)) dX12_wrongOf_69 ⟨Nat.le_of_ble_eq_true rfl, Nat.le_of_ble_eq_true rfl⟩) (fun rh87 h87 => ?_)
        have jrh87 : -2147483648 ≤ rh87.toInt ∧ rh87.toInt ≤ 2147483647 := ⟨xi_lo _, Int.le_of_lt_add_one (xi_hi _)⟩
        refine lv_iload hx hb dX12_wrongOf_72 (lv_at hl 5 rfl) ?_
        refine lv_iadd hx hb dX12_wrongOf_74 ?_
        refine lv_topi (fun v88 ev88 => ?_)
        have jv88 : -2147483648 ≤ v88.toInt ∧ v88.toInt ≤ 2147483647 := ⟨xi_lo _, Int.le_of_lt_add_one (xi_hi _)⟩
        refine lv_aload_n hx hb dX12_wrongOf_75 rfl (lv_at hl 1 rfl) ?_
        refine lv_aload_n hx hb dX12_wrongOf_76 rfl (lv_at hl 1 rfl) ?_
        refine h_get (v := .int v67) hx hb hts iX12 hown g t_a0 (by decide) so_13 rfl 12 (by decide) (hts (.fieldLink RX12 187 "CapLeagueModel" "clock" "I") (by decide +kernel)) rfl dX12_wrongOf_77 (congrArg Value.int (ev67.symm)) ?_
        refine lv_iconst (v := 0) hx hb dX12_wrongOf_80 (by decide) ?_
        refine vp_callSi (W.runV (As := [.int v67, .int 0]) (rest := [.int v88]) ⟨hx, hb, hml, hown, hts⟩ (tX12_lawOf l E X A z I0 L0 a0 t_a0 v67 (v67.toInt) rfl (by omega) 0 (0) (by decide) (by omega)) (cwV 2 hts gX12_wrongOf_X12_lawOf rfl rfl rfl (by decide +kernel) ⟨Nat.le_of_ble_eq_true rfl, Nat.le_of_ble_eq_true rfl⟩) ⟨h_blind _ _ _ _ _ _ _, h_recv g t_a0 (by decide) so_13 (q := (RX12, TX12, 51)) rfl, h_pre _ hE hk hX hA hI hR g⟩ rfl rfl hl.1 rfl (lv_room (Nat.le_of_ble_eq_true rfl)) dX12_wrongOf_81 ⟨Nat.le_of_ble_eq_true rfl, Nat.le_of_ble_eq_true rfl⟩) (fun rh89 h89 => ?_)
        have jrh89 : -2147483648 ≤ rh89.toInt ∧ rh89.toInt ≤ 2147483647 := ⟨xi_lo _, Int.le_of_lt_add_one (xi_hi _)⟩
        refine lv_icmp_le (tgt := 91) hx hb dX12_wrongOf_84 (by decide) (fun c90 => ?_) (fun c90 => ?_)
        · have ic90 := (xi_le c90 rfl rfl : v88.toInt ≤ rh89.toInt)
          refine lv_iconst (v := 0) hx hb dX12_wrongOf_91 (by decide) ?_
          refine lv_istore (lv' := [(6, .int 0), (5, .int v86), (0, .ref a0), (1, .int p), (2, .int c), (3, .int y), (4, .int n)]) hx hb dX12_wrongOf_92 hl (by decide) rfl (fun ls hl => ?_)
          refine lv_iload hx hb dX12_wrongOf_94 (lv_at hl 0 rfl) ?_
          refine lv_if_eq (tgt := 129) hx hb dX12_wrongOf_96 (by decide) (fun _ => ?_) (fun h => absurd (by decide) h)
          refine lv_iload hx hb dX12_wrongOf_129 (lv_at hl 1 rfl) ?_
          exact W.iret (v := v86) hx hb hr (fun t ht hW => ⟨v86, rfl, trivial, ht⟩) (fun _ h => by cases h) dX12_wrongOf_131
        · have ic90 := (xi_nle c90 rfl rfl : rh89.toInt < v88.toInt)
          refine lv_iconst (v := 1) hx hb dX12_wrongOf_87 (by decide) ?_
          refine lv_goto (tgt := 92) hx hb dX12_wrongOf_88 (by decide) ?_
          refine lv_istore (lv' := [(6, .int 1), (5, .int v86), (0, .ref a0), (1, .int p), (2, .int c), (3, .int y), (4, .int n)]) hx hb dX12_wrongOf_92 hl (by decide) rfl (fun ls hl => ?_)
          refine lv_iload hx hb dX12_wrongOf_94 (lv_at hl 0 rfl) ?_
          refine lv_if_eq (tgt := 129) hx hb dX12_wrongOf_96 (by decide) (fun h => absurd h (by decide)) (fun _ => ?_)
          refine lv_iload hx hb dX12_wrongOf_99 (lv_at hl 6 rfl) ?_
          refine lv_aload_n hx hb dX12_wrongOf_101 rfl (lv_at hl 2 rfl) ?_
          refine lv_aload_n hx hb dX12_wrongOf_102 rfl (lv_at hl 2 rfl) ?_
          refine h_get (v := .int v67) hx hb hts iX12 hown g t_a0 (by decide) so_13 rfl 12 (by decide) (hts (.fieldLink RX12 187 "CapLeagueModel" "clock" "I") (by decide +kernel)) rfl dX12_wrongOf_103 (congrArg Value.int (ev67.symm)) ?_
          refine lv_iconst (v := 3) hx hb dX12_wrongOf_106 (by decide) ?_
          refine vp_callSi (W.runV (As := [.int v67, .int 3]) (rest := [.int n]) ⟨hx, hb, hml, hown, hts⟩ (tX12_lawOf l E X A z I0 L0 a0 t_a0 v67 (v67.toInt) rfl (by omega) 3 (3) (by decide) (by omega)) (cwV 2 hts gX12_wrongOf_X12_lawOf rfl rfl rfl (by decide +kernel) ⟨Nat.le_of_ble_eq_true rfl, Nat.le_of_ble_eq_true rfl⟩) ⟨h_blind _ _ _ _ _ _ _, h_recv g t_a0 (by decide) so_13 (q := (RX12, TX12, 51)) rfl, h_pre _ hE hk hX hA hI hR g⟩ rfl rfl hl.1 rfl (lv_room (Nat.le_of_ble_eq_true rfl)) dX12_wrongOf_107 ⟨Nat.le_of_ble_eq_true rfl, Nat.le_of_ble_eq_true rfl⟩) (fun rh93 h93 => ?_)
          have jrh93 : -2147483648 ≤ rh93.toInt ∧ rh93.toInt ≤ 2147483647 := ⟨xi_lo _, Int.le_of_lt_add_one (xi_hi _)⟩
          refine lv_icmp_gt (tgt := 122) hx hb dX12_wrongOf_110 (by decide) (fun c94 => ?_) (fun c94 => ?_)
          · have ic94 := (xi_lt c94 rfl h_n : rh93.toInt < n_t)
            refine lv_iload hx hb dX12_wrongOf_122 (lv_at hl 1 rfl) ?_
            refine lv_bipush (v := 8) hx hb dX12_wrongOf_124 (by decide) ?_
            refine lv_ior hx hb dX12_wrongOf_126 ?_
            refine lv_topi (fun v95 ev95 => ?_)
            have jv95 : -2147483648 ≤ v95.toInt ∧ v95.toInt ≤ 2147483647 := ⟨xi_lo _, Int.le_of_lt_add_one (xi_hi _)⟩
            refine lv_istore (lv' := [(5, .int v95), (6, .int 1), (0, .ref a0), (1, .int p), (2, .int c), (3, .int y), (4, .int n)]) hx hb dX12_wrongOf_127 hl (by decide) rfl (fun ls hl => ?_)
            refine lv_iload hx hb dX12_wrongOf_129 (lv_at hl 0 rfl) ?_
            exact W.iret (v := v95) hx hb hr (fun t ht hW => ⟨v95, rfl, trivial, ht⟩) (fun _ h => by cases h) dX12_wrongOf_131
          · have ic94 := (xi_nlt c94 rfl h_n : n_t ≤ rh93.toInt)
            refine lv_aload_n hx hb dX12_wrongOf_113 rfl (lv_at hl 2 rfl) ?_
            obtain ⟨b96, rb96, tb96⟩ := hR.at a0 24 t_a0 (rfl : h_rs 13 24 = some (1324, false)) (by decide)
            refine h_get (v := .ref b96) hx hb hts iX12 hown g t_a0 (by decide) so_13 rfl 24 (by decide) (hts (.fieldLink RX12 55 "CapLeagueModel" "usedSpare" "[Z") (by decide +kernel)) rfl dX12_wrongOf_114 (by show va_rf (z.R a0 24) = _; rw [rb96]; rfl) ?_
            refine lv_iload_n hx hb dX12_wrongOf_117 rfl (lv_at hl 4 rfl) ?_
            refine h_zald hx hb g tb96 (by decide) so_1324 (xi_in (by rw [h_c]; omega) (by rw [h_c]; omega)) dX12_wrongOf_118 ?_
            refine lv_topi (fun v97 ev97 => ?_)
            have jv97 := hI.rd b96 c.toNatClampNeg tb96 ev97 (rfl : h_bd 1324 _ = (0, 1))
            refine lv_if_eq (tgt := 129) hx hb dX12_wrongOf_119 (by decide) (fun c98 => ?_) (fun c98 => ?_)
            · have ic98 := (xi_eq c98 rfl (by decide) : v97.toInt = 0)
              refine lv_iload hx hb dX12_wrongOf_129 (lv_at hl 1 rfl) ?_
              exact W.iret (v := v86) hx hb hr (fun t ht hW => ⟨v86, rfl, trivial, ht⟩) (fun _ h => by cases h) dX12_wrongOf_131
            · have ic98 := (xi_ne c98 rfl (by decide) : v97.toInt ≠ 0)
              refine lv_iload hx hb dX12_wrongOf_122 (lv_at hl 1 rfl) ?_
              refine lv_bipush (v := 8) hx hb dX12_wrongOf_124 (by decide) ?_
              refine lv_ior hx hb dX12_wrongOf_126 ?_
              refine lv_topi (fun v99 ev99 => ?_)
              have jv99 : -2147483648 ≤ v99.toInt ∧ v99.toInt ≤ 2147483647 := ⟨xi_lo _, Int.le_of_lt_add_one (xi_hi _)⟩
              refine lv_istore (lv' := [(5, .int v99), (6, .int 1), (0, .ref a0), (1, .int p), (2, .int c), (3, .int y), (4, .int n)]) hx hb dX12_wrongOf_127 hl (by decide) rfl (fun ls hl => ?_)
              refine lv_iload hx hb dX12_wrongOf_129 (lv_at hl 0 rfl) ?_
              exact W.iret (v := v99) hx hb hr (fun t ht hW => ⟨v99, rfl, trivial, ht⟩) (fun _ h => by cases h) dX12_wrongOf_131
    · have ic70 := (xi_nlt c70 rfl rfl : rh69.toInt ≤ rh68.toInt)
      refine lv_iload hx hb dX12_wrongOf_38 (lv_at hl 0 rfl) ?_
      refine lv_iconst (v := 2) hx hb dX12_wrongOf_40 (by decide) ?_
      refine lv_ior hx hb dX12_wrongOf_41 ?_
      refine lv_topi (fun v100 ev100 => ?_)
      have jv100 : -2147483648 ≤ v100.toInt ∧ v100.toInt ≤ 2147483647 := ⟨xi_lo _, Int.le_of_lt_add_one (xi_hi _)⟩
      refine lv_istore (lv' := [(5, .int v100), (0, .ref a0), (1, .int p), (2, .int c), (3, .int y), (4, .int n)]) hx hb dX12_wrongOf_42 hl (by decide) rfl (fun ls hl => ?_)
      refine lv_iload_n hx hb dX12_wrongOf_44 rfl (lv_at hl 4 rfl) ?_
      refine lv_aload_n hx hb dX12_wrongOf_45 rfl (lv_at hl 1 rfl) ?_
      refine lv_aload_n hx hb dX12_wrongOf_46 rfl (lv_at hl 1 rfl) ?_
      refine h_get (v := .int v67) hx hb hts iX12 hown g t_a0 (by decide) so_13 rfl 12 (by decide) (hts (.fieldLink RX12 187 "CapLeagueModel" "clock" "I") (by decide +kernel)) rfl dX12_wrongOf_47 (congrArg Value.int (ev67.symm)) ?_
      refine lv_iconst (v := 2) hx hb dX12_wrongOf_50 (by decide) ?_
      refine vp_callSi (W.runV (As := [.int v67, .int 2]) (rest := [.int y]) ⟨hx, hb, hml, hown, hts⟩ (tX12_lawOf l E X A z I0 L0 a0 t_a0 v67 (v67.toInt) rfl (by omega) 2 (2) (by decide) (by omega)) (cwV 2 hts gX12_wrongOf_X12_lawOf rfl rfl rfl (by decide +kernel) ⟨Nat.le_of_ble_eq_true rfl, Nat.le_of_ble_eq_true rfl⟩) ⟨h_blind _ _ _ _ _ _ _, h_recv g t_a0 (by decide) so_13 (q := (RX12, TX12, 51)) rfl, h_pre _ hE hk hX hA hI hR g⟩ rfl rfl hl.1 rfl (lv_room (Nat.le_of_ble_eq_true rfl)) dX12_wrongOf_51 ⟨Nat.le_of_ble_eq_true rfl, Nat.le_of_ble_eq_true rfl⟩) (fun rh101 h101 => ?_)
      have jrh101 : -2147483648 ≤ rh101.toInt ∧ rh101.toInt ≤ 2147483647 := ⟨xi_lo _, Int.le_of_lt_add_one (xi_hi _)⟩
      refine lv_icmp_le (tgt := 63) hx hb dX12_wrongOf_54 (by decide) (fun c102 => ?_) (fun c102 => ?_)
      · have ic102 := (xi_le c102 h_y rfl : y_t ≤ rh101.toInt)
        refine lv_aload_n hx hb dX12_wrongOf_63 rfl (lv_at hl 1 rfl) ?_
        refine lv_iload_n hx hb dX12_wrongOf_64 rfl (lv_at hl 3 rfl) ?_
        refine lv_aload_n hx hb dX12_wrongOf_65 rfl (lv_at hl 1 rfl) ?_
        refine h_get (v := .int v67) hx hb hts iX12 hown g t_a0 (by decide) so_13 rfl 12 (by decide) (hts (.fieldLink RX12 187 "CapLeagueModel" "clock" "I") (by decide +kernel)) rfl dX12_wrongOf_66 (congrArg Value.int (ev67.symm)) ?_
        refine vp_callSi (W.runV (As := [.int c, .int v67]) (rest := []) ⟨hx, hb, hml, hown, hts⟩ (tX12_counts l E X A z I0 L0 a0 t_a0 c (c_t) h_c (by omega) v67 (v67.toInt) rfl (by omega)) (cwV 2 hts gX12_wrongOf_X12_counts rfl rfl rfl (by decide +kernel) ⟨Nat.le_of_ble_eq_true rfl, Nat.le_of_ble_eq_true rfl⟩) ⟨h_blind _ _ _ _ _ _ _, h_recv g t_a0 (by decide) so_13 (q := (RX12, TX12, 51)) rfl, h_pre _ hE hk hX hA hI hR g⟩ rfl rfl hl.1 rfl (lv_room (Nat.le_of_ble_eq_true rfl)) dX12_wrongOf_69 ⟨Nat.le_of_ble_eq_true rfl, Nat.le_of_ble_eq_true rfl⟩) (fun rh103 h103 => ?_)
        have jrh103 : -2147483648 ≤ rh103.toInt ∧ rh103.toInt ≤ 2147483647 := ⟨xi_lo _, Int.le_of_lt_add_one (xi_hi _)⟩
        refine lv_iload hx hb dX12_wrongOf_72 (lv_at hl 5 rfl) ?_
        refine lv_iadd hx hb dX12_wrongOf_74 ?_
        refine lv_topi (fun v104 ev104 => ?_)
        have jv104 : -2147483648 ≤ v104.toInt ∧ v104.toInt ≤ 2147483647 := ⟨xi_lo _, Int.le_of_lt_add_one (xi_hi _)⟩
        refine lv_aload_n hx hb dX12_wrongOf_75 rfl (lv_at hl 1 rfl) ?_
        refine lv_aload_n hx hb dX12_wrongOf_76 rfl (lv_at hl 1 rfl) ?_
        refine h_get (v := .int v67) hx hb hts iX12 hown g t_a0 (by decide) so_13 rfl 12 (by decide) (hts (.fieldLink RX12 187 "CapLeagueModel" "clock" "I") (by decide +kernel)) rfl dX12_wrongOf_77 (congrArg Value.int (ev67.symm)) ?_
        refine lv_iconst (v := 0) hx hb dX12_wrongOf_80 (by decide) ?_
        refine vp_callSi (W.runV (As := [.int v67, .int 0]) (rest := [.int v104]) ⟨hx, hb, hml, hown, hts⟩ (tX12_lawOf l E X A z I0 L0 a0 t_a0 v67 (v67.toInt) rfl (by omega) 0 (0) (by decide) (by omega)) (cwV 2 hts gX12_wrongOf_X12_lawOf rfl rfl rfl (by decide +kernel) ⟨Nat.le_of_ble_eq_true rfl, Nat.le_of_ble_eq_true rfl⟩) ⟨h_blind _ _ _ _ _ _ _, h_recv g t_a0 (by decide) so_13 (q := (RX12, TX12, 51)) rfl, h_pre _ hE hk hX hA hI hR g⟩ rfl rfl hl.1 rfl (lv_room (Nat.le_of_ble_eq_true rfl)) dX12_wrongOf_81 ⟨Nat.le_of_ble_eq_true rfl, Nat.le_of_ble_eq_true rfl⟩) (fun rh105 h105 => ?_)
        have jrh105 : -2147483648 ≤ rh105.toInt ∧ rh105.toInt ≤ 2147483647 := ⟨xi_lo _, Int.le_of_lt_add_one (xi_hi _)⟩
        refine lv_icmp_le (tgt := 91) hx hb dX12_wrongOf_84 (by decide) (fun c106 => ?_) (fun c106 => ?_)
        · have ic106 := (xi_le c106 rfl rfl : v104.toInt ≤ rh105.toInt)
          refine lv_iconst (v := 0) hx hb dX12_wrongOf_91 (by decide) ?_
          refine lv_istore (lv' := [(6, .int 0), (5, .int v100), (0, .ref a0), (1, .int p), (2, .int c), (3, .int y), (4, .int n)]) hx hb dX12_wrongOf_92 hl (by decide) rfl (fun ls hl => ?_)
          refine lv_iload hx hb dX12_wrongOf_94 (lv_at hl 0 rfl) ?_
          refine lv_if_eq (tgt := 129) hx hb dX12_wrongOf_96 (by decide) (fun _ => ?_) (fun h => absurd (by decide) h)
          refine lv_iload hx hb dX12_wrongOf_129 (lv_at hl 1 rfl) ?_
          exact W.iret (v := v100) hx hb hr (fun t ht hW => ⟨v100, rfl, trivial, ht⟩) (fun _ h => by cases h) dX12_wrongOf_131
        · have ic106 := (xi_nle c106 rfl rfl : rh105.toInt < v104.toInt)
          refine lv_iconst (v := 1) hx hb dX12_wrongOf_87 (by decide) ?_
          refine lv_goto (tgt := 92) hx hb dX12_wrongOf_88 (by decide) ?_
          refine lv_istore (lv' := [(6, .int 1), (5, .int v100), (0, .ref a0), (1, .int p), (2, .int c), (3, .int y), (4, .int n)]) hx hb dX12_wrongOf_92 hl (by decide) rfl (fun ls hl => ?_)
          refine lv_iload hx hb dX12_wrongOf_94 (lv_at hl 0 rfl) ?_
          refine lv_if_eq (tgt := 129) hx hb dX12_wrongOf_96 (by decide) (fun h => absurd h (by decide)) (fun _ => ?_)
          refine lv_iload hx hb dX12_wrongOf_99 (lv_at hl 6 rfl) ?_
          refine lv_aload_n hx hb dX12_wrongOf_101 rfl (lv_at hl 2 rfl) ?_
          refine lv_aload_n hx hb dX12_wrongOf_102 rfl (lv_at hl 2 rfl) ?_
          refine h_get (v := .int v67) hx hb hts iX12 hown g t_a0 (by decide) so_13 rfl 12 (by decide) (hts (.fieldLink RX12 187 "CapLeagueModel" "clock" "I") (by decide +kernel)) rfl dX12_wrongOf_103 (congrArg Value.int (ev67.symm)) ?_
          refine lv_iconst (v := 3) hx hb dX12_wrongOf_106 (by decide) ?_
          refine vp_callSi (W.runV (As := [.int v67, .int 3]) (rest := [.int n]) ⟨hx, hb, hml, hown, hts⟩ (tX12_lawOf l E X A z I0 L0 a0 t_a0 v67 (v67.toInt) rfl (by omega) 3 (3) (by decide) (by omega)) (cwV 2 hts gX12_wrongOf_X12_lawOf rfl rfl rfl (by decide +kernel) ⟨Nat.le_of_ble_eq_true rfl, Nat.le_of_ble_eq_true rfl⟩) ⟨h_blind _ _ _ _ _ _ _, h_recv g t_a0 (by decide) so_13 (q := (RX12, TX12, 51)) rfl, h_pre _ hE hk hX hA hI hR g⟩ rfl rfl hl.1 rfl (lv_room (Nat.le_of_ble_eq_true rfl)) dX12_wrongOf_107 ⟨Nat.le_of_ble_eq_true rfl, Nat.le_of_ble_eq_true rfl⟩) (fun rh109 h109 => ?_)
          have jrh109 : -2147483648 ≤ rh109.toInt ∧ rh109.toInt ≤ 2147483647 := ⟨xi_lo _, Int.le_of_lt_add_one (xi_hi _)⟩
          refine lv_icmp_gt (tgt := 122) hx hb dX12_wrongOf_110 (by decide) (fun c110 => ?_) (fun c110 => ?_)
          · have ic110 := (xi_lt c110 rfl h_n : rh109.toInt < n_t)
            refine lv_iload hx hb dX12_wrongOf_122 (lv_at hl 1 rfl) ?_
            refine lv_bipush (v := 8) hx hb dX12_wrongOf_124 (by decide) ?_
            refine lv_ior hx hb dX12_wrongOf_126 ?_
            refine lv_topi (fun v111 ev111 => ?_)
            have jv111 : -2147483648 ≤ v111.toInt ∧ v111.toInt ≤ 2147483647 := ⟨xi_lo _, Int.le_of_lt_add_one (xi_hi _)⟩
            refine lv_istore (lv' := [(5, .int v111), (6, .int 1), (0, .ref a0), (1, .int p), (2, .int c), (3, .int y), (4, .int n)]) hx hb dX12_wrongOf_127 hl (by decide) rfl (fun ls hl => ?_)
            refine lv_iload hx hb dX12_wrongOf_129 (lv_at hl 0 rfl) ?_
            exact W.iret (v := v111) hx hb hr (fun t ht hW => ⟨v111, rfl, trivial, ht⟩) (fun _ h => by cases h) dX12_wrongOf_131
          · have ic110 := (xi_nlt c110 rfl h_n : n_t ≤ rh109.toInt)
            refine lv_aload_n hx hb dX12_wrongOf_113 rfl (lv_at hl 2 rfl) ?_
            obtain ⟨b112, rb112, tb112⟩ := hR.at a0 24 t_a0 (rfl : h_rs 13 24 = some (1324, false)) (by decide)
            refine h_get (v := .ref b112) hx hb hts iX12 hown g t_a0 (by decide) so_13 rfl 24 (by decide) (hts (.fieldLink RX12 55 "CapLeagueModel" "usedSpare" "[Z") (by decide +kernel)) rfl dX12_wrongOf_114 (by show va_rf (z.R a0 24) = _; rw [rb112]; rfl) ?_
            refine lv_iload_n hx hb dX12_wrongOf_117 rfl (lv_at hl 4 rfl) ?_
            refine h_zald hx hb g tb112 (by decide) so_1324 (xi_in (by rw [h_c]; omega) (by rw [h_c]; omega)) dX12_wrongOf_118 ?_
            refine lv_topi (fun v113 ev113 => ?_)
            have jv113 := hI.rd b112 c.toNatClampNeg tb112 ev113 (rfl : h_bd 1324 _ = (0, 1))
            refine lv_if_eq (tgt := 129) hx hb dX12_wrongOf_119 (by decide) (fun c114 => ?_) (fun c114 => ?_)
            · have ic114 := (xi_eq c114 rfl (by decide) : v113.toInt = 0)
              refine lv_iload hx hb dX12_wrongOf_129 (lv_at hl 1 rfl) ?_
              exact W.iret (v := v100) hx hb hr (fun t ht hW => ⟨v100, rfl, trivial, ht⟩) (fun _ h => by cases h) dX12_wrongOf_131
            · have ic114 := (xi_ne c114 rfl (by decide) : v113.toInt ≠ 0)
              refine lv_iload hx hb dX12_wrongOf_122 (lv_at hl 1 rfl) ?_
              refine lv_bipush (v := 8) hx hb dX12_wrongOf_124 (by decide) ?_
              refine lv_ior hx hb dX12_wrongOf_126 ?_
              refine lv_topi (fun v115 ev115 => ?_)
              have jv115 : -2147483648 ≤ v115.toInt ∧ v115.toInt ≤ 2147483647 := ⟨xi_lo _, Int.le_of_lt_add_one (xi_hi _)⟩
              refine lv_istore (lv' := [(5, .int v115), (6, .int 1), (0, .ref a0), (1, .int p), (2, .int c), (3, .int y), (4, .int n)]) hx hb dX12_wrongOf_127 hl (by decide) rfl (fun ls hl => ?_)
              refine lv_iload hx hb dX12_wrongOf_129 (lv_at hl 0 rfl) ?_
              exact W.iret (v := v115) hx hb hr (fun t ht hW => ⟨v115, rfl, trivial, ht⟩) (fun _ h => by cases h) dX12_wrongOf_131
      · have ic102 := (xi_nle c102 h_y rfl : rh101.toInt < y_t)
        refine lv_iload hx hb dX12_wrongOf_57 (lv_at hl 0 rfl) ?_
        refine lv_iconst (v := 4) hx hb dX12_wrongOf_59 (by decide) ?_
        refine lv_ior hx hb dX12_wrongOf_60 ?_
        refine lv_topi (fun v116 ev116 => ?_)
        have jv116 : -2147483648 ≤ v116.toInt ∧ v116.toInt ≤ 2147483647 := ⟨xi_lo _, Int.le_of_lt_add_one (xi_hi _)⟩
        refine lv_istore (lv' := [(5, .int v116), (0, .ref a0), (1, .int p), (2, .int c), (3, .int y), (4, .int n)]) hx hb dX12_wrongOf_61 hl (by decide) rfl (fun ls hl => ?_)
        refine lv_aload_n hx hb dX12_wrongOf_63 rfl (lv_at hl 1 rfl) ?_
        refine lv_iload_n hx hb dX12_wrongOf_64 rfl (lv_at hl 3 rfl) ?_
        refine lv_aload_n hx hb dX12_wrongOf_65 rfl (lv_at hl 1 rfl) ?_
        refine h_get (v := .int v67) hx hb hts iX12 hown g t_a0 (by decide) so_13 rfl 12 (by decide) (hts (.fieldLink RX12 187 "CapLeagueModel" "clock" "I") (by decide +kernel)) rfl dX12_wrongOf_66 (congrArg Value.int (ev67.symm)) ?_
        refine vp_callSi (W.runV (As := [.int c, .int v67]) (rest := []) ⟨hx, hb, hml, hown, hts⟩ (tX12_counts l E X A z I0 L0 a0 t_a0 c (c_t) h_c (by omega) v67 (v67.toInt) rfl (by omega)) (cwV 2 hts gX12_wrongOf_X12_counts rfl rfl rfl (by decide +kernel) ⟨Nat.le_of_ble_eq_true rfl, Nat.le_of_ble_eq_true rfl⟩) ⟨h_blind _ _ _ _ _ _ _, h_recv g t_a0 (by decide) so_13 (q := (RX12, TX12, 51)) rfl, h_pre _ hE hk hX hA hI hR g⟩ rfl rfl hl.1 rfl (lv_room (Nat.le_of_ble_eq_true rfl)) dX12_wrongOf_69 ⟨Nat.le_of_ble_eq_true rfl, Nat.le_of_ble_eq_true rfl⟩) (fun rh117 h117 => ?_)
        have jrh117 : -2147483648 ≤ rh117.toInt ∧ rh117.toInt ≤ 2147483647 := ⟨xi_lo _, Int.le_of_lt_add_one (xi_hi _)⟩
        refine lv_iload hx hb dX12_wrongOf_72 (lv_at hl 5 rfl) ?_
        refine lv_iadd hx hb dX12_wrongOf_74 ?_
        refine lv_topi (fun v118 ev118 => ?_)
        have jv118 : -2147483648 ≤ v118.toInt ∧ v118.toInt ≤ 2147483647 := ⟨xi_lo _, Int.le_of_lt_add_one (xi_hi _)⟩
        refine lv_aload_n hx hb dX12_wrongOf_75 rfl (lv_at hl 1 rfl) ?_
        refine lv_aload_n hx hb dX12_wrongOf_76 rfl (lv_at hl 1 rfl) ?_
        refine h_get (v := .int v67) hx hb hts iX12 hown g t_a0 (by decide) so_13 rfl 12 (by decide) (hts (.fieldLink RX12 187 "CapLeagueModel" "clock" "I") (by decide +kernel)) rfl dX12_wrongOf_77 (congrArg Value.int (ev67.symm)) ?_
        refine lv_iconst (v := 0) hx hb dX12_wrongOf_80 (by decide) ?_
        refine vp_callSi (W.runV (As := [.int v67, .int 0]) (rest := [.int v118]) ⟨hx, hb, hml, hown, hts⟩ (tX12_lawOf l E X A z I0 L0 a0 t_a0 v67 (v67.toInt) rfl (by omega) 0 (0) (by decide) (by omega)) (cwV 2 hts gX12_wrongOf_X12_lawOf rfl rfl rfl (by decide +kernel) ⟨Nat.le_of_ble_eq_true rfl, Nat.le_of_ble_eq_true rfl⟩) ⟨h_blind _ _ _ _ _ _ _, h_recv g t_a0 (by decide) so_13 (q := (RX12, TX12, 51)) rfl, h_pre _ hE hk hX hA hI hR g⟩ rfl rfl hl.1 rfl (lv_room (Nat.le_of_ble_eq_true rfl)) dX12_wrongOf_81 ⟨Nat.le_of_ble_eq_true rfl, Nat.le_of_ble_eq_true rfl⟩) (fun rh119 h119 => ?_)
        have jrh119 : -2147483648 ≤ rh119.toInt ∧ rh119.toInt ≤ 2147483647 := ⟨xi_lo _, Int.le_of_lt_add_one (xi_hi _)⟩
        refine lv_icmp_le (tgt := 91) hx hb dX12_wrongOf_84 (by decide) (fun c120 => ?_) (fun c120 => ?_)
        · have ic120 := (xi_le c120 rfl rfl : v118.toInt ≤ rh119.toInt)
          refine lv_iconst (v := 0) hx hb dX12_wrongOf_91 (by decide) ?_
          refine lv_istore (lv' := [(6, .int 0), (5, .int v116), (0, .ref a0), (1, .int p), (2, .int c), (3, .int y), (4, .int n)]) hx hb dX12_wrongOf_92 hl (by decide) rfl (fun ls hl => ?_)
          refine lv_iload hx hb dX12_wrongOf_94 (lv_at hl 0 rfl) ?_
          refine lv_if_eq (tgt := 129) hx hb dX12_wrongOf_96 (by decide) (fun _ => ?_) (fun h => absurd (by decide) h)
          refine lv_iload hx hb dX12_wrongOf_129 (lv_at hl 1 rfl) ?_
          exact W.iret (v := v116) hx hb hr (fun t ht hW => ⟨v116, rfl, trivial, ht⟩) (fun _ h => by cases h) dX12_wrongOf_131
        · have ic120 := (xi_nle c120 rfl rfl : rh119.toInt < v118.toInt)
          refine lv_iconst (v := 1) hx hb dX12_wrongOf_87 (by decide) ?_
          refine lv_goto (tgt := 92) hx hb dX12_wrongOf_88 (by decide) ?_
          refine lv_istore (lv' := [(6, .int 1), (5, .int v116), (0, .ref a0), (1, .int p), (2, .int c), (3, .int y), (4, .int n)]) hx hb dX12_wrongOf_92 hl (by decide) rfl (fun ls hl => ?_)
          refine lv_iload hx hb dX12_wrongOf_94 (lv_at hl 0 rfl) ?_
          refine lv_if_eq (tgt := 129) hx hb dX12_wrongOf_96 (by decide) (fun h => absurd h (by decide)) (fun _ => ?_)
          refine lv_iload hx hb dX12_wrongOf_99 (lv_at hl 6 rfl) ?_
          refine lv_aload_n hx hb dX12_wrongOf_101 rfl (lv_at hl 2 rfl) ?_
          refine lv_aload_n hx hb dX12_wrongOf_102 rfl (lv_at hl 2 rfl) ?_
          refine h_get (v := .int v67) hx hb hts iX12 hown g t_a0 (by decide) so_13 rfl 12 (by decide) (hts (.fieldLink RX12 187 "CapLeagueModel" "clock" "I") (by decide +kernel)) rfl dX12_wrongOf_103 (congrArg Value.int (ev67.symm)) ?_
          refine lv_iconst (v := 3) hx hb dX12_wrongOf_106 (by decide) ?_
          refine vp_callSi (W.runV (As := [.int v67, .int 3]) (rest := [.int n]) ⟨hx, hb, hml, hown, hts⟩ (tX12_lawOf l E X A z I0 L0 a0 t_a0 v67 (v67.toInt) rfl (by omega) 3 (3) (by decide) (by omega)) (cwV 2 hts gX12_wrongOf_X12_lawOf rfl rfl rfl (by decide +kernel) ⟨Nat.le_of_ble_eq_true rfl, Nat.le_of_ble_eq_true rfl⟩) ⟨h_blind _ _ _ _ _ _ _, h_recv g t_a0 (by decide) so_13 (q := (RX12, TX12, 51)) rfl, h_pre _ hE hk hX hA hI hR g⟩ rfl rfl hl.1 rfl (lv_room (Nat.le_of_ble_eq_true rfl)) dX12_wrongOf_107 ⟨Nat.le_of_ble_eq_true rfl, Nat.le_of_ble_eq_true rfl⟩) (fun rh123 h123 => ?_)
          have jrh123 : -2147483648 ≤ rh123.toInt ∧ rh123.toInt ≤ 2147483647 := ⟨xi_lo _, Int.le_of_lt_add_one (xi_hi _)⟩
          refine lv_icmp_gt (tgt := 122) hx hb dX12_wrongOf_110 (by decide) (fun c124 => ?_) (fun c124 => ?_)
          · have ic124 := (xi_lt c124 rfl h_n : rh123.toInt < n_t)
            refine lv_iload hx hb dX12_wrongOf_122 (lv_at hl 1 rfl) ?_
            refine lv_bipush (v := 8) hx hb dX12_wrongOf_124 (by decide) ?_
            refine lv_ior hx hb dX12_wrongOf_126 ?_
            refine lv_topi (fun v125 ev125 => ?_)
            have jv125 : -2147483648 ≤ v125.toInt ∧ v125.toInt ≤ 2147483647 := ⟨xi_lo _, Int.le_of_lt_add_one (xi_hi _)⟩
            refine lv_istore (lv' := [(5, .int v125), (6, .int 1), (0, .ref a0), (1, .int p), (2, .int c), (3, .int y), (4, .int n)]) hx hb dX12_wrongOf_127 hl (by decide) rfl (fun ls hl => ?_)
            refine lv_iload hx hb dX12_wrongOf_129 (lv_at hl 0 rfl) ?_
            exact W.iret (v := v125) hx hb hr (fun t ht hW => ⟨v125, rfl, trivial, ht⟩) (fun _ h => by cases h) dX12_wrongOf_131
          · have ic124 := (xi_nlt c124 rfl h_n : n_t ≤ rh123.toInt)
            refine lv_aload_n hx hb dX12_wrongOf_113 rfl (lv_at hl 2 rfl) ?_
            obtain ⟨b126, rb126, tb126⟩ := hR.at a0 24 t_a0 (rfl : h_rs 13 24 = some (1324, false)) (by decide)
            refine h_get (v := .ref b126) hx hb hts iX12 hown g t_a0 (by decide) so_13 rfl 24 (by decide) (hts (.fieldLink RX12 55 "CapLeagueModel" "usedSpare" "[Z") (by decide +kernel)) rfl dX12_wrongOf_114 (by show va_rf (z.R a0 24) = _; rw [rb126]; rfl) ?_
            refine lv_iload_n hx hb dX12_wrongOf_117 rfl (lv_at hl 4 rfl) ?_
            refine h_zald hx hb g tb126 (by decide) so_1324 (xi_in (by rw [h_c]; omega) (by rw [h_c]; omega)) dX12_wrongOf_118 ?_
            refine lv_topi (fun v127 ev127 => ?_)
            have jv127 := hI.rd b126 c.toNatClampNeg tb126 ev127 (rfl : h_bd 1324 _ = (0, 1))
            refine lv_if_eq (tgt := 129) hx hb dX12_wrongOf_119 (by decide) (fun c128 => ?_) (fun c128 => ?_)
            · have ic128 := (xi_eq c128 rfl (by decide) : v127.toInt = 0)
              refine lv_iload hx hb dX12_wrongOf_129 (lv_at hl 1 rfl) ?_
              exact W.iret (v := v116) hx hb hr (fun t ht hW => ⟨v116, rfl, trivial, ht⟩) (fun _ h => by cases h) dX12_wrongOf_131
            · have ic128 := (xi_ne c128 rfl (by decide) : v127.toInt ≠ 0)
              refine lv_iload hx hb dX12_wrongOf_122 (lv_at hl 1 rfl) ?_
              refine lv_bipush (v := 8) hx hb dX12_wrongOf_124 (by decide) ?_
              refine lv_ior hx hb dX12_wrongOf_126 ?_
              refine lv_topi (fun v129 ev129 => ?_)
              have jv129 : -2147483648 ≤ v129.toInt ∧ v129.toInt ≤ 2147483647 := ⟨xi_lo _, Int.le_of_lt_add_one (xi_hi _)⟩
              refine lv_istore (lv' := [(5, .int v129), (6, .int 1), (0, .ref a0), (1, .int p), (2, .int c), (3, .int y), (4, .int n)]) hx hb dX12_wrongOf_127 hl (by decide) rfl (fun ls hl => ?_)
              refine lv_iload hx hb dX12_wrongOf_129 (lv_at hl 0 rfl) ?_
              exact W.iret (v := v129) hx hb hr (fun t ht hW => ⟨v129, rfl, trivial, ht⟩) (fun _ h => by cases h) dX12_wrongOf_131
set_option maxHeartbeats 4000000 in
set_option maxRecDepth 100000 in
theorem tX12_wrong (l : Launch) (E : tE) (X : tX) (A : Nat → Prop) (z : tZ) (I0 : tI) (L0 : tL) (a0 : Nat) (t_a0 : z.ty a0 = 13) (p : Int32) (p_t : Int) (h_p : p.toInt = p_t) (c : Int32) (c_t : Int) (h_c : c.toInt = c_t) (y : Int32) (y_t : Int) (h_y : y.toInt = y_t) (n : Int32) (n_t : Int) (h_n : n.toInt = n_t) (u : Int32) (u_t : Int) (h_u : u.toInt = u_t) (q : Int32) (q_t : Int) (h_q : q.toInt = q_t) (h : Int32) (h_t : Int) (h_h : h.toInt = h_t) (b_h : 0 ≤ h_t ∧ h_t ≤ 1) : Met l yX12_wrong wsX12_wrong ({ frames := 6, cells := 0, slots := 0, locals := 384 }) (va_Pc [.ref a0, .int p, .int c, .int y, .int n, .int u, .int q, .int h] (h_P E X A z I0 L0)) (vp_Si (fun r => True)) 0 0 (fun _ => False) := by
  refine Met.ofW (cc := cX12_wrong) (maxL := 8) (ret := (some .int)) (by decide) rfl ?_
  intro pr_ ev_ s m args below meth cd_ s₁ B hml hv
  obtain ⟨rfl, hE, hk, hX, hA, hK, hI, hR, hB0⟩ := hv
  have g : h_G h_so h_fk E A z I0 L0 s s.heap s.heap [] := ⟨hK, va_S.rf, hB0⟩
  have hx := B.exec
  have hb := B.bytes
  have hr := B.returns
  have hts := atoms_spec (ws := wsX12_wrong) B.pre
  have hown : s.vm.findClass RX12 = some m.cls := findClass_of_methodNamed B.named
  have hlocks := B.notSynchronized
  have hl := lv_entry ([.ref a0, .int p, .int c, .int y, .int n, .int u, .int q, .int h]) (n := 8) (Nat.le_of_ble_eq_true rfl)
  rw [lg_entry_eq]
  generalize (lg_sl ([.ref a0, .int p, .int c, .int y, .int n, .int u, .int q, .int h]) ++ List.replicate (8 - (lg_sl ([.ref a0, .int p, .int c, .int y, .int n, .int u, .int q, .int h])).length) Slot.unset).toArray = ls at hl ⊢
  have hl : lv_has ls 8 [(0, .ref a0), (1, .int p), (2, .int c), (3, .int y), (4, .int n), (5, .int u), (6, .int q), (7, .int h)] := hl
  have b_p : -2147483648 ≤ p_t ∧ p_t ≤ 2147483647 := h_p ▸ ⟨xi_lo p, Int.le_of_lt_add_one (xi_hi p)⟩
  have b_c : -2147483648 ≤ c_t ∧ c_t ≤ 2147483647 := h_c ▸ ⟨xi_lo c, Int.le_of_lt_add_one (xi_hi c)⟩
  have b_y : -2147483648 ≤ y_t ∧ y_t ≤ 2147483647 := h_y ▸ ⟨xi_lo y, Int.le_of_lt_add_one (xi_hi y)⟩
  have b_n : -2147483648 ≤ n_t ∧ n_t ≤ 2147483647 := h_n ▸ ⟨xi_lo n, Int.le_of_lt_add_one (xi_hi n)⟩
  have b_u : -2147483648 ≤ u_t ∧ u_t ≤ 2147483647 := h_u ▸ ⟨xi_lo u, Int.le_of_lt_add_one (xi_hi u)⟩
  have b_q : -2147483648 ≤ q_t ∧ q_t ≤ 2147483647 := h_q ▸ ⟨xi_lo q, Int.le_of_lt_add_one (xi_hi q)⟩
  refine lv_aload_n hx hb dX12_wrong_0 rfl (lv_at hl 0 rfl) ?_
  refine lv_iload_n hx hb dX12_wrong_1 rfl (lv_at hl 1 rfl) ?_
  refine lv_iload_n hx hb dX12_wrong_2 rfl (lv_at hl 2 rfl) ?_
  refine lv_iload_n hx hb dX12_wrong_3 rfl (lv_at hl 3 rfl) ?_
  refine lv_iload hx hb dX12_wrong_4 (lv_at hl 4 rfl) ?_
  refine lv_iload hx hb dX12_wrong_6 (lv_at hl 5 rfl) ?_
  refine lv_iload hx hb dX12_wrong_8 (lv_at hl 6 rfl) ?_
  refine lv_iload hx hb dX12_wrong_10 (lv_at hl 7 rfl) ?_
  refine vp_callSi (W.runV (As := [.int p, .int c, .int y, .int n, .int u, .int q, .int h]) (rest := []) ⟨hx, hb, hml, hown, hts⟩ (tX12_isDeal l E X A z I0 L0 a0 t_a0 p (p_t) h_p c (c_t) h_c y (y_t) h_y n (n_t) h_n u (u_t) h_u q (q_t) h_q h (h_t) h_h (by omega)) (cwV 7 hts gX12_wrong_X12_isDeal rfl rfl rfl (by decide +kernel) ⟨Nat.le_of_ble_eq_true rfl, Nat.le_of_ble_eq_true rfl⟩) ⟨h_blind _ _ _ _ _ _ _, h_recv g t_a0 (by decide) so_13 (q := (RX12, TX12, 51)) rfl, h_pre _ hE hk hX hA hI hR g⟩ rfl rfl hl.1 rfl (lv_room (Nat.le_of_ble_eq_true rfl)) dX12_wrong_12 ⟨Nat.le_of_ble_eq_true rfl, Nat.le_of_ble_eq_true rfl⟩) (fun rh1 h1 => ?_)
  rcases h1 with ⟨rfl, h1⟩ | ⟨rfl, h1⟩
  · skip
    refine lv_if_eq (tgt := 30) hx hb dX12_wrong_15 (by decide) (fun _ => ?_) (fun h => absurd (by decide) h)
    refine lv_bipush (v := (-2)) hx hb dX12_wrong_30 (by decide) ?_
    exact W.iret (v := (-2)) hx hb hr (fun t ht hW => ⟨(-2), rfl, trivial, ht⟩) (fun _ h => by cases h) dX12_wrong_32
  · skip
    refine lv_if_eq (tgt := 30) hx hb dX12_wrong_15 (by decide) (fun h => absurd h (by decide)) (fun _ => ?_)
    refine lv_aload_n hx hb dX12_wrong_18 rfl (lv_at hl 0 rfl) ?_
    refine lv_iload_n hx hb dX12_wrong_19 rfl (lv_at hl 1 rfl) ?_
    refine lv_iload_n hx hb dX12_wrong_20 rfl (lv_at hl 2 rfl) ?_
    refine lv_iload_n hx hb dX12_wrong_21 rfl (lv_at hl 3 rfl) ?_
    refine lv_iload hx hb dX12_wrong_22 (lv_at hl 4 rfl) ?_
    refine vp_callSi (W.runV (As := [.int p, .int c, .int y, .int n]) (rest := []) ⟨hx, hb, hml, hown, hts⟩ (tX12_wrongOf l E X A z I0 L0 a0 t_a0 p (p_t) h_p (by omega) c (c_t) h_c (by omega) y (y_t) h_y n (n_t) h_n) (cwV 4 hts gX12_wrong_X12_wrongOf rfl rfl rfl (by decide +kernel) ⟨Nat.le_of_ble_eq_true rfl, Nat.le_of_ble_eq_true rfl⟩) ⟨h_blind _ _ _ _ _ _ _, h_recv g t_a0 (by decide) so_13 (q := (RX12, TX12, 51)) rfl, h_pre _ hE hk hX hA hI hR g⟩ rfl rfl hl.1 rfl (lv_room (Nat.le_of_ble_eq_true rfl)) dX12_wrong_24 ⟨Nat.le_of_ble_eq_true rfl, Nat.le_of_ble_eq_true rfl⟩) (fun rh4 h4 => ?_)
    have jrh4 : -2147483648 ≤ rh4.toInt ∧ rh4.toInt ≤ 2147483647 := ⟨xi_lo _, Int.le_of_lt_add_one (xi_hi _)⟩
    refine lv_goto (tgt := 32) hx hb dX12_wrong_27 (by decide) ?_
    exact W.iret (v := rh4) hx hb hr (fun t ht hW => ⟨rh4, rfl, trivial, ht⟩) (fun _ h => by cases h) dX12_wrong_32
set_option maxHeartbeats 4000000 in
set_option maxRecDepth 100000 in
theorem tX12_sign (l : Launch) (E : tE) (X : tX) (A : Nat → Prop) (z : tZ) (I0 : tI) (L0 : tL) (a0 : Nat) (t_a0 : z.ty a0 = 13) (p : Int32) (p_t : Int) (h_p : p.toInt = p_t) (c : Int32) (c_t : Int) (h_c : c.toInt = c_t) (y : Int32) (y_t : Int) (h_y : y.toInt = y_t) (n : Int32) (n_t : Int) (h_n : n.toInt = n_t) (u : Int32) (u_t : Int) (h_u : u.toInt = u_t) (q : Int32) (q_t : Int) (h_q : q.toInt = q_t) (h : Int32) (h_t : Int) (h_h : h.toInt = h_t) (b_h : 0 ≤ h_t ∧ h_t ≤ 1) : Met l yX12_sign wsX12_sign ({ frames := 6, cells := 0, slots := 0, locals := 384 }) (va_Pc [.ref a0, .int p, .int c, .int y, .int n, .int u, .int q, .int h] (h_P E X A z I0 L0)) (va_Qi (fun r (I1 : tI) => h_I z I1 ∧ h_F [(1324, 999), (1314, 999), (1315, 999), (1316, 999), (1317, 999), (1318, 999), (1319, 999), (1320, 999), (1321, 999), (13, 33)] z I0 I1 ∧ True) (fun (I1 : tI) t => h_B E A z I1 L0 t) A) 0 0 A := by
  refine Met.ofW (cc := cX12_sign) (maxL := 8) (ret := (some .int)) (by decide) rfl ?_
  intro pr_ ev_ s m args below meth cd_ s₁ B hml hv
  obtain ⟨rfl, hE, hk, hX, hA, hK, hI, hR, hB0⟩ := hv
  have g : h_G h_so h_fk E A z I0 L0 s s.heap s.heap [] := ⟨hK, va_S.rf, hB0⟩
  have hF : h_F [(1324, 999), (1314, 999), (1315, 999), (1316, 999), (1317, 999), (1318, 999), (1319, 999), (1320, 999), (1321, 999), (13, 33)] z I0 I0 := h_F.rf
  have hx := B.exec
  have hb := B.bytes
  have hr := B.returns
  have hts := atoms_spec (ws := wsX12_sign) B.pre
  have hown : s.vm.findClass RX12 = some m.cls := findClass_of_methodNamed B.named
  have hlocks := B.notSynchronized
  have iX12 : ∀ w ∈ u_ws RX12 TX12 51, w ∈ wsX12_sign := by decide +kernel
  have hl := lv_entry ([.ref a0, .int p, .int c, .int y, .int n, .int u, .int q, .int h]) (n := 8) (Nat.le_of_ble_eq_true rfl)
  rw [lg_entry_eq]
  generalize (lg_sl ([.ref a0, .int p, .int c, .int y, .int n, .int u, .int q, .int h]) ++ List.replicate (8 - (lg_sl ([.ref a0, .int p, .int c, .int y, .int n, .int u, .int q, .int h])).length) Slot.unset).toArray = ls at hl ⊢
  have hl : lv_has ls 8 [(0, .ref a0), (1, .int p), (2, .int c), (3, .int y), (4, .int n), (5, .int u), (6, .int q), (7, .int h)] := hl
  have b_p : -2147483648 ≤ p_t ∧ p_t ≤ 2147483647 := h_p ▸ ⟨xi_lo p, Int.le_of_lt_add_one (xi_hi p)⟩
  have b_c : -2147483648 ≤ c_t ∧ c_t ≤ 2147483647 := h_c ▸ ⟨xi_lo c, Int.le_of_lt_add_one (xi_hi c)⟩
  have b_y : -2147483648 ≤ y_t ∧ y_t ≤ 2147483647 := h_y ▸ ⟨xi_lo y, Int.le_of_lt_add_one (xi_hi y)⟩
  have b_n : -2147483648 ≤ n_t ∧ n_t ≤ 2147483647 := h_n ▸ ⟨xi_lo n, Int.le_of_lt_add_one (xi_hi n)⟩
  have b_u : -2147483648 ≤ u_t ∧ u_t ≤ 2147483647 := h_u ▸ ⟨xi_lo u, Int.le_of_lt_add_one (xi_hi u)⟩
  have b_q : -2147483648 ≤ q_t ∧ q_t ≤ 2147483647 := h_q ▸ ⟨xi_lo q, Int.le_of_lt_add_one (xi_hi q)⟩
  refine lv_aload_n hx hb dX12_sign_0 rfl (lv_at hl 0 rfl) ?_
  refine lv_iload_n hx hb dX12_sign_1 rfl (lv_at hl 1 rfl) ?_
  refine lv_iload_n hx hb dX12_sign_2 rfl (lv_at hl 2 rfl) ?_
  refine lv_iload_n hx hb dX12_sign_3 rfl (lv_at hl 3 rfl) ?_
  refine lv_iload hx hb dX12_sign_4 (lv_at hl 4 rfl) ?_
  refine lv_iload hx hb dX12_sign_6 (lv_at hl 5 rfl) ?_
  refine lv_iload hx hb dX12_sign_8 (lv_at hl 6 rfl) ?_
  refine lv_iload hx hb dX12_sign_10 (lv_at hl 7 rfl) ?_
  refine vp_callSi (W.runV (As := [.int p, .int c, .int y, .int n, .int u, .int q, .int h]) (rest := []) ⟨hx, hb, hml, hown, hts⟩ (tX12_isDeal l E X A z I0 L0 a0 t_a0 p (p_t) h_p c (c_t) h_c y (y_t) h_y n (n_t) h_n u (u_t) h_u q (q_t) h_q h (h_t) h_h (by omega)) (cwV 7 hts gX12_sign_X12_isDeal rfl rfl rfl (by decide +kernel) ⟨Nat.le_of_ble_eq_true rfl, Nat.le_of_ble_eq_true rfl⟩) ⟨h_blind _ _ _ _ _ _ _, h_recv g t_a0 (by decide) so_13 (q := (RX12, TX12, 51)) rfl, h_pre _ hE hk hX hA hI hR g⟩ rfl rfl hl.1 rfl (lv_room (Nat.le_of_ble_eq_true rfl)) dX12_sign_12 ⟨Nat.le_of_ble_eq_true rfl, Nat.le_of_ble_eq_true rfl⟩) (fun rh1 h1 => ?_)
  rcases h1 with ⟨rfl, h1⟩ | ⟨rfl, h1⟩
  · skip
    refine lv_if_ne (tgt := 21) hx hb dX12_sign_15 (by decide) (fun h => absurd (by decide) h) (fun _ => ?_)
    refine lv_bipush (v := (-2)) hx hb dX12_sign_18 (by decide) ?_
    have hS := g.2.1
    exact W.iret (v := (-2)) hx hb hr (fun t ht hW => ⟨⟨(-2), I0, rfl, ⟨hI, hF, trivial⟩, h_ret g ht⟩, hS.F ht⟩) hS.2.2 dX12_sign_20
  · skip
    refine lv_if_ne (tgt := 21) hx hb dX12_sign_15 (by decide) (fun _ => ?_) (fun h => absurd h (by decide))
    refine lv_aload_n hx hb dX12_sign_21 rfl (lv_at hl 0 rfl) ?_
    refine lv_iload_n hx hb dX12_sign_22 rfl (lv_at hl 1 rfl) ?_
    refine lv_iload_n hx hb dX12_sign_23 rfl (lv_at hl 2 rfl) ?_
    refine lv_iload_n hx hb dX12_sign_24 rfl (lv_at hl 3 rfl) ?_
    refine lv_iload hx hb dX12_sign_25 (lv_at hl 4 rfl) ?_
    refine vp_callSi (W.runV (As := [.int p, .int c, .int y, .int n]) (rest := []) ⟨hx, hb, hml, hown, hts⟩ (tX12_wrongOf l E X A z I0 L0 a0 t_a0 p (p_t) h_p (by omega) c (c_t) h_c (by omega) y (y_t) h_y n (n_t) h_n) (cwV 4 hts gX12_sign_X12_wrongOf rfl rfl rfl (by decide +kernel) ⟨Nat.le_of_ble_eq_true rfl, Nat.le_of_ble_eq_true rfl⟩) ⟨h_blind _ _ _ _ _ _ _, h_recv g t_a0 (by decide) so_13 (q := (RX12, TX12, 51)) rfl, h_pre _ hE hk hX hA hI hR g⟩ rfl rfl hl.1 rfl (lv_room (Nat.le_of_ble_eq_true rfl)) dX12_sign_27 ⟨Nat.le_of_ble_eq_true rfl, Nat.le_of_ble_eq_true rfl⟩) (fun rh4 h4 => ?_)
    have jrh4 : -2147483648 ≤ rh4.toInt ∧ rh4.toInt ≤ 2147483647 := ⟨xi_lo _, Int.le_of_lt_add_one (xi_hi _)⟩
    refine lv_if_eq (tgt := 35) hx hb dX12_sign_30 (by decide) (fun c5 => ?_) (fun c5 => ?_)
    · have ic5 := (xi_eq c5 rfl (by decide) : rh4.toInt = 0)
      refine lv_aload_n hx hb dX12_sign_35 rfl (lv_at hl 0 rfl) ?_
      obtain ⟨b6, rb6, tb6⟩ := hR.at a0 24 t_a0 (rfl : h_rs 13 24 = some (1324, false)) (by decide)
      refine h_get (v := .ref b6) hx hb hts iX12 hown g t_a0 (by decide) so_13 rfl 24 (by decide) (hts (.fieldLink RX12 55 "CapLeagueModel" "usedSpare" "[Z") (by decide +kernel)) rfl dX12_sign_36 (by show va_rf (z.R a0 24) = _; rw [rb6]; rfl) ?_
      refine lv_iload_n hx hb dX12_sign_39 rfl (lv_at hl 2 rfl) ?_
      refine lv_aload_n hx hb dX12_sign_40 rfl (lv_at hl 0 rfl) ?_
      refine h_get (v := .ref b6) hx hb hts iX12 hown g t_a0 (by decide) so_13 rfl 24 (by decide) (hts (.fieldLink RX12 55 "CapLeagueModel" "usedSpare" "[Z") (by decide +kernel)) rfl dX12_sign_41 (by show va_rf (z.R a0 24) = _; rw [rb6]; rfl) ?_
      refine lv_iload_n hx hb dX12_sign_44 rfl (lv_at hl 2 rfl) ?_
      refine h_zald hx hb g tb6 (by decide) so_1324 (xi_in (by rw [h_c]; omega) (by rw [h_c]; omega)) dX12_sign_45 ?_
      refine lv_topi (fun v7 ev7 => ?_)
      have jv7 := hI.rd b6 c.toNatClampNeg tb6 ev7 (rfl : h_bd 1324 _ = (0, 1))
      refine lv_if_ne (tgt := 73) hx hb dX12_sign_46 (by decide) (fun c8 => ?_) (fun c8 => ?_)
      · have ic8 := (xi_ne c8 rfl (by decide) : v7.toInt ≠ 0)
        refine lv_iconst (v := 1) hx hb dX12_sign_73 (by decide) ?_
        refine lv_goto (tgt := 78) hx hb dX12_sign_74 (by decide) ?_
        refine h_zast hx hb g tb6 (by decide) so_1324 (xi_in (by rw [h_c]; omega) (by rw [h_c]; omega)) dX12_sign_78 (fun I9 H locs eI9 g => ?_)
        rw [h_nz (by decide) (by decide)] at eI9
        have hI := hI.wr eI9 tb6 (rfl : h_bd 1324 _ = (0, 1)) (by decide) (by decide)
        have hF := hF.wr eI9 tb6 rfl
        refine lv_aload_n hx hb dX12_sign_79 rfl (lv_at hl 0 rfl) ?_
        obtain ⟨b10, rb10, tb10⟩ := hR.at a0 14 t_a0 (rfl : h_rs 13 14 = some (1314, false)) (by decide)
        refine h_get (v := .ref b10) hx hb hts iX12 hown g t_a0 (by decide) so_13 rfl 14 (by decide) (hts (.fieldLink RX12 25 "CapLeagueModel" "clubOf" "[I") (by decide +kernel)) rfl dX12_sign_80 (by show va_rf (z.R a0 14) = _; rw [rb10]; rfl) ?_
        refine lv_iload_n hx hb dX12_sign_83 rfl (lv_at hl 1 rfl) ?_
        refine lv_iload_n hx hb dX12_sign_84 rfl (lv_at hl 2 rfl) ?_
        refine h_ast hx hb g tb10 (by decide) so_1314 (xi_in (by rw [h_p]; omega) (by rw [h_p]; omega)) dX12_sign_85 (fun I11 H locs eI11 g => ?_)
        have hI := hI.wr eI11 tb10 (rfl : h_bd 1314 _ = ((-1), 7)) (by rw [h_c]; omega) (by rw [h_c]; omega)
        have hF := hF.wr eI11 tb10 rfl
        refine lv_aload_n hx hb dX12_sign_86 rfl (lv_at hl 0 rfl) ?_
        obtain ⟨b12, rb12, tb12⟩ := hR.at a0 15 t_a0 (rfl : h_rs 13 15 = some (1315, false)) (by decide)
        refine h_get (v := .ref b12) hx hb hts iX12 hown g t_a0 (by decide) so_13 rfl 15 (by decide) (hts (.fieldLink RX12 28 "CapLeagueModel" "first" "[I") (by decide +kernel)) rfl dX12_sign_87 (by show va_rf (z.R a0 15) = _; rw [rb12]; rfl) ?_
        refine lv_iload_n hx hb dX12_sign_90 rfl (lv_at hl 1 rfl) ?_
        refine lv_aload_n hx hb dX12_sign_91 rfl (lv_at hl 0 rfl) ?_
        refine h_get (v := .int (I11 a0 12)) hx hb hts iX12 hown g t_a0 (by decide) so_13 rfl 12 (by decide) (hts (.fieldLink RX12 187 "CapLeagueModel" "clock" "I") (by decide +kernel)) rfl dX12_sign_92 rfl ?_
        refine lv_topi (fun v13 ev13 => ?_)
        have jv13 := hI.rd a0 12 t_a0 ev13 (rfl : h_bd 13 12 = (0, 9))
        refine h_ast hx hb g tb12 (by decide) so_1315 (xi_in (by rw [h_p]; omega) (by rw [h_p]; omega)) dX12_sign_95 (fun I14 H locs eI14 g => ?_)
        have hI := hI.wr eI14 tb12 (rfl : h_bd 1315 _ = ((-2147483648), 2147483647)) (xi_lo _) (Int.le_of_lt_add_one (xi_hi _))
        have hF := hF.wr eI14 tb12 rfl
        refine lv_aload_n hx hb dX12_sign_96 rfl (lv_at hl 0 rfl) ?_
        obtain ⟨b15, rb15, tb15⟩ := hR.at a0 16 t_a0 (rfl : h_rs 13 16 = some (1316, false)) (by decide)
        refine h_get (v := .ref b15) hx hb hts iX12 hown g t_a0 (by decide) so_13 rfl 16 (by decide) (hts (.fieldLink RX12 31 "CapLeagueModel" "last" "[I") (by decide +kernel)) rfl dX12_sign_97 (by show va_rf (z.R a0 16) = _; rw [rb15]; rfl) ?_
        refine lv_iload_n hx hb dX12_sign_100 rfl (lv_at hl 1 rfl) ?_
        refine lv_aload_n hx hb dX12_sign_101 rfl (lv_at hl 0 rfl) ?_
        refine h_get (v := .int v13) hx hb hts iX12 hown g t_a0 (by decide) so_13 rfl 12 (by decide) (hts (.fieldLink RX12 187 "CapLeagueModel" "clock" "I") (by decide +kernel)) rfl dX12_sign_102 (congrArg Value.int ((h_n1 eI14 t_a0 tb12 (by decide)).trans (ev13.symm))) ?_
        refine lv_iload_n hx hb dX12_sign_105 rfl (lv_at hl 3 rfl) ?_
        refine lv_iadd hx hb dX12_sign_106 ?_
        refine lv_topi (fun v16 ev16 => ?_)
        have jv16 : -2147483648 ≤ v16.toInt ∧ v16.toInt ≤ 2147483647 := ⟨xi_lo _, Int.le_of_lt_add_one (xi_hi _)⟩
        refine lv_iconst (v := 1) hx hb dX12_sign_107 (by decide) ?_
        refine lv_isub hx hb dX12_sign_108 ?_
        refine lv_topi (fun v17 ev17 => ?_)
        have jv17 : -2147483648 ≤ v17.toInt ∧ v17.toInt ≤ 2147483647 := ⟨xi_lo _, Int.le_of_lt_add_one (xi_hi _)⟩
        refine h_ast hx hb g tb15 (by decide) so_1316 (xi_in (by rw [h_p]; omega) (by rw [h_p]; omega)) dX12_sign_109 (fun I18 H locs eI18 g => ?_)
        have hI := hI.wr eI18 tb15 (rfl : h_bd 1316 _ = ((-2147483648), 2147483647)) (xi_lo _) (Int.le_of_lt_add_one (xi_hi _))
        have hF := hF.wr eI18 tb15 rfl
        refine lv_aload_n hx hb dX12_sign_110 rfl (lv_at hl 0 rfl) ?_
        obtain ⟨b19, rb19, tb19⟩ := hR.at a0 17 t_a0 (rfl : h_rs 13 17 = some (1317, false)) (by decide)
        refine h_get (v := .ref b19) hx hb hts iX12 hown g t_a0 (by decide) so_13 rfl 17 (by decide) (hts (.fieldLink RX12 34 "CapLeagueModel" "pay" "[I") (by decide +kernel)) rfl dX12_sign_111 (by show va_rf (z.R a0 17) = _; rw [rb19]; rfl) ?_
        refine lv_iload_n hx hb dX12_sign_114 rfl (lv_at hl 1 rfl) ?_
        refine lv_iload hx hb dX12_sign_115 (lv_at hl 4 rfl) ?_
        refine h_ast hx hb g tb19 (by decide) so_1317 (xi_in (by rw [h_p]; omega) (by rw [h_p]; omega)) dX12_sign_117 (fun I20 H locs eI20 g => ?_)
        have hI := hI.wr eI20 tb19 (rfl : h_bd 1317 _ = ((-2147483648), 2147483647)) (xi_lo _) (Int.le_of_lt_add_one (xi_hi _))
        have hF := hF.wr eI20 tb19 rfl
        refine lv_aload_n hx hb dX12_sign_118 rfl (lv_at hl 0 rfl) ?_
        obtain ⟨b21, rb21, tb21⟩ := hR.at a0 18 t_a0 (rfl : h_rs 13 18 = some (1318, false)) (by decide)
        refine h_get (v := .ref b21) hx hb hts iX12 hown g t_a0 (by decide) so_13 rfl 18 (by decide) (hts (.fieldLink RX12 37 "CapLeagueModel" "rise" "[I") (by decide +kernel)) rfl dX12_sign_119 (by show va_rf (z.R a0 18) = _; rw [rb21]; rfl) ?_
        refine lv_iload_n hx hb dX12_sign_122 rfl (lv_at hl 1 rfl) ?_
        refine lv_iload hx hb dX12_sign_123 (lv_at hl 5 rfl) ?_
        refine h_ast hx hb g tb21 (by decide) so_1318 (xi_in (by rw [h_p]; omega) (by rw [h_p]; omega)) dX12_sign_125 (fun I22 H locs eI22 g => ?_)
        have hI := hI.wr eI22 tb21 (rfl : h_bd 1318 _ = ((-2147483648), 2147483647)) (xi_lo _) (Int.le_of_lt_add_one (xi_hi _))
        have hF := hF.wr eI22 tb21 rfl
        refine lv_aload_n hx hb dX12_sign_126 rfl (lv_at hl 0 rfl) ?_
        obtain ⟨b23, rb23, tb23⟩ := hR.at a0 19 t_a0 (rfl : h_rs 13 19 = some (1319, false)) (by decide)
        refine h_get (v := .ref b23) hx hb hts iX12 hown g t_a0 (by decide) so_13 rfl 19 (by decide) (hts (.fieldLink RX12 40 "CapLeagueModel" "sure" "[I") (by decide +kernel)) rfl dX12_sign_127 (by show va_rf (z.R a0 19) = _; rw [rb23]; rfl) ?_
        refine lv_iload_n hx hb dX12_sign_130 rfl (lv_at hl 1 rfl) ?_
        refine lv_iload hx hb dX12_sign_131 (lv_at hl 6 rfl) ?_
        refine h_ast hx hb g tb23 (by decide) so_1319 (xi_in (by rw [h_p]; omega) (by rw [h_p]; omega)) dX12_sign_133 (fun I24 H locs eI24 g => ?_)
        have hI := hI.wr eI24 tb23 (rfl : h_bd 1319 _ = ((-2147483648), 2147483647)) (xi_lo _) (Int.le_of_lt_add_one (xi_hi _))
        have hF := hF.wr eI24 tb23 rfl
        refine lv_aload_n hx hb dX12_sign_134 rfl (lv_at hl 0 rfl) ?_
        obtain ⟨b25, rb25, tb25⟩ := hR.at a0 20 t_a0 (rfl : h_rs 13 20 = some (1320, false)) (by decide)
        refine h_get (v := .ref b25) hx hb hts iX12 hown g t_a0 (by decide) so_13 rfl 20 (by decide) (hts (.fieldLink RX12 43 "CapLeagueModel" "hasChoice" "[Z") (by decide +kernel)) rfl dX12_sign_135 (by show va_rf (z.R a0 20) = _; rw [rb25]; rfl) ?_
        refine lv_iload_n hx hb dX12_sign_138 rfl (lv_at hl 1 rfl) ?_
        refine lv_iload hx hb dX12_sign_139 (lv_at hl 7 rfl) ?_
        refine h_zast hx hb g tb25 (by decide) so_1320 (xi_in (by rw [h_p]; omega) (by rw [h_p]; omega)) dX12_sign_141 (fun I26 H locs eI26 g => ?_)
        rw [h_nz (by rw [h_h]; omega) (by rw [h_h]; omega)] at eI26
        have hI := hI.wr eI26 tb25 (rfl : h_bd 1320 _ = (0, 1)) (by rw [h_h]; omega) (by rw [h_h]; omega)
        have hF := hF.wr eI26 tb25 rfl
        refine lv_aload_n hx hb dX12_sign_142 rfl (lv_at hl 0 rfl) ?_
        obtain ⟨b27, rb27, tb27⟩ := hR.at a0 21 t_a0 (rfl : h_rs 13 21 = some (1321, false)) (by decide)
        refine h_get (v := .ref b27) hx hb hts iX12 hown g t_a0 (by decide) so_13 rfl 21 (by decide) (hts (.fieldLink RX12 46 "CapLeagueModel" "isTaken" "[Z") (by decide +kernel)) rfl dX12_sign_143 (by show va_rf (z.R a0 21) = _; rw [rb27]; rfl) ?_
        refine lv_iload_n hx hb dX12_sign_146 rfl (lv_at hl 1 rfl) ?_
        refine lv_iconst (v := 0) hx hb dX12_sign_147 (by decide) ?_
        refine h_zast hx hb g tb27 (by decide) so_1321 (xi_in (by rw [h_p]; omega) (by rw [h_p]; omega)) dX12_sign_148 (fun I28 H locs eI28 g => ?_)
        rw [h_nz (by decide) (by decide)] at eI28
        have hI := hI.wr eI28 tb27 (rfl : h_bd 1321 _ = (0, 1)) (by decide) (by decide)
        have hF := hF.wr eI28 tb27 rfl
        refine lv_aload_n hx hb dX12_sign_149 rfl (lv_at hl 0 rfl) ?_
        refine lv_iconst (v := 0) hx hb dX12_sign_150 (by decide) ?_
        refine h_putI (ty := .int) (v := 0) hx hb hts iX12 tyX12 tyX12_ok nmX12 hown g t_a0 (by decide) so_13 rfl 33 (by decide) rfl (hts (.fieldLink RX12 247 "CapLeagueModel" "moves" "I") (by decide +kernel)) rfl rfl (by decide +kernel) rfl rfl dX12_sign_151 (fun I29 H locs eI29 g => ?_)
        have hI := hI.wr eI29 t_a0 (rfl : h_bd 13 33 = (0, 12)) (by decide) (by decide)
        have hF := hF.wr eI29 t_a0 rfl
        refine lv_iconst (v := 1) hx hb dX12_sign_154 (by decide) ?_
        have hS := g.2.1
        exact W.iret (v := 1) hx hb hr (fun t ht hW => ⟨⟨1, I29, rfl, ⟨hI, hF, trivial⟩, h_ret g ht⟩, hS.F ht⟩) hS.2.2 dX12_sign_155
      · have ic8 := (xi_eq c8 rfl (by decide) : v7.toInt = 0)
        refine lv_aload_n hx hb dX12_sign_49 rfl (lv_at hl 0 rfl) ?_
        refine lv_iload_n hx hb dX12_sign_50 rfl (lv_at hl 2 rfl) ?_
        refine lv_aload_n hx hb dX12_sign_51 rfl (lv_at hl 0 rfl) ?_
        refine h_get (v := .int (I0 a0 12)) hx hb hts iX12 hown g t_a0 (by decide) so_13 rfl 12 (by decide) (hts (.fieldLink RX12 187 "CapLeagueModel" "clock" "I") (by decide +kernel)) rfl dX12_sign_52 rfl ?_
        refine lv_topi (fun v30 ev30 => ?_)
        have jv30 := hI.rd a0 12 t_a0 ev30 (rfl : h_bd 13 12 = (0, 9))
        refine vp_callSi (W.runV (As := [.int c, .int v30]) (rest := [.int c, .ref b6]) ⟨hx, hb, hml, hown, hts⟩ (tX12_counts l E X A z I0 L0 a0 t_a0 c (c_t) h_c (by omega) v30 (v30.toInt) rfl (by omega)) (cwV 2 hts gX12_sign_X12_counts rfl rfl rfl (by decide +kernel) ⟨Nat.le_of_ble_eq_true rfl, Nat.le_of_ble_eq_true rfl⟩) ⟨h_blind _ _ _ _ _ _ _, h_recv g t_a0 (by decide) so_13 (q := (RX12, TX12, 51)) rfl, h_pre _ hE hk hX hA hI hR g⟩ rfl rfl hl.1 rfl (lv_room (Nat.le_of_ble_eq_true rfl)) dX12_sign_55 ⟨Nat.le_of_ble_eq_true rfl, Nat.le_of_ble_eq_true rfl⟩) (fun rh31 h31 => ?_)
        have jrh31 : -2147483648 ≤ rh31.toInt ∧ rh31.toInt ≤ 2147483647 := ⟨xi_lo _, Int.le_of_lt_add_one (xi_hi _)⟩
        refine lv_iload hx hb dX12_sign_58 (lv_at hl 4 rfl) ?_
        refine lv_iadd hx hb dX12_sign_60 ?_
        refine lv_topi (fun v32 ev32 => ?_)
        have jv32 : -2147483648 ≤ v32.toInt ∧ v32.toInt ≤ 2147483647 := ⟨xi_lo _, Int.le_of_lt_add_one (xi_hi _)⟩
        refine lv_aload_n hx hb dX12_sign_61 rfl (lv_at hl 0 rfl) ?_
        refine lv_aload_n hx hb dX12_sign_62 rfl (lv_at hl 0 rfl) ?_
        refine h_get (v := .int v30) hx hb hts iX12 hown g t_a0 (by decide) so_13 rfl 12 (by decide) (hts (.fieldLink RX12 187 "CapLeagueModel" "clock" "I") (by decide +kernel)) rfl dX12_sign_63 (congrArg Value.int (ev30.symm)) ?_
        refine lv_iconst (v := 0) hx hb dX12_sign_66 (by decide) ?_
        refine vp_callSi (W.runV (As := [.int v30, .int 0]) (rest := [.int v32, .int c, .ref b6]) ⟨hx, hb, hml, hown, hts⟩ (tX12_lawOf l E X A z I0 L0 a0 t_a0 v30 (v30.toInt) rfl (by omega) 0 (0) (by decide) (by omega)) (cwV 2 hts gX12_sign_X12_lawOf rfl rfl rfl (by decide +kernel) ⟨Nat.le_of_ble_eq_true rfl, Nat.le_of_ble_eq_true rfl⟩) ⟨h_blind _ _ _ _ _ _ _, h_recv g t_a0 (by decide) so_13 (q := (RX12, TX12, 51)) rfl, h_pre _ hE hk hX hA hI hR g⟩ rfl rfl hl.1 rfl (lv_room (Nat.le_of_ble_eq_true rfl)) dX12_sign_67 ⟨Nat.le_of_ble_eq_true rfl, Nat.le_of_ble_eq_true rfl⟩) (fun rh33 h33 => ?_)
        have jrh33 : -2147483648 ≤ rh33.toInt ∧ rh33.toInt ≤ 2147483647 := ⟨xi_lo _, Int.le_of_lt_add_one (xi_hi _)⟩
        refine lv_icmp_le (tgt := 77) hx hb dX12_sign_70 (by decide) (fun c34 => ?_) (fun c34 => ?_)
        · have ic34 := (xi_le c34 rfl rfl : v32.toInt ≤ rh33.toInt)
          refine lv_iconst (v := 0) hx hb dX12_sign_77 (by decide) ?_
          refine h_zast hx hb g tb6 (by decide) so_1324 (xi_in (by rw [h_c]; omega) (by rw [h_c]; omega)) dX12_sign_78 (fun I35 H locs eI35 g => ?_)
          rw [h_nz (by decide) (by decide)] at eI35
          have hI := hI.wr eI35 tb6 (rfl : h_bd 1324 _ = (0, 1)) (by decide) (by decide)
          have hF := hF.wr eI35 tb6 rfl
          refine lv_aload_n hx hb dX12_sign_79 rfl (lv_at hl 0 rfl) ?_
          obtain ⟨b36, rb36, tb36⟩ := hR.at a0 14 t_a0 (rfl : h_rs 13 14 = some (1314, false)) (by decide)
          refine h_get (v := .ref b36) hx hb hts iX12 hown g t_a0 (by decide) so_13 rfl 14 (by decide) (hts (.fieldLink RX12 25 "CapLeagueModel" "clubOf" "[I") (by decide +kernel)) rfl dX12_sign_80 (by show va_rf (z.R a0 14) = _; rw [rb36]; rfl) ?_
          refine lv_iload_n hx hb dX12_sign_83 rfl (lv_at hl 1 rfl) ?_
          refine lv_iload_n hx hb dX12_sign_84 rfl (lv_at hl 2 rfl) ?_
          refine h_ast hx hb g tb36 (by decide) so_1314 (xi_in (by rw [h_p]; omega) (by rw [h_p]; omega)) dX12_sign_85 (fun I37 H locs eI37 g => ?_)
          have hI := hI.wr eI37 tb36 (rfl : h_bd 1314 _ = ((-1), 7)) (by rw [h_c]; omega) (by rw [h_c]; omega)
          have hF := hF.wr eI37 tb36 rfl
          refine lv_aload_n hx hb dX12_sign_86 rfl (lv_at hl 0 rfl) ?_
          obtain ⟨b38, rb38, tb38⟩ := hR.at a0 15 t_a0 (rfl : h_rs 13 15 = some (1315, false)) (by decide)
          refine h_get (v := .ref b38) hx hb hts iX12 hown g t_a0 (by decide) so_13 rfl 15 (by decide) (hts (.fieldLink RX12 28 "CapLeagueModel" "first" "[I") (by decide +kernel)) rfl dX12_sign_87 (by show va_rf (z.R a0 15) = _; rw [rb38]; rfl) ?_
          refine lv_iload_n hx hb dX12_sign_90 rfl (lv_at hl 1 rfl) ?_
          refine lv_aload_n hx hb dX12_sign_91 rfl (lv_at hl 0 rfl) ?_
          refine h_get (v := .int v30) hx hb hts iX12 hown g t_a0 (by decide) so_13 rfl 12 (by decide) (hts (.fieldLink RX12 187 "CapLeagueModel" "clock" "I") (by decide +kernel)) rfl dX12_sign_92 (congrArg Value.int ((h_n1 eI37 t_a0 tb36 (by decide)).trans ((h_n1 eI35 t_a0 tb6 (by decide)).trans (ev30.symm)))) ?_
          refine h_ast hx hb g tb38 (by decide) so_1315 (xi_in (by rw [h_p]; omega) (by rw [h_p]; omega)) dX12_sign_95 (fun I39 H locs eI39 g => ?_)
          have hI := hI.wr eI39 tb38 (rfl : h_bd 1315 _ = ((-2147483648), 2147483647)) (xi_lo _) (Int.le_of_lt_add_one (xi_hi _))
          have hF := hF.wr eI39 tb38 rfl
          refine lv_aload_n hx hb dX12_sign_96 rfl (lv_at hl 0 rfl) ?_
          obtain ⟨b40, rb40, tb40⟩ := hR.at a0 16 t_a0 (rfl : h_rs 13 16 = some (1316, false)) (by decide)
          refine h_get (v := .ref b40) hx hb hts iX12 hown g t_a0 (by decide) so_13 rfl 16 (by decide) (hts (.fieldLink RX12 31 "CapLeagueModel" "last" "[I") (by decide +kernel)) rfl dX12_sign_97 (by show va_rf (z.R a0 16) = _; rw [rb40]; rfl) ?_
          refine lv_iload_n hx hb dX12_sign_100 rfl (lv_at hl 1 rfl) ?_
          refine lv_aload_n hx hb dX12_sign_101 rfl (lv_at hl 0 rfl) ?_
          refine h_get (v := .int v30) hx hb hts iX12 hown g t_a0 (by decide) so_13 rfl 12 (by decide) (hts (.fieldLink RX12 187 "CapLeagueModel" "clock" "I") (by decide +kernel)) rfl dX12_sign_102 (congrArg Value.int ((h_n1 eI39 t_a0 tb38 (by decide)).trans ((h_n1 eI37 t_a0 tb36 (by decide)).trans ((h_n1 eI35 t_a0 tb6 (by decide)).trans (ev30.symm))))) ?_
          refine lv_iload_n hx hb dX12_sign_105 rfl (lv_at hl 3 rfl) ?_
          refine lv_iadd hx hb dX12_sign_106 ?_
          refine lv_topi (fun v41 ev41 => ?_)
          have jv41 : -2147483648 ≤ v41.toInt ∧ v41.toInt ≤ 2147483647 := ⟨xi_lo _, Int.le_of_lt_add_one (xi_hi _)⟩
          refine lv_iconst (v := 1) hx hb dX12_sign_107 (by decide) ?_
          refine lv_isub hx hb dX12_sign_108 ?_
          refine lv_topi (fun v42 ev42 => ?_)
          have jv42 : -2147483648 ≤ v42.toInt ∧ v42.toInt ≤ 2147483647 := ⟨xi_lo _, Int.le_of_lt_add_one (xi_hi _)⟩
          refine h_ast hx hb g tb40 (by decide) so_1316 (xi_in (by rw [h_p]; omega) (by rw [h_p]; omega)) dX12_sign_109 (fun I43 H locs eI43 g => ?_)
          have hI := hI.wr eI43 tb40 (rfl : h_bd 1316 _ = ((-2147483648), 2147483647)) (xi_lo _) (Int.le_of_lt_add_one (xi_hi _))
          have hF := hF.wr eI43 tb40 rfl
          refine lv_aload_n hx hb dX12_sign_110 rfl (lv_at hl 0 rfl) ?_
          obtain ⟨b44, rb44, tb44⟩ := hR.at a0 17 t_a0 (rfl : h_rs 13 17 = some (1317, false)) (by decide)
          refine h_get (v := .ref b44) hx hb hts iX12 hown g t_a0 (by decide) so_13 rfl 17 (by decide) (hts (.fieldLink RX12 34 "CapLeagueModel" "pay" "[I") (by decide +kernel)) rfl dX12_sign_111 (by show va_rf (z.R a0 17) = _; rw [rb44]; rfl) ?_
          refine lv_iload_n hx hb dX12_sign_114 rfl (lv_at hl 1 rfl) ?_
          refine lv_iload hx hb dX12_sign_115 (lv_at hl 4 rfl) ?_
          refine h_ast hx hb g tb44 (by decide) so_1317 (xi_in (by rw [h_p]; omega) (by rw [h_p]; omega)) dX12_sign_117 (fun I45 H locs eI45 g => ?_)
          have hI := hI.wr eI45 tb44 (rfl : h_bd 1317 _ = ((-2147483648), 2147483647)) (xi_lo _) (Int.le_of_lt_add_one (xi_hi _))
          have hF := hF.wr eI45 tb44 rfl
          refine lv_aload_n hx hb dX12_sign_118 rfl (lv_at hl 0 rfl) ?_
          obtain ⟨b46, rb46, tb46⟩ := hR.at a0 18 t_a0 (rfl : h_rs 13 18 = some (1318, false)) (by decide)
          refine h_get (v := .ref b46) hx hb hts iX12 hown g t_a0 (by decide) so_13 rfl 18 (by decide) (hts (.fieldLink RX12 37 "CapLeagueModel" "rise" "[I") (by decide +kernel)) rfl dX12_sign_119 (by show va_rf (z.R a0 18) = _; rw [rb46]; rfl) ?_
          refine lv_iload_n hx hb dX12_sign_122 rfl (lv_at hl 1 rfl) ?_
          refine lv_iload hx hb dX12_sign_123 (lv_at hl 5 rfl) ?_
          refine h_ast hx hb g tb46 (by decide) so_1318 (xi_in (by rw [h_p]; omega) (by rw [h_p]; omega)) dX12_sign_125 (fun I47 H locs eI47 g => ?_)
          have hI := hI.wr eI47 tb46 (rfl : h_bd 1318 _ = ((-2147483648), 2147483647)) (xi_lo _) (Int.le_of_lt_add_one (xi_hi _))
          have hF := hF.wr eI47 tb46 rfl
          refine lv_aload_n hx hb dX12_sign_126 rfl (lv_at hl 0 rfl) ?_
          obtain ⟨b48, rb48, tb48⟩ := hR.at a0 19 t_a0 (rfl : h_rs 13 19 = some (1319, false)) (by decide)
          refine h_get (v := .ref b48) hx hb hts iX12 hown g t_a0 (by decide) so_13 rfl 19 (by decide) (hts (.fieldLink RX12 40 "CapLeagueModel" "sure" "[I") (by decide +kernel)) rfl dX12_sign_127 (by show va_rf (z.R a0 19) = _; rw [rb48]; rfl) ?_
          refine lv_iload_n hx hb dX12_sign_130 rfl (lv_at hl 1 rfl) ?_
          refine lv_iload hx hb dX12_sign_131 (lv_at hl 6 rfl) ?_
          refine h_ast hx hb g tb48 (by decide) so_1319 (xi_in (by rw [h_p]; omega) (by rw [h_p]; omega)) dX12_sign_133 (fun I49 H locs eI49 g => ?_)
          have hI := hI.wr eI49 tb48 (rfl : h_bd 1319 _ = ((-2147483648), 2147483647)) (xi_lo _) (Int.le_of_lt_add_one (xi_hi _))
          have hF := hF.wr eI49 tb48 rfl
          refine lv_aload_n hx hb dX12_sign_134 rfl (lv_at hl 0 rfl) ?_
          obtain ⟨b50, rb50, tb50⟩ := hR.at a0 20 t_a0 (rfl : h_rs 13 20 = some (1320, false)) (by decide)
          refine h_get (v := .ref b50) hx hb hts iX12 hown g t_a0 (by decide) so_13 rfl 20 (by decide) (hts (.fieldLink RX12 43 "CapLeagueModel" "hasChoice" "[Z") (by decide +kernel)) rfl dX12_sign_135 (by show va_rf (z.R a0 20) = _; rw [rb50]; rfl) ?_
          refine lv_iload_n hx hb dX12_sign_138 rfl (lv_at hl 1 rfl) ?_
          refine lv_iload hx hb dX12_sign_139 (lv_at hl 7 rfl) ?_
          refine h_zast hx hb g tb50 (by decide) so_1320 (xi_in (by rw [h_p]; omega) (by rw [h_p]; omega)) dX12_sign_141 (fun I51 H locs eI51 g => ?_)
          rw [h_nz (by rw [h_h]; omega) (by rw [h_h]; omega)] at eI51
          have hI := hI.wr eI51 tb50 (rfl : h_bd 1320 _ = (0, 1)) (by rw [h_h]; omega) (by rw [h_h]; omega)
          have hF := hF.wr eI51 tb50 rfl
          refine lv_aload_n hx hb dX12_sign_142 rfl (lv_at hl 0 rfl) ?_
          obtain ⟨b52, rb52, tb52⟩ := hR.at a0 21 t_a0 (rfl : h_rs 13 21 = some (1321, false)) (by decide)
          refine h_get (v := .ref b52) hx hb hts iX12 hown g t_a0 (by decide) so_13 rfl 21 (by decide) (hts (.fieldLink RX12 46 "CapLeagueModel" "isTaken" "[Z") (by decide +kernel)) rfl dX12_sign_143 (by show va_rf (z.R a0 21) = _; rw [rb52]; rfl) ?_
          refine lv_iload_n hx hb dX12_sign_146 rfl (lv_at hl 1 rfl) ?_
          refine lv_iconst (v := 0) hx hb dX12_sign_147 (by decide) ?_
          refine h_zast hx hb g tb52 (by decide) so_1321 (xi_in (by rw [h_p]; omega) (by rw [h_p]; omega)) dX12_sign_148 (fun I53 H locs eI53 g => ?_)
          rw [h_nz (by decide) (by decide)] at eI53
          have hI := hI.wr eI53 tb52 (rfl : h_bd 1321 _ = (0, 1)) (by decide) (by decide)
          have hF := hF.wr eI53 tb52 rfl
          refine lv_aload_n hx hb dX12_sign_149 rfl (lv_at hl 0 rfl) ?_
          refine lv_iconst (v := 0) hx hb dX12_sign_150 (by decide) ?_
          refine h_putI (ty := .int) (v := 0) hx hb hts iX12 tyX12 tyX12_ok nmX12 hown g t_a0 (by decide) so_13 rfl 33 (by decide) rfl (hts (.fieldLink RX12 247 "CapLeagueModel" "moves" "I") (by decide +kernel)) rfl rfl (by decide +kernel) rfl rfl dX12_sign_151 (fun I54 H locs eI54 g => ?_)
          have hI := hI.wr eI54 t_a0 (rfl : h_bd 13 33 = (0, 12)) (by decide) (by decide)
          have hF := hF.wr eI54 t_a0 rfl
          refine lv_iconst (v := 1) hx hb dX12_sign_154 (by decide) ?_
          have hS := g.2.1
          exact W.iret (v := 1) hx hb hr (fun t ht hW => ⟨⟨1, I54, rfl, ⟨hI, hF, trivial⟩, h_ret g ht⟩, hS.F ht⟩) hS.2.2 dX12_sign_155
        · have ic34 := (xi_nle c34 rfl rfl : rh33.toInt < v32.toInt)
          refine lv_iconst (v := 1) hx hb dX12_sign_73 (by decide) ?_
          refine lv_goto (tgt := 78) hx hb dX12_sign_74 (by decide) ?_
          refine h_zast hx hb g tb6 (by decide) so_1324 (xi_in (by rw [h_c]; omega) (by rw [h_c]; omega)) dX12_sign_78 (fun I55 H locs eI55 g => ?_)
          rw [h_nz (by decide) (by decide)] at eI55
          have hI := hI.wr eI55 tb6 (rfl : h_bd 1324 _ = (0, 1)) (by decide) (by decide)
          have hF := hF.wr eI55 tb6 rfl
          refine lv_aload_n hx hb dX12_sign_79 rfl (lv_at hl 0 rfl) ?_
          obtain ⟨b56, rb56, tb56⟩ := hR.at a0 14 t_a0 (rfl : h_rs 13 14 = some (1314, false)) (by decide)
          refine h_get (v := .ref b56) hx hb hts iX12 hown g t_a0 (by decide) so_13 rfl 14 (by decide) (hts (.fieldLink RX12 25 "CapLeagueModel" "clubOf" "[I") (by decide +kernel)) rfl dX12_sign_80 (by show va_rf (z.R a0 14) = _; rw [rb56]; rfl) ?_
          refine lv_iload_n hx hb dX12_sign_83 rfl (lv_at hl 1 rfl) ?_
          refine lv_iload_n hx hb dX12_sign_84 rfl (lv_at hl 2 rfl) ?_
          refine h_ast hx hb g tb56 (by decide) so_1314 (xi_in (by rw [h_p]; omega) (by rw [h_p]; omega)) dX12_sign_85 (fun I57 H locs eI57 g => ?_)
          have hI := hI.wr eI57 tb56 (rfl : h_bd 1314 _ = ((-1), 7)) (by rw [h_c]; omega) (by rw [h_c]; omega)
          have hF := hF.wr eI57 tb56 rfl
          refine lv_aload_n hx hb dX12_sign_86 rfl (lv_at hl 0 rfl) ?_
          obtain ⟨b58, rb58, tb58⟩ := hR.at a0 15 t_a0 (rfl : h_rs 13 15 = some (1315, false)) (by decide)
          refine h_get (v := .ref b58) hx hb hts iX12 hown g t_a0 (by decide) so_13 rfl 15 (by decide) (hts (.fieldLink RX12 28 "CapLeagueModel" "first" "[I") (by decide +kernel)) rfl dX12_sign_87 (by show va_rf (z.R a0 15) = _; rw [rb58]; rfl) ?_
          refine lv_iload_n hx hb dX12_sign_90 rfl (lv_at hl 1 rfl) ?_
          refine lv_aload_n hx hb dX12_sign_91 rfl (lv_at hl 0 rfl) ?_
          refine h_get (v := .int v30) hx hb hts iX12 hown g t_a0 (by decide) so_13 rfl 12 (by decide) (hts (.fieldLink RX12 187 "CapLeagueModel" "clock" "I") (by decide +kernel)) rfl dX12_sign_92 (congrArg Value.int ((h_n1 eI57 t_a0 tb56 (by decide)).trans ((h_n1 eI55 t_a0 tb6 (by decide)).trans (ev30.symm)))) ?_
          refine h_ast hx hb g tb58 (by decide) so_1315 (xi_in (by rw [h_p]; omega) (by rw [h_p]; omega)) dX12_sign_95 (fun I59 H locs eI59 g => ?_)
          have hI := hI.wr eI59 tb58 (rfl : h_bd 1315 _ = ((-2147483648), 2147483647)) (xi_lo _) (Int.le_of_lt_add_one (xi_hi _))
          have hF := hF.wr eI59 tb58 rfl
          refine lv_aload_n hx hb dX12_sign_96 rfl (lv_at hl 0 rfl) ?_
          obtain ⟨b60, rb60, tb60⟩ := hR.at a0 16 t_a0 (rfl : h_rs 13 16 = some (1316, false)) (by decide)
          refine h_get (v := .ref b60) hx hb hts iX12 hown g t_a0 (by decide) so_13 rfl 16 (by decide) (hts (.fieldLink RX12 31 "CapLeagueModel" "last" "[I") (by decide +kernel)) rfl dX12_sign_97 (by show va_rf (z.R a0 16) = _; rw [rb60]; rfl) ?_
          refine lv_iload_n hx hb dX12_sign_100 rfl (lv_at hl 1 rfl) ?_
          refine lv_aload_n hx hb dX12_sign_101 rfl (lv_at hl 0 rfl) ?_
          refine h_get (v := .int v30) hx hb hts iX12 hown g t_a0 (by decide) so_13 rfl 12 (by decide) (hts (.fieldLink RX12 187 "CapLeagueModel" "clock" "I") (by decide +kernel)) rfl dX12_sign_102 (congrArg Value.int ((h_n1 eI59 t_a0 tb58 (by decide)).trans ((h_n1 eI57 t_a0 tb56 (by decide)).trans ((h_n1 eI55 t_a0 tb6 (by decide)).trans (ev30.symm))))) ?_
          refine lv_iload_n hx hb dX12_sign_105 rfl (lv_at hl 3 rfl) ?_
          refine lv_iadd hx hb dX12_sign_106 ?_
          refine lv_topi (fun v61 ev61 => ?_)
          have jv61 : -2147483648 ≤ v61.toInt ∧ v61.toInt ≤ 2147483647 := ⟨xi_lo _, Int.le_of_lt_add_one (xi_hi _)⟩
          refine lv_iconst (v := 1) hx hb dX12_sign_107 (by decide) ?_
          refine lv_isub hx hb dX12_sign_108 ?_
          refine lv_topi (fun v62 ev62 => ?_)
          have jv62 : -2147483648 ≤ v62.toInt ∧ v62.toInt ≤ 2147483647 := ⟨xi_lo _, Int.le_of_lt_add_one (xi_hi _)⟩
          refine h_ast hx hb g tb60 (by decide) so_1316 (xi_in (by rw [h_p]; omega) (by rw [h_p]; omega)) dX12_sign_109 (fun I63 H locs eI63 g => ?_)
          have hI := hI.wr eI63 tb60 (rfl : h_bd 1316 _ = ((-2147483648), 2147483647)) (xi_lo _) (Int.le_of_lt_add_one (xi_hi _))
          have hF := hF.wr eI63 tb60 rfl
          refine lv_aload_n hx hb dX12_sign_110 rfl (lv_at hl 0 rfl) ?_
          obtain ⟨b64, rb64, tb64⟩ := hR.at a0 17 t_a0 (rfl : h_rs 13 17 = some (1317, false)) (by decide)
          refine h_get (v := .ref b64) hx hb hts iX12 hown g t_a0 (by decide) so_13 rfl 17 (by decide) (hts (.fieldLink RX12 34 "CapLeagueModel" "pay" "[I") (by decide +kernel)) rfl dX12_sign_111 (by show va_rf (z.R a0 17) = _; rw [rb64]; rfl) ?_
          refine lv_iload_n hx hb dX12_sign_114 rfl (lv_at hl 1 rfl) ?_
          refine lv_iload hx hb dX12_sign_115 (lv_at hl 4 rfl) ?_
          refine h_ast hx hb g tb64 (by decide) so_1317 (xi_in (by rw [h_p]; omega) (by rw [h_p]; omega)) dX12_sign_117 (fun I65 H locs eI65 g => ?_)
          have hI := hI.wr eI65 tb64 (rfl : h_bd 1317 _ = ((-2147483648), 2147483647)) (xi_lo _) (Int.le_of_lt_add_one (xi_hi _))
          have hF := hF.wr eI65 tb64 rfl
          refine lv_aload_n hx hb dX12_sign_118 rfl (lv_at hl 0 rfl) ?_
          obtain ⟨b66, rb66, tb66⟩ := hR.at a0 18 t_a0 (rfl : h_rs 13 18 = some (1318, false)) (by decide)
          refine h_get (v := .ref b66) hx hb hts iX12 hown g t_a0 (by decide) so_13 rfl 18 (by decide) (hts (.fieldLink RX12 37 "CapLeagueModel" "rise" "[I") (by decide +kernel)) rfl dX12_sign_119 (by show va_rf (z.R a0 18) = _; rw [rb66]; rfl) ?_
          refine lv_iload_n hx hb dX12_sign_122 rfl (lv_at hl 1 rfl) ?_
          refine lv_iload hx hb dX12_sign_123 (lv_at hl 5 rfl) ?_
          refine h_ast hx hb g tb66 (by decide) so_1318 (xi_in (by rw [h_p]; omega) (by rw [h_p]; omega)) dX12_sign_125 (fun I67 H locs eI67 g => ?_)
          have hI := hI.wr eI67 tb66 (rfl : h_bd 1318 _ = ((-2147483648), 2147483647)) (xi_lo _) (Int.le_of_lt_add_one (xi_hi _))
          have hF := hF.wr eI67 tb66 rfl
          refine lv_aload_n hx hb dX12_sign_126 rfl (lv_at hl 0 rfl) ?_
          obtain ⟨b68, rb68, tb68⟩ := hR.at a0 19 t_a0 (rfl : h_rs 13 19 = some (1319, false)) (by decide)
          refine h_get (v := .ref b68) hx hb hts iX12 hown g t_a0 (by decide) so_13 rfl 19 (by decide) (hts (.fieldLink RX12 40 "CapLeagueModel" "sure" "[I") (by decide +kernel)) rfl dX12_sign_127 (by show va_rf (z.R a0 19) = _; rw [rb68]; rfl) ?_
          refine lv_iload_n hx hb dX12_sign_130 rfl (lv_at hl 1 rfl) ?_
          refine lv_iload hx hb dX12_sign_131 (lv_at hl 6 rfl) ?_
          refine h_ast hx hb g tb68 (by decide) so_1319 (xi_in (by rw [h_p]; omega) (by rw [h_p]; omega)) dX12_sign_133 (fun I69 H locs eI69 g => ?_)
          have hI := hI.wr eI69 tb68 (rfl : h_bd 1319 _ = ((-2147483648), 2147483647)) (xi_lo _) (Int.le_of_lt_add_one (xi_hi _))
          have hF := hF.wr eI69 tb68 rfl
          refine lv_aload_n hx hb dX12_sign_134 rfl (lv_at hl 0 rfl) ?_
          obtain ⟨b70, rb70, tb70⟩ := hR.at a0 20 t_a0 (rfl : h_rs 13 20 = some (1320, false)) (by decide)
          refine h_get (v := .ref b70) hx hb hts iX12 hown g t_a0 (by decide) so_13 rfl 20 (by decide) (hts (.fieldLink RX12 43 "CapLeagueModel" "hasChoice" "[Z") (by decide +kernel)) rfl dX12_sign_135 (by show va_rf (z.R a0 20) = _; rw [rb70]; rfl) ?_
          refine lv_iload_n hx hb dX12_sign_138 rfl (lv_at hl 1 rfl) ?_
          refine lv_iload hx hb dX12_sign_139 (lv_at hl 7 rfl) ?_
          refine h_zast hx hb g tb70 (by decide) so_1320 (xi_in (by rw [h_p]; omega) (by rw [h_p]; omega)) dX12_sign_141 (fun I71 H locs eI71 g => ?_)
          rw [h_nz (by rw [h_h]; omega) (by rw [h_h]; omega)] at eI71
          have hI := hI.wr eI71 tb70 (rfl : h_bd 1320 _ = (0, 1)) (by rw [h_h]; omega) (by rw [h_h]; omega)
          have hF := hF.wr eI71 tb70 rfl
          refine lv_aload_n hx hb dX12_sign_142 rfl (lv_at hl 0 rfl) ?_
          obtain ⟨b72, rb72, tb72⟩ := hR.at a0 21 t_a0 (rfl : h_rs 13 21 = some (1321, false)) (by decide)
          refine h_get (v := .ref b72) hx hb hts iX12 hown g t_a0 (by decide) so_13 rfl 21 (by decide) (hts (.fieldLink RX12 46 "CapLeagueModel" "isTaken" "[Z") (by decide +kernel)) rfl dX12_sign_143 (by show va_rf (z.R a0 21) = _; rw [rb72]; rfl) ?_
          refine lv_iload_n hx hb dX12_sign_146 rfl (lv_at hl 1 rfl) ?_
          refine lv_iconst (v := 0) hx hb dX12_sign_147 (by decide) ?_
          refine h_zast hx hb g tb72 (by decide) so_1321 (xi_in (by rw [h_p]; omega) (by rw [h_p]; omega)) dX12_sign_148 (fun I73 H locs eI73 g => ?_)
          rw [h_nz (by decide) (by decide)] at eI73
          have hI := hI.wr eI73 tb72 (rfl : h_bd 1321 _ = (0, 1)) (by decide) (by decide)
          have hF := hF.wr eI73 tb72 rfl
          refine lv_aload_n hx hb dX12_sign_149 rfl (lv_at hl 0 rfl) ?_
          refine lv_iconst (v := 0) hx hb dX12_sign_150 (by decide) ?_
          refine h_putI (ty := .int) (v := 0) hx hb hts iX12 tyX12 tyX12_ok nmX12 hown g t_a0 (by decide) so_13 rfl 33 (by decide) rfl (hts (.fieldLink RX12 247 "CapLeagueModel" "moves" "I") (by decide +kernel)) rfl rfl (by decide +kernel) rfl rfl dX12_sign_151 (fun I74 H locs eI74 g => ?_)
          have hI := hI.wr eI74 t_a0 (rfl : h_bd 13 33 = (0, 12)) (by decide) (by decide)
          have hF := hF.wr eI74 t_a0 rfl
          refine lv_iconst (v := 1) hx hb dX12_sign_154 (by decide) ?_
          have hS := g.2.1
          exact W.iret (v := 1) hx hb hr (fun t ht hW => ⟨⟨1, I74, rfl, ⟨hI, hF, trivial⟩, h_ret g ht⟩, hS.F ht⟩) hS.2.2 dX12_sign_155
    · have ic5 := (xi_ne c5 rfl (by decide) : rh4.toInt ≠ 0)
      refine lv_iconst (v := 0) hx hb dX12_sign_33 (by decide) ?_
      have hS := g.2.1
      exact W.iret (v := 0) hx hb hr (fun t ht hW => ⟨⟨0, I0, rfl, ⟨hI, hF, trivial⟩, h_ret g ht⟩, hS.F ht⟩) hS.2.2 dX12_sign_34
set_option maxHeartbeats 4000000 in
set_option maxRecDepth 100000 in
theorem tX12_club (l : Launch) (E : tE) (X : tX) (A : Nat → Prop) (z : tZ) (I0 : tI) (L0 : tL) (a0 : Nat) (t_a0 : z.ty a0 = 13) (c : Int32) (c_t : Int) (h_c : c.toInt = c_t) (y : Int32) (y_t : Int) (h_y : y.toInt = y_t) (x : Int32) (x_t : Int) (h_x : x.toInt = x_t) : Met l yX12_club wsX12_club ({ frames := 5, cells := 0, slots := 0, locals := 320 }) (va_Pc [.ref a0, .int c, .int y, .int x] (h_P E X A z I0 L0)) (vp_Si (fun r => True)) 0 0 (fun _ => False) := by
  refine Met.ofW (cc := cX12_club) (maxL := 4) (ret := (some .int)) (by decide) rfl ?_
  intro pr_ ev_ s m args below meth cd_ s₁ B hml hv
  obtain ⟨rfl, hE, hk, hX, hA, hK, hI, hR, hB0⟩ := hv
  have g : h_G h_so h_fk E A z I0 L0 s s.heap s.heap [] := ⟨hK, va_S.rf, hB0⟩
  have hx := B.exec
  have hb := B.bytes
  have hr := B.returns
  have hts := atoms_spec (ws := wsX12_club) B.pre
  have hown : s.vm.findClass RX12 = some m.cls := findClass_of_methodNamed B.named
  have hlocks := B.notSynchronized
  have iX12 : ∀ w ∈ u_ws RX12 TX12 51, w ∈ wsX12_club := by decide +kernel
  have hl := lv_entry ([.ref a0, .int c, .int y, .int x]) (n := 4) (Nat.le_of_ble_eq_true rfl)
  rw [lg_entry_eq]
  generalize (lg_sl ([.ref a0, .int c, .int y, .int x]) ++ List.replicate (4 - (lg_sl ([.ref a0, .int c, .int y, .int x])).length) Slot.unset).toArray = ls at hl ⊢
  have hl : lv_has ls 4 [(0, .ref a0), (1, .int c), (2, .int y), (3, .int x)] := hl
  have b_c : -2147483648 ≤ c_t ∧ c_t ≤ 2147483647 := h_c ▸ ⟨xi_lo c, Int.le_of_lt_add_one (xi_hi c)⟩
  have b_y : -2147483648 ≤ y_t ∧ y_t ≤ 2147483647 := h_y ▸ ⟨xi_lo y, Int.le_of_lt_add_one (xi_hi y)⟩
  have b_x : -2147483648 ≤ x_t ∧ x_t ≤ 2147483647 := h_x ▸ ⟨xi_lo x, Int.le_of_lt_add_one (xi_hi x)⟩
  refine lv_iload_n hx hb dX12_club_0 rfl (lv_at hl 1 rfl) ?_
  refine vp_callSi (W.runS (As := [.int c]) (rest := []) ⟨hx, hb, hml, hown, hts⟩ (tX12_isClub l E X A z I0 L0 c (c_t) h_c) (va_cwS 1 hts gX12_club_X12_isClub rfl rfl rfl (by decide +kernel) ⟨Nat.le_of_ble_eq_true rfl, Nat.le_of_ble_eq_true rfl⟩) ⟨h_blind _ _ _ _ _ _ _, h_pre _ hE hk hX hA hI hR g⟩ rfl rfl hl.1 rfl (lv_room (Nat.le_of_ble_eq_true rfl)) dX12_club_1 ⟨Nat.le_of_ble_eq_true rfl, Nat.le_of_ble_eq_true rfl⟩) (fun rh1 h1 => ?_)
  rcases h1 with ⟨rfl, h1⟩ | ⟨rfl, h1⟩
  · skip
    refine lv_if_eq (tgt := 23) hx hb dX12_club_4 (by decide) (fun _ => ?_) (fun h => absurd (by decide) h)
    refine lv_bipush (v := (-2)) hx hb dX12_club_23 (by decide) ?_
    exact W.iret (v := (-2)) hx hb hr (fun t ht hW => ⟨(-2), rfl, trivial, ht⟩) (fun _ h => by cases h) dX12_club_25
  · skip
    refine lv_if_eq (tgt := 23) hx hb dX12_club_4 (by decide) (fun h => absurd h (by decide)) (fun _ => ?_)
    refine lv_iload_n hx hb dX12_club_7 rfl (lv_at hl 2 rfl) ?_
    refine lv_i2l hx hb dX12_club_8 rfl ?_
    refine lv_topl (fun v4 ev4 => ?_)
    have jv4 : v4.toInt = y_t := by rw [ev4, xi_64]; exact h_y
    refine lv_aload_n hx hb dX12_club_9 rfl (lv_at hl 0 rfl) ?_
    refine h_get (v := .int (I0 a0 12)) hx hb hts iX12 hown g t_a0 (by decide) so_13 rfl 12 (by decide) (hts (.fieldLink RX12 187 "CapLeagueModel" "clock" "I") (by decide +kernel)) rfl dX12_club_10 rfl ?_
    refine lv_topi (fun v5 ev5 => ?_)
    have jv5 := hI.rd a0 12 t_a0 ev5 (rfl : h_bd 13 12 = (0, 9))
    refine lv_i2l hx hb dX12_club_13 rfl ?_
    refine lv_topl (fun v6 ev6 => ?_)
    have jv6 : v6.toInt = v5.toInt := by rw [ev6, xi_64]
    refine lv_ldc2 (v := 9) hx hb hown (hts (.constantLong RX12 190 (9)) (by decide +kernel)) dX12_club_14 ?_
    refine vp_callSi (W.runS (As := [.long v4, .long v6, .long 9]) (rest := []) ⟨hx, hb, hml, hown, hts⟩ (tX12_in l E X A z I0 L0 v4 (y_t) jv4 v6 (v5.toInt) jv6 9 (9) (by decide)) (va_cwS 3 hts gX12_club_X12_in rfl rfl rfl (by decide +kernel) ⟨Nat.le_of_ble_eq_true rfl, Nat.le_of_ble_eq_true rfl⟩) ⟨h_blind _ _ _ _ _ _ _, h_pre _ hE hk hX hA hI hR g⟩ rfl rfl hl.1 rfl (lv_room (Nat.le_of_ble_eq_true rfl)) dX12_club_17 ⟨Nat.le_of_ble_eq_true rfl, Nat.le_of_ble_eq_true rfl⟩) (fun rh7 h7 => ?_)
    rcases h7 with ⟨rfl, h7⟩ | ⟨rfl, h7⟩
    · skip
      refine lv_if_ne (tgt := 26) hx hb dX12_club_20 (by decide) (fun h => absurd (by decide) h) (fun _ => ?_)
      refine lv_bipush (v := (-2)) hx hb dX12_club_23 (by decide) ?_
      exact W.iret (v := (-2)) hx hb hr (fun t ht hW => ⟨(-2), rfl, trivial, ht⟩) (fun _ h => by cases h) dX12_club_25
    · skip
      refine lv_if_ne (tgt := 26) hx hb dX12_club_20 (by decide) (fun _ => ?_) (fun h => absurd h (by decide))
      refine lv_iload_n hx hb dX12_club_26 rfl (lv_at hl 3 rfl) ?_
      have qc10 : x.toInt = x_t := h_x
      rcases (show (x.toInt < 0 ∨ 3 < x.toInt) ∨ x.toInt = 0 ∨ x.toInt = 1 ∨ x.toInt = 2 ∨ x.toInt = 3 by omega) with c10 | c10 | c10 | c10 | c10
      · refine lv_tableOut (tgt := 105) hx hb dX12_club_27 c10 (by decide) ?_
        refine lv_bipush (v := (-2)) hx hb dX12_club_105 (by decide) ?_
        exact W.iret (v := (-2)) hx hb hr (fun t ht hW => ⟨(-2), rfl, trivial, ht⟩) (fun _ h => by cases h) dX12_club_107
      · refine lv_tableIn (off := 29) (tgt := 56) hx hb dX12_club_27 (by omega) (by omega) (by rw [show (x.toInt - 0).toNat = 0 by omega]; rfl) (by decide) ?_
        refine lv_aload_n hx hb dX12_club_56 rfl (lv_at hl 0 rfl) ?_
        refine lv_iload_n hx hb dX12_club_57 rfl (lv_at hl 1 rfl) ?_
        refine lv_iload_n hx hb dX12_club_58 rfl (lv_at hl 2 rfl) ?_
        refine vp_callSi (W.runV (As := [.int c, .int y]) (rest := []) ⟨hx, hb, hml, hown, hts⟩ (tX12_counts l E X A z I0 L0 a0 t_a0 c (c_t) h_c (by omega) y (y_t) h_y (by omega)) (cwV 2 hts gX12_club_X12_counts rfl rfl rfl (by decide +kernel) ⟨Nat.le_of_ble_eq_true rfl, Nat.le_of_ble_eq_true rfl⟩) ⟨h_blind _ _ _ _ _ _ _, h_recv g t_a0 (by decide) so_13 (q := (RX12, TX12, 51)) rfl, h_pre _ hE hk hX hA hI hR g⟩ rfl rfl hl.1 rfl (lv_room (Nat.le_of_ble_eq_true rfl)) dX12_club_59 ⟨Nat.le_of_ble_eq_true rfl, Nat.le_of_ble_eq_true rfl⟩) (fun rh11 h11 => ?_)
        have jrh11 : -2147483648 ≤ rh11.toInt ∧ rh11.toInt ≤ 2147483647 := ⟨xi_lo _, Int.le_of_lt_add_one (xi_hi _)⟩
        exact W.iret (v := rh11) hx hb hr (fun t ht hW => ⟨rh11, rfl, trivial, ht⟩) (fun _ h => by cases h) dX12_club_62
      · refine lv_tableIn (off := 36) (tgt := 63) hx hb dX12_club_27 (by omega) (by omega) (by rw [show (x.toInt - 0).toNat = 1 by omega]; rfl) (by decide) ?_
        refine lv_aload_n hx hb dX12_club_63 rfl (lv_at hl 0 rfl) ?_
        obtain ⟨b12, rb12, tb12⟩ := hR.at a0 23 t_a0 (rfl : h_rs 13 23 = some (1323, false)) (by decide)
        refine h_get (v := .ref b12) hx hb hts iX12 hown g t_a0 (by decide) so_13 rfl 23 (by decide) (hts (.fieldLink RX12 52 "CapLeagueModel" "dead" "[I") (by decide +kernel)) rfl dX12_club_64 (by show va_rf (z.R a0 23) = _; rw [rb12]; rfl) ?_
        refine lv_bipush (v := 10) hx hb dX12_club_67 (by decide) ?_
        refine lv_iload_n hx hb dX12_club_69 rfl (lv_at hl 1 rfl) ?_
        refine lv_imul hx hb dX12_club_70 ?_
        refine lv_topi (fun v13 ev13 => ?_)
        have jv13 : v13.toInt = 10 * c_t := xi_mul ev13 (by decide) h_c (by omega) (by omega)
        refine lv_iload_n hx hb dX12_club_71 rfl (lv_at hl 2 rfl) ?_
        refine lv_iadd hx hb dX12_club_72 ?_
        refine lv_topi (fun v14 ev14 => ?_)
        have jv14 : v14.toInt = v13.toInt + y_t := xi_add ev14 rfl h_y (by omega) (by omega)
        refine h_ald hx hb g tb12 (by decide) so_1323 (xi_in (by omega) (by omega)) dX12_club_73 ?_
        refine lv_topi (fun v15 ev15 => ?_)
        have jv15 := hI.rd b12 v14.toNatClampNeg tb12 ev15 (rfl : h_bd 1323 _ = ((-2147483648), 2147483647))
        exact W.iret (v := v15) hx hb hr (fun t ht hW => ⟨v15, rfl, trivial, ht⟩) (fun _ h => by cases h) dX12_club_74
      · refine lv_tableIn (off := 48) (tgt := 75) hx hb dX12_club_27 (by omega) (by omega) (by rw [show (x.toInt - 0).toNat = 2 by omega]; rfl) (by decide) ?_
        refine lv_aload_n hx hb dX12_club_75 rfl (lv_at hl 0 rfl) ?_
        refine lv_iload_n hx hb dX12_club_76 rfl (lv_at hl 1 rfl) ?_
        refine lv_iload_n hx hb dX12_club_77 rfl (lv_at hl 2 rfl) ?_
        refine vp_callSi (W.runV (As := [.int c, .int y]) (rest := []) ⟨hx, hb, hml, hown, hts⟩ (tX12_manyOf l E X A z I0 L0 a0 t_a0 c (c_t) h_c y (y_t) h_y) (cwV 2 hts gX12_club_X12_manyOf rfl rfl rfl (by decide +kernel) ⟨Nat.le_of_ble_eq_true rfl, Nat.le_of_ble_eq_true rfl⟩) ⟨h_blind _ _ _ _ _ _ _, h_recv g t_a0 (by decide) so_13 (q := (RX12, TX12, 51)) rfl, h_pre _ hE hk hX hA hI hR g⟩ rfl rfl hl.1 rfl (lv_room (Nat.le_of_ble_eq_true rfl)) dX12_club_78 ⟨Nat.le_of_ble_eq_true rfl, Nat.le_of_ble_eq_true rfl⟩) (fun rh16 h16 => ?_)
        have jrh16 : -2147483648 ≤ rh16.toInt ∧ rh16.toInt ≤ 2147483647 := ⟨xi_lo _, Int.le_of_lt_add_one (xi_hi _)⟩
        exact W.iret (v := rh16) hx hb hr (fun t ht hW => ⟨rh16, rfl, trivial, ht⟩) (fun _ h => by cases h) dX12_club_81
      · refine lv_tableIn (off := 55) (tgt := 82) hx hb dX12_club_27 (by omega) (by omega) (by rw [show (x.toInt - 0).toNat = 3 by omega]; rfl) (by decide) ?_
        refine lv_iload_n hx hb dX12_club_82 rfl (lv_at hl 2 rfl) ?_
        refine lv_aload_n hx hb dX12_club_83 rfl (lv_at hl 0 rfl) ?_
        refine h_get (v := .int v5) hx hb hts iX12 hown g t_a0 (by decide) so_13 rfl 12 (by decide) (hts (.fieldLink RX12 187 "CapLeagueModel" "clock" "I") (by decide +kernel)) rfl dX12_club_84 (congrArg Value.int (ev5.symm)) ?_
        refine lv_icmp_ne (tgt := 103) hx hb dX12_club_87 (by decide) (fun c17 => ?_) (fun c17 => ?_)
        · have ic17 := (xi_ne c17 h_y rfl : y_t ≠ v5.toInt)
          refine lv_iconst (v := 0) hx hb dX12_club_103 (by decide) ?_
          exact W.iret (v := 0) hx hb hr (fun t ht hW => ⟨0, rfl, trivial, ht⟩) (fun _ h => by cases h) dX12_club_104
        · have ic17 := (xi_eq c17 h_y rfl : y_t = v5.toInt)
          refine lv_aload_n hx hb dX12_club_90 rfl (lv_at hl 0 rfl) ?_
          obtain ⟨b18, rb18, tb18⟩ := hR.at a0 24 t_a0 (rfl : h_rs 13 24 = some (1324, false)) (by decide)
          refine h_get (v := .ref b18) hx hb hts iX12 hown g t_a0 (by decide) so_13 rfl 24 (by decide) (hts (.fieldLink RX12 55 "CapLeagueModel" "usedSpare" "[Z") (by decide +kernel)) rfl dX12_club_91 (by show va_rf (z.R a0 24) = _; rw [rb18]; rfl) ?_
          refine lv_iload_n hx hb dX12_club_94 rfl (lv_at hl 1 rfl) ?_
          refine h_zald hx hb g tb18 (by decide) so_1324 (xi_in (by rw [h_c]; omega) (by rw [h_c]; omega)) dX12_club_95 ?_
          refine lv_topi (fun v19 ev19 => ?_)
          have jv19 := hI.rd b18 c.toNatClampNeg tb18 ev19 (rfl : h_bd 1324 _ = (0, 1))
          refine lv_if_eq (tgt := 103) hx hb dX12_club_96 (by decide) (fun c20 => ?_) (fun c20 => ?_)
          · have ic20 := (xi_eq c20 rfl (by decide) : v19.toInt = 0)
            refine lv_iconst (v := 0) hx hb dX12_club_103 (by decide) ?_
            exact W.iret (v := 0) hx hb hr (fun t ht hW => ⟨0, rfl, trivial, ht⟩) (fun _ h => by cases h) dX12_club_104
          · have ic20 := (xi_ne c20 rfl (by decide) : v19.toInt ≠ 0)
            refine lv_iconst (v := 1) hx hb dX12_club_99 (by decide) ?_
            refine lv_goto (tgt := 104) hx hb dX12_club_100 (by decide) ?_
            exact W.iret (v := 1) hx hb hr (fun t ht hW => ⟨1, rfl, trivial, ht⟩) (fun _ h => by cases h) dX12_club_104
set_option maxHeartbeats 4000000 in
set_option maxRecDepth 100000 in
theorem tX12_bits (l : Launch) (E : tE) (X : tX) (A : Nat → Prop) (z : tZ) (I0 : tI) (L0 : tL) (x : Int32) (x_t : Int) (h_x : x.toInt = x_t) : Met l yX12_bits wsX12_bits ({ frames := 1, cells := 0, slots := 0, locals := 64 }) (va_Pc [.int x] (h_P E X A z I0 L0)) (vp_Si (fun r => True)) 0 0 (fun _ => False) := by
  refine Met.ofW (cc := cX12_bits) (maxL := 3) (ret := (some .int)) (by decide) rfl ?_
  intro pr_ ev_ s m args below meth cd_ s₁ B hml hv
  obtain ⟨rfl, hE, hk, hX, hA, hK, hI, hR, hB0⟩ := hv
  have g : h_G h_so h_fk E A z I0 L0 s s.heap s.heap [] := ⟨hK, va_S.rf, hB0⟩
  have hx := B.exec
  have hb := B.bytes
  have hr := B.returns
  have hts := atoms_spec (ws := wsX12_bits) B.pre
  have hown : s.vm.findClass RX12 = some m.cls := findClass_of_methodNamed B.named
  have hlocks := B.notSynchronized
  have hl := lv_entry ([.int x]) (n := 3) (Nat.le_of_ble_eq_true rfl)
  rw [lg_entry_eq]
  generalize (lg_sl ([.int x]) ++ List.replicate (3 - (lg_sl ([.int x])).length) Slot.unset).toArray = ls at hl ⊢
  have hl : lv_has ls 3 [(0, .int x)] := hl
  have b_x : -2147483648 ≤ x_t ∧ x_t ≤ 2147483647 := h_x ▸ ⟨xi_lo x, Int.le_of_lt_add_one (xi_hi x)⟩
  refine lv_iconst (v := 0) hx hb dX12_bits_0 (by decide) ?_
  refine lv_istore_n (lv' := [(1, .int 0), (0, .int x)]) hx hb dX12_bits_1 rfl hl (by decide) rfl (fun ls hl => ?_)
  refine lv_iload_n hx hb dX12_bits_2 rfl (lv_at hl 1 rfl) ?_
  refine lv_istore_n (lv' := [(2, .int x), (1, .int 0), (0, .int x)]) hx hb dX12_bits_3 rfl hl (by decide) rfl (fun ls hl => ?_)
  have loop4_0 : ∀ (n : Nat) (ls : Array Slot) (v1 v2 : Int32), lv_has ls 3 [(1, .int v1), (2, .int v2)] → ((-2147483648) ≤ v1.toInt ∧ v1.toInt ≤ 2147483647) → ((-2147483648) ≤ v2.toInt ∧ v2.toInt ≤ 2147483647) → (((v2).toBitVec.toNat : Int)) < (n : Int) → W pr_ l ev_ (headSpec wsX12_bits ({ frames := 1, cells := 0, slots := 0, locals := 64 })).room s m ([.int x] : List Value).toArray below meth cd_ s.heap [] 0 0 (MQ below (vp_Si (fun r => True)) ([.int x] : List Value).toArray s 0 0 (fun _ => False)) (F0 m 4 ls []) := by
    intro n
    induction n with
    | zero => intro ls v1 v2 hl jv1 jv2 hn; exact absurd hn (by omega)
    | succ n ih4 =>
      intro ls v1 v2 hl jv1 jv2 hn
      refine lv_iload_n hx hb dX12_bits_4 rfl (lv_at hl 1 rfl) ?_
      refine lv_if_eq (tgt := 20) hx hb dX12_bits_5 (by decide) (fun c3 => ?_) (fun c3 => ?_)
      · have ic3 := (xi_eq c3 rfl (by decide) : v2.toInt = 0)
        refine lv_iload_n hx hb dX12_bits_20 rfl (lv_at hl 0 rfl) ?_
        exact W.iret (v := v1) hx hb hr (fun t ht hW => ⟨v1, rfl, trivial, ht⟩) (fun _ h => by cases h) dX12_bits_21
      · have ic3 := (xi_ne c3 rfl (by decide) : v2.toInt ≠ 0)
        obtain ⟨v4, ev4⟩ : ∃ z : Int32, z = v1 + 1 := ⟨_, rfl⟩
        have jv4 : -2147483648 ≤ v4.toInt ∧ v4.toInt ≤ 2147483647 := ⟨xi_lo _, Int.le_of_lt_add_one (xi_hi _)⟩
        refine lv_iinc (v := v4) (lv' := [(1, .int v4), (2, .int v2)]) hx hb dX12_bits_8 hl (k := 0) rfl (by rw [ev4]; rfl) (by decide) rfl (fun ls hl => ?_)
        refine lv_iload_n hx hb dX12_bits_11 rfl (lv_at hl 1 rfl) ?_
        refine lv_iload_n hx hb dX12_bits_12 rfl (lv_at hl 1 rfl) ?_
        refine lv_iconst (v := 1) hx hb dX12_bits_13 (by decide) ?_
        refine lv_isub hx hb dX12_bits_14 ?_
        refine lv_topi (fun v5 ev5 => ?_)
        have jv5 : -2147483648 ≤ v5.toInt ∧ v5.toInt ≤ 2147483647 := ⟨xi_lo _, Int.le_of_lt_add_one (xi_hi _)⟩
        refine lv_iand hx hb dX12_bits_15 ?_
        refine lv_topi (fun v6 ev6 => ?_)
        have jv6 : -2147483648 ≤ v6.toInt ∧ v6.toInt ≤ 2147483647 := ⟨xi_lo _, Int.le_of_lt_add_one (xi_hi _)⟩
        have dv6 := h_bitdn (by omega) ev5 ev6
        refine lv_istore_n (lv' := [(2, .int v6), (1, .int v4)]) hx hb dX12_bits_16 rfl hl (by decide) rfl (fun ls hl => ?_)
        refine lv_goto (tgt := 4) hx hb dX12_bits_17 (by decide) ?_
        exact ih4 _ v4 v6 (lv_sub hl [1, 0] rfl) (by omega) (by omega) (by omega)
  exact loop4_0 _ _ (0) x (lv_sub hl [1, 0] rfl) ⟨by decide, by decide⟩ (by rw [h_x]; omega) (show (((x).toBitVec.toNat : Int)) < (((((x).toBitVec.toNat : Int)).toNat + 1 : Nat) : Int) by omega)
set_option maxHeartbeats 4000000 in
set_option maxRecDepth 100000 in
theorem tX12_add (l : Launch) (E : tE) (X : tX) (A : Nat → Prop) (z : tZ) (I0 : tI) (L0 : tL) (a0 : Nat) (t_a0 : z.ty a0 = 13) (x : Int32) (x_t : Int) (h_x : x.toInt = x_t) (b_x : 0 ≤ x_t ∧ x_t ≤ 139) (a : Int32) (a_t : Int) (h_a : a.toInt = a_t) (b : Int32) (b_t : Int) (h_b : b.toInt = b_t) (b_b : 0 ≤ b_t ∧ b_t ≤ 7) (k : Int32) (k_t : Int) (h_k : k.toInt = k_t) : Met l yX12_add wsX12_add ({ frames := 2, cells := 0, slots := 0, locals := 128 }) (va_Pc [.ref a0, .int x, .int a, .int b, .int k] (h_P E X A z I0 L0)) (va_Qi (fun r (I1 : tI) => h_I z I1 ∧ h_F [(1334, 999), (1335, 999), (1336, 999), (1337, 999), (13, 33)] z I0 I1 ∧ True) (fun (I1 : tI) t => h_B E A z I1 L0 t) A) 0 0 A := by
  refine Met.ofW (cc := cX12_add) (maxL := 5) (ret := (some .int)) (by decide) rfl ?_
  intro pr_ ev_ s m args below meth cd_ s₁ B hml hv
  obtain ⟨rfl, hE, hk, hX, hA, hK, hI, hR, hB0⟩ := hv
  have g : h_G h_so h_fk E A z I0 L0 s s.heap s.heap [] := ⟨hK, va_S.rf, hB0⟩
  have hF : h_F [(1334, 999), (1335, 999), (1336, 999), (1337, 999), (13, 33)] z I0 I0 := h_F.rf
  have hx := B.exec
  have hb := B.bytes
  have hr := B.returns
  have hts := atoms_spec (ws := wsX12_add) B.pre
  have hown : s.vm.findClass RX12 = some m.cls := findClass_of_methodNamed B.named
  have hlocks := B.notSynchronized
  have iX12 : ∀ w ∈ u_ws RX12 TX12 51, w ∈ wsX12_add := by decide +kernel
  have hl := lv_entry ([.ref a0, .int x, .int a, .int b, .int k]) (n := 5) (Nat.le_of_ble_eq_true rfl)
  rw [lg_entry_eq]
  generalize (lg_sl ([.ref a0, .int x, .int a, .int b, .int k]) ++ List.replicate (5 - (lg_sl ([.ref a0, .int x, .int a, .int b, .int k])).length) Slot.unset).toArray = ls at hl ⊢
  have hl : lv_has ls 5 [(0, .ref a0), (1, .int x), (2, .int a), (3, .int b), (4, .int k)] := hl
  have b_a : -2147483648 ≤ a_t ∧ a_t ≤ 2147483647 := h_a ▸ ⟨xi_lo a, Int.le_of_lt_add_one (xi_hi a)⟩
  have b_k : -2147483648 ≤ k_t ∧ k_t ≤ 2147483647 := h_k ▸ ⟨xi_lo k, Int.le_of_lt_add_one (xi_hi k)⟩
  refine lv_aload_n hx hb dX12_add_0 rfl (lv_at hl 0 rfl) ?_
  refine lv_iload_n hx hb dX12_add_1 rfl (lv_at hl 1 rfl) ?_
  refine vp_callSi (W.runV (As := [.int x]) (rest := []) ⟨hx, hb, hml, hown, hts⟩ (tX12_isMoved l E X A z I0 L0 a0 t_a0 x (x_t) h_x) (cwV 1 hts gX12_add_X12_isMoved rfl rfl rfl (by decide +kernel) ⟨Nat.le_of_ble_eq_true rfl, Nat.le_of_ble_eq_true rfl⟩) ⟨h_blind _ _ _ _ _ _ _, h_recv g t_a0 (by decide) so_13 (q := (RX12, TX12, 51)) rfl, h_pre _ hE hk hX hA hI hR g⟩ rfl rfl hl.1 rfl (lv_room (Nat.le_of_ble_eq_true rfl)) dX12_add_2 ⟨Nat.le_of_ble_eq_true rfl, Nat.le_of_ble_eq_true rfl⟩) (fun rh1 h1 => ?_)
  refine lv_if_ne (tgt := 27) hx hb dX12_add_5 (by decide) (fun c2 => ?_) (fun c2 => ?_)
  · have ic2 := (xi_ne c2 rfl (by decide) : rh1.toInt ≠ 0)
    refine lv_bipush (v := (-4)) hx hb dX12_add_27 (by decide) ?_
    have hS := g.2.1
    exact W.iret (v := (-4)) hx hb hr (fun t ht hW => ⟨⟨(-4), I0, rfl, ⟨hI, hF, trivial⟩, h_ret g ht⟩, hS.F ht⟩) hS.2.2 dX12_add_29
  · have ic2 := (xi_eq c2 rfl (by decide) : rh1.toInt = 0)
    refine lv_aload_n hx hb dX12_add_8 rfl (lv_at hl 0 rfl) ?_
    refine vp_callSi (W.runV (As := []) (rest := []) ⟨hx, hb, hml, hown, hts⟩ (tX12_clubsOf l E X A z I0 L0 a0 t_a0) (cwV 0 hts gX12_add_X12_clubsOf rfl rfl rfl (by decide +kernel) ⟨Nat.le_of_ble_eq_true rfl, Nat.le_of_ble_eq_true rfl⟩) ⟨h_blind _ _ _ _ _ _ _, h_recv g t_a0 (by decide) so_13 (q := (RX12, TX12, 51)) rfl, h_pre _ hE hk hX hA hI hR g⟩ rfl rfl hl.1 rfl (lv_room (Nat.le_of_ble_eq_true rfl)) dX12_add_9 ⟨Nat.le_of_ble_eq_true rfl, Nat.le_of_ble_eq_true rfl⟩) (fun rh3 h3 => ?_)
    have jrh3 : -2147483648 ≤ rh3.toInt ∧ rh3.toInt ≤ 2147483647 := ⟨xi_lo _, Int.le_of_lt_add_one (xi_hi _)⟩
    refine lv_iconst (v := 1) hx hb dX12_add_12 (by decide) ?_
    refine lv_iload_n hx hb dX12_add_13 rfl (lv_at hl 2 rfl) ?_
    refine lv_ishl hx hb dX12_add_14 ?_
    refine lv_topi (fun v4 ev4 => ?_)
    have jv4 : -2147483648 ≤ v4.toInt ∧ v4.toInt ≤ 2147483647 := ⟨xi_lo _, Int.le_of_lt_add_one (xi_hi _)⟩
    refine lv_ior hx hb dX12_add_15 ?_
    refine lv_topi (fun v5 ev5 => ?_)
    have jv5 : -2147483648 ≤ v5.toInt ∧ v5.toInt ≤ 2147483647 := ⟨xi_lo _, Int.le_of_lt_add_one (xi_hi _)⟩
    refine lv_iconst (v := 1) hx hb dX12_add_16 (by decide) ?_
    refine lv_iload_n hx hb dX12_add_17 rfl (lv_at hl 3 rfl) ?_
    refine lv_ishl hx hb dX12_add_18 ?_
    refine lv_topi (fun v6 ev6 => ?_)
    have jv6 : -2147483648 ≤ v6.toInt ∧ v6.toInt ≤ 2147483647 := ⟨xi_lo _, Int.le_of_lt_add_one (xi_hi _)⟩
    refine lv_ior hx hb dX12_add_19 ?_
    refine lv_topi (fun v7 ev7 => ?_)
    have jv7 : -2147483648 ≤ v7.toInt ∧ v7.toInt ≤ 2147483647 := ⟨xi_lo _, Int.le_of_lt_add_one (xi_hi _)⟩
    refine vp_callSi (W.runS (As := [.int v7]) (rest := []) ⟨hx, hb, hml, hown, hts⟩ (tX12_bits l E X A z I0 L0 v7 (v7.toInt) rfl) (va_cwS 1 hts gX12_add_X12_bits rfl rfl rfl (by decide +kernel) ⟨Nat.le_of_ble_eq_true rfl, Nat.le_of_ble_eq_true rfl⟩) ⟨h_blind _ _ _ _ _ _ _, h_pre _ hE hk hX hA hI hR g⟩ rfl rfl hl.1 rfl (lv_room (Nat.le_of_ble_eq_true rfl)) dX12_add_20 ⟨Nat.le_of_ble_eq_true rfl, Nat.le_of_ble_eq_true rfl⟩) (fun rh8 h8 => ?_)
    have jrh8 : -2147483648 ≤ rh8.toInt ∧ rh8.toInt ≤ 2147483647 := ⟨xi_lo _, Int.le_of_lt_add_one (xi_hi _)⟩
    refine lv_iconst (v := 4) hx hb dX12_add_23 (by decide) ?_
    refine lv_icmp_le (tgt := 30) hx hb dX12_add_24 (by decide) (fun c9 => ?_) (fun c9 => ?_)
    · have ic9 := (xi_le c9 rfl (by decide) : rh8.toInt ≤ 4)
      refine lv_aload_n hx hb dX12_add_30 rfl (lv_at hl 0 rfl) ?_
      refine h_get (v := .int (I0 a0 33)) hx hb hts iX12 hown g t_a0 (by decide) so_13 rfl 33 (by decide) (hts (.fieldLink RX12 247 "CapLeagueModel" "moves" "I") (by decide +kernel)) rfl dX12_add_31 rfl ?_
      refine lv_topi (fun v10 ev10 => ?_)
      have jv10 := hI.rd a0 33 t_a0 ev10 (rfl : h_bd 13 33 = (0, 12))
      refine lv_bipush (v := 12) hx hb dX12_add_34 (by decide) ?_
      refine lv_icmp_ne (tgt := 42) hx hb dX12_add_36 (by decide) (fun c11 => ?_) (fun c11 => ?_)
      · have ic11 := (xi_ne c11 rfl (by decide) : v10.toInt ≠ 12)
        refine lv_aload_n hx hb dX12_add_42 rfl (lv_at hl 0 rfl) ?_
        obtain ⟨b12, rb12, tb12⟩ := hR.at a0 34 t_a0 (rfl : h_rs 13 34 = some (1334, false)) (by decide)
        refine h_get (v := .ref b12) hx hb hts iX12 hown g t_a0 (by decide) so_13 rfl 34 (by decide) (hts (.fieldLink RX12 76 "CapLeagueModel" "moved" "[I") (by decide +kernel)) rfl dX12_add_43 (by show va_rf (z.R a0 34) = _; rw [rb12]; rfl) ?_
        refine lv_aload_n hx hb dX12_add_46 rfl (lv_at hl 0 rfl) ?_
        refine h_get (v := .int v10) hx hb hts iX12 hown g t_a0 (by decide) so_13 rfl 33 (by decide) (hts (.fieldLink RX12 247 "CapLeagueModel" "moves" "I") (by decide +kernel)) rfl dX12_add_47 (congrArg Value.int (ev10.symm)) ?_
        refine lv_iload_n hx hb dX12_add_50 rfl (lv_at hl 1 rfl) ?_
        refine h_ast hx hb g tb12 (by decide) so_1334 (xi_in (by omega) (by omega)) dX12_add_51 (fun I13 H locs eI13 g => ?_)
        have hI := hI.wr eI13 tb12 (rfl : h_bd 1334 _ = (0, 139)) (by rw [h_x]; omega) (by rw [h_x]; omega)
        have hF := hF.wr eI13 tb12 rfl
        refine lv_aload_n hx hb dX12_add_52 rfl (lv_at hl 0 rfl) ?_
        obtain ⟨b14, rb14, tb14⟩ := hR.at a0 35 t_a0 (rfl : h_rs 13 35 = some (1335, false)) (by decide)
        refine h_get (v := .ref b14) hx hb hts iX12 hown g t_a0 (by decide) so_13 rfl 35 (by decide) (hts (.fieldLink RX12 79 "CapLeagueModel" "from" "[I") (by decide +kernel)) rfl dX12_add_53 (by show va_rf (z.R a0 35) = _; rw [rb14]; rfl) ?_
        refine lv_aload_n hx hb dX12_add_56 rfl (lv_at hl 0 rfl) ?_
        refine h_get (v := .int v10) hx hb hts iX12 hown g t_a0 (by decide) so_13 rfl 33 (by decide) (hts (.fieldLink RX12 247 "CapLeagueModel" "moves" "I") (by decide +kernel)) rfl dX12_add_57 (congrArg Value.int ((h_n1 eI13 t_a0 tb12 (by decide)).trans (ev10.symm))) ?_
        refine lv_iload_n hx hb dX12_add_60 rfl (lv_at hl 2 rfl) ?_
        refine h_ast hx hb g tb14 (by decide) so_1335 (xi_in (by omega) (by omega)) dX12_add_61 (fun I15 H locs eI15 g => ?_)
        have hI := hI.wr eI15 tb14 (rfl : h_bd 1335 _ = ((-2147483648), 2147483647)) (xi_lo _) (Int.le_of_lt_add_one (xi_hi _))
        have hF := hF.wr eI15 tb14 rfl
        refine lv_aload_n hx hb dX12_add_62 rfl (lv_at hl 0 rfl) ?_
        obtain ⟨b16, rb16, tb16⟩ := hR.at a0 36 t_a0 (rfl : h_rs 13 36 = some (1336, false)) (by decide)
        refine h_get (v := .ref b16) hx hb hts iX12 hown g t_a0 (by decide) so_13 rfl 36 (by decide) (hts (.fieldLink RX12 82 "CapLeagueModel" "to" "[I") (by decide +kernel)) rfl dX12_add_63 (by show va_rf (z.R a0 36) = _; rw [rb16]; rfl) ?_
        refine lv_aload_n hx hb dX12_add_66 rfl (lv_at hl 0 rfl) ?_
        refine h_get (v := .int v10) hx hb hts iX12 hown g t_a0 (by decide) so_13 rfl 33 (by decide) (hts (.fieldLink RX12 247 "CapLeagueModel" "moves" "I") (by decide +kernel)) rfl dX12_add_67 (congrArg Value.int ((h_n1 eI15 t_a0 tb14 (by decide)).trans ((h_n1 eI13 t_a0 tb12 (by decide)).trans (ev10.symm)))) ?_
        refine lv_iload_n hx hb dX12_add_70 rfl (lv_at hl 3 rfl) ?_
        refine h_ast hx hb g tb16 (by decide) so_1336 (xi_in (by omega) (by omega)) dX12_add_71 (fun I17 H locs eI17 g => ?_)
        have hI := hI.wr eI17 tb16 (rfl : h_bd 1336 _ = (0, 7)) (by rw [h_b]; omega) (by rw [h_b]; omega)
        have hF := hF.wr eI17 tb16 rfl
        refine lv_aload_n hx hb dX12_add_72 rfl (lv_at hl 0 rfl) ?_
        obtain ⟨b18, rb18, tb18⟩ := hR.at a0 37 t_a0 (rfl : h_rs 13 37 = some (1337, false)) (by decide)
        refine h_get (v := .ref b18) hx hb hts iX12 hown g t_a0 (by decide) so_13 rfl 37 (by decide) (hts (.fieldLink RX12 85 "CapLeagueModel" "guard" "[I") (by decide +kernel)) rfl dX12_add_73 (by show va_rf (z.R a0 37) = _; rw [rb18]; rfl) ?_
        refine lv_aload_n hx hb dX12_add_76 rfl (lv_at hl 0 rfl) ?_
        refine h_get (v := .int v10) hx hb hts iX12 hown g t_a0 (by decide) so_13 rfl 33 (by decide) (hts (.fieldLink RX12 247 "CapLeagueModel" "moves" "I") (by decide +kernel)) rfl dX12_add_77 (congrArg Value.int ((h_n1 eI17 t_a0 tb16 (by decide)).trans ((h_n1 eI15 t_a0 tb14 (by decide)).trans ((h_n1 eI13 t_a0 tb12 (by decide)).trans (ev10.symm))))) ?_
        refine lv_iload hx hb dX12_add_80 (lv_at hl 4 rfl) ?_
        refine h_ast hx hb g tb18 (by decide) so_1337 (xi_in (by omega) (by omega)) dX12_add_82 (fun I19 H locs eI19 g => ?_)
        have hI := hI.wr eI19 tb18 (rfl : h_bd 1337 _ = ((-2147483648), 2147483647)) (xi_lo _) (Int.le_of_lt_add_one (xi_hi _))
        have hF := hF.wr eI19 tb18 rfl
        refine lv_aload_n hx hb dX12_add_83 rfl (lv_at hl 0 rfl) ?_
        refine lv_dup hx hb dX12_add_84 rfl ?_
        refine h_get (v := .int v10) hx hb hts iX12 hown g t_a0 (by decide) so_13 rfl 33 (by decide) (hts (.fieldLink RX12 247 "CapLeagueModel" "moves" "I") (by decide +kernel)) rfl dX12_add_85 (congrArg Value.int ((h_n1 eI19 t_a0 tb18 (by decide)).trans ((h_n1 eI17 t_a0 tb16 (by decide)).trans ((h_n1 eI15 t_a0 tb14 (by decide)).trans ((h_n1 eI13 t_a0 tb12 (by decide)).trans (ev10.symm)))))) ?_
        refine lv_iconst (v := 1) hx hb dX12_add_88 (by decide) ?_
        refine lv_iadd hx hb dX12_add_89 ?_
        refine lv_topi (fun v20 ev20 => ?_)
        have jv20 : v20.toInt = v10.toInt + 1 := xi_add ev20 rfl (by decide) (by omega) (by omega)
        refine h_putI (ty := .int) (v := v20) hx hb hts iX12 tyX12 tyX12_ok nmX12 hown g t_a0 (by decide) so_13 rfl 33 (by decide) rfl (hts (.fieldLink RX12 247 "CapLeagueModel" "moves" "I") (by decide +kernel)) rfl rfl (by decide +kernel) rfl rfl dX12_add_90 (fun I21 H locs eI21 g => ?_)
        have hI := hI.wr eI21 t_a0 (rfl : h_bd 13 33 = (0, 12)) (by omega) (by omega)
        have hF := hF.wr eI21 t_a0 rfl
        refine lv_aload_n hx hb dX12_add_93 rfl (lv_at hl 0 rfl) ?_
        refine h_get (v := .int v20) hx hb hts iX12 hown g t_a0 (by decide) so_13 rfl 33 (by decide) (hts (.fieldLink RX12 247 "CapLeagueModel" "moves" "I") (by decide +kernel)) rfl dX12_add_94 (congrArg Value.int (h_n0 eI21)) ?_
        have hS := g.2.1
        exact W.iret (v := v20) hx hb hr (fun t ht hW => ⟨⟨v20, I21, rfl, ⟨hI, hF, trivial⟩, h_ret g ht⟩, hS.F ht⟩) hS.2.2 dX12_add_97
      · have ic11 := (xi_eq c11 rfl (by decide) : v10.toInt = 12)
        refine lv_bipush (v := (-3)) hx hb dX12_add_39 (by decide) ?_
        have hS := g.2.1
        exact W.iret (v := (-3)) hx hb hr (fun t ht hW => ⟨⟨(-3), I0, rfl, ⟨hI, hF, trivial⟩, h_ret g ht⟩, hS.F ht⟩) hS.2.2 dX12_add_41
    · have ic9 := (xi_nle c9 rfl (by decide) : 4 < rh8.toInt)
      refine lv_bipush (v := (-4)) hx hb dX12_add_27 (by decide) ?_
      have hS := g.2.1
      exact W.iret (v := (-4)) hx hb hr (fun t ht hW => ⟨⟨(-4), I0, rfl, ⟨hI, hF, trivial⟩, h_ret g ht⟩, hS.F ht⟩) hS.2.2 dX12_add_29
set_option maxHeartbeats 4000000 in
set_option maxRecDepth 100000 in
theorem tX12_give (l : Launch) (E : tE) (X : tX) (A : Nat → Prop) (z : tZ) (I0 : tI) (L0 : tL) (a0 : Nat) (t_a0 : z.ty a0 = 13) (p : Int32) (p_t : Int) (h_p : p.toInt = p_t) (c : Int32) (c_t : Int) (h_c : c.toInt = c_t) : Met l yX12_give wsX12_give ({ frames := 3, cells := 0, slots := 0, locals := 192 }) (va_Pc [.ref a0, .int p, .int c] (h_P E X A z I0 L0)) (va_Qi (fun r (I1 : tI) => h_I z I1 ∧ h_F [(1334, 999), (1335, 999), (1336, 999), (1337, 999), (13, 33)] z I0 I1 ∧ True) (fun (I1 : tI) t => h_B E A z I1 L0 t) A) 0 0 A := by
  refine Met.ofW (cc := cX12_give) (maxL := 3) (ret := (some .int)) (by decide) rfl ?_
  intro pr_ ev_ s m args below meth cd_ s₁ B hml hv
  obtain ⟨rfl, hE, hk, hX, hA, hK, hI, hR, hB0⟩ := hv
  have g : h_G h_so h_fk E A z I0 L0 s s.heap s.heap [] := ⟨hK, va_S.rf, hB0⟩
  have hF : h_F [(1334, 999), (1335, 999), (1336, 999), (1337, 999), (13, 33)] z I0 I0 := h_F.rf
  have hx := B.exec
  have hb := B.bytes
  have hr := B.returns
  have hts := atoms_spec (ws := wsX12_give) B.pre
  have hown : s.vm.findClass RX12 = some m.cls := findClass_of_methodNamed B.named
  have hlocks := B.notSynchronized
  have iX12 : ∀ w ∈ u_ws RX12 TX12 51, w ∈ wsX12_give := by decide +kernel
  have hl := lv_entry ([.ref a0, .int p, .int c]) (n := 3) (Nat.le_of_ble_eq_true rfl)
  rw [lg_entry_eq]
  generalize (lg_sl ([.ref a0, .int p, .int c]) ++ List.replicate (3 - (lg_sl ([.ref a0, .int p, .int c])).length) Slot.unset).toArray = ls at hl ⊢
  have hl : lv_has ls 3 [(0, .ref a0), (1, .int p), (2, .int c)] := hl
  have b_p : -2147483648 ≤ p_t ∧ p_t ≤ 2147483647 := h_p ▸ ⟨xi_lo p, Int.le_of_lt_add_one (xi_hi p)⟩
  have b_c : -2147483648 ≤ c_t ∧ c_t ≤ 2147483647 := h_c ▸ ⟨xi_lo c, Int.le_of_lt_add_one (xi_hi c)⟩
  refine lv_aload_n hx hb dX12_give_0 rfl (lv_at hl 0 rfl) ?_
  refine lv_iload_n hx hb dX12_give_1 rfl (lv_at hl 1 rfl) ?_
  refine vp_callSi (W.runV (As := [.int p]) (rest := []) ⟨hx, hb, hml, hown, hts⟩ (tX12_isPlayer l E X A z I0 L0 a0 t_a0 p (p_t) h_p) (cwV 1 hts gX12_give_X12_isPlayer rfl rfl rfl (by decide +kernel) ⟨Nat.le_of_ble_eq_true rfl, Nat.le_of_ble_eq_true rfl⟩) ⟨h_blind _ _ _ _ _ _ _, h_recv g t_a0 (by decide) so_13 (q := (RX12, TX12, 51)) rfl, h_pre _ hE hk hX hA hI hR g⟩ rfl rfl hl.1 rfl (lv_room (Nat.le_of_ble_eq_true rfl)) dX12_give_2 ⟨Nat.le_of_ble_eq_true rfl, Nat.le_of_ble_eq_true rfl⟩) (fun rh1 h1 => ?_)
  rcases h1 with ⟨rfl, h1⟩ | ⟨rfl, h1⟩
  · skip
    refine lv_if_eq (tgt := 15) hx hb dX12_give_5 (by decide) (fun _ => ?_) (fun h => absurd (by decide) h)
    refine lv_bipush (v := (-2)) hx hb dX12_give_15 (by decide) ?_
    have hS := g.2.1
    exact W.iret (v := (-2)) hx hb hr (fun t ht hW => ⟨⟨(-2), I0, rfl, ⟨hI, hF, trivial⟩, h_ret g ht⟩, hS.F ht⟩) hS.2.2 dX12_give_17
  · skip
    refine lv_if_eq (tgt := 15) hx hb dX12_give_5 (by decide) (fun h => absurd h (by decide)) (fun _ => ?_)
    refine lv_iload_n hx hb dX12_give_8 rfl (lv_at hl 2 rfl) ?_
    refine vp_callSi (W.runS (As := [.int c]) (rest := []) ⟨hx, hb, hml, hown, hts⟩ (tX12_isClub l E X A z I0 L0 c (c_t) h_c) (va_cwS 1 hts gX12_give_X12_isClub rfl rfl rfl (by decide +kernel) ⟨Nat.le_of_ble_eq_true rfl, Nat.le_of_ble_eq_true rfl⟩) ⟨h_blind _ _ _ _ _ _ _, h_pre _ hE hk hX hA hI hR g⟩ rfl rfl hl.1 rfl (lv_room (Nat.le_of_ble_eq_true rfl)) dX12_give_9 ⟨Nat.le_of_ble_eq_true rfl, Nat.le_of_ble_eq_true rfl⟩) (fun rh4 h4 => ?_)
    rcases h4 with ⟨rfl, h4⟩ | ⟨rfl, h4⟩
    · skip
      refine lv_if_ne (tgt := 18) hx hb dX12_give_12 (by decide) (fun h => absurd (by decide) h) (fun _ => ?_)
      refine lv_bipush (v := (-2)) hx hb dX12_give_15 (by decide) ?_
      have hS := g.2.1
      exact W.iret (v := (-2)) hx hb hr (fun t ht hW => ⟨⟨(-2), I0, rfl, ⟨hI, hF, trivial⟩, h_ret g ht⟩, hS.F ht⟩) hS.2.2 dX12_give_17
    · skip
      refine lv_if_ne (tgt := 18) hx hb dX12_give_12 (by decide) (fun _ => ?_) (fun h => absurd h (by decide))
      refine lv_aload_n hx hb dX12_give_18 rfl (lv_at hl 0 rfl) ?_
      obtain ⟨b7, rb7, tb7⟩ := hR.at a0 14 t_a0 (rfl : h_rs 13 14 = some (1314, false)) (by decide)
      refine h_get (v := .ref b7) hx hb hts iX12 hown g t_a0 (by decide) so_13 rfl 14 (by decide) (hts (.fieldLink RX12 25 "CapLeagueModel" "clubOf" "[I") (by decide +kernel)) rfl dX12_give_19 (by show va_rf (z.R a0 14) = _; rw [rb7]; rfl) ?_
      refine lv_iload_n hx hb dX12_give_22 rfl (lv_at hl 1 rfl) ?_
      refine h_ald hx hb g tb7 (by decide) so_1314 (xi_in (by rw [h_p]; omega) (by rw [h_p]; omega)) dX12_give_23 ?_
      refine lv_topi (fun v8 ev8 => ?_)
      have jv8 := hI.rd b7 p.toNatClampNeg tb7 ev8 (rfl : h_bd 1314 _ = ((-1), 7))
      refine lv_iconst (v := (-1)) hx hb dX12_give_24 (by decide) ?_
      refine lv_icmp_eq (tgt := 38) hx hb dX12_give_25 (by decide) (fun c9 => ?_) (fun c9 => ?_)
      · have ic9 := (xi_eq c9 rfl (by decide) : v8.toInt = (-1))
        refine lv_bipush (v := (-4)) hx hb dX12_give_38 (by decide) ?_
        have hS := g.2.1
        exact W.iret (v := (-4)) hx hb hr (fun t ht hW => ⟨⟨(-4), I0, rfl, ⟨hI, hF, trivial⟩, h_ret g ht⟩, hS.F ht⟩) hS.2.2 dX12_give_40
      · have ic9 := (xi_ne c9 rfl (by decide) : v8.toInt ≠ (-1))
        refine lv_aload_n hx hb dX12_give_28 rfl (lv_at hl 0 rfl) ?_
        refine h_get (v := .ref b7) hx hb hts iX12 hown g t_a0 (by decide) so_13 rfl 14 (by decide) (hts (.fieldLink RX12 25 "CapLeagueModel" "clubOf" "[I") (by decide +kernel)) rfl dX12_give_29 (by show va_rf (z.R a0 14) = _; rw [rb7]; rfl) ?_
        refine lv_iload_n hx hb dX12_give_32 rfl (lv_at hl 1 rfl) ?_
        refine h_ald hx hb g tb7 (by decide) so_1314 (xi_in (by rw [h_p]; omega) (by rw [h_p]; omega)) dX12_give_33 ?_
        refine xw_i (ev8.symm) ?_
        refine lv_iload_n hx hb dX12_give_34 rfl (lv_at hl 2 rfl) ?_
        refine lv_icmp_ne (tgt := 41) hx hb dX12_give_35 (by decide) (fun c10 => ?_) (fun c10 => ?_)
        · have ic10 := (xi_ne c10 rfl h_c : v8.toInt ≠ c_t)
          refine lv_aload_n hx hb dX12_give_41 rfl (lv_at hl 0 rfl) ?_
          refine lv_iload_n hx hb dX12_give_42 rfl (lv_at hl 1 rfl) ?_
          refine lv_aload_n hx hb dX12_give_43 rfl (lv_at hl 0 rfl) ?_
          refine h_get (v := .ref b7) hx hb hts iX12 hown g t_a0 (by decide) so_13 rfl 14 (by decide) (hts (.fieldLink RX12 25 "CapLeagueModel" "clubOf" "[I") (by decide +kernel)) rfl dX12_give_44 (by show va_rf (z.R a0 14) = _; rw [rb7]; rfl) ?_
          refine lv_iload_n hx hb dX12_give_47 rfl (lv_at hl 1 rfl) ?_
          refine h_ald hx hb g tb7 (by decide) so_1314 (xi_in (by rw [h_p]; omega) (by rw [h_p]; omega)) dX12_give_48 ?_
          refine xw_i (ev8.symm) ?_
          refine lv_iload_n hx hb dX12_give_49 rfl (lv_at hl 2 rfl) ?_
          refine lv_iconst (v := 0) hx hb dX12_give_50 (by decide) ?_
          refine va_calli (va_runV (As := [.int p, .int v8, .int c, .int 0]) (rest := []) ⟨hx, hb, hml, hown, hts⟩ (tX12_add l E X A z I0 L0 a0 t_a0 p (p_t) h_p (by omega) v8 (v8.toInt) rfl c (c_t) h_c (by omega) 0 (0) (by decide)) (cwV 4 hts gX12_give_X12_add rfl rfl rfl (by decide +kernel) ⟨Nat.le_of_ble_eq_true rfl, Nat.le_of_ble_eq_true rfl⟩) ⟨h_blind _ _ _ _ _ _ _, h_recv g t_a0 (by decide) so_13 (q := (RX12, TX12, 51)) rfl, h_pre _ hE hk hX hA hI hR g⟩ rfl rfl hl.1 rfl (lv_room (Nat.le_of_ble_eq_true rfl)) dX12_give_51 ⟨Nat.le_of_ble_eq_true rfl, Nat.le_of_ble_eq_true rfl⟩) g.2.1 (fun q _ h => h) (fun q h => h) (fun rh11 I12 t H1 locs ht hvm h11 hB hz1 hk1 hS => ?_)
          obtain ⟨hI, fh11, h11⟩ := h11
          replace g := h_after g hB ht hS
          generalize H1 = H at g
          clear hB hk1 hz1 ht hvm hS
          have hF := hF.call fh11 rfl
          have jrh11 : -2147483648 ≤ rh11.toInt ∧ rh11.toInt ≤ 2147483647 := ⟨xi_lo _, Int.le_of_lt_add_one (xi_hi _)⟩
          have hS := g.2.1
          exact W.iret (v := rh11) hx hb hr (fun t ht hW => ⟨⟨rh11, I12, rfl, ⟨hI, hF, trivial⟩, h_ret g ht⟩, hS.F ht⟩) hS.2.2 dX12_give_54
        · have ic10 := (xi_eq c10 rfl h_c : v8.toInt = c_t)
          refine lv_bipush (v := (-4)) hx hb dX12_give_38 (by decide) ?_
          have hS := g.2.1
          exact W.iret (v := (-4)) hx hb hr (fun t ht hW => ⟨⟨(-4), I0, rfl, ⟨hI, hF, trivial⟩, h_ret g ht⟩, hS.F ht⟩) hS.2.2 dX12_give_40
set_option maxHeartbeats 4000000 in
set_option maxRecDepth 100000 in
theorem tX12_giveTurn (l : Launch) (E : tE) (X : tX) (A : Nat → Prop) (z : tZ) (I0 : tI) (L0 : tL) (a0 : Nat) (t_a0 : z.ty a0 = 13) (o : Int32) (o_t : Int) (h_o : o.toInt = o_t) (y : Int32) (y_t : Int) (h_y : y.toInt = y_t) (c : Int32) (c_t : Int) (h_c : c.toInt = c_t) (k : Int32) (k_t : Int) (h_k : k.toInt = k_t) : Met l yX12_giveTurn wsX12_giveTurn ({ frames := 3, cells := 0, slots := 0, locals := 192 }) (va_Pc [.ref a0, .int o, .int y, .int c, .int k] (h_P E X A z I0 L0)) (va_Qi (fun r (I1 : tI) => h_I z I1 ∧ h_F [(1334, 999), (1335, 999), (1336, 999), (1337, 999), (13, 33)] z I0 I1 ∧ True) (fun (I1 : tI) t => h_B E A z I1 L0 t) A) 0 0 A := by
  refine Met.ofW (cc := cX12_giveTurn) (maxL := 6) (ret := (some .int)) (by decide) rfl ?_
  intro pr_ ev_ s m args below meth cd_ s₁ B hml hv
  obtain ⟨rfl, hE, hk, hX, hA, hK, hI, hR, hB0⟩ := hv
  have g : h_G h_so h_fk E A z I0 L0 s s.heap s.heap [] := ⟨hK, va_S.rf, hB0⟩
  have hF : h_F [(1334, 999), (1335, 999), (1336, 999), (1337, 999), (13, 33)] z I0 I0 := h_F.rf
  have hx := B.exec
  have hb := B.bytes
  have hr := B.returns
  have hts := atoms_spec (ws := wsX12_giveTurn) B.pre
  have hown : s.vm.findClass RX12 = some m.cls := findClass_of_methodNamed B.named
  have hlocks := B.notSynchronized
  have iX12 : ∀ w ∈ u_ws RX12 TX12 51, w ∈ wsX12_giveTurn := by decide +kernel
  have hl := lv_entry ([.ref a0, .int o, .int y, .int c, .int k]) (n := 6) (Nat.le_of_ble_eq_true rfl)
  rw [lg_entry_eq]
  generalize (lg_sl ([.ref a0, .int o, .int y, .int c, .int k]) ++ List.replicate (6 - (lg_sl ([.ref a0, .int o, .int y, .int c, .int k])).length) Slot.unset).toArray = ls at hl ⊢
  have hl : lv_has ls 6 [(0, .ref a0), (1, .int o), (2, .int y), (3, .int c), (4, .int k)] := hl
  have b_o : -2147483648 ≤ o_t ∧ o_t ≤ 2147483647 := h_o ▸ ⟨xi_lo o, Int.le_of_lt_add_one (xi_hi o)⟩
  have b_y : -2147483648 ≤ y_t ∧ y_t ≤ 2147483647 := h_y ▸ ⟨xi_lo y, Int.le_of_lt_add_one (xi_hi y)⟩
  have b_c : -2147483648 ≤ c_t ∧ c_t ≤ 2147483647 := h_c ▸ ⟨xi_lo c, Int.le_of_lt_add_one (xi_hi c)⟩
  have b_k : -2147483648 ≤ k_t ∧ k_t ≤ 2147483647 := h_k ▸ ⟨xi_lo k, Int.le_of_lt_add_one (xi_hi k)⟩
  refine lv_iload_n hx hb dX12_giveTurn_0 rfl (lv_at hl 1 rfl) ?_
  refine vp_callSi (W.runS (As := [.int o]) (rest := []) ⟨hx, hb, hml, hown, hts⟩ (tX12_isClub l E X A z I0 L0 o (o_t) h_o) (va_cwS 1 hts gX12_giveTurn_X12_isClub rfl rfl rfl (by decide +kernel) ⟨Nat.le_of_ble_eq_true rfl, Nat.le_of_ble_eq_true rfl⟩) ⟨h_blind _ _ _ _ _ _ _, h_pre _ hE hk hX hA hI hR g⟩ rfl rfl hl.1 rfl (lv_room (Nat.le_of_ble_eq_true rfl)) dX12_giveTurn_1 ⟨Nat.le_of_ble_eq_true rfl, Nat.le_of_ble_eq_true rfl⟩) (fun rh1 h1 => ?_)
  rcases h1 with ⟨rfl, h1⟩ | ⟨rfl, h1⟩
  · skip
    refine lv_if_eq (tgt := 43) hx hb dX12_giveTurn_4 (by decide) (fun _ => ?_) (fun h => absurd (by decide) h)
    refine lv_bipush (v := (-2)) hx hb dX12_giveTurn_43 (by decide) ?_
    have hS := g.2.1
    exact W.iret (v := (-2)) hx hb hr (fun t ht hW => ⟨⟨(-2), I0, rfl, ⟨hI, hF, trivial⟩, h_ret g ht⟩, hS.F ht⟩) hS.2.2 dX12_giveTurn_45
  · skip
    refine lv_if_eq (tgt := 43) hx hb dX12_giveTurn_4 (by decide) (fun h => absurd h (by decide)) (fun _ => ?_)
    refine lv_iload_n hx hb dX12_giveTurn_7 rfl (lv_at hl 2 rfl) ?_
    refine lv_i2l hx hb dX12_giveTurn_8 rfl ?_
    refine lv_topl (fun v4 ev4 => ?_)
    have jv4 : v4.toInt = y_t := by rw [ev4, xi_64]; exact h_y
    refine lv_aload_n hx hb dX12_giveTurn_9 rfl (lv_at hl 0 rfl) ?_
    refine h_get (v := .int (I0 a0 12)) hx hb hts iX12 hown g t_a0 (by decide) so_13 rfl 12 (by decide) (hts (.fieldLink RX12 187 "CapLeagueModel" "clock" "I") (by decide +kernel)) rfl dX12_giveTurn_10 rfl ?_
    refine lv_topi (fun v5 ev5 => ?_)
    have jv5 := hI.rd a0 12 t_a0 ev5 (rfl : h_bd 13 12 = (0, 9))
    refine lv_i2l hx hb dX12_giveTurn_13 rfl ?_
    refine lv_topl (fun v6 ev6 => ?_)
    have jv6 : v6.toInt = v5.toInt := by rw [ev6, xi_64]
    refine lv_ldc2 (v := 9) hx hb hown (hts (.constantLong RX12 190 (9)) (by decide +kernel)) dX12_giveTurn_14 ?_
    refine vp_callSi (W.runS (As := [.long v4, .long v6, .long 9]) (rest := []) ⟨hx, hb, hml, hown, hts⟩ (tX12_in l E X A z I0 L0 v4 (y_t) jv4 v6 (v5.toInt) jv6 9 (9) (by decide)) (va_cwS 3 hts gX12_giveTurn_X12_in rfl rfl rfl (by decide +kernel) ⟨Nat.le_of_ble_eq_true rfl, Nat.le_of_ble_eq_true rfl⟩) ⟨h_blind _ _ _ _ _ _ _, h_pre _ hE hk hX hA hI hR g⟩ rfl rfl hl.1 rfl (lv_room (Nat.le_of_ble_eq_true rfl)) dX12_giveTurn_17 ⟨Nat.le_of_ble_eq_true rfl, Nat.le_of_ble_eq_true rfl⟩) (fun rh7 h7 => ?_)
    rcases h7 with ⟨rfl, h7⟩ | ⟨rfl, h7⟩
    · skip
      refine lv_if_eq (tgt := 43) hx hb dX12_giveTurn_20 (by decide) (fun _ => ?_) (fun h => absurd (by decide) h)
      refine lv_bipush (v := (-2)) hx hb dX12_giveTurn_43 (by decide) ?_
      have hS := g.2.1
      exact W.iret (v := (-2)) hx hb hr (fun t ht hW => ⟨⟨(-2), I0, rfl, ⟨hI, hF, trivial⟩, h_ret g ht⟩, hS.F ht⟩) hS.2.2 dX12_giveTurn_45
    · skip
      refine lv_if_eq (tgt := 43) hx hb dX12_giveTurn_20 (by decide) (fun h => absurd h (by decide)) (fun _ => ?_)
      refine lv_iload_n hx hb dX12_giveTurn_23 rfl (lv_at hl 3 rfl) ?_
      refine vp_callSi (W.runS (As := [.int c]) (rest := []) ⟨hx, hb, hml, hown, hts⟩ (tX12_isClub l E X A z I0 L0 c (c_t) h_c) (va_cwS 1 hts gX12_giveTurn_X12_isClub rfl rfl rfl (by decide +kernel) ⟨Nat.le_of_ble_eq_true rfl, Nat.le_of_ble_eq_true rfl⟩) ⟨h_blind _ _ _ _ _ _ _, h_pre _ hE hk hX hA hI hR g⟩ rfl rfl hl.1 rfl (lv_room (Nat.le_of_ble_eq_true rfl)) dX12_giveTurn_24 ⟨Nat.le_of_ble_eq_true rfl, Nat.le_of_ble_eq_true rfl⟩) (fun rh10 h10 => ?_)
      rcases h10 with ⟨rfl, h10⟩ | ⟨rfl, h10⟩
      · skip
        refine lv_if_eq (tgt := 43) hx hb dX12_giveTurn_27 (by decide) (fun _ => ?_) (fun h => absurd (by decide) h)
        refine lv_bipush (v := (-2)) hx hb dX12_giveTurn_43 (by decide) ?_
        have hS := g.2.1
        exact W.iret (v := (-2)) hx hb hr (fun t ht hW => ⟨⟨(-2), I0, rfl, ⟨hI, hF, trivial⟩, h_ret g ht⟩, hS.F ht⟩) hS.2.2 dX12_giveTurn_45
      · skip
        refine lv_if_eq (tgt := 43) hx hb dX12_giveTurn_27 (by decide) (fun h => absurd h (by decide)) (fun _ => ?_)
        refine lv_iload hx hb dX12_giveTurn_30 (lv_at hl 4 rfl) ?_
        refine lv_i2l hx hb dX12_giveTurn_32 rfl ?_
        refine lv_topl (fun v13 ev13 => ?_)
        have jv13 : v13.toInt = k_t := by rw [ev13, xi_64]; exact h_k
        refine lv_lconst (v := 0) hx hb dX12_giveTurn_33 (by decide) ?_
        refine lv_ldc2 (v := 8) hx hb hown (hts (.constantLong RX12 195 (8)) (by decide +kernel)) dX12_giveTurn_34 ?_
        refine vp_callSi (W.runS (As := [.long v13, .long 0, .long 8]) (rest := []) ⟨hx, hb, hml, hown, hts⟩ (tX12_in l E X A z I0 L0 v13 (k_t) jv13 0 (0) (by decide) 8 (8) (by decide)) (va_cwS 3 hts gX12_giveTurn_X12_in rfl rfl rfl (by decide +kernel) ⟨Nat.le_of_ble_eq_true rfl, Nat.le_of_ble_eq_true rfl⟩) ⟨h_blind _ _ _ _ _ _ _, h_pre _ hE hk hX hA hI hR g⟩ rfl rfl hl.1 rfl (lv_room (Nat.le_of_ble_eq_true rfl)) dX12_giveTurn_37 ⟨Nat.le_of_ble_eq_true rfl, Nat.le_of_ble_eq_true rfl⟩) (fun rh14 h14 => ?_)
        rcases h14 with ⟨rfl, h14⟩ | ⟨rfl, h14⟩
        · skip
          refine lv_if_ne (tgt := 46) hx hb dX12_giveTurn_40 (by decide) (fun h => absurd (by decide) h) (fun _ => ?_)
          refine lv_bipush (v := (-2)) hx hb dX12_giveTurn_43 (by decide) ?_
          have hS := g.2.1
          exact W.iret (v := (-2)) hx hb hr (fun t ht hW => ⟨⟨(-2), I0, rfl, ⟨hI, hF, trivial⟩, h_ret g ht⟩, hS.F ht⟩) hS.2.2 dX12_giveTurn_45
        · skip
          refine lv_if_ne (tgt := 46) hx hb dX12_giveTurn_40 (by decide) (fun _ => ?_) (fun h => absurd h (by decide))
          refine lv_bipush (v := 10) hx hb dX12_giveTurn_46 (by decide) ?_
          refine lv_iload_n hx hb dX12_giveTurn_48 rfl (lv_at hl 1 rfl) ?_
          refine lv_imul hx hb dX12_giveTurn_49 ?_
          refine lv_topi (fun v17 ev17 => ?_)
          have jv17 : v17.toInt = 10 * o_t := xi_mul ev17 (by decide) h_o (by omega) (by omega)
          refine lv_iload_n hx hb dX12_giveTurn_50 rfl (lv_at hl 2 rfl) ?_
          refine lv_iadd hx hb dX12_giveTurn_51 ?_
          refine lv_topi (fun v18 ev18 => ?_)
          have jv18 : v18.toInt = v17.toInt + y_t := xi_add ev18 rfl h_y (by omega) (by omega)
          refine lv_istore (lv' := [(5, .int v18), (0, .ref a0), (1, .int o), (2, .int y), (3, .int c), (4, .int k)]) hx hb dX12_giveTurn_52 hl (by decide) rfl (fun ls hl => ?_)
          refine lv_aload_n hx hb dX12_giveTurn_54 rfl (lv_at hl 1 rfl) ?_
          obtain ⟨b19, rb19, tb19⟩ := hR.at a0 25 t_a0 (rfl : h_rs 13 25 = some (1325, false)) (by decide)
          refine h_get (v := .ref b19) hx hb hts iX12 hown g t_a0 (by decide) so_13 rfl 25 (by decide) (hts (.fieldLink RX12 58 "CapLeagueModel" "owner" "[I") (by decide +kernel)) rfl dX12_giveTurn_55 (by show va_rf (z.R a0 25) = _; rw [rb19]; rfl) ?_
          refine lv_iload hx hb dX12_giveTurn_58 (lv_at hl 0 rfl) ?_
          refine h_ald hx hb g tb19 (by decide) so_1325 (xi_in (by omega) (by omega)) dX12_giveTurn_60 ?_
          refine lv_topi (fun v20 ev20 => ?_)
          have jv20 := hI.rd b19 v18.toNatClampNeg tb19 ev20 (rfl : h_bd 1325 _ = ((-2147483648), 2147483647))
          refine lv_iload_n hx hb dX12_giveTurn_61 rfl (lv_at hl 4 rfl) ?_
          refine lv_icmp_eq (tgt := 90) hx hb dX12_giveTurn_62 (by decide) (fun c21 => ?_) (fun c21 => ?_)
          · have ic21 := (xi_eq c21 rfl h_c : v20.toInt = c_t)
            refine lv_bipush (v := (-4)) hx hb dX12_giveTurn_90 (by decide) ?_
            have hS := g.2.1
            exact W.iret (v := (-4)) hx hb hr (fun t ht hW => ⟨⟨(-4), I0, rfl, ⟨hI, hF, trivial⟩, h_ret g ht⟩, hS.F ht⟩) hS.2.2 dX12_giveTurn_92
          · have ic21 := (xi_ne c21 rfl h_c : v20.toInt ≠ c_t)
            refine lv_iload_n hx hb dX12_giveTurn_65 rfl (lv_at hl 3 rfl) ?_
            refine lv_aload_n hx hb dX12_giveTurn_66 rfl (lv_at hl 1 rfl) ?_
            refine h_get (v := .int v5) hx hb hts iX12 hown g t_a0 (by decide) so_13 rfl 12 (by decide) (hts (.fieldLink RX12 187 "CapLeagueModel" "clock" "I") (by decide +kernel)) rfl dX12_giveTurn_67 (congrArg Value.int (ev5.symm)) ?_
            refine lv_icmp_ne (tgt := 80) hx hb dX12_giveTurn_70 (by decide) (fun c22 => ?_) (fun c22 => ?_)
            · have ic22 := (xi_ne c22 h_y rfl : y_t ≠ v5.toInt)
              refine lv_aload_n hx hb dX12_giveTurn_80 rfl (lv_at hl 1 rfl) ?_
              obtain ⟨b23, rb23, tb23⟩ := hR.at a0 27 t_a0 (rfl : h_rs 13 27 = some (1327, false)) (by decide)
              refine h_get (v := .ref b23) hx hb hts iX12 hown g t_a0 (by decide) so_13 rfl 27 (by decide) (hts (.fieldLink RX12 64 "CapLeagueModel" "guarded" "[I") (by decide +kernel)) rfl dX12_giveTurn_81 (by show va_rf (z.R a0 27) = _; rw [rb23]; rfl) ?_
              refine lv_iload hx hb dX12_giveTurn_84 (lv_at hl 0 rfl) ?_
              refine h_ald hx hb g tb23 (by decide) so_1327 (xi_in (by omega) (by omega)) dX12_giveTurn_86 ?_
              refine lv_topi (fun v24 ev24 => ?_)
              have jv24 := hI.rd b23 v18.toNatClampNeg tb23 ev24 (rfl : h_bd 1327 _ = ((-2147483648), 2147483647))
              refine lv_if_le (tgt := 93) hx hb dX12_giveTurn_87 (by decide) (fun c25 => ?_) (fun c25 => ?_)
              · have ic25 := (xi_le c25 rfl (by decide) : v24.toInt ≤ 0)
                refine lv_aload_n hx hb dX12_giveTurn_93 rfl (lv_at hl 1 rfl) ?_
                refine lv_bipush (v := 60) hx hb dX12_giveTurn_94 (by decide) ?_
                refine lv_iload hx hb dX12_giveTurn_96 (lv_at hl 0 rfl) ?_
                refine lv_iadd hx hb dX12_giveTurn_98 ?_
                refine lv_topi (fun v26 ev26 => ?_)
                have jv26 : v26.toInt = 60 + v18.toInt := xi_add ev26 (by decide) rfl (by omega) (by omega)
                refine lv_aload_n hx hb dX12_giveTurn_99 rfl (lv_at hl 1 rfl) ?_
                refine h_get (v := .ref b19) hx hb hts iX12 hown g t_a0 (by decide) so_13 rfl 25 (by decide) (hts (.fieldLink RX12 58 "CapLeagueModel" "owner" "[I") (by decide +kernel)) rfl dX12_giveTurn_100 (by show va_rf (z.R a0 25) = _; rw [rb19]; rfl) ?_
                refine lv_iload hx hb dX12_giveTurn_103 (lv_at hl 0 rfl) ?_
                refine h_ald hx hb g tb19 (by decide) so_1325 (xi_in (by omega) (by omega)) dX12_giveTurn_105 ?_
                refine xw_i (ev20.symm) ?_
                refine lv_iload_n hx hb dX12_giveTurn_106 rfl (lv_at hl 4 rfl) ?_
                refine lv_iload hx hb dX12_giveTurn_107 (lv_at hl 5 rfl) ?_
                refine va_calli (va_runV (As := [.int v26, .int v20, .int c, .int k]) (rest := []) ⟨hx, hb, hml, hown, hts⟩ (tX12_add l E X A z I0 L0 a0 t_a0 v26 (v26.toInt) rfl (by omega) v20 (v20.toInt) rfl c (c_t) h_c (by omega) k (k_t) h_k) (cwV 4 hts gX12_giveTurn_X12_add rfl rfl rfl (by decide +kernel) ⟨Nat.le_of_ble_eq_true rfl, Nat.le_of_ble_eq_true rfl⟩) ⟨h_blind _ _ _ _ _ _ _, h_recv g t_a0 (by decide) so_13 (q := (RX12, TX12, 51)) rfl, h_pre _ hE hk hX hA hI hR g⟩ rfl rfl hl.1 rfl (lv_room (Nat.le_of_ble_eq_true rfl)) dX12_giveTurn_109 ⟨Nat.le_of_ble_eq_true rfl, Nat.le_of_ble_eq_true rfl⟩) g.2.1 (fun q _ h => h) (fun q h => h) (fun rh27 I28 t H1 locs ht hvm h27 hB hz1 hk1 hS => ?_)
                obtain ⟨hI, fh27, h27⟩ := h27
                replace g := h_after g hB ht hS
                generalize H1 = H at g
                clear hB hk1 hz1 ht hvm hS
                have hF := hF.call fh27 rfl
                have jrh27 : -2147483648 ≤ rh27.toInt ∧ rh27.toInt ≤ 2147483647 := ⟨xi_lo _, Int.le_of_lt_add_one (xi_hi _)⟩
                have hS := g.2.1
                exact W.iret (v := rh27) hx hb hr (fun t ht hW => ⟨⟨rh27, I28, rfl, ⟨hI, hF, trivial⟩, h_ret g ht⟩, hS.F ht⟩) hS.2.2 dX12_giveTurn_112
              · have ic25 := (xi_nle c25 rfl (by decide) : 0 < v24.toInt)
                refine lv_bipush (v := (-4)) hx hb dX12_giveTurn_90 (by decide) ?_
                have hS := g.2.1
                exact W.iret (v := (-4)) hx hb hr (fun t ht hW => ⟨⟨(-4), I0, rfl, ⟨hI, hF, trivial⟩, h_ret g ht⟩, hS.F ht⟩) hS.2.2 dX12_giveTurn_92
            · have ic22 := (xi_eq c22 h_y rfl : y_t = v5.toInt)
              refine lv_aload_n hx hb dX12_giveTurn_73 rfl (lv_at hl 1 rfl) ?_
              refine h_get (v := .int (I0 a0 31)) hx hb hts iX12 hown g t_a0 (by decide) so_13 rfl 31 (by decide) (hts (.fieldLink RX12 264 "CapLeagueModel" "isDrawn" "Z") (by decide +kernel)) rfl dX12_giveTurn_74 rfl ?_
              refine lv_topi (fun v29 ev29 => ?_)
              have jv29 := hI.rd a0 31 t_a0 ev29 (rfl : h_bd 13 31 = (0, 1))
              refine lv_if_ne (tgt := 90) hx hb dX12_giveTurn_77 (by decide) (fun c30 => ?_) (fun c30 => ?_)
              · have ic30 := (xi_ne c30 rfl (by decide) : v29.toInt ≠ 0)
                refine lv_bipush (v := (-4)) hx hb dX12_giveTurn_90 (by decide) ?_
                have hS := g.2.1
                exact W.iret (v := (-4)) hx hb hr (fun t ht hW => ⟨⟨(-4), I0, rfl, ⟨hI, hF, trivial⟩, h_ret g ht⟩, hS.F ht⟩) hS.2.2 dX12_giveTurn_92
              · have ic30 := (xi_eq c30 rfl (by decide) : v29.toInt = 0)
                refine lv_aload_n hx hb dX12_giveTurn_80 rfl (lv_at hl 1 rfl) ?_
                obtain ⟨b31, rb31, tb31⟩ := hR.at a0 27 t_a0 (rfl : h_rs 13 27 = some (1327, false)) (by decide)
                refine h_get (v := .ref b31) hx hb hts iX12 hown g t_a0 (by decide) so_13 rfl 27 (by decide) (hts (.fieldLink RX12 64 "CapLeagueModel" "guarded" "[I") (by decide +kernel)) rfl dX12_giveTurn_81 (by show va_rf (z.R a0 27) = _; rw [rb31]; rfl) ?_
                refine lv_iload hx hb dX12_giveTurn_84 (lv_at hl 0 rfl) ?_
                refine h_ald hx hb g tb31 (by decide) so_1327 (xi_in (by omega) (by omega)) dX12_giveTurn_86 ?_
                refine lv_topi (fun v32 ev32 => ?_)
                have jv32 := hI.rd b31 v18.toNatClampNeg tb31 ev32 (rfl : h_bd 1327 _ = ((-2147483648), 2147483647))
                refine lv_if_le (tgt := 93) hx hb dX12_giveTurn_87 (by decide) (fun c33 => ?_) (fun c33 => ?_)
                · have ic33 := (xi_le c33 rfl (by decide) : v32.toInt ≤ 0)
                  refine lv_aload_n hx hb dX12_giveTurn_93 rfl (lv_at hl 1 rfl) ?_
                  refine lv_bipush (v := 60) hx hb dX12_giveTurn_94 (by decide) ?_
                  refine lv_iload hx hb dX12_giveTurn_96 (lv_at hl 0 rfl) ?_
                  refine lv_iadd hx hb dX12_giveTurn_98 ?_
                  refine lv_topi (fun v34 ev34 => ?_)
                  have jv34 : v34.toInt = 60 + v18.toInt := xi_add ev34 (by decide) rfl (by omega) (by omega)
                  refine lv_aload_n hx hb dX12_giveTurn_99 rfl (lv_at hl 1 rfl) ?_
                  refine h_get (v := .ref b19) hx hb hts iX12 hown g t_a0 (by decide) so_13 rfl 25 (by decide) (hts (.fieldLink RX12 58 "CapLeagueModel" "owner" "[I") (by decide +kernel)) rfl dX12_giveTurn_100 (by show va_rf (z.R a0 25) = _; rw [rb19]; rfl) ?_
                  refine lv_iload hx hb dX12_giveTurn_103 (lv_at hl 0 rfl) ?_
                  refine h_ald hx hb g tb19 (by decide) so_1325 (xi_in (by omega) (by omega)) dX12_giveTurn_105 ?_
                  refine xw_i (ev20.symm) ?_
                  refine lv_iload_n hx hb dX12_giveTurn_106 rfl (lv_at hl 4 rfl) ?_
                  refine lv_iload hx hb dX12_giveTurn_107 (lv_at hl 5 rfl) ?_
                  refine va_calli (va_runV (As := [.int v34, .int v20, .int c, .int k]) (rest := []) ⟨hx, hb, hml, hown, hts⟩ (tX12_add l E X A z I0 L0 a0 t_a0 v34 (v34.toInt) rfl (by omega) v20 (v20.toInt) rfl c (c_t) h_c (by omega) k (k_t) h_k) (cwV 4 hts gX12_giveTurn_X12_add rfl rfl rfl (by decide +kernel) ⟨Nat.le_of_ble_eq_true rfl, Nat.le_of_ble_eq_true rfl⟩) ⟨h_blind _ _ _ _ _ _ _, h_recv g t_a0 (by decide) so_13 (q := (RX12, TX12, 51)) rfl, h_pre _ hE hk hX hA hI hR g⟩ rfl rfl hl.1 rfl (lv_room (Nat.le_of_ble_eq_true rfl)) dX12_giveTurn_109 ⟨Nat.le_of_ble_eq_true rfl, Nat.le_of_ble_eq_true rfl⟩) g.2.1 (fun q _ h => h) (fun q h => h) (fun rh35 I36 t H1 locs ht hvm h35 hB hz1 hk1 hS => ?_)
                  obtain ⟨hI, fh35, h35⟩ := h35
                  replace g := h_after g hB ht hS
                  generalize H1 = H at g
                  clear hB hk1 hz1 ht hvm hS
                  have hF := hF.call fh35 rfl
                  have jrh35 : -2147483648 ≤ rh35.toInt ∧ rh35.toInt ≤ 2147483647 := ⟨xi_lo _, Int.le_of_lt_add_one (xi_hi _)⟩
                  have hS := g.2.1
                  exact W.iret (v := rh35) hx hb hr (fun t ht hW => ⟨⟨rh35, I36, rfl, ⟨hI, hF, trivial⟩, h_ret g ht⟩, hS.F ht⟩) hS.2.2 dX12_giveTurn_112
                · have ic33 := (xi_nle c33 rfl (by decide) : 0 < v32.toInt)
                  refine lv_bipush (v := (-4)) hx hb dX12_giveTurn_90 (by decide) ?_
                  have hS := g.2.1
                  exact W.iret (v := (-4)) hx hb hr (fun t ht hW => ⟨⟨(-4), I0, rfl, ⟨hI, hF, trivial⟩, h_ret g ht⟩, hS.F ht⟩) hS.2.2 dX12_giveTurn_92
set_option maxHeartbeats 4000000 in
set_option maxRecDepth 100000 in
theorem tX12_wrongTrade (l : Launch) (E : tE) (X : tX) (A : Nat → Prop) (z : tZ) (I0 : tI) (L0 : tL) (a0 : Nat) (t_a0 : z.ty a0 = 13) : Met l yX12_wrongTrade wsX12_wrongTrade ({ frames := 5, cells := 0, slots := 0, locals := 320 }) (va_Pc [.ref a0] (h_P E X A z I0 L0)) (vp_Si (fun r => True)) 0 0 (fun _ => False) := by
  refine Met.ofW (cc := cX12_wrongTrade) (maxL := 9) (ret := (some .int)) (by decide) rfl ?_
  intro pr_ ev_ s m args below meth cd_ s₁ B hml hv
  obtain ⟨rfl, hE, hk, hX, hA, hK, hI, hR, hB0⟩ := hv
  have g : h_G h_so h_fk E A z I0 L0 s s.heap s.heap [] := ⟨hK, va_S.rf, hB0⟩
  have hx := B.exec
  have hb := B.bytes
  have hr := B.returns
  have hts := atoms_spec (ws := wsX12_wrongTrade) B.pre
  have hown : s.vm.findClass RX12 = some m.cls := findClass_of_methodNamed B.named
  have hlocks := B.notSynchronized
  have iX12 : ∀ w ∈ u_ws RX12 TX12 51, w ∈ wsX12_wrongTrade := by decide +kernel
  have hl := lv_entry ([.ref a0]) (n := 9) (Nat.le_of_ble_eq_true rfl)
  rw [lg_entry_eq]
  generalize (lg_sl ([.ref a0]) ++ List.replicate (9 - (lg_sl ([.ref a0])).length) Slot.unset).toArray = ls at hl ⊢
  have hl : lv_has ls 9 [(0, .ref a0)] := hl
  refine lv_aload_n hx hb dX12_wrongTrade_0 rfl (lv_at hl 0 rfl) ?_
  refine vp_callSi (W.runV (As := []) (rest := []) ⟨hx, hb, hml, hown, hts⟩ (tX12_clubsOf l E X A z I0 L0 a0 t_a0) (cwV 0 hts gX12_wrongTrade_X12_clubsOf rfl rfl rfl (by decide +kernel) ⟨Nat.le_of_ble_eq_true rfl, Nat.le_of_ble_eq_true rfl⟩) ⟨h_blind _ _ _ _ _ _ _, h_recv g t_a0 (by decide) so_13 (q := (RX12, TX12, 51)) rfl, h_pre _ hE hk hX hA hI hR g⟩ rfl rfl hl.1 rfl (lv_room (Nat.le_of_ble_eq_true rfl)) dX12_wrongTrade_1 ⟨Nat.le_of_ble_eq_true rfl, Nat.le_of_ble_eq_true rfl⟩) (fun rh1 h1 => ?_)
  have jrh1 : -2147483648 ≤ rh1.toInt ∧ rh1.toInt ≤ 2147483647 := ⟨xi_lo _, Int.le_of_lt_add_one (xi_hi _)⟩
  refine lv_istore_n (lv' := [(1, .int rh1), (0, .ref a0)]) hx hb dX12_wrongTrade_4 rfl hl (by decide) rfl (fun ls hl => ?_)
  refine lv_iconst (v := 0) hx hb dX12_wrongTrade_5 (by decide) ?_
  refine lv_istore_n (lv' := [(2, .int 0), (1, .int rh1), (0, .ref a0)]) hx hb dX12_wrongTrade_6 rfl hl (by decide) rfl (fun ls hl => ?_)
  have loop7_0 : ∀ (n : Nat) (ls : Array Slot) (v2 : Int32), lv_has ls 9 [(0, .ref a0), (1, .int rh1), (2, .int v2)] → (0 ≤ v2.toInt ∧ v2.toInt ≤ 8) → (8 - v2.toInt) < (n : Int) → W pr_ l ev_ (headSpec wsX12_wrongTrade ({ frames := 5, cells := 0, slots := 0, locals := 320 })).room s m ([.ref a0] : List Value).toArray below meth cd_ s.heap [] 0 0 (MQ below (vp_Si (fun r => True)) ([.ref a0] : List Value).toArray s 0 0 (fun _ => False)) (F0 m 7 ls []) := by
    intro n
    induction n with
    | zero => intro ls v2 hl jv2 hn; exact absurd hn (by omega)
    | succ n ih7 =>
      intro ls v2 hl jv2 hn
      refine lv_iload_n hx hb dX12_wrongTrade_7 rfl (lv_at hl 2 rfl) ?_
      refine lv_bipush (v := 8) hx hb dX12_wrongTrade_8 (by decide) ?_
      refine lv_icmp_ge (tgt := 253) hx hb dX12_wrongTrade_10 (by decide) (fun c3 => ?_) (fun c3 => ?_)
      · have ic3 := (xi_le c3 (by decide) rfl : 8 ≤ v2.toInt)
        refine lv_iconst (v := 0) hx hb dX12_wrongTrade_253 (by decide) ?_
        exact W.iret (v := 0) hx hb hr (fun t ht hW => ⟨0, rfl, trivial, ht⟩) (fun _ h => by cases h) dX12_wrongTrade_254
      · have ic3 := (xi_nle c3 (by decide) rfl : v2.toInt < 8)
        refine lv_iload_n hx hb dX12_wrongTrade_13 rfl (lv_at hl 1 rfl) ?_
        refine lv_iload_n hx hb dX12_wrongTrade_14 rfl (lv_at hl 2 rfl) ?_
        refine lv_ishr hx hb dX12_wrongTrade_15 ?_
        refine lv_topi (fun v4 ev4 => ?_)
        have jv4 : -2147483648 ≤ v4.toInt ∧ v4.toInt ≤ 2147483647 := ⟨xi_lo _, Int.le_of_lt_add_one (xi_hi _)⟩
        refine lv_iconst (v := 1) hx hb dX12_wrongTrade_16 (by decide) ?_
        refine lv_iand hx hb dX12_wrongTrade_17 ?_
        refine lv_topi (fun v5 ev5 => ?_)
        have jv5 : 0 ≤ v5.toInt ∧ v5.toInt ≤ 1 := h_andn 1 (by decide) ev5
        refine lv_if_ne (tgt := 24) hx hb dX12_wrongTrade_18 (by decide) (fun c6 => ?_) (fun c6 => ?_)
        · have ic6 := (xi_ne c6 rfl (by decide) : v5.toInt ≠ 0)
          refine lv_aload_n hx hb dX12_wrongTrade_24 rfl (lv_at hl 0 rfl) ?_
          refine lv_iload_n hx hb dX12_wrongTrade_25 rfl (lv_at hl 2 rfl) ?_
          refine lv_aload_n hx hb dX12_wrongTrade_26 rfl (lv_at hl 0 rfl) ?_
          refine h_get (v := .int (I0 a0 12)) hx hb hts iX12 hown g t_a0 (by decide) so_13 rfl 12 (by decide) (hts (.fieldLink RX12 187 "CapLeagueModel" "clock" "I") (by decide +kernel)) rfl dX12_wrongTrade_27 rfl ?_
          refine lv_topi (fun v7 ev7 => ?_)
          have jv7 := hI.rd a0 12 t_a0 ev7 (rfl : h_bd 13 12 = (0, 9))
          refine vp_callSi (W.runV (As := [.int v2, .int v7]) (rest := []) ⟨hx, hb, hml, hown, hts⟩ (tX12_manyOf l E X A z I0 L0 a0 t_a0 v2 (v2.toInt) rfl v7 (v7.toInt) rfl) (cwV 2 hts gX12_wrongTrade_X12_manyOf rfl rfl rfl (by decide +kernel) ⟨Nat.le_of_ble_eq_true rfl, Nat.le_of_ble_eq_true rfl⟩) ⟨h_blind _ _ _ _ _ _ _, h_recv g t_a0 (by decide) so_13 (q := (RX12, TX12, 51)) rfl, h_pre _ hE hk hX hA hI hR g⟩ rfl rfl hl.1 rfl (lv_room (Nat.le_of_ble_eq_true rfl)) dX12_wrongTrade_30 ⟨Nat.le_of_ble_eq_true rfl, Nat.le_of_ble_eq_true rfl⟩) (fun rh8 h8 => ?_)
          have jrh8 : -2147483648 ≤ rh8.toInt ∧ rh8.toInt ≤ 2147483647 := ⟨xi_lo _, Int.le_of_lt_add_one (xi_hi _)⟩
          refine lv_istore_n (lv' := [(3, .int rh8), (0, .ref a0), (1, .int rh1), (2, .int v2)]) hx hb dX12_wrongTrade_33 rfl hl (by decide) rfl (fun ls hl => ?_)
          refine lv_aload_n hx hb dX12_wrongTrade_34 rfl (lv_at hl 1 rfl) ?_
          refine lv_iload_n hx hb dX12_wrongTrade_35 rfl (lv_at hl 3 rfl) ?_
          refine lv_aload_n hx hb dX12_wrongTrade_36 rfl (lv_at hl 1 rfl) ?_
          refine h_get (v := .int v7) hx hb hts iX12 hown g t_a0 (by decide) so_13 rfl 12 (by decide) (hts (.fieldLink RX12 187 "CapLeagueModel" "clock" "I") (by decide +kernel)) rfl dX12_wrongTrade_37 (congrArg Value.int (ev7.symm)) ?_
          refine vp_callSi (W.runV (As := [.int v2, .int v7]) (rest := []) ⟨hx, hb, hml, hown, hts⟩ (tX12_counts l E X A z I0 L0 a0 t_a0 v2 (v2.toInt) rfl (by omega) v7 (v7.toInt) rfl (by omega)) (cwV 2 hts gX12_wrongTrade_X12_counts rfl rfl rfl (by decide +kernel) ⟨Nat.le_of_ble_eq_true rfl, Nat.le_of_ble_eq_true rfl⟩) ⟨h_blind _ _ _ _ _ _ _, h_recv g t_a0 (by decide) so_13 (q := (RX12, TX12, 51)) rfl, h_pre _ hE hk hX hA hI hR g⟩ rfl rfl hl.1 rfl (lv_room (Nat.le_of_ble_eq_true rfl)) dX12_wrongTrade_40 ⟨Nat.le_of_ble_eq_true rfl, Nat.le_of_ble_eq_true rfl⟩) (fun rh9 h9 => ?_)
          have jrh9 : -2147483648 ≤ rh9.toInt ∧ rh9.toInt ≤ 2147483647 := ⟨xi_lo _, Int.le_of_lt_add_one (xi_hi _)⟩
          refine lv_istore (lv' := [(4, .int rh9), (3, .int rh8), (0, .ref a0), (1, .int rh1), (2, .int v2)]) hx hb dX12_wrongTrade_43 hl (by decide) rfl (fun ls hl => ?_)
          refine lv_iconst (v := 0) hx hb dX12_wrongTrade_45 (by decide) ?_
          refine lv_istore (lv' := [(5, .int 0), (4, .int rh9), (3, .int rh8), (0, .ref a0), (1, .int rh1), (2, .int v2)]) hx hb dX12_wrongTrade_46 hl (by decide) rfl (fun ls hl => ?_)
          refine lv_iconst (v := 0) hx hb dX12_wrongTrade_48 (by decide) ?_
          refine lv_istore (lv' := [(6, .int 0), (5, .int 0), (4, .int rh9), (3, .int rh8), (0, .ref a0), (1, .int rh1), (2, .int v2)]) hx hb dX12_wrongTrade_49 hl (by decide) rfl (fun ls hl => ?_)
          refine lv_iconst (v := 0) hx hb dX12_wrongTrade_51 (by decide) ?_
          refine lv_istore (lv' := [(7, .int 0), (6, .int 0), (5, .int 0), (4, .int rh9), (3, .int rh8), (0, .ref a0), (1, .int rh1), (2, .int v2)]) hx hb dX12_wrongTrade_52 hl (by decide) rfl (fun ls hl => ?_)
          have loop54_1 : ∀ (n : Nat) (ls : Array Slot) (v10 v11 v12 v13 v14 : Int32), lv_has ls 9 [(0, .ref a0), (1, .int rh1), (2, .int v2), (3, .int v10), (4, .int v11), (5, .int v12), (6, .int v13), (7, .int v14)] → ((-2147483648) ≤ v10.toInt ∧ v10.toInt ≤ 2147483647) → ((-2147483648) ≤ v11.toInt ∧ v11.toInt ≤ 2147483647) → ((-2147483648) ≤ v12.toInt ∧ v12.toInt ≤ 2147483647) → ((-2147483648) ≤ v13.toInt ∧ v13.toInt ≤ 2147483647) → (0 ≤ v14.toInt ∧ v14.toInt ≤ 12) → (12 - v14.toInt) < (n : Int) → W pr_ l ev_ (headSpec wsX12_wrongTrade ({ frames := 5, cells := 0, slots := 0, locals := 320 })).room s m ([.ref a0] : List Value).toArray below meth cd_ s.heap [] 0 0 (MQ below (vp_Si (fun r => True)) ([.ref a0] : List Value).toArray s 0 0 (fun _ => False)) (F0 m 54 ls []) := by
            intro n
            induction n with
            | zero => intro ls v10 v11 v12 v13 v14 hl jv10 jv11 jv12 jv13 jv14 hn; exact absurd hn (by omega)
            | succ n ih54 =>
              intro ls v10 v11 v12 v13 v14 hl jv10 jv11 jv12 jv13 jv14 hn
              refine lv_iload hx hb dX12_wrongTrade_54 (lv_at hl 7 rfl) ?_
              refine lv_aload_n hx hb dX12_wrongTrade_56 rfl (lv_at hl 0 rfl) ?_
              refine h_get (v := .int (I0 a0 33)) hx hb hts iX12 hown g t_a0 (by decide) so_13 rfl 33 (by decide) (hts (.fieldLink RX12 247 "CapLeagueModel" "moves" "I") (by decide +kernel)) rfl dX12_wrongTrade_57 rfl ?_
              refine lv_topi (fun v15 ev15 => ?_)
              have jv15 := hI.rd a0 33 t_a0 ev15 (rfl : h_bd 13 33 = (0, 12))
              refine lv_icmp_ge (tgt := 176) hx hb dX12_wrongTrade_60 (by decide) (fun c16 => ?_) (fun c16 => ?_)
              · have ic16 := (xi_le c16 rfl rfl : v15.toInt ≤ v14.toInt)
                refine lv_iload_n hx hb dX12_wrongTrade_176 rfl (lv_at hl 3 rfl) ?_
                refine lv_aload_n hx hb dX12_wrongTrade_177 rfl (lv_at hl 0 rfl) ?_
                refine lv_aload_n hx hb dX12_wrongTrade_178 rfl (lv_at hl 0 rfl) ?_
                refine h_get (v := .int v7) hx hb hts iX12 hown g t_a0 (by decide) so_13 rfl 12 (by decide) (hts (.fieldLink RX12 187 "CapLeagueModel" "clock" "I") (by decide +kernel)) rfl dX12_wrongTrade_179 (congrArg Value.int (ev7.symm)) ?_
                refine lv_iconst (v := 1) hx hb dX12_wrongTrade_182 (by decide) ?_
                refine vp_callSi (W.runV (As := [.int v7, .int 1]) (rest := [.int v10]) ⟨hx, hb, hml, hown, hts⟩ (tX12_lawOf l E X A z I0 L0 a0 t_a0 v7 (v7.toInt) rfl (by omega) 1 (1) (by decide) (by omega)) (cwV 2 hts gX12_wrongTrade_X12_lawOf rfl rfl rfl (by decide +kernel) ⟨Nat.le_of_ble_eq_true rfl, Nat.le_of_ble_eq_true rfl⟩) ⟨h_blind _ _ _ _ _ _ _, h_recv g t_a0 (by decide) so_13 (q := (RX12, TX12, 51)) rfl, h_pre _ hE hk hX hA hI hR g⟩ rfl rfl hl.1 rfl (lv_room (Nat.le_of_ble_eq_true rfl)) dX12_wrongTrade_183 ⟨Nat.le_of_ble_eq_true rfl, Nat.le_of_ble_eq_true rfl⟩) (fun rh17 h17 => ?_)
                have jrh17 : -2147483648 ≤ rh17.toInt ∧ rh17.toInt ≤ 2147483647 := ⟨xi_lo _, Int.le_of_lt_add_one (xi_hi _)⟩
                refine lv_icmp_le (tgt := 196) hx hb dX12_wrongTrade_186 (by decide) (fun c18 => ?_) (fun c18 => ?_)
                · have ic18 := (xi_le c18 rfl rfl : v10.toInt ≤ rh17.toInt)
                  refine lv_iload hx hb dX12_wrongTrade_196 (lv_at hl 4 rfl) ?_
                  refine lv_aload_n hx hb dX12_wrongTrade_198 rfl (lv_at hl 0 rfl) ?_
                  refine lv_aload_n hx hb dX12_wrongTrade_199 rfl (lv_at hl 0 rfl) ?_
                  refine h_get (v := .int v7) hx hb hts iX12 hown g t_a0 (by decide) so_13 rfl 12 (by decide) (hts (.fieldLink RX12 187 "CapLeagueModel" "clock" "I") (by decide +kernel)) rfl dX12_wrongTrade_200 (congrArg Value.int (ev7.symm)) ?_
                  refine lv_iconst (v := 0) hx hb dX12_wrongTrade_203 (by decide) ?_
                  refine vp_callSi (W.runV (As := [.int v7, .int 0]) (rest := [.int v11]) ⟨hx, hb, hml, hown, hts⟩ (tX12_lawOf l E X A z I0 L0 a0 t_a0 v7 (v7.toInt) rfl (by omega) 0 (0) (by decide) (by omega)) (cwV 2 hts gX12_wrongTrade_X12_lawOf rfl rfl rfl (by decide +kernel) ⟨Nat.le_of_ble_eq_true rfl, Nat.le_of_ble_eq_true rfl⟩) ⟨h_blind _ _ _ _ _ _ _, h_recv g t_a0 (by decide) so_13 (q := (RX12, TX12, 51)) rfl, h_pre _ hE hk hX hA hI hR g⟩ rfl rfl hl.1 rfl (lv_room (Nat.le_of_ble_eq_true rfl)) dX12_wrongTrade_204 ⟨Nat.le_of_ble_eq_true rfl, Nat.le_of_ble_eq_true rfl⟩) (fun rh19 h19 => ?_)
                  have jrh19 : -2147483648 ≤ rh19.toInt ∧ rh19.toInt ≤ 2147483647 := ⟨xi_lo _, Int.le_of_lt_add_one (xi_hi _)⟩
                  refine lv_icmp_le (tgt := 247) hx hb dX12_wrongTrade_207 (by decide) (fun c20 => ?_) (fun c20 => ?_)
                  · have ic20 := (xi_le c20 rfl rfl : v11.toInt ≤ rh19.toInt)
                    obtain ⟨v21, ev21⟩ : ∃ z : Int32, z = v2 + 1 := ⟨_, rfl⟩
                    have jv21 : v21.toInt = v2.toInt + 1 := xi_add ev21 rfl (by decide) (by omega) (by omega)
                    refine lv_iinc (v := v21) (lv' := [(2, .int v21), (0, .ref a0), (1, .int rh1), (3, .int v10), (4, .int v11), (5, .int v12), (6, .int v13), (7, .int v14)]) hx hb dX12_wrongTrade_247 hl (k := 2) rfl (by rw [ev21]; rfl) (by decide) rfl (fun ls hl => ?_)
                    refine lv_goto (tgt := 7) hx hb dX12_wrongTrade_250 (by decide) ?_
                    exact ih7 _ v21 (lv_sub hl [1, 2, 0] rfl) (by omega) (by omega)
                  · have ic20 := (xi_nle c20 rfl rfl : rh19.toInt < v11.toInt)
                    refine lv_iload hx hb dX12_wrongTrade_210 (lv_at hl 5 rfl) ?_
                    refine lv_iload hx hb dX12_wrongTrade_212 (lv_at hl 6 rfl) ?_
                    refine lv_aload_n hx hb dX12_wrongTrade_214 rfl (lv_at hl 0 rfl) ?_
                    refine lv_aload_n hx hb dX12_wrongTrade_215 rfl (lv_at hl 0 rfl) ?_
                    refine h_get (v := .int v7) hx hb hts iX12 hown g t_a0 (by decide) so_13 rfl 12 (by decide) (hts (.fieldLink RX12 187 "CapLeagueModel" "clock" "I") (by decide +kernel)) rfl dX12_wrongTrade_216 (congrArg Value.int (ev7.symm)) ?_
                    refine lv_iconst (v := 4) hx hb dX12_wrongTrade_219 (by decide) ?_
                    refine vp_callSi (W.runV (As := [.int v7, .int 4]) (rest := [.int v13, .int v12]) ⟨hx, hb, hml, hown, hts⟩ (tX12_lawOf l E X A z I0 L0 a0 t_a0 v7 (v7.toInt) rfl (by omega) 4 (4) (by decide) (by omega)) (cwV 2 hts gX12_wrongTrade_X12_lawOf rfl rfl rfl (by decide +kernel) ⟨Nat.le_of_ble_eq_true rfl, Nat.le_of_ble_eq_true rfl⟩) ⟨h_blind _ _ _ _ _ _ _, h_recv g t_a0 (by decide) so_13 (q := (RX12, TX12, 51)) rfl, h_pre _ hE hk hX hA hI hR g⟩ rfl rfl hl.1 rfl (lv_room (Nat.le_of_ble_eq_true rfl)) dX12_wrongTrade_220 ⟨Nat.le_of_ble_eq_true rfl, Nat.le_of_ble_eq_true rfl⟩) (fun rh22 h22 => ?_)
                    have jrh22 : -2147483648 ≤ rh22.toInt ∧ rh22.toInt ≤ 2147483647 := ⟨xi_lo _, Int.le_of_lt_add_one (xi_hi _)⟩
                    refine lv_imul hx hb dX12_wrongTrade_223 ?_
                    refine lv_topi (fun v23 ev23 => ?_)
                    have jv23 : -2147483648 ≤ v23.toInt ∧ v23.toInt ≤ 2147483647 := ⟨xi_lo _, Int.le_of_lt_add_one (xi_hi _)⟩
                    refine lv_bipush (v := 100) hx hb dX12_wrongTrade_224 (by decide) ?_
                    refine lv_idiv hx hb dX12_wrongTrade_226 (by decide) ?_
                    refine lv_topi (fun v24 ev24 => ?_)
                    have jv24 : -2147483648 ≤ v24.toInt ∧ v24.toInt ≤ 2147483647 := ⟨xi_lo _, Int.le_of_lt_add_one (xi_hi _)⟩
                    refine lv_aload_n hx hb dX12_wrongTrade_227 rfl (lv_at hl 0 rfl) ?_
                    refine lv_aload_n hx hb dX12_wrongTrade_228 rfl (lv_at hl 0 rfl) ?_
                    refine h_get (v := .int v7) hx hb hts iX12 hown g t_a0 (by decide) so_13 rfl 12 (by decide) (hts (.fieldLink RX12 187 "CapLeagueModel" "clock" "I") (by decide +kernel)) rfl dX12_wrongTrade_229 (congrArg Value.int (ev7.symm)) ?_
                    refine lv_iconst (v := 5) hx hb dX12_wrongTrade_232 (by decide) ?_
                    refine vp_callSi (W.runV (As := [.int v7, .int 5]) (rest := [.int v24, .int v12]) ⟨hx, hb, hml, hown, hts⟩ (tX12_lawOf l E X A z I0 L0 a0 t_a0 v7 (v7.toInt) rfl (by omega) 5 (5) (by decide) (by omega)) (cwV 2 hts gX12_wrongTrade_X12_lawOf rfl rfl rfl (by decide +kernel) ⟨Nat.le_of_ble_eq_true rfl, Nat.le_of_ble_eq_true rfl⟩) ⟨h_blind _ _ _ _ _ _ _, h_recv g t_a0 (by decide) so_13 (q := (RX12, TX12, 51)) rfl, h_pre _ hE hk hX hA hI hR g⟩ rfl rfl hl.1 rfl (lv_room (Nat.le_of_ble_eq_true rfl)) dX12_wrongTrade_233 ⟨Nat.le_of_ble_eq_true rfl, Nat.le_of_ble_eq_true rfl⟩) (fun rh25 h25 => ?_)
                    have jrh25 : -2147483648 ≤ rh25.toInt ∧ rh25.toInt ≤ 2147483647 := ⟨xi_lo _, Int.le_of_lt_add_one (xi_hi _)⟩
                    refine lv_iadd hx hb dX12_wrongTrade_236 ?_
                    refine lv_topi (fun v26 ev26 => ?_)
                    have jv26 : -2147483648 ≤ v26.toInt ∧ v26.toInt ≤ 2147483647 := ⟨xi_lo _, Int.le_of_lt_add_one (xi_hi _)⟩
                    refine lv_icmp_le (tgt := 247) hx hb dX12_wrongTrade_237 (by decide) (fun c27 => ?_) (fun c27 => ?_)
                    · have ic27 := (xi_le c27 rfl rfl : v12.toInt ≤ v26.toInt)
                      obtain ⟨v28, ev28⟩ : ∃ z : Int32, z = v2 + 1 := ⟨_, rfl⟩
                      have jv28 : v28.toInt = v2.toInt + 1 := xi_add ev28 rfl (by decide) (by omega) (by omega)
                      refine lv_iinc (v := v28) (lv' := [(2, .int v28), (0, .ref a0), (1, .int rh1), (3, .int v10), (4, .int v11), (5, .int v12), (6, .int v13), (7, .int v14)]) hx hb dX12_wrongTrade_247 hl (k := 2) rfl (by rw [ev28]; rfl) (by decide) rfl (fun ls hl => ?_)
                      refine lv_goto (tgt := 7) hx hb dX12_wrongTrade_250 (by decide) ?_
                      exact ih7 _ v28 (lv_sub hl [1, 2, 0] rfl) (by omega) (by omega)
                    · have ic27 := (xi_nle c27 rfl rfl : v26.toInt < v12.toInt)
                      refine lv_bipush (v := 100) hx hb dX12_wrongTrade_240 (by decide) ?_
                      refine lv_iload_n hx hb dX12_wrongTrade_242 rfl (lv_at hl 2 rfl) ?_
                      refine lv_imul hx hb dX12_wrongTrade_243 ?_
                      refine lv_topi (fun v29 ev29 => ?_)
                      have jv29 : v29.toInt = 100 * v2.toInt := xi_mul ev29 (by decide) rfl (by omega) (by omega)
                      refine lv_iconst (v := 2) hx hb dX12_wrongTrade_244 (by decide) ?_
                      refine lv_iadd hx hb dX12_wrongTrade_245 ?_
                      refine lv_topi (fun v30 ev30 => ?_)
                      have jv30 : v30.toInt = v29.toInt + 2 := xi_add ev30 rfl (by decide) (by omega) (by omega)
                      exact W.iret (v := v30) hx hb hr (fun t ht hW => ⟨v30, rfl, trivial, ht⟩) (fun _ h => by cases h) dX12_wrongTrade_246
                · have ic18 := (xi_nle c18 rfl rfl : rh17.toInt < v10.toInt)
                  refine lv_bipush (v := 100) hx hb dX12_wrongTrade_189 (by decide) ?_
                  refine lv_iload_n hx hb dX12_wrongTrade_191 rfl (lv_at hl 2 rfl) ?_
                  refine lv_imul hx hb dX12_wrongTrade_192 ?_
                  refine lv_topi (fun v31 ev31 => ?_)
                  have jv31 : v31.toInt = 100 * v2.toInt := xi_mul ev31 (by decide) rfl (by omega) (by omega)
                  refine lv_iconst (v := 1) hx hb dX12_wrongTrade_193 (by decide) ?_
                  refine lv_iadd hx hb dX12_wrongTrade_194 ?_
                  refine lv_topi (fun v32 ev32 => ?_)
                  have jv32 : v32.toInt = v31.toInt + 1 := xi_add ev32 rfl (by decide) (by omega) (by omega)
                  exact W.iret (v := v32) hx hb hr (fun t ht hW => ⟨v32, rfl, trivial, ht⟩) (fun _ h => by cases h) dX12_wrongTrade_195
              · have ic16 := (xi_nle c16 rfl rfl : v14.toInt < v15.toInt)
                refine lv_aload_n hx hb dX12_wrongTrade_63 rfl (lv_at hl 0 rfl) ?_
                obtain ⟨b33, rb33, tb33⟩ := hR.at a0 34 t_a0 (rfl : h_rs 13 34 = some (1334, false)) (by decide)
                refine h_get (v := .ref b33) hx hb hts iX12 hown g t_a0 (by decide) so_13 rfl 34 (by decide) (hts (.fieldLink RX12 76 "CapLeagueModel" "moved" "[I") (by decide +kernel)) rfl dX12_wrongTrade_64 (by show va_rf (z.R a0 34) = _; rw [rb33]; rfl) ?_
                refine lv_iload hx hb dX12_wrongTrade_67 (lv_at hl 7 rfl) ?_
                refine h_ald hx hb g tb33 (by decide) so_1334 (xi_in (by omega) (by omega)) dX12_wrongTrade_69 ?_
                refine lv_topi (fun v34 ev34 => ?_)
                have jv34 := hI.rd b33 v14.toNatClampNeg tb33 ev34 (rfl : h_bd 1334 _ = (0, 139))
                refine lv_istore (lv' := [(8, .int v34), (0, .ref a0), (1, .int rh1), (2, .int v2), (3, .int v10), (4, .int v11), (5, .int v12), (6, .int v13), (7, .int v14)]) hx hb dX12_wrongTrade_70 hl (by decide) rfl (fun ls hl => ?_)
                refine lv_iload hx hb dX12_wrongTrade_72 (lv_at hl 0 rfl) ?_
                refine lv_bipush (v := 60) hx hb dX12_wrongTrade_74 (by decide) ?_
                refine lv_icmp_lt (tgt := 82) hx hb dX12_wrongTrade_76 (by decide) (fun c35 => ?_) (fun c35 => ?_)
                · have ic35 := (xi_lt c35 rfl (by decide) : v34.toInt < 60)
                  refine lv_aload_n hx hb dX12_wrongTrade_82 rfl (lv_at hl 1 rfl) ?_
                  obtain ⟨b36, rb36, tb36⟩ := hR.at a0 36 t_a0 (rfl : h_rs 13 36 = some (1336, false)) (by decide)
                  refine h_get (v := .ref b36) hx hb hts iX12 hown g t_a0 (by decide) so_13 rfl 36 (by decide) (hts (.fieldLink RX12 82 "CapLeagueModel" "to" "[I") (by decide +kernel)) rfl dX12_wrongTrade_83 (by show va_rf (z.R a0 36) = _; rw [rb36]; rfl) ?_
                  refine lv_iload hx hb dX12_wrongTrade_86 (lv_at hl 8 rfl) ?_
                  refine h_ald hx hb g tb36 (by decide) so_1336 (xi_in (by omega) (by omega)) dX12_wrongTrade_88 ?_
                  refine lv_topi (fun v37 ev37 => ?_)
                  have jv37 := hI.rd b36 v14.toNatClampNeg tb36 ev37 (rfl : h_bd 1336 _ = (0, 7))
                  refine lv_iload_n hx hb dX12_wrongTrade_89 rfl (lv_at hl 3 rfl) ?_
                  refine lv_icmp_ne (tgt := 126) hx hb dX12_wrongTrade_90 (by decide) (fun c38 => ?_) (fun c38 => ?_)
                  · have ic38 := (xi_ne c38 rfl rfl : v37.toInt ≠ v2.toInt)
                    refine lv_aload_n hx hb dX12_wrongTrade_126 rfl (lv_at hl 1 rfl) ?_
                    obtain ⟨b39, rb39, tb39⟩ := hR.at a0 35 t_a0 (rfl : h_rs 13 35 = some (1335, false)) (by decide)
                    refine h_get (v := .ref b39) hx hb hts iX12 hown g t_a0 (by decide) so_13 rfl 35 (by decide) (hts (.fieldLink RX12 79 "CapLeagueModel" "from" "[I") (by decide +kernel)) rfl dX12_wrongTrade_127 (by show va_rf (z.R a0 35) = _; rw [rb39]; rfl) ?_
                    refine lv_iload hx hb dX12_wrongTrade_130 (lv_at hl 8 rfl) ?_
                    refine h_ald hx hb g tb39 (by decide) so_1335 (xi_in (by omega) (by omega)) dX12_wrongTrade_132 ?_
                    refine lv_topi (fun v40 ev40 => ?_)
                    have jv40 := hI.rd b39 v14.toNatClampNeg tb39 ev40 (rfl : h_bd 1335 _ = ((-2147483648), 2147483647))
                    refine lv_iload_n hx hb dX12_wrongTrade_133 rfl (lv_at hl 3 rfl) ?_
                    refine lv_icmp_ne (tgt := 170) hx hb dX12_wrongTrade_134 (by decide) (fun c41 => ?_) (fun c41 => ?_)
                    · have ic41 := (xi_ne c41 rfl rfl : v40.toInt ≠ v2.toInt)
                      obtain ⟨v42, ev42⟩ : ∃ z : Int32, z = v14 + 1 := ⟨_, rfl⟩
                      have jv42 : v42.toInt = v14.toInt + 1 := xi_add ev42 rfl (by decide) (by omega) (by omega)
                      refine lv_iinc (v := v42) (lv' := [(7, .int v42), (8, .int v34), (0, .ref a0), (1, .int rh1), (2, .int v2), (3, .int v10), (4, .int v11), (5, .int v12), (6, .int v13)]) hx hb dX12_wrongTrade_170 hl (k := 8) rfl (by rw [ev42]; rfl) (by decide) rfl (fun ls hl => ?_)
                      refine lv_goto (tgt := 54) hx hb dX12_wrongTrade_173 (by decide) ?_
                      exact ih54 _ v10 v11 v12 v13 v42 (lv_sub hl [2, 3, 4, 5, 6, 7, 8, 0] rfl) (by omega) (by omega) (by omega) (by omega) (by omega) (by omega)
                    · have ic41 := (xi_eq c41 rfl rfl : v40.toInt = v2.toInt)
                      obtain ⟨v43, ev43⟩ : ∃ z : Int32, z = v10 + (-1) := ⟨_, rfl⟩
                      have jv43 : -2147483648 ≤ v43.toInt ∧ v43.toInt ≤ 2147483647 := ⟨xi_lo _, Int.le_of_lt_add_one (xi_hi _)⟩
                      refine lv_iinc (v := v43) (lv' := [(3, .int v43), (8, .int v34), (0, .ref a0), (1, .int rh1), (2, .int v2), (4, .int v11), (5, .int v12), (6, .int v13), (7, .int v14)]) hx hb dX12_wrongTrade_137 hl (k := 4) rfl (by rw [ev43]; rfl) (by decide) rfl (fun ls hl => ?_)
                      refine lv_iload hx hb dX12_wrongTrade_140 (lv_at hl 5 rfl) ?_
                      refine lv_aload_n hx hb dX12_wrongTrade_142 rfl (lv_at hl 2 rfl) ?_
                      refine lv_iload hx hb dX12_wrongTrade_143 (lv_at hl 1 rfl) ?_
                      refine lv_aload_n hx hb dX12_wrongTrade_145 rfl (lv_at hl 2 rfl) ?_
                      refine h_get (v := .int v7) hx hb hts iX12 hown g t_a0 (by decide) so_13 rfl 12 (by decide) (hts (.fieldLink RX12 187 "CapLeagueModel" "clock" "I") (by decide +kernel)) rfl dX12_wrongTrade_146 (congrArg Value.int (ev7.symm)) ?_
                      refine vp_callSi (W.runV (As := [.int v34, .int v7]) (rest := [.int v11]) ⟨hx, hb, hml, hown, hts⟩ (tX12_countOf l E X A z I0 L0 a0 t_a0 v34 (v34.toInt) rfl (by omega) v7 (v7.toInt) rfl) (cwV 2 hts gX12_wrongTrade_X12_countOf rfl rfl rfl (by decide +kernel) ⟨Nat.le_of_ble_eq_true rfl, Nat.le_of_ble_eq_true rfl⟩) ⟨h_blind _ _ _ _ _ _ _, h_recv g t_a0 (by decide) so_13 (q := (RX12, TX12, 51)) rfl, h_pre _ hE hk hX hA hI hR g⟩ rfl rfl hl.1 rfl (lv_room (Nat.le_of_ble_eq_true rfl)) dX12_wrongTrade_149 ⟨Nat.le_of_ble_eq_true rfl, Nat.le_of_ble_eq_true rfl⟩) (fun rh44 h44 => ?_)
                      have jrh44 : -2147483648 ≤ rh44.toInt ∧ rh44.toInt ≤ 2147483647 := ⟨xi_lo _, Int.le_of_lt_add_one (xi_hi _)⟩
                      refine lv_isub hx hb dX12_wrongTrade_152 ?_
                      refine lv_topi (fun v45 ev45 => ?_)
                      have jv45 : -2147483648 ≤ v45.toInt ∧ v45.toInt ≤ 2147483647 := ⟨xi_lo _, Int.le_of_lt_add_one (xi_hi _)⟩
                      refine lv_istore (lv' := [(4, .int v45), (3, .int v43), (8, .int v34), (0, .ref a0), (1, .int rh1), (2, .int v2), (5, .int v12), (6, .int v13), (7, .int v14)]) hx hb dX12_wrongTrade_153 hl (by decide) rfl (fun ls hl => ?_)
                      refine lv_iload hx hb dX12_wrongTrade_155 (lv_at hl 7 rfl) ?_
                      refine lv_aload_n hx hb dX12_wrongTrade_157 rfl (lv_at hl 3 rfl) ?_
                      refine lv_iload hx hb dX12_wrongTrade_158 (lv_at hl 2 rfl) ?_
                      refine lv_aload_n hx hb dX12_wrongTrade_160 rfl (lv_at hl 3 rfl) ?_
                      refine h_get (v := .int v7) hx hb hts iX12 hown g t_a0 (by decide) so_13 rfl 12 (by decide) (hts (.fieldLink RX12 187 "CapLeagueModel" "clock" "I") (by decide +kernel)) rfl dX12_wrongTrade_161 (congrArg Value.int (ev7.symm)) ?_
                      refine vp_callSi (W.runV (As := [.int v34, .int v7]) (rest := [.int v13]) ⟨hx, hb, hml, hown, hts⟩ (tX12_payOf l E X A z I0 L0 a0 t_a0 v34 (v34.toInt) rfl (by omega) v7 (v7.toInt) rfl) (cwV 2 hts gX12_wrongTrade_X12_payOf rfl rfl rfl (by decide +kernel) ⟨Nat.le_of_ble_eq_true rfl, Nat.le_of_ble_eq_true rfl⟩) ⟨h_blind _ _ _ _ _ _ _, h_recv g t_a0 (by decide) so_13 (q := (RX12, TX12, 51)) rfl, h_pre _ hE hk hX hA hI hR g⟩ rfl rfl hl.1 rfl (lv_room (Nat.le_of_ble_eq_true rfl)) dX12_wrongTrade_164 ⟨Nat.le_of_ble_eq_true rfl, Nat.le_of_ble_eq_true rfl⟩) (fun rh46 h46 => ?_)
                      have jrh46 : -2147483648 ≤ rh46.toInt ∧ rh46.toInt ≤ 2147483647 := ⟨xi_lo _, Int.le_of_lt_add_one (xi_hi _)⟩
                      refine lv_iadd hx hb dX12_wrongTrade_167 ?_
                      refine lv_topi (fun v47 ev47 => ?_)
                      have jv47 : -2147483648 ≤ v47.toInt ∧ v47.toInt ≤ 2147483647 := ⟨xi_lo _, Int.le_of_lt_add_one (xi_hi _)⟩
                      refine lv_istore (lv' := [(6, .int v47), (4, .int v45), (3, .int v43), (8, .int v34), (0, .ref a0), (1, .int rh1), (2, .int v2), (5, .int v12), (7, .int v14)]) hx hb dX12_wrongTrade_168 hl (by decide) rfl (fun ls hl => ?_)
                      obtain ⟨v48, ev48⟩ : ∃ z : Int32, z = v14 + 1 := ⟨_, rfl⟩
                      have jv48 : v48.toInt = v14.toInt + 1 := xi_add ev48 rfl (by decide) (by omega) (by omega)
                      refine lv_iinc (v := v48) (lv' := [(7, .int v48), (6, .int v47), (4, .int v45), (3, .int v43), (8, .int v34), (0, .ref a0), (1, .int rh1), (2, .int v2), (5, .int v12)]) hx hb dX12_wrongTrade_170 hl (k := 8) rfl (by rw [ev48]; rfl) (by decide) rfl (fun ls hl => ?_)
                      refine lv_goto (tgt := 54) hx hb dX12_wrongTrade_173 (by decide) ?_
                      exact ih54 _ v43 v45 v12 v47 v48 (lv_sub hl [5, 6, 7, 3, 2, 8, 1, 0] rfl) (by omega) (by omega) (by omega) (by omega) (by omega) (by omega)
                  · have ic38 := (xi_eq c38 rfl rfl : v37.toInt = v2.toInt)
                    obtain ⟨v49, ev49⟩ : ∃ z : Int32, z = v10 + 1 := ⟨_, rfl⟩
                    have jv49 : -2147483648 ≤ v49.toInt ∧ v49.toInt ≤ 2147483647 := ⟨xi_lo _, Int.le_of_lt_add_one (xi_hi _)⟩
                    refine lv_iinc (v := v49) (lv' := [(3, .int v49), (8, .int v34), (0, .ref a0), (1, .int rh1), (2, .int v2), (4, .int v11), (5, .int v12), (6, .int v13), (7, .int v14)]) hx hb dX12_wrongTrade_93 hl (k := 4) rfl (by rw [ev49]; rfl) (by decide) rfl (fun ls hl => ?_)
                    refine lv_iload hx hb dX12_wrongTrade_96 (lv_at hl 5 rfl) ?_
                    refine lv_aload_n hx hb dX12_wrongTrade_98 rfl (lv_at hl 2 rfl) ?_
                    refine lv_iload hx hb dX12_wrongTrade_99 (lv_at hl 1 rfl) ?_
                    refine lv_aload_n hx hb dX12_wrongTrade_101 rfl (lv_at hl 2 rfl) ?_
                    refine h_get (v := .int v7) hx hb hts iX12 hown g t_a0 (by decide) so_13 rfl 12 (by decide) (hts (.fieldLink RX12 187 "CapLeagueModel" "clock" "I") (by decide +kernel)) rfl dX12_wrongTrade_102 (congrArg Value.int (ev7.symm)) ?_
                    refine vp_callSi (W.runV (As := [.int v34, .int v7]) (rest := [.int v11]) ⟨hx, hb, hml, hown, hts⟩ (tX12_countOf l E X A z I0 L0 a0 t_a0 v34 (v34.toInt) rfl (by omega) v7 (v7.toInt) rfl) (cwV 2 hts gX12_wrongTrade_X12_countOf rfl rfl rfl (by decide +kernel) ⟨Nat.le_of_ble_eq_true rfl, Nat.le_of_ble_eq_true rfl⟩) ⟨h_blind _ _ _ _ _ _ _, h_recv g t_a0 (by decide) so_13 (q := (RX12, TX12, 51)) rfl, h_pre _ hE hk hX hA hI hR g⟩ rfl rfl hl.1 rfl (lv_room (Nat.le_of_ble_eq_true rfl)) dX12_wrongTrade_105 ⟨Nat.le_of_ble_eq_true rfl, Nat.le_of_ble_eq_true rfl⟩) (fun rh50 h50 => ?_)
                    have jrh50 : -2147483648 ≤ rh50.toInt ∧ rh50.toInt ≤ 2147483647 := ⟨xi_lo _, Int.le_of_lt_add_one (xi_hi _)⟩
                    refine lv_iadd hx hb dX12_wrongTrade_108 ?_
                    refine lv_topi (fun v51 ev51 => ?_)
                    have jv51 : -2147483648 ≤ v51.toInt ∧ v51.toInt ≤ 2147483647 := ⟨xi_lo _, Int.le_of_lt_add_one (xi_hi _)⟩
                    refine lv_istore (lv' := [(4, .int v51), (3, .int v49), (8, .int v34), (0, .ref a0), (1, .int rh1), (2, .int v2), (5, .int v12), (6, .int v13), (7, .int v14)]) hx hb dX12_wrongTrade_109 hl (by decide) rfl (fun ls hl => ?_)
                    refine lv_iload hx hb dX12_wrongTrade_111 (lv_at hl 6 rfl) ?_
                    refine lv_aload_n hx hb dX12_wrongTrade_113 rfl (lv_at hl 3 rfl) ?_
                    refine lv_iload hx hb dX12_wrongTrade_114 (lv_at hl 2 rfl) ?_
                    refine lv_aload_n hx hb dX12_wrongTrade_116 rfl (lv_at hl 3 rfl) ?_
                    refine h_get (v := .int v7) hx hb hts iX12 hown g t_a0 (by decide) so_13 rfl 12 (by decide) (hts (.fieldLink RX12 187 "CapLeagueModel" "clock" "I") (by decide +kernel)) rfl dX12_wrongTrade_117 (congrArg Value.int (ev7.symm)) ?_
                    refine vp_callSi (W.runV (As := [.int v34, .int v7]) (rest := [.int v12]) ⟨hx, hb, hml, hown, hts⟩ (tX12_payOf l E X A z I0 L0 a0 t_a0 v34 (v34.toInt) rfl (by omega) v7 (v7.toInt) rfl) (cwV 2 hts gX12_wrongTrade_X12_payOf rfl rfl rfl (by decide +kernel) ⟨Nat.le_of_ble_eq_true rfl, Nat.le_of_ble_eq_true rfl⟩) ⟨h_blind _ _ _ _ _ _ _, h_recv g t_a0 (by decide) so_13 (q := (RX12, TX12, 51)) rfl, h_pre _ hE hk hX hA hI hR g⟩ rfl rfl hl.1 rfl (lv_room (Nat.le_of_ble_eq_true rfl)) dX12_wrongTrade_120 ⟨Nat.le_of_ble_eq_true rfl, Nat.le_of_ble_eq_true rfl⟩) (fun rh52 h52 => ?_)
                    have jrh52 : -2147483648 ≤ rh52.toInt ∧ rh52.toInt ≤ 2147483647 := ⟨xi_lo _, Int.le_of_lt_add_one (xi_hi _)⟩
                    refine lv_iadd hx hb dX12_wrongTrade_123 ?_
                    refine lv_topi (fun v53 ev53 => ?_)
                    have jv53 : -2147483648 ≤ v53.toInt ∧ v53.toInt ≤ 2147483647 := ⟨xi_lo _, Int.le_of_lt_add_one (xi_hi _)⟩
                    refine lv_istore (lv' := [(5, .int v53), (4, .int v51), (3, .int v49), (8, .int v34), (0, .ref a0), (1, .int rh1), (2, .int v2), (6, .int v13), (7, .int v14)]) hx hb dX12_wrongTrade_124 hl (by decide) rfl (fun ls hl => ?_)
                    refine lv_aload_n hx hb dX12_wrongTrade_126 rfl (lv_at hl 4 rfl) ?_
                    obtain ⟨b54, rb54, tb54⟩ := hR.at a0 35 t_a0 (rfl : h_rs 13 35 = some (1335, false)) (by decide)
                    refine h_get (v := .ref b54) hx hb hts iX12 hown g t_a0 (by decide) so_13 rfl 35 (by decide) (hts (.fieldLink RX12 79 "CapLeagueModel" "from" "[I") (by decide +kernel)) rfl dX12_wrongTrade_127 (by show va_rf (z.R a0 35) = _; rw [rb54]; rfl) ?_
                    refine lv_iload hx hb dX12_wrongTrade_130 (lv_at hl 8 rfl) ?_
                    refine h_ald hx hb g tb54 (by decide) so_1335 (xi_in (by omega) (by omega)) dX12_wrongTrade_132 ?_
                    refine lv_topi (fun v55 ev55 => ?_)
                    have jv55 := hI.rd b54 v14.toNatClampNeg tb54 ev55 (rfl : h_bd 1335 _ = ((-2147483648), 2147483647))
                    refine lv_iload_n hx hb dX12_wrongTrade_133 rfl (lv_at hl 6 rfl) ?_
                    refine lv_icmp_ne (tgt := 170) hx hb dX12_wrongTrade_134 (by decide) (fun c56 => ?_) (fun c56 => ?_)
                    · have ic56 := (xi_ne c56 rfl rfl : v55.toInt ≠ v2.toInt)
                      obtain ⟨v57, ev57⟩ : ∃ z : Int32, z = v14 + 1 := ⟨_, rfl⟩
                      have jv57 : v57.toInt = v14.toInt + 1 := xi_add ev57 rfl (by decide) (by omega) (by omega)
                      refine lv_iinc (v := v57) (lv' := [(7, .int v57), (5, .int v53), (4, .int v51), (3, .int v49), (8, .int v34), (0, .ref a0), (1, .int rh1), (2, .int v2), (6, .int v13)]) hx hb dX12_wrongTrade_170 hl (k := 8) rfl (by rw [ev57]; rfl) (by decide) rfl (fun ls hl => ?_)
                      refine lv_goto (tgt := 54) hx hb dX12_wrongTrade_173 (by decide) ?_
                      exact ih54 _ v49 v51 v53 v13 v57 (lv_sub hl [5, 6, 7, 3, 2, 1, 8, 0] rfl) (by omega) (by omega) (by omega) (by omega) (by omega) (by omega)
                    · have ic56 := (xi_eq c56 rfl rfl : v55.toInt = v2.toInt)
                      obtain ⟨v58, ev58⟩ : ∃ z : Int32, z = v49 + (-1) := ⟨_, rfl⟩
                      have jv58 : -2147483648 ≤ v58.toInt ∧ v58.toInt ≤ 2147483647 := ⟨xi_lo _, Int.le_of_lt_add_one (xi_hi _)⟩
                      refine lv_iinc (v := v58) (lv' := [(3, .int v58), (5, .int v53), (4, .int v51), (8, .int v34), (0, .ref a0), (1, .int rh1), (2, .int v2), (6, .int v13), (7, .int v14)]) hx hb dX12_wrongTrade_137 hl (k := 2) rfl (by rw [ev58]; rfl) (by decide) rfl (fun ls hl => ?_)
                      refine lv_iload hx hb dX12_wrongTrade_140 (lv_at hl 2 rfl) ?_
                      refine lv_aload_n hx hb dX12_wrongTrade_142 rfl (lv_at hl 4 rfl) ?_
                      refine lv_iload hx hb dX12_wrongTrade_143 (lv_at hl 3 rfl) ?_
                      refine lv_aload_n hx hb dX12_wrongTrade_145 rfl (lv_at hl 4 rfl) ?_
                      refine h_get (v := .int v7) hx hb hts iX12 hown g t_a0 (by decide) so_13 rfl 12 (by decide) (hts (.fieldLink RX12 187 "CapLeagueModel" "clock" "I") (by decide +kernel)) rfl dX12_wrongTrade_146 (congrArg Value.int (ev7.symm)) ?_
                      refine vp_callSi (W.runV (As := [.int v34, .int v7]) (rest := [.int v51]) ⟨hx, hb, hml, hown, hts⟩ (tX12_countOf l E X A z I0 L0 a0 t_a0 v34 (v34.toInt) rfl (by omega) v7 (v7.toInt) rfl) (cwV 2 hts gX12_wrongTrade_X12_countOf rfl rfl rfl (by decide +kernel) ⟨Nat.le_of_ble_eq_true rfl, Nat.le_of_ble_eq_true rfl⟩) ⟨h_blind _ _ _ _ _ _ _, h_recv g t_a0 (by decide) so_13 (q := (RX12, TX12, 51)) rfl, h_pre _ hE hk hX hA hI hR g⟩ rfl rfl hl.1 rfl (lv_room (Nat.le_of_ble_eq_true rfl)) dX12_wrongTrade_149 ⟨Nat.le_of_ble_eq_true rfl, Nat.le_of_ble_eq_true rfl⟩) (fun rh59 h59 => ?_)
                      have jrh59 : -2147483648 ≤ rh59.toInt ∧ rh59.toInt ≤ 2147483647 := ⟨xi_lo _, Int.le_of_lt_add_one (xi_hi _)⟩
                      refine lv_isub hx hb dX12_wrongTrade_152 ?_
                      refine lv_topi (fun v60 ev60 => ?_)
                      have jv60 : -2147483648 ≤ v60.toInt ∧ v60.toInt ≤ 2147483647 := ⟨xi_lo _, Int.le_of_lt_add_one (xi_hi _)⟩
                      refine lv_istore (lv' := [(4, .int v60), (3, .int v58), (5, .int v53), (8, .int v34), (0, .ref a0), (1, .int rh1), (2, .int v2), (6, .int v13), (7, .int v14)]) hx hb dX12_wrongTrade_153 hl (by decide) rfl (fun ls hl => ?_)
                      refine lv_iload hx hb dX12_wrongTrade_155 (lv_at hl 7 rfl) ?_
                      refine lv_aload_n hx hb dX12_wrongTrade_157 rfl (lv_at hl 4 rfl) ?_
                      refine lv_iload hx hb dX12_wrongTrade_158 (lv_at hl 3 rfl) ?_
                      refine lv_aload_n hx hb dX12_wrongTrade_160 rfl (lv_at hl 4 rfl) ?_
                      refine h_get (v := .int v7) hx hb hts iX12 hown g t_a0 (by decide) so_13 rfl 12 (by decide) (hts (.fieldLink RX12 187 "CapLeagueModel" "clock" "I") (by decide +kernel)) rfl dX12_wrongTrade_161 (congrArg Value.int (ev7.symm)) ?_
                      refine vp_callSi (W.runV (As := [.int v34, .int v7]) (rest := [.int v13]) ⟨hx, hb, hml, hown, hts⟩ (tX12_payOf l E X A z I0 L0 a0 t_a0 v34 (v34.toInt) rfl (by omega) v7 (v7.toInt) rfl) (cwV 2 hts gX12_wrongTrade_X12_payOf rfl rfl rfl (by decide +kernel) ⟨Nat.le_of_ble_eq_true rfl, Nat.le_of_ble_eq_true rfl⟩) ⟨h_blind _ _ _ _ _ _ _, h_recv g t_a0 (by decide) so_13 (q := (RX12, TX12, 51)) rfl, h_pre _ hE hk hX hA hI hR g⟩ rfl rfl hl.1 rfl (lv_room (Nat.le_of_ble_eq_true rfl)) dX12_wrongTrade_164 ⟨Nat.le_of_ble_eq_true rfl, Nat.le_of_ble_eq_true rfl⟩) (fun rh61 h61 => ?_)
                      have jrh61 : -2147483648 ≤ rh61.toInt ∧ rh61.toInt ≤ 2147483647 := ⟨xi_lo _, Int.le_of_lt_add_one (xi_hi _)⟩
                      refine lv_iadd hx hb dX12_wrongTrade_167 ?_
                      refine lv_topi (fun v62 ev62 => ?_)
                      have jv62 : -2147483648 ≤ v62.toInt ∧ v62.toInt ≤ 2147483647 := ⟨xi_lo _, Int.le_of_lt_add_one (xi_hi _)⟩
                      refine lv_istore (lv' := [(6, .int v62), (4, .int v60), (3, .int v58), (5, .int v53), (8, .int v34), (0, .ref a0), (1, .int rh1), (2, .int v2), (7, .int v14)]) hx hb dX12_wrongTrade_168 hl (by decide) rfl (fun ls hl => ?_)
                      obtain ⟨v63, ev63⟩ : ∃ z : Int32, z = v14 + 1 := ⟨_, rfl⟩
                      have jv63 : v63.toInt = v14.toInt + 1 := xi_add ev63 rfl (by decide) (by omega) (by omega)
                      refine lv_iinc (v := v63) (lv' := [(7, .int v63), (6, .int v62), (4, .int v60), (3, .int v58), (5, .int v53), (8, .int v34), (0, .ref a0), (1, .int rh1), (2, .int v2)]) hx hb dX12_wrongTrade_170 hl (k := 8) rfl (by rw [ev63]; rfl) (by decide) rfl (fun ls hl => ?_)
                      refine lv_goto (tgt := 54) hx hb dX12_wrongTrade_173 (by decide) ?_
                      exact ih54 _ v58 v60 v53 v62 v63 (lv_sub hl [6, 7, 8, 3, 2, 4, 1, 0] rfl) (by omega) (by omega) (by omega) (by omega) (by omega) (by omega)
                · have ic35 := (xi_nlt c35 rfl (by decide) : 60 ≤ v34.toInt)
                  refine lv_goto (tgt := 170) hx hb dX12_wrongTrade_79 (by decide) ?_
                  obtain ⟨v64, ev64⟩ : ∃ z : Int32, z = v14 + 1 := ⟨_, rfl⟩
                  have jv64 : v64.toInt = v14.toInt + 1 := xi_add ev64 rfl (by decide) (by omega) (by omega)
                  refine lv_iinc (v := v64) (lv' := [(7, .int v64), (8, .int v34), (0, .ref a0), (1, .int rh1), (2, .int v2), (3, .int v10), (4, .int v11), (5, .int v12), (6, .int v13)]) hx hb dX12_wrongTrade_170 hl (k := 8) rfl (by rw [ev64]; rfl) (by decide) rfl (fun ls hl => ?_)
                  refine lv_goto (tgt := 54) hx hb dX12_wrongTrade_173 (by decide) ?_
                  exact ih54 _ v10 v11 v12 v13 v64 (lv_sub hl [2, 3, 4, 5, 6, 7, 8, 0] rfl) (by omega) (by omega) (by omega) (by omega) (by omega) (by omega)
          exact loop54_1 _ _ rh8 rh9 (0) (0) (0) (lv_sub hl [5, 6, 7, 4, 3, 2, 1, 0] rfl) (by omega) (by omega) ⟨by decide, by decide⟩ ⟨by decide, by decide⟩ ⟨by decide, by decide⟩ (show (12 - (0 : Int)) < (((12 - (0 : Int)).toNat + 1 : Nat) : Int) by omega)
        · have ic6 := (xi_eq c6 rfl (by decide) : v5.toInt = 0)
          refine lv_goto (tgt := 247) hx hb dX12_wrongTrade_21 (by decide) ?_
          obtain ⟨v65, ev65⟩ : ∃ z : Int32, z = v2 + 1 := ⟨_, rfl⟩
          have jv65 : v65.toInt = v2.toInt + 1 := xi_add ev65 rfl (by decide) (by omega) (by omega)
          refine lv_iinc (v := v65) (lv' := [(2, .int v65), (0, .ref a0), (1, .int rh1)]) hx hb dX12_wrongTrade_247 hl (k := 2) rfl (by rw [ev65]; rfl) (by decide) rfl (fun ls hl => ?_)
          refine lv_goto (tgt := 7) hx hb dX12_wrongTrade_250 (by decide) ?_
          exact ih7 _ v65 (lv_sub hl [1, 2, 0] rfl) (by omega) (by omega)
  exact loop7_0 _ _ (0) (lv_sub hl [2, 1, 0] rfl) ⟨by decide, by decide⟩ (show (8 - (0 : Int)) < (((8 - (0 : Int)).toNat + 1 : Nat) : Int) by omega)
set_option maxHeartbeats 4000000 in
set_option maxRecDepth 100000 in
theorem tX12_check (l : Launch) (E : tE) (X : tX) (A : Nat → Prop) (z : tZ) (I0 : tI) (L0 : tL) (a0 : Nat) (t_a0 : z.ty a0 = 13) : Met l yX12_check wsX12_check ({ frames := 6, cells := 0, slots := 0, locals := 384 }) (va_Pc [.ref a0] (h_P E X A z I0 L0)) (vp_Si (fun r => True)) 0 0 (fun _ => False) := by
  refine Met.ofW (cc := cX12_check) (maxL := 1) (ret := (some .int)) (by decide) rfl ?_
  intro pr_ ev_ s m args below meth cd_ s₁ B hml hv
  obtain ⟨rfl, hE, hk, hX, hA, hK, hI, hR, hB0⟩ := hv
  have g : h_G h_so h_fk E A z I0 L0 s s.heap s.heap [] := ⟨hK, va_S.rf, hB0⟩
  have hx := B.exec
  have hb := B.bytes
  have hr := B.returns
  have hts := atoms_spec (ws := wsX12_check) B.pre
  have hown : s.vm.findClass RX12 = some m.cls := findClass_of_methodNamed B.named
  have hlocks := B.notSynchronized
  have iX12 : ∀ w ∈ u_ws RX12 TX12 51, w ∈ wsX12_check := by decide +kernel
  have hl := lv_entry ([.ref a0]) (n := 1) (Nat.le_of_ble_eq_true rfl)
  rw [lg_entry_eq]
  generalize (lg_sl ([.ref a0]) ++ List.replicate (1 - (lg_sl ([.ref a0])).length) Slot.unset).toArray = ls at hl ⊢
  have hl : lv_has ls 1 [(0, .ref a0)] := hl
  refine lv_aload_n hx hb dX12_check_0 rfl (lv_at hl 0 rfl) ?_
  refine h_get (v := .int (I0 a0 33)) hx hb hts iX12 hown g t_a0 (by decide) so_13 rfl 33 (by decide) (hts (.fieldLink RX12 247 "CapLeagueModel" "moves" "I") (by decide +kernel)) rfl dX12_check_1 rfl ?_
  refine lv_topi (fun v1 ev1 => ?_)
  have jv1 := hI.rd a0 33 t_a0 ev1 (rfl : h_bd 13 33 = (0, 12))
  refine lv_if_ne (tgt := 12) hx hb dX12_check_4 (by decide) (fun c2 => ?_) (fun c2 => ?_)
  · have ic2 := (xi_ne c2 rfl (by decide) : v1.toInt ≠ 0)
    refine lv_aload_n hx hb dX12_check_12 rfl (lv_at hl 0 rfl) ?_
    refine vp_callSi (W.runV (As := []) (rest := []) ⟨hx, hb, hml, hown, hts⟩ (tX12_wrongTrade l E X A z I0 L0 a0 t_a0) (cwV 0 hts gX12_check_X12_wrongTrade rfl rfl rfl (by decide +kernel) ⟨Nat.le_of_ble_eq_true rfl, Nat.le_of_ble_eq_true rfl⟩) ⟨h_blind _ _ _ _ _ _ _, h_recv g t_a0 (by decide) so_13 (q := (RX12, TX12, 51)) rfl, h_pre _ hE hk hX hA hI hR g⟩ rfl rfl hl.1 rfl (lv_room (Nat.le_of_ble_eq_true rfl)) dX12_check_13 ⟨Nat.le_of_ble_eq_true rfl, Nat.le_of_ble_eq_true rfl⟩) (fun rh3 h3 => ?_)
    have jrh3 : -2147483648 ≤ rh3.toInt ∧ rh3.toInt ≤ 2147483647 := ⟨xi_lo _, Int.le_of_lt_add_one (xi_hi _)⟩
    exact W.iret (v := rh3) hx hb hr (fun t ht hW => ⟨rh3, rfl, trivial, ht⟩) (fun _ h => by cases h) dX12_check_16
  · have ic2 := (xi_eq c2 rfl (by decide) : v1.toInt = 0)
    refine lv_bipush (v := (-4)) hx hb dX12_check_7 (by decide) ?_
    refine lv_goto (tgt := 16) hx hb dX12_check_9 (by decide) ?_
    exact W.iret (v := (-4)) hx hb hr (fun t ht hW => ⟨(-4), rfl, trivial, ht⟩) (fun _ h => by cases h) dX12_check_16
set_option maxHeartbeats 4000000 in
set_option maxRecDepth 100000 in
theorem tX12_deal (l : Launch) (E : tE) (X : tX) (A : Nat → Prop) (z : tZ) (I0 : tI) (L0 : tL) (a0 : Nat) (t_a0 : z.ty a0 = 13) : Met l yX12_deal wsX12_deal ({ frames := 6, cells := 0, slots := 0, locals := 384 }) (va_Pc [.ref a0] (h_P E X A z I0 L0)) (va_Qi (fun r (I1 : tI) => h_I z I1 ∧ h_F [(1314, 999), (1325, 999), (1327, 999), (1326, 999), (13, 33)] z I0 I1 ∧ True) (fun (I1 : tI) t => h_B E A z I1 L0 t) A) 0 0 A := by
  refine Met.ofW (cc := cX12_deal) (maxL := 3) (ret := (some .int)) (by decide) rfl ?_
  intro pr_ ev_ s m args below meth cd_ s₁ B hml hv
  obtain ⟨rfl, hE, hk, hX, hA, hK, hI, hR, hB0⟩ := hv
  have g : h_G h_so h_fk E A z I0 L0 s s.heap s.heap [] := ⟨hK, va_S.rf, hB0⟩
  have hF : h_F [(1314, 999), (1325, 999), (1327, 999), (1326, 999), (13, 33)] z I0 I0 := h_F.rf
  have hx := B.exec
  have hb := B.bytes
  have hr := B.returns
  have hts := atoms_spec (ws := wsX12_deal) B.pre
  have hown : s.vm.findClass RX12 = some m.cls := findClass_of_methodNamed B.named
  have hlocks := B.notSynchronized
  have iX12 : ∀ w ∈ u_ws RX12 TX12 51, w ∈ wsX12_deal := by decide +kernel
  have hl := lv_entry ([.ref a0]) (n := 3) (Nat.le_of_ble_eq_true rfl)
  rw [lg_entry_eq]
  generalize (lg_sl ([.ref a0]) ++ List.replicate (3 - (lg_sl ([.ref a0])).length) Slot.unset).toArray = ls at hl ⊢
  have hl : lv_has ls 3 [(0, .ref a0)] := hl
  refine lv_aload_n hx hb dX12_deal_0 rfl (lv_at hl 0 rfl) ?_
  refine h_get (v := .int (I0 a0 33)) hx hb hts iX12 hown g t_a0 (by decide) so_13 rfl 33 (by decide) (hts (.fieldLink RX12 247 "CapLeagueModel" "moves" "I") (by decide +kernel)) rfl dX12_deal_1 rfl ?_
  refine lv_topi (fun v1 ev1 => ?_)
  have jv1 := hI.rd a0 33 t_a0 ev1 (rfl : h_bd 13 33 = (0, 12))
  refine lv_if_ne (tgt := 10) hx hb dX12_deal_4 (by decide) (fun c2 => ?_) (fun c2 => ?_)
  · have ic2 := (xi_ne c2 rfl (by decide) : v1.toInt ≠ 0)
    refine lv_aload_n hx hb dX12_deal_10 rfl (lv_at hl 0 rfl) ?_
    refine vp_callSi (W.runV (As := []) (rest := []) ⟨hx, hb, hml, hown, hts⟩ (tX12_wrongTrade l E X A z I0 L0 a0 t_a0) (cwV 0 hts gX12_deal_X12_wrongTrade rfl rfl rfl (by decide +kernel) ⟨Nat.le_of_ble_eq_true rfl, Nat.le_of_ble_eq_true rfl⟩) ⟨h_blind _ _ _ _ _ _ _, h_recv g t_a0 (by decide) so_13 (q := (RX12, TX12, 51)) rfl, h_pre _ hE hk hX hA hI hR g⟩ rfl rfl hl.1 rfl (lv_room (Nat.le_of_ble_eq_true rfl)) dX12_deal_11 ⟨Nat.le_of_ble_eq_true rfl, Nat.le_of_ble_eq_true rfl⟩) (fun rh3 h3 => ?_)
    have jrh3 : -2147483648 ≤ rh3.toInt ∧ rh3.toInt ≤ 2147483647 := ⟨xi_lo _, Int.le_of_lt_add_one (xi_hi _)⟩
    refine lv_if_eq (tgt := 19) hx hb dX12_deal_14 (by decide) (fun c4 => ?_) (fun c4 => ?_)
    · have ic4 := (xi_eq c4 rfl (by decide) : rh3.toInt = 0)
      refine lv_iconst (v := 0) hx hb dX12_deal_19 (by decide) ?_
      refine lv_istore_n (lv' := [(1, .int 0), (0, .ref a0)]) hx hb dX12_deal_20 rfl hl (by decide) rfl (fun ls hl => ?_)
      have loop21_0 : ∀ (n : Nat) (I6 : tI) (H : Heap) (locs : List Loc) (ls : Array Slot) (v5 : Int32), h_G h_so h_fk E A z I6 L0 s s.heap H locs → h_I z I6 → h_F [(1314, 999), (1325, 999), (1327, 999), (1326, 999), (13, 33)] z I0 I6 → lv_has ls 3 [(0, .ref a0), (1, .int v5)] → (0 ≤ v5.toInt ∧ v5.toInt ≤ 12) → (12 - v5.toInt) < (n : Int) → W pr_ l ev_ (headSpec wsX12_deal ({ frames := 6, cells := 0, slots := 0, locals := 384 })).room s m ([.ref a0] : List Value).toArray below meth cd_ H locs 0 0 (MQ below (va_Qi (fun r (I1 : tI) => h_I z I1 ∧ h_F [(1314, 999), (1325, 999), (1327, 999), (1326, 999), (13, 33)] z I0 I1 ∧ True) (fun (I1 : tI) t => h_B E A z I1 L0 t) A) ([.ref a0] : List Value).toArray s 0 0 A) (F0 m 21 ls []) := by
        intro n
        induction n with
        | zero => intro I6 H locs ls v5 g hI hF hl jv5 hn; exact absurd hn (by omega)
        | succ n ih21 =>
          intro I6 H locs ls v5 g hI hF hl jv5 hn
          refine lv_iload_n hx hb dX12_deal_21 rfl (lv_at hl 1 rfl) ?_
          refine lv_aload_n hx hb dX12_deal_22 rfl (lv_at hl 0 rfl) ?_
          refine h_get (v := .int (I6 a0 33)) hx hb hts iX12 hown g t_a0 (by decide) so_13 rfl 33 (by decide) (hts (.fieldLink RX12 247 "CapLeagueModel" "moves" "I") (by decide +kernel)) rfl dX12_deal_23 rfl ?_
          refine lv_topi (fun v7 ev7 => ?_)
          have jv7 := hI.rd a0 33 t_a0 ev7 (rfl : h_bd 13 33 = (0, 12))
          refine lv_icmp_ge (tgt := 112) hx hb dX12_deal_26 (by decide) (fun c8 => ?_) (fun c8 => ?_)
          · have ic8 := (xi_le c8 rfl rfl : v7.toInt ≤ v5.toInt)
            refine lv_aload_n hx hb dX12_deal_112 rfl (lv_at hl 0 rfl) ?_
            refine h_get (v := .int v7) hx hb hts iX12 hown g t_a0 (by decide) so_13 rfl 33 (by decide) (hts (.fieldLink RX12 247 "CapLeagueModel" "moves" "I") (by decide +kernel)) rfl dX12_deal_113 (congrArg Value.int (ev7.symm)) ?_
            refine lv_istore_n (lv' := [(1, .int v7), (0, .ref a0)]) hx hb dX12_deal_116 rfl hl (by decide) rfl (fun ls hl => ?_)
            refine lv_aload_n hx hb dX12_deal_117 rfl (lv_at hl 1 rfl) ?_
            refine lv_iconst (v := 0) hx hb dX12_deal_118 (by decide) ?_
            refine h_putI (ty := .int) (v := 0) hx hb hts iX12 tyX12 tyX12_ok nmX12 hown g t_a0 (by decide) so_13 rfl 33 (by decide) rfl (hts (.fieldLink RX12 247 "CapLeagueModel" "moves" "I") (by decide +kernel)) rfl rfl (by decide +kernel) rfl rfl dX12_deal_119 (fun I9 H locs eI9 g => ?_)
            have hI := hI.wr eI9 t_a0 (rfl : h_bd 13 33 = (0, 12)) (by decide) (by decide)
            have hF := hF.wr eI9 t_a0 rfl
            refine lv_iload_n hx hb dX12_deal_122 rfl (lv_at hl 0 rfl) ?_
            have hS := g.2.1
            exact W.iret (v := v7) hx hb hr (fun t ht hW => ⟨⟨v7, I9, rfl, ⟨hI, hF, trivial⟩, h_ret g ht⟩, hS.F ht⟩) hS.2.2 dX12_deal_123
          · have ic8 := (xi_nle c8 rfl rfl : v5.toInt < v7.toInt)
            refine lv_aload_n hx hb dX12_deal_29 rfl (lv_at hl 0 rfl) ?_
            obtain ⟨b10, rb10, tb10⟩ := hR.at a0 34 t_a0 (rfl : h_rs 13 34 = some (1334, false)) (by decide)
            refine h_get (v := .ref b10) hx hb hts iX12 hown g t_a0 (by decide) so_13 rfl 34 (by decide) (hts (.fieldLink RX12 76 "CapLeagueModel" "moved" "[I") (by decide +kernel)) rfl dX12_deal_30 (by show va_rf (z.R a0 34) = _; rw [rb10]; rfl) ?_
            refine lv_iload_n hx hb dX12_deal_33 rfl (lv_at hl 1 rfl) ?_
            refine h_ald hx hb g tb10 (by decide) so_1334 (xi_in (by omega) (by omega)) dX12_deal_34 ?_
            refine lv_topi (fun v11 ev11 => ?_)
            have jv11 := hI.rd b10 v5.toNatClampNeg tb10 ev11 (rfl : h_bd 1334 _ = (0, 139))
            refine lv_bipush (v := 60) hx hb dX12_deal_35 (by decide) ?_
            refine lv_icmp_ge (tgt := 60) hx hb dX12_deal_37 (by decide) (fun c12 => ?_) (fun c12 => ?_)
            · have ic12 := (xi_le c12 (by decide) rfl : 60 ≤ v11.toInt)
              refine lv_aload_n hx hb dX12_deal_60 rfl (lv_at hl 0 rfl) ?_
              refine h_get (v := .ref b10) hx hb hts iX12 hown g t_a0 (by decide) so_13 rfl 34 (by decide) (hts (.fieldLink RX12 76 "CapLeagueModel" "moved" "[I") (by decide +kernel)) rfl dX12_deal_61 (by show va_rf (z.R a0 34) = _; rw [rb10]; rfl) ?_
              refine lv_iload_n hx hb dX12_deal_64 rfl (lv_at hl 1 rfl) ?_
              refine h_ald hx hb g tb10 (by decide) so_1334 (xi_in (by omega) (by omega)) dX12_deal_65 ?_
              refine xw_i (ev11.symm) ?_
              refine lv_bipush (v := 60) hx hb dX12_deal_66 (by decide) ?_
              refine lv_isub hx hb dX12_deal_68 ?_
              refine lv_topi (fun v13 ev13 => ?_)
              have jv13 : v13.toInt = v11.toInt - 60 := xi_sub ev13 rfl (by decide) (by omega) (by omega)
              refine lv_istore_n (lv' := [(2, .int v13), (0, .ref a0), (1, .int v5)]) hx hb dX12_deal_69 rfl hl (by decide) rfl (fun ls hl => ?_)
              refine lv_aload_n hx hb dX12_deal_70 rfl (lv_at hl 1 rfl) ?_
              obtain ⟨b14, rb14, tb14⟩ := hR.at a0 25 t_a0 (rfl : h_rs 13 25 = some (1325, false)) (by decide)
              refine h_get (v := .ref b14) hx hb hts iX12 hown g t_a0 (by decide) so_13 rfl 25 (by decide) (hts (.fieldLink RX12 58 "CapLeagueModel" "owner" "[I") (by decide +kernel)) rfl dX12_deal_71 (by show va_rf (z.R a0 25) = _; rw [rb14]; rfl) ?_
              refine lv_iload_n hx hb dX12_deal_74 rfl (lv_at hl 0 rfl) ?_
              refine lv_aload_n hx hb dX12_deal_75 rfl (lv_at hl 1 rfl) ?_
              obtain ⟨b15, rb15, tb15⟩ := hR.at a0 36 t_a0 (rfl : h_rs 13 36 = some (1336, false)) (by decide)
              refine h_get (v := .ref b15) hx hb hts iX12 hown g t_a0 (by decide) so_13 rfl 36 (by decide) (hts (.fieldLink RX12 82 "CapLeagueModel" "to" "[I") (by decide +kernel)) rfl dX12_deal_76 (by show va_rf (z.R a0 36) = _; rw [rb15]; rfl) ?_
              refine lv_iload_n hx hb dX12_deal_79 rfl (lv_at hl 2 rfl) ?_
              refine h_ald hx hb g tb15 (by decide) so_1336 (xi_in (by omega) (by omega)) dX12_deal_80 ?_
              refine lv_topi (fun v16 ev16 => ?_)
              have jv16 := hI.rd b15 v5.toNatClampNeg tb15 ev16 (rfl : h_bd 1336 _ = (0, 7))
              refine h_ast hx hb g tb14 (by decide) so_1325 (xi_in (by omega) (by omega)) dX12_deal_81 (fun I17 H locs eI17 g => ?_)
              have hI := hI.wr eI17 tb14 (rfl : h_bd 1325 _ = ((-2147483648), 2147483647)) (xi_lo _) (Int.le_of_lt_add_one (xi_hi _))
              have hF := hF.wr eI17 tb14 rfl
              refine lv_aload_n hx hb dX12_deal_82 rfl (lv_at hl 1 rfl) ?_
              obtain ⟨b18, rb18, tb18⟩ := hR.at a0 27 t_a0 (rfl : h_rs 13 27 = some (1327, false)) (by decide)
              refine h_get (v := .ref b18) hx hb hts iX12 hown g t_a0 (by decide) so_13 rfl 27 (by decide) (hts (.fieldLink RX12 64 "CapLeagueModel" "guarded" "[I") (by decide +kernel)) rfl dX12_deal_83 (by show va_rf (z.R a0 27) = _; rw [rb18]; rfl) ?_
              refine lv_iload_n hx hb dX12_deal_86 rfl (lv_at hl 0 rfl) ?_
              refine lv_aload_n hx hb dX12_deal_87 rfl (lv_at hl 1 rfl) ?_
              obtain ⟨b19, rb19, tb19⟩ := hR.at a0 37 t_a0 (rfl : h_rs 13 37 = some (1337, false)) (by decide)
              refine h_get (v := .ref b19) hx hb hts iX12 hown g t_a0 (by decide) so_13 rfl 37 (by decide) (hts (.fieldLink RX12 85 "CapLeagueModel" "guard" "[I") (by decide +kernel)) rfl dX12_deal_88 (by show va_rf (z.R a0 37) = _; rw [rb19]; rfl) ?_
              refine lv_iload_n hx hb dX12_deal_91 rfl (lv_at hl 2 rfl) ?_
              refine h_ald hx hb g tb19 (by decide) so_1337 (xi_in (by omega) (by omega)) dX12_deal_92 ?_
              refine lv_topi (fun v20 ev20 => ?_)
              have jv20 := hI.rd b19 v5.toNatClampNeg tb19 ev20 (rfl : h_bd 1337 _ = ((-2147483648), 2147483647))
              refine h_ast hx hb g tb18 (by decide) so_1327 (xi_in (by omega) (by omega)) dX12_deal_93 (fun I21 H locs eI21 g => ?_)
              have hI := hI.wr eI21 tb18 (rfl : h_bd 1327 _ = ((-2147483648), 2147483647)) (xi_lo _) (Int.le_of_lt_add_one (xi_hi _))
              have hF := hF.wr eI21 tb18 rfl
              refine lv_aload_n hx hb dX12_deal_94 rfl (lv_at hl 1 rfl) ?_
              obtain ⟨b22, rb22, tb22⟩ := hR.at a0 26 t_a0 (rfl : h_rs 13 26 = some (1326, false)) (by decide)
              refine h_get (v := .ref b22) hx hb hts iX12 hown g t_a0 (by decide) so_13 rfl 26 (by decide) (hts (.fieldLink RX12 61 "CapLeagueModel" "giver" "[I") (by decide +kernel)) rfl dX12_deal_95 (by show va_rf (z.R a0 26) = _; rw [rb22]; rfl) ?_
              refine lv_iload_n hx hb dX12_deal_98 rfl (lv_at hl 0 rfl) ?_
              refine lv_aload_n hx hb dX12_deal_99 rfl (lv_at hl 1 rfl) ?_
              obtain ⟨b23, rb23, tb23⟩ := hR.at a0 35 t_a0 (rfl : h_rs 13 35 = some (1335, false)) (by decide)
              refine h_get (v := .ref b23) hx hb hts iX12 hown g t_a0 (by decide) so_13 rfl 35 (by decide) (hts (.fieldLink RX12 79 "CapLeagueModel" "from" "[I") (by decide +kernel)) rfl dX12_deal_100 (by show va_rf (z.R a0 35) = _; rw [rb23]; rfl) ?_
              refine lv_iload_n hx hb dX12_deal_103 rfl (lv_at hl 2 rfl) ?_
              refine h_ald hx hb g tb23 (by decide) so_1335 (xi_in (by omega) (by omega)) dX12_deal_104 ?_
              refine lv_topi (fun v24 ev24 => ?_)
              have jv24 := hI.rd b23 v5.toNatClampNeg tb23 ev24 (rfl : h_bd 1335 _ = ((-2147483648), 2147483647))
              refine h_ast hx hb g tb22 (by decide) so_1326 (xi_in (by omega) (by omega)) dX12_deal_105 (fun I25 H locs eI25 g => ?_)
              have hI := hI.wr eI25 tb22 (rfl : h_bd 1326 _ = ((-2147483648), 2147483647)) (xi_lo _) (Int.le_of_lt_add_one (xi_hi _))
              have hF := hF.wr eI25 tb22 rfl
              obtain ⟨v26, ev26⟩ : ∃ z : Int32, z = v5 + 1 := ⟨_, rfl⟩
              have jv26 : v26.toInt = v5.toInt + 1 := xi_add ev26 rfl (by decide) (by omega) (by omega)
              refine lv_iinc (v := v26) (lv' := [(1, .int v26), (2, .int v13), (0, .ref a0)]) hx hb dX12_deal_106 hl (k := 2) rfl (by rw [ev26]; rfl) (by decide) rfl (fun ls hl => ?_)
              refine lv_goto (tgt := 21) hx hb dX12_deal_109 (by decide) ?_
              exact ih21 I25 _ _ _ v26 g hI hF (lv_sub hl [2, 0] rfl) (by omega) (by omega)
            · have ic12 := (xi_nle c12 (by decide) rfl : v11.toInt < 60)
              refine lv_aload_n hx hb dX12_deal_40 rfl (lv_at hl 0 rfl) ?_
              obtain ⟨b27, rb27, tb27⟩ := hR.at a0 14 t_a0 (rfl : h_rs 13 14 = some (1314, false)) (by decide)
              refine h_get (v := .ref b27) hx hb hts iX12 hown g t_a0 (by decide) so_13 rfl 14 (by decide) (hts (.fieldLink RX12 25 "CapLeagueModel" "clubOf" "[I") (by decide +kernel)) rfl dX12_deal_41 (by show va_rf (z.R a0 14) = _; rw [rb27]; rfl) ?_
              refine lv_aload_n hx hb dX12_deal_44 rfl (lv_at hl 0 rfl) ?_
              refine h_get (v := .ref b10) hx hb hts iX12 hown g t_a0 (by decide) so_13 rfl 34 (by decide) (hts (.fieldLink RX12 76 "CapLeagueModel" "moved" "[I") (by decide +kernel)) rfl dX12_deal_45 (by show va_rf (z.R a0 34) = _; rw [rb10]; rfl) ?_
              refine lv_iload_n hx hb dX12_deal_48 rfl (lv_at hl 1 rfl) ?_
              refine h_ald hx hb g tb10 (by decide) so_1334 (xi_in (by omega) (by omega)) dX12_deal_49 ?_
              refine xw_i (ev11.symm) ?_
              refine lv_aload_n hx hb dX12_deal_50 rfl (lv_at hl 0 rfl) ?_
              obtain ⟨b28, rb28, tb28⟩ := hR.at a0 36 t_a0 (rfl : h_rs 13 36 = some (1336, false)) (by decide)
              refine h_get (v := .ref b28) hx hb hts iX12 hown g t_a0 (by decide) so_13 rfl 36 (by decide) (hts (.fieldLink RX12 82 "CapLeagueModel" "to" "[I") (by decide +kernel)) rfl dX12_deal_51 (by show va_rf (z.R a0 36) = _; rw [rb28]; rfl) ?_
              refine lv_iload_n hx hb dX12_deal_54 rfl (lv_at hl 1 rfl) ?_
              refine h_ald hx hb g tb28 (by decide) so_1336 (xi_in (by omega) (by omega)) dX12_deal_55 ?_
              refine lv_topi (fun v29 ev29 => ?_)
              have jv29 := hI.rd b28 v5.toNatClampNeg tb28 ev29 (rfl : h_bd 1336 _ = (0, 7))
              refine h_ast hx hb g tb27 (by decide) so_1314 (xi_in (by omega) (by omega)) dX12_deal_56 (fun I30 H locs eI30 g => ?_)
              have hI := hI.wr eI30 tb27 (rfl : h_bd 1314 _ = ((-1), 7)) (by omega) (by omega)
              have hF := hF.wr eI30 tb27 rfl
              refine lv_goto (tgt := 106) hx hb dX12_deal_57 (by decide) ?_
              obtain ⟨v31, ev31⟩ : ∃ z : Int32, z = v5 + 1 := ⟨_, rfl⟩
              have jv31 : v31.toInt = v5.toInt + 1 := xi_add ev31 rfl (by decide) (by omega) (by omega)
              refine lv_iinc (v := v31) (lv' := [(1, .int v31), (0, .ref a0)]) hx hb dX12_deal_106 hl (k := 1) rfl (by rw [ev31]; rfl) (by decide) rfl (fun ls hl => ?_)
              refine lv_goto (tgt := 21) hx hb dX12_deal_109 (by decide) ?_
              exact ih21 I30 _ _ _ v31 g hI hF (lv_sub hl [1, 0] rfl) (by omega) (by omega)
      exact loop21_0 _ I0 _ _ _ (0) g hI hF (lv_sub hl [1, 0] rfl) ⟨by decide, by decide⟩ (show (12 - (0 : Int)) < (((12 - (0 : Int)).toNat + 1 : Nat) : Int) by omega)
    · have ic4 := (xi_ne c4 rfl (by decide) : rh3.toInt ≠ 0)
      refine lv_iconst (v := 0) hx hb dX12_deal_17 (by decide) ?_
      have hS := g.2.1
      exact W.iret (v := 0) hx hb hr (fun t ht hW => ⟨⟨0, I0, rfl, ⟨hI, hF, trivial⟩, h_ret g ht⟩, hS.F ht⟩) hS.2.2 dX12_deal_18
  · have ic2 := (xi_eq c2 rfl (by decide) : v1.toInt = 0)
    refine lv_bipush (v := (-4)) hx hb dX12_deal_7 (by decide) ?_
    have hS := g.2.1
    exact W.iret (v := (-4)) hx hb hr (fun t ht hW => ⟨⟨(-4), I0, rfl, ⟨hI, hF, trivial⟩, h_ret g ht⟩, hS.F ht⟩) hS.2.2 dX12_deal_9
set_option maxHeartbeats 4000000 in
set_option maxRecDepth 100000 in
theorem tX12_isLegal (l : Launch) (E : tE) (X : tX) (A : Nat → Prop) (z : tZ) (I0 : tI) (L0 : tL) (a0 : Nat) (t_a0 : z.ty a0 = 13) (c : Int32) (c_t : Int) (h_c : c.toInt = c_t) (b_c : 0 ≤ c_t ∧ c_t ≤ 7) (o : Int32) (o_t : Int) (h_o : o.toInt = o_t) (b_o : 0 ≤ o_t ∧ o_t ≤ 59) (i : Int32) (i_t : Int) (h_i : i.toInt = i_t) (b_i : 0 ≤ i_t ∧ i_t ≤ 59) : Met l yX12_isLegal wsX12_isLegal ({ frames := 5, cells := 0, slots := 0, locals := 320 }) (va_Pc [.ref a0, .int c, .int o, .int i] (h_P E X A z I0 L0)) (vp_Si (fun r => (0 ≤ r.toInt ∧ r.toInt ≤ 1))) 0 0 (fun _ => False) := by
  refine Met.ofW (cc := cX12_isLegal) (maxL := 5) (ret := (some .boolean)) (by decide) rfl ?_
  intro pr_ ev_ s m args below meth cd_ s₁ B hml hv
  obtain ⟨rfl, hE, hk, hX, hA, hK, hI, hR, hB0⟩ := hv
  have g : h_G h_so h_fk E A z I0 L0 s s.heap s.heap [] := ⟨hK, va_S.rf, hB0⟩
  have hx := B.exec
  have hb := B.bytes
  have hr := B.returns
  have hts := atoms_spec (ws := wsX12_isLegal) B.pre
  have hown : s.vm.findClass RX12 = some m.cls := findClass_of_methodNamed B.named
  have hlocks := B.notSynchronized
  have iX12 : ∀ w ∈ u_ws RX12 TX12 51, w ∈ wsX12_isLegal := by decide +kernel
  have hl := lv_entry ([.ref a0, .int c, .int o, .int i]) (n := 5) (Nat.le_of_ble_eq_true rfl)
  rw [lg_entry_eq]
  generalize (lg_sl ([.ref a0, .int c, .int o, .int i]) ++ List.replicate (5 - (lg_sl ([.ref a0, .int c, .int o, .int i])).length) Slot.unset).toArray = ls at hl ⊢
  have hl : lv_has ls 5 [(0, .ref a0), (1, .int c), (2, .int o), (3, .int i)] := hl
  refine lv_aload_n hx hb dX12_isLegal_0 rfl (lv_at hl 0 rfl) ?_
  refine lv_iload_n hx hb dX12_isLegal_1 rfl (lv_at hl 1 rfl) ?_
  refine lv_aload_n hx hb dX12_isLegal_2 rfl (lv_at hl 0 rfl) ?_
  refine h_get (v := .int (I0 a0 12)) hx hb hts iX12 hown g t_a0 (by decide) so_13 rfl 12 (by decide) (hts (.fieldLink RX12 187 "CapLeagueModel" "clock" "I") (by decide +kernel)) rfl dX12_isLegal_3 rfl ?_
  refine lv_topi (fun v1 ev1 => ?_)
  have jv1 := hI.rd a0 12 t_a0 ev1 (rfl : h_bd 13 12 = (0, 9))
  refine vp_callSi (W.runV (As := [.int c, .int v1]) (rest := []) ⟨hx, hb, hml, hown, hts⟩ (tX12_manyOf l E X A z I0 L0 a0 t_a0 c (c_t) h_c v1 (v1.toInt) rfl) (cwV 2 hts gX12_isLegal_X12_manyOf rfl rfl rfl (by decide +kernel) ⟨Nat.le_of_ble_eq_true rfl, Nat.le_of_ble_eq_true rfl⟩) ⟨h_blind _ _ _ _ _ _ _, h_recv g t_a0 (by decide) so_13 (q := (RX12, TX12, 51)) rfl, h_pre _ hE hk hX hA hI hR g⟩ rfl rfl hl.1 rfl (lv_room (Nat.le_of_ble_eq_true rfl)) dX12_isLegal_6 ⟨Nat.le_of_ble_eq_true rfl, Nat.le_of_ble_eq_true rfl⟩) (fun rh2 h2 => ?_)
  have jrh2 : -2147483648 ≤ rh2.toInt ∧ rh2.toInt ≤ 2147483647 := ⟨xi_lo _, Int.le_of_lt_add_one (xi_hi _)⟩
  refine lv_aload_n hx hb dX12_isLegal_9 rfl (lv_at hl 0 rfl) ?_
  refine lv_aload_n hx hb dX12_isLegal_10 rfl (lv_at hl 0 rfl) ?_
  refine h_get (v := .int v1) hx hb hts iX12 hown g t_a0 (by decide) so_13 rfl 12 (by decide) (hts (.fieldLink RX12 187 "CapLeagueModel" "clock" "I") (by decide +kernel)) rfl dX12_isLegal_11 (congrArg Value.int (ev1.symm)) ?_
  refine lv_iconst (v := 1) hx hb dX12_isLegal_14 (by decide) ?_
  refine vp_callSi (W.runV (As := [.int v1, .int 1]) (rest := [.int rh2]) ⟨hx, hb, hml, hown, hts⟩ (tX12_lawOf l E X A z I0 L0 a0 t_a0 v1 (v1.toInt) rfl (by omega) 1 (1) (by decide) (by omega)) (cwV 2 hts gX12_isLegal_X12_lawOf rfl rfl rfl (by decide +kernel) ⟨Nat.le_of_ble_eq_true rfl, Nat.le_of_ble_eq_true rfl⟩) ⟨h_blind _ _ _ _ _ _ _, h_recv g t_a0 (by decide) so_13 (q := (RX12, TX12, 51)) rfl, h_pre _ hE hk hX hA hI hR g⟩ rfl rfl hl.1 rfl (lv_room (Nat.le_of_ble_eq_true rfl)) dX12_isLegal_15 ⟨Nat.le_of_ble_eq_true rfl, Nat.le_of_ble_eq_true rfl⟩) (fun rh3 h3 => ?_)
  have jrh3 : -2147483648 ≤ rh3.toInt ∧ rh3.toInt ≤ 2147483647 := ⟨xi_lo _, Int.le_of_lt_add_one (xi_hi _)⟩
  refine lv_icmp_le (tgt := 23) hx hb dX12_isLegal_18 (by decide) (fun c4 => ?_) (fun c4 => ?_)
  · have ic4 := (xi_le c4 rfl rfl : rh2.toInt ≤ rh3.toInt)
    refine lv_aload_n hx hb dX12_isLegal_23 rfl (lv_at hl 0 rfl) ?_
    refine lv_iload_n hx hb dX12_isLegal_24 rfl (lv_at hl 1 rfl) ?_
    refine lv_aload_n hx hb dX12_isLegal_25 rfl (lv_at hl 0 rfl) ?_
    refine h_get (v := .int v1) hx hb hts iX12 hown g t_a0 (by decide) so_13 rfl 12 (by decide) (hts (.fieldLink RX12 187 "CapLeagueModel" "clock" "I") (by decide +kernel)) rfl dX12_isLegal_26 (congrArg Value.int (ev1.symm)) ?_
    refine vp_callSi (W.runV (As := [.int c, .int v1]) (rest := []) ⟨hx, hb, hml, hown, hts⟩ (tX12_counts l E X A z I0 L0 a0 t_a0 c (c_t) h_c (by omega) v1 (v1.toInt) rfl (by omega)) (cwV 2 hts gX12_isLegal_X12_counts rfl rfl rfl (by decide +kernel) ⟨Nat.le_of_ble_eq_true rfl, Nat.le_of_ble_eq_true rfl⟩) ⟨h_blind _ _ _ _ _ _ _, h_recv g t_a0 (by decide) so_13 (q := (RX12, TX12, 51)) rfl, h_pre _ hE hk hX hA hI hR g⟩ rfl rfl hl.1 rfl (lv_room (Nat.le_of_ble_eq_true rfl)) dX12_isLegal_29 ⟨Nat.le_of_ble_eq_true rfl, Nat.le_of_ble_eq_true rfl⟩) (fun rh5 h5 => ?_)
    have jrh5 : -2147483648 ≤ rh5.toInt ∧ rh5.toInt ≤ 2147483647 := ⟨xi_lo _, Int.le_of_lt_add_one (xi_hi _)⟩
    refine lv_aload_n hx hb dX12_isLegal_32 rfl (lv_at hl 0 rfl) ?_
    refine lv_iload_n hx hb dX12_isLegal_33 rfl (lv_at hl 3 rfl) ?_
    refine lv_aload_n hx hb dX12_isLegal_34 rfl (lv_at hl 0 rfl) ?_
    refine h_get (v := .int v1) hx hb hts iX12 hown g t_a0 (by decide) so_13 rfl 12 (by decide) (hts (.fieldLink RX12 187 "CapLeagueModel" "clock" "I") (by decide +kernel)) rfl dX12_isLegal_35 (congrArg Value.int (ev1.symm)) ?_
    refine vp_callSi (W.runV (As := [.int i, .int v1]) (rest := [.int rh5]) ⟨hx, hb, hml, hown, hts⟩ (tX12_countOf l E X A z I0 L0 a0 t_a0 i (i_t) h_i (by omega) v1 (v1.toInt) rfl) (cwV 2 hts gX12_isLegal_X12_countOf rfl rfl rfl (by decide +kernel) ⟨Nat.le_of_ble_eq_true rfl, Nat.le_of_ble_eq_true rfl⟩) ⟨h_blind _ _ _ _ _ _ _, h_recv g t_a0 (by decide) so_13 (q := (RX12, TX12, 51)) rfl, h_pre _ hE hk hX hA hI hR g⟩ rfl rfl hl.1 rfl (lv_room (Nat.le_of_ble_eq_true rfl)) dX12_isLegal_38 ⟨Nat.le_of_ble_eq_true rfl, Nat.le_of_ble_eq_true rfl⟩) (fun rh6 h6 => ?_)
    have jrh6 : -2147483648 ≤ rh6.toInt ∧ rh6.toInt ≤ 2147483647 := ⟨xi_lo _, Int.le_of_lt_add_one (xi_hi _)⟩
    refine lv_iadd hx hb dX12_isLegal_41 ?_
    refine lv_topi (fun v7 ev7 => ?_)
    have jv7 : -2147483648 ≤ v7.toInt ∧ v7.toInt ≤ 2147483647 := ⟨xi_lo _, Int.le_of_lt_add_one (xi_hi _)⟩
    refine lv_aload_n hx hb dX12_isLegal_42 rfl (lv_at hl 0 rfl) ?_
    refine lv_iload_n hx hb dX12_isLegal_43 rfl (lv_at hl 2 rfl) ?_
    refine lv_aload_n hx hb dX12_isLegal_44 rfl (lv_at hl 0 rfl) ?_
    refine h_get (v := .int v1) hx hb hts iX12 hown g t_a0 (by decide) so_13 rfl 12 (by decide) (hts (.fieldLink RX12 187 "CapLeagueModel" "clock" "I") (by decide +kernel)) rfl dX12_isLegal_45 (congrArg Value.int (ev1.symm)) ?_
    refine vp_callSi (W.runV (As := [.int o, .int v1]) (rest := [.int v7]) ⟨hx, hb, hml, hown, hts⟩ (tX12_countOf l E X A z I0 L0 a0 t_a0 o (o_t) h_o (by omega) v1 (v1.toInt) rfl) (cwV 2 hts gX12_isLegal_X12_countOf rfl rfl rfl (by decide +kernel) ⟨Nat.le_of_ble_eq_true rfl, Nat.le_of_ble_eq_true rfl⟩) ⟨h_blind _ _ _ _ _ _ _, h_recv g t_a0 (by decide) so_13 (q := (RX12, TX12, 51)) rfl, h_pre _ hE hk hX hA hI hR g⟩ rfl rfl hl.1 rfl (lv_room (Nat.le_of_ble_eq_true rfl)) dX12_isLegal_48 ⟨Nat.le_of_ble_eq_true rfl, Nat.le_of_ble_eq_true rfl⟩) (fun rh8 h8 => ?_)
    have jrh8 : -2147483648 ≤ rh8.toInt ∧ rh8.toInt ≤ 2147483647 := ⟨xi_lo _, Int.le_of_lt_add_one (xi_hi _)⟩
    refine lv_isub hx hb dX12_isLegal_51 ?_
    refine lv_topi (fun v9 ev9 => ?_)
    have jv9 : -2147483648 ≤ v9.toInt ∧ v9.toInt ≤ 2147483647 := ⟨xi_lo _, Int.le_of_lt_add_one (xi_hi _)⟩
    refine lv_istore (lv' := [(4, .int v9), (0, .ref a0), (1, .int c), (2, .int o), (3, .int i)]) hx hb dX12_isLegal_52 hl (by decide) rfl (fun ls hl => ?_)
    refine lv_iload hx hb dX12_isLegal_54 (lv_at hl 0 rfl) ?_
    refine lv_aload_n hx hb dX12_isLegal_56 rfl (lv_at hl 1 rfl) ?_
    refine lv_aload_n hx hb dX12_isLegal_57 rfl (lv_at hl 1 rfl) ?_
    refine h_get (v := .int v1) hx hb hts iX12 hown g t_a0 (by decide) so_13 rfl 12 (by decide) (hts (.fieldLink RX12 187 "CapLeagueModel" "clock" "I") (by decide +kernel)) rfl dX12_isLegal_58 (congrArg Value.int (ev1.symm)) ?_
    refine lv_iconst (v := 0) hx hb dX12_isLegal_61 (by decide) ?_
    refine vp_callSi (W.runV (As := [.int v1, .int 0]) (rest := [.int v9]) ⟨hx, hb, hml, hown, hts⟩ (tX12_lawOf l E X A z I0 L0 a0 t_a0 v1 (v1.toInt) rfl (by omega) 0 (0) (by decide) (by omega)) (cwV 2 hts gX12_isLegal_X12_lawOf rfl rfl rfl (by decide +kernel) ⟨Nat.le_of_ble_eq_true rfl, Nat.le_of_ble_eq_true rfl⟩) ⟨h_blind _ _ _ _ _ _ _, h_recv g t_a0 (by decide) so_13 (q := (RX12, TX12, 51)) rfl, h_pre _ hE hk hX hA hI hR g⟩ rfl rfl hl.1 rfl (lv_room (Nat.le_of_ble_eq_true rfl)) dX12_isLegal_62 ⟨Nat.le_of_ble_eq_true rfl, Nat.le_of_ble_eq_true rfl⟩) (fun rh10 h10 => ?_)
    have jrh10 : -2147483648 ≤ rh10.toInt ∧ rh10.toInt ≤ 2147483647 := ⟨xi_lo _, Int.le_of_lt_add_one (xi_hi _)⟩
    refine lv_icmp_le (tgt := 112) hx hb dX12_isLegal_65 (by decide) (fun c11 => ?_) (fun c11 => ?_)
    · have ic11 := (xi_le c11 rfl rfl : v9.toInt ≤ rh10.toInt)
      refine lv_iconst (v := 1) hx hb dX12_isLegal_112 (by decide) ?_
      refine lv_goto (tgt := 117) hx hb dX12_isLegal_113 (by decide) ?_
      exact W.zret (v := 1) hx hb hr (by decide) (fun t ht hW => ⟨1, rfl, ⟨(by decide), (by decide)⟩, ht⟩) (fun _ h => by cases h) dX12_isLegal_117
    · have ic11 := (xi_nle c11 rfl rfl : rh10.toInt < v9.toInt)
      refine lv_aload_n hx hb dX12_isLegal_68 rfl (lv_at hl 1 rfl) ?_
      refine lv_iload_n hx hb dX12_isLegal_69 rfl (lv_at hl 4 rfl) ?_
      refine lv_aload_n hx hb dX12_isLegal_70 rfl (lv_at hl 1 rfl) ?_
      refine h_get (v := .int v1) hx hb hts iX12 hown g t_a0 (by decide) so_13 rfl 12 (by decide) (hts (.fieldLink RX12 187 "CapLeagueModel" "clock" "I") (by decide +kernel)) rfl dX12_isLegal_71 (congrArg Value.int (ev1.symm)) ?_
      refine vp_callSi (W.runV (As := [.int i, .int v1]) (rest := []) ⟨hx, hb, hml, hown, hts⟩ (tX12_payOf l E X A z I0 L0 a0 t_a0 i (i_t) h_i (by omega) v1 (v1.toInt) rfl) (cwV 2 hts gX12_isLegal_X12_payOf rfl rfl rfl (by decide +kernel) ⟨Nat.le_of_ble_eq_true rfl, Nat.le_of_ble_eq_true rfl⟩) ⟨h_blind _ _ _ _ _ _ _, h_recv g t_a0 (by decide) so_13 (q := (RX12, TX12, 51)) rfl, h_pre _ hE hk hX hA hI hR g⟩ rfl rfl hl.1 rfl (lv_room (Nat.le_of_ble_eq_true rfl)) dX12_isLegal_74 ⟨Nat.le_of_ble_eq_true rfl, Nat.le_of_ble_eq_true rfl⟩) (fun rh12 h12 => ?_)
      have jrh12 : -2147483648 ≤ rh12.toInt ∧ rh12.toInt ≤ 2147483647 := ⟨xi_lo _, Int.le_of_lt_add_one (xi_hi _)⟩
      refine lv_aload_n hx hb dX12_isLegal_77 rfl (lv_at hl 1 rfl) ?_
      refine lv_iload_n hx hb dX12_isLegal_78 rfl (lv_at hl 3 rfl) ?_
      refine lv_aload_n hx hb dX12_isLegal_79 rfl (lv_at hl 1 rfl) ?_
      refine h_get (v := .int v1) hx hb hts iX12 hown g t_a0 (by decide) so_13 rfl 12 (by decide) (hts (.fieldLink RX12 187 "CapLeagueModel" "clock" "I") (by decide +kernel)) rfl dX12_isLegal_80 (congrArg Value.int (ev1.symm)) ?_
      refine vp_callSi (W.runV (As := [.int o, .int v1]) (rest := [.int rh12]) ⟨hx, hb, hml, hown, hts⟩ (tX12_payOf l E X A z I0 L0 a0 t_a0 o (o_t) h_o (by omega) v1 (v1.toInt) rfl) (cwV 2 hts gX12_isLegal_X12_payOf rfl rfl rfl (by decide +kernel) ⟨Nat.le_of_ble_eq_true rfl, Nat.le_of_ble_eq_true rfl⟩) ⟨h_blind _ _ _ _ _ _ _, h_recv g t_a0 (by decide) so_13 (q := (RX12, TX12, 51)) rfl, h_pre _ hE hk hX hA hI hR g⟩ rfl rfl hl.1 rfl (lv_room (Nat.le_of_ble_eq_true rfl)) dX12_isLegal_83 ⟨Nat.le_of_ble_eq_true rfl, Nat.le_of_ble_eq_true rfl⟩) (fun rh13 h13 => ?_)
      have jrh13 : -2147483648 ≤ rh13.toInt ∧ rh13.toInt ≤ 2147483647 := ⟨xi_lo _, Int.le_of_lt_add_one (xi_hi _)⟩
      refine lv_aload_n hx hb dX12_isLegal_86 rfl (lv_at hl 1 rfl) ?_
      refine lv_aload_n hx hb dX12_isLegal_87 rfl (lv_at hl 1 rfl) ?_
      refine h_get (v := .int v1) hx hb hts iX12 hown g t_a0 (by decide) so_13 rfl 12 (by decide) (hts (.fieldLink RX12 187 "CapLeagueModel" "clock" "I") (by decide +kernel)) rfl dX12_isLegal_88 (congrArg Value.int (ev1.symm)) ?_
      refine lv_iconst (v := 4) hx hb dX12_isLegal_91 (by decide) ?_
      refine vp_callSi (W.runV (As := [.int v1, .int 4]) (rest := [.int rh13, .int rh12]) ⟨hx, hb, hml, hown, hts⟩ (tX12_lawOf l E X A z I0 L0 a0 t_a0 v1 (v1.toInt) rfl (by omega) 4 (4) (by decide) (by omega)) (cwV 2 hts gX12_isLegal_X12_lawOf rfl rfl rfl (by decide +kernel) ⟨Nat.le_of_ble_eq_true rfl, Nat.le_of_ble_eq_true rfl⟩) ⟨h_blind _ _ _ _ _ _ _, h_recv g t_a0 (by decide) so_13 (q := (RX12, TX12, 51)) rfl, h_pre _ hE hk hX hA hI hR g⟩ rfl rfl hl.1 rfl (lv_room (Nat.le_of_ble_eq_true rfl)) dX12_isLegal_92 ⟨Nat.le_of_ble_eq_true rfl, Nat.le_of_ble_eq_true rfl⟩) (fun rh14 h14 => ?_)
      have jrh14 : -2147483648 ≤ rh14.toInt ∧ rh14.toInt ≤ 2147483647 := ⟨xi_lo _, Int.le_of_lt_add_one (xi_hi _)⟩
      refine lv_imul hx hb dX12_isLegal_95 ?_
      refine lv_topi (fun v15 ev15 => ?_)
      have jv15 : -2147483648 ≤ v15.toInt ∧ v15.toInt ≤ 2147483647 := ⟨xi_lo _, Int.le_of_lt_add_one (xi_hi _)⟩
      refine lv_bipush (v := 100) hx hb dX12_isLegal_96 (by decide) ?_
      refine lv_idiv hx hb dX12_isLegal_98 (by decide) ?_
      refine lv_topi (fun v16 ev16 => ?_)
      have jv16 : -2147483648 ≤ v16.toInt ∧ v16.toInt ≤ 2147483647 := ⟨xi_lo _, Int.le_of_lt_add_one (xi_hi _)⟩
      refine lv_aload_n hx hb dX12_isLegal_99 rfl (lv_at hl 1 rfl) ?_
      refine lv_aload_n hx hb dX12_isLegal_100 rfl (lv_at hl 1 rfl) ?_
      refine h_get (v := .int v1) hx hb hts iX12 hown g t_a0 (by decide) so_13 rfl 12 (by decide) (hts (.fieldLink RX12 187 "CapLeagueModel" "clock" "I") (by decide +kernel)) rfl dX12_isLegal_101 (congrArg Value.int (ev1.symm)) ?_
      refine lv_iconst (v := 5) hx hb dX12_isLegal_104 (by decide) ?_
      refine vp_callSi (W.runV (As := [.int v1, .int 5]) (rest := [.int v16, .int rh12]) ⟨hx, hb, hml, hown, hts⟩ (tX12_lawOf l E X A z I0 L0 a0 t_a0 v1 (v1.toInt) rfl (by omega) 5 (5) (by decide) (by omega)) (cwV 2 hts gX12_isLegal_X12_lawOf rfl rfl rfl (by decide +kernel) ⟨Nat.le_of_ble_eq_true rfl, Nat.le_of_ble_eq_true rfl⟩) ⟨h_blind _ _ _ _ _ _ _, h_recv g t_a0 (by decide) so_13 (q := (RX12, TX12, 51)) rfl, h_pre _ hE hk hX hA hI hR g⟩ rfl rfl hl.1 rfl (lv_room (Nat.le_of_ble_eq_true rfl)) dX12_isLegal_105 ⟨Nat.le_of_ble_eq_true rfl, Nat.le_of_ble_eq_true rfl⟩) (fun rh17 h17 => ?_)
      have jrh17 : -2147483648 ≤ rh17.toInt ∧ rh17.toInt ≤ 2147483647 := ⟨xi_lo _, Int.le_of_lt_add_one (xi_hi _)⟩
      refine lv_iadd hx hb dX12_isLegal_108 ?_
      refine lv_topi (fun v18 ev18 => ?_)
      have jv18 : -2147483648 ≤ v18.toInt ∧ v18.toInt ≤ 2147483647 := ⟨xi_lo _, Int.le_of_lt_add_one (xi_hi _)⟩
      refine lv_icmp_gt (tgt := 116) hx hb dX12_isLegal_109 (by decide) (fun c19 => ?_) (fun c19 => ?_)
      · have ic19 := (xi_lt c19 rfl rfl : v18.toInt < rh12.toInt)
        refine lv_iconst (v := 0) hx hb dX12_isLegal_116 (by decide) ?_
        exact W.zret (v := 0) hx hb hr (by decide) (fun t ht hW => ⟨0, rfl, ⟨(by decide), (by decide)⟩, ht⟩) (fun _ h => by cases h) dX12_isLegal_117
      · have ic19 := (xi_nlt c19 rfl rfl : rh12.toInt ≤ v18.toInt)
        refine lv_iconst (v := 1) hx hb dX12_isLegal_112 (by decide) ?_
        refine lv_goto (tgt := 117) hx hb dX12_isLegal_113 (by decide) ?_
        exact W.zret (v := 1) hx hb hr (by decide) (fun t ht hW => ⟨1, rfl, ⟨(by decide), (by decide)⟩, ht⟩) (fun _ h => by cases h) dX12_isLegal_117
  · have ic4 := (xi_nle c4 rfl rfl : rh3.toInt < rh2.toInt)
    refine lv_iconst (v := 0) hx hb dX12_isLegal_21 (by decide) ?_
    exact W.zret (v := 0) hx hb hr (by decide) (fun t ht hW => ⟨0, rfl, ⟨(by decide), (by decide)⟩, ht⟩) (fun _ h => by cases h) dX12_isLegal_22
set_option maxHeartbeats 4000000 in
set_option maxRecDepth 100000 in
theorem tX12_tryRing (l : Launch) (E : tE) (X : tX) (A : Nat → Prop) (z : tZ) (I0 : tI) (L0 : tL) (a0 : Nat) (t_a0 : z.ty a0 = 13) (u : Int32) (u_t : Int) (h_u : u.toInt = u_t) (b_u : 2 ≤ u_t ∧ u_t ≤ 3) : Met l yX12_tryRing wsX12_tryRing ({ frames := 6, cells := 0, slots := 0, locals := 384 }) (va_Pc [.ref a0, .int u] (h_P E X A z I0 L0)) (va_Qv (fun (I1 : tI) => h_I z I1 ∧ h_F [(13, 44), (13, 45), (1339, 999), (1340, 999)] z I0 I1 ∧ True) (fun (I1 : tI) t => h_B E A z I1 L0 t) A) 0 0 A := by
  refine Met.ofW (cc := cX12_tryRing) (maxL := 7) (ret := none) (by decide) rfl ?_
  intro pr_ ev_ s m args below meth cd_ s₁ B hml hv
  obtain ⟨rfl, hE, hk, hX, hA, hK, hI, hR, hB0⟩ := hv
  have g : h_G h_so h_fk E A z I0 L0 s s.heap s.heap [] := ⟨hK, va_S.rf, hB0⟩
  have hF : h_F [(13, 44), (13, 45), (1339, 999), (1340, 999)] z I0 I0 := h_F.rf
  have hx := B.exec
  have hb := B.bytes
  have hr := B.returns
  have hts := atoms_spec (ws := wsX12_tryRing) B.pre
  have hown : s.vm.findClass RX12 = some m.cls := findClass_of_methodNamed B.named
  have hlocks := B.notSynchronized
  have iX12 : ∀ w ∈ u_ws RX12 TX12 51, w ∈ wsX12_tryRing := by decide +kernel
  have hl := lv_entry ([.ref a0, .int u]) (n := 7) (Nat.le_of_ble_eq_true rfl)
  rw [lg_entry_eq]
  generalize (lg_sl ([.ref a0, .int u]) ++ List.replicate (7 - (lg_sl ([.ref a0, .int u])).length) Slot.unset).toArray = ls at hl ⊢
  have hl : lv_has ls 7 [(0, .ref a0), (1, .int u)] := hl
  refine lv_iconst (v := 0) hx hb dX12_tryRing_0 (by decide) ?_
  refine lv_istore_n (lv' := [(2, .int 0), (0, .ref a0), (1, .int u)]) hx hb dX12_tryRing_1 rfl hl (by decide) rfl (fun ls hl => ?_)
  refine lv_iconst (v := 0) hx hb dX12_tryRing_2 (by decide) ?_
  refine lv_istore_n (lv' := [(3, .int 0), (2, .int 0), (0, .ref a0), (1, .int u)]) hx hb dX12_tryRing_3 rfl hl (by decide) rfl (fun ls hl => ?_)
  have loop4_0 : ∀ (n : Nat) (I3 : tI) (H : Heap) (locs : List Loc) (ls : Array Slot) (v1 v2 : Int32), h_G h_so h_fk E A z I3 L0 s s.heap H locs → h_I z I3 → h_F [(13, 44), (13, 45), (1339, 999), (1340, 999)] z I0 I3 → lv_has ls 7 [(0, .ref a0), (1, .int u), (2, .int v1), (3, .int v2)] → ((-2147483648) ≤ v1.toInt ∧ v1.toInt ≤ 2147483647) → (0 ≤ v2.toInt ∧ v2.toInt ≤ 3) → (3 - v2.toInt) < (n : Int) → W pr_ l ev_ (headSpec wsX12_tryRing ({ frames := 6, cells := 0, slots := 0, locals := 384 })).room s m ([.ref a0, .int u] : List Value).toArray below meth cd_ H locs 0 0 (MQ below (va_Qv (fun (I1 : tI) => h_I z I1 ∧ h_F [(13, 44), (13, 45), (1339, 999), (1340, 999)] z I0 I1 ∧ True) (fun (I1 : tI) t => h_B E A z I1 L0 t) A) ([.ref a0, .int u] : List Value).toArray s 0 0 A) (F0 m 4 ls []) := by
    intro n
    induction n with
    | zero => intro I3 H locs ls v1 v2 g hI hF hl jv1 jv2 hn; exact absurd hn (by omega)
    | succ n ih4 =>
      intro I3 H locs ls v1 v2 g hI hF hl jv1 jv2 hn
      refine lv_iload_n hx hb dX12_tryRing_4 rfl (lv_at hl 3 rfl) ?_
      refine lv_iload_n hx hb dX12_tryRing_5 rfl (lv_at hl 1 rfl) ?_
      refine lv_icmp_ge (tgt := 71) hx hb dX12_tryRing_6 (by decide) (fun c4 => ?_) (fun c4 => ?_)
      · have ic4 := (xi_le c4 h_u rfl : u_t ≤ v2.toInt)
        refine lv_iload_n hx hb dX12_tryRing_71 rfl (lv_at hl 2 rfl) ?_
        refine lv_aload_n hx hb dX12_tryRing_72 rfl (lv_at hl 0 rfl) ?_
        refine h_get (v := .int (I3 a0 44)) hx hb hts iX12 hown g t_a0 (by decide) so_13 rfl 44 (by decide) (hts (.fieldLink RX12 280 "CapLeagueModel" "bestSum" "I") (by decide +kernel)) rfl dX12_tryRing_73 rfl ?_
        refine lv_topi (fun v5 ev5 => ?_)
        have jv5 := hI.rd a0 44 t_a0 ev5 (rfl : h_bd 13 44 = ((-2147483648), 2147483647))
        refine lv_icmp_gt (tgt := 80) hx hb dX12_tryRing_76 (by decide) (fun c6 => ?_) (fun c6 => ?_)
        · have ic6 := (xi_lt c6 rfl rfl : v5.toInt < v1.toInt)
          refine lv_iconst (v := 0) hx hb dX12_tryRing_80 (by decide) ?_
          refine lv_istore_n (lv' := [(3, .int 0), (0, .ref a0), (1, .int u), (2, .int v1)]) hx hb dX12_tryRing_81 rfl hl (by decide) rfl (fun ls hl => ?_)
          have loop82_1 : ∀ (n : Nat) (I8 : tI) (H : Heap) (locs : List Loc) (ls : Array Slot) (v7 : Int32), h_G h_so h_fk E A z I8 L0 s s.heap H locs → h_I z I8 → h_F [(13, 44), (13, 45), (1339, 999), (1340, 999)] z I0 I8 → lv_has ls 7 [(0, .ref a0), (1, .int u), (2, .int v1), (3, .int v7)] → (0 ≤ v7.toInt ∧ v7.toInt ≤ 3) → (3 - v7.toInt) < (n : Int) → W pr_ l ev_ (headSpec wsX12_tryRing ({ frames := 6, cells := 0, slots := 0, locals := 384 })).room s m ([.ref a0, .int u] : List Value).toArray below meth cd_ H locs 0 0 (MQ below (va_Qv (fun (I1 : tI) => h_I z I1 ∧ h_F [(13, 44), (13, 45), (1339, 999), (1340, 999)] z I0 I1 ∧ True) (fun (I1 : tI) t => h_B E A z I1 L0 t) A) ([.ref a0, .int u] : List Value).toArray s 0 0 A) (F0 m 82 ls []) := by
            intro n
            induction n with
            | zero => intro I8 H locs ls v7 g hI hF hl jv7 hn; exact absurd hn (by omega)
            | succ n ih82 =>
              intro I8 H locs ls v7 g hI hF hl jv7 hn
              refine lv_iload_n hx hb dX12_tryRing_82 rfl (lv_at hl 3 rfl) ?_
              refine lv_iload_n hx hb dX12_tryRing_83 rfl (lv_at hl 1 rfl) ?_
              refine lv_icmp_ge (tgt := 125) hx hb dX12_tryRing_84 (by decide) (fun c9 => ?_) (fun c9 => ?_)
              · have ic9 := (xi_le c9 h_u rfl : u_t ≤ v7.toInt)
                refine lv_aload_n hx hb dX12_tryRing_125 rfl (lv_at hl 0 rfl) ?_
                refine lv_iload_n hx hb dX12_tryRing_126 rfl (lv_at hl 2 rfl) ?_
                refine h_putI (ty := .int) (v := v1) hx hb hts iX12 tyX12 tyX12_ok nmX12 hown g t_a0 (by decide) so_13 rfl 44 (by decide) rfl (hts (.fieldLink RX12 280 "CapLeagueModel" "bestSum" "I") (by decide +kernel)) rfl rfl (by decide +kernel) rfl rfl dX12_tryRing_127 (fun I10 H locs eI10 g => ?_)
                have hI := hI.wr eI10 t_a0 (rfl : h_bd 13 44 = ((-2147483648), 2147483647)) (xi_lo _) (Int.le_of_lt_add_one (xi_hi _))
                have hF := hF.wr eI10 t_a0 rfl
                refine lv_aload_n hx hb dX12_tryRing_130 rfl (lv_at hl 0 rfl) ?_
                refine lv_iload_n hx hb dX12_tryRing_131 rfl (lv_at hl 1 rfl) ?_
                refine h_putI (ty := .int) (v := u) hx hb hts iX12 tyX12 tyX12_ok nmX12 hown g t_a0 (by decide) so_13 rfl 45 (by decide) rfl (hts (.fieldLink RX12 286 "CapLeagueModel" "bestMany" "I") (by decide +kernel)) rfl rfl (by decide +kernel) rfl rfl dX12_tryRing_132 (fun I11 H locs eI11 g => ?_)
                have hI := hI.wr eI11 t_a0 (rfl : h_bd 13 45 = (0, 3)) (by rw [h_u]; omega) (by rw [h_u]; omega)
                have hF := hF.wr eI11 t_a0 rfl
                refine lv_iconst (v := 0) hx hb dX12_tryRing_135 (by decide) ?_
                refine lv_istore_n (lv' := [(3, .int 0), (0, .ref a0), (1, .int u), (2, .int v1)]) hx hb dX12_tryRing_136 rfl hl (by decide) rfl (fun ls hl => ?_)
                have loop137_2 : ∀ (n : Nat) (I13 : tI) (H : Heap) (locs : List Loc) (ls : Array Slot) (v12 : Int32), h_G h_so h_fk E A z I13 L0 s s.heap H locs → h_I z I13 → h_F [(13, 44), (13, 45), (1339, 999), (1340, 999)] z I0 I13 → lv_has ls 7 [(0, .ref a0), (1, .int u), (3, .int v12)] → (0 ≤ v12.toInt ∧ v12.toInt ≤ 3) → (3 - v12.toInt) < (n : Int) → W pr_ l ev_ (headSpec wsX12_tryRing ({ frames := 6, cells := 0, slots := 0, locals := 384 })).room s m ([.ref a0, .int u] : List Value).toArray below meth cd_ H locs 0 0 (MQ below (va_Qv (fun (I1 : tI) => h_I z I1 ∧ h_F [(13, 44), (13, 45), (1339, 999), (1340, 999)] z I0 I1 ∧ True) (fun (I1 : tI) t => h_B E A z I1 L0 t) A) ([.ref a0, .int u] : List Value).toArray s 0 0 A) (F0 m 137 ls []) := by
                  intro n
                  induction n with
                  | zero => intro I13 H locs ls v12 g hI hF hl jv12 hn; exact absurd hn (by omega)
                  | succ n ih137 =>
                    intro I13 H locs ls v12 g hI hF hl jv12 hn
                    refine lv_iload_n hx hb dX12_tryRing_137 rfl (lv_at hl 2 rfl) ?_
                    refine lv_iload_n hx hb dX12_tryRing_138 rfl (lv_at hl 1 rfl) ?_
                    refine lv_icmp_ge (tgt := 172) hx hb dX12_tryRing_139 (by decide) (fun c14 => ?_) (fun c14 => ?_)
                    · have ic14 := (xi_le c14 h_u rfl : u_t ≤ v12.toInt)
                      have hS := g.2.1
                      exact W.vret hx hb hr (fun t ht hW => ⟨⟨I13, rfl, ⟨hI, hF, trivial⟩, h_ret g ht⟩, hS.F ht⟩) hS.2.2 dX12_tryRing_172
                    · have ic14 := (xi_nle c14 h_u rfl : v12.toInt < u_t)
                      refine lv_aload_n hx hb dX12_tryRing_142 rfl (lv_at hl 0 rfl) ?_
                      obtain ⟨b15, rb15, tb15⟩ := hR.at a0 39 t_a0 (rfl : h_rs 13 39 = some (1339, false)) (by decide)
                      refine h_get (v := .ref b15) hx hb hts iX12 hown g t_a0 (by decide) so_13 rfl 39 (by decide) (hts (.fieldLink RX12 91 "CapLeagueModel" "ringClub" "[I") (by decide +kernel)) rfl dX12_tryRing_143 (by show va_rf (z.R a0 39) = _; rw [rb15]; rfl) ?_
                      refine lv_iload_n hx hb dX12_tryRing_146 rfl (lv_at hl 2 rfl) ?_
                      refine lv_aload_n hx hb dX12_tryRing_147 rfl (lv_at hl 0 rfl) ?_
                      obtain ⟨b16, rb16, tb16⟩ := hR.at a0 42 t_a0 (rfl : h_rs 13 42 = some (1342, false)) (by decide)
                      refine h_get (v := .ref b16) hx hb hts iX12 hown g t_a0 (by decide) so_13 rfl 42 (by decide) (hts (.fieldLink RX12 97 "CapLeagueModel" "triedClub" "[I") (by decide +kernel)) rfl dX12_tryRing_148 (by show va_rf (z.R a0 42) = _; rw [rb16]; rfl) ?_
                      refine lv_iload_n hx hb dX12_tryRing_151 rfl (lv_at hl 2 rfl) ?_
                      refine h_ald hx hb g tb16 (by decide) so_1342 (xi_in (by omega) (by omega)) dX12_tryRing_152 ?_
                      refine lv_topi (fun v17 ev17 => ?_)
                      have jv17 := hI.rd b16 v12.toNatClampNeg tb16 ev17 (rfl : h_bd 1342 _ = (0, 7))
                      refine h_ast hx hb g tb15 (by decide) so_1339 (xi_in (by omega) (by omega)) dX12_tryRing_153 (fun I18 H locs eI18 g => ?_)
                      have hI := hI.wr eI18 tb15 (rfl : h_bd 1339 _ = ((-2147483648), 2147483647)) (xi_lo _) (Int.le_of_lt_add_one (xi_hi _))
                      have hF := hF.wr eI18 tb15 rfl
                      refine lv_aload_n hx hb dX12_tryRing_154 rfl (lv_at hl 0 rfl) ?_
                      obtain ⟨b19, rb19, tb19⟩ := hR.at a0 40 t_a0 (rfl : h_rs 13 40 = some (1340, false)) (by decide)
                      refine h_get (v := .ref b19) hx hb hts iX12 hown g t_a0 (by decide) so_13 rfl 40 (by decide) (hts (.fieldLink RX12 94 "CapLeagueModel" "ringGives" "[I") (by decide +kernel)) rfl dX12_tryRing_155 (by show va_rf (z.R a0 40) = _; rw [rb19]; rfl) ?_
                      refine lv_iload_n hx hb dX12_tryRing_158 rfl (lv_at hl 2 rfl) ?_
                      refine lv_aload_n hx hb dX12_tryRing_159 rfl (lv_at hl 0 rfl) ?_
                      obtain ⟨b20, rb20, tb20⟩ := hR.at a0 43 t_a0 (rfl : h_rs 13 43 = some (1343, false)) (by decide)
                      refine h_get (v := .ref b20) hx hb hts iX12 hown g t_a0 (by decide) so_13 rfl 43 (by decide) (hts (.fieldLink RX12 100 "CapLeagueModel" "triedGives" "[I") (by decide +kernel)) rfl dX12_tryRing_160 (by show va_rf (z.R a0 43) = _; rw [rb20]; rfl) ?_
                      refine lv_iload_n hx hb dX12_tryRing_163 rfl (lv_at hl 2 rfl) ?_
                      refine h_ald hx hb g tb20 (by decide) so_1343 (xi_in (by omega) (by omega)) dX12_tryRing_164 ?_
                      refine lv_topi (fun v21 ev21 => ?_)
                      have jv21 := hI.rd b20 v12.toNatClampNeg tb20 ev21 (rfl : h_bd 1343 _ = (0, 59))
                      refine h_ast hx hb g tb19 (by decide) so_1340 (xi_in (by omega) (by omega)) dX12_tryRing_165 (fun I22 H locs eI22 g => ?_)
                      have hI := hI.wr eI22 tb19 (rfl : h_bd 1340 _ = ((-2147483648), 2147483647)) (xi_lo _) (Int.le_of_lt_add_one (xi_hi _))
                      have hF := hF.wr eI22 tb19 rfl
                      obtain ⟨v23, ev23⟩ : ∃ z : Int32, z = v12 + 1 := ⟨_, rfl⟩
                      have jv23 : v23.toInt = v12.toInt + 1 := xi_add ev23 rfl (by decide) (by omega) (by omega)
                      refine lv_iinc (v := v23) (lv' := [(3, .int v23), (0, .ref a0), (1, .int u)]) hx hb dX12_tryRing_166 hl (k := 2) rfl (by rw [ev23]; rfl) (by decide) rfl (fun ls hl => ?_)
                      refine lv_goto (tgt := 137) hx hb dX12_tryRing_169 (by decide) ?_
                      exact ih137 I22 _ _ _ v23 g hI hF (lv_sub hl [1, 2, 0] rfl) (by omega) (by omega)
                exact loop137_2 _ I11 _ _ _ (0) g hI hF (lv_sub hl [1, 2, 0] rfl) ⟨by decide, by decide⟩ (show (3 - (0 : Int)) < (((3 - (0 : Int)).toNat + 1 : Nat) : Int) by omega)
              · have ic9 := (xi_nle c9 h_u rfl : v7.toInt < u_t)
                refine lv_aload_n hx hb dX12_tryRing_87 rfl (lv_at hl 0 rfl) ?_
                refine lv_aload_n hx hb dX12_tryRing_88 rfl (lv_at hl 0 rfl) ?_
                obtain ⟨b24, rb24, tb24⟩ := hR.at a0 42 t_a0 (rfl : h_rs 13 42 = some (1342, false)) (by decide)
                refine h_get (v := .ref b24) hx hb hts iX12 hown g t_a0 (by decide) so_13 rfl 42 (by decide) (hts (.fieldLink RX12 97 "CapLeagueModel" "triedClub" "[I") (by decide +kernel)) rfl dX12_tryRing_89 (by show va_rf (z.R a0 42) = _; rw [rb24]; rfl) ?_
                refine lv_iload_n hx hb dX12_tryRing_92 rfl (lv_at hl 3 rfl) ?_
                refine h_ald hx hb g tb24 (by decide) so_1342 (xi_in (by omega) (by omega)) dX12_tryRing_93 ?_
                refine lv_topi (fun v25 ev25 => ?_)
                have jv25 := hI.rd b24 v7.toNatClampNeg tb24 ev25 (rfl : h_bd 1342 _ = (0, 7))
                refine lv_aload_n hx hb dX12_tryRing_94 rfl (lv_at hl 0 rfl) ?_
                obtain ⟨b26, rb26, tb26⟩ := hR.at a0 43 t_a0 (rfl : h_rs 13 43 = some (1343, false)) (by decide)
                refine h_get (v := .ref b26) hx hb hts iX12 hown g t_a0 (by decide) so_13 rfl 43 (by decide) (hts (.fieldLink RX12 100 "CapLeagueModel" "triedGives" "[I") (by decide +kernel)) rfl dX12_tryRing_95 (by show va_rf (z.R a0 43) = _; rw [rb26]; rfl) ?_
                refine lv_iload_n hx hb dX12_tryRing_98 rfl (lv_at hl 3 rfl) ?_
                refine h_ald hx hb g tb26 (by decide) so_1343 (xi_in (by omega) (by omega)) dX12_tryRing_99 ?_
                refine lv_topi (fun v27 ev27 => ?_)
                have jv27 := hI.rd b26 v7.toNatClampNeg tb26 ev27 (rfl : h_bd 1343 _ = (0, 59))
                refine lv_aload_n hx hb dX12_tryRing_100 rfl (lv_at hl 0 rfl) ?_
                refine h_get (v := .ref b26) hx hb hts iX12 hown g t_a0 (by decide) so_13 rfl 43 (by decide) (hts (.fieldLink RX12 100 "CapLeagueModel" "triedGives" "[I") (by decide +kernel)) rfl dX12_tryRing_101 (by show va_rf (z.R a0 43) = _; rw [rb26]; rfl) ?_
                refine lv_iload_n hx hb dX12_tryRing_104 rfl (lv_at hl 3 rfl) ?_
                refine lv_iload_n hx hb dX12_tryRing_105 rfl (lv_at hl 1 rfl) ?_
                refine lv_iadd hx hb dX12_tryRing_106 ?_
                refine lv_topi (fun v28 ev28 => ?_)
                have jv28 : v28.toInt = v7.toInt + u_t := xi_add ev28 rfl h_u (by omega) (by omega)
                refine lv_iconst (v := 1) hx hb dX12_tryRing_107 (by decide) ?_
                refine lv_isub hx hb dX12_tryRing_108 ?_
                refine lv_topi (fun v29 ev29 => ?_)
                have jv29 : v29.toInt = v28.toInt - 1 := xi_sub ev29 rfl (by decide) (by omega) (by omega)
                refine lv_iload_n hx hb dX12_tryRing_109 rfl (lv_at hl 1 rfl) ?_
                refine lv_irem hx hb dX12_tryRing_110 (h_ne0 (by rw [h_u]; omega)) ?_
                refine lv_topi (fun v30 ev30 => ?_)
                have jv30 := h_rem ev30 (by omega) (by omega)
                refine h_ald hx hb g tb26 (by decide) so_1343 (xi_in (by omega) (by omega)) dX12_tryRing_111 ?_
                refine lv_topi (fun v31 ev31 => ?_)
                have jv31 := hI.rd b26 v30.toNatClampNeg tb26 ev31 (rfl : h_bd 1343 _ = (0, 59))
                refine vp_callSi (W.runV (As := [.int v25, .int v27, .int v31]) (rest := []) ⟨hx, hb, hml, hown, hts⟩ (tX12_isLegal l E X A z I8 L0 a0 t_a0 v25 (v25.toInt) rfl (by omega) v27 (v27.toInt) rfl (by omega) v31 (v31.toInt) rfl (by omega)) (cwV 3 hts gX12_tryRing_X12_isLegal rfl rfl rfl (by decide +kernel) ⟨Nat.le_of_ble_eq_true rfl, Nat.le_of_ble_eq_true rfl⟩) ⟨h_blind _ _ _ _ _ _ _, h_recv g t_a0 (by decide) so_13 (q := (RX12, TX12, 51)) rfl, h_pre _ hE hk hX hA hI hR g⟩ rfl rfl hl.1 rfl (lv_room (Nat.le_of_ble_eq_true rfl)) dX12_tryRing_112 ⟨Nat.le_of_ble_eq_true rfl, Nat.le_of_ble_eq_true rfl⟩) (fun rh32 h32 => ?_)
                refine lv_if_ne (tgt := 119) hx hb dX12_tryRing_115 (by decide) (fun c33 => ?_) (fun c33 => ?_)
                · have ic33 := (xi_ne c33 rfl (by decide) : rh32.toInt ≠ 0)
                  obtain ⟨v34, ev34⟩ : ∃ z : Int32, z = v7 + 1 := ⟨_, rfl⟩
                  have jv34 : v34.toInt = v7.toInt + 1 := xi_add ev34 rfl (by decide) (by omega) (by omega)
                  refine lv_iinc (v := v34) (lv' := [(3, .int v34), (0, .ref a0), (1, .int u), (2, .int v1)]) hx hb dX12_tryRing_119 hl (k := 3) rfl (by rw [ev34]; rfl) (by decide) rfl (fun ls hl => ?_)
                  refine lv_goto (tgt := 82) hx hb dX12_tryRing_122 (by decide) ?_
                  exact ih82 I8 _ _ _ v34 g hI hF (lv_sub hl [1, 2, 3, 0] rfl) (by omega) (by omega)
                · have ic33 := (xi_eq c33 rfl (by decide) : rh32.toInt = 0)
                  have hS := g.2.1
                  exact W.vret hx hb hr (fun t ht hW => ⟨⟨I8, rfl, ⟨hI, hF, trivial⟩, h_ret g ht⟩, hS.F ht⟩) hS.2.2 dX12_tryRing_118
          exact loop82_1 _ I3 _ _ _ (0) g hI hF (lv_sub hl [1, 2, 3, 0] rfl) ⟨by decide, by decide⟩ (show (3 - (0 : Int)) < (((3 - (0 : Int)).toNat + 1 : Nat) : Int) by omega)
        · have ic6 := (xi_nlt c6 rfl rfl : v1.toInt ≤ v5.toInt)
          have hS := g.2.1
          exact W.vret hx hb hr (fun t ht hW => ⟨⟨I3, rfl, ⟨hI, hF, trivial⟩, h_ret g ht⟩, hS.F ht⟩) hS.2.2 dX12_tryRing_79
      · have ic4 := (xi_nle c4 h_u rfl : v2.toInt < u_t)
        refine lv_iload_n hx hb dX12_tryRing_9 rfl (lv_at hl 3 rfl) ?_
        refine lv_iload_n hx hb dX12_tryRing_10 rfl (lv_at hl 1 rfl) ?_
        refine lv_iadd hx hb dX12_tryRing_11 ?_
        refine lv_topi (fun v35 ev35 => ?_)
        have jv35 : v35.toInt = v2.toInt + u_t := xi_add ev35 rfl h_u (by omega) (by omega)
        refine lv_iconst (v := 1) hx hb dX12_tryRing_12 (by decide) ?_
        refine lv_isub hx hb dX12_tryRing_13 ?_
        refine lv_topi (fun v36 ev36 => ?_)
        have jv36 : v36.toInt = v35.toInt - 1 := xi_sub ev36 rfl (by decide) (by omega) (by omega)
        refine lv_iload_n hx hb dX12_tryRing_14 rfl (lv_at hl 1 rfl) ?_
        refine lv_irem hx hb dX12_tryRing_15 (h_ne0 (by rw [h_u]; omega)) ?_
        refine lv_topi (fun v37 ev37 => ?_)
        have jv37 := h_rem ev37 (by omega) (by omega)
        refine lv_istore (lv' := [(4, .int v37), (0, .ref a0), (1, .int u), (2, .int v1), (3, .int v2)]) hx hb dX12_tryRing_16 hl (by decide) rfl (fun ls hl => ?_)
        refine lv_aload_n hx hb dX12_tryRing_18 rfl (lv_at hl 1 rfl) ?_
        obtain ⟨b38, rb38, tb38⟩ := hR.at a0 42 t_a0 (rfl : h_rs 13 42 = some (1342, false)) (by decide)
        refine h_get (v := .ref b38) hx hb hts iX12 hown g t_a0 (by decide) so_13 rfl 42 (by decide) (hts (.fieldLink RX12 97 "CapLeagueModel" "triedClub" "[I") (by decide +kernel)) rfl dX12_tryRing_19 (by show va_rf (z.R a0 42) = _; rw [rb38]; rfl) ?_
        refine lv_iload_n hx hb dX12_tryRing_22 rfl (lv_at hl 4 rfl) ?_
        refine h_ald hx hb g tb38 (by decide) so_1342 (xi_in (by omega) (by omega)) dX12_tryRing_23 ?_
        refine lv_topi (fun v39 ev39 => ?_)
        have jv39 := hI.rd b38 v2.toNatClampNeg tb38 ev39 (rfl : h_bd 1342 _ = (0, 7))
        refine lv_istore (lv' := [(5, .int v39), (4, .int v37), (0, .ref a0), (1, .int u), (2, .int v1), (3, .int v2)]) hx hb dX12_tryRing_24 hl (by decide) rfl (fun ls hl => ?_)
        refine lv_aload_n hx hb dX12_tryRing_26 rfl (lv_at hl 2 rfl) ?_
        refine lv_iload hx hb dX12_tryRing_27 (lv_at hl 0 rfl) ?_
        refine lv_aload_n hx hb dX12_tryRing_29 rfl (lv_at hl 2 rfl) ?_
        obtain ⟨b40, rb40, tb40⟩ := hR.at a0 43 t_a0 (rfl : h_rs 13 43 = some (1343, false)) (by decide)
        refine h_get (v := .ref b40) hx hb hts iX12 hown g t_a0 (by decide) so_13 rfl 43 (by decide) (hts (.fieldLink RX12 100 "CapLeagueModel" "triedGives" "[I") (by decide +kernel)) rfl dX12_tryRing_30 (by show va_rf (z.R a0 43) = _; rw [rb40]; rfl) ?_
        refine lv_iload hx hb dX12_tryRing_33 (lv_at hl 1 rfl) ?_
        refine h_ald hx hb g tb40 (by decide) so_1343 (xi_in (by omega) (by omega)) dX12_tryRing_35 ?_
        refine lv_topi (fun v41 ev41 => ?_)
        have jv41 := hI.rd b40 v37.toNatClampNeg tb40 ev41 (rfl : h_bd 1343 _ = (0, 59))
        refine vp_callSi (W.runV (As := [.int v39, .int v41]) (rest := []) ⟨hx, hb, hml, hown, hts⟩ (tX12_worthTo l E X A z I3 L0 a0 t_a0 v39 (v39.toInt) rfl (by omega) v41 (v41.toInt) rfl (by omega)) (cwV 2 hts gX12_tryRing_X12_worthTo rfl rfl rfl (by decide +kernel) ⟨Nat.le_of_ble_eq_true rfl, Nat.le_of_ble_eq_true rfl⟩) ⟨h_blind _ _ _ _ _ _ _, h_recv g t_a0 (by decide) so_13 (q := (RX12, TX12, 51)) rfl, h_pre _ hE hk hX hA hI hR g⟩ rfl rfl hl.1 rfl (lv_room (Nat.le_of_ble_eq_true rfl)) dX12_tryRing_36 ⟨Nat.le_of_ble_eq_true rfl, Nat.le_of_ble_eq_true rfl⟩) (fun rh42 h42 => ?_)
        have jrh42 : -2147483648 ≤ rh42.toInt ∧ rh42.toInt ≤ 2147483647 := ⟨xi_lo _, Int.le_of_lt_add_one (xi_hi _)⟩
        refine lv_aload_n hx hb dX12_tryRing_39 rfl (lv_at hl 2 rfl) ?_
        refine lv_iload hx hb dX12_tryRing_40 (lv_at hl 0 rfl) ?_
        refine lv_aload_n hx hb dX12_tryRing_42 rfl (lv_at hl 2 rfl) ?_
        refine h_get (v := .ref b40) hx hb hts iX12 hown g t_a0 (by decide) so_13 rfl 43 (by decide) (hts (.fieldLink RX12 100 "CapLeagueModel" "triedGives" "[I") (by decide +kernel)) rfl dX12_tryRing_43 (by show va_rf (z.R a0 43) = _; rw [rb40]; rfl) ?_
        refine lv_iload_n hx hb dX12_tryRing_46 rfl (lv_at hl 5 rfl) ?_
        refine h_ald hx hb g tb40 (by decide) so_1343 (xi_in (by omega) (by omega)) dX12_tryRing_47 ?_
        refine lv_topi (fun v43 ev43 => ?_)
        have jv43 := hI.rd b40 v2.toNatClampNeg tb40 ev43 (rfl : h_bd 1343 _ = (0, 59))
        refine vp_callSi (W.runV (As := [.int v39, .int v43]) (rest := [.int rh42]) ⟨hx, hb, hml, hown, hts⟩ (tX12_worthTo l E X A z I3 L0 a0 t_a0 v39 (v39.toInt) rfl (by omega) v43 (v43.toInt) rfl (by omega)) (cwV 2 hts gX12_tryRing_X12_worthTo rfl rfl rfl (by decide +kernel) ⟨Nat.le_of_ble_eq_true rfl, Nat.le_of_ble_eq_true rfl⟩) ⟨h_blind _ _ _ _ _ _ _, h_recv g t_a0 (by decide) so_13 (q := (RX12, TX12, 51)) rfl, h_pre _ hE hk hX hA hI hR g⟩ rfl rfl hl.1 rfl (lv_room (Nat.le_of_ble_eq_true rfl)) dX12_tryRing_48 ⟨Nat.le_of_ble_eq_true rfl, Nat.le_of_ble_eq_true rfl⟩) (fun rh44 h44 => ?_)
        have jrh44 : -2147483648 ≤ rh44.toInt ∧ rh44.toInt ≤ 2147483647 := ⟨xi_lo _, Int.le_of_lt_add_one (xi_hi _)⟩
        refine lv_isub hx hb dX12_tryRing_51 ?_
        refine lv_topi (fun v45 ev45 => ?_)
        have jv45 : -2147483648 ≤ v45.toInt ∧ v45.toInt ≤ 2147483647 := ⟨xi_lo _, Int.le_of_lt_add_one (xi_hi _)⟩
        refine lv_istore (lv' := [(6, .int v45), (5, .int v39), (4, .int v37), (0, .ref a0), (1, .int u), (2, .int v1), (3, .int v2)]) hx hb dX12_tryRing_52 hl (by decide) rfl (fun ls hl => ?_)
        refine lv_iload hx hb dX12_tryRing_54 (lv_at hl 0 rfl) ?_
        refine lv_if_gt (tgt := 60) hx hb dX12_tryRing_56 (by decide) (fun c46 => ?_) (fun c46 => ?_)
        · have ic46 := (xi_lt c46 (by decide) rfl : 0 < v45.toInt)
          refine lv_iload_n hx hb dX12_tryRing_60 rfl (lv_at hl 5 rfl) ?_
          refine lv_iload hx hb dX12_tryRing_61 (lv_at hl 0 rfl) ?_
          refine lv_iadd hx hb dX12_tryRing_63 ?_
          refine lv_topi (fun v47 ev47 => ?_)
          have jv47 : -2147483648 ≤ v47.toInt ∧ v47.toInt ≤ 2147483647 := ⟨xi_lo _, Int.le_of_lt_add_one (xi_hi _)⟩
          refine lv_istore_n (lv' := [(2, .int v47), (6, .int v45), (5, .int v39), (4, .int v37), (0, .ref a0), (1, .int u), (3, .int v2)]) hx hb dX12_tryRing_64 rfl hl (by decide) rfl (fun ls hl => ?_)
          obtain ⟨v48, ev48⟩ : ∃ z : Int32, z = v2 + 1 := ⟨_, rfl⟩
          have jv48 : v48.toInt = v2.toInt + 1 := xi_add ev48 rfl (by decide) (by omega) (by omega)
          refine lv_iinc (v := v48) (lv' := [(3, .int v48), (2, .int v47), (6, .int v45), (5, .int v39), (4, .int v37), (0, .ref a0), (1, .int u)]) hx hb dX12_tryRing_65 hl (k := 6) rfl (by rw [ev48]; rfl) (by decide) rfl (fun ls hl => ?_)
          refine lv_goto (tgt := 4) hx hb dX12_tryRing_68 (by decide) ?_
          exact ih4 I3 _ _ _ v47 v48 g hI hF (lv_sub hl [5, 6, 1, 0] rfl) (by omega) (by omega) (by omega)
        · have ic46 := (xi_nlt c46 (by decide) rfl : v45.toInt ≤ 0)
          have hS := g.2.1
          exact W.vret hx hb hr (fun t ht hW => ⟨⟨I3, rfl, ⟨hI, hF, trivial⟩, h_ret g ht⟩, hS.F ht⟩) hS.2.2 dX12_tryRing_59
  exact loop4_0 _ I0 _ _ _ (0) (0) g hI hF (lv_sub hl [2, 3, 1, 0] rfl) ⟨by decide, by decide⟩ ⟨by decide, by decide⟩ (show (3 - (0 : Int)) < (((3 - (0 : Int)).toNat + 1 : Nat) : Int) by omega)
set_option maxHeartbeats 4000000 in
set_option maxRecDepth 100000 in
theorem tX12_givers0 (l : Launch) (E : tE) (X : tX) (A : Nat → Prop) (z : tZ) (I0 : tI) (L0 : tL) (a0 : Nat) (t_a0 : z.ty a0 = 13) (i : Int32) (i_t : Int) (h_i : i.toInt = i_t) (b_i : 2 ≤ i_t ∧ i_t ≤ 3) (u : Int32) (u_t : Int) (h_u : u.toInt = u_t) (b_u : 2 ≤ u_t ∧ u_t ≤ 3) (hi : i_t = u_t) : Met l yX12_givers wsX12_givers ({ frames := 7, cells := 0, slots := 0, locals := 448 }) (va_Pc [.ref a0, .int i, .int u] (h_P E X A z I0 L0)) (va_Qv (fun (I1 : tI) => h_I z I1 ∧ h_F [(13, 44), (13, 45), (1339, 999), (1340, 999), (1343, 999)] z I0 I1 ∧ True) (fun (I1 : tI) t => h_B E A z I1 L0 t) A) 0 0 A := by
  refine Met.ofW (cc := cX12_givers) (maxL := 4) (ret := none) (by decide) rfl ?_
  intro pr_ ev_ s m args below meth cd_ s₁ B hml hv
  obtain ⟨rfl, hE, hk, hX, hA, hK, hI, hR, hB0⟩ := hv
  have g : h_G h_so h_fk E A z I0 L0 s s.heap s.heap [] := ⟨hK, va_S.rf, hB0⟩
  have hF : h_F [(13, 44), (13, 45), (1339, 999), (1340, 999), (1343, 999)] z I0 I0 := h_F.rf
  have hx := B.exec
  have hb := B.bytes
  have hr := B.returns
  have hts := atoms_spec (ws := wsX12_givers) B.pre
  have hown : s.vm.findClass RX12 = some m.cls := findClass_of_methodNamed B.named
  have hlocks := B.notSynchronized
  have iX12 : ∀ w ∈ u_ws RX12 TX12 51, w ∈ wsX12_givers := by decide +kernel
  have hl := lv_entry ([.ref a0, .int i, .int u]) (n := 4) (Nat.le_of_ble_eq_true rfl)
  rw [lg_entry_eq]
  generalize (lg_sl ([.ref a0, .int i, .int u]) ++ List.replicate (4 - (lg_sl ([.ref a0, .int i, .int u])).length) Slot.unset).toArray = ls at hl ⊢
  have hl : lv_has ls 4 [(0, .ref a0), (1, .int i), (2, .int u)] := hl
  refine lv_iload_n hx hb dX12_givers_0 rfl (lv_at hl 1 rfl) ?_
  refine lv_iload_n hx hb dX12_givers_1 rfl (lv_at hl 2 rfl) ?_
  refine lv_icmp_ne (tgt := 11) hx hb dX12_givers_2 (by decide) (fun h => absurd (xi_ne h h_i h_u : i_t ≠ u_t) (by omega)) (fun c1 => ?_)
  have ic1 := (xi_eq c1 h_i h_u : i_t = u_t)
  refine lv_aload_n hx hb dX12_givers_5 rfl (lv_at hl 0 rfl) ?_
  refine lv_iload_n hx hb dX12_givers_6 rfl (lv_at hl 2 rfl) ?_
  refine va_callv (va_runV (As := [.int u]) (rest := []) ⟨hx, hb, hml, hown, hts⟩ (tX12_tryRing l E X A z I0 L0 a0 t_a0 u (u_t) h_u (by omega)) (cwV 1 hts gX12_givers_X12_tryRing rfl rfl rfl (by decide +kernel) ⟨Nat.le_of_ble_eq_true rfl, Nat.le_of_ble_eq_true rfl⟩) ⟨h_blind _ _ _ _ _ _ _, h_recv g t_a0 (by decide) so_13 (q := (RX12, TX12, 51)) rfl, h_pre _ hE hk hX hA hI hR g⟩ rfl rfl hl.1 rfl (lv_room (Nat.le_of_ble_eq_true rfl)) dX12_givers_7 ⟨Nat.le_of_ble_eq_true rfl, Nat.le_of_ble_eq_true rfl⟩) g.2.1 (fun q _ h => h) (fun q h => h) (fun I3 t H1 locs ht hvm h2 hB hz1 hk1 hS => ?_)
  obtain ⟨hI, fh2, h2⟩ := h2
  replace g := h_after g hB ht hS
  generalize H1 = H at g
  clear hB hk1 hz1 ht hvm hS
  have hF := hF.call fh2 rfl
  have hS := g.2.1
  exact W.vret hx hb hr (fun t ht hW => ⟨⟨I3, rfl, ⟨hI, hF, trivial⟩, h_ret g ht⟩, hS.F ht⟩) hS.2.2 dX12_givers_10
set_option maxHeartbeats 4000000 in
set_option maxRecDepth 100000 in
theorem tX12_givers1 (l : Launch) (E : tE) (X : tX) (A : Nat → Prop) (z : tZ) (I0 : tI) (L0 : tL) (a0 : Nat) (t_a0 : z.ty a0 = 13) (i : Int32) (i_t : Int) (h_i : i.toInt = i_t) (b_i : 1 ≤ i_t ∧ i_t ≤ 2) (u : Int32) (u_t : Int) (h_u : u.toInt = u_t) (b_u : 2 ≤ u_t ∧ u_t ≤ 3) (hi : i_t = u_t - 1) : Met l yX12_givers wsX12_givers ({ frames := 8, cells := 0, slots := 0, locals := 512 }) (va_Pc [.ref a0, .int i, .int u] (h_P E X A z I0 L0)) (va_Qv (fun (I1 : tI) => h_I z I1 ∧ h_F [(13, 44), (13, 45), (1339, 999), (1340, 999), (1343, 999)] z I0 I1 ∧ True) (fun (I1 : tI) t => h_B E A z I1 L0 t) A) 0 0 A := by
  refine Met.ofW (cc := cX12_givers) (maxL := 4) (ret := none) (by decide) rfl ?_
  intro pr_ ev_ s m args below meth cd_ s₁ B hml hv
  obtain ⟨rfl, hE, hk, hX, hA, hK, hI, hR, hB0⟩ := hv
  have g : h_G h_so h_fk E A z I0 L0 s s.heap s.heap [] := ⟨hK, va_S.rf, hB0⟩
  have hF : h_F [(13, 44), (13, 45), (1339, 999), (1340, 999), (1343, 999)] z I0 I0 := h_F.rf
  have hx := B.exec
  have hb := B.bytes
  have hr := B.returns
  have hts := atoms_spec (ws := wsX12_givers) B.pre
  have hown : s.vm.findClass RX12 = some m.cls := findClass_of_methodNamed B.named
  have hlocks := B.notSynchronized
  have iX12 : ∀ w ∈ u_ws RX12 TX12 51, w ∈ wsX12_givers := by decide +kernel
  have hl := lv_entry ([.ref a0, .int i, .int u]) (n := 4) (Nat.le_of_ble_eq_true rfl)
  rw [lg_entry_eq]
  generalize (lg_sl ([.ref a0, .int i, .int u]) ++ List.replicate (4 - (lg_sl ([.ref a0, .int i, .int u])).length) Slot.unset).toArray = ls at hl ⊢
  have hl : lv_has ls 4 [(0, .ref a0), (1, .int i), (2, .int u)] := hl
  refine lv_iload_n hx hb dX12_givers_0 rfl (lv_at hl 1 rfl) ?_
  refine lv_iload_n hx hb dX12_givers_1 rfl (lv_at hl 2 rfl) ?_
  refine lv_icmp_ne (tgt := 11) hx hb dX12_givers_2 (by decide) (fun c1 => ?_) (fun h => absurd (xi_eq h h_i h_u : i_t = u_t) (by omega))
  have ic1 := (xi_ne c1 h_i h_u : i_t ≠ u_t)
  refine lv_iconst (v := 0) hx hb dX12_givers_11 (by decide) ?_
  refine lv_istore_n (lv' := [(3, .int 0), (0, .ref a0), (1, .int i), (2, .int u)]) hx hb dX12_givers_12 rfl hl (by decide) rfl (fun ls hl => ?_)
  have loop13_0 : ∀ (n : Nat) (I3 : tI) (H : Heap) (locs : List Loc) (ls : Array Slot) (v2 : Int32), h_G h_so h_fk E A z I3 L0 s s.heap H locs → h_I z I3 → h_F [(13, 44), (13, 45), (1339, 999), (1340, 999), (1343, 999)] z I0 I3 → lv_has ls 4 [(0, .ref a0), (1, .int i), (2, .int u), (3, .int v2)] → (0 ≤ v2.toInt ∧ v2.toInt ≤ 60) → (60 - v2.toInt) < (n : Int) → W pr_ l ev_ (headSpec wsX12_givers ({ frames := 8, cells := 0, slots := 0, locals := 512 })).room s m ([.ref a0, .int i, .int u] : List Value).toArray below meth cd_ H locs 0 0 (MQ below (va_Qv (fun (I1 : tI) => h_I z I1 ∧ h_F [(13, 44), (13, 45), (1339, 999), (1340, 999), (1343, 999)] z I0 I1 ∧ True) (fun (I1 : tI) t => h_B E A z I1 L0 t) A) ([.ref a0, .int i, .int u] : List Value).toArray s 0 0 A) (F0 m 13 ls []) := by
    intro n
    induction n with
    | zero => intro I3 H locs ls v2 g hI hF hl jv2 hn; exact absurd hn (by omega)
    | succ n ih13 =>
      intro I3 H locs ls v2 g hI hF hl jv2 hn
      refine lv_iload_n hx hb dX12_givers_13 rfl (lv_at hl 3 rfl) ?_
      refine lv_aload_n hx hb dX12_givers_14 rfl (lv_at hl 0 rfl) ?_
      refine h_get (v := .int (I3 a0 13)) hx hb hts iX12 hown g t_a0 (by decide) so_13 rfl 13 (by decide) (hts (.fieldLink RX12 202 "CapLeagueModel" "players" "I") (by decide +kernel)) rfl dX12_givers_15 rfl ?_
      refine lv_topi (fun v4 ev4 => ?_)
      have jv4 := hI.rd a0 13 t_a0 ev4 (rfl : h_bd 13 13 = (0, 60))
      refine lv_icmp_ge (tgt := 72) hx hb dX12_givers_18 (by decide) (fun c5 => ?_) (fun c5 => ?_)
      · have ic5 := (xi_le c5 rfl rfl : v4.toInt ≤ v2.toInt)
        have hS := g.2.1
        exact W.vret hx hb hr (fun t ht hW => ⟨⟨I3, rfl, ⟨hI, hF, trivial⟩, h_ret g ht⟩, hS.F ht⟩) hS.2.2 dX12_givers_72
      · have ic5 := (xi_nle c5 rfl rfl : v2.toInt < v4.toInt)
        refine lv_aload_n hx hb dX12_givers_21 rfl (lv_at hl 0 rfl) ?_
        obtain ⟨b6, rb6, tb6⟩ := hR.at a0 14 t_a0 (rfl : h_rs 13 14 = some (1314, false)) (by decide)
        refine h_get (v := .ref b6) hx hb hts iX12 hown g t_a0 (by decide) so_13 rfl 14 (by decide) (hts (.fieldLink RX12 25 "CapLeagueModel" "clubOf" "[I") (by decide +kernel)) rfl dX12_givers_22 (by show va_rf (z.R a0 14) = _; rw [rb6]; rfl) ?_
        refine lv_iload_n hx hb dX12_givers_25 rfl (lv_at hl 3 rfl) ?_
        refine h_ald hx hb g tb6 (by decide) so_1314 (xi_in (by omega) (by omega)) dX12_givers_26 ?_
        refine lv_topi (fun v7 ev7 => ?_)
        have jv7 := hI.rd b6 v2.toNatClampNeg tb6 ev7 (rfl : h_bd 1314 _ = ((-1), 7))
        refine lv_aload_n hx hb dX12_givers_27 rfl (lv_at hl 0 rfl) ?_
        obtain ⟨b8, rb8, tb8⟩ := hR.at a0 42 t_a0 (rfl : h_rs 13 42 = some (1342, false)) (by decide)
        refine h_get (v := .ref b8) hx hb hts iX12 hown g t_a0 (by decide) so_13 rfl 42 (by decide) (hts (.fieldLink RX12 97 "CapLeagueModel" "triedClub" "[I") (by decide +kernel)) rfl dX12_givers_28 (by show va_rf (z.R a0 42) = _; rw [rb8]; rfl) ?_
        refine lv_iload_n hx hb dX12_givers_31 rfl (lv_at hl 1 rfl) ?_
        refine h_ald hx hb g tb8 (by decide) so_1342 (xi_in (by rw [h_i]; omega) (by rw [h_i]; omega)) dX12_givers_32 ?_
        refine lv_topi (fun v9 ev9 => ?_)
        have jv9 := hI.rd b8 i.toNatClampNeg tb8 ev9 (rfl : h_bd 1342 _ = (0, 7))
        refine lv_icmp_ne (tgt := 66) hx hb dX12_givers_33 (by decide) (fun c10 => ?_) (fun c10 => ?_)
        · have ic10 := (xi_ne c10 rfl rfl : v7.toInt ≠ v9.toInt)
          obtain ⟨v11, ev11⟩ : ∃ z : Int32, z = v2 + 1 := ⟨_, rfl⟩
          have jv11 : v11.toInt = v2.toInt + 1 := xi_add ev11 rfl (by decide) (by omega) (by omega)
          refine lv_iinc (v := v11) (lv' := [(3, .int v11), (0, .ref a0), (1, .int i), (2, .int u)]) hx hb dX12_givers_66 hl (k := 3) rfl (by rw [ev11]; rfl) (by decide) rfl (fun ls hl => ?_)
          refine lv_goto (tgt := 13) hx hb dX12_givers_69 (by decide) ?_
          exact ih13 I3 _ _ _ v11 g hI hF (lv_sub hl [1, 2, 3, 0] rfl) (by omega) (by omega)
        · have ic10 := (xi_eq c10 rfl rfl : v7.toInt = v9.toInt)
          refine lv_aload_n hx hb dX12_givers_36 rfl (lv_at hl 0 rfl) ?_
          refine lv_iload_n hx hb dX12_givers_37 rfl (lv_at hl 3 rfl) ?_
          refine lv_aload_n hx hb dX12_givers_38 rfl (lv_at hl 0 rfl) ?_
          refine h_get (v := .int (I3 a0 12)) hx hb hts iX12 hown g t_a0 (by decide) so_13 rfl 12 (by decide) (hts (.fieldLink RX12 187 "CapLeagueModel" "clock" "I") (by decide +kernel)) rfl dX12_givers_39 rfl ?_
          refine lv_topi (fun v12 ev12 => ?_)
          have jv12 := hI.rd a0 12 t_a0 ev12 (rfl : h_bd 13 12 = (0, 9))
          refine vp_callSi (W.runV (As := [.int v2, .int v12]) (rest := []) ⟨hx, hb, hml, hown, hts⟩ (tX12_isUnder l E X A z I3 L0 a0 t_a0 v2 (v2.toInt) rfl (by omega) v12 (v12.toInt) rfl) (cwV 2 hts gX12_givers_X12_isUnder rfl rfl rfl (by decide +kernel) ⟨Nat.le_of_ble_eq_true rfl, Nat.le_of_ble_eq_true rfl⟩) ⟨h_blind _ _ _ _ _ _ _, h_recv g t_a0 (by decide) so_13 (q := (RX12, TX12, 51)) rfl, h_pre _ hE hk hX hA hI hR g⟩ rfl rfl hl.1 rfl (lv_room (Nat.le_of_ble_eq_true rfl)) dX12_givers_42 ⟨Nat.le_of_ble_eq_true rfl, Nat.le_of_ble_eq_true rfl⟩) (fun rh13 h13 => ?_)
          refine lv_if_ne (tgt := 51) hx hb dX12_givers_45 (by decide) (fun c14 => ?_) (fun c14 => ?_)
          · have ic14 := (xi_ne c14 rfl (by decide) : rh13.toInt ≠ 0)
            refine lv_aload_n hx hb dX12_givers_51 rfl (lv_at hl 0 rfl) ?_
            obtain ⟨b15, rb15, tb15⟩ := hR.at a0 43 t_a0 (rfl : h_rs 13 43 = some (1343, false)) (by decide)
            refine h_get (v := .ref b15) hx hb hts iX12 hown g t_a0 (by decide) so_13 rfl 43 (by decide) (hts (.fieldLink RX12 100 "CapLeagueModel" "triedGives" "[I") (by decide +kernel)) rfl dX12_givers_52 (by show va_rf (z.R a0 43) = _; rw [rb15]; rfl) ?_
            refine lv_iload_n hx hb dX12_givers_55 rfl (lv_at hl 1 rfl) ?_
            refine lv_iload_n hx hb dX12_givers_56 rfl (lv_at hl 3 rfl) ?_
            refine h_ast hx hb g tb15 (by decide) so_1343 (xi_in (by rw [h_i]; omega) (by rw [h_i]; omega)) dX12_givers_57 (fun I16 H locs eI16 g => ?_)
            have hI := hI.wr eI16 tb15 (rfl : h_bd 1343 _ = (0, 59)) (by omega) (by omega)
            have hF := hF.wr eI16 tb15 rfl
            refine lv_aload_n hx hb dX12_givers_58 rfl (lv_at hl 0 rfl) ?_
            refine lv_iload_n hx hb dX12_givers_59 rfl (lv_at hl 1 rfl) ?_
            refine lv_iconst (v := 1) hx hb dX12_givers_60 (by decide) ?_
            refine lv_iadd hx hb dX12_givers_61 ?_
            refine lv_topi (fun v17 ev17 => ?_)
            have jv17 : v17.toInt = i_t + 1 := xi_add ev17 h_i (by decide) (by omega) (by omega)
            refine lv_iload_n hx hb dX12_givers_62 rfl (lv_at hl 2 rfl) ?_
            refine va_callv (va_runV (As := [.int v17, .int u]) (rest := []) ⟨hx, hb, hml, hown, hts⟩ (tX12_givers0 l E X A z I16 L0 a0 t_a0 v17 (v17.toInt) rfl (by omega) u (u_t) h_u (by omega) (by omega)) (cwV 2 hts gX12_givers_X12_givers rfl rfl rfl (by decide +kernel) ⟨Nat.le_of_ble_eq_true rfl, Nat.le_of_ble_eq_true rfl⟩) ⟨h_blind _ _ _ _ _ _ _, h_recv g t_a0 (by decide) so_13 (q := (RX12, TX12, 51)) rfl, h_pre _ hE hk hX hA hI hR g⟩ rfl rfl hl.1 rfl (lv_room (Nat.le_of_ble_eq_true rfl)) dX12_givers_63 ⟨Nat.le_of_ble_eq_true rfl, Nat.le_of_ble_eq_true rfl⟩) g.2.1 (fun q _ h => h) (fun q h => h) (fun I19 t H1 locs ht hvm h18 hB hz1 hk1 hS => ?_)
            obtain ⟨hI, fh18, h18⟩ := h18
            replace g := h_after g hB ht hS
            generalize H1 = H at g
            clear hB hk1 hz1 ht hvm hS
            have hF := hF.call fh18 rfl
            obtain ⟨v20, ev20⟩ : ∃ z : Int32, z = v2 + 1 := ⟨_, rfl⟩
            have jv20 : v20.toInt = v2.toInt + 1 := xi_add ev20 rfl (by decide) (by omega) (by omega)
            refine lv_iinc (v := v20) (lv' := [(3, .int v20), (0, .ref a0), (1, .int i), (2, .int u)]) hx hb dX12_givers_66 hl (k := 3) rfl (by rw [ev20]; rfl) (by decide) rfl (fun ls hl => ?_)
            refine lv_goto (tgt := 13) hx hb dX12_givers_69 (by decide) ?_
            exact ih13 I19 _ _ _ v20 g hI hF (lv_sub hl [1, 2, 3, 0] rfl) (by omega) (by omega)
          · have ic14 := (xi_eq c14 rfl (by decide) : rh13.toInt = 0)
            refine lv_goto (tgt := 66) hx hb dX12_givers_48 (by decide) ?_
            obtain ⟨v21, ev21⟩ : ∃ z : Int32, z = v2 + 1 := ⟨_, rfl⟩
            have jv21 : v21.toInt = v2.toInt + 1 := xi_add ev21 rfl (by decide) (by omega) (by omega)
            refine lv_iinc (v := v21) (lv' := [(3, .int v21), (0, .ref a0), (1, .int i), (2, .int u)]) hx hb dX12_givers_66 hl (k := 3) rfl (by rw [ev21]; rfl) (by decide) rfl (fun ls hl => ?_)
            refine lv_goto (tgt := 13) hx hb dX12_givers_69 (by decide) ?_
            exact ih13 I3 _ _ _ v21 g hI hF (lv_sub hl [1, 2, 3, 0] rfl) (by omega) (by omega)
  exact loop13_0 _ I0 _ _ _ (0) g hI hF (lv_sub hl [1, 2, 3, 0] rfl) ⟨by decide, by decide⟩ (show (60 - (0 : Int)) < (((60 - (0 : Int)).toNat + 1 : Nat) : Int) by omega)
set_option maxHeartbeats 4000000 in
set_option maxRecDepth 100000 in
theorem tX12_givers2 (l : Launch) (E : tE) (X : tX) (A : Nat → Prop) (z : tZ) (I0 : tI) (L0 : tL) (a0 : Nat) (t_a0 : z.ty a0 = 13) (i : Int32) (i_t : Int) (h_i : i.toInt = i_t) (b_i : 0 ≤ i_t ∧ i_t ≤ 1) (u : Int32) (u_t : Int) (h_u : u.toInt = u_t) (b_u : 2 ≤ u_t ∧ u_t ≤ 3) (hi : i_t = u_t - 2) : Met l yX12_givers wsX12_givers ({ frames := 9, cells := 0, slots := 0, locals := 576 }) (va_Pc [.ref a0, .int i, .int u] (h_P E X A z I0 L0)) (va_Qv (fun (I1 : tI) => h_I z I1 ∧ h_F [(13, 44), (13, 45), (1339, 999), (1340, 999), (1343, 999)] z I0 I1 ∧ True) (fun (I1 : tI) t => h_B E A z I1 L0 t) A) 0 0 A := by
  refine Met.ofW (cc := cX12_givers) (maxL := 4) (ret := none) (by decide) rfl ?_
  intro pr_ ev_ s m args below meth cd_ s₁ B hml hv
  obtain ⟨rfl, hE, hk, hX, hA, hK, hI, hR, hB0⟩ := hv
  have g : h_G h_so h_fk E A z I0 L0 s s.heap s.heap [] := ⟨hK, va_S.rf, hB0⟩
  have hF : h_F [(13, 44), (13, 45), (1339, 999), (1340, 999), (1343, 999)] z I0 I0 := h_F.rf
  have hx := B.exec
  have hb := B.bytes
  have hr := B.returns
  have hts := atoms_spec (ws := wsX12_givers) B.pre
  have hown : s.vm.findClass RX12 = some m.cls := findClass_of_methodNamed B.named
  have hlocks := B.notSynchronized
  have iX12 : ∀ w ∈ u_ws RX12 TX12 51, w ∈ wsX12_givers := by decide +kernel
  have hl := lv_entry ([.ref a0, .int i, .int u]) (n := 4) (Nat.le_of_ble_eq_true rfl)
  rw [lg_entry_eq]
  generalize (lg_sl ([.ref a0, .int i, .int u]) ++ List.replicate (4 - (lg_sl ([.ref a0, .int i, .int u])).length) Slot.unset).toArray = ls at hl ⊢
  have hl : lv_has ls 4 [(0, .ref a0), (1, .int i), (2, .int u)] := hl
  refine lv_iload_n hx hb dX12_givers_0 rfl (lv_at hl 1 rfl) ?_
  refine lv_iload_n hx hb dX12_givers_1 rfl (lv_at hl 2 rfl) ?_
  refine lv_icmp_ne (tgt := 11) hx hb dX12_givers_2 (by decide) (fun c1 => ?_) (fun h => absurd (xi_eq h h_i h_u : i_t = u_t) (by omega))
  have ic1 := (xi_ne c1 h_i h_u : i_t ≠ u_t)
  refine lv_iconst (v := 0) hx hb dX12_givers_11 (by decide) ?_
  refine lv_istore_n (lv' := [(3, .int 0), (0, .ref a0), (1, .int i), (2, .int u)]) hx hb dX12_givers_12 rfl hl (by decide) rfl (fun ls hl => ?_)
  have loop13_0 : ∀ (n : Nat) (I3 : tI) (H : Heap) (locs : List Loc) (ls : Array Slot) (v2 : Int32), h_G h_so h_fk E A z I3 L0 s s.heap H locs → h_I z I3 → h_F [(13, 44), (13, 45), (1339, 999), (1340, 999), (1343, 999)] z I0 I3 → lv_has ls 4 [(0, .ref a0), (1, .int i), (2, .int u), (3, .int v2)] → (0 ≤ v2.toInt ∧ v2.toInt ≤ 60) → (60 - v2.toInt) < (n : Int) → W pr_ l ev_ (headSpec wsX12_givers ({ frames := 9, cells := 0, slots := 0, locals := 576 })).room s m ([.ref a0, .int i, .int u] : List Value).toArray below meth cd_ H locs 0 0 (MQ below (va_Qv (fun (I1 : tI) => h_I z I1 ∧ h_F [(13, 44), (13, 45), (1339, 999), (1340, 999), (1343, 999)] z I0 I1 ∧ True) (fun (I1 : tI) t => h_B E A z I1 L0 t) A) ([.ref a0, .int i, .int u] : List Value).toArray s 0 0 A) (F0 m 13 ls []) := by
    intro n
    induction n with
    | zero => intro I3 H locs ls v2 g hI hF hl jv2 hn; exact absurd hn (by omega)
    | succ n ih13 =>
      intro I3 H locs ls v2 g hI hF hl jv2 hn
      refine lv_iload_n hx hb dX12_givers_13 rfl (lv_at hl 3 rfl) ?_
      refine lv_aload_n hx hb dX12_givers_14 rfl (lv_at hl 0 rfl) ?_
      refine h_get (v := .int (I3 a0 13)) hx hb hts iX12 hown g t_a0 (by decide) so_13 rfl 13 (by decide) (hts (.fieldLink RX12 202 "CapLeagueModel" "players" "I") (by decide +kernel)) rfl dX12_givers_15 rfl ?_
      refine lv_topi (fun v4 ev4 => ?_)
      have jv4 := hI.rd a0 13 t_a0 ev4 (rfl : h_bd 13 13 = (0, 60))
      refine lv_icmp_ge (tgt := 72) hx hb dX12_givers_18 (by decide) (fun c5 => ?_) (fun c5 => ?_)
      · have ic5 := (xi_le c5 rfl rfl : v4.toInt ≤ v2.toInt)
        have hS := g.2.1
        exact W.vret hx hb hr (fun t ht hW => ⟨⟨I3, rfl, ⟨hI, hF, trivial⟩, h_ret g ht⟩, hS.F ht⟩) hS.2.2 dX12_givers_72
      · have ic5 := (xi_nle c5 rfl rfl : v2.toInt < v4.toInt)
        refine lv_aload_n hx hb dX12_givers_21 rfl (lv_at hl 0 rfl) ?_
        obtain ⟨b6, rb6, tb6⟩ := hR.at a0 14 t_a0 (rfl : h_rs 13 14 = some (1314, false)) (by decide)
        refine h_get (v := .ref b6) hx hb hts iX12 hown g t_a0 (by decide) so_13 rfl 14 (by decide) (hts (.fieldLink RX12 25 "CapLeagueModel" "clubOf" "[I") (by decide +kernel)) rfl dX12_givers_22 (by show va_rf (z.R a0 14) = _; rw [rb6]; rfl) ?_
        refine lv_iload_n hx hb dX12_givers_25 rfl (lv_at hl 3 rfl) ?_
        refine h_ald hx hb g tb6 (by decide) so_1314 (xi_in (by omega) (by omega)) dX12_givers_26 ?_
        refine lv_topi (fun v7 ev7 => ?_)
        have jv7 := hI.rd b6 v2.toNatClampNeg tb6 ev7 (rfl : h_bd 1314 _ = ((-1), 7))
        refine lv_aload_n hx hb dX12_givers_27 rfl (lv_at hl 0 rfl) ?_
        obtain ⟨b8, rb8, tb8⟩ := hR.at a0 42 t_a0 (rfl : h_rs 13 42 = some (1342, false)) (by decide)
        refine h_get (v := .ref b8) hx hb hts iX12 hown g t_a0 (by decide) so_13 rfl 42 (by decide) (hts (.fieldLink RX12 97 "CapLeagueModel" "triedClub" "[I") (by decide +kernel)) rfl dX12_givers_28 (by show va_rf (z.R a0 42) = _; rw [rb8]; rfl) ?_
        refine lv_iload_n hx hb dX12_givers_31 rfl (lv_at hl 1 rfl) ?_
        refine h_ald hx hb g tb8 (by decide) so_1342 (xi_in (by rw [h_i]; omega) (by rw [h_i]; omega)) dX12_givers_32 ?_
        refine lv_topi (fun v9 ev9 => ?_)
        have jv9 := hI.rd b8 i.toNatClampNeg tb8 ev9 (rfl : h_bd 1342 _ = (0, 7))
        refine lv_icmp_ne (tgt := 66) hx hb dX12_givers_33 (by decide) (fun c10 => ?_) (fun c10 => ?_)
        · have ic10 := (xi_ne c10 rfl rfl : v7.toInt ≠ v9.toInt)
          obtain ⟨v11, ev11⟩ : ∃ z : Int32, z = v2 + 1 := ⟨_, rfl⟩
          have jv11 : v11.toInt = v2.toInt + 1 := xi_add ev11 rfl (by decide) (by omega) (by omega)
          refine lv_iinc (v := v11) (lv' := [(3, .int v11), (0, .ref a0), (1, .int i), (2, .int u)]) hx hb dX12_givers_66 hl (k := 3) rfl (by rw [ev11]; rfl) (by decide) rfl (fun ls hl => ?_)
          refine lv_goto (tgt := 13) hx hb dX12_givers_69 (by decide) ?_
          exact ih13 I3 _ _ _ v11 g hI hF (lv_sub hl [1, 2, 3, 0] rfl) (by omega) (by omega)
        · have ic10 := (xi_eq c10 rfl rfl : v7.toInt = v9.toInt)
          refine lv_aload_n hx hb dX12_givers_36 rfl (lv_at hl 0 rfl) ?_
          refine lv_iload_n hx hb dX12_givers_37 rfl (lv_at hl 3 rfl) ?_
          refine lv_aload_n hx hb dX12_givers_38 rfl (lv_at hl 0 rfl) ?_
          refine h_get (v := .int (I3 a0 12)) hx hb hts iX12 hown g t_a0 (by decide) so_13 rfl 12 (by decide) (hts (.fieldLink RX12 187 "CapLeagueModel" "clock" "I") (by decide +kernel)) rfl dX12_givers_39 rfl ?_
          refine lv_topi (fun v12 ev12 => ?_)
          have jv12 := hI.rd a0 12 t_a0 ev12 (rfl : h_bd 13 12 = (0, 9))
          refine vp_callSi (W.runV (As := [.int v2, .int v12]) (rest := []) ⟨hx, hb, hml, hown, hts⟩ (tX12_isUnder l E X A z I3 L0 a0 t_a0 v2 (v2.toInt) rfl (by omega) v12 (v12.toInt) rfl) (cwV 2 hts gX12_givers_X12_isUnder rfl rfl rfl (by decide +kernel) ⟨Nat.le_of_ble_eq_true rfl, Nat.le_of_ble_eq_true rfl⟩) ⟨h_blind _ _ _ _ _ _ _, h_recv g t_a0 (by decide) so_13 (q := (RX12, TX12, 51)) rfl, h_pre _ hE hk hX hA hI hR g⟩ rfl rfl hl.1 rfl (lv_room (Nat.le_of_ble_eq_true rfl)) dX12_givers_42 ⟨Nat.le_of_ble_eq_true rfl, Nat.le_of_ble_eq_true rfl⟩) (fun rh13 h13 => ?_)
          refine lv_if_ne (tgt := 51) hx hb dX12_givers_45 (by decide) (fun c14 => ?_) (fun c14 => ?_)
          · have ic14 := (xi_ne c14 rfl (by decide) : rh13.toInt ≠ 0)
            refine lv_aload_n hx hb dX12_givers_51 rfl (lv_at hl 0 rfl) ?_
            obtain ⟨b15, rb15, tb15⟩ := hR.at a0 43 t_a0 (rfl : h_rs 13 43 = some (1343, false)) (by decide)
            refine h_get (v := .ref b15) hx hb hts iX12 hown g t_a0 (by decide) so_13 rfl 43 (by decide) (hts (.fieldLink RX12 100 "CapLeagueModel" "triedGives" "[I") (by decide +kernel)) rfl dX12_givers_52 (by show va_rf (z.R a0 43) = _; rw [rb15]; rfl) ?_
            refine lv_iload_n hx hb dX12_givers_55 rfl (lv_at hl 1 rfl) ?_
            refine lv_iload_n hx hb dX12_givers_56 rfl (lv_at hl 3 rfl) ?_
            refine h_ast hx hb g tb15 (by decide) so_1343 (xi_in (by rw [h_i]; omega) (by rw [h_i]; omega)) dX12_givers_57 (fun I16 H locs eI16 g => ?_)
            have hI := hI.wr eI16 tb15 (rfl : h_bd 1343 _ = (0, 59)) (by omega) (by omega)
            have hF := hF.wr eI16 tb15 rfl
            refine lv_aload_n hx hb dX12_givers_58 rfl (lv_at hl 0 rfl) ?_
            refine lv_iload_n hx hb dX12_givers_59 rfl (lv_at hl 1 rfl) ?_
            refine lv_iconst (v := 1) hx hb dX12_givers_60 (by decide) ?_
            refine lv_iadd hx hb dX12_givers_61 ?_
            refine lv_topi (fun v17 ev17 => ?_)
            have jv17 : v17.toInt = i_t + 1 := xi_add ev17 h_i (by decide) (by omega) (by omega)
            refine lv_iload_n hx hb dX12_givers_62 rfl (lv_at hl 2 rfl) ?_
            refine va_callv (va_runV (As := [.int v17, .int u]) (rest := []) ⟨hx, hb, hml, hown, hts⟩ (tX12_givers1 l E X A z I16 L0 a0 t_a0 v17 (v17.toInt) rfl (by omega) u (u_t) h_u (by omega) (by omega)) (cwV 2 hts gX12_givers_X12_givers rfl rfl rfl (by decide +kernel) ⟨Nat.le_of_ble_eq_true rfl, Nat.le_of_ble_eq_true rfl⟩) ⟨h_blind _ _ _ _ _ _ _, h_recv g t_a0 (by decide) so_13 (q := (RX12, TX12, 51)) rfl, h_pre _ hE hk hX hA hI hR g⟩ rfl rfl hl.1 rfl (lv_room (Nat.le_of_ble_eq_true rfl)) dX12_givers_63 ⟨Nat.le_of_ble_eq_true rfl, Nat.le_of_ble_eq_true rfl⟩) g.2.1 (fun q _ h => h) (fun q h => h) (fun I19 t H1 locs ht hvm h18 hB hz1 hk1 hS => ?_)
            obtain ⟨hI, fh18, h18⟩ := h18
            replace g := h_after g hB ht hS
            generalize H1 = H at g
            clear hB hk1 hz1 ht hvm hS
            have hF := hF.call fh18 rfl
            obtain ⟨v20, ev20⟩ : ∃ z : Int32, z = v2 + 1 := ⟨_, rfl⟩
            have jv20 : v20.toInt = v2.toInt + 1 := xi_add ev20 rfl (by decide) (by omega) (by omega)
            refine lv_iinc (v := v20) (lv' := [(3, .int v20), (0, .ref a0), (1, .int i), (2, .int u)]) hx hb dX12_givers_66 hl (k := 3) rfl (by rw [ev20]; rfl) (by decide) rfl (fun ls hl => ?_)
            refine lv_goto (tgt := 13) hx hb dX12_givers_69 (by decide) ?_
            exact ih13 I19 _ _ _ v20 g hI hF (lv_sub hl [1, 2, 3, 0] rfl) (by omega) (by omega)
          · have ic14 := (xi_eq c14 rfl (by decide) : rh13.toInt = 0)
            refine lv_goto (tgt := 66) hx hb dX12_givers_48 (by decide) ?_
            obtain ⟨v21, ev21⟩ : ∃ z : Int32, z = v2 + 1 := ⟨_, rfl⟩
            have jv21 : v21.toInt = v2.toInt + 1 := xi_add ev21 rfl (by decide) (by omega) (by omega)
            refine lv_iinc (v := v21) (lv' := [(3, .int v21), (0, .ref a0), (1, .int i), (2, .int u)]) hx hb dX12_givers_66 hl (k := 3) rfl (by rw [ev21]; rfl) (by decide) rfl (fun ls hl => ?_)
            refine lv_goto (tgt := 13) hx hb dX12_givers_69 (by decide) ?_
            exact ih13 I3 _ _ _ v21 g hI hF (lv_sub hl [1, 2, 3, 0] rfl) (by omega) (by omega)
  exact loop13_0 _ I0 _ _ _ (0) g hI hF (lv_sub hl [1, 2, 3, 0] rfl) ⟨by decide, by decide⟩ (show (60 - (0 : Int)) < (((60 - (0 : Int)).toNat + 1 : Nat) : Int) by omega)
set_option maxHeartbeats 4000000 in
set_option maxRecDepth 100000 in
theorem tX12_givers3 (l : Launch) (E : tE) (X : tX) (A : Nat → Prop) (z : tZ) (I0 : tI) (L0 : tL) (a0 : Nat) (t_a0 : z.ty a0 = 13) (i : Int32) (i_t : Int) (h_i : i.toInt = i_t) (b_i : 0 ≤ i_t ∧ i_t ≤ 0) (u : Int32) (u_t : Int) (h_u : u.toInt = u_t) (b_u : 2 ≤ u_t ∧ u_t ≤ 3) (hi : i_t = u_t - 3) : Met l yX12_givers wsX12_givers ({ frames := 10, cells := 0, slots := 0, locals := 640 }) (va_Pc [.ref a0, .int i, .int u] (h_P E X A z I0 L0)) (va_Qv (fun (I1 : tI) => h_I z I1 ∧ h_F [(13, 44), (13, 45), (1339, 999), (1340, 999), (1343, 999)] z I0 I1 ∧ True) (fun (I1 : tI) t => h_B E A z I1 L0 t) A) 0 0 A := by
  refine Met.ofW (cc := cX12_givers) (maxL := 4) (ret := none) (by decide) rfl ?_
  intro pr_ ev_ s m args below meth cd_ s₁ B hml hv
  obtain ⟨rfl, hE, hk, hX, hA, hK, hI, hR, hB0⟩ := hv
  have g : h_G h_so h_fk E A z I0 L0 s s.heap s.heap [] := ⟨hK, va_S.rf, hB0⟩
  have hF : h_F [(13, 44), (13, 45), (1339, 999), (1340, 999), (1343, 999)] z I0 I0 := h_F.rf
  have hx := B.exec
  have hb := B.bytes
  have hr := B.returns
  have hts := atoms_spec (ws := wsX12_givers) B.pre
  have hown : s.vm.findClass RX12 = some m.cls := findClass_of_methodNamed B.named
  have hlocks := B.notSynchronized
  have iX12 : ∀ w ∈ u_ws RX12 TX12 51, w ∈ wsX12_givers := by decide +kernel
  have hl := lv_entry ([.ref a0, .int i, .int u]) (n := 4) (Nat.le_of_ble_eq_true rfl)
  rw [lg_entry_eq]
  generalize (lg_sl ([.ref a0, .int i, .int u]) ++ List.replicate (4 - (lg_sl ([.ref a0, .int i, .int u])).length) Slot.unset).toArray = ls at hl ⊢
  have hl : lv_has ls 4 [(0, .ref a0), (1, .int i), (2, .int u)] := hl
  refine lv_iload_n hx hb dX12_givers_0 rfl (lv_at hl 1 rfl) ?_
  refine lv_iload_n hx hb dX12_givers_1 rfl (lv_at hl 2 rfl) ?_
  refine lv_icmp_ne (tgt := 11) hx hb dX12_givers_2 (by decide) (fun c1 => ?_) (fun h => absurd (xi_eq h h_i h_u : i_t = u_t) (by omega))
  have ic1 := (xi_ne c1 h_i h_u : i_t ≠ u_t)
  refine lv_iconst (v := 0) hx hb dX12_givers_11 (by decide) ?_
  refine lv_istore_n (lv' := [(3, .int 0), (0, .ref a0), (1, .int i), (2, .int u)]) hx hb dX12_givers_12 rfl hl (by decide) rfl (fun ls hl => ?_)
  have loop13_0 : ∀ (n : Nat) (I3 : tI) (H : Heap) (locs : List Loc) (ls : Array Slot) (v2 : Int32), h_G h_so h_fk E A z I3 L0 s s.heap H locs → h_I z I3 → h_F [(13, 44), (13, 45), (1339, 999), (1340, 999), (1343, 999)] z I0 I3 → lv_has ls 4 [(0, .ref a0), (1, .int i), (2, .int u), (3, .int v2)] → (0 ≤ v2.toInt ∧ v2.toInt ≤ 60) → (60 - v2.toInt) < (n : Int) → W pr_ l ev_ (headSpec wsX12_givers ({ frames := 10, cells := 0, slots := 0, locals := 640 })).room s m ([.ref a0, .int i, .int u] : List Value).toArray below meth cd_ H locs 0 0 (MQ below (va_Qv (fun (I1 : tI) => h_I z I1 ∧ h_F [(13, 44), (13, 45), (1339, 999), (1340, 999), (1343, 999)] z I0 I1 ∧ True) (fun (I1 : tI) t => h_B E A z I1 L0 t) A) ([.ref a0, .int i, .int u] : List Value).toArray s 0 0 A) (F0 m 13 ls []) := by
    intro n
    induction n with
    | zero => intro I3 H locs ls v2 g hI hF hl jv2 hn; exact absurd hn (by omega)
    | succ n ih13 =>
      intro I3 H locs ls v2 g hI hF hl jv2 hn
      refine lv_iload_n hx hb dX12_givers_13 rfl (lv_at hl 3 rfl) ?_
      refine lv_aload_n hx hb dX12_givers_14 rfl (lv_at hl 0 rfl) ?_
      refine h_get (v := .int (I3 a0 13)) hx hb hts iX12 hown g t_a0 (by decide) so_13 rfl 13 (by decide) (hts (.fieldLink RX12 202 "CapLeagueModel" "players" "I") (by decide +kernel)) rfl dX12_givers_15 rfl ?_
      refine lv_topi (fun v4 ev4 => ?_)
      have jv4 := hI.rd a0 13 t_a0 ev4 (rfl : h_bd 13 13 = (0, 60))
      refine lv_icmp_ge (tgt := 72) hx hb dX12_givers_18 (by decide) (fun c5 => ?_) (fun c5 => ?_)
      · have ic5 := (xi_le c5 rfl rfl : v4.toInt ≤ v2.toInt)
        have hS := g.2.1
        exact W.vret hx hb hr (fun t ht hW => ⟨⟨I3, rfl, ⟨hI, hF, trivial⟩, h_ret g ht⟩, hS.F ht⟩) hS.2.2 dX12_givers_72
      · have ic5 := (xi_nle c5 rfl rfl : v2.toInt < v4.toInt)
        refine lv_aload_n hx hb dX12_givers_21 rfl (lv_at hl 0 rfl) ?_
        obtain ⟨b6, rb6, tb6⟩ := hR.at a0 14 t_a0 (rfl : h_rs 13 14 = some (1314, false)) (by decide)
        refine h_get (v := .ref b6) hx hb hts iX12 hown g t_a0 (by decide) so_13 rfl 14 (by decide) (hts (.fieldLink RX12 25 "CapLeagueModel" "clubOf" "[I") (by decide +kernel)) rfl dX12_givers_22 (by show va_rf (z.R a0 14) = _; rw [rb6]; rfl) ?_
        refine lv_iload_n hx hb dX12_givers_25 rfl (lv_at hl 3 rfl) ?_
        refine h_ald hx hb g tb6 (by decide) so_1314 (xi_in (by omega) (by omega)) dX12_givers_26 ?_
        refine lv_topi (fun v7 ev7 => ?_)
        have jv7 := hI.rd b6 v2.toNatClampNeg tb6 ev7 (rfl : h_bd 1314 _ = ((-1), 7))
        refine lv_aload_n hx hb dX12_givers_27 rfl (lv_at hl 0 rfl) ?_
        obtain ⟨b8, rb8, tb8⟩ := hR.at a0 42 t_a0 (rfl : h_rs 13 42 = some (1342, false)) (by decide)
        refine h_get (v := .ref b8) hx hb hts iX12 hown g t_a0 (by decide) so_13 rfl 42 (by decide) (hts (.fieldLink RX12 97 "CapLeagueModel" "triedClub" "[I") (by decide +kernel)) rfl dX12_givers_28 (by show va_rf (z.R a0 42) = _; rw [rb8]; rfl) ?_
        refine lv_iload_n hx hb dX12_givers_31 rfl (lv_at hl 1 rfl) ?_
        refine h_ald hx hb g tb8 (by decide) so_1342 (xi_in (by rw [h_i]; omega) (by rw [h_i]; omega)) dX12_givers_32 ?_
        refine lv_topi (fun v9 ev9 => ?_)
        have jv9 := hI.rd b8 i.toNatClampNeg tb8 ev9 (rfl : h_bd 1342 _ = (0, 7))
        refine lv_icmp_ne (tgt := 66) hx hb dX12_givers_33 (by decide) (fun c10 => ?_) (fun c10 => ?_)
        · have ic10 := (xi_ne c10 rfl rfl : v7.toInt ≠ v9.toInt)
          obtain ⟨v11, ev11⟩ : ∃ z : Int32, z = v2 + 1 := ⟨_, rfl⟩
          have jv11 : v11.toInt = v2.toInt + 1 := xi_add ev11 rfl (by decide) (by omega) (by omega)
          refine lv_iinc (v := v11) (lv' := [(3, .int v11), (0, .ref a0), (1, .int i), (2, .int u)]) hx hb dX12_givers_66 hl (k := 3) rfl (by rw [ev11]; rfl) (by decide) rfl (fun ls hl => ?_)
          refine lv_goto (tgt := 13) hx hb dX12_givers_69 (by decide) ?_
          exact ih13 I3 _ _ _ v11 g hI hF (lv_sub hl [1, 2, 3, 0] rfl) (by omega) (by omega)
        · have ic10 := (xi_eq c10 rfl rfl : v7.toInt = v9.toInt)
          refine lv_aload_n hx hb dX12_givers_36 rfl (lv_at hl 0 rfl) ?_
          refine lv_iload_n hx hb dX12_givers_37 rfl (lv_at hl 3 rfl) ?_
          refine lv_aload_n hx hb dX12_givers_38 rfl (lv_at hl 0 rfl) ?_
          refine h_get (v := .int (I3 a0 12)) hx hb hts iX12 hown g t_a0 (by decide) so_13 rfl 12 (by decide) (hts (.fieldLink RX12 187 "CapLeagueModel" "clock" "I") (by decide +kernel)) rfl dX12_givers_39 rfl ?_
          refine lv_topi (fun v12 ev12 => ?_)
          have jv12 := hI.rd a0 12 t_a0 ev12 (rfl : h_bd 13 12 = (0, 9))
          refine vp_callSi (W.runV (As := [.int v2, .int v12]) (rest := []) ⟨hx, hb, hml, hown, hts⟩ (tX12_isUnder l E X A z I3 L0 a0 t_a0 v2 (v2.toInt) rfl (by omega) v12 (v12.toInt) rfl) (cwV 2 hts gX12_givers_X12_isUnder rfl rfl rfl (by decide +kernel) ⟨Nat.le_of_ble_eq_true rfl, Nat.le_of_ble_eq_true rfl⟩) ⟨h_blind _ _ _ _ _ _ _, h_recv g t_a0 (by decide) so_13 (q := (RX12, TX12, 51)) rfl, h_pre _ hE hk hX hA hI hR g⟩ rfl rfl hl.1 rfl (lv_room (Nat.le_of_ble_eq_true rfl)) dX12_givers_42 ⟨Nat.le_of_ble_eq_true rfl, Nat.le_of_ble_eq_true rfl⟩) (fun rh13 h13 => ?_)
          refine lv_if_ne (tgt := 51) hx hb dX12_givers_45 (by decide) (fun c14 => ?_) (fun c14 => ?_)
          · have ic14 := (xi_ne c14 rfl (by decide) : rh13.toInt ≠ 0)
            refine lv_aload_n hx hb dX12_givers_51 rfl (lv_at hl 0 rfl) ?_
            obtain ⟨b15, rb15, tb15⟩ := hR.at a0 43 t_a0 (rfl : h_rs 13 43 = some (1343, false)) (by decide)
            refine h_get (v := .ref b15) hx hb hts iX12 hown g t_a0 (by decide) so_13 rfl 43 (by decide) (hts (.fieldLink RX12 100 "CapLeagueModel" "triedGives" "[I") (by decide +kernel)) rfl dX12_givers_52 (by show va_rf (z.R a0 43) = _; rw [rb15]; rfl) ?_
            refine lv_iload_n hx hb dX12_givers_55 rfl (lv_at hl 1 rfl) ?_
            refine lv_iload_n hx hb dX12_givers_56 rfl (lv_at hl 3 rfl) ?_
            refine h_ast hx hb g tb15 (by decide) so_1343 (xi_in (by rw [h_i]; omega) (by rw [h_i]; omega)) dX12_givers_57 (fun I16 H locs eI16 g => ?_)
            have hI := hI.wr eI16 tb15 (rfl : h_bd 1343 _ = (0, 59)) (by omega) (by omega)
            have hF := hF.wr eI16 tb15 rfl
            refine lv_aload_n hx hb dX12_givers_58 rfl (lv_at hl 0 rfl) ?_
            refine lv_iload_n hx hb dX12_givers_59 rfl (lv_at hl 1 rfl) ?_
            refine lv_iconst (v := 1) hx hb dX12_givers_60 (by decide) ?_
            refine lv_iadd hx hb dX12_givers_61 ?_
            refine lv_topi (fun v17 ev17 => ?_)
            have jv17 : v17.toInt = i_t + 1 := xi_add ev17 h_i (by decide) (by omega) (by omega)
            refine lv_iload_n hx hb dX12_givers_62 rfl (lv_at hl 2 rfl) ?_
            refine va_callv (va_runV (As := [.int v17, .int u]) (rest := []) ⟨hx, hb, hml, hown, hts⟩ (tX12_givers2 l E X A z I16 L0 a0 t_a0 v17 (v17.toInt) rfl (by omega) u (u_t) h_u (by omega) (by omega)) (cwV 2 hts gX12_givers_X12_givers rfl rfl rfl (by decide +kernel) ⟨Nat.le_of_ble_eq_true rfl, Nat.le_of_ble_eq_true rfl⟩) ⟨h_blind _ _ _ _ _ _ _, h_recv g t_a0 (by decide) so_13 (q := (RX12, TX12, 51)) rfl, h_pre _ hE hk hX hA hI hR g⟩ rfl rfl hl.1 rfl (lv_room (Nat.le_of_ble_eq_true rfl)) dX12_givers_63 ⟨Nat.le_of_ble_eq_true rfl, Nat.le_of_ble_eq_true rfl⟩) g.2.1 (fun q _ h => h) (fun q h => h) (fun I19 t H1 locs ht hvm h18 hB hz1 hk1 hS => ?_)
            obtain ⟨hI, fh18, h18⟩ := h18
            replace g := h_after g hB ht hS
            generalize H1 = H at g
            clear hB hk1 hz1 ht hvm hS
            have hF := hF.call fh18 rfl
            obtain ⟨v20, ev20⟩ : ∃ z : Int32, z = v2 + 1 := ⟨_, rfl⟩
            have jv20 : v20.toInt = v2.toInt + 1 := xi_add ev20 rfl (by decide) (by omega) (by omega)
            refine lv_iinc (v := v20) (lv' := [(3, .int v20), (0, .ref a0), (1, .int i), (2, .int u)]) hx hb dX12_givers_66 hl (k := 3) rfl (by rw [ev20]; rfl) (by decide) rfl (fun ls hl => ?_)
            refine lv_goto (tgt := 13) hx hb dX12_givers_69 (by decide) ?_
            exact ih13 I19 _ _ _ v20 g hI hF (lv_sub hl [1, 2, 3, 0] rfl) (by omega) (by omega)
          · have ic14 := (xi_eq c14 rfl (by decide) : rh13.toInt = 0)
            refine lv_goto (tgt := 66) hx hb dX12_givers_48 (by decide) ?_
            obtain ⟨v21, ev21⟩ : ∃ z : Int32, z = v2 + 1 := ⟨_, rfl⟩
            have jv21 : v21.toInt = v2.toInt + 1 := xi_add ev21 rfl (by decide) (by omega) (by omega)
            refine lv_iinc (v := v21) (lv' := [(3, .int v21), (0, .ref a0), (1, .int i), (2, .int u)]) hx hb dX12_givers_66 hl (k := 3) rfl (by rw [ev21]; rfl) (by decide) rfl (fun ls hl => ?_)
            refine lv_goto (tgt := 13) hx hb dX12_givers_69 (by decide) ?_
            exact ih13 I3 _ _ _ v21 g hI hF (lv_sub hl [1, 2, 3, 0] rfl) (by omega) (by omega)
  exact loop13_0 _ I0 _ _ _ (0) g hI hF (lv_sub hl [1, 2, 3, 0] rfl) ⟨by decide, by decide⟩ (show (60 - (0 : Int)) < (((60 - (0 : Int)).toNat + 1 : Nat) : Int) by omega)
set_option maxHeartbeats 4000000 in
set_option maxRecDepth 100000 in
theorem tX12_ring (l : Launch) (E : tE) (X : tX) (A : Nat → Prop) (z : tZ) (I0 : tI) (L0 : tL) (a0 : Nat) (t_a0 : z.ty a0 = 13) : Met l yX12_ring wsX12_ring ({ frames := 11, cells := 0, slots := 0, locals := 704 }) (va_Pc [.ref a0] (h_P E X A z I0 L0)) (va_Qi (fun r (I1 : tI) => h_I z I1 ∧ h_F [(13, 44), (13, 45), (1339, 999), (1340, 999), (1343, 999), (1342, 999), (13, 41), (1346, 999), (1347, 999)] z I0 I1 ∧ True) (fun (I1 : tI) t => h_B E A z I1 L0 t) A) 0 0 A := by
  refine Met.ofW (cc := cX12_ring) (maxL := 4) (ret := (some .int)) (by decide) rfl ?_
  intro pr_ ev_ s m args below meth cd_ s₁ B hml hv
  obtain ⟨rfl, hE, hk, hX, hA, hK, hI, hR, hB0⟩ := hv
  have g : h_G h_so h_fk E A z I0 L0 s s.heap s.heap [] := ⟨hK, va_S.rf, hB0⟩
  have hF : h_F [(13, 44), (13, 45), (1339, 999), (1340, 999), (1343, 999), (1342, 999), (13, 41), (1346, 999), (1347, 999)] z I0 I0 := h_F.rf
  have hx := B.exec
  have hb := B.bytes
  have hr := B.returns
  have hts := atoms_spec (ws := wsX12_ring) B.pre
  have hown : s.vm.findClass RX12 = some m.cls := findClass_of_methodNamed B.named
  have hlocks := B.notSynchronized
  have iX12 : ∀ w ∈ u_ws RX12 TX12 51, w ∈ wsX12_ring := by decide +kernel
  have hl := lv_entry ([.ref a0]) (n := 4) (Nat.le_of_ble_eq_true rfl)
  rw [lg_entry_eq]
  generalize (lg_sl ([.ref a0]) ++ List.replicate (4 - (lg_sl ([.ref a0])).length) Slot.unset).toArray = ls at hl ⊢
  have hl : lv_has ls 4 [(0, .ref a0)] := hl
  refine lv_aload_n hx hb dX12_ring_0 rfl (lv_at hl 0 rfl) ?_
  refine lv_iconst (v := 0) hx hb dX12_ring_1 (by decide) ?_
  refine h_putI (ty := .int) (v := 0) hx hb hts iX12 tyX12 tyX12_ok nmX12 hown g t_a0 (by decide) so_13 rfl 44 (by decide) rfl (hts (.fieldLink RX12 280 "CapLeagueModel" "bestSum" "I") (by decide +kernel)) rfl rfl (by decide +kernel) rfl rfl dX12_ring_2 (fun I1 H locs eI1 g => ?_)
  have hI := hI.wr eI1 t_a0 (rfl : h_bd 13 44 = ((-2147483648), 2147483647)) (by decide) (by decide)
  have hF := hF.wr eI1 t_a0 rfl
  refine lv_aload_n hx hb dX12_ring_5 rfl (lv_at hl 0 rfl) ?_
  refine lv_iconst (v := 0) hx hb dX12_ring_6 (by decide) ?_
  refine h_putI (ty := .int) (v := 0) hx hb hts iX12 tyX12 tyX12_ok nmX12 hown g t_a0 (by decide) so_13 rfl 45 (by decide) rfl (hts (.fieldLink RX12 286 "CapLeagueModel" "bestMany" "I") (by decide +kernel)) rfl rfl (by decide +kernel) rfl rfl dX12_ring_7 (fun I2 H locs eI2 g => ?_)
  have hI := hI.wr eI2 t_a0 (rfl : h_bd 13 45 = (0, 3)) (by decide) (by decide)
  have hF := hF.wr eI2 t_a0 rfl
  refine lv_iconst (v := 0) hx hb dX12_ring_10 (by decide) ?_
  refine lv_istore_n (lv' := [(1, .int 0), (0, .ref a0)]) hx hb dX12_ring_11 rfl hl (by decide) rfl (fun ls hl => ?_)
  have loop12_0 : ∀ (n : Nat) (I4 : tI) (H : Heap) (locs : List Loc) (ls : Array Slot) (v3 : Int32), h_G h_so h_fk E A z I4 L0 s s.heap H locs → h_I z I4 → h_F [(13, 44), (13, 45), (1339, 999), (1340, 999), (1343, 999), (1342, 999), (13, 41), (1346, 999), (1347, 999)] z I0 I4 → lv_has ls 4 [(0, .ref a0), (1, .int v3)] → (0 ≤ v3.toInt ∧ v3.toInt ≤ 8) → (8 - v3.toInt) < (n : Int) → W pr_ l ev_ (headSpec wsX12_ring ({ frames := 11, cells := 0, slots := 0, locals := 704 })).room s m ([.ref a0] : List Value).toArray below meth cd_ H locs 0 0 (MQ below (va_Qi (fun r (I1 : tI) => h_I z I1 ∧ h_F [(13, 44), (13, 45), (1339, 999), (1340, 999), (1343, 999), (1342, 999), (13, 41), (1346, 999), (1347, 999)] z I0 I1 ∧ True) (fun (I1 : tI) t => h_B E A z I1 L0 t) A) ([.ref a0] : List Value).toArray s 0 0 A) (F0 m 12 ls []) := by
    intro n
    induction n with
    | zero => intro I4 H locs ls v3 g hI hF hl jv3 hn; exact absurd hn (by omega)
    | succ n ih12 =>
      intro I4 H locs ls v3 g hI hF hl jv3 hn
      refine lv_iload_n hx hb dX12_ring_12 rfl (lv_at hl 1 rfl) ?_
      refine lv_bipush (v := 8) hx hb dX12_ring_13 (by decide) ?_
      refine lv_icmp_ge (tgt := 60) hx hb dX12_ring_15 (by decide) (fun c5 => ?_) (fun c5 => ?_)
      · have ic5 := (xi_le c5 (by decide) rfl : 8 ≤ v3.toInt)
        refine lv_iconst (v := 0) hx hb dX12_ring_60 (by decide) ?_
        refine lv_istore_n (lv' := [(1, .int 0), (0, .ref a0)]) hx hb dX12_ring_61 rfl hl (by decide) rfl (fun ls hl => ?_)
        have loop62_1 : ∀ (n : Nat) (I7 : tI) (H : Heap) (locs : List Loc) (ls : Array Slot) (v6 : Int32), h_G h_so h_fk E A z I7 L0 s s.heap H locs → h_I z I7 → h_F [(13, 44), (13, 45), (1339, 999), (1340, 999), (1343, 999), (1342, 999), (13, 41), (1346, 999), (1347, 999)] z I0 I7 → lv_has ls 4 [(0, .ref a0), (1, .int v6)] → (0 ≤ v6.toInt ∧ v6.toInt ≤ 8) → (8 - v6.toInt) < (n : Int) → W pr_ l ev_ (headSpec wsX12_ring ({ frames := 11, cells := 0, slots := 0, locals := 704 })).room s m ([.ref a0] : List Value).toArray below meth cd_ H locs 0 0 (MQ below (va_Qi (fun r (I1 : tI) => h_I z I1 ∧ h_F [(13, 44), (13, 45), (1339, 999), (1340, 999), (1343, 999), (1342, 999), (13, 41), (1346, 999), (1347, 999)] z I0 I1 ∧ True) (fun (I1 : tI) t => h_B E A z I1 L0 t) A) ([.ref a0] : List Value).toArray s 0 0 A) (F0 m 62 ls []) := by
          intro n
          induction n with
          | zero => intro I7 H locs ls v6 g hI hF hl jv6 hn; exact absurd hn (by omega)
          | succ n ih62 =>
            intro I7 H locs ls v6 g hI hF hl jv6 hn
            refine lv_iload_n hx hb dX12_ring_62 rfl (lv_at hl 1 rfl) ?_
            refine lv_bipush (v := 8) hx hb dX12_ring_63 (by decide) ?_
            refine lv_icmp_ge (tgt := 141) hx hb dX12_ring_65 (by decide) (fun c8 => ?_) (fun c8 => ?_)
            · have ic8 := (xi_le c8 (by decide) rfl : 8 ≤ v6.toInt)
              refine lv_aload_n hx hb dX12_ring_141 rfl (lv_at hl 0 rfl) ?_
              refine h_get (v := .int (I7 a0 45)) hx hb hts iX12 hown g t_a0 (by decide) so_13 rfl 45 (by decide) (hts (.fieldLink RX12 286 "CapLeagueModel" "bestMany" "I") (by decide +kernel)) rfl dX12_ring_142 rfl ?_
              refine lv_topi (fun v9 ev9 => ?_)
              have jv9 := hI.rd a0 45 t_a0 ev9 (rfl : h_bd 13 45 = (0, 3))
              refine lv_if_ne (tgt := 150) hx hb dX12_ring_145 (by decide) (fun c10 => ?_) (fun c10 => ?_)
              · have ic10 := (xi_ne c10 rfl (by decide) : v9.toInt ≠ 0)
                refine lv_aload_n hx hb dX12_ring_150 rfl (lv_at hl 0 rfl) ?_
                refine lv_aload_n hx hb dX12_ring_151 rfl (lv_at hl 0 rfl) ?_
                refine h_get (v := .int v9) hx hb hts iX12 hown g t_a0 (by decide) so_13 rfl 45 (by decide) (hts (.fieldLink RX12 286 "CapLeagueModel" "bestMany" "I") (by decide +kernel)) rfl dX12_ring_152 (congrArg Value.int (ev9.symm)) ?_
                refine h_putI (ty := .int) (v := v9) hx hb hts iX12 tyX12 tyX12_ok nmX12 hown g t_a0 (by decide) so_13 rfl 41 (by decide) rfl (hts (.fieldLink RX12 297 "CapLeagueModel" "ringMany" "I") (by decide +kernel)) rfl rfl (by decide +kernel) rfl rfl dX12_ring_155 (fun I11 H locs eI11 g => ?_)
                have hI := hI.wr eI11 t_a0 (rfl : h_bd 13 41 = (0, 3)) (by omega) (by omega)
                have hF := hF.wr eI11 t_a0 rfl
                refine lv_iconst (v := 0) hx hb dX12_ring_158 (by decide) ?_
                refine lv_istore_n (lv' := [(1, .int 0), (0, .ref a0)]) hx hb dX12_ring_159 rfl hl (by decide) rfl (fun ls hl => ?_)
                have loop160_2 : ∀ (n : Nat) (I13 : tI) (H : Heap) (locs : List Loc) (ls : Array Slot) (v12 : Int32), h_G h_so h_fk E A z I13 L0 s s.heap H locs → h_I z I13 → h_F [(13, 44), (13, 45), (1339, 999), (1340, 999), (1343, 999), (1342, 999), (13, 41), (1346, 999), (1347, 999)] z I0 I13 → lv_has ls 4 [(0, .ref a0), (1, .int v12)] → (0 ≤ v12.toInt ∧ v12.toInt ≤ 3) → (3 - v12.toInt) < (n : Int) → W pr_ l ev_ (headSpec wsX12_ring ({ frames := 11, cells := 0, slots := 0, locals := 704 })).room s m ([.ref a0] : List Value).toArray below meth cd_ H locs 0 0 (MQ below (va_Qi (fun r (I1 : tI) => h_I z I1 ∧ h_F [(13, 44), (13, 45), (1339, 999), (1340, 999), (1343, 999), (1342, 999), (13, 41), (1346, 999), (1347, 999)] z I0 I1 ∧ True) (fun (I1 : tI) t => h_B E A z I1 L0 t) A) ([.ref a0] : List Value).toArray s 0 0 A) (F0 m 160 ls []) := by
                  intro n
                  induction n with
                  | zero => intro I13 H locs ls v12 g hI hF hl jv12 hn; exact absurd hn (by omega)
                  | succ n ih160 =>
                    intro I13 H locs ls v12 g hI hF hl jv12 hn
                    refine lv_iload_n hx hb dX12_ring_160 rfl (lv_at hl 1 rfl) ?_
                    refine lv_iconst (v := 3) hx hb dX12_ring_161 (by decide) ?_
                    refine lv_icmp_ge (tgt := 195) hx hb dX12_ring_162 (by decide) (fun c14 => ?_) (fun c14 => ?_)
                    · have ic14 := (xi_le c14 (by decide) rfl : 3 ≤ v12.toInt)
                      refine lv_aload_n hx hb dX12_ring_195 rfl (lv_at hl 0 rfl) ?_
                      refine h_get (v := .int (I13 a0 44)) hx hb hts iX12 hown g t_a0 (by decide) so_13 rfl 44 (by decide) (hts (.fieldLink RX12 280 "CapLeagueModel" "bestSum" "I") (by decide +kernel)) rfl dX12_ring_196 rfl ?_
                      refine lv_topi (fun v15 ev15 => ?_)
                      have jv15 := hI.rd a0 44 t_a0 ev15 (rfl : h_bd 13 44 = ((-2147483648), 2147483647))
                      have hS := g.2.1
                      exact W.iret (v := v15) hx hb hr (fun t ht hW => ⟨⟨v15, I13, rfl, ⟨hI, hF, trivial⟩, h_ret g ht⟩, hS.F ht⟩) hS.2.2 dX12_ring_199
                    · have ic14 := (xi_nle c14 (by decide) rfl : v12.toInt < 3)
                      refine lv_aload_n hx hb dX12_ring_165 rfl (lv_at hl 0 rfl) ?_
                      obtain ⟨b16, rb16, tb16⟩ := hR.at a0 46 t_a0 (rfl : h_rs 13 46 = some (1346, false)) (by decide)
                      refine h_get (v := .ref b16) hx hb hts iX12 hown g t_a0 (by decide) so_13 rfl 46 (by decide) (hts (.fieldLink RX12 103 "CapLeagueModel" "toldClub" "[I") (by decide +kernel)) rfl dX12_ring_166 (by show va_rf (z.R a0 46) = _; rw [rb16]; rfl) ?_
                      refine lv_iload_n hx hb dX12_ring_169 rfl (lv_at hl 1 rfl) ?_
                      refine lv_aload_n hx hb dX12_ring_170 rfl (lv_at hl 0 rfl) ?_
                      obtain ⟨b17, rb17, tb17⟩ := hR.at a0 39 t_a0 (rfl : h_rs 13 39 = some (1339, false)) (by decide)
                      refine h_get (v := .ref b17) hx hb hts iX12 hown g t_a0 (by decide) so_13 rfl 39 (by decide) (hts (.fieldLink RX12 91 "CapLeagueModel" "ringClub" "[I") (by decide +kernel)) rfl dX12_ring_171 (by show va_rf (z.R a0 39) = _; rw [rb17]; rfl) ?_
                      refine lv_iload_n hx hb dX12_ring_174 rfl (lv_at hl 1 rfl) ?_
                      refine h_ald hx hb g tb17 (by decide) so_1339 (xi_in (by omega) (by omega)) dX12_ring_175 ?_
                      refine lv_topi (fun v18 ev18 => ?_)
                      have jv18 := hI.rd b17 v12.toNatClampNeg tb17 ev18 (rfl : h_bd 1339 _ = ((-2147483648), 2147483647))
                      refine h_ast hx hb g tb16 (by decide) so_1346 (xi_in (by omega) (by omega)) dX12_ring_176 (fun I19 H locs eI19 g => ?_)
                      have hI := hI.wr eI19 tb16 (rfl : h_bd 1346 _ = ((-2147483648), 2147483647)) (xi_lo _) (Int.le_of_lt_add_one (xi_hi _))
                      have hF := hF.wr eI19 tb16 rfl
                      refine lv_aload_n hx hb dX12_ring_177 rfl (lv_at hl 0 rfl) ?_
                      obtain ⟨b20, rb20, tb20⟩ := hR.at a0 47 t_a0 (rfl : h_rs 13 47 = some (1347, false)) (by decide)
                      refine h_get (v := .ref b20) hx hb hts iX12 hown g t_a0 (by decide) so_13 rfl 47 (by decide) (hts (.fieldLink RX12 106 "CapLeagueModel" "toldGives" "[I") (by decide +kernel)) rfl dX12_ring_178 (by show va_rf (z.R a0 47) = _; rw [rb20]; rfl) ?_
                      refine lv_iload_n hx hb dX12_ring_181 rfl (lv_at hl 1 rfl) ?_
                      refine lv_aload_n hx hb dX12_ring_182 rfl (lv_at hl 0 rfl) ?_
                      obtain ⟨b21, rb21, tb21⟩ := hR.at a0 40 t_a0 (rfl : h_rs 13 40 = some (1340, false)) (by decide)
                      refine h_get (v := .ref b21) hx hb hts iX12 hown g t_a0 (by decide) so_13 rfl 40 (by decide) (hts (.fieldLink RX12 94 "CapLeagueModel" "ringGives" "[I") (by decide +kernel)) rfl dX12_ring_183 (by show va_rf (z.R a0 40) = _; rw [rb21]; rfl) ?_
                      refine lv_iload_n hx hb dX12_ring_186 rfl (lv_at hl 1 rfl) ?_
                      refine h_ald hx hb g tb21 (by decide) so_1340 (xi_in (by omega) (by omega)) dX12_ring_187 ?_
                      refine lv_topi (fun v22 ev22 => ?_)
                      have jv22 := hI.rd b21 v12.toNatClampNeg tb21 ev22 (rfl : h_bd 1340 _ = ((-2147483648), 2147483647))
                      refine h_ast hx hb g tb20 (by decide) so_1347 (xi_in (by omega) (by omega)) dX12_ring_188 (fun I23 H locs eI23 g => ?_)
                      have hI := hI.wr eI23 tb20 (rfl : h_bd 1347 _ = ((-2147483648), 2147483647)) (xi_lo _) (Int.le_of_lt_add_one (xi_hi _))
                      have hF := hF.wr eI23 tb20 rfl
                      obtain ⟨v24, ev24⟩ : ∃ z : Int32, z = v12 + 1 := ⟨_, rfl⟩
                      have jv24 : v24.toInt = v12.toInt + 1 := xi_add ev24 rfl (by decide) (by omega) (by omega)
                      refine lv_iinc (v := v24) (lv' := [(1, .int v24), (0, .ref a0)]) hx hb dX12_ring_189 hl (k := 1) rfl (by rw [ev24]; rfl) (by decide) rfl (fun ls hl => ?_)
                      refine lv_goto (tgt := 160) hx hb dX12_ring_192 (by decide) ?_
                      exact ih160 I23 _ _ _ v24 g hI hF (lv_sub hl [1, 0] rfl) (by omega) (by omega)
                exact loop160_2 _ I11 _ _ _ (0) g hI hF (lv_sub hl [1, 0] rfl) ⟨by decide, by decide⟩ (show (3 - (0 : Int)) < (((3 - (0 : Int)).toNat + 1 : Nat) : Int) by omega)
              · have ic10 := (xi_eq c10 rfl (by decide) : v9.toInt = 0)
                refine lv_iconst (v := (-1)) hx hb dX12_ring_148 (by decide) ?_
                have hS := g.2.1
                exact W.iret (v := (-1)) hx hb hr (fun t ht hW => ⟨⟨(-1), I7, rfl, ⟨hI, hF, trivial⟩, h_ret g ht⟩, hS.F ht⟩) hS.2.2 dX12_ring_149
            · have ic8 := (xi_nle c8 (by decide) rfl : v6.toInt < 8)
              refine lv_iload_n hx hb dX12_ring_68 rfl (lv_at hl 1 rfl) ?_
              refine lv_iconst (v := 1) hx hb dX12_ring_69 (by decide) ?_
              refine lv_iadd hx hb dX12_ring_70 ?_
              refine lv_topi (fun v25 ev25 => ?_)
              have jv25 : v25.toInt = v6.toInt + 1 := xi_add ev25 rfl (by decide) (by omega) (by omega)
              refine lv_istore_n (lv' := [(2, .int v25), (0, .ref a0), (1, .int v6)]) hx hb dX12_ring_71 rfl hl (by decide) rfl (fun ls hl => ?_)
              have loop72_3 : ∀ (n : Nat) (I27 : tI) (H : Heap) (locs : List Loc) (ls : Array Slot) (v26 : Int32), h_G h_so h_fk E A z I27 L0 s s.heap H locs → h_I z I27 → h_F [(13, 44), (13, 45), (1339, 999), (1340, 999), (1343, 999), (1342, 999), (13, 41), (1346, 999), (1347, 999)] z I0 I27 → lv_has ls 4 [(0, .ref a0), (1, .int v6), (2, .int v26)] → (1 ≤ v26.toInt ∧ v26.toInt ≤ 8) → (8 - v26.toInt) < (n : Int) → W pr_ l ev_ (headSpec wsX12_ring ({ frames := 11, cells := 0, slots := 0, locals := 704 })).room s m ([.ref a0] : List Value).toArray below meth cd_ H locs 0 0 (MQ below (va_Qi (fun r (I1 : tI) => h_I z I1 ∧ h_F [(13, 44), (13, 45), (1339, 999), (1340, 999), (1343, 999), (1342, 999), (13, 41), (1346, 999), (1347, 999)] z I0 I1 ∧ True) (fun (I1 : tI) t => h_B E A z I1 L0 t) A) ([.ref a0] : List Value).toArray s 0 0 A) (F0 m 72 ls []) := by
                intro n
                induction n with
                | zero => intro I27 H locs ls v26 g hI hF hl jv26 hn; exact absurd hn (by omega)
                | succ n ih72 =>
                  intro I27 H locs ls v26 g hI hF hl jv26 hn
                  refine lv_iload_n hx hb dX12_ring_72 rfl (lv_at hl 2 rfl) ?_
                  refine lv_bipush (v := 8) hx hb dX12_ring_73 (by decide) ?_
                  refine lv_icmp_ge (tgt := 135) hx hb dX12_ring_75 (by decide) (fun c28 => ?_) (fun c28 => ?_)
                  · have ic28 := (xi_le c28 (by decide) rfl : 8 ≤ v26.toInt)
                    obtain ⟨v29, ev29⟩ : ∃ z : Int32, z = v6 + 1 := ⟨_, rfl⟩
                    have jv29 : v29.toInt = v6.toInt + 1 := xi_add ev29 rfl (by decide) (by omega) (by omega)
                    refine lv_iinc (v := v29) (lv' := [(1, .int v29), (0, .ref a0), (2, .int v26)]) hx hb dX12_ring_135 hl (k := 1) rfl (by rw [ev29]; rfl) (by decide) rfl (fun ls hl => ?_)
                    refine lv_goto (tgt := 62) hx hb dX12_ring_138 (by decide) ?_
                    exact ih62 I27 _ _ _ v29 g hI hF (lv_sub hl [1, 0] rfl) (by omega) (by omega)
                  · have ic28 := (xi_nle c28 (by decide) rfl : v26.toInt < 8)
                    refine lv_iload_n hx hb dX12_ring_78 rfl (lv_at hl 1 rfl) ?_
                    refine lv_iconst (v := 1) hx hb dX12_ring_79 (by decide) ?_
                    refine lv_iadd hx hb dX12_ring_80 ?_
                    refine xw_i (v := v25) ev25.symm ?_
                    refine lv_istore_n (lv' := [(3, .int v25), (0, .ref a0), (1, .int v6), (2, .int v26)]) hx hb dX12_ring_81 rfl hl (by decide) rfl (fun ls hl => ?_)
                    have loop82_4 : ∀ (n : Nat) (I31 : tI) (H : Heap) (locs : List Loc) (ls : Array Slot) (v30 : Int32), h_G h_so h_fk E A z I31 L0 s s.heap H locs → h_I z I31 → h_F [(13, 44), (13, 45), (1339, 999), (1340, 999), (1343, 999), (1342, 999), (13, 41), (1346, 999), (1347, 999)] z I0 I31 → lv_has ls 4 [(0, .ref a0), (1, .int v6), (2, .int v26), (3, .int v30)] → (1 ≤ v30.toInt ∧ v30.toInt ≤ 8) → (8 - v30.toInt) < (n : Int) → W pr_ l ev_ (headSpec wsX12_ring ({ frames := 11, cells := 0, slots := 0, locals := 704 })).room s m ([.ref a0] : List Value).toArray below meth cd_ H locs 0 0 (MQ below (va_Qi (fun r (I1 : tI) => h_I z I1 ∧ h_F [(13, 44), (13, 45), (1339, 999), (1340, 999), (1343, 999), (1342, 999), (13, 41), (1346, 999), (1347, 999)] z I0 I1 ∧ True) (fun (I1 : tI) t => h_B E A z I1 L0 t) A) ([.ref a0] : List Value).toArray s 0 0 A) (F0 m 82 ls []) := by
                      intro n
                      induction n with
                      | zero => intro I31 H locs ls v30 g hI hF hl jv30 hn; exact absurd hn (by omega)
                      | succ n ih82 =>
                        intro I31 H locs ls v30 g hI hF hl jv30 hn
                        refine lv_iload_n hx hb dX12_ring_82 rfl (lv_at hl 3 rfl) ?_
                        refine lv_bipush (v := 8) hx hb dX12_ring_83 (by decide) ?_
                        refine lv_icmp_ge (tgt := 129) hx hb dX12_ring_85 (by decide) (fun c32 => ?_) (fun c32 => ?_)
                        · have ic32 := (xi_le c32 (by decide) rfl : 8 ≤ v30.toInt)
                          obtain ⟨v33, ev33⟩ : ∃ z : Int32, z = v26 + 1 := ⟨_, rfl⟩
                          have jv33 : v33.toInt = v26.toInt + 1 := xi_add ev33 rfl (by decide) (by omega) (by omega)
                          refine lv_iinc (v := v33) (lv' := [(2, .int v33), (0, .ref a0), (1, .int v6), (3, .int v30)]) hx hb dX12_ring_129 hl (k := 2) rfl (by rw [ev33]; rfl) (by decide) rfl (fun ls hl => ?_)
                          refine lv_goto (tgt := 72) hx hb dX12_ring_132 (by decide) ?_
                          exact ih72 I31 _ _ _ v33 g hI hF (lv_sub hl [1, 2, 0] rfl) (by omega) (by omega)
                        · have ic32 := (xi_nle c32 (by decide) rfl : v30.toInt < 8)
                          refine lv_iload_n hx hb dX12_ring_88 rfl (lv_at hl 2 rfl) ?_
                          refine lv_iload_n hx hb dX12_ring_89 rfl (lv_at hl 3 rfl) ?_
                          refine lv_icmp_ne (tgt := 96) hx hb dX12_ring_90 (by decide) (fun c34 => ?_) (fun c34 => ?_)
                          · have ic34 := (xi_ne c34 rfl rfl : v26.toInt ≠ v30.toInt)
                            refine lv_aload_n hx hb dX12_ring_96 rfl (lv_at hl 0 rfl) ?_
                            obtain ⟨b35, rb35, tb35⟩ := hR.at a0 42 t_a0 (rfl : h_rs 13 42 = some (1342, false)) (by decide)
                            refine h_get (v := .ref b35) hx hb hts iX12 hown g t_a0 (by decide) so_13 rfl 42 (by decide) (hts (.fieldLink RX12 97 "CapLeagueModel" "triedClub" "[I") (by decide +kernel)) rfl dX12_ring_97 (by show va_rf (z.R a0 42) = _; rw [rb35]; rfl) ?_
                            refine lv_iconst (v := 0) hx hb dX12_ring_100 (by decide) ?_
                            refine lv_iload_n hx hb dX12_ring_101 rfl (lv_at hl 1 rfl) ?_
                            refine h_ast hx hb g tb35 (by decide) so_1342 (by unfold vp_in; decide) dX12_ring_102 (fun I36 H locs eI36 g => ?_)
                            have hI := hI.wr eI36 tb35 (rfl : h_bd 1342 _ = (0, 7)) (by omega) (by omega)
                            have hF := hF.wr eI36 tb35 rfl
                            refine lv_aload_n hx hb dX12_ring_103 rfl (lv_at hl 0 rfl) ?_
                            refine h_get (v := .ref b35) hx hb hts iX12 hown g t_a0 (by decide) so_13 rfl 42 (by decide) (hts (.fieldLink RX12 97 "CapLeagueModel" "triedClub" "[I") (by decide +kernel)) rfl dX12_ring_104 (by show va_rf (z.R a0 42) = _; rw [rb35]; rfl) ?_
                            refine lv_iconst (v := 1) hx hb dX12_ring_107 (by decide) ?_
                            refine lv_iload_n hx hb dX12_ring_108 rfl (lv_at hl 2 rfl) ?_
                            refine h_ast hx hb g tb35 (by decide) so_1342 (by unfold vp_in; decide) dX12_ring_109 (fun I37 H locs eI37 g => ?_)
                            have hI := hI.wr eI37 tb35 (rfl : h_bd 1342 _ = (0, 7)) (by omega) (by omega)
                            have hF := hF.wr eI37 tb35 rfl
                            refine lv_aload_n hx hb dX12_ring_110 rfl (lv_at hl 0 rfl) ?_
                            refine h_get (v := .ref b35) hx hb hts iX12 hown g t_a0 (by decide) so_13 rfl 42 (by decide) (hts (.fieldLink RX12 97 "CapLeagueModel" "triedClub" "[I") (by decide +kernel)) rfl dX12_ring_111 (by show va_rf (z.R a0 42) = _; rw [rb35]; rfl) ?_
                            refine lv_iconst (v := 2) hx hb dX12_ring_114 (by decide) ?_
                            refine lv_iload_n hx hb dX12_ring_115 rfl (lv_at hl 3 rfl) ?_
                            refine h_ast hx hb g tb35 (by decide) so_1342 (by unfold vp_in; decide) dX12_ring_116 (fun I38 H locs eI38 g => ?_)
                            have hI := hI.wr eI38 tb35 (rfl : h_bd 1342 _ = (0, 7)) (by omega) (by omega)
                            have hF := hF.wr eI38 tb35 rfl
                            refine lv_aload_n hx hb dX12_ring_117 rfl (lv_at hl 0 rfl) ?_
                            refine lv_iconst (v := 0) hx hb dX12_ring_118 (by decide) ?_
                            refine lv_iconst (v := 3) hx hb dX12_ring_119 (by decide) ?_
                            refine va_callv (va_runV (As := [.int 0, .int 3]) (rest := []) ⟨hx, hb, hml, hown, hts⟩ (tX12_givers3 l E X A z I38 L0 a0 t_a0 0 (0) (by decide) (by omega) 3 (3) (by decide) (by omega) (by omega)) (cwV 2 hts gX12_ring_X12_givers rfl rfl rfl (by decide +kernel) ⟨Nat.le_of_ble_eq_true rfl, Nat.le_of_ble_eq_true rfl⟩) ⟨h_blind _ _ _ _ _ _ _, h_recv g t_a0 (by decide) so_13 (q := (RX12, TX12, 51)) rfl, h_pre _ hE hk hX hA hI hR g⟩ rfl rfl hl.1 rfl (lv_room (Nat.le_of_ble_eq_true rfl)) dX12_ring_120 ⟨Nat.le_of_ble_eq_true rfl, Nat.le_of_ble_eq_true rfl⟩) g.2.1 (fun q _ h => h) (fun q h => h) (fun I40 t H1 locs ht hvm h39 hB hz1 hk1 hS => ?_)
                            obtain ⟨hI, fh39, h39⟩ := h39
                            replace g := h_after g hB ht hS
                            generalize H1 = H at g
                            clear hB hk1 hz1 ht hvm hS
                            have hF := hF.call fh39 rfl
                            obtain ⟨v41, ev41⟩ : ∃ z : Int32, z = v30 + 1 := ⟨_, rfl⟩
                            have jv41 : v41.toInt = v30.toInt + 1 := xi_add ev41 rfl (by decide) (by omega) (by omega)
                            refine lv_iinc (v := v41) (lv' := [(3, .int v41), (0, .ref a0), (1, .int v6), (2, .int v26)]) hx hb dX12_ring_123 hl (k := 3) rfl (by rw [ev41]; rfl) (by decide) rfl (fun ls hl => ?_)
                            refine lv_goto (tgt := 82) hx hb dX12_ring_126 (by decide) ?_
                            exact ih82 I40 _ _ _ v41 g hI hF (lv_sub hl [1, 2, 3, 0] rfl) (by omega) (by omega)
                          · have ic34 := (xi_eq c34 rfl rfl : v26.toInt = v30.toInt)
                            refine lv_goto (tgt := 123) hx hb dX12_ring_93 (by decide) ?_
                            obtain ⟨v42, ev42⟩ : ∃ z : Int32, z = v30 + 1 := ⟨_, rfl⟩
                            have jv42 : v42.toInt = v30.toInt + 1 := xi_add ev42 rfl (by decide) (by omega) (by omega)
                            refine lv_iinc (v := v42) (lv' := [(3, .int v42), (0, .ref a0), (1, .int v6), (2, .int v26)]) hx hb dX12_ring_123 hl (k := 3) rfl (by rw [ev42]; rfl) (by decide) rfl (fun ls hl => ?_)
                            refine lv_goto (tgt := 82) hx hb dX12_ring_126 (by decide) ?_
                            exact ih82 I31 _ _ _ v42 g hI hF (lv_sub hl [1, 2, 3, 0] rfl) (by omega) (by omega)
                    exact loop82_4 _ I27 _ _ _ v25 g hI hF (lv_sub hl [1, 2, 3, 0] rfl) (by omega) (show (8 - v25.toInt) < (((8 - v25.toInt).toNat + 1 : Nat) : Int) by omega)
              exact loop72_3 _ I7 _ _ _ v25 g hI hF (lv_sub hl [1, 2, 0] rfl) (by omega) (show (8 - v25.toInt) < (((8 - v25.toInt).toNat + 1 : Nat) : Int) by omega)
        exact loop62_1 _ I4 _ _ _ (0) g hI hF (lv_sub hl [1, 0] rfl) ⟨by decide, by decide⟩ (show (8 - (0 : Int)) < (((8 - (0 : Int)).toNat + 1 : Nat) : Int) by omega)
      · have ic5 := (xi_nle c5 (by decide) rfl : v3.toInt < 8)
        refine lv_iload_n hx hb dX12_ring_18 rfl (lv_at hl 1 rfl) ?_
        refine lv_iconst (v := 1) hx hb dX12_ring_19 (by decide) ?_
        refine lv_iadd hx hb dX12_ring_20 ?_
        refine lv_topi (fun v43 ev43 => ?_)
        have jv43 : v43.toInt = v3.toInt + 1 := xi_add ev43 rfl (by decide) (by omega) (by omega)
        refine lv_istore_n (lv' := [(2, .int v43), (0, .ref a0), (1, .int v3)]) hx hb dX12_ring_21 rfl hl (by decide) rfl (fun ls hl => ?_)
        have loop22_5 : ∀ (n : Nat) (I45 : tI) (H : Heap) (locs : List Loc) (ls : Array Slot) (v44 : Int32), h_G h_so h_fk E A z I45 L0 s s.heap H locs → h_I z I45 → h_F [(13, 44), (13, 45), (1339, 999), (1340, 999), (1343, 999), (1342, 999), (13, 41), (1346, 999), (1347, 999)] z I0 I45 → lv_has ls 4 [(0, .ref a0), (1, .int v3), (2, .int v44)] → (1 ≤ v44.toInt ∧ v44.toInt ≤ 8) → (8 - v44.toInt) < (n : Int) → W pr_ l ev_ (headSpec wsX12_ring ({ frames := 11, cells := 0, slots := 0, locals := 704 })).room s m ([.ref a0] : List Value).toArray below meth cd_ H locs 0 0 (MQ below (va_Qi (fun r (I1 : tI) => h_I z I1 ∧ h_F [(13, 44), (13, 45), (1339, 999), (1340, 999), (1343, 999), (1342, 999), (13, 41), (1346, 999), (1347, 999)] z I0 I1 ∧ True) (fun (I1 : tI) t => h_B E A z I1 L0 t) A) ([.ref a0] : List Value).toArray s 0 0 A) (F0 m 22 ls []) := by
          intro n
          induction n with
          | zero => intro I45 H locs ls v44 g hI hF hl jv44 hn; exact absurd hn (by omega)
          | succ n ih22 =>
            intro I45 H locs ls v44 g hI hF hl jv44 hn
            refine lv_iload_n hx hb dX12_ring_22 rfl (lv_at hl 2 rfl) ?_
            refine lv_bipush (v := 8) hx hb dX12_ring_23 (by decide) ?_
            refine lv_icmp_ge (tgt := 54) hx hb dX12_ring_25 (by decide) (fun c46 => ?_) (fun c46 => ?_)
            · have ic46 := (xi_le c46 (by decide) rfl : 8 ≤ v44.toInt)
              obtain ⟨v47, ev47⟩ : ∃ z : Int32, z = v3 + 1 := ⟨_, rfl⟩
              have jv47 : v47.toInt = v3.toInt + 1 := xi_add ev47 rfl (by decide) (by omega) (by omega)
              refine lv_iinc (v := v47) (lv' := [(1, .int v47), (0, .ref a0), (2, .int v44)]) hx hb dX12_ring_54 hl (k := 1) rfl (by rw [ev47]; rfl) (by decide) rfl (fun ls hl => ?_)
              refine lv_goto (tgt := 12) hx hb dX12_ring_57 (by decide) ?_
              exact ih12 I45 _ _ _ v47 g hI hF (lv_sub hl [1, 0] rfl) (by omega) (by omega)
            · have ic46 := (xi_nle c46 (by decide) rfl : v44.toInt < 8)
              refine lv_aload_n hx hb dX12_ring_28 rfl (lv_at hl 0 rfl) ?_
              obtain ⟨b48, rb48, tb48⟩ := hR.at a0 42 t_a0 (rfl : h_rs 13 42 = some (1342, false)) (by decide)
              refine h_get (v := .ref b48) hx hb hts iX12 hown g t_a0 (by decide) so_13 rfl 42 (by decide) (hts (.fieldLink RX12 97 "CapLeagueModel" "triedClub" "[I") (by decide +kernel)) rfl dX12_ring_29 (by show va_rf (z.R a0 42) = _; rw [rb48]; rfl) ?_
              refine lv_iconst (v := 0) hx hb dX12_ring_32 (by decide) ?_
              refine lv_iload_n hx hb dX12_ring_33 rfl (lv_at hl 1 rfl) ?_
              refine h_ast hx hb g tb48 (by decide) so_1342 (by unfold vp_in; decide) dX12_ring_34 (fun I49 H locs eI49 g => ?_)
              have hI := hI.wr eI49 tb48 (rfl : h_bd 1342 _ = (0, 7)) (by omega) (by omega)
              have hF := hF.wr eI49 tb48 rfl
              refine lv_aload_n hx hb dX12_ring_35 rfl (lv_at hl 0 rfl) ?_
              refine h_get (v := .ref b48) hx hb hts iX12 hown g t_a0 (by decide) so_13 rfl 42 (by decide) (hts (.fieldLink RX12 97 "CapLeagueModel" "triedClub" "[I") (by decide +kernel)) rfl dX12_ring_36 (by show va_rf (z.R a0 42) = _; rw [rb48]; rfl) ?_
              refine lv_iconst (v := 1) hx hb dX12_ring_39 (by decide) ?_
              refine lv_iload_n hx hb dX12_ring_40 rfl (lv_at hl 2 rfl) ?_
              refine h_ast hx hb g tb48 (by decide) so_1342 (by unfold vp_in; decide) dX12_ring_41 (fun I50 H locs eI50 g => ?_)
              have hI := hI.wr eI50 tb48 (rfl : h_bd 1342 _ = (0, 7)) (by omega) (by omega)
              have hF := hF.wr eI50 tb48 rfl
              refine lv_aload_n hx hb dX12_ring_42 rfl (lv_at hl 0 rfl) ?_
              refine lv_iconst (v := 0) hx hb dX12_ring_43 (by decide) ?_
              refine lv_iconst (v := 2) hx hb dX12_ring_44 (by decide) ?_
              refine va_callv (va_runV (As := [.int 0, .int 2]) (rest := []) ⟨hx, hb, hml, hown, hts⟩ (tX12_givers2 l E X A z I50 L0 a0 t_a0 0 (0) (by decide) (by omega) 2 (2) (by decide) (by omega) (by omega)) (cwV 2 hts gX12_ring_X12_givers rfl rfl rfl (by decide +kernel) ⟨Nat.le_of_ble_eq_true rfl, Nat.le_of_ble_eq_true rfl⟩) ⟨h_blind _ _ _ _ _ _ _, h_recv g t_a0 (by decide) so_13 (q := (RX12, TX12, 51)) rfl, h_pre _ hE hk hX hA hI hR g⟩ rfl rfl hl.1 rfl (lv_room (Nat.le_of_ble_eq_true rfl)) dX12_ring_45 ⟨Nat.le_of_ble_eq_true rfl, Nat.le_of_ble_eq_true rfl⟩) g.2.1 (fun q _ h => h) (fun q h => h) (fun I52 t H1 locs ht hvm h51 hB hz1 hk1 hS => ?_)
              obtain ⟨hI, fh51, h51⟩ := h51
              replace g := h_after g hB ht hS
              generalize H1 = H at g
              clear hB hk1 hz1 ht hvm hS
              have hF := hF.call fh51 rfl
              obtain ⟨v53, ev53⟩ : ∃ z : Int32, z = v44 + 1 := ⟨_, rfl⟩
              have jv53 : v53.toInt = v44.toInt + 1 := xi_add ev53 rfl (by decide) (by omega) (by omega)
              refine lv_iinc (v := v53) (lv' := [(2, .int v53), (0, .ref a0), (1, .int v3)]) hx hb dX12_ring_48 hl (k := 2) rfl (by rw [ev53]; rfl) (by decide) rfl (fun ls hl => ?_)
              refine lv_goto (tgt := 22) hx hb dX12_ring_51 (by decide) ?_
              exact ih22 I52 _ _ _ v53 g hI hF (lv_sub hl [1, 2, 0] rfl) (by omega) (by omega)
        exact loop22_5 _ I4 _ _ _ v43 g hI hF (lv_sub hl [1, 2, 0] rfl) (by omega) (show (8 - v43.toInt) < (((8 - v43.toInt).toNat + 1 : Nat) : Int) by omega)
  exact loop12_0 _ I2 _ _ _ (0) g hI hF (lv_sub hl [1, 0] rfl) ⟨by decide, by decide⟩ (show (8 - (0 : Int)) < (((8 - (0 : Int)).toNat + 1 : Nat) : Int) by omega)
set_option maxHeartbeats 4000000 in
set_option maxRecDepth 100000 in
theorem tX12_next (l : Launch) (E : tE) (X : tX) (A : Nat → Prop) (z : tZ) (I0 : tI) (L0 : tL) (a0 : Nat) (t_a0 : z.ty a0 = 13) : Met l yX12_next wsX12_next ({ frames := 5, cells := 0, slots := 0, locals := 320 }) (va_Pc [.ref a0] (h_P E X A z I0 L0)) (va_Qi (fun r (I1 : tI) => h_I z I1 ∧ h_F [(1349, 999), (13, 50), (13, 12), (1322, 999), (1314, 999), (1324, 999), (13, 30), (13, 31), (13, 33)] z I0 I1 ∧ True) (fun (I1 : tI) t => h_B E A z I1 L0 t) A) 0 0 A := by
  refine Met.ofW (cc := cX12_next) (maxL := 6) (ret := (some .int)) (by decide) rfl ?_
  intro pr_ ev_ s m args below meth cd_ s₁ B hml hv
  obtain ⟨rfl, hE, hk, hX, hA, hK, hI, hR, hB0⟩ := hv
  have g : h_G h_so h_fk E A z I0 L0 s s.heap s.heap [] := ⟨hK, va_S.rf, hB0⟩
  have hF : h_F [(1349, 999), (13, 50), (13, 12), (1322, 999), (1314, 999), (1324, 999), (13, 30), (13, 31), (13, 33)] z I0 I0 := h_F.rf
  have hx := B.exec
  have hb := B.bytes
  have hr := B.returns
  have hts := atoms_spec (ws := wsX12_next) B.pre
  have hown : s.vm.findClass RX12 = some m.cls := findClass_of_methodNamed B.named
  have hlocks := B.notSynchronized
  have iX12 : ∀ w ∈ u_ws RX12 TX12 51, w ∈ wsX12_next := by decide +kernel
  have hl := lv_entry ([.ref a0]) (n := 6) (Nat.le_of_ble_eq_true rfl)
  rw [lg_entry_eq]
  generalize (lg_sl ([.ref a0]) ++ List.replicate (6 - (lg_sl ([.ref a0])).length) Slot.unset).toArray = ls at hl ⊢
  have hl : lv_has ls 6 [(0, .ref a0)] := hl
  refine lv_aload_n hx hb dX12_next_0 rfl (lv_at hl 0 rfl) ?_
  refine h_get (v := .int (I0 a0 12)) hx hb hts iX12 hown g t_a0 (by decide) so_13 rfl 12 (by decide) (hts (.fieldLink RX12 187 "CapLeagueModel" "clock" "I") (by decide +kernel)) rfl dX12_next_1 rfl ?_
  refine lv_topi (fun v1 ev1 => ?_)
  have jv1 := hI.rd a0 12 t_a0 ev1 (rfl : h_bd 13 12 = (0, 9))
  refine lv_bipush (v := 9) hx hb dX12_next_4 (by decide) ?_
  refine lv_icmp_eq (tgt := 16) hx hb dX12_next_6 (by decide) (fun c2 => ?_) (fun c2 => ?_)
  · have ic2 := (xi_eq c2 rfl (by decide) : v1.toInt = 9)
    refine lv_bipush (v := (-4)) hx hb dX12_next_16 (by decide) ?_
    have hS := g.2.1
    exact W.iret (v := (-4)) hx hb hr (fun t ht hW => ⟨⟨(-4), I0, rfl, ⟨hI, hF, trivial⟩, h_ret g ht⟩, hS.F ht⟩) hS.2.2 dX12_next_18
  · have ic2 := (xi_ne c2 rfl (by decide) : v1.toInt ≠ 9)
    refine lv_aload_n hx hb dX12_next_9 rfl (lv_at hl 0 rfl) ?_
    refine h_get (v := .int (I0 a0 31)) hx hb hts iX12 hown g t_a0 (by decide) so_13 rfl 31 (by decide) (hts (.fieldLink RX12 264 "CapLeagueModel" "isDrawn" "Z") (by decide +kernel)) rfl dX12_next_10 rfl ?_
    refine lv_topi (fun v3 ev3 => ?_)
    have jv3 := hI.rd a0 31 t_a0 ev3 (rfl : h_bd 13 31 = (0, 1))
    refine lv_if_ne (tgt := 19) hx hb dX12_next_13 (by decide) (fun c4 => ?_) (fun c4 => ?_)
    · have ic4 := (xi_ne c4 rfl (by decide) : v3.toInt ≠ 0)
      refine lv_iconst (v := 0) hx hb dX12_next_19 (by decide) ?_
      refine lv_istore_n (lv' := [(1, .int 0), (0, .ref a0)]) hx hb dX12_next_20 rfl hl (by decide) rfl (fun ls hl => ?_)
      refine lv_iconst (v := 0) hx hb dX12_next_21 (by decide) ?_
      refine lv_istore_n (lv' := [(2, .int 0), (1, .int 0), (0, .ref a0)]) hx hb dX12_next_22 rfl hl (by decide) rfl (fun ls hl => ?_)
      refine lv_iconst (v := 0) hx hb dX12_next_23 (by decide) ?_
      refine lv_istore_n (lv' := [(3, .int 0), (2, .int 0), (1, .int 0), (0, .ref a0)]) hx hb dX12_next_24 rfl hl (by decide) rfl (fun ls hl => ?_)
      have loop25_0 : ∀ (n : Nat) (I8 : tI) (H : Heap) (locs : List Loc) (ls : Array Slot) (v5 v6 v7 : Int32), h_G h_so h_fk E A z I8 L0 s s.heap H locs → h_I z I8 → h_F [(1349, 999), (13, 50), (13, 12), (1322, 999), (1314, 999), (1324, 999), (13, 30), (13, 31), (13, 33)] z I0 I8 → lv_has ls 6 [(0, .ref a0), (1, .int v5), (2, .int v6), (3, .int v7)] → ((-2147483648) ≤ v5.toInt ∧ v5.toInt ≤ 2147483647) → ((-2147483648) ≤ v6.toInt ∧ v6.toInt ≤ 2147483647) → (0 ≤ v7.toInt ∧ v7.toInt ≤ 8) → h_F [(1349, 999)] z I0 I8 → (8 - v7.toInt) < (n : Int) → W pr_ l ev_ (headSpec wsX12_next ({ frames := 5, cells := 0, slots := 0, locals := 320 })).room s m ([.ref a0] : List Value).toArray below meth cd_ H locs 0 0 (MQ below (va_Qi (fun r (I1 : tI) => h_I z I1 ∧ h_F [(1349, 999), (13, 50), (13, 12), (1322, 999), (1314, 999), (1324, 999), (13, 30), (13, 31), (13, 33)] z I0 I1 ∧ True) (fun (I1 : tI) t => h_B E A z I1 L0 t) A) ([.ref a0] : List Value).toArray s 0 0 A) (F0 m 25 ls []) := by
        intro n
        induction n with
        | zero => intro I8 H locs ls v5 v6 v7 g hI hF hl jv5 jv6 jv7 hL25 hn; exact absurd hn (by omega)
        | succ n ih25 =>
          intro I8 H locs ls v5 v6 v7 g hI hF hl jv5 jv6 jv7 hL25 hn
          refine lv_iload_n hx hb dX12_next_25 rfl (lv_at hl 3 rfl) ?_
          refine lv_bipush (v := 8) hx hb dX12_next_26 (by decide) ?_
          refine lv_icmp_ge (tgt := 106) hx hb dX12_next_28 (by decide) (fun c9 => ?_) (fun c9 => ?_)
          · have ic9 := (xi_le c9 (by decide) rfl : 8 ≤ v7.toInt)
            refine lv_bipush (v := 8) hx hb dX12_next_106 (by decide) ?_
            refine lv_iload_n hx hb dX12_next_108 rfl (lv_at hl 2 rfl) ?_
            refine vp_callSi (W.runS (As := [.int v6]) (rest := [.int 8]) ⟨hx, hb, hml, hown, hts⟩ (tX12_bits l E X A z I8 L0 v6 (v6.toInt) rfl) (va_cwS 1 hts gX12_next_X12_bits rfl rfl rfl (by decide +kernel) ⟨Nat.le_of_ble_eq_true rfl, Nat.le_of_ble_eq_true rfl⟩) ⟨h_blind _ _ _ _ _ _ _, h_pre _ hE hk hX hA hI hR g⟩ rfl rfl hl.1 rfl (lv_room (Nat.le_of_ble_eq_true rfl)) dX12_next_109 ⟨Nat.le_of_ble_eq_true rfl, Nat.le_of_ble_eq_true rfl⟩) (fun rh10 h10 => ?_)
            have jrh10 : -2147483648 ≤ rh10.toInt ∧ rh10.toInt ≤ 2147483647 := ⟨xi_lo _, Int.le_of_lt_add_one (xi_hi _)⟩
            refine lv_isub hx hb dX12_next_112 ?_
            refine lv_topi (fun v11 ev11 => ?_)
            have jv11 : -2147483648 ≤ v11.toInt ∧ v11.toInt ≤ 2147483647 := ⟨xi_lo _, Int.le_of_lt_add_one (xi_hi _)⟩
            refine lv_istore_n (lv' := [(3, .int v11), (0, .ref a0), (1, .int v5), (2, .int v6)]) hx hb dX12_next_113 rfl hl (by decide) rfl (fun ls hl => ?_)
            refine lv_iload_n hx hb dX12_next_114 rfl (lv_at hl 0 rfl) ?_
            refine lv_if_ne (tgt := 122) hx hb dX12_next_115 (by decide) (fun c12 => ?_) (fun c12 => ?_)
            · have ic12 := (xi_ne c12 rfl (by decide) : v11.toInt ≠ 0)
              refine lv_iload_n hx hb dX12_next_122 rfl (lv_at hl 2 rfl) ?_
              refine lv_iload_n hx hb dX12_next_123 rfl (lv_at hl 0 rfl) ?_
              refine lv_idiv hx hb dX12_next_124 (h_ne0 (by omega)) ?_
              refine lv_topi (fun v13 ev13 => ?_)
              have jv13 : -2147483648 ≤ v13.toInt ∧ v13.toInt ≤ 2147483647 := ⟨xi_lo _, Int.le_of_lt_add_one (xi_hi _)⟩
              refine lv_istore (lv' := [(4, .int v13), (3, .int v11), (0, .ref a0), (1, .int v5), (2, .int v6)]) hx hb dX12_next_125 hl (by decide) rfl (fun ls hl => ?_)
              refine lv_iconst (v := 0) hx hb dX12_next_127 (by decide) ?_
              refine lv_istore (lv' := [(5, .int 0), (4, .int v13), (3, .int v11), (0, .ref a0), (1, .int v5), (2, .int v6)]) hx hb dX12_next_128 hl (by decide) rfl (fun ls hl => ?_)
              have loop130_1 : ∀ (n : Nat) (I15 : tI) (H : Heap) (locs : List Loc) (ls : Array Slot) (v14 : Int32), h_G h_so h_fk E A z I15 L0 s s.heap H locs → h_I z I15 → h_F [(1349, 999), (13, 50), (13, 12), (1322, 999), (1314, 999), (1324, 999), (13, 30), (13, 31), (13, 33)] z I0 I15 → lv_has ls 6 [(0, .ref a0), (1, .int v5), (2, .int v6), (3, .int v11), (4, .int v13), (5, .int v14)] → (0 ≤ v14.toInt ∧ v14.toInt ≤ 8) → h_F [(1349, 999)] z I8 I15 → (8 - v14.toInt) < (n : Int) → W pr_ l ev_ (headSpec wsX12_next ({ frames := 5, cells := 0, slots := 0, locals := 320 })).room s m ([.ref a0] : List Value).toArray below meth cd_ H locs 0 0 (MQ below (va_Qi (fun r (I1 : tI) => h_I z I1 ∧ h_F [(1349, 999), (13, 50), (13, 12), (1322, 999), (1314, 999), (1324, 999), (13, 30), (13, 31), (13, 33)] z I0 I1 ∧ True) (fun (I1 : tI) t => h_B E A z I1 L0 t) A) ([.ref a0] : List Value).toArray s 0 0 A) (F0 m 130 ls []) := by
                intro n
                induction n with
                | zero => intro I15 H locs ls v14 g hI hF hl jv14 hL130 hn; exact absurd hn (by omega)
                | succ n ih130 =>
                  intro I15 H locs ls v14 g hI hF hl jv14 hL130 hn
                  refine lv_iload hx hb dX12_next_130 (lv_at hl 5 rfl) ?_
                  refine lv_bipush (v := 8) hx hb dX12_next_132 (by decide) ?_
                  refine lv_icmp_ge (tgt := 169) hx hb dX12_next_134 (by decide) (fun c16 => ?_) (fun c16 => ?_)
                  · have ic16 := (xi_le c16 (by decide) rfl : 8 ≤ v14.toInt)
                    refine lv_aload_n hx hb dX12_next_169 rfl (lv_at hl 0 rfl) ?_
                    refine lv_dup hx hb dX12_next_170 rfl ?_
                    refine h_get (v := .int (I15 a0 50)) hx hb hts iX12 hown g t_a0 (by decide) so_13 rfl 50 (by decide) (hts (.fieldLink RX12 329 "CapLeagueModel" "league" "I") (by decide +kernel)) rfl dX12_next_171 rfl ?_
                    refine lv_topi (fun v17 ev17 => ?_)
                    have jv17 := hI.rd a0 50 t_a0 ev17 (rfl : h_bd 13 50 = ((-2147483648), 2147483647))
                    refine lv_iload_n hx hb dX12_next_174 rfl (lv_at hl 1 rfl) ?_
                    refine lv_iload hx hb dX12_next_175 (lv_at hl 4 rfl) ?_
                    refine lv_iload_n hx hb dX12_next_177 rfl (lv_at hl 3 rfl) ?_
                    refine lv_imul hx hb dX12_next_178 ?_
                    refine lv_topi (fun v18 ev18 => ?_)
                    have jv18 : -2147483648 ≤ v18.toInt ∧ v18.toInt ≤ 2147483647 := ⟨xi_lo _, Int.le_of_lt_add_one (xi_hi _)⟩
                    refine lv_isub hx hb dX12_next_179 ?_
                    refine lv_topi (fun v19 ev19 => ?_)
                    have jv19 : -2147483648 ≤ v19.toInt ∧ v19.toInt ≤ 2147483647 := ⟨xi_lo _, Int.le_of_lt_add_one (xi_hi _)⟩
                    refine lv_iadd hx hb dX12_next_180 ?_
                    refine lv_topi (fun v20 ev20 => ?_)
                    have jv20 : -2147483648 ≤ v20.toInt ∧ v20.toInt ≤ 2147483647 := ⟨xi_lo _, Int.le_of_lt_add_one (xi_hi _)⟩
                    refine h_putI (ty := .int) (v := v20) hx hb hts iX12 tyX12 tyX12_ok nmX12 hown g t_a0 (by decide) so_13 rfl 50 (by decide) rfl (hts (.fieldLink RX12 329 "CapLeagueModel" "league" "I") (by decide +kernel)) rfl rfl (by decide +kernel) rfl rfl dX12_next_181 (fun I21 H locs eI21 g => ?_)
                    have hI := hI.wr eI21 t_a0 (rfl : h_bd 13 50 = ((-2147483648), 2147483647)) (xi_lo _) (Int.le_of_lt_add_one (xi_hi _))
                    have hF := hF.wr eI21 t_a0 rfl
                    refine lv_aload_n hx hb dX12_next_184 rfl (lv_at hl 0 rfl) ?_
                    refine lv_dup hx hb dX12_next_185 rfl ?_
                    refine h_get (v := .int v1) hx hb hts iX12 hown g t_a0 (by decide) so_13 rfl 12 (by decide) (hts (.fieldLink RX12 187 "CapLeagueModel" "clock" "I") (by decide +kernel)) rfl dX12_next_186 (congrArg Value.int ((h_n2 eI21 (by decide)).trans ((h_F.at hL130 t_a0 rfl).trans ((h_F.at hL25 t_a0 rfl).trans (ev1.symm))))) ?_
                    refine lv_iconst (v := 1) hx hb dX12_next_189 (by decide) ?_
                    refine lv_iadd hx hb dX12_next_190 ?_
                    refine lv_topi (fun v22 ev22 => ?_)
                    have jv22 : v22.toInt = v1.toInt + 1 := xi_add ev22 rfl (by decide) (by omega) (by omega)
                    refine h_putI (ty := .int) (v := v22) hx hb hts iX12 tyX12 tyX12_ok nmX12 hown g t_a0 (by decide) so_13 rfl 12 (by decide) rfl (hts (.fieldLink RX12 187 "CapLeagueModel" "clock" "I") (by decide +kernel)) rfl rfl (by decide +kernel) rfl rfl dX12_next_191 (fun I23 H locs eI23 g => ?_)
                    have hI := hI.wr eI23 t_a0 (rfl : h_bd 13 12 = (0, 9)) (by omega) (by omega)
                    have hF := hF.wr eI23 t_a0 rfl
                    refine lv_iconst (v := 0) hx hb dX12_next_194 (by decide) ?_
                    refine lv_istore (lv' := [(5, .int 0), (0, .ref a0), (1, .int v5), (2, .int v6), (3, .int v11), (4, .int v13)]) hx hb dX12_next_195 hl (by decide) rfl (fun ls hl => ?_)
                    have loop197_2 : ∀ (n : Nat) (I25 : tI) (H : Heap) (locs : List Loc) (ls : Array Slot) (v24 : Int32), h_G h_so h_fk E A z I25 L0 s s.heap H locs → h_I z I25 → h_F [(1349, 999), (13, 50), (13, 12), (1322, 999), (1314, 999), (1324, 999), (13, 30), (13, 31), (13, 33)] z I0 I25 → lv_has ls 6 [(0, .ref a0), (5, .int v24)] → (0 ≤ v24.toInt ∧ v24.toInt ≤ 60) → (60 - v24.toInt) < (n : Int) → W pr_ l ev_ (headSpec wsX12_next ({ frames := 5, cells := 0, slots := 0, locals := 320 })).room s m ([.ref a0] : List Value).toArray below meth cd_ H locs 0 0 (MQ below (va_Qi (fun r (I1 : tI) => h_I z I1 ∧ h_F [(1349, 999), (13, 50), (13, 12), (1322, 999), (1314, 999), (1324, 999), (13, 30), (13, 31), (13, 33)] z I0 I1 ∧ True) (fun (I1 : tI) t => h_B E A z I1 L0 t) A) ([.ref a0] : List Value).toArray s 0 0 A) (F0 m 197 ls []) := by
                      intro n
                      induction n with
                      | zero => intro I25 H locs ls v24 g hI hF hl jv24 hn; exact absurd hn (by omega)
                      | succ n ih197 =>
                        intro I25 H locs ls v24 g hI hF hl jv24 hn
                        refine lv_iload hx hb dX12_next_197 (lv_at hl 1 rfl) ?_
                        refine lv_aload_n hx hb dX12_next_199 rfl (lv_at hl 0 rfl) ?_
                        refine h_get (v := .int (I25 a0 13)) hx hb hts iX12 hown g t_a0 (by decide) so_13 rfl 13 (by decide) (hts (.fieldLink RX12 202 "CapLeagueModel" "players" "I") (by decide +kernel)) rfl dX12_next_200 rfl ?_
                        refine lv_topi (fun v26 ev26 => ?_)
                        have jv26 := hI.rd a0 13 t_a0 ev26 (rfl : h_bd 13 13 = (0, 60))
                        refine lv_icmp_ge (tgt := 252) hx hb dX12_next_203 (by decide) (fun c27 => ?_) (fun c27 => ?_)
                        · have ic27 := (xi_le c27 rfl rfl : v26.toInt ≤ v24.toInt)
                          refine lv_iconst (v := 0) hx hb dX12_next_252 (by decide) ?_
                          refine lv_istore (lv' := [(5, .int 0), (0, .ref a0)]) hx hb dX12_next_253 hl (by decide) rfl (fun ls hl => ?_)
                          have loop255_3 : ∀ (n : Nat) (I29 : tI) (H : Heap) (locs : List Loc) (ls : Array Slot) (v28 : Int32), h_G h_so h_fk E A z I29 L0 s s.heap H locs → h_I z I29 → h_F [(1349, 999), (13, 50), (13, 12), (1322, 999), (1314, 999), (1324, 999), (13, 30), (13, 31), (13, 33)] z I0 I29 → lv_has ls 6 [(0, .ref a0), (5, .int v28)] → (0 ≤ v28.toInt ∧ v28.toInt ≤ 8) → (8 - v28.toInt) < (n : Int) → W pr_ l ev_ (headSpec wsX12_next ({ frames := 5, cells := 0, slots := 0, locals := 320 })).room s m ([.ref a0] : List Value).toArray below meth cd_ H locs 0 0 (MQ below (va_Qi (fun r (I1 : tI) => h_I z I1 ∧ h_F [(1349, 999), (13, 50), (13, 12), (1322, 999), (1314, 999), (1324, 999), (13, 30), (13, 31), (13, 33)] z I0 I1 ∧ True) (fun (I1 : tI) t => h_B E A z I1 L0 t) A) ([.ref a0] : List Value).toArray s 0 0 A) (F0 m 255 ls []) := by
                            intro n
                            induction n with
                            | zero => intro I29 H locs ls v28 g hI hF hl jv28 hn; exact absurd hn (by omega)
                            | succ n ih255 =>
                              intro I29 H locs ls v28 g hI hF hl jv28 hn
                              refine lv_iload hx hb dX12_next_255 (lv_at hl 1 rfl) ?_
                              refine lv_bipush (v := 8) hx hb dX12_next_257 (by decide) ?_
                              refine lv_icmp_ge (tgt := 276) hx hb dX12_next_259 (by decide) (fun c30 => ?_) (fun c30 => ?_)
                              · have ic30 := (xi_le c30 (by decide) rfl : 8 ≤ v28.toInt)
                                refine lv_aload_n hx hb dX12_next_276 rfl (lv_at hl 0 rfl) ?_
                                refine lv_iconst (v := 0) hx hb dX12_next_277 (by decide) ?_
                                refine h_putI (ty := .boolean) (v := 0) hx hb hts iX12 tyX12 tyX12_ok nmX12 hown g t_a0 (by decide) so_13 rfl 30 (by decide) rfl (hts (.fieldLink RX12 306 "CapLeagueModel" "hasTable" "Z") (by decide +kernel)) rfl rfl (by decide +kernel) (by decide) (by decide) dX12_next_278 (fun I31 H locs eI31 g => ?_)
                                have hI := hI.wr eI31 t_a0 (rfl : h_bd 13 30 = (0, 1)) (by decide) (by decide)
                                have hF := hF.wr eI31 t_a0 rfl
                                refine lv_aload_n hx hb dX12_next_281 rfl (lv_at hl 0 rfl) ?_
                                refine lv_iconst (v := 0) hx hb dX12_next_282 (by decide) ?_
                                refine h_putI (ty := .boolean) (v := 0) hx hb hts iX12 tyX12 tyX12_ok nmX12 hown g t_a0 (by decide) so_13 rfl 31 (by decide) rfl (hts (.fieldLink RX12 264 "CapLeagueModel" "isDrawn" "Z") (by decide +kernel)) rfl rfl (by decide +kernel) (by decide) (by decide) dX12_next_283 (fun I32 H locs eI32 g => ?_)
                                have hI := hI.wr eI32 t_a0 (rfl : h_bd 13 31 = (0, 1)) (by decide) (by decide)
                                have hF := hF.wr eI32 t_a0 rfl
                                refine lv_aload_n hx hb dX12_next_286 rfl (lv_at hl 0 rfl) ?_
                                refine lv_iconst (v := 0) hx hb dX12_next_287 (by decide) ?_
                                refine h_putI (ty := .int) (v := 0) hx hb hts iX12 tyX12 tyX12_ok nmX12 hown g t_a0 (by decide) so_13 rfl 33 (by decide) rfl (hts (.fieldLink RX12 247 "CapLeagueModel" "moves" "I") (by decide +kernel)) rfl rfl (by decide +kernel) rfl rfl dX12_next_288 (fun I33 H locs eI33 g => ?_)
                                have hI := hI.wr eI33 t_a0 (rfl : h_bd 13 33 = (0, 12)) (by decide) (by decide)
                                have hF := hF.wr eI33 t_a0 rfl
                                refine lv_aload_n hx hb dX12_next_291 rfl (lv_at hl 0 rfl) ?_
                                refine h_get (v := .int (I33 a0 12)) hx hb hts iX12 hown g t_a0 (by decide) so_13 rfl 12 (by decide) (hts (.fieldLink RX12 187 "CapLeagueModel" "clock" "I") (by decide +kernel)) rfl dX12_next_292 rfl ?_
                                refine lv_topi (fun v34 ev34 => ?_)
                                have jv34 := hI.rd a0 12 t_a0 ev34 (rfl : h_bd 13 12 = (0, 9))
                                have hS := g.2.1
                                exact W.iret (v := v34) hx hb hr (fun t ht hW => ⟨⟨v34, I33, rfl, ⟨hI, hF, trivial⟩, h_ret g ht⟩, hS.F ht⟩) hS.2.2 dX12_next_295
                              · have ic30 := (xi_nle c30 (by decide) rfl : v28.toInt < 8)
                                refine lv_aload_n hx hb dX12_next_262 rfl (lv_at hl 0 rfl) ?_
                                obtain ⟨b35, rb35, tb35⟩ := hR.at a0 24 t_a0 (rfl : h_rs 13 24 = some (1324, false)) (by decide)
                                refine h_get (v := .ref b35) hx hb hts iX12 hown g t_a0 (by decide) so_13 rfl 24 (by decide) (hts (.fieldLink RX12 55 "CapLeagueModel" "usedSpare" "[Z") (by decide +kernel)) rfl dX12_next_263 (by show va_rf (z.R a0 24) = _; rw [rb35]; rfl) ?_
                                refine lv_iload hx hb dX12_next_266 (lv_at hl 1 rfl) ?_
                                refine lv_iconst (v := 0) hx hb dX12_next_268 (by decide) ?_
                                refine h_zast hx hb g tb35 (by decide) so_1324 (xi_in (by omega) (by omega)) dX12_next_269 (fun I36 H locs eI36 g => ?_)
                                rw [h_nz (by decide) (by decide)] at eI36
                                have hI := hI.wr eI36 tb35 (rfl : h_bd 1324 _ = (0, 1)) (by decide) (by decide)
                                have hF := hF.wr eI36 tb35 rfl
                                obtain ⟨v37, ev37⟩ : ∃ z : Int32, z = v28 + 1 := ⟨_, rfl⟩
                                have jv37 : v37.toInt = v28.toInt + 1 := xi_add ev37 rfl (by decide) (by omega) (by omega)
                                refine lv_iinc (v := v37) (lv' := [(5, .int v37), (0, .ref a0)]) hx hb dX12_next_270 hl (k := 1) rfl (by rw [ev37]; rfl) (by decide) rfl (fun ls hl => ?_)
                                refine lv_goto (tgt := 255) hx hb dX12_next_273 (by decide) ?_
                                exact ih255 I36 _ _ _ v37 g hI hF (lv_sub hl [1, 0] rfl) (by omega) (by omega)
                          exact loop255_3 _ I25 _ _ _ (0) g hI hF (lv_sub hl [1, 0] rfl) ⟨by decide, by decide⟩ (show (8 - (0 : Int)) < (((8 - (0 : Int)).toNat + 1 : Nat) : Int) by omega)
                        · have ic27 := (xi_nle c27 rfl rfl : v24.toInt < v26.toInt)
                          refine lv_aload_n hx hb dX12_next_206 rfl (lv_at hl 0 rfl) ?_
                          obtain ⟨b38, rb38, tb38⟩ := hR.at a0 22 t_a0 (rfl : h_rs 13 22 = some (1322, false)) (by decide)
                          refine h_get (v := .ref b38) hx hb hts iX12 hown g t_a0 (by decide) so_13 rfl 22 (by decide) (hts (.fieldLink RX12 49 "CapLeagueModel" "isHurt" "[Z") (by decide +kernel)) rfl dX12_next_207 (by show va_rf (z.R a0 22) = _; rw [rb38]; rfl) ?_
                          refine lv_iload hx hb dX12_next_210 (lv_at hl 1 rfl) ?_
                          refine lv_iconst (v := 0) hx hb dX12_next_212 (by decide) ?_
                          refine h_zast hx hb g tb38 (by decide) so_1322 (xi_in (by omega) (by omega)) dX12_next_213 (fun I39 H locs eI39 g => ?_)
                          rw [h_nz (by decide) (by decide)] at eI39
                          have hI := hI.wr eI39 tb38 (rfl : h_bd 1322 _ = (0, 1)) (by decide) (by decide)
                          have hF := hF.wr eI39 tb38 rfl
                          refine lv_aload_n hx hb dX12_next_214 rfl (lv_at hl 0 rfl) ?_
                          obtain ⟨b40, rb40, tb40⟩ := hR.at a0 14 t_a0 (rfl : h_rs 13 14 = some (1314, false)) (by decide)
                          refine h_get (v := .ref b40) hx hb hts iX12 hown g t_a0 (by decide) so_13 rfl 14 (by decide) (hts (.fieldLink RX12 25 "CapLeagueModel" "clubOf" "[I") (by decide +kernel)) rfl dX12_next_215 (by show va_rf (z.R a0 14) = _; rw [rb40]; rfl) ?_
                          refine lv_iload hx hb dX12_next_218 (lv_at hl 1 rfl) ?_
                          refine h_ald hx hb g tb40 (by decide) so_1314 (xi_in (by omega) (by omega)) dX12_next_220 ?_
                          refine lv_topi (fun v41 ev41 => ?_)
                          have jv41 := hI.rd b40 v24.toNatClampNeg tb40 ev41 (rfl : h_bd 1314 _ = ((-1), 7))
                          refine lv_iconst (v := (-1)) hx hb dX12_next_221 (by decide) ?_
                          refine lv_icmp_eq (tgt := 246) hx hb dX12_next_222 (by decide) (fun c42 => ?_) (fun c42 => ?_)
                          · have ic42 := (xi_eq c42 rfl (by decide) : v41.toInt = (-1))
                            obtain ⟨v43, ev43⟩ : ∃ z : Int32, z = v24 + 1 := ⟨_, rfl⟩
                            have jv43 : v43.toInt = v24.toInt + 1 := xi_add ev43 rfl (by decide) (by omega) (by omega)
                            refine lv_iinc (v := v43) (lv' := [(5, .int v43), (0, .ref a0)]) hx hb dX12_next_246 hl (k := 1) rfl (by rw [ev43]; rfl) (by decide) rfl (fun ls hl => ?_)
                            refine lv_goto (tgt := 197) hx hb dX12_next_249 (by decide) ?_
                            exact ih197 I39 _ _ _ v43 g hI hF (lv_sub hl [1, 0] rfl) (by omega) (by omega)
                          · have ic42 := (xi_ne c42 rfl (by decide) : v41.toInt ≠ (-1))
                            refine lv_aload_n hx hb dX12_next_225 rfl (lv_at hl 0 rfl) ?_
                            refine lv_iload hx hb dX12_next_226 (lv_at hl 1 rfl) ?_
                            refine lv_aload_n hx hb dX12_next_228 rfl (lv_at hl 0 rfl) ?_
                            refine h_get (v := .int (I39 a0 12)) hx hb hts iX12 hown g t_a0 (by decide) so_13 rfl 12 (by decide) (hts (.fieldLink RX12 187 "CapLeagueModel" "clock" "I") (by decide +kernel)) rfl dX12_next_229 rfl ?_
                            refine lv_topi (fun v44 ev44 => ?_)
                            have jv44 := hI.rd a0 12 t_a0 ev44 (rfl : h_bd 13 12 = (0, 9))
                            refine vp_callSi (W.runV (As := [.int v24, .int v44]) (rest := []) ⟨hx, hb, hml, hown, hts⟩ (tX12_isUnder l E X A z I39 L0 a0 t_a0 v24 (v24.toInt) rfl (by omega) v44 (v44.toInt) rfl) (cwV 2 hts gX12_next_X12_isUnder rfl rfl rfl (by decide +kernel) ⟨Nat.le_of_ble_eq_true rfl, Nat.le_of_ble_eq_true rfl⟩) ⟨h_blind _ _ _ _ _ _ _, h_recv g t_a0 (by decide) so_13 (q := (RX12, TX12, 51)) rfl, h_pre _ hE hk hX hA hI hR g⟩ rfl rfl hl.1 rfl (lv_room (Nat.le_of_ble_eq_true rfl)) dX12_next_232 ⟨Nat.le_of_ble_eq_true rfl, Nat.le_of_ble_eq_true rfl⟩) (fun rh45 h45 => ?_)
                            refine lv_if_ne (tgt := 246) hx hb dX12_next_235 (by decide) (fun c46 => ?_) (fun c46 => ?_)
                            · have ic46 := (xi_ne c46 rfl (by decide) : rh45.toInt ≠ 0)
                              obtain ⟨v47, ev47⟩ : ∃ z : Int32, z = v24 + 1 := ⟨_, rfl⟩
                              have jv47 : v47.toInt = v24.toInt + 1 := xi_add ev47 rfl (by decide) (by omega) (by omega)
                              refine lv_iinc (v := v47) (lv' := [(5, .int v47), (0, .ref a0)]) hx hb dX12_next_246 hl (k := 1) rfl (by rw [ev47]; rfl) (by decide) rfl (fun ls hl => ?_)
                              refine lv_goto (tgt := 197) hx hb dX12_next_249 (by decide) ?_
                              exact ih197 I39 _ _ _ v47 g hI hF (lv_sub hl [1, 0] rfl) (by omega) (by omega)
                            · have ic46 := (xi_eq c46 rfl (by decide) : rh45.toInt = 0)
                              refine lv_aload_n hx hb dX12_next_238 rfl (lv_at hl 0 rfl) ?_
                              refine h_get (v := .ref b40) hx hb hts iX12 hown g t_a0 (by decide) so_13 rfl 14 (by decide) (hts (.fieldLink RX12 25 "CapLeagueModel" "clubOf" "[I") (by decide +kernel)) rfl dX12_next_239 (by show va_rf (z.R a0 14) = _; rw [rb40]; rfl) ?_
                              refine lv_iload hx hb dX12_next_242 (lv_at hl 1 rfl) ?_
                              refine lv_iconst (v := (-1)) hx hb dX12_next_244 (by decide) ?_
                              refine h_ast hx hb g tb40 (by decide) so_1314 (xi_in (by omega) (by omega)) dX12_next_245 (fun I48 H locs eI48 g => ?_)
                              have hI := hI.wr eI48 tb40 (rfl : h_bd 1314 _ = ((-1), 7)) (by decide) (by decide)
                              have hF := hF.wr eI48 tb40 rfl
                              obtain ⟨v49, ev49⟩ : ∃ z : Int32, z = v24 + 1 := ⟨_, rfl⟩
                              have jv49 : v49.toInt = v24.toInt + 1 := xi_add ev49 rfl (by decide) (by omega) (by omega)
                              refine lv_iinc (v := v49) (lv' := [(5, .int v49), (0, .ref a0)]) hx hb dX12_next_246 hl (k := 1) rfl (by rw [ev49]; rfl) (by decide) rfl (fun ls hl => ?_)
                              refine lv_goto (tgt := 197) hx hb dX12_next_249 (by decide) ?_
                              exact ih197 I48 _ _ _ v49 g hI hF (lv_sub hl [1, 0] rfl) (by omega) (by omega)
                    exact loop197_2 _ I23 _ _ _ (0) g hI hF (lv_sub hl [1, 0] rfl) ⟨by decide, by decide⟩ (show (60 - (0 : Int)) < (((60 - (0 : Int)).toNat + 1 : Nat) : Int) by omega)
                  · have ic16 := (xi_nle c16 (by decide) rfl : v14.toInt < 8)
                    refine lv_aload_n hx hb dX12_next_137 rfl (lv_at hl 0 rfl) ?_
                    obtain ⟨b50, rb50, tb50⟩ := hR.at a0 49 t_a0 (rfl : h_rs 13 49 = some (1349, false)) (by decide)
                    refine h_get (v := .ref b50) hx hb hts iX12 hown g t_a0 (by decide) so_13 rfl 49 (by decide) (hts (.fieldLink RX12 112 "CapLeagueModel" "purse" "[I") (by decide +kernel)) rfl dX12_next_138 (by show va_rf (z.R a0 49) = _; rw [rb50]; rfl) ?_
                    refine lv_iload hx hb dX12_next_141 (lv_at hl 5 rfl) ?_
                    refine lv_dup2_11 hx hb dX12_next_143 rfl rfl ?_
                    refine h_ald hx hb g tb50 (by decide) so_1349 (xi_in (by omega) (by omega)) dX12_next_144 ?_
                    refine lv_topi (fun v51 ev51 => ?_)
                    have jv51 := hI.rd b50 v14.toNatClampNeg tb50 ev51 (rfl : h_bd 1349 _ = ((-2147483648), 2147483647))
                    refine lv_iload_n hx hb dX12_next_145 rfl (lv_at hl 2 rfl) ?_
                    refine lv_iload hx hb dX12_next_146 (lv_at hl 5 rfl) ?_
                    refine lv_ishr hx hb dX12_next_148 ?_
                    refine lv_topi (fun v52 ev52 => ?_)
                    have jv52 : -2147483648 ≤ v52.toInt ∧ v52.toInt ≤ 2147483647 := ⟨xi_lo _, Int.le_of_lt_add_one (xi_hi _)⟩
                    refine lv_iconst (v := 1) hx hb dX12_next_149 (by decide) ?_
                    refine lv_iand hx hb dX12_next_150 ?_
                    refine lv_topi (fun v53 ev53 => ?_)
                    have jv53 : 0 ≤ v53.toInt ∧ v53.toInt ≤ 1 := h_andn 1 (by decide) ev53
                    refine lv_iconst (v := 1) hx hb dX12_next_151 (by decide) ?_
                    refine lv_icmp_ne (tgt := 159) hx hb dX12_next_152 (by decide) (fun c54 => ?_) (fun c54 => ?_)
                    · have ic54 := (xi_ne c54 rfl (by decide) : v53.toInt ≠ 1)
                      refine lv_iload hx hb dX12_next_159 (lv_at hl 4 rfl) ?_
                      refine lv_isub hx hb dX12_next_161 ?_
                      refine lv_topi (fun v55 ev55 => ?_)
                      have jv55 : -2147483648 ≤ v55.toInt ∧ v55.toInt ≤ 2147483647 := ⟨xi_lo _, Int.le_of_lt_add_one (xi_hi _)⟩
                      refine h_ast hx hb g tb50 (by decide) so_1349 (xi_in (by omega) (by omega)) dX12_next_162 (fun I56 H locs eI56 g => ?_)
                      have hI := hI.wr eI56 tb50 (rfl : h_bd 1349 _ = ((-2147483648), 2147483647)) (xi_lo _) (Int.le_of_lt_add_one (xi_hi _))
                      have hF := hF.wr eI56 tb50 rfl
                      obtain ⟨v57, ev57⟩ : ∃ z : Int32, z = v14 + 1 := ⟨_, rfl⟩
                      have jv57 : v57.toInt = v14.toInt + 1 := xi_add ev57 rfl (by decide) (by omega) (by omega)
                      refine lv_iinc (v := v57) (lv' := [(5, .int v57), (0, .ref a0), (1, .int v5), (2, .int v6), (3, .int v11), (4, .int v13)]) hx hb dX12_next_163 hl (k := 5) rfl (by rw [ev57]; rfl) (by decide) rfl (fun ls hl => ?_)
                      refine lv_goto (tgt := 130) hx hb dX12_next_166 (by decide) ?_
                      exact ih130 I56 _ _ _ v57 g hI hF (lv_sub hl [1, 2, 3, 4, 5, 0] rfl) (by omega) (h_F.wr (h_F.call (h_F.rf : h_F [(1349, 999)] z I8 I8) hL130 rfl) eI56 tb50 rfl) (by omega)
                    · have ic54 := (xi_eq c54 rfl (by decide) : v53.toInt = 1)
                      refine lv_iconst (v := 0) hx hb dX12_next_155 (by decide) ?_
                      refine lv_goto (tgt := 161) hx hb dX12_next_156 (by decide) ?_
                      refine lv_isub hx hb dX12_next_161 ?_
                      refine lv_topi (fun v58 ev58 => ?_)
                      have jv58 : v58.toInt = v51.toInt - 0 := xi_sub ev58 rfl (by decide) (by omega) (by omega)
                      refine h_ast hx hb g tb50 (by decide) so_1349 (xi_in (by omega) (by omega)) dX12_next_162 (fun I59 H locs eI59 g => ?_)
                      have hI := hI.wr eI59 tb50 (rfl : h_bd 1349 _ = ((-2147483648), 2147483647)) (xi_lo _) (Int.le_of_lt_add_one (xi_hi _))
                      have hF := hF.wr eI59 tb50 rfl
                      obtain ⟨v60, ev60⟩ : ∃ z : Int32, z = v14 + 1 := ⟨_, rfl⟩
                      have jv60 : v60.toInt = v14.toInt + 1 := xi_add ev60 rfl (by decide) (by omega) (by omega)
                      refine lv_iinc (v := v60) (lv' := [(5, .int v60), (0, .ref a0), (1, .int v5), (2, .int v6), (3, .int v11), (4, .int v13)]) hx hb dX12_next_163 hl (k := 5) rfl (by rw [ev60]; rfl) (by decide) rfl (fun ls hl => ?_)
                      refine lv_goto (tgt := 130) hx hb dX12_next_166 (by decide) ?_
                      exact ih130 I59 _ _ _ v60 g hI hF (lv_sub hl [1, 2, 3, 4, 5, 0] rfl) (by omega) (h_F.wr (h_F.call (h_F.rf : h_F [(1349, 999)] z I8 I8) hL130 rfl) eI59 tb50 rfl) (by omega)
              exact loop130_1 _ I8 _ _ _ (0) g hI hF (lv_sub hl [3, 4, 5, 2, 1, 0] rfl) ⟨by decide, by decide⟩ (h_F.rf : h_F [(1349, 999)] z I8 I8) (show (8 - (0 : Int)) < (((8 - (0 : Int)).toNat + 1 : Nat) : Int) by omega)
            · have ic12 := (xi_eq c12 rfl (by decide) : v11.toInt = 0)
              refine lv_iconst (v := 0) hx hb dX12_next_118 (by decide) ?_
              refine lv_goto (tgt := 125) hx hb dX12_next_119 (by decide) ?_
              refine lv_istore (lv' := [(4, .int 0), (3, .int v11), (0, .ref a0), (1, .int v5), (2, .int v6)]) hx hb dX12_next_125 hl (by decide) rfl (fun ls hl => ?_)
              refine lv_iconst (v := 0) hx hb dX12_next_127 (by decide) ?_
              refine lv_istore (lv' := [(5, .int 0), (4, .int 0), (3, .int v11), (0, .ref a0), (1, .int v5), (2, .int v6)]) hx hb dX12_next_128 hl (by decide) rfl (fun ls hl => ?_)
              have loop130_4 : ∀ (n : Nat) (I62 : tI) (H : Heap) (locs : List Loc) (ls : Array Slot) (v61 : Int32), h_G h_so h_fk E A z I62 L0 s s.heap H locs → h_I z I62 → h_F [(1349, 999), (13, 50), (13, 12), (1322, 999), (1314, 999), (1324, 999), (13, 30), (13, 31), (13, 33)] z I0 I62 → lv_has ls 6 [(0, .ref a0), (1, .int v5), (2, .int v6), (3, .int v11), (4, .int 0), (5, .int v61)] → (0 ≤ v61.toInt ∧ v61.toInt ≤ 8) → h_F [(1349, 999)] z I8 I62 → (8 - v61.toInt) < (n : Int) → W pr_ l ev_ (headSpec wsX12_next ({ frames := 5, cells := 0, slots := 0, locals := 320 })).room s m ([.ref a0] : List Value).toArray below meth cd_ H locs 0 0 (MQ below (va_Qi (fun r (I1 : tI) => h_I z I1 ∧ h_F [(1349, 999), (13, 50), (13, 12), (1322, 999), (1314, 999), (1324, 999), (13, 30), (13, 31), (13, 33)] z I0 I1 ∧ True) (fun (I1 : tI) t => h_B E A z I1 L0 t) A) ([.ref a0] : List Value).toArray s 0 0 A) (F0 m 130 ls []) := by
                intro n
                induction n with
                | zero => intro I62 H locs ls v61 g hI hF hl jv61 hL130 hn; exact absurd hn (by omega)
                | succ n ih130 =>
                  intro I62 H locs ls v61 g hI hF hl jv61 hL130 hn
                  refine lv_iload hx hb dX12_next_130 (lv_at hl 5 rfl) ?_
                  refine lv_bipush (v := 8) hx hb dX12_next_132 (by decide) ?_
                  refine lv_icmp_ge (tgt := 169) hx hb dX12_next_134 (by decide) (fun c63 => ?_) (fun c63 => ?_)
                  · have ic63 := (xi_le c63 (by decide) rfl : 8 ≤ v61.toInt)
                    refine lv_aload_n hx hb dX12_next_169 rfl (lv_at hl 0 rfl) ?_
                    refine lv_dup hx hb dX12_next_170 rfl ?_
                    refine h_get (v := .int (I62 a0 50)) hx hb hts iX12 hown g t_a0 (by decide) so_13 rfl 50 (by decide) (hts (.fieldLink RX12 329 "CapLeagueModel" "league" "I") (by decide +kernel)) rfl dX12_next_171 rfl ?_
                    refine lv_topi (fun v64 ev64 => ?_)
                    have jv64 := hI.rd a0 50 t_a0 ev64 (rfl : h_bd 13 50 = ((-2147483648), 2147483647))
                    refine lv_iload_n hx hb dX12_next_174 rfl (lv_at hl 1 rfl) ?_
                    refine lv_iload hx hb dX12_next_175 (lv_at hl 4 rfl) ?_
                    refine lv_iload_n hx hb dX12_next_177 rfl (lv_at hl 3 rfl) ?_
                    refine lv_imul hx hb dX12_next_178 ?_
                    refine lv_topi (fun v65 ev65 => ?_)
                    have jv65 : v65.toInt = 0 * v11.toInt := xi_mul ev65 (by decide) rfl (by omega) (by omega)
                    refine lv_isub hx hb dX12_next_179 ?_
                    refine lv_topi (fun v66 ev66 => ?_)
                    have jv66 : v66.toInt = v5.toInt - v65.toInt := xi_sub ev66 rfl rfl (by omega) (by omega)
                    refine lv_iadd hx hb dX12_next_180 ?_
                    refine lv_topi (fun v67 ev67 => ?_)
                    have jv67 : -2147483648 ≤ v67.toInt ∧ v67.toInt ≤ 2147483647 := ⟨xi_lo _, Int.le_of_lt_add_one (xi_hi _)⟩
                    refine h_putI (ty := .int) (v := v67) hx hb hts iX12 tyX12 tyX12_ok nmX12 hown g t_a0 (by decide) so_13 rfl 50 (by decide) rfl (hts (.fieldLink RX12 329 "CapLeagueModel" "league" "I") (by decide +kernel)) rfl rfl (by decide +kernel) rfl rfl dX12_next_181 (fun I68 H locs eI68 g => ?_)
                    have hI := hI.wr eI68 t_a0 (rfl : h_bd 13 50 = ((-2147483648), 2147483647)) (xi_lo _) (Int.le_of_lt_add_one (xi_hi _))
                    have hF := hF.wr eI68 t_a0 rfl
                    refine lv_aload_n hx hb dX12_next_184 rfl (lv_at hl 0 rfl) ?_
                    refine lv_dup hx hb dX12_next_185 rfl ?_
                    refine h_get (v := .int v1) hx hb hts iX12 hown g t_a0 (by decide) so_13 rfl 12 (by decide) (hts (.fieldLink RX12 187 "CapLeagueModel" "clock" "I") (by decide +kernel)) rfl dX12_next_186 (congrArg Value.int ((h_n2 eI68 (by decide)).trans ((h_F.at hL130 t_a0 rfl).trans ((h_F.at hL25 t_a0 rfl).trans (ev1.symm))))) ?_
                    refine lv_iconst (v := 1) hx hb dX12_next_189 (by decide) ?_
                    refine lv_iadd hx hb dX12_next_190 ?_
                    refine lv_topi (fun v69 ev69 => ?_)
                    have jv69 : v69.toInt = v1.toInt + 1 := xi_add ev69 rfl (by decide) (by omega) (by omega)
                    refine h_putI (ty := .int) (v := v69) hx hb hts iX12 tyX12 tyX12_ok nmX12 hown g t_a0 (by decide) so_13 rfl 12 (by decide) rfl (hts (.fieldLink RX12 187 "CapLeagueModel" "clock" "I") (by decide +kernel)) rfl rfl (by decide +kernel) rfl rfl dX12_next_191 (fun I70 H locs eI70 g => ?_)
                    have hI := hI.wr eI70 t_a0 (rfl : h_bd 13 12 = (0, 9)) (by omega) (by omega)
                    have hF := hF.wr eI70 t_a0 rfl
                    refine lv_iconst (v := 0) hx hb dX12_next_194 (by decide) ?_
                    refine lv_istore (lv' := [(5, .int 0), (0, .ref a0), (1, .int v5), (2, .int v6), (3, .int v11), (4, .int 0)]) hx hb dX12_next_195 hl (by decide) rfl (fun ls hl => ?_)
                    have loop197_5 : ∀ (n : Nat) (I72 : tI) (H : Heap) (locs : List Loc) (ls : Array Slot) (v71 : Int32), h_G h_so h_fk E A z I72 L0 s s.heap H locs → h_I z I72 → h_F [(1349, 999), (13, 50), (13, 12), (1322, 999), (1314, 999), (1324, 999), (13, 30), (13, 31), (13, 33)] z I0 I72 → lv_has ls 6 [(0, .ref a0), (5, .int v71)] → (0 ≤ v71.toInt ∧ v71.toInt ≤ 60) → (60 - v71.toInt) < (n : Int) → W pr_ l ev_ (headSpec wsX12_next ({ frames := 5, cells := 0, slots := 0, locals := 320 })).room s m ([.ref a0] : List Value).toArray below meth cd_ H locs 0 0 (MQ below (va_Qi (fun r (I1 : tI) => h_I z I1 ∧ h_F [(1349, 999), (13, 50), (13, 12), (1322, 999), (1314, 999), (1324, 999), (13, 30), (13, 31), (13, 33)] z I0 I1 ∧ True) (fun (I1 : tI) t => h_B E A z I1 L0 t) A) ([.ref a0] : List Value).toArray s 0 0 A) (F0 m 197 ls []) := by
                      intro n
                      induction n with
                      | zero => intro I72 H locs ls v71 g hI hF hl jv71 hn; exact absurd hn (by omega)
                      | succ n ih197 =>
                        intro I72 H locs ls v71 g hI hF hl jv71 hn
                        refine lv_iload hx hb dX12_next_197 (lv_at hl 1 rfl) ?_
                        refine lv_aload_n hx hb dX12_next_199 rfl (lv_at hl 0 rfl) ?_
                        refine h_get (v := .int (I72 a0 13)) hx hb hts iX12 hown g t_a0 (by decide) so_13 rfl 13 (by decide) (hts (.fieldLink RX12 202 "CapLeagueModel" "players" "I") (by decide +kernel)) rfl dX12_next_200 rfl ?_
                        refine lv_topi (fun v73 ev73 => ?_)
                        have jv73 := hI.rd a0 13 t_a0 ev73 (rfl : h_bd 13 13 = (0, 60))
                        refine lv_icmp_ge (tgt := 252) hx hb dX12_next_203 (by decide) (fun c74 => ?_) (fun c74 => ?_)
                        · have ic74 := (xi_le c74 rfl rfl : v73.toInt ≤ v71.toInt)
                          refine lv_iconst (v := 0) hx hb dX12_next_252 (by decide) ?_
                          refine lv_istore (lv' := [(5, .int 0), (0, .ref a0)]) hx hb dX12_next_253 hl (by decide) rfl (fun ls hl => ?_)
                          have loop255_6 : ∀ (n : Nat) (I76 : tI) (H : Heap) (locs : List Loc) (ls : Array Slot) (v75 : Int32), h_G h_so h_fk E A z I76 L0 s s.heap H locs → h_I z I76 → h_F [(1349, 999), (13, 50), (13, 12), (1322, 999), (1314, 999), (1324, 999), (13, 30), (13, 31), (13, 33)] z I0 I76 → lv_has ls 6 [(0, .ref a0), (5, .int v75)] → (0 ≤ v75.toInt ∧ v75.toInt ≤ 8) → (8 - v75.toInt) < (n : Int) → W pr_ l ev_ (headSpec wsX12_next ({ frames := 5, cells := 0, slots := 0, locals := 320 })).room s m ([.ref a0] : List Value).toArray below meth cd_ H locs 0 0 (MQ below (va_Qi (fun r (I1 : tI) => h_I z I1 ∧ h_F [(1349, 999), (13, 50), (13, 12), (1322, 999), (1314, 999), (1324, 999), (13, 30), (13, 31), (13, 33)] z I0 I1 ∧ True) (fun (I1 : tI) t => h_B E A z I1 L0 t) A) ([.ref a0] : List Value).toArray s 0 0 A) (F0 m 255 ls []) := by
                            intro n
                            induction n with
                            | zero => intro I76 H locs ls v75 g hI hF hl jv75 hn; exact absurd hn (by omega)
                            | succ n ih255 =>
                              intro I76 H locs ls v75 g hI hF hl jv75 hn
                              refine lv_iload hx hb dX12_next_255 (lv_at hl 1 rfl) ?_
                              refine lv_bipush (v := 8) hx hb dX12_next_257 (by decide) ?_
                              refine lv_icmp_ge (tgt := 276) hx hb dX12_next_259 (by decide) (fun c77 => ?_) (fun c77 => ?_)
                              · have ic77 := (xi_le c77 (by decide) rfl : 8 ≤ v75.toInt)
                                refine lv_aload_n hx hb dX12_next_276 rfl (lv_at hl 0 rfl) ?_
                                refine lv_iconst (v := 0) hx hb dX12_next_277 (by decide) ?_
                                refine h_putI (ty := .boolean) (v := 0) hx hb hts iX12 tyX12 tyX12_ok nmX12 hown g t_a0 (by decide) so_13 rfl 30 (by decide) rfl (hts (.fieldLink RX12 306 "CapLeagueModel" "hasTable" "Z") (by decide +kernel)) rfl rfl (by decide +kernel) (by decide) (by decide) dX12_next_278 (fun I78 H locs eI78 g => ?_)
                                have hI := hI.wr eI78 t_a0 (rfl : h_bd 13 30 = (0, 1)) (by decide) (by decide)
                                have hF := hF.wr eI78 t_a0 rfl
                                refine lv_aload_n hx hb dX12_next_281 rfl (lv_at hl 0 rfl) ?_
                                refine lv_iconst (v := 0) hx hb dX12_next_282 (by decide) ?_
                                refine h_putI (ty := .boolean) (v := 0) hx hb hts iX12 tyX12 tyX12_ok nmX12 hown g t_a0 (by decide) so_13 rfl 31 (by decide) rfl (hts (.fieldLink RX12 264 "CapLeagueModel" "isDrawn" "Z") (by decide +kernel)) rfl rfl (by decide +kernel) (by decide) (by decide) dX12_next_283 (fun I79 H locs eI79 g => ?_)
                                have hI := hI.wr eI79 t_a0 (rfl : h_bd 13 31 = (0, 1)) (by decide) (by decide)
                                have hF := hF.wr eI79 t_a0 rfl
                                refine lv_aload_n hx hb dX12_next_286 rfl (lv_at hl 0 rfl) ?_
                                refine lv_iconst (v := 0) hx hb dX12_next_287 (by decide) ?_
                                refine h_putI (ty := .int) (v := 0) hx hb hts iX12 tyX12 tyX12_ok nmX12 hown g t_a0 (by decide) so_13 rfl 33 (by decide) rfl (hts (.fieldLink RX12 247 "CapLeagueModel" "moves" "I") (by decide +kernel)) rfl rfl (by decide +kernel) rfl rfl dX12_next_288 (fun I80 H locs eI80 g => ?_)
                                have hI := hI.wr eI80 t_a0 (rfl : h_bd 13 33 = (0, 12)) (by decide) (by decide)
                                have hF := hF.wr eI80 t_a0 rfl
                                refine lv_aload_n hx hb dX12_next_291 rfl (lv_at hl 0 rfl) ?_
                                refine h_get (v := .int (I80 a0 12)) hx hb hts iX12 hown g t_a0 (by decide) so_13 rfl 12 (by decide) (hts (.fieldLink RX12 187 "CapLeagueModel" "clock" "I") (by decide +kernel)) rfl dX12_next_292 rfl ?_
                                refine lv_topi (fun v81 ev81 => ?_)
                                have jv81 := hI.rd a0 12 t_a0 ev81 (rfl : h_bd 13 12 = (0, 9))
                                have hS := g.2.1
                                exact W.iret (v := v81) hx hb hr (fun t ht hW => ⟨⟨v81, I80, rfl, ⟨hI, hF, trivial⟩, h_ret g ht⟩, hS.F ht⟩) hS.2.2 dX12_next_295
                              · have ic77 := (xi_nle c77 (by decide) rfl : v75.toInt < 8)
                                refine lv_aload_n hx hb dX12_next_262 rfl (lv_at hl 0 rfl) ?_
                                obtain ⟨b82, rb82, tb82⟩ := hR.at a0 24 t_a0 (rfl : h_rs 13 24 = some (1324, false)) (by decide)
                                refine h_get (v := .ref b82) hx hb hts iX12 hown g t_a0 (by decide) so_13 rfl 24 (by decide) (hts (.fieldLink RX12 55 "CapLeagueModel" "usedSpare" "[Z") (by decide +kernel)) rfl dX12_next_263 (by show va_rf (z.R a0 24) = _; rw [rb82]; rfl) ?_
                                refine lv_iload hx hb dX12_next_266 (lv_at hl 1 rfl) ?_
                                refine lv_iconst (v := 0) hx hb dX12_next_268 (by decide) ?_
                                refine h_zast hx hb g tb82 (by decide) so_1324 (xi_in (by omega) (by omega)) dX12_next_269 (fun I83 H locs eI83 g => ?_)
                                rw [h_nz (by decide) (by decide)] at eI83
                                have hI := hI.wr eI83 tb82 (rfl : h_bd 1324 _ = (0, 1)) (by decide) (by decide)
                                have hF := hF.wr eI83 tb82 rfl
                                obtain ⟨v84, ev84⟩ : ∃ z : Int32, z = v75 + 1 := ⟨_, rfl⟩
                                have jv84 : v84.toInt = v75.toInt + 1 := xi_add ev84 rfl (by decide) (by omega) (by omega)
                                refine lv_iinc (v := v84) (lv' := [(5, .int v84), (0, .ref a0)]) hx hb dX12_next_270 hl (k := 1) rfl (by rw [ev84]; rfl) (by decide) rfl (fun ls hl => ?_)
                                refine lv_goto (tgt := 255) hx hb dX12_next_273 (by decide) ?_
                                exact ih255 I83 _ _ _ v84 g hI hF (lv_sub hl [1, 0] rfl) (by omega) (by omega)
                          exact loop255_6 _ I72 _ _ _ (0) g hI hF (lv_sub hl [1, 0] rfl) ⟨by decide, by decide⟩ (show (8 - (0 : Int)) < (((8 - (0 : Int)).toNat + 1 : Nat) : Int) by omega)
                        · have ic74 := (xi_nle c74 rfl rfl : v71.toInt < v73.toInt)
                          refine lv_aload_n hx hb dX12_next_206 rfl (lv_at hl 0 rfl) ?_
                          obtain ⟨b85, rb85, tb85⟩ := hR.at a0 22 t_a0 (rfl : h_rs 13 22 = some (1322, false)) (by decide)
                          refine h_get (v := .ref b85) hx hb hts iX12 hown g t_a0 (by decide) so_13 rfl 22 (by decide) (hts (.fieldLink RX12 49 "CapLeagueModel" "isHurt" "[Z") (by decide +kernel)) rfl dX12_next_207 (by show va_rf (z.R a0 22) = _; rw [rb85]; rfl) ?_
                          refine lv_iload hx hb dX12_next_210 (lv_at hl 1 rfl) ?_
                          refine lv_iconst (v := 0) hx hb dX12_next_212 (by decide) ?_
                          refine h_zast hx hb g tb85 (by decide) so_1322 (xi_in (by omega) (by omega)) dX12_next_213 (fun I86 H locs eI86 g => ?_)
                          rw [h_nz (by decide) (by decide)] at eI86
                          have hI := hI.wr eI86 tb85 (rfl : h_bd 1322 _ = (0, 1)) (by decide) (by decide)
                          have hF := hF.wr eI86 tb85 rfl
                          refine lv_aload_n hx hb dX12_next_214 rfl (lv_at hl 0 rfl) ?_
                          obtain ⟨b87, rb87, tb87⟩ := hR.at a0 14 t_a0 (rfl : h_rs 13 14 = some (1314, false)) (by decide)
                          refine h_get (v := .ref b87) hx hb hts iX12 hown g t_a0 (by decide) so_13 rfl 14 (by decide) (hts (.fieldLink RX12 25 "CapLeagueModel" "clubOf" "[I") (by decide +kernel)) rfl dX12_next_215 (by show va_rf (z.R a0 14) = _; rw [rb87]; rfl) ?_
                          refine lv_iload hx hb dX12_next_218 (lv_at hl 1 rfl) ?_
                          refine h_ald hx hb g tb87 (by decide) so_1314 (xi_in (by omega) (by omega)) dX12_next_220 ?_
                          refine lv_topi (fun v88 ev88 => ?_)
                          have jv88 := hI.rd b87 v71.toNatClampNeg tb87 ev88 (rfl : h_bd 1314 _ = ((-1), 7))
                          refine lv_iconst (v := (-1)) hx hb dX12_next_221 (by decide) ?_
                          refine lv_icmp_eq (tgt := 246) hx hb dX12_next_222 (by decide) (fun c89 => ?_) (fun c89 => ?_)
                          · have ic89 := (xi_eq c89 rfl (by decide) : v88.toInt = (-1))
                            obtain ⟨v90, ev90⟩ : ∃ z : Int32, z = v71 + 1 := ⟨_, rfl⟩
                            have jv90 : v90.toInt = v71.toInt + 1 := xi_add ev90 rfl (by decide) (by omega) (by omega)
                            refine lv_iinc (v := v90) (lv' := [(5, .int v90), (0, .ref a0)]) hx hb dX12_next_246 hl (k := 1) rfl (by rw [ev90]; rfl) (by decide) rfl (fun ls hl => ?_)
                            refine lv_goto (tgt := 197) hx hb dX12_next_249 (by decide) ?_
                            exact ih197 I86 _ _ _ v90 g hI hF (lv_sub hl [1, 0] rfl) (by omega) (by omega)
                          · have ic89 := (xi_ne c89 rfl (by decide) : v88.toInt ≠ (-1))
                            refine lv_aload_n hx hb dX12_next_225 rfl (lv_at hl 0 rfl) ?_
                            refine lv_iload hx hb dX12_next_226 (lv_at hl 1 rfl) ?_
                            refine lv_aload_n hx hb dX12_next_228 rfl (lv_at hl 0 rfl) ?_
                            refine h_get (v := .int (I86 a0 12)) hx hb hts iX12 hown g t_a0 (by decide) so_13 rfl 12 (by decide) (hts (.fieldLink RX12 187 "CapLeagueModel" "clock" "I") (by decide +kernel)) rfl dX12_next_229 rfl ?_
                            refine lv_topi (fun v91 ev91 => ?_)
                            have jv91 := hI.rd a0 12 t_a0 ev91 (rfl : h_bd 13 12 = (0, 9))
                            refine vp_callSi (W.runV (As := [.int v71, .int v91]) (rest := []) ⟨hx, hb, hml, hown, hts⟩ (tX12_isUnder l E X A z I86 L0 a0 t_a0 v71 (v71.toInt) rfl (by omega) v91 (v91.toInt) rfl) (cwV 2 hts gX12_next_X12_isUnder rfl rfl rfl (by decide +kernel) ⟨Nat.le_of_ble_eq_true rfl, Nat.le_of_ble_eq_true rfl⟩) ⟨h_blind _ _ _ _ _ _ _, h_recv g t_a0 (by decide) so_13 (q := (RX12, TX12, 51)) rfl, h_pre _ hE hk hX hA hI hR g⟩ rfl rfl hl.1 rfl (lv_room (Nat.le_of_ble_eq_true rfl)) dX12_next_232 ⟨Nat.le_of_ble_eq_true rfl, Nat.le_of_ble_eq_true rfl⟩) (fun rh92 h92 => ?_)
                            refine lv_if_ne (tgt := 246) hx hb dX12_next_235 (by decide) (fun c93 => ?_) (fun c93 => ?_)
                            · have ic93 := (xi_ne c93 rfl (by decide) : rh92.toInt ≠ 0)
                              obtain ⟨v94, ev94⟩ : ∃ z : Int32, z = v71 + 1 := ⟨_, rfl⟩
                              have jv94 : v94.toInt = v71.toInt + 1 := xi_add ev94 rfl (by decide) (by omega) (by omega)
                              refine lv_iinc (v := v94) (lv' := [(5, .int v94), (0, .ref a0)]) hx hb dX12_next_246 hl (k := 1) rfl (by rw [ev94]; rfl) (by decide) rfl (fun ls hl => ?_)
                              refine lv_goto (tgt := 197) hx hb dX12_next_249 (by decide) ?_
                              exact ih197 I86 _ _ _ v94 g hI hF (lv_sub hl [1, 0] rfl) (by omega) (by omega)
                            · have ic93 := (xi_eq c93 rfl (by decide) : rh92.toInt = 0)
                              refine lv_aload_n hx hb dX12_next_238 rfl (lv_at hl 0 rfl) ?_
                              refine h_get (v := .ref b87) hx hb hts iX12 hown g t_a0 (by decide) so_13 rfl 14 (by decide) (hts (.fieldLink RX12 25 "CapLeagueModel" "clubOf" "[I") (by decide +kernel)) rfl dX12_next_239 (by show va_rf (z.R a0 14) = _; rw [rb87]; rfl) ?_
                              refine lv_iload hx hb dX12_next_242 (lv_at hl 1 rfl) ?_
                              refine lv_iconst (v := (-1)) hx hb dX12_next_244 (by decide) ?_
                              refine h_ast hx hb g tb87 (by decide) so_1314 (xi_in (by omega) (by omega)) dX12_next_245 (fun I95 H locs eI95 g => ?_)
                              have hI := hI.wr eI95 tb87 (rfl : h_bd 1314 _ = ((-1), 7)) (by decide) (by decide)
                              have hF := hF.wr eI95 tb87 rfl
                              obtain ⟨v96, ev96⟩ : ∃ z : Int32, z = v71 + 1 := ⟨_, rfl⟩
                              have jv96 : v96.toInt = v71.toInt + 1 := xi_add ev96 rfl (by decide) (by omega) (by omega)
                              refine lv_iinc (v := v96) (lv' := [(5, .int v96), (0, .ref a0)]) hx hb dX12_next_246 hl (k := 1) rfl (by rw [ev96]; rfl) (by decide) rfl (fun ls hl => ?_)
                              refine lv_goto (tgt := 197) hx hb dX12_next_249 (by decide) ?_
                              exact ih197 I95 _ _ _ v96 g hI hF (lv_sub hl [1, 0] rfl) (by omega) (by omega)
                    exact loop197_5 _ I70 _ _ _ (0) g hI hF (lv_sub hl [1, 0] rfl) ⟨by decide, by decide⟩ (show (60 - (0 : Int)) < (((60 - (0 : Int)).toNat + 1 : Nat) : Int) by omega)
                  · have ic63 := (xi_nle c63 (by decide) rfl : v61.toInt < 8)
                    refine lv_aload_n hx hb dX12_next_137 rfl (lv_at hl 0 rfl) ?_
                    obtain ⟨b97, rb97, tb97⟩ := hR.at a0 49 t_a0 (rfl : h_rs 13 49 = some (1349, false)) (by decide)
                    refine h_get (v := .ref b97) hx hb hts iX12 hown g t_a0 (by decide) so_13 rfl 49 (by decide) (hts (.fieldLink RX12 112 "CapLeagueModel" "purse" "[I") (by decide +kernel)) rfl dX12_next_138 (by show va_rf (z.R a0 49) = _; rw [rb97]; rfl) ?_
                    refine lv_iload hx hb dX12_next_141 (lv_at hl 5 rfl) ?_
                    refine lv_dup2_11 hx hb dX12_next_143 rfl rfl ?_
                    refine h_ald hx hb g tb97 (by decide) so_1349 (xi_in (by omega) (by omega)) dX12_next_144 ?_
                    refine lv_topi (fun v98 ev98 => ?_)
                    have jv98 := hI.rd b97 v61.toNatClampNeg tb97 ev98 (rfl : h_bd 1349 _ = ((-2147483648), 2147483647))
                    refine lv_iload_n hx hb dX12_next_145 rfl (lv_at hl 2 rfl) ?_
                    refine lv_iload hx hb dX12_next_146 (lv_at hl 5 rfl) ?_
                    refine lv_ishr hx hb dX12_next_148 ?_
                    refine lv_topi (fun v99 ev99 => ?_)
                    have jv99 : -2147483648 ≤ v99.toInt ∧ v99.toInt ≤ 2147483647 := ⟨xi_lo _, Int.le_of_lt_add_one (xi_hi _)⟩
                    refine lv_iconst (v := 1) hx hb dX12_next_149 (by decide) ?_
                    refine lv_iand hx hb dX12_next_150 ?_
                    refine lv_topi (fun v100 ev100 => ?_)
                    have jv100 : 0 ≤ v100.toInt ∧ v100.toInt ≤ 1 := h_andn 1 (by decide) ev100
                    refine lv_iconst (v := 1) hx hb dX12_next_151 (by decide) ?_
                    refine lv_icmp_ne (tgt := 159) hx hb dX12_next_152 (by decide) (fun c101 => ?_) (fun c101 => ?_)
                    · have ic101 := (xi_ne c101 rfl (by decide) : v100.toInt ≠ 1)
                      refine lv_iload hx hb dX12_next_159 (lv_at hl 4 rfl) ?_
                      refine lv_isub hx hb dX12_next_161 ?_
                      refine lv_topi (fun v102 ev102 => ?_)
                      have jv102 : v102.toInt = v98.toInt - 0 := xi_sub ev102 rfl (by decide) (by omega) (by omega)
                      refine h_ast hx hb g tb97 (by decide) so_1349 (xi_in (by omega) (by omega)) dX12_next_162 (fun I103 H locs eI103 g => ?_)
                      have hI := hI.wr eI103 tb97 (rfl : h_bd 1349 _ = ((-2147483648), 2147483647)) (xi_lo _) (Int.le_of_lt_add_one (xi_hi _))
                      have hF := hF.wr eI103 tb97 rfl
                      obtain ⟨v104, ev104⟩ : ∃ z : Int32, z = v61 + 1 := ⟨_, rfl⟩
                      have jv104 : v104.toInt = v61.toInt + 1 := xi_add ev104 rfl (by decide) (by omega) (by omega)
                      refine lv_iinc (v := v104) (lv' := [(5, .int v104), (0, .ref a0), (1, .int v5), (2, .int v6), (3, .int v11), (4, .int 0)]) hx hb dX12_next_163 hl (k := 5) rfl (by rw [ev104]; rfl) (by decide) rfl (fun ls hl => ?_)
                      refine lv_goto (tgt := 130) hx hb dX12_next_166 (by decide) ?_
                      exact ih130 I103 _ _ _ v104 g hI hF (lv_sub hl [1, 2, 3, 4, 5, 0] rfl) (by omega) (h_F.wr (h_F.call (h_F.rf : h_F [(1349, 999)] z I8 I8) hL130 rfl) eI103 tb97 rfl) (by omega)
                    · have ic101 := (xi_eq c101 rfl (by decide) : v100.toInt = 1)
                      refine lv_iconst (v := 0) hx hb dX12_next_155 (by decide) ?_
                      refine lv_goto (tgt := 161) hx hb dX12_next_156 (by decide) ?_
                      refine lv_isub hx hb dX12_next_161 ?_
                      refine lv_topi (fun v105 ev105 => ?_)
                      have jv105 : v105.toInt = v98.toInt - 0 := xi_sub ev105 rfl (by decide) (by omega) (by omega)
                      refine h_ast hx hb g tb97 (by decide) so_1349 (xi_in (by omega) (by omega)) dX12_next_162 (fun I106 H locs eI106 g => ?_)
                      have hI := hI.wr eI106 tb97 (rfl : h_bd 1349 _ = ((-2147483648), 2147483647)) (xi_lo _) (Int.le_of_lt_add_one (xi_hi _))
                      have hF := hF.wr eI106 tb97 rfl
                      obtain ⟨v107, ev107⟩ : ∃ z : Int32, z = v61 + 1 := ⟨_, rfl⟩
                      have jv107 : v107.toInt = v61.toInt + 1 := xi_add ev107 rfl (by decide) (by omega) (by omega)
                      refine lv_iinc (v := v107) (lv' := [(5, .int v107), (0, .ref a0), (1, .int v5), (2, .int v6), (3, .int v11), (4, .int 0)]) hx hb dX12_next_163 hl (k := 5) rfl (by rw [ev107]; rfl) (by decide) rfl (fun ls hl => ?_)
                      refine lv_goto (tgt := 130) hx hb dX12_next_166 (by decide) ?_
                      exact ih130 I106 _ _ _ v107 g hI hF (lv_sub hl [1, 2, 3, 4, 5, 0] rfl) (by omega) (h_F.wr (h_F.call (h_F.rf : h_F [(1349, 999)] z I8 I8) hL130 rfl) eI106 tb97 rfl) (by omega)
              exact loop130_4 _ I8 _ _ _ (0) g hI hF (lv_sub hl [3, 4, 5, 2, 1, 0] rfl) ⟨by decide, by decide⟩ (h_F.rf : h_F [(1349, 999)] z I8 I8) (show (8 - (0 : Int)) < (((8 - (0 : Int)).toNat + 1 : Nat) : Int) by omega)
          · have ic9 := (xi_nle c9 (by decide) rfl : v7.toInt < 8)
            refine lv_aload_n hx hb dX12_next_31 rfl (lv_at hl 0 rfl) ?_
            refine lv_iload_n hx hb dX12_next_32 rfl (lv_at hl 3 rfl) ?_
            refine lv_aload_n hx hb dX12_next_33 rfl (lv_at hl 0 rfl) ?_
            refine h_get (v := .int v1) hx hb hts iX12 hown g t_a0 (by decide) so_13 rfl 12 (by decide) (hts (.fieldLink RX12 187 "CapLeagueModel" "clock" "I") (by decide +kernel)) rfl dX12_next_34 (congrArg Value.int ((h_F.at hL25 t_a0 rfl).trans (ev1.symm))) ?_
            refine vp_callSi (W.runV (As := [.int v7, .int v1]) (rest := []) ⟨hx, hb, hml, hown, hts⟩ (tX12_counts l E X A z I8 L0 a0 t_a0 v7 (v7.toInt) rfl (by omega) v1 (v1.toInt) rfl (by omega)) (cwV 2 hts gX12_next_X12_counts rfl rfl rfl (by decide +kernel) ⟨Nat.le_of_ble_eq_true rfl, Nat.le_of_ble_eq_true rfl⟩) ⟨h_blind _ _ _ _ _ _ _, h_recv g t_a0 (by decide) so_13 (q := (RX12, TX12, 51)) rfl, h_pre _ hE hk hX hA hI hR g⟩ rfl rfl hl.1 rfl (lv_room (Nat.le_of_ble_eq_true rfl)) dX12_next_37 ⟨Nat.le_of_ble_eq_true rfl, Nat.le_of_ble_eq_true rfl⟩) (fun rh108 h108 => ?_)
            have jrh108 : -2147483648 ≤ rh108.toInt ∧ rh108.toInt ≤ 2147483647 := ⟨xi_lo _, Int.le_of_lt_add_one (xi_hi _)⟩
            refine lv_aload_n hx hb dX12_next_40 rfl (lv_at hl 0 rfl) ?_
            refine lv_aload_n hx hb dX12_next_41 rfl (lv_at hl 0 rfl) ?_
            refine h_get (v := .int v1) hx hb hts iX12 hown g t_a0 (by decide) so_13 rfl 12 (by decide) (hts (.fieldLink RX12 187 "CapLeagueModel" "clock" "I") (by decide +kernel)) rfl dX12_next_42 (congrArg Value.int ((h_F.at hL25 t_a0 rfl).trans (ev1.symm))) ?_
            refine lv_iconst (v := 0) hx hb dX12_next_45 (by decide) ?_
            refine vp_callSi (W.runV (As := [.int v1, .int 0]) (rest := [.int rh108]) ⟨hx, hb, hml, hown, hts⟩ (tX12_lawOf l E X A z I8 L0 a0 t_a0 v1 (v1.toInt) rfl (by omega) 0 (0) (by decide) (by omega)) (cwV 2 hts gX12_next_X12_lawOf rfl rfl rfl (by decide +kernel) ⟨Nat.le_of_ble_eq_true rfl, Nat.le_of_ble_eq_true rfl⟩) ⟨h_blind _ _ _ _ _ _ _, h_recv g t_a0 (by decide) so_13 (q := (RX12, TX12, 51)) rfl, h_pre _ hE hk hX hA hI hR g⟩ rfl rfl hl.1 rfl (lv_room (Nat.le_of_ble_eq_true rfl)) dX12_next_46 ⟨Nat.le_of_ble_eq_true rfl, Nat.le_of_ble_eq_true rfl⟩) (fun rh109 h109 => ?_)
            have jrh109 : -2147483648 ≤ rh109.toInt ∧ rh109.toInt ≤ 2147483647 := ⟨xi_lo _, Int.le_of_lt_add_one (xi_hi _)⟩
            refine lv_isub hx hb dX12_next_49 ?_
            refine lv_topi (fun v110 ev110 => ?_)
            have jv110 : -2147483648 ≤ v110.toInt ∧ v110.toInt ≤ 2147483647 := ⟨xi_lo _, Int.le_of_lt_add_one (xi_hi _)⟩
            refine lv_istore (lv' := [(4, .int v110), (0, .ref a0), (1, .int v5), (2, .int v6), (3, .int v7)]) hx hb dX12_next_50 hl (by decide) rfl (fun ls hl => ?_)
            refine lv_iload hx hb dX12_next_52 (lv_at hl 0 rfl) ?_
            refine lv_if_gt (tgt := 60) hx hb dX12_next_54 (by decide) (fun c111 => ?_) (fun c111 => ?_)
            · have ic111 := (xi_lt c111 (by decide) rfl : 0 < v110.toInt)
              refine lv_iload_n hx hb dX12_next_60 rfl (lv_at hl 3 rfl) ?_
              refine lv_iconst (v := 1) hx hb dX12_next_61 (by decide) ?_
              refine lv_iload_n hx hb dX12_next_62 rfl (lv_at hl 4 rfl) ?_
              refine lv_ishl hx hb dX12_next_63 ?_
              refine lv_topi (fun v112 ev112 => ?_)
              have jv112 : -2147483648 ≤ v112.toInt ∧ v112.toInt ≤ 2147483647 := ⟨xi_lo _, Int.le_of_lt_add_one (xi_hi _)⟩
              refine lv_ior hx hb dX12_next_64 ?_
              refine lv_topi (fun v113 ev113 => ?_)
              have jv113 : -2147483648 ≤ v113.toInt ∧ v113.toInt ≤ 2147483647 := ⟨xi_lo _, Int.le_of_lt_add_one (xi_hi _)⟩
              refine lv_istore_n (lv' := [(2, .int v113), (4, .int v110), (0, .ref a0), (1, .int v5), (3, .int v7)]) hx hb dX12_next_65 rfl hl (by decide) rfl (fun ls hl => ?_)
              refine lv_iload hx hb dX12_next_66 (lv_at hl 1 rfl) ?_
              refine lv_aload_n hx hb dX12_next_68 rfl (lv_at hl 2 rfl) ?_
              refine lv_aload_n hx hb dX12_next_69 rfl (lv_at hl 2 rfl) ?_
              refine h_get (v := .int v1) hx hb hts iX12 hown g t_a0 (by decide) so_13 rfl 12 (by decide) (hts (.fieldLink RX12 187 "CapLeagueModel" "clock" "I") (by decide +kernel)) rfl dX12_next_70 (congrArg Value.int ((h_F.at hL25 t_a0 rfl).trans (ev1.symm))) ?_
              refine lv_bipush (v := 7) hx hb dX12_next_73 (by decide) ?_
              refine vp_callSi (W.runV (As := [.int v1, .int 7]) (rest := [.int v110]) ⟨hx, hb, hml, hown, hts⟩ (tX12_lawOf l E X A z I8 L0 a0 t_a0 v1 (v1.toInt) rfl (by omega) 7 (7) (by decide) (by omega)) (cwV 2 hts gX12_next_X12_lawOf rfl rfl rfl (by decide +kernel) ⟨Nat.le_of_ble_eq_true rfl, Nat.le_of_ble_eq_true rfl⟩) ⟨h_blind _ _ _ _ _ _ _, h_recv g t_a0 (by decide) so_13 (q := (RX12, TX12, 51)) rfl, h_pre _ hE hk hX hA hI hR g⟩ rfl rfl hl.1 rfl (lv_room (Nat.le_of_ble_eq_true rfl)) dX12_next_75 ⟨Nat.le_of_ble_eq_true rfl, Nat.le_of_ble_eq_true rfl⟩) (fun rh114 h114 => ?_)
              have jrh114 : -2147483648 ≤ rh114.toInt ∧ rh114.toInt ≤ 2147483647 := ⟨xi_lo _, Int.le_of_lt_add_one (xi_hi _)⟩
              refine lv_imul hx hb dX12_next_78 ?_
              refine lv_topi (fun v115 ev115 => ?_)
              have jv115 : -2147483648 ≤ v115.toInt ∧ v115.toInt ≤ 2147483647 := ⟨xi_lo _, Int.le_of_lt_add_one (xi_hi _)⟩
              refine lv_bipush (v := 100) hx hb dX12_next_79 (by decide) ?_
              refine lv_idiv hx hb dX12_next_81 (by decide) ?_
              refine lv_topi (fun v116 ev116 => ?_)
              have jv116 : -2147483648 ≤ v116.toInt ∧ v116.toInt ≤ 2147483647 := ⟨xi_lo _, Int.le_of_lt_add_one (xi_hi _)⟩
              refine lv_istore (lv' := [(5, .int v116), (2, .int v113), (4, .int v110), (0, .ref a0), (1, .int v5), (3, .int v7)]) hx hb dX12_next_82 hl (by decide) rfl (fun ls hl => ?_)
              refine lv_aload_n hx hb dX12_next_84 rfl (lv_at hl 3 rfl) ?_
              obtain ⟨b117, rb117, tb117⟩ := hR.at a0 49 t_a0 (rfl : h_rs 13 49 = some (1349, false)) (by decide)
              refine h_get (v := .ref b117) hx hb hts iX12 hown g t_a0 (by decide) so_13 rfl 49 (by decide) (hts (.fieldLink RX12 112 "CapLeagueModel" "purse" "[I") (by decide +kernel)) rfl dX12_next_85 (by show va_rf (z.R a0 49) = _; rw [rb117]; rfl) ?_
              refine lv_iload_n hx hb dX12_next_88 rfl (lv_at hl 5 rfl) ?_
              refine lv_dup2_11 hx hb dX12_next_89 rfl rfl ?_
              refine h_ald hx hb g tb117 (by decide) so_1349 (xi_in (by omega) (by omega)) dX12_next_90 ?_
              refine lv_topi (fun v118 ev118 => ?_)
              have jv118 := hI.rd b117 v7.toNatClampNeg tb117 ev118 (rfl : h_bd 1349 _ = ((-2147483648), 2147483647))
              refine lv_iload hx hb dX12_next_91 (lv_at hl 0 rfl) ?_
              refine lv_iadd hx hb dX12_next_93 ?_
              refine lv_topi (fun v119 ev119 => ?_)
              have jv119 : -2147483648 ≤ v119.toInt ∧ v119.toInt ≤ 2147483647 := ⟨xi_lo _, Int.le_of_lt_add_one (xi_hi _)⟩
              refine h_ast hx hb g tb117 (by decide) so_1349 (xi_in (by omega) (by omega)) dX12_next_94 (fun I120 H locs eI120 g => ?_)
              have hI := hI.wr eI120 tb117 (rfl : h_bd 1349 _ = ((-2147483648), 2147483647)) (xi_lo _) (Int.le_of_lt_add_one (xi_hi _))
              have hF := hF.wr eI120 tb117 rfl
              refine lv_iload_n hx hb dX12_next_95 rfl (lv_at hl 4 rfl) ?_
              refine lv_iload hx hb dX12_next_96 (lv_at hl 0 rfl) ?_
              refine lv_iadd hx hb dX12_next_98 ?_
              refine lv_topi (fun v121 ev121 => ?_)
              have jv121 : -2147483648 ≤ v121.toInt ∧ v121.toInt ≤ 2147483647 := ⟨xi_lo _, Int.le_of_lt_add_one (xi_hi _)⟩
              refine lv_istore_n (lv' := [(1, .int v121), (5, .int v116), (2, .int v113), (4, .int v110), (0, .ref a0), (3, .int v7)]) hx hb dX12_next_99 rfl hl (by decide) rfl (fun ls hl => ?_)
              obtain ⟨v122, ev122⟩ : ∃ z : Int32, z = v7 + 1 := ⟨_, rfl⟩
              have jv122 : v122.toInt = v7.toInt + 1 := xi_add ev122 rfl (by decide) (by omega) (by omega)
              refine lv_iinc (v := v122) (lv' := [(3, .int v122), (1, .int v121), (5, .int v116), (2, .int v113), (4, .int v110), (0, .ref a0)]) hx hb dX12_next_100 hl (k := 5) rfl (by rw [ev122]; rfl) (by decide) rfl (fun ls hl => ?_)
              refine lv_goto (tgt := 25) hx hb dX12_next_103 (by decide) ?_
              exact ih25 I120 _ _ _ v121 v113 v122 g hI hF (lv_sub hl [5, 1, 3, 0] rfl) (by omega) (by omega) (by omega) (h_F.wr (h_F.call (h_F.rf : h_F [(1349, 999)] z I0 I0) hL25 rfl) eI120 tb117 rfl) (by omega)
            · have ic111 := (xi_nlt c111 (by decide) rfl : v110.toInt ≤ 0)
              refine lv_goto (tgt := 100) hx hb dX12_next_57 (by decide) ?_
              obtain ⟨v123, ev123⟩ : ∃ z : Int32, z = v7 + 1 := ⟨_, rfl⟩
              have jv123 : v123.toInt = v7.toInt + 1 := xi_add ev123 rfl (by decide) (by omega) (by omega)
              refine lv_iinc (v := v123) (lv' := [(3, .int v123), (4, .int v110), (0, .ref a0), (1, .int v5), (2, .int v6)]) hx hb dX12_next_100 hl (k := 4) rfl (by rw [ev123]; rfl) (by decide) rfl (fun ls hl => ?_)
              refine lv_goto (tgt := 25) hx hb dX12_next_103 (by decide) ?_
              exact ih25 I8 _ _ _ v5 v6 v123 g hI hF (lv_sub hl [2, 3, 4, 0] rfl) (by omega) (by omega) (by omega) (h_F.call (h_F.rf : h_F [(1349, 999)] z I0 I0) hL25 rfl) (by omega)
      exact loop25_0 _ I0 _ _ _ (0) (0) (0) g hI hF (lv_sub hl [3, 2, 1, 0] rfl) ⟨by decide, by decide⟩ ⟨by decide, by decide⟩ ⟨by decide, by decide⟩ (h_F.rf : h_F [(1349, 999)] z I0 I0) (show (8 - (0 : Int)) < (((8 - (0 : Int)).toNat + 1 : Nat) : Int) by omega)
    · have ic4 := (xi_eq c4 rfl (by decide) : v3.toInt = 0)
      refine lv_bipush (v := (-4)) hx hb dX12_next_16 (by decide) ?_
      have hS := g.2.1
      exact W.iret (v := (-4)) hx hb hr (fun t ht hW => ⟨⟨(-4), I0, rfl, ⟨hI, hF, trivial⟩, h_ret g ht⟩, hS.F ht⟩) hS.2.2 dX12_next_18
