set_option maxHeartbeats 4000000 in
set_option maxRecDepth 100000 in
theorem tX12_common (l : Launch) (E : tE) (X : tX) (A : Nat → Prop) (z : tZ) (I0 : tI) (L0 : tL) (x : Int64) (x_t : Int) (h_x : x.toInt = x_t) (y : Int64) (y_t : Int) (h_y : y.toInt = y_t) (hne : x_t ≠ 0 ∨ y_t ≠ 0) : Met l yX12_common wsX12_common ({ frames := 1, cells := 0, slots := 0, locals := 64 }) (va_Pc [.long x, .long y] (h_P E X A z I0 L0)) (vp_Sl (fun r => (r.toInt ≠ 0) ∧ (r.toInt.natAbs = Int.gcd x_t y_t))) 0 0 (fun _ => False) := by
  refine Met.ofW (cc := cX12_common) (maxL := 10) (ret := (some .long)) (by decide) rfl ?_
  intro pr_ ev_ s m args below meth cd_ s₁ B hml hv
  obtain ⟨rfl, hE, hk, hX, hA, hK, hI, hR, hB0⟩ := hv
  have g : h_G h_so h_fk E A z I0 L0 s s.heap s.heap [] := ⟨hK, va_S.rf, hB0⟩
  have hx := B.exec
  have hb := B.bytes
  have hr := B.returns
  have hts := atoms_spec (ws := wsX12_common) B.pre
  have hown : s.vm.findClass RX12 = some m.cls := findClass_of_methodNamed B.named
  have hlocks := B.notSynchronized
  have hl := lv_entry ([.long x, .long y]) (n := 10) (Nat.le_of_ble_eq_true rfl)
  rw [lg_entry_eq]
  generalize (lg_sl ([.long x, .long y]) ++ List.replicate (10 - (lg_sl ([.long x, .long y])).length) Slot.unset).toArray = ls at hl ⊢
  have hl : lv_has ls 10 [(0, .long x), (2, .long y)] := hl
  refine lv_lload_n hx hb dX12_common_0 rfl (lv_at hl 0 rfl) ?_
  refine lv_lstore (lv' := [(4, .long x), (0, .long x), (2, .long y)]) hx hb dX12_common_1 hl (by decide) rfl (fun ls hl => ?_)
  refine lv_lload_n hx hb dX12_common_3 rfl (lv_at hl 2 rfl) ?_
  refine lv_lstore (lv' := [(6, .long y), (4, .long x), (0, .long x), (2, .long y)]) hx hb dX12_common_4 hl (by decide) rfl (fun ls hl => ?_)
  have loop6_0 : ∀ (n : Nat) (ls : Array Slot) (v1 v2 : Int64), lv_has ls 10 [(4, .long v1), (6, .long v2)] → (v1.toInt ≠ 0 ∨ v2.toInt ≠ 0) → (Int.gcd v1.toInt v2.toInt = Int.gcd x_t y_t) → ((v2.toInt.natAbs : Int)) < (n : Int) → W pr_ l ev_ (headSpec wsX12_common ({ frames := 1, cells := 0, slots := 0, locals := 64 })).room s m ([.long x, .long y] : List Value).toArray below meth cd_ s.heap [] 0 0 (MQ below (vp_Sl (fun r => (r.toInt ≠ 0) ∧ (r.toInt.natAbs = Int.gcd x_t y_t))) ([.long x, .long y] : List Value).toArray s 0 0 (fun _ => False)) (F0 m 6 ls []) := by
    intro n
    induction n with
    | zero => intro ls v1 v2 hl hx6_0 hx6_1 hn; exact absurd hn (by omega)
    | succ n ih6 =>
      intro ls v1 v2 hl hx6_0 hx6_1 hn
      refine lv_lload hx hb dX12_common_6 (lv_at hl 1 rfl) ?_
      refine lv_lconst (v := 0) hx hb dX12_common_8 (by decide) ?_
      refine W.lcmp hx hb dX12_common_9 ?_
      refine lv_if_eq (tgt := 31) hx hb dX12_common_10 (by decide) (fun c3 => ?_) (fun c3 => ?_)
      · have ic3 : v2.toInt = (0 : Int64).toInt := xl_eq c3
        rw [show (0 : Int64).toInt = 0 by decide] at ic3
        refine lv_lload hx hb dX12_common_31 (lv_at hl 0 rfl) ?_
        exact W.lret (v := v1) hx hb hr (fun t ht hW => ⟨v1, rfl, ⟨(by omega), (by rw [← hx6_1, ic3]; exact (Int.gcd_zero_right _).symm)⟩, ht⟩) (fun _ h => by cases h) dX12_common_33
      · have ic3 : v2.toInt ≠ (0 : Int64).toInt := xl_ne c3
        rw [show (0 : Int64).toInt = 0 by decide] at ic3
        refine lv_lload hx hb dX12_common_13 (lv_at hl 0 rfl) ?_
        refine lv_lload hx hb dX12_common_15 (lv_at hl 1 rfl) ?_
        refine lv_lrem hx hb dX12_common_17 (h_lne0 (by omega)) ?_
        refine lv_topl (fun v4 ev4 => ?_)
        obtain ⟨dv4, dmv4⟩ := h_lgcd ev4 (by omega)
        refine lv_lstore (lv' := [(8, .long v4), (4, .long v1), (6, .long v2)]) hx hb dX12_common_18 hl (by decide) rfl (fun ls hl => ?_)
        refine lv_lload hx hb dX12_common_20 (lv_at hl 2 rfl) ?_
        refine lv_lstore (lv' := [(4, .long v2), (8, .long v4), (6, .long v2)]) hx hb dX12_common_22 hl (by decide) rfl (fun ls hl => ?_)
        refine lv_lload hx hb dX12_common_24 (lv_at hl 1 rfl) ?_
        refine lv_lstore (lv' := [(6, .long v4), (4, .long v2), (8, .long v4)]) hx hb dX12_common_26 hl (by decide) rfl (fun ls hl => ?_)
        refine lv_goto (tgt := 6) hx hb dX12_common_28 (by decide) ?_
        exact ih6 _ (v2) (v4) (lv_sub hl [1, 0] rfl) (by omega) (dv4.trans hx6_1) (by omega)
  exact loop6_0 _ _ (x) (y) (lv_sub hl [1, 0] rfl) (by omega) (by rw [h_x, h_y]) (show ((y.toInt.natAbs : Int)) < ((((y.toInt.natAbs : Int)).toNat + 1 : Nat) : Int) by omega)
set_option maxHeartbeats 4000000 in
set_option maxRecDepth 100000 in
theorem tX12_lawOfC8 (l : Launch) (E : tE) (X : tX) (A : Nat → Prop) (z : tZ) (I0 : tI) (L0 : tL) (a0 : Nat) (t_a0 : z.ty a0 = 13) (y : Int32) (y_t : Int) (h_y : y.toInt = y_t) (b_y : 0 ≤ y_t ∧ y_t ≤ 9) (u : Int32) (u_t : Int) (h_u : u.toInt = u_t) (b_u : 8 ≤ u_t ∧ u_t ≤ 8) (q : Nat) (hq : h_blk (I0 (h_ad z a0 11)) y.toNatClampNeg q) : Met l yX12_lawOf wsX12_lawOf ({ frames := 1, cells := 0, slots := 0, locals := 64 }) (va_Pc [.ref a0, .int y, .int u] (h_P E X A z I0 L0)) (vp_Si (fun r => (0 ≤ r.toInt ∧ r.toInt ≤ 7) ∧ (r = I0 (h_ad z a0 10) (16 * q + u.toNatClampNeg)))) 0 0 (fun _ => False) := by
  refine Met.ofW (cc := cX12_lawOf) (maxL := 4) (ret := (some .int)) (by decide) rfl ?_
  intro pr_ ev_ s m args below meth cd_ s₁ B hml hv
  obtain ⟨rfl, hE, hk, hX, hA, hK, hI, hR, hB0⟩ := hv
  have g : h_G h_so h_fk E A z I0 L0 s s.heap s.heap [] := ⟨hK, va_S.rf, hB0⟩
  have hx := B.exec
  have hb := B.bytes
  have hr := B.returns
  have hts := atoms_spec (ws := wsX12_lawOf) B.pre
  have hown : s.vm.findClass RX12 = some m.cls := findClass_of_methodNamed B.named
  have hlocks := B.notSynchronized
  have iX12 : ∀ w ∈ u_ws RX12 TX12 51, w ∈ wsX12_lawOf := by decide +kernel
  have hl := lv_entry ([.ref a0, .int y, .int u]) (n := 4) (Nat.le_of_ble_eq_true rfl)
  rw [lg_entry_eq]
  generalize (lg_sl ([.ref a0, .int y, .int u]) ++ List.replicate (4 - (lg_sl ([.ref a0, .int y, .int u])).length) Slot.unset).toArray = ls at hl ⊢
  have hl : lv_has ls 4 [(0, .ref a0), (1, .int y), (2, .int u)] := hl
  obtain ⟨lw, rlw, tlw⟩ := hR.at a0 10 t_a0 (rfl : h_rs 13 10 = some (1310, false)) (by decide)
  have alw : h_ad z a0 10 = lw := h_ad.at rlw
  obtain ⟨hw, rhw, thw⟩ := hR.at a0 11 t_a0 (rfl : h_rs 13 11 = some (1311, false)) (by decide)
  have ahw : h_ad z a0 11 = hw := h_ad.at rhw
  rw [ahw] at hq
  have hyc : (y.toNatClampNeg : Int) = y_t := h_cl h_y (by omega)
  have hkc : (u.toNatClampNeg : Int) = u_t := h_cl h_u (by omega)
  refine lv_iload_n hx hb dX12_lawOf_0 rfl (lv_at hl 1 rfl) ?_
  refine lv_istore_n (lv' := [(3, .int y), (0, .ref a0), (1, .int y), (2, .int u)]) hx hb dX12_lawOf_1 rfl hl (by decide) rfl (fun ls hl => ?_)
  have loop2_0 : ∀ (n : Nat) (ls : Array Slot) (v1 : Int32), lv_has ls 4 [(0, .ref a0), (2, .int u), (3, .int v1)] → ((-1) ≤ v1.toInt ∧ v1.toInt ≤ 9) → (∀ j : Nat, v1.toInt < (j : Int) → (j : Int) ≤ y_t → I0 hw j = 0) → (v1.toInt ≤ y_t) → (v1.toInt + 2) < (n : Int) → W pr_ l ev_ (headSpec wsX12_lawOf ({ frames := 1, cells := 0, slots := 0, locals := 64 })).room s m ([.ref a0, .int y, .int u] : List Value).toArray below meth cd_ s.heap [] 0 0 (MQ below (vp_Si (fun r => (0 ≤ r.toInt ∧ r.toInt ≤ 7) ∧ (r = I0 (h_ad z a0 10) (16 * q + u.toNatClampNeg)))) ([.ref a0, .int y, .int u] : List Value).toArray s 0 0 (fun _ => False)) (F0 m 2 ls []) := by
    intro n
    induction n with
    | zero => intro ls v1 hl jv1 hx2_0 hx2_1 hn; exact absurd hn (by omega)
    | succ n ih2 =>
      intro ls v1 hl jv1 hx2_0 hx2_1 hn
      refine lv_iload_n hx hb dX12_lawOf_2 rfl (lv_at hl 2 rfl) ?_
      refine lv_if_lt (tgt := 21) hx hb dX12_lawOf_3 (by decide) (fun c2 => ?_) (fun c2 => ?_)
      · have ic2 := (xi_lt c2 rfl (by decide) : v1.toInt < 0)
        refine lv_aload_n hx hb dX12_lawOf_21 rfl (lv_at hl 0 rfl) ?_
        refine h_get (v := .ref lw) hx hb hts iX12 hown g t_a0 (by decide) so_13 rfl 10 (by decide) (hts (.fieldLink RX12 17 "CapLeagueModel" "laws" "[I") (by decide +kernel)) rfl dX12_lawOf_22 (by show va_rf (z.R a0 10) = _; rw [rlw]; rfl) ?_
        refine lv_bipush (v := 16) hx hb dX12_lawOf_25 (by decide) ?_
        refine lv_iload_n hx hb dX12_lawOf_27 rfl (lv_at hl 2 rfl) ?_
        refine lv_if_ge (tgt := 36) hx hb dX12_lawOf_28 (by decide) (fun h => absurd (xi_le h (by decide) rfl : 0 ≤ v1.toInt) (by omega)) (fun c3 => ?_)
        have ic3 := (xi_nle c3 (by decide) rfl : v1.toInt < 0)
        refine lv_bipush (v := 11) hx hb dX12_lawOf_31 (by decide) ?_
        refine lv_goto (tgt := 37) hx hb dX12_lawOf_33 (by decide) ?_
        refine lv_imul hx hb dX12_lawOf_37 ?_
        refine xw_i (v := 176) (by decide) ?_
        refine lv_iload_n hx hb dX12_lawOf_38 rfl (lv_at hl 1 rfl) ?_
        refine lv_iadd hx hb dX12_lawOf_39 ?_
        refine lv_topi (fun v4 ev4 => ?_)
        have jv4 : v4.toInt = 176 + u_t := xi_add ev4 (by decide) h_u (by omega) (by omega)
        refine h_ald hx hb g tlw (by decide) so_1310 (xi_in (by omega) (by omega)) dX12_lawOf_40 ?_
        refine lv_topi (fun v5 ev5 => ?_)
        have kv5 := h_lwr hI tlw (k := v4.toInt) rfl ev5 (by omega)
        have jv5 : -2147483648 ≤ v5.toInt ∧ v5.toInt ≤ 2147483647 := ⟨xi_lo _, Int.le_of_lt_add_one (xi_hi _)⟩
        have mv5 : 0 ≤ v5.toInt ∧ v5.toInt ≤ 7 := by omega
        exact W.iret (v := v5) hx hb hr (fun t ht hW => ⟨v5, rfl, ⟨⟨(by omega), (by omega)⟩, (by
            have hq2 : (q : Int) = 11 := by have := hq.no (fun j hj => hx2_0 j (by omega) (by omega)); omega
            rw [alw, ev5, h_keq (k := 16 * q + u.toNatClampNeg) (i := v4) (t := v4.toInt) rfl (by omega) (by omega)])⟩, ht⟩) (fun _ h => by cases h) dX12_lawOf_41
      · have ic2 := (xi_nlt c2 rfl (by decide) : 0 ≤ v1.toInt)
        refine lv_aload_n hx hb dX12_lawOf_6 rfl (lv_at hl 0 rfl) ?_
        refine h_get (v := .ref hw) hx hb hts iX12 hown g t_a0 (by decide) so_13 rfl 11 (by decide) (hts (.fieldLink RX12 21 "CapLeagueModel" "hasLaws" "[Z") (by decide +kernel)) rfl dX12_lawOf_7 (by show va_rf (z.R a0 11) = _; rw [rhw]; rfl) ?_
        refine lv_iload_n hx hb dX12_lawOf_10 rfl (lv_at hl 2 rfl) ?_
        refine h_zald hx hb g thw (by decide) so_1311 (xi_in (by omega) (by omega)) dX12_lawOf_11 ?_
        refine lv_topi (fun v6 ev6 => ?_)
        have jv6 := hI.rd hw v1.toNatClampNeg thw ev6 (rfl : h_bd 1311 _ = (0, 1))
        refine lv_if_ne (tgt := 21) hx hb dX12_lawOf_12 (by decide) (fun c7 => ?_) (fun c7 => ?_)
        · have ic7 := (xi_ne c7 rfl (by decide) : v6.toInt ≠ 0)
          refine lv_aload_n hx hb dX12_lawOf_21 rfl (lv_at hl 0 rfl) ?_
          refine h_get (v := .ref lw) hx hb hts iX12 hown g t_a0 (by decide) so_13 rfl 10 (by decide) (hts (.fieldLink RX12 17 "CapLeagueModel" "laws" "[I") (by decide +kernel)) rfl dX12_lawOf_22 (by show va_rf (z.R a0 10) = _; rw [rlw]; rfl) ?_
          refine lv_bipush (v := 16) hx hb dX12_lawOf_25 (by decide) ?_
          refine lv_iload_n hx hb dX12_lawOf_27 rfl (lv_at hl 2 rfl) ?_
          refine lv_if_ge (tgt := 36) hx hb dX12_lawOf_28 (by decide) (fun c8 => ?_) (fun h => absurd (xi_nle h (by decide) rfl : v1.toInt < 0) (by omega))
          have ic8 := (xi_le c8 (by decide) rfl : 0 ≤ v1.toInt)
          refine lv_iload_n hx hb dX12_lawOf_36 rfl (lv_at hl 2 rfl) ?_
          refine lv_imul hx hb dX12_lawOf_37 ?_
          refine lv_topi (fun v9 ev9 => ?_)
          have jv9 : v9.toInt = 16 * v1.toInt := xi_mul ev9 (by decide) rfl (by omega) (by omega)
          refine lv_iload_n hx hb dX12_lawOf_38 rfl (lv_at hl 1 rfl) ?_
          refine lv_iadd hx hb dX12_lawOf_39 ?_
          refine lv_topi (fun v10 ev10 => ?_)
          have jv10 : v10.toInt = v9.toInt + u_t := xi_add ev10 rfl h_u (by omega) (by omega)
          refine h_ald hx hb g tlw (by decide) so_1310 (xi_in (by omega) (by omega)) dX12_lawOf_40 ?_
          refine lv_topi (fun v11 ev11 => ?_)
          have kv11 := h_lwr hI tlw (k := v10.toInt) rfl ev11 (by omega)
          have jv11 : -2147483648 ≤ v11.toInt ∧ v11.toInt ≤ 2147483647 := ⟨xi_lo _, Int.le_of_lt_add_one (xi_hi _)⟩
          have mv11 : 0 ≤ v11.toInt ∧ v11.toInt ≤ 7 := by omega
          exact W.iret (v := v11) hx hb hr (fun t ht hW => ⟨v11, rfl, ⟨⟨(by omega), (by omega)⟩, (by
              have hq2 : (q : Int) = v1.toInt := by have h3 := h_cl (i := v1) rfl (by omega); have := hq.is (k := v1.toNatClampNeg) (by omega) (by rw [← ev6]; exact h_ne0 (by omega)) (fun j h1 h2 => hx2_0 j (by omega) (by omega)); omega
              rw [alw, ev11, h_keq (k := 16 * q + u.toNatClampNeg) (i := v10) (t := v10.toInt) rfl (by omega) (by omega)])⟩, ht⟩) (fun _ h => by cases h) dX12_lawOf_41
        · have ic7 := (xi_eq c7 rfl (by decide) : v6.toInt = 0)
          obtain ⟨v12, ev12⟩ : ∃ z : Int32, z = v1 + (-1) := ⟨_, rfl⟩
          have jv12 : v12.toInt = v1.toInt + (-1) := xi_add ev12 rfl (by decide) (by omega) (by omega)
          refine lv_iinc (v := v12) (lv' := [(3, .int v12), (0, .ref a0), (2, .int u)]) hx hb dX12_lawOf_15 hl (k := 2) rfl (by rw [ev12]; rfl) (by decide) rfl (fun ls hl => ?_)
          refine lv_goto (tgt := 2) hx hb dX12_lawOf_18 (by decide) ?_
          exact ih2 _ v12 (lv_sub hl [1, 2, 0] rfl) (by omega) (fun j h1 h2 => by
              by_cases ej : (j : Int) = v1.toInt
              · rw [← h_keq (k := j) (i := v1) rfl (by omega) ej, ← ev6]
                exact h_k (k := 0) (by omega) (by decide)
              · exact hx2_0 j (by omega) h2) (by omega) (by omega)
  exact loop2_0 _ _ y (lv_sub hl [1, 3, 0] rfl) (by rw [h_y]; omega) (fun j h1 h2 => absurd h1 (by omega)) (by omega) (show (y.toInt + 2) < (((y.toInt + 2).toNat + 1 : Nat) : Int) by omega)
set_option maxHeartbeats 4000000 in
set_option maxRecDepth 100000 in
theorem tX12_lawOfC9 (l : Launch) (E : tE) (X : tX) (A : Nat → Prop) (z : tZ) (I0 : tI) (L0 : tL) (a0 : Nat) (t_a0 : z.ty a0 = 13) (y : Int32) (y_t : Int) (h_y : y.toInt = y_t) (b_y : 0 ≤ y_t ∧ y_t ≤ 9) (u : Int32) (u_t : Int) (h_u : u.toInt = u_t) (b_u : 9 ≤ u_t ∧ u_t ≤ 15) (q : Nat) (hq : h_blk (I0 (h_ad z a0 11)) y.toNatClampNeg q) : Met l yX12_lawOf wsX12_lawOf ({ frames := 1, cells := 0, slots := 0, locals := 64 }) (va_Pc [.ref a0, .int y, .int u] (h_P E X A z I0 L0)) (vp_Si (fun r => (0 ≤ r.toInt ∧ r.toInt ≤ 20) ∧ (r = I0 (h_ad z a0 10) (16 * q + u.toNatClampNeg)))) 0 0 (fun _ => False) := by
  refine Met.ofW (cc := cX12_lawOf) (maxL := 4) (ret := (some .int)) (by decide) rfl ?_
  intro pr_ ev_ s m args below meth cd_ s₁ B hml hv
  obtain ⟨rfl, hE, hk, hX, hA, hK, hI, hR, hB0⟩ := hv
  have g : h_G h_so h_fk E A z I0 L0 s s.heap s.heap [] := ⟨hK, va_S.rf, hB0⟩
  have hx := B.exec
  have hb := B.bytes
  have hr := B.returns
  have hts := atoms_spec (ws := wsX12_lawOf) B.pre
  have hown : s.vm.findClass RX12 = some m.cls := findClass_of_methodNamed B.named
  have hlocks := B.notSynchronized
  have iX12 : ∀ w ∈ u_ws RX12 TX12 51, w ∈ wsX12_lawOf := by decide +kernel
  have hl := lv_entry ([.ref a0, .int y, .int u]) (n := 4) (Nat.le_of_ble_eq_true rfl)
  rw [lg_entry_eq]
  generalize (lg_sl ([.ref a0, .int y, .int u]) ++ List.replicate (4 - (lg_sl ([.ref a0, .int y, .int u])).length) Slot.unset).toArray = ls at hl ⊢
  have hl : lv_has ls 4 [(0, .ref a0), (1, .int y), (2, .int u)] := hl
  obtain ⟨lw, rlw, tlw⟩ := hR.at a0 10 t_a0 (rfl : h_rs 13 10 = some (1310, false)) (by decide)
  have alw : h_ad z a0 10 = lw := h_ad.at rlw
  obtain ⟨hw, rhw, thw⟩ := hR.at a0 11 t_a0 (rfl : h_rs 13 11 = some (1311, false)) (by decide)
  have ahw : h_ad z a0 11 = hw := h_ad.at rhw
  rw [ahw] at hq
  have hyc : (y.toNatClampNeg : Int) = y_t := h_cl h_y (by omega)
  have hkc : (u.toNatClampNeg : Int) = u_t := h_cl h_u (by omega)
  refine lv_iload_n hx hb dX12_lawOf_0 rfl (lv_at hl 1 rfl) ?_
  refine lv_istore_n (lv' := [(3, .int y), (0, .ref a0), (1, .int y), (2, .int u)]) hx hb dX12_lawOf_1 rfl hl (by decide) rfl (fun ls hl => ?_)
  have loop2_0 : ∀ (n : Nat) (ls : Array Slot) (v1 : Int32), lv_has ls 4 [(0, .ref a0), (2, .int u), (3, .int v1)] → ((-1) ≤ v1.toInt ∧ v1.toInt ≤ 9) → (∀ j : Nat, v1.toInt < (j : Int) → (j : Int) ≤ y_t → I0 hw j = 0) → (v1.toInt ≤ y_t) → (v1.toInt + 2) < (n : Int) → W pr_ l ev_ (headSpec wsX12_lawOf ({ frames := 1, cells := 0, slots := 0, locals := 64 })).room s m ([.ref a0, .int y, .int u] : List Value).toArray below meth cd_ s.heap [] 0 0 (MQ below (vp_Si (fun r => (0 ≤ r.toInt ∧ r.toInt ≤ 20) ∧ (r = I0 (h_ad z a0 10) (16 * q + u.toNatClampNeg)))) ([.ref a0, .int y, .int u] : List Value).toArray s 0 0 (fun _ => False)) (F0 m 2 ls []) := by
    intro n
    induction n with
    | zero => intro ls v1 hl jv1 hx2_0 hx2_1 hn; exact absurd hn (by omega)
    | succ n ih2 =>
      intro ls v1 hl jv1 hx2_0 hx2_1 hn
      refine lv_iload_n hx hb dX12_lawOf_2 rfl (lv_at hl 2 rfl) ?_
      refine lv_if_lt (tgt := 21) hx hb dX12_lawOf_3 (by decide) (fun c2 => ?_) (fun c2 => ?_)
      · have ic2 := (xi_lt c2 rfl (by decide) : v1.toInt < 0)
        refine lv_aload_n hx hb dX12_lawOf_21 rfl (lv_at hl 0 rfl) ?_
        refine h_get (v := .ref lw) hx hb hts iX12 hown g t_a0 (by decide) so_13 rfl 10 (by decide) (hts (.fieldLink RX12 17 "CapLeagueModel" "laws" "[I") (by decide +kernel)) rfl dX12_lawOf_22 (by show va_rf (z.R a0 10) = _; rw [rlw]; rfl) ?_
        refine lv_bipush (v := 16) hx hb dX12_lawOf_25 (by decide) ?_
        refine lv_iload_n hx hb dX12_lawOf_27 rfl (lv_at hl 2 rfl) ?_
        refine lv_if_ge (tgt := 36) hx hb dX12_lawOf_28 (by decide) (fun h => absurd (xi_le h (by decide) rfl : 0 ≤ v1.toInt) (by omega)) (fun c3 => ?_)
        have ic3 := (xi_nle c3 (by decide) rfl : v1.toInt < 0)
        refine lv_bipush (v := 11) hx hb dX12_lawOf_31 (by decide) ?_
        refine lv_goto (tgt := 37) hx hb dX12_lawOf_33 (by decide) ?_
        refine lv_imul hx hb dX12_lawOf_37 ?_
        refine xw_i (v := 176) (by decide) ?_
        refine lv_iload_n hx hb dX12_lawOf_38 rfl (lv_at hl 1 rfl) ?_
        refine lv_iadd hx hb dX12_lawOf_39 ?_
        refine lv_topi (fun v4 ev4 => ?_)
        have jv4 : v4.toInt = 176 + u_t := xi_add ev4 (by decide) h_u (by omega) (by omega)
        refine h_ald hx hb g tlw (by decide) so_1310 (xi_in (by omega) (by omega)) dX12_lawOf_40 ?_
        refine lv_topi (fun v5 ev5 => ?_)
        have kv5 := h_lwr hI tlw (k := v4.toInt) rfl ev5 (by omega)
        have jv5 : -2147483648 ≤ v5.toInt ∧ v5.toInt ≤ 2147483647 := ⟨xi_lo _, Int.le_of_lt_add_one (xi_hi _)⟩
        have mv5 : 0 ≤ v5.toInt ∧ v5.toInt ≤ 20 := by omega
        exact W.iret (v := v5) hx hb hr (fun t ht hW => ⟨v5, rfl, ⟨⟨(by omega), (by omega)⟩, (by
            have hq2 : (q : Int) = 11 := by have := hq.no (fun j hj => hx2_0 j (by omega) (by omega)); omega
            rw [alw, ev5, h_keq (k := 16 * q + u.toNatClampNeg) (i := v4) (t := v4.toInt) rfl (by omega) (by omega)])⟩, ht⟩) (fun _ h => by cases h) dX12_lawOf_41
      · have ic2 := (xi_nlt c2 rfl (by decide) : 0 ≤ v1.toInt)
        refine lv_aload_n hx hb dX12_lawOf_6 rfl (lv_at hl 0 rfl) ?_
        refine h_get (v := .ref hw) hx hb hts iX12 hown g t_a0 (by decide) so_13 rfl 11 (by decide) (hts (.fieldLink RX12 21 "CapLeagueModel" "hasLaws" "[Z") (by decide +kernel)) rfl dX12_lawOf_7 (by show va_rf (z.R a0 11) = _; rw [rhw]; rfl) ?_
        refine lv_iload_n hx hb dX12_lawOf_10 rfl (lv_at hl 2 rfl) ?_
        refine h_zald hx hb g thw (by decide) so_1311 (xi_in (by omega) (by omega)) dX12_lawOf_11 ?_
        refine lv_topi (fun v6 ev6 => ?_)
        have jv6 := hI.rd hw v1.toNatClampNeg thw ev6 (rfl : h_bd 1311 _ = (0, 1))
        refine lv_if_ne (tgt := 21) hx hb dX12_lawOf_12 (by decide) (fun c7 => ?_) (fun c7 => ?_)
        · have ic7 := (xi_ne c7 rfl (by decide) : v6.toInt ≠ 0)
          refine lv_aload_n hx hb dX12_lawOf_21 rfl (lv_at hl 0 rfl) ?_
          refine h_get (v := .ref lw) hx hb hts iX12 hown g t_a0 (by decide) so_13 rfl 10 (by decide) (hts (.fieldLink RX12 17 "CapLeagueModel" "laws" "[I") (by decide +kernel)) rfl dX12_lawOf_22 (by show va_rf (z.R a0 10) = _; rw [rlw]; rfl) ?_
          refine lv_bipush (v := 16) hx hb dX12_lawOf_25 (by decide) ?_
          refine lv_iload_n hx hb dX12_lawOf_27 rfl (lv_at hl 2 rfl) ?_
          refine lv_if_ge (tgt := 36) hx hb dX12_lawOf_28 (by decide) (fun c8 => ?_) (fun h => absurd (xi_nle h (by decide) rfl : v1.toInt < 0) (by omega))
          have ic8 := (xi_le c8 (by decide) rfl : 0 ≤ v1.toInt)
          refine lv_iload_n hx hb dX12_lawOf_36 rfl (lv_at hl 2 rfl) ?_
          refine lv_imul hx hb dX12_lawOf_37 ?_
          refine lv_topi (fun v9 ev9 => ?_)
          have jv9 : v9.toInt = 16 * v1.toInt := xi_mul ev9 (by decide) rfl (by omega) (by omega)
          refine lv_iload_n hx hb dX12_lawOf_38 rfl (lv_at hl 1 rfl) ?_
          refine lv_iadd hx hb dX12_lawOf_39 ?_
          refine lv_topi (fun v10 ev10 => ?_)
          have jv10 : v10.toInt = v9.toInt + u_t := xi_add ev10 rfl h_u (by omega) (by omega)
          refine h_ald hx hb g tlw (by decide) so_1310 (xi_in (by omega) (by omega)) dX12_lawOf_40 ?_
          refine lv_topi (fun v11 ev11 => ?_)
          have kv11 := h_lwr hI tlw (k := v10.toInt) rfl ev11 (by omega)
          have jv11 : -2147483648 ≤ v11.toInt ∧ v11.toInt ≤ 2147483647 := ⟨xi_lo _, Int.le_of_lt_add_one (xi_hi _)⟩
          have mv11 : 0 ≤ v11.toInt ∧ v11.toInt ≤ 20 := by omega
          exact W.iret (v := v11) hx hb hr (fun t ht hW => ⟨v11, rfl, ⟨⟨(by omega), (by omega)⟩, (by
              have hq2 : (q : Int) = v1.toInt := by have h3 := h_cl (i := v1) rfl (by omega); have := hq.is (k := v1.toNatClampNeg) (by omega) (by rw [← ev6]; exact h_ne0 (by omega)) (fun j h1 h2 => hx2_0 j (by omega) (by omega)); omega
              rw [alw, ev11, h_keq (k := 16 * q + u.toNatClampNeg) (i := v10) (t := v10.toInt) rfl (by omega) (by omega)])⟩, ht⟩) (fun _ h => by cases h) dX12_lawOf_41
        · have ic7 := (xi_eq c7 rfl (by decide) : v6.toInt = 0)
          obtain ⟨v12, ev12⟩ : ∃ z : Int32, z = v1 + (-1) := ⟨_, rfl⟩
          have jv12 : v12.toInt = v1.toInt + (-1) := xi_add ev12 rfl (by decide) (by omega) (by omega)
          refine lv_iinc (v := v12) (lv' := [(3, .int v12), (0, .ref a0), (2, .int u)]) hx hb dX12_lawOf_15 hl (k := 2) rfl (by rw [ev12]; rfl) (by decide) rfl (fun ls hl => ?_)
          refine lv_goto (tgt := 2) hx hb dX12_lawOf_18 (by decide) ?_
          exact ih2 _ v12 (lv_sub hl [1, 2, 0] rfl) (by omega) (fun j h1 h2 => by
              by_cases ej : (j : Int) = v1.toInt
              · rw [← h_keq (k := j) (i := v1) rfl (by omega) ej, ← ev6]
                exact h_k (k := 0) (by omega) (by decide)
              · exact hx2_0 j (by omega) h2) (by omega) (by omega)
  exact loop2_0 _ _ y (lv_sub hl [1, 3, 0] rfl) (by rw [h_y]; omega) (fun j h1 h2 => absurd h1 (by omega)) (by omega) (show (y.toInt + 2) < (((y.toInt + 2).toNat + 1 : Nat) : Int) by omega)
set_option maxHeartbeats 4000000 in
set_option maxRecDepth 100000 in
theorem tX12_lotsC (l : Launch) (E : tE) (X : tX) (A : Nat → Prop) (z : tZ) (I0 : tI) (L0 : tL) (a0 : Nat) (t_a0 : z.ty a0 = 13) (q : Nat) (hq : h_blk (I0 (h_ad z a0 11)) (I0 a0 12).toNatClampNeg q) : Met l yX12_lots wsX12_lots ({ frames := 2, cells := 0, slots := 0, locals := 128 }) (va_Pc [.ref a0] (h_P E X A z I0 L0)) (vp_Si (fun r => (0 ≤ r.toInt ∧ r.toInt ≤ 7) ∧ (r.toInt = h_lt0 (I0 (h_ad z a0 10)) q))) 0 0 (fun _ => False) := by
  refine Met.ofW (cc := cX12_lots) (maxL := 1) (ret := (some .int)) (by decide) rfl ?_
  intro pr_ ev_ s m args below meth cd_ s₁ B hml hv
  obtain ⟨rfl, hE, hk, hX, hA, hK, hI, hR, hB0⟩ := hv
  have g : h_G h_so h_fk E A z I0 L0 s s.heap s.heap [] := ⟨hK, va_S.rf, hB0⟩
  have hx := B.exec
  have hb := B.bytes
  have hr := B.returns
  have hts := atoms_spec (ws := wsX12_lots) B.pre
  have hown : s.vm.findClass RX12 = some m.cls := findClass_of_methodNamed B.named
  have hlocks := B.notSynchronized
  have iX12 : ∀ w ∈ u_ws RX12 TX12 51, w ∈ wsX12_lots := by decide +kernel
  have hl := lv_entry ([.ref a0]) (n := 1) (Nat.le_of_ble_eq_true rfl)
  rw [lg_entry_eq]
  generalize (lg_sl ([.ref a0]) ++ List.replicate (1 - (lg_sl ([.ref a0])).length) Slot.unset).toArray = ls at hl ⊢
  have hl : lv_has ls 1 [(0, .ref a0)] := hl
  obtain ⟨f0_12, ef0_12⟩ : ∃ v : Int32, v = I0 a0 12 := ⟨_, rfl⟩
  have qf0_12 : (I0 a0 12).toInt = f0_12.toInt := congrArg Int32.toInt ef0_12.symm
  have jf0_12 := hI.rd a0 12 t_a0 ef0_12 (rfl : h_bd 13 12 = (0, 9))
  refine lv_aload_n hx hb dX12_lots_0 rfl (lv_at hl 0 rfl) ?_
  refine lv_aload_n hx hb dX12_lots_1 rfl (lv_at hl 0 rfl) ?_
  refine h_get (v := .int f0_12) hx hb hts iX12 hown g t_a0 (by decide) so_13 rfl 12 (by decide) (hts (.fieldLink RX12 187 "CapLeagueModel" "clock" "I") (by decide +kernel)) rfl dX12_lots_2 (congrArg Value.int (ef0_12.symm)) ?_
  refine lv_bipush (v := 8) hx hb dX12_lots_5 (by decide) ?_
  refine vp_callSi (W.runV (As := [.int f0_12, .int 8]) (rest := []) ⟨hx, hb, hml, hown, hts⟩ (tX12_lawOfC8 l E X A z I0 L0 a0 t_a0 f0_12 (f0_12.toInt) rfl (by omega) 8 (8) (by decide) (by omega) (q) (by rw [ef0_12]; exact hq)) (cwV 2 hts gX12_lots_X12_lawOf rfl rfl rfl (by decide +kernel) ⟨Nat.le_of_ble_eq_true rfl, Nat.le_of_ble_eq_true rfl⟩) ⟨h_blind _ _ _ _ _ _ _, h_recv g t_a0 (by decide) so_13 (q := (RX12, TX12, 51)) rfl, h_pre _ hE hk hX hA hI hR g⟩ rfl rfl hl.1 rfl (lv_room (Nat.le_of_ble_eq_true rfl)) dX12_lots_7 ⟨Nat.le_of_ble_eq_true rfl, Nat.le_of_ble_eq_true rfl⟩) (fun rh1 h1 => ?_)
  obtain ⟨h1, h1p0⟩ := h1
  refine lv_iconst (v := 1) hx hb dX12_lots_10 (by decide) ?_
  refine lv_icmp_ne (tgt := 18) hx hb dX12_lots_11 (by decide) (fun c2 => ?_) (fun c2 => ?_)
  · have ic2 := (xi_ne c2 rfl (by decide) : rh1.toInt ≠ 1)
    refine lv_aload_n hx hb dX12_lots_18 rfl (lv_at hl 0 rfl) ?_
    refine lv_aload_n hx hb dX12_lots_19 rfl (lv_at hl 0 rfl) ?_
    refine h_get (v := .int f0_12) hx hb hts iX12 hown g t_a0 (by decide) so_13 rfl 12 (by decide) (hts (.fieldLink RX12 187 "CapLeagueModel" "clock" "I") (by decide +kernel)) rfl dX12_lots_20 (congrArg Value.int (ef0_12.symm)) ?_
    refine lv_bipush (v := 8) hx hb dX12_lots_23 (by decide) ?_
    refine vp_callSi (W.runV (As := [.int f0_12, .int 8]) (rest := []) ⟨hx, hb, hml, hown, hts⟩ (tX12_lawOfC8 l E X A z I0 L0 a0 t_a0 f0_12 (f0_12.toInt) rfl (by omega) 8 (8) (by decide) (by omega) (q) (by rw [ef0_12]; exact hq)) (cwV 2 hts gX12_lots_X12_lawOf rfl rfl rfl (by decide +kernel) ⟨Nat.le_of_ble_eq_true rfl, Nat.le_of_ble_eq_true rfl⟩) ⟨h_blind _ _ _ _ _ _ _, h_recv g t_a0 (by decide) so_13 (q := (RX12, TX12, 51)) rfl, h_pre _ hE hk hX hA hI hR g⟩ rfl rfl hl.1 rfl (lv_room (Nat.le_of_ble_eq_true rfl)) dX12_lots_25 ⟨Nat.le_of_ble_eq_true rfl, Nat.le_of_ble_eq_true rfl⟩) (fun rh3 h3 => ?_)
    obtain ⟨h3, h3p0⟩ := h3
    exact W.iret (v := rh3) hx hb hr (fun t ht hW => ⟨rh3, rfl, ⟨⟨(by omega), (by omega)⟩, (by unfold h_lt0; rw [show I0 (h_ad z a0 10) (16 * q + 8) = rh3 from h3p0.symm, if_neg (by rw [← h1p0.trans h3p0.symm]; omega)])⟩, ht⟩) (fun _ h => by cases h) dX12_lots_28
  · have ic2 := (xi_eq c2 rfl (by decide) : rh1.toInt = 1)
    refine lv_iconst (v := 0) hx hb dX12_lots_14 (by decide) ?_
    refine lv_goto (tgt := 28) hx hb dX12_lots_15 (by decide) ?_
    exact W.iret (v := 0) hx hb hr (fun t ht hW => ⟨0, rfl, ⟨⟨(by decide), (by decide)⟩, (by unfold h_lt0; rw [show I0 (h_ad z a0 10) (16 * q + 8) = rh1 from h1p0.symm, if_pos (by omega)]; decide)⟩, ht⟩) (fun _ h => by cases h) dX12_lots_28
set_option maxHeartbeats 4000000 in
set_option maxRecDepth 100000 in
theorem tX12_weightC (l : Launch) (E : tE) (X : tX) (A : Nat → Prop) (z : tZ) (I0 : tI) (L0 : tL) (a0 : Nat) (t_a0 : z.ty a0 = 13) (i : Int32) (i_t : Int) (h_i : i.toInt = i_t) (b_i : 0 ≤ i_t ∧ i_t ≤ 2147483647) (q : Nat) (hq : h_blk (I0 (h_ad z a0 11)) (I0 a0 12).toNatClampNeg q) : Met l yX12_weight wsX12_weight ({ frames := 3, cells := 0, slots := 0, locals := 192 }) (va_Pc [.ref a0, .int i] (h_P E X A z I0 L0)) (vp_Si (fun r => (0 ≤ r.toInt ∧ r.toInt ≤ 20) ∧ (r.toInt = h_wt (I0 (h_ad z a0 10)) q i_t.toNat))) 0 0 (fun _ => False) := by
  refine Met.ofW (cc := cX12_weight) (maxL := 2) (ret := (some .int)) (by decide) rfl ?_
  intro pr_ ev_ s m args below meth cd_ s₁ B hml hv
  obtain ⟨rfl, hE, hk, hX, hA, hK, hI, hR, hB0⟩ := hv
  have g : h_G h_so h_fk E A z I0 L0 s s.heap s.heap [] := ⟨hK, va_S.rf, hB0⟩
  have hx := B.exec
  have hb := B.bytes
  have hr := B.returns
  have hts := atoms_spec (ws := wsX12_weight) B.pre
  have hown : s.vm.findClass RX12 = some m.cls := findClass_of_methodNamed B.named
  have hlocks := B.notSynchronized
  have iX12 : ∀ w ∈ u_ws RX12 TX12 51, w ∈ wsX12_weight := by decide +kernel
  have hl := lv_entry ([.ref a0, .int i]) (n := 2) (Nat.le_of_ble_eq_true rfl)
  rw [lg_entry_eq]
  generalize (lg_sl ([.ref a0, .int i]) ++ List.replicate (2 - (lg_sl ([.ref a0, .int i])).length) Slot.unset).toArray = ls at hl ⊢
  have hl : lv_has ls 2 [(0, .ref a0), (1, .int i)] := hl
  obtain ⟨f0_12, ef0_12⟩ : ∃ v : Int32, v = I0 a0 12 := ⟨_, rfl⟩
  have qf0_12 : (I0 a0 12).toInt = f0_12.toInt := congrArg Int32.toInt ef0_12.symm
  have jf0_12 := hI.rd a0 12 t_a0 ef0_12 (rfl : h_bd 13 12 = (0, 9))
  refine lv_iload_n hx hb dX12_weight_0 rfl (lv_at hl 1 rfl) ?_
  refine lv_aload_n hx hb dX12_weight_1 rfl (lv_at hl 0 rfl) ?_
  refine vp_callSi (W.runV (As := []) (rest := [.int i]) ⟨hx, hb, hml, hown, hts⟩ (tX12_lotsC l E X A z I0 L0 a0 t_a0 (q) (hq)) (cwV 0 hts gX12_weight_X12_lots rfl rfl rfl (by decide +kernel) ⟨Nat.le_of_ble_eq_true rfl, Nat.le_of_ble_eq_true rfl⟩) ⟨h_blind _ _ _ _ _ _ _, h_recv g t_a0 (by decide) so_13 (q := (RX12, TX12, 51)) rfl, h_pre _ hE hk hX hA hI hR g⟩ rfl rfl hl.1 rfl (lv_room (Nat.le_of_ble_eq_true rfl)) dX12_weight_2 ⟨Nat.le_of_ble_eq_true rfl, Nat.le_of_ble_eq_true rfl⟩) (fun rh1 h1 => ?_)
  obtain ⟨h1, h1p0⟩ := h1
  refine lv_icmp_ge (tgt := 23) hx hb dX12_weight_5 (by decide) (fun c2 => ?_) (fun c2 => ?_)
  · have ic2 := (xi_le c2 rfl h_i : rh1.toInt ≤ i_t)
    refine lv_iconst (v := 0) hx hb dX12_weight_23 (by decide) ?_
    exact W.iret (v := 0) hx hb hr (fun t ht hW => ⟨0, rfl, ⟨⟨(by decide), (by decide)⟩, (by unfold h_wt; rw [if_neg (by omega)]; decide)⟩, ht⟩) (fun _ h => by cases h) dX12_weight_24
  · have ic2 := (xi_nle c2 rfl h_i : i_t < rh1.toInt)
    refine lv_aload_n hx hb dX12_weight_8 rfl (lv_at hl 0 rfl) ?_
    refine lv_aload_n hx hb dX12_weight_9 rfl (lv_at hl 0 rfl) ?_
    refine h_get (v := .int f0_12) hx hb hts iX12 hown g t_a0 (by decide) so_13 rfl 12 (by decide) (hts (.fieldLink RX12 187 "CapLeagueModel" "clock" "I") (by decide +kernel)) rfl dX12_weight_10 (congrArg Value.int (ef0_12.symm)) ?_
    refine lv_bipush (v := 9) hx hb dX12_weight_13 (by decide) ?_
    refine lv_iload_n hx hb dX12_weight_15 rfl (lv_at hl 1 rfl) ?_
    refine lv_iadd hx hb dX12_weight_16 ?_
    refine lv_topi (fun v3 ev3 => ?_)
    have jv3 : v3.toInt = 9 + i_t := xi_add ev3 (by decide) h_i (by omega) (by omega)
    refine vp_callSi (W.runV (As := [.int f0_12, .int v3]) (rest := []) ⟨hx, hb, hml, hown, hts⟩ (tX12_lawOfC9 l E X A z I0 L0 a0 t_a0 f0_12 (f0_12.toInt) rfl (by omega) v3 (v3.toInt) rfl (by omega) (q) (by rw [ef0_12]; exact hq)) (cwV 2 hts gX12_weight_X12_lawOf rfl rfl rfl (by decide +kernel) ⟨Nat.le_of_ble_eq_true rfl, Nat.le_of_ble_eq_true rfl⟩) ⟨h_blind _ _ _ _ _ _ _, h_recv g t_a0 (by decide) so_13 (q := (RX12, TX12, 51)) rfl, h_pre _ hE hk hX hA hI hR g⟩ rfl rfl hl.1 rfl (lv_room (Nat.le_of_ble_eq_true rfl)) dX12_weight_17 ⟨Nat.le_of_ble_eq_true rfl, Nat.le_of_ble_eq_true rfl⟩) (fun rh4 h4 => ?_)
    obtain ⟨h4, h4p0⟩ := h4
    refine lv_goto (tgt := 24) hx hb dX12_weight_20 (by decide) ?_
    exact W.iret (v := rh4) hx hb hr (fun t ht hW => ⟨rh4, rfl, ⟨⟨(by omega), (by omega)⟩, (by unfold h_wt; rw [if_pos (by omega), h4p0, show 16 * q + v3.toNatClampNeg = 16 * q + 9 + i_t.toNat from by have := h_cl (i := v3) rfl (by omega); omega])⟩, ht⟩) (fun _ h => by cases h) dX12_weight_24
set_option maxHeartbeats 4000000 in
set_option maxRecDepth 100000 in
theorem tX12_weightsC (l : Launch) (E : tE) (X : tX) (A : Nat → Prop) (z : tZ) (I0 : tI) (L0 : tL) (a0 : Nat) (t_a0 : z.ty a0 = 13) (q : Nat) (hq : h_blk (I0 (h_ad z a0 11)) (I0 a0 12).toNatClampNeg q) : Met l yX12_weights wsX12_weights ({ frames := 4, cells := 0, slots := 0, locals := 256 }) (va_Pc [.ref a0] (h_P E X A z I0 L0)) (vp_Si (fun r => (0 ≤ r.toInt ∧ r.toInt ≤ 140) ∧ (r.toInt = h_sum (h_wt (I0 (h_ad z a0 10)) q) (h_lt0 (I0 (h_ad z a0 10)) q).toNat))) 0 0 (fun _ => False) := by
  refine Met.ofW (cc := cX12_weights) (maxL := 3) (ret := (some .int)) (by decide) rfl ?_
  intro pr_ ev_ s m args below meth cd_ s₁ B hml hv
  obtain ⟨rfl, hE, hk, hX, hA, hK, hI, hR, hB0⟩ := hv
  have g : h_G h_so h_fk E A z I0 L0 s s.heap s.heap [] := ⟨hK, va_S.rf, hB0⟩
  have hx := B.exec
  have hb := B.bytes
  have hr := B.returns
  have hts := atoms_spec (ws := wsX12_weights) B.pre
  have hown : s.vm.findClass RX12 = some m.cls := findClass_of_methodNamed B.named
  have hlocks := B.notSynchronized
  have hl := lv_entry ([.ref a0]) (n := 3) (Nat.le_of_ble_eq_true rfl)
  rw [lg_entry_eq]
  generalize (lg_sl ([.ref a0]) ++ List.replicate (3 - (lg_sl ([.ref a0])).length) Slot.unset).toArray = ls at hl ⊢
  have hl : lv_has ls 3 [(0, .ref a0)] := hl
  obtain ⟨lw, rlw, tlw⟩ := hR.at a0 10 t_a0 (rfl : h_rs 13 10 = some (1310, false)) (by decide)
  have alw : h_ad z a0 10 = lw := h_ad.at rlw
  obtain ⟨f0_12, ef0_12⟩ : ∃ v : Int32, v = I0 a0 12 := ⟨_, rfl⟩
  have qf0_12 : (I0 a0 12).toInt = f0_12.toInt := congrArg Int32.toInt ef0_12.symm
  have jf0_12 := hI.rd a0 12 t_a0 ef0_12 (rfl : h_bd 13 12 = (0, 9))
  have hlb := h_lt0_b (q := q) hI tlw
  refine lv_iconst (v := 0) hx hb dX12_weights_0 (by decide) ?_
  refine lv_istore_n (lv' := [(1, .int 0), (0, .ref a0)]) hx hb dX12_weights_1 rfl hl (by decide) rfl (fun ls hl => ?_)
  refine lv_iconst (v := 0) hx hb dX12_weights_2 (by decide) ?_
  refine lv_istore_n (lv' := [(2, .int 0), (1, .int 0), (0, .ref a0)]) hx hb dX12_weights_3 rfl hl (by decide) rfl (fun ls hl => ?_)
  have loop4_0 : ∀ (n : Nat) (ls : Array Slot) (v1 v2 : Int32), lv_has ls 3 [(0, .ref a0), (1, .int v1), (2, .int v2)] → (0 ≤ v1.toInt ∧ v1.toInt ≤ 140) → (0 ≤ v2.toInt ∧ v2.toInt ≤ 7) → (v1.toInt = h_sum (h_wt (I0 lw) q) (v2.toInt).toNat) → (v1.toInt ≤ 20 * v2.toInt) → (v2.toInt ≤ h_lt0 (I0 lw) q) → (7 - v2.toInt) < (n : Int) → W pr_ l ev_ (headSpec wsX12_weights ({ frames := 4, cells := 0, slots := 0, locals := 256 })).room s m ([.ref a0] : List Value).toArray below meth cd_ s.heap [] 0 0 (MQ below (vp_Si (fun r => (0 ≤ r.toInt ∧ r.toInt ≤ 140) ∧ (r.toInt = h_sum (h_wt (I0 (h_ad z a0 10)) q) (h_lt0 (I0 (h_ad z a0 10)) q).toNat))) ([.ref a0] : List Value).toArray s 0 0 (fun _ => False)) (F0 m 4 ls []) := by
    intro n
    induction n with
    | zero => intro ls v1 v2 hl jv1 jv2 hx4_0 hx4_1 hx4_2 hn; exact absurd hn (by omega)
    | succ n ih4 =>
      intro ls v1 v2 hl jv1 jv2 hx4_0 hx4_1 hx4_2 hn
      refine lv_iload_n hx hb dX12_weights_4 rfl (lv_at hl 2 rfl) ?_
      refine lv_aload_n hx hb dX12_weights_5 rfl (lv_at hl 0 rfl) ?_
      refine vp_callSi (W.runV (As := []) (rest := [.int v2]) ⟨hx, hb, hml, hown, hts⟩ (tX12_lotsC l E X A z I0 L0 a0 t_a0 (q) (hq)) (cwV 0 hts gX12_weights_X12_lots rfl rfl rfl (by decide +kernel) ⟨Nat.le_of_ble_eq_true rfl, Nat.le_of_ble_eq_true rfl⟩) ⟨h_blind _ _ _ _ _ _ _, h_recv g t_a0 (by decide) so_13 (q := (RX12, TX12, 51)) rfl, h_pre _ hE hk hX hA hI hR g⟩ rfl rfl hl.1 rfl (lv_room (Nat.le_of_ble_eq_true rfl)) dX12_weights_6 ⟨Nat.le_of_ble_eq_true rfl, Nat.le_of_ble_eq_true rfl⟩) (fun rh3 h3 => ?_)
      obtain ⟨h3, h3p0⟩ := h3
      rw [alw] at h3p0
      refine lv_icmp_ge (tgt := 26) hx hb dX12_weights_9 (by decide) (fun c4 => ?_) (fun c4 => ?_)
      · have ic4 := (xi_le c4 rfl rfl : rh3.toInt ≤ v2.toInt)
        refine lv_iload_n hx hb dX12_weights_26 rfl (lv_at hl 1 rfl) ?_
        exact W.iret (v := v1) hx hb hr (fun t ht hW => ⟨v1, rfl, ⟨⟨(by omega), (by omega)⟩, (by rw [alw, show h_lt0 (I0 lw) q = v2.toInt from by omega]; exact hx4_0)⟩, ht⟩) (fun _ h => by cases h) dX12_weights_27
      · have ic4 := (xi_nle c4 rfl rfl : v2.toInt < rh3.toInt)
        refine lv_iload_n hx hb dX12_weights_12 rfl (lv_at hl 1 rfl) ?_
        refine lv_aload_n hx hb dX12_weights_13 rfl (lv_at hl 0 rfl) ?_
        refine lv_iload_n hx hb dX12_weights_14 rfl (lv_at hl 2 rfl) ?_
        refine vp_callSi (W.runV (As := [.int v2]) (rest := [.int v1]) ⟨hx, hb, hml, hown, hts⟩ (tX12_weightC l E X A z I0 L0 a0 t_a0 v2 (v2.toInt) rfl (by omega) (q) (hq)) (cwV 1 hts gX12_weights_X12_weight rfl rfl rfl (by decide +kernel) ⟨Nat.le_of_ble_eq_true rfl, Nat.le_of_ble_eq_true rfl⟩) ⟨h_blind _ _ _ _ _ _ _, h_recv g t_a0 (by decide) so_13 (q := (RX12, TX12, 51)) rfl, h_pre _ hE hk hX hA hI hR g⟩ rfl rfl hl.1 rfl (lv_room (Nat.le_of_ble_eq_true rfl)) dX12_weights_15 ⟨Nat.le_of_ble_eq_true rfl, Nat.le_of_ble_eq_true rfl⟩) (fun rh5 h5 => ?_)
        obtain ⟨h5, h5p0⟩ := h5
        rw [alw] at h5p0
        refine lv_iadd hx hb dX12_weights_18 ?_
        refine lv_topi (fun v6 ev6 => ?_)
        have jv6 : v6.toInt = v1.toInt + rh5.toInt := xi_add ev6 rfl rfl (by omega) (by omega)
        refine lv_istore_n (lv' := [(1, .int v6), (0, .ref a0), (2, .int v2)]) hx hb dX12_weights_19 rfl hl (by decide) rfl (fun ls hl => ?_)
        obtain ⟨v7, ev7⟩ : ∃ z : Int32, z = v2 + 1 := ⟨_, rfl⟩
        have jv7 : v7.toInt = v2.toInt + 1 := xi_add ev7 rfl (by decide) (by omega) (by omega)
        refine lv_iinc (v := v7) (lv' := [(2, .int v7), (1, .int v6), (0, .ref a0)]) hx hb dX12_weights_20 hl (k := 2) rfl (by rw [ev7]; rfl) (by decide) rfl (fun ls hl => ?_)
        refine lv_goto (tgt := 4) hx hb dX12_weights_23 (by decide) ?_
        exact ih4 _ v6 v7 (lv_sub hl [2, 1, 0] rfl) (by omega) (by omega) (by rw [show (v7.toInt).toNat = (v2.toInt).toNat + 1 from by omega]; show _ = h_sum _ _ + h_wt (I0 lw) q (v2.toInt).toNat; omega) (by omega) (by omega) (by omega)
  have kc8 : (0 : Int32).toInt = 0 := by decide
  have kc9 : (0 : Int32).toInt = 0 := by decide
  exact loop4_0 _ _ (0) (0) (lv_sub hl [2, 1, 0] rfl) ⟨by decide, by decide⟩ ⟨by decide, by decide⟩ (by first | rfl | simp [h_sum]) (by omega) (by omega) (show (7 - (0 : Int)) < (((7 - (0 : Int)).toNat + 1 : Nat) : Int) by omega)
set_option maxHeartbeats 4000000 in
set_option maxRecDepth 100000 in
theorem tX12_chance (l : Launch) (E : tE) (X : tX) (A : Nat → Prop) (z : tZ) (I0 : tI) (L0 : tL) (a0 : Nat) (t_a0 : z.ty a0 = 13) (c : Int32) (c_t : Int) (h_c : c.toInt = c_t) (k : Int32) (k_t : Int) (h_k : k.toInt = k_t) (x : Int32) (x_t : Int) (h_x : x.toInt = x_t) (hJ1 : h_J1 (I0 (h_ad z a0 10))) (hJ2 : (I0 a0 30).toInt = 1 → ∀ c : Int, 0 ≤ c → c ≤ 7 → ∃ k : Nat, k < 8 ∧ (I0 (h_ad z a0 32) k).toInt = c) : Met l yX12_chance wsX12_chance ({ frames := 5, cells := 0, slots := 0, locals := 320 }) (va_Pc [.ref a0, .int c, .int k, .int x] (h_P E X A z I0 L0)) (vp_Sl (fun r => True)) 0 0 (fun _ => False) := by
  refine Met.ofW (cc := cX12_chance) (maxL := 19) (ret := (some .long)) (by decide) rfl ?_
  intro pr_ ev_ s m args below meth cd_ s₁ B hml hv
  obtain ⟨rfl, hE, hk, hX, hA, hK, hI, hR, hB0⟩ := hv
  have g : h_G h_so h_fk E A z I0 L0 s s.heap s.heap [] := ⟨hK, va_S.rf, hB0⟩
  have hx := B.exec
  have hb := B.bytes
  have hr := B.returns
  have hts := atoms_spec (ws := wsX12_chance) B.pre
  have hown : s.vm.findClass RX12 = some m.cls := findClass_of_methodNamed B.named
  have hlocks := B.notSynchronized
  have iX12 : ∀ w ∈ u_ws RX12 TX12 51, w ∈ wsX12_chance := by decide +kernel
  have hl := lv_entry ([.ref a0, .int c, .int k, .int x]) (n := 19) (Nat.le_of_ble_eq_true rfl)
  rw [lg_entry_eq]
  generalize (lg_sl ([.ref a0, .int c, .int k, .int x]) ++ List.replicate (19 - (lg_sl ([.ref a0, .int c, .int k, .int x])).length) Slot.unset).toArray = ls at hl ⊢
  have hl : lv_has ls 19 [(0, .ref a0), (1, .int c), (2, .int k), (3, .int x)] := hl
  have b_c : -2147483648 ≤ c_t ∧ c_t ≤ 2147483647 := h_c ▸ ⟨xi_lo c, Int.le_of_lt_add_one (xi_hi c)⟩
  have b_k : -2147483648 ≤ k_t ∧ k_t ≤ 2147483647 := h_k ▸ ⟨xi_lo k, Int.le_of_lt_add_one (xi_hi k)⟩
  have b_x : -2147483648 ≤ x_t ∧ x_t ≤ 2147483647 := h_x ▸ ⟨xi_lo x, Int.le_of_lt_add_one (xi_hi x)⟩
  obtain ⟨lw, rlw, tlw⟩ := hR.at a0 10 t_a0 (rfl : h_rs 13 10 = some (1310, false)) (by decide)
  have alw : h_ad z a0 10 = lw := h_ad.at rlw
  obtain ⟨hw, rhw, thw⟩ := hR.at a0 11 t_a0 (rfl : h_rs 13 11 = some (1311, false)) (by decide)
  have ahw : h_ad z a0 11 = hw := h_ad.at rhw
  obtain ⟨tb, rtb, ttb⟩ := hR.at a0 32 t_a0 (rfl : h_rs 13 32 = some (1332, false)) (by decide)
  have atb : h_ad z a0 32 = tb := h_ad.at rtb
  obtain ⟨f0_12, ef0_12⟩ : ∃ v : Int32, v = I0 a0 12 := ⟨_, rfl⟩
  have qf0_12 : (I0 a0 12).toInt = f0_12.toInt := congrArg Int32.toInt ef0_12.symm
  have jf0_12 := hI.rd a0 12 t_a0 ef0_12 (rfl : h_bd 13 12 = (0, 9))
  obtain ⟨f0_30, ef0_30⟩ : ∃ v : Int32, v = I0 a0 30 := ⟨_, rfl⟩
  have qf0_30 : (I0 a0 30).toInt = f0_30.toInt := congrArg Int32.toInt ef0_30.symm
  have jf0_30 := hI.rd a0 30 t_a0 ef0_30 (rfl : h_bd 13 30 = (0, 1))
  rw [alw] at hJ1
  rw [atb] at hJ2
  have hlb : ∀ q, _ := fun q => h_lt0_b (q := q) hI tlw
  obtain ⟨q, hq⟩ := h_blk.ex (I0 (h_ad z a0 11)) (I0 a0 12).toNatClampNeg
  have hlb := hlb q
  have hqq := hq.lt (by have := h_cl (i := I0 a0 12) rfl (by omega); omega)
  have hok := hJ1 q hqq.1 hqq.2
  have hpos : ∀ i : Nat, (i : Int) < h_lt0 (I0 lw) q → 1 ≤ h_wt (I0 lw) q i := fun i hi => h_wt_pos hok hlb.2.1 hi
  have hall := h_sum_ge (w := h_wt (I0 lw) q) (n := (h_lt0 (I0 lw) q).toNat) (fun i hi => hpos i (by omega))
  refine lv_iload_n hx hb dX12_chance_0 rfl (lv_at hl 1 rfl) ?_
  refine vp_callSi (W.runS (As := [.int c]) (rest := []) ⟨hx, hb, hml, hown, hts⟩ (tX12_isClub l E X A z I0 L0 c (c_t) h_c) (va_cwS 1 hts gX12_chance_X12_isClub rfl rfl rfl (by decide +kernel) ⟨Nat.le_of_ble_eq_true rfl, Nat.le_of_ble_eq_true rfl⟩) ⟨h_blind _ _ _ _ _ _ _, h_pre _ hE hk hX hA hI hR g⟩ rfl rfl hl.1 rfl (lv_room (Nat.le_of_ble_eq_true rfl)) dX12_chance_1 ⟨Nat.le_of_ble_eq_true rfl, Nat.le_of_ble_eq_true rfl⟩) (fun rh1 h1 => ?_)
  rcases h1 with ⟨rfl, h1⟩ | ⟨rfl, h1⟩
  · skip
    refine lv_if_eq (tgt := 27) hx hb dX12_chance_4 (by decide) (fun _ => ?_) (fun h => absurd (by decide) h)
    refine lv_ldc2 (v := (-2)) hx hb hown (hts (.constantLong RX12 315 (-2)) (by decide +kernel)) dX12_chance_27 ?_
    exact W.lret (v := (-2)) hx hb hr (fun t ht hW => ⟨(-2), rfl, trivial, ht⟩) (fun _ h => by cases h) dX12_chance_30
  · skip
    refine lv_if_eq (tgt := 27) hx hb dX12_chance_4 (by decide) (fun h => absurd h (by decide)) (fun _ => ?_)
    refine lv_iload_n hx hb dX12_chance_7 rfl (lv_at hl 2 rfl) ?_
    refine lv_i2l hx hb dX12_chance_8 rfl ?_
    refine lv_topl (fun v4 ev4 => ?_)
    have jv4 : v4.toInt = k_t := by rw [ev4, xi_64]; exact h_k
    refine lv_lconst (v := 0) hx hb dX12_chance_9 (by decide) ?_
    refine lv_lconst (v := 1) hx hb dX12_chance_10 (by decide) ?_
    refine vp_callSi (W.runS (As := [.long v4, .long 0, .long 1]) (rest := []) ⟨hx, hb, hml, hown, hts⟩ (tX12_in l E X A z I0 L0 v4 (k_t) jv4 0 (0) (by decide) 1 (1) (by decide)) (va_cwS 3 hts gX12_chance_X12_in rfl rfl rfl (by decide +kernel) ⟨Nat.le_of_ble_eq_true rfl, Nat.le_of_ble_eq_true rfl⟩) ⟨h_blind _ _ _ _ _ _ _, h_pre _ hE hk hX hA hI hR g⟩ rfl rfl hl.1 rfl (lv_room (Nat.le_of_ble_eq_true rfl)) dX12_chance_11 ⟨Nat.le_of_ble_eq_true rfl, Nat.le_of_ble_eq_true rfl⟩) (fun rh5 h5 => ?_)
    rcases h5 with ⟨rfl, h5⟩ | ⟨rfl, h5⟩
    · skip
      refine lv_if_eq (tgt := 27) hx hb dX12_chance_14 (by decide) (fun _ => ?_) (fun h => absurd (by decide) h)
      refine lv_ldc2 (v := (-2)) hx hb hown (hts (.constantLong RX12 315 (-2)) (by decide +kernel)) dX12_chance_27 ?_
      exact W.lret (v := (-2)) hx hb hr (fun t ht hW => ⟨(-2), rfl, trivial, ht⟩) (fun _ h => by cases h) dX12_chance_30
    · skip
      refine lv_if_eq (tgt := 27) hx hb dX12_chance_14 (by decide) (fun h => absurd h (by decide)) (fun _ => ?_)
      refine lv_iload_n hx hb dX12_chance_17 rfl (lv_at hl 3 rfl) ?_
      refine lv_i2l hx hb dX12_chance_18 rfl ?_
      refine lv_topl (fun v8 ev8 => ?_)
      have jv8 : v8.toInt = x_t := by rw [ev8, xi_64]; exact h_x
      refine lv_lconst (v := 0) hx hb dX12_chance_19 (by decide) ?_
      refine lv_lconst (v := 1) hx hb dX12_chance_20 (by decide) ?_
      refine vp_callSi (W.runS (As := [.long v8, .long 0, .long 1]) (rest := []) ⟨hx, hb, hml, hown, hts⟩ (tX12_in l E X A z I0 L0 v8 (x_t) jv8 0 (0) (by decide) 1 (1) (by decide)) (va_cwS 3 hts gX12_chance_X12_in rfl rfl rfl (by decide +kernel) ⟨Nat.le_of_ble_eq_true rfl, Nat.le_of_ble_eq_true rfl⟩) ⟨h_blind _ _ _ _ _ _ _, h_pre _ hE hk hX hA hI hR g⟩ rfl rfl hl.1 rfl (lv_room (Nat.le_of_ble_eq_true rfl)) dX12_chance_21 ⟨Nat.le_of_ble_eq_true rfl, Nat.le_of_ble_eq_true rfl⟩) (fun rh9 h9 => ?_)
      rcases h9 with ⟨rfl, h9⟩ | ⟨rfl, h9⟩
      · skip
        refine lv_if_ne (tgt := 31) hx hb dX12_chance_24 (by decide) (fun h => absurd (by decide) h) (fun _ => ?_)
        refine lv_ldc2 (v := (-2)) hx hb hown (hts (.constantLong RX12 315 (-2)) (by decide +kernel)) dX12_chance_27 ?_
        exact W.lret (v := (-2)) hx hb hr (fun t ht hW => ⟨(-2), rfl, trivial, ht⟩) (fun _ h => by cases h) dX12_chance_30
      · skip
        refine lv_if_ne (tgt := 31) hx hb dX12_chance_24 (by decide) (fun _ => ?_) (fun h => absurd h (by decide))
        refine lv_aload_n hx hb dX12_chance_31 rfl (lv_at hl 0 rfl) ?_
        refine h_get (v := .int f0_30) hx hb hts iX12 hown g t_a0 (by decide) so_13 rfl 30 (by decide) (hts (.fieldLink RX12 306 "CapLeagueModel" "hasTable" "Z") (by decide +kernel)) rfl dX12_chance_32 (congrArg Value.int (ef0_30.symm)) ?_
        refine lv_if_ne (tgt := 42) hx hb dX12_chance_35 (by decide) (fun c12 => ?_) (fun c12 => ?_)
        · have ic12 := (xi_ne c12 rfl (by decide) : f0_30.toInt ≠ 0)
          obtain ⟨kw, hkw, hkt⟩ := hJ2 (by omega) c_t (by omega) (by omega)
          refine lv_iconst (v := 0) hx hb dX12_chance_42 (by decide) ?_
          refine lv_istore (lv' := [(4, .int 0), (0, .ref a0), (1, .int c), (2, .int k), (3, .int x)]) hx hb dX12_chance_43 hl (by decide) rfl (fun ls hl => ?_)
          have loop45_0 : ∀ (n : Nat) (ls : Array Slot) (v13 : Int32), lv_has ls 19 [(0, .ref a0), (1, .int c), (2, .int k), (3, .int x), (4, .int v13)] → (0 ≤ v13.toInt ∧ v13.toInt ≤ 7) → (v13.toInt ≤ (kw : Int)) → (8 - v13.toInt) < (n : Int) → W pr_ l ev_ (headSpec wsX12_chance ({ frames := 5, cells := 0, slots := 0, locals := 320 })).room s m ([.ref a0, .int c, .int k, .int x] : List Value).toArray below meth cd_ s.heap [] 0 0 (MQ below (vp_Sl (fun r => True)) ([.ref a0, .int c, .int k, .int x] : List Value).toArray s 0 0 (fun _ => False)) (F0 m 45 ls []) := by
            intro n
            induction n with
            | zero => intro ls v13 hl jv13 hx45_0 hn; exact absurd hn (by omega)
            | succ n ih45 =>
              intro ls v13 hl jv13 hx45_0 hn
              refine lv_aload_n hx hb dX12_chance_45 rfl (lv_at hl 0 rfl) ?_
              refine h_get (v := .ref tb) hx hb hts iX12 hown g t_a0 (by decide) so_13 rfl 32 (by decide) (hts (.fieldLink RX12 73 "CapLeagueModel" "table" "[I") (by decide +kernel)) rfl dX12_chance_46 (by show va_rf (z.R a0 32) = _; rw [rtb]; rfl) ?_
              refine lv_iload hx hb dX12_chance_49 (lv_at hl 4 rfl) ?_
              refine h_ald hx hb g ttb (by decide) so_1332 (xi_in (by omega) (by omega)) dX12_chance_51 ?_
              refine lv_topi (fun v14 ev14 => ?_)
              have jv14 := hI.rd tb v13.toNatClampNeg ttb ev14 (rfl : h_bd 1332 _ = (0, 7))
              have ov14 : v14.toInt = c_t ∨ v13.toInt ≠ (kw : Int) := by
                by_cases h : v13.toInt = (kw : Int)
                · left
                  rw [ev14, h_keq (k := kw) (i := v13) rfl (by omega) h.symm]
                  exact hkt
                · exact Or.inr h
              refine lv_iload_n hx hb dX12_chance_52 rfl (lv_at hl 1 rfl) ?_
              refine lv_icmp_eq (tgt := 62) hx hb dX12_chance_53 (by decide) (fun c15 => ?_) (fun c15 => ?_)
              · have ic15 := (xi_eq c15 rfl h_c : v14.toInt = c_t)
                refine lv_lconst (v := 0) hx hb dX12_chance_62 (by decide) ?_
                refine lv_lstore (lv' := [(5, .long 0), (0, .ref a0), (1, .int c), (2, .int k), (3, .int x), (4, .int v13)]) hx hb dX12_chance_63 hl (by decide) rfl (fun ls hl => ?_)
                refine lv_lconst (v := 1) hx hb dX12_chance_65 (by decide) ?_
                refine lv_lstore (lv' := [(7, .long 1), (5, .long 0), (0, .ref a0), (1, .int c), (2, .int k), (3, .int x), (4, .int v13)]) hx hb dX12_chance_66 hl (by decide) rfl (fun ls hl => ?_)
                refine lv_aload_n hx hb dX12_chance_68 rfl (lv_at hl 2 rfl) ?_
                refine vp_callSi (W.runV (As := []) (rest := []) ⟨hx, hb, hml, hown, hts⟩ (tX12_weightsC l E X A z I0 L0 a0 t_a0 (q) (hq)) (cwV 0 hts gX12_chance_X12_weights rfl rfl rfl (by decide +kernel) ⟨Nat.le_of_ble_eq_true rfl, Nat.le_of_ble_eq_true rfl⟩) ⟨h_blind _ _ _ _ _ _ _, h_recv g t_a0 (by decide) so_13 (q := (RX12, TX12, 51)) rfl, h_pre _ hE hk hX hA hI hR g⟩ rfl rfl hl.1 rfl (lv_room (Nat.le_of_ble_eq_true rfl)) dX12_chance_69 ⟨Nat.le_of_ble_eq_true rfl, Nat.le_of_ble_eq_true rfl⟩) (fun rh16 h16 => ?_)
                obtain ⟨h16, h16p0⟩ := h16
                rw [alw] at h16p0
                refine lv_istore (lv' := [(9, .int rh16), (7, .long 1), (5, .long 0), (0, .ref a0), (1, .int c), (2, .int k), (3, .int x), (4, .int v13)]) hx hb dX12_chance_72 hl (by decide) rfl (fun ls hl => ?_)
                refine lv_aload_n hx hb dX12_chance_74 rfl (lv_at hl 3 rfl) ?_
                refine vp_callSi (W.runV (As := []) (rest := []) ⟨hx, hb, hml, hown, hts⟩ (tX12_lotsC l E X A z I0 L0 a0 t_a0 (q) (hq)) (cwV 0 hts gX12_chance_X12_lots rfl rfl rfl (by decide +kernel) ⟨Nat.le_of_ble_eq_true rfl, Nat.le_of_ble_eq_true rfl⟩) ⟨h_blind _ _ _ _ _ _ _, h_recv g t_a0 (by decide) so_13 (q := (RX12, TX12, 51)) rfl, h_pre _ hE hk hX hA hI hR g⟩ rfl rfl hl.1 rfl (lv_room (Nat.le_of_ble_eq_true rfl)) dX12_chance_75 ⟨Nat.le_of_ble_eq_true rfl, Nat.le_of_ble_eq_true rfl⟩) (fun rh17 h17 => ?_)
                obtain ⟨h17, h17p0⟩ := h17
                rw [alw] at h17p0
                refine lv_if_ne (tgt := 97) hx hb dX12_chance_78 (by decide) (fun c18 => ?_) (fun c18 => ?_)
                · have ic18 := (xi_ne c18 rfl (by decide) : rh17.toInt ≠ 0)
                  refine lv_iload_n hx hb dX12_chance_97 rfl (lv_at hl 5 rfl) ?_
                  refine lv_if_ne (tgt := 118) hx hb dX12_chance_98 (by decide) (fun c19 => ?_) (fun c19 => ?_)
                  · have ic19 := (xi_ne c19 h_k (by decide) : k_t ≠ 0)
                    refine lv_iconst (v := 0) hx hb dX12_chance_118 (by decide) ?_
                    refine lv_istore (lv' := [(10, .int 0), (9, .int rh16), (7, .long 1), (5, .long 0), (0, .ref a0), (1, .int c), (2, .int k), (3, .int x), (4, .int v13)]) hx hb dX12_chance_119 hl (by decide) rfl (fun ls hl => ?_)
                    have loop121_1 : ∀ (n : Nat) (ls : Array Slot) (v22 : Int32) (v20 v21 : Int64), lv_has ls 19 [(0, .ref a0), (3, .int x), (4, .int v13), (5, .long v20), (7, .long v21), (9, .int rh16), (10, .int v22)] → (0 ≤ v22.toInt ∧ v22.toInt ≤ 7) → (h_ci v21.toInt rh16.toInt (v22.toInt).toNat) → (8 - v22.toInt) < (n : Int) → W pr_ l ev_ (headSpec wsX12_chance ({ frames := 5, cells := 0, slots := 0, locals := 320 })).room s m ([.ref a0, .int c, .int k, .int x] : List Value).toArray below meth cd_ s.heap [] 0 0 (MQ below (vp_Sl (fun r => True)) ([.ref a0, .int c, .int k, .int x] : List Value).toArray s 0 0 (fun _ => False)) (F0 m 121 ls []) := by
                      intro n
                      induction n with
                      | zero => intro ls v22 v20 v21 hl jv22 hx121_0 hn; exact absurd hn (by omega)
                      | succ n ih121 =>
                        intro ls v22 v20 v21 hl jv22 hx121_0 hn
                        have cb := hx121_0.1
                        refine lv_iload hx hb dX12_chance_121 (lv_at hl 6 rfl) ?_
                        refine lv_aload_n hx hb dX12_chance_123 rfl (lv_at hl 0 rfl) ?_
                        refine vp_callSi (W.runV (As := []) (rest := [.int v22]) ⟨hx, hb, hml, hown, hts⟩ (tX12_lotsC l E X A z I0 L0 a0 t_a0 (q) (hq)) (cwV 0 hts gX12_chance_X12_lots rfl rfl rfl (by decide +kernel) ⟨Nat.le_of_ble_eq_true rfl, Nat.le_of_ble_eq_true rfl⟩) ⟨h_blind _ _ _ _ _ _ _, h_recv g t_a0 (by decide) so_13 (q := (RX12, TX12, 51)) rfl, h_pre _ hE hk hX hA hI hR g⟩ rfl rfl hl.1 rfl (lv_room (Nat.le_of_ble_eq_true rfl)) dX12_chance_124 ⟨Nat.le_of_ble_eq_true rfl, Nat.le_of_ble_eq_true rfl⟩) (fun rh23 h23 => ?_)
                        obtain ⟨h23, h23p0⟩ := h23
                        rw [alw] at h23p0
                        refine lv_icmp_ge (tgt := 249) hx hb dX12_chance_127 (by decide) (fun c24 => ?_) (fun c24 => ?_)
                        · have ic24 := (xi_le c24 rfl rfl : rh23.toInt ≤ v22.toInt)
                          refine lv_lload hx hb dX12_chance_249 (lv_at hl 3 rfl) ?_
                          refine lv_lload hx hb dX12_chance_251 (lv_at hl 4 rfl) ?_
                          refine vp_callSl (W.runS (As := [.long v20, .long v21]) (rest := []) ⟨hx, hb, hml, hown, hts⟩ (tX12_common l E X A z I0 L0 v20 (v20.toInt) rfl v21 (v21.toInt) rfl (by omega)) (va_cwS 2 hts gX12_chance_X12_common rfl rfl rfl (by decide +kernel) ⟨Nat.le_of_ble_eq_true rfl, Nat.le_of_ble_eq_true rfl⟩) ⟨h_blind _ _ _ _ _ _ _, h_pre _ hE hk hX hA hI hR g⟩ rfl rfl hl.1 rfl (lv_room (Nat.le_of_ble_eq_true rfl)) dX12_chance_253 ⟨Nat.le_of_ble_eq_true rfl, Nat.le_of_ble_eq_true rfl⟩) (fun rh25 h25 => ?_)
                          obtain ⟨h25p0, h25p1⟩ := h25
                          have jrh25 : -9223372036854775808 ≤ rh25.toInt := Int64.le_toInt _
                          refine lv_lstore (lv' := [(10, .long rh25), (0, .ref a0), (3, .int x), (4, .int v13), (5, .long v20), (7, .long v21), (9, .int rh16)]) hx hb dX12_chance_256 hl (by decide) rfl (fun ls hl => ?_)
                          refine lv_iload_n hx hb dX12_chance_258 rfl (lv_at hl 2 rfl) ?_
                          refine lv_if_ne (tgt := 270) hx hb dX12_chance_259 (by decide) (fun c26 => ?_) (fun c26 => ?_)
                          · have ic26 := (xi_ne c26 h_x (by decide) : x_t ≠ 0)
                            refine lv_lload hx hb dX12_chance_270 (lv_at hl 5 rfl) ?_
                            refine lv_lload hx hb dX12_chance_272 (lv_at hl 0 rfl) ?_
                            refine lv_ldiv hx hb dX12_chance_274 (h_lne0 (by omega)) ?_
                            refine lv_topl (fun v27 ev27 => ?_)
                            exact W.lret (v := v27) hx hb hr (fun t ht hW => ⟨v27, rfl, trivial, ht⟩) (fun _ h => by cases h) dX12_chance_275
                          · have ic26 := (xi_eq c26 h_x (by decide) : x_t = 0)
                            refine lv_lload hx hb dX12_chance_262 (lv_at hl 4 rfl) ?_
                            refine lv_lload hx hb dX12_chance_264 (lv_at hl 0 rfl) ?_
                            refine lv_ldiv hx hb dX12_chance_266 (h_lne0 (by omega)) ?_
                            refine lv_topl (fun v28 ev28 => ?_)
                            refine lv_goto (tgt := 275) hx hb dX12_chance_267 (by decide) ?_
                            exact W.lret (v := v28) hx hb hr (fun t ht hW => ⟨v28, rfl, trivial, ht⟩) (fun _ h => by cases h) dX12_chance_275
                        · have ic24 := (xi_nle c24 rfl rfl : v22.toInt < rh23.toInt)
                          refine lv_iload hx hb dX12_chance_130 (lv_at hl 2 rfl) ?_
                          refine lv_aload_n hx hb dX12_chance_132 rfl (lv_at hl 0 rfl) ?_
                          refine vp_callSi (W.runV (As := []) (rest := [.int v13]) ⟨hx, hb, hml, hown, hts⟩ (tX12_lotsC l E X A z I0 L0 a0 t_a0 (q) (hq)) (cwV 0 hts gX12_chance_X12_lots rfl rfl rfl (by decide +kernel) ⟨Nat.le_of_ble_eq_true rfl, Nat.le_of_ble_eq_true rfl⟩) ⟨h_blind _ _ _ _ _ _ _, h_recv g t_a0 (by decide) so_13 (q := (RX12, TX12, 51)) rfl, h_pre _ hE hk hX hA hI hR g⟩ rfl rfl hl.1 rfl (lv_room (Nat.le_of_ble_eq_true rfl)) dX12_chance_133 ⟨Nat.le_of_ble_eq_true rfl, Nat.le_of_ble_eq_true rfl⟩) (fun rh29 h29 => ?_)
                          obtain ⟨h29, h29p0⟩ := h29
                          rw [alw] at h29p0
                          refine lv_icmp_ge (tgt := 249) hx hb dX12_chance_136 (by decide) (fun c30 => ?_) (fun c30 => ?_)
                          · have ic30 := (xi_le c30 rfl rfl : rh29.toInt ≤ v13.toInt)
                            refine lv_lload hx hb dX12_chance_249 (lv_at hl 3 rfl) ?_
                            refine lv_lload hx hb dX12_chance_251 (lv_at hl 4 rfl) ?_
                            refine vp_callSl (W.runS (As := [.long v20, .long v21]) (rest := []) ⟨hx, hb, hml, hown, hts⟩ (tX12_common l E X A z I0 L0 v20 (v20.toInt) rfl v21 (v21.toInt) rfl (by omega)) (va_cwS 2 hts gX12_chance_X12_common rfl rfl rfl (by decide +kernel) ⟨Nat.le_of_ble_eq_true rfl, Nat.le_of_ble_eq_true rfl⟩) ⟨h_blind _ _ _ _ _ _ _, h_pre _ hE hk hX hA hI hR g⟩ rfl rfl hl.1 rfl (lv_room (Nat.le_of_ble_eq_true rfl)) dX12_chance_253 ⟨Nat.le_of_ble_eq_true rfl, Nat.le_of_ble_eq_true rfl⟩) (fun rh31 h31 => ?_)
                            obtain ⟨h31p0, h31p1⟩ := h31
                            have jrh31 : -9223372036854775808 ≤ rh31.toInt := Int64.le_toInt _
                            refine lv_lstore (lv' := [(10, .long rh31), (0, .ref a0), (3, .int x), (4, .int v13), (5, .long v20), (7, .long v21), (9, .int rh16)]) hx hb dX12_chance_256 hl (by decide) rfl (fun ls hl => ?_)
                            refine lv_iload_n hx hb dX12_chance_258 rfl (lv_at hl 2 rfl) ?_
                            refine lv_if_ne (tgt := 270) hx hb dX12_chance_259 (by decide) (fun c32 => ?_) (fun c32 => ?_)
                            · have ic32 := (xi_ne c32 h_x (by decide) : x_t ≠ 0)
                              refine lv_lload hx hb dX12_chance_270 (lv_at hl 5 rfl) ?_
                              refine lv_lload hx hb dX12_chance_272 (lv_at hl 0 rfl) ?_
                              refine lv_ldiv hx hb dX12_chance_274 (h_lne0 (by omega)) ?_
                              refine lv_topl (fun v33 ev33 => ?_)
                              exact W.lret (v := v33) hx hb hr (fun t ht hW => ⟨v33, rfl, trivial, ht⟩) (fun _ h => by cases h) dX12_chance_275
                            · have ic32 := (xi_eq c32 h_x (by decide) : x_t = 0)
                              refine lv_lload hx hb dX12_chance_262 (lv_at hl 4 rfl) ?_
                              refine lv_lload hx hb dX12_chance_264 (lv_at hl 0 rfl) ?_
                              refine lv_ldiv hx hb dX12_chance_266 (h_lne0 (by omega)) ?_
                              refine lv_topl (fun v34 ev34 => ?_)
                              refine lv_goto (tgt := 275) hx hb dX12_chance_267 (by decide) ?_
                              exact W.lret (v := v34) hx hb hr (fun t ht hW => ⟨v34, rfl, trivial, ht⟩) (fun _ h => by cases h) dX12_chance_275
                          · have ic30 := (xi_nle c30 rfl rfl : v13.toInt < rh29.toInt)
                            refine lv_iload hx hb dX12_chance_139 (lv_at hl 6 rfl) ?_
                            refine lv_iload hx hb dX12_chance_141 (lv_at hl 2 rfl) ?_
                            refine lv_icmp_ne (tgt := 149) hx hb dX12_chance_143 (by decide) (fun c35 => ?_) (fun c35 => ?_)
                            · have ic35 := (xi_ne c35 rfl rfl : v22.toInt ≠ v13.toInt)
                              have hgt := h_sum_gt (w := h_wt (I0 lw) q) (n := (h_lt0 (I0 lw) q).toNat) (j := (v22.toInt).toNat) (fun i hi => hpos i (by omega)) (by omega)
                              have cle := hx121_0.le (by omega)
                              refine lv_aload_n hx hb dX12_chance_149 rfl (lv_at hl 0 rfl) ?_
                              refine lv_iload hx hb dX12_chance_150 (lv_at hl 6 rfl) ?_
                              refine vp_callSi (W.runV (As := [.int v22]) (rest := []) ⟨hx, hb, hml, hown, hts⟩ (tX12_weightC l E X A z I0 L0 a0 t_a0 v22 (v22.toInt) rfl (by omega) (q) (hq)) (cwV 1 hts gX12_chance_X12_weight rfl rfl rfl (by decide +kernel) ⟨Nat.le_of_ble_eq_true rfl, Nat.le_of_ble_eq_true rfl⟩) ⟨h_blind _ _ _ _ _ _ _, h_recv g t_a0 (by decide) so_13 (q := (RX12, TX12, 51)) rfl, h_pre _ hE hk hX hA hI hR g⟩ rfl rfl hl.1 rfl (lv_room (Nat.le_of_ble_eq_true rfl)) dX12_chance_152 ⟨Nat.le_of_ble_eq_true rfl, Nat.le_of_ble_eq_true rfl⟩) (fun rh36 h36 => ?_)
                              obtain ⟨h36, h36p0⟩ := h36
                              rw [alw] at h36p0
                              refine lv_i2l hx hb dX12_chance_155 rfl ?_
                              refine lv_topl (fun v37 ev37 => ?_)
                              have jv37 : v37.toInt = rh36.toInt := by rw [ev37, xi_64]
                              refine lv_aload_n hx hb dX12_chance_156 rfl (lv_at hl 0 rfl) ?_
                              refine lv_iload hx hb dX12_chance_157 (lv_at hl 2 rfl) ?_
                              refine vp_callSi (W.runV (As := [.int v13]) (rest := [.long v37]) ⟨hx, hb, hml, hown, hts⟩ (tX12_weightC l E X A z I0 L0 a0 t_a0 v13 (v13.toInt) rfl (by omega) (q) (hq)) (cwV 1 hts gX12_chance_X12_weight rfl rfl rfl (by decide +kernel) ⟨Nat.le_of_ble_eq_true rfl, Nat.le_of_ble_eq_true rfl⟩) ⟨h_blind _ _ _ _ _ _ _, h_recv g t_a0 (by decide) so_13 (q := (RX12, TX12, 51)) rfl, h_pre _ hE hk hX hA hI hR g⟩ rfl rfl hl.1 rfl (lv_room (Nat.le_of_ble_eq_true rfl)) dX12_chance_159 ⟨Nat.le_of_ble_eq_true rfl, Nat.le_of_ble_eq_true rfl⟩) (fun rh38 h38 => ?_)
                              obtain ⟨h38, h38p0⟩ := h38
                              rw [alw] at h38p0
                              refine lv_i2l hx hb dX12_chance_162 rfl ?_
                              refine lv_topl (fun v39 ev39 => ?_)
                              have jv39 : v39.toInt = rh38.toInt := by rw [ev39, xi_64]
                              refine lv_lmul hx hb dX12_chance_163 ?_
                              refine lv_topl (fun v40 ev40 => ?_)
                              refine lv_lstore (lv' := [(11, .long v40), (0, .ref a0), (3, .int x), (4, .int v13), (5, .long v20), (7, .long v21), (9, .int rh16), (10, .int v22)]) hx hb dX12_chance_164 hl (by decide) rfl (fun ls hl => ?_)
                              refine lv_iload hx hb dX12_chance_166 (lv_at hl 6 rfl) ?_
                              refine lv_i2l hx hb dX12_chance_168 rfl ?_
                              refine lv_topl (fun v41 ev41 => ?_)
                              have jv41 : v41.toInt = rh16.toInt := by rw [ev41, xi_64]
                              refine lv_iload hx hb dX12_chance_169 (lv_at hl 6 rfl) ?_
                              refine lv_aload_n hx hb dX12_chance_171 rfl (lv_at hl 1 rfl) ?_
                              refine lv_iload hx hb dX12_chance_172 (lv_at hl 7 rfl) ?_
                              refine vp_callSi (W.runV (As := [.int v22]) (rest := [.int rh16, .long v41]) ⟨hx, hb, hml, hown, hts⟩ (tX12_weightC l E X A z I0 L0 a0 t_a0 v22 (v22.toInt) rfl (by omega) (q) (hq)) (cwV 1 hts gX12_chance_X12_weight rfl rfl rfl (by decide +kernel) ⟨Nat.le_of_ble_eq_true rfl, Nat.le_of_ble_eq_true rfl⟩) ⟨h_blind _ _ _ _ _ _ _, h_recv g t_a0 (by decide) so_13 (q := (RX12, TX12, 51)) rfl, h_pre _ hE hk hX hA hI hR g⟩ rfl rfl hl.1 rfl (lv_room (Nat.le_of_ble_eq_true rfl)) dX12_chance_174 ⟨Nat.le_of_ble_eq_true rfl, Nat.le_of_ble_eq_true rfl⟩) (fun rh42 h42 => ?_)
                              obtain ⟨h42, h42p0⟩ := h42
                              rw [alw] at h42p0
                              refine lv_isub hx hb dX12_chance_177 ?_
                              refine lv_topi (fun v43 ev43 => ?_)
                              have jv43 : v43.toInt = rh16.toInt - rh42.toInt := xi_sub ev43 rfl rfl (by omega) (by omega)
                              refine lv_i2l hx hb dX12_chance_178 rfl ?_
                              refine lv_topl (fun v44 ev44 => ?_)
                              have jv44 : v44.toInt = v43.toInt := by rw [ev44, xi_64]
                              refine lv_lmul hx hb dX12_chance_179 ?_
                              refine lv_topl (fun v45 ev45 => ?_)
                              have pv45 := h_m140 (a := rh16.toInt) (b := v43.toInt) (by omega) (by omega) (by omega) (by omega)
                              have nv45 : v45.toInt = rh16.toInt * v43.toInt := h_lmul ev45 (by rw [jv41, jv44]) (by omega) (by omega)
                              refine lv_lstore (lv' := [(13, .long v45), (11, .long v40), (0, .ref a0), (3, .int x), (4, .int v13), (5, .long v20), (7, .long v21), (9, .int rh16), (10, .int v22)]) hx hb dX12_chance_180 hl (by decide) rfl (fun ls hl => ?_)
                              refine lv_lload hx hb dX12_chance_182 (lv_at hl 6 rfl) ?_
                              refine lv_lload hx hb dX12_chance_184 (lv_at hl 0 rfl) ?_
                              refine vp_callSl (W.runS (As := [.long v21, .long v45]) (rest := []) ⟨hx, hb, hml, hown, hts⟩ (tX12_common l E X A z I0 L0 v21 (v21.toInt) rfl v45 (v45.toInt) rfl (by omega)) (va_cwS 2 hts gX12_chance_X12_common rfl rfl rfl (by decide +kernel) ⟨Nat.le_of_ble_eq_true rfl, Nat.le_of_ble_eq_true rfl⟩) ⟨h_blind _ _ _ _ _ _ _, h_pre _ hE hk hX hA hI hR g⟩ rfl rfl hl.1 rfl (lv_room (Nat.le_of_ble_eq_true rfl)) dX12_chance_186 ⟨Nat.le_of_ble_eq_true rfl, Nat.le_of_ble_eq_true rfl⟩) (fun rh46 h46 => ?_)
                              obtain ⟨h46p0, h46p1⟩ := h46
                              have jrh46 : -9223372036854775808 ≤ rh46.toInt := Int64.le_toInt _
                              refine lv_lstore (lv' := [(15, .long rh46), (13, .long v45), (11, .long v40), (0, .ref a0), (3, .int x), (4, .int v13), (5, .long v20), (7, .long v21), (9, .int rh16), (10, .int v22)]) hx hb dX12_chance_189 hl (by decide) rfl (fun ls hl => ?_)
                              refine lv_lload hx hb dX12_chance_191 (lv_at hl 6 rfl) ?_
                              refine lv_lload hx hb dX12_chance_193 (lv_at hl 1 rfl) ?_
                              refine lv_lload hx hb dX12_chance_195 (lv_at hl 0 rfl) ?_
                              refine lv_ldiv hx hb dX12_chance_197 (h_lne0 (by omega)) ?_
                              refine lv_topl (fun v47 ev47 => ?_)
                              refine lv_lmul hx hb dX12_chance_198 ?_
                              refine lv_topl (fun v48 ev48 => ?_)
                              refine lv_lload hx hb dX12_chance_199 (lv_at hl 2 rfl) ?_
                              refine lv_lload hx hb dX12_chance_201 (lv_at hl 7 rfl) ?_
                              refine lv_lload hx hb dX12_chance_203 (lv_at hl 0 rfl) ?_
                              refine lv_ldiv hx hb dX12_chance_205 (h_lne0 (by omega)) ?_
                              refine lv_topl (fun v49 ev49 => ?_)
                              refine lv_lmul hx hb dX12_chance_206 ?_
                              refine lv_topl (fun v50 ev50 => ?_)
                              refine lv_ladd hx hb dX12_chance_207 ?_
                              refine lv_topl (fun v51 ev51 => ?_)
                              refine lv_lstore (lv' := [(5, .long v51), (15, .long rh46), (13, .long v45), (11, .long v40), (0, .ref a0), (3, .int x), (4, .int v13), (7, .long v21), (9, .int rh16), (10, .int v22)]) hx hb dX12_chance_208 hl (by decide) rfl (fun ls hl => ?_)
                              refine lv_lload hx hb dX12_chance_210 (lv_at hl 7 rfl) ?_
                              refine lv_lload hx hb dX12_chance_212 (lv_at hl 1 rfl) ?_
                              refine lv_ldiv hx hb dX12_chance_214 (h_lne0 (by omega)) ?_
                              refine lv_topl (fun v52 ev52 => ?_)
                              have dv52 := h_ldiv ev52 (by omega) (by omega) (h_gd h46p1).1
                              refine lv_lload hx hb dX12_chance_215 (lv_at hl 2 rfl) ?_
                              refine lv_lmul hx hb dX12_chance_217 ?_
                              refine lv_topl (fun v53 ev53 => ?_)
                              have stv53 := h_ci.step (d := v52.toInt) (b1 := v52.toInt * v45.toInt) hx121_0 nv45 (by omega) (by omega) (by omega) h46p1 dv52 rfl
                              have lev53 := stv53.le (by omega)
                              have nv53 : v53.toInt = v52.toInt * v45.toInt := h_lmul ev53 rfl (by omega) (by omega)
                              rw [← nv53] at stv53 lev53
                              refine lv_lstore (lv' := [(7, .long v53), (5, .long v51), (15, .long rh46), (13, .long v45), (11, .long v40), (0, .ref a0), (3, .int x), (4, .int v13), (9, .int rh16), (10, .int v22)]) hx hb dX12_chance_218 hl (by decide) rfl (fun ls hl => ?_)
                              refine lv_lload hx hb dX12_chance_220 (lv_at hl 1 rfl) ?_
                              refine lv_lload hx hb dX12_chance_222 (lv_at hl 0 rfl) ?_
                              refine vp_callSl (W.runS (As := [.long v51, .long v53]) (rest := []) ⟨hx, hb, hml, hown, hts⟩ (tX12_common l E X A z I0 L0 v51 (v51.toInt) rfl v53 (v53.toInt) rfl (by omega)) (va_cwS 2 hts gX12_chance_X12_common rfl rfl rfl (by decide +kernel) ⟨Nat.le_of_ble_eq_true rfl, Nat.le_of_ble_eq_true rfl⟩) ⟨h_blind _ _ _ _ _ _ _, h_pre _ hE hk hX hA hI hR g⟩ rfl rfl hl.1 rfl (lv_room (Nat.le_of_ble_eq_true rfl)) dX12_chance_224 ⟨Nat.le_of_ble_eq_true rfl, Nat.le_of_ble_eq_true rfl⟩) (fun rh54 h54 => ?_)
                              obtain ⟨h54p0, h54p1⟩ := h54
                              have jrh54 : -9223372036854775808 ≤ rh54.toInt := Int64.le_toInt _
                              refine lv_lstore (lv' := [(17, .long rh54), (7, .long v53), (5, .long v51), (15, .long rh46), (13, .long v45), (11, .long v40), (0, .ref a0), (3, .int x), (4, .int v13), (9, .int rh16), (10, .int v22)]) hx hb dX12_chance_227 hl (by decide) rfl (fun ls hl => ?_)
                              refine lv_lload hx hb dX12_chance_229 (lv_at hl 2 rfl) ?_
                              refine lv_lload hx hb dX12_chance_231 (lv_at hl 0 rfl) ?_
                              refine lv_ldiv hx hb dX12_chance_233 (h_lne0 (by omega)) ?_
                              refine lv_topl (fun v55 ev55 => ?_)
                              refine lv_lstore (lv' := [(5, .long v55), (17, .long rh54), (7, .long v53), (15, .long rh46), (13, .long v45), (11, .long v40), (0, .ref a0), (3, .int x), (4, .int v13), (9, .int rh16), (10, .int v22)]) hx hb dX12_chance_234 hl (by decide) rfl (fun ls hl => ?_)
                              refine lv_lload hx hb dX12_chance_236 (lv_at hl 2 rfl) ?_
                              refine lv_lload hx hb dX12_chance_238 (lv_at hl 1 rfl) ?_
                              refine lv_ldiv hx hb dX12_chance_240 (h_lne0 (by omega)) ?_
                              refine lv_topl (fun v56 ev56 => ?_)
                              have dv56 := h_ldiv ev56 (by omega) (by omega) (h_gd h54p1).2
                              have civ56 := stv53.cut dv56
                              refine lv_lstore (lv' := [(7, .long v56), (5, .long v55), (17, .long rh54), (15, .long rh46), (13, .long v45), (11, .long v40), (0, .ref a0), (3, .int x), (4, .int v13), (9, .int rh16), (10, .int v22)]) hx hb dX12_chance_241 hl (by decide) rfl (fun ls hl => ?_)
                              obtain ⟨v57, ev57⟩ : ∃ z : Int32, z = v22 + 1 := ⟨_, rfl⟩
                              have jv57 : v57.toInt = v22.toInt + 1 := xi_add ev57 rfl (by decide) (by omega) (by omega)
                              refine lv_iinc (v := v57) (lv' := [(10, .int v57), (7, .long v56), (5, .long v55), (17, .long rh54), (15, .long rh46), (13, .long v45), (11, .long v40), (0, .ref a0), (3, .int x), (4, .int v13), (9, .int rh16)]) hx hb dX12_chance_243 hl (k := 10) rfl (by rw [ev57]; rfl) (by decide) rfl (fun ls hl => ?_)
                              refine lv_goto (tgt := 121) hx hb dX12_chance_246 (by decide) ?_
                              exact ih121 _ v57 (v55) (v56) (lv_sub hl [7, 8, 9, 2, 1, 10, 0] rfl) (by omega) (by rw [show (v57.toInt).toNat = (v22.toInt).toNat + 1 from by omega]; exact civ56) (by omega)
                            · have ic35 := (xi_eq c35 rfl rfl : v22.toInt = v13.toInt)
                              refine lv_goto (tgt := 243) hx hb dX12_chance_146 (by decide) ?_
                              obtain ⟨v58, ev58⟩ : ∃ z : Int32, z = v22 + 1 := ⟨_, rfl⟩
                              have jv58 : v58.toInt = v22.toInt + 1 := xi_add ev58 rfl (by decide) (by omega) (by omega)
                              refine lv_iinc (v := v58) (lv' := [(10, .int v58), (0, .ref a0), (3, .int x), (4, .int v13), (5, .long v20), (7, .long v21), (9, .int rh16)]) hx hb dX12_chance_243 hl (k := 6) rfl (by rw [ev58]; rfl) (by decide) rfl (fun ls hl => ?_)
                              refine lv_goto (tgt := 121) hx hb dX12_chance_246 (by decide) ?_
                              exact ih121 _ v58 (v20) (v21) (lv_sub hl [1, 2, 3, 4, 5, 6, 0] rfl) (by omega) (by rw [show (v58.toInt).toNat = (v22.toInt).toNat + 1 from by omega]; exact hx121_0.mono) (by omega)
                    have kc59 : (0 : Int32).toInt = 0 := by decide
                    exact loop121_1 _ _ (0) (0) (1) (lv_sub hl [4, 7, 8, 3, 2, 1, 0] rfl) ⟨by decide, by decide⟩ (by rw [show (1 : Int64).toInt = 1 by decide, show ((0 : Int32).toInt).toNat = 0 by decide]; exact h_ci.zero (by omega) (by omega)) (show (8 - (0 : Int)) < (((8 - (0 : Int)).toNat + 1 : Nat) : Int) by omega)
                  · have ic19 := (xi_eq c19 h_k (by decide) : k_t = 0)
                    refine lv_aload_n hx hb dX12_chance_101 rfl (lv_at hl 3 rfl) ?_
                    refine lv_iload hx hb dX12_chance_102 (lv_at hl 7 rfl) ?_
                    refine vp_callSi (W.runV (As := [.int v13]) (rest := []) ⟨hx, hb, hml, hown, hts⟩ (tX12_weightC l E X A z I0 L0 a0 t_a0 v13 (v13.toInt) rfl (by omega) (q) (hq)) (cwV 1 hts gX12_chance_X12_weight rfl rfl rfl (by decide +kernel) ⟨Nat.le_of_ble_eq_true rfl, Nat.le_of_ble_eq_true rfl⟩) ⟨h_blind _ _ _ _ _ _ _, h_recv g t_a0 (by decide) so_13 (q := (RX12, TX12, 51)) rfl, h_pre _ hE hk hX hA hI hR g⟩ rfl rfl hl.1 rfl (lv_room (Nat.le_of_ble_eq_true rfl)) dX12_chance_104 ⟨Nat.le_of_ble_eq_true rfl, Nat.le_of_ble_eq_true rfl⟩) (fun rh60 h60 => ?_)
                    obtain ⟨h60, h60p0⟩ := h60
                    rw [alw] at h60p0
                    refine lv_i2l hx hb dX12_chance_107 rfl ?_
                    refine lv_topl (fun v61 ev61 => ?_)
                    have jv61 : v61.toInt = rh60.toInt := by rw [ev61, xi_64]
                    refine lv_lstore (lv' := [(5, .long v61), (9, .int rh16), (7, .long 1), (0, .ref a0), (1, .int c), (2, .int k), (3, .int x), (4, .int v13)]) hx hb dX12_chance_108 hl (by decide) rfl (fun ls hl => ?_)
                    refine lv_iload hx hb dX12_chance_110 (lv_at hl 1 rfl) ?_
                    refine lv_i2l hx hb dX12_chance_112 rfl ?_
                    refine lv_topl (fun v62 ev62 => ?_)
                    have jv62 : v62.toInt = rh16.toInt := by rw [ev62, xi_64]
                    refine lv_lstore (lv' := [(7, .long v62), (5, .long v61), (9, .int rh16), (0, .ref a0), (1, .int c), (2, .int k), (3, .int x), (4, .int v13)]) hx hb dX12_chance_113 hl (by decide) rfl (fun ls hl => ?_)
                    refine lv_goto (tgt := 249) hx hb dX12_chance_115 (by decide) ?_
                    refine lv_lload hx hb dX12_chance_249 (lv_at hl 1 rfl) ?_
                    refine lv_lload hx hb dX12_chance_251 (lv_at hl 0 rfl) ?_
                    refine vp_callSl (W.runS (As := [.long v61, .long v62]) (rest := []) ⟨hx, hb, hml, hown, hts⟩ (tX12_common l E X A z I0 L0 v61 (rh60.toInt) jv61 v62 (rh16.toInt) jv62 (by omega)) (va_cwS 2 hts gX12_chance_X12_common rfl rfl rfl (by decide +kernel) ⟨Nat.le_of_ble_eq_true rfl, Nat.le_of_ble_eq_true rfl⟩) ⟨h_blind _ _ _ _ _ _ _, h_pre _ hE hk hX hA hI hR g⟩ rfl rfl hl.1 rfl (lv_room (Nat.le_of_ble_eq_true rfl)) dX12_chance_253 ⟨Nat.le_of_ble_eq_true rfl, Nat.le_of_ble_eq_true rfl⟩) (fun rh63 h63 => ?_)
                    obtain ⟨h63p0, h63p1⟩ := h63
                    have jrh63 : -9223372036854775808 ≤ rh63.toInt := Int64.le_toInt _
                    refine lv_lstore (lv' := [(10, .long rh63), (7, .long v62), (5, .long v61), (9, .int rh16), (0, .ref a0), (1, .int c), (2, .int k), (3, .int x), (4, .int v13)]) hx hb dX12_chance_256 hl (by decide) rfl (fun ls hl => ?_)
                    refine lv_iload_n hx hb dX12_chance_258 rfl (lv_at hl 7 rfl) ?_
                    refine lv_if_ne (tgt := 270) hx hb dX12_chance_259 (by decide) (fun c64 => ?_) (fun c64 => ?_)
                    · have ic64 := (xi_ne c64 h_x (by decide) : x_t ≠ 0)
                      refine lv_lload hx hb dX12_chance_270 (lv_at hl 1 rfl) ?_
                      refine lv_lload hx hb dX12_chance_272 (lv_at hl 0 rfl) ?_
                      refine lv_ldiv hx hb dX12_chance_274 (h_lne0 (by omega)) ?_
                      refine lv_topl (fun v65 ev65 => ?_)
                      exact W.lret (v := v65) hx hb hr (fun t ht hW => ⟨v65, rfl, trivial, ht⟩) (fun _ h => by cases h) dX12_chance_275
                    · have ic64 := (xi_eq c64 h_x (by decide) : x_t = 0)
                      refine lv_lload hx hb dX12_chance_262 (lv_at hl 2 rfl) ?_
                      refine lv_lload hx hb dX12_chance_264 (lv_at hl 0 rfl) ?_
                      refine lv_ldiv hx hb dX12_chance_266 (h_lne0 (by omega)) ?_
                      refine lv_topl (fun v66 ev66 => ?_)
                      refine lv_goto (tgt := 275) hx hb dX12_chance_267 (by decide) ?_
                      exact W.lret (v := v66) hx hb hr (fun t ht hW => ⟨v66, rfl, trivial, ht⟩) (fun _ h => by cases h) dX12_chance_275
                · have ic18 := (xi_eq c18 rfl (by decide) : rh17.toInt = 0)
                  refine lv_iload hx hb dX12_chance_81 (lv_at hl 7 rfl) ?_
                  refine lv_iload_n hx hb dX12_chance_83 rfl (lv_at hl 5 rfl) ?_
                  refine lv_icmp_ne (tgt := 91) hx hb dX12_chance_84 (by decide) (fun c67 => ?_) (fun c67 => ?_)
                  · have ic67 := (xi_ne c67 rfl h_k : v13.toInt ≠ k_t)
                    refine lv_lconst (v := 0) hx hb dX12_chance_91 (by decide) ?_
                    refine lv_lstore (lv' := [(5, .long 0), (9, .int rh16), (7, .long 1), (0, .ref a0), (1, .int c), (2, .int k), (3, .int x), (4, .int v13)]) hx hb dX12_chance_92 hl (by decide) rfl (fun ls hl => ?_)
                    refine lv_goto (tgt := 249) hx hb dX12_chance_94 (by decide) ?_
                    refine lv_lload hx hb dX12_chance_249 (lv_at hl 0 rfl) ?_
                    refine lv_lload hx hb dX12_chance_251 (lv_at hl 2 rfl) ?_
                    refine vp_callSl (W.runS (As := [.long 0, .long 1]) (rest := []) ⟨hx, hb, hml, hown, hts⟩ (tX12_common l E X A z I0 L0 0 (0) (by decide) 1 (1) (by decide) (by omega)) (va_cwS 2 hts gX12_chance_X12_common rfl rfl rfl (by decide +kernel) ⟨Nat.le_of_ble_eq_true rfl, Nat.le_of_ble_eq_true rfl⟩) ⟨h_blind _ _ _ _ _ _ _, h_pre _ hE hk hX hA hI hR g⟩ rfl rfl hl.1 rfl (lv_room (Nat.le_of_ble_eq_true rfl)) dX12_chance_253 ⟨Nat.le_of_ble_eq_true rfl, Nat.le_of_ble_eq_true rfl⟩) (fun rh68 h68 => ?_)
                    obtain ⟨h68p0, h68p1⟩ := h68
                    have jrh68 : -9223372036854775808 ≤ rh68.toInt := Int64.le_toInt _
                    refine lv_lstore (lv' := [(10, .long rh68), (5, .long 0), (9, .int rh16), (7, .long 1), (0, .ref a0), (1, .int c), (2, .int k), (3, .int x), (4, .int v13)]) hx hb dX12_chance_256 hl (by decide) rfl (fun ls hl => ?_)
                    refine lv_iload_n hx hb dX12_chance_258 rfl (lv_at hl 7 rfl) ?_
                    refine lv_if_ne (tgt := 270) hx hb dX12_chance_259 (by decide) (fun c69 => ?_) (fun c69 => ?_)
                    · have ic69 := (xi_ne c69 h_x (by decide) : x_t ≠ 0)
                      refine lv_lload hx hb dX12_chance_270 (lv_at hl 3 rfl) ?_
                      refine lv_lload hx hb dX12_chance_272 (lv_at hl 0 rfl) ?_
                      refine lv_ldiv hx hb dX12_chance_274 (h_lne0 (by omega)) ?_
                      refine lv_topl (fun v70 ev70 => ?_)
                      exact W.lret (v := v70) hx hb hr (fun t ht hW => ⟨v70, rfl, trivial, ht⟩) (fun _ h => by cases h) dX12_chance_275
                    · have ic69 := (xi_eq c69 h_x (by decide) : x_t = 0)
                      refine lv_lload hx hb dX12_chance_262 (lv_at hl 1 rfl) ?_
                      refine lv_lload hx hb dX12_chance_264 (lv_at hl 0 rfl) ?_
                      refine lv_ldiv hx hb dX12_chance_266 (h_lne0 (by omega)) ?_
                      refine lv_topl (fun v71 ev71 => ?_)
                      refine lv_goto (tgt := 275) hx hb dX12_chance_267 (by decide) ?_
                      exact W.lret (v := v71) hx hb hr (fun t ht hW => ⟨v71, rfl, trivial, ht⟩) (fun _ h => by cases h) dX12_chance_275
                  · have ic67 := (xi_eq c67 rfl h_k : v13.toInt = k_t)
                    refine lv_lconst (v := 1) hx hb dX12_chance_87 (by decide) ?_
                    refine lv_goto (tgt := 92) hx hb dX12_chance_88 (by decide) ?_
                    refine lv_lstore (lv' := [(5, .long 1), (9, .int rh16), (7, .long 1), (0, .ref a0), (1, .int c), (2, .int k), (3, .int x), (4, .int v13)]) hx hb dX12_chance_92 hl (by decide) rfl (fun ls hl => ?_)
                    refine lv_goto (tgt := 249) hx hb dX12_chance_94 (by decide) ?_
                    refine lv_lload hx hb dX12_chance_249 (lv_at hl 0 rfl) ?_
                    refine lv_lload hx hb dX12_chance_251 (lv_at hl 2 rfl) ?_
                    refine vp_callSl (W.runS (As := [.long 1, .long 1]) (rest := []) ⟨hx, hb, hml, hown, hts⟩ (tX12_common l E X A z I0 L0 1 (1) (by decide) 1 (1) (by decide) (by omega)) (va_cwS 2 hts gX12_chance_X12_common rfl rfl rfl (by decide +kernel) ⟨Nat.le_of_ble_eq_true rfl, Nat.le_of_ble_eq_true rfl⟩) ⟨h_blind _ _ _ _ _ _ _, h_pre _ hE hk hX hA hI hR g⟩ rfl rfl hl.1 rfl (lv_room (Nat.le_of_ble_eq_true rfl)) dX12_chance_253 ⟨Nat.le_of_ble_eq_true rfl, Nat.le_of_ble_eq_true rfl⟩) (fun rh72 h72 => ?_)
                    obtain ⟨h72p0, h72p1⟩ := h72
                    have jrh72 : -9223372036854775808 ≤ rh72.toInt := Int64.le_toInt _
                    refine lv_lstore (lv' := [(10, .long rh72), (5, .long 1), (9, .int rh16), (7, .long 1), (0, .ref a0), (1, .int c), (2, .int k), (3, .int x), (4, .int v13)]) hx hb dX12_chance_256 hl (by decide) rfl (fun ls hl => ?_)
                    refine lv_iload_n hx hb dX12_chance_258 rfl (lv_at hl 7 rfl) ?_
                    refine lv_if_ne (tgt := 270) hx hb dX12_chance_259 (by decide) (fun c73 => ?_) (fun c73 => ?_)
                    · have ic73 := (xi_ne c73 h_x (by decide) : x_t ≠ 0)
                      refine lv_lload hx hb dX12_chance_270 (lv_at hl 3 rfl) ?_
                      refine lv_lload hx hb dX12_chance_272 (lv_at hl 0 rfl) ?_
                      refine lv_ldiv hx hb dX12_chance_274 (h_lne0 (by omega)) ?_
                      refine lv_topl (fun v74 ev74 => ?_)
                      exact W.lret (v := v74) hx hb hr (fun t ht hW => ⟨v74, rfl, trivial, ht⟩) (fun _ h => by cases h) dX12_chance_275
                    · have ic73 := (xi_eq c73 h_x (by decide) : x_t = 0)
                      refine lv_lload hx hb dX12_chance_262 (lv_at hl 1 rfl) ?_
                      refine lv_lload hx hb dX12_chance_264 (lv_at hl 0 rfl) ?_
                      refine lv_ldiv hx hb dX12_chance_266 (h_lne0 (by omega)) ?_
                      refine lv_topl (fun v75 ev75 => ?_)
                      refine lv_goto (tgt := 275) hx hb dX12_chance_267 (by decide) ?_
                      exact W.lret (v := v75) hx hb hr (fun t ht hW => ⟨v75, rfl, trivial, ht⟩) (fun _ h => by cases h) dX12_chance_275
              · have ic15 := (xi_ne c15 rfl h_c : v14.toInt ≠ c_t)
                obtain ⟨v76, ev76⟩ : ∃ z : Int32, z = v13 + 1 := ⟨_, rfl⟩
                have jv76 : v76.toInt = v13.toInt + 1 := xi_add ev76 rfl (by decide) (by omega) (by omega)
                refine lv_iinc (v := v76) (lv' := [(4, .int v76), (0, .ref a0), (1, .int c), (2, .int k), (3, .int x)]) hx hb dX12_chance_56 hl (k := 4) rfl (by rw [ev76]; rfl) (by decide) rfl (fun ls hl => ?_)
                refine lv_goto (tgt := 45) hx hb dX12_chance_59 (by decide) ?_
                exact ih45 _ v76 (lv_sub hl [1, 2, 3, 4, 0] rfl) (by omega) (by omega) (by omega)
          have kc77 : (0 : Int32).toInt = 0 := by decide
          exact loop45_0 _ _ (0) (lv_sub hl [1, 2, 3, 4, 0] rfl) ⟨by decide, by decide⟩ (by omega) (show (8 - (0 : Int)) < (((8 - (0 : Int)).toNat + 1 : Nat) : Int) by omega)
        · have ic12 := (xi_eq c12 rfl (by decide) : f0_30.toInt = 0)
          refine lv_ldc2 (v := (-4)) hx hb hown (hts (.constantLong RX12 317 (-4)) (by decide +kernel)) dX12_chance_38 ?_
          exact W.lret (v := (-4)) hx hb hr (fun t ht hW => ⟨(-4), rfl, trivial, ht⟩) (fun _ h => by cases h) dX12_chance_41

