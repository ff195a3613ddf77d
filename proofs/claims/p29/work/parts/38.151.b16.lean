set_option maxHeartbeats 4000000 in
set_option maxRecDepth 100000 in
theorem tJ6_bitCountB (l : Launch) (E : tE) (X : tX) (A : Nat → Prop) (z : tZ) (I0 : tI) (L0 : tL) (x : Int32) (x_t : Int) (h_x : x.toInt = x_t) : Met l yJ6_bitCount_0f7a4 wsJ6_bitCount_0f7a4 ({ frames := 1, cells := 0, slots := 0, locals := 64 }) (va_Pc [.int x] (h_P E X A z I0 L0)) (vp_Si (fun r => (∀ n : Nat, n < 256 → x = nI n → r.toInt = q_pop n))) 0 0 (fun _ => False) := by
  refine Met.ofW (cc := cJ6_bitCount_0f7a4) (maxL := 1) (ret := (some .int)) (by decide) rfl ?_
  intro pr_ ev_ s m args below meth cd_ s₁ B hml hv
  obtain ⟨rfl, hE, hk, hX, hA, hK, hI, hR, hB0⟩ := hv
  have g : h_G h_so h_fk E A z I0 L0 s s.heap s.heap [] := ⟨hK, va_S.rf, hB0⟩
  have hx := B.exec
  have hb := B.bytes
  have hr := B.returns
  have hts := atoms_spec (ws := wsJ6_bitCount_0f7a4) B.pre
  have hown : s.vm.findClass RJ6 = some m.cls := findClass_of_methodNamed B.named
  have hlocks := B.notSynchronized
  have hl := lv_entry ([.int x]) (n := 1) (Nat.le_of_ble_eq_true rfl)
  rw [lg_entry_eq]
  generalize (lg_sl ([.int x]) ++ List.replicate (1 - (lg_sl ([.int x])).length) Slot.unset).toArray = ls at hl ⊢
  have hl : lv_has ls 1 [(0, .int x)] := hl
  have b_x : -2147483648 ≤ x_t ∧ x_t ≤ 2147483647 := h_x ▸ ⟨xi_lo x, Int.le_of_lt_add_one (xi_hi x)⟩
  refine lv_iload_n hx hb dJ6_bitCount_0f7a4_0 rfl (lv_at hl 0 rfl) ?_
  refine lv_iload_n hx hb dJ6_bitCount_0f7a4_1 rfl (lv_at hl 0 rfl) ?_
  refine lv_iconst (v := 1) hx hb dJ6_bitCount_0f7a4_2 (by decide) ?_
  refine lv_iushr hx hb dJ6_bitCount_0f7a4_3 rfl ?_
  refine lv_topi (fun v1 ev1 => ?_)
  have jv1 : -2147483648 ≤ v1.toInt ∧ v1.toInt ≤ 2147483647 := ⟨xi_lo _, Int.le_of_lt_add_one (xi_hi _)⟩
  refine lv_ldcw (v := 1431655765) hx hb hown (hts (.constant RJ6 265 (1431655765)) (by decide +kernel)) dJ6_bitCount_0f7a4_4 ?_
  refine lv_iand hx hb dJ6_bitCount_0f7a4_7 ?_
  refine lv_topi (fun v2 ev2 => ?_)
  have jv2 : -2147483648 ≤ v2.toInt ∧ v2.toInt ≤ 2147483647 := ⟨xi_lo _, Int.le_of_lt_add_one (xi_hi _)⟩
  refine lv_isub hx hb dJ6_bitCount_0f7a4_8 ?_
  refine lv_topi (fun v3 ev3 => ?_)
  have jv3 : -2147483648 ≤ v3.toInt ∧ v3.toInt ≤ 2147483647 := ⟨xi_lo _, Int.le_of_lt_add_one (xi_hi _)⟩
  refine lv_istore_n (lv' := [(0, .int v3)]) hx hb dJ6_bitCount_0f7a4_9 rfl hl (by decide) rfl (fun ls hl => ?_)
  refine lv_iload_n hx hb dJ6_bitCount_0f7a4_10 rfl (lv_at hl 0 rfl) ?_
  refine lv_ldcw (v := 858993459) hx hb hown (hts (.constant RJ6 266 (858993459)) (by decide +kernel)) dJ6_bitCount_0f7a4_11 ?_
  refine lv_iand hx hb dJ6_bitCount_0f7a4_14 ?_
  refine lv_topi (fun v4 ev4 => ?_)
  have jv4 : -2147483648 ≤ v4.toInt ∧ v4.toInt ≤ 2147483647 := ⟨xi_lo _, Int.le_of_lt_add_one (xi_hi _)⟩
  refine lv_iload_n hx hb dJ6_bitCount_0f7a4_15 rfl (lv_at hl 0 rfl) ?_
  refine lv_iconst (v := 2) hx hb dJ6_bitCount_0f7a4_16 (by decide) ?_
  refine lv_iushr hx hb dJ6_bitCount_0f7a4_17 rfl ?_
  refine lv_topi (fun v5 ev5 => ?_)
  have jv5 : -2147483648 ≤ v5.toInt ∧ v5.toInt ≤ 2147483647 := ⟨xi_lo _, Int.le_of_lt_add_one (xi_hi _)⟩
  refine lv_ldcw (v := 858993459) hx hb hown (hts (.constant RJ6 266 (858993459)) (by decide +kernel)) dJ6_bitCount_0f7a4_18 ?_
  refine lv_iand hx hb dJ6_bitCount_0f7a4_21 ?_
  refine lv_topi (fun v6 ev6 => ?_)
  have jv6 : -2147483648 ≤ v6.toInt ∧ v6.toInt ≤ 2147483647 := ⟨xi_lo _, Int.le_of_lt_add_one (xi_hi _)⟩
  refine lv_iadd hx hb dJ6_bitCount_0f7a4_22 ?_
  refine lv_topi (fun v7 ev7 => ?_)
  have jv7 : -2147483648 ≤ v7.toInt ∧ v7.toInt ≤ 2147483647 := ⟨xi_lo _, Int.le_of_lt_add_one (xi_hi _)⟩
  refine lv_istore_n (lv' := [(0, .int v7)]) hx hb dJ6_bitCount_0f7a4_23 rfl hl (by decide) rfl (fun ls hl => ?_)
  refine lv_iload_n hx hb dJ6_bitCount_0f7a4_24 rfl (lv_at hl 0 rfl) ?_
  refine lv_iload_n hx hb dJ6_bitCount_0f7a4_25 rfl (lv_at hl 0 rfl) ?_
  refine lv_iconst (v := 4) hx hb dJ6_bitCount_0f7a4_26 (by decide) ?_
  refine lv_iushr hx hb dJ6_bitCount_0f7a4_27 rfl ?_
  refine lv_topi (fun v8 ev8 => ?_)
  have jv8 : -2147483648 ≤ v8.toInt ∧ v8.toInt ≤ 2147483647 := ⟨xi_lo _, Int.le_of_lt_add_one (xi_hi _)⟩
  refine lv_iadd hx hb dJ6_bitCount_0f7a4_28 ?_
  refine lv_topi (fun v9 ev9 => ?_)
  have jv9 : -2147483648 ≤ v9.toInt ∧ v9.toInt ≤ 2147483647 := ⟨xi_lo _, Int.le_of_lt_add_one (xi_hi _)⟩
  refine lv_ldcw (v := 252645135) hx hb hown (hts (.constant RJ6 267 (252645135)) (by decide +kernel)) dJ6_bitCount_0f7a4_29 ?_
  refine lv_iand hx hb dJ6_bitCount_0f7a4_32 ?_
  refine lv_topi (fun v10 ev10 => ?_)
  have jv10 : -2147483648 ≤ v10.toInt ∧ v10.toInt ≤ 2147483647 := ⟨xi_lo _, Int.le_of_lt_add_one (xi_hi _)⟩
  refine lv_istore_n (lv' := [(0, .int v10)]) hx hb dJ6_bitCount_0f7a4_33 rfl hl (by decide) rfl (fun ls hl => ?_)
  refine lv_iload_n hx hb dJ6_bitCount_0f7a4_34 rfl (lv_at hl 0 rfl) ?_
  refine lv_iload_n hx hb dJ6_bitCount_0f7a4_35 rfl (lv_at hl 0 rfl) ?_
  refine lv_bipush (v := 8) hx hb dJ6_bitCount_0f7a4_36 (by decide) ?_
  refine lv_iushr hx hb dJ6_bitCount_0f7a4_38 rfl ?_
  refine lv_topi (fun v11 ev11 => ?_)
  have jv11 : -2147483648 ≤ v11.toInt ∧ v11.toInt ≤ 2147483647 := ⟨xi_lo _, Int.le_of_lt_add_one (xi_hi _)⟩
  refine lv_iadd hx hb dJ6_bitCount_0f7a4_39 ?_
  refine lv_topi (fun v12 ev12 => ?_)
  have jv12 : -2147483648 ≤ v12.toInt ∧ v12.toInt ≤ 2147483647 := ⟨xi_lo _, Int.le_of_lt_add_one (xi_hi _)⟩
  refine lv_istore_n (lv' := [(0, .int v12)]) hx hb dJ6_bitCount_0f7a4_40 rfl hl (by decide) rfl (fun ls hl => ?_)
  refine lv_iload_n hx hb dJ6_bitCount_0f7a4_41 rfl (lv_at hl 0 rfl) ?_
  refine lv_iload_n hx hb dJ6_bitCount_0f7a4_42 rfl (lv_at hl 0 rfl) ?_
  refine lv_bipush (v := 16) hx hb dJ6_bitCount_0f7a4_43 (by decide) ?_
  refine lv_iushr hx hb dJ6_bitCount_0f7a4_45 rfl ?_
  refine lv_topi (fun v13 ev13 => ?_)
  have jv13 : -2147483648 ≤ v13.toInt ∧ v13.toInt ≤ 2147483647 := ⟨xi_lo _, Int.le_of_lt_add_one (xi_hi _)⟩
  refine lv_iadd hx hb dJ6_bitCount_0f7a4_46 ?_
  refine lv_topi (fun v14 ev14 => ?_)
  have jv14 : -2147483648 ≤ v14.toInt ∧ v14.toInt ≤ 2147483647 := ⟨xi_lo _, Int.le_of_lt_add_one (xi_hi _)⟩
  refine lv_istore_n (lv' := [(0, .int v14)]) hx hb dJ6_bitCount_0f7a4_47 rfl hl (by decide) rfl (fun ls hl => ?_)
  refine lv_iload_n hx hb dJ6_bitCount_0f7a4_48 rfl (lv_at hl 0 rfl) ?_
  refine lv_bipush (v := 63) hx hb dJ6_bitCount_0f7a4_49 (by decide) ?_
  refine lv_iand hx hb dJ6_bitCount_0f7a4_51 ?_
  refine lv_topi (fun v15 ev15 => ?_)
  have jv15 : 0 ≤ v15.toInt ∧ v15.toInt ≤ 63 := h_andn 63 (by decide) ev15
  exact W.iret (v := v15) hx hb hr (fun t ht hW => ⟨v15, rfl, (by intro n hn hq; rw [ev15, ev14, ev13, ev12, ev11, ev10, ev9, ev8, ev7, ev6, ev5, ev4, ev3, ev2, ev1, hq]; clear hq; revert hn; revert n; decide +kernel), ht⟩) (fun _ h => by cases h) dJ6_bitCount_0f7a4_52
set_option maxHeartbeats 4000000 in
set_option maxRecDepth 100000 in
theorem tX9_hasB (l : Launch) (E : tE) (X : tX) (A : Nat → Prop) (z : tZ) (I0 : tI) (L0 : tL) (a0 : Nat) (t_a0 : z.ty a0 = 10) (x : Int32) (x_t : Int) (h_x : x.toInt = x_t) (y : Int32) (y_t : Int) (h_y : y.toInt = y_t) (b_y : 0 ≤ y_t ∧ y_t ≤ 1) : Met l yX9_has wsX9_has ({ frames := 1, cells := 0, slots := 0, locals := 64 }) (va_Pc [.ref a0, .int x, .int y] (h_P E X A z I0 L0)) (vp_Si (fun r => (0 ≤ r.toInt ∧ r.toInt ≤ 1) ∧ ((r.toInt = 1 ∧ (c_has I0 (h_ad z a0 6) (h_ad z a0 5) (I0 a0 3).toInt (x_t) (y_t))) ∨ (r.toInt = 0 ∧ ¬ (c_has I0 (h_ad z a0 6) (h_ad z a0 5) (I0 a0 3).toInt (x_t) (y_t)))))) 0 0 (fun _ => False) := by
  refine Met.ofW (cc := cX9_has) (maxL := 4) (ret := (some .boolean)) (by decide) rfl ?_
  intro pr_ ev_ s m args below meth cd_ s₁ B hml hv
  obtain ⟨rfl, hE, hk, hX, hA, hK, hI, hR, hB0⟩ := hv
  have g : h_G h_so h_fk E A z I0 L0 s s.heap s.heap [] := ⟨hK, va_S.rf, hB0⟩
  have hx := B.exec
  have hb := B.bytes
  have hr := B.returns
  have hts := atoms_spec (ws := wsX9_has) B.pre
  have hown : s.vm.findClass RX9 = some m.cls := findClass_of_methodNamed B.named
  have hlocks := B.notSynchronized
  have iX9 : ∀ w ∈ u_ws RX9 TX9 10, w ∈ wsX9_has := by decide +kernel
  have hl := lv_entry ([.ref a0, .int x, .int y]) (n := 4) (Nat.le_of_ble_eq_true rfl)
  rw [lg_entry_eq]
  generalize (lg_sl ([.ref a0, .int x, .int y]) ++ List.replicate (4 - (lg_sl ([.ref a0, .int x, .int y])).length) Slot.unset).toArray = ls at hl ⊢
  have hl : lv_has ls 4 [(0, .ref a0), (1, .int x), (2, .int y)] := hl
  have b_x : -2147483648 ≤ x_t ∧ x_t ≤ 2147483647 := h_x ▸ ⟨xi_lo x, Int.le_of_lt_add_one (xi_hi x)⟩
  obtain ⟨it, rit, tit⟩ := hR.at a0 5 t_a0 (rfl : h_rs 10 5 = some (1005, false)) (by decide)
  have ait : h_ad z a0 5 = it := h_ad.at rit
  obtain ⟨th, rth, tth⟩ := hR.at a0 6 t_a0 (rfl : h_rs 10 6 = some (1006, false)) (by decide)
  have ath : h_ad z a0 6 = th := h_ad.at rth
  obtain ⟨f0_3, ef0_3⟩ : ∃ v : Int32, v = I0 a0 3 := ⟨_, rfl⟩
  have qf0_3 : (I0 a0 3).toInt = f0_3.toInt := congrArg Int32.toInt ef0_3.symm
  have jf0_3 := hI.rd a0 3 t_a0 ef0_3 (rfl : h_bd 10 3 = (0, 12))
  refine lv_iconst (v := 0) hx hb dX9_has_0 (by decide) ?_
  refine lv_istore_n (lv' := [(3, .int 0), (0, .ref a0), (1, .int x), (2, .int y)]) hx hb dX9_has_1 rfl hl (by decide) rfl (fun ls hl => ?_)
  have loop2_0 : ∀ (n : Nat) (ls : Array Slot) (v1 : Int32), lv_has ls 4 [(0, .ref a0), (1, .int x), (2, .int y), (3, .int v1)] → (0 ≤ v1.toInt ∧ v1.toInt ≤ 12) → (∀ i : Nat, (i : Int) < v1.toInt → ¬ ((I0 th i).toInt = x_t ∧ (I0 it i).toInt = y_t)) → (12 - v1.toInt) < (n : Int) → W pr_ l ev_ (headSpec wsX9_has ({ frames := 1, cells := 0, slots := 0, locals := 64 })).room s m ([.ref a0, .int x, .int y] : List Value).toArray below meth cd_ s.heap [] 0 0 (MQ below (vp_Si (fun r => (0 ≤ r.toInt ∧ r.toInt ≤ 1) ∧ ((r.toInt = 1 ∧ (c_has I0 (h_ad z a0 6) (h_ad z a0 5) (I0 a0 3).toInt (x_t) (y_t))) ∨ (r.toInt = 0 ∧ ¬ (c_has I0 (h_ad z a0 6) (h_ad z a0 5) (I0 a0 3).toInt (x_t) (y_t)))))) ([.ref a0, .int x, .int y] : List Value).toArray s 0 0 (fun _ => False)) (F0 m 2 ls []) := by
    intro n
    induction n with
    | zero => intro ls v1 hl jv1 hx2_0 hn; exact absurd hn (by omega)
    | succ n ih2 =>
      intro ls v1 hl jv1 hx2_0 hn
      have kv : v1.toNatClampNeg = v1.toInt.toNat := h_keq rfl (by omega) (by omega)
      refine lv_iload_n hx hb dX9_has_2 rfl (lv_at hl 3 rfl) ?_
      refine lv_aload_n hx hb dX9_has_3 rfl (lv_at hl 0 rfl) ?_
      refine h_get (v := .int f0_3) hx hb hts iX9 hown g t_a0 (by decide) so_10 rfl 3 (by decide) (hts (.fieldLink RX9 43 "CapLeague$Trade" "size" "I") (by decide +kernel)) rfl dX9_has_4 (congrArg Value.int (ef0_3.symm)) ?_
      refine lv_icmp_ge (tgt := 38) hx hb dX9_has_7 (by decide) (fun c2 => ?_) (fun c2 => ?_)
      · have ic2 := (xi_le c2 rfl rfl : f0_3.toInt ≤ v1.toInt)
        refine lv_iconst (v := 0) hx hb dX9_has_38 (by decide) ?_
        exact W.zret (v := 0) hx hb hr (by decide) (fun t ht hW => ⟨0, rfl, ⟨⟨(by decide), (by decide)⟩, (by rw [ath, ait, ← ef0_3]; unfold c_has; have z9 : (0 : Int32).toInt = 0 := (by decide); exact Or.inr ⟨z9, fun q => by obtain ⟨i, h1, h2, h3⟩ := q; exact hx2_0 i (by omega) ⟨h2, h3⟩⟩)⟩, ht⟩) (fun _ h => by cases h) dX9_has_39
      · have ic2 := (xi_nle c2 rfl rfl : v1.toInt < f0_3.toInt)
        refine lv_aload_n hx hb dX9_has_10 rfl (lv_at hl 0 rfl) ?_
        refine h_get (v := .ref th) hx hb hts iX9 hown g t_a0 (by decide) so_10 rfl 6 (by decide) (hts (.fieldLink RX9 22 "CapLeague$Trade" "thing" "[I") (by decide +kernel)) rfl dX9_has_11 (by show va_rf (z.R a0 6) = _; rw [rth]; rfl) ?_
        refine lv_iload_n hx hb dX9_has_14 rfl (lv_at hl 3 rfl) ?_
        refine h_ald hx hb g tth (by decide) so_1006 (xi_in (by omega) (by omega)) dX9_has_15 ?_
        refine lv_topi (fun v3 ev3 => ?_)
        have jv3 := hI.rd th v1.toNatClampNeg tth ev3 (rfl : h_bd 1006 _ = ((-2147483648), 2147483647))
        refine lv_iload_n hx hb dX9_has_16 rfl (lv_at hl 1 rfl) ?_
        refine lv_icmp_ne (tgt := 32) hx hb dX9_has_17 (by decide) (fun c4 => ?_) (fun c4 => ?_)
        · have ic4 := (xi_ne c4 rfl h_x : v3.toInt ≠ x_t)
          obtain ⟨v5, ev5⟩ : ∃ z : Int32, z = v1 + 1 := ⟨_, rfl⟩
          have jv5 : v5.toInt = v1.toInt + 1 := xi_add ev5 rfl (by decide) (by omega) (by omega)
          refine lv_iinc (v := v5) (lv' := [(3, .int v5), (0, .ref a0), (1, .int x), (2, .int y)]) hx hb dX9_has_32 hl (k := 3) rfl (by rw [ev5]; rfl) (by decide) rfl (fun ls hl => ?_)
          refine lv_goto (tgt := 2) hx hb dX9_has_35 (by decide) ?_
          exact ih2 _ v5 (lv_sub hl [1, 2, 3, 0] rfl) (by omega) (q_nomore hx2_0 (by omega) (fun q => absurd q.1 (by rw [← kv, ev3.symm]; omega)) (by omega)) (by omega)
        · have ic4 := (xi_eq c4 rfl h_x : v3.toInt = x_t)
          refine lv_aload_n hx hb dX9_has_20 rfl (lv_at hl 0 rfl) ?_
          refine h_get (v := .ref it) hx hb hts iX9 hown g t_a0 (by decide) so_10 rfl 5 (by decide) (hts (.fieldLink RX9 18 "CapLeague$Trade" "isTurn" "[Z") (by decide +kernel)) rfl dX9_has_21 (by show va_rf (z.R a0 5) = _; rw [rit]; rfl) ?_
          refine lv_iload_n hx hb dX9_has_24 rfl (lv_at hl 3 rfl) ?_
          refine h_zald hx hb g tit (by decide) so_1005 (xi_in (by omega) (by omega)) dX9_has_25 ?_
          refine lv_topi (fun v6 ev6 => ?_)
          have jv6 := hI.rd it v1.toNatClampNeg tit ev6 (rfl : h_bd 1005 _ = (0, 1))
          refine lv_iload_n hx hb dX9_has_26 rfl (lv_at hl 2 rfl) ?_
          refine lv_icmp_ne (tgt := 32) hx hb dX9_has_27 (by decide) (fun c7 => ?_) (fun c7 => ?_)
          · have ic7 := (xi_ne c7 rfl h_y : v6.toInt ≠ y_t)
            obtain ⟨v8, ev8⟩ : ∃ z : Int32, z = v1 + 1 := ⟨_, rfl⟩
            have jv8 : v8.toInt = v1.toInt + 1 := xi_add ev8 rfl (by decide) (by omega) (by omega)
            refine lv_iinc (v := v8) (lv' := [(3, .int v8), (0, .ref a0), (1, .int x), (2, .int y)]) hx hb dX9_has_32 hl (k := 3) rfl (by rw [ev8]; rfl) (by decide) rfl (fun ls hl => ?_)
            refine lv_goto (tgt := 2) hx hb dX9_has_35 (by decide) ?_
            exact ih2 _ v8 (lv_sub hl [1, 2, 3, 0] rfl) (by omega) (q_nomore hx2_0 (by omega) (fun q => absurd q.2 (by rw [← kv, ev6.symm]; omega)) (by omega)) (by omega)
          · have ic7 := (xi_eq c7 rfl h_y : v6.toInt = y_t)
            refine lv_iconst (v := 1) hx hb dX9_has_30 (by decide) ?_
            exact W.zret (v := 1) hx hb hr (by decide) (fun t ht hW => ⟨1, rfl, ⟨⟨(by decide), (by decide)⟩, (by rw [ath, ait, ← ef0_3]; unfold c_has; have z9 : (1 : Int32).toInt = 1 := (by decide); exact Or.inl ⟨z9, v1.toInt.toNat, by omega, by rw [← kv, ev3.symm]; omega, by rw [← kv, ev6.symm]; omega⟩)⟩, ht⟩) (fun _ h => by cases h) dX9_has_31
  have kc9 : (0 : Int32).toInt = 0 := by decide
  exact loop2_0 _ _ (0) (lv_sub hl [1, 2, 3, 0] rfl) ⟨by decide, by decide⟩ (fun i hi => absurd hi (by omega)) (show (12 - (0 : Int)) < (((12 - (0 : Int)).toNat + 1 : Nat) : Int) by omega)
set_option maxHeartbeats 4000000 in
set_option maxRecDepth 100000 in
theorem tX9_hasPlayerB (l : Launch) (E : tE) (X : tX) (A : Nat → Prop) (z : tZ) (I0 : tI) (L0 : tL) (a0 : Nat) (t_a0 : z.ty a0 = 10) (x : Int32) (x_t : Int) (h_x : x.toInt = x_t) : Met l yX9_hasPlayer wsX9_hasPlayer ({ frames := 2, cells := 0, slots := 0, locals := 128 }) (va_Pc [.ref a0, .int x] (h_P E X A z I0 L0)) (vp_Si (fun r => (0 ≤ r.toInt ∧ r.toInt ≤ 1) ∧ ((r.toInt = 1 ∧ (c_has I0 (h_ad z a0 6) (h_ad z a0 5) (I0 a0 3).toInt (x_t) (0))) ∨ (r.toInt = 0 ∧ ¬ (c_has I0 (h_ad z a0 6) (h_ad z a0 5) (I0 a0 3).toInt (x_t) (0)))))) 0 0 (fun _ => False) := by
  refine Met.ofW (cc := cX9_hasPlayer) (maxL := 2) (ret := (some .boolean)) (by decide) rfl ?_
  intro pr_ ev_ s m args below meth cd_ s₁ B hml hv
  obtain ⟨rfl, hE, hk, hX, hA, hK, hI, hR, hB0⟩ := hv
  have g : h_G h_so h_fk E A z I0 L0 s s.heap s.heap [] := ⟨hK, va_S.rf, hB0⟩
  have hx := B.exec
  have hb := B.bytes
  have hr := B.returns
  have hts := atoms_spec (ws := wsX9_hasPlayer) B.pre
  have hown : s.vm.findClass RX9 = some m.cls := findClass_of_methodNamed B.named
  have hlocks := B.notSynchronized
  have hl := lv_entry ([.ref a0, .int x]) (n := 2) (Nat.le_of_ble_eq_true rfl)
  rw [lg_entry_eq]
  generalize (lg_sl ([.ref a0, .int x]) ++ List.replicate (2 - (lg_sl ([.ref a0, .int x])).length) Slot.unset).toArray = ls at hl ⊢
  have hl : lv_has ls 2 [(0, .ref a0), (1, .int x)] := hl
  have b_x : -2147483648 ≤ x_t ∧ x_t ≤ 2147483647 := h_x ▸ ⟨xi_lo x, Int.le_of_lt_add_one (xi_hi x)⟩
  refine lv_aload_n hx hb dX9_hasPlayer_0 rfl (lv_at hl 0 rfl) ?_
  refine lv_iload_n hx hb dX9_hasPlayer_1 rfl (lv_at hl 1 rfl) ?_
  refine lv_iconst (v := 0) hx hb dX9_hasPlayer_2 (by decide) ?_
  refine vp_callSi (W.runV (As := [.int x, .int 0]) (rest := []) ⟨hx, hb, hml, hown, hts⟩ (tX9_hasB l E X A z I0 L0 a0 t_a0 x (x_t) h_x 0 (0) (by decide) (by omega)) (cwV 2 hts gX9_hasPlayer_X9_has rfl rfl rfl (by decide +kernel) ⟨Nat.le_of_ble_eq_true rfl, Nat.le_of_ble_eq_true rfl⟩) ⟨h_blind _ _ _ _ _ _ _, h_recv g t_a0 (by decide) so_10 (q := (RX9, TX9, 10)) rfl, h_pre _ hE hk hX hA hI hR g⟩ rfl rfl hl.1 rfl (lv_room (Nat.le_of_ble_eq_true rfl)) dX9_hasPlayer_3 ⟨Nat.le_of_ble_eq_true rfl, Nat.le_of_ble_eq_true rfl⟩) (fun rh1 h1 => ?_)
  obtain ⟨h1, h1p0⟩ := h1
  exact W.zret (v := rh1) hx hb hr (h_nb (by omega) (by omega)).1 (fun t ht hW => ⟨rh1, rfl, ⟨⟨(by omega), (by omega)⟩, (h1p0)⟩, ht⟩) (fun _ h => by cases h) dX9_hasPlayer_6
set_option maxHeartbeats 4000000 in
set_option maxRecDepth 100000 in
theorem tX9_hasTurnB (l : Launch) (E : tE) (X : tX) (A : Nat → Prop) (z : tZ) (I0 : tI) (L0 : tL) (a0 : Nat) (t_a0 : z.ty a0 = 10) (x : Int32) (x_t : Int) (h_x : x.toInt = x_t) : Met l yX9_hasTurn wsX9_hasTurn ({ frames := 2, cells := 0, slots := 0, locals := 128 }) (va_Pc [.ref a0, .int x] (h_P E X A z I0 L0)) (vp_Si (fun r => (0 ≤ r.toInt ∧ r.toInt ≤ 1) ∧ ((r.toInt = 1 ∧ (c_has I0 (h_ad z a0 6) (h_ad z a0 5) (I0 a0 3).toInt (x_t) (1))) ∨ (r.toInt = 0 ∧ ¬ (c_has I0 (h_ad z a0 6) (h_ad z a0 5) (I0 a0 3).toInt (x_t) (1)))))) 0 0 (fun _ => False) := by
  refine Met.ofW (cc := cX9_hasTurn) (maxL := 2) (ret := (some .boolean)) (by decide) rfl ?_
  intro pr_ ev_ s m args below meth cd_ s₁ B hml hv
  obtain ⟨rfl, hE, hk, hX, hA, hK, hI, hR, hB0⟩ := hv
  have g : h_G h_so h_fk E A z I0 L0 s s.heap s.heap [] := ⟨hK, va_S.rf, hB0⟩
  have hx := B.exec
  have hb := B.bytes
  have hr := B.returns
  have hts := atoms_spec (ws := wsX9_hasTurn) B.pre
  have hown : s.vm.findClass RX9 = some m.cls := findClass_of_methodNamed B.named
  have hlocks := B.notSynchronized
  have hl := lv_entry ([.ref a0, .int x]) (n := 2) (Nat.le_of_ble_eq_true rfl)
  rw [lg_entry_eq]
  generalize (lg_sl ([.ref a0, .int x]) ++ List.replicate (2 - (lg_sl ([.ref a0, .int x])).length) Slot.unset).toArray = ls at hl ⊢
  have hl : lv_has ls 2 [(0, .ref a0), (1, .int x)] := hl
  have b_x : -2147483648 ≤ x_t ∧ x_t ≤ 2147483647 := h_x ▸ ⟨xi_lo x, Int.le_of_lt_add_one (xi_hi x)⟩
  refine lv_aload_n hx hb dX9_hasTurn_0 rfl (lv_at hl 0 rfl) ?_
  refine lv_iload_n hx hb dX9_hasTurn_1 rfl (lv_at hl 1 rfl) ?_
  refine lv_iconst (v := 1) hx hb dX9_hasTurn_2 (by decide) ?_
  refine vp_callSi (W.runV (As := [.int x, .int 1]) (rest := []) ⟨hx, hb, hml, hown, hts⟩ (tX9_hasB l E X A z I0 L0 a0 t_a0 x (x_t) h_x 1 (1) (by decide) (by omega)) (cwV 2 hts gX9_hasTurn_X9_has rfl rfl rfl (by decide +kernel) ⟨Nat.le_of_ble_eq_true rfl, Nat.le_of_ble_eq_true rfl⟩) ⟨h_blind _ _ _ _ _ _ _, h_recv g t_a0 (by decide) so_10 (q := (RX9, TX9, 10)) rfl, h_pre _ hE hk hX hA hI hR g⟩ rfl rfl hl.1 rfl (lv_room (Nat.le_of_ble_eq_true rfl)) dX9_hasTurn_3 ⟨Nat.le_of_ble_eq_true rfl, Nat.le_of_ble_eq_true rfl⟩) (fun rh1 h1 => ?_)
  obtain ⟨h1, h1p0⟩ := h1
  exact W.zret (v := rh1) hx hb hr (h_nb (by omega) (by omega)).1 (fun t ht hW => ⟨rh1, rfl, ⟨⟨(by omega), (by omega)⟩, (h1p0)⟩, ht⟩) (fun _ h => by cases h) dX9_hasTurn_6
set_option maxHeartbeats 4000000 in
set_option maxRecDepth 100000 in
theorem tX9_canJoinB (l : Launch) (E : tE) (X : tX) (A : Nat → Prop) (z : tZ) (I0 : tI) (L0 : tL) (a0 : Nat) (t_a0 : z.ty a0 = 10) (x : Int32) (x_t : Int) (h_x : x.toInt = x_t) (b_x : 0 ≤ x_t ∧ x_t ≤ 7) (y : Int32) (y_t : Int) (h_y : y.toInt = y_t) (b_y : 0 ≤ y_t ∧ y_t ≤ 7) (hcb : 0 ≤ (I0 a0 4).toInt ∧ (I0 a0 4).toInt ≤ 255) : Met l yX9_canJoin wsX9_canJoin ({ frames := 2, cells := 0, slots := 0, locals := 128 }) (va_Pc [.ref a0, .int x, .int y] (h_P E X A z I0 L0)) (vp_Si (fun r => (0 ≤ r.toInt ∧ r.toInt ≤ 1) ∧ ((r.toInt = 1 ∧ q_jn (I0 a0 4) x y) ∨ (r.toInt = 0 ∧ ¬ q_jn (I0 a0 4) x y)))) 0 0 (fun _ => False) := by
  refine Met.ofW (cc := cX9_canJoin) (maxL := 3) (ret := (some .boolean)) (by decide) rfl ?_
  intro pr_ ev_ s m args below meth cd_ s₁ B hml hv
  obtain ⟨rfl, hE, hk, hX, hA, hK, hI, hR, hB0⟩ := hv
  have g : h_G h_so h_fk E A z I0 L0 s s.heap s.heap [] := ⟨hK, va_S.rf, hB0⟩
  have hx := B.exec
  have hb := B.bytes
  have hr := B.returns
  have hts := atoms_spec (ws := wsX9_canJoin) B.pre
  have hown : s.vm.findClass RX9 = some m.cls := findClass_of_methodNamed B.named
  have hlocks := B.notSynchronized
  have iX9 : ∀ w ∈ u_ws RX9 TX9 10, w ∈ wsX9_canJoin := by decide +kernel
  have hl := lv_entry ([.ref a0, .int x, .int y]) (n := 3) (Nat.le_of_ble_eq_true rfl)
  rw [lg_entry_eq]
  generalize (lg_sl ([.ref a0, .int x, .int y]) ++ List.replicate (3 - (lg_sl ([.ref a0, .int x, .int y])).length) Slot.unset).toArray = ls at hl ⊢
  have hl : lv_has ls 3 [(0, .ref a0), (1, .int x), (2, .int y)] := hl
  obtain ⟨f0_4, ef0_4⟩ : ∃ v : Int32, v = I0 a0 4 := ⟨_, rfl⟩
  have qf0_4 : (I0 a0 4).toInt = f0_4.toInt := congrArg Int32.toInt ef0_4.symm
  have jf0_4 := hI.rd a0 4 t_a0 ef0_4 (rfl : h_bd 10 4 = ((-2147483648), 2147483647))
  rw [← ef0_4] at hcb
  have kx : 0 ≤ x.toInt ∧ x.toInt ≤ 7 := by rw [h_x]; exact b_x
  have ky : 0 ≤ y.toInt ∧ y.toInt ≤ 7 := by rw [h_y]; exact b_y
  refine lv_aload_n hx hb dX9_canJoin_0 rfl (lv_at hl 0 rfl) ?_
  refine h_get (v := .int f0_4) hx hb hts iX9 hown g t_a0 (by decide) so_10 rfl 4 (by decide) (hts (.fieldLink RX9 47 "CapLeague$Trade" "clubBits" "I") (by decide +kernel)) rfl dX9_canJoin_1 (congrArg Value.int (ef0_4.symm)) ?_
  refine lv_iconst (v := 1) hx hb dX9_canJoin_4 (by decide) ?_
  refine lv_iload_n hx hb dX9_canJoin_5 rfl (lv_at hl 1 rfl) ?_
  refine lv_ishl hx hb dX9_canJoin_6 ?_
  refine lv_topi (fun v1 ev1 => ?_)
  have jv1 : -2147483648 ≤ v1.toInt ∧ v1.toInt ≤ 2147483647 := ⟨xi_lo _, Int.le_of_lt_add_one (xi_hi _)⟩
  refine lv_ior hx hb dX9_canJoin_7 ?_
  refine lv_topi (fun v2 ev2 => ?_)
  have jv2 : 0 ≤ v2.toInt ∧ v2.toInt ≤ 255 := q_or1 hcb kx ev1 ev2
  refine lv_iconst (v := 1) hx hb dX9_canJoin_8 (by decide) ?_
  refine lv_iload_n hx hb dX9_canJoin_9 rfl (lv_at hl 2 rfl) ?_
  refine lv_ishl hx hb dX9_canJoin_10 ?_
  refine lv_topi (fun v3 ev3 => ?_)
  have jv3 : -2147483648 ≤ v3.toInt ∧ v3.toInt ≤ 2147483647 := ⟨xi_lo _, Int.le_of_lt_add_one (xi_hi _)⟩
  refine lv_ior hx hb dX9_canJoin_11 ?_
  refine lv_topi (fun v4 ev4 => ?_)
  have jv4 : 0 ≤ v4.toInt ∧ v4.toInt ≤ 255 := q_or1 jv2 ky ev3 ev4
  refine vp_callSi (W.runS (As := [.int v4]) (rest := []) ⟨hx, hb, hml, hown, hts⟩ (tJ6_bitCountB l E X A z I0 L0 v4 (v4.toInt) rfl) (va_cwS 1 hts gX9_canJoin_J6_bitCount_0f7a4 rfl rfl rfl (by decide +kernel) ⟨Nat.le_of_ble_eq_true rfl, Nat.le_of_ble_eq_true rfl⟩) ⟨h_blind _ _ _ _ _ _ _, h_pre _ hE hk hX hA hI hR g⟩ rfl rfl hl.1 rfl (lv_room (Nat.le_of_ble_eq_true rfl)) dX9_canJoin_12 ⟨Nat.le_of_ble_eq_true rfl, Nat.le_of_ble_eq_true rfl⟩) (fun rh5 h5 => ?_)
  have h5p0 := h5
  have jrh5 : -2147483648 ≤ rh5.toInt ∧ rh5.toInt ≤ 2147483647 := ⟨xi_lo _, Int.le_of_lt_add_one (xi_hi _)⟩
  have bc := h5p0 v4.toInt.toNat (by omega) (q_nI (by omega))
  refine lv_iconst (v := 4) hx hb dX9_canJoin_15 (by decide) ?_
  refine lv_icmp_gt (tgt := 23) hx hb dX9_canJoin_16 (by decide) (fun c6 => ?_) (fun c6 => ?_)
  · have ic6 := (xi_lt c6 (by decide) rfl : 4 < rh5.toInt)
    refine lv_iconst (v := 0) hx hb dX9_canJoin_23 (by decide) ?_
    exact W.zret (v := 0) hx hb hr (by decide) (fun t ht hW => ⟨0, rfl, ⟨⟨(by decide), (by decide)⟩, (by unfold q_jn q_sh; rw [← ef0_4, ← ev1, ← ev2, ← ev3, ← ev4]; have z9 : (0 : Int32).toInt = 0 := (by decide); omega)⟩, ht⟩) (fun _ h => by cases h) dX9_canJoin_24
  · have ic6 := (xi_nlt c6 (by decide) rfl : rh5.toInt ≤ 4)
    refine lv_iconst (v := 1) hx hb dX9_canJoin_19 (by decide) ?_
    refine lv_goto (tgt := 24) hx hb dX9_canJoin_20 (by decide) ?_
    exact W.zret (v := 1) hx hb hr (by decide) (fun t ht hW => ⟨1, rfl, ⟨⟨(by decide), (by decide)⟩, (by unfold q_jn q_sh; rw [← ef0_4, ← ev1, ← ev2, ← ev3, ← ev4]; have z9 : (1 : Int32).toInt = 1 := (by decide); omega)⟩, ht⟩) (fun _ h => by cases h) dX9_canJoin_24
set_option maxHeartbeats 4000000 in
set_option maxRecDepth 100000 in
theorem tX9_addB (l : Launch) (E : tE) (X : tX) (A : Nat → Prop) (z : tZ) (I0 : tI) (L0 : tL) (a0 : Nat) (t_a0 : z.ty a0 = 10) (x : Int32) (x_t : Int) (h_x : x.toInt = x_t) (y : Int32) (y_t : Int) (h_y : y.toInt = y_t) (b_y : 0 ≤ y_t ∧ y_t ≤ 1) (c : Int32) (c_t : Int) (h_c : c.toInt = c_t) (d : Int32) (d_t : Int) (h_d : d.toInt = d_t) (b_d : 0 ≤ d_t ∧ d_t ≤ 7) (k : Int32) (k_t : Int) (h_k : k.toInt = k_t) : Met l yX9_add wsX9_add ({ frames := 1, cells := 0, slots := 0, locals := 64 }) (va_Pc [.ref a0, .int x, .int y, .int c, .int d, .int k] (h_P E X A z I0 L0)) (va_Qi (fun r (I1 : tI) => h_I z I1 ∧ h_F [(10, 3), (10, 4), (1006, 999), (1005, 999), (1007, 999), (1008, 999), (1009, 999)] z I0 I1 ∧ ((12 ≤ (I0 a0 3).toInt ∧ r.toInt = -3 ∧ I1 = I0) ∨ ((I0 a0 3).toInt < 12 ∧ r.toInt = (I0 a0 3).toInt + 1 ∧ (I1 a0 3).toInt = (I0 a0 3).toInt + 1 ∧ I1 a0 4 = I0 a0 4 ||| (q_sh (c) ||| q_sh (d)) ∧ (∀ j : Nat, I1 (h_ad z a0 6) j = if j = (I0 a0 3).toInt.toNat then x else I0 (h_ad z a0 6) j) ∧ (∀ j : Nat, I1 (h_ad z a0 5) j = if j = (I0 a0 3).toInt.toNat then y else I0 (h_ad z a0 5) j) ∧ (∀ j : Nat, I1 (h_ad z a0 7) j = if j = (I0 a0 3).toInt.toNat then c else I0 (h_ad z a0 7) j) ∧ (∀ j : Nat, I1 (h_ad z a0 8) j = if j = (I0 a0 3).toInt.toNat then d else I0 (h_ad z a0 8) j) ∧ (∀ j : Nat, I1 (h_ad z a0 9) j = if j = (I0 a0 3).toInt.toNat then k else I0 (h_ad z a0 9) j)))) (fun (I1 : tI) t => h_B E A z I1 L0 t) A) 0 0 A := by
  refine Met.ofW (cc := cX9_add) (maxL := 6) (ret := (some .int)) (by decide) rfl ?_
  intro pr_ ev_ s m args below meth cd_ s₁ B hml hv
  obtain ⟨rfl, hE, hk, hX, hA, hK, hI, hR, hB0⟩ := hv
  have g : h_G h_so h_fk E A z I0 L0 s s.heap s.heap [] := ⟨hK, va_S.rf, hB0⟩
  have hF : h_F [(10, 3), (10, 4), (1006, 999), (1005, 999), (1007, 999), (1008, 999), (1009, 999)] z I0 I0 := h_F.rf
  have hx := B.exec
  have hb := B.bytes
  have hr := B.returns
  have hts := atoms_spec (ws := wsX9_add) B.pre
  have hown : s.vm.findClass RX9 = some m.cls := findClass_of_methodNamed B.named
  have hlocks := B.notSynchronized
  have iX9 : ∀ w ∈ u_ws RX9 TX9 10, w ∈ wsX9_add := by decide +kernel
  have hl := lv_entry ([.ref a0, .int x, .int y, .int c, .int d, .int k]) (n := 6) (Nat.le_of_ble_eq_true rfl)
  rw [lg_entry_eq]
  generalize (lg_sl ([.ref a0, .int x, .int y, .int c, .int d, .int k]) ++ List.replicate (6 - (lg_sl ([.ref a0, .int x, .int y, .int c, .int d, .int k])).length) Slot.unset).toArray = ls at hl ⊢
  have hl : lv_has ls 6 [(0, .ref a0), (1, .int x), (2, .int y), (3, .int c), (4, .int d), (5, .int k)] := hl
  have b_x : -2147483648 ≤ x_t ∧ x_t ≤ 2147483647 := h_x ▸ ⟨xi_lo x, Int.le_of_lt_add_one (xi_hi x)⟩
  have b_c : -2147483648 ≤ c_t ∧ c_t ≤ 2147483647 := h_c ▸ ⟨xi_lo c, Int.le_of_lt_add_one (xi_hi c)⟩
  have b_k : -2147483648 ≤ k_t ∧ k_t ≤ 2147483647 := h_k ▸ ⟨xi_lo k, Int.le_of_lt_add_one (xi_hi k)⟩
  obtain ⟨it, rit, tit⟩ := hR.at a0 5 t_a0 (rfl : h_rs 10 5 = some (1005, false)) (by decide)
  have ait : h_ad z a0 5 = it := h_ad.at rit
  obtain ⟨th, rth, tth⟩ := hR.at a0 6 t_a0 (rfl : h_rs 10 6 = some (1006, false)) (by decide)
  have ath : h_ad z a0 6 = th := h_ad.at rth
  obtain ⟨fr, rfr, tfr⟩ := hR.at a0 7 t_a0 (rfl : h_rs 10 7 = some (1007, false)) (by decide)
  have afr : h_ad z a0 7 = fr := h_ad.at rfr
  obtain ⟨to, rto, tto⟩ := hR.at a0 8 t_a0 (rfl : h_rs 10 8 = some (1008, false)) (by decide)
  have ato : h_ad z a0 8 = to := h_ad.at rto
  obtain ⟨sh, rsh, tsh⟩ := hR.at a0 9 t_a0 (rfl : h_rs 10 9 = some (1009, false)) (by decide)
  have ash : h_ad z a0 9 = sh := h_ad.at rsh
  obtain ⟨f0_3, ef0_3⟩ : ∃ v : Int32, v = I0 a0 3 := ⟨_, rfl⟩
  have qf0_3 : (I0 a0 3).toInt = f0_3.toInt := congrArg Int32.toInt ef0_3.symm
  have jf0_3 := hI.rd a0 3 t_a0 ef0_3 (rfl : h_bd 10 3 = (0, 12))
  obtain ⟨f0_4, ef0_4⟩ : ∃ v : Int32, v = I0 a0 4 := ⟨_, rfl⟩
  have qf0_4 : (I0 a0 4).toInt = f0_4.toInt := congrArg Int32.toInt ef0_4.symm
  have jf0_4 := hI.rd a0 4 t_a0 ef0_4 (rfl : h_bd 10 4 = ((-2147483648), 2147483647))
  have kn : f0_3.toNatClampNeg = f0_3.toInt.toNat := h_keq rfl (by omega) (by omega)
  refine lv_aload_n hx hb dX9_add_0 rfl (lv_at hl 0 rfl) ?_
  refine h_get (v := .int f0_3) hx hb hts iX9 hown g t_a0 (by decide) so_10 rfl 3 (by decide) (hts (.fieldLink RX9 43 "CapLeague$Trade" "size" "I") (by decide +kernel)) rfl dX9_add_1 (congrArg Value.int (ef0_3.symm)) ?_
  refine lv_bipush (v := 12) hx hb dX9_add_4 (by decide) ?_
  refine lv_icmp_lt (tgt := 12) hx hb dX9_add_6 (by decide) (fun c1 => ?_) (fun c1 => ?_)
  · have ic1 := (xi_lt c1 rfl (by decide) : f0_3.toInt < 12)
    refine lv_aload_n hx hb dX9_add_12 rfl (lv_at hl 0 rfl) ?_
    refine h_get (v := .ref th) hx hb hts iX9 hown g t_a0 (by decide) so_10 rfl 6 (by decide) (hts (.fieldLink RX9 22 "CapLeague$Trade" "thing" "[I") (by decide +kernel)) rfl dX9_add_13 (by show va_rf (z.R a0 6) = _; rw [rth]; rfl) ?_
    refine lv_aload_n hx hb dX9_add_16 rfl (lv_at hl 0 rfl) ?_
    refine h_get (v := .int f0_3) hx hb hts iX9 hown g t_a0 (by decide) so_10 rfl 3 (by decide) (hts (.fieldLink RX9 43 "CapLeague$Trade" "size" "I") (by decide +kernel)) rfl dX9_add_17 (congrArg Value.int (ef0_3.symm)) ?_
    refine lv_iload_n hx hb dX9_add_20 rfl (lv_at hl 1 rfl) ?_
    refine h_ast hx hb g tth (by decide) so_1006 (xi_in (by omega) (by omega)) dX9_add_21 (fun I2 H locs eI2 g => ?_)
    have hI := hI.wr eI2 tth (rfl : h_bd 1006 _ = ((-2147483648), 2147483647)) (xi_lo _) (Int.le_of_lt_add_one (xi_hi _))
    have hF := hF.wr eI2 tth rfl
    refine lv_aload_n hx hb dX9_add_22 rfl (lv_at hl 0 rfl) ?_
    refine h_get (v := .ref it) hx hb hts iX9 hown g t_a0 (by decide) so_10 rfl 5 (by decide) (hts (.fieldLink RX9 18 "CapLeague$Trade" "isTurn" "[Z") (by decide +kernel)) rfl dX9_add_23 (by show va_rf (z.R a0 5) = _; rw [rit]; rfl) ?_
    refine lv_aload_n hx hb dX9_add_26 rfl (lv_at hl 0 rfl) ?_
    refine h_get (v := .int f0_3) hx hb hts iX9 hown g t_a0 (by decide) so_10 rfl 3 (by decide) (hts (.fieldLink RX9 43 "CapLeague$Trade" "size" "I") (by decide +kernel)) rfl dX9_add_27 (congrArg Value.int ((h_n1 eI2 t_a0 tth (by decide)).trans (ef0_3.symm))) ?_
    refine lv_iload_n hx hb dX9_add_30 rfl (lv_at hl 2 rfl) ?_
    refine h_zast hx hb g tit (by decide) so_1005 (xi_in (by omega) (by omega)) dX9_add_31 (fun I3 H locs eI3 g => ?_)
    rw [h_nz (by rw [h_y]; omega) (by rw [h_y]; omega)] at eI3
    have hI := hI.wr eI3 tit (rfl : h_bd 1005 _ = (0, 1)) (by rw [h_y]; omega) (by rw [h_y]; omega)
    have hF := hF.wr eI3 tit rfl
    refine lv_aload_n hx hb dX9_add_32 rfl (lv_at hl 0 rfl) ?_
    refine h_get (v := .ref fr) hx hb hts iX9 hown g t_a0 (by decide) so_10 rfl 7 (by decide) (hts (.fieldLink RX9 26 "CapLeague$Trade" "from" "[I") (by decide +kernel)) rfl dX9_add_33 (by show va_rf (z.R a0 7) = _; rw [rfr]; rfl) ?_
    refine lv_aload_n hx hb dX9_add_36 rfl (lv_at hl 0 rfl) ?_
    refine h_get (v := .int f0_3) hx hb hts iX9 hown g t_a0 (by decide) so_10 rfl 3 (by decide) (hts (.fieldLink RX9 43 "CapLeague$Trade" "size" "I") (by decide +kernel)) rfl dX9_add_37 (congrArg Value.int ((h_n1 eI3 t_a0 tit (by decide)).trans ((h_n1 eI2 t_a0 tth (by decide)).trans (ef0_3.symm)))) ?_
    refine lv_iload_n hx hb dX9_add_40 rfl (lv_at hl 3 rfl) ?_
    refine h_ast hx hb g tfr (by decide) so_1007 (xi_in (by omega) (by omega)) dX9_add_41 (fun I4 H locs eI4 g => ?_)
    have hI := hI.wr eI4 tfr (rfl : h_bd 1007 _ = ((-2147483648), 2147483647)) (xi_lo _) (Int.le_of_lt_add_one (xi_hi _))
    have hF := hF.wr eI4 tfr rfl
    refine lv_aload_n hx hb dX9_add_42 rfl (lv_at hl 0 rfl) ?_
    refine h_get (v := .ref to) hx hb hts iX9 hown g t_a0 (by decide) so_10 rfl 8 (by decide) (hts (.fieldLink RX9 29 "CapLeague$Trade" "to" "[I") (by decide +kernel)) rfl dX9_add_43 (by show va_rf (z.R a0 8) = _; rw [rto]; rfl) ?_
    refine lv_aload_n hx hb dX9_add_46 rfl (lv_at hl 0 rfl) ?_
    refine h_get (v := .int f0_3) hx hb hts iX9 hown g t_a0 (by decide) so_10 rfl 3 (by decide) (hts (.fieldLink RX9 43 "CapLeague$Trade" "size" "I") (by decide +kernel)) rfl dX9_add_47 (congrArg Value.int ((h_n1 eI4 t_a0 tfr (by decide)).trans ((h_n1 eI3 t_a0 tit (by decide)).trans ((h_n1 eI2 t_a0 tth (by decide)).trans (ef0_3.symm))))) ?_
    refine lv_iload hx hb dX9_add_50 (lv_at hl 4 rfl) ?_
    refine h_ast hx hb g tto (by decide) so_1008 (xi_in (by omega) (by omega)) dX9_add_52 (fun I5 H locs eI5 g => ?_)
    have hI := hI.wr eI5 tto (rfl : h_bd 1008 _ = (0, 7)) (by rw [h_d]; omega) (by rw [h_d]; omega)
    have hF := hF.wr eI5 tto rfl
    refine lv_aload_n hx hb dX9_add_53 rfl (lv_at hl 0 rfl) ?_
    refine h_get (v := .ref sh) hx hb hts iX9 hown g t_a0 (by decide) so_10 rfl 9 (by decide) (hts (.fieldLink RX9 32 "CapLeague$Trade" "shield" "[I") (by decide +kernel)) rfl dX9_add_54 (by show va_rf (z.R a0 9) = _; rw [rsh]; rfl) ?_
    refine lv_aload_n hx hb dX9_add_57 rfl (lv_at hl 0 rfl) ?_
    refine h_get (v := .int f0_3) hx hb hts iX9 hown g t_a0 (by decide) so_10 rfl 3 (by decide) (hts (.fieldLink RX9 43 "CapLeague$Trade" "size" "I") (by decide +kernel)) rfl dX9_add_58 (congrArg Value.int ((h_n1 eI5 t_a0 tto (by decide)).trans ((h_n1 eI4 t_a0 tfr (by decide)).trans ((h_n1 eI3 t_a0 tit (by decide)).trans ((h_n1 eI2 t_a0 tth (by decide)).trans (ef0_3.symm)))))) ?_
    refine lv_iload hx hb dX9_add_61 (lv_at hl 5 rfl) ?_
    refine h_ast hx hb g tsh (by decide) so_1009 (xi_in (by omega) (by omega)) dX9_add_63 (fun I6 H locs eI6 g => ?_)
    have hI := hI.wr eI6 tsh (rfl : h_bd 1009 _ = ((-2147483648), 2147483647)) (xi_lo _) (Int.le_of_lt_add_one (xi_hi _))
    have hF := hF.wr eI6 tsh rfl
    refine lv_aload_n hx hb dX9_add_64 rfl (lv_at hl 0 rfl) ?_
    refine lv_dup hx hb dX9_add_65 rfl ?_
    refine h_get (v := .int f0_4) hx hb hts iX9 hown g t_a0 (by decide) so_10 rfl 4 (by decide) (hts (.fieldLink RX9 47 "CapLeague$Trade" "clubBits" "I") (by decide +kernel)) rfl dX9_add_66 (congrArg Value.int ((h_n1 eI6 t_a0 tsh (by decide)).trans ((h_n1 eI5 t_a0 tto (by decide)).trans ((h_n1 eI4 t_a0 tfr (by decide)).trans ((h_n1 eI3 t_a0 tit (by decide)).trans ((h_n1 eI2 t_a0 tth (by decide)).trans (ef0_4.symm))))))) ?_
    refine lv_iconst (v := 1) hx hb dX9_add_69 (by decide) ?_
    refine lv_iload_n hx hb dX9_add_70 rfl (lv_at hl 3 rfl) ?_
    refine lv_ishl hx hb dX9_add_71 ?_
    refine lv_topi (fun v7 ev7 => ?_)
    have jv7 : -2147483648 ≤ v7.toInt ∧ v7.toInt ≤ 2147483647 := ⟨xi_lo _, Int.le_of_lt_add_one (xi_hi _)⟩
    refine lv_iconst (v := 1) hx hb dX9_add_72 (by decide) ?_
    refine lv_iload hx hb dX9_add_73 (lv_at hl 4 rfl) ?_
    refine lv_ishl hx hb dX9_add_75 ?_
    refine lv_topi (fun v8 ev8 => ?_)
    have jv8 : -2147483648 ≤ v8.toInt ∧ v8.toInt ≤ 2147483647 := ⟨xi_lo _, Int.le_of_lt_add_one (xi_hi _)⟩
    refine lv_ior hx hb dX9_add_76 ?_
    refine lv_topi (fun v9 ev9 => ?_)
    have jv9 : -2147483648 ≤ v9.toInt ∧ v9.toInt ≤ 2147483647 := ⟨xi_lo _, Int.le_of_lt_add_one (xi_hi _)⟩
    refine lv_ior hx hb dX9_add_77 ?_
    refine lv_topi (fun v10 ev10 => ?_)
    have jv10 : -2147483648 ≤ v10.toInt ∧ v10.toInt ≤ 2147483647 := ⟨xi_lo _, Int.le_of_lt_add_one (xi_hi _)⟩
    refine h_putI (ty := .int) (v := v10) hx hb hts iX9 tyX9 tyX9_ok nmX9 hown g t_a0 (by decide) so_10 rfl 4 (by decide) rfl (hts (.fieldLink RX9 47 "CapLeague$Trade" "clubBits" "I") (by decide +kernel)) rfl rfl (by decide +kernel) rfl rfl dX9_add_78 (fun I11 H locs eI11 g => ?_)
    have hI := hI.wr eI11 t_a0 (rfl : h_bd 10 4 = ((-2147483648), 2147483647)) (xi_lo _) (Int.le_of_lt_add_one (xi_hi _))
    have hF := hF.wr eI11 t_a0 rfl
    refine lv_aload_n hx hb dX9_add_81 rfl (lv_at hl 0 rfl) ?_
    refine lv_dup hx hb dX9_add_82 rfl ?_
    refine h_get (v := .int f0_3) hx hb hts iX9 hown g t_a0 (by decide) so_10 rfl 3 (by decide) (hts (.fieldLink RX9 43 "CapLeague$Trade" "size" "I") (by decide +kernel)) rfl dX9_add_83 (congrArg Value.int ((h_n2 eI11 (by decide)).trans ((h_n1 eI6 t_a0 tsh (by decide)).trans ((h_n1 eI5 t_a0 tto (by decide)).trans ((h_n1 eI4 t_a0 tfr (by decide)).trans ((h_n1 eI3 t_a0 tit (by decide)).trans ((h_n1 eI2 t_a0 tth (by decide)).trans (ef0_3.symm)))))))) ?_
    refine lv_iconst (v := 1) hx hb dX9_add_86 (by decide) ?_
    refine lv_iadd hx hb dX9_add_87 ?_
    refine lv_topi (fun v12 ev12 => ?_)
    have jv12 : v12.toInt = f0_3.toInt + 1 := xi_add ev12 rfl (by decide) (by omega) (by omega)
    refine h_putI (ty := .int) (v := v12) hx hb hts iX9 tyX9 tyX9_ok nmX9 hown g t_a0 (by decide) so_10 rfl 3 (by decide) rfl (hts (.fieldLink RX9 43 "CapLeague$Trade" "size" "I") (by decide +kernel)) rfl rfl (by decide +kernel) rfl rfl dX9_add_88 (fun I13 H locs eI13 g => ?_)
    have hI := hI.wr eI13 t_a0 (rfl : h_bd 10 3 = (0, 12)) (by omega) (by omega)
    have hF := hF.wr eI13 t_a0 rfl
    refine lv_aload_n hx hb dX9_add_91 rfl (lv_at hl 0 rfl) ?_
    refine h_get (v := .int v12) hx hb hts iX9 hown g t_a0 (by decide) so_10 rfl 3 (by decide) (hts (.fieldLink RX9 43 "CapLeague$Trade" "size" "I") (by decide +kernel)) rfl dX9_add_92 (congrArg Value.int (h_n0 eI13)) ?_
    have hS := g.2.1
    exact W.iret (v := v12) hx hb hr (fun t ht hW => ⟨⟨v12, I13, rfl, ⟨hI, hF, (by rw [ait, ath, afr, ato, ash, ← ef0_3, ← ef0_4]; exact Or.inr ⟨by omega, by omega, by rw [show I13 a0 3 = v12 from h_n0 eI13]; omega, ((h_n2 eI13 (by decide)).trans (h_n0 eI11)).trans (by rw [ev10, ev9, ev7, ev8]; rfl), fun j => (h_n1 eI13 tth t_a0 (by decide)).trans ((h_n1 eI11 tth t_a0 (by decide)).trans ((h_n1 eI6 tth tsh (by decide)).trans ((h_n1 eI5 tth tto (by decide)).trans ((h_n1 eI4 tth tfr (by decide)).trans ((h_n1 eI3 tth tit (by decide)).trans (h_wif eI2 kn j)))))), fun j => (h_n1 eI13 tit t_a0 (by decide)).trans ((h_n1 eI11 tit t_a0 (by decide)).trans ((h_n1 eI6 tit tsh (by decide)).trans ((h_n1 eI5 tit tto (by decide)).trans ((h_n1 eI4 tit tfr (by decide)).trans ((h_wif eI3 kn j).trans (by rw [h_n1 eI2 tit tth (by decide)])))))), fun j => (h_n1 eI13 tfr t_a0 (by decide)).trans ((h_n1 eI11 tfr t_a0 (by decide)).trans ((h_n1 eI6 tfr tsh (by decide)).trans ((h_n1 eI5 tfr tto (by decide)).trans ((h_wif eI4 kn j).trans (by rw [(h_n1 eI3 tfr tit (by decide)).trans (h_n1 eI2 tfr tth (by decide))]))))), fun j => (h_n1 eI13 tto t_a0 (by decide)).trans ((h_n1 eI11 tto t_a0 (by decide)).trans ((h_n1 eI6 tto tsh (by decide)).trans ((h_wif eI5 kn j).trans (by rw [(h_n1 eI4 tto tfr (by decide)).trans ((h_n1 eI3 tto tit (by decide)).trans (h_n1 eI2 tto tth (by decide)))])))), fun j => (h_n1 eI13 tsh t_a0 (by decide)).trans ((h_n1 eI11 tsh t_a0 (by decide)).trans ((h_wif eI6 kn j).trans (by rw [(h_n1 eI5 tsh tto (by decide)).trans ((h_n1 eI4 tsh tfr (by decide)).trans ((h_n1 eI3 tsh tit (by decide)).trans (h_n1 eI2 tsh tth (by decide))))])))⟩)⟩, h_ret g ht⟩, hS.F ht⟩) hS.2.2 dX9_add_95
  · have ic1 := (xi_nlt c1 rfl (by decide) : 12 ≤ f0_3.toInt)
    refine lv_bipush (v := (-3)) hx hb dX9_add_9 (by decide) ?_
    have hS := g.2.1
    exact W.iret (v := (-3)) hx hb hr (fun t ht hW => ⟨⟨(-3), I0, rfl, ⟨hI, hF, (by rw [ait, ath, afr, ato, ash, ← ef0_3, ← ef0_4]; exact Or.inl ⟨by omega, by decide, rfl⟩)⟩, h_ret g ht⟩, hS.F ht⟩) hS.2.2 dX9_add_11
set_option maxHeartbeats 4000000 in
set_option maxRecDepth 100000 in
theorem tX9_addPlayerB (l : Launch) (E : tE) (X : tX) (A : Nat → Prop) (z : tZ) (I0 : tI) (L0 : tL) (a0 : Nat) (t_a0 : z.ty a0 = 10) (x : Int32) (x_t : Int) (h_x : x.toInt = x_t) (c : Int32) (c_t : Int) (h_c : c.toInt = c_t) (d : Int32) (d_t : Int) (h_d : d.toInt = d_t) (b_d : 0 ≤ d_t ∧ d_t ≤ 7) : Met l yX9_addPlayerMove wsX9_addPlayerMove ({ frames := 2, cells := 0, slots := 0, locals := 128 }) (va_Pc [.ref a0, .int x, .int c, .int d] (h_P E X A z I0 L0)) (va_Qi (fun r (I1 : tI) => h_I z I1 ∧ h_F [(10, 3), (10, 4), (1006, 999), (1005, 999), (1007, 999), (1008, 999), (1009, 999)] z I0 I1 ∧ ((12 ≤ (I0 a0 3).toInt ∧ r.toInt = -3 ∧ I1 = I0) ∨ ((I0 a0 3).toInt < 12 ∧ r.toInt = (I0 a0 3).toInt + 1 ∧ (I1 a0 3).toInt = (I0 a0 3).toInt + 1 ∧ I1 a0 4 = I0 a0 4 ||| (q_sh (c) ||| q_sh (d)) ∧ (∀ j : Nat, I1 (h_ad z a0 6) j = if j = (I0 a0 3).toInt.toNat then x else I0 (h_ad z a0 6) j) ∧ (∀ j : Nat, I1 (h_ad z a0 5) j = if j = (I0 a0 3).toInt.toNat then 0 else I0 (h_ad z a0 5) j) ∧ (∀ j : Nat, I1 (h_ad z a0 7) j = if j = (I0 a0 3).toInt.toNat then c else I0 (h_ad z a0 7) j) ∧ (∀ j : Nat, I1 (h_ad z a0 8) j = if j = (I0 a0 3).toInt.toNat then d else I0 (h_ad z a0 8) j) ∧ (∀ j : Nat, I1 (h_ad z a0 9) j = if j = (I0 a0 3).toInt.toNat then 0 else I0 (h_ad z a0 9) j)))) (fun (I1 : tI) t => h_B E A z I1 L0 t) A) 0 0 A := by
  refine Met.ofW (cc := cX9_addPlayerMove) (maxL := 4) (ret := (some .int)) (by decide) rfl ?_
  intro pr_ ev_ s m args below meth cd_ s₁ B hml hv
  obtain ⟨rfl, hE, hk, hX, hA, hK, hI, hR, hB0⟩ := hv
  have g : h_G h_so h_fk E A z I0 L0 s s.heap s.heap [] := ⟨hK, va_S.rf, hB0⟩
  have hF : h_F [(10, 3), (10, 4), (1006, 999), (1005, 999), (1007, 999), (1008, 999), (1009, 999)] z I0 I0 := h_F.rf
  have hx := B.exec
  have hb := B.bytes
  have hr := B.returns
  have hts := atoms_spec (ws := wsX9_addPlayerMove) B.pre
  have hown : s.vm.findClass RX9 = some m.cls := findClass_of_methodNamed B.named
  have hlocks := B.notSynchronized
  have hl := lv_entry ([.ref a0, .int x, .int c, .int d]) (n := 4) (Nat.le_of_ble_eq_true rfl)
  rw [lg_entry_eq]
  generalize (lg_sl ([.ref a0, .int x, .int c, .int d]) ++ List.replicate (4 - (lg_sl ([.ref a0, .int x, .int c, .int d])).length) Slot.unset).toArray = ls at hl ⊢
  have hl : lv_has ls 4 [(0, .ref a0), (1, .int x), (2, .int c), (3, .int d)] := hl
  have b_x : -2147483648 ≤ x_t ∧ x_t ≤ 2147483647 := h_x ▸ ⟨xi_lo x, Int.le_of_lt_add_one (xi_hi x)⟩
  have b_c : -2147483648 ≤ c_t ∧ c_t ≤ 2147483647 := h_c ▸ ⟨xi_lo c, Int.le_of_lt_add_one (xi_hi c)⟩
  refine lv_aload_n hx hb dX9_addPlayerMove_0 rfl (lv_at hl 0 rfl) ?_
  refine lv_iload_n hx hb dX9_addPlayerMove_1 rfl (lv_at hl 1 rfl) ?_
  refine lv_iconst (v := 0) hx hb dX9_addPlayerMove_2 (by decide) ?_
  refine lv_iload_n hx hb dX9_addPlayerMove_3 rfl (lv_at hl 2 rfl) ?_
  refine lv_iload_n hx hb dX9_addPlayerMove_4 rfl (lv_at hl 3 rfl) ?_
  refine lv_iconst (v := 0) hx hb dX9_addPlayerMove_5 (by decide) ?_
  refine va_calli (va_runV (As := [.int x, .int 0, .int c, .int d, .int 0]) (rest := []) ⟨hx, hb, hml, hown, hts⟩ (tX9_addB l E X A z I0 L0 a0 t_a0 x (x_t) h_x 0 (0) (by decide) (by omega) c (c_t) h_c d (d_t) h_d (by omega) 0 (0) (by decide)) (cwV 5 hts gX9_addPlayerMove_X9_add rfl rfl rfl (by decide +kernel) ⟨Nat.le_of_ble_eq_true rfl, Nat.le_of_ble_eq_true rfl⟩) ⟨h_blind _ _ _ _ _ _ _, h_recv g t_a0 (by decide) so_10 (q := (RX9, TX9, 10)) rfl, h_pre _ hE hk hX hA hI hR g⟩ rfl rfl hl.1 rfl (lv_room (Nat.le_of_ble_eq_true rfl)) dX9_addPlayerMove_6 ⟨Nat.le_of_ble_eq_true rfl, Nat.le_of_ble_eq_true rfl⟩) g.2.1 (fun q _ h => h) (fun q h => h) (fun rh1 I2 t H1 locs ht hvm h1 hB hz1 hk1 hS => ?_)
  obtain ⟨hI, fh1, h1⟩ := h1
  replace g := h_after g hB ht hS
  generalize H1 = H at g
  clear hB hk1 hz1 ht hvm hS
  have hF := hF.call fh1 rfl
  have h1p0 := h1
  have jrh1 : -2147483648 ≤ rh1.toInt ∧ rh1.toInt ≤ 2147483647 := ⟨xi_lo _, Int.le_of_lt_add_one (xi_hi _)⟩
  have hS := g.2.1
  exact W.iret (v := rh1) hx hb hr (fun t ht hW => ⟨⟨rh1, I2, rfl, ⟨hI, hF, (h1p0)⟩, h_ret g ht⟩, hS.F ht⟩) hS.2.2 dX9_addPlayerMove_9
set_option maxHeartbeats 4000000 in
set_option maxRecDepth 100000 in
theorem tX9_addTurnB (l : Launch) (E : tE) (X : tX) (A : Nat → Prop) (z : tZ) (I0 : tI) (L0 : tL) (a0 : Nat) (t_a0 : z.ty a0 = 10) (x : Int32) (x_t : Int) (h_x : x.toInt = x_t) (c : Int32) (c_t : Int) (h_c : c.toInt = c_t) (d : Int32) (d_t : Int) (h_d : d.toInt = d_t) (b_d : 0 ≤ d_t ∧ d_t ≤ 7) (k : Int32) (k_t : Int) (h_k : k.toInt = k_t) : Met l yX9_addTurnMove wsX9_addTurnMove ({ frames := 2, cells := 0, slots := 0, locals := 128 }) (va_Pc [.ref a0, .int x, .int c, .int d, .int k] (h_P E X A z I0 L0)) (va_Qi (fun r (I1 : tI) => h_I z I1 ∧ h_F [(10, 3), (10, 4), (1006, 999), (1005, 999), (1007, 999), (1008, 999), (1009, 999)] z I0 I1 ∧ ((12 ≤ (I0 a0 3).toInt ∧ r.toInt = -3 ∧ I1 = I0) ∨ ((I0 a0 3).toInt < 12 ∧ r.toInt = (I0 a0 3).toInt + 1 ∧ (I1 a0 3).toInt = (I0 a0 3).toInt + 1 ∧ I1 a0 4 = I0 a0 4 ||| (q_sh (c) ||| q_sh (d)) ∧ (∀ j : Nat, I1 (h_ad z a0 6) j = if j = (I0 a0 3).toInt.toNat then x else I0 (h_ad z a0 6) j) ∧ (∀ j : Nat, I1 (h_ad z a0 5) j = if j = (I0 a0 3).toInt.toNat then 1 else I0 (h_ad z a0 5) j) ∧ (∀ j : Nat, I1 (h_ad z a0 7) j = if j = (I0 a0 3).toInt.toNat then c else I0 (h_ad z a0 7) j) ∧ (∀ j : Nat, I1 (h_ad z a0 8) j = if j = (I0 a0 3).toInt.toNat then d else I0 (h_ad z a0 8) j) ∧ (∀ j : Nat, I1 (h_ad z a0 9) j = if j = (I0 a0 3).toInt.toNat then k else I0 (h_ad z a0 9) j)))) (fun (I1 : tI) t => h_B E A z I1 L0 t) A) 0 0 A := by
  refine Met.ofW (cc := cX9_addTurnMove) (maxL := 5) (ret := (some .int)) (by decide) rfl ?_
  intro pr_ ev_ s m args below meth cd_ s₁ B hml hv
  obtain ⟨rfl, hE, hk, hX, hA, hK, hI, hR, hB0⟩ := hv
  have g : h_G h_so h_fk E A z I0 L0 s s.heap s.heap [] := ⟨hK, va_S.rf, hB0⟩
  have hF : h_F [(10, 3), (10, 4), (1006, 999), (1005, 999), (1007, 999), (1008, 999), (1009, 999)] z I0 I0 := h_F.rf
  have hx := B.exec
  have hb := B.bytes
  have hr := B.returns
  have hts := atoms_spec (ws := wsX9_addTurnMove) B.pre
  have hown : s.vm.findClass RX9 = some m.cls := findClass_of_methodNamed B.named
  have hlocks := B.notSynchronized
  have hl := lv_entry ([.ref a0, .int x, .int c, .int d, .int k]) (n := 5) (Nat.le_of_ble_eq_true rfl)
  rw [lg_entry_eq]
  generalize (lg_sl ([.ref a0, .int x, .int c, .int d, .int k]) ++ List.replicate (5 - (lg_sl ([.ref a0, .int x, .int c, .int d, .int k])).length) Slot.unset).toArray = ls at hl ⊢
  have hl : lv_has ls 5 [(0, .ref a0), (1, .int x), (2, .int c), (3, .int d), (4, .int k)] := hl
  have b_x : -2147483648 ≤ x_t ∧ x_t ≤ 2147483647 := h_x ▸ ⟨xi_lo x, Int.le_of_lt_add_one (xi_hi x)⟩
  have b_c : -2147483648 ≤ c_t ∧ c_t ≤ 2147483647 := h_c ▸ ⟨xi_lo c, Int.le_of_lt_add_one (xi_hi c)⟩
  have b_k : -2147483648 ≤ k_t ∧ k_t ≤ 2147483647 := h_k ▸ ⟨xi_lo k, Int.le_of_lt_add_one (xi_hi k)⟩
  refine lv_aload_n hx hb dX9_addTurnMove_0 rfl (lv_at hl 0 rfl) ?_
  refine lv_iload_n hx hb dX9_addTurnMove_1 rfl (lv_at hl 1 rfl) ?_
  refine lv_iconst (v := 1) hx hb dX9_addTurnMove_2 (by decide) ?_
  refine lv_iload_n hx hb dX9_addTurnMove_3 rfl (lv_at hl 2 rfl) ?_
  refine lv_iload_n hx hb dX9_addTurnMove_4 rfl (lv_at hl 3 rfl) ?_
  refine lv_iload hx hb dX9_addTurnMove_5 (lv_at hl 4 rfl) ?_
  refine va_calli (va_runV (As := [.int x, .int 1, .int c, .int d, .int k]) (rest := []) ⟨hx, hb, hml, hown, hts⟩ (tX9_addB l E X A z I0 L0 a0 t_a0 x (x_t) h_x 1 (1) (by decide) (by omega) c (c_t) h_c d (d_t) h_d (by omega) k (k_t) h_k) (cwV 5 hts gX9_addTurnMove_X9_add rfl rfl rfl (by decide +kernel) ⟨Nat.le_of_ble_eq_true rfl, Nat.le_of_ble_eq_true rfl⟩) ⟨h_blind _ _ _ _ _ _ _, h_recv g t_a0 (by decide) so_10 (q := (RX9, TX9, 10)) rfl, h_pre _ hE hk hX hA hI hR g⟩ rfl rfl hl.1 rfl (lv_room (Nat.le_of_ble_eq_true rfl)) dX9_addTurnMove_7 ⟨Nat.le_of_ble_eq_true rfl, Nat.le_of_ble_eq_true rfl⟩) g.2.1 (fun q _ h => h) (fun q h => h) (fun rh1 I2 t H1 locs ht hvm h1 hB hz1 hk1 hS => ?_)
  obtain ⟨hI, fh1, h1⟩ := h1
  replace g := h_after g hB ht hS
  generalize H1 = H at g
  clear hB hk1 hz1 ht hvm hS
  have hF := hF.call fh1 rfl
  have h1p0 := h1
  have jrh1 : -2147483648 ≤ rh1.toInt ∧ rh1.toInt ≤ 2147483647 := ⟨xi_lo _, Int.le_of_lt_add_one (xi_hi _)⟩
  have hS := g.2.1
  exact W.iret (v := rh1) hx hb hr (fun t ht hW => ⟨⟨rh1, I2, rfl, ⟨hI, hF, (h1p0)⟩, h_ret g ht⟩, hS.F ht⟩) hS.2.2 dX9_addTurnMove_10
set_option maxHeartbeats 4000000 in
set_option maxRecDepth 100000 in
theorem tX11_giveB (l : Launch) (E : tE) (X : tX) (A : Nat → Prop) (z : tZ) (I0 : tI) (L0 : tL) (a0 : Nat) (t_a0 : z.ty a0 = 12) (p : Int32) (p_t : Int) (h_p : p.toInt = p_t) (c : Int32) (c_t : Int) (h_c : c.toInt = c_t) (hnn : ∀ p : Nat, (p : Int) < (I0 (h_ad z a0 3) 2).toInt → z.R (h_ad z (h_ad z a0 3) 1) p ≠ none) (hcb : 0 ≤ (I0 (h_ad z a0 5) 4).toInt ∧ (I0 (h_ad z a0 5) 4).toInt ≤ 255) : Met l yX11_give wsX11_give ({ frames := 3, cells := 0, slots := 0, locals := 192 }) (va_Pc [.ref a0, .int p, .int c] (h_P E X A z I0 L0)) (va_Qi (fun r (I1 : tI) => h_I z I1 ∧ h_F [(10, 3), (10, 4), (1006, 999), (1005, 999), (1007, 999), (1008, 999), (1009, 999)] z I0 I1 ∧ ((¬ ((0 ≤ p_t ∧ p_t < (I0 (h_ad z a0 3) 2).toInt) ∧ 0 ≤ c_t ∧ c_t ≤ 7) ∧ r.toInt = -2 ∧ I1 = I0) ∨ (((0 ≤ p_t ∧ p_t < (I0 (h_ad z a0 3) 2).toInt) ∧ 0 ≤ c_t ∧ c_t ≤ 7) ∧ ((I0 (h_ad z (h_ad z (h_ad z a0 3) 1) p_t.toNat) 0).toInt = -1 ∨ (I0 (h_ad z (h_ad z (h_ad z a0 3) 1) p_t.toNat) 0).toInt = c_t ∨ (c_has I0 (h_ad z (h_ad z a0 5) 6) (h_ad z (h_ad z a0 5) 5) (I0 (h_ad z a0 5) 3).toInt (p_t) (0)) ∨ ¬ q_jn (I0 (h_ad z a0 5) 4) (I0 (h_ad z (h_ad z (h_ad z a0 3) 1) p_t.toNat) 0) c) ∧ r.toInt = -4 ∧ I1 = I0) ∨ (((0 ≤ p_t ∧ p_t < (I0 (h_ad z a0 3) 2).toInt) ∧ 0 ≤ c_t ∧ c_t ≤ 7) ∧ ¬ ((I0 (h_ad z (h_ad z (h_ad z a0 3) 1) p_t.toNat) 0).toInt = -1 ∨ (I0 (h_ad z (h_ad z (h_ad z a0 3) 1) p_t.toNat) 0).toInt = c_t ∨ (c_has I0 (h_ad z (h_ad z a0 5) 6) (h_ad z (h_ad z a0 5) 5) (I0 (h_ad z a0 5) 3).toInt (p_t) (0)) ∨ ¬ q_jn (I0 (h_ad z a0 5) 4) (I0 (h_ad z (h_ad z (h_ad z a0 3) 1) p_t.toNat) 0) c) ∧ ((12 ≤ (I0 (h_ad z a0 5) 3).toInt ∧ r.toInt = -3 ∧ I1 = I0) ∨ ((I0 (h_ad z a0 5) 3).toInt < 12 ∧ r.toInt = (I0 (h_ad z a0 5) 3).toInt + 1 ∧ (I1 (h_ad z a0 5) 3).toInt = (I0 (h_ad z a0 5) 3).toInt + 1 ∧ I1 (h_ad z a0 5) 4 = I0 (h_ad z a0 5) 4 ||| (q_sh (I0 (h_ad z (h_ad z (h_ad z a0 3) 1) p_t.toNat) 0) ||| q_sh (c)) ∧ (∀ j : Nat, I1 (h_ad z (h_ad z a0 5) 6) j = if j = (I0 (h_ad z a0 5) 3).toInt.toNat then p else I0 (h_ad z (h_ad z a0 5) 6) j) ∧ (∀ j : Nat, I1 (h_ad z (h_ad z a0 5) 5) j = if j = (I0 (h_ad z a0 5) 3).toInt.toNat then 0 else I0 (h_ad z (h_ad z a0 5) 5) j) ∧ (∀ j : Nat, I1 (h_ad z (h_ad z a0 5) 7) j = if j = (I0 (h_ad z a0 5) 3).toInt.toNat then I0 (h_ad z (h_ad z (h_ad z a0 3) 1) p_t.toNat) 0 else I0 (h_ad z (h_ad z a0 5) 7) j) ∧ (∀ j : Nat, I1 (h_ad z (h_ad z a0 5) 8) j = if j = (I0 (h_ad z a0 5) 3).toInt.toNat then c else I0 (h_ad z (h_ad z a0 5) 8) j) ∧ (∀ j : Nat, I1 (h_ad z (h_ad z a0 5) 9) j = if j = (I0 (h_ad z a0 5) 3).toInt.toNat then 0 else I0 (h_ad z (h_ad z a0 5) 9) j)))))) (fun (I1 : tI) t => h_B E A z I1 L0 t) A) 0 0 A := by
  refine Met.ofW (cc := cX11_give) (maxL := 4) (ret := (some .int)) (by decide) rfl ?_
  intro pr_ ev_ s m args below meth cd_ s₁ B hml hv
  obtain ⟨rfl, hE, hk, hX, hA, hK, hI, hR, hB0⟩ := hv
  have g : h_G h_so h_fk E A z I0 L0 s s.heap s.heap [] := ⟨hK, va_S.rf, hB0⟩
  have hF : h_F [(10, 3), (10, 4), (1006, 999), (1005, 999), (1007, 999), (1008, 999), (1009, 999)] z I0 I0 := h_F.rf
  have hx := B.exec
  have hb := B.bytes
  have hr := B.returns
  have hts := atoms_spec (ws := wsX11_give) B.pre
  have hown : s.vm.findClass RX11 = some m.cls := findClass_of_methodNamed B.named
  have hlocks := B.notSynchronized
  have iX11 : ∀ w ∈ u_ws RX11 TX11 8, w ∈ wsX11_give := by decide +kernel
  have iX6 : ∀ w ∈ u_ws RX6 TX6 9, w ∈ wsX11_give := by decide +kernel
  have hl := lv_entry ([.ref a0, .int p, .int c]) (n := 4) (Nat.le_of_ble_eq_true rfl)
  rw [lg_entry_eq]
  generalize (lg_sl ([.ref a0, .int p, .int c]) ++ List.replicate (4 - (lg_sl ([.ref a0, .int p, .int c])).length) Slot.unset).toArray = ls at hl ⊢
  have hl : lv_has ls 4 [(0, .ref a0), (1, .int p), (2, .int c)] := hl
  have b_p : -2147483648 ≤ p_t ∧ p_t ≤ 2147483647 := h_p ▸ ⟨xi_lo p, Int.le_of_lt_add_one (xi_hi p)⟩
  have b_c : -2147483648 ≤ c_t ∧ c_t ≤ 2147483647 := h_c ▸ ⟨xi_lo c, Int.le_of_lt_add_one (xi_hi c)⟩
  obtain ⟨bk, rbk, tbk⟩ := hR.at a0 3 t_a0 (rfl : h_rs 12 3 = some (1, false)) (by decide)
  have abk : h_ad z a0 3 = bk := h_ad.at rbk
  obtain ⟨pl, rpl, tpl⟩ := hR.at bk 1 tbk (rfl : h_rs 1 1 = some (101, false)) (by decide)
  have apl : h_ad z bk 1 = pl := h_ad.at rpl
  obtain ⟨f0_2, ef0_2⟩ : ∃ v : Int32, v = I0 bk 2 := ⟨_, rfl⟩
  have qf0_2 : (I0 bk 2).toInt = f0_2.toInt := congrArg Int32.toInt ef0_2.symm
  have jf0_2 := hI.rd bk 2 tbk ef0_2 (rfl : h_bd 1 2 = (0, 60))
  obtain ⟨f0_3, ef0_3⟩ : ∃ v : Int32, v = I0 bk 3 := ⟨_, rfl⟩
  have qf0_3 : (I0 bk 3).toInt = f0_3.toInt := congrArg Int32.toInt ef0_3.symm
  have jf0_3 := hI.rd bk 3 tbk ef0_3 (rfl : h_bd 1 3 = (0, 9))
  rw [abk] at hnn
  rw [apl, qf0_2] at hnn
  obtain ⟨bg, rbg, tbg⟩ := hR.at a0 5 t_a0 (rfl : h_rs 12 5 = some (10, false)) (by decide)
  have abg : h_ad z a0 5 = bg := h_ad.at rbg
  rw [abg] at hcb
  refine lv_aload_n hx hb dX11_give_0 rfl (lv_at hl 0 rfl) ?_
  refine h_get (v := .ref bk) hx hb hts iX11 hown g t_a0 (by decide) so_12 rfl 3 (by decide) (hts (.fieldLink RX11 37 "CapLeague" "books" "LCapLeague$Books;") (by decide +kernel)) rfl dX11_give_1 (by show va_rf (z.R a0 3) = _; rw [rbk]; rfl) ?_
  refine lv_iload_n hx hb dX11_give_4 rfl (lv_at hl 1 rfl) ?_
  refine va_csq (W.runV (As := [.int p]) (rest := []) ⟨hx, hb, hml, hown, hts⟩ (tX0_playerAtF l E X A z I0 L0 bk tbk p (p_t) h_p) (cwV 1 hts gX11_give_X0_playerAt rfl rfl rfl (by decide +kernel) ⟨Nat.le_of_ble_eq_true rfl, Nat.le_of_ble_eq_true rfl⟩) ⟨h_blind _ _ _ _ _ _ _, h_recv g tbk (by decide) so_1 (q := (RX0, TX0, 9)) rfl, h_pre _ hE hk hX hA hI hR g⟩ rfl rfl hl.1 rfl (lv_room (Nat.le_of_ble_eq_true rfl)) dX11_give_5 ⟨Nat.le_of_ble_eq_true rfl, Nat.le_of_ble_eq_true rfl⟩) (fun rh1 h1 => ?_)
  obtain ⟨h1, h1p0⟩ := h1
  rcases h1 with rfl | ⟨rh1, rfl, trh1⟩
  · refine xw_v (v := .null) rfl ?_
    rw [apl, qf0_2] at h1p0
    have hno : ¬ (0 ≤ p_t ∧ p_t < f0_2.toInt) := by rcases h1p0 with ⟨a1, a2, a3⟩ | ⟨a1, _⟩; exact absurd a3.symm (hnn _ (by omega)); exact a1
    refine lv_astore_nN (lv' := [(3, .null), (0, .ref a0), (1, .int p), (2, .int c)]) hx hb dX11_give_8 rfl hl (by decide) rfl (fun ls hl => ?_)
    refine lv_aload_nN hx hb dX11_give_9 rfl (lv_at hl 0 rfl) ?_
    refine lv_ifnullN (tgt := 20) hx hb dX11_give_10 (by decide) ?_
    refine lv_bipush (v := (-2)) hx hb dX11_give_20 (by decide) ?_
    have hS := g.2.1
    exact W.iret (v := (-2)) hx hb hr (fun t ht hW => ⟨⟨(-2), I0, rfl, ⟨hI, hF, (by rw [abk, apl, abg, qf0_2]; exact Or.inl ⟨fun q => absurd q.1 hno, by decide, rfl⟩)⟩, h_ret g ht⟩, hS.F ht⟩) hS.2.2 dX11_give_22
  · refine xw_v (v := .ref rh1) rfl ?_
    rw [apl, qf0_2] at h1p0
    have rp : z.R pl p_t.toNat = some rh1 := by rcases h1p0 with ⟨a1, a2, a3⟩ | ⟨_, a2⟩; exact a3.symm; cases a2
    have hpr : 0 ≤ p_t ∧ p_t < f0_2.toInt := by rcases h1p0 with ⟨a1, a2, a3⟩ | ⟨_, a2⟩; exact ⟨a1, a2⟩; cases a2
    have ap := h_ad.at rp
    obtain ⟨g_0, eg_0⟩ : ∃ v : Int32, v = I0 rh1 0 := ⟨_, rfl⟩
    have qg_0 : (I0 rh1 0).toInt = g_0.toInt := congrArg Int32.toInt eg_0.symm
    have jg_0 := hI.rd rh1 0 trh1 eg_0 (rfl : h_bd 7 0 = ((-1), 7))
    refine lv_astore_n (lv' := [(3, .ref rh1), (0, .ref a0), (1, .int p), (2, .int c)]) hx hb dX11_give_8 rfl hl (by decide) rfl (fun ls hl => ?_)
    refine lv_aload_n hx hb dX11_give_9 rfl (lv_at hl 0 rfl) ?_
    refine lv_ifnull hx hb dX11_give_10 ?_
    refine lv_iload_n hx hb dX11_give_13 rfl (lv_at hl 3 rfl) ?_
    refine vp_callSi (W.runS (As := [.int c]) (rest := []) ⟨hx, hb, hml, hown, hts⟩ (tX11_isClub l E X A z I0 L0 c (c_t) h_c) (va_cwS 1 hts gX11_give_X11_isClub rfl rfl rfl (by decide +kernel) ⟨Nat.le_of_ble_eq_true rfl, Nat.le_of_ble_eq_true rfl⟩) ⟨h_blind _ _ _ _ _ _ _, h_pre _ hE hk hX hA hI hR g⟩ rfl rfl hl.1 rfl (lv_room (Nat.le_of_ble_eq_true rfl)) dX11_give_14 ⟨Nat.le_of_ble_eq_true rfl, Nat.le_of_ble_eq_true rfl⟩) (fun rh2 h2 => ?_)
    rcases h2 with ⟨rfl, h2⟩ | ⟨rfl, h2⟩
    · skip
      refine lv_if_ne (tgt := 23) hx hb dX11_give_17 (by decide) (fun h => absurd (by decide) h) (fun _ => ?_)
      refine lv_bipush (v := (-2)) hx hb dX11_give_20 (by decide) ?_
      have hS := g.2.1
      exact W.iret (v := (-2)) hx hb hr (fun t ht hW => ⟨⟨(-2), I0, rfl, ⟨hI, hF, (by rw [abk, apl, abg, qf0_2]; exact Or.inl ⟨fun q => absurd q.2 (by omega), by decide, rfl⟩)⟩, h_ret g ht⟩, hS.F ht⟩) hS.2.2 dX11_give_22
    · skip
      refine lv_if_ne (tgt := 23) hx hb dX11_give_17 (by decide) (fun _ => ?_) (fun h => absurd h (by decide))
      refine lv_aload_n hx hb dX11_give_23 rfl (lv_at hl 0 rfl) ?_
      refine vp_callSi (W.runV (As := []) (rest := []) ⟨hx, hb, hml, hown, hts⟩ (tX6_isSignedB l E X A z I0 L0 rh1 trh1) (cwV 0 hts gX11_give_X6_isSigned rfl rfl rfl (by decide +kernel) ⟨Nat.le_of_ble_eq_true rfl, Nat.le_of_ble_eq_true rfl⟩) ⟨h_blind _ _ _ _ _ _ _, h_recv g trh1 (by decide) so_7 (q := (RX6, TX6, 9)) rfl, h_pre _ hE hk hX hA hI hR g⟩ rfl rfl hl.1 rfl (lv_room (Nat.le_of_ble_eq_true rfl)) dX11_give_24 ⟨Nat.le_of_ble_eq_true rfl, Nat.le_of_ble_eq_true rfl⟩) (fun rh5 h5 => ?_)
      obtain ⟨h5, h5p0⟩ := h5
      rw [← eg_0] at h5p0
      refine lv_if_eq (tgt := 64) hx hb dX11_give_27 (by decide) (fun c6 => ?_) (fun c6 => ?_)
      · have ic6 := (xi_eq c6 rfl (by decide) : rh5.toInt = 0)
        refine lv_bipush (v := (-4)) hx hb dX11_give_64 (by decide) ?_
        have hS := g.2.1
        exact W.iret (v := (-4)) hx hb hr (fun t ht hW => ⟨⟨(-4), I0, rfl, ⟨hI, hF, (by rw [abk, apl, abg, qf0_2]; rw [ap, ← eg_0]; exact Or.inr (Or.inl ⟨⟨hpr, by omega, by omega⟩, (by omega), by decide, rfl⟩))⟩, h_ret g ht⟩, hS.F ht⟩) hS.2.2 dX11_give_66
      · have ic6 := (xi_ne c6 rfl (by decide) : rh5.toInt ≠ 0)
        have hg0 : 0 ≤ g_0.toInt ∧ g_0.toInt ≤ 7 := by omega
        refine lv_aload_n hx hb dX11_give_30 rfl (lv_at hl 0 rfl) ?_
        refine h_get (v := .int g_0) hx hb hts iX6 hown g trh1 (by decide) so_7 rfl 0 (by decide) (hts (.fieldLink RX11 189 "CapLeague$Player" "club" "I") (by decide +kernel)) rfl dX11_give_31 (congrArg Value.int (eg_0.symm)) ?_
        refine lv_iload_n hx hb dX11_give_34 rfl (lv_at hl 3 rfl) ?_
        refine lv_icmp_eq (tgt := 64) hx hb dX11_give_35 (by decide) (fun c7 => ?_) (fun c7 => ?_)
        · have ic7 := (xi_eq c7 rfl h_c : g_0.toInt = c_t)
          refine lv_bipush (v := (-4)) hx hb dX11_give_64 (by decide) ?_
          have hS := g.2.1
          exact W.iret (v := (-4)) hx hb hr (fun t ht hW => ⟨⟨(-4), I0, rfl, ⟨hI, hF, (by rw [abk, apl, abg, qf0_2]; rw [ap, ← eg_0]; exact Or.inr (Or.inl ⟨⟨hpr, by omega, by omega⟩, (by omega), by decide, rfl⟩))⟩, h_ret g ht⟩, hS.F ht⟩) hS.2.2 dX11_give_66
        · have ic7 := (xi_ne c7 rfl h_c : g_0.toInt ≠ c_t)
          refine lv_aload_n hx hb dX11_give_38 rfl (lv_at hl 1 rfl) ?_
          refine h_get (v := .ref bg) hx hb hts iX11 hown g t_a0 (by decide) so_12 rfl 5 (by decide) (hts (.fieldLink RX11 53 "CapLeague" "bargain" "LCapLeague$Trade;") (by decide +kernel)) rfl dX11_give_39 (by show va_rf (z.R a0 5) = _; rw [rbg]; rfl) ?_
          refine lv_iload_n hx hb dX11_give_42 rfl (lv_at hl 2 rfl) ?_
          refine vp_callSi (W.runV (As := [.int p]) (rest := []) ⟨hx, hb, hml, hown, hts⟩ (tX9_hasPlayerB l E X A z I0 L0 bg tbg p (p_t) h_p) (cwV 1 hts gX11_give_X9_hasPlayer rfl rfl rfl (by decide +kernel) ⟨Nat.le_of_ble_eq_true rfl, Nat.le_of_ble_eq_true rfl⟩) ⟨h_blind _ _ _ _ _ _ _, h_recv g tbg (by decide) so_10 (q := (RX9, TX9, 10)) rfl, h_pre _ hE hk hX hA hI hR g⟩ rfl rfl hl.1 rfl (lv_room (Nat.le_of_ble_eq_true rfl)) dX11_give_43 ⟨Nat.le_of_ble_eq_true rfl, Nat.le_of_ble_eq_true rfl⟩) (fun rh8 h8 => ?_)
          obtain ⟨h8, h8p0⟩ := h8
          refine lv_if_ne (tgt := 64) hx hb dX11_give_46 (by decide) (fun c9 => ?_) (fun c9 => ?_)
          · have ic9 := (xi_ne c9 rfl (by decide) : rh8.toInt ≠ 0)
            refine lv_bipush (v := (-4)) hx hb dX11_give_64 (by decide) ?_
            have hS := g.2.1
            exact W.iret (v := (-4)) hx hb hr (fun t ht hW => ⟨⟨(-4), I0, rfl, ⟨hI, hF, (by rw [abk, apl, abg, qf0_2]; rw [ap, ← eg_0]; exact Or.inr (Or.inl ⟨⟨hpr, by omega, by omega⟩, Or.inr (Or.inr (Or.inl (by rcases h8p0 with q | q; exact q.2; omega))), by decide, rfl⟩))⟩, h_ret g ht⟩, hS.F ht⟩) hS.2.2 dX11_give_66
          · have ic9 := (xi_eq c9 rfl (by decide) : rh8.toInt = 0)
            refine lv_aload_n hx hb dX11_give_49 rfl (lv_at hl 1 rfl) ?_
            refine h_get (v := .ref bg) hx hb hts iX11 hown g t_a0 (by decide) so_12 rfl 5 (by decide) (hts (.fieldLink RX11 53 "CapLeague" "bargain" "LCapLeague$Trade;") (by decide +kernel)) rfl dX11_give_50 (by show va_rf (z.R a0 5) = _; rw [rbg]; rfl) ?_
            refine lv_aload_n hx hb dX11_give_53 rfl (lv_at hl 0 rfl) ?_
            refine h_get (v := .int g_0) hx hb hts iX6 hown g trh1 (by decide) so_7 rfl 0 (by decide) (hts (.fieldLink RX11 189 "CapLeague$Player" "club" "I") (by decide +kernel)) rfl dX11_give_54 (congrArg Value.int (eg_0.symm)) ?_
            refine lv_iload_n hx hb dX11_give_57 rfl (lv_at hl 3 rfl) ?_
            refine vp_callSi (W.runV (As := [.int g_0, .int c]) (rest := []) ⟨hx, hb, hml, hown, hts⟩ (tX9_canJoinB l E X A z I0 L0 bg tbg g_0 (g_0.toInt) rfl (by omega) c (c_t) h_c (by omega) (hcb)) (cwV 2 hts gX11_give_X9_canJoin rfl rfl rfl (by decide +kernel) ⟨Nat.le_of_ble_eq_true rfl, Nat.le_of_ble_eq_true rfl⟩) ⟨h_blind _ _ _ _ _ _ _, h_recv g tbg (by decide) so_10 (q := (RX9, TX9, 10)) rfl, h_pre _ hE hk hX hA hI hR g⟩ rfl rfl hl.1 rfl (lv_room (Nat.le_of_ble_eq_true rfl)) dX11_give_58 ⟨Nat.le_of_ble_eq_true rfl, Nat.le_of_ble_eq_true rfl⟩) (fun rh10 h10 => ?_)
            obtain ⟨h10, h10p0⟩ := h10
            refine lv_if_ne (tgt := 67) hx hb dX11_give_61 (by decide) (fun c11 => ?_) (fun c11 => ?_)
            · have ic11 := (xi_ne c11 rfl (by decide) : rh10.toInt ≠ 0)
              refine lv_aload_n hx hb dX11_give_67 rfl (lv_at hl 1 rfl) ?_
              refine h_get (v := .ref bg) hx hb hts iX11 hown g t_a0 (by decide) so_12 rfl 5 (by decide) (hts (.fieldLink RX11 53 "CapLeague" "bargain" "LCapLeague$Trade;") (by decide +kernel)) rfl dX11_give_68 (by show va_rf (z.R a0 5) = _; rw [rbg]; rfl) ?_
              refine lv_iload_n hx hb dX11_give_71 rfl (lv_at hl 2 rfl) ?_
              refine lv_aload_n hx hb dX11_give_72 rfl (lv_at hl 0 rfl) ?_
              refine h_get (v := .int g_0) hx hb hts iX6 hown g trh1 (by decide) so_7 rfl 0 (by decide) (hts (.fieldLink RX11 189 "CapLeague$Player" "club" "I") (by decide +kernel)) rfl dX11_give_73 (congrArg Value.int (eg_0.symm)) ?_
              refine lv_iload_n hx hb dX11_give_76 rfl (lv_at hl 3 rfl) ?_
              refine va_calli (va_runV (As := [.int p, .int g_0, .int c]) (rest := []) ⟨hx, hb, hml, hown, hts⟩ (tX9_addPlayerB l E X A z I0 L0 bg tbg p (p_t) h_p g_0 (g_0.toInt) rfl c (c_t) h_c (by omega)) (cwV 3 hts gX11_give_X9_addPlayerMove rfl rfl rfl (by decide +kernel) ⟨Nat.le_of_ble_eq_true rfl, Nat.le_of_ble_eq_true rfl⟩) ⟨h_blind _ _ _ _ _ _ _, h_recv g tbg (by decide) so_10 (q := (RX9, TX9, 10)) rfl, h_pre _ hE hk hX hA hI hR g⟩ rfl rfl hl.1 rfl (lv_room (Nat.le_of_ble_eq_true rfl)) dX11_give_77 ⟨Nat.le_of_ble_eq_true rfl, Nat.le_of_ble_eq_true rfl⟩) g.2.1 (fun q _ h => h) (fun q h => h) (fun rh12 I13 t H1 locs ht hvm h12 hB hz1 hk1 hS => ?_)
              obtain ⟨hI, fh12, h12⟩ := h12
              replace g := h_after g hB ht hS
              generalize H1 = H at g
              clear hB hk1 hz1 ht hvm hS
              have hF := hF.call fh12 rfl
              have h12p0 := h12
              have jrh12 : -2147483648 ≤ rh12.toInt ∧ rh12.toInt ≤ 2147483647 := ⟨xi_lo _, Int.le_of_lt_add_one (xi_hi _)⟩
              have hS := g.2.1
              exact W.iret (v := rh12) hx hb hr (fun t ht hW => ⟨⟨rh12, I13, rfl, ⟨hI, hF, (by rw [abk, apl, abg, qf0_2]; rw [ap, ← eg_0]; exact Or.inr (Or.inr ⟨⟨hpr, by omega, by omega⟩, fun q => by rcases q with q | q | q | q; omega; omega; (rcases h8p0 with a | a; omega; exact a.2 q); (rcases h10p0 with a | a; exact q a.2; omega), h12p0⟩))⟩, h_ret g ht⟩, hS.F ht⟩) hS.2.2 dX11_give_80
            · have ic11 := (xi_eq c11 rfl (by decide) : rh10.toInt = 0)
              refine lv_bipush (v := (-4)) hx hb dX11_give_64 (by decide) ?_
              have hS := g.2.1
              exact W.iret (v := (-4)) hx hb hr (fun t ht hW => ⟨⟨(-4), I0, rfl, ⟨hI, hF, (by rw [abk, apl, abg, qf0_2]; rw [ap, ← eg_0]; exact Or.inr (Or.inl ⟨⟨hpr, by omega, by omega⟩, Or.inr (Or.inr (Or.inr (by rcases h10p0 with q | q; omega; exact q.2))), by decide, rfl⟩))⟩, h_ret g ht⟩, hS.F ht⟩) hS.2.2 dX11_give_66
set_option maxHeartbeats 4000000 in
set_option maxRecDepth 100000 in
theorem tX11_giveTurnB (l : Launch) (E : tE) (X : tX) (A : Nat → Prop) (z : tZ) (I0 : tI) (L0 : tL) (a0 : Nat) (t_a0 : z.ty a0 = 12) (o : Int32) (o_t : Int) (h_o : o.toInt = o_t) (y : Int32) (y_t : Int) (h_y : y.toInt = y_t) (c : Int32) (c_t : Int) (h_c : c.toInt = c_t) (k : Int32) (k_t : Int) (h_k : k.toInt = k_t) (hcb : 0 ≤ (I0 (h_ad z a0 5) 4).toInt ∧ (I0 (h_ad z a0 5) 4).toInt ≤ 255) (hho : ∀ k : Nat, k < 80 → 0 ≤ (I0 (h_ad z (h_ad z a0 4) 0) k).toInt ∧ (I0 (h_ad z (h_ad z a0 4) 0) k).toInt ≤ 7) : Met l yX11_giveTurn wsX11_giveTurn ({ frames := 3, cells := 0, slots := 0, locals := 192 }) (va_Pc [.ref a0, .int o, .int y, .int c, .int k] (h_P E X A z I0 L0)) (va_Qi (fun r (I1 : tI) => h_I z I1 ∧ h_F [(10, 3), (10, 4), (1006, 999), (1005, 999), (1007, 999), (1008, 999), (1009, 999)] z I0 I1 ∧ ((¬ (0 ≤ o_t ∧ o_t ≤ 7 ∧ (I0 (h_ad z a0 3) 3).toInt ≤ y_t ∧ y_t ≤ 9 ∧ 0 ≤ c_t ∧ c_t ≤ 7 ∧ 0 ≤ k_t ∧ k_t ≤ 8) ∧ r.toInt = -2 ∧ I1 = I0) ∨ ((0 ≤ o_t ∧ o_t ≤ 7 ∧ (I0 (h_ad z a0 3) 3).toInt ≤ y_t ∧ y_t ≤ 9 ∧ 0 ≤ c_t ∧ c_t ≤ 7 ∧ 0 ≤ k_t ∧ k_t ≤ 8) ∧ ((I0 (h_ad z (h_ad z a0 4) 0) (10 * o_t + y_t).toNat).toInt = c_t ∨ (c_has I0 (h_ad z (h_ad z a0 5) 6) (h_ad z (h_ad z a0 5) 5) (I0 (h_ad z a0 5) 3).toInt (10 * o_t + y_t) (1)) ∨ (I0 (h_ad z (h_ad z a0 7) 2) y_t.toNat).toInt ≠ 0 ∨ (I0 (h_ad z (h_ad z a0 4) 1) (10 * o_t + y_t).toNat).toInt ≠ 0 ∨ ¬ q_jn (I0 (h_ad z a0 5) 4) (I0 (h_ad z (h_ad z a0 4) 0) (10 * o_t + y_t).toNat) c) ∧ r.toInt = -4 ∧ I1 = I0) ∨ ((0 ≤ o_t ∧ o_t ≤ 7 ∧ (I0 (h_ad z a0 3) 3).toInt ≤ y_t ∧ y_t ≤ 9 ∧ 0 ≤ c_t ∧ c_t ≤ 7 ∧ 0 ≤ k_t ∧ k_t ≤ 8) ∧ ¬ ((I0 (h_ad z (h_ad z a0 4) 0) (10 * o_t + y_t).toNat).toInt = c_t ∨ (c_has I0 (h_ad z (h_ad z a0 5) 6) (h_ad z (h_ad z a0 5) 5) (I0 (h_ad z a0 5) 3).toInt (10 * o_t + y_t) (1)) ∨ (I0 (h_ad z (h_ad z a0 7) 2) y_t.toNat).toInt ≠ 0 ∨ (I0 (h_ad z (h_ad z a0 4) 1) (10 * o_t + y_t).toNat).toInt ≠ 0 ∨ ¬ q_jn (I0 (h_ad z a0 5) 4) (I0 (h_ad z (h_ad z a0 4) 0) (10 * o_t + y_t).toNat) c) ∧ ∃ w : Int32, w.toInt = 10 * o_t + y_t ∧ ((12 ≤ (I0 (h_ad z a0 5) 3).toInt ∧ r.toInt = -3 ∧ I1 = I0) ∨ ((I0 (h_ad z a0 5) 3).toInt < 12 ∧ r.toInt = (I0 (h_ad z a0 5) 3).toInt + 1 ∧ (I1 (h_ad z a0 5) 3).toInt = (I0 (h_ad z a0 5) 3).toInt + 1 ∧ I1 (h_ad z a0 5) 4 = I0 (h_ad z a0 5) 4 ||| (q_sh ((I0 (h_ad z (h_ad z a0 4) 0) (10 * o_t + y_t).toNat)) ||| q_sh (c)) ∧ (∀ j : Nat, I1 (h_ad z (h_ad z a0 5) 6) j = if j = (I0 (h_ad z a0 5) 3).toInt.toNat then w else I0 (h_ad z (h_ad z a0 5) 6) j) ∧ (∀ j : Nat, I1 (h_ad z (h_ad z a0 5) 5) j = if j = (I0 (h_ad z a0 5) 3).toInt.toNat then 1 else I0 (h_ad z (h_ad z a0 5) 5) j) ∧ (∀ j : Nat, I1 (h_ad z (h_ad z a0 5) 7) j = if j = (I0 (h_ad z a0 5) 3).toInt.toNat then (I0 (h_ad z (h_ad z a0 4) 0) (10 * o_t + y_t).toNat) else I0 (h_ad z (h_ad z a0 5) 7) j) ∧ (∀ j : Nat, I1 (h_ad z (h_ad z a0 5) 8) j = if j = (I0 (h_ad z a0 5) 3).toInt.toNat then c else I0 (h_ad z (h_ad z a0 5) 8) j) ∧ (∀ j : Nat, I1 (h_ad z (h_ad z a0 5) 9) j = if j = (I0 (h_ad z a0 5) 3).toInt.toNat then k else I0 (h_ad z (h_ad z a0 5) 9) j)))))) (fun (I1 : tI) t => h_B E A z I1 L0 t) A) 0 0 A := by
  refine Met.ofW (cc := cX11_giveTurn) (maxL := 7) (ret := (some .int)) (by decide) rfl ?_
  intro pr_ ev_ s m args below meth cd_ s₁ B hml hv
  obtain ⟨rfl, hE, hk, hX, hA, hK, hI, hR, hB0⟩ := hv
  have g : h_G h_so h_fk E A z I0 L0 s s.heap s.heap [] := ⟨hK, va_S.rf, hB0⟩
  have hF : h_F [(10, 3), (10, 4), (1006, 999), (1005, 999), (1007, 999), (1008, 999), (1009, 999)] z I0 I0 := h_F.rf
  have hx := B.exec
  have hb := B.bytes
  have hr := B.returns
  have hts := atoms_spec (ws := wsX11_giveTurn) B.pre
  have hown : s.vm.findClass RX11 = some m.cls := findClass_of_methodNamed B.named
  have hlocks := B.notSynchronized
  have iX11 : ∀ w ∈ u_ws RX11 TX11 8, w ∈ wsX11_giveTurn := by decide +kernel
  have iX10 : ∀ w ∈ u_ws RX10 TX10 4, w ∈ wsX11_giveTurn := by decide +kernel
  have hl := lv_entry ([.ref a0, .int o, .int y, .int c, .int k]) (n := 7) (Nat.le_of_ble_eq_true rfl)
  rw [lg_entry_eq]
  generalize (lg_sl ([.ref a0, .int o, .int y, .int c, .int k]) ++ List.replicate (7 - (lg_sl ([.ref a0, .int o, .int y, .int c, .int k])).length) Slot.unset).toArray = ls at hl ⊢
  have hl : lv_has ls 7 [(0, .ref a0), (1, .int o), (2, .int y), (3, .int c), (4, .int k)] := hl
  have b_o : -2147483648 ≤ o_t ∧ o_t ≤ 2147483647 := h_o ▸ ⟨xi_lo o, Int.le_of_lt_add_one (xi_hi o)⟩
  have b_y : -2147483648 ≤ y_t ∧ y_t ≤ 2147483647 := h_y ▸ ⟨xi_lo y, Int.le_of_lt_add_one (xi_hi y)⟩
  have b_c : -2147483648 ≤ c_t ∧ c_t ≤ 2147483647 := h_c ▸ ⟨xi_lo c, Int.le_of_lt_add_one (xi_hi c)⟩
  have b_k : -2147483648 ≤ k_t ∧ k_t ≤ 2147483647 := h_k ▸ ⟨xi_lo k, Int.le_of_lt_add_one (xi_hi k)⟩
  obtain ⟨bk, rbk, tbk⟩ := hR.at a0 3 t_a0 (rfl : h_rs 12 3 = some (1, false)) (by decide)
  have abk : h_ad z a0 3 = bk := h_ad.at rbk
  obtain ⟨tu, rtu, ttu⟩ := hR.at a0 4 t_a0 (rfl : h_rs 12 4 = some (11, false)) (by decide)
  have atu : h_ad z a0 4 = tu := h_ad.at rtu
  obtain ⟨hd, rhd, thd⟩ := hR.at tu 0 ttu (rfl : h_rs 11 0 = some (1100, false)) (by decide)
  have ahd : h_ad z tu 0 = hd := h_ad.at rhd
  obtain ⟨sh, rsh, tsh⟩ := hR.at tu 1 ttu (rfl : h_rs 11 1 = some (1101, false)) (by decide)
  have ash : h_ad z tu 1 = sh := h_ad.at rsh
  obtain ⟨bg, rbg, tbg⟩ := hR.at a0 5 t_a0 (rfl : h_rs 12 5 = some (10, false)) (by decide)
  have abg : h_ad z a0 5 = bg := h_ad.at rbg
  obtain ⟨dt, rdt, tdt⟩ := hR.at a0 7 t_a0 (rfl : h_rs 12 7 = some (3, false)) (by decide)
  have adt : h_ad z a0 7 = dt := h_ad.at rdt
  obtain ⟨dr, rdr, tdr⟩ := hR.at dt 2 tdt (rfl : h_rs 3 2 = some (302, false)) (by decide)
  have adr : h_ad z dt 2 = dr := h_ad.at rdr
  obtain ⟨f0_3, ef0_3⟩ : ∃ v : Int32, v = I0 bk 3 := ⟨_, rfl⟩
  have qf0_3 : (I0 bk 3).toInt = f0_3.toInt := congrArg Int32.toInt ef0_3.symm
  have jf0_3 := hI.rd bk 3 tbk ef0_3 (rfl : h_bd 1 3 = (0, 9))
  rw [abg] at hcb
  rw [atu, ahd] at hho
  refine lv_iload_n hx hb dX11_giveTurn_0 rfl (lv_at hl 1 rfl) ?_
  refine vp_callSi (W.runS (As := [.int o]) (rest := []) ⟨hx, hb, hml, hown, hts⟩ (tX11_isClub l E X A z I0 L0 o (o_t) h_o) (va_cwS 1 hts gX11_giveTurn_X11_isClub rfl rfl rfl (by decide +kernel) ⟨Nat.le_of_ble_eq_true rfl, Nat.le_of_ble_eq_true rfl⟩) ⟨h_blind _ _ _ _ _ _ _, h_pre _ hE hk hX hA hI hR g⟩ rfl rfl hl.1 rfl (lv_room (Nat.le_of_ble_eq_true rfl)) dX11_giveTurn_1 ⟨Nat.le_of_ble_eq_true rfl, Nat.le_of_ble_eq_true rfl⟩) (fun rh1 h1 => ?_)
  rcases h1 with ⟨rfl, h1⟩ | ⟨rfl, h1⟩
  · skip
    refine lv_if_eq (tgt := 37) hx hb dX11_giveTurn_4 (by decide) (fun _ => ?_) (fun h => absurd (by decide) h)
    refine lv_bipush (v := (-2)) hx hb dX11_giveTurn_37 (by decide) ?_
    have hS := g.2.1
    exact W.iret (v := (-2)) hx hb hr (fun t ht hW => ⟨⟨(-2), I0, rfl, ⟨hI, hF, (by rw [abk, atu, ahd, ash, abg, adt, adr, qf0_3]; exact Or.inl ⟨by omega, by decide, rfl⟩)⟩, h_ret g ht⟩, hS.F ht⟩) hS.2.2 dX11_giveTurn_39
  · skip
    refine lv_if_eq (tgt := 37) hx hb dX11_giveTurn_4 (by decide) (fun h => absurd h (by decide)) (fun _ => ?_)
    refine lv_aload_n hx hb dX11_giveTurn_7 rfl (lv_at hl 0 rfl) ?_
    refine h_get (v := .ref bk) hx hb hts iX11 hown g t_a0 (by decide) so_12 rfl 3 (by decide) (hts (.fieldLink RX11 37 "CapLeague" "books" "LCapLeague$Books;") (by decide +kernel)) rfl dX11_giveTurn_8 (by show va_rf (z.R a0 3) = _; rw [rbk]; rfl) ?_
    refine lv_iload_n hx hb dX11_giveTurn_11 rfl (lv_at hl 2 rfl) ?_
    refine vp_callSi (W.runV (As := [.int y]) (rest := []) ⟨hx, hb, hml, hown, hts⟩ (tX0_isNowX l E X A z I0 L0 bk tbk y (y_t) h_y) (cwV 1 hts gX11_giveTurn_X0_isNowOrLater rfl rfl rfl (by decide +kernel) ⟨Nat.le_of_ble_eq_true rfl, Nat.le_of_ble_eq_true rfl⟩) ⟨h_blind _ _ _ _ _ _ _, h_recv g tbk (by decide) so_1 (q := (RX0, TX0, 9)) rfl, h_pre _ hE hk hX hA hI hR g⟩ rfl rfl hl.1 rfl (lv_room (Nat.le_of_ble_eq_true rfl)) dX11_giveTurn_12 ⟨Nat.le_of_ble_eq_true rfl, Nat.le_of_ble_eq_true rfl⟩) (fun rh4 h4 => ?_)
    obtain ⟨h4, h4p0⟩ := h4
    rw [qf0_3] at h4p0
    refine lv_if_eq (tgt := 37) hx hb dX11_giveTurn_15 (by decide) (fun c5 => ?_) (fun c5 => ?_)
    · have ic5 := (xi_eq c5 rfl (by decide) : rh4.toInt = 0)
      refine lv_bipush (v := (-2)) hx hb dX11_giveTurn_37 (by decide) ?_
      have hS := g.2.1
      exact W.iret (v := (-2)) hx hb hr (fun t ht hW => ⟨⟨(-2), I0, rfl, ⟨hI, hF, (by rw [abk, atu, ahd, ash, abg, adt, adr, qf0_3]; exact Or.inl ⟨by omega, by decide, rfl⟩)⟩, h_ret g ht⟩, hS.F ht⟩) hS.2.2 dX11_giveTurn_39
    · have ic5 := (xi_ne c5 rfl (by decide) : rh4.toInt ≠ 0)
      refine lv_iload_n hx hb dX11_giveTurn_18 rfl (lv_at hl 3 rfl) ?_
      refine vp_callSi (W.runS (As := [.int c]) (rest := []) ⟨hx, hb, hml, hown, hts⟩ (tX11_isClub l E X A z I0 L0 c (c_t) h_c) (va_cwS 1 hts gX11_giveTurn_X11_isClub rfl rfl rfl (by decide +kernel) ⟨Nat.le_of_ble_eq_true rfl, Nat.le_of_ble_eq_true rfl⟩) ⟨h_blind _ _ _ _ _ _ _, h_pre _ hE hk hX hA hI hR g⟩ rfl rfl hl.1 rfl (lv_room (Nat.le_of_ble_eq_true rfl)) dX11_giveTurn_19 ⟨Nat.le_of_ble_eq_true rfl, Nat.le_of_ble_eq_true rfl⟩) (fun rh6 h6 => ?_)
      rcases h6 with ⟨rfl, h6⟩ | ⟨rfl, h6⟩
      · skip
        refine lv_if_eq (tgt := 37) hx hb dX11_giveTurn_22 (by decide) (fun _ => ?_) (fun h => absurd (by decide) h)
        refine lv_bipush (v := (-2)) hx hb dX11_giveTurn_37 (by decide) ?_
        have hS := g.2.1
        exact W.iret (v := (-2)) hx hb hr (fun t ht hW => ⟨⟨(-2), I0, rfl, ⟨hI, hF, (by rw [abk, atu, ahd, ash, abg, adt, adr, qf0_3]; exact Or.inl ⟨by omega, by decide, rfl⟩)⟩, h_ret g ht⟩, hS.F ht⟩) hS.2.2 dX11_giveTurn_39
      · skip
        refine lv_if_eq (tgt := 37) hx hb dX11_giveTurn_22 (by decide) (fun h => absurd h (by decide)) (fun _ => ?_)
        refine lv_iload hx hb dX11_giveTurn_25 (lv_at hl 4 rfl) ?_
        refine lv_if_lt (tgt := 37) hx hb dX11_giveTurn_27 (by decide) (fun c9 => ?_) (fun c9 => ?_)
        · have ic9 := (xi_lt c9 h_k (by decide) : k_t < 0)
          refine lv_bipush (v := (-2)) hx hb dX11_giveTurn_37 (by decide) ?_
          have hS := g.2.1
          exact W.iret (v := (-2)) hx hb hr (fun t ht hW => ⟨⟨(-2), I0, rfl, ⟨hI, hF, (by rw [abk, atu, ahd, ash, abg, adt, adr, qf0_3]; exact Or.inl ⟨by omega, by decide, rfl⟩)⟩, h_ret g ht⟩, hS.F ht⟩) hS.2.2 dX11_giveTurn_39
        · have ic9 := (xi_nlt c9 h_k (by decide) : 0 ≤ k_t)
          refine lv_iload hx hb dX11_giveTurn_30 (lv_at hl 4 rfl) ?_
          refine lv_bipush (v := 8) hx hb dX11_giveTurn_32 (by decide) ?_
          refine lv_icmp_le (tgt := 40) hx hb dX11_giveTurn_34 (by decide) (fun c10 => ?_) (fun c10 => ?_)
          · have ic10 := (xi_le c10 h_k (by decide) : k_t ≤ 8)
            have hyr : f0_3.toInt ≤ y_t ∧ 0 ≤ y_t ∧ y_t ≤ 9 := by omega
            refine lv_iload_n hx hb dX11_giveTurn_40 rfl (lv_at hl 1 rfl) ?_
            refine lv_iload_n hx hb dX11_giveTurn_41 rfl (lv_at hl 2 rfl) ?_
            refine vp_callSi (W.runS (As := [.int o, .int y]) (rest := []) ⟨hx, hb, hml, hown, hts⟩ (tX10_keyR l E X A z I0 L0 o (o_t) h_o (by omega) y (y_t) h_y (by omega)) (va_cwS 2 hts gX11_giveTurn_X10_keyOf rfl rfl rfl (by decide +kernel) ⟨Nat.le_of_ble_eq_true rfl, Nat.le_of_ble_eq_true rfl⟩) ⟨h_blind _ _ _ _ _ _ _, h_pre _ hE hk hX hA hI hR g⟩ rfl rfl hl.1 rfl (lv_room (Nat.le_of_ble_eq_true rfl)) dX11_giveTurn_42 ⟨Nat.le_of_ble_eq_true rfl, Nat.le_of_ble_eq_true rfl⟩) (fun rh11 h11 => ?_)
            obtain ⟨h11, h11p0⟩ := h11
            refine lv_istore (lv' := [(5, .int rh11), (0, .ref a0), (1, .int o), (2, .int y), (3, .int c), (4, .int k)]) hx hb dX11_giveTurn_45 hl (by decide) rfl (fun ls hl => ?_)
            refine lv_aload_n hx hb dX11_giveTurn_47 rfl (lv_at hl 1 rfl) ?_
            refine h_get (v := .ref tu) hx hb hts iX11 hown g t_a0 (by decide) so_12 rfl 4 (by decide) (hts (.fieldLink RX11 44 "CapLeague" "turns" "LCapLeague$Turns;") (by decide +kernel)) rfl dX11_giveTurn_48 (by show va_rf (z.R a0 4) = _; rw [rtu]; rfl) ?_
            refine h_get (v := .ref hd) hx hb hts iX10 hown g ttu (by decide) so_11 rfl 0 (by decide) (hts (.fieldLink RX11 206 "CapLeague$Turns" "holder" "[I") (by decide +kernel)) rfl dX11_giveTurn_51 (by show va_rf (z.R tu 0) = _; rw [rhd]; rfl) ?_
            refine lv_iload hx hb dX11_giveTurn_54 (lv_at hl 0 rfl) ?_
            refine h_ald hx hb g thd (by decide) so_1100 (xi_in (by omega) (by omega)) dX11_giveTurn_56 ?_
            refine lv_topi (fun v12 ev12 => ?_)
            have jv12 := hI.rd hd rh11.toNatClampNeg thd ev12 (rfl : h_bd 1100 _ = ((-2147483648), 2147483647))
            have kk : rh11.toNatClampNeg = (10 * o_t + y_t).toNat := h_keq (t := 10 * o_t + y_t) (by omega) (by omega) (by omega)
            have ek : I0 hd (10 * o_t + y_t).toNat = v12 := by rw [← kk]; exact ev12.symm
            have mh : 0 ≤ v12.toInt ∧ v12.toInt ≤ 7 := by rw [← ek]; exact hho _ (by omega)
            refine lv_istore (lv' := [(6, .int v12), (5, .int rh11), (0, .ref a0), (1, .int o), (2, .int y), (3, .int c), (4, .int k)]) hx hb dX11_giveTurn_57 hl (by decide) rfl (fun ls hl => ?_)
            refine lv_iload hx hb dX11_giveTurn_59 (lv_at hl 0 rfl) ?_
            refine lv_iload_n hx hb dX11_giveTurn_61 rfl (lv_at hl 5 rfl) ?_
            refine lv_icmp_eq (tgt := 114) hx hb dX11_giveTurn_62 (by decide) (fun c13 => ?_) (fun c13 => ?_)
            · have ic13 := (xi_eq c13 rfl h_c : v12.toInt = c_t)
              refine lv_bipush (v := (-4)) hx hb dX11_giveTurn_114 (by decide) ?_
              have hS := g.2.1
              exact W.iret (v := (-4)) hx hb hr (fun t ht hW => ⟨⟨(-4), I0, rfl, ⟨hI, hF, (by rw [abk, atu, ahd, ash, abg, adt, adr, qf0_3]; rw [ek]; exact Or.inr (Or.inl ⟨⟨by omega, by omega, by omega, by omega, by omega, by omega, by omega, by omega⟩, Or.inl (by omega), by decide, rfl⟩))⟩, h_ret g ht⟩, hS.F ht⟩) hS.2.2 dX11_giveTurn_116
            · have ic13 := (xi_ne c13 rfl h_c : v12.toInt ≠ c_t)
              refine lv_aload_n hx hb dX11_giveTurn_65 rfl (lv_at hl 2 rfl) ?_
              refine h_get (v := .ref bg) hx hb hts iX11 hown g t_a0 (by decide) so_12 rfl 5 (by decide) (hts (.fieldLink RX11 53 "CapLeague" "bargain" "LCapLeague$Trade;") (by decide +kernel)) rfl dX11_giveTurn_66 (by show va_rf (z.R a0 5) = _; rw [rbg]; rfl) ?_
              refine lv_iload hx hb dX11_giveTurn_69 (lv_at hl 1 rfl) ?_
              refine vp_callSi (W.runV (As := [.int rh11]) (rest := []) ⟨hx, hb, hml, hown, hts⟩ (tX9_hasTurnB l E X A z I0 L0 bg tbg rh11 (rh11.toInt) rfl) (cwV 1 hts gX11_giveTurn_X9_hasTurn rfl rfl rfl (by decide +kernel) ⟨Nat.le_of_ble_eq_true rfl, Nat.le_of_ble_eq_true rfl⟩) ⟨h_blind _ _ _ _ _ _ _, h_recv g tbg (by decide) so_10 (q := (RX9, TX9, 10)) rfl, h_pre _ hE hk hX hA hI hR g⟩ rfl rfl hl.1 rfl (lv_room (Nat.le_of_ble_eq_true rfl)) dX11_giveTurn_71 ⟨Nat.le_of_ble_eq_true rfl, Nat.le_of_ble_eq_true rfl⟩) (fun rh14 h14 => ?_)
              obtain ⟨h14, h14p0⟩ := h14
              rw [show rh11.toInt = 10 * o_t + y_t by omega] at h14p0
              refine lv_if_ne (tgt := 114) hx hb dX11_giveTurn_74 (by decide) (fun c15 => ?_) (fun c15 => ?_)
              · have ic15 := (xi_ne c15 rfl (by decide) : rh14.toInt ≠ 0)
                refine lv_bipush (v := (-4)) hx hb dX11_giveTurn_114 (by decide) ?_
                have hS := g.2.1
                exact W.iret (v := (-4)) hx hb hr (fun t ht hW => ⟨⟨(-4), I0, rfl, ⟨hI, hF, (by rw [abk, atu, ahd, ash, abg, adt, adr, qf0_3]; rw [ek]; exact Or.inr (Or.inl ⟨⟨by omega, by omega, by omega, by omega, by omega, by omega, by omega, by omega⟩, Or.inr (Or.inl (by rcases h14p0 with q | q; exact q.2; omega)), by decide, rfl⟩))⟩, h_ret g ht⟩, hS.F ht⟩) hS.2.2 dX11_giveTurn_116
              · have ic15 := (xi_eq c15 rfl (by decide) : rh14.toInt = 0)
                refine lv_aload_n hx hb dX11_giveTurn_77 rfl (lv_at hl 2 rfl) ?_
                refine h_get (v := .ref dt) hx hb hts iX11 hown g t_a0 (by decide) so_12 rfl 7 (by decide) (hts (.fieldLink RX11 69 "CapLeague" "draft" "LCapLeague$Draft;") (by decide +kernel)) rfl dX11_giveTurn_78 (by show va_rf (z.R a0 7) = _; rw [rdt]; rfl) ?_
                refine lv_iload_n hx hb dX11_giveTurn_81 rfl (lv_at hl 4 rfl) ?_
                refine vp_callSi (W.runV (As := [.int y]) (rest := []) ⟨hx, hb, hml, hown, hts⟩ (tX2_isDrawnF l E X A z I0 L0 dt tdt y (y_t) h_y) (cwV 1 hts gX11_giveTurn_X2_isDrawn rfl rfl rfl (by decide +kernel) ⟨Nat.le_of_ble_eq_true rfl, Nat.le_of_ble_eq_true rfl⟩) ⟨h_blind _ _ _ _ _ _ _, h_recv g tdt (by decide) so_3 (q := (RX2, TX2, 7)) rfl, h_pre _ hE hk hX hA hI hR g⟩ rfl rfl hl.1 rfl (lv_room (Nat.le_of_ble_eq_true rfl)) dX11_giveTurn_82 ⟨Nat.le_of_ble_eq_true rfl, Nat.le_of_ble_eq_true rfl⟩) (fun rh16 h16 => ?_)
                obtain ⟨h16, h16p0⟩ := h16
                rw [adr] at h16p0
                refine lv_if_ne (tgt := 114) hx hb dX11_giveTurn_85 (by decide) (fun c17 => ?_) (fun c17 => ?_)
                · have ic17 := (xi_ne c17 rfl (by decide) : rh16.toInt ≠ 0)
                  refine lv_bipush (v := (-4)) hx hb dX11_giveTurn_114 (by decide) ?_
                  have hS := g.2.1
                  exact W.iret (v := (-4)) hx hb hr (fun t ht hW => ⟨⟨(-4), I0, rfl, ⟨hI, hF, (by rw [abk, atu, ahd, ash, abg, adt, adr, qf0_3]; rw [ek]; exact Or.inr (Or.inl ⟨⟨by omega, by omega, by omega, by omega, by omega, by omega, by omega, by omega⟩, Or.inr (Or.inr (Or.inl (by rcases h16p0 with q | q; omega; omega))), by decide, rfl⟩))⟩, h_ret g ht⟩, hS.F ht⟩) hS.2.2 dX11_giveTurn_116
                · have ic17 := (xi_eq c17 rfl (by decide) : rh16.toInt = 0)
                  refine lv_aload_n hx hb dX11_giveTurn_88 rfl (lv_at hl 2 rfl) ?_
                  refine h_get (v := .ref tu) hx hb hts iX11 hown g t_a0 (by decide) so_12 rfl 4 (by decide) (hts (.fieldLink RX11 44 "CapLeague" "turns" "LCapLeague$Turns;") (by decide +kernel)) rfl dX11_giveTurn_89 (by show va_rf (z.R a0 4) = _; rw [rtu]; rfl) ?_
                  refine h_get (v := .ref sh) hx hb hts iX10 hown g ttu (by decide) so_11 rfl 1 (by decide) (hts (.fieldLink RX11 216 "CapLeague$Turns" "shield" "[I") (by decide +kernel)) rfl dX11_giveTurn_92 (by show va_rf (z.R tu 1) = _; rw [rsh]; rfl) ?_
                  refine lv_iload hx hb dX11_giveTurn_95 (lv_at hl 1 rfl) ?_
                  refine h_ald hx hb g tsh (by decide) so_1101 (xi_in (by omega) (by omega)) dX11_giveTurn_97 ?_
                  refine lv_topi (fun v18 ev18 => ?_)
                  have jv18 := hI.rd sh rh11.toNatClampNeg tsh ev18 (rfl : h_bd 1101 _ = ((-2147483648), 2147483647))
                  have es : I0 sh (10 * o_t + y_t).toNat = v18 := by rw [← kk]; exact ev18.symm
                  refine lv_if_ne (tgt := 114) hx hb dX11_giveTurn_98 (by decide) (fun c19 => ?_) (fun c19 => ?_)
                  · have ic19 := (xi_ne c19 rfl (by decide) : v18.toInt ≠ 0)
                    refine lv_bipush (v := (-4)) hx hb dX11_giveTurn_114 (by decide) ?_
                    have hS := g.2.1
                    exact W.iret (v := (-4)) hx hb hr (fun t ht hW => ⟨⟨(-4), I0, rfl, ⟨hI, hF, (by rw [abk, atu, ahd, ash, abg, adt, adr, qf0_3]; rw [ek]; rw [es]; exact Or.inr (Or.inl ⟨⟨by omega, by omega, by omega, by omega, by omega, by omega, by omega, by omega⟩, Or.inr (Or.inr (Or.inr (Or.inl (by omega)))), by decide, rfl⟩))⟩, h_ret g ht⟩, hS.F ht⟩) hS.2.2 dX11_giveTurn_116
                  · have ic19 := (xi_eq c19 rfl (by decide) : v18.toInt = 0)
                    refine lv_aload_n hx hb dX11_giveTurn_101 rfl (lv_at hl 2 rfl) ?_
                    refine h_get (v := .ref bg) hx hb hts iX11 hown g t_a0 (by decide) so_12 rfl 5 (by decide) (hts (.fieldLink RX11 53 "CapLeague" "bargain" "LCapLeague$Trade;") (by decide +kernel)) rfl dX11_giveTurn_102 (by show va_rf (z.R a0 5) = _; rw [rbg]; rfl) ?_
                    refine lv_iload hx hb dX11_giveTurn_105 (lv_at hl 0 rfl) ?_
                    refine lv_iload_n hx hb dX11_giveTurn_107 rfl (lv_at hl 5 rfl) ?_
                    refine vp_callSi (W.runV (As := [.int v12, .int c]) (rest := []) ⟨hx, hb, hml, hown, hts⟩ (tX9_canJoinB l E X A z I0 L0 bg tbg v12 (v12.toInt) rfl (by omega) c (c_t) h_c (by omega) (hcb)) (cwV 2 hts gX11_giveTurn_X9_canJoin rfl rfl rfl (by decide +kernel) ⟨Nat.le_of_ble_eq_true rfl, Nat.le_of_ble_eq_true rfl⟩) ⟨h_blind _ _ _ _ _ _ _, h_recv g tbg (by decide) so_10 (q := (RX9, TX9, 10)) rfl, h_pre _ hE hk hX hA hI hR g⟩ rfl rfl hl.1 rfl (lv_room (Nat.le_of_ble_eq_true rfl)) dX11_giveTurn_108 ⟨Nat.le_of_ble_eq_true rfl, Nat.le_of_ble_eq_true rfl⟩) (fun rh20 h20 => ?_)
                    obtain ⟨h20, h20p0⟩ := h20
                    refine lv_if_ne (tgt := 117) hx hb dX11_giveTurn_111 (by decide) (fun c21 => ?_) (fun c21 => ?_)
                    · have ic21 := (xi_ne c21 rfl (by decide) : rh20.toInt ≠ 0)
                      refine lv_aload_n hx hb dX11_giveTurn_117 rfl (lv_at hl 2 rfl) ?_
                      refine h_get (v := .ref bg) hx hb hts iX11 hown g t_a0 (by decide) so_12 rfl 5 (by decide) (hts (.fieldLink RX11 53 "CapLeague" "bargain" "LCapLeague$Trade;") (by decide +kernel)) rfl dX11_giveTurn_118 (by show va_rf (z.R a0 5) = _; rw [rbg]; rfl) ?_
                      refine lv_iload hx hb dX11_giveTurn_121 (lv_at hl 1 rfl) ?_
                      refine lv_iload hx hb dX11_giveTurn_123 (lv_at hl 0 rfl) ?_
                      refine lv_iload_n hx hb dX11_giveTurn_125 rfl (lv_at hl 5 rfl) ?_
                      refine lv_iload hx hb dX11_giveTurn_126 (lv_at hl 6 rfl) ?_
                      refine va_calli (va_runV (As := [.int rh11, .int v12, .int c, .int k]) (rest := []) ⟨hx, hb, hml, hown, hts⟩ (tX9_addTurnB l E X A z I0 L0 bg tbg rh11 (rh11.toInt) rfl v12 (v12.toInt) rfl c (c_t) h_c (by omega) k (k_t) h_k) (cwV 4 hts gX11_giveTurn_X9_addTurnMove rfl rfl rfl (by decide +kernel) ⟨Nat.le_of_ble_eq_true rfl, Nat.le_of_ble_eq_true rfl⟩) ⟨h_blind _ _ _ _ _ _ _, h_recv g tbg (by decide) so_10 (q := (RX9, TX9, 10)) rfl, h_pre _ hE hk hX hA hI hR g⟩ rfl rfl hl.1 rfl (lv_room (Nat.le_of_ble_eq_true rfl)) dX11_giveTurn_128 ⟨Nat.le_of_ble_eq_true rfl, Nat.le_of_ble_eq_true rfl⟩) g.2.1 (fun q _ h => h) (fun q h => h) (fun rh22 I23 t H1 locs ht hvm h22 hB hz1 hk1 hS => ?_)
                      obtain ⟨hI, fh22, h22⟩ := h22
                      replace g := h_after g hB ht hS
                      generalize H1 = H at g
                      clear hB hk1 hz1 ht hvm hS
                      have hF := hF.call fh22 rfl
                      have h22p0 := h22
                      have jrh22 : -2147483648 ≤ rh22.toInt ∧ rh22.toInt ≤ 2147483647 := ⟨xi_lo _, Int.le_of_lt_add_one (xi_hi _)⟩
                      have hS := g.2.1
                      exact W.iret (v := rh22) hx hb hr (fun t ht hW => ⟨⟨rh22, I23, rfl, ⟨hI, hF, (by rw [abk, atu, ahd, ash, abg, adt, adr, qf0_3]; rw [ek]; rw [es]; exact Or.inr (Or.inr ⟨⟨by omega, by omega, by omega, by omega, by omega, by omega, by omega, by omega⟩, fun q => by rcases q with q | q | q | q | q; omega; (rcases h14p0 with a | a; omega; exact a.2 q); (rcases h16p0 with a | a; omega; omega); omega; (rcases h20p0 with a | a; exact q a.2; omega), rh11, by omega, h22p0⟩))⟩, h_ret g ht⟩, hS.F ht⟩) hS.2.2 dX11_giveTurn_131
                    · have ic21 := (xi_eq c21 rfl (by decide) : rh20.toInt = 0)
                      refine lv_bipush (v := (-4)) hx hb dX11_giveTurn_114 (by decide) ?_
                      have hS := g.2.1
                      exact W.iret (v := (-4)) hx hb hr (fun t ht hW => ⟨⟨(-4), I0, rfl, ⟨hI, hF, (by rw [abk, atu, ahd, ash, abg, adt, adr, qf0_3]; rw [ek]; rw [es]; exact Or.inr (Or.inl ⟨⟨by omega, by omega, by omega, by omega, by omega, by omega, by omega, by omega⟩, Or.inr (Or.inr (Or.inr (Or.inr (by rcases h20p0 with q | q; omega; exact q.2)))), by decide, rfl⟩))⟩, h_ret g ht⟩, hS.F ht⟩) hS.2.2 dX11_giveTurn_116
          · have ic10 := (xi_nle c10 h_k (by decide) : 8 < k_t)
            refine lv_bipush (v := (-2)) hx hb dX11_giveTurn_37 (by decide) ?_
            have hS := g.2.1
            exact W.iret (v := (-2)) hx hb hr (fun t ht hW => ⟨⟨(-2), I0, rfl, ⟨hI, hF, (by rw [abk, atu, ahd, ash, abg, adt, adr, qf0_3]; exact Or.inl ⟨by omega, by decide, rfl⟩)⟩, h_ret g ht⟩, hS.F ht⟩) hS.2.2 dX11_giveTurn_39

