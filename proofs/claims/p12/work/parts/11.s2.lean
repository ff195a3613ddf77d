set_option maxHeartbeats 4000000 in
set_option maxRecDepth 100000 in
theorem tJ6_bitCount_0f7a4 (l : Launch) (E : tE) (X : tX) (A : Nat → Prop) (z : tZ) (I0 : tI) (L0 : tL) (x : Int32) (x_t : Int) (h_x : x.toInt = x_t) : Met l yJ6_bitCount_0f7a4 wsJ6_bitCount_0f7a4 ({ frames := 1, cells := 0, slots := 0, locals := 64 }) (va_Pc [.int x] (h_P E X A z I0 L0)) (vp_Si (fun r => True)) 0 0 (fun _ => False) := by
  refine Met.ofW (cc := cJ6_bitCount_0f7a4) (maxL := 1) (ret := (some .int)) (by decide) rfl ?_
  intro pr_ ev_ s m args below meth cd_ s₁ B hml hv
  obtain ⟨rfl, hE, hk, hX, hA, hK, hI, hR, hB0⟩ := hv
  have g : h_G h_so h_fk E A z I0 L0 s s.heap s.heap [] := ⟨hK, va_S.rf, hB0⟩
  have hx := B.exec
  have hb := B.bytes
  have hr := B.returns
  have hts := atoms_spec (ws := wsJ6_bitCount_0f7a4) B.pre
  have hown : s.vm.findClass RJ6 = some m.cls := findClass_of_methodNamed B.named
  have hlocks := B.notSynchronized
  have hl := lv_entry ([.int x]) (n := 1) (Nat.le_of_ble_eq_true rfl)
  rw [lg_entry_eq]
  generalize (lg_sl ([.int x]) ++ List.replicate (1 - (lg_sl ([.int x])).length) Slot.unset).toArray = ls at hl ⊢
  have hl : lv_has ls 1 [(0, .int x)] := hl
  have b_x : -2147483648 ≤ x_t ∧ x_t ≤ 2147483647 := h_x ▸ ⟨xi_lo x, Int.le_of_lt_add_one (xi_hi x)⟩
  refine lv_iload_n hx hb dJ6_bitCount_0f7a4_0 rfl (lv_at hl 0 rfl) ?_
  refine lv_iload_n hx hb dJ6_bitCount_0f7a4_1 rfl (lv_at hl 0 rfl) ?_
  refine lv_iconst (v := 1) hx hb dJ6_bitCount_0f7a4_2 (by decide) ?_
  refine lv_iushr hx hb dJ6_bitCount_0f7a4_3 rfl ?_
  refine lv_topi (fun v1 ev1 => ?_)
  have jv1 : -2147483648 ≤ v1.toInt ∧ v1.toInt ≤ 2147483647 := ⟨xi_lo _, Int.le_of_lt_add_one (xi_hi _)⟩
  refine lv_ldcw (v := 1431655765) hx hb hown (hts (.constant RJ6 265 (1431655765)) (by decide +kernel)) dJ6_bitCount_0f7a4_4 ?_
  refine lv_iand hx hb dJ6_bitCount_0f7a4_7 ?_
  refine lv_topi (fun v2 ev2 => ?_)
  have jv2 : -2147483648 ≤ v2.toInt ∧ v2.toInt ≤ 2147483647 := ⟨xi_lo _, Int.le_of_lt_add_one (xi_hi _)⟩
  refine lv_isub hx hb dJ6_bitCount_0f7a4_8 ?_
  refine lv_topi (fun v3 ev3 => ?_)
  have jv3 : -2147483648 ≤ v3.toInt ∧ v3.toInt ≤ 2147483647 := ⟨xi_lo _, Int.le_of_lt_add_one (xi_hi _)⟩
  refine lv_istore_n (lv' := [(0, .int v3)]) hx hb dJ6_bitCount_0f7a4_9 rfl hl (by decide) rfl (fun ls hl => ?_)
  refine lv_iload_n hx hb dJ6_bitCount_0f7a4_10 rfl (lv_at hl 0 rfl) ?_
  refine lv_ldcw (v := 858993459) hx hb hown (hts (.constant RJ6 266 (858993459)) (by decide +kernel)) dJ6_bitCount_0f7a4_11 ?_
  refine lv_iand hx hb dJ6_bitCount_0f7a4_14 ?_
  refine lv_topi (fun v4 ev4 => ?_)
  have jv4 : -2147483648 ≤ v4.toInt ∧ v4.toInt ≤ 2147483647 := ⟨xi_lo _, Int.le_of_lt_add_one (xi_hi _)⟩
  refine lv_iload_n hx hb dJ6_bitCount_0f7a4_15 rfl (lv_at hl 0 rfl) ?_
  refine lv_iconst (v := 2) hx hb dJ6_bitCount_0f7a4_16 (by decide) ?_
  refine lv_iushr hx hb dJ6_bitCount_0f7a4_17 rfl ?_
  refine lv_topi (fun v5 ev5 => ?_)
  have jv5 : -2147483648 ≤ v5.toInt ∧ v5.toInt ≤ 2147483647 := ⟨xi_lo _, Int.le_of_lt_add_one (xi_hi _)⟩
  refine lv_ldcw (v := 858993459) hx hb hown (hts (.constant RJ6 266 (858993459)) (by decide +kernel)) dJ6_bitCount_0f7a4_18 ?_
  refine lv_iand hx hb dJ6_bitCount_0f7a4_21 ?_
  refine lv_topi (fun v6 ev6 => ?_)
  have jv6 : -2147483648 ≤ v6.toInt ∧ v6.toInt ≤ 2147483647 := ⟨xi_lo _, Int.le_of_lt_add_one (xi_hi _)⟩
  refine lv_iadd hx hb dJ6_bitCount_0f7a4_22 ?_
  refine lv_topi (fun v7 ev7 => ?_)
  have jv7 : -2147483648 ≤ v7.toInt ∧ v7.toInt ≤ 2147483647 := ⟨xi_lo _, Int.le_of_lt_add_one (xi_hi _)⟩
  refine lv_istore_n (lv' := [(0, .int v7)]) hx hb dJ6_bitCount_0f7a4_23 rfl hl (by decide) rfl (fun ls hl => ?_)
  refine lv_iload_n hx hb dJ6_bitCount_0f7a4_24 rfl (lv_at hl 0 rfl) ?_
  refine lv_iload_n hx hb dJ6_bitCount_0f7a4_25 rfl (lv_at hl 0 rfl) ?_
  refine lv_iconst (v := 4) hx hb dJ6_bitCount_0f7a4_26 (by decide) ?_
  refine lv_iushr hx hb dJ6_bitCount_0f7a4_27 rfl ?_
  refine lv_topi (fun v8 ev8 => ?_)
  have jv8 : -2147483648 ≤ v8.toInt ∧ v8.toInt ≤ 2147483647 := ⟨xi_lo _, Int.le_of_lt_add_one (xi_hi _)⟩
  refine lv_iadd hx hb dJ6_bitCount_0f7a4_28 ?_
  refine lv_topi (fun v9 ev9 => ?_)
  have jv9 : -2147483648 ≤ v9.toInt ∧ v9.toInt ≤ 2147483647 := ⟨xi_lo _, Int.le_of_lt_add_one (xi_hi _)⟩
  refine lv_ldcw (v := 252645135) hx hb hown (hts (.constant RJ6 267 (252645135)) (by decide +kernel)) dJ6_bitCount_0f7a4_29 ?_
  refine lv_iand hx hb dJ6_bitCount_0f7a4_32 ?_
  refine lv_topi (fun v10 ev10 => ?_)
  have jv10 : -2147483648 ≤ v10.toInt ∧ v10.toInt ≤ 2147483647 := ⟨xi_lo _, Int.le_of_lt_add_one (xi_hi _)⟩
  refine lv_istore_n (lv' := [(0, .int v10)]) hx hb dJ6_bitCount_0f7a4_33 rfl hl (by decide) rfl (fun ls hl => ?_)
  refine lv_iload_n hx hb dJ6_bitCount_0f7a4_34 rfl (lv_at hl 0 rfl) ?_
  refine lv_iload_n hx hb dJ6_bitCount_0f7a4_35 rfl (lv_at hl 0 rfl) ?_
  refine lv_bipush (v := 8) hx hb dJ6_bitCount_0f7a4_36 (by decide) ?_
  refine lv_iushr hx hb dJ6_bitCount_0f7a4_38 rfl ?_
  refine lv_topi (fun v11 ev11 => ?_)
  have jv11 : -2147483648 ≤ v11.toInt ∧ v11.toInt ≤ 2147483647 := ⟨xi_lo _, Int.le_of_lt_add_one (xi_hi _)⟩
  refine lv_iadd hx hb dJ6_bitCount_0f7a4_39 ?_
  refine lv_topi (fun v12 ev12 => ?_)
  have jv12 : -2147483648 ≤ v12.toInt ∧ v12.toInt ≤ 2147483647 := ⟨xi_lo _, Int.le_of_lt_add_one (xi_hi _)⟩
  refine lv_istore_n (lv' := [(0, .int v12)]) hx hb dJ6_bitCount_0f7a4_40 rfl hl (by decide) rfl (fun ls hl => ?_)
  refine lv_iload_n hx hb dJ6_bitCount_0f7a4_41 rfl (lv_at hl 0 rfl) ?_
  refine lv_iload_n hx hb dJ6_bitCount_0f7a4_42 rfl (lv_at hl 0 rfl) ?_
  refine lv_bipush (v := 16) hx hb dJ6_bitCount_0f7a4_43 (by decide) ?_
  refine lv_iushr hx hb dJ6_bitCount_0f7a4_45 rfl ?_
  refine lv_topi (fun v13 ev13 => ?_)
  have jv13 : -2147483648 ≤ v13.toInt ∧ v13.toInt ≤ 2147483647 := ⟨xi_lo _, Int.le_of_lt_add_one (xi_hi _)⟩
  refine lv_iadd hx hb dJ6_bitCount_0f7a4_46 ?_
  refine lv_topi (fun v14 ev14 => ?_)
  have jv14 : -2147483648 ≤ v14.toInt ∧ v14.toInt ≤ 2147483647 := ⟨xi_lo _, Int.le_of_lt_add_one (xi_hi _)⟩
  refine lv_istore_n (lv' := [(0, .int v14)]) hx hb dJ6_bitCount_0f7a4_47 rfl hl (by decide) rfl (fun ls hl => ?_)
  refine lv_iload_n hx hb dJ6_bitCount_0f7a4_48 rfl (lv_at hl 0 rfl) ?_
  refine lv_bipush (v := 63) hx hb dJ6_bitCount_0f7a4_49 (by decide) ?_
  refine lv_iand hx hb dJ6_bitCount_0f7a4_51 ?_
  refine lv_topi (fun v15 ev15 => ?_)
  have jv15 : 0 ≤ v15.toInt ∧ v15.toInt ≤ 63 := h_andn 63 (by decide) ev15
  exact W.iret (v := v15) hx hb hr (fun t ht hW => ⟨v15, rfl, trivial, ht⟩) (fun _ h => by cases h) dJ6_bitCount_0f7a4_52
set_option maxHeartbeats 4000000 in
set_option maxRecDepth 100000 in
theorem tX5_put (l : Launch) (E : tE) (X : tX) (A : Nat → Prop) (z : tZ) (I0 : tI) (L0 : tL) (a0 : Nat) (t_a0 : z.ty a0 = 6) (x : Int32) (x_t : Int) (h_x : x.toInt = x_t) (y : Int32) (y_t : Int) (h_y : y.toInt = y_t) : Met l yX5_put wsX5_put ({ frames := 1, cells := 0, slots := 0, locals := 64 }) (va_Pc [.ref a0, .int x, .int y] (h_P E X A z I0 L0)) (va_Qv (fun (I1 : tI) => h_I z I1 ∧ h_F [(600, 999)] z I0 I1 ∧ True) (fun (I1 : tI) t => h_B E A z I1 L0 t) A) 0 0 A := by
  refine Met.ofW (cc := cX5_put) (maxL := 3) (ret := none) (by decide) rfl ?_
  intro pr_ ev_ s m args below meth cd_ s₁ B hml hv
  obtain ⟨rfl, hE, hk, hX, hA, hK, hI, hR, hB0⟩ := hv
  have g : h_G h_so h_fk E A z I0 L0 s s.heap s.heap [] := ⟨hK, va_S.rf, hB0⟩
  have hF : h_F [(600, 999)] z I0 I0 := h_F.rf
  have hx := B.exec
  have hb := B.bytes
  have hr := B.returns
  have hts := atoms_spec (ws := wsX5_put) B.pre
  have hown : s.vm.findClass RX5 = some m.cls := findClass_of_methodNamed B.named
  have hlocks := B.notSynchronized
  have iX5 : ∀ w ∈ u_ws RX5 TX5 3, w ∈ wsX5_put := by decide +kernel
  have hl := lv_entry ([.ref a0, .int x, .int y]) (n := 3) (Nat.le_of_ble_eq_true rfl)
  rw [lg_entry_eq]
  generalize (lg_sl ([.ref a0, .int x, .int y]) ++ List.replicate (3 - (lg_sl ([.ref a0, .int x, .int y])).length) Slot.unset).toArray = ls at hl ⊢
  have hl : lv_has ls 3 [(0, .ref a0), (1, .int x), (2, .int y)] := hl
  have b_x : -2147483648 ≤ x_t ∧ x_t ≤ 2147483647 := h_x ▸ ⟨xi_lo x, Int.le_of_lt_add_one (xi_hi x)⟩
  have b_y : -2147483648 ≤ y_t ∧ y_t ≤ 2147483647 := h_y ▸ ⟨xi_lo y, Int.le_of_lt_add_one (xi_hi y)⟩
  refine lv_iload_n hx hb dX5_put_0 rfl (lv_at hl 1 rfl) ?_
  refine lv_if_lt (tgt := 17) hx hb dX5_put_1 (by decide) (fun c1 => ?_) (fun c1 => ?_)
  · have ic1 := (xi_lt c1 h_x (by decide) : x_t < 0)
    have hS := g.2.1
    exact W.vret hx hb hr (fun t ht hW => ⟨⟨I0, rfl, ⟨hI, hF, trivial⟩, h_ret g ht⟩, hS.F ht⟩) hS.2.2 dX5_put_17
  · have ic1 := (xi_nlt c1 h_x (by decide) : 0 ≤ x_t)
    refine lv_iload_n hx hb dX5_put_4 rfl (lv_at hl 1 rfl) ?_
    refine lv_bipush (v := 8) hx hb dX5_put_5 (by decide) ?_
    refine lv_icmp_ge (tgt := 17) hx hb dX5_put_7 (by decide) (fun c2 => ?_) (fun c2 => ?_)
    · have ic2 := (xi_le c2 (by decide) h_x : 8 ≤ x_t)
      have hS := g.2.1
      exact W.vret hx hb hr (fun t ht hW => ⟨⟨I0, rfl, ⟨hI, hF, trivial⟩, h_ret g ht⟩, hS.F ht⟩) hS.2.2 dX5_put_17
    · have ic2 := (xi_nle c2 (by decide) h_x : x_t < 8)
      refine lv_aload_n hx hb dX5_put_10 rfl (lv_at hl 0 rfl) ?_
      obtain ⟨b3, rb3, tb3⟩ := hR.at a0 0 t_a0 (rfl : h_rs 6 0 = some (600, false)) (by decide)
      refine h_get (v := .ref b3) hx hb hts iX5 hown g t_a0 (by decide) so_6 rfl 0 (by decide) (hts (.fieldLink RX5 9 "CapLeague$Laws" "numbers" "[I") (by decide +kernel)) rfl dX5_put_11 (by show va_rf (z.R a0 0) = _; rw [rb3]; rfl) ?_
      refine lv_iload_n hx hb dX5_put_14 rfl (lv_at hl 1 rfl) ?_
      refine lv_iload_n hx hb dX5_put_15 rfl (lv_at hl 2 rfl) ?_
      refine h_ast hx hb g tb3 (by decide) so_600 (xi_in (by rw [h_x]; omega) (by rw [h_x]; omega)) dX5_put_16 (fun I4 H locs eI4 g => ?_)
      have hI := hI.wr eI4 tb3 (rfl : h_bd 600 _ = ((-2147483648), 2147483647)) (xi_lo _) (Int.le_of_lt_add_one (xi_hi _))
      have hF := hF.wr eI4 tb3 rfl
      have hS := g.2.1
      exact W.vret hx hb hr (fun t ht hW => ⟨⟨I4, rfl, ⟨hI, hF, trivial⟩, h_ret g ht⟩, hS.F ht⟩) hS.2.2 dX5_put_17
set_option maxHeartbeats 4000000 in
set_option maxRecDepth 100000 in
theorem tX5_putLot (l : Launch) (E : tE) (X : tX) (A : Nat → Prop) (z : tZ) (I0 : tI) (L0 : tL) (a0 : Nat) (t_a0 : z.ty a0 = 6) (x : Int32) (x_t : Int) (h_x : x.toInt = x_t) (y : Int32) (y_t : Int) (h_y : y.toInt = y_t) : Met l yX5_putLot wsX5_putLot ({ frames := 1, cells := 0, slots := 0, locals := 64 }) (va_Pc [.ref a0, .int x, .int y] (h_P E X A z I0 L0)) (va_Qv (fun (I1 : tI) => h_I z I1 ∧ h_F [(601, 999), (6, 2)] z I0 I1 ∧ True) (fun (I1 : tI) t => h_B E A z I1 L0 t) A) 0 0 A := by
  refine Met.ofW (cc := cX5_putLot) (maxL := 3) (ret := none) (by decide) rfl ?_
  intro pr_ ev_ s m args below meth cd_ s₁ B hml hv
  obtain ⟨rfl, hE, hk, hX, hA, hK, hI, hR, hB0⟩ := hv
  have g : h_G h_so h_fk E A z I0 L0 s s.heap s.heap [] := ⟨hK, va_S.rf, hB0⟩
  have hF : h_F [(601, 999), (6, 2)] z I0 I0 := h_F.rf
  have hx := B.exec
  have hb := B.bytes
  have hr := B.returns
  have hts := atoms_spec (ws := wsX5_putLot) B.pre
  have hown : s.vm.findClass RX5 = some m.cls := findClass_of_methodNamed B.named
  have hlocks := B.notSynchronized
  have iX5 : ∀ w ∈ u_ws RX5 TX5 3, w ∈ wsX5_putLot := by decide +kernel
  have hl := lv_entry ([.ref a0, .int x, .int y]) (n := 3) (Nat.le_of_ble_eq_true rfl)
  rw [lg_entry_eq]
  generalize (lg_sl ([.ref a0, .int x, .int y]) ++ List.replicate (3 - (lg_sl ([.ref a0, .int x, .int y])).length) Slot.unset).toArray = ls at hl ⊢
  have hl : lv_has ls 3 [(0, .ref a0), (1, .int x), (2, .int y)] := hl
  have b_x : -2147483648 ≤ x_t ∧ x_t ≤ 2147483647 := h_x ▸ ⟨xi_lo x, Int.le_of_lt_add_one (xi_hi x)⟩
  have b_y : -2147483648 ≤ y_t ∧ y_t ≤ 2147483647 := h_y ▸ ⟨xi_lo y, Int.le_of_lt_add_one (xi_hi y)⟩
  refine lv_iload_n hx hb dX5_putLot_0 rfl (lv_at hl 1 rfl) ?_
  refine lv_if_lt (tgt := 24) hx hb dX5_putLot_1 (by decide) (fun c1 => ?_) (fun c1 => ?_)
  · have ic1 := (xi_lt c1 h_x (by decide) : x_t < 0)
    have hS := g.2.1
    exact W.vret hx hb hr (fun t ht hW => ⟨⟨I0, rfl, ⟨hI, hF, trivial⟩, h_ret g ht⟩, hS.F ht⟩) hS.2.2 dX5_putLot_24
  · have ic1 := (xi_nlt c1 h_x (by decide) : 0 ≤ x_t)
    refine lv_iload_n hx hb dX5_putLot_4 rfl (lv_at hl 1 rfl) ?_
    refine lv_bipush (v := 6) hx hb dX5_putLot_5 (by decide) ?_
    refine lv_icmp_ge (tgt := 24) hx hb dX5_putLot_7 (by decide) (fun c2 => ?_) (fun c2 => ?_)
    · have ic2 := (xi_le c2 (by decide) h_x : 6 ≤ x_t)
      have hS := g.2.1
      exact W.vret hx hb hr (fun t ht hW => ⟨⟨I0, rfl, ⟨hI, hF, trivial⟩, h_ret g ht⟩, hS.F ht⟩) hS.2.2 dX5_putLot_24
    · have ic2 := (xi_nle c2 (by decide) h_x : x_t < 6)
      refine lv_aload_n hx hb dX5_putLot_10 rfl (lv_at hl 0 rfl) ?_
      obtain ⟨b3, rb3, tb3⟩ := hR.at a0 1 t_a0 (rfl : h_rs 6 1 = some (601, false)) (by decide)
      refine h_get (v := .ref b3) hx hb hts iX5 hown g t_a0 (by decide) so_6 rfl 1 (by decide) (hts (.fieldLink RX5 15 "CapLeague$Laws" "lots" "[I") (by decide +kernel)) rfl dX5_putLot_11 (by show va_rf (z.R a0 1) = _; rw [rb3]; rfl) ?_
      refine lv_iload_n hx hb dX5_putLot_14 rfl (lv_at hl 1 rfl) ?_
      refine lv_iload_n hx hb dX5_putLot_15 rfl (lv_at hl 2 rfl) ?_
      refine h_ast hx hb g tb3 (by decide) so_601 (xi_in (by rw [h_x]; omega) (by rw [h_x]; omega)) dX5_putLot_16 (fun I4 H locs eI4 g => ?_)
      have hI := hI.wr eI4 tb3 (rfl : h_bd 601 _ = ((-2147483648), 2147483647)) (xi_lo _) (Int.le_of_lt_add_one (xi_hi _))
      have hF := hF.wr eI4 tb3 rfl
      refine lv_aload_n hx hb dX5_putLot_17 rfl (lv_at hl 0 rfl) ?_
      refine lv_iload_n hx hb dX5_putLot_18 rfl (lv_at hl 1 rfl) ?_
      refine lv_iconst (v := 1) hx hb dX5_putLot_19 (by decide) ?_
      refine lv_iadd hx hb dX5_putLot_20 ?_
      refine lv_topi (fun v5 ev5 => ?_)
      have jv5 : v5.toInt = x_t + 1 := xi_add ev5 h_x (by decide) (by omega) (by omega)
      refine h_putI (ty := .int) (v := v5) hx hb hts iX5 tyX5 tyX5_ok nmX5 hown g t_a0 (by decide) so_6 rfl 2 (by decide) rfl (hts (.fieldLink RX5 30 "CapLeague$Laws" "lotCount" "I") (by decide +kernel)) rfl rfl (by decide +kernel) rfl rfl dX5_putLot_21 (fun I6 H locs eI6 g => ?_)
      have hI := hI.wr eI6 t_a0 (rfl : h_bd 6 2 = (0, 6)) (by omega) (by omega)
      have hF := hF.wr eI6 t_a0 rfl
      have hS := g.2.1
      exact W.vret hx hb hr (fun t ht hW => ⟨⟨I6, rfl, ⟨hI, hF, trivial⟩, h_ret g ht⟩, hS.F ht⟩) hS.2.2 dX5_putLot_24
set_option maxHeartbeats 4000000 in
set_option maxRecDepth 100000 in
theorem tX5_number (l : Launch) (E : tE) (X : tX) (A : Nat → Prop) (z : tZ) (I0 : tI) (L0 : tL) (a0 : Nat) (t_a0 : z.ty a0 = 6) (x : Int32) (x_t : Int) (h_x : x.toInt = x_t) : Met l yX5_number wsX5_number ({ frames := 1, cells := 0, slots := 0, locals := 64 }) (va_Pc [.ref a0, .int x] (h_P E X A z I0 L0)) (vp_Si (fun r => True)) 0 0 (fun _ => False) := by
  refine Met.ofW (cc := cX5_number) (maxL := 2) (ret := (some .int)) (by decide) rfl ?_
  intro pr_ ev_ s m args below meth cd_ s₁ B hml hv
  obtain ⟨rfl, hE, hk, hX, hA, hK, hI, hR, hB0⟩ := hv
  have g : h_G h_so h_fk E A z I0 L0 s s.heap s.heap [] := ⟨hK, va_S.rf, hB0⟩
  have hx := B.exec
  have hb := B.bytes
  have hr := B.returns
  have hts := atoms_spec (ws := wsX5_number) B.pre
  have hown : s.vm.findClass RX5 = some m.cls := findClass_of_methodNamed B.named
  have hlocks := B.notSynchronized
  have iX5 : ∀ w ∈ u_ws RX5 TX5 3, w ∈ wsX5_number := by decide +kernel
  have hl := lv_entry ([.ref a0, .int x]) (n := 2) (Nat.le_of_ble_eq_true rfl)
  rw [lg_entry_eq]
  generalize (lg_sl ([.ref a0, .int x]) ++ List.replicate (2 - (lg_sl ([.ref a0, .int x])).length) Slot.unset).toArray = ls at hl ⊢
  have hl : lv_has ls 2 [(0, .ref a0), (1, .int x)] := hl
  have b_x : -2147483648 ≤ x_t ∧ x_t ≤ 2147483647 := h_x ▸ ⟨xi_lo x, Int.le_of_lt_add_one (xi_hi x)⟩
  refine lv_iload_n hx hb dX5_number_0 rfl (lv_at hl 1 rfl) ?_
  refine lv_if_lt (tgt := 17) hx hb dX5_number_1 (by decide) (fun c1 => ?_) (fun c1 => ?_)
  · have ic1 := (xi_lt c1 h_x (by decide) : x_t < 0)
    refine lv_iload_n hx hb dX5_number_17 rfl (lv_at hl 1 rfl) ?_
    refine lv_bipush (v := 8) hx hb dX5_number_18 (by decide) ?_
    refine lv_icmp_ne (tgt := 28) hx hb dX5_number_20 (by decide) (fun c2 => ?_) (fun h => absurd (xi_eq h h_x (by decide) : x_t = 8) (by omega))
    have ic2 := (xi_ne c2 h_x (by decide) : x_t ≠ 8)
    refine lv_iload_n hx hb dX5_number_28 rfl (lv_at hl 1 rfl) ?_
    refine lv_bipush (v := 10) hx hb dX5_number_29 (by decide) ?_
    refine lv_icmp_lt (tgt := 57) hx hb dX5_number_31 (by decide) (fun c3 => ?_) (fun h => absurd (xi_nlt h h_x (by decide) : 10 ≤ x_t) (by omega))
    have ic3 := (xi_lt c3 h_x (by decide) : x_t < 10)
    refine lv_bipush (v := (-9)) hx hb dX5_number_57 (by decide) ?_
    exact W.iret (v := (-9)) hx hb hr (fun t ht hW => ⟨(-9), rfl, trivial, ht⟩) (fun _ h => by cases h) dX5_number_59
  · have ic1 := (xi_nlt c1 h_x (by decide) : 0 ≤ x_t)
    refine lv_iload_n hx hb dX5_number_4 rfl (lv_at hl 1 rfl) ?_
    refine lv_bipush (v := 8) hx hb dX5_number_5 (by decide) ?_
    refine lv_icmp_ge (tgt := 17) hx hb dX5_number_7 (by decide) (fun c4 => ?_) (fun c4 => ?_)
    · have ic4 := (xi_le c4 (by decide) h_x : 8 ≤ x_t)
      refine lv_iload_n hx hb dX5_number_17 rfl (lv_at hl 1 rfl) ?_
      refine lv_bipush (v := 8) hx hb dX5_number_18 (by decide) ?_
      refine lv_icmp_ne (tgt := 28) hx hb dX5_number_20 (by decide) (fun c5 => ?_) (fun c5 => ?_)
      · have ic5 := (xi_ne c5 h_x (by decide) : x_t ≠ 8)
        refine lv_iload_n hx hb dX5_number_28 rfl (lv_at hl 1 rfl) ?_
        refine lv_bipush (v := 10) hx hb dX5_number_29 (by decide) ?_
        refine lv_icmp_lt (tgt := 57) hx hb dX5_number_31 (by decide) (fun c6 => ?_) (fun c6 => ?_)
        · have ic6 := (xi_lt c6 h_x (by decide) : x_t < 10)
          refine lv_bipush (v := (-9)) hx hb dX5_number_57 (by decide) ?_
          exact W.iret (v := (-9)) hx hb hr (fun t ht hW => ⟨(-9), rfl, trivial, ht⟩) (fun _ h => by cases h) dX5_number_59
        · have ic6 := (xi_nlt c6 h_x (by decide) : 10 ≤ x_t)
          refine lv_iload_n hx hb dX5_number_34 rfl (lv_at hl 1 rfl) ?_
          refine lv_bipush (v := 10) hx hb dX5_number_35 (by decide) ?_
          refine lv_isub hx hb dX5_number_37 ?_
          refine lv_topi (fun v7 ev7 => ?_)
          have jv7 : v7.toInt = x_t - 10 := xi_sub ev7 h_x (by decide) (by omega) (by omega)
          refine lv_aload_n hx hb dX5_number_38 rfl (lv_at hl 0 rfl) ?_
          refine h_get (v := .int (I0 a0 2)) hx hb hts iX5 hown g t_a0 (by decide) so_6 rfl 2 (by decide) (hts (.fieldLink RX5 30 "CapLeague$Laws" "lotCount" "I") (by decide +kernel)) rfl dX5_number_39 rfl ?_
          refine lv_topi (fun v8 ev8 => ?_)
          have jv8 := hI.rd a0 2 t_a0 ev8 (rfl : h_bd 6 2 = (0, 6))
          refine lv_icmp_ge (tgt := 57) hx hb dX5_number_42 (by decide) (fun c9 => ?_) (fun c9 => ?_)
          · have ic9 := (xi_le c9 rfl rfl : v8.toInt ≤ v7.toInt)
            refine lv_bipush (v := (-9)) hx hb dX5_number_57 (by decide) ?_
            exact W.iret (v := (-9)) hx hb hr (fun t ht hW => ⟨(-9), rfl, trivial, ht⟩) (fun _ h => by cases h) dX5_number_59
          · have ic9 := (xi_nle c9 rfl rfl : v7.toInt < v8.toInt)
            refine lv_aload_n hx hb dX5_number_45 rfl (lv_at hl 0 rfl) ?_
            obtain ⟨b10, rb10, tb10⟩ := hR.at a0 1 t_a0 (rfl : h_rs 6 1 = some (601, false)) (by decide)
            refine h_get (v := .ref b10) hx hb hts iX5 hown g t_a0 (by decide) so_6 rfl 1 (by decide) (hts (.fieldLink RX5 15 "CapLeague$Laws" "lots" "[I") (by decide +kernel)) rfl dX5_number_46 (by show va_rf (z.R a0 1) = _; rw [rb10]; rfl) ?_
            refine lv_iload_n hx hb dX5_number_49 rfl (lv_at hl 1 rfl) ?_
            refine lv_bipush (v := 10) hx hb dX5_number_50 (by decide) ?_
            refine lv_isub hx hb dX5_number_52 ?_
            refine xw_i (v := v7) ev7.symm ?_
            refine h_ald hx hb g tb10 (by decide) so_601 (xi_in (by omega) (by omega)) dX5_number_53 ?_
            refine lv_topi (fun v11 ev11 => ?_)
            have jv11 := hI.rd b10 v7.toNatClampNeg tb10 ev11 (rfl : h_bd 601 _ = ((-2147483648), 2147483647))
            refine lv_goto (tgt := 59) hx hb dX5_number_54 (by decide) ?_
            exact W.iret (v := v11) hx hb hr (fun t ht hW => ⟨v11, rfl, trivial, ht⟩) (fun _ h => by cases h) dX5_number_59
      · have ic5 := (xi_eq c5 h_x (by decide) : x_t = 8)
        refine lv_aload_n hx hb dX5_number_23 rfl (lv_at hl 0 rfl) ?_
        refine h_get (v := .int (I0 a0 2)) hx hb hts iX5 hown g t_a0 (by decide) so_6 rfl 2 (by decide) (hts (.fieldLink RX5 30 "CapLeague$Laws" "lotCount" "I") (by decide +kernel)) rfl dX5_number_24 rfl ?_
        refine lv_topi (fun v12 ev12 => ?_)
        have jv12 := hI.rd a0 2 t_a0 ev12 (rfl : h_bd 6 2 = (0, 6))
        exact W.iret (v := v12) hx hb hr (fun t ht hW => ⟨v12, rfl, trivial, ht⟩) (fun _ h => by cases h) dX5_number_27
    · have ic4 := (xi_nle c4 (by decide) h_x : x_t < 8)
      refine lv_aload_n hx hb dX5_number_10 rfl (lv_at hl 0 rfl) ?_
      obtain ⟨b13, rb13, tb13⟩ := hR.at a0 0 t_a0 (rfl : h_rs 6 0 = some (600, false)) (by decide)
      refine h_get (v := .ref b13) hx hb hts iX5 hown g t_a0 (by decide) so_6 rfl 0 (by decide) (hts (.fieldLink RX5 9 "CapLeague$Laws" "numbers" "[I") (by decide +kernel)) rfl dX5_number_11 (by show va_rf (z.R a0 0) = _; rw [rb13]; rfl) ?_
      refine lv_iload_n hx hb dX5_number_14 rfl (lv_at hl 1 rfl) ?_
      refine h_ald hx hb g tb13 (by decide) so_600 (xi_in (by rw [h_x]; omega) (by rw [h_x]; omega)) dX5_number_15 ?_
      refine lv_topi (fun v14 ev14 => ?_)
      have jv14 := hI.rd b13 x.toNatClampNeg tb13 ev14 (rfl : h_bd 600 _ = ((-2147483648), 2147483647))
      exact W.iret (v := v14) hx hb hr (fun t ht hW => ⟨v14, rfl, trivial, ht⟩) (fun _ h => by cases h) dX5_number_16
set_option maxHeartbeats 4000000 in
set_option maxRecDepth 100000 in
theorem tX5_lotClubs (l : Launch) (E : tE) (X : tX) (A : Nat → Prop) (z : tZ) (I0 : tI) (L0 : tL) (a0 : Nat) (t_a0 : z.ty a0 = 6) : Met l yX5_lotClubs wsX5_lotClubs ({ frames := 1, cells := 0, slots := 0, locals := 64 }) (va_Pc [.ref a0] (h_P E X A z I0 L0)) (vp_Si (fun r => (0 ≤ r.toInt ∧ r.toInt ≤ 6))) 0 0 (fun _ => False) := by
  refine Met.ofW (cc := cX5_lotClubs) (maxL := 1) (ret := (some .int)) (by decide) rfl ?_
  intro pr_ ev_ s m args below meth cd_ s₁ B hml hv
  obtain ⟨rfl, hE, hk, hX, hA, hK, hI, hR, hB0⟩ := hv
  have g : h_G h_so h_fk E A z I0 L0 s s.heap s.heap [] := ⟨hK, va_S.rf, hB0⟩
  have hx := B.exec
  have hb := B.bytes
  have hr := B.returns
  have hts := atoms_spec (ws := wsX5_lotClubs) B.pre
  have hown : s.vm.findClass RX5 = some m.cls := findClass_of_methodNamed B.named
  have hlocks := B.notSynchronized
  have iX5 : ∀ w ∈ u_ws RX5 TX5 3, w ∈ wsX5_lotClubs := by decide +kernel
  have hl := lv_entry ([.ref a0]) (n := 1) (Nat.le_of_ble_eq_true rfl)
  rw [lg_entry_eq]
  generalize (lg_sl ([.ref a0]) ++ List.replicate (1 - (lg_sl ([.ref a0])).length) Slot.unset).toArray = ls at hl ⊢
  have hl : lv_has ls 1 [(0, .ref a0)] := hl
  refine lv_aload_n hx hb dX5_lotClubs_0 rfl (lv_at hl 0 rfl) ?_
  refine h_get (v := .int (I0 a0 2)) hx hb hts iX5 hown g t_a0 (by decide) so_6 rfl 2 (by decide) (hts (.fieldLink RX5 30 "CapLeague$Laws" "lotCount" "I") (by decide +kernel)) rfl dX5_lotClubs_1 rfl ?_
  refine lv_topi (fun v1 ev1 => ?_)
  have jv1 := hI.rd a0 2 t_a0 ev1 (rfl : h_bd 6 2 = (0, 6))
  refine lv_iconst (v := 2) hx hb dX5_lotClubs_4 (by decide) ?_
  refine lv_icmp_lt (tgt := 15) hx hb dX5_lotClubs_5 (by decide) (fun c2 => ?_) (fun c2 => ?_)
  · have ic2 := (xi_lt c2 rfl (by decide) : v1.toInt < 2)
    refine lv_iconst (v := 0) hx hb dX5_lotClubs_15 (by decide) ?_
    exact W.iret (v := 0) hx hb hr (fun t ht hW => ⟨0, rfl, ⟨(by decide), (by decide)⟩, ht⟩) (fun _ h => by cases h) dX5_lotClubs_16
  · have ic2 := (xi_nlt c2 rfl (by decide) : 2 ≤ v1.toInt)
    refine lv_aload_n hx hb dX5_lotClubs_8 rfl (lv_at hl 0 rfl) ?_
    refine h_get (v := .int v1) hx hb hts iX5 hown g t_a0 (by decide) so_6 rfl 2 (by decide) (hts (.fieldLink RX5 30 "CapLeague$Laws" "lotCount" "I") (by decide +kernel)) rfl dX5_lotClubs_9 (congrArg Value.int (ev1.symm)) ?_
    refine lv_goto (tgt := 16) hx hb dX5_lotClubs_12 (by decide) ?_
    exact W.iret (v := v1) hx hb hr (fun t ht hW => ⟨v1, rfl, ⟨(by omega), (by omega)⟩, ht⟩) (fun _ h => by cases h) dX5_lotClubs_16
set_option maxHeartbeats 4000000 in
set_option maxRecDepth 100000 in
theorem tX5_weight (l : Launch) (E : tE) (X : tX) (A : Nat → Prop) (z : tZ) (I0 : tI) (L0 : tL) (a0 : Nat) (t_a0 : z.ty a0 = 6) (x : Int32) (x_t : Int) (h_x : x.toInt = x_t) : Met l yX5_weight wsX5_weight ({ frames := 1, cells := 0, slots := 0, locals := 64 }) (va_Pc [.ref a0, .int x] (h_P E X A z I0 L0)) (vp_Si (fun r => True)) 0 0 (fun _ => False) := by
  refine Met.ofW (cc := cX5_weight) (maxL := 2) (ret := (some .int)) (by decide) rfl ?_
  intro pr_ ev_ s m args below meth cd_ s₁ B hml hv
  obtain ⟨rfl, hE, hk, hX, hA, hK, hI, hR, hB0⟩ := hv
  have g : h_G h_so h_fk E A z I0 L0 s s.heap s.heap [] := ⟨hK, va_S.rf, hB0⟩
  have hx := B.exec
  have hb := B.bytes
  have hr := B.returns
  have hts := atoms_spec (ws := wsX5_weight) B.pre
  have hown : s.vm.findClass RX5 = some m.cls := findClass_of_methodNamed B.named
  have hlocks := B.notSynchronized
  have iX5 : ∀ w ∈ u_ws RX5 TX5 3, w ∈ wsX5_weight := by decide +kernel
  have hl := lv_entry ([.ref a0, .int x]) (n := 2) (Nat.le_of_ble_eq_true rfl)
  rw [lg_entry_eq]
  generalize (lg_sl ([.ref a0, .int x]) ++ List.replicate (2 - (lg_sl ([.ref a0, .int x])).length) Slot.unset).toArray = ls at hl ⊢
  have hl : lv_has ls 2 [(0, .ref a0), (1, .int x)] := hl
  have b_x : -2147483648 ≤ x_t ∧ x_t ≤ 2147483647 := h_x ▸ ⟨xi_lo x, Int.le_of_lt_add_one (xi_hi x)⟩
  refine lv_iload_n hx hb dX5_weight_0 rfl (lv_at hl 1 rfl) ?_
  refine lv_if_lt (tgt := 21) hx hb dX5_weight_1 (by decide) (fun c1 => ?_) (fun c1 => ?_)
  · have ic1 := (xi_lt c1 h_x (by decide) : x_t < 0)
    refine lv_iconst (v := 0) hx hb dX5_weight_21 (by decide) ?_
    exact W.iret (v := 0) hx hb hr (fun t ht hW => ⟨0, rfl, trivial, ht⟩) (fun _ h => by cases h) dX5_weight_22
  · have ic1 := (xi_nlt c1 h_x (by decide) : 0 ≤ x_t)
    refine lv_iload_n hx hb dX5_weight_4 rfl (lv_at hl 1 rfl) ?_
    refine lv_aload_n hx hb dX5_weight_5 rfl (lv_at hl 0 rfl) ?_
    refine h_get (v := .int (I0 a0 2)) hx hb hts iX5 hown g t_a0 (by decide) so_6 rfl 2 (by decide) (hts (.fieldLink RX5 30 "CapLeague$Laws" "lotCount" "I") (by decide +kernel)) rfl dX5_weight_6 rfl ?_
    refine lv_topi (fun v2 ev2 => ?_)
    have jv2 := hI.rd a0 2 t_a0 ev2 (rfl : h_bd 6 2 = (0, 6))
    refine lv_icmp_ge (tgt := 21) hx hb dX5_weight_9 (by decide) (fun c3 => ?_) (fun c3 => ?_)
    · have ic3 := (xi_le c3 rfl h_x : v2.toInt ≤ x_t)
      refine lv_iconst (v := 0) hx hb dX5_weight_21 (by decide) ?_
      exact W.iret (v := 0) hx hb hr (fun t ht hW => ⟨0, rfl, trivial, ht⟩) (fun _ h => by cases h) dX5_weight_22
    · have ic3 := (xi_nle c3 rfl h_x : x_t < v2.toInt)
      refine lv_aload_n hx hb dX5_weight_12 rfl (lv_at hl 0 rfl) ?_
      obtain ⟨b4, rb4, tb4⟩ := hR.at a0 1 t_a0 (rfl : h_rs 6 1 = some (601, false)) (by decide)
      refine h_get (v := .ref b4) hx hb hts iX5 hown g t_a0 (by decide) so_6 rfl 1 (by decide) (hts (.fieldLink RX5 15 "CapLeague$Laws" "lots" "[I") (by decide +kernel)) rfl dX5_weight_13 (by show va_rf (z.R a0 1) = _; rw [rb4]; rfl) ?_
      refine lv_iload_n hx hb dX5_weight_16 rfl (lv_at hl 1 rfl) ?_
      refine h_ald hx hb g tb4 (by decide) so_601 (xi_in (by rw [h_x]; omega) (by rw [h_x]; omega)) dX5_weight_17 ?_
      refine lv_topi (fun v5 ev5 => ?_)
      have jv5 := hI.rd b4 x.toNatClampNeg tb4 ev5 (rfl : h_bd 601 _ = ((-2147483648), 2147483647))
      refine lv_goto (tgt := 22) hx hb dX5_weight_18 (by decide) ?_
      exact W.iret (v := v5) hx hb hr (fun t ht hW => ⟨v5, rfl, trivial, ht⟩) (fun _ h => by cases h) dX5_weight_22
set_option maxHeartbeats 4000000 in
set_option maxRecDepth 100000 in
theorem tX5_weightSum (l : Launch) (E : tE) (X : tX) (A : Nat → Prop) (z : tZ) (I0 : tI) (L0 : tL) (a0 : Nat) (t_a0 : z.ty a0 = 6) : Met l yX5_weightSum wsX5_weightSum ({ frames := 1, cells := 0, slots := 0, locals := 64 }) (va_Pc [.ref a0] (h_P E X A z I0 L0)) (vp_Si (fun r => True)) 0 0 (fun _ => False) := by
  refine Met.ofW (cc := cX5_weightSum) (maxL := 3) (ret := (some .int)) (by decide) rfl ?_
  intro pr_ ev_ s m args below meth cd_ s₁ B hml hv
  obtain ⟨rfl, hE, hk, hX, hA, hK, hI, hR, hB0⟩ := hv
  have g : h_G h_so h_fk E A z I0 L0 s s.heap s.heap [] := ⟨hK, va_S.rf, hB0⟩
  have hx := B.exec
  have hb := B.bytes
  have hr := B.returns
  have hts := atoms_spec (ws := wsX5_weightSum) B.pre
  have hown : s.vm.findClass RX5 = some m.cls := findClass_of_methodNamed B.named
  have hlocks := B.notSynchronized
  have iX5 : ∀ w ∈ u_ws RX5 TX5 3, w ∈ wsX5_weightSum := by decide +kernel
  have hl := lv_entry ([.ref a0]) (n := 3) (Nat.le_of_ble_eq_true rfl)
  rw [lg_entry_eq]
  generalize (lg_sl ([.ref a0]) ++ List.replicate (3 - (lg_sl ([.ref a0])).length) Slot.unset).toArray = ls at hl ⊢
  have hl : lv_has ls 3 [(0, .ref a0)] := hl
  refine lv_iconst (v := 0) hx hb dX5_weightSum_0 (by decide) ?_
  refine lv_istore_n (lv' := [(1, .int 0), (0, .ref a0)]) hx hb dX5_weightSum_1 rfl hl (by decide) rfl (fun ls hl => ?_)
  refine lv_iconst (v := 0) hx hb dX5_weightSum_2 (by decide) ?_
  refine lv_istore_n (lv' := [(2, .int 0), (1, .int 0), (0, .ref a0)]) hx hb dX5_weightSum_3 rfl hl (by decide) rfl (fun ls hl => ?_)
  have loop4_0 : ∀ (n : Nat) (ls : Array Slot) (v1 v2 : Int32), lv_has ls 3 [(0, .ref a0), (1, .int v1), (2, .int v2)] → ((-2147483648) ≤ v1.toInt ∧ v1.toInt ≤ 2147483647) → (0 ≤ v2.toInt ∧ v2.toInt ≤ 6) → (6 - v2.toInt) < (n : Int) → W pr_ l ev_ (headSpec wsX5_weightSum ({ frames := 1, cells := 0, slots := 0, locals := 64 })).room s m ([.ref a0] : List Value).toArray below meth cd_ s.heap [] 0 0 (MQ below (vp_Si (fun r => True)) ([.ref a0] : List Value).toArray s 0 0 (fun _ => False)) (F0 m 4 ls []) := by
    intro n
    induction n with
    | zero => intro ls v1 v2 hl jv1 jv2 hn; exact absurd hn (by omega)
    | succ n ih4 =>
      intro ls v1 v2 hl jv1 jv2 hn
      refine lv_iload_n hx hb dX5_weightSum_4 rfl (lv_at hl 2 rfl) ?_
      refine lv_aload_n hx hb dX5_weightSum_5 rfl (lv_at hl 0 rfl) ?_
      refine h_get (v := .int (I0 a0 2)) hx hb hts iX5 hown g t_a0 (by decide) so_6 rfl 2 (by decide) (hts (.fieldLink RX5 30 "CapLeague$Laws" "lotCount" "I") (by decide +kernel)) rfl dX5_weightSum_6 rfl ?_
      refine lv_topi (fun v3 ev3 => ?_)
      have jv3 := hI.rd a0 2 t_a0 ev3 (rfl : h_bd 6 2 = (0, 6))
      refine lv_icmp_ge (tgt := 27) hx hb dX5_weightSum_9 (by decide) (fun c4 => ?_) (fun c4 => ?_)
      · have ic4 := (xi_le c4 rfl rfl : v3.toInt ≤ v2.toInt)
        refine lv_iload_n hx hb dX5_weightSum_27 rfl (lv_at hl 1 rfl) ?_
        exact W.iret (v := v1) hx hb hr (fun t ht hW => ⟨v1, rfl, trivial, ht⟩) (fun _ h => by cases h) dX5_weightSum_28
      · have ic4 := (xi_nle c4 rfl rfl : v2.toInt < v3.toInt)
        refine lv_iload_n hx hb dX5_weightSum_12 rfl (lv_at hl 1 rfl) ?_
        refine lv_aload_n hx hb dX5_weightSum_13 rfl (lv_at hl 0 rfl) ?_
        obtain ⟨b5, rb5, tb5⟩ := hR.at a0 1 t_a0 (rfl : h_rs 6 1 = some (601, false)) (by decide)
        refine h_get (v := .ref b5) hx hb hts iX5 hown g t_a0 (by decide) so_6 rfl 1 (by decide) (hts (.fieldLink RX5 15 "CapLeague$Laws" "lots" "[I") (by decide +kernel)) rfl dX5_weightSum_14 (by show va_rf (z.R a0 1) = _; rw [rb5]; rfl) ?_
        refine lv_iload_n hx hb dX5_weightSum_17 rfl (lv_at hl 2 rfl) ?_
        refine h_ald hx hb g tb5 (by decide) so_601 (xi_in (by omega) (by omega)) dX5_weightSum_18 ?_
        refine lv_topi (fun v6 ev6 => ?_)
        have jv6 := hI.rd b5 v2.toNatClampNeg tb5 ev6 (rfl : h_bd 601 _ = ((-2147483648), 2147483647))
        refine lv_iadd hx hb dX5_weightSum_19 ?_
        refine lv_topi (fun v7 ev7 => ?_)
        have jv7 : -2147483648 ≤ v7.toInt ∧ v7.toInt ≤ 2147483647 := ⟨xi_lo _, Int.le_of_lt_add_one (xi_hi _)⟩
        refine lv_istore_n (lv' := [(1, .int v7), (0, .ref a0), (2, .int v2)]) hx hb dX5_weightSum_20 rfl hl (by decide) rfl (fun ls hl => ?_)
        obtain ⟨v8, ev8⟩ : ∃ z : Int32, z = v2 + 1 := ⟨_, rfl⟩
        have jv8 : v8.toInt = v2.toInt + 1 := xi_add ev8 rfl (by decide) (by omega) (by omega)
        refine lv_iinc (v := v8) (lv' := [(2, .int v8), (1, .int v7), (0, .ref a0)]) hx hb dX5_weightSum_21 hl (k := 2) rfl (by rw [ev8]; rfl) (by decide) rfl (fun ls hl => ?_)
        refine lv_goto (tgt := 4) hx hb dX5_weightSum_24 (by decide) ?_
        exact ih4 _ v7 v8 (lv_sub hl [2, 1, 0] rfl) (by omega) (by omega) (by omega)
  exact loop4_0 _ _ (0) (0) (lv_sub hl [2, 1, 0] rfl) ⟨by decide, by decide⟩ ⟨by decide, by decide⟩ (show (6 - (0 : Int)) < (((6 - (0 : Int)).toNat + 1 : Nat) : Int) by omega)
set_option maxHeartbeats 4000000 in
set_option maxRecDepth 100000 in
theorem tX5_lotOf (l : Launch) (E : tE) (X : tX) (A : Nat → Prop) (z : tZ) (I0 : tI) (L0 : tL) (a0 : Nat) (t_a0 : z.ty a0 = 6) (x : Int32) (x_t : Int) (h_x : x.toInt = x_t) (y : Int32) (y_t : Int) (h_y : y.toInt = y_t) : Met l yX5_lotOf wsX5_lotOf ({ frames := 2, cells := 0, slots := 0, locals := 128 }) (va_Pc [.ref a0, .int x, .int y] (h_P E X A z I0 L0)) (vp_Si (fun r => ((-1) ≤ r.toInt ∧ r.toInt ≤ 5))) 0 0 (fun _ => False) := by
  refine Met.ofW (cc := cX5_lotOf) (maxL := 5) (ret := (some .int)) (by decide) rfl ?_
  intro pr_ ev_ s m args below meth cd_ s₁ B hml hv
  obtain ⟨rfl, hE, hk, hX, hA, hK, hI, hR, hB0⟩ := hv
  have g : h_G h_so h_fk E A z I0 L0 s s.heap s.heap [] := ⟨hK, va_S.rf, hB0⟩
  have hx := B.exec
  have hb := B.bytes
  have hr := B.returns
  have hts := atoms_spec (ws := wsX5_lotOf) B.pre
  have hown : s.vm.findClass RX5 = some m.cls := findClass_of_methodNamed B.named
  have hlocks := B.notSynchronized
  have iX5 : ∀ w ∈ u_ws RX5 TX5 3, w ∈ wsX5_lotOf := by decide +kernel
  have hl := lv_entry ([.ref a0, .int x, .int y]) (n := 5) (Nat.le_of_ble_eq_true rfl)
  rw [lg_entry_eq]
  generalize (lg_sl ([.ref a0, .int x, .int y]) ++ List.replicate (5 - (lg_sl ([.ref a0, .int x, .int y])).length) Slot.unset).toArray = ls at hl ⊢
  have hl : lv_has ls 5 [(0, .ref a0), (1, .int x), (2, .int y)] := hl
  have b_x : -2147483648 ≤ x_t ∧ x_t ≤ 2147483647 := h_x ▸ ⟨xi_lo x, Int.le_of_lt_add_one (xi_hi x)⟩
  have b_y : -2147483648 ≤ y_t ∧ y_t ≤ 2147483647 := h_y ▸ ⟨xi_lo y, Int.le_of_lt_add_one (xi_hi y)⟩
  refine lv_iconst (v := 0) hx hb dX5_lotOf_0 (by decide) ?_
  refine lv_istore_n (lv' := [(3, .int 0), (0, .ref a0), (1, .int x), (2, .int y)]) hx hb dX5_lotOf_1 rfl hl (by decide) rfl (fun ls hl => ?_)
  refine lv_iconst (v := 0) hx hb dX5_lotOf_2 (by decide) ?_
  refine lv_istore (lv' := [(4, .int 0), (3, .int 0), (0, .ref a0), (1, .int x), (2, .int y)]) hx hb dX5_lotOf_3 hl (by decide) rfl (fun ls hl => ?_)
  have loop5_0 : ∀ (n : Nat) (ls : Array Slot) (v1 v2 : Int32), lv_has ls 5 [(0, .ref a0), (1, .int x), (2, .int y), (3, .int v1), (4, .int v2)] → ((-2147483648) ≤ v1.toInt ∧ v1.toInt ≤ 2147483647) → (0 ≤ v2.toInt ∧ v2.toInt ≤ 6) → (6 - v2.toInt) < (n : Int) → W pr_ l ev_ (headSpec wsX5_lotOf ({ frames := 2, cells := 0, slots := 0, locals := 128 })).room s m ([.ref a0, .int x, .int y] : List Value).toArray below meth cd_ s.heap [] 0 0 (MQ below (vp_Si (fun r => ((-1) ≤ r.toInt ∧ r.toInt ≤ 5))) ([.ref a0, .int x, .int y] : List Value).toArray s 0 0 (fun _ => False)) (F0 m 5 ls []) := by
    intro n
    induction n with
    | zero => intro ls v1 v2 hl jv1 jv2 hn; exact absurd hn (by omega)
    | succ n ih5 =>
      intro ls v1 v2 hl jv1 jv2 hn
      refine lv_iload hx hb dX5_lotOf_5 (lv_at hl 4 rfl) ?_
      refine lv_aload_n hx hb dX5_lotOf_7 rfl (lv_at hl 0 rfl) ?_
      refine vp_callSi (W.runV (As := []) (rest := [.int v2]) ⟨hx, hb, hml, hown, hts⟩ (tX5_lotClubs l E X A z I0 L0 a0 t_a0) (cwV 0 hts gX5_lotOf_X5_lotClubs rfl rfl rfl (by decide +kernel) ⟨Nat.le_of_ble_eq_true rfl, Nat.le_of_ble_eq_true rfl⟩) ⟨h_blind _ _ _ _ _ _ _, h_recv g t_a0 (by decide) so_6 (q := (RX5, TX5, 3)) rfl, h_pre _ hE hk hX hA hI hR g⟩ rfl rfl hl.1 rfl (lv_room (Nat.le_of_ble_eq_true rfl)) dX5_lotOf_8 ⟨Nat.le_of_ble_eq_true rfl, Nat.le_of_ble_eq_true rfl⟩) (fun rh3 h3 => ?_)
      refine lv_icmp_ge (tgt := 44) hx hb dX5_lotOf_11 (by decide) (fun c4 => ?_) (fun c4 => ?_)
      · have ic4 := (xi_le c4 rfl rfl : rh3.toInt ≤ v2.toInt)
        refine lv_iconst (v := (-1)) hx hb dX5_lotOf_44 (by decide) ?_
        exact W.iret (v := (-1)) hx hb hr (fun t ht hW => ⟨(-1), rfl, ⟨(by decide), (by decide)⟩, ht⟩) (fun _ h => by cases h) dX5_lotOf_45
      · have ic4 := (xi_nle c4 rfl rfl : v2.toInt < rh3.toInt)
        refine lv_iload hx hb dX5_lotOf_14 (lv_at hl 4 rfl) ?_
        refine lv_iload_n hx hb dX5_lotOf_16 rfl (lv_at hl 2 rfl) ?_
        refine lv_icmp_eq (tgt := 38) hx hb dX5_lotOf_17 (by decide) (fun c5 => ?_) (fun c5 => ?_)
        · have ic5 := (xi_eq c5 rfl h_y : v2.toInt = y_t)
          obtain ⟨v6, ev6⟩ : ∃ z : Int32, z = v2 + 1 := ⟨_, rfl⟩
          have jv6 : v6.toInt = v2.toInt + 1 := xi_add ev6 rfl (by decide) (by omega) (by omega)
          refine lv_iinc (v := v6) (lv' := [(4, .int v6), (0, .ref a0), (1, .int x), (2, .int y), (3, .int v1)]) hx hb dX5_lotOf_38 hl (k := 4) rfl (by rw [ev6]; rfl) (by decide) rfl (fun ls hl => ?_)
          refine lv_goto (tgt := 5) hx hb dX5_lotOf_41 (by decide) ?_
          exact ih5 _ v1 v6 (lv_sub hl [1, 2, 3, 4, 0] rfl) (by omega) (by omega) (by omega)
        · have ic5 := (xi_ne c5 rfl h_y : v2.toInt ≠ y_t)
          refine lv_iload_n hx hb dX5_lotOf_20 rfl (lv_at hl 3 rfl) ?_
          refine lv_aload_n hx hb dX5_lotOf_21 rfl (lv_at hl 0 rfl) ?_
          obtain ⟨b7, rb7, tb7⟩ := hR.at a0 1 t_a0 (rfl : h_rs 6 1 = some (601, false)) (by decide)
          refine h_get (v := .ref b7) hx hb hts iX5 hown g t_a0 (by decide) so_6 rfl 1 (by decide) (hts (.fieldLink RX5 15 "CapLeague$Laws" "lots" "[I") (by decide +kernel)) rfl dX5_lotOf_22 (by show va_rf (z.R a0 1) = _; rw [rb7]; rfl) ?_
          refine lv_iload hx hb dX5_lotOf_25 (lv_at hl 4 rfl) ?_
          refine h_ald hx hb g tb7 (by decide) so_601 (xi_in (by omega) (by omega)) dX5_lotOf_27 ?_
          refine lv_topi (fun v8 ev8 => ?_)
          have jv8 := hI.rd b7 v2.toNatClampNeg tb7 ev8 (rfl : h_bd 601 _ = ((-2147483648), 2147483647))
          refine lv_iadd hx hb dX5_lotOf_28 ?_
          refine lv_topi (fun v9 ev9 => ?_)
          have jv9 : -2147483648 ≤ v9.toInt ∧ v9.toInt ≤ 2147483647 := ⟨xi_lo _, Int.le_of_lt_add_one (xi_hi _)⟩
          refine lv_istore_n (lv' := [(3, .int v9), (0, .ref a0), (1, .int x), (2, .int y), (4, .int v2)]) hx hb dX5_lotOf_29 rfl hl (by decide) rfl (fun ls hl => ?_)
          refine lv_iload_n hx hb dX5_lotOf_30 rfl (lv_at hl 2 rfl) ?_
          refine lv_iload_n hx hb dX5_lotOf_31 rfl (lv_at hl 0 rfl) ?_
          refine lv_icmp_ge (tgt := 38) hx hb dX5_lotOf_32 (by decide) (fun c10 => ?_) (fun c10 => ?_)
          · have ic10 := (xi_le c10 rfl h_x : v9.toInt ≤ x_t)
            obtain ⟨v11, ev11⟩ : ∃ z : Int32, z = v2 + 1 := ⟨_, rfl⟩
            have jv11 : v11.toInt = v2.toInt + 1 := xi_add ev11 rfl (by decide) (by omega) (by omega)
            refine lv_iinc (v := v11) (lv' := [(4, .int v11), (3, .int v9), (0, .ref a0), (1, .int x), (2, .int y)]) hx hb dX5_lotOf_38 hl (k := 4) rfl (by rw [ev11]; rfl) (by decide) rfl (fun ls hl => ?_)
            refine lv_goto (tgt := 5) hx hb dX5_lotOf_41 (by decide) ?_
            exact ih5 _ v9 v11 (lv_sub hl [2, 3, 4, 1, 0] rfl) (by omega) (by omega) (by omega)
          · have ic10 := (xi_nle c10 rfl h_x : x_t < v9.toInt)
            refine lv_iload hx hb dX5_lotOf_35 (lv_at hl 4 rfl) ?_
            exact W.iret (v := v2) hx hb hr (fun t ht hW => ⟨v2, rfl, ⟨(by omega), (by omega)⟩, ht⟩) (fun _ h => by cases h) dX5_lotOf_37
  exact loop5_0 _ _ (0) (0) (lv_sub hl [2, 3, 4, 1, 0] rfl) ⟨by decide, by decide⟩ ⟨by decide, by decide⟩ (show (6 - (0 : Int)) < (((6 - (0 : Int)).toNat + 1 : Nat) : Int) by omega)
set_option maxHeartbeats 4000000 in
set_option maxRecDepth 100000 in
theorem tX5_areDraws (l : Launch) (E : tE) (X : tX) (A : Nat → Prop) (z : tZ) (I0 : tI) (L0 : tL) (a0 : Nat) (t_a0 : z.ty a0 = 6) (x : Int32) (x_t : Int) (h_x : x.toInt = x_t) (y : Int32) (y_t : Int) (h_y : y.toInt = y_t) : Met l yX5_areDraws wsX5_areDraws ({ frames := 3, cells := 0, slots := 0, locals := 192 }) (va_Pc [.ref a0, .int x, .int y] (h_P E X A z I0 L0)) (vp_Si (fun r => (0 ≤ r.toInt ∧ r.toInt ≤ 1))) 0 0 (fun _ => False) := by
  refine Met.ofW (cc := cX5_areDraws) (maxL := 4) (ret := (some .boolean)) (by decide) rfl ?_
  intro pr_ ev_ s m args below meth cd_ s₁ B hml hv
  obtain ⟨rfl, hE, hk, hX, hA, hK, hI, hR, hB0⟩ := hv
  have g : h_G h_so h_fk E A z I0 L0 s s.heap s.heap [] := ⟨hK, va_S.rf, hB0⟩
  have hx := B.exec
  have hb := B.bytes
  have hr := B.returns
  have hts := atoms_spec (ws := wsX5_areDraws) B.pre
  have hown : s.vm.findClass RX5 = some m.cls := findClass_of_methodNamed B.named
  have hlocks := B.notSynchronized
  have hl := lv_entry ([.ref a0, .int x, .int y]) (n := 4) (Nat.le_of_ble_eq_true rfl)
  rw [lg_entry_eq]
  generalize (lg_sl ([.ref a0, .int x, .int y]) ++ List.replicate (4 - (lg_sl ([.ref a0, .int x, .int y])).length) Slot.unset).toArray = ls at hl ⊢
  have hl : lv_has ls 4 [(0, .ref a0), (1, .int x), (2, .int y)] := hl
  have b_x : -2147483648 ≤ x_t ∧ x_t ≤ 2147483647 := h_x ▸ ⟨xi_lo x, Int.le_of_lt_add_one (xi_hi x)⟩
  have b_y : -2147483648 ≤ y_t ∧ y_t ≤ 2147483647 := h_y ▸ ⟨xi_lo y, Int.le_of_lt_add_one (xi_hi y)⟩
  refine lv_aload_n hx hb dX5_areDraws_0 rfl (lv_at hl 0 rfl) ?_
  refine vp_callSi (W.runV (As := []) (rest := []) ⟨hx, hb, hml, hown, hts⟩ (tX5_lotClubs l E X A z I0 L0 a0 t_a0) (cwV 0 hts gX5_areDraws_X5_lotClubs rfl rfl rfl (by decide +kernel) ⟨Nat.le_of_ble_eq_true rfl, Nat.le_of_ble_eq_true rfl⟩) ⟨h_blind _ _ _ _ _ _ _, h_recv g t_a0 (by decide) so_6 (q := (RX5, TX5, 3)) rfl, h_pre _ hE hk hX hA hI hR g⟩ rfl rfl hl.1 rfl (lv_room (Nat.le_of_ble_eq_true rfl)) dX5_areDraws_1 ⟨Nat.le_of_ble_eq_true rfl, Nat.le_of_ble_eq_true rfl⟩) (fun rh1 h1 => ?_)
  refine lv_if_ne (tgt := 21) hx hb dX5_areDraws_4 (by decide) (fun c2 => ?_) (fun c2 => ?_)
  · have ic2 := (xi_ne c2 rfl (by decide) : rh1.toInt ≠ 0)
    refine lv_iload_n hx hb dX5_areDraws_21 rfl (lv_at hl 1 rfl) ?_
    refine lv_if_lt (tgt := 29) hx hb dX5_areDraws_22 (by decide) (fun c3 => ?_) (fun c3 => ?_)
    · have ic3 := (xi_lt c3 h_x (by decide) : x_t < 0)
      refine lv_iconst (v := 0) hx hb dX5_areDraws_29 (by decide) ?_
      exact W.zret (v := 0) hx hb hr (by decide) (fun t ht hW => ⟨0, rfl, ⟨(by decide), (by decide)⟩, ht⟩) (fun _ h => by cases h) dX5_areDraws_30
    · have ic3 := (xi_nlt c3 h_x (by decide) : 0 ≤ x_t)
      refine lv_iload_n hx hb dX5_areDraws_25 rfl (lv_at hl 2 rfl) ?_
      refine lv_if_ge (tgt := 31) hx hb dX5_areDraws_26 (by decide) (fun c4 => ?_) (fun c4 => ?_)
      · have ic4 := (xi_le c4 (by decide) h_y : 0 ≤ y_t)
        refine lv_aload_n hx hb dX5_areDraws_31 rfl (lv_at hl 0 rfl) ?_
        refine lv_iload_n hx hb dX5_areDraws_32 rfl (lv_at hl 1 rfl) ?_
        refine lv_iconst (v := (-1)) hx hb dX5_areDraws_33 (by decide) ?_
        refine vp_callSi (W.runV (As := [.int x, .int (-1)]) (rest := []) ⟨hx, hb, hml, hown, hts⟩ (tX5_lotOf l E X A z I0 L0 a0 t_a0 x (x_t) h_x (-1) ((-1)) (by decide)) (cwV 2 hts gX5_areDraws_X5_lotOf rfl rfl rfl (by decide +kernel) ⟨Nat.le_of_ble_eq_true rfl, Nat.le_of_ble_eq_true rfl⟩) ⟨h_blind _ _ _ _ _ _ _, h_recv g t_a0 (by decide) so_6 (q := (RX5, TX5, 3)) rfl, h_pre _ hE hk hX hA hI hR g⟩ rfl rfl hl.1 rfl (lv_room (Nat.le_of_ble_eq_true rfl)) dX5_areDraws_34 ⟨Nat.le_of_ble_eq_true rfl, Nat.le_of_ble_eq_true rfl⟩) (fun rh5 h5 => ?_)
        refine lv_istore_n (lv' := [(3, .int rh5), (0, .ref a0), (1, .int x), (2, .int y)]) hx hb dX5_areDraws_37 rfl hl (by decide) rfl (fun ls hl => ?_)
        refine lv_iload_n hx hb dX5_areDraws_38 rfl (lv_at hl 0 rfl) ?_
        refine lv_iconst (v := (-1)) hx hb dX5_areDraws_39 (by decide) ?_
        refine lv_icmp_eq (tgt := 57) hx hb dX5_areDraws_40 (by decide) (fun c6 => ?_) (fun c6 => ?_)
        · have ic6 := (xi_eq c6 rfl (by decide) : rh5.toInt = (-1))
          refine lv_iconst (v := 0) hx hb dX5_areDraws_57 (by decide) ?_
          exact W.zret (v := 0) hx hb hr (by decide) (fun t ht hW => ⟨0, rfl, ⟨(by decide), (by decide)⟩, ht⟩) (fun _ h => by cases h) dX5_areDraws_58
        · have ic6 := (xi_ne c6 rfl (by decide) : rh5.toInt ≠ (-1))
          refine lv_aload_n hx hb dX5_areDraws_43 rfl (lv_at hl 1 rfl) ?_
          refine lv_iload_n hx hb dX5_areDraws_44 rfl (lv_at hl 3 rfl) ?_
          refine lv_iload_n hx hb dX5_areDraws_45 rfl (lv_at hl 0 rfl) ?_
          refine vp_callSi (W.runV (As := [.int y, .int rh5]) (rest := []) ⟨hx, hb, hml, hown, hts⟩ (tX5_lotOf l E X A z I0 L0 a0 t_a0 y (y_t) h_y rh5 (rh5.toInt) rfl) (cwV 2 hts gX5_areDraws_X5_lotOf rfl rfl rfl (by decide +kernel) ⟨Nat.le_of_ble_eq_true rfl, Nat.le_of_ble_eq_true rfl⟩) ⟨h_blind _ _ _ _ _ _ _, h_recv g t_a0 (by decide) so_6 (q := (RX5, TX5, 3)) rfl, h_pre _ hE hk hX hA hI hR g⟩ rfl rfl hl.1 rfl (lv_room (Nat.le_of_ble_eq_true rfl)) dX5_areDraws_46 ⟨Nat.le_of_ble_eq_true rfl, Nat.le_of_ble_eq_true rfl⟩) (fun rh7 h7 => ?_)
          refine lv_iconst (v := (-1)) hx hb dX5_areDraws_49 (by decide) ?_
          refine lv_icmp_eq (tgt := 57) hx hb dX5_areDraws_50 (by decide) (fun c8 => ?_) (fun c8 => ?_)
          · have ic8 := (xi_eq c8 rfl (by decide) : rh7.toInt = (-1))
            refine lv_iconst (v := 0) hx hb dX5_areDraws_57 (by decide) ?_
            exact W.zret (v := 0) hx hb hr (by decide) (fun t ht hW => ⟨0, rfl, ⟨(by decide), (by decide)⟩, ht⟩) (fun _ h => by cases h) dX5_areDraws_58
          · have ic8 := (xi_ne c8 rfl (by decide) : rh7.toInt ≠ (-1))
            refine lv_iconst (v := 1) hx hb dX5_areDraws_53 (by decide) ?_
            refine lv_goto (tgt := 58) hx hb dX5_areDraws_54 (by decide) ?_
            exact W.zret (v := 1) hx hb hr (by decide) (fun t ht hW => ⟨1, rfl, ⟨(by decide), (by decide)⟩, ht⟩) (fun _ h => by cases h) dX5_areDraws_58
      · have ic4 := (xi_nle c4 (by decide) h_y : y_t < 0)
        refine lv_iconst (v := 0) hx hb dX5_areDraws_29 (by decide) ?_
        exact W.zret (v := 0) hx hb hr (by decide) (fun t ht hW => ⟨0, rfl, ⟨(by decide), (by decide)⟩, ht⟩) (fun _ h => by cases h) dX5_areDraws_30
  · have ic2 := (xi_eq c2 rfl (by decide) : rh1.toInt = 0)
    refine lv_iload_n hx hb dX5_areDraws_7 rfl (lv_at hl 1 rfl) ?_
    refine lv_if_ne (tgt := 19) hx hb dX5_areDraws_8 (by decide) (fun c9 => ?_) (fun c9 => ?_)
    · have ic9 := (xi_ne c9 h_x (by decide) : x_t ≠ 0)
      refine lv_iconst (v := 0) hx hb dX5_areDraws_19 (by decide) ?_
      exact W.zret (v := 0) hx hb hr (by decide) (fun t ht hW => ⟨0, rfl, ⟨(by decide), (by decide)⟩, ht⟩) (fun _ h => by cases h) dX5_areDraws_20
    · have ic9 := (xi_eq c9 h_x (by decide) : x_t = 0)
      refine lv_iload_n hx hb dX5_areDraws_11 rfl (lv_at hl 2 rfl) ?_
      refine lv_if_ne (tgt := 19) hx hb dX5_areDraws_12 (by decide) (fun c10 => ?_) (fun c10 => ?_)
      · have ic10 := (xi_ne c10 h_y (by decide) : y_t ≠ 0)
        refine lv_iconst (v := 0) hx hb dX5_areDraws_19 (by decide) ?_
        exact W.zret (v := 0) hx hb hr (by decide) (fun t ht hW => ⟨0, rfl, ⟨(by decide), (by decide)⟩, ht⟩) (fun _ h => by cases h) dX5_areDraws_20
      · have ic10 := (xi_eq c10 h_y (by decide) : y_t = 0)
        refine lv_iconst (v := 1) hx hb dX5_areDraws_15 (by decide) ?_
        refine lv_goto (tgt := 20) hx hb dX5_areDraws_16 (by decide) ?_
        exact W.zret (v := 1) hx hb hr (by decide) (fun t ht hW => ⟨1, rfl, ⟨(by decide), (by decide)⟩, ht⟩) (fun _ h => by cases h) dX5_areDraws_20
set_option maxHeartbeats 4000000 in
set_option maxRecDepth 100000 in
theorem tX3_of (l : Launch) (E : tE) (X : tX) (A : Nat → Prop) (z : tZ) (I0 : tI) (L0 : tL) (a0 : Nat) (t_a0 : z.ty a0 = 4) (y : Int32) (y_t : Int) (h_y : y.toInt = y_t) : Met l yX3_of wsX3_of ({ frames := 1, cells := 0, slots := 0, locals := 64 }) (va_Pc [.ref a0, .int y] (h_P E X A z I0 L0)) (va_Sq (fun r => (∃ b, r = some b ∧ z.ty b = 6))) 0 0 (fun _ => False) := by
  refine Met.ofW (cc := cX3_of) (maxL := 3) (ret := (some (.object "CapLeague$Laws"))) (by decide) rfl ?_
  intro pr_ ev_ s m args below meth cd_ s₁ B hml hv
  obtain ⟨rfl, hE, hk, hX, hA, hK, hI, hR, hB0⟩ := hv
  have g : h_G h_so h_fk E A z I0 L0 s s.heap s.heap [] := ⟨hK, va_S.rf, hB0⟩
  have hx := B.exec
  have hb := B.bytes
  have hr := B.returns
  have hts := atoms_spec (ws := wsX3_of) B.pre
  have hown : s.vm.findClass RX3 = some m.cls := findClass_of_methodNamed B.named
  have hlocks := B.notSynchronized
  have iX3 : ∀ w ∈ u_ws RX3 TX3 2, w ∈ wsX3_of := by decide +kernel
  have hl := lv_entry ([.ref a0, .int y]) (n := 3) (Nat.le_of_ble_eq_true rfl)
  rw [lg_entry_eq]
  generalize (lg_sl ([.ref a0, .int y]) ++ List.replicate (3 - (lg_sl ([.ref a0, .int y])).length) Slot.unset).toArray = ls at hl ⊢
  have hl : lv_has ls 3 [(0, .ref a0), (1, .int y)] := hl
  have b_y : -2147483648 ≤ y_t ∧ y_t ≤ 2147483647 := h_y ▸ ⟨xi_lo y, Int.le_of_lt_add_one (xi_hi y)⟩
  refine lv_bipush (v := 9) hx hb dX3_of_0 (by decide) ?_
  refine lv_istore_n (lv' := [(2, .int 9), (0, .ref a0), (1, .int y)]) hx hb dX3_of_2 rfl hl (by decide) rfl (fun ls hl => ?_)
  have loop3_0 : ∀ (n : Nat) (ls : Array Slot) (v1 : Int32), lv_has ls 3 [(0, .ref a0), (1, .int y), (2, .int v1)] → ((-1) ≤ v1.toInt ∧ v1.toInt ≤ 9) → (v1.toInt + 2) < (n : Int) → W pr_ l ev_ (headSpec wsX3_of ({ frames := 1, cells := 0, slots := 0, locals := 64 })).room s m ([.ref a0, .int y] : List Value).toArray below meth cd_ s.heap [] 0 0 (MQ below (va_Sq (fun r => (∃ b, r = some b ∧ z.ty b = 6))) ([.ref a0, .int y] : List Value).toArray s 0 0 (fun _ => False)) (F0 m 3 ls []) := by
    intro n
    induction n with
    | zero => intro ls v1 hl jv1 hn; exact absurd hn (by omega)
    | succ n ih3 =>
      intro ls v1 hl jv1 hn
      refine lv_iload_n hx hb dX3_of_3 rfl (lv_at hl 2 rfl) ?_
      refine lv_if_lt (tgt := 34) hx hb dX3_of_4 (by decide) (fun c2 => ?_) (fun c2 => ?_)
      · have ic2 := (xi_lt c2 rfl (by decide) : v1.toInt < 0)
        refine lv_aload_n hx hb dX3_of_34 rfl (lv_at hl 0 rfl) ?_
        obtain ⟨b3, rb3, tb3⟩ := hR.at a0 0 t_a0 (rfl : h_rs 4 0 = some (6, false)) (by decide)
        refine h_get (v := .ref b3) hx hb hts iX3 hown g t_a0 (by decide) so_4 rfl 0 (by decide) (hts (.fieldLink RX3 12 "CapLeague$LawBook" "untold" "LCapLeague$Laws;") (by decide +kernel)) rfl dX3_of_35 (by show va_rf (z.R a0 0) = _; rw [rb3]; rfl) ?_
        exact W.aret (v := .ref b3) hx hb hr (Or.inl ⟨_, rfl⟩) (Or.inr ⟨_, rfl⟩) (fun t ht hW => ⟨some b3, rfl, ⟨b3, rfl, tb3⟩, ht⟩) (fun _ h => by cases h) dX3_of_38
      · have ic2 := (xi_nlt c2 rfl (by decide) : 0 ≤ v1.toInt)
        refine lv_iload_n hx hb dX3_of_7 rfl (lv_at hl 2 rfl) ?_
        refine lv_iload_n hx hb dX3_of_8 rfl (lv_at hl 1 rfl) ?_
        refine lv_icmp_gt (tgt := 28) hx hb dX3_of_9 (by decide) (fun c4 => ?_) (fun c4 => ?_)
        · have ic4 := (xi_lt c4 h_y rfl : y_t < v1.toInt)
          obtain ⟨v5, ev5⟩ : ∃ z : Int32, z = v1 + (-1) := ⟨_, rfl⟩
          have jv5 : v5.toInt = v1.toInt + (-1) := xi_add ev5 rfl (by decide) (by omega) (by omega)
          refine lv_iinc (v := v5) (lv' := [(2, .int v5), (0, .ref a0), (1, .int y)]) hx hb dX3_of_28 hl (k := 2) rfl (by rw [ev5]; rfl) (by decide) rfl (fun ls hl => ?_)
          refine lv_goto (tgt := 3) hx hb dX3_of_31 (by decide) ?_
          exact ih3 _ v5 (lv_sub hl [1, 2, 0] rfl) (by omega) (by omega)
        · have ic4 := (xi_nlt c4 h_y rfl : v1.toInt ≤ y_t)
          refine lv_aload_n hx hb dX3_of_12 rfl (lv_at hl 0 rfl) ?_
          obtain ⟨b6, rb6, tb6⟩ := hR.at a0 1 t_a0 (rfl : h_rs 4 1 = some (401, false)) (by decide)
          refine h_get (v := .ref b6) hx hb hts iX3 hown g t_a0 (by decide) so_4 rfl 1 (by decide) (hts (.fieldLink RX3 18 "CapLeague$LawBook" "texts" "[LCapLeague$Laws;") (by decide +kernel)) rfl dX3_of_13 (by show va_rf (z.R a0 1) = _; rw [rb6]; rfl) ?_
          refine lv_iload_n hx hb dX3_of_16 rfl (lv_at hl 2 rfl) ?_
          rcases hR.nl b6 v1.toNatClampNeg tb6 (rfl : h_rs 401 _ = some (6, true)) (by rw [so_401]; exact h_lt (n := 10) (xi_in (by omega) (by omega))) with rb7 | ⟨b7, rb7, tb7⟩
          · refine h_aldL (v := .null) hx hb g tb6 (by decide) so_401 (xi_in (by omega) (by omega)) dX3_of_17 (by rw [rb7]; rfl) ?_
            refine lv_ifnullN (tgt := 28) hx hb dX3_of_18 (by decide) ?_
            obtain ⟨v8, ev8⟩ : ∃ z : Int32, z = v1 + (-1) := ⟨_, rfl⟩
            have jv8 : v8.toInt = v1.toInt + (-1) := xi_add ev8 rfl (by decide) (by omega) (by omega)
            refine lv_iinc (v := v8) (lv' := [(2, .int v8), (0, .ref a0), (1, .int y)]) hx hb dX3_of_28 hl (k := 2) rfl (by rw [ev8]; rfl) (by decide) rfl (fun ls hl => ?_)
            refine lv_goto (tgt := 3) hx hb dX3_of_31 (by decide) ?_
            exact ih3 _ v8 (lv_sub hl [1, 2, 0] rfl) (by omega) (by omega)
          · refine h_aldL (v := .ref b7) hx hb g tb6 (by decide) so_401 (xi_in (by omega) (by omega)) dX3_of_17 (by rw [rb7]; rfl) ?_
            refine lv_ifnull hx hb dX3_of_18 ?_
            refine lv_aload_n hx hb dX3_of_21 rfl (lv_at hl 0 rfl) ?_
            refine h_get (v := .ref b6) hx hb hts iX3 hown g t_a0 (by decide) so_4 rfl 1 (by decide) (hts (.fieldLink RX3 18 "CapLeague$LawBook" "texts" "[LCapLeague$Laws;") (by decide +kernel)) rfl dX3_of_22 (by show va_rf (z.R a0 1) = _; rw [rb6]; rfl) ?_
            refine lv_iload_n hx hb dX3_of_25 rfl (lv_at hl 2 rfl) ?_
            refine h_aldL (v := .ref b7) hx hb g tb6 (by decide) so_401 (xi_in (by omega) (by omega)) dX3_of_26 (by rw [rb7]; rfl) ?_
            exact W.aret (v := .ref b7) hx hb hr (Or.inl ⟨_, rfl⟩) (Or.inr ⟨_, rfl⟩) (fun t ht hW => ⟨some b7, rfl, ⟨b7, rfl, tb7⟩, ht⟩) (fun _ h => by cases h) dX3_of_27
  exact loop3_0 _ _ (9) (lv_sub hl [1, 2, 0] rfl) ⟨by decide, by decide⟩ (show ((9 : Int) + 2) < ((((9 : Int) + 2).toNat + 1 : Nat) : Int) by omega)
set_option maxHeartbeats 4000000 in
set_option maxRecDepth 100000 in
theorem tX6_bind (l : Launch) (E : tE) (X : tX) (A : Nat → Prop) (z : tZ) (I0 : tI) (L0 : tL) (a0 : Nat) (t_a0 : z.ty a0 = 7) (c : Int32) (c_t : Int) (h_c : c.toInt = c_t) (b_c : (-1) ≤ c_t ∧ c_t ≤ 7) (y : Int32) (y_t : Int) (h_y : y.toInt = y_t) (n : Int32) (n_t : Int) (h_n : n.toInt = n_t) (p : Int32) (p_t : Int) (h_p : p.toInt = p_t) (u : Int32) (u_t : Int) (h_u : u.toInt = u_t) (q : Int32) (q_t : Int) (h_q : q.toInt = q_t) (h : Int32) (h_t : Int) (h_h : h.toInt = h_t) (b_h : 0 ≤ h_t ∧ h_t ≤ 1) : Met l yX6_bind wsX6_bind ({ frames := 1, cells := 0, slots := 0, locals := 64 }) (va_Pc [.ref a0, .int c, .int y, .int n, .int p, .int u, .int q, .int h] (h_P E X A z I0 L0)) (va_Qv (fun (I1 : tI) => h_I z I1 ∧ h_F [(7, 0), (7, 1), (7, 2), (7, 3), (7, 4), (7, 5), (7, 6)] z I0 I1 ∧ True) (fun (I1 : tI) t => h_B E A z I1 L0 t) A) 0 0 A := by
  refine Met.ofW (cc := cX6_bind) (maxL := 8) (ret := none) (by decide) rfl ?_
  intro pr_ ev_ s m args below meth cd_ s₁ B hml hv
  obtain ⟨rfl, hE, hk, hX, hA, hK, hI, hR, hB0⟩ := hv
  have g : h_G h_so h_fk E A z I0 L0 s s.heap s.heap [] := ⟨hK, va_S.rf, hB0⟩
  have hF : h_F [(7, 0), (7, 1), (7, 2), (7, 3), (7, 4), (7, 5), (7, 6)] z I0 I0 := h_F.rf
  have hx := B.exec
  have hb := B.bytes
  have hr := B.returns
  have hts := atoms_spec (ws := wsX6_bind) B.pre
  have hown : s.vm.findClass RX6 = some m.cls := findClass_of_methodNamed B.named
  have hlocks := B.notSynchronized
  have iX6 : ∀ w ∈ u_ws RX6 TX6 9, w ∈ wsX6_bind := by decide +kernel
  have hl := lv_entry ([.ref a0, .int c, .int y, .int n, .int p, .int u, .int q, .int h]) (n := 8) (Nat.le_of_ble_eq_true rfl)
  rw [lg_entry_eq]
  generalize (lg_sl ([.ref a0, .int c, .int y, .int n, .int p, .int u, .int q, .int h]) ++ List.replicate (8 - (lg_sl ([.ref a0, .int c, .int y, .int n, .int p, .int u, .int q, .int h])).length) Slot.unset).toArray = ls at hl ⊢
  have hl : lv_has ls 8 [(0, .ref a0), (1, .int c), (2, .int y), (3, .int n), (4, .int p), (5, .int u), (6, .int q), (7, .int h)] := hl
  have b_y : -2147483648 ≤ y_t ∧ y_t ≤ 2147483647 := h_y ▸ ⟨xi_lo y, Int.le_of_lt_add_one (xi_hi y)⟩
  have b_n : -2147483648 ≤ n_t ∧ n_t ≤ 2147483647 := h_n ▸ ⟨xi_lo n, Int.le_of_lt_add_one (xi_hi n)⟩
  have b_p : -2147483648 ≤ p_t ∧ p_t ≤ 2147483647 := h_p ▸ ⟨xi_lo p, Int.le_of_lt_add_one (xi_hi p)⟩
  have b_u : -2147483648 ≤ u_t ∧ u_t ≤ 2147483647 := h_u ▸ ⟨xi_lo u, Int.le_of_lt_add_one (xi_hi u)⟩
  have b_q : -2147483648 ≤ q_t ∧ q_t ≤ 2147483647 := h_q ▸ ⟨xi_lo q, Int.le_of_lt_add_one (xi_hi q)⟩
  refine lv_aload_n hx hb dX6_bind_0 rfl (lv_at hl 0 rfl) ?_
  refine lv_iload_n hx hb dX6_bind_1 rfl (lv_at hl 1 rfl) ?_
  refine h_putI (ty := .int) (v := c) hx hb hts iX6 tyX6 tyX6_ok nmX6 hown g t_a0 (by decide) so_7 rfl 0 (by decide) rfl (hts (.fieldLink RX6 9 "CapLeague$Player" "club" "I") (by decide +kernel)) rfl rfl (by decide +kernel) rfl rfl dX6_bind_2 (fun I1 H locs eI1 g => ?_)
  have hI := hI.wr eI1 t_a0 (rfl : h_bd 7 0 = ((-1), 7)) (by rw [h_c]; omega) (by rw [h_c]; omega)
  have hF := hF.wr eI1 t_a0 rfl
  refine lv_aload_n hx hb dX6_bind_5 rfl (lv_at hl 0 rfl) ?_
  refine lv_iload_n hx hb dX6_bind_6 rfl (lv_at hl 2 rfl) ?_
  refine h_putI (ty := .int) (v := y) hx hb hts iX6 tyX6 tyX6_ok nmX6 hown g t_a0 (by decide) so_7 rfl 1 (by decide) rfl (hts (.fieldLink RX6 19 "CapLeague$Player" "from" "I") (by decide +kernel)) rfl rfl (by decide +kernel) rfl rfl dX6_bind_7 (fun I2 H locs eI2 g => ?_)
  have hI := hI.wr eI2 t_a0 (rfl : h_bd 7 1 = ((-2147483648), 2147483647)) (xi_lo _) (Int.le_of_lt_add_one (xi_hi _))
  have hF := hF.wr eI2 t_a0 rfl
  refine lv_aload_n hx hb dX6_bind_10 rfl (lv_at hl 0 rfl) ?_
  refine lv_iload_n hx hb dX6_bind_11 rfl (lv_at hl 2 rfl) ?_
  refine lv_iload_n hx hb dX6_bind_12 rfl (lv_at hl 3 rfl) ?_
  refine lv_iadd hx hb dX6_bind_13 ?_
  refine lv_topi (fun v3 ev3 => ?_)
  have jv3 : -2147483648 ≤ v3.toInt ∧ v3.toInt ≤ 2147483647 := ⟨xi_lo _, Int.le_of_lt_add_one (xi_hi _)⟩
  refine lv_iconst (v := 1) hx hb dX6_bind_14 (by decide) ?_
  refine lv_isub hx hb dX6_bind_15 ?_
  refine lv_topi (fun v4 ev4 => ?_)
  have jv4 : -2147483648 ≤ v4.toInt ∧ v4.toInt ≤ 2147483647 := ⟨xi_lo _, Int.le_of_lt_add_one (xi_hi _)⟩
  refine h_putI (ty := .int) (v := v4) hx hb hts iX6 tyX6 tyX6_ok nmX6 hown g t_a0 (by decide) so_7 rfl 2 (by decide) rfl (hts (.fieldLink RX6 22 "CapLeague$Player" "last" "I") (by decide +kernel)) rfl rfl (by decide +kernel) rfl rfl dX6_bind_16 (fun I5 H locs eI5 g => ?_)
  have hI := hI.wr eI5 t_a0 (rfl : h_bd 7 2 = ((-2147483648), 2147483647)) (xi_lo _) (Int.le_of_lt_add_one (xi_hi _))
  have hF := hF.wr eI5 t_a0 rfl
  refine lv_aload_n hx hb dX6_bind_19 rfl (lv_at hl 0 rfl) ?_
  refine lv_iload hx hb dX6_bind_20 (lv_at hl 4 rfl) ?_
  refine h_putI (ty := .int) (v := p) hx hb hts iX6 tyX6 tyX6_ok nmX6 hown g t_a0 (by decide) so_7 rfl 3 (by decide) rfl (hts (.fieldLink RX6 25 "CapLeague$Player" "pay" "I") (by decide +kernel)) rfl rfl (by decide +kernel) rfl rfl dX6_bind_22 (fun I6 H locs eI6 g => ?_)
  have hI := hI.wr eI6 t_a0 (rfl : h_bd 7 3 = ((-2147483648), 2147483647)) (xi_lo _) (Int.le_of_lt_add_one (xi_hi _))
  have hF := hF.wr eI6 t_a0 rfl
  refine lv_aload_n hx hb dX6_bind_25 rfl (lv_at hl 0 rfl) ?_
  refine lv_iload hx hb dX6_bind_26 (lv_at hl 5 rfl) ?_
  refine h_putI (ty := .int) (v := u) hx hb hts iX6 tyX6 tyX6_ok nmX6 hown g t_a0 (by decide) so_7 rfl 4 (by decide) rfl (hts (.fieldLink RX6 28 "CapLeague$Player" "rise" "I") (by decide +kernel)) rfl rfl (by decide +kernel) rfl rfl dX6_bind_28 (fun I7 H locs eI7 g => ?_)
  have hI := hI.wr eI7 t_a0 (rfl : h_bd 7 4 = ((-2147483648), 2147483647)) (xi_lo _) (Int.le_of_lt_add_one (xi_hi _))
  have hF := hF.wr eI7 t_a0 rfl
  refine lv_aload_n hx hb dX6_bind_31 rfl (lv_at hl 0 rfl) ?_
  refine lv_iload hx hb dX6_bind_32 (lv_at hl 6 rfl) ?_
  refine h_putI (ty := .int) (v := q) hx hb hts iX6 tyX6 tyX6_ok nmX6 hown g t_a0 (by decide) so_7 rfl 5 (by decide) rfl (hts (.fieldLink RX6 31 "CapLeague$Player" "sure" "I") (by decide +kernel)) rfl rfl (by decide +kernel) rfl rfl dX6_bind_34 (fun I8 H locs eI8 g => ?_)
  have hI := hI.wr eI8 t_a0 (rfl : h_bd 7 5 = ((-2147483648), 2147483647)) (xi_lo _) (Int.le_of_lt_add_one (xi_hi _))
  have hF := hF.wr eI8 t_a0 rfl
  refine lv_aload_n hx hb dX6_bind_37 rfl (lv_at hl 0 rfl) ?_
  refine lv_iload hx hb dX6_bind_38 (lv_at hl 7 rfl) ?_
  refine h_putI (ty := .boolean) (v := h) hx hb hts iX6 tyX6 tyX6_ok nmX6 hown g t_a0 (by decide) so_7 rfl 6 (by decide) rfl (hts (.fieldLink RX6 34 "CapLeague$Player" "choiceOpen" "Z") (by decide +kernel)) rfl rfl (by decide +kernel) (h_nb (by rw [h_h]; omega) (by rw [h_h]; omega)).1 (h_nb (by rw [h_h]; omega) (by rw [h_h]; omega)).2 dX6_bind_40 (fun I9 H locs eI9 g => ?_)
  have hI := hI.wr eI9 t_a0 (rfl : h_bd 7 6 = (0, 1)) (by rw [h_h]; omega) (by rw [h_h]; omega)
  have hF := hF.wr eI9 t_a0 rfl
  have hS := g.2.1
  exact W.vret hx hb hr (fun t ht hW => ⟨⟨I9, rfl, ⟨hI, hF, trivial⟩, h_ret g ht⟩, hS.F ht⟩) hS.2.2 dX6_bind_43
set_option maxHeartbeats 4000000 in
set_option maxRecDepth 100000 in
theorem tX6_unbind (l : Launch) (E : tE) (X : tX) (A : Nat → Prop) (z : tZ) (I0 : tI) (L0 : tL) (a0 : Nat) (t_a0 : z.ty a0 = 7) : Met l yX6_unbind wsX6_unbind ({ frames := 2, cells := 0, slots := 0, locals := 128 }) (va_Pc [.ref a0] (h_P E X A z I0 L0)) (va_Qv (fun (I1 : tI) => h_I z I1 ∧ h_F [(7, 0), (7, 1), (7, 2), (7, 3), (7, 4), (7, 5), (7, 6)] z I0 I1 ∧ True) (fun (I1 : tI) t => h_B E A z I1 L0 t) A) 0 0 A := by
  refine Met.ofW (cc := cX6_unbind) (maxL := 1) (ret := none) (by decide) rfl ?_
  intro pr_ ev_ s m args below meth cd_ s₁ B hml hv
  obtain ⟨rfl, hE, hk, hX, hA, hK, hI, hR, hB0⟩ := hv
  have g : h_G h_so h_fk E A z I0 L0 s s.heap s.heap [] := ⟨hK, va_S.rf, hB0⟩
  have hF : h_F [(7, 0), (7, 1), (7, 2), (7, 3), (7, 4), (7, 5), (7, 6)] z I0 I0 := h_F.rf
  have hx := B.exec
  have hb := B.bytes
  have hr := B.returns
  have hts := atoms_spec (ws := wsX6_unbind) B.pre
  have hown : s.vm.findClass RX6 = some m.cls := findClass_of_methodNamed B.named
  have hlocks := B.notSynchronized
  have hl := lv_entry ([.ref a0]) (n := 1) (Nat.le_of_ble_eq_true rfl)
  rw [lg_entry_eq]
  generalize (lg_sl ([.ref a0]) ++ List.replicate (1 - (lg_sl ([.ref a0])).length) Slot.unset).toArray = ls at hl ⊢
  have hl : lv_has ls 1 [(0, .ref a0)] := hl
  refine lv_aload_n hx hb dX6_unbind_0 rfl (lv_at hl 0 rfl) ?_
  refine lv_iconst (v := (-1)) hx hb dX6_unbind_1 (by decide) ?_
  refine lv_iconst (v := 0) hx hb dX6_unbind_2 (by decide) ?_
  refine lv_iconst (v := 0) hx hb dX6_unbind_3 (by decide) ?_
  refine lv_iconst (v := 0) hx hb dX6_unbind_4 (by decide) ?_
  refine lv_iconst (v := 0) hx hb dX6_unbind_5 (by decide) ?_
  refine lv_iconst (v := 0) hx hb dX6_unbind_6 (by decide) ?_
  refine lv_iconst (v := 0) hx hb dX6_unbind_7 (by decide) ?_
  refine va_callv (va_runV (As := [.int (-1), .int 0, .int 0, .int 0, .int 0, .int 0, .int 0]) (rest := []) ⟨hx, hb, hml, hown, hts⟩ (tX6_bind l E X A z I0 L0 a0 t_a0 (-1) ((-1)) (by decide) (by omega) 0 (0) (by decide) 0 (0) (by decide) 0 (0) (by decide) 0 (0) (by decide) 0 (0) (by decide) 0 (0) (by decide) (by omega)) (cwV 7 hts gX6_unbind_X6_bind rfl rfl rfl (by decide +kernel) ⟨Nat.le_of_ble_eq_true rfl, Nat.le_of_ble_eq_true rfl⟩) ⟨h_blind _ _ _ _ _ _ _, h_recv g t_a0 (by decide) so_7 (q := (RX6, TX6, 9)) rfl, h_pre _ hE hk hX hA hI hR g⟩ rfl rfl hl.1 rfl (lv_room (Nat.le_of_ble_eq_true rfl)) dX6_unbind_8 ⟨Nat.le_of_ble_eq_true rfl, Nat.le_of_ble_eq_true rfl⟩) g.2.1 (fun q _ h => h) (fun q h => h) (fun I2 t H1 locs ht hvm h1 hB hz1 hk1 hS => ?_)
  obtain ⟨hI, fh1, h1⟩ := h1
  replace g := h_after g hB ht hS
  generalize H1 = H at g
  clear hB hk1 hz1 ht hvm hS
  have hF := hF.call fh1 rfl
  have hS := g.2.1
  exact W.vret hx hb hr (fun t ht hW => ⟨⟨I2, rfl, ⟨hI, hF, trivial⟩, h_ret g ht⟩, hS.F ht⟩) hS.2.2 dX6_unbind_11
set_option maxHeartbeats 4000000 in
set_option maxRecDepth 100000 in
theorem tX6_isSigned (l : Launch) (E : tE) (X : tX) (A : Nat → Prop) (z : tZ) (I0 : tI) (L0 : tL) (a0 : Nat) (t_a0 : z.ty a0 = 7) : Met l yX6_isSigned wsX6_isSigned ({ frames := 1, cells := 0, slots := 0, locals := 64 }) (va_Pc [.ref a0] (h_P E X A z I0 L0)) (vp_Si (fun r => (0 ≤ r.toInt ∧ r.toInt ≤ 1))) 0 0 (fun _ => False) := by
  refine Met.ofW (cc := cX6_isSigned) (maxL := 1) (ret := (some .boolean)) (by decide) rfl ?_
  intro pr_ ev_ s m args below meth cd_ s₁ B hml hv
  obtain ⟨rfl, hE, hk, hX, hA, hK, hI, hR, hB0⟩ := hv
  have g : h_G h_so h_fk E A z I0 L0 s s.heap s.heap [] := ⟨hK, va_S.rf, hB0⟩
  have hx := B.exec
  have hb := B.bytes
  have hr := B.returns
  have hts := atoms_spec (ws := wsX6_isSigned) B.pre
  have hown : s.vm.findClass RX6 = some m.cls := findClass_of_methodNamed B.named
  have hlocks := B.notSynchronized
  have iX6 : ∀ w ∈ u_ws RX6 TX6 9, w ∈ wsX6_isSigned := by decide +kernel
  have hl := lv_entry ([.ref a0]) (n := 1) (Nat.le_of_ble_eq_true rfl)
  rw [lg_entry_eq]
  generalize (lg_sl ([.ref a0]) ++ List.replicate (1 - (lg_sl ([.ref a0])).length) Slot.unset).toArray = ls at hl ⊢
  have hl : lv_has ls 1 [(0, .ref a0)] := hl
  refine lv_aload_n hx hb dX6_isSigned_0 rfl (lv_at hl 0 rfl) ?_
  refine h_get (v := .int (I0 a0 0)) hx hb hts iX6 hown g t_a0 (by decide) so_7 rfl 0 (by decide) (hts (.fieldLink RX6 9 "CapLeague$Player" "club" "I") (by decide +kernel)) rfl dX6_isSigned_1 rfl ?_
  refine lv_topi (fun v1 ev1 => ?_)
  have jv1 := hI.rd a0 0 t_a0 ev1 (rfl : h_bd 7 0 = ((-1), 7))
  refine lv_iconst (v := (-1)) hx hb dX6_isSigned_4 (by decide) ?_
  refine lv_icmp_eq (tgt := 12) hx hb dX6_isSigned_5 (by decide) (fun c2 => ?_) (fun c2 => ?_)
  · have ic2 := (xi_eq c2 rfl (by decide) : v1.toInt = (-1))
    refine lv_iconst (v := 0) hx hb dX6_isSigned_12 (by decide) ?_
    exact W.zret (v := 0) hx hb hr (by decide) (fun t ht hW => ⟨0, rfl, ⟨(by decide), (by decide)⟩, ht⟩) (fun _ h => by cases h) dX6_isSigned_13
  · have ic2 := (xi_ne c2 rfl (by decide) : v1.toInt ≠ (-1))
    refine lv_iconst (v := 1) hx hb dX6_isSigned_8 (by decide) ?_
    refine lv_goto (tgt := 13) hx hb dX6_isSigned_9 (by decide) ?_
    exact W.zret (v := 1) hx hb hr (by decide) (fun t ht hW => ⟨1, rfl, ⟨(by decide), (by decide)⟩, ht⟩) (fun _ h => by cases h) dX6_isSigned_13
set_option maxHeartbeats 4000000 in
set_option maxRecDepth 100000 in
theorem tX6_payIn (l : Launch) (E : tE) (X : tX) (A : Nat → Prop) (z : tZ) (I0 : tI) (L0 : tL) (a0 : Nat) (t_a0 : z.ty a0 = 7) (y : Int32) (y_t : Int) (h_y : y.toInt = y_t) : Met l yX6_payIn wsX6_payIn ({ frames := 2, cells := 0, slots := 0, locals := 128 }) (va_Pc [.ref a0, .int y] (h_P E X A z I0 L0)) (vp_Si (fun r => True)) 0 0 (fun _ => False) := by
  refine Met.ofW (cc := cX6_payIn) (maxL := 2) (ret := (some .int)) (by decide) rfl ?_
  intro pr_ ev_ s m args below meth cd_ s₁ B hml hv
  obtain ⟨rfl, hE, hk, hX, hA, hK, hI, hR, hB0⟩ := hv
  have g : h_G h_so h_fk E A z I0 L0 s s.heap s.heap [] := ⟨hK, va_S.rf, hB0⟩
  have hx := B.exec
  have hb := B.bytes
  have hr := B.returns
  have hts := atoms_spec (ws := wsX6_payIn) B.pre
  have hown : s.vm.findClass RX6 = some m.cls := findClass_of_methodNamed B.named
  have hlocks := B.notSynchronized
  have iX6 : ∀ w ∈ u_ws RX6 TX6 9, w ∈ wsX6_payIn := by decide +kernel
  have hl := lv_entry ([.ref a0, .int y]) (n := 2) (Nat.le_of_ble_eq_true rfl)
  rw [lg_entry_eq]
  generalize (lg_sl ([.ref a0, .int y]) ++ List.replicate (2 - (lg_sl ([.ref a0, .int y])).length) Slot.unset).toArray = ls at hl ⊢
  have hl : lv_has ls 2 [(0, .ref a0), (1, .int y)] := hl
  have b_y : -2147483648 ≤ y_t ∧ y_t ≤ 2147483647 := h_y ▸ ⟨xi_lo y, Int.le_of_lt_add_one (xi_hi y)⟩
  refine lv_aload_n hx hb dX6_payIn_0 rfl (lv_at hl 0 rfl) ?_
  refine vp_callSi (W.runV (As := []) (rest := []) ⟨hx, hb, hml, hown, hts⟩ (tX6_isSigned l E X A z I0 L0 a0 t_a0) (cwV 0 hts gX6_payIn_X6_isSigned rfl rfl rfl (by decide +kernel) ⟨Nat.le_of_ble_eq_true rfl, Nat.le_of_ble_eq_true rfl⟩) ⟨h_blind _ _ _ _ _ _ _, h_recv g t_a0 (by decide) so_7 (q := (RX6, TX6, 9)) rfl, h_pre _ hE hk hX hA hI hR g⟩ rfl rfl hl.1 rfl (lv_room (Nat.le_of_ble_eq_true rfl)) dX6_payIn_1 ⟨Nat.le_of_ble_eq_true rfl, Nat.le_of_ble_eq_true rfl⟩) (fun rh1 h1 => ?_)
  refine lv_if_eq (tgt := 23) hx hb dX6_payIn_4 (by decide) (fun c2 => ?_) (fun c2 => ?_)
  · have ic2 := (xi_eq c2 rfl (by decide) : rh1.toInt = 0)
    refine lv_iconst (v := 0) hx hb dX6_payIn_23 (by decide) ?_
    exact W.iret (v := 0) hx hb hr (fun t ht hW => ⟨0, rfl, trivial, ht⟩) (fun _ h => by cases h) dX6_payIn_24
  · have ic2 := (xi_ne c2 rfl (by decide) : rh1.toInt ≠ 0)
    refine lv_iload_n hx hb dX6_payIn_7 rfl (lv_at hl 1 rfl) ?_
    refine lv_aload_n hx hb dX6_payIn_8 rfl (lv_at hl 0 rfl) ?_
    refine h_get (v := .int (I0 a0 1)) hx hb hts iX6 hown g t_a0 (by decide) so_7 rfl 1 (by decide) (hts (.fieldLink RX6 19 "CapLeague$Player" "from" "I") (by decide +kernel)) rfl dX6_payIn_9 rfl ?_
    refine lv_topi (fun v3 ev3 => ?_)
    have jv3 := hI.rd a0 1 t_a0 ev3 (rfl : h_bd 7 1 = ((-2147483648), 2147483647))
    refine lv_icmp_lt (tgt := 23) hx hb dX6_payIn_12 (by decide) (fun c4 => ?_) (fun c4 => ?_)
    · have ic4 := (xi_lt c4 h_y rfl : y_t < v3.toInt)
      refine lv_iconst (v := 0) hx hb dX6_payIn_23 (by decide) ?_
      exact W.iret (v := 0) hx hb hr (fun t ht hW => ⟨0, rfl, trivial, ht⟩) (fun _ h => by cases h) dX6_payIn_24
    · have ic4 := (xi_nlt c4 h_y rfl : v3.toInt ≤ y_t)
      refine lv_iload_n hx hb dX6_payIn_15 rfl (lv_at hl 1 rfl) ?_
      refine lv_aload_n hx hb dX6_payIn_16 rfl (lv_at hl 0 rfl) ?_
      refine h_get (v := .int (I0 a0 2)) hx hb hts iX6 hown g t_a0 (by decide) so_7 rfl 2 (by decide) (hts (.fieldLink RX6 22 "CapLeague$Player" "last" "I") (by decide +kernel)) rfl dX6_payIn_17 rfl ?_
      refine lv_topi (fun v5 ev5 => ?_)
      have jv5 := hI.rd a0 2 t_a0 ev5 (rfl : h_bd 7 2 = ((-2147483648), 2147483647))
      refine lv_icmp_le (tgt := 25) hx hb dX6_payIn_20 (by decide) (fun c6 => ?_) (fun c6 => ?_)
      · have ic6 := (xi_le c6 h_y rfl : y_t ≤ v5.toInt)
        refine lv_iconst (v := 0) hx hb dX6_payIn_25 (by decide) ?_
        refine lv_aload_n hx hb dX6_payIn_26 rfl (lv_at hl 0 rfl) ?_
        refine h_get (v := .int (I0 a0 3)) hx hb hts iX6 hown g t_a0 (by decide) so_7 rfl 3 (by decide) (hts (.fieldLink RX6 25 "CapLeague$Player" "pay" "I") (by decide +kernel)) rfl dX6_payIn_27 rfl ?_
        refine lv_topi (fun v7 ev7 => ?_)
        have jv7 := hI.rd a0 3 t_a0 ev7 (rfl : h_bd 7 3 = ((-2147483648), 2147483647))
        refine lv_aload_n hx hb dX6_payIn_30 rfl (lv_at hl 0 rfl) ?_
        refine h_get (v := .int (I0 a0 4)) hx hb hts iX6 hown g t_a0 (by decide) so_7 rfl 4 (by decide) (hts (.fieldLink RX6 28 "CapLeague$Player" "rise" "I") (by decide +kernel)) rfl dX6_payIn_31 rfl ?_
        refine lv_topi (fun v8 ev8 => ?_)
        have jv8 := hI.rd a0 4 t_a0 ev8 (rfl : h_bd 7 4 = ((-2147483648), 2147483647))
        refine lv_iload_n hx hb dX6_payIn_34 rfl (lv_at hl 1 rfl) ?_
        refine lv_aload_n hx hb dX6_payIn_35 rfl (lv_at hl 0 rfl) ?_
        refine h_get (v := .int v3) hx hb hts iX6 hown g t_a0 (by decide) so_7 rfl 1 (by decide) (hts (.fieldLink RX6 19 "CapLeague$Player" "from" "I") (by decide +kernel)) rfl dX6_payIn_36 (congrArg Value.int (ev3.symm)) ?_
        refine lv_isub hx hb dX6_payIn_39 ?_
        refine lv_topi (fun v9 ev9 => ?_)
        have jv9 : -2147483648 ≤ v9.toInt ∧ v9.toInt ≤ 2147483647 := ⟨xi_lo _, Int.le_of_lt_add_one (xi_hi _)⟩
        refine lv_imul hx hb dX6_payIn_40 ?_
        refine lv_topi (fun v10 ev10 => ?_)
        have jv10 : -2147483648 ≤ v10.toInt ∧ v10.toInt ≤ 2147483647 := ⟨xi_lo _, Int.le_of_lt_add_one (xi_hi _)⟩
        refine lv_iadd hx hb dX6_payIn_41 ?_
        refine lv_topi (fun v11 ev11 => ?_)
        have jv11 : -2147483648 ≤ v11.toInt ∧ v11.toInt ≤ 2147483647 := ⟨xi_lo _, Int.le_of_lt_add_one (xi_hi _)⟩
        refine va_mmax hx hb (hml.trans hl.1.symm) hown (hts (.methodLink RX6 46 Lib.Math.max.name) (by decide +kernel)) (hts (.static Lib.Math.max.name) (by decide +kernel)) (hts (.initialized "java/lang/Math") (by decide +kernel)) (hts (.code Lib.Math.max.name Lib.Math.max.code 2 (some .int)) (by decide +kernel)) (Nat.le_of_ble_eq_true rfl) (Nat.le_of_ble_eq_true rfl) (Nat.le_of_ble_eq_true rfl) (Nat.le_of_ble_eq_true rfl) dX6_payIn_42 ?_
        refine lv_topi (fun v12 ev12 => ?_)
        have jv12 := h_max (a := 0) (b := v11.toInt) ev12 (by decide) rfl
        exact W.iret (v := v12) hx hb hr (fun t ht hW => ⟨v12, rfl, trivial, ht⟩) (fun _ h => by cases h) dX6_payIn_45
      · have ic6 := (xi_nle c6 h_y rfl : v5.toInt < y_t)
        refine lv_iconst (v := 0) hx hb dX6_payIn_23 (by decide) ?_
        exact W.iret (v := 0) hx hb hr (fun t ht hW => ⟨0, rfl, trivial, ht⟩) (fun _ h => by cases h) dX6_payIn_24
set_option maxHeartbeats 4000000 in
set_option maxRecDepth 100000 in
theorem tX6_isBoundIn (l : Launch) (E : tE) (X : tX) (A : Nat → Prop) (z : tZ) (I0 : tI) (L0 : tL) (a0 : Nat) (t_a0 : z.ty a0 = 7) (y : Int32) (y_t : Int) (h_y : y.toInt = y_t) : Met l yX6_isBoundIn wsX6_isBoundIn ({ frames := 2, cells := 0, slots := 0, locals := 128 }) (va_Pc [.ref a0, .int y] (h_P E X A z I0 L0)) (vp_Si (fun r => (0 ≤ r.toInt ∧ r.toInt ≤ 1))) 0 0 (fun _ => False) := by
  refine Met.ofW (cc := cX6_isBoundIn) (maxL := 2) (ret := (some .boolean)) (by decide) rfl ?_
  intro pr_ ev_ s m args below meth cd_ s₁ B hml hv
  obtain ⟨rfl, hE, hk, hX, hA, hK, hI, hR, hB0⟩ := hv
  have g : h_G h_so h_fk E A z I0 L0 s s.heap s.heap [] := ⟨hK, va_S.rf, hB0⟩
  have hx := B.exec
  have hb := B.bytes
  have hr := B.returns
  have hts := atoms_spec (ws := wsX6_isBoundIn) B.pre
  have hown : s.vm.findClass RX6 = some m.cls := findClass_of_methodNamed B.named
  have hlocks := B.notSynchronized
  have iX6 : ∀ w ∈ u_ws RX6 TX6 9, w ∈ wsX6_isBoundIn := by decide +kernel
  have hl := lv_entry ([.ref a0, .int y]) (n := 2) (Nat.le_of_ble_eq_true rfl)
  rw [lg_entry_eq]
  generalize (lg_sl ([.ref a0, .int y]) ++ List.replicate (2 - (lg_sl ([.ref a0, .int y])).length) Slot.unset).toArray = ls at hl ⊢
  have hl : lv_has ls 2 [(0, .ref a0), (1, .int y)] := hl
  have b_y : -2147483648 ≤ y_t ∧ y_t ≤ 2147483647 := h_y ▸ ⟨xi_lo y, Int.le_of_lt_add_one (xi_hi y)⟩
  refine lv_aload_n hx hb dX6_isBoundIn_0 rfl (lv_at hl 0 rfl) ?_
  refine vp_callSi (W.runV (As := []) (rest := []) ⟨hx, hb, hml, hown, hts⟩ (tX6_isSigned l E X A z I0 L0 a0 t_a0) (cwV 0 hts gX6_isBoundIn_X6_isSigned rfl rfl rfl (by decide +kernel) ⟨Nat.le_of_ble_eq_true rfl, Nat.le_of_ble_eq_true rfl⟩) ⟨h_blind _ _ _ _ _ _ _, h_recv g t_a0 (by decide) so_7 (q := (RX6, TX6, 9)) rfl, h_pre _ hE hk hX hA hI hR g⟩ rfl rfl hl.1 rfl (lv_room (Nat.le_of_ble_eq_true rfl)) dX6_isBoundIn_1 ⟨Nat.le_of_ble_eq_true rfl, Nat.le_of_ble_eq_true rfl⟩) (fun rh1 h1 => ?_)
  refine lv_if_eq (tgt := 43) hx hb dX6_isBoundIn_4 (by decide) (fun c2 => ?_) (fun c2 => ?_)
  · have ic2 := (xi_eq c2 rfl (by decide) : rh1.toInt = 0)
    refine lv_iconst (v := 0) hx hb dX6_isBoundIn_43 (by decide) ?_
    exact W.zret (v := 0) hx hb hr (by decide) (fun t ht hW => ⟨0, rfl, ⟨(by decide), (by decide)⟩, ht⟩) (fun _ h => by cases h) dX6_isBoundIn_44
  · have ic2 := (xi_ne c2 rfl (by decide) : rh1.toInt ≠ 0)
    refine lv_iload_n hx hb dX6_isBoundIn_7 rfl (lv_at hl 1 rfl) ?_
    refine lv_aload_n hx hb dX6_isBoundIn_8 rfl (lv_at hl 0 rfl) ?_
    refine h_get (v := .int (I0 a0 1)) hx hb hts iX6 hown g t_a0 (by decide) so_7 rfl 1 (by decide) (hts (.fieldLink RX6 19 "CapLeague$Player" "from" "I") (by decide +kernel)) rfl dX6_isBoundIn_9 rfl ?_
    refine lv_topi (fun v3 ev3 => ?_)
    have jv3 := hI.rd a0 1 t_a0 ev3 (rfl : h_bd 7 1 = ((-2147483648), 2147483647))
    refine lv_icmp_lt (tgt := 43) hx hb dX6_isBoundIn_12 (by decide) (fun c4 => ?_) (fun c4 => ?_)
    · have ic4 := (xi_lt c4 h_y rfl : y_t < v3.toInt)
      refine lv_iconst (v := 0) hx hb dX6_isBoundIn_43 (by decide) ?_
      exact W.zret (v := 0) hx hb hr (by decide) (fun t ht hW => ⟨0, rfl, ⟨(by decide), (by decide)⟩, ht⟩) (fun _ h => by cases h) dX6_isBoundIn_44
    · have ic4 := (xi_nlt c4 h_y rfl : v3.toInt ≤ y_t)
      refine lv_iload_n hx hb dX6_isBoundIn_15 rfl (lv_at hl 1 rfl) ?_
      refine lv_aload_n hx hb dX6_isBoundIn_16 rfl (lv_at hl 0 rfl) ?_
      refine h_get (v := .int (I0 a0 6)) hx hb hts iX6 hown g t_a0 (by decide) so_7 rfl 6 (by decide) (hts (.fieldLink RX6 34 "CapLeague$Player" "choiceOpen" "Z") (by decide +kernel)) rfl dX6_isBoundIn_17 rfl ?_
      refine lv_topi (fun v5 ev5 => ?_)
      have jv5 := hI.rd a0 6 t_a0 ev5 (rfl : h_bd 7 6 = (0, 1))
      refine lv_if_eq (tgt := 32) hx hb dX6_isBoundIn_20 (by decide) (fun c6 => ?_) (fun c6 => ?_)
      · have ic6 := (xi_eq c6 rfl (by decide) : v5.toInt = 0)
        refine lv_aload_n hx hb dX6_isBoundIn_32 rfl (lv_at hl 0 rfl) ?_
        refine h_get (v := .int (I0 a0 2)) hx hb hts iX6 hown g t_a0 (by decide) so_7 rfl 2 (by decide) (hts (.fieldLink RX6 22 "CapLeague$Player" "last" "I") (by decide +kernel)) rfl dX6_isBoundIn_33 rfl ?_
        refine lv_topi (fun v7 ev7 => ?_)
        have jv7 := hI.rd a0 2 t_a0 ev7 (rfl : h_bd 7 2 = ((-2147483648), 2147483647))
        refine lv_icmp_gt (tgt := 43) hx hb dX6_isBoundIn_36 (by decide) (fun c8 => ?_) (fun c8 => ?_)
        · have ic8 := (xi_lt c8 rfl h_y : v7.toInt < y_t)
          refine lv_iconst (v := 0) hx hb dX6_isBoundIn_43 (by decide) ?_
          exact W.zret (v := 0) hx hb hr (by decide) (fun t ht hW => ⟨0, rfl, ⟨(by decide), (by decide)⟩, ht⟩) (fun _ h => by cases h) dX6_isBoundIn_44
        · have ic8 := (xi_nlt c8 rfl h_y : y_t ≤ v7.toInt)
          refine lv_iconst (v := 1) hx hb dX6_isBoundIn_39 (by decide) ?_
          refine lv_goto (tgt := 44) hx hb dX6_isBoundIn_40 (by decide) ?_
          exact W.zret (v := 1) hx hb hr (by decide) (fun t ht hW => ⟨1, rfl, ⟨(by decide), (by decide)⟩, ht⟩) (fun _ h => by cases h) dX6_isBoundIn_44
      · have ic6 := (xi_ne c6 rfl (by decide) : v5.toInt ≠ 0)
        refine lv_aload_n hx hb dX6_isBoundIn_23 rfl (lv_at hl 0 rfl) ?_
        refine h_get (v := .int (I0 a0 2)) hx hb hts iX6 hown g t_a0 (by decide) so_7 rfl 2 (by decide) (hts (.fieldLink RX6 22 "CapLeague$Player" "last" "I") (by decide +kernel)) rfl dX6_isBoundIn_24 rfl ?_
        refine lv_topi (fun v9 ev9 => ?_)
        have jv9 := hI.rd a0 2 t_a0 ev9 (rfl : h_bd 7 2 = ((-2147483648), 2147483647))
        refine lv_iconst (v := 1) hx hb dX6_isBoundIn_27 (by decide) ?_
        refine lv_isub hx hb dX6_isBoundIn_28 ?_
        refine lv_topi (fun v10 ev10 => ?_)
        have jv10 : -2147483648 ≤ v10.toInt ∧ v10.toInt ≤ 2147483647 := ⟨xi_lo _, Int.le_of_lt_add_one (xi_hi _)⟩
        refine lv_goto (tgt := 36) hx hb dX6_isBoundIn_29 (by decide) ?_
        refine lv_icmp_gt (tgt := 43) hx hb dX6_isBoundIn_36 (by decide) (fun c11 => ?_) (fun c11 => ?_)
        · have ic11 := (xi_lt c11 rfl h_y : v10.toInt < y_t)
          refine lv_iconst (v := 0) hx hb dX6_isBoundIn_43 (by decide) ?_
          exact W.zret (v := 0) hx hb hr (by decide) (fun t ht hW => ⟨0, rfl, ⟨(by decide), (by decide)⟩, ht⟩) (fun _ h => by cases h) dX6_isBoundIn_44
        · have ic11 := (xi_nlt c11 rfl h_y : y_t ≤ v10.toInt)
          refine lv_iconst (v := 1) hx hb dX6_isBoundIn_39 (by decide) ?_
          refine lv_goto (tgt := 44) hx hb dX6_isBoundIn_40 (by decide) ?_
          exact W.zret (v := 1) hx hb hr (by decide) (fun t ht hW => ⟨1, rfl, ⟨(by decide), (by decide)⟩, ht⟩) (fun _ h => by cases h) dX6_isBoundIn_44
set_option maxHeartbeats 4000000 in
set_option maxRecDepth 100000 in
theorem tX6_fact (l : Launch) (E : tE) (X : tX) (A : Nat → Prop) (z : tZ) (I0 : tI) (L0 : tL) (a0 : Nat) (t_a0 : z.ty a0 = 7) (x : Int32) (x_t : Int) (h_x : x.toInt = x_t) : Met l yX6_fact wsX6_fact ({ frames := 3, cells := 0, slots := 0, locals := 192 }) (va_Pc [.ref a0, .int x] (h_P E X A z I0 L0)) (vp_Si (fun r => True)) 0 0 (fun _ => False) := by
  refine Met.ofW (cc := cX6_fact) (maxL := 2) (ret := (some .int)) (by decide) rfl ?_
  intro pr_ ev_ s m args below meth cd_ s₁ B hml hv
  obtain ⟨rfl, hE, hk, hX, hA, hK, hI, hR, hB0⟩ := hv
  have g : h_G h_so h_fk E A z I0 L0 s s.heap s.heap [] := ⟨hK, va_S.rf, hB0⟩
  have hx := B.exec
  have hb := B.bytes
  have hr := B.returns
  have hts := atoms_spec (ws := wsX6_fact) B.pre
  have hown : s.vm.findClass RX6 = some m.cls := findClass_of_methodNamed B.named
  have hlocks := B.notSynchronized
  have iX6 : ∀ w ∈ u_ws RX6 TX6 9, w ∈ wsX6_fact := by decide +kernel
  have hl := lv_entry ([.ref a0, .int x]) (n := 2) (Nat.le_of_ble_eq_true rfl)
  rw [lg_entry_eq]
  generalize (lg_sl ([.ref a0, .int x]) ++ List.replicate (2 - (lg_sl ([.ref a0, .int x])).length) Slot.unset).toArray = ls at hl ⊢
  have hl : lv_has ls 2 [(0, .ref a0), (1, .int x)] := hl
  have b_x : -2147483648 ≤ x_t ∧ x_t ≤ 2147483647 := h_x ▸ ⟨xi_lo x, Int.le_of_lt_add_one (xi_hi x)⟩
  refine lv_iload_n hx hb dX6_fact_0 rfl (lv_at hl 1 rfl) ?_
  have qc1 : x.toInt = x_t := h_x
  rcases (show (x.toInt < 0 ∨ 4 < x.toInt) ∨ x.toInt = 0 ∨ x.toInt = 1 ∨ x.toInt = 2 ∨ x.toInt = 3 ∨ x.toInt = 4 by omega) with c1 | c1 | c1 | c1 | c1 | c1
  · refine lv_tableOut (tgt := 88) hx hb dX6_fact_1 c1 (by decide) ?_
    refine lv_iload_n hx hb dX6_fact_88 rfl (lv_at hl 1 rfl) ?_
    refine lv_bipush (v := 10) hx hb dX6_fact_89 (by decide) ?_
    refine lv_icmp_lt (tgt := 111) hx hb dX6_fact_91 (by decide) (fun c2 => ?_) (fun c2 => ?_)
    · have ic2 := (xi_lt c2 h_x (by decide) : x_t < 10)
      refine lv_bipush (v := (-9)) hx hb dX6_fact_111 (by decide) ?_
      exact W.iret (v := (-9)) hx hb hr (fun t ht hW => ⟨(-9), rfl, trivial, ht⟩) (fun _ h => by cases h) dX6_fact_113
    · have ic2 := (xi_nlt c2 h_x (by decide) : 10 ≤ x_t)
      refine lv_iload_n hx hb dX6_fact_94 rfl (lv_at hl 1 rfl) ?_
      refine lv_bipush (v := 20) hx hb dX6_fact_95 (by decide) ?_
      refine lv_icmp_ge (tgt := 111) hx hb dX6_fact_97 (by decide) (fun c3 => ?_) (fun c3 => ?_)
      · have ic3 := (xi_le c3 (by decide) h_x : 20 ≤ x_t)
        refine lv_bipush (v := (-9)) hx hb dX6_fact_111 (by decide) ?_
        exact W.iret (v := (-9)) hx hb hr (fun t ht hW => ⟨(-9), rfl, trivial, ht⟩) (fun _ h => by cases h) dX6_fact_113
      · have ic3 := (xi_nle c3 (by decide) h_x : x_t < 20)
        refine lv_aload_n hx hb dX6_fact_100 rfl (lv_at hl 0 rfl) ?_
        refine lv_iload_n hx hb dX6_fact_101 rfl (lv_at hl 1 rfl) ?_
        refine lv_bipush (v := 10) hx hb dX6_fact_102 (by decide) ?_
        refine lv_isub hx hb dX6_fact_104 ?_
        refine lv_topi (fun v4 ev4 => ?_)
        have jv4 : v4.toInt = x_t - 10 := xi_sub ev4 h_x (by decide) (by omega) (by omega)
        refine vp_callSi (W.runV (As := [.int v4]) (rest := []) ⟨hx, hb, hml, hown, hts⟩ (tX6_payIn l E X A z I0 L0 a0 t_a0 v4 (v4.toInt) rfl) (cwV 1 hts gX6_fact_X6_payIn rfl rfl rfl (by decide +kernel) ⟨Nat.le_of_ble_eq_true rfl, Nat.le_of_ble_eq_true rfl⟩) ⟨h_blind _ _ _ _ _ _ _, h_recv g t_a0 (by decide) so_7 (q := (RX6, TX6, 9)) rfl, h_pre _ hE hk hX hA hI hR g⟩ rfl rfl hl.1 rfl (lv_room (Nat.le_of_ble_eq_true rfl)) dX6_fact_105 ⟨Nat.le_of_ble_eq_true rfl, Nat.le_of_ble_eq_true rfl⟩) (fun rh5 h5 => ?_)
        have jrh5 : -2147483648 ≤ rh5.toInt ∧ rh5.toInt ≤ 2147483647 := ⟨xi_lo _, Int.le_of_lt_add_one (xi_hi _)⟩
        refine lv_goto (tgt := 113) hx hb dX6_fact_108 (by decide) ?_
        exact W.iret (v := rh5) hx hb hr (fun t ht hW => ⟨rh5, rfl, trivial, ht⟩) (fun _ h => by cases h) dX6_fact_113
  · refine lv_tableIn (off := 35) (tgt := 36) hx hb dX6_fact_1 (by omega) (by omega) (by rw [show (x.toInt - 0).toNat = 0 by omega]; rfl) (by decide) ?_
    refine lv_aload_n hx hb dX6_fact_36 rfl (lv_at hl 0 rfl) ?_
    refine h_get (v := .int (I0 a0 0)) hx hb hts iX6 hown g t_a0 (by decide) so_7 rfl 0 (by decide) (hts (.fieldLink RX6 9 "CapLeague$Player" "club" "I") (by decide +kernel)) rfl dX6_fact_37 rfl ?_
    refine lv_topi (fun v6 ev6 => ?_)
    have jv6 := hI.rd a0 0 t_a0 ev6 (rfl : h_bd 7 0 = ((-1), 7))
    exact W.iret (v := v6) hx hb hr (fun t ht hW => ⟨v6, rfl, trivial, ht⟩) (fun _ h => by cases h) dX6_fact_40
  · refine lv_tableIn (off := 40) (tgt := 41) hx hb dX6_fact_1 (by omega) (by omega) (by rw [show (x.toInt - 0).toNat = 1 by omega]; rfl) (by decide) ?_
    refine lv_aload_n hx hb dX6_fact_41 rfl (lv_at hl 0 rfl) ?_
    refine vp_callSi (W.runV (As := []) (rest := []) ⟨hx, hb, hml, hown, hts⟩ (tX6_isSigned l E X A z I0 L0 a0 t_a0) (cwV 0 hts gX6_fact_X6_isSigned rfl rfl rfl (by decide +kernel) ⟨Nat.le_of_ble_eq_true rfl, Nat.le_of_ble_eq_true rfl⟩) ⟨h_blind _ _ _ _ _ _ _, h_recv g t_a0 (by decide) so_7 (q := (RX6, TX6, 9)) rfl, h_pre _ hE hk hX hA hI hR g⟩ rfl rfl hl.1 rfl (lv_room (Nat.le_of_ble_eq_true rfl)) dX6_fact_42 ⟨Nat.le_of_ble_eq_true rfl, Nat.le_of_ble_eq_true rfl⟩) (fun rh7 h7 => ?_)
    refine lv_if_eq (tgt := 55) hx hb dX6_fact_45 (by decide) (fun c8 => ?_) (fun c8 => ?_)
    · have ic8 := (xi_eq c8 rfl (by decide) : rh7.toInt = 0)
      refine lv_iconst (v := (-1)) hx hb dX6_fact_55 (by decide) ?_
      exact W.iret (v := (-1)) hx hb hr (fun t ht hW => ⟨(-1), rfl, trivial, ht⟩) (fun _ h => by cases h) dX6_fact_56
    · have ic8 := (xi_ne c8 rfl (by decide) : rh7.toInt ≠ 0)
      refine lv_aload_n hx hb dX6_fact_48 rfl (lv_at hl 0 rfl) ?_
      refine h_get (v := .int (I0 a0 2)) hx hb hts iX6 hown g t_a0 (by decide) so_7 rfl 2 (by decide) (hts (.fieldLink RX6 22 "CapLeague$Player" "last" "I") (by decide +kernel)) rfl dX6_fact_49 rfl ?_
      refine lv_topi (fun v9 ev9 => ?_)
      have jv9 := hI.rd a0 2 t_a0 ev9 (rfl : h_bd 7 2 = ((-2147483648), 2147483647))
      refine lv_goto (tgt := 56) hx hb dX6_fact_52 (by decide) ?_
      exact W.iret (v := v9) hx hb hr (fun t ht hW => ⟨v9, rfl, trivial, ht⟩) (fun _ h => by cases h) dX6_fact_56
  · refine lv_tableIn (off := 56) (tgt := 57) hx hb dX6_fact_1 (by omega) (by omega) (by rw [show (x.toInt - 0).toNat = 2 by omega]; rfl) (by decide) ?_
    refine lv_aload_n hx hb dX6_fact_57 rfl (lv_at hl 0 rfl) ?_
    refine h_get (v := .int (I0 a0 6)) hx hb hts iX6 hown g t_a0 (by decide) so_7 rfl 6 (by decide) (hts (.fieldLink RX6 34 "CapLeague$Player" "choiceOpen" "Z") (by decide +kernel)) rfl dX6_fact_58 rfl ?_
    refine lv_topi (fun v10 ev10 => ?_)
    have jv10 := hI.rd a0 6 t_a0 ev10 (rfl : h_bd 7 6 = (0, 1))
    refine lv_if_eq (tgt := 68) hx hb dX6_fact_61 (by decide) (fun c11 => ?_) (fun c11 => ?_)
    · have ic11 := (xi_eq c11 rfl (by decide) : v10.toInt = 0)
      refine lv_iconst (v := 0) hx hb dX6_fact_68 (by decide) ?_
      exact W.iret (v := 0) hx hb hr (fun t ht hW => ⟨0, rfl, trivial, ht⟩) (fun _ h => by cases h) dX6_fact_69
    · have ic11 := (xi_ne c11 rfl (by decide) : v10.toInt ≠ 0)
      refine lv_iconst (v := 1) hx hb dX6_fact_64 (by decide) ?_
      refine lv_goto (tgt := 69) hx hb dX6_fact_65 (by decide) ?_
      exact W.iret (v := 1) hx hb hr (fun t ht hW => ⟨1, rfl, trivial, ht⟩) (fun _ h => by cases h) dX6_fact_69
  · refine lv_tableIn (off := 69) (tgt := 70) hx hb dX6_fact_1 (by omega) (by omega) (by rw [show (x.toInt - 0).toNat = 3 by omega]; rfl) (by decide) ?_
    refine lv_aload_n hx hb dX6_fact_70 rfl (lv_at hl 0 rfl) ?_
    refine h_get (v := .int (I0 a0 5)) hx hb hts iX6 hown g t_a0 (by decide) so_7 rfl 5 (by decide) (hts (.fieldLink RX6 31 "CapLeague$Player" "sure" "I") (by decide +kernel)) rfl dX6_fact_71 rfl ?_
    refine lv_topi (fun v12 ev12 => ?_)
    have jv12 := hI.rd a0 5 t_a0 ev12 (rfl : h_bd 7 5 = ((-2147483648), 2147483647))
    exact W.iret (v := v12) hx hb hr (fun t ht hW => ⟨v12, rfl, trivial, ht⟩) (fun _ h => by cases h) dX6_fact_74
  · refine lv_tableIn (off := 74) (tgt := 75) hx hb dX6_fact_1 (by omega) (by omega) (by rw [show (x.toInt - 0).toNat = 4 by omega]; rfl) (by decide) ?_
    refine lv_aload_n hx hb dX6_fact_75 rfl (lv_at hl 0 rfl) ?_
    refine h_get (v := .int (I0 a0 7)) hx hb hts iX6 hown g t_a0 (by decide) so_7 rfl 7 (by decide) (hts (.fieldLink RX6 52 "CapLeague$Player" "isHurt" "Z") (by decide +kernel)) rfl dX6_fact_76 rfl ?_
    refine lv_topi (fun v13 ev13 => ?_)
    have jv13 := hI.rd a0 7 t_a0 ev13 (rfl : h_bd 7 7 = (0, 1))
    refine lv_if_eq (tgt := 86) hx hb dX6_fact_79 (by decide) (fun c14 => ?_) (fun c14 => ?_)
    · have ic14 := (xi_eq c14 rfl (by decide) : v13.toInt = 0)
      refine lv_iconst (v := 0) hx hb dX6_fact_86 (by decide) ?_
      exact W.iret (v := 0) hx hb hr (fun t ht hW => ⟨0, rfl, trivial, ht⟩) (fun _ h => by cases h) dX6_fact_87
    · have ic14 := (xi_ne c14 rfl (by decide) : v13.toInt ≠ 0)
      refine lv_iconst (v := 1) hx hb dX6_fact_82 (by decide) ?_
      refine lv_goto (tgt := 87) hx hb dX6_fact_83 (by decide) ?_
      exact W.iret (v := 1) hx hb hr (fun t ht hW => ⟨1, rfl, trivial, ht⟩) (fun _ h => by cases h) dX6_fact_87
set_option maxHeartbeats 4000000 in
set_option maxRecDepth 100000 in
theorem tX0_lawsNow (l : Launch) (E : tE) (X : tX) (A : Nat → Prop) (z : tZ) (I0 : tI) (L0 : tL) (a0 : Nat) (t_a0 : z.ty a0 = 1) : Met l yX0_lawsNow wsX0_lawsNow ({ frames := 2, cells := 0, slots := 0, locals := 128 }) (va_Pc [.ref a0] (h_P E X A z I0 L0)) (va_Sq (fun r => (∃ b, r = some b ∧ z.ty b = 6))) 0 0 (fun _ => False) := by
  refine Met.ofW (cc := cX0_lawsNow) (maxL := 1) (ret := (some (.object "CapLeague$Laws"))) (by decide) rfl ?_
  intro pr_ ev_ s m args below meth cd_ s₁ B hml hv
  obtain ⟨rfl, hE, hk, hX, hA, hK, hI, hR, hB0⟩ := hv
  have g : h_G h_so h_fk E A z I0 L0 s s.heap s.heap [] := ⟨hK, va_S.rf, hB0⟩
  have hx := B.exec
  have hb := B.bytes
  have hr := B.returns
  have hts := atoms_spec (ws := wsX0_lawsNow) B.pre
  have hown : s.vm.findClass RX0 = some m.cls := findClass_of_methodNamed B.named
  have hlocks := B.notSynchronized
  have iX0 : ∀ w ∈ u_ws RX0 TX0 9, w ∈ wsX0_lawsNow := by decide +kernel
  have hl := lv_entry ([.ref a0]) (n := 1) (Nat.le_of_ble_eq_true rfl)
  rw [lg_entry_eq]
  generalize (lg_sl ([.ref a0]) ++ List.replicate (1 - (lg_sl ([.ref a0])).length) Slot.unset).toArray = ls at hl ⊢
  have hl : lv_has ls 1 [(0, .ref a0)] := hl
  refine lv_aload_n hx hb dX0_lawsNow_0 rfl (lv_at hl 0 rfl) ?_
  obtain ⟨b1, rb1, tb1⟩ := hR.at a0 0 t_a0 (rfl : h_rs 1 0 = some (4, false)) (by decide)
  refine h_get (v := .ref b1) hx hb hts iX0 hown g t_a0 (by decide) so_1 rfl 0 (by decide) (hts (.fieldLink RX0 33 "CapLeague$Books" "lawBook" "LCapLeague$LawBook;") (by decide +kernel)) rfl dX0_lawsNow_1 (by show va_rf (z.R a0 0) = _; rw [rb1]; rfl) ?_
  refine lv_aload_n hx hb dX0_lawsNow_4 rfl (lv_at hl 0 rfl) ?_
  refine h_get (v := .int (I0 a0 3)) hx hb hts iX0 hown g t_a0 (by decide) so_1 rfl 3 (by decide) (hts (.fieldLink RX0 37 "CapLeague$Books" "clock" "I") (by decide +kernel)) rfl dX0_lawsNow_5 rfl ?_
  refine lv_topi (fun v2 ev2 => ?_)
  have jv2 := hI.rd a0 3 t_a0 ev2 (rfl : h_bd 1 3 = (0, 9))
  refine va_csq (W.runV (As := [.int v2]) (rest := []) ⟨hx, hb, hml, hown, hts⟩ (tX3_of l E X A z I0 L0 b1 tb1 v2 (v2.toInt) rfl) (cwV 1 hts gX0_lawsNow_X3_of rfl rfl rfl (by decide +kernel) ⟨Nat.le_of_ble_eq_true rfl, Nat.le_of_ble_eq_true rfl⟩) ⟨h_blind _ _ _ _ _ _ _, h_recv g tb1 (by decide) so_4 (q := (RX3, TX3, 2)) rfl, h_pre _ hE hk hX hA hI hR g⟩ rfl rfl hl.1 rfl (lv_room (Nat.le_of_ble_eq_true rfl)) dX0_lawsNow_8 ⟨Nat.le_of_ble_eq_true rfl, Nat.le_of_ble_eq_true rfl⟩) (fun rh3 h3 => ?_)
  obtain ⟨rh3, rfl, trh3⟩ := h3
  refine xw_v (v := .ref rh3) rfl ?_
  exact W.aret (v := .ref rh3) hx hb hr (Or.inl ⟨_, rfl⟩) (Or.inr ⟨_, rfl⟩) (fun t ht hW => ⟨some rh3, rfl, ⟨rh3, rfl, trh3⟩, ht⟩) (fun _ h => by cases h) dX0_lawsNow_11
set_option maxHeartbeats 4000000 in
set_option maxRecDepth 100000 in
theorem tX0_isNowOrLater (l : Launch) (E : tE) (X : tX) (A : Nat → Prop) (z : tZ) (I0 : tI) (L0 : tL) (a0 : Nat) (t_a0 : z.ty a0 = 1) (y : Int32) (y_t : Int) (h_y : y.toInt = y_t) : Met l yX0_isNowOrLater wsX0_isNowOrLater ({ frames := 2, cells := 0, slots := 0, locals := 128 }) (va_Pc [.ref a0, .int y] (h_P E X A z I0 L0)) (vp_Si (fun r => ((r = 0 ∧ True) ∨ (r = 1 ∧ 0 ≤ y_t ∧ y_t ≤ 9)))) 0 0 (fun _ => False) := by
  refine Met.ofW (cc := cX0_isNowOrLater) (maxL := 2) (ret := (some .boolean)) (by decide) rfl ?_
  intro pr_ ev_ s m args below meth cd_ s₁ B hml hv
  obtain ⟨rfl, hE, hk, hX, hA, hK, hI, hR, hB0⟩ := hv
  have g : h_G h_so h_fk E A z I0 L0 s s.heap s.heap [] := ⟨hK, va_S.rf, hB0⟩
  have hx := B.exec
  have hb := B.bytes
  have hr := B.returns
  have hts := atoms_spec (ws := wsX0_isNowOrLater) B.pre
  have hown : s.vm.findClass RX0 = some m.cls := findClass_of_methodNamed B.named
  have hlocks := B.notSynchronized
  have iX0 : ∀ w ∈ u_ws RX0 TX0 9, w ∈ wsX0_isNowOrLater := by decide +kernel
  have hl := lv_entry ([.ref a0, .int y]) (n := 2) (Nat.le_of_ble_eq_true rfl)
  rw [lg_entry_eq]
  generalize (lg_sl ([.ref a0, .int y]) ++ List.replicate (2 - (lg_sl ([.ref a0, .int y])).length) Slot.unset).toArray = ls at hl ⊢
  have hl : lv_has ls 2 [(0, .ref a0), (1, .int y)] := hl
  have b_y : -2147483648 ≤ y_t ∧ y_t ≤ 2147483647 := h_y ▸ ⟨xi_lo y, Int.le_of_lt_add_one (xi_hi y)⟩
  refine lv_iload_n hx hb dX0_isNowOrLater_0 rfl (lv_at hl 1 rfl) ?_
  refine vp_callSi (xr_of (va_runSN (As := [.int y]) (rest := []) ⟨hx, hb, hml, hown, hts⟩ (tX11_isYear l E X A z I0 L0 y (y_t) h_y) (⟨va_cnB 1 hts gX0_isNowOrLater_X11_isYear_n47 rfl rfl rfl (hE.link 5 rfl) (hts (.initialized RX11) (by decide +kernel)) (by decide +kernel) ⟨Nat.le_of_ble_eq_true rfl, Nat.le_of_ble_eq_true rfl⟩, hts (.static yX11_isYear) (by decide +kernel), trivial⟩) ⟨h_blind _ _ _ _ _ _ _, h_pre _ hE hk hX hA hI hR g⟩ rfl rfl hl.1 rfl (lv_room (Nat.le_of_ble_eq_true rfl)) dX0_isNowOrLater_1 ⟨Nat.le_of_ble_eq_true rfl, Nat.le_of_ble_eq_true rfl⟩)) (fun rh1 h1 => ?_)
  rcases h1 with ⟨rfl, h1⟩ | ⟨rfl, h1⟩
  · skip
    refine lv_if_eq (tgt := 19) hx hb dX0_isNowOrLater_4 (by decide) (fun _ => ?_) (fun h => absurd (by decide) h)
    refine lv_iconst (v := 0) hx hb dX0_isNowOrLater_19 (by decide) ?_
    exact W.zret (v := 0) hx hb hr (by decide) (fun t ht hW => ⟨0, rfl, (by exact Or.inl ⟨rfl, trivial⟩), ht⟩) (fun _ h => by cases h) dX0_isNowOrLater_20
  · skip
    refine lv_if_eq (tgt := 19) hx hb dX0_isNowOrLater_4 (by decide) (fun h => absurd h (by decide)) (fun _ => ?_)
    refine lv_iload_n hx hb dX0_isNowOrLater_7 rfl (lv_at hl 1 rfl) ?_
    refine lv_aload_n hx hb dX0_isNowOrLater_8 rfl (lv_at hl 0 rfl) ?_
    refine h_get (v := .int (I0 a0 3)) hx hb hts iX0 hown g t_a0 (by decide) so_1 rfl 3 (by decide) (hts (.fieldLink RX0 37 "CapLeague$Books" "clock" "I") (by decide +kernel)) rfl dX0_isNowOrLater_9 rfl ?_
    refine lv_topi (fun v4 ev4 => ?_)
    have jv4 := hI.rd a0 3 t_a0 ev4 (rfl : h_bd 1 3 = (0, 9))
    refine lv_icmp_lt (tgt := 19) hx hb dX0_isNowOrLater_12 (by decide) (fun c5 => ?_) (fun c5 => ?_)
    · have ic5 := (xi_lt c5 h_y rfl : y_t < v4.toInt)
      refine lv_iconst (v := 0) hx hb dX0_isNowOrLater_19 (by decide) ?_
      exact W.zret (v := 0) hx hb hr (by decide) (fun t ht hW => ⟨0, rfl, (by exact Or.inl ⟨rfl, trivial⟩), ht⟩) (fun _ h => by cases h) dX0_isNowOrLater_20
    · have ic5 := (xi_nlt c5 h_y rfl : v4.toInt ≤ y_t)
      refine lv_iconst (v := 1) hx hb dX0_isNowOrLater_15 (by decide) ?_
      refine lv_goto (tgt := 20) hx hb dX0_isNowOrLater_16 (by decide) ?_
      exact W.zret (v := 1) hx hb hr (by decide) (fun t ht hW => ⟨1, rfl, (by exact Or.inr (⟨rfl, by omega⟩)), ht⟩) (fun _ h => by cases h) dX0_isNowOrLater_20
set_option maxHeartbeats 4000000 in
set_option maxRecDepth 100000 in
theorem tX0_playerAt (l : Launch) (E : tE) (X : tX) (A : Nat → Prop) (z : tZ) (I0 : tI) (L0 : tL) (a0 : Nat) (t_a0 : z.ty a0 = 1) (x : Int32) (x_t : Int) (h_x : x.toInt = x_t) : Met l yX0_playerAt wsX0_playerAt ({ frames := 1, cells := 0, slots := 0, locals := 64 }) (va_Pc [.ref a0, .int x] (h_P E X A z I0 L0)) (va_Sq (fun r => (r = none ∨ ∃ b, r = some b ∧ z.ty b = 7))) 0 0 (fun _ => False) := by
  refine Met.ofW (cc := cX0_playerAt) (maxL := 2) (ret := (some (.object "CapLeague$Player"))) (by decide) rfl ?_
  intro pr_ ev_ s m args below meth cd_ s₁ B hml hv
  obtain ⟨rfl, hE, hk, hX, hA, hK, hI, hR, hB0⟩ := hv
  have g : h_G h_so h_fk E A z I0 L0 s s.heap s.heap [] := ⟨hK, va_S.rf, hB0⟩
  have hx := B.exec
  have hb := B.bytes
  have hr := B.returns
  have hts := atoms_spec (ws := wsX0_playerAt) B.pre
  have hown : s.vm.findClass RX0 = some m.cls := findClass_of_methodNamed B.named
  have hlocks := B.notSynchronized
  have iX0 : ∀ w ∈ u_ws RX0 TX0 9, w ∈ wsX0_playerAt := by decide +kernel
  have hl := lv_entry ([.ref a0, .int x]) (n := 2) (Nat.le_of_ble_eq_true rfl)
  rw [lg_entry_eq]
  generalize (lg_sl ([.ref a0, .int x]) ++ List.replicate (2 - (lg_sl ([.ref a0, .int x])).length) Slot.unset).toArray = ls at hl ⊢
  have hl : lv_has ls 2 [(0, .ref a0), (1, .int x)] := hl
  have b_x : -2147483648 ≤ x_t ∧ x_t ≤ 2147483647 := h_x ▸ ⟨xi_lo x, Int.le_of_lt_add_one (xi_hi x)⟩
  refine lv_iload_n hx hb dX0_playerAt_0 rfl (lv_at hl 1 rfl) ?_
  refine lv_if_lt (tgt := 30) hx hb dX0_playerAt_1 (by decide) (fun c1 => ?_) (fun c1 => ?_)
  · have ic1 := (xi_lt c1 h_x (by decide) : x_t < 0)
    refine lv_null hx hb dX0_playerAt_30 ?_
    exact W.aret (v := .null) hx hb hr (Or.inl ⟨_, rfl⟩) (Or.inl rfl) (fun t ht hW => ⟨none, rfl, Or.inl rfl, ht⟩) (fun _ h => by cases h) dX0_playerAt_31
  · have ic1 := (xi_nlt c1 h_x (by decide) : 0 ≤ x_t)
    refine lv_iload_n hx hb dX0_playerAt_4 rfl (lv_at hl 1 rfl) ?_
    refine lv_aload_n hx hb dX0_playerAt_5 rfl (lv_at hl 0 rfl) ?_
    refine h_get (v := .int (I0 a0 2)) hx hb hts iX0 hown g t_a0 (by decide) so_1 rfl 2 (by decide) (hts (.fieldLink RX0 51 "CapLeague$Books" "size" "I") (by decide +kernel)) rfl dX0_playerAt_6 rfl ?_
    refine lv_topi (fun v2 ev2 => ?_)
    have jv2 := hI.rd a0 2 t_a0 ev2 (rfl : h_bd 1 2 = (0, 60))
    refine lv_icmp_ge (tgt := 30) hx hb dX0_playerAt_9 (by decide) (fun c3 => ?_) (fun c3 => ?_)
    · have ic3 := (xi_le c3 rfl h_x : v2.toInt ≤ x_t)
      refine lv_null hx hb dX0_playerAt_30 ?_
      exact W.aret (v := .null) hx hb hr (Or.inl ⟨_, rfl⟩) (Or.inl rfl) (fun t ht hW => ⟨none, rfl, Or.inl rfl, ht⟩) (fun _ h => by cases h) dX0_playerAt_31
    · have ic3 := (xi_nle c3 rfl h_x : x_t < v2.toInt)
      refine lv_iload_n hx hb dX0_playerAt_12 rfl (lv_at hl 1 rfl) ?_
      refine lv_aload_n hx hb dX0_playerAt_13 rfl (lv_at hl 0 rfl) ?_
      obtain ⟨b4, rb4, tb4⟩ := hR.at a0 1 t_a0 (rfl : h_rs 1 1 = some (101, false)) (by decide)
      refine h_get (v := .ref b4) hx hb hts iX0 hown g t_a0 (by decide) so_1 rfl 1 (by decide) (hts (.fieldLink RX0 11 "CapLeague$Books" "players" "[LCapLeague$Player;") (by decide +kernel)) rfl dX0_playerAt_14 (by show va_rf (z.R a0 1) = _; rw [rb4]; rfl) ?_
      refine h_alen (v := 60) hx hb g tb4 (by decide) (Or.inr (Or.inr (Or.inr (Or.inr (Or.inl so_101))))) rfl dX0_playerAt_17 ?_
      refine lv_icmp_ge (tgt := 30) hx hb dX0_playerAt_18 (by decide) (fun h => absurd (xi_le h (by decide) h_x : 60 ≤ x_t) (by omega)) (fun c5 => ?_)
      have ic5 := (xi_nle c5 (by decide) h_x : x_t < 60)
      refine lv_aload_n hx hb dX0_playerAt_21 rfl (lv_at hl 0 rfl) ?_
      refine h_get (v := .ref b4) hx hb hts iX0 hown g t_a0 (by decide) so_1 rfl 1 (by decide) (hts (.fieldLink RX0 11 "CapLeague$Books" "players" "[LCapLeague$Player;") (by decide +kernel)) rfl dX0_playerAt_22 (by show va_rf (z.R a0 1) = _; rw [rb4]; rfl) ?_
      refine lv_iload_n hx hb dX0_playerAt_25 rfl (lv_at hl 1 rfl) ?_
      rcases hR.nl b4 x.toNatClampNeg tb4 (rfl : h_rs 101 _ = some (7, true)) (by rw [so_101]; exact h_lt (n := 60) (xi_in (by rw [h_x]; omega) (by rw [h_x]; omega))) with rb6 | ⟨b6, rb6, tb6⟩
      · refine h_aldP (v := .null) hx hb g tb4 (by decide) so_101 (xi_in (by rw [h_x]; omega) (by rw [h_x]; omega)) dX0_playerAt_26 (by rw [rb6]; rfl) ?_
        refine lv_goto (tgt := 31) hx hb dX0_playerAt_27 (by decide) ?_
        exact W.aret (v := .null) hx hb hr (Or.inl ⟨_, rfl⟩) (Or.inl rfl) (fun t ht hW => ⟨none, rfl, Or.inl rfl, ht⟩) (fun _ h => by cases h) dX0_playerAt_31
      · refine h_aldP (v := .ref b6) hx hb g tb4 (by decide) so_101 (xi_in (by rw [h_x]; omega) (by rw [h_x]; omega)) dX0_playerAt_26 (by rw [rb6]; rfl) ?_
        refine lv_goto (tgt := 31) hx hb dX0_playerAt_27 (by decide) ?_
        exact W.aret (v := .ref b6) hx hb hr (Or.inl ⟨_, rfl⟩) (Or.inr ⟨_, rfl⟩) (fun t ht hW => ⟨some b6, rfl, Or.inr ⟨b6, rfl, tb6⟩, ht⟩) (fun _ h => by cases h) dX0_playerAt_31
set_option maxHeartbeats 4000000 in
set_option maxRecDepth 100000 in
theorem tX0_countOf (l : Launch) (E : tE) (X : tX) (A : Nat → Prop) (z : tZ) (I0 : tI) (L0 : tL) (a0 : Nat) (t_a0 : z.ty a0 = 1) (p0 : Nat) (t_p0 : z.ty p0 = 7) (y : Int32) (y_t : Int) (h_y : y.toInt = y_t) : Met l yX0_countOf wsX0_countOf ({ frames := 3, cells := 0, slots := 0, locals := 192 }) (va_Pc [.ref a0, .ref p0, .int y] (h_P E X A z I0 L0)) (vp_Si (fun r => True)) 0 0 (fun _ => False) := by
  refine Met.ofW (cc := cX0_countOf) (maxL := 5) (ret := (some .int)) (by decide) rfl ?_
  intro pr_ ev_ s m args below meth cd_ s₁ B hml hv
  obtain ⟨rfl, hE, hk, hX, hA, hK, hI, hR, hB0⟩ := hv
  have g : h_G h_so h_fk E A z I0 L0 s s.heap s.heap [] := ⟨hK, va_S.rf, hB0⟩
  have hx := B.exec
  have hb := B.bytes
  have hr := B.returns
  have hts := atoms_spec (ws := wsX0_countOf) B.pre
  have hown : s.vm.findClass RX0 = some m.cls := findClass_of_methodNamed B.named
  have hlocks := B.notSynchronized
  have iX6 : ∀ w ∈ u_ws RX6 TX6 9, w ∈ wsX0_countOf := by decide +kernel
  have iX0 : ∀ w ∈ u_ws RX0 TX0 9, w ∈ wsX0_countOf := by decide +kernel
  have hl := lv_entry ([.ref a0, .ref p0, .int y]) (n := 5) (Nat.le_of_ble_eq_true rfl)
  rw [lg_entry_eq]
  generalize (lg_sl ([.ref a0, .ref p0, .int y]) ++ List.replicate (5 - (lg_sl ([.ref a0, .ref p0, .int y])).length) Slot.unset).toArray = ls at hl ⊢
  have hl : lv_has ls 5 [(0, .ref a0), (1, .ref p0), (2, .int y)] := hl
  have b_y : -2147483648 ≤ y_t ∧ y_t ≤ 2147483647 := h_y ▸ ⟨xi_lo y, Int.le_of_lt_add_one (xi_hi y)⟩
  refine lv_aload_n hx hb dX0_countOf_0 rfl (lv_at hl 1 rfl) ?_
  refine lv_iload_n hx hb dX0_countOf_1 rfl (lv_at hl 2 rfl) ?_
  refine vp_callSi (W.runV (As := [.int y]) (rest := []) ⟨hx, hb, hml, hown, hts⟩ (tX6_isBoundIn l E X A z I0 L0 p0 t_p0 y (y_t) h_y) (cwV 1 hts gX0_countOf_X6_isBoundIn rfl rfl rfl (by decide +kernel) ⟨Nat.le_of_ble_eq_true rfl, Nat.le_of_ble_eq_true rfl⟩) ⟨h_blind _ _ _ _ _ _ _, h_recv g t_p0 (by decide) so_7 (q := (RX6, TX6, 9)) rfl, h_pre _ hE hk hX hA hI hR g⟩ rfl rfl hl.1 rfl (lv_room (Nat.le_of_ble_eq_true rfl)) dX0_countOf_2 ⟨Nat.le_of_ble_eq_true rfl, Nat.le_of_ble_eq_true rfl⟩) (fun rh1 h1 => ?_)
  refine lv_if_ne (tgt := 10) hx hb dX0_countOf_5 (by decide) (fun c2 => ?_) (fun c2 => ?_)
  · have ic2 := (xi_ne c2 rfl (by decide) : rh1.toInt ≠ 0)
    refine lv_aload_n hx hb dX0_countOf_10 rfl (lv_at hl 1 rfl) ?_
    refine lv_iload_n hx hb dX0_countOf_11 rfl (lv_at hl 2 rfl) ?_
    refine vp_callSi (W.runV (As := [.int y]) (rest := []) ⟨hx, hb, hml, hown, hts⟩ (tX6_payIn l E X A z I0 L0 p0 t_p0 y (y_t) h_y) (cwV 1 hts gX0_countOf_X6_payIn rfl rfl rfl (by decide +kernel) ⟨Nat.le_of_ble_eq_true rfl, Nat.le_of_ble_eq_true rfl⟩) ⟨h_blind _ _ _ _ _ _ _, h_recv g t_p0 (by decide) so_7 (q := (RX6, TX6, 9)) rfl, h_pre _ hE hk hX hA hI hR g⟩ rfl rfl hl.1 rfl (lv_room (Nat.le_of_ble_eq_true rfl)) dX0_countOf_12 ⟨Nat.le_of_ble_eq_true rfl, Nat.le_of_ble_eq_true rfl⟩) (fun rh3 h3 => ?_)
    have jrh3 : -2147483648 ≤ rh3.toInt ∧ rh3.toInt ≤ 2147483647 := ⟨xi_lo _, Int.le_of_lt_add_one (xi_hi _)⟩
    refine lv_istore_n (lv' := [(3, .int rh3), (0, .ref a0), (1, .ref p0), (2, .int y)]) hx hb dX0_countOf_15 rfl hl (by decide) rfl (fun ls hl => ?_)
    refine lv_aload_n hx hb dX0_countOf_16 rfl (lv_at hl 2 rfl) ?_
    refine h_get (v := .int (I0 p0 7)) hx hb hts iX6 hown g t_p0 (by decide) so_7 rfl 7 (by decide) (hts (.fieldLink RX0 62 "CapLeague$Player" "isHurt" "Z") (by decide +kernel)) rfl dX0_countOf_17 rfl ?_
    refine lv_topi (fun v4 ev4 => ?_)
    have jv4 := hI.rd p0 7 t_p0 ev4 (rfl : h_bd 7 7 = (0, 1))
    refine lv_if_eq (tgt := 35) hx hb dX0_countOf_20 (by decide) (fun c5 => ?_) (fun c5 => ?_)
    · have ic5 := (xi_eq c5 rfl (by decide) : v4.toInt = 0)
      refine lv_iconst (v := 0) hx hb dX0_countOf_35 (by decide) ?_
      refine lv_istore (lv' := [(4, .int 0), (3, .int rh3), (0, .ref a0), (1, .ref p0), (2, .int y)]) hx hb dX0_countOf_36 hl (by decide) rfl (fun ls hl => ?_)
      refine lv_iload hx hb dX0_countOf_38 (lv_at hl 0 rfl) ?_
      refine lv_if_eq (tgt := 61) hx hb dX0_countOf_40 (by decide) (fun _ => ?_) (fun h => absurd (by decide) h)
      refine lv_iload_n hx hb dX0_countOf_61 rfl (lv_at hl 1 rfl) ?_
      exact W.iret (v := rh3) hx hb hr (fun t ht hW => ⟨rh3, rfl, trivial, ht⟩) (fun _ h => by cases h) dX0_countOf_62
    · have ic5 := (xi_ne c5 rfl (by decide) : v4.toInt ≠ 0)
      refine lv_iload_n hx hb dX0_countOf_23 rfl (lv_at hl 3 rfl) ?_
      refine lv_aload_n hx hb dX0_countOf_24 rfl (lv_at hl 1 rfl) ?_
      refine h_get (v := .int (I0 a0 3)) hx hb hts iX0 hown g t_a0 (by decide) so_1 rfl 3 (by decide) (hts (.fieldLink RX0 37 "CapLeague$Books" "clock" "I") (by decide +kernel)) rfl dX0_countOf_25 rfl ?_
      refine lv_topi (fun v7 ev7 => ?_)
      have jv7 := hI.rd a0 3 t_a0 ev7 (rfl : h_bd 1 3 = (0, 9))
      refine lv_icmp_ne (tgt := 35) hx hb dX0_countOf_28 (by decide) (fun c8 => ?_) (fun c8 => ?_)
      · have ic8 := (xi_ne c8 h_y rfl : y_t ≠ v7.toInt)
        refine lv_iconst (v := 0) hx hb dX0_countOf_35 (by decide) ?_
        refine lv_istore (lv' := [(4, .int 0), (3, .int rh3), (0, .ref a0), (1, .ref p0), (2, .int y)]) hx hb dX0_countOf_36 hl (by decide) rfl (fun ls hl => ?_)
        refine lv_iload hx hb dX0_countOf_38 (lv_at hl 0 rfl) ?_
        refine lv_if_eq (tgt := 61) hx hb dX0_countOf_40 (by decide) (fun _ => ?_) (fun h => absurd (by decide) h)
        refine lv_iload_n hx hb dX0_countOf_61 rfl (lv_at hl 1 rfl) ?_
        exact W.iret (v := rh3) hx hb hr (fun t ht hW => ⟨rh3, rfl, trivial, ht⟩) (fun _ h => by cases h) dX0_countOf_62
      · have ic8 := (xi_eq c8 h_y rfl : y_t = v7.toInt)
        refine lv_iconst (v := 1) hx hb dX0_countOf_31 (by decide) ?_
        refine lv_goto (tgt := 36) hx hb dX0_countOf_32 (by decide) ?_
        refine lv_istore (lv' := [(4, .int 1), (3, .int rh3), (0, .ref a0), (1, .ref p0), (2, .int y)]) hx hb dX0_countOf_36 hl (by decide) rfl (fun ls hl => ?_)
        refine lv_iload hx hb dX0_countOf_38 (lv_at hl 0 rfl) ?_
        refine lv_if_eq (tgt := 61) hx hb dX0_countOf_40 (by decide) (fun h => absurd h (by decide)) (fun _ => ?_)
        refine lv_iload_n hx hb dX0_countOf_43 rfl (lv_at hl 1 rfl) ?_
        refine lv_iload_n hx hb dX0_countOf_44 rfl (lv_at hl 1 rfl) ?_
        refine lv_aload_n hx hb dX0_countOf_45 rfl (lv_at hl 2 rfl) ?_
        refine va_csq (W.runV (As := []) (rest := [.int rh3, .int rh3]) ⟨hx, hb, hml, hown, hts⟩ (tX0_lawsNow l E X A z I0 L0 a0 t_a0) (cwV 0 hts gX0_countOf_X0_lawsNow rfl rfl rfl (by decide +kernel) ⟨Nat.le_of_ble_eq_true rfl, Nat.le_of_ble_eq_true rfl⟩) ⟨h_blind _ _ _ _ _ _ _, h_recv g t_a0 (by decide) so_1 (q := (RX0, TX0, 9)) rfl, h_pre _ hE hk hX hA hI hR g⟩ rfl rfl hl.1 rfl (lv_room (Nat.le_of_ble_eq_true rfl)) dX0_countOf_46 ⟨Nat.le_of_ble_eq_true rfl, Nat.le_of_ble_eq_true rfl⟩) (fun rh11 h11 => ?_)
        obtain ⟨rh11, rfl, trh11⟩ := h11
        refine xw_v (v := .ref rh11) rfl ?_
        refine lv_bipush (v := 6) hx hb dX0_countOf_49 (by decide) ?_
        refine vp_callSi (W.runV (As := [.int 6]) (rest := [.int rh3, .int rh3]) ⟨hx, hb, hml, hown, hts⟩ (tX5_number l E X A z I0 L0 rh11 trh11 6 (6) (by decide)) (cwV 1 hts gX0_countOf_X5_number rfl rfl rfl (by decide +kernel) ⟨Nat.le_of_ble_eq_true rfl, Nat.le_of_ble_eq_true rfl⟩) ⟨h_blind _ _ _ _ _ _ _, h_recv g trh11 (by decide) so_6 (q := (RX5, TX5, 3)) rfl, h_pre _ hE hk hX hA hI hR g⟩ rfl rfl hl.1 rfl (lv_room (Nat.le_of_ble_eq_true rfl)) dX0_countOf_51 ⟨Nat.le_of_ble_eq_true rfl, Nat.le_of_ble_eq_true rfl⟩) (fun rh12 h12 => ?_)
        have jrh12 : -2147483648 ≤ rh12.toInt ∧ rh12.toInt ≤ 2147483647 := ⟨xi_lo _, Int.le_of_lt_add_one (xi_hi _)⟩
        refine vp_callSi (xr_of (va_runSN (As := [.int rh3, .int rh12]) (rest := [.int rh3]) ⟨hx, hb, hml, hown, hts⟩ (tX11_hundredths l E X A z I0 L0 rh3 (rh3.toInt) rfl rh12 (rh12.toInt) rfl) (⟨va_cnB 2 hts gX0_countOf_X11_hundredths_n75 rfl rfl rfl (hE.link 9 rfl) (hts (.initialized RX11) (by decide +kernel)) (by decide +kernel) ⟨Nat.le_of_ble_eq_true rfl, Nat.le_of_ble_eq_true rfl⟩, hts (.static yX11_hundredths) (by decide +kernel), trivial⟩) ⟨h_blind _ _ _ _ _ _ _, h_pre _ hE hk hX hA hI hR g⟩ rfl rfl hl.1 rfl (lv_room (Nat.le_of_ble_eq_true rfl)) dX0_countOf_54 ⟨Nat.le_of_ble_eq_true rfl, Nat.le_of_ble_eq_true rfl⟩)) (fun rh13 h13 => ?_)
        have jrh13 : -2147483648 ≤ rh13.toInt ∧ rh13.toInt ≤ 2147483647 := ⟨xi_lo _, Int.le_of_lt_add_one (xi_hi _)⟩
        refine lv_isub hx hb dX0_countOf_57 ?_
        refine lv_topi (fun v14 ev14 => ?_)
        have jv14 : -2147483648 ≤ v14.toInt ∧ v14.toInt ≤ 2147483647 := ⟨xi_lo _, Int.le_of_lt_add_one (xi_hi _)⟩
        refine lv_goto (tgt := 62) hx hb dX0_countOf_58 (by decide) ?_
        exact W.iret (v := v14) hx hb hr (fun t ht hW => ⟨v14, rfl, trivial, ht⟩) (fun _ h => by cases h) dX0_countOf_62
  · have ic2 := (xi_eq c2 rfl (by decide) : rh1.toInt = 0)
    refine lv_iconst (v := 0) hx hb dX0_countOf_8 (by decide) ?_
    exact W.iret (v := 0) hx hb hr (fun t ht hW => ⟨0, rfl, trivial, ht⟩) (fun _ h => by cases h) dX0_countOf_9
set_option maxHeartbeats 4000000 in
set_option maxRecDepth 100000 in
theorem tX0_counts (l : Launch) (E : tE) (X : tX) (A : Nat → Prop) (z : tZ) (I0 : tI) (L0 : tL) (a0 : Nat) (t_a0 : z.ty a0 = 1) (c : Int32) (c_t : Int) (h_c : c.toInt = c_t) (y : Int32) (y_t : Int) (h_y : y.toInt = y_t) : Met l yX0_counts wsX0_counts ({ frames := 4, cells := 0, slots := 0, locals := 256 }) (va_Pc [.ref a0, .int c, .int y] (h_P E X A z I0 L0)) (vp_Si (fun r => True)) 0 0 (fun _ => False) := by
  refine Met.ofW (cc := cX0_counts) (maxL := 6) (ret := (some .int)) (by decide) rfl ?_
  intro pr_ ev_ s m args below meth cd_ s₁ B hml hv
  obtain ⟨rfl, hE, hk, hX, hA, hK, hI, hR, hB0⟩ := hv
  have g : h_G h_so h_fk E A z I0 L0 s s.heap s.heap [] := ⟨hK, va_S.rf, hB0⟩
  have hx := B.exec
  have hb := B.bytes
  have hr := B.returns
  have hts := atoms_spec (ws := wsX0_counts) B.pre
  have hown : s.vm.findClass RX0 = some m.cls := findClass_of_methodNamed B.named
  have hlocks := B.notSynchronized
  have iX0 : ∀ w ∈ u_ws RX0 TX0 9, w ∈ wsX0_counts := by decide +kernel
  have iX6 : ∀ w ∈ u_ws RX6 TX6 9, w ∈ wsX0_counts := by decide +kernel
  have hl := lv_entry ([.ref a0, .int c, .int y]) (n := 6) (Nat.le_of_ble_eq_true rfl)
  rw [lg_entry_eq]
  generalize (lg_sl ([.ref a0, .int c, .int y]) ++ List.replicate (6 - (lg_sl ([.ref a0, .int c, .int y])).length) Slot.unset).toArray = ls at hl ⊢
  have hl : lv_has ls 6 [(0, .ref a0), (1, .int c), (2, .int y)] := hl
  have b_c : -2147483648 ≤ c_t ∧ c_t ≤ 2147483647 := h_c ▸ ⟨xi_lo c, Int.le_of_lt_add_one (xi_hi c)⟩
  have b_y : -2147483648 ≤ y_t ∧ y_t ≤ 2147483647 := h_y ▸ ⟨xi_lo y, Int.le_of_lt_add_one (xi_hi y)⟩
  refine lv_iload_n hx hb dX0_counts_0 rfl (lv_at hl 1 rfl) ?_
  refine vp_callSi (xr_of (va_runSN (As := [.int c]) (rest := []) ⟨hx, hb, hml, hown, hts⟩ (tX11_isClub l E X A z I0 L0 c (c_t) h_c) (⟨va_cnB 1 hts gX0_counts_X11_isClub_n79 rfl rfl rfl (hE.link 8 rfl) (hts (.initialized RX11) (by decide +kernel)) (by decide +kernel) ⟨Nat.le_of_ble_eq_true rfl, Nat.le_of_ble_eq_true rfl⟩, hts (.static yX11_isClub) (by decide +kernel), trivial⟩) ⟨h_blind _ _ _ _ _ _ _, h_pre _ hE hk hX hA hI hR g⟩ rfl rfl hl.1 rfl (lv_room (Nat.le_of_ble_eq_true rfl)) dX0_counts_1 ⟨Nat.le_of_ble_eq_true rfl, Nat.le_of_ble_eq_true rfl⟩)) (fun rh1 h1 => ?_)
  rcases h1 with ⟨rfl, h1⟩ | ⟨rfl, h1⟩
  · skip
    refine lv_if_eq (tgt := 25) hx hb dX0_counts_4 (by decide) (fun _ => ?_) (fun h => absurd (by decide) h)
    refine lv_iconst (v := 0) hx hb dX0_counts_25 (by decide) ?_
    refine lv_istore_n (lv' := [(3, .int 0), (0, .ref a0), (1, .int c), (2, .int y)]) hx hb dX0_counts_26 rfl hl (by decide) rfl (fun ls hl => ?_)
    refine lv_iconst (v := 0) hx hb dX0_counts_27 (by decide) ?_
    refine lv_istore (lv' := [(4, .int 0), (3, .int 0), (0, .ref a0), (1, .int c), (2, .int y)]) hx hb dX0_counts_28 hl (by decide) rfl (fun ls hl => ?_)
    have loop30_0 : ∀ (n : Nat) (ls : Array Slot) (v3 v4 : Int32), lv_has ls 6 [(0, .ref a0), (1, .int c), (2, .int y), (3, .int v3), (4, .int v4)] → ((-2147483648) ≤ v3.toInt ∧ v3.toInt ≤ 2147483647) → (0 ≤ v4.toInt ∧ v4.toInt ≤ 60) → (60 - v4.toInt) < (n : Int) → W pr_ l ev_ (headSpec wsX0_counts ({ frames := 4, cells := 0, slots := 0, locals := 256 })).room s m ([.ref a0, .int c, .int y] : List Value).toArray below meth cd_ s.heap [] 0 0 (MQ below (vp_Si (fun r => True)) ([.ref a0, .int c, .int y] : List Value).toArray s 0 0 (fun _ => False)) (F0 m 30 ls []) := by
      intro n
      induction n with
      | zero => intro ls v3 v4 hl jv3 jv4 hn; exact absurd hn (by omega)
      | succ n ih30 =>
        intro ls v3 v4 hl jv3 jv4 hn
        refine lv_iload hx hb dX0_counts_30 (lv_at hl 4 rfl) ?_
        refine lv_aload_n hx hb dX0_counts_32 rfl (lv_at hl 0 rfl) ?_
        refine h_get (v := .int (I0 a0 2)) hx hb hts iX0 hown g t_a0 (by decide) so_1 rfl 2 (by decide) (hts (.fieldLink RX0 51 "CapLeague$Books" "size" "I") (by decide +kernel)) rfl dX0_counts_33 rfl ?_
        refine lv_topi (fun v5 ev5 => ?_)
        have jv5 := hI.rd a0 2 t_a0 ev5 (rfl : h_bd 1 2 = (0, 60))
        refine lv_icmp_ge (tgt := 77) hx hb dX0_counts_36 (by decide) (fun c6 => ?_) (fun c6 => ?_)
        · have ic6 := (xi_le c6 rfl rfl : v5.toInt ≤ v4.toInt)
          refine lv_iload_n hx hb dX0_counts_77 rfl (lv_at hl 3 rfl) ?_
          exact W.iret (v := v3) hx hb hr (fun t ht hW => ⟨v3, rfl, trivial, ht⟩) (fun _ h => by cases h) dX0_counts_78
        · have ic6 := (xi_nle c6 rfl rfl : v4.toInt < v5.toInt)
          refine lv_aload_n hx hb dX0_counts_39 rfl (lv_at hl 0 rfl) ?_
          refine lv_iload hx hb dX0_counts_40 (lv_at hl 4 rfl) ?_
          refine va_csq (W.runV (As := [.int v4]) (rest := []) ⟨hx, hb, hml, hown, hts⟩ (tX0_playerAt l E X A z I0 L0 a0 t_a0 v4 (v4.toInt) rfl) (cwV 1 hts gX0_counts_X0_playerAt rfl rfl rfl (by decide +kernel) ⟨Nat.le_of_ble_eq_true rfl, Nat.le_of_ble_eq_true rfl⟩) ⟨h_blind _ _ _ _ _ _ _, h_recv g t_a0 (by decide) so_1 (q := (RX0, TX0, 9)) rfl, h_pre _ hE hk hX hA hI hR g⟩ rfl rfl hl.1 rfl (lv_room (Nat.le_of_ble_eq_true rfl)) dX0_counts_42 ⟨Nat.le_of_ble_eq_true rfl, Nat.le_of_ble_eq_true rfl⟩) (fun rh7 h7 => ?_)
          rcases h7 with rfl | ⟨rh7, rfl, trh7⟩
          · refine xw_v (v := .null) rfl ?_
            refine lv_astoreN (lv' := [(5, .null), (0, .ref a0), (1, .int c), (2, .int y), (3, .int v3), (4, .int v4)]) hx hb dX0_counts_45 hl (by decide) rfl (fun ls hl => ?_)
            refine lv_aloadN hx hb dX0_counts_47 (lv_at hl 0 rfl) ?_
            refine lv_ifnullN (tgt := 71) hx hb dX0_counts_49 (by decide) ?_
            obtain ⟨v8, ev8⟩ : ∃ z : Int32, z = v4 + 1 := ⟨_, rfl⟩
            have jv8 : v8.toInt = v4.toInt + 1 := xi_add ev8 rfl (by decide) (by omega) (by omega)
            refine lv_iinc (v := v8) (lv' := [(4, .int v8), (5, .null), (0, .ref a0), (1, .int c), (2, .int y), (3, .int v3)]) hx hb dX0_counts_71 hl (k := 5) rfl (by rw [ev8]; rfl) (by decide) rfl (fun ls hl => ?_)
            refine lv_goto (tgt := 30) hx hb dX0_counts_74 (by decide) ?_
            exact ih30 _ v3 v8 (lv_sub hl [2, 3, 4, 5, 0] rfl) (by omega) (by omega) (by omega)
          · refine xw_v (v := .ref rh7) rfl ?_
            refine lv_astore (lv' := [(5, .ref rh7), (0, .ref a0), (1, .int c), (2, .int y), (3, .int v3), (4, .int v4)]) hx hb dX0_counts_45 hl (by decide) rfl (fun ls hl => ?_)
            refine lv_aload hx hb dX0_counts_47 (lv_at hl 0 rfl) ?_
            refine lv_ifnull hx hb dX0_counts_49 ?_
            refine lv_aload hx hb dX0_counts_52 (lv_at hl 0 rfl) ?_
            refine h_get (v := .int (I0 rh7 0)) hx hb hts iX6 hown g trh7 (by decide) so_7 rfl 0 (by decide) (hts (.fieldLink RX0 86 "CapLeague$Player" "club" "I") (by decide +kernel)) rfl dX0_counts_54 rfl ?_
            refine lv_topi (fun v9 ev9 => ?_)
            have jv9 := hI.rd rh7 0 trh7 ev9 (rfl : h_bd 7 0 = ((-1), 7))
            refine lv_iload_n hx hb dX0_counts_57 rfl (lv_at hl 2 rfl) ?_
            refine lv_icmp_ne (tgt := 71) hx hb dX0_counts_58 (by decide) (fun c10 => ?_) (fun c10 => ?_)
            · have ic10 := (xi_ne c10 rfl h_c : v9.toInt ≠ c_t)
              obtain ⟨v11, ev11⟩ : ∃ z : Int32, z = v4 + 1 := ⟨_, rfl⟩
              have jv11 : v11.toInt = v4.toInt + 1 := xi_add ev11 rfl (by decide) (by omega) (by omega)
              refine lv_iinc (v := v11) (lv' := [(4, .int v11), (5, .ref rh7), (0, .ref a0), (1, .int c), (2, .int y), (3, .int v3)]) hx hb dX0_counts_71 hl (k := 5) rfl (by rw [ev11]; rfl) (by decide) rfl (fun ls hl => ?_)
              refine lv_goto (tgt := 30) hx hb dX0_counts_74 (by decide) ?_
              exact ih30 _ v3 v11 (lv_sub hl [2, 3, 4, 5, 0] rfl) (by omega) (by omega) (by omega)
            · have ic10 := (xi_eq c10 rfl h_c : v9.toInt = c_t)
              refine lv_iload_n hx hb dX0_counts_61 rfl (lv_at hl 4 rfl) ?_
              refine lv_aload_n hx hb dX0_counts_62 rfl (lv_at hl 1 rfl) ?_
              refine lv_aload hx hb dX0_counts_63 (lv_at hl 0 rfl) ?_
              refine lv_iload_n hx hb dX0_counts_65 rfl (lv_at hl 3 rfl) ?_
              refine vp_callSi (W.runV (As := [.ref rh7, .int y]) (rest := [.int v3]) ⟨hx, hb, hml, hown, hts⟩ (tX0_countOf l E X A z I0 L0 a0 t_a0 rh7 trh7 y (y_t) h_y) (cwV 2 hts gX0_counts_X0_countOf rfl rfl rfl (by decide +kernel) ⟨Nat.le_of_ble_eq_true rfl, Nat.le_of_ble_eq_true rfl⟩) ⟨h_blind _ _ _ _ _ _ _, h_recv g t_a0 (by decide) so_1 (q := (RX0, TX0, 9)) rfl, h_pre _ hE hk hX hA hI hR g⟩ rfl rfl hl.1 rfl (lv_room (Nat.le_of_ble_eq_true rfl)) dX0_counts_66 ⟨Nat.le_of_ble_eq_true rfl, Nat.le_of_ble_eq_true rfl⟩) (fun rh12 h12 => ?_)
              have jrh12 : -2147483648 ≤ rh12.toInt ∧ rh12.toInt ≤ 2147483647 := ⟨xi_lo _, Int.le_of_lt_add_one (xi_hi _)⟩
              refine lv_iadd hx hb dX0_counts_69 ?_
              refine lv_topi (fun v13 ev13 => ?_)
              have jv13 : -2147483648 ≤ v13.toInt ∧ v13.toInt ≤ 2147483647 := ⟨xi_lo _, Int.le_of_lt_add_one (xi_hi _)⟩
              refine lv_istore_n (lv' := [(3, .int v13), (5, .ref rh7), (0, .ref a0), (1, .int c), (2, .int y), (4, .int v4)]) hx hb dX0_counts_70 rfl hl (by decide) rfl (fun ls hl => ?_)
              obtain ⟨v14, ev14⟩ : ∃ z : Int32, z = v4 + 1 := ⟨_, rfl⟩
              have jv14 : v14.toInt = v4.toInt + 1 := xi_add ev14 rfl (by decide) (by omega) (by omega)
              refine lv_iinc (v := v14) (lv' := [(4, .int v14), (3, .int v13), (5, .ref rh7), (0, .ref a0), (1, .int c), (2, .int y)]) hx hb dX0_counts_71 hl (k := 5) rfl (by rw [ev14]; rfl) (by decide) rfl (fun ls hl => ?_)
              refine lv_goto (tgt := 30) hx hb dX0_counts_74 (by decide) ?_
              exact ih30 _ v13 v14 (lv_sub hl [3, 4, 5, 1, 0] rfl) (by omega) (by omega) (by omega)
    exact loop30_0 _ _ (0) (0) (lv_sub hl [2, 3, 4, 1, 0] rfl) ⟨by decide, by decide⟩ ⟨by decide, by decide⟩ (show (60 - (0 : Int)) < (((60 - (0 : Int)).toNat + 1 : Nat) : Int) by omega)
  · skip
    refine lv_if_eq (tgt := 25) hx hb dX0_counts_4 (by decide) (fun h => absurd h (by decide)) (fun _ => ?_)
    refine lv_iload_n hx hb dX0_counts_7 rfl (lv_at hl 2 rfl) ?_
    refine vp_callSi (xr_of (va_runSN (As := [.int y]) (rest := []) ⟨hx, hb, hml, hown, hts⟩ (tX11_isYear l E X A z I0 L0 y (y_t) h_y) (⟨va_cnB 1 hts gX0_counts_X11_isYear_n47 rfl rfl rfl (hE.link 5 rfl) (hts (.initialized RX11) (by decide +kernel)) (by decide +kernel) ⟨Nat.le_of_ble_eq_true rfl, Nat.le_of_ble_eq_true rfl⟩, hts (.static yX11_isYear) (by decide +kernel), trivial⟩) ⟨h_blind _ _ _ _ _ _ _, h_pre _ hE hk hX hA hI hR g⟩ rfl rfl hl.1 rfl (lv_room (Nat.le_of_ble_eq_true rfl)) dX0_counts_8 ⟨Nat.le_of_ble_eq_true rfl, Nat.le_of_ble_eq_true rfl⟩)) (fun rh16 h16 => ?_)
    rcases h16 with ⟨rfl, h16⟩ | ⟨rfl, h16⟩
    · skip
      refine lv_if_eq (tgt := 25) hx hb dX0_counts_11 (by decide) (fun _ => ?_) (fun h => absurd (by decide) h)
      refine lv_iconst (v := 0) hx hb dX0_counts_25 (by decide) ?_
      refine lv_istore_n (lv' := [(3, .int 0), (0, .ref a0), (1, .int c), (2, .int y)]) hx hb dX0_counts_26 rfl hl (by decide) rfl (fun ls hl => ?_)
      refine lv_iconst (v := 0) hx hb dX0_counts_27 (by decide) ?_
      refine lv_istore (lv' := [(4, .int 0), (3, .int 0), (0, .ref a0), (1, .int c), (2, .int y)]) hx hb dX0_counts_28 hl (by decide) rfl (fun ls hl => ?_)
      have loop30_1 : ∀ (n : Nat) (ls : Array Slot) (v18 v19 : Int32), lv_has ls 6 [(0, .ref a0), (1, .int c), (2, .int y), (3, .int v18), (4, .int v19)] → ((-2147483648) ≤ v18.toInt ∧ v18.toInt ≤ 2147483647) → (0 ≤ v19.toInt ∧ v19.toInt ≤ 60) → (60 - v19.toInt) < (n : Int) → W pr_ l ev_ (headSpec wsX0_counts ({ frames := 4, cells := 0, slots := 0, locals := 256 })).room s m ([.ref a0, .int c, .int y] : List Value).toArray below meth cd_ s.heap [] 0 0 (MQ below (vp_Si (fun r => True)) ([.ref a0, .int c, .int y] : List Value).toArray s 0 0 (fun _ => False)) (F0 m 30 ls []) := by
        intro n
        induction n with
        | zero => intro ls v18 v19 hl jv18 jv19 hn; exact absurd hn (by omega)
        | succ n ih30 =>
          intro ls v18 v19 hl jv18 jv19 hn
          refine lv_iload hx hb dX0_counts_30 (lv_at hl 4 rfl) ?_
          refine lv_aload_n hx hb dX0_counts_32 rfl (lv_at hl 0 rfl) ?_
          refine h_get (v := .int (I0 a0 2)) hx hb hts iX0 hown g t_a0 (by decide) so_1 rfl 2 (by decide) (hts (.fieldLink RX0 51 "CapLeague$Books" "size" "I") (by decide +kernel)) rfl dX0_counts_33 rfl ?_
          refine lv_topi (fun v20 ev20 => ?_)
          have jv20 := hI.rd a0 2 t_a0 ev20 (rfl : h_bd 1 2 = (0, 60))
          refine lv_icmp_ge (tgt := 77) hx hb dX0_counts_36 (by decide) (fun c21 => ?_) (fun c21 => ?_)
          · have ic21 := (xi_le c21 rfl rfl : v20.toInt ≤ v19.toInt)
            refine lv_iload_n hx hb dX0_counts_77 rfl (lv_at hl 3 rfl) ?_
            exact W.iret (v := v18) hx hb hr (fun t ht hW => ⟨v18, rfl, trivial, ht⟩) (fun _ h => by cases h) dX0_counts_78
          · have ic21 := (xi_nle c21 rfl rfl : v19.toInt < v20.toInt)
            refine lv_aload_n hx hb dX0_counts_39 rfl (lv_at hl 0 rfl) ?_
            refine lv_iload hx hb dX0_counts_40 (lv_at hl 4 rfl) ?_
            refine va_csq (W.runV (As := [.int v19]) (rest := []) ⟨hx, hb, hml, hown, hts⟩ (tX0_playerAt l E X A z I0 L0 a0 t_a0 v19 (v19.toInt) rfl) (cwV 1 hts gX0_counts_X0_playerAt rfl rfl rfl (by decide +kernel) ⟨Nat.le_of_ble_eq_true rfl, Nat.le_of_ble_eq_true rfl⟩) ⟨h_blind _ _ _ _ _ _ _, h_recv g t_a0 (by decide) so_1 (q := (RX0, TX0, 9)) rfl, h_pre _ hE hk hX hA hI hR g⟩ rfl rfl hl.1 rfl (lv_room (Nat.le_of_ble_eq_true rfl)) dX0_counts_42 ⟨Nat.le_of_ble_eq_true rfl, Nat.le_of_ble_eq_true rfl⟩) (fun rh22 h22 => ?_)
            rcases h22 with rfl | ⟨rh22, rfl, trh22⟩
            · refine xw_v (v := .null) rfl ?_
              refine lv_astoreN (lv' := [(5, .null), (0, .ref a0), (1, .int c), (2, .int y), (3, .int v18), (4, .int v19)]) hx hb dX0_counts_45 hl (by decide) rfl (fun ls hl => ?_)
              refine lv_aloadN hx hb dX0_counts_47 (lv_at hl 0 rfl) ?_
              refine lv_ifnullN (tgt := 71) hx hb dX0_counts_49 (by decide) ?_
              obtain ⟨v23, ev23⟩ : ∃ z : Int32, z = v19 + 1 := ⟨_, rfl⟩
              have jv23 : v23.toInt = v19.toInt + 1 := xi_add ev23 rfl (by decide) (by omega) (by omega)
              refine lv_iinc (v := v23) (lv' := [(4, .int v23), (5, .null), (0, .ref a0), (1, .int c), (2, .int y), (3, .int v18)]) hx hb dX0_counts_71 hl (k := 5) rfl (by rw [ev23]; rfl) (by decide) rfl (fun ls hl => ?_)
              refine lv_goto (tgt := 30) hx hb dX0_counts_74 (by decide) ?_
              exact ih30 _ v18 v23 (lv_sub hl [2, 3, 4, 5, 0] rfl) (by omega) (by omega) (by omega)
            · refine xw_v (v := .ref rh22) rfl ?_
              refine lv_astore (lv' := [(5, .ref rh22), (0, .ref a0), (1, .int c), (2, .int y), (3, .int v18), (4, .int v19)]) hx hb dX0_counts_45 hl (by decide) rfl (fun ls hl => ?_)
              refine lv_aload hx hb dX0_counts_47 (lv_at hl 0 rfl) ?_
              refine lv_ifnull hx hb dX0_counts_49 ?_
              refine lv_aload hx hb dX0_counts_52 (lv_at hl 0 rfl) ?_
              refine h_get (v := .int (I0 rh22 0)) hx hb hts iX6 hown g trh22 (by decide) so_7 rfl 0 (by decide) (hts (.fieldLink RX0 86 "CapLeague$Player" "club" "I") (by decide +kernel)) rfl dX0_counts_54 rfl ?_
              refine lv_topi (fun v24 ev24 => ?_)
              have jv24 := hI.rd rh22 0 trh22 ev24 (rfl : h_bd 7 0 = ((-1), 7))
              refine lv_iload_n hx hb dX0_counts_57 rfl (lv_at hl 2 rfl) ?_
              refine lv_icmp_ne (tgt := 71) hx hb dX0_counts_58 (by decide) (fun c25 => ?_) (fun c25 => ?_)
              · have ic25 := (xi_ne c25 rfl h_c : v24.toInt ≠ c_t)
                obtain ⟨v26, ev26⟩ : ∃ z : Int32, z = v19 + 1 := ⟨_, rfl⟩
                have jv26 : v26.toInt = v19.toInt + 1 := xi_add ev26 rfl (by decide) (by omega) (by omega)
                refine lv_iinc (v := v26) (lv' := [(4, .int v26), (5, .ref rh22), (0, .ref a0), (1, .int c), (2, .int y), (3, .int v18)]) hx hb dX0_counts_71 hl (k := 5) rfl (by rw [ev26]; rfl) (by decide) rfl (fun ls hl => ?_)
                refine lv_goto (tgt := 30) hx hb dX0_counts_74 (by decide) ?_
                exact ih30 _ v18 v26 (lv_sub hl [2, 3, 4, 5, 0] rfl) (by omega) (by omega) (by omega)
              · have ic25 := (xi_eq c25 rfl h_c : v24.toInt = c_t)
                refine lv_iload_n hx hb dX0_counts_61 rfl (lv_at hl 4 rfl) ?_
                refine lv_aload_n hx hb dX0_counts_62 rfl (lv_at hl 1 rfl) ?_
                refine lv_aload hx hb dX0_counts_63 (lv_at hl 0 rfl) ?_
                refine lv_iload_n hx hb dX0_counts_65 rfl (lv_at hl 3 rfl) ?_
                refine vp_callSi (W.runV (As := [.ref rh22, .int y]) (rest := [.int v18]) ⟨hx, hb, hml, hown, hts⟩ (tX0_countOf l E X A z I0 L0 a0 t_a0 rh22 trh22 y (y_t) h_y) (cwV 2 hts gX0_counts_X0_countOf rfl rfl rfl (by decide +kernel) ⟨Nat.le_of_ble_eq_true rfl, Nat.le_of_ble_eq_true rfl⟩) ⟨h_blind _ _ _ _ _ _ _, h_recv g t_a0 (by decide) so_1 (q := (RX0, TX0, 9)) rfl, h_pre _ hE hk hX hA hI hR g⟩ rfl rfl hl.1 rfl (lv_room (Nat.le_of_ble_eq_true rfl)) dX0_counts_66 ⟨Nat.le_of_ble_eq_true rfl, Nat.le_of_ble_eq_true rfl⟩) (fun rh27 h27 => ?_)
                have jrh27 : -2147483648 ≤ rh27.toInt ∧ rh27.toInt ≤ 2147483647 := ⟨xi_lo _, Int.le_of_lt_add_one (xi_hi _)⟩
                refine lv_iadd hx hb dX0_counts_69 ?_
                refine lv_topi (fun v28 ev28 => ?_)
                have jv28 : -2147483648 ≤ v28.toInt ∧ v28.toInt ≤ 2147483647 := ⟨xi_lo _, Int.le_of_lt_add_one (xi_hi _)⟩
                refine lv_istore_n (lv' := [(3, .int v28), (5, .ref rh22), (0, .ref a0), (1, .int c), (2, .int y), (4, .int v19)]) hx hb dX0_counts_70 rfl hl (by decide) rfl (fun ls hl => ?_)
                obtain ⟨v29, ev29⟩ : ∃ z : Int32, z = v19 + 1 := ⟨_, rfl⟩
                have jv29 : v29.toInt = v19.toInt + 1 := xi_add ev29 rfl (by decide) (by omega) (by omega)
                refine lv_iinc (v := v29) (lv' := [(4, .int v29), (3, .int v28), (5, .ref rh22), (0, .ref a0), (1, .int c), (2, .int y)]) hx hb dX0_counts_71 hl (k := 5) rfl (by rw [ev29]; rfl) (by decide) rfl (fun ls hl => ?_)
                refine lv_goto (tgt := 30) hx hb dX0_counts_74 (by decide) ?_
                exact ih30 _ v28 v29 (lv_sub hl [3, 4, 5, 1, 0] rfl) (by omega) (by omega) (by omega)
      exact loop30_1 _ _ (0) (0) (lv_sub hl [2, 3, 4, 1, 0] rfl) ⟨by decide, by decide⟩ ⟨by decide, by decide⟩ (show (60 - (0 : Int)) < (((60 - (0 : Int)).toNat + 1 : Nat) : Int) by omega)
    · skip
      refine lv_if_eq (tgt := 25) hx hb dX0_counts_11 (by decide) (fun h => absurd h (by decide)) (fun _ => ?_)
      refine lv_aload_n hx hb dX0_counts_14 rfl (lv_at hl 0 rfl) ?_
      obtain ⟨b31, rb31, tb31⟩ := hR.at a0 4 t_a0 (rfl : h_rs 1 4 = some (104, false)) (by decide)
      refine h_get (v := .ref b31) hx hb hts iX0 hown g t_a0 (by decide) so_1 rfl 4 (by decide) (hts (.fieldLink RX0 19 "CapLeague$Books" "dead" "[[I") (by decide +kernel)) rfl dX0_counts_15 (by show va_rf (z.R a0 4) = _; rw [rb31]; rfl) ?_
      refine lv_iload_n hx hb dX0_counts_18 rfl (lv_at hl 1 rfl) ?_
      obtain ⟨b32, rb32, tb32⟩ := hR.at b31 c.toNatClampNeg tb31 (rfl : h_rs 104 _ = some (154, false)) (by rw [so_104]; exact h_lt (n := 8) (xi_in (by rw [h_c]; omega) (by rw [h_c]; omega)))
      refine h_aldA (v := .ref b32) hx hb g tb31 (by decide) so_104 (xi_in (by rw [h_c]; omega) (by rw [h_c]; omega)) dX0_counts_19 (by rw [rb32]; rfl) ?_
      refine lv_iload_n hx hb dX0_counts_20 rfl (lv_at hl 2 rfl) ?_
      refine h_ald hx hb g tb32 (by decide) so_154 (xi_in (by rw [h_y]; omega) (by rw [h_y]; omega)) dX0_counts_21 ?_
      refine lv_topi (fun v33 ev33 => ?_)
      have jv33 := hI.rd b32 y.toNatClampNeg tb32 ev33 (rfl : h_bd 154 _ = ((-2147483648), 2147483647))
      refine lv_goto (tgt := 26) hx hb dX0_counts_22 (by decide) ?_
      refine lv_istore_n (lv' := [(3, .int v33), (0, .ref a0), (1, .int c), (2, .int y)]) hx hb dX0_counts_26 rfl hl (by decide) rfl (fun ls hl => ?_)
      refine lv_iconst (v := 0) hx hb dX0_counts_27 (by decide) ?_
      refine lv_istore (lv' := [(4, .int 0), (3, .int v33), (0, .ref a0), (1, .int c), (2, .int y)]) hx hb dX0_counts_28 hl (by decide) rfl (fun ls hl => ?_)
      have loop30_2 : ∀ (n : Nat) (ls : Array Slot) (v34 v35 : Int32), lv_has ls 6 [(0, .ref a0), (1, .int c), (2, .int y), (3, .int v34), (4, .int v35)] → ((-2147483648) ≤ v34.toInt ∧ v34.toInt ≤ 2147483647) → (0 ≤ v35.toInt ∧ v35.toInt ≤ 60) → (60 - v35.toInt) < (n : Int) → W pr_ l ev_ (headSpec wsX0_counts ({ frames := 4, cells := 0, slots := 0, locals := 256 })).room s m ([.ref a0, .int c, .int y] : List Value).toArray below meth cd_ s.heap [] 0 0 (MQ below (vp_Si (fun r => True)) ([.ref a0, .int c, .int y] : List Value).toArray s 0 0 (fun _ => False)) (F0 m 30 ls []) := by
        intro n
        induction n with
        | zero => intro ls v34 v35 hl jv34 jv35 hn; exact absurd hn (by omega)
        | succ n ih30 =>
          intro ls v34 v35 hl jv34 jv35 hn
          refine lv_iload hx hb dX0_counts_30 (lv_at hl 4 rfl) ?_
          refine lv_aload_n hx hb dX0_counts_32 rfl (lv_at hl 0 rfl) ?_
          refine h_get (v := .int (I0 a0 2)) hx hb hts iX0 hown g t_a0 (by decide) so_1 rfl 2 (by decide) (hts (.fieldLink RX0 51 "CapLeague$Books" "size" "I") (by decide +kernel)) rfl dX0_counts_33 rfl ?_
          refine lv_topi (fun v36 ev36 => ?_)
          have jv36 := hI.rd a0 2 t_a0 ev36 (rfl : h_bd 1 2 = (0, 60))
          refine lv_icmp_ge (tgt := 77) hx hb dX0_counts_36 (by decide) (fun c37 => ?_) (fun c37 => ?_)
          · have ic37 := (xi_le c37 rfl rfl : v36.toInt ≤ v35.toInt)
            refine lv_iload_n hx hb dX0_counts_77 rfl (lv_at hl 3 rfl) ?_
            exact W.iret (v := v34) hx hb hr (fun t ht hW => ⟨v34, rfl, trivial, ht⟩) (fun _ h => by cases h) dX0_counts_78
          · have ic37 := (xi_nle c37 rfl rfl : v35.toInt < v36.toInt)
            refine lv_aload_n hx hb dX0_counts_39 rfl (lv_at hl 0 rfl) ?_
            refine lv_iload hx hb dX0_counts_40 (lv_at hl 4 rfl) ?_
            refine va_csq (W.runV (As := [.int v35]) (rest := []) ⟨hx, hb, hml, hown, hts⟩ (tX0_playerAt l E X A z I0 L0 a0 t_a0 v35 (v35.toInt) rfl) (cwV 1 hts gX0_counts_X0_playerAt rfl rfl rfl (by decide +kernel) ⟨Nat.le_of_ble_eq_true rfl, Nat.le_of_ble_eq_true rfl⟩) ⟨h_blind _ _ _ _ _ _ _, h_recv g t_a0 (by decide) so_1 (q := (RX0, TX0, 9)) rfl, h_pre _ hE hk hX hA hI hR g⟩ rfl rfl hl.1 rfl (lv_room (Nat.le_of_ble_eq_true rfl)) dX0_counts_42 ⟨Nat.le_of_ble_eq_true rfl, Nat.le_of_ble_eq_true rfl⟩) (fun rh38 h38 => ?_)
            rcases h38 with rfl | ⟨rh38, rfl, trh38⟩
            · refine xw_v (v := .null) rfl ?_
              refine lv_astoreN (lv' := [(5, .null), (0, .ref a0), (1, .int c), (2, .int y), (3, .int v34), (4, .int v35)]) hx hb dX0_counts_45 hl (by decide) rfl (fun ls hl => ?_)
              refine lv_aloadN hx hb dX0_counts_47 (lv_at hl 0 rfl) ?_
              refine lv_ifnullN (tgt := 71) hx hb dX0_counts_49 (by decide) ?_
              obtain ⟨v39, ev39⟩ : ∃ z : Int32, z = v35 + 1 := ⟨_, rfl⟩
              have jv39 : v39.toInt = v35.toInt + 1 := xi_add ev39 rfl (by decide) (by omega) (by omega)
              refine lv_iinc (v := v39) (lv' := [(4, .int v39), (5, .null), (0, .ref a0), (1, .int c), (2, .int y), (3, .int v34)]) hx hb dX0_counts_71 hl (k := 5) rfl (by rw [ev39]; rfl) (by decide) rfl (fun ls hl => ?_)
              refine lv_goto (tgt := 30) hx hb dX0_counts_74 (by decide) ?_
              exact ih30 _ v34 v39 (lv_sub hl [2, 3, 4, 5, 0] rfl) (by omega) (by omega) (by omega)
            · refine xw_v (v := .ref rh38) rfl ?_
              refine lv_astore (lv' := [(5, .ref rh38), (0, .ref a0), (1, .int c), (2, .int y), (3, .int v34), (4, .int v35)]) hx hb dX0_counts_45 hl (by decide) rfl (fun ls hl => ?_)
              refine lv_aload hx hb dX0_counts_47 (lv_at hl 0 rfl) ?_
              refine lv_ifnull hx hb dX0_counts_49 ?_
              refine lv_aload hx hb dX0_counts_52 (lv_at hl 0 rfl) ?_
              refine h_get (v := .int (I0 rh38 0)) hx hb hts iX6 hown g trh38 (by decide) so_7 rfl 0 (by decide) (hts (.fieldLink RX0 86 "CapLeague$Player" "club" "I") (by decide +kernel)) rfl dX0_counts_54 rfl ?_
              refine lv_topi (fun v40 ev40 => ?_)
              have jv40 := hI.rd rh38 0 trh38 ev40 (rfl : h_bd 7 0 = ((-1), 7))
              refine lv_iload_n hx hb dX0_counts_57 rfl (lv_at hl 2 rfl) ?_
              refine lv_icmp_ne (tgt := 71) hx hb dX0_counts_58 (by decide) (fun c41 => ?_) (fun c41 => ?_)
              · have ic41 := (xi_ne c41 rfl h_c : v40.toInt ≠ c_t)
                obtain ⟨v42, ev42⟩ : ∃ z : Int32, z = v35 + 1 := ⟨_, rfl⟩
                have jv42 : v42.toInt = v35.toInt + 1 := xi_add ev42 rfl (by decide) (by omega) (by omega)
                refine lv_iinc (v := v42) (lv' := [(4, .int v42), (5, .ref rh38), (0, .ref a0), (1, .int c), (2, .int y), (3, .int v34)]) hx hb dX0_counts_71 hl (k := 5) rfl (by rw [ev42]; rfl) (by decide) rfl (fun ls hl => ?_)
                refine lv_goto (tgt := 30) hx hb dX0_counts_74 (by decide) ?_
                exact ih30 _ v34 v42 (lv_sub hl [2, 3, 4, 5, 0] rfl) (by omega) (by omega) (by omega)
              · have ic41 := (xi_eq c41 rfl h_c : v40.toInt = c_t)
                refine lv_iload_n hx hb dX0_counts_61 rfl (lv_at hl 4 rfl) ?_
                refine lv_aload_n hx hb dX0_counts_62 rfl (lv_at hl 1 rfl) ?_
                refine lv_aload hx hb dX0_counts_63 (lv_at hl 0 rfl) ?_
                refine lv_iload_n hx hb dX0_counts_65 rfl (lv_at hl 3 rfl) ?_
                refine vp_callSi (W.runV (As := [.ref rh38, .int y]) (rest := [.int v34]) ⟨hx, hb, hml, hown, hts⟩ (tX0_countOf l E X A z I0 L0 a0 t_a0 rh38 trh38 y (y_t) h_y) (cwV 2 hts gX0_counts_X0_countOf rfl rfl rfl (by decide +kernel) ⟨Nat.le_of_ble_eq_true rfl, Nat.le_of_ble_eq_true rfl⟩) ⟨h_blind _ _ _ _ _ _ _, h_recv g t_a0 (by decide) so_1 (q := (RX0, TX0, 9)) rfl, h_pre _ hE hk hX hA hI hR g⟩ rfl rfl hl.1 rfl (lv_room (Nat.le_of_ble_eq_true rfl)) dX0_counts_66 ⟨Nat.le_of_ble_eq_true rfl, Nat.le_of_ble_eq_true rfl⟩) (fun rh43 h43 => ?_)
                have jrh43 : -2147483648 ≤ rh43.toInt ∧ rh43.toInt ≤ 2147483647 := ⟨xi_lo _, Int.le_of_lt_add_one (xi_hi _)⟩
                refine lv_iadd hx hb dX0_counts_69 ?_
                refine lv_topi (fun v44 ev44 => ?_)
                have jv44 : -2147483648 ≤ v44.toInt ∧ v44.toInt ≤ 2147483647 := ⟨xi_lo _, Int.le_of_lt_add_one (xi_hi _)⟩
                refine lv_istore_n (lv' := [(3, .int v44), (5, .ref rh38), (0, .ref a0), (1, .int c), (2, .int y), (4, .int v35)]) hx hb dX0_counts_70 rfl hl (by decide) rfl (fun ls hl => ?_)
                obtain ⟨v45, ev45⟩ : ∃ z : Int32, z = v35 + 1 := ⟨_, rfl⟩
                have jv45 : v45.toInt = v35.toInt + 1 := xi_add ev45 rfl (by decide) (by omega) (by omega)
                refine lv_iinc (v := v45) (lv' := [(4, .int v45), (3, .int v44), (5, .ref rh38), (0, .ref a0), (1, .int c), (2, .int y)]) hx hb dX0_counts_71 hl (k := 5) rfl (by rw [ev45]; rfl) (by decide) rfl (fun ls hl => ?_)
                refine lv_goto (tgt := 30) hx hb dX0_counts_74 (by decide) ?_
                exact ih30 _ v44 v45 (lv_sub hl [3, 4, 5, 1, 0] rfl) (by omega) (by omega) (by omega)
      exact loop30_2 _ _ v33 (0) (lv_sub hl [2, 3, 4, 1, 0] rfl) (by omega) ⟨by decide, by decide⟩ (show (60 - (0 : Int)) < (((60 - (0 : Int)).toNat + 1 : Nat) : Int) by omega)
set_option maxHeartbeats 4000000 in
set_option maxRecDepth 100000 in
theorem tX0_playersIn (l : Launch) (E : tE) (X : tX) (A : Nat → Prop) (z : tZ) (I0 : tI) (L0 : tL) (a0 : Nat) (t_a0 : z.ty a0 = 1) (c : Int32) (c_t : Int) (h_c : c.toInt = c_t) (y : Int32) (y_t : Int) (h_y : y.toInt = y_t) : Met l yX0_playersIn wsX0_playersIn ({ frames := 3, cells := 0, slots := 0, locals := 192 }) (va_Pc [.ref a0, .int c, .int y] (h_P E X A z I0 L0)) (vp_Si (fun r => True)) 0 0 (fun _ => False) := by
  refine Met.ofW (cc := cX0_playersIn) (maxL := 6) (ret := (some .int)) (by decide) rfl ?_
  intro pr_ ev_ s m args below meth cd_ s₁ B hml hv
  obtain ⟨rfl, hE, hk, hX, hA, hK, hI, hR, hB0⟩ := hv
  have g : h_G h_so h_fk E A z I0 L0 s s.heap s.heap [] := ⟨hK, va_S.rf, hB0⟩
  have hx := B.exec
  have hb := B.bytes
  have hr := B.returns
  have hts := atoms_spec (ws := wsX0_playersIn) B.pre
  have hown : s.vm.findClass RX0 = some m.cls := findClass_of_methodNamed B.named
  have hlocks := B.notSynchronized
  have iX0 : ∀ w ∈ u_ws RX0 TX0 9, w ∈ wsX0_playersIn := by decide +kernel
  have iX6 : ∀ w ∈ u_ws RX6 TX6 9, w ∈ wsX0_playersIn := by decide +kernel
  have hl := lv_entry ([.ref a0, .int c, .int y]) (n := 6) (Nat.le_of_ble_eq_true rfl)
  rw [lg_entry_eq]
  generalize (lg_sl ([.ref a0, .int c, .int y]) ++ List.replicate (6 - (lg_sl ([.ref a0, .int c, .int y])).length) Slot.unset).toArray = ls at hl ⊢
  have hl : lv_has ls 6 [(0, .ref a0), (1, .int c), (2, .int y)] := hl
  have b_c : -2147483648 ≤ c_t ∧ c_t ≤ 2147483647 := h_c ▸ ⟨xi_lo c, Int.le_of_lt_add_one (xi_hi c)⟩
  have b_y : -2147483648 ≤ y_t ∧ y_t ≤ 2147483647 := h_y ▸ ⟨xi_lo y, Int.le_of_lt_add_one (xi_hi y)⟩
  refine lv_iconst (v := 0) hx hb dX0_playersIn_0 (by decide) ?_
  refine lv_istore_n (lv' := [(3, .int 0), (0, .ref a0), (1, .int c), (2, .int y)]) hx hb dX0_playersIn_1 rfl hl (by decide) rfl (fun ls hl => ?_)
  refine lv_iconst (v := 0) hx hb dX0_playersIn_2 (by decide) ?_
  refine lv_istore (lv' := [(4, .int 0), (3, .int 0), (0, .ref a0), (1, .int c), (2, .int y)]) hx hb dX0_playersIn_3 hl (by decide) rfl (fun ls hl => ?_)
  have loop5_0 : ∀ (n : Nat) (ls : Array Slot) (v1 v2 : Int32), lv_has ls 6 [(0, .ref a0), (1, .int c), (2, .int y), (3, .int v1), (4, .int v2)] → ((-2147483648) ≤ v1.toInt ∧ v1.toInt ≤ 2147483647) → (0 ≤ v2.toInt ∧ v2.toInt ≤ 60) → (60 - v2.toInt) < (n : Int) → W pr_ l ev_ (headSpec wsX0_playersIn ({ frames := 3, cells := 0, slots := 0, locals := 192 })).room s m ([.ref a0, .int c, .int y] : List Value).toArray below meth cd_ s.heap [] 0 0 (MQ below (vp_Si (fun r => True)) ([.ref a0, .int c, .int y] : List Value).toArray s 0 0 (fun _ => False)) (F0 m 5 ls []) := by
    intro n
    induction n with
    | zero => intro ls v1 v2 hl jv1 jv2 hn; exact absurd hn (by omega)
    | succ n ih5 =>
      intro ls v1 v2 hl jv1 jv2 hn
      refine lv_iload hx hb dX0_playersIn_5 (lv_at hl 4 rfl) ?_
      refine lv_aload_n hx hb dX0_playersIn_7 rfl (lv_at hl 0 rfl) ?_
      refine h_get (v := .int (I0 a0 2)) hx hb hts iX0 hown g t_a0 (by decide) so_1 rfl 2 (by decide) (hts (.fieldLink RX0 51 "CapLeague$Books" "size" "I") (by decide +kernel)) rfl dX0_playersIn_8 rfl ?_
      refine lv_topi (fun v3 ev3 => ?_)
      have jv3 := hI.rd a0 2 t_a0 ev3 (rfl : h_bd 1 2 = (0, 60))
      refine lv_icmp_ge (tgt := 54) hx hb dX0_playersIn_11 (by decide) (fun c4 => ?_) (fun c4 => ?_)
      · have ic4 := (xi_le c4 rfl rfl : v3.toInt ≤ v2.toInt)
        refine lv_iload_n hx hb dX0_playersIn_54 rfl (lv_at hl 3 rfl) ?_
        exact W.iret (v := v1) hx hb hr (fun t ht hW => ⟨v1, rfl, trivial, ht⟩) (fun _ h => by cases h) dX0_playersIn_55
      · have ic4 := (xi_nle c4 rfl rfl : v2.toInt < v3.toInt)
        refine lv_aload_n hx hb dX0_playersIn_14 rfl (lv_at hl 0 rfl) ?_
        refine lv_iload hx hb dX0_playersIn_15 (lv_at hl 4 rfl) ?_
        refine va_csq (W.runV (As := [.int v2]) (rest := []) ⟨hx, hb, hml, hown, hts⟩ (tX0_playerAt l E X A z I0 L0 a0 t_a0 v2 (v2.toInt) rfl) (cwV 1 hts gX0_playersIn_X0_playerAt rfl rfl rfl (by decide +kernel) ⟨Nat.le_of_ble_eq_true rfl, Nat.le_of_ble_eq_true rfl⟩) ⟨h_blind _ _ _ _ _ _ _, h_recv g t_a0 (by decide) so_1 (q := (RX0, TX0, 9)) rfl, h_pre _ hE hk hX hA hI hR g⟩ rfl rfl hl.1 rfl (lv_room (Nat.le_of_ble_eq_true rfl)) dX0_playersIn_17 ⟨Nat.le_of_ble_eq_true rfl, Nat.le_of_ble_eq_true rfl⟩) (fun rh5 h5 => ?_)
        rcases h5 with rfl | ⟨rh5, rfl, trh5⟩
        · refine xw_v (v := .null) rfl ?_
          refine lv_astoreN (lv' := [(5, .null), (0, .ref a0), (1, .int c), (2, .int y), (3, .int v1), (4, .int v2)]) hx hb dX0_playersIn_20 hl (by decide) rfl (fun ls hl => ?_)
          refine lv_aloadN hx hb dX0_playersIn_22 (lv_at hl 0 rfl) ?_
          refine lv_ifnullN (tgt := 48) hx hb dX0_playersIn_24 (by decide) ?_
          obtain ⟨v6, ev6⟩ : ∃ z : Int32, z = v2 + 1 := ⟨_, rfl⟩
          have jv6 : v6.toInt = v2.toInt + 1 := xi_add ev6 rfl (by decide) (by omega) (by omega)
          refine lv_iinc (v := v6) (lv' := [(4, .int v6), (5, .null), (0, .ref a0), (1, .int c), (2, .int y), (3, .int v1)]) hx hb dX0_playersIn_48 hl (k := 5) rfl (by rw [ev6]; rfl) (by decide) rfl (fun ls hl => ?_)
          refine lv_goto (tgt := 5) hx hb dX0_playersIn_51 (by decide) ?_
          exact ih5 _ v1 v6 (lv_sub hl [2, 3, 4, 5, 0] rfl) (by omega) (by omega) (by omega)
        · refine xw_v (v := .ref rh5) rfl ?_
          refine lv_astore (lv' := [(5, .ref rh5), (0, .ref a0), (1, .int c), (2, .int y), (3, .int v1), (4, .int v2)]) hx hb dX0_playersIn_20 hl (by decide) rfl (fun ls hl => ?_)
          refine lv_aload hx hb dX0_playersIn_22 (lv_at hl 0 rfl) ?_
          refine lv_ifnull hx hb dX0_playersIn_24 ?_
          refine lv_aload hx hb dX0_playersIn_27 (lv_at hl 0 rfl) ?_
          refine h_get (v := .int (I0 rh5 0)) hx hb hts iX6 hown g trh5 (by decide) so_7 rfl 0 (by decide) (hts (.fieldLink RX0 86 "CapLeague$Player" "club" "I") (by decide +kernel)) rfl dX0_playersIn_29 rfl ?_
          refine lv_topi (fun v7 ev7 => ?_)
          have jv7 := hI.rd rh5 0 trh5 ev7 (rfl : h_bd 7 0 = ((-1), 7))
          refine lv_iload_n hx hb dX0_playersIn_32 rfl (lv_at hl 2 rfl) ?_
          refine lv_icmp_ne (tgt := 48) hx hb dX0_playersIn_33 (by decide) (fun c8 => ?_) (fun c8 => ?_)
          · have ic8 := (xi_ne c8 rfl h_c : v7.toInt ≠ c_t)
            obtain ⟨v9, ev9⟩ : ∃ z : Int32, z = v2 + 1 := ⟨_, rfl⟩
            have jv9 : v9.toInt = v2.toInt + 1 := xi_add ev9 rfl (by decide) (by omega) (by omega)
            refine lv_iinc (v := v9) (lv' := [(4, .int v9), (5, .ref rh5), (0, .ref a0), (1, .int c), (2, .int y), (3, .int v1)]) hx hb dX0_playersIn_48 hl (k := 5) rfl (by rw [ev9]; rfl) (by decide) rfl (fun ls hl => ?_)
            refine lv_goto (tgt := 5) hx hb dX0_playersIn_51 (by decide) ?_
            exact ih5 _ v1 v9 (lv_sub hl [2, 3, 4, 5, 0] rfl) (by omega) (by omega) (by omega)
          · have ic8 := (xi_eq c8 rfl h_c : v7.toInt = c_t)
            refine lv_aload hx hb dX0_playersIn_36 (lv_at hl 0 rfl) ?_
            refine lv_iload_n hx hb dX0_playersIn_38 rfl (lv_at hl 3 rfl) ?_
            refine vp_callSi (W.runV (As := [.int y]) (rest := []) ⟨hx, hb, hml, hown, hts⟩ (tX6_isBoundIn l E X A z I0 L0 rh5 trh5 y (y_t) h_y) (cwV 1 hts gX0_playersIn_X6_isBoundIn rfl rfl rfl (by decide +kernel) ⟨Nat.le_of_ble_eq_true rfl, Nat.le_of_ble_eq_true rfl⟩) ⟨h_blind _ _ _ _ _ _ _, h_recv g trh5 (by decide) so_7 (q := (RX6, TX6, 9)) rfl, h_pre _ hE hk hX hA hI hR g⟩ rfl rfl hl.1 rfl (lv_room (Nat.le_of_ble_eq_true rfl)) dX0_playersIn_39 ⟨Nat.le_of_ble_eq_true rfl, Nat.le_of_ble_eq_true rfl⟩) (fun rh10 h10 => ?_)
            refine lv_if_eq (tgt := 48) hx hb dX0_playersIn_42 (by decide) (fun c11 => ?_) (fun c11 => ?_)
            · have ic11 := (xi_eq c11 rfl (by decide) : rh10.toInt = 0)
              obtain ⟨v12, ev12⟩ : ∃ z : Int32, z = v2 + 1 := ⟨_, rfl⟩
              have jv12 : v12.toInt = v2.toInt + 1 := xi_add ev12 rfl (by decide) (by omega) (by omega)
              refine lv_iinc (v := v12) (lv' := [(4, .int v12), (5, .ref rh5), (0, .ref a0), (1, .int c), (2, .int y), (3, .int v1)]) hx hb dX0_playersIn_48 hl (k := 5) rfl (by rw [ev12]; rfl) (by decide) rfl (fun ls hl => ?_)
              refine lv_goto (tgt := 5) hx hb dX0_playersIn_51 (by decide) ?_
              exact ih5 _ v1 v12 (lv_sub hl [2, 3, 4, 5, 0] rfl) (by omega) (by omega) (by omega)
            · have ic11 := (xi_ne c11 rfl (by decide) : rh10.toInt ≠ 0)
              obtain ⟨v13, ev13⟩ : ∃ z : Int32, z = v1 + 1 := ⟨_, rfl⟩
              have jv13 : -2147483648 ≤ v13.toInt ∧ v13.toInt ≤ 2147483647 := ⟨xi_lo _, Int.le_of_lt_add_one (xi_hi _)⟩
              refine lv_iinc (v := v13) (lv' := [(3, .int v13), (5, .ref rh5), (0, .ref a0), (1, .int c), (2, .int y), (4, .int v2)]) hx hb dX0_playersIn_45 hl (k := 4) rfl (by rw [ev13]; rfl) (by decide) rfl (fun ls hl => ?_)
              obtain ⟨v14, ev14⟩ : ∃ z : Int32, z = v2 + 1 := ⟨_, rfl⟩
              have jv14 : v14.toInt = v2.toInt + 1 := xi_add ev14 rfl (by decide) (by omega) (by omega)
              refine lv_iinc (v := v14) (lv' := [(4, .int v14), (3, .int v13), (5, .ref rh5), (0, .ref a0), (1, .int c), (2, .int y)]) hx hb dX0_playersIn_48 hl (k := 5) rfl (by rw [ev14]; rfl) (by decide) rfl (fun ls hl => ?_)
              refine lv_goto (tgt := 5) hx hb dX0_playersIn_51 (by decide) ?_
              exact ih5 _ v13 v14 (lv_sub hl [3, 4, 5, 1, 0] rfl) (by omega) (by omega) (by omega)
  exact loop5_0 _ _ (0) (0) (lv_sub hl [2, 3, 4, 1, 0] rfl) ⟨by decide, by decide⟩ ⟨by decide, by decide⟩ (show (60 - (0 : Int)) < (((60 - (0 : Int)).toNat + 1 : Nat) : Int) by omega)
set_option maxHeartbeats 4000000 in
set_option maxRecDepth 100000 in
theorem tX0_isAboveCap (l : Launch) (E : tE) (X : tX) (A : Nat → Prop) (z : tZ) (I0 : tI) (L0 : tL) (a0 : Nat) (t_a0 : z.ty a0 = 1) (c : Int32) (c_t : Int) (h_c : c.toInt = c_t) (y : Int32) (y_t : Int) (h_y : y.toInt = y_t) : Met l yX0_isAboveCap wsX0_isAboveCap ({ frames := 5, cells := 0, slots := 0, locals := 320 }) (va_Pc [.ref a0, .int c, .int y] (h_P E X A z I0 L0)) (vp_Si (fun r => (0 ≤ r.toInt ∧ r.toInt ≤ 1))) 0 0 (fun _ => False) := by
  refine Met.ofW (cc := cX0_isAboveCap) (maxL := 3) (ret := (some .boolean)) (by decide) rfl ?_
  intro pr_ ev_ s m args below meth cd_ s₁ B hml hv
  obtain ⟨rfl, hE, hk, hX, hA, hK, hI, hR, hB0⟩ := hv
  have g : h_G h_so h_fk E A z I0 L0 s s.heap s.heap [] := ⟨hK, va_S.rf, hB0⟩
  have hx := B.exec
  have hb := B.bytes
  have hr := B.returns
  have hts := atoms_spec (ws := wsX0_isAboveCap) B.pre
  have hown : s.vm.findClass RX0 = some m.cls := findClass_of_methodNamed B.named
  have hlocks := B.notSynchronized
  have iX0 : ∀ w ∈ u_ws RX0 TX0 9, w ∈ wsX0_isAboveCap := by decide +kernel
  have hl := lv_entry ([.ref a0, .int c, .int y]) (n := 3) (Nat.le_of_ble_eq_true rfl)
  rw [lg_entry_eq]
  generalize (lg_sl ([.ref a0, .int c, .int y]) ++ List.replicate (3 - (lg_sl ([.ref a0, .int c, .int y])).length) Slot.unset).toArray = ls at hl ⊢
  have hl : lv_has ls 3 [(0, .ref a0), (1, .int c), (2, .int y)] := hl
  have b_c : -2147483648 ≤ c_t ∧ c_t ≤ 2147483647 := h_c ▸ ⟨xi_lo c, Int.le_of_lt_add_one (xi_hi c)⟩
  have b_y : -2147483648 ≤ y_t ∧ y_t ≤ 2147483647 := h_y ▸ ⟨xi_lo y, Int.le_of_lt_add_one (xi_hi y)⟩
  refine lv_aload_n hx hb dX0_isAboveCap_0 rfl (lv_at hl 0 rfl) ?_
  refine lv_iload_n hx hb dX0_isAboveCap_1 rfl (lv_at hl 1 rfl) ?_
  refine lv_aload_n hx hb dX0_isAboveCap_2 rfl (lv_at hl 0 rfl) ?_
  refine h_get (v := .int (I0 a0 3)) hx hb hts iX0 hown g t_a0 (by decide) so_1 rfl 3 (by decide) (hts (.fieldLink RX0 37 "CapLeague$Books" "clock" "I") (by decide +kernel)) rfl dX0_isAboveCap_3 rfl ?_
  refine lv_topi (fun v1 ev1 => ?_)
  have jv1 := hI.rd a0 3 t_a0 ev1 (rfl : h_bd 1 3 = (0, 9))
  refine vp_callSi (W.runV (As := [.int c, .int v1]) (rest := []) ⟨hx, hb, hml, hown, hts⟩ (tX0_counts l E X A z I0 L0 a0 t_a0 c (c_t) h_c v1 (v1.toInt) rfl) (cwV 2 hts gX0_isAboveCap_X0_counts rfl rfl rfl (by decide +kernel) ⟨Nat.le_of_ble_eq_true rfl, Nat.le_of_ble_eq_true rfl⟩) ⟨h_blind _ _ _ _ _ _ _, h_recv g t_a0 (by decide) so_1 (q := (RX0, TX0, 9)) rfl, h_pre _ hE hk hX hA hI hR g⟩ rfl rfl hl.1 rfl (lv_room (Nat.le_of_ble_eq_true rfl)) dX0_isAboveCap_6 ⟨Nat.le_of_ble_eq_true rfl, Nat.le_of_ble_eq_true rfl⟩) (fun rh2 h2 => ?_)
  have jrh2 : -2147483648 ≤ rh2.toInt ∧ rh2.toInt ≤ 2147483647 := ⟨xi_lo _, Int.le_of_lt_add_one (xi_hi _)⟩
  refine lv_iload_n hx hb dX0_isAboveCap_9 rfl (lv_at hl 2 rfl) ?_
  refine lv_iadd hx hb dX0_isAboveCap_10 ?_
  refine lv_topi (fun v3 ev3 => ?_)
  have jv3 : -2147483648 ≤ v3.toInt ∧ v3.toInt ≤ 2147483647 := ⟨xi_lo _, Int.le_of_lt_add_one (xi_hi _)⟩
  refine lv_aload_n hx hb dX0_isAboveCap_11 rfl (lv_at hl 0 rfl) ?_
  refine va_csq (W.runV (As := []) (rest := [.int v3]) ⟨hx, hb, hml, hown, hts⟩ (tX0_lawsNow l E X A z I0 L0 a0 t_a0) (cwV 0 hts gX0_isAboveCap_X0_lawsNow rfl rfl rfl (by decide +kernel) ⟨Nat.le_of_ble_eq_true rfl, Nat.le_of_ble_eq_true rfl⟩) ⟨h_blind _ _ _ _ _ _ _, h_recv g t_a0 (by decide) so_1 (q := (RX0, TX0, 9)) rfl, h_pre _ hE hk hX hA hI hR g⟩ rfl rfl hl.1 rfl (lv_room (Nat.le_of_ble_eq_true rfl)) dX0_isAboveCap_12 ⟨Nat.le_of_ble_eq_true rfl, Nat.le_of_ble_eq_true rfl⟩) (fun rh4 h4 => ?_)
  obtain ⟨rh4, rfl, trh4⟩ := h4
  refine xw_v (v := .ref rh4) rfl ?_
  refine lv_iconst (v := 0) hx hb dX0_isAboveCap_15 (by decide) ?_
  refine vp_callSi (W.runV (As := [.int 0]) (rest := [.int v3]) ⟨hx, hb, hml, hown, hts⟩ (tX5_number l E X A z I0 L0 rh4 trh4 0 (0) (by decide)) (cwV 1 hts gX0_isAboveCap_X5_number rfl rfl rfl (by decide +kernel) ⟨Nat.le_of_ble_eq_true rfl, Nat.le_of_ble_eq_true rfl⟩) ⟨h_blind _ _ _ _ _ _ _, h_recv g trh4 (by decide) so_6 (q := (RX5, TX5, 3)) rfl, h_pre _ hE hk hX hA hI hR g⟩ rfl rfl hl.1 rfl (lv_room (Nat.le_of_ble_eq_true rfl)) dX0_isAboveCap_16 ⟨Nat.le_of_ble_eq_true rfl, Nat.le_of_ble_eq_true rfl⟩) (fun rh5 h5 => ?_)
  have jrh5 : -2147483648 ≤ rh5.toInt ∧ rh5.toInt ≤ 2147483647 := ⟨xi_lo _, Int.le_of_lt_add_one (xi_hi _)⟩
  refine lv_icmp_le (tgt := 26) hx hb dX0_isAboveCap_19 (by decide) (fun c6 => ?_) (fun c6 => ?_)
  · have ic6 := (xi_le c6 rfl rfl : v3.toInt ≤ rh5.toInt)
    refine lv_iconst (v := 0) hx hb dX0_isAboveCap_26 (by decide) ?_
    exact W.zret (v := 0) hx hb hr (by decide) (fun t ht hW => ⟨0, rfl, ⟨(by decide), (by decide)⟩, ht⟩) (fun _ h => by cases h) dX0_isAboveCap_27
  · have ic6 := (xi_nle c6 rfl rfl : rh5.toInt < v3.toInt)
    refine lv_iconst (v := 1) hx hb dX0_isAboveCap_22 (by decide) ?_
    refine lv_goto (tgt := 27) hx hb dX0_isAboveCap_23 (by decide) ?_
    exact W.zret (v := 1) hx hb hr (by decide) (fun t ht hW => ⟨1, rfl, ⟨(by decide), (by decide)⟩, ht⟩) (fun _ h => by cases h) dX0_isAboveCap_27
set_option maxHeartbeats 4000000 in
set_option maxRecDepth 100000 in
theorem tX0_isSpareUsed (l : Launch) (E : tE) (X : tX) (A : Nat → Prop) (z : tZ) (I0 : tI) (L0 : tL) (a0 : Nat) (t_a0 : z.ty a0 = 1) (c : Int32) (c_t : Int) (h_c : c.toInt = c_t) : Met l yX0_isSpareUsed wsX0_isSpareUsed ({ frames := 2, cells := 0, slots := 0, locals := 128 }) (va_Pc [.ref a0, .int c] (h_P E X A z I0 L0)) (vp_Si (fun r => (0 ≤ r.toInt ∧ r.toInt ≤ 1))) 0 0 (fun _ => False) := by
  refine Met.ofW (cc := cX0_isSpareUsed) (maxL := 2) (ret := (some .boolean)) (by decide) rfl ?_
  intro pr_ ev_ s m args below meth cd_ s₁ B hml hv
  obtain ⟨rfl, hE, hk, hX, hA, hK, hI, hR, hB0⟩ := hv
  have g : h_G h_so h_fk E A z I0 L0 s s.heap s.heap [] := ⟨hK, va_S.rf, hB0⟩
  have hx := B.exec
  have hb := B.bytes
  have hr := B.returns
  have hts := atoms_spec (ws := wsX0_isSpareUsed) B.pre
  have hown : s.vm.findClass RX0 = some m.cls := findClass_of_methodNamed B.named
  have hlocks := B.notSynchronized
  have iX0 : ∀ w ∈ u_ws RX0 TX0 9, w ∈ wsX0_isSpareUsed := by decide +kernel
  have hl := lv_entry ([.ref a0, .int c]) (n := 2) (Nat.le_of_ble_eq_true rfl)
  rw [lg_entry_eq]
  generalize (lg_sl ([.ref a0, .int c]) ++ List.replicate (2 - (lg_sl ([.ref a0, .int c])).length) Slot.unset).toArray = ls at hl ⊢
  have hl : lv_has ls 2 [(0, .ref a0), (1, .int c)] := hl
  have b_c : -2147483648 ≤ c_t ∧ c_t ≤ 2147483647 := h_c ▸ ⟨xi_lo c, Int.le_of_lt_add_one (xi_hi c)⟩
  refine lv_iload_n hx hb dX0_isSpareUsed_0 rfl (lv_at hl 1 rfl) ?_
  refine vp_callSi (xr_of (va_runSN (As := [.int c]) (rest := []) ⟨hx, hb, hml, hown, hts⟩ (tX11_isClub l E X A z I0 L0 c (c_t) h_c) (⟨va_cnB 1 hts gX0_isSpareUsed_X11_isClub_n79 rfl rfl rfl (hE.link 8 rfl) (hts (.initialized RX11) (by decide +kernel)) (by decide +kernel) ⟨Nat.le_of_ble_eq_true rfl, Nat.le_of_ble_eq_true rfl⟩, hts (.static yX11_isClub) (by decide +kernel), trivial⟩) ⟨h_blind _ _ _ _ _ _ _, h_pre _ hE hk hX hA hI hR g⟩ rfl rfl hl.1 rfl (lv_room (Nat.le_of_ble_eq_true rfl)) dX0_isSpareUsed_1 ⟨Nat.le_of_ble_eq_true rfl, Nat.le_of_ble_eq_true rfl⟩)) (fun rh1 h1 => ?_)
  rcases h1 with ⟨rfl, h1⟩ | ⟨rfl, h1⟩
  · skip
    refine lv_if_eq (tgt := 20) hx hb dX0_isSpareUsed_4 (by decide) (fun _ => ?_) (fun h => absurd (by decide) h)
    refine lv_iconst (v := 0) hx hb dX0_isSpareUsed_20 (by decide) ?_
    exact W.zret (v := 0) hx hb hr (by decide) (fun t ht hW => ⟨0, rfl, ⟨(by decide), (by decide)⟩, ht⟩) (fun _ h => by cases h) dX0_isSpareUsed_21
  · skip
    refine lv_if_eq (tgt := 20) hx hb dX0_isSpareUsed_4 (by decide) (fun h => absurd h (by decide)) (fun _ => ?_)
    refine lv_aload_n hx hb dX0_isSpareUsed_7 rfl (lv_at hl 0 rfl) ?_
    obtain ⟨b4, rb4, tb4⟩ := hR.at a0 5 t_a0 (rfl : h_rs 1 5 = some (105, false)) (by decide)
    refine h_get (v := .ref b4) hx hb hts iX0 hown g t_a0 (by decide) so_1 rfl 5 (by decide) (hts (.fieldLink RX0 22 "CapLeague$Books" "spareUsed" "[Z") (by decide +kernel)) rfl dX0_isSpareUsed_8 (by show va_rf (z.R a0 5) = _; rw [rb4]; rfl) ?_
    refine lv_iload_n hx hb dX0_isSpareUsed_11 rfl (lv_at hl 1 rfl) ?_
    refine h_zald hx hb g tb4 (by decide) so_105 (xi_in (by rw [h_c]; omega) (by rw [h_c]; omega)) dX0_isSpareUsed_12 ?_
    refine lv_topi (fun v5 ev5 => ?_)
    have jv5 := hI.rd b4 c.toNatClampNeg tb4 ev5 (rfl : h_bd 105 _ = (0, 1))
    refine lv_if_eq (tgt := 20) hx hb dX0_isSpareUsed_13 (by decide) (fun c6 => ?_) (fun c6 => ?_)
    · have ic6 := (xi_eq c6 rfl (by decide) : v5.toInt = 0)
      refine lv_iconst (v := 0) hx hb dX0_isSpareUsed_20 (by decide) ?_
      exact W.zret (v := 0) hx hb hr (by decide) (fun t ht hW => ⟨0, rfl, ⟨(by decide), (by decide)⟩, ht⟩) (fun _ h => by cases h) dX0_isSpareUsed_21
    · have ic6 := (xi_ne c6 rfl (by decide) : v5.toInt ≠ 0)
      refine lv_iconst (v := 1) hx hb dX0_isSpareUsed_16 (by decide) ?_
      refine lv_goto (tgt := 21) hx hb dX0_isSpareUsed_17 (by decide) ?_
      exact W.zret (v := 1) hx hb hr (by decide) (fun t ht hW => ⟨1, rfl, ⟨(by decide), (by decide)⟩, ht⟩) (fun _ h => by cases h) dX0_isSpareUsed_21
set_option maxHeartbeats 4000000 in
set_option maxRecDepth 100000 in
theorem tX0_faultsOfContract (l : Launch) (E : tE) (X : tX) (A : Nat → Prop) (z : tZ) (I0 : tI) (L0 : tL) (a0 : Nat) (t_a0 : z.ty a0 = 1) (p0 : Nat) (t_p0 : z.ty p0 = 7) (c : Int32) (c_t : Int) (h_c : c.toInt = c_t) (y : Int32) (y_t : Int) (h_y : y.toInt = y_t) (x : Int32) (x_t : Int) (h_x : x.toInt = x_t) : Met l yX0_faultsOfContract wsX0_faultsOfContract ({ frames := 6, cells := 0, slots := 0, locals := 384 }) (va_Pc [.ref a0, .ref p0, .int c, .int y, .int x] (h_P E X A z I0 L0)) (vp_Si (fun r => True)) 0 0 (fun _ => False) := by
  refine Met.ofW (cc := cX0_faultsOfContract) (maxL := 7) (ret := (some .int)) (by decide) rfl ?_
  intro pr_ ev_ s m args below meth cd_ s₁ B hml hv
  obtain ⟨rfl, hE, hk, hX, hA, hK, hI, hR, hB0⟩ := hv
  have g : h_G h_so h_fk E A z I0 L0 s s.heap s.heap [] := ⟨hK, va_S.rf, hB0⟩
  have hx := B.exec
  have hb := B.bytes
  have hr := B.returns
  have hts := atoms_spec (ws := wsX0_faultsOfContract) B.pre
  have hown : s.vm.findClass RX0 = some m.cls := findClass_of_methodNamed B.named
  have hlocks := B.notSynchronized
  have iX0 : ∀ w ∈ u_ws RX0 TX0 9, w ∈ wsX0_faultsOfContract := by decide +kernel
  have hl := lv_entry ([.ref a0, .ref p0, .int c, .int y, .int x]) (n := 7) (Nat.le_of_ble_eq_true rfl)
  rw [lg_entry_eq]
  generalize (lg_sl ([.ref a0, .ref p0, .int c, .int y, .int x]) ++ List.replicate (7 - (lg_sl ([.ref a0, .ref p0, .int c, .int y, .int x])).length) Slot.unset).toArray = ls at hl ⊢
  have hl : lv_has ls 7 [(0, .ref a0), (1, .ref p0), (2, .int c), (3, .int y), (4, .int x)] := hl
  have b_c : -2147483648 ≤ c_t ∧ c_t ≤ 2147483647 := h_c ▸ ⟨xi_lo c, Int.le_of_lt_add_one (xi_hi c)⟩
  have b_y : -2147483648 ≤ y_t ∧ y_t ≤ 2147483647 := h_y ▸ ⟨xi_lo y, Int.le_of_lt_add_one (xi_hi y)⟩
  have b_x : -2147483648 ≤ x_t ∧ x_t ≤ 2147483647 := h_x ▸ ⟨xi_lo x, Int.le_of_lt_add_one (xi_hi x)⟩
  refine lv_aload_n hx hb dX0_faultsOfContract_0 rfl (lv_at hl 0 rfl) ?_
  refine va_csq (W.runV (As := []) (rest := []) ⟨hx, hb, hml, hown, hts⟩ (tX0_lawsNow l E X A z I0 L0 a0 t_a0) (cwV 0 hts gX0_faultsOfContract_X0_lawsNow rfl rfl rfl (by decide +kernel) ⟨Nat.le_of_ble_eq_true rfl, Nat.le_of_ble_eq_true rfl⟩) ⟨h_blind _ _ _ _ _ _ _, h_recv g t_a0 (by decide) so_1 (q := (RX0, TX0, 9)) rfl, h_pre _ hE hk hX hA hI hR g⟩ rfl rfl hl.1 rfl (lv_room (Nat.le_of_ble_eq_true rfl)) dX0_faultsOfContract_1 ⟨Nat.le_of_ble_eq_true rfl, Nat.le_of_ble_eq_true rfl⟩) (fun rh1 h1 => ?_)
  obtain ⟨rh1, rfl, trh1⟩ := h1
  refine xw_v (v := .ref rh1) rfl ?_
  refine lv_astore (lv' := [(5, .ref rh1), (0, .ref a0), (1, .ref p0), (2, .int c), (3, .int y), (4, .int x)]) hx hb dX0_faultsOfContract_4 hl (by decide) rfl (fun ls hl => ?_)
  refine lv_aload_n hx hb dX0_faultsOfContract_6 rfl (lv_at hl 2 rfl) ?_
  refine vp_callSi (W.runV (As := []) (rest := []) ⟨hx, hb, hml, hown, hts⟩ (tX6_isSigned l E X A z I0 L0 p0 t_p0) (cwV 0 hts gX0_faultsOfContract_X6_isSigned rfl rfl rfl (by decide +kernel) ⟨Nat.le_of_ble_eq_true rfl, Nat.le_of_ble_eq_true rfl⟩) ⟨h_blind _ _ _ _ _ _ _, h_recv g t_p0 (by decide) so_7 (q := (RX6, TX6, 9)) rfl, h_pre _ hE hk hX hA hI hR g⟩ rfl rfl hl.1 rfl (lv_room (Nat.le_of_ble_eq_true rfl)) dX0_faultsOfContract_7 ⟨Nat.le_of_ble_eq_true rfl, Nat.le_of_ble_eq_true rfl⟩) (fun rh2 h2 => ?_)
  refine lv_if_eq (tgt := 17) hx hb dX0_faultsOfContract_10 (by decide) (fun c3 => ?_) (fun c3 => ?_)
  · have ic3 := (xi_eq c3 rfl (by decide) : rh2.toInt = 0)
    refine lv_iconst (v := 0) hx hb dX0_faultsOfContract_17 (by decide) ?_
    refine lv_istore (lv' := [(6, .int 0), (5, .ref rh1), (0, .ref a0), (1, .ref p0), (2, .int c), (3, .int y), (4, .int x)]) hx hb dX0_faultsOfContract_18 hl (by decide) rfl (fun ls hl => ?_)
    refine lv_aload_n hx hb dX0_faultsOfContract_20 rfl (lv_at hl 2 rfl) ?_
    refine lv_iload_n hx hb dX0_faultsOfContract_21 rfl (lv_at hl 4 rfl) ?_
    refine lv_aload_n hx hb dX0_faultsOfContract_22 rfl (lv_at hl 2 rfl) ?_
    refine h_get (v := .int (I0 a0 3)) hx hb hts iX0 hown g t_a0 (by decide) so_1 rfl 3 (by decide) (hts (.fieldLink RX0 37 "CapLeague$Books" "clock" "I") (by decide +kernel)) rfl dX0_faultsOfContract_23 rfl ?_
    refine lv_topi (fun v4 ev4 => ?_)
    have jv4 := hI.rd a0 3 t_a0 ev4 (rfl : h_bd 1 3 = (0, 9))
    refine vp_callSi (W.runV (As := [.int c, .int v4]) (rest := []) ⟨hx, hb, hml, hown, hts⟩ (tX0_playersIn l E X A z I0 L0 a0 t_a0 c (c_t) h_c v4 (v4.toInt) rfl) (cwV 2 hts gX0_faultsOfContract_X0_playersIn rfl rfl rfl (by decide +kernel) ⟨Nat.le_of_ble_eq_true rfl, Nat.le_of_ble_eq_true rfl⟩) ⟨h_blind _ _ _ _ _ _ _, h_recv g t_a0 (by decide) so_1 (q := (RX0, TX0, 9)) rfl, h_pre _ hE hk hX hA hI hR g⟩ rfl rfl hl.1 rfl (lv_room (Nat.le_of_ble_eq_true rfl)) dX0_faultsOfContract_26 ⟨Nat.le_of_ble_eq_true rfl, Nat.le_of_ble_eq_true rfl⟩) (fun rh5 h5 => ?_)
    have jrh5 : -2147483648 ≤ rh5.toInt ∧ rh5.toInt ≤ 2147483647 := ⟨xi_lo _, Int.le_of_lt_add_one (xi_hi _)⟩
    refine lv_aload hx hb dX0_faultsOfContract_29 (lv_at hl 1 rfl) ?_
    refine lv_iconst (v := 1) hx hb dX0_faultsOfContract_31 (by decide) ?_
    refine vp_callSi (W.runV (As := [.int 1]) (rest := [.int rh5]) ⟨hx, hb, hml, hown, hts⟩ (tX5_number l E X A z I0 L0 rh1 trh1 1 (1) (by decide)) (cwV 1 hts gX0_faultsOfContract_X5_number rfl rfl rfl (by decide +kernel) ⟨Nat.le_of_ble_eq_true rfl, Nat.le_of_ble_eq_true rfl⟩) ⟨h_blind _ _ _ _ _ _ _, h_recv g trh1 (by decide) so_6 (q := (RX5, TX5, 3)) rfl, h_pre _ hE hk hX hA hI hR g⟩ rfl rfl hl.1 rfl (lv_room (Nat.le_of_ble_eq_true rfl)) dX0_faultsOfContract_32 ⟨Nat.le_of_ble_eq_true rfl, Nat.le_of_ble_eq_true rfl⟩) (fun rh6 h6 => ?_)
    have jrh6 : -2147483648 ≤ rh6.toInt ∧ rh6.toInt ≤ 2147483647 := ⟨xi_lo _, Int.le_of_lt_add_one (xi_hi _)⟩
    refine lv_icmp_lt (tgt := 44) hx hb dX0_faultsOfContract_35 (by decide) (fun c7 => ?_) (fun c7 => ?_)
    · have ic7 := (xi_lt c7 rfl rfl : rh5.toInt < rh6.toInt)
      refine lv_iload_n hx hb dX0_faultsOfContract_44 rfl (lv_at hl 5 rfl) ?_
      refine lv_aload hx hb dX0_faultsOfContract_45 (lv_at hl 1 rfl) ?_
      refine lv_iconst (v := 2) hx hb dX0_faultsOfContract_47 (by decide) ?_
      refine vp_callSi (W.runV (As := [.int 2]) (rest := [.int y]) ⟨hx, hb, hml, hown, hts⟩ (tX5_number l E X A z I0 L0 rh1 trh1 2 (2) (by decide)) (cwV 1 hts gX0_faultsOfContract_X5_number rfl rfl rfl (by decide +kernel) ⟨Nat.le_of_ble_eq_true rfl, Nat.le_of_ble_eq_true rfl⟩) ⟨h_blind _ _ _ _ _ _ _, h_recv g trh1 (by decide) so_6 (q := (RX5, TX5, 3)) rfl, h_pre _ hE hk hX hA hI hR g⟩ rfl rfl hl.1 rfl (lv_room (Nat.le_of_ble_eq_true rfl)) dX0_faultsOfContract_48 ⟨Nat.le_of_ble_eq_true rfl, Nat.le_of_ble_eq_true rfl⟩) (fun rh8 h8 => ?_)
      have jrh8 : -2147483648 ≤ rh8.toInt ∧ rh8.toInt ≤ 2147483647 := ⟨xi_lo _, Int.le_of_lt_add_one (xi_hi _)⟩
      refine lv_icmp_le (tgt := 60) hx hb dX0_faultsOfContract_51 (by decide) (fun c9 => ?_) (fun c9 => ?_)
      · have ic9 := (xi_le c9 h_y rfl : y_t ≤ rh8.toInt)
        refine lv_aload_n hx hb dX0_faultsOfContract_60 rfl (lv_at hl 2 rfl) ?_
        refine lv_iload_n hx hb dX0_faultsOfContract_61 rfl (lv_at hl 4 rfl) ?_
        refine lv_iload hx hb dX0_faultsOfContract_62 (lv_at hl 6 rfl) ?_
        refine vp_callSi (W.runV (As := [.int c, .int x]) (rest := []) ⟨hx, hb, hml, hown, hts⟩ (tX0_isAboveCap l E X A z I0 L0 a0 t_a0 c (c_t) h_c x (x_t) h_x) (cwV 2 hts gX0_faultsOfContract_X0_isAboveCap rfl rfl rfl (by decide +kernel) ⟨Nat.le_of_ble_eq_true rfl, Nat.le_of_ble_eq_true rfl⟩) ⟨h_blind _ _ _ _ _ _ _, h_recv g t_a0 (by decide) so_1 (q := (RX0, TX0, 9)) rfl, h_pre _ hE hk hX hA hI hR g⟩ rfl rfl hl.1 rfl (lv_room (Nat.le_of_ble_eq_true rfl)) dX0_faultsOfContract_64 ⟨Nat.le_of_ble_eq_true rfl, Nat.le_of_ble_eq_true rfl⟩) (fun rh10 h10 => ?_)
        refine lv_if_eq (tgt := 96) hx hb dX0_faultsOfContract_67 (by decide) (fun c11 => ?_) (fun c11 => ?_)
        · have ic11 := (xi_eq c11 rfl (by decide) : rh10.toInt = 0)
          refine lv_iload hx hb dX0_faultsOfContract_96 (lv_at hl 0 rfl) ?_
          exact W.iret (v := 0) hx hb hr (fun t ht hW => ⟨0, rfl, trivial, ht⟩) (fun _ h => by cases h) dX0_faultsOfContract_98
        · have ic11 := (xi_ne c11 rfl (by decide) : rh10.toInt ≠ 0)
          refine lv_iload hx hb dX0_faultsOfContract_70 (lv_at hl 6 rfl) ?_
          refine lv_aload hx hb dX0_faultsOfContract_72 (lv_at hl 1 rfl) ?_
          refine lv_iconst (v := 3) hx hb dX0_faultsOfContract_74 (by decide) ?_
          refine vp_callSi (W.runV (As := [.int 3]) (rest := [.int x]) ⟨hx, hb, hml, hown, hts⟩ (tX5_number l E X A z I0 L0 rh1 trh1 3 (3) (by decide)) (cwV 1 hts gX0_faultsOfContract_X5_number rfl rfl rfl (by decide +kernel) ⟨Nat.le_of_ble_eq_true rfl, Nat.le_of_ble_eq_true rfl⟩) ⟨h_blind _ _ _ _ _ _ _, h_recv g trh1 (by decide) so_6 (q := (RX5, TX5, 3)) rfl, h_pre _ hE hk hX hA hI hR g⟩ rfl rfl hl.1 rfl (lv_room (Nat.le_of_ble_eq_true rfl)) dX0_faultsOfContract_75 ⟨Nat.le_of_ble_eq_true rfl, Nat.le_of_ble_eq_true rfl⟩) (fun rh12 h12 => ?_)
          have jrh12 : -2147483648 ≤ rh12.toInt ∧ rh12.toInt ≤ 2147483647 := ⟨xi_lo _, Int.le_of_lt_add_one (xi_hi _)⟩
          refine lv_icmp_gt (tgt := 89) hx hb dX0_faultsOfContract_78 (by decide) (fun c13 => ?_) (fun c13 => ?_)
          · have ic13 := (xi_lt c13 rfl h_x : rh12.toInt < x_t)
            refine lv_iload hx hb dX0_faultsOfContract_89 (lv_at hl 0 rfl) ?_
            refine lv_bipush (v := 8) hx hb dX0_faultsOfContract_91 (by decide) ?_
            refine lv_ior hx hb dX0_faultsOfContract_93 ?_
            refine lv_topi (fun v14 ev14 => ?_)
            have jv14 : -2147483648 ≤ v14.toInt ∧ v14.toInt ≤ 2147483647 := ⟨xi_lo _, Int.le_of_lt_add_one (xi_hi _)⟩
            refine lv_istore (lv' := [(6, .int v14), (5, .ref rh1), (0, .ref a0), (1, .ref p0), (2, .int c), (3, .int y), (4, .int x)]) hx hb dX0_faultsOfContract_94 hl (by decide) rfl (fun ls hl => ?_)
            refine lv_iload hx hb dX0_faultsOfContract_96 (lv_at hl 0 rfl) ?_
            exact W.iret (v := v14) hx hb hr (fun t ht hW => ⟨v14, rfl, trivial, ht⟩) (fun _ h => by cases h) dX0_faultsOfContract_98
          · have ic13 := (xi_nlt c13 rfl h_x : x_t ≤ rh12.toInt)
            refine lv_aload_n hx hb dX0_faultsOfContract_81 rfl (lv_at hl 2 rfl) ?_
            refine lv_iload_n hx hb dX0_faultsOfContract_82 rfl (lv_at hl 4 rfl) ?_
            refine vp_callSi (W.runV (As := [.int c]) (rest := []) ⟨hx, hb, hml, hown, hts⟩ (tX0_isSpareUsed l E X A z I0 L0 a0 t_a0 c (c_t) h_c) (cwV 1 hts gX0_faultsOfContract_X0_isSpareUsed rfl rfl rfl (by decide +kernel) ⟨Nat.le_of_ble_eq_true rfl, Nat.le_of_ble_eq_true rfl⟩) ⟨h_blind _ _ _ _ _ _ _, h_recv g t_a0 (by decide) so_1 (q := (RX0, TX0, 9)) rfl, h_pre _ hE hk hX hA hI hR g⟩ rfl rfl hl.1 rfl (lv_room (Nat.le_of_ble_eq_true rfl)) dX0_faultsOfContract_83 ⟨Nat.le_of_ble_eq_true rfl, Nat.le_of_ble_eq_true rfl⟩) (fun rh15 h15 => ?_)
            refine lv_if_eq (tgt := 96) hx hb dX0_faultsOfContract_86 (by decide) (fun c16 => ?_) (fun c16 => ?_)
            · have ic16 := (xi_eq c16 rfl (by decide) : rh15.toInt = 0)
              refine lv_iload hx hb dX0_faultsOfContract_96 (lv_at hl 0 rfl) ?_
              exact W.iret (v := 0) hx hb hr (fun t ht hW => ⟨0, rfl, trivial, ht⟩) (fun _ h => by cases h) dX0_faultsOfContract_98
            · have ic16 := (xi_ne c16 rfl (by decide) : rh15.toInt ≠ 0)
              refine lv_iload hx hb dX0_faultsOfContract_89 (lv_at hl 0 rfl) ?_
              refine lv_bipush (v := 8) hx hb dX0_faultsOfContract_91 (by decide) ?_
              refine lv_ior hx hb dX0_faultsOfContract_93 ?_
              refine lv_topi (fun v17 ev17 => ?_)
              have jv17 : -2147483648 ≤ v17.toInt ∧ v17.toInt ≤ 2147483647 := ⟨xi_lo _, Int.le_of_lt_add_one (xi_hi _)⟩
              refine lv_istore (lv' := [(6, .int v17), (5, .ref rh1), (0, .ref a0), (1, .ref p0), (2, .int c), (3, .int y), (4, .int x)]) hx hb dX0_faultsOfContract_94 hl (by decide) rfl (fun ls hl => ?_)
              refine lv_iload hx hb dX0_faultsOfContract_96 (lv_at hl 0 rfl) ?_
              exact W.iret (v := v17) hx hb hr (fun t ht hW => ⟨v17, rfl, trivial, ht⟩) (fun _ h => by cases h) dX0_faultsOfContract_98
      · have ic9 := (xi_nle c9 h_y rfl : rh8.toInt < y_t)
        refine lv_iload hx hb dX0_faultsOfContract_54 (lv_at hl 0 rfl) ?_
        refine lv_iconst (v := 4) hx hb dX0_faultsOfContract_56 (by decide) ?_
        refine lv_ior hx hb dX0_faultsOfContract_57 ?_
        refine lv_topi (fun v18 ev18 => ?_)
        have jv18 : -2147483648 ≤ v18.toInt ∧ v18.toInt ≤ 2147483647 := ⟨xi_lo _, Int.le_of_lt_add_one (xi_hi _)⟩
        refine lv_istore (lv' := [(6, .int v18), (5, .ref rh1), (0, .ref a0), (1, .ref p0), (2, .int c), (3, .int y), (4, .int x)]) hx hb dX0_faultsOfContract_58 hl (by decide) rfl (fun ls hl => ?_)
        refine lv_aload_n hx hb dX0_faultsOfContract_60 rfl (lv_at hl 2 rfl) ?_
        refine lv_iload_n hx hb dX0_faultsOfContract_61 rfl (lv_at hl 4 rfl) ?_
        refine lv_iload hx hb dX0_faultsOfContract_62 (lv_at hl 6 rfl) ?_
        refine vp_callSi (W.runV (As := [.int c, .int x]) (rest := []) ⟨hx, hb, hml, hown, hts⟩ (tX0_isAboveCap l E X A z I0 L0 a0 t_a0 c (c_t) h_c x (x_t) h_x) (cwV 2 hts gX0_faultsOfContract_X0_isAboveCap rfl rfl rfl (by decide +kernel) ⟨Nat.le_of_ble_eq_true rfl, Nat.le_of_ble_eq_true rfl⟩) ⟨h_blind _ _ _ _ _ _ _, h_recv g t_a0 (by decide) so_1 (q := (RX0, TX0, 9)) rfl, h_pre _ hE hk hX hA hI hR g⟩ rfl rfl hl.1 rfl (lv_room (Nat.le_of_ble_eq_true rfl)) dX0_faultsOfContract_64 ⟨Nat.le_of_ble_eq_true rfl, Nat.le_of_ble_eq_true rfl⟩) (fun rh19 h19 => ?_)
        refine lv_if_eq (tgt := 96) hx hb dX0_faultsOfContract_67 (by decide) (fun c20 => ?_) (fun c20 => ?_)
        · have ic20 := (xi_eq c20 rfl (by decide) : rh19.toInt = 0)
          refine lv_iload hx hb dX0_faultsOfContract_96 (lv_at hl 0 rfl) ?_
          exact W.iret (v := v18) hx hb hr (fun t ht hW => ⟨v18, rfl, trivial, ht⟩) (fun _ h => by cases h) dX0_faultsOfContract_98
        · have ic20 := (xi_ne c20 rfl (by decide) : rh19.toInt ≠ 0)
          refine lv_iload hx hb dX0_faultsOfContract_70 (lv_at hl 6 rfl) ?_
          refine lv_aload hx hb dX0_faultsOfContract_72 (lv_at hl 1 rfl) ?_
          refine lv_iconst (v := 3) hx hb dX0_faultsOfContract_74 (by decide) ?_
          refine vp_callSi (W.runV (As := [.int 3]) (rest := [.int x]) ⟨hx, hb, hml, hown, hts⟩ (tX5_number l E X A z I0 L0 rh1 trh1 3 (3) (by decide)) (cwV 1 hts gX0_faultsOfContract_X5_number rfl rfl rfl (by decide +kernel) ⟨Nat.le_of_ble_eq_true rfl, Nat.le_of_ble_eq_true rfl⟩) ⟨h_blind _ _ _ _ _ _ _, h_recv g trh1 (by decide) so_6 (q := (RX5, TX5, 3)) rfl, h_pre _ hE hk hX hA hI hR g⟩ rfl rfl hl.1 rfl (lv_room (Nat.le_of_ble_eq_true rfl)) dX0_faultsOfContract_75 ⟨Nat.le_of_ble_eq_true rfl, Nat.le_of_ble_eq_true rfl⟩) (fun rh21 h21 => ?_)
          have jrh21 : -2147483648 ≤ rh21.toInt ∧ rh21.toInt ≤ 2147483647 := ⟨xi_lo _, Int.le_of_lt_add_one (xi_hi _)⟩
          refine lv_icmp_gt (tgt := 89) hx hb dX0_faultsOfContract_78 (by decide) (fun c22 => ?_) (fun c22 => ?_)
          · have ic22 := (xi_lt c22 rfl h_x : rh21.toInt < x_t)
            refine lv_iload hx hb dX0_faultsOfContract_89 (lv_at hl 0 rfl) ?_
            refine lv_bipush (v := 8) hx hb dX0_faultsOfContract_91 (by decide) ?_
            refine lv_ior hx hb dX0_faultsOfContract_93 ?_
            refine lv_topi (fun v23 ev23 => ?_)
            have jv23 : -2147483648 ≤ v23.toInt ∧ v23.toInt ≤ 2147483647 := ⟨xi_lo _, Int.le_of_lt_add_one (xi_hi _)⟩
            refine lv_istore (lv' := [(6, .int v23), (5, .ref rh1), (0, .ref a0), (1, .ref p0), (2, .int c), (3, .int y), (4, .int x)]) hx hb dX0_faultsOfContract_94 hl (by decide) rfl (fun ls hl => ?_)
            refine lv_iload hx hb dX0_faultsOfContract_96 (lv_at hl 0 rfl) ?_
            exact W.iret (v := v23) hx hb hr (fun t ht hW => ⟨v23, rfl, trivial, ht⟩) (fun _ h => by cases h) dX0_faultsOfContract_98
          · have ic22 := (xi_nlt c22 rfl h_x : x_t ≤ rh21.toInt)
            refine lv_aload_n hx hb dX0_faultsOfContract_81 rfl (lv_at hl 2 rfl) ?_
            refine lv_iload_n hx hb dX0_faultsOfContract_82 rfl (lv_at hl 4 rfl) ?_
            refine vp_callSi (W.runV (As := [.int c]) (rest := []) ⟨hx, hb, hml, hown, hts⟩ (tX0_isSpareUsed l E X A z I0 L0 a0 t_a0 c (c_t) h_c) (cwV 1 hts gX0_faultsOfContract_X0_isSpareUsed rfl rfl rfl (by decide +kernel) ⟨Nat.le_of_ble_eq_true rfl, Nat.le_of_ble_eq_true rfl⟩) ⟨h_blind _ _ _ _ _ _ _, h_recv g t_a0 (by decide) so_1 (q := (RX0, TX0, 9)) rfl, h_pre _ hE hk hX hA hI hR g⟩ rfl rfl hl.1 rfl (lv_room (Nat.le_of_ble_eq_true rfl)) dX0_faultsOfContract_83 ⟨Nat.le_of_ble_eq_true rfl, Nat.le_of_ble_eq_true rfl⟩) (fun rh24 h24 => ?_)
            refine lv_if_eq (tgt := 96) hx hb dX0_faultsOfContract_86 (by decide) (fun c25 => ?_) (fun c25 => ?_)
            · have ic25 := (xi_eq c25 rfl (by decide) : rh24.toInt = 0)
              refine lv_iload hx hb dX0_faultsOfContract_96 (lv_at hl 0 rfl) ?_
              exact W.iret (v := v18) hx hb hr (fun t ht hW => ⟨v18, rfl, trivial, ht⟩) (fun _ h => by cases h) dX0_faultsOfContract_98
            · have ic25 := (xi_ne c25 rfl (by decide) : rh24.toInt ≠ 0)
              refine lv_iload hx hb dX0_faultsOfContract_89 (lv_at hl 0 rfl) ?_
              refine lv_bipush (v := 8) hx hb dX0_faultsOfContract_91 (by decide) ?_
              refine lv_ior hx hb dX0_faultsOfContract_93 ?_
              refine lv_topi (fun v26 ev26 => ?_)
              have jv26 : -2147483648 ≤ v26.toInt ∧ v26.toInt ≤ 2147483647 := ⟨xi_lo _, Int.le_of_lt_add_one (xi_hi _)⟩
              refine lv_istore (lv' := [(6, .int v26), (5, .ref rh1), (0, .ref a0), (1, .ref p0), (2, .int c), (3, .int y), (4, .int x)]) hx hb dX0_faultsOfContract_94 hl (by decide) rfl (fun ls hl => ?_)
              refine lv_iload hx hb dX0_faultsOfContract_96 (lv_at hl 0 rfl) ?_
              exact W.iret (v := v26) hx hb hr (fun t ht hW => ⟨v26, rfl, trivial, ht⟩) (fun _ h => by cases h) dX0_faultsOfContract_98
    · have ic7 := (xi_nlt c7 rfl rfl : rh6.toInt ≤ rh5.toInt)
      refine lv_iload hx hb dX0_faultsOfContract_38 (lv_at hl 0 rfl) ?_
      refine lv_iconst (v := 2) hx hb dX0_faultsOfContract_40 (by decide) ?_
      refine lv_ior hx hb dX0_faultsOfContract_41 ?_
      refine lv_topi (fun v27 ev27 => ?_)
      have jv27 : -2147483648 ≤ v27.toInt ∧ v27.toInt ≤ 2147483647 := ⟨xi_lo _, Int.le_of_lt_add_one (xi_hi _)⟩
      refine lv_istore (lv' := [(6, .int v27), (5, .ref rh1), (0, .ref a0), (1, .ref p0), (2, .int c), (3, .int y), (4, .int x)]) hx hb dX0_faultsOfContract_42 hl (by decide) rfl (fun ls hl => ?_)
      refine lv_iload_n hx hb dX0_faultsOfContract_44 rfl (lv_at hl 5 rfl) ?_
      refine lv_aload hx hb dX0_faultsOfContract_45 (lv_at hl 1 rfl) ?_
      refine lv_iconst (v := 2) hx hb dX0_faultsOfContract_47 (by decide) ?_
      refine vp_callSi (W.runV (As := [.int 2]) (rest := [.int y]) ⟨hx, hb, hml, hown, hts⟩ (tX5_number l E X A z I0 L0 rh1 trh1 2 (2) (by decide)) (cwV 1 hts gX0_faultsOfContract_X5_number rfl rfl rfl (by decide +kernel) ⟨Nat.le_of_ble_eq_true rfl, Nat.le_of_ble_eq_true rfl⟩) ⟨h_blind _ _ _ _ _ _ _, h_recv g trh1 (by decide) so_6 (q := (RX5, TX5, 3)) rfl, h_pre _ hE hk hX hA hI hR g⟩ rfl rfl hl.1 rfl (lv_room (Nat.le_of_ble_eq_true rfl)) dX0_faultsOfContract_48 ⟨Nat.le_of_ble_eq_true rfl, Nat.le_of_ble_eq_true rfl⟩) (fun rh28 h28 => ?_)
      have jrh28 : -2147483648 ≤ rh28.toInt ∧ rh28.toInt ≤ 2147483647 := ⟨xi_lo _, Int.le_of_lt_add_one (xi_hi _)⟩
      refine lv_icmp_le (tgt := 60) hx hb dX0_faultsOfContract_51 (by decide) (fun c29 => ?_) (fun c29 => ?_)
      · have ic29 := (xi_le c29 h_y rfl : y_t ≤ rh28.toInt)
        refine lv_aload_n hx hb dX0_faultsOfContract_60 rfl (lv_at hl 2 rfl) ?_
        refine lv_iload_n hx hb dX0_faultsOfContract_61 rfl (lv_at hl 4 rfl) ?_
        refine lv_iload hx hb dX0_faultsOfContract_62 (lv_at hl 6 rfl) ?_
        refine vp_callSi (W.runV (As := [.int c, .int x]) (rest := []) ⟨hx, hb, hml, hown, hts⟩ (tX0_isAboveCap l E X A z I0 L0 a0 t_a0 c (c_t) h_c x (x_t) h_x) (cwV 2 hts gX0_faultsOfContract_X0_isAboveCap rfl rfl rfl (by decide +kernel) ⟨Nat.le_of_ble_eq_true rfl, Nat.le_of_ble_eq_true rfl⟩) ⟨h_blind _ _ _ _ _ _ _, h_recv g t_a0 (by decide) so_1 (q := (RX0, TX0, 9)) rfl, h_pre _ hE hk hX hA hI hR g⟩ rfl rfl hl.1 rfl (lv_room (Nat.le_of_ble_eq_true rfl)) dX0_faultsOfContract_64 ⟨Nat.le_of_ble_eq_true rfl, Nat.le_of_ble_eq_true rfl⟩) (fun rh30 h30 => ?_)
        refine lv_if_eq (tgt := 96) hx hb dX0_faultsOfContract_67 (by decide) (fun c31 => ?_) (fun c31 => ?_)
        · have ic31 := (xi_eq c31 rfl (by decide) : rh30.toInt = 0)
          refine lv_iload hx hb dX0_faultsOfContract_96 (lv_at hl 0 rfl) ?_
          exact W.iret (v := v27) hx hb hr (fun t ht hW => ⟨v27, rfl, trivial, ht⟩) (fun _ h => by cases h) dX0_faultsOfContract_98
        · have ic31 := (xi_ne c31 rfl (by decide) : rh30.toInt ≠ 0)
          refine lv_iload hx hb dX0_faultsOfContract_70 (lv_at hl 6 rfl) ?_
          refine lv_aload hx hb dX0_faultsOfContract_72 (lv_at hl 1 rfl) ?_
          refine lv_iconst (v := 3) hx hb dX0_faultsOfContract_74 (by decide) ?_
          refine vp_callSi (W.runV (As := [.int 3]) (rest := [.int x]) ⟨hx, hb, hml, hown, hts⟩ (tX5_number l E X A z I0 L0 rh1 trh1 3 (3) (by decide)) (cwV 1 hts gX0_faultsOfContract_X5_number rfl rfl rfl (by decide +kernel) ⟨Nat.le_of_ble_eq_true rfl, Nat.le_of_ble_eq_true rfl⟩) ⟨h_blind _ _ _ _ _ _ _, h_recv g trh1 (by decide) so_6 (q := (RX5, TX5, 3)) rfl, h_pre _ hE hk hX hA hI hR g⟩ rfl rfl hl.1 rfl (lv_room (Nat.le_of_ble_eq_true rfl)) dX0_faultsOfContract_75 ⟨Nat.le_of_ble_eq_true rfl, Nat.le_of_ble_eq_true rfl⟩) (fun rh32 h32 => ?_)
          have jrh32 : -2147483648 ≤ rh32.toInt ∧ rh32.toInt ≤ 2147483647 := ⟨xi_lo _, Int.le_of_lt_add_one (xi_hi _)⟩
          refine lv_icmp_gt (tgt := 89) hx hb dX0_faultsOfContract_78 (by decide) (fun c33 => ?_) (fun c33 => ?_)
          · have ic33 := (xi_lt c33 rfl h_x : rh32.toInt < x_t)
            refine lv_iload hx hb dX0_faultsOfContract_89 (lv_at hl 0 rfl) ?_
            refine lv_bipush (v := 8) hx hb dX0_faultsOfContract_91 (by decide) ?_
            refine lv_ior hx hb dX0_faultsOfContract_93 ?_
            refine lv_topi (fun v34 ev34 => ?_)
            have jv34 : -2147483648 ≤ v34.toInt ∧ v34.toInt ≤ 2147483647 := ⟨xi_lo _, Int.le_of_lt_add_one (xi_hi _)⟩
            refine lv_istore (lv' := [(6, .int v34), (5, .ref rh1), (0, .ref a0), (1, .ref p0), (2, .int c), (3, .int y), (4, .int x)]) hx hb dX0_faultsOfContract_94 hl (by decide) rfl (fun ls hl => ?_)
            refine lv_iload hx hb dX0_faultsOfContract_96 (lv_at hl 0 rfl) ?_
            exact W.iret (v := v34) hx hb hr (fun t ht hW => ⟨v34, rfl, trivial, ht⟩) (fun _ h => by cases h) dX0_faultsOfContract_98
          · have ic33 := (xi_nlt c33 rfl h_x : x_t ≤ rh32.toInt)
            refine lv_aload_n hx hb dX0_faultsOfContract_81 rfl (lv_at hl 2 rfl) ?_
            refine lv_iload_n hx hb dX0_faultsOfContract_82 rfl (lv_at hl 4 rfl) ?_
            refine vp_callSi (W.runV (As := [.int c]) (rest := []) ⟨hx, hb, hml, hown, hts⟩ (tX0_isSpareUsed l E X A z I0 L0 a0 t_a0 c (c_t) h_c) (cwV 1 hts gX0_faultsOfContract_X0_isSpareUsed rfl rfl rfl (by decide +kernel) ⟨Nat.le_of_ble_eq_true rfl, Nat.le_of_ble_eq_true rfl⟩) ⟨h_blind _ _ _ _ _ _ _, h_recv g t_a0 (by decide) so_1 (q := (RX0, TX0, 9)) rfl, h_pre _ hE hk hX hA hI hR g⟩ rfl rfl hl.1 rfl (lv_room (Nat.le_of_ble_eq_true rfl)) dX0_faultsOfContract_83 ⟨Nat.le_of_ble_eq_true rfl, Nat.le_of_ble_eq_true rfl⟩) (fun rh35 h35 => ?_)
            refine lv_if_eq (tgt := 96) hx hb dX0_faultsOfContract_86 (by decide) (fun c36 => ?_) (fun c36 => ?_)
            · have ic36 := (xi_eq c36 rfl (by decide) : rh35.toInt = 0)
              refine lv_iload hx hb dX0_faultsOfContract_96 (lv_at hl 0 rfl) ?_
              exact W.iret (v := v27) hx hb hr (fun t ht hW => ⟨v27, rfl, trivial, ht⟩) (fun _ h => by cases h) dX0_faultsOfContract_98
            · have ic36 := (xi_ne c36 rfl (by decide) : rh35.toInt ≠ 0)
              refine lv_iload hx hb dX0_faultsOfContract_89 (lv_at hl 0 rfl) ?_
              refine lv_bipush (v := 8) hx hb dX0_faultsOfContract_91 (by decide) ?_
              refine lv_ior hx hb dX0_faultsOfContract_93 ?_
              refine lv_topi (fun v37 ev37 => ?_)
              have jv37 : -2147483648 ≤ v37.toInt ∧ v37.toInt ≤ 2147483647 := ⟨xi_lo _, Int.le_of_lt_add_one (xi_hi _)⟩
              refine lv_istore (lv' := [(6, .int v37), (5, .ref rh1), (0, .ref a0), (1, .ref p0), (2, .int c), (3, .int y), (4, .int x)]) hx hb dX0_faultsOfContract_94 hl (by decide) rfl (fun ls hl => ?_)
              refine lv_iload hx hb dX0_faultsOfContract_96 (lv_at hl 0 rfl) ?_
              exact W.iret (v := v37) hx hb hr (fun t ht hW => ⟨v37, rfl, trivial, ht⟩) (fun _ h => by cases h) dX0_faultsOfContract_98
      · have ic29 := (xi_nle c29 h_y rfl : rh28.toInt < y_t)
        refine lv_iload hx hb dX0_faultsOfContract_54 (lv_at hl 0 rfl) ?_
        refine lv_iconst (v := 4) hx hb dX0_faultsOfContract_56 (by decide) ?_
        refine lv_ior hx hb dX0_faultsOfContract_57 ?_
        refine lv_topi (fun v38 ev38 => ?_)
        have jv38 : -2147483648 ≤ v38.toInt ∧ v38.toInt ≤ 2147483647 := ⟨xi_lo _, Int.le_of_lt_add_one (xi_hi _)⟩
        refine lv_istore (lv' := [(6, .int v38), (5, .ref rh1), (0, .ref a0), (1, .ref p0), (2, .int c), (3, .int y), (4, .int x)]) hx hb dX0_faultsOfContract_58 hl (by decide) rfl (fun ls hl => ?_)
        refine lv_aload_n hx hb dX0_faultsOfContract_60 rfl (lv_at hl 2 rfl) ?_
        refine lv_iload_n hx hb dX0_faultsOfContract_61 rfl (lv_at hl 4 rfl) ?_
        refine lv_iload hx hb dX0_faultsOfContract_62 (lv_at hl 6 rfl) ?_
        refine vp_callSi (W.runV (As := [.int c, .int x]) (rest := []) ⟨hx, hb, hml, hown, hts⟩ (tX0_isAboveCap l E X A z I0 L0 a0 t_a0 c (c_t) h_c x (x_t) h_x) (cwV 2 hts gX0_faultsOfContract_X0_isAboveCap rfl rfl rfl (by decide +kernel) ⟨Nat.le_of_ble_eq_true rfl, Nat.le_of_ble_eq_true rfl⟩) ⟨h_blind _ _ _ _ _ _ _, h_recv g t_a0 (by decide) so_1 (q := (RX0, TX0, 9)) rfl, h_pre _ hE hk hX hA hI hR g⟩ rfl rfl hl.1 rfl (lv_room (Nat.le_of_ble_eq_true rfl)) dX0_faultsOfContract_64 ⟨Nat.le_of_ble_eq_true rfl, Nat.le_of_ble_eq_true rfl⟩) (fun rh39 h39 => ?_)
        refine lv_if_eq (tgt := 96) hx hb dX0_faultsOfContract_67 (by decide) (fun c40 => ?_) (fun c40 => ?_)
        · have ic40 := (xi_eq c40 rfl (by decide) : rh39.toInt = 0)
          refine lv_iload hx hb dX0_faultsOfContract_96 (lv_at hl 0 rfl) ?_
          exact W.iret (v := v38) hx hb hr (fun t ht hW => ⟨v38, rfl, trivial, ht⟩) (fun _ h => by cases h) dX0_faultsOfContract_98
        · have ic40 := (xi_ne c40 rfl (by decide) : rh39.toInt ≠ 0)
          refine lv_iload hx hb dX0_faultsOfContract_70 (lv_at hl 6 rfl) ?_
          refine lv_aload hx hb dX0_faultsOfContract_72 (lv_at hl 1 rfl) ?_
          refine lv_iconst (v := 3) hx hb dX0_faultsOfContract_74 (by decide) ?_
          refine vp_callSi (W.runV (As := [.int 3]) (rest := [.int x]) ⟨hx, hb, hml, hown, hts⟩ (tX5_number l E X A z I0 L0 rh1 trh1 3 (3) (by decide)) (cwV 1 hts gX0_faultsOfContract_X5_number rfl rfl rfl (by decide +kernel) ⟨Nat.le_of_ble_eq_true rfl, Nat.le_of_ble_eq_true rfl⟩) ⟨h_blind _ _ _ _ _ _ _, h_recv g trh1 (by decide) so_6 (q := (RX5, TX5, 3)) rfl, h_pre _ hE hk hX hA hI hR g⟩ rfl rfl hl.1 rfl (lv_room (Nat.le_of_ble_eq_true rfl)) dX0_faultsOfContract_75 ⟨Nat.le_of_ble_eq_true rfl, Nat.le_of_ble_eq_true rfl⟩) (fun rh41 h41 => ?_)
          have jrh41 : -2147483648 ≤ rh41.toInt ∧ rh41.toInt ≤ 2147483647 := ⟨xi_lo _, Int.le_of_lt_add_one (xi_hi _)⟩
          refine lv_icmp_gt (tgt := 89) hx hb dX0_faultsOfContract_78 (by decide) (fun c42 => ?_) (fun c42 => ?_)
          · have ic42 := (xi_lt c42 rfl h_x : rh41.toInt < x_t)
            refine lv_iload hx hb dX0_faultsOfContract_89 (lv_at hl 0 rfl) ?_
            refine lv_bipush (v := 8) hx hb dX0_faultsOfContract_91 (by decide) ?_
            refine lv_ior hx hb dX0_faultsOfContract_93 ?_
            refine lv_topi (fun v43 ev43 => ?_)
            have jv43 : -2147483648 ≤ v43.toInt ∧ v43.toInt ≤ 2147483647 := ⟨xi_lo _, Int.le_of_lt_add_one (xi_hi _)⟩
            refine lv_istore (lv' := [(6, .int v43), (5, .ref rh1), (0, .ref a0), (1, .ref p0), (2, .int c), (3, .int y), (4, .int x)]) hx hb dX0_faultsOfContract_94 hl (by decide) rfl (fun ls hl => ?_)
            refine lv_iload hx hb dX0_faultsOfContract_96 (lv_at hl 0 rfl) ?_
            exact W.iret (v := v43) hx hb hr (fun t ht hW => ⟨v43, rfl, trivial, ht⟩) (fun _ h => by cases h) dX0_faultsOfContract_98
          · have ic42 := (xi_nlt c42 rfl h_x : x_t ≤ rh41.toInt)
            refine lv_aload_n hx hb dX0_faultsOfContract_81 rfl (lv_at hl 2 rfl) ?_
            refine lv_iload_n hx hb dX0_faultsOfContract_82 rfl (lv_at hl 4 rfl) ?_
            refine vp_callSi (W.runV (As := [.int c]) (rest := []) ⟨hx, hb, hml, hown, hts⟩ (tX0_isSpareUsed l E X A z I0 L0 a0 t_a0 c (c_t) h_c) (cwV 1 hts gX0_faultsOfContract_X0_isSpareUsed rfl rfl rfl (by decide +kernel) ⟨Nat.le_of_ble_eq_true rfl, Nat.le_of_ble_eq_true rfl⟩) ⟨h_blind _ _ _ _ _ _ _, h_recv g t_a0 (by decide) so_1 (q := (RX0, TX0, 9)) rfl, h_pre _ hE hk hX hA hI hR g⟩ rfl rfl hl.1 rfl (lv_room (Nat.le_of_ble_eq_true rfl)) dX0_faultsOfContract_83 ⟨Nat.le_of_ble_eq_true rfl, Nat.le_of_ble_eq_true rfl⟩) (fun rh44 h44 => ?_)
            refine lv_if_eq (tgt := 96) hx hb dX0_faultsOfContract_86 (by decide) (fun c45 => ?_) (fun c45 => ?_)
            · have ic45 := (xi_eq c45 rfl (by decide) : rh44.toInt = 0)
              refine lv_iload hx hb dX0_faultsOfContract_96 (lv_at hl 0 rfl) ?_
              exact W.iret (v := v38) hx hb hr (fun t ht hW => ⟨v38, rfl, trivial, ht⟩) (fun _ h => by cases h) dX0_faultsOfContract_98
            · have ic45 := (xi_ne c45 rfl (by decide) : rh44.toInt ≠ 0)
              refine lv_iload hx hb dX0_faultsOfContract_89 (lv_at hl 0 rfl) ?_
              refine lv_bipush (v := 8) hx hb dX0_faultsOfContract_91 (by decide) ?_
              refine lv_ior hx hb dX0_faultsOfContract_93 ?_
              refine lv_topi (fun v46 ev46 => ?_)
              have jv46 : -2147483648 ≤ v46.toInt ∧ v46.toInt ≤ 2147483647 := ⟨xi_lo _, Int.le_of_lt_add_one (xi_hi _)⟩
              refine lv_istore (lv' := [(6, .int v46), (5, .ref rh1), (0, .ref a0), (1, .ref p0), (2, .int c), (3, .int y), (4, .int x)]) hx hb dX0_faultsOfContract_94 hl (by decide) rfl (fun ls hl => ?_)
              refine lv_iload hx hb dX0_faultsOfContract_96 (lv_at hl 0 rfl) ?_
              exact W.iret (v := v46) hx hb hr (fun t ht hW => ⟨v46, rfl, trivial, ht⟩) (fun _ h => by cases h) dX0_faultsOfContract_98
  · have ic3 := (xi_ne c3 rfl (by decide) : rh2.toInt ≠ 0)
    refine lv_iconst (v := 1) hx hb dX0_faultsOfContract_13 (by decide) ?_
    refine lv_goto (tgt := 18) hx hb dX0_faultsOfContract_14 (by decide) ?_
    refine lv_istore (lv' := [(6, .int 1), (5, .ref rh1), (0, .ref a0), (1, .ref p0), (2, .int c), (3, .int y), (4, .int x)]) hx hb dX0_faultsOfContract_18 hl (by decide) rfl (fun ls hl => ?_)
    refine lv_aload_n hx hb dX0_faultsOfContract_20 rfl (lv_at hl 2 rfl) ?_
    refine lv_iload_n hx hb dX0_faultsOfContract_21 rfl (lv_at hl 4 rfl) ?_
    refine lv_aload_n hx hb dX0_faultsOfContract_22 rfl (lv_at hl 2 rfl) ?_
    refine h_get (v := .int (I0 a0 3)) hx hb hts iX0 hown g t_a0 (by decide) so_1 rfl 3 (by decide) (hts (.fieldLink RX0 37 "CapLeague$Books" "clock" "I") (by decide +kernel)) rfl dX0_faultsOfContract_23 rfl ?_
    refine lv_topi (fun v47 ev47 => ?_)
    have jv47 := hI.rd a0 3 t_a0 ev47 (rfl : h_bd 1 3 = (0, 9))
    refine vp_callSi (W.runV (As := [.int c, .int v47]) (rest := []) ⟨hx, hb, hml, hown, hts⟩ (tX0_playersIn l E X A z I0 L0 a0 t_a0 c (c_t) h_c v47 (v47.toInt) rfl) (cwV 2 hts gX0_faultsOfContract_X0_playersIn rfl rfl rfl (by decide +kernel) ⟨Nat.le_of_ble_eq_true rfl, Nat.le_of_ble_eq_true rfl⟩) ⟨h_blind _ _ _ _ _ _ _, h_recv g t_a0 (by decide) so_1 (q := (RX0, TX0, 9)) rfl, h_pre _ hE hk hX hA hI hR g⟩ rfl rfl hl.1 rfl (lv_room (Nat.le_of_ble_eq_true rfl)) dX0_faultsOfContract_26 ⟨Nat.le_of_ble_eq_true rfl, Nat.le_of_ble_eq_true rfl⟩) (fun rh48 h48 => ?_)
    have jrh48 : -2147483648 ≤ rh48.toInt ∧ rh48.toInt ≤ 2147483647 := ⟨xi_lo _, Int.le_of_lt_add_one (xi_hi _)⟩
    refine lv_aload hx hb dX0_faultsOfContract_29 (lv_at hl 1 rfl) ?_
    refine lv_iconst (v := 1) hx hb dX0_faultsOfContract_31 (by decide) ?_
    refine vp_callSi (W.runV (As := [.int 1]) (rest := [.int rh48]) ⟨hx, hb, hml, hown, hts⟩ (tX5_number l E X A z I0 L0 rh1 trh1 1 (1) (by decide)) (cwV 1 hts gX0_faultsOfContract_X5_number rfl rfl rfl (by decide +kernel) ⟨Nat.le_of_ble_eq_true rfl, Nat.le_of_ble_eq_true rfl⟩) ⟨h_blind _ _ _ _ _ _ _, h_recv g trh1 (by decide) so_6 (q := (RX5, TX5, 3)) rfl, h_pre _ hE hk hX hA hI hR g⟩ rfl rfl hl.1 rfl (lv_room (Nat.le_of_ble_eq_true rfl)) dX0_faultsOfContract_32 ⟨Nat.le_of_ble_eq_true rfl, Nat.le_of_ble_eq_true rfl⟩) (fun rh49 h49 => ?_)
    have jrh49 : -2147483648 ≤ rh49.toInt ∧ rh49.toInt ≤ 2147483647 := ⟨xi_lo _, Int.le_of_lt_add_one (xi_hi _)⟩
    refine lv_icmp_lt (tgt := 44) hx hb dX0_faultsOfContract_35 (by decide) (fun c50 => ?_) (fun c50 => ?_)
    · have ic50 := (xi_lt c50 rfl rfl : rh48.toInt < rh49.toInt)
      refine lv_iload_n hx hb dX0_faultsOfContract_44 rfl (lv_at hl 5 rfl) ?_
      refine lv_aload hx hb dX0_faultsOfContract_45 (lv_at hl 1 rfl) ?_
      refine lv_iconst (v := 2) hx hb dX0_faultsOfContract_47 (by decide) ?_
      refine vp_callSi (W.runV (As := [.int 2]) (rest := [.int y]) ⟨hx, hb, hml, hown, hts⟩ (tX5_number l E X A z I0 L0 rh1 trh1 2 (2) (by decide)) (cwV 1 hts gX0_faultsOfContract_X5_number rfl rfl rfl (by decide +kernel) ⟨Nat.le_of_ble_eq_true rfl, Nat.le_of_ble_eq_true rfl⟩) ⟨h_blind _ _ _ _ _ _ _, h_recv g trh1 (by decide) so_6 (q := (RX5, TX5, 3)) rfl, h_pre _ hE hk hX hA hI hR g⟩ rfl rfl hl.1 rfl (lv_room (Nat.le_of_ble_eq_true rfl)) dX0_faultsOfContract_48 ⟨Nat.le_of_ble_eq_true rfl, Nat.le_of_ble_eq_true rfl⟩) (fun rh51 h51 => ?_)
      have jrh51 : -2147483648 ≤ rh51.toInt ∧ rh51.toInt ≤ 2147483647 := ⟨xi_lo _, Int.le_of_lt_add_one (xi_hi _)⟩
      refine lv_icmp_le (tgt := 60) hx hb dX0_faultsOfContract_51 (by decide) (fun c52 => ?_) (fun c52 => ?_)
      · have ic52 := (xi_le c52 h_y rfl : y_t ≤ rh51.toInt)
        refine lv_aload_n hx hb dX0_faultsOfContract_60 rfl (lv_at hl 2 rfl) ?_
        refine lv_iload_n hx hb dX0_faultsOfContract_61 rfl (lv_at hl 4 rfl) ?_
        refine lv_iload hx hb dX0_faultsOfContract_62 (lv_at hl 6 rfl) ?_
        refine vp_callSi (W.runV (As := [.int c, .int x]) (rest := []) ⟨hx, hb, hml, hown, hts⟩ (tX0_isAboveCap l E X A z I0 L0 a0 t_a0 c (c_t) h_c x (x_t) h_x) (cwV 2 hts gX0_faultsOfContract_X0_isAboveCap rfl rfl rfl (by decide +kernel) ⟨Nat.le_of_ble_eq_true rfl, Nat.le_of_ble_eq_true rfl⟩) ⟨h_blind _ _ _ _ _ _ _, h_recv g t_a0 (by decide) so_1 (q := (RX0, TX0, 9)) rfl, h_pre _ hE hk hX hA hI hR g⟩ rfl rfl hl.1 rfl (lv_room (Nat.le_of_ble_eq_true rfl)) dX0_faultsOfContract_64 ⟨Nat.le_of_ble_eq_true rfl, Nat.le_of_ble_eq_true rfl⟩) (fun rh53 h53 => ?_)
        refine lv_if_eq (tgt := 96) hx hb dX0_faultsOfContract_67 (by decide) (fun c54 => ?_) (fun c54 => ?_)
        · have ic54 := (xi_eq c54 rfl (by decide) : rh53.toInt = 0)
          refine lv_iload hx hb dX0_faultsOfContract_96 (lv_at hl 0 rfl) ?_
          exact W.iret (v := 1) hx hb hr (fun t ht hW => ⟨1, rfl, trivial, ht⟩) (fun _ h => by cases h) dX0_faultsOfContract_98
        · have ic54 := (xi_ne c54 rfl (by decide) : rh53.toInt ≠ 0)
          refine lv_iload hx hb dX0_faultsOfContract_70 (lv_at hl 6 rfl) ?_
          refine lv_aload hx hb dX0_faultsOfContract_72 (lv_at hl 1 rfl) ?_
          refine lv_iconst (v := 3) hx hb dX0_faultsOfContract_74 (by decide) ?_
          refine vp_callSi (W.runV (As := [.int 3]) (rest := [.int x]) ⟨hx, hb, hml, hown, hts⟩ (tX5_number l E X A z I0 L0 rh1 trh1 3 (3) (by decide)) (cwV 1 hts gX0_faultsOfContract_X5_number rfl rfl rfl (by decide +kernel) ⟨Nat.le_of_ble_eq_true rfl, Nat.le_of_ble_eq_true rfl⟩) ⟨h_blind _ _ _ _ _ _ _, h_recv g trh1 (by decide) so_6 (q := (RX5, TX5, 3)) rfl, h_pre _ hE hk hX hA hI hR g⟩ rfl rfl hl.1 rfl (lv_room (Nat.le_of_ble_eq_true rfl)) dX0_faultsOfContract_75 ⟨Nat.le_of_ble_eq_true rfl, Nat.le_of_ble_eq_true rfl⟩) (fun rh55 h55 => ?_)
          have jrh55 : -2147483648 ≤ rh55.toInt ∧ rh55.toInt ≤ 2147483647 := ⟨xi_lo _, Int.le_of_lt_add_one (xi_hi _)⟩
          refine lv_icmp_gt (tgt := 89) hx hb dX0_faultsOfContract_78 (by decide) (fun c56 => ?_) (fun c56 => ?_)
          · have ic56 := (xi_lt c56 rfl h_x : rh55.toInt < x_t)
            refine lv_iload hx hb dX0_faultsOfContract_89 (lv_at hl 0 rfl) ?_
            refine lv_bipush (v := 8) hx hb dX0_faultsOfContract_91 (by decide) ?_
            refine lv_ior hx hb dX0_faultsOfContract_93 ?_
            refine lv_topi (fun v57 ev57 => ?_)
            have jv57 : -2147483648 ≤ v57.toInt ∧ v57.toInt ≤ 2147483647 := ⟨xi_lo _, Int.le_of_lt_add_one (xi_hi _)⟩
            refine lv_istore (lv' := [(6, .int v57), (5, .ref rh1), (0, .ref a0), (1, .ref p0), (2, .int c), (3, .int y), (4, .int x)]) hx hb dX0_faultsOfContract_94 hl (by decide) rfl (fun ls hl => ?_)
            refine lv_iload hx hb dX0_faultsOfContract_96 (lv_at hl 0 rfl) ?_
            exact W.iret (v := v57) hx hb hr (fun t ht hW => ⟨v57, rfl, trivial, ht⟩) (fun _ h => by cases h) dX0_faultsOfContract_98
          · have ic56 := (xi_nlt c56 rfl h_x : x_t ≤ rh55.toInt)
            refine lv_aload_n hx hb dX0_faultsOfContract_81 rfl (lv_at hl 2 rfl) ?_
            refine lv_iload_n hx hb dX0_faultsOfContract_82 rfl (lv_at hl 4 rfl) ?_
            refine vp_callSi (W.runV (As := [.int c]) (rest := []) ⟨hx, hb, hml, hown, hts⟩ (tX0_isSpareUsed l E X A z I0 L0 a0 t_a0 c (c_t) h_c) (cwV 1 hts gX0_faultsOfContract_X0_isSpareUsed rfl rfl rfl (by decide +kernel) ⟨Nat.le_of_ble_eq_true rfl, Nat.le_of_ble_eq_true rfl⟩) ⟨h_blind _ _ _ _ _ _ _, h_recv g t_a0 (by decide) so_1 (q := (RX0, TX0, 9)) rfl, h_pre _ hE hk hX hA hI hR g⟩ rfl rfl hl.1 rfl (lv_room (Nat.le_of_ble_eq_true rfl)) dX0_faultsOfContract_83 ⟨Nat.le_of_ble_eq_true rfl, Nat.le_of_ble_eq_true rfl⟩) (fun rh58 h58 => ?_)
            refine lv_if_eq (tgt := 96) hx hb dX0_faultsOfContract_86 (by decide) (fun c59 => ?_) (fun c59 => ?_)
            · have ic59 := (xi_eq c59 rfl (by decide) : rh58.toInt = 0)
              refine lv_iload hx hb dX0_faultsOfContract_96 (lv_at hl 0 rfl) ?_
              exact W.iret (v := 1) hx hb hr (fun t ht hW => ⟨1, rfl, trivial, ht⟩) (fun _ h => by cases h) dX0_faultsOfContract_98
            · have ic59 := (xi_ne c59 rfl (by decide) : rh58.toInt ≠ 0)
              refine lv_iload hx hb dX0_faultsOfContract_89 (lv_at hl 0 rfl) ?_
              refine lv_bipush (v := 8) hx hb dX0_faultsOfContract_91 (by decide) ?_
              refine lv_ior hx hb dX0_faultsOfContract_93 ?_
              refine lv_topi (fun v60 ev60 => ?_)
              have jv60 : -2147483648 ≤ v60.toInt ∧ v60.toInt ≤ 2147483647 := ⟨xi_lo _, Int.le_of_lt_add_one (xi_hi _)⟩
              refine lv_istore (lv' := [(6, .int v60), (5, .ref rh1), (0, .ref a0), (1, .ref p0), (2, .int c), (3, .int y), (4, .int x)]) hx hb dX0_faultsOfContract_94 hl (by decide) rfl (fun ls hl => ?_)
              refine lv_iload hx hb dX0_faultsOfContract_96 (lv_at hl 0 rfl) ?_
              exact W.iret (v := v60) hx hb hr (fun t ht hW => ⟨v60, rfl, trivial, ht⟩) (fun _ h => by cases h) dX0_faultsOfContract_98
      · have ic52 := (xi_nle c52 h_y rfl : rh51.toInt < y_t)
        refine lv_iload hx hb dX0_faultsOfContract_54 (lv_at hl 0 rfl) ?_
        refine lv_iconst (v := 4) hx hb dX0_faultsOfContract_56 (by decide) ?_
        refine lv_ior hx hb dX0_faultsOfContract_57 ?_
        refine lv_topi (fun v61 ev61 => ?_)
        have jv61 : -2147483648 ≤ v61.toInt ∧ v61.toInt ≤ 2147483647 := ⟨xi_lo _, Int.le_of_lt_add_one (xi_hi _)⟩
        refine lv_istore (lv' := [(6, .int v61), (5, .ref rh1), (0, .ref a0), (1, .ref p0), (2, .int c), (3, .int y), (4, .int x)]) hx hb dX0_faultsOfContract_58 hl (by decide) rfl (fun ls hl => ?_)
        refine lv_aload_n hx hb dX0_faultsOfContract_60 rfl (lv_at hl 2 rfl) ?_
        refine lv_iload_n hx hb dX0_faultsOfContract_61 rfl (lv_at hl 4 rfl) ?_
        refine lv_iload hx hb dX0_faultsOfContract_62 (lv_at hl 6 rfl) ?_
        refine vp_callSi (W.runV (As := [.int c, .int x]) (rest := []) ⟨hx, hb, hml, hown, hts⟩ (tX0_isAboveCap l E X A z I0 L0 a0 t_a0 c (c_t) h_c x (x_t) h_x) (cwV 2 hts gX0_faultsOfContract_X0_isAboveCap rfl rfl rfl (by decide +kernel) ⟨Nat.le_of_ble_eq_true rfl, Nat.le_of_ble_eq_true rfl⟩) ⟨h_blind _ _ _ _ _ _ _, h_recv g t_a0 (by decide) so_1 (q := (RX0, TX0, 9)) rfl, h_pre _ hE hk hX hA hI hR g⟩ rfl rfl hl.1 rfl (lv_room (Nat.le_of_ble_eq_true rfl)) dX0_faultsOfContract_64 ⟨Nat.le_of_ble_eq_true rfl, Nat.le_of_ble_eq_true rfl⟩) (fun rh62 h62 => ?_)
        refine lv_if_eq (tgt := 96) hx hb dX0_faultsOfContract_67 (by decide) (fun c63 => ?_) (fun c63 => ?_)
        · have ic63 := (xi_eq c63 rfl (by decide) : rh62.toInt = 0)
          refine lv_iload hx hb dX0_faultsOfContract_96 (lv_at hl 0 rfl) ?_
          exact W.iret (v := v61) hx hb hr (fun t ht hW => ⟨v61, rfl, trivial, ht⟩) (fun _ h => by cases h) dX0_faultsOfContract_98
        · have ic63 := (xi_ne c63 rfl (by decide) : rh62.toInt ≠ 0)
          refine lv_iload hx hb dX0_faultsOfContract_70 (lv_at hl 6 rfl) ?_
          refine lv_aload hx hb dX0_faultsOfContract_72 (lv_at hl 1 rfl) ?_
          refine lv_iconst (v := 3) hx hb dX0_faultsOfContract_74 (by decide) ?_
          refine vp_callSi (W.runV (As := [.int 3]) (rest := [.int x]) ⟨hx, hb, hml, hown, hts⟩ (tX5_number l E X A z I0 L0 rh1 trh1 3 (3) (by decide)) (cwV 1 hts gX0_faultsOfContract_X5_number rfl rfl rfl (by decide +kernel) ⟨Nat.le_of_ble_eq_true rfl, Nat.le_of_ble_eq_true rfl⟩) ⟨h_blind _ _ _ _ _ _ _, h_recv g trh1 (by decide) so_6 (q := (RX5, TX5, 3)) rfl, h_pre _ hE hk hX hA hI hR g⟩ rfl rfl hl.1 rfl (lv_room (Nat.le_of_ble_eq_true rfl)) dX0_faultsOfContract_75 ⟨Nat.le_of_ble_eq_true rfl, Nat.le_of_ble_eq_true rfl⟩) (fun rh64 h64 => ?_)
          have jrh64 : -2147483648 ≤ rh64.toInt ∧ rh64.toInt ≤ 2147483647 := ⟨xi_lo _, Int.le_of_lt_add_one (xi_hi _)⟩
          refine lv_icmp_gt (tgt := 89) hx hb dX0_faultsOfContract_78 (by decide) (fun c65 => ?_) (fun c65 => ?_)
          · have ic65 := (xi_lt c65 rfl h_x : rh64.toInt < x_t)
            refine lv_iload hx hb dX0_faultsOfContract_89 (lv_at hl 0 rfl) ?_
            refine lv_bipush (v := 8) hx hb dX0_faultsOfContract_91 (by decide) ?_
            refine lv_ior hx hb dX0_faultsOfContract_93 ?_
            refine lv_topi (fun v66 ev66 => ?_)
            have jv66 : -2147483648 ≤ v66.toInt ∧ v66.toInt ≤ 2147483647 := ⟨xi_lo _, Int.le_of_lt_add_one (xi_hi _)⟩
            refine lv_istore (lv' := [(6, .int v66), (5, .ref rh1), (0, .ref a0), (1, .ref p0), (2, .int c), (3, .int y), (4, .int x)]) hx hb dX0_faultsOfContract_94 hl (by decide) rfl (fun ls hl => ?_)
            refine lv_iload hx hb dX0_faultsOfContract_96 (lv_at hl 0 rfl) ?_
            exact W.iret (v := v66) hx hb hr (fun t ht hW => ⟨v66, rfl, trivial, ht⟩) (fun _ h => by cases h) dX0_faultsOfContract_98
          · have ic65 := (xi_nlt c65 rfl h_x : x_t ≤ rh64.toInt)
            refine lv_aload_n hx hb dX0_faultsOfContract_81 rfl (lv_at hl 2 rfl) ?_
            refine lv_iload_n hx hb dX0_faultsOfContract_82 rfl (lv_at hl 4 rfl) ?_
            refine vp_callSi (W.runV (As := [.int c]) (rest := []) ⟨hx, hb, hml, hown, hts⟩ (tX0_isSpareUsed l E X A z I0 L0 a0 t_a0 c (c_t) h_c) (cwV 1 hts gX0_faultsOfContract_X0_isSpareUsed rfl rfl rfl (by decide +kernel) ⟨Nat.le_of_ble_eq_true rfl, Nat.le_of_ble_eq_true rfl⟩) ⟨h_blind _ _ _ _ _ _ _, h_recv g t_a0 (by decide) so_1 (q := (RX0, TX0, 9)) rfl, h_pre _ hE hk hX hA hI hR g⟩ rfl rfl hl.1 rfl (lv_room (Nat.le_of_ble_eq_true rfl)) dX0_faultsOfContract_83 ⟨Nat.le_of_ble_eq_true rfl, Nat.le_of_ble_eq_true rfl⟩) (fun rh67 h67 => ?_)
            refine lv_if_eq (tgt := 96) hx hb dX0_faultsOfContract_86 (by decide) (fun c68 => ?_) (fun c68 => ?_)
            · have ic68 := (xi_eq c68 rfl (by decide) : rh67.toInt = 0)
              refine lv_iload hx hb dX0_faultsOfContract_96 (lv_at hl 0 rfl) ?_
              exact W.iret (v := v61) hx hb hr (fun t ht hW => ⟨v61, rfl, trivial, ht⟩) (fun _ h => by cases h) dX0_faultsOfContract_98
            · have ic68 := (xi_ne c68 rfl (by decide) : rh67.toInt ≠ 0)
              refine lv_iload hx hb dX0_faultsOfContract_89 (lv_at hl 0 rfl) ?_
              refine lv_bipush (v := 8) hx hb dX0_faultsOfContract_91 (by decide) ?_
              refine lv_ior hx hb dX0_faultsOfContract_93 ?_
              refine lv_topi (fun v69 ev69 => ?_)
              have jv69 : -2147483648 ≤ v69.toInt ∧ v69.toInt ≤ 2147483647 := ⟨xi_lo _, Int.le_of_lt_add_one (xi_hi _)⟩
              refine lv_istore (lv' := [(6, .int v69), (5, .ref rh1), (0, .ref a0), (1, .ref p0), (2, .int c), (3, .int y), (4, .int x)]) hx hb dX0_faultsOfContract_94 hl (by decide) rfl (fun ls hl => ?_)
              refine lv_iload hx hb dX0_faultsOfContract_96 (lv_at hl 0 rfl) ?_
              exact W.iret (v := v69) hx hb hr (fun t ht hW => ⟨v69, rfl, trivial, ht⟩) (fun _ h => by cases h) dX0_faultsOfContract_98
    · have ic50 := (xi_nlt c50 rfl rfl : rh49.toInt ≤ rh48.toInt)
      refine lv_iload hx hb dX0_faultsOfContract_38 (lv_at hl 0 rfl) ?_
      refine lv_iconst (v := 2) hx hb dX0_faultsOfContract_40 (by decide) ?_
      refine lv_ior hx hb dX0_faultsOfContract_41 ?_
      refine lv_topi (fun v70 ev70 => ?_)
      have jv70 : -2147483648 ≤ v70.toInt ∧ v70.toInt ≤ 2147483647 := ⟨xi_lo _, Int.le_of_lt_add_one (xi_hi _)⟩
      refine lv_istore (lv' := [(6, .int v70), (5, .ref rh1), (0, .ref a0), (1, .ref p0), (2, .int c), (3, .int y), (4, .int x)]) hx hb dX0_faultsOfContract_42 hl (by decide) rfl (fun ls hl => ?_)
      refine lv_iload_n hx hb dX0_faultsOfContract_44 rfl (lv_at hl 5 rfl) ?_
      refine lv_aload hx hb dX0_faultsOfContract_45 (lv_at hl 1 rfl) ?_
      refine lv_iconst (v := 2) hx hb dX0_faultsOfContract_47 (by decide) ?_
      refine vp_callSi (W.runV (As := [.int 2]) (rest := [.int y]) ⟨hx, hb, hml, hown, hts⟩ (tX5_number l E X A z I0 L0 rh1 trh1 2 (2) (by decide)) (cwV 1 hts gX0_faultsOfContract_X5_number rfl rfl rfl (by decide +kernel) ⟨Nat.le_of_ble_eq_true rfl, Nat.le_of_ble_eq_true rfl⟩) ⟨h_blind _ _ _ _ _ _ _, h_recv g trh1 (by decide) so_6 (q := (RX5, TX5, 3)) rfl, h_pre _ hE hk hX hA hI hR g⟩ rfl rfl hl.1 rfl (lv_room (Nat.le_of_ble_eq_true rfl)) dX0_faultsOfContract_48 ⟨Nat.le_of_ble_eq_true rfl, Nat.le_of_ble_eq_true rfl⟩) (fun rh71 h71 => ?_)
      have jrh71 : -2147483648 ≤ rh71.toInt ∧ rh71.toInt ≤ 2147483647 := ⟨xi_lo _, Int.le_of_lt_add_one (xi_hi _)⟩
      refine lv_icmp_le (tgt := 60) hx hb dX0_faultsOfContract_51 (by decide) (fun c72 => ?_) (fun c72 => ?_)
      · have ic72 := (xi_le c72 h_y rfl : y_t ≤ rh71.toInt)
        refine lv_aload_n hx hb dX0_faultsOfContract_60 rfl (lv_at hl 2 rfl) ?_
        refine lv_iload_n hx hb dX0_faultsOfContract_61 rfl (lv_at hl 4 rfl) ?_
        refine lv_iload hx hb dX0_faultsOfContract_62 (lv_at hl 6 rfl) ?_
        refine vp_callSi (W.runV (As := [.int c, .int x]) (rest := []) ⟨hx, hb, hml, hown, hts⟩ (tX0_isAboveCap l E X A z I0 L0 a0 t_a0 c (c_t) h_c x (x_t) h_x) (cwV 2 hts gX0_faultsOfContract_X0_isAboveCap rfl rfl rfl (by decide +kernel) ⟨Nat.le_of_ble_eq_true rfl, Nat.le_of_ble_eq_true rfl⟩) ⟨h_blind _ _ _ _ _ _ _, h_recv g t_a0 (by decide) so_1 (q := (RX0, TX0, 9)) rfl, h_pre _ hE hk hX hA hI hR g⟩ rfl rfl hl.1 rfl (lv_room (Nat.le_of_ble_eq_true rfl)) dX0_faultsOfContract_64 ⟨Nat.le_of_ble_eq_true rfl, Nat.le_of_ble_eq_true rfl⟩) (fun rh73 h73 => ?_)
        refine lv_if_eq (tgt := 96) hx hb dX0_faultsOfContract_67 (by decide) (fun c74 => ?_) (fun c74 => ?_)
        · have ic74 := (xi_eq c74 rfl (by decide) : rh73.toInt = 0)
          refine lv_iload hx hb dX0_faultsOfContract_96 (lv_at hl 0 rfl) ?_
          exact W.iret (v := v70) hx hb hr (fun t ht hW => ⟨v70, rfl, trivial, ht⟩) (fun _ h => by cases h) dX0_faultsOfContract_98
        · have ic74 := (xi_ne c74 rfl (by decide) : rh73.toInt ≠ 0)
          refine lv_iload hx hb dX0_faultsOfContract_70 (lv_at hl 6 rfl) ?_
          refine lv_aload hx hb dX0_faultsOfContract_72 (lv_at hl 1 rfl) ?_
          refine lv_iconst (v := 3) hx hb dX0_faultsOfContract_74 (by decide) ?_
          refine vp_callSi (W.runV (As := [.int 3]) (rest := [.int x]) ⟨hx, hb, hml, hown, hts⟩ (tX5_number l E X A z I0 L0 rh1 trh1 3 (3) (by decide)) (cwV 1 hts gX0_faultsOfContract_X5_number rfl rfl rfl (by decide +kernel) ⟨Nat.le_of_ble_eq_true rfl, Nat.le_of_ble_eq_true rfl⟩) ⟨h_blind _ _ _ _ _ _ _, h_recv g trh1 (by decide) so_6 (q := (RX5, TX5, 3)) rfl, h_pre _ hE hk hX hA hI hR g⟩ rfl rfl hl.1 rfl (lv_room (Nat.le_of_ble_eq_true rfl)) dX0_faultsOfContract_75 ⟨Nat.le_of_ble_eq_true rfl, Nat.le_of_ble_eq_true rfl⟩) (fun rh75 h75 => ?_)
          have jrh75 : -2147483648 ≤ rh75.toInt ∧ rh75.toInt ≤ 2147483647 := ⟨xi_lo _, Int.le_of_lt_add_one (xi_hi _)⟩
          refine lv_icmp_gt (tgt := 89) hx hb dX0_faultsOfContract_78 (by decide) (fun c76 => ?_) (fun c76 => ?_)
          · have ic76 := (xi_lt c76 rfl h_x : rh75.toInt < x_t)
            refine lv_iload hx hb dX0_faultsOfContract_89 (lv_at hl 0 rfl) ?_
            refine lv_bipush (v := 8) hx hb dX0_faultsOfContract_91 (by decide) ?_
            refine lv_ior hx hb dX0_faultsOfContract_93 ?_
            refine lv_topi (fun v77 ev77 => ?_)
            have jv77 : -2147483648 ≤ v77.toInt ∧ v77.toInt ≤ 2147483647 := ⟨xi_lo _, Int.le_of_lt_add_one (xi_hi _)⟩
            refine lv_istore (lv' := [(6, .int v77), (5, .ref rh1), (0, .ref a0), (1, .ref p0), (2, .int c), (3, .int y), (4, .int x)]) hx hb dX0_faultsOfContract_94 hl (by decide) rfl (fun ls hl => ?_)
            refine lv_iload hx hb dX0_faultsOfContract_96 (lv_at hl 0 rfl) ?_
            exact W.iret (v := v77) hx hb hr (fun t ht hW => ⟨v77, rfl, trivial, ht⟩) (fun _ h => by cases h) dX0_faultsOfContract_98
          · have ic76 := (xi_nlt c76 rfl h_x : x_t ≤ rh75.toInt)
            refine lv_aload_n hx hb dX0_faultsOfContract_81 rfl (lv_at hl 2 rfl) ?_
            refine lv_iload_n hx hb dX0_faultsOfContract_82 rfl (lv_at hl 4 rfl) ?_
            refine vp_callSi (W.runV (As := [.int c]) (rest := []) ⟨hx, hb, hml, hown, hts⟩ (tX0_isSpareUsed l E X A z I0 L0 a0 t_a0 c (c_t) h_c) (cwV 1 hts gX0_faultsOfContract_X0_isSpareUsed rfl rfl rfl (by decide +kernel) ⟨Nat.le_of_ble_eq_true rfl, Nat.le_of_ble_eq_true rfl⟩) ⟨h_blind _ _ _ _ _ _ _, h_recv g t_a0 (by decide) so_1 (q := (RX0, TX0, 9)) rfl, h_pre _ hE hk hX hA hI hR g⟩ rfl rfl hl.1 rfl (lv_room (Nat.le_of_ble_eq_true rfl)) dX0_faultsOfContract_83 ⟨Nat.le_of_ble_eq_true rfl, Nat.le_of_ble_eq_true rfl⟩) (fun rh78 h78 => ?_)
            refine lv_if_eq (tgt := 96) hx hb dX0_faultsOfContract_86 (by decide) (fun c79 => ?_) (fun c79 => ?_)
            · have ic79 := (xi_eq c79 rfl (by decide) : rh78.toInt = 0)
              refine lv_iload hx hb dX0_faultsOfContract_96 (lv_at hl 0 rfl) ?_
              exact W.iret (v := v70) hx hb hr (fun t ht hW => ⟨v70, rfl, trivial, ht⟩) (fun _ h => by cases h) dX0_faultsOfContract_98
            · have ic79 := (xi_ne c79 rfl (by decide) : rh78.toInt ≠ 0)
              refine lv_iload hx hb dX0_faultsOfContract_89 (lv_at hl 0 rfl) ?_
              refine lv_bipush (v := 8) hx hb dX0_faultsOfContract_91 (by decide) ?_
              refine lv_ior hx hb dX0_faultsOfContract_93 ?_
              refine lv_topi (fun v80 ev80 => ?_)
              have jv80 : -2147483648 ≤ v80.toInt ∧ v80.toInt ≤ 2147483647 := ⟨xi_lo _, Int.le_of_lt_add_one (xi_hi _)⟩
              refine lv_istore (lv' := [(6, .int v80), (5, .ref rh1), (0, .ref a0), (1, .ref p0), (2, .int c), (3, .int y), (4, .int x)]) hx hb dX0_faultsOfContract_94 hl (by decide) rfl (fun ls hl => ?_)
              refine lv_iload hx hb dX0_faultsOfContract_96 (lv_at hl 0 rfl) ?_
              exact W.iret (v := v80) hx hb hr (fun t ht hW => ⟨v80, rfl, trivial, ht⟩) (fun _ h => by cases h) dX0_faultsOfContract_98
      · have ic72 := (xi_nle c72 h_y rfl : rh71.toInt < y_t)
        refine lv_iload hx hb dX0_faultsOfContract_54 (lv_at hl 0 rfl) ?_
        refine lv_iconst (v := 4) hx hb dX0_faultsOfContract_56 (by decide) ?_
        refine lv_ior hx hb dX0_faultsOfContract_57 ?_
        refine lv_topi (fun v81 ev81 => ?_)
        have jv81 : -2147483648 ≤ v81.toInt ∧ v81.toInt ≤ 2147483647 := ⟨xi_lo _, Int.le_of_lt_add_one (xi_hi _)⟩
        refine lv_istore (lv' := [(6, .int v81), (5, .ref rh1), (0, .ref a0), (1, .ref p0), (2, .int c), (3, .int y), (4, .int x)]) hx hb dX0_faultsOfContract_58 hl (by decide) rfl (fun ls hl => ?_)
        refine lv_aload_n hx hb dX0_faultsOfContract_60 rfl (lv_at hl 2 rfl) ?_
        refine lv_iload_n hx hb dX0_faultsOfContract_61 rfl (lv_at hl 4 rfl) ?_
        refine lv_iload hx hb dX0_faultsOfContract_62 (lv_at hl 6 rfl) ?_
        refine vp_callSi (W.runV (As := [.int c, .int x]) (rest := []) ⟨hx, hb, hml, hown, hts⟩ (tX0_isAboveCap l E X A z I0 L0 a0 t_a0 c (c_t) h_c x (x_t) h_x) (cwV 2 hts gX0_faultsOfContract_X0_isAboveCap rfl rfl rfl (by decide +kernel) ⟨Nat.le_of_ble_eq_true rfl, Nat.le_of_ble_eq_true rfl⟩) ⟨h_blind _ _ _ _ _ _ _, h_recv g t_a0 (by decide) so_1 (q := (RX0, TX0, 9)) rfl, h_pre _ hE hk hX hA hI hR g⟩ rfl rfl hl.1 rfl (lv_room (Nat.le_of_ble_eq_true rfl)) dX0_faultsOfContract_64 ⟨Nat.le_of_ble_eq_true rfl, Nat.le_of_ble_eq_true rfl⟩) (fun rh82 h82 => ?_)
        refine lv_if_eq (tgt := 96) hx hb dX0_faultsOfContract_67 (by decide) (fun c83 => ?_) (fun c83 => ?_)
        · have ic83 := (xi_eq c83 rfl (by decide) : rh82.toInt = 0)
          refine lv_iload hx hb dX0_faultsOfContract_96 (lv_at hl 0 rfl) ?_
          exact W.iret (v := v81) hx hb hr (fun t ht hW => ⟨v81, rfl, trivial, ht⟩) (fun _ h => by cases h) dX0_faultsOfContract_98
        · have ic83 := (xi_ne c83 rfl (by decide) : rh82.toInt ≠ 0)
          refine lv_iload hx hb dX0_faultsOfContract_70 (lv_at hl 6 rfl) ?_
          refine lv_aload hx hb dX0_faultsOfContract_72 (lv_at hl 1 rfl) ?_
          refine lv_iconst (v := 3) hx hb dX0_faultsOfContract_74 (by decide) ?_
          refine vp_callSi (W.runV (As := [.int 3]) (rest := [.int x]) ⟨hx, hb, hml, hown, hts⟩ (tX5_number l E X A z I0 L0 rh1 trh1 3 (3) (by decide)) (cwV 1 hts gX0_faultsOfContract_X5_number rfl rfl rfl (by decide +kernel) ⟨Nat.le_of_ble_eq_true rfl, Nat.le_of_ble_eq_true rfl⟩) ⟨h_blind _ _ _ _ _ _ _, h_recv g trh1 (by decide) so_6 (q := (RX5, TX5, 3)) rfl, h_pre _ hE hk hX hA hI hR g⟩ rfl rfl hl.1 rfl (lv_room (Nat.le_of_ble_eq_true rfl)) dX0_faultsOfContract_75 ⟨Nat.le_of_ble_eq_true rfl, Nat.le_of_ble_eq_true rfl⟩) (fun rh84 h84 => ?_)
          have jrh84 : -2147483648 ≤ rh84.toInt ∧ rh84.toInt ≤ 2147483647 := ⟨xi_lo _, Int.le_of_lt_add_one (xi_hi _)⟩
          refine lv_icmp_gt (tgt := 89) hx hb dX0_faultsOfContract_78 (by decide) (fun c85 => ?_) (fun c85 => ?_)
          · have ic85 := (xi_lt c85 rfl h_x : rh84.toInt < x_t)
            refine lv_iload hx hb dX0_faultsOfContract_89 (lv_at hl 0 rfl) ?_
            refine lv_bipush (v := 8) hx hb dX0_faultsOfContract_91 (by decide) ?_
            refine lv_ior hx hb dX0_faultsOfContract_93 ?_
            refine lv_topi (fun v86 ev86 => ?_)
            have jv86 : -2147483648 ≤ v86.toInt ∧ v86.toInt ≤ 2147483647 := ⟨xi_lo _, Int.le_of_lt_add_one (xi_hi _)⟩
            refine lv_istore (lv' := [(6, .int v86), (5, .ref rh1), (0, .ref a0), (1, .ref p0), (2, .int c), (3, .int y), (4, .int x)]) hx hb dX0_faultsOfContract_94 hl (by decide) rfl (fun ls hl => ?_)
            refine lv_iload hx hb dX0_faultsOfContract_96 (lv_at hl 0 rfl) ?_
            exact W.iret (v := v86) hx hb hr (fun t ht hW => ⟨v86, rfl, trivial, ht⟩) (fun _ h => by cases h) dX0_faultsOfContract_98
          · have ic85 := (xi_nlt c85 rfl h_x : x_t ≤ rh84.toInt)
            refine lv_aload_n hx hb dX0_faultsOfContract_81 rfl (lv_at hl 2 rfl) ?_
            refine lv_iload_n hx hb dX0_faultsOfContract_82 rfl (lv_at hl 4 rfl) ?_
            refine vp_callSi (W.runV (As := [.int c]) (rest := []) ⟨hx, hb, hml, hown, hts⟩ (tX0_isSpareUsed l E X A z I0 L0 a0 t_a0 c (c_t) h_c) (cwV 1 hts gX0_faultsOfContract_X0_isSpareUsed rfl rfl rfl (by decide +kernel) ⟨Nat.le_of_ble_eq_true rfl, Nat.le_of_ble_eq_true rfl⟩) ⟨h_blind _ _ _ _ _ _ _, h_recv g t_a0 (by decide) so_1 (q := (RX0, TX0, 9)) rfl, h_pre _ hE hk hX hA hI hR g⟩ rfl rfl hl.1 rfl (lv_room (Nat.le_of_ble_eq_true rfl)) dX0_faultsOfContract_83 ⟨Nat.le_of_ble_eq_true rfl, Nat.le_of_ble_eq_true rfl⟩) (fun rh87 h87 => ?_)
            refine lv_if_eq (tgt := 96) hx hb dX0_faultsOfContract_86 (by decide) (fun c88 => ?_) (fun c88 => ?_)
            · have ic88 := (xi_eq c88 rfl (by decide) : rh87.toInt = 0)
              refine lv_iload hx hb dX0_faultsOfContract_96 (lv_at hl 0 rfl) ?_
              exact W.iret (v := v81) hx hb hr (fun t ht hW => ⟨v81, rfl, trivial, ht⟩) (fun _ h => by cases h) dX0_faultsOfContract_98
            · have ic88 := (xi_ne c88 rfl (by decide) : rh87.toInt ≠ 0)
              refine lv_iload hx hb dX0_faultsOfContract_89 (lv_at hl 0 rfl) ?_
              refine lv_bipush (v := 8) hx hb dX0_faultsOfContract_91 (by decide) ?_
              refine lv_ior hx hb dX0_faultsOfContract_93 ?_
              refine lv_topi (fun v89 ev89 => ?_)
              have jv89 : -2147483648 ≤ v89.toInt ∧ v89.toInt ≤ 2147483647 := ⟨xi_lo _, Int.le_of_lt_add_one (xi_hi _)⟩
              refine lv_istore (lv' := [(6, .int v89), (5, .ref rh1), (0, .ref a0), (1, .ref p0), (2, .int c), (3, .int y), (4, .int x)]) hx hb dX0_faultsOfContract_94 hl (by decide) rfl (fun ls hl => ?_)
              refine lv_iload hx hb dX0_faultsOfContract_96 (lv_at hl 0 rfl) ?_
              exact W.iret (v := v89) hx hb hr (fun t ht hW => ⟨v89, rfl, trivial, ht⟩) (fun _ h => by cases h) dX0_faultsOfContract_98
set_option maxHeartbeats 4000000 in
set_option maxRecDepth 100000 in
theorem tX0_useSpareIfAboveCap (l : Launch) (E : tE) (X : tX) (A : Nat → Prop) (z : tZ) (I0 : tI) (L0 : tL) (a0 : Nat) (t_a0 : z.ty a0 = 1) (c : Int32) (c_t : Int) (h_c : c.toInt = c_t) (x : Int32) (x_t : Int) (h_x : x.toInt = x_t) : Met l yX0_useSpareIfAboveCap wsX0_useSpareIfAboveCap ({ frames := 6, cells := 0, slots := 0, locals := 384 }) (va_Pc [.ref a0, .int c, .int x] (h_P E X A z I0 L0)) (va_Qv (fun (I1 : tI) => h_I z I1 ∧ h_F [(105, 999)] z I0 I1 ∧ True) (fun (I1 : tI) t => h_B E A z I1 L0 t) A) 0 0 A := by
  refine Met.ofW (cc := cX0_useSpareIfAboveCap) (maxL := 3) (ret := none) (by decide) rfl ?_
  intro pr_ ev_ s m args below meth cd_ s₁ B hml hv
  obtain ⟨rfl, hE, hk, hX, hA, hK, hI, hR, hB0⟩ := hv
  have g : h_G h_so h_fk E A z I0 L0 s s.heap s.heap [] := ⟨hK, va_S.rf, hB0⟩
  have hF : h_F [(105, 999)] z I0 I0 := h_F.rf
  have hx := B.exec
  have hb := B.bytes
  have hr := B.returns
  have hts := atoms_spec (ws := wsX0_useSpareIfAboveCap) B.pre
  have hown : s.vm.findClass RX0 = some m.cls := findClass_of_methodNamed B.named
  have hlocks := B.notSynchronized
  have iX0 : ∀ w ∈ u_ws RX0 TX0 9, w ∈ wsX0_useSpareIfAboveCap := by decide +kernel
  have hl := lv_entry ([.ref a0, .int c, .int x]) (n := 3) (Nat.le_of_ble_eq_true rfl)
  rw [lg_entry_eq]
  generalize (lg_sl ([.ref a0, .int c, .int x]) ++ List.replicate (3 - (lg_sl ([.ref a0, .int c, .int x])).length) Slot.unset).toArray = ls at hl ⊢
  have hl : lv_has ls 3 [(0, .ref a0), (1, .int c), (2, .int x)] := hl
  have b_c : -2147483648 ≤ c_t ∧ c_t ≤ 2147483647 := h_c ▸ ⟨xi_lo c, Int.le_of_lt_add_one (xi_hi c)⟩
  have b_x : -2147483648 ≤ x_t ∧ x_t ≤ 2147483647 := h_x ▸ ⟨xi_lo x, Int.le_of_lt_add_one (xi_hi x)⟩
  refine lv_iload_n hx hb dX0_useSpareIfAboveCap_0 rfl (lv_at hl 1 rfl) ?_
  refine vp_callSi (xr_of (va_runSN (As := [.int c]) (rest := []) ⟨hx, hb, hml, hown, hts⟩ (tX11_isClub l E X A z I0 L0 c (c_t) h_c) (⟨va_cnB 1 hts gX0_useSpareIfAboveCap_X11_isClub_n79 rfl rfl rfl (hE.link 8 rfl) (hts (.initialized RX11) (by decide +kernel)) (by decide +kernel) ⟨Nat.le_of_ble_eq_true rfl, Nat.le_of_ble_eq_true rfl⟩, hts (.static yX11_isClub) (by decide +kernel), trivial⟩) ⟨h_blind _ _ _ _ _ _ _, h_pre _ hE hk hX hA hI hR g⟩ rfl rfl hl.1 rfl (lv_room (Nat.le_of_ble_eq_true rfl)) dX0_useSpareIfAboveCap_1 ⟨Nat.le_of_ble_eq_true rfl, Nat.le_of_ble_eq_true rfl⟩)) (fun rh1 h1 => ?_)
  rcases h1 with ⟨rfl, h1⟩ | ⟨rfl, h1⟩
  · skip
    refine lv_if_eq (tgt := 23) hx hb dX0_useSpareIfAboveCap_4 (by decide) (fun _ => ?_) (fun h => absurd (by decide) h)
    have hS := g.2.1
    exact W.vret hx hb hr (fun t ht hW => ⟨⟨I0, rfl, ⟨hI, hF, trivial⟩, h_ret g ht⟩, hS.F ht⟩) hS.2.2 dX0_useSpareIfAboveCap_23
  · skip
    refine lv_if_eq (tgt := 23) hx hb dX0_useSpareIfAboveCap_4 (by decide) (fun h => absurd h (by decide)) (fun _ => ?_)
    refine lv_aload_n hx hb dX0_useSpareIfAboveCap_7 rfl (lv_at hl 0 rfl) ?_
    refine lv_iload_n hx hb dX0_useSpareIfAboveCap_8 rfl (lv_at hl 1 rfl) ?_
    refine lv_iload_n hx hb dX0_useSpareIfAboveCap_9 rfl (lv_at hl 2 rfl) ?_
    refine vp_callSi (W.runV (As := [.int c, .int x]) (rest := []) ⟨hx, hb, hml, hown, hts⟩ (tX0_isAboveCap l E X A z I0 L0 a0 t_a0 c (c_t) h_c x (x_t) h_x) (cwV 2 hts gX0_useSpareIfAboveCap_X0_isAboveCap rfl rfl rfl (by decide +kernel) ⟨Nat.le_of_ble_eq_true rfl, Nat.le_of_ble_eq_true rfl⟩) ⟨h_blind _ _ _ _ _ _ _, h_recv g t_a0 (by decide) so_1 (q := (RX0, TX0, 9)) rfl, h_pre _ hE hk hX hA hI hR g⟩ rfl rfl hl.1 rfl (lv_room (Nat.le_of_ble_eq_true rfl)) dX0_useSpareIfAboveCap_10 ⟨Nat.le_of_ble_eq_true rfl, Nat.le_of_ble_eq_true rfl⟩) (fun rh4 h4 => ?_)
    refine lv_if_eq (tgt := 23) hx hb dX0_useSpareIfAboveCap_13 (by decide) (fun c5 => ?_) (fun c5 => ?_)
    · have ic5 := (xi_eq c5 rfl (by decide) : rh4.toInt = 0)
      have hS := g.2.1
      exact W.vret hx hb hr (fun t ht hW => ⟨⟨I0, rfl, ⟨hI, hF, trivial⟩, h_ret g ht⟩, hS.F ht⟩) hS.2.2 dX0_useSpareIfAboveCap_23
    · have ic5 := (xi_ne c5 rfl (by decide) : rh4.toInt ≠ 0)
      refine lv_aload_n hx hb dX0_useSpareIfAboveCap_16 rfl (lv_at hl 0 rfl) ?_
      obtain ⟨b6, rb6, tb6⟩ := hR.at a0 5 t_a0 (rfl : h_rs 1 5 = some (105, false)) (by decide)
      refine h_get (v := .ref b6) hx hb hts iX0 hown g t_a0 (by decide) so_1 rfl 5 (by decide) (hts (.fieldLink RX0 22 "CapLeague$Books" "spareUsed" "[Z") (by decide +kernel)) rfl dX0_useSpareIfAboveCap_17 (by show va_rf (z.R a0 5) = _; rw [rb6]; rfl) ?_
      refine lv_iload_n hx hb dX0_useSpareIfAboveCap_20 rfl (lv_at hl 1 rfl) ?_
      refine lv_iconst (v := 1) hx hb dX0_useSpareIfAboveCap_21 (by decide) ?_
      refine h_zast hx hb g tb6 (by decide) so_105 (xi_in (by rw [h_c]; omega) (by rw [h_c]; omega)) dX0_useSpareIfAboveCap_22 (fun I7 H locs eI7 g => ?_)
      rw [h_nz (by decide) (by decide)] at eI7
      have hI := hI.wr eI7 tb6 (rfl : h_bd 105 _ = (0, 1)) (by decide) (by decide)
      have hF := hF.wr eI7 tb6 rfl
      have hS := g.2.1
      exact W.vret hx hb hr (fun t ht hW => ⟨⟨I7, rfl, ⟨hI, hF, trivial⟩, h_ret g ht⟩, hS.F ht⟩) hS.2.2 dX0_useSpareIfAboveCap_23
set_option maxHeartbeats 4000000 in
set_option maxRecDepth 100000 in
theorem tX0_release (l : Launch) (E : tE) (X : tX) (A : Nat → Prop) (z : tZ) (I0 : tI) (L0 : tL) (a0 : Nat) (t_a0 : z.ty a0 = 1) (p0 : Nat) (t_p0 : z.ty p0 = 7) : Met l yX0_release wsX0_release ({ frames := 3, cells := 0, slots := 0, locals := 192 }) (va_Pc [.ref a0, .ref p0] (h_P E X A z I0 L0)) (va_Qi (fun r (I1 : tI) => h_I z I1 ∧ h_F [(154, 999), (7, 0), (7, 1), (7, 2), (7, 3), (7, 4), (7, 5), (7, 6)] z I0 I1 ∧ True) (fun (I1 : tI) t => h_B E A z I1 L0 t) A) 0 0 A := by
  refine Met.ofW (cc := cX0_release) (maxL := 5) (ret := (some .int)) (by decide) rfl ?_
  intro pr_ ev_ s m args below meth cd_ s₁ B hml hv
  obtain ⟨rfl, hE, hk, hX, hA, hK, hI, hR, hB0⟩ := hv
  have g : h_G h_so h_fk E A z I0 L0 s s.heap s.heap [] := ⟨hK, va_S.rf, hB0⟩
  have hF : h_F [(154, 999), (7, 0), (7, 1), (7, 2), (7, 3), (7, 4), (7, 5), (7, 6)] z I0 I0 := h_F.rf
  have hx := B.exec
  have hb := B.bytes
  have hr := B.returns
  have hts := atoms_spec (ws := wsX0_release) B.pre
  have hown : s.vm.findClass RX0 = some m.cls := findClass_of_methodNamed B.named
  have hlocks := B.notSynchronized
  have iX0 : ∀ w ∈ u_ws RX0 TX0 9, w ∈ wsX0_release := by decide +kernel
  have iX6 : ∀ w ∈ u_ws RX6 TX6 9, w ∈ wsX0_release := by decide +kernel
  have hl := lv_entry ([.ref a0, .ref p0]) (n := 5) (Nat.le_of_ble_eq_true rfl)
  rw [lg_entry_eq]
  generalize (lg_sl ([.ref a0, .ref p0]) ++ List.replicate (5 - (lg_sl ([.ref a0, .ref p0])).length) Slot.unset).toArray = ls at hl ⊢
  have hl : lv_has ls 5 [(0, .ref a0), (1, .ref p0)] := hl
  refine lv_iconst (v := 0) hx hb dX0_release_0 (by decide) ?_
  refine lv_istore_n (lv' := [(2, .int 0), (0, .ref a0), (1, .ref p0)]) hx hb dX0_release_1 rfl hl (by decide) rfl (fun ls hl => ?_)
  refine lv_aload_n hx hb dX0_release_2 rfl (lv_at hl 1 rfl) ?_
  refine h_get (v := .int (I0 a0 3)) hx hb hts iX0 hown g t_a0 (by decide) so_1 rfl 3 (by decide) (hts (.fieldLink RX0 37 "CapLeague$Books" "clock" "I") (by decide +kernel)) rfl dX0_release_3 rfl ?_
  refine lv_topi (fun v1 ev1 => ?_)
  have jv1 := hI.rd a0 3 t_a0 ev1 (rfl : h_bd 1 3 = (0, 9))
  refine lv_istore_n (lv' := [(3, .int v1), (2, .int 0), (0, .ref a0), (1, .ref p0)]) hx hb dX0_release_6 rfl hl (by decide) rfl (fun ls hl => ?_)
  have loop7_0 : ∀ (n : Nat) (I4 : tI) (H : Heap) (locs : List Loc) (ls : Array Slot) (v2 v3 : Int32), h_G h_so h_fk E A z I4 L0 s s.heap H locs → h_I z I4 → h_F [(154, 999), (7, 0), (7, 1), (7, 2), (7, 3), (7, 4), (7, 5), (7, 6)] z I0 I4 → lv_has ls 5 [(0, .ref a0), (1, .ref p0), (2, .int v2), (3, .int v3)] → ((-2147483648) ≤ v2.toInt ∧ v2.toInt ≤ 2147483647) → (0 ≤ v3.toInt ∧ v3.toInt ≤ 10) → (10 - v3.toInt) < (n : Int) → W pr_ l ev_ (headSpec wsX0_release ({ frames := 3, cells := 0, slots := 0, locals := 192 })).room s m ([.ref a0, .ref p0] : List Value).toArray below meth cd_ H locs 0 0 (MQ below (va_Qi (fun r (I1 : tI) => h_I z I1 ∧ h_F [(154, 999), (7, 0), (7, 1), (7, 2), (7, 3), (7, 4), (7, 5), (7, 6)] z I0 I1 ∧ True) (fun (I1 : tI) t => h_B E A z I1 L0 t) A) ([.ref a0, .ref p0] : List Value).toArray s 0 0 A) (F0 m 7 ls []) := by
    intro n
    induction n with
    | zero => intro I4 H locs ls v2 v3 g hI hF hl jv2 jv3 hn; exact absurd hn (by omega)
    | succ n ih7 =>
      intro I4 H locs ls v2 v3 g hI hF hl jv2 jv3 hn
      refine lv_iload_n hx hb dX0_release_7 rfl (lv_at hl 3 rfl) ?_
      refine lv_bipush (v := 10) hx hb dX0_release_8 (by decide) ?_
      refine lv_icmp_ge (tgt := 72) hx hb dX0_release_10 (by decide) (fun c5 => ?_) (fun c5 => ?_)
      · have ic5 := (xi_le c5 (by decide) rfl : 10 ≤ v3.toInt)
        refine lv_aload_n hx hb dX0_release_72 rfl (lv_at hl 1 rfl) ?_
        refine va_callv (va_runV (As := []) (rest := []) ⟨hx, hb, hml, hown, hts⟩ (tX6_unbind l E X A z I4 L0 p0 t_p0) (cwV 0 hts gX0_release_X6_unbind rfl rfl rfl (by decide +kernel) ⟨Nat.le_of_ble_eq_true rfl, Nat.le_of_ble_eq_true rfl⟩) ⟨h_blind _ _ _ _ _ _ _, h_recv g t_p0 (by decide) so_7 (q := (RX6, TX6, 9)) rfl, h_pre _ hE hk hX hA hI hR g⟩ rfl rfl hl.1 rfl (lv_room (Nat.le_of_ble_eq_true rfl)) dX0_release_73 ⟨Nat.le_of_ble_eq_true rfl, Nat.le_of_ble_eq_true rfl⟩) g.2.1 (fun q _ h => h) (fun q h => h) (fun I7 t H1 locs ht hvm h6 hB hz1 hk1 hS => ?_)
        obtain ⟨hI, fh6, h6⟩ := h6
        replace g := h_after g hB ht hS
        generalize H1 = H at g
        clear hB hk1 hz1 ht hvm hS
        have hF := hF.call fh6 rfl
        refine lv_iload_n hx hb dX0_release_76 rfl (lv_at hl 2 rfl) ?_
        have hS := g.2.1
        exact W.iret (v := v2) hx hb hr (fun t ht hW => ⟨⟨v2, I7, rfl, ⟨hI, hF, trivial⟩, h_ret g ht⟩, hS.F ht⟩) hS.2.2 dX0_release_77
      · have ic5 := (xi_nle c5 (by decide) rfl : v3.toInt < 10)
        refine lv_aload_n hx hb dX0_release_13 rfl (lv_at hl 1 rfl) ?_
        refine h_get (v := .int (I4 p0 0)) hx hb hts iX6 hown g t_p0 (by decide) so_7 rfl 0 (by decide) (hts (.fieldLink RX0 86 "CapLeague$Player" "club" "I") (by decide +kernel)) rfl dX0_release_14 rfl ?_
        refine lv_topi (fun v8 ev8 => ?_)
        have jv8 := hI.rd p0 0 t_p0 ev8 (rfl : h_bd 7 0 = ((-1), 7))
        refine vp_callSi (xr_of (va_runSN (As := [.int v8]) (rest := []) ⟨hx, hb, hml, hown, hts⟩ (tX11_isClub l E X A z I4 L0 v8 (v8.toInt) rfl) (⟨va_cnB 1 hts gX0_release_X11_isClub_n79 rfl rfl rfl (hE.link 8 rfl) (hts (.initialized RX11) (by decide +kernel)) (by decide +kernel) ⟨Nat.le_of_ble_eq_true rfl, Nat.le_of_ble_eq_true rfl⟩, hts (.static yX11_isClub) (by decide +kernel), trivial⟩) ⟨h_blind _ _ _ _ _ _ _, h_pre _ hE hk hX hA hI hR g⟩ rfl rfl hl.1 rfl (lv_room (Nat.le_of_ble_eq_true rfl)) dX0_release_17 ⟨Nat.le_of_ble_eq_true rfl, Nat.le_of_ble_eq_true rfl⟩)) (fun rh9 h9 => ?_)
        rcases h9 with ⟨rfl, h9⟩ | ⟨rfl, h9⟩
        · skip
          refine lv_if_eq (tgt := 72) hx hb dX0_release_20 (by decide) (fun _ => ?_) (fun h => absurd (by decide) h)
          refine lv_aload_n hx hb dX0_release_72 rfl (lv_at hl 1 rfl) ?_
          refine va_callv (va_runV (As := []) (rest := []) ⟨hx, hb, hml, hown, hts⟩ (tX6_unbind l E X A z I4 L0 p0 t_p0) (cwV 0 hts gX0_release_X6_unbind rfl rfl rfl (by decide +kernel) ⟨Nat.le_of_ble_eq_true rfl, Nat.le_of_ble_eq_true rfl⟩) ⟨h_blind _ _ _ _ _ _ _, h_recv g t_p0 (by decide) so_7 (q := (RX6, TX6, 9)) rfl, h_pre _ hE hk hX hA hI hR g⟩ rfl rfl hl.1 rfl (lv_room (Nat.le_of_ble_eq_true rfl)) dX0_release_73 ⟨Nat.le_of_ble_eq_true rfl, Nat.le_of_ble_eq_true rfl⟩) g.2.1 (fun q _ h => h) (fun q h => h) (fun I12 t H1 locs ht hvm h11 hB hz1 hk1 hS => ?_)
          obtain ⟨hI, fh11, h11⟩ := h11
          replace g := h_after g hB ht hS
          generalize H1 = H at g
          clear hB hk1 hz1 ht hvm hS
          have hF := hF.call fh11 rfl
          refine lv_iload_n hx hb dX0_release_76 rfl (lv_at hl 2 rfl) ?_
          have hS := g.2.1
          exact W.iret (v := v2) hx hb hr (fun t ht hW => ⟨⟨v2, I12, rfl, ⟨hI, hF, trivial⟩, h_ret g ht⟩, hS.F ht⟩) hS.2.2 dX0_release_77
        · skip
          refine lv_if_eq (tgt := 72) hx hb dX0_release_20 (by decide) (fun h => absurd h (by decide)) (fun _ => ?_)
          refine lv_aload_n hx hb dX0_release_23 rfl (lv_at hl 1 rfl) ?_
          refine lv_iload_n hx hb dX0_release_24 rfl (lv_at hl 3 rfl) ?_
          refine vp_callSi (W.runV (As := [.int v3]) (rest := []) ⟨hx, hb, hml, hown, hts⟩ (tX6_isBoundIn l E X A z I4 L0 p0 t_p0 v3 (v3.toInt) rfl) (cwV 1 hts gX0_release_X6_isBoundIn rfl rfl rfl (by decide +kernel) ⟨Nat.le_of_ble_eq_true rfl, Nat.le_of_ble_eq_true rfl⟩) ⟨h_blind _ _ _ _ _ _ _, h_recv g t_p0 (by decide) so_7 (q := (RX6, TX6, 9)) rfl, h_pre _ hE hk hX hA hI hR g⟩ rfl rfl hl.1 rfl (lv_room (Nat.le_of_ble_eq_true rfl)) dX0_release_25 ⟨Nat.le_of_ble_eq_true rfl, Nat.le_of_ble_eq_true rfl⟩) (fun rh14 h14 => ?_)
          refine lv_if_eq (tgt := 66) hx hb dX0_release_28 (by decide) (fun c15 => ?_) (fun c15 => ?_)
          · have ic15 := (xi_eq c15 rfl (by decide) : rh14.toInt = 0)
            obtain ⟨v16, ev16⟩ : ∃ z : Int32, z = v3 + 1 := ⟨_, rfl⟩
            have jv16 : v16.toInt = v3.toInt + 1 := xi_add ev16 rfl (by decide) (by omega) (by omega)
            refine lv_iinc (v := v16) (lv' := [(3, .int v16), (0, .ref a0), (1, .ref p0), (2, .int v2)]) hx hb dX0_release_66 hl (k := 3) rfl (by rw [ev16]; rfl) (by decide) rfl (fun ls hl => ?_)
            refine lv_goto (tgt := 7) hx hb dX0_release_69 (by decide) ?_
            exact ih7 I4 _ _ _ v2 v16 g hI hF (lv_sub hl [1, 2, 3, 0] rfl) (by omega) (by omega) (by omega)
          · have ic15 := (xi_ne c15 rfl (by decide) : rh14.toInt ≠ 0)
            refine lv_aload_n hx hb dX0_release_31 rfl (lv_at hl 1 rfl) ?_
            refine lv_iload_n hx hb dX0_release_32 rfl (lv_at hl 3 rfl) ?_
            refine vp_callSi (W.runV (As := [.int v3]) (rest := []) ⟨hx, hb, hml, hown, hts⟩ (tX6_payIn l E X A z I4 L0 p0 t_p0 v3 (v3.toInt) rfl) (cwV 1 hts gX0_release_X6_payIn rfl rfl rfl (by decide +kernel) ⟨Nat.le_of_ble_eq_true rfl, Nat.le_of_ble_eq_true rfl⟩) ⟨h_blind _ _ _ _ _ _ _, h_recv g t_p0 (by decide) so_7 (q := (RX6, TX6, 9)) rfl, h_pre _ hE hk hX hA hI hR g⟩ rfl rfl hl.1 rfl (lv_room (Nat.le_of_ble_eq_true rfl)) dX0_release_33 ⟨Nat.le_of_ble_eq_true rfl, Nat.le_of_ble_eq_true rfl⟩) (fun rh17 h17 => ?_)
            have jrh17 : -2147483648 ≤ rh17.toInt ∧ rh17.toInt ≤ 2147483647 := ⟨xi_lo _, Int.le_of_lt_add_one (xi_hi _)⟩
            refine lv_aload_n hx hb dX0_release_36 rfl (lv_at hl 1 rfl) ?_
            refine h_get (v := .int (I4 p0 5)) hx hb hts iX6 hown g t_p0 (by decide) so_7 rfl 5 (by decide) (hts (.fieldLink RX0 110 "CapLeague$Player" "sure" "I") (by decide +kernel)) rfl dX0_release_37 rfl ?_
            refine lv_topi (fun v18 ev18 => ?_)
            have jv18 := hI.rd p0 5 t_p0 ev18 (rfl : h_bd 7 5 = ((-2147483648), 2147483647))
            refine vp_callSi (xr_of (va_runSN (As := [.int rh17, .int v18]) (rest := []) ⟨hx, hb, hml, hown, hts⟩ (tX11_hundredths l E X A z I4 L0 rh17 (rh17.toInt) rfl v18 (v18.toInt) rfl) (⟨va_cnB 2 hts gX0_release_X11_hundredths_n75 rfl rfl rfl (hE.link 9 rfl) (hts (.initialized RX11) (by decide +kernel)) (by decide +kernel) ⟨Nat.le_of_ble_eq_true rfl, Nat.le_of_ble_eq_true rfl⟩, hts (.static yX11_hundredths) (by decide +kernel), trivial⟩) ⟨h_blind _ _ _ _ _ _ _, h_pre _ hE hk hX hA hI hR g⟩ rfl rfl hl.1 rfl (lv_room (Nat.le_of_ble_eq_true rfl)) dX0_release_40 ⟨Nat.le_of_ble_eq_true rfl, Nat.le_of_ble_eq_true rfl⟩)) (fun rh19 h19 => ?_)
            have jrh19 : -2147483648 ≤ rh19.toInt ∧ rh19.toInt ≤ 2147483647 := ⟨xi_lo _, Int.le_of_lt_add_one (xi_hi _)⟩
            refine lv_istore (lv' := [(4, .int rh19), (0, .ref a0), (1, .ref p0), (2, .int v2), (3, .int v3)]) hx hb dX0_release_43 hl (by decide) rfl (fun ls hl => ?_)
            refine lv_aload_n hx hb dX0_release_45 rfl (lv_at hl 1 rfl) ?_
            obtain ⟨b20, rb20, tb20⟩ := hR.at a0 4 t_a0 (rfl : h_rs 1 4 = some (104, false)) (by decide)
            refine h_get (v := .ref b20) hx hb hts iX0 hown g t_a0 (by decide) so_1 rfl 4 (by decide) (hts (.fieldLink RX0 19 "CapLeague$Books" "dead" "[[I") (by decide +kernel)) rfl dX0_release_46 (by show va_rf (z.R a0 4) = _; rw [rb20]; rfl) ?_
            refine lv_aload_n hx hb dX0_release_49 rfl (lv_at hl 2 rfl) ?_
            refine h_get (v := .int v8) hx hb hts iX6 hown g t_p0 (by decide) so_7 rfl 0 (by decide) (hts (.fieldLink RX0 86 "CapLeague$Player" "club" "I") (by decide +kernel)) rfl dX0_release_50 (congrArg Value.int (ev8.symm)) ?_
            obtain ⟨b21, rb21, tb21⟩ := hR.at b20 v8.toNatClampNeg tb20 (rfl : h_rs 104 _ = some (154, false)) (by rw [so_104]; exact h_lt (n := 8) (xi_in (by omega) (by omega)))
            refine h_aldA (v := .ref b21) hx hb g tb20 (by decide) so_104 (xi_in (by omega) (by omega)) dX0_release_53 (by rw [rb21]; rfl) ?_
            refine lv_iload_n hx hb dX0_release_54 rfl (lv_at hl 4 rfl) ?_
            refine lv_dup2_11 hx hb dX0_release_55 rfl rfl ?_
            refine h_ald hx hb g tb21 (by decide) so_154 (xi_in (by omega) (by omega)) dX0_release_56 ?_
            refine lv_topi (fun v22 ev22 => ?_)
            have jv22 := hI.rd b21 v3.toNatClampNeg tb21 ev22 (rfl : h_bd 154 _ = ((-2147483648), 2147483647))
            refine lv_iload hx hb dX0_release_57 (lv_at hl 0 rfl) ?_
            refine lv_iadd hx hb dX0_release_59 ?_
            refine lv_topi (fun v23 ev23 => ?_)
            have jv23 : -2147483648 ≤ v23.toInt ∧ v23.toInt ≤ 2147483647 := ⟨xi_lo _, Int.le_of_lt_add_one (xi_hi _)⟩
            refine h_ast hx hb g tb21 (by decide) so_154 (xi_in (by omega) (by omega)) dX0_release_60 (fun I24 H locs eI24 g => ?_)
            have hI := hI.wr eI24 tb21 (rfl : h_bd 154 _ = ((-2147483648), 2147483647)) (xi_lo _) (Int.le_of_lt_add_one (xi_hi _))
            have hF := hF.wr eI24 tb21 rfl
            refine lv_iload_n hx hb dX0_release_61 rfl (lv_at hl 3 rfl) ?_
            refine lv_iload hx hb dX0_release_62 (lv_at hl 0 rfl) ?_
            refine lv_iadd hx hb dX0_release_64 ?_
            refine lv_topi (fun v25 ev25 => ?_)
            have jv25 : -2147483648 ≤ v25.toInt ∧ v25.toInt ≤ 2147483647 := ⟨xi_lo _, Int.le_of_lt_add_one (xi_hi _)⟩
            refine lv_istore_n (lv' := [(2, .int v25), (4, .int rh19), (0, .ref a0), (1, .ref p0), (3, .int v3)]) hx hb dX0_release_65 rfl hl (by decide) rfl (fun ls hl => ?_)
            obtain ⟨v26, ev26⟩ : ∃ z : Int32, z = v3 + 1 := ⟨_, rfl⟩
            have jv26 : v26.toInt = v3.toInt + 1 := xi_add ev26 rfl (by decide) (by omega) (by omega)
            refine lv_iinc (v := v26) (lv' := [(3, .int v26), (2, .int v25), (4, .int rh19), (0, .ref a0), (1, .ref p0)]) hx hb dX0_release_66 hl (k := 4) rfl (by rw [ev26]; rfl) (by decide) rfl (fun ls hl => ?_)
            refine lv_goto (tgt := 7) hx hb dX0_release_69 (by decide) ?_
            exact ih7 I24 _ _ _ v25 v26 g hI hF (lv_sub hl [3, 4, 1, 0] rfl) (by omega) (by omega) (by omega)
  exact loop7_0 _ I0 _ _ _ (0) v1 g hI hF (lv_sub hl [2, 3, 1, 0] rfl) ⟨by decide, by decide⟩ (by omega) (show (10 - v1.toInt) < (((10 - v1.toInt).toNat + 1 : Nat) : Int) by omega)
set_option maxHeartbeats 4000000 in
set_option maxRecDepth 100000 in
theorem tX0_endContractIfOver (l : Launch) (E : tE) (X : tX) (A : Nat → Prop) (z : tZ) (I0 : tI) (L0 : tL) (a0 : Nat) (t_a0 : z.ty a0 = 1) (p0 : Nat) (t_p0 : z.ty p0 = 7) : Met l yX0_endContractIfOver wsX0_endContractIfOver ({ frames := 3, cells := 0, slots := 0, locals := 192 }) (va_Pc [.ref a0, .ref p0] (h_P E X A z I0 L0)) (va_Qv (fun (I1 : tI) => h_I z I1 ∧ h_F [(7, 0), (7, 1), (7, 2), (7, 3), (7, 4), (7, 5), (7, 6)] z I0 I1 ∧ True) (fun (I1 : tI) t => h_B E A z I1 L0 t) A) 0 0 A := by
  refine Met.ofW (cc := cX0_endContractIfOver) (maxL := 2) (ret := none) (by decide) rfl ?_
  intro pr_ ev_ s m args below meth cd_ s₁ B hml hv
  obtain ⟨rfl, hE, hk, hX, hA, hK, hI, hR, hB0⟩ := hv
  have g : h_G h_so h_fk E A z I0 L0 s s.heap s.heap [] := ⟨hK, va_S.rf, hB0⟩
  have hF : h_F [(7, 0), (7, 1), (7, 2), (7, 3), (7, 4), (7, 5), (7, 6)] z I0 I0 := h_F.rf
  have hx := B.exec
  have hb := B.bytes
  have hr := B.returns
  have hts := atoms_spec (ws := wsX0_endContractIfOver) B.pre
  have hown : s.vm.findClass RX0 = some m.cls := findClass_of_methodNamed B.named
  have hlocks := B.notSynchronized
  have iX0 : ∀ w ∈ u_ws RX0 TX0 9, w ∈ wsX0_endContractIfOver := by decide +kernel
  have hl := lv_entry ([.ref a0, .ref p0]) (n := 2) (Nat.le_of_ble_eq_true rfl)
  rw [lg_entry_eq]
  generalize (lg_sl ([.ref a0, .ref p0]) ++ List.replicate (2 - (lg_sl ([.ref a0, .ref p0])).length) Slot.unset).toArray = ls at hl ⊢
  have hl : lv_has ls 2 [(0, .ref a0), (1, .ref p0)] := hl
  refine lv_aload_n hx hb dX0_endContractIfOver_0 rfl (lv_at hl 1 rfl) ?_
  refine vp_callSi (W.runV (As := []) (rest := []) ⟨hx, hb, hml, hown, hts⟩ (tX6_isSigned l E X A z I0 L0 p0 t_p0) (cwV 0 hts gX0_endContractIfOver_X6_isSigned rfl rfl rfl (by decide +kernel) ⟨Nat.le_of_ble_eq_true rfl, Nat.le_of_ble_eq_true rfl⟩) ⟨h_blind _ _ _ _ _ _ _, h_recv g t_p0 (by decide) so_7 (q := (RX6, TX6, 9)) rfl, h_pre _ hE hk hX hA hI hR g⟩ rfl rfl hl.1 rfl (lv_room (Nat.le_of_ble_eq_true rfl)) dX0_endContractIfOver_1 ⟨Nat.le_of_ble_eq_true rfl, Nat.le_of_ble_eq_true rfl⟩) (fun rh1 h1 => ?_)
  refine lv_if_eq (tgt := 22) hx hb dX0_endContractIfOver_4 (by decide) (fun c2 => ?_) (fun c2 => ?_)
  · have ic2 := (xi_eq c2 rfl (by decide) : rh1.toInt = 0)
    have hS := g.2.1
    exact W.vret hx hb hr (fun t ht hW => ⟨⟨I0, rfl, ⟨hI, hF, trivial⟩, h_ret g ht⟩, hS.F ht⟩) hS.2.2 dX0_endContractIfOver_22
  · have ic2 := (xi_ne c2 rfl (by decide) : rh1.toInt ≠ 0)
    refine lv_aload_n hx hb dX0_endContractIfOver_7 rfl (lv_at hl 1 rfl) ?_
    refine lv_aload_n hx hb dX0_endContractIfOver_8 rfl (lv_at hl 0 rfl) ?_
    refine h_get (v := .int (I0 a0 3)) hx hb hts iX0 hown g t_a0 (by decide) so_1 rfl 3 (by decide) (hts (.fieldLink RX0 37 "CapLeague$Books" "clock" "I") (by decide +kernel)) rfl dX0_endContractIfOver_9 rfl ?_
    refine lv_topi (fun v3 ev3 => ?_)
    have jv3 := hI.rd a0 3 t_a0 ev3 (rfl : h_bd 1 3 = (0, 9))
    refine vp_callSi (W.runV (As := [.int v3]) (rest := []) ⟨hx, hb, hml, hown, hts⟩ (tX6_isBoundIn l E X A z I0 L0 p0 t_p0 v3 (v3.toInt) rfl) (cwV 1 hts gX0_endContractIfOver_X6_isBoundIn rfl rfl rfl (by decide +kernel) ⟨Nat.le_of_ble_eq_true rfl, Nat.le_of_ble_eq_true rfl⟩) ⟨h_blind _ _ _ _ _ _ _, h_recv g t_p0 (by decide) so_7 (q := (RX6, TX6, 9)) rfl, h_pre _ hE hk hX hA hI hR g⟩ rfl rfl hl.1 rfl (lv_room (Nat.le_of_ble_eq_true rfl)) dX0_endContractIfOver_12 ⟨Nat.le_of_ble_eq_true rfl, Nat.le_of_ble_eq_true rfl⟩) (fun rh4 h4 => ?_)
    refine lv_if_ne (tgt := 22) hx hb dX0_endContractIfOver_15 (by decide) (fun c5 => ?_) (fun c5 => ?_)
    · have ic5 := (xi_ne c5 rfl (by decide) : rh4.toInt ≠ 0)
      have hS := g.2.1
      exact W.vret hx hb hr (fun t ht hW => ⟨⟨I0, rfl, ⟨hI, hF, trivial⟩, h_ret g ht⟩, hS.F ht⟩) hS.2.2 dX0_endContractIfOver_22
    · have ic5 := (xi_eq c5 rfl (by decide) : rh4.toInt = 0)
      refine lv_aload_n hx hb dX0_endContractIfOver_18 rfl (lv_at hl 1 rfl) ?_
      refine va_callv (va_runV (As := []) (rest := []) ⟨hx, hb, hml, hown, hts⟩ (tX6_unbind l E X A z I0 L0 p0 t_p0) (cwV 0 hts gX0_endContractIfOver_X6_unbind rfl rfl rfl (by decide +kernel) ⟨Nat.le_of_ble_eq_true rfl, Nat.le_of_ble_eq_true rfl⟩) ⟨h_blind _ _ _ _ _ _ _, h_recv g t_p0 (by decide) so_7 (q := (RX6, TX6, 9)) rfl, h_pre _ hE hk hX hA hI hR g⟩ rfl rfl hl.1 rfl (lv_room (Nat.le_of_ble_eq_true rfl)) dX0_endContractIfOver_19 ⟨Nat.le_of_ble_eq_true rfl, Nat.le_of_ble_eq_true rfl⟩) g.2.1 (fun q _ h => h) (fun q h => h) (fun I7 t H1 locs ht hvm h6 hB hz1 hk1 hS => ?_)
      obtain ⟨hI, fh6, h6⟩ := h6
      replace g := h_after g hB ht hS
      generalize H1 = H at g
      clear hB hk1 hz1 ht hvm hS
      have hF := hF.call fh6 rfl
      have hS := g.2.1
      exact W.vret hx hb hr (fun t ht hW => ⟨⟨I7, rfl, ⟨hI, hF, trivial⟩, h_ret g ht⟩, hS.F ht⟩) hS.2.2 dX0_endContractIfOver_22
set_option maxHeartbeats 4000000 in
set_option maxRecDepth 100000 in
theorem tX0_shareFines (l : Launch) (E : tE) (X : tX) (A : Nat → Prop) (z : tZ) (I0 : tI) (L0 : tL) (a0 : Nat) (t_a0 : z.ty a0 = 1) : Met l yX0_shareFines wsX0_shareFines ({ frames := 5, cells := 0, slots := 0, locals := 320 }) (va_Pc [.ref a0] (h_P E X A z I0 L0)) (va_Qv (fun (I1 : tI) => h_I z I1 ∧ h_F [(108, 999), (106, 999), (1, 7)] z I0 I1 ∧ True) (fun (I1 : tI) t => h_B E A z I1 L0 t) A) 0 0 A := by
  refine Met.ofW (cc := cX0_shareFines) (maxL := 5) (ret := none) (by decide) rfl ?_
  intro pr_ ev_ s m args below meth cd_ s₁ B hml hv
  obtain ⟨rfl, hE, hk, hX, hA, hK, hI, hR, hB0⟩ := hv
  have g : h_G h_so h_fk E A z I0 L0 s s.heap s.heap [] := ⟨hK, va_S.rf, hB0⟩
  have hF : h_F [(108, 999), (106, 999), (1, 7)] z I0 I0 := h_F.rf
  have hx := B.exec
  have hb := B.bytes
  have hr := B.returns
  have hts := atoms_spec (ws := wsX0_shareFines) B.pre
  have hown : s.vm.findClass RX0 = some m.cls := findClass_of_methodNamed B.named
  have hlocks := B.notSynchronized
  have iX0 : ∀ w ∈ u_ws RX0 TX0 9, w ∈ wsX0_shareFines := by decide +kernel
  have hl := lv_entry ([.ref a0]) (n := 5) (Nat.le_of_ble_eq_true rfl)
  rw [lg_entry_eq]
  generalize (lg_sl ([.ref a0]) ++ List.replicate (5 - (lg_sl ([.ref a0])).length) Slot.unset).toArray = ls at hl ⊢
  have hl : lv_has ls 5 [(0, .ref a0)] := hl
  refine lv_iconst (v := 0) hx hb dX0_shareFines_0 (by decide) ?_
  refine lv_istore_n (lv' := [(1, .int 0), (0, .ref a0)]) hx hb dX0_shareFines_1 rfl hl (by decide) rfl (fun ls hl => ?_)
  refine lv_iconst (v := 0) hx hb dX0_shareFines_2 (by decide) ?_
  refine lv_istore_n (lv' := [(2, .int 0), (1, .int 0), (0, .ref a0)]) hx hb dX0_shareFines_3 rfl hl (by decide) rfl (fun ls hl => ?_)
  refine lv_iconst (v := 0) hx hb dX0_shareFines_4 (by decide) ?_
  refine lv_istore_n (lv' := [(3, .int 0), (2, .int 0), (1, .int 0), (0, .ref a0)]) hx hb dX0_shareFines_5 rfl hl (by decide) rfl (fun ls hl => ?_)
  have loop6_0 : ∀ (n : Nat) (I4 : tI) (H : Heap) (locs : List Loc) (ls : Array Slot) (v1 v2 v3 : Int32), h_G h_so h_fk E A z I4 L0 s s.heap H locs → h_I z I4 → h_F [(108, 999), (106, 999), (1, 7)] z I0 I4 → lv_has ls 5 [(0, .ref a0), (1, .int v1), (2, .int v2), (3, .int v3)] → ((-2147483648) ≤ v1.toInt ∧ v1.toInt ≤ 2147483647) → ((-2147483648) ≤ v2.toInt ∧ v2.toInt ≤ 2147483647) → (0 ≤ v3.toInt ∧ v3.toInt ≤ 8) → (8 - v3.toInt) < (n : Int) → W pr_ l ev_ (headSpec wsX0_shareFines ({ frames := 5, cells := 0, slots := 0, locals := 320 })).room s m ([.ref a0] : List Value).toArray below meth cd_ H locs 0 0 (MQ below (va_Qv (fun (I1 : tI) => h_I z I1 ∧ h_F [(108, 999), (106, 999), (1, 7)] z I0 I1 ∧ True) (fun (I1 : tI) t => h_B E A z I1 L0 t) A) ([.ref a0] : List Value).toArray s 0 0 A) (F0 m 6 ls []) := by
    intro n
    induction n with
    | zero => intro I4 H locs ls v1 v2 v3 g hI hF hl jv1 jv2 jv3 hn; exact absurd hn (by omega)
    | succ n ih6 =>
      intro I4 H locs ls v1 v2 v3 g hI hF hl jv1 jv2 jv3 hn
      refine lv_iload_n hx hb dX0_shareFines_6 rfl (lv_at hl 3 rfl) ?_
      refine lv_bipush (v := 8) hx hb dX0_shareFines_7 (by decide) ?_
      refine lv_icmp_ge (tgt := 99) hx hb dX0_shareFines_9 (by decide) (fun c5 => ?_) (fun c5 => ?_)
      · have ic5 := (xi_le c5 (by decide) rfl : 8 ≤ v3.toInt)
        refine lv_iload_n hx hb dX0_shareFines_99 rfl (lv_at hl 2 rfl) ?_
        refine lv_if_le (tgt := 109) hx hb dX0_shareFines_100 (by decide) (fun c6 => ?_) (fun c6 => ?_)
        · have ic6 := (xi_le c6 rfl (by decide) : v2.toInt ≤ 0)
          refine lv_iconst (v := 0) hx hb dX0_shareFines_109 (by decide) ?_
          refine lv_istore_n (lv' := [(3, .int 0), (0, .ref a0), (1, .int v1), (2, .int v2)]) hx hb dX0_shareFines_110 rfl hl (by decide) rfl (fun ls hl => ?_)
          refine lv_iconst (v := 0) hx hb dX0_shareFines_111 (by decide) ?_
          refine lv_istore (lv' := [(4, .int 0), (3, .int 0), (0, .ref a0), (1, .int v1), (2, .int v2)]) hx hb dX0_shareFines_112 hl (by decide) rfl (fun ls hl => ?_)
          have loop114_1 : ∀ (n : Nat) (I8 : tI) (H : Heap) (locs : List Loc) (ls : Array Slot) (v7 : Int32), h_G h_so h_fk E A z I8 L0 s s.heap H locs → h_I z I8 → h_F [(108, 999), (106, 999), (1, 7)] z I0 I8 → lv_has ls 5 [(0, .ref a0), (1, .int v1), (2, .int v2), (3, .int 0), (4, .int v7)] → (0 ≤ v7.toInt ∧ v7.toInt ≤ 8) → (8 - v7.toInt) < (n : Int) → W pr_ l ev_ (headSpec wsX0_shareFines ({ frames := 5, cells := 0, slots := 0, locals := 320 })).room s m ([.ref a0] : List Value).toArray below meth cd_ H locs 0 0 (MQ below (va_Qv (fun (I1 : tI) => h_I z I1 ∧ h_F [(108, 999), (106, 999), (1, 7)] z I0 I1 ∧ True) (fun (I1 : tI) t => h_B E A z I1 L0 t) A) ([.ref a0] : List Value).toArray s 0 0 A) (F0 m 114 ls []) := by
            intro n
            induction n with
            | zero => intro I8 H locs ls v7 g hI hF hl jv7 hn; exact absurd hn (by omega)
            | succ n ih114 =>
              intro I8 H locs ls v7 g hI hF hl jv7 hn
              refine lv_iload hx hb dX0_shareFines_114 (lv_at hl 4 rfl) ?_
              refine lv_bipush (v := 8) hx hb dX0_shareFines_116 (by decide) ?_
              refine lv_icmp_ge (tgt := 148) hx hb dX0_shareFines_118 (by decide) (fun c9 => ?_) (fun c9 => ?_)
              · have ic9 := (xi_le c9 (by decide) rfl : 8 ≤ v7.toInt)
                refine lv_aload_n hx hb dX0_shareFines_148 rfl (lv_at hl 0 rfl) ?_
                refine lv_dup hx hb dX0_shareFines_149 rfl ?_
                refine h_get (v := .int (I8 a0 7)) hx hb hts iX0 hown g t_a0 (by decide) so_1 rfl 7 (by decide) (hts (.fieldLink RX0 128 "CapLeague$Books" "leftOver" "I") (by decide +kernel)) rfl dX0_shareFines_150 rfl ?_
                refine lv_topi (fun v10 ev10 => ?_)
                have jv10 := hI.rd a0 7 t_a0 ev10 (rfl : h_bd 1 7 = ((-2147483648), 2147483647))
                refine lv_iload_n hx hb dX0_shareFines_153 rfl (lv_at hl 1 rfl) ?_
                refine lv_iload_n hx hb dX0_shareFines_154 rfl (lv_at hl 3 rfl) ?_
                refine lv_iload_n hx hb dX0_shareFines_155 rfl (lv_at hl 2 rfl) ?_
                refine lv_imul hx hb dX0_shareFines_156 ?_
                refine lv_topi (fun v11 ev11 => ?_)
                have jv11 : v11.toInt = 0 * v2.toInt := xi_mul ev11 (by decide) rfl (by omega) (by omega)
                refine lv_isub hx hb dX0_shareFines_157 ?_
                refine lv_topi (fun v12 ev12 => ?_)
                have jv12 : v12.toInt = v1.toInt - v11.toInt := xi_sub ev12 rfl rfl (by omega) (by omega)
                refine lv_iadd hx hb dX0_shareFines_158 ?_
                refine lv_topi (fun v13 ev13 => ?_)
                have jv13 : -2147483648 ≤ v13.toInt ∧ v13.toInt ≤ 2147483647 := ⟨xi_lo _, Int.le_of_lt_add_one (xi_hi _)⟩
                refine h_putI (ty := .int) (v := v13) hx hb hts iX0 tyX0 tyX0_ok nmX0 hown g t_a0 (by decide) so_1 rfl 7 (by decide) rfl (hts (.fieldLink RX0 128 "CapLeague$Books" "leftOver" "I") (by decide +kernel)) rfl rfl (by decide +kernel) rfl rfl dX0_shareFines_159 (fun I14 H locs eI14 g => ?_)
                have hI := hI.wr eI14 t_a0 (rfl : h_bd 1 7 = ((-2147483648), 2147483647)) (xi_lo _) (Int.le_of_lt_add_one (xi_hi _))
                have hF := hF.wr eI14 t_a0 rfl
                have hS := g.2.1
                exact W.vret hx hb hr (fun t ht hW => ⟨⟨I14, rfl, ⟨hI, hF, trivial⟩, h_ret g ht⟩, hS.F ht⟩) hS.2.2 dX0_shareFines_162
              · have ic9 := (xi_nle c9 (by decide) rfl : v7.toInt < 8)
                refine lv_aload_n hx hb dX0_shareFines_121 rfl (lv_at hl 0 rfl) ?_
                obtain ⟨b15, rb15, tb15⟩ := hR.at a0 8 t_a0 (rfl : h_rs 1 8 = some (108, false)) (by decide)
                refine h_get (v := .ref b15) hx hb hts iX0 hown g t_a0 (by decide) so_1 rfl 8 (by decide) (hts (.fieldLink RX0 30 "CapLeague$Books" "aboveCap" "[I") (by decide +kernel)) rfl dX0_shareFines_122 (by show va_rf (z.R a0 8) = _; rw [rb15]; rfl) ?_
                refine lv_iload hx hb dX0_shareFines_125 (lv_at hl 4 rfl) ?_
                refine h_ald hx hb g tb15 (by decide) so_108 (xi_in (by omega) (by omega)) dX0_shareFines_127 ?_
                refine lv_topi (fun v16 ev16 => ?_)
                have jv16 := hI.rd b15 v7.toNatClampNeg tb15 ev16 (rfl : h_bd 108 _ = ((-2147483648), 2147483647))
                refine lv_if_ne (tgt := 142) hx hb dX0_shareFines_128 (by decide) (fun c17 => ?_) (fun c17 => ?_)
                · have ic17 := (xi_ne c17 rfl (by decide) : v16.toInt ≠ 0)
                  obtain ⟨v18, ev18⟩ : ∃ z : Int32, z = v7 + 1 := ⟨_, rfl⟩
                  have jv18 : v18.toInt = v7.toInt + 1 := xi_add ev18 rfl (by decide) (by omega) (by omega)
                  refine lv_iinc (v := v18) (lv' := [(4, .int v18), (0, .ref a0), (1, .int v1), (2, .int v2), (3, .int 0)]) hx hb dX0_shareFines_142 hl (k := 4) rfl (by rw [ev18]; rfl) (by decide) rfl (fun ls hl => ?_)
                  refine lv_goto (tgt := 114) hx hb dX0_shareFines_145 (by decide) ?_
                  exact ih114 I8 _ _ _ v18 g hI hF (lv_sub hl [1, 2, 3, 4, 0] rfl) (by omega) (by omega)
                · have ic17 := (xi_eq c17 rfl (by decide) : v16.toInt = 0)
                  refine lv_aload_n hx hb dX0_shareFines_131 rfl (lv_at hl 0 rfl) ?_
                  obtain ⟨b19, rb19, tb19⟩ := hR.at a0 6 t_a0 (rfl : h_rs 1 6 = some (106, false)) (by decide)
                  refine h_get (v := .ref b19) hx hb hts iX0 hown g t_a0 (by decide) so_1 rfl 6 (by decide) (hts (.fieldLink RX0 26 "CapLeague$Books" "fines" "[I") (by decide +kernel)) rfl dX0_shareFines_132 (by show va_rf (z.R a0 6) = _; rw [rb19]; rfl) ?_
                  refine lv_iload hx hb dX0_shareFines_135 (lv_at hl 4 rfl) ?_
                  refine lv_dup2_11 hx hb dX0_shareFines_137 rfl rfl ?_
                  refine h_ald hx hb g tb19 (by decide) so_106 (xi_in (by omega) (by omega)) dX0_shareFines_138 ?_
                  refine lv_topi (fun v20 ev20 => ?_)
                  have jv20 := hI.rd b19 v7.toNatClampNeg tb19 ev20 (rfl : h_bd 106 _ = ((-2147483648), 2147483647))
                  refine lv_iload_n hx hb dX0_shareFines_139 rfl (lv_at hl 3 rfl) ?_
                  refine lv_isub hx hb dX0_shareFines_140 ?_
                  refine lv_topi (fun v21 ev21 => ?_)
                  have jv21 : v21.toInt = v20.toInt - 0 := xi_sub ev21 rfl (by decide) (by omega) (by omega)
                  refine h_ast hx hb g tb19 (by decide) so_106 (xi_in (by omega) (by omega)) dX0_shareFines_141 (fun I22 H locs eI22 g => ?_)
                  have hI := hI.wr eI22 tb19 (rfl : h_bd 106 _ = ((-2147483648), 2147483647)) (xi_lo _) (Int.le_of_lt_add_one (xi_hi _))
                  have hF := hF.wr eI22 tb19 rfl
                  obtain ⟨v23, ev23⟩ : ∃ z : Int32, z = v7 + 1 := ⟨_, rfl⟩
                  have jv23 : v23.toInt = v7.toInt + 1 := xi_add ev23 rfl (by decide) (by omega) (by omega)
                  refine lv_iinc (v := v23) (lv' := [(4, .int v23), (0, .ref a0), (1, .int v1), (2, .int v2), (3, .int 0)]) hx hb dX0_shareFines_142 hl (k := 4) rfl (by rw [ev23]; rfl) (by decide) rfl (fun ls hl => ?_)
                  refine lv_goto (tgt := 114) hx hb dX0_shareFines_145 (by decide) ?_
                  exact ih114 I22 _ _ _ v23 g hI hF (lv_sub hl [1, 2, 3, 4, 0] rfl) (by omega) (by omega)
          exact loop114_1 _ I4 _ _ _ (0) g hI hF (lv_sub hl [2, 3, 4, 1, 0] rfl) ⟨by decide, by decide⟩ (show (8 - (0 : Int)) < (((8 - (0 : Int)).toNat + 1 : Nat) : Int) by omega)
        · have ic6 := (xi_nle c6 rfl (by decide) : 0 < v2.toInt)
          refine lv_iload_n hx hb dX0_shareFines_103 rfl (lv_at hl 1 rfl) ?_
          refine lv_iload_n hx hb dX0_shareFines_104 rfl (lv_at hl 2 rfl) ?_
          refine lv_idiv hx hb dX0_shareFines_105 (h_ne0 (by omega)) ?_
          refine lv_topi (fun v24 ev24 => ?_)
          have jv24 : -2147483648 ≤ v24.toInt ∧ v24.toInt ≤ 2147483647 := ⟨xi_lo _, Int.le_of_lt_add_one (xi_hi _)⟩
          refine lv_goto (tgt := 110) hx hb dX0_shareFines_106 (by decide) ?_
          refine lv_istore_n (lv' := [(3, .int v24), (0, .ref a0), (1, .int v1), (2, .int v2)]) hx hb dX0_shareFines_110 rfl hl (by decide) rfl (fun ls hl => ?_)
          refine lv_iconst (v := 0) hx hb dX0_shareFines_111 (by decide) ?_
          refine lv_istore (lv' := [(4, .int 0), (3, .int v24), (0, .ref a0), (1, .int v1), (2, .int v2)]) hx hb dX0_shareFines_112 hl (by decide) rfl (fun ls hl => ?_)
          have loop114_2 : ∀ (n : Nat) (I26 : tI) (H : Heap) (locs : List Loc) (ls : Array Slot) (v25 : Int32), h_G h_so h_fk E A z I26 L0 s s.heap H locs → h_I z I26 → h_F [(108, 999), (106, 999), (1, 7)] z I0 I26 → lv_has ls 5 [(0, .ref a0), (1, .int v1), (2, .int v2), (3, .int v24), (4, .int v25)] → (0 ≤ v25.toInt ∧ v25.toInt ≤ 8) → (8 - v25.toInt) < (n : Int) → W pr_ l ev_ (headSpec wsX0_shareFines ({ frames := 5, cells := 0, slots := 0, locals := 320 })).room s m ([.ref a0] : List Value).toArray below meth cd_ H locs 0 0 (MQ below (va_Qv (fun (I1 : tI) => h_I z I1 ∧ h_F [(108, 999), (106, 999), (1, 7)] z I0 I1 ∧ True) (fun (I1 : tI) t => h_B E A z I1 L0 t) A) ([.ref a0] : List Value).toArray s 0 0 A) (F0 m 114 ls []) := by
            intro n
            induction n with
            | zero => intro I26 H locs ls v25 g hI hF hl jv25 hn; exact absurd hn (by omega)
            | succ n ih114 =>
              intro I26 H locs ls v25 g hI hF hl jv25 hn
              refine lv_iload hx hb dX0_shareFines_114 (lv_at hl 4 rfl) ?_
              refine lv_bipush (v := 8) hx hb dX0_shareFines_116 (by decide) ?_
              refine lv_icmp_ge (tgt := 148) hx hb dX0_shareFines_118 (by decide) (fun c27 => ?_) (fun c27 => ?_)
              · have ic27 := (xi_le c27 (by decide) rfl : 8 ≤ v25.toInt)
                refine lv_aload_n hx hb dX0_shareFines_148 rfl (lv_at hl 0 rfl) ?_
                refine lv_dup hx hb dX0_shareFines_149 rfl ?_
                refine h_get (v := .int (I26 a0 7)) hx hb hts iX0 hown g t_a0 (by decide) so_1 rfl 7 (by decide) (hts (.fieldLink RX0 128 "CapLeague$Books" "leftOver" "I") (by decide +kernel)) rfl dX0_shareFines_150 rfl ?_
                refine lv_topi (fun v28 ev28 => ?_)
                have jv28 := hI.rd a0 7 t_a0 ev28 (rfl : h_bd 1 7 = ((-2147483648), 2147483647))
                refine lv_iload_n hx hb dX0_shareFines_153 rfl (lv_at hl 1 rfl) ?_
                refine lv_iload_n hx hb dX0_shareFines_154 rfl (lv_at hl 3 rfl) ?_
                refine lv_iload_n hx hb dX0_shareFines_155 rfl (lv_at hl 2 rfl) ?_
                refine lv_imul hx hb dX0_shareFines_156 ?_
                refine lv_topi (fun v29 ev29 => ?_)
                have jv29 : -2147483648 ≤ v29.toInt ∧ v29.toInt ≤ 2147483647 := ⟨xi_lo _, Int.le_of_lt_add_one (xi_hi _)⟩
                refine lv_isub hx hb dX0_shareFines_157 ?_
                refine lv_topi (fun v30 ev30 => ?_)
                have jv30 : -2147483648 ≤ v30.toInt ∧ v30.toInt ≤ 2147483647 := ⟨xi_lo _, Int.le_of_lt_add_one (xi_hi _)⟩
                refine lv_iadd hx hb dX0_shareFines_158 ?_
                refine lv_topi (fun v31 ev31 => ?_)
                have jv31 : -2147483648 ≤ v31.toInt ∧ v31.toInt ≤ 2147483647 := ⟨xi_lo _, Int.le_of_lt_add_one (xi_hi _)⟩
                refine h_putI (ty := .int) (v := v31) hx hb hts iX0 tyX0 tyX0_ok nmX0 hown g t_a0 (by decide) so_1 rfl 7 (by decide) rfl (hts (.fieldLink RX0 128 "CapLeague$Books" "leftOver" "I") (by decide +kernel)) rfl rfl (by decide +kernel) rfl rfl dX0_shareFines_159 (fun I32 H locs eI32 g => ?_)
                have hI := hI.wr eI32 t_a0 (rfl : h_bd 1 7 = ((-2147483648), 2147483647)) (xi_lo _) (Int.le_of_lt_add_one (xi_hi _))
                have hF := hF.wr eI32 t_a0 rfl
                have hS := g.2.1
                exact W.vret hx hb hr (fun t ht hW => ⟨⟨I32, rfl, ⟨hI, hF, trivial⟩, h_ret g ht⟩, hS.F ht⟩) hS.2.2 dX0_shareFines_162
              · have ic27 := (xi_nle c27 (by decide) rfl : v25.toInt < 8)
                refine lv_aload_n hx hb dX0_shareFines_121 rfl (lv_at hl 0 rfl) ?_
                obtain ⟨b33, rb33, tb33⟩ := hR.at a0 8 t_a0 (rfl : h_rs 1 8 = some (108, false)) (by decide)
                refine h_get (v := .ref b33) hx hb hts iX0 hown g t_a0 (by decide) so_1 rfl 8 (by decide) (hts (.fieldLink RX0 30 "CapLeague$Books" "aboveCap" "[I") (by decide +kernel)) rfl dX0_shareFines_122 (by show va_rf (z.R a0 8) = _; rw [rb33]; rfl) ?_
                refine lv_iload hx hb dX0_shareFines_125 (lv_at hl 4 rfl) ?_
                refine h_ald hx hb g tb33 (by decide) so_108 (xi_in (by omega) (by omega)) dX0_shareFines_127 ?_
                refine lv_topi (fun v34 ev34 => ?_)
                have jv34 := hI.rd b33 v25.toNatClampNeg tb33 ev34 (rfl : h_bd 108 _ = ((-2147483648), 2147483647))
                refine lv_if_ne (tgt := 142) hx hb dX0_shareFines_128 (by decide) (fun c35 => ?_) (fun c35 => ?_)
                · have ic35 := (xi_ne c35 rfl (by decide) : v34.toInt ≠ 0)
                  obtain ⟨v36, ev36⟩ : ∃ z : Int32, z = v25 + 1 := ⟨_, rfl⟩
                  have jv36 : v36.toInt = v25.toInt + 1 := xi_add ev36 rfl (by decide) (by omega) (by omega)
                  refine lv_iinc (v := v36) (lv' := [(4, .int v36), (0, .ref a0), (1, .int v1), (2, .int v2), (3, .int v24)]) hx hb dX0_shareFines_142 hl (k := 4) rfl (by rw [ev36]; rfl) (by decide) rfl (fun ls hl => ?_)
                  refine lv_goto (tgt := 114) hx hb dX0_shareFines_145 (by decide) ?_
                  exact ih114 I26 _ _ _ v36 g hI hF (lv_sub hl [1, 2, 3, 4, 0] rfl) (by omega) (by omega)
                · have ic35 := (xi_eq c35 rfl (by decide) : v34.toInt = 0)
                  refine lv_aload_n hx hb dX0_shareFines_131 rfl (lv_at hl 0 rfl) ?_
                  obtain ⟨b37, rb37, tb37⟩ := hR.at a0 6 t_a0 (rfl : h_rs 1 6 = some (106, false)) (by decide)
                  refine h_get (v := .ref b37) hx hb hts iX0 hown g t_a0 (by decide) so_1 rfl 6 (by decide) (hts (.fieldLink RX0 26 "CapLeague$Books" "fines" "[I") (by decide +kernel)) rfl dX0_shareFines_132 (by show va_rf (z.R a0 6) = _; rw [rb37]; rfl) ?_
                  refine lv_iload hx hb dX0_shareFines_135 (lv_at hl 4 rfl) ?_
                  refine lv_dup2_11 hx hb dX0_shareFines_137 rfl rfl ?_
                  refine h_ald hx hb g tb37 (by decide) so_106 (xi_in (by omega) (by omega)) dX0_shareFines_138 ?_
                  refine lv_topi (fun v38 ev38 => ?_)
                  have jv38 := hI.rd b37 v25.toNatClampNeg tb37 ev38 (rfl : h_bd 106 _ = ((-2147483648), 2147483647))
                  refine lv_iload_n hx hb dX0_shareFines_139 rfl (lv_at hl 3 rfl) ?_
                  refine lv_isub hx hb dX0_shareFines_140 ?_
                  refine lv_topi (fun v39 ev39 => ?_)
                  have jv39 : -2147483648 ≤ v39.toInt ∧ v39.toInt ≤ 2147483647 := ⟨xi_lo _, Int.le_of_lt_add_one (xi_hi _)⟩
                  refine h_ast hx hb g tb37 (by decide) so_106 (xi_in (by omega) (by omega)) dX0_shareFines_141 (fun I40 H locs eI40 g => ?_)
                  have hI := hI.wr eI40 tb37 (rfl : h_bd 106 _ = ((-2147483648), 2147483647)) (xi_lo _) (Int.le_of_lt_add_one (xi_hi _))
                  have hF := hF.wr eI40 tb37 rfl
                  obtain ⟨v41, ev41⟩ : ∃ z : Int32, z = v25 + 1 := ⟨_, rfl⟩
                  have jv41 : v41.toInt = v25.toInt + 1 := xi_add ev41 rfl (by decide) (by omega) (by omega)
                  refine lv_iinc (v := v41) (lv' := [(4, .int v41), (0, .ref a0), (1, .int v1), (2, .int v2), (3, .int v24)]) hx hb dX0_shareFines_142 hl (k := 4) rfl (by rw [ev41]; rfl) (by decide) rfl (fun ls hl => ?_)
                  refine lv_goto (tgt := 114) hx hb dX0_shareFines_145 (by decide) ?_
                  exact ih114 I40 _ _ _ v41 g hI hF (lv_sub hl [1, 2, 3, 4, 0] rfl) (by omega) (by omega)
          exact loop114_2 _ I4 _ _ _ (0) g hI hF (lv_sub hl [2, 3, 4, 1, 0] rfl) ⟨by decide, by decide⟩ (show (8 - (0 : Int)) < (((8 - (0 : Int)).toNat + 1 : Nat) : Int) by omega)
      · have ic5 := (xi_nle c5 (by decide) rfl : v3.toInt < 8)
        refine lv_aload_n hx hb dX0_shareFines_12 rfl (lv_at hl 0 rfl) ?_
        obtain ⟨b42, rb42, tb42⟩ := hR.at a0 8 t_a0 (rfl : h_rs 1 8 = some (108, false)) (by decide)
        refine h_get (v := .ref b42) hx hb hts iX0 hown g t_a0 (by decide) so_1 rfl 8 (by decide) (hts (.fieldLink RX0 30 "CapLeague$Books" "aboveCap" "[I") (by decide +kernel)) rfl dX0_shareFines_13 (by show va_rf (z.R a0 8) = _; rw [rb42]; rfl) ?_
        refine lv_iload_n hx hb dX0_shareFines_16 rfl (lv_at hl 3 rfl) ?_
        refine lv_iconst (v := 0) hx hb dX0_shareFines_17 (by decide) ?_
        refine lv_aload_n hx hb dX0_shareFines_18 rfl (lv_at hl 0 rfl) ?_
        refine lv_iload_n hx hb dX0_shareFines_19 rfl (lv_at hl 3 rfl) ?_
        refine lv_aload_n hx hb dX0_shareFines_20 rfl (lv_at hl 0 rfl) ?_
        refine h_get (v := .int (I4 a0 3)) hx hb hts iX0 hown g t_a0 (by decide) so_1 rfl 3 (by decide) (hts (.fieldLink RX0 37 "CapLeague$Books" "clock" "I") (by decide +kernel)) rfl dX0_shareFines_21 rfl ?_
        refine lv_topi (fun v43 ev43 => ?_)
        have jv43 := hI.rd a0 3 t_a0 ev43 (rfl : h_bd 1 3 = (0, 9))
        refine vp_callSi (W.runV (As := [.int v3, .int v43]) (rest := [.int 0, .int v3, .ref b42]) ⟨hx, hb, hml, hown, hts⟩ (tX0_counts l E X A z I4 L0 a0 t_a0 v3 (v3.toInt) rfl v43 (v43.toInt) rfl) (cwV 2 hts gX0_shareFines_X0_counts rfl rfl rfl (by decide +kernel) ⟨Nat.le_of_ble_eq_true rfl, Nat.le_of_ble_eq_true rfl⟩) ⟨h_blind _ _ _ _ _ _ _, h_recv g t_a0 (by decide) so_1 (q := (RX0, TX0, 9)) rfl, h_pre _ hE hk hX hA hI hR g⟩ rfl rfl hl.1 rfl (lv_room (Nat.le_of_ble_eq_true rfl)) dX0_shareFines_24 ⟨Nat.le_of_ble_eq_true rfl, Nat.le_of_ble_eq_true rfl⟩) (fun rh44 h44 => ?_)
        have jrh44 : -2147483648 ≤ rh44.toInt ∧ rh44.toInt ≤ 2147483647 := ⟨xi_lo _, Int.le_of_lt_add_one (xi_hi _)⟩
        refine lv_aload_n hx hb dX0_shareFines_27 rfl (lv_at hl 0 rfl) ?_
        refine va_csq (W.runV (As := []) (rest := [.int rh44, .int 0, .int v3, .ref b42]) ⟨hx, hb, hml, hown, hts⟩ (tX0_lawsNow l E X A z I4 L0 a0 t_a0) (cwV 0 hts gX0_shareFines_X0_lawsNow rfl rfl rfl (by decide +kernel) ⟨Nat.le_of_ble_eq_true rfl, Nat.le_of_ble_eq_true rfl⟩) ⟨h_blind _ _ _ _ _ _ _, h_recv g t_a0 (by decide) so_1 (q := (RX0, TX0, 9)) rfl, h_pre _ hE hk hX hA hI hR g⟩ rfl rfl hl.1 rfl (lv_room (Nat.le_of_ble_eq_true rfl)) dX0_shareFines_28 ⟨Nat.le_of_ble_eq_true rfl, Nat.le_of_ble_eq_true rfl⟩) (fun rh45 h45 => ?_)
        obtain ⟨rh45, rfl, trh45⟩ := h45
        refine xw_v (v := .ref rh45) rfl ?_
        refine lv_iconst (v := 0) hx hb dX0_shareFines_31 (by decide) ?_
        refine vp_callSi (W.runV (As := [.int 0]) (rest := [.int rh44, .int 0, .int v3, .ref b42]) ⟨hx, hb, hml, hown, hts⟩ (tX5_number l E X A z I4 L0 rh45 trh45 0 (0) (by decide)) (cwV 1 hts gX0_shareFines_X5_number rfl rfl rfl (by decide +kernel) ⟨Nat.le_of_ble_eq_true rfl, Nat.le_of_ble_eq_true rfl⟩) ⟨h_blind _ _ _ _ _ _ _, h_recv g trh45 (by decide) so_6 (q := (RX5, TX5, 3)) rfl, h_pre _ hE hk hX hA hI hR g⟩ rfl rfl hl.1 rfl (lv_room (Nat.le_of_ble_eq_true rfl)) dX0_shareFines_32 ⟨Nat.le_of_ble_eq_true rfl, Nat.le_of_ble_eq_true rfl⟩) (fun rh46 h46 => ?_)
        have jrh46 : -2147483648 ≤ rh46.toInt ∧ rh46.toInt ≤ 2147483647 := ⟨xi_lo _, Int.le_of_lt_add_one (xi_hi _)⟩
        refine lv_isub hx hb dX0_shareFines_35 ?_
        refine lv_topi (fun v47 ev47 => ?_)
        have jv47 : -2147483648 ≤ v47.toInt ∧ v47.toInt ≤ 2147483647 := ⟨xi_lo _, Int.le_of_lt_add_one (xi_hi _)⟩
        refine va_mmax hx hb (hml.trans hl.1.symm) hown (hts (.methodLink RX0 123 Lib.Math.max.name) (by decide +kernel)) (hts (.static Lib.Math.max.name) (by decide +kernel)) (hts (.initialized "java/lang/Math") (by decide +kernel)) (hts (.code Lib.Math.max.name Lib.Math.max.code 2 (some .int)) (by decide +kernel)) (Nat.le_of_ble_eq_true rfl) (Nat.le_of_ble_eq_true rfl) (Nat.le_of_ble_eq_true rfl) (Nat.le_of_ble_eq_true rfl) dX0_shareFines_36 ?_
        refine lv_topi (fun v48 ev48 => ?_)
        have jv48 := h_max (a := 0) (b := v47.toInt) ev48 (by decide) rfl
        refine h_ast hx hb g tb42 (by decide) so_108 (xi_in (by omega) (by omega)) dX0_shareFines_39 (fun I49 H locs eI49 g => ?_)
        have hI := hI.wr eI49 tb42 (rfl : h_bd 108 _ = ((-2147483648), 2147483647)) (xi_lo _) (Int.le_of_lt_add_one (xi_hi _))
        have hF := hF.wr eI49 tb42 rfl
        refine lv_aload_n hx hb dX0_shareFines_40 rfl (lv_at hl 0 rfl) ?_
        refine h_get (v := .ref b42) hx hb hts iX0 hown g t_a0 (by decide) so_1 rfl 8 (by decide) (hts (.fieldLink RX0 30 "CapLeague$Books" "aboveCap" "[I") (by decide +kernel)) rfl dX0_shareFines_41 (by show va_rf (z.R a0 8) = _; rw [rb42]; rfl) ?_
        refine lv_iload_n hx hb dX0_shareFines_44 rfl (lv_at hl 3 rfl) ?_
        refine h_ald hx hb g tb42 (by decide) so_108 (xi_in (by omega) (by omega)) dX0_shareFines_45 ?_
        refine xw_i (h_n0 eI49) ?_
        refine lv_aload_n hx hb dX0_shareFines_46 rfl (lv_at hl 0 rfl) ?_
        refine va_csq (W.runV (As := []) (rest := [.int v48]) ⟨hx, hb, hml, hown, hts⟩ (tX0_lawsNow l E X A z I49 L0 a0 t_a0) (cwV 0 hts gX0_shareFines_X0_lawsNow rfl rfl rfl (by decide +kernel) ⟨Nat.le_of_ble_eq_true rfl, Nat.le_of_ble_eq_true rfl⟩) ⟨h_blind _ _ _ _ _ _ _, h_recv g t_a0 (by decide) so_1 (q := (RX0, TX0, 9)) rfl, h_pre _ hE hk hX hA hI hR g⟩ rfl rfl hl.1 rfl (lv_room (Nat.le_of_ble_eq_true rfl)) dX0_shareFines_47 ⟨Nat.le_of_ble_eq_true rfl, Nat.le_of_ble_eq_true rfl⟩) (fun rh50 h50 => ?_)
        obtain ⟨rh50, rfl, trh50⟩ := h50
        refine xw_v (v := .ref rh50) rfl ?_
        refine lv_bipush (v := 7) hx hb dX0_shareFines_50 (by decide) ?_
        refine vp_callSi (W.runV (As := [.int 7]) (rest := [.int v48]) ⟨hx, hb, hml, hown, hts⟩ (tX5_number l E X A z I49 L0 rh50 trh50 7 (7) (by decide)) (cwV 1 hts gX0_shareFines_X5_number rfl rfl rfl (by decide +kernel) ⟨Nat.le_of_ble_eq_true rfl, Nat.le_of_ble_eq_true rfl⟩) ⟨h_blind _ _ _ _ _ _ _, h_recv g trh50 (by decide) so_6 (q := (RX5, TX5, 3)) rfl, h_pre _ hE hk hX hA hI hR g⟩ rfl rfl hl.1 rfl (lv_room (Nat.le_of_ble_eq_true rfl)) dX0_shareFines_52 ⟨Nat.le_of_ble_eq_true rfl, Nat.le_of_ble_eq_true rfl⟩) (fun rh51 h51 => ?_)
        have jrh51 : -2147483648 ≤ rh51.toInt ∧ rh51.toInt ≤ 2147483647 := ⟨xi_lo _, Int.le_of_lt_add_one (xi_hi _)⟩
        refine vp_callSi (xr_of (va_runSN (As := [.int v48, .int rh51]) (rest := []) ⟨hx, hb, hml, hown, hts⟩ (tX11_hundredths l E X A z I49 L0 v48 (v48.toInt) rfl rh51 (rh51.toInt) rfl) (⟨va_cnB 2 hts gX0_shareFines_X11_hundredths_n75 rfl rfl rfl (hE.link 9 rfl) (hts (.initialized RX11) (by decide +kernel)) (by decide +kernel) ⟨Nat.le_of_ble_eq_true rfl, Nat.le_of_ble_eq_true rfl⟩, hts (.static yX11_hundredths) (by decide +kernel), trivial⟩) ⟨h_blind _ _ _ _ _ _ _, h_pre _ hE hk hX hA hI hR g⟩ rfl rfl hl.1 rfl (lv_room (Nat.le_of_ble_eq_true rfl)) dX0_shareFines_55 ⟨Nat.le_of_ble_eq_true rfl, Nat.le_of_ble_eq_true rfl⟩)) (fun rh52 h52 => ?_)
        have jrh52 : -2147483648 ≤ rh52.toInt ∧ rh52.toInt ≤ 2147483647 := ⟨xi_lo _, Int.le_of_lt_add_one (xi_hi _)⟩
        refine lv_istore (lv' := [(4, .int rh52), (0, .ref a0), (1, .int v1), (2, .int v2), (3, .int v3)]) hx hb dX0_shareFines_58 hl (by decide) rfl (fun ls hl => ?_)
        refine lv_aload_n hx hb dX0_shareFines_60 rfl (lv_at hl 1 rfl) ?_
        obtain ⟨b53, rb53, tb53⟩ := hR.at a0 6 t_a0 (rfl : h_rs 1 6 = some (106, false)) (by decide)
        refine h_get (v := .ref b53) hx hb hts iX0 hown g t_a0 (by decide) so_1 rfl 6 (by decide) (hts (.fieldLink RX0 26 "CapLeague$Books" "fines" "[I") (by decide +kernel)) rfl dX0_shareFines_61 (by show va_rf (z.R a0 6) = _; rw [rb53]; rfl) ?_
        refine lv_iload_n hx hb dX0_shareFines_64 rfl (lv_at hl 4 rfl) ?_
        refine lv_dup2_11 hx hb dX0_shareFines_65 rfl rfl ?_
        refine h_ald hx hb g tb53 (by decide) so_106 (xi_in (by omega) (by omega)) dX0_shareFines_66 ?_
        refine lv_topi (fun v54 ev54 => ?_)
        have jv54 := hI.rd b53 v3.toNatClampNeg tb53 ev54 (rfl : h_bd 106 _ = ((-2147483648), 2147483647))
        refine lv_iload hx hb dX0_shareFines_67 (lv_at hl 0 rfl) ?_
        refine lv_iadd hx hb dX0_shareFines_69 ?_
        refine lv_topi (fun v55 ev55 => ?_)
        have jv55 : -2147483648 ≤ v55.toInt ∧ v55.toInt ≤ 2147483647 := ⟨xi_lo _, Int.le_of_lt_add_one (xi_hi _)⟩
        refine h_ast hx hb g tb53 (by decide) so_106 (xi_in (by omega) (by omega)) dX0_shareFines_70 (fun I56 H locs eI56 g => ?_)
        have hI := hI.wr eI56 tb53 (rfl : h_bd 106 _ = ((-2147483648), 2147483647)) (xi_lo _) (Int.le_of_lt_add_one (xi_hi _))
        have hF := hF.wr eI56 tb53 rfl
        refine lv_iload_n hx hb dX0_shareFines_71 rfl (lv_at hl 2 rfl) ?_
        refine lv_iload hx hb dX0_shareFines_72 (lv_at hl 0 rfl) ?_
        refine lv_iadd hx hb dX0_shareFines_74 ?_
        refine lv_topi (fun v57 ev57 => ?_)
        have jv57 : -2147483648 ≤ v57.toInt ∧ v57.toInt ≤ 2147483647 := ⟨xi_lo _, Int.le_of_lt_add_one (xi_hi _)⟩
        refine lv_istore_n (lv' := [(1, .int v57), (4, .int rh52), (0, .ref a0), (2, .int v2), (3, .int v3)]) hx hb dX0_shareFines_75 rfl hl (by decide) rfl (fun ls hl => ?_)
        refine lv_iload_n hx hb dX0_shareFines_76 rfl (lv_at hl 3 rfl) ?_
        refine lv_aload_n hx hb dX0_shareFines_77 rfl (lv_at hl 2 rfl) ?_
        refine h_get (v := .ref b42) hx hb hts iX0 hown g t_a0 (by decide) so_1 rfl 8 (by decide) (hts (.fieldLink RX0 30 "CapLeague$Books" "aboveCap" "[I") (by decide +kernel)) rfl dX0_shareFines_78 (by show va_rf (z.R a0 8) = _; rw [rb42]; rfl) ?_
        refine lv_iload_n hx hb dX0_shareFines_81 rfl (lv_at hl 4 rfl) ?_
        refine h_ald hx hb g tb42 (by decide) so_108 (xi_in (by omega) (by omega)) dX0_shareFines_82 ?_
        refine xw_i ((h_n1 eI56 tb42 tb53 (by decide)).trans (h_n0 eI49)) ?_
        refine lv_if_ne (tgt := 90) hx hb dX0_shareFines_83 (by decide) (fun c58 => ?_) (fun c58 => ?_)
        · have ic58 := (xi_ne c58 rfl (by decide) : v48.toInt ≠ 0)
          refine lv_iconst (v := 0) hx hb dX0_shareFines_90 (by decide) ?_
          refine lv_iadd hx hb dX0_shareFines_91 ?_
          refine lv_topi (fun v59 ev59 => ?_)
          have jv59 : v59.toInt = v2.toInt + 0 := xi_add ev59 rfl (by decide) (by omega) (by omega)
          refine lv_istore_n (lv' := [(2, .int v59), (1, .int v57), (4, .int rh52), (0, .ref a0), (3, .int v3)]) hx hb dX0_shareFines_92 rfl hl (by decide) rfl (fun ls hl => ?_)
          obtain ⟨v60, ev60⟩ : ∃ z : Int32, z = v3 + 1 := ⟨_, rfl⟩
          have jv60 : v60.toInt = v3.toInt + 1 := xi_add ev60 rfl (by decide) (by omega) (by omega)
          refine lv_iinc (v := v60) (lv' := [(3, .int v60), (2, .int v59), (1, .int v57), (4, .int rh52), (0, .ref a0)]) hx hb dX0_shareFines_93 hl (k := 4) rfl (by rw [ev60]; rfl) (by decide) rfl (fun ls hl => ?_)
          refine lv_goto (tgt := 6) hx hb dX0_shareFines_96 (by decide) ?_
          exact ih6 I56 _ _ _ v57 v59 v60 g hI hF (lv_sub hl [4, 2, 1, 0] rfl) (by omega) (by omega) (by omega) (by omega)
        · have ic58 := (xi_eq c58 rfl (by decide) : v48.toInt = 0)
          refine lv_iconst (v := 1) hx hb dX0_shareFines_86 (by decide) ?_
          refine lv_goto (tgt := 91) hx hb dX0_shareFines_87 (by decide) ?_
          refine lv_iadd hx hb dX0_shareFines_91 ?_
          refine lv_topi (fun v61 ev61 => ?_)
          have jv61 : -2147483648 ≤ v61.toInt ∧ v61.toInt ≤ 2147483647 := ⟨xi_lo _, Int.le_of_lt_add_one (xi_hi _)⟩
          refine lv_istore_n (lv' := [(2, .int v61), (1, .int v57), (4, .int rh52), (0, .ref a0), (3, .int v3)]) hx hb dX0_shareFines_92 rfl hl (by decide) rfl (fun ls hl => ?_)
          obtain ⟨v62, ev62⟩ : ∃ z : Int32, z = v3 + 1 := ⟨_, rfl⟩
          have jv62 : v62.toInt = v3.toInt + 1 := xi_add ev62 rfl (by decide) (by omega) (by omega)
          refine lv_iinc (v := v62) (lv' := [(3, .int v62), (2, .int v61), (1, .int v57), (4, .int rh52), (0, .ref a0)]) hx hb dX0_shareFines_93 hl (k := 4) rfl (by rw [ev62]; rfl) (by decide) rfl (fun ls hl => ?_)
          refine lv_goto (tgt := 6) hx hb dX0_shareFines_96 (by decide) ?_
          exact ih6 I56 _ _ _ v57 v61 v62 g hI hF (lv_sub hl [4, 2, 1, 0] rfl) (by omega) (by omega) (by omega) (by omega)
  exact loop6_0 _ I0 _ _ _ (0) (0) (0) g hI hF (lv_sub hl [3, 2, 1, 0] rfl) ⟨by decide, by decide⟩ ⟨by decide, by decide⟩ ⟨by decide, by decide⟩ (show (8 - (0 : Int)) < (((8 - (0 : Int)).toNat + 1 : Nat) : Int) by omega)
set_option maxHeartbeats 4000000 in
set_option maxRecDepth 100000 in
theorem tX0_closeYear (l : Launch) (E : tE) (X : tX) (A : Nat → Prop) (z : tZ) (I0 : tI) (L0 : tL) (a0 : Nat) (t_a0 : z.ty a0 = 1) (hc : (I0 a0 3).toInt ≤ 8) : Met l yX0_closeYear wsX0_closeYear ({ frames := 6, cells := 0, slots := 0, locals := 384 }) (va_Pc [.ref a0] (h_P E X A z I0 L0)) (va_Qv (fun (I1 : tI) => h_I z I1 ∧ h_F [(108, 999), (106, 999), (1, 7), (1, 3), (105, 999), (7, 7), (7, 0), (7, 1), (7, 2), (7, 3), (7, 4), (7, 5), (7, 6)] z I0 I1 ∧ True) (fun (I1 : tI) t => h_B E A z I1 L0 t) A) 0 0 A := by
  refine Met.ofW (cc := cX0_closeYear) (maxL := 3) (ret := none) (by decide) rfl ?_
  intro pr_ ev_ s m args below meth cd_ s₁ B hml hv
  obtain ⟨rfl, hE, hk, hX, hA, hK, hI, hR, hB0⟩ := hv
  have g : h_G h_so h_fk E A z I0 L0 s s.heap s.heap [] := ⟨hK, va_S.rf, hB0⟩
  have hF : h_F [(108, 999), (106, 999), (1, 7), (1, 3), (105, 999), (7, 7), (7, 0), (7, 1), (7, 2), (7, 3), (7, 4), (7, 5), (7, 6)] z I0 I0 := h_F.rf
  have hx := B.exec
  have hb := B.bytes
  have hr := B.returns
  have hts := atoms_spec (ws := wsX0_closeYear) B.pre
  have hown : s.vm.findClass RX0 = some m.cls := findClass_of_methodNamed B.named
  have hlocks := B.notSynchronized
  have iX0 : ∀ w ∈ u_ws RX0 TX0 9, w ∈ wsX0_closeYear := by decide +kernel
  have iX6 : ∀ w ∈ u_ws RX6 TX6 9, w ∈ wsX0_closeYear := by decide +kernel
  have hl := lv_entry ([.ref a0]) (n := 3) (Nat.le_of_ble_eq_true rfl)
  rw [lg_entry_eq]
  generalize (lg_sl ([.ref a0]) ++ List.replicate (3 - (lg_sl ([.ref a0])).length) Slot.unset).toArray = ls at hl ⊢
  have hl : lv_has ls 3 [(0, .ref a0)] := hl
  obtain ⟨vc, evc⟩ : ∃ v : Int32, v = I0 a0 3 := ⟨_, rfl⟩
  rw [← evc] at hc
  have jvc := hI.rd a0 3 t_a0 evc (rfl : h_bd 1 3 = (0, 9))
  refine lv_aload_n hx hb dX0_closeYear_0 rfl (lv_at hl 0 rfl) ?_
  refine va_callv (va_runV (As := []) (rest := []) ⟨hx, hb, hml, hown, hts⟩ (tX0_shareFines l E X A z I0 L0 a0 t_a0) (cwV 0 hts gX0_closeYear_X0_shareFines rfl rfl rfl (by decide +kernel) ⟨Nat.le_of_ble_eq_true rfl, Nat.le_of_ble_eq_true rfl⟩) ⟨h_blind _ _ _ _ _ _ _, h_recv g t_a0 (by decide) so_1 (q := (RX0, TX0, 9)) rfl, h_pre _ hE hk hX hA hI hR g⟩ rfl rfl hl.1 rfl (lv_room (Nat.le_of_ble_eq_true rfl)) dX0_closeYear_1 ⟨Nat.le_of_ble_eq_true rfl, Nat.le_of_ble_eq_true rfl⟩) g.2.1 (fun q _ h => h) (fun q h => h) (fun I2 t H1 locs ht hvm h1 hB hz1 hk1 hS => ?_)
  obtain ⟨hI, fh1, h1⟩ := h1
  replace g := h_after g hB ht hS
  generalize H1 = H at g
  clear hB hk1 hz1 ht hvm hS
  have hF := hF.call fh1 rfl
  refine lv_aload_n hx hb dX0_closeYear_4 rfl (lv_at hl 0 rfl) ?_
  refine lv_dup hx hb dX0_closeYear_5 rfl ?_
  refine h_get (v := .int vc) hx hb hts iX0 hown g t_a0 (by decide) so_1 rfl 3 (by decide) (hts (.fieldLink RX0 37 "CapLeague$Books" "clock" "I") (by decide +kernel)) rfl dX0_closeYear_6 (congrArg Value.int ((h_F.at fh1 t_a0 rfl).trans (evc.symm))) ?_
  refine lv_iconst (v := 1) hx hb dX0_closeYear_9 (by decide) ?_
  refine lv_iadd hx hb dX0_closeYear_10 ?_
  refine lv_topi (fun v3 ev3 => ?_)
  have jv3 : v3.toInt = vc.toInt + 1 := xi_add ev3 rfl (by decide) (by omega) (by omega)
  refine h_putI (ty := .int) (v := v3) hx hb hts iX0 tyX0 tyX0_ok nmX0 hown g t_a0 (by decide) so_1 rfl 3 (by decide) rfl (hts (.fieldLink RX0 37 "CapLeague$Books" "clock" "I") (by decide +kernel)) rfl rfl (by decide +kernel) rfl rfl dX0_closeYear_11 (fun I4 H locs eI4 g => ?_)
  have hI := hI.wr eI4 t_a0 (rfl : h_bd 1 3 = (0, 9)) (by omega) (by omega)
  have hF := hF.wr eI4 t_a0 rfl
  refine lv_iconst (v := 0) hx hb dX0_closeYear_14 (by decide) ?_
  refine lv_istore_n (lv' := [(1, .int 0), (0, .ref a0)]) hx hb dX0_closeYear_15 rfl hl (by decide) rfl (fun ls hl => ?_)
  have loop16_0 : ∀ (n : Nat) (I6 : tI) (H : Heap) (locs : List Loc) (ls : Array Slot) (v5 : Int32), h_G h_so h_fk E A z I6 L0 s s.heap H locs → h_I z I6 → h_F [(108, 999), (106, 999), (1, 7), (1, 3), (105, 999), (7, 7), (7, 0), (7, 1), (7, 2), (7, 3), (7, 4), (7, 5), (7, 6)] z I0 I6 → lv_has ls 3 [(0, .ref a0), (1, .int v5)] → (0 ≤ v5.toInt ∧ v5.toInt ≤ 8) → (8 - v5.toInt) < (n : Int) → W pr_ l ev_ (headSpec wsX0_closeYear ({ frames := 6, cells := 0, slots := 0, locals := 384 })).room s m ([.ref a0] : List Value).toArray below meth cd_ H locs 0 0 (MQ below (va_Qv (fun (I1 : tI) => h_I z I1 ∧ h_F [(108, 999), (106, 999), (1, 7), (1, 3), (105, 999), (7, 7), (7, 0), (7, 1), (7, 2), (7, 3), (7, 4), (7, 5), (7, 6)] z I0 I1 ∧ True) (fun (I1 : tI) t => h_B E A z I1 L0 t) A) ([.ref a0] : List Value).toArray s 0 0 A) (F0 m 16 ls []) := by
    intro n
    induction n with
    | zero => intro I6 H locs ls v5 g hI hF hl jv5 hn; exact absurd hn (by omega)
    | succ n ih16 =>
      intro I6 H locs ls v5 g hI hF hl jv5 hn
      refine lv_iload_n hx hb dX0_closeYear_16 rfl (lv_at hl 1 rfl) ?_
      refine lv_bipush (v := 8) hx hb dX0_closeYear_17 (by decide) ?_
      refine lv_icmp_ge (tgt := 35) hx hb dX0_closeYear_19 (by decide) (fun c7 => ?_) (fun c7 => ?_)
      · have ic7 := (xi_le c7 (by decide) rfl : 8 ≤ v5.toInt)
        refine lv_iconst (v := 0) hx hb dX0_closeYear_35 (by decide) ?_
        refine lv_istore_n (lv' := [(1, .int 0), (0, .ref a0)]) hx hb dX0_closeYear_36 rfl hl (by decide) rfl (fun ls hl => ?_)
        have loop37_1 : ∀ (n : Nat) (I9 : tI) (H : Heap) (locs : List Loc) (ls : Array Slot) (v8 : Int32), h_G h_so h_fk E A z I9 L0 s s.heap H locs → h_I z I9 → h_F [(108, 999), (106, 999), (1, 7), (1, 3), (105, 999), (7, 7), (7, 0), (7, 1), (7, 2), (7, 3), (7, 4), (7, 5), (7, 6)] z I0 I9 → lv_has ls 3 [(0, .ref a0), (1, .int v8)] → (0 ≤ v8.toInt ∧ v8.toInt ≤ 60) → (60 - v8.toInt) < (n : Int) → W pr_ l ev_ (headSpec wsX0_closeYear ({ frames := 6, cells := 0, slots := 0, locals := 384 })).room s m ([.ref a0] : List Value).toArray below meth cd_ H locs 0 0 (MQ below (va_Qv (fun (I1 : tI) => h_I z I1 ∧ h_F [(108, 999), (106, 999), (1, 7), (1, 3), (105, 999), (7, 7), (7, 0), (7, 1), (7, 2), (7, 3), (7, 4), (7, 5), (7, 6)] z I0 I1 ∧ True) (fun (I1 : tI) t => h_B E A z I1 L0 t) A) ([.ref a0] : List Value).toArray s 0 0 A) (F0 m 37 ls []) := by
          intro n
          induction n with
          | zero => intro I9 H locs ls v8 g hI hF hl jv8 hn; exact absurd hn (by omega)
          | succ n ih37 =>
            intro I9 H locs ls v8 g hI hF hl jv8 hn
            refine lv_iload_n hx hb dX0_closeYear_37 rfl (lv_at hl 1 rfl) ?_
            refine lv_aload_n hx hb dX0_closeYear_38 rfl (lv_at hl 0 rfl) ?_
            refine h_get (v := .int (I9 a0 2)) hx hb hts iX0 hown g t_a0 (by decide) so_1 rfl 2 (by decide) (hts (.fieldLink RX0 51 "CapLeague$Books" "size" "I") (by decide +kernel)) rfl dX0_closeYear_39 rfl ?_
            refine lv_topi (fun v10 ev10 => ?_)
            have jv10 := hI.rd a0 2 t_a0 ev10 (rfl : h_bd 1 2 = (0, 60))
            refine lv_icmp_ge (tgt := 71) hx hb dX0_closeYear_42 (by decide) (fun c11 => ?_) (fun c11 => ?_)
            · have ic11 := (xi_le c11 rfl rfl : v10.toInt ≤ v8.toInt)
              have hS := g.2.1
              exact W.vret hx hb hr (fun t ht hW => ⟨⟨I9, rfl, ⟨hI, hF, trivial⟩, h_ret g ht⟩, hS.F ht⟩) hS.2.2 dX0_closeYear_71
            · have ic11 := (xi_nle c11 rfl rfl : v8.toInt < v10.toInt)
              refine lv_aload_n hx hb dX0_closeYear_45 rfl (lv_at hl 0 rfl) ?_
              refine lv_iload_n hx hb dX0_closeYear_46 rfl (lv_at hl 1 rfl) ?_
              refine va_csq (W.runV (As := [.int v8]) (rest := []) ⟨hx, hb, hml, hown, hts⟩ (tX0_playerAt l E X A z I9 L0 a0 t_a0 v8 (v8.toInt) rfl) (cwV 1 hts gX0_closeYear_X0_playerAt rfl rfl rfl (by decide +kernel) ⟨Nat.le_of_ble_eq_true rfl, Nat.le_of_ble_eq_true rfl⟩) ⟨h_blind _ _ _ _ _ _ _, h_recv g t_a0 (by decide) so_1 (q := (RX0, TX0, 9)) rfl, h_pre _ hE hk hX hA hI hR g⟩ rfl rfl hl.1 rfl (lv_room (Nat.le_of_ble_eq_true rfl)) dX0_closeYear_47 ⟨Nat.le_of_ble_eq_true rfl, Nat.le_of_ble_eq_true rfl⟩) (fun rh12 h12 => ?_)
              rcases h12 with rfl | ⟨rh12, rfl, trh12⟩
              · refine xw_v (v := .null) rfl ?_
                refine lv_astore_nN (lv' := [(2, .null), (0, .ref a0), (1, .int v8)]) hx hb dX0_closeYear_50 rfl hl (by decide) rfl (fun ls hl => ?_)
                refine lv_aload_nN hx hb dX0_closeYear_51 rfl (lv_at hl 0 rfl) ?_
                refine lv_ifnullN (tgt := 65) hx hb dX0_closeYear_52 (by decide) ?_
                obtain ⟨v13, ev13⟩ : ∃ z : Int32, z = v8 + 1 := ⟨_, rfl⟩
                have jv13 : v13.toInt = v8.toInt + 1 := xi_add ev13 rfl (by decide) (by omega) (by omega)
                refine lv_iinc (v := v13) (lv' := [(1, .int v13), (2, .null), (0, .ref a0)]) hx hb dX0_closeYear_65 hl (k := 2) rfl (by rw [ev13]; rfl) (by decide) rfl (fun ls hl => ?_)
                refine lv_goto (tgt := 37) hx hb dX0_closeYear_68 (by decide) ?_
                exact ih37 I9 _ _ _ v13 g hI hF (lv_sub hl [2, 0] rfl) (by omega) (by omega)
              · refine xw_v (v := .ref rh12) rfl ?_
                refine lv_astore_n (lv' := [(2, .ref rh12), (0, .ref a0), (1, .int v8)]) hx hb dX0_closeYear_50 rfl hl (by decide) rfl (fun ls hl => ?_)
                refine lv_aload_n hx hb dX0_closeYear_51 rfl (lv_at hl 0 rfl) ?_
                refine lv_ifnull hx hb dX0_closeYear_52 ?_
                refine lv_aload_n hx hb dX0_closeYear_55 rfl (lv_at hl 0 rfl) ?_
                refine lv_iconst (v := 0) hx hb dX0_closeYear_56 (by decide) ?_
                refine h_putI (ty := .boolean) (v := 0) hx hb hts iX6 tyX6 tyX6_ok nmX6 hown g trh12 (by decide) so_7 rfl 7 (by decide) rfl (hts (.fieldLink RX0 62 "CapLeague$Player" "isHurt" "Z") (by decide +kernel)) rfl rfl (by decide +kernel) (by decide) (by decide) dX0_closeYear_57 (fun I14 H locs eI14 g => ?_)
                have hI := hI.wr eI14 trh12 (rfl : h_bd 7 7 = (0, 1)) (by decide) (by decide)
                have hF := hF.wr eI14 trh12 rfl
                refine lv_aload_n hx hb dX0_closeYear_60 rfl (lv_at hl 1 rfl) ?_
                refine lv_aload_n hx hb dX0_closeYear_61 rfl (lv_at hl 0 rfl) ?_
                refine va_callv (va_runV (As := [.ref rh12]) (rest := []) ⟨hx, hb, hml, hown, hts⟩ (tX0_endContractIfOver l E X A z I14 L0 a0 t_a0 rh12 trh12) (cwV 1 hts gX0_closeYear_X0_endContractIfOver rfl rfl rfl (by decide +kernel) ⟨Nat.le_of_ble_eq_true rfl, Nat.le_of_ble_eq_true rfl⟩) ⟨h_blind _ _ _ _ _ _ _, h_recv g t_a0 (by decide) so_1 (q := (RX0, TX0, 9)) rfl, h_pre _ hE hk hX hA hI hR g⟩ rfl rfl hl.1 rfl (lv_room (Nat.le_of_ble_eq_true rfl)) dX0_closeYear_62 ⟨Nat.le_of_ble_eq_true rfl, Nat.le_of_ble_eq_true rfl⟩) g.2.1 (fun q _ h => h) (fun q h => h) (fun I16 t H1 locs ht hvm h15 hB hz1 hk1 hS => ?_)
                obtain ⟨hI, fh15, h15⟩ := h15
                replace g := h_after g hB ht hS
                generalize H1 = H at g
                clear hB hk1 hz1 ht hvm hS
                have hF := hF.call fh15 rfl
                obtain ⟨v17, ev17⟩ : ∃ z : Int32, z = v8 + 1 := ⟨_, rfl⟩
                have jv17 : v17.toInt = v8.toInt + 1 := xi_add ev17 rfl (by decide) (by omega) (by omega)
                refine lv_iinc (v := v17) (lv' := [(1, .int v17), (2, .ref rh12), (0, .ref a0)]) hx hb dX0_closeYear_65 hl (k := 2) rfl (by rw [ev17]; rfl) (by decide) rfl (fun ls hl => ?_)
                refine lv_goto (tgt := 37) hx hb dX0_closeYear_68 (by decide) ?_
                exact ih37 I16 _ _ _ v17 g hI hF (lv_sub hl [2, 0] rfl) (by omega) (by omega)
        exact loop37_1 _ I6 _ _ _ (0) g hI hF (lv_sub hl [1, 0] rfl) ⟨by decide, by decide⟩ (show (60 - (0 : Int)) < (((60 - (0 : Int)).toNat + 1 : Nat) : Int) by omega)
      · have ic7 := (xi_nle c7 (by decide) rfl : v5.toInt < 8)
        refine lv_aload_n hx hb dX0_closeYear_22 rfl (lv_at hl 0 rfl) ?_
        obtain ⟨b18, rb18, tb18⟩ := hR.at a0 5 t_a0 (rfl : h_rs 1 5 = some (105, false)) (by decide)
        refine h_get (v := .ref b18) hx hb hts iX0 hown g t_a0 (by decide) so_1 rfl 5 (by decide) (hts (.fieldLink RX0 22 "CapLeague$Books" "spareUsed" "[Z") (by decide +kernel)) rfl dX0_closeYear_23 (by show va_rf (z.R a0 5) = _; rw [rb18]; rfl) ?_
        refine lv_iload_n hx hb dX0_closeYear_26 rfl (lv_at hl 1 rfl) ?_
        refine lv_iconst (v := 0) hx hb dX0_closeYear_27 (by decide) ?_
        refine h_zast hx hb g tb18 (by decide) so_105 (xi_in (by omega) (by omega)) dX0_closeYear_28 (fun I19 H locs eI19 g => ?_)
        rw [h_nz (by decide) (by decide)] at eI19
        have hI := hI.wr eI19 tb18 (rfl : h_bd 105 _ = (0, 1)) (by decide) (by decide)
        have hF := hF.wr eI19 tb18 rfl
        obtain ⟨v20, ev20⟩ : ∃ z : Int32, z = v5 + 1 := ⟨_, rfl⟩
        have jv20 : v20.toInt = v5.toInt + 1 := xi_add ev20 rfl (by decide) (by omega) (by omega)
        refine lv_iinc (v := v20) (lv' := [(1, .int v20), (0, .ref a0)]) hx hb dX0_closeYear_29 hl (k := 1) rfl (by rw [ev20]; rfl) (by decide) rfl (fun ls hl => ?_)
        refine lv_goto (tgt := 16) hx hb dX0_closeYear_32 (by decide) ?_
        exact ih16 I19 _ _ _ v20 g hI hF (lv_sub hl [1, 0] rfl) (by omega) (by omega)
  exact loop16_0 _ I4 _ _ _ (0) g hI hF (lv_sub hl [1, 0] rfl) ⟨by decide, by decide⟩ (show (8 - (0 : Int)) < (((8 - (0 : Int)).toNat + 1 : Nat) : Int) by omega)
