set_option maxHeartbeats 4000000 in
set_option maxRecDepth 100000 in
theorem tX10_keyR (l : Launch) (E : tE) (X : tX) (A : Nat → Prop) (z : tZ) (I0 : tI) (L0 : tL) (x : Int32) (x_t : Int) (h_x : x.toInt = x_t) (b_x : 0 ≤ x_t ∧ x_t ≤ 7) (y : Int32) (y_t : Int) (h_y : y.toInt = y_t) (b_y : 0 ≤ y_t ∧ y_t ≤ 9) : Met l yX10_keyOf wsX10_keyOf ({ frames := 1, cells := 0, slots := 0, locals := 64 }) (va_Pc [.int x, .int y] (h_P E X A z I0 L0)) (vp_Si (fun r => (0 ≤ r.toInt ∧ r.toInt ≤ 79) ∧ (r.toInt = x_t * 10 + y_t))) 0 0 (fun _ => False) := by
  refine Met.ofW (cc := cX10_keyOf) (maxL := 2) (ret := (some .int)) (by decide) rfl ?_
  intro pr_ ev_ s m args below meth cd_ s₁ B hml hv
  obtain ⟨rfl, hE, hk, hX, hA, hK, hI, hR, hB0⟩ := hv
  have g : h_G h_so h_fk E A z I0 L0 s s.heap s.heap [] := ⟨hK, va_S.rf, hB0⟩
  have hx := B.exec
  have hb := B.bytes
  have hr := B.returns
  have hts := atoms_spec (ws := wsX10_keyOf) B.pre
  have hown : s.vm.findClass RX10 = some m.cls := findClass_of_methodNamed B.named
  have hlocks := B.notSynchronized
  have hl := lv_entry ([.int x, .int y]) (n := 2) (Nat.le_of_ble_eq_true rfl)
  rw [lg_entry_eq]
  generalize (lg_sl ([.int x, .int y]) ++ List.replicate (2 - (lg_sl ([.int x, .int y])).length) Slot.unset).toArray = ls at hl ⊢
  have hl : lv_has ls 2 [(0, .int x), (1, .int y)] := hl
  refine lv_iload_n hx hb dX10_keyOf_0 rfl (lv_at hl 0 rfl) ?_
  refine lv_bipush (v := 10) hx hb dX10_keyOf_1 (by decide) ?_
  refine lv_imul hx hb dX10_keyOf_3 ?_
  refine lv_topi (fun v1 ev1 => ?_)
  have jv1 : v1.toInt = x_t * 10 := xi_mul ev1 h_x (by decide) (by omega) (by omega)
  refine lv_iload_n hx hb dX10_keyOf_4 rfl (lv_at hl 1 rfl) ?_
  refine lv_iadd hx hb dX10_keyOf_5 ?_
  refine lv_topi (fun v2 ev2 => ?_)
  have jv2 : v2.toInt = v1.toInt + y_t := xi_add ev2 rfl h_y (by omega) (by omega)
  exact W.iret (v := v2) hx hb hr (fun t ht hW => ⟨v2, rfl, ⟨⟨(by omega), (by omega)⟩, (by omega)⟩, ht⟩) (fun _ h => by cases h) dX10_keyOf_6
set_option maxHeartbeats 4000000 in
set_option maxRecDepth 100000 in
theorem tX1_clear (l : Launch) (E : tE) (X : tX) (A : Nat → Prop) (z : tZ) (I0 : tI) (L0 : tL) (a0 : Nat) (t_a0 : z.ty a0 = 2) : Met l yX1_clear wsX1_clear ({ frames := 1, cells := 0, slots := 0, locals := 64 }) (va_Pc [.ref a0] (h_P E X A z I0 L0)) (va_Qv (fun (I1 : tI) => h_I z I1 ∧ h_F [(2, 0), (2, 1), (2, 2), (2, 3)] z I0 I1 ∧ True) (fun (I1 : tI) t => h_B E A z I1 L0 t) A) 0 0 A := by
  refine Met.ofW (cc := cX1_clear) (maxL := 1) (ret := none) (by decide) rfl ?_
  intro pr_ ev_ s m args below meth cd_ s₁ B hml hv
  obtain ⟨rfl, hE, hk, hX, hA, hK, hI, hR, hB0⟩ := hv
  have g : h_G h_so h_fk E A z I0 L0 s s.heap s.heap [] := ⟨hK, va_S.rf, hB0⟩
  have hF : h_F [(2, 0), (2, 1), (2, 2), (2, 3)] z I0 I0 := h_F.rf
  have hx := B.exec
  have hb := B.bytes
  have hr := B.returns
  have hts := atoms_spec (ws := wsX1_clear) B.pre
  have hown : s.vm.findClass RX1 = some m.cls := findClass_of_methodNamed B.named
  have hlocks := B.notSynchronized
  have iX1 : ∀ w ∈ u_ws RX1 TX1 4, w ∈ wsX1_clear := by decide +kernel
  have hl := lv_entry ([.ref a0]) (n := 1) (Nat.le_of_ble_eq_true rfl)
  rw [lg_entry_eq]
  generalize (lg_sl ([.ref a0]) ++ List.replicate (1 - (lg_sl ([.ref a0])).length) Slot.unset).toArray = ls at hl ⊢
  have hl : lv_has ls 1 [(0, .ref a0)] := hl
  refine lv_aload_n hx hb dX1_clear_0 rfl (lv_at hl 0 rfl) ?_
  refine lv_iconst (v := 0) hx hb dX1_clear_1 (by decide) ?_
  refine h_putI (ty := .int) (v := 0) hx hb hts iX1 tyX1 tyX1_ok nmX1 hown g t_a0 (by decide) so_2 rfl 0 (by decide) rfl (hts (.fieldLink RX1 9 "CapLeague$Change" "more" "I") (by decide +kernel)) rfl rfl (by decide +kernel) rfl rfl dX1_clear_2 (fun I1 H locs eI1 g => ?_)
  have hI := hI.wr eI1 t_a0 (rfl : h_bd 2 0 = ((-2147483648), 2147483647)) (by decide) (by decide)
  have hF := hF.wr eI1 t_a0 rfl
  refine lv_aload_n hx hb dX1_clear_5 rfl (lv_at hl 0 rfl) ?_
  refine lv_iconst (v := 0) hx hb dX1_clear_6 (by decide) ?_
  refine h_putI (ty := .int) (v := 0) hx hb hts iX1 tyX1 tyX1_ok nmX1 hown g t_a0 (by decide) so_2 rfl 1 (by decide) rfl (hts (.fieldLink RX1 15 "CapLeague$Change" "payIn" "I") (by decide +kernel)) rfl rfl (by decide +kernel) rfl rfl dX1_clear_7 (fun I2 H locs eI2 g => ?_)
  have hI := hI.wr eI2 t_a0 (rfl : h_bd 2 1 = ((-2147483648), 2147483647)) (by decide) (by decide)
  have hF := hF.wr eI2 t_a0 rfl
  refine lv_aload_n hx hb dX1_clear_10 rfl (lv_at hl 0 rfl) ?_
  refine lv_iconst (v := 0) hx hb dX1_clear_11 (by decide) ?_
  refine h_putI (ty := .int) (v := 0) hx hb hts iX1 tyX1 tyX1_ok nmX1 hown g t_a0 (by decide) so_2 rfl 2 (by decide) rfl (hts (.fieldLink RX1 18 "CapLeague$Change" "payOut" "I") (by decide +kernel)) rfl rfl (by decide +kernel) rfl rfl dX1_clear_12 (fun I3 H locs eI3 g => ?_)
  have hI := hI.wr eI3 t_a0 (rfl : h_bd 2 2 = ((-2147483648), 2147483647)) (by decide) (by decide)
  have hF := hF.wr eI3 t_a0 rfl
  refine lv_aload_n hx hb dX1_clear_15 rfl (lv_at hl 0 rfl) ?_
  refine lv_iconst (v := 0) hx hb dX1_clear_16 (by decide) ?_
  refine h_putI (ty := .int) (v := 0) hx hb hts iX1 tyX1 tyX1_ok nmX1 hown g t_a0 (by decide) so_2 rfl 3 (by decide) rfl (hts (.fieldLink RX1 21 "CapLeague$Change" "countMore" "I") (by decide +kernel)) rfl rfl (by decide +kernel) rfl rfl dX1_clear_17 (fun I4 H locs eI4 g => ?_)
  have hI := hI.wr eI4 t_a0 (rfl : h_bd 2 3 = ((-2147483648), 2147483647)) (by decide) (by decide)
  have hF := hF.wr eI4 t_a0 rfl
  have hS := g.2.1
  exact W.vret hx hb hr (fun t ht hW => ⟨⟨I4, rfl, ⟨hI, hF, trivial⟩, h_ret g ht⟩, hS.F ht⟩) hS.2.2 dX1_clear_20
set_option maxHeartbeats 4000000 in
set_option maxRecDepth 100000 in
theorem tX1_comes (l : Launch) (E : tE) (X : tX) (A : Nat → Prop) (z : tZ) (I0 : tI) (L0 : tL) (a0 : Nat) (t_a0 : z.ty a0 = 2) (x : Int32) (x_t : Int) (h_x : x.toInt = x_t) (y : Int32) (y_t : Int) (h_y : y.toInt = y_t) : Met l yX1_comes wsX1_comes ({ frames := 1, cells := 0, slots := 0, locals := 64 }) (va_Pc [.ref a0, .int x, .int y] (h_P E X A z I0 L0)) (va_Qv (fun (I1 : tI) => h_I z I1 ∧ h_F [(2, 0), (2, 1), (2, 2), (2, 3)] z I0 I1 ∧ True) (fun (I1 : tI) t => h_B E A z I1 L0 t) A) 0 0 A := by
  refine Met.ofW (cc := cX1_comes) (maxL := 3) (ret := none) (by decide) rfl ?_
  intro pr_ ev_ s m args below meth cd_ s₁ B hml hv
  obtain ⟨rfl, hE, hk, hX, hA, hK, hI, hR, hB0⟩ := hv
  have g : h_G h_so h_fk E A z I0 L0 s s.heap s.heap [] := ⟨hK, va_S.rf, hB0⟩
  have hF : h_F [(2, 0), (2, 1), (2, 2), (2, 3)] z I0 I0 := h_F.rf
  have hx := B.exec
  have hb := B.bytes
  have hr := B.returns
  have hts := atoms_spec (ws := wsX1_comes) B.pre
  have hown : s.vm.findClass RX1 = some m.cls := findClass_of_methodNamed B.named
  have hlocks := B.notSynchronized
  have iX1 : ∀ w ∈ u_ws RX1 TX1 4, w ∈ wsX1_comes := by decide +kernel
  have hl := lv_entry ([.ref a0, .int x, .int y]) (n := 3) (Nat.le_of_ble_eq_true rfl)
  rw [lg_entry_eq]
  generalize (lg_sl ([.ref a0, .int x, .int y]) ++ List.replicate (3 - (lg_sl ([.ref a0, .int x, .int y])).length) Slot.unset).toArray = ls at hl ⊢
  have hl : lv_has ls 3 [(0, .ref a0), (1, .int x), (2, .int y)] := hl
  have b_x : -2147483648 ≤ x_t ∧ x_t ≤ 2147483647 := h_x ▸ ⟨xi_lo x, Int.le_of_lt_add_one (xi_hi x)⟩
  have b_y : -2147483648 ≤ y_t ∧ y_t ≤ 2147483647 := h_y ▸ ⟨xi_lo y, Int.le_of_lt_add_one (xi_hi y)⟩
  refine lv_aload_n hx hb dX1_comes_0 rfl (lv_at hl 0 rfl) ?_
  refine lv_dup hx hb dX1_comes_1 rfl ?_
  refine h_get (v := .int (I0 a0 0)) hx hb hts iX1 hown g t_a0 (by decide) so_2 rfl 0 (by decide) (hts (.fieldLink RX1 9 "CapLeague$Change" "more" "I") (by decide +kernel)) rfl dX1_comes_2 rfl ?_
  refine lv_topi (fun v1 ev1 => ?_)
  have jv1 := hI.rd a0 0 t_a0 ev1 (rfl : h_bd 2 0 = ((-2147483648), 2147483647))
  refine lv_iconst (v := 1) hx hb dX1_comes_5 (by decide) ?_
  refine lv_iadd hx hb dX1_comes_6 ?_
  refine lv_topi (fun v2 ev2 => ?_)
  have jv2 : -2147483648 ≤ v2.toInt ∧ v2.toInt ≤ 2147483647 := ⟨xi_lo _, Int.le_of_lt_add_one (xi_hi _)⟩
  refine h_putI (ty := .int) (v := v2) hx hb hts iX1 tyX1 tyX1_ok nmX1 hown g t_a0 (by decide) so_2 rfl 0 (by decide) rfl (hts (.fieldLink RX1 9 "CapLeague$Change" "more" "I") (by decide +kernel)) rfl rfl (by decide +kernel) rfl rfl dX1_comes_7 (fun I3 H locs eI3 g => ?_)
  have hI := hI.wr eI3 t_a0 (rfl : h_bd 2 0 = ((-2147483648), 2147483647)) (xi_lo _) (Int.le_of_lt_add_one (xi_hi _))
  have hF := hF.wr eI3 t_a0 rfl
  refine lv_aload_n hx hb dX1_comes_10 rfl (lv_at hl 0 rfl) ?_
  refine lv_dup hx hb dX1_comes_11 rfl ?_
  refine h_get (v := .int (I3 a0 1)) hx hb hts iX1 hown g t_a0 (by decide) so_2 rfl 1 (by decide) (hts (.fieldLink RX1 15 "CapLeague$Change" "payIn" "I") (by decide +kernel)) rfl dX1_comes_12 rfl ?_
  refine lv_topi (fun v4 ev4 => ?_)
  have jv4 := hI.rd a0 1 t_a0 ev4 (rfl : h_bd 2 1 = ((-2147483648), 2147483647))
  refine lv_iload_n hx hb dX1_comes_15 rfl (lv_at hl 1 rfl) ?_
  refine lv_iadd hx hb dX1_comes_16 ?_
  refine lv_topi (fun v5 ev5 => ?_)
  have jv5 : -2147483648 ≤ v5.toInt ∧ v5.toInt ≤ 2147483647 := ⟨xi_lo _, Int.le_of_lt_add_one (xi_hi _)⟩
  refine h_putI (ty := .int) (v := v5) hx hb hts iX1 tyX1 tyX1_ok nmX1 hown g t_a0 (by decide) so_2 rfl 1 (by decide) rfl (hts (.fieldLink RX1 15 "CapLeague$Change" "payIn" "I") (by decide +kernel)) rfl rfl (by decide +kernel) rfl rfl dX1_comes_17 (fun I6 H locs eI6 g => ?_)
  have hI := hI.wr eI6 t_a0 (rfl : h_bd 2 1 = ((-2147483648), 2147483647)) (xi_lo _) (Int.le_of_lt_add_one (xi_hi _))
  have hF := hF.wr eI6 t_a0 rfl
  refine lv_aload_n hx hb dX1_comes_20 rfl (lv_at hl 0 rfl) ?_
  refine lv_dup hx hb dX1_comes_21 rfl ?_
  refine h_get (v := .int (I6 a0 3)) hx hb hts iX1 hown g t_a0 (by decide) so_2 rfl 3 (by decide) (hts (.fieldLink RX1 21 "CapLeague$Change" "countMore" "I") (by decide +kernel)) rfl dX1_comes_22 rfl ?_
  refine lv_topi (fun v7 ev7 => ?_)
  have jv7 := hI.rd a0 3 t_a0 ev7 (rfl : h_bd 2 3 = ((-2147483648), 2147483647))
  refine lv_iload_n hx hb dX1_comes_25 rfl (lv_at hl 2 rfl) ?_
  refine lv_iadd hx hb dX1_comes_26 ?_
  refine lv_topi (fun v8 ev8 => ?_)
  have jv8 : -2147483648 ≤ v8.toInt ∧ v8.toInt ≤ 2147483647 := ⟨xi_lo _, Int.le_of_lt_add_one (xi_hi _)⟩
  refine h_putI (ty := .int) (v := v8) hx hb hts iX1 tyX1 tyX1_ok nmX1 hown g t_a0 (by decide) so_2 rfl 3 (by decide) rfl (hts (.fieldLink RX1 21 "CapLeague$Change" "countMore" "I") (by decide +kernel)) rfl rfl (by decide +kernel) rfl rfl dX1_comes_27 (fun I9 H locs eI9 g => ?_)
  have hI := hI.wr eI9 t_a0 (rfl : h_bd 2 3 = ((-2147483648), 2147483647)) (xi_lo _) (Int.le_of_lt_add_one (xi_hi _))
  have hF := hF.wr eI9 t_a0 rfl
  have hS := g.2.1
  exact W.vret hx hb hr (fun t ht hW => ⟨⟨I9, rfl, ⟨hI, hF, trivial⟩, h_ret g ht⟩, hS.F ht⟩) hS.2.2 dX1_comes_30
set_option maxHeartbeats 4000000 in
set_option maxRecDepth 100000 in
theorem tX1_goes (l : Launch) (E : tE) (X : tX) (A : Nat → Prop) (z : tZ) (I0 : tI) (L0 : tL) (a0 : Nat) (t_a0 : z.ty a0 = 2) (x : Int32) (x_t : Int) (h_x : x.toInt = x_t) (y : Int32) (y_t : Int) (h_y : y.toInt = y_t) : Met l yX1_goes wsX1_goes ({ frames := 1, cells := 0, slots := 0, locals := 64 }) (va_Pc [.ref a0, .int x, .int y] (h_P E X A z I0 L0)) (va_Qv (fun (I1 : tI) => h_I z I1 ∧ h_F [(2, 0), (2, 1), (2, 2), (2, 3)] z I0 I1 ∧ True) (fun (I1 : tI) t => h_B E A z I1 L0 t) A) 0 0 A := by
  refine Met.ofW (cc := cX1_goes) (maxL := 3) (ret := none) (by decide) rfl ?_
  intro pr_ ev_ s m args below meth cd_ s₁ B hml hv
  obtain ⟨rfl, hE, hk, hX, hA, hK, hI, hR, hB0⟩ := hv
  have g : h_G h_so h_fk E A z I0 L0 s s.heap s.heap [] := ⟨hK, va_S.rf, hB0⟩
  have hF : h_F [(2, 0), (2, 1), (2, 2), (2, 3)] z I0 I0 := h_F.rf
  have hx := B.exec
  have hb := B.bytes
  have hr := B.returns
  have hts := atoms_spec (ws := wsX1_goes) B.pre
  have hown : s.vm.findClass RX1 = some m.cls := findClass_of_methodNamed B.named
  have hlocks := B.notSynchronized
  have iX1 : ∀ w ∈ u_ws RX1 TX1 4, w ∈ wsX1_goes := by decide +kernel
  have hl := lv_entry ([.ref a0, .int x, .int y]) (n := 3) (Nat.le_of_ble_eq_true rfl)
  rw [lg_entry_eq]
  generalize (lg_sl ([.ref a0, .int x, .int y]) ++ List.replicate (3 - (lg_sl ([.ref a0, .int x, .int y])).length) Slot.unset).toArray = ls at hl ⊢
  have hl : lv_has ls 3 [(0, .ref a0), (1, .int x), (2, .int y)] := hl
  have b_x : -2147483648 ≤ x_t ∧ x_t ≤ 2147483647 := h_x ▸ ⟨xi_lo x, Int.le_of_lt_add_one (xi_hi x)⟩
  have b_y : -2147483648 ≤ y_t ∧ y_t ≤ 2147483647 := h_y ▸ ⟨xi_lo y, Int.le_of_lt_add_one (xi_hi y)⟩
  refine lv_aload_n hx hb dX1_goes_0 rfl (lv_at hl 0 rfl) ?_
  refine lv_dup hx hb dX1_goes_1 rfl ?_
  refine h_get (v := .int (I0 a0 0)) hx hb hts iX1 hown g t_a0 (by decide) so_2 rfl 0 (by decide) (hts (.fieldLink RX1 9 "CapLeague$Change" "more" "I") (by decide +kernel)) rfl dX1_goes_2 rfl ?_
  refine lv_topi (fun v1 ev1 => ?_)
  have jv1 := hI.rd a0 0 t_a0 ev1 (rfl : h_bd 2 0 = ((-2147483648), 2147483647))
  refine lv_iconst (v := 1) hx hb dX1_goes_5 (by decide) ?_
  refine lv_isub hx hb dX1_goes_6 ?_
  refine lv_topi (fun v2 ev2 => ?_)
  have jv2 : -2147483648 ≤ v2.toInt ∧ v2.toInt ≤ 2147483647 := ⟨xi_lo _, Int.le_of_lt_add_one (xi_hi _)⟩
  refine h_putI (ty := .int) (v := v2) hx hb hts iX1 tyX1 tyX1_ok nmX1 hown g t_a0 (by decide) so_2 rfl 0 (by decide) rfl (hts (.fieldLink RX1 9 "CapLeague$Change" "more" "I") (by decide +kernel)) rfl rfl (by decide +kernel) rfl rfl dX1_goes_7 (fun I3 H locs eI3 g => ?_)
  have hI := hI.wr eI3 t_a0 (rfl : h_bd 2 0 = ((-2147483648), 2147483647)) (xi_lo _) (Int.le_of_lt_add_one (xi_hi _))
  have hF := hF.wr eI3 t_a0 rfl
  refine lv_aload_n hx hb dX1_goes_10 rfl (lv_at hl 0 rfl) ?_
  refine lv_dup hx hb dX1_goes_11 rfl ?_
  refine h_get (v := .int (I3 a0 2)) hx hb hts iX1 hown g t_a0 (by decide) so_2 rfl 2 (by decide) (hts (.fieldLink RX1 18 "CapLeague$Change" "payOut" "I") (by decide +kernel)) rfl dX1_goes_12 rfl ?_
  refine lv_topi (fun v4 ev4 => ?_)
  have jv4 := hI.rd a0 2 t_a0 ev4 (rfl : h_bd 2 2 = ((-2147483648), 2147483647))
  refine lv_iload_n hx hb dX1_goes_15 rfl (lv_at hl 1 rfl) ?_
  refine lv_iadd hx hb dX1_goes_16 ?_
  refine lv_topi (fun v5 ev5 => ?_)
  have jv5 : -2147483648 ≤ v5.toInt ∧ v5.toInt ≤ 2147483647 := ⟨xi_lo _, Int.le_of_lt_add_one (xi_hi _)⟩
  refine h_putI (ty := .int) (v := v5) hx hb hts iX1 tyX1 tyX1_ok nmX1 hown g t_a0 (by decide) so_2 rfl 2 (by decide) rfl (hts (.fieldLink RX1 18 "CapLeague$Change" "payOut" "I") (by decide +kernel)) rfl rfl (by decide +kernel) rfl rfl dX1_goes_17 (fun I6 H locs eI6 g => ?_)
  have hI := hI.wr eI6 t_a0 (rfl : h_bd 2 2 = ((-2147483648), 2147483647)) (xi_lo _) (Int.le_of_lt_add_one (xi_hi _))
  have hF := hF.wr eI6 t_a0 rfl
  refine lv_aload_n hx hb dX1_goes_20 rfl (lv_at hl 0 rfl) ?_
  refine lv_dup hx hb dX1_goes_21 rfl ?_
  refine h_get (v := .int (I6 a0 3)) hx hb hts iX1 hown g t_a0 (by decide) so_2 rfl 3 (by decide) (hts (.fieldLink RX1 21 "CapLeague$Change" "countMore" "I") (by decide +kernel)) rfl dX1_goes_22 rfl ?_
  refine lv_topi (fun v7 ev7 => ?_)
  have jv7 := hI.rd a0 3 t_a0 ev7 (rfl : h_bd 2 3 = ((-2147483648), 2147483647))
  refine lv_iload_n hx hb dX1_goes_25 rfl (lv_at hl 2 rfl) ?_
  refine lv_isub hx hb dX1_goes_26 ?_
  refine lv_topi (fun v8 ev8 => ?_)
  have jv8 : -2147483648 ≤ v8.toInt ∧ v8.toInt ≤ 2147483647 := ⟨xi_lo _, Int.le_of_lt_add_one (xi_hi _)⟩
  refine h_putI (ty := .int) (v := v8) hx hb hts iX1 tyX1 tyX1_ok nmX1 hown g t_a0 (by decide) so_2 rfl 3 (by decide) rfl (hts (.fieldLink RX1 21 "CapLeague$Change" "countMore" "I") (by decide +kernel)) rfl rfl (by decide +kernel) rfl rfl dX1_goes_27 (fun I9 H locs eI9 g => ?_)
  have hI := hI.wr eI9 t_a0 (rfl : h_bd 2 3 = ((-2147483648), 2147483647)) (xi_lo _) (Int.le_of_lt_add_one (xi_hi _))
  have hF := hF.wr eI9 t_a0 rfl
  have hS := g.2.1
  exact W.vret hx hb hr (fun t ht hW => ⟨⟨I9, rfl, ⟨hI, hF, trivial⟩, h_ret g ht⟩, hS.F ht⟩) hS.2.2 dX1_goes_30
set_option maxHeartbeats 4000000 in
set_option maxRecDepth 100000 in
theorem tX1_faultFor (l : Launch) (E : tE) (X : tX) (A : Nat → Prop) (z : tZ) (I0 : tI) (L0 : tL) (a0 : Nat) (t_a0 : z.ty a0 = 2) (x : Int32) (x_t : Int) (h_x : x.toInt = x_t) (y : Int32) (y_t : Int) (h_y : y.toInt = y_t) (n0 : Nat) (t_n0 : z.ty n0 = 6) : Met l yX1_faultFor wsX1_faultFor ({ frames := 2, cells := 0, slots := 0, locals := 128 }) (va_Pc [.ref a0, .int x, .int y, .ref n0] (h_P E X A z I0 L0)) (vp_Si (fun r => True)) 0 0 (fun _ => False) := by
  refine Met.ofW (cc := cX1_faultFor) (maxL := 5) (ret := (some .int)) (by decide) rfl ?_
  intro pr_ ev_ s m args below meth cd_ s₁ B hml hv
  obtain ⟨rfl, hE, hk, hX, hA, hK, hI, hR, hB0⟩ := hv
  have g : h_G h_so h_fk E A z I0 L0 s s.heap s.heap [] := ⟨hK, va_S.rf, hB0⟩
  have hx := B.exec
  have hb := B.bytes
  have hr := B.returns
  have hts := atoms_spec (ws := wsX1_faultFor) B.pre
  have hown : s.vm.findClass RX1 = some m.cls := findClass_of_methodNamed B.named
  have hlocks := B.notSynchronized
  have iX1 : ∀ w ∈ u_ws RX1 TX1 4, w ∈ wsX1_faultFor := by decide +kernel
  have hl := lv_entry ([.ref a0, .int x, .int y, .ref n0]) (n := 5) (Nat.le_of_ble_eq_true rfl)
  rw [lg_entry_eq]
  generalize (lg_sl ([.ref a0, .int x, .int y, .ref n0]) ++ List.replicate (5 - (lg_sl ([.ref a0, .int x, .int y, .ref n0])).length) Slot.unset).toArray = ls at hl ⊢
  have hl : lv_has ls 5 [(0, .ref a0), (1, .int x), (2, .int y), (3, .ref n0)] := hl
  have b_x : -2147483648 ≤ x_t ∧ x_t ≤ 2147483647 := h_x ▸ ⟨xi_lo x, Int.le_of_lt_add_one (xi_hi x)⟩
  have b_y : -2147483648 ≤ y_t ∧ y_t ≤ 2147483647 := h_y ▸ ⟨xi_lo y, Int.le_of_lt_add_one (xi_hi y)⟩
  refine lv_iload_n hx hb dX1_faultFor_0 rfl (lv_at hl 1 rfl) ?_
  refine lv_aload_n hx hb dX1_faultFor_1 rfl (lv_at hl 0 rfl) ?_
  refine h_get (v := .int (I0 a0 0)) hx hb hts iX1 hown g t_a0 (by decide) so_2 rfl 0 (by decide) (hts (.fieldLink RX1 9 "CapLeague$Change" "more" "I") (by decide +kernel)) rfl dX1_faultFor_2 rfl ?_
  refine lv_topi (fun v1 ev1 => ?_)
  have jv1 := hI.rd a0 0 t_a0 ev1 (rfl : h_bd 2 0 = ((-2147483648), 2147483647))
  refine lv_iadd hx hb dX1_faultFor_5 ?_
  refine lv_topi (fun v2 ev2 => ?_)
  have jv2 : -2147483648 ≤ v2.toInt ∧ v2.toInt ≤ 2147483647 := ⟨xi_lo _, Int.le_of_lt_add_one (xi_hi _)⟩
  refine lv_aload_n hx hb dX1_faultFor_6 rfl (lv_at hl 3 rfl) ?_
  refine lv_iconst (v := 1) hx hb dX1_faultFor_7 (by decide) ?_
  refine vp_callSi (W.runV (As := [.int 1]) (rest := [.int v2]) ⟨hx, hb, hml, hown, hts⟩ (tX5_number l E X A z I0 L0 n0 t_n0 1 (1) (by decide)) (cwV 1 hts gX1_faultFor_X5_number rfl rfl rfl (by decide +kernel) ⟨Nat.le_of_ble_eq_true rfl, Nat.le_of_ble_eq_true rfl⟩) ⟨h_blind _ _ _ _ _ _ _, h_recv g t_n0 (by decide) so_6 (q := (RX5, TX5, 3)) rfl, h_pre _ hE hk hX hA hI hR g⟩ rfl rfl hl.1 rfl (lv_room (Nat.le_of_ble_eq_true rfl)) dX1_faultFor_8 ⟨Nat.le_of_ble_eq_true rfl, Nat.le_of_ble_eq_true rfl⟩) (fun rh3 h3 => ?_)
  have jrh3 : -2147483648 ≤ rh3.toInt ∧ rh3.toInt ≤ 2147483647 := ⟨xi_lo _, Int.le_of_lt_add_one (xi_hi _)⟩
  refine lv_icmp_le (tgt := 16) hx hb dX1_faultFor_11 (by decide) (fun c4 => ?_) (fun c4 => ?_)
  · have ic4 := (xi_le c4 rfl rfl : v2.toInt ≤ rh3.toInt)
    refine lv_aload_n hx hb dX1_faultFor_16 rfl (lv_at hl 0 rfl) ?_
    refine h_get (v := .int (I0 a0 2)) hx hb hts iX1 hown g t_a0 (by decide) so_2 rfl 2 (by decide) (hts (.fieldLink RX1 18 "CapLeague$Change" "payOut" "I") (by decide +kernel)) rfl dX1_faultFor_17 rfl ?_
    refine lv_topi (fun v5 ev5 => ?_)
    have jv5 := hI.rd a0 2 t_a0 ev5 (rfl : h_bd 2 2 = ((-2147483648), 2147483647))
    refine lv_aload_n hx hb dX1_faultFor_20 rfl (lv_at hl 3 rfl) ?_
    refine lv_iconst (v := 4) hx hb dX1_faultFor_21 (by decide) ?_
    refine vp_callSi (W.runV (As := [.int 4]) (rest := [.int v5]) ⟨hx, hb, hml, hown, hts⟩ (tX5_number l E X A z I0 L0 n0 t_n0 4 (4) (by decide)) (cwV 1 hts gX1_faultFor_X5_number rfl rfl rfl (by decide +kernel) ⟨Nat.le_of_ble_eq_true rfl, Nat.le_of_ble_eq_true rfl⟩) ⟨h_blind _ _ _ _ _ _ _, h_recv g t_n0 (by decide) so_6 (q := (RX5, TX5, 3)) rfl, h_pre _ hE hk hX hA hI hR g⟩ rfl rfl hl.1 rfl (lv_room (Nat.le_of_ble_eq_true rfl)) dX1_faultFor_22 ⟨Nat.le_of_ble_eq_true rfl, Nat.le_of_ble_eq_true rfl⟩) (fun rh6 h6 => ?_)
    have jrh6 : -2147483648 ≤ rh6.toInt ∧ rh6.toInt ≤ 2147483647 := ⟨xi_lo _, Int.le_of_lt_add_one (xi_hi _)⟩
    refine vp_callSi (xr_of (va_runSN (As := [.int v5, .int rh6]) (rest := []) ⟨hx, hb, hml, hown, hts⟩ (tX11_hundredths l E X A z I0 L0 v5 (v5.toInt) rfl rh6 (rh6.toInt) rfl) (⟨va_cnB 2 hts gX1_faultFor_X11_hundredths_n30 rfl rfl rfl (hE.link 11 rfl) (hts (.initialized RX11) (by decide +kernel)) (by decide +kernel) ⟨Nat.le_of_ble_eq_true rfl, Nat.le_of_ble_eq_true rfl⟩, hts (.static yX11_hundredths) (by decide +kernel), trivial⟩) ⟨h_blind _ _ _ _ _ _ _, h_pre _ hE hk hX hA hI hR g⟩ rfl rfl hl.1 rfl (lv_room (Nat.le_of_ble_eq_true rfl)) dX1_faultFor_25 ⟨Nat.le_of_ble_eq_true rfl, Nat.le_of_ble_eq_true rfl⟩)) (fun rh7 h7 => ?_)
    have jrh7 : -2147483648 ≤ rh7.toInt ∧ rh7.toInt ≤ 2147483647 := ⟨xi_lo _, Int.le_of_lt_add_one (xi_hi _)⟩
    refine lv_aload_n hx hb dX1_faultFor_28 rfl (lv_at hl 3 rfl) ?_
    refine lv_iconst (v := 5) hx hb dX1_faultFor_29 (by decide) ?_
    refine vp_callSi (W.runV (As := [.int 5]) (rest := [.int rh7]) ⟨hx, hb, hml, hown, hts⟩ (tX5_number l E X A z I0 L0 n0 t_n0 5 (5) (by decide)) (cwV 1 hts gX1_faultFor_X5_number rfl rfl rfl (by decide +kernel) ⟨Nat.le_of_ble_eq_true rfl, Nat.le_of_ble_eq_true rfl⟩) ⟨h_blind _ _ _ _ _ _ _, h_recv g t_n0 (by decide) so_6 (q := (RX5, TX5, 3)) rfl, h_pre _ hE hk hX hA hI hR g⟩ rfl rfl hl.1 rfl (lv_room (Nat.le_of_ble_eq_true rfl)) dX1_faultFor_30 ⟨Nat.le_of_ble_eq_true rfl, Nat.le_of_ble_eq_true rfl⟩) (fun rh8 h8 => ?_)
    have jrh8 : -2147483648 ≤ rh8.toInt ∧ rh8.toInt ≤ 2147483647 := ⟨xi_lo _, Int.le_of_lt_add_one (xi_hi _)⟩
    refine lv_iadd hx hb dX1_faultFor_33 ?_
    refine lv_topi (fun v9 ev9 => ?_)
    have jv9 : -2147483648 ≤ v9.toInt ∧ v9.toInt ≤ 2147483647 := ⟨xi_lo _, Int.le_of_lt_add_one (xi_hi _)⟩
    refine lv_istore (lv' := [(4, .int v9), (0, .ref a0), (1, .int x), (2, .int y), (3, .ref n0)]) hx hb dX1_faultFor_34 hl (by decide) rfl (fun ls hl => ?_)
    refine lv_iload_n hx hb dX1_faultFor_36 rfl (lv_at hl 3 rfl) ?_
    refine lv_aload_n hx hb dX1_faultFor_37 rfl (lv_at hl 1 rfl) ?_
    refine h_get (v := .int (I0 a0 3)) hx hb hts iX1 hown g t_a0 (by decide) so_2 rfl 3 (by decide) (hts (.fieldLink RX1 21 "CapLeague$Change" "countMore" "I") (by decide +kernel)) rfl dX1_faultFor_38 rfl ?_
    refine lv_topi (fun v10 ev10 => ?_)
    have jv10 := hI.rd a0 3 t_a0 ev10 (rfl : h_bd 2 3 = ((-2147483648), 2147483647))
    refine lv_iadd hx hb dX1_faultFor_41 ?_
    refine lv_topi (fun v11 ev11 => ?_)
    have jv11 : -2147483648 ≤ v11.toInt ∧ v11.toInt ≤ 2147483647 := ⟨xi_lo _, Int.le_of_lt_add_one (xi_hi _)⟩
    refine lv_aload_n hx hb dX1_faultFor_42 rfl (lv_at hl 4 rfl) ?_
    refine lv_iconst (v := 0) hx hb dX1_faultFor_43 (by decide) ?_
    refine vp_callSi (W.runV (As := [.int 0]) (rest := [.int v11]) ⟨hx, hb, hml, hown, hts⟩ (tX5_number l E X A z I0 L0 n0 t_n0 0 (0) (by decide)) (cwV 1 hts gX1_faultFor_X5_number rfl rfl rfl (by decide +kernel) ⟨Nat.le_of_ble_eq_true rfl, Nat.le_of_ble_eq_true rfl⟩) ⟨h_blind _ _ _ _ _ _ _, h_recv g t_n0 (by decide) so_6 (q := (RX5, TX5, 3)) rfl, h_pre _ hE hk hX hA hI hR g⟩ rfl rfl hl.1 rfl (lv_room (Nat.le_of_ble_eq_true rfl)) dX1_faultFor_44 ⟨Nat.le_of_ble_eq_true rfl, Nat.le_of_ble_eq_true rfl⟩) (fun rh12 h12 => ?_)
    have jrh12 : -2147483648 ≤ rh12.toInt ∧ rh12.toInt ≤ 2147483647 := ⟨xi_lo _, Int.le_of_lt_add_one (xi_hi _)⟩
    refine lv_icmp_le (tgt := 63) hx hb dX1_faultFor_47 (by decide) (fun c13 => ?_) (fun c13 => ?_)
    · have ic13 := (xi_le c13 rfl rfl : v11.toInt ≤ rh12.toInt)
      refine lv_iconst (v := 0) hx hb dX1_faultFor_63 (by decide) ?_
      exact W.iret (v := 0) hx hb hr (fun t ht hW => ⟨0, rfl, trivial, ht⟩) (fun _ h => by cases h) dX1_faultFor_64
    · have ic13 := (xi_nle c13 rfl rfl : rh12.toInt < v11.toInt)
      refine lv_aload_n hx hb dX1_faultFor_50 rfl (lv_at hl 1 rfl) ?_
      refine h_get (v := .int (I0 a0 1)) hx hb hts iX1 hown g t_a0 (by decide) so_2 rfl 1 (by decide) (hts (.fieldLink RX1 15 "CapLeague$Change" "payIn" "I") (by decide +kernel)) rfl dX1_faultFor_51 rfl ?_
      refine lv_topi (fun v14 ev14 => ?_)
      have jv14 := hI.rd a0 1 t_a0 ev14 (rfl : h_bd 2 1 = ((-2147483648), 2147483647))
      refine lv_iload hx hb dX1_faultFor_54 (lv_at hl 0 rfl) ?_
      refine lv_icmp_le (tgt := 63) hx hb dX1_faultFor_56 (by decide) (fun c15 => ?_) (fun c15 => ?_)
      · have ic15 := (xi_le c15 rfl rfl : v14.toInt ≤ v9.toInt)
        refine lv_iconst (v := 0) hx hb dX1_faultFor_63 (by decide) ?_
        exact W.iret (v := 0) hx hb hr (fun t ht hW => ⟨0, rfl, trivial, ht⟩) (fun _ h => by cases h) dX1_faultFor_64
      · have ic15 := (xi_nle c15 rfl rfl : v9.toInt < v14.toInt)
        refine lv_iconst (v := 2) hx hb dX1_faultFor_59 (by decide) ?_
        refine lv_goto (tgt := 64) hx hb dX1_faultFor_60 (by decide) ?_
        exact W.iret (v := 2) hx hb hr (fun t ht hW => ⟨2, rfl, trivial, ht⟩) (fun _ h => by cases h) dX1_faultFor_64
  · have ic4 := (xi_nle c4 rfl rfl : rh3.toInt < v2.toInt)
    refine lv_iconst (v := 1) hx hb dX1_faultFor_14 (by decide) ?_
    exact W.iret (v := 1) hx hb hr (fun t ht hW => ⟨1, rfl, trivial, ht⟩) (fun _ h => by cases h) dX1_faultFor_15
