set_option maxHeartbeats 4000000 in
set_option maxRecDepth 100000 in
theorem tX1_clearB (l : Launch) (E : tE) (X : tX) (A : Nat → Prop) (z : tZ) (I0 : tI) (L0 : tL) (a0 : Nat) (t_a0 : z.ty a0 = 2) : Met l yX1_clear wsX1_clear ({ frames := 1, cells := 0, slots := 0, locals := 64 }) (va_Pc [.ref a0] (h_P E X A z I0 L0)) (va_Qv (fun (I1 : tI) => h_I z I1 ∧ h_F [(2, 0), (2, 1), (2, 2), (2, 3)] z I0 I1 ∧ (I1 a0 0 = 0 ∧ I1 a0 1 = 0 ∧ I1 a0 2 = 0 ∧ I1 a0 3 = 0)) (fun (I1 : tI) t => h_B E A z I1 L0 t) A) 0 0 A := by
  refine Met.ofW (cc := cX1_clear) (maxL := 1) (ret := none) (by decide) rfl ?_
  intro pr_ ev_ s m args below meth cd_ s₁ B hml hv
  obtain ⟨rfl, hE, hk, hX, hA, hK, hI, hR, hB0⟩ := hv
  have g : h_G h_so h_fk E A z I0 L0 s s.heap s.heap [] := ⟨hK, va_S.rf, hB0⟩
  have hF : h_F [(2, 0), (2, 1), (2, 2), (2, 3)] z I0 I0 := h_F.rf
  have hx := B.exec
  have hb := B.bytes
  have hr := B.returns
  have hts := atoms_spec (ws := wsX1_clear) B.pre
  have hown : s.vm.findClass RX1 = some m.cls := findClass_of_methodNamed B.named
  have hlocks := B.notSynchronized
  have iX1 : ∀ w ∈ u_ws RX1 TX1 4, w ∈ wsX1_clear := by decide +kernel
  have hl := lv_entry ([.ref a0]) (n := 1) (Nat.le_of_ble_eq_true rfl)
  rw [lg_entry_eq]
  generalize (lg_sl ([.ref a0]) ++ List.replicate (1 - (lg_sl ([.ref a0])).length) Slot.unset).toArray = ls at hl ⊢
  have hl : lv_has ls 1 [(0, .ref a0)] := hl
  obtain ⟨f0_0, ef0_0⟩ : ∃ v : Int32, v = I0 a0 0 := ⟨_, rfl⟩
  have qf0_0 : (I0 a0 0).toInt = f0_0.toInt := congrArg Int32.toInt ef0_0.symm
  have jf0_0 := hI.rd a0 0 t_a0 ef0_0 (rfl : h_bd 2 0 = ((-2147483648), 2147483647))
  obtain ⟨f0_1, ef0_1⟩ : ∃ v : Int32, v = I0 a0 1 := ⟨_, rfl⟩
  have qf0_1 : (I0 a0 1).toInt = f0_1.toInt := congrArg Int32.toInt ef0_1.symm
  have jf0_1 := hI.rd a0 1 t_a0 ef0_1 (rfl : h_bd 2 1 = ((-2147483648), 2147483647))
  obtain ⟨f0_2, ef0_2⟩ : ∃ v : Int32, v = I0 a0 2 := ⟨_, rfl⟩
  have qf0_2 : (I0 a0 2).toInt = f0_2.toInt := congrArg Int32.toInt ef0_2.symm
  have jf0_2 := hI.rd a0 2 t_a0 ef0_2 (rfl : h_bd 2 2 = ((-2147483648), 2147483647))
  obtain ⟨f0_3, ef0_3⟩ : ∃ v : Int32, v = I0 a0 3 := ⟨_, rfl⟩
  have qf0_3 : (I0 a0 3).toInt = f0_3.toInt := congrArg Int32.toInt ef0_3.symm
  have jf0_3 := hI.rd a0 3 t_a0 ef0_3 (rfl : h_bd 2 3 = ((-2147483648), 2147483647))
  refine lv_aload_n hx hb dX1_clear_0 rfl (lv_at hl 0 rfl) ?_
  refine lv_iconst (v := 0) hx hb dX1_clear_1 (by decide) ?_
  refine h_putI (ty := .int) (v := 0) hx hb hts iX1 tyX1 tyX1_ok nmX1 hown g t_a0 (by decide) so_2 rfl 0 (by decide) rfl (hts (.fieldLink RX1 9 "CapLeague$Change" "more" "I") (by decide +kernel)) rfl rfl (by decide +kernel) rfl rfl dX1_clear_2 (fun I1 H locs eI1 g => ?_)
  have hI := hI.wr eI1 t_a0 (rfl : h_bd 2 0 = ((-2147483648), 2147483647)) (by decide) (by decide)
  have hF := hF.wr eI1 t_a0 rfl
  refine lv_aload_n hx hb dX1_clear_5 rfl (lv_at hl 0 rfl) ?_
  refine lv_iconst (v := 0) hx hb dX1_clear_6 (by decide) ?_
  refine h_putI (ty := .int) (v := 0) hx hb hts iX1 tyX1 tyX1_ok nmX1 hown g t_a0 (by decide) so_2 rfl 1 (by decide) rfl (hts (.fieldLink RX1 15 "CapLeague$Change" "payIn" "I") (by decide +kernel)) rfl rfl (by decide +kernel) rfl rfl dX1_clear_7 (fun I2 H locs eI2 g => ?_)
  have hI := hI.wr eI2 t_a0 (rfl : h_bd 2 1 = ((-2147483648), 2147483647)) (by decide) (by decide)
  have hF := hF.wr eI2 t_a0 rfl
  refine lv_aload_n hx hb dX1_clear_10 rfl (lv_at hl 0 rfl) ?_
  refine lv_iconst (v := 0) hx hb dX1_clear_11 (by decide) ?_
  refine h_putI (ty := .int) (v := 0) hx hb hts iX1 tyX1 tyX1_ok nmX1 hown g t_a0 (by decide) so_2 rfl 2 (by decide) rfl (hts (.fieldLink RX1 18 "CapLeague$Change" "payOut" "I") (by decide +kernel)) rfl rfl (by decide +kernel) rfl rfl dX1_clear_12 (fun I3 H locs eI3 g => ?_)
  have hI := hI.wr eI3 t_a0 (rfl : h_bd 2 2 = ((-2147483648), 2147483647)) (by decide) (by decide)
  have hF := hF.wr eI3 t_a0 rfl
  refine lv_aload_n hx hb dX1_clear_15 rfl (lv_at hl 0 rfl) ?_
  refine lv_iconst (v := 0) hx hb dX1_clear_16 (by decide) ?_
  refine h_putI (ty := .int) (v := 0) hx hb hts iX1 tyX1 tyX1_ok nmX1 hown g t_a0 (by decide) so_2 rfl 3 (by decide) rfl (hts (.fieldLink RX1 21 "CapLeague$Change" "countMore" "I") (by decide +kernel)) rfl rfl (by decide +kernel) rfl rfl dX1_clear_17 (fun I4 H locs eI4 g => ?_)
  have hI := hI.wr eI4 t_a0 (rfl : h_bd 2 3 = ((-2147483648), 2147483647)) (by decide) (by decide)
  have hF := hF.wr eI4 t_a0 rfl
  have hS := g.2.1
  exact W.vret hx hb hr (fun t ht hW => ⟨⟨I4, rfl, ⟨hI, hF, (⟨(h_n2 eI4 (by decide)).trans ((h_n2 eI3 (by decide)).trans ((h_n2 eI2 (by decide)).trans (h_n0 eI1))), (h_n2 eI4 (by decide)).trans ((h_n2 eI3 (by decide)).trans (h_n0 eI2)), (h_n2 eI4 (by decide)).trans (h_n0 eI3), h_n0 eI4⟩)⟩, h_ret g ht⟩, hS.F ht⟩) hS.2.2 dX1_clear_20
set_option maxHeartbeats 4000000 in
set_option maxRecDepth 100000 in
theorem tX1_comesB (l : Launch) (E : tE) (X : tX) (A : Nat → Prop) (z : tZ) (I0 : tI) (L0 : tL) (a0 : Nat) (t_a0 : z.ty a0 = 2) (x : Int32) (x_t : Int) (h_x : x.toInt = x_t) (y : Int32) (y_t : Int) (h_y : y.toInt = y_t) : Met l yX1_comes wsX1_comes ({ frames := 1, cells := 0, slots := 0, locals := 64 }) (va_Pc [.ref a0, .int x, .int y] (h_P E X A z I0 L0)) (va_Qv (fun (I1 : tI) => h_I z I1 ∧ h_F [(2, 0), (2, 1), (2, 2), (2, 3)] z I0 I1 ∧ (I1 a0 0 = I0 a0 0 + 1 ∧ I1 a0 1 = I0 a0 1 + x ∧ I1 a0 2 = I0 a0 2 ∧ I1 a0 3 = I0 a0 3 + y)) (fun (I1 : tI) t => h_B E A z I1 L0 t) A) 0 0 A := by
  refine Met.ofW (cc := cX1_comes) (maxL := 3) (ret := none) (by decide) rfl ?_
  intro pr_ ev_ s m args below meth cd_ s₁ B hml hv
  obtain ⟨rfl, hE, hk, hX, hA, hK, hI, hR, hB0⟩ := hv
  have g : h_G h_so h_fk E A z I0 L0 s s.heap s.heap [] := ⟨hK, va_S.rf, hB0⟩
  have hF : h_F [(2, 0), (2, 1), (2, 2), (2, 3)] z I0 I0 := h_F.rf
  have hx := B.exec
  have hb := B.bytes
  have hr := B.returns
  have hts := atoms_spec (ws := wsX1_comes) B.pre
  have hown : s.vm.findClass RX1 = some m.cls := findClass_of_methodNamed B.named
  have hlocks := B.notSynchronized
  have iX1 : ∀ w ∈ u_ws RX1 TX1 4, w ∈ wsX1_comes := by decide +kernel
  have hl := lv_entry ([.ref a0, .int x, .int y]) (n := 3) (Nat.le_of_ble_eq_true rfl)
  rw [lg_entry_eq]
  generalize (lg_sl ([.ref a0, .int x, .int y]) ++ List.replicate (3 - (lg_sl ([.ref a0, .int x, .int y])).length) Slot.unset).toArray = ls at hl ⊢
  have hl : lv_has ls 3 [(0, .ref a0), (1, .int x), (2, .int y)] := hl
  have b_x : -2147483648 ≤ x_t ∧ x_t ≤ 2147483647 := h_x ▸ ⟨xi_lo x, Int.le_of_lt_add_one (xi_hi x)⟩
  have b_y : -2147483648 ≤ y_t ∧ y_t ≤ 2147483647 := h_y ▸ ⟨xi_lo y, Int.le_of_lt_add_one (xi_hi y)⟩
  obtain ⟨f0_0, ef0_0⟩ : ∃ v : Int32, v = I0 a0 0 := ⟨_, rfl⟩
  have qf0_0 : (I0 a0 0).toInt = f0_0.toInt := congrArg Int32.toInt ef0_0.symm
  have jf0_0 := hI.rd a0 0 t_a0 ef0_0 (rfl : h_bd 2 0 = ((-2147483648), 2147483647))
  obtain ⟨f0_1, ef0_1⟩ : ∃ v : Int32, v = I0 a0 1 := ⟨_, rfl⟩
  have qf0_1 : (I0 a0 1).toInt = f0_1.toInt := congrArg Int32.toInt ef0_1.symm
  have jf0_1 := hI.rd a0 1 t_a0 ef0_1 (rfl : h_bd 2 1 = ((-2147483648), 2147483647))
  obtain ⟨f0_2, ef0_2⟩ : ∃ v : Int32, v = I0 a0 2 := ⟨_, rfl⟩
  have qf0_2 : (I0 a0 2).toInt = f0_2.toInt := congrArg Int32.toInt ef0_2.symm
  have jf0_2 := hI.rd a0 2 t_a0 ef0_2 (rfl : h_bd 2 2 = ((-2147483648), 2147483647))
  obtain ⟨f0_3, ef0_3⟩ : ∃ v : Int32, v = I0 a0 3 := ⟨_, rfl⟩
  have qf0_3 : (I0 a0 3).toInt = f0_3.toInt := congrArg Int32.toInt ef0_3.symm
  have jf0_3 := hI.rd a0 3 t_a0 ef0_3 (rfl : h_bd 2 3 = ((-2147483648), 2147483647))
  refine lv_aload_n hx hb dX1_comes_0 rfl (lv_at hl 0 rfl) ?_
  refine lv_dup hx hb dX1_comes_1 rfl ?_
  refine h_get (v := .int f0_0) hx hb hts iX1 hown g t_a0 (by decide) so_2 rfl 0 (by decide) (hts (.fieldLink RX1 9 "CapLeague$Change" "more" "I") (by decide +kernel)) rfl dX1_comes_2 (congrArg Value.int (ef0_0.symm)) ?_
  refine lv_iconst (v := 1) hx hb dX1_comes_5 (by decide) ?_
  refine lv_iadd hx hb dX1_comes_6 ?_
  refine lv_topi (fun v1 ev1 => ?_)
  have jv1 : -2147483648 ≤ v1.toInt ∧ v1.toInt ≤ 2147483647 := ⟨xi_lo _, Int.le_of_lt_add_one (xi_hi _)⟩
  refine h_putI (ty := .int) (v := v1) hx hb hts iX1 tyX1 tyX1_ok nmX1 hown g t_a0 (by decide) so_2 rfl 0 (by decide) rfl (hts (.fieldLink RX1 9 "CapLeague$Change" "more" "I") (by decide +kernel)) rfl rfl (by decide +kernel) rfl rfl dX1_comes_7 (fun I2 H locs eI2 g => ?_)
  have hI := hI.wr eI2 t_a0 (rfl : h_bd 2 0 = ((-2147483648), 2147483647)) (xi_lo _) (Int.le_of_lt_add_one (xi_hi _))
  have hF := hF.wr eI2 t_a0 rfl
  refine lv_aload_n hx hb dX1_comes_10 rfl (lv_at hl 0 rfl) ?_
  refine lv_dup hx hb dX1_comes_11 rfl ?_
  refine h_get (v := .int f0_1) hx hb hts iX1 hown g t_a0 (by decide) so_2 rfl 1 (by decide) (hts (.fieldLink RX1 15 "CapLeague$Change" "payIn" "I") (by decide +kernel)) rfl dX1_comes_12 (congrArg Value.int ((h_n2 eI2 (by decide)).trans (ef0_1.symm))) ?_
  refine lv_iload_n hx hb dX1_comes_15 rfl (lv_at hl 1 rfl) ?_
  refine lv_iadd hx hb dX1_comes_16 ?_
  refine lv_topi (fun v3 ev3 => ?_)
  have jv3 : -2147483648 ≤ v3.toInt ∧ v3.toInt ≤ 2147483647 := ⟨xi_lo _, Int.le_of_lt_add_one (xi_hi _)⟩
  refine h_putI (ty := .int) (v := v3) hx hb hts iX1 tyX1 tyX1_ok nmX1 hown g t_a0 (by decide) so_2 rfl 1 (by decide) rfl (hts (.fieldLink RX1 15 "CapLeague$Change" "payIn" "I") (by decide +kernel)) rfl rfl (by decide +kernel) rfl rfl dX1_comes_17 (fun I4 H locs eI4 g => ?_)
  have hI := hI.wr eI4 t_a0 (rfl : h_bd 2 1 = ((-2147483648), 2147483647)) (xi_lo _) (Int.le_of_lt_add_one (xi_hi _))
  have hF := hF.wr eI4 t_a0 rfl
  refine lv_aload_n hx hb dX1_comes_20 rfl (lv_at hl 0 rfl) ?_
  refine lv_dup hx hb dX1_comes_21 rfl ?_
  refine h_get (v := .int f0_3) hx hb hts iX1 hown g t_a0 (by decide) so_2 rfl 3 (by decide) (hts (.fieldLink RX1 21 "CapLeague$Change" "countMore" "I") (by decide +kernel)) rfl dX1_comes_22 (congrArg Value.int ((h_n2 eI4 (by decide)).trans ((h_n2 eI2 (by decide)).trans (ef0_3.symm)))) ?_
  refine lv_iload_n hx hb dX1_comes_25 rfl (lv_at hl 2 rfl) ?_
  refine lv_iadd hx hb dX1_comes_26 ?_
  refine lv_topi (fun v5 ev5 => ?_)
  have jv5 : -2147483648 ≤ v5.toInt ∧ v5.toInt ≤ 2147483647 := ⟨xi_lo _, Int.le_of_lt_add_one (xi_hi _)⟩
  refine h_putI (ty := .int) (v := v5) hx hb hts iX1 tyX1 tyX1_ok nmX1 hown g t_a0 (by decide) so_2 rfl 3 (by decide) rfl (hts (.fieldLink RX1 21 "CapLeague$Change" "countMore" "I") (by decide +kernel)) rfl rfl (by decide +kernel) rfl rfl dX1_comes_27 (fun I6 H locs eI6 g => ?_)
  have hI := hI.wr eI6 t_a0 (rfl : h_bd 2 3 = ((-2147483648), 2147483647)) (xi_lo _) (Int.le_of_lt_add_one (xi_hi _))
  have hF := hF.wr eI6 t_a0 rfl
  have hS := g.2.1
  exact W.vret hx hb hr (fun t ht hW => ⟨⟨I6, rfl, ⟨hI, hF, (⟨((h_n2 eI6 (by decide)).trans ((h_n2 eI4 (by decide)).trans (h_n0 eI2))).trans (by rw [ev1, ef0_0]), ((h_n2 eI6 (by decide)).trans (h_n0 eI4)).trans (by rw [ev3, ef0_1]), ((h_n2 eI6 (by decide)).trans ((h_n2 eI4 (by decide)).trans ((h_n2 eI2 (by decide)).trans (ef0_2.symm)))).trans ef0_2, (h_n0 eI6).trans (by rw [ev5, ef0_3])⟩)⟩, h_ret g ht⟩, hS.F ht⟩) hS.2.2 dX1_comes_30
set_option maxHeartbeats 4000000 in
set_option maxRecDepth 100000 in
theorem tX1_goesB (l : Launch) (E : tE) (X : tX) (A : Nat → Prop) (z : tZ) (I0 : tI) (L0 : tL) (a0 : Nat) (t_a0 : z.ty a0 = 2) (x : Int32) (x_t : Int) (h_x : x.toInt = x_t) (y : Int32) (y_t : Int) (h_y : y.toInt = y_t) : Met l yX1_goes wsX1_goes ({ frames := 1, cells := 0, slots := 0, locals := 64 }) (va_Pc [.ref a0, .int x, .int y] (h_P E X A z I0 L0)) (va_Qv (fun (I1 : tI) => h_I z I1 ∧ h_F [(2, 0), (2, 1), (2, 2), (2, 3)] z I0 I1 ∧ (I1 a0 0 = I0 a0 0 - 1 ∧ I1 a0 1 = I0 a0 1 ∧ I1 a0 2 = I0 a0 2 + x ∧ I1 a0 3 = I0 a0 3 - y)) (fun (I1 : tI) t => h_B E A z I1 L0 t) A) 0 0 A := by
  refine Met.ofW (cc := cX1_goes) (maxL := 3) (ret := none) (by decide) rfl ?_
  intro pr_ ev_ s m args below meth cd_ s₁ B hml hv
  obtain ⟨rfl, hE, hk, hX, hA, hK, hI, hR, hB0⟩ := hv
  have g : h_G h_so h_fk E A z I0 L0 s s.heap s.heap [] := ⟨hK, va_S.rf, hB0⟩
  have hF : h_F [(2, 0), (2, 1), (2, 2), (2, 3)] z I0 I0 := h_F.rf
  have hx := B.exec
  have hb := B.bytes
  have hr := B.returns
  have hts := atoms_spec (ws := wsX1_goes) B.pre
  have hown : s.vm.findClass RX1 = some m.cls := findClass_of_methodNamed B.named
  have hlocks := B.notSynchronized
  have iX1 : ∀ w ∈ u_ws RX1 TX1 4, w ∈ wsX1_goes := by decide +kernel
  have hl := lv_entry ([.ref a0, .int x, .int y]) (n := 3) (Nat.le_of_ble_eq_true rfl)
  rw [lg_entry_eq]
  generalize (lg_sl ([.ref a0, .int x, .int y]) ++ List.replicate (3 - (lg_sl ([.ref a0, .int x, .int y])).length) Slot.unset).toArray = ls at hl ⊢
  have hl : lv_has ls 3 [(0, .ref a0), (1, .int x), (2, .int y)] := hl
  have b_x : -2147483648 ≤ x_t ∧ x_t ≤ 2147483647 := h_x ▸ ⟨xi_lo x, Int.le_of_lt_add_one (xi_hi x)⟩
  have b_y : -2147483648 ≤ y_t ∧ y_t ≤ 2147483647 := h_y ▸ ⟨xi_lo y, Int.le_of_lt_add_one (xi_hi y)⟩
  obtain ⟨f0_0, ef0_0⟩ : ∃ v : Int32, v = I0 a0 0 := ⟨_, rfl⟩
  have qf0_0 : (I0 a0 0).toInt = f0_0.toInt := congrArg Int32.toInt ef0_0.symm
  have jf0_0 := hI.rd a0 0 t_a0 ef0_0 (rfl : h_bd 2 0 = ((-2147483648), 2147483647))
  obtain ⟨f0_1, ef0_1⟩ : ∃ v : Int32, v = I0 a0 1 := ⟨_, rfl⟩
  have qf0_1 : (I0 a0 1).toInt = f0_1.toInt := congrArg Int32.toInt ef0_1.symm
  have jf0_1 := hI.rd a0 1 t_a0 ef0_1 (rfl : h_bd 2 1 = ((-2147483648), 2147483647))
  obtain ⟨f0_2, ef0_2⟩ : ∃ v : Int32, v = I0 a0 2 := ⟨_, rfl⟩
  have qf0_2 : (I0 a0 2).toInt = f0_2.toInt := congrArg Int32.toInt ef0_2.symm
  have jf0_2 := hI.rd a0 2 t_a0 ef0_2 (rfl : h_bd 2 2 = ((-2147483648), 2147483647))
  obtain ⟨f0_3, ef0_3⟩ : ∃ v : Int32, v = I0 a0 3 := ⟨_, rfl⟩
  have qf0_3 : (I0 a0 3).toInt = f0_3.toInt := congrArg Int32.toInt ef0_3.symm
  have jf0_3 := hI.rd a0 3 t_a0 ef0_3 (rfl : h_bd 2 3 = ((-2147483648), 2147483647))
  refine lv_aload_n hx hb dX1_goes_0 rfl (lv_at hl 0 rfl) ?_
  refine lv_dup hx hb dX1_goes_1 rfl ?_
  refine h_get (v := .int f0_0) hx hb hts iX1 hown g t_a0 (by decide) so_2 rfl 0 (by decide) (hts (.fieldLink RX1 9 "CapLeague$Change" "more" "I") (by decide +kernel)) rfl dX1_goes_2 (congrArg Value.int (ef0_0.symm)) ?_
  refine lv_iconst (v := 1) hx hb dX1_goes_5 (by decide) ?_
  refine lv_isub hx hb dX1_goes_6 ?_
  refine lv_topi (fun v1 ev1 => ?_)
  have jv1 : -2147483648 ≤ v1.toInt ∧ v1.toInt ≤ 2147483647 := ⟨xi_lo _, Int.le_of_lt_add_one (xi_hi _)⟩
  refine h_putI (ty := .int) (v := v1) hx hb hts iX1 tyX1 tyX1_ok nmX1 hown g t_a0 (by decide) so_2 rfl 0 (by decide) rfl (hts (.fieldLink RX1 9 "CapLeague$Change" "more" "I") (by decide +kernel)) rfl rfl (by decide +kernel) rfl rfl dX1_goes_7 (fun I2 H locs eI2 g => ?_)
  have hI := hI.wr eI2 t_a0 (rfl : h_bd 2 0 = ((-2147483648), 2147483647)) (xi_lo _) (Int.le_of_lt_add_one (xi_hi _))
  have hF := hF.wr eI2 t_a0 rfl
  refine lv_aload_n hx hb dX1_goes_10 rfl (lv_at hl 0 rfl) ?_
  refine lv_dup hx hb dX1_goes_11 rfl ?_
  refine h_get (v := .int f0_2) hx hb hts iX1 hown g t_a0 (by decide) so_2 rfl 2 (by decide) (hts (.fieldLink RX1 18 "CapLeague$Change" "payOut" "I") (by decide +kernel)) rfl dX1_goes_12 (congrArg Value.int ((h_n2 eI2 (by decide)).trans (ef0_2.symm))) ?_
  refine lv_iload_n hx hb dX1_goes_15 rfl (lv_at hl 1 rfl) ?_
  refine lv_iadd hx hb dX1_goes_16 ?_
  refine lv_topi (fun v3 ev3 => ?_)
  have jv3 : -2147483648 ≤ v3.toInt ∧ v3.toInt ≤ 2147483647 := ⟨xi_lo _, Int.le_of_lt_add_one (xi_hi _)⟩
  refine h_putI (ty := .int) (v := v3) hx hb hts iX1 tyX1 tyX1_ok nmX1 hown g t_a0 (by decide) so_2 rfl 2 (by decide) rfl (hts (.fieldLink RX1 18 "CapLeague$Change" "payOut" "I") (by decide +kernel)) rfl rfl (by decide +kernel) rfl rfl dX1_goes_17 (fun I4 H locs eI4 g => ?_)
  have hI := hI.wr eI4 t_a0 (rfl : h_bd 2 2 = ((-2147483648), 2147483647)) (xi_lo _) (Int.le_of_lt_add_one (xi_hi _))
  have hF := hF.wr eI4 t_a0 rfl
  refine lv_aload_n hx hb dX1_goes_20 rfl (lv_at hl 0 rfl) ?_
  refine lv_dup hx hb dX1_goes_21 rfl ?_
  refine h_get (v := .int f0_3) hx hb hts iX1 hown g t_a0 (by decide) so_2 rfl 3 (by decide) (hts (.fieldLink RX1 21 "CapLeague$Change" "countMore" "I") (by decide +kernel)) rfl dX1_goes_22 (congrArg Value.int ((h_n2 eI4 (by decide)).trans ((h_n2 eI2 (by decide)).trans (ef0_3.symm)))) ?_
  refine lv_iload_n hx hb dX1_goes_25 rfl (lv_at hl 2 rfl) ?_
  refine lv_isub hx hb dX1_goes_26 ?_
  refine lv_topi (fun v5 ev5 => ?_)
  have jv5 : -2147483648 ≤ v5.toInt ∧ v5.toInt ≤ 2147483647 := ⟨xi_lo _, Int.le_of_lt_add_one (xi_hi _)⟩
  refine h_putI (ty := .int) (v := v5) hx hb hts iX1 tyX1 tyX1_ok nmX1 hown g t_a0 (by decide) so_2 rfl 3 (by decide) rfl (hts (.fieldLink RX1 21 "CapLeague$Change" "countMore" "I") (by decide +kernel)) rfl rfl (by decide +kernel) rfl rfl dX1_goes_27 (fun I6 H locs eI6 g => ?_)
  have hI := hI.wr eI6 t_a0 (rfl : h_bd 2 3 = ((-2147483648), 2147483647)) (xi_lo _) (Int.le_of_lt_add_one (xi_hi _))
  have hF := hF.wr eI6 t_a0 rfl
  have hS := g.2.1
  exact W.vret hx hb hr (fun t ht hW => ⟨⟨I6, rfl, ⟨hI, hF, (⟨((h_n2 eI6 (by decide)).trans ((h_n2 eI4 (by decide)).trans (h_n0 eI2))).trans (by rw [ev1, ef0_0]), ((h_n2 eI6 (by decide)).trans ((h_n2 eI4 (by decide)).trans ((h_n2 eI2 (by decide)).trans (ef0_1.symm)))).trans ef0_1, ((h_n2 eI6 (by decide)).trans (h_n0 eI4)).trans (by rw [ev3, ef0_2]), (h_n0 eI6).trans (by rw [ev5, ef0_3])⟩)⟩, h_ret g ht⟩, hS.F ht⟩) hS.2.2 dX1_goes_30
set_option maxHeartbeats 4000000 in
set_option maxRecDepth 100000 in
theorem tX1_faultB (l : Launch) (E : tE) (X : tX) (A : Nat → Prop) (z : tZ) (I0 : tI) (L0 : tL) (a0 : Nat) (t_a0 : z.ty a0 = 2) (x : Int32) (x_t : Int) (h_x : x.toInt = x_t) (y : Int32) (y_t : Int) (h_y : y.toInt = y_t) (n0 : Nat) (t_n0 : z.ty n0 = 6) (u_ : Nat → Int) (hu : h_lw I0 n0 (h_ad z n0 0) (h_ad z n0 1) u_) (hob : q_okb u_) (hpo : 0 ≤ (I0 a0 2).toInt ∧ (I0 a0 2).toInt ≤ 400000) : Met l yX1_faultFor wsX1_faultFor ({ frames := 2, cells := 0, slots := 0, locals := 128 }) (va_Pc [.ref a0, .int x, .int y, .ref n0] (h_P E X A z I0 L0)) (vp_Si (fun r => (0 ≤ r.toInt ∧ r.toInt ≤ 2) ∧ (r.toInt = q_tf u_ (x + I0 a0 0) (y + I0 a0 3) (I0 a0 1) (I0 a0 2)))) 0 0 (fun _ => False) := by
  refine Met.ofW (cc := cX1_faultFor) (maxL := 5) (ret := (some .int)) (by decide) rfl ?_
  intro pr_ ev_ s m args below meth cd_ s₁ B hml hv
  obtain ⟨rfl, hE, hk, hX, hA, hK, hI, hR, hB0⟩ := hv
  have g : h_G h_so h_fk E A z I0 L0 s s.heap s.heap [] := ⟨hK, va_S.rf, hB0⟩
  have hx := B.exec
  have hb := B.bytes
  have hr := B.returns
  have hts := atoms_spec (ws := wsX1_faultFor) B.pre
  have hown : s.vm.findClass RX1 = some m.cls := findClass_of_methodNamed B.named
  have hlocks := B.notSynchronized
  have iX1 : ∀ w ∈ u_ws RX1 TX1 4, w ∈ wsX1_faultFor := by decide +kernel
  have hl := lv_entry ([.ref a0, .int x, .int y, .ref n0]) (n := 5) (Nat.le_of_ble_eq_true rfl)
  rw [lg_entry_eq]
  generalize (lg_sl ([.ref a0, .int x, .int y, .ref n0]) ++ List.replicate (5 - (lg_sl ([.ref a0, .int x, .int y, .ref n0])).length) Slot.unset).toArray = ls at hl ⊢
  have hl : lv_has ls 5 [(0, .ref a0), (1, .int x), (2, .int y), (3, .ref n0)] := hl
  have b_x : -2147483648 ≤ x_t ∧ x_t ≤ 2147483647 := h_x ▸ ⟨xi_lo x, Int.le_of_lt_add_one (xi_hi x)⟩
  have b_y : -2147483648 ≤ y_t ∧ y_t ≤ 2147483647 := h_y ▸ ⟨xi_lo y, Int.le_of_lt_add_one (xi_hi y)⟩
  obtain ⟨f0_0, ef0_0⟩ : ∃ v : Int32, v = I0 a0 0 := ⟨_, rfl⟩
  have qf0_0 : (I0 a0 0).toInt = f0_0.toInt := congrArg Int32.toInt ef0_0.symm
  have jf0_0 := hI.rd a0 0 t_a0 ef0_0 (rfl : h_bd 2 0 = ((-2147483648), 2147483647))
  obtain ⟨f0_1, ef0_1⟩ : ∃ v : Int32, v = I0 a0 1 := ⟨_, rfl⟩
  have qf0_1 : (I0 a0 1).toInt = f0_1.toInt := congrArg Int32.toInt ef0_1.symm
  have jf0_1 := hI.rd a0 1 t_a0 ef0_1 (rfl : h_bd 2 1 = ((-2147483648), 2147483647))
  obtain ⟨f0_2, ef0_2⟩ : ∃ v : Int32, v = I0 a0 2 := ⟨_, rfl⟩
  have qf0_2 : (I0 a0 2).toInt = f0_2.toInt := congrArg Int32.toInt ef0_2.symm
  have jf0_2 := hI.rd a0 2 t_a0 ef0_2 (rfl : h_bd 2 2 = ((-2147483648), 2147483647))
  obtain ⟨f0_3, ef0_3⟩ : ∃ v : Int32, v = I0 a0 3 := ⟨_, rfl⟩
  have qf0_3 : (I0 a0 3).toInt = f0_3.toInt := congrArg Int32.toInt ef0_3.symm
  have jf0_3 := hI.rd a0 3 t_a0 ef0_3 (rfl : h_bd 2 3 = ((-2147483648), 2147483647))
  rw [← ef0_2] at hpo
  refine lv_iload_n hx hb dX1_faultFor_0 rfl (lv_at hl 1 rfl) ?_
  refine lv_aload_n hx hb dX1_faultFor_1 rfl (lv_at hl 0 rfl) ?_
  refine h_get (v := .int f0_0) hx hb hts iX1 hown g t_a0 (by decide) so_2 rfl 0 (by decide) (hts (.fieldLink RX1 9 "CapLeague$Change" "more" "I") (by decide +kernel)) rfl dX1_faultFor_2 (congrArg Value.int (ef0_0.symm)) ?_
  refine lv_iadd hx hb dX1_faultFor_5 ?_
  refine lv_topi (fun v1 ev1 => ?_)
  have jv1 : -2147483648 ≤ v1.toInt ∧ v1.toInt ≤ 2147483647 := ⟨xi_lo _, Int.le_of_lt_add_one (xi_hi _)⟩
  refine lv_aload_n hx hb dX1_faultFor_6 rfl (lv_at hl 3 rfl) ?_
  refine lv_iconst (v := 1) hx hb dX1_faultFor_7 (by decide) ?_
  refine vp_callSi (W.runV (As := [.int 1]) (rest := [.int v1]) ⟨hx, hb, hml, hown, hts⟩ (tX5_numberF l E X A z I0 L0 n0 t_n0 1 (1) (by decide) (u_) (hu)) (cwV 1 hts gX1_faultFor_X5_number rfl rfl rfl (by decide +kernel) ⟨Nat.le_of_ble_eq_true rfl, Nat.le_of_ble_eq_true rfl⟩) ⟨h_blind _ _ _ _ _ _ _, h_recv g t_n0 (by decide) so_6 (q := (RX5, TX5, 3)) rfl, h_pre _ hE hk hX hA hI hR g⟩ rfl rfl hl.1 rfl (lv_room (Nat.le_of_ble_eq_true rfl)) dX1_faultFor_8 ⟨Nat.le_of_ble_eq_true rfl, Nat.le_of_ble_eq_true rfl⟩) (fun rh2 h2 => ?_)
  have h2p0 := h2
  have jrh2 : -2147483648 ≤ rh2.toInt ∧ rh2.toInt ≤ 2147483647 := ⟨xi_lo _, Int.le_of_lt_add_one (xi_hi _)⟩
  rw [q_num_at (u := u_) (x := 1) (n := 1) rfl (by decide)] at h2p0
  refine lv_icmp_le (tgt := 16) hx hb dX1_faultFor_11 (by decide) (fun c3 => ?_) (fun c3 => ?_)
  · have ic3 := (xi_le c3 rfl rfl : v1.toInt ≤ rh2.toInt)
    refine lv_aload_n hx hb dX1_faultFor_16 rfl (lv_at hl 0 rfl) ?_
    refine h_get (v := .int f0_2) hx hb hts iX1 hown g t_a0 (by decide) so_2 rfl 2 (by decide) (hts (.fieldLink RX1 18 "CapLeague$Change" "payOut" "I") (by decide +kernel)) rfl dX1_faultFor_17 (congrArg Value.int (ef0_2.symm)) ?_
    refine lv_aload_n hx hb dX1_faultFor_20 rfl (lv_at hl 3 rfl) ?_
    refine lv_iconst (v := 4) hx hb dX1_faultFor_21 (by decide) ?_
    refine vp_callSi (W.runV (As := [.int 4]) (rest := [.int f0_2]) ⟨hx, hb, hml, hown, hts⟩ (tX5_numberF l E X A z I0 L0 n0 t_n0 4 (4) (by decide) (u_) (hu)) (cwV 1 hts gX1_faultFor_X5_number rfl rfl rfl (by decide +kernel) ⟨Nat.le_of_ble_eq_true rfl, Nat.le_of_ble_eq_true rfl⟩) ⟨h_blind _ _ _ _ _ _ _, h_recv g t_n0 (by decide) so_6 (q := (RX5, TX5, 3)) rfl, h_pre _ hE hk hX hA hI hR g⟩ rfl rfl hl.1 rfl (lv_room (Nat.le_of_ble_eq_true rfl)) dX1_faultFor_22 ⟨Nat.le_of_ble_eq_true rfl, Nat.le_of_ble_eq_true rfl⟩) (fun rh4 h4 => ?_)
    have h4p0 := h4
    have jrh4 : -2147483648 ≤ rh4.toInt ∧ rh4.toInt ≤ 2147483647 := ⟨xi_lo _, Int.le_of_lt_add_one (xi_hi _)⟩
    rw [q_num_at (u := u_) (x := 4) (n := 4) rfl (by decide)] at h4p0
    refine vp_callSi (xr_of (va_runSN (As := [.int f0_2, .int rh4]) (rest := []) ⟨hx, hb, hml, hown, hts⟩ (tX11_hunB l E X A z I0 L0 f0_2 (f0_2.toInt) rfl rh4 (rh4.toInt) rfl) (⟨va_cnB 2 hts gX1_faultFor_X11_hundredths_n30 rfl rfl rfl (hE.link 11 rfl) (hts (.initialized RX11) (by decide +kernel)) (by decide +kernel) ⟨Nat.le_of_ble_eq_true rfl, Nat.le_of_ble_eq_true rfl⟩, hts (.static yX11_hundredths) (by decide +kernel), trivial⟩) ⟨h_blind _ _ _ _ _ _ _, h_pre _ hE hk hX hA hI hR g⟩ rfl rfl hl.1 rfl (lv_room (Nat.le_of_ble_eq_true rfl)) dX1_faultFor_25 ⟨Nat.le_of_ble_eq_true rfl, Nat.le_of_ble_eq_true rfl⟩)) (fun rh5 h5 => ?_)
    have h5p0 := h5
    have jrh5 : -2147483648 ≤ rh5.toInt ∧ rh5.toInt ≤ 2147483647 := ⟨xi_lo _, Int.le_of_lt_add_one (xi_hi _)⟩
    have hm4 : 0 ≤ f0_2.toInt * u_ 4 ∧ f0_2.toInt * u_ 4 ≤ 400000 * 300 := q_mulb hpo.1 hpo.2 hob.2.2.2.2.1.1 hob.2.2.2.2.1.2
    rw [h4p0] at h5p0
    have h100 := h5p0 (by omega) hob.2.2.2.2.1.1 (by omega)
    have hd4 : 0 ≤ f0_2.toInt * u_ 4 / 100 ∧ f0_2.toInt * u_ 4 / 100 ≤ 1200000 := ⟨Int.ediv_nonneg hm4.1 (by decide), by omega⟩
    have hb5 := hob.2.2.2.2.2.1
    have jzrh5 : rh5.toInt = f0_2.toInt * u_ 4 / 100 := h100
    refine lv_aload_n hx hb dX1_faultFor_28 rfl (lv_at hl 3 rfl) ?_
    refine lv_iconst (v := 5) hx hb dX1_faultFor_29 (by decide) ?_
    refine vp_callSi (W.runV (As := [.int 5]) (rest := [.int rh5]) ⟨hx, hb, hml, hown, hts⟩ (tX5_numberF l E X A z I0 L0 n0 t_n0 5 (5) (by decide) (u_) (hu)) (cwV 1 hts gX1_faultFor_X5_number rfl rfl rfl (by decide +kernel) ⟨Nat.le_of_ble_eq_true rfl, Nat.le_of_ble_eq_true rfl⟩) ⟨h_blind _ _ _ _ _ _ _, h_recv g t_n0 (by decide) so_6 (q := (RX5, TX5, 3)) rfl, h_pre _ hE hk hX hA hI hR g⟩ rfl rfl hl.1 rfl (lv_room (Nat.le_of_ble_eq_true rfl)) dX1_faultFor_30 ⟨Nat.le_of_ble_eq_true rfl, Nat.le_of_ble_eq_true rfl⟩) (fun rh6 h6 => ?_)
    have h6p0 := h6
    have jrh6 : -2147483648 ≤ rh6.toInt ∧ rh6.toInt ≤ 2147483647 := ⟨xi_lo _, Int.le_of_lt_add_one (xi_hi _)⟩
    rw [q_num_at (u := u_) (x := 5) (n := 5) rfl (by decide)] at h6p0
    have brh6 : 0 ≤ rh6.toInt ∧ rh6.toInt ≤ 5000 := by omega
    refine lv_iadd hx hb dX1_faultFor_33 ?_
    refine lv_topi (fun v7 ev7 => ?_)
    have jv7 : v7.toInt = rh5.toInt + rh6.toInt := xi_add ev7 rfl rfl (by omega) (by omega)
    refine lv_istore (lv' := [(4, .int v7), (0, .ref a0), (1, .int x), (2, .int y), (3, .ref n0)]) hx hb dX1_faultFor_34 hl (by decide) rfl (fun ls hl => ?_)
    refine lv_iload_n hx hb dX1_faultFor_36 rfl (lv_at hl 3 rfl) ?_
    refine lv_aload_n hx hb dX1_faultFor_37 rfl (lv_at hl 1 rfl) ?_
    refine h_get (v := .int f0_3) hx hb hts iX1 hown g t_a0 (by decide) so_2 rfl 3 (by decide) (hts (.fieldLink RX1 21 "CapLeague$Change" "countMore" "I") (by decide +kernel)) rfl dX1_faultFor_38 (congrArg Value.int (ef0_3.symm)) ?_
    refine lv_iadd hx hb dX1_faultFor_41 ?_
    refine lv_topi (fun v8 ev8 => ?_)
    have jv8 : -2147483648 ≤ v8.toInt ∧ v8.toInt ≤ 2147483647 := ⟨xi_lo _, Int.le_of_lt_add_one (xi_hi _)⟩
    refine lv_aload_n hx hb dX1_faultFor_42 rfl (lv_at hl 4 rfl) ?_
    refine lv_iconst (v := 0) hx hb dX1_faultFor_43 (by decide) ?_
    refine vp_callSi (W.runV (As := [.int 0]) (rest := [.int v8]) ⟨hx, hb, hml, hown, hts⟩ (tX5_numberF l E X A z I0 L0 n0 t_n0 0 (0) (by decide) (u_) (hu)) (cwV 1 hts gX1_faultFor_X5_number rfl rfl rfl (by decide +kernel) ⟨Nat.le_of_ble_eq_true rfl, Nat.le_of_ble_eq_true rfl⟩) ⟨h_blind _ _ _ _ _ _ _, h_recv g t_n0 (by decide) so_6 (q := (RX5, TX5, 3)) rfl, h_pre _ hE hk hX hA hI hR g⟩ rfl rfl hl.1 rfl (lv_room (Nat.le_of_ble_eq_true rfl)) dX1_faultFor_44 ⟨Nat.le_of_ble_eq_true rfl, Nat.le_of_ble_eq_true rfl⟩) (fun rh9 h9 => ?_)
    have h9p0 := h9
    have jrh9 : -2147483648 ≤ rh9.toInt ∧ rh9.toInt ≤ 2147483647 := ⟨xi_lo _, Int.le_of_lt_add_one (xi_hi _)⟩
    rw [q_num_at (u := u_) (x := 0) (n := 0) rfl (by decide)] at h9p0
    refine lv_icmp_le (tgt := 63) hx hb dX1_faultFor_47 (by decide) (fun c10 => ?_) (fun c10 => ?_)
    · have ic10 := (xi_le c10 rfl rfl : v8.toInt ≤ rh9.toInt)
      refine lv_iconst (v := 0) hx hb dX1_faultFor_63 (by decide) ?_
      exact W.iret (v := 0) hx hb hr (fun t ht hW => ⟨0, rfl, ⟨⟨(by decide), (by decide)⟩, (by have z9 : (0 : Int32).toInt = 0 := (by decide); rw [← ef0_0, ← ef0_1, ← ef0_2, ← ef0_3, ← ev1, ← ev8]; exact q_tf_0 (by omega) (by omega) z9)⟩, ht⟩) (fun _ h => by cases h) dX1_faultFor_64
    · have ic10 := (xi_nle c10 rfl rfl : rh9.toInt < v8.toInt)
      refine lv_aload_n hx hb dX1_faultFor_50 rfl (lv_at hl 1 rfl) ?_
      refine h_get (v := .int f0_1) hx hb hts iX1 hown g t_a0 (by decide) so_2 rfl 1 (by decide) (hts (.fieldLink RX1 15 "CapLeague$Change" "payIn" "I") (by decide +kernel)) rfl dX1_faultFor_51 (congrArg Value.int (ef0_1.symm)) ?_
      refine lv_iload hx hb dX1_faultFor_54 (lv_at hl 0 rfl) ?_
      refine lv_icmp_le (tgt := 63) hx hb dX1_faultFor_56 (by decide) (fun c11 => ?_) (fun c11 => ?_)
      · have ic11 := (xi_le c11 rfl rfl : f0_1.toInt ≤ v7.toInt)
        refine lv_iconst (v := 0) hx hb dX1_faultFor_63 (by decide) ?_
        exact W.iret (v := 0) hx hb hr (fun t ht hW => ⟨0, rfl, ⟨⟨(by decide), (by decide)⟩, (by have z9 : (0 : Int32).toInt = 0 := (by decide); rw [← ef0_0, ← ef0_1, ← ef0_2, ← ef0_3, ← ev1, ← ev8]; exact q_tf_0 (by omega) (by omega) z9)⟩, ht⟩) (fun _ h => by cases h) dX1_faultFor_64
      · have ic11 := (xi_nle c11 rfl rfl : v7.toInt < f0_1.toInt)
        refine lv_iconst (v := 2) hx hb dX1_faultFor_59 (by decide) ?_
        refine lv_goto (tgt := 64) hx hb dX1_faultFor_60 (by decide) ?_
        exact W.iret (v := 2) hx hb hr (fun t ht hW => ⟨2, rfl, ⟨⟨(by decide), (by decide)⟩, (by have z9 : (2 : Int32).toInt = 2 := (by decide); rw [← ef0_0, ← ef0_1, ← ef0_2, ← ef0_3, ← ev1, ← ev8]; exact q_tf_2 (by omega) (by omega) (by omega) z9)⟩, ht⟩) (fun _ h => by cases h) dX1_faultFor_64
  · have ic3 := (xi_nle c3 rfl rfl : rh2.toInt < v1.toInt)
    refine lv_iconst (v := 1) hx hb dX1_faultFor_14 (by decide) ?_
    exact W.iret (v := 1) hx hb hr (fun t ht hW => ⟨1, rfl, ⟨⟨(by decide), (by decide)⟩, (by have z9 : (1 : Int32).toInt = 1 := (by decide); rw [← ef0_0, ← ef0_1, ← ef0_2, ← ef0_3, ← ev1]; exact q_tf_1 (by omega) z9)⟩, ht⟩) (fun _ h => by cases h) dX1_faultFor_15
set_option maxHeartbeats 4000000 in
set_option maxRecDepth 100000 in
theorem tX9_faultB (l : Launch) (E : tE) (X : tX) (A : Nat → Prop) (z : tZ) (I0 : tI) (L0 : tL) (a0 : Nat) (t_a0 : z.ty a0 = 10) (c : Int32) (c_t : Int) (h_c : c.toInt = c_t) (b_c : 0 ≤ c_t ∧ c_t ≤ 7) (u_ : Nat → Int) (htp : h_tpre z I0 (h_ad z a0 0) (h_ad z a0 5) (h_ad z a0 6) (I0 a0 3).toInt u_) : Met l yX9_faultFor wsX9_faultFor ({ frames := 5, cells := 0, slots := 0, locals := 320 }) (va_Pc [.ref a0, .int c] (h_P E X A z I0 L0)) (va_Qi (fun r (I1 : tI) => h_I z I1 ∧ h_F [(2, 0), (2, 1), (2, 2), (2, 3)] z I0 I1 ∧ (0 ≤ r.toInt ∧ r.toInt ≤ 2) ∧ (r.toInt = c_tfx z I0 (h_ad z a0 0) (h_ad z a0 5) (h_ad z a0 6) (h_ad z a0 7) (h_ad z a0 8) (I0 a0 3).toInt.toNat u_ c_t)) (fun (I1 : tI) t => h_B E A z I1 L0 t) A) 0 0 A := by
  refine Met.ofW (cc := cX9_faultFor) (maxL := 4) (ret := (some .int)) (by decide) rfl ?_
  intro pr_ ev_ s m args below meth cd_ s₁ B hml hv
  obtain ⟨rfl, hE, hk, hX, hA, hK, hI, hR, hB0⟩ := hv
  have g : h_G h_so h_fk E A z I0 L0 s s.heap s.heap [] := ⟨hK, va_S.rf, hB0⟩
  have hF : h_F [(2, 0), (2, 1), (2, 2), (2, 3)] z I0 I0 := h_F.rf
  have hx := B.exec
  have hb := B.bytes
  have hr := B.returns
  have hts := atoms_spec (ws := wsX9_faultFor) B.pre
  have hown : s.vm.findClass RX9 = some m.cls := findClass_of_methodNamed B.named
  have hlocks := B.notSynchronized
  have iX9 : ∀ w ∈ u_ws RX9 TX9 10, w ∈ wsX9_faultFor := by decide +kernel
  have iX0 : ∀ w ∈ u_ws RX0 TX0 9, w ∈ wsX9_faultFor := by decide +kernel
  have hl := lv_entry ([.ref a0, .int c]) (n := 4) (Nat.le_of_ble_eq_true rfl)
  rw [lg_entry_eq]
  generalize (lg_sl ([.ref a0, .int c]) ++ List.replicate (4 - (lg_sl ([.ref a0, .int c])).length) Slot.unset).toArray = ls at hl ⊢
  have hl : lv_has ls 4 [(0, .ref a0), (1, .int c)] := hl
  obtain ⟨bk, rbk, tbk⟩ := hR.at a0 0 t_a0 (rfl : h_rs 10 0 = some (1, false)) (by decide)
  have abk : h_ad z a0 0 = bk := h_ad.at rbk
  obtain ⟨ch, rch, tch⟩ := hR.at a0 2 t_a0 (rfl : h_rs 10 2 = some (2, false)) (by decide)
  have ach : h_ad z a0 2 = ch := h_ad.at rch
  obtain ⟨it, rit, tit⟩ := hR.at a0 5 t_a0 (rfl : h_rs 10 5 = some (1005, false)) (by decide)
  have ait : h_ad z a0 5 = it := h_ad.at rit
  obtain ⟨th, rth, tth⟩ := hR.at a0 6 t_a0 (rfl : h_rs 10 6 = some (1006, false)) (by decide)
  have ath : h_ad z a0 6 = th := h_ad.at rth
  obtain ⟨fr, rfr, tfr⟩ := hR.at a0 7 t_a0 (rfl : h_rs 10 7 = some (1007, false)) (by decide)
  have afr : h_ad z a0 7 = fr := h_ad.at rfr
  obtain ⟨to, rto, tto⟩ := hR.at a0 8 t_a0 (rfl : h_rs 10 8 = some (1008, false)) (by decide)
  have ato : h_ad z a0 8 = to := h_ad.at rto
  obtain ⟨pl, rpl, tpl⟩ := hR.at bk 1 tbk (rfl : h_rs 1 1 = some (101, false)) (by decide)
  have apl : h_ad z bk 1 = pl := h_ad.at rpl
  obtain ⟨lb, rlb, tlb⟩ := hR.at bk 0 tbk (rfl : h_rs 1 0 = some (4, false)) (by decide)
  have alb : h_ad z bk 0 = lb := h_ad.at rlb
  obtain ⟨un, run, tun⟩ := hR.at lb 0 tlb (rfl : h_rs 4 0 = some (6, false)) (by decide)
  have aun : h_ad z lb 0 = un := h_ad.at run
  obtain ⟨tx, rtx, ttx⟩ := hR.at lb 1 tlb (rfl : h_rs 4 1 = some (401, false)) (by decide)
  have atx : h_ad z lb 1 = tx := h_ad.at rtx
  obtain ⟨f0_3, ef0_3⟩ : ∃ v : Int32, v = I0 a0 3 := ⟨_, rfl⟩
  have qf0_3 : (I0 a0 3).toInt = f0_3.toInt := congrArg Int32.toInt ef0_3.symm
  have jf0_3 := hI.rd a0 3 t_a0 ef0_3 (rfl : h_bd 10 3 = (0, 12))
  obtain ⟨k_2, ek_2⟩ : ∃ v : Int32, v = I0 bk 2 := ⟨_, rfl⟩
  have qk_2 : (I0 bk 2).toInt = k_2.toInt := congrArg Int32.toInt ek_2.symm
  have jk_2 := hI.rd bk 2 tbk ek_2 (rfl : h_bd 1 2 = (0, 60))
  obtain ⟨k_3, ek_3⟩ : ∃ v : Int32, v = I0 bk 3 := ⟨_, rfl⟩
  have qk_3 : (I0 bk 3).toInt = k_3.toInt := congrArg Int32.toInt ek_3.symm
  have jk_3 := hI.rd bk 3 tbk ek_3 (rfl : h_bd 1 3 = (0, 9))
  rw [abk, ait, ath, ← ef0_3] at htp
  have htq := id htp
  unfold h_tpre at htq
  rw [alb, aun, atx, apl, ← ek_2, ← ek_3] at htq
  obtain ⟨hcl, hob, hnn, hmp, hpb⟩ := htq
  obtain ⟨kd, ekd⟩ : ∃ g : Nat → Nat, g = c_kd I0 it fr to c_t := ⟨_, rfl⟩
  obtain ⟨py, epy⟩ : ∃ g : Nat → Int32, g = c_py z I0 bk th := ⟨_, rfl⟩
  obtain ⟨ct, ect⟩ : ∃ g : Nat → Int32, g = c_ct z I0 bk th (u_ 6) := ⟨_, rfl⟩
  refine lv_aload_n hx hb dX9_faultFor_0 rfl (lv_at hl 0 rfl) ?_
  refine h_get (v := .ref ch) hx hb hts iX9 hown g t_a0 (by decide) so_10 rfl 2 (by decide) (hts (.fieldLink RX9 12 "CapLeague$Trade" "change" "LCapLeague$Change;") (by decide +kernel)) rfl dX9_faultFor_1 (by show va_rf (z.R a0 2) = _; rw [rch]; rfl) ?_
  refine va_callv (va_runV (As := []) (rest := []) ⟨hx, hb, hml, hown, hts⟩ (tX1_clearB l E X A z I0 L0 ch tch) (cwV 0 hts gX9_faultFor_X1_clear rfl rfl rfl (by decide +kernel) ⟨Nat.le_of_ble_eq_true rfl, Nat.le_of_ble_eq_true rfl⟩) ⟨h_blind _ _ _ _ _ _ _, h_recv g tch (by decide) so_2 (q := (RX1, TX1, 4)) rfl, h_pre _ hE hk hX hA hI hR g⟩ rfl rfl hl.1 rfl (lv_room (Nat.le_of_ble_eq_true rfl)) dX9_faultFor_4 ⟨Nat.le_of_ble_eq_true rfl, Nat.le_of_ble_eq_true rfl⟩) g.2.1 (fun q _ h => h) (fun q h => h) (fun I2 t H1 locs ht hvm h1 hB hz1 hk1 hS => ?_)
  obtain ⟨hI, fh1, h1⟩ := h1
  replace g := h_after g hB ht hS
  generalize H1 = H at g
  clear hB hk1 hz1 ht hvm hS
  have hF := hF.call fh1 rfl
  have h1p0 := h1
  refine lv_iconst (v := 0) hx hb dX9_faultFor_7 (by decide) ?_
  refine lv_istore_n (lv' := [(2, .int 0), (0, .ref a0), (1, .int c)]) hx hb dX9_faultFor_8 rfl hl (by decide) rfl (fun ls hl => ?_)
  have loop9_0 : ∀ (n : Nat) (I4 : tI) (H : Heap) (locs : List Loc) (ls : Array Slot) (v3 : Int32), h_G h_so h_fk E A z I4 L0 s s.heap H locs → h_I z I4 → h_F [(2, 0), (2, 1), (2, 2), (2, 3)] z I0 I4 → lv_has ls 4 [(0, .ref a0), (1, .int c), (2, .int v3)] → (0 ≤ v3.toInt ∧ v3.toInt ≤ 12) → h_F [(2, 0), (2, 1), (2, 2), (2, 3)] z I2 I4 → (I4 ch 0 = q_pm kd (fun _ => 1) 0 (v3.toInt).toNat) → (I4 ch 1 = q_on 1 kd py (v3.toInt).toNat) → (I4 ch 2 = q_on 2 kd py (v3.toInt).toNat) → (I4 ch 3 = q_pm kd ct 0 (v3.toInt).toNat) → (v3.toInt ≤ f0_3.toInt) → (12 - v3.toInt) < (n : Int) → W pr_ l ev_ (headSpec wsX9_faultFor ({ frames := 5, cells := 0, slots := 0, locals := 320 })).room s m ([.ref a0, .int c] : List Value).toArray below meth cd_ H locs 0 0 (MQ below (va_Qi (fun r (I1 : tI) => h_I z I1 ∧ h_F [(2, 0), (2, 1), (2, 2), (2, 3)] z I0 I1 ∧ (0 ≤ r.toInt ∧ r.toInt ≤ 2) ∧ (r.toInt = c_tfx z I0 (h_ad z a0 0) (h_ad z a0 5) (h_ad z a0 6) (h_ad z a0 7) (h_ad z a0 8) (I0 a0 3).toInt.toNat u_ c_t)) (fun (I1 : tI) t => h_B E A z I1 L0 t) A) ([.ref a0, .int c] : List Value).toArray s 0 0 A) (F0 m 9 ls []) := by
    intro n
    induction n with
    | zero => intro I4 H locs ls v3 g hI hF hl jv3 hL9 hx9_0 hx9_1 hx9_2 hx9_3 hx9_4 hn; exact absurd hn (by omega)
    | succ n ih9 =>
      intro I4 H locs ls v3 g hI hF hl jv3 hL9 hx9_0 hx9_1 hx9_2 hx9_3 hx9_4 hn
      have kv : v3.toNatClampNeg = v3.toInt.toNat := h_keq rfl (by omega) (by omega)
      refine lv_iload_n hx hb dX9_faultFor_9 rfl (lv_at hl 2 rfl) ?_
      refine lv_aload_n hx hb dX9_faultFor_10 rfl (lv_at hl 0 rfl) ?_
      refine h_get (v := .int f0_3) hx hb hts iX9 hown g t_a0 (by decide) so_10 rfl 3 (by decide) (hts (.fieldLink RX9 43 "CapLeague$Trade" "size" "I") (by decide +kernel)) rfl dX9_faultFor_11 (congrArg Value.int ((h_F.at hL9 t_a0 rfl).trans ((h_F.at fh1 t_a0 rfl).trans (ef0_3.symm)))) ?_
      refine lv_icmp_ge (tgt := 147) hx hb dX9_faultFor_14 (by decide) (fun c5 => ?_) (fun c5 => ?_)
      · have ic5 := (xi_le c5 rfl rfl : f0_3.toInt ≤ v3.toInt)
        refine lv_aload_n hx hb dX9_faultFor_147 rfl (lv_at hl 0 rfl) ?_
        refine h_get (v := .ref bk) hx hb hts iX9 hown g t_a0 (by decide) so_10 rfl 0 (by decide) (hts (.fieldLink RX9 35 "CapLeague$Trade" "books" "LCapLeague$Books;") (by decide +kernel)) rfl dX9_faultFor_148 (by show va_rf (z.R a0 0) = _; rw [rbk]; rfl) ?_
        refine lv_iload_n hx hb dX9_faultFor_151 rfl (lv_at hl 1 rfl) ?_
        refine lv_aload_n hx hb dX9_faultFor_152 rfl (lv_at hl 0 rfl) ?_
        refine h_get (v := .ref bk) hx hb hts iX9 hown g t_a0 (by decide) so_10 rfl 0 (by decide) (hts (.fieldLink RX9 35 "CapLeague$Trade" "books" "LCapLeague$Books;") (by decide +kernel)) rfl dX9_faultFor_153 (by show va_rf (z.R a0 0) = _; rw [rbk]; rfl) ?_
        refine h_get (v := .int k_3) hx hb hts iX0 hown g tbk (by decide) so_1 rfl 3 (by decide) (hts (.fieldLink RX9 76 "CapLeague$Books" "clock" "I") (by decide +kernel)) rfl dX9_faultFor_156 (congrArg Value.int ((h_F.at hL9 tbk rfl).trans ((h_F.at fh1 tbk rfl).trans (ek_3.symm)))) ?_
        refine vp_callSi (W.runV (As := [.int c, .int k_3]) (rest := []) ⟨hx, hb, hml, hown, hts⟩ (tX0_playersInB l E X A z I4 L0 bk tbk c (c_t) h_c k_3 (k_3.toInt) rfl (by rw [apl, show I4 bk 2 = k_2 from (h_F.at hL9 tbk rfl).trans ((h_F.at fh1 tbk rfl).trans (ek_2.symm))]; exact hnn)) (cwV 2 hts gX9_faultFor_X0_playersIn rfl rfl rfl (by decide +kernel) ⟨Nat.le_of_ble_eq_true rfl, Nat.le_of_ble_eq_true rfl⟩) ⟨h_blind _ _ _ _ _ _ _, h_recv g tbk (by decide) so_1 (q := (RX0, TX0, 9)) rfl, h_pre _ hE hk hX hA hI hR g⟩ rfl rfl hl.1 rfl (lv_room (Nat.le_of_ble_eq_true rfl)) dX9_faultFor_159 ⟨Nat.le_of_ble_eq_true rfl, Nat.le_of_ble_eq_true rfl⟩) (fun rh6 h6 => ?_)
        have h6p0 := h6
        have jrh6 : -2147483648 ≤ rh6.toInt ∧ rh6.toInt ≤ 2147483647 := ⟨xi_lo _, Int.le_of_lt_add_one (xi_hi _)⟩
        rw [c_many_F hR hF tbk apl tpl (fun _ => rfl) (fun _ => rfl) (show (I0 bk 2).toInt = k_2.toInt by rw [← ek_2]) (by omega) hnn] at h6p0
        refine lv_istore_n (lv' := [(2, .int rh6), (0, .ref a0), (1, .int c)]) hx hb dX9_faultFor_162 rfl hl (by decide) rfl (fun ls hl => ?_)
        refine lv_aload_n hx hb dX9_faultFor_163 rfl (lv_at hl 1 rfl) ?_
        refine h_get (v := .ref ch) hx hb hts iX9 hown g t_a0 (by decide) so_10 rfl 2 (by decide) (hts (.fieldLink RX9 12 "CapLeague$Trade" "change" "LCapLeague$Change;") (by decide +kernel)) rfl dX9_faultFor_164 (by show va_rf (z.R a0 2) = _; rw [rch]; rfl) ?_
        refine lv_iload_n hx hb dX9_faultFor_167 rfl (lv_at hl 0 rfl) ?_
        refine lv_aload_n hx hb dX9_faultFor_168 rfl (lv_at hl 1 rfl) ?_
        refine h_get (v := .ref bk) hx hb hts iX9 hown g t_a0 (by decide) so_10 rfl 0 (by decide) (hts (.fieldLink RX9 35 "CapLeague$Trade" "books" "LCapLeague$Books;") (by decide +kernel)) rfl dX9_faultFor_169 (by show va_rf (z.R a0 0) = _; rw [rbk]; rfl) ?_
        refine lv_iload_n hx hb dX9_faultFor_172 rfl (lv_at hl 2 rfl) ?_
        refine lv_aload_n hx hb dX9_faultFor_173 rfl (lv_at hl 1 rfl) ?_
        refine h_get (v := .ref bk) hx hb hts iX9 hown g t_a0 (by decide) so_10 rfl 0 (by decide) (hts (.fieldLink RX9 35 "CapLeague$Trade" "books" "LCapLeague$Books;") (by decide +kernel)) rfl dX9_faultFor_174 (by show va_rf (z.R a0 0) = _; rw [rbk]; rfl) ?_
        refine h_get (v := .int k_3) hx hb hts iX0 hown g tbk (by decide) so_1 rfl 3 (by decide) (hts (.fieldLink RX9 76 "CapLeague$Books" "clock" "I") (by decide +kernel)) rfl dX9_faultFor_177 (congrArg Value.int ((h_F.at hL9 tbk rfl).trans ((h_F.at fh1 tbk rfl).trans (ek_3.symm)))) ?_
        refine vp_callSi (W.runV (As := [.int c, .int k_3]) (rest := [.int rh6, .ref ch]) ⟨hx, hb, hml, hown, hts⟩ (tX0_countsB l E X A z I4 L0 bk tbk c (c_t) h_c (by omega) k_3 (k_3.toInt) rfl (by omega) (u_) (by rw [alb, aun, atx, show I4 bk 3 = k_3 from (h_F.at hL9 tbk rfl).trans ((h_F.at fh1 tbk rfl).trans (ek_3.symm))]; exact h_lwF hR hF (fun _ => rfl) (fun _ => rfl) (fun _ => rfl) ttx tun hcl) (hob) (by rw [apl, show I4 bk 2 = k_2 from (h_F.at hL9 tbk rfl).trans ((h_F.at fh1 tbk rfl).trans (ek_2.symm))]; exact hnn)) (cwV 2 hts gX9_faultFor_X0_counts rfl rfl rfl (by decide +kernel) ⟨Nat.le_of_ble_eq_true rfl, Nat.le_of_ble_eq_true rfl⟩) ⟨h_blind _ _ _ _ _ _ _, h_recv g tbk (by decide) so_1 (q := (RX0, TX0, 9)) rfl, h_pre _ hE hk hX hA hI hR g⟩ rfl rfl hl.1 rfl (lv_room (Nat.le_of_ble_eq_true rfl)) dX9_faultFor_180 ⟨Nat.le_of_ble_eq_true rfl, Nat.le_of_ble_eq_true rfl⟩) (fun rh7 h7 => ?_)
        have h7p0 := h7
        have jrh7 : -2147483648 ≤ rh7.toInt ∧ rh7.toInt ≤ 2147483647 := ⟨xi_lo _, Int.le_of_lt_add_one (xi_hi _)⟩
        rw [c_cnt_F hR hF tbk apl tpl (fun _ => rfl) (fun _ => rfl) (fun _ => rfl) (show (I0 bk 2).toInt = k_2.toInt by rw [← ek_2]) (by omega) hnn (by omega)] at h7p0
        refine lv_aload_n hx hb dX9_faultFor_183 rfl (lv_at hl 1 rfl) ?_
        refine h_get (v := .ref bk) hx hb hts iX9 hown g t_a0 (by decide) so_10 rfl 0 (by decide) (hts (.fieldLink RX9 35 "CapLeague$Trade" "books" "LCapLeague$Books;") (by decide +kernel)) rfl dX9_faultFor_184 (by show va_rf (z.R a0 0) = _; rw [rbk]; rfl) ?_
        refine va_csq (W.runV (As := []) (rest := [.int rh7, .int rh6, .ref ch]) ⟨hx, hb, hml, hown, hts⟩ (tX0_lawsNowF l E X A z I4 L0 bk tbk) (cwV 0 hts gX9_faultFor_X0_lawsNow rfl rfl rfl (by decide +kernel) ⟨Nat.le_of_ble_eq_true rfl, Nat.le_of_ble_eq_true rfl⟩) ⟨h_blind _ _ _ _ _ _ _, h_recv g tbk (by decide) so_1 (q := (RX0, TX0, 9)) rfl, h_pre _ hE hk hX hA hI hR g⟩ rfl rfl hl.1 rfl (lv_room (Nat.le_of_ble_eq_true rfl)) dX9_faultFor_187 ⟨Nat.le_of_ble_eq_true rfl, Nat.le_of_ble_eq_true rfl⟩) (fun rh8 h8 => ?_)
        obtain ⟨h8, h8p0⟩ := h8
        obtain ⟨rh8, rfl, trh8⟩ := h8
        refine xw_v (v := .ref rh8) rfl ?_
        rw [alb, aun, atx, show I4 bk 3 = k_3 from (h_F.at hL9 tbk rfl).trans ((h_F.at fh1 tbk rfl).trans (ek_3.symm))] at h8p0
        obtain ⟨bb, ebb, hof⟩ := h8p0
        cases ebb
        have hlb := h_lwF hR hF (fun _ => rfl) (fun _ => rfl) (fun _ => rfl) ttx tun hcl _ hof
        have eN : v3.toInt.toNat = f0_3.toInt.toNat := by omega
        rw [eN] at hx9_0 hx9_1 hx9_2 hx9_3
        have htp2 : h_tpre z I0 bk it th ((f0_3.toInt.toNat : Nat) : Int) u_ := by rw [show ((f0_3.toInt.toNat : Nat) : Int) = f0_3.toInt by omega]; exact htp
        have hpo := htp2.po (fr := fr) (to_ := to) (by omega) c_t 2 (by decide)
        rw [← ekd, ← epy, ← hx9_2] at hpo
        refine vp_callSi (W.runV (As := [.int rh6, .int rh7, .ref rh8]) (rest := []) ⟨hx, hb, hml, hown, hts⟩ (tX1_faultB l E X A z I4 L0 ch tch rh6 (rh6.toInt) rfl rh7 (rh7.toInt) rfl rh8 trh8 (u_) (hlb) (hob) (hpo)) (cwV 3 hts gX9_faultFor_X1_faultFor rfl rfl rfl (by decide +kernel) ⟨Nat.le_of_ble_eq_true rfl, Nat.le_of_ble_eq_true rfl⟩) ⟨h_blind _ _ _ _ _ _ _, h_recv g tch (by decide) so_2 (q := (RX1, TX1, 4)) rfl, h_pre _ hE hk hX hA hI hR g⟩ rfl rfl hl.1 rfl (lv_room (Nat.le_of_ble_eq_true rfl)) dX9_faultFor_190 ⟨Nat.le_of_ble_eq_true rfl, Nat.le_of_ble_eq_true rfl⟩) (fun rh9 h9 => ?_)
        obtain ⟨h9, h9p0⟩ := h9
        have hS := g.2.1
        exact W.iret (v := rh9) hx hb hr (fun t ht hW => ⟨⟨rh9, I4, rfl, ⟨hI, hF, ⟨⟨(by omega), (by omega)⟩, (by rw [abk, ait, ath, afr, ato, ← ef0_3]; unfold c_tfx; rw [← ekd, ← epy, ← ect, ← ek_3, ← hx9_0, ← hx9_1, ← hx9_2, ← hx9_3, ← h6p0, ← h7p0]; exact h9p0)⟩⟩, h_ret g ht⟩, hS.F ht⟩) hS.2.2 dX9_faultFor_193
      · have ic5 := (xi_nle c5 rfl rfl : v3.toInt < f0_3.toInt)
        refine lv_aload_n hx hb dX9_faultFor_17 rfl (lv_at hl 0 rfl) ?_
        refine h_get (v := .ref it) hx hb hts iX9 hown g t_a0 (by decide) so_10 rfl 5 (by decide) (hts (.fieldLink RX9 18 "CapLeague$Trade" "isTurn" "[Z") (by decide +kernel)) rfl dX9_faultFor_18 (by show va_rf (z.R a0 5) = _; rw [rit]; rfl) ?_
        refine lv_iload_n hx hb dX9_faultFor_21 rfl (lv_at hl 2 rfl) ?_
        refine h_zald hx hb g tit (by decide) so_1005 (xi_in (by omega) (by omega)) dX9_faultFor_22 ?_
        refine lv_topi (fun v10 ev10 => ?_)
        have jv10 := hI.rd it v3.toNatClampNeg tit ev10 (rfl : h_bd 1005 _ = (0, 1))
        have gv10 : I0 it v3.toInt.toNat = v10 := by rw [← kv, ev10]; exact (hF.at tit rfl).symm
        refine lv_if_eq (tgt := 30) hx hb dX9_faultFor_23 (by decide) (fun c11 => ?_) (fun c11 => ?_)
        · have ic11 := (xi_eq c11 rfl (by decide) : v10.toInt = 0)
          refine lv_aload_n hx hb dX9_faultFor_30 rfl (lv_at hl 0 rfl) ?_
          refine h_get (v := .ref bk) hx hb hts iX9 hown g t_a0 (by decide) so_10 rfl 0 (by decide) (hts (.fieldLink RX9 35 "CapLeague$Trade" "books" "LCapLeague$Books;") (by decide +kernel)) rfl dX9_faultFor_31 (by show va_rf (z.R a0 0) = _; rw [rbk]; rfl) ?_
          refine lv_aload_n hx hb dX9_faultFor_34 rfl (lv_at hl 0 rfl) ?_
          refine h_get (v := .ref th) hx hb hts iX9 hown g t_a0 (by decide) so_10 rfl 6 (by decide) (hts (.fieldLink RX9 22 "CapLeague$Trade" "thing" "[I") (by decide +kernel)) rfl dX9_faultFor_35 (by show va_rf (z.R a0 6) = _; rw [rth]; rfl) ?_
          refine lv_iload_n hx hb dX9_faultFor_38 rfl (lv_at hl 2 rfl) ?_
          refine h_ald hx hb g tth (by decide) so_1006 (xi_in (by omega) (by omega)) dX9_faultFor_39 ?_
          refine lv_topi (fun v12 ev12 => ?_)
          have jv12 := hI.rd th v3.toNatClampNeg tth ev12 (rfl : h_bd 1006 _ = ((-2147483648), 2147483647))
          have gv12 : I0 th v3.toInt.toNat = v12 := by rw [← kv, ev12]; exact (hF.at tth rfl).symm
          have mv12 := hmp v3.toInt.toNat (by omega) (by rw [gv10]; omega)
          rw [gv12] at mv12
          refine va_csq (W.runV (As := [.int v12]) (rest := []) ⟨hx, hb, hml, hown, hts⟩ (tX0_playerAtN l E X A z I4 L0 bk tbk v12 (v12.toInt) rfl (by omega) (by rw [show I4 bk 2 = k_2 from (h_F.at hL9 tbk rfl).trans ((h_F.at fh1 tbk rfl).trans (ek_2.symm))]; omega) (by rw [apl]; exact hnn _ (by omega))) (cwV 1 hts gX9_faultFor_X0_playerAt rfl rfl rfl (by decide +kernel) ⟨Nat.le_of_ble_eq_true rfl, Nat.le_of_ble_eq_true rfl⟩) ⟨h_blind _ _ _ _ _ _ _, h_recv g tbk (by decide) so_1 (q := (RX0, TX0, 9)) rfl, h_pre _ hE hk hX hA hI hR g⟩ rfl rfl hl.1 rfl (lv_room (Nat.le_of_ble_eq_true rfl)) dX9_faultFor_40 ⟨Nat.le_of_ble_eq_true rfl, Nat.le_of_ble_eq_true rfl⟩) (fun rh13 h13 => ?_)
          obtain ⟨h13, h13p0⟩ := h13
          obtain ⟨rh13, rfl, trh13⟩ := h13
          refine xw_v (v := .ref rh13) rfl ?_
          rw [apl] at h13p0
          have rp : z.R pl v12.toInt.toNat = some rh13 := h13p0.symm
          refine lv_astore_n (lv' := [(3, .ref rh13), (0, .ref a0), (1, .int c), (2, .int v3)]) hx hb dX9_faultFor_43 rfl hl (by decide) rfl (fun ls hl => ?_)
          refine lv_aload_n hx hb dX9_faultFor_44 rfl (lv_at hl 0 rfl) ?_
          refine lv_ifnull hx hb dX9_faultFor_45 ?_
          refine lv_aload_n hx hb dX9_faultFor_48 rfl (lv_at hl 1 rfl) ?_
          refine h_get (v := .ref to) hx hb hts iX9 hown g t_a0 (by decide) so_10 rfl 8 (by decide) (hts (.fieldLink RX9 29 "CapLeague$Trade" "to" "[I") (by decide +kernel)) rfl dX9_faultFor_49 (by show va_rf (z.R a0 8) = _; rw [rto]; rfl) ?_
          refine lv_iload_n hx hb dX9_faultFor_52 rfl (lv_at hl 3 rfl) ?_
          refine h_ald hx hb g tto (by decide) so_1008 (xi_in (by omega) (by omega)) dX9_faultFor_53 ?_
          refine lv_topi (fun v14 ev14 => ?_)
          have jv14 := hI.rd to v3.toNatClampNeg tto ev14 (rfl : h_bd 1008 _ = (0, 7))
          have gv14 : I0 to v3.toInt.toNat = v14 := by rw [← kv, ev14]; exact (hF.at tto rfl).symm
          refine lv_iload_n hx hb dX9_faultFor_54 rfl (lv_at hl 2 rfl) ?_
          refine lv_icmp_ne (tgt := 94) hx hb dX9_faultFor_55 (by decide) (fun c15 => ?_) (fun c15 => ?_)
          · have ic15 := (xi_ne c15 rfl h_c : v14.toInt ≠ c_t)
            refine lv_aload_n hx hb dX9_faultFor_94 rfl (lv_at hl 0 rfl) ?_
            refine lv_ifnull hx hb dX9_faultFor_95 ?_
            refine lv_aload_n hx hb dX9_faultFor_98 rfl (lv_at hl 1 rfl) ?_
            refine h_get (v := .ref fr) hx hb hts iX9 hown g t_a0 (by decide) so_10 rfl 7 (by decide) (hts (.fieldLink RX9 26 "CapLeague$Trade" "from" "[I") (by decide +kernel)) rfl dX9_faultFor_99 (by show va_rf (z.R a0 7) = _; rw [rfr]; rfl) ?_
            refine lv_iload_n hx hb dX9_faultFor_102 rfl (lv_at hl 3 rfl) ?_
            refine h_ald hx hb g tfr (by decide) so_1007 (xi_in (by omega) (by omega)) dX9_faultFor_103 ?_
            refine lv_topi (fun v16 ev16 => ?_)
            have jv16 := hI.rd fr v3.toNatClampNeg tfr ev16 (rfl : h_bd 1007 _ = ((-2147483648), 2147483647))
            have gv16 : I0 fr v3.toInt.toNat = v16 := by rw [← kv, ev16]; exact (hF.at tfr rfl).symm
            refine lv_iload_n hx hb dX9_faultFor_104 rfl (lv_at hl 2 rfl) ?_
            refine lv_icmp_ne (tgt := 141) hx hb dX9_faultFor_105 (by decide) (fun c17 => ?_) (fun c17 => ?_)
            · have ic17 := (xi_ne c17 rfl h_c : v16.toInt ≠ c_t)
              obtain ⟨v18, ev18⟩ : ∃ z : Int32, z = v3 + 1 := ⟨_, rfl⟩
              have jv18 : v18.toInt = v3.toInt + 1 := xi_add ev18 rfl (by decide) (by omega) (by omega)
              refine lv_iinc (v := v18) (lv' := [(2, .int v18), (3, .ref rh13), (0, .ref a0), (1, .int c)]) hx hb dX9_faultFor_141 hl (k := 3) rfl (by rw [ev18]; rfl) (by decide) rfl (fun ls hl => ?_)
              refine lv_goto (tgt := 9) hx hb dX9_faultFor_144 (by decide) ?_
              exact ih9 I4 _ _ _ v18 g hI hF (lv_sub hl [2, 3, 0] rfl) (by omega) (h_F.call (h_F.rf : h_F [(2, 0), (2, 1), (2, 2), (2, 3)] z I2 I2) hL9 rfl) (q_pm_0 hx9_0 (by omega : (v18.toInt).toNat = v3.toInt.toNat + 1) (by rw [ekd]; exact c_kd_0 (Or.inr ⟨by rw [gv14]; omega, by rw [gv16]; omega⟩) : kd v3.toInt.toNat = 0)) (q_on_0 hx9_1 (by omega : (v18.toInt).toNat = v3.toInt.toNat + 1) (by rw [(by rw [ekd]; exact c_kd_0 (Or.inr ⟨by rw [gv14]; omega, by rw [gv16]; omega⟩) : kd v3.toInt.toNat = 0)]; decide)) (q_on_0 hx9_2 (by omega : (v18.toInt).toNat = v3.toInt.toNat + 1) (by rw [(by rw [ekd]; exact c_kd_0 (Or.inr ⟨by rw [gv14]; omega, by rw [gv16]; omega⟩) : kd v3.toInt.toNat = 0)]; decide)) (q_pm_0 hx9_3 (by omega : (v18.toInt).toNat = v3.toInt.toNat + 1) (by rw [ekd]; exact c_kd_0 (Or.inr ⟨by rw [gv14]; omega, by rw [gv16]; omega⟩) : kd v3.toInt.toNat = 0)) (by omega) (by omega)
            · have ic17 := (xi_eq c17 rfl h_c : v16.toInt = c_t)
              refine lv_aload_n hx hb dX9_faultFor_108 rfl (lv_at hl 1 rfl) ?_
              refine h_get (v := .ref ch) hx hb hts iX9 hown g t_a0 (by decide) so_10 rfl 2 (by decide) (hts (.fieldLink RX9 12 "CapLeague$Trade" "change" "LCapLeague$Change;") (by decide +kernel)) rfl dX9_faultFor_109 (by show va_rf (z.R a0 2) = _; rw [rch]; rfl) ?_
              refine lv_aload_n hx hb dX9_faultFor_112 rfl (lv_at hl 0 rfl) ?_
              refine lv_aload_n hx hb dX9_faultFor_113 rfl (lv_at hl 1 rfl) ?_
              refine h_get (v := .ref bk) hx hb hts iX9 hown g t_a0 (by decide) so_10 rfl 0 (by decide) (hts (.fieldLink RX9 35 "CapLeague$Trade" "books" "LCapLeague$Books;") (by decide +kernel)) rfl dX9_faultFor_114 (by show va_rf (z.R a0 0) = _; rw [rbk]; rfl) ?_
              refine h_get (v := .int k_3) hx hb hts iX0 hown g tbk (by decide) so_1 rfl 3 (by decide) (hts (.fieldLink RX9 76 "CapLeague$Books" "clock" "I") (by decide +kernel)) rfl dX9_faultFor_117 (congrArg Value.int ((h_F.at hL9 tbk rfl).trans ((h_F.at fh1 tbk rfl).trans (ek_3.symm)))) ?_
              refine vp_callSi (W.runV (As := [.int k_3]) (rest := [.ref ch]) ⟨hx, hb, hml, hown, hts⟩ (tX6_payInB l E X A z I4 L0 rh13 trh13 k_3 (k_3.toInt) rfl) (cwV 1 hts gX9_faultFor_X6_payIn rfl rfl rfl (by decide +kernel) ⟨Nat.le_of_ble_eq_true rfl, Nat.le_of_ble_eq_true rfl⟩) ⟨h_blind _ _ _ _ _ _ _, h_recv g trh13 (by decide) so_7 (q := (RX6, TX6, 9)) rfl, h_pre _ hE hk hX hA hI hR g⟩ rfl rfl hl.1 rfl (lv_room (Nat.le_of_ble_eq_true rfl)) dX9_faultFor_120 ⟨Nat.le_of_ble_eq_true rfl, Nat.le_of_ble_eq_true rfl⟩) (fun rh19 h19 => ?_)
              have h19p0 := h19
              have jrh19 : -2147483648 ≤ rh19.toInt ∧ rh19.toInt ≤ 2147483647 := ⟨xi_lo _, Int.le_of_lt_add_one (xi_hi _)⟩
              have ePy : py v3.toInt.toNat = rh19 := by rw [epy]; unfold c_py; rw [apl, gv12, h_ad.at rp, ← ek_3, h19p0, show I4 rh13 0 = I0 rh13 0 from hF.at trh13 rfl, show I4 rh13 1 = I0 rh13 1 from hF.at trh13 rfl, show I4 rh13 2 = I0 rh13 2 from hF.at trh13 rfl, show I4 rh13 3 = I0 rh13 3 from hF.at trh13 rfl, show I4 rh13 4 = I0 rh13 4 from hF.at trh13 rfl]
              refine lv_aload_n hx hb dX9_faultFor_123 rfl (lv_at hl 1 rfl) ?_
              refine h_get (v := .ref bk) hx hb hts iX9 hown g t_a0 (by decide) so_10 rfl 0 (by decide) (hts (.fieldLink RX9 35 "CapLeague$Trade" "books" "LCapLeague$Books;") (by decide +kernel)) rfl dX9_faultFor_124 (by show va_rf (z.R a0 0) = _; rw [rbk]; rfl) ?_
              refine lv_aload_n hx hb dX9_faultFor_127 rfl (lv_at hl 0 rfl) ?_
              refine lv_aload_n hx hb dX9_faultFor_128 rfl (lv_at hl 1 rfl) ?_
              refine h_get (v := .ref bk) hx hb hts iX9 hown g t_a0 (by decide) so_10 rfl 0 (by decide) (hts (.fieldLink RX9 35 "CapLeague$Trade" "books" "LCapLeague$Books;") (by decide +kernel)) rfl dX9_faultFor_129 (by show va_rf (z.R a0 0) = _; rw [rbk]; rfl) ?_
              refine h_get (v := .int k_3) hx hb hts iX0 hown g tbk (by decide) so_1 rfl 3 (by decide) (hts (.fieldLink RX9 76 "CapLeague$Books" "clock" "I") (by decide +kernel)) rfl dX9_faultFor_132 (congrArg Value.int ((h_F.at hL9 tbk rfl).trans ((h_F.at fh1 tbk rfl).trans (ek_3.symm)))) ?_
              refine vp_callSi (W.runV (As := [.ref rh13, .int k_3]) (rest := [.int rh19, .ref ch]) ⟨hx, hb, hml, hown, hts⟩ (tX0_countOfB l E X A z I4 L0 bk tbk rh13 trh13 k_3 (k_3.toInt) rfl (u_) (by rw [alb, aun, atx, show I4 bk 3 = k_3 from (h_F.at hL9 tbk rfl).trans ((h_F.at fh1 tbk rfl).trans (ek_3.symm))]; exact h_lwF hR hF (fun _ => rfl) (fun _ => rfl) (fun _ => rfl) ttx tun hcl) (hob)) (cwV 2 hts gX9_faultFor_X0_countOf rfl rfl rfl (by decide +kernel) ⟨Nat.le_of_ble_eq_true rfl, Nat.le_of_ble_eq_true rfl⟩) ⟨h_blind _ _ _ _ _ _ _, h_recv g tbk (by decide) so_1 (q := (RX0, TX0, 9)) rfl, h_pre _ hE hk hX hA hI hR g⟩ rfl rfl hl.1 rfl (lv_room (Nat.le_of_ble_eq_true rfl)) dX9_faultFor_135 ⟨Nat.le_of_ble_eq_true rfl, Nat.le_of_ble_eq_true rfl⟩) (fun rh20 h20 => ?_)
              have h20p0 := h20
              have jrh20 : -2147483648 ≤ rh20.toInt ∧ rh20.toInt ≤ 2147483647 := ⟨xi_lo _, Int.le_of_lt_add_one (xi_hi _)⟩
              have eCt : ct v3.toInt.toNat = rh20 := by rw [ect]; unfold c_ct; rw [apl, gv12, h_ad.at rp, ← ek_3, h20p0, show I4 bk 3 = k_3 from (h_F.at hL9 tbk rfl).trans ((h_F.at fh1 tbk rfl).trans (ek_3.symm)), show I4 rh13 0 = I0 rh13 0 from hF.at trh13 rfl, show I4 rh13 1 = I0 rh13 1 from hF.at trh13 rfl, show I4 rh13 2 = I0 rh13 2 from hF.at trh13 rfl, show I4 rh13 3 = I0 rh13 3 from hF.at trh13 rfl, show I4 rh13 4 = I0 rh13 4 from hF.at trh13 rfl, show I4 rh13 6 = I0 rh13 6 from hF.at trh13 rfl, show I4 rh13 7 = I0 rh13 7 from hF.at trh13 rfl]
              refine va_callv (va_runV (As := [.int rh19, .int rh20]) (rest := []) ⟨hx, hb, hml, hown, hts⟩ (tX1_goesB l E X A z I4 L0 ch tch rh19 (rh19.toInt) rfl rh20 (rh20.toInt) rfl) (cwV 2 hts gX9_faultFor_X1_goes rfl rfl rfl (by decide +kernel) ⟨Nat.le_of_ble_eq_true rfl, Nat.le_of_ble_eq_true rfl⟩) ⟨h_blind _ _ _ _ _ _ _, h_recv g tch (by decide) so_2 (q := (RX1, TX1, 4)) rfl, h_pre _ hE hk hX hA hI hR g⟩ rfl rfl hl.1 rfl (lv_room (Nat.le_of_ble_eq_true rfl)) dX9_faultFor_138 ⟨Nat.le_of_ble_eq_true rfl, Nat.le_of_ble_eq_true rfl⟩) g.2.1 (fun q _ h => h) (fun q h => h) (fun I22 t H1 locs ht hvm h21 hB hz1 hk1 hS => ?_)
              obtain ⟨hI, fh21, h21⟩ := h21
              replace g := h_after g hB ht hS
              generalize H1 = H at g
              clear hB hk1 hz1 ht hvm hS
              have hF := hF.call fh21 rfl
              have h21p0 := h21
              obtain ⟨v23, ev23⟩ : ∃ z : Int32, z = v3 + 1 := ⟨_, rfl⟩
              have jv23 : v23.toInt = v3.toInt + 1 := xi_add ev23 rfl (by decide) (by omega) (by omega)
              refine lv_iinc (v := v23) (lv' := [(2, .int v23), (3, .ref rh13), (0, .ref a0), (1, .int c)]) hx hb dX9_faultFor_141 hl (k := 3) rfl (by rw [ev23]; rfl) (by decide) rfl (fun ls hl => ?_)
              refine lv_goto (tgt := 9) hx hb dX9_faultFor_144 (by decide) ?_
              exact ih9 I22 _ _ _ v23 g hI hF (lv_sub hl [2, 3, 0] rfl) (by omega) (h_F.call (h_F.call (h_F.rf : h_F [(2, 0), (2, 1), (2, 2), (2, 3)] z I2 I2) hL9 rfl) fh21 rfl) (q_pm_2 hx9_0 (by omega : (v23.toInt).toNat = v3.toInt.toNat + 1) (by rw [ekd]; exact c_kd_2 (by rw [gv10]; omega) (by rw [gv14]; omega) (by rw [gv16]; omega) : kd v3.toInt.toNat = 2) h21p0.1) (q_on_0 ((h21p0.2.1).trans hx9_1) (by omega : (v23.toInt).toNat = v3.toInt.toNat + 1) (by rw [(by rw [ekd]; exact c_kd_2 (by rw [gv10]; omega) (by rw [gv14]; omega) (by rw [gv16]; omega) : kd v3.toInt.toNat = 2)]; decide)) (q_on_1 hx9_2 (by omega : (v23.toInt).toNat = v3.toInt.toNat + 1) (by rw [ekd]; exact c_kd_2 (by rw [gv10]; omega) (by rw [gv14]; omega) (by rw [gv16]; omega) : kd v3.toInt.toNat = 2) (by rw [ePy]; exact h21p0.2.2.1)) (q_pm_2 hx9_3 (by omega : (v23.toInt).toNat = v3.toInt.toNat + 1) (by rw [ekd]; exact c_kd_2 (by rw [gv10]; omega) (by rw [gv14]; omega) (by rw [gv16]; omega) : kd v3.toInt.toNat = 2) (by rw [eCt]; exact h21p0.2.2.2)) (by omega) (by omega)
          · have ic15 := (xi_eq c15 rfl h_c : v14.toInt = c_t)
            refine lv_aload_n hx hb dX9_faultFor_58 rfl (lv_at hl 1 rfl) ?_
            refine h_get (v := .ref ch) hx hb hts iX9 hown g t_a0 (by decide) so_10 rfl 2 (by decide) (hts (.fieldLink RX9 12 "CapLeague$Trade" "change" "LCapLeague$Change;") (by decide +kernel)) rfl dX9_faultFor_59 (by show va_rf (z.R a0 2) = _; rw [rch]; rfl) ?_
            refine lv_aload_n hx hb dX9_faultFor_62 rfl (lv_at hl 0 rfl) ?_
            refine lv_aload_n hx hb dX9_faultFor_63 rfl (lv_at hl 1 rfl) ?_
            refine h_get (v := .ref bk) hx hb hts iX9 hown g t_a0 (by decide) so_10 rfl 0 (by decide) (hts (.fieldLink RX9 35 "CapLeague$Trade" "books" "LCapLeague$Books;") (by decide +kernel)) rfl dX9_faultFor_64 (by show va_rf (z.R a0 0) = _; rw [rbk]; rfl) ?_
            refine h_get (v := .int k_3) hx hb hts iX0 hown g tbk (by decide) so_1 rfl 3 (by decide) (hts (.fieldLink RX9 76 "CapLeague$Books" "clock" "I") (by decide +kernel)) rfl dX9_faultFor_67 (congrArg Value.int ((h_F.at hL9 tbk rfl).trans ((h_F.at fh1 tbk rfl).trans (ek_3.symm)))) ?_
            refine vp_callSi (W.runV (As := [.int k_3]) (rest := [.ref ch]) ⟨hx, hb, hml, hown, hts⟩ (tX6_payInB l E X A z I4 L0 rh13 trh13 k_3 (k_3.toInt) rfl) (cwV 1 hts gX9_faultFor_X6_payIn rfl rfl rfl (by decide +kernel) ⟨Nat.le_of_ble_eq_true rfl, Nat.le_of_ble_eq_true rfl⟩) ⟨h_blind _ _ _ _ _ _ _, h_recv g trh13 (by decide) so_7 (q := (RX6, TX6, 9)) rfl, h_pre _ hE hk hX hA hI hR g⟩ rfl rfl hl.1 rfl (lv_room (Nat.le_of_ble_eq_true rfl)) dX9_faultFor_70 ⟨Nat.le_of_ble_eq_true rfl, Nat.le_of_ble_eq_true rfl⟩) (fun rh24 h24 => ?_)
            have h24p0 := h24
            have jrh24 : -2147483648 ≤ rh24.toInt ∧ rh24.toInt ≤ 2147483647 := ⟨xi_lo _, Int.le_of_lt_add_one (xi_hi _)⟩
            have ePy : py v3.toInt.toNat = rh24 := by rw [epy]; unfold c_py; rw [apl, gv12, h_ad.at rp, ← ek_3, h24p0, show I4 rh13 0 = I0 rh13 0 from hF.at trh13 rfl, show I4 rh13 1 = I0 rh13 1 from hF.at trh13 rfl, show I4 rh13 2 = I0 rh13 2 from hF.at trh13 rfl, show I4 rh13 3 = I0 rh13 3 from hF.at trh13 rfl, show I4 rh13 4 = I0 rh13 4 from hF.at trh13 rfl]
            refine lv_aload_n hx hb dX9_faultFor_73 rfl (lv_at hl 1 rfl) ?_
            refine h_get (v := .ref bk) hx hb hts iX9 hown g t_a0 (by decide) so_10 rfl 0 (by decide) (hts (.fieldLink RX9 35 "CapLeague$Trade" "books" "LCapLeague$Books;") (by decide +kernel)) rfl dX9_faultFor_74 (by show va_rf (z.R a0 0) = _; rw [rbk]; rfl) ?_
            refine lv_aload_n hx hb dX9_faultFor_77 rfl (lv_at hl 0 rfl) ?_
            refine lv_aload_n hx hb dX9_faultFor_78 rfl (lv_at hl 1 rfl) ?_
            refine h_get (v := .ref bk) hx hb hts iX9 hown g t_a0 (by decide) so_10 rfl 0 (by decide) (hts (.fieldLink RX9 35 "CapLeague$Trade" "books" "LCapLeague$Books;") (by decide +kernel)) rfl dX9_faultFor_79 (by show va_rf (z.R a0 0) = _; rw [rbk]; rfl) ?_
            refine h_get (v := .int k_3) hx hb hts iX0 hown g tbk (by decide) so_1 rfl 3 (by decide) (hts (.fieldLink RX9 76 "CapLeague$Books" "clock" "I") (by decide +kernel)) rfl dX9_faultFor_82 (congrArg Value.int ((h_F.at hL9 tbk rfl).trans ((h_F.at fh1 tbk rfl).trans (ek_3.symm)))) ?_
            refine vp_callSi (W.runV (As := [.ref rh13, .int k_3]) (rest := [.int rh24, .ref ch]) ⟨hx, hb, hml, hown, hts⟩ (tX0_countOfB l E X A z I4 L0 bk tbk rh13 trh13 k_3 (k_3.toInt) rfl (u_) (by rw [alb, aun, atx, show I4 bk 3 = k_3 from (h_F.at hL9 tbk rfl).trans ((h_F.at fh1 tbk rfl).trans (ek_3.symm))]; exact h_lwF hR hF (fun _ => rfl) (fun _ => rfl) (fun _ => rfl) ttx tun hcl) (hob)) (cwV 2 hts gX9_faultFor_X0_countOf rfl rfl rfl (by decide +kernel) ⟨Nat.le_of_ble_eq_true rfl, Nat.le_of_ble_eq_true rfl⟩) ⟨h_blind _ _ _ _ _ _ _, h_recv g tbk (by decide) so_1 (q := (RX0, TX0, 9)) rfl, h_pre _ hE hk hX hA hI hR g⟩ rfl rfl hl.1 rfl (lv_room (Nat.le_of_ble_eq_true rfl)) dX9_faultFor_85 ⟨Nat.le_of_ble_eq_true rfl, Nat.le_of_ble_eq_true rfl⟩) (fun rh25 h25 => ?_)
            have h25p0 := h25
            have jrh25 : -2147483648 ≤ rh25.toInt ∧ rh25.toInt ≤ 2147483647 := ⟨xi_lo _, Int.le_of_lt_add_one (xi_hi _)⟩
            have eCt : ct v3.toInt.toNat = rh25 := by rw [ect]; unfold c_ct; rw [apl, gv12, h_ad.at rp, ← ek_3, h25p0, show I4 bk 3 = k_3 from (h_F.at hL9 tbk rfl).trans ((h_F.at fh1 tbk rfl).trans (ek_3.symm)), show I4 rh13 0 = I0 rh13 0 from hF.at trh13 rfl, show I4 rh13 1 = I0 rh13 1 from hF.at trh13 rfl, show I4 rh13 2 = I0 rh13 2 from hF.at trh13 rfl, show I4 rh13 3 = I0 rh13 3 from hF.at trh13 rfl, show I4 rh13 4 = I0 rh13 4 from hF.at trh13 rfl, show I4 rh13 6 = I0 rh13 6 from hF.at trh13 rfl, show I4 rh13 7 = I0 rh13 7 from hF.at trh13 rfl]
            refine va_callv (va_runV (As := [.int rh24, .int rh25]) (rest := []) ⟨hx, hb, hml, hown, hts⟩ (tX1_comesB l E X A z I4 L0 ch tch rh24 (rh24.toInt) rfl rh25 (rh25.toInt) rfl) (cwV 2 hts gX9_faultFor_X1_comes rfl rfl rfl (by decide +kernel) ⟨Nat.le_of_ble_eq_true rfl, Nat.le_of_ble_eq_true rfl⟩) ⟨h_blind _ _ _ _ _ _ _, h_recv g tch (by decide) so_2 (q := (RX1, TX1, 4)) rfl, h_pre _ hE hk hX hA hI hR g⟩ rfl rfl hl.1 rfl (lv_room (Nat.le_of_ble_eq_true rfl)) dX9_faultFor_88 ⟨Nat.le_of_ble_eq_true rfl, Nat.le_of_ble_eq_true rfl⟩) g.2.1 (fun q _ h => h) (fun q h => h) (fun I27 t H1 locs ht hvm h26 hB hz1 hk1 hS => ?_)
            obtain ⟨hI, fh26, h26⟩ := h26
            replace g := h_after g hB ht hS
            generalize H1 = H at g
            clear hB hk1 hz1 ht hvm hS
            have hF := hF.call fh26 rfl
            have h26p0 := h26
            refine lv_goto (tgt := 141) hx hb dX9_faultFor_91 (by decide) ?_
            obtain ⟨v28, ev28⟩ : ∃ z : Int32, z = v3 + 1 := ⟨_, rfl⟩
            have jv28 : v28.toInt = v3.toInt + 1 := xi_add ev28 rfl (by decide) (by omega) (by omega)
            refine lv_iinc (v := v28) (lv' := [(2, .int v28), (3, .ref rh13), (0, .ref a0), (1, .int c)]) hx hb dX9_faultFor_141 hl (k := 3) rfl (by rw [ev28]; rfl) (by decide) rfl (fun ls hl => ?_)
            refine lv_goto (tgt := 9) hx hb dX9_faultFor_144 (by decide) ?_
            exact ih9 I27 _ _ _ v28 g hI hF (lv_sub hl [2, 3, 0] rfl) (by omega) (h_F.call (h_F.call (h_F.rf : h_F [(2, 0), (2, 1), (2, 2), (2, 3)] z I2 I2) hL9 rfl) fh26 rfl) (q_pm_1 hx9_0 (by omega : (v28.toInt).toNat = v3.toInt.toNat + 1) (by rw [ekd]; exact c_kd_1 (by rw [gv10]; omega) (by rw [gv14]; omega) : kd v3.toInt.toNat = 1) h26p0.1) (q_on_1 hx9_1 (by omega : (v28.toInt).toNat = v3.toInt.toNat + 1) (by rw [ekd]; exact c_kd_1 (by rw [gv10]; omega) (by rw [gv14]; omega) : kd v3.toInt.toNat = 1) (by rw [ePy]; exact h26p0.2.1)) (q_on_0 ((h26p0.2.2.1).trans hx9_2) (by omega : (v28.toInt).toNat = v3.toInt.toNat + 1) (by rw [(by rw [ekd]; exact c_kd_1 (by rw [gv10]; omega) (by rw [gv14]; omega) : kd v3.toInt.toNat = 1)]; decide)) (q_pm_1 hx9_3 (by omega : (v28.toInt).toNat = v3.toInt.toNat + 1) (by rw [ekd]; exact c_kd_1 (by rw [gv10]; omega) (by rw [gv14]; omega) : kd v3.toInt.toNat = 1) (by rw [eCt]; exact h26p0.2.2.2)) (by omega) (by omega)
        · have ic11 := (xi_ne c11 rfl (by decide) : v10.toInt ≠ 0)
          refine lv_null hx hb dX9_faultFor_26 ?_
          refine lv_goto (tgt := 43) hx hb dX9_faultFor_27 (by decide) ?_
          refine lv_astore_nN (lv' := [(3, .null), (0, .ref a0), (1, .int c), (2, .int v3)]) hx hb dX9_faultFor_43 rfl hl (by decide) rfl (fun ls hl => ?_)
          refine lv_aload_nN hx hb dX9_faultFor_44 rfl (lv_at hl 0 rfl) ?_
          refine lv_ifnullN (tgt := 94) hx hb dX9_faultFor_45 (by decide) ?_
          refine lv_aload_nN hx hb dX9_faultFor_94 rfl (lv_at hl 0 rfl) ?_
          refine lv_ifnullN (tgt := 141) hx hb dX9_faultFor_95 (by decide) ?_
          obtain ⟨v29, ev29⟩ : ∃ z : Int32, z = v3 + 1 := ⟨_, rfl⟩
          have jv29 : v29.toInt = v3.toInt + 1 := xi_add ev29 rfl (by decide) (by omega) (by omega)
          refine lv_iinc (v := v29) (lv' := [(2, .int v29), (3, .null), (0, .ref a0), (1, .int c)]) hx hb dX9_faultFor_141 hl (k := 3) rfl (by rw [ev29]; rfl) (by decide) rfl (fun ls hl => ?_)
          refine lv_goto (tgt := 9) hx hb dX9_faultFor_144 (by decide) ?_
          exact ih9 I4 _ _ _ v29 g hI hF (lv_sub hl [2, 3, 0] rfl) (by omega) (h_F.call (h_F.rf : h_F [(2, 0), (2, 1), (2, 2), (2, 3)] z I2 I2) hL9 rfl) (q_pm_0 hx9_0 (by omega : (v29.toInt).toNat = v3.toInt.toNat + 1) (by rw [ekd]; exact c_kd_0 (Or.inl (by rw [gv10]; omega)) : kd v3.toInt.toNat = 0)) (q_on_0 hx9_1 (by omega : (v29.toInt).toNat = v3.toInt.toNat + 1) (by rw [(by rw [ekd]; exact c_kd_0 (Or.inl (by rw [gv10]; omega)) : kd v3.toInt.toNat = 0)]; decide)) (q_on_0 hx9_2 (by omega : (v29.toInt).toNat = v3.toInt.toNat + 1) (by rw [(by rw [ekd]; exact c_kd_0 (Or.inl (by rw [gv10]; omega)) : kd v3.toInt.toNat = 0)]; decide)) (q_pm_0 hx9_3 (by omega : (v29.toInt).toNat = v3.toInt.toNat + 1) (by rw [ekd]; exact c_kd_0 (Or.inl (by rw [gv10]; omega)) : kd v3.toInt.toNat = 0)) (by omega) (by omega)
  have kc30 : (0 : Int32).toInt = 0 := by decide
  exact loop9_0 _ I2 _ _ _ (0) g hI hF (lv_sub hl [1, 2, 0] rfl) ⟨by decide, by decide⟩ (h_F.rf : h_F [(2, 0), (2, 1), (2, 2), (2, 3)] z I2 I2) (h1p0.1) (h1p0.2.1) (h1p0.2.2.1) (h1p0.2.2.2) (by omega) (show (12 - (0 : Int)) < (((12 - (0 : Int)).toNat + 1 : Nat) : Int) by omega)
set_option maxHeartbeats 4000000 in
set_option maxRecDepth 100000 in
theorem tX9_firstB (l : Launch) (E : tE) (X : tX) (A : Nat → Prop) (z : tZ) (I0 : tI) (L0 : tL) (a0 : Nat) (t_a0 : z.ty a0 = 10) (u_ : Nat → Int) (htp : h_tpre z I0 (h_ad z a0 0) (h_ad z a0 5) (h_ad z a0 6) (I0 a0 3).toInt u_) (hcb : 0 ≤ (I0 a0 4).toInt ∧ (I0 a0 4).toInt ≤ 255) : Met l yX9_firstFault wsX9_firstFault ({ frames := 6, cells := 0, slots := 0, locals := 384 }) (va_Pc [.ref a0] (h_P E X A z I0 L0)) (va_Qi (fun r (I1 : tI) => h_I z I1 ∧ h_F [(2, 0), (2, 1), (2, 2), (2, 3)] z I0 I1 ∧ (0 ≤ r.toInt ∧ r.toInt ≤ 702) ∧ (r.toInt = q_ff (c_ft z I0 a0 u_) 8)) (fun (I1 : tI) t => h_B E A z I1 L0 t) A) 0 0 A := by
  refine Met.ofW (cc := cX9_firstFault) (maxL := 3) (ret := (some .int)) (by decide) rfl ?_
  intro pr_ ev_ s m args below meth cd_ s₁ B hml hv
  obtain ⟨rfl, hE, hk, hX, hA, hK, hI, hR, hB0⟩ := hv
  have g : h_G h_so h_fk E A z I0 L0 s s.heap s.heap [] := ⟨hK, va_S.rf, hB0⟩
  have hF : h_F [(2, 0), (2, 1), (2, 2), (2, 3)] z I0 I0 := h_F.rf
  have hx := B.exec
  have hb := B.bytes
  have hr := B.returns
  have hts := atoms_spec (ws := wsX9_firstFault) B.pre
  have hown : s.vm.findClass RX9 = some m.cls := findClass_of_methodNamed B.named
  have hlocks := B.notSynchronized
  have iX9 : ∀ w ∈ u_ws RX9 TX9 10, w ∈ wsX9_firstFault := by decide +kernel
  have hl := lv_entry ([.ref a0]) (n := 3) (Nat.le_of_ble_eq_true rfl)
  rw [lg_entry_eq]
  generalize (lg_sl ([.ref a0]) ++ List.replicate (3 - (lg_sl ([.ref a0])).length) Slot.unset).toArray = ls at hl ⊢
  have hl : lv_has ls 3 [(0, .ref a0)] := hl
  obtain ⟨bk, rbk, tbk⟩ := hR.at a0 0 t_a0 (rfl : h_rs 10 0 = some (1, false)) (by decide)
  have abk : h_ad z a0 0 = bk := h_ad.at rbk
  obtain ⟨it, rit, tit⟩ := hR.at a0 5 t_a0 (rfl : h_rs 10 5 = some (1005, false)) (by decide)
  have ait : h_ad z a0 5 = it := h_ad.at rit
  obtain ⟨th, rth, tth⟩ := hR.at a0 6 t_a0 (rfl : h_rs 10 6 = some (1006, false)) (by decide)
  have ath : h_ad z a0 6 = th := h_ad.at rth
  obtain ⟨fr, rfr, tfr⟩ := hR.at a0 7 t_a0 (rfl : h_rs 10 7 = some (1007, false)) (by decide)
  have afr : h_ad z a0 7 = fr := h_ad.at rfr
  obtain ⟨to, rto, tto⟩ := hR.at a0 8 t_a0 (rfl : h_rs 10 8 = some (1008, false)) (by decide)
  have ato : h_ad z a0 8 = to := h_ad.at rto
  obtain ⟨f0_3, ef0_3⟩ : ∃ v : Int32, v = I0 a0 3 := ⟨_, rfl⟩
  have qf0_3 : (I0 a0 3).toInt = f0_3.toInt := congrArg Int32.toInt ef0_3.symm
  have jf0_3 := hI.rd a0 3 t_a0 ef0_3 (rfl : h_bd 10 3 = (0, 12))
  obtain ⟨f0_4, ef0_4⟩ : ∃ v : Int32, v = I0 a0 4 := ⟨_, rfl⟩
  have qf0_4 : (I0 a0 4).toInt = f0_4.toInt := congrArg Int32.toInt ef0_4.symm
  have jf0_4 := hI.rd a0 4 t_a0 ef0_4 (rfl : h_bd 10 4 = ((-2147483648), 2147483647))
  rw [abk, ait, ath, ← ef0_3] at htp
  rw [← ef0_4] at hcb
  have htp2 : h_tpre z I0 bk it th ((f0_3.toInt.toNat : Nat) : Int) u_ := by rw [show ((f0_3.toInt.toNat : Nat) : Int) = f0_3.toInt by omega]; exact htp
  obtain ⟨FT, eFT⟩ : ∃ g : Nat → Int, g = c_ft z I0 a0 u_ := ⟨_, rfl⟩
  have hI0 := hI
  refine lv_iconst (v := 0) hx hb dX9_firstFault_0 (by decide) ?_
  refine lv_istore_n (lv' := [(1, .int 0), (0, .ref a0)]) hx hb dX9_firstFault_1 rfl hl (by decide) rfl (fun ls hl => ?_)
  have loop2_0 : ∀ (n : Nat) (I2 : tI) (H : Heap) (locs : List Loc) (ls : Array Slot) (v1 : Int32), h_G h_so h_fk E A z I2 L0 s s.heap H locs → h_I z I2 → h_F [(2, 0), (2, 1), (2, 2), (2, 3)] z I0 I2 → lv_has ls 3 [(0, .ref a0), (1, .int v1)] → (0 ≤ v1.toInt ∧ v1.toInt ≤ 8) → h_F [(2, 0), (2, 1), (2, 2), (2, 3)] z I0 I2 → (q_ff FT (v1.toInt).toNat = 0) → (8 - v1.toInt) < (n : Int) → W pr_ l ev_ (headSpec wsX9_firstFault ({ frames := 6, cells := 0, slots := 0, locals := 384 })).room s m ([.ref a0] : List Value).toArray below meth cd_ H locs 0 0 (MQ below (va_Qi (fun r (I1 : tI) => h_I z I1 ∧ h_F [(2, 0), (2, 1), (2, 2), (2, 3)] z I0 I1 ∧ (0 ≤ r.toInt ∧ r.toInt ≤ 702) ∧ (r.toInt = q_ff (c_ft z I0 a0 u_) 8)) (fun (I1 : tI) t => h_B E A z I1 L0 t) A) ([.ref a0] : List Value).toArray s 0 0 A) (F0 m 2 ls []) := by
    intro n
    induction n with
    | zero => intro I2 H locs ls v1 g hI hF hl jv1 hL2 hx2_0 hn; exact absurd hn (by omega)
    | succ n ih2 =>
      intro I2 H locs ls v1 g hI hF hl jv1 hL2 hx2_0 hn
      have kc : 0 ≤ v1.toInt ∧ v1.toInt ≤ 7 ∨ v1.toInt = 8 := by omega
      refine lv_iload_n hx hb dX9_firstFault_2 rfl (lv_at hl 1 rfl) ?_
      refine lv_bipush (v := 8) hx hb dX9_firstFault_3 (by decide) ?_
      refine lv_icmp_ge (tgt := 46) hx hb dX9_firstFault_5 (by decide) (fun c3 => ?_) (fun c3 => ?_)
      · have ic3 := (xi_le c3 (by decide) rfl : 8 ≤ v1.toInt)
        refine lv_iconst (v := 0) hx hb dX9_firstFault_46 (by decide) ?_
        have hS := g.2.1
        exact W.iret (v := 0) hx hb hr (fun t ht hW => ⟨⟨0, I2, rfl, ⟨hI, hF, ⟨⟨(by decide), (by decide)⟩, (by rw [← eFT]; have h9 := hx2_0; rw [show v1.toInt.toNat = 8 by omega] at h9; rw [h9]; decide)⟩⟩, h_ret g ht⟩, hS.F ht⟩) hS.2.2 dX9_firstFault_47
      · have ic3 := (xi_nle c3 (by decide) rfl : v1.toInt < 8)
        refine lv_aload_n hx hb dX9_firstFault_8 rfl (lv_at hl 0 rfl) ?_
        refine h_get (v := .int f0_4) hx hb hts iX9 hown g t_a0 (by decide) so_10 rfl 4 (by decide) (hts (.fieldLink RX9 47 "CapLeague$Trade" "clubBits" "I") (by decide +kernel)) rfl dX9_firstFault_9 (congrArg Value.int ((h_F.at hL2 t_a0 rfl).trans (ef0_4.symm))) ?_
        refine lv_iconst (v := 1) hx hb dX9_firstFault_12 (by decide) ?_
        refine lv_iload_n hx hb dX9_firstFault_13 rfl (lv_at hl 1 rfl) ?_
        refine lv_ishl hx hb dX9_firstFault_14 ?_
        refine lv_topi (fun v4 ev4 => ?_)
        have jv4 : -2147483648 ≤ v4.toInt ∧ v4.toInt ≤ 2147483647 := ⟨xi_lo _, Int.le_of_lt_add_one (xi_hi _)⟩
        refine lv_iand hx hb dX9_firstFault_15 ?_
        refine lv_topi (fun v5 ev5 => ?_)
        have jv5 : -2147483648 ≤ v5.toInt ∧ v5.toInt ≤ 2147483647 := ⟨xi_lo _, Int.le_of_lt_add_one (xi_hi _)⟩
        have bt := q_btc (c := v1) hcb (by omega) ev4 ev5
        refine lv_if_eq (tgt := 27) hx hb dX9_firstFault_16 (by decide) (fun c6 => ?_) (fun c6 => ?_)
        · have ic6 := (xi_eq c6 rfl (by decide) : v5.toInt = 0)
          refine lv_iconst (v := 0) hx hb dX9_firstFault_27 (by decide) ?_
          refine lv_istore_n (lv' := [(2, .int 0), (0, .ref a0), (1, .int v1)]) hx hb dX9_firstFault_28 rfl hl (by decide) rfl (fun ls hl => ?_)
          refine lv_iload_n hx hb dX9_firstFault_29 rfl (lv_at hl 0 rfl) ?_
          refine lv_if_eq (tgt := 40) hx hb dX9_firstFault_30 (by decide) (fun _ => ?_) (fun h => absurd (by decide) h)
          obtain ⟨v8, ev8⟩ : ∃ z : Int32, z = v1 + 1 := ⟨_, rfl⟩
          have jv8 : v8.toInt = v1.toInt + 1 := xi_add ev8 rfl (by decide) (by omega) (by omega)
          refine lv_iinc (v := v8) (lv' := [(1, .int v8), (2, .int 0), (0, .ref a0)]) hx hb dX9_firstFault_40 hl (k := 2) rfl (by rw [ev8]; rfl) (by decide) rfl (fun ls hl => ?_)
          refine lv_goto (tgt := 2) hx hb dX9_firstFault_43 (by decide) ?_
          exact ih2 I2 _ _ _ v8 g hI hF (lv_sub hl [2, 0] rfl) (by omega) (h_F.call (h_F.rf : h_F [(2, 0), (2, 1), (2, 2), (2, 3)] z I0 I0) hL2 rfl) (q_ff_0 hx2_0 (by rw [eFT]; unfold c_ft; rw [← ef0_4, if_pos (bt.mp (by omega))]) (by omega : v8.toInt.toNat = v1.toInt.toNat + 1)) (by omega)
        · have ic6 := (xi_ne c6 rfl (by decide) : v5.toInt ≠ 0)
          have hFo := hF
          refine lv_aload_n hx hb dX9_firstFault_19 rfl (lv_at hl 0 rfl) ?_
          refine lv_iload_n hx hb dX9_firstFault_20 rfl (lv_at hl 1 rfl) ?_
          refine va_calli (va_runV (As := [.int v1]) (rest := []) ⟨hx, hb, hml, hown, hts⟩ (tX9_faultB l E X A z I2 L0 a0 t_a0 v1 (v1.toInt) rfl (by omega) (u_) (by rw [abk, ait, ath, show I2 a0 3 = f0_3 from (h_F.at hL2 t_a0 rfl).trans (ef0_3.symm)]; exact htp.F hI0 hR hF tbk tit tth (fun _ => rfl) (fun _ => rfl) (fun _ => rfl) (fun _ => rfl) (fun _ => rfl) (fun _ => rfl) (fun _ => rfl))) (cwV 1 hts gX9_firstFault_X9_faultFor rfl rfl rfl (by decide +kernel) ⟨Nat.le_of_ble_eq_true rfl, Nat.le_of_ble_eq_true rfl⟩) ⟨h_blind _ _ _ _ _ _ _, h_recv g t_a0 (by decide) so_10 (q := (RX9, TX9, 10)) rfl, h_pre _ hE hk hX hA hI hR g⟩ rfl rfl hl.1 rfl (lv_room (Nat.le_of_ble_eq_true rfl)) dX9_firstFault_21 ⟨Nat.le_of_ble_eq_true rfl, Nat.le_of_ble_eq_true rfl⟩) g.2.1 (fun q _ h => h) (fun q h => h) (fun rh9 I10 t H1 locs ht hvm h9 hB hz1 hk1 hS => ?_)
          obtain ⟨hI, fh9, h9⟩ := h9
          replace g := h_after g hB ht hS
          generalize H1 = H at g
          clear hB hk1 hz1 ht hvm hS
          have hF := hF.call fh9 rfl
          obtain ⟨h9, h9p0⟩ := h9
          rw [abk, ait, ath, afr, ato, show I2 a0 3 = f0_3 from (h_F.at hL2 t_a0 rfl).trans (ef0_3.symm), c_tfx_F htp2 hI0 hR hFo tbk tit tth tfr tto (fun _ => rfl) (fun _ => rfl) (fun _ => rfl) (fun _ => rfl) (fun _ => rfl) (fun _ => rfl) (fun _ => rfl) (by omega)] at h9p0
          have eF : FT v1.toInt.toNat = rh9.toInt := by rw [eFT]; unfold c_ft; rw [← ef0_4, if_neg (fun q => absurd (bt.mpr q) (by omega)), abk, ait, ath, afr, ato, ← ef0_3, show ((v1.toInt.toNat : Nat) : Int) = v1.toInt by omega]; exact h9p0.symm
          refine lv_goto (tgt := 28) hx hb dX9_firstFault_24 (by decide) ?_
          refine lv_istore_n (lv' := [(2, .int rh9), (0, .ref a0), (1, .int v1)]) hx hb dX9_firstFault_28 rfl hl (by decide) rfl (fun ls hl => ?_)
          refine lv_iload_n hx hb dX9_firstFault_29 rfl (lv_at hl 0 rfl) ?_
          refine lv_if_eq (tgt := 40) hx hb dX9_firstFault_30 (by decide) (fun c11 => ?_) (fun c11 => ?_)
          · have ic11 := (xi_eq c11 rfl (by decide) : rh9.toInt = 0)
            obtain ⟨v12, ev12⟩ : ∃ z : Int32, z = v1 + 1 := ⟨_, rfl⟩
            have jv12 : v12.toInt = v1.toInt + 1 := xi_add ev12 rfl (by decide) (by omega) (by omega)
            refine lv_iinc (v := v12) (lv' := [(1, .int v12), (2, .int rh9), (0, .ref a0)]) hx hb dX9_firstFault_40 hl (k := 2) rfl (by rw [ev12]; rfl) (by decide) rfl (fun ls hl => ?_)
            refine lv_goto (tgt := 2) hx hb dX9_firstFault_43 (by decide) ?_
            exact ih2 I10 _ _ _ v12 g hI hF (lv_sub hl [2, 0] rfl) (by omega) (h_F.call (h_F.call (h_F.rf : h_F [(2, 0), (2, 1), (2, 2), (2, 3)] z I0 I0) hL2 rfl) fh9 rfl) (q_ff_0 hx2_0 (by rw [eF]; omega) (by omega : v12.toInt.toNat = v1.toInt.toNat + 1)) (by omega)
          · have ic11 := (xi_ne c11 rfl (by decide) : rh9.toInt ≠ 0)
            refine lv_bipush (v := 100) hx hb dX9_firstFault_33 (by decide) ?_
            refine lv_iload_n hx hb dX9_firstFault_35 rfl (lv_at hl 2 rfl) ?_
            refine lv_imul hx hb dX9_firstFault_36 ?_
            refine lv_topi (fun v13 ev13 => ?_)
            have jv13 : v13.toInt = 100 * v1.toInt := xi_mul ev13 (by decide) rfl (by omega) (by omega)
            refine lv_iload_n hx hb dX9_firstFault_37 rfl (lv_at hl 0 rfl) ?_
            refine lv_iadd hx hb dX9_firstFault_38 ?_
            refine lv_topi (fun v14 ev14 => ?_)
            have jv14 : v14.toInt = v13.toInt + rh9.toInt := xi_add ev14 rfl rfl (by omega) (by omega)
            have hS := g.2.1
            exact W.iret (v := v14) hx hb hr (fun t ht hW => ⟨⟨v14, I10, rfl, ⟨hI, hF, ⟨⟨(by omega), (by omega)⟩, (by rw [← eFT]; exact q_ff_r hx2_0 (by omega) (by rw [eF]; omega) (by rw [eF]; omega))⟩⟩, h_ret g ht⟩, hS.F ht⟩) hS.2.2 dX9_firstFault_39
  have kc15 : (0 : Int32).toInt = 0 := by decide
  exact loop2_0 _ I0 _ _ _ (0) g hI hF (lv_sub hl [1, 0] rfl) ⟨by decide, by decide⟩ (h_F.rf : h_F [(2, 0), (2, 1), (2, 2), (2, 3)] z I0 I0) (rfl) (show (8 - (0 : Int)) < (((8 - (0 : Int)).toNat + 1 : Nat) : Int) by omega)
set_option maxHeartbeats 4000000 in
set_option maxRecDepth 100000 in
theorem tX9_emptyB (l : Launch) (E : tE) (X : tX) (A : Nat → Prop) (z : tZ) (I0 : tI) (L0 : tL) (a0 : Nat) (t_a0 : z.ty a0 = 10) : Met l yX9_isEmpty wsX9_isEmpty ({ frames := 1, cells := 0, slots := 0, locals := 64 }) (va_Pc [.ref a0] (h_P E X A z I0 L0)) (vp_Si (fun r => (0 ≤ r.toInt ∧ r.toInt ≤ 1) ∧ ((r.toInt = 1 ∧ (I0 a0 3).toInt = 0) ∨ (r.toInt = 0 ∧ (I0 a0 3).toInt ≠ 0)))) 0 0 (fun _ => False) := by
  refine Met.ofW (cc := cX9_isEmpty) (maxL := 1) (ret := (some .boolean)) (by decide) rfl ?_
  intro pr_ ev_ s m args below meth cd_ s₁ B hml hv
  obtain ⟨rfl, hE, hk, hX, hA, hK, hI, hR, hB0⟩ := hv
  have g : h_G h_so h_fk E A z I0 L0 s s.heap s.heap [] := ⟨hK, va_S.rf, hB0⟩
  have hx := B.exec
  have hb := B.bytes
  have hr := B.returns
  have hts := atoms_spec (ws := wsX9_isEmpty) B.pre
  have hown : s.vm.findClass RX9 = some m.cls := findClass_of_methodNamed B.named
  have hlocks := B.notSynchronized
  have iX9 : ∀ w ∈ u_ws RX9 TX9 10, w ∈ wsX9_isEmpty := by decide +kernel
  have hl := lv_entry ([.ref a0]) (n := 1) (Nat.le_of_ble_eq_true rfl)
  rw [lg_entry_eq]
  generalize (lg_sl ([.ref a0]) ++ List.replicate (1 - (lg_sl ([.ref a0])).length) Slot.unset).toArray = ls at hl ⊢
  have hl : lv_has ls 1 [(0, .ref a0)] := hl
  obtain ⟨f0_3, ef0_3⟩ : ∃ v : Int32, v = I0 a0 3 := ⟨_, rfl⟩
  have qf0_3 : (I0 a0 3).toInt = f0_3.toInt := congrArg Int32.toInt ef0_3.symm
  have jf0_3 := hI.rd a0 3 t_a0 ef0_3 (rfl : h_bd 10 3 = (0, 12))
  refine lv_aload_n hx hb dX9_isEmpty_0 rfl (lv_at hl 0 rfl) ?_
  refine h_get (v := .int f0_3) hx hb hts iX9 hown g t_a0 (by decide) so_10 rfl 3 (by decide) (hts (.fieldLink RX9 43 "CapLeague$Trade" "size" "I") (by decide +kernel)) rfl dX9_isEmpty_1 (congrArg Value.int (ef0_3.symm)) ?_
  refine lv_if_ne (tgt := 11) hx hb dX9_isEmpty_4 (by decide) (fun c1 => ?_) (fun c1 => ?_)
  · have ic1 := (xi_ne c1 rfl (by decide) : f0_3.toInt ≠ 0)
    refine lv_iconst (v := 0) hx hb dX9_isEmpty_11 (by decide) ?_
    exact W.zret (v := 0) hx hb hr (by decide) (fun t ht hW => ⟨0, rfl, ⟨⟨(by decide), (by decide)⟩, (by have qr : (0 : Int32).toInt = 0 := (by decide); omega)⟩, ht⟩) (fun _ h => by cases h) dX9_isEmpty_12
  · have ic1 := (xi_eq c1 rfl (by decide) : f0_3.toInt = 0)
    refine lv_iconst (v := 1) hx hb dX9_isEmpty_7 (by decide) ?_
    refine lv_goto (tgt := 12) hx hb dX9_isEmpty_8 (by decide) ?_
    exact W.zret (v := 1) hx hb hr (by decide) (fun t ht hW => ⟨1, rfl, ⟨⟨(by decide), (by decide)⟩, (by have qr : (1 : Int32).toInt = 1 := (by decide); omega)⟩, ht⟩) (fun _ h => by cases h) dX9_isEmpty_12
set_option maxHeartbeats 4000000 in
set_option maxRecDepth 100000 in
theorem tX11_checkB (l : Launch) (E : tE) (X : tX) (A : Nat → Prop) (z : tZ) (I0 : tI) (L0 : tL) (a0 : Nat) (t_a0 : z.ty a0 = 12) (u_ : Nat → Int) (htp : h_tpre z I0 (h_ad z (h_ad z a0 5) 0) (h_ad z (h_ad z a0 5) 5) (h_ad z (h_ad z a0 5) 6) (I0 (h_ad z a0 5) 3).toInt u_) (hcb : 0 ≤ (I0 (h_ad z a0 5) 4).toInt ∧ (I0 (h_ad z a0 5) 4).toInt ≤ 255) : Met l yX11_check wsX11_check ({ frames := 7, cells := 0, slots := 0, locals := 448 }) (va_Pc [.ref a0] (h_P E X A z I0 L0)) (va_Qi (fun r (I1 : tI) => h_I z I1 ∧ h_F [(2, 0), (2, 1), (2, 2), (2, 3)] z I0 I1 ∧ (((I0 (h_ad z a0 5) 3).toInt = 0 ∧ r.toInt = -4) ∨ ((I0 (h_ad z a0 5) 3).toInt ≠ 0 ∧ r.toInt = q_ff (c_ft z I0 (h_ad z a0 5) u_) 8))) (fun (I1 : tI) t => h_B E A z I1 L0 t) A) 0 0 A := by
  refine Met.ofW (cc := cX11_check) (maxL := 1) (ret := (some .int)) (by decide) rfl ?_
  intro pr_ ev_ s m args below meth cd_ s₁ B hml hv
  obtain ⟨rfl, hE, hk, hX, hA, hK, hI, hR, hB0⟩ := hv
  have g : h_G h_so h_fk E A z I0 L0 s s.heap s.heap [] := ⟨hK, va_S.rf, hB0⟩
  have hF : h_F [(2, 0), (2, 1), (2, 2), (2, 3)] z I0 I0 := h_F.rf
  have hx := B.exec
  have hb := B.bytes
  have hr := B.returns
  have hts := atoms_spec (ws := wsX11_check) B.pre
  have hown : s.vm.findClass RX11 = some m.cls := findClass_of_methodNamed B.named
  have hlocks := B.notSynchronized
  have iX11 : ∀ w ∈ u_ws RX11 TX11 8, w ∈ wsX11_check := by decide +kernel
  have hl := lv_entry ([.ref a0]) (n := 1) (Nat.le_of_ble_eq_true rfl)
  rw [lg_entry_eq]
  generalize (lg_sl ([.ref a0]) ++ List.replicate (1 - (lg_sl ([.ref a0])).length) Slot.unset).toArray = ls at hl ⊢
  have hl : lv_has ls 1 [(0, .ref a0)] := hl
  obtain ⟨bg, rbg, tbg⟩ := hR.at a0 5 t_a0 (rfl : h_rs 12 5 = some (10, false)) (by decide)
  have abg : h_ad z a0 5 = bg := h_ad.at rbg
  rw [abg] at htp hcb
  refine lv_aload_n hx hb dX11_check_0 rfl (lv_at hl 0 rfl) ?_
  refine h_get (v := .ref bg) hx hb hts iX11 hown g t_a0 (by decide) so_12 rfl 5 (by decide) (hts (.fieldLink RX11 53 "CapLeague" "bargain" "LCapLeague$Trade;") (by decide +kernel)) rfl dX11_check_1 (by show va_rf (z.R a0 5) = _; rw [rbg]; rfl) ?_
  refine vp_callSi (W.runV (As := []) (rest := []) ⟨hx, hb, hml, hown, hts⟩ (tX9_emptyB l E X A z I0 L0 bg tbg) (cwV 0 hts gX11_check_X9_isEmpty rfl rfl rfl (by decide +kernel) ⟨Nat.le_of_ble_eq_true rfl, Nat.le_of_ble_eq_true rfl⟩) ⟨h_blind _ _ _ _ _ _ _, h_recv g tbg (by decide) so_10 (q := (RX9, TX9, 10)) rfl, h_pre _ hE hk hX hA hI hR g⟩ rfl rfl hl.1 rfl (lv_room (Nat.le_of_ble_eq_true rfl)) dX11_check_4 ⟨Nat.le_of_ble_eq_true rfl, Nat.le_of_ble_eq_true rfl⟩) (fun rh1 h1 => ?_)
  obtain ⟨h1, h1p0⟩ := h1
  refine lv_if_eq (tgt := 15) hx hb dX11_check_7 (by decide) (fun c2 => ?_) (fun c2 => ?_)
  · have ic2 := (xi_eq c2 rfl (by decide) : rh1.toInt = 0)
    refine lv_aload_n hx hb dX11_check_15 rfl (lv_at hl 0 rfl) ?_
    refine h_get (v := .ref bg) hx hb hts iX11 hown g t_a0 (by decide) so_12 rfl 5 (by decide) (hts (.fieldLink RX11 53 "CapLeague" "bargain" "LCapLeague$Trade;") (by decide +kernel)) rfl dX11_check_16 (by show va_rf (z.R a0 5) = _; rw [rbg]; rfl) ?_
    refine va_calli (va_runV (As := []) (rest := []) ⟨hx, hb, hml, hown, hts⟩ (tX9_firstB l E X A z I0 L0 bg tbg (u_) (htp) (hcb)) (cwV 0 hts gX11_check_X9_firstFault rfl rfl rfl (by decide +kernel) ⟨Nat.le_of_ble_eq_true rfl, Nat.le_of_ble_eq_true rfl⟩) ⟨h_blind _ _ _ _ _ _ _, h_recv g tbg (by decide) so_10 (q := (RX9, TX9, 10)) rfl, h_pre _ hE hk hX hA hI hR g⟩ rfl rfl hl.1 rfl (lv_room (Nat.le_of_ble_eq_true rfl)) dX11_check_19 ⟨Nat.le_of_ble_eq_true rfl, Nat.le_of_ble_eq_true rfl⟩) g.2.1 (fun q _ h => h) (fun q h => h) (fun rh3 I4 t H1 locs ht hvm h3 hB hz1 hk1 hS => ?_)
    obtain ⟨hI, fh3, h3⟩ := h3
    replace g := h_after g hB ht hS
    generalize H1 = H at g
    clear hB hk1 hz1 ht hvm hS
    have hF := hF.call fh3 rfl
    obtain ⟨h3, h3p0⟩ := h3
    have hS := g.2.1
    exact W.iret (v := rh3) hx hb hr (fun t ht hW => ⟨⟨rh3, I4, rfl, ⟨hI, hF, (by rw [abg]; exact Or.inr ⟨by rcases h1p0 with q | q; omega; exact q.2, h3p0⟩)⟩, h_ret g ht⟩, hS.F ht⟩) hS.2.2 dX11_check_22
  · have ic2 := (xi_ne c2 rfl (by decide) : rh1.toInt ≠ 0)
    refine lv_bipush (v := (-4)) hx hb dX11_check_10 (by decide) ?_
    refine lv_goto (tgt := 22) hx hb dX11_check_12 (by decide) ?_
    have hS := g.2.1
    exact W.iret (v := (-4)) hx hb hr (fun t ht hW => ⟨⟨(-4), I0, rfl, ⟨hI, hF, (by rw [abg]; exact Or.inl ⟨by rcases h1p0 with q | q; exact q.2; omega, by decide⟩)⟩, h_ret g ht⟩, hS.F ht⟩) hS.2.2 dX11_check_22
set_option maxHeartbeats 4000000 in
set_option maxRecDepth 100000 in
theorem tX9_worthMB (l : Launch) (E : tE) (X : tX) (A : Nat → Prop) (z : tZ) (I0 : tI) (L0 : tL) (a0 : Nat) (t_a0 : z.ty a0 = 10) (x : Int32) (x_t : Int) (h_x : x.toInt = x_t) (b_x : 0 ≤ x_t ∧ x_t ≤ 11) (c : Int32) (c_t : Int) (h_c : c.toInt = c_t) (b_c : 0 ≤ c_t ∧ c_t ≤ 7) (hxs : x_t < (I0 a0 3).toInt) (hmq : (∀ i : Nat, (i : Int) < (I0 a0 3).toInt → ((I0 (h_ad z a0 5) i).toInt = 0 → 0 ≤ (I0 (h_ad z a0 6) i).toInt ∧ (I0 (h_ad z a0 6) i).toInt < (I0 (h_ad z a0 0) 2).toInt) ∧ ((I0 (h_ad z a0 5) i).toInt ≠ 0 → 0 ≤ (I0 (h_ad z a0 6) i).toInt ∧ (I0 (h_ad z a0 6) i).toInt ≤ 79))) (hnq : ∀ p : Nat, (p : Int) < (I0 (h_ad z a0 0) 2).toInt → z.R (h_ad z (h_ad z a0 0) 1) p ≠ none) : Met l yX9_worthOfMove wsX9_worthOfMove ({ frames := 2, cells := 0, slots := 0, locals := 128 }) (va_Pc [.ref a0, .int x, .int c] (h_P E X A z I0 L0)) (vp_Si (fun r => (r = c_wm z I0 a0 c_t.toNat x_t.toNat))) 0 0 (fun _ => False) := by
  refine Met.ofW (cc := cX9_worthOfMove) (maxL := 5) (ret := (some .int)) (by decide) rfl ?_
  intro pr_ ev_ s m args below meth cd_ s₁ B hml hv
  obtain ⟨rfl, hE, hk, hX, hA, hK, hI, hR, hB0⟩ := hv
  have g : h_G h_so h_fk E A z I0 L0 s s.heap s.heap [] := ⟨hK, va_S.rf, hB0⟩
  have hx := B.exec
  have hb := B.bytes
  have hr := B.returns
  have hts := atoms_spec (ws := wsX9_worthOfMove) B.pre
  have hown : s.vm.findClass RX9 = some m.cls := findClass_of_methodNamed B.named
  have hlocks := B.notSynchronized
  have iX9 : ∀ w ∈ u_ws RX9 TX9 10, w ∈ wsX9_worthOfMove := by decide +kernel
  have iX10 : ∀ w ∈ u_ws RX10 TX10 4, w ∈ wsX9_worthOfMove := by decide +kernel
  have iX6 : ∀ w ∈ u_ws RX6 TX6 9, w ∈ wsX9_worthOfMove := by decide +kernel
  have hl := lv_entry ([.ref a0, .int x, .int c]) (n := 5) (Nat.le_of_ble_eq_true rfl)
  rw [lg_entry_eq]
  generalize (lg_sl ([.ref a0, .int x, .int c]) ++ List.replicate (5 - (lg_sl ([.ref a0, .int x, .int c])).length) Slot.unset).toArray = ls at hl ⊢
  have hl : lv_has ls 5 [(0, .ref a0), (1, .int x), (2, .int c)] := hl
  obtain ⟨bk, rbk, tbk⟩ := hR.at a0 0 t_a0 (rfl : h_rs 10 0 = some (1, false)) (by decide)
  have abk : h_ad z a0 0 = bk := h_ad.at rbk
  obtain ⟨tu, rtu, ttu⟩ := hR.at a0 1 t_a0 (rfl : h_rs 10 1 = some (11, false)) (by decide)
  have atu : h_ad z a0 1 = tu := h_ad.at rtu
  obtain ⟨it, rit, tit⟩ := hR.at a0 5 t_a0 (rfl : h_rs 10 5 = some (1005, false)) (by decide)
  have ait : h_ad z a0 5 = it := h_ad.at rit
  obtain ⟨th, rth, tth⟩ := hR.at a0 6 t_a0 (rfl : h_rs 10 6 = some (1006, false)) (by decide)
  have ath : h_ad z a0 6 = th := h_ad.at rth
  obtain ⟨pl, rpl, tpl⟩ := hR.at bk 1 tbk (rfl : h_rs 1 1 = some (101, false)) (by decide)
  have apl : h_ad z bk 1 = pl := h_ad.at rpl
  obtain ⟨wo, rwo, two⟩ := hR.at tu 3 ttu (rfl : h_rs 11 3 = some (1103, false)) (by decide)
  have awo : h_ad z tu 3 = wo := h_ad.at rwo
  obtain ⟨f0_3, ef0_3⟩ : ∃ v : Int32, v = I0 a0 3 := ⟨_, rfl⟩
  have qf0_3 : (I0 a0 3).toInt = f0_3.toInt := congrArg Int32.toInt ef0_3.symm
  have jf0_3 := hI.rd a0 3 t_a0 ef0_3 (rfl : h_bd 10 3 = (0, 12))
  obtain ⟨k_2, ek_2⟩ : ∃ v : Int32, v = I0 bk 2 := ⟨_, rfl⟩
  have qk_2 : (I0 bk 2).toInt = k_2.toInt := congrArg Int32.toInt ek_2.symm
  have jk_2 := hI.rd bk 2 tbk ek_2 (rfl : h_bd 1 2 = (0, 60))
  rw [abk, ait, ath, ← ek_2, ← ef0_3] at hmq
  rw [abk, apl, ← ek_2] at hnq
  rw [← ef0_3] at hxs
  have kx : x.toNatClampNeg = x_t.toNat := h_keq h_x (by omega) (by omega)
  have kc : c.toNatClampNeg = c_t.toNat := h_keq h_c (by omega) (by omega)
  obtain ⟨hm0, hm1⟩ := hmq x_t.toNat (by omega)
  refine lv_aload_n hx hb dX9_worthOfMove_0 rfl (lv_at hl 0 rfl) ?_
  refine h_get (v := .ref th) hx hb hts iX9 hown g t_a0 (by decide) so_10 rfl 6 (by decide) (hts (.fieldLink RX9 22 "CapLeague$Trade" "thing" "[I") (by decide +kernel)) rfl dX9_worthOfMove_1 (by show va_rf (z.R a0 6) = _; rw [rth]; rfl) ?_
  refine lv_iload_n hx hb dX9_worthOfMove_4 rfl (lv_at hl 1 rfl) ?_
  refine h_ald hx hb g tth (by decide) so_1006 (xi_in (by rw [h_x]; omega) (by rw [h_x]; omega)) dX9_worthOfMove_5 ?_
  refine lv_topi (fun v1 ev1 => ?_)
  have jv1 := hI.rd th x.toNatClampNeg tth ev1 (rfl : h_bd 1006 _ = ((-2147483648), 2147483647))
  have gv1 : I0 th x_t.toNat = v1 := by rw [← kx]; exact ev1.symm
  rw [gv1] at hm0 hm1
  refine lv_istore_n (lv' := [(3, .int v1), (0, .ref a0), (1, .int x), (2, .int c)]) hx hb dX9_worthOfMove_6 rfl hl (by decide) rfl (fun ls hl => ?_)
  refine lv_aload_n hx hb dX9_worthOfMove_7 rfl (lv_at hl 1 rfl) ?_
  refine h_get (v := .ref it) hx hb hts iX9 hown g t_a0 (by decide) so_10 rfl 5 (by decide) (hts (.fieldLink RX9 18 "CapLeague$Trade" "isTurn" "[Z") (by decide +kernel)) rfl dX9_worthOfMove_8 (by show va_rf (z.R a0 5) = _; rw [rit]; rfl) ?_
  refine lv_iload_n hx hb dX9_worthOfMove_11 rfl (lv_at hl 2 rfl) ?_
  refine h_zald hx hb g tit (by decide) so_1005 (xi_in (by rw [h_x]; omega) (by rw [h_x]; omega)) dX9_worthOfMove_12 ?_
  refine lv_topi (fun v2 ev2 => ?_)
  have jv2 := hI.rd it x.toNatClampNeg tit ev2 (rfl : h_bd 1005 _ = (0, 1))
  have gv2 : I0 it x_t.toNat = v2 := by rw [← kx]; exact ev2.symm
  rw [gv2] at hm0 hm1
  refine lv_if_eq (tgt := 42) hx hb dX9_worthOfMove_13 (by decide) (fun c3 => ?_) (fun c3 => ?_)
  · have ic3 := (xi_eq c3 rfl (by decide) : v2.toInt = 0)
    have hm5 := hm0 (by omega)
    refine lv_aload_n hx hb dX9_worthOfMove_42 rfl (lv_at hl 1 rfl) ?_
    refine h_get (v := .ref bk) hx hb hts iX9 hown g t_a0 (by decide) so_10 rfl 0 (by decide) (hts (.fieldLink RX9 35 "CapLeague$Trade" "books" "LCapLeague$Books;") (by decide +kernel)) rfl dX9_worthOfMove_43 (by show va_rf (z.R a0 0) = _; rw [rbk]; rfl) ?_
    refine lv_iload_n hx hb dX9_worthOfMove_46 rfl (lv_at hl 0 rfl) ?_
    refine va_csq (W.runV (As := [.int v1]) (rest := []) ⟨hx, hb, hml, hown, hts⟩ (tX0_playerAtN l E X A z I0 L0 bk tbk v1 (v1.toInt) rfl (by omega) (by rw [← ek_2]; omega) (by rw [apl]; exact hnq _ (by omega))) (cwV 1 hts gX9_worthOfMove_X0_playerAt rfl rfl rfl (by decide +kernel) ⟨Nat.le_of_ble_eq_true rfl, Nat.le_of_ble_eq_true rfl⟩) ⟨h_blind _ _ _ _ _ _ _, h_recv g tbk (by decide) so_1 (q := (RX0, TX0, 9)) rfl, h_pre _ hE hk hX hA hI hR g⟩ rfl rfl hl.1 rfl (lv_room (Nat.le_of_ble_eq_true rfl)) dX9_worthOfMove_47 ⟨Nat.le_of_ble_eq_true rfl, Nat.le_of_ble_eq_true rfl⟩) (fun rh4 h4 => ?_)
    obtain ⟨h4, h4p0⟩ := h4
    obtain ⟨rh4, rfl, trh4⟩ := h4
    refine xw_v (v := .ref rh4) rfl ?_
    rw [apl] at h4p0
    have rp : z.R pl v1.toInt.toNat = some rh4 := h4p0.symm
    refine lv_astore (lv' := [(4, .ref rh4), (3, .int v1), (0, .ref a0), (1, .int x), (2, .int c)]) hx hb dX9_worthOfMove_50 hl (by decide) rfl (fun ls hl => ?_)
    refine lv_aload hx hb dX9_worthOfMove_52 (lv_at hl 0 rfl) ?_
    refine lv_ifnonnull (tgt := 61) hx hb dX9_worthOfMove_54 (by decide) ?_
    refine lv_aload hx hb dX9_worthOfMove_61 (lv_at hl 0 rfl) ?_
    obtain ⟨b5, rb5, tb5⟩ := hR.at rh4 8 trh4 (rfl : h_rs 7 8 = some (708, false)) (by decide)
    refine h_get (v := .ref b5) hx hb hts iX6 hown g trh4 (by decide) so_7 rfl 8 (by decide) (hts (.fieldLink RX9 118 "CapLeague$Player" "worths" "[I") (by decide +kernel)) rfl dX9_worthOfMove_63 (by show va_rf (z.R rh4 8) = _; rw [rb5]; rfl) ?_
    refine lv_iload_n hx hb dX9_worthOfMove_66 rfl (lv_at hl 4 rfl) ?_
    refine h_ald hx hb g tb5 (by decide) so_708 (xi_in (by rw [h_c]; omega) (by rw [h_c]; omega)) dX9_worthOfMove_67 ?_
    refine lv_topi (fun v6 ev6 => ?_)
    have jv6 := hI.rd b5 c.toNatClampNeg tb5 ev6 (rfl : h_bd 708 _ = ((-2147483648), 2147483647))
    exact W.iret (v := v6) hx hb hr (fun t ht hW => ⟨v6, rfl, (by unfold c_wm; rw [ait, ath, gv2, gv1]; rw [if_neg (by omega), abk, apl, h_ad.at rp, h_ad.at rb5, ← kc]; exact ev6), ht⟩) (fun _ h => by cases h) dX9_worthOfMove_68
  · have ic3 := (xi_ne c3 rfl (by decide) : v2.toInt ≠ 0)
    have hm5 := hm1 (by omega)
    refine lv_iload_n hx hb dX9_worthOfMove_16 rfl (lv_at hl 0 rfl) ?_
    refine lv_if_lt (tgt := 40) hx hb dX9_worthOfMove_17 (by decide) (fun h => absurd (xi_lt h rfl (by decide) : v1.toInt < 0) (by omega)) (fun c7 => ?_)
    have ic7 := (xi_nlt c7 rfl (by decide) : 0 ≤ v1.toInt)
    refine lv_iload_n hx hb dX9_worthOfMove_20 rfl (lv_at hl 0 rfl) ?_
    refine lv_bipush (v := 80) hx hb dX9_worthOfMove_21 (by decide) ?_
    refine lv_icmp_ge (tgt := 40) hx hb dX9_worthOfMove_23 (by decide) (fun h => absurd (xi_le h (by decide) rfl : 80 ≤ v1.toInt) (by omega)) (fun c8 => ?_)
    have ic8 := (xi_nle c8 (by decide) rfl : v1.toInt < 80)
    refine lv_aload_n hx hb dX9_worthOfMove_26 rfl (lv_at hl 1 rfl) ?_
    refine h_get (v := .ref tu) hx hb hts iX9 hown g t_a0 (by decide) so_10 rfl 1 (by decide) (hts (.fieldLink RX9 39 "CapLeague$Trade" "turns" "LCapLeague$Turns;") (by decide +kernel)) rfl dX9_worthOfMove_27 (by show va_rf (z.R a0 1) = _; rw [rtu]; rfl) ?_
    refine h_get (v := .ref wo) hx hb hts iX10 hown g ttu (by decide) so_11 rfl 3 (by decide) (hts (.fieldLink RX9 114 "CapLeague$Turns" "worths" "[[I") (by decide +kernel)) rfl dX9_worthOfMove_30 (by show va_rf (z.R tu 3) = _; rw [rwo]; rfl) ?_
    refine lv_iload_n hx hb dX9_worthOfMove_33 rfl (lv_at hl 3 rfl) ?_
    obtain ⟨b9, rb9, tb9⟩ := hR.at wo c.toNatClampNeg two (rfl : h_rs 1103 _ = some (1153, false)) (by rw [so_1103]; exact h_lt (n := 8) (xi_in (by rw [h_c]; omega) (by rw [h_c]; omega)))
    refine h_aldA (v := .ref b9) hx hb g two (by decide) so_1103 (xi_in (by rw [h_c]; omega) (by rw [h_c]; omega)) dX9_worthOfMove_34 (by rw [rb9]; rfl) ?_
    refine lv_iload_n hx hb dX9_worthOfMove_35 rfl (lv_at hl 0 rfl) ?_
    refine h_ald hx hb g tb9 (by decide) so_1153 (xi_in (by omega) (by omega)) dX9_worthOfMove_36 ?_
    refine lv_topi (fun v10 ev10 => ?_)
    have jv10 := hI.rd b9 v1.toNatClampNeg tb9 ev10 (rfl : h_bd 1153 _ = ((-2147483648), 2147483647))
    refine lv_goto (tgt := 41) hx hb dX9_worthOfMove_37 (by decide) ?_
    exact W.iret (v := v10) hx hb hr (fun t ht hW => ⟨v10, rfl, (by unfold c_wm; rw [ait, ath, gv2, gv1]; rw [if_pos (by omega), atu, awo, ← kc, h_ad.at rb9, ← (h_keq rfl (by omega) (by omega) : v1.toNatClampNeg = v1.toInt.toNat)]; exact ev10), ht⟩) (fun _ h => by cases h) dX9_worthOfMove_41
set_option maxHeartbeats 4000000 in
set_option maxRecDepth 100000 in
theorem tX9_gainB (l : Launch) (E : tE) (X : tX) (A : Nat → Prop) (z : tZ) (I0 : tI) (L0 : tL) (a0 : Nat) (t_a0 : z.ty a0 = 10) (c : Int32) (c_t : Int) (h_c : c.toInt = c_t) (b_c : 0 ≤ c_t ∧ c_t ≤ 7) (hmq : (∀ i : Nat, (i : Int) < (I0 a0 3).toInt → ((I0 (h_ad z a0 5) i).toInt = 0 → 0 ≤ (I0 (h_ad z a0 6) i).toInt ∧ (I0 (h_ad z a0 6) i).toInt < (I0 (h_ad z a0 0) 2).toInt) ∧ ((I0 (h_ad z a0 5) i).toInt ≠ 0 → 0 ≤ (I0 (h_ad z a0 6) i).toInt ∧ (I0 (h_ad z a0 6) i).toInt ≤ 79))) (hnq : ∀ p : Nat, (p : Int) < (I0 (h_ad z a0 0) 2).toInt → z.R (h_ad z (h_ad z a0 0) 1) p ≠ none) : Met l yX9_gainOf wsX9_gainOf ({ frames := 3, cells := 0, slots := 0, locals := 192 }) (va_Pc [.ref a0, .int c] (h_P E X A z I0 L0)) (vp_Si (fun r => (r = q_pm (c_kg I0 (h_ad z a0 7) (h_ad z a0 8) c_t) (c_wm z I0 a0 c_t.toNat) 0 (I0 a0 3).toInt.toNat))) 0 0 (fun _ => False) := by
  refine Met.ofW (cc := cX9_gainOf) (maxL := 4) (ret := (some .int)) (by decide) rfl ?_
  intro pr_ ev_ s m args below meth cd_ s₁ B hml hv
  obtain ⟨rfl, hE, hk, hX, hA, hK, hI, hR, hB0⟩ := hv
  have g : h_G h_so h_fk E A z I0 L0 s s.heap s.heap [] := ⟨hK, va_S.rf, hB0⟩
  have hx := B.exec
  have hb := B.bytes
  have hr := B.returns
  have hts := atoms_spec (ws := wsX9_gainOf) B.pre
  have hown : s.vm.findClass RX9 = some m.cls := findClass_of_methodNamed B.named
  have hlocks := B.notSynchronized
  have iX9 : ∀ w ∈ u_ws RX9 TX9 10, w ∈ wsX9_gainOf := by decide +kernel
  have hl := lv_entry ([.ref a0, .int c]) (n := 4) (Nat.le_of_ble_eq_true rfl)
  rw [lg_entry_eq]
  generalize (lg_sl ([.ref a0, .int c]) ++ List.replicate (4 - (lg_sl ([.ref a0, .int c])).length) Slot.unset).toArray = ls at hl ⊢
  have hl : lv_has ls 4 [(0, .ref a0), (1, .int c)] := hl
  obtain ⟨fr, rfr, tfr⟩ := hR.at a0 7 t_a0 (rfl : h_rs 10 7 = some (1007, false)) (by decide)
  have afr : h_ad z a0 7 = fr := h_ad.at rfr
  obtain ⟨to, rto, tto⟩ := hR.at a0 8 t_a0 (rfl : h_rs 10 8 = some (1008, false)) (by decide)
  have ato : h_ad z a0 8 = to := h_ad.at rto
  obtain ⟨f0_3, ef0_3⟩ : ∃ v : Int32, v = I0 a0 3 := ⟨_, rfl⟩
  have qf0_3 : (I0 a0 3).toInt = f0_3.toInt := congrArg Int32.toInt ef0_3.symm
  have jf0_3 := hI.rd a0 3 t_a0 ef0_3 (rfl : h_bd 10 3 = (0, 12))
  refine lv_iconst (v := 0) hx hb dX9_gainOf_0 (by decide) ?_
  refine lv_istore_n (lv' := [(2, .int 0), (0, .ref a0), (1, .int c)]) hx hb dX9_gainOf_1 rfl hl (by decide) rfl (fun ls hl => ?_)
  refine lv_iconst (v := 0) hx hb dX9_gainOf_2 (by decide) ?_
  refine lv_istore_n (lv' := [(3, .int 0), (2, .int 0), (0, .ref a0), (1, .int c)]) hx hb dX9_gainOf_3 rfl hl (by decide) rfl (fun ls hl => ?_)
  have loop4_0 : ∀ (n : Nat) (ls : Array Slot) (v1 v2 : Int32), lv_has ls 4 [(0, .ref a0), (1, .int c), (2, .int v1), (3, .int v2)] → ((-2147483648) ≤ v1.toInt ∧ v1.toInt ≤ 2147483647) → (0 ≤ v2.toInt ∧ v2.toInt ≤ 12) → (v1 = q_pm (c_kg I0 fr to c_t) (c_wm z I0 a0 c_t.toNat) 0 (v2.toInt).toNat) → (v2.toInt ≤ f0_3.toInt) → (12 - v2.toInt) < (n : Int) → W pr_ l ev_ (headSpec wsX9_gainOf ({ frames := 3, cells := 0, slots := 0, locals := 192 })).room s m ([.ref a0, .int c] : List Value).toArray below meth cd_ s.heap [] 0 0 (MQ below (vp_Si (fun r => (r = q_pm (c_kg I0 (h_ad z a0 7) (h_ad z a0 8) c_t) (c_wm z I0 a0 c_t.toNat) 0 (I0 a0 3).toInt.toNat))) ([.ref a0, .int c] : List Value).toArray s 0 0 (fun _ => False)) (F0 m 4 ls []) := by
    intro n
    induction n with
    | zero => intro ls v1 v2 hl jv1 jv2 hx4_0 hx4_1 hn; exact absurd hn (by omega)
    | succ n ih4 =>
      intro ls v1 v2 hl jv1 jv2 hx4_0 hx4_1 hn
      have kv : v2.toNatClampNeg = v2.toInt.toNat := h_keq rfl (by omega) (by omega)
      refine lv_iload_n hx hb dX9_gainOf_4 rfl (lv_at hl 3 rfl) ?_
      refine lv_aload_n hx hb dX9_gainOf_5 rfl (lv_at hl 0 rfl) ?_
      refine h_get (v := .int f0_3) hx hb hts iX9 hown g t_a0 (by decide) so_10 rfl 3 (by decide) (hts (.fieldLink RX9 43 "CapLeague$Trade" "size" "I") (by decide +kernel)) rfl dX9_gainOf_6 (congrArg Value.int (ef0_3.symm)) ?_
      refine lv_icmp_ge (tgt := 59) hx hb dX9_gainOf_9 (by decide) (fun c3 => ?_) (fun c3 => ?_)
      · have ic3 := (xi_le c3 rfl rfl : f0_3.toInt ≤ v2.toInt)
        refine lv_iload_n hx hb dX9_gainOf_59 rfl (lv_at hl 2 rfl) ?_
        exact W.iret (v := v1) hx hb hr (fun t ht hW => ⟨v1, rfl, (by rw [afr, ato, ← ef0_3, show f0_3.toInt.toNat = v2.toInt.toNat by omega]; exact hx4_0), ht⟩) (fun _ h => by cases h) dX9_gainOf_60
      · have ic3 := (xi_nle c3 rfl rfl : v2.toInt < f0_3.toInt)
        refine lv_aload_n hx hb dX9_gainOf_12 rfl (lv_at hl 0 rfl) ?_
        refine h_get (v := .ref to) hx hb hts iX9 hown g t_a0 (by decide) so_10 rfl 8 (by decide) (hts (.fieldLink RX9 29 "CapLeague$Trade" "to" "[I") (by decide +kernel)) rfl dX9_gainOf_13 (by show va_rf (z.R a0 8) = _; rw [rto]; rfl) ?_
        refine lv_iload_n hx hb dX9_gainOf_16 rfl (lv_at hl 3 rfl) ?_
        refine h_ald hx hb g tto (by decide) so_1008 (xi_in (by omega) (by omega)) dX9_gainOf_17 ?_
        refine lv_topi (fun v4 ev4 => ?_)
        have jv4 := hI.rd to v2.toNatClampNeg tto ev4 (rfl : h_bd 1008 _ = (0, 7))
        have gv4 : I0 to v2.toInt.toNat = v4 := by rw [← kv]; exact ev4.symm
        refine lv_iload_n hx hb dX9_gainOf_18 rfl (lv_at hl 1 rfl) ?_
        refine lv_icmp_ne (tgt := 34) hx hb dX9_gainOf_19 (by decide) (fun c5 => ?_) (fun c5 => ?_)
        · have ic5 := (xi_ne c5 rfl h_c : v4.toInt ≠ c_t)
          refine lv_aload_n hx hb dX9_gainOf_34 rfl (lv_at hl 0 rfl) ?_
          refine h_get (v := .ref fr) hx hb hts iX9 hown g t_a0 (by decide) so_10 rfl 7 (by decide) (hts (.fieldLink RX9 26 "CapLeague$Trade" "from" "[I") (by decide +kernel)) rfl dX9_gainOf_35 (by show va_rf (z.R a0 7) = _; rw [rfr]; rfl) ?_
          refine lv_iload_n hx hb dX9_gainOf_38 rfl (lv_at hl 3 rfl) ?_
          refine h_ald hx hb g tfr (by decide) so_1007 (xi_in (by omega) (by omega)) dX9_gainOf_39 ?_
          refine lv_topi (fun v6 ev6 => ?_)
          have jv6 := hI.rd fr v2.toNatClampNeg tfr ev6 (rfl : h_bd 1007 _ = ((-2147483648), 2147483647))
          have gv6 : I0 fr v2.toInt.toNat = v6 := by rw [← kv]; exact ev6.symm
          refine lv_iload_n hx hb dX9_gainOf_40 rfl (lv_at hl 1 rfl) ?_
          refine lv_icmp_ne (tgt := 53) hx hb dX9_gainOf_41 (by decide) (fun c7 => ?_) (fun c7 => ?_)
          · have ic7 := (xi_ne c7 rfl h_c : v6.toInt ≠ c_t)
            obtain ⟨v8, ev8⟩ : ∃ z : Int32, z = v2 + 1 := ⟨_, rfl⟩
            have jv8 : v8.toInt = v2.toInt + 1 := xi_add ev8 rfl (by decide) (by omega) (by omega)
            refine lv_iinc (v := v8) (lv' := [(3, .int v8), (0, .ref a0), (1, .int c), (2, .int v1)]) hx hb dX9_gainOf_53 hl (k := 3) rfl (by rw [ev8]; rfl) (by decide) rfl (fun ls hl => ?_)
            refine lv_goto (tgt := 4) hx hb dX9_gainOf_56 (by decide) ?_
            exact ih4 _ v1 v8 (lv_sub hl [1, 2, 3, 0] rfl) (by omega) (by omega) (q_pm_0 hx4_0 (by omega : v8.toInt.toNat = v2.toInt.toNat + 1) (c_kg_0 (by rw [gv4]; omega) (by rw [gv6]; omega))) (by omega) (by omega)
          · have ic7 := (xi_eq c7 rfl h_c : v6.toInt = c_t)
            refine lv_iload_n hx hb dX9_gainOf_44 rfl (lv_at hl 2 rfl) ?_
            refine lv_aload_n hx hb dX9_gainOf_45 rfl (lv_at hl 0 rfl) ?_
            refine lv_iload_n hx hb dX9_gainOf_46 rfl (lv_at hl 3 rfl) ?_
            refine lv_iload_n hx hb dX9_gainOf_47 rfl (lv_at hl 1 rfl) ?_
            refine vp_callSi (W.runV (As := [.int v2, .int c]) (rest := [.int v1]) ⟨hx, hb, hml, hown, hts⟩ (tX9_worthMB l E X A z I0 L0 a0 t_a0 v2 (v2.toInt) rfl (by omega) c (c_t) h_c (by omega) (by rw [← ef0_3]; omega) (hmq) (hnq)) (cwV 2 hts gX9_gainOf_X9_worthOfMove rfl rfl rfl (by decide +kernel) ⟨Nat.le_of_ble_eq_true rfl, Nat.le_of_ble_eq_true rfl⟩) ⟨h_blind _ _ _ _ _ _ _, h_recv g t_a0 (by decide) so_10 (q := (RX9, TX9, 10)) rfl, h_pre _ hE hk hX hA hI hR g⟩ rfl rfl hl.1 rfl (lv_room (Nat.le_of_ble_eq_true rfl)) dX9_gainOf_48 ⟨Nat.le_of_ble_eq_true rfl, Nat.le_of_ble_eq_true rfl⟩) (fun rh9 h9 => ?_)
            have h9p0 := h9
            have jrh9 : -2147483648 ≤ rh9.toInt ∧ rh9.toInt ≤ 2147483647 := ⟨xi_lo _, Int.le_of_lt_add_one (xi_hi _)⟩
            refine lv_isub hx hb dX9_gainOf_51 ?_
            refine lv_topi (fun v10 ev10 => ?_)
            have jv10 : -2147483648 ≤ v10.toInt ∧ v10.toInt ≤ 2147483647 := ⟨xi_lo _, Int.le_of_lt_add_one (xi_hi _)⟩
            refine lv_istore_n (lv' := [(2, .int v10), (0, .ref a0), (1, .int c), (3, .int v2)]) hx hb dX9_gainOf_52 rfl hl (by decide) rfl (fun ls hl => ?_)
            obtain ⟨v11, ev11⟩ : ∃ z : Int32, z = v2 + 1 := ⟨_, rfl⟩
            have jv11 : v11.toInt = v2.toInt + 1 := xi_add ev11 rfl (by decide) (by omega) (by omega)
            refine lv_iinc (v := v11) (lv' := [(3, .int v11), (2, .int v10), (0, .ref a0), (1, .int c)]) hx hb dX9_gainOf_53 hl (k := 3) rfl (by rw [ev11]; rfl) (by decide) rfl (fun ls hl => ?_)
            refine lv_goto (tgt := 4) hx hb dX9_gainOf_56 (by decide) ?_
            exact ih4 _ v10 v11 (lv_sub hl [2, 3, 1, 0] rfl) (by omega) (by omega) (q_pm_2 hx4_0 (by omega : v11.toInt.toNat = v2.toInt.toNat + 1) (c_kg_2 (by rw [gv4]; omega) (by rw [gv6]; omega)) (by rw [← h9p0]; exact ev10)) (by omega) (by omega)
        · have ic5 := (xi_eq c5 rfl h_c : v4.toInt = c_t)
          refine lv_iload_n hx hb dX9_gainOf_22 rfl (lv_at hl 2 rfl) ?_
          refine lv_aload_n hx hb dX9_gainOf_23 rfl (lv_at hl 0 rfl) ?_
          refine lv_iload_n hx hb dX9_gainOf_24 rfl (lv_at hl 3 rfl) ?_
          refine lv_iload_n hx hb dX9_gainOf_25 rfl (lv_at hl 1 rfl) ?_
          refine vp_callSi (W.runV (As := [.int v2, .int c]) (rest := [.int v1]) ⟨hx, hb, hml, hown, hts⟩ (tX9_worthMB l E X A z I0 L0 a0 t_a0 v2 (v2.toInt) rfl (by omega) c (c_t) h_c (by omega) (by rw [← ef0_3]; omega) (hmq) (hnq)) (cwV 2 hts gX9_gainOf_X9_worthOfMove rfl rfl rfl (by decide +kernel) ⟨Nat.le_of_ble_eq_true rfl, Nat.le_of_ble_eq_true rfl⟩) ⟨h_blind _ _ _ _ _ _ _, h_recv g t_a0 (by decide) so_10 (q := (RX9, TX9, 10)) rfl, h_pre _ hE hk hX hA hI hR g⟩ rfl rfl hl.1 rfl (lv_room (Nat.le_of_ble_eq_true rfl)) dX9_gainOf_26 ⟨Nat.le_of_ble_eq_true rfl, Nat.le_of_ble_eq_true rfl⟩) (fun rh12 h12 => ?_)
          have h12p0 := h12
          have jrh12 : -2147483648 ≤ rh12.toInt ∧ rh12.toInt ≤ 2147483647 := ⟨xi_lo _, Int.le_of_lt_add_one (xi_hi _)⟩
          refine lv_iadd hx hb dX9_gainOf_29 ?_
          refine lv_topi (fun v13 ev13 => ?_)
          have jv13 : -2147483648 ≤ v13.toInt ∧ v13.toInt ≤ 2147483647 := ⟨xi_lo _, Int.le_of_lt_add_one (xi_hi _)⟩
          refine lv_istore_n (lv' := [(2, .int v13), (0, .ref a0), (1, .int c), (3, .int v2)]) hx hb dX9_gainOf_30 rfl hl (by decide) rfl (fun ls hl => ?_)
          refine lv_goto (tgt := 53) hx hb dX9_gainOf_31 (by decide) ?_
          obtain ⟨v14, ev14⟩ : ∃ z : Int32, z = v2 + 1 := ⟨_, rfl⟩
          have jv14 : v14.toInt = v2.toInt + 1 := xi_add ev14 rfl (by decide) (by omega) (by omega)
          refine lv_iinc (v := v14) (lv' := [(3, .int v14), (2, .int v13), (0, .ref a0), (1, .int c)]) hx hb dX9_gainOf_53 hl (k := 3) rfl (by rw [ev14]; rfl) (by decide) rfl (fun ls hl => ?_)
          refine lv_goto (tgt := 4) hx hb dX9_gainOf_56 (by decide) ?_
          exact ih4 _ v13 v14 (lv_sub hl [2, 3, 1, 0] rfl) (by omega) (by omega) (q_pm_1 hx4_0 (by omega : v14.toInt.toNat = v2.toInt.toNat + 1) (c_kg_1 (by rw [gv4]; omega)) (by rw [← h12p0]; exact ev13)) (by omega) (by omega)
  have kc15 : (0 : Int32).toInt = 0 := by decide
  have kc16 : (0 : Int32).toInt = 0 := by decide
  exact loop4_0 _ _ (0) (0) (lv_sub hl [2, 3, 1, 0] rfl) ⟨by decide, by decide⟩ ⟨by decide, by decide⟩ (rfl) (by omega) (show (12 - (0 : Int)) < (((12 - (0 : Int)).toNat + 1 : Nat) : Int) by omega)
set_option maxHeartbeats 4000000 in
set_option maxRecDepth 100000 in
theorem tX11_gainB (l : Launch) (E : tE) (X : tX) (A : Nat → Prop) (z : tZ) (I0 : tI) (L0 : tL) (a0 : Nat) (t_a0 : z.ty a0 = 12) (c : Int32) (c_t : Int) (h_c : c.toInt = c_t) (hmq : (∀ i : Nat, (i : Int) < (I0 (h_ad z a0 5) 3).toInt → ((I0 (h_ad z (h_ad z a0 5) 5) i).toInt = 0 → 0 ≤ (I0 (h_ad z (h_ad z a0 5) 6) i).toInt ∧ (I0 (h_ad z (h_ad z a0 5) 6) i).toInt < (I0 (h_ad z (h_ad z a0 5) 0) 2).toInt) ∧ ((I0 (h_ad z (h_ad z a0 5) 5) i).toInt ≠ 0 → 0 ≤ (I0 (h_ad z (h_ad z a0 5) 6) i).toInt ∧ (I0 (h_ad z (h_ad z a0 5) 6) i).toInt ≤ 79))) (hnq : ∀ p : Nat, (p : Int) < (I0 (h_ad z (h_ad z a0 5) 0) 2).toInt → z.R (h_ad z (h_ad z (h_ad z a0 5) 0) 1) p ≠ none) : Met l yX11_gain wsX11_gain ({ frames := 4, cells := 0, slots := 0, locals := 256 }) (va_Pc [.ref a0, .int c] (h_P E X A z I0 L0)) (vp_Si (fun r => ((¬ (0 ≤ c_t ∧ c_t ≤ 7) ∧ r.toInt = -2000000000) ∨ ((0 ≤ c_t ∧ c_t ≤ 7) ∧ r = q_pm (c_kg I0 (h_ad z (h_ad z a0 5) 7) (h_ad z (h_ad z a0 5) 8) c_t) (c_wm z I0 (h_ad z a0 5) c_t.toNat) 0 (I0 (h_ad z a0 5) 3).toInt.toNat)))) 0 0 (fun _ => False) := by
  refine Met.ofW (cc := cX11_gain) (maxL := 2) (ret := (some .int)) (by decide) rfl ?_
  intro pr_ ev_ s m args below meth cd_ s₁ B hml hv
  obtain ⟨rfl, hE, hk, hX, hA, hK, hI, hR, hB0⟩ := hv
  have g : h_G h_so h_fk E A z I0 L0 s s.heap s.heap [] := ⟨hK, va_S.rf, hB0⟩
  have hx := B.exec
  have hb := B.bytes
  have hr := B.returns
  have hts := atoms_spec (ws := wsX11_gain) B.pre
  have hown : s.vm.findClass RX11 = some m.cls := findClass_of_methodNamed B.named
  have hlocks := B.notSynchronized
  have iX11 : ∀ w ∈ u_ws RX11 TX11 8, w ∈ wsX11_gain := by decide +kernel
  have hl := lv_entry ([.ref a0, .int c]) (n := 2) (Nat.le_of_ble_eq_true rfl)
  rw [lg_entry_eq]
  generalize (lg_sl ([.ref a0, .int c]) ++ List.replicate (2 - (lg_sl ([.ref a0, .int c])).length) Slot.unset).toArray = ls at hl ⊢
  have hl : lv_has ls 2 [(0, .ref a0), (1, .int c)] := hl
  have b_c : -2147483648 ≤ c_t ∧ c_t ≤ 2147483647 := h_c ▸ ⟨xi_lo c, Int.le_of_lt_add_one (xi_hi c)⟩
  obtain ⟨bg, rbg, tbg⟩ := hR.at a0 5 t_a0 (rfl : h_rs 12 5 = some (10, false)) (by decide)
  have abg : h_ad z a0 5 = bg := h_ad.at rbg
  rw [abg] at hmq hnq
  refine lv_iload_n hx hb dX11_gain_0 rfl (lv_at hl 1 rfl) ?_
  refine vp_callSi (W.runS (As := [.int c]) (rest := []) ⟨hx, hb, hml, hown, hts⟩ (tX11_isClub l E X A z I0 L0 c (c_t) h_c) (va_cwS 1 hts gX11_gain_X11_isClub rfl rfl rfl (by decide +kernel) ⟨Nat.le_of_ble_eq_true rfl, Nat.le_of_ble_eq_true rfl⟩) ⟨h_blind _ _ _ _ _ _ _, h_pre _ hE hk hX hA hI hR g⟩ rfl rfl hl.1 rfl (lv_room (Nat.le_of_ble_eq_true rfl)) dX11_gain_1 ⟨Nat.le_of_ble_eq_true rfl, Nat.le_of_ble_eq_true rfl⟩) (fun rh1 h1 => ?_)
  rcases h1 with ⟨rfl, h1⟩ | ⟨rfl, h1⟩
  · skip
    refine lv_if_eq (tgt := 18) hx hb dX11_gain_4 (by decide) (fun _ => ?_) (fun h => absurd (by decide) h)
    refine lv_ldc (v := (-2000000000)) hx hb hown (hts (.constant RX11 232 (-2000000000)) (by decide +kernel)) dX11_gain_18 ?_
    exact W.iret (v := (-2000000000)) hx hb hr (fun t ht hW => ⟨(-2000000000), rfl, (Or.inl ⟨by omega, by decide⟩), ht⟩) (fun _ h => by cases h) dX11_gain_20
  · skip
    refine lv_if_eq (tgt := 18) hx hb dX11_gain_4 (by decide) (fun h => absurd h (by decide)) (fun _ => ?_)
    refine lv_aload_n hx hb dX11_gain_7 rfl (lv_at hl 0 rfl) ?_
    refine h_get (v := .ref bg) hx hb hts iX11 hown g t_a0 (by decide) so_12 rfl 5 (by decide) (hts (.fieldLink RX11 53 "CapLeague" "bargain" "LCapLeague$Trade;") (by decide +kernel)) rfl dX11_gain_8 (by show va_rf (z.R a0 5) = _; rw [rbg]; rfl) ?_
    refine lv_iload_n hx hb dX11_gain_11 rfl (lv_at hl 1 rfl) ?_
    refine vp_callSi (W.runV (As := [.int c]) (rest := []) ⟨hx, hb, hml, hown, hts⟩ (tX9_gainB l E X A z I0 L0 bg tbg c (c_t) h_c (by omega) (hmq) (hnq)) (cwV 1 hts gX11_gain_X9_gainOf rfl rfl rfl (by decide +kernel) ⟨Nat.le_of_ble_eq_true rfl, Nat.le_of_ble_eq_true rfl⟩) ⟨h_blind _ _ _ _ _ _ _, h_recv g tbg (by decide) so_10 (q := (RX9, TX9, 10)) rfl, h_pre _ hE hk hX hA hI hR g⟩ rfl rfl hl.1 rfl (lv_room (Nat.le_of_ble_eq_true rfl)) dX11_gain_12 ⟨Nat.le_of_ble_eq_true rfl, Nat.le_of_ble_eq_true rfl⟩) (fun rh4 h4 => ?_)
    have h4p0 := h4
    have jrh4 : -2147483648 ≤ rh4.toInt ∧ rh4.toInt ≤ 2147483647 := ⟨xi_lo _, Int.le_of_lt_add_one (xi_hi _)⟩
    refine lv_goto (tgt := 20) hx hb dX11_gain_15 (by decide) ?_
    exact W.iret (v := rh4) hx hb hr (fun t ht hW => ⟨rh4, rfl, (by rw [abg]; exact Or.inr ⟨by omega, h4p0⟩), ht⟩) (fun _ h => by cases h) dX11_gain_20

