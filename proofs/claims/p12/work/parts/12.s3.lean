set_option maxHeartbeats 4000000 in
set_option maxRecDepth 100000 in
theorem tX10_keyOf (l : Launch) (E : tE) (X : tX) (A : Nat → Prop) (z : tZ) (I0 : tI) (L0 : tL) (x : Int32) (x_t : Int) (h_x : x.toInt = x_t) (y : Int32) (y_t : Int) (h_y : y.toInt = y_t) : Met l yX10_keyOf wsX10_keyOf ({ frames := 1, cells := 0, slots := 0, locals := 64 }) (va_Pc [.int x, .int y] (h_P E X A z I0 L0)) (vp_Si (fun r => True)) 0 0 (fun _ => False) := by
  refine Met.ofW (cc := cX10_keyOf) (maxL := 2) (ret := (some .int)) (by decide) rfl ?_
  intro pr_ ev_ s m args below meth cd_ s₁ B hml hv
  obtain ⟨rfl, hE, hk, hX, hA, hK, hI, hR, hB0⟩ := hv
  have g : h_G h_so h_fk E A z I0 L0 s s.heap s.heap [] := ⟨hK, va_S.rf, hB0⟩
  have hx := B.exec
  have hb := B.bytes
  have hr := B.returns
  have hts := atoms_spec (ws := wsX10_keyOf) B.pre
  have hown : s.vm.findClass RX10 = some m.cls := findClass_of_methodNamed B.named
  have hlocks := B.notSynchronized
  have hl := lv_entry ([.int x, .int y]) (n := 2) (Nat.le_of_ble_eq_true rfl)
  rw [lg_entry_eq]
  generalize (lg_sl ([.int x, .int y]) ++ List.replicate (2 - (lg_sl ([.int x, .int y])).length) Slot.unset).toArray = ls at hl ⊢
  have hl : lv_has ls 2 [(0, .int x), (1, .int y)] := hl
  have b_x : -2147483648 ≤ x_t ∧ x_t ≤ 2147483647 := h_x ▸ ⟨xi_lo x, Int.le_of_lt_add_one (xi_hi x)⟩
  have b_y : -2147483648 ≤ y_t ∧ y_t ≤ 2147483647 := h_y ▸ ⟨xi_lo y, Int.le_of_lt_add_one (xi_hi y)⟩
  refine lv_iload_n hx hb dX10_keyOf_0 rfl (lv_at hl 0 rfl) ?_
  refine lv_bipush (v := 10) hx hb dX10_keyOf_1 (by decide) ?_
  refine lv_imul hx hb dX10_keyOf_3 ?_
  refine lv_topi (fun v1 ev1 => ?_)
  have jv1 : -2147483648 ≤ v1.toInt ∧ v1.toInt ≤ 2147483647 := ⟨xi_lo _, Int.le_of_lt_add_one (xi_hi _)⟩
  refine lv_iload_n hx hb dX10_keyOf_4 rfl (lv_at hl 1 rfl) ?_
  refine lv_iadd hx hb dX10_keyOf_5 ?_
  refine lv_topi (fun v2 ev2 => ?_)
  have jv2 : -2147483648 ≤ v2.toInt ∧ v2.toInt ≤ 2147483647 := ⟨xi_lo _, Int.le_of_lt_add_one (xi_hi _)⟩
  exact W.iret (v := v2) hx hb hr (fun t ht hW => ⟨v2, rfl, trivial, ht⟩) (fun _ h => by cases h) dX10_keyOf_6
set_option maxHeartbeats 4000000 in
set_option maxRecDepth 100000 in
theorem tX10_keyR (l : Launch) (E : tE) (X : tX) (A : Nat → Prop) (z : tZ) (I0 : tI) (L0 : tL) (x : Int32) (x_t : Int) (h_x : x.toInt = x_t) (b_x : 0 ≤ x_t ∧ x_t ≤ 7) (y : Int32) (y_t : Int) (h_y : y.toInt = y_t) (b_y : 0 ≤ y_t ∧ y_t ≤ 9) : Met l yX10_keyOf wsX10_keyOf ({ frames := 1, cells := 0, slots := 0, locals := 64 }) (va_Pc [.int x, .int y] (h_P E X A z I0 L0)) (vp_Si (fun r => (0 ≤ r.toInt ∧ r.toInt ≤ 79) ∧ (r.toInt = x_t * 10 + y_t))) 0 0 (fun _ => False) := by
  refine Met.ofW (cc := cX10_keyOf) (maxL := 2) (ret := (some .int)) (by decide) rfl ?_
  intro pr_ ev_ s m args below meth cd_ s₁ B hml hv
  obtain ⟨rfl, hE, hk, hX, hA, hK, hI, hR, hB0⟩ := hv
  have g : h_G h_so h_fk E A z I0 L0 s s.heap s.heap [] := ⟨hK, va_S.rf, hB0⟩
  have hx := B.exec
  have hb := B.bytes
  have hr := B.returns
  have hts := atoms_spec (ws := wsX10_keyOf) B.pre
  have hown : s.vm.findClass RX10 = some m.cls := findClass_of_methodNamed B.named
  have hlocks := B.notSynchronized
  have hl := lv_entry ([.int x, .int y]) (n := 2) (Nat.le_of_ble_eq_true rfl)
  rw [lg_entry_eq]
  generalize (lg_sl ([.int x, .int y]) ++ List.replicate (2 - (lg_sl ([.int x, .int y])).length) Slot.unset).toArray = ls at hl ⊢
  have hl : lv_has ls 2 [(0, .int x), (1, .int y)] := hl
  refine lv_iload_n hx hb dX10_keyOf_0 rfl (lv_at hl 0 rfl) ?_
  refine lv_bipush (v := 10) hx hb dX10_keyOf_1 (by decide) ?_
  refine lv_imul hx hb dX10_keyOf_3 ?_
  refine lv_topi (fun v1 ev1 => ?_)
  have jv1 : v1.toInt = x_t * 10 := xi_mul ev1 h_x (by decide) (by omega) (by omega)
  refine lv_iload_n hx hb dX10_keyOf_4 rfl (lv_at hl 1 rfl) ?_
  refine lv_iadd hx hb dX10_keyOf_5 ?_
  refine lv_topi (fun v2 ev2 => ?_)
  have jv2 : v2.toInt = v1.toInt + y_t := xi_add ev2 rfl h_y (by omega) (by omega)
  exact W.iret (v := v2) hx hb hr (fun t ht hW => ⟨v2, rfl, ⟨⟨(by omega), (by omega)⟩, (by omega)⟩, ht⟩) (fun _ h => by cases h) dX10_keyOf_6
set_option maxHeartbeats 4000000 in
set_option maxRecDepth 100000 in
theorem tX10_hand (l : Launch) (E : tE) (X : tX) (A : Nat → Prop) (z : tZ) (I0 : tI) (L0 : tL) (a0 : Nat) (t_a0 : z.ty a0 = 11) (x : Int32) (x_t : Int) (h_x : x.toInt = x_t) (y : Int32) (y_t : Int) (h_y : y.toInt = y_t) (k : Int32) (k_t : Int) (h_k : k.toInt = k_t) : Met l yX10_hand wsX10_hand ({ frames := 1, cells := 0, slots := 0, locals := 64 }) (va_Pc [.ref a0, .int x, .int y, .int k] (h_P E X A z I0 L0)) (va_Qv (fun (I1 : tI) => h_I z I1 ∧ h_F [(1102, 999), (1100, 999), (1101, 999)] z I0 I1 ∧ True) (fun (I1 : tI) t => h_B E A z I1 L0 t) A) 0 0 A := by
  refine Met.ofW (cc := cX10_hand) (maxL := 4) (ret := none) (by decide) rfl ?_
  intro pr_ ev_ s m args below meth cd_ s₁ B hml hv
  obtain ⟨rfl, hE, hk, hX, hA, hK, hI, hR, hB0⟩ := hv
  have g : h_G h_so h_fk E A z I0 L0 s s.heap s.heap [] := ⟨hK, va_S.rf, hB0⟩
  have hF : h_F [(1102, 999), (1100, 999), (1101, 999)] z I0 I0 := h_F.rf
  have hx := B.exec
  have hb := B.bytes
  have hr := B.returns
  have hts := atoms_spec (ws := wsX10_hand) B.pre
  have hown : s.vm.findClass RX10 = some m.cls := findClass_of_methodNamed B.named
  have hlocks := B.notSynchronized
  have iX10 : ∀ w ∈ u_ws RX10 TX10 4, w ∈ wsX10_hand := by decide +kernel
  have hl := lv_entry ([.ref a0, .int x, .int y, .int k]) (n := 4) (Nat.le_of_ble_eq_true rfl)
  rw [lg_entry_eq]
  generalize (lg_sl ([.ref a0, .int x, .int y, .int k]) ++ List.replicate (4 - (lg_sl ([.ref a0, .int x, .int y, .int k])).length) Slot.unset).toArray = ls at hl ⊢
  have hl : lv_has ls 4 [(0, .ref a0), (1, .int x), (2, .int y), (3, .int k)] := hl
  have b_x : -2147483648 ≤ x_t ∧ x_t ≤ 2147483647 := h_x ▸ ⟨xi_lo x, Int.le_of_lt_add_one (xi_hi x)⟩
  have b_y : -2147483648 ≤ y_t ∧ y_t ≤ 2147483647 := h_y ▸ ⟨xi_lo y, Int.le_of_lt_add_one (xi_hi y)⟩
  have b_k : -2147483648 ≤ k_t ∧ k_t ≤ 2147483647 := h_k ▸ ⟨xi_lo k, Int.le_of_lt_add_one (xi_hi k)⟩
  refine lv_iload_n hx hb dX10_hand_0 rfl (lv_at hl 1 rfl) ?_
  refine lv_if_lt (tgt := 36) hx hb dX10_hand_1 (by decide) (fun c1 => ?_) (fun c1 => ?_)
  · have ic1 := (xi_lt c1 h_x (by decide) : x_t < 0)
    have hS := g.2.1
    exact W.vret hx hb hr (fun t ht hW => ⟨⟨I0, rfl, ⟨hI, hF, trivial⟩, h_ret g ht⟩, hS.F ht⟩) hS.2.2 dX10_hand_36
  · have ic1 := (xi_nlt c1 h_x (by decide) : 0 ≤ x_t)
    refine lv_iload_n hx hb dX10_hand_4 rfl (lv_at hl 1 rfl) ?_
    refine lv_bipush (v := 80) hx hb dX10_hand_5 (by decide) ?_
    refine lv_icmp_ge (tgt := 36) hx hb dX10_hand_7 (by decide) (fun c2 => ?_) (fun c2 => ?_)
    · have ic2 := (xi_le c2 (by decide) h_x : 80 ≤ x_t)
      have hS := g.2.1
      exact W.vret hx hb hr (fun t ht hW => ⟨⟨I0, rfl, ⟨hI, hF, trivial⟩, h_ret g ht⟩, hS.F ht⟩) hS.2.2 dX10_hand_36
    · have ic2 := (xi_nle c2 (by decide) h_x : x_t < 80)
      refine lv_aload_n hx hb dX10_hand_10 rfl (lv_at hl 0 rfl) ?_
      obtain ⟨b3, rb3, tb3⟩ := hR.at a0 2 t_a0 (rfl : h_rs 11 2 = some (1102, false)) (by decide)
      refine h_get (v := .ref b3) hx hb hts iX10 hown g t_a0 (by decide) so_11 rfl 2 (by decide) (hts (.fieldLink RX10 18 "CapLeague$Turns" "giver" "[I") (by decide +kernel)) rfl dX10_hand_11 (by show va_rf (z.R a0 2) = _; rw [rb3]; rfl) ?_
      refine lv_iload_n hx hb dX10_hand_14 rfl (lv_at hl 1 rfl) ?_
      refine lv_aload_n hx hb dX10_hand_15 rfl (lv_at hl 0 rfl) ?_
      obtain ⟨b4, rb4, tb4⟩ := hR.at a0 0 t_a0 (rfl : h_rs 11 0 = some (1100, false)) (by decide)
      refine h_get (v := .ref b4) hx hb hts iX10 hown g t_a0 (by decide) so_11 rfl 0 (by decide) (hts (.fieldLink RX10 11 "CapLeague$Turns" "holder" "[I") (by decide +kernel)) rfl dX10_hand_16 (by show va_rf (z.R a0 0) = _; rw [rb4]; rfl) ?_
      refine lv_iload_n hx hb dX10_hand_19 rfl (lv_at hl 1 rfl) ?_
      refine h_ald hx hb g tb4 (by decide) so_1100 (xi_in (by rw [h_x]; omega) (by rw [h_x]; omega)) dX10_hand_20 ?_
      refine lv_topi (fun v5 ev5 => ?_)
      have jv5 := hI.rd b4 x.toNatClampNeg tb4 ev5 (rfl : h_bd 1100 _ = ((-2147483648), 2147483647))
      refine h_ast hx hb g tb3 (by decide) so_1102 (xi_in (by rw [h_x]; omega) (by rw [h_x]; omega)) dX10_hand_21 (fun I6 H locs eI6 g => ?_)
      have hI := hI.wr eI6 tb3 (rfl : h_bd 1102 _ = ((-2147483648), 2147483647)) (xi_lo _) (Int.le_of_lt_add_one (xi_hi _))
      have hF := hF.wr eI6 tb3 rfl
      refine lv_aload_n hx hb dX10_hand_22 rfl (lv_at hl 0 rfl) ?_
      refine h_get (v := .ref b4) hx hb hts iX10 hown g t_a0 (by decide) so_11 rfl 0 (by decide) (hts (.fieldLink RX10 11 "CapLeague$Turns" "holder" "[I") (by decide +kernel)) rfl dX10_hand_23 (by show va_rf (z.R a0 0) = _; rw [rb4]; rfl) ?_
      refine lv_iload_n hx hb dX10_hand_26 rfl (lv_at hl 1 rfl) ?_
      refine lv_iload_n hx hb dX10_hand_27 rfl (lv_at hl 2 rfl) ?_
      refine h_ast hx hb g tb4 (by decide) so_1100 (xi_in (by rw [h_x]; omega) (by rw [h_x]; omega)) dX10_hand_28 (fun I7 H locs eI7 g => ?_)
      have hI := hI.wr eI7 tb4 (rfl : h_bd 1100 _ = ((-2147483648), 2147483647)) (xi_lo _) (Int.le_of_lt_add_one (xi_hi _))
      have hF := hF.wr eI7 tb4 rfl
      refine lv_aload_n hx hb dX10_hand_29 rfl (lv_at hl 0 rfl) ?_
      obtain ⟨b8, rb8, tb8⟩ := hR.at a0 1 t_a0 (rfl : h_rs 11 1 = some (1101, false)) (by decide)
      refine h_get (v := .ref b8) hx hb hts iX10 hown g t_a0 (by decide) so_11 rfl 1 (by decide) (hts (.fieldLink RX10 15 "CapLeague$Turns" "shield" "[I") (by decide +kernel)) rfl dX10_hand_30 (by show va_rf (z.R a0 1) = _; rw [rb8]; rfl) ?_
      refine lv_iload_n hx hb dX10_hand_33 rfl (lv_at hl 1 rfl) ?_
      refine lv_iload_n hx hb dX10_hand_34 rfl (lv_at hl 3 rfl) ?_
      refine h_ast hx hb g tb8 (by decide) so_1101 (xi_in (by rw [h_x]; omega) (by rw [h_x]; omega)) dX10_hand_35 (fun I9 H locs eI9 g => ?_)
      have hI := hI.wr eI9 tb8 (rfl : h_bd 1101 _ = ((-2147483648), 2147483647)) (xi_lo _) (Int.le_of_lt_add_one (xi_hi _))
      have hF := hF.wr eI9 tb8 rfl
      have hS := g.2.1
      exact W.vret hx hb hr (fun t ht hW => ⟨⟨I9, rfl, ⟨hI, hF, trivial⟩, h_ret g ht⟩, hS.F ht⟩) hS.2.2 dX10_hand_36
set_option maxHeartbeats 4000000 in
set_option maxRecDepth 100000 in
theorem tX10_settle (l : Launch) (E : tE) (X : tX) (A : Nat → Prop) (z : tZ) (I0 : tI) (L0 : tL) (a0 : Nat) (t_a0 : z.ty a0 = 11) (x : Int32) (x_t : Int) (h_x : x.toInt = x_t) (y : Int32) (y_t : Int) (h_y : y.toInt = y_t) : Met l yX10_settle wsX10_settle ({ frames := 1, cells := 0, slots := 0, locals := 64 }) (va_Pc [.ref a0, .int x, .int y] (h_P E X A z I0 L0)) (va_Qi (fun r (I1 : tI) => h_I z I1 ∧ h_F [(1100, 999), (1101, 999)] z I0 I1 ∧ True) (fun (I1 : tI) t => h_B E A z I1 L0 t) A) 0 0 A := by
  refine Met.ofW (cc := cX10_settle) (maxL := 3) (ret := (some .int)) (by decide) rfl ?_
  intro pr_ ev_ s m args below meth cd_ s₁ B hml hv
  obtain ⟨rfl, hE, hk, hX, hA, hK, hI, hR, hB0⟩ := hv
  have g : h_G h_so h_fk E A z I0 L0 s s.heap s.heap [] := ⟨hK, va_S.rf, hB0⟩
  have hF : h_F [(1100, 999), (1101, 999)] z I0 I0 := h_F.rf
  have hx := B.exec
  have hb := B.bytes
  have hr := B.returns
  have hts := atoms_spec (ws := wsX10_settle) B.pre
  have hown : s.vm.findClass RX10 = some m.cls := findClass_of_methodNamed B.named
  have hlocks := B.notSynchronized
  have iX10 : ∀ w ∈ u_ws RX10 TX10 4, w ∈ wsX10_settle := by decide +kernel
  have hl := lv_entry ([.ref a0, .int x, .int y]) (n := 3) (Nat.le_of_ble_eq_true rfl)
  rw [lg_entry_eq]
  generalize (lg_sl ([.ref a0, .int x, .int y]) ++ List.replicate (3 - (lg_sl ([.ref a0, .int x, .int y])).length) Slot.unset).toArray = ls at hl ⊢
  have hl : lv_has ls 3 [(0, .ref a0), (1, .int x), (2, .int y)] := hl
  have b_x : -2147483648 ≤ x_t ∧ x_t ≤ 2147483647 := h_x ▸ ⟨xi_lo x, Int.le_of_lt_add_one (xi_hi x)⟩
  have b_y : -2147483648 ≤ y_t ∧ y_t ≤ 2147483647 := h_y ▸ ⟨xi_lo y, Int.le_of_lt_add_one (xi_hi y)⟩
  refine lv_iload_n hx hb dX10_settle_0 rfl (lv_at hl 1 rfl) ?_
  refine lv_if_lt (tgt := 10) hx hb dX10_settle_1 (by decide) (fun c1 => ?_) (fun c1 => ?_)
  · have ic1 := (xi_lt c1 h_x (by decide) : x_t < 0)
    refine lv_iconst (v := (-1)) hx hb dX10_settle_10 (by decide) ?_
    have hS := g.2.1
    exact W.iret (v := (-1)) hx hb hr (fun t ht hW => ⟨⟨(-1), I0, rfl, ⟨hI, hF, trivial⟩, h_ret g ht⟩, hS.F ht⟩) hS.2.2 dX10_settle_11
  · have ic1 := (xi_nlt c1 h_x (by decide) : 0 ≤ x_t)
    refine lv_iload_n hx hb dX10_settle_4 rfl (lv_at hl 1 rfl) ?_
    refine lv_bipush (v := 80) hx hb dX10_settle_5 (by decide) ?_
    refine lv_icmp_lt (tgt := 12) hx hb dX10_settle_7 (by decide) (fun c2 => ?_) (fun c2 => ?_)
    · have ic2 := (xi_lt c2 h_x (by decide) : x_t < 80)
      refine lv_iload_n hx hb dX10_settle_12 rfl (lv_at hl 2 rfl) ?_
      refine lv_aload_n hx hb dX10_settle_13 rfl (lv_at hl 0 rfl) ?_
      obtain ⟨b3, rb3, tb3⟩ := hR.at a0 1 t_a0 (rfl : h_rs 11 1 = some (1101, false)) (by decide)
      refine h_get (v := .ref b3) hx hb hts iX10 hown g t_a0 (by decide) so_11 rfl 1 (by decide) (hts (.fieldLink RX10 15 "CapLeague$Turns" "shield" "[I") (by decide +kernel)) rfl dX10_settle_14 (by show va_rf (z.R a0 1) = _; rw [rb3]; rfl) ?_
      refine lv_iload_n hx hb dX10_settle_17 rfl (lv_at hl 1 rfl) ?_
      refine h_ald hx hb g tb3 (by decide) so_1101 (xi_in (by rw [h_x]; omega) (by rw [h_x]; omega)) dX10_settle_18 ?_
      refine lv_topi (fun v4 ev4 => ?_)
      have jv4 := hI.rd b3 x.toNatClampNeg tb3 ev4 (rfl : h_bd 1101 _ = ((-2147483648), 2147483647))
      refine lv_icmp_ge (tgt := 41) hx hb dX10_settle_19 (by decide) (fun c5 => ?_) (fun c5 => ?_)
      · have ic5 := (xi_le c5 rfl h_y : v4.toInt ≤ y_t)
        refine lv_aload_n hx hb dX10_settle_41 rfl (lv_at hl 0 rfl) ?_
        obtain ⟨b6, rb6, tb6⟩ := hR.at a0 0 t_a0 (rfl : h_rs 11 0 = some (1100, false)) (by decide)
        refine h_get (v := .ref b6) hx hb hts iX10 hown g t_a0 (by decide) so_11 rfl 0 (by decide) (hts (.fieldLink RX10 11 "CapLeague$Turns" "holder" "[I") (by decide +kernel)) rfl dX10_settle_42 (by show va_rf (z.R a0 0) = _; rw [rb6]; rfl) ?_
        refine lv_iload_n hx hb dX10_settle_45 rfl (lv_at hl 1 rfl) ?_
        refine h_ald hx hb g tb6 (by decide) so_1100 (xi_in (by rw [h_x]; omega) (by rw [h_x]; omega)) dX10_settle_46 ?_
        refine lv_topi (fun v7 ev7 => ?_)
        have jv7 := hI.rd b6 x.toNatClampNeg tb6 ev7 (rfl : h_bd 1100 _ = ((-2147483648), 2147483647))
        have hS := g.2.1
        exact W.iret (v := v7) hx hb hr (fun t ht hW => ⟨⟨v7, I0, rfl, ⟨hI, hF, trivial⟩, h_ret g ht⟩, hS.F ht⟩) hS.2.2 dX10_settle_47
      · have ic5 := (xi_nle c5 rfl h_y : y_t < v4.toInt)
        refine lv_aload_n hx hb dX10_settle_22 rfl (lv_at hl 0 rfl) ?_
        obtain ⟨b8, rb8, tb8⟩ := hR.at a0 0 t_a0 (rfl : h_rs 11 0 = some (1100, false)) (by decide)
        refine h_get (v := .ref b8) hx hb hts iX10 hown g t_a0 (by decide) so_11 rfl 0 (by decide) (hts (.fieldLink RX10 11 "CapLeague$Turns" "holder" "[I") (by decide +kernel)) rfl dX10_settle_23 (by show va_rf (z.R a0 0) = _; rw [rb8]; rfl) ?_
        refine lv_iload_n hx hb dX10_settle_26 rfl (lv_at hl 1 rfl) ?_
        refine lv_aload_n hx hb dX10_settle_27 rfl (lv_at hl 0 rfl) ?_
        obtain ⟨b9, rb9, tb9⟩ := hR.at a0 2 t_a0 (rfl : h_rs 11 2 = some (1102, false)) (by decide)
        refine h_get (v := .ref b9) hx hb hts iX10 hown g t_a0 (by decide) so_11 rfl 2 (by decide) (hts (.fieldLink RX10 18 "CapLeague$Turns" "giver" "[I") (by decide +kernel)) rfl dX10_settle_28 (by show va_rf (z.R a0 2) = _; rw [rb9]; rfl) ?_
        refine lv_iload_n hx hb dX10_settle_31 rfl (lv_at hl 1 rfl) ?_
        refine h_ald hx hb g tb9 (by decide) so_1102 (xi_in (by rw [h_x]; omega) (by rw [h_x]; omega)) dX10_settle_32 ?_
        refine lv_topi (fun v10 ev10 => ?_)
        have jv10 := hI.rd b9 x.toNatClampNeg tb9 ev10 (rfl : h_bd 1102 _ = ((-2147483648), 2147483647))
        refine h_ast hx hb g tb8 (by decide) so_1100 (xi_in (by rw [h_x]; omega) (by rw [h_x]; omega)) dX10_settle_33 (fun I11 H locs eI11 g => ?_)
        have hI := hI.wr eI11 tb8 (rfl : h_bd 1100 _ = ((-2147483648), 2147483647)) (xi_lo _) (Int.le_of_lt_add_one (xi_hi _))
        have hF := hF.wr eI11 tb8 rfl
        refine lv_aload_n hx hb dX10_settle_34 rfl (lv_at hl 0 rfl) ?_
        refine h_get (v := .ref b3) hx hb hts iX10 hown g t_a0 (by decide) so_11 rfl 1 (by decide) (hts (.fieldLink RX10 15 "CapLeague$Turns" "shield" "[I") (by decide +kernel)) rfl dX10_settle_35 (by show va_rf (z.R a0 1) = _; rw [rb3]; rfl) ?_
        refine lv_iload_n hx hb dX10_settle_38 rfl (lv_at hl 1 rfl) ?_
        refine lv_iconst (v := 0) hx hb dX10_settle_39 (by decide) ?_
        refine h_ast hx hb g tb3 (by decide) so_1101 (xi_in (by rw [h_x]; omega) (by rw [h_x]; omega)) dX10_settle_40 (fun I12 H locs eI12 g => ?_)
        have hI := hI.wr eI12 tb3 (rfl : h_bd 1101 _ = ((-2147483648), 2147483647)) (by decide) (by decide)
        have hF := hF.wr eI12 tb3 rfl
        refine lv_aload_n hx hb dX10_settle_41 rfl (lv_at hl 0 rfl) ?_
        refine h_get (v := .ref b8) hx hb hts iX10 hown g t_a0 (by decide) so_11 rfl 0 (by decide) (hts (.fieldLink RX10 11 "CapLeague$Turns" "holder" "[I") (by decide +kernel)) rfl dX10_settle_42 (by show va_rf (z.R a0 0) = _; rw [rb8]; rfl) ?_
        refine lv_iload_n hx hb dX10_settle_45 rfl (lv_at hl 1 rfl) ?_
        refine h_ald hx hb g tb8 (by decide) so_1100 (xi_in (by rw [h_x]; omega) (by rw [h_x]; omega)) dX10_settle_46 ?_
        refine xw_i ((h_n1 eI12 tb8 tb3 (by decide)).trans (h_n0 eI11)) ?_
        have hS := g.2.1
        exact W.iret (v := v10) hx hb hr (fun t ht hW => ⟨⟨v10, I12, rfl, ⟨hI, hF, trivial⟩, h_ret g ht⟩, hS.F ht⟩) hS.2.2 dX10_settle_47
    · have ic2 := (xi_nlt c2 h_x (by decide) : 80 ≤ x_t)
      refine lv_iconst (v := (-1)) hx hb dX10_settle_10 (by decide) ?_
      have hS := g.2.1
      exact W.iret (v := (-1)) hx hb hr (fun t ht hW => ⟨⟨(-1), I0, rfl, ⟨hI, hF, trivial⟩, h_ret g ht⟩, hS.F ht⟩) hS.2.2 dX10_settle_11
set_option maxHeartbeats 4000000 in
set_option maxRecDepth 100000 in
theorem tX1_clear (l : Launch) (E : tE) (X : tX) (A : Nat → Prop) (z : tZ) (I0 : tI) (L0 : tL) (a0 : Nat) (t_a0 : z.ty a0 = 2) : Met l yX1_clear wsX1_clear ({ frames := 1, cells := 0, slots := 0, locals := 64 }) (va_Pc [.ref a0] (h_P E X A z I0 L0)) (va_Qv (fun (I1 : tI) => h_I z I1 ∧ h_F [(2, 0), (2, 1), (2, 2), (2, 3)] z I0 I1 ∧ True) (fun (I1 : tI) t => h_B E A z I1 L0 t) A) 0 0 A := by
  refine Met.ofW (cc := cX1_clear) (maxL := 1) (ret := none) (by decide) rfl ?_
  intro pr_ ev_ s m args below meth cd_ s₁ B hml hv
  obtain ⟨rfl, hE, hk, hX, hA, hK, hI, hR, hB0⟩ := hv
  have g : h_G h_so h_fk E A z I0 L0 s s.heap s.heap [] := ⟨hK, va_S.rf, hB0⟩
  have hF : h_F [(2, 0), (2, 1), (2, 2), (2, 3)] z I0 I0 := h_F.rf
  have hx := B.exec
  have hb := B.bytes
  have hr := B.returns
  have hts := atoms_spec (ws := wsX1_clear) B.pre
  have hown : s.vm.findClass RX1 = some m.cls := findClass_of_methodNamed B.named
  have hlocks := B.notSynchronized
  have iX1 : ∀ w ∈ u_ws RX1 TX1 4, w ∈ wsX1_clear := by decide +kernel
  have hl := lv_entry ([.ref a0]) (n := 1) (Nat.le_of_ble_eq_true rfl)
  rw [lg_entry_eq]
  generalize (lg_sl ([.ref a0]) ++ List.replicate (1 - (lg_sl ([.ref a0])).length) Slot.unset).toArray = ls at hl ⊢
  have hl : lv_has ls 1 [(0, .ref a0)] := hl
  refine lv_aload_n hx hb dX1_clear_0 rfl (lv_at hl 0 rfl) ?_
  refine lv_iconst (v := 0) hx hb dX1_clear_1 (by decide) ?_
  refine h_putI (ty := .int) (v := 0) hx hb hts iX1 tyX1 tyX1_ok nmX1 hown g t_a0 (by decide) so_2 rfl 0 (by decide) rfl (hts (.fieldLink RX1 9 "CapLeague$Change" "more" "I") (by decide +kernel)) rfl rfl (by decide +kernel) rfl rfl dX1_clear_2 (fun I1 H locs eI1 g => ?_)
  have hI := hI.wr eI1 t_a0 (rfl : h_bd 2 0 = ((-2147483648), 2147483647)) (by decide) (by decide)
  have hF := hF.wr eI1 t_a0 rfl
  refine lv_aload_n hx hb dX1_clear_5 rfl (lv_at hl 0 rfl) ?_
  refine lv_iconst (v := 0) hx hb dX1_clear_6 (by decide) ?_
  refine h_putI (ty := .int) (v := 0) hx hb hts iX1 tyX1 tyX1_ok nmX1 hown g t_a0 (by decide) so_2 rfl 1 (by decide) rfl (hts (.fieldLink RX1 15 "CapLeague$Change" "payIn" "I") (by decide +kernel)) rfl rfl (by decide +kernel) rfl rfl dX1_clear_7 (fun I2 H locs eI2 g => ?_)
  have hI := hI.wr eI2 t_a0 (rfl : h_bd 2 1 = ((-2147483648), 2147483647)) (by decide) (by decide)
  have hF := hF.wr eI2 t_a0 rfl
  refine lv_aload_n hx hb dX1_clear_10 rfl (lv_at hl 0 rfl) ?_
  refine lv_iconst (v := 0) hx hb dX1_clear_11 (by decide) ?_
  refine h_putI (ty := .int) (v := 0) hx hb hts iX1 tyX1 tyX1_ok nmX1 hown g t_a0 (by decide) so_2 rfl 2 (by decide) rfl (hts (.fieldLink RX1 18 "CapLeague$Change" "payOut" "I") (by decide +kernel)) rfl rfl (by decide +kernel) rfl rfl dX1_clear_12 (fun I3 H locs eI3 g => ?_)
  have hI := hI.wr eI3 t_a0 (rfl : h_bd 2 2 = ((-2147483648), 2147483647)) (by decide) (by decide)
  have hF := hF.wr eI3 t_a0 rfl
  refine lv_aload_n hx hb dX1_clear_15 rfl (lv_at hl 0 rfl) ?_
  refine lv_iconst (v := 0) hx hb dX1_clear_16 (by decide) ?_
  refine h_putI (ty := .int) (v := 0) hx hb hts iX1 tyX1 tyX1_ok nmX1 hown g t_a0 (by decide) so_2 rfl 3 (by decide) rfl (hts (.fieldLink RX1 21 "CapLeague$Change" "countMore" "I") (by decide +kernel)) rfl rfl (by decide +kernel) rfl rfl dX1_clear_17 (fun I4 H locs eI4 g => ?_)
  have hI := hI.wr eI4 t_a0 (rfl : h_bd 2 3 = ((-2147483648), 2147483647)) (by decide) (by decide)
  have hF := hF.wr eI4 t_a0 rfl
  have hS := g.2.1
  exact W.vret hx hb hr (fun t ht hW => ⟨⟨I4, rfl, ⟨hI, hF, trivial⟩, h_ret g ht⟩, hS.F ht⟩) hS.2.2 dX1_clear_20
set_option maxHeartbeats 4000000 in
set_option maxRecDepth 100000 in
theorem tX1_comes (l : Launch) (E : tE) (X : tX) (A : Nat → Prop) (z : tZ) (I0 : tI) (L0 : tL) (a0 : Nat) (t_a0 : z.ty a0 = 2) (x : Int32) (x_t : Int) (h_x : x.toInt = x_t) (y : Int32) (y_t : Int) (h_y : y.toInt = y_t) : Met l yX1_comes wsX1_comes ({ frames := 1, cells := 0, slots := 0, locals := 64 }) (va_Pc [.ref a0, .int x, .int y] (h_P E X A z I0 L0)) (va_Qv (fun (I1 : tI) => h_I z I1 ∧ h_F [(2, 0), (2, 1), (2, 2), (2, 3)] z I0 I1 ∧ True) (fun (I1 : tI) t => h_B E A z I1 L0 t) A) 0 0 A := by
  refine Met.ofW (cc := cX1_comes) (maxL := 3) (ret := none) (by decide) rfl ?_
  intro pr_ ev_ s m args below meth cd_ s₁ B hml hv
  obtain ⟨rfl, hE, hk, hX, hA, hK, hI, hR, hB0⟩ := hv
  have g : h_G h_so h_fk E A z I0 L0 s s.heap s.heap [] := ⟨hK, va_S.rf, hB0⟩
  have hF : h_F [(2, 0), (2, 1), (2, 2), (2, 3)] z I0 I0 := h_F.rf
  have hx := B.exec
  have hb := B.bytes
  have hr := B.returns
  have hts := atoms_spec (ws := wsX1_comes) B.pre
  have hown : s.vm.findClass RX1 = some m.cls := findClass_of_methodNamed B.named
  have hlocks := B.notSynchronized
  have iX1 : ∀ w ∈ u_ws RX1 TX1 4, w ∈ wsX1_comes := by decide +kernel
  have hl := lv_entry ([.ref a0, .int x, .int y]) (n := 3) (Nat.le_of_ble_eq_true rfl)
  rw [lg_entry_eq]
  generalize (lg_sl ([.ref a0, .int x, .int y]) ++ List.replicate (3 - (lg_sl ([.ref a0, .int x, .int y])).length) Slot.unset).toArray = ls at hl ⊢
  have hl : lv_has ls 3 [(0, .ref a0), (1, .int x), (2, .int y)] := hl
  have b_x : -2147483648 ≤ x_t ∧ x_t ≤ 2147483647 := h_x ▸ ⟨xi_lo x, Int.le_of_lt_add_one (xi_hi x)⟩
  have b_y : -2147483648 ≤ y_t ∧ y_t ≤ 2147483647 := h_y ▸ ⟨xi_lo y, Int.le_of_lt_add_one (xi_hi y)⟩
  refine lv_aload_n hx hb dX1_comes_0 rfl (lv_at hl 0 rfl) ?_
  refine lv_dup hx hb dX1_comes_1 rfl ?_
  refine h_get (v := .int (I0 a0 0)) hx hb hts iX1 hown g t_a0 (by decide) so_2 rfl 0 (by decide) (hts (.fieldLink RX1 9 "CapLeague$Change" "more" "I") (by decide +kernel)) rfl dX1_comes_2 rfl ?_
  refine lv_topi (fun v1 ev1 => ?_)
  have jv1 := hI.rd a0 0 t_a0 ev1 (rfl : h_bd 2 0 = ((-2147483648), 2147483647))
  refine lv_iconst (v := 1) hx hb dX1_comes_5 (by decide) ?_
  refine lv_iadd hx hb dX1_comes_6 ?_
  refine lv_topi (fun v2 ev2 => ?_)
  have jv2 : -2147483648 ≤ v2.toInt ∧ v2.toInt ≤ 2147483647 := ⟨xi_lo _, Int.le_of_lt_add_one (xi_hi _)⟩
  refine h_putI (ty := .int) (v := v2) hx hb hts iX1 tyX1 tyX1_ok nmX1 hown g t_a0 (by decide) so_2 rfl 0 (by decide) rfl (hts (.fieldLink RX1 9 "CapLeague$Change" "more" "I") (by decide +kernel)) rfl rfl (by decide +kernel) rfl rfl dX1_comes_7 (fun I3 H locs eI3 g => ?_)
  have hI := hI.wr eI3 t_a0 (rfl : h_bd 2 0 = ((-2147483648), 2147483647)) (xi_lo _) (Int.le_of_lt_add_one (xi_hi _))
  have hF := hF.wr eI3 t_a0 rfl
  refine lv_aload_n hx hb dX1_comes_10 rfl (lv_at hl 0 rfl) ?_
  refine lv_dup hx hb dX1_comes_11 rfl ?_
  refine h_get (v := .int (I3 a0 1)) hx hb hts iX1 hown g t_a0 (by decide) so_2 rfl 1 (by decide) (hts (.fieldLink RX1 15 "CapLeague$Change" "payIn" "I") (by decide +kernel)) rfl dX1_comes_12 rfl ?_
  refine lv_topi (fun v4 ev4 => ?_)
  have jv4 := hI.rd a0 1 t_a0 ev4 (rfl : h_bd 2 1 = ((-2147483648), 2147483647))
  refine lv_iload_n hx hb dX1_comes_15 rfl (lv_at hl 1 rfl) ?_
  refine lv_iadd hx hb dX1_comes_16 ?_
  refine lv_topi (fun v5 ev5 => ?_)
  have jv5 : -2147483648 ≤ v5.toInt ∧ v5.toInt ≤ 2147483647 := ⟨xi_lo _, Int.le_of_lt_add_one (xi_hi _)⟩
  refine h_putI (ty := .int) (v := v5) hx hb hts iX1 tyX1 tyX1_ok nmX1 hown g t_a0 (by decide) so_2 rfl 1 (by decide) rfl (hts (.fieldLink RX1 15 "CapLeague$Change" "payIn" "I") (by decide +kernel)) rfl rfl (by decide +kernel) rfl rfl dX1_comes_17 (fun I6 H locs eI6 g => ?_)
  have hI := hI.wr eI6 t_a0 (rfl : h_bd 2 1 = ((-2147483648), 2147483647)) (xi_lo _) (Int.le_of_lt_add_one (xi_hi _))
  have hF := hF.wr eI6 t_a0 rfl
  refine lv_aload_n hx hb dX1_comes_20 rfl (lv_at hl 0 rfl) ?_
  refine lv_dup hx hb dX1_comes_21 rfl ?_
  refine h_get (v := .int (I6 a0 3)) hx hb hts iX1 hown g t_a0 (by decide) so_2 rfl 3 (by decide) (hts (.fieldLink RX1 21 "CapLeague$Change" "countMore" "I") (by decide +kernel)) rfl dX1_comes_22 rfl ?_
  refine lv_topi (fun v7 ev7 => ?_)
  have jv7 := hI.rd a0 3 t_a0 ev7 (rfl : h_bd 2 3 = ((-2147483648), 2147483647))
  refine lv_iload_n hx hb dX1_comes_25 rfl (lv_at hl 2 rfl) ?_
  refine lv_iadd hx hb dX1_comes_26 ?_
  refine lv_topi (fun v8 ev8 => ?_)
  have jv8 : -2147483648 ≤ v8.toInt ∧ v8.toInt ≤ 2147483647 := ⟨xi_lo _, Int.le_of_lt_add_one (xi_hi _)⟩
  refine h_putI (ty := .int) (v := v8) hx hb hts iX1 tyX1 tyX1_ok nmX1 hown g t_a0 (by decide) so_2 rfl 3 (by decide) rfl (hts (.fieldLink RX1 21 "CapLeague$Change" "countMore" "I") (by decide +kernel)) rfl rfl (by decide +kernel) rfl rfl dX1_comes_27 (fun I9 H locs eI9 g => ?_)
  have hI := hI.wr eI9 t_a0 (rfl : h_bd 2 3 = ((-2147483648), 2147483647)) (xi_lo _) (Int.le_of_lt_add_one (xi_hi _))
  have hF := hF.wr eI9 t_a0 rfl
  have hS := g.2.1
  exact W.vret hx hb hr (fun t ht hW => ⟨⟨I9, rfl, ⟨hI, hF, trivial⟩, h_ret g ht⟩, hS.F ht⟩) hS.2.2 dX1_comes_30
set_option maxHeartbeats 4000000 in
set_option maxRecDepth 100000 in
theorem tX1_goes (l : Launch) (E : tE) (X : tX) (A : Nat → Prop) (z : tZ) (I0 : tI) (L0 : tL) (a0 : Nat) (t_a0 : z.ty a0 = 2) (x : Int32) (x_t : Int) (h_x : x.toInt = x_t) (y : Int32) (y_t : Int) (h_y : y.toInt = y_t) : Met l yX1_goes wsX1_goes ({ frames := 1, cells := 0, slots := 0, locals := 64 }) (va_Pc [.ref a0, .int x, .int y] (h_P E X A z I0 L0)) (va_Qv (fun (I1 : tI) => h_I z I1 ∧ h_F [(2, 0), (2, 1), (2, 2), (2, 3)] z I0 I1 ∧ True) (fun (I1 : tI) t => h_B E A z I1 L0 t) A) 0 0 A := by
  refine Met.ofW (cc := cX1_goes) (maxL := 3) (ret := none) (by decide) rfl ?_
  intro pr_ ev_ s m args below meth cd_ s₁ B hml hv
  obtain ⟨rfl, hE, hk, hX, hA, hK, hI, hR, hB0⟩ := hv
  have g : h_G h_so h_fk E A z I0 L0 s s.heap s.heap [] := ⟨hK, va_S.rf, hB0⟩
  have hF : h_F [(2, 0), (2, 1), (2, 2), (2, 3)] z I0 I0 := h_F.rf
  have hx := B.exec
  have hb := B.bytes
  have hr := B.returns
  have hts := atoms_spec (ws := wsX1_goes) B.pre
  have hown : s.vm.findClass RX1 = some m.cls := findClass_of_methodNamed B.named
  have hlocks := B.notSynchronized
  have iX1 : ∀ w ∈ u_ws RX1 TX1 4, w ∈ wsX1_goes := by decide +kernel
  have hl := lv_entry ([.ref a0, .int x, .int y]) (n := 3) (Nat.le_of_ble_eq_true rfl)
  rw [lg_entry_eq]
  generalize (lg_sl ([.ref a0, .int x, .int y]) ++ List.replicate (3 - (lg_sl ([.ref a0, .int x, .int y])).length) Slot.unset).toArray = ls at hl ⊢
  have hl : lv_has ls 3 [(0, .ref a0), (1, .int x), (2, .int y)] := hl
  have b_x : -2147483648 ≤ x_t ∧ x_t ≤ 2147483647 := h_x ▸ ⟨xi_lo x, Int.le_of_lt_add_one (xi_hi x)⟩
  have b_y : -2147483648 ≤ y_t ∧ y_t ≤ 2147483647 := h_y ▸ ⟨xi_lo y, Int.le_of_lt_add_one (xi_hi y)⟩
  refine lv_aload_n hx hb dX1_goes_0 rfl (lv_at hl 0 rfl) ?_
  refine lv_dup hx hb dX1_goes_1 rfl ?_
  refine h_get (v := .int (I0 a0 0)) hx hb hts iX1 hown g t_a0 (by decide) so_2 rfl 0 (by decide) (hts (.fieldLink RX1 9 "CapLeague$Change" "more" "I") (by decide +kernel)) rfl dX1_goes_2 rfl ?_
  refine lv_topi (fun v1 ev1 => ?_)
  have jv1 := hI.rd a0 0 t_a0 ev1 (rfl : h_bd 2 0 = ((-2147483648), 2147483647))
  refine lv_iconst (v := 1) hx hb dX1_goes_5 (by decide) ?_
  refine lv_isub hx hb dX1_goes_6 ?_
  refine lv_topi (fun v2 ev2 => ?_)
  have jv2 : -2147483648 ≤ v2.toInt ∧ v2.toInt ≤ 2147483647 := ⟨xi_lo _, Int.le_of_lt_add_one (xi_hi _)⟩
  refine h_putI (ty := .int) (v := v2) hx hb hts iX1 tyX1 tyX1_ok nmX1 hown g t_a0 (by decide) so_2 rfl 0 (by decide) rfl (hts (.fieldLink RX1 9 "CapLeague$Change" "more" "I") (by decide +kernel)) rfl rfl (by decide +kernel) rfl rfl dX1_goes_7 (fun I3 H locs eI3 g => ?_)
  have hI := hI.wr eI3 t_a0 (rfl : h_bd 2 0 = ((-2147483648), 2147483647)) (xi_lo _) (Int.le_of_lt_add_one (xi_hi _))
  have hF := hF.wr eI3 t_a0 rfl
  refine lv_aload_n hx hb dX1_goes_10 rfl (lv_at hl 0 rfl) ?_
  refine lv_dup hx hb dX1_goes_11 rfl ?_
  refine h_get (v := .int (I3 a0 2)) hx hb hts iX1 hown g t_a0 (by decide) so_2 rfl 2 (by decide) (hts (.fieldLink RX1 18 "CapLeague$Change" "payOut" "I") (by decide +kernel)) rfl dX1_goes_12 rfl ?_
  refine lv_topi (fun v4 ev4 => ?_)
  have jv4 := hI.rd a0 2 t_a0 ev4 (rfl : h_bd 2 2 = ((-2147483648), 2147483647))
  refine lv_iload_n hx hb dX1_goes_15 rfl (lv_at hl 1 rfl) ?_
  refine lv_iadd hx hb dX1_goes_16 ?_
  refine lv_topi (fun v5 ev5 => ?_)
  have jv5 : -2147483648 ≤ v5.toInt ∧ v5.toInt ≤ 2147483647 := ⟨xi_lo _, Int.le_of_lt_add_one (xi_hi _)⟩
  refine h_putI (ty := .int) (v := v5) hx hb hts iX1 tyX1 tyX1_ok nmX1 hown g t_a0 (by decide) so_2 rfl 2 (by decide) rfl (hts (.fieldLink RX1 18 "CapLeague$Change" "payOut" "I") (by decide +kernel)) rfl rfl (by decide +kernel) rfl rfl dX1_goes_17 (fun I6 H locs eI6 g => ?_)
  have hI := hI.wr eI6 t_a0 (rfl : h_bd 2 2 = ((-2147483648), 2147483647)) (xi_lo _) (Int.le_of_lt_add_one (xi_hi _))
  have hF := hF.wr eI6 t_a0 rfl
  refine lv_aload_n hx hb dX1_goes_20 rfl (lv_at hl 0 rfl) ?_
  refine lv_dup hx hb dX1_goes_21 rfl ?_
  refine h_get (v := .int (I6 a0 3)) hx hb hts iX1 hown g t_a0 (by decide) so_2 rfl 3 (by decide) (hts (.fieldLink RX1 21 "CapLeague$Change" "countMore" "I") (by decide +kernel)) rfl dX1_goes_22 rfl ?_
  refine lv_topi (fun v7 ev7 => ?_)
  have jv7 := hI.rd a0 3 t_a0 ev7 (rfl : h_bd 2 3 = ((-2147483648), 2147483647))
  refine lv_iload_n hx hb dX1_goes_25 rfl (lv_at hl 2 rfl) ?_
  refine lv_isub hx hb dX1_goes_26 ?_
  refine lv_topi (fun v8 ev8 => ?_)
  have jv8 : -2147483648 ≤ v8.toInt ∧ v8.toInt ≤ 2147483647 := ⟨xi_lo _, Int.le_of_lt_add_one (xi_hi _)⟩
  refine h_putI (ty := .int) (v := v8) hx hb hts iX1 tyX1 tyX1_ok nmX1 hown g t_a0 (by decide) so_2 rfl 3 (by decide) rfl (hts (.fieldLink RX1 21 "CapLeague$Change" "countMore" "I") (by decide +kernel)) rfl rfl (by decide +kernel) rfl rfl dX1_goes_27 (fun I9 H locs eI9 g => ?_)
  have hI := hI.wr eI9 t_a0 (rfl : h_bd 2 3 = ((-2147483648), 2147483647)) (xi_lo _) (Int.le_of_lt_add_one (xi_hi _))
  have hF := hF.wr eI9 t_a0 rfl
  have hS := g.2.1
  exact W.vret hx hb hr (fun t ht hW => ⟨⟨I9, rfl, ⟨hI, hF, trivial⟩, h_ret g ht⟩, hS.F ht⟩) hS.2.2 dX1_goes_30
set_option maxHeartbeats 4000000 in
set_option maxRecDepth 100000 in
theorem tX1_faultFor (l : Launch) (E : tE) (X : tX) (A : Nat → Prop) (z : tZ) (I0 : tI) (L0 : tL) (a0 : Nat) (t_a0 : z.ty a0 = 2) (x : Int32) (x_t : Int) (h_x : x.toInt = x_t) (y : Int32) (y_t : Int) (h_y : y.toInt = y_t) (n0 : Nat) (t_n0 : z.ty n0 = 6) : Met l yX1_faultFor wsX1_faultFor ({ frames := 2, cells := 0, slots := 0, locals := 128 }) (va_Pc [.ref a0, .int x, .int y, .ref n0] (h_P E X A z I0 L0)) (vp_Si (fun r => True)) 0 0 (fun _ => False) := by
  refine Met.ofW (cc := cX1_faultFor) (maxL := 5) (ret := (some .int)) (by decide) rfl ?_
  intro pr_ ev_ s m args below meth cd_ s₁ B hml hv
  obtain ⟨rfl, hE, hk, hX, hA, hK, hI, hR, hB0⟩ := hv
  have g : h_G h_so h_fk E A z I0 L0 s s.heap s.heap [] := ⟨hK, va_S.rf, hB0⟩
  have hx := B.exec
  have hb := B.bytes
  have hr := B.returns
  have hts := atoms_spec (ws := wsX1_faultFor) B.pre
  have hown : s.vm.findClass RX1 = some m.cls := findClass_of_methodNamed B.named
  have hlocks := B.notSynchronized
  have iX1 : ∀ w ∈ u_ws RX1 TX1 4, w ∈ wsX1_faultFor := by decide +kernel
  have hl := lv_entry ([.ref a0, .int x, .int y, .ref n0]) (n := 5) (Nat.le_of_ble_eq_true rfl)
  rw [lg_entry_eq]
  generalize (lg_sl ([.ref a0, .int x, .int y, .ref n0]) ++ List.replicate (5 - (lg_sl ([.ref a0, .int x, .int y, .ref n0])).length) Slot.unset).toArray = ls at hl ⊢
  have hl : lv_has ls 5 [(0, .ref a0), (1, .int x), (2, .int y), (3, .ref n0)] := hl
  have b_x : -2147483648 ≤ x_t ∧ x_t ≤ 2147483647 := h_x ▸ ⟨xi_lo x, Int.le_of_lt_add_one (xi_hi x)⟩
  have b_y : -2147483648 ≤ y_t ∧ y_t ≤ 2147483647 := h_y ▸ ⟨xi_lo y, Int.le_of_lt_add_one (xi_hi y)⟩
  refine lv_iload_n hx hb dX1_faultFor_0 rfl (lv_at hl 1 rfl) ?_
  refine lv_aload_n hx hb dX1_faultFor_1 rfl (lv_at hl 0 rfl) ?_
  refine h_get (v := .int (I0 a0 0)) hx hb hts iX1 hown g t_a0 (by decide) so_2 rfl 0 (by decide) (hts (.fieldLink RX1 9 "CapLeague$Change" "more" "I") (by decide +kernel)) rfl dX1_faultFor_2 rfl ?_
  refine lv_topi (fun v1 ev1 => ?_)
  have jv1 := hI.rd a0 0 t_a0 ev1 (rfl : h_bd 2 0 = ((-2147483648), 2147483647))
  refine lv_iadd hx hb dX1_faultFor_5 ?_
  refine lv_topi (fun v2 ev2 => ?_)
  have jv2 : -2147483648 ≤ v2.toInt ∧ v2.toInt ≤ 2147483647 := ⟨xi_lo _, Int.le_of_lt_add_one (xi_hi _)⟩
  refine lv_aload_n hx hb dX1_faultFor_6 rfl (lv_at hl 3 rfl) ?_
  refine lv_iconst (v := 1) hx hb dX1_faultFor_7 (by decide) ?_
  refine vp_callSi (W.runV (As := [.int 1]) (rest := [.int v2]) ⟨hx, hb, hml, hown, hts⟩ (tX5_number l E X A z I0 L0 n0 t_n0 1 (1) (by decide)) (cwV 1 hts gX1_faultFor_X5_number rfl rfl rfl (by decide +kernel) ⟨Nat.le_of_ble_eq_true rfl, Nat.le_of_ble_eq_true rfl⟩) ⟨h_blind _ _ _ _ _ _ _, h_recv g t_n0 (by decide) so_6 (q := (RX5, TX5, 3)) rfl, h_pre _ hE hk hX hA hI hR g⟩ rfl rfl hl.1 rfl (lv_room (Nat.le_of_ble_eq_true rfl)) dX1_faultFor_8 ⟨Nat.le_of_ble_eq_true rfl, Nat.le_of_ble_eq_true rfl⟩) (fun rh3 h3 => ?_)
  have jrh3 : -2147483648 ≤ rh3.toInt ∧ rh3.toInt ≤ 2147483647 := ⟨xi_lo _, Int.le_of_lt_add_one (xi_hi _)⟩
  refine lv_icmp_le (tgt := 16) hx hb dX1_faultFor_11 (by decide) (fun c4 => ?_) (fun c4 => ?_)
  · have ic4 := (xi_le c4 rfl rfl : v2.toInt ≤ rh3.toInt)
    refine lv_aload_n hx hb dX1_faultFor_16 rfl (lv_at hl 0 rfl) ?_
    refine h_get (v := .int (I0 a0 2)) hx hb hts iX1 hown g t_a0 (by decide) so_2 rfl 2 (by decide) (hts (.fieldLink RX1 18 "CapLeague$Change" "payOut" "I") (by decide +kernel)) rfl dX1_faultFor_17 rfl ?_
    refine lv_topi (fun v5 ev5 => ?_)
    have jv5 := hI.rd a0 2 t_a0 ev5 (rfl : h_bd 2 2 = ((-2147483648), 2147483647))
    refine lv_aload_n hx hb dX1_faultFor_20 rfl (lv_at hl 3 rfl) ?_
    refine lv_iconst (v := 4) hx hb dX1_faultFor_21 (by decide) ?_
    refine vp_callSi (W.runV (As := [.int 4]) (rest := [.int v5]) ⟨hx, hb, hml, hown, hts⟩ (tX5_number l E X A z I0 L0 n0 t_n0 4 (4) (by decide)) (cwV 1 hts gX1_faultFor_X5_number rfl rfl rfl (by decide +kernel) ⟨Nat.le_of_ble_eq_true rfl, Nat.le_of_ble_eq_true rfl⟩) ⟨h_blind _ _ _ _ _ _ _, h_recv g t_n0 (by decide) so_6 (q := (RX5, TX5, 3)) rfl, h_pre _ hE hk hX hA hI hR g⟩ rfl rfl hl.1 rfl (lv_room (Nat.le_of_ble_eq_true rfl)) dX1_faultFor_22 ⟨Nat.le_of_ble_eq_true rfl, Nat.le_of_ble_eq_true rfl⟩) (fun rh6 h6 => ?_)
    have jrh6 : -2147483648 ≤ rh6.toInt ∧ rh6.toInt ≤ 2147483647 := ⟨xi_lo _, Int.le_of_lt_add_one (xi_hi _)⟩
    refine vp_callSi (xr_of (va_runSN (As := [.int v5, .int rh6]) (rest := []) ⟨hx, hb, hml, hown, hts⟩ (tX11_hundredths l E X A z I0 L0 v5 (v5.toInt) rfl rh6 (rh6.toInt) rfl) (⟨va_cnB 2 hts gX1_faultFor_X11_hundredths_n30 rfl rfl rfl (hE.link 11 rfl) (hts (.initialized RX11) (by decide +kernel)) (by decide +kernel) ⟨Nat.le_of_ble_eq_true rfl, Nat.le_of_ble_eq_true rfl⟩, hts (.static yX11_hundredths) (by decide +kernel), trivial⟩) ⟨h_blind _ _ _ _ _ _ _, h_pre _ hE hk hX hA hI hR g⟩ rfl rfl hl.1 rfl (lv_room (Nat.le_of_ble_eq_true rfl)) dX1_faultFor_25 ⟨Nat.le_of_ble_eq_true rfl, Nat.le_of_ble_eq_true rfl⟩)) (fun rh7 h7 => ?_)
    have jrh7 : -2147483648 ≤ rh7.toInt ∧ rh7.toInt ≤ 2147483647 := ⟨xi_lo _, Int.le_of_lt_add_one (xi_hi _)⟩
    refine lv_aload_n hx hb dX1_faultFor_28 rfl (lv_at hl 3 rfl) ?_
    refine lv_iconst (v := 5) hx hb dX1_faultFor_29 (by decide) ?_
    refine vp_callSi (W.runV (As := [.int 5]) (rest := [.int rh7]) ⟨hx, hb, hml, hown, hts⟩ (tX5_number l E X A z I0 L0 n0 t_n0 5 (5) (by decide)) (cwV 1 hts gX1_faultFor_X5_number rfl rfl rfl (by decide +kernel) ⟨Nat.le_of_ble_eq_true rfl, Nat.le_of_ble_eq_true rfl⟩) ⟨h_blind _ _ _ _ _ _ _, h_recv g t_n0 (by decide) so_6 (q := (RX5, TX5, 3)) rfl, h_pre _ hE hk hX hA hI hR g⟩ rfl rfl hl.1 rfl (lv_room (Nat.le_of_ble_eq_true rfl)) dX1_faultFor_30 ⟨Nat.le_of_ble_eq_true rfl, Nat.le_of_ble_eq_true rfl⟩) (fun rh8 h8 => ?_)
    have jrh8 : -2147483648 ≤ rh8.toInt ∧ rh8.toInt ≤ 2147483647 := ⟨xi_lo _, Int.le_of_lt_add_one (xi_hi _)⟩
    refine lv_iadd hx hb dX1_faultFor_33 ?_
    refine lv_topi (fun v9 ev9 => ?_)
    have jv9 : -2147483648 ≤ v9.toInt ∧ v9.toInt ≤ 2147483647 := ⟨xi_lo _, Int.le_of_lt_add_one (xi_hi _)⟩
    refine lv_istore (lv' := [(4, .int v9), (0, .ref a0), (1, .int x), (2, .int y), (3, .ref n0)]) hx hb dX1_faultFor_34 hl (by decide) rfl (fun ls hl => ?_)
    refine lv_iload_n hx hb dX1_faultFor_36 rfl (lv_at hl 3 rfl) ?_
    refine lv_aload_n hx hb dX1_faultFor_37 rfl (lv_at hl 1 rfl) ?_
    refine h_get (v := .int (I0 a0 3)) hx hb hts iX1 hown g t_a0 (by decide) so_2 rfl 3 (by decide) (hts (.fieldLink RX1 21 "CapLeague$Change" "countMore" "I") (by decide +kernel)) rfl dX1_faultFor_38 rfl ?_
    refine lv_topi (fun v10 ev10 => ?_)
    have jv10 := hI.rd a0 3 t_a0 ev10 (rfl : h_bd 2 3 = ((-2147483648), 2147483647))
    refine lv_iadd hx hb dX1_faultFor_41 ?_
    refine lv_topi (fun v11 ev11 => ?_)
    have jv11 : -2147483648 ≤ v11.toInt ∧ v11.toInt ≤ 2147483647 := ⟨xi_lo _, Int.le_of_lt_add_one (xi_hi _)⟩
    refine lv_aload_n hx hb dX1_faultFor_42 rfl (lv_at hl 4 rfl) ?_
    refine lv_iconst (v := 0) hx hb dX1_faultFor_43 (by decide) ?_
    refine vp_callSi (W.runV (As := [.int 0]) (rest := [.int v11]) ⟨hx, hb, hml, hown, hts⟩ (tX5_number l E X A z I0 L0 n0 t_n0 0 (0) (by decide)) (cwV 1 hts gX1_faultFor_X5_number rfl rfl rfl (by decide +kernel) ⟨Nat.le_of_ble_eq_true rfl, Nat.le_of_ble_eq_true rfl⟩) ⟨h_blind _ _ _ _ _ _ _, h_recv g t_n0 (by decide) so_6 (q := (RX5, TX5, 3)) rfl, h_pre _ hE hk hX hA hI hR g⟩ rfl rfl hl.1 rfl (lv_room (Nat.le_of_ble_eq_true rfl)) dX1_faultFor_44 ⟨Nat.le_of_ble_eq_true rfl, Nat.le_of_ble_eq_true rfl⟩) (fun rh12 h12 => ?_)
    have jrh12 : -2147483648 ≤ rh12.toInt ∧ rh12.toInt ≤ 2147483647 := ⟨xi_lo _, Int.le_of_lt_add_one (xi_hi _)⟩
    refine lv_icmp_le (tgt := 63) hx hb dX1_faultFor_47 (by decide) (fun c13 => ?_) (fun c13 => ?_)
    · have ic13 := (xi_le c13 rfl rfl : v11.toInt ≤ rh12.toInt)
      refine lv_iconst (v := 0) hx hb dX1_faultFor_63 (by decide) ?_
      exact W.iret (v := 0) hx hb hr (fun t ht hW => ⟨0, rfl, trivial, ht⟩) (fun _ h => by cases h) dX1_faultFor_64
    · have ic13 := (xi_nle c13 rfl rfl : rh12.toInt < v11.toInt)
      refine lv_aload_n hx hb dX1_faultFor_50 rfl (lv_at hl 1 rfl) ?_
      refine h_get (v := .int (I0 a0 1)) hx hb hts iX1 hown g t_a0 (by decide) so_2 rfl 1 (by decide) (hts (.fieldLink RX1 15 "CapLeague$Change" "payIn" "I") (by decide +kernel)) rfl dX1_faultFor_51 rfl ?_
      refine lv_topi (fun v14 ev14 => ?_)
      have jv14 := hI.rd a0 1 t_a0 ev14 (rfl : h_bd 2 1 = ((-2147483648), 2147483647))
      refine lv_iload hx hb dX1_faultFor_54 (lv_at hl 0 rfl) ?_
      refine lv_icmp_le (tgt := 63) hx hb dX1_faultFor_56 (by decide) (fun c15 => ?_) (fun c15 => ?_)
      · have ic15 := (xi_le c15 rfl rfl : v14.toInt ≤ v9.toInt)
        refine lv_iconst (v := 0) hx hb dX1_faultFor_63 (by decide) ?_
        exact W.iret (v := 0) hx hb hr (fun t ht hW => ⟨0, rfl, trivial, ht⟩) (fun _ h => by cases h) dX1_faultFor_64
      · have ic15 := (xi_nle c15 rfl rfl : v9.toInt < v14.toInt)
        refine lv_iconst (v := 2) hx hb dX1_faultFor_59 (by decide) ?_
        refine lv_goto (tgt := 64) hx hb dX1_faultFor_60 (by decide) ?_
        exact W.iret (v := 2) hx hb hr (fun t ht hW => ⟨2, rfl, trivial, ht⟩) (fun _ h => by cases h) dX1_faultFor_64
  · have ic4 := (xi_nle c4 rfl rfl : rh3.toInt < v2.toInt)
    refine lv_iconst (v := 1) hx hb dX1_faultFor_14 (by decide) ?_
    exact W.iret (v := 1) hx hb hr (fun t ht hW => ⟨1, rfl, trivial, ht⟩) (fun _ h => by cases h) dX1_faultFor_15
set_option maxHeartbeats 4000000 in
set_option maxRecDepth 100000 in
theorem tX9_clear (l : Launch) (E : tE) (X : tX) (A : Nat → Prop) (z : tZ) (I0 : tI) (L0 : tL) (a0 : Nat) (t_a0 : z.ty a0 = 10) : Met l yX9_clear wsX9_clear ({ frames := 1, cells := 0, slots := 0, locals := 64 }) (va_Pc [.ref a0] (h_P E X A z I0 L0)) (va_Qv (fun (I1 : tI) => h_I z I1 ∧ h_F [(10, 3), (10, 4)] z I0 I1 ∧ True) (fun (I1 : tI) t => h_B E A z I1 L0 t) A) 0 0 A := by
  refine Met.ofW (cc := cX9_clear) (maxL := 1) (ret := none) (by decide) rfl ?_
  intro pr_ ev_ s m args below meth cd_ s₁ B hml hv
  obtain ⟨rfl, hE, hk, hX, hA, hK, hI, hR, hB0⟩ := hv
  have g : h_G h_so h_fk E A z I0 L0 s s.heap s.heap [] := ⟨hK, va_S.rf, hB0⟩
  have hF : h_F [(10, 3), (10, 4)] z I0 I0 := h_F.rf
  have hx := B.exec
  have hb := B.bytes
  have hr := B.returns
  have hts := atoms_spec (ws := wsX9_clear) B.pre
  have hown : s.vm.findClass RX9 = some m.cls := findClass_of_methodNamed B.named
  have hlocks := B.notSynchronized
  have iX9 : ∀ w ∈ u_ws RX9 TX9 10, w ∈ wsX9_clear := by decide +kernel
  have hl := lv_entry ([.ref a0]) (n := 1) (Nat.le_of_ble_eq_true rfl)
  rw [lg_entry_eq]
  generalize (lg_sl ([.ref a0]) ++ List.replicate (1 - (lg_sl ([.ref a0])).length) Slot.unset).toArray = ls at hl ⊢
  have hl : lv_has ls 1 [(0, .ref a0)] := hl
  refine lv_aload_n hx hb dX9_clear_0 rfl (lv_at hl 0 rfl) ?_
  refine lv_iconst (v := 0) hx hb dX9_clear_1 (by decide) ?_
  refine h_putI (ty := .int) (v := 0) hx hb hts iX9 tyX9 tyX9_ok nmX9 hown g t_a0 (by decide) so_10 rfl 3 (by decide) rfl (hts (.fieldLink RX9 43 "CapLeague$Trade" "size" "I") (by decide +kernel)) rfl rfl (by decide +kernel) rfl rfl dX9_clear_2 (fun I1 H locs eI1 g => ?_)
  have hI := hI.wr eI1 t_a0 (rfl : h_bd 10 3 = (0, 12)) (by decide) (by decide)
  have hF := hF.wr eI1 t_a0 rfl
  refine lv_aload_n hx hb dX9_clear_5 rfl (lv_at hl 0 rfl) ?_
  refine lv_iconst (v := 0) hx hb dX9_clear_6 (by decide) ?_
  refine h_putI (ty := .int) (v := 0) hx hb hts iX9 tyX9 tyX9_ok nmX9 hown g t_a0 (by decide) so_10 rfl 4 (by decide) rfl (hts (.fieldLink RX9 47 "CapLeague$Trade" "clubBits" "I") (by decide +kernel)) rfl rfl (by decide +kernel) rfl rfl dX9_clear_7 (fun I2 H locs eI2 g => ?_)
  have hI := hI.wr eI2 t_a0 (rfl : h_bd 10 4 = ((-2147483648), 2147483647)) (by decide) (by decide)
  have hF := hF.wr eI2 t_a0 rfl
  have hS := g.2.1
  exact W.vret hx hb hr (fun t ht hW => ⟨⟨I2, rfl, ⟨hI, hF, trivial⟩, h_ret g ht⟩, hS.F ht⟩) hS.2.2 dX9_clear_10
set_option maxHeartbeats 4000000 in
set_option maxRecDepth 100000 in
theorem tX9_isEmpty (l : Launch) (E : tE) (X : tX) (A : Nat → Prop) (z : tZ) (I0 : tI) (L0 : tL) (a0 : Nat) (t_a0 : z.ty a0 = 10) : Met l yX9_isEmpty wsX9_isEmpty ({ frames := 1, cells := 0, slots := 0, locals := 64 }) (va_Pc [.ref a0] (h_P E X A z I0 L0)) (vp_Si (fun r => (0 ≤ r.toInt ∧ r.toInt ≤ 1))) 0 0 (fun _ => False) := by
  refine Met.ofW (cc := cX9_isEmpty) (maxL := 1) (ret := (some .boolean)) (by decide) rfl ?_
  intro pr_ ev_ s m args below meth cd_ s₁ B hml hv
  obtain ⟨rfl, hE, hk, hX, hA, hK, hI, hR, hB0⟩ := hv
  have g : h_G h_so h_fk E A z I0 L0 s s.heap s.heap [] := ⟨hK, va_S.rf, hB0⟩
  have hx := B.exec
  have hb := B.bytes
  have hr := B.returns
  have hts := atoms_spec (ws := wsX9_isEmpty) B.pre
  have hown : s.vm.findClass RX9 = some m.cls := findClass_of_methodNamed B.named
  have hlocks := B.notSynchronized
  have iX9 : ∀ w ∈ u_ws RX9 TX9 10, w ∈ wsX9_isEmpty := by decide +kernel
  have hl := lv_entry ([.ref a0]) (n := 1) (Nat.le_of_ble_eq_true rfl)
  rw [lg_entry_eq]
  generalize (lg_sl ([.ref a0]) ++ List.replicate (1 - (lg_sl ([.ref a0])).length) Slot.unset).toArray = ls at hl ⊢
  have hl : lv_has ls 1 [(0, .ref a0)] := hl
  refine lv_aload_n hx hb dX9_isEmpty_0 rfl (lv_at hl 0 rfl) ?_
  refine h_get (v := .int (I0 a0 3)) hx hb hts iX9 hown g t_a0 (by decide) so_10 rfl 3 (by decide) (hts (.fieldLink RX9 43 "CapLeague$Trade" "size" "I") (by decide +kernel)) rfl dX9_isEmpty_1 rfl ?_
  refine lv_topi (fun v1 ev1 => ?_)
  have jv1 := hI.rd a0 3 t_a0 ev1 (rfl : h_bd 10 3 = (0, 12))
  refine lv_if_ne (tgt := 11) hx hb dX9_isEmpty_4 (by decide) (fun c2 => ?_) (fun c2 => ?_)
  · have ic2 := (xi_ne c2 rfl (by decide) : v1.toInt ≠ 0)
    refine lv_iconst (v := 0) hx hb dX9_isEmpty_11 (by decide) ?_
    exact W.zret (v := 0) hx hb hr (by decide) (fun t ht hW => ⟨0, rfl, ⟨(by decide), (by decide)⟩, ht⟩) (fun _ h => by cases h) dX9_isEmpty_12
  · have ic2 := (xi_eq c2 rfl (by decide) : v1.toInt = 0)
    refine lv_iconst (v := 1) hx hb dX9_isEmpty_7 (by decide) ?_
    refine lv_goto (tgt := 12) hx hb dX9_isEmpty_8 (by decide) ?_
    exact W.zret (v := 1) hx hb hr (by decide) (fun t ht hW => ⟨1, rfl, ⟨(by decide), (by decide)⟩, ht⟩) (fun _ h => by cases h) dX9_isEmpty_12
set_option maxHeartbeats 4000000 in
set_option maxRecDepth 100000 in
theorem tX9_has (l : Launch) (E : tE) (X : tX) (A : Nat → Prop) (z : tZ) (I0 : tI) (L0 : tL) (a0 : Nat) (t_a0 : z.ty a0 = 10) (x : Int32) (x_t : Int) (h_x : x.toInt = x_t) (y : Int32) (y_t : Int) (h_y : y.toInt = y_t) (b_y : 0 ≤ y_t ∧ y_t ≤ 1) : Met l yX9_has wsX9_has ({ frames := 1, cells := 0, slots := 0, locals := 64 }) (va_Pc [.ref a0, .int x, .int y] (h_P E X A z I0 L0)) (vp_Si (fun r => (0 ≤ r.toInt ∧ r.toInt ≤ 1))) 0 0 (fun _ => False) := by
  refine Met.ofW (cc := cX9_has) (maxL := 4) (ret := (some .boolean)) (by decide) rfl ?_
  intro pr_ ev_ s m args below meth cd_ s₁ B hml hv
  obtain ⟨rfl, hE, hk, hX, hA, hK, hI, hR, hB0⟩ := hv
  have g : h_G h_so h_fk E A z I0 L0 s s.heap s.heap [] := ⟨hK, va_S.rf, hB0⟩
  have hx := B.exec
  have hb := B.bytes
  have hr := B.returns
  have hts := atoms_spec (ws := wsX9_has) B.pre
  have hown : s.vm.findClass RX9 = some m.cls := findClass_of_methodNamed B.named
  have hlocks := B.notSynchronized
  have iX9 : ∀ w ∈ u_ws RX9 TX9 10, w ∈ wsX9_has := by decide +kernel
  have hl := lv_entry ([.ref a0, .int x, .int y]) (n := 4) (Nat.le_of_ble_eq_true rfl)
  rw [lg_entry_eq]
  generalize (lg_sl ([.ref a0, .int x, .int y]) ++ List.replicate (4 - (lg_sl ([.ref a0, .int x, .int y])).length) Slot.unset).toArray = ls at hl ⊢
  have hl : lv_has ls 4 [(0, .ref a0), (1, .int x), (2, .int y)] := hl
  have b_x : -2147483648 ≤ x_t ∧ x_t ≤ 2147483647 := h_x ▸ ⟨xi_lo x, Int.le_of_lt_add_one (xi_hi x)⟩
  refine lv_iconst (v := 0) hx hb dX9_has_0 (by decide) ?_
  refine lv_istore_n (lv' := [(3, .int 0), (0, .ref a0), (1, .int x), (2, .int y)]) hx hb dX9_has_1 rfl hl (by decide) rfl (fun ls hl => ?_)
  have loop2_0 : ∀ (n : Nat) (ls : Array Slot) (v1 : Int32), lv_has ls 4 [(0, .ref a0), (1, .int x), (2, .int y), (3, .int v1)] → (0 ≤ v1.toInt ∧ v1.toInt ≤ 12) → (12 - v1.toInt) < (n : Int) → W pr_ l ev_ (headSpec wsX9_has ({ frames := 1, cells := 0, slots := 0, locals := 64 })).room s m ([.ref a0, .int x, .int y] : List Value).toArray below meth cd_ s.heap [] 0 0 (MQ below (vp_Si (fun r => (0 ≤ r.toInt ∧ r.toInt ≤ 1))) ([.ref a0, .int x, .int y] : List Value).toArray s 0 0 (fun _ => False)) (F0 m 2 ls []) := by
    intro n
    induction n with
    | zero => intro ls v1 hl jv1 hn; exact absurd hn (by omega)
    | succ n ih2 =>
      intro ls v1 hl jv1 hn
      refine lv_iload_n hx hb dX9_has_2 rfl (lv_at hl 3 rfl) ?_
      refine lv_aload_n hx hb dX9_has_3 rfl (lv_at hl 0 rfl) ?_
      refine h_get (v := .int (I0 a0 3)) hx hb hts iX9 hown g t_a0 (by decide) so_10 rfl 3 (by decide) (hts (.fieldLink RX9 43 "CapLeague$Trade" "size" "I") (by decide +kernel)) rfl dX9_has_4 rfl ?_
      refine lv_topi (fun v2 ev2 => ?_)
      have jv2 := hI.rd a0 3 t_a0 ev2 (rfl : h_bd 10 3 = (0, 12))
      refine lv_icmp_ge (tgt := 38) hx hb dX9_has_7 (by decide) (fun c3 => ?_) (fun c3 => ?_)
      · have ic3 := (xi_le c3 rfl rfl : v2.toInt ≤ v1.toInt)
        refine lv_iconst (v := 0) hx hb dX9_has_38 (by decide) ?_
        exact W.zret (v := 0) hx hb hr (by decide) (fun t ht hW => ⟨0, rfl, ⟨(by decide), (by decide)⟩, ht⟩) (fun _ h => by cases h) dX9_has_39
      · have ic3 := (xi_nle c3 rfl rfl : v1.toInt < v2.toInt)
        refine lv_aload_n hx hb dX9_has_10 rfl (lv_at hl 0 rfl) ?_
        obtain ⟨b4, rb4, tb4⟩ := hR.at a0 6 t_a0 (rfl : h_rs 10 6 = some (1006, false)) (by decide)
        refine h_get (v := .ref b4) hx hb hts iX9 hown g t_a0 (by decide) so_10 rfl 6 (by decide) (hts (.fieldLink RX9 22 "CapLeague$Trade" "thing" "[I") (by decide +kernel)) rfl dX9_has_11 (by show va_rf (z.R a0 6) = _; rw [rb4]; rfl) ?_
        refine lv_iload_n hx hb dX9_has_14 rfl (lv_at hl 3 rfl) ?_
        refine h_ald hx hb g tb4 (by decide) so_1006 (xi_in (by omega) (by omega)) dX9_has_15 ?_
        refine lv_topi (fun v5 ev5 => ?_)
        have jv5 := hI.rd b4 v1.toNatClampNeg tb4 ev5 (rfl : h_bd 1006 _ = ((-2147483648), 2147483647))
        refine lv_iload_n hx hb dX9_has_16 rfl (lv_at hl 1 rfl) ?_
        refine lv_icmp_ne (tgt := 32) hx hb dX9_has_17 (by decide) (fun c6 => ?_) (fun c6 => ?_)
        · have ic6 := (xi_ne c6 rfl h_x : v5.toInt ≠ x_t)
          obtain ⟨v7, ev7⟩ : ∃ z : Int32, z = v1 + 1 := ⟨_, rfl⟩
          have jv7 : v7.toInt = v1.toInt + 1 := xi_add ev7 rfl (by decide) (by omega) (by omega)
          refine lv_iinc (v := v7) (lv' := [(3, .int v7), (0, .ref a0), (1, .int x), (2, .int y)]) hx hb dX9_has_32 hl (k := 3) rfl (by rw [ev7]; rfl) (by decide) rfl (fun ls hl => ?_)
          refine lv_goto (tgt := 2) hx hb dX9_has_35 (by decide) ?_
          exact ih2 _ v7 (lv_sub hl [1, 2, 3, 0] rfl) (by omega) (by omega)
        · have ic6 := (xi_eq c6 rfl h_x : v5.toInt = x_t)
          refine lv_aload_n hx hb dX9_has_20 rfl (lv_at hl 0 rfl) ?_
          obtain ⟨b8, rb8, tb8⟩ := hR.at a0 5 t_a0 (rfl : h_rs 10 5 = some (1005, false)) (by decide)
          refine h_get (v := .ref b8) hx hb hts iX9 hown g t_a0 (by decide) so_10 rfl 5 (by decide) (hts (.fieldLink RX9 18 "CapLeague$Trade" "isTurn" "[Z") (by decide +kernel)) rfl dX9_has_21 (by show va_rf (z.R a0 5) = _; rw [rb8]; rfl) ?_
          refine lv_iload_n hx hb dX9_has_24 rfl (lv_at hl 3 rfl) ?_
          refine h_zald hx hb g tb8 (by decide) so_1005 (xi_in (by omega) (by omega)) dX9_has_25 ?_
          refine lv_topi (fun v9 ev9 => ?_)
          have jv9 := hI.rd b8 v1.toNatClampNeg tb8 ev9 (rfl : h_bd 1005 _ = (0, 1))
          refine lv_iload_n hx hb dX9_has_26 rfl (lv_at hl 2 rfl) ?_
          refine lv_icmp_ne (tgt := 32) hx hb dX9_has_27 (by decide) (fun c10 => ?_) (fun c10 => ?_)
          · have ic10 := (xi_ne c10 rfl h_y : v9.toInt ≠ y_t)
            obtain ⟨v11, ev11⟩ : ∃ z : Int32, z = v1 + 1 := ⟨_, rfl⟩
            have jv11 : v11.toInt = v1.toInt + 1 := xi_add ev11 rfl (by decide) (by omega) (by omega)
            refine lv_iinc (v := v11) (lv' := [(3, .int v11), (0, .ref a0), (1, .int x), (2, .int y)]) hx hb dX9_has_32 hl (k := 3) rfl (by rw [ev11]; rfl) (by decide) rfl (fun ls hl => ?_)
            refine lv_goto (tgt := 2) hx hb dX9_has_35 (by decide) ?_
            exact ih2 _ v11 (lv_sub hl [1, 2, 3, 0] rfl) (by omega) (by omega)
          · have ic10 := (xi_eq c10 rfl h_y : v9.toInt = y_t)
            refine lv_iconst (v := 1) hx hb dX9_has_30 (by decide) ?_
            exact W.zret (v := 1) hx hb hr (by decide) (fun t ht hW => ⟨1, rfl, ⟨(by decide), (by decide)⟩, ht⟩) (fun _ h => by cases h) dX9_has_31
  exact loop2_0 _ _ (0) (lv_sub hl [1, 2, 3, 0] rfl) ⟨by decide, by decide⟩ (show (12 - (0 : Int)) < (((12 - (0 : Int)).toNat + 1 : Nat) : Int) by omega)
set_option maxHeartbeats 4000000 in
set_option maxRecDepth 100000 in
theorem tX9_hasPlayer (l : Launch) (E : tE) (X : tX) (A : Nat → Prop) (z : tZ) (I0 : tI) (L0 : tL) (a0 : Nat) (t_a0 : z.ty a0 = 10) (x : Int32) (x_t : Int) (h_x : x.toInt = x_t) : Met l yX9_hasPlayer wsX9_hasPlayer ({ frames := 2, cells := 0, slots := 0, locals := 128 }) (va_Pc [.ref a0, .int x] (h_P E X A z I0 L0)) (vp_Si (fun r => (0 ≤ r.toInt ∧ r.toInt ≤ 1))) 0 0 (fun _ => False) := by
  refine Met.ofW (cc := cX9_hasPlayer) (maxL := 2) (ret := (some .boolean)) (by decide) rfl ?_
  intro pr_ ev_ s m args below meth cd_ s₁ B hml hv
  obtain ⟨rfl, hE, hk, hX, hA, hK, hI, hR, hB0⟩ := hv
  have g : h_G h_so h_fk E A z I0 L0 s s.heap s.heap [] := ⟨hK, va_S.rf, hB0⟩
  have hx := B.exec
  have hb := B.bytes
  have hr := B.returns
  have hts := atoms_spec (ws := wsX9_hasPlayer) B.pre
  have hown : s.vm.findClass RX9 = some m.cls := findClass_of_methodNamed B.named
  have hlocks := B.notSynchronized
  have hl := lv_entry ([.ref a0, .int x]) (n := 2) (Nat.le_of_ble_eq_true rfl)
  rw [lg_entry_eq]
  generalize (lg_sl ([.ref a0, .int x]) ++ List.replicate (2 - (lg_sl ([.ref a0, .int x])).length) Slot.unset).toArray = ls at hl ⊢
  have hl : lv_has ls 2 [(0, .ref a0), (1, .int x)] := hl
  have b_x : -2147483648 ≤ x_t ∧ x_t ≤ 2147483647 := h_x ▸ ⟨xi_lo x, Int.le_of_lt_add_one (xi_hi x)⟩
  refine lv_aload_n hx hb dX9_hasPlayer_0 rfl (lv_at hl 0 rfl) ?_
  refine lv_iload_n hx hb dX9_hasPlayer_1 rfl (lv_at hl 1 rfl) ?_
  refine lv_iconst (v := 0) hx hb dX9_hasPlayer_2 (by decide) ?_
  refine vp_callSi (W.runV (As := [.int x, .int 0]) (rest := []) ⟨hx, hb, hml, hown, hts⟩ (tX9_has l E X A z I0 L0 a0 t_a0 x (x_t) h_x 0 (0) (by decide) (by omega)) (cwV 2 hts gX9_hasPlayer_X9_has rfl rfl rfl (by decide +kernel) ⟨Nat.le_of_ble_eq_true rfl, Nat.le_of_ble_eq_true rfl⟩) ⟨h_blind _ _ _ _ _ _ _, h_recv g t_a0 (by decide) so_10 (q := (RX9, TX9, 10)) rfl, h_pre _ hE hk hX hA hI hR g⟩ rfl rfl hl.1 rfl (lv_room (Nat.le_of_ble_eq_true rfl)) dX9_hasPlayer_3 ⟨Nat.le_of_ble_eq_true rfl, Nat.le_of_ble_eq_true rfl⟩) (fun rh1 h1 => ?_)
  exact W.zret (v := rh1) hx hb hr (h_nb (by omega) (by omega)).1 (fun t ht hW => ⟨rh1, rfl, ⟨(by omega), (by omega)⟩, ht⟩) (fun _ h => by cases h) dX9_hasPlayer_6
set_option maxHeartbeats 4000000 in
set_option maxRecDepth 100000 in
theorem tX9_hasTurn (l : Launch) (E : tE) (X : tX) (A : Nat → Prop) (z : tZ) (I0 : tI) (L0 : tL) (a0 : Nat) (t_a0 : z.ty a0 = 10) (x : Int32) (x_t : Int) (h_x : x.toInt = x_t) : Met l yX9_hasTurn wsX9_hasTurn ({ frames := 2, cells := 0, slots := 0, locals := 128 }) (va_Pc [.ref a0, .int x] (h_P E X A z I0 L0)) (vp_Si (fun r => (0 ≤ r.toInt ∧ r.toInt ≤ 1))) 0 0 (fun _ => False) := by
  refine Met.ofW (cc := cX9_hasTurn) (maxL := 2) (ret := (some .boolean)) (by decide) rfl ?_
  intro pr_ ev_ s m args below meth cd_ s₁ B hml hv
  obtain ⟨rfl, hE, hk, hX, hA, hK, hI, hR, hB0⟩ := hv
  have g : h_G h_so h_fk E A z I0 L0 s s.heap s.heap [] := ⟨hK, va_S.rf, hB0⟩
  have hx := B.exec
  have hb := B.bytes
  have hr := B.returns
  have hts := atoms_spec (ws := wsX9_hasTurn) B.pre
  have hown : s.vm.findClass RX9 = some m.cls := findClass_of_methodNamed B.named
  have hlocks := B.notSynchronized
  have hl := lv_entry ([.ref a0, .int x]) (n := 2) (Nat.le_of_ble_eq_true rfl)
  rw [lg_entry_eq]
  generalize (lg_sl ([.ref a0, .int x]) ++ List.replicate (2 - (lg_sl ([.ref a0, .int x])).length) Slot.unset).toArray = ls at hl ⊢
  have hl : lv_has ls 2 [(0, .ref a0), (1, .int x)] := hl
  have b_x : -2147483648 ≤ x_t ∧ x_t ≤ 2147483647 := h_x ▸ ⟨xi_lo x, Int.le_of_lt_add_one (xi_hi x)⟩
  refine lv_aload_n hx hb dX9_hasTurn_0 rfl (lv_at hl 0 rfl) ?_
  refine lv_iload_n hx hb dX9_hasTurn_1 rfl (lv_at hl 1 rfl) ?_
  refine lv_iconst (v := 1) hx hb dX9_hasTurn_2 (by decide) ?_
  refine vp_callSi (W.runV (As := [.int x, .int 1]) (rest := []) ⟨hx, hb, hml, hown, hts⟩ (tX9_has l E X A z I0 L0 a0 t_a0 x (x_t) h_x 1 (1) (by decide) (by omega)) (cwV 2 hts gX9_hasTurn_X9_has rfl rfl rfl (by decide +kernel) ⟨Nat.le_of_ble_eq_true rfl, Nat.le_of_ble_eq_true rfl⟩) ⟨h_blind _ _ _ _ _ _ _, h_recv g t_a0 (by decide) so_10 (q := (RX9, TX9, 10)) rfl, h_pre _ hE hk hX hA hI hR g⟩ rfl rfl hl.1 rfl (lv_room (Nat.le_of_ble_eq_true rfl)) dX9_hasTurn_3 ⟨Nat.le_of_ble_eq_true rfl, Nat.le_of_ble_eq_true rfl⟩) (fun rh1 h1 => ?_)
  exact W.zret (v := rh1) hx hb hr (h_nb (by omega) (by omega)).1 (fun t ht hW => ⟨rh1, rfl, ⟨(by omega), (by omega)⟩, ht⟩) (fun _ h => by cases h) dX9_hasTurn_6
set_option maxHeartbeats 4000000 in
set_option maxRecDepth 100000 in
theorem tX9_canJoin (l : Launch) (E : tE) (X : tX) (A : Nat → Prop) (z : tZ) (I0 : tI) (L0 : tL) (a0 : Nat) (t_a0 : z.ty a0 = 10) (x : Int32) (x_t : Int) (h_x : x.toInt = x_t) (y : Int32) (y_t : Int) (h_y : y.toInt = y_t) : Met l yX9_canJoin wsX9_canJoin ({ frames := 2, cells := 0, slots := 0, locals := 128 }) (va_Pc [.ref a0, .int x, .int y] (h_P E X A z I0 L0)) (vp_Si (fun r => (0 ≤ r.toInt ∧ r.toInt ≤ 1))) 0 0 (fun _ => False) := by
  refine Met.ofW (cc := cX9_canJoin) (maxL := 3) (ret := (some .boolean)) (by decide) rfl ?_
  intro pr_ ev_ s m args below meth cd_ s₁ B hml hv
  obtain ⟨rfl, hE, hk, hX, hA, hK, hI, hR, hB0⟩ := hv
  have g : h_G h_so h_fk E A z I0 L0 s s.heap s.heap [] := ⟨hK, va_S.rf, hB0⟩
  have hx := B.exec
  have hb := B.bytes
  have hr := B.returns
  have hts := atoms_spec (ws := wsX9_canJoin) B.pre
  have hown : s.vm.findClass RX9 = some m.cls := findClass_of_methodNamed B.named
  have hlocks := B.notSynchronized
  have iX9 : ∀ w ∈ u_ws RX9 TX9 10, w ∈ wsX9_canJoin := by decide +kernel
  have hl := lv_entry ([.ref a0, .int x, .int y]) (n := 3) (Nat.le_of_ble_eq_true rfl)
  rw [lg_entry_eq]
  generalize (lg_sl ([.ref a0, .int x, .int y]) ++ List.replicate (3 - (lg_sl ([.ref a0, .int x, .int y])).length) Slot.unset).toArray = ls at hl ⊢
  have hl : lv_has ls 3 [(0, .ref a0), (1, .int x), (2, .int y)] := hl
  have b_x : -2147483648 ≤ x_t ∧ x_t ≤ 2147483647 := h_x ▸ ⟨xi_lo x, Int.le_of_lt_add_one (xi_hi x)⟩
  have b_y : -2147483648 ≤ y_t ∧ y_t ≤ 2147483647 := h_y ▸ ⟨xi_lo y, Int.le_of_lt_add_one (xi_hi y)⟩
  refine lv_aload_n hx hb dX9_canJoin_0 rfl (lv_at hl 0 rfl) ?_
  refine h_get (v := .int (I0 a0 4)) hx hb hts iX9 hown g t_a0 (by decide) so_10 rfl 4 (by decide) (hts (.fieldLink RX9 47 "CapLeague$Trade" "clubBits" "I") (by decide +kernel)) rfl dX9_canJoin_1 rfl ?_
  refine lv_topi (fun v1 ev1 => ?_)
  have jv1 := hI.rd a0 4 t_a0 ev1 (rfl : h_bd 10 4 = ((-2147483648), 2147483647))
  refine lv_iconst (v := 1) hx hb dX9_canJoin_4 (by decide) ?_
  refine lv_iload_n hx hb dX9_canJoin_5 rfl (lv_at hl 1 rfl) ?_
  refine lv_ishl hx hb dX9_canJoin_6 ?_
  refine lv_topi (fun v2 ev2 => ?_)
  have jv2 : -2147483648 ≤ v2.toInt ∧ v2.toInt ≤ 2147483647 := ⟨xi_lo _, Int.le_of_lt_add_one (xi_hi _)⟩
  refine lv_ior hx hb dX9_canJoin_7 ?_
  refine lv_topi (fun v3 ev3 => ?_)
  have jv3 : -2147483648 ≤ v3.toInt ∧ v3.toInt ≤ 2147483647 := ⟨xi_lo _, Int.le_of_lt_add_one (xi_hi _)⟩
  refine lv_iconst (v := 1) hx hb dX9_canJoin_8 (by decide) ?_
  refine lv_iload_n hx hb dX9_canJoin_9 rfl (lv_at hl 2 rfl) ?_
  refine lv_ishl hx hb dX9_canJoin_10 ?_
  refine lv_topi (fun v4 ev4 => ?_)
  have jv4 : -2147483648 ≤ v4.toInt ∧ v4.toInt ≤ 2147483647 := ⟨xi_lo _, Int.le_of_lt_add_one (xi_hi _)⟩
  refine lv_ior hx hb dX9_canJoin_11 ?_
  refine lv_topi (fun v5 ev5 => ?_)
  have jv5 : -2147483648 ≤ v5.toInt ∧ v5.toInt ≤ 2147483647 := ⟨xi_lo _, Int.le_of_lt_add_one (xi_hi _)⟩
  refine vp_callSi (W.runS (As := [.int v5]) (rest := []) ⟨hx, hb, hml, hown, hts⟩ (tJ6_bitCount_0f7a4 l E X A z I0 L0 v5 (v5.toInt) rfl) (va_cwS 1 hts gX9_canJoin_J6_bitCount_0f7a4 rfl rfl rfl (by decide +kernel) ⟨Nat.le_of_ble_eq_true rfl, Nat.le_of_ble_eq_true rfl⟩) ⟨h_blind _ _ _ _ _ _ _, h_pre _ hE hk hX hA hI hR g⟩ rfl rfl hl.1 rfl (lv_room (Nat.le_of_ble_eq_true rfl)) dX9_canJoin_12 ⟨Nat.le_of_ble_eq_true rfl, Nat.le_of_ble_eq_true rfl⟩) (fun rh6 h6 => ?_)
  have jrh6 : -2147483648 ≤ rh6.toInt ∧ rh6.toInt ≤ 2147483647 := ⟨xi_lo _, Int.le_of_lt_add_one (xi_hi _)⟩
  refine lv_iconst (v := 4) hx hb dX9_canJoin_15 (by decide) ?_
  refine lv_icmp_gt (tgt := 23) hx hb dX9_canJoin_16 (by decide) (fun c7 => ?_) (fun c7 => ?_)
  · have ic7 := (xi_lt c7 (by decide) rfl : 4 < rh6.toInt)
    refine lv_iconst (v := 0) hx hb dX9_canJoin_23 (by decide) ?_
    exact W.zret (v := 0) hx hb hr (by decide) (fun t ht hW => ⟨0, rfl, ⟨(by decide), (by decide)⟩, ht⟩) (fun _ h => by cases h) dX9_canJoin_24
  · have ic7 := (xi_nlt c7 (by decide) rfl : rh6.toInt ≤ 4)
    refine lv_iconst (v := 1) hx hb dX9_canJoin_19 (by decide) ?_
    refine lv_goto (tgt := 24) hx hb dX9_canJoin_20 (by decide) ?_
    exact W.zret (v := 1) hx hb hr (by decide) (fun t ht hW => ⟨1, rfl, ⟨(by decide), (by decide)⟩, ht⟩) (fun _ h => by cases h) dX9_canJoin_24
set_option maxHeartbeats 4000000 in
set_option maxRecDepth 100000 in
theorem tX9_add (l : Launch) (E : tE) (X : tX) (A : Nat → Prop) (z : tZ) (I0 : tI) (L0 : tL) (a0 : Nat) (t_a0 : z.ty a0 = 10) (x : Int32) (x_t : Int) (h_x : x.toInt = x_t) (y : Int32) (y_t : Int) (h_y : y.toInt = y_t) (b_y : 0 ≤ y_t ∧ y_t ≤ 1) (c : Int32) (c_t : Int) (h_c : c.toInt = c_t) (d : Int32) (d_t : Int) (h_d : d.toInt = d_t) (b_d : 0 ≤ d_t ∧ d_t ≤ 7) (k : Int32) (k_t : Int) (h_k : k.toInt = k_t) : Met l yX9_add wsX9_add ({ frames := 1, cells := 0, slots := 0, locals := 64 }) (va_Pc [.ref a0, .int x, .int y, .int c, .int d, .int k] (h_P E X A z I0 L0)) (va_Qi (fun r (I1 : tI) => h_I z I1 ∧ h_F [(10, 3), (10, 4), (1006, 999), (1005, 999), (1007, 999), (1008, 999), (1009, 999)] z I0 I1 ∧ True) (fun (I1 : tI) t => h_B E A z I1 L0 t) A) 0 0 A := by
  refine Met.ofW (cc := cX9_add) (maxL := 6) (ret := (some .int)) (by decide) rfl ?_
  intro pr_ ev_ s m args below meth cd_ s₁ B hml hv
  obtain ⟨rfl, hE, hk, hX, hA, hK, hI, hR, hB0⟩ := hv
  have g : h_G h_so h_fk E A z I0 L0 s s.heap s.heap [] := ⟨hK, va_S.rf, hB0⟩
  have hF : h_F [(10, 3), (10, 4), (1006, 999), (1005, 999), (1007, 999), (1008, 999), (1009, 999)] z I0 I0 := h_F.rf
  have hx := B.exec
  have hb := B.bytes
  have hr := B.returns
  have hts := atoms_spec (ws := wsX9_add) B.pre
  have hown : s.vm.findClass RX9 = some m.cls := findClass_of_methodNamed B.named
  have hlocks := B.notSynchronized
  have iX9 : ∀ w ∈ u_ws RX9 TX9 10, w ∈ wsX9_add := by decide +kernel
  have hl := lv_entry ([.ref a0, .int x, .int y, .int c, .int d, .int k]) (n := 6) (Nat.le_of_ble_eq_true rfl)
  rw [lg_entry_eq]
  generalize (lg_sl ([.ref a0, .int x, .int y, .int c, .int d, .int k]) ++ List.replicate (6 - (lg_sl ([.ref a0, .int x, .int y, .int c, .int d, .int k])).length) Slot.unset).toArray = ls at hl ⊢
  have hl : lv_has ls 6 [(0, .ref a0), (1, .int x), (2, .int y), (3, .int c), (4, .int d), (5, .int k)] := hl
  have b_x : -2147483648 ≤ x_t ∧ x_t ≤ 2147483647 := h_x ▸ ⟨xi_lo x, Int.le_of_lt_add_one (xi_hi x)⟩
  have b_c : -2147483648 ≤ c_t ∧ c_t ≤ 2147483647 := h_c ▸ ⟨xi_lo c, Int.le_of_lt_add_one (xi_hi c)⟩
  have b_k : -2147483648 ≤ k_t ∧ k_t ≤ 2147483647 := h_k ▸ ⟨xi_lo k, Int.le_of_lt_add_one (xi_hi k)⟩
  refine lv_aload_n hx hb dX9_add_0 rfl (lv_at hl 0 rfl) ?_
  refine h_get (v := .int (I0 a0 3)) hx hb hts iX9 hown g t_a0 (by decide) so_10 rfl 3 (by decide) (hts (.fieldLink RX9 43 "CapLeague$Trade" "size" "I") (by decide +kernel)) rfl dX9_add_1 rfl ?_
  refine lv_topi (fun v1 ev1 => ?_)
  have jv1 := hI.rd a0 3 t_a0 ev1 (rfl : h_bd 10 3 = (0, 12))
  refine lv_bipush (v := 12) hx hb dX9_add_4 (by decide) ?_
  refine lv_icmp_lt (tgt := 12) hx hb dX9_add_6 (by decide) (fun c2 => ?_) (fun c2 => ?_)
  · have ic2 := (xi_lt c2 rfl (by decide) : v1.toInt < 12)
    refine lv_aload_n hx hb dX9_add_12 rfl (lv_at hl 0 rfl) ?_
    obtain ⟨b3, rb3, tb3⟩ := hR.at a0 6 t_a0 (rfl : h_rs 10 6 = some (1006, false)) (by decide)
    refine h_get (v := .ref b3) hx hb hts iX9 hown g t_a0 (by decide) so_10 rfl 6 (by decide) (hts (.fieldLink RX9 22 "CapLeague$Trade" "thing" "[I") (by decide +kernel)) rfl dX9_add_13 (by show va_rf (z.R a0 6) = _; rw [rb3]; rfl) ?_
    refine lv_aload_n hx hb dX9_add_16 rfl (lv_at hl 0 rfl) ?_
    refine h_get (v := .int v1) hx hb hts iX9 hown g t_a0 (by decide) so_10 rfl 3 (by decide) (hts (.fieldLink RX9 43 "CapLeague$Trade" "size" "I") (by decide +kernel)) rfl dX9_add_17 (congrArg Value.int (ev1.symm)) ?_
    refine lv_iload_n hx hb dX9_add_20 rfl (lv_at hl 1 rfl) ?_
    refine h_ast hx hb g tb3 (by decide) so_1006 (xi_in (by omega) (by omega)) dX9_add_21 (fun I4 H locs eI4 g => ?_)
    have hI := hI.wr eI4 tb3 (rfl : h_bd 1006 _ = ((-2147483648), 2147483647)) (xi_lo _) (Int.le_of_lt_add_one (xi_hi _))
    have hF := hF.wr eI4 tb3 rfl
    refine lv_aload_n hx hb dX9_add_22 rfl (lv_at hl 0 rfl) ?_
    obtain ⟨b5, rb5, tb5⟩ := hR.at a0 5 t_a0 (rfl : h_rs 10 5 = some (1005, false)) (by decide)
    refine h_get (v := .ref b5) hx hb hts iX9 hown g t_a0 (by decide) so_10 rfl 5 (by decide) (hts (.fieldLink RX9 18 "CapLeague$Trade" "isTurn" "[Z") (by decide +kernel)) rfl dX9_add_23 (by show va_rf (z.R a0 5) = _; rw [rb5]; rfl) ?_
    refine lv_aload_n hx hb dX9_add_26 rfl (lv_at hl 0 rfl) ?_
    refine h_get (v := .int v1) hx hb hts iX9 hown g t_a0 (by decide) so_10 rfl 3 (by decide) (hts (.fieldLink RX9 43 "CapLeague$Trade" "size" "I") (by decide +kernel)) rfl dX9_add_27 (congrArg Value.int ((h_n1 eI4 t_a0 tb3 (by decide)).trans (ev1.symm))) ?_
    refine lv_iload_n hx hb dX9_add_30 rfl (lv_at hl 2 rfl) ?_
    refine h_zast hx hb g tb5 (by decide) so_1005 (xi_in (by omega) (by omega)) dX9_add_31 (fun I6 H locs eI6 g => ?_)
    rw [h_nz (by rw [h_y]; omega) (by rw [h_y]; omega)] at eI6
    have hI := hI.wr eI6 tb5 (rfl : h_bd 1005 _ = (0, 1)) (by rw [h_y]; omega) (by rw [h_y]; omega)
    have hF := hF.wr eI6 tb5 rfl
    refine lv_aload_n hx hb dX9_add_32 rfl (lv_at hl 0 rfl) ?_
    obtain ⟨b7, rb7, tb7⟩ := hR.at a0 7 t_a0 (rfl : h_rs 10 7 = some (1007, false)) (by decide)
    refine h_get (v := .ref b7) hx hb hts iX9 hown g t_a0 (by decide) so_10 rfl 7 (by decide) (hts (.fieldLink RX9 26 "CapLeague$Trade" "from" "[I") (by decide +kernel)) rfl dX9_add_33 (by show va_rf (z.R a0 7) = _; rw [rb7]; rfl) ?_
    refine lv_aload_n hx hb dX9_add_36 rfl (lv_at hl 0 rfl) ?_
    refine h_get (v := .int v1) hx hb hts iX9 hown g t_a0 (by decide) so_10 rfl 3 (by decide) (hts (.fieldLink RX9 43 "CapLeague$Trade" "size" "I") (by decide +kernel)) rfl dX9_add_37 (congrArg Value.int ((h_n1 eI6 t_a0 tb5 (by decide)).trans ((h_n1 eI4 t_a0 tb3 (by decide)).trans (ev1.symm)))) ?_
    refine lv_iload_n hx hb dX9_add_40 rfl (lv_at hl 3 rfl) ?_
    refine h_ast hx hb g tb7 (by decide) so_1007 (xi_in (by omega) (by omega)) dX9_add_41 (fun I8 H locs eI8 g => ?_)
    have hI := hI.wr eI8 tb7 (rfl : h_bd 1007 _ = ((-2147483648), 2147483647)) (xi_lo _) (Int.le_of_lt_add_one (xi_hi _))
    have hF := hF.wr eI8 tb7 rfl
    refine lv_aload_n hx hb dX9_add_42 rfl (lv_at hl 0 rfl) ?_
    obtain ⟨b9, rb9, tb9⟩ := hR.at a0 8 t_a0 (rfl : h_rs 10 8 = some (1008, false)) (by decide)
    refine h_get (v := .ref b9) hx hb hts iX9 hown g t_a0 (by decide) so_10 rfl 8 (by decide) (hts (.fieldLink RX9 29 "CapLeague$Trade" "to" "[I") (by decide +kernel)) rfl dX9_add_43 (by show va_rf (z.R a0 8) = _; rw [rb9]; rfl) ?_
    refine lv_aload_n hx hb dX9_add_46 rfl (lv_at hl 0 rfl) ?_
    refine h_get (v := .int v1) hx hb hts iX9 hown g t_a0 (by decide) so_10 rfl 3 (by decide) (hts (.fieldLink RX9 43 "CapLeague$Trade" "size" "I") (by decide +kernel)) rfl dX9_add_47 (congrArg Value.int ((h_n1 eI8 t_a0 tb7 (by decide)).trans ((h_n1 eI6 t_a0 tb5 (by decide)).trans ((h_n1 eI4 t_a0 tb3 (by decide)).trans (ev1.symm))))) ?_
    refine lv_iload hx hb dX9_add_50 (lv_at hl 4 rfl) ?_
    refine h_ast hx hb g tb9 (by decide) so_1008 (xi_in (by omega) (by omega)) dX9_add_52 (fun I10 H locs eI10 g => ?_)
    have hI := hI.wr eI10 tb9 (rfl : h_bd 1008 _ = (0, 7)) (by rw [h_d]; omega) (by rw [h_d]; omega)
    have hF := hF.wr eI10 tb9 rfl
    refine lv_aload_n hx hb dX9_add_53 rfl (lv_at hl 0 rfl) ?_
    obtain ⟨b11, rb11, tb11⟩ := hR.at a0 9 t_a0 (rfl : h_rs 10 9 = some (1009, false)) (by decide)
    refine h_get (v := .ref b11) hx hb hts iX9 hown g t_a0 (by decide) so_10 rfl 9 (by decide) (hts (.fieldLink RX9 32 "CapLeague$Trade" "shield" "[I") (by decide +kernel)) rfl dX9_add_54 (by show va_rf (z.R a0 9) = _; rw [rb11]; rfl) ?_
    refine lv_aload_n hx hb dX9_add_57 rfl (lv_at hl 0 rfl) ?_
    refine h_get (v := .int v1) hx hb hts iX9 hown g t_a0 (by decide) so_10 rfl 3 (by decide) (hts (.fieldLink RX9 43 "CapLeague$Trade" "size" "I") (by decide +kernel)) rfl dX9_add_58 (congrArg Value.int ((h_n1 eI10 t_a0 tb9 (by decide)).trans ((h_n1 eI8 t_a0 tb7 (by decide)).trans ((h_n1 eI6 t_a0 tb5 (by decide)).trans ((h_n1 eI4 t_a0 tb3 (by decide)).trans (ev1.symm)))))) ?_
    refine lv_iload hx hb dX9_add_61 (lv_at hl 5 rfl) ?_
    refine h_ast hx hb g tb11 (by decide) so_1009 (xi_in (by omega) (by omega)) dX9_add_63 (fun I12 H locs eI12 g => ?_)
    have hI := hI.wr eI12 tb11 (rfl : h_bd 1009 _ = ((-2147483648), 2147483647)) (xi_lo _) (Int.le_of_lt_add_one (xi_hi _))
    have hF := hF.wr eI12 tb11 rfl
    refine lv_aload_n hx hb dX9_add_64 rfl (lv_at hl 0 rfl) ?_
    refine lv_dup hx hb dX9_add_65 rfl ?_
    refine h_get (v := .int (I12 a0 4)) hx hb hts iX9 hown g t_a0 (by decide) so_10 rfl 4 (by decide) (hts (.fieldLink RX9 47 "CapLeague$Trade" "clubBits" "I") (by decide +kernel)) rfl dX9_add_66 rfl ?_
    refine lv_topi (fun v13 ev13 => ?_)
    have jv13 := hI.rd a0 4 t_a0 ev13 (rfl : h_bd 10 4 = ((-2147483648), 2147483647))
    refine lv_iconst (v := 1) hx hb dX9_add_69 (by decide) ?_
    refine lv_iload_n hx hb dX9_add_70 rfl (lv_at hl 3 rfl) ?_
    refine lv_ishl hx hb dX9_add_71 ?_
    refine lv_topi (fun v14 ev14 => ?_)
    have jv14 : -2147483648 ≤ v14.toInt ∧ v14.toInt ≤ 2147483647 := ⟨xi_lo _, Int.le_of_lt_add_one (xi_hi _)⟩
    refine lv_iconst (v := 1) hx hb dX9_add_72 (by decide) ?_
    refine lv_iload hx hb dX9_add_73 (lv_at hl 4 rfl) ?_
    refine lv_ishl hx hb dX9_add_75 ?_
    refine lv_topi (fun v15 ev15 => ?_)
    have jv15 : -2147483648 ≤ v15.toInt ∧ v15.toInt ≤ 2147483647 := ⟨xi_lo _, Int.le_of_lt_add_one (xi_hi _)⟩
    refine lv_ior hx hb dX9_add_76 ?_
    refine lv_topi (fun v16 ev16 => ?_)
    have jv16 : -2147483648 ≤ v16.toInt ∧ v16.toInt ≤ 2147483647 := ⟨xi_lo _, Int.le_of_lt_add_one (xi_hi _)⟩
    refine lv_ior hx hb dX9_add_77 ?_
    refine lv_topi (fun v17 ev17 => ?_)
    have jv17 : -2147483648 ≤ v17.toInt ∧ v17.toInt ≤ 2147483647 := ⟨xi_lo _, Int.le_of_lt_add_one (xi_hi _)⟩
    refine h_putI (ty := .int) (v := v17) hx hb hts iX9 tyX9 tyX9_ok nmX9 hown g t_a0 (by decide) so_10 rfl 4 (by decide) rfl (hts (.fieldLink RX9 47 "CapLeague$Trade" "clubBits" "I") (by decide +kernel)) rfl rfl (by decide +kernel) rfl rfl dX9_add_78 (fun I18 H locs eI18 g => ?_)
    have hI := hI.wr eI18 t_a0 (rfl : h_bd 10 4 = ((-2147483648), 2147483647)) (xi_lo _) (Int.le_of_lt_add_one (xi_hi _))
    have hF := hF.wr eI18 t_a0 rfl
    refine lv_aload_n hx hb dX9_add_81 rfl (lv_at hl 0 rfl) ?_
    refine lv_dup hx hb dX9_add_82 rfl ?_
    refine h_get (v := .int v1) hx hb hts iX9 hown g t_a0 (by decide) so_10 rfl 3 (by decide) (hts (.fieldLink RX9 43 "CapLeague$Trade" "size" "I") (by decide +kernel)) rfl dX9_add_83 (congrArg Value.int ((h_n2 eI18 (by decide)).trans ((h_n1 eI12 t_a0 tb11 (by decide)).trans ((h_n1 eI10 t_a0 tb9 (by decide)).trans ((h_n1 eI8 t_a0 tb7 (by decide)).trans ((h_n1 eI6 t_a0 tb5 (by decide)).trans ((h_n1 eI4 t_a0 tb3 (by decide)).trans (ev1.symm)))))))) ?_
    refine lv_iconst (v := 1) hx hb dX9_add_86 (by decide) ?_
    refine lv_iadd hx hb dX9_add_87 ?_
    refine lv_topi (fun v19 ev19 => ?_)
    have jv19 : v19.toInt = v1.toInt + 1 := xi_add ev19 rfl (by decide) (by omega) (by omega)
    refine h_putI (ty := .int) (v := v19) hx hb hts iX9 tyX9 tyX9_ok nmX9 hown g t_a0 (by decide) so_10 rfl 3 (by decide) rfl (hts (.fieldLink RX9 43 "CapLeague$Trade" "size" "I") (by decide +kernel)) rfl rfl (by decide +kernel) rfl rfl dX9_add_88 (fun I20 H locs eI20 g => ?_)
    have hI := hI.wr eI20 t_a0 (rfl : h_bd 10 3 = (0, 12)) (by omega) (by omega)
    have hF := hF.wr eI20 t_a0 rfl
    refine lv_aload_n hx hb dX9_add_91 rfl (lv_at hl 0 rfl) ?_
    refine h_get (v := .int v19) hx hb hts iX9 hown g t_a0 (by decide) so_10 rfl 3 (by decide) (hts (.fieldLink RX9 43 "CapLeague$Trade" "size" "I") (by decide +kernel)) rfl dX9_add_92 (congrArg Value.int (h_n0 eI20)) ?_
    have hS := g.2.1
    exact W.iret (v := v19) hx hb hr (fun t ht hW => ⟨⟨v19, I20, rfl, ⟨hI, hF, trivial⟩, h_ret g ht⟩, hS.F ht⟩) hS.2.2 dX9_add_95
  · have ic2 := (xi_nlt c2 rfl (by decide) : 12 ≤ v1.toInt)
    refine lv_bipush (v := (-3)) hx hb dX9_add_9 (by decide) ?_
    have hS := g.2.1
    exact W.iret (v := (-3)) hx hb hr (fun t ht hW => ⟨⟨(-3), I0, rfl, ⟨hI, hF, trivial⟩, h_ret g ht⟩, hS.F ht⟩) hS.2.2 dX9_add_11
set_option maxHeartbeats 4000000 in
set_option maxRecDepth 100000 in
theorem tX9_addPlayerMove (l : Launch) (E : tE) (X : tX) (A : Nat → Prop) (z : tZ) (I0 : tI) (L0 : tL) (a0 : Nat) (t_a0 : z.ty a0 = 10) (x : Int32) (x_t : Int) (h_x : x.toInt = x_t) (c : Int32) (c_t : Int) (h_c : c.toInt = c_t) (d : Int32) (d_t : Int) (h_d : d.toInt = d_t) (b_d : 0 ≤ d_t ∧ d_t ≤ 7) : Met l yX9_addPlayerMove wsX9_addPlayerMove ({ frames := 2, cells := 0, slots := 0, locals := 128 }) (va_Pc [.ref a0, .int x, .int c, .int d] (h_P E X A z I0 L0)) (va_Qi (fun r (I1 : tI) => h_I z I1 ∧ h_F [(10, 3), (10, 4), (1006, 999), (1005, 999), (1007, 999), (1008, 999), (1009, 999)] z I0 I1 ∧ True) (fun (I1 : tI) t => h_B E A z I1 L0 t) A) 0 0 A := by
  refine Met.ofW (cc := cX9_addPlayerMove) (maxL := 4) (ret := (some .int)) (by decide) rfl ?_
  intro pr_ ev_ s m args below meth cd_ s₁ B hml hv
  obtain ⟨rfl, hE, hk, hX, hA, hK, hI, hR, hB0⟩ := hv
  have g : h_G h_so h_fk E A z I0 L0 s s.heap s.heap [] := ⟨hK, va_S.rf, hB0⟩
  have hF : h_F [(10, 3), (10, 4), (1006, 999), (1005, 999), (1007, 999), (1008, 999), (1009, 999)] z I0 I0 := h_F.rf
  have hx := B.exec
  have hb := B.bytes
  have hr := B.returns
  have hts := atoms_spec (ws := wsX9_addPlayerMove) B.pre
  have hown : s.vm.findClass RX9 = some m.cls := findClass_of_methodNamed B.named
  have hlocks := B.notSynchronized
  have hl := lv_entry ([.ref a0, .int x, .int c, .int d]) (n := 4) (Nat.le_of_ble_eq_true rfl)
  rw [lg_entry_eq]
  generalize (lg_sl ([.ref a0, .int x, .int c, .int d]) ++ List.replicate (4 - (lg_sl ([.ref a0, .int x, .int c, .int d])).length) Slot.unset).toArray = ls at hl ⊢
  have hl : lv_has ls 4 [(0, .ref a0), (1, .int x), (2, .int c), (3, .int d)] := hl
  have b_x : -2147483648 ≤ x_t ∧ x_t ≤ 2147483647 := h_x ▸ ⟨xi_lo x, Int.le_of_lt_add_one (xi_hi x)⟩
  have b_c : -2147483648 ≤ c_t ∧ c_t ≤ 2147483647 := h_c ▸ ⟨xi_lo c, Int.le_of_lt_add_one (xi_hi c)⟩
  refine lv_aload_n hx hb dX9_addPlayerMove_0 rfl (lv_at hl 0 rfl) ?_
  refine lv_iload_n hx hb dX9_addPlayerMove_1 rfl (lv_at hl 1 rfl) ?_
  refine lv_iconst (v := 0) hx hb dX9_addPlayerMove_2 (by decide) ?_
  refine lv_iload_n hx hb dX9_addPlayerMove_3 rfl (lv_at hl 2 rfl) ?_
  refine lv_iload_n hx hb dX9_addPlayerMove_4 rfl (lv_at hl 3 rfl) ?_
  refine lv_iconst (v := 0) hx hb dX9_addPlayerMove_5 (by decide) ?_
  refine va_calli (va_runV (As := [.int x, .int 0, .int c, .int d, .int 0]) (rest := []) ⟨hx, hb, hml, hown, hts⟩ (tX9_add l E X A z I0 L0 a0 t_a0 x (x_t) h_x 0 (0) (by decide) (by omega) c (c_t) h_c d (d_t) h_d (by omega) 0 (0) (by decide)) (cwV 5 hts gX9_addPlayerMove_X9_add rfl rfl rfl (by decide +kernel) ⟨Nat.le_of_ble_eq_true rfl, Nat.le_of_ble_eq_true rfl⟩) ⟨h_blind _ _ _ _ _ _ _, h_recv g t_a0 (by decide) so_10 (q := (RX9, TX9, 10)) rfl, h_pre _ hE hk hX hA hI hR g⟩ rfl rfl hl.1 rfl (lv_room (Nat.le_of_ble_eq_true rfl)) dX9_addPlayerMove_6 ⟨Nat.le_of_ble_eq_true rfl, Nat.le_of_ble_eq_true rfl⟩) g.2.1 (fun q _ h => h) (fun q h => h) (fun rh1 I2 t H1 locs ht hvm h1 hB hz1 hk1 hS => ?_)
  obtain ⟨hI, fh1, h1⟩ := h1
  replace g := h_after g hB ht hS
  generalize H1 = H at g
  clear hB hk1 hz1 ht hvm hS
  have hF := hF.call fh1 rfl
  have jrh1 : -2147483648 ≤ rh1.toInt ∧ rh1.toInt ≤ 2147483647 := ⟨xi_lo _, Int.le_of_lt_add_one (xi_hi _)⟩
  have hS := g.2.1
  exact W.iret (v := rh1) hx hb hr (fun t ht hW => ⟨⟨rh1, I2, rfl, ⟨hI, hF, trivial⟩, h_ret g ht⟩, hS.F ht⟩) hS.2.2 dX9_addPlayerMove_9
set_option maxHeartbeats 4000000 in
set_option maxRecDepth 100000 in
theorem tX9_addTurnMove (l : Launch) (E : tE) (X : tX) (A : Nat → Prop) (z : tZ) (I0 : tI) (L0 : tL) (a0 : Nat) (t_a0 : z.ty a0 = 10) (x : Int32) (x_t : Int) (h_x : x.toInt = x_t) (c : Int32) (c_t : Int) (h_c : c.toInt = c_t) (d : Int32) (d_t : Int) (h_d : d.toInt = d_t) (b_d : 0 ≤ d_t ∧ d_t ≤ 7) (k : Int32) (k_t : Int) (h_k : k.toInt = k_t) : Met l yX9_addTurnMove wsX9_addTurnMove ({ frames := 2, cells := 0, slots := 0, locals := 128 }) (va_Pc [.ref a0, .int x, .int c, .int d, .int k] (h_P E X A z I0 L0)) (va_Qi (fun r (I1 : tI) => h_I z I1 ∧ h_F [(10, 3), (10, 4), (1006, 999), (1005, 999), (1007, 999), (1008, 999), (1009, 999)] z I0 I1 ∧ True) (fun (I1 : tI) t => h_B E A z I1 L0 t) A) 0 0 A := by
  refine Met.ofW (cc := cX9_addTurnMove) (maxL := 5) (ret := (some .int)) (by decide) rfl ?_
  intro pr_ ev_ s m args below meth cd_ s₁ B hml hv
  obtain ⟨rfl, hE, hk, hX, hA, hK, hI, hR, hB0⟩ := hv
  have g : h_G h_so h_fk E A z I0 L0 s s.heap s.heap [] := ⟨hK, va_S.rf, hB0⟩
  have hF : h_F [(10, 3), (10, 4), (1006, 999), (1005, 999), (1007, 999), (1008, 999), (1009, 999)] z I0 I0 := h_F.rf
  have hx := B.exec
  have hb := B.bytes
  have hr := B.returns
  have hts := atoms_spec (ws := wsX9_addTurnMove) B.pre
  have hown : s.vm.findClass RX9 = some m.cls := findClass_of_methodNamed B.named
  have hlocks := B.notSynchronized
  have hl := lv_entry ([.ref a0, .int x, .int c, .int d, .int k]) (n := 5) (Nat.le_of_ble_eq_true rfl)
  rw [lg_entry_eq]
  generalize (lg_sl ([.ref a0, .int x, .int c, .int d, .int k]) ++ List.replicate (5 - (lg_sl ([.ref a0, .int x, .int c, .int d, .int k])).length) Slot.unset).toArray = ls at hl ⊢
  have hl : lv_has ls 5 [(0, .ref a0), (1, .int x), (2, .int c), (3, .int d), (4, .int k)] := hl
  have b_x : -2147483648 ≤ x_t ∧ x_t ≤ 2147483647 := h_x ▸ ⟨xi_lo x, Int.le_of_lt_add_one (xi_hi x)⟩
  have b_c : -2147483648 ≤ c_t ∧ c_t ≤ 2147483647 := h_c ▸ ⟨xi_lo c, Int.le_of_lt_add_one (xi_hi c)⟩
  have b_k : -2147483648 ≤ k_t ∧ k_t ≤ 2147483647 := h_k ▸ ⟨xi_lo k, Int.le_of_lt_add_one (xi_hi k)⟩
  refine lv_aload_n hx hb dX9_addTurnMove_0 rfl (lv_at hl 0 rfl) ?_
  refine lv_iload_n hx hb dX9_addTurnMove_1 rfl (lv_at hl 1 rfl) ?_
  refine lv_iconst (v := 1) hx hb dX9_addTurnMove_2 (by decide) ?_
  refine lv_iload_n hx hb dX9_addTurnMove_3 rfl (lv_at hl 2 rfl) ?_
  refine lv_iload_n hx hb dX9_addTurnMove_4 rfl (lv_at hl 3 rfl) ?_
  refine lv_iload hx hb dX9_addTurnMove_5 (lv_at hl 4 rfl) ?_
  refine va_calli (va_runV (As := [.int x, .int 1, .int c, .int d, .int k]) (rest := []) ⟨hx, hb, hml, hown, hts⟩ (tX9_add l E X A z I0 L0 a0 t_a0 x (x_t) h_x 1 (1) (by decide) (by omega) c (c_t) h_c d (d_t) h_d (by omega) k (k_t) h_k) (cwV 5 hts gX9_addTurnMove_X9_add rfl rfl rfl (by decide +kernel) ⟨Nat.le_of_ble_eq_true rfl, Nat.le_of_ble_eq_true rfl⟩) ⟨h_blind _ _ _ _ _ _ _, h_recv g t_a0 (by decide) so_10 (q := (RX9, TX9, 10)) rfl, h_pre _ hE hk hX hA hI hR g⟩ rfl rfl hl.1 rfl (lv_room (Nat.le_of_ble_eq_true rfl)) dX9_addTurnMove_7 ⟨Nat.le_of_ble_eq_true rfl, Nat.le_of_ble_eq_true rfl⟩) g.2.1 (fun q _ h => h) (fun q h => h) (fun rh1 I2 t H1 locs ht hvm h1 hB hz1 hk1 hS => ?_)
  obtain ⟨hI, fh1, h1⟩ := h1
  replace g := h_after g hB ht hS
  generalize H1 = H at g
  clear hB hk1 hz1 ht hvm hS
  have hF := hF.call fh1 rfl
  have jrh1 : -2147483648 ≤ rh1.toInt ∧ rh1.toInt ≤ 2147483647 := ⟨xi_lo _, Int.le_of_lt_add_one (xi_hi _)⟩
  have hS := g.2.1
  exact W.iret (v := rh1) hx hb hr (fun t ht hW => ⟨⟨rh1, I2, rfl, ⟨hI, hF, trivial⟩, h_ret g ht⟩, hS.F ht⟩) hS.2.2 dX9_addTurnMove_10
set_option maxHeartbeats 4000000 in
set_option maxRecDepth 100000 in
theorem tX9_faultFor (l : Launch) (E : tE) (X : tX) (A : Nat → Prop) (z : tZ) (I0 : tI) (L0 : tL) (a0 : Nat) (t_a0 : z.ty a0 = 10) (c : Int32) (c_t : Int) (h_c : c.toInt = c_t) : Met l yX9_faultFor wsX9_faultFor ({ frames := 5, cells := 0, slots := 0, locals := 320 }) (va_Pc [.ref a0, .int c] (h_P E X A z I0 L0)) (va_Qi (fun r (I1 : tI) => h_I z I1 ∧ h_F [(2, 0), (2, 1), (2, 2), (2, 3)] z I0 I1 ∧ True) (fun (I1 : tI) t => h_B E A z I1 L0 t) A) 0 0 A := by
  refine Met.ofW (cc := cX9_faultFor) (maxL := 4) (ret := (some .int)) (by decide) rfl ?_
  intro pr_ ev_ s m args below meth cd_ s₁ B hml hv
  obtain ⟨rfl, hE, hk, hX, hA, hK, hI, hR, hB0⟩ := hv
  have g : h_G h_so h_fk E A z I0 L0 s s.heap s.heap [] := ⟨hK, va_S.rf, hB0⟩
  have hF : h_F [(2, 0), (2, 1), (2, 2), (2, 3)] z I0 I0 := h_F.rf
  have hx := B.exec
  have hb := B.bytes
  have hr := B.returns
  have hts := atoms_spec (ws := wsX9_faultFor) B.pre
  have hown : s.vm.findClass RX9 = some m.cls := findClass_of_methodNamed B.named
  have hlocks := B.notSynchronized
  have iX9 : ∀ w ∈ u_ws RX9 TX9 10, w ∈ wsX9_faultFor := by decide +kernel
  have iX0 : ∀ w ∈ u_ws RX0 TX0 9, w ∈ wsX9_faultFor := by decide +kernel
  have hl := lv_entry ([.ref a0, .int c]) (n := 4) (Nat.le_of_ble_eq_true rfl)
  rw [lg_entry_eq]
  generalize (lg_sl ([.ref a0, .int c]) ++ List.replicate (4 - (lg_sl ([.ref a0, .int c])).length) Slot.unset).toArray = ls at hl ⊢
  have hl : lv_has ls 4 [(0, .ref a0), (1, .int c)] := hl
  have b_c : -2147483648 ≤ c_t ∧ c_t ≤ 2147483647 := h_c ▸ ⟨xi_lo c, Int.le_of_lt_add_one (xi_hi c)⟩
  refine lv_aload_n hx hb dX9_faultFor_0 rfl (lv_at hl 0 rfl) ?_
  obtain ⟨b1, rb1, tb1⟩ := hR.at a0 2 t_a0 (rfl : h_rs 10 2 = some (2, false)) (by decide)
  refine h_get (v := .ref b1) hx hb hts iX9 hown g t_a0 (by decide) so_10 rfl 2 (by decide) (hts (.fieldLink RX9 12 "CapLeague$Trade" "change" "LCapLeague$Change;") (by decide +kernel)) rfl dX9_faultFor_1 (by show va_rf (z.R a0 2) = _; rw [rb1]; rfl) ?_
  refine va_callv (va_runV (As := []) (rest := []) ⟨hx, hb, hml, hown, hts⟩ (tX1_clear l E X A z I0 L0 b1 tb1) (cwV 0 hts gX9_faultFor_X1_clear rfl rfl rfl (by decide +kernel) ⟨Nat.le_of_ble_eq_true rfl, Nat.le_of_ble_eq_true rfl⟩) ⟨h_blind _ _ _ _ _ _ _, h_recv g tb1 (by decide) so_2 (q := (RX1, TX1, 4)) rfl, h_pre _ hE hk hX hA hI hR g⟩ rfl rfl hl.1 rfl (lv_room (Nat.le_of_ble_eq_true rfl)) dX9_faultFor_4 ⟨Nat.le_of_ble_eq_true rfl, Nat.le_of_ble_eq_true rfl⟩) g.2.1 (fun q _ h => h) (fun q h => h) (fun I3 t H1 locs ht hvm h2 hB hz1 hk1 hS => ?_)
  obtain ⟨hI, fh2, h2⟩ := h2
  replace g := h_after g hB ht hS
  generalize H1 = H at g
  clear hB hk1 hz1 ht hvm hS
  have hF := hF.call fh2 rfl
  refine lv_iconst (v := 0) hx hb dX9_faultFor_7 (by decide) ?_
  refine lv_istore_n (lv' := [(2, .int 0), (0, .ref a0), (1, .int c)]) hx hb dX9_faultFor_8 rfl hl (by decide) rfl (fun ls hl => ?_)
  have loop9_0 : ∀ (n : Nat) (I5 : tI) (H : Heap) (locs : List Loc) (ls : Array Slot) (v4 : Int32), h_G h_so h_fk E A z I5 L0 s s.heap H locs → h_I z I5 → h_F [(2, 0), (2, 1), (2, 2), (2, 3)] z I0 I5 → lv_has ls 4 [(0, .ref a0), (1, .int c), (2, .int v4)] → (0 ≤ v4.toInt ∧ v4.toInt ≤ 12) → (12 - v4.toInt) < (n : Int) → W pr_ l ev_ (headSpec wsX9_faultFor ({ frames := 5, cells := 0, slots := 0, locals := 320 })).room s m ([.ref a0, .int c] : List Value).toArray below meth cd_ H locs 0 0 (MQ below (va_Qi (fun r (I1 : tI) => h_I z I1 ∧ h_F [(2, 0), (2, 1), (2, 2), (2, 3)] z I0 I1 ∧ True) (fun (I1 : tI) t => h_B E A z I1 L0 t) A) ([.ref a0, .int c] : List Value).toArray s 0 0 A) (F0 m 9 ls []) := by
    intro n
    induction n with
    | zero => intro I5 H locs ls v4 g hI hF hl jv4 hn; exact absurd hn (by omega)
    | succ n ih9 =>
      intro I5 H locs ls v4 g hI hF hl jv4 hn
      refine lv_iload_n hx hb dX9_faultFor_9 rfl (lv_at hl 2 rfl) ?_
      refine lv_aload_n hx hb dX9_faultFor_10 rfl (lv_at hl 0 rfl) ?_
      refine h_get (v := .int (I5 a0 3)) hx hb hts iX9 hown g t_a0 (by decide) so_10 rfl 3 (by decide) (hts (.fieldLink RX9 43 "CapLeague$Trade" "size" "I") (by decide +kernel)) rfl dX9_faultFor_11 rfl ?_
      refine lv_topi (fun v6 ev6 => ?_)
      have jv6 := hI.rd a0 3 t_a0 ev6 (rfl : h_bd 10 3 = (0, 12))
      refine lv_icmp_ge (tgt := 147) hx hb dX9_faultFor_14 (by decide) (fun c7 => ?_) (fun c7 => ?_)
      · have ic7 := (xi_le c7 rfl rfl : v6.toInt ≤ v4.toInt)
        refine lv_aload_n hx hb dX9_faultFor_147 rfl (lv_at hl 0 rfl) ?_
        obtain ⟨b8, rb8, tb8⟩ := hR.at a0 0 t_a0 (rfl : h_rs 10 0 = some (1, false)) (by decide)
        refine h_get (v := .ref b8) hx hb hts iX9 hown g t_a0 (by decide) so_10 rfl 0 (by decide) (hts (.fieldLink RX9 35 "CapLeague$Trade" "books" "LCapLeague$Books;") (by decide +kernel)) rfl dX9_faultFor_148 (by show va_rf (z.R a0 0) = _; rw [rb8]; rfl) ?_
        refine lv_iload_n hx hb dX9_faultFor_151 rfl (lv_at hl 1 rfl) ?_
        refine lv_aload_n hx hb dX9_faultFor_152 rfl (lv_at hl 0 rfl) ?_
        refine h_get (v := .ref b8) hx hb hts iX9 hown g t_a0 (by decide) so_10 rfl 0 (by decide) (hts (.fieldLink RX9 35 "CapLeague$Trade" "books" "LCapLeague$Books;") (by decide +kernel)) rfl dX9_faultFor_153 (by show va_rf (z.R a0 0) = _; rw [rb8]; rfl) ?_
        refine h_get (v := .int (I5 b8 3)) hx hb hts iX0 hown g tb8 (by decide) so_1 rfl 3 (by decide) (hts (.fieldLink RX9 76 "CapLeague$Books" "clock" "I") (by decide +kernel)) rfl dX9_faultFor_156 rfl ?_
        refine lv_topi (fun v9 ev9 => ?_)
        have jv9 := hI.rd b8 3 tb8 ev9 (rfl : h_bd 1 3 = (0, 9))
        refine vp_callSi (W.runV (As := [.int c, .int v9]) (rest := []) ⟨hx, hb, hml, hown, hts⟩ (tX0_playersIn l E X A z I5 L0 b8 tb8 c (c_t) h_c v9 (v9.toInt) rfl) (cwV 2 hts gX9_faultFor_X0_playersIn rfl rfl rfl (by decide +kernel) ⟨Nat.le_of_ble_eq_true rfl, Nat.le_of_ble_eq_true rfl⟩) ⟨h_blind _ _ _ _ _ _ _, h_recv g tb8 (by decide) so_1 (q := (RX0, TX0, 9)) rfl, h_pre _ hE hk hX hA hI hR g⟩ rfl rfl hl.1 rfl (lv_room (Nat.le_of_ble_eq_true rfl)) dX9_faultFor_159 ⟨Nat.le_of_ble_eq_true rfl, Nat.le_of_ble_eq_true rfl⟩) (fun rh10 h10 => ?_)
        have jrh10 : -2147483648 ≤ rh10.toInt ∧ rh10.toInt ≤ 2147483647 := ⟨xi_lo _, Int.le_of_lt_add_one (xi_hi _)⟩
        refine lv_istore_n (lv' := [(2, .int rh10), (0, .ref a0), (1, .int c)]) hx hb dX9_faultFor_162 rfl hl (by decide) rfl (fun ls hl => ?_)
        refine lv_aload_n hx hb dX9_faultFor_163 rfl (lv_at hl 1 rfl) ?_
        refine h_get (v := .ref b1) hx hb hts iX9 hown g t_a0 (by decide) so_10 rfl 2 (by decide) (hts (.fieldLink RX9 12 "CapLeague$Trade" "change" "LCapLeague$Change;") (by decide +kernel)) rfl dX9_faultFor_164 (by show va_rf (z.R a0 2) = _; rw [rb1]; rfl) ?_
        refine lv_iload_n hx hb dX9_faultFor_167 rfl (lv_at hl 0 rfl) ?_
        refine lv_aload_n hx hb dX9_faultFor_168 rfl (lv_at hl 1 rfl) ?_
        refine h_get (v := .ref b8) hx hb hts iX9 hown g t_a0 (by decide) so_10 rfl 0 (by decide) (hts (.fieldLink RX9 35 "CapLeague$Trade" "books" "LCapLeague$Books;") (by decide +kernel)) rfl dX9_faultFor_169 (by show va_rf (z.R a0 0) = _; rw [rb8]; rfl) ?_
        refine lv_iload_n hx hb dX9_faultFor_172 rfl (lv_at hl 2 rfl) ?_
        refine lv_aload_n hx hb dX9_faultFor_173 rfl (lv_at hl 1 rfl) ?_
        refine h_get (v := .ref b8) hx hb hts iX9 hown g t_a0 (by decide) so_10 rfl 0 (by decide) (hts (.fieldLink RX9 35 "CapLeague$Trade" "books" "LCapLeague$Books;") (by decide +kernel)) rfl dX9_faultFor_174 (by show va_rf (z.R a0 0) = _; rw [rb8]; rfl) ?_
        refine h_get (v := .int v9) hx hb hts iX0 hown g tb8 (by decide) so_1 rfl 3 (by decide) (hts (.fieldLink RX9 76 "CapLeague$Books" "clock" "I") (by decide +kernel)) rfl dX9_faultFor_177 (congrArg Value.int (ev9.symm)) ?_
        refine vp_callSi (W.runV (As := [.int c, .int v9]) (rest := [.int rh10, .ref b1]) ⟨hx, hb, hml, hown, hts⟩ (tX0_counts l E X A z I5 L0 b8 tb8 c (c_t) h_c v9 (v9.toInt) rfl) (cwV 2 hts gX9_faultFor_X0_counts rfl rfl rfl (by decide +kernel) ⟨Nat.le_of_ble_eq_true rfl, Nat.le_of_ble_eq_true rfl⟩) ⟨h_blind _ _ _ _ _ _ _, h_recv g tb8 (by decide) so_1 (q := (RX0, TX0, 9)) rfl, h_pre _ hE hk hX hA hI hR g⟩ rfl rfl hl.1 rfl (lv_room (Nat.le_of_ble_eq_true rfl)) dX9_faultFor_180 ⟨Nat.le_of_ble_eq_true rfl, Nat.le_of_ble_eq_true rfl⟩) (fun rh11 h11 => ?_)
        have jrh11 : -2147483648 ≤ rh11.toInt ∧ rh11.toInt ≤ 2147483647 := ⟨xi_lo _, Int.le_of_lt_add_one (xi_hi _)⟩
        refine lv_aload_n hx hb dX9_faultFor_183 rfl (lv_at hl 1 rfl) ?_
        refine h_get (v := .ref b8) hx hb hts iX9 hown g t_a0 (by decide) so_10 rfl 0 (by decide) (hts (.fieldLink RX9 35 "CapLeague$Trade" "books" "LCapLeague$Books;") (by decide +kernel)) rfl dX9_faultFor_184 (by show va_rf (z.R a0 0) = _; rw [rb8]; rfl) ?_
        refine va_csq (W.runV (As := []) (rest := [.int rh11, .int rh10, .ref b1]) ⟨hx, hb, hml, hown, hts⟩ (tX0_lawsNow l E X A z I5 L0 b8 tb8) (cwV 0 hts gX9_faultFor_X0_lawsNow rfl rfl rfl (by decide +kernel) ⟨Nat.le_of_ble_eq_true rfl, Nat.le_of_ble_eq_true rfl⟩) ⟨h_blind _ _ _ _ _ _ _, h_recv g tb8 (by decide) so_1 (q := (RX0, TX0, 9)) rfl, h_pre _ hE hk hX hA hI hR g⟩ rfl rfl hl.1 rfl (lv_room (Nat.le_of_ble_eq_true rfl)) dX9_faultFor_187 ⟨Nat.le_of_ble_eq_true rfl, Nat.le_of_ble_eq_true rfl⟩) (fun rh12 h12 => ?_)
        obtain ⟨rh12, rfl, trh12⟩ := h12
        refine xw_v (v := .ref rh12) rfl ?_
        refine vp_callSi (W.runV (As := [.int rh10, .int rh11, .ref rh12]) (rest := []) ⟨hx, hb, hml, hown, hts⟩ (tX1_faultFor l E X A z I5 L0 b1 tb1 rh10 (rh10.toInt) rfl rh11 (rh11.toInt) rfl rh12 trh12) (cwV 3 hts gX9_faultFor_X1_faultFor rfl rfl rfl (by decide +kernel) ⟨Nat.le_of_ble_eq_true rfl, Nat.le_of_ble_eq_true rfl⟩) ⟨h_blind _ _ _ _ _ _ _, h_recv g tb1 (by decide) so_2 (q := (RX1, TX1, 4)) rfl, h_pre _ hE hk hX hA hI hR g⟩ rfl rfl hl.1 rfl (lv_room (Nat.le_of_ble_eq_true rfl)) dX9_faultFor_190 ⟨Nat.le_of_ble_eq_true rfl, Nat.le_of_ble_eq_true rfl⟩) (fun rh13 h13 => ?_)
        have jrh13 : -2147483648 ≤ rh13.toInt ∧ rh13.toInt ≤ 2147483647 := ⟨xi_lo _, Int.le_of_lt_add_one (xi_hi _)⟩
        have hS := g.2.1
        exact W.iret (v := rh13) hx hb hr (fun t ht hW => ⟨⟨rh13, I5, rfl, ⟨hI, hF, trivial⟩, h_ret g ht⟩, hS.F ht⟩) hS.2.2 dX9_faultFor_193
      · have ic7 := (xi_nle c7 rfl rfl : v4.toInt < v6.toInt)
        refine lv_aload_n hx hb dX9_faultFor_17 rfl (lv_at hl 0 rfl) ?_
        obtain ⟨b14, rb14, tb14⟩ := hR.at a0 5 t_a0 (rfl : h_rs 10 5 = some (1005, false)) (by decide)
        refine h_get (v := .ref b14) hx hb hts iX9 hown g t_a0 (by decide) so_10 rfl 5 (by decide) (hts (.fieldLink RX9 18 "CapLeague$Trade" "isTurn" "[Z") (by decide +kernel)) rfl dX9_faultFor_18 (by show va_rf (z.R a0 5) = _; rw [rb14]; rfl) ?_
        refine lv_iload_n hx hb dX9_faultFor_21 rfl (lv_at hl 2 rfl) ?_
        refine h_zald hx hb g tb14 (by decide) so_1005 (xi_in (by omega) (by omega)) dX9_faultFor_22 ?_
        refine lv_topi (fun v15 ev15 => ?_)
        have jv15 := hI.rd b14 v4.toNatClampNeg tb14 ev15 (rfl : h_bd 1005 _ = (0, 1))
        refine lv_if_eq (tgt := 30) hx hb dX9_faultFor_23 (by decide) (fun c16 => ?_) (fun c16 => ?_)
        · have ic16 := (xi_eq c16 rfl (by decide) : v15.toInt = 0)
          refine lv_aload_n hx hb dX9_faultFor_30 rfl (lv_at hl 0 rfl) ?_
          obtain ⟨b17, rb17, tb17⟩ := hR.at a0 0 t_a0 (rfl : h_rs 10 0 = some (1, false)) (by decide)
          refine h_get (v := .ref b17) hx hb hts iX9 hown g t_a0 (by decide) so_10 rfl 0 (by decide) (hts (.fieldLink RX9 35 "CapLeague$Trade" "books" "LCapLeague$Books;") (by decide +kernel)) rfl dX9_faultFor_31 (by show va_rf (z.R a0 0) = _; rw [rb17]; rfl) ?_
          refine lv_aload_n hx hb dX9_faultFor_34 rfl (lv_at hl 0 rfl) ?_
          obtain ⟨b18, rb18, tb18⟩ := hR.at a0 6 t_a0 (rfl : h_rs 10 6 = some (1006, false)) (by decide)
          refine h_get (v := .ref b18) hx hb hts iX9 hown g t_a0 (by decide) so_10 rfl 6 (by decide) (hts (.fieldLink RX9 22 "CapLeague$Trade" "thing" "[I") (by decide +kernel)) rfl dX9_faultFor_35 (by show va_rf (z.R a0 6) = _; rw [rb18]; rfl) ?_
          refine lv_iload_n hx hb dX9_faultFor_38 rfl (lv_at hl 2 rfl) ?_
          refine h_ald hx hb g tb18 (by decide) so_1006 (xi_in (by omega) (by omega)) dX9_faultFor_39 ?_
          refine lv_topi (fun v19 ev19 => ?_)
          have jv19 := hI.rd b18 v4.toNatClampNeg tb18 ev19 (rfl : h_bd 1006 _ = ((-2147483648), 2147483647))
          refine va_csq (W.runV (As := [.int v19]) (rest := []) ⟨hx, hb, hml, hown, hts⟩ (tX0_playerAt l E X A z I5 L0 b17 tb17 v19 (v19.toInt) rfl) (cwV 1 hts gX9_faultFor_X0_playerAt rfl rfl rfl (by decide +kernel) ⟨Nat.le_of_ble_eq_true rfl, Nat.le_of_ble_eq_true rfl⟩) ⟨h_blind _ _ _ _ _ _ _, h_recv g tb17 (by decide) so_1 (q := (RX0, TX0, 9)) rfl, h_pre _ hE hk hX hA hI hR g⟩ rfl rfl hl.1 rfl (lv_room (Nat.le_of_ble_eq_true rfl)) dX9_faultFor_40 ⟨Nat.le_of_ble_eq_true rfl, Nat.le_of_ble_eq_true rfl⟩) (fun rh20 h20 => ?_)
          rcases h20 with rfl | ⟨rh20, rfl, trh20⟩
          · refine xw_v (v := .null) rfl ?_
            refine lv_astore_nN (lv' := [(3, .null), (0, .ref a0), (1, .int c), (2, .int v4)]) hx hb dX9_faultFor_43 rfl hl (by decide) rfl (fun ls hl => ?_)
            refine lv_aload_nN hx hb dX9_faultFor_44 rfl (lv_at hl 0 rfl) ?_
            refine lv_ifnullN (tgt := 94) hx hb dX9_faultFor_45 (by decide) ?_
            refine lv_aload_nN hx hb dX9_faultFor_94 rfl (lv_at hl 0 rfl) ?_
            refine lv_ifnullN (tgt := 141) hx hb dX9_faultFor_95 (by decide) ?_
            obtain ⟨v21, ev21⟩ : ∃ z : Int32, z = v4 + 1 := ⟨_, rfl⟩
            have jv21 : v21.toInt = v4.toInt + 1 := xi_add ev21 rfl (by decide) (by omega) (by omega)
            refine lv_iinc (v := v21) (lv' := [(2, .int v21), (3, .null), (0, .ref a0), (1, .int c)]) hx hb dX9_faultFor_141 hl (k := 3) rfl (by rw [ev21]; rfl) (by decide) rfl (fun ls hl => ?_)
            refine lv_goto (tgt := 9) hx hb dX9_faultFor_144 (by decide) ?_
            exact ih9 I5 _ _ _ v21 g hI hF (lv_sub hl [2, 3, 0] rfl) (by omega) (by omega)
          · refine xw_v (v := .ref rh20) rfl ?_
            refine lv_astore_n (lv' := [(3, .ref rh20), (0, .ref a0), (1, .int c), (2, .int v4)]) hx hb dX9_faultFor_43 rfl hl (by decide) rfl (fun ls hl => ?_)
            refine lv_aload_n hx hb dX9_faultFor_44 rfl (lv_at hl 0 rfl) ?_
            refine lv_ifnull hx hb dX9_faultFor_45 ?_
            refine lv_aload_n hx hb dX9_faultFor_48 rfl (lv_at hl 1 rfl) ?_
            obtain ⟨b22, rb22, tb22⟩ := hR.at a0 8 t_a0 (rfl : h_rs 10 8 = some (1008, false)) (by decide)
            refine h_get (v := .ref b22) hx hb hts iX9 hown g t_a0 (by decide) so_10 rfl 8 (by decide) (hts (.fieldLink RX9 29 "CapLeague$Trade" "to" "[I") (by decide +kernel)) rfl dX9_faultFor_49 (by show va_rf (z.R a0 8) = _; rw [rb22]; rfl) ?_
            refine lv_iload_n hx hb dX9_faultFor_52 rfl (lv_at hl 3 rfl) ?_
            refine h_ald hx hb g tb22 (by decide) so_1008 (xi_in (by omega) (by omega)) dX9_faultFor_53 ?_
            refine lv_topi (fun v23 ev23 => ?_)
            have jv23 := hI.rd b22 v4.toNatClampNeg tb22 ev23 (rfl : h_bd 1008 _ = (0, 7))
            refine lv_iload_n hx hb dX9_faultFor_54 rfl (lv_at hl 2 rfl) ?_
            refine lv_icmp_ne (tgt := 94) hx hb dX9_faultFor_55 (by decide) (fun c24 => ?_) (fun c24 => ?_)
            · have ic24 := (xi_ne c24 rfl h_c : v23.toInt ≠ c_t)
              refine lv_aload_n hx hb dX9_faultFor_94 rfl (lv_at hl 0 rfl) ?_
              refine lv_ifnull hx hb dX9_faultFor_95 ?_
              refine lv_aload_n hx hb dX9_faultFor_98 rfl (lv_at hl 1 rfl) ?_
              obtain ⟨b25, rb25, tb25⟩ := hR.at a0 7 t_a0 (rfl : h_rs 10 7 = some (1007, false)) (by decide)
              refine h_get (v := .ref b25) hx hb hts iX9 hown g t_a0 (by decide) so_10 rfl 7 (by decide) (hts (.fieldLink RX9 26 "CapLeague$Trade" "from" "[I") (by decide +kernel)) rfl dX9_faultFor_99 (by show va_rf (z.R a0 7) = _; rw [rb25]; rfl) ?_
              refine lv_iload_n hx hb dX9_faultFor_102 rfl (lv_at hl 3 rfl) ?_
              refine h_ald hx hb g tb25 (by decide) so_1007 (xi_in (by omega) (by omega)) dX9_faultFor_103 ?_
              refine lv_topi (fun v26 ev26 => ?_)
              have jv26 := hI.rd b25 v4.toNatClampNeg tb25 ev26 (rfl : h_bd 1007 _ = ((-2147483648), 2147483647))
              refine lv_iload_n hx hb dX9_faultFor_104 rfl (lv_at hl 2 rfl) ?_
              refine lv_icmp_ne (tgt := 141) hx hb dX9_faultFor_105 (by decide) (fun c27 => ?_) (fun c27 => ?_)
              · have ic27 := (xi_ne c27 rfl h_c : v26.toInt ≠ c_t)
                obtain ⟨v28, ev28⟩ : ∃ z : Int32, z = v4 + 1 := ⟨_, rfl⟩
                have jv28 : v28.toInt = v4.toInt + 1 := xi_add ev28 rfl (by decide) (by omega) (by omega)
                refine lv_iinc (v := v28) (lv' := [(2, .int v28), (3, .ref rh20), (0, .ref a0), (1, .int c)]) hx hb dX9_faultFor_141 hl (k := 3) rfl (by rw [ev28]; rfl) (by decide) rfl (fun ls hl => ?_)
                refine lv_goto (tgt := 9) hx hb dX9_faultFor_144 (by decide) ?_
                exact ih9 I5 _ _ _ v28 g hI hF (lv_sub hl [2, 3, 0] rfl) (by omega) (by omega)
              · have ic27 := (xi_eq c27 rfl h_c : v26.toInt = c_t)
                refine lv_aload_n hx hb dX9_faultFor_108 rfl (lv_at hl 1 rfl) ?_
                refine h_get (v := .ref b1) hx hb hts iX9 hown g t_a0 (by decide) so_10 rfl 2 (by decide) (hts (.fieldLink RX9 12 "CapLeague$Trade" "change" "LCapLeague$Change;") (by decide +kernel)) rfl dX9_faultFor_109 (by show va_rf (z.R a0 2) = _; rw [rb1]; rfl) ?_
                refine lv_aload_n hx hb dX9_faultFor_112 rfl (lv_at hl 0 rfl) ?_
                refine lv_aload_n hx hb dX9_faultFor_113 rfl (lv_at hl 1 rfl) ?_
                refine h_get (v := .ref b17) hx hb hts iX9 hown g t_a0 (by decide) so_10 rfl 0 (by decide) (hts (.fieldLink RX9 35 "CapLeague$Trade" "books" "LCapLeague$Books;") (by decide +kernel)) rfl dX9_faultFor_114 (by show va_rf (z.R a0 0) = _; rw [rb17]; rfl) ?_
                refine h_get (v := .int (I5 b17 3)) hx hb hts iX0 hown g tb17 (by decide) so_1 rfl 3 (by decide) (hts (.fieldLink RX9 76 "CapLeague$Books" "clock" "I") (by decide +kernel)) rfl dX9_faultFor_117 rfl ?_
                refine lv_topi (fun v29 ev29 => ?_)
                have jv29 := hI.rd b17 3 tb17 ev29 (rfl : h_bd 1 3 = (0, 9))
                refine vp_callSi (W.runV (As := [.int v29]) (rest := [.ref b1]) ⟨hx, hb, hml, hown, hts⟩ (tX6_payIn l E X A z I5 L0 rh20 trh20 v29 (v29.toInt) rfl) (cwV 1 hts gX9_faultFor_X6_payIn rfl rfl rfl (by decide +kernel) ⟨Nat.le_of_ble_eq_true rfl, Nat.le_of_ble_eq_true rfl⟩) ⟨h_blind _ _ _ _ _ _ _, h_recv g trh20 (by decide) so_7 (q := (RX6, TX6, 9)) rfl, h_pre _ hE hk hX hA hI hR g⟩ rfl rfl hl.1 rfl (lv_room (Nat.le_of_ble_eq_true rfl)) dX9_faultFor_120 ⟨Nat.le_of_ble_eq_true rfl, Nat.le_of_ble_eq_true rfl⟩) (fun rh30 h30 => ?_)
                have jrh30 : -2147483648 ≤ rh30.toInt ∧ rh30.toInt ≤ 2147483647 := ⟨xi_lo _, Int.le_of_lt_add_one (xi_hi _)⟩
                refine lv_aload_n hx hb dX9_faultFor_123 rfl (lv_at hl 1 rfl) ?_
                refine h_get (v := .ref b17) hx hb hts iX9 hown g t_a0 (by decide) so_10 rfl 0 (by decide) (hts (.fieldLink RX9 35 "CapLeague$Trade" "books" "LCapLeague$Books;") (by decide +kernel)) rfl dX9_faultFor_124 (by show va_rf (z.R a0 0) = _; rw [rb17]; rfl) ?_
                refine lv_aload_n hx hb dX9_faultFor_127 rfl (lv_at hl 0 rfl) ?_
                refine lv_aload_n hx hb dX9_faultFor_128 rfl (lv_at hl 1 rfl) ?_
                refine h_get (v := .ref b17) hx hb hts iX9 hown g t_a0 (by decide) so_10 rfl 0 (by decide) (hts (.fieldLink RX9 35 "CapLeague$Trade" "books" "LCapLeague$Books;") (by decide +kernel)) rfl dX9_faultFor_129 (by show va_rf (z.R a0 0) = _; rw [rb17]; rfl) ?_
                refine h_get (v := .int v29) hx hb hts iX0 hown g tb17 (by decide) so_1 rfl 3 (by decide) (hts (.fieldLink RX9 76 "CapLeague$Books" "clock" "I") (by decide +kernel)) rfl dX9_faultFor_132 (congrArg Value.int (ev29.symm)) ?_
                refine vp_callSi (W.runV (As := [.ref rh20, .int v29]) (rest := [.int rh30, .ref b1]) ⟨hx, hb, hml, hown, hts⟩ (tX0_countOf l E X A z I5 L0 b17 tb17 rh20 trh20 v29 (v29.toInt) rfl) (cwV 2 hts gX9_faultFor_X0_countOf rfl rfl rfl (by decide +kernel) ⟨Nat.le_of_ble_eq_true rfl, Nat.le_of_ble_eq_true rfl⟩) ⟨h_blind _ _ _ _ _ _ _, h_recv g tb17 (by decide) so_1 (q := (RX0, TX0, 9)) rfl, h_pre _ hE hk hX hA hI hR g⟩ rfl rfl hl.1 rfl (lv_room (Nat.le_of_ble_eq_true rfl)) dX9_faultFor_135 ⟨Nat.le_of_ble_eq_true rfl, Nat.le_of_ble_eq_true rfl⟩) (fun rh31 h31 => ?_)
                have jrh31 : -2147483648 ≤ rh31.toInt ∧ rh31.toInt ≤ 2147483647 := ⟨xi_lo _, Int.le_of_lt_add_one (xi_hi _)⟩
                refine va_callv (va_runV (As := [.int rh30, .int rh31]) (rest := []) ⟨hx, hb, hml, hown, hts⟩ (tX1_goes l E X A z I5 L0 b1 tb1 rh30 (rh30.toInt) rfl rh31 (rh31.toInt) rfl) (cwV 2 hts gX9_faultFor_X1_goes rfl rfl rfl (by decide +kernel) ⟨Nat.le_of_ble_eq_true rfl, Nat.le_of_ble_eq_true rfl⟩) ⟨h_blind _ _ _ _ _ _ _, h_recv g tb1 (by decide) so_2 (q := (RX1, TX1, 4)) rfl, h_pre _ hE hk hX hA hI hR g⟩ rfl rfl hl.1 rfl (lv_room (Nat.le_of_ble_eq_true rfl)) dX9_faultFor_138 ⟨Nat.le_of_ble_eq_true rfl, Nat.le_of_ble_eq_true rfl⟩) g.2.1 (fun q _ h => h) (fun q h => h) (fun I33 t H1 locs ht hvm h32 hB hz1 hk1 hS => ?_)
                obtain ⟨hI, fh32, h32⟩ := h32
                replace g := h_after g hB ht hS
                generalize H1 = H at g
                clear hB hk1 hz1 ht hvm hS
                have hF := hF.call fh32 rfl
                obtain ⟨v34, ev34⟩ : ∃ z : Int32, z = v4 + 1 := ⟨_, rfl⟩
                have jv34 : v34.toInt = v4.toInt + 1 := xi_add ev34 rfl (by decide) (by omega) (by omega)
                refine lv_iinc (v := v34) (lv' := [(2, .int v34), (3, .ref rh20), (0, .ref a0), (1, .int c)]) hx hb dX9_faultFor_141 hl (k := 3) rfl (by rw [ev34]; rfl) (by decide) rfl (fun ls hl => ?_)
                refine lv_goto (tgt := 9) hx hb dX9_faultFor_144 (by decide) ?_
                exact ih9 I33 _ _ _ v34 g hI hF (lv_sub hl [2, 3, 0] rfl) (by omega) (by omega)
            · have ic24 := (xi_eq c24 rfl h_c : v23.toInt = c_t)
              refine lv_aload_n hx hb dX9_faultFor_58 rfl (lv_at hl 1 rfl) ?_
              refine h_get (v := .ref b1) hx hb hts iX9 hown g t_a0 (by decide) so_10 rfl 2 (by decide) (hts (.fieldLink RX9 12 "CapLeague$Trade" "change" "LCapLeague$Change;") (by decide +kernel)) rfl dX9_faultFor_59 (by show va_rf (z.R a0 2) = _; rw [rb1]; rfl) ?_
              refine lv_aload_n hx hb dX9_faultFor_62 rfl (lv_at hl 0 rfl) ?_
              refine lv_aload_n hx hb dX9_faultFor_63 rfl (lv_at hl 1 rfl) ?_
              refine h_get (v := .ref b17) hx hb hts iX9 hown g t_a0 (by decide) so_10 rfl 0 (by decide) (hts (.fieldLink RX9 35 "CapLeague$Trade" "books" "LCapLeague$Books;") (by decide +kernel)) rfl dX9_faultFor_64 (by show va_rf (z.R a0 0) = _; rw [rb17]; rfl) ?_
              refine h_get (v := .int (I5 b17 3)) hx hb hts iX0 hown g tb17 (by decide) so_1 rfl 3 (by decide) (hts (.fieldLink RX9 76 "CapLeague$Books" "clock" "I") (by decide +kernel)) rfl dX9_faultFor_67 rfl ?_
              refine lv_topi (fun v35 ev35 => ?_)
              have jv35 := hI.rd b17 3 tb17 ev35 (rfl : h_bd 1 3 = (0, 9))
              refine vp_callSi (W.runV (As := [.int v35]) (rest := [.ref b1]) ⟨hx, hb, hml, hown, hts⟩ (tX6_payIn l E X A z I5 L0 rh20 trh20 v35 (v35.toInt) rfl) (cwV 1 hts gX9_faultFor_X6_payIn rfl rfl rfl (by decide +kernel) ⟨Nat.le_of_ble_eq_true rfl, Nat.le_of_ble_eq_true rfl⟩) ⟨h_blind _ _ _ _ _ _ _, h_recv g trh20 (by decide) so_7 (q := (RX6, TX6, 9)) rfl, h_pre _ hE hk hX hA hI hR g⟩ rfl rfl hl.1 rfl (lv_room (Nat.le_of_ble_eq_true rfl)) dX9_faultFor_70 ⟨Nat.le_of_ble_eq_true rfl, Nat.le_of_ble_eq_true rfl⟩) (fun rh36 h36 => ?_)
              have jrh36 : -2147483648 ≤ rh36.toInt ∧ rh36.toInt ≤ 2147483647 := ⟨xi_lo _, Int.le_of_lt_add_one (xi_hi _)⟩
              refine lv_aload_n hx hb dX9_faultFor_73 rfl (lv_at hl 1 rfl) ?_
              refine h_get (v := .ref b17) hx hb hts iX9 hown g t_a0 (by decide) so_10 rfl 0 (by decide) (hts (.fieldLink RX9 35 "CapLeague$Trade" "books" "LCapLeague$Books;") (by decide +kernel)) rfl dX9_faultFor_74 (by show va_rf (z.R a0 0) = _; rw [rb17]; rfl) ?_
              refine lv_aload_n hx hb dX9_faultFor_77 rfl (lv_at hl 0 rfl) ?_
              refine lv_aload_n hx hb dX9_faultFor_78 rfl (lv_at hl 1 rfl) ?_
              refine h_get (v := .ref b17) hx hb hts iX9 hown g t_a0 (by decide) so_10 rfl 0 (by decide) (hts (.fieldLink RX9 35 "CapLeague$Trade" "books" "LCapLeague$Books;") (by decide +kernel)) rfl dX9_faultFor_79 (by show va_rf (z.R a0 0) = _; rw [rb17]; rfl) ?_
              refine h_get (v := .int v35) hx hb hts iX0 hown g tb17 (by decide) so_1 rfl 3 (by decide) (hts (.fieldLink RX9 76 "CapLeague$Books" "clock" "I") (by decide +kernel)) rfl dX9_faultFor_82 (congrArg Value.int (ev35.symm)) ?_
              refine vp_callSi (W.runV (As := [.ref rh20, .int v35]) (rest := [.int rh36, .ref b1]) ⟨hx, hb, hml, hown, hts⟩ (tX0_countOf l E X A z I5 L0 b17 tb17 rh20 trh20 v35 (v35.toInt) rfl) (cwV 2 hts gX9_faultFor_X0_countOf rfl rfl rfl (by decide +kernel) ⟨Nat.le_of_ble_eq_true rfl, Nat.le_of_ble_eq_true rfl⟩) ⟨h_blind _ _ _ _ _ _ _, h_recv g tb17 (by decide) so_1 (q := (RX0, TX0, 9)) rfl, h_pre _ hE hk hX hA hI hR g⟩ rfl rfl hl.1 rfl (lv_room (Nat.le_of_ble_eq_true rfl)) dX9_faultFor_85 ⟨Nat.le_of_ble_eq_true rfl, Nat.le_of_ble_eq_true rfl⟩) (fun rh37 h37 => ?_)
              have jrh37 : -2147483648 ≤ rh37.toInt ∧ rh37.toInt ≤ 2147483647 := ⟨xi_lo _, Int.le_of_lt_add_one (xi_hi _)⟩
              refine va_callv (va_runV (As := [.int rh36, .int rh37]) (rest := []) ⟨hx, hb, hml, hown, hts⟩ (tX1_comes l E X A z I5 L0 b1 tb1 rh36 (rh36.toInt) rfl rh37 (rh37.toInt) rfl) (cwV 2 hts gX9_faultFor_X1_comes rfl rfl rfl (by decide +kernel) ⟨Nat.le_of_ble_eq_true rfl, Nat.le_of_ble_eq_true rfl⟩) ⟨h_blind _ _ _ _ _ _ _, h_recv g tb1 (by decide) so_2 (q := (RX1, TX1, 4)) rfl, h_pre _ hE hk hX hA hI hR g⟩ rfl rfl hl.1 rfl (lv_room (Nat.le_of_ble_eq_true rfl)) dX9_faultFor_88 ⟨Nat.le_of_ble_eq_true rfl, Nat.le_of_ble_eq_true rfl⟩) g.2.1 (fun q _ h => h) (fun q h => h) (fun I39 t H1 locs ht hvm h38 hB hz1 hk1 hS => ?_)
              obtain ⟨hI, fh38, h38⟩ := h38
              replace g := h_after g hB ht hS
              generalize H1 = H at g
              clear hB hk1 hz1 ht hvm hS
              have hF := hF.call fh38 rfl
              refine lv_goto (tgt := 141) hx hb dX9_faultFor_91 (by decide) ?_
              obtain ⟨v40, ev40⟩ : ∃ z : Int32, z = v4 + 1 := ⟨_, rfl⟩
              have jv40 : v40.toInt = v4.toInt + 1 := xi_add ev40 rfl (by decide) (by omega) (by omega)
              refine lv_iinc (v := v40) (lv' := [(2, .int v40), (3, .ref rh20), (0, .ref a0), (1, .int c)]) hx hb dX9_faultFor_141 hl (k := 3) rfl (by rw [ev40]; rfl) (by decide) rfl (fun ls hl => ?_)
              refine lv_goto (tgt := 9) hx hb dX9_faultFor_144 (by decide) ?_
              exact ih9 I39 _ _ _ v40 g hI hF (lv_sub hl [2, 3, 0] rfl) (by omega) (by omega)
        · have ic16 := (xi_ne c16 rfl (by decide) : v15.toInt ≠ 0)
          refine lv_null hx hb dX9_faultFor_26 ?_
          refine lv_goto (tgt := 43) hx hb dX9_faultFor_27 (by decide) ?_
          refine lv_astore_nN (lv' := [(3, .null), (0, .ref a0), (1, .int c), (2, .int v4)]) hx hb dX9_faultFor_43 rfl hl (by decide) rfl (fun ls hl => ?_)
          refine lv_aload_nN hx hb dX9_faultFor_44 rfl (lv_at hl 0 rfl) ?_
          refine lv_ifnullN (tgt := 94) hx hb dX9_faultFor_45 (by decide) ?_
          refine lv_aload_nN hx hb dX9_faultFor_94 rfl (lv_at hl 0 rfl) ?_
          refine lv_ifnullN (tgt := 141) hx hb dX9_faultFor_95 (by decide) ?_
          obtain ⟨v41, ev41⟩ : ∃ z : Int32, z = v4 + 1 := ⟨_, rfl⟩
          have jv41 : v41.toInt = v4.toInt + 1 := xi_add ev41 rfl (by decide) (by omega) (by omega)
          refine lv_iinc (v := v41) (lv' := [(2, .int v41), (3, .null), (0, .ref a0), (1, .int c)]) hx hb dX9_faultFor_141 hl (k := 3) rfl (by rw [ev41]; rfl) (by decide) rfl (fun ls hl => ?_)
          refine lv_goto (tgt := 9) hx hb dX9_faultFor_144 (by decide) ?_
          exact ih9 I5 _ _ _ v41 g hI hF (lv_sub hl [2, 3, 0] rfl) (by omega) (by omega)
  exact loop9_0 _ I3 _ _ _ (0) g hI hF (lv_sub hl [1, 2, 0] rfl) ⟨by decide, by decide⟩ (show (12 - (0 : Int)) < (((12 - (0 : Int)).toNat + 1 : Nat) : Int) by omega)
set_option maxHeartbeats 4000000 in
set_option maxRecDepth 100000 in
theorem tX9_firstFault (l : Launch) (E : tE) (X : tX) (A : Nat → Prop) (z : tZ) (I0 : tI) (L0 : tL) (a0 : Nat) (t_a0 : z.ty a0 = 10) : Met l yX9_firstFault wsX9_firstFault ({ frames := 6, cells := 0, slots := 0, locals := 384 }) (va_Pc [.ref a0] (h_P E X A z I0 L0)) (va_Qi (fun r (I1 : tI) => h_I z I1 ∧ h_F [(2, 0), (2, 1), (2, 2), (2, 3)] z I0 I1 ∧ True) (fun (I1 : tI) t => h_B E A z I1 L0 t) A) 0 0 A := by
  refine Met.ofW (cc := cX9_firstFault) (maxL := 3) (ret := (some .int)) (by decide) rfl ?_
  intro pr_ ev_ s m args below meth cd_ s₁ B hml hv
  obtain ⟨rfl, hE, hk, hX, hA, hK, hI, hR, hB0⟩ := hv
  have g : h_G h_so h_fk E A z I0 L0 s s.heap s.heap [] := ⟨hK, va_S.rf, hB0⟩
  have hF : h_F [(2, 0), (2, 1), (2, 2), (2, 3)] z I0 I0 := h_F.rf
  have hx := B.exec
  have hb := B.bytes
  have hr := B.returns
  have hts := atoms_spec (ws := wsX9_firstFault) B.pre
  have hown : s.vm.findClass RX9 = some m.cls := findClass_of_methodNamed B.named
  have hlocks := B.notSynchronized
  have iX9 : ∀ w ∈ u_ws RX9 TX9 10, w ∈ wsX9_firstFault := by decide +kernel
  have hl := lv_entry ([.ref a0]) (n := 3) (Nat.le_of_ble_eq_true rfl)
  rw [lg_entry_eq]
  generalize (lg_sl ([.ref a0]) ++ List.replicate (3 - (lg_sl ([.ref a0])).length) Slot.unset).toArray = ls at hl ⊢
  have hl : lv_has ls 3 [(0, .ref a0)] := hl
  refine lv_iconst (v := 0) hx hb dX9_firstFault_0 (by decide) ?_
  refine lv_istore_n (lv' := [(1, .int 0), (0, .ref a0)]) hx hb dX9_firstFault_1 rfl hl (by decide) rfl (fun ls hl => ?_)
  have loop2_0 : ∀ (n : Nat) (I2 : tI) (H : Heap) (locs : List Loc) (ls : Array Slot) (v1 : Int32), h_G h_so h_fk E A z I2 L0 s s.heap H locs → h_I z I2 → h_F [(2, 0), (2, 1), (2, 2), (2, 3)] z I0 I2 → lv_has ls 3 [(0, .ref a0), (1, .int v1)] → (0 ≤ v1.toInt ∧ v1.toInt ≤ 8) → (8 - v1.toInt) < (n : Int) → W pr_ l ev_ (headSpec wsX9_firstFault ({ frames := 6, cells := 0, slots := 0, locals := 384 })).room s m ([.ref a0] : List Value).toArray below meth cd_ H locs 0 0 (MQ below (va_Qi (fun r (I1 : tI) => h_I z I1 ∧ h_F [(2, 0), (2, 1), (2, 2), (2, 3)] z I0 I1 ∧ True) (fun (I1 : tI) t => h_B E A z I1 L0 t) A) ([.ref a0] : List Value).toArray s 0 0 A) (F0 m 2 ls []) := by
    intro n
    induction n with
    | zero => intro I2 H locs ls v1 g hI hF hl jv1 hn; exact absurd hn (by omega)
    | succ n ih2 =>
      intro I2 H locs ls v1 g hI hF hl jv1 hn
      refine lv_iload_n hx hb dX9_firstFault_2 rfl (lv_at hl 1 rfl) ?_
      refine lv_bipush (v := 8) hx hb dX9_firstFault_3 (by decide) ?_
      refine lv_icmp_ge (tgt := 46) hx hb dX9_firstFault_5 (by decide) (fun c3 => ?_) (fun c3 => ?_)
      · have ic3 := (xi_le c3 (by decide) rfl : 8 ≤ v1.toInt)
        refine lv_iconst (v := 0) hx hb dX9_firstFault_46 (by decide) ?_
        have hS := g.2.1
        exact W.iret (v := 0) hx hb hr (fun t ht hW => ⟨⟨0, I2, rfl, ⟨hI, hF, trivial⟩, h_ret g ht⟩, hS.F ht⟩) hS.2.2 dX9_firstFault_47
      · have ic3 := (xi_nle c3 (by decide) rfl : v1.toInt < 8)
        refine lv_aload_n hx hb dX9_firstFault_8 rfl (lv_at hl 0 rfl) ?_
        refine h_get (v := .int (I2 a0 4)) hx hb hts iX9 hown g t_a0 (by decide) so_10 rfl 4 (by decide) (hts (.fieldLink RX9 47 "CapLeague$Trade" "clubBits" "I") (by decide +kernel)) rfl dX9_firstFault_9 rfl ?_
        refine lv_topi (fun v4 ev4 => ?_)
        have jv4 := hI.rd a0 4 t_a0 ev4 (rfl : h_bd 10 4 = ((-2147483648), 2147483647))
        refine lv_iconst (v := 1) hx hb dX9_firstFault_12 (by decide) ?_
        refine lv_iload_n hx hb dX9_firstFault_13 rfl (lv_at hl 1 rfl) ?_
        refine lv_ishl hx hb dX9_firstFault_14 ?_
        refine lv_topi (fun v5 ev5 => ?_)
        have jv5 : -2147483648 ≤ v5.toInt ∧ v5.toInt ≤ 2147483647 := ⟨xi_lo _, Int.le_of_lt_add_one (xi_hi _)⟩
        refine lv_iand hx hb dX9_firstFault_15 ?_
        refine lv_topi (fun v6 ev6 => ?_)
        have jv6 : -2147483648 ≤ v6.toInt ∧ v6.toInt ≤ 2147483647 := ⟨xi_lo _, Int.le_of_lt_add_one (xi_hi _)⟩
        refine lv_if_eq (tgt := 27) hx hb dX9_firstFault_16 (by decide) (fun c7 => ?_) (fun c7 => ?_)
        · have ic7 := (xi_eq c7 rfl (by decide) : v6.toInt = 0)
          refine lv_iconst (v := 0) hx hb dX9_firstFault_27 (by decide) ?_
          refine lv_istore_n (lv' := [(2, .int 0), (0, .ref a0), (1, .int v1)]) hx hb dX9_firstFault_28 rfl hl (by decide) rfl (fun ls hl => ?_)
          refine lv_iload_n hx hb dX9_firstFault_29 rfl (lv_at hl 0 rfl) ?_
          refine lv_if_eq (tgt := 40) hx hb dX9_firstFault_30 (by decide) (fun _ => ?_) (fun h => absurd (by decide) h)
          obtain ⟨v9, ev9⟩ : ∃ z : Int32, z = v1 + 1 := ⟨_, rfl⟩
          have jv9 : v9.toInt = v1.toInt + 1 := xi_add ev9 rfl (by decide) (by omega) (by omega)
          refine lv_iinc (v := v9) (lv' := [(1, .int v9), (2, .int 0), (0, .ref a0)]) hx hb dX9_firstFault_40 hl (k := 2) rfl (by rw [ev9]; rfl) (by decide) rfl (fun ls hl => ?_)
          refine lv_goto (tgt := 2) hx hb dX9_firstFault_43 (by decide) ?_
          exact ih2 I2 _ _ _ v9 g hI hF (lv_sub hl [2, 0] rfl) (by omega) (by omega)
        · have ic7 := (xi_ne c7 rfl (by decide) : v6.toInt ≠ 0)
          refine lv_aload_n hx hb dX9_firstFault_19 rfl (lv_at hl 0 rfl) ?_
          refine lv_iload_n hx hb dX9_firstFault_20 rfl (lv_at hl 1 rfl) ?_
          refine va_calli (va_runV (As := [.int v1]) (rest := []) ⟨hx, hb, hml, hown, hts⟩ (tX9_faultFor l E X A z I2 L0 a0 t_a0 v1 (v1.toInt) rfl) (cwV 1 hts gX9_firstFault_X9_faultFor rfl rfl rfl (by decide +kernel) ⟨Nat.le_of_ble_eq_true rfl, Nat.le_of_ble_eq_true rfl⟩) ⟨h_blind _ _ _ _ _ _ _, h_recv g t_a0 (by decide) so_10 (q := (RX9, TX9, 10)) rfl, h_pre _ hE hk hX hA hI hR g⟩ rfl rfl hl.1 rfl (lv_room (Nat.le_of_ble_eq_true rfl)) dX9_firstFault_21 ⟨Nat.le_of_ble_eq_true rfl, Nat.le_of_ble_eq_true rfl⟩) g.2.1 (fun q _ h => h) (fun q h => h) (fun rh10 I11 t H1 locs ht hvm h10 hB hz1 hk1 hS => ?_)
          obtain ⟨hI, fh10, h10⟩ := h10
          replace g := h_after g hB ht hS
          generalize H1 = H at g
          clear hB hk1 hz1 ht hvm hS
          have hF := hF.call fh10 rfl
          have jrh10 : -2147483648 ≤ rh10.toInt ∧ rh10.toInt ≤ 2147483647 := ⟨xi_lo _, Int.le_of_lt_add_one (xi_hi _)⟩
          refine lv_goto (tgt := 28) hx hb dX9_firstFault_24 (by decide) ?_
          refine lv_istore_n (lv' := [(2, .int rh10), (0, .ref a0), (1, .int v1)]) hx hb dX9_firstFault_28 rfl hl (by decide) rfl (fun ls hl => ?_)
          refine lv_iload_n hx hb dX9_firstFault_29 rfl (lv_at hl 0 rfl) ?_
          refine lv_if_eq (tgt := 40) hx hb dX9_firstFault_30 (by decide) (fun c12 => ?_) (fun c12 => ?_)
          · have ic12 := (xi_eq c12 rfl (by decide) : rh10.toInt = 0)
            obtain ⟨v13, ev13⟩ : ∃ z : Int32, z = v1 + 1 := ⟨_, rfl⟩
            have jv13 : v13.toInt = v1.toInt + 1 := xi_add ev13 rfl (by decide) (by omega) (by omega)
            refine lv_iinc (v := v13) (lv' := [(1, .int v13), (2, .int rh10), (0, .ref a0)]) hx hb dX9_firstFault_40 hl (k := 2) rfl (by rw [ev13]; rfl) (by decide) rfl (fun ls hl => ?_)
            refine lv_goto (tgt := 2) hx hb dX9_firstFault_43 (by decide) ?_
            exact ih2 I11 _ _ _ v13 g hI hF (lv_sub hl [2, 0] rfl) (by omega) (by omega)
          · have ic12 := (xi_ne c12 rfl (by decide) : rh10.toInt ≠ 0)
            refine lv_bipush (v := 100) hx hb dX9_firstFault_33 (by decide) ?_
            refine lv_iload_n hx hb dX9_firstFault_35 rfl (lv_at hl 2 rfl) ?_
            refine lv_imul hx hb dX9_firstFault_36 ?_
            refine lv_topi (fun v14 ev14 => ?_)
            have jv14 : v14.toInt = 100 * v1.toInt := xi_mul ev14 (by decide) rfl (by omega) (by omega)
            refine lv_iload_n hx hb dX9_firstFault_37 rfl (lv_at hl 0 rfl) ?_
            refine lv_iadd hx hb dX9_firstFault_38 ?_
            refine lv_topi (fun v15 ev15 => ?_)
            have jv15 : -2147483648 ≤ v15.toInt ∧ v15.toInt ≤ 2147483647 := ⟨xi_lo _, Int.le_of_lt_add_one (xi_hi _)⟩
            have hS := g.2.1
            exact W.iret (v := v15) hx hb hr (fun t ht hW => ⟨⟨v15, I11, rfl, ⟨hI, hF, trivial⟩, h_ret g ht⟩, hS.F ht⟩) hS.2.2 dX9_firstFault_39
  exact loop2_0 _ I0 _ _ _ (0) g hI hF (lv_sub hl [1, 0] rfl) ⟨by decide, by decide⟩ (show (8 - (0 : Int)) < (((8 - (0 : Int)).toNat + 1 : Nat) : Int) by omega)
set_option maxHeartbeats 4000000 in
set_option maxRecDepth 100000 in
theorem tX9_worthOfMove (l : Launch) (E : tE) (X : tX) (A : Nat → Prop) (z : tZ) (I0 : tI) (L0 : tL) (a0 : Nat) (t_a0 : z.ty a0 = 10) (x : Int32) (x_t : Int) (h_x : x.toInt = x_t) (b_x : 0 ≤ x_t ∧ x_t ≤ 11) (c : Int32) (c_t : Int) (h_c : c.toInt = c_t) (b_c : 0 ≤ c_t ∧ c_t ≤ 7) : Met l yX9_worthOfMove wsX9_worthOfMove ({ frames := 2, cells := 0, slots := 0, locals := 128 }) (va_Pc [.ref a0, .int x, .int c] (h_P E X A z I0 L0)) (vp_Si (fun r => True)) 0 0 (fun _ => False) := by
  refine Met.ofW (cc := cX9_worthOfMove) (maxL := 5) (ret := (some .int)) (by decide) rfl ?_
  intro pr_ ev_ s m args below meth cd_ s₁ B hml hv
  obtain ⟨rfl, hE, hk, hX, hA, hK, hI, hR, hB0⟩ := hv
  have g : h_G h_so h_fk E A z I0 L0 s s.heap s.heap [] := ⟨hK, va_S.rf, hB0⟩
  have hx := B.exec
  have hb := B.bytes
  have hr := B.returns
  have hts := atoms_spec (ws := wsX9_worthOfMove) B.pre
  have hown : s.vm.findClass RX9 = some m.cls := findClass_of_methodNamed B.named
  have hlocks := B.notSynchronized
  have iX9 : ∀ w ∈ u_ws RX9 TX9 10, w ∈ wsX9_worthOfMove := by decide +kernel
  have iX10 : ∀ w ∈ u_ws RX10 TX10 4, w ∈ wsX9_worthOfMove := by decide +kernel
  have iX6 : ∀ w ∈ u_ws RX6 TX6 9, w ∈ wsX9_worthOfMove := by decide +kernel
  have hl := lv_entry ([.ref a0, .int x, .int c]) (n := 5) (Nat.le_of_ble_eq_true rfl)
  rw [lg_entry_eq]
  generalize (lg_sl ([.ref a0, .int x, .int c]) ++ List.replicate (5 - (lg_sl ([.ref a0, .int x, .int c])).length) Slot.unset).toArray = ls at hl ⊢
  have hl : lv_has ls 5 [(0, .ref a0), (1, .int x), (2, .int c)] := hl
  refine lv_aload_n hx hb dX9_worthOfMove_0 rfl (lv_at hl 0 rfl) ?_
  obtain ⟨b1, rb1, tb1⟩ := hR.at a0 6 t_a0 (rfl : h_rs 10 6 = some (1006, false)) (by decide)
  refine h_get (v := .ref b1) hx hb hts iX9 hown g t_a0 (by decide) so_10 rfl 6 (by decide) (hts (.fieldLink RX9 22 "CapLeague$Trade" "thing" "[I") (by decide +kernel)) rfl dX9_worthOfMove_1 (by show va_rf (z.R a0 6) = _; rw [rb1]; rfl) ?_
  refine lv_iload_n hx hb dX9_worthOfMove_4 rfl (lv_at hl 1 rfl) ?_
  refine h_ald hx hb g tb1 (by decide) so_1006 (xi_in (by rw [h_x]; omega) (by rw [h_x]; omega)) dX9_worthOfMove_5 ?_
  refine lv_topi (fun v2 ev2 => ?_)
  have jv2 := hI.rd b1 x.toNatClampNeg tb1 ev2 (rfl : h_bd 1006 _ = ((-2147483648), 2147483647))
  refine lv_istore_n (lv' := [(3, .int v2), (0, .ref a0), (1, .int x), (2, .int c)]) hx hb dX9_worthOfMove_6 rfl hl (by decide) rfl (fun ls hl => ?_)
  refine lv_aload_n hx hb dX9_worthOfMove_7 rfl (lv_at hl 1 rfl) ?_
  obtain ⟨b3, rb3, tb3⟩ := hR.at a0 5 t_a0 (rfl : h_rs 10 5 = some (1005, false)) (by decide)
  refine h_get (v := .ref b3) hx hb hts iX9 hown g t_a0 (by decide) so_10 rfl 5 (by decide) (hts (.fieldLink RX9 18 "CapLeague$Trade" "isTurn" "[Z") (by decide +kernel)) rfl dX9_worthOfMove_8 (by show va_rf (z.R a0 5) = _; rw [rb3]; rfl) ?_
  refine lv_iload_n hx hb dX9_worthOfMove_11 rfl (lv_at hl 2 rfl) ?_
  refine h_zald hx hb g tb3 (by decide) so_1005 (xi_in (by rw [h_x]; omega) (by rw [h_x]; omega)) dX9_worthOfMove_12 ?_
  refine lv_topi (fun v4 ev4 => ?_)
  have jv4 := hI.rd b3 x.toNatClampNeg tb3 ev4 (rfl : h_bd 1005 _ = (0, 1))
  refine lv_if_eq (tgt := 42) hx hb dX9_worthOfMove_13 (by decide) (fun c5 => ?_) (fun c5 => ?_)
  · have ic5 := (xi_eq c5 rfl (by decide) : v4.toInt = 0)
    refine lv_aload_n hx hb dX9_worthOfMove_42 rfl (lv_at hl 1 rfl) ?_
    obtain ⟨b6, rb6, tb6⟩ := hR.at a0 0 t_a0 (rfl : h_rs 10 0 = some (1, false)) (by decide)
    refine h_get (v := .ref b6) hx hb hts iX9 hown g t_a0 (by decide) so_10 rfl 0 (by decide) (hts (.fieldLink RX9 35 "CapLeague$Trade" "books" "LCapLeague$Books;") (by decide +kernel)) rfl dX9_worthOfMove_43 (by show va_rf (z.R a0 0) = _; rw [rb6]; rfl) ?_
    refine lv_iload_n hx hb dX9_worthOfMove_46 rfl (lv_at hl 0 rfl) ?_
    refine va_csq (W.runV (As := [.int v2]) (rest := []) ⟨hx, hb, hml, hown, hts⟩ (tX0_playerAt l E X A z I0 L0 b6 tb6 v2 (v2.toInt) rfl) (cwV 1 hts gX9_worthOfMove_X0_playerAt rfl rfl rfl (by decide +kernel) ⟨Nat.le_of_ble_eq_true rfl, Nat.le_of_ble_eq_true rfl⟩) ⟨h_blind _ _ _ _ _ _ _, h_recv g tb6 (by decide) so_1 (q := (RX0, TX0, 9)) rfl, h_pre _ hE hk hX hA hI hR g⟩ rfl rfl hl.1 rfl (lv_room (Nat.le_of_ble_eq_true rfl)) dX9_worthOfMove_47 ⟨Nat.le_of_ble_eq_true rfl, Nat.le_of_ble_eq_true rfl⟩) (fun rh7 h7 => ?_)
    rcases h7 with rfl | ⟨rh7, rfl, trh7⟩
    · refine xw_v (v := .null) rfl ?_
      refine lv_astoreN (lv' := [(4, .null), (3, .int v2), (0, .ref a0), (1, .int x), (2, .int c)]) hx hb dX9_worthOfMove_50 hl (by decide) rfl (fun ls hl => ?_)
      refine lv_aloadN hx hb dX9_worthOfMove_52 (lv_at hl 0 rfl) ?_
      refine lv_ifnonnullN hx hb dX9_worthOfMove_54 ?_
      refine lv_iconst (v := 0) hx hb dX9_worthOfMove_57 (by decide) ?_
      refine lv_goto (tgt := 68) hx hb dX9_worthOfMove_58 (by decide) ?_
      exact W.iret (v := 0) hx hb hr (fun t ht hW => ⟨0, rfl, trivial, ht⟩) (fun _ h => by cases h) dX9_worthOfMove_68
    · refine xw_v (v := .ref rh7) rfl ?_
      refine lv_astore (lv' := [(4, .ref rh7), (3, .int v2), (0, .ref a0), (1, .int x), (2, .int c)]) hx hb dX9_worthOfMove_50 hl (by decide) rfl (fun ls hl => ?_)
      refine lv_aload hx hb dX9_worthOfMove_52 (lv_at hl 0 rfl) ?_
      refine lv_ifnonnull (tgt := 61) hx hb dX9_worthOfMove_54 (by decide) ?_
      refine lv_aload hx hb dX9_worthOfMove_61 (lv_at hl 0 rfl) ?_
      obtain ⟨b8, rb8, tb8⟩ := hR.at rh7 8 trh7 (rfl : h_rs 7 8 = some (708, false)) (by decide)
      refine h_get (v := .ref b8) hx hb hts iX6 hown g trh7 (by decide) so_7 rfl 8 (by decide) (hts (.fieldLink RX9 118 "CapLeague$Player" "worths" "[I") (by decide +kernel)) rfl dX9_worthOfMove_63 (by show va_rf (z.R rh7 8) = _; rw [rb8]; rfl) ?_
      refine lv_iload_n hx hb dX9_worthOfMove_66 rfl (lv_at hl 4 rfl) ?_
      refine h_ald hx hb g tb8 (by decide) so_708 (xi_in (by rw [h_c]; omega) (by rw [h_c]; omega)) dX9_worthOfMove_67 ?_
      refine lv_topi (fun v9 ev9 => ?_)
      have jv9 := hI.rd b8 c.toNatClampNeg tb8 ev9 (rfl : h_bd 708 _ = ((-2147483648), 2147483647))
      exact W.iret (v := v9) hx hb hr (fun t ht hW => ⟨v9, rfl, trivial, ht⟩) (fun _ h => by cases h) dX9_worthOfMove_68
  · have ic5 := (xi_ne c5 rfl (by decide) : v4.toInt ≠ 0)
    refine lv_iload_n hx hb dX9_worthOfMove_16 rfl (lv_at hl 0 rfl) ?_
    refine lv_if_lt (tgt := 40) hx hb dX9_worthOfMove_17 (by decide) (fun c10 => ?_) (fun c10 => ?_)
    · have ic10 := (xi_lt c10 rfl (by decide) : v2.toInt < 0)
      refine lv_iconst (v := 0) hx hb dX9_worthOfMove_40 (by decide) ?_
      exact W.iret (v := 0) hx hb hr (fun t ht hW => ⟨0, rfl, trivial, ht⟩) (fun _ h => by cases h) dX9_worthOfMove_41
    · have ic10 := (xi_nlt c10 rfl (by decide) : 0 ≤ v2.toInt)
      refine lv_iload_n hx hb dX9_worthOfMove_20 rfl (lv_at hl 0 rfl) ?_
      refine lv_bipush (v := 80) hx hb dX9_worthOfMove_21 (by decide) ?_
      refine lv_icmp_ge (tgt := 40) hx hb dX9_worthOfMove_23 (by decide) (fun c11 => ?_) (fun c11 => ?_)
      · have ic11 := (xi_le c11 (by decide) rfl : 80 ≤ v2.toInt)
        refine lv_iconst (v := 0) hx hb dX9_worthOfMove_40 (by decide) ?_
        exact W.iret (v := 0) hx hb hr (fun t ht hW => ⟨0, rfl, trivial, ht⟩) (fun _ h => by cases h) dX9_worthOfMove_41
      · have ic11 := (xi_nle c11 (by decide) rfl : v2.toInt < 80)
        refine lv_aload_n hx hb dX9_worthOfMove_26 rfl (lv_at hl 1 rfl) ?_
        obtain ⟨b12, rb12, tb12⟩ := hR.at a0 1 t_a0 (rfl : h_rs 10 1 = some (11, false)) (by decide)
        refine h_get (v := .ref b12) hx hb hts iX9 hown g t_a0 (by decide) so_10 rfl 1 (by decide) (hts (.fieldLink RX9 39 "CapLeague$Trade" "turns" "LCapLeague$Turns;") (by decide +kernel)) rfl dX9_worthOfMove_27 (by show va_rf (z.R a0 1) = _; rw [rb12]; rfl) ?_
        obtain ⟨b13, rb13, tb13⟩ := hR.at b12 3 tb12 (rfl : h_rs 11 3 = some (1103, false)) (by decide)
        refine h_get (v := .ref b13) hx hb hts iX10 hown g tb12 (by decide) so_11 rfl 3 (by decide) (hts (.fieldLink RX9 114 "CapLeague$Turns" "worths" "[[I") (by decide +kernel)) rfl dX9_worthOfMove_30 (by show va_rf (z.R b12 3) = _; rw [rb13]; rfl) ?_
        refine lv_iload_n hx hb dX9_worthOfMove_33 rfl (lv_at hl 3 rfl) ?_
        obtain ⟨b14, rb14, tb14⟩ := hR.at b13 c.toNatClampNeg tb13 (rfl : h_rs 1103 _ = some (1153, false)) (by rw [so_1103]; exact h_lt (n := 8) (xi_in (by rw [h_c]; omega) (by rw [h_c]; omega)))
        refine h_aldA (v := .ref b14) hx hb g tb13 (by decide) so_1103 (xi_in (by rw [h_c]; omega) (by rw [h_c]; omega)) dX9_worthOfMove_34 (by rw [rb14]; rfl) ?_
        refine lv_iload_n hx hb dX9_worthOfMove_35 rfl (lv_at hl 0 rfl) ?_
        refine h_ald hx hb g tb14 (by decide) so_1153 (xi_in (by omega) (by omega)) dX9_worthOfMove_36 ?_
        refine lv_topi (fun v15 ev15 => ?_)
        have jv15 := hI.rd b14 v2.toNatClampNeg tb14 ev15 (rfl : h_bd 1153 _ = ((-2147483648), 2147483647))
        refine lv_goto (tgt := 41) hx hb dX9_worthOfMove_37 (by decide) ?_
        exact W.iret (v := v15) hx hb hr (fun t ht hW => ⟨v15, rfl, trivial, ht⟩) (fun _ h => by cases h) dX9_worthOfMove_41
set_option maxHeartbeats 4000000 in
set_option maxRecDepth 100000 in
theorem tX9_gainOf (l : Launch) (E : tE) (X : tX) (A : Nat → Prop) (z : tZ) (I0 : tI) (L0 : tL) (a0 : Nat) (t_a0 : z.ty a0 = 10) (c : Int32) (c_t : Int) (h_c : c.toInt = c_t) (b_c : 0 ≤ c_t ∧ c_t ≤ 7) : Met l yX9_gainOf wsX9_gainOf ({ frames := 3, cells := 0, slots := 0, locals := 192 }) (va_Pc [.ref a0, .int c] (h_P E X A z I0 L0)) (vp_Si (fun r => True)) 0 0 (fun _ => False) := by
  refine Met.ofW (cc := cX9_gainOf) (maxL := 4) (ret := (some .int)) (by decide) rfl ?_
  intro pr_ ev_ s m args below meth cd_ s₁ B hml hv
  obtain ⟨rfl, hE, hk, hX, hA, hK, hI, hR, hB0⟩ := hv
  have g : h_G h_so h_fk E A z I0 L0 s s.heap s.heap [] := ⟨hK, va_S.rf, hB0⟩
  have hx := B.exec
  have hb := B.bytes
  have hr := B.returns
  have hts := atoms_spec (ws := wsX9_gainOf) B.pre
  have hown : s.vm.findClass RX9 = some m.cls := findClass_of_methodNamed B.named
  have hlocks := B.notSynchronized
  have iX9 : ∀ w ∈ u_ws RX9 TX9 10, w ∈ wsX9_gainOf := by decide +kernel
  have hl := lv_entry ([.ref a0, .int c]) (n := 4) (Nat.le_of_ble_eq_true rfl)
  rw [lg_entry_eq]
  generalize (lg_sl ([.ref a0, .int c]) ++ List.replicate (4 - (lg_sl ([.ref a0, .int c])).length) Slot.unset).toArray = ls at hl ⊢
  have hl : lv_has ls 4 [(0, .ref a0), (1, .int c)] := hl
  refine lv_iconst (v := 0) hx hb dX9_gainOf_0 (by decide) ?_
  refine lv_istore_n (lv' := [(2, .int 0), (0, .ref a0), (1, .int c)]) hx hb dX9_gainOf_1 rfl hl (by decide) rfl (fun ls hl => ?_)
  refine lv_iconst (v := 0) hx hb dX9_gainOf_2 (by decide) ?_
  refine lv_istore_n (lv' := [(3, .int 0), (2, .int 0), (0, .ref a0), (1, .int c)]) hx hb dX9_gainOf_3 rfl hl (by decide) rfl (fun ls hl => ?_)
  have loop4_0 : ∀ (n : Nat) (ls : Array Slot) (v1 v2 : Int32), lv_has ls 4 [(0, .ref a0), (1, .int c), (2, .int v1), (3, .int v2)] → ((-2147483648) ≤ v1.toInt ∧ v1.toInt ≤ 2147483647) → (0 ≤ v2.toInt ∧ v2.toInt ≤ 12) → (12 - v2.toInt) < (n : Int) → W pr_ l ev_ (headSpec wsX9_gainOf ({ frames := 3, cells := 0, slots := 0, locals := 192 })).room s m ([.ref a0, .int c] : List Value).toArray below meth cd_ s.heap [] 0 0 (MQ below (vp_Si (fun r => True)) ([.ref a0, .int c] : List Value).toArray s 0 0 (fun _ => False)) (F0 m 4 ls []) := by
    intro n
    induction n with
    | zero => intro ls v1 v2 hl jv1 jv2 hn; exact absurd hn (by omega)
    | succ n ih4 =>
      intro ls v1 v2 hl jv1 jv2 hn
      refine lv_iload_n hx hb dX9_gainOf_4 rfl (lv_at hl 3 rfl) ?_
      refine lv_aload_n hx hb dX9_gainOf_5 rfl (lv_at hl 0 rfl) ?_
      refine h_get (v := .int (I0 a0 3)) hx hb hts iX9 hown g t_a0 (by decide) so_10 rfl 3 (by decide) (hts (.fieldLink RX9 43 "CapLeague$Trade" "size" "I") (by decide +kernel)) rfl dX9_gainOf_6 rfl ?_
      refine lv_topi (fun v3 ev3 => ?_)
      have jv3 := hI.rd a0 3 t_a0 ev3 (rfl : h_bd 10 3 = (0, 12))
      refine lv_icmp_ge (tgt := 59) hx hb dX9_gainOf_9 (by decide) (fun c4 => ?_) (fun c4 => ?_)
      · have ic4 := (xi_le c4 rfl rfl : v3.toInt ≤ v2.toInt)
        refine lv_iload_n hx hb dX9_gainOf_59 rfl (lv_at hl 2 rfl) ?_
        exact W.iret (v := v1) hx hb hr (fun t ht hW => ⟨v1, rfl, trivial, ht⟩) (fun _ h => by cases h) dX9_gainOf_60
      · have ic4 := (xi_nle c4 rfl rfl : v2.toInt < v3.toInt)
        refine lv_aload_n hx hb dX9_gainOf_12 rfl (lv_at hl 0 rfl) ?_
        obtain ⟨b5, rb5, tb5⟩ := hR.at a0 8 t_a0 (rfl : h_rs 10 8 = some (1008, false)) (by decide)
        refine h_get (v := .ref b5) hx hb hts iX9 hown g t_a0 (by decide) so_10 rfl 8 (by decide) (hts (.fieldLink RX9 29 "CapLeague$Trade" "to" "[I") (by decide +kernel)) rfl dX9_gainOf_13 (by show va_rf (z.R a0 8) = _; rw [rb5]; rfl) ?_
        refine lv_iload_n hx hb dX9_gainOf_16 rfl (lv_at hl 3 rfl) ?_
        refine h_ald hx hb g tb5 (by decide) so_1008 (xi_in (by omega) (by omega)) dX9_gainOf_17 ?_
        refine lv_topi (fun v6 ev6 => ?_)
        have jv6 := hI.rd b5 v2.toNatClampNeg tb5 ev6 (rfl : h_bd 1008 _ = (0, 7))
        refine lv_iload_n hx hb dX9_gainOf_18 rfl (lv_at hl 1 rfl) ?_
        refine lv_icmp_ne (tgt := 34) hx hb dX9_gainOf_19 (by decide) (fun c7 => ?_) (fun c7 => ?_)
        · have ic7 := (xi_ne c7 rfl h_c : v6.toInt ≠ c_t)
          refine lv_aload_n hx hb dX9_gainOf_34 rfl (lv_at hl 0 rfl) ?_
          obtain ⟨b8, rb8, tb8⟩ := hR.at a0 7 t_a0 (rfl : h_rs 10 7 = some (1007, false)) (by decide)
          refine h_get (v := .ref b8) hx hb hts iX9 hown g t_a0 (by decide) so_10 rfl 7 (by decide) (hts (.fieldLink RX9 26 "CapLeague$Trade" "from" "[I") (by decide +kernel)) rfl dX9_gainOf_35 (by show va_rf (z.R a0 7) = _; rw [rb8]; rfl) ?_
          refine lv_iload_n hx hb dX9_gainOf_38 rfl (lv_at hl 3 rfl) ?_
          refine h_ald hx hb g tb8 (by decide) so_1007 (xi_in (by omega) (by omega)) dX9_gainOf_39 ?_
          refine lv_topi (fun v9 ev9 => ?_)
          have jv9 := hI.rd b8 v2.toNatClampNeg tb8 ev9 (rfl : h_bd 1007 _ = ((-2147483648), 2147483647))
          refine lv_iload_n hx hb dX9_gainOf_40 rfl (lv_at hl 1 rfl) ?_
          refine lv_icmp_ne (tgt := 53) hx hb dX9_gainOf_41 (by decide) (fun c10 => ?_) (fun c10 => ?_)
          · have ic10 := (xi_ne c10 rfl h_c : v9.toInt ≠ c_t)
            obtain ⟨v11, ev11⟩ : ∃ z : Int32, z = v2 + 1 := ⟨_, rfl⟩
            have jv11 : v11.toInt = v2.toInt + 1 := xi_add ev11 rfl (by decide) (by omega) (by omega)
            refine lv_iinc (v := v11) (lv' := [(3, .int v11), (0, .ref a0), (1, .int c), (2, .int v1)]) hx hb dX9_gainOf_53 hl (k := 3) rfl (by rw [ev11]; rfl) (by decide) rfl (fun ls hl => ?_)
            refine lv_goto (tgt := 4) hx hb dX9_gainOf_56 (by decide) ?_
            exact ih4 _ v1 v11 (lv_sub hl [1, 2, 3, 0] rfl) (by omega) (by omega) (by omega)
          · have ic10 := (xi_eq c10 rfl h_c : v9.toInt = c_t)
            refine lv_iload_n hx hb dX9_gainOf_44 rfl (lv_at hl 2 rfl) ?_
            refine lv_aload_n hx hb dX9_gainOf_45 rfl (lv_at hl 0 rfl) ?_
            refine lv_iload_n hx hb dX9_gainOf_46 rfl (lv_at hl 3 rfl) ?_
            refine lv_iload_n hx hb dX9_gainOf_47 rfl (lv_at hl 1 rfl) ?_
            refine vp_callSi (W.runV (As := [.int v2, .int c]) (rest := [.int v1]) ⟨hx, hb, hml, hown, hts⟩ (tX9_worthOfMove l E X A z I0 L0 a0 t_a0 v2 (v2.toInt) rfl (by omega) c (c_t) h_c (by omega)) (cwV 2 hts gX9_gainOf_X9_worthOfMove rfl rfl rfl (by decide +kernel) ⟨Nat.le_of_ble_eq_true rfl, Nat.le_of_ble_eq_true rfl⟩) ⟨h_blind _ _ _ _ _ _ _, h_recv g t_a0 (by decide) so_10 (q := (RX9, TX9, 10)) rfl, h_pre _ hE hk hX hA hI hR g⟩ rfl rfl hl.1 rfl (lv_room (Nat.le_of_ble_eq_true rfl)) dX9_gainOf_48 ⟨Nat.le_of_ble_eq_true rfl, Nat.le_of_ble_eq_true rfl⟩) (fun rh12 h12 => ?_)
            have jrh12 : -2147483648 ≤ rh12.toInt ∧ rh12.toInt ≤ 2147483647 := ⟨xi_lo _, Int.le_of_lt_add_one (xi_hi _)⟩
            refine lv_isub hx hb dX9_gainOf_51 ?_
            refine lv_topi (fun v13 ev13 => ?_)
            have jv13 : -2147483648 ≤ v13.toInt ∧ v13.toInt ≤ 2147483647 := ⟨xi_lo _, Int.le_of_lt_add_one (xi_hi _)⟩
            refine lv_istore_n (lv' := [(2, .int v13), (0, .ref a0), (1, .int c), (3, .int v2)]) hx hb dX9_gainOf_52 rfl hl (by decide) rfl (fun ls hl => ?_)
            obtain ⟨v14, ev14⟩ : ∃ z : Int32, z = v2 + 1 := ⟨_, rfl⟩
            have jv14 : v14.toInt = v2.toInt + 1 := xi_add ev14 rfl (by decide) (by omega) (by omega)
            refine lv_iinc (v := v14) (lv' := [(3, .int v14), (2, .int v13), (0, .ref a0), (1, .int c)]) hx hb dX9_gainOf_53 hl (k := 3) rfl (by rw [ev14]; rfl) (by decide) rfl (fun ls hl => ?_)
            refine lv_goto (tgt := 4) hx hb dX9_gainOf_56 (by decide) ?_
            exact ih4 _ v13 v14 (lv_sub hl [2, 3, 1, 0] rfl) (by omega) (by omega) (by omega)
        · have ic7 := (xi_eq c7 rfl h_c : v6.toInt = c_t)
          refine lv_iload_n hx hb dX9_gainOf_22 rfl (lv_at hl 2 rfl) ?_
          refine lv_aload_n hx hb dX9_gainOf_23 rfl (lv_at hl 0 rfl) ?_
          refine lv_iload_n hx hb dX9_gainOf_24 rfl (lv_at hl 3 rfl) ?_
          refine lv_iload_n hx hb dX9_gainOf_25 rfl (lv_at hl 1 rfl) ?_
          refine vp_callSi (W.runV (As := [.int v2, .int c]) (rest := [.int v1]) ⟨hx, hb, hml, hown, hts⟩ (tX9_worthOfMove l E X A z I0 L0 a0 t_a0 v2 (v2.toInt) rfl (by omega) c (c_t) h_c (by omega)) (cwV 2 hts gX9_gainOf_X9_worthOfMove rfl rfl rfl (by decide +kernel) ⟨Nat.le_of_ble_eq_true rfl, Nat.le_of_ble_eq_true rfl⟩) ⟨h_blind _ _ _ _ _ _ _, h_recv g t_a0 (by decide) so_10 (q := (RX9, TX9, 10)) rfl, h_pre _ hE hk hX hA hI hR g⟩ rfl rfl hl.1 rfl (lv_room (Nat.le_of_ble_eq_true rfl)) dX9_gainOf_26 ⟨Nat.le_of_ble_eq_true rfl, Nat.le_of_ble_eq_true rfl⟩) (fun rh15 h15 => ?_)
          have jrh15 : -2147483648 ≤ rh15.toInt ∧ rh15.toInt ≤ 2147483647 := ⟨xi_lo _, Int.le_of_lt_add_one (xi_hi _)⟩
          refine lv_iadd hx hb dX9_gainOf_29 ?_
          refine lv_topi (fun v16 ev16 => ?_)
          have jv16 : -2147483648 ≤ v16.toInt ∧ v16.toInt ≤ 2147483647 := ⟨xi_lo _, Int.le_of_lt_add_one (xi_hi _)⟩
          refine lv_istore_n (lv' := [(2, .int v16), (0, .ref a0), (1, .int c), (3, .int v2)]) hx hb dX9_gainOf_30 rfl hl (by decide) rfl (fun ls hl => ?_)
          refine lv_goto (tgt := 53) hx hb dX9_gainOf_31 (by decide) ?_
          obtain ⟨v17, ev17⟩ : ∃ z : Int32, z = v2 + 1 := ⟨_, rfl⟩
          have jv17 : v17.toInt = v2.toInt + 1 := xi_add ev17 rfl (by decide) (by omega) (by omega)
          refine lv_iinc (v := v17) (lv' := [(3, .int v17), (2, .int v16), (0, .ref a0), (1, .int c)]) hx hb dX9_gainOf_53 hl (k := 3) rfl (by rw [ev17]; rfl) (by decide) rfl (fun ls hl => ?_)
          refine lv_goto (tgt := 4) hx hb dX9_gainOf_56 (by decide) ?_
          exact ih4 _ v16 v17 (lv_sub hl [2, 3, 1, 0] rfl) (by omega) (by omega) (by omega)
  exact loop4_0 _ _ (0) (0) (lv_sub hl [2, 3, 1, 0] rfl) ⟨by decide, by decide⟩ ⟨by decide, by decide⟩ (show (12 - (0 : Int)) < (((12 - (0 : Int)).toNat + 1 : Nat) : Int) by omega)
set_option maxHeartbeats 4000000 in
set_option maxRecDepth 100000 in
theorem tX9_carryOut (l : Launch) (E : tE) (X : tX) (A : Nat → Prop) (z : tZ) (I0 : tI) (L0 : tL) (a0 : Nat) (t_a0 : z.ty a0 = 10) : Met l yX9_carryOut wsX9_carryOut ({ frames := 2, cells := 0, slots := 0, locals := 128 }) (va_Pc [.ref a0] (h_P E X A z I0 L0)) (va_Qi (fun r (I1 : tI) => h_I z I1 ∧ h_F [(10, 3), (10, 4), (1102, 999), (1100, 999), (1101, 999), (7, 0)] z I0 I1 ∧ True) (fun (I1 : tI) t => h_B E A z I1 L0 t) A) 0 0 A := by
  refine Met.ofW (cc := cX9_carryOut) (maxL := 4) (ret := (some .int)) (by decide) rfl ?_
  intro pr_ ev_ s m args below meth cd_ s₁ B hml hv
  obtain ⟨rfl, hE, hk, hX, hA, hK, hI, hR, hB0⟩ := hv
  have g : h_G h_so h_fk E A z I0 L0 s s.heap s.heap [] := ⟨hK, va_S.rf, hB0⟩
  have hF : h_F [(10, 3), (10, 4), (1102, 999), (1100, 999), (1101, 999), (7, 0)] z I0 I0 := h_F.rf
  have hx := B.exec
  have hb := B.bytes
  have hr := B.returns
  have hts := atoms_spec (ws := wsX9_carryOut) B.pre
  have hown : s.vm.findClass RX9 = some m.cls := findClass_of_methodNamed B.named
  have hlocks := B.notSynchronized
  have iX9 : ∀ w ∈ u_ws RX9 TX9 10, w ∈ wsX9_carryOut := by decide +kernel
  have iX6 : ∀ w ∈ u_ws RX6 TX6 9, w ∈ wsX9_carryOut := by decide +kernel
  have hl := lv_entry ([.ref a0]) (n := 4) (Nat.le_of_ble_eq_true rfl)
  rw [lg_entry_eq]
  generalize (lg_sl ([.ref a0]) ++ List.replicate (4 - (lg_sl ([.ref a0])).length) Slot.unset).toArray = ls at hl ⊢
  have hl : lv_has ls 4 [(0, .ref a0)] := hl
  refine lv_aload_n hx hb dX9_carryOut_0 rfl (lv_at hl 0 rfl) ?_
  refine h_get (v := .int (I0 a0 3)) hx hb hts iX9 hown g t_a0 (by decide) so_10 rfl 3 (by decide) (hts (.fieldLink RX9 43 "CapLeague$Trade" "size" "I") (by decide +kernel)) rfl dX9_carryOut_1 rfl ?_
  refine lv_topi (fun v1 ev1 => ?_)
  have jv1 := hI.rd a0 3 t_a0 ev1 (rfl : h_bd 10 3 = (0, 12))
  refine lv_istore_n (lv' := [(1, .int v1), (0, .ref a0)]) hx hb dX9_carryOut_4 rfl hl (by decide) rfl (fun ls hl => ?_)
  refine lv_iconst (v := 0) hx hb dX9_carryOut_5 (by decide) ?_
  refine lv_istore_n (lv' := [(2, .int 0), (1, .int v1), (0, .ref a0)]) hx hb dX9_carryOut_6 rfl hl (by decide) rfl (fun ls hl => ?_)
  have loop7_0 : ∀ (n : Nat) (I3 : tI) (H : Heap) (locs : List Loc) (ls : Array Slot) (v2 : Int32), h_G h_so h_fk E A z I3 L0 s s.heap H locs → h_I z I3 → h_F [(10, 3), (10, 4), (1102, 999), (1100, 999), (1101, 999), (7, 0)] z I0 I3 → lv_has ls 4 [(0, .ref a0), (1, .int v1), (2, .int v2)] → (0 ≤ v2.toInt ∧ v2.toInt ≤ 12) → (12 - v2.toInt) < (n : Int) → W pr_ l ev_ (headSpec wsX9_carryOut ({ frames := 2, cells := 0, slots := 0, locals := 128 })).room s m ([.ref a0] : List Value).toArray below meth cd_ H locs 0 0 (MQ below (va_Qi (fun r (I1 : tI) => h_I z I1 ∧ h_F [(10, 3), (10, 4), (1102, 999), (1100, 999), (1101, 999), (7, 0)] z I0 I1 ∧ True) (fun (I1 : tI) t => h_B E A z I1 L0 t) A) ([.ref a0] : List Value).toArray s 0 0 A) (F0 m 7 ls []) := by
    intro n
    induction n with
    | zero => intro I3 H locs ls v2 g hI hF hl jv2 hn; exact absurd hn (by omega)
    | succ n ih7 =>
      intro I3 H locs ls v2 g hI hF hl jv2 hn
      refine lv_iload_n hx hb dX9_carryOut_7 rfl (lv_at hl 2 rfl) ?_
      refine lv_iload_n hx hb dX9_carryOut_8 rfl (lv_at hl 1 rfl) ?_
      refine lv_icmp_ge (tgt := 96) hx hb dX9_carryOut_9 (by decide) (fun c4 => ?_) (fun c4 => ?_)
      · have ic4 := (xi_le c4 rfl rfl : v1.toInt ≤ v2.toInt)
        refine lv_aload_n hx hb dX9_carryOut_96 rfl (lv_at hl 0 rfl) ?_
        refine va_callv (va_runV (As := []) (rest := []) ⟨hx, hb, hml, hown, hts⟩ (tX9_clear l E X A z I3 L0 a0 t_a0) (cwV 0 hts gX9_carryOut_X9_clear rfl rfl rfl (by decide +kernel) ⟨Nat.le_of_ble_eq_true rfl, Nat.le_of_ble_eq_true rfl⟩) ⟨h_blind _ _ _ _ _ _ _, h_recv g t_a0 (by decide) so_10 (q := (RX9, TX9, 10)) rfl, h_pre _ hE hk hX hA hI hR g⟩ rfl rfl hl.1 rfl (lv_room (Nat.le_of_ble_eq_true rfl)) dX9_carryOut_97 ⟨Nat.le_of_ble_eq_true rfl, Nat.le_of_ble_eq_true rfl⟩) g.2.1 (fun q _ h => h) (fun q h => h) (fun I6 t H1 locs ht hvm h5 hB hz1 hk1 hS => ?_)
        obtain ⟨hI, fh5, h5⟩ := h5
        replace g := h_after g hB ht hS
        generalize H1 = H at g
        clear hB hk1 hz1 ht hvm hS
        have hF := hF.call fh5 rfl
        refine lv_iload_n hx hb dX9_carryOut_100 rfl (lv_at hl 1 rfl) ?_
        have hS := g.2.1
        exact W.iret (v := v1) hx hb hr (fun t ht hW => ⟨⟨v1, I6, rfl, ⟨hI, hF, trivial⟩, h_ret g ht⟩, hS.F ht⟩) hS.2.2 dX9_carryOut_101
      · have ic4 := (xi_nle c4 rfl rfl : v2.toInt < v1.toInt)
        refine lv_aload_n hx hb dX9_carryOut_12 rfl (lv_at hl 0 rfl) ?_
        obtain ⟨b7, rb7, tb7⟩ := hR.at a0 5 t_a0 (rfl : h_rs 10 5 = some (1005, false)) (by decide)
        refine h_get (v := .ref b7) hx hb hts iX9 hown g t_a0 (by decide) so_10 rfl 5 (by decide) (hts (.fieldLink RX9 18 "CapLeague$Trade" "isTurn" "[Z") (by decide +kernel)) rfl dX9_carryOut_13 (by show va_rf (z.R a0 5) = _; rw [rb7]; rfl) ?_
        refine lv_iload_n hx hb dX9_carryOut_16 rfl (lv_at hl 2 rfl) ?_
        refine h_zald hx hb g tb7 (by decide) so_1005 (xi_in (by omega) (by omega)) dX9_carryOut_17 ?_
        refine lv_topi (fun v8 ev8 => ?_)
        have jv8 := hI.rd b7 v2.toNatClampNeg tb7 ev8 (rfl : h_bd 1005 _ = (0, 1))
        refine lv_if_eq (tgt := 25) hx hb dX9_carryOut_18 (by decide) (fun c9 => ?_) (fun c9 => ?_)
        · have ic9 := (xi_eq c9 rfl (by decide) : v8.toInt = 0)
          refine lv_aload_n hx hb dX9_carryOut_25 rfl (lv_at hl 0 rfl) ?_
          obtain ⟨b10, rb10, tb10⟩ := hR.at a0 0 t_a0 (rfl : h_rs 10 0 = some (1, false)) (by decide)
          refine h_get (v := .ref b10) hx hb hts iX9 hown g t_a0 (by decide) so_10 rfl 0 (by decide) (hts (.fieldLink RX9 35 "CapLeague$Trade" "books" "LCapLeague$Books;") (by decide +kernel)) rfl dX9_carryOut_26 (by show va_rf (z.R a0 0) = _; rw [rb10]; rfl) ?_
          refine lv_aload_n hx hb dX9_carryOut_29 rfl (lv_at hl 0 rfl) ?_
          obtain ⟨b11, rb11, tb11⟩ := hR.at a0 6 t_a0 (rfl : h_rs 10 6 = some (1006, false)) (by decide)
          refine h_get (v := .ref b11) hx hb hts iX9 hown g t_a0 (by decide) so_10 rfl 6 (by decide) (hts (.fieldLink RX9 22 "CapLeague$Trade" "thing" "[I") (by decide +kernel)) rfl dX9_carryOut_30 (by show va_rf (z.R a0 6) = _; rw [rb11]; rfl) ?_
          refine lv_iload_n hx hb dX9_carryOut_33 rfl (lv_at hl 2 rfl) ?_
          refine h_ald hx hb g tb11 (by decide) so_1006 (xi_in (by omega) (by omega)) dX9_carryOut_34 ?_
          refine lv_topi (fun v12 ev12 => ?_)
          have jv12 := hI.rd b11 v2.toNatClampNeg tb11 ev12 (rfl : h_bd 1006 _ = ((-2147483648), 2147483647))
          refine va_csq (W.runV (As := [.int v12]) (rest := []) ⟨hx, hb, hml, hown, hts⟩ (tX0_playerAt l E X A z I3 L0 b10 tb10 v12 (v12.toInt) rfl) (cwV 1 hts gX9_carryOut_X0_playerAt rfl rfl rfl (by decide +kernel) ⟨Nat.le_of_ble_eq_true rfl, Nat.le_of_ble_eq_true rfl⟩) ⟨h_blind _ _ _ _ _ _ _, h_recv g tb10 (by decide) so_1 (q := (RX0, TX0, 9)) rfl, h_pre _ hE hk hX hA hI hR g⟩ rfl rfl hl.1 rfl (lv_room (Nat.le_of_ble_eq_true rfl)) dX9_carryOut_35 ⟨Nat.le_of_ble_eq_true rfl, Nat.le_of_ble_eq_true rfl⟩) (fun rh13 h13 => ?_)
          rcases h13 with rfl | ⟨rh13, rfl, trh13⟩
          · refine xw_v (v := .null) rfl ?_
            refine lv_astore_nN (lv' := [(3, .null), (0, .ref a0), (1, .int v1), (2, .int v2)]) hx hb dX9_carryOut_38 rfl hl (by decide) rfl (fun ls hl => ?_)
            refine lv_aload_n hx hb dX9_carryOut_39 rfl (lv_at hl 1 rfl) ?_
            refine h_get (v := .ref b7) hx hb hts iX9 hown g t_a0 (by decide) so_10 rfl 5 (by decide) (hts (.fieldLink RX9 18 "CapLeague$Trade" "isTurn" "[Z") (by decide +kernel)) rfl dX9_carryOut_40 (by show va_rf (z.R a0 5) = _; rw [rb7]; rfl) ?_
            refine lv_iload_n hx hb dX9_carryOut_43 rfl (lv_at hl 3 rfl) ?_
            refine h_zald hx hb g tb7 (by decide) so_1005 (xi_in (by omega) (by omega)) dX9_carryOut_44 ?_
            refine xw_i (ev8.symm) ?_
            refine lv_if_eq (tgt := 76) hx hb dX9_carryOut_45 (by decide) (fun c14 => ?_) (fun h => absurd (xi_ne h rfl (by decide) : v8.toInt ≠ 0) (by omega))
            have ic14 := (xi_eq c14 rfl (by decide) : v8.toInt = 0)
            refine lv_aload_nN hx hb dX9_carryOut_76 rfl (lv_at hl 0 rfl) ?_
            refine lv_ifnullN (tgt := 90) hx hb dX9_carryOut_77 (by decide) ?_
            obtain ⟨v15, ev15⟩ : ∃ z : Int32, z = v2 + 1 := ⟨_, rfl⟩
            have jv15 : v15.toInt = v2.toInt + 1 := xi_add ev15 rfl (by decide) (by omega) (by omega)
            refine lv_iinc (v := v15) (lv' := [(2, .int v15), (3, .null), (0, .ref a0), (1, .int v1)]) hx hb dX9_carryOut_90 hl (k := 3) rfl (by rw [ev15]; rfl) (by decide) rfl (fun ls hl => ?_)
            refine lv_goto (tgt := 7) hx hb dX9_carryOut_93 (by decide) ?_
            exact ih7 I3 _ _ _ v15 g hI hF (lv_sub hl [2, 3, 0] rfl) (by omega) (by omega)
          · refine xw_v (v := .ref rh13) rfl ?_
            refine lv_astore_n (lv' := [(3, .ref rh13), (0, .ref a0), (1, .int v1), (2, .int v2)]) hx hb dX9_carryOut_38 rfl hl (by decide) rfl (fun ls hl => ?_)
            refine lv_aload_n hx hb dX9_carryOut_39 rfl (lv_at hl 1 rfl) ?_
            refine h_get (v := .ref b7) hx hb hts iX9 hown g t_a0 (by decide) so_10 rfl 5 (by decide) (hts (.fieldLink RX9 18 "CapLeague$Trade" "isTurn" "[Z") (by decide +kernel)) rfl dX9_carryOut_40 (by show va_rf (z.R a0 5) = _; rw [rb7]; rfl) ?_
            refine lv_iload_n hx hb dX9_carryOut_43 rfl (lv_at hl 3 rfl) ?_
            refine h_zald hx hb g tb7 (by decide) so_1005 (xi_in (by omega) (by omega)) dX9_carryOut_44 ?_
            refine xw_i (ev8.symm) ?_
            refine lv_if_eq (tgt := 76) hx hb dX9_carryOut_45 (by decide) (fun c16 => ?_) (fun h => absurd (xi_ne h rfl (by decide) : v8.toInt ≠ 0) (by omega))
            have ic16 := (xi_eq c16 rfl (by decide) : v8.toInt = 0)
            refine lv_aload_n hx hb dX9_carryOut_76 rfl (lv_at hl 0 rfl) ?_
            refine lv_ifnull hx hb dX9_carryOut_77 ?_
            refine lv_aload_n hx hb dX9_carryOut_80 rfl (lv_at hl 0 rfl) ?_
            refine lv_aload_n hx hb dX9_carryOut_81 rfl (lv_at hl 1 rfl) ?_
            obtain ⟨b17, rb17, tb17⟩ := hR.at a0 8 t_a0 (rfl : h_rs 10 8 = some (1008, false)) (by decide)
            refine h_get (v := .ref b17) hx hb hts iX9 hown g t_a0 (by decide) so_10 rfl 8 (by decide) (hts (.fieldLink RX9 29 "CapLeague$Trade" "to" "[I") (by decide +kernel)) rfl dX9_carryOut_82 (by show va_rf (z.R a0 8) = _; rw [rb17]; rfl) ?_
            refine lv_iload_n hx hb dX9_carryOut_85 rfl (lv_at hl 3 rfl) ?_
            refine h_ald hx hb g tb17 (by decide) so_1008 (xi_in (by omega) (by omega)) dX9_carryOut_86 ?_
            refine lv_topi (fun v18 ev18 => ?_)
            have jv18 := hI.rd b17 v2.toNatClampNeg tb17 ev18 (rfl : h_bd 1008 _ = (0, 7))
            refine h_putI (ty := .int) (v := v18) hx hb hts iX6 tyX6 tyX6_ok nmX6 hown g trh13 (by decide) so_7 rfl 0 (by decide) rfl (hts (.fieldLink RX9 124 "CapLeague$Player" "club" "I") (by decide +kernel)) rfl rfl (by decide +kernel) rfl rfl dX9_carryOut_87 (fun I19 H locs eI19 g => ?_)
            have hI := hI.wr eI19 trh13 (rfl : h_bd 7 0 = ((-1), 7)) (by omega) (by omega)
            have hF := hF.wr eI19 trh13 rfl
            obtain ⟨v20, ev20⟩ : ∃ z : Int32, z = v2 + 1 := ⟨_, rfl⟩
            have jv20 : v20.toInt = v2.toInt + 1 := xi_add ev20 rfl (by decide) (by omega) (by omega)
            refine lv_iinc (v := v20) (lv' := [(2, .int v20), (3, .ref rh13), (0, .ref a0), (1, .int v1)]) hx hb dX9_carryOut_90 hl (k := 3) rfl (by rw [ev20]; rfl) (by decide) rfl (fun ls hl => ?_)
            refine lv_goto (tgt := 7) hx hb dX9_carryOut_93 (by decide) ?_
            exact ih7 I19 _ _ _ v20 g hI hF (lv_sub hl [2, 3, 0] rfl) (by omega) (by omega)
        · have ic9 := (xi_ne c9 rfl (by decide) : v8.toInt ≠ 0)
          refine lv_null hx hb dX9_carryOut_21 ?_
          refine lv_goto (tgt := 38) hx hb dX9_carryOut_22 (by decide) ?_
          refine lv_astore_nN (lv' := [(3, .null), (0, .ref a0), (1, .int v1), (2, .int v2)]) hx hb dX9_carryOut_38 rfl hl (by decide) rfl (fun ls hl => ?_)
          refine lv_aload_n hx hb dX9_carryOut_39 rfl (lv_at hl 1 rfl) ?_
          refine h_get (v := .ref b7) hx hb hts iX9 hown g t_a0 (by decide) so_10 rfl 5 (by decide) (hts (.fieldLink RX9 18 "CapLeague$Trade" "isTurn" "[Z") (by decide +kernel)) rfl dX9_carryOut_40 (by show va_rf (z.R a0 5) = _; rw [rb7]; rfl) ?_
          refine lv_iload_n hx hb dX9_carryOut_43 rfl (lv_at hl 3 rfl) ?_
          refine h_zald hx hb g tb7 (by decide) so_1005 (xi_in (by omega) (by omega)) dX9_carryOut_44 ?_
          refine xw_i (ev8.symm) ?_
          refine lv_if_eq (tgt := 76) hx hb dX9_carryOut_45 (by decide) (fun h => absurd (xi_eq h rfl (by decide) : v8.toInt = 0) (by omega)) (fun c21 => ?_)
          have ic21 := (xi_ne c21 rfl (by decide) : v8.toInt ≠ 0)
          refine lv_aload_n hx hb dX9_carryOut_48 rfl (lv_at hl 1 rfl) ?_
          obtain ⟨b22, rb22, tb22⟩ := hR.at a0 1 t_a0 (rfl : h_rs 10 1 = some (11, false)) (by decide)
          refine h_get (v := .ref b22) hx hb hts iX9 hown g t_a0 (by decide) so_10 rfl 1 (by decide) (hts (.fieldLink RX9 39 "CapLeague$Trade" "turns" "LCapLeague$Turns;") (by decide +kernel)) rfl dX9_carryOut_49 (by show va_rf (z.R a0 1) = _; rw [rb22]; rfl) ?_
          refine lv_aload_n hx hb dX9_carryOut_52 rfl (lv_at hl 1 rfl) ?_
          obtain ⟨b23, rb23, tb23⟩ := hR.at a0 6 t_a0 (rfl : h_rs 10 6 = some (1006, false)) (by decide)
          refine h_get (v := .ref b23) hx hb hts iX9 hown g t_a0 (by decide) so_10 rfl 6 (by decide) (hts (.fieldLink RX9 22 "CapLeague$Trade" "thing" "[I") (by decide +kernel)) rfl dX9_carryOut_53 (by show va_rf (z.R a0 6) = _; rw [rb23]; rfl) ?_
          refine lv_iload_n hx hb dX9_carryOut_56 rfl (lv_at hl 3 rfl) ?_
          refine h_ald hx hb g tb23 (by decide) so_1006 (xi_in (by omega) (by omega)) dX9_carryOut_57 ?_
          refine lv_topi (fun v24 ev24 => ?_)
          have jv24 := hI.rd b23 v2.toNatClampNeg tb23 ev24 (rfl : h_bd 1006 _ = ((-2147483648), 2147483647))
          refine lv_aload_n hx hb dX9_carryOut_58 rfl (lv_at hl 1 rfl) ?_
          obtain ⟨b25, rb25, tb25⟩ := hR.at a0 8 t_a0 (rfl : h_rs 10 8 = some (1008, false)) (by decide)
          refine h_get (v := .ref b25) hx hb hts iX9 hown g t_a0 (by decide) so_10 rfl 8 (by decide) (hts (.fieldLink RX9 29 "CapLeague$Trade" "to" "[I") (by decide +kernel)) rfl dX9_carryOut_59 (by show va_rf (z.R a0 8) = _; rw [rb25]; rfl) ?_
          refine lv_iload_n hx hb dX9_carryOut_62 rfl (lv_at hl 3 rfl) ?_
          refine h_ald hx hb g tb25 (by decide) so_1008 (xi_in (by omega) (by omega)) dX9_carryOut_63 ?_
          refine lv_topi (fun v26 ev26 => ?_)
          have jv26 := hI.rd b25 v2.toNatClampNeg tb25 ev26 (rfl : h_bd 1008 _ = (0, 7))
          refine lv_aload_n hx hb dX9_carryOut_64 rfl (lv_at hl 1 rfl) ?_
          obtain ⟨b27, rb27, tb27⟩ := hR.at a0 9 t_a0 (rfl : h_rs 10 9 = some (1009, false)) (by decide)
          refine h_get (v := .ref b27) hx hb hts iX9 hown g t_a0 (by decide) so_10 rfl 9 (by decide) (hts (.fieldLink RX9 32 "CapLeague$Trade" "shield" "[I") (by decide +kernel)) rfl dX9_carryOut_65 (by show va_rf (z.R a0 9) = _; rw [rb27]; rfl) ?_
          refine lv_iload_n hx hb dX9_carryOut_68 rfl (lv_at hl 3 rfl) ?_
          refine h_ald hx hb g tb27 (by decide) so_1009 (xi_in (by omega) (by omega)) dX9_carryOut_69 ?_
          refine lv_topi (fun v28 ev28 => ?_)
          have jv28 := hI.rd b27 v2.toNatClampNeg tb27 ev28 (rfl : h_bd 1009 _ = ((-2147483648), 2147483647))
          refine va_callv (va_runV (As := [.int v24, .int v26, .int v28]) (rest := []) ⟨hx, hb, hml, hown, hts⟩ (tX10_hand l E X A z I3 L0 b22 tb22 v24 (v24.toInt) rfl v26 (v26.toInt) rfl v28 (v28.toInt) rfl) (cwV 3 hts gX9_carryOut_X10_hand rfl rfl rfl (by decide +kernel) ⟨Nat.le_of_ble_eq_true rfl, Nat.le_of_ble_eq_true rfl⟩) ⟨h_blind _ _ _ _ _ _ _, h_recv g tb22 (by decide) so_11 (q := (RX10, TX10, 4)) rfl, h_pre _ hE hk hX hA hI hR g⟩ rfl rfl hl.1 rfl (lv_room (Nat.le_of_ble_eq_true rfl)) dX9_carryOut_70 ⟨Nat.le_of_ble_eq_true rfl, Nat.le_of_ble_eq_true rfl⟩) g.2.1 (fun q _ h => h) (fun q h => h) (fun I30 t H1 locs ht hvm h29 hB hz1 hk1 hS => ?_)
          obtain ⟨hI, fh29, h29⟩ := h29
          replace g := h_after g hB ht hS
          generalize H1 = H at g
          clear hB hk1 hz1 ht hvm hS
          have hF := hF.call fh29 rfl
          refine lv_goto (tgt := 90) hx hb dX9_carryOut_73 (by decide) ?_
          obtain ⟨v31, ev31⟩ : ∃ z : Int32, z = v2 + 1 := ⟨_, rfl⟩
          have jv31 : v31.toInt = v2.toInt + 1 := xi_add ev31 rfl (by decide) (by omega) (by omega)
          refine lv_iinc (v := v31) (lv' := [(2, .int v31), (3, .null), (0, .ref a0), (1, .int v1)]) hx hb dX9_carryOut_90 hl (k := 3) rfl (by rw [ev31]; rfl) (by decide) rfl (fun ls hl => ?_)
          refine lv_goto (tgt := 7) hx hb dX9_carryOut_93 (by decide) ?_
          exact ih7 I30 _ _ _ v31 g hI hF (lv_sub hl [2, 3, 0] rfl) (by omega) (by omega)
  exact loop7_0 _ I0 _ _ _ (0) g hI hF (lv_sub hl [2, 1, 0] rfl) ⟨by decide, by decide⟩ (show (12 - (0 : Int)) < (((12 - (0 : Int)).toNat + 1 : Nat) : Int) by omega)
