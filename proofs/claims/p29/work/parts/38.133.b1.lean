set_option maxHeartbeats 4000000 in
set_option maxRecDepth 100000 in
theorem tX6_isSignedB (l : Launch) (E : tE) (X : tX) (A : Nat → Prop) (z : tZ) (I0 : tI) (L0 : tL) (a0 : Nat) (t_a0 : z.ty a0 = 7) : Met l yX6_isSigned wsX6_isSigned ({ frames := 1, cells := 0, slots := 0, locals := 64 }) (va_Pc [.ref a0] (h_P E X A z I0 L0)) (vp_Si (fun r => (0 ≤ r.toInt ∧ r.toInt ≤ 1) ∧ ((r.toInt = 1 ∧ (I0 a0 0).toInt ≠ -1) ∨ (r.toInt = 0 ∧ (I0 a0 0).toInt = -1)))) 0 0 (fun _ => False) := by
  refine Met.ofW (cc := cX6_isSigned) (maxL := 1) (ret := (some .boolean)) (by decide) rfl ?_
  intro pr_ ev_ s m args below meth cd_ s₁ B hml hv
  obtain ⟨rfl, hE, hk, hX, hA, hK, hI, hR, hB0⟩ := hv
  have g : h_G h_so h_fk E A z I0 L0 s s.heap s.heap [] := ⟨hK, va_S.rf, hB0⟩
  have hx := B.exec
  have hb := B.bytes
  have hr := B.returns
  have hts := atoms_spec (ws := wsX6_isSigned) B.pre
  have hown : s.vm.findClass RX6 = some m.cls := findClass_of_methodNamed B.named
  have hlocks := B.notSynchronized
  have iX6 : ∀ w ∈ u_ws RX6 TX6 9, w ∈ wsX6_isSigned := by decide +kernel
  have hl := lv_entry ([.ref a0]) (n := 1) (Nat.le_of_ble_eq_true rfl)
  rw [lg_entry_eq]
  generalize (lg_sl ([.ref a0]) ++ List.replicate (1 - (lg_sl ([.ref a0])).length) Slot.unset).toArray = ls at hl ⊢
  have hl : lv_has ls 1 [(0, .ref a0)] := hl
  obtain ⟨f0_0, ef0_0⟩ : ∃ v : Int32, v = I0 a0 0 := ⟨_, rfl⟩
  have qf0_0 : (I0 a0 0).toInt = f0_0.toInt := congrArg Int32.toInt ef0_0.symm
  have jf0_0 := hI.rd a0 0 t_a0 ef0_0 (rfl : h_bd 7 0 = ((-1), 7))
  obtain ⟨f0_1, ef0_1⟩ : ∃ v : Int32, v = I0 a0 1 := ⟨_, rfl⟩
  have qf0_1 : (I0 a0 1).toInt = f0_1.toInt := congrArg Int32.toInt ef0_1.symm
  have jf0_1 := hI.rd a0 1 t_a0 ef0_1 (rfl : h_bd 7 1 = ((-2147483648), 2147483647))
  obtain ⟨f0_2, ef0_2⟩ : ∃ v : Int32, v = I0 a0 2 := ⟨_, rfl⟩
  have qf0_2 : (I0 a0 2).toInt = f0_2.toInt := congrArg Int32.toInt ef0_2.symm
  have jf0_2 := hI.rd a0 2 t_a0 ef0_2 (rfl : h_bd 7 2 = ((-2147483648), 2147483647))
  obtain ⟨f0_3, ef0_3⟩ : ∃ v : Int32, v = I0 a0 3 := ⟨_, rfl⟩
  have qf0_3 : (I0 a0 3).toInt = f0_3.toInt := congrArg Int32.toInt ef0_3.symm
  have jf0_3 := hI.rd a0 3 t_a0 ef0_3 (rfl : h_bd 7 3 = ((-2147483648), 2147483647))
  obtain ⟨f0_4, ef0_4⟩ : ∃ v : Int32, v = I0 a0 4 := ⟨_, rfl⟩
  have qf0_4 : (I0 a0 4).toInt = f0_4.toInt := congrArg Int32.toInt ef0_4.symm
  have jf0_4 := hI.rd a0 4 t_a0 ef0_4 (rfl : h_bd 7 4 = ((-2147483648), 2147483647))
  obtain ⟨f0_5, ef0_5⟩ : ∃ v : Int32, v = I0 a0 5 := ⟨_, rfl⟩
  have qf0_5 : (I0 a0 5).toInt = f0_5.toInt := congrArg Int32.toInt ef0_5.symm
  have jf0_5 := hI.rd a0 5 t_a0 ef0_5 (rfl : h_bd 7 5 = ((-2147483648), 2147483647))
  obtain ⟨f0_6, ef0_6⟩ : ∃ v : Int32, v = I0 a0 6 := ⟨_, rfl⟩
  have qf0_6 : (I0 a0 6).toInt = f0_6.toInt := congrArg Int32.toInt ef0_6.symm
  have jf0_6 := hI.rd a0 6 t_a0 ef0_6 (rfl : h_bd 7 6 = (0, 1))
  obtain ⟨f0_7, ef0_7⟩ : ∃ v : Int32, v = I0 a0 7 := ⟨_, rfl⟩
  have qf0_7 : (I0 a0 7).toInt = f0_7.toInt := congrArg Int32.toInt ef0_7.symm
  have jf0_7 := hI.rd a0 7 t_a0 ef0_7 (rfl : h_bd 7 7 = (0, 1))
  refine lv_aload_n hx hb dX6_isSigned_0 rfl (lv_at hl 0 rfl) ?_
  refine h_get (v := .int f0_0) hx hb hts iX6 hown g t_a0 (by decide) so_7 rfl 0 (by decide) (hts (.fieldLink RX6 9 "CapLeague$Player" "club" "I") (by decide +kernel)) rfl dX6_isSigned_1 (congrArg Value.int (ef0_0.symm)) ?_
  refine lv_iconst (v := (-1)) hx hb dX6_isSigned_4 (by decide) ?_
  refine lv_icmp_eq (tgt := 12) hx hb dX6_isSigned_5 (by decide) (fun c1 => ?_) (fun c1 => ?_)
  · have ic1 := (xi_eq c1 rfl (by decide) : f0_0.toInt = (-1))
    refine lv_iconst (v := 0) hx hb dX6_isSigned_12 (by decide) ?_
    exact W.zret (v := 0) hx hb hr (by decide) (fun t ht hW => ⟨0, rfl, ⟨⟨(by decide), (by decide)⟩, (by rw [← ef0_0]; have z9 : (0 : Int32).toInt = 0 := (by decide); omega)⟩, ht⟩) (fun _ h => by cases h) dX6_isSigned_13
  · have ic1 := (xi_ne c1 rfl (by decide) : f0_0.toInt ≠ (-1))
    refine lv_iconst (v := 1) hx hb dX6_isSigned_8 (by decide) ?_
    refine lv_goto (tgt := 13) hx hb dX6_isSigned_9 (by decide) ?_
    exact W.zret (v := 1) hx hb hr (by decide) (fun t ht hW => ⟨1, rfl, ⟨⟨(by decide), (by decide)⟩, (by rw [← ef0_0]; have z9 : (1 : Int32).toInt = 1 := (by decide); omega)⟩, ht⟩) (fun _ h => by cases h) dX6_isSigned_13
set_option maxHeartbeats 4000000 in
set_option maxRecDepth 100000 in
theorem tX6_payInB (l : Launch) (E : tE) (X : tX) (A : Nat → Prop) (z : tZ) (I0 : tI) (L0 : tL) (a0 : Nat) (t_a0 : z.ty a0 = 7) (y : Int32) (y_t : Int) (h_y : y.toInt = y_t) : Met l yX6_payIn wsX6_payIn ({ frames := 2, cells := 0, slots := 0, locals := 128 }) (va_Pc [.ref a0, .int y] (h_P E X A z I0 L0)) (vp_Si (fun r => (r = q_pay (I0 a0 0) (I0 a0 1) (I0 a0 2) (I0 a0 3) (I0 a0 4) y))) 0 0 (fun _ => False) := by
  refine Met.ofW (cc := cX6_payIn) (maxL := 2) (ret := (some .int)) (by decide) rfl ?_
  intro pr_ ev_ s m args below meth cd_ s₁ B hml hv
  obtain ⟨rfl, hE, hk, hX, hA, hK, hI, hR, hB0⟩ := hv
  have g : h_G h_so h_fk E A z I0 L0 s s.heap s.heap [] := ⟨hK, va_S.rf, hB0⟩
  have hx := B.exec
  have hb := B.bytes
  have hr := B.returns
  have hts := atoms_spec (ws := wsX6_payIn) B.pre
  have hown : s.vm.findClass RX6 = some m.cls := findClass_of_methodNamed B.named
  have hlocks := B.notSynchronized
  have iX6 : ∀ w ∈ u_ws RX6 TX6 9, w ∈ wsX6_payIn := by decide +kernel
  have hl := lv_entry ([.ref a0, .int y]) (n := 2) (Nat.le_of_ble_eq_true rfl)
  rw [lg_entry_eq]
  generalize (lg_sl ([.ref a0, .int y]) ++ List.replicate (2 - (lg_sl ([.ref a0, .int y])).length) Slot.unset).toArray = ls at hl ⊢
  have hl : lv_has ls 2 [(0, .ref a0), (1, .int y)] := hl
  have b_y : -2147483648 ≤ y_t ∧ y_t ≤ 2147483647 := h_y ▸ ⟨xi_lo y, Int.le_of_lt_add_one (xi_hi y)⟩
  obtain ⟨f0_0, ef0_0⟩ : ∃ v : Int32, v = I0 a0 0 := ⟨_, rfl⟩
  have qf0_0 : (I0 a0 0).toInt = f0_0.toInt := congrArg Int32.toInt ef0_0.symm
  have jf0_0 := hI.rd a0 0 t_a0 ef0_0 (rfl : h_bd 7 0 = ((-1), 7))
  obtain ⟨f0_1, ef0_1⟩ : ∃ v : Int32, v = I0 a0 1 := ⟨_, rfl⟩
  have qf0_1 : (I0 a0 1).toInt = f0_1.toInt := congrArg Int32.toInt ef0_1.symm
  have jf0_1 := hI.rd a0 1 t_a0 ef0_1 (rfl : h_bd 7 1 = ((-2147483648), 2147483647))
  obtain ⟨f0_2, ef0_2⟩ : ∃ v : Int32, v = I0 a0 2 := ⟨_, rfl⟩
  have qf0_2 : (I0 a0 2).toInt = f0_2.toInt := congrArg Int32.toInt ef0_2.symm
  have jf0_2 := hI.rd a0 2 t_a0 ef0_2 (rfl : h_bd 7 2 = ((-2147483648), 2147483647))
  obtain ⟨f0_3, ef0_3⟩ : ∃ v : Int32, v = I0 a0 3 := ⟨_, rfl⟩
  have qf0_3 : (I0 a0 3).toInt = f0_3.toInt := congrArg Int32.toInt ef0_3.symm
  have jf0_3 := hI.rd a0 3 t_a0 ef0_3 (rfl : h_bd 7 3 = ((-2147483648), 2147483647))
  obtain ⟨f0_4, ef0_4⟩ : ∃ v : Int32, v = I0 a0 4 := ⟨_, rfl⟩
  have qf0_4 : (I0 a0 4).toInt = f0_4.toInt := congrArg Int32.toInt ef0_4.symm
  have jf0_4 := hI.rd a0 4 t_a0 ef0_4 (rfl : h_bd 7 4 = ((-2147483648), 2147483647))
  obtain ⟨f0_5, ef0_5⟩ : ∃ v : Int32, v = I0 a0 5 := ⟨_, rfl⟩
  have qf0_5 : (I0 a0 5).toInt = f0_5.toInt := congrArg Int32.toInt ef0_5.symm
  have jf0_5 := hI.rd a0 5 t_a0 ef0_5 (rfl : h_bd 7 5 = ((-2147483648), 2147483647))
  obtain ⟨f0_6, ef0_6⟩ : ∃ v : Int32, v = I0 a0 6 := ⟨_, rfl⟩
  have qf0_6 : (I0 a0 6).toInt = f0_6.toInt := congrArg Int32.toInt ef0_6.symm
  have jf0_6 := hI.rd a0 6 t_a0 ef0_6 (rfl : h_bd 7 6 = (0, 1))
  obtain ⟨f0_7, ef0_7⟩ : ∃ v : Int32, v = I0 a0 7 := ⟨_, rfl⟩
  have qf0_7 : (I0 a0 7).toInt = f0_7.toInt := congrArg Int32.toInt ef0_7.symm
  have jf0_7 := hI.rd a0 7 t_a0 ef0_7 (rfl : h_bd 7 7 = (0, 1))
  have qy : y.toInt = y_t := h_y
  refine lv_aload_n hx hb dX6_payIn_0 rfl (lv_at hl 0 rfl) ?_
  refine vp_callSi (W.runV (As := []) (rest := []) ⟨hx, hb, hml, hown, hts⟩ (tX6_isSignedB l E X A z I0 L0 a0 t_a0) (cwV 0 hts gX6_payIn_X6_isSigned rfl rfl rfl (by decide +kernel) ⟨Nat.le_of_ble_eq_true rfl, Nat.le_of_ble_eq_true rfl⟩) ⟨h_blind _ _ _ _ _ _ _, h_recv g t_a0 (by decide) so_7 (q := (RX6, TX6, 9)) rfl, h_pre _ hE hk hX hA hI hR g⟩ rfl rfl hl.1 rfl (lv_room (Nat.le_of_ble_eq_true rfl)) dX6_payIn_1 ⟨Nat.le_of_ble_eq_true rfl, Nat.le_of_ble_eq_true rfl⟩) (fun rh1 h1 => ?_)
  obtain ⟨h1, h1p0⟩ := h1
  rw [← ef0_0] at h1p0
  refine lv_if_eq (tgt := 23) hx hb dX6_payIn_4 (by decide) (fun c2 => ?_) (fun c2 => ?_)
  · have ic2 := (xi_eq c2 rfl (by decide) : rh1.toInt = 0)
    refine lv_iconst (v := 0) hx hb dX6_payIn_23 (by decide) ?_
    exact W.iret (v := 0) hx hb hr (fun t ht hW => ⟨0, rfl, (by rw [← ef0_0, ← ef0_1, ← ef0_2, ← ef0_3, ← ef0_4]; unfold q_pay; rw [if_pos (by omega)]), ht⟩) (fun _ h => by cases h) dX6_payIn_24
  · have ic2 := (xi_ne c2 rfl (by decide) : rh1.toInt ≠ 0)
    refine lv_iload_n hx hb dX6_payIn_7 rfl (lv_at hl 1 rfl) ?_
    refine lv_aload_n hx hb dX6_payIn_8 rfl (lv_at hl 0 rfl) ?_
    refine h_get (v := .int f0_1) hx hb hts iX6 hown g t_a0 (by decide) so_7 rfl 1 (by decide) (hts (.fieldLink RX6 19 "CapLeague$Player" "from" "I") (by decide +kernel)) rfl dX6_payIn_9 (congrArg Value.int (ef0_1.symm)) ?_
    refine lv_icmp_lt (tgt := 23) hx hb dX6_payIn_12 (by decide) (fun c3 => ?_) (fun c3 => ?_)
    · have ic3 := (xi_lt c3 h_y rfl : y_t < f0_1.toInt)
      refine lv_iconst (v := 0) hx hb dX6_payIn_23 (by decide) ?_
      exact W.iret (v := 0) hx hb hr (fun t ht hW => ⟨0, rfl, (by rw [← ef0_0, ← ef0_1, ← ef0_2, ← ef0_3, ← ef0_4]; unfold q_pay; rw [if_pos (by omega)]), ht⟩) (fun _ h => by cases h) dX6_payIn_24
    · have ic3 := (xi_nlt c3 h_y rfl : f0_1.toInt ≤ y_t)
      refine lv_iload_n hx hb dX6_payIn_15 rfl (lv_at hl 1 rfl) ?_
      refine lv_aload_n hx hb dX6_payIn_16 rfl (lv_at hl 0 rfl) ?_
      refine h_get (v := .int f0_2) hx hb hts iX6 hown g t_a0 (by decide) so_7 rfl 2 (by decide) (hts (.fieldLink RX6 22 "CapLeague$Player" "last" "I") (by decide +kernel)) rfl dX6_payIn_17 (congrArg Value.int (ef0_2.symm)) ?_
      refine lv_icmp_le (tgt := 25) hx hb dX6_payIn_20 (by decide) (fun c4 => ?_) (fun c4 => ?_)
      · have ic4 := (xi_le c4 h_y rfl : y_t ≤ f0_2.toInt)
        refine lv_iconst (v := 0) hx hb dX6_payIn_25 (by decide) ?_
        refine lv_aload_n hx hb dX6_payIn_26 rfl (lv_at hl 0 rfl) ?_
        refine h_get (v := .int f0_3) hx hb hts iX6 hown g t_a0 (by decide) so_7 rfl 3 (by decide) (hts (.fieldLink RX6 25 "CapLeague$Player" "pay" "I") (by decide +kernel)) rfl dX6_payIn_27 (congrArg Value.int (ef0_3.symm)) ?_
        refine lv_aload_n hx hb dX6_payIn_30 rfl (lv_at hl 0 rfl) ?_
        refine h_get (v := .int f0_4) hx hb hts iX6 hown g t_a0 (by decide) so_7 rfl 4 (by decide) (hts (.fieldLink RX6 28 "CapLeague$Player" "rise" "I") (by decide +kernel)) rfl dX6_payIn_31 (congrArg Value.int (ef0_4.symm)) ?_
        refine lv_iload_n hx hb dX6_payIn_34 rfl (lv_at hl 1 rfl) ?_
        refine lv_aload_n hx hb dX6_payIn_35 rfl (lv_at hl 0 rfl) ?_
        refine h_get (v := .int f0_1) hx hb hts iX6 hown g t_a0 (by decide) so_7 rfl 1 (by decide) (hts (.fieldLink RX6 19 "CapLeague$Player" "from" "I") (by decide +kernel)) rfl dX6_payIn_36 (congrArg Value.int (ef0_1.symm)) ?_
        refine lv_isub hx hb dX6_payIn_39 ?_
        refine lv_topi (fun v5 ev5 => ?_)
        have jv5 : -2147483648 ≤ v5.toInt ∧ v5.toInt ≤ 2147483647 := ⟨xi_lo _, Int.le_of_lt_add_one (xi_hi _)⟩
        refine lv_imul hx hb dX6_payIn_40 ?_
        refine lv_topi (fun v6 ev6 => ?_)
        have jv6 : -2147483648 ≤ v6.toInt ∧ v6.toInt ≤ 2147483647 := ⟨xi_lo _, Int.le_of_lt_add_one (xi_hi _)⟩
        refine lv_iadd hx hb dX6_payIn_41 ?_
        refine lv_topi (fun v7 ev7 => ?_)
        have jv7 : -2147483648 ≤ v7.toInt ∧ v7.toInt ≤ 2147483647 := ⟨xi_lo _, Int.le_of_lt_add_one (xi_hi _)⟩
        refine va_mmax hx hb (hml.trans hl.1.symm) hown (hts (.methodLink RX6 46 Lib.Math.max.name) (by decide +kernel)) (hts (.static Lib.Math.max.name) (by decide +kernel)) (hts (.initialized "java/lang/Math") (by decide +kernel)) (hts (.code Lib.Math.max.name Lib.Math.max.code 2 (some .int)) (by decide +kernel)) (Nat.le_of_ble_eq_true rfl) (Nat.le_of_ble_eq_true rfl) (Nat.le_of_ble_eq_true rfl) (Nat.le_of_ble_eq_true rfl) dX6_payIn_42 ?_
        refine lv_topi (fun v8 ev8 => ?_)
        have jv8 := h_max (a := 0) (b := v7.toInt) ev8 (by decide) rfl
        exact W.iret (v := v8) hx hb hr (fun t ht hW => ⟨v8, rfl, (by rw [← ef0_0, ← ef0_1, ← ef0_2, ← ef0_3, ← ef0_4]; unfold q_pay; rw [if_neg (by omega), ← ev5, ← ev6, ← ev7]; exact q_max0_of ev8), ht⟩) (fun _ h => by cases h) dX6_payIn_45
      · have ic4 := (xi_nle c4 h_y rfl : f0_2.toInt < y_t)
        refine lv_iconst (v := 0) hx hb dX6_payIn_23 (by decide) ?_
        exact W.iret (v := 0) hx hb hr (fun t ht hW => ⟨0, rfl, (by rw [← ef0_0, ← ef0_1, ← ef0_2, ← ef0_3, ← ef0_4]; unfold q_pay; rw [if_pos (by omega)]), ht⟩) (fun _ h => by cases h) dX6_payIn_24
set_option maxHeartbeats 4000000 in
set_option maxRecDepth 100000 in
theorem tX6_isBoundB (l : Launch) (E : tE) (X : tX) (A : Nat → Prop) (z : tZ) (I0 : tI) (L0 : tL) (a0 : Nat) (t_a0 : z.ty a0 = 7) (y : Int32) (y_t : Int) (h_y : y.toInt = y_t) : Met l yX6_isBoundIn wsX6_isBoundIn ({ frames := 2, cells := 0, slots := 0, locals := 128 }) (va_Pc [.ref a0, .int y] (h_P E X A z I0 L0)) (vp_Si (fun r => (0 ≤ r.toInt ∧ r.toInt ≤ 1) ∧ ((r.toInt = 1 ∧ q_und (I0 a0 0) (I0 a0 1) (I0 a0 2) (I0 a0 6) y) ∨ (r.toInt = 0 ∧ ¬ q_und (I0 a0 0) (I0 a0 1) (I0 a0 2) (I0 a0 6) y)))) 0 0 (fun _ => False) := by
  refine Met.ofW (cc := cX6_isBoundIn) (maxL := 2) (ret := (some .boolean)) (by decide) rfl ?_
  intro pr_ ev_ s m args below meth cd_ s₁ B hml hv
  obtain ⟨rfl, hE, hk, hX, hA, hK, hI, hR, hB0⟩ := hv
  have g : h_G h_so h_fk E A z I0 L0 s s.heap s.heap [] := ⟨hK, va_S.rf, hB0⟩
  have hx := B.exec
  have hb := B.bytes
  have hr := B.returns
  have hts := atoms_spec (ws := wsX6_isBoundIn) B.pre
  have hown : s.vm.findClass RX6 = some m.cls := findClass_of_methodNamed B.named
  have hlocks := B.notSynchronized
  have iX6 : ∀ w ∈ u_ws RX6 TX6 9, w ∈ wsX6_isBoundIn := by decide +kernel
  have hl := lv_entry ([.ref a0, .int y]) (n := 2) (Nat.le_of_ble_eq_true rfl)
  rw [lg_entry_eq]
  generalize (lg_sl ([.ref a0, .int y]) ++ List.replicate (2 - (lg_sl ([.ref a0, .int y])).length) Slot.unset).toArray = ls at hl ⊢
  have hl : lv_has ls 2 [(0, .ref a0), (1, .int y)] := hl
  have b_y : -2147483648 ≤ y_t ∧ y_t ≤ 2147483647 := h_y ▸ ⟨xi_lo y, Int.le_of_lt_add_one (xi_hi y)⟩
  obtain ⟨f0_0, ef0_0⟩ : ∃ v : Int32, v = I0 a0 0 := ⟨_, rfl⟩
  have qf0_0 : (I0 a0 0).toInt = f0_0.toInt := congrArg Int32.toInt ef0_0.symm
  have jf0_0 := hI.rd a0 0 t_a0 ef0_0 (rfl : h_bd 7 0 = ((-1), 7))
  obtain ⟨f0_1, ef0_1⟩ : ∃ v : Int32, v = I0 a0 1 := ⟨_, rfl⟩
  have qf0_1 : (I0 a0 1).toInt = f0_1.toInt := congrArg Int32.toInt ef0_1.symm
  have jf0_1 := hI.rd a0 1 t_a0 ef0_1 (rfl : h_bd 7 1 = ((-2147483648), 2147483647))
  obtain ⟨f0_2, ef0_2⟩ : ∃ v : Int32, v = I0 a0 2 := ⟨_, rfl⟩
  have qf0_2 : (I0 a0 2).toInt = f0_2.toInt := congrArg Int32.toInt ef0_2.symm
  have jf0_2 := hI.rd a0 2 t_a0 ef0_2 (rfl : h_bd 7 2 = ((-2147483648), 2147483647))
  obtain ⟨f0_3, ef0_3⟩ : ∃ v : Int32, v = I0 a0 3 := ⟨_, rfl⟩
  have qf0_3 : (I0 a0 3).toInt = f0_3.toInt := congrArg Int32.toInt ef0_3.symm
  have jf0_3 := hI.rd a0 3 t_a0 ef0_3 (rfl : h_bd 7 3 = ((-2147483648), 2147483647))
  obtain ⟨f0_4, ef0_4⟩ : ∃ v : Int32, v = I0 a0 4 := ⟨_, rfl⟩
  have qf0_4 : (I0 a0 4).toInt = f0_4.toInt := congrArg Int32.toInt ef0_4.symm
  have jf0_4 := hI.rd a0 4 t_a0 ef0_4 (rfl : h_bd 7 4 = ((-2147483648), 2147483647))
  obtain ⟨f0_5, ef0_5⟩ : ∃ v : Int32, v = I0 a0 5 := ⟨_, rfl⟩
  have qf0_5 : (I0 a0 5).toInt = f0_5.toInt := congrArg Int32.toInt ef0_5.symm
  have jf0_5 := hI.rd a0 5 t_a0 ef0_5 (rfl : h_bd 7 5 = ((-2147483648), 2147483647))
  obtain ⟨f0_6, ef0_6⟩ : ∃ v : Int32, v = I0 a0 6 := ⟨_, rfl⟩
  have qf0_6 : (I0 a0 6).toInt = f0_6.toInt := congrArg Int32.toInt ef0_6.symm
  have jf0_6 := hI.rd a0 6 t_a0 ef0_6 (rfl : h_bd 7 6 = (0, 1))
  obtain ⟨f0_7, ef0_7⟩ : ∃ v : Int32, v = I0 a0 7 := ⟨_, rfl⟩
  have qf0_7 : (I0 a0 7).toInt = f0_7.toInt := congrArg Int32.toInt ef0_7.symm
  have jf0_7 := hI.rd a0 7 t_a0 ef0_7 (rfl : h_bd 7 7 = (0, 1))
  have qy : y.toInt = y_t := h_y
  refine lv_aload_n hx hb dX6_isBoundIn_0 rfl (lv_at hl 0 rfl) ?_
  refine vp_callSi (W.runV (As := []) (rest := []) ⟨hx, hb, hml, hown, hts⟩ (tX6_isSignedB l E X A z I0 L0 a0 t_a0) (cwV 0 hts gX6_isBoundIn_X6_isSigned rfl rfl rfl (by decide +kernel) ⟨Nat.le_of_ble_eq_true rfl, Nat.le_of_ble_eq_true rfl⟩) ⟨h_blind _ _ _ _ _ _ _, h_recv g t_a0 (by decide) so_7 (q := (RX6, TX6, 9)) rfl, h_pre _ hE hk hX hA hI hR g⟩ rfl rfl hl.1 rfl (lv_room (Nat.le_of_ble_eq_true rfl)) dX6_isBoundIn_1 ⟨Nat.le_of_ble_eq_true rfl, Nat.le_of_ble_eq_true rfl⟩) (fun rh1 h1 => ?_)
  obtain ⟨h1, h1p0⟩ := h1
  rw [← ef0_0] at h1p0
  refine lv_if_eq (tgt := 43) hx hb dX6_isBoundIn_4 (by decide) (fun c2 => ?_) (fun c2 => ?_)
  · have ic2 := (xi_eq c2 rfl (by decide) : rh1.toInt = 0)
    refine lv_iconst (v := 0) hx hb dX6_isBoundIn_43 (by decide) ?_
    exact W.zret (v := 0) hx hb hr (by decide) (fun t ht hW => ⟨0, rfl, ⟨⟨(by decide), (by decide)⟩, (by rw [← ef0_0, ← ef0_1, ← ef0_2, ← ef0_6]; have z9 : (0 : Int32).toInt = 0 := (by decide); unfold q_und; refine Or.inr ⟨z9, fun q => ?_⟩; obtain ⟨q1, q2, q3⟩ := q; omega)⟩, ht⟩) (fun _ h => by cases h) dX6_isBoundIn_44
  · have ic2 := (xi_ne c2 rfl (by decide) : rh1.toInt ≠ 0)
    refine lv_iload_n hx hb dX6_isBoundIn_7 rfl (lv_at hl 1 rfl) ?_
    refine lv_aload_n hx hb dX6_isBoundIn_8 rfl (lv_at hl 0 rfl) ?_
    refine h_get (v := .int f0_1) hx hb hts iX6 hown g t_a0 (by decide) so_7 rfl 1 (by decide) (hts (.fieldLink RX6 19 "CapLeague$Player" "from" "I") (by decide +kernel)) rfl dX6_isBoundIn_9 (congrArg Value.int (ef0_1.symm)) ?_
    refine lv_icmp_lt (tgt := 43) hx hb dX6_isBoundIn_12 (by decide) (fun c3 => ?_) (fun c3 => ?_)
    · have ic3 := (xi_lt c3 h_y rfl : y_t < f0_1.toInt)
      refine lv_iconst (v := 0) hx hb dX6_isBoundIn_43 (by decide) ?_
      exact W.zret (v := 0) hx hb hr (by decide) (fun t ht hW => ⟨0, rfl, ⟨⟨(by decide), (by decide)⟩, (by rw [← ef0_0, ← ef0_1, ← ef0_2, ← ef0_6]; have z9 : (0 : Int32).toInt = 0 := (by decide); unfold q_und; refine Or.inr ⟨z9, fun q => ?_⟩; obtain ⟨q1, q2, q3⟩ := q; omega)⟩, ht⟩) (fun _ h => by cases h) dX6_isBoundIn_44
    · have ic3 := (xi_nlt c3 h_y rfl : f0_1.toInt ≤ y_t)
      refine lv_iload_n hx hb dX6_isBoundIn_15 rfl (lv_at hl 1 rfl) ?_
      refine lv_aload_n hx hb dX6_isBoundIn_16 rfl (lv_at hl 0 rfl) ?_
      refine h_get (v := .int f0_6) hx hb hts iX6 hown g t_a0 (by decide) so_7 rfl 6 (by decide) (hts (.fieldLink RX6 34 "CapLeague$Player" "choiceOpen" "Z") (by decide +kernel)) rfl dX6_isBoundIn_17 (congrArg Value.int (ef0_6.symm)) ?_
      refine lv_if_eq (tgt := 32) hx hb dX6_isBoundIn_20 (by decide) (fun c4 => ?_) (fun c4 => ?_)
      · have ic4 := (xi_eq c4 rfl (by decide) : f0_6.toInt = 0)
        refine lv_aload_n hx hb dX6_isBoundIn_32 rfl (lv_at hl 0 rfl) ?_
        refine h_get (v := .int f0_2) hx hb hts iX6 hown g t_a0 (by decide) so_7 rfl 2 (by decide) (hts (.fieldLink RX6 22 "CapLeague$Player" "last" "I") (by decide +kernel)) rfl dX6_isBoundIn_33 (congrArg Value.int (ef0_2.symm)) ?_
        refine lv_icmp_gt (tgt := 43) hx hb dX6_isBoundIn_36 (by decide) (fun c5 => ?_) (fun c5 => ?_)
        · have ic5 := (xi_lt c5 rfl h_y : f0_2.toInt < y_t)
          refine lv_iconst (v := 0) hx hb dX6_isBoundIn_43 (by decide) ?_
          exact W.zret (v := 0) hx hb hr (by decide) (fun t ht hW => ⟨0, rfl, ⟨⟨(by decide), (by decide)⟩, (by rw [← ef0_0, ← ef0_1, ← ef0_2, ← ef0_6]; have z9 : (0 : Int32).toInt = 0 := (by decide); unfold q_und; refine Or.inr ⟨z9, fun q => ?_⟩; obtain ⟨q1, q2, q3⟩ := q; rw [if_pos (by omega)] at q3; omega)⟩, ht⟩) (fun _ h => by cases h) dX6_isBoundIn_44
        · have ic5 := (xi_nlt c5 rfl h_y : y_t ≤ f0_2.toInt)
          refine lv_iconst (v := 1) hx hb dX6_isBoundIn_39 (by decide) ?_
          refine lv_goto (tgt := 44) hx hb dX6_isBoundIn_40 (by decide) ?_
          exact W.zret (v := 1) hx hb hr (by decide) (fun t ht hW => ⟨1, rfl, ⟨⟨(by decide), (by decide)⟩, (by rw [← ef0_0, ← ef0_1, ← ef0_2, ← ef0_6]; have z9 : (1 : Int32).toInt = 1 := (by decide); unfold q_und; rw [if_pos (by omega)]; exact Or.inl ⟨z9, by omega, by omega, by omega⟩)⟩, ht⟩) (fun _ h => by cases h) dX6_isBoundIn_44
      · have ic4 := (xi_ne c4 rfl (by decide) : f0_6.toInt ≠ 0)
        refine lv_aload_n hx hb dX6_isBoundIn_23 rfl (lv_at hl 0 rfl) ?_
        refine h_get (v := .int f0_2) hx hb hts iX6 hown g t_a0 (by decide) so_7 rfl 2 (by decide) (hts (.fieldLink RX6 22 "CapLeague$Player" "last" "I") (by decide +kernel)) rfl dX6_isBoundIn_24 (congrArg Value.int (ef0_2.symm)) ?_
        refine lv_iconst (v := 1) hx hb dX6_isBoundIn_27 (by decide) ?_
        refine lv_isub hx hb dX6_isBoundIn_28 ?_
        refine lv_topi (fun v6 ev6 => ?_)
        have jv6 : -2147483648 ≤ v6.toInt ∧ v6.toInt ≤ 2147483647 := ⟨xi_lo _, Int.le_of_lt_add_one (xi_hi _)⟩
        refine lv_goto (tgt := 36) hx hb dX6_isBoundIn_29 (by decide) ?_
        refine lv_icmp_gt (tgt := 43) hx hb dX6_isBoundIn_36 (by decide) (fun c7 => ?_) (fun c7 => ?_)
        · have ic7 := (xi_lt c7 rfl h_y : v6.toInt < y_t)
          refine lv_iconst (v := 0) hx hb dX6_isBoundIn_43 (by decide) ?_
          exact W.zret (v := 0) hx hb hr (by decide) (fun t ht hW => ⟨0, rfl, ⟨⟨(by decide), (by decide)⟩, (by rw [← ef0_0, ← ef0_1, ← ef0_2, ← ef0_6]; have z9 : (0 : Int32).toInt = 0 := (by decide); unfold q_und; refine Or.inr ⟨z9, fun q => ?_⟩; obtain ⟨q1, q2, q3⟩ := q; rw [if_neg (by omega), ← ev6] at q3; omega)⟩, ht⟩) (fun _ h => by cases h) dX6_isBoundIn_44
        · have ic7 := (xi_nlt c7 rfl h_y : y_t ≤ v6.toInt)
          refine lv_iconst (v := 1) hx hb dX6_isBoundIn_39 (by decide) ?_
          refine lv_goto (tgt := 44) hx hb dX6_isBoundIn_40 (by decide) ?_
          exact W.zret (v := 1) hx hb hr (by decide) (fun t ht hW => ⟨1, rfl, ⟨⟨(by decide), (by decide)⟩, (by rw [← ef0_0, ← ef0_1, ← ef0_2, ← ef0_6]; have z9 : (1 : Int32).toInt = 1 := (by decide); unfold q_und; rw [if_neg (by omega), ← ev6]; exact Or.inl ⟨z9, by omega, by omega, by omega⟩)⟩, ht⟩) (fun _ h => by cases h) dX6_isBoundIn_44
set_option maxHeartbeats 4000000 in
set_option maxRecDepth 100000 in
theorem tX12_payOfB (l : Launch) (E : tE) (X : tX) (A : Nat → Prop) (z : tZ) (I0 : tI) (L0 : tL) (a0 : Nat) (t_a0 : z.ty a0 = 13) (p : Int32) (p_t : Int) (h_p : p.toInt = p_t) (b_p : 0 ≤ p_t ∧ p_t ≤ 59) (y : Int32) (y_t : Int) (h_y : y.toInt = y_t) : Met l yX12_payOf wsX12_payOf ({ frames := 1, cells := 0, slots := 0, locals := 64 }) (va_Pc [.ref a0, .int p, .int y] (h_P E X A z I0 L0)) (vp_Si (fun r => (r = q_pay (I0 (h_ad z a0 14) p_t.toNat) (I0 (h_ad z a0 15) p_t.toNat) (I0 (h_ad z a0 16) p_t.toNat) (I0 (h_ad z a0 17) p_t.toNat) (I0 (h_ad z a0 18) p_t.toNat) y))) 0 0 (fun _ => False) := by
  refine Met.ofW (cc := cX12_payOf) (maxL := 4) (ret := (some .int)) (by decide) rfl ?_
  intro pr_ ev_ s m args below meth cd_ s₁ B hml hv
  obtain ⟨rfl, hE, hk, hX, hA, hK, hI, hR, hB0⟩ := hv
  have g : h_G h_so h_fk E A z I0 L0 s s.heap s.heap [] := ⟨hK, va_S.rf, hB0⟩
  have hx := B.exec
  have hb := B.bytes
  have hr := B.returns
  have hts := atoms_spec (ws := wsX12_payOf) B.pre
  have hown : s.vm.findClass RX12 = some m.cls := findClass_of_methodNamed B.named
  have hlocks := B.notSynchronized
  have iX12 : ∀ w ∈ u_ws RX12 TX12 51, w ∈ wsX12_payOf := by decide +kernel
  have hl := lv_entry ([.ref a0, .int p, .int y]) (n := 4) (Nat.le_of_ble_eq_true rfl)
  rw [lg_entry_eq]
  generalize (lg_sl ([.ref a0, .int p, .int y]) ++ List.replicate (4 - (lg_sl ([.ref a0, .int p, .int y])).length) Slot.unset).toArray = ls at hl ⊢
  have hl : lv_has ls 4 [(0, .ref a0), (1, .int p), (2, .int y)] := hl
  have b_y : -2147483648 ≤ y_t ∧ y_t ≤ 2147483647 := h_y ▸ ⟨xi_lo y, Int.le_of_lt_add_one (xi_hi y)⟩
  obtain ⟨cb, rcb, tcb⟩ := hR.at a0 14 t_a0 (rfl : h_rs 13 14 = some (1314, false)) (by decide)
  have acb : h_ad z a0 14 = cb := h_ad.at rcb
  obtain ⟨fi, rfi, tfi⟩ := hR.at a0 15 t_a0 (rfl : h_rs 13 15 = some (1315, false)) (by decide)
  have afi : h_ad z a0 15 = fi := h_ad.at rfi
  obtain ⟨la, rla, tla⟩ := hR.at a0 16 t_a0 (rfl : h_rs 13 16 = some (1316, false)) (by decide)
  have ala : h_ad z a0 16 = la := h_ad.at rla
  obtain ⟨pa, rpa, tpa⟩ := hR.at a0 17 t_a0 (rfl : h_rs 13 17 = some (1317, false)) (by decide)
  have apa : h_ad z a0 17 = pa := h_ad.at rpa
  obtain ⟨ri, rri, tri⟩ := hR.at a0 18 t_a0 (rfl : h_rs 13 18 = some (1318, false)) (by decide)
  have ari : h_ad z a0 18 = ri := h_ad.at rri
  obtain ⟨xcb, excb⟩ : ∃ v : Int32, v = I0 cb p.toNatClampNeg := ⟨_, rfl⟩
  have jxcb := hI.rd cb p.toNatClampNeg tcb excb (rfl : h_bd 1314 _ = ((-1), 7))
  obtain ⟨xfi, exfi⟩ : ∃ v : Int32, v = I0 fi p.toNatClampNeg := ⟨_, rfl⟩
  have jxfi := hI.rd fi p.toNatClampNeg tfi exfi (rfl : h_bd 1315 _ = ((-2147483648), 2147483647))
  obtain ⟨xla, exla⟩ : ∃ v : Int32, v = I0 la p.toNatClampNeg := ⟨_, rfl⟩
  have jxla := hI.rd la p.toNatClampNeg tla exla (rfl : h_bd 1316 _ = ((-2147483648), 2147483647))
  obtain ⟨xpa, expa⟩ : ∃ v : Int32, v = I0 pa p.toNatClampNeg := ⟨_, rfl⟩
  have jxpa := hI.rd pa p.toNatClampNeg tpa expa (rfl : h_bd 1317 _ = ((-2147483648), 2147483647))
  obtain ⟨xri, exri⟩ : ∃ v : Int32, v = I0 ri p.toNatClampNeg := ⟨_, rfl⟩
  have jxri := hI.rd ri p.toNatClampNeg tri exri (rfl : h_bd 1318 _ = ((-2147483648), 2147483647))
  have kp : p.toNatClampNeg = p_t.toNat := h_keq h_p (by omega) (by omega)
  have qy : y.toInt = y_t := h_y
  refine lv_aload_n hx hb dX12_payOf_0 rfl (lv_at hl 0 rfl) ?_
  refine h_get (v := .ref cb) hx hb hts iX12 hown g t_a0 (by decide) so_13 rfl 14 (by decide) (hts (.fieldLink RX12 25 "CapLeagueModel" "clubOf" "[I") (by decide +kernel)) rfl dX12_payOf_1 (by show va_rf (z.R a0 14) = _; rw [rcb]; rfl) ?_
  refine lv_iload_n hx hb dX12_payOf_4 rfl (lv_at hl 1 rfl) ?_
  refine h_ald hx hb g tcb (by decide) so_1314 (xi_in (by rw [h_p]; omega) (by rw [h_p]; omega)) dX12_payOf_5 ?_
  refine xw_i (excb.symm) ?_
  refine lv_iconst (v := (-1)) hx hb dX12_payOf_6 (by decide) ?_
  refine lv_icmp_eq (tgt := 30) hx hb dX12_payOf_7 (by decide) (fun c1 => ?_) (fun c1 => ?_)
  · have ic1 := (xi_eq c1 rfl (by decide) : xcb.toInt = (-1))
    refine lv_iconst (v := 0) hx hb dX12_payOf_30 (by decide) ?_
    exact W.iret (v := 0) hx hb hr (fun t ht hW => ⟨0, rfl, (by rw [acb, afi, ala, apa, ari, ← kp, ← excb, ← exfi, ← exla, ← expa, ← exri]; unfold q_pay; rw [if_pos (by omega)]), ht⟩) (fun _ h => by cases h) dX12_payOf_31
  · have ic1 := (xi_ne c1 rfl (by decide) : xcb.toInt ≠ (-1))
    refine lv_iload_n hx hb dX12_payOf_10 rfl (lv_at hl 2 rfl) ?_
    refine lv_aload_n hx hb dX12_payOf_11 rfl (lv_at hl 0 rfl) ?_
    refine h_get (v := .ref fi) hx hb hts iX12 hown g t_a0 (by decide) so_13 rfl 15 (by decide) (hts (.fieldLink RX12 28 "CapLeagueModel" "first" "[I") (by decide +kernel)) rfl dX12_payOf_12 (by show va_rf (z.R a0 15) = _; rw [rfi]; rfl) ?_
    refine lv_iload_n hx hb dX12_payOf_15 rfl (lv_at hl 1 rfl) ?_
    refine h_ald hx hb g tfi (by decide) so_1315 (xi_in (by rw [h_p]; omega) (by rw [h_p]; omega)) dX12_payOf_16 ?_
    refine xw_i (exfi.symm) ?_
    refine lv_icmp_lt (tgt := 30) hx hb dX12_payOf_17 (by decide) (fun c2 => ?_) (fun c2 => ?_)
    · have ic2 := (xi_lt c2 h_y rfl : y_t < xfi.toInt)
      refine lv_iconst (v := 0) hx hb dX12_payOf_30 (by decide) ?_
      exact W.iret (v := 0) hx hb hr (fun t ht hW => ⟨0, rfl, (by rw [acb, afi, ala, apa, ari, ← kp, ← excb, ← exfi, ← exla, ← expa, ← exri]; unfold q_pay; rw [if_pos (by omega)]), ht⟩) (fun _ h => by cases h) dX12_payOf_31
    · have ic2 := (xi_nlt c2 h_y rfl : xfi.toInt ≤ y_t)
      refine lv_iload_n hx hb dX12_payOf_20 rfl (lv_at hl 2 rfl) ?_
      refine lv_aload_n hx hb dX12_payOf_21 rfl (lv_at hl 0 rfl) ?_
      refine h_get (v := .ref la) hx hb hts iX12 hown g t_a0 (by decide) so_13 rfl 16 (by decide) (hts (.fieldLink RX12 31 "CapLeagueModel" "last" "[I") (by decide +kernel)) rfl dX12_payOf_22 (by show va_rf (z.R a0 16) = _; rw [rla]; rfl) ?_
      refine lv_iload_n hx hb dX12_payOf_25 rfl (lv_at hl 1 rfl) ?_
      refine h_ald hx hb g tla (by decide) so_1316 (xi_in (by rw [h_p]; omega) (by rw [h_p]; omega)) dX12_payOf_26 ?_
      refine xw_i (exla.symm) ?_
      refine lv_icmp_le (tgt := 32) hx hb dX12_payOf_27 (by decide) (fun c3 => ?_) (fun c3 => ?_)
      · have ic3 := (xi_le c3 h_y rfl : y_t ≤ xla.toInt)
        refine lv_aload_n hx hb dX12_payOf_32 rfl (lv_at hl 0 rfl) ?_
        refine h_get (v := .ref pa) hx hb hts iX12 hown g t_a0 (by decide) so_13 rfl 17 (by decide) (hts (.fieldLink RX12 34 "CapLeagueModel" "pay" "[I") (by decide +kernel)) rfl dX12_payOf_33 (by show va_rf (z.R a0 17) = _; rw [rpa]; rfl) ?_
        refine lv_iload_n hx hb dX12_payOf_36 rfl (lv_at hl 1 rfl) ?_
        refine h_ald hx hb g tpa (by decide) so_1317 (xi_in (by rw [h_p]; omega) (by rw [h_p]; omega)) dX12_payOf_37 ?_
        refine xw_i (expa.symm) ?_
        refine lv_iload_n hx hb dX12_payOf_38 rfl (lv_at hl 2 rfl) ?_
        refine lv_aload_n hx hb dX12_payOf_39 rfl (lv_at hl 0 rfl) ?_
        refine h_get (v := .ref fi) hx hb hts iX12 hown g t_a0 (by decide) so_13 rfl 15 (by decide) (hts (.fieldLink RX12 28 "CapLeagueModel" "first" "[I") (by decide +kernel)) rfl dX12_payOf_40 (by show va_rf (z.R a0 15) = _; rw [rfi]; rfl) ?_
        refine lv_iload_n hx hb dX12_payOf_43 rfl (lv_at hl 1 rfl) ?_
        refine h_ald hx hb g tfi (by decide) so_1315 (xi_in (by rw [h_p]; omega) (by rw [h_p]; omega)) dX12_payOf_44 ?_
        refine xw_i (exfi.symm) ?_
        refine lv_isub hx hb dX12_payOf_45 ?_
        refine lv_topi (fun v4 ev4 => ?_)
        have jv4 : -2147483648 ≤ v4.toInt ∧ v4.toInt ≤ 2147483647 := ⟨xi_lo _, Int.le_of_lt_add_one (xi_hi _)⟩
        refine lv_aload_n hx hb dX12_payOf_46 rfl (lv_at hl 0 rfl) ?_
        refine h_get (v := .ref ri) hx hb hts iX12 hown g t_a0 (by decide) so_13 rfl 18 (by decide) (hts (.fieldLink RX12 37 "CapLeagueModel" "rise" "[I") (by decide +kernel)) rfl dX12_payOf_47 (by show va_rf (z.R a0 18) = _; rw [rri]; rfl) ?_
        refine lv_iload_n hx hb dX12_payOf_50 rfl (lv_at hl 1 rfl) ?_
        refine h_ald hx hb g tri (by decide) so_1318 (xi_in (by rw [h_p]; omega) (by rw [h_p]; omega)) dX12_payOf_51 ?_
        refine xw_i (exri.symm) ?_
        refine lv_imul hx hb dX12_payOf_52 ?_
        refine lv_topi (fun v5 ev5 => ?_)
        have jv5 : -2147483648 ≤ v5.toInt ∧ v5.toInt ≤ 2147483647 := ⟨xi_lo _, Int.le_of_lt_add_one (xi_hi _)⟩
        refine lv_iadd hx hb dX12_payOf_53 ?_
        refine lv_topi (fun v6 ev6 => ?_)
        have jv6 : -2147483648 ≤ v6.toInt ∧ v6.toInt ≤ 2147483647 := ⟨xi_lo _, Int.le_of_lt_add_one (xi_hi _)⟩
        refine lv_istore_n (lv' := [(3, .int v6), (0, .ref a0), (1, .int p), (2, .int y)]) hx hb dX12_payOf_54 rfl hl (by decide) rfl (fun ls hl => ?_)
        refine lv_iload_n hx hb dX12_payOf_55 rfl (lv_at hl 0 rfl) ?_
        refine lv_if_le (tgt := 63) hx hb dX12_payOf_56 (by decide) (fun c7 => ?_) (fun c7 => ?_)
        · have ic7 := (xi_le c7 rfl (by decide) : v6.toInt ≤ 0)
          refine lv_iconst (v := 0) hx hb dX12_payOf_63 (by decide) ?_
          exact W.iret (v := 0) hx hb hr (fun t ht hW => ⟨0, rfl, (by rw [acb, afi, ala, apa, ari, ← kp, ← excb, ← exfi, ← exla, ← expa, ← exri]; unfold q_pay; rw [if_neg (by omega), Int32.mul_comm xri, ← ev4, ← ev5, ← ev6]; unfold q_max0; rw [if_neg (by omega)]), ht⟩) (fun _ h => by cases h) dX12_payOf_64
        · have ic7 := (xi_nle c7 rfl (by decide) : 0 < v6.toInt)
          refine lv_iload_n hx hb dX12_payOf_59 rfl (lv_at hl 0 rfl) ?_
          refine lv_goto (tgt := 64) hx hb dX12_payOf_60 (by decide) ?_
          exact W.iret (v := v6) hx hb hr (fun t ht hW => ⟨v6, rfl, (by rw [acb, afi, ala, apa, ari, ← kp, ← excb, ← exfi, ← exla, ← expa, ← exri]; unfold q_pay; rw [if_neg (by omega), Int32.mul_comm xri, ← ev4, ← ev5, ← ev6]; unfold q_max0; rw [if_pos (by omega)]), ht⟩) (fun _ h => by cases h) dX12_payOf_64
      · have ic3 := (xi_nle c3 h_y rfl : xla.toInt < y_t)
        refine lv_iconst (v := 0) hx hb dX12_payOf_30 (by decide) ?_
        exact W.iret (v := 0) hx hb hr (fun t ht hW => ⟨0, rfl, (by rw [acb, afi, ala, apa, ari, ← kp, ← excb, ← exfi, ← exla, ← expa, ← exri]; unfold q_pay; rw [if_pos (by omega)]), ht⟩) (fun _ h => by cases h) dX12_payOf_31
set_option maxHeartbeats 4000000 in
set_option maxRecDepth 100000 in
theorem tX12_isUnderB (l : Launch) (E : tE) (X : tX) (A : Nat → Prop) (z : tZ) (I0 : tI) (L0 : tL) (a0 : Nat) (t_a0 : z.ty a0 = 13) (p : Int32) (p_t : Int) (h_p : p.toInt = p_t) (b_p : 0 ≤ p_t ∧ p_t ≤ 59) (y : Int32) (y_t : Int) (h_y : y.toInt = y_t) : Met l yX12_isUnder wsX12_isUnder ({ frames := 2, cells := 0, slots := 0, locals := 128 }) (va_Pc [.ref a0, .int p, .int y] (h_P E X A z I0 L0)) (vp_Si (fun r => (0 ≤ r.toInt ∧ r.toInt ≤ 1) ∧ ((r.toInt = 1 ∧ q_un2 (I0 (h_ad z a0 14) p_t.toNat) (I0 (h_ad z a0 15) p_t.toNat) (I0 (h_ad z a0 16) p_t.toNat) (I0 (h_ad z a0 20) p_t.toNat) (I0 (h_ad z a0 21) p_t.toNat) y) ∨ (r.toInt = 0 ∧ ¬ q_un2 (I0 (h_ad z a0 14) p_t.toNat) (I0 (h_ad z a0 15) p_t.toNat) (I0 (h_ad z a0 16) p_t.toNat) (I0 (h_ad z a0 20) p_t.toNat) (I0 (h_ad z a0 21) p_t.toNat) y)))) 0 0 (fun _ => False) := by
  refine Met.ofW (cc := cX12_isUnder) (maxL := 3) (ret := (some .boolean)) (by decide) rfl ?_
  intro pr_ ev_ s m args below meth cd_ s₁ B hml hv
  obtain ⟨rfl, hE, hk, hX, hA, hK, hI, hR, hB0⟩ := hv
  have g : h_G h_so h_fk E A z I0 L0 s s.heap s.heap [] := ⟨hK, va_S.rf, hB0⟩
  have hx := B.exec
  have hb := B.bytes
  have hr := B.returns
  have hts := atoms_spec (ws := wsX12_isUnder) B.pre
  have hown : s.vm.findClass RX12 = some m.cls := findClass_of_methodNamed B.named
  have hlocks := B.notSynchronized
  have iX12 : ∀ w ∈ u_ws RX12 TX12 51, w ∈ wsX12_isUnder := by decide +kernel
  have hl := lv_entry ([.ref a0, .int p, .int y]) (n := 3) (Nat.le_of_ble_eq_true rfl)
  rw [lg_entry_eq]
  generalize (lg_sl ([.ref a0, .int p, .int y]) ++ List.replicate (3 - (lg_sl ([.ref a0, .int p, .int y])).length) Slot.unset).toArray = ls at hl ⊢
  have hl : lv_has ls 3 [(0, .ref a0), (1, .int p), (2, .int y)] := hl
  have b_y : -2147483648 ≤ y_t ∧ y_t ≤ 2147483647 := h_y ▸ ⟨xi_lo y, Int.le_of_lt_add_one (xi_hi y)⟩
  obtain ⟨cb, rcb, tcb⟩ := hR.at a0 14 t_a0 (rfl : h_rs 13 14 = some (1314, false)) (by decide)
  have acb : h_ad z a0 14 = cb := h_ad.at rcb
  obtain ⟨fi, rfi, tfi⟩ := hR.at a0 15 t_a0 (rfl : h_rs 13 15 = some (1315, false)) (by decide)
  have afi : h_ad z a0 15 = fi := h_ad.at rfi
  obtain ⟨la, rla, tla⟩ := hR.at a0 16 t_a0 (rfl : h_rs 13 16 = some (1316, false)) (by decide)
  have ala : h_ad z a0 16 = la := h_ad.at rla
  obtain ⟨hc, rhc, thc⟩ := hR.at a0 20 t_a0 (rfl : h_rs 13 20 = some (1320, false)) (by decide)
  have ahc : h_ad z a0 20 = hc := h_ad.at rhc
  obtain ⟨it, rit, tit⟩ := hR.at a0 21 t_a0 (rfl : h_rs 13 21 = some (1321, false)) (by decide)
  have ait : h_ad z a0 21 = it := h_ad.at rit
  obtain ⟨xcb, excb⟩ : ∃ v : Int32, v = I0 cb p.toNatClampNeg := ⟨_, rfl⟩
  have jxcb := hI.rd cb p.toNatClampNeg tcb excb (rfl : h_bd 1314 _ = ((-1), 7))
  obtain ⟨xfi, exfi⟩ : ∃ v : Int32, v = I0 fi p.toNatClampNeg := ⟨_, rfl⟩
  have jxfi := hI.rd fi p.toNatClampNeg tfi exfi (rfl : h_bd 1315 _ = ((-2147483648), 2147483647))
  obtain ⟨xla, exla⟩ : ∃ v : Int32, v = I0 la p.toNatClampNeg := ⟨_, rfl⟩
  have jxla := hI.rd la p.toNatClampNeg tla exla (rfl : h_bd 1316 _ = ((-2147483648), 2147483647))
  obtain ⟨xhc, exhc⟩ : ∃ v : Int32, v = I0 hc p.toNatClampNeg := ⟨_, rfl⟩
  have jxhc := hI.rd hc p.toNatClampNeg thc exhc (rfl : h_bd 1320 _ = (0, 1))
  obtain ⟨xit, exit⟩ : ∃ v : Int32, v = I0 it p.toNatClampNeg := ⟨_, rfl⟩
  have jxit := hI.rd it p.toNatClampNeg tit exit (rfl : h_bd 1321 _ = (0, 1))
  have kp : p.toNatClampNeg = p_t.toNat := h_keq h_p (by omega) (by omega)
  have qy : y.toInt = y_t := h_y
  refine lv_aload_n hx hb dX12_isUnder_0 rfl (lv_at hl 0 rfl) ?_
  refine h_get (v := .ref cb) hx hb hts iX12 hown g t_a0 (by decide) so_13 rfl 14 (by decide) (hts (.fieldLink RX12 25 "CapLeagueModel" "clubOf" "[I") (by decide +kernel)) rfl dX12_isUnder_1 (by show va_rf (z.R a0 14) = _; rw [rcb]; rfl) ?_
  refine lv_iload_n hx hb dX12_isUnder_4 rfl (lv_at hl 1 rfl) ?_
  refine h_ald hx hb g tcb (by decide) so_1314 (xi_in (by rw [h_p]; omega) (by rw [h_p]; omega)) dX12_isUnder_5 ?_
  refine xw_i (excb.symm) ?_
  refine lv_iconst (v := (-1)) hx hb dX12_isUnder_6 (by decide) ?_
  refine lv_icmp_eq (tgt := 64) hx hb dX12_isUnder_7 (by decide) (fun c1 => ?_) (fun c1 => ?_)
  · have ic1 := (xi_eq c1 rfl (by decide) : xcb.toInt = (-1))
    refine lv_iconst (v := 0) hx hb dX12_isUnder_64 (by decide) ?_
    exact W.zret (v := 0) hx hb hr (by decide) (fun t ht hW => ⟨0, rfl, ⟨⟨(by decide), (by decide)⟩, (by rw [acb, afi, ala, ahc, ait, ← kp, ← excb, ← exfi, ← exla, ← exhc, ← exit]; have z9 : (0 : Int32).toInt = 0 := (by decide); unfold q_un2; exact Or.inr ⟨z9, by omega⟩)⟩, ht⟩) (fun _ h => by cases h) dX12_isUnder_65
  · have ic1 := (xi_ne c1 rfl (by decide) : xcb.toInt ≠ (-1))
    refine lv_iload_n hx hb dX12_isUnder_10 rfl (lv_at hl 2 rfl) ?_
    refine lv_i2l hx hb dX12_isUnder_11 rfl ?_
    refine lv_topl (fun v2 ev2 => ?_)
    have jv2 : v2.toInt = y_t := by rw [ev2, xi_64]; exact h_y
    refine lv_aload_n hx hb dX12_isUnder_12 rfl (lv_at hl 0 rfl) ?_
    refine h_get (v := .ref fi) hx hb hts iX12 hown g t_a0 (by decide) so_13 rfl 15 (by decide) (hts (.fieldLink RX12 28 "CapLeagueModel" "first" "[I") (by decide +kernel)) rfl dX12_isUnder_13 (by show va_rf (z.R a0 15) = _; rw [rfi]; rfl) ?_
    refine lv_iload_n hx hb dX12_isUnder_16 rfl (lv_at hl 1 rfl) ?_
    refine h_ald hx hb g tfi (by decide) so_1315 (xi_in (by rw [h_p]; omega) (by rw [h_p]; omega)) dX12_isUnder_17 ?_
    refine xw_i (exfi.symm) ?_
    refine lv_i2l hx hb dX12_isUnder_18 rfl ?_
    refine lv_topl (fun v3 ev3 => ?_)
    have jv3 : v3.toInt = xfi.toInt := by rw [ev3, xi_64]
    refine lv_aload_n hx hb dX12_isUnder_19 rfl (lv_at hl 0 rfl) ?_
    refine h_get (v := .ref la) hx hb hts iX12 hown g t_a0 (by decide) so_13 rfl 16 (by decide) (hts (.fieldLink RX12 31 "CapLeagueModel" "last" "[I") (by decide +kernel)) rfl dX12_isUnder_20 (by show va_rf (z.R a0 16) = _; rw [rla]; rfl) ?_
    refine lv_iload_n hx hb dX12_isUnder_23 rfl (lv_at hl 1 rfl) ?_
    refine h_ald hx hb g tla (by decide) so_1316 (xi_in (by rw [h_p]; omega) (by rw [h_p]; omega)) dX12_isUnder_24 ?_
    refine xw_i (exla.symm) ?_
    refine lv_i2l hx hb dX12_isUnder_25 rfl ?_
    refine lv_topl (fun v4 ev4 => ?_)
    have jv4 : v4.toInt = xla.toInt := by rw [ev4, xi_64]
    refine vp_callSi (W.runS (As := [.long v2, .long v3, .long v4]) (rest := []) ⟨hx, hb, hml, hown, hts⟩ (tX12_in l E X A z I0 L0 v2 (y_t) jv2 v3 (xfi.toInt) jv3 v4 (xla.toInt) jv4) (va_cwS 3 hts gX12_isUnder_X12_in rfl rfl rfl (by decide +kernel) ⟨Nat.le_of_ble_eq_true rfl, Nat.le_of_ble_eq_true rfl⟩) ⟨h_blind _ _ _ _ _ _ _, h_pre _ hE hk hX hA hI hR g⟩ rfl rfl hl.1 rfl (lv_room (Nat.le_of_ble_eq_true rfl)) dX12_isUnder_26 ⟨Nat.le_of_ble_eq_true rfl, Nat.le_of_ble_eq_true rfl⟩) (fun rh5 h5 => ?_)
    rcases h5 with ⟨rfl, h5⟩ | ⟨rfl, h5⟩
    · skip
      refine lv_if_eq (tgt := 64) hx hb dX12_isUnder_29 (by decide) (fun _ => ?_) (fun h => absurd (by decide) h)
      refine lv_iconst (v := 0) hx hb dX12_isUnder_64 (by decide) ?_
      exact W.zret (v := 0) hx hb hr (by decide) (fun t ht hW => ⟨0, rfl, ⟨⟨(by decide), (by decide)⟩, (by rw [acb, afi, ala, ahc, ait, ← kp, ← excb, ← exfi, ← exla, ← exhc, ← exit]; have z9 : (0 : Int32).toInt = 0 := (by decide); unfold q_un2; exact Or.inr ⟨z9, by omega⟩)⟩, ht⟩) (fun _ h => by cases h) dX12_isUnder_65
    · skip
      refine lv_if_eq (tgt := 64) hx hb dX12_isUnder_29 (by decide) (fun h => absurd h (by decide)) (fun _ => ?_)
      refine lv_iload_n hx hb dX12_isUnder_32 rfl (lv_at hl 2 rfl) ?_
      refine lv_aload_n hx hb dX12_isUnder_33 rfl (lv_at hl 0 rfl) ?_
      refine h_get (v := .ref la) hx hb hts iX12 hown g t_a0 (by decide) so_13 rfl 16 (by decide) (hts (.fieldLink RX12 31 "CapLeagueModel" "last" "[I") (by decide +kernel)) rfl dX12_isUnder_34 (by show va_rf (z.R a0 16) = _; rw [rla]; rfl) ?_
      refine lv_iload_n hx hb dX12_isUnder_37 rfl (lv_at hl 1 rfl) ?_
      refine h_ald hx hb g tla (by decide) so_1316 (xi_in (by rw [h_p]; omega) (by rw [h_p]; omega)) dX12_isUnder_38 ?_
      refine xw_i (exla.symm) ?_
      refine lv_icmp_ne (tgt := 60) hx hb dX12_isUnder_39 (by decide) (fun c8 => ?_) (fun c8 => ?_)
      · have ic8 := (xi_ne c8 h_y rfl : y_t ≠ xla.toInt)
        refine lv_iconst (v := 1) hx hb dX12_isUnder_60 (by decide) ?_
        refine lv_goto (tgt := 65) hx hb dX12_isUnder_61 (by decide) ?_
        exact W.zret (v := 1) hx hb hr (by decide) (fun t ht hW => ⟨1, rfl, ⟨⟨(by decide), (by decide)⟩, (by rw [acb, afi, ala, ahc, ait, ← kp, ← excb, ← exfi, ← exla, ← exhc, ← exit]; have z9 : (1 : Int32).toInt = 1 := (by decide); unfold q_un2; exact Or.inl ⟨z9, by omega, by omega, by omega, by omega⟩)⟩, ht⟩) (fun _ h => by cases h) dX12_isUnder_65
      · have ic8 := (xi_eq c8 h_y rfl : y_t = xla.toInt)
        refine lv_aload_n hx hb dX12_isUnder_42 rfl (lv_at hl 0 rfl) ?_
        refine h_get (v := .ref hc) hx hb hts iX12 hown g t_a0 (by decide) so_13 rfl 20 (by decide) (hts (.fieldLink RX12 43 "CapLeagueModel" "hasChoice" "[Z") (by decide +kernel)) rfl dX12_isUnder_43 (by show va_rf (z.R a0 20) = _; rw [rhc]; rfl) ?_
        refine lv_iload_n hx hb dX12_isUnder_46 rfl (lv_at hl 1 rfl) ?_
        refine h_zald hx hb g thc (by decide) so_1320 (xi_in (by rw [h_p]; omega) (by rw [h_p]; omega)) dX12_isUnder_47 ?_
        refine xw_i (exhc.symm) ?_
        refine lv_if_eq (tgt := 60) hx hb dX12_isUnder_48 (by decide) (fun c9 => ?_) (fun c9 => ?_)
        · have ic9 := (xi_eq c9 rfl (by decide) : xhc.toInt = 0)
          refine lv_iconst (v := 1) hx hb dX12_isUnder_60 (by decide) ?_
          refine lv_goto (tgt := 65) hx hb dX12_isUnder_61 (by decide) ?_
          exact W.zret (v := 1) hx hb hr (by decide) (fun t ht hW => ⟨1, rfl, ⟨⟨(by decide), (by decide)⟩, (by rw [acb, afi, ala, ahc, ait, ← kp, ← excb, ← exfi, ← exla, ← exhc, ← exit]; have z9 : (1 : Int32).toInt = 1 := (by decide); unfold q_un2; exact Or.inl ⟨z9, by omega, by omega, by omega, by omega⟩)⟩, ht⟩) (fun _ h => by cases h) dX12_isUnder_65
        · have ic9 := (xi_ne c9 rfl (by decide) : xhc.toInt ≠ 0)
          refine lv_aload_n hx hb dX12_isUnder_51 rfl (lv_at hl 0 rfl) ?_
          refine h_get (v := .ref it) hx hb hts iX12 hown g t_a0 (by decide) so_13 rfl 21 (by decide) (hts (.fieldLink RX12 46 "CapLeagueModel" "isTaken" "[Z") (by decide +kernel)) rfl dX12_isUnder_52 (by show va_rf (z.R a0 21) = _; rw [rit]; rfl) ?_
          refine lv_iload_n hx hb dX12_isUnder_55 rfl (lv_at hl 1 rfl) ?_
          refine h_zald hx hb g tit (by decide) so_1321 (xi_in (by rw [h_p]; omega) (by rw [h_p]; omega)) dX12_isUnder_56 ?_
          refine xw_i (exit.symm) ?_
          refine lv_if_eq (tgt := 64) hx hb dX12_isUnder_57 (by decide) (fun c10 => ?_) (fun c10 => ?_)
          · have ic10 := (xi_eq c10 rfl (by decide) : xit.toInt = 0)
            refine lv_iconst (v := 0) hx hb dX12_isUnder_64 (by decide) ?_
            exact W.zret (v := 0) hx hb hr (by decide) (fun t ht hW => ⟨0, rfl, ⟨⟨(by decide), (by decide)⟩, (by rw [acb, afi, ala, ahc, ait, ← kp, ← excb, ← exfi, ← exla, ← exhc, ← exit]; have z9 : (0 : Int32).toInt = 0 := (by decide); unfold q_un2; exact Or.inr ⟨z9, by omega⟩)⟩, ht⟩) (fun _ h => by cases h) dX12_isUnder_65
          · have ic10 := (xi_ne c10 rfl (by decide) : xit.toInt ≠ 0)
            refine lv_iconst (v := 1) hx hb dX12_isUnder_60 (by decide) ?_
            refine lv_goto (tgt := 65) hx hb dX12_isUnder_61 (by decide) ?_
            exact W.zret (v := 1) hx hb hr (by decide) (fun t ht hW => ⟨1, rfl, ⟨⟨(by decide), (by decide)⟩, (by rw [acb, afi, ala, ahc, ait, ← kp, ← excb, ← exfi, ← exla, ← exhc, ← exit]; have z9 : (1 : Int32).toInt = 1 := (by decide); unfold q_un2; exact Or.inl ⟨z9, by omega, by omega, by omega, by omega⟩)⟩, ht⟩) (fun _ h => by cases h) dX12_isUnder_65

