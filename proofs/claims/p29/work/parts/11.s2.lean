set_option maxHeartbeats 4000000 in
set_option maxRecDepth 100000 in
theorem tX5_number (l : Launch) (E : tE) (X : tX) (A : Nat → Prop) (z : tZ) (I0 : tI) (L0 : tL) (a0 : Nat) (t_a0 : z.ty a0 = 6) (x : Int32) (x_t : Int) (h_x : x.toInt = x_t) : Met l yX5_number wsX5_number ({ frames := 1, cells := 0, slots := 0, locals := 64 }) (va_Pc [.ref a0, .int x] (h_P E X A z I0 L0)) (vp_Si (fun r => True)) 0 0 (fun _ => False) := by
  refine Met.ofW (cc := cX5_number) (maxL := 2) (ret := (some .int)) (by decide) rfl ?_
  intro pr_ ev_ s m args below meth cd_ s₁ B hml hv
  obtain ⟨rfl, hE, hk, hX, hA, hK, hI, hR, hB0⟩ := hv
  have g : h_G h_so h_fk E A z I0 L0 s s.heap s.heap [] := ⟨hK, va_S.rf, hB0⟩
  have hx := B.exec
  have hb := B.bytes
  have hr := B.returns
  have hts := atoms_spec (ws := wsX5_number) B.pre
  have hown : s.vm.findClass RX5 = some m.cls := findClass_of_methodNamed B.named
  have hlocks := B.notSynchronized
  have iX5 : ∀ w ∈ u_ws RX5 TX5 3, w ∈ wsX5_number := by decide +kernel
  have hl := lv_entry ([.ref a0, .int x]) (n := 2) (Nat.le_of_ble_eq_true rfl)
  rw [lg_entry_eq]
  generalize (lg_sl ([.ref a0, .int x]) ++ List.replicate (2 - (lg_sl ([.ref a0, .int x])).length) Slot.unset).toArray = ls at hl ⊢
  have hl : lv_has ls 2 [(0, .ref a0), (1, .int x)] := hl
  have b_x : -2147483648 ≤ x_t ∧ x_t ≤ 2147483647 := h_x ▸ ⟨xi_lo x, Int.le_of_lt_add_one (xi_hi x)⟩
  refine lv_iload_n hx hb dX5_number_0 rfl (lv_at hl 1 rfl) ?_
  refine lv_if_lt (tgt := 17) hx hb dX5_number_1 (by decide) (fun c1 => ?_) (fun c1 => ?_)
  · have ic1 := (xi_lt c1 h_x (by decide) : x_t < 0)
    refine lv_iload_n hx hb dX5_number_17 rfl (lv_at hl 1 rfl) ?_
    refine lv_bipush (v := 8) hx hb dX5_number_18 (by decide) ?_
    refine lv_icmp_ne (tgt := 28) hx hb dX5_number_20 (by decide) (fun c2 => ?_) (fun h => absurd (xi_eq h h_x (by decide) : x_t = 8) (by omega))
    have ic2 := (xi_ne c2 h_x (by decide) : x_t ≠ 8)
    refine lv_iload_n hx hb dX5_number_28 rfl (lv_at hl 1 rfl) ?_
    refine lv_bipush (v := 10) hx hb dX5_number_29 (by decide) ?_
    refine lv_icmp_lt (tgt := 57) hx hb dX5_number_31 (by decide) (fun c3 => ?_) (fun h => absurd (xi_nlt h h_x (by decide) : 10 ≤ x_t) (by omega))
    have ic3 := (xi_lt c3 h_x (by decide) : x_t < 10)
    refine lv_bipush (v := (-9)) hx hb dX5_number_57 (by decide) ?_
    exact W.iret (v := (-9)) hx hb hr (fun t ht hW => ⟨(-9), rfl, trivial, ht⟩) (fun _ h => by cases h) dX5_number_59
  · have ic1 := (xi_nlt c1 h_x (by decide) : 0 ≤ x_t)
    refine lv_iload_n hx hb dX5_number_4 rfl (lv_at hl 1 rfl) ?_
    refine lv_bipush (v := 8) hx hb dX5_number_5 (by decide) ?_
    refine lv_icmp_ge (tgt := 17) hx hb dX5_number_7 (by decide) (fun c4 => ?_) (fun c4 => ?_)
    · have ic4 := (xi_le c4 (by decide) h_x : 8 ≤ x_t)
      refine lv_iload_n hx hb dX5_number_17 rfl (lv_at hl 1 rfl) ?_
      refine lv_bipush (v := 8) hx hb dX5_number_18 (by decide) ?_
      refine lv_icmp_ne (tgt := 28) hx hb dX5_number_20 (by decide) (fun c5 => ?_) (fun c5 => ?_)
      · have ic5 := (xi_ne c5 h_x (by decide) : x_t ≠ 8)
        refine lv_iload_n hx hb dX5_number_28 rfl (lv_at hl 1 rfl) ?_
        refine lv_bipush (v := 10) hx hb dX5_number_29 (by decide) ?_
        refine lv_icmp_lt (tgt := 57) hx hb dX5_number_31 (by decide) (fun c6 => ?_) (fun c6 => ?_)
        · have ic6 := (xi_lt c6 h_x (by decide) : x_t < 10)
          refine lv_bipush (v := (-9)) hx hb dX5_number_57 (by decide) ?_
          exact W.iret (v := (-9)) hx hb hr (fun t ht hW => ⟨(-9), rfl, trivial, ht⟩) (fun _ h => by cases h) dX5_number_59
        · have ic6 := (xi_nlt c6 h_x (by decide) : 10 ≤ x_t)
          refine lv_iload_n hx hb dX5_number_34 rfl (lv_at hl 1 rfl) ?_
          refine lv_bipush (v := 10) hx hb dX5_number_35 (by decide) ?_
          refine lv_isub hx hb dX5_number_37 ?_
          refine lv_topi (fun v7 ev7 => ?_)
          have jv7 : v7.toInt = x_t - 10 := xi_sub ev7 h_x (by decide) (by omega) (by omega)
          refine lv_aload_n hx hb dX5_number_38 rfl (lv_at hl 0 rfl) ?_
          refine h_get (v := .int (I0 a0 2)) hx hb hts iX5 hown g t_a0 (by decide) so_6 rfl 2 (by decide) (hts (.fieldLink RX5 30 "CapLeague$Laws" "lotCount" "I") (by decide +kernel)) rfl dX5_number_39 rfl ?_
          refine lv_topi (fun v8 ev8 => ?_)
          have jv8 := hI.rd a0 2 t_a0 ev8 (rfl : h_bd 6 2 = (0, 6))
          refine lv_icmp_ge (tgt := 57) hx hb dX5_number_42 (by decide) (fun c9 => ?_) (fun c9 => ?_)
          · have ic9 := (xi_le c9 rfl rfl : v8.toInt ≤ v7.toInt)
            refine lv_bipush (v := (-9)) hx hb dX5_number_57 (by decide) ?_
            exact W.iret (v := (-9)) hx hb hr (fun t ht hW => ⟨(-9), rfl, trivial, ht⟩) (fun _ h => by cases h) dX5_number_59
          · have ic9 := (xi_nle c9 rfl rfl : v7.toInt < v8.toInt)
            refine lv_aload_n hx hb dX5_number_45 rfl (lv_at hl 0 rfl) ?_
            obtain ⟨b10, rb10, tb10⟩ := hR.at a0 1 t_a0 (rfl : h_rs 6 1 = some (601, false)) (by decide)
            refine h_get (v := .ref b10) hx hb hts iX5 hown g t_a0 (by decide) so_6 rfl 1 (by decide) (hts (.fieldLink RX5 15 "CapLeague$Laws" "lots" "[I") (by decide +kernel)) rfl dX5_number_46 (by show va_rf (z.R a0 1) = _; rw [rb10]; rfl) ?_
            refine lv_iload_n hx hb dX5_number_49 rfl (lv_at hl 1 rfl) ?_
            refine lv_bipush (v := 10) hx hb dX5_number_50 (by decide) ?_
            refine lv_isub hx hb dX5_number_52 ?_
            refine xw_i (v := v7) ev7.symm ?_
            refine h_ald hx hb g tb10 (by decide) so_601 (xi_in (by omega) (by omega)) dX5_number_53 ?_
            refine lv_topi (fun v11 ev11 => ?_)
            have jv11 := hI.rd b10 v7.toNatClampNeg tb10 ev11 (rfl : h_bd 601 _ = ((-2147483648), 2147483647))
            refine lv_goto (tgt := 59) hx hb dX5_number_54 (by decide) ?_
            exact W.iret (v := v11) hx hb hr (fun t ht hW => ⟨v11, rfl, trivial, ht⟩) (fun _ h => by cases h) dX5_number_59
      · have ic5 := (xi_eq c5 h_x (by decide) : x_t = 8)
        refine lv_aload_n hx hb dX5_number_23 rfl (lv_at hl 0 rfl) ?_
        refine h_get (v := .int (I0 a0 2)) hx hb hts iX5 hown g t_a0 (by decide) so_6 rfl 2 (by decide) (hts (.fieldLink RX5 30 "CapLeague$Laws" "lotCount" "I") (by decide +kernel)) rfl dX5_number_24 rfl ?_
        refine lv_topi (fun v12 ev12 => ?_)
        have jv12 := hI.rd a0 2 t_a0 ev12 (rfl : h_bd 6 2 = (0, 6))
        exact W.iret (v := v12) hx hb hr (fun t ht hW => ⟨v12, rfl, trivial, ht⟩) (fun _ h => by cases h) dX5_number_27
    · have ic4 := (xi_nle c4 (by decide) h_x : x_t < 8)
      refine lv_aload_n hx hb dX5_number_10 rfl (lv_at hl 0 rfl) ?_
      obtain ⟨b13, rb13, tb13⟩ := hR.at a0 0 t_a0 (rfl : h_rs 6 0 = some (600, false)) (by decide)
      refine h_get (v := .ref b13) hx hb hts iX5 hown g t_a0 (by decide) so_6 rfl 0 (by decide) (hts (.fieldLink RX5 9 "CapLeague$Laws" "numbers" "[I") (by decide +kernel)) rfl dX5_number_11 (by show va_rf (z.R a0 0) = _; rw [rb13]; rfl) ?_
      refine lv_iload_n hx hb dX5_number_14 rfl (lv_at hl 1 rfl) ?_
      refine h_ald hx hb g tb13 (by decide) so_600 (xi_in (by rw [h_x]; omega) (by rw [h_x]; omega)) dX5_number_15 ?_
      refine lv_topi (fun v14 ev14 => ?_)
      have jv14 := hI.rd b13 x.toNatClampNeg tb13 ev14 (rfl : h_bd 600 _ = ((-2147483648), 2147483647))
      exact W.iret (v := v14) hx hb hr (fun t ht hW => ⟨v14, rfl, trivial, ht⟩) (fun _ h => by cases h) dX5_number_16
set_option maxHeartbeats 4000000 in
set_option maxRecDepth 100000 in
theorem tX5_lotClubs (l : Launch) (E : tE) (X : tX) (A : Nat → Prop) (z : tZ) (I0 : tI) (L0 : tL) (a0 : Nat) (t_a0 : z.ty a0 = 6) : Met l yX5_lotClubs wsX5_lotClubs ({ frames := 1, cells := 0, slots := 0, locals := 64 }) (va_Pc [.ref a0] (h_P E X A z I0 L0)) (vp_Si (fun r => (0 ≤ r.toInt ∧ r.toInt ≤ 6))) 0 0 (fun _ => False) := by
  refine Met.ofW (cc := cX5_lotClubs) (maxL := 1) (ret := (some .int)) (by decide) rfl ?_
  intro pr_ ev_ s m args below meth cd_ s₁ B hml hv
  obtain ⟨rfl, hE, hk, hX, hA, hK, hI, hR, hB0⟩ := hv
  have g : h_G h_so h_fk E A z I0 L0 s s.heap s.heap [] := ⟨hK, va_S.rf, hB0⟩
  have hx := B.exec
  have hb := B.bytes
  have hr := B.returns
  have hts := atoms_spec (ws := wsX5_lotClubs) B.pre
  have hown : s.vm.findClass RX5 = some m.cls := findClass_of_methodNamed B.named
  have hlocks := B.notSynchronized
  have iX5 : ∀ w ∈ u_ws RX5 TX5 3, w ∈ wsX5_lotClubs := by decide +kernel
  have hl := lv_entry ([.ref a0]) (n := 1) (Nat.le_of_ble_eq_true rfl)
  rw [lg_entry_eq]
  generalize (lg_sl ([.ref a0]) ++ List.replicate (1 - (lg_sl ([.ref a0])).length) Slot.unset).toArray = ls at hl ⊢
  have hl : lv_has ls 1 [(0, .ref a0)] := hl
  refine lv_aload_n hx hb dX5_lotClubs_0 rfl (lv_at hl 0 rfl) ?_
  refine h_get (v := .int (I0 a0 2)) hx hb hts iX5 hown g t_a0 (by decide) so_6 rfl 2 (by decide) (hts (.fieldLink RX5 30 "CapLeague$Laws" "lotCount" "I") (by decide +kernel)) rfl dX5_lotClubs_1 rfl ?_
  refine lv_topi (fun v1 ev1 => ?_)
  have jv1 := hI.rd a0 2 t_a0 ev1 (rfl : h_bd 6 2 = (0, 6))
  refine lv_iconst (v := 2) hx hb dX5_lotClubs_4 (by decide) ?_
  refine lv_icmp_lt (tgt := 15) hx hb dX5_lotClubs_5 (by decide) (fun c2 => ?_) (fun c2 => ?_)
  · have ic2 := (xi_lt c2 rfl (by decide) : v1.toInt < 2)
    refine lv_iconst (v := 0) hx hb dX5_lotClubs_15 (by decide) ?_
    exact W.iret (v := 0) hx hb hr (fun t ht hW => ⟨0, rfl, ⟨(by decide), (by decide)⟩, ht⟩) (fun _ h => by cases h) dX5_lotClubs_16
  · have ic2 := (xi_nlt c2 rfl (by decide) : 2 ≤ v1.toInt)
    refine lv_aload_n hx hb dX5_lotClubs_8 rfl (lv_at hl 0 rfl) ?_
    refine h_get (v := .int v1) hx hb hts iX5 hown g t_a0 (by decide) so_6 rfl 2 (by decide) (hts (.fieldLink RX5 30 "CapLeague$Laws" "lotCount" "I") (by decide +kernel)) rfl dX5_lotClubs_9 (congrArg Value.int (ev1.symm)) ?_
    refine lv_goto (tgt := 16) hx hb dX5_lotClubs_12 (by decide) ?_
    exact W.iret (v := v1) hx hb hr (fun t ht hW => ⟨v1, rfl, ⟨(by omega), (by omega)⟩, ht⟩) (fun _ h => by cases h) dX5_lotClubs_16
set_option maxHeartbeats 4000000 in
set_option maxRecDepth 100000 in
theorem tX5_weight (l : Launch) (E : tE) (X : tX) (A : Nat → Prop) (z : tZ) (I0 : tI) (L0 : tL) (a0 : Nat) (t_a0 : z.ty a0 = 6) (x : Int32) (x_t : Int) (h_x : x.toInt = x_t) : Met l yX5_weight wsX5_weight ({ frames := 1, cells := 0, slots := 0, locals := 64 }) (va_Pc [.ref a0, .int x] (h_P E X A z I0 L0)) (vp_Si (fun r => True)) 0 0 (fun _ => False) := by
  refine Met.ofW (cc := cX5_weight) (maxL := 2) (ret := (some .int)) (by decide) rfl ?_
  intro pr_ ev_ s m args below meth cd_ s₁ B hml hv
  obtain ⟨rfl, hE, hk, hX, hA, hK, hI, hR, hB0⟩ := hv
  have g : h_G h_so h_fk E A z I0 L0 s s.heap s.heap [] := ⟨hK, va_S.rf, hB0⟩
  have hx := B.exec
  have hb := B.bytes
  have hr := B.returns
  have hts := atoms_spec (ws := wsX5_weight) B.pre
  have hown : s.vm.findClass RX5 = some m.cls := findClass_of_methodNamed B.named
  have hlocks := B.notSynchronized
  have iX5 : ∀ w ∈ u_ws RX5 TX5 3, w ∈ wsX5_weight := by decide +kernel
  have hl := lv_entry ([.ref a0, .int x]) (n := 2) (Nat.le_of_ble_eq_true rfl)
  rw [lg_entry_eq]
  generalize (lg_sl ([.ref a0, .int x]) ++ List.replicate (2 - (lg_sl ([.ref a0, .int x])).length) Slot.unset).toArray = ls at hl ⊢
  have hl : lv_has ls 2 [(0, .ref a0), (1, .int x)] := hl
  have b_x : -2147483648 ≤ x_t ∧ x_t ≤ 2147483647 := h_x ▸ ⟨xi_lo x, Int.le_of_lt_add_one (xi_hi x)⟩
  refine lv_iload_n hx hb dX5_weight_0 rfl (lv_at hl 1 rfl) ?_
  refine lv_if_lt (tgt := 21) hx hb dX5_weight_1 (by decide) (fun c1 => ?_) (fun c1 => ?_)
  · have ic1 := (xi_lt c1 h_x (by decide) : x_t < 0)
    refine lv_iconst (v := 0) hx hb dX5_weight_21 (by decide) ?_
    exact W.iret (v := 0) hx hb hr (fun t ht hW => ⟨0, rfl, trivial, ht⟩) (fun _ h => by cases h) dX5_weight_22
  · have ic1 := (xi_nlt c1 h_x (by decide) : 0 ≤ x_t)
    refine lv_iload_n hx hb dX5_weight_4 rfl (lv_at hl 1 rfl) ?_
    refine lv_aload_n hx hb dX5_weight_5 rfl (lv_at hl 0 rfl) ?_
    refine h_get (v := .int (I0 a0 2)) hx hb hts iX5 hown g t_a0 (by decide) so_6 rfl 2 (by decide) (hts (.fieldLink RX5 30 "CapLeague$Laws" "lotCount" "I") (by decide +kernel)) rfl dX5_weight_6 rfl ?_
    refine lv_topi (fun v2 ev2 => ?_)
    have jv2 := hI.rd a0 2 t_a0 ev2 (rfl : h_bd 6 2 = (0, 6))
    refine lv_icmp_ge (tgt := 21) hx hb dX5_weight_9 (by decide) (fun c3 => ?_) (fun c3 => ?_)
    · have ic3 := (xi_le c3 rfl h_x : v2.toInt ≤ x_t)
      refine lv_iconst (v := 0) hx hb dX5_weight_21 (by decide) ?_
      exact W.iret (v := 0) hx hb hr (fun t ht hW => ⟨0, rfl, trivial, ht⟩) (fun _ h => by cases h) dX5_weight_22
    · have ic3 := (xi_nle c3 rfl h_x : x_t < v2.toInt)
      refine lv_aload_n hx hb dX5_weight_12 rfl (lv_at hl 0 rfl) ?_
      obtain ⟨b4, rb4, tb4⟩ := hR.at a0 1 t_a0 (rfl : h_rs 6 1 = some (601, false)) (by decide)
      refine h_get (v := .ref b4) hx hb hts iX5 hown g t_a0 (by decide) so_6 rfl 1 (by decide) (hts (.fieldLink RX5 15 "CapLeague$Laws" "lots" "[I") (by decide +kernel)) rfl dX5_weight_13 (by show va_rf (z.R a0 1) = _; rw [rb4]; rfl) ?_
      refine lv_iload_n hx hb dX5_weight_16 rfl (lv_at hl 1 rfl) ?_
      refine h_ald hx hb g tb4 (by decide) so_601 (xi_in (by rw [h_x]; omega) (by rw [h_x]; omega)) dX5_weight_17 ?_
      refine lv_topi (fun v5 ev5 => ?_)
      have jv5 := hI.rd b4 x.toNatClampNeg tb4 ev5 (rfl : h_bd 601 _ = ((-2147483648), 2147483647))
      refine lv_goto (tgt := 22) hx hb dX5_weight_18 (by decide) ?_
      exact W.iret (v := v5) hx hb hr (fun t ht hW => ⟨v5, rfl, trivial, ht⟩) (fun _ h => by cases h) dX5_weight_22
set_option maxHeartbeats 4000000 in
set_option maxRecDepth 100000 in
theorem tX5_weightSum (l : Launch) (E : tE) (X : tX) (A : Nat → Prop) (z : tZ) (I0 : tI) (L0 : tL) (a0 : Nat) (t_a0 : z.ty a0 = 6) : Met l yX5_weightSum wsX5_weightSum ({ frames := 1, cells := 0, slots := 0, locals := 64 }) (va_Pc [.ref a0] (h_P E X A z I0 L0)) (vp_Si (fun r => True)) 0 0 (fun _ => False) := by
  refine Met.ofW (cc := cX5_weightSum) (maxL := 3) (ret := (some .int)) (by decide) rfl ?_
  intro pr_ ev_ s m args below meth cd_ s₁ B hml hv
  obtain ⟨rfl, hE, hk, hX, hA, hK, hI, hR, hB0⟩ := hv
  have g : h_G h_so h_fk E A z I0 L0 s s.heap s.heap [] := ⟨hK, va_S.rf, hB0⟩
  have hx := B.exec
  have hb := B.bytes
  have hr := B.returns
  have hts := atoms_spec (ws := wsX5_weightSum) B.pre
  have hown : s.vm.findClass RX5 = some m.cls := findClass_of_methodNamed B.named
  have hlocks := B.notSynchronized
  have iX5 : ∀ w ∈ u_ws RX5 TX5 3, w ∈ wsX5_weightSum := by decide +kernel
  have hl := lv_entry ([.ref a0]) (n := 3) (Nat.le_of_ble_eq_true rfl)
  rw [lg_entry_eq]
  generalize (lg_sl ([.ref a0]) ++ List.replicate (3 - (lg_sl ([.ref a0])).length) Slot.unset).toArray = ls at hl ⊢
  have hl : lv_has ls 3 [(0, .ref a0)] := hl
  refine lv_iconst (v := 0) hx hb dX5_weightSum_0 (by decide) ?_
  refine lv_istore_n (lv' := [(1, .int 0), (0, .ref a0)]) hx hb dX5_weightSum_1 rfl hl (by decide) rfl (fun ls hl => ?_)
  refine lv_iconst (v := 0) hx hb dX5_weightSum_2 (by decide) ?_
  refine lv_istore_n (lv' := [(2, .int 0), (1, .int 0), (0, .ref a0)]) hx hb dX5_weightSum_3 rfl hl (by decide) rfl (fun ls hl => ?_)
  have loop4_0 : ∀ (n : Nat) (ls : Array Slot) (v1 v2 : Int32), lv_has ls 3 [(0, .ref a0), (1, .int v1), (2, .int v2)] → ((-2147483648) ≤ v1.toInt ∧ v1.toInt ≤ 2147483647) → (0 ≤ v2.toInt ∧ v2.toInt ≤ 6) → (6 - v2.toInt) < (n : Int) → W pr_ l ev_ (headSpec wsX5_weightSum ({ frames := 1, cells := 0, slots := 0, locals := 64 })).room s m ([.ref a0] : List Value).toArray below meth cd_ s.heap [] 0 0 (MQ below (vp_Si (fun r => True)) ([.ref a0] : List Value).toArray s 0 0 (fun _ => False)) (F0 m 4 ls []) := by
    intro n
    induction n with
    | zero => intro ls v1 v2 hl jv1 jv2 hn; exact absurd hn (by omega)
    | succ n ih4 =>
      intro ls v1 v2 hl jv1 jv2 hn
      refine lv_iload_n hx hb dX5_weightSum_4 rfl (lv_at hl 2 rfl) ?_
      refine lv_aload_n hx hb dX5_weightSum_5 rfl (lv_at hl 0 rfl) ?_
      refine h_get (v := .int (I0 a0 2)) hx hb hts iX5 hown g t_a0 (by decide) so_6 rfl 2 (by decide) (hts (.fieldLink RX5 30 "CapLeague$Laws" "lotCount" "I") (by decide +kernel)) rfl dX5_weightSum_6 rfl ?_
      refine lv_topi (fun v3 ev3 => ?_)
      have jv3 := hI.rd a0 2 t_a0 ev3 (rfl : h_bd 6 2 = (0, 6))
      refine lv_icmp_ge (tgt := 27) hx hb dX5_weightSum_9 (by decide) (fun c4 => ?_) (fun c4 => ?_)
      · have ic4 := (xi_le c4 rfl rfl : v3.toInt ≤ v2.toInt)
        refine lv_iload_n hx hb dX5_weightSum_27 rfl (lv_at hl 1 rfl) ?_
        exact W.iret (v := v1) hx hb hr (fun t ht hW => ⟨v1, rfl, trivial, ht⟩) (fun _ h => by cases h) dX5_weightSum_28
      · have ic4 := (xi_nle c4 rfl rfl : v2.toInt < v3.toInt)
        refine lv_iload_n hx hb dX5_weightSum_12 rfl (lv_at hl 1 rfl) ?_
        refine lv_aload_n hx hb dX5_weightSum_13 rfl (lv_at hl 0 rfl) ?_
        obtain ⟨b5, rb5, tb5⟩ := hR.at a0 1 t_a0 (rfl : h_rs 6 1 = some (601, false)) (by decide)
        refine h_get (v := .ref b5) hx hb hts iX5 hown g t_a0 (by decide) so_6 rfl 1 (by decide) (hts (.fieldLink RX5 15 "CapLeague$Laws" "lots" "[I") (by decide +kernel)) rfl dX5_weightSum_14 (by show va_rf (z.R a0 1) = _; rw [rb5]; rfl) ?_
        refine lv_iload_n hx hb dX5_weightSum_17 rfl (lv_at hl 2 rfl) ?_
        refine h_ald hx hb g tb5 (by decide) so_601 (xi_in (by omega) (by omega)) dX5_weightSum_18 ?_
        refine lv_topi (fun v6 ev6 => ?_)
        have jv6 := hI.rd b5 v2.toNatClampNeg tb5 ev6 (rfl : h_bd 601 _ = ((-2147483648), 2147483647))
        refine lv_iadd hx hb dX5_weightSum_19 ?_
        refine lv_topi (fun v7 ev7 => ?_)
        have jv7 : -2147483648 ≤ v7.toInt ∧ v7.toInt ≤ 2147483647 := ⟨xi_lo _, Int.le_of_lt_add_one (xi_hi _)⟩
        refine lv_istore_n (lv' := [(1, .int v7), (0, .ref a0), (2, .int v2)]) hx hb dX5_weightSum_20 rfl hl (by decide) rfl (fun ls hl => ?_)
        obtain ⟨v8, ev8⟩ : ∃ z : Int32, z = v2 + 1 := ⟨_, rfl⟩
        have jv8 : v8.toInt = v2.toInt + 1 := xi_add ev8 rfl (by decide) (by omega) (by omega)
        refine lv_iinc (v := v8) (lv' := [(2, .int v8), (1, .int v7), (0, .ref a0)]) hx hb dX5_weightSum_21 hl (k := 2) rfl (by rw [ev8]; rfl) (by decide) rfl (fun ls hl => ?_)
        refine lv_goto (tgt := 4) hx hb dX5_weightSum_24 (by decide) ?_
        exact ih4 _ v7 v8 (lv_sub hl [2, 1, 0] rfl) (by omega) (by omega) (by omega)
  exact loop4_0 _ _ (0) (0) (lv_sub hl [2, 1, 0] rfl) ⟨by decide, by decide⟩ ⟨by decide, by decide⟩ (show (6 - (0 : Int)) < (((6 - (0 : Int)).toNat + 1 : Nat) : Int) by omega)
set_option maxHeartbeats 4000000 in
set_option maxRecDepth 100000 in
theorem tX3_of (l : Launch) (E : tE) (X : tX) (A : Nat → Prop) (z : tZ) (I0 : tI) (L0 : tL) (a0 : Nat) (t_a0 : z.ty a0 = 4) (y : Int32) (y_t : Int) (h_y : y.toInt = y_t) : Met l yX3_of wsX3_of ({ frames := 1, cells := 0, slots := 0, locals := 64 }) (va_Pc [.ref a0, .int y] (h_P E X A z I0 L0)) (va_Sq (fun r => (∃ b, r = some b ∧ z.ty b = 6))) 0 0 (fun _ => False) := by
  refine Met.ofW (cc := cX3_of) (maxL := 3) (ret := (some (.object "CapLeague$Laws"))) (by decide) rfl ?_
  intro pr_ ev_ s m args below meth cd_ s₁ B hml hv
  obtain ⟨rfl, hE, hk, hX, hA, hK, hI, hR, hB0⟩ := hv
  have g : h_G h_so h_fk E A z I0 L0 s s.heap s.heap [] := ⟨hK, va_S.rf, hB0⟩
  have hx := B.exec
  have hb := B.bytes
  have hr := B.returns
  have hts := atoms_spec (ws := wsX3_of) B.pre
  have hown : s.vm.findClass RX3 = some m.cls := findClass_of_methodNamed B.named
  have hlocks := B.notSynchronized
  have iX3 : ∀ w ∈ u_ws RX3 TX3 2, w ∈ wsX3_of := by decide +kernel
  have hl := lv_entry ([.ref a0, .int y]) (n := 3) (Nat.le_of_ble_eq_true rfl)
  rw [lg_entry_eq]
  generalize (lg_sl ([.ref a0, .int y]) ++ List.replicate (3 - (lg_sl ([.ref a0, .int y])).length) Slot.unset).toArray = ls at hl ⊢
  have hl : lv_has ls 3 [(0, .ref a0), (1, .int y)] := hl
  have b_y : -2147483648 ≤ y_t ∧ y_t ≤ 2147483647 := h_y ▸ ⟨xi_lo y, Int.le_of_lt_add_one (xi_hi y)⟩
  refine lv_bipush (v := 9) hx hb dX3_of_0 (by decide) ?_
  refine lv_istore_n (lv' := [(2, .int 9), (0, .ref a0), (1, .int y)]) hx hb dX3_of_2 rfl hl (by decide) rfl (fun ls hl => ?_)
  have loop3_0 : ∀ (n : Nat) (ls : Array Slot) (v1 : Int32), lv_has ls 3 [(0, .ref a0), (1, .int y), (2, .int v1)] → ((-1) ≤ v1.toInt ∧ v1.toInt ≤ 9) → (v1.toInt + 2) < (n : Int) → W pr_ l ev_ (headSpec wsX3_of ({ frames := 1, cells := 0, slots := 0, locals := 64 })).room s m ([.ref a0, .int y] : List Value).toArray below meth cd_ s.heap [] 0 0 (MQ below (va_Sq (fun r => (∃ b, r = some b ∧ z.ty b = 6))) ([.ref a0, .int y] : List Value).toArray s 0 0 (fun _ => False)) (F0 m 3 ls []) := by
    intro n
    induction n with
    | zero => intro ls v1 hl jv1 hn; exact absurd hn (by omega)
    | succ n ih3 =>
      intro ls v1 hl jv1 hn
      refine lv_iload_n hx hb dX3_of_3 rfl (lv_at hl 2 rfl) ?_
      refine lv_if_lt (tgt := 34) hx hb dX3_of_4 (by decide) (fun c2 => ?_) (fun c2 => ?_)
      · have ic2 := (xi_lt c2 rfl (by decide) : v1.toInt < 0)
        refine lv_aload_n hx hb dX3_of_34 rfl (lv_at hl 0 rfl) ?_
        obtain ⟨b3, rb3, tb3⟩ := hR.at a0 0 t_a0 (rfl : h_rs 4 0 = some (6, false)) (by decide)
        refine h_get (v := .ref b3) hx hb hts iX3 hown g t_a0 (by decide) so_4 rfl 0 (by decide) (hts (.fieldLink RX3 12 "CapLeague$LawBook" "untold" "LCapLeague$Laws;") (by decide +kernel)) rfl dX3_of_35 (by show va_rf (z.R a0 0) = _; rw [rb3]; rfl) ?_
        exact W.aret (v := .ref b3) hx hb hr (Or.inl ⟨_, rfl⟩) (Or.inr ⟨_, rfl⟩) (fun t ht hW => ⟨some b3, rfl, ⟨b3, rfl, tb3⟩, ht⟩) (fun _ h => by cases h) dX3_of_38
      · have ic2 := (xi_nlt c2 rfl (by decide) : 0 ≤ v1.toInt)
        refine lv_iload_n hx hb dX3_of_7 rfl (lv_at hl 2 rfl) ?_
        refine lv_iload_n hx hb dX3_of_8 rfl (lv_at hl 1 rfl) ?_
        refine lv_icmp_gt (tgt := 28) hx hb dX3_of_9 (by decide) (fun c4 => ?_) (fun c4 => ?_)
        · have ic4 := (xi_lt c4 h_y rfl : y_t < v1.toInt)
          obtain ⟨v5, ev5⟩ : ∃ z : Int32, z = v1 + (-1) := ⟨_, rfl⟩
          have jv5 : v5.toInt = v1.toInt + (-1) := xi_add ev5 rfl (by decide) (by omega) (by omega)
          refine lv_iinc (v := v5) (lv' := [(2, .int v5), (0, .ref a0), (1, .int y)]) hx hb dX3_of_28 hl (k := 2) rfl (by rw [ev5]; rfl) (by decide) rfl (fun ls hl => ?_)
          refine lv_goto (tgt := 3) hx hb dX3_of_31 (by decide) ?_
          exact ih3 _ v5 (lv_sub hl [1, 2, 0] rfl) (by omega) (by omega)
        · have ic4 := (xi_nlt c4 h_y rfl : v1.toInt ≤ y_t)
          refine lv_aload_n hx hb dX3_of_12 rfl (lv_at hl 0 rfl) ?_
          obtain ⟨b6, rb6, tb6⟩ := hR.at a0 1 t_a0 (rfl : h_rs 4 1 = some (401, false)) (by decide)
          refine h_get (v := .ref b6) hx hb hts iX3 hown g t_a0 (by decide) so_4 rfl 1 (by decide) (hts (.fieldLink RX3 18 "CapLeague$LawBook" "texts" "[LCapLeague$Laws;") (by decide +kernel)) rfl dX3_of_13 (by show va_rf (z.R a0 1) = _; rw [rb6]; rfl) ?_
          refine lv_iload_n hx hb dX3_of_16 rfl (lv_at hl 2 rfl) ?_
          rcases hR.nl b6 v1.toNatClampNeg tb6 (rfl : h_rs 401 _ = some (6, true)) (by rw [so_401]; exact h_lt (n := 10) (xi_in (by omega) (by omega))) with rb7 | ⟨b7, rb7, tb7⟩
          · refine h_aldL (v := .null) hx hb g tb6 (by decide) so_401 (xi_in (by omega) (by omega)) dX3_of_17 (by rw [rb7]; rfl) ?_
            refine lv_ifnullN (tgt := 28) hx hb dX3_of_18 (by decide) ?_
            obtain ⟨v8, ev8⟩ : ∃ z : Int32, z = v1 + (-1) := ⟨_, rfl⟩
            have jv8 : v8.toInt = v1.toInt + (-1) := xi_add ev8 rfl (by decide) (by omega) (by omega)
            refine lv_iinc (v := v8) (lv' := [(2, .int v8), (0, .ref a0), (1, .int y)]) hx hb dX3_of_28 hl (k := 2) rfl (by rw [ev8]; rfl) (by decide) rfl (fun ls hl => ?_)
            refine lv_goto (tgt := 3) hx hb dX3_of_31 (by decide) ?_
            exact ih3 _ v8 (lv_sub hl [1, 2, 0] rfl) (by omega) (by omega)
          · refine h_aldL (v := .ref b7) hx hb g tb6 (by decide) so_401 (xi_in (by omega) (by omega)) dX3_of_17 (by rw [rb7]; rfl) ?_
            refine lv_ifnull hx hb dX3_of_18 ?_
            refine lv_aload_n hx hb dX3_of_21 rfl (lv_at hl 0 rfl) ?_
            refine h_get (v := .ref b6) hx hb hts iX3 hown g t_a0 (by decide) so_4 rfl 1 (by decide) (hts (.fieldLink RX3 18 "CapLeague$LawBook" "texts" "[LCapLeague$Laws;") (by decide +kernel)) rfl dX3_of_22 (by show va_rf (z.R a0 1) = _; rw [rb6]; rfl) ?_
            refine lv_iload_n hx hb dX3_of_25 rfl (lv_at hl 2 rfl) ?_
            refine h_aldL (v := .ref b7) hx hb g tb6 (by decide) so_401 (xi_in (by omega) (by omega)) dX3_of_26 (by rw [rb7]; rfl) ?_
            exact W.aret (v := .ref b7) hx hb hr (Or.inl ⟨_, rfl⟩) (Or.inr ⟨_, rfl⟩) (fun t ht hW => ⟨some b7, rfl, ⟨b7, rfl, tb7⟩, ht⟩) (fun _ h => by cases h) dX3_of_27
  exact loop3_0 _ _ (9) (lv_sub hl [1, 2, 0] rfl) ⟨by decide, by decide⟩ (show ((9 : Int) + 2) < ((((9 : Int) + 2).toNat + 1 : Nat) : Int) by omega)
set_option maxHeartbeats 4000000 in
set_option maxRecDepth 100000 in
theorem tX6_isSigned (l : Launch) (E : tE) (X : tX) (A : Nat → Prop) (z : tZ) (I0 : tI) (L0 : tL) (a0 : Nat) (t_a0 : z.ty a0 = 7) : Met l yX6_isSigned wsX6_isSigned ({ frames := 1, cells := 0, slots := 0, locals := 64 }) (va_Pc [.ref a0] (h_P E X A z I0 L0)) (vp_Si (fun r => (0 ≤ r.toInt ∧ r.toInt ≤ 1))) 0 0 (fun _ => False) := by
  refine Met.ofW (cc := cX6_isSigned) (maxL := 1) (ret := (some .boolean)) (by decide) rfl ?_
  intro pr_ ev_ s m args below meth cd_ s₁ B hml hv
  obtain ⟨rfl, hE, hk, hX, hA, hK, hI, hR, hB0⟩ := hv
  have g : h_G h_so h_fk E A z I0 L0 s s.heap s.heap [] := ⟨hK, va_S.rf, hB0⟩
  have hx := B.exec
  have hb := B.bytes
  have hr := B.returns
  have hts := atoms_spec (ws := wsX6_isSigned) B.pre
  have hown : s.vm.findClass RX6 = some m.cls := findClass_of_methodNamed B.named
  have hlocks := B.notSynchronized
  have iX6 : ∀ w ∈ u_ws RX6 TX6 9, w ∈ wsX6_isSigned := by decide +kernel
  have hl := lv_entry ([.ref a0]) (n := 1) (Nat.le_of_ble_eq_true rfl)
  rw [lg_entry_eq]
  generalize (lg_sl ([.ref a0]) ++ List.replicate (1 - (lg_sl ([.ref a0])).length) Slot.unset).toArray = ls at hl ⊢
  have hl : lv_has ls 1 [(0, .ref a0)] := hl
  refine lv_aload_n hx hb dX6_isSigned_0 rfl (lv_at hl 0 rfl) ?_
  refine h_get (v := .int (I0 a0 0)) hx hb hts iX6 hown g t_a0 (by decide) so_7 rfl 0 (by decide) (hts (.fieldLink RX6 9 "CapLeague$Player" "club" "I") (by decide +kernel)) rfl dX6_isSigned_1 rfl ?_
  refine lv_topi (fun v1 ev1 => ?_)
  have jv1 := hI.rd a0 0 t_a0 ev1 (rfl : h_bd 7 0 = ((-1), 7))
  refine lv_iconst (v := (-1)) hx hb dX6_isSigned_4 (by decide) ?_
  refine lv_icmp_eq (tgt := 12) hx hb dX6_isSigned_5 (by decide) (fun c2 => ?_) (fun c2 => ?_)
  · have ic2 := (xi_eq c2 rfl (by decide) : v1.toInt = (-1))
    refine lv_iconst (v := 0) hx hb dX6_isSigned_12 (by decide) ?_
    exact W.zret (v := 0) hx hb hr (by decide) (fun t ht hW => ⟨0, rfl, ⟨(by decide), (by decide)⟩, ht⟩) (fun _ h => by cases h) dX6_isSigned_13
  · have ic2 := (xi_ne c2 rfl (by decide) : v1.toInt ≠ (-1))
    refine lv_iconst (v := 1) hx hb dX6_isSigned_8 (by decide) ?_
    refine lv_goto (tgt := 13) hx hb dX6_isSigned_9 (by decide) ?_
    exact W.zret (v := 1) hx hb hr (by decide) (fun t ht hW => ⟨1, rfl, ⟨(by decide), (by decide)⟩, ht⟩) (fun _ h => by cases h) dX6_isSigned_13
set_option maxHeartbeats 4000000 in
set_option maxRecDepth 100000 in
theorem tX6_payIn (l : Launch) (E : tE) (X : tX) (A : Nat → Prop) (z : tZ) (I0 : tI) (L0 : tL) (a0 : Nat) (t_a0 : z.ty a0 = 7) (y : Int32) (y_t : Int) (h_y : y.toInt = y_t) : Met l yX6_payIn wsX6_payIn ({ frames := 2, cells := 0, slots := 0, locals := 128 }) (va_Pc [.ref a0, .int y] (h_P E X A z I0 L0)) (vp_Si (fun r => True)) 0 0 (fun _ => False) := by
  refine Met.ofW (cc := cX6_payIn) (maxL := 2) (ret := (some .int)) (by decide) rfl ?_
  intro pr_ ev_ s m args below meth cd_ s₁ B hml hv
  obtain ⟨rfl, hE, hk, hX, hA, hK, hI, hR, hB0⟩ := hv
  have g : h_G h_so h_fk E A z I0 L0 s s.heap s.heap [] := ⟨hK, va_S.rf, hB0⟩
  have hx := B.exec
  have hb := B.bytes
  have hr := B.returns
  have hts := atoms_spec (ws := wsX6_payIn) B.pre
  have hown : s.vm.findClass RX6 = some m.cls := findClass_of_methodNamed B.named
  have hlocks := B.notSynchronized
  have iX6 : ∀ w ∈ u_ws RX6 TX6 9, w ∈ wsX6_payIn := by decide +kernel
  have hl := lv_entry ([.ref a0, .int y]) (n := 2) (Nat.le_of_ble_eq_true rfl)
  rw [lg_entry_eq]
  generalize (lg_sl ([.ref a0, .int y]) ++ List.replicate (2 - (lg_sl ([.ref a0, .int y])).length) Slot.unset).toArray = ls at hl ⊢
  have hl : lv_has ls 2 [(0, .ref a0), (1, .int y)] := hl
  have b_y : -2147483648 ≤ y_t ∧ y_t ≤ 2147483647 := h_y ▸ ⟨xi_lo y, Int.le_of_lt_add_one (xi_hi y)⟩
  refine lv_aload_n hx hb dX6_payIn_0 rfl (lv_at hl 0 rfl) ?_
  refine vp_callSi (W.runV (As := []) (rest := []) ⟨hx, hb, hml, hown, hts⟩ (tX6_isSigned l E X A z I0 L0 a0 t_a0) (cwV 0 hts gX6_payIn_X6_isSigned rfl rfl rfl (by decide +kernel) ⟨Nat.le_of_ble_eq_true rfl, Nat.le_of_ble_eq_true rfl⟩) ⟨h_blind _ _ _ _ _ _ _, h_recv g t_a0 (by decide) so_7 (q := (RX6, TX6, 9)) rfl, h_pre _ hE hk hX hA hI hR g⟩ rfl rfl hl.1 rfl (lv_room (Nat.le_of_ble_eq_true rfl)) dX6_payIn_1 ⟨Nat.le_of_ble_eq_true rfl, Nat.le_of_ble_eq_true rfl⟩) (fun rh1 h1 => ?_)
  refine lv_if_eq (tgt := 23) hx hb dX6_payIn_4 (by decide) (fun c2 => ?_) (fun c2 => ?_)
  · have ic2 := (xi_eq c2 rfl (by decide) : rh1.toInt = 0)
    refine lv_iconst (v := 0) hx hb dX6_payIn_23 (by decide) ?_
    exact W.iret (v := 0) hx hb hr (fun t ht hW => ⟨0, rfl, trivial, ht⟩) (fun _ h => by cases h) dX6_payIn_24
  · have ic2 := (xi_ne c2 rfl (by decide) : rh1.toInt ≠ 0)
    refine lv_iload_n hx hb dX6_payIn_7 rfl (lv_at hl 1 rfl) ?_
    refine lv_aload_n hx hb dX6_payIn_8 rfl (lv_at hl 0 rfl) ?_
    refine h_get (v := .int (I0 a0 1)) hx hb hts iX6 hown g t_a0 (by decide) so_7 rfl 1 (by decide) (hts (.fieldLink RX6 19 "CapLeague$Player" "from" "I") (by decide +kernel)) rfl dX6_payIn_9 rfl ?_
    refine lv_topi (fun v3 ev3 => ?_)
    have jv3 := hI.rd a0 1 t_a0 ev3 (rfl : h_bd 7 1 = ((-2147483648), 2147483647))
    refine lv_icmp_lt (tgt := 23) hx hb dX6_payIn_12 (by decide) (fun c4 => ?_) (fun c4 => ?_)
    · have ic4 := (xi_lt c4 h_y rfl : y_t < v3.toInt)
      refine lv_iconst (v := 0) hx hb dX6_payIn_23 (by decide) ?_
      exact W.iret (v := 0) hx hb hr (fun t ht hW => ⟨0, rfl, trivial, ht⟩) (fun _ h => by cases h) dX6_payIn_24
    · have ic4 := (xi_nlt c4 h_y rfl : v3.toInt ≤ y_t)
      refine lv_iload_n hx hb dX6_payIn_15 rfl (lv_at hl 1 rfl) ?_
      refine lv_aload_n hx hb dX6_payIn_16 rfl (lv_at hl 0 rfl) ?_
      refine h_get (v := .int (I0 a0 2)) hx hb hts iX6 hown g t_a0 (by decide) so_7 rfl 2 (by decide) (hts (.fieldLink RX6 22 "CapLeague$Player" "last" "I") (by decide +kernel)) rfl dX6_payIn_17 rfl ?_
      refine lv_topi (fun v5 ev5 => ?_)
      have jv5 := hI.rd a0 2 t_a0 ev5 (rfl : h_bd 7 2 = ((-2147483648), 2147483647))
      refine lv_icmp_le (tgt := 25) hx hb dX6_payIn_20 (by decide) (fun c6 => ?_) (fun c6 => ?_)
      · have ic6 := (xi_le c6 h_y rfl : y_t ≤ v5.toInt)
        refine lv_iconst (v := 0) hx hb dX6_payIn_25 (by decide) ?_
        refine lv_aload_n hx hb dX6_payIn_26 rfl (lv_at hl 0 rfl) ?_
        refine h_get (v := .int (I0 a0 3)) hx hb hts iX6 hown g t_a0 (by decide) so_7 rfl 3 (by decide) (hts (.fieldLink RX6 25 "CapLeague$Player" "pay" "I") (by decide +kernel)) rfl dX6_payIn_27 rfl ?_
        refine lv_topi (fun v7 ev7 => ?_)
        have jv7 := hI.rd a0 3 t_a0 ev7 (rfl : h_bd 7 3 = ((-2147483648), 2147483647))
        refine lv_aload_n hx hb dX6_payIn_30 rfl (lv_at hl 0 rfl) ?_
        refine h_get (v := .int (I0 a0 4)) hx hb hts iX6 hown g t_a0 (by decide) so_7 rfl 4 (by decide) (hts (.fieldLink RX6 28 "CapLeague$Player" "rise" "I") (by decide +kernel)) rfl dX6_payIn_31 rfl ?_
        refine lv_topi (fun v8 ev8 => ?_)
        have jv8 := hI.rd a0 4 t_a0 ev8 (rfl : h_bd 7 4 = ((-2147483648), 2147483647))
        refine lv_iload_n hx hb dX6_payIn_34 rfl (lv_at hl 1 rfl) ?_
        refine lv_aload_n hx hb dX6_payIn_35 rfl (lv_at hl 0 rfl) ?_
        refine h_get (v := .int v3) hx hb hts iX6 hown g t_a0 (by decide) so_7 rfl 1 (by decide) (hts (.fieldLink RX6 19 "CapLeague$Player" "from" "I") (by decide +kernel)) rfl dX6_payIn_36 (congrArg Value.int (ev3.symm)) ?_
        refine lv_isub hx hb dX6_payIn_39 ?_
        refine lv_topi (fun v9 ev9 => ?_)
        have jv9 : -2147483648 ≤ v9.toInt ∧ v9.toInt ≤ 2147483647 := ⟨xi_lo _, Int.le_of_lt_add_one (xi_hi _)⟩
        refine lv_imul hx hb dX6_payIn_40 ?_
        refine lv_topi (fun v10 ev10 => ?_)
        have jv10 : -2147483648 ≤ v10.toInt ∧ v10.toInt ≤ 2147483647 := ⟨xi_lo _, Int.le_of_lt_add_one (xi_hi _)⟩
        refine lv_iadd hx hb dX6_payIn_41 ?_
        refine lv_topi (fun v11 ev11 => ?_)
        have jv11 : -2147483648 ≤ v11.toInt ∧ v11.toInt ≤ 2147483647 := ⟨xi_lo _, Int.le_of_lt_add_one (xi_hi _)⟩
        refine va_mmax hx hb (hml.trans hl.1.symm) hown (hts (.methodLink RX6 46 Lib.Math.max.name) (by decide +kernel)) (hts (.static Lib.Math.max.name) (by decide +kernel)) (hts (.initialized "java/lang/Math") (by decide +kernel)) (hts (.code Lib.Math.max.name Lib.Math.max.code 2 (some .int)) (by decide +kernel)) (Nat.le_of_ble_eq_true rfl) (Nat.le_of_ble_eq_true rfl) (Nat.le_of_ble_eq_true rfl) (Nat.le_of_ble_eq_true rfl) dX6_payIn_42 ?_
        refine lv_topi (fun v12 ev12 => ?_)
        have jv12 := h_max (a := 0) (b := v11.toInt) ev12 (by decide) rfl
        exact W.iret (v := v12) hx hb hr (fun t ht hW => ⟨v12, rfl, trivial, ht⟩) (fun _ h => by cases h) dX6_payIn_45
      · have ic6 := (xi_nle c6 h_y rfl : v5.toInt < y_t)
        refine lv_iconst (v := 0) hx hb dX6_payIn_23 (by decide) ?_
        exact W.iret (v := 0) hx hb hr (fun t ht hW => ⟨0, rfl, trivial, ht⟩) (fun _ h => by cases h) dX6_payIn_24
set_option maxHeartbeats 4000000 in
set_option maxRecDepth 100000 in
theorem tX6_isBoundIn (l : Launch) (E : tE) (X : tX) (A : Nat → Prop) (z : tZ) (I0 : tI) (L0 : tL) (a0 : Nat) (t_a0 : z.ty a0 = 7) (y : Int32) (y_t : Int) (h_y : y.toInt = y_t) : Met l yX6_isBoundIn wsX6_isBoundIn ({ frames := 2, cells := 0, slots := 0, locals := 128 }) (va_Pc [.ref a0, .int y] (h_P E X A z I0 L0)) (vp_Si (fun r => (0 ≤ r.toInt ∧ r.toInt ≤ 1))) 0 0 (fun _ => False) := by
  refine Met.ofW (cc := cX6_isBoundIn) (maxL := 2) (ret := (some .boolean)) (by decide) rfl ?_
  intro pr_ ev_ s m args below meth cd_ s₁ B hml hv
  obtain ⟨rfl, hE, hk, hX, hA, hK, hI, hR, hB0⟩ := hv
  have g : h_G h_so h_fk E A z I0 L0 s s.heap s.heap [] := ⟨hK, va_S.rf, hB0⟩
  have hx := B.exec
  have hb := B.bytes
  have hr := B.returns
  have hts := atoms_spec (ws := wsX6_isBoundIn) B.pre
  have hown : s.vm.findClass RX6 = some m.cls := findClass_of_methodNamed B.named
  have hlocks := B.notSynchronized
  have iX6 : ∀ w ∈ u_ws RX6 TX6 9, w ∈ wsX6_isBoundIn := by decide +kernel
  have hl := lv_entry ([.ref a0, .int y]) (n := 2) (Nat.le_of_ble_eq_true rfl)
  rw [lg_entry_eq]
  generalize (lg_sl ([.ref a0, .int y]) ++ List.replicate (2 - (lg_sl ([.ref a0, .int y])).length) Slot.unset).toArray = ls at hl ⊢
  have hl : lv_has ls 2 [(0, .ref a0), (1, .int y)] := hl
  have b_y : -2147483648 ≤ y_t ∧ y_t ≤ 2147483647 := h_y ▸ ⟨xi_lo y, Int.le_of_lt_add_one (xi_hi y)⟩
  refine lv_aload_n hx hb dX6_isBoundIn_0 rfl (lv_at hl 0 rfl) ?_
  refine vp_callSi (W.runV (As := []) (rest := []) ⟨hx, hb, hml, hown, hts⟩ (tX6_isSigned l E X A z I0 L0 a0 t_a0) (cwV 0 hts gX6_isBoundIn_X6_isSigned rfl rfl rfl (by decide +kernel) ⟨Nat.le_of_ble_eq_true rfl, Nat.le_of_ble_eq_true rfl⟩) ⟨h_blind _ _ _ _ _ _ _, h_recv g t_a0 (by decide) so_7 (q := (RX6, TX6, 9)) rfl, h_pre _ hE hk hX hA hI hR g⟩ rfl rfl hl.1 rfl (lv_room (Nat.le_of_ble_eq_true rfl)) dX6_isBoundIn_1 ⟨Nat.le_of_ble_eq_true rfl, Nat.le_of_ble_eq_true rfl⟩) (fun rh1 h1 => ?_)
  refine lv_if_eq (tgt := 43) hx hb dX6_isBoundIn_4 (by decide) (fun c2 => ?_) (fun c2 => ?_)
  · have ic2 := (xi_eq c2 rfl (by decide) : rh1.toInt = 0)
    refine lv_iconst (v := 0) hx hb dX6_isBoundIn_43 (by decide) ?_
    exact W.zret (v := 0) hx hb hr (by decide) (fun t ht hW => ⟨0, rfl, ⟨(by decide), (by decide)⟩, ht⟩) (fun _ h => by cases h) dX6_isBoundIn_44
  · have ic2 := (xi_ne c2 rfl (by decide) : rh1.toInt ≠ 0)
    refine lv_iload_n hx hb dX6_isBoundIn_7 rfl (lv_at hl 1 rfl) ?_
    refine lv_aload_n hx hb dX6_isBoundIn_8 rfl (lv_at hl 0 rfl) ?_
    refine h_get (v := .int (I0 a0 1)) hx hb hts iX6 hown g t_a0 (by decide) so_7 rfl 1 (by decide) (hts (.fieldLink RX6 19 "CapLeague$Player" "from" "I") (by decide +kernel)) rfl dX6_isBoundIn_9 rfl ?_
    refine lv_topi (fun v3 ev3 => ?_)
    have jv3 := hI.rd a0 1 t_a0 ev3 (rfl : h_bd 7 1 = ((-2147483648), 2147483647))
    refine lv_icmp_lt (tgt := 43) hx hb dX6_isBoundIn_12 (by decide) (fun c4 => ?_) (fun c4 => ?_)
    · have ic4 := (xi_lt c4 h_y rfl : y_t < v3.toInt)
      refine lv_iconst (v := 0) hx hb dX6_isBoundIn_43 (by decide) ?_
      exact W.zret (v := 0) hx hb hr (by decide) (fun t ht hW => ⟨0, rfl, ⟨(by decide), (by decide)⟩, ht⟩) (fun _ h => by cases h) dX6_isBoundIn_44
    · have ic4 := (xi_nlt c4 h_y rfl : v3.toInt ≤ y_t)
      refine lv_iload_n hx hb dX6_isBoundIn_15 rfl (lv_at hl 1 rfl) ?_
      refine lv_aload_n hx hb dX6_isBoundIn_16 rfl (lv_at hl 0 rfl) ?_
      refine h_get (v := .int (I0 a0 6)) hx hb hts iX6 hown g t_a0 (by decide) so_7 rfl 6 (by decide) (hts (.fieldLink RX6 34 "CapLeague$Player" "choiceOpen" "Z") (by decide +kernel)) rfl dX6_isBoundIn_17 rfl ?_
      refine lv_topi (fun v5 ev5 => ?_)
      have jv5 := hI.rd a0 6 t_a0 ev5 (rfl : h_bd 7 6 = (0, 1))
      refine lv_if_eq (tgt := 32) hx hb dX6_isBoundIn_20 (by decide) (fun c6 => ?_) (fun c6 => ?_)
      · have ic6 := (xi_eq c6 rfl (by decide) : v5.toInt = 0)
        refine lv_aload_n hx hb dX6_isBoundIn_32 rfl (lv_at hl 0 rfl) ?_
        refine h_get (v := .int (I0 a0 2)) hx hb hts iX6 hown g t_a0 (by decide) so_7 rfl 2 (by decide) (hts (.fieldLink RX6 22 "CapLeague$Player" "last" "I") (by decide +kernel)) rfl dX6_isBoundIn_33 rfl ?_
        refine lv_topi (fun v7 ev7 => ?_)
        have jv7 := hI.rd a0 2 t_a0 ev7 (rfl : h_bd 7 2 = ((-2147483648), 2147483647))
        refine lv_icmp_gt (tgt := 43) hx hb dX6_isBoundIn_36 (by decide) (fun c8 => ?_) (fun c8 => ?_)
        · have ic8 := (xi_lt c8 rfl h_y : v7.toInt < y_t)
          refine lv_iconst (v := 0) hx hb dX6_isBoundIn_43 (by decide) ?_
          exact W.zret (v := 0) hx hb hr (by decide) (fun t ht hW => ⟨0, rfl, ⟨(by decide), (by decide)⟩, ht⟩) (fun _ h => by cases h) dX6_isBoundIn_44
        · have ic8 := (xi_nlt c8 rfl h_y : y_t ≤ v7.toInt)
          refine lv_iconst (v := 1) hx hb dX6_isBoundIn_39 (by decide) ?_
          refine lv_goto (tgt := 44) hx hb dX6_isBoundIn_40 (by decide) ?_
          exact W.zret (v := 1) hx hb hr (by decide) (fun t ht hW => ⟨1, rfl, ⟨(by decide), (by decide)⟩, ht⟩) (fun _ h => by cases h) dX6_isBoundIn_44
      · have ic6 := (xi_ne c6 rfl (by decide) : v5.toInt ≠ 0)
        refine lv_aload_n hx hb dX6_isBoundIn_23 rfl (lv_at hl 0 rfl) ?_
        refine h_get (v := .int (I0 a0 2)) hx hb hts iX6 hown g t_a0 (by decide) so_7 rfl 2 (by decide) (hts (.fieldLink RX6 22 "CapLeague$Player" "last" "I") (by decide +kernel)) rfl dX6_isBoundIn_24 rfl ?_
        refine lv_topi (fun v9 ev9 => ?_)
        have jv9 := hI.rd a0 2 t_a0 ev9 (rfl : h_bd 7 2 = ((-2147483648), 2147483647))
        refine lv_iconst (v := 1) hx hb dX6_isBoundIn_27 (by decide) ?_
        refine lv_isub hx hb dX6_isBoundIn_28 ?_
        refine lv_topi (fun v10 ev10 => ?_)
        have jv10 : -2147483648 ≤ v10.toInt ∧ v10.toInt ≤ 2147483647 := ⟨xi_lo _, Int.le_of_lt_add_one (xi_hi _)⟩
        refine lv_goto (tgt := 36) hx hb dX6_isBoundIn_29 (by decide) ?_
        refine lv_icmp_gt (tgt := 43) hx hb dX6_isBoundIn_36 (by decide) (fun c11 => ?_) (fun c11 => ?_)
        · have ic11 := (xi_lt c11 rfl h_y : v10.toInt < y_t)
          refine lv_iconst (v := 0) hx hb dX6_isBoundIn_43 (by decide) ?_
          exact W.zret (v := 0) hx hb hr (by decide) (fun t ht hW => ⟨0, rfl, ⟨(by decide), (by decide)⟩, ht⟩) (fun _ h => by cases h) dX6_isBoundIn_44
        · have ic11 := (xi_nlt c11 rfl h_y : y_t ≤ v10.toInt)
          refine lv_iconst (v := 1) hx hb dX6_isBoundIn_39 (by decide) ?_
          refine lv_goto (tgt := 44) hx hb dX6_isBoundIn_40 (by decide) ?_
          exact W.zret (v := 1) hx hb hr (by decide) (fun t ht hW => ⟨1, rfl, ⟨(by decide), (by decide)⟩, ht⟩) (fun _ h => by cases h) dX6_isBoundIn_44
set_option maxHeartbeats 4000000 in
set_option maxRecDepth 100000 in
theorem tX0_lawsNow (l : Launch) (E : tE) (X : tX) (A : Nat → Prop) (z : tZ) (I0 : tI) (L0 : tL) (a0 : Nat) (t_a0 : z.ty a0 = 1) : Met l yX0_lawsNow wsX0_lawsNow ({ frames := 2, cells := 0, slots := 0, locals := 128 }) (va_Pc [.ref a0] (h_P E X A z I0 L0)) (va_Sq (fun r => (∃ b, r = some b ∧ z.ty b = 6))) 0 0 (fun _ => False) := by
  refine Met.ofW (cc := cX0_lawsNow) (maxL := 1) (ret := (some (.object "CapLeague$Laws"))) (by decide) rfl ?_
  intro pr_ ev_ s m args below meth cd_ s₁ B hml hv
  obtain ⟨rfl, hE, hk, hX, hA, hK, hI, hR, hB0⟩ := hv
  have g : h_G h_so h_fk E A z I0 L0 s s.heap s.heap [] := ⟨hK, va_S.rf, hB0⟩
  have hx := B.exec
  have hb := B.bytes
  have hr := B.returns
  have hts := atoms_spec (ws := wsX0_lawsNow) B.pre
  have hown : s.vm.findClass RX0 = some m.cls := findClass_of_methodNamed B.named
  have hlocks := B.notSynchronized
  have iX0 : ∀ w ∈ u_ws RX0 TX0 9, w ∈ wsX0_lawsNow := by decide +kernel
  have hl := lv_entry ([.ref a0]) (n := 1) (Nat.le_of_ble_eq_true rfl)
  rw [lg_entry_eq]
  generalize (lg_sl ([.ref a0]) ++ List.replicate (1 - (lg_sl ([.ref a0])).length) Slot.unset).toArray = ls at hl ⊢
  have hl : lv_has ls 1 [(0, .ref a0)] := hl
  refine lv_aload_n hx hb dX0_lawsNow_0 rfl (lv_at hl 0 rfl) ?_
  obtain ⟨b1, rb1, tb1⟩ := hR.at a0 0 t_a0 (rfl : h_rs 1 0 = some (4, false)) (by decide)
  refine h_get (v := .ref b1) hx hb hts iX0 hown g t_a0 (by decide) so_1 rfl 0 (by decide) (hts (.fieldLink RX0 33 "CapLeague$Books" "lawBook" "LCapLeague$LawBook;") (by decide +kernel)) rfl dX0_lawsNow_1 (by show va_rf (z.R a0 0) = _; rw [rb1]; rfl) ?_
  refine lv_aload_n hx hb dX0_lawsNow_4 rfl (lv_at hl 0 rfl) ?_
  refine h_get (v := .int (I0 a0 3)) hx hb hts iX0 hown g t_a0 (by decide) so_1 rfl 3 (by decide) (hts (.fieldLink RX0 37 "CapLeague$Books" "clock" "I") (by decide +kernel)) rfl dX0_lawsNow_5 rfl ?_
  refine lv_topi (fun v2 ev2 => ?_)
  have jv2 := hI.rd a0 3 t_a0 ev2 (rfl : h_bd 1 3 = (0, 9))
  refine va_csq (W.runV (As := [.int v2]) (rest := []) ⟨hx, hb, hml, hown, hts⟩ (tX3_of l E X A z I0 L0 b1 tb1 v2 (v2.toInt) rfl) (cwV 1 hts gX0_lawsNow_X3_of rfl rfl rfl (by decide +kernel) ⟨Nat.le_of_ble_eq_true rfl, Nat.le_of_ble_eq_true rfl⟩) ⟨h_blind _ _ _ _ _ _ _, h_recv g tb1 (by decide) so_4 (q := (RX3, TX3, 2)) rfl, h_pre _ hE hk hX hA hI hR g⟩ rfl rfl hl.1 rfl (lv_room (Nat.le_of_ble_eq_true rfl)) dX0_lawsNow_8 ⟨Nat.le_of_ble_eq_true rfl, Nat.le_of_ble_eq_true rfl⟩) (fun rh3 h3 => ?_)
  obtain ⟨rh3, rfl, trh3⟩ := h3
  refine xw_v (v := .ref rh3) rfl ?_
  exact W.aret (v := .ref rh3) hx hb hr (Or.inl ⟨_, rfl⟩) (Or.inr ⟨_, rfl⟩) (fun t ht hW => ⟨some rh3, rfl, ⟨rh3, rfl, trh3⟩, ht⟩) (fun _ h => by cases h) dX0_lawsNow_11
set_option maxHeartbeats 4000000 in
set_option maxRecDepth 100000 in
theorem tX0_playerAt (l : Launch) (E : tE) (X : tX) (A : Nat → Prop) (z : tZ) (I0 : tI) (L0 : tL) (a0 : Nat) (t_a0 : z.ty a0 = 1) (x : Int32) (x_t : Int) (h_x : x.toInt = x_t) : Met l yX0_playerAt wsX0_playerAt ({ frames := 1, cells := 0, slots := 0, locals := 64 }) (va_Pc [.ref a0, .int x] (h_P E X A z I0 L0)) (va_Sq (fun r => (r = none ∨ ∃ b, r = some b ∧ z.ty b = 7))) 0 0 (fun _ => False) := by
  refine Met.ofW (cc := cX0_playerAt) (maxL := 2) (ret := (some (.object "CapLeague$Player"))) (by decide) rfl ?_
  intro pr_ ev_ s m args below meth cd_ s₁ B hml hv
  obtain ⟨rfl, hE, hk, hX, hA, hK, hI, hR, hB0⟩ := hv
  have g : h_G h_so h_fk E A z I0 L0 s s.heap s.heap [] := ⟨hK, va_S.rf, hB0⟩
  have hx := B.exec
  have hb := B.bytes
  have hr := B.returns
  have hts := atoms_spec (ws := wsX0_playerAt) B.pre
  have hown : s.vm.findClass RX0 = some m.cls := findClass_of_methodNamed B.named
  have hlocks := B.notSynchronized
  have iX0 : ∀ w ∈ u_ws RX0 TX0 9, w ∈ wsX0_playerAt := by decide +kernel
  have hl := lv_entry ([.ref a0, .int x]) (n := 2) (Nat.le_of_ble_eq_true rfl)
  rw [lg_entry_eq]
  generalize (lg_sl ([.ref a0, .int x]) ++ List.replicate (2 - (lg_sl ([.ref a0, .int x])).length) Slot.unset).toArray = ls at hl ⊢
  have hl : lv_has ls 2 [(0, .ref a0), (1, .int x)] := hl
  have b_x : -2147483648 ≤ x_t ∧ x_t ≤ 2147483647 := h_x ▸ ⟨xi_lo x, Int.le_of_lt_add_one (xi_hi x)⟩
  refine lv_iload_n hx hb dX0_playerAt_0 rfl (lv_at hl 1 rfl) ?_
  refine lv_if_lt (tgt := 30) hx hb dX0_playerAt_1 (by decide) (fun c1 => ?_) (fun c1 => ?_)
  · have ic1 := (xi_lt c1 h_x (by decide) : x_t < 0)
    refine lv_null hx hb dX0_playerAt_30 ?_
    exact W.aret (v := .null) hx hb hr (Or.inl ⟨_, rfl⟩) (Or.inl rfl) (fun t ht hW => ⟨none, rfl, Or.inl rfl, ht⟩) (fun _ h => by cases h) dX0_playerAt_31
  · have ic1 := (xi_nlt c1 h_x (by decide) : 0 ≤ x_t)
    refine lv_iload_n hx hb dX0_playerAt_4 rfl (lv_at hl 1 rfl) ?_
    refine lv_aload_n hx hb dX0_playerAt_5 rfl (lv_at hl 0 rfl) ?_
    refine h_get (v := .int (I0 a0 2)) hx hb hts iX0 hown g t_a0 (by decide) so_1 rfl 2 (by decide) (hts (.fieldLink RX0 51 "CapLeague$Books" "size" "I") (by decide +kernel)) rfl dX0_playerAt_6 rfl ?_
    refine lv_topi (fun v2 ev2 => ?_)
    have jv2 := hI.rd a0 2 t_a0 ev2 (rfl : h_bd 1 2 = (0, 60))
    refine lv_icmp_ge (tgt := 30) hx hb dX0_playerAt_9 (by decide) (fun c3 => ?_) (fun c3 => ?_)
    · have ic3 := (xi_le c3 rfl h_x : v2.toInt ≤ x_t)
      refine lv_null hx hb dX0_playerAt_30 ?_
      exact W.aret (v := .null) hx hb hr (Or.inl ⟨_, rfl⟩) (Or.inl rfl) (fun t ht hW => ⟨none, rfl, Or.inl rfl, ht⟩) (fun _ h => by cases h) dX0_playerAt_31
    · have ic3 := (xi_nle c3 rfl h_x : x_t < v2.toInt)
      refine lv_iload_n hx hb dX0_playerAt_12 rfl (lv_at hl 1 rfl) ?_
      refine lv_aload_n hx hb dX0_playerAt_13 rfl (lv_at hl 0 rfl) ?_
      obtain ⟨b4, rb4, tb4⟩ := hR.at a0 1 t_a0 (rfl : h_rs 1 1 = some (101, false)) (by decide)
      refine h_get (v := .ref b4) hx hb hts iX0 hown g t_a0 (by decide) so_1 rfl 1 (by decide) (hts (.fieldLink RX0 11 "CapLeague$Books" "players" "[LCapLeague$Player;") (by decide +kernel)) rfl dX0_playerAt_14 (by show va_rf (z.R a0 1) = _; rw [rb4]; rfl) ?_
      refine h_alen (v := 60) hx hb g tb4 (by decide) (Or.inr (Or.inr (Or.inr (Or.inr (Or.inl so_101))))) rfl dX0_playerAt_17 ?_
      refine lv_icmp_ge (tgt := 30) hx hb dX0_playerAt_18 (by decide) (fun h => absurd (xi_le h (by decide) h_x : 60 ≤ x_t) (by omega)) (fun c5 => ?_)
      have ic5 := (xi_nle c5 (by decide) h_x : x_t < 60)
      refine lv_aload_n hx hb dX0_playerAt_21 rfl (lv_at hl 0 rfl) ?_
      refine h_get (v := .ref b4) hx hb hts iX0 hown g t_a0 (by decide) so_1 rfl 1 (by decide) (hts (.fieldLink RX0 11 "CapLeague$Books" "players" "[LCapLeague$Player;") (by decide +kernel)) rfl dX0_playerAt_22 (by show va_rf (z.R a0 1) = _; rw [rb4]; rfl) ?_
      refine lv_iload_n hx hb dX0_playerAt_25 rfl (lv_at hl 1 rfl) ?_
      rcases hR.nl b4 x.toNatClampNeg tb4 (rfl : h_rs 101 _ = some (7, true)) (by rw [so_101]; exact h_lt (n := 60) (xi_in (by rw [h_x]; omega) (by rw [h_x]; omega))) with rb6 | ⟨b6, rb6, tb6⟩
      · refine h_aldP (v := .null) hx hb g tb4 (by decide) so_101 (xi_in (by rw [h_x]; omega) (by rw [h_x]; omega)) dX0_playerAt_26 (by rw [rb6]; rfl) ?_
        refine lv_goto (tgt := 31) hx hb dX0_playerAt_27 (by decide) ?_
        exact W.aret (v := .null) hx hb hr (Or.inl ⟨_, rfl⟩) (Or.inl rfl) (fun t ht hW => ⟨none, rfl, Or.inl rfl, ht⟩) (fun _ h => by cases h) dX0_playerAt_31
      · refine h_aldP (v := .ref b6) hx hb g tb4 (by decide) so_101 (xi_in (by rw [h_x]; omega) (by rw [h_x]; omega)) dX0_playerAt_26 (by rw [rb6]; rfl) ?_
        refine lv_goto (tgt := 31) hx hb dX0_playerAt_27 (by decide) ?_
        exact W.aret (v := .ref b6) hx hb hr (Or.inl ⟨_, rfl⟩) (Or.inr ⟨_, rfl⟩) (fun t ht hW => ⟨some b6, rfl, Or.inr ⟨b6, rfl, tb6⟩, ht⟩) (fun _ h => by cases h) dX0_playerAt_31
set_option maxHeartbeats 4000000 in
set_option maxRecDepth 100000 in
theorem tX0_countOf (l : Launch) (E : tE) (X : tX) (A : Nat → Prop) (z : tZ) (I0 : tI) (L0 : tL) (a0 : Nat) (t_a0 : z.ty a0 = 1) (p0 : Nat) (t_p0 : z.ty p0 = 7) (y : Int32) (y_t : Int) (h_y : y.toInt = y_t) : Met l yX0_countOf wsX0_countOf ({ frames := 3, cells := 0, slots := 0, locals := 192 }) (va_Pc [.ref a0, .ref p0, .int y] (h_P E X A z I0 L0)) (vp_Si (fun r => True)) 0 0 (fun _ => False) := by
  refine Met.ofW (cc := cX0_countOf) (maxL := 5) (ret := (some .int)) (by decide) rfl ?_
  intro pr_ ev_ s m args below meth cd_ s₁ B hml hv
  obtain ⟨rfl, hE, hk, hX, hA, hK, hI, hR, hB0⟩ := hv
  have g : h_G h_so h_fk E A z I0 L0 s s.heap s.heap [] := ⟨hK, va_S.rf, hB0⟩
  have hx := B.exec
  have hb := B.bytes
  have hr := B.returns
  have hts := atoms_spec (ws := wsX0_countOf) B.pre
  have hown : s.vm.findClass RX0 = some m.cls := findClass_of_methodNamed B.named
  have hlocks := B.notSynchronized
  have iX6 : ∀ w ∈ u_ws RX6 TX6 9, w ∈ wsX0_countOf := by decide +kernel
  have iX0 : ∀ w ∈ u_ws RX0 TX0 9, w ∈ wsX0_countOf := by decide +kernel
  have hl := lv_entry ([.ref a0, .ref p0, .int y]) (n := 5) (Nat.le_of_ble_eq_true rfl)
  rw [lg_entry_eq]
  generalize (lg_sl ([.ref a0, .ref p0, .int y]) ++ List.replicate (5 - (lg_sl ([.ref a0, .ref p0, .int y])).length) Slot.unset).toArray = ls at hl ⊢
  have hl : lv_has ls 5 [(0, .ref a0), (1, .ref p0), (2, .int y)] := hl
  have b_y : -2147483648 ≤ y_t ∧ y_t ≤ 2147483647 := h_y ▸ ⟨xi_lo y, Int.le_of_lt_add_one (xi_hi y)⟩
  refine lv_aload_n hx hb dX0_countOf_0 rfl (lv_at hl 1 rfl) ?_
  refine lv_iload_n hx hb dX0_countOf_1 rfl (lv_at hl 2 rfl) ?_
  refine vp_callSi (W.runV (As := [.int y]) (rest := []) ⟨hx, hb, hml, hown, hts⟩ (tX6_isBoundIn l E X A z I0 L0 p0 t_p0 y (y_t) h_y) (cwV 1 hts gX0_countOf_X6_isBoundIn rfl rfl rfl (by decide +kernel) ⟨Nat.le_of_ble_eq_true rfl, Nat.le_of_ble_eq_true rfl⟩) ⟨h_blind _ _ _ _ _ _ _, h_recv g t_p0 (by decide) so_7 (q := (RX6, TX6, 9)) rfl, h_pre _ hE hk hX hA hI hR g⟩ rfl rfl hl.1 rfl (lv_room (Nat.le_of_ble_eq_true rfl)) dX0_countOf_2 ⟨Nat.le_of_ble_eq_true rfl, Nat.le_of_ble_eq_true rfl⟩) (fun rh1 h1 => ?_)
  refine lv_if_ne (tgt := 10) hx hb dX0_countOf_5 (by decide) (fun c2 => ?_) (fun c2 => ?_)
  · have ic2 := (xi_ne c2 rfl (by decide) : rh1.toInt ≠ 0)
    refine lv_aload_n hx hb dX0_countOf_10 rfl (lv_at hl 1 rfl) ?_
    refine lv_iload_n hx hb dX0_countOf_11 rfl (lv_at hl 2 rfl) ?_
    refine vp_callSi (W.runV (As := [.int y]) (rest := []) ⟨hx, hb, hml, hown, hts⟩ (tX6_payIn l E X A z I0 L0 p0 t_p0 y (y_t) h_y) (cwV 1 hts gX0_countOf_X6_payIn rfl rfl rfl (by decide +kernel) ⟨Nat.le_of_ble_eq_true rfl, Nat.le_of_ble_eq_true rfl⟩) ⟨h_blind _ _ _ _ _ _ _, h_recv g t_p0 (by decide) so_7 (q := (RX6, TX6, 9)) rfl, h_pre _ hE hk hX hA hI hR g⟩ rfl rfl hl.1 rfl (lv_room (Nat.le_of_ble_eq_true rfl)) dX0_countOf_12 ⟨Nat.le_of_ble_eq_true rfl, Nat.le_of_ble_eq_true rfl⟩) (fun rh3 h3 => ?_)
    have jrh3 : -2147483648 ≤ rh3.toInt ∧ rh3.toInt ≤ 2147483647 := ⟨xi_lo _, Int.le_of_lt_add_one (xi_hi _)⟩
    refine lv_istore_n (lv' := [(3, .int rh3), (0, .ref a0), (1, .ref p0), (2, .int y)]) hx hb dX0_countOf_15 rfl hl (by decide) rfl (fun ls hl => ?_)
    refine lv_aload_n hx hb dX0_countOf_16 rfl (lv_at hl 2 rfl) ?_
    refine h_get (v := .int (I0 p0 7)) hx hb hts iX6 hown g t_p0 (by decide) so_7 rfl 7 (by decide) (hts (.fieldLink RX0 62 "CapLeague$Player" "isHurt" "Z") (by decide +kernel)) rfl dX0_countOf_17 rfl ?_
    refine lv_topi (fun v4 ev4 => ?_)
    have jv4 := hI.rd p0 7 t_p0 ev4 (rfl : h_bd 7 7 = (0, 1))
    refine lv_if_eq (tgt := 35) hx hb dX0_countOf_20 (by decide) (fun c5 => ?_) (fun c5 => ?_)
    · have ic5 := (xi_eq c5 rfl (by decide) : v4.toInt = 0)
      refine lv_iconst (v := 0) hx hb dX0_countOf_35 (by decide) ?_
      refine lv_istore (lv' := [(4, .int 0), (3, .int rh3), (0, .ref a0), (1, .ref p0), (2, .int y)]) hx hb dX0_countOf_36 hl (by decide) rfl (fun ls hl => ?_)
      refine lv_iload hx hb dX0_countOf_38 (lv_at hl 0 rfl) ?_
      refine lv_if_eq (tgt := 61) hx hb dX0_countOf_40 (by decide) (fun _ => ?_) (fun h => absurd (by decide) h)
      refine lv_iload_n hx hb dX0_countOf_61 rfl (lv_at hl 1 rfl) ?_
      exact W.iret (v := rh3) hx hb hr (fun t ht hW => ⟨rh3, rfl, trivial, ht⟩) (fun _ h => by cases h) dX0_countOf_62
    · have ic5 := (xi_ne c5 rfl (by decide) : v4.toInt ≠ 0)
      refine lv_iload_n hx hb dX0_countOf_23 rfl (lv_at hl 3 rfl) ?_
      refine lv_aload_n hx hb dX0_countOf_24 rfl (lv_at hl 1 rfl) ?_
      refine h_get (v := .int (I0 a0 3)) hx hb hts iX0 hown g t_a0 (by decide) so_1 rfl 3 (by decide) (hts (.fieldLink RX0 37 "CapLeague$Books" "clock" "I") (by decide +kernel)) rfl dX0_countOf_25 rfl ?_
      refine lv_topi (fun v7 ev7 => ?_)
      have jv7 := hI.rd a0 3 t_a0 ev7 (rfl : h_bd 1 3 = (0, 9))
      refine lv_icmp_ne (tgt := 35) hx hb dX0_countOf_28 (by decide) (fun c8 => ?_) (fun c8 => ?_)
      · have ic8 := (xi_ne c8 h_y rfl : y_t ≠ v7.toInt)
        refine lv_iconst (v := 0) hx hb dX0_countOf_35 (by decide) ?_
        refine lv_istore (lv' := [(4, .int 0), (3, .int rh3), (0, .ref a0), (1, .ref p0), (2, .int y)]) hx hb dX0_countOf_36 hl (by decide) rfl (fun ls hl => ?_)
        refine lv_iload hx hb dX0_countOf_38 (lv_at hl 0 rfl) ?_
        refine lv_if_eq (tgt := 61) hx hb dX0_countOf_40 (by decide) (fun _ => ?_) (fun h => absurd (by decide) h)
        refine lv_iload_n hx hb dX0_countOf_61 rfl (lv_at hl 1 rfl) ?_
        exact W.iret (v := rh3) hx hb hr (fun t ht hW => ⟨rh3, rfl, trivial, ht⟩) (fun _ h => by cases h) dX0_countOf_62
      · have ic8 := (xi_eq c8 h_y rfl : y_t = v7.toInt)
        refine lv_iconst (v := 1) hx hb dX0_countOf_31 (by decide) ?_
        refine lv_goto (tgt := 36) hx hb dX0_countOf_32 (by decide) ?_
        refine lv_istore (lv' := [(4, .int 1), (3, .int rh3), (0, .ref a0), (1, .ref p0), (2, .int y)]) hx hb dX0_countOf_36 hl (by decide) rfl (fun ls hl => ?_)
        refine lv_iload hx hb dX0_countOf_38 (lv_at hl 0 rfl) ?_
        refine lv_if_eq (tgt := 61) hx hb dX0_countOf_40 (by decide) (fun h => absurd h (by decide)) (fun _ => ?_)
        refine lv_iload_n hx hb dX0_countOf_43 rfl (lv_at hl 1 rfl) ?_
        refine lv_iload_n hx hb dX0_countOf_44 rfl (lv_at hl 1 rfl) ?_
        refine lv_aload_n hx hb dX0_countOf_45 rfl (lv_at hl 2 rfl) ?_
        refine va_csq (W.runV (As := []) (rest := [.int rh3, .int rh3]) ⟨hx, hb, hml, hown, hts⟩ (tX0_lawsNow l E X A z I0 L0 a0 t_a0) (cwV 0 hts gX0_countOf_X0_lawsNow rfl rfl rfl (by decide +kernel) ⟨Nat.le_of_ble_eq_true rfl, Nat.le_of_ble_eq_true rfl⟩) ⟨h_blind _ _ _ _ _ _ _, h_recv g t_a0 (by decide) so_1 (q := (RX0, TX0, 9)) rfl, h_pre _ hE hk hX hA hI hR g⟩ rfl rfl hl.1 rfl (lv_room (Nat.le_of_ble_eq_true rfl)) dX0_countOf_46 ⟨Nat.le_of_ble_eq_true rfl, Nat.le_of_ble_eq_true rfl⟩) (fun rh11 h11 => ?_)
        obtain ⟨rh11, rfl, trh11⟩ := h11
        refine xw_v (v := .ref rh11) rfl ?_
        refine lv_bipush (v := 6) hx hb dX0_countOf_49 (by decide) ?_
        refine vp_callSi (W.runV (As := [.int 6]) (rest := [.int rh3, .int rh3]) ⟨hx, hb, hml, hown, hts⟩ (tX5_number l E X A z I0 L0 rh11 trh11 6 (6) (by decide)) (cwV 1 hts gX0_countOf_X5_number rfl rfl rfl (by decide +kernel) ⟨Nat.le_of_ble_eq_true rfl, Nat.le_of_ble_eq_true rfl⟩) ⟨h_blind _ _ _ _ _ _ _, h_recv g trh11 (by decide) so_6 (q := (RX5, TX5, 3)) rfl, h_pre _ hE hk hX hA hI hR g⟩ rfl rfl hl.1 rfl (lv_room (Nat.le_of_ble_eq_true rfl)) dX0_countOf_51 ⟨Nat.le_of_ble_eq_true rfl, Nat.le_of_ble_eq_true rfl⟩) (fun rh12 h12 => ?_)
        have jrh12 : -2147483648 ≤ rh12.toInt ∧ rh12.toInt ≤ 2147483647 := ⟨xi_lo _, Int.le_of_lt_add_one (xi_hi _)⟩
        refine vp_callSi (xr_of (va_runSN (As := [.int rh3, .int rh12]) (rest := [.int rh3]) ⟨hx, hb, hml, hown, hts⟩ (tX11_hundredths l E X A z I0 L0 rh3 (rh3.toInt) rfl rh12 (rh12.toInt) rfl) (⟨va_cnB 2 hts gX0_countOf_X11_hundredths_n75 rfl rfl rfl (hE.link 9 rfl) (hts (.initialized RX11) (by decide +kernel)) (by decide +kernel) ⟨Nat.le_of_ble_eq_true rfl, Nat.le_of_ble_eq_true rfl⟩, hts (.static yX11_hundredths) (by decide +kernel), trivial⟩) ⟨h_blind _ _ _ _ _ _ _, h_pre _ hE hk hX hA hI hR g⟩ rfl rfl hl.1 rfl (lv_room (Nat.le_of_ble_eq_true rfl)) dX0_countOf_54 ⟨Nat.le_of_ble_eq_true rfl, Nat.le_of_ble_eq_true rfl⟩)) (fun rh13 h13 => ?_)
        have jrh13 : -2147483648 ≤ rh13.toInt ∧ rh13.toInt ≤ 2147483647 := ⟨xi_lo _, Int.le_of_lt_add_one (xi_hi _)⟩
        refine lv_isub hx hb dX0_countOf_57 ?_
        refine lv_topi (fun v14 ev14 => ?_)
        have jv14 : -2147483648 ≤ v14.toInt ∧ v14.toInt ≤ 2147483647 := ⟨xi_lo _, Int.le_of_lt_add_one (xi_hi _)⟩
        refine lv_goto (tgt := 62) hx hb dX0_countOf_58 (by decide) ?_
        exact W.iret (v := v14) hx hb hr (fun t ht hW => ⟨v14, rfl, trivial, ht⟩) (fun _ h => by cases h) dX0_countOf_62
  · have ic2 := (xi_eq c2 rfl (by decide) : rh1.toInt = 0)
    refine lv_iconst (v := 0) hx hb dX0_countOf_8 (by decide) ?_
    exact W.iret (v := 0) hx hb hr (fun t ht hW => ⟨0, rfl, trivial, ht⟩) (fun _ h => by cases h) dX0_countOf_9
set_option maxHeartbeats 4000000 in
set_option maxRecDepth 100000 in
theorem tX0_counts (l : Launch) (E : tE) (X : tX) (A : Nat → Prop) (z : tZ) (I0 : tI) (L0 : tL) (a0 : Nat) (t_a0 : z.ty a0 = 1) (c : Int32) (c_t : Int) (h_c : c.toInt = c_t) (y : Int32) (y_t : Int) (h_y : y.toInt = y_t) : Met l yX0_counts wsX0_counts ({ frames := 4, cells := 0, slots := 0, locals := 256 }) (va_Pc [.ref a0, .int c, .int y] (h_P E X A z I0 L0)) (vp_Si (fun r => True)) 0 0 (fun _ => False) := by
  refine Met.ofW (cc := cX0_counts) (maxL := 6) (ret := (some .int)) (by decide) rfl ?_
  intro pr_ ev_ s m args below meth cd_ s₁ B hml hv
  obtain ⟨rfl, hE, hk, hX, hA, hK, hI, hR, hB0⟩ := hv
  have g : h_G h_so h_fk E A z I0 L0 s s.heap s.heap [] := ⟨hK, va_S.rf, hB0⟩
  have hx := B.exec
  have hb := B.bytes
  have hr := B.returns
  have hts := atoms_spec (ws := wsX0_counts) B.pre
  have hown : s.vm.findClass RX0 = some m.cls := findClass_of_methodNamed B.named
  have hlocks := B.notSynchronized
  have iX0 : ∀ w ∈ u_ws RX0 TX0 9, w ∈ wsX0_counts := by decide +kernel
  have iX6 : ∀ w ∈ u_ws RX6 TX6 9, w ∈ wsX0_counts := by decide +kernel
  have hl := lv_entry ([.ref a0, .int c, .int y]) (n := 6) (Nat.le_of_ble_eq_true rfl)
  rw [lg_entry_eq]
  generalize (lg_sl ([.ref a0, .int c, .int y]) ++ List.replicate (6 - (lg_sl ([.ref a0, .int c, .int y])).length) Slot.unset).toArray = ls at hl ⊢
  have hl : lv_has ls 6 [(0, .ref a0), (1, .int c), (2, .int y)] := hl
  have b_c : -2147483648 ≤ c_t ∧ c_t ≤ 2147483647 := h_c ▸ ⟨xi_lo c, Int.le_of_lt_add_one (xi_hi c)⟩
  have b_y : -2147483648 ≤ y_t ∧ y_t ≤ 2147483647 := h_y ▸ ⟨xi_lo y, Int.le_of_lt_add_one (xi_hi y)⟩
  refine lv_iload_n hx hb dX0_counts_0 rfl (lv_at hl 1 rfl) ?_
  refine vp_callSi (xr_of (va_runSN (As := [.int c]) (rest := []) ⟨hx, hb, hml, hown, hts⟩ (tX11_isClub l E X A z I0 L0 c (c_t) h_c) (⟨va_cnB 1 hts gX0_counts_X11_isClub_n79 rfl rfl rfl (hE.link 8 rfl) (hts (.initialized RX11) (by decide +kernel)) (by decide +kernel) ⟨Nat.le_of_ble_eq_true rfl, Nat.le_of_ble_eq_true rfl⟩, hts (.static yX11_isClub) (by decide +kernel), trivial⟩) ⟨h_blind _ _ _ _ _ _ _, h_pre _ hE hk hX hA hI hR g⟩ rfl rfl hl.1 rfl (lv_room (Nat.le_of_ble_eq_true rfl)) dX0_counts_1 ⟨Nat.le_of_ble_eq_true rfl, Nat.le_of_ble_eq_true rfl⟩)) (fun rh1 h1 => ?_)
  rcases h1 with ⟨rfl, h1⟩ | ⟨rfl, h1⟩
  · skip
    refine lv_if_eq (tgt := 25) hx hb dX0_counts_4 (by decide) (fun _ => ?_) (fun h => absurd (by decide) h)
    refine lv_iconst (v := 0) hx hb dX0_counts_25 (by decide) ?_
    refine lv_istore_n (lv' := [(3, .int 0), (0, .ref a0), (1, .int c), (2, .int y)]) hx hb dX0_counts_26 rfl hl (by decide) rfl (fun ls hl => ?_)
    refine lv_iconst (v := 0) hx hb dX0_counts_27 (by decide) ?_
    refine lv_istore (lv' := [(4, .int 0), (3, .int 0), (0, .ref a0), (1, .int c), (2, .int y)]) hx hb dX0_counts_28 hl (by decide) rfl (fun ls hl => ?_)
    have loop30_0 : ∀ (n : Nat) (ls : Array Slot) (v3 v4 : Int32), lv_has ls 6 [(0, .ref a0), (1, .int c), (2, .int y), (3, .int v3), (4, .int v4)] → ((-2147483648) ≤ v3.toInt ∧ v3.toInt ≤ 2147483647) → (0 ≤ v4.toInt ∧ v4.toInt ≤ 60) → (60 - v4.toInt) < (n : Int) → W pr_ l ev_ (headSpec wsX0_counts ({ frames := 4, cells := 0, slots := 0, locals := 256 })).room s m ([.ref a0, .int c, .int y] : List Value).toArray below meth cd_ s.heap [] 0 0 (MQ below (vp_Si (fun r => True)) ([.ref a0, .int c, .int y] : List Value).toArray s 0 0 (fun _ => False)) (F0 m 30 ls []) := by
      intro n
      induction n with
      | zero => intro ls v3 v4 hl jv3 jv4 hn; exact absurd hn (by omega)
      | succ n ih30 =>
        intro ls v3 v4 hl jv3 jv4 hn
        refine lv_iload hx hb dX0_counts_30 (lv_at hl 4 rfl) ?_
        refine lv_aload_n hx hb dX0_counts_32 rfl (lv_at hl 0 rfl) ?_
        refine h_get (v := .int (I0 a0 2)) hx hb hts iX0 hown g t_a0 (by decide) so_1 rfl 2 (by decide) (hts (.fieldLink RX0 51 "CapLeague$Books" "size" "I") (by decide +kernel)) rfl dX0_counts_33 rfl ?_
        refine lv_topi (fun v5 ev5 => ?_)
        have jv5 := hI.rd a0 2 t_a0 ev5 (rfl : h_bd 1 2 = (0, 60))
        refine lv_icmp_ge (tgt := 77) hx hb dX0_counts_36 (by decide) (fun c6 => ?_) (fun c6 => ?_)
        · have ic6 := (xi_le c6 rfl rfl : v5.toInt ≤ v4.toInt)
          refine lv_iload_n hx hb dX0_counts_77 rfl (lv_at hl 3 rfl) ?_
          exact W.iret (v := v3) hx hb hr (fun t ht hW => ⟨v3, rfl, trivial, ht⟩) (fun _ h => by cases h) dX0_counts_78
        · have ic6 := (xi_nle c6 rfl rfl : v4.toInt < v5.toInt)
          refine lv_aload_n hx hb dX0_counts_39 rfl (lv_at hl 0 rfl) ?_
          refine lv_iload hx hb dX0_counts_40 (lv_at hl 4 rfl) ?_
          refine va_csq (W.runV (As := [.int v4]) (rest := []) ⟨hx, hb, hml, hown, hts⟩ (tX0_playerAt l E X A z I0 L0 a0 t_a0 v4 (v4.toInt) rfl) (cwV 1 hts gX0_counts_X0_playerAt rfl rfl rfl (by decide +kernel) ⟨Nat.le_of_ble_eq_true rfl, Nat.le_of_ble_eq_true rfl⟩) ⟨h_blind _ _ _ _ _ _ _, h_recv g t_a0 (by decide) so_1 (q := (RX0, TX0, 9)) rfl, h_pre _ hE hk hX hA hI hR g⟩ rfl rfl hl.1 rfl (lv_room (Nat.le_of_ble_eq_true rfl)) dX0_counts_42 ⟨Nat.le_of_ble_eq_true rfl, Nat.le_of_ble_eq_true rfl⟩) (fun rh7 h7 => ?_)
          rcases h7 with rfl | ⟨rh7, rfl, trh7⟩
          · refine xw_v (v := .null) rfl ?_
            refine lv_astoreN (lv' := [(5, .null), (0, .ref a0), (1, .int c), (2, .int y), (3, .int v3), (4, .int v4)]) hx hb dX0_counts_45 hl (by decide) rfl (fun ls hl => ?_)
            refine lv_aloadN hx hb dX0_counts_47 (lv_at hl 0 rfl) ?_
            refine lv_ifnullN (tgt := 71) hx hb dX0_counts_49 (by decide) ?_
            obtain ⟨v8, ev8⟩ : ∃ z : Int32, z = v4 + 1 := ⟨_, rfl⟩
            have jv8 : v8.toInt = v4.toInt + 1 := xi_add ev8 rfl (by decide) (by omega) (by omega)
            refine lv_iinc (v := v8) (lv' := [(4, .int v8), (5, .null), (0, .ref a0), (1, .int c), (2, .int y), (3, .int v3)]) hx hb dX0_counts_71 hl (k := 5) rfl (by rw [ev8]; rfl) (by decide) rfl (fun ls hl => ?_)
            refine lv_goto (tgt := 30) hx hb dX0_counts_74 (by decide) ?_
            exact ih30 _ v3 v8 (lv_sub hl [2, 3, 4, 5, 0] rfl) (by omega) (by omega) (by omega)
          · refine xw_v (v := .ref rh7) rfl ?_
            refine lv_astore (lv' := [(5, .ref rh7), (0, .ref a0), (1, .int c), (2, .int y), (3, .int v3), (4, .int v4)]) hx hb dX0_counts_45 hl (by decide) rfl (fun ls hl => ?_)
            refine lv_aload hx hb dX0_counts_47 (lv_at hl 0 rfl) ?_
            refine lv_ifnull hx hb dX0_counts_49 ?_
            refine lv_aload hx hb dX0_counts_52 (lv_at hl 0 rfl) ?_
            refine h_get (v := .int (I0 rh7 0)) hx hb hts iX6 hown g trh7 (by decide) so_7 rfl 0 (by decide) (hts (.fieldLink RX0 86 "CapLeague$Player" "club" "I") (by decide +kernel)) rfl dX0_counts_54 rfl ?_
            refine lv_topi (fun v9 ev9 => ?_)
            have jv9 := hI.rd rh7 0 trh7 ev9 (rfl : h_bd 7 0 = ((-1), 7))
            refine lv_iload_n hx hb dX0_counts_57 rfl (lv_at hl 2 rfl) ?_
            refine lv_icmp_ne (tgt := 71) hx hb dX0_counts_58 (by decide) (fun c10 => ?_) (fun c10 => ?_)
            · have ic10 := (xi_ne c10 rfl h_c : v9.toInt ≠ c_t)
              obtain ⟨v11, ev11⟩ : ∃ z : Int32, z = v4 + 1 := ⟨_, rfl⟩
              have jv11 : v11.toInt = v4.toInt + 1 := xi_add ev11 rfl (by decide) (by omega) (by omega)
              refine lv_iinc (v := v11) (lv' := [(4, .int v11), (5, .ref rh7), (0, .ref a0), (1, .int c), (2, .int y), (3, .int v3)]) hx hb dX0_counts_71 hl (k := 5) rfl (by rw [ev11]; rfl) (by decide) rfl (fun ls hl => ?_)
              refine lv_goto (tgt := 30) hx hb dX0_counts_74 (by decide) ?_
              exact ih30 _ v3 v11 (lv_sub hl [2, 3, 4, 5, 0] rfl) (by omega) (by omega) (by omega)
            · have ic10 := (xi_eq c10 rfl h_c : v9.toInt = c_t)
              refine lv_iload_n hx hb dX0_counts_61 rfl (lv_at hl 4 rfl) ?_
              refine lv_aload_n hx hb dX0_counts_62 rfl (lv_at hl 1 rfl) ?_
              refine lv_aload hx hb dX0_counts_63 (lv_at hl 0 rfl) ?_
              refine lv_iload_n hx hb dX0_counts_65 rfl (lv_at hl 3 rfl) ?_
              refine vp_callSi (W.runV (As := [.ref rh7, .int y]) (rest := [.int v3]) ⟨hx, hb, hml, hown, hts⟩ (tX0_countOf l E X A z I0 L0 a0 t_a0 rh7 trh7 y (y_t) h_y) (cwV 2 hts gX0_counts_X0_countOf rfl rfl rfl (by decide +kernel) ⟨Nat.le_of_ble_eq_true rfl, Nat.le_of_ble_eq_true rfl⟩) ⟨h_blind _ _ _ _ _ _ _, h_recv g t_a0 (by decide) so_1 (q := (RX0, TX0, 9)) rfl, h_pre _ hE hk hX hA hI hR g⟩ rfl rfl hl.1 rfl (lv_room (Nat.le_of_ble_eq_true rfl)) dX0_counts_66 ⟨Nat.le_of_ble_eq_true rfl, Nat.le_of_ble_eq_true rfl⟩) (fun rh12 h12 => ?_)
              have jrh12 : -2147483648 ≤ rh12.toInt ∧ rh12.toInt ≤ 2147483647 := ⟨xi_lo _, Int.le_of_lt_add_one (xi_hi _)⟩
              refine lv_iadd hx hb dX0_counts_69 ?_
              refine lv_topi (fun v13 ev13 => ?_)
              have jv13 : -2147483648 ≤ v13.toInt ∧ v13.toInt ≤ 2147483647 := ⟨xi_lo _, Int.le_of_lt_add_one (xi_hi _)⟩
              refine lv_istore_n (lv' := [(3, .int v13), (5, .ref rh7), (0, .ref a0), (1, .int c), (2, .int y), (4, .int v4)]) hx hb dX0_counts_70 rfl hl (by decide) rfl (fun ls hl => ?_)
              obtain ⟨v14, ev14⟩ : ∃ z : Int32, z = v4 + 1 := ⟨_, rfl⟩
              have jv14 : v14.toInt = v4.toInt + 1 := xi_add ev14 rfl (by decide) (by omega) (by omega)
              refine lv_iinc (v := v14) (lv' := [(4, .int v14), (3, .int v13), (5, .ref rh7), (0, .ref a0), (1, .int c), (2, .int y)]) hx hb dX0_counts_71 hl (k := 5) rfl (by rw [ev14]; rfl) (by decide) rfl (fun ls hl => ?_)
              refine lv_goto (tgt := 30) hx hb dX0_counts_74 (by decide) ?_
              exact ih30 _ v13 v14 (lv_sub hl [3, 4, 5, 1, 0] rfl) (by omega) (by omega) (by omega)
    exact loop30_0 _ _ (0) (0) (lv_sub hl [2, 3, 4, 1, 0] rfl) ⟨by decide, by decide⟩ ⟨by decide, by decide⟩ (show (60 - (0 : Int)) < (((60 - (0 : Int)).toNat + 1 : Nat) : Int) by omega)
  · skip
    refine lv_if_eq (tgt := 25) hx hb dX0_counts_4 (by decide) (fun h => absurd h (by decide)) (fun _ => ?_)
    refine lv_iload_n hx hb dX0_counts_7 rfl (lv_at hl 2 rfl) ?_
    refine vp_callSi (xr_of (va_runSN (As := [.int y]) (rest := []) ⟨hx, hb, hml, hown, hts⟩ (tX11_isYear l E X A z I0 L0 y (y_t) h_y) (⟨va_cnB 1 hts gX0_counts_X11_isYear_n47 rfl rfl rfl (hE.link 5 rfl) (hts (.initialized RX11) (by decide +kernel)) (by decide +kernel) ⟨Nat.le_of_ble_eq_true rfl, Nat.le_of_ble_eq_true rfl⟩, hts (.static yX11_isYear) (by decide +kernel), trivial⟩) ⟨h_blind _ _ _ _ _ _ _, h_pre _ hE hk hX hA hI hR g⟩ rfl rfl hl.1 rfl (lv_room (Nat.le_of_ble_eq_true rfl)) dX0_counts_8 ⟨Nat.le_of_ble_eq_true rfl, Nat.le_of_ble_eq_true rfl⟩)) (fun rh16 h16 => ?_)
    rcases h16 with ⟨rfl, h16⟩ | ⟨rfl, h16⟩
    · skip
      refine lv_if_eq (tgt := 25) hx hb dX0_counts_11 (by decide) (fun _ => ?_) (fun h => absurd (by decide) h)
      refine lv_iconst (v := 0) hx hb dX0_counts_25 (by decide) ?_
      refine lv_istore_n (lv' := [(3, .int 0), (0, .ref a0), (1, .int c), (2, .int y)]) hx hb dX0_counts_26 rfl hl (by decide) rfl (fun ls hl => ?_)
      refine lv_iconst (v := 0) hx hb dX0_counts_27 (by decide) ?_
      refine lv_istore (lv' := [(4, .int 0), (3, .int 0), (0, .ref a0), (1, .int c), (2, .int y)]) hx hb dX0_counts_28 hl (by decide) rfl (fun ls hl => ?_)
      have loop30_1 : ∀ (n : Nat) (ls : Array Slot) (v18 v19 : Int32), lv_has ls 6 [(0, .ref a0), (1, .int c), (2, .int y), (3, .int v18), (4, .int v19)] → ((-2147483648) ≤ v18.toInt ∧ v18.toInt ≤ 2147483647) → (0 ≤ v19.toInt ∧ v19.toInt ≤ 60) → (60 - v19.toInt) < (n : Int) → W pr_ l ev_ (headSpec wsX0_counts ({ frames := 4, cells := 0, slots := 0, locals := 256 })).room s m ([.ref a0, .int c, .int y] : List Value).toArray below meth cd_ s.heap [] 0 0 (MQ below (vp_Si (fun r => True)) ([.ref a0, .int c, .int y] : List Value).toArray s 0 0 (fun _ => False)) (F0 m 30 ls []) := by
        intro n
        induction n with
        | zero => intro ls v18 v19 hl jv18 jv19 hn; exact absurd hn (by omega)
        | succ n ih30 =>
          intro ls v18 v19 hl jv18 jv19 hn
          refine lv_iload hx hb dX0_counts_30 (lv_at hl 4 rfl) ?_
          refine lv_aload_n hx hb dX0_counts_32 rfl (lv_at hl 0 rfl) ?_
          refine h_get (v := .int (I0 a0 2)) hx hb hts iX0 hown g t_a0 (by decide) so_1 rfl 2 (by decide) (hts (.fieldLink RX0 51 "CapLeague$Books" "size" "I") (by decide +kernel)) rfl dX0_counts_33 rfl ?_
          refine lv_topi (fun v20 ev20 => ?_)
          have jv20 := hI.rd a0 2 t_a0 ev20 (rfl : h_bd 1 2 = (0, 60))
          refine lv_icmp_ge (tgt := 77) hx hb dX0_counts_36 (by decide) (fun c21 => ?_) (fun c21 => ?_)
          · have ic21 := (xi_le c21 rfl rfl : v20.toInt ≤ v19.toInt)
            refine lv_iload_n hx hb dX0_counts_77 rfl (lv_at hl 3 rfl) ?_
            exact W.iret (v := v18) hx hb hr (fun t ht hW => ⟨v18, rfl, trivial, ht⟩) (fun _ h => by cases h) dX0_counts_78
          · have ic21 := (xi_nle c21 rfl rfl : v19.toInt < v20.toInt)
            refine lv_aload_n hx hb dX0_counts_39 rfl (lv_at hl 0 rfl) ?_
            refine lv_iload hx hb dX0_counts_40 (lv_at hl 4 rfl) ?_
            refine va_csq (W.runV (As := [.int v19]) (rest := []) ⟨hx, hb, hml, hown, hts⟩ (tX0_playerAt l E X A z I0 L0 a0 t_a0 v19 (v19.toInt) rfl) (cwV 1 hts gX0_counts_X0_playerAt rfl rfl rfl (by decide +kernel) ⟨Nat.le_of_ble_eq_true rfl, Nat.le_of_ble_eq_true rfl⟩) ⟨h_blind _ _ _ _ _ _ _, h_recv g t_a0 (by decide) so_1 (q := (RX0, TX0, 9)) rfl, h_pre _ hE hk hX hA hI hR g⟩ rfl rfl hl.1 rfl (lv_room (Nat.le_of_ble_eq_true rfl)) dX0_counts_42 ⟨Nat.le_of_ble_eq_true rfl, Nat.le_of_ble_eq_true rfl⟩) (fun rh22 h22 => ?_)
            rcases h22 with rfl | ⟨rh22, rfl, trh22⟩
            · refine xw_v (v := .null) rfl ?_
              refine lv_astoreN (lv' := [(5, .null), (0, .ref a0), (1, .int c), (2, .int y), (3, .int v18), (4, .int v19)]) hx hb dX0_counts_45 hl (by decide) rfl (fun ls hl => ?_)
              refine lv_aloadN hx hb dX0_counts_47 (lv_at hl 0 rfl) ?_
              refine lv_ifnullN (tgt := 71) hx hb dX0_counts_49 (by decide) ?_
              obtain ⟨v23, ev23⟩ : ∃ z : Int32, z = v19 + 1 := ⟨_, rfl⟩
              have jv23 : v23.toInt = v19.toInt + 1 := xi_add ev23 rfl (by decide) (by omega) (by omega)
              refine lv_iinc (v := v23) (lv' := [(4, .int v23), (5, .null), (0, .ref a0), (1, .int c), (2, .int y), (3, .int v18)]) hx hb dX0_counts_71 hl (k := 5) rfl (by rw [ev23]; rfl) (by decide) rfl (fun ls hl => ?_)
              refine lv_goto (tgt := 30) hx hb dX0_counts_74 (by decide) ?_
              exact ih30 _ v18 v23 (lv_sub hl [2, 3, 4, 5, 0] rfl) (by omega) (by omega) (by omega)
            · refine xw_v (v := .ref rh22) rfl ?_
              refine lv_astore (lv' := [(5, .ref rh22), (0, .ref a0), (1, .int c), (2, .int y), (3, .int v18), (4, .int v19)]) hx hb dX0_counts_45 hl (by decide) rfl (fun ls hl => ?_)
              refine lv_aload hx hb dX0_counts_47 (lv_at hl 0 rfl) ?_
              refine lv_ifnull hx hb dX0_counts_49 ?_
              refine lv_aload hx hb dX0_counts_52 (lv_at hl 0 rfl) ?_
              refine h_get (v := .int (I0 rh22 0)) hx hb hts iX6 hown g trh22 (by decide) so_7 rfl 0 (by decide) (hts (.fieldLink RX0 86 "CapLeague$Player" "club" "I") (by decide +kernel)) rfl dX0_counts_54 rfl ?_
              refine lv_topi (fun v24 ev24 => ?_)
              have jv24 := hI.rd rh22 0 trh22 ev24 (rfl : h_bd 7 0 = ((-1), 7))
              refine lv_iload_n hx hb dX0_counts_57 rfl (lv_at hl 2 rfl) ?_
              refine lv_icmp_ne (tgt := 71) hx hb dX0_counts_58 (by decide) (fun c25 => ?_) (fun c25 => ?_)
              · have ic25 := (xi_ne c25 rfl h_c : v24.toInt ≠ c_t)
                obtain ⟨v26, ev26⟩ : ∃ z : Int32, z = v19 + 1 := ⟨_, rfl⟩
                have jv26 : v26.toInt = v19.toInt + 1 := xi_add ev26 rfl (by decide) (by omega) (by omega)
                refine lv_iinc (v := v26) (lv' := [(4, .int v26), (5, .ref rh22), (0, .ref a0), (1, .int c), (2, .int y), (3, .int v18)]) hx hb dX0_counts_71 hl (k := 5) rfl (by rw [ev26]; rfl) (by decide) rfl (fun ls hl => ?_)
                refine lv_goto (tgt := 30) hx hb dX0_counts_74 (by decide) ?_
                exact ih30 _ v18 v26 (lv_sub hl [2, 3, 4, 5, 0] rfl) (by omega) (by omega) (by omega)
              · have ic25 := (xi_eq c25 rfl h_c : v24.toInt = c_t)
                refine lv_iload_n hx hb dX0_counts_61 rfl (lv_at hl 4 rfl) ?_
                refine lv_aload_n hx hb dX0_counts_62 rfl (lv_at hl 1 rfl) ?_
                refine lv_aload hx hb dX0_counts_63 (lv_at hl 0 rfl) ?_
                refine lv_iload_n hx hb dX0_counts_65 rfl (lv_at hl 3 rfl) ?_
                refine vp_callSi (W.runV (As := [.ref rh22, .int y]) (rest := [.int v18]) ⟨hx, hb, hml, hown, hts⟩ (tX0_countOf l E X A z I0 L0 a0 t_a0 rh22 trh22 y (y_t) h_y) (cwV 2 hts gX0_counts_X0_countOf rfl rfl rfl (by decide +kernel) ⟨Nat.le_of_ble_eq_true rfl, Nat.le_of_ble_eq_true rfl⟩) ⟨h_blind _ _ _ _ _ _ _, h_recv g t_a0 (by decide) so_1 (q := (RX0, TX0, 9)) rfl, h_pre _ hE hk hX hA hI hR g⟩ rfl rfl hl.1 rfl (lv_room (Nat.le_of_ble_eq_true rfl)) dX0_counts_66 ⟨Nat.le_of_ble_eq_true rfl, Nat.le_of_ble_eq_true rfl⟩) (fun rh27 h27 => ?_)
                have jrh27 : -2147483648 ≤ rh27.toInt ∧ rh27.toInt ≤ 2147483647 := ⟨xi_lo _, Int.le_of_lt_add_one (xi_hi _)⟩
                refine lv_iadd hx hb dX0_counts_69 ?_
                refine lv_topi (fun v28 ev28 => ?_)
                have jv28 : -2147483648 ≤ v28.toInt ∧ v28.toInt ≤ 2147483647 := ⟨xi_lo _, Int.le_of_lt_add_one (xi_hi _)⟩
                refine lv_istore_n (lv' := [(3, .int v28), (5, .ref rh22), (0, .ref a0), (1, .int c), (2, .int y), (4, .int v19)]) hx hb dX0_counts_70 rfl hl (by decide) rfl (fun ls hl => ?_)
                obtain ⟨v29, ev29⟩ : ∃ z : Int32, z = v19 + 1 := ⟨_, rfl⟩
                have jv29 : v29.toInt = v19.toInt + 1 := xi_add ev29 rfl (by decide) (by omega) (by omega)
                refine lv_iinc (v := v29) (lv' := [(4, .int v29), (3, .int v28), (5, .ref rh22), (0, .ref a0), (1, .int c), (2, .int y)]) hx hb dX0_counts_71 hl (k := 5) rfl (by rw [ev29]; rfl) (by decide) rfl (fun ls hl => ?_)
                refine lv_goto (tgt := 30) hx hb dX0_counts_74 (by decide) ?_
                exact ih30 _ v28 v29 (lv_sub hl [3, 4, 5, 1, 0] rfl) (by omega) (by omega) (by omega)
      exact loop30_1 _ _ (0) (0) (lv_sub hl [2, 3, 4, 1, 0] rfl) ⟨by decide, by decide⟩ ⟨by decide, by decide⟩ (show (60 - (0 : Int)) < (((60 - (0 : Int)).toNat + 1 : Nat) : Int) by omega)
    · skip
      refine lv_if_eq (tgt := 25) hx hb dX0_counts_11 (by decide) (fun h => absurd h (by decide)) (fun _ => ?_)
      refine lv_aload_n hx hb dX0_counts_14 rfl (lv_at hl 0 rfl) ?_
      obtain ⟨b31, rb31, tb31⟩ := hR.at a0 4 t_a0 (rfl : h_rs 1 4 = some (104, false)) (by decide)
      refine h_get (v := .ref b31) hx hb hts iX0 hown g t_a0 (by decide) so_1 rfl 4 (by decide) (hts (.fieldLink RX0 19 "CapLeague$Books" "dead" "[[I") (by decide +kernel)) rfl dX0_counts_15 (by show va_rf (z.R a0 4) = _; rw [rb31]; rfl) ?_
      refine lv_iload_n hx hb dX0_counts_18 rfl (lv_at hl 1 rfl) ?_
      obtain ⟨b32, rb32, tb32⟩ := hR.at b31 c.toNatClampNeg tb31 (rfl : h_rs 104 _ = some (154, false)) (by rw [so_104]; exact h_lt (n := 8) (xi_in (by rw [h_c]; omega) (by rw [h_c]; omega)))
      refine h_aldA (v := .ref b32) hx hb g tb31 (by decide) so_104 (xi_in (by rw [h_c]; omega) (by rw [h_c]; omega)) dX0_counts_19 (by rw [rb32]; rfl) ?_
      refine lv_iload_n hx hb dX0_counts_20 rfl (lv_at hl 2 rfl) ?_
      refine h_ald hx hb g tb32 (by decide) so_154 (xi_in (by rw [h_y]; omega) (by rw [h_y]; omega)) dX0_counts_21 ?_
      refine lv_topi (fun v33 ev33 => ?_)
      have jv33 := hI.rd b32 y.toNatClampNeg tb32 ev33 (rfl : h_bd 154 _ = ((-2147483648), 2147483647))
      refine lv_goto (tgt := 26) hx hb dX0_counts_22 (by decide) ?_
      refine lv_istore_n (lv' := [(3, .int v33), (0, .ref a0), (1, .int c), (2, .int y)]) hx hb dX0_counts_26 rfl hl (by decide) rfl (fun ls hl => ?_)
      refine lv_iconst (v := 0) hx hb dX0_counts_27 (by decide) ?_
      refine lv_istore (lv' := [(4, .int 0), (3, .int v33), (0, .ref a0), (1, .int c), (2, .int y)]) hx hb dX0_counts_28 hl (by decide) rfl (fun ls hl => ?_)
      have loop30_2 : ∀ (n : Nat) (ls : Array Slot) (v34 v35 : Int32), lv_has ls 6 [(0, .ref a0), (1, .int c), (2, .int y), (3, .int v34), (4, .int v35)] → ((-2147483648) ≤ v34.toInt ∧ v34.toInt ≤ 2147483647) → (0 ≤ v35.toInt ∧ v35.toInt ≤ 60) → (60 - v35.toInt) < (n : Int) → W pr_ l ev_ (headSpec wsX0_counts ({ frames := 4, cells := 0, slots := 0, locals := 256 })).room s m ([.ref a0, .int c, .int y] : List Value).toArray below meth cd_ s.heap [] 0 0 (MQ below (vp_Si (fun r => True)) ([.ref a0, .int c, .int y] : List Value).toArray s 0 0 (fun _ => False)) (F0 m 30 ls []) := by
        intro n
        induction n with
        | zero => intro ls v34 v35 hl jv34 jv35 hn; exact absurd hn (by omega)
        | succ n ih30 =>
          intro ls v34 v35 hl jv34 jv35 hn
          refine lv_iload hx hb dX0_counts_30 (lv_at hl 4 rfl) ?_
          refine lv_aload_n hx hb dX0_counts_32 rfl (lv_at hl 0 rfl) ?_
          refine h_get (v := .int (I0 a0 2)) hx hb hts iX0 hown g t_a0 (by decide) so_1 rfl 2 (by decide) (hts (.fieldLink RX0 51 "CapLeague$Books" "size" "I") (by decide +kernel)) rfl dX0_counts_33 rfl ?_
          refine lv_topi (fun v36 ev36 => ?_)
          have jv36 := hI.rd a0 2 t_a0 ev36 (rfl : h_bd 1 2 = (0, 60))
          refine lv_icmp_ge (tgt := 77) hx hb dX0_counts_36 (by decide) (fun c37 => ?_) (fun c37 => ?_)
          · have ic37 := (xi_le c37 rfl rfl : v36.toInt ≤ v35.toInt)
            refine lv_iload_n hx hb dX0_counts_77 rfl (lv_at hl 3 rfl) ?_
            exact W.iret (v := v34) hx hb hr (fun t ht hW => ⟨v34, rfl, trivial, ht⟩) (fun _ h => by cases h) dX0_counts_78
          · have ic37 := (xi_nle c37 rfl rfl : v35.toInt < v36.toInt)
            refine lv_aload_n hx hb dX0_counts_39 rfl (lv_at hl 0 rfl) ?_
            refine lv_iload hx hb dX0_counts_40 (lv_at hl 4 rfl) ?_
            refine va_csq (W.runV (As := [.int v35]) (rest := []) ⟨hx, hb, hml, hown, hts⟩ (tX0_playerAt l E X A z I0 L0 a0 t_a0 v35 (v35.toInt) rfl) (cwV 1 hts gX0_counts_X0_playerAt rfl rfl rfl (by decide +kernel) ⟨Nat.le_of_ble_eq_true rfl, Nat.le_of_ble_eq_true rfl⟩) ⟨h_blind _ _ _ _ _ _ _, h_recv g t_a0 (by decide) so_1 (q := (RX0, TX0, 9)) rfl, h_pre _ hE hk hX hA hI hR g⟩ rfl rfl hl.1 rfl (lv_room (Nat.le_of_ble_eq_true rfl)) dX0_counts_42 ⟨Nat.le_of_ble_eq_true rfl, Nat.le_of_ble_eq_true rfl⟩) (fun rh38 h38 => ?_)
            rcases h38 with rfl | ⟨rh38, rfl, trh38⟩
            · refine xw_v (v := .null) rfl ?_
              refine lv_astoreN (lv' := [(5, .null), (0, .ref a0), (1, .int c), (2, .int y), (3, .int v34), (4, .int v35)]) hx hb dX0_counts_45 hl (by decide) rfl (fun ls hl => ?_)
              refine lv_aloadN hx hb dX0_counts_47 (lv_at hl 0 rfl) ?_
              refine lv_ifnullN (tgt := 71) hx hb dX0_counts_49 (by decide) ?_
              obtain ⟨v39, ev39⟩ : ∃ z : Int32, z = v35 + 1 := ⟨_, rfl⟩
              have jv39 : v39.toInt = v35.toInt + 1 := xi_add ev39 rfl (by decide) (by omega) (by omega)
              refine lv_iinc (v := v39) (lv' := [(4, .int v39), (5, .null), (0, .ref a0), (1, .int c), (2, .int y), (3, .int v34)]) hx hb dX0_counts_71 hl (k := 5) rfl (by rw [ev39]; rfl) (by decide) rfl (fun ls hl => ?_)
              refine lv_goto (tgt := 30) hx hb dX0_counts_74 (by decide) ?_
              exact ih30 _ v34 v39 (lv_sub hl [2, 3, 4, 5, 0] rfl) (by omega) (by omega) (by omega)
            · refine xw_v (v := .ref rh38) rfl ?_
              refine lv_astore (lv' := [(5, .ref rh38), (0, .ref a0), (1, .int c), (2, .int y), (3, .int v34), (4, .int v35)]) hx hb dX0_counts_45 hl (by decide) rfl (fun ls hl => ?_)
              refine lv_aload hx hb dX0_counts_47 (lv_at hl 0 rfl) ?_
              refine lv_ifnull hx hb dX0_counts_49 ?_
              refine lv_aload hx hb dX0_counts_52 (lv_at hl 0 rfl) ?_
              refine h_get (v := .int (I0 rh38 0)) hx hb hts iX6 hown g trh38 (by decide) so_7 rfl 0 (by decide) (hts (.fieldLink RX0 86 "CapLeague$Player" "club" "I") (by decide +kernel)) rfl dX0_counts_54 rfl ?_
              refine lv_topi (fun v40 ev40 => ?_)
              have jv40 := hI.rd rh38 0 trh38 ev40 (rfl : h_bd 7 0 = ((-1), 7))
              refine lv_iload_n hx hb dX0_counts_57 rfl (lv_at hl 2 rfl) ?_
              refine lv_icmp_ne (tgt := 71) hx hb dX0_counts_58 (by decide) (fun c41 => ?_) (fun c41 => ?_)
              · have ic41 := (xi_ne c41 rfl h_c : v40.toInt ≠ c_t)
                obtain ⟨v42, ev42⟩ : ∃ z : Int32, z = v35 + 1 := ⟨_, rfl⟩
                have jv42 : v42.toInt = v35.toInt + 1 := xi_add ev42 rfl (by decide) (by omega) (by omega)
                refine lv_iinc (v := v42) (lv' := [(4, .int v42), (5, .ref rh38), (0, .ref a0), (1, .int c), (2, .int y), (3, .int v34)]) hx hb dX0_counts_71 hl (k := 5) rfl (by rw [ev42]; rfl) (by decide) rfl (fun ls hl => ?_)
                refine lv_goto (tgt := 30) hx hb dX0_counts_74 (by decide) ?_
                exact ih30 _ v34 v42 (lv_sub hl [2, 3, 4, 5, 0] rfl) (by omega) (by omega) (by omega)
              · have ic41 := (xi_eq c41 rfl h_c : v40.toInt = c_t)
                refine lv_iload_n hx hb dX0_counts_61 rfl (lv_at hl 4 rfl) ?_
                refine lv_aload_n hx hb dX0_counts_62 rfl (lv_at hl 1 rfl) ?_
                refine lv_aload hx hb dX0_counts_63 (lv_at hl 0 rfl) ?_
                refine lv_iload_n hx hb dX0_counts_65 rfl (lv_at hl 3 rfl) ?_
                refine vp_callSi (W.runV (As := [.ref rh38, .int y]) (rest := [.int v34]) ⟨hx, hb, hml, hown, hts⟩ (tX0_countOf l E X A z I0 L0 a0 t_a0 rh38 trh38 y (y_t) h_y) (cwV 2 hts gX0_counts_X0_countOf rfl rfl rfl (by decide +kernel) ⟨Nat.le_of_ble_eq_true rfl, Nat.le_of_ble_eq_true rfl⟩) ⟨h_blind _ _ _ _ _ _ _, h_recv g t_a0 (by decide) so_1 (q := (RX0, TX0, 9)) rfl, h_pre _ hE hk hX hA hI hR g⟩ rfl rfl hl.1 rfl (lv_room (Nat.le_of_ble_eq_true rfl)) dX0_counts_66 ⟨Nat.le_of_ble_eq_true rfl, Nat.le_of_ble_eq_true rfl⟩) (fun rh43 h43 => ?_)
                have jrh43 : -2147483648 ≤ rh43.toInt ∧ rh43.toInt ≤ 2147483647 := ⟨xi_lo _, Int.le_of_lt_add_one (xi_hi _)⟩
                refine lv_iadd hx hb dX0_counts_69 ?_
                refine lv_topi (fun v44 ev44 => ?_)
                have jv44 : -2147483648 ≤ v44.toInt ∧ v44.toInt ≤ 2147483647 := ⟨xi_lo _, Int.le_of_lt_add_one (xi_hi _)⟩
                refine lv_istore_n (lv' := [(3, .int v44), (5, .ref rh38), (0, .ref a0), (1, .int c), (2, .int y), (4, .int v35)]) hx hb dX0_counts_70 rfl hl (by decide) rfl (fun ls hl => ?_)
                obtain ⟨v45, ev45⟩ : ∃ z : Int32, z = v35 + 1 := ⟨_, rfl⟩
                have jv45 : v45.toInt = v35.toInt + 1 := xi_add ev45 rfl (by decide) (by omega) (by omega)
                refine lv_iinc (v := v45) (lv' := [(4, .int v45), (3, .int v44), (5, .ref rh38), (0, .ref a0), (1, .int c), (2, .int y)]) hx hb dX0_counts_71 hl (k := 5) rfl (by rw [ev45]; rfl) (by decide) rfl (fun ls hl => ?_)
                refine lv_goto (tgt := 30) hx hb dX0_counts_74 (by decide) ?_
                exact ih30 _ v44 v45 (lv_sub hl [3, 4, 5, 1, 0] rfl) (by omega) (by omega) (by omega)
      exact loop30_2 _ _ v33 (0) (lv_sub hl [2, 3, 4, 1, 0] rfl) (by omega) ⟨by decide, by decide⟩ (show (60 - (0 : Int)) < (((60 - (0 : Int)).toNat + 1 : Nat) : Int) by omega)
set_option maxHeartbeats 4000000 in
set_option maxRecDepth 100000 in
theorem tX0_shareFines (l : Launch) (E : tE) (X : tX) (A : Nat → Prop) (z : tZ) (I0 : tI) (L0 : tL) (a0 : Nat) (t_a0 : z.ty a0 = 1) : Met l yX0_shareFines wsX0_shareFines ({ frames := 5, cells := 0, slots := 0, locals := 320 }) (va_Pc [.ref a0] (h_P E X A z I0 L0)) (va_Qv (fun (I1 : tI) => h_I z I1 ∧ h_F [(108, 999), (106, 999), (1, 7)] z I0 I1 ∧ True) (fun (I1 : tI) t => h_B E A z I1 L0 t) A) 0 0 A := by
  refine Met.ofW (cc := cX0_shareFines) (maxL := 5) (ret := none) (by decide) rfl ?_
  intro pr_ ev_ s m args below meth cd_ s₁ B hml hv
  obtain ⟨rfl, hE, hk, hX, hA, hK, hI, hR, hB0⟩ := hv
  have g : h_G h_so h_fk E A z I0 L0 s s.heap s.heap [] := ⟨hK, va_S.rf, hB0⟩
  have hF : h_F [(108, 999), (106, 999), (1, 7)] z I0 I0 := h_F.rf
  have hx := B.exec
  have hb := B.bytes
  have hr := B.returns
  have hts := atoms_spec (ws := wsX0_shareFines) B.pre
  have hown : s.vm.findClass RX0 = some m.cls := findClass_of_methodNamed B.named
  have hlocks := B.notSynchronized
  have iX0 : ∀ w ∈ u_ws RX0 TX0 9, w ∈ wsX0_shareFines := by decide +kernel
  have hl := lv_entry ([.ref a0]) (n := 5) (Nat.le_of_ble_eq_true rfl)
  rw [lg_entry_eq]
  generalize (lg_sl ([.ref a0]) ++ List.replicate (5 - (lg_sl ([.ref a0])).length) Slot.unset).toArray = ls at hl ⊢
  have hl : lv_has ls 5 [(0, .ref a0)] := hl
  refine lv_iconst (v := 0) hx hb dX0_shareFines_0 (by decide) ?_
  refine lv_istore_n (lv' := [(1, .int 0), (0, .ref a0)]) hx hb dX0_shareFines_1 rfl hl (by decide) rfl (fun ls hl => ?_)
  refine lv_iconst (v := 0) hx hb dX0_shareFines_2 (by decide) ?_
  refine lv_istore_n (lv' := [(2, .int 0), (1, .int 0), (0, .ref a0)]) hx hb dX0_shareFines_3 rfl hl (by decide) rfl (fun ls hl => ?_)
  refine lv_iconst (v := 0) hx hb dX0_shareFines_4 (by decide) ?_
  refine lv_istore_n (lv' := [(3, .int 0), (2, .int 0), (1, .int 0), (0, .ref a0)]) hx hb dX0_shareFines_5 rfl hl (by decide) rfl (fun ls hl => ?_)
  have loop6_0 : ∀ (n : Nat) (I4 : tI) (H : Heap) (locs : List Loc) (ls : Array Slot) (v1 v2 v3 : Int32), h_G h_so h_fk E A z I4 L0 s s.heap H locs → h_I z I4 → h_F [(108, 999), (106, 999), (1, 7)] z I0 I4 → lv_has ls 5 [(0, .ref a0), (1, .int v1), (2, .int v2), (3, .int v3)] → ((-2147483648) ≤ v1.toInt ∧ v1.toInt ≤ 2147483647) → ((-2147483648) ≤ v2.toInt ∧ v2.toInt ≤ 2147483647) → (0 ≤ v3.toInt ∧ v3.toInt ≤ 8) → (8 - v3.toInt) < (n : Int) → W pr_ l ev_ (headSpec wsX0_shareFines ({ frames := 5, cells := 0, slots := 0, locals := 320 })).room s m ([.ref a0] : List Value).toArray below meth cd_ H locs 0 0 (MQ below (va_Qv (fun (I1 : tI) => h_I z I1 ∧ h_F [(108, 999), (106, 999), (1, 7)] z I0 I1 ∧ True) (fun (I1 : tI) t => h_B E A z I1 L0 t) A) ([.ref a0] : List Value).toArray s 0 0 A) (F0 m 6 ls []) := by
    intro n
    induction n with
    | zero => intro I4 H locs ls v1 v2 v3 g hI hF hl jv1 jv2 jv3 hn; exact absurd hn (by omega)
    | succ n ih6 =>
      intro I4 H locs ls v1 v2 v3 g hI hF hl jv1 jv2 jv3 hn
      refine lv_iload_n hx hb dX0_shareFines_6 rfl (lv_at hl 3 rfl) ?_
      refine lv_bipush (v := 8) hx hb dX0_shareFines_7 (by decide) ?_
      refine lv_icmp_ge (tgt := 99) hx hb dX0_shareFines_9 (by decide) (fun c5 => ?_) (fun c5 => ?_)
      · have ic5 := (xi_le c5 (by decide) rfl : 8 ≤ v3.toInt)
        refine lv_iload_n hx hb dX0_shareFines_99 rfl (lv_at hl 2 rfl) ?_
        refine lv_if_le (tgt := 109) hx hb dX0_shareFines_100 (by decide) (fun c6 => ?_) (fun c6 => ?_)
        · have ic6 := (xi_le c6 rfl (by decide) : v2.toInt ≤ 0)
          refine lv_iconst (v := 0) hx hb dX0_shareFines_109 (by decide) ?_
          refine lv_istore_n (lv' := [(3, .int 0), (0, .ref a0), (1, .int v1), (2, .int v2)]) hx hb dX0_shareFines_110 rfl hl (by decide) rfl (fun ls hl => ?_)
          refine lv_iconst (v := 0) hx hb dX0_shareFines_111 (by decide) ?_
          refine lv_istore (lv' := [(4, .int 0), (3, .int 0), (0, .ref a0), (1, .int v1), (2, .int v2)]) hx hb dX0_shareFines_112 hl (by decide) rfl (fun ls hl => ?_)
          have loop114_1 : ∀ (n : Nat) (I8 : tI) (H : Heap) (locs : List Loc) (ls : Array Slot) (v7 : Int32), h_G h_so h_fk E A z I8 L0 s s.heap H locs → h_I z I8 → h_F [(108, 999), (106, 999), (1, 7)] z I0 I8 → lv_has ls 5 [(0, .ref a0), (1, .int v1), (2, .int v2), (3, .int 0), (4, .int v7)] → (0 ≤ v7.toInt ∧ v7.toInt ≤ 8) → (8 - v7.toInt) < (n : Int) → W pr_ l ev_ (headSpec wsX0_shareFines ({ frames := 5, cells := 0, slots := 0, locals := 320 })).room s m ([.ref a0] : List Value).toArray below meth cd_ H locs 0 0 (MQ below (va_Qv (fun (I1 : tI) => h_I z I1 ∧ h_F [(108, 999), (106, 999), (1, 7)] z I0 I1 ∧ True) (fun (I1 : tI) t => h_B E A z I1 L0 t) A) ([.ref a0] : List Value).toArray s 0 0 A) (F0 m 114 ls []) := by
            intro n
            induction n with
            | zero => intro I8 H locs ls v7 g hI hF hl jv7 hn; exact absurd hn (by omega)
            | succ n ih114 =>
              intro I8 H locs ls v7 g hI hF hl jv7 hn
              refine lv_iload hx hb dX0_shareFines_114 (lv_at hl 4 rfl) ?_
              refine lv_bipush (v := 8) hx hb dX0_shareFines_116 (by decide) ?_
              refine lv_icmp_ge (tgt := 148) hx hb dX0_shareFines_118 (by decide) (fun c9 => ?_) (fun c9 => ?_)
              · have ic9 := (xi_le c9 (by decide) rfl : 8 ≤ v7.toInt)
                refine lv_aload_n hx hb dX0_shareFines_148 rfl (lv_at hl 0 rfl) ?_
                refine lv_dup hx hb dX0_shareFines_149 rfl ?_
                refine h_get (v := .int (I8 a0 7)) hx hb hts iX0 hown g t_a0 (by decide) so_1 rfl 7 (by decide) (hts (.fieldLink RX0 128 "CapLeague$Books" "leftOver" "I") (by decide +kernel)) rfl dX0_shareFines_150 rfl ?_
                refine lv_topi (fun v10 ev10 => ?_)
                have jv10 := hI.rd a0 7 t_a0 ev10 (rfl : h_bd 1 7 = ((-2147483648), 2147483647))
                refine lv_iload_n hx hb dX0_shareFines_153 rfl (lv_at hl 1 rfl) ?_
                refine lv_iload_n hx hb dX0_shareFines_154 rfl (lv_at hl 3 rfl) ?_
                refine lv_iload_n hx hb dX0_shareFines_155 rfl (lv_at hl 2 rfl) ?_
                refine lv_imul hx hb dX0_shareFines_156 ?_
                refine lv_topi (fun v11 ev11 => ?_)
                have jv11 : v11.toInt = 0 * v2.toInt := xi_mul ev11 (by decide) rfl (by omega) (by omega)
                refine lv_isub hx hb dX0_shareFines_157 ?_
                refine lv_topi (fun v12 ev12 => ?_)
                have jv12 : v12.toInt = v1.toInt - v11.toInt := xi_sub ev12 rfl rfl (by omega) (by omega)
                refine lv_iadd hx hb dX0_shareFines_158 ?_
                refine lv_topi (fun v13 ev13 => ?_)
                have jv13 : -2147483648 ≤ v13.toInt ∧ v13.toInt ≤ 2147483647 := ⟨xi_lo _, Int.le_of_lt_add_one (xi_hi _)⟩
                refine h_putI (ty := .int) (v := v13) hx hb hts iX0 tyX0 tyX0_ok nmX0 hown g t_a0 (by decide) so_1 rfl 7 (by decide) rfl (hts (.fieldLink RX0 128 "CapLeague$Books" "leftOver" "I") (by decide +kernel)) rfl rfl (by decide +kernel) rfl rfl dX0_shareFines_159 (fun I14 H locs eI14 g => ?_)
                have hI := hI.wr eI14 t_a0 (rfl : h_bd 1 7 = ((-2147483648), 2147483647)) (xi_lo _) (Int.le_of_lt_add_one (xi_hi _))
                have hF := hF.wr eI14 t_a0 rfl
                have hS := g.2.1
                exact W.vret hx hb hr (fun t ht hW => ⟨⟨I14, rfl, ⟨hI, hF, trivial⟩, h_ret g ht⟩, hS.F ht⟩) hS.2.2 dX0_shareFines_162
              · have ic9 := (xi_nle c9 (by decide) rfl : v7.toInt < 8)
                refine lv_aload_n hx hb dX0_shareFines_121 rfl (lv_at hl 0 rfl) ?_
                obtain ⟨b15, rb15, tb15⟩ := hR.at a0 8 t_a0 (rfl : h_rs 1 8 = some (108, false)) (by decide)
                refine h_get (v := .ref b15) hx hb hts iX0 hown g t_a0 (by decide) so_1 rfl 8 (by decide) (hts (.fieldLink RX0 30 "CapLeague$Books" "aboveCap" "[I") (by decide +kernel)) rfl dX0_shareFines_122 (by show va_rf (z.R a0 8) = _; rw [rb15]; rfl) ?_
                refine lv_iload hx hb dX0_shareFines_125 (lv_at hl 4 rfl) ?_
                refine h_ald hx hb g tb15 (by decide) so_108 (xi_in (by omega) (by omega)) dX0_shareFines_127 ?_
                refine lv_topi (fun v16 ev16 => ?_)
                have jv16 := hI.rd b15 v7.toNatClampNeg tb15 ev16 (rfl : h_bd 108 _ = ((-2147483648), 2147483647))
                refine lv_if_ne (tgt := 142) hx hb dX0_shareFines_128 (by decide) (fun c17 => ?_) (fun c17 => ?_)
                · have ic17 := (xi_ne c17 rfl (by decide) : v16.toInt ≠ 0)
                  obtain ⟨v18, ev18⟩ : ∃ z : Int32, z = v7 + 1 := ⟨_, rfl⟩
                  have jv18 : v18.toInt = v7.toInt + 1 := xi_add ev18 rfl (by decide) (by omega) (by omega)
                  refine lv_iinc (v := v18) (lv' := [(4, .int v18), (0, .ref a0), (1, .int v1), (2, .int v2), (3, .int 0)]) hx hb dX0_shareFines_142 hl (k := 4) rfl (by rw [ev18]; rfl) (by decide) rfl (fun ls hl => ?_)
                  refine lv_goto (tgt := 114) hx hb dX0_shareFines_145 (by decide) ?_
                  exact ih114 I8 _ _ _ v18 g hI hF (lv_sub hl [1, 2, 3, 4, 0] rfl) (by omega) (by omega)
                · have ic17 := (xi_eq c17 rfl (by decide) : v16.toInt = 0)
                  refine lv_aload_n hx hb dX0_shareFines_131 rfl (lv_at hl 0 rfl) ?_
                  obtain ⟨b19, rb19, tb19⟩ := hR.at a0 6 t_a0 (rfl : h_rs 1 6 = some (106, false)) (by decide)
                  refine h_get (v := .ref b19) hx hb hts iX0 hown g t_a0 (by decide) so_1 rfl 6 (by decide) (hts (.fieldLink RX0 26 "CapLeague$Books" "fines" "[I") (by decide +kernel)) rfl dX0_shareFines_132 (by show va_rf (z.R a0 6) = _; rw [rb19]; rfl) ?_
                  refine lv_iload hx hb dX0_shareFines_135 (lv_at hl 4 rfl) ?_
                  refine lv_dup2_11 hx hb dX0_shareFines_137 rfl rfl ?_
                  refine h_ald hx hb g tb19 (by decide) so_106 (xi_in (by omega) (by omega)) dX0_shareFines_138 ?_
                  refine lv_topi (fun v20 ev20 => ?_)
                  have jv20 := hI.rd b19 v7.toNatClampNeg tb19 ev20 (rfl : h_bd 106 _ = ((-2147483648), 2147483647))
                  refine lv_iload_n hx hb dX0_shareFines_139 rfl (lv_at hl 3 rfl) ?_
                  refine lv_isub hx hb dX0_shareFines_140 ?_
                  refine lv_topi (fun v21 ev21 => ?_)
                  have jv21 : v21.toInt = v20.toInt - 0 := xi_sub ev21 rfl (by decide) (by omega) (by omega)
                  refine h_ast hx hb g tb19 (by decide) so_106 (xi_in (by omega) (by omega)) dX0_shareFines_141 (fun I22 H locs eI22 g => ?_)
                  have hI := hI.wr eI22 tb19 (rfl : h_bd 106 _ = ((-2147483648), 2147483647)) (xi_lo _) (Int.le_of_lt_add_one (xi_hi _))
                  have hF := hF.wr eI22 tb19 rfl
                  obtain ⟨v23, ev23⟩ : ∃ z : Int32, z = v7 + 1 := ⟨_, rfl⟩
                  have jv23 : v23.toInt = v7.toInt + 1 := xi_add ev23 rfl (by decide) (by omega) (by omega)
                  refine lv_iinc (v := v23) (lv' := [(4, .int v23), (0, .ref a0), (1, .int v1), (2, .int v2), (3, .int 0)]) hx hb dX0_shareFines_142 hl (k := 4) rfl (by rw [ev23]; rfl) (by decide) rfl (fun ls hl => ?_)
                  refine lv_goto (tgt := 114) hx hb dX0_shareFines_145 (by decide) ?_
                  exact ih114 I22 _ _ _ v23 g hI hF (lv_sub hl [1, 2, 3, 4, 0] rfl) (by omega) (by omega)
          exact loop114_1 _ I4 _ _ _ (0) g hI hF (lv_sub hl [2, 3, 4, 1, 0] rfl) ⟨by decide, by decide⟩ (show (8 - (0 : Int)) < (((8 - (0 : Int)).toNat + 1 : Nat) : Int) by omega)
        · have ic6 := (xi_nle c6 rfl (by decide) : 0 < v2.toInt)
          refine lv_iload_n hx hb dX0_shareFines_103 rfl (lv_at hl 1 rfl) ?_
          refine lv_iload_n hx hb dX0_shareFines_104 rfl (lv_at hl 2 rfl) ?_
          refine lv_idiv hx hb dX0_shareFines_105 (h_ne0 (by omega)) ?_
          refine lv_topi (fun v24 ev24 => ?_)
          have jv24 : -2147483648 ≤ v24.toInt ∧ v24.toInt ≤ 2147483647 := ⟨xi_lo _, Int.le_of_lt_add_one (xi_hi _)⟩
          refine lv_goto (tgt := 110) hx hb dX0_shareFines_106 (by decide) ?_
          refine lv_istore_n (lv' := [(3, .int v24), (0, .ref a0), (1, .int v1), (2, .int v2)]) hx hb dX0_shareFines_110 rfl hl (by decide) rfl (fun ls hl => ?_)
          refine lv_iconst (v := 0) hx hb dX0_shareFines_111 (by decide) ?_
          refine lv_istore (lv' := [(4, .int 0), (3, .int v24), (0, .ref a0), (1, .int v1), (2, .int v2)]) hx hb dX0_shareFines_112 hl (by decide) rfl (fun ls hl => ?_)
          have loop114_2 : ∀ (n : Nat) (I26 : tI) (H : Heap) (locs : List Loc) (ls : Array Slot) (v25 : Int32), h_G h_so h_fk E A z I26 L0 s s.heap H locs → h_I z I26 → h_F [(108, 999), (106, 999), (1, 7)] z I0 I26 → lv_has ls 5 [(0, .ref a0), (1, .int v1), (2, .int v2), (3, .int v24), (4, .int v25)] → (0 ≤ v25.toInt ∧ v25.toInt ≤ 8) → (8 - v25.toInt) < (n : Int) → W pr_ l ev_ (headSpec wsX0_shareFines ({ frames := 5, cells := 0, slots := 0, locals := 320 })).room s m ([.ref a0] : List Value).toArray below meth cd_ H locs 0 0 (MQ below (va_Qv (fun (I1 : tI) => h_I z I1 ∧ h_F [(108, 999), (106, 999), (1, 7)] z I0 I1 ∧ True) (fun (I1 : tI) t => h_B E A z I1 L0 t) A) ([.ref a0] : List Value).toArray s 0 0 A) (F0 m 114 ls []) := by
            intro n
            induction n with
            | zero => intro I26 H locs ls v25 g hI hF hl jv25 hn; exact absurd hn (by omega)
            | succ n ih114 =>
              intro I26 H locs ls v25 g hI hF hl jv25 hn
              refine lv_iload hx hb dX0_shareFines_114 (lv_at hl 4 rfl) ?_
              refine lv_bipush (v := 8) hx hb dX0_shareFines_116 (by decide) ?_
              refine lv_icmp_ge (tgt := 148) hx hb dX0_shareFines_118 (by decide) (fun c27 => ?_) (fun c27 => ?_)
              · have ic27 := (xi_le c27 (by decide) rfl : 8 ≤ v25.toInt)
                refine lv_aload_n hx hb dX0_shareFines_148 rfl (lv_at hl 0 rfl) ?_
                refine lv_dup hx hb dX0_shareFines_149 rfl ?_
                refine h_get (v := .int (I26 a0 7)) hx hb hts iX0 hown g t_a0 (by decide) so_1 rfl 7 (by decide) (hts (.fieldLink RX0 128 "CapLeague$Books" "leftOver" "I") (by decide +kernel)) rfl dX0_shareFines_150 rfl ?_
                refine lv_topi (fun v28 ev28 => ?_)
                have jv28 := hI.rd a0 7 t_a0 ev28 (rfl : h_bd 1 7 = ((-2147483648), 2147483647))
                refine lv_iload_n hx hb dX0_shareFines_153 rfl (lv_at hl 1 rfl) ?_
                refine lv_iload_n hx hb dX0_shareFines_154 rfl (lv_at hl 3 rfl) ?_
                refine lv_iload_n hx hb dX0_shareFines_155 rfl (lv_at hl 2 rfl) ?_
                refine lv_imul hx hb dX0_shareFines_156 ?_
                refine lv_topi (fun v29 ev29 => ?_)
                have jv29 : -2147483648 ≤ v29.toInt ∧ v29.toInt ≤ 2147483647 := ⟨xi_lo _, Int.le_of_lt_add_one (xi_hi _)⟩
                refine lv_isub hx hb dX0_shareFines_157 ?_
                refine lv_topi (fun v30 ev30 => ?_)
                have jv30 : -2147483648 ≤ v30.toInt ∧ v30.toInt ≤ 2147483647 := ⟨xi_lo _, Int.le_of_lt_add_one (xi_hi _)⟩
                refine lv_iadd hx hb dX0_shareFines_158 ?_
                refine lv_topi (fun v31 ev31 => ?_)
                have jv31 : -2147483648 ≤ v31.toInt ∧ v31.toInt ≤ 2147483647 := ⟨xi_lo _, Int.le_of_lt_add_one (xi_hi _)⟩
                refine h_putI (ty := .int) (v := v31) hx hb hts iX0 tyX0 tyX0_ok nmX0 hown g t_a0 (by decide) so_1 rfl 7 (by decide) rfl (hts (.fieldLink RX0 128 "CapLeague$Books" "leftOver" "I") (by decide +kernel)) rfl rfl (by decide +kernel) rfl rfl dX0_shareFines_159 (fun I32 H locs eI32 g => ?_)
                have hI := hI.wr eI32 t_a0 (rfl : h_bd 1 7 = ((-2147483648), 2147483647)) (xi_lo _) (Int.le_of_lt_add_one (xi_hi _))
                have hF := hF.wr eI32 t_a0 rfl
                have hS := g.2.1
                exact W.vret hx hb hr (fun t ht hW => ⟨⟨I32, rfl, ⟨hI, hF, trivial⟩, h_ret g ht⟩, hS.F ht⟩) hS.2.2 dX0_shareFines_162
              · have ic27 := (xi_nle c27 (by decide) rfl : v25.toInt < 8)
                refine lv_aload_n hx hb dX0_shareFines_121 rfl (lv_at hl 0 rfl) ?_
                obtain ⟨b33, rb33, tb33⟩ := hR.at a0 8 t_a0 (rfl : h_rs 1 8 = some (108, false)) (by decide)
                refine h_get (v := .ref b33) hx hb hts iX0 hown g t_a0 (by decide) so_1 rfl 8 (by decide) (hts (.fieldLink RX0 30 "CapLeague$Books" "aboveCap" "[I") (by decide +kernel)) rfl dX0_shareFines_122 (by show va_rf (z.R a0 8) = _; rw [rb33]; rfl) ?_
                refine lv_iload hx hb dX0_shareFines_125 (lv_at hl 4 rfl) ?_
                refine h_ald hx hb g tb33 (by decide) so_108 (xi_in (by omega) (by omega)) dX0_shareFines_127 ?_
                refine lv_topi (fun v34 ev34 => ?_)
                have jv34 := hI.rd b33 v25.toNatClampNeg tb33 ev34 (rfl : h_bd 108 _ = ((-2147483648), 2147483647))
                refine lv_if_ne (tgt := 142) hx hb dX0_shareFines_128 (by decide) (fun c35 => ?_) (fun c35 => ?_)
                · have ic35 := (xi_ne c35 rfl (by decide) : v34.toInt ≠ 0)
                  obtain ⟨v36, ev36⟩ : ∃ z : Int32, z = v25 + 1 := ⟨_, rfl⟩
                  have jv36 : v36.toInt = v25.toInt + 1 := xi_add ev36 rfl (by decide) (by omega) (by omega)
                  refine lv_iinc (v := v36) (lv' := [(4, .int v36), (0, .ref a0), (1, .int v1), (2, .int v2), (3, .int v24)]) hx hb dX0_shareFines_142 hl (k := 4) rfl (by rw [ev36]; rfl) (by decide) rfl (fun ls hl => ?_)
                  refine lv_goto (tgt := 114) hx hb dX0_shareFines_145 (by decide) ?_
                  exact ih114 I26 _ _ _ v36 g hI hF (lv_sub hl [1, 2, 3, 4, 0] rfl) (by omega) (by omega)
                · have ic35 := (xi_eq c35 rfl (by decide) : v34.toInt = 0)
                  refine lv_aload_n hx hb dX0_shareFines_131 rfl (lv_at hl 0 rfl) ?_
                  obtain ⟨b37, rb37, tb37⟩ := hR.at a0 6 t_a0 (rfl : h_rs 1 6 = some (106, false)) (by decide)
                  refine h_get (v := .ref b37) hx hb hts iX0 hown g t_a0 (by decide) so_1 rfl 6 (by decide) (hts (.fieldLink RX0 26 "CapLeague$Books" "fines" "[I") (by decide +kernel)) rfl dX0_shareFines_132 (by show va_rf (z.R a0 6) = _; rw [rb37]; rfl) ?_
                  refine lv_iload hx hb dX0_shareFines_135 (lv_at hl 4 rfl) ?_
                  refine lv_dup2_11 hx hb dX0_shareFines_137 rfl rfl ?_
                  refine h_ald hx hb g tb37 (by decide) so_106 (xi_in (by omega) (by omega)) dX0_shareFines_138 ?_
                  refine lv_topi (fun v38 ev38 => ?_)
                  have jv38 := hI.rd b37 v25.toNatClampNeg tb37 ev38 (rfl : h_bd 106 _ = ((-2147483648), 2147483647))
                  refine lv_iload_n hx hb dX0_shareFines_139 rfl (lv_at hl 3 rfl) ?_
                  refine lv_isub hx hb dX0_shareFines_140 ?_
                  refine lv_topi (fun v39 ev39 => ?_)
                  have jv39 : -2147483648 ≤ v39.toInt ∧ v39.toInt ≤ 2147483647 := ⟨xi_lo _, Int.le_of_lt_add_one (xi_hi _)⟩
                  refine h_ast hx hb g tb37 (by decide) so_106 (xi_in (by omega) (by omega)) dX0_shareFines_141 (fun I40 H locs eI40 g => ?_)
                  have hI := hI.wr eI40 tb37 (rfl : h_bd 106 _ = ((-2147483648), 2147483647)) (xi_lo _) (Int.le_of_lt_add_one (xi_hi _))
                  have hF := hF.wr eI40 tb37 rfl
                  obtain ⟨v41, ev41⟩ : ∃ z : Int32, z = v25 + 1 := ⟨_, rfl⟩
                  have jv41 : v41.toInt = v25.toInt + 1 := xi_add ev41 rfl (by decide) (by omega) (by omega)
                  refine lv_iinc (v := v41) (lv' := [(4, .int v41), (0, .ref a0), (1, .int v1), (2, .int v2), (3, .int v24)]) hx hb dX0_shareFines_142 hl (k := 4) rfl (by rw [ev41]; rfl) (by decide) rfl (fun ls hl => ?_)
                  refine lv_goto (tgt := 114) hx hb dX0_shareFines_145 (by decide) ?_
                  exact ih114 I40 _ _ _ v41 g hI hF (lv_sub hl [1, 2, 3, 4, 0] rfl) (by omega) (by omega)
          exact loop114_2 _ I4 _ _ _ (0) g hI hF (lv_sub hl [2, 3, 4, 1, 0] rfl) ⟨by decide, by decide⟩ (show (8 - (0 : Int)) < (((8 - (0 : Int)).toNat + 1 : Nat) : Int) by omega)
      · have ic5 := (xi_nle c5 (by decide) rfl : v3.toInt < 8)
        refine lv_aload_n hx hb dX0_shareFines_12 rfl (lv_at hl 0 rfl) ?_
        obtain ⟨b42, rb42, tb42⟩ := hR.at a0 8 t_a0 (rfl : h_rs 1 8 = some (108, false)) (by decide)
        refine h_get (v := .ref b42) hx hb hts iX0 hown g t_a0 (by decide) so_1 rfl 8 (by decide) (hts (.fieldLink RX0 30 "CapLeague$Books" "aboveCap" "[I") (by decide +kernel)) rfl dX0_shareFines_13 (by show va_rf (z.R a0 8) = _; rw [rb42]; rfl) ?_
        refine lv_iload_n hx hb dX0_shareFines_16 rfl (lv_at hl 3 rfl) ?_
        refine lv_iconst (v := 0) hx hb dX0_shareFines_17 (by decide) ?_
        refine lv_aload_n hx hb dX0_shareFines_18 rfl (lv_at hl 0 rfl) ?_
        refine lv_iload_n hx hb dX0_shareFines_19 rfl (lv_at hl 3 rfl) ?_
        refine lv_aload_n hx hb dX0_shareFines_20 rfl (lv_at hl 0 rfl) ?_
        refine h_get (v := .int (I4 a0 3)) hx hb hts iX0 hown g t_a0 (by decide) so_1 rfl 3 (by decide) (hts (.fieldLink RX0 37 "CapLeague$Books" "clock" "I") (by decide +kernel)) rfl dX0_shareFines_21 rfl ?_
        refine lv_topi (fun v43 ev43 => ?_)
        have jv43 := hI.rd a0 3 t_a0 ev43 (rfl : h_bd 1 3 = (0, 9))
        refine vp_callSi (W.runV (As := [.int v3, .int v43]) (rest := [.int 0, .int v3, .ref b42]) ⟨hx, hb, hml, hown, hts⟩ (tX0_counts l E X A z I4 L0 a0 t_a0 v3 (v3.toInt) rfl v43 (v43.toInt) rfl) (cwV 2 hts gX0_shareFines_X0_counts rfl rfl rfl (by decide +kernel) ⟨Nat.le_of_ble_eq_true rfl, Nat.le_of_ble_eq_true rfl⟩) ⟨h_blind _ _ _ _ _ _ _, h_recv g t_a0 (by decide) so_1 (q := (RX0, TX0, 9)) rfl, h_pre _ hE hk hX hA hI hR g⟩ rfl rfl hl.1 rfl (lv_room (Nat.le_of_ble_eq_true rfl)) dX0_shareFines_24 ⟨Nat.le_of_ble_eq_true rfl, Nat.le_of_ble_eq_true rfl⟩) (fun rh44 h44 => ?_)
        have jrh44 : -2147483648 ≤ rh44.toInt ∧ rh44.toInt ≤ 2147483647 := ⟨xi_lo _, Int.le_of_lt_add_one (xi_hi _)⟩
        refine lv_aload_n hx hb dX0_shareFines_27 rfl (lv_at hl 0 rfl) ?_
        refine va_csq (W.runV (As := []) (rest := [.int rh44, .int 0, .int v3, .ref b42]) ⟨hx, hb, hml, hown, hts⟩ (tX0_lawsNow l E X A z I4 L0 a0 t_a0) (cwV 0 hts gX0_shareFines_X0_lawsNow rfl rfl rfl (by decide +kernel) ⟨Nat.le_of_ble_eq_true rfl, Nat.le_of_ble_eq_true rfl⟩) ⟨h_blind _ _ _ _ _ _ _, h_recv g t_a0 (by decide) so_1 (q := (RX0, TX0, 9)) rfl, h_pre _ hE hk hX hA hI hR g⟩ rfl rfl hl.1 rfl (lv_room (Nat.le_of_ble_eq_true rfl)) dX0_shareFines_28 ⟨Nat.le_of_ble_eq_true rfl, Nat.le_of_ble_eq_true rfl⟩) (fun rh45 h45 => ?_)
        obtain ⟨rh45, rfl, trh45⟩ := h45
        refine xw_v (v := .ref rh45) rfl ?_
        refine lv_iconst (v := 0) hx hb dX0_shareFines_31 (by decide) ?_
        refine vp_callSi (W.runV (As := [.int 0]) (rest := [.int rh44, .int 0, .int v3, .ref b42]) ⟨hx, hb, hml, hown, hts⟩ (tX5_number l E X A z I4 L0 rh45 trh45 0 (0) (by decide)) (cwV 1 hts gX0_shareFines_X5_number rfl rfl rfl (by decide +kernel) ⟨Nat.le_of_ble_eq_true rfl, Nat.le_of_ble_eq_true rfl⟩) ⟨h_blind _ _ _ _ _ _ _, h_recv g trh45 (by decide) so_6 (q := (RX5, TX5, 3)) rfl, h_pre _ hE hk hX hA hI hR g⟩ rfl rfl hl.1 rfl (lv_room (Nat.le_of_ble_eq_true rfl)) dX0_shareFines_32 ⟨Nat.le_of_ble_eq_true rfl, Nat.le_of_ble_eq_true rfl⟩) (fun rh46 h46 => ?_)
        have jrh46 : -2147483648 ≤ rh46.toInt ∧ rh46.toInt ≤ 2147483647 := ⟨xi_lo _, Int.le_of_lt_add_one (xi_hi _)⟩
        refine lv_isub hx hb dX0_shareFines_35 ?_
        refine lv_topi (fun v47 ev47 => ?_)
        have jv47 : -2147483648 ≤ v47.toInt ∧ v47.toInt ≤ 2147483647 := ⟨xi_lo _, Int.le_of_lt_add_one (xi_hi _)⟩
        refine va_mmax hx hb (hml.trans hl.1.symm) hown (hts (.methodLink RX0 123 Lib.Math.max.name) (by decide +kernel)) (hts (.static Lib.Math.max.name) (by decide +kernel)) (hts (.initialized "java/lang/Math") (by decide +kernel)) (hts (.code Lib.Math.max.name Lib.Math.max.code 2 (some .int)) (by decide +kernel)) (Nat.le_of_ble_eq_true rfl) (Nat.le_of_ble_eq_true rfl) (Nat.le_of_ble_eq_true rfl) (Nat.le_of_ble_eq_true rfl) dX0_shareFines_36 ?_
        refine lv_topi (fun v48 ev48 => ?_)
        have jv48 := h_max (a := 0) (b := v47.toInt) ev48 (by decide) rfl
        refine h_ast hx hb g tb42 (by decide) so_108 (xi_in (by omega) (by omega)) dX0_shareFines_39 (fun I49 H locs eI49 g => ?_)
        have hI := hI.wr eI49 tb42 (rfl : h_bd 108 _ = ((-2147483648), 2147483647)) (xi_lo _) (Int.le_of_lt_add_one (xi_hi _))
        have hF := hF.wr eI49 tb42 rfl
        refine lv_aload_n hx hb dX0_shareFines_40 rfl (lv_at hl 0 rfl) ?_
        refine h_get (v := .ref b42) hx hb hts iX0 hown g t_a0 (by decide) so_1 rfl 8 (by decide) (hts (.fieldLink RX0 30 "CapLeague$Books" "aboveCap" "[I") (by decide +kernel)) rfl dX0_shareFines_41 (by show va_rf (z.R a0 8) = _; rw [rb42]; rfl) ?_
        refine lv_iload_n hx hb dX0_shareFines_44 rfl (lv_at hl 3 rfl) ?_
        refine h_ald hx hb g tb42 (by decide) so_108 (xi_in (by omega) (by omega)) dX0_shareFines_45 ?_
        refine xw_i (h_n0 eI49) ?_
        refine lv_aload_n hx hb dX0_shareFines_46 rfl (lv_at hl 0 rfl) ?_
        refine va_csq (W.runV (As := []) (rest := [.int v48]) ⟨hx, hb, hml, hown, hts⟩ (tX0_lawsNow l E X A z I49 L0 a0 t_a0) (cwV 0 hts gX0_shareFines_X0_lawsNow rfl rfl rfl (by decide +kernel) ⟨Nat.le_of_ble_eq_true rfl, Nat.le_of_ble_eq_true rfl⟩) ⟨h_blind _ _ _ _ _ _ _, h_recv g t_a0 (by decide) so_1 (q := (RX0, TX0, 9)) rfl, h_pre _ hE hk hX hA hI hR g⟩ rfl rfl hl.1 rfl (lv_room (Nat.le_of_ble_eq_true rfl)) dX0_shareFines_47 ⟨Nat.le_of_ble_eq_true rfl, Nat.le_of_ble_eq_true rfl⟩) (fun rh50 h50 => ?_)
        obtain ⟨rh50, rfl, trh50⟩ := h50
        refine xw_v (v := .ref rh50) rfl ?_
        refine lv_bipush (v := 7) hx hb dX0_shareFines_50 (by decide) ?_
        refine vp_callSi (W.runV (As := [.int 7]) (rest := [.int v48]) ⟨hx, hb, hml, hown, hts⟩ (tX5_number l E X A z I49 L0 rh50 trh50 7 (7) (by decide)) (cwV 1 hts gX0_shareFines_X5_number rfl rfl rfl (by decide +kernel) ⟨Nat.le_of_ble_eq_true rfl, Nat.le_of_ble_eq_true rfl⟩) ⟨h_blind _ _ _ _ _ _ _, h_recv g trh50 (by decide) so_6 (q := (RX5, TX5, 3)) rfl, h_pre _ hE hk hX hA hI hR g⟩ rfl rfl hl.1 rfl (lv_room (Nat.le_of_ble_eq_true rfl)) dX0_shareFines_52 ⟨Nat.le_of_ble_eq_true rfl, Nat.le_of_ble_eq_true rfl⟩) (fun rh51 h51 => ?_)
        have jrh51 : -2147483648 ≤ rh51.toInt ∧ rh51.toInt ≤ 2147483647 := ⟨xi_lo _, Int.le_of_lt_add_one (xi_hi _)⟩
        refine vp_callSi (xr_of (va_runSN (As := [.int v48, .int rh51]) (rest := []) ⟨hx, hb, hml, hown, hts⟩ (tX11_hundredths l E X A z I49 L0 v48 (v48.toInt) rfl rh51 (rh51.toInt) rfl) (⟨va_cnB 2 hts gX0_shareFines_X11_hundredths_n75 rfl rfl rfl (hE.link 9 rfl) (hts (.initialized RX11) (by decide +kernel)) (by decide +kernel) ⟨Nat.le_of_ble_eq_true rfl, Nat.le_of_ble_eq_true rfl⟩, hts (.static yX11_hundredths) (by decide +kernel), trivial⟩) ⟨h_blind _ _ _ _ _ _ _, h_pre _ hE hk hX hA hI hR g⟩ rfl rfl hl.1 rfl (lv_room (Nat.le_of_ble_eq_true rfl)) dX0_shareFines_55 ⟨Nat.le_of_ble_eq_true rfl, Nat.le_of_ble_eq_true rfl⟩)) (fun rh52 h52 => ?_)
        have jrh52 : -2147483648 ≤ rh52.toInt ∧ rh52.toInt ≤ 2147483647 := ⟨xi_lo _, Int.le_of_lt_add_one (xi_hi _)⟩
        refine lv_istore (lv' := [(4, .int rh52), (0, .ref a0), (1, .int v1), (2, .int v2), (3, .int v3)]) hx hb dX0_shareFines_58 hl (by decide) rfl (fun ls hl => ?_)
        refine lv_aload_n hx hb dX0_shareFines_60 rfl (lv_at hl 1 rfl) ?_
        obtain ⟨b53, rb53, tb53⟩ := hR.at a0 6 t_a0 (rfl : h_rs 1 6 = some (106, false)) (by decide)
        refine h_get (v := .ref b53) hx hb hts iX0 hown g t_a0 (by decide) so_1 rfl 6 (by decide) (hts (.fieldLink RX0 26 "CapLeague$Books" "fines" "[I") (by decide +kernel)) rfl dX0_shareFines_61 (by show va_rf (z.R a0 6) = _; rw [rb53]; rfl) ?_
        refine lv_iload_n hx hb dX0_shareFines_64 rfl (lv_at hl 4 rfl) ?_
        refine lv_dup2_11 hx hb dX0_shareFines_65 rfl rfl ?_
        refine h_ald hx hb g tb53 (by decide) so_106 (xi_in (by omega) (by omega)) dX0_shareFines_66 ?_
        refine lv_topi (fun v54 ev54 => ?_)
        have jv54 := hI.rd b53 v3.toNatClampNeg tb53 ev54 (rfl : h_bd 106 _ = ((-2147483648), 2147483647))
        refine lv_iload hx hb dX0_shareFines_67 (lv_at hl 0 rfl) ?_
        refine lv_iadd hx hb dX0_shareFines_69 ?_
        refine lv_topi (fun v55 ev55 => ?_)
        have jv55 : -2147483648 ≤ v55.toInt ∧ v55.toInt ≤ 2147483647 := ⟨xi_lo _, Int.le_of_lt_add_one (xi_hi _)⟩
        refine h_ast hx hb g tb53 (by decide) so_106 (xi_in (by omega) (by omega)) dX0_shareFines_70 (fun I56 H locs eI56 g => ?_)
        have hI := hI.wr eI56 tb53 (rfl : h_bd 106 _ = ((-2147483648), 2147483647)) (xi_lo _) (Int.le_of_lt_add_one (xi_hi _))
        have hF := hF.wr eI56 tb53 rfl
        refine lv_iload_n hx hb dX0_shareFines_71 rfl (lv_at hl 2 rfl) ?_
        refine lv_iload hx hb dX0_shareFines_72 (lv_at hl 0 rfl) ?_
        refine lv_iadd hx hb dX0_shareFines_74 ?_
        refine lv_topi (fun v57 ev57 => ?_)
        have jv57 : -2147483648 ≤ v57.toInt ∧ v57.toInt ≤ 2147483647 := ⟨xi_lo _, Int.le_of_lt_add_one (xi_hi _)⟩
        refine lv_istore_n (lv' := [(1, .int v57), (4, .int rh52), (0, .ref a0), (2, .int v2), (3, .int v3)]) hx hb dX0_shareFines_75 rfl hl (by decide) rfl (fun ls hl => ?_)
        refine lv_iload_n hx hb dX0_shareFines_76 rfl (lv_at hl 3 rfl) ?_
        refine lv_aload_n hx hb dX0_shareFines_77 rfl (lv_at hl 2 rfl) ?_
        refine h_get (v := .ref b42) hx hb hts iX0 hown g t_a0 (by decide) so_1 rfl 8 (by decide) (hts (.fieldLink RX0 30 "CapLeague$Books" "aboveCap" "[I") (by decide +kernel)) rfl dX0_shareFines_78 (by show va_rf (z.R a0 8) = _; rw [rb42]; rfl) ?_
        refine lv_iload_n hx hb dX0_shareFines_81 rfl (lv_at hl 4 rfl) ?_
        refine h_ald hx hb g tb42 (by decide) so_108 (xi_in (by omega) (by omega)) dX0_shareFines_82 ?_
        refine xw_i ((h_n1 eI56 tb42 tb53 (by decide)).trans (h_n0 eI49)) ?_
        refine lv_if_ne (tgt := 90) hx hb dX0_shareFines_83 (by decide) (fun c58 => ?_) (fun c58 => ?_)
        · have ic58 := (xi_ne c58 rfl (by decide) : v48.toInt ≠ 0)
          refine lv_iconst (v := 0) hx hb dX0_shareFines_90 (by decide) ?_
          refine lv_iadd hx hb dX0_shareFines_91 ?_
          refine lv_topi (fun v59 ev59 => ?_)
          have jv59 : v59.toInt = v2.toInt + 0 := xi_add ev59 rfl (by decide) (by omega) (by omega)
          refine lv_istore_n (lv' := [(2, .int v59), (1, .int v57), (4, .int rh52), (0, .ref a0), (3, .int v3)]) hx hb dX0_shareFines_92 rfl hl (by decide) rfl (fun ls hl => ?_)
          obtain ⟨v60, ev60⟩ : ∃ z : Int32, z = v3 + 1 := ⟨_, rfl⟩
          have jv60 : v60.toInt = v3.toInt + 1 := xi_add ev60 rfl (by decide) (by omega) (by omega)
          refine lv_iinc (v := v60) (lv' := [(3, .int v60), (2, .int v59), (1, .int v57), (4, .int rh52), (0, .ref a0)]) hx hb dX0_shareFines_93 hl (k := 4) rfl (by rw [ev60]; rfl) (by decide) rfl (fun ls hl => ?_)
          refine lv_goto (tgt := 6) hx hb dX0_shareFines_96 (by decide) ?_
          exact ih6 I56 _ _ _ v57 v59 v60 g hI hF (lv_sub hl [4, 2, 1, 0] rfl) (by omega) (by omega) (by omega) (by omega)
        · have ic58 := (xi_eq c58 rfl (by decide) : v48.toInt = 0)
          refine lv_iconst (v := 1) hx hb dX0_shareFines_86 (by decide) ?_
          refine lv_goto (tgt := 91) hx hb dX0_shareFines_87 (by decide) ?_
          refine lv_iadd hx hb dX0_shareFines_91 ?_
          refine lv_topi (fun v61 ev61 => ?_)
          have jv61 : -2147483648 ≤ v61.toInt ∧ v61.toInt ≤ 2147483647 := ⟨xi_lo _, Int.le_of_lt_add_one (xi_hi _)⟩
          refine lv_istore_n (lv' := [(2, .int v61), (1, .int v57), (4, .int rh52), (0, .ref a0), (3, .int v3)]) hx hb dX0_shareFines_92 rfl hl (by decide) rfl (fun ls hl => ?_)
          obtain ⟨v62, ev62⟩ : ∃ z : Int32, z = v3 + 1 := ⟨_, rfl⟩
          have jv62 : v62.toInt = v3.toInt + 1 := xi_add ev62 rfl (by decide) (by omega) (by omega)
          refine lv_iinc (v := v62) (lv' := [(3, .int v62), (2, .int v61), (1, .int v57), (4, .int rh52), (0, .ref a0)]) hx hb dX0_shareFines_93 hl (k := 4) rfl (by rw [ev62]; rfl) (by decide) rfl (fun ls hl => ?_)
          refine lv_goto (tgt := 6) hx hb dX0_shareFines_96 (by decide) ?_
          exact ih6 I56 _ _ _ v57 v61 v62 g hI hF (lv_sub hl [4, 2, 1, 0] rfl) (by omega) (by omega) (by omega) (by omega)
  exact loop6_0 _ I0 _ _ _ (0) (0) (0) g hI hF (lv_sub hl [3, 2, 1, 0] rfl) ⟨by decide, by decide⟩ ⟨by decide, by decide⟩ ⟨by decide, by decide⟩ (show (8 - (0 : Int)) < (((8 - (0 : Int)).toNat + 1 : Nat) : Int) by omega)
