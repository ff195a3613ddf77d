set_option maxHeartbeats 4000000 in
set_option maxRecDepth 100000 in
theorem tX4_failF (l : Launch) (E : tE) (X : tX) (A : Nat → Prop) (z : tZ) (I0 : tI) (L0 : tL) (a0 : Nat) (t_a0 : z.ty a0 = 5) (x : Int32) (x_t : Int) (h_x : x.toInt = x_t) : Met l yX4_fail wsX4_fail ({ frames := 1, cells := 0, slots := 0, locals := 64 }) (va_Pc [.ref a0, .int x] (h_P E X A z I0 L0)) (va_Qi (fun r (I1 : tI) => h_I z I1 ∧ h_F [(5, 2), (5, 3)] z I0 I1 ∧ (0 ≤ r.toInt ∧ r.toInt ≤ 0) ∧ (I1 a0 2 = x ∧ I1 a0 3 = I0 a0 5)) (fun (I1 : tI) t => h_B E A z I1 L0 t) A) 0 0 A := by
  refine Met.ofW (cc := cX4_fail) (maxL := 2) (ret := (some .boolean)) (by decide) rfl ?_
  intro pr_ ev_ s m args below meth cd_ s₁ B hml hv
  obtain ⟨rfl, hE, hk, hX, hA, hK, hI, hR, hB0⟩ := hv
  have g : h_G h_so h_fk E A z I0 L0 s s.heap s.heap [] := ⟨hK, va_S.rf, hB0⟩
  have hF : h_F [(5, 2), (5, 3)] z I0 I0 := h_F.rf
  have hx := B.exec
  have hb := B.bytes
  have hr := B.returns
  have hts := atoms_spec (ws := wsX4_fail) B.pre
  have hown : s.vm.findClass RX4 = some m.cls := findClass_of_methodNamed B.named
  have hlocks := B.notSynchronized
  have iX4 : ∀ w ∈ u_ws RX4 TX4 9, w ∈ wsX4_fail := by decide +kernel
  have hl := lv_entry ([.ref a0, .int x]) (n := 2) (Nat.le_of_ble_eq_true rfl)
  rw [lg_entry_eq]
  generalize (lg_sl ([.ref a0, .int x]) ++ List.replicate (2 - (lg_sl ([.ref a0, .int x])).length) Slot.unset).toArray = ls at hl ⊢
  have hl : lv_has ls 2 [(0, .ref a0), (1, .int x)] := hl
  have b_x : -2147483648 ≤ x_t ∧ x_t ≤ 2147483647 := h_x ▸ ⟨xi_lo x, Int.le_of_lt_add_one (xi_hi x)⟩
  obtain ⟨f0_5, ef0_5⟩ : ∃ v : Int32, v = I0 a0 5 := ⟨_, rfl⟩
  have qf0_5 : (I0 a0 5).toInt = f0_5.toInt := congrArg Int32.toInt ef0_5.symm
  have jf0_5 := hI.rd a0 5 t_a0 ef0_5 (rfl : h_bd 5 5 = ((-2147483648), 2147483647))
  refine lv_aload_n hx hb dX4_fail_0 rfl (lv_at hl 0 rfl) ?_
  refine lv_iload_n hx hb dX4_fail_1 rfl (lv_at hl 1 rfl) ?_
  refine h_putI (ty := .int) (v := x) hx hb hts iX4 tyX4 tyX4_ok nmX4 hown g t_a0 (by decide) so_5 rfl 2 (by decide) rfl (hts (.fieldLink RX4 29 "CapLeague$LawReader" "faultKind" "I") (by decide +kernel)) rfl rfl (by decide +kernel) rfl rfl dX4_fail_2 (fun I1 H locs eI1 g => ?_)
  have hI := hI.wr eI1 t_a0 (rfl : h_bd 5 2 = ((-2147483648), 2147483647)) (xi_lo _) (Int.le_of_lt_add_one (xi_hi _))
  have hF := hF.wr eI1 t_a0 rfl
  refine lv_aload_n hx hb dX4_fail_5 rfl (lv_at hl 0 rfl) ?_
  refine lv_aload_n hx hb dX4_fail_6 rfl (lv_at hl 0 rfl) ?_
  refine h_get (v := .int f0_5) hx hb hts iX4 hown g t_a0 (by decide) so_5 rfl 5 (by decide) (hts (.fieldLink RX4 84 "CapLeague$LawReader" "place" "I") (by decide +kernel)) rfl dX4_fail_7 (congrArg Value.int ((h_n2 eI1 (by decide)).trans (ef0_5.symm))) ?_
  refine h_putI (ty := .int) (v := f0_5) hx hb hts iX4 tyX4 tyX4_ok nmX4 hown g t_a0 (by decide) so_5 rfl 3 (by decide) rfl (hts (.fieldLink RX4 18 "CapLeague$LawReader" "faultPlace" "I") (by decide +kernel)) rfl rfl (by decide +kernel) rfl rfl dX4_fail_10 (fun I2 H locs eI2 g => ?_)
  have hI := hI.wr eI2 t_a0 (rfl : h_bd 5 3 = ((-2147483648), 2147483647)) (xi_lo _) (Int.le_of_lt_add_one (xi_hi _))
  have hF := hF.wr eI2 t_a0 rfl
  refine lv_iconst (v := 0) hx hb dX4_fail_13 (by decide) ?_
  have hS := g.2.1
  exact W.zret (v := 0) hx hb hr (by decide) (fun t ht hW => ⟨⟨0, I2, rfl, ⟨hI, hF, ⟨⟨(by decide), (by decide)⟩, (⟨(h_n2 eI2 (by decide)).trans (h_n0 eI1), (h_n0 eI2).trans ef0_5⟩)⟩⟩, h_ret g ht⟩, hS.F ht⟩) hS.2.2 dX4_fail_14
set_option maxHeartbeats 4000000 in
set_option maxRecDepth 100000 in
theorem tX4_isNumberForF (l : Launch) (E : tE) (X : tX) (A : Nat → Prop) (z : tZ) (I0 : tI) (L0 : tL) (a0 : Nat) (t_a0 : z.ty a0 = 5) (x : Int32) (x_t : Int) (h_x : x.toInt = x_t) (b_x : 0 ≤ x_t ∧ x_t ≤ 8) : Met l yX4_isNumberFor wsX4_isNumberFor ({ frames := 2, cells := 0, slots := 0, locals := 128 }) (va_Pc [.ref a0, .int x] (h_P E X A z I0 L0)) (va_Qi (fun r (I1 : tI) => h_I z I1 ∧ h_F [(5, 2), (5, 3)] z I0 I1 ∧ (0 ≤ r.toInt ∧ r.toInt ≤ 1) ∧ ((r.toInt = 1 ∧ (I0 a0 4).toInt = 2 ∧ q_lo x_t ≤ (I0 a0 7).toInt ∧ (I0 a0 7).toInt ≤ q_hi x_t ∧ I1 a0 2 = I0 a0 2 ∧ I1 a0 3 = I0 a0 3) ∨ (r.toInt = 0 ∧ (I0 a0 4).toInt ≠ 2 ∧ (I1 a0 2).toInt = 1 ∧ I1 a0 3 = I0 a0 5) ∨ (r.toInt = 0 ∧ (I0 a0 4).toInt = 2 ∧ ((I0 a0 7).toInt < q_lo x_t ∨ q_hi x_t < (I0 a0 7).toInt) ∧ (I1 a0 2).toInt = 2 ∧ I1 a0 3 = I0 a0 5))) (fun (I1 : tI) t => h_B E A z I1 L0 t) A) 0 0 A := by
  refine Met.ofW (cc := cX4_isNumberFor) (maxL := 2) (ret := (some .boolean)) (by decide) rfl ?_
  intro pr_ ev_ s m args below meth cd_ s₁ B hml hv
  obtain ⟨rfl, hE, hk, hX, hA, hK, hI, hR, hB0⟩ := hv
  have g : h_G h_so h_fk E A z I0 L0 s s.heap s.heap [] := ⟨hK, va_S.rf, hB0⟩
  have hF : h_F [(5, 2), (5, 3)] z I0 I0 := h_F.rf
  have hx := B.exec
  have hb := B.bytes
  have hr := B.returns
  have hts := atoms_spec (ws := wsX4_isNumberFor) B.pre
  have hown : s.vm.findClass RX4 = some m.cls := findClass_of_methodNamed B.named
  have hlocks := B.notSynchronized
  have iX4 : ∀ w ∈ u_ws RX4 TX4 9, w ∈ wsX4_isNumberFor := by decide +kernel
  have hl := lv_entry ([.ref a0, .int x]) (n := 2) (Nat.le_of_ble_eq_true rfl)
  rw [lg_entry_eq]
  generalize (lg_sl ([.ref a0, .int x]) ++ List.replicate (2 - (lg_sl ([.ref a0, .int x])).length) Slot.unset).toArray = ls at hl ⊢
  have hl : lv_has ls 2 [(0, .ref a0), (1, .int x)] := hl
  obtain ⟨f0_4, ef0_4⟩ : ∃ v : Int32, v = I0 a0 4 := ⟨_, rfl⟩
  have qf0_4 : (I0 a0 4).toInt = f0_4.toInt := congrArg Int32.toInt ef0_4.symm
  have jf0_4 := hI.rd a0 4 t_a0 ef0_4 (rfl : h_bd 5 4 = ((-2147483648), 2147483647))
  obtain ⟨f0_7, ef0_7⟩ : ∃ v : Int32, v = I0 a0 7 := ⟨_, rfl⟩
  have qf0_7 : (I0 a0 7).toInt = f0_7.toInt := congrArg Int32.toInt ef0_7.symm
  have jf0_7 := hI.rd a0 7 t_a0 ef0_7 (rfl : h_bd 5 7 = ((-2147483648), 2147483647))
  refine lv_aload_n hx hb dX4_isNumberFor_0 rfl (lv_at hl 0 rfl) ?_
  refine h_get (v := .int f0_4) hx hb hts iX4 hown g t_a0 (by decide) so_5 rfl 4 (by decide) (hts (.fieldLink RX4 43 "CapLeague$LawReader" "kind" "I") (by decide +kernel)) rfl dX4_isNumberFor_1 (congrArg Value.int (ef0_4.symm)) ?_
  refine lv_iconst (v := 2) hx hb dX4_isNumberFor_4 (by decide) ?_
  refine lv_icmp_eq (tgt := 14) hx hb dX4_isNumberFor_5 (by decide) (fun c1 => ?_) (fun c1 => ?_)
  · have ic1 := (xi_eq c1 rfl (by decide) : f0_4.toInt = 2)
    refine lv_iload_n hx hb dX4_isNumberFor_14 rfl (lv_at hl 1 rfl) ?_
    refine lv_if_lt (tgt := 48) hx hb dX4_isNumberFor_15 (by decide) (fun h => absurd (xi_lt h h_x (by decide) : x_t < 0) (by omega)) (fun c2 => ?_)
    have ic2 := (xi_nlt c2 h_x (by decide) : 0 ≤ x_t)
    refine lv_iload_n hx hb dX4_isNumberFor_18 rfl (lv_at hl 1 rfl) ?_
    refine lv_bipush (v := 8) hx hb dX4_isNumberFor_19 (by decide) ?_
    refine lv_icmp_gt (tgt := 48) hx hb dX4_isNumberFor_21 (by decide) (fun h => absurd (xi_lt h (by decide) h_x : 8 < x_t) (by omega)) (fun c3 => ?_)
    have ic3 := (xi_nlt c3 (by decide) h_x : x_t ≤ 8)
    refine lv_aload_n hx hb dX4_isNumberFor_24 rfl (lv_at hl 0 rfl) ?_
    refine h_get (v := .int f0_7) hx hb hts iX4 hown g t_a0 (by decide) so_5 rfl 7 (by decide) (hts (.fieldLink RX4 67 "CapLeague$LawReader" "value" "I") (by decide +kernel)) rfl dX4_isNumberFor_25 (congrArg Value.int (ef0_7.symm)) ?_
    refine va_getsN (C := RX11) (n := "LEAST") (d := "[I") (ref := RX11) (host := RX11) hx hb hX.2.1.1 g.2.1 hown (va_Nw.use rfl hk.2.1) (fun _ h => h) dX4_isNumberFor_28 ?_
    refine lv_iload_n hx hb dX4_isNumberFor_31 rfl (lv_at hl 1 rfl) ?_
    refine va_ti hx hb hX.2.1.2 g.2.1 (xi_in (by rw [h_x]; omega) (by rw [h_x]; omega)) rfl dX4_isNumberFor_32 ?_
    refine lv_topi (fun v4 ev4 => ?_)
    have jv4 : -2147483648 ≤ v4.toInt ∧ v4.toInt ≤ 2147483647 := ⟨xi_lo _, Int.le_of_lt_add_one (xi_hi _)⟩
    have mv4 : v4.toInt = q_lo x_t := by rw [ev4, h_keq (i := x) (t := x_t) (k := x_t.toNat) h_x (by omega) (by omega)]; rfl
    refine lv_icmp_lt (tgt := 48) hx hb dX4_isNumberFor_33 (by decide) (fun c5 => ?_) (fun c5 => ?_)
    · have ic5 := (xi_lt c5 rfl rfl : f0_7.toInt < v4.toInt)
      refine lv_aload_n hx hb dX4_isNumberFor_48 rfl (lv_at hl 0 rfl) ?_
      refine lv_iconst (v := 2) hx hb dX4_isNumberFor_49 (by decide) ?_
      refine va_calli (va_runV (As := [.int 2]) (rest := []) ⟨hx, hb, hml, hown, hts⟩ (tX4_failF l E X A z I0 L0 a0 t_a0 2 (2) (by decide)) (cwV 1 hts gX4_isNumberFor_X4_fail rfl rfl rfl (by decide +kernel) ⟨Nat.le_of_ble_eq_true rfl, Nat.le_of_ble_eq_true rfl⟩) ⟨h_blind _ _ _ _ _ _ _, h_recv g t_a0 (by decide) so_5 (q := (RX4, TX4, 9)) rfl, h_pre _ hE hk hX hA hI hR g⟩ rfl rfl hl.1 rfl (lv_room (Nat.le_of_ble_eq_true rfl)) dX4_isNumberFor_50 ⟨Nat.le_of_ble_eq_true rfl, Nat.le_of_ble_eq_true rfl⟩) g.2.1 (fun q _ h => h) (fun q h => h) (fun rh6 I7 t H1 locs ht hvm h6 hB hz1 hk1 hS => ?_)
      obtain ⟨hI, fh6, h6⟩ := h6
      replace g := h_after g hB ht hS
      generalize H1 = H at g
      clear hB hk1 hz1 ht hvm hS
      have hF := hF.call fh6 rfl
      obtain ⟨h6, h6p0⟩ := h6
      have hS := g.2.1
      exact W.zret (v := rh6) hx hb hr (h_nb (by omega) (by omega)).1 (fun t ht hW => ⟨⟨rh6, I7, rfl, ⟨hI, hF, ⟨⟨(by omega), (by omega)⟩, (by rw [qf0_4, qf0_7]; exact Or.inr (Or.inr ⟨by omega, by omega, by omega, by rw [h6p0.1]; decide, h6p0.2⟩))⟩⟩, h_ret g ht⟩, hS.F ht⟩) hS.2.2 dX4_isNumberFor_53
    · have ic5 := (xi_nlt c5 rfl rfl : v4.toInt ≤ f0_7.toInt)
      refine lv_aload_n hx hb dX4_isNumberFor_36 rfl (lv_at hl 0 rfl) ?_
      refine h_get (v := .int f0_7) hx hb hts iX4 hown g t_a0 (by decide) so_5 rfl 7 (by decide) (hts (.fieldLink RX4 67 "CapLeague$LawReader" "value" "I") (by decide +kernel)) rfl dX4_isNumberFor_37 (congrArg Value.int (ef0_7.symm)) ?_
      refine va_getsN (C := RX11) (n := "MOST") (d := "[I") (ref := RX11) (host := RX11) hx hb hX.2.2.1.1 g.2.1 hown (va_Nw.use rfl hk.2.2) (fun _ h => h) dX4_isNumberFor_40 ?_
      refine lv_iload_n hx hb dX4_isNumberFor_43 rfl (lv_at hl 1 rfl) ?_
      refine va_ti hx hb hX.2.2.1.2 g.2.1 (xi_in (by rw [h_x]; omega) (by rw [h_x]; omega)) rfl dX4_isNumberFor_44 ?_
      refine lv_topi (fun v8 ev8 => ?_)
      have jv8 : -2147483648 ≤ v8.toInt ∧ v8.toInt ≤ 2147483647 := ⟨xi_lo _, Int.le_of_lt_add_one (xi_hi _)⟩
      have mv8 : v8.toInt = q_hi x_t := by rw [ev8, h_keq (i := x) (t := x_t) (k := x_t.toNat) h_x (by omega) (by omega)]; rfl
      refine lv_icmp_le (tgt := 54) hx hb dX4_isNumberFor_45 (by decide) (fun c9 => ?_) (fun c9 => ?_)
      · have ic9 := (xi_le c9 rfl rfl : f0_7.toInt ≤ v8.toInt)
        refine lv_iconst (v := 1) hx hb dX4_isNumberFor_54 (by decide) ?_
        have hS := g.2.1
        exact W.zret (v := 1) hx hb hr (by decide) (fun t ht hW => ⟨⟨1, I0, rfl, ⟨hI, hF, ⟨⟨(by decide), (by decide)⟩, (by rw [qf0_4, qf0_7]; exact Or.inl ⟨by decide, by omega, by omega, by omega, rfl, rfl⟩)⟩⟩, h_ret g ht⟩, hS.F ht⟩) hS.2.2 dX4_isNumberFor_55
      · have ic9 := (xi_nle c9 rfl rfl : v8.toInt < f0_7.toInt)
        refine lv_aload_n hx hb dX4_isNumberFor_48 rfl (lv_at hl 0 rfl) ?_
        refine lv_iconst (v := 2) hx hb dX4_isNumberFor_49 (by decide) ?_
        refine va_calli (va_runV (As := [.int 2]) (rest := []) ⟨hx, hb, hml, hown, hts⟩ (tX4_failF l E X A z I0 L0 a0 t_a0 2 (2) (by decide)) (cwV 1 hts gX4_isNumberFor_X4_fail rfl rfl rfl (by decide +kernel) ⟨Nat.le_of_ble_eq_true rfl, Nat.le_of_ble_eq_true rfl⟩) ⟨h_blind _ _ _ _ _ _ _, h_recv g t_a0 (by decide) so_5 (q := (RX4, TX4, 9)) rfl, h_pre _ hE hk hX hA hI hR g⟩ rfl rfl hl.1 rfl (lv_room (Nat.le_of_ble_eq_true rfl)) dX4_isNumberFor_50 ⟨Nat.le_of_ble_eq_true rfl, Nat.le_of_ble_eq_true rfl⟩) g.2.1 (fun q _ h => h) (fun q h => h) (fun rh10 I11 t H1 locs ht hvm h10 hB hz1 hk1 hS => ?_)
        obtain ⟨hI, fh10, h10⟩ := h10
        replace g := h_after g hB ht hS
        generalize H1 = H at g
        clear hB hk1 hz1 ht hvm hS
        have hF := hF.call fh10 rfl
        obtain ⟨h10, h10p0⟩ := h10
        have hS := g.2.1
        exact W.zret (v := rh10) hx hb hr (h_nb (by omega) (by omega)).1 (fun t ht hW => ⟨⟨rh10, I11, rfl, ⟨hI, hF, ⟨⟨(by omega), (by omega)⟩, (by rw [qf0_4, qf0_7]; exact Or.inr (Or.inr ⟨by omega, by omega, by omega, by rw [h10p0.1]; decide, h10p0.2⟩))⟩⟩, h_ret g ht⟩, hS.F ht⟩) hS.2.2 dX4_isNumberFor_53
  · have ic1 := (xi_ne c1 rfl (by decide) : f0_4.toInt ≠ 2)
    refine lv_aload_n hx hb dX4_isNumberFor_8 rfl (lv_at hl 0 rfl) ?_
    refine lv_iconst (v := 1) hx hb dX4_isNumberFor_9 (by decide) ?_
    refine va_calli (va_runV (As := [.int 1]) (rest := []) ⟨hx, hb, hml, hown, hts⟩ (tX4_failF l E X A z I0 L0 a0 t_a0 1 (1) (by decide)) (cwV 1 hts gX4_isNumberFor_X4_fail rfl rfl rfl (by decide +kernel) ⟨Nat.le_of_ble_eq_true rfl, Nat.le_of_ble_eq_true rfl⟩) ⟨h_blind _ _ _ _ _ _ _, h_recv g t_a0 (by decide) so_5 (q := (RX4, TX4, 9)) rfl, h_pre _ hE hk hX hA hI hR g⟩ rfl rfl hl.1 rfl (lv_room (Nat.le_of_ble_eq_true rfl)) dX4_isNumberFor_10 ⟨Nat.le_of_ble_eq_true rfl, Nat.le_of_ble_eq_true rfl⟩) g.2.1 (fun q _ h => h) (fun q h => h) (fun rh12 I13 t H1 locs ht hvm h12 hB hz1 hk1 hS => ?_)
    obtain ⟨hI, fh12, h12⟩ := h12
    replace g := h_after g hB ht hS
    generalize H1 = H at g
    clear hB hk1 hz1 ht hvm hS
    have hF := hF.call fh12 rfl
    obtain ⟨h12, h12p0⟩ := h12
    have hS := g.2.1
    exact W.zret (v := rh12) hx hb hr (h_nb (by omega) (by omega)).1 (fun t ht hW => ⟨⟨rh12, I13, rfl, ⟨hI, hF, ⟨⟨(by omega), (by omega)⟩, (by rw [qf0_4, qf0_7]; exact Or.inr (Or.inl ⟨by omega, by omega, by rw [h12p0.1]; decide, h12p0.2⟩))⟩⟩, h_ret g ht⟩, hS.F ht⟩) hS.2.2 dX4_isNumberFor_13
set_option maxHeartbeats 4000000 in
set_option maxRecDepth 100000 in
theorem tX5_putF (l : Launch) (E : tE) (X : tX) (A : Nat → Prop) (z : tZ) (I0 : tI) (L0 : tL) (a0 : Nat) (t_a0 : z.ty a0 = 6) (x : Int32) (x_t : Int) (h_x : x.toInt = x_t) (b_x : 0 ≤ x_t ∧ x_t ≤ 7) (y : Int32) (y_t : Int) (h_y : y.toInt = y_t) : Met l yX5_put wsX5_put ({ frames := 1, cells := 0, slots := 0, locals := 64 }) (va_Pc [.ref a0, .int x, .int y] (h_P E X A z I0 L0)) (va_Qv (fun (I1 : tI) => h_I z I1 ∧ h_F [(600, 999)] z I0 I1 ∧ (I1 = h_up I0 (h_ad z a0 0) x_t.toNat y)) (fun (I1 : tI) t => h_B E A z I1 L0 t) A) 0 0 A := by
  refine Met.ofW (cc := cX5_put) (maxL := 3) (ret := none) (by decide) rfl ?_
  intro pr_ ev_ s m args below meth cd_ s₁ B hml hv
  obtain ⟨rfl, hE, hk, hX, hA, hK, hI, hR, hB0⟩ := hv
  have g : h_G h_so h_fk E A z I0 L0 s s.heap s.heap [] := ⟨hK, va_S.rf, hB0⟩
  have hF : h_F [(600, 999)] z I0 I0 := h_F.rf
  have hx := B.exec
  have hb := B.bytes
  have hr := B.returns
  have hts := atoms_spec (ws := wsX5_put) B.pre
  have hown : s.vm.findClass RX5 = some m.cls := findClass_of_methodNamed B.named
  have hlocks := B.notSynchronized
  have iX5 : ∀ w ∈ u_ws RX5 TX5 3, w ∈ wsX5_put := by decide +kernel
  have hl := lv_entry ([.ref a0, .int x, .int y]) (n := 3) (Nat.le_of_ble_eq_true rfl)
  rw [lg_entry_eq]
  generalize (lg_sl ([.ref a0, .int x, .int y]) ++ List.replicate (3 - (lg_sl ([.ref a0, .int x, .int y])).length) Slot.unset).toArray = ls at hl ⊢
  have hl : lv_has ls 3 [(0, .ref a0), (1, .int x), (2, .int y)] := hl
  have b_y : -2147483648 ≤ y_t ∧ y_t ≤ 2147483647 := h_y ▸ ⟨xi_lo y, Int.le_of_lt_add_one (xi_hi y)⟩
  obtain ⟨nu, rnu, tnu⟩ := hR.at a0 0 t_a0 (rfl : h_rs 6 0 = some (600, false)) (by decide)
  have anu : h_ad z a0 0 = nu := h_ad.at rnu
  refine lv_iload_n hx hb dX5_put_0 rfl (lv_at hl 1 rfl) ?_
  refine lv_if_lt (tgt := 17) hx hb dX5_put_1 (by decide) (fun h => absurd (xi_lt h h_x (by decide) : x_t < 0) (by omega)) (fun c1 => ?_)
  have ic1 := (xi_nlt c1 h_x (by decide) : 0 ≤ x_t)
  refine lv_iload_n hx hb dX5_put_4 rfl (lv_at hl 1 rfl) ?_
  refine lv_bipush (v := 8) hx hb dX5_put_5 (by decide) ?_
  refine lv_icmp_ge (tgt := 17) hx hb dX5_put_7 (by decide) (fun h => absurd (xi_le h (by decide) h_x : 8 ≤ x_t) (by omega)) (fun c2 => ?_)
  have ic2 := (xi_nle c2 (by decide) h_x : x_t < 8)
  refine lv_aload_n hx hb dX5_put_10 rfl (lv_at hl 0 rfl) ?_
  refine h_get (v := .ref nu) hx hb hts iX5 hown g t_a0 (by decide) so_6 rfl 0 (by decide) (hts (.fieldLink RX5 9 "CapLeague$Laws" "numbers" "[I") (by decide +kernel)) rfl dX5_put_11 (by show va_rf (z.R a0 0) = _; rw [rnu]; rfl) ?_
  refine lv_iload_n hx hb dX5_put_14 rfl (lv_at hl 1 rfl) ?_
  refine lv_iload_n hx hb dX5_put_15 rfl (lv_at hl 2 rfl) ?_
  refine h_ast hx hb g tnu (by decide) so_600 (xi_in (by rw [h_x]; omega) (by rw [h_x]; omega)) dX5_put_16 (fun I3 H locs eI3 g => ?_)
  have hI := hI.wr eI3 tnu (rfl : h_bd 600 _ = ((-2147483648), 2147483647)) (xi_lo _) (Int.le_of_lt_add_one (xi_hi _))
  have hF := hF.wr eI3 tnu rfl
  have hS := g.2.1
  exact W.vret hx hb hr (fun t ht hW => ⟨⟨I3, rfl, ⟨hI, hF, (by rw [anu, ← h_keq (i := x) (t := x_t) (k := x_t.toNat) h_x (by omega) (by omega)]; exact eI3)⟩, h_ret g ht⟩, hS.F ht⟩) hS.2.2 dX5_put_17
set_option maxHeartbeats 4000000 in
set_option maxRecDepth 100000 in
theorem tX5_putLotF (l : Launch) (E : tE) (X : tX) (A : Nat → Prop) (z : tZ) (I0 : tI) (L0 : tL) (a0 : Nat) (t_a0 : z.ty a0 = 6) (x : Int32) (x_t : Int) (h_x : x.toInt = x_t) (b_x : 0 ≤ x_t ∧ x_t ≤ 5) (y : Int32) (y_t : Int) (h_y : y.toInt = y_t) : Met l yX5_putLot wsX5_putLot ({ frames := 1, cells := 0, slots := 0, locals := 64 }) (va_Pc [.ref a0, .int x, .int y] (h_P E X A z I0 L0)) (va_Qv (fun (I1 : tI) => h_I z I1 ∧ h_F [(601, 999), (6, 2)] z I0 I1 ∧ (∃ (J : tI) (c : Int32), J = h_up I0 (h_ad z a0 1) x_t.toNat y ∧ I1 = h_up J a0 2 c ∧ c.toInt = x_t + 1)) (fun (I1 : tI) t => h_B E A z I1 L0 t) A) 0 0 A := by
  refine Met.ofW (cc := cX5_putLot) (maxL := 3) (ret := none) (by decide) rfl ?_
  intro pr_ ev_ s m args below meth cd_ s₁ B hml hv
  obtain ⟨rfl, hE, hk, hX, hA, hK, hI, hR, hB0⟩ := hv
  have g : h_G h_so h_fk E A z I0 L0 s s.heap s.heap [] := ⟨hK, va_S.rf, hB0⟩
  have hF : h_F [(601, 999), (6, 2)] z I0 I0 := h_F.rf
  have hx := B.exec
  have hb := B.bytes
  have hr := B.returns
  have hts := atoms_spec (ws := wsX5_putLot) B.pre
  have hown : s.vm.findClass RX5 = some m.cls := findClass_of_methodNamed B.named
  have hlocks := B.notSynchronized
  have iX5 : ∀ w ∈ u_ws RX5 TX5 3, w ∈ wsX5_putLot := by decide +kernel
  have hl := lv_entry ([.ref a0, .int x, .int y]) (n := 3) (Nat.le_of_ble_eq_true rfl)
  rw [lg_entry_eq]
  generalize (lg_sl ([.ref a0, .int x, .int y]) ++ List.replicate (3 - (lg_sl ([.ref a0, .int x, .int y])).length) Slot.unset).toArray = ls at hl ⊢
  have hl : lv_has ls 3 [(0, .ref a0), (1, .int x), (2, .int y)] := hl
  have b_y : -2147483648 ≤ y_t ∧ y_t ≤ 2147483647 := h_y ▸ ⟨xi_lo y, Int.le_of_lt_add_one (xi_hi y)⟩
  obtain ⟨lo, rlo, tlo⟩ := hR.at a0 1 t_a0 (rfl : h_rs 6 1 = some (601, false)) (by decide)
  have alo : h_ad z a0 1 = lo := h_ad.at rlo
  refine lv_iload_n hx hb dX5_putLot_0 rfl (lv_at hl 1 rfl) ?_
  refine lv_if_lt (tgt := 24) hx hb dX5_putLot_1 (by decide) (fun h => absurd (xi_lt h h_x (by decide) : x_t < 0) (by omega)) (fun c1 => ?_)
  have ic1 := (xi_nlt c1 h_x (by decide) : 0 ≤ x_t)
  refine lv_iload_n hx hb dX5_putLot_4 rfl (lv_at hl 1 rfl) ?_
  refine lv_bipush (v := 6) hx hb dX5_putLot_5 (by decide) ?_
  refine lv_icmp_ge (tgt := 24) hx hb dX5_putLot_7 (by decide) (fun h => absurd (xi_le h (by decide) h_x : 6 ≤ x_t) (by omega)) (fun c2 => ?_)
  have ic2 := (xi_nle c2 (by decide) h_x : x_t < 6)
  refine lv_aload_n hx hb dX5_putLot_10 rfl (lv_at hl 0 rfl) ?_
  refine h_get (v := .ref lo) hx hb hts iX5 hown g t_a0 (by decide) so_6 rfl 1 (by decide) (hts (.fieldLink RX5 15 "CapLeague$Laws" "lots" "[I") (by decide +kernel)) rfl dX5_putLot_11 (by show va_rf (z.R a0 1) = _; rw [rlo]; rfl) ?_
  refine lv_iload_n hx hb dX5_putLot_14 rfl (lv_at hl 1 rfl) ?_
  refine lv_iload_n hx hb dX5_putLot_15 rfl (lv_at hl 2 rfl) ?_
  refine h_ast hx hb g tlo (by decide) so_601 (xi_in (by rw [h_x]; omega) (by rw [h_x]; omega)) dX5_putLot_16 (fun I3 H locs eI3 g => ?_)
  have hI := hI.wr eI3 tlo (rfl : h_bd 601 _ = ((-2147483648), 2147483647)) (xi_lo _) (Int.le_of_lt_add_one (xi_hi _))
  have hF := hF.wr eI3 tlo rfl
  refine lv_aload_n hx hb dX5_putLot_17 rfl (lv_at hl 0 rfl) ?_
  refine lv_iload_n hx hb dX5_putLot_18 rfl (lv_at hl 1 rfl) ?_
  refine lv_iconst (v := 1) hx hb dX5_putLot_19 (by decide) ?_
  refine lv_iadd hx hb dX5_putLot_20 ?_
  refine lv_topi (fun v4 ev4 => ?_)
  have jv4 : v4.toInt = x_t + 1 := xi_add ev4 h_x (by decide) (by omega) (by omega)
  refine h_putI (ty := .int) (v := v4) hx hb hts iX5 tyX5 tyX5_ok nmX5 hown g t_a0 (by decide) so_6 rfl 2 (by decide) rfl (hts (.fieldLink RX5 30 "CapLeague$Laws" "lotCount" "I") (by decide +kernel)) rfl rfl (by decide +kernel) rfl rfl dX5_putLot_21 (fun I5 H locs eI5 g => ?_)
  have hI := hI.wr eI5 t_a0 (rfl : h_bd 6 2 = (0, 6)) (by omega) (by omega)
  have hF := hF.wr eI5 t_a0 rfl
  have hS := g.2.1
  exact W.vret hx hb hr (fun t ht hW => ⟨⟨I5, rfl, ⟨hI, hF, (⟨I3, v4, by rw [alo, ← h_keq (i := x) (t := x_t) (k := x_t.toNat) h_x (by omega) (by omega)]; exact eI3, eI5, by omega⟩)⟩, h_ret g ht⟩, hS.F ht⟩) hS.2.2 dX5_putLot_24
set_option maxHeartbeats 4000000 in
set_option maxRecDepth 100000 in
theorem tX4_readNumbersF (l : Launch) (E : tE) (X : tX) (A : Nat → Prop) (z : tZ) (I0 : tI) (L0 : tL) (a0 : Nat) (t_a0 : z.ty a0 = 5) (x : Int32) (x_t : Int) (h_x : x.toInt = x_t) (b_x : 0 ≤ x_t ∧ x_t ≤ 7) (u_ : Nat → Int) (hu : h_lw I0 (h_ad z a0 1) (h_ad z (h_ad z a0 1) 0) (h_ad z (h_ad z a0 1) 1) u_) (hp : 0 ≤ (I0 a0 6).toInt ∧ (I0 a0 6).toInt ≤ 500) : Met l yX4_readNumbers wsX4_readNumbers ({ frames := 4, cells := 0, slots := 0, locals := 256 }) (va_Pc [.ref a0, .int x] (h_P E X A z I0 L0)) (va_Qi (fun r (I1 : tI) => h_I z I1 ∧ h_F [(5, 4), (5, 5), (5, 6), (5, 7), (5, 2), (5, 3), (600, 999)] z I0 I1 ∧ (0 ≤ r.toInt ∧ r.toInt ≤ 1) ∧ ((r.toInt = 1 ∧ (q_ns (q_at (I0 (h_ad z (h_ad z a0 0) 0)) (I0 (h_ad z a0 0) 1).toInt) (q_rw x_t (q_last x_t)) (I0 a0 6).toInt u_).1 = 0 ∧ (I1 a0 6).toInt = (q_ns (q_at (I0 (h_ad z (h_ad z a0 0) 0)) (I0 (h_ad z a0 0) 1).toInt) (q_rw x_t (q_last x_t)) (I0 a0 6).toInt u_).2.2.1 ∧ h_lw I1 (h_ad z a0 1) (h_ad z (h_ad z a0 1) 0) (h_ad z (h_ad z a0 1) 1) (q_ns (q_at (I0 (h_ad z (h_ad z a0 0) 0)) (I0 (h_ad z a0 0) 1).toInt) (q_rw x_t (q_last x_t)) (I0 a0 6).toInt u_).2.2.2 ∧ I1 a0 2 = I0 a0 2 ∧ I1 a0 3 = I0 a0 3 ∧ (I0 a0 6).toInt < (I1 a0 6).toInt ∧ (I1 a0 6).toInt ≤ 500) ∨ (r.toInt = 0 ∧ (q_ns (q_at (I0 (h_ad z (h_ad z a0 0) 0)) (I0 (h_ad z a0 0) 1).toInt) (q_rw x_t (q_last x_t)) (I0 a0 6).toInt u_).1 ≠ 0 ∧ (I1 a0 2).toInt = (q_ns (q_at (I0 (h_ad z (h_ad z a0 0) 0)) (I0 (h_ad z a0 0) 1).toInt) (q_rw x_t (q_last x_t)) (I0 a0 6).toInt u_).1 ∧ (I1 a0 3).toInt = (q_ns (q_at (I0 (h_ad z (h_ad z a0 0) 0)) (I0 (h_ad z a0 0) 1).toInt) (q_rw x_t (q_last x_t)) (I0 a0 6).toInt u_).2.1)) ∧ (h_ap z I0 I1 (h_ad z a0 1) (h_ad z (h_ad z a0 1) 0) (h_ad z (h_ad z a0 1) 1))) (fun (I1 : tI) t => h_B E A z I1 L0 t) A) 0 0 A := by
  refine Met.ofW (cc := cX4_readNumbers) (maxL := 4) (ret := (some .boolean)) (by decide) rfl ?_
  intro pr_ ev_ s m args below meth cd_ s₁ B hml hv
  obtain ⟨rfl, hE, hk, hX, hA, hK, hI, hR, hB0⟩ := hv
  have g : h_G h_so h_fk E A z I0 L0 s s.heap s.heap [] := ⟨hK, va_S.rf, hB0⟩
  have hF : h_F [(5, 4), (5, 5), (5, 6), (5, 7), (5, 2), (5, 3), (600, 999)] z I0 I0 := h_F.rf
  have hx := B.exec
  have hb := B.bytes
  have hr := B.returns
  have hts := atoms_spec (ws := wsX4_readNumbers) B.pre
  have hown : s.vm.findClass RX4 = some m.cls := findClass_of_methodNamed B.named
  have hlocks := B.notSynchronized
  have iX4 : ∀ w ∈ u_ws RX4 TX4 9, w ∈ wsX4_readNumbers := by decide +kernel
  have hl := lv_entry ([.ref a0, .int x]) (n := 4) (Nat.le_of_ble_eq_true rfl)
  rw [lg_entry_eq]
  generalize (lg_sl ([.ref a0, .int x]) ++ List.replicate (4 - (lg_sl ([.ref a0, .int x])).length) Slot.unset).toArray = ls at hl ⊢
  have hl : lv_has ls 4 [(0, .ref a0), (1, .int x)] := hl
  obtain ⟨tp, rtp, ttp⟩ := hR.at a0 0 t_a0 (rfl : h_rs 5 0 = some (9, false)) (by decide)
  have atp : h_ad z a0 0 = tp := h_ad.at rtp
  obtain ⟨bt, rbt, tbt⟩ := hR.at tp 0 ttp (rfl : h_rs 9 0 = some (900, false)) (by decide)
  have abt : h_ad z tp 0 = bt := h_ad.at rbt
  obtain ⟨n_1, en_1⟩ : ∃ v : Int32, v = I0 tp 1 := ⟨_, rfl⟩
  have qn_1 : (I0 tp 1).toInt = n_1.toInt := congrArg Int32.toInt en_1.symm
  have jn_1 := hI.rd tp 1 ttp en_1 (rfl : h_bd 9 1 = (0, 500))
  obtain ⟨gb, egb⟩ : ∃ g : Int → Int, g = q_at (I0 bt) (I0 tp 1).toInt := ⟨_, rfl⟩
  obtain ⟨f0_6, ef0_6⟩ : ∃ v : Int32, v = I0 a0 6 := ⟨_, rfl⟩
  have qf0_6 : (I0 a0 6).toInt = f0_6.toInt := congrArg Int32.toInt ef0_6.symm
  have jf0_6 := hI.rd a0 6 t_a0 ef0_6 (rfl : h_bd 5 6 = ((-2147483648), 2147483647))
  obtain ⟨f0_2, ef0_2⟩ : ∃ v : Int32, v = I0 a0 2 := ⟨_, rfl⟩
  have qf0_2 : (I0 a0 2).toInt = f0_2.toInt := congrArg Int32.toInt ef0_2.symm
  have jf0_2 := hI.rd a0 2 t_a0 ef0_2 (rfl : h_bd 5 2 = ((-2147483648), 2147483647))
  obtain ⟨f0_3, ef0_3⟩ : ∃ v : Int32, v = I0 a0 3 := ⟨_, rfl⟩
  have qf0_3 : (I0 a0 3).toInt = f0_3.toInt := congrArg Int32.toInt ef0_3.symm
  have jf0_3 := hI.rd a0 3 t_a0 ef0_3 (rfl : h_bd 5 3 = ((-2147483648), 2147483647))
  obtain ⟨rd, rrd, trd⟩ := hR.at a0 1 t_a0 (rfl : h_rs 5 1 = some (6, false)) (by decide)
  have ard : h_ad z a0 1 = rd := h_ad.at rrd
  obtain ⟨nu, rnu, tnu⟩ := hR.at rd 0 trd (rfl : h_rs 6 0 = some (600, false)) (by decide)
  have anu : h_ad z rd 0 = nu := h_ad.at rnu
  obtain ⟨lo, rlo, tlo⟩ := hR.at rd 1 trd (rfl : h_rs 6 1 = some (601, false)) (by decide)
  have alo : h_ad z rd 1 = lo := h_ad.at rlo
  rw [ard, anu, alo] at hu
  have hlw := hu
  have hap : h_ap z I0 I0 rd nu lo := h_ap.rf
  rw [qf0_6] at hp
  refine lv_iload_n hx hb dX4_readNumbers_0 rfl (lv_at hl 1 rfl) ?_
  refine lv_iconst (v := 4) hx hb dX4_readNumbers_1 (by decide) ?_
  refine lv_icmp_ne (tgt := 9) hx hb dX4_readNumbers_2 (by decide) (fun c1 => ?_) (fun c1 => ?_)
  · have ic1 := (xi_ne c1 h_x (by decide) : x_t ≠ 4)
    refine lv_iload_n hx hb dX4_readNumbers_9 rfl (lv_at hl 1 rfl) ?_
    refine lv_istore_n (lv' := [(2, .int x), (0, .ref a0), (1, .int x)]) hx hb dX4_readNumbers_10 rfl hl (by decide) rfl (fun ls hl => ?_)
    refine lv_iload_n hx hb dX4_readNumbers_11 rfl (lv_at hl 2 rfl) ?_
    refine lv_istore_n (lv' := [(3, .int x), (2, .int x), (0, .ref a0), (1, .int x)]) hx hb dX4_readNumbers_12 rfl hl (by decide) rfl (fun ls hl => ?_)
    have loop13_0 : ∀ (n : Nat) (I3 : tI) (H : Heap) (locs : List Loc) (ls : Array Slot) (v2 : Int32) (u4 : Nat → Int), h_G h_so h_fk E A z I3 L0 s s.heap H locs → h_I z I3 → h_F [(5, 4), (5, 5), (5, 6), (5, 7), (5, 2), (5, 3), (600, 999)] z I0 I3 → lv_has ls 4 [(0, .ref a0), (2, .int x), (3, .int v2)] → (0 ≤ v2.toInt ∧ v2.toInt ≤ 8) → (0 ≤ (I3 a0 6).toInt ∧ (I3 a0 6).toInt ≤ 500 ∧ f0_6.toInt ≤ (I3 a0 6).toInt ∧ x.toInt ≤ v2.toInt + 1) → (q_ns gb (q_rw x_t (q_last x_t)) f0_6.toInt u_ = q_ns gb (q_rw v2.toInt x.toInt) (I3 a0 6).toInt u4) → (I3 a0 2 = I0 a0 2 ∧ I3 a0 3 = I0 a0 3) → (h_lw I3 rd nu lo u4) → (h_ap z I0 I3 rd nu lo) → (9 - v2.toInt) < (n : Int) → W pr_ l ev_ (headSpec wsX4_readNumbers ({ frames := 4, cells := 0, slots := 0, locals := 256 })).room s m ([.ref a0, .int x] : List Value).toArray below meth cd_ H locs 0 0 (MQ below (va_Qi (fun r (I1 : tI) => h_I z I1 ∧ h_F [(5, 4), (5, 5), (5, 6), (5, 7), (5, 2), (5, 3), (600, 999)] z I0 I1 ∧ (0 ≤ r.toInt ∧ r.toInt ≤ 1) ∧ ((r.toInt = 1 ∧ (q_ns (q_at (I0 (h_ad z (h_ad z a0 0) 0)) (I0 (h_ad z a0 0) 1).toInt) (q_rw x_t (q_last x_t)) (I0 a0 6).toInt u_).1 = 0 ∧ (I1 a0 6).toInt = (q_ns (q_at (I0 (h_ad z (h_ad z a0 0) 0)) (I0 (h_ad z a0 0) 1).toInt) (q_rw x_t (q_last x_t)) (I0 a0 6).toInt u_).2.2.1 ∧ h_lw I1 (h_ad z a0 1) (h_ad z (h_ad z a0 1) 0) (h_ad z (h_ad z a0 1) 1) (q_ns (q_at (I0 (h_ad z (h_ad z a0 0) 0)) (I0 (h_ad z a0 0) 1).toInt) (q_rw x_t (q_last x_t)) (I0 a0 6).toInt u_).2.2.2 ∧ I1 a0 2 = I0 a0 2 ∧ I1 a0 3 = I0 a0 3 ∧ (I0 a0 6).toInt < (I1 a0 6).toInt ∧ (I1 a0 6).toInt ≤ 500) ∨ (r.toInt = 0 ∧ (q_ns (q_at (I0 (h_ad z (h_ad z a0 0) 0)) (I0 (h_ad z a0 0) 1).toInt) (q_rw x_t (q_last x_t)) (I0 a0 6).toInt u_).1 ≠ 0 ∧ (I1 a0 2).toInt = (q_ns (q_at (I0 (h_ad z (h_ad z a0 0) 0)) (I0 (h_ad z a0 0) 1).toInt) (q_rw x_t (q_last x_t)) (I0 a0 6).toInt u_).1 ∧ (I1 a0 3).toInt = (q_ns (q_at (I0 (h_ad z (h_ad z a0 0) 0)) (I0 (h_ad z a0 0) 1).toInt) (q_rw x_t (q_last x_t)) (I0 a0 6).toInt u_).2.1)) ∧ (h_ap z I0 I1 (h_ad z a0 1) (h_ad z (h_ad z a0 1) 0) (h_ad z (h_ad z a0 1) 1))) (fun (I1 : tI) t => h_B E A z I1 L0 t) A) ([.ref a0, .int x] : List Value).toArray s 0 0 A) (F0 m 13 ls []) := by
      intro n
      induction n with
      | zero => intro I3 H locs ls v2 u4 g hI hF hl jv2 hx13_0 hx13_1 hx13_2 hlw hap hn; exact absurd hn (by omega)
      | succ n ih13 =>
        intro I3 H locs ls v2 u4 g hI hF hl jv2 hx13_0 hx13_1 hx13_2 hlw hap hn
        obtain ⟨v5, ev5⟩ : ∃ v : Int32, v = I3 a0 6 := ⟨_, rfl⟩
        rw [← ev5] at hx13_0 hx13_1
        have jv5 := hI.rd a0 6 t_a0 ev5 (rfl : h_bd 5 6 = ((-2147483648), 2147483647))
        refine lv_iload_n hx hb dX4_readNumbers_13 rfl (lv_at hl 2 rfl) ?_
        refine lv_iload_n hx hb dX4_readNumbers_14 rfl (lv_at hl 1 rfl) ?_
        refine lv_icmp_gt (tgt := 50) hx hb dX4_readNumbers_15 (by decide) (fun c6 => ?_) (fun c6 => ?_)
        · have ic6 := (xi_lt c6 h_x rfl : x_t < v2.toInt)
          refine lv_aload_n hx hb dX4_readNumbers_50 rfl (lv_at hl 0 rfl) ?_
          have hFo := hF
          refine va_callv (va_runV (As := []) (rest := []) ⟨hx, hb, hml, hown, hts⟩ (tX4_readTokenF l E X A z I3 L0 a0 t_a0 (by rw [show I3 a0 6 = v5 from ev5.symm]; omega)) (cwV 0 hts gX4_readNumbers_X4_readToken rfl rfl rfl (by decide +kernel) ⟨Nat.le_of_ble_eq_true rfl, Nat.le_of_ble_eq_true rfl⟩) ⟨h_blind _ _ _ _ _ _ _, h_recv g t_a0 (by decide) so_5 (q := (RX4, TX4, 9)) rfl, h_pre _ hE hk hX hA hI hR g⟩ rfl rfl hl.1 rfl (lv_room (Nat.le_of_ble_eq_true rfl)) dX4_readNumbers_51 ⟨Nat.le_of_ble_eq_true rfl, Nat.le_of_ble_eq_true rfl⟩) g.2.1 (fun q _ h => h) (fun q h => h) (fun I8 t H1 locs ht hvm h7 hB hz1 hk1 hS => ?_)
          obtain ⟨hI, fh7, h7⟩ := h7
          replace g := h_after g hB ht hS
          generalize H1 = H at g
          clear hB hk1 hz1 ht hvm hS
          have hF := hF.call fh7 rfl
          obtain ⟨h7p0, h7p1, h7p2, h7p3, h7p4, h7p5⟩ := h7
          have hlw : h_lw I8 rd nu lo u4 := hlw.c (fun i => fh7.at tnu rfl) (fh7.at trd rfl) (fun i => fh7.at tlo rfl)
          have hap : h_ap z I0 I8 rd nu lo := hap.F fh7 (fun _ => rfl) (fun _ => rfl) (fun _ => rfl)
          rw [atp, abt, show I3 bt = I0 bt from funext (fun k => hFo.at tbt rfl), show I3 tp 1 = I0 tp 1 from hFo.at ttp rfl, ← egb, show I3 a0 6 = v5 from ev5.symm] at h7p0 h7p1 h7p2 h7p3
          rw [show I3 a0 6 = v5 from ev5.symm] at h7p4
          obtain ⟨v9, ev9⟩ : ∃ v : Int32, v = I8 a0 5 := ⟨_, rfl⟩
          rw [← ev9] at h7p0 h7p4 h7p5
          obtain ⟨v10, ev10⟩ : ∃ v : Int32, v = I8 a0 6 := ⟨_, rfl⟩
          rw [← ev10] at h7p1 h7p4 h7p5
          obtain ⟨v11, ev11⟩ : ∃ v : Int32, v = I8 a0 4 := ⟨_, rfl⟩
          rw [← ev11] at h7p2 h7p3 h7p5
          obtain ⟨v12, ev12⟩ : ∃ v : Int32, v = I8 a0 7 := ⟨_, rfl⟩
          rw [← ev12] at h7p3
          refine lv_aload_n hx hb dX4_readNumbers_54 rfl (lv_at hl 0 rfl) ?_
          refine h_get (v := .int v11) hx hb hts iX4 hown g t_a0 (by decide) so_5 rfl 4 (by decide) (hts (.fieldLink RX4 43 "CapLeague$LawReader" "kind" "I") (by decide +kernel)) rfl dX4_readNumbers_55 (congrArg Value.int (ev11.symm)) ?_
          refine lv_iconst (v := 3) hx hb dX4_readNumbers_58 (by decide) ?_
          refine lv_icmp_eq (tgt := 70) hx hb dX4_readNumbers_59 (by decide) (fun c13 => ?_) (fun c13 => ?_)
          · have ic13 := (xi_eq c13 rfl (by decide) : v11.toInt = 3)
            refine lv_iconst (v := 1) hx hb dX4_readNumbers_70 (by decide) ?_
            refine lv_goto (tgt := 75) hx hb dX4_readNumbers_71 (by decide) ?_
            have hS := g.2.1
            exact W.zret (v := 1) hx hb hr (by decide) (fun t ht hW => ⟨⟨1, I8, rfl, ⟨hI, hF, ⟨⟨(by decide), (by decide)⟩, (by rw [atp, abt, ← egb, qf0_6, ard, anu, alo]; have R : q_ns gb (q_rw x_t (q_last x_t)) f0_6.toInt u_ = (0, 0, q_e gb v5.toInt, u4) := hx13_1.trans (by rw [q_rw_nil (by omega)]; exact q_ns_e (by omega)); rw [R]; exact Or.inl ⟨by decide, rfl, (by show (I8 a0 6).toInt = q_e gb v5.toInt; rw [ev10.symm]; exact h7p1), hlw, (h_F.at fh7 t_a0 rfl).trans (hx13_2.1), (h_F.at fh7 t_a0 rfl).trans (hx13_2.2), by rw [ev10.symm]; omega, by rw [ev10.symm]; omega⟩), (by rw [ard, anu, alo]; exact hap)⟩⟩, h_ret g ht⟩, hS.F ht⟩) hS.2.2 dX4_readNumbers_75
          · have ic13 := (xi_ne c13 rfl (by decide) : v11.toInt ≠ 3)
            refine lv_aload_n hx hb dX4_readNumbers_62 rfl (lv_at hl 0 rfl) ?_
            refine lv_iconst (v := 1) hx hb dX4_readNumbers_63 (by decide) ?_
            refine va_calli (va_runV (As := [.int 1]) (rest := []) ⟨hx, hb, hml, hown, hts⟩ (tX4_failF l E X A z I8 L0 a0 t_a0 1 (1) (by decide)) (cwV 1 hts gX4_readNumbers_X4_fail rfl rfl rfl (by decide +kernel) ⟨Nat.le_of_ble_eq_true rfl, Nat.le_of_ble_eq_true rfl⟩) ⟨h_blind _ _ _ _ _ _ _, h_recv g t_a0 (by decide) so_5 (q := (RX4, TX4, 9)) rfl, h_pre _ hE hk hX hA hI hR g⟩ rfl rfl hl.1 rfl (lv_room (Nat.le_of_ble_eq_true rfl)) dX4_readNumbers_64 ⟨Nat.le_of_ble_eq_true rfl, Nat.le_of_ble_eq_true rfl⟩) g.2.1 (fun q _ h => h) (fun q h => h) (fun rh14 I15 t H1 locs ht hvm h14 hB hz1 hk1 hS => ?_)
            obtain ⟨hI, fh14, h14⟩ := h14
            replace g := h_after g hB ht hS
            generalize H1 = H at g
            clear hB hk1 hz1 ht hvm hS
            have hF := hF.call fh14 rfl
            obtain ⟨h14, h14p0⟩ := h14
            have hlw : h_lw I15 rd nu lo u4 := hlw.c (fun i => fh14.at tnu rfl) (fh14.at trd rfl) (fun i => fh14.at tlo rfl)
            have hap : h_ap z I0 I15 rd nu lo := hap.F fh14 (fun _ => rfl) (fun _ => rfl) (fun _ => rfl)
            refine lv_if_eq (tgt := 74) hx hb dX4_readNumbers_67 (by decide) (fun c16 => ?_) (fun h => absurd (xi_ne h rfl (by decide) : rh14.toInt ≠ 0) (by omega))
            have ic16 := (xi_eq c16 rfl (by decide) : rh14.toInt = 0)
            refine lv_iconst (v := 0) hx hb dX4_readNumbers_74 (by decide) ?_
            have hS := g.2.1
            exact W.zret (v := 0) hx hb hr (by decide) (fun t ht hW => ⟨⟨0, I15, rfl, ⟨hI, hF, ⟨⟨(by decide), (by decide)⟩, (by rw [atp, abt, ← egb, qf0_6, ard, anu, alo]; have R : q_ns gb (q_rw x_t (q_last x_t)) f0_6.toInt u_ = (1, q_a gb v5.toInt, v5.toInt, u4) := hx13_1.trans (by rw [q_rw_nil (by omega)]; exact q_ns_n (by omega)); rw [R]; exact Or.inr ⟨by decide, (by show (1 : Int) ≠ 0; decide), (by rw [h14p0.1]; exact (by decide : (1 : Int32).toInt = 1)), (by show (I15 a0 3).toInt = q_a gb v5.toInt; rw [h14p0.2, ev9.symm]; exact h7p0)⟩), (by rw [ard, anu, alo]; exact hap)⟩⟩, h_ret g ht⟩, hS.F ht⟩) hS.2.2 dX4_readNumbers_75
        · have ic6 := (xi_nlt c6 h_x rfl : v2.toInt ≤ x_t)
          refine lv_aload_n hx hb dX4_readNumbers_18 rfl (lv_at hl 0 rfl) ?_
          have hFo := hF
          refine va_callv (va_runV (As := []) (rest := []) ⟨hx, hb, hml, hown, hts⟩ (tX4_readTokenF l E X A z I3 L0 a0 t_a0 (by rw [show I3 a0 6 = v5 from ev5.symm]; omega)) (cwV 0 hts gX4_readNumbers_X4_readToken rfl rfl rfl (by decide +kernel) ⟨Nat.le_of_ble_eq_true rfl, Nat.le_of_ble_eq_true rfl⟩) ⟨h_blind _ _ _ _ _ _ _, h_recv g t_a0 (by decide) so_5 (q := (RX4, TX4, 9)) rfl, h_pre _ hE hk hX hA hI hR g⟩ rfl rfl hl.1 rfl (lv_room (Nat.le_of_ble_eq_true rfl)) dX4_readNumbers_19 ⟨Nat.le_of_ble_eq_true rfl, Nat.le_of_ble_eq_true rfl⟩) g.2.1 (fun q _ h => h) (fun q h => h) (fun I18 t H1 locs ht hvm h17 hB hz1 hk1 hS => ?_)
          obtain ⟨hI, fh17, h17⟩ := h17
          replace g := h_after g hB ht hS
          generalize H1 = H at g
          clear hB hk1 hz1 ht hvm hS
          have hF := hF.call fh17 rfl
          obtain ⟨h17p0, h17p1, h17p2, h17p3, h17p4, h17p5⟩ := h17
          have hlw : h_lw I18 rd nu lo u4 := hlw.c (fun i => fh17.at tnu rfl) (fh17.at trd rfl) (fun i => fh17.at tlo rfl)
          have hap : h_ap z I0 I18 rd nu lo := hap.F fh17 (fun _ => rfl) (fun _ => rfl) (fun _ => rfl)
          rw [atp, abt, show I3 bt = I0 bt from funext (fun k => hFo.at tbt rfl), show I3 tp 1 = I0 tp 1 from hFo.at ttp rfl, ← egb, show I3 a0 6 = v5 from ev5.symm] at h17p0 h17p1 h17p2 h17p3
          rw [show I3 a0 6 = v5 from ev5.symm] at h17p4
          obtain ⟨v19, ev19⟩ : ∃ v : Int32, v = I18 a0 5 := ⟨_, rfl⟩
          rw [← ev19] at h17p0 h17p4 h17p5
          obtain ⟨v20, ev20⟩ : ∃ v : Int32, v = I18 a0 6 := ⟨_, rfl⟩
          rw [← ev20] at h17p1 h17p4 h17p5
          obtain ⟨v21, ev21⟩ : ∃ v : Int32, v = I18 a0 4 := ⟨_, rfl⟩
          rw [← ev21] at h17p2 h17p3 h17p5
          obtain ⟨v22, ev22⟩ : ∃ v : Int32, v = I18 a0 7 := ⟨_, rfl⟩
          rw [← ev22] at h17p3
          refine lv_aload_n hx hb dX4_readNumbers_22 rfl (lv_at hl 0 rfl) ?_
          refine lv_iload_n hx hb dX4_readNumbers_23 rfl (lv_at hl 2 rfl) ?_
          refine va_calli (va_runV (As := [.int v2]) (rest := []) ⟨hx, hb, hml, hown, hts⟩ (tX4_isNumberForF l E X A z I18 L0 a0 t_a0 v2 (v2.toInt) rfl (by omega)) (cwV 1 hts gX4_readNumbers_X4_isNumberFor rfl rfl rfl (by decide +kernel) ⟨Nat.le_of_ble_eq_true rfl, Nat.le_of_ble_eq_true rfl⟩) ⟨h_blind _ _ _ _ _ _ _, h_recv g t_a0 (by decide) so_5 (q := (RX4, TX4, 9)) rfl, h_pre _ hE hk hX hA hI hR g⟩ rfl rfl hl.1 rfl (lv_room (Nat.le_of_ble_eq_true rfl)) dX4_readNumbers_24 ⟨Nat.le_of_ble_eq_true rfl, Nat.le_of_ble_eq_true rfl⟩) g.2.1 (fun q _ h => h) (fun q h => h) (fun rh23 I24 t H1 locs ht hvm h23 hB hz1 hk1 hS => ?_)
          obtain ⟨hI, fh23, h23⟩ := h23
          replace g := h_after g hB ht hS
          generalize H1 = H at g
          clear hB hk1 hz1 ht hvm hS
          have hF := hF.call fh23 rfl
          obtain ⟨h23, h23p0⟩ := h23
          have hlw : h_lw I24 rd nu lo u4 := hlw.c (fun i => fh23.at tnu rfl) (fh23.at trd rfl) (fun i => fh23.at tlo rfl)
          have hap : h_ap z I0 I24 rd nu lo := hap.F fh23 (fun _ => rfl) (fun _ => rfl) (fun _ => rfl)
          rw [show I18 a0 4 = v21 from ev21.symm, show I18 a0 7 = v22 from ev22.symm, show I18 a0 5 = v19 from ev19.symm] at h23p0
          refine lv_if_ne (tgt := 32) hx hb dX4_readNumbers_27 (by decide) (fun c25 => ?_) (fun c25 => ?_)
          · have ic25 := (xi_ne c25 rfl (by decide) : rh23.toInt ≠ 0)
            have nf : v21.toInt = 2 ∧ q_lo v2.toInt ≤ v22.toInt ∧ v22.toInt ≤ q_hi v2.toInt ∧ I24 a0 2 = I18 a0 2 ∧ I24 a0 3 = I18 a0 3 := by rcases h23p0 with q | q | q; exact q.2; exact absurd q.1 (by omega); exact absurd q.1 (by omega)
            refine lv_aload_n hx hb dX4_readNumbers_32 rfl (lv_at hl 0 rfl) ?_
            refine h_get (v := .ref rd) hx hb hts iX4 hown g t_a0 (by decide) so_5 rfl 1 (by decide) (hts (.fieldLink RX4 12 "CapLeague$LawReader" "read" "LCapLeague$Laws;") (by decide +kernel)) rfl dX4_readNumbers_33 (by show va_rf (z.R a0 1) = _; rw [rrd]; rfl) ?_
            refine lv_iload_n hx hb dX4_readNumbers_36 rfl (lv_at hl 2 rfl) ?_
            refine lv_aload_n hx hb dX4_readNumbers_37 rfl (lv_at hl 0 rfl) ?_
            refine h_get (v := .int v22) hx hb hts iX4 hown g t_a0 (by decide) so_5 rfl 7 (by decide) (hts (.fieldLink RX4 67 "CapLeague$LawReader" "value" "I") (by decide +kernel)) rfl dX4_readNumbers_38 (congrArg Value.int ((h_F.at fh23 t_a0 rfl).trans (ev22.symm))) ?_
            refine va_callv (va_runV (As := [.int v2, .int v22]) (rest := []) ⟨hx, hb, hml, hown, hts⟩ (tX5_putF l E X A z I24 L0 rd trd v2 (v2.toInt) rfl (by omega) v22 (v22.toInt) rfl) (cwV 2 hts gX4_readNumbers_X5_put rfl rfl rfl (by decide +kernel) ⟨Nat.le_of_ble_eq_true rfl, Nat.le_of_ble_eq_true rfl⟩) ⟨h_blind _ _ _ _ _ _ _, h_recv g trd (by decide) so_6 (q := (RX5, TX5, 3)) rfl, h_pre _ hE hk hX hA hI hR g⟩ rfl rfl hl.1 rfl (lv_room (Nat.le_of_ble_eq_true rfl)) dX4_readNumbers_41 ⟨Nat.le_of_ble_eq_true rfl, Nat.le_of_ble_eq_true rfl⟩) g.2.1 (fun q _ h => h) (fun q h => h) (fun I27 t H1 locs ht hvm h26 hB hz1 hk1 hS => ?_)
            obtain ⟨hI, fh26, h26⟩ := h26
            replace g := h_after g hB ht hS
            generalize H1 = H at g
            clear hB hk1 hz1 ht hvm hS
            have hF := hF.call fh26 rfl
            have h26p0 := h26
            rw [anu] at h26p0
            have hlw : h_lw I27 rd nu lo (q_up u4 (v2.toInt).toNat v22.toInt) := hlw.put (z := z) h26p0 trd tnu tlo (by omega)
            have hap : h_ap z I0 I27 rd nu lo := hap.wn h26p0 tnu
            obtain ⟨v28, ev28⟩ : ∃ z : Int32, z = v2 + 1 := ⟨_, rfl⟩
            have jv28 : v28.toInt = v2.toInt + 1 := xi_add ev28 rfl (by decide) (by omega) (by omega)
            refine lv_iinc (v := v28) (lv' := [(3, .int v28), (0, .ref a0), (2, .int x)]) hx hb dX4_readNumbers_44 hl (k := 2) rfl (by rw [ev28]; rfl) (by decide) rfl (fun ls hl => ?_)
            refine lv_goto (tgt := 13) hx hb dX4_readNumbers_47 (by decide) ?_
            have k29 : (I27 a0 6).toInt = v20.toInt := (congrArg Int32.toInt ((h_F.at fh26 t_a0 rfl).trans ((h_F.at fh23 t_a0 rfl).trans (ev20.symm)))).trans rfl
            exact ih13 I27 _ _ _ v28 ((q_up u4 (v2.toInt).toNat v22.toInt)) g hI hF (lv_sub hl [1, 2, 0] rfl) (by omega) (by omega) (hx13_1.trans (by rw [q_rw_cons (w := v2.toInt) (w1 := v28.toInt) (by omega) (by omega) (by omega)]; exact q_ns_ok (by omega) (h17p3 (by omega)) (by omega) (by omega) (by omega))) (⟨(((h_F.at fh26 t_a0 rfl).trans (nf.2.2.2.1)).trans (h_F.at fh17 t_a0 rfl)).trans (hx13_2.1), (((h_F.at fh26 t_a0 rfl).trans (nf.2.2.2.2)).trans (h_F.at fh17 t_a0 rfl)).trans (hx13_2.2)⟩) hlw hap (by omega)
          · have ic25 := (xi_eq c25 rfl (by decide) : rh23.toInt = 0)
            have nf : (v21.toInt ≠ 2 ∧ (I24 a0 2).toInt = 1 ∧ I24 a0 3 = v19) ∨ (v21.toInt = 2 ∧ (v22.toInt < q_lo v2.toInt ∨ q_hi v2.toInt < v22.toInt) ∧ (I24 a0 2).toInt = 2 ∧ I24 a0 3 = v19) := by rcases h23p0 with q | q | q; exact absurd q.1 (by omega); exact Or.inl q.2; exact Or.inr q.2
            refine lv_iconst (v := 0) hx hb dX4_readNumbers_30 (by decide) ?_
            have hS := g.2.1
            exact W.zret (v := 0) hx hb hr (by decide) (fun t ht hW => ⟨⟨0, I24, rfl, ⟨hI, hF, ⟨⟨(by decide), (by decide)⟩, (by rw [atp, abt, ← egb, qf0_6, ard, anu, alo]; rcases nf with ⟨n1, n2, n3⟩ | ⟨n1, n2, n3, n4⟩; have R : q_ns gb (q_rw x_t (q_last x_t)) f0_6.toInt u_ = (1, q_a gb v5.toInt, v5.toInt, u4) := hx13_1.trans (by rw [q_rw_cons (w := v2.toInt) (w1 := v2.toInt + 1) (by omega) (by omega) rfl]; exact q_ns_f1 (by omega)); rw [R]; exact Or.inr ⟨by decide, (by show (1 : Int) ≠ 0; decide), n2, (by show (I24 a0 3).toInt = q_a gb v5.toInt; rw [n3]; exact h17p0)⟩; have R : q_ns gb (q_rw x_t (q_last x_t)) f0_6.toInt u_ = (2, q_a gb v5.toInt, v5.toInt, u4) := hx13_1.trans (by rw [q_rw_cons (w := v2.toInt) (w1 := v2.toInt + 1) (by omega) (by omega) rfl]; exact q_ns_f2 (by omega) (by have h9 := h17p3 (by omega); omega)); rw [R]; exact Or.inr ⟨by decide, (by show (2 : Int) ≠ 0; decide), n3, (by show (I24 a0 3).toInt = q_a gb v5.toInt; rw [n4]; exact h17p0)⟩), (by rw [ard, anu, alo]; exact hap)⟩⟩, h_ret g ht⟩, hS.F ht⟩) hS.2.2 dX4_readNumbers_31
    have k30 : (I0 a0 6).toInt = f0_6.toInt := (congrArg Int32.toInt (ef0_6.symm)).trans rfl
    exact loop13_0 _ I0 _ _ _ x (u_) g hI hF (lv_sub hl [2, 1, 0] rfl) (by rw [h_x]; omega) (by omega) (by rw [show q_last x_t = x_t from if_neg (by omega), h_x, qf0_6]) (⟨rfl, rfl⟩) hlw hap (show (9 - x.toInt) < (((9 - x.toInt).toNat + 1 : Nat) : Int) by omega)
  · have ic1 := (xi_eq c1 h_x (by decide) : x_t = 4)
    refine lv_iconst (v := 5) hx hb dX4_readNumbers_5 (by decide) ?_
    refine lv_goto (tgt := 10) hx hb dX4_readNumbers_6 (by decide) ?_
    refine lv_istore_n (lv' := [(2, .int 5), (0, .ref a0), (1, .int x)]) hx hb dX4_readNumbers_10 rfl hl (by decide) rfl (fun ls hl => ?_)
    refine lv_iload_n hx hb dX4_readNumbers_11 rfl (lv_at hl 2 rfl) ?_
    refine lv_istore_n (lv' := [(3, .int x), (2, .int 5), (0, .ref a0), (1, .int x)]) hx hb dX4_readNumbers_12 rfl hl (by decide) rfl (fun ls hl => ?_)
    have loop13_1 : ∀ (n : Nat) (I32 : tI) (H : Heap) (locs : List Loc) (ls : Array Slot) (v31 : Int32) (u33 : Nat → Int), h_G h_so h_fk E A z I32 L0 s s.heap H locs → h_I z I32 → h_F [(5, 4), (5, 5), (5, 6), (5, 7), (5, 2), (5, 3), (600, 999)] z I0 I32 → lv_has ls 4 [(0, .ref a0), (2, .int 5), (3, .int v31)] → (0 ≤ v31.toInt ∧ v31.toInt ≤ 8) → (0 ≤ (I32 a0 6).toInt ∧ (I32 a0 6).toInt ≤ 500 ∧ f0_6.toInt ≤ (I32 a0 6).toInt ∧ (5 : Int) ≤ v31.toInt + 1) → (q_ns gb (q_rw x_t (q_last x_t)) f0_6.toInt u_ = q_ns gb (q_rw v31.toInt (5 : Int)) (I32 a0 6).toInt u33) → (I32 a0 2 = I0 a0 2 ∧ I32 a0 3 = I0 a0 3) → (h_lw I32 rd nu lo u33) → (h_ap z I0 I32 rd nu lo) → (9 - v31.toInt) < (n : Int) → W pr_ l ev_ (headSpec wsX4_readNumbers ({ frames := 4, cells := 0, slots := 0, locals := 256 })).room s m ([.ref a0, .int x] : List Value).toArray below meth cd_ H locs 0 0 (MQ below (va_Qi (fun r (I1 : tI) => h_I z I1 ∧ h_F [(5, 4), (5, 5), (5, 6), (5, 7), (5, 2), (5, 3), (600, 999)] z I0 I1 ∧ (0 ≤ r.toInt ∧ r.toInt ≤ 1) ∧ ((r.toInt = 1 ∧ (q_ns (q_at (I0 (h_ad z (h_ad z a0 0) 0)) (I0 (h_ad z a0 0) 1).toInt) (q_rw x_t (q_last x_t)) (I0 a0 6).toInt u_).1 = 0 ∧ (I1 a0 6).toInt = (q_ns (q_at (I0 (h_ad z (h_ad z a0 0) 0)) (I0 (h_ad z a0 0) 1).toInt) (q_rw x_t (q_last x_t)) (I0 a0 6).toInt u_).2.2.1 ∧ h_lw I1 (h_ad z a0 1) (h_ad z (h_ad z a0 1) 0) (h_ad z (h_ad z a0 1) 1) (q_ns (q_at (I0 (h_ad z (h_ad z a0 0) 0)) (I0 (h_ad z a0 0) 1).toInt) (q_rw x_t (q_last x_t)) (I0 a0 6).toInt u_).2.2.2 ∧ I1 a0 2 = I0 a0 2 ∧ I1 a0 3 = I0 a0 3 ∧ (I0 a0 6).toInt < (I1 a0 6).toInt ∧ (I1 a0 6).toInt ≤ 500) ∨ (r.toInt = 0 ∧ (q_ns (q_at (I0 (h_ad z (h_ad z a0 0) 0)) (I0 (h_ad z a0 0) 1).toInt) (q_rw x_t (q_last x_t)) (I0 a0 6).toInt u_).1 ≠ 0 ∧ (I1 a0 2).toInt = (q_ns (q_at (I0 (h_ad z (h_ad z a0 0) 0)) (I0 (h_ad z a0 0) 1).toInt) (q_rw x_t (q_last x_t)) (I0 a0 6).toInt u_).1 ∧ (I1 a0 3).toInt = (q_ns (q_at (I0 (h_ad z (h_ad z a0 0) 0)) (I0 (h_ad z a0 0) 1).toInt) (q_rw x_t (q_last x_t)) (I0 a0 6).toInt u_).2.1)) ∧ (h_ap z I0 I1 (h_ad z a0 1) (h_ad z (h_ad z a0 1) 0) (h_ad z (h_ad z a0 1) 1))) (fun (I1 : tI) t => h_B E A z I1 L0 t) A) ([.ref a0, .int x] : List Value).toArray s 0 0 A) (F0 m 13 ls []) := by
      intro n
      induction n with
      | zero => intro I32 H locs ls v31 u33 g hI hF hl jv31 hx13_0 hx13_1 hx13_2 hlw hap hn; exact absurd hn (by omega)
      | succ n ih13 =>
        intro I32 H locs ls v31 u33 g hI hF hl jv31 hx13_0 hx13_1 hx13_2 hlw hap hn
        obtain ⟨v34, ev34⟩ : ∃ v : Int32, v = I32 a0 6 := ⟨_, rfl⟩
        rw [← ev34] at hx13_0 hx13_1
        have jv34 := hI.rd a0 6 t_a0 ev34 (rfl : h_bd 5 6 = ((-2147483648), 2147483647))
        refine lv_iload_n hx hb dX4_readNumbers_13 rfl (lv_at hl 2 rfl) ?_
        refine lv_iload_n hx hb dX4_readNumbers_14 rfl (lv_at hl 1 rfl) ?_
        refine lv_icmp_gt (tgt := 50) hx hb dX4_readNumbers_15 (by decide) (fun c35 => ?_) (fun c35 => ?_)
        · have ic35 := (xi_lt c35 (by decide) rfl : 5 < v31.toInt)
          refine lv_aload_n hx hb dX4_readNumbers_50 rfl (lv_at hl 0 rfl) ?_
          have hFo := hF
          refine va_callv (va_runV (As := []) (rest := []) ⟨hx, hb, hml, hown, hts⟩ (tX4_readTokenF l E X A z I32 L0 a0 t_a0 (by rw [show I32 a0 6 = v34 from ev34.symm]; omega)) (cwV 0 hts gX4_readNumbers_X4_readToken rfl rfl rfl (by decide +kernel) ⟨Nat.le_of_ble_eq_true rfl, Nat.le_of_ble_eq_true rfl⟩) ⟨h_blind _ _ _ _ _ _ _, h_recv g t_a0 (by decide) so_5 (q := (RX4, TX4, 9)) rfl, h_pre _ hE hk hX hA hI hR g⟩ rfl rfl hl.1 rfl (lv_room (Nat.le_of_ble_eq_true rfl)) dX4_readNumbers_51 ⟨Nat.le_of_ble_eq_true rfl, Nat.le_of_ble_eq_true rfl⟩) g.2.1 (fun q _ h => h) (fun q h => h) (fun I37 t H1 locs ht hvm h36 hB hz1 hk1 hS => ?_)
          obtain ⟨hI, fh36, h36⟩ := h36
          replace g := h_after g hB ht hS
          generalize H1 = H at g
          clear hB hk1 hz1 ht hvm hS
          have hF := hF.call fh36 rfl
          obtain ⟨h36p0, h36p1, h36p2, h36p3, h36p4, h36p5⟩ := h36
          have hlw : h_lw I37 rd nu lo u33 := hlw.c (fun i => fh36.at tnu rfl) (fh36.at trd rfl) (fun i => fh36.at tlo rfl)
          have hap : h_ap z I0 I37 rd nu lo := hap.F fh36 (fun _ => rfl) (fun _ => rfl) (fun _ => rfl)
          rw [atp, abt, show I32 bt = I0 bt from funext (fun k => hFo.at tbt rfl), show I32 tp 1 = I0 tp 1 from hFo.at ttp rfl, ← egb, show I32 a0 6 = v34 from ev34.symm] at h36p0 h36p1 h36p2 h36p3
          rw [show I32 a0 6 = v34 from ev34.symm] at h36p4
          obtain ⟨v38, ev38⟩ : ∃ v : Int32, v = I37 a0 5 := ⟨_, rfl⟩
          rw [← ev38] at h36p0 h36p4 h36p5
          obtain ⟨v39, ev39⟩ : ∃ v : Int32, v = I37 a0 6 := ⟨_, rfl⟩
          rw [← ev39] at h36p1 h36p4 h36p5
          obtain ⟨v40, ev40⟩ : ∃ v : Int32, v = I37 a0 4 := ⟨_, rfl⟩
          rw [← ev40] at h36p2 h36p3 h36p5
          obtain ⟨v41, ev41⟩ : ∃ v : Int32, v = I37 a0 7 := ⟨_, rfl⟩
          rw [← ev41] at h36p3
          refine lv_aload_n hx hb dX4_readNumbers_54 rfl (lv_at hl 0 rfl) ?_
          refine h_get (v := .int v40) hx hb hts iX4 hown g t_a0 (by decide) so_5 rfl 4 (by decide) (hts (.fieldLink RX4 43 "CapLeague$LawReader" "kind" "I") (by decide +kernel)) rfl dX4_readNumbers_55 (congrArg Value.int (ev40.symm)) ?_
          refine lv_iconst (v := 3) hx hb dX4_readNumbers_58 (by decide) ?_
          refine lv_icmp_eq (tgt := 70) hx hb dX4_readNumbers_59 (by decide) (fun c42 => ?_) (fun c42 => ?_)
          · have ic42 := (xi_eq c42 rfl (by decide) : v40.toInt = 3)
            refine lv_iconst (v := 1) hx hb dX4_readNumbers_70 (by decide) ?_
            refine lv_goto (tgt := 75) hx hb dX4_readNumbers_71 (by decide) ?_
            have hS := g.2.1
            exact W.zret (v := 1) hx hb hr (by decide) (fun t ht hW => ⟨⟨1, I37, rfl, ⟨hI, hF, ⟨⟨(by decide), (by decide)⟩, (by rw [atp, abt, ← egb, qf0_6, ard, anu, alo]; have R : q_ns gb (q_rw x_t (q_last x_t)) f0_6.toInt u_ = (0, 0, q_e gb v34.toInt, u33) := hx13_1.trans (by rw [q_rw_nil (by omega)]; exact q_ns_e (by omega)); rw [R]; exact Or.inl ⟨by decide, rfl, (by show (I37 a0 6).toInt = q_e gb v34.toInt; rw [ev39.symm]; exact h36p1), hlw, (h_F.at fh36 t_a0 rfl).trans (hx13_2.1), (h_F.at fh36 t_a0 rfl).trans (hx13_2.2), by rw [ev39.symm]; omega, by rw [ev39.symm]; omega⟩), (by rw [ard, anu, alo]; exact hap)⟩⟩, h_ret g ht⟩, hS.F ht⟩) hS.2.2 dX4_readNumbers_75
          · have ic42 := (xi_ne c42 rfl (by decide) : v40.toInt ≠ 3)
            refine lv_aload_n hx hb dX4_readNumbers_62 rfl (lv_at hl 0 rfl) ?_
            refine lv_iconst (v := 1) hx hb dX4_readNumbers_63 (by decide) ?_
            refine va_calli (va_runV (As := [.int 1]) (rest := []) ⟨hx, hb, hml, hown, hts⟩ (tX4_failF l E X A z I37 L0 a0 t_a0 1 (1) (by decide)) (cwV 1 hts gX4_readNumbers_X4_fail rfl rfl rfl (by decide +kernel) ⟨Nat.le_of_ble_eq_true rfl, Nat.le_of_ble_eq_true rfl⟩) ⟨h_blind _ _ _ _ _ _ _, h_recv g t_a0 (by decide) so_5 (q := (RX4, TX4, 9)) rfl, h_pre _ hE hk hX hA hI hR g⟩ rfl rfl hl.1 rfl (lv_room (Nat.le_of_ble_eq_true rfl)) dX4_readNumbers_64 ⟨Nat.le_of_ble_eq_true rfl, Nat.le_of_ble_eq_true rfl⟩) g.2.1 (fun q _ h => h) (fun q h => h) (fun rh43 I44 t H1 locs ht hvm h43 hB hz1 hk1 hS => ?_)
            obtain ⟨hI, fh43, h43⟩ := h43
            replace g := h_after g hB ht hS
            generalize H1 = H at g
            clear hB hk1 hz1 ht hvm hS
            have hF := hF.call fh43 rfl
            obtain ⟨h43, h43p0⟩ := h43
            have hlw : h_lw I44 rd nu lo u33 := hlw.c (fun i => fh43.at tnu rfl) (fh43.at trd rfl) (fun i => fh43.at tlo rfl)
            have hap : h_ap z I0 I44 rd nu lo := hap.F fh43 (fun _ => rfl) (fun _ => rfl) (fun _ => rfl)
            refine lv_if_eq (tgt := 74) hx hb dX4_readNumbers_67 (by decide) (fun c45 => ?_) (fun h => absurd (xi_ne h rfl (by decide) : rh43.toInt ≠ 0) (by omega))
            have ic45 := (xi_eq c45 rfl (by decide) : rh43.toInt = 0)
            refine lv_iconst (v := 0) hx hb dX4_readNumbers_74 (by decide) ?_
            have hS := g.2.1
            exact W.zret (v := 0) hx hb hr (by decide) (fun t ht hW => ⟨⟨0, I44, rfl, ⟨hI, hF, ⟨⟨(by decide), (by decide)⟩, (by rw [atp, abt, ← egb, qf0_6, ard, anu, alo]; have R : q_ns gb (q_rw x_t (q_last x_t)) f0_6.toInt u_ = (1, q_a gb v34.toInt, v34.toInt, u33) := hx13_1.trans (by rw [q_rw_nil (by omega)]; exact q_ns_n (by omega)); rw [R]; exact Or.inr ⟨by decide, (by show (1 : Int) ≠ 0; decide), (by rw [h43p0.1]; exact (by decide : (1 : Int32).toInt = 1)), (by show (I44 a0 3).toInt = q_a gb v34.toInt; rw [h43p0.2, ev38.symm]; exact h36p0)⟩), (by rw [ard, anu, alo]; exact hap)⟩⟩, h_ret g ht⟩, hS.F ht⟩) hS.2.2 dX4_readNumbers_75
        · have ic35 := (xi_nlt c35 (by decide) rfl : v31.toInt ≤ 5)
          refine lv_aload_n hx hb dX4_readNumbers_18 rfl (lv_at hl 0 rfl) ?_
          have hFo := hF
          refine va_callv (va_runV (As := []) (rest := []) ⟨hx, hb, hml, hown, hts⟩ (tX4_readTokenF l E X A z I32 L0 a0 t_a0 (by rw [show I32 a0 6 = v34 from ev34.symm]; omega)) (cwV 0 hts gX4_readNumbers_X4_readToken rfl rfl rfl (by decide +kernel) ⟨Nat.le_of_ble_eq_true rfl, Nat.le_of_ble_eq_true rfl⟩) ⟨h_blind _ _ _ _ _ _ _, h_recv g t_a0 (by decide) so_5 (q := (RX4, TX4, 9)) rfl, h_pre _ hE hk hX hA hI hR g⟩ rfl rfl hl.1 rfl (lv_room (Nat.le_of_ble_eq_true rfl)) dX4_readNumbers_19 ⟨Nat.le_of_ble_eq_true rfl, Nat.le_of_ble_eq_true rfl⟩) g.2.1 (fun q _ h => h) (fun q h => h) (fun I47 t H1 locs ht hvm h46 hB hz1 hk1 hS => ?_)
          obtain ⟨hI, fh46, h46⟩ := h46
          replace g := h_after g hB ht hS
          generalize H1 = H at g
          clear hB hk1 hz1 ht hvm hS
          have hF := hF.call fh46 rfl
          obtain ⟨h46p0, h46p1, h46p2, h46p3, h46p4, h46p5⟩ := h46
          have hlw : h_lw I47 rd nu lo u33 := hlw.c (fun i => fh46.at tnu rfl) (fh46.at trd rfl) (fun i => fh46.at tlo rfl)
          have hap : h_ap z I0 I47 rd nu lo := hap.F fh46 (fun _ => rfl) (fun _ => rfl) (fun _ => rfl)
          rw [atp, abt, show I32 bt = I0 bt from funext (fun k => hFo.at tbt rfl), show I32 tp 1 = I0 tp 1 from hFo.at ttp rfl, ← egb, show I32 a0 6 = v34 from ev34.symm] at h46p0 h46p1 h46p2 h46p3
          rw [show I32 a0 6 = v34 from ev34.symm] at h46p4
          obtain ⟨v48, ev48⟩ : ∃ v : Int32, v = I47 a0 5 := ⟨_, rfl⟩
          rw [← ev48] at h46p0 h46p4 h46p5
          obtain ⟨v49, ev49⟩ : ∃ v : Int32, v = I47 a0 6 := ⟨_, rfl⟩
          rw [← ev49] at h46p1 h46p4 h46p5
          obtain ⟨v50, ev50⟩ : ∃ v : Int32, v = I47 a0 4 := ⟨_, rfl⟩
          rw [← ev50] at h46p2 h46p3 h46p5
          obtain ⟨v51, ev51⟩ : ∃ v : Int32, v = I47 a0 7 := ⟨_, rfl⟩
          rw [← ev51] at h46p3
          refine lv_aload_n hx hb dX4_readNumbers_22 rfl (lv_at hl 0 rfl) ?_
          refine lv_iload_n hx hb dX4_readNumbers_23 rfl (lv_at hl 2 rfl) ?_
          refine va_calli (va_runV (As := [.int v31]) (rest := []) ⟨hx, hb, hml, hown, hts⟩ (tX4_isNumberForF l E X A z I47 L0 a0 t_a0 v31 (v31.toInt) rfl (by omega)) (cwV 1 hts gX4_readNumbers_X4_isNumberFor rfl rfl rfl (by decide +kernel) ⟨Nat.le_of_ble_eq_true rfl, Nat.le_of_ble_eq_true rfl⟩) ⟨h_blind _ _ _ _ _ _ _, h_recv g t_a0 (by decide) so_5 (q := (RX4, TX4, 9)) rfl, h_pre _ hE hk hX hA hI hR g⟩ rfl rfl hl.1 rfl (lv_room (Nat.le_of_ble_eq_true rfl)) dX4_readNumbers_24 ⟨Nat.le_of_ble_eq_true rfl, Nat.le_of_ble_eq_true rfl⟩) g.2.1 (fun q _ h => h) (fun q h => h) (fun rh52 I53 t H1 locs ht hvm h52 hB hz1 hk1 hS => ?_)
          obtain ⟨hI, fh52, h52⟩ := h52
          replace g := h_after g hB ht hS
          generalize H1 = H at g
          clear hB hk1 hz1 ht hvm hS
          have hF := hF.call fh52 rfl
          obtain ⟨h52, h52p0⟩ := h52
          have hlw : h_lw I53 rd nu lo u33 := hlw.c (fun i => fh52.at tnu rfl) (fh52.at trd rfl) (fun i => fh52.at tlo rfl)
          have hap : h_ap z I0 I53 rd nu lo := hap.F fh52 (fun _ => rfl) (fun _ => rfl) (fun _ => rfl)
          rw [show I47 a0 4 = v50 from ev50.symm, show I47 a0 7 = v51 from ev51.symm, show I47 a0 5 = v48 from ev48.symm] at h52p0
          refine lv_if_ne (tgt := 32) hx hb dX4_readNumbers_27 (by decide) (fun c54 => ?_) (fun c54 => ?_)
          · have ic54 := (xi_ne c54 rfl (by decide) : rh52.toInt ≠ 0)
            have nf : v50.toInt = 2 ∧ q_lo v31.toInt ≤ v51.toInt ∧ v51.toInt ≤ q_hi v31.toInt ∧ I53 a0 2 = I47 a0 2 ∧ I53 a0 3 = I47 a0 3 := by rcases h52p0 with q | q | q; exact q.2; exact absurd q.1 (by omega); exact absurd q.1 (by omega)
            refine lv_aload_n hx hb dX4_readNumbers_32 rfl (lv_at hl 0 rfl) ?_
            refine h_get (v := .ref rd) hx hb hts iX4 hown g t_a0 (by decide) so_5 rfl 1 (by decide) (hts (.fieldLink RX4 12 "CapLeague$LawReader" "read" "LCapLeague$Laws;") (by decide +kernel)) rfl dX4_readNumbers_33 (by show va_rf (z.R a0 1) = _; rw [rrd]; rfl) ?_
            refine lv_iload_n hx hb dX4_readNumbers_36 rfl (lv_at hl 2 rfl) ?_
            refine lv_aload_n hx hb dX4_readNumbers_37 rfl (lv_at hl 0 rfl) ?_
            refine h_get (v := .int v51) hx hb hts iX4 hown g t_a0 (by decide) so_5 rfl 7 (by decide) (hts (.fieldLink RX4 67 "CapLeague$LawReader" "value" "I") (by decide +kernel)) rfl dX4_readNumbers_38 (congrArg Value.int ((h_F.at fh52 t_a0 rfl).trans (ev51.symm))) ?_
            refine va_callv (va_runV (As := [.int v31, .int v51]) (rest := []) ⟨hx, hb, hml, hown, hts⟩ (tX5_putF l E X A z I53 L0 rd trd v31 (v31.toInt) rfl (by omega) v51 (v51.toInt) rfl) (cwV 2 hts gX4_readNumbers_X5_put rfl rfl rfl (by decide +kernel) ⟨Nat.le_of_ble_eq_true rfl, Nat.le_of_ble_eq_true rfl⟩) ⟨h_blind _ _ _ _ _ _ _, h_recv g trd (by decide) so_6 (q := (RX5, TX5, 3)) rfl, h_pre _ hE hk hX hA hI hR g⟩ rfl rfl hl.1 rfl (lv_room (Nat.le_of_ble_eq_true rfl)) dX4_readNumbers_41 ⟨Nat.le_of_ble_eq_true rfl, Nat.le_of_ble_eq_true rfl⟩) g.2.1 (fun q _ h => h) (fun q h => h) (fun I56 t H1 locs ht hvm h55 hB hz1 hk1 hS => ?_)
            obtain ⟨hI, fh55, h55⟩ := h55
            replace g := h_after g hB ht hS
            generalize H1 = H at g
            clear hB hk1 hz1 ht hvm hS
            have hF := hF.call fh55 rfl
            have h55p0 := h55
            rw [anu] at h55p0
            have hlw : h_lw I56 rd nu lo (q_up u33 (v31.toInt).toNat v51.toInt) := hlw.put (z := z) h55p0 trd tnu tlo (by omega)
            have hap : h_ap z I0 I56 rd nu lo := hap.wn h55p0 tnu
            obtain ⟨v57, ev57⟩ : ∃ z : Int32, z = v31 + 1 := ⟨_, rfl⟩
            have jv57 : v57.toInt = v31.toInt + 1 := xi_add ev57 rfl (by decide) (by omega) (by omega)
            refine lv_iinc (v := v57) (lv' := [(3, .int v57), (0, .ref a0), (2, .int 5)]) hx hb dX4_readNumbers_44 hl (k := 2) rfl (by rw [ev57]; rfl) (by decide) rfl (fun ls hl => ?_)
            refine lv_goto (tgt := 13) hx hb dX4_readNumbers_47 (by decide) ?_
            have k58 : (I56 a0 6).toInt = v49.toInt := (congrArg Int32.toInt ((h_F.at fh55 t_a0 rfl).trans ((h_F.at fh52 t_a0 rfl).trans (ev49.symm)))).trans rfl
            exact ih13 I56 _ _ _ v57 ((q_up u33 (v31.toInt).toNat v51.toInt)) g hI hF (lv_sub hl [1, 2, 0] rfl) (by omega) (by omega) (hx13_1.trans (by rw [q_rw_cons (w := v31.toInt) (w1 := v57.toInt) (by omega) (by omega) (by omega)]; exact q_ns_ok (by omega) (h46p3 (by omega)) (by omega) (by omega) (by omega))) (⟨(((h_F.at fh55 t_a0 rfl).trans (nf.2.2.2.1)).trans (h_F.at fh46 t_a0 rfl)).trans (hx13_2.1), (((h_F.at fh55 t_a0 rfl).trans (nf.2.2.2.2)).trans (h_F.at fh46 t_a0 rfl)).trans (hx13_2.2)⟩) hlw hap (by omega)
          · have ic54 := (xi_eq c54 rfl (by decide) : rh52.toInt = 0)
            have nf : (v50.toInt ≠ 2 ∧ (I53 a0 2).toInt = 1 ∧ I53 a0 3 = v48) ∨ (v50.toInt = 2 ∧ (v51.toInt < q_lo v31.toInt ∨ q_hi v31.toInt < v51.toInt) ∧ (I53 a0 2).toInt = 2 ∧ I53 a0 3 = v48) := by rcases h52p0 with q | q | q; exact absurd q.1 (by omega); exact Or.inl q.2; exact Or.inr q.2
            refine lv_iconst (v := 0) hx hb dX4_readNumbers_30 (by decide) ?_
            have hS := g.2.1
            exact W.zret (v := 0) hx hb hr (by decide) (fun t ht hW => ⟨⟨0, I53, rfl, ⟨hI, hF, ⟨⟨(by decide), (by decide)⟩, (by rw [atp, abt, ← egb, qf0_6, ard, anu, alo]; rcases nf with ⟨n1, n2, n3⟩ | ⟨n1, n2, n3, n4⟩; have R : q_ns gb (q_rw x_t (q_last x_t)) f0_6.toInt u_ = (1, q_a gb v34.toInt, v34.toInt, u33) := hx13_1.trans (by rw [q_rw_cons (w := v31.toInt) (w1 := v31.toInt + 1) (by omega) (by omega) rfl]; exact q_ns_f1 (by omega)); rw [R]; exact Or.inr ⟨by decide, (by show (1 : Int) ≠ 0; decide), n2, (by show (I53 a0 3).toInt = q_a gb v34.toInt; rw [n3]; exact h46p0)⟩; have R : q_ns gb (q_rw x_t (q_last x_t)) f0_6.toInt u_ = (2, q_a gb v34.toInt, v34.toInt, u33) := hx13_1.trans (by rw [q_rw_cons (w := v31.toInt) (w1 := v31.toInt + 1) (by omega) (by omega) rfl]; exact q_ns_f2 (by omega) (by have h9 := h46p3 (by omega); omega)); rw [R]; exact Or.inr ⟨by decide, (by show (2 : Int) ≠ 0; decide), n3, (by show (I53 a0 3).toInt = q_a gb v34.toInt; rw [n4]; exact h46p0)⟩), (by rw [ard, anu, alo]; exact hap)⟩⟩, h_ret g ht⟩, hS.F ht⟩) hS.2.2 dX4_readNumbers_31
    have k59 : (I0 a0 6).toInt = f0_6.toInt := (congrArg Int32.toInt (ef0_6.symm)).trans rfl
    exact loop13_1 _ I0 _ _ _ x (u_) g hI hF (lv_sub hl [2, 1, 0] rfl) (by rw [h_x]; omega) (by omega) (by rw [show q_last x_t = (5 : Int) from if_pos (by omega), h_x, qf0_6]) (⟨rfl, rfl⟩) hlw hap (show (9 - x.toInt) < (((9 - x.toInt).toNat + 1 : Nat) : Int) by omega)
set_option maxHeartbeats 4000000 in
set_option maxRecDepth 100000 in
theorem tX4_readLotsF (l : Launch) (E : tE) (X : tX) (A : Nat → Prop) (z : tZ) (I0 : tI) (L0 : tL) (a0 : Nat) (t_a0 : z.ty a0 = 5) (u_ : Nat → Int) (hu : h_lw I0 (h_ad z a0 1) (h_ad z (h_ad z a0 1) 0) (h_ad z (h_ad z a0 1) 1) u_) (hp : 0 ≤ (I0 a0 6).toInt ∧ (I0 a0 6).toInt ≤ 500) : Met l yX4_readLots wsX4_readLots ({ frames := 4, cells := 0, slots := 0, locals := 256 }) (va_Pc [.ref a0] (h_P E X A z I0 L0)) (va_Qi (fun r (I1 : tI) => h_I z I1 ∧ h_F [(5, 4), (5, 5), (5, 6), (5, 7), (5, 2), (5, 3), (601, 999), (6, 2)] z I0 I1 ∧ (0 ≤ r.toInt ∧ r.toInt ≤ 1) ∧ ((r.toInt = 1 ∧ (q_lt (q_at (I0 (h_ad z (h_ad z a0 0) 0)) (I0 (h_ad z a0 0) 1).toInt) 6 0 (I0 a0 6).toInt u_).1 = 0 ∧ (I1 a0 6).toInt = (q_lt (q_at (I0 (h_ad z (h_ad z a0 0) 0)) (I0 (h_ad z a0 0) 1).toInt) 6 0 (I0 a0 6).toInt u_).2.2.1 ∧ h_lw I1 (h_ad z a0 1) (h_ad z (h_ad z a0 1) 0) (h_ad z (h_ad z a0 1) 1) (q_lt (q_at (I0 (h_ad z (h_ad z a0 0) 0)) (I0 (h_ad z a0 0) 1).toInt) 6 0 (I0 a0 6).toInt u_).2.2.2 ∧ I1 a0 2 = I0 a0 2 ∧ I1 a0 3 = I0 a0 3 ∧ (I0 a0 6).toInt < (I1 a0 6).toInt ∧ (I1 a0 6).toInt ≤ 500) ∨ (r.toInt = 0 ∧ (q_lt (q_at (I0 (h_ad z (h_ad z a0 0) 0)) (I0 (h_ad z a0 0) 1).toInt) 6 0 (I0 a0 6).toInt u_).1 ≠ 0 ∧ (I1 a0 2).toInt = (q_lt (q_at (I0 (h_ad z (h_ad z a0 0) 0)) (I0 (h_ad z a0 0) 1).toInt) 6 0 (I0 a0 6).toInt u_).1 ∧ (I1 a0 3).toInt = (q_lt (q_at (I0 (h_ad z (h_ad z a0 0) 0)) (I0 (h_ad z a0 0) 1).toInt) 6 0 (I0 a0 6).toInt u_).2.1)) ∧ (h_ap z I0 I1 (h_ad z a0 1) (h_ad z (h_ad z a0 1) 0) (h_ad z (h_ad z a0 1) 1))) (fun (I1 : tI) t => h_B E A z I1 L0 t) A) 0 0 A := by
  refine Met.ofW (cc := cX4_readLots) (maxL := 2) (ret := (some .boolean)) (by decide) rfl ?_
  intro pr_ ev_ s m args below meth cd_ s₁ B hml hv
  obtain ⟨rfl, hE, hk, hX, hA, hK, hI, hR, hB0⟩ := hv
  have g : h_G h_so h_fk E A z I0 L0 s s.heap s.heap [] := ⟨hK, va_S.rf, hB0⟩
  have hF : h_F [(5, 4), (5, 5), (5, 6), (5, 7), (5, 2), (5, 3), (601, 999), (6, 2)] z I0 I0 := h_F.rf
  have hx := B.exec
  have hb := B.bytes
  have hr := B.returns
  have hts := atoms_spec (ws := wsX4_readLots) B.pre
  have hown : s.vm.findClass RX4 = some m.cls := findClass_of_methodNamed B.named
  have hlocks := B.notSynchronized
  have iX4 : ∀ w ∈ u_ws RX4 TX4 9, w ∈ wsX4_readLots := by decide +kernel
  have hl := lv_entry ([.ref a0]) (n := 2) (Nat.le_of_ble_eq_true rfl)
  rw [lg_entry_eq]
  generalize (lg_sl ([.ref a0]) ++ List.replicate (2 - (lg_sl ([.ref a0])).length) Slot.unset).toArray = ls at hl ⊢
  have hl : lv_has ls 2 [(0, .ref a0)] := hl
  obtain ⟨tp, rtp, ttp⟩ := hR.at a0 0 t_a0 (rfl : h_rs 5 0 = some (9, false)) (by decide)
  have atp : h_ad z a0 0 = tp := h_ad.at rtp
  obtain ⟨bt, rbt, tbt⟩ := hR.at tp 0 ttp (rfl : h_rs 9 0 = some (900, false)) (by decide)
  have abt : h_ad z tp 0 = bt := h_ad.at rbt
  obtain ⟨n_1, en_1⟩ : ∃ v : Int32, v = I0 tp 1 := ⟨_, rfl⟩
  have qn_1 : (I0 tp 1).toInt = n_1.toInt := congrArg Int32.toInt en_1.symm
  have jn_1 := hI.rd tp 1 ttp en_1 (rfl : h_bd 9 1 = (0, 500))
  obtain ⟨gb, egb⟩ : ∃ g : Int → Int, g = q_at (I0 bt) (I0 tp 1).toInt := ⟨_, rfl⟩
  obtain ⟨f0_6, ef0_6⟩ : ∃ v : Int32, v = I0 a0 6 := ⟨_, rfl⟩
  have qf0_6 : (I0 a0 6).toInt = f0_6.toInt := congrArg Int32.toInt ef0_6.symm
  have jf0_6 := hI.rd a0 6 t_a0 ef0_6 (rfl : h_bd 5 6 = ((-2147483648), 2147483647))
  obtain ⟨f0_2, ef0_2⟩ : ∃ v : Int32, v = I0 a0 2 := ⟨_, rfl⟩
  have qf0_2 : (I0 a0 2).toInt = f0_2.toInt := congrArg Int32.toInt ef0_2.symm
  have jf0_2 := hI.rd a0 2 t_a0 ef0_2 (rfl : h_bd 5 2 = ((-2147483648), 2147483647))
  obtain ⟨f0_3, ef0_3⟩ : ∃ v : Int32, v = I0 a0 3 := ⟨_, rfl⟩
  have qf0_3 : (I0 a0 3).toInt = f0_3.toInt := congrArg Int32.toInt ef0_3.symm
  have jf0_3 := hI.rd a0 3 t_a0 ef0_3 (rfl : h_bd 5 3 = ((-2147483648), 2147483647))
  obtain ⟨rd, rrd, trd⟩ := hR.at a0 1 t_a0 (rfl : h_rs 5 1 = some (6, false)) (by decide)
  have ard : h_ad z a0 1 = rd := h_ad.at rrd
  obtain ⟨nu, rnu, tnu⟩ := hR.at rd 0 trd (rfl : h_rs 6 0 = some (600, false)) (by decide)
  have anu : h_ad z rd 0 = nu := h_ad.at rnu
  obtain ⟨lo, rlo, tlo⟩ := hR.at rd 1 trd (rfl : h_rs 6 1 = some (601, false)) (by decide)
  have alo : h_ad z rd 1 = lo := h_ad.at rlo
  rw [ard, anu, alo] at hu
  have hlw := hu
  have hap : h_ap z I0 I0 rd nu lo := h_ap.rf
  rw [qf0_6] at hp
  have q8 := q_lohi8
  refine lv_iconst (v := 0) hx hb dX4_readLots_0 (by decide) ?_
  refine lv_istore_n (lv' := [(1, .int 0), (0, .ref a0)]) hx hb dX4_readLots_1 rfl hl (by decide) rfl (fun ls hl => ?_)
  have loop2_0 : ∀ (n : Nat) (I2 : tI) (H : Heap) (locs : List Loc) (ls : Array Slot) (v1 : Int32) (u3 : Nat → Int), h_G h_so h_fk E A z I2 L0 s s.heap H locs → h_I z I2 → h_F [(5, 4), (5, 5), (5, 6), (5, 7), (5, 2), (5, 3), (601, 999), (6, 2)] z I0 I2 → lv_has ls 2 [(0, .ref a0), (1, .int v1)] → (0 ≤ v1.toInt ∧ v1.toInt ≤ 6) → (0 ≤ (I2 a0 6).toInt ∧ (I2 a0 6).toInt ≤ 500 ∧ f0_6.toInt ≤ (I2 a0 6).toInt ∧ (v1.toInt = 0 ∨ f0_6.toInt < (I2 a0 6).toInt)) → (q_lt gb 6 0 f0_6.toInt u_ = q_lt gb (6 - v1.toInt).toNat (v1.toInt).toNat (I2 a0 6).toInt u3) → (v1.toInt = 0 ∨ u3 8 = v1.toInt) → (I2 a0 2 = I0 a0 2 ∧ I2 a0 3 = I0 a0 3) → (h_lw I2 rd nu lo u3) → (h_ap z I0 I2 rd nu lo) → (7 - v1.toInt) < (n : Int) → W pr_ l ev_ (headSpec wsX4_readLots ({ frames := 4, cells := 0, slots := 0, locals := 256 })).room s m ([.ref a0] : List Value).toArray below meth cd_ H locs 0 0 (MQ below (va_Qi (fun r (I1 : tI) => h_I z I1 ∧ h_F [(5, 4), (5, 5), (5, 6), (5, 7), (5, 2), (5, 3), (601, 999), (6, 2)] z I0 I1 ∧ (0 ≤ r.toInt ∧ r.toInt ≤ 1) ∧ ((r.toInt = 1 ∧ (q_lt (q_at (I0 (h_ad z (h_ad z a0 0) 0)) (I0 (h_ad z a0 0) 1).toInt) 6 0 (I0 a0 6).toInt u_).1 = 0 ∧ (I1 a0 6).toInt = (q_lt (q_at (I0 (h_ad z (h_ad z a0 0) 0)) (I0 (h_ad z a0 0) 1).toInt) 6 0 (I0 a0 6).toInt u_).2.2.1 ∧ h_lw I1 (h_ad z a0 1) (h_ad z (h_ad z a0 1) 0) (h_ad z (h_ad z a0 1) 1) (q_lt (q_at (I0 (h_ad z (h_ad z a0 0) 0)) (I0 (h_ad z a0 0) 1).toInt) 6 0 (I0 a0 6).toInt u_).2.2.2 ∧ I1 a0 2 = I0 a0 2 ∧ I1 a0 3 = I0 a0 3 ∧ (I0 a0 6).toInt < (I1 a0 6).toInt ∧ (I1 a0 6).toInt ≤ 500) ∨ (r.toInt = 0 ∧ (q_lt (q_at (I0 (h_ad z (h_ad z a0 0) 0)) (I0 (h_ad z a0 0) 1).toInt) 6 0 (I0 a0 6).toInt u_).1 ≠ 0 ∧ (I1 a0 2).toInt = (q_lt (q_at (I0 (h_ad z (h_ad z a0 0) 0)) (I0 (h_ad z a0 0) 1).toInt) 6 0 (I0 a0 6).toInt u_).1 ∧ (I1 a0 3).toInt = (q_lt (q_at (I0 (h_ad z (h_ad z a0 0) 0)) (I0 (h_ad z a0 0) 1).toInt) 6 0 (I0 a0 6).toInt u_).2.1)) ∧ (h_ap z I0 I1 (h_ad z a0 1) (h_ad z (h_ad z a0 1) 0) (h_ad z (h_ad z a0 1) 1))) (fun (I1 : tI) t => h_B E A z I1 L0 t) A) ([.ref a0] : List Value).toArray s 0 0 A) (F0 m 2 ls []) := by
    intro n
    induction n with
    | zero => intro I2 H locs ls v1 u3 g hI hF hl jv1 hx2_0 hx2_1 hx2_2 hx2_3 hlw hap hn; exact absurd hn (by omega)
    | succ n ih2 =>
      intro I2 H locs ls v1 u3 g hI hF hl jv1 hx2_0 hx2_1 hx2_2 hx2_3 hlw hap hn
      obtain ⟨v4, ev4⟩ : ∃ v : Int32, v = I2 a0 6 := ⟨_, rfl⟩
      rw [← ev4] at hx2_0 hx2_1
      have jv4 := hI.rd a0 6 t_a0 ev4 (rfl : h_bd 5 6 = ((-2147483648), 2147483647))
      refine lv_iload_n hx hb dX4_readLots_2 rfl (lv_at hl 1 rfl) ?_
      refine lv_bipush (v := 6) hx hb dX4_readLots_3 (by decide) ?_
      refine lv_icmp_ge (tgt := 55) hx hb dX4_readLots_5 (by decide) (fun c5 => ?_) (fun c5 => ?_)
      · have ic5 := (xi_le c5 (by decide) rfl : 6 ≤ v1.toInt)
        refine lv_aload_n hx hb dX4_readLots_55 rfl (lv_at hl 0 rfl) ?_
        have hFo := hF
        refine va_callv (va_runV (As := []) (rest := []) ⟨hx, hb, hml, hown, hts⟩ (tX4_readTokenF l E X A z I2 L0 a0 t_a0 (by rw [show I2 a0 6 = v4 from ev4.symm]; omega)) (cwV 0 hts gX4_readLots_X4_readToken rfl rfl rfl (by decide +kernel) ⟨Nat.le_of_ble_eq_true rfl, Nat.le_of_ble_eq_true rfl⟩) ⟨h_blind _ _ _ _ _ _ _, h_recv g t_a0 (by decide) so_5 (q := (RX4, TX4, 9)) rfl, h_pre _ hE hk hX hA hI hR g⟩ rfl rfl hl.1 rfl (lv_room (Nat.le_of_ble_eq_true rfl)) dX4_readLots_56 ⟨Nat.le_of_ble_eq_true rfl, Nat.le_of_ble_eq_true rfl⟩) g.2.1 (fun q _ h => h) (fun q h => h) (fun I7 t H1 locs ht hvm h6 hB hz1 hk1 hS => ?_)
        obtain ⟨hI, fh6, h6⟩ := h6
        replace g := h_after g hB ht hS
        generalize H1 = H at g
        clear hB hk1 hz1 ht hvm hS
        have hF := hF.call fh6 rfl
        obtain ⟨h6p0, h6p1, h6p2, h6p3, h6p4, h6p5⟩ := h6
        have hlw : h_lw I7 rd nu lo u3 := hlw.c (fun i => fh6.at tnu rfl) (fh6.at trd rfl) (fun i => fh6.at tlo rfl)
        have hap : h_ap z I0 I7 rd nu lo := hap.F fh6 (fun _ => rfl) (fun _ => rfl) (fun _ => rfl)
        rw [atp, abt, show I2 bt = I0 bt from funext (fun k => hFo.at tbt rfl), show I2 tp 1 = I0 tp 1 from hFo.at ttp rfl, ← egb, show I2 a0 6 = v4 from ev4.symm] at h6p0 h6p1 h6p2 h6p3
        rw [show I2 a0 6 = v4 from ev4.symm] at h6p4
        obtain ⟨v8, ev8⟩ : ∃ v : Int32, v = I7 a0 5 := ⟨_, rfl⟩
        rw [← ev8] at h6p0 h6p4 h6p5
        obtain ⟨v9, ev9⟩ : ∃ v : Int32, v = I7 a0 6 := ⟨_, rfl⟩
        rw [← ev9] at h6p1 h6p4 h6p5
        obtain ⟨v10, ev10⟩ : ∃ v : Int32, v = I7 a0 4 := ⟨_, rfl⟩
        rw [← ev10] at h6p2 h6p3 h6p5
        obtain ⟨v11, ev11⟩ : ∃ v : Int32, v = I7 a0 7 := ⟨_, rfl⟩
        rw [← ev11] at h6p3
        refine lv_aload_n hx hb dX4_readLots_59 rfl (lv_at hl 0 rfl) ?_
        refine h_get (v := .int v10) hx hb hts iX4 hown g t_a0 (by decide) so_5 rfl 4 (by decide) (hts (.fieldLink RX4 43 "CapLeague$LawReader" "kind" "I") (by decide +kernel)) rfl dX4_readLots_60 (congrArg Value.int (ev10.symm)) ?_
        refine lv_iconst (v := 3) hx hb dX4_readLots_63 (by decide) ?_
        refine lv_icmp_eq (tgt := 75) hx hb dX4_readLots_64 (by decide) (fun c12 => ?_) (fun c12 => ?_)
        · have ic12 := (xi_eq c12 rfl (by decide) : v10.toInt = 3)
          refine lv_iconst (v := 1) hx hb dX4_readLots_75 (by decide) ?_
          refine lv_goto (tgt := 80) hx hb dX4_readLots_76 (by decide) ?_
          have hS := g.2.1
          exact W.zret (v := 1) hx hb hr (by decide) (fun t ht hW => ⟨⟨1, I7, rfl, ⟨hI, hF, ⟨⟨(by decide), (by decide)⟩, (by rw [atp, abt, ← egb, qf0_6, ard, anu, alo]; have R : q_lt gb 6 0 f0_6.toInt u_ = (0, 0, q_e gb v4.toInt, u3) := hx2_1.trans (q_lt_m (by omega) (by omega) (by omega)); rw [R]; exact Or.inl ⟨by decide, rfl, (by show (I7 a0 6).toInt = q_e gb v4.toInt; rw [ev9.symm]; exact h6p1), hlw, (h_F.at fh6 t_a0 rfl).trans (hx2_3.1), (h_F.at fh6 t_a0 rfl).trans (hx2_3.2), by rw [ev9.symm]; omega, by rw [ev9.symm]; omega⟩), (by rw [ard, anu, alo]; exact hap)⟩⟩, h_ret g ht⟩, hS.F ht⟩) hS.2.2 dX4_readLots_80
        · have ic12 := (xi_ne c12 rfl (by decide) : v10.toInt ≠ 3)
          refine lv_aload_n hx hb dX4_readLots_67 rfl (lv_at hl 0 rfl) ?_
          refine lv_iconst (v := 1) hx hb dX4_readLots_68 (by decide) ?_
          refine va_calli (va_runV (As := [.int 1]) (rest := []) ⟨hx, hb, hml, hown, hts⟩ (tX4_failF l E X A z I7 L0 a0 t_a0 1 (1) (by decide)) (cwV 1 hts gX4_readLots_X4_fail rfl rfl rfl (by decide +kernel) ⟨Nat.le_of_ble_eq_true rfl, Nat.le_of_ble_eq_true rfl⟩) ⟨h_blind _ _ _ _ _ _ _, h_recv g t_a0 (by decide) so_5 (q := (RX4, TX4, 9)) rfl, h_pre _ hE hk hX hA hI hR g⟩ rfl rfl hl.1 rfl (lv_room (Nat.le_of_ble_eq_true rfl)) dX4_readLots_69 ⟨Nat.le_of_ble_eq_true rfl, Nat.le_of_ble_eq_true rfl⟩) g.2.1 (fun q _ h => h) (fun q h => h) (fun rh13 I14 t H1 locs ht hvm h13 hB hz1 hk1 hS => ?_)
          obtain ⟨hI, fh13, h13⟩ := h13
          replace g := h_after g hB ht hS
          generalize H1 = H at g
          clear hB hk1 hz1 ht hvm hS
          have hF := hF.call fh13 rfl
          obtain ⟨h13, h13p0⟩ := h13
          have hlw : h_lw I14 rd nu lo u3 := hlw.c (fun i => fh13.at tnu rfl) (fh13.at trd rfl) (fun i => fh13.at tlo rfl)
          have hap : h_ap z I0 I14 rd nu lo := hap.F fh13 (fun _ => rfl) (fun _ => rfl) (fun _ => rfl)
          refine lv_if_eq (tgt := 79) hx hb dX4_readLots_72 (by decide) (fun c15 => ?_) (fun h => absurd (xi_ne h rfl (by decide) : rh13.toInt ≠ 0) (by omega))
          have ic15 := (xi_eq c15 rfl (by decide) : rh13.toInt = 0)
          refine lv_iconst (v := 0) hx hb dX4_readLots_79 (by decide) ?_
          have hS := g.2.1
          exact W.zret (v := 0) hx hb hr (by decide) (fun t ht hW => ⟨⟨0, I14, rfl, ⟨hI, hF, ⟨⟨(by decide), (by decide)⟩, (by rw [atp, abt, ← egb, qf0_6, ard, anu, alo]; have R : q_lt gb 6 0 f0_6.toInt u_ = (1, q_a gb v4.toInt, v4.toInt, u3) := hx2_1.trans (q_lt_f6 (by omega) (by omega)); rw [R]; exact Or.inr ⟨by decide, (by show (1 : Int) ≠ 0; decide), (by rw [h13p0.1]; exact (by decide : (1 : Int32).toInt = 1)), (by show (I14 a0 3).toInt = q_a gb v4.toInt; rw [h13p0.2, ev8.symm]; exact h6p0)⟩), (by rw [ard, anu, alo]; exact hap)⟩⟩, h_ret g ht⟩, hS.F ht⟩) hS.2.2 dX4_readLots_80
      · have ic5 := (xi_nle c5 (by decide) rfl : v1.toInt < 6)
        refine lv_aload_n hx hb dX4_readLots_8 rfl (lv_at hl 0 rfl) ?_
        have hFo := hF
        refine va_callv (va_runV (As := []) (rest := []) ⟨hx, hb, hml, hown, hts⟩ (tX4_readTokenF l E X A z I2 L0 a0 t_a0 (by rw [show I2 a0 6 = v4 from ev4.symm]; omega)) (cwV 0 hts gX4_readLots_X4_readToken rfl rfl rfl (by decide +kernel) ⟨Nat.le_of_ble_eq_true rfl, Nat.le_of_ble_eq_true rfl⟩) ⟨h_blind _ _ _ _ _ _ _, h_recv g t_a0 (by decide) so_5 (q := (RX4, TX4, 9)) rfl, h_pre _ hE hk hX hA hI hR g⟩ rfl rfl hl.1 rfl (lv_room (Nat.le_of_ble_eq_true rfl)) dX4_readLots_9 ⟨Nat.le_of_ble_eq_true rfl, Nat.le_of_ble_eq_true rfl⟩) g.2.1 (fun q _ h => h) (fun q h => h) (fun I17 t H1 locs ht hvm h16 hB hz1 hk1 hS => ?_)
        obtain ⟨hI, fh16, h16⟩ := h16
        replace g := h_after g hB ht hS
        generalize H1 = H at g
        clear hB hk1 hz1 ht hvm hS
        have hF := hF.call fh16 rfl
        obtain ⟨h16p0, h16p1, h16p2, h16p3, h16p4, h16p5⟩ := h16
        have hlw : h_lw I17 rd nu lo u3 := hlw.c (fun i => fh16.at tnu rfl) (fh16.at trd rfl) (fun i => fh16.at tlo rfl)
        have hap : h_ap z I0 I17 rd nu lo := hap.F fh16 (fun _ => rfl) (fun _ => rfl) (fun _ => rfl)
        rw [atp, abt, show I2 bt = I0 bt from funext (fun k => hFo.at tbt rfl), show I2 tp 1 = I0 tp 1 from hFo.at ttp rfl, ← egb, show I2 a0 6 = v4 from ev4.symm] at h16p0 h16p1 h16p2 h16p3
        rw [show I2 a0 6 = v4 from ev4.symm] at h16p4
        obtain ⟨v18, ev18⟩ : ∃ v : Int32, v = I17 a0 5 := ⟨_, rfl⟩
        rw [← ev18] at h16p0 h16p4 h16p5
        obtain ⟨v19, ev19⟩ : ∃ v : Int32, v = I17 a0 6 := ⟨_, rfl⟩
        rw [← ev19] at h16p1 h16p4 h16p5
        obtain ⟨v20, ev20⟩ : ∃ v : Int32, v = I17 a0 4 := ⟨_, rfl⟩
        rw [← ev20] at h16p2 h16p3 h16p5
        obtain ⟨v21, ev21⟩ : ∃ v : Int32, v = I17 a0 7 := ⟨_, rfl⟩
        rw [← ev21] at h16p3
        refine lv_aload_n hx hb dX4_readLots_12 rfl (lv_at hl 0 rfl) ?_
        refine h_get (v := .int v20) hx hb hts iX4 hown g t_a0 (by decide) so_5 rfl 4 (by decide) (hts (.fieldLink RX4 43 "CapLeague$LawReader" "kind" "I") (by decide +kernel)) rfl dX4_readLots_13 (congrArg Value.int (ev20.symm)) ?_
        refine lv_iconst (v := 3) hx hb dX4_readLots_16 (by decide) ?_
        refine lv_icmp_ne (tgt := 26) hx hb dX4_readLots_17 (by decide) (fun c22 => ?_) (fun c22 => ?_)
        · have ic22 := (xi_ne c22 rfl (by decide) : v20.toInt ≠ 3)
          refine lv_aload_n hx hb dX4_readLots_26 rfl (lv_at hl 0 rfl) ?_
          refine lv_bipush (v := 8) hx hb dX4_readLots_27 (by decide) ?_
          refine va_calli (va_runV (As := [.int 8]) (rest := []) ⟨hx, hb, hml, hown, hts⟩ (tX4_isNumberForF l E X A z I17 L0 a0 t_a0 8 (8) (by decide) (by omega)) (cwV 1 hts gX4_readLots_X4_isNumberFor rfl rfl rfl (by decide +kernel) ⟨Nat.le_of_ble_eq_true rfl, Nat.le_of_ble_eq_true rfl⟩) ⟨h_blind _ _ _ _ _ _ _, h_recv g t_a0 (by decide) so_5 (q := (RX4, TX4, 9)) rfl, h_pre _ hE hk hX hA hI hR g⟩ rfl rfl hl.1 rfl (lv_room (Nat.le_of_ble_eq_true rfl)) dX4_readLots_29 ⟨Nat.le_of_ble_eq_true rfl, Nat.le_of_ble_eq_true rfl⟩) g.2.1 (fun q _ h => h) (fun q h => h) (fun rh23 I24 t H1 locs ht hvm h23 hB hz1 hk1 hS => ?_)
          obtain ⟨hI, fh23, h23⟩ := h23
          replace g := h_after g hB ht hS
          generalize H1 = H at g
          clear hB hk1 hz1 ht hvm hS
          have hF := hF.call fh23 rfl
          obtain ⟨h23, h23p0⟩ := h23
          have hlw : h_lw I24 rd nu lo u3 := hlw.c (fun i => fh23.at tnu rfl) (fh23.at trd rfl) (fun i => fh23.at tlo rfl)
          have hap : h_ap z I0 I24 rd nu lo := hap.F fh23 (fun _ => rfl) (fun _ => rfl) (fun _ => rfl)
          rw [show I17 a0 4 = v20 from ev20.symm, show I17 a0 7 = v21 from ev21.symm, show I17 a0 5 = v18 from ev18.symm] at h23p0
          refine lv_if_ne (tgt := 37) hx hb dX4_readLots_32 (by decide) (fun c25 => ?_) (fun c25 => ?_)
          · have ic25 := (xi_ne c25 rfl (by decide) : rh23.toInt ≠ 0)
            have nf : v20.toInt = 2 ∧ q_lo 8 ≤ v21.toInt ∧ v21.toInt ≤ q_hi 8 ∧ I24 a0 2 = I17 a0 2 ∧ I24 a0 3 = I17 a0 3 := by rcases h23p0 with q | q | q; exact q.2; exact absurd q.1 (by omega); exact absurd q.1 (by omega)
            refine lv_aload_n hx hb dX4_readLots_37 rfl (lv_at hl 0 rfl) ?_
            refine h_get (v := .ref rd) hx hb hts iX4 hown g t_a0 (by decide) so_5 rfl 1 (by decide) (hts (.fieldLink RX4 12 "CapLeague$LawReader" "read" "LCapLeague$Laws;") (by decide +kernel)) rfl dX4_readLots_38 (by show va_rf (z.R a0 1) = _; rw [rrd]; rfl) ?_
            refine lv_iload_n hx hb dX4_readLots_41 rfl (lv_at hl 1 rfl) ?_
            refine lv_aload_n hx hb dX4_readLots_42 rfl (lv_at hl 0 rfl) ?_
            refine h_get (v := .int v21) hx hb hts iX4 hown g t_a0 (by decide) so_5 rfl 7 (by decide) (hts (.fieldLink RX4 67 "CapLeague$LawReader" "value" "I") (by decide +kernel)) rfl dX4_readLots_43 (congrArg Value.int ((h_F.at fh23 t_a0 rfl).trans (ev21.symm))) ?_
            refine va_callv (va_runV (As := [.int v1, .int v21]) (rest := []) ⟨hx, hb, hml, hown, hts⟩ (tX5_putLotF l E X A z I24 L0 rd trd v1 (v1.toInt) rfl (by omega) v21 (v21.toInt) rfl) (cwV 2 hts gX4_readLots_X5_putLot rfl rfl rfl (by decide +kernel) ⟨Nat.le_of_ble_eq_true rfl, Nat.le_of_ble_eq_true rfl⟩) ⟨h_blind _ _ _ _ _ _ _, h_recv g trd (by decide) so_6 (q := (RX5, TX5, 3)) rfl, h_pre _ hE hk hX hA hI hR g⟩ rfl rfl hl.1 rfl (lv_room (Nat.le_of_ble_eq_true rfl)) dX4_readLots_46 ⟨Nat.le_of_ble_eq_true rfl, Nat.le_of_ble_eq_true rfl⟩) g.2.1 (fun q _ h => h) (fun q h => h) (fun I27 t H1 locs ht hvm h26 hB hz1 hk1 hS => ?_)
            obtain ⟨hI, fh26, h26⟩ := h26
            replace g := h_after g hB ht hS
            generalize H1 = H at g
            clear hB hk1 hz1 ht hvm hS
            have hF := hF.call fh26 rfl
            have h26p0 := h26
            rw [alo] at h26p0
            obtain ⟨Jh26, ch26, m1h26, m2h26, m3h26⟩ := h26p0
            have hlw : h_lw I27 rd nu lo (q_up (q_up u3 (9 + (v1.toInt).toNat) v21.toInt) 8 (((v1.toInt).toNat : Int) + 1)) := hlw.lot (z := z) (k := (v1.toInt).toNat) m1h26 m2h26 (by omega) trd tnu tlo (by omega) (by omega)
            have hap : h_ap z I0 I27 rd nu lo := (hap.wl m1h26 tlo).wa m2h26 trd
            obtain ⟨v28, ev28⟩ : ∃ z : Int32, z = v1 + 1 := ⟨_, rfl⟩
            have jv28 : v28.toInt = v1.toInt + 1 := xi_add ev28 rfl (by decide) (by omega) (by omega)
            refine lv_iinc (v := v28) (lv' := [(1, .int v28), (0, .ref a0)]) hx hb dX4_readLots_49 hl (k := 1) rfl (by rw [ev28]; rfl) (by decide) rfl (fun ls hl => ?_)
            refine lv_goto (tgt := 2) hx hb dX4_readLots_52 (by decide) ?_
            have k29 : (I27 a0 6).toInt = v19.toInt := (congrArg Int32.toInt ((h_F.at fh26 t_a0 rfl).trans ((h_F.at fh23 t_a0 rfl).trans (ev19.symm)))).trans rfl
            exact ih2 I27 _ _ _ v28 ((q_up (q_up u3 (9 + (v1.toInt).toNat) v21.toInt) 8 (((v1.toInt).toNat : Int) + 1))) g hI hF (lv_sub hl [1, 0] rfl) (by omega) (by omega) (hx2_1.trans (q_lt_ok (i := v1.toInt) (by omega) (by omega) (by omega) (by omega) (h16p3 (by omega)) (by omega) (by omega) (by omega))) (Or.inr (by rw [q_up_eq]; omega)) (⟨(((h_F.at fh26 t_a0 rfl).trans (nf.2.2.2.1)).trans (h_F.at fh16 t_a0 rfl)).trans (hx2_3.1), (((h_F.at fh26 t_a0 rfl).trans (nf.2.2.2.2)).trans (h_F.at fh16 t_a0 rfl)).trans (hx2_3.2)⟩) hlw hap (by omega)
          · have ic25 := (xi_eq c25 rfl (by decide) : rh23.toInt = 0)
            have nf : (v20.toInt ≠ 2 ∧ (I24 a0 2).toInt = 1 ∧ I24 a0 3 = v18) ∨ (v20.toInt = 2 ∧ (v21.toInt < q_lo 8 ∨ q_hi 8 < v21.toInt) ∧ (I24 a0 2).toInt = 2 ∧ I24 a0 3 = v18) := by rcases h23p0 with q | q | q; exact absurd q.1 (by omega); exact Or.inl q.2; exact Or.inr q.2
            refine lv_iconst (v := 0) hx hb dX4_readLots_35 (by decide) ?_
            have hS := g.2.1
            exact W.zret (v := 0) hx hb hr (by decide) (fun t ht hW => ⟨⟨0, I24, rfl, ⟨hI, hF, ⟨⟨(by decide), (by decide)⟩, (by rw [atp, abt, ← egb, qf0_6, ard, anu, alo]; rcases nf with ⟨n1, n2, n3⟩ | ⟨n1, n2, n3, n4⟩; have R : q_lt gb 6 0 f0_6.toInt u_ = (1, q_a gb v4.toInt, v4.toInt, u3) := hx2_1.trans (q_lt_f1 (by omega) (by omega) (by omega) (by omega)); rw [R]; exact Or.inr ⟨by decide, (by show (1 : Int) ≠ 0; decide), n2, (by show (I24 a0 3).toInt = q_a gb v4.toInt; rw [n3]; exact h16p0)⟩; have R : q_lt gb 6 0 f0_6.toInt u_ = (2, q_a gb v4.toInt, v4.toInt, u3) := hx2_1.trans (q_lt_f2 (by omega) (by omega) (by omega) (by have h9 := h16p3 (by omega); omega)); rw [R]; exact Or.inr ⟨by decide, (by show (2 : Int) ≠ 0; decide), n3, (by show (I24 a0 3).toInt = q_a gb v4.toInt; rw [n4]; exact h16p0)⟩), (by rw [ard, anu, alo]; exact hap)⟩⟩, h_ret g ht⟩, hS.F ht⟩) hS.2.2 dX4_readLots_36
        · have ic22 := (xi_eq c22 rfl (by decide) : v20.toInt = 3)
          refine lv_iload_n hx hb dX4_readLots_20 rfl (lv_at hl 1 rfl) ?_
          refine lv_if_le (tgt := 26) hx hb dX4_readLots_21 (by decide) (fun c30 => ?_) (fun c30 => ?_)
          · have ic30 := (xi_le c30 rfl (by decide) : v1.toInt ≤ 0)
            refine lv_aload_n hx hb dX4_readLots_26 rfl (lv_at hl 0 rfl) ?_
            refine lv_bipush (v := 8) hx hb dX4_readLots_27 (by decide) ?_
            refine va_calli (va_runV (As := [.int 8]) (rest := []) ⟨hx, hb, hml, hown, hts⟩ (tX4_isNumberForF l E X A z I17 L0 a0 t_a0 8 (8) (by decide) (by omega)) (cwV 1 hts gX4_readLots_X4_isNumberFor rfl rfl rfl (by decide +kernel) ⟨Nat.le_of_ble_eq_true rfl, Nat.le_of_ble_eq_true rfl⟩) ⟨h_blind _ _ _ _ _ _ _, h_recv g t_a0 (by decide) so_5 (q := (RX4, TX4, 9)) rfl, h_pre _ hE hk hX hA hI hR g⟩ rfl rfl hl.1 rfl (lv_room (Nat.le_of_ble_eq_true rfl)) dX4_readLots_29 ⟨Nat.le_of_ble_eq_true rfl, Nat.le_of_ble_eq_true rfl⟩) g.2.1 (fun q _ h => h) (fun q h => h) (fun rh31 I32 t H1 locs ht hvm h31 hB hz1 hk1 hS => ?_)
            obtain ⟨hI, fh31, h31⟩ := h31
            replace g := h_after g hB ht hS
            generalize H1 = H at g
            clear hB hk1 hz1 ht hvm hS
            have hF := hF.call fh31 rfl
            obtain ⟨h31, h31p0⟩ := h31
            have hlw : h_lw I32 rd nu lo u3 := hlw.c (fun i => fh31.at tnu rfl) (fh31.at trd rfl) (fun i => fh31.at tlo rfl)
            have hap : h_ap z I0 I32 rd nu lo := hap.F fh31 (fun _ => rfl) (fun _ => rfl) (fun _ => rfl)
            rw [show I17 a0 4 = v20 from ev20.symm, show I17 a0 7 = v21 from ev21.symm, show I17 a0 5 = v18 from ev18.symm] at h31p0
            refine lv_if_ne (tgt := 37) hx hb dX4_readLots_32 (by decide) (fun c33 => ?_) (fun c33 => ?_)
            · have ic33 := (xi_ne c33 rfl (by decide) : rh31.toInt ≠ 0)
              have nf : v20.toInt = 2 ∧ q_lo 8 ≤ v21.toInt ∧ v21.toInt ≤ q_hi 8 ∧ I32 a0 2 = I17 a0 2 ∧ I32 a0 3 = I17 a0 3 := by rcases h31p0 with q | q | q; exact q.2; exact absurd q.1 (by omega); exact absurd q.1 (by omega)
              refine lv_aload_n hx hb dX4_readLots_37 rfl (lv_at hl 0 rfl) ?_
              refine h_get (v := .ref rd) hx hb hts iX4 hown g t_a0 (by decide) so_5 rfl 1 (by decide) (hts (.fieldLink RX4 12 "CapLeague$LawReader" "read" "LCapLeague$Laws;") (by decide +kernel)) rfl dX4_readLots_38 (by show va_rf (z.R a0 1) = _; rw [rrd]; rfl) ?_
              refine lv_iload_n hx hb dX4_readLots_41 rfl (lv_at hl 1 rfl) ?_
              refine lv_aload_n hx hb dX4_readLots_42 rfl (lv_at hl 0 rfl) ?_
              refine h_get (v := .int v21) hx hb hts iX4 hown g t_a0 (by decide) so_5 rfl 7 (by decide) (hts (.fieldLink RX4 67 "CapLeague$LawReader" "value" "I") (by decide +kernel)) rfl dX4_readLots_43 (congrArg Value.int ((h_F.at fh31 t_a0 rfl).trans (ev21.symm))) ?_
              refine va_callv (va_runV (As := [.int v1, .int v21]) (rest := []) ⟨hx, hb, hml, hown, hts⟩ (tX5_putLotF l E X A z I32 L0 rd trd v1 (v1.toInt) rfl (by omega) v21 (v21.toInt) rfl) (cwV 2 hts gX4_readLots_X5_putLot rfl rfl rfl (by decide +kernel) ⟨Nat.le_of_ble_eq_true rfl, Nat.le_of_ble_eq_true rfl⟩) ⟨h_blind _ _ _ _ _ _ _, h_recv g trd (by decide) so_6 (q := (RX5, TX5, 3)) rfl, h_pre _ hE hk hX hA hI hR g⟩ rfl rfl hl.1 rfl (lv_room (Nat.le_of_ble_eq_true rfl)) dX4_readLots_46 ⟨Nat.le_of_ble_eq_true rfl, Nat.le_of_ble_eq_true rfl⟩) g.2.1 (fun q _ h => h) (fun q h => h) (fun I35 t H1 locs ht hvm h34 hB hz1 hk1 hS => ?_)
              obtain ⟨hI, fh34, h34⟩ := h34
              replace g := h_after g hB ht hS
              generalize H1 = H at g
              clear hB hk1 hz1 ht hvm hS
              have hF := hF.call fh34 rfl
              have h34p0 := h34
              rw [alo] at h34p0
              obtain ⟨Jh34, ch34, m1h34, m2h34, m3h34⟩ := h34p0
              have hlw : h_lw I35 rd nu lo (q_up (q_up u3 (9 + (v1.toInt).toNat) v21.toInt) 8 (((v1.toInt).toNat : Int) + 1)) := hlw.lot (z := z) (k := (v1.toInt).toNat) m1h34 m2h34 (by omega) trd tnu tlo (by omega) (by omega)
              have hap : h_ap z I0 I35 rd nu lo := (hap.wl m1h34 tlo).wa m2h34 trd
              obtain ⟨v36, ev36⟩ : ∃ z : Int32, z = v1 + 1 := ⟨_, rfl⟩
              have jv36 : v36.toInt = v1.toInt + 1 := xi_add ev36 rfl (by decide) (by omega) (by omega)
              refine lv_iinc (v := v36) (lv' := [(1, .int v36), (0, .ref a0)]) hx hb dX4_readLots_49 hl (k := 1) rfl (by rw [ev36]; rfl) (by decide) rfl (fun ls hl => ?_)
              refine lv_goto (tgt := 2) hx hb dX4_readLots_52 (by decide) ?_
              have k37 : (I35 a0 6).toInt = v19.toInt := (congrArg Int32.toInt ((h_F.at fh34 t_a0 rfl).trans ((h_F.at fh31 t_a0 rfl).trans (ev19.symm)))).trans rfl
              exact ih2 I35 _ _ _ v36 ((q_up (q_up u3 (9 + (v1.toInt).toNat) v21.toInt) 8 (((v1.toInt).toNat : Int) + 1))) g hI hF (lv_sub hl [1, 0] rfl) (by omega) (by omega) (hx2_1.trans (q_lt_ok (i := v1.toInt) (by omega) (by omega) (by omega) (by omega) (h16p3 (by omega)) (by omega) (by omega) (by omega))) (Or.inr (by rw [q_up_eq]; omega)) (⟨(((h_F.at fh34 t_a0 rfl).trans (nf.2.2.2.1)).trans (h_F.at fh16 t_a0 rfl)).trans (hx2_3.1), (((h_F.at fh34 t_a0 rfl).trans (nf.2.2.2.2)).trans (h_F.at fh16 t_a0 rfl)).trans (hx2_3.2)⟩) hlw hap (by omega)
            · have ic33 := (xi_eq c33 rfl (by decide) : rh31.toInt = 0)
              have nf : (v20.toInt ≠ 2 ∧ (I32 a0 2).toInt = 1 ∧ I32 a0 3 = v18) ∨ (v20.toInt = 2 ∧ (v21.toInt < q_lo 8 ∨ q_hi 8 < v21.toInt) ∧ (I32 a0 2).toInt = 2 ∧ I32 a0 3 = v18) := by rcases h31p0 with q | q | q; exact absurd q.1 (by omega); exact Or.inl q.2; exact Or.inr q.2
              refine lv_iconst (v := 0) hx hb dX4_readLots_35 (by decide) ?_
              have hS := g.2.1
              exact W.zret (v := 0) hx hb hr (by decide) (fun t ht hW => ⟨⟨0, I32, rfl, ⟨hI, hF, ⟨⟨(by decide), (by decide)⟩, (by rw [atp, abt, ← egb, qf0_6, ard, anu, alo]; rcases nf with ⟨n1, n2, n3⟩ | ⟨n1, n2, n3, n4⟩; have R : q_lt gb 6 0 f0_6.toInt u_ = (1, q_a gb v4.toInt, v4.toInt, u3) := hx2_1.trans (q_lt_f1 (by omega) (by omega) (by omega) (by omega)); rw [R]; exact Or.inr ⟨by decide, (by show (1 : Int) ≠ 0; decide), n2, (by show (I32 a0 3).toInt = q_a gb v4.toInt; rw [n3]; exact h16p0)⟩; have R : q_lt gb 6 0 f0_6.toInt u_ = (2, q_a gb v4.toInt, v4.toInt, u3) := hx2_1.trans (q_lt_f2 (by omega) (by omega) (by omega) (by have h9 := h16p3 (by omega); omega)); rw [R]; exact Or.inr ⟨by decide, (by show (2 : Int) ≠ 0; decide), n3, (by show (I32 a0 3).toInt = q_a gb v4.toInt; rw [n4]; exact h16p0)⟩), (by rw [ard, anu, alo]; exact hap)⟩⟩, h_ret g ht⟩, hS.F ht⟩) hS.2.2 dX4_readLots_36
          · have ic30 := (xi_nle c30 rfl (by decide) : 0 < v1.toInt)
            refine lv_iconst (v := 1) hx hb dX4_readLots_24 (by decide) ?_
            have hS := g.2.1
            exact W.zret (v := 1) hx hb hr (by decide) (fun t ht hW => ⟨⟨1, I17, rfl, ⟨hI, hF, ⟨⟨(by decide), (by decide)⟩, (by rw [atp, abt, ← egb, qf0_6, ard, anu, alo]; have R : q_lt gb 6 0 f0_6.toInt u_ = (0, 0, q_e gb v4.toInt, u3) := hx2_1.trans (q_lt_m (by omega) (by omega) (by omega)); rw [R]; exact Or.inl ⟨by decide, rfl, (by show (I17 a0 6).toInt = q_e gb v4.toInt; rw [ev19.symm]; exact h16p1), hlw, (h_F.at fh16 t_a0 rfl).trans (hx2_3.1), (h_F.at fh16 t_a0 rfl).trans (hx2_3.2), by rw [ev19.symm]; omega, by rw [ev19.symm]; omega⟩), (by rw [ard, anu, alo]; exact hap)⟩⟩, h_ret g ht⟩, hS.F ht⟩) hS.2.2 dX4_readLots_25
  have kc38 : (0 : Int32).toInt = 0 := by decide
  have k39 : (I0 a0 6).toInt = f0_6.toInt := (congrArg Int32.toInt (ef0_6.symm)).trans rfl
  exact loop2_0 _ I0 _ _ _ (0) (u_) g hI hF (lv_sub hl [1, 0] rfl) ⟨by decide, by decide⟩ (by omega) (by rw [qf0_6, show (0 : Int32).toInt = 0 by decide]; rfl) (by omega) (⟨rfl, rfl⟩) hlw hap (show (7 - (0 : Int)) < (((7 - (0 : Int)).toNat + 1 : Nat) : Int) by omega)
set_option maxHeartbeats 4000000 in
set_option maxRecDepth 100000 in
theorem tX4_readLineF (l : Launch) (E : tE) (X : tX) (A : Nat → Prop) (z : tZ) (I0 : tI) (L0 : tL) (a0 : Nat) (t_a0 : z.ty a0 = 5) (u_ : Nat → Int) (hu : h_lw I0 (h_ad z a0 1) (h_ad z (h_ad z a0 1) 0) (h_ad z (h_ad z a0 1) 1) u_) (T_ : Int → Bool) (hto : h_told (I0 a0 8) T_) (p_ : Int) (ht5 : (I0 a0 5).toInt = q_a (q_at (I0 (h_ad z (h_ad z a0 0) 0)) (I0 (h_ad z a0 0) 1).toInt) p_) (ht6 : (I0 a0 6).toInt = q_e (q_at (I0 (h_ad z (h_ad z a0 0) 0)) (I0 (h_ad z a0 0) 1).toInt) p_) (ht4 : (I0 a0 4).toInt = q_k (q_at (I0 (h_ad z (h_ad z a0 0) 0)) (I0 (h_ad z a0 0) 1).toInt) p_) (hb4 : 0 ≤ (I0 a0 5).toInt ∧ (I0 a0 5).toInt ≤ (I0 a0 6).toInt ∧ (I0 a0 6).toInt ≤ 500 ∧ ((I0 a0 4).toInt = 0 ∨ (I0 a0 5).toInt < (I0 a0 6).toInt)) : Met l yX4_readLine wsX4_readLine ({ frames := 7, cells := 0, slots := 0, locals := 448 }) (va_Pc [.ref a0] (h_P E X A z I0 L0)) (va_Qi (fun r (I1 : tI) => h_I z I1 ∧ h_F [(5, 4), (5, 5), (5, 6), (5, 7), (5, 2), (5, 3), (600, 999), (601, 999), (6, 2), (5, 8)] z I0 I1 ∧ (0 ≤ r.toInt ∧ r.toInt ≤ 1) ∧ ((r.toInt = 1 ∧ (q_line (q_at (I0 (h_ad z (h_ad z a0 0) 0)) (I0 (h_ad z a0 0) 1).toInt) p_ T_ u_).1 = 0 ∧ (I1 a0 6).toInt = (q_line (q_at (I0 (h_ad z (h_ad z a0 0) 0)) (I0 (h_ad z a0 0) 1).toInt) p_ T_ u_).2.2.1 ∧ h_lw I1 (h_ad z a0 1) (h_ad z (h_ad z a0 1) 0) (h_ad z (h_ad z a0 1) 1) (q_line (q_at (I0 (h_ad z (h_ad z a0 0) 0)) (I0 (h_ad z a0 0) 1).toInt) p_ T_ u_).2.2.2 ∧ I1 a0 2 = I0 a0 2 ∧ I1 a0 3 = I0 a0 3 ∧ (I0 a0 6).toInt < (I1 a0 6).toInt ∧ (I1 a0 6).toInt ≤ 500 ∧ h_told (I1 a0 8) (fun c => T_ c || decide (c = q_w (q_at (I0 (h_ad z (h_ad z a0 0) 0)) (I0 (h_ad z a0 0) 1).toInt) p_))) ∨ (r.toInt = 0 ∧ (q_line (q_at (I0 (h_ad z (h_ad z a0 0) 0)) (I0 (h_ad z a0 0) 1).toInt) p_ T_ u_).1 ≠ 0 ∧ (I1 a0 2).toInt = (q_line (q_at (I0 (h_ad z (h_ad z a0 0) 0)) (I0 (h_ad z a0 0) 1).toInt) p_ T_ u_).1 ∧ (I1 a0 3).toInt = (q_line (q_at (I0 (h_ad z (h_ad z a0 0) 0)) (I0 (h_ad z a0 0) 1).toInt) p_ T_ u_).2.1)) ∧ (h_ap z I0 I1 (h_ad z a0 1) (h_ad z (h_ad z a0 1) 0) (h_ad z (h_ad z a0 1) 1))) (fun (I1 : tI) t => h_B E A z I1 L0 t) A) 0 0 A := by
  refine Met.ofW (cc := cX4_readLine) (maxL := 2) (ret := (some .boolean)) (by decide) rfl ?_
  intro pr_ ev_ s m args below meth cd_ s₁ B hml hv
  obtain ⟨rfl, hE, hk, hX, hA, hK, hI, hR, hB0⟩ := hv
  have g : h_G h_so h_fk E A z I0 L0 s s.heap s.heap [] := ⟨hK, va_S.rf, hB0⟩
  have hF : h_F [(5, 4), (5, 5), (5, 6), (5, 7), (5, 2), (5, 3), (600, 999), (601, 999), (6, 2), (5, 8)] z I0 I0 := h_F.rf
  have hx := B.exec
  have hb := B.bytes
  have hr := B.returns
  have hts := atoms_spec (ws := wsX4_readLine) B.pre
  have hown : s.vm.findClass RX4 = some m.cls := findClass_of_methodNamed B.named
  have hlocks := B.notSynchronized
  have iX4 : ∀ w ∈ u_ws RX4 TX4 9, w ∈ wsX4_readLine := by decide +kernel
  have hl := lv_entry ([.ref a0]) (n := 2) (Nat.le_of_ble_eq_true rfl)
  rw [lg_entry_eq]
  generalize (lg_sl ([.ref a0]) ++ List.replicate (2 - (lg_sl ([.ref a0])).length) Slot.unset).toArray = ls at hl ⊢
  have hl : lv_has ls 2 [(0, .ref a0)] := hl
  obtain ⟨tp, rtp, ttp⟩ := hR.at a0 0 t_a0 (rfl : h_rs 5 0 = some (9, false)) (by decide)
  have atp : h_ad z a0 0 = tp := h_ad.at rtp
  obtain ⟨bt, rbt, tbt⟩ := hR.at tp 0 ttp (rfl : h_rs 9 0 = some (900, false)) (by decide)
  have abt : h_ad z tp 0 = bt := h_ad.at rbt
  obtain ⟨n_1, en_1⟩ : ∃ v : Int32, v = I0 tp 1 := ⟨_, rfl⟩
  have qn_1 : (I0 tp 1).toInt = n_1.toInt := congrArg Int32.toInt en_1.symm
  have jn_1 := hI.rd tp 1 ttp en_1 (rfl : h_bd 9 1 = (0, 500))
  obtain ⟨gb, egb⟩ : ∃ g : Int → Int, g = q_at (I0 bt) (I0 tp 1).toInt := ⟨_, rfl⟩
  obtain ⟨f0_5, ef0_5⟩ : ∃ v : Int32, v = I0 a0 5 := ⟨_, rfl⟩
  have qf0_5 : (I0 a0 5).toInt = f0_5.toInt := congrArg Int32.toInt ef0_5.symm
  have jf0_5 := hI.rd a0 5 t_a0 ef0_5 (rfl : h_bd 5 5 = ((-2147483648), 2147483647))
  obtain ⟨f0_6, ef0_6⟩ : ∃ v : Int32, v = I0 a0 6 := ⟨_, rfl⟩
  have qf0_6 : (I0 a0 6).toInt = f0_6.toInt := congrArg Int32.toInt ef0_6.symm
  have jf0_6 := hI.rd a0 6 t_a0 ef0_6 (rfl : h_bd 5 6 = ((-2147483648), 2147483647))
  obtain ⟨f0_4, ef0_4⟩ : ∃ v : Int32, v = I0 a0 4 := ⟨_, rfl⟩
  have qf0_4 : (I0 a0 4).toInt = f0_4.toInt := congrArg Int32.toInt ef0_4.symm
  have jf0_4 := hI.rd a0 4 t_a0 ef0_4 (rfl : h_bd 5 4 = ((-2147483648), 2147483647))
  obtain ⟨f0_8, ef0_8⟩ : ∃ v : Int32, v = I0 a0 8 := ⟨_, rfl⟩
  have qf0_8 : (I0 a0 8).toInt = f0_8.toInt := congrArg Int32.toInt ef0_8.symm
  have jf0_8 := hI.rd a0 8 t_a0 ef0_8 (rfl : h_bd 5 8 = ((-2147483648), 2147483647))
  obtain ⟨f0_2, ef0_2⟩ : ∃ v : Int32, v = I0 a0 2 := ⟨_, rfl⟩
  have qf0_2 : (I0 a0 2).toInt = f0_2.toInt := congrArg Int32.toInt ef0_2.symm
  have jf0_2 := hI.rd a0 2 t_a0 ef0_2 (rfl : h_bd 5 2 = ((-2147483648), 2147483647))
  obtain ⟨f0_3, ef0_3⟩ : ∃ v : Int32, v = I0 a0 3 := ⟨_, rfl⟩
  have qf0_3 : (I0 a0 3).toInt = f0_3.toInt := congrArg Int32.toInt ef0_3.symm
  have jf0_3 := hI.rd a0 3 t_a0 ef0_3 (rfl : h_bd 5 3 = ((-2147483648), 2147483647))
  obtain ⟨rd, rrd, trd⟩ := hR.at a0 1 t_a0 (rfl : h_rs 5 1 = some (6, false)) (by decide)
  have ard : h_ad z a0 1 = rd := h_ad.at rrd
  obtain ⟨nu, rnu, tnu⟩ := hR.at rd 0 trd (rfl : h_rs 6 0 = some (600, false)) (by decide)
  have anu : h_ad z rd 0 = nu := h_ad.at rnu
  obtain ⟨lo, rlo, tlo⟩ := hR.at rd 1 trd (rfl : h_rs 6 1 = some (601, false)) (by decide)
  have alo : h_ad z rd 1 = lo := h_ad.at rlo
  rw [ard, anu, alo] at hu
  have hlw := hu
  have hap : h_ap z I0 I0 rd nu lo := h_ap.rf
  rw [atp, abt, ← egb] at ht5 ht6 ht4
  rw [qf0_5] at ht5
  rw [qf0_6] at ht6
  rw [qf0_4] at ht4
  rw [qf0_4, qf0_5, qf0_6] at hb4
  rw [← ef0_8] at hto
  refine lv_aload_n hx hb dX4_readLine_0 rfl (lv_at hl 0 rfl) ?_
  refine h_get (v := .int f0_4) hx hb hts iX4 hown g t_a0 (by decide) so_5 rfl 4 (by decide) (hts (.fieldLink RX4 43 "CapLeague$LawReader" "kind" "I") (by decide +kernel)) rfl dX4_readLine_1 (congrArg Value.int (ef0_4.symm)) ?_
  refine lv_iconst (v := 1) hx hb dX4_readLine_4 (by decide) ?_
  refine lv_icmp_ne (tgt := 15) hx hb dX4_readLine_5 (by decide) (fun c1 => ?_) (fun c1 => ?_)
  · have ic1 := (xi_ne c1 rfl (by decide) : f0_4.toInt ≠ 1)
    refine lv_iconst (v := (-1)) hx hb dX4_readLine_15 (by decide) ?_
    refine lv_istore_n (lv' := [(1, .int (-1)), (0, .ref a0)]) hx hb dX4_readLine_16 rfl hl (by decide) rfl (fun ls hl => ?_)
    refine lv_iload_n hx hb dX4_readLine_17 rfl (lv_at hl 0 rfl) ?_
    refine lv_iconst (v := (-1)) hx hb dX4_readLine_18 (by decide) ?_
    refine lv_icmp_ne (tgt := 28) hx hb dX4_readLine_19 (by decide) (fun h => absurd (by decide) h) (fun _ => ?_)
    refine lv_aload_n hx hb dX4_readLine_22 rfl (lv_at hl 1 rfl) ?_
    refine lv_iconst (v := 1) hx hb dX4_readLine_23 (by decide) ?_
    refine va_calli (va_runV (As := [.int 1]) (rest := []) ⟨hx, hb, hml, hown, hts⟩ (tX4_failF l E X A z I0 L0 a0 t_a0 1 (1) (by decide)) (cwV 1 hts gX4_readLine_X4_fail rfl rfl rfl (by decide +kernel) ⟨Nat.le_of_ble_eq_true rfl, Nat.le_of_ble_eq_true rfl⟩) ⟨h_blind _ _ _ _ _ _ _, h_recv g t_a0 (by decide) so_5 (q := (RX4, TX4, 9)) rfl, h_pre _ hE hk hX hA hI hR g⟩ rfl rfl hl.1 rfl (lv_room (Nat.le_of_ble_eq_true rfl)) dX4_readLine_24 ⟨Nat.le_of_ble_eq_true rfl, Nat.le_of_ble_eq_true rfl⟩) g.2.1 (fun q _ h => h) (fun q h => h) (fun rh3 I4 t H1 locs ht hvm h3 hB hz1 hk1 hS => ?_)
    obtain ⟨hI, fh3, h3⟩ := h3
    replace g := h_after g hB ht hS
    generalize H1 = H at g
    clear hB hk1 hz1 ht hvm hS
    have hF := hF.call fh3 rfl
    obtain ⟨h3, h3p0⟩ := h3
    have hlw : h_lw I4 rd nu lo u_ := hlw.c (fun i => fh3.at tnu rfl) (fh3.at trd rfl) (fun i => fh3.at tlo rfl)
    have hap : h_ap z I0 I4 rd nu lo := hap.F fh3 (fun _ => rfl) (fun _ => rfl) (fun _ => rfl)
    have hS := g.2.1
    exact W.zret (v := rh3) hx hb hr (h_nb (by omega) (by omega)).1 (fun t ht hW => ⟨⟨rh3, I4, rfl, ⟨hI, hF, ⟨⟨(by omega), (by omega)⟩, (by rw [atp, abt, ← egb, ard, anu, alo]; have R : q_line gb p_ T_ u_ = (1, q_a gb p_, p_, u_) := q_line_f1 (Or.inl (by omega)); rw [R]; exact Or.inr ⟨by omega, (by show (1 : Int) ≠ 0; decide), (by rw [h3p0.1]; exact (by decide : (1 : Int32).toInt = 1)), (by show (I4 a0 3).toInt = q_a gb p_; rw [h3p0.2, ef0_5.symm]; exact ht5)⟩), (by rw [ard, anu, alo]; exact hap)⟩⟩, h_ret g ht⟩, hS.F ht⟩) hS.2.2 dX4_readLine_27
  · have ic1 := (xi_eq c1 rfl (by decide) : f0_4.toInt = 1)
    refine lv_aload_n hx hb dX4_readLine_8 rfl (lv_at hl 0 rfl) ?_
    refine vp_callSi (W.runV (As := []) (rest := []) ⟨hx, hb, hml, hown, hts⟩ (tX4_lineOfWordF l E X A z I0 L0 a0 t_a0 (by rw [qf0_5]; omega) (by rw [qf0_6]; omega) (by rw [qf0_5, qf0_6]; omega)) (cwV 0 hts gX4_readLine_X4_lineOfWord rfl rfl rfl (by decide +kernel) ⟨Nat.le_of_ble_eq_true rfl, Nat.le_of_ble_eq_true rfl⟩) ⟨h_blind _ _ _ _ _ _ _, h_recv g t_a0 (by decide) so_5 (q := (RX4, TX4, 9)) rfl, h_pre _ hE hk hX hA hI hR g⟩ rfl rfl hl.1 rfl (lv_room (Nat.le_of_ble_eq_true rfl)) dX4_readLine_9 ⟨Nat.le_of_ble_eq_true rfl, Nat.le_of_ble_eq_true rfl⟩) (fun rh5 h5 => ?_)
    obtain ⟨h5, h5p0⟩ := h5
    rw [atp, abt, ← egb, qf0_5, qf0_6, show q_fd gb f0_5.toInt (f0_6.toInt - f0_5.toInt) q_wd 0 = q_w gb p_ by rw [ht5, ht6]; rfl] at h5p0
    have ql := q_ll_b (q_w gb p_)
    refine lv_goto (tgt := 16) hx hb dX4_readLine_12 (by decide) ?_
    refine lv_istore_n (lv' := [(1, .int rh5), (0, .ref a0)]) hx hb dX4_readLine_16 rfl hl (by decide) rfl (fun ls hl => ?_)
    refine lv_iload_n hx hb dX4_readLine_17 rfl (lv_at hl 0 rfl) ?_
    refine lv_iconst (v := (-1)) hx hb dX4_readLine_18 (by decide) ?_
    refine lv_icmp_ne (tgt := 28) hx hb dX4_readLine_19 (by decide) (fun c6 => ?_) (fun c6 => ?_)
    · have ic6 := (xi_ne c6 rfl (by decide) : rh5.toInt ≠ (-1))
      refine lv_aload_n hx hb dX4_readLine_28 rfl (lv_at hl 1 rfl) ?_
      refine h_get (v := .int f0_8) hx hb hts iX4 hown g t_a0 (by decide) so_5 rfl 8 (by decide) (hts (.fieldLink RX4 35 "CapLeague$LawReader" "toldLines" "I") (by decide +kernel)) rfl dX4_readLine_29 (congrArg Value.int (ef0_8.symm)) ?_
      refine lv_iconst (v := 1) hx hb dX4_readLine_32 (by decide) ?_
      refine lv_iload_n hx hb dX4_readLine_33 rfl (lv_at hl 0 rfl) ?_
      refine lv_ishl hx hb dX4_readLine_34 ?_
      refine lv_topi (fun v7 ev7 => ?_)
      have jv7 : -2147483648 ≤ v7.toInt ∧ v7.toInt ≤ 2147483647 := ⟨xi_lo _, Int.le_of_lt_add_one (xi_hi _)⟩
      refine lv_iand hx hb dX4_readLine_35 ?_
      refine lv_topi (fun v8 ev8 => ?_)
      have jv8 : -2147483648 ≤ v8.toInt ∧ v8.toInt ≤ 2147483647 := ⟨xi_lo _, Int.le_of_lt_add_one (xi_hi _)⟩
      have w07 : 0 ≤ q_w gb p_ ∧ q_w gb p_ ≤ 7 ∧ rh5.toInt = q_ll (q_w gb p_) := by rcases h5p0 with q | q; omega; exact q
      have tg := hto.get w07.1 w07.2.1 w07.2.2 ev7 ev8
      refine lv_if_eq (tgt := 45) hx hb dX4_readLine_36 (by decide) (fun c9 => ?_) (fun c9 => ?_)
      · have ic9 := (xi_eq c9 rfl (by decide) : v8.toInt = 0)
        refine lv_aload_n hx hb dX4_readLine_45 rfl (lv_at hl 1 rfl) ?_
        refine lv_dup hx hb dX4_readLine_46 rfl ?_
        refine h_get (v := .int f0_8) hx hb hts iX4 hown g t_a0 (by decide) so_5 rfl 8 (by decide) (hts (.fieldLink RX4 35 "CapLeague$LawReader" "toldLines" "I") (by decide +kernel)) rfl dX4_readLine_47 (congrArg Value.int (ef0_8.symm)) ?_
        refine lv_iconst (v := 1) hx hb dX4_readLine_50 (by decide) ?_
        refine lv_iload_n hx hb dX4_readLine_51 rfl (lv_at hl 0 rfl) ?_
        refine lv_ishl hx hb dX4_readLine_52 ?_
        refine lv_topi (fun v10 ev10 => ?_)
        have jv10 : -2147483648 ≤ v10.toInt ∧ v10.toInt ≤ 2147483647 := ⟨xi_lo _, Int.le_of_lt_add_one (xi_hi _)⟩
        refine lv_ior hx hb dX4_readLine_53 ?_
        refine lv_topi (fun v11 ev11 => ?_)
        have jv11 : -2147483648 ≤ v11.toInt ∧ v11.toInt ≤ 2147483647 := ⟨xi_lo _, Int.le_of_lt_add_one (xi_hi _)⟩
        have to2 := hto.or w07.1 w07.2.1 w07.2.2 ev10 ev11
        refine h_putI (ty := .int) (v := v11) hx hb hts iX4 tyX4 tyX4_ok nmX4 hown g t_a0 (by decide) so_5 rfl 8 (by decide) rfl (hts (.fieldLink RX4 35 "CapLeague$LawReader" "toldLines" "I") (by decide +kernel)) rfl rfl (by decide +kernel) rfl rfl dX4_readLine_54 (fun I12 H locs eI12 g => ?_)
        have hI := hI.wr eI12 t_a0 (rfl : h_bd 5 8 = ((-2147483648), 2147483647)) (xi_lo _) (Int.le_of_lt_add_one (xi_hi _))
        have hF := hF.wr eI12 t_a0 rfl
        have hlw : h_lw I12 rd nu lo u_ := hlw.c (fun i => h_n1 eI12 tnu t_a0 (by decide)) (h_n1 eI12 trd t_a0 (by decide)) (fun i => h_n1 eI12 tlo t_a0 (by decide))
        have hap : h_ap z I0 I12 rd nu lo := hap.w eI12 t_a0 (by decide) (by decide) (by decide)
        refine lv_iload_n hx hb dX4_readLine_57 rfl (lv_at hl 0 rfl) ?_
        refine lv_bipush (v := 8) hx hb dX4_readLine_58 (by decide) ?_
        refine lv_icmp_ne (tgt := 70) hx hb dX4_readLine_60 (by decide) (fun c13 => ?_) (fun c13 => ?_)
        · have ic13 := (xi_ne c13 rfl (by decide) : rh5.toInt ≠ 8)
          refine lv_aload_n hx hb dX4_readLine_70 rfl (lv_at hl 1 rfl) ?_
          refine lv_iload_n hx hb dX4_readLine_71 rfl (lv_at hl 0 rfl) ?_
          have hFo := hF
          refine va_calli (va_runV (As := [.int rh5]) (rest := []) ⟨hx, hb, hml, hown, hts⟩ (tX4_readNumbersF l E X A z I12 L0 a0 t_a0 rh5 (rh5.toInt) rfl (by omega) (u_) (by rw [ard, anu, alo]; exact hlw) (by rw [show I12 a0 6 = f0_6 from (h_n2 eI12 (by decide)).trans (ef0_6.symm)]; omega)) (cwV 1 hts gX4_readLine_X4_readNumbers rfl rfl rfl (by decide +kernel) ⟨Nat.le_of_ble_eq_true rfl, Nat.le_of_ble_eq_true rfl⟩) ⟨h_blind _ _ _ _ _ _ _, h_recv g t_a0 (by decide) so_5 (q := (RX4, TX4, 9)) rfl, h_pre _ hE hk hX hA hI hR g⟩ rfl rfl hl.1 rfl (lv_room (Nat.le_of_ble_eq_true rfl)) dX4_readLine_72 ⟨Nat.le_of_ble_eq_true rfl, Nat.le_of_ble_eq_true rfl⟩) g.2.1 (fun q _ h => h) (fun q h => h) (fun rh14 I15 t H1 locs ht hvm h14 hB hz1 hk1 hS => ?_)
          obtain ⟨hI, fh14, h14⟩ := h14
          replace g := h_after g hB ht hS
          generalize H1 = H at g
          clear hB hk1 hz1 ht hvm hS
          have hF := hF.call fh14 rfl
          obtain ⟨h14, h14p0, h14p1⟩ := h14
          rw [ard, anu, alo] at h14p1
          have hap : h_ap z I0 I15 rd nu lo := hap.tr h14p1
          rw [atp, abt, show I12 bt = I0 bt from funext (fun k => hFo.at tbt rfl), show I12 tp 1 = I0 tp 1 from hFo.at ttp rfl, ← egb, show I12 a0 6 = f0_6 from (h_n2 eI12 (by decide)).trans (ef0_6.symm), ard, anu, alo, show I12 a0 2 = f0_2 from (h_n2 eI12 (by decide)).trans (ef0_2.symm), show I12 a0 3 = f0_3 from (h_n2 eI12 (by decide)).trans (ef0_3.symm)] at h14p0
          have hS := g.2.1
          exact W.zret (v := rh14) hx hb hr (h_nb (by omega) (by omega)).1 (fun t ht hW => ⟨⟨rh14, I15, rfl, ⟨hI, hF, ⟨⟨(by omega), (by omega)⟩, (by rw [atp, abt, ← egb, ard, anu, alo]; have R : q_line gb p_ T_ u_ = q_ns gb (q_rw rh5.toInt (q_last rh5.toInt)) f0_6.toInt u_ := (by rw [ht6]; exact q_line_n (by omega) w07.1 (by omega) w07.2.2 (by rcases tg with q | q; exact q.2; exact absurd (by omega) q.1)); rw [R]; rcases h14p0 with ⟨a1, a2, a3, a4, a5, a6, a7, a8⟩ | q; exact Or.inl ⟨a1, a2, a3, a4, a5.trans ef0_2, a6.trans ef0_3, by rw [qf0_6]; exact a7, a8, by rw [(h_F.at fh14 t_a0 rfl).trans (h_n0 eI12)]; exact to2⟩; exact Or.inr q), (by rw [ard, anu, alo]; exact hap)⟩⟩, h_ret g ht⟩, hS.F ht⟩) hS.2.2 dX4_readLine_75
        · have ic13 := (xi_eq c13 rfl (by decide) : rh5.toInt = 8)
          refine lv_aload_n hx hb dX4_readLine_63 rfl (lv_at hl 1 rfl) ?_
          have hFo := hF
          refine va_calli (va_runV (As := []) (rest := []) ⟨hx, hb, hml, hown, hts⟩ (tX4_readLotsF l E X A z I12 L0 a0 t_a0 (u_) (by rw [ard, anu, alo]; exact hlw) (by rw [show I12 a0 6 = f0_6 from (h_n2 eI12 (by decide)).trans (ef0_6.symm)]; omega)) (cwV 0 hts gX4_readLine_X4_readLots rfl rfl rfl (by decide +kernel) ⟨Nat.le_of_ble_eq_true rfl, Nat.le_of_ble_eq_true rfl⟩) ⟨h_blind _ _ _ _ _ _ _, h_recv g t_a0 (by decide) so_5 (q := (RX4, TX4, 9)) rfl, h_pre _ hE hk hX hA hI hR g⟩ rfl rfl hl.1 rfl (lv_room (Nat.le_of_ble_eq_true rfl)) dX4_readLine_64 ⟨Nat.le_of_ble_eq_true rfl, Nat.le_of_ble_eq_true rfl⟩) g.2.1 (fun q _ h => h) (fun q h => h) (fun rh16 I17 t H1 locs ht hvm h16 hB hz1 hk1 hS => ?_)
          obtain ⟨hI, fh16, h16⟩ := h16
          replace g := h_after g hB ht hS
          generalize H1 = H at g
          clear hB hk1 hz1 ht hvm hS
          have hF := hF.call fh16 rfl
          obtain ⟨h16, h16p0, h16p1⟩ := h16
          rw [ard, anu, alo] at h16p1
          have hap : h_ap z I0 I17 rd nu lo := hap.tr h16p1
          rw [atp, abt, show I12 bt = I0 bt from funext (fun k => hFo.at tbt rfl), show I12 tp 1 = I0 tp 1 from hFo.at ttp rfl, ← egb, show I12 a0 6 = f0_6 from (h_n2 eI12 (by decide)).trans (ef0_6.symm), ard, anu, alo, show I12 a0 2 = f0_2 from (h_n2 eI12 (by decide)).trans (ef0_2.symm), show I12 a0 3 = f0_3 from (h_n2 eI12 (by decide)).trans (ef0_3.symm)] at h16p0
          refine lv_goto (tgt := 75) hx hb dX4_readLine_67 (by decide) ?_
          have hS := g.2.1
          exact W.zret (v := rh16) hx hb hr (h_nb (by omega) (by omega)).1 (fun t ht hW => ⟨⟨rh16, I17, rfl, ⟨hI, hF, ⟨⟨(by omega), (by omega)⟩, (by rw [atp, abt, ← egb, ard, anu, alo]; have R : q_line gb p_ T_ u_ = q_lt gb 6 0 f0_6.toInt u_ := (by rw [ht6]; exact q_line_l (by omega) (by omega) (by rcases tg with q | q; exact q.2; exact absurd (by omega) q.1)); rw [R]; rcases h16p0 with ⟨a1, a2, a3, a4, a5, a6, a7, a8⟩ | q; exact Or.inl ⟨a1, a2, a3, a4, a5.trans ef0_2, a6.trans ef0_3, by rw [qf0_6]; exact a7, a8, by rw [(h_F.at fh16 t_a0 rfl).trans (h_n0 eI12)]; exact to2⟩; exact Or.inr q), (by rw [ard, anu, alo]; exact hap)⟩⟩, h_ret g ht⟩, hS.F ht⟩) hS.2.2 dX4_readLine_75
      · have ic9 := (xi_ne c9 rfl (by decide) : v8.toInt ≠ 0)
        refine lv_aload_n hx hb dX4_readLine_39 rfl (lv_at hl 1 rfl) ?_
        refine lv_iconst (v := 3) hx hb dX4_readLine_40 (by decide) ?_
        refine va_calli (va_runV (As := [.int 3]) (rest := []) ⟨hx, hb, hml, hown, hts⟩ (tX4_failF l E X A z I0 L0 a0 t_a0 3 (3) (by decide)) (cwV 1 hts gX4_readLine_X4_fail rfl rfl rfl (by decide +kernel) ⟨Nat.le_of_ble_eq_true rfl, Nat.le_of_ble_eq_true rfl⟩) ⟨h_blind _ _ _ _ _ _ _, h_recv g t_a0 (by decide) so_5 (q := (RX4, TX4, 9)) rfl, h_pre _ hE hk hX hA hI hR g⟩ rfl rfl hl.1 rfl (lv_room (Nat.le_of_ble_eq_true rfl)) dX4_readLine_41 ⟨Nat.le_of_ble_eq_true rfl, Nat.le_of_ble_eq_true rfl⟩) g.2.1 (fun q _ h => h) (fun q h => h) (fun rh18 I19 t H1 locs ht hvm h18 hB hz1 hk1 hS => ?_)
        obtain ⟨hI, fh18, h18⟩ := h18
        replace g := h_after g hB ht hS
        generalize H1 = H at g
        clear hB hk1 hz1 ht hvm hS
        have hF := hF.call fh18 rfl
        obtain ⟨h18, h18p0⟩ := h18
        have hlw : h_lw I19 rd nu lo u_ := hlw.c (fun i => fh18.at tnu rfl) (fh18.at trd rfl) (fun i => fh18.at tlo rfl)
        have hap : h_ap z I0 I19 rd nu lo := hap.F fh18 (fun _ => rfl) (fun _ => rfl) (fun _ => rfl)
        have hS := g.2.1
        exact W.zret (v := rh18) hx hb hr (h_nb (by omega) (by omega)).1 (fun t ht hW => ⟨⟨rh18, I19, rfl, ⟨hI, hF, ⟨⟨(by omega), (by omega)⟩, (by rw [atp, abt, ← egb, ard, anu, alo]; have R : q_line gb p_ T_ u_ = (3, q_a gb p_, p_, u_) := q_line_f3 (by omega) w07.1 (by rcases tg with q | q; exact absurd q.1 (by omega); exact q.2); rw [R]; exact Or.inr ⟨by omega, (by show (3 : Int) ≠ 0; decide), (by rw [h18p0.1]; exact (by decide : (3 : Int32).toInt = 3)), (by show (I19 a0 3).toInt = q_a gb p_; rw [h18p0.2, ef0_5.symm]; exact ht5)⟩), (by rw [ard, anu, alo]; exact hap)⟩⟩, h_ret g ht⟩, hS.F ht⟩) hS.2.2 dX4_readLine_44
    · have ic6 := (xi_eq c6 rfl (by decide) : rh5.toInt = (-1))
      refine lv_aload_n hx hb dX4_readLine_22 rfl (lv_at hl 1 rfl) ?_
      refine lv_iconst (v := 1) hx hb dX4_readLine_23 (by decide) ?_
      refine va_calli (va_runV (As := [.int 1]) (rest := []) ⟨hx, hb, hml, hown, hts⟩ (tX4_failF l E X A z I0 L0 a0 t_a0 1 (1) (by decide)) (cwV 1 hts gX4_readLine_X4_fail rfl rfl rfl (by decide +kernel) ⟨Nat.le_of_ble_eq_true rfl, Nat.le_of_ble_eq_true rfl⟩) ⟨h_blind _ _ _ _ _ _ _, h_recv g t_a0 (by decide) so_5 (q := (RX4, TX4, 9)) rfl, h_pre _ hE hk hX hA hI hR g⟩ rfl rfl hl.1 rfl (lv_room (Nat.le_of_ble_eq_true rfl)) dX4_readLine_24 ⟨Nat.le_of_ble_eq_true rfl, Nat.le_of_ble_eq_true rfl⟩) g.2.1 (fun q _ h => h) (fun q h => h) (fun rh20 I21 t H1 locs ht hvm h20 hB hz1 hk1 hS => ?_)
      obtain ⟨hI, fh20, h20⟩ := h20
      replace g := h_after g hB ht hS
      generalize H1 = H at g
      clear hB hk1 hz1 ht hvm hS
      have hF := hF.call fh20 rfl
      obtain ⟨h20, h20p0⟩ := h20
      have hlw : h_lw I21 rd nu lo u_ := hlw.c (fun i => fh20.at tnu rfl) (fh20.at trd rfl) (fun i => fh20.at tlo rfl)
      have hap : h_ap z I0 I21 rd nu lo := hap.F fh20 (fun _ => rfl) (fun _ => rfl) (fun _ => rfl)
      have hS := g.2.1
      exact W.zret (v := rh20) hx hb hr (h_nb (by omega) (by omega)).1 (fun t ht hW => ⟨⟨rh20, I21, rfl, ⟨hI, hF, ⟨⟨(by omega), (by omega)⟩, (by rw [atp, abt, ← egb, ard, anu, alo]; have R : q_line gb p_ T_ u_ = (1, q_a gb p_, p_, u_) := q_line_f1 (Or.inr (by rcases h5p0 with q | q; exact q.2; omega)); rw [R]; exact Or.inr ⟨by omega, (by show (1 : Int) ≠ 0; decide), (by rw [h20p0.1]; exact (by decide : (1 : Int32).toInt = 1)), (by show (I21 a0 3).toInt = q_a gb p_; rw [h20p0.2, ef0_5.symm]; exact ht5)⟩), (by rw [ard, anu, alo]; exact hap)⟩⟩, h_ret g ht⟩, hS.F ht⟩) hS.2.2 dX4_readLine_27
set_option maxHeartbeats 4000000 in
set_option maxRecDepth 100000 in
theorem tX5_resetF (l : Launch) (E : tE) (X : tX) (A : Nat → Prop) (z : tZ) (I0 : tI) (L0 : tL) (a0 : Nat) (t_a0 : z.ty a0 = 6) : Met l yX5_reset wsX5_reset ({ frames := 1, cells := 0, slots := 0, locals := 64 }) (va_Pc [.ref a0] (h_P E X A z I0 L0)) (va_Qv (fun (I1 : tI) => h_I z I1 ∧ h_F [(600, 999), (601, 999), (6, 2)] z I0 I1 ∧ (h_lw I1 a0 (h_ad z a0 0) (h_ad z a0 1) q_pl) ∧ (h_ap z I0 I1 a0 (h_ad z a0 0) (h_ad z a0 1))) (fun (I1 : tI) t => h_B E A z I1 L0 t) A) 0 0 A := by
  refine Met.ofW (cc := cX5_reset) (maxL := 1) (ret := none) (by decide) rfl ?_
  intro pr_ ev_ s m args below meth cd_ s₁ B hml hv
  obtain ⟨rfl, hE, hk, hX, hA, hK, hI, hR, hB0⟩ := hv
  have g : h_G h_so h_fk E A z I0 L0 s s.heap s.heap [] := ⟨hK, va_S.rf, hB0⟩
  have hF : h_F [(600, 999), (601, 999), (6, 2)] z I0 I0 := h_F.rf
  have hx := B.exec
  have hb := B.bytes
  have hr := B.returns
  have hts := atoms_spec (ws := wsX5_reset) B.pre
  have hown : s.vm.findClass RX5 = some m.cls := findClass_of_methodNamed B.named
  have hlocks := B.notSynchronized
  have iX5 : ∀ w ∈ u_ws RX5 TX5 3, w ∈ wsX5_reset := by decide +kernel
  have hl := lv_entry ([.ref a0]) (n := 1) (Nat.le_of_ble_eq_true rfl)
  rw [lg_entry_eq]
  generalize (lg_sl ([.ref a0]) ++ List.replicate (1 - (lg_sl ([.ref a0])).length) Slot.unset).toArray = ls at hl ⊢
  have hl : lv_has ls 1 [(0, .ref a0)] := hl
  obtain ⟨nu, rnu, tnu⟩ := hR.at a0 0 t_a0 (rfl : h_rs 6 0 = some (600, false)) (by decide)
  have anu : h_ad z a0 0 = nu := h_ad.at rnu
  obtain ⟨lo, rlo, tlo⟩ := hR.at a0 1 t_a0 (rfl : h_rs 6 1 = some (601, false)) (by decide)
  have alo : h_ad z a0 1 = lo := h_ad.at rlo
  refine xu_get hx hb hX.1 g.2.1 hown hE.2.1 dX5_reset_0 ?_
  refine lv_iconst (v := 0) hx hb dX5_reset_3 (by decide) ?_
  refine lv_aload_n hx hb dX5_reset_4 rfl (lv_at hl 0 rfl) ?_
  refine h_get (v := .ref nu) hx hb hts iX5 hown g t_a0 (by decide) so_6 rfl 0 (by decide) (hts (.fieldLink RX5 9 "CapLeague$Laws" "numbers" "[I") (by decide +kernel)) rfl dX5_reset_5 (by show va_rf (z.R a0 0) = _; rw [rnu]; rfl) ?_
  refine lv_iconst (v := 0) hx hb dX5_reset_8 (by decide) ?_
  refine lv_bipush (v := 8) hx hb dX5_reset_9 (by decide) ?_
  refine h_copyU hx hb (hml.trans hl.1.symm) hown (hts (.methodLink RX5 24 arraycopyName) (by decide +kernel)) (hts (.native arraycopyName) (by decide +kernel)) (hts (.static arraycopyName) (by decide +kernel)) (hts (.initialized "java/lang/System") (by decide +kernel)) g hX tnu (by decide) so_600 (by decide) (Nat.le_of_ble_eq_true rfl) (Nat.le_of_ble_eq_true rfl) dX5_reset_11 (fun I1 H locs eI1 g => ?_)
  have hI := hI.row eI1 tnu (fun _ => (rfl : h_bd 600 _ = (-2147483648, 2147483647))) (fun k => h_anyb _)
  have hF := hF.row eI1 tnu (fun _ => rfl)
  refine lv_aload_n hx hb dX5_reset_14 rfl (lv_at hl 0 rfl) ?_
  refine h_get (v := .ref lo) hx hb hts iX5 hown g t_a0 (by decide) so_6 rfl 1 (by decide) (hts (.fieldLink RX5 15 "CapLeague$Laws" "lots" "[I") (by decide +kernel)) rfl dX5_reset_15 (by show va_rf (z.R a0 1) = _; rw [rlo]; rfl) ?_
  refine lv_iconst (v := 0) hx hb dX5_reset_18 (by decide) ?_
  refine lv_iconst (v := 1) hx hb dX5_reset_19 (by decide) ?_
  refine h_ast hx hb g tlo (by decide) so_601 (by unfold vp_in; decide) dX5_reset_20 (fun I2 H locs eI2 g => ?_)
  have hI := hI.wr eI2 tlo (rfl : h_bd 601 _ = ((-2147483648), 2147483647)) (by decide) (by decide)
  have hF := hF.wr eI2 tlo rfl
  refine lv_aload_n hx hb dX5_reset_21 rfl (lv_at hl 0 rfl) ?_
  refine lv_iconst (v := 1) hx hb dX5_reset_22 (by decide) ?_
  refine h_putI (ty := .int) (v := 1) hx hb hts iX5 tyX5 tyX5_ok nmX5 hown g t_a0 (by decide) so_6 rfl 2 (by decide) rfl (hts (.fieldLink RX5 30 "CapLeague$Laws" "lotCount" "I") (by decide +kernel)) rfl rfl (by decide +kernel) rfl rfl dX5_reset_23 (fun I3 H locs eI3 g => ?_)
  have hI := hI.wr eI3 t_a0 (rfl : h_bd 6 2 = (0, 6)) (by decide) (by decide)
  have hF := hF.wr eI3 t_a0 rfl
  have hS := g.2.1
  exact W.vret hx hb hr (fun t ht hW => ⟨⟨I3, rfl, ⟨hI, hF, ⟨(by rw [anu, alo]; exact (h_reset (z := z) eI1 eI2 (by decide) eI3 t_a0 tnu tlo).1), (by rw [anu, alo]; exact (h_reset (z := z) eI1 eI2 (by decide) eI3 t_a0 tnu tlo).2)⟩⟩, h_ret g ht⟩, hS.F ht⟩) hS.2.2 dX5_reset_26
set_option maxHeartbeats 4000000 in
set_option maxRecDepth 100000 in
theorem tX4_readTextF (l : Launch) (E : tE) (X : tX) (A : Nat → Prop) (z : tZ) (I0 : tI) (L0 : tL) (a0 : Nat) (t_a0 : z.ty a0 = 5) : Met l yX4_readText wsX4_readText ({ frames := 8, cells := 0, slots := 0, locals := 512 }) (va_Pc [.ref a0] (h_P E X A z I0 L0)) (va_Qi (fun r (I1 : tI) => h_I z I1 ∧ h_F [(5, 4), (5, 5), (5, 6), (5, 7), (5, 2), (5, 3), (600, 999), (601, 999), (6, 2), (5, 8)] z I0 I1 ∧ ((-1) ≤ r.toInt ∧ r.toInt ≤ 500) ∧ ((I1 a0 2).toInt = (q_text (q_at (I0 (h_ad z (h_ad z a0 0) 0)) (I0 (h_ad z a0 0) 1).toInt) 501 0 (fun _ => false) q_pl 0).1) ∧ ((I1 a0 3).toInt = (q_text (q_at (I0 (h_ad z (h_ad z a0 0) 0)) (I0 (h_ad z a0 0) 1).toInt) 501 0 (fun _ => false) q_pl 0).2.1) ∧ (r.toInt = (q_text (q_at (I0 (h_ad z (h_ad z a0 0) 0)) (I0 (h_ad z a0 0) 1).toInt) 501 0 (fun _ => false) q_pl 0).2.2.1) ∧ ((q_text (q_at (I0 (h_ad z (h_ad z a0 0) 0)) (I0 (h_ad z a0 0) 1).toInt) 501 0 (fun _ => false) q_pl 0).1 = 0 → h_lw I1 (h_ad z a0 1) (h_ad z (h_ad z a0 1) 0) (h_ad z (h_ad z a0 1) 1) (q_text (q_at (I0 (h_ad z (h_ad z a0 0) 0)) (I0 (h_ad z a0 0) 1).toInt) 501 0 (fun _ => false) q_pl 0).2.2.2 ∧ 0 ≤ r.toInt) ∧ ((q_text (q_at (I0 (h_ad z (h_ad z a0 0) 0)) (I0 (h_ad z a0 0) 1).toInt) 501 0 (fun _ => false) q_pl 0).1 ≠ 0 → r.toInt = -1) ∧ (h_ap z I0 I1 (h_ad z a0 1) (h_ad z (h_ad z a0 1) 0) (h_ad z (h_ad z a0 1) 1))) (fun (I1 : tI) t => h_B E A z I1 L0 t) A) 0 0 A := by
  refine Met.ofW (cc := cX4_readText) (maxL := 2) (ret := (some .int)) (by decide) rfl ?_
  intro pr_ ev_ s m args below meth cd_ s₁ B hml hv
  obtain ⟨rfl, hE, hk, hX, hA, hK, hI, hR, hB0⟩ := hv
  have g : h_G h_so h_fk E A z I0 L0 s s.heap s.heap [] := ⟨hK, va_S.rf, hB0⟩
  have hF : h_F [(5, 4), (5, 5), (5, 6), (5, 7), (5, 2), (5, 3), (600, 999), (601, 999), (6, 2), (5, 8)] z I0 I0 := h_F.rf
  have hx := B.exec
  have hb := B.bytes
  have hr := B.returns
  have hts := atoms_spec (ws := wsX4_readText) B.pre
  have hown : s.vm.findClass RX4 = some m.cls := findClass_of_methodNamed B.named
  have hlocks := B.notSynchronized
  have iX4 : ∀ w ∈ u_ws RX4 TX4 9, w ∈ wsX4_readText := by decide +kernel
  have hl := lv_entry ([.ref a0]) (n := 2) (Nat.le_of_ble_eq_true rfl)
  rw [lg_entry_eq]
  generalize (lg_sl ([.ref a0]) ++ List.replicate (2 - (lg_sl ([.ref a0])).length) Slot.unset).toArray = ls at hl ⊢
  have hl : lv_has ls 2 [(0, .ref a0)] := hl
  obtain ⟨tp, rtp, ttp⟩ := hR.at a0 0 t_a0 (rfl : h_rs 5 0 = some (9, false)) (by decide)
  have atp : h_ad z a0 0 = tp := h_ad.at rtp
  obtain ⟨bt, rbt, tbt⟩ := hR.at tp 0 ttp (rfl : h_rs 9 0 = some (900, false)) (by decide)
  have abt : h_ad z tp 0 = bt := h_ad.at rbt
  obtain ⟨n_1, en_1⟩ : ∃ v : Int32, v = I0 tp 1 := ⟨_, rfl⟩
  have qn_1 : (I0 tp 1).toInt = n_1.toInt := congrArg Int32.toInt en_1.symm
  have jn_1 := hI.rd tp 1 ttp en_1 (rfl : h_bd 9 1 = (0, 500))
  obtain ⟨gb, egb⟩ : ∃ g : Int → Int, g = q_at (I0 bt) (I0 tp 1).toInt := ⟨_, rfl⟩
  obtain ⟨rd, rrd, trd⟩ := hR.at a0 1 t_a0 (rfl : h_rs 5 1 = some (6, false)) (by decide)
  have ard : h_ad z a0 1 = rd := h_ad.at rrd
  obtain ⟨nu, rnu, tnu⟩ := hR.at rd 0 trd (rfl : h_rs 6 0 = some (600, false)) (by decide)
  have anu : h_ad z rd 0 = nu := h_ad.at rnu
  obtain ⟨lo, rlo, tlo⟩ := hR.at rd 1 trd (rfl : h_rs 6 1 = some (601, false)) (by decide)
  have alo : h_ad z rd 1 = lo := h_ad.at rlo
  have hap : h_ap z I0 I0 rd nu lo := h_ap.rf
  refine lv_aload_n hx hb dX4_readText_0 rfl (lv_at hl 0 rfl) ?_
  refine h_get (v := .ref rd) hx hb hts iX4 hown g t_a0 (by decide) so_5 rfl 1 (by decide) (hts (.fieldLink RX4 12 "CapLeague$LawReader" "read" "LCapLeague$Laws;") (by decide +kernel)) rfl dX4_readText_1 (by show va_rf (z.R a0 1) = _; rw [rrd]; rfl) ?_
  refine va_callv (va_runV (As := []) (rest := []) ⟨hx, hb, hml, hown, hts⟩ (tX5_resetF l E X A z I0 L0 rd trd) (cwV 0 hts gX4_readText_X5_reset rfl rfl rfl (by decide +kernel) ⟨Nat.le_of_ble_eq_true rfl, Nat.le_of_ble_eq_true rfl⟩) ⟨h_blind _ _ _ _ _ _ _, h_recv g trd (by decide) so_6 (q := (RX5, TX5, 3)) rfl, h_pre _ hE hk hX hA hI hR g⟩ rfl rfl hl.1 rfl (lv_room (Nat.le_of_ble_eq_true rfl)) dX4_readText_4 ⟨Nat.le_of_ble_eq_true rfl, Nat.le_of_ble_eq_true rfl⟩) g.2.1 (fun q _ h => h) (fun q h => h) (fun I2 t H1 locs ht hvm h1 hB hz1 hk1 hS => ?_)
  obtain ⟨hI, fh1, h1⟩ := h1
  replace g := h_after g hB ht hS
  generalize H1 = H at g
  clear hB hk1 hz1 ht hvm hS
  have hF := hF.call fh1 rfl
  obtain ⟨h1p0, h1p1⟩ := h1
  rw [anu, alo] at h1p0 h1p1
  have hlw : h_lw I2 rd nu lo q_pl := h1p0
  have hap : h_ap z I0 I2 rd nu lo := hap.tr h1p1
  refine lv_aload_n hx hb dX4_readText_7 rfl (lv_at hl 0 rfl) ?_
  refine lv_iconst (v := 0) hx hb dX4_readText_8 (by decide) ?_
  refine h_putI (ty := .int) (v := 0) hx hb hts iX4 tyX4 tyX4_ok nmX4 hown g t_a0 (by decide) so_5 rfl 2 (by decide) rfl (hts (.fieldLink RX4 29 "CapLeague$LawReader" "faultKind" "I") (by decide +kernel)) rfl rfl (by decide +kernel) rfl rfl dX4_readText_9 (fun I3 H locs eI3 g => ?_)
  have hI := hI.wr eI3 t_a0 (rfl : h_bd 5 2 = ((-2147483648), 2147483647)) (by decide) (by decide)
  have hF := hF.wr eI3 t_a0 rfl
  have hlw : h_lw I3 rd nu lo q_pl := hlw.c (fun i => h_n1 eI3 tnu t_a0 (by decide)) (h_n1 eI3 trd t_a0 (by decide)) (fun i => h_n1 eI3 tlo t_a0 (by decide))
  have hap : h_ap z I0 I3 rd nu lo := hap.w eI3 t_a0 (by decide) (by decide) (by decide)
  refine lv_aload_n hx hb dX4_readText_12 rfl (lv_at hl 0 rfl) ?_
  refine lv_iconst (v := (-1)) hx hb dX4_readText_13 (by decide) ?_
  refine h_putI (ty := .int) (v := (-1)) hx hb hts iX4 tyX4 tyX4_ok nmX4 hown g t_a0 (by decide) so_5 rfl 3 (by decide) rfl (hts (.fieldLink RX4 18 "CapLeague$LawReader" "faultPlace" "I") (by decide +kernel)) rfl rfl (by decide +kernel) rfl rfl dX4_readText_14 (fun I4 H locs eI4 g => ?_)
  have hI := hI.wr eI4 t_a0 (rfl : h_bd 5 3 = ((-2147483648), 2147483647)) (by decide) (by decide)
  have hF := hF.wr eI4 t_a0 rfl
  have hlw : h_lw I4 rd nu lo q_pl := hlw.c (fun i => h_n1 eI4 tnu t_a0 (by decide)) (h_n1 eI4 trd t_a0 (by decide)) (fun i => h_n1 eI4 tlo t_a0 (by decide))
  have hap : h_ap z I0 I4 rd nu lo := hap.w eI4 t_a0 (by decide) (by decide) (by decide)
  refine lv_aload_n hx hb dX4_readText_17 rfl (lv_at hl 0 rfl) ?_
  refine lv_iconst (v := 0) hx hb dX4_readText_18 (by decide) ?_
  refine h_putI (ty := .int) (v := 0) hx hb hts iX4 tyX4 tyX4_ok nmX4 hown g t_a0 (by decide) so_5 rfl 6 (by decide) rfl (hts (.fieldLink RX4 32 "CapLeague$LawReader" "behind" "I") (by decide +kernel)) rfl rfl (by decide +kernel) rfl rfl dX4_readText_19 (fun I5 H locs eI5 g => ?_)
  have hI := hI.wr eI5 t_a0 (rfl : h_bd 5 6 = ((-2147483648), 2147483647)) (by decide) (by decide)
  have hF := hF.wr eI5 t_a0 rfl
  have hlw : h_lw I5 rd nu lo q_pl := hlw.c (fun i => h_n1 eI5 tnu t_a0 (by decide)) (h_n1 eI5 trd t_a0 (by decide)) (fun i => h_n1 eI5 tlo t_a0 (by decide))
  have hap : h_ap z I0 I5 rd nu lo := hap.w eI5 t_a0 (by decide) (by decide) (by decide)
  refine lv_aload_n hx hb dX4_readText_22 rfl (lv_at hl 0 rfl) ?_
  refine lv_iconst (v := 0) hx hb dX4_readText_23 (by decide) ?_
  refine h_putI (ty := .int) (v := 0) hx hb hts iX4 tyX4 tyX4_ok nmX4 hown g t_a0 (by decide) so_5 rfl 8 (by decide) rfl (hts (.fieldLink RX4 35 "CapLeague$LawReader" "toldLines" "I") (by decide +kernel)) rfl rfl (by decide +kernel) rfl rfl dX4_readText_24 (fun I6 H locs eI6 g => ?_)
  have hI := hI.wr eI6 t_a0 (rfl : h_bd 5 8 = ((-2147483648), 2147483647)) (by decide) (by decide)
  have hF := hF.wr eI6 t_a0 rfl
  have hlw : h_lw I6 rd nu lo q_pl := hlw.c (fun i => h_n1 eI6 tnu t_a0 (by decide)) (h_n1 eI6 trd t_a0 (by decide)) (fun i => h_n1 eI6 tlo t_a0 (by decide))
  have hap : h_ap z I0 I6 rd nu lo := hap.w eI6 t_a0 (by decide) (by decide) (by decide)
  have hto : h_told (I6 a0 8) (fun _ => false) := by rw [h_n0 eI6]; exact h_told0
  refine lv_iconst (v := 0) hx hb dX4_readText_27 (by decide) ?_
  refine lv_istore_n (lv' := [(1, .int 0), (0, .ref a0)]) hx hb dX4_readText_28 rfl hl (by decide) rfl (fun ls hl => ?_)
  have loop29_0 : ∀ (n : Nat) (I8 : tI) (H : Heap) (locs : List Loc) (ls : Array Slot) (v7 : Int32) (u9 : Nat → Int) (T10 : Int → Bool), h_G h_so h_fk E A z I8 L0 s s.heap H locs → h_I z I8 → h_F [(5, 4), (5, 5), (5, 6), (5, 7), (5, 2), (5, 3), (600, 999), (601, 999), (6, 2), (5, 8)] z I0 I8 → lv_has ls 2 [(0, .ref a0), (1, .int v7)] → (0 ≤ v7.toInt ∧ v7.toInt ≤ 500) → (0 ≤ (I8 a0 6).toInt ∧ (I8 a0 6).toInt ≤ 500 ∧ v7.toInt ≤ (I8 a0 6).toInt) → (q_text gb 501 0 (fun _ => false) q_pl 0 = q_text gb (501 - v7.toInt).toNat (I8 a0 6).toInt T10 u9 v7.toInt) → (I8 a0 2 = 0 ∧ I8 a0 3 = -1) → (h_lw I8 rd nu lo u9) → (h_ap z I0 I8 rd nu lo) → (h_told (I8 a0 8) T10) → (501 - v7.toInt) < (n : Int) → W pr_ l ev_ (headSpec wsX4_readText ({ frames := 8, cells := 0, slots := 0, locals := 512 })).room s m ([.ref a0] : List Value).toArray below meth cd_ H locs 0 0 (MQ below (va_Qi (fun r (I1 : tI) => h_I z I1 ∧ h_F [(5, 4), (5, 5), (5, 6), (5, 7), (5, 2), (5, 3), (600, 999), (601, 999), (6, 2), (5, 8)] z I0 I1 ∧ ((-1) ≤ r.toInt ∧ r.toInt ≤ 500) ∧ ((I1 a0 2).toInt = (q_text (q_at (I0 (h_ad z (h_ad z a0 0) 0)) (I0 (h_ad z a0 0) 1).toInt) 501 0 (fun _ => false) q_pl 0).1) ∧ ((I1 a0 3).toInt = (q_text (q_at (I0 (h_ad z (h_ad z a0 0) 0)) (I0 (h_ad z a0 0) 1).toInt) 501 0 (fun _ => false) q_pl 0).2.1) ∧ (r.toInt = (q_text (q_at (I0 (h_ad z (h_ad z a0 0) 0)) (I0 (h_ad z a0 0) 1).toInt) 501 0 (fun _ => false) q_pl 0).2.2.1) ∧ ((q_text (q_at (I0 (h_ad z (h_ad z a0 0) 0)) (I0 (h_ad z a0 0) 1).toInt) 501 0 (fun _ => false) q_pl 0).1 = 0 → h_lw I1 (h_ad z a0 1) (h_ad z (h_ad z a0 1) 0) (h_ad z (h_ad z a0 1) 1) (q_text (q_at (I0 (h_ad z (h_ad z a0 0) 0)) (I0 (h_ad z a0 0) 1).toInt) 501 0 (fun _ => false) q_pl 0).2.2.2 ∧ 0 ≤ r.toInt) ∧ ((q_text (q_at (I0 (h_ad z (h_ad z a0 0) 0)) (I0 (h_ad z a0 0) 1).toInt) 501 0 (fun _ => false) q_pl 0).1 ≠ 0 → r.toInt = -1) ∧ (h_ap z I0 I1 (h_ad z a0 1) (h_ad z (h_ad z a0 1) 0) (h_ad z (h_ad z a0 1) 1))) (fun (I1 : tI) t => h_B E A z I1 L0 t) A) ([.ref a0] : List Value).toArray s 0 0 A) (F0 m 29 ls []) := by
    intro n
    induction n with
    | zero => intro I8 H locs ls v7 u9 T10 g hI hF hl jv7 hx29_0 hx29_1 hx29_2 hlw hap hto hn; exact absurd hn (by omega)
    | succ n ih29 =>
      intro I8 H locs ls v7 u9 T10 g hI hF hl jv7 hx29_0 hx29_1 hx29_2 hlw hap hto hn
      obtain ⟨v11, ev11⟩ : ∃ v : Int32, v = I8 a0 6 := ⟨_, rfl⟩
      rw [← ev11] at hx29_0 hx29_1
      have jv11 := hI.rd a0 6 t_a0 ev11 (rfl : h_bd 5 6 = ((-2147483648), 2147483647))
      refine lv_iload_n hx hb dX4_readText_29 rfl (lv_at hl 1 rfl) ?_
      refine lv_sipush (v := 500) hx hb dX4_readText_30 (by decide) ?_
      refine lv_icmp_gt (tgt := 64) hx hb dX4_readText_33 (by decide) (fun h => absurd (xi_lt h (by decide) rfl : 500 < v7.toInt) (by omega)) (fun c12 => ?_)
      have ic12 := (xi_nlt c12 (by decide) rfl : v7.toInt ≤ 500)
      refine lv_aload_n hx hb dX4_readText_36 rfl (lv_at hl 0 rfl) ?_
      have hFo := hF
      refine va_callv (va_runV (As := []) (rest := []) ⟨hx, hb, hml, hown, hts⟩ (tX4_readTokenF l E X A z I8 L0 a0 t_a0 (by rw [show I8 a0 6 = v11 from ev11.symm]; omega)) (cwV 0 hts gX4_readText_X4_readToken rfl rfl rfl (by decide +kernel) ⟨Nat.le_of_ble_eq_true rfl, Nat.le_of_ble_eq_true rfl⟩) ⟨h_blind _ _ _ _ _ _ _, h_recv g t_a0 (by decide) so_5 (q := (RX4, TX4, 9)) rfl, h_pre _ hE hk hX hA hI hR g⟩ rfl rfl hl.1 rfl (lv_room (Nat.le_of_ble_eq_true rfl)) dX4_readText_37 ⟨Nat.le_of_ble_eq_true rfl, Nat.le_of_ble_eq_true rfl⟩) g.2.1 (fun q _ h => h) (fun q h => h) (fun I14 t H1 locs ht hvm h13 hB hz1 hk1 hS => ?_)
      obtain ⟨hI, fh13, h13⟩ := h13
      replace g := h_after g hB ht hS
      generalize H1 = H at g
      clear hB hk1 hz1 ht hvm hS
      have hF := hF.call fh13 rfl
      obtain ⟨h13p0, h13p1, h13p2, h13p3, h13p4, h13p5⟩ := h13
      have hlw : h_lw I14 rd nu lo u9 := hlw.c (fun i => fh13.at tnu rfl) (fh13.at trd rfl) (fun i => fh13.at tlo rfl)
      have hap : h_ap z I0 I14 rd nu lo := hap.F fh13 (fun _ => rfl) (fun _ => rfl) (fun _ => rfl)
      have hto : h_told (I14 a0 8) T10 := by rw [fh13.at t_a0 rfl]; exact hto
      rw [atp, abt, show I8 bt = I0 bt from funext (fun k => hFo.at tbt rfl), show I8 tp 1 = I0 tp 1 from hFo.at ttp rfl, ← egb, show I8 a0 6 = v11 from ev11.symm] at h13p0 h13p1 h13p2 h13p3
      rw [show I8 a0 6 = v11 from ev11.symm] at h13p4
      obtain ⟨v15, ev15⟩ : ∃ v : Int32, v = I14 a0 5 := ⟨_, rfl⟩
      rw [← ev15] at h13p0 h13p4 h13p5
      obtain ⟨v16, ev16⟩ : ∃ v : Int32, v = I14 a0 6 := ⟨_, rfl⟩
      rw [← ev16] at h13p1 h13p4 h13p5
      obtain ⟨v17, ev17⟩ : ∃ v : Int32, v = I14 a0 4 := ⟨_, rfl⟩
      rw [← ev17] at h13p2 h13p3 h13p5
      obtain ⟨v18, ev18⟩ : ∃ v : Int32, v = I14 a0 7 := ⟨_, rfl⟩
      rw [← ev18] at h13p3
      refine lv_aload_n hx hb dX4_readText_40 rfl (lv_at hl 0 rfl) ?_
      refine h_get (v := .int v17) hx hb hts iX4 hown g t_a0 (by decide) so_5 rfl 4 (by decide) (hts (.fieldLink RX4 43 "CapLeague$LawReader" "kind" "I") (by decide +kernel)) rfl dX4_readText_41 (congrArg Value.int (ev17.symm)) ?_
      refine lv_if_ne (tgt := 49) hx hb dX4_readText_44 (by decide) (fun c19 => ?_) (fun c19 => ?_)
      · have ic19 := (xi_ne c19 rfl (by decide) : v17.toInt ≠ 0)
        refine lv_aload_n hx hb dX4_readText_49 rfl (lv_at hl 0 rfl) ?_
        have hFo := hF
        refine va_calli (va_runV (As := []) (rest := []) ⟨hx, hb, hml, hown, hts⟩ (tX4_readLineF l E X A z I14 L0 a0 t_a0 (u9) (by rw [ard, anu, alo]; exact hlw) (T10) (hto) (v11.toInt) (by rw [atp, abt, show I14 bt = I0 bt from funext (fun k => hF.at tbt rfl), show I14 tp 1 = I0 tp 1 from hF.at ttp rfl, ← egb]; rw [show I14 a0 5 = v15 from ev15.symm]; exact h13p0) (by rw [atp, abt, show I14 bt = I0 bt from funext (fun k => hF.at tbt rfl), show I14 tp 1 = I0 tp 1 from hF.at ttp rfl, ← egb]; rw [show I14 a0 6 = v16 from ev16.symm]; exact h13p1) (by rw [atp, abt, show I14 bt = I0 bt from funext (fun k => hF.at tbt rfl), show I14 tp 1 = I0 tp 1 from hF.at ttp rfl, ← egb]; rw [show I14 a0 4 = v17 from ev17.symm]; exact h13p2) (by rw [show I14 a0 5 = v15 from ev15.symm, show I14 a0 6 = v16 from ev16.symm, show I14 a0 4 = v17 from ev17.symm]; omega)) (cwV 0 hts gX4_readText_X4_readLine rfl rfl rfl (by decide +kernel) ⟨Nat.le_of_ble_eq_true rfl, Nat.le_of_ble_eq_true rfl⟩) ⟨h_blind _ _ _ _ _ _ _, h_recv g t_a0 (by decide) so_5 (q := (RX4, TX4, 9)) rfl, h_pre _ hE hk hX hA hI hR g⟩ rfl rfl hl.1 rfl (lv_room (Nat.le_of_ble_eq_true rfl)) dX4_readText_50 ⟨Nat.le_of_ble_eq_true rfl, Nat.le_of_ble_eq_true rfl⟩) g.2.1 (fun q _ h => h) (fun q h => h) (fun rh20 I21 t H1 locs ht hvm h20 hB hz1 hk1 hS => ?_)
        obtain ⟨hI, fh20, h20⟩ := h20
        replace g := h_after g hB ht hS
        generalize H1 = H at g
        clear hB hk1 hz1 ht hvm hS
        have hF := hF.call fh20 rfl
        obtain ⟨h20, h20p0, h20p1⟩ := h20
        rw [ard, anu, alo] at h20p1
        have hap : h_ap z I0 I21 rd nu lo := hap.tr h20p1
        rw [atp, abt, show I14 bt = I0 bt from funext (fun k => hFo.at tbt rfl), show I14 tp 1 = I0 tp 1 from hFo.at ttp rfl, ← egb, show I14 a0 6 = v16 from ev16.symm, ard, anu, alo] at h20p0
        refine lv_if_ne (tgt := 58) hx hb dX4_readText_53 (by decide) (fun c22 => ?_) (fun c22 => ?_)
        · have ic22 := (xi_ne c22 rfl (by decide) : rh20.toInt ≠ 0)
          obtain ⟨l2, l3, l4, l5, l6, l7, l8, l9⟩ : (q_line gb v11.toInt T10 u9).1 = 0 ∧ (I21 a0 6).toInt = (q_line gb v11.toInt T10 u9).2.2.1 ∧ h_lw I21 rd nu lo (q_line gb v11.toInt T10 u9).2.2.2 ∧ I21 a0 2 = I14 a0 2 ∧ I21 a0 3 = I14 a0 3 ∧ v16.toInt < (I21 a0 6).toInt ∧ (I21 a0 6).toInt ≤ 500 ∧ h_told (I21 a0 8) (fun c => T10 c || decide (c = q_w gb v11.toInt)) := by rcases h20p0 with q | q; exact q.2; exact absurd q.1 (by omega)
          have hlw := l4
          have hto := l9
          have lq2 : I14 a0 2 = 0 := (h_F.at fh13 t_a0 rfl).trans hx29_2.1
          have lq3 : I14 a0 3 = -1 := (h_F.at fh13 t_a0 rfl).trans hx29_2.2
          obtain ⟨v23, ev23⟩ : ∃ v : Int32, v = I21 a0 6 := ⟨_, rfl⟩
          rw [← ev23] at l3 l7 l8
          obtain ⟨v24, ev24⟩ : ∃ z : Int32, z = v7 + 1 := ⟨_, rfl⟩
          have jv24 : v24.toInt = v7.toInt + 1 := xi_add ev24 rfl (by decide) (by omega) (by omega)
          refine lv_iinc (v := v24) (lv' := [(1, .int v24), (0, .ref a0)]) hx hb dX4_readText_58 hl (k := 1) rfl (by rw [ev24]; rfl) (by decide) rfl (fun ls hl => ?_)
          refine lv_goto (tgt := 29) hx hb dX4_readText_61 (by decide) ?_
          have k25 : (I21 a0 6).toInt = v23.toInt := (congrArg Int32.toInt (ev23.symm)).trans rfl
          exact ih29 I21 _ _ _ v24 ((q_line gb v11.toInt T10 u9).2.2.2) ((fun c => T10 c || decide (c = q_w gb v11.toInt))) g hI hF (lv_sub hl [1, 0] rfl) (by omega) (by omega) (hx29_1.trans (q_text_go (m := v7.toInt) (by omega) (by omega) (by omega) (by omega) l2 (by rw [ev23.symm]; exact l3))) (⟨l5.trans lq2, l6.trans lq3⟩) hlw hap hto (by omega)
        · have ic22 := (xi_eq c22 rfl (by decide) : rh20.toInt = 0)
          refine lv_iconst (v := (-1)) hx hb dX4_readText_56 (by decide) ?_
          have hS := g.2.1
          exact W.iret (v := (-1)) hx hb hr (fun t ht hW => ⟨⟨(-1), I21, rfl, ⟨hI, hF, ⟨⟨(by decide), (by decide)⟩, (by rw [atp, abt, ← egb]; have li : (q_line gb v11.toInt T10 u9).1 ≠ 0 ∧ (I21 a0 2).toInt = (q_line gb v11.toInt T10 u9).1 ∧ (I21 a0 3).toInt = (q_line gb v11.toInt T10 u9).2.1 := (by rcases h20p0 with q | q; exact absurd q.1 (by omega); exact q.2); have R : q_text gb 501 0 (fun _ => false) q_pl 0 = ((q_line gb v11.toInt T10 u9).1, (q_line gb v11.toInt T10 u9).2.1, -1, u9) := hx29_1.trans (q_text_f (by omega) (by omega) (by omega) li.1); rw [R]; exact li.2.1), (by rw [atp, abt, ← egb]; have li : (q_line gb v11.toInt T10 u9).1 ≠ 0 ∧ (I21 a0 2).toInt = (q_line gb v11.toInt T10 u9).1 ∧ (I21 a0 3).toInt = (q_line gb v11.toInt T10 u9).2.1 := (by rcases h20p0 with q | q; exact absurd q.1 (by omega); exact q.2); have R : q_text gb 501 0 (fun _ => false) q_pl 0 = ((q_line gb v11.toInt T10 u9).1, (q_line gb v11.toInt T10 u9).2.1, -1, u9) := hx29_1.trans (q_text_f (by omega) (by omega) (by omega) li.1); rw [R]; exact li.2.2), (by rw [atp, abt, ← egb]; have li : (q_line gb v11.toInt T10 u9).1 ≠ 0 ∧ (I21 a0 2).toInt = (q_line gb v11.toInt T10 u9).1 ∧ (I21 a0 3).toInt = (q_line gb v11.toInt T10 u9).2.1 := (by rcases h20p0 with q | q; exact absurd q.1 (by omega); exact q.2); have R : q_text gb 501 0 (fun _ => false) q_pl 0 = ((q_line gb v11.toInt T10 u9).1, (q_line gb v11.toInt T10 u9).2.1, -1, u9) := hx29_1.trans (q_text_f (by omega) (by omega) (by omega) li.1); rw [R]; exact (by decide : (-1 : Int32).toInt = -1)), (by rw [atp, abt, ← egb, ard, anu, alo]; have li : (q_line gb v11.toInt T10 u9).1 ≠ 0 ∧ (I21 a0 2).toInt = (q_line gb v11.toInt T10 u9).1 ∧ (I21 a0 3).toInt = (q_line gb v11.toInt T10 u9).2.1 := (by rcases h20p0 with q | q; exact absurd q.1 (by omega); exact q.2); have R : q_text gb 501 0 (fun _ => false) q_pl 0 = ((q_line gb v11.toInt T10 u9).1, (q_line gb v11.toInt T10 u9).2.1, -1, u9) := hx29_1.trans (q_text_f (by omega) (by omega) (by omega) li.1); rw [R]; exact fun h9 => absurd h9 li.1), (by rw [atp, abt, ← egb]; have li : (q_line gb v11.toInt T10 u9).1 ≠ 0 ∧ (I21 a0 2).toInt = (q_line gb v11.toInt T10 u9).1 ∧ (I21 a0 3).toInt = (q_line gb v11.toInt T10 u9).2.1 := (by rcases h20p0 with q | q; exact absurd q.1 (by omega); exact q.2); have R : q_text gb 501 0 (fun _ => false) q_pl 0 = ((q_line gb v11.toInt T10 u9).1, (q_line gb v11.toInt T10 u9).2.1, -1, u9) := hx29_1.trans (q_text_f (by omega) (by omega) (by omega) li.1); rw [R]; exact fun _ => by decide), (by rw [ard, anu, alo]; exact hap)⟩⟩, h_ret g ht⟩, hS.F ht⟩) hS.2.2 dX4_readText_57
      · have ic19 := (xi_eq c19 rfl (by decide) : v17.toInt = 0)
        refine lv_iload_n hx hb dX4_readText_47 rfl (lv_at hl 1 rfl) ?_
        have hS := g.2.1
        exact W.iret (v := v7) hx hb hr (fun t ht hW => ⟨⟨v7, I14, rfl, ⟨hI, hF, ⟨⟨(by omega), (by omega)⟩, (by rw [atp, abt, ← egb]; have R : q_text gb 501 0 (fun _ => false) q_pl 0 = (0, -1, v7.toInt, u9) := hx29_1.trans (q_text_end (by omega) (by omega) (by omega)); rw [R]; rw [(h_F.at fh13 t_a0 rfl).trans hx29_2.1]; exact (by decide : (0 : Int32).toInt = 0)), (by rw [atp, abt, ← egb]; have R : q_text gb 501 0 (fun _ => false) q_pl 0 = (0, -1, v7.toInt, u9) := hx29_1.trans (q_text_end (by omega) (by omega) (by omega)); rw [R]; rw [(h_F.at fh13 t_a0 rfl).trans hx29_2.2]; exact (by decide : (-1 : Int32).toInt = -1)), (by rw [atp, abt, ← egb]; have R : q_text gb 501 0 (fun _ => false) q_pl 0 = (0, -1, v7.toInt, u9) := hx29_1.trans (q_text_end (by omega) (by omega) (by omega)); rw [R]), (by rw [atp, abt, ← egb, ard, anu, alo]; have R : q_text gb 501 0 (fun _ => false) q_pl 0 = (0, -1, v7.toInt, u9) := hx29_1.trans (q_text_end (by omega) (by omega) (by omega)); rw [R]; exact fun _ => ⟨hlw, by omega⟩), (by rw [atp, abt, ← egb]; have R : q_text gb 501 0 (fun _ => false) q_pl 0 = (0, -1, v7.toInt, u9) := hx29_1.trans (q_text_end (by omega) (by omega) (by omega)); rw [R]; exact fun h9 => absurd rfl h9), (by rw [ard, anu, alo]; exact hap)⟩⟩, h_ret g ht⟩, hS.F ht⟩) hS.2.2 dX4_readText_48
  have kc26 : (0 : Int32).toInt = 0 := by decide
  have k27 : (I6 a0 6).toInt = 0 := (congrArg Int32.toInt ((h_n2 eI6 (by decide)).trans (h_n0 eI5))).trans (by decide)
  exact loop29_0 _ I6 _ _ _ (0) (q_pl) ((fun _ => false)) g hI hF (lv_sub hl [1, 0] rfl) ⟨by decide, by decide⟩ (by omega) (by rw [(h_n2 eI6 (by decide)).trans (h_n0 eI5), show (0 : Int32).toInt = 0 by decide, show ((501 : Int) - 0).toNat = 501 by decide]) (⟨(h_n2 eI6 (by decide)).trans ((h_n2 eI5 (by decide)).trans ((h_n2 eI4 (by decide)).trans (h_n0 eI3))), (h_n2 eI6 (by decide)).trans ((h_n2 eI5 (by decide)).trans (h_n0 eI4))⟩) hlw hap hto (show (501 - (0 : Int)) < (((501 - (0 : Int)).toNat + 1 : Nat) : Int) by omega)

