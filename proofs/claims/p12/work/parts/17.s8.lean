set_option maxHeartbeats 4000000 in
set_option maxRecDepth 100000 in
theorem tX11_feed (l : Launch) (E : tE) (X : tX) (A : Nat → Prop) (z : tZ) (I0 : tI) (L0 : tL) (a0 : Nat) (t_a0 : z.ty a0 = 12) (a : Int32) (a_t : Int) (h_a : a.toInt = a_t) (b : Int32) (b_t : Int) (h_b : b.toInt = b_t) (c : Int32) (c_t : Int) (h_c : c.toInt = c_t) (d : Int32) (d_t : Int) (h_d : d.toInt = d_t) (f : Int32) (f_t : Int) (h_f : f.toInt = f_t) : Met l yX11_feed wsX11_feed ({ frames := 2, cells := 0, slots := 0, locals := 128 }) (va_Pc [.ref a0, .int a, .int b, .int c, .int d, .int f] (h_P E X A z I0 L0)) (va_Qi (fun r (I1 : tI) => h_I z I1 ∧ h_F [(900, 999), (9, 1)] z I0 I1 ∧ True) (fun (I1 : tI) t => h_B E A z I1 L0 t) A) 0 0 A := by
  refine Met.ofW (cc := cX11_feed) (maxL := 6) (ret := (some .int)) (by decide) rfl ?_
  intro pr_ ev_ s m args below meth cd_ s₁ B hml hv
  obtain ⟨rfl, hE, hk, hX, hA, hK, hI, hR, hB0⟩ := hv
  have g : h_G h_so h_fk E A z I0 L0 s s.heap s.heap [] := ⟨hK, va_S.rf, hB0⟩
  have hF : h_F [(900, 999), (9, 1)] z I0 I0 := h_F.rf
  have hx := B.exec
  have hb := B.bytes
  have hr := B.returns
  have hts := atoms_spec (ws := wsX11_feed) B.pre
  have hown : s.vm.findClass RX11 = some m.cls := findClass_of_methodNamed B.named
  have hlocks := B.notSynchronized
  have iX11 : ∀ w ∈ u_ws RX11 TX11 8, w ∈ wsX11_feed := by decide +kernel
  have iX8 : ∀ w ∈ u_ws RX8 TX8 2, w ∈ wsX11_feed := by decide +kernel
  have hl := lv_entry ([.ref a0, .int a, .int b, .int c, .int d, .int f]) (n := 6) (Nat.le_of_ble_eq_true rfl)
  rw [lg_entry_eq]
  generalize (lg_sl ([.ref a0, .int a, .int b, .int c, .int d, .int f]) ++ List.replicate (6 - (lg_sl ([.ref a0, .int a, .int b, .int c, .int d, .int f])).length) Slot.unset).toArray = ls at hl ⊢
  have hl : lv_has ls 6 [(0, .ref a0), (1, .int a), (2, .int b), (3, .int c), (4, .int d), (5, .int f)] := hl
  have b_a : -2147483648 ≤ a_t ∧ a_t ≤ 2147483647 := h_a ▸ ⟨xi_lo a, Int.le_of_lt_add_one (xi_hi a)⟩
  have b_b : -2147483648 ≤ b_t ∧ b_t ≤ 2147483647 := h_b ▸ ⟨xi_lo b, Int.le_of_lt_add_one (xi_hi b)⟩
  have b_c : -2147483648 ≤ c_t ∧ c_t ≤ 2147483647 := h_c ▸ ⟨xi_lo c, Int.le_of_lt_add_one (xi_hi c)⟩
  have b_d : -2147483648 ≤ d_t ∧ d_t ≤ 2147483647 := h_d ▸ ⟨xi_lo d, Int.le_of_lt_add_one (xi_hi d)⟩
  have b_f : -2147483648 ≤ f_t ∧ f_t ≤ 2147483647 := h_f ▸ ⟨xi_lo f, Int.le_of_lt_add_one (xi_hi f)⟩
  refine lv_aload_n hx hb dX11_feed_0 rfl (lv_at hl 0 rfl) ?_
  obtain ⟨b1, rb1, tb1⟩ := hR.at a0 0 t_a0 (rfl : h_rs 12 0 = some (9, false)) (by decide)
  refine h_get (v := .ref b1) hx hb hts iX11 hown g t_a0 (by decide) so_12 rfl 0 (by decide) (hts (.fieldLink RX11 10 "CapLeague" "tape" "LCapLeague$Tape;") (by decide +kernel)) rfl dX11_feed_1 (by show va_rf (z.R a0 0) = _; rw [rb1]; rfl) ?_
  refine vp_callSi (W.runV (As := []) (rest := []) ⟨hx, hb, hml, hown, hts⟩ (tX8_hasRoom l E X A z I0 L0 b1 tb1) (cwV 0 hts gX11_feed_X8_hasRoom rfl rfl rfl (by decide +kernel) ⟨Nat.le_of_ble_eq_true rfl, Nat.le_of_ble_eq_true rfl⟩) ⟨h_blind _ _ _ _ _ _ _, h_recv g tb1 (by decide) so_9 (q := (RX8, TX8, 2)) rfl, h_pre _ hE hk hX hA hI hR g⟩ rfl rfl hl.1 rfl (lv_room (Nat.le_of_ble_eq_true rfl)) dX11_feed_4 ⟨Nat.le_of_ble_eq_true rfl, Nat.le_of_ble_eq_true rfl⟩) (fun rh2 h2 => ?_)
  refine lv_if_ne (tgt := 13) hx hb dX11_feed_7 (by decide) (fun c3 => ?_) (fun c3 => ?_)
  · have ic3 := (xi_ne c3 rfl (by decide) : rh2.toInt ≠ 0)
    refine lv_aload_n hx hb dX11_feed_13 rfl (lv_at hl 0 rfl) ?_
    refine h_get (v := .ref b1) hx hb hts iX11 hown g t_a0 (by decide) so_12 rfl 0 (by decide) (hts (.fieldLink RX11 10 "CapLeague" "tape" "LCapLeague$Tape;") (by decide +kernel)) rfl dX11_feed_14 (by show va_rf (z.R a0 0) = _; rw [rb1]; rfl) ?_
    refine lv_iload_n hx hb dX11_feed_17 rfl (lv_at hl 1 rfl) ?_
    refine va_callv (va_runV (As := [.int a]) (rest := []) ⟨hx, hb, hml, hown, hts⟩ (tX8_append l E X A z I0 L0 b1 tb1 a (a_t) h_a) (cwV 1 hts gX11_feed_X8_append rfl rfl rfl (by decide +kernel) ⟨Nat.le_of_ble_eq_true rfl, Nat.le_of_ble_eq_true rfl⟩) ⟨h_blind _ _ _ _ _ _ _, h_recv g tb1 (by decide) so_9 (q := (RX8, TX8, 2)) rfl, h_pre _ hE hk hX hA hI hR g⟩ rfl rfl hl.1 rfl (lv_room (Nat.le_of_ble_eq_true rfl)) dX11_feed_18 ⟨Nat.le_of_ble_eq_true rfl, Nat.le_of_ble_eq_true rfl⟩) g.2.1 (fun q _ h => h) (fun q h => h) (fun I5 t H1 locs ht hvm h4 hB hz1 hk1 hS => ?_)
    obtain ⟨hI, fh4, h4⟩ := h4
    replace g := h_after g hB ht hS
    generalize H1 = H at g
    clear hB hk1 hz1 ht hvm hS
    have hF := hF.call fh4 rfl
    refine lv_aload_n hx hb dX11_feed_21 rfl (lv_at hl 0 rfl) ?_
    refine h_get (v := .ref b1) hx hb hts iX11 hown g t_a0 (by decide) so_12 rfl 0 (by decide) (hts (.fieldLink RX11 10 "CapLeague" "tape" "LCapLeague$Tape;") (by decide +kernel)) rfl dX11_feed_22 (by show va_rf (z.R a0 0) = _; rw [rb1]; rfl) ?_
    refine lv_iload_n hx hb dX11_feed_25 rfl (lv_at hl 2 rfl) ?_
    refine va_callv (va_runV (As := [.int b]) (rest := []) ⟨hx, hb, hml, hown, hts⟩ (tX8_append l E X A z I5 L0 b1 tb1 b (b_t) h_b) (cwV 1 hts gX11_feed_X8_append rfl rfl rfl (by decide +kernel) ⟨Nat.le_of_ble_eq_true rfl, Nat.le_of_ble_eq_true rfl⟩) ⟨h_blind _ _ _ _ _ _ _, h_recv g tb1 (by decide) so_9 (q := (RX8, TX8, 2)) rfl, h_pre _ hE hk hX hA hI hR g⟩ rfl rfl hl.1 rfl (lv_room (Nat.le_of_ble_eq_true rfl)) dX11_feed_26 ⟨Nat.le_of_ble_eq_true rfl, Nat.le_of_ble_eq_true rfl⟩) g.2.1 (fun q _ h => h) (fun q h => h) (fun I7 t H1 locs ht hvm h6 hB hz1 hk1 hS => ?_)
    obtain ⟨hI, fh6, h6⟩ := h6
    replace g := h_after g hB ht hS
    generalize H1 = H at g
    clear hB hk1 hz1 ht hvm hS
    have hF := hF.call fh6 rfl
    refine lv_aload_n hx hb dX11_feed_29 rfl (lv_at hl 0 rfl) ?_
    refine h_get (v := .ref b1) hx hb hts iX11 hown g t_a0 (by decide) so_12 rfl 0 (by decide) (hts (.fieldLink RX11 10 "CapLeague" "tape" "LCapLeague$Tape;") (by decide +kernel)) rfl dX11_feed_30 (by show va_rf (z.R a0 0) = _; rw [rb1]; rfl) ?_
    refine lv_iload_n hx hb dX11_feed_33 rfl (lv_at hl 3 rfl) ?_
    refine va_callv (va_runV (As := [.int c]) (rest := []) ⟨hx, hb, hml, hown, hts⟩ (tX8_append l E X A z I7 L0 b1 tb1 c (c_t) h_c) (cwV 1 hts gX11_feed_X8_append rfl rfl rfl (by decide +kernel) ⟨Nat.le_of_ble_eq_true rfl, Nat.le_of_ble_eq_true rfl⟩) ⟨h_blind _ _ _ _ _ _ _, h_recv g tb1 (by decide) so_9 (q := (RX8, TX8, 2)) rfl, h_pre _ hE hk hX hA hI hR g⟩ rfl rfl hl.1 rfl (lv_room (Nat.le_of_ble_eq_true rfl)) dX11_feed_34 ⟨Nat.le_of_ble_eq_true rfl, Nat.le_of_ble_eq_true rfl⟩) g.2.1 (fun q _ h => h) (fun q h => h) (fun I9 t H1 locs ht hvm h8 hB hz1 hk1 hS => ?_)
    obtain ⟨hI, fh8, h8⟩ := h8
    replace g := h_after g hB ht hS
    generalize H1 = H at g
    clear hB hk1 hz1 ht hvm hS
    have hF := hF.call fh8 rfl
    refine lv_aload_n hx hb dX11_feed_37 rfl (lv_at hl 0 rfl) ?_
    refine h_get (v := .ref b1) hx hb hts iX11 hown g t_a0 (by decide) so_12 rfl 0 (by decide) (hts (.fieldLink RX11 10 "CapLeague" "tape" "LCapLeague$Tape;") (by decide +kernel)) rfl dX11_feed_38 (by show va_rf (z.R a0 0) = _; rw [rb1]; rfl) ?_
    refine lv_iload hx hb dX11_feed_41 (lv_at hl 4 rfl) ?_
    refine va_callv (va_runV (As := [.int d]) (rest := []) ⟨hx, hb, hml, hown, hts⟩ (tX8_append l E X A z I9 L0 b1 tb1 d (d_t) h_d) (cwV 1 hts gX11_feed_X8_append rfl rfl rfl (by decide +kernel) ⟨Nat.le_of_ble_eq_true rfl, Nat.le_of_ble_eq_true rfl⟩) ⟨h_blind _ _ _ _ _ _ _, h_recv g tb1 (by decide) so_9 (q := (RX8, TX8, 2)) rfl, h_pre _ hE hk hX hA hI hR g⟩ rfl rfl hl.1 rfl (lv_room (Nat.le_of_ble_eq_true rfl)) dX11_feed_43 ⟨Nat.le_of_ble_eq_true rfl, Nat.le_of_ble_eq_true rfl⟩) g.2.1 (fun q _ h => h) (fun q h => h) (fun I11 t H1 locs ht hvm h10 hB hz1 hk1 hS => ?_)
    obtain ⟨hI, fh10, h10⟩ := h10
    replace g := h_after g hB ht hS
    generalize H1 = H at g
    clear hB hk1 hz1 ht hvm hS
    have hF := hF.call fh10 rfl
    refine lv_aload_n hx hb dX11_feed_46 rfl (lv_at hl 0 rfl) ?_
    refine h_get (v := .ref b1) hx hb hts iX11 hown g t_a0 (by decide) so_12 rfl 0 (by decide) (hts (.fieldLink RX11 10 "CapLeague" "tape" "LCapLeague$Tape;") (by decide +kernel)) rfl dX11_feed_47 (by show va_rf (z.R a0 0) = _; rw [rb1]; rfl) ?_
    refine lv_iload hx hb dX11_feed_50 (lv_at hl 5 rfl) ?_
    refine va_callv (va_runV (As := [.int f]) (rest := []) ⟨hx, hb, hml, hown, hts⟩ (tX8_append l E X A z I11 L0 b1 tb1 f (f_t) h_f) (cwV 1 hts gX11_feed_X8_append rfl rfl rfl (by decide +kernel) ⟨Nat.le_of_ble_eq_true rfl, Nat.le_of_ble_eq_true rfl⟩) ⟨h_blind _ _ _ _ _ _ _, h_recv g tb1 (by decide) so_9 (q := (RX8, TX8, 2)) rfl, h_pre _ hE hk hX hA hI hR g⟩ rfl rfl hl.1 rfl (lv_room (Nat.le_of_ble_eq_true rfl)) dX11_feed_52 ⟨Nat.le_of_ble_eq_true rfl, Nat.le_of_ble_eq_true rfl⟩) g.2.1 (fun q _ h => h) (fun q h => h) (fun I13 t H1 locs ht hvm h12 hB hz1 hk1 hS => ?_)
    obtain ⟨hI, fh12, h12⟩ := h12
    replace g := h_after g hB ht hS
    generalize H1 = H at g
    clear hB hk1 hz1 ht hvm hS
    have hF := hF.call fh12 rfl
    refine lv_aload_n hx hb dX11_feed_55 rfl (lv_at hl 0 rfl) ?_
    refine h_get (v := .ref b1) hx hb hts iX11 hown g t_a0 (by decide) so_12 rfl 0 (by decide) (hts (.fieldLink RX11 10 "CapLeague" "tape" "LCapLeague$Tape;") (by decide +kernel)) rfl dX11_feed_56 (by show va_rf (z.R a0 0) = _; rw [rb1]; rfl) ?_
    refine h_get (v := .int (I13 b1 1)) hx hb hts iX8 hown g tb1 (by decide) so_9 rfl 1 (by decide) (hts (.fieldLink RX11 81 "CapLeague$Tape" "size" "I") (by decide +kernel)) rfl dX11_feed_59 rfl ?_
    refine lv_topi (fun v14 ev14 => ?_)
    have jv14 := hI.rd b1 1 tb1 ev14 (rfl : h_bd 9 1 = (0, 500))
    have hS := g.2.1
    exact W.iret (v := v14) hx hb hr (fun t ht hW => ⟨⟨v14, I13, rfl, ⟨hI, hF, trivial⟩, h_ret g ht⟩, hS.F ht⟩) hS.2.2 dX11_feed_62
  · have ic3 := (xi_eq c3 rfl (by decide) : rh2.toInt = 0)
    refine lv_bipush (v := (-3)) hx hb dX11_feed_10 (by decide) ?_
    have hS := g.2.1
    exact W.iret (v := (-3)) hx hb hr (fun t ht hW => ⟨⟨(-3), I0, rfl, ⟨hI, hF, trivial⟩, h_ret g ht⟩, hS.F ht⟩) hS.2.2 dX11_feed_12
set_option maxHeartbeats 4000000 in
set_option maxRecDepth 100000 in
theorem tX11_end (l : Launch) (E : tE) (X : tX) (A : Nat → Prop) (z : tZ) (I0 : tI) (L0 : tL) (a0 : Nat) (t_a0 : z.ty a0 = 12) (n : Int32) (n_t : Int) (h_n : n.toInt = n_t) : Met l yX11_end wsX11_end ({ frames := 1, cells := 0, slots := 0, locals := 64 }) (va_Pc [.ref a0, .int n] (h_P E X A z I0 L0)) (va_Qi (fun r (I1 : tI) => h_I z I1 ∧ h_F [(9, 1)] z I0 I1 ∧ True) (fun (I1 : tI) t => h_B E A z I1 L0 t) A) 0 0 A := by
  refine Met.ofW (cc := cX11_end) (maxL := 2) (ret := (some .int)) (by decide) rfl ?_
  intro pr_ ev_ s m args below meth cd_ s₁ B hml hv
  obtain ⟨rfl, hE, hk, hX, hA, hK, hI, hR, hB0⟩ := hv
  have g : h_G h_so h_fk E A z I0 L0 s s.heap s.heap [] := ⟨hK, va_S.rf, hB0⟩
  have hF : h_F [(9, 1)] z I0 I0 := h_F.rf
  have hx := B.exec
  have hb := B.bytes
  have hr := B.returns
  have hts := atoms_spec (ws := wsX11_end) B.pre
  have hown : s.vm.findClass RX11 = some m.cls := findClass_of_methodNamed B.named
  have hlocks := B.notSynchronized
  have iX11 : ∀ w ∈ u_ws RX11 TX11 8, w ∈ wsX11_end := by decide +kernel
  have iX8 : ∀ w ∈ u_ws RX8 TX8 2, w ∈ wsX11_end := by decide +kernel
  have hl := lv_entry ([.ref a0, .int n]) (n := 2) (Nat.le_of_ble_eq_true rfl)
  rw [lg_entry_eq]
  generalize (lg_sl ([.ref a0, .int n]) ++ List.replicate (2 - (lg_sl ([.ref a0, .int n])).length) Slot.unset).toArray = ls at hl ⊢
  have hl : lv_has ls 2 [(0, .ref a0), (1, .int n)] := hl
  have b_n : -2147483648 ≤ n_t ∧ n_t ≤ 2147483647 := h_n ▸ ⟨xi_lo n, Int.le_of_lt_add_one (xi_hi n)⟩
  refine lv_iload_n hx hb dX11_end_0 rfl (lv_at hl 1 rfl) ?_
  refine lv_if_lt (tgt := 15) hx hb dX11_end_1 (by decide) (fun c1 => ?_) (fun c1 => ?_)
  · have ic1 := (xi_lt c1 h_n (by decide) : n_t < 0)
    refine lv_iconst (v := (-1)) hx hb dX11_end_15 (by decide) ?_
    have hS := g.2.1
    exact W.iret (v := (-1)) hx hb hr (fun t ht hW => ⟨⟨(-1), I0, rfl, ⟨hI, hF, trivial⟩, h_ret g ht⟩, hS.F ht⟩) hS.2.2 dX11_end_16
  · have ic1 := (xi_nlt c1 h_n (by decide) : 0 ≤ n_t)
    refine lv_iload_n hx hb dX11_end_4 rfl (lv_at hl 1 rfl) ?_
    refine lv_aload_n hx hb dX11_end_5 rfl (lv_at hl 0 rfl) ?_
    obtain ⟨b2, rb2, tb2⟩ := hR.at a0 0 t_a0 (rfl : h_rs 12 0 = some (9, false)) (by decide)
    refine h_get (v := .ref b2) hx hb hts iX11 hown g t_a0 (by decide) so_12 rfl 0 (by decide) (hts (.fieldLink RX11 10 "CapLeague" "tape" "LCapLeague$Tape;") (by decide +kernel)) rfl dX11_end_6 (by show va_rf (z.R a0 0) = _; rw [rb2]; rfl) ?_
    refine h_get (v := .int (I0 b2 1)) hx hb hts iX8 hown g tb2 (by decide) so_9 rfl 1 (by decide) (hts (.fieldLink RX11 81 "CapLeague$Tape" "size" "I") (by decide +kernel)) rfl dX11_end_9 rfl ?_
    refine lv_topi (fun v3 ev3 => ?_)
    have jv3 := hI.rd b2 1 tb2 ev3 (rfl : h_bd 9 1 = (0, 500))
    refine lv_icmp_le (tgt := 17) hx hb dX11_end_12 (by decide) (fun c4 => ?_) (fun c4 => ?_)
    · have ic4 := (xi_le c4 h_n rfl : n_t ≤ v3.toInt)
      refine lv_aload_n hx hb dX11_end_17 rfl (lv_at hl 0 rfl) ?_
      refine h_get (v := .ref b2) hx hb hts iX11 hown g t_a0 (by decide) so_12 rfl 0 (by decide) (hts (.fieldLink RX11 10 "CapLeague" "tape" "LCapLeague$Tape;") (by decide +kernel)) rfl dX11_end_18 (by show va_rf (z.R a0 0) = _; rw [rb2]; rfl) ?_
      refine lv_iload_n hx hb dX11_end_21 rfl (lv_at hl 1 rfl) ?_
      refine h_putI (ty := .int) (v := n) hx hb hts iX8 tyX8 tyX8_ok nmX8 hown g tb2 (by decide) so_9 rfl 1 (by decide) rfl (hts (.fieldLink RX11 81 "CapLeague$Tape" "size" "I") (by decide +kernel)) rfl rfl (by decide +kernel) rfl rfl dX11_end_22 (fun I5 H locs eI5 g => ?_)
      have hI := hI.wr eI5 tb2 (rfl : h_bd 9 1 = (0, 500)) (by rw [h_n]; omega) (by rw [h_n]; omega)
      have hF := hF.wr eI5 tb2 rfl
      refine lv_iload_n hx hb dX11_end_25 rfl (lv_at hl 1 rfl) ?_
      have hS := g.2.1
      exact W.iret (v := n) hx hb hr (fun t ht hW => ⟨⟨n, I5, rfl, ⟨hI, hF, trivial⟩, h_ret g ht⟩, hS.F ht⟩) hS.2.2 dX11_end_26
    · have ic4 := (xi_nle c4 h_n rfl : v3.toInt < n_t)
      refine lv_iconst (v := (-1)) hx hb dX11_end_15 (by decide) ?_
      have hS := g.2.1
      exact W.iret (v := (-1)) hx hb hr (fun t ht hW => ⟨⟨(-1), I0, rfl, ⟨hI, hF, trivial⟩, h_ret g ht⟩, hS.F ht⟩) hS.2.2 dX11_end_16
set_option maxHeartbeats 4000000 in
set_option maxRecDepth 100000 in
theorem tX11_fault (l : Launch) (E : tE) (X : tX) (A : Nat → Prop) (z : tZ) (I0 : tI) (L0 : tL) (a0 : Nat) (t_a0 : z.ty a0 = 12) (x : Int32) (x_t : Int) (h_x : x.toInt = x_t) : Met l yX11_fault wsX11_fault ({ frames := 1, cells := 0, slots := 0, locals := 64 }) (va_Pc [.ref a0, .int x] (h_P E X A z I0 L0)) (vp_Si (fun r => True)) 0 0 (fun _ => False) := by
  refine Met.ofW (cc := cX11_fault) (maxL := 2) (ret := (some .int)) (by decide) rfl ?_
  intro pr_ ev_ s m args below meth cd_ s₁ B hml hv
  obtain ⟨rfl, hE, hk, hX, hA, hK, hI, hR, hB0⟩ := hv
  have g : h_G h_so h_fk E A z I0 L0 s s.heap s.heap [] := ⟨hK, va_S.rf, hB0⟩
  have hx := B.exec
  have hb := B.bytes
  have hr := B.returns
  have hts := atoms_spec (ws := wsX11_fault) B.pre
  have hown : s.vm.findClass RX11 = some m.cls := findClass_of_methodNamed B.named
  have hlocks := B.notSynchronized
  have iX11 : ∀ w ∈ u_ws RX11 TX11 8, w ∈ wsX11_fault := by decide +kernel
  have iX4 : ∀ w ∈ u_ws RX4 TX4 9, w ∈ wsX11_fault := by decide +kernel
  have hl := lv_entry ([.ref a0, .int x]) (n := 2) (Nat.le_of_ble_eq_true rfl)
  rw [lg_entry_eq]
  generalize (lg_sl ([.ref a0, .int x]) ++ List.replicate (2 - (lg_sl ([.ref a0, .int x])).length) Slot.unset).toArray = ls at hl ⊢
  have hl : lv_has ls 2 [(0, .ref a0), (1, .int x)] := hl
  have b_x : -2147483648 ≤ x_t ∧ x_t ≤ 2147483647 := h_x ▸ ⟨xi_lo x, Int.le_of_lt_add_one (xi_hi x)⟩
  refine lv_iload_n hx hb dX11_fault_0 rfl (lv_at hl 1 rfl) ?_
  refine lv_if_ne (tgt := 12) hx hb dX11_fault_1 (by decide) (fun c1 => ?_) (fun c1 => ?_)
  · have ic1 := (xi_ne c1 h_x (by decide) : x_t ≠ 0)
    refine lv_iload_n hx hb dX11_fault_12 rfl (lv_at hl 1 rfl) ?_
    refine lv_iconst (v := 1) hx hb dX11_fault_13 (by decide) ?_
    refine lv_icmp_ne (tgt := 27) hx hb dX11_fault_14 (by decide) (fun c2 => ?_) (fun c2 => ?_)
    · have ic2 := (xi_ne c2 h_x (by decide) : x_t ≠ 1)
      refine lv_iconst (v := (-1)) hx hb dX11_fault_27 (by decide) ?_
      exact W.iret (v := (-1)) hx hb hr (fun t ht hW => ⟨(-1), rfl, trivial, ht⟩) (fun _ h => by cases h) dX11_fault_28
    · have ic2 := (xi_eq c2 h_x (by decide) : x_t = 1)
      refine lv_aload_n hx hb dX11_fault_17 rfl (lv_at hl 0 rfl) ?_
      obtain ⟨b3, rb3, tb3⟩ := hR.at a0 2 t_a0 (rfl : h_rs 12 2 = some (5, false)) (by decide)
      refine h_get (v := .ref b3) hx hb hts iX11 hown g t_a0 (by decide) so_12 rfl 2 (by decide) (hts (.fieldLink RX11 28 "CapLeague" "reader" "LCapLeague$LawReader;") (by decide +kernel)) rfl dX11_fault_18 (by show va_rf (z.R a0 2) = _; rw [rb3]; rfl) ?_
      refine h_get (v := .int (I0 b3 3)) hx hb hts iX4 hown g tb3 (by decide) so_5 rfl 3 (by decide) (hts (.fieldLink RX11 104 "CapLeague$LawReader" "faultPlace" "I") (by decide +kernel)) rfl dX11_fault_21 rfl ?_
      refine lv_topi (fun v4 ev4 => ?_)
      have jv4 := hI.rd b3 3 tb3 ev4 (rfl : h_bd 5 3 = ((-2147483648), 2147483647))
      refine lv_goto (tgt := 28) hx hb dX11_fault_24 (by decide) ?_
      exact W.iret (v := v4) hx hb hr (fun t ht hW => ⟨v4, rfl, trivial, ht⟩) (fun _ h => by cases h) dX11_fault_28
  · have ic1 := (xi_eq c1 h_x (by decide) : x_t = 0)
    refine lv_aload_n hx hb dX11_fault_4 rfl (lv_at hl 0 rfl) ?_
    obtain ⟨b5, rb5, tb5⟩ := hR.at a0 2 t_a0 (rfl : h_rs 12 2 = some (5, false)) (by decide)
    refine h_get (v := .ref b5) hx hb hts iX11 hown g t_a0 (by decide) so_12 rfl 2 (by decide) (hts (.fieldLink RX11 28 "CapLeague" "reader" "LCapLeague$LawReader;") (by decide +kernel)) rfl dX11_fault_5 (by show va_rf (z.R a0 2) = _; rw [rb5]; rfl) ?_
    refine h_get (v := .int (I0 b5 2)) hx hb hts iX4 hown g tb5 (by decide) so_5 rfl 2 (by decide) (hts (.fieldLink RX11 101 "CapLeague$LawReader" "faultKind" "I") (by decide +kernel)) rfl dX11_fault_8 rfl ?_
    refine lv_topi (fun v6 ev6 => ?_)
    have jv6 := hI.rd b5 2 tb5 ev6 (rfl : h_bd 5 2 = ((-2147483648), 2147483647))
    exact W.iret (v := v6) hx hb hr (fun t ht hW => ⟨v6, rfl, trivial, ht⟩) (fun _ h => by cases h) dX11_fault_11
set_option maxHeartbeats 4000000 in
set_option maxRecDepth 100000 in
theorem tX11_law (l : Launch) (E : tE) (X : tX) (A : Nat → Prop) (z : tZ) (I0 : tI) (L0 : tL) (a0 : Nat) (t_a0 : z.ty a0 = 12) (y : Int32) (y_t : Int) (h_y : y.toInt = y_t) (x : Int32) (x_t : Int) (h_x : x.toInt = x_t) : Met l yX11_law wsX11_law ({ frames := 2, cells := 0, slots := 0, locals := 128 }) (va_Pc [.ref a0, .int y, .int x] (h_P E X A z I0 L0)) (vp_Si (fun r => True)) 0 0 (fun _ => False) := by
  refine Met.ofW (cc := cX11_law) (maxL := 3) (ret := (some .int)) (by decide) rfl ?_
  intro pr_ ev_ s m args below meth cd_ s₁ B hml hv
  obtain ⟨rfl, hE, hk, hX, hA, hK, hI, hR, hB0⟩ := hv
  have g : h_G h_so h_fk E A z I0 L0 s s.heap s.heap [] := ⟨hK, va_S.rf, hB0⟩
  have hx := B.exec
  have hb := B.bytes
  have hr := B.returns
  have hts := atoms_spec (ws := wsX11_law) B.pre
  have hown : s.vm.findClass RX11 = some m.cls := findClass_of_methodNamed B.named
  have hlocks := B.notSynchronized
  have iX11 : ∀ w ∈ u_ws RX11 TX11 8, w ∈ wsX11_law := by decide +kernel
  have hl := lv_entry ([.ref a0, .int y, .int x]) (n := 3) (Nat.le_of_ble_eq_true rfl)
  rw [lg_entry_eq]
  generalize (lg_sl ([.ref a0, .int y, .int x]) ++ List.replicate (3 - (lg_sl ([.ref a0, .int y, .int x])).length) Slot.unset).toArray = ls at hl ⊢
  have hl : lv_has ls 3 [(0, .ref a0), (1, .int y), (2, .int x)] := hl
  have b_y : -2147483648 ≤ y_t ∧ y_t ≤ 2147483647 := h_y ▸ ⟨xi_lo y, Int.le_of_lt_add_one (xi_hi y)⟩
  have b_x : -2147483648 ≤ x_t ∧ x_t ≤ 2147483647 := h_x ▸ ⟨xi_lo x, Int.le_of_lt_add_one (xi_hi x)⟩
  refine lv_iload_n hx hb dX11_law_0 rfl (lv_at hl 1 rfl) ?_
  refine vp_callSi (W.runS (As := [.int y]) (rest := []) ⟨hx, hb, hml, hown, hts⟩ (tX11_isYear l E X A z I0 L0 y (y_t) h_y) (va_cwS 1 hts gX11_law_X11_isYear rfl rfl rfl (by decide +kernel) ⟨Nat.le_of_ble_eq_true rfl, Nat.le_of_ble_eq_true rfl⟩) ⟨h_blind _ _ _ _ _ _ _, h_pre _ hE hk hX hA hI hR g⟩ rfl rfl hl.1 rfl (lv_room (Nat.le_of_ble_eq_true rfl)) dX11_law_1 ⟨Nat.le_of_ble_eq_true rfl, Nat.le_of_ble_eq_true rfl⟩) (fun rh1 h1 => ?_)
  rcases h1 with ⟨rfl, h1⟩ | ⟨rfl, h1⟩
  · skip
    refine lv_if_eq (tgt := 22) hx hb dX11_law_4 (by decide) (fun _ => ?_) (fun h => absurd (by decide) h)
    refine lv_bipush (v := (-9)) hx hb dX11_law_22 (by decide) ?_
    exact W.iret (v := (-9)) hx hb hr (fun t ht hW => ⟨(-9), rfl, trivial, ht⟩) (fun _ h => by cases h) dX11_law_24
  · skip
    refine lv_if_eq (tgt := 22) hx hb dX11_law_4 (by decide) (fun h => absurd h (by decide)) (fun _ => ?_)
    refine lv_aload_n hx hb dX11_law_7 rfl (lv_at hl 0 rfl) ?_
    obtain ⟨b4, rb4, tb4⟩ := hR.at a0 1 t_a0 (rfl : h_rs 12 1 = some (4, false)) (by decide)
    refine h_get (v := .ref b4) hx hb hts iX11 hown g t_a0 (by decide) so_12 rfl 1 (by decide) (hts (.fieldLink RX11 19 "CapLeague" "lawBook" "LCapLeague$LawBook;") (by decide +kernel)) rfl dX11_law_8 (by show va_rf (z.R a0 1) = _; rw [rb4]; rfl) ?_
    refine lv_iload_n hx hb dX11_law_11 rfl (lv_at hl 1 rfl) ?_
    refine va_csq (W.runV (As := [.int y]) (rest := []) ⟨hx, hb, hml, hown, hts⟩ (tX3_of l E X A z I0 L0 b4 tb4 y (y_t) h_y) (cwV 1 hts gX11_law_X3_of rfl rfl rfl (by decide +kernel) ⟨Nat.le_of_ble_eq_true rfl, Nat.le_of_ble_eq_true rfl⟩) ⟨h_blind _ _ _ _ _ _ _, h_recv g tb4 (by decide) so_4 (q := (RX3, TX3, 2)) rfl, h_pre _ hE hk hX hA hI hR g⟩ rfl rfl hl.1 rfl (lv_room (Nat.le_of_ble_eq_true rfl)) dX11_law_12 ⟨Nat.le_of_ble_eq_true rfl, Nat.le_of_ble_eq_true rfl⟩) (fun rh5 h5 => ?_)
    obtain ⟨rh5, rfl, trh5⟩ := h5
    refine xw_v (v := .ref rh5) rfl ?_
    refine lv_iload_n hx hb dX11_law_15 rfl (lv_at hl 2 rfl) ?_
    refine vp_callSi (W.runV (As := [.int x]) (rest := []) ⟨hx, hb, hml, hown, hts⟩ (tX5_number l E X A z I0 L0 rh5 trh5 x (x_t) h_x) (cwV 1 hts gX11_law_X5_number rfl rfl rfl (by decide +kernel) ⟨Nat.le_of_ble_eq_true rfl, Nat.le_of_ble_eq_true rfl⟩) ⟨h_blind _ _ _ _ _ _ _, h_recv g trh5 (by decide) so_6 (q := (RX5, TX5, 3)) rfl, h_pre _ hE hk hX hA hI hR g⟩ rfl rfl hl.1 rfl (lv_room (Nat.le_of_ble_eq_true rfl)) dX11_law_16 ⟨Nat.le_of_ble_eq_true rfl, Nat.le_of_ble_eq_true rfl⟩) (fun rh6 h6 => ?_)
    have jrh6 : -2147483648 ≤ rh6.toInt ∧ rh6.toInt ≤ 2147483647 := ⟨xi_lo _, Int.le_of_lt_add_one (xi_hi _)⟩
    refine lv_goto (tgt := 24) hx hb dX11_law_19 (by decide) ?_
    exact W.iret (v := rh6) hx hb hr (fun t ht hW => ⟨rh6, rfl, trivial, ht⟩) (fun _ h => by cases h) dX11_law_24
set_option maxHeartbeats 4000000 in
set_option maxRecDepth 100000 in
theorem tX11_wrong (l : Launch) (E : tE) (X : tX) (A : Nat → Prop) (z : tZ) (I0 : tI) (L0 : tL) (a0 : Nat) (t_a0 : z.ty a0 = 12) (p : Int32) (p_t : Int) (h_p : p.toInt = p_t) (c : Int32) (c_t : Int) (h_c : c.toInt = c_t) (y : Int32) (y_t : Int) (h_y : y.toInt = y_t) (n : Int32) (n_t : Int) (h_n : n.toInt = n_t) (u : Int32) (u_t : Int) (h_u : u.toInt = u_t) (q : Int32) (q_t : Int) (h_q : q.toInt = q_t) (h : Int32) (h_t : Int) (h_h : h.toInt = h_t) (b_h : 0 ≤ h_t ∧ h_t ≤ 1) : Met l yX11_wrong wsX11_wrong ({ frames := 7, cells := 0, slots := 0, locals := 448 }) (va_Pc [.ref a0, .int p, .int c, .int y, .int n, .int u, .int q, .int h] (h_P E X A z I0 L0)) (vp_Si (fun r => True)) 0 0 (fun _ => False) := by
  refine Met.ofW (cc := cX11_wrong) (maxL := 9) (ret := (some .int)) (by decide) rfl ?_
  intro pr_ ev_ s m args below meth cd_ s₁ B hml hv
  obtain ⟨rfl, hE, hk, hX, hA, hK, hI, hR, hB0⟩ := hv
  have g : h_G h_so h_fk E A z I0 L0 s s.heap s.heap [] := ⟨hK, va_S.rf, hB0⟩
  have hx := B.exec
  have hb := B.bytes
  have hr := B.returns
  have hts := atoms_spec (ws := wsX11_wrong) B.pre
  have hown : s.vm.findClass RX11 = some m.cls := findClass_of_methodNamed B.named
  have hlocks := B.notSynchronized
  have iX11 : ∀ w ∈ u_ws RX11 TX11 8, w ∈ wsX11_wrong := by decide +kernel
  have hl := lv_entry ([.ref a0, .int p, .int c, .int y, .int n, .int u, .int q, .int h]) (n := 9) (Nat.le_of_ble_eq_true rfl)
  rw [lg_entry_eq]
  generalize (lg_sl ([.ref a0, .int p, .int c, .int y, .int n, .int u, .int q, .int h]) ++ List.replicate (9 - (lg_sl ([.ref a0, .int p, .int c, .int y, .int n, .int u, .int q, .int h])).length) Slot.unset).toArray = ls at hl ⊢
  have hl : lv_has ls 9 [(0, .ref a0), (1, .int p), (2, .int c), (3, .int y), (4, .int n), (5, .int u), (6, .int q), (7, .int h)] := hl
  have b_p : -2147483648 ≤ p_t ∧ p_t ≤ 2147483647 := h_p ▸ ⟨xi_lo p, Int.le_of_lt_add_one (xi_hi p)⟩
  have b_c : -2147483648 ≤ c_t ∧ c_t ≤ 2147483647 := h_c ▸ ⟨xi_lo c, Int.le_of_lt_add_one (xi_hi c)⟩
  have b_y : -2147483648 ≤ y_t ∧ y_t ≤ 2147483647 := h_y ▸ ⟨xi_lo y, Int.le_of_lt_add_one (xi_hi y)⟩
  have b_n : -2147483648 ≤ n_t ∧ n_t ≤ 2147483647 := h_n ▸ ⟨xi_lo n, Int.le_of_lt_add_one (xi_hi n)⟩
  have b_u : -2147483648 ≤ u_t ∧ u_t ≤ 2147483647 := h_u ▸ ⟨xi_lo u, Int.le_of_lt_add_one (xi_hi u)⟩
  have b_q : -2147483648 ≤ q_t ∧ q_t ≤ 2147483647 := h_q ▸ ⟨xi_lo q, Int.le_of_lt_add_one (xi_hi q)⟩
  refine lv_aload_n hx hb dX11_wrong_0 rfl (lv_at hl 0 rfl) ?_
  obtain ⟨b1, rb1, tb1⟩ := hR.at a0 3 t_a0 (rfl : h_rs 12 3 = some (1, false)) (by decide)
  refine h_get (v := .ref b1) hx hb hts iX11 hown g t_a0 (by decide) so_12 rfl 3 (by decide) (hts (.fieldLink RX11 37 "CapLeague" "books" "LCapLeague$Books;") (by decide +kernel)) rfl dX11_wrong_1 (by show va_rf (z.R a0 3) = _; rw [rb1]; rfl) ?_
  refine lv_iload_n hx hb dX11_wrong_4 rfl (lv_at hl 1 rfl) ?_
  refine va_csq (W.runV (As := [.int p]) (rest := []) ⟨hx, hb, hml, hown, hts⟩ (tX0_playerAt l E X A z I0 L0 b1 tb1 p (p_t) h_p) (cwV 1 hts gX11_wrong_X0_playerAt rfl rfl rfl (by decide +kernel) ⟨Nat.le_of_ble_eq_true rfl, Nat.le_of_ble_eq_true rfl⟩) ⟨h_blind _ _ _ _ _ _ _, h_recv g tb1 (by decide) so_1 (q := (RX0, TX0, 9)) rfl, h_pre _ hE hk hX hA hI hR g⟩ rfl rfl hl.1 rfl (lv_room (Nat.le_of_ble_eq_true rfl)) dX11_wrong_5 ⟨Nat.le_of_ble_eq_true rfl, Nat.le_of_ble_eq_true rfl⟩) (fun rh2 h2 => ?_)
  rcases h2 with rfl | ⟨rh2, rfl, trh2⟩
  · refine xw_v (v := .null) rfl ?_
    refine lv_astoreN (lv' := [(8, .null), (0, .ref a0), (1, .int p), (2, .int c), (3, .int y), (4, .int n), (5, .int u), (6, .int q), (7, .int h)]) hx hb dX11_wrong_8 hl (by decide) rfl (fun ls hl => ?_)
    refine lv_aloadN hx hb dX11_wrong_10 (lv_at hl 0 rfl) ?_
    refine lv_ifnullN (tgt := 37) hx hb dX11_wrong_12 (by decide) ?_
    refine lv_bipush (v := (-2)) hx hb dX11_wrong_37 (by decide) ?_
    exact W.iret (v := (-2)) hx hb hr (fun t ht hW => ⟨(-2), rfl, trivial, ht⟩) (fun _ h => by cases h) dX11_wrong_39
  · refine xw_v (v := .ref rh2) rfl ?_
    refine lv_astore (lv' := [(8, .ref rh2), (0, .ref a0), (1, .int p), (2, .int c), (3, .int y), (4, .int n), (5, .int u), (6, .int q), (7, .int h)]) hx hb dX11_wrong_8 hl (by decide) rfl (fun ls hl => ?_)
    refine lv_aload hx hb dX11_wrong_10 (lv_at hl 0 rfl) ?_
    refine lv_ifnull hx hb dX11_wrong_12 ?_
    refine lv_iload_n hx hb dX11_wrong_15 rfl (lv_at hl 3 rfl) ?_
    refine vp_callSi (W.runS (As := [.int c]) (rest := []) ⟨hx, hb, hml, hown, hts⟩ (tX11_isClub l E X A z I0 L0 c (c_t) h_c) (va_cwS 1 hts gX11_wrong_X11_isClub rfl rfl rfl (by decide +kernel) ⟨Nat.le_of_ble_eq_true rfl, Nat.le_of_ble_eq_true rfl⟩) ⟨h_blind _ _ _ _ _ _ _, h_pre _ hE hk hX hA hI hR g⟩ rfl rfl hl.1 rfl (lv_room (Nat.le_of_ble_eq_true rfl)) dX11_wrong_16 ⟨Nat.le_of_ble_eq_true rfl, Nat.le_of_ble_eq_true rfl⟩) (fun rh3 h3 => ?_)
    rcases h3 with ⟨rfl, h3⟩ | ⟨rfl, h3⟩
    · skip
      refine lv_if_eq (tgt := 37) hx hb dX11_wrong_19 (by decide) (fun _ => ?_) (fun h => absurd (by decide) h)
      refine lv_bipush (v := (-2)) hx hb dX11_wrong_37 (by decide) ?_
      exact W.iret (v := (-2)) hx hb hr (fun t ht hW => ⟨(-2), rfl, trivial, ht⟩) (fun _ h => by cases h) dX11_wrong_39
    · skip
      refine lv_if_eq (tgt := 37) hx hb dX11_wrong_19 (by decide) (fun h => absurd h (by decide)) (fun _ => ?_)
      refine lv_iload_n hx hb dX11_wrong_22 rfl (lv_at hl 4 rfl) ?_
      refine lv_iload hx hb dX11_wrong_23 (lv_at hl 5 rfl) ?_
      refine lv_iload hx hb dX11_wrong_25 (lv_at hl 6 rfl) ?_
      refine lv_iload hx hb dX11_wrong_27 (lv_at hl 7 rfl) ?_
      refine lv_iload hx hb dX11_wrong_29 (lv_at hl 8 rfl) ?_
      refine vp_callSi (W.runS (As := [.int y, .int n, .int u, .int q, .int h]) (rest := []) ⟨hx, hb, hml, hown, hts⟩ (tX11_areTerms l E X A z I0 L0 y (y_t) h_y n (n_t) h_n u (u_t) h_u q (q_t) h_q h (h_t) h_h (by omega)) (va_cwS 5 hts gX11_wrong_X11_areTerms rfl rfl rfl (by decide +kernel) ⟨Nat.le_of_ble_eq_true rfl, Nat.le_of_ble_eq_true rfl⟩) ⟨h_blind _ _ _ _ _ _ _, h_pre _ hE hk hX hA hI hR g⟩ rfl rfl hl.1 rfl (lv_room (Nat.le_of_ble_eq_true rfl)) dX11_wrong_31 ⟨Nat.le_of_ble_eq_true rfl, Nat.le_of_ble_eq_true rfl⟩) (fun rh6 h6 => ?_)
      refine lv_if_ne (tgt := 40) hx hb dX11_wrong_34 (by decide) (fun c7 => ?_) (fun c7 => ?_)
      · have ic7 := (xi_ne c7 rfl (by decide) : rh6.toInt ≠ 0)
        refine lv_aload_n hx hb dX11_wrong_40 rfl (lv_at hl 1 rfl) ?_
        refine h_get (v := .ref b1) hx hb hts iX11 hown g t_a0 (by decide) so_12 rfl 3 (by decide) (hts (.fieldLink RX11 37 "CapLeague" "books" "LCapLeague$Books;") (by decide +kernel)) rfl dX11_wrong_41 (by show va_rf (z.R a0 3) = _; rw [rb1]; rfl) ?_
        refine lv_aload hx hb dX11_wrong_44 (lv_at hl 0 rfl) ?_
        refine lv_iload_n hx hb dX11_wrong_46 rfl (lv_at hl 3 rfl) ?_
        refine lv_iload_n hx hb dX11_wrong_47 rfl (lv_at hl 4 rfl) ?_
        refine lv_iload hx hb dX11_wrong_48 (lv_at hl 5 rfl) ?_
        refine vp_callSi (W.runV (As := [.ref rh2, .int c, .int y, .int n]) (rest := []) ⟨hx, hb, hml, hown, hts⟩ (tX0_faultsOfContract l E X A z I0 L0 b1 tb1 rh2 trh2 c (c_t) h_c y (y_t) h_y n (n_t) h_n) (cwV 4 hts gX11_wrong_X0_faultsOfContract rfl rfl rfl (by decide +kernel) ⟨Nat.le_of_ble_eq_true rfl, Nat.le_of_ble_eq_true rfl⟩) ⟨h_blind _ _ _ _ _ _ _, h_recv g tb1 (by decide) so_1 (q := (RX0, TX0, 9)) rfl, h_pre _ hE hk hX hA hI hR g⟩ rfl rfl hl.1 rfl (lv_room (Nat.le_of_ble_eq_true rfl)) dX11_wrong_50 ⟨Nat.le_of_ble_eq_true rfl, Nat.le_of_ble_eq_true rfl⟩) (fun rh8 h8 => ?_)
        have jrh8 : -2147483648 ≤ rh8.toInt ∧ rh8.toInt ≤ 2147483647 := ⟨xi_lo _, Int.le_of_lt_add_one (xi_hi _)⟩
        exact W.iret (v := rh8) hx hb hr (fun t ht hW => ⟨rh8, rfl, trivial, ht⟩) (fun _ h => by cases h) dX11_wrong_53
      · have ic7 := (xi_eq c7 rfl (by decide) : rh6.toInt = 0)
        refine lv_bipush (v := (-2)) hx hb dX11_wrong_37 (by decide) ?_
        exact W.iret (v := (-2)) hx hb hr (fun t ht hW => ⟨(-2), rfl, trivial, ht⟩) (fun _ h => by cases h) dX11_wrong_39
set_option maxHeartbeats 4000000 in
set_option maxRecDepth 100000 in
theorem tX11_sign (l : Launch) (E : tE) (X : tX) (A : Nat → Prop) (z : tZ) (I0 : tI) (L0 : tL) (a0 : Nat) (t_a0 : z.ty a0 = 12) (p : Int32) (p_t : Int) (h_p : p.toInt = p_t) (c : Int32) (c_t : Int) (h_c : c.toInt = c_t) (y : Int32) (y_t : Int) (h_y : y.toInt = y_t) (n : Int32) (n_t : Int) (h_n : n.toInt = n_t) (u : Int32) (u_t : Int) (h_u : u.toInt = u_t) (q : Int32) (q_t : Int) (h_q : q.toInt = q_t) (h : Int32) (h_t : Int) (h_h : h.toInt = h_t) (b_h : 0 ≤ h_t ∧ h_t ≤ 1) : Met l yX11_sign wsX11_sign ({ frames := 7, cells := 0, slots := 0, locals := 448 }) (va_Pc [.ref a0, .int p, .int c, .int y, .int n, .int u, .int q, .int h] (h_P E X A z I0 L0)) (va_Qi (fun r (I1 : tI) => h_I z I1 ∧ h_F [(105, 999), (7, 0), (7, 1), (7, 2), (7, 3), (7, 4), (7, 5), (7, 6), (10, 3), (10, 4)] z I0 I1 ∧ True) (fun (I1 : tI) t => h_B E A z I1 L0 t) A) 0 0 A := by
  refine Met.ofW (cc := cX11_sign) (maxL := 9) (ret := (some .int)) (by decide) rfl ?_
  intro pr_ ev_ s m args below meth cd_ s₁ B hml hv
  obtain ⟨rfl, hE, hk, hX, hA, hK, hI, hR, hB0⟩ := hv
  have g : h_G h_so h_fk E A z I0 L0 s s.heap s.heap [] := ⟨hK, va_S.rf, hB0⟩
  have hF : h_F [(105, 999), (7, 0), (7, 1), (7, 2), (7, 3), (7, 4), (7, 5), (7, 6), (10, 3), (10, 4)] z I0 I0 := h_F.rf
  have hx := B.exec
  have hb := B.bytes
  have hr := B.returns
  have hts := atoms_spec (ws := wsX11_sign) B.pre
  have hown : s.vm.findClass RX11 = some m.cls := findClass_of_methodNamed B.named
  have hlocks := B.notSynchronized
  have iX11 : ∀ w ∈ u_ws RX11 TX11 8, w ∈ wsX11_sign := by decide +kernel
  have iX0 : ∀ w ∈ u_ws RX0 TX0 9, w ∈ wsX11_sign := by decide +kernel
  have hl := lv_entry ([.ref a0, .int p, .int c, .int y, .int n, .int u, .int q, .int h]) (n := 9) (Nat.le_of_ble_eq_true rfl)
  rw [lg_entry_eq]
  generalize (lg_sl ([.ref a0, .int p, .int c, .int y, .int n, .int u, .int q, .int h]) ++ List.replicate (9 - (lg_sl ([.ref a0, .int p, .int c, .int y, .int n, .int u, .int q, .int h])).length) Slot.unset).toArray = ls at hl ⊢
  have hl : lv_has ls 9 [(0, .ref a0), (1, .int p), (2, .int c), (3, .int y), (4, .int n), (5, .int u), (6, .int q), (7, .int h)] := hl
  have b_p : -2147483648 ≤ p_t ∧ p_t ≤ 2147483647 := h_p ▸ ⟨xi_lo p, Int.le_of_lt_add_one (xi_hi p)⟩
  have b_c : -2147483648 ≤ c_t ∧ c_t ≤ 2147483647 := h_c ▸ ⟨xi_lo c, Int.le_of_lt_add_one (xi_hi c)⟩
  have b_y : -2147483648 ≤ y_t ∧ y_t ≤ 2147483647 := h_y ▸ ⟨xi_lo y, Int.le_of_lt_add_one (xi_hi y)⟩
  have b_n : -2147483648 ≤ n_t ∧ n_t ≤ 2147483647 := h_n ▸ ⟨xi_lo n, Int.le_of_lt_add_one (xi_hi n)⟩
  have b_u : -2147483648 ≤ u_t ∧ u_t ≤ 2147483647 := h_u ▸ ⟨xi_lo u, Int.le_of_lt_add_one (xi_hi u)⟩
  have b_q : -2147483648 ≤ q_t ∧ q_t ≤ 2147483647 := h_q ▸ ⟨xi_lo q, Int.le_of_lt_add_one (xi_hi q)⟩
  refine lv_aload_n hx hb dX11_sign_0 rfl (lv_at hl 0 rfl) ?_
  obtain ⟨b1, rb1, tb1⟩ := hR.at a0 3 t_a0 (rfl : h_rs 12 3 = some (1, false)) (by decide)
  refine h_get (v := .ref b1) hx hb hts iX11 hown g t_a0 (by decide) so_12 rfl 3 (by decide) (hts (.fieldLink RX11 37 "CapLeague" "books" "LCapLeague$Books;") (by decide +kernel)) rfl dX11_sign_1 (by show va_rf (z.R a0 3) = _; rw [rb1]; rfl) ?_
  refine lv_iload_n hx hb dX11_sign_4 rfl (lv_at hl 1 rfl) ?_
  refine va_csq (W.runV (As := [.int p]) (rest := []) ⟨hx, hb, hml, hown, hts⟩ (tX0_playerAt l E X A z I0 L0 b1 tb1 p (p_t) h_p) (cwV 1 hts gX11_sign_X0_playerAt rfl rfl rfl (by decide +kernel) ⟨Nat.le_of_ble_eq_true rfl, Nat.le_of_ble_eq_true rfl⟩) ⟨h_blind _ _ _ _ _ _ _, h_recv g tb1 (by decide) so_1 (q := (RX0, TX0, 9)) rfl, h_pre _ hE hk hX hA hI hR g⟩ rfl rfl hl.1 rfl (lv_room (Nat.le_of_ble_eq_true rfl)) dX11_sign_5 ⟨Nat.le_of_ble_eq_true rfl, Nat.le_of_ble_eq_true rfl⟩) (fun rh2 h2 => ?_)
  rcases h2 with rfl | ⟨rh2, rfl, trh2⟩
  · refine xw_v (v := .null) rfl ?_
    refine lv_astoreN (lv' := [(8, .null), (0, .ref a0), (1, .int p), (2, .int c), (3, .int y), (4, .int n), (5, .int u), (6, .int q), (7, .int h)]) hx hb dX11_sign_8 hl (by decide) rfl (fun ls hl => ?_)
    refine lv_aloadN hx hb dX11_sign_10 (lv_at hl 0 rfl) ?_
    refine lv_ifnullN (tgt := 37) hx hb dX11_sign_12 (by decide) ?_
    refine lv_bipush (v := (-2)) hx hb dX11_sign_37 (by decide) ?_
    have hS := g.2.1
    exact W.iret (v := (-2)) hx hb hr (fun t ht hW => ⟨⟨(-2), I0, rfl, ⟨hI, hF, trivial⟩, h_ret g ht⟩, hS.F ht⟩) hS.2.2 dX11_sign_39
  · refine xw_v (v := .ref rh2) rfl ?_
    refine lv_astore (lv' := [(8, .ref rh2), (0, .ref a0), (1, .int p), (2, .int c), (3, .int y), (4, .int n), (5, .int u), (6, .int q), (7, .int h)]) hx hb dX11_sign_8 hl (by decide) rfl (fun ls hl => ?_)
    refine lv_aload hx hb dX11_sign_10 (lv_at hl 0 rfl) ?_
    refine lv_ifnull hx hb dX11_sign_12 ?_
    refine lv_iload_n hx hb dX11_sign_15 rfl (lv_at hl 3 rfl) ?_
    refine vp_callSi (W.runS (As := [.int c]) (rest := []) ⟨hx, hb, hml, hown, hts⟩ (tX11_isClub l E X A z I0 L0 c (c_t) h_c) (va_cwS 1 hts gX11_sign_X11_isClub rfl rfl rfl (by decide +kernel) ⟨Nat.le_of_ble_eq_true rfl, Nat.le_of_ble_eq_true rfl⟩) ⟨h_blind _ _ _ _ _ _ _, h_pre _ hE hk hX hA hI hR g⟩ rfl rfl hl.1 rfl (lv_room (Nat.le_of_ble_eq_true rfl)) dX11_sign_16 ⟨Nat.le_of_ble_eq_true rfl, Nat.le_of_ble_eq_true rfl⟩) (fun rh3 h3 => ?_)
    rcases h3 with ⟨rfl, h3⟩ | ⟨rfl, h3⟩
    · skip
      refine lv_if_eq (tgt := 37) hx hb dX11_sign_19 (by decide) (fun _ => ?_) (fun h => absurd (by decide) h)
      refine lv_bipush (v := (-2)) hx hb dX11_sign_37 (by decide) ?_
      have hS := g.2.1
      exact W.iret (v := (-2)) hx hb hr (fun t ht hW => ⟨⟨(-2), I0, rfl, ⟨hI, hF, trivial⟩, h_ret g ht⟩, hS.F ht⟩) hS.2.2 dX11_sign_39
    · skip
      refine lv_if_eq (tgt := 37) hx hb dX11_sign_19 (by decide) (fun h => absurd h (by decide)) (fun _ => ?_)
      refine lv_iload_n hx hb dX11_sign_22 rfl (lv_at hl 4 rfl) ?_
      refine lv_iload hx hb dX11_sign_23 (lv_at hl 5 rfl) ?_
      refine lv_iload hx hb dX11_sign_25 (lv_at hl 6 rfl) ?_
      refine lv_iload hx hb dX11_sign_27 (lv_at hl 7 rfl) ?_
      refine lv_iload hx hb dX11_sign_29 (lv_at hl 8 rfl) ?_
      refine vp_callSi (W.runS (As := [.int y, .int n, .int u, .int q, .int h]) (rest := []) ⟨hx, hb, hml, hown, hts⟩ (tX11_areTerms l E X A z I0 L0 y (y_t) h_y n (n_t) h_n u (u_t) h_u q (q_t) h_q h (h_t) h_h (by omega)) (va_cwS 5 hts gX11_sign_X11_areTerms rfl rfl rfl (by decide +kernel) ⟨Nat.le_of_ble_eq_true rfl, Nat.le_of_ble_eq_true rfl⟩) ⟨h_blind _ _ _ _ _ _ _, h_pre _ hE hk hX hA hI hR g⟩ rfl rfl hl.1 rfl (lv_room (Nat.le_of_ble_eq_true rfl)) dX11_sign_31 ⟨Nat.le_of_ble_eq_true rfl, Nat.le_of_ble_eq_true rfl⟩) (fun rh6 h6 => ?_)
      refine lv_if_ne (tgt := 40) hx hb dX11_sign_34 (by decide) (fun c7 => ?_) (fun c7 => ?_)
      · have ic7 := (xi_ne c7 rfl (by decide) : rh6.toInt ≠ 0)
        refine lv_aload_n hx hb dX11_sign_40 rfl (lv_at hl 1 rfl) ?_
        refine h_get (v := .ref b1) hx hb hts iX11 hown g t_a0 (by decide) so_12 rfl 3 (by decide) (hts (.fieldLink RX11 37 "CapLeague" "books" "LCapLeague$Books;") (by decide +kernel)) rfl dX11_sign_41 (by show va_rf (z.R a0 3) = _; rw [rb1]; rfl) ?_
        refine lv_aload hx hb dX11_sign_44 (lv_at hl 0 rfl) ?_
        refine lv_iload_n hx hb dX11_sign_46 rfl (lv_at hl 3 rfl) ?_
        refine lv_iload_n hx hb dX11_sign_47 rfl (lv_at hl 4 rfl) ?_
        refine lv_iload hx hb dX11_sign_48 (lv_at hl 5 rfl) ?_
        refine vp_callSi (W.runV (As := [.ref rh2, .int c, .int y, .int n]) (rest := []) ⟨hx, hb, hml, hown, hts⟩ (tX0_faultsOfContract l E X A z I0 L0 b1 tb1 rh2 trh2 c (c_t) h_c y (y_t) h_y n (n_t) h_n) (cwV 4 hts gX11_sign_X0_faultsOfContract rfl rfl rfl (by decide +kernel) ⟨Nat.le_of_ble_eq_true rfl, Nat.le_of_ble_eq_true rfl⟩) ⟨h_blind _ _ _ _ _ _ _, h_recv g tb1 (by decide) so_1 (q := (RX0, TX0, 9)) rfl, h_pre _ hE hk hX hA hI hR g⟩ rfl rfl hl.1 rfl (lv_room (Nat.le_of_ble_eq_true rfl)) dX11_sign_50 ⟨Nat.le_of_ble_eq_true rfl, Nat.le_of_ble_eq_true rfl⟩) (fun rh8 h8 => ?_)
        have jrh8 : -2147483648 ≤ rh8.toInt ∧ rh8.toInt ≤ 2147483647 := ⟨xi_lo _, Int.le_of_lt_add_one (xi_hi _)⟩
        refine lv_if_eq (tgt := 58) hx hb dX11_sign_53 (by decide) (fun c9 => ?_) (fun c9 => ?_)
        · have ic9 := (xi_eq c9 rfl (by decide) : rh8.toInt = 0)
          refine lv_aload_n hx hb dX11_sign_58 rfl (lv_at hl 1 rfl) ?_
          refine h_get (v := .ref b1) hx hb hts iX11 hown g t_a0 (by decide) so_12 rfl 3 (by decide) (hts (.fieldLink RX11 37 "CapLeague" "books" "LCapLeague$Books;") (by decide +kernel)) rfl dX11_sign_59 (by show va_rf (z.R a0 3) = _; rw [rb1]; rfl) ?_
          refine lv_iload_n hx hb dX11_sign_62 rfl (lv_at hl 3 rfl) ?_
          refine lv_iload hx hb dX11_sign_63 (lv_at hl 5 rfl) ?_
          refine va_callv (va_runV (As := [.int c, .int n]) (rest := []) ⟨hx, hb, hml, hown, hts⟩ (tX0_useSpareIfAboveCap l E X A z I0 L0 b1 tb1 c (c_t) h_c n (n_t) h_n) (cwV 2 hts gX11_sign_X0_useSpareIfAboveCap rfl rfl rfl (by decide +kernel) ⟨Nat.le_of_ble_eq_true rfl, Nat.le_of_ble_eq_true rfl⟩) ⟨h_blind _ _ _ _ _ _ _, h_recv g tb1 (by decide) so_1 (q := (RX0, TX0, 9)) rfl, h_pre _ hE hk hX hA hI hR g⟩ rfl rfl hl.1 rfl (lv_room (Nat.le_of_ble_eq_true rfl)) dX11_sign_65 ⟨Nat.le_of_ble_eq_true rfl, Nat.le_of_ble_eq_true rfl⟩) g.2.1 (fun q _ h => h) (fun q h => h) (fun I11 t H1 locs ht hvm h10 hB hz1 hk1 hS => ?_)
          obtain ⟨hI, fh10, h10⟩ := h10
          replace g := h_after g hB ht hS
          generalize H1 = H at g
          clear hB hk1 hz1 ht hvm hS
          have hF := hF.call fh10 rfl
          refine lv_aload hx hb dX11_sign_68 (lv_at hl 0 rfl) ?_
          refine lv_iload_n hx hb dX11_sign_70 rfl (lv_at hl 3 rfl) ?_
          refine lv_aload_n hx hb dX11_sign_71 rfl (lv_at hl 1 rfl) ?_
          refine h_get (v := .ref b1) hx hb hts iX11 hown g t_a0 (by decide) so_12 rfl 3 (by decide) (hts (.fieldLink RX11 37 "CapLeague" "books" "LCapLeague$Books;") (by decide +kernel)) rfl dX11_sign_72 (by show va_rf (z.R a0 3) = _; rw [rb1]; rfl) ?_
          refine h_get (v := .int (I11 b1 3)) hx hb hts iX0 hown g tb1 (by decide) so_1 rfl 3 (by decide) (hts (.fieldLink RX11 142 "CapLeague$Books" "clock" "I") (by decide +kernel)) rfl dX11_sign_75 rfl ?_
          refine lv_topi (fun v12 ev12 => ?_)
          have jv12 := hI.rd b1 3 tb1 ev12 (rfl : h_bd 1 3 = (0, 9))
          refine lv_iload_n hx hb dX11_sign_78 rfl (lv_at hl 4 rfl) ?_
          refine lv_iload hx hb dX11_sign_79 (lv_at hl 5 rfl) ?_
          refine lv_iload hx hb dX11_sign_81 (lv_at hl 6 rfl) ?_
          refine lv_iload hx hb dX11_sign_83 (lv_at hl 7 rfl) ?_
          refine lv_iload hx hb dX11_sign_85 (lv_at hl 8 rfl) ?_
          refine va_callv (va_runV (As := [.int c, .int v12, .int y, .int n, .int u, .int q, .int h]) (rest := []) ⟨hx, hb, hml, hown, hts⟩ (tX6_bind l E X A z I11 L0 rh2 trh2 c (c_t) h_c (by omega) v12 (v12.toInt) rfl y (y_t) h_y n (n_t) h_n u (u_t) h_u q (q_t) h_q h (h_t) h_h (by omega)) (cwV 7 hts gX11_sign_X6_bind rfl rfl rfl (by decide +kernel) ⟨Nat.le_of_ble_eq_true rfl, Nat.le_of_ble_eq_true rfl⟩) ⟨h_blind _ _ _ _ _ _ _, h_recv g trh2 (by decide) so_7 (q := (RX6, TX6, 9)) rfl, h_pre _ hE hk hX hA hI hR g⟩ rfl rfl hl.1 rfl (lv_room (Nat.le_of_ble_eq_true rfl)) dX11_sign_87 ⟨Nat.le_of_ble_eq_true rfl, Nat.le_of_ble_eq_true rfl⟩) g.2.1 (fun q _ h => h) (fun q h => h) (fun I14 t H1 locs ht hvm h13 hB hz1 hk1 hS => ?_)
          obtain ⟨hI, fh13, h13⟩ := h13
          replace g := h_after g hB ht hS
          generalize H1 = H at g
          clear hB hk1 hz1 ht hvm hS
          have hF := hF.call fh13 rfl
          refine lv_aload_n hx hb dX11_sign_90 rfl (lv_at hl 1 rfl) ?_
          obtain ⟨b15, rb15, tb15⟩ := hR.at a0 5 t_a0 (rfl : h_rs 12 5 = some (10, false)) (by decide)
          refine h_get (v := .ref b15) hx hb hts iX11 hown g t_a0 (by decide) so_12 rfl 5 (by decide) (hts (.fieldLink RX11 53 "CapLeague" "bargain" "LCapLeague$Trade;") (by decide +kernel)) rfl dX11_sign_91 (by show va_rf (z.R a0 5) = _; rw [rb15]; rfl) ?_
          refine va_callv (va_runV (As := []) (rest := []) ⟨hx, hb, hml, hown, hts⟩ (tX9_clear l E X A z I14 L0 b15 tb15) (cwV 0 hts gX11_sign_X9_clear rfl rfl rfl (by decide +kernel) ⟨Nat.le_of_ble_eq_true rfl, Nat.le_of_ble_eq_true rfl⟩) ⟨h_blind _ _ _ _ _ _ _, h_recv g tb15 (by decide) so_10 (q := (RX9, TX9, 10)) rfl, h_pre _ hE hk hX hA hI hR g⟩ rfl rfl hl.1 rfl (lv_room (Nat.le_of_ble_eq_true rfl)) dX11_sign_94 ⟨Nat.le_of_ble_eq_true rfl, Nat.le_of_ble_eq_true rfl⟩) g.2.1 (fun q _ h => h) (fun q h => h) (fun I17 t H1 locs ht hvm h16 hB hz1 hk1 hS => ?_)
          obtain ⟨hI, fh16, h16⟩ := h16
          replace g := h_after g hB ht hS
          generalize H1 = H at g
          clear hB hk1 hz1 ht hvm hS
          have hF := hF.call fh16 rfl
          refine lv_iconst (v := 1) hx hb dX11_sign_97 (by decide) ?_
          have hS := g.2.1
          exact W.iret (v := 1) hx hb hr (fun t ht hW => ⟨⟨1, I17, rfl, ⟨hI, hF, trivial⟩, h_ret g ht⟩, hS.F ht⟩) hS.2.2 dX11_sign_98
        · have ic9 := (xi_ne c9 rfl (by decide) : rh8.toInt ≠ 0)
          refine lv_iconst (v := 0) hx hb dX11_sign_56 (by decide) ?_
          have hS := g.2.1
          exact W.iret (v := 0) hx hb hr (fun t ht hW => ⟨⟨0, I0, rfl, ⟨hI, hF, trivial⟩, h_ret g ht⟩, hS.F ht⟩) hS.2.2 dX11_sign_57
      · have ic7 := (xi_eq c7 rfl (by decide) : rh6.toInt = 0)
        refine lv_bipush (v := (-2)) hx hb dX11_sign_37 (by decide) ?_
        have hS := g.2.1
        exact W.iret (v := (-2)) hx hb hr (fun t ht hW => ⟨⟨(-2), I0, rfl, ⟨hI, hF, trivial⟩, h_ret g ht⟩, hS.F ht⟩) hS.2.2 dX11_sign_39
set_option maxHeartbeats 4000000 in
set_option maxRecDepth 100000 in
theorem tX11_choose (l : Launch) (E : tE) (X : tX) (A : Nat → Prop) (z : tZ) (I0 : tI) (L0 : tL) (a0 : Nat) (t_a0 : z.ty a0 = 12) (p : Int32) (p_t : Int) (h_p : p.toInt = p_t) : Met l yX11_choose wsX11_choose ({ frames := 2, cells := 0, slots := 0, locals := 128 }) (va_Pc [.ref a0, .int p] (h_P E X A z I0 L0)) (va_Qi (fun r (I1 : tI) => h_I z I1 ∧ h_F [(7, 6)] z I0 I1 ∧ True) (fun (I1 : tI) t => h_B E A z I1 L0 t) A) 0 0 A := by
  refine Met.ofW (cc := cX11_choose) (maxL := 3) (ret := (some .int)) (by decide) rfl ?_
  intro pr_ ev_ s m args below meth cd_ s₁ B hml hv
  obtain ⟨rfl, hE, hk, hX, hA, hK, hI, hR, hB0⟩ := hv
  have g : h_G h_so h_fk E A z I0 L0 s s.heap s.heap [] := ⟨hK, va_S.rf, hB0⟩
  have hF : h_F [(7, 6)] z I0 I0 := h_F.rf
  have hx := B.exec
  have hb := B.bytes
  have hr := B.returns
  have hts := atoms_spec (ws := wsX11_choose) B.pre
  have hown : s.vm.findClass RX11 = some m.cls := findClass_of_methodNamed B.named
  have hlocks := B.notSynchronized
  have iX11 : ∀ w ∈ u_ws RX11 TX11 8, w ∈ wsX11_choose := by decide +kernel
  have iX6 : ∀ w ∈ u_ws RX6 TX6 9, w ∈ wsX11_choose := by decide +kernel
  have iX0 : ∀ w ∈ u_ws RX0 TX0 9, w ∈ wsX11_choose := by decide +kernel
  have hl := lv_entry ([.ref a0, .int p]) (n := 3) (Nat.le_of_ble_eq_true rfl)
  rw [lg_entry_eq]
  generalize (lg_sl ([.ref a0, .int p]) ++ List.replicate (3 - (lg_sl ([.ref a0, .int p])).length) Slot.unset).toArray = ls at hl ⊢
  have hl : lv_has ls 3 [(0, .ref a0), (1, .int p)] := hl
  have b_p : -2147483648 ≤ p_t ∧ p_t ≤ 2147483647 := h_p ▸ ⟨xi_lo p, Int.le_of_lt_add_one (xi_hi p)⟩
  refine lv_aload_n hx hb dX11_choose_0 rfl (lv_at hl 0 rfl) ?_
  obtain ⟨b1, rb1, tb1⟩ := hR.at a0 3 t_a0 (rfl : h_rs 12 3 = some (1, false)) (by decide)
  refine h_get (v := .ref b1) hx hb hts iX11 hown g t_a0 (by decide) so_12 rfl 3 (by decide) (hts (.fieldLink RX11 37 "CapLeague" "books" "LCapLeague$Books;") (by decide +kernel)) rfl dX11_choose_1 (by show va_rf (z.R a0 3) = _; rw [rb1]; rfl) ?_
  refine lv_iload_n hx hb dX11_choose_4 rfl (lv_at hl 1 rfl) ?_
  refine va_csq (W.runV (As := [.int p]) (rest := []) ⟨hx, hb, hml, hown, hts⟩ (tX0_playerAt l E X A z I0 L0 b1 tb1 p (p_t) h_p) (cwV 1 hts gX11_choose_X0_playerAt rfl rfl rfl (by decide +kernel) ⟨Nat.le_of_ble_eq_true rfl, Nat.le_of_ble_eq_true rfl⟩) ⟨h_blind _ _ _ _ _ _ _, h_recv g tb1 (by decide) so_1 (q := (RX0, TX0, 9)) rfl, h_pre _ hE hk hX hA hI hR g⟩ rfl rfl hl.1 rfl (lv_room (Nat.le_of_ble_eq_true rfl)) dX11_choose_5 ⟨Nat.le_of_ble_eq_true rfl, Nat.le_of_ble_eq_true rfl⟩) (fun rh2 h2 => ?_)
  rcases h2 with rfl | ⟨rh2, rfl, trh2⟩
  · refine xw_v (v := .null) rfl ?_
    refine lv_astore_nN (lv' := [(2, .null), (0, .ref a0), (1, .int p)]) hx hb dX11_choose_8 rfl hl (by decide) rfl (fun ls hl => ?_)
    refine lv_aload_nN hx hb dX11_choose_9 rfl (lv_at hl 0 rfl) ?_
    refine lv_ifnonnullN hx hb dX11_choose_10 ?_
    refine lv_bipush (v := (-2)) hx hb dX11_choose_13 (by decide) ?_
    have hS := g.2.1
    exact W.iret (v := (-2)) hx hb hr (fun t ht hW => ⟨⟨(-2), I0, rfl, ⟨hI, hF, trivial⟩, h_ret g ht⟩, hS.F ht⟩) hS.2.2 dX11_choose_15
  · refine xw_v (v := .ref rh2) rfl ?_
    refine lv_astore_n (lv' := [(2, .ref rh2), (0, .ref a0), (1, .int p)]) hx hb dX11_choose_8 rfl hl (by decide) rfl (fun ls hl => ?_)
    refine lv_aload_n hx hb dX11_choose_9 rfl (lv_at hl 0 rfl) ?_
    refine lv_ifnonnull (tgt := 16) hx hb dX11_choose_10 (by decide) ?_
    refine lv_aload_n hx hb dX11_choose_16 rfl (lv_at hl 0 rfl) ?_
    refine vp_callSi (W.runV (As := []) (rest := []) ⟨hx, hb, hml, hown, hts⟩ (tX6_isSigned l E X A z I0 L0 rh2 trh2) (cwV 0 hts gX11_choose_X6_isSigned rfl rfl rfl (by decide +kernel) ⟨Nat.le_of_ble_eq_true rfl, Nat.le_of_ble_eq_true rfl⟩) ⟨h_blind _ _ _ _ _ _ _, h_recv g trh2 (by decide) so_7 (q := (RX6, TX6, 9)) rfl, h_pre _ hE hk hX hA hI hR g⟩ rfl rfl hl.1 rfl (lv_room (Nat.le_of_ble_eq_true rfl)) dX11_choose_17 ⟨Nat.le_of_ble_eq_true rfl, Nat.le_of_ble_eq_true rfl⟩) (fun rh3 h3 => ?_)
    refine lv_if_eq (tgt := 46) hx hb dX11_choose_20 (by decide) (fun c4 => ?_) (fun c4 => ?_)
    · have ic4 := (xi_eq c4 rfl (by decide) : rh3.toInt = 0)
      refine lv_bipush (v := (-4)) hx hb dX11_choose_46 (by decide) ?_
      have hS := g.2.1
      exact W.iret (v := (-4)) hx hb hr (fun t ht hW => ⟨⟨(-4), I0, rfl, ⟨hI, hF, trivial⟩, h_ret g ht⟩, hS.F ht⟩) hS.2.2 dX11_choose_48
    · have ic4 := (xi_ne c4 rfl (by decide) : rh3.toInt ≠ 0)
      refine lv_aload_n hx hb dX11_choose_23 rfl (lv_at hl 0 rfl) ?_
      refine h_get (v := .int (I0 rh2 6)) hx hb hts iX6 hown g trh2 (by decide) so_7 rfl 6 (by decide) (hts (.fieldLink RX11 157 "CapLeague$Player" "choiceOpen" "Z") (by decide +kernel)) rfl dX11_choose_24 rfl ?_
      refine lv_topi (fun v5 ev5 => ?_)
      have jv5 := hI.rd rh2 6 trh2 ev5 (rfl : h_bd 7 6 = (0, 1))
      refine lv_if_eq (tgt := 46) hx hb dX11_choose_27 (by decide) (fun c6 => ?_) (fun c6 => ?_)
      · have ic6 := (xi_eq c6 rfl (by decide) : v5.toInt = 0)
        refine lv_bipush (v := (-4)) hx hb dX11_choose_46 (by decide) ?_
        have hS := g.2.1
        exact W.iret (v := (-4)) hx hb hr (fun t ht hW => ⟨⟨(-4), I0, rfl, ⟨hI, hF, trivial⟩, h_ret g ht⟩, hS.F ht⟩) hS.2.2 dX11_choose_48
      · have ic6 := (xi_ne c6 rfl (by decide) : v5.toInt ≠ 0)
        refine lv_aload_n hx hb dX11_choose_30 rfl (lv_at hl 0 rfl) ?_
        refine h_get (v := .int (I0 rh2 2)) hx hb hts iX6 hown g trh2 (by decide) so_7 rfl 2 (by decide) (hts (.fieldLink RX11 161 "CapLeague$Player" "last" "I") (by decide +kernel)) rfl dX11_choose_31 rfl ?_
        refine lv_topi (fun v7 ev7 => ?_)
        have jv7 := hI.rd rh2 2 trh2 ev7 (rfl : h_bd 7 2 = ((-2147483648), 2147483647))
        refine lv_aload_n hx hb dX11_choose_34 rfl (lv_at hl 1 rfl) ?_
        refine h_get (v := .ref b1) hx hb hts iX11 hown g t_a0 (by decide) so_12 rfl 3 (by decide) (hts (.fieldLink RX11 37 "CapLeague" "books" "LCapLeague$Books;") (by decide +kernel)) rfl dX11_choose_35 (by show va_rf (z.R a0 3) = _; rw [rb1]; rfl) ?_
        refine h_get (v := .int (I0 b1 3)) hx hb hts iX0 hown g tb1 (by decide) so_1 rfl 3 (by decide) (hts (.fieldLink RX11 142 "CapLeague$Books" "clock" "I") (by decide +kernel)) rfl dX11_choose_38 rfl ?_
        refine lv_topi (fun v8 ev8 => ?_)
        have jv8 := hI.rd b1 3 tb1 ev8 (rfl : h_bd 1 3 = (0, 9))
        refine lv_iconst (v := 1) hx hb dX11_choose_41 (by decide) ?_
        refine lv_iadd hx hb dX11_choose_42 ?_
        refine lv_topi (fun v9 ev9 => ?_)
        have jv9 : v9.toInt = v8.toInt + 1 := xi_add ev9 rfl (by decide) (by omega) (by omega)
        refine lv_icmp_eq (tgt := 49) hx hb dX11_choose_43 (by decide) (fun c10 => ?_) (fun c10 => ?_)
        · have ic10 := (xi_eq c10 rfl rfl : v7.toInt = v9.toInt)
          refine lv_aload_n hx hb dX11_choose_49 rfl (lv_at hl 0 rfl) ?_
          refine lv_iconst (v := 0) hx hb dX11_choose_50 (by decide) ?_
          refine h_putI (ty := .boolean) (v := 0) hx hb hts iX6 tyX6 tyX6_ok nmX6 hown g trh2 (by decide) so_7 rfl 6 (by decide) rfl (hts (.fieldLink RX11 157 "CapLeague$Player" "choiceOpen" "Z") (by decide +kernel)) rfl rfl (by decide +kernel) (by decide) (by decide) dX11_choose_51 (fun I11 H locs eI11 g => ?_)
          have hI := hI.wr eI11 trh2 (rfl : h_bd 7 6 = (0, 1)) (by decide) (by decide)
          have hF := hF.wr eI11 trh2 rfl
          refine lv_iconst (v := 1) hx hb dX11_choose_54 (by decide) ?_
          have hS := g.2.1
          exact W.iret (v := 1) hx hb hr (fun t ht hW => ⟨⟨1, I11, rfl, ⟨hI, hF, trivial⟩, h_ret g ht⟩, hS.F ht⟩) hS.2.2 dX11_choose_55
        · have ic10 := (xi_ne c10 rfl rfl : v7.toInt ≠ v9.toInt)
          refine lv_bipush (v := (-4)) hx hb dX11_choose_46 (by decide) ?_
          have hS := g.2.1
          exact W.iret (v := (-4)) hx hb hr (fun t ht hW => ⟨⟨(-4), I0, rfl, ⟨hI, hF, trivial⟩, h_ret g ht⟩, hS.F ht⟩) hS.2.2 dX11_choose_48
set_option maxHeartbeats 4000000 in
set_option maxRecDepth 100000 in
theorem tX11_waive (l : Launch) (E : tE) (X : tX) (A : Nat → Prop) (z : tZ) (I0 : tI) (L0 : tL) (a0 : Nat) (t_a0 : z.ty a0 = 12) (p : Int32) (p_t : Int) (h_p : p.toInt = p_t) : Met l yX11_waive wsX11_waive ({ frames := 4, cells := 0, slots := 0, locals := 256 }) (va_Pc [.ref a0, .int p] (h_P E X A z I0 L0)) (va_Qi (fun r (I1 : tI) => h_I z I1 ∧ h_F [(154, 999), (7, 0), (7, 1), (7, 2), (7, 3), (7, 4), (7, 5), (7, 6), (10, 3), (10, 4)] z I0 I1 ∧ True) (fun (I1 : tI) t => h_B E A z I1 L0 t) A) 0 0 A := by
  refine Met.ofW (cc := cX11_waive) (maxL := 3) (ret := (some .int)) (by decide) rfl ?_
  intro pr_ ev_ s m args below meth cd_ s₁ B hml hv
  obtain ⟨rfl, hE, hk, hX, hA, hK, hI, hR, hB0⟩ := hv
  have g : h_G h_so h_fk E A z I0 L0 s s.heap s.heap [] := ⟨hK, va_S.rf, hB0⟩
  have hF : h_F [(154, 999), (7, 0), (7, 1), (7, 2), (7, 3), (7, 4), (7, 5), (7, 6), (10, 3), (10, 4)] z I0 I0 := h_F.rf
  have hx := B.exec
  have hb := B.bytes
  have hr := B.returns
  have hts := atoms_spec (ws := wsX11_waive) B.pre
  have hown : s.vm.findClass RX11 = some m.cls := findClass_of_methodNamed B.named
  have hlocks := B.notSynchronized
  have iX11 : ∀ w ∈ u_ws RX11 TX11 8, w ∈ wsX11_waive := by decide +kernel
  have hl := lv_entry ([.ref a0, .int p]) (n := 3) (Nat.le_of_ble_eq_true rfl)
  rw [lg_entry_eq]
  generalize (lg_sl ([.ref a0, .int p]) ++ List.replicate (3 - (lg_sl ([.ref a0, .int p])).length) Slot.unset).toArray = ls at hl ⊢
  have hl : lv_has ls 3 [(0, .ref a0), (1, .int p)] := hl
  have b_p : -2147483648 ≤ p_t ∧ p_t ≤ 2147483647 := h_p ▸ ⟨xi_lo p, Int.le_of_lt_add_one (xi_hi p)⟩
  refine lv_aload_n hx hb dX11_waive_0 rfl (lv_at hl 0 rfl) ?_
  obtain ⟨b1, rb1, tb1⟩ := hR.at a0 3 t_a0 (rfl : h_rs 12 3 = some (1, false)) (by decide)
  refine h_get (v := .ref b1) hx hb hts iX11 hown g t_a0 (by decide) so_12 rfl 3 (by decide) (hts (.fieldLink RX11 37 "CapLeague" "books" "LCapLeague$Books;") (by decide +kernel)) rfl dX11_waive_1 (by show va_rf (z.R a0 3) = _; rw [rb1]; rfl) ?_
  refine lv_iload_n hx hb dX11_waive_4 rfl (lv_at hl 1 rfl) ?_
  refine va_csq (W.runV (As := [.int p]) (rest := []) ⟨hx, hb, hml, hown, hts⟩ (tX0_playerAt l E X A z I0 L0 b1 tb1 p (p_t) h_p) (cwV 1 hts gX11_waive_X0_playerAt rfl rfl rfl (by decide +kernel) ⟨Nat.le_of_ble_eq_true rfl, Nat.le_of_ble_eq_true rfl⟩) ⟨h_blind _ _ _ _ _ _ _, h_recv g tb1 (by decide) so_1 (q := (RX0, TX0, 9)) rfl, h_pre _ hE hk hX hA hI hR g⟩ rfl rfl hl.1 rfl (lv_room (Nat.le_of_ble_eq_true rfl)) dX11_waive_5 ⟨Nat.le_of_ble_eq_true rfl, Nat.le_of_ble_eq_true rfl⟩) (fun rh2 h2 => ?_)
  rcases h2 with rfl | ⟨rh2, rfl, trh2⟩
  · refine xw_v (v := .null) rfl ?_
    refine lv_astore_nN (lv' := [(2, .null), (0, .ref a0), (1, .int p)]) hx hb dX11_waive_8 rfl hl (by decide) rfl (fun ls hl => ?_)
    refine lv_aload_nN hx hb dX11_waive_9 rfl (lv_at hl 0 rfl) ?_
    refine lv_ifnonnullN hx hb dX11_waive_10 ?_
    refine lv_bipush (v := (-2)) hx hb dX11_waive_13 (by decide) ?_
    have hS := g.2.1
    exact W.iret (v := (-2)) hx hb hr (fun t ht hW => ⟨⟨(-2), I0, rfl, ⟨hI, hF, trivial⟩, h_ret g ht⟩, hS.F ht⟩) hS.2.2 dX11_waive_15
  · refine xw_v (v := .ref rh2) rfl ?_
    refine lv_astore_n (lv' := [(2, .ref rh2), (0, .ref a0), (1, .int p)]) hx hb dX11_waive_8 rfl hl (by decide) rfl (fun ls hl => ?_)
    refine lv_aload_n hx hb dX11_waive_9 rfl (lv_at hl 0 rfl) ?_
    refine lv_ifnonnull (tgt := 16) hx hb dX11_waive_10 (by decide) ?_
    refine lv_aload_n hx hb dX11_waive_16 rfl (lv_at hl 0 rfl) ?_
    refine vp_callSi (W.runV (As := []) (rest := []) ⟨hx, hb, hml, hown, hts⟩ (tX6_isSigned l E X A z I0 L0 rh2 trh2) (cwV 0 hts gX11_waive_X6_isSigned rfl rfl rfl (by decide +kernel) ⟨Nat.le_of_ble_eq_true rfl, Nat.le_of_ble_eq_true rfl⟩) ⟨h_blind _ _ _ _ _ _ _, h_recv g trh2 (by decide) so_7 (q := (RX6, TX6, 9)) rfl, h_pre _ hE hk hX hA hI hR g⟩ rfl rfl hl.1 rfl (lv_room (Nat.le_of_ble_eq_true rfl)) dX11_waive_17 ⟨Nat.le_of_ble_eq_true rfl, Nat.le_of_ble_eq_true rfl⟩) (fun rh3 h3 => ?_)
    refine lv_if_ne (tgt := 26) hx hb dX11_waive_20 (by decide) (fun c4 => ?_) (fun c4 => ?_)
    · have ic4 := (xi_ne c4 rfl (by decide) : rh3.toInt ≠ 0)
      refine lv_aload_n hx hb dX11_waive_26 rfl (lv_at hl 1 rfl) ?_
      obtain ⟨b5, rb5, tb5⟩ := hR.at a0 5 t_a0 (rfl : h_rs 12 5 = some (10, false)) (by decide)
      refine h_get (v := .ref b5) hx hb hts iX11 hown g t_a0 (by decide) so_12 rfl 5 (by decide) (hts (.fieldLink RX11 53 "CapLeague" "bargain" "LCapLeague$Trade;") (by decide +kernel)) rfl dX11_waive_27 (by show va_rf (z.R a0 5) = _; rw [rb5]; rfl) ?_
      refine va_callv (va_runV (As := []) (rest := []) ⟨hx, hb, hml, hown, hts⟩ (tX9_clear l E X A z I0 L0 b5 tb5) (cwV 0 hts gX11_waive_X9_clear rfl rfl rfl (by decide +kernel) ⟨Nat.le_of_ble_eq_true rfl, Nat.le_of_ble_eq_true rfl⟩) ⟨h_blind _ _ _ _ _ _ _, h_recv g tb5 (by decide) so_10 (q := (RX9, TX9, 10)) rfl, h_pre _ hE hk hX hA hI hR g⟩ rfl rfl hl.1 rfl (lv_room (Nat.le_of_ble_eq_true rfl)) dX11_waive_30 ⟨Nat.le_of_ble_eq_true rfl, Nat.le_of_ble_eq_true rfl⟩) g.2.1 (fun q _ h => h) (fun q h => h) (fun I7 t H1 locs ht hvm h6 hB hz1 hk1 hS => ?_)
      obtain ⟨hI, fh6, h6⟩ := h6
      replace g := h_after g hB ht hS
      generalize H1 = H at g
      clear hB hk1 hz1 ht hvm hS
      have hF := hF.call fh6 rfl
      refine lv_aload_n hx hb dX11_waive_33 rfl (lv_at hl 1 rfl) ?_
      refine h_get (v := .ref b1) hx hb hts iX11 hown g t_a0 (by decide) so_12 rfl 3 (by decide) (hts (.fieldLink RX11 37 "CapLeague" "books" "LCapLeague$Books;") (by decide +kernel)) rfl dX11_waive_34 (by show va_rf (z.R a0 3) = _; rw [rb1]; rfl) ?_
      refine lv_aload_n hx hb dX11_waive_37 rfl (lv_at hl 0 rfl) ?_
      refine va_calli (va_runV (As := [.ref rh2]) (rest := []) ⟨hx, hb, hml, hown, hts⟩ (tX0_release l E X A z I7 L0 b1 tb1 rh2 trh2) (cwV 1 hts gX11_waive_X0_release rfl rfl rfl (by decide +kernel) ⟨Nat.le_of_ble_eq_true rfl, Nat.le_of_ble_eq_true rfl⟩) ⟨h_blind _ _ _ _ _ _ _, h_recv g tb1 (by decide) so_1 (q := (RX0, TX0, 9)) rfl, h_pre _ hE hk hX hA hI hR g⟩ rfl rfl hl.1 rfl (lv_room (Nat.le_of_ble_eq_true rfl)) dX11_waive_38 ⟨Nat.le_of_ble_eq_true rfl, Nat.le_of_ble_eq_true rfl⟩) g.2.1 (fun q _ h => h) (fun q h => h) (fun rh8 I9 t H1 locs ht hvm h8 hB hz1 hk1 hS => ?_)
      obtain ⟨hI, fh8, h8⟩ := h8
      replace g := h_after g hB ht hS
      generalize H1 = H at g
      clear hB hk1 hz1 ht hvm hS
      have hF := hF.call fh8 rfl
      have jrh8 : -2147483648 ≤ rh8.toInt ∧ rh8.toInt ≤ 2147483647 := ⟨xi_lo _, Int.le_of_lt_add_one (xi_hi _)⟩
      have hS := g.2.1
      exact W.iret (v := rh8) hx hb hr (fun t ht hW => ⟨⟨rh8, I9, rfl, ⟨hI, hF, trivial⟩, h_ret g ht⟩, hS.F ht⟩) hS.2.2 dX11_waive_41
    · have ic4 := (xi_eq c4 rfl (by decide) : rh3.toInt = 0)
      refine lv_bipush (v := (-4)) hx hb dX11_waive_23 (by decide) ?_
      have hS := g.2.1
      exact W.iret (v := (-4)) hx hb hr (fun t ht hW => ⟨⟨(-4), I0, rfl, ⟨hI, hF, trivial⟩, h_ret g ht⟩, hS.F ht⟩) hS.2.2 dX11_waive_25
set_option maxHeartbeats 4000000 in
set_option maxRecDepth 100000 in
theorem tX11_hurt (l : Launch) (E : tE) (X : tX) (A : Nat → Prop) (z : tZ) (I0 : tI) (L0 : tL) (a0 : Nat) (t_a0 : z.ty a0 = 12) (p : Int32) (p_t : Int) (h_p : p.toInt = p_t) (h : Int32) (h_t : Int) (h_h : h.toInt = h_t) (b_h : 0 ≤ h_t ∧ h_t ≤ 1) : Met l yX11_hurt wsX11_hurt ({ frames := 2, cells := 0, slots := 0, locals := 128 }) (va_Pc [.ref a0, .int p, .int h] (h_P E X A z I0 L0)) (va_Qi (fun r (I1 : tI) => h_I z I1 ∧ h_F [(7, 7)] z I0 I1 ∧ True) (fun (I1 : tI) t => h_B E A z I1 L0 t) A) 0 0 A := by
  refine Met.ofW (cc := cX11_hurt) (maxL := 5) (ret := (some .int)) (by decide) rfl ?_
  intro pr_ ev_ s m args below meth cd_ s₁ B hml hv
  obtain ⟨rfl, hE, hk, hX, hA, hK, hI, hR, hB0⟩ := hv
  have g : h_G h_so h_fk E A z I0 L0 s s.heap s.heap [] := ⟨hK, va_S.rf, hB0⟩
  have hF : h_F [(7, 7)] z I0 I0 := h_F.rf
  have hx := B.exec
  have hb := B.bytes
  have hr := B.returns
  have hts := atoms_spec (ws := wsX11_hurt) B.pre
  have hown : s.vm.findClass RX11 = some m.cls := findClass_of_methodNamed B.named
  have hlocks := B.notSynchronized
  have iX11 : ∀ w ∈ u_ws RX11 TX11 8, w ∈ wsX11_hurt := by decide +kernel
  have iX6 : ∀ w ∈ u_ws RX6 TX6 9, w ∈ wsX11_hurt := by decide +kernel
  have hl := lv_entry ([.ref a0, .int p, .int h]) (n := 5) (Nat.le_of_ble_eq_true rfl)
  rw [lg_entry_eq]
  generalize (lg_sl ([.ref a0, .int p, .int h]) ++ List.replicate (5 - (lg_sl ([.ref a0, .int p, .int h])).length) Slot.unset).toArray = ls at hl ⊢
  have hl : lv_has ls 5 [(0, .ref a0), (1, .int p), (2, .int h)] := hl
  have b_p : -2147483648 ≤ p_t ∧ p_t ≤ 2147483647 := h_p ▸ ⟨xi_lo p, Int.le_of_lt_add_one (xi_hi p)⟩
  refine lv_aload_n hx hb dX11_hurt_0 rfl (lv_at hl 0 rfl) ?_
  obtain ⟨b1, rb1, tb1⟩ := hR.at a0 3 t_a0 (rfl : h_rs 12 3 = some (1, false)) (by decide)
  refine h_get (v := .ref b1) hx hb hts iX11 hown g t_a0 (by decide) so_12 rfl 3 (by decide) (hts (.fieldLink RX11 37 "CapLeague" "books" "LCapLeague$Books;") (by decide +kernel)) rfl dX11_hurt_1 (by show va_rf (z.R a0 3) = _; rw [rb1]; rfl) ?_
  refine lv_iload_n hx hb dX11_hurt_4 rfl (lv_at hl 1 rfl) ?_
  refine va_csq (W.runV (As := [.int p]) (rest := []) ⟨hx, hb, hml, hown, hts⟩ (tX0_playerAt l E X A z I0 L0 b1 tb1 p (p_t) h_p) (cwV 1 hts gX11_hurt_X0_playerAt rfl rfl rfl (by decide +kernel) ⟨Nat.le_of_ble_eq_true rfl, Nat.le_of_ble_eq_true rfl⟩) ⟨h_blind _ _ _ _ _ _ _, h_recv g tb1 (by decide) so_1 (q := (RX0, TX0, 9)) rfl, h_pre _ hE hk hX hA hI hR g⟩ rfl rfl hl.1 rfl (lv_room (Nat.le_of_ble_eq_true rfl)) dX11_hurt_5 ⟨Nat.le_of_ble_eq_true rfl, Nat.le_of_ble_eq_true rfl⟩) (fun rh2 h2 => ?_)
  rcases h2 with rfl | ⟨rh2, rfl, trh2⟩
  · refine xw_v (v := .null) rfl ?_
    refine lv_astore_nN (lv' := [(3, .null), (0, .ref a0), (1, .int p), (2, .int h)]) hx hb dX11_hurt_8 rfl hl (by decide) rfl (fun ls hl => ?_)
    refine lv_aload_nN hx hb dX11_hurt_9 rfl (lv_at hl 0 rfl) ?_
    refine lv_ifnonnullN hx hb dX11_hurt_10 ?_
    refine lv_bipush (v := (-2)) hx hb dX11_hurt_13 (by decide) ?_
    have hS := g.2.1
    exact W.iret (v := (-2)) hx hb hr (fun t ht hW => ⟨⟨(-2), I0, rfl, ⟨hI, hF, trivial⟩, h_ret g ht⟩, hS.F ht⟩) hS.2.2 dX11_hurt_15
  · refine xw_v (v := .ref rh2) rfl ?_
    refine lv_astore_n (lv' := [(3, .ref rh2), (0, .ref a0), (1, .int p), (2, .int h)]) hx hb dX11_hurt_8 rfl hl (by decide) rfl (fun ls hl => ?_)
    refine lv_aload_n hx hb dX11_hurt_9 rfl (lv_at hl 0 rfl) ?_
    refine lv_ifnonnull (tgt := 16) hx hb dX11_hurt_10 (by decide) ?_
    refine lv_aload_n hx hb dX11_hurt_16 rfl (lv_at hl 0 rfl) ?_
    refine h_get (v := .int (I0 rh2 7)) hx hb hts iX6 hown g trh2 (by decide) so_7 rfl 7 (by decide) (hts (.fieldLink RX11 168 "CapLeague$Player" "isHurt" "Z") (by decide +kernel)) rfl dX11_hurt_17 rfl ?_
    refine lv_topi (fun v3 ev3 => ?_)
    have jv3 := hI.rd rh2 7 trh2 ev3 (rfl : h_bd 7 7 = (0, 1))
    refine lv_iload_n hx hb dX11_hurt_20 rfl (lv_at hl 3 rfl) ?_
    refine lv_icmp_ne (tgt := 28) hx hb dX11_hurt_21 (by decide) (fun c4 => ?_) (fun c4 => ?_)
    · have ic4 := (xi_ne c4 rfl h_h : v3.toInt ≠ h_t)
      refine lv_iconst (v := 1) hx hb dX11_hurt_28 (by decide) ?_
      refine lv_istore (lv' := [(4, .int 1), (3, .ref rh2), (0, .ref a0), (1, .int p), (2, .int h)]) hx hb dX11_hurt_29 hl (by decide) rfl (fun ls hl => ?_)
      refine lv_aload_n hx hb dX11_hurt_31 rfl (lv_at hl 1 rfl) ?_
      refine lv_iload_n hx hb dX11_hurt_32 rfl (lv_at hl 4 rfl) ?_
      refine h_putI (ty := .boolean) (v := h) hx hb hts iX6 tyX6 tyX6_ok nmX6 hown g trh2 (by decide) so_7 rfl 7 (by decide) rfl (hts (.fieldLink RX11 168 "CapLeague$Player" "isHurt" "Z") (by decide +kernel)) rfl rfl (by decide +kernel) (h_nb (by rw [h_h]; omega) (by rw [h_h]; omega)).1 (h_nb (by rw [h_h]; omega) (by rw [h_h]; omega)).2 dX11_hurt_33 (fun I5 H locs eI5 g => ?_)
      have hI := hI.wr eI5 trh2 (rfl : h_bd 7 7 = (0, 1)) (by rw [h_h]; omega) (by rw [h_h]; omega)
      have hF := hF.wr eI5 trh2 rfl
      refine lv_iload hx hb dX11_hurt_36 (lv_at hl 0 rfl) ?_
      have hS := g.2.1
      exact W.iret (v := 1) hx hb hr (fun t ht hW => ⟨⟨1, I5, rfl, ⟨hI, hF, trivial⟩, h_ret g ht⟩, hS.F ht⟩) hS.2.2 dX11_hurt_38
    · have ic4 := (xi_eq c4 rfl h_h : v3.toInt = h_t)
      refine lv_iconst (v := 0) hx hb dX11_hurt_24 (by decide) ?_
      refine lv_goto (tgt := 29) hx hb dX11_hurt_25 (by decide) ?_
      refine lv_istore (lv' := [(4, .int 0), (3, .ref rh2), (0, .ref a0), (1, .int p), (2, .int h)]) hx hb dX11_hurt_29 hl (by decide) rfl (fun ls hl => ?_)
      refine lv_aload_n hx hb dX11_hurt_31 rfl (lv_at hl 1 rfl) ?_
      refine lv_iload_n hx hb dX11_hurt_32 rfl (lv_at hl 4 rfl) ?_
      refine h_putI (ty := .boolean) (v := h) hx hb hts iX6 tyX6 tyX6_ok nmX6 hown g trh2 (by decide) so_7 rfl 7 (by decide) rfl (hts (.fieldLink RX11 168 "CapLeague$Player" "isHurt" "Z") (by decide +kernel)) rfl rfl (by decide +kernel) (h_nb (by rw [h_h]; omega) (by rw [h_h]; omega)).1 (h_nb (by rw [h_h]; omega) (by rw [h_h]; omega)).2 dX11_hurt_33 (fun I6 H locs eI6 g => ?_)
      have hI := hI.wr eI6 trh2 (rfl : h_bd 7 7 = (0, 1)) (by rw [h_h]; omega) (by rw [h_h]; omega)
      have hF := hF.wr eI6 trh2 rfl
      refine lv_iload hx hb dX11_hurt_36 (lv_at hl 0 rfl) ?_
      have hS := g.2.1
      exact W.iret (v := 0) hx hb hr (fun t ht hW => ⟨⟨0, I6, rfl, ⟨hI, hF, trivial⟩, h_ret g ht⟩, hS.F ht⟩) hS.2.2 dX11_hurt_38
set_option maxHeartbeats 4000000 in
set_option maxRecDepth 100000 in
theorem tX11_about (l : Launch) (E : tE) (X : tX) (A : Nat → Prop) (z : tZ) (I0 : tI) (L0 : tL) (a0 : Nat) (t_a0 : z.ty a0 = 12) (p : Int32) (p_t : Int) (h_p : p.toInt = p_t) (x : Int32) (x_t : Int) (h_x : x.toInt = x_t) : Met l yX11_about wsX11_about ({ frames := 4, cells := 0, slots := 0, locals := 256 }) (va_Pc [.ref a0, .int p, .int x] (h_P E X A z I0 L0)) (vp_Si (fun r => True)) 0 0 (fun _ => False) := by
  refine Met.ofW (cc := cX11_about) (maxL := 4) (ret := (some .int)) (by decide) rfl ?_
  intro pr_ ev_ s m args below meth cd_ s₁ B hml hv
  obtain ⟨rfl, hE, hk, hX, hA, hK, hI, hR, hB0⟩ := hv
  have g : h_G h_so h_fk E A z I0 L0 s s.heap s.heap [] := ⟨hK, va_S.rf, hB0⟩
  have hx := B.exec
  have hb := B.bytes
  have hr := B.returns
  have hts := atoms_spec (ws := wsX11_about) B.pre
  have hown : s.vm.findClass RX11 = some m.cls := findClass_of_methodNamed B.named
  have hlocks := B.notSynchronized
  have iX11 : ∀ w ∈ u_ws RX11 TX11 8, w ∈ wsX11_about := by decide +kernel
  have hl := lv_entry ([.ref a0, .int p, .int x]) (n := 4) (Nat.le_of_ble_eq_true rfl)
  rw [lg_entry_eq]
  generalize (lg_sl ([.ref a0, .int p, .int x]) ++ List.replicate (4 - (lg_sl ([.ref a0, .int p, .int x])).length) Slot.unset).toArray = ls at hl ⊢
  have hl : lv_has ls 4 [(0, .ref a0), (1, .int p), (2, .int x)] := hl
  have b_p : -2147483648 ≤ p_t ∧ p_t ≤ 2147483647 := h_p ▸ ⟨xi_lo p, Int.le_of_lt_add_one (xi_hi p)⟩
  have b_x : -2147483648 ≤ x_t ∧ x_t ≤ 2147483647 := h_x ▸ ⟨xi_lo x, Int.le_of_lt_add_one (xi_hi x)⟩
  refine lv_aload_n hx hb dX11_about_0 rfl (lv_at hl 0 rfl) ?_
  obtain ⟨b1, rb1, tb1⟩ := hR.at a0 3 t_a0 (rfl : h_rs 12 3 = some (1, false)) (by decide)
  refine h_get (v := .ref b1) hx hb hts iX11 hown g t_a0 (by decide) so_12 rfl 3 (by decide) (hts (.fieldLink RX11 37 "CapLeague" "books" "LCapLeague$Books;") (by decide +kernel)) rfl dX11_about_1 (by show va_rf (z.R a0 3) = _; rw [rb1]; rfl) ?_
  refine lv_iload_n hx hb dX11_about_4 rfl (lv_at hl 1 rfl) ?_
  refine va_csq (W.runV (As := [.int p]) (rest := []) ⟨hx, hb, hml, hown, hts⟩ (tX0_playerAt l E X A z I0 L0 b1 tb1 p (p_t) h_p) (cwV 1 hts gX11_about_X0_playerAt rfl rfl rfl (by decide +kernel) ⟨Nat.le_of_ble_eq_true rfl, Nat.le_of_ble_eq_true rfl⟩) ⟨h_blind _ _ _ _ _ _ _, h_recv g tb1 (by decide) so_1 (q := (RX0, TX0, 9)) rfl, h_pre _ hE hk hX hA hI hR g⟩ rfl rfl hl.1 rfl (lv_room (Nat.le_of_ble_eq_true rfl)) dX11_about_5 ⟨Nat.le_of_ble_eq_true rfl, Nat.le_of_ble_eq_true rfl⟩) (fun rh2 h2 => ?_)
  rcases h2 with rfl | ⟨rh2, rfl, trh2⟩
  · refine xw_v (v := .null) rfl ?_
    refine lv_astore_nN (lv' := [(3, .null), (0, .ref a0), (1, .int p), (2, .int x)]) hx hb dX11_about_8 rfl hl (by decide) rfl (fun ls hl => ?_)
    refine lv_aload_nN hx hb dX11_about_9 rfl (lv_at hl 0 rfl) ?_
    refine lv_ifnonnullN hx hb dX11_about_10 ?_
    refine lv_bipush (v := (-9)) hx hb dX11_about_13 (by decide) ?_
    refine lv_goto (tgt := 23) hx hb dX11_about_15 (by decide) ?_
    exact W.iret (v := (-9)) hx hb hr (fun t ht hW => ⟨(-9), rfl, trivial, ht⟩) (fun _ h => by cases h) dX11_about_23
  · refine xw_v (v := .ref rh2) rfl ?_
    refine lv_astore_n (lv' := [(3, .ref rh2), (0, .ref a0), (1, .int p), (2, .int x)]) hx hb dX11_about_8 rfl hl (by decide) rfl (fun ls hl => ?_)
    refine lv_aload_n hx hb dX11_about_9 rfl (lv_at hl 0 rfl) ?_
    refine lv_ifnonnull (tgt := 18) hx hb dX11_about_10 (by decide) ?_
    refine lv_aload_n hx hb dX11_about_18 rfl (lv_at hl 0 rfl) ?_
    refine lv_iload_n hx hb dX11_about_19 rfl (lv_at hl 3 rfl) ?_
    refine vp_callSi (W.runV (As := [.int x]) (rest := []) ⟨hx, hb, hml, hown, hts⟩ (tX6_fact l E X A z I0 L0 rh2 trh2 x (x_t) h_x) (cwV 1 hts gX11_about_X6_fact rfl rfl rfl (by decide +kernel) ⟨Nat.le_of_ble_eq_true rfl, Nat.le_of_ble_eq_true rfl⟩) ⟨h_blind _ _ _ _ _ _ _, h_recv g trh2 (by decide) so_7 (q := (RX6, TX6, 9)) rfl, h_pre _ hE hk hX hA hI hR g⟩ rfl rfl hl.1 rfl (lv_room (Nat.le_of_ble_eq_true rfl)) dX11_about_20 ⟨Nat.le_of_ble_eq_true rfl, Nat.le_of_ble_eq_true rfl⟩) (fun rh3 h3 => ?_)
    have jrh3 : -2147483648 ≤ rh3.toInt ∧ rh3.toInt ≤ 2147483647 := ⟨xi_lo _, Int.le_of_lt_add_one (xi_hi _)⟩
    exact W.iret (v := rh3) hx hb hr (fun t ht hW => ⟨rh3, rfl, trivial, ht⟩) (fun _ h => by cases h) dX11_about_23
set_option maxHeartbeats 4000000 in
set_option maxRecDepth 100000 in
theorem tX11_club (l : Launch) (E : tE) (X : tX) (A : Nat → Prop) (z : tZ) (I0 : tI) (L0 : tL) (a0 : Nat) (t_a0 : z.ty a0 = 12) (c : Int32) (c_t : Int) (h_c : c.toInt = c_t) (y : Int32) (y_t : Int) (h_y : y.toInt = y_t) (x : Int32) (x_t : Int) (h_x : x.toInt = x_t) : Met l yX11_club wsX11_club ({ frames := 5, cells := 0, slots := 0, locals := 320 }) (va_Pc [.ref a0, .int c, .int y, .int x] (h_P E X A z I0 L0)) (vp_Si (fun r => True)) 0 0 (fun _ => False) := by
  refine Met.ofW (cc := cX11_club) (maxL := 4) (ret := (some .int)) (by decide) rfl ?_
  intro pr_ ev_ s m args below meth cd_ s₁ B hml hv
  obtain ⟨rfl, hE, hk, hX, hA, hK, hI, hR, hB0⟩ := hv
  have g : h_G h_so h_fk E A z I0 L0 s s.heap s.heap [] := ⟨hK, va_S.rf, hB0⟩
  have hx := B.exec
  have hb := B.bytes
  have hr := B.returns
  have hts := atoms_spec (ws := wsX11_club) B.pre
  have hown : s.vm.findClass RX11 = some m.cls := findClass_of_methodNamed B.named
  have hlocks := B.notSynchronized
  have iX11 : ∀ w ∈ u_ws RX11 TX11 8, w ∈ wsX11_club := by decide +kernel
  have iX0 : ∀ w ∈ u_ws RX0 TX0 9, w ∈ wsX11_club := by decide +kernel
  have hl := lv_entry ([.ref a0, .int c, .int y, .int x]) (n := 4) (Nat.le_of_ble_eq_true rfl)
  rw [lg_entry_eq]
  generalize (lg_sl ([.ref a0, .int c, .int y, .int x]) ++ List.replicate (4 - (lg_sl ([.ref a0, .int c, .int y, .int x])).length) Slot.unset).toArray = ls at hl ⊢
  have hl : lv_has ls 4 [(0, .ref a0), (1, .int c), (2, .int y), (3, .int x)] := hl
  have b_c : -2147483648 ≤ c_t ∧ c_t ≤ 2147483647 := h_c ▸ ⟨xi_lo c, Int.le_of_lt_add_one (xi_hi c)⟩
  have b_y : -2147483648 ≤ y_t ∧ y_t ≤ 2147483647 := h_y ▸ ⟨xi_lo y, Int.le_of_lt_add_one (xi_hi y)⟩
  have b_x : -2147483648 ≤ x_t ∧ x_t ≤ 2147483647 := h_x ▸ ⟨xi_lo x, Int.le_of_lt_add_one (xi_hi x)⟩
  refine lv_iload_n hx hb dX11_club_0 rfl (lv_at hl 1 rfl) ?_
  refine vp_callSi (W.runS (As := [.int c]) (rest := []) ⟨hx, hb, hml, hown, hts⟩ (tX11_isClub l E X A z I0 L0 c (c_t) h_c) (va_cwS 1 hts gX11_club_X11_isClub rfl rfl rfl (by decide +kernel) ⟨Nat.le_of_ble_eq_true rfl, Nat.le_of_ble_eq_true rfl⟩) ⟨h_blind _ _ _ _ _ _ _, h_pre _ hE hk hX hA hI hR g⟩ rfl rfl hl.1 rfl (lv_room (Nat.le_of_ble_eq_true rfl)) dX11_club_1 ⟨Nat.le_of_ble_eq_true rfl, Nat.le_of_ble_eq_true rfl⟩) (fun rh1 h1 => ?_)
  rcases h1 with ⟨rfl, h1⟩ | ⟨rfl, h1⟩
  · skip
    refine lv_if_eq (tgt := 18) hx hb dX11_club_4 (by decide) (fun _ => ?_) (fun h => absurd (by decide) h)
    refine lv_bipush (v := (-2)) hx hb dX11_club_18 (by decide) ?_
    exact W.iret (v := (-2)) hx hb hr (fun t ht hW => ⟨(-2), rfl, trivial, ht⟩) (fun _ h => by cases h) dX11_club_20
  · skip
    refine lv_if_eq (tgt := 18) hx hb dX11_club_4 (by decide) (fun h => absurd h (by decide)) (fun _ => ?_)
    refine lv_aload_n hx hb dX11_club_7 rfl (lv_at hl 0 rfl) ?_
    obtain ⟨b4, rb4, tb4⟩ := hR.at a0 3 t_a0 (rfl : h_rs 12 3 = some (1, false)) (by decide)
    refine h_get (v := .ref b4) hx hb hts iX11 hown g t_a0 (by decide) so_12 rfl 3 (by decide) (hts (.fieldLink RX11 37 "CapLeague" "books" "LCapLeague$Books;") (by decide +kernel)) rfl dX11_club_8 (by show va_rf (z.R a0 3) = _; rw [rb4]; rfl) ?_
    refine lv_iload_n hx hb dX11_club_11 rfl (lv_at hl 2 rfl) ?_
    refine vp_callSi (W.runV (As := [.int y]) (rest := []) ⟨hx, hb, hml, hown, hts⟩ (tX0_isNowOrLater l E X A z I0 L0 b4 tb4 y (y_t) h_y) (cwV 1 hts gX11_club_X0_isNowOrLater rfl rfl rfl (by decide +kernel) ⟨Nat.le_of_ble_eq_true rfl, Nat.le_of_ble_eq_true rfl⟩) ⟨h_blind _ _ _ _ _ _ _, h_recv g tb4 (by decide) so_1 (q := (RX0, TX0, 9)) rfl, h_pre _ hE hk hX hA hI hR g⟩ rfl rfl hl.1 rfl (lv_room (Nat.le_of_ble_eq_true rfl)) dX11_club_12 ⟨Nat.le_of_ble_eq_true rfl, Nat.le_of_ble_eq_true rfl⟩) (fun rh5 h5 => ?_)
    rcases h5 with ⟨rfl, h5⟩ | ⟨rfl, h5⟩
    · skip
      refine lv_if_ne (tgt := 21) hx hb dX11_club_15 (by decide) (fun h => absurd (by decide) h) (fun _ => ?_)
      refine lv_bipush (v := (-2)) hx hb dX11_club_18 (by decide) ?_
      exact W.iret (v := (-2)) hx hb hr (fun t ht hW => ⟨(-2), rfl, trivial, ht⟩) (fun _ h => by cases h) dX11_club_20
    · skip
      refine lv_if_ne (tgt := 21) hx hb dX11_club_15 (by decide) (fun _ => ?_) (fun h => absurd h (by decide))
      refine lv_iload_n hx hb dX11_club_21 rfl (lv_at hl 3 rfl) ?_
      have qc8 : x.toInt = x_t := h_x
      rcases (show (x.toInt < 0 ∨ 3 < x.toInt) ∨ x.toInt = 0 ∨ x.toInt = 1 ∨ x.toInt = 2 ∨ x.toInt = 3 by omega) with c8 | c8 | c8 | c8 | c8
      · refine lv_tableOut (tgt := 113) hx hb dX11_club_22 c8 (by decide) ?_
        refine lv_bipush (v := (-2)) hx hb dX11_club_113 (by decide) ?_
        exact W.iret (v := (-2)) hx hb hr (fun t ht hW => ⟨(-2), rfl, trivial, ht⟩) (fun _ h => by cases h) dX11_club_115
      · refine lv_tableIn (off := 30) (tgt := 52) hx hb dX11_club_22 (by omega) (by omega) (by rw [show (x.toInt - 0).toNat = 0 by omega]; rfl) (by decide) ?_
        refine lv_aload_n hx hb dX11_club_52 rfl (lv_at hl 0 rfl) ?_
        refine h_get (v := .ref b4) hx hb hts iX11 hown g t_a0 (by decide) so_12 rfl 3 (by decide) (hts (.fieldLink RX11 37 "CapLeague" "books" "LCapLeague$Books;") (by decide +kernel)) rfl dX11_club_53 (by show va_rf (z.R a0 3) = _; rw [rb4]; rfl) ?_
        refine lv_iload_n hx hb dX11_club_56 rfl (lv_at hl 1 rfl) ?_
        refine lv_iload_n hx hb dX11_club_57 rfl (lv_at hl 2 rfl) ?_
        refine vp_callSi (W.runV (As := [.int c, .int y]) (rest := []) ⟨hx, hb, hml, hown, hts⟩ (tX0_counts l E X A z I0 L0 b4 tb4 c (c_t) h_c y (y_t) h_y) (cwV 2 hts gX11_club_X0_counts rfl rfl rfl (by decide +kernel) ⟨Nat.le_of_ble_eq_true rfl, Nat.le_of_ble_eq_true rfl⟩) ⟨h_blind _ _ _ _ _ _ _, h_recv g tb4 (by decide) so_1 (q := (RX0, TX0, 9)) rfl, h_pre _ hE hk hX hA hI hR g⟩ rfl rfl hl.1 rfl (lv_room (Nat.le_of_ble_eq_true rfl)) dX11_club_58 ⟨Nat.le_of_ble_eq_true rfl, Nat.le_of_ble_eq_true rfl⟩) (fun rh9 h9 => ?_)
        have jrh9 : -2147483648 ≤ rh9.toInt ∧ rh9.toInt ≤ 2147483647 := ⟨xi_lo _, Int.le_of_lt_add_one (xi_hi _)⟩
        exact W.iret (v := rh9) hx hb hr (fun t ht hW => ⟨rh9, rfl, trivial, ht⟩) (fun _ h => by cases h) dX11_club_61
      · refine lv_tableIn (off := 40) (tgt := 62) hx hb dX11_club_22 (by omega) (by omega) (by rw [show (x.toInt - 0).toNat = 1 by omega]; rfl) (by decide) ?_
        refine lv_aload_n hx hb dX11_club_62 rfl (lv_at hl 0 rfl) ?_
        refine h_get (v := .ref b4) hx hb hts iX11 hown g t_a0 (by decide) so_12 rfl 3 (by decide) (hts (.fieldLink RX11 37 "CapLeague" "books" "LCapLeague$Books;") (by decide +kernel)) rfl dX11_club_63 (by show va_rf (z.R a0 3) = _; rw [rb4]; rfl) ?_
        obtain ⟨b10, rb10, tb10⟩ := hR.at b4 4 tb4 (rfl : h_rs 1 4 = some (104, false)) (by decide)
        refine h_get (v := .ref b10) hx hb hts iX0 hown g tb4 (by decide) so_1 rfl 4 (by decide) (hts (.fieldLink RX11 178 "CapLeague$Books" "dead" "[[I") (by decide +kernel)) rfl dX11_club_66 (by show va_rf (z.R b4 4) = _; rw [rb10]; rfl) ?_
        refine lv_iload_n hx hb dX11_club_69 rfl (lv_at hl 1 rfl) ?_
        obtain ⟨b11, rb11, tb11⟩ := hR.at b10 c.toNatClampNeg tb10 (rfl : h_rs 104 _ = some (154, false)) (by rw [so_104]; exact h_lt (n := 8) (xi_in (by rw [h_c]; omega) (by rw [h_c]; omega)))
        refine h_aldA (v := .ref b11) hx hb g tb10 (by decide) so_104 (xi_in (by rw [h_c]; omega) (by rw [h_c]; omega)) dX11_club_70 (by rw [rb11]; rfl) ?_
        refine lv_iload_n hx hb dX11_club_71 rfl (lv_at hl 2 rfl) ?_
        refine h_ald hx hb g tb11 (by decide) so_154 (xi_in (by rw [h_y]; omega) (by rw [h_y]; omega)) dX11_club_72 ?_
        refine lv_topi (fun v12 ev12 => ?_)
        have jv12 := hI.rd b11 y.toNatClampNeg tb11 ev12 (rfl : h_bd 154 _ = ((-2147483648), 2147483647))
        exact W.iret (v := v12) hx hb hr (fun t ht hW => ⟨v12, rfl, trivial, ht⟩) (fun _ h => by cases h) dX11_club_73
      · refine lv_tableIn (off := 52) (tgt := 74) hx hb dX11_club_22 (by omega) (by omega) (by rw [show (x.toInt - 0).toNat = 2 by omega]; rfl) (by decide) ?_
        refine lv_aload_n hx hb dX11_club_74 rfl (lv_at hl 0 rfl) ?_
        refine h_get (v := .ref b4) hx hb hts iX11 hown g t_a0 (by decide) so_12 rfl 3 (by decide) (hts (.fieldLink RX11 37 "CapLeague" "books" "LCapLeague$Books;") (by decide +kernel)) rfl dX11_club_75 (by show va_rf (z.R a0 3) = _; rw [rb4]; rfl) ?_
        refine lv_iload_n hx hb dX11_club_78 rfl (lv_at hl 1 rfl) ?_
        refine lv_iload_n hx hb dX11_club_79 rfl (lv_at hl 2 rfl) ?_
        refine vp_callSi (W.runV (As := [.int c, .int y]) (rest := []) ⟨hx, hb, hml, hown, hts⟩ (tX0_playersIn l E X A z I0 L0 b4 tb4 c (c_t) h_c y (y_t) h_y) (cwV 2 hts gX11_club_X0_playersIn rfl rfl rfl (by decide +kernel) ⟨Nat.le_of_ble_eq_true rfl, Nat.le_of_ble_eq_true rfl⟩) ⟨h_blind _ _ _ _ _ _ _, h_recv g tb4 (by decide) so_1 (q := (RX0, TX0, 9)) rfl, h_pre _ hE hk hX hA hI hR g⟩ rfl rfl hl.1 rfl (lv_room (Nat.le_of_ble_eq_true rfl)) dX11_club_80 ⟨Nat.le_of_ble_eq_true rfl, Nat.le_of_ble_eq_true rfl⟩) (fun rh13 h13 => ?_)
        have jrh13 : -2147483648 ≤ rh13.toInt ∧ rh13.toInt ≤ 2147483647 := ⟨xi_lo _, Int.le_of_lt_add_one (xi_hi _)⟩
        exact W.iret (v := rh13) hx hb hr (fun t ht hW => ⟨rh13, rfl, trivial, ht⟩) (fun _ h => by cases h) dX11_club_83
      · refine lv_tableIn (off := 62) (tgt := 84) hx hb dX11_club_22 (by omega) (by omega) (by rw [show (x.toInt - 0).toNat = 3 by omega]; rfl) (by decide) ?_
        refine lv_iload_n hx hb dX11_club_84 rfl (lv_at hl 2 rfl) ?_
        refine lv_aload_n hx hb dX11_club_85 rfl (lv_at hl 0 rfl) ?_
        refine h_get (v := .ref b4) hx hb hts iX11 hown g t_a0 (by decide) so_12 rfl 3 (by decide) (hts (.fieldLink RX11 37 "CapLeague" "books" "LCapLeague$Books;") (by decide +kernel)) rfl dX11_club_86 (by show va_rf (z.R a0 3) = _; rw [rb4]; rfl) ?_
        refine h_get (v := .int (I0 b4 3)) hx hb hts iX0 hown g tb4 (by decide) so_1 rfl 3 (by decide) (hts (.fieldLink RX11 142 "CapLeague$Books" "clock" "I") (by decide +kernel)) rfl dX11_club_89 rfl ?_
        refine lv_topi (fun v14 ev14 => ?_)
        have jv14 := hI.rd b4 3 tb4 ev14 (rfl : h_bd 1 3 = (0, 9))
        refine lv_icmp_ne (tgt := 111) hx hb dX11_club_92 (by decide) (fun c15 => ?_) (fun c15 => ?_)
        · have ic15 := (xi_ne c15 h_y rfl : y_t ≠ v14.toInt)
          refine lv_iconst (v := 0) hx hb dX11_club_111 (by decide) ?_
          exact W.iret (v := 0) hx hb hr (fun t ht hW => ⟨0, rfl, trivial, ht⟩) (fun _ h => by cases h) dX11_club_112
        · have ic15 := (xi_eq c15 h_y rfl : y_t = v14.toInt)
          refine lv_aload_n hx hb dX11_club_95 rfl (lv_at hl 0 rfl) ?_
          refine h_get (v := .ref b4) hx hb hts iX11 hown g t_a0 (by decide) so_12 rfl 3 (by decide) (hts (.fieldLink RX11 37 "CapLeague" "books" "LCapLeague$Books;") (by decide +kernel)) rfl dX11_club_96 (by show va_rf (z.R a0 3) = _; rw [rb4]; rfl) ?_
          obtain ⟨b16, rb16, tb16⟩ := hR.at b4 5 tb4 (rfl : h_rs 1 5 = some (105, false)) (by decide)
          refine h_get (v := .ref b16) hx hb hts iX0 hown g tb4 (by decide) so_1 rfl 5 (by decide) (hts (.fieldLink RX11 185 "CapLeague$Books" "spareUsed" "[Z") (by decide +kernel)) rfl dX11_club_99 (by show va_rf (z.R b4 5) = _; rw [rb16]; rfl) ?_
          refine lv_iload_n hx hb dX11_club_102 rfl (lv_at hl 1 rfl) ?_
          refine h_zald hx hb g tb16 (by decide) so_105 (xi_in (by rw [h_c]; omega) (by rw [h_c]; omega)) dX11_club_103 ?_
          refine lv_topi (fun v17 ev17 => ?_)
          have jv17 := hI.rd b16 c.toNatClampNeg tb16 ev17 (rfl : h_bd 105 _ = (0, 1))
          refine lv_if_eq (tgt := 111) hx hb dX11_club_104 (by decide) (fun c18 => ?_) (fun c18 => ?_)
          · have ic18 := (xi_eq c18 rfl (by decide) : v17.toInt = 0)
            refine lv_iconst (v := 0) hx hb dX11_club_111 (by decide) ?_
            exact W.iret (v := 0) hx hb hr (fun t ht hW => ⟨0, rfl, trivial, ht⟩) (fun _ h => by cases h) dX11_club_112
          · have ic18 := (xi_ne c18 rfl (by decide) : v17.toInt ≠ 0)
            refine lv_iconst (v := 1) hx hb dX11_club_107 (by decide) ?_
            refine lv_goto (tgt := 112) hx hb dX11_club_108 (by decide) ?_
            exact W.iret (v := 1) hx hb hr (fun t ht hW => ⟨1, rfl, trivial, ht⟩) (fun _ h => by cases h) dX11_club_112
set_option maxHeartbeats 4000000 in
set_option maxRecDepth 100000 in
theorem tX11_trade (l : Launch) (E : tE) (X : tX) (A : Nat → Prop) (z : tZ) (I0 : tI) (L0 : tL) (a0 : Nat) (t_a0 : z.ty a0 = 12) : Met l yX11_trade wsX11_trade ({ frames := 2, cells := 0, slots := 0, locals := 128 }) (va_Pc [.ref a0] (h_P E X A z I0 L0)) (va_Qi (fun r (I1 : tI) => h_I z I1 ∧ h_F [(10, 3), (10, 4)] z I0 I1 ∧ ((r = 1 ∧ True))) (fun (I1 : tI) t => h_B E A z I1 L0 t) A) 0 0 A := by
  refine Met.ofW (cc := cX11_trade) (maxL := 1) (ret := (some .int)) (by decide) rfl ?_
  intro pr_ ev_ s m args below meth cd_ s₁ B hml hv
  obtain ⟨rfl, hE, hk, hX, hA, hK, hI, hR, hB0⟩ := hv
  have g : h_G h_so h_fk E A z I0 L0 s s.heap s.heap [] := ⟨hK, va_S.rf, hB0⟩
  have hF : h_F [(10, 3), (10, 4)] z I0 I0 := h_F.rf
  have hx := B.exec
  have hb := B.bytes
  have hr := B.returns
  have hts := atoms_spec (ws := wsX11_trade) B.pre
  have hown : s.vm.findClass RX11 = some m.cls := findClass_of_methodNamed B.named
  have hlocks := B.notSynchronized
  have iX11 : ∀ w ∈ u_ws RX11 TX11 8, w ∈ wsX11_trade := by decide +kernel
  have hl := lv_entry ([.ref a0]) (n := 1) (Nat.le_of_ble_eq_true rfl)
  rw [lg_entry_eq]
  generalize (lg_sl ([.ref a0]) ++ List.replicate (1 - (lg_sl ([.ref a0])).length) Slot.unset).toArray = ls at hl ⊢
  have hl : lv_has ls 1 [(0, .ref a0)] := hl
  refine lv_aload_n hx hb dX11_trade_0 rfl (lv_at hl 0 rfl) ?_
  obtain ⟨b1, rb1, tb1⟩ := hR.at a0 5 t_a0 (rfl : h_rs 12 5 = some (10, false)) (by decide)
  refine h_get (v := .ref b1) hx hb hts iX11 hown g t_a0 (by decide) so_12 rfl 5 (by decide) (hts (.fieldLink RX11 53 "CapLeague" "bargain" "LCapLeague$Trade;") (by decide +kernel)) rfl dX11_trade_1 (by show va_rf (z.R a0 5) = _; rw [rb1]; rfl) ?_
  refine va_callv (va_runV (As := []) (rest := []) ⟨hx, hb, hml, hown, hts⟩ (tX9_clear l E X A z I0 L0 b1 tb1) (cwV 0 hts gX11_trade_X9_clear rfl rfl rfl (by decide +kernel) ⟨Nat.le_of_ble_eq_true rfl, Nat.le_of_ble_eq_true rfl⟩) ⟨h_blind _ _ _ _ _ _ _, h_recv g tb1 (by decide) so_10 (q := (RX9, TX9, 10)) rfl, h_pre _ hE hk hX hA hI hR g⟩ rfl rfl hl.1 rfl (lv_room (Nat.le_of_ble_eq_true rfl)) dX11_trade_4 ⟨Nat.le_of_ble_eq_true rfl, Nat.le_of_ble_eq_true rfl⟩) g.2.1 (fun q _ h => h) (fun q h => h) (fun I3 t H1 locs ht hvm h2 hB hz1 hk1 hS => ?_)
  obtain ⟨hI, fh2, h2⟩ := h2
  replace g := h_after g hB ht hS
  generalize H1 = H at g
  clear hB hk1 hz1 ht hvm hS
  have hF := hF.call fh2 rfl
  refine lv_iconst (v := 1) hx hb dX11_trade_7 (by decide) ?_
  have hS := g.2.1
  exact W.iret (v := 1) hx hb hr (fun t ht hW => ⟨⟨1, I3, rfl, ⟨hI, hF, (by exact ⟨rfl, trivial⟩)⟩, h_ret g ht⟩, hS.F ht⟩) hS.2.2 dX11_trade_8
set_option maxHeartbeats 4000000 in
set_option maxRecDepth 100000 in
theorem tX11_give (l : Launch) (E : tE) (X : tX) (A : Nat → Prop) (z : tZ) (I0 : tI) (L0 : tL) (a0 : Nat) (t_a0 : z.ty a0 = 12) (p : Int32) (p_t : Int) (h_p : p.toInt = p_t) (c : Int32) (c_t : Int) (h_c : c.toInt = c_t) : Met l yX11_give wsX11_give ({ frames := 3, cells := 0, slots := 0, locals := 192 }) (va_Pc [.ref a0, .int p, .int c] (h_P E X A z I0 L0)) (va_Qi (fun r (I1 : tI) => h_I z I1 ∧ h_F [(10, 3), (10, 4), (1006, 999), (1005, 999), (1007, 999), (1008, 999), (1009, 999)] z I0 I1 ∧ True) (fun (I1 : tI) t => h_B E A z I1 L0 t) A) 0 0 A := by
  refine Met.ofW (cc := cX11_give) (maxL := 4) (ret := (some .int)) (by decide) rfl ?_
  intro pr_ ev_ s m args below meth cd_ s₁ B hml hv
  obtain ⟨rfl, hE, hk, hX, hA, hK, hI, hR, hB0⟩ := hv
  have g : h_G h_so h_fk E A z I0 L0 s s.heap s.heap [] := ⟨hK, va_S.rf, hB0⟩
  have hF : h_F [(10, 3), (10, 4), (1006, 999), (1005, 999), (1007, 999), (1008, 999), (1009, 999)] z I0 I0 := h_F.rf
  have hx := B.exec
  have hb := B.bytes
  have hr := B.returns
  have hts := atoms_spec (ws := wsX11_give) B.pre
  have hown : s.vm.findClass RX11 = some m.cls := findClass_of_methodNamed B.named
  have hlocks := B.notSynchronized
  have iX11 : ∀ w ∈ u_ws RX11 TX11 8, w ∈ wsX11_give := by decide +kernel
  have iX6 : ∀ w ∈ u_ws RX6 TX6 9, w ∈ wsX11_give := by decide +kernel
  have hl := lv_entry ([.ref a0, .int p, .int c]) (n := 4) (Nat.le_of_ble_eq_true rfl)
  rw [lg_entry_eq]
  generalize (lg_sl ([.ref a0, .int p, .int c]) ++ List.replicate (4 - (lg_sl ([.ref a0, .int p, .int c])).length) Slot.unset).toArray = ls at hl ⊢
  have hl : lv_has ls 4 [(0, .ref a0), (1, .int p), (2, .int c)] := hl
  have b_p : -2147483648 ≤ p_t ∧ p_t ≤ 2147483647 := h_p ▸ ⟨xi_lo p, Int.le_of_lt_add_one (xi_hi p)⟩
  have b_c : -2147483648 ≤ c_t ∧ c_t ≤ 2147483647 := h_c ▸ ⟨xi_lo c, Int.le_of_lt_add_one (xi_hi c)⟩
  refine lv_aload_n hx hb dX11_give_0 rfl (lv_at hl 0 rfl) ?_
  obtain ⟨b1, rb1, tb1⟩ := hR.at a0 3 t_a0 (rfl : h_rs 12 3 = some (1, false)) (by decide)
  refine h_get (v := .ref b1) hx hb hts iX11 hown g t_a0 (by decide) so_12 rfl 3 (by decide) (hts (.fieldLink RX11 37 "CapLeague" "books" "LCapLeague$Books;") (by decide +kernel)) rfl dX11_give_1 (by show va_rf (z.R a0 3) = _; rw [rb1]; rfl) ?_
  refine lv_iload_n hx hb dX11_give_4 rfl (lv_at hl 1 rfl) ?_
  refine va_csq (W.runV (As := [.int p]) (rest := []) ⟨hx, hb, hml, hown, hts⟩ (tX0_playerAt l E X A z I0 L0 b1 tb1 p (p_t) h_p) (cwV 1 hts gX11_give_X0_playerAt rfl rfl rfl (by decide +kernel) ⟨Nat.le_of_ble_eq_true rfl, Nat.le_of_ble_eq_true rfl⟩) ⟨h_blind _ _ _ _ _ _ _, h_recv g tb1 (by decide) so_1 (q := (RX0, TX0, 9)) rfl, h_pre _ hE hk hX hA hI hR g⟩ rfl rfl hl.1 rfl (lv_room (Nat.le_of_ble_eq_true rfl)) dX11_give_5 ⟨Nat.le_of_ble_eq_true rfl, Nat.le_of_ble_eq_true rfl⟩) (fun rh2 h2 => ?_)
  rcases h2 with rfl | ⟨rh2, rfl, trh2⟩
  · refine xw_v (v := .null) rfl ?_
    refine lv_astore_nN (lv' := [(3, .null), (0, .ref a0), (1, .int p), (2, .int c)]) hx hb dX11_give_8 rfl hl (by decide) rfl (fun ls hl => ?_)
    refine lv_aload_nN hx hb dX11_give_9 rfl (lv_at hl 0 rfl) ?_
    refine lv_ifnullN (tgt := 20) hx hb dX11_give_10 (by decide) ?_
    refine lv_bipush (v := (-2)) hx hb dX11_give_20 (by decide) ?_
    have hS := g.2.1
    exact W.iret (v := (-2)) hx hb hr (fun t ht hW => ⟨⟨(-2), I0, rfl, ⟨hI, hF, trivial⟩, h_ret g ht⟩, hS.F ht⟩) hS.2.2 dX11_give_22
  · refine xw_v (v := .ref rh2) rfl ?_
    refine lv_astore_n (lv' := [(3, .ref rh2), (0, .ref a0), (1, .int p), (2, .int c)]) hx hb dX11_give_8 rfl hl (by decide) rfl (fun ls hl => ?_)
    refine lv_aload_n hx hb dX11_give_9 rfl (lv_at hl 0 rfl) ?_
    refine lv_ifnull hx hb dX11_give_10 ?_
    refine lv_iload_n hx hb dX11_give_13 rfl (lv_at hl 3 rfl) ?_
    refine vp_callSi (W.runS (As := [.int c]) (rest := []) ⟨hx, hb, hml, hown, hts⟩ (tX11_isClub l E X A z I0 L0 c (c_t) h_c) (va_cwS 1 hts gX11_give_X11_isClub rfl rfl rfl (by decide +kernel) ⟨Nat.le_of_ble_eq_true rfl, Nat.le_of_ble_eq_true rfl⟩) ⟨h_blind _ _ _ _ _ _ _, h_pre _ hE hk hX hA hI hR g⟩ rfl rfl hl.1 rfl (lv_room (Nat.le_of_ble_eq_true rfl)) dX11_give_14 ⟨Nat.le_of_ble_eq_true rfl, Nat.le_of_ble_eq_true rfl⟩) (fun rh3 h3 => ?_)
    rcases h3 with ⟨rfl, h3⟩ | ⟨rfl, h3⟩
    · skip
      refine lv_if_ne (tgt := 23) hx hb dX11_give_17 (by decide) (fun h => absurd (by decide) h) (fun _ => ?_)
      refine lv_bipush (v := (-2)) hx hb dX11_give_20 (by decide) ?_
      have hS := g.2.1
      exact W.iret (v := (-2)) hx hb hr (fun t ht hW => ⟨⟨(-2), I0, rfl, ⟨hI, hF, trivial⟩, h_ret g ht⟩, hS.F ht⟩) hS.2.2 dX11_give_22
    · skip
      refine lv_if_ne (tgt := 23) hx hb dX11_give_17 (by decide) (fun _ => ?_) (fun h => absurd h (by decide))
      refine lv_aload_n hx hb dX11_give_23 rfl (lv_at hl 0 rfl) ?_
      refine vp_callSi (W.runV (As := []) (rest := []) ⟨hx, hb, hml, hown, hts⟩ (tX6_isSigned l E X A z I0 L0 rh2 trh2) (cwV 0 hts gX11_give_X6_isSigned rfl rfl rfl (by decide +kernel) ⟨Nat.le_of_ble_eq_true rfl, Nat.le_of_ble_eq_true rfl⟩) ⟨h_blind _ _ _ _ _ _ _, h_recv g trh2 (by decide) so_7 (q := (RX6, TX6, 9)) rfl, h_pre _ hE hk hX hA hI hR g⟩ rfl rfl hl.1 rfl (lv_room (Nat.le_of_ble_eq_true rfl)) dX11_give_24 ⟨Nat.le_of_ble_eq_true rfl, Nat.le_of_ble_eq_true rfl⟩) (fun rh6 h6 => ?_)
      refine lv_if_eq (tgt := 64) hx hb dX11_give_27 (by decide) (fun c7 => ?_) (fun c7 => ?_)
      · have ic7 := (xi_eq c7 rfl (by decide) : rh6.toInt = 0)
        refine lv_bipush (v := (-4)) hx hb dX11_give_64 (by decide) ?_
        have hS := g.2.1
        exact W.iret (v := (-4)) hx hb hr (fun t ht hW => ⟨⟨(-4), I0, rfl, ⟨hI, hF, trivial⟩, h_ret g ht⟩, hS.F ht⟩) hS.2.2 dX11_give_66
      · have ic7 := (xi_ne c7 rfl (by decide) : rh6.toInt ≠ 0)
        refine lv_aload_n hx hb dX11_give_30 rfl (lv_at hl 0 rfl) ?_
        refine h_get (v := .int (I0 rh2 0)) hx hb hts iX6 hown g trh2 (by decide) so_7 rfl 0 (by decide) (hts (.fieldLink RX11 189 "CapLeague$Player" "club" "I") (by decide +kernel)) rfl dX11_give_31 rfl ?_
        refine lv_topi (fun v8 ev8 => ?_)
        have jv8 := hI.rd rh2 0 trh2 ev8 (rfl : h_bd 7 0 = ((-1), 7))
        refine lv_iload_n hx hb dX11_give_34 rfl (lv_at hl 3 rfl) ?_
        refine lv_icmp_eq (tgt := 64) hx hb dX11_give_35 (by decide) (fun c9 => ?_) (fun c9 => ?_)
        · have ic9 := (xi_eq c9 rfl h_c : v8.toInt = c_t)
          refine lv_bipush (v := (-4)) hx hb dX11_give_64 (by decide) ?_
          have hS := g.2.1
          exact W.iret (v := (-4)) hx hb hr (fun t ht hW => ⟨⟨(-4), I0, rfl, ⟨hI, hF, trivial⟩, h_ret g ht⟩, hS.F ht⟩) hS.2.2 dX11_give_66
        · have ic9 := (xi_ne c9 rfl h_c : v8.toInt ≠ c_t)
          refine lv_aload_n hx hb dX11_give_38 rfl (lv_at hl 1 rfl) ?_
          obtain ⟨b10, rb10, tb10⟩ := hR.at a0 5 t_a0 (rfl : h_rs 12 5 = some (10, false)) (by decide)
          refine h_get (v := .ref b10) hx hb hts iX11 hown g t_a0 (by decide) so_12 rfl 5 (by decide) (hts (.fieldLink RX11 53 "CapLeague" "bargain" "LCapLeague$Trade;") (by decide +kernel)) rfl dX11_give_39 (by show va_rf (z.R a0 5) = _; rw [rb10]; rfl) ?_
          refine lv_iload_n hx hb dX11_give_42 rfl (lv_at hl 2 rfl) ?_
          refine vp_callSi (W.runV (As := [.int p]) (rest := []) ⟨hx, hb, hml, hown, hts⟩ (tX9_hasPlayer l E X A z I0 L0 b10 tb10 p (p_t) h_p) (cwV 1 hts gX11_give_X9_hasPlayer rfl rfl rfl (by decide +kernel) ⟨Nat.le_of_ble_eq_true rfl, Nat.le_of_ble_eq_true rfl⟩) ⟨h_blind _ _ _ _ _ _ _, h_recv g tb10 (by decide) so_10 (q := (RX9, TX9, 10)) rfl, h_pre _ hE hk hX hA hI hR g⟩ rfl rfl hl.1 rfl (lv_room (Nat.le_of_ble_eq_true rfl)) dX11_give_43 ⟨Nat.le_of_ble_eq_true rfl, Nat.le_of_ble_eq_true rfl⟩) (fun rh11 h11 => ?_)
          refine lv_if_ne (tgt := 64) hx hb dX11_give_46 (by decide) (fun c12 => ?_) (fun c12 => ?_)
          · have ic12 := (xi_ne c12 rfl (by decide) : rh11.toInt ≠ 0)
            refine lv_bipush (v := (-4)) hx hb dX11_give_64 (by decide) ?_
            have hS := g.2.1
            exact W.iret (v := (-4)) hx hb hr (fun t ht hW => ⟨⟨(-4), I0, rfl, ⟨hI, hF, trivial⟩, h_ret g ht⟩, hS.F ht⟩) hS.2.2 dX11_give_66
          · have ic12 := (xi_eq c12 rfl (by decide) : rh11.toInt = 0)
            refine lv_aload_n hx hb dX11_give_49 rfl (lv_at hl 1 rfl) ?_
            refine h_get (v := .ref b10) hx hb hts iX11 hown g t_a0 (by decide) so_12 rfl 5 (by decide) (hts (.fieldLink RX11 53 "CapLeague" "bargain" "LCapLeague$Trade;") (by decide +kernel)) rfl dX11_give_50 (by show va_rf (z.R a0 5) = _; rw [rb10]; rfl) ?_
            refine lv_aload_n hx hb dX11_give_53 rfl (lv_at hl 0 rfl) ?_
            refine h_get (v := .int v8) hx hb hts iX6 hown g trh2 (by decide) so_7 rfl 0 (by decide) (hts (.fieldLink RX11 189 "CapLeague$Player" "club" "I") (by decide +kernel)) rfl dX11_give_54 (congrArg Value.int (ev8.symm)) ?_
            refine lv_iload_n hx hb dX11_give_57 rfl (lv_at hl 3 rfl) ?_
            refine vp_callSi (W.runV (As := [.int v8, .int c]) (rest := []) ⟨hx, hb, hml, hown, hts⟩ (tX9_canJoin l E X A z I0 L0 b10 tb10 v8 (v8.toInt) rfl c (c_t) h_c) (cwV 2 hts gX11_give_X9_canJoin rfl rfl rfl (by decide +kernel) ⟨Nat.le_of_ble_eq_true rfl, Nat.le_of_ble_eq_true rfl⟩) ⟨h_blind _ _ _ _ _ _ _, h_recv g tb10 (by decide) so_10 (q := (RX9, TX9, 10)) rfl, h_pre _ hE hk hX hA hI hR g⟩ rfl rfl hl.1 rfl (lv_room (Nat.le_of_ble_eq_true rfl)) dX11_give_58 ⟨Nat.le_of_ble_eq_true rfl, Nat.le_of_ble_eq_true rfl⟩) (fun rh13 h13 => ?_)
            refine lv_if_ne (tgt := 67) hx hb dX11_give_61 (by decide) (fun c14 => ?_) (fun c14 => ?_)
            · have ic14 := (xi_ne c14 rfl (by decide) : rh13.toInt ≠ 0)
              refine lv_aload_n hx hb dX11_give_67 rfl (lv_at hl 1 rfl) ?_
              refine h_get (v := .ref b10) hx hb hts iX11 hown g t_a0 (by decide) so_12 rfl 5 (by decide) (hts (.fieldLink RX11 53 "CapLeague" "bargain" "LCapLeague$Trade;") (by decide +kernel)) rfl dX11_give_68 (by show va_rf (z.R a0 5) = _; rw [rb10]; rfl) ?_
              refine lv_iload_n hx hb dX11_give_71 rfl (lv_at hl 2 rfl) ?_
              refine lv_aload_n hx hb dX11_give_72 rfl (lv_at hl 0 rfl) ?_
              refine h_get (v := .int v8) hx hb hts iX6 hown g trh2 (by decide) so_7 rfl 0 (by decide) (hts (.fieldLink RX11 189 "CapLeague$Player" "club" "I") (by decide +kernel)) rfl dX11_give_73 (congrArg Value.int (ev8.symm)) ?_
              refine lv_iload_n hx hb dX11_give_76 rfl (lv_at hl 3 rfl) ?_
              refine va_calli (va_runV (As := [.int p, .int v8, .int c]) (rest := []) ⟨hx, hb, hml, hown, hts⟩ (tX9_addPlayerMove l E X A z I0 L0 b10 tb10 p (p_t) h_p v8 (v8.toInt) rfl c (c_t) h_c (by omega)) (cwV 3 hts gX11_give_X9_addPlayerMove rfl rfl rfl (by decide +kernel) ⟨Nat.le_of_ble_eq_true rfl, Nat.le_of_ble_eq_true rfl⟩) ⟨h_blind _ _ _ _ _ _ _, h_recv g tb10 (by decide) so_10 (q := (RX9, TX9, 10)) rfl, h_pre _ hE hk hX hA hI hR g⟩ rfl rfl hl.1 rfl (lv_room (Nat.le_of_ble_eq_true rfl)) dX11_give_77 ⟨Nat.le_of_ble_eq_true rfl, Nat.le_of_ble_eq_true rfl⟩) g.2.1 (fun q _ h => h) (fun q h => h) (fun rh15 I16 t H1 locs ht hvm h15 hB hz1 hk1 hS => ?_)
              obtain ⟨hI, fh15, h15⟩ := h15
              replace g := h_after g hB ht hS
              generalize H1 = H at g
              clear hB hk1 hz1 ht hvm hS
              have hF := hF.call fh15 rfl
              have jrh15 : -2147483648 ≤ rh15.toInt ∧ rh15.toInt ≤ 2147483647 := ⟨xi_lo _, Int.le_of_lt_add_one (xi_hi _)⟩
              have hS := g.2.1
              exact W.iret (v := rh15) hx hb hr (fun t ht hW => ⟨⟨rh15, I16, rfl, ⟨hI, hF, trivial⟩, h_ret g ht⟩, hS.F ht⟩) hS.2.2 dX11_give_80
            · have ic14 := (xi_eq c14 rfl (by decide) : rh13.toInt = 0)
              refine lv_bipush (v := (-4)) hx hb dX11_give_64 (by decide) ?_
              have hS := g.2.1
              exact W.iret (v := (-4)) hx hb hr (fun t ht hW => ⟨⟨(-4), I0, rfl, ⟨hI, hF, trivial⟩, h_ret g ht⟩, hS.F ht⟩) hS.2.2 dX11_give_66
set_option maxHeartbeats 4000000 in
set_option maxRecDepth 100000 in
theorem tX11_giveTurn (l : Launch) (E : tE) (X : tX) (A : Nat → Prop) (z : tZ) (I0 : tI) (L0 : tL) (a0 : Nat) (t_a0 : z.ty a0 = 12) (o : Int32) (o_t : Int) (h_o : o.toInt = o_t) (y : Int32) (y_t : Int) (h_y : y.toInt = y_t) (c : Int32) (c_t : Int) (h_c : c.toInt = c_t) (k : Int32) (k_t : Int) (h_k : k.toInt = k_t) : Met l yX11_giveTurn wsX11_giveTurn ({ frames := 3, cells := 0, slots := 0, locals := 192 }) (va_Pc [.ref a0, .int o, .int y, .int c, .int k] (h_P E X A z I0 L0)) (va_Qi (fun r (I1 : tI) => h_I z I1 ∧ h_F [(10, 3), (10, 4), (1006, 999), (1005, 999), (1007, 999), (1008, 999), (1009, 999)] z I0 I1 ∧ True) (fun (I1 : tI) t => h_B E A z I1 L0 t) A) 0 0 A := by
  refine Met.ofW (cc := cX11_giveTurn) (maxL := 7) (ret := (some .int)) (by decide) rfl ?_
  intro pr_ ev_ s m args below meth cd_ s₁ B hml hv
  obtain ⟨rfl, hE, hk, hX, hA, hK, hI, hR, hB0⟩ := hv
  have g : h_G h_so h_fk E A z I0 L0 s s.heap s.heap [] := ⟨hK, va_S.rf, hB0⟩
  have hF : h_F [(10, 3), (10, 4), (1006, 999), (1005, 999), (1007, 999), (1008, 999), (1009, 999)] z I0 I0 := h_F.rf
  have hx := B.exec
  have hb := B.bytes
  have hr := B.returns
  have hts := atoms_spec (ws := wsX11_giveTurn) B.pre
  have hown : s.vm.findClass RX11 = some m.cls := findClass_of_methodNamed B.named
  have hlocks := B.notSynchronized
  have iX11 : ∀ w ∈ u_ws RX11 TX11 8, w ∈ wsX11_giveTurn := by decide +kernel
  have iX10 : ∀ w ∈ u_ws RX10 TX10 4, w ∈ wsX11_giveTurn := by decide +kernel
  have hl := lv_entry ([.ref a0, .int o, .int y, .int c, .int k]) (n := 7) (Nat.le_of_ble_eq_true rfl)
  rw [lg_entry_eq]
  generalize (lg_sl ([.ref a0, .int o, .int y, .int c, .int k]) ++ List.replicate (7 - (lg_sl ([.ref a0, .int o, .int y, .int c, .int k])).length) Slot.unset).toArray = ls at hl ⊢
  have hl : lv_has ls 7 [(0, .ref a0), (1, .int o), (2, .int y), (3, .int c), (4, .int k)] := hl
  have b_o : -2147483648 ≤ o_t ∧ o_t ≤ 2147483647 := h_o ▸ ⟨xi_lo o, Int.le_of_lt_add_one (xi_hi o)⟩
  have b_y : -2147483648 ≤ y_t ∧ y_t ≤ 2147483647 := h_y ▸ ⟨xi_lo y, Int.le_of_lt_add_one (xi_hi y)⟩
  have b_c : -2147483648 ≤ c_t ∧ c_t ≤ 2147483647 := h_c ▸ ⟨xi_lo c, Int.le_of_lt_add_one (xi_hi c)⟩
  have b_k : -2147483648 ≤ k_t ∧ k_t ≤ 2147483647 := h_k ▸ ⟨xi_lo k, Int.le_of_lt_add_one (xi_hi k)⟩
  refine lv_iload_n hx hb dX11_giveTurn_0 rfl (lv_at hl 1 rfl) ?_
  refine vp_callSi (W.runS (As := [.int o]) (rest := []) ⟨hx, hb, hml, hown, hts⟩ (tX11_isClub l E X A z I0 L0 o (o_t) h_o) (va_cwS 1 hts gX11_giveTurn_X11_isClub rfl rfl rfl (by decide +kernel) ⟨Nat.le_of_ble_eq_true rfl, Nat.le_of_ble_eq_true rfl⟩) ⟨h_blind _ _ _ _ _ _ _, h_pre _ hE hk hX hA hI hR g⟩ rfl rfl hl.1 rfl (lv_room (Nat.le_of_ble_eq_true rfl)) dX11_giveTurn_1 ⟨Nat.le_of_ble_eq_true rfl, Nat.le_of_ble_eq_true rfl⟩) (fun rh1 h1 => ?_)
  rcases h1 with ⟨rfl, h1⟩ | ⟨rfl, h1⟩
  · skip
    refine lv_if_eq (tgt := 37) hx hb dX11_giveTurn_4 (by decide) (fun _ => ?_) (fun h => absurd (by decide) h)
    refine lv_bipush (v := (-2)) hx hb dX11_giveTurn_37 (by decide) ?_
    have hS := g.2.1
    exact W.iret (v := (-2)) hx hb hr (fun t ht hW => ⟨⟨(-2), I0, rfl, ⟨hI, hF, trivial⟩, h_ret g ht⟩, hS.F ht⟩) hS.2.2 dX11_giveTurn_39
  · skip
    refine lv_if_eq (tgt := 37) hx hb dX11_giveTurn_4 (by decide) (fun h => absurd h (by decide)) (fun _ => ?_)
    refine lv_aload_n hx hb dX11_giveTurn_7 rfl (lv_at hl 0 rfl) ?_
    obtain ⟨b4, rb4, tb4⟩ := hR.at a0 3 t_a0 (rfl : h_rs 12 3 = some (1, false)) (by decide)
    refine h_get (v := .ref b4) hx hb hts iX11 hown g t_a0 (by decide) so_12 rfl 3 (by decide) (hts (.fieldLink RX11 37 "CapLeague" "books" "LCapLeague$Books;") (by decide +kernel)) rfl dX11_giveTurn_8 (by show va_rf (z.R a0 3) = _; rw [rb4]; rfl) ?_
    refine lv_iload_n hx hb dX11_giveTurn_11 rfl (lv_at hl 2 rfl) ?_
    refine vp_callSi (W.runV (As := [.int y]) (rest := []) ⟨hx, hb, hml, hown, hts⟩ (tX0_isNowOrLater l E X A z I0 L0 b4 tb4 y (y_t) h_y) (cwV 1 hts gX11_giveTurn_X0_isNowOrLater rfl rfl rfl (by decide +kernel) ⟨Nat.le_of_ble_eq_true rfl, Nat.le_of_ble_eq_true rfl⟩) ⟨h_blind _ _ _ _ _ _ _, h_recv g tb4 (by decide) so_1 (q := (RX0, TX0, 9)) rfl, h_pre _ hE hk hX hA hI hR g⟩ rfl rfl hl.1 rfl (lv_room (Nat.le_of_ble_eq_true rfl)) dX11_giveTurn_12 ⟨Nat.le_of_ble_eq_true rfl, Nat.le_of_ble_eq_true rfl⟩) (fun rh5 h5 => ?_)
    rcases h5 with ⟨rfl, h5⟩ | ⟨rfl, h5⟩
    · skip
      refine lv_if_eq (tgt := 37) hx hb dX11_giveTurn_15 (by decide) (fun _ => ?_) (fun h => absurd (by decide) h)
      refine lv_bipush (v := (-2)) hx hb dX11_giveTurn_37 (by decide) ?_
      have hS := g.2.1
      exact W.iret (v := (-2)) hx hb hr (fun t ht hW => ⟨⟨(-2), I0, rfl, ⟨hI, hF, trivial⟩, h_ret g ht⟩, hS.F ht⟩) hS.2.2 dX11_giveTurn_39
    · skip
      refine lv_if_eq (tgt := 37) hx hb dX11_giveTurn_15 (by decide) (fun h => absurd h (by decide)) (fun _ => ?_)
      refine lv_iload_n hx hb dX11_giveTurn_18 rfl (lv_at hl 3 rfl) ?_
      refine vp_callSi (W.runS (As := [.int c]) (rest := []) ⟨hx, hb, hml, hown, hts⟩ (tX11_isClub l E X A z I0 L0 c (c_t) h_c) (va_cwS 1 hts gX11_giveTurn_X11_isClub rfl rfl rfl (by decide +kernel) ⟨Nat.le_of_ble_eq_true rfl, Nat.le_of_ble_eq_true rfl⟩) ⟨h_blind _ _ _ _ _ _ _, h_pre _ hE hk hX hA hI hR g⟩ rfl rfl hl.1 rfl (lv_room (Nat.le_of_ble_eq_true rfl)) dX11_giveTurn_19 ⟨Nat.le_of_ble_eq_true rfl, Nat.le_of_ble_eq_true rfl⟩) (fun rh8 h8 => ?_)
      rcases h8 with ⟨rfl, h8⟩ | ⟨rfl, h8⟩
      · skip
        refine lv_if_eq (tgt := 37) hx hb dX11_giveTurn_22 (by decide) (fun _ => ?_) (fun h => absurd (by decide) h)
        refine lv_bipush (v := (-2)) hx hb dX11_giveTurn_37 (by decide) ?_
        have hS := g.2.1
        exact W.iret (v := (-2)) hx hb hr (fun t ht hW => ⟨⟨(-2), I0, rfl, ⟨hI, hF, trivial⟩, h_ret g ht⟩, hS.F ht⟩) hS.2.2 dX11_giveTurn_39
      · skip
        refine lv_if_eq (tgt := 37) hx hb dX11_giveTurn_22 (by decide) (fun h => absurd h (by decide)) (fun _ => ?_)
        refine lv_iload hx hb dX11_giveTurn_25 (lv_at hl 4 rfl) ?_
        refine lv_if_lt (tgt := 37) hx hb dX11_giveTurn_27 (by decide) (fun c11 => ?_) (fun c11 => ?_)
        · have ic11 := (xi_lt c11 h_k (by decide) : k_t < 0)
          refine lv_bipush (v := (-2)) hx hb dX11_giveTurn_37 (by decide) ?_
          have hS := g.2.1
          exact W.iret (v := (-2)) hx hb hr (fun t ht hW => ⟨⟨(-2), I0, rfl, ⟨hI, hF, trivial⟩, h_ret g ht⟩, hS.F ht⟩) hS.2.2 dX11_giveTurn_39
        · have ic11 := (xi_nlt c11 h_k (by decide) : 0 ≤ k_t)
          refine lv_iload hx hb dX11_giveTurn_30 (lv_at hl 4 rfl) ?_
          refine lv_bipush (v := 8) hx hb dX11_giveTurn_32 (by decide) ?_
          refine lv_icmp_le (tgt := 40) hx hb dX11_giveTurn_34 (by decide) (fun c12 => ?_) (fun c12 => ?_)
          · have ic12 := (xi_le c12 h_k (by decide) : k_t ≤ 8)
            refine lv_iload_n hx hb dX11_giveTurn_40 rfl (lv_at hl 1 rfl) ?_
            refine lv_iload_n hx hb dX11_giveTurn_41 rfl (lv_at hl 2 rfl) ?_
            refine vp_callSi (W.runS (As := [.int o, .int y]) (rest := []) ⟨hx, hb, hml, hown, hts⟩ (tX10_keyR l E X A z I0 L0 o (o_t) h_o (by omega) y (y_t) h_y (by omega)) (va_cwS 2 hts gX11_giveTurn_X10_keyOf rfl rfl rfl (by decide +kernel) ⟨Nat.le_of_ble_eq_true rfl, Nat.le_of_ble_eq_true rfl⟩) ⟨h_blind _ _ _ _ _ _ _, h_pre _ hE hk hX hA hI hR g⟩ rfl rfl hl.1 rfl (lv_room (Nat.le_of_ble_eq_true rfl)) dX11_giveTurn_42 ⟨Nat.le_of_ble_eq_true rfl, Nat.le_of_ble_eq_true rfl⟩) (fun rh13 h13 => ?_)
            obtain ⟨h13, h13p0⟩ := h13
            refine lv_istore (lv' := [(5, .int rh13), (0, .ref a0), (1, .int o), (2, .int y), (3, .int c), (4, .int k)]) hx hb dX11_giveTurn_45 hl (by decide) rfl (fun ls hl => ?_)
            refine lv_aload_n hx hb dX11_giveTurn_47 rfl (lv_at hl 1 rfl) ?_
            obtain ⟨b14, rb14, tb14⟩ := hR.at a0 4 t_a0 (rfl : h_rs 12 4 = some (11, false)) (by decide)
            refine h_get (v := .ref b14) hx hb hts iX11 hown g t_a0 (by decide) so_12 rfl 4 (by decide) (hts (.fieldLink RX11 44 "CapLeague" "turns" "LCapLeague$Turns;") (by decide +kernel)) rfl dX11_giveTurn_48 (by show va_rf (z.R a0 4) = _; rw [rb14]; rfl) ?_
            obtain ⟨b15, rb15, tb15⟩ := hR.at b14 0 tb14 (rfl : h_rs 11 0 = some (1100, false)) (by decide)
            refine h_get (v := .ref b15) hx hb hts iX10 hown g tb14 (by decide) so_11 rfl 0 (by decide) (hts (.fieldLink RX11 206 "CapLeague$Turns" "holder" "[I") (by decide +kernel)) rfl dX11_giveTurn_51 (by show va_rf (z.R b14 0) = _; rw [rb15]; rfl) ?_
            refine lv_iload hx hb dX11_giveTurn_54 (lv_at hl 0 rfl) ?_
            refine h_ald hx hb g tb15 (by decide) so_1100 (xi_in (by omega) (by omega)) dX11_giveTurn_56 ?_
            refine lv_topi (fun v16 ev16 => ?_)
            have jv16 := hI.rd b15 rh13.toNatClampNeg tb15 ev16 (rfl : h_bd 1100 _ = ((-2147483648), 2147483647))
            refine lv_istore (lv' := [(6, .int v16), (5, .int rh13), (0, .ref a0), (1, .int o), (2, .int y), (3, .int c), (4, .int k)]) hx hb dX11_giveTurn_57 hl (by decide) rfl (fun ls hl => ?_)
            refine lv_iload hx hb dX11_giveTurn_59 (lv_at hl 0 rfl) ?_
            refine lv_iload_n hx hb dX11_giveTurn_61 rfl (lv_at hl 5 rfl) ?_
            refine lv_icmp_eq (tgt := 114) hx hb dX11_giveTurn_62 (by decide) (fun c17 => ?_) (fun c17 => ?_)
            · have ic17 := (xi_eq c17 rfl h_c : v16.toInt = c_t)
              refine lv_bipush (v := (-4)) hx hb dX11_giveTurn_114 (by decide) ?_
              have hS := g.2.1
              exact W.iret (v := (-4)) hx hb hr (fun t ht hW => ⟨⟨(-4), I0, rfl, ⟨hI, hF, trivial⟩, h_ret g ht⟩, hS.F ht⟩) hS.2.2 dX11_giveTurn_116
            · have ic17 := (xi_ne c17 rfl h_c : v16.toInt ≠ c_t)
              refine lv_aload_n hx hb dX11_giveTurn_65 rfl (lv_at hl 2 rfl) ?_
              obtain ⟨b18, rb18, tb18⟩ := hR.at a0 5 t_a0 (rfl : h_rs 12 5 = some (10, false)) (by decide)
              refine h_get (v := .ref b18) hx hb hts iX11 hown g t_a0 (by decide) so_12 rfl 5 (by decide) (hts (.fieldLink RX11 53 "CapLeague" "bargain" "LCapLeague$Trade;") (by decide +kernel)) rfl dX11_giveTurn_66 (by show va_rf (z.R a0 5) = _; rw [rb18]; rfl) ?_
              refine lv_iload hx hb dX11_giveTurn_69 (lv_at hl 1 rfl) ?_
              refine vp_callSi (W.runV (As := [.int rh13]) (rest := []) ⟨hx, hb, hml, hown, hts⟩ (tX9_hasTurn l E X A z I0 L0 b18 tb18 rh13 (rh13.toInt) rfl) (cwV 1 hts gX11_giveTurn_X9_hasTurn rfl rfl rfl (by decide +kernel) ⟨Nat.le_of_ble_eq_true rfl, Nat.le_of_ble_eq_true rfl⟩) ⟨h_blind _ _ _ _ _ _ _, h_recv g tb18 (by decide) so_10 (q := (RX9, TX9, 10)) rfl, h_pre _ hE hk hX hA hI hR g⟩ rfl rfl hl.1 rfl (lv_room (Nat.le_of_ble_eq_true rfl)) dX11_giveTurn_71 ⟨Nat.le_of_ble_eq_true rfl, Nat.le_of_ble_eq_true rfl⟩) (fun rh19 h19 => ?_)
              refine lv_if_ne (tgt := 114) hx hb dX11_giveTurn_74 (by decide) (fun c20 => ?_) (fun c20 => ?_)
              · have ic20 := (xi_ne c20 rfl (by decide) : rh19.toInt ≠ 0)
                refine lv_bipush (v := (-4)) hx hb dX11_giveTurn_114 (by decide) ?_
                have hS := g.2.1
                exact W.iret (v := (-4)) hx hb hr (fun t ht hW => ⟨⟨(-4), I0, rfl, ⟨hI, hF, trivial⟩, h_ret g ht⟩, hS.F ht⟩) hS.2.2 dX11_giveTurn_116
              · have ic20 := (xi_eq c20 rfl (by decide) : rh19.toInt = 0)
                refine lv_aload_n hx hb dX11_giveTurn_77 rfl (lv_at hl 2 rfl) ?_
                obtain ⟨b21, rb21, tb21⟩ := hR.at a0 7 t_a0 (rfl : h_rs 12 7 = some (3, false)) (by decide)
                refine h_get (v := .ref b21) hx hb hts iX11 hown g t_a0 (by decide) so_12 rfl 7 (by decide) (hts (.fieldLink RX11 69 "CapLeague" "draft" "LCapLeague$Draft;") (by decide +kernel)) rfl dX11_giveTurn_78 (by show va_rf (z.R a0 7) = _; rw [rb21]; rfl) ?_
                refine lv_iload_n hx hb dX11_giveTurn_81 rfl (lv_at hl 4 rfl) ?_
                refine vp_callSi (W.runV (As := [.int y]) (rest := []) ⟨hx, hb, hml, hown, hts⟩ (tX2_isDrawn l E X A z I0 L0 b21 tb21 y (y_t) h_y) (cwV 1 hts gX11_giveTurn_X2_isDrawn rfl rfl rfl (by decide +kernel) ⟨Nat.le_of_ble_eq_true rfl, Nat.le_of_ble_eq_true rfl⟩) ⟨h_blind _ _ _ _ _ _ _, h_recv g tb21 (by decide) so_3 (q := (RX2, TX2, 7)) rfl, h_pre _ hE hk hX hA hI hR g⟩ rfl rfl hl.1 rfl (lv_room (Nat.le_of_ble_eq_true rfl)) dX11_giveTurn_82 ⟨Nat.le_of_ble_eq_true rfl, Nat.le_of_ble_eq_true rfl⟩) (fun rh22 h22 => ?_)
                refine lv_if_ne (tgt := 114) hx hb dX11_giveTurn_85 (by decide) (fun c23 => ?_) (fun c23 => ?_)
                · have ic23 := (xi_ne c23 rfl (by decide) : rh22.toInt ≠ 0)
                  refine lv_bipush (v := (-4)) hx hb dX11_giveTurn_114 (by decide) ?_
                  have hS := g.2.1
                  exact W.iret (v := (-4)) hx hb hr (fun t ht hW => ⟨⟨(-4), I0, rfl, ⟨hI, hF, trivial⟩, h_ret g ht⟩, hS.F ht⟩) hS.2.2 dX11_giveTurn_116
                · have ic23 := (xi_eq c23 rfl (by decide) : rh22.toInt = 0)
                  refine lv_aload_n hx hb dX11_giveTurn_88 rfl (lv_at hl 2 rfl) ?_
                  refine h_get (v := .ref b14) hx hb hts iX11 hown g t_a0 (by decide) so_12 rfl 4 (by decide) (hts (.fieldLink RX11 44 "CapLeague" "turns" "LCapLeague$Turns;") (by decide +kernel)) rfl dX11_giveTurn_89 (by show va_rf (z.R a0 4) = _; rw [rb14]; rfl) ?_
                  obtain ⟨b24, rb24, tb24⟩ := hR.at b14 1 tb14 (rfl : h_rs 11 1 = some (1101, false)) (by decide)
                  refine h_get (v := .ref b24) hx hb hts iX10 hown g tb14 (by decide) so_11 rfl 1 (by decide) (hts (.fieldLink RX11 216 "CapLeague$Turns" "shield" "[I") (by decide +kernel)) rfl dX11_giveTurn_92 (by show va_rf (z.R b14 1) = _; rw [rb24]; rfl) ?_
                  refine lv_iload hx hb dX11_giveTurn_95 (lv_at hl 1 rfl) ?_
                  refine h_ald hx hb g tb24 (by decide) so_1101 (xi_in (by omega) (by omega)) dX11_giveTurn_97 ?_
                  refine lv_topi (fun v25 ev25 => ?_)
                  have jv25 := hI.rd b24 rh13.toNatClampNeg tb24 ev25 (rfl : h_bd 1101 _ = ((-2147483648), 2147483647))
                  refine lv_if_ne (tgt := 114) hx hb dX11_giveTurn_98 (by decide) (fun c26 => ?_) (fun c26 => ?_)
                  · have ic26 := (xi_ne c26 rfl (by decide) : v25.toInt ≠ 0)
                    refine lv_bipush (v := (-4)) hx hb dX11_giveTurn_114 (by decide) ?_
                    have hS := g.2.1
                    exact W.iret (v := (-4)) hx hb hr (fun t ht hW => ⟨⟨(-4), I0, rfl, ⟨hI, hF, trivial⟩, h_ret g ht⟩, hS.F ht⟩) hS.2.2 dX11_giveTurn_116
                  · have ic26 := (xi_eq c26 rfl (by decide) : v25.toInt = 0)
                    refine lv_aload_n hx hb dX11_giveTurn_101 rfl (lv_at hl 2 rfl) ?_
                    refine h_get (v := .ref b18) hx hb hts iX11 hown g t_a0 (by decide) so_12 rfl 5 (by decide) (hts (.fieldLink RX11 53 "CapLeague" "bargain" "LCapLeague$Trade;") (by decide +kernel)) rfl dX11_giveTurn_102 (by show va_rf (z.R a0 5) = _; rw [rb18]; rfl) ?_
                    refine lv_iload hx hb dX11_giveTurn_105 (lv_at hl 0 rfl) ?_
                    refine lv_iload_n hx hb dX11_giveTurn_107 rfl (lv_at hl 5 rfl) ?_
                    refine vp_callSi (W.runV (As := [.int v16, .int c]) (rest := []) ⟨hx, hb, hml, hown, hts⟩ (tX9_canJoin l E X A z I0 L0 b18 tb18 v16 (v16.toInt) rfl c (c_t) h_c) (cwV 2 hts gX11_giveTurn_X9_canJoin rfl rfl rfl (by decide +kernel) ⟨Nat.le_of_ble_eq_true rfl, Nat.le_of_ble_eq_true rfl⟩) ⟨h_blind _ _ _ _ _ _ _, h_recv g tb18 (by decide) so_10 (q := (RX9, TX9, 10)) rfl, h_pre _ hE hk hX hA hI hR g⟩ rfl rfl hl.1 rfl (lv_room (Nat.le_of_ble_eq_true rfl)) dX11_giveTurn_108 ⟨Nat.le_of_ble_eq_true rfl, Nat.le_of_ble_eq_true rfl⟩) (fun rh27 h27 => ?_)
                    refine lv_if_ne (tgt := 117) hx hb dX11_giveTurn_111 (by decide) (fun c28 => ?_) (fun c28 => ?_)
                    · have ic28 := (xi_ne c28 rfl (by decide) : rh27.toInt ≠ 0)
                      refine lv_aload_n hx hb dX11_giveTurn_117 rfl (lv_at hl 2 rfl) ?_
                      refine h_get (v := .ref b18) hx hb hts iX11 hown g t_a0 (by decide) so_12 rfl 5 (by decide) (hts (.fieldLink RX11 53 "CapLeague" "bargain" "LCapLeague$Trade;") (by decide +kernel)) rfl dX11_giveTurn_118 (by show va_rf (z.R a0 5) = _; rw [rb18]; rfl) ?_
                      refine lv_iload hx hb dX11_giveTurn_121 (lv_at hl 1 rfl) ?_
                      refine lv_iload hx hb dX11_giveTurn_123 (lv_at hl 0 rfl) ?_
                      refine lv_iload_n hx hb dX11_giveTurn_125 rfl (lv_at hl 5 rfl) ?_
                      refine lv_iload hx hb dX11_giveTurn_126 (lv_at hl 6 rfl) ?_
                      refine va_calli (va_runV (As := [.int rh13, .int v16, .int c, .int k]) (rest := []) ⟨hx, hb, hml, hown, hts⟩ (tX9_addTurnMove l E X A z I0 L0 b18 tb18 rh13 (rh13.toInt) rfl v16 (v16.toInt) rfl c (c_t) h_c (by omega) k (k_t) h_k) (cwV 4 hts gX11_giveTurn_X9_addTurnMove rfl rfl rfl (by decide +kernel) ⟨Nat.le_of_ble_eq_true rfl, Nat.le_of_ble_eq_true rfl⟩) ⟨h_blind _ _ _ _ _ _ _, h_recv g tb18 (by decide) so_10 (q := (RX9, TX9, 10)) rfl, h_pre _ hE hk hX hA hI hR g⟩ rfl rfl hl.1 rfl (lv_room (Nat.le_of_ble_eq_true rfl)) dX11_giveTurn_128 ⟨Nat.le_of_ble_eq_true rfl, Nat.le_of_ble_eq_true rfl⟩) g.2.1 (fun q _ h => h) (fun q h => h) (fun rh29 I30 t H1 locs ht hvm h29 hB hz1 hk1 hS => ?_)
                      obtain ⟨hI, fh29, h29⟩ := h29
                      replace g := h_after g hB ht hS
                      generalize H1 = H at g
                      clear hB hk1 hz1 ht hvm hS
                      have hF := hF.call fh29 rfl
                      have jrh29 : -2147483648 ≤ rh29.toInt ∧ rh29.toInt ≤ 2147483647 := ⟨xi_lo _, Int.le_of_lt_add_one (xi_hi _)⟩
                      have hS := g.2.1
                      exact W.iret (v := rh29) hx hb hr (fun t ht hW => ⟨⟨rh29, I30, rfl, ⟨hI, hF, trivial⟩, h_ret g ht⟩, hS.F ht⟩) hS.2.2 dX11_giveTurn_131
                    · have ic28 := (xi_eq c28 rfl (by decide) : rh27.toInt = 0)
                      refine lv_bipush (v := (-4)) hx hb dX11_giveTurn_114 (by decide) ?_
                      have hS := g.2.1
                      exact W.iret (v := (-4)) hx hb hr (fun t ht hW => ⟨⟨(-4), I0, rfl, ⟨hI, hF, trivial⟩, h_ret g ht⟩, hS.F ht⟩) hS.2.2 dX11_giveTurn_116
          · have ic12 := (xi_nle c12 h_k (by decide) : 8 < k_t)
            refine lv_bipush (v := (-2)) hx hb dX11_giveTurn_37 (by decide) ?_
            have hS := g.2.1
            exact W.iret (v := (-2)) hx hb hr (fun t ht hW => ⟨⟨(-2), I0, rfl, ⟨hI, hF, trivial⟩, h_ret g ht⟩, hS.F ht⟩) hS.2.2 dX11_giveTurn_39
set_option maxHeartbeats 4000000 in
set_option maxRecDepth 100000 in
theorem tX11_check (l : Launch) (E : tE) (X : tX) (A : Nat → Prop) (z : tZ) (I0 : tI) (L0 : tL) (a0 : Nat) (t_a0 : z.ty a0 = 12) : Met l yX11_check wsX11_check ({ frames := 7, cells := 0, slots := 0, locals := 448 }) (va_Pc [.ref a0] (h_P E X A z I0 L0)) (va_Qi (fun r (I1 : tI) => h_I z I1 ∧ h_F [(2, 0), (2, 1), (2, 2), (2, 3)] z I0 I1 ∧ True) (fun (I1 : tI) t => h_B E A z I1 L0 t) A) 0 0 A := by
  refine Met.ofW (cc := cX11_check) (maxL := 1) (ret := (some .int)) (by decide) rfl ?_
  intro pr_ ev_ s m args below meth cd_ s₁ B hml hv
  obtain ⟨rfl, hE, hk, hX, hA, hK, hI, hR, hB0⟩ := hv
  have g : h_G h_so h_fk E A z I0 L0 s s.heap s.heap [] := ⟨hK, va_S.rf, hB0⟩
  have hF : h_F [(2, 0), (2, 1), (2, 2), (2, 3)] z I0 I0 := h_F.rf
  have hx := B.exec
  have hb := B.bytes
  have hr := B.returns
  have hts := atoms_spec (ws := wsX11_check) B.pre
  have hown : s.vm.findClass RX11 = some m.cls := findClass_of_methodNamed B.named
  have hlocks := B.notSynchronized
  have iX11 : ∀ w ∈ u_ws RX11 TX11 8, w ∈ wsX11_check := by decide +kernel
  have hl := lv_entry ([.ref a0]) (n := 1) (Nat.le_of_ble_eq_true rfl)
  rw [lg_entry_eq]
  generalize (lg_sl ([.ref a0]) ++ List.replicate (1 - (lg_sl ([.ref a0])).length) Slot.unset).toArray = ls at hl ⊢
  have hl : lv_has ls 1 [(0, .ref a0)] := hl
  refine lv_aload_n hx hb dX11_check_0 rfl (lv_at hl 0 rfl) ?_
  obtain ⟨b1, rb1, tb1⟩ := hR.at a0 5 t_a0 (rfl : h_rs 12 5 = some (10, false)) (by decide)
  refine h_get (v := .ref b1) hx hb hts iX11 hown g t_a0 (by decide) so_12 rfl 5 (by decide) (hts (.fieldLink RX11 53 "CapLeague" "bargain" "LCapLeague$Trade;") (by decide +kernel)) rfl dX11_check_1 (by show va_rf (z.R a0 5) = _; rw [rb1]; rfl) ?_
  refine vp_callSi (W.runV (As := []) (rest := []) ⟨hx, hb, hml, hown, hts⟩ (tX9_isEmpty l E X A z I0 L0 b1 tb1) (cwV 0 hts gX11_check_X9_isEmpty rfl rfl rfl (by decide +kernel) ⟨Nat.le_of_ble_eq_true rfl, Nat.le_of_ble_eq_true rfl⟩) ⟨h_blind _ _ _ _ _ _ _, h_recv g tb1 (by decide) so_10 (q := (RX9, TX9, 10)) rfl, h_pre _ hE hk hX hA hI hR g⟩ rfl rfl hl.1 rfl (lv_room (Nat.le_of_ble_eq_true rfl)) dX11_check_4 ⟨Nat.le_of_ble_eq_true rfl, Nat.le_of_ble_eq_true rfl⟩) (fun rh2 h2 => ?_)
  refine lv_if_eq (tgt := 15) hx hb dX11_check_7 (by decide) (fun c3 => ?_) (fun c3 => ?_)
  · have ic3 := (xi_eq c3 rfl (by decide) : rh2.toInt = 0)
    refine lv_aload_n hx hb dX11_check_15 rfl (lv_at hl 0 rfl) ?_
    refine h_get (v := .ref b1) hx hb hts iX11 hown g t_a0 (by decide) so_12 rfl 5 (by decide) (hts (.fieldLink RX11 53 "CapLeague" "bargain" "LCapLeague$Trade;") (by decide +kernel)) rfl dX11_check_16 (by show va_rf (z.R a0 5) = _; rw [rb1]; rfl) ?_
    refine va_calli (va_runV (As := []) (rest := []) ⟨hx, hb, hml, hown, hts⟩ (tX9_firstFault l E X A z I0 L0 b1 tb1) (cwV 0 hts gX11_check_X9_firstFault rfl rfl rfl (by decide +kernel) ⟨Nat.le_of_ble_eq_true rfl, Nat.le_of_ble_eq_true rfl⟩) ⟨h_blind _ _ _ _ _ _ _, h_recv g tb1 (by decide) so_10 (q := (RX9, TX9, 10)) rfl, h_pre _ hE hk hX hA hI hR g⟩ rfl rfl hl.1 rfl (lv_room (Nat.le_of_ble_eq_true rfl)) dX11_check_19 ⟨Nat.le_of_ble_eq_true rfl, Nat.le_of_ble_eq_true rfl⟩) g.2.1 (fun q _ h => h) (fun q h => h) (fun rh4 I5 t H1 locs ht hvm h4 hB hz1 hk1 hS => ?_)
    obtain ⟨hI, fh4, h4⟩ := h4
    replace g := h_after g hB ht hS
    generalize H1 = H at g
    clear hB hk1 hz1 ht hvm hS
    have hF := hF.call fh4 rfl
    have jrh4 : -2147483648 ≤ rh4.toInt ∧ rh4.toInt ≤ 2147483647 := ⟨xi_lo _, Int.le_of_lt_add_one (xi_hi _)⟩
    have hS := g.2.1
    exact W.iret (v := rh4) hx hb hr (fun t ht hW => ⟨⟨rh4, I5, rfl, ⟨hI, hF, trivial⟩, h_ret g ht⟩, hS.F ht⟩) hS.2.2 dX11_check_22
  · have ic3 := (xi_ne c3 rfl (by decide) : rh2.toInt ≠ 0)
    refine lv_bipush (v := (-4)) hx hb dX11_check_10 (by decide) ?_
    refine lv_goto (tgt := 22) hx hb dX11_check_12 (by decide) ?_
    have hS := g.2.1
    exact W.iret (v := (-4)) hx hb hr (fun t ht hW => ⟨⟨(-4), I0, rfl, ⟨hI, hF, trivial⟩, h_ret g ht⟩, hS.F ht⟩) hS.2.2 dX11_check_22
set_option maxHeartbeats 4000000 in
set_option maxRecDepth 100000 in
theorem tX11_gain (l : Launch) (E : tE) (X : tX) (A : Nat → Prop) (z : tZ) (I0 : tI) (L0 : tL) (a0 : Nat) (t_a0 : z.ty a0 = 12) (c : Int32) (c_t : Int) (h_c : c.toInt = c_t) : Met l yX11_gain wsX11_gain ({ frames := 4, cells := 0, slots := 0, locals := 256 }) (va_Pc [.ref a0, .int c] (h_P E X A z I0 L0)) (vp_Si (fun r => True)) 0 0 (fun _ => False) := by
  refine Met.ofW (cc := cX11_gain) (maxL := 2) (ret := (some .int)) (by decide) rfl ?_
  intro pr_ ev_ s m args below meth cd_ s₁ B hml hv
  obtain ⟨rfl, hE, hk, hX, hA, hK, hI, hR, hB0⟩ := hv
  have g : h_G h_so h_fk E A z I0 L0 s s.heap s.heap [] := ⟨hK, va_S.rf, hB0⟩
  have hx := B.exec
  have hb := B.bytes
  have hr := B.returns
  have hts := atoms_spec (ws := wsX11_gain) B.pre
  have hown : s.vm.findClass RX11 = some m.cls := findClass_of_methodNamed B.named
  have hlocks := B.notSynchronized
  have iX11 : ∀ w ∈ u_ws RX11 TX11 8, w ∈ wsX11_gain := by decide +kernel
  have hl := lv_entry ([.ref a0, .int c]) (n := 2) (Nat.le_of_ble_eq_true rfl)
  rw [lg_entry_eq]
  generalize (lg_sl ([.ref a0, .int c]) ++ List.replicate (2 - (lg_sl ([.ref a0, .int c])).length) Slot.unset).toArray = ls at hl ⊢
  have hl : lv_has ls 2 [(0, .ref a0), (1, .int c)] := hl
  have b_c : -2147483648 ≤ c_t ∧ c_t ≤ 2147483647 := h_c ▸ ⟨xi_lo c, Int.le_of_lt_add_one (xi_hi c)⟩
  refine lv_iload_n hx hb dX11_gain_0 rfl (lv_at hl 1 rfl) ?_
  refine vp_callSi (W.runS (As := [.int c]) (rest := []) ⟨hx, hb, hml, hown, hts⟩ (tX11_isClub l E X A z I0 L0 c (c_t) h_c) (va_cwS 1 hts gX11_gain_X11_isClub rfl rfl rfl (by decide +kernel) ⟨Nat.le_of_ble_eq_true rfl, Nat.le_of_ble_eq_true rfl⟩) ⟨h_blind _ _ _ _ _ _ _, h_pre _ hE hk hX hA hI hR g⟩ rfl rfl hl.1 rfl (lv_room (Nat.le_of_ble_eq_true rfl)) dX11_gain_1 ⟨Nat.le_of_ble_eq_true rfl, Nat.le_of_ble_eq_true rfl⟩) (fun rh1 h1 => ?_)
  rcases h1 with ⟨rfl, h1⟩ | ⟨rfl, h1⟩
  · skip
    refine lv_if_eq (tgt := 18) hx hb dX11_gain_4 (by decide) (fun _ => ?_) (fun h => absurd (by decide) h)
    refine lv_ldc (v := (-2000000000)) hx hb hown (hts (.constant RX11 232 (-2000000000)) (by decide +kernel)) dX11_gain_18 ?_
    exact W.iret (v := (-2000000000)) hx hb hr (fun t ht hW => ⟨(-2000000000), rfl, trivial, ht⟩) (fun _ h => by cases h) dX11_gain_20
  · skip
    refine lv_if_eq (tgt := 18) hx hb dX11_gain_4 (by decide) (fun h => absurd h (by decide)) (fun _ => ?_)
    refine lv_aload_n hx hb dX11_gain_7 rfl (lv_at hl 0 rfl) ?_
    obtain ⟨b4, rb4, tb4⟩ := hR.at a0 5 t_a0 (rfl : h_rs 12 5 = some (10, false)) (by decide)
    refine h_get (v := .ref b4) hx hb hts iX11 hown g t_a0 (by decide) so_12 rfl 5 (by decide) (hts (.fieldLink RX11 53 "CapLeague" "bargain" "LCapLeague$Trade;") (by decide +kernel)) rfl dX11_gain_8 (by show va_rf (z.R a0 5) = _; rw [rb4]; rfl) ?_
    refine lv_iload_n hx hb dX11_gain_11 rfl (lv_at hl 1 rfl) ?_
    refine vp_callSi (W.runV (As := [.int c]) (rest := []) ⟨hx, hb, hml, hown, hts⟩ (tX9_gainOf l E X A z I0 L0 b4 tb4 c (c_t) h_c (by omega)) (cwV 1 hts gX11_gain_X9_gainOf rfl rfl rfl (by decide +kernel) ⟨Nat.le_of_ble_eq_true rfl, Nat.le_of_ble_eq_true rfl⟩) ⟨h_blind _ _ _ _ _ _ _, h_recv g tb4 (by decide) so_10 (q := (RX9, TX9, 10)) rfl, h_pre _ hE hk hX hA hI hR g⟩ rfl rfl hl.1 rfl (lv_room (Nat.le_of_ble_eq_true rfl)) dX11_gain_12 ⟨Nat.le_of_ble_eq_true rfl, Nat.le_of_ble_eq_true rfl⟩) (fun rh5 h5 => ?_)
    have jrh5 : -2147483648 ≤ rh5.toInt ∧ rh5.toInt ≤ 2147483647 := ⟨xi_lo _, Int.le_of_lt_add_one (xi_hi _)⟩
    refine lv_goto (tgt := 20) hx hb dX11_gain_15 (by decide) ?_
    exact W.iret (v := rh5) hx hb hr (fun t ht hW => ⟨rh5, rfl, trivial, ht⟩) (fun _ h => by cases h) dX11_gain_20
set_option maxHeartbeats 4000000 in
set_option maxRecDepth 100000 in
theorem tX11_deal (l : Launch) (E : tE) (X : tX) (A : Nat → Prop) (z : tZ) (I0 : tI) (L0 : tL) (a0 : Nat) (t_a0 : z.ty a0 = 12) : Met l yX11_deal wsX11_deal ({ frames := 7, cells := 0, slots := 0, locals := 448 }) (va_Pc [.ref a0] (h_P E X A z I0 L0)) (va_Qi (fun r (I1 : tI) => h_I z I1 ∧ h_F [(2, 0), (2, 1), (2, 2), (2, 3), (10, 3), (10, 4), (1102, 999), (1100, 999), (1101, 999), (7, 0)] z I0 I1 ∧ True) (fun (I1 : tI) t => h_B E A z I1 L0 t) A) 0 0 A := by
  refine Met.ofW (cc := cX11_deal) (maxL := 1) (ret := (some .int)) (by decide) rfl ?_
  intro pr_ ev_ s m args below meth cd_ s₁ B hml hv
  obtain ⟨rfl, hE, hk, hX, hA, hK, hI, hR, hB0⟩ := hv
  have g : h_G h_so h_fk E A z I0 L0 s s.heap s.heap [] := ⟨hK, va_S.rf, hB0⟩
  have hF : h_F [(2, 0), (2, 1), (2, 2), (2, 3), (10, 3), (10, 4), (1102, 999), (1100, 999), (1101, 999), (7, 0)] z I0 I0 := h_F.rf
  have hx := B.exec
  have hb := B.bytes
  have hr := B.returns
  have hts := atoms_spec (ws := wsX11_deal) B.pre
  have hown : s.vm.findClass RX11 = some m.cls := findClass_of_methodNamed B.named
  have hlocks := B.notSynchronized
  have iX11 : ∀ w ∈ u_ws RX11 TX11 8, w ∈ wsX11_deal := by decide +kernel
  have hl := lv_entry ([.ref a0]) (n := 1) (Nat.le_of_ble_eq_true rfl)
  rw [lg_entry_eq]
  generalize (lg_sl ([.ref a0]) ++ List.replicate (1 - (lg_sl ([.ref a0])).length) Slot.unset).toArray = ls at hl ⊢
  have hl : lv_has ls 1 [(0, .ref a0)] := hl
  refine lv_aload_n hx hb dX11_deal_0 rfl (lv_at hl 0 rfl) ?_
  obtain ⟨b1, rb1, tb1⟩ := hR.at a0 5 t_a0 (rfl : h_rs 12 5 = some (10, false)) (by decide)
  refine h_get (v := .ref b1) hx hb hts iX11 hown g t_a0 (by decide) so_12 rfl 5 (by decide) (hts (.fieldLink RX11 53 "CapLeague" "bargain" "LCapLeague$Trade;") (by decide +kernel)) rfl dX11_deal_1 (by show va_rf (z.R a0 5) = _; rw [rb1]; rfl) ?_
  refine vp_callSi (W.runV (As := []) (rest := []) ⟨hx, hb, hml, hown, hts⟩ (tX9_isEmpty l E X A z I0 L0 b1 tb1) (cwV 0 hts gX11_deal_X9_isEmpty rfl rfl rfl (by decide +kernel) ⟨Nat.le_of_ble_eq_true rfl, Nat.le_of_ble_eq_true rfl⟩) ⟨h_blind _ _ _ _ _ _ _, h_recv g tb1 (by decide) so_10 (q := (RX9, TX9, 10)) rfl, h_pre _ hE hk hX hA hI hR g⟩ rfl rfl hl.1 rfl (lv_room (Nat.le_of_ble_eq_true rfl)) dX11_deal_4 ⟨Nat.le_of_ble_eq_true rfl, Nat.le_of_ble_eq_true rfl⟩) (fun rh2 h2 => ?_)
  refine lv_if_eq (tgt := 13) hx hb dX11_deal_7 (by decide) (fun c3 => ?_) (fun c3 => ?_)
  · have ic3 := (xi_eq c3 rfl (by decide) : rh2.toInt = 0)
    refine lv_aload_n hx hb dX11_deal_13 rfl (lv_at hl 0 rfl) ?_
    refine h_get (v := .ref b1) hx hb hts iX11 hown g t_a0 (by decide) so_12 rfl 5 (by decide) (hts (.fieldLink RX11 53 "CapLeague" "bargain" "LCapLeague$Trade;") (by decide +kernel)) rfl dX11_deal_14 (by show va_rf (z.R a0 5) = _; rw [rb1]; rfl) ?_
    refine va_calli (va_runV (As := []) (rest := []) ⟨hx, hb, hml, hown, hts⟩ (tX9_firstFault l E X A z I0 L0 b1 tb1) (cwV 0 hts gX11_deal_X9_firstFault rfl rfl rfl (by decide +kernel) ⟨Nat.le_of_ble_eq_true rfl, Nat.le_of_ble_eq_true rfl⟩) ⟨h_blind _ _ _ _ _ _ _, h_recv g tb1 (by decide) so_10 (q := (RX9, TX9, 10)) rfl, h_pre _ hE hk hX hA hI hR g⟩ rfl rfl hl.1 rfl (lv_room (Nat.le_of_ble_eq_true rfl)) dX11_deal_17 ⟨Nat.le_of_ble_eq_true rfl, Nat.le_of_ble_eq_true rfl⟩) g.2.1 (fun q _ h => h) (fun q h => h) (fun rh4 I5 t H1 locs ht hvm h4 hB hz1 hk1 hS => ?_)
    obtain ⟨hI, fh4, h4⟩ := h4
    replace g := h_after g hB ht hS
    generalize H1 = H at g
    clear hB hk1 hz1 ht hvm hS
    have hF := hF.call fh4 rfl
    have jrh4 : -2147483648 ≤ rh4.toInt ∧ rh4.toInt ≤ 2147483647 := ⟨xi_lo _, Int.le_of_lt_add_one (xi_hi _)⟩
    refine lv_if_ne (tgt := 33) hx hb dX11_deal_20 (by decide) (fun c6 => ?_) (fun c6 => ?_)
    · have ic6 := (xi_ne c6 rfl (by decide) : rh4.toInt ≠ 0)
      refine lv_iconst (v := 0) hx hb dX11_deal_33 (by decide) ?_
      have hS := g.2.1
      exact W.iret (v := 0) hx hb hr (fun t ht hW => ⟨⟨0, I5, rfl, ⟨hI, hF, trivial⟩, h_ret g ht⟩, hS.F ht⟩) hS.2.2 dX11_deal_34
    · have ic6 := (xi_eq c6 rfl (by decide) : rh4.toInt = 0)
      refine lv_aload_n hx hb dX11_deal_23 rfl (lv_at hl 0 rfl) ?_
      refine h_get (v := .ref b1) hx hb hts iX11 hown g t_a0 (by decide) so_12 rfl 5 (by decide) (hts (.fieldLink RX11 53 "CapLeague" "bargain" "LCapLeague$Trade;") (by decide +kernel)) rfl dX11_deal_24 (by show va_rf (z.R a0 5) = _; rw [rb1]; rfl) ?_
      refine va_calli (va_runV (As := []) (rest := []) ⟨hx, hb, hml, hown, hts⟩ (tX9_carryOut l E X A z I5 L0 b1 tb1) (cwV 0 hts gX11_deal_X9_carryOut rfl rfl rfl (by decide +kernel) ⟨Nat.le_of_ble_eq_true rfl, Nat.le_of_ble_eq_true rfl⟩) ⟨h_blind _ _ _ _ _ _ _, h_recv g tb1 (by decide) so_10 (q := (RX9, TX9, 10)) rfl, h_pre _ hE hk hX hA hI hR g⟩ rfl rfl hl.1 rfl (lv_room (Nat.le_of_ble_eq_true rfl)) dX11_deal_27 ⟨Nat.le_of_ble_eq_true rfl, Nat.le_of_ble_eq_true rfl⟩) g.2.1 (fun q _ h => h) (fun q h => h) (fun rh7 I8 t H1 locs ht hvm h7 hB hz1 hk1 hS => ?_)
      obtain ⟨hI, fh7, h7⟩ := h7
      replace g := h_after g hB ht hS
      generalize H1 = H at g
      clear hB hk1 hz1 ht hvm hS
      have hF := hF.call fh7 rfl
      have jrh7 : -2147483648 ≤ rh7.toInt ∧ rh7.toInt ≤ 2147483647 := ⟨xi_lo _, Int.le_of_lt_add_one (xi_hi _)⟩
      refine lv_goto (tgt := 34) hx hb dX11_deal_30 (by decide) ?_
      have hS := g.2.1
      exact W.iret (v := rh7) hx hb hr (fun t ht hW => ⟨⟨rh7, I8, rfl, ⟨hI, hF, trivial⟩, h_ret g ht⟩, hS.F ht⟩) hS.2.2 dX11_deal_34
  · have ic3 := (xi_ne c3 rfl (by decide) : rh2.toInt ≠ 0)
    refine lv_bipush (v := (-4)) hx hb dX11_deal_10 (by decide) ?_
    have hS := g.2.1
    exact W.iret (v := (-4)) hx hb hr (fun t ht hW => ⟨⟨(-4), I0, rfl, ⟨hI, hF, trivial⟩, h_ret g ht⟩, hS.F ht⟩) hS.2.2 dX11_deal_12
set_option maxHeartbeats 4000000 in
set_option maxRecDepth 100000 in
theorem tX11_worth (l : Launch) (E : tE) (X : tX) (A : Nat → Prop) (z : tZ) (I0 : tI) (L0 : tL) (a0 : Nat) (t_a0 : z.ty a0 = 12) (c : Int32) (c_t : Int) (h_c : c.toInt = c_t) (p : Int32) (p_t : Int) (h_p : p.toInt = p_t) (n : Int32) (n_t : Int) (h_n : n.toInt = n_t) : Met l yX11_worth wsX11_worth ({ frames := 2, cells := 0, slots := 0, locals := 128 }) (va_Pc [.ref a0, .int c, .int p, .int n] (h_P E X A z I0 L0)) (va_Qi (fun r (I1 : tI) => h_I z I1 ∧ h_F [(708, 999)] z I0 I1 ∧ True) (fun (I1 : tI) t => h_B E A z I1 L0 t) A) 0 0 A := by
  refine Met.ofW (cc := cX11_worth) (maxL := 6) (ret := (some .int)) (by decide) rfl ?_
  intro pr_ ev_ s m args below meth cd_ s₁ B hml hv
  obtain ⟨rfl, hE, hk, hX, hA, hK, hI, hR, hB0⟩ := hv
  have g : h_G h_so h_fk E A z I0 L0 s s.heap s.heap [] := ⟨hK, va_S.rf, hB0⟩
  have hF : h_F [(708, 999)] z I0 I0 := h_F.rf
  have hx := B.exec
  have hb := B.bytes
  have hr := B.returns
  have hts := atoms_spec (ws := wsX11_worth) B.pre
  have hown : s.vm.findClass RX11 = some m.cls := findClass_of_methodNamed B.named
  have hlocks := B.notSynchronized
  have iX11 : ∀ w ∈ u_ws RX11 TX11 8, w ∈ wsX11_worth := by decide +kernel
  have iX6 : ∀ w ∈ u_ws RX6 TX6 9, w ∈ wsX11_worth := by decide +kernel
  have hl := lv_entry ([.ref a0, .int c, .int p, .int n]) (n := 6) (Nat.le_of_ble_eq_true rfl)
  rw [lg_entry_eq]
  generalize (lg_sl ([.ref a0, .int c, .int p, .int n]) ++ List.replicate (6 - (lg_sl ([.ref a0, .int c, .int p, .int n])).length) Slot.unset).toArray = ls at hl ⊢
  have hl : lv_has ls 6 [(0, .ref a0), (1, .int c), (2, .int p), (3, .int n)] := hl
  have b_c : -2147483648 ≤ c_t ∧ c_t ≤ 2147483647 := h_c ▸ ⟨xi_lo c, Int.le_of_lt_add_one (xi_hi c)⟩
  have b_p : -2147483648 ≤ p_t ∧ p_t ≤ 2147483647 := h_p ▸ ⟨xi_lo p, Int.le_of_lt_add_one (xi_hi p)⟩
  have b_n : -2147483648 ≤ n_t ∧ n_t ≤ 2147483647 := h_n ▸ ⟨xi_lo n, Int.le_of_lt_add_one (xi_hi n)⟩
  refine lv_aload_n hx hb dX11_worth_0 rfl (lv_at hl 0 rfl) ?_
  obtain ⟨b1, rb1, tb1⟩ := hR.at a0 3 t_a0 (rfl : h_rs 12 3 = some (1, false)) (by decide)
  refine h_get (v := .ref b1) hx hb hts iX11 hown g t_a0 (by decide) so_12 rfl 3 (by decide) (hts (.fieldLink RX11 37 "CapLeague" "books" "LCapLeague$Books;") (by decide +kernel)) rfl dX11_worth_1 (by show va_rf (z.R a0 3) = _; rw [rb1]; rfl) ?_
  refine lv_iload_n hx hb dX11_worth_4 rfl (lv_at hl 2 rfl) ?_
  refine va_csq (W.runV (As := [.int p]) (rest := []) ⟨hx, hb, hml, hown, hts⟩ (tX0_playerAt l E X A z I0 L0 b1 tb1 p (p_t) h_p) (cwV 1 hts gX11_worth_X0_playerAt rfl rfl rfl (by decide +kernel) ⟨Nat.le_of_ble_eq_true rfl, Nat.le_of_ble_eq_true rfl⟩) ⟨h_blind _ _ _ _ _ _ _, h_recv g tb1 (by decide) so_1 (q := (RX0, TX0, 9)) rfl, h_pre _ hE hk hX hA hI hR g⟩ rfl rfl hl.1 rfl (lv_room (Nat.le_of_ble_eq_true rfl)) dX11_worth_5 ⟨Nat.le_of_ble_eq_true rfl, Nat.le_of_ble_eq_true rfl⟩) (fun rh2 h2 => ?_)
  rcases h2 with rfl | ⟨rh2, rfl, trh2⟩
  · refine xw_v (v := .null) rfl ?_
    refine lv_astoreN (lv' := [(4, .null), (0, .ref a0), (1, .int c), (2, .int p), (3, .int n)]) hx hb dX11_worth_8 hl (by decide) rfl (fun ls hl => ?_)
    refine lv_aloadN hx hb dX11_worth_10 (lv_at hl 0 rfl) ?_
    refine lv_ifnullN (tgt := 29) hx hb dX11_worth_12 (by decide) ?_
    refine lv_bipush (v := (-2)) hx hb dX11_worth_29 (by decide) ?_
    have hS := g.2.1
    exact W.iret (v := (-2)) hx hb hr (fun t ht hW => ⟨⟨(-2), I0, rfl, ⟨hI, hF, trivial⟩, h_ret g ht⟩, hS.F ht⟩) hS.2.2 dX11_worth_31
  · refine xw_v (v := .ref rh2) rfl ?_
    refine lv_astore (lv' := [(4, .ref rh2), (0, .ref a0), (1, .int c), (2, .int p), (3, .int n)]) hx hb dX11_worth_8 hl (by decide) rfl (fun ls hl => ?_)
    refine lv_aload hx hb dX11_worth_10 (lv_at hl 0 rfl) ?_
    refine lv_ifnull hx hb dX11_worth_12 ?_
    refine lv_iload_n hx hb dX11_worth_15 rfl (lv_at hl 2 rfl) ?_
    refine vp_callSi (W.runS (As := [.int c]) (rest := []) ⟨hx, hb, hml, hown, hts⟩ (tX11_isClub l E X A z I0 L0 c (c_t) h_c) (va_cwS 1 hts gX11_worth_X11_isClub rfl rfl rfl (by decide +kernel) ⟨Nat.le_of_ble_eq_true rfl, Nat.le_of_ble_eq_true rfl⟩) ⟨h_blind _ _ _ _ _ _ _, h_pre _ hE hk hX hA hI hR g⟩ rfl rfl hl.1 rfl (lv_room (Nat.le_of_ble_eq_true rfl)) dX11_worth_16 ⟨Nat.le_of_ble_eq_true rfl, Nat.le_of_ble_eq_true rfl⟩) (fun rh3 h3 => ?_)
    rcases h3 with ⟨rfl, h3⟩ | ⟨rfl, h3⟩
    · skip
      refine lv_if_eq (tgt := 29) hx hb dX11_worth_19 (by decide) (fun _ => ?_) (fun h => absurd (by decide) h)
      refine lv_bipush (v := (-2)) hx hb dX11_worth_29 (by decide) ?_
      have hS := g.2.1
      exact W.iret (v := (-2)) hx hb hr (fun t ht hW => ⟨⟨(-2), I0, rfl, ⟨hI, hF, trivial⟩, h_ret g ht⟩, hS.F ht⟩) hS.2.2 dX11_worth_31
    · skip
      refine lv_if_eq (tgt := 29) hx hb dX11_worth_19 (by decide) (fun h => absurd h (by decide)) (fun _ => ?_)
      refine lv_iload_n hx hb dX11_worth_22 rfl (lv_at hl 4 rfl) ?_
      refine vp_callSi (W.runS (As := [.int n]) (rest := []) ⟨hx, hb, hml, hown, hts⟩ (tX11_isWorth l E X A z I0 L0 n (n_t) h_n) (va_cwS 1 hts gX11_worth_X11_isWorth rfl rfl rfl (by decide +kernel) ⟨Nat.le_of_ble_eq_true rfl, Nat.le_of_ble_eq_true rfl⟩) ⟨h_blind _ _ _ _ _ _ _, h_pre _ hE hk hX hA hI hR g⟩ rfl rfl hl.1 rfl (lv_room (Nat.le_of_ble_eq_true rfl)) dX11_worth_23 ⟨Nat.le_of_ble_eq_true rfl, Nat.le_of_ble_eq_true rfl⟩) (fun rh6 h6 => ?_)
      rcases h6 with ⟨rfl, h6⟩ | ⟨rfl, h6⟩
      · skip
        refine lv_if_ne (tgt := 32) hx hb dX11_worth_26 (by decide) (fun h => absurd (by decide) h) (fun _ => ?_)
        refine lv_bipush (v := (-2)) hx hb dX11_worth_29 (by decide) ?_
        have hS := g.2.1
        exact W.iret (v := (-2)) hx hb hr (fun t ht hW => ⟨⟨(-2), I0, rfl, ⟨hI, hF, trivial⟩, h_ret g ht⟩, hS.F ht⟩) hS.2.2 dX11_worth_31
      · skip
        refine lv_if_ne (tgt := 32) hx hb dX11_worth_26 (by decide) (fun _ => ?_) (fun h => absurd h (by decide))
        refine lv_aload hx hb dX11_worth_32 (lv_at hl 0 rfl) ?_
        obtain ⟨b9, rb9, tb9⟩ := hR.at rh2 8 trh2 (rfl : h_rs 7 8 = some (708, false)) (by decide)
        refine h_get (v := .ref b9) hx hb hts iX6 hown g trh2 (by decide) so_7 rfl 8 (by decide) (hts (.fieldLink RX11 239 "CapLeague$Player" "worths" "[I") (by decide +kernel)) rfl dX11_worth_34 (by show va_rf (z.R rh2 8) = _; rw [rb9]; rfl) ?_
        refine lv_iload_n hx hb dX11_worth_37 rfl (lv_at hl 2 rfl) ?_
        refine h_ald hx hb g tb9 (by decide) so_708 (xi_in (by rw [h_c]; omega) (by rw [h_c]; omega)) dX11_worth_38 ?_
        refine lv_topi (fun v10 ev10 => ?_)
        have jv10 := hI.rd b9 c.toNatClampNeg tb9 ev10 (rfl : h_bd 708 _ = ((-2147483648), 2147483647))
        refine lv_istore (lv' := [(5, .int v10), (4, .ref rh2), (0, .ref a0), (1, .int c), (2, .int p), (3, .int n)]) hx hb dX11_worth_39 hl (by decide) rfl (fun ls hl => ?_)
        refine lv_aload hx hb dX11_worth_41 (lv_at hl 1 rfl) ?_
        refine h_get (v := .ref b9) hx hb hts iX6 hown g trh2 (by decide) so_7 rfl 8 (by decide) (hts (.fieldLink RX11 239 "CapLeague$Player" "worths" "[I") (by decide +kernel)) rfl dX11_worth_43 (by show va_rf (z.R rh2 8) = _; rw [rb9]; rfl) ?_
        refine lv_iload_n hx hb dX11_worth_46 rfl (lv_at hl 3 rfl) ?_
        refine lv_iload_n hx hb dX11_worth_47 rfl (lv_at hl 5 rfl) ?_
        refine h_ast hx hb g tb9 (by decide) so_708 (xi_in (by rw [h_c]; omega) (by rw [h_c]; omega)) dX11_worth_48 (fun I11 H locs eI11 g => ?_)
        have hI := hI.wr eI11 tb9 (rfl : h_bd 708 _ = ((-2147483648), 2147483647)) (xi_lo _) (Int.le_of_lt_add_one (xi_hi _))
        have hF := hF.wr eI11 tb9 rfl
        refine lv_iload hx hb dX11_worth_49 (lv_at hl 0 rfl) ?_
        have hS := g.2.1
        exact W.iret (v := v10) hx hb hr (fun t ht hW => ⟨⟨v10, I11, rfl, ⟨hI, hF, trivial⟩, h_ret g ht⟩, hS.F ht⟩) hS.2.2 dX11_worth_51
set_option maxHeartbeats 4000000 in
set_option maxRecDepth 100000 in
theorem tX11_worthTurn (l : Launch) (E : tE) (X : tX) (A : Nat → Prop) (z : tZ) (I0 : tI) (L0 : tL) (a0 : Nat) (t_a0 : z.ty a0 = 12) (c : Int32) (c_t : Int) (h_c : c.toInt = c_t) (o : Int32) (o_t : Int) (h_o : o.toInt = o_t) (y : Int32) (y_t : Int) (h_y : y.toInt = y_t) (n : Int32) (n_t : Int) (h_n : n.toInt = n_t) : Met l yX11_worthTurn wsX11_worthTurn ({ frames := 2, cells := 0, slots := 0, locals := 128 }) (va_Pc [.ref a0, .int c, .int o, .int y, .int n] (h_P E X A z I0 L0)) (va_Qi (fun r (I1 : tI) => h_I z I1 ∧ h_F [(1153, 999)] z I0 I1 ∧ True) (fun (I1 : tI) t => h_B E A z I1 L0 t) A) 0 0 A := by
  refine Met.ofW (cc := cX11_worthTurn) (maxL := 7) (ret := (some .int)) (by decide) rfl ?_
  intro pr_ ev_ s m args below meth cd_ s₁ B hml hv
  obtain ⟨rfl, hE, hk, hX, hA, hK, hI, hR, hB0⟩ := hv
  have g : h_G h_so h_fk E A z I0 L0 s s.heap s.heap [] := ⟨hK, va_S.rf, hB0⟩
  have hF : h_F [(1153, 999)] z I0 I0 := h_F.rf
  have hx := B.exec
  have hb := B.bytes
  have hr := B.returns
  have hts := atoms_spec (ws := wsX11_worthTurn) B.pre
  have hown : s.vm.findClass RX11 = some m.cls := findClass_of_methodNamed B.named
  have hlocks := B.notSynchronized
  have iX11 : ∀ w ∈ u_ws RX11 TX11 8, w ∈ wsX11_worthTurn := by decide +kernel
  have iX10 : ∀ w ∈ u_ws RX10 TX10 4, w ∈ wsX11_worthTurn := by decide +kernel
  have hl := lv_entry ([.ref a0, .int c, .int o, .int y, .int n]) (n := 7) (Nat.le_of_ble_eq_true rfl)
  rw [lg_entry_eq]
  generalize (lg_sl ([.ref a0, .int c, .int o, .int y, .int n]) ++ List.replicate (7 - (lg_sl ([.ref a0, .int c, .int o, .int y, .int n])).length) Slot.unset).toArray = ls at hl ⊢
  have hl : lv_has ls 7 [(0, .ref a0), (1, .int c), (2, .int o), (3, .int y), (4, .int n)] := hl
  have b_c : -2147483648 ≤ c_t ∧ c_t ≤ 2147483647 := h_c ▸ ⟨xi_lo c, Int.le_of_lt_add_one (xi_hi c)⟩
  have b_o : -2147483648 ≤ o_t ∧ o_t ≤ 2147483647 := h_o ▸ ⟨xi_lo o, Int.le_of_lt_add_one (xi_hi o)⟩
  have b_y : -2147483648 ≤ y_t ∧ y_t ≤ 2147483647 := h_y ▸ ⟨xi_lo y, Int.le_of_lt_add_one (xi_hi y)⟩
  have b_n : -2147483648 ≤ n_t ∧ n_t ≤ 2147483647 := h_n ▸ ⟨xi_lo n, Int.le_of_lt_add_one (xi_hi n)⟩
  refine lv_iload_n hx hb dX11_worthTurn_0 rfl (lv_at hl 1 rfl) ?_
  refine vp_callSi (W.runS (As := [.int c]) (rest := []) ⟨hx, hb, hml, hown, hts⟩ (tX11_isClub l E X A z I0 L0 c (c_t) h_c) (va_cwS 1 hts gX11_worthTurn_X11_isClub rfl rfl rfl (by decide +kernel) ⟨Nat.le_of_ble_eq_true rfl, Nat.le_of_ble_eq_true rfl⟩) ⟨h_blind _ _ _ _ _ _ _, h_pre _ hE hk hX hA hI hR g⟩ rfl rfl hl.1 rfl (lv_room (Nat.le_of_ble_eq_true rfl)) dX11_worthTurn_1 ⟨Nat.le_of_ble_eq_true rfl, Nat.le_of_ble_eq_true rfl⟩) (fun rh1 h1 => ?_)
  rcases h1 with ⟨rfl, h1⟩ | ⟨rfl, h1⟩
  · skip
    refine lv_if_eq (tgt := 29) hx hb dX11_worthTurn_4 (by decide) (fun _ => ?_) (fun h => absurd (by decide) h)
    refine lv_bipush (v := (-2)) hx hb dX11_worthTurn_29 (by decide) ?_
    have hS := g.2.1
    exact W.iret (v := (-2)) hx hb hr (fun t ht hW => ⟨⟨(-2), I0, rfl, ⟨hI, hF, trivial⟩, h_ret g ht⟩, hS.F ht⟩) hS.2.2 dX11_worthTurn_31
  · skip
    refine lv_if_eq (tgt := 29) hx hb dX11_worthTurn_4 (by decide) (fun h => absurd h (by decide)) (fun _ => ?_)
    refine lv_iload_n hx hb dX11_worthTurn_7 rfl (lv_at hl 2 rfl) ?_
    refine vp_callSi (W.runS (As := [.int o]) (rest := []) ⟨hx, hb, hml, hown, hts⟩ (tX11_isClub l E X A z I0 L0 o (o_t) h_o) (va_cwS 1 hts gX11_worthTurn_X11_isClub rfl rfl rfl (by decide +kernel) ⟨Nat.le_of_ble_eq_true rfl, Nat.le_of_ble_eq_true rfl⟩) ⟨h_blind _ _ _ _ _ _ _, h_pre _ hE hk hX hA hI hR g⟩ rfl rfl hl.1 rfl (lv_room (Nat.le_of_ble_eq_true rfl)) dX11_worthTurn_8 ⟨Nat.le_of_ble_eq_true rfl, Nat.le_of_ble_eq_true rfl⟩) (fun rh4 h4 => ?_)
    rcases h4 with ⟨rfl, h4⟩ | ⟨rfl, h4⟩
    · skip
      refine lv_if_eq (tgt := 29) hx hb dX11_worthTurn_11 (by decide) (fun _ => ?_) (fun h => absurd (by decide) h)
      refine lv_bipush (v := (-2)) hx hb dX11_worthTurn_29 (by decide) ?_
      have hS := g.2.1
      exact W.iret (v := (-2)) hx hb hr (fun t ht hW => ⟨⟨(-2), I0, rfl, ⟨hI, hF, trivial⟩, h_ret g ht⟩, hS.F ht⟩) hS.2.2 dX11_worthTurn_31
    · skip
      refine lv_if_eq (tgt := 29) hx hb dX11_worthTurn_11 (by decide) (fun h => absurd h (by decide)) (fun _ => ?_)
      refine lv_iload_n hx hb dX11_worthTurn_14 rfl (lv_at hl 3 rfl) ?_
      refine vp_callSi (W.runS (As := [.int y]) (rest := []) ⟨hx, hb, hml, hown, hts⟩ (tX11_isYear l E X A z I0 L0 y (y_t) h_y) (va_cwS 1 hts gX11_worthTurn_X11_isYear rfl rfl rfl (by decide +kernel) ⟨Nat.le_of_ble_eq_true rfl, Nat.le_of_ble_eq_true rfl⟩) ⟨h_blind _ _ _ _ _ _ _, h_pre _ hE hk hX hA hI hR g⟩ rfl rfl hl.1 rfl (lv_room (Nat.le_of_ble_eq_true rfl)) dX11_worthTurn_15 ⟨Nat.le_of_ble_eq_true rfl, Nat.le_of_ble_eq_true rfl⟩) (fun rh7 h7 => ?_)
      rcases h7 with ⟨rfl, h7⟩ | ⟨rfl, h7⟩
      · skip
        refine lv_if_eq (tgt := 29) hx hb dX11_worthTurn_18 (by decide) (fun _ => ?_) (fun h => absurd (by decide) h)
        refine lv_bipush (v := (-2)) hx hb dX11_worthTurn_29 (by decide) ?_
        have hS := g.2.1
        exact W.iret (v := (-2)) hx hb hr (fun t ht hW => ⟨⟨(-2), I0, rfl, ⟨hI, hF, trivial⟩, h_ret g ht⟩, hS.F ht⟩) hS.2.2 dX11_worthTurn_31
      · skip
        refine lv_if_eq (tgt := 29) hx hb dX11_worthTurn_18 (by decide) (fun h => absurd h (by decide)) (fun _ => ?_)
        refine lv_iload hx hb dX11_worthTurn_21 (lv_at hl 4 rfl) ?_
        refine vp_callSi (W.runS (As := [.int n]) (rest := []) ⟨hx, hb, hml, hown, hts⟩ (tX11_isWorth l E X A z I0 L0 n (n_t) h_n) (va_cwS 1 hts gX11_worthTurn_X11_isWorth rfl rfl rfl (by decide +kernel) ⟨Nat.le_of_ble_eq_true rfl, Nat.le_of_ble_eq_true rfl⟩) ⟨h_blind _ _ _ _ _ _ _, h_pre _ hE hk hX hA hI hR g⟩ rfl rfl hl.1 rfl (lv_room (Nat.le_of_ble_eq_true rfl)) dX11_worthTurn_23 ⟨Nat.le_of_ble_eq_true rfl, Nat.le_of_ble_eq_true rfl⟩) (fun rh10 h10 => ?_)
        rcases h10 with ⟨rfl, h10⟩ | ⟨rfl, h10⟩
        · skip
          refine lv_if_ne (tgt := 32) hx hb dX11_worthTurn_26 (by decide) (fun h => absurd (by decide) h) (fun _ => ?_)
          refine lv_bipush (v := (-2)) hx hb dX11_worthTurn_29 (by decide) ?_
          have hS := g.2.1
          exact W.iret (v := (-2)) hx hb hr (fun t ht hW => ⟨⟨(-2), I0, rfl, ⟨hI, hF, trivial⟩, h_ret g ht⟩, hS.F ht⟩) hS.2.2 dX11_worthTurn_31
        · skip
          refine lv_if_ne (tgt := 32) hx hb dX11_worthTurn_26 (by decide) (fun _ => ?_) (fun h => absurd h (by decide))
          refine lv_iload_n hx hb dX11_worthTurn_32 rfl (lv_at hl 2 rfl) ?_
          refine lv_iload_n hx hb dX11_worthTurn_33 rfl (lv_at hl 3 rfl) ?_
          refine vp_callSi (W.runS (As := [.int o, .int y]) (rest := []) ⟨hx, hb, hml, hown, hts⟩ (tX10_keyR l E X A z I0 L0 o (o_t) h_o (by omega) y (y_t) h_y (by omega)) (va_cwS 2 hts gX11_worthTurn_X10_keyOf rfl rfl rfl (by decide +kernel) ⟨Nat.le_of_ble_eq_true rfl, Nat.le_of_ble_eq_true rfl⟩) ⟨h_blind _ _ _ _ _ _ _, h_pre _ hE hk hX hA hI hR g⟩ rfl rfl hl.1 rfl (lv_room (Nat.le_of_ble_eq_true rfl)) dX11_worthTurn_34 ⟨Nat.le_of_ble_eq_true rfl, Nat.le_of_ble_eq_true rfl⟩) (fun rh13 h13 => ?_)
          obtain ⟨h13, h13p0⟩ := h13
          refine lv_istore (lv' := [(5, .int rh13), (0, .ref a0), (1, .int c), (2, .int o), (3, .int y), (4, .int n)]) hx hb dX11_worthTurn_37 hl (by decide) rfl (fun ls hl => ?_)
          refine lv_aload_n hx hb dX11_worthTurn_39 rfl (lv_at hl 1 rfl) ?_
          obtain ⟨b14, rb14, tb14⟩ := hR.at a0 4 t_a0 (rfl : h_rs 12 4 = some (11, false)) (by decide)
          refine h_get (v := .ref b14) hx hb hts iX11 hown g t_a0 (by decide) so_12 rfl 4 (by decide) (hts (.fieldLink RX11 44 "CapLeague" "turns" "LCapLeague$Turns;") (by decide +kernel)) rfl dX11_worthTurn_40 (by show va_rf (z.R a0 4) = _; rw [rb14]; rfl) ?_
          obtain ⟨b15, rb15, tb15⟩ := hR.at b14 3 tb14 (rfl : h_rs 11 3 = some (1103, false)) (by decide)
          refine h_get (v := .ref b15) hx hb hts iX10 hown g tb14 (by decide) so_11 rfl 3 (by decide) (hts (.fieldLink RX11 242 "CapLeague$Turns" "worths" "[[I") (by decide +kernel)) rfl dX11_worthTurn_43 (by show va_rf (z.R b14 3) = _; rw [rb15]; rfl) ?_
          refine lv_iload_n hx hb dX11_worthTurn_46 rfl (lv_at hl 2 rfl) ?_
          obtain ⟨b16, rb16, tb16⟩ := hR.at b15 c.toNatClampNeg tb15 (rfl : h_rs 1103 _ = some (1153, false)) (by rw [so_1103]; exact h_lt (n := 8) (xi_in (by rw [h_c]; omega) (by rw [h_c]; omega)))
          refine h_aldA (v := .ref b16) hx hb g tb15 (by decide) so_1103 (xi_in (by rw [h_c]; omega) (by rw [h_c]; omega)) dX11_worthTurn_47 (by rw [rb16]; rfl) ?_
          refine lv_iload hx hb dX11_worthTurn_48 (lv_at hl 0 rfl) ?_
          refine h_ald hx hb g tb16 (by decide) so_1153 (xi_in (by omega) (by omega)) dX11_worthTurn_50 ?_
          refine lv_topi (fun v17 ev17 => ?_)
          have jv17 := hI.rd b16 rh13.toNatClampNeg tb16 ev17 (rfl : h_bd 1153 _ = ((-2147483648), 2147483647))
          refine lv_istore (lv' := [(6, .int v17), (5, .int rh13), (0, .ref a0), (1, .int c), (2, .int o), (3, .int y), (4, .int n)]) hx hb dX11_worthTurn_51 hl (by decide) rfl (fun ls hl => ?_)
          refine lv_aload_n hx hb dX11_worthTurn_53 rfl (lv_at hl 2 rfl) ?_
          refine h_get (v := .ref b14) hx hb hts iX11 hown g t_a0 (by decide) so_12 rfl 4 (by decide) (hts (.fieldLink RX11 44 "CapLeague" "turns" "LCapLeague$Turns;") (by decide +kernel)) rfl dX11_worthTurn_54 (by show va_rf (z.R a0 4) = _; rw [rb14]; rfl) ?_
          refine h_get (v := .ref b15) hx hb hts iX10 hown g tb14 (by decide) so_11 rfl 3 (by decide) (hts (.fieldLink RX11 242 "CapLeague$Turns" "worths" "[[I") (by decide +kernel)) rfl dX11_worthTurn_57 (by show va_rf (z.R b14 3) = _; rw [rb15]; rfl) ?_
          refine lv_iload_n hx hb dX11_worthTurn_60 rfl (lv_at hl 3 rfl) ?_
          obtain ⟨b18, rb18, tb18⟩ := hR.at b15 c.toNatClampNeg tb15 (rfl : h_rs 1103 _ = some (1153, false)) (by rw [so_1103]; exact h_lt (n := 8) (xi_in (by rw [h_c]; omega) (by rw [h_c]; omega)))
          refine h_aldA (v := .ref b18) hx hb g tb15 (by decide) so_1103 (xi_in (by rw [h_c]; omega) (by rw [h_c]; omega)) dX11_worthTurn_61 (by rw [rb18]; rfl) ?_
          refine lv_iload hx hb dX11_worthTurn_62 (lv_at hl 1 rfl) ?_
          refine lv_iload hx hb dX11_worthTurn_64 (lv_at hl 6 rfl) ?_
          refine h_ast hx hb g tb18 (by decide) so_1153 (xi_in (by omega) (by omega)) dX11_worthTurn_66 (fun I19 H locs eI19 g => ?_)
          have hI := hI.wr eI19 tb18 (rfl : h_bd 1153 _ = ((-2147483648), 2147483647)) (xi_lo _) (Int.le_of_lt_add_one (xi_hi _))
          have hF := hF.wr eI19 tb18 rfl
          refine lv_iload hx hb dX11_worthTurn_67 (lv_at hl 0 rfl) ?_
          have hS := g.2.1
          exact W.iret (v := v17) hx hb hr (fun t ht hW => ⟨⟨v17, I19, rfl, ⟨hI, hF, trivial⟩, h_ret g ht⟩, hS.F ht⟩) hS.2.2 dX11_worthTurn_69
set_option maxHeartbeats 4000000 in
set_option maxRecDepth 100000 in
theorem tX11_ring (l : Launch) (E : tE) (X : tX) (A : Nat → Prop) (z : tZ) (I0 : tI) (L0 : tL) (a0 : Nat) (t_a0 : z.ty a0 = 12) : Met l yX11_ring wsX11_ring ({ frames := 7, cells := 0, slots := 0, locals := 448 }) (va_Pc [.ref a0] (h_P E X A z I0 L0)) (va_Qi (fun r (I1 : tI) => h_I z I1 ∧ h_F [(803, 999), (802, 999), (804, 999), (805, 999), (2, 0), (2, 1), (2, 2), (2, 3), (808, 999), (807, 999), (856, 999), (8, 10), (811, 999), (812, 999), (8, 9)] z I0 I1 ∧ True) (fun (I1 : tI) t => h_B E A z I1 L0 t) A) 0 0 A := by
  refine Met.ofW (cc := cX11_ring) (maxL := 1) (ret := (some .int)) (by decide) rfl ?_
  intro pr_ ev_ s m args below meth cd_ s₁ B hml hv
  obtain ⟨rfl, hE, hk, hX, hA, hK, hI, hR, hB0⟩ := hv
  have g : h_G h_so h_fk E A z I0 L0 s s.heap s.heap [] := ⟨hK, va_S.rf, hB0⟩
  have hF : h_F [(803, 999), (802, 999), (804, 999), (805, 999), (2, 0), (2, 1), (2, 2), (2, 3), (808, 999), (807, 999), (856, 999), (8, 10), (811, 999), (812, 999), (8, 9)] z I0 I0 := h_F.rf
  have hx := B.exec
  have hb := B.bytes
  have hr := B.returns
  have hts := atoms_spec (ws := wsX11_ring) B.pre
  have hown : s.vm.findClass RX11 = some m.cls := findClass_of_methodNamed B.named
  have hlocks := B.notSynchronized
  have iX11 : ∀ w ∈ u_ws RX11 TX11 8, w ∈ wsX11_ring := by decide +kernel
  have hl := lv_entry ([.ref a0]) (n := 1) (Nat.le_of_ble_eq_true rfl)
  rw [lg_entry_eq]
  generalize (lg_sl ([.ref a0]) ++ List.replicate (1 - (lg_sl ([.ref a0])).length) Slot.unset).toArray = ls at hl ⊢
  have hl : lv_has ls 1 [(0, .ref a0)] := hl
  refine lv_aload_n hx hb dX11_ring_0 rfl (lv_at hl 0 rfl) ?_
  obtain ⟨b1, rb1, tb1⟩ := hR.at a0 6 t_a0 (rfl : h_rs 12 6 = some (8, false)) (by decide)
  refine h_get (v := .ref b1) hx hb hts iX11 hown g t_a0 (by decide) so_12 rfl 6 (by decide) (hts (.fieldLink RX11 62 "CapLeague" "rings" "LCapLeague$RingSearch;") (by decide +kernel)) rfl dX11_ring_1 (by show va_rf (z.R a0 6) = _; rw [rb1]; rfl) ?_
  refine va_calli (va_runV (As := []) (rest := []) ⟨hx, hb, hml, hown, hts⟩ (tX7_findBest l E X A z I0 L0 b1 tb1) (cwV 0 hts gX11_ring_X7_findBest rfl rfl rfl (by decide +kernel) ⟨Nat.le_of_ble_eq_true rfl, Nat.le_of_ble_eq_true rfl⟩) ⟨h_blind _ _ _ _ _ _ _, h_recv g tb1 (by decide) so_8 (q := (RX7, TX7, 13)) rfl, h_pre _ hE hk hX hA hI hR g⟩ rfl rfl hl.1 rfl (lv_room (Nat.le_of_ble_eq_true rfl)) dX11_ring_4 ⟨Nat.le_of_ble_eq_true rfl, Nat.le_of_ble_eq_true rfl⟩) g.2.1 (fun q _ h => h) (fun q h => h) (fun rh2 I3 t H1 locs ht hvm h2 hB hz1 hk1 hS => ?_)
  obtain ⟨hI, fh2, h2⟩ := h2
  replace g := h_after g hB ht hS
  generalize H1 = H at g
  clear hB hk1 hz1 ht hvm hS
  have hF := hF.call fh2 rfl
  have jrh2 : -2147483648 ≤ rh2.toInt ∧ rh2.toInt ≤ 2147483647 := ⟨xi_lo _, Int.le_of_lt_add_one (xi_hi _)⟩
  have hS := g.2.1
  exact W.iret (v := rh2) hx hb hr (fun t ht hW => ⟨⟨rh2, I3, rfl, ⟨hI, hF, trivial⟩, h_ret g ht⟩, hS.F ht⟩) hS.2.2 dX11_ring_7
set_option maxHeartbeats 4000000 in
set_option maxRecDepth 100000 in
theorem tX11_ringed (l : Launch) (E : tE) (X : tX) (A : Nat → Prop) (z : tZ) (I0 : tI) (L0 : tL) (a0 : Nat) (t_a0 : z.ty a0 = 12) (x : Int32) (x_t : Int) (h_x : x.toInt = x_t) : Met l yX11_ringed wsX11_ringed ({ frames := 2, cells := 0, slots := 0, locals := 128 }) (va_Pc [.ref a0, .int x] (h_P E X A z I0 L0)) (vp_Si (fun r => True)) 0 0 (fun _ => False) := by
  refine Met.ofW (cc := cX11_ringed) (maxL := 2) (ret := (some .int)) (by decide) rfl ?_
  intro pr_ ev_ s m args below meth cd_ s₁ B hml hv
  obtain ⟨rfl, hE, hk, hX, hA, hK, hI, hR, hB0⟩ := hv
  have g : h_G h_so h_fk E A z I0 L0 s s.heap s.heap [] := ⟨hK, va_S.rf, hB0⟩
  have hx := B.exec
  have hb := B.bytes
  have hr := B.returns
  have hts := atoms_spec (ws := wsX11_ringed) B.pre
  have hown : s.vm.findClass RX11 = some m.cls := findClass_of_methodNamed B.named
  have hlocks := B.notSynchronized
  have iX11 : ∀ w ∈ u_ws RX11 TX11 8, w ∈ wsX11_ringed := by decide +kernel
  have hl := lv_entry ([.ref a0, .int x]) (n := 2) (Nat.le_of_ble_eq_true rfl)
  rw [lg_entry_eq]
  generalize (lg_sl ([.ref a0, .int x]) ++ List.replicate (2 - (lg_sl ([.ref a0, .int x])).length) Slot.unset).toArray = ls at hl ⊢
  have hl : lv_has ls 2 [(0, .ref a0), (1, .int x)] := hl
  have b_x : -2147483648 ≤ x_t ∧ x_t ≤ 2147483647 := h_x ▸ ⟨xi_lo x, Int.le_of_lt_add_one (xi_hi x)⟩
  refine lv_aload_n hx hb dX11_ringed_0 rfl (lv_at hl 0 rfl) ?_
  obtain ⟨b1, rb1, tb1⟩ := hR.at a0 6 t_a0 (rfl : h_rs 12 6 = some (8, false)) (by decide)
  refine h_get (v := .ref b1) hx hb hts iX11 hown g t_a0 (by decide) so_12 rfl 6 (by decide) (hts (.fieldLink RX11 62 "CapLeague" "rings" "LCapLeague$RingSearch;") (by decide +kernel)) rfl dX11_ringed_1 (by show va_rf (z.R a0 6) = _; rw [rb1]; rfl) ?_
  refine lv_iload_n hx hb dX11_ringed_4 rfl (lv_at hl 1 rfl) ?_
  refine vp_callSi (W.runV (As := [.int x]) (rest := []) ⟨hx, hb, hml, hown, hts⟩ (tX7_fact l E X A z I0 L0 b1 tb1 x (x_t) h_x) (cwV 1 hts gX11_ringed_X7_fact rfl rfl rfl (by decide +kernel) ⟨Nat.le_of_ble_eq_true rfl, Nat.le_of_ble_eq_true rfl⟩) ⟨h_blind _ _ _ _ _ _ _, h_recv g tb1 (by decide) so_8 (q := (RX7, TX7, 13)) rfl, h_pre _ hE hk hX hA hI hR g⟩ rfl rfl hl.1 rfl (lv_room (Nat.le_of_ble_eq_true rfl)) dX11_ringed_5 ⟨Nat.le_of_ble_eq_true rfl, Nat.le_of_ble_eq_true rfl⟩) (fun rh2 h2 => ?_)
  have jrh2 : -2147483648 ≤ rh2.toInt ∧ rh2.toInt ≤ 2147483647 := ⟨xi_lo _, Int.le_of_lt_add_one (xi_hi _)⟩
  exact W.iret (v := rh2) hx hb hr (fun t ht hW => ⟨rh2, rfl, trivial, ht⟩) (fun _ h => by cases h) dX11_ringed_8
set_option maxHeartbeats 4000000 in
set_option maxRecDepth 100000 in
theorem tX11_table (l : Launch) (E : tE) (X : tX) (A : Nat → Prop) (z : tZ) (I0 : tI) (L0 : tL) (a0 : Nat) (t_a0 : z.ty a0 = 12) : Met l yX11_table wsX11_table ({ frames := 3, cells := 0, slots := 0, locals := 192 }) (va_Pc [.ref a0] (h_P E X A z I0 L0)) (va_Qi (fun r (I1 : tI) => h_I z I1 ∧ h_F [(300, 999), (3, 1), (9, 1)] z I0 I1 ∧ True) (fun (I1 : tI) t => h_B E A z I1 L0 t) A) 0 0 A := by
  refine Met.ofW (cc := cX11_table) (maxL := 3) (ret := (some .int)) (by decide) rfl ?_
  intro pr_ ev_ s m args below meth cd_ s₁ B hml hv
  obtain ⟨rfl, hE, hk, hX, hA, hK, hI, hR, hB0⟩ := hv
  have g : h_G h_so h_fk E A z I0 L0 s s.heap s.heap [] := ⟨hK, va_S.rf, hB0⟩
  have hF : h_F [(300, 999), (3, 1), (9, 1)] z I0 I0 := h_F.rf
  have hx := B.exec
  have hb := B.bytes
  have hr := B.returns
  have hts := atoms_spec (ws := wsX11_table) B.pre
  have hown : s.vm.findClass RX11 = some m.cls := findClass_of_methodNamed B.named
  have hlocks := B.notSynchronized
  have iX11 : ∀ w ∈ u_ws RX11 TX11 8, w ∈ wsX11_table := by decide +kernel
  have iX0 : ∀ w ∈ u_ws RX0 TX0 9, w ∈ wsX11_table := by decide +kernel
  have iX8 : ∀ w ∈ u_ws RX8 TX8 2, w ∈ wsX11_table := by decide +kernel
  have hl := lv_entry ([.ref a0]) (n := 3) (Nat.le_of_ble_eq_true rfl)
  rw [lg_entry_eq]
  generalize (lg_sl ([.ref a0]) ++ List.replicate (3 - (lg_sl ([.ref a0])).length) Slot.unset).toArray = ls at hl ⊢
  have hl : lv_has ls 3 [(0, .ref a0)] := hl
  refine lv_aload_n hx hb dX11_table_0 rfl (lv_at hl 0 rfl) ?_
  obtain ⟨b1, rb1, tb1⟩ := hR.at a0 0 t_a0 (rfl : h_rs 12 0 = some (9, false)) (by decide)
  refine h_get (v := .ref b1) hx hb hts iX11 hown g t_a0 (by decide) so_12 rfl 0 (by decide) (hts (.fieldLink RX11 10 "CapLeague" "tape" "LCapLeague$Tape;") (by decide +kernel)) rfl dX11_table_1 (by show va_rf (z.R a0 0) = _; rw [rb1]; rfl) ?_
  refine vp_callSi (W.runS (As := [.ref b1]) (rest := []) ⟨hx, hb, hml, hown, hts⟩ (tX2_isTable l E X A z I0 L0 b1 tb1) (va_cwS 1 hts gX11_table_X2_isTable rfl rfl rfl (by decide +kernel) ⟨Nat.le_of_ble_eq_true rfl, Nat.le_of_ble_eq_true rfl⟩) ⟨h_blind _ _ _ _ _ _ _, h_pre _ hE hk hX hA hI hR g⟩ rfl rfl hl.1 rfl (lv_room (Nat.le_of_ble_eq_true rfl)) dX11_table_4 ⟨Nat.le_of_ble_eq_true rfl, Nat.le_of_ble_eq_true rfl⟩) (fun rh2 h2 => ?_)
  refine lv_istore_n (lv' := [(1, .int rh2), (0, .ref a0)]) hx hb dX11_table_7 rfl hl (by decide) rfl (fun ls hl => ?_)
  refine lv_iconst (v := (-1)) hx hb dX11_table_8 (by decide) ?_
  refine lv_istore_n (lv' := [(2, .int (-1)), (1, .int rh2), (0, .ref a0)]) hx hb dX11_table_9 rfl hl (by decide) rfl (fun ls hl => ?_)
  refine lv_iload_n hx hb dX11_table_10 rfl (lv_at hl 1 rfl) ?_
  refine lv_if_eq (tgt := 37) hx hb dX11_table_11 (by decide) (fun c3 => ?_) (fun c3 => ?_)
  · have ic3 := (xi_eq c3 rfl (by decide) : rh2.toInt = 0)
    refine lv_iload_n hx hb dX11_table_37 rfl (lv_at hl 1 rfl) ?_
    refine lv_if_eq (tgt := 54) hx hb dX11_table_38 (by decide) (fun c4 => ?_) (fun h => absurd (xi_ne h rfl (by decide) : rh2.toInt ≠ 0) (by omega))
    have ic4 := (xi_eq c4 rfl (by decide) : rh2.toInt = 0)
    refine lv_aload_n hx hb dX11_table_54 rfl (lv_at hl 2 rfl) ?_
    refine h_get (v := .ref b1) hx hb hts iX11 hown g t_a0 (by decide) so_12 rfl 0 (by decide) (hts (.fieldLink RX11 10 "CapLeague" "tape" "LCapLeague$Tape;") (by decide +kernel)) rfl dX11_table_55 (by show va_rf (z.R a0 0) = _; rw [rb1]; rfl) ?_
    refine lv_iconst (v := 0) hx hb dX11_table_58 (by decide) ?_
    refine h_putI (ty := .int) (v := 0) hx hb hts iX8 tyX8 tyX8_ok nmX8 hown g tb1 (by decide) so_9 rfl 1 (by decide) rfl (hts (.fieldLink RX11 81 "CapLeague$Tape" "size" "I") (by decide +kernel)) rfl rfl (by decide +kernel) rfl rfl dX11_table_59 (fun I5 H locs eI5 g => ?_)
    have hI := hI.wr eI5 tb1 (rfl : h_bd 9 1 = (0, 500)) (by decide) (by decide)
    have hF := hF.wr eI5 tb1 rfl
    refine lv_iload_n hx hb dX11_table_62 rfl (lv_at hl 0 rfl) ?_
    have hS := g.2.1
    exact W.iret (v := (-1)) hx hb hr (fun t ht hW => ⟨⟨(-1), I5, rfl, ⟨hI, hF, trivial⟩, h_ret g ht⟩, hS.F ht⟩) hS.2.2 dX11_table_63
  · have ic3 := (xi_ne c3 rfl (by decide) : rh2.toInt ≠ 0)
    refine lv_aload_n hx hb dX11_table_14 rfl (lv_at hl 2 rfl) ?_
    obtain ⟨b6, rb6, tb6⟩ := hR.at a0 7 t_a0 (rfl : h_rs 12 7 = some (3, false)) (by decide)
    refine h_get (v := .ref b6) hx hb hts iX11 hown g t_a0 (by decide) so_12 rfl 7 (by decide) (hts (.fieldLink RX11 69 "CapLeague" "draft" "LCapLeague$Draft;") (by decide +kernel)) rfl dX11_table_15 (by show va_rf (z.R a0 7) = _; rw [rb6]; rfl) ?_
    refine lv_aload_n hx hb dX11_table_18 rfl (lv_at hl 2 rfl) ?_
    obtain ⟨b7, rb7, tb7⟩ := hR.at a0 3 t_a0 (rfl : h_rs 12 3 = some (1, false)) (by decide)
    refine h_get (v := .ref b7) hx hb hts iX11 hown g t_a0 (by decide) so_12 rfl 3 (by decide) (hts (.fieldLink RX11 37 "CapLeague" "books" "LCapLeague$Books;") (by decide +kernel)) rfl dX11_table_19 (by show va_rf (z.R a0 3) = _; rw [rb7]; rfl) ?_
    refine h_get (v := .int (I0 b7 3)) hx hb hts iX0 hown g tb7 (by decide) so_1 rfl 3 (by decide) (hts (.fieldLink RX11 142 "CapLeague$Books" "clock" "I") (by decide +kernel)) rfl dX11_table_22 rfl ?_
    refine lv_topi (fun v8 ev8 => ?_)
    have jv8 := hI.rd b7 3 tb7 ev8 (rfl : h_bd 1 3 = (0, 9))
    refine vp_callSi (W.runV (As := [.int v8]) (rest := []) ⟨hx, hb, hml, hown, hts⟩ (tX2_isDrawn l E X A z I0 L0 b6 tb6 v8 (v8.toInt) rfl) (cwV 1 hts gX11_table_X2_isDrawn rfl rfl rfl (by decide +kernel) ⟨Nat.le_of_ble_eq_true rfl, Nat.le_of_ble_eq_true rfl⟩) ⟨h_blind _ _ _ _ _ _ _, h_recv g tb6 (by decide) so_3 (q := (RX2, TX2, 7)) rfl, h_pre _ hE hk hX hA hI hR g⟩ rfl rfl hl.1 rfl (lv_room (Nat.le_of_ble_eq_true rfl)) dX11_table_25 ⟨Nat.le_of_ble_eq_true rfl, Nat.le_of_ble_eq_true rfl⟩) (fun rh9 h9 => ?_)
    refine lv_if_eq (tgt := 37) hx hb dX11_table_28 (by decide) (fun c10 => ?_) (fun c10 => ?_)
    · have ic10 := (xi_eq c10 rfl (by decide) : rh9.toInt = 0)
      refine lv_iload_n hx hb dX11_table_37 rfl (lv_at hl 1 rfl) ?_
      refine lv_if_eq (tgt := 54) hx hb dX11_table_38 (by decide) (fun h => absurd (xi_eq h rfl (by decide) : rh2.toInt = 0) (by omega)) (fun c11 => ?_)
      have ic11 := (xi_ne c11 rfl (by decide) : rh2.toInt ≠ 0)
      refine lv_aload_n hx hb dX11_table_41 rfl (lv_at hl 2 rfl) ?_
      refine h_get (v := .ref b6) hx hb hts iX11 hown g t_a0 (by decide) so_12 rfl 7 (by decide) (hts (.fieldLink RX11 69 "CapLeague" "draft" "LCapLeague$Draft;") (by decide +kernel)) rfl dX11_table_42 (by show va_rf (z.R a0 7) = _; rw [rb6]; rfl) ?_
      refine lv_aload_n hx hb dX11_table_45 rfl (lv_at hl 2 rfl) ?_
      refine h_get (v := .ref b1) hx hb hts iX11 hown g t_a0 (by decide) so_12 rfl 0 (by decide) (hts (.fieldLink RX11 10 "CapLeague" "tape" "LCapLeague$Tape;") (by decide +kernel)) rfl dX11_table_46 (by show va_rf (z.R a0 0) = _; rw [rb1]; rfl) ?_
      refine va_callv (va_runV (As := [.ref b1]) (rest := []) ⟨hx, hb, hml, hown, hts⟩ (tX2_tellTable l E X A z I0 L0 b6 tb6 b1 tb1) (cwV 1 hts gX11_table_X2_tellTable rfl rfl rfl (by decide +kernel) ⟨Nat.le_of_ble_eq_true rfl, Nat.le_of_ble_eq_true rfl⟩) ⟨h_blind _ _ _ _ _ _ _, h_recv g tb6 (by decide) so_3 (q := (RX2, TX2, 7)) rfl, h_pre _ hE hk hX hA hI hR g⟩ rfl rfl hl.1 rfl (lv_room (Nat.le_of_ble_eq_true rfl)) dX11_table_49 ⟨Nat.le_of_ble_eq_true rfl, Nat.le_of_ble_eq_true rfl⟩) g.2.1 (fun q _ h => h) (fun q h => h) (fun I13 t H1 locs ht hvm h12 hB hz1 hk1 hS => ?_)
      obtain ⟨hI, fh12, h12⟩ := h12
      replace g := h_after g hB ht hS
      generalize H1 = H at g
      clear hB hk1 hz1 ht hvm hS
      have hF := hF.call fh12 rfl
      refine lv_iconst (v := 1) hx hb dX11_table_52 (by decide) ?_
      refine lv_istore_n (lv' := [(2, .int 1), (1, .int rh2), (0, .ref a0)]) hx hb dX11_table_53 rfl hl (by decide) rfl (fun ls hl => ?_)
      refine lv_aload_n hx hb dX11_table_54 rfl (lv_at hl 2 rfl) ?_
      refine h_get (v := .ref b1) hx hb hts iX11 hown g t_a0 (by decide) so_12 rfl 0 (by decide) (hts (.fieldLink RX11 10 "CapLeague" "tape" "LCapLeague$Tape;") (by decide +kernel)) rfl dX11_table_55 (by show va_rf (z.R a0 0) = _; rw [rb1]; rfl) ?_
      refine lv_iconst (v := 0) hx hb dX11_table_58 (by decide) ?_
      refine h_putI (ty := .int) (v := 0) hx hb hts iX8 tyX8 tyX8_ok nmX8 hown g tb1 (by decide) so_9 rfl 1 (by decide) rfl (hts (.fieldLink RX11 81 "CapLeague$Tape" "size" "I") (by decide +kernel)) rfl rfl (by decide +kernel) rfl rfl dX11_table_59 (fun I14 H locs eI14 g => ?_)
      have hI := hI.wr eI14 tb1 (rfl : h_bd 9 1 = (0, 500)) (by decide) (by decide)
      have hF := hF.wr eI14 tb1 rfl
      refine lv_iload_n hx hb dX11_table_62 rfl (lv_at hl 0 rfl) ?_
      have hS := g.2.1
      exact W.iret (v := 1) hx hb hr (fun t ht hW => ⟨⟨1, I14, rfl, ⟨hI, hF, trivial⟩, h_ret g ht⟩, hS.F ht⟩) hS.2.2 dX11_table_63
    · have ic10 := (xi_ne c10 rfl (by decide) : rh9.toInt ≠ 0)
      refine lv_bipush (v := (-4)) hx hb dX11_table_31 (by decide) ?_
      refine lv_istore_n (lv' := [(2, .int (-4)), (1, .int rh2), (0, .ref a0)]) hx hb dX11_table_33 rfl hl (by decide) rfl (fun ls hl => ?_)
      refine lv_goto (tgt := 54) hx hb dX11_table_34 (by decide) ?_
      refine lv_aload_n hx hb dX11_table_54 rfl (lv_at hl 2 rfl) ?_
      refine h_get (v := .ref b1) hx hb hts iX11 hown g t_a0 (by decide) so_12 rfl 0 (by decide) (hts (.fieldLink RX11 10 "CapLeague" "tape" "LCapLeague$Tape;") (by decide +kernel)) rfl dX11_table_55 (by show va_rf (z.R a0 0) = _; rw [rb1]; rfl) ?_
      refine lv_iconst (v := 0) hx hb dX11_table_58 (by decide) ?_
      refine h_putI (ty := .int) (v := 0) hx hb hts iX8 tyX8 tyX8_ok nmX8 hown g tb1 (by decide) so_9 rfl 1 (by decide) rfl (hts (.fieldLink RX11 81 "CapLeague$Tape" "size" "I") (by decide +kernel)) rfl rfl (by decide +kernel) rfl rfl dX11_table_59 (fun I15 H locs eI15 g => ?_)
      have hI := hI.wr eI15 tb1 (rfl : h_bd 9 1 = (0, 500)) (by decide) (by decide)
      have hF := hF.wr eI15 tb1 rfl
      refine lv_iload_n hx hb dX11_table_62 rfl (lv_at hl 0 rfl) ?_
      have hS := g.2.1
      exact W.iret (v := (-4)) hx hb hr (fun t ht hW => ⟨⟨(-4), I15, rfl, ⟨hI, hF, trivial⟩, h_ret g ht⟩, hS.F ht⟩) hS.2.2 dX11_table_63
set_option maxHeartbeats 4000000 in
set_option maxRecDepth 100000 in
theorem tX11_chance (l : Launch) (E : tE) (X : tX) (A : Nat → Prop) (z : tZ) (I0 : tI) (L0 : tL) (a0 : Nat) (t_a0 : z.ty a0 = 12) (c : Int32) (c_t : Int) (h_c : c.toInt = c_t) (k : Int32) (k_t : Int) (h_k : k.toInt = k_t) (x : Int32) (x_t : Int) (h_x : x.toInt = x_t) : Met l yX11_chance wsX11_chance ({ frames := 5, cells := 0, slots := 0, locals := 320 }) (va_Pc [.ref a0, .int c, .int k, .int x] (h_P E X A z I0 L0)) (va_Ql (fun r (q1 : tI × tL) => h_I z q1.1 ∧ h_F [] z I0 q1.1 ∧ True) (fun (q1 : tI × tL) t => h_B E A z q1.1 q1.2 t) A) 0 0 A := by
  refine Met.ofW (cc := cX11_chance) (maxL := 4) (ret := (some .long)) (by decide) rfl ?_
  intro pr_ ev_ s m args below meth cd_ s₁ B hml hv
  obtain ⟨rfl, hE, hk, hX, hA, hK, hI, hR, hB0⟩ := hv
  have g : h_G h_so h_fk E A z I0 L0 s s.heap s.heap [] := ⟨hK, va_S.rf, hB0⟩
  have hF : h_F [] z I0 I0 := h_F.rf
  have hx := B.exec
  have hb := B.bytes
  have hr := B.returns
  have hts := atoms_spec (ws := wsX11_chance) B.pre
  have hown : s.vm.findClass RX11 = some m.cls := findClass_of_methodNamed B.named
  have hlocks := B.notSynchronized
  have iX11 : ∀ w ∈ u_ws RX11 TX11 8, w ∈ wsX11_chance := by decide +kernel
  have iX2 : ∀ w ∈ u_ws RX2 TX2 7, w ∈ wsX11_chance := by decide +kernel
  have hl := lv_entry ([.ref a0, .int c, .int k, .int x]) (n := 4) (Nat.le_of_ble_eq_true rfl)
  rw [lg_entry_eq]
  generalize (lg_sl ([.ref a0, .int c, .int k, .int x]) ++ List.replicate (4 - (lg_sl ([.ref a0, .int c, .int k, .int x])).length) Slot.unset).toArray = ls at hl ⊢
  have hl : lv_has ls 4 [(0, .ref a0), (1, .int c), (2, .int k), (3, .int x)] := hl
  have b_c : -2147483648 ≤ c_t ∧ c_t ≤ 2147483647 := h_c ▸ ⟨xi_lo c, Int.le_of_lt_add_one (xi_hi c)⟩
  have b_k : -2147483648 ≤ k_t ∧ k_t ≤ 2147483647 := h_k ▸ ⟨xi_lo k, Int.le_of_lt_add_one (xi_hi k)⟩
  have b_x : -2147483648 ≤ x_t ∧ x_t ≤ 2147483647 := h_x ▸ ⟨xi_lo x, Int.le_of_lt_add_one (xi_hi x)⟩
  refine lv_iload_n hx hb dX11_chance_0 rfl (lv_at hl 1 rfl) ?_
  refine vp_callSi (W.runS (As := [.int c]) (rest := []) ⟨hx, hb, hml, hown, hts⟩ (tX11_isClub l E X A z I0 L0 c (c_t) h_c) (va_cwS 1 hts gX11_chance_X11_isClub rfl rfl rfl (by decide +kernel) ⟨Nat.le_of_ble_eq_true rfl, Nat.le_of_ble_eq_true rfl⟩) ⟨h_blind _ _ _ _ _ _ _, h_pre _ hE hk hX hA hI hR g⟩ rfl rfl hl.1 rfl (lv_room (Nat.le_of_ble_eq_true rfl)) dX11_chance_1 ⟨Nat.le_of_ble_eq_true rfl, Nat.le_of_ble_eq_true rfl⟩) (fun rh1 h1 => ?_)
  rcases h1 with ⟨rfl, h1⟩ | ⟨rfl, h1⟩
  · skip
    refine lv_if_eq (tgt := 25) hx hb dX11_chance_4 (by decide) (fun _ => ?_) (fun h => absurd (by decide) h)
    refine lv_ldc2 (v := (-2)) hx hb hown (hts (.constantLong RX11 255 (-2)) (by decide +kernel)) dX11_chance_25 ?_
    have hS := g.2.1
    exact W.lret (v := (-2)) hx hb hr (fun t ht hW => ⟨⟨(-2), (I0, L0), rfl, ⟨hI, hF, trivial⟩, h_ret g ht⟩, hS.F ht⟩) hS.2.2 dX11_chance_28
  · skip
    refine lv_if_eq (tgt := 25) hx hb dX11_chance_4 (by decide) (fun h => absurd h (by decide)) (fun _ => ?_)
    refine lv_iload_n hx hb dX11_chance_7 rfl (lv_at hl 2 rfl) ?_
    refine lv_if_lt (tgt := 25) hx hb dX11_chance_8 (by decide) (fun c4 => ?_) (fun c4 => ?_)
    · have ic4 := (xi_lt c4 h_k (by decide) : k_t < 0)
      refine lv_ldc2 (v := (-2)) hx hb hown (hts (.constantLong RX11 255 (-2)) (by decide +kernel)) dX11_chance_25 ?_
      have hS := g.2.1
      exact W.lret (v := (-2)) hx hb hr (fun t ht hW => ⟨⟨(-2), (I0, L0), rfl, ⟨hI, hF, trivial⟩, h_ret g ht⟩, hS.F ht⟩) hS.2.2 dX11_chance_28
    · have ic4 := (xi_nlt c4 h_k (by decide) : 0 ≤ k_t)
      refine lv_iload_n hx hb dX11_chance_11 rfl (lv_at hl 2 rfl) ?_
      refine lv_iconst (v := 1) hx hb dX11_chance_12 (by decide) ?_
      refine lv_icmp_gt (tgt := 25) hx hb dX11_chance_13 (by decide) (fun c5 => ?_) (fun c5 => ?_)
      · have ic5 := (xi_lt c5 (by decide) h_k : 1 < k_t)
        refine lv_ldc2 (v := (-2)) hx hb hown (hts (.constantLong RX11 255 (-2)) (by decide +kernel)) dX11_chance_25 ?_
        have hS := g.2.1
        exact W.lret (v := (-2)) hx hb hr (fun t ht hW => ⟨⟨(-2), (I0, L0), rfl, ⟨hI, hF, trivial⟩, h_ret g ht⟩, hS.F ht⟩) hS.2.2 dX11_chance_28
      · have ic5 := (xi_nlt c5 (by decide) h_k : k_t ≤ 1)
        refine lv_iload_n hx hb dX11_chance_16 rfl (lv_at hl 3 rfl) ?_
        refine lv_if_lt (tgt := 25) hx hb dX11_chance_17 (by decide) (fun c6 => ?_) (fun c6 => ?_)
        · have ic6 := (xi_lt c6 h_x (by decide) : x_t < 0)
          refine lv_ldc2 (v := (-2)) hx hb hown (hts (.constantLong RX11 255 (-2)) (by decide +kernel)) dX11_chance_25 ?_
          have hS := g.2.1
          exact W.lret (v := (-2)) hx hb hr (fun t ht hW => ⟨⟨(-2), (I0, L0), rfl, ⟨hI, hF, trivial⟩, h_ret g ht⟩, hS.F ht⟩) hS.2.2 dX11_chance_28
        · have ic6 := (xi_nlt c6 h_x (by decide) : 0 ≤ x_t)
          refine lv_iload_n hx hb dX11_chance_20 rfl (lv_at hl 3 rfl) ?_
          refine lv_iconst (v := 1) hx hb dX11_chance_21 (by decide) ?_
          refine lv_icmp_le (tgt := 29) hx hb dX11_chance_22 (by decide) (fun c7 => ?_) (fun c7 => ?_)
          · have ic7 := (xi_le c7 h_x (by decide) : x_t ≤ 1)
            refine lv_aload_n hx hb dX11_chance_29 rfl (lv_at hl 0 rfl) ?_
            obtain ⟨b8, rb8, tb8⟩ := hR.at a0 7 t_a0 (rfl : h_rs 12 7 = some (3, false)) (by decide)
            refine h_get (v := .ref b8) hx hb hts iX11 hown g t_a0 (by decide) so_12 rfl 7 (by decide) (hts (.fieldLink RX11 69 "CapLeague" "draft" "LCapLeague$Draft;") (by decide +kernel)) rfl dX11_chance_30 (by show va_rf (z.R a0 7) = _; rw [rb8]; rfl) ?_
            refine h_get (v := .int (I0 b8 1)) hx hb hts iX2 hown g tb8 (by decide) so_3 rfl 1 (by decide) (hts (.fieldLink RX11 257 "CapLeague$Draft" "tableTold" "Z") (by decide +kernel)) rfl dX11_chance_33 rfl ?_
            refine lv_topi (fun v9 ev9 => ?_)
            have jv9 := hI.rd b8 1 tb8 ev9 (rfl : h_bd 3 1 = (0, 1))
            refine lv_if_ne (tgt := 43) hx hb dX11_chance_36 (by decide) (fun c10 => ?_) (fun c10 => ?_)
            · have ic10 := (xi_ne c10 rfl (by decide) : v9.toInt ≠ 0)
              refine lv_aload_n hx hb dX11_chance_43 rfl (lv_at hl 0 rfl) ?_
              refine h_get (v := .ref b8) hx hb hts iX11 hown g t_a0 (by decide) so_12 rfl 7 (by decide) (hts (.fieldLink RX11 69 "CapLeague" "draft" "LCapLeague$Draft;") (by decide +kernel)) rfl dX11_chance_44 (by show va_rf (z.R a0 7) = _; rw [rb8]; rfl) ?_
              refine lv_iload_n hx hb dX11_chance_47 rfl (lv_at hl 1 rfl) ?_
              refine lv_iload_n hx hb dX11_chance_48 rfl (lv_at hl 2 rfl) ?_
              refine lv_aload_n hx hb dX11_chance_49 rfl (lv_at hl 0 rfl) ?_
              obtain ⟨b11, rb11, tb11⟩ := hR.at a0 3 t_a0 (rfl : h_rs 12 3 = some (1, false)) (by decide)
              refine h_get (v := .ref b11) hx hb hts iX11 hown g t_a0 (by decide) so_12 rfl 3 (by decide) (hts (.fieldLink RX11 37 "CapLeague" "books" "LCapLeague$Books;") (by decide +kernel)) rfl dX11_chance_50 (by show va_rf (z.R a0 3) = _; rw [rb11]; rfl) ?_
              refine va_csq (W.runV (As := []) (rest := [.int k, .int c, .ref b8]) ⟨hx, hb, hml, hown, hts⟩ (tX0_lawsNow l E X A z I0 L0 b11 tb11) (cwV 0 hts gX11_chance_X0_lawsNow rfl rfl rfl (by decide +kernel) ⟨Nat.le_of_ble_eq_true rfl, Nat.le_of_ble_eq_true rfl⟩) ⟨h_blind _ _ _ _ _ _ _, h_recv g tb11 (by decide) so_1 (q := (RX0, TX0, 9)) rfl, h_pre _ hE hk hX hA hI hR g⟩ rfl rfl hl.1 rfl (lv_room (Nat.le_of_ble_eq_true rfl)) dX11_chance_53 ⟨Nat.le_of_ble_eq_true rfl, Nat.le_of_ble_eq_true rfl⟩) (fun rh12 h12 => ?_)
              obtain ⟨rh12, rfl, trh12⟩ := h12
              refine xw_v (v := .ref rh12) rfl ?_
              refine va_callv (va_runV (As := [.int c, .int k, .ref rh12]) (rest := []) ⟨hx, hb, hml, hown, hts⟩ (tX2_findChance l E X A z I0 L0 b8 tb8 c (c_t) h_c k (k_t) h_k rh12 trh12) (cwV 3 hts gX11_chance_X2_findChance rfl rfl rfl (by decide +kernel) ⟨Nat.le_of_ble_eq_true rfl, Nat.le_of_ble_eq_true rfl⟩) ⟨h_blind _ _ _ _ _ _ _, h_recv g tb8 (by decide) so_3 (q := (RX2, TX2, 7)) rfl, h_pre _ hE hk hX hA hI hR g⟩ rfl rfl hl.1 rfl (lv_room (Nat.le_of_ble_eq_true rfl)) dX11_chance_56 ⟨Nat.le_of_ble_eq_true rfl, Nat.le_of_ble_eq_true rfl⟩) g.2.1 (fun q _ h => h) (fun q h => h) (fun uh13 t H1 locs ht hvm h13 hB hz1 hk1 hS => ?_)
              obtain ⟨I14, L15⟩ := uh13
              obtain ⟨hI, fh13, h13⟩ := h13
              replace g := h_after g hB ht hS
              generalize H1 = H at g
              clear hB hk1 hz1 ht hvm hS
              have hF := hF.call fh13 rfl
              refine lv_iload_n hx hb dX11_chance_59 rfl (lv_at hl 3 rfl) ?_
              refine lv_if_ne (tgt := 73) hx hb dX11_chance_60 (by decide) (fun c16 => ?_) (fun c16 => ?_)
              · have ic16 := (xi_ne c16 h_x (by decide) : x_t ≠ 0)
                refine lv_aload_n hx hb dX11_chance_73 rfl (lv_at hl 0 rfl) ?_
                refine h_get (v := .ref b8) hx hb hts iX11 hown g t_a0 (by decide) so_12 rfl 7 (by decide) (hts (.fieldLink RX11 69 "CapLeague" "draft" "LCapLeague$Draft;") (by decide +kernel)) rfl dX11_chance_74 (by show va_rf (z.R a0 7) = _; rw [rb8]; rfl) ?_
                refine h_get (v := .long (L15 b8 6)) hx hb hts iX2 hown g tb8 (by decide) so_3 rfl 6 (by decide) (hts (.fieldLink RX11 274 "CapLeague$Draft" "chanceBelow" "J") (by decide +kernel)) rfl dX11_chance_77 rfl ?_
                refine lv_topl (fun v17 ev17 => ?_)
                have hS := g.2.1
                exact W.lret (v := v17) hx hb hr (fun t ht hW => ⟨⟨v17, (I14, L15), rfl, ⟨hI, hF, trivial⟩, h_ret g ht⟩, hS.F ht⟩) hS.2.2 dX11_chance_80
              · have ic16 := (xi_eq c16 h_x (by decide) : x_t = 0)
                refine lv_aload_n hx hb dX11_chance_63 rfl (lv_at hl 0 rfl) ?_
                refine h_get (v := .ref b8) hx hb hts iX11 hown g t_a0 (by decide) so_12 rfl 7 (by decide) (hts (.fieldLink RX11 69 "CapLeague" "draft" "LCapLeague$Draft;") (by decide +kernel)) rfl dX11_chance_64 (by show va_rf (z.R a0 7) = _; rw [rb8]; rfl) ?_
                refine h_get (v := .long (L15 b8 5)) hx hb hts iX2 hown g tb8 (by decide) so_3 rfl 5 (by decide) (hts (.fieldLink RX11 270 "CapLeague$Draft" "chanceAbove" "J") (by decide +kernel)) rfl dX11_chance_67 rfl ?_
                refine lv_topl (fun v18 ev18 => ?_)
                refine lv_goto (tgt := 80) hx hb dX11_chance_70 (by decide) ?_
                have hS := g.2.1
                exact W.lret (v := v18) hx hb hr (fun t ht hW => ⟨⟨v18, (I14, L15), rfl, ⟨hI, hF, trivial⟩, h_ret g ht⟩, hS.F ht⟩) hS.2.2 dX11_chance_80
            · have ic10 := (xi_eq c10 rfl (by decide) : v9.toInt = 0)
              refine lv_ldc2 (v := (-4)) hx hb hown (hts (.constantLong RX11 260 (-4)) (by decide +kernel)) dX11_chance_39 ?_
              have hS := g.2.1
              exact W.lret (v := (-4)) hx hb hr (fun t ht hW => ⟨⟨(-4), (I0, L0), rfl, ⟨hI, hF, trivial⟩, h_ret g ht⟩, hS.F ht⟩) hS.2.2 dX11_chance_42
          · have ic7 := (xi_nle c7 h_x (by decide) : 1 < x_t)
            refine lv_ldc2 (v := (-2)) hx hb hown (hts (.constantLong RX11 255 (-2)) (by decide +kernel)) dX11_chance_25 ?_
            have hS := g.2.1
            exact W.lret (v := (-2)) hx hb hr (fun t ht hW => ⟨⟨(-2), (I0, L0), rfl, ⟨hI, hF, trivial⟩, h_ret g ht⟩, hS.F ht⟩) hS.2.2 dX11_chance_28
set_option maxHeartbeats 4000000 in
set_option maxRecDepth 100000 in
theorem tX11_draw (l : Launch) (E : tE) (X : tX) (A : Nat → Prop) (z : tZ) (I0 : tI) (L0 : tL) (a0 : Nat) (t_a0 : z.ty a0 = 12) (a : Int32) (a_t : Int) (h_a : a.toInt = a_t) (b : Int32) (b_t : Int) (h_b : b.toInt = b_t) : Met l yX11_draw wsX11_draw ({ frames := 4, cells := 0, slots := 0, locals := 256 }) (va_Pc [.ref a0, .int a, .int b] (h_P E X A z I0 L0)) (va_Qi (fun r (I1 : tI) => h_I z I1 ∧ h_F [(353, 999), (302, 999), (354, 999), (1100, 999), (1101, 999), (10, 3), (10, 4)] z I0 I1 ∧ True) (fun (I1 : tI) t => h_B E A z I1 L0 t) A) 0 0 A := by
  refine Met.ofW (cc := cX11_draw) (maxL := 4) (ret := (some .int)) (by decide) rfl ?_
  intro pr_ ev_ s m args below meth cd_ s₁ B hml hv
  obtain ⟨rfl, hE, hk, hX, hA, hK, hI, hR, hB0⟩ := hv
  have g : h_G h_so h_fk E A z I0 L0 s s.heap s.heap [] := ⟨hK, va_S.rf, hB0⟩
  have hF : h_F [(353, 999), (302, 999), (354, 999), (1100, 999), (1101, 999), (10, 3), (10, 4)] z I0 I0 := h_F.rf
  have hx := B.exec
  have hb := B.bytes
  have hr := B.returns
  have hts := atoms_spec (ws := wsX11_draw) B.pre
  have hown : s.vm.findClass RX11 = some m.cls := findClass_of_methodNamed B.named
  have hlocks := B.notSynchronized
  have iX11 : ∀ w ∈ u_ws RX11 TX11 8, w ∈ wsX11_draw := by decide +kernel
  have iX2 : ∀ w ∈ u_ws RX2 TX2 7, w ∈ wsX11_draw := by decide +kernel
  have iX0 : ∀ w ∈ u_ws RX0 TX0 9, w ∈ wsX11_draw := by decide +kernel
  have hl := lv_entry ([.ref a0, .int a, .int b]) (n := 4) (Nat.le_of_ble_eq_true rfl)
  rw [lg_entry_eq]
  generalize (lg_sl ([.ref a0, .int a, .int b]) ++ List.replicate (4 - (lg_sl ([.ref a0, .int a, .int b])).length) Slot.unset).toArray = ls at hl ⊢
  have hl : lv_has ls 4 [(0, .ref a0), (1, .int a), (2, .int b)] := hl
  have b_a : -2147483648 ≤ a_t ∧ a_t ≤ 2147483647 := h_a ▸ ⟨xi_lo a, Int.le_of_lt_add_one (xi_hi a)⟩
  have b_b : -2147483648 ≤ b_t ∧ b_t ≤ 2147483647 := h_b ▸ ⟨xi_lo b, Int.le_of_lt_add_one (xi_hi b)⟩
  refine lv_aload_n hx hb dX11_draw_0 rfl (lv_at hl 0 rfl) ?_
  obtain ⟨b1, rb1, tb1⟩ := hR.at a0 3 t_a0 (rfl : h_rs 12 3 = some (1, false)) (by decide)
  refine h_get (v := .ref b1) hx hb hts iX11 hown g t_a0 (by decide) so_12 rfl 3 (by decide) (hts (.fieldLink RX11 37 "CapLeague" "books" "LCapLeague$Books;") (by decide +kernel)) rfl dX11_draw_1 (by show va_rf (z.R a0 3) = _; rw [rb1]; rfl) ?_
  refine va_csq (W.runV (As := []) (rest := []) ⟨hx, hb, hml, hown, hts⟩ (tX0_lawsNow l E X A z I0 L0 b1 tb1) (cwV 0 hts gX11_draw_X0_lawsNow rfl rfl rfl (by decide +kernel) ⟨Nat.le_of_ble_eq_true rfl, Nat.le_of_ble_eq_true rfl⟩) ⟨h_blind _ _ _ _ _ _ _, h_recv g tb1 (by decide) so_1 (q := (RX0, TX0, 9)) rfl, h_pre _ hE hk hX hA hI hR g⟩ rfl rfl hl.1 rfl (lv_room (Nat.le_of_ble_eq_true rfl)) dX11_draw_4 ⟨Nat.le_of_ble_eq_true rfl, Nat.le_of_ble_eq_true rfl⟩) (fun rh2 h2 => ?_)
  obtain ⟨rh2, rfl, trh2⟩ := h2
  refine xw_v (v := .ref rh2) rfl ?_
  refine lv_astore_n (lv' := [(3, .ref rh2), (0, .ref a0), (1, .int a), (2, .int b)]) hx hb dX11_draw_7 rfl hl (by decide) rfl (fun ls hl => ?_)
  refine lv_aload_n hx hb dX11_draw_8 rfl (lv_at hl 0 rfl) ?_
  refine lv_iload_n hx hb dX11_draw_9 rfl (lv_at hl 2 rfl) ?_
  refine lv_iload_n hx hb dX11_draw_10 rfl (lv_at hl 3 rfl) ?_
  refine vp_callSi (W.runV (As := [.int a, .int b]) (rest := []) ⟨hx, hb, hml, hown, hts⟩ (tX5_areDraws l E X A z I0 L0 rh2 trh2 a (a_t) h_a b (b_t) h_b) (cwV 2 hts gX11_draw_X5_areDraws rfl rfl rfl (by decide +kernel) ⟨Nat.le_of_ble_eq_true rfl, Nat.le_of_ble_eq_true rfl⟩) ⟨h_blind _ _ _ _ _ _ _, h_recv g trh2 (by decide) so_6 (q := (RX5, TX5, 3)) rfl, h_pre _ hE hk hX hA hI hR g⟩ rfl rfl hl.1 rfl (lv_room (Nat.le_of_ble_eq_true rfl)) dX11_draw_11 ⟨Nat.le_of_ble_eq_true rfl, Nat.le_of_ble_eq_true rfl⟩) (fun rh3 h3 => ?_)
  refine lv_if_ne (tgt := 20) hx hb dX11_draw_14 (by decide) (fun c4 => ?_) (fun c4 => ?_)
  · have ic4 := (xi_ne c4 rfl (by decide) : rh3.toInt ≠ 0)
    refine lv_aload_n hx hb dX11_draw_20 rfl (lv_at hl 1 rfl) ?_
    obtain ⟨b5, rb5, tb5⟩ := hR.at a0 7 t_a0 (rfl : h_rs 12 7 = some (3, false)) (by decide)
    refine h_get (v := .ref b5) hx hb hts iX11 hown g t_a0 (by decide) so_12 rfl 7 (by decide) (hts (.fieldLink RX11 69 "CapLeague" "draft" "LCapLeague$Draft;") (by decide +kernel)) rfl dX11_draw_21 (by show va_rf (z.R a0 7) = _; rw [rb5]; rfl) ?_
    refine h_get (v := .int (I0 b5 1)) hx hb hts iX2 hown g tb5 (by decide) so_3 rfl 1 (by decide) (hts (.fieldLink RX11 257 "CapLeague$Draft" "tableTold" "Z") (by decide +kernel)) rfl dX11_draw_24 rfl ?_
    refine lv_topi (fun v6 ev6 => ?_)
    have jv6 := hI.rd b5 1 tb5 ev6 (rfl : h_bd 3 1 = (0, 1))
    refine lv_if_eq (tgt := 47) hx hb dX11_draw_27 (by decide) (fun c7 => ?_) (fun c7 => ?_)
    · have ic7 := (xi_eq c7 rfl (by decide) : v6.toInt = 0)
      refine lv_bipush (v := (-4)) hx hb dX11_draw_47 (by decide) ?_
      have hS := g.2.1
      exact W.iret (v := (-4)) hx hb hr (fun t ht hW => ⟨⟨(-4), I0, rfl, ⟨hI, hF, trivial⟩, h_ret g ht⟩, hS.F ht⟩) hS.2.2 dX11_draw_49
    · have ic7 := (xi_ne c7 rfl (by decide) : v6.toInt ≠ 0)
      refine lv_aload_n hx hb dX11_draw_30 rfl (lv_at hl 1 rfl) ?_
      refine h_get (v := .ref b5) hx hb hts iX11 hown g t_a0 (by decide) so_12 rfl 7 (by decide) (hts (.fieldLink RX11 69 "CapLeague" "draft" "LCapLeague$Draft;") (by decide +kernel)) rfl dX11_draw_31 (by show va_rf (z.R a0 7) = _; rw [rb5]; rfl) ?_
      refine lv_aload_n hx hb dX11_draw_34 rfl (lv_at hl 1 rfl) ?_
      refine h_get (v := .ref b1) hx hb hts iX11 hown g t_a0 (by decide) so_12 rfl 3 (by decide) (hts (.fieldLink RX11 37 "CapLeague" "books" "LCapLeague$Books;") (by decide +kernel)) rfl dX11_draw_35 (by show va_rf (z.R a0 3) = _; rw [rb1]; rfl) ?_
      refine h_get (v := .int (I0 b1 3)) hx hb hts iX0 hown g tb1 (by decide) so_1 rfl 3 (by decide) (hts (.fieldLink RX11 142 "CapLeague$Books" "clock" "I") (by decide +kernel)) rfl dX11_draw_38 rfl ?_
      refine lv_topi (fun v8 ev8 => ?_)
      have jv8 := hI.rd b1 3 tb1 ev8 (rfl : h_bd 1 3 = (0, 9))
      refine vp_callSi (W.runV (As := [.int v8]) (rest := []) ⟨hx, hb, hml, hown, hts⟩ (tX2_isDrawn l E X A z I0 L0 b5 tb5 v8 (v8.toInt) rfl) (cwV 1 hts gX11_draw_X2_isDrawn rfl rfl rfl (by decide +kernel) ⟨Nat.le_of_ble_eq_true rfl, Nat.le_of_ble_eq_true rfl⟩) ⟨h_blind _ _ _ _ _ _ _, h_recv g tb5 (by decide) so_3 (q := (RX2, TX2, 7)) rfl, h_pre _ hE hk hX hA hI hR g⟩ rfl rfl hl.1 rfl (lv_room (Nat.le_of_ble_eq_true rfl)) dX11_draw_41 ⟨Nat.le_of_ble_eq_true rfl, Nat.le_of_ble_eq_true rfl⟩) (fun rh9 h9 => ?_)
      refine lv_if_eq (tgt := 50) hx hb dX11_draw_44 (by decide) (fun c10 => ?_) (fun c10 => ?_)
      · have ic10 := (xi_eq c10 rfl (by decide) : rh9.toInt = 0)
        refine lv_aload_n hx hb dX11_draw_50 rfl (lv_at hl 1 rfl) ?_
        refine h_get (v := .ref b5) hx hb hts iX11 hown g t_a0 (by decide) so_12 rfl 7 (by decide) (hts (.fieldLink RX11 69 "CapLeague" "draft" "LCapLeague$Draft;") (by decide +kernel)) rfl dX11_draw_51 (by show va_rf (z.R a0 7) = _; rw [rb5]; rfl) ?_
        refine lv_aload_n hx hb dX11_draw_54 rfl (lv_at hl 1 rfl) ?_
        refine h_get (v := .ref b1) hx hb hts iX11 hown g t_a0 (by decide) so_12 rfl 3 (by decide) (hts (.fieldLink RX11 37 "CapLeague" "books" "LCapLeague$Books;") (by decide +kernel)) rfl dX11_draw_55 (by show va_rf (z.R a0 3) = _; rw [rb1]; rfl) ?_
        refine h_get (v := .int v8) hx hb hts iX0 hown g tb1 (by decide) so_1 rfl 3 (by decide) (hts (.fieldLink RX11 142 "CapLeague$Books" "clock" "I") (by decide +kernel)) rfl dX11_draw_58 (congrArg Value.int (ev8.symm)) ?_
        refine lv_aload_n hx hb dX11_draw_61 rfl (lv_at hl 0 rfl) ?_
        refine lv_iload_n hx hb dX11_draw_62 rfl (lv_at hl 2 rfl) ?_
        refine lv_iload_n hx hb dX11_draw_63 rfl (lv_at hl 3 rfl) ?_
        refine va_callv (va_runV (As := [.int v8, .ref rh2, .int a, .int b]) (rest := []) ⟨hx, hb, hml, hown, hts⟩ (tX2_makeOrder l E X A z I0 L0 b5 tb5 v8 (v8.toInt) rfl rh2 trh2 a (a_t) h_a b (b_t) h_b) (cwV 4 hts gX11_draw_X2_makeOrder rfl rfl rfl (by decide +kernel) ⟨Nat.le_of_ble_eq_true rfl, Nat.le_of_ble_eq_true rfl⟩) ⟨h_blind _ _ _ _ _ _ _, h_recv g tb5 (by decide) so_3 (q := (RX2, TX2, 7)) rfl, h_pre _ hE hk hX hA hI hR g⟩ rfl rfl hl.1 rfl (lv_room (Nat.le_of_ble_eq_true rfl)) dX11_draw_64 ⟨Nat.le_of_ble_eq_true rfl, Nat.le_of_ble_eq_true rfl⟩) g.2.1 (fun q _ h => h) (fun q h => h) (fun I12 t H1 locs ht hvm h11 hB hz1 hk1 hS => ?_)
        obtain ⟨hI, fh11, h11⟩ := h11
        replace g := h_after g hB ht hS
        generalize H1 = H at g
        clear hB hk1 hz1 ht hvm hS
        have hF := hF.call fh11 rfl
        refine lv_aload_n hx hb dX11_draw_67 rfl (lv_at hl 1 rfl) ?_
        refine h_get (v := .ref b5) hx hb hts iX11 hown g t_a0 (by decide) so_12 rfl 7 (by decide) (hts (.fieldLink RX11 69 "CapLeague" "draft" "LCapLeague$Draft;") (by decide +kernel)) rfl dX11_draw_68 (by show va_rf (z.R a0 7) = _; rw [rb5]; rfl) ?_
        refine lv_aload_n hx hb dX11_draw_71 rfl (lv_at hl 1 rfl) ?_
        refine h_get (v := .ref b1) hx hb hts iX11 hown g t_a0 (by decide) so_12 rfl 3 (by decide) (hts (.fieldLink RX11 37 "CapLeague" "books" "LCapLeague$Books;") (by decide +kernel)) rfl dX11_draw_72 (by show va_rf (z.R a0 3) = _; rw [rb1]; rfl) ?_
        refine h_get (v := .int v8) hx hb hts iX0 hown g tb1 (by decide) so_1 rfl 3 (by decide) (hts (.fieldLink RX11 142 "CapLeague$Books" "clock" "I") (by decide +kernel)) rfl dX11_draw_75 (congrArg Value.int ((h_F.at fh11 tb1 rfl).trans (ev8.symm))) ?_
        refine lv_aload_n hx hb dX11_draw_78 rfl (lv_at hl 1 rfl) ?_
        obtain ⟨b13, rb13, tb13⟩ := hR.at a0 4 t_a0 (rfl : h_rs 12 4 = some (11, false)) (by decide)
        refine h_get (v := .ref b13) hx hb hts iX11 hown g t_a0 (by decide) so_12 rfl 4 (by decide) (hts (.fieldLink RX11 44 "CapLeague" "turns" "LCapLeague$Turns;") (by decide +kernel)) rfl dX11_draw_79 (by show va_rf (z.R a0 4) = _; rw [rb13]; rfl) ?_
        refine va_callv (va_runV (As := [.int v8, .ref b13]) (rest := []) ⟨hx, hb, hml, hown, hts⟩ (tX2_handOut l E X A z I12 L0 b5 tb5 v8 (v8.toInt) rfl b13 tb13) (cwV 2 hts gX11_draw_X2_handOut rfl rfl rfl (by decide +kernel) ⟨Nat.le_of_ble_eq_true rfl, Nat.le_of_ble_eq_true rfl⟩) ⟨h_blind _ _ _ _ _ _ _, h_recv g tb5 (by decide) so_3 (q := (RX2, TX2, 7)) rfl, h_pre _ hE hk hX hA hI hR g⟩ rfl rfl hl.1 rfl (lv_room (Nat.le_of_ble_eq_true rfl)) dX11_draw_82 ⟨Nat.le_of_ble_eq_true rfl, Nat.le_of_ble_eq_true rfl⟩) g.2.1 (fun q _ h => h) (fun q h => h) (fun I15 t H1 locs ht hvm h14 hB hz1 hk1 hS => ?_)
        obtain ⟨hI, fh14, h14⟩ := h14
        replace g := h_after g hB ht hS
        generalize H1 = H at g
        clear hB hk1 hz1 ht hvm hS
        have hF := hF.call fh14 rfl
        refine lv_aload_n hx hb dX11_draw_85 rfl (lv_at hl 1 rfl) ?_
        obtain ⟨b16, rb16, tb16⟩ := hR.at a0 5 t_a0 (rfl : h_rs 12 5 = some (10, false)) (by decide)
        refine h_get (v := .ref b16) hx hb hts iX11 hown g t_a0 (by decide) so_12 rfl 5 (by decide) (hts (.fieldLink RX11 53 "CapLeague" "bargain" "LCapLeague$Trade;") (by decide +kernel)) rfl dX11_draw_86 (by show va_rf (z.R a0 5) = _; rw [rb16]; rfl) ?_
        refine va_callv (va_runV (As := []) (rest := []) ⟨hx, hb, hml, hown, hts⟩ (tX9_clear l E X A z I15 L0 b16 tb16) (cwV 0 hts gX11_draw_X9_clear rfl rfl rfl (by decide +kernel) ⟨Nat.le_of_ble_eq_true rfl, Nat.le_of_ble_eq_true rfl⟩) ⟨h_blind _ _ _ _ _ _ _, h_recv g tb16 (by decide) so_10 (q := (RX9, TX9, 10)) rfl, h_pre _ hE hk hX hA hI hR g⟩ rfl rfl hl.1 rfl (lv_room (Nat.le_of_ble_eq_true rfl)) dX11_draw_89 ⟨Nat.le_of_ble_eq_true rfl, Nat.le_of_ble_eq_true rfl⟩) g.2.1 (fun q _ h => h) (fun q h => h) (fun I18 t H1 locs ht hvm h17 hB hz1 hk1 hS => ?_)
        obtain ⟨hI, fh17, h17⟩ := h17
        replace g := h_after g hB ht hS
        generalize H1 = H at g
        clear hB hk1 hz1 ht hvm hS
        have hF := hF.call fh17 rfl
        refine lv_iconst (v := 1) hx hb dX11_draw_92 (by decide) ?_
        have hS := g.2.1
        exact W.iret (v := 1) hx hb hr (fun t ht hW => ⟨⟨1, I18, rfl, ⟨hI, hF, trivial⟩, h_ret g ht⟩, hS.F ht⟩) hS.2.2 dX11_draw_93
      · have ic10 := (xi_ne c10 rfl (by decide) : rh9.toInt ≠ 0)
        refine lv_bipush (v := (-4)) hx hb dX11_draw_47 (by decide) ?_
        have hS := g.2.1
        exact W.iret (v := (-4)) hx hb hr (fun t ht hW => ⟨⟨(-4), I0, rfl, ⟨hI, hF, trivial⟩, h_ret g ht⟩, hS.F ht⟩) hS.2.2 dX11_draw_49
  · have ic4 := (xi_eq c4 rfl (by decide) : rh3.toInt = 0)
    refine lv_bipush (v := (-2)) hx hb dX11_draw_17 (by decide) ?_
    have hS := g.2.1
    exact W.iret (v := (-2)) hx hb hr (fun t ht hW => ⟨⟨(-2), I0, rfl, ⟨hI, hF, trivial⟩, h_ret g ht⟩, hS.F ht⟩) hS.2.2 dX11_draw_19
set_option maxHeartbeats 4000000 in
set_option maxRecDepth 100000 in
theorem tX11_turn (l : Launch) (E : tE) (X : tX) (A : Nat → Prop) (z : tZ) (I0 : tI) (L0 : tL) (a0 : Nat) (t_a0 : z.ty a0 = 12) (y : Int32) (y_t : Int) (h_y : y.toInt = y_t) (i : Int32) (i_t : Int) (h_i : i.toInt = i_t) (x : Int32) (x_t : Int) (h_x : x.toInt = x_t) : Met l yX11_turn wsX11_turn ({ frames := 3, cells := 0, slots := 0, locals := 192 }) (va_Pc [.ref a0, .int y, .int i, .int x] (h_P E X A z I0 L0)) (vp_Si (fun r => True)) 0 0 (fun _ => False) := by
  refine Met.ofW (cc := cX11_turn) (maxL := 4) (ret := (some .int)) (by decide) rfl ?_
  intro pr_ ev_ s m args below meth cd_ s₁ B hml hv
  obtain ⟨rfl, hE, hk, hX, hA, hK, hI, hR, hB0⟩ := hv
  have g : h_G h_so h_fk E A z I0 L0 s s.heap s.heap [] := ⟨hK, va_S.rf, hB0⟩
  have hx := B.exec
  have hb := B.bytes
  have hr := B.returns
  have hts := atoms_spec (ws := wsX11_turn) B.pre
  have hown : s.vm.findClass RX11 = some m.cls := findClass_of_methodNamed B.named
  have hlocks := B.notSynchronized
  have iX11 : ∀ w ∈ u_ws RX11 TX11 8, w ∈ wsX11_turn := by decide +kernel
  have iX2 : ∀ w ∈ u_ws RX2 TX2 7, w ∈ wsX11_turn := by decide +kernel
  have hl := lv_entry ([.ref a0, .int y, .int i, .int x]) (n := 4) (Nat.le_of_ble_eq_true rfl)
  rw [lg_entry_eq]
  generalize (lg_sl ([.ref a0, .int y, .int i, .int x]) ++ List.replicate (4 - (lg_sl ([.ref a0, .int y, .int i, .int x])).length) Slot.unset).toArray = ls at hl ⊢
  have hl : lv_has ls 4 [(0, .ref a0), (1, .int y), (2, .int i), (3, .int x)] := hl
  have b_y : -2147483648 ≤ y_t ∧ y_t ≤ 2147483647 := h_y ▸ ⟨xi_lo y, Int.le_of_lt_add_one (xi_hi y)⟩
  have b_i : -2147483648 ≤ i_t ∧ i_t ≤ 2147483647 := h_i ▸ ⟨xi_lo i, Int.le_of_lt_add_one (xi_hi i)⟩
  have b_x : -2147483648 ≤ x_t ∧ x_t ≤ 2147483647 := h_x ▸ ⟨xi_lo x, Int.le_of_lt_add_one (xi_hi x)⟩
  refine lv_iload_n hx hb dX11_turn_0 rfl (lv_at hl 1 rfl) ?_
  refine vp_callSi (W.runS (As := [.int y]) (rest := []) ⟨hx, hb, hml, hown, hts⟩ (tX11_isYear l E X A z I0 L0 y (y_t) h_y) (va_cwS 1 hts gX11_turn_X11_isYear rfl rfl rfl (by decide +kernel) ⟨Nat.le_of_ble_eq_true rfl, Nat.le_of_ble_eq_true rfl⟩) ⟨h_blind _ _ _ _ _ _ _, h_pre _ hE hk hX hA hI hR g⟩ rfl rfl hl.1 rfl (lv_room (Nat.le_of_ble_eq_true rfl)) dX11_turn_1 ⟨Nat.le_of_ble_eq_true rfl, Nat.le_of_ble_eq_true rfl⟩) (fun rh1 h1 => ?_)
  rcases h1 with ⟨rfl, h1⟩ | ⟨rfl, h1⟩
  · skip
    refine lv_if_eq (tgt := 28) hx hb dX11_turn_4 (by decide) (fun _ => ?_) (fun h => absurd (by decide) h)
    refine lv_iconst (v := (-1)) hx hb dX11_turn_28 (by decide) ?_
    exact W.iret (v := (-1)) hx hb hr (fun t ht hW => ⟨(-1), rfl, trivial, ht⟩) (fun _ h => by cases h) dX11_turn_29
  · skip
    refine lv_if_eq (tgt := 28) hx hb dX11_turn_4 (by decide) (fun h => absurd h (by decide)) (fun _ => ?_)
    refine lv_aload_n hx hb dX11_turn_7 rfl (lv_at hl 0 rfl) ?_
    obtain ⟨b4, rb4, tb4⟩ := hR.at a0 7 t_a0 (rfl : h_rs 12 7 = some (3, false)) (by decide)
    refine h_get (v := .ref b4) hx hb hts iX11 hown g t_a0 (by decide) so_12 rfl 7 (by decide) (hts (.fieldLink RX11 69 "CapLeague" "draft" "LCapLeague$Draft;") (by decide +kernel)) rfl dX11_turn_8 (by show va_rf (z.R a0 7) = _; rw [rb4]; rfl) ?_
    refine lv_iload_n hx hb dX11_turn_11 rfl (lv_at hl 1 rfl) ?_
    refine vp_callSi (W.runV (As := [.int y]) (rest := []) ⟨hx, hb, hml, hown, hts⟩ (tX2_isDrawn l E X A z I0 L0 b4 tb4 y (y_t) h_y) (cwV 1 hts gX11_turn_X2_isDrawn rfl rfl rfl (by decide +kernel) ⟨Nat.le_of_ble_eq_true rfl, Nat.le_of_ble_eq_true rfl⟩) ⟨h_blind _ _ _ _ _ _ _, h_recv g tb4 (by decide) so_3 (q := (RX2, TX2, 7)) rfl, h_pre _ hE hk hX hA hI hR g⟩ rfl rfl hl.1 rfl (lv_room (Nat.le_of_ble_eq_true rfl)) dX11_turn_12 ⟨Nat.le_of_ble_eq_true rfl, Nat.le_of_ble_eq_true rfl⟩) (fun rh5 h5 => ?_)
    refine lv_if_eq (tgt := 28) hx hb dX11_turn_15 (by decide) (fun c6 => ?_) (fun c6 => ?_)
    · have ic6 := (xi_eq c6 rfl (by decide) : rh5.toInt = 0)
      refine lv_iconst (v := (-1)) hx hb dX11_turn_28 (by decide) ?_
      exact W.iret (v := (-1)) hx hb hr (fun t ht hW => ⟨(-1), rfl, trivial, ht⟩) (fun _ h => by cases h) dX11_turn_29
    · have ic6 := (xi_ne c6 rfl (by decide) : rh5.toInt ≠ 0)
      refine lv_iload_n hx hb dX11_turn_18 rfl (lv_at hl 2 rfl) ?_
      refine lv_if_lt (tgt := 28) hx hb dX11_turn_19 (by decide) (fun c7 => ?_) (fun c7 => ?_)
      · have ic7 := (xi_lt c7 h_i (by decide) : i_t < 0)
        refine lv_iconst (v := (-1)) hx hb dX11_turn_28 (by decide) ?_
        exact W.iret (v := (-1)) hx hb hr (fun t ht hW => ⟨(-1), rfl, trivial, ht⟩) (fun _ h => by cases h) dX11_turn_29
      · have ic7 := (xi_nlt c7 h_i (by decide) : 0 ≤ i_t)
        refine lv_iload_n hx hb dX11_turn_22 rfl (lv_at hl 2 rfl) ?_
        refine lv_bipush (v := 8) hx hb dX11_turn_23 (by decide) ?_
        refine lv_icmp_lt (tgt := 30) hx hb dX11_turn_25 (by decide) (fun c8 => ?_) (fun c8 => ?_)
        · have ic8 := (xi_lt c8 h_i (by decide) : i_t < 8)
          refine lv_iload_n hx hb dX11_turn_30 rfl (lv_at hl 3 rfl) ?_
          refine lv_if_ne (tgt := 46) hx hb dX11_turn_31 (by decide) (fun c9 => ?_) (fun c9 => ?_)
          · have ic9 := (xi_ne c9 h_x (by decide) : x_t ≠ 0)
            refine lv_iload_n hx hb dX11_turn_46 rfl (lv_at hl 3 rfl) ?_
            refine lv_iconst (v := 1) hx hb dX11_turn_47 (by decide) ?_
            refine lv_icmp_ne (tgt := 65) hx hb dX11_turn_48 (by decide) (fun c10 => ?_) (fun c10 => ?_)
            · have ic10 := (xi_ne c10 h_x (by decide) : x_t ≠ 1)
              refine lv_iconst (v := (-1)) hx hb dX11_turn_65 (by decide) ?_
              exact W.iret (v := (-1)) hx hb hr (fun t ht hW => ⟨(-1), rfl, trivial, ht⟩) (fun _ h => by cases h) dX11_turn_66
            · have ic10 := (xi_eq c10 h_x (by decide) : x_t = 1)
              refine lv_aload_n hx hb dX11_turn_51 rfl (lv_at hl 0 rfl) ?_
              refine h_get (v := .ref b4) hx hb hts iX11 hown g t_a0 (by decide) so_12 rfl 7 (by decide) (hts (.fieldLink RX11 69 "CapLeague" "draft" "LCapLeague$Draft;") (by decide +kernel)) rfl dX11_turn_52 (by show va_rf (z.R a0 7) = _; rw [rb4]; rfl) ?_
              obtain ⟨b11, rb11, tb11⟩ := hR.at b4 4 tb4 (rfl : h_rs 3 4 = some (304, false)) (by decide)
              refine h_get (v := .ref b11) hx hb hts iX2 hown g tb4 (by decide) so_3 rfl 4 (by decide) (hts (.fieldLink RX11 291 "CapLeague$Draft" "having" "[[I") (by decide +kernel)) rfl dX11_turn_55 (by show va_rf (z.R b4 4) = _; rw [rb11]; rfl) ?_
              refine lv_iload_n hx hb dX11_turn_58 rfl (lv_at hl 1 rfl) ?_
              obtain ⟨b12, rb12, tb12⟩ := hR.at b11 y.toNatClampNeg tb11 (rfl : h_rs 304 _ = some (354, false)) (by rw [so_304]; exact h_lt (n := 10) (xi_in (by rw [h_y]; omega) (by rw [h_y]; omega)))
              refine h_aldA (v := .ref b12) hx hb g tb11 (by decide) so_304 (xi_in (by rw [h_y]; omega) (by rw [h_y]; omega)) dX11_turn_59 (by rw [rb12]; rfl) ?_
              refine lv_iload_n hx hb dX11_turn_60 rfl (lv_at hl 2 rfl) ?_
              refine h_ald hx hb g tb12 (by decide) so_354 (xi_in (by rw [h_i]; omega) (by rw [h_i]; omega)) dX11_turn_61 ?_
              refine lv_topi (fun v13 ev13 => ?_)
              have jv13 := hI.rd b12 i.toNatClampNeg tb12 ev13 (rfl : h_bd 354 _ = ((-2147483648), 2147483647))
              refine lv_goto (tgt := 66) hx hb dX11_turn_62 (by decide) ?_
              exact W.iret (v := v13) hx hb hr (fun t ht hW => ⟨v13, rfl, trivial, ht⟩) (fun _ h => by cases h) dX11_turn_66
          · have ic9 := (xi_eq c9 h_x (by decide) : x_t = 0)
            refine lv_aload_n hx hb dX11_turn_34 rfl (lv_at hl 0 rfl) ?_
            refine h_get (v := .ref b4) hx hb hts iX11 hown g t_a0 (by decide) so_12 rfl 7 (by decide) (hts (.fieldLink RX11 69 "CapLeague" "draft" "LCapLeague$Draft;") (by decide +kernel)) rfl dX11_turn_35 (by show va_rf (z.R a0 7) = _; rw [rb4]; rfl) ?_
            obtain ⟨b14, rb14, tb14⟩ := hR.at b4 3 tb4 (rfl : h_rs 3 3 = some (303, false)) (by decide)
            refine h_get (v := .ref b14) hx hb hts iX2 hown g tb4 (by decide) so_3 rfl 3 (by decide) (hts (.fieldLink RX11 288 "CapLeague$Draft" "order" "[[I") (by decide +kernel)) rfl dX11_turn_38 (by show va_rf (z.R b4 3) = _; rw [rb14]; rfl) ?_
            refine lv_iload_n hx hb dX11_turn_41 rfl (lv_at hl 1 rfl) ?_
            obtain ⟨b15, rb15, tb15⟩ := hR.at b14 y.toNatClampNeg tb14 (rfl : h_rs 303 _ = some (353, false)) (by rw [so_303]; exact h_lt (n := 10) (xi_in (by rw [h_y]; omega) (by rw [h_y]; omega)))
            refine h_aldA (v := .ref b15) hx hb g tb14 (by decide) so_303 (xi_in (by rw [h_y]; omega) (by rw [h_y]; omega)) dX11_turn_42 (by rw [rb15]; rfl) ?_
            refine lv_iload_n hx hb dX11_turn_43 rfl (lv_at hl 2 rfl) ?_
            refine h_ald hx hb g tb15 (by decide) so_353 (xi_in (by rw [h_i]; omega) (by rw [h_i]; omega)) dX11_turn_44 ?_
            refine lv_topi (fun v16 ev16 => ?_)
            have jv16 := hI.rd b15 i.toNatClampNeg tb15 ev16 (rfl : h_bd 353 _ = ((-2147483648), 2147483647))
            exact W.iret (v := v16) hx hb hr (fun t ht hW => ⟨v16, rfl, trivial, ht⟩) (fun _ h => by cases h) dX11_turn_45
        · have ic8 := (xi_nlt c8 h_i (by decide) : 8 ≤ i_t)
          refine lv_iconst (v := (-1)) hx hb dX11_turn_28 (by decide) ?_
          exact W.iret (v := (-1)) hx hb hr (fun t ht hW => ⟨(-1), rfl, trivial, ht⟩) (fun _ h => by cases h) dX11_turn_29
set_option maxHeartbeats 4000000 in
set_option maxRecDepth 100000 in
theorem tX11_owner (l : Launch) (E : tE) (X : tX) (A : Nat → Prop) (z : tZ) (I0 : tI) (L0 : tL) (a0 : Nat) (t_a0 : z.ty a0 = 12) (o : Int32) (o_t : Int) (h_o : o.toInt = o_t) (y : Int32) (y_t : Int) (h_y : y.toInt = y_t) (x : Int32) (x_t : Int) (h_x : x.toInt = x_t) : Met l yX11_owner wsX11_owner ({ frames := 2, cells := 0, slots := 0, locals := 128 }) (va_Pc [.ref a0, .int o, .int y, .int x] (h_P E X A z I0 L0)) (vp_Si (fun r => True)) 0 0 (fun _ => False) := by
  refine Met.ofW (cc := cX11_owner) (maxL := 5) (ret := (some .int)) (by decide) rfl ?_
  intro pr_ ev_ s m args below meth cd_ s₁ B hml hv
  obtain ⟨rfl, hE, hk, hX, hA, hK, hI, hR, hB0⟩ := hv
  have g : h_G h_so h_fk E A z I0 L0 s s.heap s.heap [] := ⟨hK, va_S.rf, hB0⟩
  have hx := B.exec
  have hb := B.bytes
  have hr := B.returns
  have hts := atoms_spec (ws := wsX11_owner) B.pre
  have hown : s.vm.findClass RX11 = some m.cls := findClass_of_methodNamed B.named
  have hlocks := B.notSynchronized
  have iX11 : ∀ w ∈ u_ws RX11 TX11 8, w ∈ wsX11_owner := by decide +kernel
  have iX10 : ∀ w ∈ u_ws RX10 TX10 4, w ∈ wsX11_owner := by decide +kernel
  have hl := lv_entry ([.ref a0, .int o, .int y, .int x]) (n := 5) (Nat.le_of_ble_eq_true rfl)
  rw [lg_entry_eq]
  generalize (lg_sl ([.ref a0, .int o, .int y, .int x]) ++ List.replicate (5 - (lg_sl ([.ref a0, .int o, .int y, .int x])).length) Slot.unset).toArray = ls at hl ⊢
  have hl : lv_has ls 5 [(0, .ref a0), (1, .int o), (2, .int y), (3, .int x)] := hl
  have b_o : -2147483648 ≤ o_t ∧ o_t ≤ 2147483647 := h_o ▸ ⟨xi_lo o, Int.le_of_lt_add_one (xi_hi o)⟩
  have b_y : -2147483648 ≤ y_t ∧ y_t ≤ 2147483647 := h_y ▸ ⟨xi_lo y, Int.le_of_lt_add_one (xi_hi y)⟩
  have b_x : -2147483648 ≤ x_t ∧ x_t ≤ 2147483647 := h_x ▸ ⟨xi_lo x, Int.le_of_lt_add_one (xi_hi x)⟩
  refine lv_iload_n hx hb dX11_owner_0 rfl (lv_at hl 1 rfl) ?_
  refine vp_callSi (W.runS (As := [.int o]) (rest := []) ⟨hx, hb, hml, hown, hts⟩ (tX11_isClub l E X A z I0 L0 o (o_t) h_o) (va_cwS 1 hts gX11_owner_X11_isClub rfl rfl rfl (by decide +kernel) ⟨Nat.le_of_ble_eq_true rfl, Nat.le_of_ble_eq_true rfl⟩) ⟨h_blind _ _ _ _ _ _ _, h_pre _ hE hk hX hA hI hR g⟩ rfl rfl hl.1 rfl (lv_room (Nat.le_of_ble_eq_true rfl)) dX11_owner_1 ⟨Nat.le_of_ble_eq_true rfl, Nat.le_of_ble_eq_true rfl⟩) (fun rh1 h1 => ?_)
  rcases h1 with ⟨rfl, h1⟩ | ⟨rfl, h1⟩
  · skip
    refine lv_if_eq (tgt := 23) hx hb dX11_owner_4 (by decide) (fun _ => ?_) (fun h => absurd (by decide) h)
    refine lv_bipush (v := (-2)) hx hb dX11_owner_23 (by decide) ?_
    exact W.iret (v := (-2)) hx hb hr (fun t ht hW => ⟨(-2), rfl, trivial, ht⟩) (fun _ h => by cases h) dX11_owner_25
  · skip
    refine lv_if_eq (tgt := 23) hx hb dX11_owner_4 (by decide) (fun h => absurd h (by decide)) (fun _ => ?_)
    refine lv_iload_n hx hb dX11_owner_7 rfl (lv_at hl 2 rfl) ?_
    refine vp_callSi (W.runS (As := [.int y]) (rest := []) ⟨hx, hb, hml, hown, hts⟩ (tX11_isYear l E X A z I0 L0 y (y_t) h_y) (va_cwS 1 hts gX11_owner_X11_isYear rfl rfl rfl (by decide +kernel) ⟨Nat.le_of_ble_eq_true rfl, Nat.le_of_ble_eq_true rfl⟩) ⟨h_blind _ _ _ _ _ _ _, h_pre _ hE hk hX hA hI hR g⟩ rfl rfl hl.1 rfl (lv_room (Nat.le_of_ble_eq_true rfl)) dX11_owner_8 ⟨Nat.le_of_ble_eq_true rfl, Nat.le_of_ble_eq_true rfl⟩) (fun rh4 h4 => ?_)
    rcases h4 with ⟨rfl, h4⟩ | ⟨rfl, h4⟩
    · skip
      refine lv_if_eq (tgt := 23) hx hb dX11_owner_11 (by decide) (fun _ => ?_) (fun h => absurd (by decide) h)
      refine lv_bipush (v := (-2)) hx hb dX11_owner_23 (by decide) ?_
      exact W.iret (v := (-2)) hx hb hr (fun t ht hW => ⟨(-2), rfl, trivial, ht⟩) (fun _ h => by cases h) dX11_owner_25
    · skip
      refine lv_if_eq (tgt := 23) hx hb dX11_owner_11 (by decide) (fun h => absurd h (by decide)) (fun _ => ?_)
      refine lv_iload_n hx hb dX11_owner_14 rfl (lv_at hl 3 rfl) ?_
      refine lv_if_lt (tgt := 23) hx hb dX11_owner_15 (by decide) (fun c7 => ?_) (fun c7 => ?_)
      · have ic7 := (xi_lt c7 h_x (by decide) : x_t < 0)
        refine lv_bipush (v := (-2)) hx hb dX11_owner_23 (by decide) ?_
        exact W.iret (v := (-2)) hx hb hr (fun t ht hW => ⟨(-2), rfl, trivial, ht⟩) (fun _ h => by cases h) dX11_owner_25
      · have ic7 := (xi_nlt c7 h_x (by decide) : 0 ≤ x_t)
        refine lv_iload_n hx hb dX11_owner_18 rfl (lv_at hl 3 rfl) ?_
        refine lv_iconst (v := 1) hx hb dX11_owner_19 (by decide) ?_
        refine lv_icmp_le (tgt := 26) hx hb dX11_owner_20 (by decide) (fun c8 => ?_) (fun c8 => ?_)
        · have ic8 := (xi_le c8 h_x (by decide) : x_t ≤ 1)
          refine lv_iload_n hx hb dX11_owner_26 rfl (lv_at hl 1 rfl) ?_
          refine lv_iload_n hx hb dX11_owner_27 rfl (lv_at hl 2 rfl) ?_
          refine vp_callSi (W.runS (As := [.int o, .int y]) (rest := []) ⟨hx, hb, hml, hown, hts⟩ (tX10_keyR l E X A z I0 L0 o (o_t) h_o (by omega) y (y_t) h_y (by omega)) (va_cwS 2 hts gX11_owner_X10_keyOf rfl rfl rfl (by decide +kernel) ⟨Nat.le_of_ble_eq_true rfl, Nat.le_of_ble_eq_true rfl⟩) ⟨h_blind _ _ _ _ _ _ _, h_pre _ hE hk hX hA hI hR g⟩ rfl rfl hl.1 rfl (lv_room (Nat.le_of_ble_eq_true rfl)) dX11_owner_28 ⟨Nat.le_of_ble_eq_true rfl, Nat.le_of_ble_eq_true rfl⟩) (fun rh9 h9 => ?_)
          obtain ⟨h9, h9p0⟩ := h9
          refine lv_istore (lv' := [(4, .int rh9), (0, .ref a0), (1, .int o), (2, .int y), (3, .int x)]) hx hb dX11_owner_31 hl (by decide) rfl (fun ls hl => ?_)
          refine lv_iload_n hx hb dX11_owner_33 rfl (lv_at hl 4 rfl) ?_
          refine lv_if_ne (tgt := 50) hx hb dX11_owner_34 (by decide) (fun c10 => ?_) (fun c10 => ?_)
          · have ic10 := (xi_ne c10 h_x (by decide) : x_t ≠ 0)
            refine lv_aload_n hx hb dX11_owner_50 rfl (lv_at hl 1 rfl) ?_
            obtain ⟨b11, rb11, tb11⟩ := hR.at a0 4 t_a0 (rfl : h_rs 12 4 = some (11, false)) (by decide)
            refine h_get (v := .ref b11) hx hb hts iX11 hown g t_a0 (by decide) so_12 rfl 4 (by decide) (hts (.fieldLink RX11 44 "CapLeague" "turns" "LCapLeague$Turns;") (by decide +kernel)) rfl dX11_owner_51 (by show va_rf (z.R a0 4) = _; rw [rb11]; rfl) ?_
            obtain ⟨b12, rb12, tb12⟩ := hR.at b11 1 tb11 (rfl : h_rs 11 1 = some (1101, false)) (by decide)
            refine h_get (v := .ref b12) hx hb hts iX10 hown g tb11 (by decide) so_11 rfl 1 (by decide) (hts (.fieldLink RX11 216 "CapLeague$Turns" "shield" "[I") (by decide +kernel)) rfl dX11_owner_54 (by show va_rf (z.R b11 1) = _; rw [rb12]; rfl) ?_
            refine lv_iload hx hb dX11_owner_57 (lv_at hl 0 rfl) ?_
            refine h_ald hx hb g tb12 (by decide) so_1101 (xi_in (by omega) (by omega)) dX11_owner_59 ?_
            refine lv_topi (fun v13 ev13 => ?_)
            have jv13 := hI.rd b12 rh9.toNatClampNeg tb12 ev13 (rfl : h_bd 1101 _ = ((-2147483648), 2147483647))
            exact W.iret (v := v13) hx hb hr (fun t ht hW => ⟨v13, rfl, trivial, ht⟩) (fun _ h => by cases h) dX11_owner_60
          · have ic10 := (xi_eq c10 h_x (by decide) : x_t = 0)
            refine lv_aload_n hx hb dX11_owner_37 rfl (lv_at hl 1 rfl) ?_
            obtain ⟨b14, rb14, tb14⟩ := hR.at a0 4 t_a0 (rfl : h_rs 12 4 = some (11, false)) (by decide)
            refine h_get (v := .ref b14) hx hb hts iX11 hown g t_a0 (by decide) so_12 rfl 4 (by decide) (hts (.fieldLink RX11 44 "CapLeague" "turns" "LCapLeague$Turns;") (by decide +kernel)) rfl dX11_owner_38 (by show va_rf (z.R a0 4) = _; rw [rb14]; rfl) ?_
            obtain ⟨b15, rb15, tb15⟩ := hR.at b14 0 tb14 (rfl : h_rs 11 0 = some (1100, false)) (by decide)
            refine h_get (v := .ref b15) hx hb hts iX10 hown g tb14 (by decide) so_11 rfl 0 (by decide) (hts (.fieldLink RX11 206 "CapLeague$Turns" "holder" "[I") (by decide +kernel)) rfl dX11_owner_41 (by show va_rf (z.R b14 0) = _; rw [rb15]; rfl) ?_
            refine lv_iload hx hb dX11_owner_44 (lv_at hl 0 rfl) ?_
            refine h_ald hx hb g tb15 (by decide) so_1100 (xi_in (by omega) (by omega)) dX11_owner_46 ?_
            refine lv_topi (fun v16 ev16 => ?_)
            have jv16 := hI.rd b15 rh9.toNatClampNeg tb15 ev16 (rfl : h_bd 1100 _ = ((-2147483648), 2147483647))
            refine lv_goto (tgt := 60) hx hb dX11_owner_47 (by decide) ?_
            exact W.iret (v := v16) hx hb hr (fun t ht hW => ⟨v16, rfl, trivial, ht⟩) (fun _ h => by cases h) dX11_owner_60
        · have ic8 := (xi_nle c8 h_x (by decide) : 1 < x_t)
          refine lv_bipush (v := (-2)) hx hb dX11_owner_23 (by decide) ?_
          exact W.iret (v := (-2)) hx hb hr (fun t ht hW => ⟨(-2), rfl, trivial, ht⟩) (fun _ h => by cases h) dX11_owner_25
set_option maxHeartbeats 4000000 in
set_option maxRecDepth 100000 in
theorem tX11_next (l : Launch) (E : tE) (X : tX) (A : Nat → Prop) (z : tZ) (I0 : tI) (L0 : tL) (a0 : Nat) (t_a0 : z.ty a0 = 12) : Met l yX11_next wsX11_next ({ frames := 7, cells := 0, slots := 0, locals := 448 }) (va_Pc [.ref a0] (h_P E X A z I0 L0)) (va_Qi (fun r (I1 : tI) => h_I z I1 ∧ h_F [(108, 999), (106, 999), (1, 7), (1, 3), (105, 999), (7, 7), (7, 0), (7, 1), (7, 2), (7, 3), (7, 4), (7, 5), (7, 6), (3, 1), (10, 3), (10, 4)] z I0 I1 ∧ True) (fun (I1 : tI) t => h_B E A z I1 L0 t) A) 0 0 A := by
  refine Met.ofW (cc := cX11_next) (maxL := 1) (ret := (some .int)) (by decide) rfl ?_
  intro pr_ ev_ s m args below meth cd_ s₁ B hml hv
  obtain ⟨rfl, hE, hk, hX, hA, hK, hI, hR, hB0⟩ := hv
  have g : h_G h_so h_fk E A z I0 L0 s s.heap s.heap [] := ⟨hK, va_S.rf, hB0⟩
  have hF : h_F [(108, 999), (106, 999), (1, 7), (1, 3), (105, 999), (7, 7), (7, 0), (7, 1), (7, 2), (7, 3), (7, 4), (7, 5), (7, 6), (3, 1), (10, 3), (10, 4)] z I0 I0 := h_F.rf
  have hx := B.exec
  have hb := B.bytes
  have hr := B.returns
  have hts := atoms_spec (ws := wsX11_next) B.pre
  have hown : s.vm.findClass RX11 = some m.cls := findClass_of_methodNamed B.named
  have hlocks := B.notSynchronized
  have iX11 : ∀ w ∈ u_ws RX11 TX11 8, w ∈ wsX11_next := by decide +kernel
  have iX0 : ∀ w ∈ u_ws RX0 TX0 9, w ∈ wsX11_next := by decide +kernel
  have iX2 : ∀ w ∈ u_ws RX2 TX2 7, w ∈ wsX11_next := by decide +kernel
  have hl := lv_entry ([.ref a0]) (n := 1) (Nat.le_of_ble_eq_true rfl)
  rw [lg_entry_eq]
  generalize (lg_sl ([.ref a0]) ++ List.replicate (1 - (lg_sl ([.ref a0])).length) Slot.unset).toArray = ls at hl ⊢
  have hl : lv_has ls 1 [(0, .ref a0)] := hl
  refine lv_aload_n hx hb dX11_next_0 rfl (lv_at hl 0 rfl) ?_
  obtain ⟨b1, rb1, tb1⟩ := hR.at a0 3 t_a0 (rfl : h_rs 12 3 = some (1, false)) (by decide)
  refine h_get (v := .ref b1) hx hb hts iX11 hown g t_a0 (by decide) so_12 rfl 3 (by decide) (hts (.fieldLink RX11 37 "CapLeague" "books" "LCapLeague$Books;") (by decide +kernel)) rfl dX11_next_1 (by show va_rf (z.R a0 3) = _; rw [rb1]; rfl) ?_
  refine h_get (v := .int (I0 b1 3)) hx hb hts iX0 hown g tb1 (by decide) so_1 rfl 3 (by decide) (hts (.fieldLink RX11 142 "CapLeague$Books" "clock" "I") (by decide +kernel)) rfl dX11_next_4 rfl ?_
  refine lv_topi (fun v2 ev2 => ?_)
  have jv2 := hI.rd b1 3 tb1 ev2 (rfl : h_bd 1 3 = (0, 9))
  refine lv_bipush (v := 9) hx hb dX11_next_7 (by decide) ?_
  refine lv_icmp_ge (tgt := 29) hx hb dX11_next_9 (by decide) (fun c3 => ?_) (fun c3 => ?_)
  · have ic3 := (xi_le c3 (by decide) rfl : 9 ≤ v2.toInt)
    refine lv_bipush (v := (-4)) hx hb dX11_next_29 (by decide) ?_
    have hS := g.2.1
    exact W.iret (v := (-4)) hx hb hr (fun t ht hW => ⟨⟨(-4), I0, rfl, ⟨hI, hF, trivial⟩, h_ret g ht⟩, hS.F ht⟩) hS.2.2 dX11_next_31
  · have ic3 := (xi_nle c3 (by decide) rfl : v2.toInt < 9)
    refine lv_aload_n hx hb dX11_next_12 rfl (lv_at hl 0 rfl) ?_
    obtain ⟨b4, rb4, tb4⟩ := hR.at a0 7 t_a0 (rfl : h_rs 12 7 = some (3, false)) (by decide)
    refine h_get (v := .ref b4) hx hb hts iX11 hown g t_a0 (by decide) so_12 rfl 7 (by decide) (hts (.fieldLink RX11 69 "CapLeague" "draft" "LCapLeague$Draft;") (by decide +kernel)) rfl dX11_next_13 (by show va_rf (z.R a0 7) = _; rw [rb4]; rfl) ?_
    refine lv_aload_n hx hb dX11_next_16 rfl (lv_at hl 0 rfl) ?_
    refine h_get (v := .ref b1) hx hb hts iX11 hown g t_a0 (by decide) so_12 rfl 3 (by decide) (hts (.fieldLink RX11 37 "CapLeague" "books" "LCapLeague$Books;") (by decide +kernel)) rfl dX11_next_17 (by show va_rf (z.R a0 3) = _; rw [rb1]; rfl) ?_
    refine h_get (v := .int v2) hx hb hts iX0 hown g tb1 (by decide) so_1 rfl 3 (by decide) (hts (.fieldLink RX11 142 "CapLeague$Books" "clock" "I") (by decide +kernel)) rfl dX11_next_20 (congrArg Value.int (ev2.symm)) ?_
    refine vp_callSi (W.runV (As := [.int v2]) (rest := []) ⟨hx, hb, hml, hown, hts⟩ (tX2_isDrawn l E X A z I0 L0 b4 tb4 v2 (v2.toInt) rfl) (cwV 1 hts gX11_next_X2_isDrawn rfl rfl rfl (by decide +kernel) ⟨Nat.le_of_ble_eq_true rfl, Nat.le_of_ble_eq_true rfl⟩) ⟨h_blind _ _ _ _ _ _ _, h_recv g tb4 (by decide) so_3 (q := (RX2, TX2, 7)) rfl, h_pre _ hE hk hX hA hI hR g⟩ rfl rfl hl.1 rfl (lv_room (Nat.le_of_ble_eq_true rfl)) dX11_next_23 ⟨Nat.le_of_ble_eq_true rfl, Nat.le_of_ble_eq_true rfl⟩) (fun rh5 h5 => ?_)
    refine lv_if_ne (tgt := 32) hx hb dX11_next_26 (by decide) (fun c6 => ?_) (fun c6 => ?_)
    · have ic6 := (xi_ne c6 rfl (by decide) : rh5.toInt ≠ 0)
      refine lv_aload_n hx hb dX11_next_32 rfl (lv_at hl 0 rfl) ?_
      refine h_get (v := .ref b1) hx hb hts iX11 hown g t_a0 (by decide) so_12 rfl 3 (by decide) (hts (.fieldLink RX11 37 "CapLeague" "books" "LCapLeague$Books;") (by decide +kernel)) rfl dX11_next_33 (by show va_rf (z.R a0 3) = _; rw [rb1]; rfl) ?_
      refine va_callv (va_runV (As := []) (rest := []) ⟨hx, hb, hml, hown, hts⟩ (tX0_closeYear l E X A z I0 L0 b1 tb1 (by rw [ev2.symm]; omega)) (cwV 0 hts gX11_next_X0_closeYear rfl rfl rfl (by decide +kernel) ⟨Nat.le_of_ble_eq_true rfl, Nat.le_of_ble_eq_true rfl⟩) ⟨h_blind _ _ _ _ _ _ _, h_recv g tb1 (by decide) so_1 (q := (RX0, TX0, 9)) rfl, h_pre _ hE hk hX hA hI hR g⟩ rfl rfl hl.1 rfl (lv_room (Nat.le_of_ble_eq_true rfl)) dX11_next_36 ⟨Nat.le_of_ble_eq_true rfl, Nat.le_of_ble_eq_true rfl⟩) g.2.1 (fun q _ h => h) (fun q h => h) (fun I8 t H1 locs ht hvm h7 hB hz1 hk1 hS => ?_)
      obtain ⟨hI, fh7, h7⟩ := h7
      replace g := h_after g hB ht hS
      generalize H1 = H at g
      clear hB hk1 hz1 ht hvm hS
      have hF := hF.call fh7 rfl
      refine lv_aload_n hx hb dX11_next_39 rfl (lv_at hl 0 rfl) ?_
      refine h_get (v := .ref b4) hx hb hts iX11 hown g t_a0 (by decide) so_12 rfl 7 (by decide) (hts (.fieldLink RX11 69 "CapLeague" "draft" "LCapLeague$Draft;") (by decide +kernel)) rfl dX11_next_40 (by show va_rf (z.R a0 7) = _; rw [rb4]; rfl) ?_
      refine lv_iconst (v := 0) hx hb dX11_next_43 (by decide) ?_
      refine h_putI (ty := .boolean) (v := 0) hx hb hts iX2 tyX2 tyX2_ok nmX2 hown g tb4 (by decide) so_3 rfl 1 (by decide) rfl (hts (.fieldLink RX11 257 "CapLeague$Draft" "tableTold" "Z") (by decide +kernel)) rfl rfl (by decide +kernel) (by decide) (by decide) dX11_next_44 (fun I9 H locs eI9 g => ?_)
      have hI := hI.wr eI9 tb4 (rfl : h_bd 3 1 = (0, 1)) (by decide) (by decide)
      have hF := hF.wr eI9 tb4 rfl
      refine lv_aload_n hx hb dX11_next_47 rfl (lv_at hl 0 rfl) ?_
      obtain ⟨b10, rb10, tb10⟩ := hR.at a0 5 t_a0 (rfl : h_rs 12 5 = some (10, false)) (by decide)
      refine h_get (v := .ref b10) hx hb hts iX11 hown g t_a0 (by decide) so_12 rfl 5 (by decide) (hts (.fieldLink RX11 53 "CapLeague" "bargain" "LCapLeague$Trade;") (by decide +kernel)) rfl dX11_next_48 (by show va_rf (z.R a0 5) = _; rw [rb10]; rfl) ?_
      refine va_callv (va_runV (As := []) (rest := []) ⟨hx, hb, hml, hown, hts⟩ (tX9_clear l E X A z I9 L0 b10 tb10) (cwV 0 hts gX11_next_X9_clear rfl rfl rfl (by decide +kernel) ⟨Nat.le_of_ble_eq_true rfl, Nat.le_of_ble_eq_true rfl⟩) ⟨h_blind _ _ _ _ _ _ _, h_recv g tb10 (by decide) so_10 (q := (RX9, TX9, 10)) rfl, h_pre _ hE hk hX hA hI hR g⟩ rfl rfl hl.1 rfl (lv_room (Nat.le_of_ble_eq_true rfl)) dX11_next_51 ⟨Nat.le_of_ble_eq_true rfl, Nat.le_of_ble_eq_true rfl⟩) g.2.1 (fun q _ h => h) (fun q h => h) (fun I12 t H1 locs ht hvm h11 hB hz1 hk1 hS => ?_)
      obtain ⟨hI, fh11, h11⟩ := h11
      replace g := h_after g hB ht hS
      generalize H1 = H at g
      clear hB hk1 hz1 ht hvm hS
      have hF := hF.call fh11 rfl
      refine lv_aload_n hx hb dX11_next_54 rfl (lv_at hl 0 rfl) ?_
      refine h_get (v := .ref b1) hx hb hts iX11 hown g t_a0 (by decide) so_12 rfl 3 (by decide) (hts (.fieldLink RX11 37 "CapLeague" "books" "LCapLeague$Books;") (by decide +kernel)) rfl dX11_next_55 (by show va_rf (z.R a0 3) = _; rw [rb1]; rfl) ?_
      refine h_get (v := .int (I12 b1 3)) hx hb hts iX0 hown g tb1 (by decide) so_1 rfl 3 (by decide) (hts (.fieldLink RX11 142 "CapLeague$Books" "clock" "I") (by decide +kernel)) rfl dX11_next_58 rfl ?_
      refine lv_topi (fun v13 ev13 => ?_)
      have jv13 := hI.rd b1 3 tb1 ev13 (rfl : h_bd 1 3 = (0, 9))
      have hS := g.2.1
      exact W.iret (v := v13) hx hb hr (fun t ht hW => ⟨⟨v13, I12, rfl, ⟨hI, hF, trivial⟩, h_ret g ht⟩, hS.F ht⟩) hS.2.2 dX11_next_61
    · have ic6 := (xi_eq c6 rfl (by decide) : rh5.toInt = 0)
      refine lv_bipush (v := (-4)) hx hb dX11_next_29 (by decide) ?_
      have hS := g.2.1
      exact W.iret (v := (-4)) hx hb hr (fun t ht hW => ⟨⟨(-4), I0, rfl, ⟨hI, hF, trivial⟩, h_ret g ht⟩, hS.F ht⟩) hS.2.2 dX11_next_31
set_option maxHeartbeats 4000000 in
set_option maxRecDepth 100000 in
theorem tX11_purse (l : Launch) (E : tE) (X : tX) (A : Nat → Prop) (z : tZ) (I0 : tI) (L0 : tL) (a0 : Nat) (t_a0 : z.ty a0 = 12) (c : Int32) (c_t : Int) (h_c : c.toInt = c_t) : Met l yX11_purse wsX11_purse ({ frames := 2, cells := 0, slots := 0, locals := 128 }) (va_Pc [.ref a0, .int c] (h_P E X A z I0 L0)) (vp_Si (fun r => True)) 0 0 (fun _ => False) := by
  refine Met.ofW (cc := cX11_purse) (maxL := 2) (ret := (some .int)) (by decide) rfl ?_
  intro pr_ ev_ s m args below meth cd_ s₁ B hml hv
  obtain ⟨rfl, hE, hk, hX, hA, hK, hI, hR, hB0⟩ := hv
  have g : h_G h_so h_fk E A z I0 L0 s s.heap s.heap [] := ⟨hK, va_S.rf, hB0⟩
  have hx := B.exec
  have hb := B.bytes
  have hr := B.returns
  have hts := atoms_spec (ws := wsX11_purse) B.pre
  have hown : s.vm.findClass RX11 = some m.cls := findClass_of_methodNamed B.named
  have hlocks := B.notSynchronized
  have iX11 : ∀ w ∈ u_ws RX11 TX11 8, w ∈ wsX11_purse := by decide +kernel
  have iX0 : ∀ w ∈ u_ws RX0 TX0 9, w ∈ wsX11_purse := by decide +kernel
  have hl := lv_entry ([.ref a0, .int c]) (n := 2) (Nat.le_of_ble_eq_true rfl)
  rw [lg_entry_eq]
  generalize (lg_sl ([.ref a0, .int c]) ++ List.replicate (2 - (lg_sl ([.ref a0, .int c])).length) Slot.unset).toArray = ls at hl ⊢
  have hl : lv_has ls 2 [(0, .ref a0), (1, .int c)] := hl
  have b_c : -2147483648 ≤ c_t ∧ c_t ≤ 2147483647 := h_c ▸ ⟨xi_lo c, Int.le_of_lt_add_one (xi_hi c)⟩
  refine lv_iload_n hx hb dX11_purse_0 rfl (lv_at hl 1 rfl) ?_
  refine vp_callSi (W.runS (As := [.int c]) (rest := []) ⟨hx, hb, hml, hown, hts⟩ (tX11_isClub l E X A z I0 L0 c (c_t) h_c) (va_cwS 1 hts gX11_purse_X11_isClub rfl rfl rfl (by decide +kernel) ⟨Nat.le_of_ble_eq_true rfl, Nat.le_of_ble_eq_true rfl⟩) ⟨h_blind _ _ _ _ _ _ _, h_pre _ hE hk hX hA hI hR g⟩ rfl rfl hl.1 rfl (lv_room (Nat.le_of_ble_eq_true rfl)) dX11_purse_1 ⟨Nat.le_of_ble_eq_true rfl, Nat.le_of_ble_eq_true rfl⟩) (fun rh1 h1 => ?_)
  rcases h1 with ⟨rfl, h1⟩ | ⟨rfl, h1⟩
  · skip
    refine lv_if_eq (tgt := 19) hx hb dX11_purse_4 (by decide) (fun _ => ?_) (fun h => absurd (by decide) h)
    refine lv_ldc (v := (-2000000000)) hx hb hown (hts (.constant RX11 232 (-2000000000)) (by decide +kernel)) dX11_purse_19 ?_
    exact W.iret (v := (-2000000000)) hx hb hr (fun t ht hW => ⟨(-2000000000), rfl, trivial, ht⟩) (fun _ h => by cases h) dX11_purse_21
  · skip
    refine lv_if_eq (tgt := 19) hx hb dX11_purse_4 (by decide) (fun h => absurd h (by decide)) (fun _ => ?_)
    refine lv_aload_n hx hb dX11_purse_7 rfl (lv_at hl 0 rfl) ?_
    obtain ⟨b4, rb4, tb4⟩ := hR.at a0 3 t_a0 (rfl : h_rs 12 3 = some (1, false)) (by decide)
    refine h_get (v := .ref b4) hx hb hts iX11 hown g t_a0 (by decide) so_12 rfl 3 (by decide) (hts (.fieldLink RX11 37 "CapLeague" "books" "LCapLeague$Books;") (by decide +kernel)) rfl dX11_purse_8 (by show va_rf (z.R a0 3) = _; rw [rb4]; rfl) ?_
    obtain ⟨b5, rb5, tb5⟩ := hR.at b4 6 tb4 (rfl : h_rs 1 6 = some (106, false)) (by decide)
    refine h_get (v := .ref b5) hx hb hts iX0 hown g tb4 (by decide) so_1 rfl 6 (by decide) (hts (.fieldLink RX11 297 "CapLeague$Books" "fines" "[I") (by decide +kernel)) rfl dX11_purse_11 (by show va_rf (z.R b4 6) = _; rw [rb5]; rfl) ?_
    refine lv_iload_n hx hb dX11_purse_14 rfl (lv_at hl 1 rfl) ?_
    refine h_ald hx hb g tb5 (by decide) so_106 (xi_in (by rw [h_c]; omega) (by rw [h_c]; omega)) dX11_purse_15 ?_
    refine lv_topi (fun v6 ev6 => ?_)
    have jv6 := hI.rd b5 c.toNatClampNeg tb5 ev6 (rfl : h_bd 106 _ = ((-2147483648), 2147483647))
    refine lv_goto (tgt := 21) hx hb dX11_purse_16 (by decide) ?_
    exact W.iret (v := v6) hx hb hr (fun t ht hW => ⟨v6, rfl, trivial, ht⟩) (fun _ h => by cases h) dX11_purse_21
set_option maxHeartbeats 4000000 in
set_option maxRecDepth 100000 in
theorem tX11_count (l : Launch) (E : tE) (X : tX) (A : Nat → Prop) (z : tZ) (I0 : tI) (L0 : tL) (a0 : Nat) (t_a0 : z.ty a0 = 12) (x : Int32) (x_t : Int) (h_x : x.toInt = x_t) : Met l yX11_count wsX11_count ({ frames := 3, cells := 0, slots := 0, locals := 192 }) (va_Pc [.ref a0, .int x] (h_P E X A z I0 L0)) (vp_Si (fun r => True)) 0 0 (fun _ => False) := by
  refine Met.ofW (cc := cX11_count) (maxL := 2) (ret := (some .int)) (by decide) rfl ?_
  intro pr_ ev_ s m args below meth cd_ s₁ B hml hv
  obtain ⟨rfl, hE, hk, hX, hA, hK, hI, hR, hB0⟩ := hv
  have g : h_G h_so h_fk E A z I0 L0 s s.heap s.heap [] := ⟨hK, va_S.rf, hB0⟩
  have hx := B.exec
  have hb := B.bytes
  have hr := B.returns
  have hts := atoms_spec (ws := wsX11_count) B.pre
  have hown : s.vm.findClass RX11 = some m.cls := findClass_of_methodNamed B.named
  have hlocks := B.notSynchronized
  have iX11 : ∀ w ∈ u_ws RX11 TX11 8, w ∈ wsX11_count := by decide +kernel
  have iX0 : ∀ w ∈ u_ws RX0 TX0 9, w ∈ wsX11_count := by decide +kernel
  have iX9 : ∀ w ∈ u_ws RX9 TX9 10, w ∈ wsX11_count := by decide +kernel
  have iX8 : ∀ w ∈ u_ws RX8 TX8 2, w ∈ wsX11_count := by decide +kernel
  have iX2 : ∀ w ∈ u_ws RX2 TX2 7, w ∈ wsX11_count := by decide +kernel
  have hl := lv_entry ([.ref a0, .int x]) (n := 2) (Nat.le_of_ble_eq_true rfl)
  rw [lg_entry_eq]
  generalize (lg_sl ([.ref a0, .int x]) ++ List.replicate (2 - (lg_sl ([.ref a0, .int x])).length) Slot.unset).toArray = ls at hl ⊢
  have hl : lv_has ls 2 [(0, .ref a0), (1, .int x)] := hl
  have b_x : -2147483648 ≤ x_t ∧ x_t ≤ 2147483647 := h_x ▸ ⟨xi_lo x, Int.le_of_lt_add_one (xi_hi x)⟩
  refine lv_iload_n hx hb dX11_count_0 rfl (lv_at hl 1 rfl) ?_
  have qc1 : x.toInt = x_t := h_x
  rcases (show (x.toInt < 0 ∨ 6 < x.toInt) ∨ x.toInt = 0 ∨ x.toInt = 1 ∨ x.toInt = 2 ∨ x.toInt = 3 ∨ x.toInt = 4 ∨ x.toInt = 5 ∨ x.toInt = 6 by omega) with c1 | c1 | c1 | c1 | c1 | c1 | c1 | c1
  · refine lv_tableOut (tgt := 123) hx hb dX11_count_1 c1 (by decide) ?_
    refine lv_iconst (v := (-1)) hx hb dX11_count_123 (by decide) ?_
    exact W.iret (v := (-1)) hx hb hr (fun t ht hW => ⟨(-1), rfl, trivial, ht⟩) (fun _ h => by cases h) dX11_count_124
  · refine lv_tableIn (off := 43) (tgt := 44) hx hb dX11_count_1 (by omega) (by omega) (by rw [show (x.toInt - 0).toNat = 0 by omega]; rfl) (by decide) ?_
    refine lv_aload_n hx hb dX11_count_44 rfl (lv_at hl 0 rfl) ?_
    obtain ⟨b2, rb2, tb2⟩ := hR.at a0 3 t_a0 (rfl : h_rs 12 3 = some (1, false)) (by decide)
    refine h_get (v := .ref b2) hx hb hts iX11 hown g t_a0 (by decide) so_12 rfl 3 (by decide) (hts (.fieldLink RX11 37 "CapLeague" "books" "LCapLeague$Books;") (by decide +kernel)) rfl dX11_count_45 (by show va_rf (z.R a0 3) = _; rw [rb2]; rfl) ?_
    refine h_get (v := .int (I0 b2 3)) hx hb hts iX0 hown g tb2 (by decide) so_1 rfl 3 (by decide) (hts (.fieldLink RX11 142 "CapLeague$Books" "clock" "I") (by decide +kernel)) rfl dX11_count_48 rfl ?_
    refine lv_topi (fun v3 ev3 => ?_)
    have jv3 := hI.rd b2 3 tb2 ev3 (rfl : h_bd 1 3 = (0, 9))
    exact W.iret (v := v3) hx hb hr (fun t ht hW => ⟨v3, rfl, trivial, ht⟩) (fun _ h => by cases h) dX11_count_51
  · refine lv_tableIn (off := 51) (tgt := 52) hx hb dX11_count_1 (by omega) (by omega) (by rw [show (x.toInt - 0).toNat = 1 by omega]; rfl) (by decide) ?_
    refine lv_aload_n hx hb dX11_count_52 rfl (lv_at hl 0 rfl) ?_
    obtain ⟨b4, rb4, tb4⟩ := hR.at a0 3 t_a0 (rfl : h_rs 12 3 = some (1, false)) (by decide)
    refine h_get (v := .ref b4) hx hb hts iX11 hown g t_a0 (by decide) so_12 rfl 3 (by decide) (hts (.fieldLink RX11 37 "CapLeague" "books" "LCapLeague$Books;") (by decide +kernel)) rfl dX11_count_53 (by show va_rf (z.R a0 3) = _; rw [rb4]; rfl) ?_
    refine h_get (v := .int (I0 b4 2)) hx hb hts iX0 hown g tb4 (by decide) so_1 rfl 2 (by decide) (hts (.fieldLink RX11 300 "CapLeague$Books" "size" "I") (by decide +kernel)) rfl dX11_count_56 rfl ?_
    refine lv_topi (fun v5 ev5 => ?_)
    have jv5 := hI.rd b4 2 tb4 ev5 (rfl : h_bd 1 2 = (0, 60))
    exact W.iret (v := v5) hx hb hr (fun t ht hW => ⟨v5, rfl, trivial, ht⟩) (fun _ h => by cases h) dX11_count_59
  · refine lv_tableIn (off := 59) (tgt := 60) hx hb dX11_count_1 (by omega) (by omega) (by rw [show (x.toInt - 0).toNat = 2 by omega]; rfl) (by decide) ?_
    refine lv_aload_n hx hb dX11_count_60 rfl (lv_at hl 0 rfl) ?_
    obtain ⟨b6, rb6, tb6⟩ := hR.at a0 5 t_a0 (rfl : h_rs 12 5 = some (10, false)) (by decide)
    refine h_get (v := .ref b6) hx hb hts iX11 hown g t_a0 (by decide) so_12 rfl 5 (by decide) (hts (.fieldLink RX11 53 "CapLeague" "bargain" "LCapLeague$Trade;") (by decide +kernel)) rfl dX11_count_61 (by show va_rf (z.R a0 5) = _; rw [rb6]; rfl) ?_
    refine h_get (v := .int (I0 b6 3)) hx hb hts iX9 hown g tb6 (by decide) so_10 rfl 3 (by decide) (hts (.fieldLink RX11 301 "CapLeague$Trade" "size" "I") (by decide +kernel)) rfl dX11_count_64 rfl ?_
    refine lv_topi (fun v7 ev7 => ?_)
    have jv7 := hI.rd b6 3 tb6 ev7 (rfl : h_bd 10 3 = (0, 12))
    exact W.iret (v := v7) hx hb hr (fun t ht hW => ⟨v7, rfl, trivial, ht⟩) (fun _ h => by cases h) dX11_count_67
  · refine lv_tableIn (off := 67) (tgt := 68) hx hb dX11_count_1 (by omega) (by omega) (by rw [show (x.toInt - 0).toNat = 3 by omega]; rfl) (by decide) ?_
    refine lv_aload_n hx hb dX11_count_68 rfl (lv_at hl 0 rfl) ?_
    obtain ⟨b8, rb8, tb8⟩ := hR.at a0 3 t_a0 (rfl : h_rs 12 3 = some (1, false)) (by decide)
    refine h_get (v := .ref b8) hx hb hts iX11 hown g t_a0 (by decide) so_12 rfl 3 (by decide) (hts (.fieldLink RX11 37 "CapLeague" "books" "LCapLeague$Books;") (by decide +kernel)) rfl dX11_count_69 (by show va_rf (z.R a0 3) = _; rw [rb8]; rfl) ?_
    refine h_get (v := .int (I0 b8 7)) hx hb hts iX0 hown g tb8 (by decide) so_1 rfl 7 (by decide) (hts (.fieldLink RX11 302 "CapLeague$Books" "leftOver" "I") (by decide +kernel)) rfl dX11_count_72 rfl ?_
    refine lv_topi (fun v9 ev9 => ?_)
    have jv9 := hI.rd b8 7 tb8 ev9 (rfl : h_bd 1 7 = ((-2147483648), 2147483647))
    exact W.iret (v := v9) hx hb hr (fun t ht hW => ⟨v9, rfl, trivial, ht⟩) (fun _ h => by cases h) dX11_count_75
  · refine lv_tableIn (off := 75) (tgt := 76) hx hb dX11_count_1 (by omega) (by omega) (by rw [show (x.toInt - 0).toNat = 4 by omega]; rfl) (by decide) ?_
    refine lv_aload_n hx hb dX11_count_76 rfl (lv_at hl 0 rfl) ?_
    obtain ⟨b10, rb10, tb10⟩ := hR.at a0 0 t_a0 (rfl : h_rs 12 0 = some (9, false)) (by decide)
    refine h_get (v := .ref b10) hx hb hts iX11 hown g t_a0 (by decide) so_12 rfl 0 (by decide) (hts (.fieldLink RX11 10 "CapLeague" "tape" "LCapLeague$Tape;") (by decide +kernel)) rfl dX11_count_77 (by show va_rf (z.R a0 0) = _; rw [rb10]; rfl) ?_
    refine h_get (v := .int (I0 b10 1)) hx hb hts iX8 hown g tb10 (by decide) so_9 rfl 1 (by decide) (hts (.fieldLink RX11 81 "CapLeague$Tape" "size" "I") (by decide +kernel)) rfl dX11_count_80 rfl ?_
    refine lv_topi (fun v11 ev11 => ?_)
    have jv11 := hI.rd b10 1 tb10 ev11 (rfl : h_bd 9 1 = (0, 500))
    exact W.iret (v := v11) hx hb hr (fun t ht hW => ⟨v11, rfl, trivial, ht⟩) (fun _ h => by cases h) dX11_count_83
  · refine lv_tableIn (off := 83) (tgt := 84) hx hb dX11_count_1 (by omega) (by omega) (by rw [show (x.toInt - 0).toNat = 5 by omega]; rfl) (by decide) ?_
    refine lv_aload_n hx hb dX11_count_84 rfl (lv_at hl 0 rfl) ?_
    obtain ⟨b12, rb12, tb12⟩ := hR.at a0 7 t_a0 (rfl : h_rs 12 7 = some (3, false)) (by decide)
    refine h_get (v := .ref b12) hx hb hts iX11 hown g t_a0 (by decide) so_12 rfl 7 (by decide) (hts (.fieldLink RX11 69 "CapLeague" "draft" "LCapLeague$Draft;") (by decide +kernel)) rfl dX11_count_85 (by show va_rf (z.R a0 7) = _; rw [rb12]; rfl) ?_
    refine h_get (v := .int (I0 b12 1)) hx hb hts iX2 hown g tb12 (by decide) so_3 rfl 1 (by decide) (hts (.fieldLink RX11 257 "CapLeague$Draft" "tableTold" "Z") (by decide +kernel)) rfl dX11_count_88 rfl ?_
    refine lv_topi (fun v13 ev13 => ?_)
    have jv13 := hI.rd b12 1 tb12 ev13 (rfl : h_bd 3 1 = (0, 1))
    refine lv_if_eq (tgt := 98) hx hb dX11_count_91 (by decide) (fun c14 => ?_) (fun c14 => ?_)
    · have ic14 := (xi_eq c14 rfl (by decide) : v13.toInt = 0)
      refine lv_iconst (v := 0) hx hb dX11_count_98 (by decide) ?_
      exact W.iret (v := 0) hx hb hr (fun t ht hW => ⟨0, rfl, trivial, ht⟩) (fun _ h => by cases h) dX11_count_99
    · have ic14 := (xi_ne c14 rfl (by decide) : v13.toInt ≠ 0)
      refine lv_iconst (v := 1) hx hb dX11_count_94 (by decide) ?_
      refine lv_goto (tgt := 99) hx hb dX11_count_95 (by decide) ?_
      exact W.iret (v := 1) hx hb hr (fun t ht hW => ⟨1, rfl, trivial, ht⟩) (fun _ h => by cases h) dX11_count_99
  · refine lv_tableIn (off := 99) (tgt := 100) hx hb dX11_count_1 (by omega) (by omega) (by rw [show (x.toInt - 0).toNat = 6 by omega]; rfl) (by decide) ?_
    refine lv_aload_n hx hb dX11_count_100 rfl (lv_at hl 0 rfl) ?_
    obtain ⟨b15, rb15, tb15⟩ := hR.at a0 7 t_a0 (rfl : h_rs 12 7 = some (3, false)) (by decide)
    refine h_get (v := .ref b15) hx hb hts iX11 hown g t_a0 (by decide) so_12 rfl 7 (by decide) (hts (.fieldLink RX11 69 "CapLeague" "draft" "LCapLeague$Draft;") (by decide +kernel)) rfl dX11_count_101 (by show va_rf (z.R a0 7) = _; rw [rb15]; rfl) ?_
    refine lv_aload_n hx hb dX11_count_104 rfl (lv_at hl 0 rfl) ?_
    obtain ⟨b16, rb16, tb16⟩ := hR.at a0 3 t_a0 (rfl : h_rs 12 3 = some (1, false)) (by decide)
    refine h_get (v := .ref b16) hx hb hts iX11 hown g t_a0 (by decide) so_12 rfl 3 (by decide) (hts (.fieldLink RX11 37 "CapLeague" "books" "LCapLeague$Books;") (by decide +kernel)) rfl dX11_count_105 (by show va_rf (z.R a0 3) = _; rw [rb16]; rfl) ?_
    refine h_get (v := .int (I0 b16 3)) hx hb hts iX0 hown g tb16 (by decide) so_1 rfl 3 (by decide) (hts (.fieldLink RX11 142 "CapLeague$Books" "clock" "I") (by decide +kernel)) rfl dX11_count_108 rfl ?_
    refine lv_topi (fun v17 ev17 => ?_)
    have jv17 := hI.rd b16 3 tb16 ev17 (rfl : h_bd 1 3 = (0, 9))
    refine vp_callSi (W.runV (As := [.int v17]) (rest := []) ⟨hx, hb, hml, hown, hts⟩ (tX2_isDrawn l E X A z I0 L0 b15 tb15 v17 (v17.toInt) rfl) (cwV 1 hts gX11_count_X2_isDrawn rfl rfl rfl (by decide +kernel) ⟨Nat.le_of_ble_eq_true rfl, Nat.le_of_ble_eq_true rfl⟩) ⟨h_blind _ _ _ _ _ _ _, h_recv g tb15 (by decide) so_3 (q := (RX2, TX2, 7)) rfl, h_pre _ hE hk hX hA hI hR g⟩ rfl rfl hl.1 rfl (lv_room (Nat.le_of_ble_eq_true rfl)) dX11_count_111 ⟨Nat.le_of_ble_eq_true rfl, Nat.le_of_ble_eq_true rfl⟩) (fun rh18 h18 => ?_)
    refine lv_if_eq (tgt := 121) hx hb dX11_count_114 (by decide) (fun c19 => ?_) (fun c19 => ?_)
    · have ic19 := (xi_eq c19 rfl (by decide) : rh18.toInt = 0)
      refine lv_iconst (v := 0) hx hb dX11_count_121 (by decide) ?_
      exact W.iret (v := 0) hx hb hr (fun t ht hW => ⟨0, rfl, trivial, ht⟩) (fun _ h => by cases h) dX11_count_122
    · have ic19 := (xi_ne c19 rfl (by decide) : rh18.toInt ≠ 0)
      refine lv_iconst (v := 1) hx hb dX11_count_117 (by decide) ?_
      refine lv_goto (tgt := 122) hx hb dX11_count_118 (by decide) ?_
      exact W.iret (v := 1) hx hb hr (fun t ht hW => ⟨1, rfl, trivial, ht⟩) (fun _ h => by cases h) dX11_count_122
