set_option maxHeartbeats 4000000 in
set_option maxRecDepth 100000 in
theorem tX12_lawX (l : Launch) (E : tE) (X : tX) (A : Nat → Prop) (z : tZ) (I0 : tI) (L0 : tL) (a0 : Nat) (t_a0 : z.ty a0 = 13) (y : Int32) (y_t : Int) (h_y : y.toInt = y_t) (x : Int32) (x_t : Int) (h_x : x.toInt = x_t) : Met l yX12_law wsX12_law ({ frames := 2, cells := 0, slots := 0, locals := 128 }) (va_Pc [.ref a0, .int y, .int x] (h_P E X A z I0 L0)) (vp_Si (fun r => (∀ u : Nat → Int, h_r12 (I0 (h_ad z a0 11)) (I0 (h_ad z a0 10)) y_t u → q_ok u → (0 ≤ y_t ∧ y_t ≤ 9 ∧ r.toInt = q_num u x_t) ∨ (¬ (0 ≤ y_t ∧ y_t ≤ 9) ∧ r.toInt = -9)) ∧ ((0 ≤ y_t ∧ y_t ≤ 9) ∨ r.toInt = -9))) 0 0 (fun _ => False) := by
  refine Met.ofW (cc := cX12_law) (maxL := 3) (ret := (some .int)) (by decide) rfl ?_
  intro pr_ ev_ s m args below meth cd_ s₁ B hml hv
  obtain ⟨rfl, hE, hk, hX, hA, hK, hI, hR, hB0⟩ := hv
  have g : h_G h_so h_fk E A z I0 L0 s s.heap s.heap [] := ⟨hK, va_S.rf, hB0⟩
  have hx := B.exec
  have hb := B.bytes
  have hr := B.returns
  have hts := atoms_spec (ws := wsX12_law) B.pre
  have hown : s.vm.findClass RX12 = some m.cls := findClass_of_methodNamed B.named
  have hlocks := B.notSynchronized
  have hl := lv_entry ([.ref a0, .int y, .int x]) (n := 3) (Nat.le_of_ble_eq_true rfl)
  rw [lg_entry_eq]
  generalize (lg_sl ([.ref a0, .int y, .int x]) ++ List.replicate (3 - (lg_sl ([.ref a0, .int y, .int x])).length) Slot.unset).toArray = ls at hl ⊢
  have hl : lv_has ls 3 [(0, .ref a0), (1, .int y), (2, .int x)] := hl
  have b_y : -2147483648 ≤ y_t ∧ y_t ≤ 2147483647 := h_y ▸ ⟨xi_lo y, Int.le_of_lt_add_one (xi_hi y)⟩
  have b_x : -2147483648 ≤ x_t ∧ x_t ≤ 2147483647 := h_x ▸ ⟨xi_lo x, Int.le_of_lt_add_one (xi_hi x)⟩
  obtain ⟨lw, rlw, tlw⟩ := hR.at a0 10 t_a0 (rfl : h_rs 13 10 = some (1310, false)) (by decide)
  have alw : h_ad z a0 10 = lw := h_ad.at rlw
  obtain ⟨hy, rhy, thy⟩ := hR.at a0 11 t_a0 (rfl : h_rs 13 11 = some (1311, false)) (by decide)
  have ahy : h_ad z a0 11 = hy := h_ad.at rhy
  refine lv_iload_n hx hb dX12_law_0 rfl (lv_at hl 1 rfl) ?_
  refine lv_i2l hx hb dX12_law_1 rfl ?_
  refine lv_topl (fun v1 ev1 => ?_)
  have jv1 : v1.toInt = y_t := by rw [ev1, xi_64]; exact h_y
  refine lv_lconst (v := 0) hx hb dX12_law_2 (by decide) ?_
  refine lv_ldc2 (v := 9) hx hb hown (hts (.constantLong RX12 190 (9)) (by decide +kernel)) dX12_law_3 ?_
  refine vp_callSi (W.runS (As := [.long v1, .long 0, .long 9]) (rest := []) ⟨hx, hb, hml, hown, hts⟩ (tX12_in l E X A z I0 L0 v1 (y_t) jv1 0 (0) (by decide) 9 (9) (by decide)) (va_cwS 3 hts gX12_law_X12_in rfl rfl rfl (by decide +kernel) ⟨Nat.le_of_ble_eq_true rfl, Nat.le_of_ble_eq_true rfl⟩) ⟨h_blind _ _ _ _ _ _ _, h_pre _ hE hk hX hA hI hR g⟩ rfl rfl hl.1 rfl (lv_room (Nat.le_of_ble_eq_true rfl)) dX12_law_6 ⟨Nat.le_of_ble_eq_true rfl, Nat.le_of_ble_eq_true rfl⟩) (fun rh2 h2 => ?_)
  rcases h2 with ⟨rfl, h2⟩ | ⟨rfl, h2⟩
  · skip
    refine lv_if_ne (tgt := 15) hx hb dX12_law_9 (by decide) (fun h => absurd (by decide) h) (fun _ => ?_)
    refine lv_bipush (v := (-9)) hx hb dX12_law_12 (by decide) ?_
    exact W.iret (v := (-9)) hx hb hr (fun t ht hW => ⟨(-9), rfl, ⟨(fun u hr hok => Or.inr ⟨by omega, by decide⟩), (Or.inr (by decide))⟩, ht⟩) (fun _ h => by cases h) dX12_law_14
  · skip
    refine lv_if_ne (tgt := 15) hx hb dX12_law_9 (by decide) (fun _ => ?_) (fun h => absurd h (by decide))
    refine lv_iload_n hx hb dX12_law_15 rfl (lv_at hl 2 rfl) ?_
    refine lv_i2l hx hb dX12_law_16 rfl ?_
    refine lv_topl (fun v5 ev5 => ?_)
    have jv5 : v5.toInt = x_t := by rw [ev5, xi_64]; exact h_x
    refine lv_lconst (v := 0) hx hb dX12_law_17 (by decide) ?_
    refine lv_ldc2 (v := 8) hx hb hown (hts (.constantLong RX12 195 (8)) (by decide +kernel)) dX12_law_18 ?_
    refine vp_callSi (W.runS (As := [.long v5, .long 0, .long 8]) (rest := []) ⟨hx, hb, hml, hown, hts⟩ (tX12_in l E X A z I0 L0 v5 (x_t) jv5 0 (0) (by decide) 8 (8) (by decide)) (va_cwS 3 hts gX12_law_X12_in rfl rfl rfl (by decide +kernel) ⟨Nat.le_of_ble_eq_true rfl, Nat.le_of_ble_eq_true rfl⟩) ⟨h_blind _ _ _ _ _ _ _, h_pre _ hE hk hX hA hI hR g⟩ rfl rfl hl.1 rfl (lv_room (Nat.le_of_ble_eq_true rfl)) dX12_law_21 ⟨Nat.le_of_ble_eq_true rfl, Nat.le_of_ble_eq_true rfl⟩) (fun rh6 h6 => ?_)
    rcases h6 with ⟨rfl, h6⟩ | ⟨rfl, h6⟩
    · skip
      refine lv_if_eq (tgt := 34) hx hb dX12_law_24 (by decide) (fun _ => ?_) (fun h => absurd (by decide) h)
      refine lv_iload_n hx hb dX12_law_34 rfl (lv_at hl 2 rfl) ?_
      refine lv_i2l hx hb dX12_law_35 rfl ?_
      refine lv_topl (fun v8 ev8 => ?_)
      have jv8 : v8.toInt = x_t := by rw [ev8, xi_64]; exact h_x
      refine lv_ldc2 (v := 10) hx hb hown (hts (.constantLong RX12 200 (10)) (by decide +kernel)) dX12_law_36 ?_
      refine lv_bipush (v := 9) hx hb dX12_law_39 (by decide) ?_
      refine lv_aload_n hx hb dX12_law_41 rfl (lv_at hl 0 rfl) ?_
      refine lv_iload_n hx hb dX12_law_42 rfl (lv_at hl 1 rfl) ?_
      refine lv_bipush (v := 8) hx hb dX12_law_43 (by decide) ?_
      refine vp_callSi (W.runV (As := [.int y, .int 8]) (rest := [.int 9, .long 10, .long v8]) ⟨hx, hb, hml, hown, hts⟩ (tX12_lawOfF l E X A z I0 L0 a0 t_a0 y (y_t) h_y (by omega) 8 (8) (by decide) (by omega)) (cwV 2 hts gX12_law_X12_lawOf rfl rfl rfl (by decide +kernel) ⟨Nat.le_of_ble_eq_true rfl, Nat.le_of_ble_eq_true rfl⟩) ⟨h_blind _ _ _ _ _ _ _, h_recv g t_a0 (by decide) so_13 (q := (RX12, TX12, 51)) rfl, h_pre _ hE hk hX hA hI hR g⟩ rfl rfl hl.1 rfl (lv_room (Nat.le_of_ble_eq_true rfl)) dX12_law_45 ⟨Nat.le_of_ble_eq_true rfl, Nat.le_of_ble_eq_true rfl⟩) (fun rh9 h9 => ?_)
      obtain ⟨h9p0, h9p1, h9p2⟩ := h9
      have jrh9 : -2147483648 ≤ rh9.toInt ∧ rh9.toInt ≤ 2147483647 := ⟨xi_lo _, Int.le_of_lt_add_one (xi_hi _)⟩
      rw [alw, ahy] at h9p0
      have brh9 : 0 ≤ rh9.toInt ∧ rh9.toInt ≤ 7 := by omega
      refine lv_iadd hx hb dX12_law_48 ?_
      refine lv_topi (fun v10 ev10 => ?_)
      have jv10 : v10.toInt = 9 + rh9.toInt := xi_add ev10 (by decide) rfl (by omega) (by omega)
      refine lv_i2l hx hb dX12_law_49 rfl ?_
      refine lv_topl (fun v11 ev11 => ?_)
      have jv11 : v11.toInt = v10.toInt := by rw [ev11, xi_64]
      refine vp_callSi (W.runS (As := [.long v8, .long 10, .long v11]) (rest := []) ⟨hx, hb, hml, hown, hts⟩ (tX12_in l E X A z I0 L0 v8 (x_t) jv8 10 (10) (by decide) v11 (v10.toInt) jv11) (va_cwS 3 hts gX12_law_X12_in rfl rfl rfl (by decide +kernel) ⟨Nat.le_of_ble_eq_true rfl, Nat.le_of_ble_eq_true rfl⟩) ⟨h_blind _ _ _ _ _ _ _, h_pre _ hE hk hX hA hI hR g⟩ rfl rfl hl.1 rfl (lv_room (Nat.le_of_ble_eq_true rfl)) dX12_law_50 ⟨Nat.le_of_ble_eq_true rfl, Nat.le_of_ble_eq_true rfl⟩) (fun rh12 h12 => ?_)
      rcases h12 with ⟨rfl, h12⟩ | ⟨rfl, h12⟩
      · skip
        refine lv_if_eq (tgt := 67) hx hb dX12_law_53 (by decide) (fun _ => ?_) (fun h => absurd (by decide) h)
        refine lv_bipush (v := (-9)) hx hb dX12_law_67 (by decide) ?_
        exact W.iret (v := (-9)) hx hb hr (fun t ht hW => ⟨(-9), rfl, ⟨(fun u hr hok => by rw [ahy, alw] at hr; have grh9 := hr.at (x := 8) (by decide) h9p0; exact Or.inl ⟨by omega, by omega, by unfold q_num; rw [if_neg (by omega), if_neg (by omega)]; decide⟩), (Or.inr (by decide))⟩, ht⟩) (fun _ h => by cases h) dX12_law_69
      · skip
        refine lv_if_eq (tgt := 67) hx hb dX12_law_53 (by decide) (fun h => absurd h (by decide)) (fun _ => ?_)
        refine lv_aload_n hx hb dX12_law_56 rfl (lv_at hl 0 rfl) ?_
        refine lv_iload_n hx hb dX12_law_57 rfl (lv_at hl 1 rfl) ?_
        refine lv_iload_n hx hb dX12_law_58 rfl (lv_at hl 2 rfl) ?_
        refine lv_iconst (v := 1) hx hb dX12_law_59 (by decide) ?_
        refine lv_isub hx hb dX12_law_60 ?_
        refine lv_topi (fun v15 ev15 => ?_)
        have jv15 : v15.toInt = x_t - 1 := xi_sub ev15 h_x (by decide) (by omega) (by omega)
        refine vp_callSi (W.runV (As := [.int y, .int v15]) (rest := []) ⟨hx, hb, hml, hown, hts⟩ (tX12_lawOfF l E X A z I0 L0 a0 t_a0 y (y_t) h_y (by omega) v15 (v15.toInt) rfl (by omega)) (cwV 2 hts gX12_law_X12_lawOf rfl rfl rfl (by decide +kernel) ⟨Nat.le_of_ble_eq_true rfl, Nat.le_of_ble_eq_true rfl⟩) ⟨h_blind _ _ _ _ _ _ _, h_recv g t_a0 (by decide) so_13 (q := (RX12, TX12, 51)) rfl, h_pre _ hE hk hX hA hI hR g⟩ rfl rfl hl.1 rfl (lv_room (Nat.le_of_ble_eq_true rfl)) dX12_law_61 ⟨Nat.le_of_ble_eq_true rfl, Nat.le_of_ble_eq_true rfl⟩) (fun rh16 h16 => ?_)
        obtain ⟨h16p0, h16p1, h16p2⟩ := h16
        have jrh16 : -2147483648 ≤ rh16.toInt ∧ rh16.toInt ≤ 2147483647 := ⟨xi_lo _, Int.le_of_lt_add_one (xi_hi _)⟩
        rw [alw, ahy] at h16p0
        refine lv_goto (tgt := 69) hx hb dX12_law_64 (by decide) ?_
        exact W.iret (v := rh16) hx hb hr (fun t ht hW => ⟨rh16, rfl, ⟨(fun u hr hok => by rw [ahy, alw] at hr; have grh9 := hr.at (x := 8) (by decide) h9p0; have e9 : (v15.toInt).toNat = 9 + (x_t - 10).toNat := (by omega); have nb := hok.2.1; have g2 := hr.at (x := 9 + (x_t - 10).toNat) (by omega) (by rw [← e9]; exact h16p0); exact Or.inl ⟨by omega, by omega, by unfold q_num; rw [if_neg (by omega), if_pos (by omega)]; exact g2⟩), (Or.inl ⟨by omega, by omega⟩)⟩, ht⟩) (fun _ h => by cases h) dX12_law_69
    · skip
      refine lv_if_eq (tgt := 34) hx hb dX12_law_24 (by decide) (fun h => absurd h (by decide)) (fun _ => ?_)
      refine lv_aload_n hx hb dX12_law_27 rfl (lv_at hl 0 rfl) ?_
      refine lv_iload_n hx hb dX12_law_28 rfl (lv_at hl 1 rfl) ?_
      refine lv_iload_n hx hb dX12_law_29 rfl (lv_at hl 2 rfl) ?_
      refine vp_callSi (W.runV (As := [.int y, .int x]) (rest := []) ⟨hx, hb, hml, hown, hts⟩ (tX12_lawOfF l E X A z I0 L0 a0 t_a0 y (y_t) h_y (by omega) x (x_t) h_x (by omega)) (cwV 2 hts gX12_law_X12_lawOf rfl rfl rfl (by decide +kernel) ⟨Nat.le_of_ble_eq_true rfl, Nat.le_of_ble_eq_true rfl⟩) ⟨h_blind _ _ _ _ _ _ _, h_recv g t_a0 (by decide) so_13 (q := (RX12, TX12, 51)) rfl, h_pre _ hE hk hX hA hI hR g⟩ rfl rfl hl.1 rfl (lv_room (Nat.le_of_ble_eq_true rfl)) dX12_law_30 ⟨Nat.le_of_ble_eq_true rfl, Nat.le_of_ble_eq_true rfl⟩) (fun rh18 h18 => ?_)
      obtain ⟨h18p0, h18p1, h18p2⟩ := h18
      have jrh18 : -2147483648 ≤ rh18.toInt ∧ rh18.toInt ≤ 2147483647 := ⟨xi_lo _, Int.le_of_lt_add_one (xi_hi _)⟩
      rw [alw, ahy] at h18p0
      exact W.iret (v := rh18) hx hb hr (fun t ht hW => ⟨rh18, rfl, ⟨(fun u hr hok => by rw [ahy, alw] at hr; have grh18 := hr.at (x := x_t.toNat) (by omega) h18p0; exact Or.inl ⟨by omega, by omega, by unfold q_num; rw [if_pos (by omega)]; exact grh18⟩), (Or.inl ⟨by omega, by omega⟩)⟩, ht⟩) (fun _ h => by cases h) dX12_law_33
set_option maxHeartbeats 4000000 in
set_option maxRecDepth 100000 in
theorem tX11_lawX (l : Launch) (E : tE) (X : tX) (A : Nat → Prop) (z : tZ) (I0 : tI) (L0 : tL) (a0 : Nat) (t_a0 : z.ty a0 = 12) (y : Int32) (y_t : Int) (h_y : y.toInt = y_t) (x : Int32) (x_t : Int) (h_x : x.toInt = x_t) (u_ : Nat → Int) (hcl : ∀ b : Nat, h_of (z.R (h_ad z (h_ad z a0 1) 1)) (h_ad z (h_ad z a0 1) 0) y_t b → h_lw I0 b (h_ad z b 0) (h_ad z b 1) u_) : Met l yX11_law wsX11_law ({ frames := 2, cells := 0, slots := 0, locals := 128 }) (va_Pc [.ref a0, .int y, .int x] (h_P E X A z I0 L0)) (vp_Si (fun r => ((0 ≤ y_t ∧ y_t ≤ 9 ∧ r.toInt = q_num u_ x_t) ∨ (¬ (0 ≤ y_t ∧ y_t ≤ 9) ∧ r.toInt = -9)))) 0 0 (fun _ => False) := by
  refine Met.ofW (cc := cX11_law) (maxL := 3) (ret := (some .int)) (by decide) rfl ?_
  intro pr_ ev_ s m args below meth cd_ s₁ B hml hv
  obtain ⟨rfl, hE, hk, hX, hA, hK, hI, hR, hB0⟩ := hv
  have g : h_G h_so h_fk E A z I0 L0 s s.heap s.heap [] := ⟨hK, va_S.rf, hB0⟩
  have hx := B.exec
  have hb := B.bytes
  have hr := B.returns
  have hts := atoms_spec (ws := wsX11_law) B.pre
  have hown : s.vm.findClass RX11 = some m.cls := findClass_of_methodNamed B.named
  have hlocks := B.notSynchronized
  have iX11 : ∀ w ∈ u_ws RX11 TX11 8, w ∈ wsX11_law := by decide +kernel
  have hl := lv_entry ([.ref a0, .int y, .int x]) (n := 3) (Nat.le_of_ble_eq_true rfl)
  rw [lg_entry_eq]
  generalize (lg_sl ([.ref a0, .int y, .int x]) ++ List.replicate (3 - (lg_sl ([.ref a0, .int y, .int x])).length) Slot.unset).toArray = ls at hl ⊢
  have hl : lv_has ls 3 [(0, .ref a0), (1, .int y), (2, .int x)] := hl
  have b_y : -2147483648 ≤ y_t ∧ y_t ≤ 2147483647 := h_y ▸ ⟨xi_lo y, Int.le_of_lt_add_one (xi_hi y)⟩
  have b_x : -2147483648 ≤ x_t ∧ x_t ≤ 2147483647 := h_x ▸ ⟨xi_lo x, Int.le_of_lt_add_one (xi_hi x)⟩
  obtain ⟨lb, rlb, tlb⟩ := hR.at a0 1 t_a0 (rfl : h_rs 12 1 = some (4, false)) (by decide)
  have alb : h_ad z a0 1 = lb := h_ad.at rlb
  obtain ⟨un, run, tun⟩ := hR.at lb 0 tlb (rfl : h_rs 4 0 = some (6, false)) (by decide)
  have aun : h_ad z lb 0 = un := h_ad.at run
  obtain ⟨tx, rtx, ttx⟩ := hR.at lb 1 tlb (rfl : h_rs 4 1 = some (401, false)) (by decide)
  have atx : h_ad z lb 1 = tx := h_ad.at rtx
  rw [alb, aun, atx] at hcl
  refine lv_iload_n hx hb dX11_law_0 rfl (lv_at hl 1 rfl) ?_
  refine vp_callSi (W.runS (As := [.int y]) (rest := []) ⟨hx, hb, hml, hown, hts⟩ (tX11_isYear l E X A z I0 L0 y (y_t) h_y) (va_cwS 1 hts gX11_law_X11_isYear rfl rfl rfl (by decide +kernel) ⟨Nat.le_of_ble_eq_true rfl, Nat.le_of_ble_eq_true rfl⟩) ⟨h_blind _ _ _ _ _ _ _, h_pre _ hE hk hX hA hI hR g⟩ rfl rfl hl.1 rfl (lv_room (Nat.le_of_ble_eq_true rfl)) dX11_law_1 ⟨Nat.le_of_ble_eq_true rfl, Nat.le_of_ble_eq_true rfl⟩) (fun rh1 h1 => ?_)
  rcases h1 with ⟨rfl, h1⟩ | ⟨rfl, h1⟩
  · skip
    refine lv_if_eq (tgt := 22) hx hb dX11_law_4 (by decide) (fun _ => ?_) (fun h => absurd (by decide) h)
    refine lv_bipush (v := (-9)) hx hb dX11_law_22 (by decide) ?_
    exact W.iret (v := (-9)) hx hb hr (fun t ht hW => ⟨(-9), rfl, (Or.inr ⟨by omega, by decide⟩), ht⟩) (fun _ h => by cases h) dX11_law_24
  · skip
    refine lv_if_eq (tgt := 22) hx hb dX11_law_4 (by decide) (fun h => absurd h (by decide)) (fun _ => ?_)
    refine lv_aload_n hx hb dX11_law_7 rfl (lv_at hl 0 rfl) ?_
    refine h_get (v := .ref lb) hx hb hts iX11 hown g t_a0 (by decide) so_12 rfl 1 (by decide) (hts (.fieldLink RX11 19 "CapLeague" "lawBook" "LCapLeague$LawBook;") (by decide +kernel)) rfl dX11_law_8 (by show va_rf (z.R a0 1) = _; rw [rlb]; rfl) ?_
    refine lv_iload_n hx hb dX11_law_11 rfl (lv_at hl 1 rfl) ?_
    refine va_csq (W.runV (As := [.int y]) (rest := []) ⟨hx, hb, hml, hown, hts⟩ (tX3_ofF l E X A z I0 L0 lb tlb y (y_t) h_y) (cwV 1 hts gX11_law_X3_of rfl rfl rfl (by decide +kernel) ⟨Nat.le_of_ble_eq_true rfl, Nat.le_of_ble_eq_true rfl⟩) ⟨h_blind _ _ _ _ _ _ _, h_recv g tlb (by decide) so_4 (q := (RX3, TX3, 2)) rfl, h_pre _ hE hk hX hA hI hR g⟩ rfl rfl hl.1 rfl (lv_room (Nat.le_of_ble_eq_true rfl)) dX11_law_12 ⟨Nat.le_of_ble_eq_true rfl, Nat.le_of_ble_eq_true rfl⟩) (fun rh4 h4 => ?_)
    obtain ⟨h4, h4p0⟩ := h4
    obtain ⟨rh4, rfl, trh4⟩ := h4
    refine xw_v (v := .ref rh4) rfl ?_
    rw [aun, atx] at h4p0
    obtain ⟨bb, ebb, hof⟩ := h4p0
    cases ebb
    have hlb := hcl _ hof
    refine lv_iload_n hx hb dX11_law_15 rfl (lv_at hl 2 rfl) ?_
    refine vp_callSi (W.runV (As := [.int x]) (rest := []) ⟨hx, hb, hml, hown, hts⟩ (tX5_numberF l E X A z I0 L0 rh4 trh4 x (x_t) h_x (u_) (hlb)) (cwV 1 hts gX11_law_X5_number rfl rfl rfl (by decide +kernel) ⟨Nat.le_of_ble_eq_true rfl, Nat.le_of_ble_eq_true rfl⟩) ⟨h_blind _ _ _ _ _ _ _, h_recv g trh4 (by decide) so_6 (q := (RX5, TX5, 3)) rfl, h_pre _ hE hk hX hA hI hR g⟩ rfl rfl hl.1 rfl (lv_room (Nat.le_of_ble_eq_true rfl)) dX11_law_16 ⟨Nat.le_of_ble_eq_true rfl, Nat.le_of_ble_eq_true rfl⟩) (fun rh5 h5 => ?_)
    have h5p0 := h5
    have jrh5 : -2147483648 ≤ rh5.toInt ∧ rh5.toInt ≤ 2147483647 := ⟨xi_lo _, Int.le_of_lt_add_one (xi_hi _)⟩
    refine lv_goto (tgt := 24) hx hb dX11_law_19 (by decide) ?_
    exact W.iret (v := rh5) hx hb hr (fun t ht hW => ⟨rh5, rfl, (Or.inl ⟨by omega, by omega, h5p0⟩), ht⟩) (fun _ h => by cases h) dX11_law_24
set_option maxHeartbeats 4000000 in
set_option maxRecDepth 100000 in
theorem tX12_faultX (l : Launch) (E : tE) (X : tX) (A : Nat → Prop) (z : tZ) (I0 : tI) (L0 : tL) (a0 : Nat) (t_a0 : z.ty a0 = 13) (x : Int32) (x_t : Int) (h_x : x.toInt = x_t) : Met l yX12_fault wsX12_fault ({ frames := 1, cells := 0, slots := 0, locals := 64 }) (va_Pc [.ref a0, .int x] (h_P E X A z I0 L0)) (vp_Si (fun r => ((x_t = 0 ∧ r = I0 a0 8) ∨ (x_t = 1 ∧ r = I0 a0 9) ∨ (x_t ≠ 0 ∧ x_t ≠ 1 ∧ r = -1)))) 0 0 (fun _ => False) := by
  refine Met.ofW (cc := cX12_fault) (maxL := 2) (ret := (some .int)) (by decide) rfl ?_
  intro pr_ ev_ s m args below meth cd_ s₁ B hml hv
  obtain ⟨rfl, hE, hk, hX, hA, hK, hI, hR, hB0⟩ := hv
  have g : h_G h_so h_fk E A z I0 L0 s s.heap s.heap [] := ⟨hK, va_S.rf, hB0⟩
  have hx := B.exec
  have hb := B.bytes
  have hr := B.returns
  have hts := atoms_spec (ws := wsX12_fault) B.pre
  have hown : s.vm.findClass RX12 = some m.cls := findClass_of_methodNamed B.named
  have hlocks := B.notSynchronized
  have iX12 : ∀ w ∈ u_ws RX12 TX12 51, w ∈ wsX12_fault := by decide +kernel
  have hl := lv_entry ([.ref a0, .int x]) (n := 2) (Nat.le_of_ble_eq_true rfl)
  rw [lg_entry_eq]
  generalize (lg_sl ([.ref a0, .int x]) ++ List.replicate (2 - (lg_sl ([.ref a0, .int x])).length) Slot.unset).toArray = ls at hl ⊢
  have hl : lv_has ls 2 [(0, .ref a0), (1, .int x)] := hl
  have b_x : -2147483648 ≤ x_t ∧ x_t ≤ 2147483647 := h_x ▸ ⟨xi_lo x, Int.le_of_lt_add_one (xi_hi x)⟩
  obtain ⟨f0_8, ef0_8⟩ : ∃ v : Int32, v = I0 a0 8 := ⟨_, rfl⟩
  have qf0_8 : (I0 a0 8).toInt = f0_8.toInt := congrArg Int32.toInt ef0_8.symm
  have jf0_8 := hI.rd a0 8 t_a0 ef0_8 (rfl : h_bd 13 8 = ((-2147483648), 2147483647))
  obtain ⟨f0_9, ef0_9⟩ : ∃ v : Int32, v = I0 a0 9 := ⟨_, rfl⟩
  have qf0_9 : (I0 a0 9).toInt = f0_9.toInt := congrArg Int32.toInt ef0_9.symm
  have jf0_9 := hI.rd a0 9 t_a0 ef0_9 (rfl : h_bd 13 9 = ((-2147483648), 2147483647))
  refine lv_iload_n hx hb dX12_fault_0 rfl (lv_at hl 1 rfl) ?_
  refine lv_if_ne (tgt := 11) hx hb dX12_fault_1 (by decide) (fun c1 => ?_) (fun c1 => ?_)
  · have ic1 := (xi_ne c1 h_x (by decide) : x_t ≠ 0)
    refine lv_iload_n hx hb dX12_fault_11 rfl (lv_at hl 1 rfl) ?_
    refine lv_iconst (v := 1) hx hb dX12_fault_12 (by decide) ?_
    refine lv_icmp_ne (tgt := 23) hx hb dX12_fault_13 (by decide) (fun c2 => ?_) (fun c2 => ?_)
    · have ic2 := (xi_ne c2 h_x (by decide) : x_t ≠ 1)
      refine lv_iconst (v := (-1)) hx hb dX12_fault_23 (by decide) ?_
      exact W.iret (v := (-1)) hx hb hr (fun t ht hW => ⟨(-1), rfl, (by exact Or.inr (Or.inr ⟨by omega, by omega, rfl⟩)), ht⟩) (fun _ h => by cases h) dX12_fault_24
    · have ic2 := (xi_eq c2 h_x (by decide) : x_t = 1)
      refine lv_aload_n hx hb dX12_fault_16 rfl (lv_at hl 0 rfl) ?_
      refine h_get (v := .int f0_9) hx hb hts iX12 hown g t_a0 (by decide) so_13 rfl 9 (by decide) (hts (.fieldLink RX12 13 "CapLeagueModel" "faultPlace" "I") (by decide +kernel)) rfl dX12_fault_17 (congrArg Value.int (ef0_9.symm)) ?_
      refine lv_goto (tgt := 24) hx hb dX12_fault_20 (by decide) ?_
      exact W.iret (v := f0_9) hx hb hr (fun t ht hW => ⟨f0_9, rfl, (by exact Or.inr (Or.inl ⟨by omega, ef0_9⟩)), ht⟩) (fun _ h => by cases h) dX12_fault_24
  · have ic1 := (xi_eq c1 h_x (by decide) : x_t = 0)
    refine lv_aload_n hx hb dX12_fault_4 rfl (lv_at hl 0 rfl) ?_
    refine h_get (v := .int f0_8) hx hb hts iX12 hown g t_a0 (by decide) so_13 rfl 8 (by decide) (hts (.fieldLink RX12 166 "CapLeagueModel" "faultKind" "I") (by decide +kernel)) rfl dX12_fault_5 (congrArg Value.int (ef0_8.symm)) ?_
    refine lv_goto (tgt := 24) hx hb dX12_fault_8 (by decide) ?_
    exact W.iret (v := f0_8) hx hb hr (fun t ht hW => ⟨f0_8, rfl, (by exact Or.inl ⟨by omega, ef0_8⟩), ht⟩) (fun _ h => by cases h) dX12_fault_24
set_option maxHeartbeats 4000000 in
set_option maxRecDepth 100000 in
theorem tX11_faultX (l : Launch) (E : tE) (X : tX) (A : Nat → Prop) (z : tZ) (I0 : tI) (L0 : tL) (a0 : Nat) (t_a0 : z.ty a0 = 12) (x : Int32) (x_t : Int) (h_x : x.toInt = x_t) : Met l yX11_fault wsX11_fault ({ frames := 1, cells := 0, slots := 0, locals := 64 }) (va_Pc [.ref a0, .int x] (h_P E X A z I0 L0)) (vp_Si (fun r => ((x_t = 0 ∧ r = I0 (h_ad z a0 2) 2) ∨ (x_t = 1 ∧ r = I0 (h_ad z a0 2) 3) ∨ (x_t ≠ 0 ∧ x_t ≠ 1 ∧ r = -1)))) 0 0 (fun _ => False) := by
  refine Met.ofW (cc := cX11_fault) (maxL := 2) (ret := (some .int)) (by decide) rfl ?_
  intro pr_ ev_ s m args below meth cd_ s₁ B hml hv
  obtain ⟨rfl, hE, hk, hX, hA, hK, hI, hR, hB0⟩ := hv
  have g : h_G h_so h_fk E A z I0 L0 s s.heap s.heap [] := ⟨hK, va_S.rf, hB0⟩
  have hx := B.exec
  have hb := B.bytes
  have hr := B.returns
  have hts := atoms_spec (ws := wsX11_fault) B.pre
  have hown : s.vm.findClass RX11 = some m.cls := findClass_of_methodNamed B.named
  have hlocks := B.notSynchronized
  have iX11 : ∀ w ∈ u_ws RX11 TX11 8, w ∈ wsX11_fault := by decide +kernel
  have iX4 : ∀ w ∈ u_ws RX4 TX4 9, w ∈ wsX11_fault := by decide +kernel
  have hl := lv_entry ([.ref a0, .int x]) (n := 2) (Nat.le_of_ble_eq_true rfl)
  rw [lg_entry_eq]
  generalize (lg_sl ([.ref a0, .int x]) ++ List.replicate (2 - (lg_sl ([.ref a0, .int x])).length) Slot.unset).toArray = ls at hl ⊢
  have hl : lv_has ls 2 [(0, .ref a0), (1, .int x)] := hl
  have b_x : -2147483648 ≤ x_t ∧ x_t ≤ 2147483647 := h_x ▸ ⟨xi_lo x, Int.le_of_lt_add_one (xi_hi x)⟩
  obtain ⟨rd, rrd, trd⟩ := hR.at a0 2 t_a0 (rfl : h_rs 12 2 = some (5, false)) (by decide)
  have ard : h_ad z a0 2 = rd := h_ad.at rrd
  obtain ⟨f0_2, ef0_2⟩ : ∃ v : Int32, v = I0 rd 2 := ⟨_, rfl⟩
  have qf0_2 : (I0 rd 2).toInt = f0_2.toInt := congrArg Int32.toInt ef0_2.symm
  have jf0_2 := hI.rd rd 2 trd ef0_2 (rfl : h_bd 5 2 = ((-2147483648), 2147483647))
  obtain ⟨f0_3, ef0_3⟩ : ∃ v : Int32, v = I0 rd 3 := ⟨_, rfl⟩
  have qf0_3 : (I0 rd 3).toInt = f0_3.toInt := congrArg Int32.toInt ef0_3.symm
  have jf0_3 := hI.rd rd 3 trd ef0_3 (rfl : h_bd 5 3 = ((-2147483648), 2147483647))
  refine lv_iload_n hx hb dX11_fault_0 rfl (lv_at hl 1 rfl) ?_
  refine lv_if_ne (tgt := 12) hx hb dX11_fault_1 (by decide) (fun c1 => ?_) (fun c1 => ?_)
  · have ic1 := (xi_ne c1 h_x (by decide) : x_t ≠ 0)
    refine lv_iload_n hx hb dX11_fault_12 rfl (lv_at hl 1 rfl) ?_
    refine lv_iconst (v := 1) hx hb dX11_fault_13 (by decide) ?_
    refine lv_icmp_ne (tgt := 27) hx hb dX11_fault_14 (by decide) (fun c2 => ?_) (fun c2 => ?_)
    · have ic2 := (xi_ne c2 h_x (by decide) : x_t ≠ 1)
      refine lv_iconst (v := (-1)) hx hb dX11_fault_27 (by decide) ?_
      exact W.iret (v := (-1)) hx hb hr (fun t ht hW => ⟨(-1), rfl, (by rw [ard]; exact Or.inr (Or.inr ⟨by omega, by omega, rfl⟩)), ht⟩) (fun _ h => by cases h) dX11_fault_28
    · have ic2 := (xi_eq c2 h_x (by decide) : x_t = 1)
      refine lv_aload_n hx hb dX11_fault_17 rfl (lv_at hl 0 rfl) ?_
      refine h_get (v := .ref rd) hx hb hts iX11 hown g t_a0 (by decide) so_12 rfl 2 (by decide) (hts (.fieldLink RX11 28 "CapLeague" "reader" "LCapLeague$LawReader;") (by decide +kernel)) rfl dX11_fault_18 (by show va_rf (z.R a0 2) = _; rw [rrd]; rfl) ?_
      refine h_get (v := .int f0_3) hx hb hts iX4 hown g trd (by decide) so_5 rfl 3 (by decide) (hts (.fieldLink RX11 104 "CapLeague$LawReader" "faultPlace" "I") (by decide +kernel)) rfl dX11_fault_21 (congrArg Value.int (ef0_3.symm)) ?_
      refine lv_goto (tgt := 28) hx hb dX11_fault_24 (by decide) ?_
      exact W.iret (v := f0_3) hx hb hr (fun t ht hW => ⟨f0_3, rfl, (by rw [ard]; exact Or.inr (Or.inl ⟨by omega, ef0_3⟩)), ht⟩) (fun _ h => by cases h) dX11_fault_28
  · have ic1 := (xi_eq c1 h_x (by decide) : x_t = 0)
    refine lv_aload_n hx hb dX11_fault_4 rfl (lv_at hl 0 rfl) ?_
    refine h_get (v := .ref rd) hx hb hts iX11 hown g t_a0 (by decide) so_12 rfl 2 (by decide) (hts (.fieldLink RX11 28 "CapLeague" "reader" "LCapLeague$LawReader;") (by decide +kernel)) rfl dX11_fault_5 (by show va_rf (z.R a0 2) = _; rw [rrd]; rfl) ?_
    refine h_get (v := .int f0_2) hx hb hts iX4 hown g trd (by decide) so_5 rfl 2 (by decide) (hts (.fieldLink RX11 101 "CapLeague$LawReader" "faultKind" "I") (by decide +kernel)) rfl dX11_fault_8 (congrArg Value.int (ef0_2.symm)) ?_
    exact W.iret (v := f0_2) hx hb hr (fun t ht hW => ⟨f0_2, rfl, (by rw [ard]; exact Or.inl ⟨by omega, ef0_2⟩), ht⟩) (fun _ h => by cases h) dX11_fault_11
set_option maxHeartbeats 4000000 in
set_option maxRecDepth 100000 in
theorem tX11_endX (l : Launch) (E : tE) (X : tX) (A : Nat → Prop) (z : tZ) (I0 : tI) (L0 : tL) (a0 : Nat) (t_a0 : z.ty a0 = 12) (n : Int32) (n_t : Int) (h_n : n.toInt = n_t) : Met l yX11_end wsX11_end ({ frames := 1, cells := 0, slots := 0, locals := 64 }) (va_Pc [.ref a0, .int n] (h_P E X A z I0 L0)) (va_Qi (fun r (I1 : tI) => h_I z I1 ∧ h_F [(9, 1)] z I0 I1 ∧ ((0 ≤ n_t ∧ n_t ≤ (I0 (h_ad z a0 0) 1).toInt ∧ r.toInt = n_t ∧ (I1 (h_ad z a0 0) 1).toInt = n_t) ∨ ((n_t < 0 ∨ (I0 (h_ad z a0 0) 1).toInt < n_t) ∧ r.toInt = -1 ∧ (I1 (h_ad z a0 0) 1).toInt = (I0 (h_ad z a0 0) 1).toInt))) (fun (I1 : tI) t => h_B E A z I1 L0 t) A) 0 0 A := by
  refine Met.ofW (cc := cX11_end) (maxL := 2) (ret := (some .int)) (by decide) rfl ?_
  intro pr_ ev_ s m args below meth cd_ s₁ B hml hv
  obtain ⟨rfl, hE, hk, hX, hA, hK, hI, hR, hB0⟩ := hv
  have g : h_G h_so h_fk E A z I0 L0 s s.heap s.heap [] := ⟨hK, va_S.rf, hB0⟩
  have hF : h_F [(9, 1)] z I0 I0 := h_F.rf
  have hx := B.exec
  have hb := B.bytes
  have hr := B.returns
  have hts := atoms_spec (ws := wsX11_end) B.pre
  have hown : s.vm.findClass RX11 = some m.cls := findClass_of_methodNamed B.named
  have hlocks := B.notSynchronized
  have iX11 : ∀ w ∈ u_ws RX11 TX11 8, w ∈ wsX11_end := by decide +kernel
  have iX8 : ∀ w ∈ u_ws RX8 TX8 2, w ∈ wsX11_end := by decide +kernel
  have hl := lv_entry ([.ref a0, .int n]) (n := 2) (Nat.le_of_ble_eq_true rfl)
  rw [lg_entry_eq]
  generalize (lg_sl ([.ref a0, .int n]) ++ List.replicate (2 - (lg_sl ([.ref a0, .int n])).length) Slot.unset).toArray = ls at hl ⊢
  have hl : lv_has ls 2 [(0, .ref a0), (1, .int n)] := hl
  have b_n : -2147483648 ≤ n_t ∧ n_t ≤ 2147483647 := h_n ▸ ⟨xi_lo n, Int.le_of_lt_add_one (xi_hi n)⟩
  obtain ⟨tp, rtp, ttp⟩ := hR.at a0 0 t_a0 (rfl : h_rs 12 0 = some (9, false)) (by decide)
  have atp : h_ad z a0 0 = tp := h_ad.at rtp
  obtain ⟨f0_1, ef0_1⟩ : ∃ v : Int32, v = I0 tp 1 := ⟨_, rfl⟩
  have qf0_1 : (I0 tp 1).toInt = f0_1.toInt := congrArg Int32.toInt ef0_1.symm
  have jf0_1 := hI.rd tp 1 ttp ef0_1 (rfl : h_bd 9 1 = (0, 500))
  refine lv_iload_n hx hb dX11_end_0 rfl (lv_at hl 1 rfl) ?_
  refine lv_if_lt (tgt := 15) hx hb dX11_end_1 (by decide) (fun c1 => ?_) (fun c1 => ?_)
  · have ic1 := (xi_lt c1 h_n (by decide) : n_t < 0)
    refine lv_iconst (v := (-1)) hx hb dX11_end_15 (by decide) ?_
    have hS := g.2.1
    exact W.iret (v := (-1)) hx hb hr (fun t ht hW => ⟨⟨(-1), I0, rfl, ⟨hI, hF, (by rw [atp]; have qr : ((-1) : Int32).toInt = (-1) := (by decide); omega)⟩, h_ret g ht⟩, hS.F ht⟩) hS.2.2 dX11_end_16
  · have ic1 := (xi_nlt c1 h_n (by decide) : 0 ≤ n_t)
    refine lv_iload_n hx hb dX11_end_4 rfl (lv_at hl 1 rfl) ?_
    refine lv_aload_n hx hb dX11_end_5 rfl (lv_at hl 0 rfl) ?_
    refine h_get (v := .ref tp) hx hb hts iX11 hown g t_a0 (by decide) so_12 rfl 0 (by decide) (hts (.fieldLink RX11 10 "CapLeague" "tape" "LCapLeague$Tape;") (by decide +kernel)) rfl dX11_end_6 (by show va_rf (z.R a0 0) = _; rw [rtp]; rfl) ?_
    refine h_get (v := .int f0_1) hx hb hts iX8 hown g ttp (by decide) so_9 rfl 1 (by decide) (hts (.fieldLink RX11 81 "CapLeague$Tape" "size" "I") (by decide +kernel)) rfl dX11_end_9 (congrArg Value.int (ef0_1.symm)) ?_
    refine lv_icmp_le (tgt := 17) hx hb dX11_end_12 (by decide) (fun c2 => ?_) (fun c2 => ?_)
    · have ic2 := (xi_le c2 h_n rfl : n_t ≤ f0_1.toInt)
      refine lv_aload_n hx hb dX11_end_17 rfl (lv_at hl 0 rfl) ?_
      refine h_get (v := .ref tp) hx hb hts iX11 hown g t_a0 (by decide) so_12 rfl 0 (by decide) (hts (.fieldLink RX11 10 "CapLeague" "tape" "LCapLeague$Tape;") (by decide +kernel)) rfl dX11_end_18 (by show va_rf (z.R a0 0) = _; rw [rtp]; rfl) ?_
      refine lv_iload_n hx hb dX11_end_21 rfl (lv_at hl 1 rfl) ?_
      refine h_putI (ty := .int) (v := n) hx hb hts iX8 tyX8 tyX8_ok nmX8 hown g ttp (by decide) so_9 rfl 1 (by decide) rfl (hts (.fieldLink RX11 81 "CapLeague$Tape" "size" "I") (by decide +kernel)) rfl rfl (by decide +kernel) rfl rfl dX11_end_22 (fun I3 H locs eI3 g => ?_)
      have hI := hI.wr eI3 ttp (rfl : h_bd 9 1 = (0, 500)) (by rw [h_n]; omega) (by rw [h_n]; omega)
      have hF := hF.wr eI3 ttp rfl
      refine lv_iload_n hx hb dX11_end_25 rfl (lv_at hl 1 rfl) ?_
      have hS := g.2.1
      exact W.iret (v := n) hx hb hr (fun t ht hW => ⟨⟨n, I3, rfl, ⟨hI, hF, (by rw [atp]; have q1_ : (I3 tp 1).toInt = n_t := (congrArg Int32.toInt (h_n0 eI3)).trans h_n; omega)⟩, h_ret g ht⟩, hS.F ht⟩) hS.2.2 dX11_end_26
    · have ic2 := (xi_nle c2 h_n rfl : f0_1.toInt < n_t)
      refine lv_iconst (v := (-1)) hx hb dX11_end_15 (by decide) ?_
      have hS := g.2.1
      exact W.iret (v := (-1)) hx hb hr (fun t ht hW => ⟨⟨(-1), I0, rfl, ⟨hI, hF, (by rw [atp]; have qr : ((-1) : Int32).toInt = (-1) := (by decide); omega)⟩, h_ret g ht⟩, hS.F ht⟩) hS.2.2 dX11_end_16
set_option maxHeartbeats 4000000 in
set_option maxRecDepth 100000 in
theorem tX12_endX (l : Launch) (E : tE) (X : tX) (A : Nat → Prop) (z : tZ) (I0 : tI) (L0 : tL) (a0 : Nat) (t_a0 : z.ty a0 = 13) (n : Int32) (n_t : Int) (h_n : n.toInt = n_t) : Met l yX12_end wsX12_end ({ frames := 1, cells := 0, slots := 0, locals := 64 }) (va_Pc [.ref a0, .int n] (h_P E X A z I0 L0)) (va_Qi (fun r (I1 : tI) => h_I z I1 ∧ h_F [(13, 1)] z I0 I1 ∧ ((0 ≤ n_t ∧ n_t ≤ (I0 a0 1).toInt ∧ r.toInt = n_t ∧ (I1 a0 1).toInt = n_t) ∨ ((n_t < 0 ∨ (I0 a0 1).toInt < n_t) ∧ r.toInt = -1 ∧ (I1 a0 1).toInt = (I0 a0 1).toInt))) (fun (I1 : tI) t => h_B E A z I1 L0 t) A) 0 0 A := by
  refine Met.ofW (cc := cX12_end) (maxL := 2) (ret := (some .int)) (by decide) rfl ?_
  intro pr_ ev_ s m args below meth cd_ s₁ B hml hv
  obtain ⟨rfl, hE, hk, hX, hA, hK, hI, hR, hB0⟩ := hv
  have g : h_G h_so h_fk E A z I0 L0 s s.heap s.heap [] := ⟨hK, va_S.rf, hB0⟩
  have hF : h_F [(13, 1)] z I0 I0 := h_F.rf
  have hx := B.exec
  have hb := B.bytes
  have hr := B.returns
  have hts := atoms_spec (ws := wsX12_end) B.pre
  have hown : s.vm.findClass RX12 = some m.cls := findClass_of_methodNamed B.named
  have hlocks := B.notSynchronized
  have iX12 : ∀ w ∈ u_ws RX12 TX12 51, w ∈ wsX12_end := by decide +kernel
  have hl := lv_entry ([.ref a0, .int n]) (n := 2) (Nat.le_of_ble_eq_true rfl)
  rw [lg_entry_eq]
  generalize (lg_sl ([.ref a0, .int n]) ++ List.replicate (2 - (lg_sl ([.ref a0, .int n])).length) Slot.unset).toArray = ls at hl ⊢
  have hl : lv_has ls 2 [(0, .ref a0), (1, .int n)] := hl
  have b_n : -2147483648 ≤ n_t ∧ n_t ≤ 2147483647 := h_n ▸ ⟨xi_lo n, Int.le_of_lt_add_one (xi_hi n)⟩
  obtain ⟨f0_1, ef0_1⟩ : ∃ v : Int32, v = I0 a0 1 := ⟨_, rfl⟩
  have qf0_1 : (I0 a0 1).toInt = f0_1.toInt := congrArg Int32.toInt ef0_1.symm
  have jf0_1 := hI.rd a0 1 t_a0 ef0_1 (rfl : h_bd 13 1 = (0, 500))
  refine lv_iload_n hx hb dX12_end_0 rfl (lv_at hl 1 rfl) ?_
  refine lv_if_lt (tgt := 12) hx hb dX12_end_1 (by decide) (fun c1 => ?_) (fun c1 => ?_)
  · have ic1 := (xi_lt c1 h_n (by decide) : n_t < 0)
    refine lv_iconst (v := (-1)) hx hb dX12_end_12 (by decide) ?_
    have hS := g.2.1
    exact W.iret (v := (-1)) hx hb hr (fun t ht hW => ⟨⟨(-1), I0, rfl, ⟨hI, hF, (by have qr : ((-1) : Int32).toInt = (-1) := (by decide); omega)⟩, h_ret g ht⟩, hS.F ht⟩) hS.2.2 dX12_end_13
  · have ic1 := (xi_nlt c1 h_n (by decide) : 0 ≤ n_t)
    refine lv_iload_n hx hb dX12_end_4 rfl (lv_at hl 1 rfl) ?_
    refine lv_aload_n hx hb dX12_end_5 rfl (lv_at hl 0 rfl) ?_
    refine h_get (v := .int f0_1) hx hb hts iX12 hown g t_a0 (by decide) so_13 rfl 1 (by decide) (hts (.fieldLink RX12 119 "CapLeagueModel" "taped" "I") (by decide +kernel)) rfl dX12_end_6 (congrArg Value.int (ef0_1.symm)) ?_
    refine lv_icmp_le (tgt := 14) hx hb dX12_end_9 (by decide) (fun c2 => ?_) (fun c2 => ?_)
    · have ic2 := (xi_le c2 h_n rfl : n_t ≤ f0_1.toInt)
      refine lv_aload_n hx hb dX12_end_14 rfl (lv_at hl 0 rfl) ?_
      refine lv_iload_n hx hb dX12_end_15 rfl (lv_at hl 1 rfl) ?_
      refine h_putI (ty := .int) (v := n) hx hb hts iX12 tyX12 tyX12_ok nmX12 hown g t_a0 (by decide) so_13 rfl 1 (by decide) rfl (hts (.fieldLink RX12 119 "CapLeagueModel" "taped" "I") (by decide +kernel)) rfl rfl (by decide +kernel) rfl rfl dX12_end_16 (fun I3 H locs eI3 g => ?_)
      have hI := hI.wr eI3 t_a0 (rfl : h_bd 13 1 = (0, 500)) (by rw [h_n]; omega) (by rw [h_n]; omega)
      have hF := hF.wr eI3 t_a0 rfl
      refine lv_iload_n hx hb dX12_end_19 rfl (lv_at hl 1 rfl) ?_
      have hS := g.2.1
      exact W.iret (v := n) hx hb hr (fun t ht hW => ⟨⟨n, I3, rfl, ⟨hI, hF, (by have q1_ : (I3 a0 1).toInt = n_t := (congrArg Int32.toInt (h_n0 eI3)).trans h_n; omega)⟩, h_ret g ht⟩, hS.F ht⟩) hS.2.2 dX12_end_20
    · have ic2 := (xi_nle c2 h_n rfl : f0_1.toInt < n_t)
      refine lv_iconst (v := (-1)) hx hb dX12_end_12 (by decide) ?_
      have hS := g.2.1
      exact W.iret (v := (-1)) hx hb hr (fun t ht hW => ⟨⟨(-1), I0, rfl, ⟨hI, hF, (by have qr : ((-1) : Int32).toInt = (-1) := (by decide); omega)⟩, h_ret g ht⟩, hS.F ht⟩) hS.2.2 dX12_end_13
set_option maxHeartbeats 4000000 in
set_option maxRecDepth 100000 in
theorem tX0_isNowX (l : Launch) (E : tE) (X : tX) (A : Nat → Prop) (z : tZ) (I0 : tI) (L0 : tL) (a0 : Nat) (t_a0 : z.ty a0 = 1) (y : Int32) (y_t : Int) (h_y : y.toInt = y_t) : Met l yX0_isNowOrLater wsX0_isNowOrLater ({ frames := 2, cells := 0, slots := 0, locals := 128 }) (va_Pc [.ref a0, .int y] (h_P E X A z I0 L0)) (vp_Si (fun r => (0 ≤ r.toInt ∧ r.toInt ≤ 1) ∧ ((r.toInt = 1 ∧ (I0 a0 3).toInt ≤ y_t ∧ 0 ≤ y_t ∧ y_t ≤ 9) ∨ (r.toInt = 0 ∧ ¬ ((I0 a0 3).toInt ≤ y_t ∧ y_t ≤ 9))))) 0 0 (fun _ => False) := by
  refine Met.ofW (cc := cX0_isNowOrLater) (maxL := 2) (ret := (some .boolean)) (by decide) rfl ?_
  intro pr_ ev_ s m args below meth cd_ s₁ B hml hv
  obtain ⟨rfl, hE, hk, hX, hA, hK, hI, hR, hB0⟩ := hv
  have g : h_G h_so h_fk E A z I0 L0 s s.heap s.heap [] := ⟨hK, va_S.rf, hB0⟩
  have hx := B.exec
  have hb := B.bytes
  have hr := B.returns
  have hts := atoms_spec (ws := wsX0_isNowOrLater) B.pre
  have hown : s.vm.findClass RX0 = some m.cls := findClass_of_methodNamed B.named
  have hlocks := B.notSynchronized
  have iX0 : ∀ w ∈ u_ws RX0 TX0 9, w ∈ wsX0_isNowOrLater := by decide +kernel
  have hl := lv_entry ([.ref a0, .int y]) (n := 2) (Nat.le_of_ble_eq_true rfl)
  rw [lg_entry_eq]
  generalize (lg_sl ([.ref a0, .int y]) ++ List.replicate (2 - (lg_sl ([.ref a0, .int y])).length) Slot.unset).toArray = ls at hl ⊢
  have hl : lv_has ls 2 [(0, .ref a0), (1, .int y)] := hl
  have b_y : -2147483648 ≤ y_t ∧ y_t ≤ 2147483647 := h_y ▸ ⟨xi_lo y, Int.le_of_lt_add_one (xi_hi y)⟩
  obtain ⟨f0_3, ef0_3⟩ : ∃ v : Int32, v = I0 a0 3 := ⟨_, rfl⟩
  have qf0_3 : (I0 a0 3).toInt = f0_3.toInt := congrArg Int32.toInt ef0_3.symm
  have jf0_3 := hI.rd a0 3 t_a0 ef0_3 (rfl : h_bd 1 3 = (0, 9))
  refine lv_iload_n hx hb dX0_isNowOrLater_0 rfl (lv_at hl 1 rfl) ?_
  refine vp_callSi (xr_of (va_runSN (As := [.int y]) (rest := []) ⟨hx, hb, hml, hown, hts⟩ (tX11_isYear l E X A z I0 L0 y (y_t) h_y) (⟨va_cnB 1 hts gX0_isNowOrLater_X11_isYear_n47 rfl rfl rfl (hE.link 5 rfl) (hts (.initialized RX11) (by decide +kernel)) (by decide +kernel) ⟨Nat.le_of_ble_eq_true rfl, Nat.le_of_ble_eq_true rfl⟩, hts (.static yX11_isYear) (by decide +kernel), trivial⟩) ⟨h_blind _ _ _ _ _ _ _, h_pre _ hE hk hX hA hI hR g⟩ rfl rfl hl.1 rfl (lv_room (Nat.le_of_ble_eq_true rfl)) dX0_isNowOrLater_1 ⟨Nat.le_of_ble_eq_true rfl, Nat.le_of_ble_eq_true rfl⟩)) (fun rh1 h1 => ?_)
  rcases h1 with ⟨rfl, h1⟩ | ⟨rfl, h1⟩
  · skip
    refine lv_if_eq (tgt := 19) hx hb dX0_isNowOrLater_4 (by decide) (fun _ => ?_) (fun h => absurd (by decide) h)
    refine lv_iconst (v := 0) hx hb dX0_isNowOrLater_19 (by decide) ?_
    exact W.zret (v := 0) hx hb hr (by decide) (fun t ht hW => ⟨0, rfl, ⟨⟨(by decide), (by decide)⟩, (by have qr : (0 : Int32).toInt = 0 := (by decide); omega)⟩, ht⟩) (fun _ h => by cases h) dX0_isNowOrLater_20
  · skip
    refine lv_if_eq (tgt := 19) hx hb dX0_isNowOrLater_4 (by decide) (fun h => absurd h (by decide)) (fun _ => ?_)
    refine lv_iload_n hx hb dX0_isNowOrLater_7 rfl (lv_at hl 1 rfl) ?_
    refine lv_aload_n hx hb dX0_isNowOrLater_8 rfl (lv_at hl 0 rfl) ?_
    refine h_get (v := .int f0_3) hx hb hts iX0 hown g t_a0 (by decide) so_1 rfl 3 (by decide) (hts (.fieldLink RX0 37 "CapLeague$Books" "clock" "I") (by decide +kernel)) rfl dX0_isNowOrLater_9 (congrArg Value.int (ef0_3.symm)) ?_
    refine lv_icmp_lt (tgt := 19) hx hb dX0_isNowOrLater_12 (by decide) (fun c4 => ?_) (fun c4 => ?_)
    · have ic4 := (xi_lt c4 h_y rfl : y_t < f0_3.toInt)
      refine lv_iconst (v := 0) hx hb dX0_isNowOrLater_19 (by decide) ?_
      exact W.zret (v := 0) hx hb hr (by decide) (fun t ht hW => ⟨0, rfl, ⟨⟨(by decide), (by decide)⟩, (by have qr : (0 : Int32).toInt = 0 := (by decide); omega)⟩, ht⟩) (fun _ h => by cases h) dX0_isNowOrLater_20
    · have ic4 := (xi_nlt c4 h_y rfl : f0_3.toInt ≤ y_t)
      refine lv_iconst (v := 1) hx hb dX0_isNowOrLater_15 (by decide) ?_
      refine lv_goto (tgt := 20) hx hb dX0_isNowOrLater_16 (by decide) ?_
      exact W.zret (v := 1) hx hb hr (by decide) (fun t ht hW => ⟨1, rfl, ⟨⟨(by decide), (by decide)⟩, (by have qr : (1 : Int32).toInt = 1 := (by decide); omega)⟩, ht⟩) (fun _ h => by cases h) dX0_isNowOrLater_20

