set_option maxHeartbeats 4000000 in
set_option maxRecDepth 100000 in
theorem tX11_turnB (l : Launch) (E : tE) (X : tX) (A : Nat → Prop) (z : tZ) (I0 : tI) (L0 : tL) (a0 : Nat) (t_a0 : z.ty a0 = 12) (y : Int32) (y_t : Int) (h_y : y.toInt = y_t) (i : Int32) (i_t : Int) (h_i : i.toInt = i_t) (x : Int32) (x_t : Int) (h_x : x.toInt = x_t) : Met l yX11_turn wsX11_turn ({ frames := 3, cells := 0, slots := 0, locals := 192 }) (va_Pc [.ref a0, .int y, .int i, .int x] (h_P E X A z I0 L0)) (vp_Si (fun r => ((¬ (0 ≤ y_t ∧ y_t ≤ 9 ∧ (I0 (h_ad z (h_ad z a0 7) 2) y_t.toNat).toInt ≠ 0 ∧ 0 ≤ i_t ∧ i_t ≤ 7) ∧ r.toInt = -1) ∨ ((0 ≤ y_t ∧ y_t ≤ 9 ∧ (I0 (h_ad z (h_ad z a0 7) 2) y_t.toNat).toInt ≠ 0 ∧ 0 ≤ i_t ∧ i_t ≤ 7) ∧ ((x_t = 0 ∧ r = I0 (h_ad z (h_ad z (h_ad z a0 7) 3) y_t.toNat) i_t.toNat) ∨ (x_t = 1 ∧ r = I0 (h_ad z (h_ad z (h_ad z a0 7) 4) y_t.toNat) i_t.toNat) ∨ (x_t ≠ 0 ∧ x_t ≠ 1 ∧ r.toInt = -1)))))) 0 0 (fun _ => False) := by
  refine Met.ofW (cc := cX11_turn) (maxL := 4) (ret := (some .int)) (by decide) rfl ?_
  intro pr_ ev_ s m args below meth cd_ s₁ B hml hv
  obtain ⟨rfl, hE, hk, hX, hA, hK, hI, hR, hB0⟩ := hv
  have g : h_G h_so h_fk E A z I0 L0 s s.heap s.heap [] := ⟨hK, va_S.rf, hB0⟩
  have hx := B.exec
  have hb := B.bytes
  have hr := B.returns
  have hts := atoms_spec (ws := wsX11_turn) B.pre
  have hown : s.vm.findClass RX11 = some m.cls := findClass_of_methodNamed B.named
  have hlocks := B.notSynchronized
  have iX11 : ∀ w ∈ u_ws RX11 TX11 8, w ∈ wsX11_turn := by decide +kernel
  have iX2 : ∀ w ∈ u_ws RX2 TX2 7, w ∈ wsX11_turn := by decide +kernel
  have hl := lv_entry ([.ref a0, .int y, .int i, .int x]) (n := 4) (Nat.le_of_ble_eq_true rfl)
  rw [lg_entry_eq]
  generalize (lg_sl ([.ref a0, .int y, .int i, .int x]) ++ List.replicate (4 - (lg_sl ([.ref a0, .int y, .int i, .int x])).length) Slot.unset).toArray = ls at hl ⊢
  have hl : lv_has ls 4 [(0, .ref a0), (1, .int y), (2, .int i), (3, .int x)] := hl
  have b_y : -2147483648 ≤ y_t ∧ y_t ≤ 2147483647 := h_y ▸ ⟨xi_lo y, Int.le_of_lt_add_one (xi_hi y)⟩
  have b_i : -2147483648 ≤ i_t ∧ i_t ≤ 2147483647 := h_i ▸ ⟨xi_lo i, Int.le_of_lt_add_one (xi_hi i)⟩
  have b_x : -2147483648 ≤ x_t ∧ x_t ≤ 2147483647 := h_x ▸ ⟨xi_lo x, Int.le_of_lt_add_one (xi_hi x)⟩
  obtain ⟨dt, rdt, tdt⟩ := hR.at a0 7 t_a0 (rfl : h_rs 12 7 = some (3, false)) (by decide)
  have adt : h_ad z a0 7 = dt := h_ad.at rdt
  obtain ⟨dr, rdr, tdr⟩ := hR.at dt 2 tdt (rfl : h_rs 3 2 = some (302, false)) (by decide)
  have adr : h_ad z dt 2 = dr := h_ad.at rdr
  obtain ⟨od, rod, tod⟩ := hR.at dt 3 tdt (rfl : h_rs 3 3 = some (303, false)) (by decide)
  have aod : h_ad z dt 3 = od := h_ad.at rod
  obtain ⟨hv, rhv, thv⟩ := hR.at dt 4 tdt (rfl : h_rs 3 4 = some (304, false)) (by decide)
  have ahv : h_ad z dt 4 = hv := h_ad.at rhv
  refine lv_iload_n hx hb dX11_turn_0 rfl (lv_at hl 1 rfl) ?_
  refine vp_callSi (W.runS (As := [.int y]) (rest := []) ⟨hx, hb, hml, hown, hts⟩ (tX11_isYear l E X A z I0 L0 y (y_t) h_y) (va_cwS 1 hts gX11_turn_X11_isYear rfl rfl rfl (by decide +kernel) ⟨Nat.le_of_ble_eq_true rfl, Nat.le_of_ble_eq_true rfl⟩) ⟨h_blind _ _ _ _ _ _ _, h_pre _ hE hk hX hA hI hR g⟩ rfl rfl hl.1 rfl (lv_room (Nat.le_of_ble_eq_true rfl)) dX11_turn_1 ⟨Nat.le_of_ble_eq_true rfl, Nat.le_of_ble_eq_true rfl⟩) (fun rh1 h1 => ?_)
  rcases h1 with ⟨rfl, h1⟩ | ⟨rfl, h1⟩
  · skip
    refine lv_if_eq (tgt := 28) hx hb dX11_turn_4 (by decide) (fun _ => ?_) (fun h => absurd (by decide) h)
    refine lv_iconst (v := (-1)) hx hb dX11_turn_28 (by decide) ?_
    exact W.iret (v := (-1)) hx hb hr (fun t ht hW => ⟨(-1), rfl, (by rw [adt, adr, aod, ahv]; exact Or.inl ⟨by omega, by decide⟩), ht⟩) (fun _ h => by cases h) dX11_turn_29
  · skip
    refine lv_if_eq (tgt := 28) hx hb dX11_turn_4 (by decide) (fun h => absurd h (by decide)) (fun _ => ?_)
    refine lv_aload_n hx hb dX11_turn_7 rfl (lv_at hl 0 rfl) ?_
    refine h_get (v := .ref dt) hx hb hts iX11 hown g t_a0 (by decide) so_12 rfl 7 (by decide) (hts (.fieldLink RX11 69 "CapLeague" "draft" "LCapLeague$Draft;") (by decide +kernel)) rfl dX11_turn_8 (by show va_rf (z.R a0 7) = _; rw [rdt]; rfl) ?_
    refine lv_iload_n hx hb dX11_turn_11 rfl (lv_at hl 1 rfl) ?_
    refine vp_callSi (W.runV (As := [.int y]) (rest := []) ⟨hx, hb, hml, hown, hts⟩ (tX2_isDrawnF l E X A z I0 L0 dt tdt y (y_t) h_y) (cwV 1 hts gX11_turn_X2_isDrawn rfl rfl rfl (by decide +kernel) ⟨Nat.le_of_ble_eq_true rfl, Nat.le_of_ble_eq_true rfl⟩) ⟨h_blind _ _ _ _ _ _ _, h_recv g tdt (by decide) so_3 (q := (RX2, TX2, 7)) rfl, h_pre _ hE hk hX hA hI hR g⟩ rfl rfl hl.1 rfl (lv_room (Nat.le_of_ble_eq_true rfl)) dX11_turn_12 ⟨Nat.le_of_ble_eq_true rfl, Nat.le_of_ble_eq_true rfl⟩) (fun rh4 h4 => ?_)
    obtain ⟨h4, h4p0⟩ := h4
    rw [adr] at h4p0
    refine lv_if_eq (tgt := 28) hx hb dX11_turn_15 (by decide) (fun c5 => ?_) (fun c5 => ?_)
    · have ic5 := (xi_eq c5 rfl (by decide) : rh4.toInt = 0)
      refine lv_iconst (v := (-1)) hx hb dX11_turn_28 (by decide) ?_
      exact W.iret (v := (-1)) hx hb hr (fun t ht hW => ⟨(-1), rfl, (by rw [adt, adr, aod, ahv]; exact Or.inl ⟨fun q => by rcases h4p0 with a | a; omega; omega, by decide⟩), ht⟩) (fun _ h => by cases h) dX11_turn_29
    · have ic5 := (xi_ne c5 rfl (by decide) : rh4.toInt ≠ 0)
      refine lv_iload_n hx hb dX11_turn_18 rfl (lv_at hl 2 rfl) ?_
      refine lv_if_lt (tgt := 28) hx hb dX11_turn_19 (by decide) (fun c6 => ?_) (fun c6 => ?_)
      · have ic6 := (xi_lt c6 h_i (by decide) : i_t < 0)
        refine lv_iconst (v := (-1)) hx hb dX11_turn_28 (by decide) ?_
        exact W.iret (v := (-1)) hx hb hr (fun t ht hW => ⟨(-1), rfl, (by rw [adt, adr, aod, ahv]; exact Or.inl ⟨fun q => by rcases h4p0 with a | a; omega; omega, by decide⟩), ht⟩) (fun _ h => by cases h) dX11_turn_29
      · have ic6 := (xi_nlt c6 h_i (by decide) : 0 ≤ i_t)
        refine lv_iload_n hx hb dX11_turn_22 rfl (lv_at hl 2 rfl) ?_
        refine lv_bipush (v := 8) hx hb dX11_turn_23 (by decide) ?_
        refine lv_icmp_lt (tgt := 30) hx hb dX11_turn_25 (by decide) (fun c7 => ?_) (fun c7 => ?_)
        · have ic7 := (xi_lt c7 h_i (by decide) : i_t < 8)
          refine lv_iload_n hx hb dX11_turn_30 rfl (lv_at hl 3 rfl) ?_
          refine lv_if_ne (tgt := 46) hx hb dX11_turn_31 (by decide) (fun c8 => ?_) (fun c8 => ?_)
          · have ic8 := (xi_ne c8 h_x (by decide) : x_t ≠ 0)
            refine lv_iload_n hx hb dX11_turn_46 rfl (lv_at hl 3 rfl) ?_
            refine lv_iconst (v := 1) hx hb dX11_turn_47 (by decide) ?_
            refine lv_icmp_ne (tgt := 65) hx hb dX11_turn_48 (by decide) (fun c9 => ?_) (fun c9 => ?_)
            · have ic9 := (xi_ne c9 h_x (by decide) : x_t ≠ 1)
              refine lv_iconst (v := (-1)) hx hb dX11_turn_65 (by decide) ?_
              exact W.iret (v := (-1)) hx hb hr (fun t ht hW => ⟨(-1), rfl, (by rw [adt, adr, aod, ahv]; exact Or.inr ⟨⟨by omega, by omega, by rcases h4p0 with a | a; omega; omega, by omega, by omega⟩, Or.inr (Or.inr ⟨by omega, by omega, by decide⟩)⟩), ht⟩) (fun _ h => by cases h) dX11_turn_66
            · have ic9 := (xi_eq c9 h_x (by decide) : x_t = 1)
              refine lv_aload_n hx hb dX11_turn_51 rfl (lv_at hl 0 rfl) ?_
              refine h_get (v := .ref dt) hx hb hts iX11 hown g t_a0 (by decide) so_12 rfl 7 (by decide) (hts (.fieldLink RX11 69 "CapLeague" "draft" "LCapLeague$Draft;") (by decide +kernel)) rfl dX11_turn_52 (by show va_rf (z.R a0 7) = _; rw [rdt]; rfl) ?_
              refine h_get (v := .ref hv) hx hb hts iX2 hown g tdt (by decide) so_3 rfl 4 (by decide) (hts (.fieldLink RX11 291 "CapLeague$Draft" "having" "[[I") (by decide +kernel)) rfl dX11_turn_55 (by show va_rf (z.R dt 4) = _; rw [rhv]; rfl) ?_
              refine lv_iload_n hx hb dX11_turn_58 rfl (lv_at hl 1 rfl) ?_
              obtain ⟨b10, rb10, tb10⟩ := hR.at hv y.toNatClampNeg thv (rfl : h_rs 304 _ = some (354, false)) (by rw [so_304]; exact h_lt (n := 10) (xi_in (by rw [h_y]; omega) (by rw [h_y]; omega)))
              refine h_aldA (v := .ref b10) hx hb g thv (by decide) so_304 (xi_in (by rw [h_y]; omega) (by rw [h_y]; omega)) dX11_turn_59 (by rw [rb10]; rfl) ?_
              refine lv_iload_n hx hb dX11_turn_60 rfl (lv_at hl 2 rfl) ?_
              refine h_ald hx hb g tb10 (by decide) so_354 (xi_in (by rw [h_i]; omega) (by rw [h_i]; omega)) dX11_turn_61 ?_
              refine lv_topi (fun v11 ev11 => ?_)
              have jv11 := hI.rd b10 i.toNatClampNeg tb10 ev11 (rfl : h_bd 354 _ = ((-2147483648), 2147483647))
              refine lv_goto (tgt := 66) hx hb dX11_turn_62 (by decide) ?_
              exact W.iret (v := v11) hx hb hr (fun t ht hW => ⟨v11, rfl, (by rw [adt, adr, aod, ahv]; exact Or.inr ⟨⟨by omega, by omega, by rcases h4p0 with a | a; omega; omega, by omega, by omega⟩, Or.inr (Or.inl ⟨by omega, by rw [← (h_keq h_y (by omega) (by omega) : y.toNatClampNeg = y_t.toNat), h_ad.at rb10, ← (h_keq h_i (by omega) (by omega) : i.toNatClampNeg = i_t.toNat)]; exact ev11⟩)⟩), ht⟩) (fun _ h => by cases h) dX11_turn_66
          · have ic8 := (xi_eq c8 h_x (by decide) : x_t = 0)
            refine lv_aload_n hx hb dX11_turn_34 rfl (lv_at hl 0 rfl) ?_
            refine h_get (v := .ref dt) hx hb hts iX11 hown g t_a0 (by decide) so_12 rfl 7 (by decide) (hts (.fieldLink RX11 69 "CapLeague" "draft" "LCapLeague$Draft;") (by decide +kernel)) rfl dX11_turn_35 (by show va_rf (z.R a0 7) = _; rw [rdt]; rfl) ?_
            refine h_get (v := .ref od) hx hb hts iX2 hown g tdt (by decide) so_3 rfl 3 (by decide) (hts (.fieldLink RX11 288 "CapLeague$Draft" "order" "[[I") (by decide +kernel)) rfl dX11_turn_38 (by show va_rf (z.R dt 3) = _; rw [rod]; rfl) ?_
            refine lv_iload_n hx hb dX11_turn_41 rfl (lv_at hl 1 rfl) ?_
            obtain ⟨b12, rb12, tb12⟩ := hR.at od y.toNatClampNeg tod (rfl : h_rs 303 _ = some (353, false)) (by rw [so_303]; exact h_lt (n := 10) (xi_in (by rw [h_y]; omega) (by rw [h_y]; omega)))
            refine h_aldA (v := .ref b12) hx hb g tod (by decide) so_303 (xi_in (by rw [h_y]; omega) (by rw [h_y]; omega)) dX11_turn_42 (by rw [rb12]; rfl) ?_
            refine lv_iload_n hx hb dX11_turn_43 rfl (lv_at hl 2 rfl) ?_
            refine h_ald hx hb g tb12 (by decide) so_353 (xi_in (by rw [h_i]; omega) (by rw [h_i]; omega)) dX11_turn_44 ?_
            refine lv_topi (fun v13 ev13 => ?_)
            have jv13 := hI.rd b12 i.toNatClampNeg tb12 ev13 (rfl : h_bd 353 _ = ((-2147483648), 2147483647))
            exact W.iret (v := v13) hx hb hr (fun t ht hW => ⟨v13, rfl, (by rw [adt, adr, aod, ahv]; exact Or.inr ⟨⟨by omega, by omega, by rcases h4p0 with a | a; omega; omega, by omega, by omega⟩, Or.inl ⟨by omega, by rw [← (h_keq h_y (by omega) (by omega) : y.toNatClampNeg = y_t.toNat), h_ad.at rb12, ← (h_keq h_i (by omega) (by omega) : i.toNatClampNeg = i_t.toNat)]; exact ev13⟩⟩), ht⟩) (fun _ h => by cases h) dX11_turn_45
        · have ic7 := (xi_nlt c7 h_i (by decide) : 8 ≤ i_t)
          refine lv_iconst (v := (-1)) hx hb dX11_turn_28 (by decide) ?_
          exact W.iret (v := (-1)) hx hb hr (fun t ht hW => ⟨(-1), rfl, (by rw [adt, adr, aod, ahv]; exact Or.inl ⟨fun q => by rcases h4p0 with a | a; omega; omega, by decide⟩), ht⟩) (fun _ h => by cases h) dX11_turn_29
set_option maxHeartbeats 4000000 in
set_option maxRecDepth 100000 in
theorem tX12_turnB (l : Launch) (E : tE) (X : tX) (A : Nat → Prop) (z : tZ) (I0 : tI) (L0 : tL) (a0 : Nat) (t_a0 : z.ty a0 = 13) (y : Int32) (y_t : Int) (h_y : y.toInt = y_t) (i : Int32) (i_t : Int) (h_i : i.toInt = i_t) (x : Int32) (x_t : Int) (h_x : x.toInt = x_t) : Met l yX12_turn wsX12_turn ({ frames := 2, cells := 0, slots := 0, locals := 128 }) (va_Pc [.ref a0, .int y, .int i, .int x] (h_P E X A z I0 L0)) (vp_Si (fun r => ((¬ (0 ≤ y_t ∧ y_t ≤ 9 ∧ 0 ≤ i_t ∧ i_t ≤ 7 ∧ (I0 (h_ad z a0 28) (8 * y_t + i_t).toNat).toInt ≠ -1) ∧ r.toInt = -1) ∨ ((0 ≤ y_t ∧ y_t ≤ 9 ∧ 0 ≤ i_t ∧ i_t ≤ 7 ∧ (I0 (h_ad z a0 28) (8 * y_t + i_t).toNat).toInt ≠ -1) ∧ ((x_t = 0 ∧ r = (I0 (h_ad z a0 28) (8 * y_t + i_t).toNat)) ∨ (x_t = 1 ∧ r = (I0 (h_ad z a0 29) (8 * y_t + i_t).toNat)) ∨ (x_t ≠ 0 ∧ x_t ≠ 1 ∧ r.toInt = -1)))))) 0 0 (fun _ => False) := by
  refine Met.ofW (cc := cX12_turn) (maxL := 4) (ret := (some .int)) (by decide) rfl ?_
  intro pr_ ev_ s m args below meth cd_ s₁ B hml hv
  obtain ⟨rfl, hE, hk, hX, hA, hK, hI, hR, hB0⟩ := hv
  have g : h_G h_so h_fk E A z I0 L0 s s.heap s.heap [] := ⟨hK, va_S.rf, hB0⟩
  have hx := B.exec
  have hb := B.bytes
  have hr := B.returns
  have hts := atoms_spec (ws := wsX12_turn) B.pre
  have hown : s.vm.findClass RX12 = some m.cls := findClass_of_methodNamed B.named
  have hlocks := B.notSynchronized
  have iX12 : ∀ w ∈ u_ws RX12 TX12 51, w ∈ wsX12_turn := by decide +kernel
  have hl := lv_entry ([.ref a0, .int y, .int i, .int x]) (n := 4) (Nat.le_of_ble_eq_true rfl)
  rw [lg_entry_eq]
  generalize (lg_sl ([.ref a0, .int y, .int i, .int x]) ++ List.replicate (4 - (lg_sl ([.ref a0, .int y, .int i, .int x])).length) Slot.unset).toArray = ls at hl ⊢
  have hl : lv_has ls 4 [(0, .ref a0), (1, .int y), (2, .int i), (3, .int x)] := hl
  have b_y : -2147483648 ≤ y_t ∧ y_t ≤ 2147483647 := h_y ▸ ⟨xi_lo y, Int.le_of_lt_add_one (xi_hi y)⟩
  have b_i : -2147483648 ≤ i_t ∧ i_t ≤ 2147483647 := h_i ▸ ⟨xi_lo i, Int.le_of_lt_add_one (xi_hi i)⟩
  have b_x : -2147483648 ≤ x_t ∧ x_t ≤ 2147483647 := h_x ▸ ⟨xi_lo x, Int.le_of_lt_add_one (xi_hi x)⟩
  obtain ⟨dw, rdw, tdw⟩ := hR.at a0 28 t_a0 (rfl : h_rs 13 28 = some (1328, false)) (by decide)
  have adw : h_ad z a0 28 = dw := h_ad.at rdw
  obtain ⟨dx, rdx, tdx⟩ := hR.at a0 29 t_a0 (rfl : h_rs 13 29 = some (1329, false)) (by decide)
  have adx : h_ad z a0 29 = dx := h_ad.at rdx
  refine lv_iload_n hx hb dX12_turn_0 rfl (lv_at hl 1 rfl) ?_
  refine lv_i2l hx hb dX12_turn_1 rfl ?_
  refine lv_topl (fun v1 ev1 => ?_)
  have jv1 : v1.toInt = y_t := by rw [ev1, xi_64]; exact h_y
  refine lv_lconst (v := 0) hx hb dX12_turn_2 (by decide) ?_
  refine lv_ldc2 (v := 9) hx hb hown (hts (.constantLong RX12 190 (9)) (by decide +kernel)) dX12_turn_3 ?_
  refine vp_callSi (W.runS (As := [.long v1, .long 0, .long 9]) (rest := []) ⟨hx, hb, hml, hown, hts⟩ (tX12_in l E X A z I0 L0 v1 (y_t) jv1 0 (0) (by decide) 9 (9) (by decide)) (va_cwS 3 hts gX12_turn_X12_in rfl rfl rfl (by decide +kernel) ⟨Nat.le_of_ble_eq_true rfl, Nat.le_of_ble_eq_true rfl⟩) ⟨h_blind _ _ _ _ _ _ _, h_pre _ hE hk hX hA hI hR g⟩ rfl rfl hl.1 rfl (lv_room (Nat.le_of_ble_eq_true rfl)) dX12_turn_6 ⟨Nat.le_of_ble_eq_true rfl, Nat.le_of_ble_eq_true rfl⟩) (fun rh2 h2 => ?_)
  rcases h2 with ⟨rfl, h2⟩ | ⟨rfl, h2⟩
  · skip
    refine lv_if_eq (tgt := 39) hx hb dX12_turn_9 (by decide) (fun _ => ?_) (fun h => absurd (by decide) h)
    refine lv_iconst (v := (-1)) hx hb dX12_turn_39 (by decide) ?_
    exact W.iret (v := (-1)) hx hb hr (fun t ht hW => ⟨(-1), rfl, (by rw [adw, adx]; exact Or.inl ⟨by omega, by decide⟩), ht⟩) (fun _ h => by cases h) dX12_turn_40
  · skip
    refine lv_if_eq (tgt := 39) hx hb dX12_turn_9 (by decide) (fun h => absurd h (by decide)) (fun _ => ?_)
    refine lv_iload_n hx hb dX12_turn_12 rfl (lv_at hl 2 rfl) ?_
    refine lv_i2l hx hb dX12_turn_13 rfl ?_
    refine lv_topl (fun v5 ev5 => ?_)
    have jv5 : v5.toInt = i_t := by rw [ev5, xi_64]; exact h_i
    refine lv_lconst (v := 0) hx hb dX12_turn_14 (by decide) ?_
    refine lv_ldc2 (v := 7) hx hb hown (hts (.constantLong RX12 205 (7)) (by decide +kernel)) dX12_turn_15 ?_
    refine vp_callSi (W.runS (As := [.long v5, .long 0, .long 7]) (rest := []) ⟨hx, hb, hml, hown, hts⟩ (tX12_in l E X A z I0 L0 v5 (i_t) jv5 0 (0) (by decide) 7 (7) (by decide)) (va_cwS 3 hts gX12_turn_X12_in rfl rfl rfl (by decide +kernel) ⟨Nat.le_of_ble_eq_true rfl, Nat.le_of_ble_eq_true rfl⟩) ⟨h_blind _ _ _ _ _ _ _, h_pre _ hE hk hX hA hI hR g⟩ rfl rfl hl.1 rfl (lv_room (Nat.le_of_ble_eq_true rfl)) dX12_turn_18 ⟨Nat.le_of_ble_eq_true rfl, Nat.le_of_ble_eq_true rfl⟩) (fun rh6 h6 => ?_)
    rcases h6 with ⟨rfl, h6⟩ | ⟨rfl, h6⟩
    · skip
      refine lv_if_eq (tgt := 39) hx hb dX12_turn_21 (by decide) (fun _ => ?_) (fun h => absurd (by decide) h)
      refine lv_iconst (v := (-1)) hx hb dX12_turn_39 (by decide) ?_
      exact W.iret (v := (-1)) hx hb hr (fun t ht hW => ⟨(-1), rfl, (by rw [adw, adx]; exact Or.inl ⟨by omega, by decide⟩), ht⟩) (fun _ h => by cases h) dX12_turn_40
    · skip
      refine lv_if_eq (tgt := 39) hx hb dX12_turn_21 (by decide) (fun h => absurd h (by decide)) (fun _ => ?_)
      refine lv_aload_n hx hb dX12_turn_24 rfl (lv_at hl 0 rfl) ?_
      refine h_get (v := .ref dw) hx hb hts iX12 hown g t_a0 (by decide) so_13 rfl 28 (by decide) (hts (.fieldLink RX12 67 "CapLeagueModel" "drawnOf" "[I") (by decide +kernel)) rfl dX12_turn_25 (by show va_rf (z.R a0 28) = _; rw [rdw]; rfl) ?_
      refine lv_bipush (v := 8) hx hb dX12_turn_28 (by decide) ?_
      refine lv_iload_n hx hb dX12_turn_30 rfl (lv_at hl 1 rfl) ?_
      refine lv_imul hx hb dX12_turn_31 ?_
      refine lv_topi (fun v9 ev9 => ?_)
      have jv9 : v9.toInt = 8 * y_t := xi_mul ev9 (by decide) h_y (by omega) (by omega)
      refine lv_iload_n hx hb dX12_turn_32 rfl (lv_at hl 2 rfl) ?_
      refine lv_iadd hx hb dX12_turn_33 ?_
      refine lv_topi (fun v10 ev10 => ?_)
      have jv10 : v10.toInt = v9.toInt + i_t := xi_add ev10 rfl h_i (by omega) (by omega)
      refine h_ald hx hb g tdw (by decide) so_1328 (xi_in (by omega) (by omega)) dX12_turn_34 ?_
      refine lv_topi (fun v11 ev11 => ?_)
      have jv11 := hI.rd dw v10.toNatClampNeg tdw ev11 (rfl : h_bd 1328 _ = ((-1), 7))
      have kk : v10.toNatClampNeg = (8 * y_t + i_t).toNat := h_keq (t := v10.toInt) rfl (by omega) (by omega)
      have ek : I0 dw (8 * y_t + i_t).toNat = v11 := by rw [← kk]; exact ev11.symm
      refine lv_iconst (v := (-1)) hx hb dX12_turn_35 (by decide) ?_
      refine lv_icmp_ne (tgt := 41) hx hb dX12_turn_36 (by decide) (fun c12 => ?_) (fun c12 => ?_)
      · have ic12 := (xi_ne c12 rfl (by decide) : v11.toInt ≠ (-1))
        refine lv_iload_n hx hb dX12_turn_41 rfl (lv_at hl 3 rfl) ?_
        refine lv_if_ne (tgt := 59) hx hb dX12_turn_42 (by decide) (fun c13 => ?_) (fun c13 => ?_)
        · have ic13 := (xi_ne c13 h_x (by decide) : x_t ≠ 0)
          refine lv_iload_n hx hb dX12_turn_59 rfl (lv_at hl 3 rfl) ?_
          refine lv_iconst (v := 1) hx hb dX12_turn_60 (by decide) ?_
          refine lv_icmp_ne (tgt := 78) hx hb dX12_turn_61 (by decide) (fun c14 => ?_) (fun c14 => ?_)
          · have ic14 := (xi_ne c14 h_x (by decide) : x_t ≠ 1)
            refine lv_iconst (v := (-1)) hx hb dX12_turn_78 (by decide) ?_
            exact W.iret (v := (-1)) hx hb hr (fun t ht hW => ⟨(-1), rfl, (by rw [adw, adx]; rw [ek]; exact Or.inr ⟨⟨by omega, by omega, by omega, by omega, by omega⟩, Or.inr (Or.inr ⟨by omega, by omega, by decide⟩)⟩), ht⟩) (fun _ h => by cases h) dX12_turn_79
          · have ic14 := (xi_eq c14 h_x (by decide) : x_t = 1)
            refine lv_aload_n hx hb dX12_turn_64 rfl (lv_at hl 0 rfl) ?_
            refine h_get (v := .ref dx) hx hb hts iX12 hown g t_a0 (by decide) so_13 rfl 29 (by decide) (hts (.fieldLink RX12 70 "CapLeagueModel" "drawnTo" "[I") (by decide +kernel)) rfl dX12_turn_65 (by show va_rf (z.R a0 29) = _; rw [rdx]; rfl) ?_
            refine lv_bipush (v := 8) hx hb dX12_turn_68 (by decide) ?_
            refine lv_iload_n hx hb dX12_turn_70 rfl (lv_at hl 1 rfl) ?_
            refine lv_imul hx hb dX12_turn_71 ?_
            refine xw_i (v := v9) ev9.symm ?_
            refine lv_iload_n hx hb dX12_turn_72 rfl (lv_at hl 2 rfl) ?_
            refine lv_iadd hx hb dX12_turn_73 ?_
            refine xw_i (v := v10) ev10.symm ?_
            refine h_ald hx hb g tdx (by decide) so_1329 (xi_in (by omega) (by omega)) dX12_turn_74 ?_
            refine lv_topi (fun v15 ev15 => ?_)
            have jv15 := hI.rd dx v10.toNatClampNeg tdx ev15 (rfl : h_bd 1329 _ = ((-2147483648), 2147483647))
            refine lv_goto (tgt := 79) hx hb dX12_turn_75 (by decide) ?_
            exact W.iret (v := v15) hx hb hr (fun t ht hW => ⟨v15, rfl, (by rw [adw, adx]; rw [ek]; exact Or.inr ⟨⟨by omega, by omega, by omega, by omega, by omega⟩, Or.inr (Or.inl ⟨by omega, by rw [← (h_keq (t := v10.toInt) rfl (by omega) (by omega) : v10.toNatClampNeg = (8 * y_t + i_t).toNat)]; exact ev15⟩)⟩), ht⟩) (fun _ h => by cases h) dX12_turn_79
        · have ic13 := (xi_eq c13 h_x (by decide) : x_t = 0)
          refine lv_aload_n hx hb dX12_turn_45 rfl (lv_at hl 0 rfl) ?_
          refine h_get (v := .ref dw) hx hb hts iX12 hown g t_a0 (by decide) so_13 rfl 28 (by decide) (hts (.fieldLink RX12 67 "CapLeagueModel" "drawnOf" "[I") (by decide +kernel)) rfl dX12_turn_46 (by show va_rf (z.R a0 28) = _; rw [rdw]; rfl) ?_
          refine lv_bipush (v := 8) hx hb dX12_turn_49 (by decide) ?_
          refine lv_iload_n hx hb dX12_turn_51 rfl (lv_at hl 1 rfl) ?_
          refine lv_imul hx hb dX12_turn_52 ?_
          refine xw_i (v := v9) ev9.symm ?_
          refine lv_iload_n hx hb dX12_turn_53 rfl (lv_at hl 2 rfl) ?_
          refine lv_iadd hx hb dX12_turn_54 ?_
          refine xw_i (v := v10) ev10.symm ?_
          refine h_ald hx hb g tdw (by decide) so_1328 (xi_in (by omega) (by omega)) dX12_turn_55 ?_
          refine xw_i (ev11.symm) ?_
          refine lv_goto (tgt := 79) hx hb dX12_turn_56 (by decide) ?_
          exact W.iret (v := v11) hx hb hr (fun t ht hW => ⟨v11, rfl, (by rw [adw, adx]; rw [ek]; exact Or.inr ⟨⟨by omega, by omega, by omega, by omega, by omega⟩, Or.inl ⟨by omega, rfl⟩⟩), ht⟩) (fun _ h => by cases h) dX12_turn_79
      · have ic12 := (xi_eq c12 rfl (by decide) : v11.toInt = (-1))
        refine lv_iconst (v := (-1)) hx hb dX12_turn_39 (by decide) ?_
        exact W.iret (v := (-1)) hx hb hr (fun t ht hW => ⟨(-1), rfl, (by rw [adw, adx]; rw [ek]; exact Or.inl ⟨by omega, by decide⟩), ht⟩) (fun _ h => by cases h) dX12_turn_40
set_option maxHeartbeats 4000000 in
set_option maxRecDepth 100000 in
theorem tX11_ownerB (l : Launch) (E : tE) (X : tX) (A : Nat → Prop) (z : tZ) (I0 : tI) (L0 : tL) (a0 : Nat) (t_a0 : z.ty a0 = 12) (o : Int32) (o_t : Int) (h_o : o.toInt = o_t) (y : Int32) (y_t : Int) (h_y : y.toInt = y_t) (x : Int32) (x_t : Int) (h_x : x.toInt = x_t) : Met l yX11_owner wsX11_owner ({ frames := 2, cells := 0, slots := 0, locals := 128 }) (va_Pc [.ref a0, .int o, .int y, .int x] (h_P E X A z I0 L0)) (vp_Si (fun r => ((¬ (0 ≤ o_t ∧ o_t ≤ 7 ∧ 0 ≤ y_t ∧ y_t ≤ 9 ∧ 0 ≤ x_t ∧ x_t ≤ 1) ∧ r.toInt = -2) ∨ ((0 ≤ o_t ∧ o_t ≤ 7 ∧ 0 ≤ y_t ∧ y_t ≤ 9 ∧ 0 ≤ x_t ∧ x_t ≤ 1) ∧ ((x_t = 0 ∧ r = I0 (h_ad z (h_ad z a0 4) 0) (10 * o_t + y_t).toNat) ∨ (x_t = 1 ∧ r = I0 (h_ad z (h_ad z a0 4) 1) (10 * o_t + y_t).toNat)))))) 0 0 (fun _ => False) := by
  refine Met.ofW (cc := cX11_owner) (maxL := 5) (ret := (some .int)) (by decide) rfl ?_
  intro pr_ ev_ s m args below meth cd_ s₁ B hml hv
  obtain ⟨rfl, hE, hk, hX, hA, hK, hI, hR, hB0⟩ := hv
  have g : h_G h_so h_fk E A z I0 L0 s s.heap s.heap [] := ⟨hK, va_S.rf, hB0⟩
  have hx := B.exec
  have hb := B.bytes
  have hr := B.returns
  have hts := atoms_spec (ws := wsX11_owner) B.pre
  have hown : s.vm.findClass RX11 = some m.cls := findClass_of_methodNamed B.named
  have hlocks := B.notSynchronized
  have iX11 : ∀ w ∈ u_ws RX11 TX11 8, w ∈ wsX11_owner := by decide +kernel
  have iX10 : ∀ w ∈ u_ws RX10 TX10 4, w ∈ wsX11_owner := by decide +kernel
  have hl := lv_entry ([.ref a0, .int o, .int y, .int x]) (n := 5) (Nat.le_of_ble_eq_true rfl)
  rw [lg_entry_eq]
  generalize (lg_sl ([.ref a0, .int o, .int y, .int x]) ++ List.replicate (5 - (lg_sl ([.ref a0, .int o, .int y, .int x])).length) Slot.unset).toArray = ls at hl ⊢
  have hl : lv_has ls 5 [(0, .ref a0), (1, .int o), (2, .int y), (3, .int x)] := hl
  have b_o : -2147483648 ≤ o_t ∧ o_t ≤ 2147483647 := h_o ▸ ⟨xi_lo o, Int.le_of_lt_add_one (xi_hi o)⟩
  have b_y : -2147483648 ≤ y_t ∧ y_t ≤ 2147483647 := h_y ▸ ⟨xi_lo y, Int.le_of_lt_add_one (xi_hi y)⟩
  have b_x : -2147483648 ≤ x_t ∧ x_t ≤ 2147483647 := h_x ▸ ⟨xi_lo x, Int.le_of_lt_add_one (xi_hi x)⟩
  obtain ⟨tu, rtu, ttu⟩ := hR.at a0 4 t_a0 (rfl : h_rs 12 4 = some (11, false)) (by decide)
  have atu : h_ad z a0 4 = tu := h_ad.at rtu
  obtain ⟨hd, rhd, thd⟩ := hR.at tu 0 ttu (rfl : h_rs 11 0 = some (1100, false)) (by decide)
  have ahd : h_ad z tu 0 = hd := h_ad.at rhd
  obtain ⟨sh, rsh, tsh⟩ := hR.at tu 1 ttu (rfl : h_rs 11 1 = some (1101, false)) (by decide)
  have ash : h_ad z tu 1 = sh := h_ad.at rsh
  refine lv_iload_n hx hb dX11_owner_0 rfl (lv_at hl 1 rfl) ?_
  refine vp_callSi (W.runS (As := [.int o]) (rest := []) ⟨hx, hb, hml, hown, hts⟩ (tX11_isClub l E X A z I0 L0 o (o_t) h_o) (va_cwS 1 hts gX11_owner_X11_isClub rfl rfl rfl (by decide +kernel) ⟨Nat.le_of_ble_eq_true rfl, Nat.le_of_ble_eq_true rfl⟩) ⟨h_blind _ _ _ _ _ _ _, h_pre _ hE hk hX hA hI hR g⟩ rfl rfl hl.1 rfl (lv_room (Nat.le_of_ble_eq_true rfl)) dX11_owner_1 ⟨Nat.le_of_ble_eq_true rfl, Nat.le_of_ble_eq_true rfl⟩) (fun rh1 h1 => ?_)
  rcases h1 with ⟨rfl, h1⟩ | ⟨rfl, h1⟩
  · skip
    refine lv_if_eq (tgt := 23) hx hb dX11_owner_4 (by decide) (fun _ => ?_) (fun h => absurd (by decide) h)
    refine lv_bipush (v := (-2)) hx hb dX11_owner_23 (by decide) ?_
    exact W.iret (v := (-2)) hx hb hr (fun t ht hW => ⟨(-2), rfl, (by rw [atu, ahd, ash]; exact Or.inl ⟨by omega, by decide⟩), ht⟩) (fun _ h => by cases h) dX11_owner_25
  · skip
    refine lv_if_eq (tgt := 23) hx hb dX11_owner_4 (by decide) (fun h => absurd h (by decide)) (fun _ => ?_)
    refine lv_iload_n hx hb dX11_owner_7 rfl (lv_at hl 2 rfl) ?_
    refine vp_callSi (W.runS (As := [.int y]) (rest := []) ⟨hx, hb, hml, hown, hts⟩ (tX11_isYear l E X A z I0 L0 y (y_t) h_y) (va_cwS 1 hts gX11_owner_X11_isYear rfl rfl rfl (by decide +kernel) ⟨Nat.le_of_ble_eq_true rfl, Nat.le_of_ble_eq_true rfl⟩) ⟨h_blind _ _ _ _ _ _ _, h_pre _ hE hk hX hA hI hR g⟩ rfl rfl hl.1 rfl (lv_room (Nat.le_of_ble_eq_true rfl)) dX11_owner_8 ⟨Nat.le_of_ble_eq_true rfl, Nat.le_of_ble_eq_true rfl⟩) (fun rh4 h4 => ?_)
    rcases h4 with ⟨rfl, h4⟩ | ⟨rfl, h4⟩
    · skip
      refine lv_if_eq (tgt := 23) hx hb dX11_owner_11 (by decide) (fun _ => ?_) (fun h => absurd (by decide) h)
      refine lv_bipush (v := (-2)) hx hb dX11_owner_23 (by decide) ?_
      exact W.iret (v := (-2)) hx hb hr (fun t ht hW => ⟨(-2), rfl, (by rw [atu, ahd, ash]; exact Or.inl ⟨by omega, by decide⟩), ht⟩) (fun _ h => by cases h) dX11_owner_25
    · skip
      refine lv_if_eq (tgt := 23) hx hb dX11_owner_11 (by decide) (fun h => absurd h (by decide)) (fun _ => ?_)
      refine lv_iload_n hx hb dX11_owner_14 rfl (lv_at hl 3 rfl) ?_
      refine lv_if_lt (tgt := 23) hx hb dX11_owner_15 (by decide) (fun c7 => ?_) (fun c7 => ?_)
      · have ic7 := (xi_lt c7 h_x (by decide) : x_t < 0)
        refine lv_bipush (v := (-2)) hx hb dX11_owner_23 (by decide) ?_
        exact W.iret (v := (-2)) hx hb hr (fun t ht hW => ⟨(-2), rfl, (by rw [atu, ahd, ash]; exact Or.inl ⟨by omega, by decide⟩), ht⟩) (fun _ h => by cases h) dX11_owner_25
      · have ic7 := (xi_nlt c7 h_x (by decide) : 0 ≤ x_t)
        refine lv_iload_n hx hb dX11_owner_18 rfl (lv_at hl 3 rfl) ?_
        refine lv_iconst (v := 1) hx hb dX11_owner_19 (by decide) ?_
        refine lv_icmp_le (tgt := 26) hx hb dX11_owner_20 (by decide) (fun c8 => ?_) (fun c8 => ?_)
        · have ic8 := (xi_le c8 h_x (by decide) : x_t ≤ 1)
          refine lv_iload_n hx hb dX11_owner_26 rfl (lv_at hl 1 rfl) ?_
          refine lv_iload_n hx hb dX11_owner_27 rfl (lv_at hl 2 rfl) ?_
          refine vp_callSi (W.runS (As := [.int o, .int y]) (rest := []) ⟨hx, hb, hml, hown, hts⟩ (tX10_keyR l E X A z I0 L0 o (o_t) h_o (by omega) y (y_t) h_y (by omega)) (va_cwS 2 hts gX11_owner_X10_keyOf rfl rfl rfl (by decide +kernel) ⟨Nat.le_of_ble_eq_true rfl, Nat.le_of_ble_eq_true rfl⟩) ⟨h_blind _ _ _ _ _ _ _, h_pre _ hE hk hX hA hI hR g⟩ rfl rfl hl.1 rfl (lv_room (Nat.le_of_ble_eq_true rfl)) dX11_owner_28 ⟨Nat.le_of_ble_eq_true rfl, Nat.le_of_ble_eq_true rfl⟩) (fun rh9 h9 => ?_)
          obtain ⟨h9, h9p0⟩ := h9
          refine lv_istore (lv' := [(4, .int rh9), (0, .ref a0), (1, .int o), (2, .int y), (3, .int x)]) hx hb dX11_owner_31 hl (by decide) rfl (fun ls hl => ?_)
          refine lv_iload_n hx hb dX11_owner_33 rfl (lv_at hl 4 rfl) ?_
          refine lv_if_ne (tgt := 50) hx hb dX11_owner_34 (by decide) (fun c10 => ?_) (fun c10 => ?_)
          · have ic10 := (xi_ne c10 h_x (by decide) : x_t ≠ 0)
            refine lv_aload_n hx hb dX11_owner_50 rfl (lv_at hl 1 rfl) ?_
            refine h_get (v := .ref tu) hx hb hts iX11 hown g t_a0 (by decide) so_12 rfl 4 (by decide) (hts (.fieldLink RX11 44 "CapLeague" "turns" "LCapLeague$Turns;") (by decide +kernel)) rfl dX11_owner_51 (by show va_rf (z.R a0 4) = _; rw [rtu]; rfl) ?_
            refine h_get (v := .ref sh) hx hb hts iX10 hown g ttu (by decide) so_11 rfl 1 (by decide) (hts (.fieldLink RX11 216 "CapLeague$Turns" "shield" "[I") (by decide +kernel)) rfl dX11_owner_54 (by show va_rf (z.R tu 1) = _; rw [rsh]; rfl) ?_
            refine lv_iload hx hb dX11_owner_57 (lv_at hl 0 rfl) ?_
            refine h_ald hx hb g tsh (by decide) so_1101 (xi_in (by omega) (by omega)) dX11_owner_59 ?_
            refine lv_topi (fun v11 ev11 => ?_)
            have jv11 := hI.rd sh rh9.toNatClampNeg tsh ev11 (rfl : h_bd 1101 _ = ((-2147483648), 2147483647))
            exact W.iret (v := v11) hx hb hr (fun t ht hW => ⟨v11, rfl, (by rw [atu, ahd, ash]; exact Or.inr ⟨⟨by omega, by omega, by omega, by omega, by omega, by omega⟩, Or.inr ⟨by omega, by rw [← (h_keq (t := rh9.toInt) rfl (by omega) (by omega) : rh9.toNatClampNeg = (10 * o_t + y_t).toNat)]; exact ev11⟩⟩), ht⟩) (fun _ h => by cases h) dX11_owner_60
          · have ic10 := (xi_eq c10 h_x (by decide) : x_t = 0)
            refine lv_aload_n hx hb dX11_owner_37 rfl (lv_at hl 1 rfl) ?_
            refine h_get (v := .ref tu) hx hb hts iX11 hown g t_a0 (by decide) so_12 rfl 4 (by decide) (hts (.fieldLink RX11 44 "CapLeague" "turns" "LCapLeague$Turns;") (by decide +kernel)) rfl dX11_owner_38 (by show va_rf (z.R a0 4) = _; rw [rtu]; rfl) ?_
            refine h_get (v := .ref hd) hx hb hts iX10 hown g ttu (by decide) so_11 rfl 0 (by decide) (hts (.fieldLink RX11 206 "CapLeague$Turns" "holder" "[I") (by decide +kernel)) rfl dX11_owner_41 (by show va_rf (z.R tu 0) = _; rw [rhd]; rfl) ?_
            refine lv_iload hx hb dX11_owner_44 (lv_at hl 0 rfl) ?_
            refine h_ald hx hb g thd (by decide) so_1100 (xi_in (by omega) (by omega)) dX11_owner_46 ?_
            refine lv_topi (fun v12 ev12 => ?_)
            have jv12 := hI.rd hd rh9.toNatClampNeg thd ev12 (rfl : h_bd 1100 _ = ((-2147483648), 2147483647))
            refine lv_goto (tgt := 60) hx hb dX11_owner_47 (by decide) ?_
            exact W.iret (v := v12) hx hb hr (fun t ht hW => ⟨v12, rfl, (by rw [atu, ahd, ash]; exact Or.inr ⟨⟨by omega, by omega, by omega, by omega, by omega, by omega⟩, Or.inl ⟨by omega, by rw [← (h_keq (t := rh9.toInt) rfl (by omega) (by omega) : rh9.toNatClampNeg = (10 * o_t + y_t).toNat)]; exact ev12⟩⟩), ht⟩) (fun _ h => by cases h) dX11_owner_60
        · have ic8 := (xi_nle c8 h_x (by decide) : 1 < x_t)
          refine lv_bipush (v := (-2)) hx hb dX11_owner_23 (by decide) ?_
          exact W.iret (v := (-2)) hx hb hr (fun t ht hW => ⟨(-2), rfl, (by rw [atu, ahd, ash]; exact Or.inl ⟨by omega, by decide⟩), ht⟩) (fun _ h => by cases h) dX11_owner_25
set_option maxHeartbeats 4000000 in
set_option maxRecDepth 100000 in
theorem tX12_ownerB (l : Launch) (E : tE) (X : tX) (A : Nat → Prop) (z : tZ) (I0 : tI) (L0 : tL) (a0 : Nat) (t_a0 : z.ty a0 = 13) (o : Int32) (o_t : Int) (h_o : o.toInt = o_t) (y : Int32) (y_t : Int) (h_y : y.toInt = y_t) (x : Int32) (x_t : Int) (h_x : x.toInt = x_t) : Met l yX12_owner wsX12_owner ({ frames := 3, cells := 0, slots := 0, locals := 192 }) (va_Pc [.ref a0, .int o, .int y, .int x] (h_P E X A z I0 L0)) (vp_Si (fun r => ((¬ (0 ≤ o_t ∧ o_t ≤ 7 ∧ 0 ≤ y_t ∧ y_t ≤ 9 ∧ 0 ≤ x_t ∧ x_t ≤ 1) ∧ r.toInt = -2) ∨ ((0 ≤ o_t ∧ o_t ≤ 7 ∧ 0 ≤ y_t ∧ y_t ≤ 9 ∧ 0 ≤ x_t ∧ x_t ≤ 1) ∧ ((x_t = 0 ∧ r = I0 (h_ad z a0 25) (10 * o_t + y_t).toNat) ∨ (x_t = 1 ∧ r = I0 (h_ad z a0 27) (10 * o_t + y_t).toNat)))))) 0 0 (fun _ => False) := by
  refine Met.ofW (cc := cX12_owner) (maxL := 4) (ret := (some .int)) (by decide) rfl ?_
  intro pr_ ev_ s m args below meth cd_ s₁ B hml hv
  obtain ⟨rfl, hE, hk, hX, hA, hK, hI, hR, hB0⟩ := hv
  have g : h_G h_so h_fk E A z I0 L0 s s.heap s.heap [] := ⟨hK, va_S.rf, hB0⟩
  have hx := B.exec
  have hb := B.bytes
  have hr := B.returns
  have hts := atoms_spec (ws := wsX12_owner) B.pre
  have hown : s.vm.findClass RX12 = some m.cls := findClass_of_methodNamed B.named
  have hlocks := B.notSynchronized
  have iX12 : ∀ w ∈ u_ws RX12 TX12 51, w ∈ wsX12_owner := by decide +kernel
  have hl := lv_entry ([.ref a0, .int o, .int y, .int x]) (n := 4) (Nat.le_of_ble_eq_true rfl)
  rw [lg_entry_eq]
  generalize (lg_sl ([.ref a0, .int o, .int y, .int x]) ++ List.replicate (4 - (lg_sl ([.ref a0, .int o, .int y, .int x])).length) Slot.unset).toArray = ls at hl ⊢
  have hl : lv_has ls 4 [(0, .ref a0), (1, .int o), (2, .int y), (3, .int x)] := hl
  have b_o : -2147483648 ≤ o_t ∧ o_t ≤ 2147483647 := h_o ▸ ⟨xi_lo o, Int.le_of_lt_add_one (xi_hi o)⟩
  have b_y : -2147483648 ≤ y_t ∧ y_t ≤ 2147483647 := h_y ▸ ⟨xi_lo y, Int.le_of_lt_add_one (xi_hi y)⟩
  have b_x : -2147483648 ≤ x_t ∧ x_t ≤ 2147483647 := h_x ▸ ⟨xi_lo x, Int.le_of_lt_add_one (xi_hi x)⟩
  obtain ⟨ow, row, tow⟩ := hR.at a0 25 t_a0 (rfl : h_rs 13 25 = some (1325, false)) (by decide)
  have aow : h_ad z a0 25 = ow := h_ad.at row
  obtain ⟨gu, rgu, tgu⟩ := hR.at a0 27 t_a0 (rfl : h_rs 13 27 = some (1327, false)) (by decide)
  have agu : h_ad z a0 27 = gu := h_ad.at rgu
  refine lv_iload_n hx hb dX12_owner_0 rfl (lv_at hl 1 rfl) ?_
  refine vp_callSi (W.runS (As := [.int o]) (rest := []) ⟨hx, hb, hml, hown, hts⟩ (tX12_isClub l E X A z I0 L0 o (o_t) h_o) (va_cwS 1 hts gX12_owner_X12_isClub rfl rfl rfl (by decide +kernel) ⟨Nat.le_of_ble_eq_true rfl, Nat.le_of_ble_eq_true rfl⟩) ⟨h_blind _ _ _ _ _ _ _, h_pre _ hE hk hX hA hI hR g⟩ rfl rfl hl.1 rfl (lv_room (Nat.le_of_ble_eq_true rfl)) dX12_owner_1 ⟨Nat.le_of_ble_eq_true rfl, Nat.le_of_ble_eq_true rfl⟩) (fun rh1 h1 => ?_)
  rcases h1 with ⟨rfl, h1⟩ | ⟨rfl, h1⟩
  · skip
    refine lv_if_eq (tgt := 19) hx hb dX12_owner_4 (by decide) (fun _ => ?_) (fun h => absurd (by decide) h)
    refine lv_bipush (v := (-2)) hx hb dX12_owner_19 (by decide) ?_
    exact W.iret (v := (-2)) hx hb hr (fun t ht hW => ⟨(-2), rfl, (by rw [aow, agu]; exact Or.inl ⟨by omega, by decide⟩), ht⟩) (fun _ h => by cases h) dX12_owner_21
  · skip
    refine lv_if_eq (tgt := 19) hx hb dX12_owner_4 (by decide) (fun h => absurd h (by decide)) (fun _ => ?_)
    refine lv_iload_n hx hb dX12_owner_7 rfl (lv_at hl 2 rfl) ?_
    refine lv_i2l hx hb dX12_owner_8 rfl ?_
    refine lv_topl (fun v4 ev4 => ?_)
    have jv4 : v4.toInt = y_t := by rw [ev4, xi_64]; exact h_y
    refine lv_lconst (v := 0) hx hb dX12_owner_9 (by decide) ?_
    refine lv_ldc2 (v := 9) hx hb hown (hts (.constantLong RX12 190 (9)) (by decide +kernel)) dX12_owner_10 ?_
    refine vp_callSi (W.runS (As := [.long v4, .long 0, .long 9]) (rest := []) ⟨hx, hb, hml, hown, hts⟩ (tX12_in l E X A z I0 L0 v4 (y_t) jv4 0 (0) (by decide) 9 (9) (by decide)) (va_cwS 3 hts gX12_owner_X12_in rfl rfl rfl (by decide +kernel) ⟨Nat.le_of_ble_eq_true rfl, Nat.le_of_ble_eq_true rfl⟩) ⟨h_blind _ _ _ _ _ _ _, h_pre _ hE hk hX hA hI hR g⟩ rfl rfl hl.1 rfl (lv_room (Nat.le_of_ble_eq_true rfl)) dX12_owner_13 ⟨Nat.le_of_ble_eq_true rfl, Nat.le_of_ble_eq_true rfl⟩) (fun rh5 h5 => ?_)
    rcases h5 with ⟨rfl, h5⟩ | ⟨rfl, h5⟩
    · skip
      refine lv_if_ne (tgt := 22) hx hb dX12_owner_16 (by decide) (fun h => absurd (by decide) h) (fun _ => ?_)
      refine lv_bipush (v := (-2)) hx hb dX12_owner_19 (by decide) ?_
      exact W.iret (v := (-2)) hx hb hr (fun t ht hW => ⟨(-2), rfl, (by rw [aow, agu]; exact Or.inl ⟨by omega, by decide⟩), ht⟩) (fun _ h => by cases h) dX12_owner_21
    · skip
      refine lv_if_ne (tgt := 22) hx hb dX12_owner_16 (by decide) (fun _ => ?_) (fun h => absurd h (by decide))
      refine lv_iload_n hx hb dX12_owner_22 rfl (lv_at hl 3 rfl) ?_
      refine lv_if_ne (tgt := 40) hx hb dX12_owner_23 (by decide) (fun c8 => ?_) (fun c8 => ?_)
      · have ic8 := (xi_ne c8 h_x (by decide) : x_t ≠ 0)
        refine lv_iload_n hx hb dX12_owner_40 rfl (lv_at hl 3 rfl) ?_
        refine lv_iconst (v := 1) hx hb dX12_owner_41 (by decide) ?_
        refine lv_icmp_ne (tgt := 59) hx hb dX12_owner_42 (by decide) (fun c9 => ?_) (fun c9 => ?_)
        · have ic9 := (xi_ne c9 h_x (by decide) : x_t ≠ 1)
          refine lv_bipush (v := (-2)) hx hb dX12_owner_59 (by decide) ?_
          exact W.iret (v := (-2)) hx hb hr (fun t ht hW => ⟨(-2), rfl, (by rw [aow, agu]; exact Or.inl ⟨by omega, by decide⟩), ht⟩) (fun _ h => by cases h) dX12_owner_61
        · have ic9 := (xi_eq c9 h_x (by decide) : x_t = 1)
          refine lv_aload_n hx hb dX12_owner_45 rfl (lv_at hl 0 rfl) ?_
          refine h_get (v := .ref gu) hx hb hts iX12 hown g t_a0 (by decide) so_13 rfl 27 (by decide) (hts (.fieldLink RX12 64 "CapLeagueModel" "guarded" "[I") (by decide +kernel)) rfl dX12_owner_46 (by show va_rf (z.R a0 27) = _; rw [rgu]; rfl) ?_
          refine lv_bipush (v := 10) hx hb dX12_owner_49 (by decide) ?_
          refine lv_iload_n hx hb dX12_owner_51 rfl (lv_at hl 1 rfl) ?_
          refine lv_imul hx hb dX12_owner_52 ?_
          refine lv_topi (fun v10 ev10 => ?_)
          have jv10 : v10.toInt = 10 * o_t := xi_mul ev10 (by decide) h_o (by omega) (by omega)
          refine lv_iload_n hx hb dX12_owner_53 rfl (lv_at hl 2 rfl) ?_
          refine lv_iadd hx hb dX12_owner_54 ?_
          refine lv_topi (fun v11 ev11 => ?_)
          have jv11 : v11.toInt = v10.toInt + y_t := xi_add ev11 rfl h_y (by omega) (by omega)
          refine h_ald hx hb g tgu (by decide) so_1327 (xi_in (by omega) (by omega)) dX12_owner_55 ?_
          refine lv_topi (fun v12 ev12 => ?_)
          have jv12 := hI.rd gu v11.toNatClampNeg tgu ev12 (rfl : h_bd 1327 _ = ((-2147483648), 2147483647))
          refine lv_goto (tgt := 61) hx hb dX12_owner_56 (by decide) ?_
          exact W.iret (v := v12) hx hb hr (fun t ht hW => ⟨v12, rfl, (by rw [aow, agu]; exact Or.inr ⟨⟨by omega, by omega, by omega, by omega, by omega, by omega⟩, Or.inr ⟨by omega, by rw [← (h_keq (t := v11.toInt) rfl (by omega) (by omega) : v11.toNatClampNeg = (10 * o_t + y_t).toNat)]; exact ev12⟩⟩), ht⟩) (fun _ h => by cases h) dX12_owner_61
      · have ic8 := (xi_eq c8 h_x (by decide) : x_t = 0)
        refine lv_aload_n hx hb dX12_owner_26 rfl (lv_at hl 0 rfl) ?_
        refine h_get (v := .ref ow) hx hb hts iX12 hown g t_a0 (by decide) so_13 rfl 25 (by decide) (hts (.fieldLink RX12 58 "CapLeagueModel" "owner" "[I") (by decide +kernel)) rfl dX12_owner_27 (by show va_rf (z.R a0 25) = _; rw [row]; rfl) ?_
        refine lv_bipush (v := 10) hx hb dX12_owner_30 (by decide) ?_
        refine lv_iload_n hx hb dX12_owner_32 rfl (lv_at hl 1 rfl) ?_
        refine lv_imul hx hb dX12_owner_33 ?_
        refine lv_topi (fun v13 ev13 => ?_)
        have jv13 : v13.toInt = 10 * o_t := xi_mul ev13 (by decide) h_o (by omega) (by omega)
        refine lv_iload_n hx hb dX12_owner_34 rfl (lv_at hl 2 rfl) ?_
        refine lv_iadd hx hb dX12_owner_35 ?_
        refine lv_topi (fun v14 ev14 => ?_)
        have jv14 : v14.toInt = v13.toInt + y_t := xi_add ev14 rfl h_y (by omega) (by omega)
        refine h_ald hx hb g tow (by decide) so_1325 (xi_in (by omega) (by omega)) dX12_owner_36 ?_
        refine lv_topi (fun v15 ev15 => ?_)
        have jv15 := hI.rd ow v14.toNatClampNeg tow ev15 (rfl : h_bd 1325 _ = ((-2147483648), 2147483647))
        refine lv_goto (tgt := 61) hx hb dX12_owner_37 (by decide) ?_
        exact W.iret (v := v15) hx hb hr (fun t ht hW => ⟨v15, rfl, (by rw [aow, agu]; exact Or.inr ⟨⟨by omega, by omega, by omega, by omega, by omega, by omega⟩, Or.inl ⟨by omega, by rw [← (h_keq (t := v14.toInt) rfl (by omega) (by omega) : v14.toNatClampNeg = (10 * o_t + y_t).toNat)]; exact ev15⟩⟩), ht⟩) (fun _ h => by cases h) dX12_owner_61

