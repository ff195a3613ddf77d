set_option maxHeartbeats 4000000 in
set_option maxRecDepth 100000 in
theorem tX2_isDrawn (l : Launch) (E : tE) (X : tX) (A : Nat → Prop) (z : tZ) (I0 : tI) (L0 : tL) (a0 : Nat) (t_a0 : z.ty a0 = 3) (y : Int32) (y_t : Int) (h_y : y.toInt = y_t) : Met l yX2_isDrawn wsX2_isDrawn ({ frames := 2, cells := 0, slots := 0, locals := 128 }) (va_Pc [.ref a0, .int y] (h_P E X A z I0 L0)) (vp_Si (fun r => (0 ≤ r.toInt ∧ r.toInt ≤ 1))) 0 0 (fun _ => False) := by
  refine Met.ofW (cc := cX2_isDrawn) (maxL := 2) (ret := (some .boolean)) (by decide) rfl ?_
  intro pr_ ev_ s m args below meth cd_ s₁ B hml hv
  obtain ⟨rfl, hE, hk, hX, hA, hK, hI, hR, hB0⟩ := hv
  have g : h_G h_so h_fk E A z I0 L0 s s.heap s.heap [] := ⟨hK, va_S.rf, hB0⟩
  have hx := B.exec
  have hb := B.bytes
  have hr := B.returns
  have hts := atoms_spec (ws := wsX2_isDrawn) B.pre
  have hown : s.vm.findClass RX2 = some m.cls := findClass_of_methodNamed B.named
  have hlocks := B.notSynchronized
  have iX2 : ∀ w ∈ u_ws RX2 TX2 7, w ∈ wsX2_isDrawn := by decide +kernel
  have hl := lv_entry ([.ref a0, .int y]) (n := 2) (Nat.le_of_ble_eq_true rfl)
  rw [lg_entry_eq]
  generalize (lg_sl ([.ref a0, .int y]) ++ List.replicate (2 - (lg_sl ([.ref a0, .int y])).length) Slot.unset).toArray = ls at hl ⊢
  have hl : lv_has ls 2 [(0, .ref a0), (1, .int y)] := hl
  have b_y : -2147483648 ≤ y_t ∧ y_t ≤ 2147483647 := h_y ▸ ⟨xi_lo y, Int.le_of_lt_add_one (xi_hi y)⟩
  refine lv_iload_n hx hb dX2_isDrawn_0 rfl (lv_at hl 1 rfl) ?_
  refine vp_callSi (xr_of (va_runSN (As := [.int y]) (rest := []) ⟨hx, hb, hml, hown, hts⟩ (tX11_isYear l E X A z I0 L0 y (y_t) h_y) (⟨va_cnB 1 hts gX2_isDrawn_X11_isYear_n31 rfl rfl rfl (hE.link 10 rfl) (hts (.initialized RX11) (by decide +kernel)) (by decide +kernel) ⟨Nat.le_of_ble_eq_true rfl, Nat.le_of_ble_eq_true rfl⟩, hts (.static yX11_isYear) (by decide +kernel), trivial⟩) ⟨h_blind _ _ _ _ _ _ _, h_pre _ hE hk hX hA hI hR g⟩ rfl rfl hl.1 rfl (lv_room (Nat.le_of_ble_eq_true rfl)) dX2_isDrawn_1 ⟨Nat.le_of_ble_eq_true rfl, Nat.le_of_ble_eq_true rfl⟩)) (fun rh1 h1 => ?_)
  rcases h1 with ⟨rfl, h1⟩ | ⟨rfl, h1⟩
  · skip
    refine lv_if_eq (tgt := 20) hx hb dX2_isDrawn_4 (by decide) (fun _ => ?_) (fun h => absurd (by decide) h)
    refine lv_iconst (v := 0) hx hb dX2_isDrawn_20 (by decide) ?_
    exact W.zret (v := 0) hx hb hr (by decide) (fun t ht hW => ⟨0, rfl, ⟨(by decide), (by decide)⟩, ht⟩) (fun _ h => by cases h) dX2_isDrawn_21
  · skip
    refine lv_if_eq (tgt := 20) hx hb dX2_isDrawn_4 (by decide) (fun h => absurd h (by decide)) (fun _ => ?_)
    refine lv_aload_n hx hb dX2_isDrawn_7 rfl (lv_at hl 0 rfl) ?_
    obtain ⟨b4, rb4, tb4⟩ := hR.at a0 2 t_a0 (rfl : h_rs 3 2 = some (302, false)) (by decide)
    refine h_get (v := .ref b4) hx hb hts iX2 hown g t_a0 (by decide) so_3 rfl 2 (by decide) (hts (.fieldLink RX2 15 "CapLeague$Draft" "drawn" "[Z") (by decide +kernel)) rfl dX2_isDrawn_8 (by show va_rf (z.R a0 2) = _; rw [rb4]; rfl) ?_
    refine lv_iload_n hx hb dX2_isDrawn_11 rfl (lv_at hl 1 rfl) ?_
    refine h_zald hx hb g tb4 (by decide) so_302 (xi_in (by rw [h_y]; omega) (by rw [h_y]; omega)) dX2_isDrawn_12 ?_
    refine lv_topi (fun v5 ev5 => ?_)
    have jv5 := hI.rd b4 y.toNatClampNeg tb4 ev5 (rfl : h_bd 302 _ = (0, 1))
    refine lv_if_eq (tgt := 20) hx hb dX2_isDrawn_13 (by decide) (fun c6 => ?_) (fun c6 => ?_)
    · have ic6 := (xi_eq c6 rfl (by decide) : v5.toInt = 0)
      refine lv_iconst (v := 0) hx hb dX2_isDrawn_20 (by decide) ?_
      exact W.zret (v := 0) hx hb hr (by decide) (fun t ht hW => ⟨0, rfl, ⟨(by decide), (by decide)⟩, ht⟩) (fun _ h => by cases h) dX2_isDrawn_21
    · have ic6 := (xi_ne c6 rfl (by decide) : v5.toInt ≠ 0)
      refine lv_iconst (v := 1) hx hb dX2_isDrawn_16 (by decide) ?_
      refine lv_goto (tgt := 21) hx hb dX2_isDrawn_17 (by decide) ?_
      exact W.zret (v := 1) hx hb hr (by decide) (fun t ht hW => ⟨1, rfl, ⟨(by decide), (by decide)⟩, ht⟩) (fun _ h => by cases h) dX2_isDrawn_21
