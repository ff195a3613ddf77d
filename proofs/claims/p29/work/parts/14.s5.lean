set_option maxHeartbeats 4000000 in
set_option maxRecDepth 100000 in
theorem tX2_isDrawn (l : Launch) (E : tE) (X : tX) (A : Nat → Prop) (z : tZ) (I0 : tI) (L0 : tL) (a0 : Nat) (t_a0 : z.ty a0 = 3) (y : Int32) (y_t : Int) (h_y : y.toInt = y_t) : Met l yX2_isDrawn wsX2_isDrawn ({ frames := 2, cells := 0, slots := 0, locals := 128 }) (va_Pc [.ref a0, .int y] (h_P E X A z I0 L0)) (vp_Si (fun r => (0 ≤ r.toInt ∧ r.toInt ≤ 1))) 0 0 (fun _ => False) := by
  refine Met.ofW (cc := cX2_isDrawn) (maxL := 2) (ret := (some .boolean)) (by decide) rfl ?_
  intro pr_ ev_ s m args below meth cd_ s₁ B hml hv
  obtain ⟨rfl, hE, hk, hX, hA, hK, hI, hR, hB0⟩ := hv
  have g : h_G h_so h_fk E A z I0 L0 s s.heap s.heap [] := ⟨hK, va_S.rf, hB0⟩
  have hx := B.exec
  have hb := B.bytes
  have hr := B.returns
  have hts := atoms_spec (ws := wsX2_isDrawn) B.pre
  have hown : s.vm.findClass RX2 = some m.cls := findClass_of_methodNamed B.named
  have hlocks := B.notSynchronized
  have iX2 : ∀ w ∈ u_ws RX2 TX2 7, w ∈ wsX2_isDrawn := by decide +kernel
  have hl := lv_entry ([.ref a0, .int y]) (n := 2) (Nat.le_of_ble_eq_true rfl)
  rw [lg_entry_eq]
  generalize (lg_sl ([.ref a0, .int y]) ++ List.replicate (2 - (lg_sl ([.ref a0, .int y])).length) Slot.unset).toArray = ls at hl ⊢
  have hl : lv_has ls 2 [(0, .ref a0), (1, .int y)] := hl
  have b_y : -2147483648 ≤ y_t ∧ y_t ≤ 2147483647 := h_y ▸ ⟨xi_lo y, Int.le_of_lt_add_one (xi_hi y)⟩
  refine lv_iload_n hx hb dX2_isDrawn_0 rfl (lv_at hl 1 rfl) ?_
  refine vp_callSi (xr_of (va_runSN (As := [.int y]) (rest := []) ⟨hx, hb, hml, hown, hts⟩ (tX11_isYear l E X A z I0 L0 y (y_t) h_y) (⟨va_cnB 1 hts gX2_isDrawn_X11_isYear_n31 rfl rfl rfl (hE.link 10 rfl) (hts (.initialized RX11) (by decide +kernel)) (by decide +kernel) ⟨Nat.le_of_ble_eq_true rfl, Nat.le_of_ble_eq_true rfl⟩, hts (.static yX11_isYear) (by decide +kernel), trivial⟩) ⟨h_blind _ _ _ _ _ _ _, h_pre _ hE hk hX hA hI hR g⟩ rfl rfl hl.1 rfl (lv_room (Nat.le_of_ble_eq_true rfl)) dX2_isDrawn_1 ⟨Nat.le_of_ble_eq_true rfl, Nat.le_of_ble_eq_true rfl⟩)) (fun rh1 h1 => ?_)
  rcases h1 with ⟨rfl, h1⟩ | ⟨rfl, h1⟩
  · skip
    refine lv_if_eq (tgt := 20) hx hb dX2_isDrawn_4 (by decide) (fun _ => ?_) (fun h => absurd (by decide) h)
    refine lv_iconst (v := 0) hx hb dX2_isDrawn_20 (by decide) ?_
    exact W.zret (v := 0) hx hb hr (by decide) (fun t ht hW => ⟨0, rfl, ⟨(by decide), (by decide)⟩, ht⟩) (fun _ h => by cases h) dX2_isDrawn_21
  · skip
    refine lv_if_eq (tgt := 20) hx hb dX2_isDrawn_4 (by decide) (fun h => absurd h (by decide)) (fun _ => ?_)
    refine lv_aload_n hx hb dX2_isDrawn_7 rfl (lv_at hl 0 rfl) ?_
    obtain ⟨b4, rb4, tb4⟩ := hR.at a0 2 t_a0 (rfl : h_rs 3 2 = some (302, false)) (by decide)
    refine h_get (v := .ref b4) hx hb hts iX2 hown g t_a0 (by decide) so_3 rfl 2 (by decide) (hts (.fieldLink RX2 15 "CapLeague$Draft" "drawn" "[Z") (by decide +kernel)) rfl dX2_isDrawn_8 (by show va_rf (z.R a0 2) = _; rw [rb4]; rfl) ?_
    refine lv_iload_n hx hb dX2_isDrawn_11 rfl (lv_at hl 1 rfl) ?_
    refine h_zald hx hb g tb4 (by decide) so_302 (xi_in (by rw [h_y]; omega) (by rw [h_y]; omega)) dX2_isDrawn_12 ?_
    refine lv_topi (fun v5 ev5 => ?_)
    have jv5 := hI.rd b4 y.toNatClampNeg tb4 ev5 (rfl : h_bd 302 _ = (0, 1))
    refine lv_if_eq (tgt := 20) hx hb dX2_isDrawn_13 (by decide) (fun c6 => ?_) (fun c6 => ?_)
    · have ic6 := (xi_eq c6 rfl (by decide) : v5.toInt = 0)
      refine lv_iconst (v := 0) hx hb dX2_isDrawn_20 (by decide) ?_
      exact W.zret (v := 0) hx hb hr (by decide) (fun t ht hW => ⟨0, rfl, ⟨(by decide), (by decide)⟩, ht⟩) (fun _ h => by cases h) dX2_isDrawn_21
    · have ic6 := (xi_ne c6 rfl (by decide) : v5.toInt ≠ 0)
      refine lv_iconst (v := 1) hx hb dX2_isDrawn_16 (by decide) ?_
      refine lv_goto (tgt := 21) hx hb dX2_isDrawn_17 (by decide) ?_
      exact W.zret (v := 1) hx hb hr (by decide) (fun t ht hW => ⟨1, rfl, ⟨(by decide), (by decide)⟩, ht⟩) (fun _ h => by cases h) dX2_isDrawn_21
set_option maxHeartbeats 4000000 in
set_option maxRecDepth 100000 in
theorem tX2_rankOf (l : Launch) (E : tE) (X : tX) (A : Nat → Prop) (z : tZ) (I0 : tI) (L0 : tL) (a0 : Nat) (t_a0 : z.ty a0 = 3) (c : Int32) (c_t : Int) (h_c : c.toInt = c_t) : Met l yX2_rankOf wsX2_rankOf ({ frames := 1, cells := 0, slots := 0, locals := 64 }) (va_Pc [.ref a0, .int c] (h_P E X A z I0 L0)) (vp_Si (fun r => ((-1) ≤ r.toInt ∧ r.toInt ≤ 7))) 0 0 (fun _ => False) := by
  refine Met.ofW (cc := cX2_rankOf) (maxL := 3) (ret := (some .int)) (by decide) rfl ?_
  intro pr_ ev_ s m args below meth cd_ s₁ B hml hv
  obtain ⟨rfl, hE, hk, hX, hA, hK, hI, hR, hB0⟩ := hv
  have g : h_G h_so h_fk E A z I0 L0 s s.heap s.heap [] := ⟨hK, va_S.rf, hB0⟩
  have hx := B.exec
  have hb := B.bytes
  have hr := B.returns
  have hts := atoms_spec (ws := wsX2_rankOf) B.pre
  have hown : s.vm.findClass RX2 = some m.cls := findClass_of_methodNamed B.named
  have hlocks := B.notSynchronized
  have iX2 : ∀ w ∈ u_ws RX2 TX2 7, w ∈ wsX2_rankOf := by decide +kernel
  have hl := lv_entry ([.ref a0, .int c]) (n := 3) (Nat.le_of_ble_eq_true rfl)
  rw [lg_entry_eq]
  generalize (lg_sl ([.ref a0, .int c]) ++ List.replicate (3 - (lg_sl ([.ref a0, .int c])).length) Slot.unset).toArray = ls at hl ⊢
  have hl : lv_has ls 3 [(0, .ref a0), (1, .int c)] := hl
  have b_c : -2147483648 ≤ c_t ∧ c_t ≤ 2147483647 := h_c ▸ ⟨xi_lo c, Int.le_of_lt_add_one (xi_hi c)⟩
  refine lv_iconst (v := 0) hx hb dX2_rankOf_0 (by decide) ?_
  refine lv_istore_n (lv' := [(2, .int 0), (0, .ref a0), (1, .int c)]) hx hb dX2_rankOf_1 rfl hl (by decide) rfl (fun ls hl => ?_)
  have loop2_0 : ∀ (n : Nat) (ls : Array Slot) (v1 : Int32), lv_has ls 3 [(0, .ref a0), (1, .int c), (2, .int v1)] → (0 ≤ v1.toInt ∧ v1.toInt ≤ 8) → (8 - v1.toInt) < (n : Int) → W pr_ l ev_ (headSpec wsX2_rankOf ({ frames := 1, cells := 0, slots := 0, locals := 64 })).room s m ([.ref a0, .int c] : List Value).toArray below meth cd_ s.heap [] 0 0 (MQ below (vp_Si (fun r => ((-1) ≤ r.toInt ∧ r.toInt ≤ 7))) ([.ref a0, .int c] : List Value).toArray s 0 0 (fun _ => False)) (F0 m 2 ls []) := by
    intro n
    induction n with
    | zero => intro ls v1 hl jv1 hn; exact absurd hn (by omega)
    | succ n ih2 =>
      intro ls v1 hl jv1 hn
      refine lv_iload_n hx hb dX2_rankOf_2 rfl (lv_at hl 2 rfl) ?_
      refine lv_bipush (v := 8) hx hb dX2_rankOf_3 (by decide) ?_
      refine lv_icmp_ge (tgt := 26) hx hb dX2_rankOf_5 (by decide) (fun c2 => ?_) (fun c2 => ?_)
      · have ic2 := (xi_le c2 (by decide) rfl : 8 ≤ v1.toInt)
        refine lv_iconst (v := (-1)) hx hb dX2_rankOf_26 (by decide) ?_
        exact W.iret (v := (-1)) hx hb hr (fun t ht hW => ⟨(-1), rfl, ⟨(by decide), (by decide)⟩, ht⟩) (fun _ h => by cases h) dX2_rankOf_27
      · have ic2 := (xi_nle c2 (by decide) rfl : v1.toInt < 8)
        refine lv_aload_n hx hb dX2_rankOf_8 rfl (lv_at hl 0 rfl) ?_
        obtain ⟨b3, rb3, tb3⟩ := hR.at a0 0 t_a0 (rfl : h_rs 3 0 = some (300, false)) (by decide)
        refine h_get (v := .ref b3) hx hb hts iX2 hown g t_a0 (by decide) so_3 rfl 0 (by decide) (hts (.fieldLink RX2 9 "CapLeague$Draft" "ranks" "[I") (by decide +kernel)) rfl dX2_rankOf_9 (by show va_rf (z.R a0 0) = _; rw [rb3]; rfl) ?_
        refine lv_iload_n hx hb dX2_rankOf_12 rfl (lv_at hl 2 rfl) ?_
        refine h_ald hx hb g tb3 (by decide) so_300 (xi_in (by omega) (by omega)) dX2_rankOf_13 ?_
        refine lv_topi (fun v4 ev4 => ?_)
        have jv4 := hI.rd b3 v1.toNatClampNeg tb3 ev4 (rfl : h_bd 300 _ = ((-2147483648), 2147483647))
        refine lv_iload_n hx hb dX2_rankOf_14 rfl (lv_at hl 1 rfl) ?_
        refine lv_icmp_ne (tgt := 20) hx hb dX2_rankOf_15 (by decide) (fun c5 => ?_) (fun c5 => ?_)
        · have ic5 := (xi_ne c5 rfl h_c : v4.toInt ≠ c_t)
          obtain ⟨v6, ev6⟩ : ∃ z : Int32, z = v1 + 1 := ⟨_, rfl⟩
          have jv6 : v6.toInt = v1.toInt + 1 := xi_add ev6 rfl (by decide) (by omega) (by omega)
          refine lv_iinc (v := v6) (lv' := [(2, .int v6), (0, .ref a0), (1, .int c)]) hx hb dX2_rankOf_20 hl (k := 2) rfl (by rw [ev6]; rfl) (by decide) rfl (fun ls hl => ?_)
          refine lv_goto (tgt := 2) hx hb dX2_rankOf_23 (by decide) ?_
          exact ih2 _ v6 (lv_sub hl [1, 2, 0] rfl) (by omega) (by omega)
        · have ic5 := (xi_eq c5 rfl h_c : v4.toInt = c_t)
          refine lv_iload_n hx hb dX2_rankOf_18 rfl (lv_at hl 2 rfl) ?_
          exact W.iret (v := v1) hx hb hr (fun t ht hW => ⟨v1, rfl, ⟨(by omega), (by omega)⟩, ht⟩) (fun _ h => by cases h) dX2_rankOf_19
  exact loop2_0 _ _ (0) (lv_sub hl [1, 2, 0] rfl) ⟨by decide, by decide⟩ (show (8 - (0 : Int)) < (((8 - (0 : Int)).toNat + 1 : Nat) : Int) by omega)
set_option maxHeartbeats 4000000 in
set_option maxRecDepth 100000 in
theorem tX2_leftWithout (l : Launch) (E : tE) (X : tX) (A : Nat → Prop) (z : tZ) (I0 : tI) (L0 : tL) (x : Int32) (x_t : Int) (h_x : x.toInt = x_t) (y : Int32) (y_t : Int) (h_y : y.toInt = y_t) (n0 : Nat) (t_n0 : z.ty n0 = 6) : Met l yX2_leftWithout wsX2_leftWithout ({ frames := 2, cells := 0, slots := 0, locals := 128 }) (va_Pc [.int x, .int y, .ref n0] (h_P E X A z I0 L0)) (vp_Sl (fun r => True)) 0 0 (fun _ => False) := by
  refine Met.ofW (cc := cX2_leftWithout) (maxL := 7) (ret := (some .long)) (by decide) rfl ?_
  intro pr_ ev_ s m args below meth cd_ s₁ B hml hv
  obtain ⟨rfl, hE, hk, hX, hA, hK, hI, hR, hB0⟩ := hv
  have g : h_G h_so h_fk E A z I0 L0 s s.heap s.heap [] := ⟨hK, va_S.rf, hB0⟩
  have hx := B.exec
  have hb := B.bytes
  have hr := B.returns
  have hts := atoms_spec (ws := wsX2_leftWithout) B.pre
  have hown : s.vm.findClass RX2 = some m.cls := findClass_of_methodNamed B.named
  have hlocks := B.notSynchronized
  have hl := lv_entry ([.int x, .int y, .ref n0]) (n := 7) (Nat.le_of_ble_eq_true rfl)
  rw [lg_entry_eq]
  generalize (lg_sl ([.int x, .int y, .ref n0]) ++ List.replicate (7 - (lg_sl ([.int x, .int y, .ref n0])).length) Slot.unset).toArray = ls at hl ⊢
  have hl : lv_has ls 7 [(0, .int x), (1, .int y), (2, .ref n0)] := hl
  have b_x : -2147483648 ≤ x_t ∧ x_t ≤ 2147483647 := h_x ▸ ⟨xi_lo x, Int.le_of_lt_add_one (xi_hi x)⟩
  have b_y : -2147483648 ≤ y_t ∧ y_t ≤ 2147483647 := h_y ▸ ⟨xi_lo y, Int.le_of_lt_add_one (xi_hi y)⟩
  refine lv_aload_n hx hb dX2_leftWithout_0 rfl (lv_at hl 2 rfl) ?_
  refine vp_callSi (W.runV (As := []) (rest := []) ⟨hx, hb, hml, hown, hts⟩ (tX5_weightSum l E X A z I0 L0 n0 t_n0) (cwV 0 hts gX2_leftWithout_X5_weightSum rfl rfl rfl (by decide +kernel) ⟨Nat.le_of_ble_eq_true rfl, Nat.le_of_ble_eq_true rfl⟩) ⟨h_blind _ _ _ _ _ _ _, h_recv g t_n0 (by decide) so_6 (q := (RX5, TX5, 3)) rfl, h_pre _ hE hk hX hA hI hR g⟩ rfl rfl hl.1 rfl (lv_room (Nat.le_of_ble_eq_true rfl)) dX2_leftWithout_1 ⟨Nat.le_of_ble_eq_true rfl, Nat.le_of_ble_eq_true rfl⟩) (fun rh1 h1 => ?_)
  have jrh1 : -2147483648 ≤ rh1.toInt ∧ rh1.toInt ≤ 2147483647 := ⟨xi_lo _, Int.le_of_lt_add_one (xi_hi _)⟩
  refine lv_istore_n (lv' := [(3, .int rh1), (0, .int x), (1, .int y), (2, .ref n0)]) hx hb dX2_leftWithout_4 rfl hl (by decide) rfl (fun ls hl => ?_)
  refine lv_lconst (v := 1) hx hb dX2_leftWithout_5 (by decide) ?_
  refine lv_lstore (lv' := [(4, .long 1), (3, .int rh1), (0, .int x), (1, .int y), (2, .ref n0)]) hx hb dX2_leftWithout_6 hl (by decide) rfl (fun ls hl => ?_)
  refine lv_iconst (v := 0) hx hb dX2_leftWithout_8 (by decide) ?_
  refine lv_istore (lv' := [(6, .int 0), (4, .long 1), (3, .int rh1), (0, .int x), (1, .int y), (2, .ref n0)]) hx hb dX2_leftWithout_9 hl (by decide) rfl (fun ls hl => ?_)
  have loop11_0 : ∀ (n : Nat) (ls : Array Slot) (v3 : Int32) (v2 : Int64), lv_has ls 7 [(0, .int x), (1, .int y), (2, .ref n0), (3, .int rh1), (4, .long v2), (6, .int v3)] → (0 ≤ v3.toInt ∧ v3.toInt ≤ 6) → (6 - v3.toInt) < (n : Int) → W pr_ l ev_ (headSpec wsX2_leftWithout ({ frames := 2, cells := 0, slots := 0, locals := 128 })).room s m ([.int x, .int y, .ref n0] : List Value).toArray below meth cd_ s.heap [] 0 0 (MQ below (vp_Sl (fun r => True)) ([.int x, .int y, .ref n0] : List Value).toArray s 0 0 (fun _ => False)) (F0 m 11 ls []) := by
    intro n
    induction n with
    | zero => intro ls v3 v2 hl jv3 hn; exact absurd hn (by omega)
    | succ n ih11 =>
      intro ls v3 v2 hl jv3 hn
      refine lv_iload hx hb dX2_leftWithout_11 (lv_at hl 5 rfl) ?_
      refine lv_aload_n hx hb dX2_leftWithout_13 rfl (lv_at hl 2 rfl) ?_
      refine vp_callSi (W.runV (As := []) (rest := [.int v3]) ⟨hx, hb, hml, hown, hts⟩ (tX5_lotClubs l E X A z I0 L0 n0 t_n0) (cwV 0 hts gX2_leftWithout_X5_lotClubs rfl rfl rfl (by decide +kernel) ⟨Nat.le_of_ble_eq_true rfl, Nat.le_of_ble_eq_true rfl⟩) ⟨h_blind _ _ _ _ _ _ _, h_recv g t_n0 (by decide) so_6 (q := (RX5, TX5, 3)) rfl, h_pre _ hE hk hX hA hI hR g⟩ rfl rfl hl.1 rfl (lv_room (Nat.le_of_ble_eq_true rfl)) dX2_leftWithout_14 ⟨Nat.le_of_ble_eq_true rfl, Nat.le_of_ble_eq_true rfl⟩) (fun rh4 h4 => ?_)
      refine lv_icmp_ge (tgt := 52) hx hb dX2_leftWithout_17 (by decide) (fun c5 => ?_) (fun c5 => ?_)
      · have ic5 := (xi_le c5 rfl rfl : rh4.toInt ≤ v3.toInt)
        refine lv_lload hx hb dX2_leftWithout_52 (lv_at hl 4 rfl) ?_
        exact W.lret (v := v2) hx hb hr (fun t ht hW => ⟨v2, rfl, trivial, ht⟩) (fun _ h => by cases h) dX2_leftWithout_54
      · have ic5 := (xi_nle c5 rfl rfl : v3.toInt < rh4.toInt)
        refine lv_iload hx hb dX2_leftWithout_20 (lv_at hl 5 rfl) ?_
        refine lv_iload_n hx hb dX2_leftWithout_22 rfl (lv_at hl 0 rfl) ?_
        refine lv_icmp_eq (tgt := 46) hx hb dX2_leftWithout_23 (by decide) (fun c6 => ?_) (fun c6 => ?_)
        · have ic6 := (xi_eq c6 rfl h_x : v3.toInt = x_t)
          obtain ⟨v7, ev7⟩ : ∃ z : Int32, z = v3 + 1 := ⟨_, rfl⟩
          have jv7 : v7.toInt = v3.toInt + 1 := xi_add ev7 rfl (by decide) (by omega) (by omega)
          refine lv_iinc (v := v7) (lv' := [(6, .int v7), (0, .int x), (1, .int y), (2, .ref n0), (3, .int rh1), (4, .long v2)]) hx hb dX2_leftWithout_46 hl (k := 5) rfl (by rw [ev7]; rfl) (by decide) rfl (fun ls hl => ?_)
          refine lv_goto (tgt := 11) hx hb dX2_leftWithout_49 (by decide) ?_
          exact ih11 _ v7 (v2) (lv_sub hl [1, 2, 3, 4, 5, 0] rfl) (by omega) (by omega)
        · have ic6 := (xi_ne c6 rfl h_x : v3.toInt ≠ x_t)
          refine lv_iload hx hb dX2_leftWithout_26 (lv_at hl 5 rfl) ?_
          refine lv_iload_n hx hb dX2_leftWithout_28 rfl (lv_at hl 1 rfl) ?_
          refine lv_icmp_eq (tgt := 46) hx hb dX2_leftWithout_29 (by decide) (fun c8 => ?_) (fun c8 => ?_)
          · have ic8 := (xi_eq c8 rfl h_y : v3.toInt = y_t)
            obtain ⟨v9, ev9⟩ : ∃ z : Int32, z = v3 + 1 := ⟨_, rfl⟩
            have jv9 : v9.toInt = v3.toInt + 1 := xi_add ev9 rfl (by decide) (by omega) (by omega)
            refine lv_iinc (v := v9) (lv' := [(6, .int v9), (0, .int x), (1, .int y), (2, .ref n0), (3, .int rh1), (4, .long v2)]) hx hb dX2_leftWithout_46 hl (k := 5) rfl (by rw [ev9]; rfl) (by decide) rfl (fun ls hl => ?_)
            refine lv_goto (tgt := 11) hx hb dX2_leftWithout_49 (by decide) ?_
            exact ih11 _ v9 (v2) (lv_sub hl [1, 2, 3, 4, 5, 0] rfl) (by omega) (by omega)
          · have ic8 := (xi_ne c8 rfl h_y : v3.toInt ≠ y_t)
            refine lv_lload hx hb dX2_leftWithout_32 (lv_at hl 4 rfl) ?_
            refine lv_iload_n hx hb dX2_leftWithout_34 rfl (lv_at hl 3 rfl) ?_
            refine lv_aload_n hx hb dX2_leftWithout_35 rfl (lv_at hl 2 rfl) ?_
            refine lv_iload hx hb dX2_leftWithout_36 (lv_at hl 5 rfl) ?_
            refine vp_callSi (W.runV (As := [.int v3]) (rest := [.int rh1, .long v2]) ⟨hx, hb, hml, hown, hts⟩ (tX5_weight l E X A z I0 L0 n0 t_n0 v3 (v3.toInt) rfl) (cwV 1 hts gX2_leftWithout_X5_weight rfl rfl rfl (by decide +kernel) ⟨Nat.le_of_ble_eq_true rfl, Nat.le_of_ble_eq_true rfl⟩) ⟨h_blind _ _ _ _ _ _ _, h_recv g t_n0 (by decide) so_6 (q := (RX5, TX5, 3)) rfl, h_pre _ hE hk hX hA hI hR g⟩ rfl rfl hl.1 rfl (lv_room (Nat.le_of_ble_eq_true rfl)) dX2_leftWithout_38 ⟨Nat.le_of_ble_eq_true rfl, Nat.le_of_ble_eq_true rfl⟩) (fun rh10 h10 => ?_)
            have jrh10 : -2147483648 ≤ rh10.toInt ∧ rh10.toInt ≤ 2147483647 := ⟨xi_lo _, Int.le_of_lt_add_one (xi_hi _)⟩
            refine lv_isub hx hb dX2_leftWithout_41 ?_
            refine lv_topi (fun v11 ev11 => ?_)
            have jv11 : -2147483648 ≤ v11.toInt ∧ v11.toInt ≤ 2147483647 := ⟨xi_lo _, Int.le_of_lt_add_one (xi_hi _)⟩
            refine lv_i2l hx hb dX2_leftWithout_42 rfl ?_
            refine lv_topl (fun v12 ev12 => ?_)
            have jv12 : v12.toInt = v11.toInt := by rw [ev12, xi_64]
            refine lv_lmul hx hb dX2_leftWithout_43 ?_
            refine lv_topl (fun v13 ev13 => ?_)
            refine lv_lstore (lv' := [(4, .long v13), (0, .int x), (1, .int y), (2, .ref n0), (3, .int rh1), (6, .int v3)]) hx hb dX2_leftWithout_44 hl (by decide) rfl (fun ls hl => ?_)
            obtain ⟨v14, ev14⟩ : ∃ z : Int32, z = v3 + 1 := ⟨_, rfl⟩
            have jv14 : v14.toInt = v3.toInt + 1 := xi_add ev14 rfl (by decide) (by omega) (by omega)
            refine lv_iinc (v := v14) (lv' := [(6, .int v14), (4, .long v13), (0, .int x), (1, .int y), (2, .ref n0), (3, .int rh1)]) hx hb dX2_leftWithout_46 hl (k := 5) rfl (by rw [ev14]; rfl) (by decide) rfl (fun ls hl => ?_)
            refine lv_goto (tgt := 11) hx hb dX2_leftWithout_49 (by decide) ?_
            exact ih11 _ v14 (v13) (lv_sub hl [2, 3, 4, 5, 1, 0] rfl) (by omega) (by omega)
  exact loop11_0 _ _ (0) (1) (lv_sub hl [3, 4, 5, 2, 1, 0] rfl) ⟨by decide, by decide⟩ (show (6 - (0 : Int)) < (((6 - (0 : Int)).toNat + 1 : Nat) : Int) by omega)
set_option maxHeartbeats 4000000 in
set_option maxRecDepth 100000 in
theorem tX2_findSecondChance (l : Launch) (E : tE) (X : tX) (A : Nat → Prop) (z : tZ) (I0 : tI) (L0 : tL) (a0 : Nat) (t_a0 : z.ty a0 = 3) (x : Int32) (x_t : Int) (h_x : x.toInt = x_t) (n0 : Nat) (t_n0 : z.ty n0 = 6) : Met l yX2_findSecondChance wsX2_findSecondChance ({ frames := 3, cells := 0, slots := 0, locals := 192 }) (va_Pc [.ref a0, .int x, .ref n0] (h_P E X A z I0 L0)) (va_Qv (fun (q1 : tI × tL) => h_I z q1.1 ∧ h_F [] z I0 q1.1 ∧ True) (fun (q1 : tI × tL) t => h_B E A z q1.1 q1.2 t) A) 0 0 A := by
  refine Met.ofW (cc := cX2_findSecondChance) (maxL := 9) (ret := none) (by decide) rfl ?_
  intro pr_ ev_ s m args below meth cd_ s₁ B hml hv
  obtain ⟨rfl, hE, hk, hX, hA, hK, hI, hR, hB0⟩ := hv
  have g : h_G h_so h_fk E A z I0 L0 s s.heap s.heap [] := ⟨hK, va_S.rf, hB0⟩
  have hF : h_F [] z I0 I0 := h_F.rf
  have hx := B.exec
  have hb := B.bytes
  have hr := B.returns
  have hts := atoms_spec (ws := wsX2_findSecondChance) B.pre
  have hown : s.vm.findClass RX2 = some m.cls := findClass_of_methodNamed B.named
  have hlocks := B.notSynchronized
  have iX2 : ∀ w ∈ u_ws RX2 TX2 7, w ∈ wsX2_findSecondChance := by decide +kernel
  have hl := lv_entry ([.ref a0, .int x, .ref n0]) (n := 9) (Nat.le_of_ble_eq_true rfl)
  rw [lg_entry_eq]
  generalize (lg_sl ([.ref a0, .int x, .ref n0]) ++ List.replicate (9 - (lg_sl ([.ref a0, .int x, .ref n0])).length) Slot.unset).toArray = ls at hl ⊢
  have hl : lv_has ls 9 [(0, .ref a0), (1, .int x), (2, .ref n0)] := hl
  have b_x : -2147483648 ≤ x_t ∧ x_t ≤ 2147483647 := h_x ▸ ⟨xi_lo x, Int.le_of_lt_add_one (xi_hi x)⟩
  refine lv_aload_n hx hb dX2_findSecondChance_0 rfl (lv_at hl 2 rfl) ?_
  refine vp_callSi (W.runV (As := []) (rest := []) ⟨hx, hb, hml, hown, hts⟩ (tX5_weightSum l E X A z I0 L0 n0 t_n0) (cwV 0 hts gX2_findSecondChance_X5_weightSum rfl rfl rfl (by decide +kernel) ⟨Nat.le_of_ble_eq_true rfl, Nat.le_of_ble_eq_true rfl⟩) ⟨h_blind _ _ _ _ _ _ _, h_recv g t_n0 (by decide) so_6 (q := (RX5, TX5, 3)) rfl, h_pre _ hE hk hX hA hI hR g⟩ rfl rfl hl.1 rfl (lv_room (Nat.le_of_ble_eq_true rfl)) dX2_findSecondChance_1 ⟨Nat.le_of_ble_eq_true rfl, Nat.le_of_ble_eq_true rfl⟩) (fun rh1 h1 => ?_)
  have jrh1 : -2147483648 ≤ rh1.toInt ∧ rh1.toInt ≤ 2147483647 := ⟨xi_lo _, Int.le_of_lt_add_one (xi_hi _)⟩
  refine lv_istore_n (lv' := [(3, .int rh1), (0, .ref a0), (1, .int x), (2, .ref n0)]) hx hb dX2_findSecondChance_4 rfl hl (by decide) rfl (fun ls hl => ?_)
  refine lv_iload_n hx hb dX2_findSecondChance_5 rfl (lv_at hl 0 rfl) ?_
  refine lv_i2l hx hb dX2_findSecondChance_6 rfl ?_
  refine lv_topl (fun v2 ev2 => ?_)
  have jv2 : v2.toInt = rh1.toInt := by rw [ev2, xi_64]
  refine lv_lstore (lv' := [(4, .long v2), (3, .int rh1), (0, .ref a0), (1, .int x), (2, .ref n0)]) hx hb dX2_findSecondChance_7 hl (by decide) rfl (fun ls hl => ?_)
  refine lv_lconst (v := 0) hx hb dX2_findSecondChance_9 (by decide) ?_
  refine lv_lstore (lv' := [(6, .long 0), (4, .long v2), (3, .int rh1), (0, .ref a0), (1, .int x), (2, .ref n0)]) hx hb dX2_findSecondChance_10 hl (by decide) rfl (fun ls hl => ?_)
  refine lv_iconst (v := 0) hx hb dX2_findSecondChance_12 (by decide) ?_
  refine lv_istore (lv' := [(8, .int 0), (6, .long 0), (4, .long v2), (3, .int rh1), (0, .ref a0), (1, .int x), (2, .ref n0)]) hx hb dX2_findSecondChance_13 hl (by decide) rfl (fun ls hl => ?_)
  have loop15_0 : ∀ (n : Nat) (I6 : tI) (L7 : tL) (H : Heap) (locs : List Loc) (ls : Array Slot) (v5 : Int32) (v3 v4 : Int64), h_G h_so h_fk E A z I6 L7 s s.heap H locs → h_I z I6 → h_F [] z I0 I6 → lv_has ls 9 [(0, .ref a0), (1, .int x), (2, .ref n0), (3, .int rh1), (4, .long v3), (6, .long v4), (8, .int v5)] → (0 ≤ v5.toInt ∧ v5.toInt ≤ 6) → (6 - v5.toInt) < (n : Int) → W pr_ l ev_ (headSpec wsX2_findSecondChance ({ frames := 3, cells := 0, slots := 0, locals := 192 })).room s m ([.ref a0, .int x, .ref n0] : List Value).toArray below meth cd_ H locs 0 0 (MQ below (va_Qv (fun (q1 : tI × tL) => h_I z q1.1 ∧ h_F [] z I0 q1.1 ∧ True) (fun (q1 : tI × tL) t => h_B E A z q1.1 q1.2 t) A) ([.ref a0, .int x, .ref n0] : List Value).toArray s 0 0 A) (F0 m 15 ls []) := by
    intro n
    induction n with
    | zero => intro I6 L7 H locs ls v5 v3 v4 g hI hF hl jv5 hn; exact absurd hn (by omega)
    | succ n ih15 =>
      intro I6 L7 H locs ls v5 v3 v4 g hI hF hl jv5 hn
      refine lv_iload hx hb dX2_findSecondChance_15 (lv_at hl 6 rfl) ?_
      refine lv_aload_n hx hb dX2_findSecondChance_17 rfl (lv_at hl 2 rfl) ?_
      refine vp_callSi (W.runV (As := []) (rest := [.int v5]) ⟨hx, hb, hml, hown, hts⟩ (tX5_lotClubs l E X A z I6 L7 n0 t_n0) (cwV 0 hts gX2_findSecondChance_X5_lotClubs rfl rfl rfl (by decide +kernel) ⟨Nat.le_of_ble_eq_true rfl, Nat.le_of_ble_eq_true rfl⟩) ⟨h_blind _ _ _ _ _ _ _, h_recv g t_n0 (by decide) so_6 (q := (RX5, TX5, 3)) rfl, h_pre _ hE hk hX hA hI hR g⟩ rfl rfl hl.1 rfl (lv_room (Nat.le_of_ble_eq_true rfl)) dX2_findSecondChance_18 ⟨Nat.le_of_ble_eq_true rfl, Nat.le_of_ble_eq_true rfl⟩) (fun rh8 h8 => ?_)
      refine lv_icmp_ge (tgt := 70) hx hb dX2_findSecondChance_21 (by decide) (fun c9 => ?_) (fun c9 => ?_)
      · have ic9 := (xi_le c9 rfl rfl : rh8.toInt ≤ v5.toInt)
        refine lv_aload_n hx hb dX2_findSecondChance_70 rfl (lv_at hl 0 rfl) ?_
        refine lv_lload hx hb dX2_findSecondChance_71 (lv_at hl 5 rfl) ?_
        refine lv_aload_n hx hb dX2_findSecondChance_73 rfl (lv_at hl 2 rfl) ?_
        refine lv_iload_n hx hb dX2_findSecondChance_74 rfl (lv_at hl 1 rfl) ?_
        refine vp_callSi (W.runV (As := [.int x]) (rest := [.long v4, .ref a0]) ⟨hx, hb, hml, hown, hts⟩ (tX5_weight l E X A z I6 L7 n0 t_n0 x (x_t) h_x) (cwV 1 hts gX2_findSecondChance_X5_weight rfl rfl rfl (by decide +kernel) ⟨Nat.le_of_ble_eq_true rfl, Nat.le_of_ble_eq_true rfl⟩) ⟨h_blind _ _ _ _ _ _ _, h_recv g t_n0 (by decide) so_6 (q := (RX5, TX5, 3)) rfl, h_pre _ hE hk hX hA hI hR g⟩ rfl rfl hl.1 rfl (lv_room (Nat.le_of_ble_eq_true rfl)) dX2_findSecondChance_75 ⟨Nat.le_of_ble_eq_true rfl, Nat.le_of_ble_eq_true rfl⟩) (fun rh10 h10 => ?_)
        have jrh10 : -2147483648 ≤ rh10.toInt ∧ rh10.toInt ≤ 2147483647 := ⟨xi_lo _, Int.le_of_lt_add_one (xi_hi _)⟩
        refine lv_i2l hx hb dX2_findSecondChance_78 rfl ?_
        refine lv_topl (fun v11 ev11 => ?_)
        have jv11 : v11.toInt = rh10.toInt := by rw [ev11, xi_64]
        refine lv_lmul hx hb dX2_findSecondChance_79 ?_
        refine lv_topl (fun v12 ev12 => ?_)
        refine h_putL (ty := .long) (v := v12) hx hb hts iX2 tyX2 tyX2_ok nmX2 hown g t_a0 (by decide) so_3 rfl 5 (by decide) rfl (hts (.fieldLink RX2 60 "CapLeague$Draft" "chanceAbove" "J") (by decide +kernel)) rfl rfl (by decide +kernel) rfl rfl dX2_findSecondChance_80 (fun L13 H locs eL13 g => ?_)
        refine lv_aload_n hx hb dX2_findSecondChance_83 rfl (lv_at hl 0 rfl) ?_
        refine lv_lload hx hb dX2_findSecondChance_84 (lv_at hl 4 rfl) ?_
        refine h_putL (ty := .long) (v := v3) hx hb hts iX2 tyX2 tyX2_ok nmX2 hown g t_a0 (by decide) so_3 rfl 6 (by decide) rfl (hts (.fieldLink RX2 27 "CapLeague$Draft" "chanceBelow" "J") (by decide +kernel)) rfl rfl (by decide +kernel) rfl rfl dX2_findSecondChance_86 (fun L14 H locs eL14 g => ?_)
        have hS := g.2.1
        exact W.vret hx hb hr (fun t ht hW => ⟨⟨(I6, L14), rfl, ⟨hI, hF, trivial⟩, h_ret g ht⟩, hS.F ht⟩) hS.2.2 dX2_findSecondChance_89
      · have ic9 := (xi_nle c9 rfl rfl : v5.toInt < rh8.toInt)
        refine lv_iload hx hb dX2_findSecondChance_24 (lv_at hl 6 rfl) ?_
        refine lv_iload_n hx hb dX2_findSecondChance_26 rfl (lv_at hl 1 rfl) ?_
        refine lv_icmp_eq (tgt := 64) hx hb dX2_findSecondChance_27 (by decide) (fun c15 => ?_) (fun c15 => ?_)
        · have ic15 := (xi_eq c15 rfl h_x : v5.toInt = x_t)
          obtain ⟨v16, ev16⟩ : ∃ z : Int32, z = v5 + 1 := ⟨_, rfl⟩
          have jv16 : v16.toInt = v5.toInt + 1 := xi_add ev16 rfl (by decide) (by omega) (by omega)
          refine lv_iinc (v := v16) (lv' := [(8, .int v16), (0, .ref a0), (1, .int x), (2, .ref n0), (3, .int rh1), (4, .long v3), (6, .long v4)]) hx hb dX2_findSecondChance_64 hl (k := 6) rfl (by rw [ev16]; rfl) (by decide) rfl (fun ls hl => ?_)
          refine lv_goto (tgt := 15) hx hb dX2_findSecondChance_67 (by decide) ?_
          exact ih15 I6 L7 _ _ _ v16 (v3) (v4) g hI hF (lv_sub hl [1, 2, 3, 4, 5, 6, 0] rfl) (by omega) (by omega)
        · have ic15 := (xi_ne c15 rfl h_x : v5.toInt ≠ x_t)
          refine lv_lload hx hb dX2_findSecondChance_30 (lv_at hl 4 rfl) ?_
          refine lv_iload_n hx hb dX2_findSecondChance_32 rfl (lv_at hl 3 rfl) ?_
          refine lv_aload_n hx hb dX2_findSecondChance_33 rfl (lv_at hl 2 rfl) ?_
          refine lv_iload hx hb dX2_findSecondChance_34 (lv_at hl 6 rfl) ?_
          refine vp_callSi (W.runV (As := [.int v5]) (rest := [.int rh1, .long v3]) ⟨hx, hb, hml, hown, hts⟩ (tX5_weight l E X A z I6 L7 n0 t_n0 v5 (v5.toInt) rfl) (cwV 1 hts gX2_findSecondChance_X5_weight rfl rfl rfl (by decide +kernel) ⟨Nat.le_of_ble_eq_true rfl, Nat.le_of_ble_eq_true rfl⟩) ⟨h_blind _ _ _ _ _ _ _, h_recv g t_n0 (by decide) so_6 (q := (RX5, TX5, 3)) rfl, h_pre _ hE hk hX hA hI hR g⟩ rfl rfl hl.1 rfl (lv_room (Nat.le_of_ble_eq_true rfl)) dX2_findSecondChance_36 ⟨Nat.le_of_ble_eq_true rfl, Nat.le_of_ble_eq_true rfl⟩) (fun rh17 h17 => ?_)
          have jrh17 : -2147483648 ≤ rh17.toInt ∧ rh17.toInt ≤ 2147483647 := ⟨xi_lo _, Int.le_of_lt_add_one (xi_hi _)⟩
          refine lv_isub hx hb dX2_findSecondChance_39 ?_
          refine lv_topi (fun v18 ev18 => ?_)
          have jv18 : -2147483648 ≤ v18.toInt ∧ v18.toInt ≤ 2147483647 := ⟨xi_lo _, Int.le_of_lt_add_one (xi_hi _)⟩
          refine lv_i2l hx hb dX2_findSecondChance_40 rfl ?_
          refine lv_topl (fun v19 ev19 => ?_)
          have jv19 : v19.toInt = v18.toInt := by rw [ev19, xi_64]
          refine lv_lmul hx hb dX2_findSecondChance_41 ?_
          refine lv_topl (fun v20 ev20 => ?_)
          refine lv_lstore (lv' := [(4, .long v20), (0, .ref a0), (1, .int x), (2, .ref n0), (3, .int rh1), (6, .long v4), (8, .int v5)]) hx hb dX2_findSecondChance_42 hl (by decide) rfl (fun ls hl => ?_)
          refine lv_lload hx hb dX2_findSecondChance_44 (lv_at hl 5 rfl) ?_
          refine lv_aload_n hx hb dX2_findSecondChance_46 rfl (lv_at hl 3 rfl) ?_
          refine lv_iload hx hb dX2_findSecondChance_47 (lv_at hl 6 rfl) ?_
          refine vp_callSi (W.runV (As := [.int v5]) (rest := [.long v4]) ⟨hx, hb, hml, hown, hts⟩ (tX5_weight l E X A z I6 L7 n0 t_n0 v5 (v5.toInt) rfl) (cwV 1 hts gX2_findSecondChance_X5_weight rfl rfl rfl (by decide +kernel) ⟨Nat.le_of_ble_eq_true rfl, Nat.le_of_ble_eq_true rfl⟩) ⟨h_blind _ _ _ _ _ _ _, h_recv g t_n0 (by decide) so_6 (q := (RX5, TX5, 3)) rfl, h_pre _ hE hk hX hA hI hR g⟩ rfl rfl hl.1 rfl (lv_room (Nat.le_of_ble_eq_true rfl)) dX2_findSecondChance_49 ⟨Nat.le_of_ble_eq_true rfl, Nat.le_of_ble_eq_true rfl⟩) (fun rh21 h21 => ?_)
          have jrh21 : -2147483648 ≤ rh21.toInt ∧ rh21.toInt ≤ 2147483647 := ⟨xi_lo _, Int.le_of_lt_add_one (xi_hi _)⟩
          refine lv_i2l hx hb dX2_findSecondChance_52 rfl ?_
          refine lv_topl (fun v22 ev22 => ?_)
          have jv22 : v22.toInt = rh21.toInt := by rw [ev22, xi_64]
          refine lv_iload_n hx hb dX2_findSecondChance_53 rfl (lv_at hl 2 rfl) ?_
          refine lv_iload hx hb dX2_findSecondChance_54 (lv_at hl 6 rfl) ?_
          refine lv_aload_n hx hb dX2_findSecondChance_56 rfl (lv_at hl 3 rfl) ?_
          refine vp_callSl (W.runS (As := [.int x, .int v5, .ref n0]) (rest := [.long v22, .long v4]) ⟨hx, hb, hml, hown, hts⟩ (tX2_leftWithout l E X A z I6 L7 x (x_t) h_x v5 (v5.toInt) rfl n0 t_n0) (va_cwS 3 hts gX2_findSecondChance_X2_leftWithout rfl rfl rfl (by decide +kernel) ⟨Nat.le_of_ble_eq_true rfl, Nat.le_of_ble_eq_true rfl⟩) ⟨h_blind _ _ _ _ _ _ _, h_pre _ hE hk hX hA hI hR g⟩ rfl rfl hl.1 rfl (lv_room (Nat.le_of_ble_eq_true rfl)) dX2_findSecondChance_57 ⟨Nat.le_of_ble_eq_true rfl, Nat.le_of_ble_eq_true rfl⟩) (fun rh23 h23 => ?_)
          have jrh23 : -9223372036854775808 ≤ rh23.toInt := Int64.le_toInt _
          refine lv_lmul hx hb dX2_findSecondChance_60 ?_
          refine lv_topl (fun v24 ev24 => ?_)
          refine lv_ladd hx hb dX2_findSecondChance_61 ?_
          refine lv_topl (fun v25 ev25 => ?_)
          refine lv_lstore (lv' := [(6, .long v25), (4, .long v20), (0, .ref a0), (1, .int x), (2, .ref n0), (3, .int rh1), (8, .int v5)]) hx hb dX2_findSecondChance_62 hl (by decide) rfl (fun ls hl => ?_)
          obtain ⟨v26, ev26⟩ : ∃ z : Int32, z = v5 + 1 := ⟨_, rfl⟩
          have jv26 : v26.toInt = v5.toInt + 1 := xi_add ev26 rfl (by decide) (by omega) (by omega)
          refine lv_iinc (v := v26) (lv' := [(8, .int v26), (6, .long v25), (4, .long v20), (0, .ref a0), (1, .int x), (2, .ref n0), (3, .int rh1)]) hx hb dX2_findSecondChance_64 hl (k := 6) rfl (by rw [ev26]; rfl) (by decide) rfl (fun ls hl => ?_)
          refine lv_goto (tgt := 15) hx hb dX2_findSecondChance_67 (by decide) ?_
          exact ih15 I6 L7 _ _ _ v26 (v20) (v25) g hI hF (lv_sub hl [3, 4, 5, 6, 2, 1, 0] rfl) (by omega) (by omega)
  exact loop15_0 _ I0 L0 _ _ _ (0) (v2) (0) g hI hF (lv_sub hl [4, 5, 6, 3, 2, 1, 0] rfl) ⟨by decide, by decide⟩ (show (6 - (0 : Int)) < (((6 - (0 : Int)).toNat + 1 : Nat) : Int) by omega)
set_option maxHeartbeats 4000000 in
set_option maxRecDepth 100000 in
theorem tX2_cutFraction (l : Launch) (E : tE) (X : tX) (A : Nat → Prop) (z : tZ) (I0 : tI) (L0 : tL) (a0 : Nat) (t_a0 : z.ty a0 = 3) : Met l yX2_cutFraction wsX2_cutFraction ({ frames := 1, cells := 0, slots := 0, locals := 64 }) (va_Pc [.ref a0] (h_P E X A z I0 L0)) (va_Qv (fun (q1 : tI × tL) => h_I z q1.1 ∧ h_F [] z I0 q1.1 ∧ True) (fun (q1 : tI × tL) t => h_B E A z q1.1 q1.2 t) A) 0 0 A := by
  refine Met.ofW (cc := cX2_cutFraction) (maxL := 8) (ret := none) (by decide) rfl ?_
  intro pr_ ev_ s m args below meth cd_ s₁ B hml hv
  obtain ⟨rfl, hE, hk, hX, hA, hK, hI, hR, hB0⟩ := hv
  have g : h_G h_so h_fk E A z I0 L0 s s.heap s.heap [] := ⟨hK, va_S.rf, hB0⟩
  have hF : h_F [] z I0 I0 := h_F.rf
  have hx := B.exec
  have hb := B.bytes
  have hr := B.returns
  have hts := atoms_spec (ws := wsX2_cutFraction) B.pre
  have hown : s.vm.findClass RX2 = some m.cls := findClass_of_methodNamed B.named
  have hlocks := B.notSynchronized
  have iX2 : ∀ w ∈ u_ws RX2 TX2 7, w ∈ wsX2_cutFraction := by decide +kernel
  have hl := lv_entry ([.ref a0]) (n := 8) (Nat.le_of_ble_eq_true rfl)
  rw [lg_entry_eq]
  generalize (lg_sl ([.ref a0]) ++ List.replicate (8 - (lg_sl ([.ref a0])).length) Slot.unset).toArray = ls at hl ⊢
  have hl : lv_has ls 8 [(0, .ref a0)] := hl
  refine lv_aload_n hx hb dX2_cutFraction_0 rfl (lv_at hl 0 rfl) ?_
  refine h_get (v := .long (L0 a0 5)) hx hb hts iX2 hown g t_a0 (by decide) so_3 rfl 5 (by decide) (hts (.fieldLink RX2 60 "CapLeague$Draft" "chanceAbove" "J") (by decide +kernel)) rfl dX2_cutFraction_1 rfl ?_
  refine lv_topl (fun v1 ev1 => ?_)
  refine lv_lstore_n (lv' := [(1, .long v1), (0, .ref a0)]) hx hb dX2_cutFraction_4 rfl hl (by decide) rfl (fun ls hl => ?_)
  refine lv_aload_n hx hb dX2_cutFraction_5 rfl (lv_at hl 1 rfl) ?_
  refine h_get (v := .long (L0 a0 6)) hx hb hts iX2 hown g t_a0 (by decide) so_3 rfl 6 (by decide) (hts (.fieldLink RX2 27 "CapLeague$Draft" "chanceBelow" "J") (by decide +kernel)) rfl dX2_cutFraction_6 rfl ?_
  refine lv_topl (fun v2 ev2 => ?_)
  refine lv_lstore_n (lv' := [(3, .long v2), (1, .long v1), (0, .ref a0)]) hx hb dX2_cutFraction_9 rfl hl (by decide) rfl (fun ls hl => ?_)
  refine lv_iconst (v := 0) hx hb dX2_cutFraction_10 (by decide) ?_
  refine lv_istore (lv' := [(5, .int 0), (3, .long v2), (1, .long v1), (0, .ref a0)]) hx hb dX2_cutFraction_11 hl (by decide) rfl (fun ls hl => ?_)
  have loop13_0 : ∀ (n : Nat) (I6 : tI) (L7 : tL) (H : Heap) (locs : List Loc) (ls : Array Slot) (v5 : Int32) (v3 v4 : Int64), h_G h_so h_fk E A z I6 L7 s s.heap H locs → h_I z I6 → h_F [] z I0 I6 → lv_has ls 8 [(0, .ref a0), (1, .long v3), (3, .long v4), (5, .int v5)] → (0 ≤ v5.toInt ∧ v5.toInt ≤ 200) → (200 - v5.toInt) < (n : Int) → W pr_ l ev_ (headSpec wsX2_cutFraction ({ frames := 1, cells := 0, slots := 0, locals := 64 })).room s m ([.ref a0] : List Value).toArray below meth cd_ H locs 0 0 (MQ below (va_Qv (fun (q1 : tI × tL) => h_I z q1.1 ∧ h_F [] z I0 q1.1 ∧ True) (fun (q1 : tI × tL) t => h_B E A z q1.1 q1.2 t) A) ([.ref a0] : List Value).toArray s 0 0 A) (F0 m 13 ls []) := by
    intro n
    induction n with
    | zero => intro I6 L7 H locs ls v5 v3 v4 g hI hF hl jv5 hn; exact absurd hn (by omega)
    | succ n ih13 =>
      intro I6 L7 H locs ls v5 v3 v4 g hI hF hl jv5 hn
      refine lv_iload hx hb dX2_cutFraction_13 (lv_at hl 3 rfl) ?_
      refine lv_sipush (v := 200) hx hb dX2_cutFraction_15 (by decide) ?_
      refine lv_icmp_ge (tgt := 43) hx hb dX2_cutFraction_18 (by decide) (fun c8 => ?_) (fun c8 => ?_)
      · have ic8 := (xi_le c8 (by decide) rfl : 200 ≤ v5.toInt)
        refine lv_lload_n hx hb dX2_cutFraction_43 rfl (lv_at hl 1 rfl) ?_
        refine lv_lconst (v := 0) hx hb dX2_cutFraction_44 (by decide) ?_
        refine W.lcmp hx hb dX2_cutFraction_45 ?_
        refine lv_if_le (tgt := 69) hx hb dX2_cutFraction_46 (by decide) (fun c9 => ?_) (fun c9 => ?_)
        · have ic9 : v3.toInt ≤ (0 : Int64).toInt := xl_le c9
          rw [show (0 : Int64).toInt = 0 by decide] at ic9
          have hS := g.2.1
          exact W.vret hx hb hr (fun t ht hW => ⟨⟨(I6, L7), rfl, ⟨hI, hF, trivial⟩, h_ret g ht⟩, hS.F ht⟩) hS.2.2 dX2_cutFraction_69
        · have ic9 : (0 : Int64).toInt < v3.toInt := xl_nle c9
          rw [show (0 : Int64).toInt = 0 by decide] at ic9
          refine lv_aload_n hx hb dX2_cutFraction_49 rfl (lv_at hl 0 rfl) ?_
          refine lv_dup hx hb dX2_cutFraction_50 rfl ?_
          refine h_get (v := .long (L7 a0 5)) hx hb hts iX2 hown g t_a0 (by decide) so_3 rfl 5 (by decide) (hts (.fieldLink RX2 60 "CapLeague$Draft" "chanceAbove" "J") (by decide +kernel)) rfl dX2_cutFraction_51 rfl ?_
          refine lv_topl (fun v10 ev10 => ?_)
          refine lv_lload_n hx hb dX2_cutFraction_54 rfl (lv_at hl 1 rfl) ?_
          refine lv_ldiv hx hb dX2_cutFraction_55 (h_lne0 (by omega)) ?_
          refine lv_topl (fun v11 ev11 => ?_)
          refine h_putL (ty := .long) (v := v11) hx hb hts iX2 tyX2 tyX2_ok nmX2 hown g t_a0 (by decide) so_3 rfl 5 (by decide) rfl (hts (.fieldLink RX2 60 "CapLeague$Draft" "chanceAbove" "J") (by decide +kernel)) rfl rfl (by decide +kernel) rfl rfl dX2_cutFraction_56 (fun L12 H locs eL12 g => ?_)
          refine lv_aload_n hx hb dX2_cutFraction_59 rfl (lv_at hl 0 rfl) ?_
          refine lv_dup hx hb dX2_cutFraction_60 rfl ?_
          refine h_get (v := .long (L12 a0 6)) hx hb hts iX2 hown g t_a0 (by decide) so_3 rfl 6 (by decide) (hts (.fieldLink RX2 27 "CapLeague$Draft" "chanceBelow" "J") (by decide +kernel)) rfl dX2_cutFraction_61 rfl ?_
          refine lv_topl (fun v13 ev13 => ?_)
          refine lv_lload_n hx hb dX2_cutFraction_64 rfl (lv_at hl 1 rfl) ?_
          refine lv_ldiv hx hb dX2_cutFraction_65 (h_lne0 (by omega)) ?_
          refine lv_topl (fun v14 ev14 => ?_)
          refine h_putL (ty := .long) (v := v14) hx hb hts iX2 tyX2 tyX2_ok nmX2 hown g t_a0 (by decide) so_3 rfl 6 (by decide) rfl (hts (.fieldLink RX2 27 "CapLeague$Draft" "chanceBelow" "J") (by decide +kernel)) rfl rfl (by decide +kernel) rfl rfl dX2_cutFraction_66 (fun L15 H locs eL15 g => ?_)
          have hS := g.2.1
          exact W.vret hx hb hr (fun t ht hW => ⟨⟨(I6, L15), rfl, ⟨hI, hF, trivial⟩, h_ret g ht⟩, hS.F ht⟩) hS.2.2 dX2_cutFraction_69
      · have ic8 := (xi_nle c8 (by decide) rfl : v5.toInt < 200)
        refine lv_lload_n hx hb dX2_cutFraction_21 rfl (lv_at hl 2 rfl) ?_
        refine lv_lconst (v := 0) hx hb dX2_cutFraction_22 (by decide) ?_
        refine W.lcmp hx hb dX2_cutFraction_23 ?_
        refine lv_if_eq (tgt := 43) hx hb dX2_cutFraction_24 (by decide) (fun c16 => ?_) (fun c16 => ?_)
        · have ic16 : v4.toInt = (0 : Int64).toInt := xl_eq c16
          rw [show (0 : Int64).toInt = 0 by decide] at ic16
          refine lv_lload_n hx hb dX2_cutFraction_43 rfl (lv_at hl 1 rfl) ?_
          refine lv_lconst (v := 0) hx hb dX2_cutFraction_44 (by decide) ?_
          refine W.lcmp hx hb dX2_cutFraction_45 ?_
          refine lv_if_le (tgt := 69) hx hb dX2_cutFraction_46 (by decide) (fun c17 => ?_) (fun c17 => ?_)
          · have ic17 : v3.toInt ≤ (0 : Int64).toInt := xl_le c17
            rw [show (0 : Int64).toInt = 0 by decide] at ic17
            have hS := g.2.1
            exact W.vret hx hb hr (fun t ht hW => ⟨⟨(I6, L7), rfl, ⟨hI, hF, trivial⟩, h_ret g ht⟩, hS.F ht⟩) hS.2.2 dX2_cutFraction_69
          · have ic17 : (0 : Int64).toInt < v3.toInt := xl_nle c17
            rw [show (0 : Int64).toInt = 0 by decide] at ic17
            refine lv_aload_n hx hb dX2_cutFraction_49 rfl (lv_at hl 0 rfl) ?_
            refine lv_dup hx hb dX2_cutFraction_50 rfl ?_
            refine h_get (v := .long (L7 a0 5)) hx hb hts iX2 hown g t_a0 (by decide) so_3 rfl 5 (by decide) (hts (.fieldLink RX2 60 "CapLeague$Draft" "chanceAbove" "J") (by decide +kernel)) rfl dX2_cutFraction_51 rfl ?_
            refine lv_topl (fun v18 ev18 => ?_)
            refine lv_lload_n hx hb dX2_cutFraction_54 rfl (lv_at hl 1 rfl) ?_
            refine lv_ldiv hx hb dX2_cutFraction_55 (h_lne0 (by omega)) ?_
            refine lv_topl (fun v19 ev19 => ?_)
            refine h_putL (ty := .long) (v := v19) hx hb hts iX2 tyX2 tyX2_ok nmX2 hown g t_a0 (by decide) so_3 rfl 5 (by decide) rfl (hts (.fieldLink RX2 60 "CapLeague$Draft" "chanceAbove" "J") (by decide +kernel)) rfl rfl (by decide +kernel) rfl rfl dX2_cutFraction_56 (fun L20 H locs eL20 g => ?_)
            refine lv_aload_n hx hb dX2_cutFraction_59 rfl (lv_at hl 0 rfl) ?_
            refine lv_dup hx hb dX2_cutFraction_60 rfl ?_
            refine h_get (v := .long (L20 a0 6)) hx hb hts iX2 hown g t_a0 (by decide) so_3 rfl 6 (by decide) (hts (.fieldLink RX2 27 "CapLeague$Draft" "chanceBelow" "J") (by decide +kernel)) rfl dX2_cutFraction_61 rfl ?_
            refine lv_topl (fun v21 ev21 => ?_)
            refine lv_lload_n hx hb dX2_cutFraction_64 rfl (lv_at hl 1 rfl) ?_
            refine lv_ldiv hx hb dX2_cutFraction_65 (h_lne0 (by omega)) ?_
            refine lv_topl (fun v22 ev22 => ?_)
            refine h_putL (ty := .long) (v := v22) hx hb hts iX2 tyX2 tyX2_ok nmX2 hown g t_a0 (by decide) so_3 rfl 6 (by decide) rfl (hts (.fieldLink RX2 27 "CapLeague$Draft" "chanceBelow" "J") (by decide +kernel)) rfl rfl (by decide +kernel) rfl rfl dX2_cutFraction_66 (fun L23 H locs eL23 g => ?_)
            have hS := g.2.1
            exact W.vret hx hb hr (fun t ht hW => ⟨⟨(I6, L23), rfl, ⟨hI, hF, trivial⟩, h_ret g ht⟩, hS.F ht⟩) hS.2.2 dX2_cutFraction_69
        · have ic16 : v4.toInt ≠ (0 : Int64).toInt := xl_ne c16
          rw [show (0 : Int64).toInt = 0 by decide] at ic16
          refine lv_lload_n hx hb dX2_cutFraction_27 rfl (lv_at hl 1 rfl) ?_
          refine lv_lload_n hx hb dX2_cutFraction_28 rfl (lv_at hl 2 rfl) ?_
          refine lv_lrem hx hb dX2_cutFraction_29 (h_lne0 (by omega)) ?_
          refine lv_topl (fun v24 ev24 => ?_)
          refine lv_lstore (lv' := [(6, .long v24), (0, .ref a0), (1, .long v3), (3, .long v4), (5, .int v5)]) hx hb dX2_cutFraction_30 hl (by decide) rfl (fun ls hl => ?_)
          refine lv_lload_n hx hb dX2_cutFraction_32 rfl (lv_at hl 3 rfl) ?_
          refine lv_lstore_n (lv' := [(1, .long v4), (6, .long v24), (0, .ref a0), (3, .long v4), (5, .int v5)]) hx hb dX2_cutFraction_33 rfl hl (by decide) rfl (fun ls hl => ?_)
          refine lv_lload hx hb dX2_cutFraction_34 (lv_at hl 1 rfl) ?_
          refine lv_lstore_n (lv' := [(3, .long v24), (1, .long v4), (6, .long v24), (0, .ref a0), (5, .int v5)]) hx hb dX2_cutFraction_36 rfl hl (by decide) rfl (fun ls hl => ?_)
          obtain ⟨v25, ev25⟩ : ∃ z : Int32, z = v5 + 1 := ⟨_, rfl⟩
          have jv25 : v25.toInt = v5.toInt + 1 := xi_add ev25 rfl (by decide) (by omega) (by omega)
          refine lv_iinc (v := v25) (lv' := [(5, .int v25), (3, .long v24), (1, .long v4), (6, .long v24), (0, .ref a0)]) hx hb dX2_cutFraction_37 hl (k := 4) rfl (by rw [ev25]; rfl) (by decide) rfl (fun ls hl => ?_)
          refine lv_goto (tgt := 13) hx hb dX2_cutFraction_40 (by decide) ?_
          exact ih13 I6 L7 _ _ _ v25 (v4) (v24) g hI hF (lv_sub hl [4, 2, 1, 0] rfl) (by omega) (by omega)
  exact loop13_0 _ I0 L0 _ _ _ (0) (v1) (v2) g hI hF (lv_sub hl [3, 2, 1, 0] rfl) ⟨by decide, by decide⟩ (show (200 - (0 : Int)) < (((200 - (0 : Int)).toNat + 1 : Nat) : Int) by omega)
set_option maxHeartbeats 4000000 in
set_option maxRecDepth 100000 in
theorem tX2_findChance (l : Launch) (E : tE) (X : tX) (A : Nat → Prop) (z : tZ) (I0 : tI) (L0 : tL) (a0 : Nat) (t_a0 : z.ty a0 = 3) (c : Int32) (c_t : Int) (h_c : c.toInt = c_t) (k : Int32) (k_t : Int) (h_k : k.toInt = k_t) (n0 : Nat) (t_n0 : z.ty n0 = 6) : Met l yX2_findChance wsX2_findChance ({ frames := 4, cells := 0, slots := 0, locals := 256 }) (va_Pc [.ref a0, .int c, .int k, .ref n0] (h_P E X A z I0 L0)) (va_Qv (fun (q1 : tI × tL) => h_I z q1.1 ∧ h_F [] z I0 q1.1 ∧ True) (fun (q1 : tI × tL) t => h_B E A z q1.1 q1.2 t) A) 0 0 A := by
  refine Met.ofW (cc := cX2_findChance) (maxL := 5) (ret := none) (by decide) rfl ?_
  intro pr_ ev_ s m args below meth cd_ s₁ B hml hv
  obtain ⟨rfl, hE, hk, hX, hA, hK, hI, hR, hB0⟩ := hv
  have g : h_G h_so h_fk E A z I0 L0 s s.heap s.heap [] := ⟨hK, va_S.rf, hB0⟩
  have hF : h_F [] z I0 I0 := h_F.rf
  have hx := B.exec
  have hb := B.bytes
  have hr := B.returns
  have hts := atoms_spec (ws := wsX2_findChance) B.pre
  have hown : s.vm.findClass RX2 = some m.cls := findClass_of_methodNamed B.named
  have hlocks := B.notSynchronized
  have iX2 : ∀ w ∈ u_ws RX2 TX2 7, w ∈ wsX2_findChance := by decide +kernel
  have hl := lv_entry ([.ref a0, .int c, .int k, .ref n0]) (n := 5) (Nat.le_of_ble_eq_true rfl)
  rw [lg_entry_eq]
  generalize (lg_sl ([.ref a0, .int c, .int k, .ref n0]) ++ List.replicate (5 - (lg_sl ([.ref a0, .int c, .int k, .ref n0])).length) Slot.unset).toArray = ls at hl ⊢
  have hl : lv_has ls 5 [(0, .ref a0), (1, .int c), (2, .int k), (3, .ref n0)] := hl
  have b_c : -2147483648 ≤ c_t ∧ c_t ≤ 2147483647 := h_c ▸ ⟨xi_lo c, Int.le_of_lt_add_one (xi_hi c)⟩
  have b_k : -2147483648 ≤ k_t ∧ k_t ≤ 2147483647 := h_k ▸ ⟨xi_lo k, Int.le_of_lt_add_one (xi_hi k)⟩
  refine lv_aload_n hx hb dX2_findChance_0 rfl (lv_at hl 0 rfl) ?_
  refine lv_iload_n hx hb dX2_findChance_1 rfl (lv_at hl 1 rfl) ?_
  refine vp_callSi (W.runV (As := [.int c]) (rest := []) ⟨hx, hb, hml, hown, hts⟩ (tX2_rankOf l E X A z I0 L0 a0 t_a0 c (c_t) h_c) (cwV 1 hts gX2_findChance_X2_rankOf rfl rfl rfl (by decide +kernel) ⟨Nat.le_of_ble_eq_true rfl, Nat.le_of_ble_eq_true rfl⟩) ⟨h_blind _ _ _ _ _ _ _, h_recv g t_a0 (by decide) so_3 (q := (RX2, TX2, 7)) rfl, h_pre _ hE hk hX hA hI hR g⟩ rfl rfl hl.1 rfl (lv_room (Nat.le_of_ble_eq_true rfl)) dX2_findChance_2 ⟨Nat.le_of_ble_eq_true rfl, Nat.le_of_ble_eq_true rfl⟩) (fun rh1 h1 => ?_)
  refine lv_istore (lv' := [(4, .int rh1), (0, .ref a0), (1, .int c), (2, .int k), (3, .ref n0)]) hx hb dX2_findChance_5 hl (by decide) rfl (fun ls hl => ?_)
  refine lv_aload_n hx hb dX2_findChance_7 rfl (lv_at hl 1 rfl) ?_
  refine lv_lconst (v := 0) hx hb dX2_findChance_8 (by decide) ?_
  refine h_putL (ty := .long) (v := 0) hx hb hts iX2 tyX2 tyX2_ok nmX2 hown g t_a0 (by decide) so_3 rfl 5 (by decide) rfl (hts (.fieldLink RX2 60 "CapLeague$Draft" "chanceAbove" "J") (by decide +kernel)) rfl rfl (by decide +kernel) rfl rfl dX2_findChance_9 (fun L2 H locs eL2 g => ?_)
  refine lv_aload_n hx hb dX2_findChance_12 rfl (lv_at hl 1 rfl) ?_
  refine lv_lconst (v := 1) hx hb dX2_findChance_13 (by decide) ?_
  refine h_putL (ty := .long) (v := 1) hx hb hts iX2 tyX2 tyX2_ok nmX2 hown g t_a0 (by decide) so_3 rfl 6 (by decide) rfl (hts (.fieldLink RX2 27 "CapLeague$Draft" "chanceBelow" "J") (by decide +kernel)) rfl rfl (by decide +kernel) rfl rfl dX2_findChance_14 (fun L3 H locs eL3 g => ?_)
  refine lv_aload_n hx hb dX2_findChance_17 rfl (lv_at hl 4 rfl) ?_
  refine vp_callSi (W.runV (As := []) (rest := []) ⟨hx, hb, hml, hown, hts⟩ (tX5_lotClubs l E X A z I0 L3 n0 t_n0) (cwV 0 hts gX2_findChance_X5_lotClubs rfl rfl rfl (by decide +kernel) ⟨Nat.le_of_ble_eq_true rfl, Nat.le_of_ble_eq_true rfl⟩) ⟨h_blind _ _ _ _ _ _ _, h_recv g t_n0 (by decide) so_6 (q := (RX5, TX5, 3)) rfl, h_pre _ hE hk hX hA hI hR g⟩ rfl rfl hl.1 rfl (lv_room (Nat.le_of_ble_eq_true rfl)) dX2_findChance_18 ⟨Nat.le_of_ble_eq_true rfl, Nat.le_of_ble_eq_true rfl⟩) (fun rh4 h4 => ?_)
  refine lv_if_ne (tgt := 42) hx hb dX2_findChance_21 (by decide) (fun c5 => ?_) (fun c5 => ?_)
  · have ic5 := (xi_ne c5 rfl (by decide) : rh4.toInt ≠ 0)
    refine lv_iload hx hb dX2_findChance_42 (lv_at hl 0 rfl) ?_
    refine lv_iconst (v := (-1)) hx hb dX2_findChance_44 (by decide) ?_
    refine lv_icmp_eq (tgt := 95) hx hb dX2_findChance_45 (by decide) (fun c6 => ?_) (fun c6 => ?_)
    · have ic6 := (xi_eq c6 rfl (by decide) : rh1.toInt = (-1))
      have hS := g.2.1
      exact W.vret hx hb hr (fun t ht hW => ⟨⟨(I0, L3), rfl, ⟨hI, hF, trivial⟩, h_ret g ht⟩, hS.F ht⟩) hS.2.2 dX2_findChance_95
    · have ic6 := (xi_ne c6 rfl (by decide) : rh1.toInt ≠ (-1))
      refine lv_iload hx hb dX2_findChance_48 (lv_at hl 0 rfl) ?_
      refine lv_aload_n hx hb dX2_findChance_50 rfl (lv_at hl 4 rfl) ?_
      refine vp_callSi (W.runV (As := []) (rest := [.int rh1]) ⟨hx, hb, hml, hown, hts⟩ (tX5_lotClubs l E X A z I0 L3 n0 t_n0) (cwV 0 hts gX2_findChance_X5_lotClubs rfl rfl rfl (by decide +kernel) ⟨Nat.le_of_ble_eq_true rfl, Nat.le_of_ble_eq_true rfl⟩) ⟨h_blind _ _ _ _ _ _ _, h_recv g t_n0 (by decide) so_6 (q := (RX5, TX5, 3)) rfl, h_pre _ hE hk hX hA hI hR g⟩ rfl rfl hl.1 rfl (lv_room (Nat.le_of_ble_eq_true rfl)) dX2_findChance_51 ⟨Nat.le_of_ble_eq_true rfl, Nat.le_of_ble_eq_true rfl⟩) (fun rh7 h7 => ?_)
      refine lv_icmp_ge (tgt := 95) hx hb dX2_findChance_54 (by decide) (fun c8 => ?_) (fun c8 => ?_)
      · have ic8 := (xi_le c8 rfl rfl : rh7.toInt ≤ rh1.toInt)
        have hS := g.2.1
        exact W.vret hx hb hr (fun t ht hW => ⟨⟨(I0, L3), rfl, ⟨hI, hF, trivial⟩, h_ret g ht⟩, hS.F ht⟩) hS.2.2 dX2_findChance_95
      · have ic8 := (xi_nle c8 rfl rfl : rh1.toInt < rh7.toInt)
        refine lv_iload_n hx hb dX2_findChance_57 rfl (lv_at hl 3 rfl) ?_
        refine lv_if_ne (tgt := 84) hx hb dX2_findChance_58 (by decide) (fun c9 => ?_) (fun c9 => ?_)
        · have ic9 := (xi_ne c9 h_k (by decide) : k_t ≠ 0)
          refine lv_aload_n hx hb dX2_findChance_84 rfl (lv_at hl 1 rfl) ?_
          refine lv_iload hx hb dX2_findChance_85 (lv_at hl 0 rfl) ?_
          refine lv_aload_n hx hb dX2_findChance_87 rfl (lv_at hl 4 rfl) ?_
          refine va_callv (va_runV (As := [.int rh1, .ref n0]) (rest := []) ⟨hx, hb, hml, hown, hts⟩ (tX2_findSecondChance l E X A z I0 L3 a0 t_a0 rh1 (rh1.toInt) rfl n0 t_n0) (cwV 2 hts gX2_findChance_X2_findSecondChance rfl rfl rfl (by decide +kernel) ⟨Nat.le_of_ble_eq_true rfl, Nat.le_of_ble_eq_true rfl⟩) ⟨h_blind _ _ _ _ _ _ _, h_recv g t_a0 (by decide) so_3 (q := (RX2, TX2, 7)) rfl, h_pre _ hE hk hX hA hI hR g⟩ rfl rfl hl.1 rfl (lv_room (Nat.le_of_ble_eq_true rfl)) dX2_findChance_88 ⟨Nat.le_of_ble_eq_true rfl, Nat.le_of_ble_eq_true rfl⟩) g.2.1 (fun q _ h => h) (fun q h => h) (fun uh10 t H1 locs ht hvm h10 hB hz1 hk1 hS => ?_)
          obtain ⟨I11, L12⟩ := uh10
          obtain ⟨hI, fh10, h10⟩ := h10
          replace g := h_after g hB ht hS
          generalize H1 = H at g
          clear hB hk1 hz1 ht hvm hS
          have hF := hF.call fh10 rfl
          refine lv_aload_n hx hb dX2_findChance_91 rfl (lv_at hl 1 rfl) ?_
          refine va_callv (va_runV (As := []) (rest := []) ⟨hx, hb, hml, hown, hts⟩ (tX2_cutFraction l E X A z I11 L12 a0 t_a0) (cwV 0 hts gX2_findChance_X2_cutFraction rfl rfl rfl (by decide +kernel) ⟨Nat.le_of_ble_eq_true rfl, Nat.le_of_ble_eq_true rfl⟩) ⟨h_blind _ _ _ _ _ _ _, h_recv g t_a0 (by decide) so_3 (q := (RX2, TX2, 7)) rfl, h_pre _ hE hk hX hA hI hR g⟩ rfl rfl hl.1 rfl (lv_room (Nat.le_of_ble_eq_true rfl)) dX2_findChance_92 ⟨Nat.le_of_ble_eq_true rfl, Nat.le_of_ble_eq_true rfl⟩) g.2.1 (fun q _ h => h) (fun q h => h) (fun uh13 t H1 locs ht hvm h13 hB hz1 hk1 hS => ?_)
          obtain ⟨I14, L15⟩ := uh13
          obtain ⟨hI, fh13, h13⟩ := h13
          replace g := h_after g hB ht hS
          generalize H1 = H at g
          clear hB hk1 hz1 ht hvm hS
          have hF := hF.call fh13 rfl
          have hS := g.2.1
          exact W.vret hx hb hr (fun t ht hW => ⟨⟨(I14, L15), rfl, ⟨hI, hF, trivial⟩, h_ret g ht⟩, hS.F ht⟩) hS.2.2 dX2_findChance_95
        · have ic9 := (xi_eq c9 h_k (by decide) : k_t = 0)
          refine lv_aload_n hx hb dX2_findChance_61 rfl (lv_at hl 1 rfl) ?_
          refine lv_aload_n hx hb dX2_findChance_62 rfl (lv_at hl 4 rfl) ?_
          refine lv_iload hx hb dX2_findChance_63 (lv_at hl 0 rfl) ?_
          refine vp_callSi (W.runV (As := [.int rh1]) (rest := [.ref a0]) ⟨hx, hb, hml, hown, hts⟩ (tX5_weight l E X A z I0 L3 n0 t_n0 rh1 (rh1.toInt) rfl) (cwV 1 hts gX2_findChance_X5_weight rfl rfl rfl (by decide +kernel) ⟨Nat.le_of_ble_eq_true rfl, Nat.le_of_ble_eq_true rfl⟩) ⟨h_blind _ _ _ _ _ _ _, h_recv g t_n0 (by decide) so_6 (q := (RX5, TX5, 3)) rfl, h_pre _ hE hk hX hA hI hR g⟩ rfl rfl hl.1 rfl (lv_room (Nat.le_of_ble_eq_true rfl)) dX2_findChance_65 ⟨Nat.le_of_ble_eq_true rfl, Nat.le_of_ble_eq_true rfl⟩) (fun rh16 h16 => ?_)
          have jrh16 : -2147483648 ≤ rh16.toInt ∧ rh16.toInt ≤ 2147483647 := ⟨xi_lo _, Int.le_of_lt_add_one (xi_hi _)⟩
          refine lv_i2l hx hb dX2_findChance_68 rfl ?_
          refine lv_topl (fun v17 ev17 => ?_)
          have jv17 : v17.toInt = rh16.toInt := by rw [ev17, xi_64]
          refine h_putL (ty := .long) (v := v17) hx hb hts iX2 tyX2 tyX2_ok nmX2 hown g t_a0 (by decide) so_3 rfl 5 (by decide) rfl (hts (.fieldLink RX2 60 "CapLeague$Draft" "chanceAbove" "J") (by decide +kernel)) rfl rfl (by decide +kernel) rfl rfl dX2_findChance_69 (fun L18 H locs eL18 g => ?_)
          refine lv_aload_n hx hb dX2_findChance_72 rfl (lv_at hl 1 rfl) ?_
          refine lv_aload_n hx hb dX2_findChance_73 rfl (lv_at hl 4 rfl) ?_
          refine vp_callSi (W.runV (As := []) (rest := [.ref a0]) ⟨hx, hb, hml, hown, hts⟩ (tX5_weightSum l E X A z I0 L18 n0 t_n0) (cwV 0 hts gX2_findChance_X5_weightSum rfl rfl rfl (by decide +kernel) ⟨Nat.le_of_ble_eq_true rfl, Nat.le_of_ble_eq_true rfl⟩) ⟨h_blind _ _ _ _ _ _ _, h_recv g t_n0 (by decide) so_6 (q := (RX5, TX5, 3)) rfl, h_pre _ hE hk hX hA hI hR g⟩ rfl rfl hl.1 rfl (lv_room (Nat.le_of_ble_eq_true rfl)) dX2_findChance_74 ⟨Nat.le_of_ble_eq_true rfl, Nat.le_of_ble_eq_true rfl⟩) (fun rh19 h19 => ?_)
          have jrh19 : -2147483648 ≤ rh19.toInt ∧ rh19.toInt ≤ 2147483647 := ⟨xi_lo _, Int.le_of_lt_add_one (xi_hi _)⟩
          refine lv_i2l hx hb dX2_findChance_77 rfl ?_
          refine lv_topl (fun v20 ev20 => ?_)
          have jv20 : v20.toInt = rh19.toInt := by rw [ev20, xi_64]
          refine h_putL (ty := .long) (v := v20) hx hb hts iX2 tyX2 tyX2_ok nmX2 hown g t_a0 (by decide) so_3 rfl 6 (by decide) rfl (hts (.fieldLink RX2 27 "CapLeague$Draft" "chanceBelow" "J") (by decide +kernel)) rfl rfl (by decide +kernel) rfl rfl dX2_findChance_78 (fun L21 H locs eL21 g => ?_)
          refine lv_goto (tgt := 91) hx hb dX2_findChance_81 (by decide) ?_
          refine lv_aload_n hx hb dX2_findChance_91 rfl (lv_at hl 1 rfl) ?_
          refine va_callv (va_runV (As := []) (rest := []) ⟨hx, hb, hml, hown, hts⟩ (tX2_cutFraction l E X A z I0 L21 a0 t_a0) (cwV 0 hts gX2_findChance_X2_cutFraction rfl rfl rfl (by decide +kernel) ⟨Nat.le_of_ble_eq_true rfl, Nat.le_of_ble_eq_true rfl⟩) ⟨h_blind _ _ _ _ _ _ _, h_recv g t_a0 (by decide) so_3 (q := (RX2, TX2, 7)) rfl, h_pre _ hE hk hX hA hI hR g⟩ rfl rfl hl.1 rfl (lv_room (Nat.le_of_ble_eq_true rfl)) dX2_findChance_92 ⟨Nat.le_of_ble_eq_true rfl, Nat.le_of_ble_eq_true rfl⟩) g.2.1 (fun q _ h => h) (fun q h => h) (fun uh22 t H1 locs ht hvm h22 hB hz1 hk1 hS => ?_)
          obtain ⟨I23, L24⟩ := uh22
          obtain ⟨hI, fh22, h22⟩ := h22
          replace g := h_after g hB ht hS
          generalize H1 = H at g
          clear hB hk1 hz1 ht hvm hS
          have hF := hF.call fh22 rfl
          have hS := g.2.1
          exact W.vret hx hb hr (fun t ht hW => ⟨⟨(I23, L24), rfl, ⟨hI, hF, trivial⟩, h_ret g ht⟩, hS.F ht⟩) hS.2.2 dX2_findChance_95
  · have ic5 := (xi_eq c5 rfl (by decide) : rh4.toInt = 0)
    refine lv_aload_n hx hb dX2_findChance_24 rfl (lv_at hl 1 rfl) ?_
    refine lv_iload hx hb dX2_findChance_25 (lv_at hl 0 rfl) ?_
    refine lv_iload_n hx hb dX2_findChance_27 rfl (lv_at hl 3 rfl) ?_
    refine lv_icmp_ne (tgt := 35) hx hb dX2_findChance_28 (by decide) (fun c25 => ?_) (fun c25 => ?_)
    · have ic25 := (xi_ne c25 rfl h_k : rh1.toInt ≠ k_t)
      refine lv_lconst (v := 0) hx hb dX2_findChance_35 (by decide) ?_
      refine h_putL (ty := .long) (v := 0) hx hb hts iX2 tyX2 tyX2_ok nmX2 hown g t_a0 (by decide) so_3 rfl 5 (by decide) rfl (hts (.fieldLink RX2 60 "CapLeague$Draft" "chanceAbove" "J") (by decide +kernel)) rfl rfl (by decide +kernel) rfl rfl dX2_findChance_36 (fun L26 H locs eL26 g => ?_)
      refine lv_goto (tgt := 95) hx hb dX2_findChance_39 (by decide) ?_
      have hS := g.2.1
      exact W.vret hx hb hr (fun t ht hW => ⟨⟨(I0, L26), rfl, ⟨hI, hF, trivial⟩, h_ret g ht⟩, hS.F ht⟩) hS.2.2 dX2_findChance_95
    · have ic25 := (xi_eq c25 rfl h_k : rh1.toInt = k_t)
      refine lv_lconst (v := 1) hx hb dX2_findChance_31 (by decide) ?_
      refine lv_goto (tgt := 36) hx hb dX2_findChance_32 (by decide) ?_
      refine h_putL (ty := .long) (v := 1) hx hb hts iX2 tyX2 tyX2_ok nmX2 hown g t_a0 (by decide) so_3 rfl 5 (by decide) rfl (hts (.fieldLink RX2 60 "CapLeague$Draft" "chanceAbove" "J") (by decide +kernel)) rfl rfl (by decide +kernel) rfl rfl dX2_findChance_36 (fun L27 H locs eL27 g => ?_)
      refine lv_goto (tgt := 95) hx hb dX2_findChance_39 (by decide) ?_
      have hS := g.2.1
      exact W.vret hx hb hr (fun t ht hW => ⟨⟨(I0, L27), rfl, ⟨hI, hF, trivial⟩, h_ret g ht⟩, hS.F ht⟩) hS.2.2 dX2_findChance_95
