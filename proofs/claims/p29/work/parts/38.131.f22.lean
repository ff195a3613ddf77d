set_option maxHeartbeats 4000000 in
set_option maxRecDepth 100000 in
theorem tX12_worthTurnF (l : Launch) (E : tE) (X : tX) (A : Nat → Prop) (z : tZ) (I0 : tI) (L0 : tL) (a0 : Nat) (t_a0 : z.ty a0 = 13) (c : Int32) (c_t : Int) (h_c : c.toInt = c_t) (o : Int32) (o_t : Int) (h_o : o.toInt = o_t) (y : Int32) (y_t : Int) (h_y : y.toInt = y_t) (n : Int32) (n_t : Int) (h_n : n.toInt = n_t) : Met l yX12_worthTurn wsX12_worthTurn ({ frames := 3, cells := 0, slots := 0, locals := 192 }) (va_Pc [.ref a0, .int c, .int o, .int y, .int n] (h_P E X A z I0 L0)) (va_Qi (fun r (I1 : tI) => h_I z I1 ∧ h_F [(1338, 999)] z I0 I1 ∧ ((¬ (0 ≤ c_t ∧ c_t ≤ 7 ∧ 0 ≤ o_t ∧ o_t ≤ 7 ∧ 0 ≤ y_t ∧ y_t ≤ 9 ∧ 0 ≤ n_t ∧ n_t ≤ 9999) ∧ r.toInt = -2 ∧ ∀ k : Nat, I1 (h_ad z a0 38) k = I0 (h_ad z a0 38) k) ∨ ((0 ≤ c_t ∧ c_t ≤ 7 ∧ 0 ≤ o_t ∧ o_t ≤ 7 ∧ 0 ≤ y_t ∧ y_t ≤ 9 ∧ 0 ≤ n_t ∧ n_t ≤ 9999) ∧ r = I0 (h_ad z a0 38) (140 * c_t + 60 + 10 * o_t + y_t).toNat ∧ I1 (h_ad z a0 38) (140 * c_t + 60 + 10 * o_t + y_t).toNat = n ∧ ∀ k : Nat, k ≠ (140 * c_t + 60 + 10 * o_t + y_t).toNat → I1 (h_ad z a0 38) k = I0 (h_ad z a0 38) k))) (fun (I1 : tI) t => h_B E A z I1 L0 t) A) 0 0 A := by
  refine Met.ofW (cc := cX12_worthTurn) (maxL := 7) (ret := (some .int)) (by decide) rfl ?_
  intro pr_ ev_ s m args below meth cd_ s₁ B hml hv
  obtain ⟨rfl, hE, hk, hX, hA, hK, hI, hR, hB0⟩ := hv
  have g : h_G h_so h_fk E A z I0 L0 s s.heap s.heap [] := ⟨hK, va_S.rf, hB0⟩
  have hF : h_F [(1338, 999)] z I0 I0 := h_F.rf
  have hx := B.exec
  have hb := B.bytes
  have hr := B.returns
  have hts := atoms_spec (ws := wsX12_worthTurn) B.pre
  have hown : s.vm.findClass RX12 = some m.cls := findClass_of_methodNamed B.named
  have hlocks := B.notSynchronized
  have iX12 : ∀ w ∈ u_ws RX12 TX12 51, w ∈ wsX12_worthTurn := by decide +kernel
  have hl := lv_entry ([.ref a0, .int c, .int o, .int y, .int n]) (n := 7) (Nat.le_of_ble_eq_true rfl)
  rw [lg_entry_eq]
  generalize (lg_sl ([.ref a0, .int c, .int o, .int y, .int n]) ++ List.replicate (7 - (lg_sl ([.ref a0, .int c, .int o, .int y, .int n])).length) Slot.unset).toArray = ls at hl ⊢
  have hl : lv_has ls 7 [(0, .ref a0), (1, .int c), (2, .int o), (3, .int y), (4, .int n)] := hl
  have b_c : -2147483648 ≤ c_t ∧ c_t ≤ 2147483647 := h_c ▸ ⟨xi_lo c, Int.le_of_lt_add_one (xi_hi c)⟩
  have b_o : -2147483648 ≤ o_t ∧ o_t ≤ 2147483647 := h_o ▸ ⟨xi_lo o, Int.le_of_lt_add_one (xi_hi o)⟩
  have b_y : -2147483648 ≤ y_t ∧ y_t ≤ 2147483647 := h_y ▸ ⟨xi_lo y, Int.le_of_lt_add_one (xi_hi y)⟩
  have b_n : -2147483648 ≤ n_t ∧ n_t ≤ 2147483647 := h_n ▸ ⟨xi_lo n, Int.le_of_lt_add_one (xi_hi n)⟩
  obtain ⟨ww, rww, tww⟩ := hR.at a0 38 t_a0 (rfl : h_rs 13 38 = some (1338, false)) (by decide)
  have aww : h_ad z a0 38 = ww := h_ad.at rww
  refine lv_iload_n hx hb dX12_worthTurn_0 rfl (lv_at hl 1 rfl) ?_
  refine vp_callSi (W.runS (As := [.int c]) (rest := []) ⟨hx, hb, hml, hown, hts⟩ (tX12_isClub l E X A z I0 L0 c (c_t) h_c) (va_cwS 1 hts gX12_worthTurn_X12_isClub rfl rfl rfl (by decide +kernel) ⟨Nat.le_of_ble_eq_true rfl, Nat.le_of_ble_eq_true rfl⟩) ⟨h_blind _ _ _ _ _ _ _, h_pre _ hE hk hX hA hI hR g⟩ rfl rfl hl.1 rfl (lv_room (Nat.le_of_ble_eq_true rfl)) dX12_worthTurn_1 ⟨Nat.le_of_ble_eq_true rfl, Nat.le_of_ble_eq_true rfl⟩) (fun rh1 h1 => ?_)
  rcases h1 with ⟨rfl, h1⟩ | ⟨rfl, h1⟩
  · skip
    refine lv_if_eq (tgt := 39) hx hb dX12_worthTurn_4 (by decide) (fun _ => ?_) (fun h => absurd (by decide) h)
    refine lv_bipush (v := (-2)) hx hb dX12_worthTurn_39 (by decide) ?_
    have hS := g.2.1
    exact W.iret (v := (-2)) hx hb hr (fun t ht hW => ⟨⟨(-2), I0, rfl, ⟨hI, hF, (by rw [aww]; exact Or.inl ⟨by omega, by decide, fun k => rfl⟩)⟩, h_ret g ht⟩, hS.F ht⟩) hS.2.2 dX12_worthTurn_41
  · skip
    refine lv_if_eq (tgt := 39) hx hb dX12_worthTurn_4 (by decide) (fun h => absurd h (by decide)) (fun _ => ?_)
    refine lv_iload_n hx hb dX12_worthTurn_7 rfl (lv_at hl 2 rfl) ?_
    refine vp_callSi (W.runS (As := [.int o]) (rest := []) ⟨hx, hb, hml, hown, hts⟩ (tX12_isClub l E X A z I0 L0 o (o_t) h_o) (va_cwS 1 hts gX12_worthTurn_X12_isClub rfl rfl rfl (by decide +kernel) ⟨Nat.le_of_ble_eq_true rfl, Nat.le_of_ble_eq_true rfl⟩) ⟨h_blind _ _ _ _ _ _ _, h_pre _ hE hk hX hA hI hR g⟩ rfl rfl hl.1 rfl (lv_room (Nat.le_of_ble_eq_true rfl)) dX12_worthTurn_8 ⟨Nat.le_of_ble_eq_true rfl, Nat.le_of_ble_eq_true rfl⟩) (fun rh4 h4 => ?_)
    rcases h4 with ⟨rfl, h4⟩ | ⟨rfl, h4⟩
    · skip
      refine lv_if_eq (tgt := 39) hx hb dX12_worthTurn_11 (by decide) (fun _ => ?_) (fun h => absurd (by decide) h)
      refine lv_bipush (v := (-2)) hx hb dX12_worthTurn_39 (by decide) ?_
      have hS := g.2.1
      exact W.iret (v := (-2)) hx hb hr (fun t ht hW => ⟨⟨(-2), I0, rfl, ⟨hI, hF, (by rw [aww]; exact Or.inl ⟨by omega, by decide, fun k => rfl⟩)⟩, h_ret g ht⟩, hS.F ht⟩) hS.2.2 dX12_worthTurn_41
    · skip
      refine lv_if_eq (tgt := 39) hx hb dX12_worthTurn_11 (by decide) (fun h => absurd h (by decide)) (fun _ => ?_)
      refine lv_iload_n hx hb dX12_worthTurn_14 rfl (lv_at hl 3 rfl) ?_
      refine lv_i2l hx hb dX12_worthTurn_15 rfl ?_
      refine lv_topl (fun v7 ev7 => ?_)
      have jv7 : v7.toInt = y_t := by rw [ev7, xi_64]; exact h_y
      refine lv_lconst (v := 0) hx hb dX12_worthTurn_16 (by decide) ?_
      refine lv_ldc2 (v := 9) hx hb hown (hts (.constantLong RX12 190 (9)) (by decide +kernel)) dX12_worthTurn_17 ?_
      refine vp_callSi (W.runS (As := [.long v7, .long 0, .long 9]) (rest := []) ⟨hx, hb, hml, hown, hts⟩ (tX12_in l E X A z I0 L0 v7 (y_t) jv7 0 (0) (by decide) 9 (9) (by decide)) (va_cwS 3 hts gX12_worthTurn_X12_in rfl rfl rfl (by decide +kernel) ⟨Nat.le_of_ble_eq_true rfl, Nat.le_of_ble_eq_true rfl⟩) ⟨h_blind _ _ _ _ _ _ _, h_pre _ hE hk hX hA hI hR g⟩ rfl rfl hl.1 rfl (lv_room (Nat.le_of_ble_eq_true rfl)) dX12_worthTurn_20 ⟨Nat.le_of_ble_eq_true rfl, Nat.le_of_ble_eq_true rfl⟩) (fun rh8 h8 => ?_)
      rcases h8 with ⟨rfl, h8⟩ | ⟨rfl, h8⟩
      · skip
        refine lv_if_eq (tgt := 39) hx hb dX12_worthTurn_23 (by decide) (fun _ => ?_) (fun h => absurd (by decide) h)
        refine lv_bipush (v := (-2)) hx hb dX12_worthTurn_39 (by decide) ?_
        have hS := g.2.1
        exact W.iret (v := (-2)) hx hb hr (fun t ht hW => ⟨⟨(-2), I0, rfl, ⟨hI, hF, (by rw [aww]; exact Or.inl ⟨by omega, by decide, fun k => rfl⟩)⟩, h_ret g ht⟩, hS.F ht⟩) hS.2.2 dX12_worthTurn_41
      · skip
        refine lv_if_eq (tgt := 39) hx hb dX12_worthTurn_23 (by decide) (fun h => absurd h (by decide)) (fun _ => ?_)
        refine lv_iload hx hb dX12_worthTurn_26 (lv_at hl 4 rfl) ?_
        refine lv_i2l hx hb dX12_worthTurn_28 rfl ?_
        refine lv_topl (fun v11 ev11 => ?_)
        have jv11 : v11.toInt = n_t := by rw [ev11, xi_64]; exact h_n
        refine lv_lconst (v := 0) hx hb dX12_worthTurn_29 (by decide) ?_
        refine lv_ldc2 (v := 9999) hx hb hown (hts (.constantLong RX12 278 (9999)) (by decide +kernel)) dX12_worthTurn_30 ?_
        refine vp_callSi (W.runS (As := [.long v11, .long 0, .long 9999]) (rest := []) ⟨hx, hb, hml, hown, hts⟩ (tX12_in l E X A z I0 L0 v11 (n_t) jv11 0 (0) (by decide) 9999 (9999) (by decide)) (va_cwS 3 hts gX12_worthTurn_X12_in rfl rfl rfl (by decide +kernel) ⟨Nat.le_of_ble_eq_true rfl, Nat.le_of_ble_eq_true rfl⟩) ⟨h_blind _ _ _ _ _ _ _, h_pre _ hE hk hX hA hI hR g⟩ rfl rfl hl.1 rfl (lv_room (Nat.le_of_ble_eq_true rfl)) dX12_worthTurn_33 ⟨Nat.le_of_ble_eq_true rfl, Nat.le_of_ble_eq_true rfl⟩) (fun rh12 h12 => ?_)
        rcases h12 with ⟨rfl, h12⟩ | ⟨rfl, h12⟩
        · skip
          refine lv_if_ne (tgt := 42) hx hb dX12_worthTurn_36 (by decide) (fun h => absurd (by decide) h) (fun _ => ?_)
          refine lv_bipush (v := (-2)) hx hb dX12_worthTurn_39 (by decide) ?_
          have hS := g.2.1
          exact W.iret (v := (-2)) hx hb hr (fun t ht hW => ⟨⟨(-2), I0, rfl, ⟨hI, hF, (by rw [aww]; exact Or.inl ⟨by omega, by decide, fun k => rfl⟩)⟩, h_ret g ht⟩, hS.F ht⟩) hS.2.2 dX12_worthTurn_41
        · skip
          refine lv_if_ne (tgt := 42) hx hb dX12_worthTurn_36 (by decide) (fun _ => ?_) (fun h => absurd h (by decide))
          refine lv_sipush (v := 140) hx hb dX12_worthTurn_42 (by decide) ?_
          refine lv_iload_n hx hb dX12_worthTurn_45 rfl (lv_at hl 1 rfl) ?_
          refine lv_imul hx hb dX12_worthTurn_46 ?_
          refine lv_topi (fun v15 ev15 => ?_)
          have jv15 : v15.toInt = 140 * c_t := xi_mul ev15 (by decide) h_c (by omega) (by omega)
          refine lv_bipush (v := 60) hx hb dX12_worthTurn_47 (by decide) ?_
          refine lv_iadd hx hb dX12_worthTurn_49 ?_
          refine lv_topi (fun v16 ev16 => ?_)
          have jv16 : v16.toInt = v15.toInt + 60 := xi_add ev16 rfl (by decide) (by omega) (by omega)
          refine lv_bipush (v := 10) hx hb dX12_worthTurn_50 (by decide) ?_
          refine lv_iload_n hx hb dX12_worthTurn_52 rfl (lv_at hl 2 rfl) ?_
          refine lv_imul hx hb dX12_worthTurn_53 ?_
          refine lv_topi (fun v17 ev17 => ?_)
          have jv17 : v17.toInt = 10 * o_t := xi_mul ev17 (by decide) h_o (by omega) (by omega)
          refine lv_iadd hx hb dX12_worthTurn_54 ?_
          refine lv_topi (fun v18 ev18 => ?_)
          have jv18 : v18.toInt = v16.toInt + v17.toInt := xi_add ev18 rfl rfl (by omega) (by omega)
          refine lv_iload_n hx hb dX12_worthTurn_55 rfl (lv_at hl 3 rfl) ?_
          refine lv_iadd hx hb dX12_worthTurn_56 ?_
          refine lv_topi (fun v19 ev19 => ?_)
          have jv19 : v19.toInt = v18.toInt + y_t := xi_add ev19 rfl h_y (by omega) (by omega)
          refine lv_istore (lv' := [(5, .int v19), (0, .ref a0), (1, .int c), (2, .int o), (3, .int y), (4, .int n)]) hx hb dX12_worthTurn_57 hl (by decide) rfl (fun ls hl => ?_)
          refine lv_aload_n hx hb dX12_worthTurn_59 rfl (lv_at hl 1 rfl) ?_
          refine h_get (v := .ref ww) hx hb hts iX12 hown g t_a0 (by decide) so_13 rfl 38 (by decide) (hts (.fieldLink RX12 88 "CapLeagueModel" "worths" "[I") (by decide +kernel)) rfl dX12_worthTurn_60 (by show va_rf (z.R a0 38) = _; rw [rww]; rfl) ?_
          refine lv_iload hx hb dX12_worthTurn_63 (lv_at hl 0 rfl) ?_
          refine h_ald hx hb g tww (by decide) so_1338 (xi_in (by omega) (by omega)) dX12_worthTurn_65 ?_
          refine lv_topi (fun v20 ev20 => ?_)
          have jv20 := hI.rd ww v19.toNatClampNeg tww ev20 (rfl : h_bd 1338 _ = ((-2147483648), 2147483647))
          refine lv_istore (lv' := [(6, .int v20), (5, .int v19), (0, .ref a0), (1, .int c), (2, .int o), (3, .int y), (4, .int n)]) hx hb dX12_worthTurn_66 hl (by decide) rfl (fun ls hl => ?_)
          refine lv_aload_n hx hb dX12_worthTurn_68 rfl (lv_at hl 2 rfl) ?_
          refine h_get (v := .ref ww) hx hb hts iX12 hown g t_a0 (by decide) so_13 rfl 38 (by decide) (hts (.fieldLink RX12 88 "CapLeagueModel" "worths" "[I") (by decide +kernel)) rfl dX12_worthTurn_69 (by show va_rf (z.R a0 38) = _; rw [rww]; rfl) ?_
          refine lv_iload hx hb dX12_worthTurn_72 (lv_at hl 1 rfl) ?_
          refine lv_iload hx hb dX12_worthTurn_74 (lv_at hl 6 rfl) ?_
          refine h_ast hx hb g tww (by decide) so_1338 (xi_in (by omega) (by omega)) dX12_worthTurn_76 (fun I21 H locs eI21 g => ?_)
          have hI := hI.wr eI21 tww (rfl : h_bd 1338 _ = ((-2147483648), 2147483647)) (xi_lo _) (Int.le_of_lt_add_one (xi_hi _))
          have hF := hF.wr eI21 tww rfl
          refine lv_iload hx hb dX12_worthTurn_77 (lv_at hl 0 rfl) ?_
          have hS := g.2.1
          exact W.iret (v := v20) hx hb hr (fun t ht hW => ⟨⟨v20, I21, rfl, ⟨hI, hF, (by rw [aww]; have ei : v19.toNatClampNeg = (140 * c_t + 60 + 10 * o_t + y_t).toNat := h_keq (t := v19.toInt) rfl (by omega) (by omega); rw [ei] at ev20 eI21; exact Or.inr ⟨by omega, ev20, h_n0 eI21, fun k hk => h_n2 eI21 hk⟩)⟩, h_ret g ht⟩, hS.F ht⟩) hS.2.2 dX12_worthTurn_79
set_option maxHeartbeats 4000000 in
set_option maxRecDepth 100000 in
theorem tX12_isPlayerF (l : Launch) (E : tE) (X : tX) (A : Nat → Prop) (z : tZ) (I0 : tI) (L0 : tL) (a0 : Nat) (t_a0 : z.ty a0 = 13) (p : Int32) (p_t : Int) (h_p : p.toInt = p_t) : Met l yX12_isPlayer wsX12_isPlayer ({ frames := 2, cells := 0, slots := 0, locals := 128 }) (va_Pc [.ref a0, .int p] (h_P E X A z I0 L0)) (vp_Si (fun r => ((r = 0 ∧ ¬ (0 ≤ p_t ∧ p_t < (I0 a0 13).toInt)) ∨ (r = 1 ∧ 0 ≤ p_t ∧ p_t ≤ 59 ∧ p_t < (I0 a0 13).toInt)))) 0 0 (fun _ => False) := by
  refine Met.ofW (cc := cX12_isPlayer) (maxL := 2) (ret := (some .boolean)) (by decide) rfl ?_
  intro pr_ ev_ s m args below meth cd_ s₁ B hml hv
  obtain ⟨rfl, hE, hk, hX, hA, hK, hI, hR, hB0⟩ := hv
  have g : h_G h_so h_fk E A z I0 L0 s s.heap s.heap [] := ⟨hK, va_S.rf, hB0⟩
  have hx := B.exec
  have hb := B.bytes
  have hr := B.returns
  have hts := atoms_spec (ws := wsX12_isPlayer) B.pre
  have hown : s.vm.findClass RX12 = some m.cls := findClass_of_methodNamed B.named
  have hlocks := B.notSynchronized
  have iX12 : ∀ w ∈ u_ws RX12 TX12 51, w ∈ wsX12_isPlayer := by decide +kernel
  have hl := lv_entry ([.ref a0, .int p]) (n := 2) (Nat.le_of_ble_eq_true rfl)
  rw [lg_entry_eq]
  generalize (lg_sl ([.ref a0, .int p]) ++ List.replicate (2 - (lg_sl ([.ref a0, .int p])).length) Slot.unset).toArray = ls at hl ⊢
  have hl : lv_has ls 2 [(0, .ref a0), (1, .int p)] := hl
  have b_p : -2147483648 ≤ p_t ∧ p_t ≤ 2147483647 := h_p ▸ ⟨xi_lo p, Int.le_of_lt_add_one (xi_hi p)⟩
  obtain ⟨f0_13, ef0_13⟩ : ∃ v : Int32, v = I0 a0 13 := ⟨_, rfl⟩
  have qf0_13 : (I0 a0 13).toInt = f0_13.toInt := congrArg Int32.toInt ef0_13.symm
  have jf0_13 := hI.rd a0 13 t_a0 ef0_13 (rfl : h_bd 13 13 = (0, 60))
  refine lv_iload_n hx hb dX12_isPlayer_0 rfl (lv_at hl 1 rfl) ?_
  refine lv_i2l hx hb dX12_isPlayer_1 rfl ?_
  refine lv_topl (fun v1 ev1 => ?_)
  have jv1 : v1.toInt = p_t := by rw [ev1, xi_64]; exact h_p
  refine lv_lconst (v := 0) hx hb dX12_isPlayer_2 (by decide) ?_
  refine lv_aload_n hx hb dX12_isPlayer_3 rfl (lv_at hl 0 rfl) ?_
  refine h_get (v := .int f0_13) hx hb hts iX12 hown g t_a0 (by decide) so_13 rfl 13 (by decide) (hts (.fieldLink RX12 202 "CapLeagueModel" "players" "I") (by decide +kernel)) rfl dX12_isPlayer_4 (congrArg Value.int (ef0_13.symm)) ?_
  refine lv_iconst (v := 1) hx hb dX12_isPlayer_7 (by decide) ?_
  refine lv_isub hx hb dX12_isPlayer_8 ?_
  refine lv_topi (fun v2 ev2 => ?_)
  have jv2 : v2.toInt = f0_13.toInt - 1 := xi_sub ev2 rfl (by decide) (by omega) (by omega)
  refine lv_i2l hx hb dX12_isPlayer_9 rfl ?_
  refine lv_topl (fun v3 ev3 => ?_)
  have jv3 : v3.toInt = v2.toInt := by rw [ev3, xi_64]
  refine vp_callSi (W.runS (As := [.long v1, .long 0, .long v3]) (rest := []) ⟨hx, hb, hml, hown, hts⟩ (tX12_in l E X A z I0 L0 v1 (p_t) jv1 0 (0) (by decide) v3 (v2.toInt) jv3) (va_cwS 3 hts gX12_isPlayer_X12_in rfl rfl rfl (by decide +kernel) ⟨Nat.le_of_ble_eq_true rfl, Nat.le_of_ble_eq_true rfl⟩) ⟨h_blind _ _ _ _ _ _ _, h_pre _ hE hk hX hA hI hR g⟩ rfl rfl hl.1 rfl (lv_room (Nat.le_of_ble_eq_true rfl)) dX12_isPlayer_10 ⟨Nat.le_of_ble_eq_true rfl, Nat.le_of_ble_eq_true rfl⟩) (fun rh4 h4 => ?_)
  rcases h4 with ⟨rfl, h4⟩ | ⟨rfl, h4⟩
  · skip
    exact W.zret (v := 0) hx hb hr (by decide) (fun t ht hW => ⟨0, rfl, (by exact Or.inl ⟨rfl, by omega⟩), ht⟩) (fun _ h => by cases h) dX12_isPlayer_13
  · skip
    exact W.zret (v := 1) hx hb hr (by decide) (fun t ht hW => ⟨1, rfl, (by exact Or.inr (⟨rfl, by omega⟩)), ht⟩) (fun _ h => by cases h) dX12_isPlayer_13
set_option maxHeartbeats 4000000 in
set_option maxRecDepth 100000 in
theorem tX12_worthF (l : Launch) (E : tE) (X : tX) (A : Nat → Prop) (z : tZ) (I0 : tI) (L0 : tL) (a0 : Nat) (t_a0 : z.ty a0 = 13) (c : Int32) (c_t : Int) (h_c : c.toInt = c_t) (p : Int32) (p_t : Int) (h_p : p.toInt = p_t) (n : Int32) (n_t : Int) (h_n : n.toInt = n_t) : Met l yX12_worth wsX12_worth ({ frames := 3, cells := 0, slots := 0, locals := 192 }) (va_Pc [.ref a0, .int c, .int p, .int n] (h_P E X A z I0 L0)) (va_Qi (fun r (I1 : tI) => h_I z I1 ∧ h_F [(1338, 999)] z I0 I1 ∧ ((¬ (0 ≤ c_t ∧ c_t ≤ 7 ∧ 0 ≤ p_t ∧ p_t ≤ 59 ∧ p_t < (I0 a0 13).toInt ∧ 0 ≤ n_t ∧ n_t ≤ 9999) ∧ r.toInt = -2 ∧ ∀ k : Nat, I1 (h_ad z a0 38) k = I0 (h_ad z a0 38) k) ∨ ((0 ≤ c_t ∧ c_t ≤ 7 ∧ 0 ≤ p_t ∧ p_t ≤ 59 ∧ p_t < (I0 a0 13).toInt ∧ 0 ≤ n_t ∧ n_t ≤ 9999) ∧ r = I0 (h_ad z a0 38) (140 * c_t + p_t).toNat ∧ I1 (h_ad z a0 38) (140 * c_t + p_t).toNat = n ∧ ∀ k : Nat, k ≠ (140 * c_t + p_t).toNat → I1 (h_ad z a0 38) k = I0 (h_ad z a0 38) k))) (fun (I1 : tI) t => h_B E A z I1 L0 t) A) 0 0 A := by
  refine Met.ofW (cc := cX12_worth) (maxL := 5) (ret := (some .int)) (by decide) rfl ?_
  intro pr_ ev_ s m args below meth cd_ s₁ B hml hv
  obtain ⟨rfl, hE, hk, hX, hA, hK, hI, hR, hB0⟩ := hv
  have g : h_G h_so h_fk E A z I0 L0 s s.heap s.heap [] := ⟨hK, va_S.rf, hB0⟩
  have hF : h_F [(1338, 999)] z I0 I0 := h_F.rf
  have hx := B.exec
  have hb := B.bytes
  have hr := B.returns
  have hts := atoms_spec (ws := wsX12_worth) B.pre
  have hown : s.vm.findClass RX12 = some m.cls := findClass_of_methodNamed B.named
  have hlocks := B.notSynchronized
  have iX12 : ∀ w ∈ u_ws RX12 TX12 51, w ∈ wsX12_worth := by decide +kernel
  have hl := lv_entry ([.ref a0, .int c, .int p, .int n]) (n := 5) (Nat.le_of_ble_eq_true rfl)
  rw [lg_entry_eq]
  generalize (lg_sl ([.ref a0, .int c, .int p, .int n]) ++ List.replicate (5 - (lg_sl ([.ref a0, .int c, .int p, .int n])).length) Slot.unset).toArray = ls at hl ⊢
  have hl : lv_has ls 5 [(0, .ref a0), (1, .int c), (2, .int p), (3, .int n)] := hl
  have b_c : -2147483648 ≤ c_t ∧ c_t ≤ 2147483647 := h_c ▸ ⟨xi_lo c, Int.le_of_lt_add_one (xi_hi c)⟩
  have b_p : -2147483648 ≤ p_t ∧ p_t ≤ 2147483647 := h_p ▸ ⟨xi_lo p, Int.le_of_lt_add_one (xi_hi p)⟩
  have b_n : -2147483648 ≤ n_t ∧ n_t ≤ 2147483647 := h_n ▸ ⟨xi_lo n, Int.le_of_lt_add_one (xi_hi n)⟩
  obtain ⟨ww, rww, tww⟩ := hR.at a0 38 t_a0 (rfl : h_rs 13 38 = some (1338, false)) (by decide)
  have aww : h_ad z a0 38 = ww := h_ad.at rww
  refine lv_iload_n hx hb dX12_worth_0 rfl (lv_at hl 1 rfl) ?_
  refine vp_callSi (W.runS (As := [.int c]) (rest := []) ⟨hx, hb, hml, hown, hts⟩ (tX12_isClub l E X A z I0 L0 c (c_t) h_c) (va_cwS 1 hts gX12_worth_X12_isClub rfl rfl rfl (by decide +kernel) ⟨Nat.le_of_ble_eq_true rfl, Nat.le_of_ble_eq_true rfl⟩) ⟨h_blind _ _ _ _ _ _ _, h_pre _ hE hk hX hA hI hR g⟩ rfl rfl hl.1 rfl (lv_room (Nat.le_of_ble_eq_true rfl)) dX12_worth_1 ⟨Nat.le_of_ble_eq_true rfl, Nat.le_of_ble_eq_true rfl⟩) (fun rh1 h1 => ?_)
  rcases h1 with ⟨rfl, h1⟩ | ⟨rfl, h1⟩
  · skip
    refine lv_if_eq (tgt := 27) hx hb dX12_worth_4 (by decide) (fun _ => ?_) (fun h => absurd (by decide) h)
    refine lv_bipush (v := (-2)) hx hb dX12_worth_27 (by decide) ?_
    have hS := g.2.1
    exact W.iret (v := (-2)) hx hb hr (fun t ht hW => ⟨⟨(-2), I0, rfl, ⟨hI, hF, (by rw [aww]; exact Or.inl ⟨by omega, by decide, fun k => rfl⟩)⟩, h_ret g ht⟩, hS.F ht⟩) hS.2.2 dX12_worth_29
  · skip
    refine lv_if_eq (tgt := 27) hx hb dX12_worth_4 (by decide) (fun h => absurd h (by decide)) (fun _ => ?_)
    refine lv_aload_n hx hb dX12_worth_7 rfl (lv_at hl 0 rfl) ?_
    refine lv_iload_n hx hb dX12_worth_8 rfl (lv_at hl 2 rfl) ?_
    refine vp_callSi (W.runV (As := [.int p]) (rest := []) ⟨hx, hb, hml, hown, hts⟩ (tX12_isPlayerF l E X A z I0 L0 a0 t_a0 p (p_t) h_p) (cwV 1 hts gX12_worth_X12_isPlayer rfl rfl rfl (by decide +kernel) ⟨Nat.le_of_ble_eq_true rfl, Nat.le_of_ble_eq_true rfl⟩) ⟨h_blind _ _ _ _ _ _ _, h_recv g t_a0 (by decide) so_13 (q := (RX12, TX12, 51)) rfl, h_pre _ hE hk hX hA hI hR g⟩ rfl rfl hl.1 rfl (lv_room (Nat.le_of_ble_eq_true rfl)) dX12_worth_9 ⟨Nat.le_of_ble_eq_true rfl, Nat.le_of_ble_eq_true rfl⟩) (fun rh4 h4 => ?_)
    rcases h4 with ⟨rfl, h4⟩ | ⟨rfl, h4⟩
    · skip
      refine lv_if_eq (tgt := 27) hx hb dX12_worth_12 (by decide) (fun _ => ?_) (fun h => absurd (by decide) h)
      refine lv_bipush (v := (-2)) hx hb dX12_worth_27 (by decide) ?_
      have hS := g.2.1
      exact W.iret (v := (-2)) hx hb hr (fun t ht hW => ⟨⟨(-2), I0, rfl, ⟨hI, hF, (by rw [aww]; exact Or.inl ⟨by omega, by decide, fun k => rfl⟩)⟩, h_ret g ht⟩, hS.F ht⟩) hS.2.2 dX12_worth_29
    · skip
      refine lv_if_eq (tgt := 27) hx hb dX12_worth_12 (by decide) (fun h => absurd h (by decide)) (fun _ => ?_)
      refine lv_iload_n hx hb dX12_worth_15 rfl (lv_at hl 3 rfl) ?_
      refine lv_i2l hx hb dX12_worth_16 rfl ?_
      refine lv_topl (fun v7 ev7 => ?_)
      have jv7 : v7.toInt = n_t := by rw [ev7, xi_64]; exact h_n
      refine lv_lconst (v := 0) hx hb dX12_worth_17 (by decide) ?_
      refine lv_ldc2 (v := 9999) hx hb hown (hts (.constantLong RX12 278 (9999)) (by decide +kernel)) dX12_worth_18 ?_
      refine vp_callSi (W.runS (As := [.long v7, .long 0, .long 9999]) (rest := []) ⟨hx, hb, hml, hown, hts⟩ (tX12_in l E X A z I0 L0 v7 (n_t) jv7 0 (0) (by decide) 9999 (9999) (by decide)) (va_cwS 3 hts gX12_worth_X12_in rfl rfl rfl (by decide +kernel) ⟨Nat.le_of_ble_eq_true rfl, Nat.le_of_ble_eq_true rfl⟩) ⟨h_blind _ _ _ _ _ _ _, h_pre _ hE hk hX hA hI hR g⟩ rfl rfl hl.1 rfl (lv_room (Nat.le_of_ble_eq_true rfl)) dX12_worth_21 ⟨Nat.le_of_ble_eq_true rfl, Nat.le_of_ble_eq_true rfl⟩) (fun rh8 h8 => ?_)
      rcases h8 with ⟨rfl, h8⟩ | ⟨rfl, h8⟩
      · skip
        refine lv_if_ne (tgt := 30) hx hb dX12_worth_24 (by decide) (fun h => absurd (by decide) h) (fun _ => ?_)
        refine lv_bipush (v := (-2)) hx hb dX12_worth_27 (by decide) ?_
        have hS := g.2.1
        exact W.iret (v := (-2)) hx hb hr (fun t ht hW => ⟨⟨(-2), I0, rfl, ⟨hI, hF, (by rw [aww]; exact Or.inl ⟨by omega, by decide, fun k => rfl⟩)⟩, h_ret g ht⟩, hS.F ht⟩) hS.2.2 dX12_worth_29
      · skip
        refine lv_if_ne (tgt := 30) hx hb dX12_worth_24 (by decide) (fun _ => ?_) (fun h => absurd h (by decide))
        refine lv_aload_n hx hb dX12_worth_30 rfl (lv_at hl 0 rfl) ?_
        refine h_get (v := .ref ww) hx hb hts iX12 hown g t_a0 (by decide) so_13 rfl 38 (by decide) (hts (.fieldLink RX12 88 "CapLeagueModel" "worths" "[I") (by decide +kernel)) rfl dX12_worth_31 (by show va_rf (z.R a0 38) = _; rw [rww]; rfl) ?_
        refine lv_sipush (v := 140) hx hb dX12_worth_34 (by decide) ?_
        refine lv_iload_n hx hb dX12_worth_37 rfl (lv_at hl 1 rfl) ?_
        refine lv_imul hx hb dX12_worth_38 ?_
        refine lv_topi (fun v11 ev11 => ?_)
        have jv11 : v11.toInt = 140 * c_t := xi_mul ev11 (by decide) h_c (by omega) (by omega)
        refine lv_iload_n hx hb dX12_worth_39 rfl (lv_at hl 2 rfl) ?_
        refine lv_iadd hx hb dX12_worth_40 ?_
        refine lv_topi (fun v12 ev12 => ?_)
        have jv12 : v12.toInt = v11.toInt + p_t := xi_add ev12 rfl h_p (by omega) (by omega)
        refine h_ald hx hb g tww (by decide) so_1338 (xi_in (by omega) (by omega)) dX12_worth_41 ?_
        refine lv_topi (fun v13 ev13 => ?_)
        have jv13 := hI.rd ww v12.toNatClampNeg tww ev13 (rfl : h_bd 1338 _ = ((-2147483648), 2147483647))
        refine lv_istore (lv' := [(4, .int v13), (0, .ref a0), (1, .int c), (2, .int p), (3, .int n)]) hx hb dX12_worth_42 hl (by decide) rfl (fun ls hl => ?_)
        refine lv_aload_n hx hb dX12_worth_44 rfl (lv_at hl 1 rfl) ?_
        refine h_get (v := .ref ww) hx hb hts iX12 hown g t_a0 (by decide) so_13 rfl 38 (by decide) (hts (.fieldLink RX12 88 "CapLeagueModel" "worths" "[I") (by decide +kernel)) rfl dX12_worth_45 (by show va_rf (z.R a0 38) = _; rw [rww]; rfl) ?_
        refine lv_sipush (v := 140) hx hb dX12_worth_48 (by decide) ?_
        refine lv_iload_n hx hb dX12_worth_51 rfl (lv_at hl 2 rfl) ?_
        refine lv_imul hx hb dX12_worth_52 ?_
        refine xw_i (v := v11) ev11.symm ?_
        refine lv_iload_n hx hb dX12_worth_53 rfl (lv_at hl 3 rfl) ?_
        refine lv_iadd hx hb dX12_worth_54 ?_
        refine xw_i (v := v12) ev12.symm ?_
        refine lv_iload_n hx hb dX12_worth_55 rfl (lv_at hl 4 rfl) ?_
        refine h_ast hx hb g tww (by decide) so_1338 (xi_in (by omega) (by omega)) dX12_worth_56 (fun I14 H locs eI14 g => ?_)
        have hI := hI.wr eI14 tww (rfl : h_bd 1338 _ = ((-2147483648), 2147483647)) (xi_lo _) (Int.le_of_lt_add_one (xi_hi _))
        have hF := hF.wr eI14 tww rfl
        refine lv_iload hx hb dX12_worth_57 (lv_at hl 0 rfl) ?_
        have hS := g.2.1
        exact W.iret (v := v13) hx hb hr (fun t ht hW => ⟨⟨v13, I14, rfl, ⟨hI, hF, (by rw [aww]; have ei : v12.toNatClampNeg = (140 * c_t + p_t).toNat := h_keq (t := v12.toInt) rfl (by omega) (by omega); rw [ei] at ev13 eI14; exact Or.inr ⟨by omega, ev13, h_n0 eI14, fun k hk => h_n2 eI14 hk⟩)⟩, h_ret g ht⟩, hS.F ht⟩) hS.2.2 dX12_worth_59
set_option maxHeartbeats 4000000 in
set_option maxRecDepth 100000 in
theorem tX11_worthTurnF (l : Launch) (E : tE) (X : tX) (A : Nat → Prop) (z : tZ) (I0 : tI) (L0 : tL) (a0 : Nat) (t_a0 : z.ty a0 = 12) (c : Int32) (c_t : Int) (h_c : c.toInt = c_t) (o : Int32) (o_t : Int) (h_o : o.toInt = o_t) (y : Int32) (y_t : Int) (h_y : y.toInt = y_t) (n : Int32) (n_t : Int) (h_n : n.toInt = n_t) : Met l yX11_worthTurn wsX11_worthTurn ({ frames := 2, cells := 0, slots := 0, locals := 128 }) (va_Pc [.ref a0, .int c, .int o, .int y, .int n] (h_P E X A z I0 L0)) (va_Qi (fun r (I1 : tI) => h_I z I1 ∧ h_F [(1153, 999)] z I0 I1 ∧ ((¬ (0 ≤ c_t ∧ c_t ≤ 7 ∧ 0 ≤ o_t ∧ o_t ≤ 7 ∧ 0 ≤ y_t ∧ y_t ≤ 9 ∧ 0 ≤ n_t ∧ n_t ≤ 9999) ∧ r.toInt = -2 ∧ I1 = I0) ∨ ((0 ≤ c_t ∧ c_t ≤ 7 ∧ 0 ≤ o_t ∧ o_t ≤ 7 ∧ 0 ≤ y_t ∧ y_t ≤ 9 ∧ 0 ≤ n_t ∧ n_t ≤ 9999) ∧ r = I0 (h_ad z (h_ad z (h_ad z a0 4) 3) c_t.toNat) (10 * o_t + y_t).toNat ∧ I1 = h_up I0 (h_ad z (h_ad z (h_ad z a0 4) 3) c_t.toNat) (10 * o_t + y_t).toNat n))) (fun (I1 : tI) t => h_B E A z I1 L0 t) A) 0 0 A := by
  refine Met.ofW (cc := cX11_worthTurn) (maxL := 7) (ret := (some .int)) (by decide) rfl ?_
  intro pr_ ev_ s m args below meth cd_ s₁ B hml hv
  obtain ⟨rfl, hE, hk, hX, hA, hK, hI, hR, hB0⟩ := hv
  have g : h_G h_so h_fk E A z I0 L0 s s.heap s.heap [] := ⟨hK, va_S.rf, hB0⟩
  have hF : h_F [(1153, 999)] z I0 I0 := h_F.rf
  have hx := B.exec
  have hb := B.bytes
  have hr := B.returns
  have hts := atoms_spec (ws := wsX11_worthTurn) B.pre
  have hown : s.vm.findClass RX11 = some m.cls := findClass_of_methodNamed B.named
  have hlocks := B.notSynchronized
  have iX11 : ∀ w ∈ u_ws RX11 TX11 8, w ∈ wsX11_worthTurn := by decide +kernel
  have iX10 : ∀ w ∈ u_ws RX10 TX10 4, w ∈ wsX11_worthTurn := by decide +kernel
  have hl := lv_entry ([.ref a0, .int c, .int o, .int y, .int n]) (n := 7) (Nat.le_of_ble_eq_true rfl)
  rw [lg_entry_eq]
  generalize (lg_sl ([.ref a0, .int c, .int o, .int y, .int n]) ++ List.replicate (7 - (lg_sl ([.ref a0, .int c, .int o, .int y, .int n])).length) Slot.unset).toArray = ls at hl ⊢
  have hl : lv_has ls 7 [(0, .ref a0), (1, .int c), (2, .int o), (3, .int y), (4, .int n)] := hl
  have b_c : -2147483648 ≤ c_t ∧ c_t ≤ 2147483647 := h_c ▸ ⟨xi_lo c, Int.le_of_lt_add_one (xi_hi c)⟩
  have b_o : -2147483648 ≤ o_t ∧ o_t ≤ 2147483647 := h_o ▸ ⟨xi_lo o, Int.le_of_lt_add_one (xi_hi o)⟩
  have b_y : -2147483648 ≤ y_t ∧ y_t ≤ 2147483647 := h_y ▸ ⟨xi_lo y, Int.le_of_lt_add_one (xi_hi y)⟩
  have b_n : -2147483648 ≤ n_t ∧ n_t ≤ 2147483647 := h_n ▸ ⟨xi_lo n, Int.le_of_lt_add_one (xi_hi n)⟩
  obtain ⟨tu, rtu, ttu⟩ := hR.at a0 4 t_a0 (rfl : h_rs 12 4 = some (11, false)) (by decide)
  have atu : h_ad z a0 4 = tu := h_ad.at rtu
  obtain ⟨wo, rwo, two⟩ := hR.at tu 3 ttu (rfl : h_rs 11 3 = some (1103, false)) (by decide)
  have awo : h_ad z tu 3 = wo := h_ad.at rwo
  refine lv_iload_n hx hb dX11_worthTurn_0 rfl (lv_at hl 1 rfl) ?_
  refine vp_callSi (W.runS (As := [.int c]) (rest := []) ⟨hx, hb, hml, hown, hts⟩ (tX11_isClub l E X A z I0 L0 c (c_t) h_c) (va_cwS 1 hts gX11_worthTurn_X11_isClub rfl rfl rfl (by decide +kernel) ⟨Nat.le_of_ble_eq_true rfl, Nat.le_of_ble_eq_true rfl⟩) ⟨h_blind _ _ _ _ _ _ _, h_pre _ hE hk hX hA hI hR g⟩ rfl rfl hl.1 rfl (lv_room (Nat.le_of_ble_eq_true rfl)) dX11_worthTurn_1 ⟨Nat.le_of_ble_eq_true rfl, Nat.le_of_ble_eq_true rfl⟩) (fun rh1 h1 => ?_)
  rcases h1 with ⟨rfl, h1⟩ | ⟨rfl, h1⟩
  · skip
    refine lv_if_eq (tgt := 29) hx hb dX11_worthTurn_4 (by decide) (fun _ => ?_) (fun h => absurd (by decide) h)
    refine lv_bipush (v := (-2)) hx hb dX11_worthTurn_29 (by decide) ?_
    have hS := g.2.1
    exact W.iret (v := (-2)) hx hb hr (fun t ht hW => ⟨⟨(-2), I0, rfl, ⟨hI, hF, (Or.inl ⟨by omega, by decide, rfl⟩)⟩, h_ret g ht⟩, hS.F ht⟩) hS.2.2 dX11_worthTurn_31
  · skip
    refine lv_if_eq (tgt := 29) hx hb dX11_worthTurn_4 (by decide) (fun h => absurd h (by decide)) (fun _ => ?_)
    refine lv_iload_n hx hb dX11_worthTurn_7 rfl (lv_at hl 2 rfl) ?_
    refine vp_callSi (W.runS (As := [.int o]) (rest := []) ⟨hx, hb, hml, hown, hts⟩ (tX11_isClub l E X A z I0 L0 o (o_t) h_o) (va_cwS 1 hts gX11_worthTurn_X11_isClub rfl rfl rfl (by decide +kernel) ⟨Nat.le_of_ble_eq_true rfl, Nat.le_of_ble_eq_true rfl⟩) ⟨h_blind _ _ _ _ _ _ _, h_pre _ hE hk hX hA hI hR g⟩ rfl rfl hl.1 rfl (lv_room (Nat.le_of_ble_eq_true rfl)) dX11_worthTurn_8 ⟨Nat.le_of_ble_eq_true rfl, Nat.le_of_ble_eq_true rfl⟩) (fun rh4 h4 => ?_)
    rcases h4 with ⟨rfl, h4⟩ | ⟨rfl, h4⟩
    · skip
      refine lv_if_eq (tgt := 29) hx hb dX11_worthTurn_11 (by decide) (fun _ => ?_) (fun h => absurd (by decide) h)
      refine lv_bipush (v := (-2)) hx hb dX11_worthTurn_29 (by decide) ?_
      have hS := g.2.1
      exact W.iret (v := (-2)) hx hb hr (fun t ht hW => ⟨⟨(-2), I0, rfl, ⟨hI, hF, (Or.inl ⟨by omega, by decide, rfl⟩)⟩, h_ret g ht⟩, hS.F ht⟩) hS.2.2 dX11_worthTurn_31
    · skip
      refine lv_if_eq (tgt := 29) hx hb dX11_worthTurn_11 (by decide) (fun h => absurd h (by decide)) (fun _ => ?_)
      refine lv_iload_n hx hb dX11_worthTurn_14 rfl (lv_at hl 3 rfl) ?_
      refine vp_callSi (W.runS (As := [.int y]) (rest := []) ⟨hx, hb, hml, hown, hts⟩ (tX11_isYear l E X A z I0 L0 y (y_t) h_y) (va_cwS 1 hts gX11_worthTurn_X11_isYear rfl rfl rfl (by decide +kernel) ⟨Nat.le_of_ble_eq_true rfl, Nat.le_of_ble_eq_true rfl⟩) ⟨h_blind _ _ _ _ _ _ _, h_pre _ hE hk hX hA hI hR g⟩ rfl rfl hl.1 rfl (lv_room (Nat.le_of_ble_eq_true rfl)) dX11_worthTurn_15 ⟨Nat.le_of_ble_eq_true rfl, Nat.le_of_ble_eq_true rfl⟩) (fun rh7 h7 => ?_)
      rcases h7 with ⟨rfl, h7⟩ | ⟨rfl, h7⟩
      · skip
        refine lv_if_eq (tgt := 29) hx hb dX11_worthTurn_18 (by decide) (fun _ => ?_) (fun h => absurd (by decide) h)
        refine lv_bipush (v := (-2)) hx hb dX11_worthTurn_29 (by decide) ?_
        have hS := g.2.1
        exact W.iret (v := (-2)) hx hb hr (fun t ht hW => ⟨⟨(-2), I0, rfl, ⟨hI, hF, (Or.inl ⟨by omega, by decide, rfl⟩)⟩, h_ret g ht⟩, hS.F ht⟩) hS.2.2 dX11_worthTurn_31
      · skip
        refine lv_if_eq (tgt := 29) hx hb dX11_worthTurn_18 (by decide) (fun h => absurd h (by decide)) (fun _ => ?_)
        refine lv_iload hx hb dX11_worthTurn_21 (lv_at hl 4 rfl) ?_
        refine vp_callSi (W.runS (As := [.int n]) (rest := []) ⟨hx, hb, hml, hown, hts⟩ (tX11_isWorth l E X A z I0 L0 n (n_t) h_n) (va_cwS 1 hts gX11_worthTurn_X11_isWorth rfl rfl rfl (by decide +kernel) ⟨Nat.le_of_ble_eq_true rfl, Nat.le_of_ble_eq_true rfl⟩) ⟨h_blind _ _ _ _ _ _ _, h_pre _ hE hk hX hA hI hR g⟩ rfl rfl hl.1 rfl (lv_room (Nat.le_of_ble_eq_true rfl)) dX11_worthTurn_23 ⟨Nat.le_of_ble_eq_true rfl, Nat.le_of_ble_eq_true rfl⟩) (fun rh10 h10 => ?_)
        rcases h10 with ⟨rfl, h10⟩ | ⟨rfl, h10⟩
        · skip
          refine lv_if_ne (tgt := 32) hx hb dX11_worthTurn_26 (by decide) (fun h => absurd (by decide) h) (fun _ => ?_)
          refine lv_bipush (v := (-2)) hx hb dX11_worthTurn_29 (by decide) ?_
          have hS := g.2.1
          exact W.iret (v := (-2)) hx hb hr (fun t ht hW => ⟨⟨(-2), I0, rfl, ⟨hI, hF, (Or.inl ⟨by omega, by decide, rfl⟩)⟩, h_ret g ht⟩, hS.F ht⟩) hS.2.2 dX11_worthTurn_31
        · skip
          refine lv_if_ne (tgt := 32) hx hb dX11_worthTurn_26 (by decide) (fun _ => ?_) (fun h => absurd h (by decide))
          refine lv_iload_n hx hb dX11_worthTurn_32 rfl (lv_at hl 2 rfl) ?_
          refine lv_iload_n hx hb dX11_worthTurn_33 rfl (lv_at hl 3 rfl) ?_
          refine vp_callSi (W.runS (As := [.int o, .int y]) (rest := []) ⟨hx, hb, hml, hown, hts⟩ (tX10_keyR l E X A z I0 L0 o (o_t) h_o (by omega) y (y_t) h_y (by omega)) (va_cwS 2 hts gX11_worthTurn_X10_keyOf rfl rfl rfl (by decide +kernel) ⟨Nat.le_of_ble_eq_true rfl, Nat.le_of_ble_eq_true rfl⟩) ⟨h_blind _ _ _ _ _ _ _, h_pre _ hE hk hX hA hI hR g⟩ rfl rfl hl.1 rfl (lv_room (Nat.le_of_ble_eq_true rfl)) dX11_worthTurn_34 ⟨Nat.le_of_ble_eq_true rfl, Nat.le_of_ble_eq_true rfl⟩) (fun rh13 h13 => ?_)
          obtain ⟨h13, h13p0⟩ := h13
          refine lv_istore (lv' := [(5, .int rh13), (0, .ref a0), (1, .int c), (2, .int o), (3, .int y), (4, .int n)]) hx hb dX11_worthTurn_37 hl (by decide) rfl (fun ls hl => ?_)
          refine lv_aload_n hx hb dX11_worthTurn_39 rfl (lv_at hl 1 rfl) ?_
          refine h_get (v := .ref tu) hx hb hts iX11 hown g t_a0 (by decide) so_12 rfl 4 (by decide) (hts (.fieldLink RX11 44 "CapLeague" "turns" "LCapLeague$Turns;") (by decide +kernel)) rfl dX11_worthTurn_40 (by show va_rf (z.R a0 4) = _; rw [rtu]; rfl) ?_
          refine h_get (v := .ref wo) hx hb hts iX10 hown g ttu (by decide) so_11 rfl 3 (by decide) (hts (.fieldLink RX11 242 "CapLeague$Turns" "worths" "[[I") (by decide +kernel)) rfl dX11_worthTurn_43 (by show va_rf (z.R tu 3) = _; rw [rwo]; rfl) ?_
          refine lv_iload_n hx hb dX11_worthTurn_46 rfl (lv_at hl 2 rfl) ?_
          obtain ⟨b14, rb14, tb14⟩ := hR.at wo c.toNatClampNeg two (rfl : h_rs 1103 _ = some (1153, false)) (by rw [so_1103]; exact h_lt (n := 8) (xi_in (by rw [h_c]; omega) (by rw [h_c]; omega)))
          refine h_aldA (v := .ref b14) hx hb g two (by decide) so_1103 (xi_in (by rw [h_c]; omega) (by rw [h_c]; omega)) dX11_worthTurn_47 (by rw [rb14]; rfl) ?_
          refine lv_iload hx hb dX11_worthTurn_48 (lv_at hl 0 rfl) ?_
          refine h_ald hx hb g tb14 (by decide) so_1153 (xi_in (by omega) (by omega)) dX11_worthTurn_50 ?_
          refine lv_topi (fun v15 ev15 => ?_)
          have jv15 := hI.rd b14 rh13.toNatClampNeg tb14 ev15 (rfl : h_bd 1153 _ = ((-2147483648), 2147483647))
          refine lv_istore (lv' := [(6, .int v15), (5, .int rh13), (0, .ref a0), (1, .int c), (2, .int o), (3, .int y), (4, .int n)]) hx hb dX11_worthTurn_51 hl (by decide) rfl (fun ls hl => ?_)
          refine lv_aload_n hx hb dX11_worthTurn_53 rfl (lv_at hl 2 rfl) ?_
          refine h_get (v := .ref tu) hx hb hts iX11 hown g t_a0 (by decide) so_12 rfl 4 (by decide) (hts (.fieldLink RX11 44 "CapLeague" "turns" "LCapLeague$Turns;") (by decide +kernel)) rfl dX11_worthTurn_54 (by show va_rf (z.R a0 4) = _; rw [rtu]; rfl) ?_
          refine h_get (v := .ref wo) hx hb hts iX10 hown g ttu (by decide) so_11 rfl 3 (by decide) (hts (.fieldLink RX11 242 "CapLeague$Turns" "worths" "[[I") (by decide +kernel)) rfl dX11_worthTurn_57 (by show va_rf (z.R tu 3) = _; rw [rwo]; rfl) ?_
          refine lv_iload_n hx hb dX11_worthTurn_60 rfl (lv_at hl 3 rfl) ?_
          obtain ⟨b16, rb16, tb16⟩ := hR.at wo c.toNatClampNeg two (rfl : h_rs 1103 _ = some (1153, false)) (by rw [so_1103]; exact h_lt (n := 8) (xi_in (by rw [h_c]; omega) (by rw [h_c]; omega)))
          refine h_aldA (v := .ref b16) hx hb g two (by decide) so_1103 (xi_in (by rw [h_c]; omega) (by rw [h_c]; omega)) dX11_worthTurn_61 (by rw [rb16]; rfl) ?_
          refine lv_iload hx hb dX11_worthTurn_62 (lv_at hl 1 rfl) ?_
          refine lv_iload hx hb dX11_worthTurn_64 (lv_at hl 6 rfl) ?_
          refine h_ast hx hb g tb16 (by decide) so_1153 (xi_in (by omega) (by omega)) dX11_worthTurn_66 (fun I17 H locs eI17 g => ?_)
          have hI := hI.wr eI17 tb16 (rfl : h_bd 1153 _ = ((-2147483648), 2147483647)) (xi_lo _) (Int.le_of_lt_add_one (xi_hi _))
          have hF := hF.wr eI17 tb16 rfl
          refine lv_iload hx hb dX11_worthTurn_67 (lv_at hl 0 rfl) ?_
          have hS := g.2.1
          exact W.iret (v := v15) hx hb hr (fun t ht hW => ⟨⟨v15, I17, rfl, ⟨hI, hF, (by rw [atu, awo]; have ec : c.toNatClampNeg = c_t.toNat := h_keq (t := c_t) h_c (by omega) (by omega); have ek : rh13.toNatClampNeg = (10 * o_t + y_t).toNat := h_keq (t := rh13.toInt) rfl (by omega) (by omega); rw [ec] at rb14 rb16; rw [ek] at ev15 eI17; exact Or.inr ⟨by omega, by rw [h_ad.at rb14]; exact ev15, by rw [h_ad.at rb16]; exact eI17⟩)⟩, h_ret g ht⟩, hS.F ht⟩) hS.2.2 dX11_worthTurn_69
set_option maxHeartbeats 4000000 in
set_option maxRecDepth 100000 in
theorem tX0_playerAtF (l : Launch) (E : tE) (X : tX) (A : Nat → Prop) (z : tZ) (I0 : tI) (L0 : tL) (a0 : Nat) (t_a0 : z.ty a0 = 1) (x : Int32) (x_t : Int) (h_x : x.toInt = x_t) : Met l yX0_playerAt wsX0_playerAt ({ frames := 1, cells := 0, slots := 0, locals := 64 }) (va_Pc [.ref a0, .int x] (h_P E X A z I0 L0)) (va_Sq (fun r => (r = none ∨ ∃ b, r = some b ∧ z.ty b = 7) ∧ ((0 ≤ x_t ∧ x_t < (I0 a0 2).toInt ∧ r = z.R (h_ad z a0 1) x_t.toNat) ∨ (¬ (0 ≤ x_t ∧ x_t < (I0 a0 2).toInt) ∧ r = none)))) 0 0 (fun _ => False) := by
  refine Met.ofW (cc := cX0_playerAt) (maxL := 2) (ret := (some (.object "CapLeague$Player"))) (by decide) rfl ?_
  intro pr_ ev_ s m args below meth cd_ s₁ B hml hv
  obtain ⟨rfl, hE, hk, hX, hA, hK, hI, hR, hB0⟩ := hv
  have g : h_G h_so h_fk E A z I0 L0 s s.heap s.heap [] := ⟨hK, va_S.rf, hB0⟩
  have hx := B.exec
  have hb := B.bytes
  have hr := B.returns
  have hts := atoms_spec (ws := wsX0_playerAt) B.pre
  have hown : s.vm.findClass RX0 = some m.cls := findClass_of_methodNamed B.named
  have hlocks := B.notSynchronized
  have iX0 : ∀ w ∈ u_ws RX0 TX0 9, w ∈ wsX0_playerAt := by decide +kernel
  have hl := lv_entry ([.ref a0, .int x]) (n := 2) (Nat.le_of_ble_eq_true rfl)
  rw [lg_entry_eq]
  generalize (lg_sl ([.ref a0, .int x]) ++ List.replicate (2 - (lg_sl ([.ref a0, .int x])).length) Slot.unset).toArray = ls at hl ⊢
  have hl : lv_has ls 2 [(0, .ref a0), (1, .int x)] := hl
  have b_x : -2147483648 ≤ x_t ∧ x_t ≤ 2147483647 := h_x ▸ ⟨xi_lo x, Int.le_of_lt_add_one (xi_hi x)⟩
  obtain ⟨pl, rpl, tpl⟩ := hR.at a0 1 t_a0 (rfl : h_rs 1 1 = some (101, false)) (by decide)
  have apl : h_ad z a0 1 = pl := h_ad.at rpl
  obtain ⟨f0_2, ef0_2⟩ : ∃ v : Int32, v = I0 a0 2 := ⟨_, rfl⟩
  have qf0_2 : (I0 a0 2).toInt = f0_2.toInt := congrArg Int32.toInt ef0_2.symm
  have jf0_2 := hI.rd a0 2 t_a0 ef0_2 (rfl : h_bd 1 2 = (0, 60))
  refine lv_iload_n hx hb dX0_playerAt_0 rfl (lv_at hl 1 rfl) ?_
  refine lv_if_lt (tgt := 30) hx hb dX0_playerAt_1 (by decide) (fun c1 => ?_) (fun c1 => ?_)
  · have ic1 := (xi_lt c1 h_x (by decide) : x_t < 0)
    refine lv_null hx hb dX0_playerAt_30 ?_
    exact W.aret (v := .null) hx hb hr (Or.inl ⟨_, rfl⟩) (Or.inl rfl) (fun t ht hW => ⟨none, rfl, ⟨Or.inl rfl, (Or.inr ⟨by omega, rfl⟩)⟩, ht⟩) (fun _ h => by cases h) dX0_playerAt_31
  · have ic1 := (xi_nlt c1 h_x (by decide) : 0 ≤ x_t)
    refine lv_iload_n hx hb dX0_playerAt_4 rfl (lv_at hl 1 rfl) ?_
    refine lv_aload_n hx hb dX0_playerAt_5 rfl (lv_at hl 0 rfl) ?_
    refine h_get (v := .int f0_2) hx hb hts iX0 hown g t_a0 (by decide) so_1 rfl 2 (by decide) (hts (.fieldLink RX0 51 "CapLeague$Books" "size" "I") (by decide +kernel)) rfl dX0_playerAt_6 (congrArg Value.int (ef0_2.symm)) ?_
    refine lv_icmp_ge (tgt := 30) hx hb dX0_playerAt_9 (by decide) (fun c2 => ?_) (fun c2 => ?_)
    · have ic2 := (xi_le c2 rfl h_x : f0_2.toInt ≤ x_t)
      refine lv_null hx hb dX0_playerAt_30 ?_
      exact W.aret (v := .null) hx hb hr (Or.inl ⟨_, rfl⟩) (Or.inl rfl) (fun t ht hW => ⟨none, rfl, ⟨Or.inl rfl, (Or.inr ⟨by omega, rfl⟩)⟩, ht⟩) (fun _ h => by cases h) dX0_playerAt_31
    · have ic2 := (xi_nle c2 rfl h_x : x_t < f0_2.toInt)
      refine lv_iload_n hx hb dX0_playerAt_12 rfl (lv_at hl 1 rfl) ?_
      refine lv_aload_n hx hb dX0_playerAt_13 rfl (lv_at hl 0 rfl) ?_
      refine h_get (v := .ref pl) hx hb hts iX0 hown g t_a0 (by decide) so_1 rfl 1 (by decide) (hts (.fieldLink RX0 11 "CapLeague$Books" "players" "[LCapLeague$Player;") (by decide +kernel)) rfl dX0_playerAt_14 (by show va_rf (z.R a0 1) = _; rw [rpl]; rfl) ?_
      refine h_alen (v := 60) hx hb g tpl (by decide) (Or.inr (Or.inr (Or.inr (Or.inr (Or.inl so_101))))) rfl dX0_playerAt_17 ?_
      refine lv_icmp_ge (tgt := 30) hx hb dX0_playerAt_18 (by decide) (fun h => absurd (xi_le h (by decide) h_x : 60 ≤ x_t) (by omega)) (fun c3 => ?_)
      have ic3 := (xi_nle c3 (by decide) h_x : x_t < 60)
      refine lv_aload_n hx hb dX0_playerAt_21 rfl (lv_at hl 0 rfl) ?_
      refine h_get (v := .ref pl) hx hb hts iX0 hown g t_a0 (by decide) so_1 rfl 1 (by decide) (hts (.fieldLink RX0 11 "CapLeague$Books" "players" "[LCapLeague$Player;") (by decide +kernel)) rfl dX0_playerAt_22 (by show va_rf (z.R a0 1) = _; rw [rpl]; rfl) ?_
      refine lv_iload_n hx hb dX0_playerAt_25 rfl (lv_at hl 1 rfl) ?_
      rcases hR.nl pl x.toNatClampNeg tpl (rfl : h_rs 101 _ = some (7, true)) (by rw [so_101]; exact h_lt (n := 60) (xi_in (by rw [h_x]; omega) (by rw [h_x]; omega))) with rb4 | ⟨b4, rb4, tb4⟩
      · refine h_aldP (v := .null) hx hb g tpl (by decide) so_101 (xi_in (by rw [h_x]; omega) (by rw [h_x]; omega)) dX0_playerAt_26 (by rw [rb4]; rfl) ?_
        refine lv_goto (tgt := 31) hx hb dX0_playerAt_27 (by decide) ?_
        exact W.aret (v := .null) hx hb hr (Or.inl ⟨_, rfl⟩) (Or.inl rfl) (fun t ht hW => ⟨none, rfl, ⟨Or.inl rfl, (Or.inl ⟨by omega, by omega, by rw [apl, ← h_keq (i := x) (t := x_t) (k := x_t.toNat) h_x (by omega) (by omega)]; exact rb4.symm⟩)⟩, ht⟩) (fun _ h => by cases h) dX0_playerAt_31
      · refine h_aldP (v := .ref b4) hx hb g tpl (by decide) so_101 (xi_in (by rw [h_x]; omega) (by rw [h_x]; omega)) dX0_playerAt_26 (by rw [rb4]; rfl) ?_
        refine lv_goto (tgt := 31) hx hb dX0_playerAt_27 (by decide) ?_
        exact W.aret (v := .ref b4) hx hb hr (Or.inl ⟨_, rfl⟩) (Or.inr ⟨_, rfl⟩) (fun t ht hW => ⟨some b4, rfl, ⟨Or.inr ⟨b4, rfl, tb4⟩, (Or.inl ⟨by omega, by omega, by rw [apl, ← h_keq (i := x) (t := x_t) (k := x_t.toNat) h_x (by omega) (by omega)]; exact rb4.symm⟩)⟩, ht⟩) (fun _ h => by cases h) dX0_playerAt_31
set_option maxHeartbeats 4000000 in
set_option maxRecDepth 100000 in
theorem tX11_worthF (l : Launch) (E : tE) (X : tX) (A : Nat → Prop) (z : tZ) (I0 : tI) (L0 : tL) (a0 : Nat) (t_a0 : z.ty a0 = 12) (c : Int32) (c_t : Int) (h_c : c.toInt = c_t) (p : Int32) (p_t : Int) (h_p : p.toInt = p_t) (n : Int32) (n_t : Int) (h_n : n.toInt = n_t) : Met l yX11_worth wsX11_worth ({ frames := 2, cells := 0, slots := 0, locals := 128 }) (va_Pc [.ref a0, .int c, .int p, .int n] (h_P E X A z I0 L0)) (va_Qi (fun r (I1 : tI) => h_I z I1 ∧ h_F [(708, 999)] z I0 I1 ∧ ((¬ ((0 ≤ c_t ∧ c_t ≤ 7 ∧ 0 ≤ p_t ∧ p_t ≤ 59 ∧ p_t < (I0 (h_ad z a0 3) 2).toInt ∧ 0 ≤ n_t ∧ n_t ≤ 9999) ∧ z.R (h_ad z (h_ad z a0 3) 1) p_t.toNat ≠ none) ∧ r.toInt = -2 ∧ I1 = I0) ∨ (((0 ≤ c_t ∧ c_t ≤ 7 ∧ 0 ≤ p_t ∧ p_t ≤ 59 ∧ p_t < (I0 (h_ad z a0 3) 2).toInt ∧ 0 ≤ n_t ∧ n_t ≤ 9999) ∧ z.R (h_ad z (h_ad z a0 3) 1) p_t.toNat ≠ none) ∧ r = I0 (h_ad z (h_ad z (h_ad z (h_ad z a0 3) 1) p_t.toNat) 8) c_t.toNat ∧ I1 = h_up I0 (h_ad z (h_ad z (h_ad z (h_ad z a0 3) 1) p_t.toNat) 8) c_t.toNat n))) (fun (I1 : tI) t => h_B E A z I1 L0 t) A) 0 0 A := by
  refine Met.ofW (cc := cX11_worth) (maxL := 6) (ret := (some .int)) (by decide) rfl ?_
  intro pr_ ev_ s m args below meth cd_ s₁ B hml hv
  obtain ⟨rfl, hE, hk, hX, hA, hK, hI, hR, hB0⟩ := hv
  have g : h_G h_so h_fk E A z I0 L0 s s.heap s.heap [] := ⟨hK, va_S.rf, hB0⟩
  have hF : h_F [(708, 999)] z I0 I0 := h_F.rf
  have hx := B.exec
  have hb := B.bytes
  have hr := B.returns
  have hts := atoms_spec (ws := wsX11_worth) B.pre
  have hown : s.vm.findClass RX11 = some m.cls := findClass_of_methodNamed B.named
  have hlocks := B.notSynchronized
  have iX11 : ∀ w ∈ u_ws RX11 TX11 8, w ∈ wsX11_worth := by decide +kernel
  have iX6 : ∀ w ∈ u_ws RX6 TX6 9, w ∈ wsX11_worth := by decide +kernel
  have hl := lv_entry ([.ref a0, .int c, .int p, .int n]) (n := 6) (Nat.le_of_ble_eq_true rfl)
  rw [lg_entry_eq]
  generalize (lg_sl ([.ref a0, .int c, .int p, .int n]) ++ List.replicate (6 - (lg_sl ([.ref a0, .int c, .int p, .int n])).length) Slot.unset).toArray = ls at hl ⊢
  have hl : lv_has ls 6 [(0, .ref a0), (1, .int c), (2, .int p), (3, .int n)] := hl
  have b_c : -2147483648 ≤ c_t ∧ c_t ≤ 2147483647 := h_c ▸ ⟨xi_lo c, Int.le_of_lt_add_one (xi_hi c)⟩
  have b_p : -2147483648 ≤ p_t ∧ p_t ≤ 2147483647 := h_p ▸ ⟨xi_lo p, Int.le_of_lt_add_one (xi_hi p)⟩
  have b_n : -2147483648 ≤ n_t ∧ n_t ≤ 2147483647 := h_n ▸ ⟨xi_lo n, Int.le_of_lt_add_one (xi_hi n)⟩
  obtain ⟨bk, rbk, tbk⟩ := hR.at a0 3 t_a0 (rfl : h_rs 12 3 = some (1, false)) (by decide)
  have abk : h_ad z a0 3 = bk := h_ad.at rbk
  obtain ⟨pl, rpl, tpl⟩ := hR.at bk 1 tbk (rfl : h_rs 1 1 = some (101, false)) (by decide)
  have apl : h_ad z bk 1 = pl := h_ad.at rpl
  obtain ⟨f0_2, ef0_2⟩ : ∃ v : Int32, v = I0 bk 2 := ⟨_, rfl⟩
  have qf0_2 : (I0 bk 2).toInt = f0_2.toInt := congrArg Int32.toInt ef0_2.symm
  have jf0_2 := hI.rd bk 2 tbk ef0_2 (rfl : h_bd 1 2 = (0, 60))
  refine lv_aload_n hx hb dX11_worth_0 rfl (lv_at hl 0 rfl) ?_
  refine h_get (v := .ref bk) hx hb hts iX11 hown g t_a0 (by decide) so_12 rfl 3 (by decide) (hts (.fieldLink RX11 37 "CapLeague" "books" "LCapLeague$Books;") (by decide +kernel)) rfl dX11_worth_1 (by show va_rf (z.R a0 3) = _; rw [rbk]; rfl) ?_
  refine lv_iload_n hx hb dX11_worth_4 rfl (lv_at hl 2 rfl) ?_
  refine va_csq (W.runV (As := [.int p]) (rest := []) ⟨hx, hb, hml, hown, hts⟩ (tX0_playerAtF l E X A z I0 L0 bk tbk p (p_t) h_p) (cwV 1 hts gX11_worth_X0_playerAt rfl rfl rfl (by decide +kernel) ⟨Nat.le_of_ble_eq_true rfl, Nat.le_of_ble_eq_true rfl⟩) ⟨h_blind _ _ _ _ _ _ _, h_recv g tbk (by decide) so_1 (q := (RX0, TX0, 9)) rfl, h_pre _ hE hk hX hA hI hR g⟩ rfl rfl hl.1 rfl (lv_room (Nat.le_of_ble_eq_true rfl)) dX11_worth_5 ⟨Nat.le_of_ble_eq_true rfl, Nat.le_of_ble_eq_true rfl⟩) (fun rh1 h1 => ?_)
  obtain ⟨h1, h1p0⟩ := h1
  rcases h1 with rfl | ⟨rh1, rfl, trh1⟩
  · refine xw_v (v := .null) rfl ?_
    rw [apl] at h1p0
    refine lv_astoreN (lv' := [(4, .null), (0, .ref a0), (1, .int c), (2, .int p), (3, .int n)]) hx hb dX11_worth_8 hl (by decide) rfl (fun ls hl => ?_)
    refine lv_aloadN hx hb dX11_worth_10 (lv_at hl 0 rfl) ?_
    refine lv_ifnullN (tgt := 29) hx hb dX11_worth_12 (by decide) ?_
    refine lv_bipush (v := (-2)) hx hb dX11_worth_29 (by decide) ?_
    have hS := g.2.1
    exact W.iret (v := (-2)) hx hb hr (fun t ht hW => ⟨⟨(-2), I0, rfl, ⟨hI, hF, (Or.inl ⟨by rw [abk, apl]; intro h; rcases h1p0 with ⟨a1, a2, a3⟩ | ⟨a1, a2⟩; exact h.2 a3.symm; exact a1 ⟨h.1.2.2.1, h.1.2.2.2.2.1⟩, by decide, rfl⟩)⟩, h_ret g ht⟩, hS.F ht⟩) hS.2.2 dX11_worth_31
  · refine xw_v (v := .ref rh1) rfl ?_
    rw [apl] at h1p0
    refine lv_astore (lv' := [(4, .ref rh1), (0, .ref a0), (1, .int c), (2, .int p), (3, .int n)]) hx hb dX11_worth_8 hl (by decide) rfl (fun ls hl => ?_)
    refine lv_aload hx hb dX11_worth_10 (lv_at hl 0 rfl) ?_
    refine lv_ifnull hx hb dX11_worth_12 ?_
    refine lv_iload_n hx hb dX11_worth_15 rfl (lv_at hl 2 rfl) ?_
    refine vp_callSi (W.runS (As := [.int c]) (rest := []) ⟨hx, hb, hml, hown, hts⟩ (tX11_isClub l E X A z I0 L0 c (c_t) h_c) (va_cwS 1 hts gX11_worth_X11_isClub rfl rfl rfl (by decide +kernel) ⟨Nat.le_of_ble_eq_true rfl, Nat.le_of_ble_eq_true rfl⟩) ⟨h_blind _ _ _ _ _ _ _, h_pre _ hE hk hX hA hI hR g⟩ rfl rfl hl.1 rfl (lv_room (Nat.le_of_ble_eq_true rfl)) dX11_worth_16 ⟨Nat.le_of_ble_eq_true rfl, Nat.le_of_ble_eq_true rfl⟩) (fun rh2 h2 => ?_)
    rcases h2 with ⟨rfl, h2⟩ | ⟨rfl, h2⟩
    · skip
      refine lv_if_eq (tgt := 29) hx hb dX11_worth_19 (by decide) (fun _ => ?_) (fun h => absurd (by decide) h)
      refine lv_bipush (v := (-2)) hx hb dX11_worth_29 (by decide) ?_
      have hS := g.2.1
      exact W.iret (v := (-2)) hx hb hr (fun t ht hW => ⟨⟨(-2), I0, rfl, ⟨hI, hF, (Or.inl ⟨by rw [abk, apl]; intro h; have h1 := h.1; omega, by decide, rfl⟩)⟩, h_ret g ht⟩, hS.F ht⟩) hS.2.2 dX11_worth_31
    · skip
      refine lv_if_eq (tgt := 29) hx hb dX11_worth_19 (by decide) (fun h => absurd h (by decide)) (fun _ => ?_)
      refine lv_iload_n hx hb dX11_worth_22 rfl (lv_at hl 4 rfl) ?_
      refine vp_callSi (W.runS (As := [.int n]) (rest := []) ⟨hx, hb, hml, hown, hts⟩ (tX11_isWorth l E X A z I0 L0 n (n_t) h_n) (va_cwS 1 hts gX11_worth_X11_isWorth rfl rfl rfl (by decide +kernel) ⟨Nat.le_of_ble_eq_true rfl, Nat.le_of_ble_eq_true rfl⟩) ⟨h_blind _ _ _ _ _ _ _, h_pre _ hE hk hX hA hI hR g⟩ rfl rfl hl.1 rfl (lv_room (Nat.le_of_ble_eq_true rfl)) dX11_worth_23 ⟨Nat.le_of_ble_eq_true rfl, Nat.le_of_ble_eq_true rfl⟩) (fun rh5 h5 => ?_)
      rcases h5 with ⟨rfl, h5⟩ | ⟨rfl, h5⟩
      · skip
        refine lv_if_ne (tgt := 32) hx hb dX11_worth_26 (by decide) (fun h => absurd (by decide) h) (fun _ => ?_)
        refine lv_bipush (v := (-2)) hx hb dX11_worth_29 (by decide) ?_
        have hS := g.2.1
        exact W.iret (v := (-2)) hx hb hr (fun t ht hW => ⟨⟨(-2), I0, rfl, ⟨hI, hF, (Or.inl ⟨by rw [abk, apl]; intro h; have h1 := h.1; omega, by decide, rfl⟩)⟩, h_ret g ht⟩, hS.F ht⟩) hS.2.2 dX11_worth_31
      · skip
        refine lv_if_ne (tgt := 32) hx hb dX11_worth_26 (by decide) (fun _ => ?_) (fun h => absurd h (by decide))
        refine lv_aload hx hb dX11_worth_32 (lv_at hl 0 rfl) ?_
        obtain ⟨b8, rb8, tb8⟩ := hR.at rh1 8 trh1 (rfl : h_rs 7 8 = some (708, false)) (by decide)
        refine h_get (v := .ref b8) hx hb hts iX6 hown g trh1 (by decide) so_7 rfl 8 (by decide) (hts (.fieldLink RX11 239 "CapLeague$Player" "worths" "[I") (by decide +kernel)) rfl dX11_worth_34 (by show va_rf (z.R rh1 8) = _; rw [rb8]; rfl) ?_
        refine lv_iload_n hx hb dX11_worth_37 rfl (lv_at hl 2 rfl) ?_
        refine h_ald hx hb g tb8 (by decide) so_708 (xi_in (by rw [h_c]; omega) (by rw [h_c]; omega)) dX11_worth_38 ?_
        refine lv_topi (fun v9 ev9 => ?_)
        have jv9 := hI.rd b8 c.toNatClampNeg tb8 ev9 (rfl : h_bd 708 _ = ((-2147483648), 2147483647))
        refine lv_istore (lv' := [(5, .int v9), (4, .ref rh1), (0, .ref a0), (1, .int c), (2, .int p), (3, .int n)]) hx hb dX11_worth_39 hl (by decide) rfl (fun ls hl => ?_)
        refine lv_aload hx hb dX11_worth_41 (lv_at hl 1 rfl) ?_
        refine h_get (v := .ref b8) hx hb hts iX6 hown g trh1 (by decide) so_7 rfl 8 (by decide) (hts (.fieldLink RX11 239 "CapLeague$Player" "worths" "[I") (by decide +kernel)) rfl dX11_worth_43 (by show va_rf (z.R rh1 8) = _; rw [rb8]; rfl) ?_
        refine lv_iload_n hx hb dX11_worth_46 rfl (lv_at hl 3 rfl) ?_
        refine lv_iload_n hx hb dX11_worth_47 rfl (lv_at hl 5 rfl) ?_
        refine h_ast hx hb g tb8 (by decide) so_708 (xi_in (by rw [h_c]; omega) (by rw [h_c]; omega)) dX11_worth_48 (fun I10 H locs eI10 g => ?_)
        have hI := hI.wr eI10 tb8 (rfl : h_bd 708 _ = ((-2147483648), 2147483647)) (xi_lo _) (Int.le_of_lt_add_one (xi_hi _))
        have hF := hF.wr eI10 tb8 rfl
        refine lv_iload hx hb dX11_worth_49 (lv_at hl 0 rfl) ?_
        have hS := g.2.1
        exact W.iret (v := v9) hx hb hr (fun t ht hW => ⟨⟨v9, I10, rfl, ⟨hI, hF, (by rw [abk, apl]; have ec : c.toNatClampNeg = c_t.toNat := h_keq (t := c_t) h_c (by omega) (by omega); rw [ec] at ev9 eI10; rcases h1p0 with ⟨a1, a2, a3⟩ | ⟨a1, a2⟩; exact Or.inr ⟨⟨by omega, by rw [← a3]; exact fun h => by cases h⟩, by rw [h_ad.at a3.symm, h_ad.at rb8]; exact ev9, by rw [h_ad.at a3.symm, h_ad.at rb8]; exact eI10⟩; cases a2)⟩, h_ret g ht⟩, hS.F ht⟩) hS.2.2 dX11_worth_51
