set_option maxHeartbeats 4000000 in
set_option maxRecDepth 100000 in
theorem tX12_isDealB (l : Launch) (E : tE) (X : tX) (A : Nat → Prop) (z : tZ) (I0 : tI) (L0 : tL) (a0 : Nat) (t_a0 : z.ty a0 = 13) (p : Int32) (p_t : Int) (h_p : p.toInt = p_t) (c : Int32) (c_t : Int) (h_c : c.toInt = c_t) (y : Int32) (y_t : Int) (h_y : y.toInt = y_t) (n : Int32) (n_t : Int) (h_n : n.toInt = n_t) (u : Int32) (u_t : Int) (h_u : u.toInt = u_t) (q : Int32) (q_t : Int) (h_q : q.toInt = q_t) (h : Int32) (h_t : Int) (h_h : h.toInt = h_t) (b_h : 0 ≤ h_t ∧ h_t ≤ 1) : Met l yX12_isDeal wsX12_isDeal ({ frames := 3, cells := 0, slots := 0, locals := 192 }) (va_Pc [.ref a0, .int p, .int c, .int y, .int n, .int u, .int q, .int h] (h_P E X A z I0 L0)) (vp_Si (fun r => ((r = 0 ∧ ¬ (0 ≤ p_t ∧ p_t ≤ 59 ∧ p_t < (I0 a0 13).toInt ∧ 0 ≤ c_t ∧ c_t ≤ 7 ∧ 1 ≤ y_t ∧ y_t ≤ 5 ∧ 0 ≤ n_t ∧ n_t ≤ 20000 ∧ -500 ≤ u_t ∧ u_t ≤ 500 ∧ 0 ≤ q_t ∧ q_t ≤ 100 ∧ h_t + 1 ≤ y_t)) ∨ (r = 1 ∧ 0 ≤ p_t ∧ p_t ≤ 59 ∧ p_t < (I0 a0 13).toInt ∧ 0 ≤ c_t ∧ c_t ≤ 7 ∧ 1 ≤ y_t ∧ y_t ≤ 5 ∧ 0 ≤ n_t ∧ n_t ≤ 20000 ∧ -500 ≤ u_t ∧ u_t ≤ 500 ∧ 0 ≤ q_t ∧ q_t ≤ 100 ∧ h_t + 1 ≤ y_t)))) 0 0 (fun _ => False) := by
  refine Met.ofW (cc := cX12_isDeal) (maxL := 8) (ret := (some .boolean)) (by decide) rfl ?_
  intro pr_ ev_ s m args below meth cd_ s₁ B hml hv
  obtain ⟨rfl, hE, hk, hX, hA, hK, hI, hR, hB0⟩ := hv
  have g : h_G h_so h_fk E A z I0 L0 s s.heap s.heap [] := ⟨hK, va_S.rf, hB0⟩
  have hx := B.exec
  have hb := B.bytes
  have hr := B.returns
  have hts := atoms_spec (ws := wsX12_isDeal) B.pre
  have hown : s.vm.findClass RX12 = some m.cls := findClass_of_methodNamed B.named
  have hlocks := B.notSynchronized
  have hl := lv_entry ([.ref a0, .int p, .int c, .int y, .int n, .int u, .int q, .int h]) (n := 8) (Nat.le_of_ble_eq_true rfl)
  rw [lg_entry_eq]
  generalize (lg_sl ([.ref a0, .int p, .int c, .int y, .int n, .int u, .int q, .int h]) ++ List.replicate (8 - (lg_sl ([.ref a0, .int p, .int c, .int y, .int n, .int u, .int q, .int h])).length) Slot.unset).toArray = ls at hl ⊢
  have hl : lv_has ls 8 [(0, .ref a0), (1, .int p), (2, .int c), (3, .int y), (4, .int n), (5, .int u), (6, .int q), (7, .int h)] := hl
  have b_p : -2147483648 ≤ p_t ∧ p_t ≤ 2147483647 := h_p ▸ ⟨xi_lo p, Int.le_of_lt_add_one (xi_hi p)⟩
  have b_c : -2147483648 ≤ c_t ∧ c_t ≤ 2147483647 := h_c ▸ ⟨xi_lo c, Int.le_of_lt_add_one (xi_hi c)⟩
  have b_y : -2147483648 ≤ y_t ∧ y_t ≤ 2147483647 := h_y ▸ ⟨xi_lo y, Int.le_of_lt_add_one (xi_hi y)⟩
  have b_n : -2147483648 ≤ n_t ∧ n_t ≤ 2147483647 := h_n ▸ ⟨xi_lo n, Int.le_of_lt_add_one (xi_hi n)⟩
  have b_u : -2147483648 ≤ u_t ∧ u_t ≤ 2147483647 := h_u ▸ ⟨xi_lo u, Int.le_of_lt_add_one (xi_hi u)⟩
  have b_q : -2147483648 ≤ q_t ∧ q_t ≤ 2147483647 := h_q ▸ ⟨xi_lo q, Int.le_of_lt_add_one (xi_hi q)⟩
  obtain ⟨f0_13, ef0_13⟩ : ∃ v : Int32, v = I0 a0 13 := ⟨_, rfl⟩
  have qf0_13 : (I0 a0 13).toInt = f0_13.toInt := congrArg Int32.toInt ef0_13.symm
  have jf0_13 := hI.rd a0 13 t_a0 ef0_13 (rfl : h_bd 13 13 = (0, 60))
  refine lv_aload_n hx hb dX12_isDeal_0 rfl (lv_at hl 0 rfl) ?_
  refine lv_iload_n hx hb dX12_isDeal_1 rfl (lv_at hl 1 rfl) ?_
  refine vp_callSi (W.runV (As := [.int p]) (rest := []) ⟨hx, hb, hml, hown, hts⟩ (tX12_isPlayerF l E X A z I0 L0 a0 t_a0 p (p_t) h_p) (cwV 1 hts gX12_isDeal_X12_isPlayer rfl rfl rfl (by decide +kernel) ⟨Nat.le_of_ble_eq_true rfl, Nat.le_of_ble_eq_true rfl⟩) ⟨h_blind _ _ _ _ _ _ _, h_recv g t_a0 (by decide) so_13 (q := (RX12, TX12, 51)) rfl, h_pre _ hE hk hX hA hI hR g⟩ rfl rfl hl.1 rfl (lv_room (Nat.le_of_ble_eq_true rfl)) dX12_isDeal_2 ⟨Nat.le_of_ble_eq_true rfl, Nat.le_of_ble_eq_true rfl⟩) (fun rh1 h1 => ?_)
  rcases h1 with ⟨rfl, h1⟩ | ⟨rfl, h1⟩
  · skip
    refine lv_if_eq (tgt := 82) hx hb dX12_isDeal_5 (by decide) (fun _ => ?_) (fun h => absurd (by decide) h)
    refine lv_iconst (v := 0) hx hb dX12_isDeal_82 (by decide) ?_
    exact W.zret (v := 0) hx hb hr (by decide) (fun t ht hW => ⟨0, rfl, (by exact Or.inl ⟨rfl, by omega⟩), ht⟩) (fun _ h => by cases h) dX12_isDeal_83
  · skip
    refine lv_if_eq (tgt := 82) hx hb dX12_isDeal_5 (by decide) (fun h => absurd h (by decide)) (fun _ => ?_)
    refine lv_iload_n hx hb dX12_isDeal_8 rfl (lv_at hl 2 rfl) ?_
    refine vp_callSi (W.runS (As := [.int c]) (rest := []) ⟨hx, hb, hml, hown, hts⟩ (tX12_isClub l E X A z I0 L0 c (c_t) h_c) (va_cwS 1 hts gX12_isDeal_X12_isClub rfl rfl rfl (by decide +kernel) ⟨Nat.le_of_ble_eq_true rfl, Nat.le_of_ble_eq_true rfl⟩) ⟨h_blind _ _ _ _ _ _ _, h_pre _ hE hk hX hA hI hR g⟩ rfl rfl hl.1 rfl (lv_room (Nat.le_of_ble_eq_true rfl)) dX12_isDeal_9 ⟨Nat.le_of_ble_eq_true rfl, Nat.le_of_ble_eq_true rfl⟩) (fun rh4 h4 => ?_)
    rcases h4 with ⟨rfl, h4⟩ | ⟨rfl, h4⟩
    · skip
      refine lv_if_eq (tgt := 82) hx hb dX12_isDeal_12 (by decide) (fun _ => ?_) (fun h => absurd (by decide) h)
      refine lv_iconst (v := 0) hx hb dX12_isDeal_82 (by decide) ?_
      exact W.zret (v := 0) hx hb hr (by decide) (fun t ht hW => ⟨0, rfl, (by exact Or.inl ⟨rfl, by omega⟩), ht⟩) (fun _ h => by cases h) dX12_isDeal_83
    · skip
      refine lv_if_eq (tgt := 82) hx hb dX12_isDeal_12 (by decide) (fun h => absurd h (by decide)) (fun _ => ?_)
      refine lv_iload_n hx hb dX12_isDeal_15 rfl (lv_at hl 3 rfl) ?_
      refine lv_i2l hx hb dX12_isDeal_16 rfl ?_
      refine lv_topl (fun v7 ev7 => ?_)
      have jv7 : v7.toInt = y_t := by rw [ev7, xi_64]; exact h_y
      refine lv_lconst (v := 1) hx hb dX12_isDeal_17 (by decide) ?_
      refine lv_ldc2 (v := 5) hx hb hown (hts (.constantLong RX12 223 (5)) (by decide +kernel)) dX12_isDeal_18 ?_
      refine vp_callSi (W.runS (As := [.long v7, .long 1, .long 5]) (rest := []) ⟨hx, hb, hml, hown, hts⟩ (tX12_in l E X A z I0 L0 v7 (y_t) jv7 1 (1) (by decide) 5 (5) (by decide)) (va_cwS 3 hts gX12_isDeal_X12_in rfl rfl rfl (by decide +kernel) ⟨Nat.le_of_ble_eq_true rfl, Nat.le_of_ble_eq_true rfl⟩) ⟨h_blind _ _ _ _ _ _ _, h_pre _ hE hk hX hA hI hR g⟩ rfl rfl hl.1 rfl (lv_room (Nat.le_of_ble_eq_true rfl)) dX12_isDeal_21 ⟨Nat.le_of_ble_eq_true rfl, Nat.le_of_ble_eq_true rfl⟩) (fun rh8 h8 => ?_)
      rcases h8 with ⟨rfl, h8⟩ | ⟨rfl, h8⟩
      · skip
        refine lv_if_eq (tgt := 82) hx hb dX12_isDeal_24 (by decide) (fun _ => ?_) (fun h => absurd (by decide) h)
        refine lv_iconst (v := 0) hx hb dX12_isDeal_82 (by decide) ?_
        exact W.zret (v := 0) hx hb hr (by decide) (fun t ht hW => ⟨0, rfl, (by exact Or.inl ⟨rfl, by omega⟩), ht⟩) (fun _ h => by cases h) dX12_isDeal_83
      · skip
        refine lv_if_eq (tgt := 82) hx hb dX12_isDeal_24 (by decide) (fun h => absurd h (by decide)) (fun _ => ?_)
        refine lv_iload hx hb dX12_isDeal_27 (lv_at hl 4 rfl) ?_
        refine lv_i2l hx hb dX12_isDeal_29 rfl ?_
        refine lv_topl (fun v11 ev11 => ?_)
        have jv11 : v11.toInt = n_t := by rw [ev11, xi_64]; exact h_n
        refine lv_lconst (v := 0) hx hb dX12_isDeal_30 (by decide) ?_
        refine lv_ldc2 (v := 20000) hx hb hown (hts (.constantLong RX12 225 (20000)) (by decide +kernel)) dX12_isDeal_31 ?_
        refine vp_callSi (W.runS (As := [.long v11, .long 0, .long 20000]) (rest := []) ⟨hx, hb, hml, hown, hts⟩ (tX12_in l E X A z I0 L0 v11 (n_t) jv11 0 (0) (by decide) 20000 (20000) (by decide)) (va_cwS 3 hts gX12_isDeal_X12_in rfl rfl rfl (by decide +kernel) ⟨Nat.le_of_ble_eq_true rfl, Nat.le_of_ble_eq_true rfl⟩) ⟨h_blind _ _ _ _ _ _ _, h_pre _ hE hk hX hA hI hR g⟩ rfl rfl hl.1 rfl (lv_room (Nat.le_of_ble_eq_true rfl)) dX12_isDeal_34 ⟨Nat.le_of_ble_eq_true rfl, Nat.le_of_ble_eq_true rfl⟩) (fun rh12 h12 => ?_)
        rcases h12 with ⟨rfl, h12⟩ | ⟨rfl, h12⟩
        · skip
          refine lv_if_eq (tgt := 82) hx hb dX12_isDeal_37 (by decide) (fun _ => ?_) (fun h => absurd (by decide) h)
          refine lv_iconst (v := 0) hx hb dX12_isDeal_82 (by decide) ?_
          exact W.zret (v := 0) hx hb hr (by decide) (fun t ht hW => ⟨0, rfl, (by exact Or.inl ⟨rfl, by omega⟩), ht⟩) (fun _ h => by cases h) dX12_isDeal_83
        · skip
          refine lv_if_eq (tgt := 82) hx hb dX12_isDeal_37 (by decide) (fun h => absurd h (by decide)) (fun _ => ?_)
          refine lv_iload hx hb dX12_isDeal_40 (lv_at hl 5 rfl) ?_
          refine lv_i2l hx hb dX12_isDeal_42 rfl ?_
          refine lv_topl (fun v15 ev15 => ?_)
          have jv15 : v15.toInt = u_t := by rw [ev15, xi_64]; exact h_u
          refine lv_ldc2 (v := (-500)) hx hb hown (hts (.constantLong RX12 227 (-500)) (by decide +kernel)) dX12_isDeal_43 ?_
          refine lv_ldc2 (v := 500) hx hb hown (hts (.constantLong RX12 229 (500)) (by decide +kernel)) dX12_isDeal_46 ?_
          refine vp_callSi (W.runS (As := [.long v15, .long (-500), .long 500]) (rest := []) ⟨hx, hb, hml, hown, hts⟩ (tX12_in l E X A z I0 L0 v15 (u_t) jv15 (-500) ((-500)) (by decide) 500 (500) (by decide)) (va_cwS 3 hts gX12_isDeal_X12_in rfl rfl rfl (by decide +kernel) ⟨Nat.le_of_ble_eq_true rfl, Nat.le_of_ble_eq_true rfl⟩) ⟨h_blind _ _ _ _ _ _ _, h_pre _ hE hk hX hA hI hR g⟩ rfl rfl hl.1 rfl (lv_room (Nat.le_of_ble_eq_true rfl)) dX12_isDeal_49 ⟨Nat.le_of_ble_eq_true rfl, Nat.le_of_ble_eq_true rfl⟩) (fun rh16 h16 => ?_)
          rcases h16 with ⟨rfl, h16⟩ | ⟨rfl, h16⟩
          · skip
            refine lv_if_eq (tgt := 82) hx hb dX12_isDeal_52 (by decide) (fun _ => ?_) (fun h => absurd (by decide) h)
            refine lv_iconst (v := 0) hx hb dX12_isDeal_82 (by decide) ?_
            exact W.zret (v := 0) hx hb hr (by decide) (fun t ht hW => ⟨0, rfl, (by exact Or.inl ⟨rfl, by omega⟩), ht⟩) (fun _ h => by cases h) dX12_isDeal_83
          · skip
            refine lv_if_eq (tgt := 82) hx hb dX12_isDeal_52 (by decide) (fun h => absurd h (by decide)) (fun _ => ?_)
            refine lv_iload hx hb dX12_isDeal_55 (lv_at hl 6 rfl) ?_
            refine lv_i2l hx hb dX12_isDeal_57 rfl ?_
            refine lv_topl (fun v19 ev19 => ?_)
            have jv19 : v19.toInt = q_t := by rw [ev19, xi_64]; exact h_q
            refine lv_lconst (v := 0) hx hb dX12_isDeal_58 (by decide) ?_
            refine lv_ldc2 (v := 100) hx hb hown (hts (.constantLong RX12 231 (100)) (by decide +kernel)) dX12_isDeal_59 ?_
            refine vp_callSi (W.runS (As := [.long v19, .long 0, .long 100]) (rest := []) ⟨hx, hb, hml, hown, hts⟩ (tX12_in l E X A z I0 L0 v19 (q_t) jv19 0 (0) (by decide) 100 (100) (by decide)) (va_cwS 3 hts gX12_isDeal_X12_in rfl rfl rfl (by decide +kernel) ⟨Nat.le_of_ble_eq_true rfl, Nat.le_of_ble_eq_true rfl⟩) ⟨h_blind _ _ _ _ _ _ _, h_pre _ hE hk hX hA hI hR g⟩ rfl rfl hl.1 rfl (lv_room (Nat.le_of_ble_eq_true rfl)) dX12_isDeal_62 ⟨Nat.le_of_ble_eq_true rfl, Nat.le_of_ble_eq_true rfl⟩) (fun rh20 h20 => ?_)
            rcases h20 with ⟨rfl, h20⟩ | ⟨rfl, h20⟩
            · skip
              refine lv_if_eq (tgt := 82) hx hb dX12_isDeal_65 (by decide) (fun _ => ?_) (fun h => absurd (by decide) h)
              refine lv_iconst (v := 0) hx hb dX12_isDeal_82 (by decide) ?_
              exact W.zret (v := 0) hx hb hr (by decide) (fun t ht hW => ⟨0, rfl, (by exact Or.inl ⟨rfl, by omega⟩), ht⟩) (fun _ h => by cases h) dX12_isDeal_83
            · skip
              refine lv_if_eq (tgt := 82) hx hb dX12_isDeal_65 (by decide) (fun h => absurd h (by decide)) (fun _ => ?_)
              refine lv_iload hx hb dX12_isDeal_68 (lv_at hl 7 rfl) ?_
              refine lv_if_eq (tgt := 78) hx hb dX12_isDeal_70 (by decide) (fun c23 => ?_) (fun c23 => ?_)
              · have ic23 := (xi_eq c23 h_h (by decide) : h_t = 0)
                refine lv_iconst (v := 1) hx hb dX12_isDeal_78 (by decide) ?_
                refine lv_goto (tgt := 83) hx hb dX12_isDeal_79 (by decide) ?_
                exact W.zret (v := 1) hx hb hr (by decide) (fun t ht hW => ⟨1, rfl, (by exact Or.inr (⟨rfl, by omega⟩)), ht⟩) (fun _ h => by cases h) dX12_isDeal_83
              · have ic23 := (xi_ne c23 h_h (by decide) : h_t ≠ 0)
                refine lv_iload_n hx hb dX12_isDeal_73 rfl (lv_at hl 3 rfl) ?_
                refine lv_iconst (v := 1) hx hb dX12_isDeal_74 (by decide) ?_
                refine lv_icmp_eq (tgt := 82) hx hb dX12_isDeal_75 (by decide) (fun c24 => ?_) (fun c24 => ?_)
                · have ic24 := (xi_eq c24 h_y (by decide) : y_t = 1)
                  refine lv_iconst (v := 0) hx hb dX12_isDeal_82 (by decide) ?_
                  exact W.zret (v := 0) hx hb hr (by decide) (fun t ht hW => ⟨0, rfl, (by exact Or.inl ⟨rfl, by omega⟩), ht⟩) (fun _ h => by cases h) dX12_isDeal_83
                · have ic24 := (xi_ne c24 h_y (by decide) : y_t ≠ 1)
                  refine lv_iconst (v := 1) hx hb dX12_isDeal_78 (by decide) ?_
                  refine lv_goto (tgt := 83) hx hb dX12_isDeal_79 (by decide) ?_
                  exact W.zret (v := 1) hx hb hr (by decide) (fun t ht hW => ⟨1, rfl, (by exact Or.inr (⟨rfl, by omega⟩)), ht⟩) (fun _ h => by cases h) dX12_isDeal_83
set_option maxHeartbeats 4000000 in
set_option maxRecDepth 100000 in
theorem tX12_signB (l : Launch) (E : tE) (X : tX) (A : Nat → Prop) (z : tZ) (I0 : tI) (L0 : tL) (a0 : Nat) (t_a0 : z.ty a0 = 13) (p : Int32) (p_t : Int) (h_p : p.toInt = p_t) (c : Int32) (c_t : Int) (h_c : c.toInt = c_t) (y : Int32) (y_t : Int) (h_y : y.toInt = y_t) (n : Int32) (n_t : Int) (h_n : n.toInt = n_t) (u : Int32) (u_t : Int) (h_u : u.toInt = u_t) (q : Int32) (q_t : Int) (h_q : q.toInt = q_t) (h : Int32) (h_t : Int) (h_h : h.toInt = h_t) (b_h : 0 ≤ h_t ∧ h_t ≤ 1) (u_ : Nat → Int) (hrl : h_r12 (I0 (h_ad z a0 11)) (I0 (h_ad z a0 10)) (I0 a0 12).toInt u_) (hob : q_okb u_) (hpb : ∀ p : Nat, (p : Int) < (I0 a0 13).toInt → (q_pay (I0 (h_ad z a0 14) p) (I0 (h_ad z a0 15) p) (I0 (h_ad z a0 16) p) (I0 (h_ad z a0 17) p) (I0 (h_ad z a0 18) p) (I0 a0 12)).toInt ≤ 1000000) : Met l yX12_sign wsX12_sign ({ frames := 6, cells := 0, slots := 0, locals := 384 }) (va_Pc [.ref a0, .int p, .int c, .int y, .int n, .int u, .int q, .int h] (h_P E X A z I0 L0)) (va_Qi (fun r (I1 : tI) => h_I z I1 ∧ h_F [(1324, 999), (1314, 999), (1315, 999), (1316, 999), (1317, 999), (1318, 999), (1319, 999), (1320, 999), (1321, 999), (13, 33)] z I0 I1 ∧ ((¬ (0 ≤ p_t ∧ p_t < (I0 a0 13).toInt ∧ 0 ≤ c_t ∧ c_t ≤ 7 ∧ 1 ≤ y_t ∧ y_t ≤ 5 ∧ 0 ≤ n_t ∧ n_t ≤ 20000 ∧ -500 ≤ u_t ∧ u_t ≤ 500 ∧ 0 ≤ q_t ∧ q_t ≤ 100 ∧ (h_t = 0 ∨ 2 ≤ y_t)) ∧ r.toInt = -2 ∧ I1 = I0) ∨ ((0 ≤ p_t ∧ p_t < (I0 a0 13).toInt ∧ 0 ≤ c_t ∧ c_t ≤ 7 ∧ 1 ≤ y_t ∧ y_t ≤ 5 ∧ 0 ≤ n_t ∧ n_t ≤ 20000 ∧ -500 ≤ u_t ∧ u_t ≤ 500 ∧ 0 ≤ q_t ∧ q_t ≤ 100 ∧ (h_t = 0 ∨ 2 ≤ y_t)) ∧ ∃ f : Int, q_flt ((I0 (h_ad z a0 14) p_t.toNat).toInt ≠ -1) (u_ 1 ≤ (m_many z I0 a0 c_t (I0 a0 12)).toInt) (u_ 2 < y_t) (u_ 0 < (m_cnt z I0 a0 c_t (I0 a0 12) (u_ 6) + n).toInt ∧ (u_ 3 < n_t ∨ (I0 (h_ad z a0 24) c_t.toNat).toInt ≠ 0)) f ∧ ((f ≠ 0 ∧ r.toInt = 0 ∧ I1 = I0) ∨ (f = 0 ∧ r.toInt = 1 ∧ (I1 (h_ad z a0 14) p_t.toNat = c ∧ I1 (h_ad z a0 15) p_t.toNat = I0 a0 12 ∧ I1 (h_ad z a0 16) p_t.toNat = I0 a0 12 + y - 1 ∧ I1 (h_ad z a0 17) p_t.toNat = n ∧ I1 (h_ad z a0 18) p_t.toNat = u ∧ I1 (h_ad z a0 19) p_t.toNat = q ∧ I1 (h_ad z a0 20) p_t.toNat = h ∧ I1 (h_ad z a0 21) p_t.toNat = 0) ∧ (∀ k : Nat, k ≠ p_t.toNat → I1 (h_ad z a0 14) k = I0 (h_ad z a0 14) k ∧ I1 (h_ad z a0 15) k = I0 (h_ad z a0 15) k ∧ I1 (h_ad z a0 16) k = I0 (h_ad z a0 16) k ∧ I1 (h_ad z a0 17) k = I0 (h_ad z a0 17) k ∧ I1 (h_ad z a0 18) k = I0 (h_ad z a0 18) k ∧ I1 (h_ad z a0 19) k = I0 (h_ad z a0 19) k ∧ I1 (h_ad z a0 20) k = I0 (h_ad z a0 20) k ∧ I1 (h_ad z a0 21) k = I0 (h_ad z a0 21) k) ∧ ((((I0 (h_ad z a0 24) c_t.toNat).toInt ≠ 0 ∨ u_ 0 < (m_cnt z I0 a0 c_t (I0 a0 12) (u_ 6) + n).toInt) ∧ I1 (h_ad z a0 24) c_t.toNat = 1) ∨ ((I0 (h_ad z a0 24) c_t.toNat).toInt = 0 ∧ (m_cnt z I0 a0 c_t (I0 a0 12) (u_ 6) + n).toInt ≤ u_ 0 ∧ I1 (h_ad z a0 24) c_t.toNat = 0)) ∧ (∀ k : Nat, k ≠ c_t.toNat → I1 (h_ad z a0 24) k = I0 (h_ad z a0 24) k) ∧ I1 a0 33 = 0))))) (fun (I1 : tI) t => h_B E A z I1 L0 t) A) 0 0 A := by
  refine Met.ofW (cc := cX12_sign) (maxL := 8) (ret := (some .int)) (by decide) rfl ?_
  intro pr_ ev_ s m args below meth cd_ s₁ B hml hv
  obtain ⟨rfl, hE, hk, hX, hA, hK, hI, hR, hB0⟩ := hv
  have g : h_G h_so h_fk E A z I0 L0 s s.heap s.heap [] := ⟨hK, va_S.rf, hB0⟩
  have hF : h_F [(1324, 999), (1314, 999), (1315, 999), (1316, 999), (1317, 999), (1318, 999), (1319, 999), (1320, 999), (1321, 999), (13, 33)] z I0 I0 := h_F.rf
  have hx := B.exec
  have hb := B.bytes
  have hr := B.returns
  have hts := atoms_spec (ws := wsX12_sign) B.pre
  have hown : s.vm.findClass RX12 = some m.cls := findClass_of_methodNamed B.named
  have hlocks := B.notSynchronized
  have iX12 : ∀ w ∈ u_ws RX12 TX12 51, w ∈ wsX12_sign := by decide +kernel
  have hl := lv_entry ([.ref a0, .int p, .int c, .int y, .int n, .int u, .int q, .int h]) (n := 8) (Nat.le_of_ble_eq_true rfl)
  rw [lg_entry_eq]
  generalize (lg_sl ([.ref a0, .int p, .int c, .int y, .int n, .int u, .int q, .int h]) ++ List.replicate (8 - (lg_sl ([.ref a0, .int p, .int c, .int y, .int n, .int u, .int q, .int h])).length) Slot.unset).toArray = ls at hl ⊢
  have hl : lv_has ls 8 [(0, .ref a0), (1, .int p), (2, .int c), (3, .int y), (4, .int n), (5, .int u), (6, .int q), (7, .int h)] := hl
  have b_p : -2147483648 ≤ p_t ∧ p_t ≤ 2147483647 := h_p ▸ ⟨xi_lo p, Int.le_of_lt_add_one (xi_hi p)⟩
  have b_c : -2147483648 ≤ c_t ∧ c_t ≤ 2147483647 := h_c ▸ ⟨xi_lo c, Int.le_of_lt_add_one (xi_hi c)⟩
  have b_y : -2147483648 ≤ y_t ∧ y_t ≤ 2147483647 := h_y ▸ ⟨xi_lo y, Int.le_of_lt_add_one (xi_hi y)⟩
  have b_n : -2147483648 ≤ n_t ∧ n_t ≤ 2147483647 := h_n ▸ ⟨xi_lo n, Int.le_of_lt_add_one (xi_hi n)⟩
  have b_u : -2147483648 ≤ u_t ∧ u_t ≤ 2147483647 := h_u ▸ ⟨xi_lo u, Int.le_of_lt_add_one (xi_hi u)⟩
  have b_q : -2147483648 ≤ q_t ∧ q_t ≤ 2147483647 := h_q ▸ ⟨xi_lo q, Int.le_of_lt_add_one (xi_hi q)⟩
  obtain ⟨cb, rcb, tcb⟩ := hR.at a0 14 t_a0 (rfl : h_rs 13 14 = some (1314, false)) (by decide)
  have acb : h_ad z a0 14 = cb := h_ad.at rcb
  obtain ⟨fi, rfi, tfi⟩ := hR.at a0 15 t_a0 (rfl : h_rs 13 15 = some (1315, false)) (by decide)
  have afi : h_ad z a0 15 = fi := h_ad.at rfi
  obtain ⟨la, rla, tla⟩ := hR.at a0 16 t_a0 (rfl : h_rs 13 16 = some (1316, false)) (by decide)
  have ala : h_ad z a0 16 = la := h_ad.at rla
  obtain ⟨pa, rpa, tpa⟩ := hR.at a0 17 t_a0 (rfl : h_rs 13 17 = some (1317, false)) (by decide)
  have apa : h_ad z a0 17 = pa := h_ad.at rpa
  obtain ⟨ri, rri, tri⟩ := hR.at a0 18 t_a0 (rfl : h_rs 13 18 = some (1318, false)) (by decide)
  have ari : h_ad z a0 18 = ri := h_ad.at rri
  obtain ⟨su, rsu, tsu⟩ := hR.at a0 19 t_a0 (rfl : h_rs 13 19 = some (1319, false)) (by decide)
  have asu : h_ad z a0 19 = su := h_ad.at rsu
  obtain ⟨hc, rhc, thc⟩ := hR.at a0 20 t_a0 (rfl : h_rs 13 20 = some (1320, false)) (by decide)
  have ahc : h_ad z a0 20 = hc := h_ad.at rhc
  obtain ⟨it, rit, tit⟩ := hR.at a0 21 t_a0 (rfl : h_rs 13 21 = some (1321, false)) (by decide)
  have ait : h_ad z a0 21 = it := h_ad.at rit
  obtain ⟨us, rus, tus⟩ := hR.at a0 24 t_a0 (rfl : h_rs 13 24 = some (1324, false)) (by decide)
  have aus : h_ad z a0 24 = us := h_ad.at rus
  obtain ⟨lw, rlw, tlw⟩ := hR.at a0 10 t_a0 (rfl : h_rs 13 10 = some (1310, false)) (by decide)
  have alw : h_ad z a0 10 = lw := h_ad.at rlw
  obtain ⟨hy, rhy, thy⟩ := hR.at a0 11 t_a0 (rfl : h_rs 13 11 = some (1311, false)) (by decide)
  have ahy : h_ad z a0 11 = hy := h_ad.at rhy
  obtain ⟨f0_12, ef0_12⟩ : ∃ v : Int32, v = I0 a0 12 := ⟨_, rfl⟩
  have qf0_12 : (I0 a0 12).toInt = f0_12.toInt := congrArg Int32.toInt ef0_12.symm
  have jf0_12 := hI.rd a0 12 t_a0 ef0_12 (rfl : h_bd 13 12 = (0, 9))
  obtain ⟨f0_13, ef0_13⟩ : ∃ v : Int32, v = I0 a0 13 := ⟨_, rfl⟩
  have qf0_13 : (I0 a0 13).toInt = f0_13.toInt := congrArg Int32.toInt ef0_13.symm
  have jf0_13 := hI.rd a0 13 t_a0 ef0_13 (rfl : h_bd 13 13 = (0, 60))
  have hr0 := hrl
  rw [ahy, alw, qf0_12] at hrl
  refine lv_aload_n hx hb dX12_sign_0 rfl (lv_at hl 0 rfl) ?_
  refine lv_iload_n hx hb dX12_sign_1 rfl (lv_at hl 1 rfl) ?_
  refine lv_iload_n hx hb dX12_sign_2 rfl (lv_at hl 2 rfl) ?_
  refine lv_iload_n hx hb dX12_sign_3 rfl (lv_at hl 3 rfl) ?_
  refine lv_iload hx hb dX12_sign_4 (lv_at hl 4 rfl) ?_
  refine lv_iload hx hb dX12_sign_6 (lv_at hl 5 rfl) ?_
  refine lv_iload hx hb dX12_sign_8 (lv_at hl 6 rfl) ?_
  refine lv_iload hx hb dX12_sign_10 (lv_at hl 7 rfl) ?_
  refine vp_callSi (W.runV (As := [.int p, .int c, .int y, .int n, .int u, .int q, .int h]) (rest := []) ⟨hx, hb, hml, hown, hts⟩ (tX12_isDealB l E X A z I0 L0 a0 t_a0 p (p_t) h_p c (c_t) h_c y (y_t) h_y n (n_t) h_n u (u_t) h_u q (q_t) h_q h (h_t) h_h (by omega)) (cwV 7 hts gX12_sign_X12_isDeal rfl rfl rfl (by decide +kernel) ⟨Nat.le_of_ble_eq_true rfl, Nat.le_of_ble_eq_true rfl⟩) ⟨h_blind _ _ _ _ _ _ _, h_recv g t_a0 (by decide) so_13 (q := (RX12, TX12, 51)) rfl, h_pre _ hE hk hX hA hI hR g⟩ rfl rfl hl.1 rfl (lv_room (Nat.le_of_ble_eq_true rfl)) dX12_sign_12 ⟨Nat.le_of_ble_eq_true rfl, Nat.le_of_ble_eq_true rfl⟩) (fun rh1 h1 => ?_)
  rcases h1 with ⟨rfl, h1⟩ | ⟨rfl, h1⟩
  · skip
    refine lv_if_ne (tgt := 21) hx hb dX12_sign_15 (by decide) (fun h => absurd (by decide) h) (fun _ => ?_)
    refine lv_bipush (v := (-2)) hx hb dX12_sign_18 (by decide) ?_
    have hS := g.2.1
    exact W.iret (v := (-2)) hx hb hr (fun t ht hW => ⟨⟨(-2), I0, rfl, ⟨hI, hF, (Or.inl ⟨by omega, by decide, rfl⟩)⟩, h_ret g ht⟩, hS.F ht⟩) hS.2.2 dX12_sign_20
  · skip
    have kp : p.toNatClampNeg = p_t.toNat := h_keq h_p (by omega) (by omega)
    have kc : c.toNatClampNeg = c_t.toNat := h_keq h_c (by omega) (by omega)
    have okp := h1
    refine lv_if_ne (tgt := 21) hx hb dX12_sign_15 (by decide) (fun _ => ?_) (fun h => absurd h (by decide))
    refine lv_aload_n hx hb dX12_sign_21 rfl (lv_at hl 0 rfl) ?_
    refine lv_iload_n hx hb dX12_sign_22 rfl (lv_at hl 1 rfl) ?_
    refine lv_iload_n hx hb dX12_sign_23 rfl (lv_at hl 2 rfl) ?_
    refine lv_iload_n hx hb dX12_sign_24 rfl (lv_at hl 3 rfl) ?_
    refine lv_iload hx hb dX12_sign_25 (lv_at hl 4 rfl) ?_
    refine vp_callSi (W.runV (As := [.int p, .int c, .int y, .int n]) (rest := []) ⟨hx, hb, hml, hown, hts⟩ (tX12_wrongOfB l E X A z I0 L0 a0 t_a0 p (p_t) h_p (by omega) c (c_t) h_c (by omega) y (y_t) h_y n (n_t) h_n (u_) (hr0) (hob) (hpb)) (cwV 4 hts gX12_sign_X12_wrongOf rfl rfl rfl (by decide +kernel) ⟨Nat.le_of_ble_eq_true rfl, Nat.le_of_ble_eq_true rfl⟩) ⟨h_blind _ _ _ _ _ _ _, h_recv g t_a0 (by decide) so_13 (q := (RX12, TX12, 51)) rfl, h_pre _ hE hk hX hA hI hR g⟩ rfl rfl hl.1 rfl (lv_room (Nat.le_of_ble_eq_true rfl)) dX12_sign_27 ⟨Nat.le_of_ble_eq_true rfl, Nat.le_of_ble_eq_true rfl⟩) (fun rh4 h4 => ?_)
    obtain ⟨h4, h4p0⟩ := h4
    refine lv_if_eq (tgt := 35) hx hb dX12_sign_30 (by decide) (fun c5 => ?_) (fun c5 => ?_)
    · have ic5 := (xi_eq c5 rfl (by decide) : rh4.toInt = 0)
      refine lv_aload_n hx hb dX12_sign_35 rfl (lv_at hl 0 rfl) ?_
      refine h_get (v := .ref us) hx hb hts iX12 hown g t_a0 (by decide) so_13 rfl 24 (by decide) (hts (.fieldLink RX12 55 "CapLeagueModel" "usedSpare" "[Z") (by decide +kernel)) rfl dX12_sign_36 (by show va_rf (z.R a0 24) = _; rw [rus]; rfl) ?_
      refine lv_iload_n hx hb dX12_sign_39 rfl (lv_at hl 2 rfl) ?_
      refine lv_aload_n hx hb dX12_sign_40 rfl (lv_at hl 0 rfl) ?_
      refine h_get (v := .ref us) hx hb hts iX12 hown g t_a0 (by decide) so_13 rfl 24 (by decide) (hts (.fieldLink RX12 55 "CapLeagueModel" "usedSpare" "[Z") (by decide +kernel)) rfl dX12_sign_41 (by show va_rf (z.R a0 24) = _; rw [rus]; rfl) ?_
      refine lv_iload_n hx hb dX12_sign_44 rfl (lv_at hl 2 rfl) ?_
      refine h_zald hx hb g tus (by decide) so_1324 (xi_in (by rw [h_c]; omega) (by rw [h_c]; omega)) dX12_sign_45 ?_
      refine lv_topi (fun v6 ev6 => ?_)
      have jv6 := hI.rd us c.toNatClampNeg tus ev6 (rfl : h_bd 1324 _ = (0, 1))
      refine lv_if_ne (tgt := 73) hx hb dX12_sign_46 (by decide) (fun c7 => ?_) (fun c7 => ?_)
      · have ic7 := (xi_ne c7 rfl (by decide) : v6.toInt ≠ 0)
        refine lv_iconst (v := 1) hx hb dX12_sign_73 (by decide) ?_
        refine lv_goto (tgt := 78) hx hb dX12_sign_74 (by decide) ?_
        refine h_zast hx hb g tus (by decide) so_1324 (xi_in (by rw [h_c]; omega) (by rw [h_c]; omega)) dX12_sign_78 (fun I8 H locs eI8 g => ?_)
        rw [h_nz (by decide) (by decide)] at eI8
        have hI := hI.wr eI8 tus (rfl : h_bd 1324 _ = (0, 1)) (by decide) (by decide)
        have hF := hF.wr eI8 tus rfl
        refine lv_aload_n hx hb dX12_sign_79 rfl (lv_at hl 0 rfl) ?_
        refine h_get (v := .ref cb) hx hb hts iX12 hown g t_a0 (by decide) so_13 rfl 14 (by decide) (hts (.fieldLink RX12 25 "CapLeagueModel" "clubOf" "[I") (by decide +kernel)) rfl dX12_sign_80 (by show va_rf (z.R a0 14) = _; rw [rcb]; rfl) ?_
        refine lv_iload_n hx hb dX12_sign_83 rfl (lv_at hl 1 rfl) ?_
        refine lv_iload_n hx hb dX12_sign_84 rfl (lv_at hl 2 rfl) ?_
        refine h_ast hx hb g tcb (by decide) so_1314 (xi_in (by rw [h_p]; omega) (by rw [h_p]; omega)) dX12_sign_85 (fun I9 H locs eI9 g => ?_)
        have hI := hI.wr eI9 tcb (rfl : h_bd 1314 _ = ((-1), 7)) (by rw [h_c]; omega) (by rw [h_c]; omega)
        have hF := hF.wr eI9 tcb rfl
        refine lv_aload_n hx hb dX12_sign_86 rfl (lv_at hl 0 rfl) ?_
        refine h_get (v := .ref fi) hx hb hts iX12 hown g t_a0 (by decide) so_13 rfl 15 (by decide) (hts (.fieldLink RX12 28 "CapLeagueModel" "first" "[I") (by decide +kernel)) rfl dX12_sign_87 (by show va_rf (z.R a0 15) = _; rw [rfi]; rfl) ?_
        refine lv_iload_n hx hb dX12_sign_90 rfl (lv_at hl 1 rfl) ?_
        refine lv_aload_n hx hb dX12_sign_91 rfl (lv_at hl 0 rfl) ?_
        refine h_get (v := .int f0_12) hx hb hts iX12 hown g t_a0 (by decide) so_13 rfl 12 (by decide) (hts (.fieldLink RX12 187 "CapLeagueModel" "clock" "I") (by decide +kernel)) rfl dX12_sign_92 (congrArg Value.int ((h_n1 eI9 t_a0 tcb (by decide)).trans ((h_n1 eI8 t_a0 tus (by decide)).trans (ef0_12.symm)))) ?_
        refine h_ast hx hb g tfi (by decide) so_1315 (xi_in (by rw [h_p]; omega) (by rw [h_p]; omega)) dX12_sign_95 (fun I10 H locs eI10 g => ?_)
        have hI := hI.wr eI10 tfi (rfl : h_bd 1315 _ = ((-2147483648), 2147483647)) (xi_lo _) (Int.le_of_lt_add_one (xi_hi _))
        have hF := hF.wr eI10 tfi rfl
        refine lv_aload_n hx hb dX12_sign_96 rfl (lv_at hl 0 rfl) ?_
        refine h_get (v := .ref la) hx hb hts iX12 hown g t_a0 (by decide) so_13 rfl 16 (by decide) (hts (.fieldLink RX12 31 "CapLeagueModel" "last" "[I") (by decide +kernel)) rfl dX12_sign_97 (by show va_rf (z.R a0 16) = _; rw [rla]; rfl) ?_
        refine lv_iload_n hx hb dX12_sign_100 rfl (lv_at hl 1 rfl) ?_
        refine lv_aload_n hx hb dX12_sign_101 rfl (lv_at hl 0 rfl) ?_
        refine h_get (v := .int f0_12) hx hb hts iX12 hown g t_a0 (by decide) so_13 rfl 12 (by decide) (hts (.fieldLink RX12 187 "CapLeagueModel" "clock" "I") (by decide +kernel)) rfl dX12_sign_102 (congrArg Value.int ((h_n1 eI10 t_a0 tfi (by decide)).trans ((h_n1 eI9 t_a0 tcb (by decide)).trans ((h_n1 eI8 t_a0 tus (by decide)).trans (ef0_12.symm))))) ?_
        refine lv_iload_n hx hb dX12_sign_105 rfl (lv_at hl 3 rfl) ?_
        refine lv_iadd hx hb dX12_sign_106 ?_
        refine lv_topi (fun v11 ev11 => ?_)
        have jv11 : v11.toInt = f0_12.toInt + y_t := xi_add ev11 rfl h_y (by omega) (by omega)
        refine lv_iconst (v := 1) hx hb dX12_sign_107 (by decide) ?_
        refine lv_isub hx hb dX12_sign_108 ?_
        refine lv_topi (fun v12 ev12 => ?_)
        have jv12 : v12.toInt = v11.toInt - 1 := xi_sub ev12 rfl (by decide) (by omega) (by omega)
        refine h_ast hx hb g tla (by decide) so_1316 (xi_in (by rw [h_p]; omega) (by rw [h_p]; omega)) dX12_sign_109 (fun I13 H locs eI13 g => ?_)
        have hI := hI.wr eI13 tla (rfl : h_bd 1316 _ = ((-2147483648), 2147483647)) (xi_lo _) (Int.le_of_lt_add_one (xi_hi _))
        have hF := hF.wr eI13 tla rfl
        refine lv_aload_n hx hb dX12_sign_110 rfl (lv_at hl 0 rfl) ?_
        refine h_get (v := .ref pa) hx hb hts iX12 hown g t_a0 (by decide) so_13 rfl 17 (by decide) (hts (.fieldLink RX12 34 "CapLeagueModel" "pay" "[I") (by decide +kernel)) rfl dX12_sign_111 (by show va_rf (z.R a0 17) = _; rw [rpa]; rfl) ?_
        refine lv_iload_n hx hb dX12_sign_114 rfl (lv_at hl 1 rfl) ?_
        refine lv_iload hx hb dX12_sign_115 (lv_at hl 4 rfl) ?_
        refine h_ast hx hb g tpa (by decide) so_1317 (xi_in (by rw [h_p]; omega) (by rw [h_p]; omega)) dX12_sign_117 (fun I14 H locs eI14 g => ?_)
        have hI := hI.wr eI14 tpa (rfl : h_bd 1317 _ = ((-2147483648), 2147483647)) (xi_lo _) (Int.le_of_lt_add_one (xi_hi _))
        have hF := hF.wr eI14 tpa rfl
        refine lv_aload_n hx hb dX12_sign_118 rfl (lv_at hl 0 rfl) ?_
        refine h_get (v := .ref ri) hx hb hts iX12 hown g t_a0 (by decide) so_13 rfl 18 (by decide) (hts (.fieldLink RX12 37 "CapLeagueModel" "rise" "[I") (by decide +kernel)) rfl dX12_sign_119 (by show va_rf (z.R a0 18) = _; rw [rri]; rfl) ?_
        refine lv_iload_n hx hb dX12_sign_122 rfl (lv_at hl 1 rfl) ?_
        refine lv_iload hx hb dX12_sign_123 (lv_at hl 5 rfl) ?_
        refine h_ast hx hb g tri (by decide) so_1318 (xi_in (by rw [h_p]; omega) (by rw [h_p]; omega)) dX12_sign_125 (fun I15 H locs eI15 g => ?_)
        have hI := hI.wr eI15 tri (rfl : h_bd 1318 _ = ((-2147483648), 2147483647)) (xi_lo _) (Int.le_of_lt_add_one (xi_hi _))
        have hF := hF.wr eI15 tri rfl
        refine lv_aload_n hx hb dX12_sign_126 rfl (lv_at hl 0 rfl) ?_
        refine h_get (v := .ref su) hx hb hts iX12 hown g t_a0 (by decide) so_13 rfl 19 (by decide) (hts (.fieldLink RX12 40 "CapLeagueModel" "sure" "[I") (by decide +kernel)) rfl dX12_sign_127 (by show va_rf (z.R a0 19) = _; rw [rsu]; rfl) ?_
        refine lv_iload_n hx hb dX12_sign_130 rfl (lv_at hl 1 rfl) ?_
        refine lv_iload hx hb dX12_sign_131 (lv_at hl 6 rfl) ?_
        refine h_ast hx hb g tsu (by decide) so_1319 (xi_in (by rw [h_p]; omega) (by rw [h_p]; omega)) dX12_sign_133 (fun I16 H locs eI16 g => ?_)
        have hI := hI.wr eI16 tsu (rfl : h_bd 1319 _ = ((-2147483648), 2147483647)) (xi_lo _) (Int.le_of_lt_add_one (xi_hi _))
        have hF := hF.wr eI16 tsu rfl
        refine lv_aload_n hx hb dX12_sign_134 rfl (lv_at hl 0 rfl) ?_
        refine h_get (v := .ref hc) hx hb hts iX12 hown g t_a0 (by decide) so_13 rfl 20 (by decide) (hts (.fieldLink RX12 43 "CapLeagueModel" "hasChoice" "[Z") (by decide +kernel)) rfl dX12_sign_135 (by show va_rf (z.R a0 20) = _; rw [rhc]; rfl) ?_
        refine lv_iload_n hx hb dX12_sign_138 rfl (lv_at hl 1 rfl) ?_
        refine lv_iload hx hb dX12_sign_139 (lv_at hl 7 rfl) ?_
        refine h_zast hx hb g thc (by decide) so_1320 (xi_in (by rw [h_p]; omega) (by rw [h_p]; omega)) dX12_sign_141 (fun I17 H locs eI17 g => ?_)
        rw [h_nz (by rw [h_h]; omega) (by rw [h_h]; omega)] at eI17
        have hI := hI.wr eI17 thc (rfl : h_bd 1320 _ = (0, 1)) (by rw [h_h]; omega) (by rw [h_h]; omega)
        have hF := hF.wr eI17 thc rfl
        refine lv_aload_n hx hb dX12_sign_142 rfl (lv_at hl 0 rfl) ?_
        refine h_get (v := .ref it) hx hb hts iX12 hown g t_a0 (by decide) so_13 rfl 21 (by decide) (hts (.fieldLink RX12 46 "CapLeagueModel" "isTaken" "[Z") (by decide +kernel)) rfl dX12_sign_143 (by show va_rf (z.R a0 21) = _; rw [rit]; rfl) ?_
        refine lv_iload_n hx hb dX12_sign_146 rfl (lv_at hl 1 rfl) ?_
        refine lv_iconst (v := 0) hx hb dX12_sign_147 (by decide) ?_
        refine h_zast hx hb g tit (by decide) so_1321 (xi_in (by rw [h_p]; omega) (by rw [h_p]; omega)) dX12_sign_148 (fun I18 H locs eI18 g => ?_)
        rw [h_nz (by decide) (by decide)] at eI18
        have hI := hI.wr eI18 tit (rfl : h_bd 1321 _ = (0, 1)) (by decide) (by decide)
        have hF := hF.wr eI18 tit rfl
        refine lv_aload_n hx hb dX12_sign_149 rfl (lv_at hl 0 rfl) ?_
        refine lv_iconst (v := 0) hx hb dX12_sign_150 (by decide) ?_
        refine h_putI (ty := .int) (v := 0) hx hb hts iX12 tyX12 tyX12_ok nmX12 hown g t_a0 (by decide) so_13 rfl 33 (by decide) rfl (hts (.fieldLink RX12 247 "CapLeagueModel" "moves" "I") (by decide +kernel)) rfl rfl (by decide +kernel) rfl rfl dX12_sign_151 (fun I19 H locs eI19 g => ?_)
        have hI := hI.wr eI19 t_a0 (rfl : h_bd 13 33 = (0, 12)) (by decide) (by decide)
        have hF := hF.wr eI19 t_a0 rfl
        refine lv_iconst (v := 1) hx hb dX12_sign_154 (by decide) ?_
        have hS := g.2.1
        exact W.iret (v := 1) hx hb hr (fun t ht hW => ⟨⟨1, I19, rfl, ⟨hI, hF, (by refine Or.inr ⟨by omega, rh4.toInt, h4p0, ?_⟩; rw [acb, afi, ala, apa, ari, asu, ahc, ait, aus, ← kp, ← kc]; exact Or.inr ⟨by omega, by decide, ⟨(h_n1 eI19 tcb t_a0 (by decide)).trans ((h_n1 eI18 tcb tit (by decide)).trans ((h_n1 eI17 tcb thc (by decide)).trans ((h_n1 eI16 tcb tsu (by decide)).trans ((h_n1 eI15 tcb tri (by decide)).trans ((h_n1 eI14 tcb tpa (by decide)).trans ((h_n1 eI13 tcb tla (by decide)).trans ((h_n1 eI10 tcb tfi (by decide)).trans (h_n0 eI9)))))))), ((h_n1 eI19 tfi t_a0 (by decide)).trans ((h_n1 eI18 tfi tit (by decide)).trans ((h_n1 eI17 tfi thc (by decide)).trans ((h_n1 eI16 tfi tsu (by decide)).trans ((h_n1 eI15 tfi tri (by decide)).trans ((h_n1 eI14 tfi tpa (by decide)).trans ((h_n1 eI13 tfi tla (by decide)).trans (h_n0 eI10)))))))).trans ef0_12, ((h_n1 eI19 tla t_a0 (by decide)).trans ((h_n1 eI18 tla tit (by decide)).trans ((h_n1 eI17 tla thc (by decide)).trans ((h_n1 eI16 tla tsu (by decide)).trans ((h_n1 eI15 tla tri (by decide)).trans ((h_n1 eI14 tla tpa (by decide)).trans (h_n0 eI13))))))).trans (by rw [ev12, ev11, ef0_12]), (h_n1 eI19 tpa t_a0 (by decide)).trans ((h_n1 eI18 tpa tit (by decide)).trans ((h_n1 eI17 tpa thc (by decide)).trans ((h_n1 eI16 tpa tsu (by decide)).trans ((h_n1 eI15 tpa tri (by decide)).trans (h_n0 eI14))))), (h_n1 eI19 tri t_a0 (by decide)).trans ((h_n1 eI18 tri tit (by decide)).trans ((h_n1 eI17 tri thc (by decide)).trans ((h_n1 eI16 tri tsu (by decide)).trans (h_n0 eI15)))), (h_n1 eI19 tsu t_a0 (by decide)).trans ((h_n1 eI18 tsu tit (by decide)).trans ((h_n1 eI17 tsu thc (by decide)).trans (h_n0 eI16))), (h_n1 eI19 thc t_a0 (by decide)).trans ((h_n1 eI18 thc tit (by decide)).trans (h_n0 eI17)), (h_n1 eI19 tit t_a0 (by decide)).trans (h_n0 eI18)⟩, fun k hk => ⟨(h_n1 eI19 tcb t_a0 (by decide)).trans ((h_n1 eI18 tcb tit (by decide)).trans ((h_n1 eI17 tcb thc (by decide)).trans ((h_n1 eI16 tcb tsu (by decide)).trans ((h_n1 eI15 tcb tri (by decide)).trans ((h_n1 eI14 tcb tpa (by decide)).trans ((h_n1 eI13 tcb tla (by decide)).trans ((h_n1 eI10 tcb tfi (by decide)).trans ((h_n2 eI9 hk).trans (h_n1 eI8 tcb tus (by decide)))))))))), (h_n1 eI19 tfi t_a0 (by decide)).trans ((h_n1 eI18 tfi tit (by decide)).trans ((h_n1 eI17 tfi thc (by decide)).trans ((h_n1 eI16 tfi tsu (by decide)).trans ((h_n1 eI15 tfi tri (by decide)).trans ((h_n1 eI14 tfi tpa (by decide)).trans ((h_n1 eI13 tfi tla (by decide)).trans ((h_n2 eI10 hk).trans ((h_n1 eI9 tfi tcb (by decide)).trans (h_n1 eI8 tfi tus (by decide)))))))))), (h_n1 eI19 tla t_a0 (by decide)).trans ((h_n1 eI18 tla tit (by decide)).trans ((h_n1 eI17 tla thc (by decide)).trans ((h_n1 eI16 tla tsu (by decide)).trans ((h_n1 eI15 tla tri (by decide)).trans ((h_n1 eI14 tla tpa (by decide)).trans ((h_n2 eI13 hk).trans ((h_n1 eI10 tla tfi (by decide)).trans ((h_n1 eI9 tla tcb (by decide)).trans (h_n1 eI8 tla tus (by decide)))))))))), (h_n1 eI19 tpa t_a0 (by decide)).trans ((h_n1 eI18 tpa tit (by decide)).trans ((h_n1 eI17 tpa thc (by decide)).trans ((h_n1 eI16 tpa tsu (by decide)).trans ((h_n1 eI15 tpa tri (by decide)).trans ((h_n2 eI14 hk).trans ((h_n1 eI13 tpa tla (by decide)).trans ((h_n1 eI10 tpa tfi (by decide)).trans ((h_n1 eI9 tpa tcb (by decide)).trans (h_n1 eI8 tpa tus (by decide)))))))))), (h_n1 eI19 tri t_a0 (by decide)).trans ((h_n1 eI18 tri tit (by decide)).trans ((h_n1 eI17 tri thc (by decide)).trans ((h_n1 eI16 tri tsu (by decide)).trans ((h_n2 eI15 hk).trans ((h_n1 eI14 tri tpa (by decide)).trans ((h_n1 eI13 tri tla (by decide)).trans ((h_n1 eI10 tri tfi (by decide)).trans ((h_n1 eI9 tri tcb (by decide)).trans (h_n1 eI8 tri tus (by decide)))))))))), (h_n1 eI19 tsu t_a0 (by decide)).trans ((h_n1 eI18 tsu tit (by decide)).trans ((h_n1 eI17 tsu thc (by decide)).trans ((h_n2 eI16 hk).trans ((h_n1 eI15 tsu tri (by decide)).trans ((h_n1 eI14 tsu tpa (by decide)).trans ((h_n1 eI13 tsu tla (by decide)).trans ((h_n1 eI10 tsu tfi (by decide)).trans ((h_n1 eI9 tsu tcb (by decide)).trans (h_n1 eI8 tsu tus (by decide)))))))))), (h_n1 eI19 thc t_a0 (by decide)).trans ((h_n1 eI18 thc tit (by decide)).trans ((h_n2 eI17 hk).trans ((h_n1 eI16 thc tsu (by decide)).trans ((h_n1 eI15 thc tri (by decide)).trans ((h_n1 eI14 thc tpa (by decide)).trans ((h_n1 eI13 thc tla (by decide)).trans ((h_n1 eI10 thc tfi (by decide)).trans ((h_n1 eI9 thc tcb (by decide)).trans (h_n1 eI8 thc tus (by decide)))))))))), (h_n1 eI19 tit t_a0 (by decide)).trans ((h_n2 eI18 hk).trans ((h_n1 eI17 tit thc (by decide)).trans ((h_n1 eI16 tit tsu (by decide)).trans ((h_n1 eI15 tit tri (by decide)).trans ((h_n1 eI14 tit tpa (by decide)).trans ((h_n1 eI13 tit tla (by decide)).trans ((h_n1 eI10 tit tfi (by decide)).trans ((h_n1 eI9 tit tcb (by decide)).trans (h_n1 eI8 tit tus (by decide))))))))))⟩, Or.inl ⟨Or.inl (by rw [ev6.symm]; omega), (h_n1 eI19 tus t_a0 (by decide)).trans ((h_n1 eI18 tus tit (by decide)).trans ((h_n1 eI17 tus thc (by decide)).trans ((h_n1 eI16 tus tsu (by decide)).trans ((h_n1 eI15 tus tri (by decide)).trans ((h_n1 eI14 tus tpa (by decide)).trans ((h_n1 eI13 tus tla (by decide)).trans ((h_n1 eI10 tus tfi (by decide)).trans ((h_n1 eI9 tus tcb (by decide)).trans (h_n0 eI8)))))))))⟩, fun k hk => (h_n1 eI19 tus t_a0 (by decide)).trans ((h_n1 eI18 tus tit (by decide)).trans ((h_n1 eI17 tus thc (by decide)).trans ((h_n1 eI16 tus tsu (by decide)).trans ((h_n1 eI15 tus tri (by decide)).trans ((h_n1 eI14 tus tpa (by decide)).trans ((h_n1 eI13 tus tla (by decide)).trans ((h_n1 eI10 tus tfi (by decide)).trans ((h_n1 eI9 tus tcb (by decide)).trans (h_n2 eI8 hk))))))))), h_n0 eI19⟩)⟩, h_ret g ht⟩, hS.F ht⟩) hS.2.2 dX12_sign_155
      · have ic7 := (xi_eq c7 rfl (by decide) : v6.toInt = 0)
        refine lv_aload_n hx hb dX12_sign_49 rfl (lv_at hl 0 rfl) ?_
        refine lv_iload_n hx hb dX12_sign_50 rfl (lv_at hl 2 rfl) ?_
        refine lv_aload_n hx hb dX12_sign_51 rfl (lv_at hl 0 rfl) ?_
        refine h_get (v := .int f0_12) hx hb hts iX12 hown g t_a0 (by decide) so_13 rfl 12 (by decide) (hts (.fieldLink RX12 187 "CapLeagueModel" "clock" "I") (by decide +kernel)) rfl dX12_sign_52 (congrArg Value.int (ef0_12.symm)) ?_
        refine vp_callSi (W.runV (As := [.int c, .int f0_12]) (rest := [.int c, .ref us]) ⟨hx, hb, hml, hown, hts⟩ (tX12_countsB l E X A z I0 L0 a0 t_a0 c (c_t) h_c (by omega) f0_12 (f0_12.toInt) rfl (by omega) (u_) (hr0) (hob) (by rw [ef0_12]; exact hpb)) (cwV 2 hts gX12_sign_X12_counts rfl rfl rfl (by decide +kernel) ⟨Nat.le_of_ble_eq_true rfl, Nat.le_of_ble_eq_true rfl⟩) ⟨h_blind _ _ _ _ _ _ _, h_recv g t_a0 (by decide) so_13 (q := (RX12, TX12, 51)) rfl, h_pre _ hE hk hX hA hI hR g⟩ rfl rfl hl.1 rfl (lv_room (Nat.le_of_ble_eq_true rfl)) dX12_sign_55 ⟨Nat.le_of_ble_eq_true rfl, Nat.le_of_ble_eq_true rfl⟩) (fun rh20 h20 => ?_)
        have h20p0 := h20
        have jrh20 : -2147483648 ≤ rh20.toInt ∧ rh20.toInt ≤ 2147483647 := ⟨xi_lo _, Int.le_of_lt_add_one (xi_hi _)⟩
        rw [ef0_12] at h20p0
        refine lv_iload hx hb dX12_sign_58 (lv_at hl 4 rfl) ?_
        refine lv_iadd hx hb dX12_sign_60 ?_
        refine lv_topi (fun v21 ev21 => ?_)
        have jv21 : -2147483648 ≤ v21.toInt ∧ v21.toInt ≤ 2147483647 := ⟨xi_lo _, Int.le_of_lt_add_one (xi_hi _)⟩
        refine lv_aload_n hx hb dX12_sign_61 rfl (lv_at hl 0 rfl) ?_
        refine lv_aload_n hx hb dX12_sign_62 rfl (lv_at hl 0 rfl) ?_
        refine h_get (v := .int f0_12) hx hb hts iX12 hown g t_a0 (by decide) so_13 rfl 12 (by decide) (hts (.fieldLink RX12 187 "CapLeagueModel" "clock" "I") (by decide +kernel)) rfl dX12_sign_63 (congrArg Value.int (ef0_12.symm)) ?_
        refine lv_iconst (v := 0) hx hb dX12_sign_66 (by decide) ?_
        refine vp_callSi (W.runV (As := [.int f0_12, .int 0]) (rest := [.int v21, .int c, .ref us]) ⟨hx, hb, hml, hown, hts⟩ (tX12_lawOfF l E X A z I0 L0 a0 t_a0 f0_12 (f0_12.toInt) rfl (by omega) 0 (0) (by decide) (by omega)) (cwV 2 hts gX12_sign_X12_lawOf rfl rfl rfl (by decide +kernel) ⟨Nat.le_of_ble_eq_true rfl, Nat.le_of_ble_eq_true rfl⟩) ⟨h_blind _ _ _ _ _ _ _, h_recv g t_a0 (by decide) so_13 (q := (RX12, TX12, 51)) rfl, h_pre _ hE hk hX hA hI hR g⟩ rfl rfl hl.1 rfl (lv_room (Nat.le_of_ble_eq_true rfl)) dX12_sign_67 ⟨Nat.le_of_ble_eq_true rfl, Nat.le_of_ble_eq_true rfl⟩) (fun rh22 h22 => ?_)
        obtain ⟨h22p0, h22p1, h22p2⟩ := h22
        have jrh22 : -2147483648 ≤ rh22.toInt ∧ rh22.toInt ≤ 2147483647 := ⟨xi_lo _, Int.le_of_lt_add_one (xi_hi _)⟩
        rw [alw, ahy] at h22p0
        have grh22 := hrl.at (x := 0) (by decide) h22p0
        clear h22p0
        refine lv_icmp_le (tgt := 77) hx hb dX12_sign_70 (by decide) (fun c23 => ?_) (fun c23 => ?_)
        · have ic23 := (xi_le c23 rfl rfl : v21.toInt ≤ rh22.toInt)
          refine lv_iconst (v := 0) hx hb dX12_sign_77 (by decide) ?_
          refine h_zast hx hb g tus (by decide) so_1324 (xi_in (by rw [h_c]; omega) (by rw [h_c]; omega)) dX12_sign_78 (fun I24 H locs eI24 g => ?_)
          rw [h_nz (by decide) (by decide)] at eI24
          have hI := hI.wr eI24 tus (rfl : h_bd 1324 _ = (0, 1)) (by decide) (by decide)
          have hF := hF.wr eI24 tus rfl
          refine lv_aload_n hx hb dX12_sign_79 rfl (lv_at hl 0 rfl) ?_
          refine h_get (v := .ref cb) hx hb hts iX12 hown g t_a0 (by decide) so_13 rfl 14 (by decide) (hts (.fieldLink RX12 25 "CapLeagueModel" "clubOf" "[I") (by decide +kernel)) rfl dX12_sign_80 (by show va_rf (z.R a0 14) = _; rw [rcb]; rfl) ?_
          refine lv_iload_n hx hb dX12_sign_83 rfl (lv_at hl 1 rfl) ?_
          refine lv_iload_n hx hb dX12_sign_84 rfl (lv_at hl 2 rfl) ?_
          refine h_ast hx hb g tcb (by decide) so_1314 (xi_in (by rw [h_p]; omega) (by rw [h_p]; omega)) dX12_sign_85 (fun I25 H locs eI25 g => ?_)
          have hI := hI.wr eI25 tcb (rfl : h_bd 1314 _ = ((-1), 7)) (by rw [h_c]; omega) (by rw [h_c]; omega)
          have hF := hF.wr eI25 tcb rfl
          refine lv_aload_n hx hb dX12_sign_86 rfl (lv_at hl 0 rfl) ?_
          refine h_get (v := .ref fi) hx hb hts iX12 hown g t_a0 (by decide) so_13 rfl 15 (by decide) (hts (.fieldLink RX12 28 "CapLeagueModel" "first" "[I") (by decide +kernel)) rfl dX12_sign_87 (by show va_rf (z.R a0 15) = _; rw [rfi]; rfl) ?_
          refine lv_iload_n hx hb dX12_sign_90 rfl (lv_at hl 1 rfl) ?_
          refine lv_aload_n hx hb dX12_sign_91 rfl (lv_at hl 0 rfl) ?_
          refine h_get (v := .int f0_12) hx hb hts iX12 hown g t_a0 (by decide) so_13 rfl 12 (by decide) (hts (.fieldLink RX12 187 "CapLeagueModel" "clock" "I") (by decide +kernel)) rfl dX12_sign_92 (congrArg Value.int ((h_n1 eI25 t_a0 tcb (by decide)).trans ((h_n1 eI24 t_a0 tus (by decide)).trans (ef0_12.symm)))) ?_
          refine h_ast hx hb g tfi (by decide) so_1315 (xi_in (by rw [h_p]; omega) (by rw [h_p]; omega)) dX12_sign_95 (fun I26 H locs eI26 g => ?_)
          have hI := hI.wr eI26 tfi (rfl : h_bd 1315 _ = ((-2147483648), 2147483647)) (xi_lo _) (Int.le_of_lt_add_one (xi_hi _))
          have hF := hF.wr eI26 tfi rfl
          refine lv_aload_n hx hb dX12_sign_96 rfl (lv_at hl 0 rfl) ?_
          refine h_get (v := .ref la) hx hb hts iX12 hown g t_a0 (by decide) so_13 rfl 16 (by decide) (hts (.fieldLink RX12 31 "CapLeagueModel" "last" "[I") (by decide +kernel)) rfl dX12_sign_97 (by show va_rf (z.R a0 16) = _; rw [rla]; rfl) ?_
          refine lv_iload_n hx hb dX12_sign_100 rfl (lv_at hl 1 rfl) ?_
          refine lv_aload_n hx hb dX12_sign_101 rfl (lv_at hl 0 rfl) ?_
          refine h_get (v := .int f0_12) hx hb hts iX12 hown g t_a0 (by decide) so_13 rfl 12 (by decide) (hts (.fieldLink RX12 187 "CapLeagueModel" "clock" "I") (by decide +kernel)) rfl dX12_sign_102 (congrArg Value.int ((h_n1 eI26 t_a0 tfi (by decide)).trans ((h_n1 eI25 t_a0 tcb (by decide)).trans ((h_n1 eI24 t_a0 tus (by decide)).trans (ef0_12.symm))))) ?_
          refine lv_iload_n hx hb dX12_sign_105 rfl (lv_at hl 3 rfl) ?_
          refine lv_iadd hx hb dX12_sign_106 ?_
          refine lv_topi (fun v27 ev27 => ?_)
          have jv27 : v27.toInt = f0_12.toInt + y_t := xi_add ev27 rfl h_y (by omega) (by omega)
          refine lv_iconst (v := 1) hx hb dX12_sign_107 (by decide) ?_
          refine lv_isub hx hb dX12_sign_108 ?_
          refine lv_topi (fun v28 ev28 => ?_)
          have jv28 : v28.toInt = v27.toInt - 1 := xi_sub ev28 rfl (by decide) (by omega) (by omega)
          refine h_ast hx hb g tla (by decide) so_1316 (xi_in (by rw [h_p]; omega) (by rw [h_p]; omega)) dX12_sign_109 (fun I29 H locs eI29 g => ?_)
          have hI := hI.wr eI29 tla (rfl : h_bd 1316 _ = ((-2147483648), 2147483647)) (xi_lo _) (Int.le_of_lt_add_one (xi_hi _))
          have hF := hF.wr eI29 tla rfl
          refine lv_aload_n hx hb dX12_sign_110 rfl (lv_at hl 0 rfl) ?_
          refine h_get (v := .ref pa) hx hb hts iX12 hown g t_a0 (by decide) so_13 rfl 17 (by decide) (hts (.fieldLink RX12 34 "CapLeagueModel" "pay" "[I") (by decide +kernel)) rfl dX12_sign_111 (by show va_rf (z.R a0 17) = _; rw [rpa]; rfl) ?_
          refine lv_iload_n hx hb dX12_sign_114 rfl (lv_at hl 1 rfl) ?_
          refine lv_iload hx hb dX12_sign_115 (lv_at hl 4 rfl) ?_
          refine h_ast hx hb g tpa (by decide) so_1317 (xi_in (by rw [h_p]; omega) (by rw [h_p]; omega)) dX12_sign_117 (fun I30 H locs eI30 g => ?_)
          have hI := hI.wr eI30 tpa (rfl : h_bd 1317 _ = ((-2147483648), 2147483647)) (xi_lo _) (Int.le_of_lt_add_one (xi_hi _))
          have hF := hF.wr eI30 tpa rfl
          refine lv_aload_n hx hb dX12_sign_118 rfl (lv_at hl 0 rfl) ?_
          refine h_get (v := .ref ri) hx hb hts iX12 hown g t_a0 (by decide) so_13 rfl 18 (by decide) (hts (.fieldLink RX12 37 "CapLeagueModel" "rise" "[I") (by decide +kernel)) rfl dX12_sign_119 (by show va_rf (z.R a0 18) = _; rw [rri]; rfl) ?_
          refine lv_iload_n hx hb dX12_sign_122 rfl (lv_at hl 1 rfl) ?_
          refine lv_iload hx hb dX12_sign_123 (lv_at hl 5 rfl) ?_
          refine h_ast hx hb g tri (by decide) so_1318 (xi_in (by rw [h_p]; omega) (by rw [h_p]; omega)) dX12_sign_125 (fun I31 H locs eI31 g => ?_)
          have hI := hI.wr eI31 tri (rfl : h_bd 1318 _ = ((-2147483648), 2147483647)) (xi_lo _) (Int.le_of_lt_add_one (xi_hi _))
          have hF := hF.wr eI31 tri rfl
          refine lv_aload_n hx hb dX12_sign_126 rfl (lv_at hl 0 rfl) ?_
          refine h_get (v := .ref su) hx hb hts iX12 hown g t_a0 (by decide) so_13 rfl 19 (by decide) (hts (.fieldLink RX12 40 "CapLeagueModel" "sure" "[I") (by decide +kernel)) rfl dX12_sign_127 (by show va_rf (z.R a0 19) = _; rw [rsu]; rfl) ?_
          refine lv_iload_n hx hb dX12_sign_130 rfl (lv_at hl 1 rfl) ?_
          refine lv_iload hx hb dX12_sign_131 (lv_at hl 6 rfl) ?_
          refine h_ast hx hb g tsu (by decide) so_1319 (xi_in (by rw [h_p]; omega) (by rw [h_p]; omega)) dX12_sign_133 (fun I32 H locs eI32 g => ?_)
          have hI := hI.wr eI32 tsu (rfl : h_bd 1319 _ = ((-2147483648), 2147483647)) (xi_lo _) (Int.le_of_lt_add_one (xi_hi _))
          have hF := hF.wr eI32 tsu rfl
          refine lv_aload_n hx hb dX12_sign_134 rfl (lv_at hl 0 rfl) ?_
          refine h_get (v := .ref hc) hx hb hts iX12 hown g t_a0 (by decide) so_13 rfl 20 (by decide) (hts (.fieldLink RX12 43 "CapLeagueModel" "hasChoice" "[Z") (by decide +kernel)) rfl dX12_sign_135 (by show va_rf (z.R a0 20) = _; rw [rhc]; rfl) ?_
          refine lv_iload_n hx hb dX12_sign_138 rfl (lv_at hl 1 rfl) ?_
          refine lv_iload hx hb dX12_sign_139 (lv_at hl 7 rfl) ?_
          refine h_zast hx hb g thc (by decide) so_1320 (xi_in (by rw [h_p]; omega) (by rw [h_p]; omega)) dX12_sign_141 (fun I33 H locs eI33 g => ?_)
          rw [h_nz (by rw [h_h]; omega) (by rw [h_h]; omega)] at eI33
          have hI := hI.wr eI33 thc (rfl : h_bd 1320 _ = (0, 1)) (by rw [h_h]; omega) (by rw [h_h]; omega)
          have hF := hF.wr eI33 thc rfl
          refine lv_aload_n hx hb dX12_sign_142 rfl (lv_at hl 0 rfl) ?_
          refine h_get (v := .ref it) hx hb hts iX12 hown g t_a0 (by decide) so_13 rfl 21 (by decide) (hts (.fieldLink RX12 46 "CapLeagueModel" "isTaken" "[Z") (by decide +kernel)) rfl dX12_sign_143 (by show va_rf (z.R a0 21) = _; rw [rit]; rfl) ?_
          refine lv_iload_n hx hb dX12_sign_146 rfl (lv_at hl 1 rfl) ?_
          refine lv_iconst (v := 0) hx hb dX12_sign_147 (by decide) ?_
          refine h_zast hx hb g tit (by decide) so_1321 (xi_in (by rw [h_p]; omega) (by rw [h_p]; omega)) dX12_sign_148 (fun I34 H locs eI34 g => ?_)
          rw [h_nz (by decide) (by decide)] at eI34
          have hI := hI.wr eI34 tit (rfl : h_bd 1321 _ = (0, 1)) (by decide) (by decide)
          have hF := hF.wr eI34 tit rfl
          refine lv_aload_n hx hb dX12_sign_149 rfl (lv_at hl 0 rfl) ?_
          refine lv_iconst (v := 0) hx hb dX12_sign_150 (by decide) ?_
          refine h_putI (ty := .int) (v := 0) hx hb hts iX12 tyX12 tyX12_ok nmX12 hown g t_a0 (by decide) so_13 rfl 33 (by decide) rfl (hts (.fieldLink RX12 247 "CapLeagueModel" "moves" "I") (by decide +kernel)) rfl rfl (by decide +kernel) rfl rfl dX12_sign_151 (fun I35 H locs eI35 g => ?_)
          have hI := hI.wr eI35 t_a0 (rfl : h_bd 13 33 = (0, 12)) (by decide) (by decide)
          have hF := hF.wr eI35 t_a0 rfl
          refine lv_iconst (v := 1) hx hb dX12_sign_154 (by decide) ?_
          have hS := g.2.1
          exact W.iret (v := 1) hx hb hr (fun t ht hW => ⟨⟨1, I35, rfl, ⟨hI, hF, (by refine Or.inr ⟨by omega, rh4.toInt, h4p0, ?_⟩; rw [acb, afi, ala, apa, ari, asu, ahc, ait, aus, ← kp, ← kc]; exact Or.inr ⟨by omega, by decide, ⟨(h_n1 eI35 tcb t_a0 (by decide)).trans ((h_n1 eI34 tcb tit (by decide)).trans ((h_n1 eI33 tcb thc (by decide)).trans ((h_n1 eI32 tcb tsu (by decide)).trans ((h_n1 eI31 tcb tri (by decide)).trans ((h_n1 eI30 tcb tpa (by decide)).trans ((h_n1 eI29 tcb tla (by decide)).trans ((h_n1 eI26 tcb tfi (by decide)).trans (h_n0 eI25)))))))), ((h_n1 eI35 tfi t_a0 (by decide)).trans ((h_n1 eI34 tfi tit (by decide)).trans ((h_n1 eI33 tfi thc (by decide)).trans ((h_n1 eI32 tfi tsu (by decide)).trans ((h_n1 eI31 tfi tri (by decide)).trans ((h_n1 eI30 tfi tpa (by decide)).trans ((h_n1 eI29 tfi tla (by decide)).trans (h_n0 eI26)))))))).trans ef0_12, ((h_n1 eI35 tla t_a0 (by decide)).trans ((h_n1 eI34 tla tit (by decide)).trans ((h_n1 eI33 tla thc (by decide)).trans ((h_n1 eI32 tla tsu (by decide)).trans ((h_n1 eI31 tla tri (by decide)).trans ((h_n1 eI30 tla tpa (by decide)).trans (h_n0 eI29))))))).trans (by rw [ev28, ev27, ef0_12]), (h_n1 eI35 tpa t_a0 (by decide)).trans ((h_n1 eI34 tpa tit (by decide)).trans ((h_n1 eI33 tpa thc (by decide)).trans ((h_n1 eI32 tpa tsu (by decide)).trans ((h_n1 eI31 tpa tri (by decide)).trans (h_n0 eI30))))), (h_n1 eI35 tri t_a0 (by decide)).trans ((h_n1 eI34 tri tit (by decide)).trans ((h_n1 eI33 tri thc (by decide)).trans ((h_n1 eI32 tri tsu (by decide)).trans (h_n0 eI31)))), (h_n1 eI35 tsu t_a0 (by decide)).trans ((h_n1 eI34 tsu tit (by decide)).trans ((h_n1 eI33 tsu thc (by decide)).trans (h_n0 eI32))), (h_n1 eI35 thc t_a0 (by decide)).trans ((h_n1 eI34 thc tit (by decide)).trans (h_n0 eI33)), (h_n1 eI35 tit t_a0 (by decide)).trans (h_n0 eI34)⟩, fun k hk => ⟨(h_n1 eI35 tcb t_a0 (by decide)).trans ((h_n1 eI34 tcb tit (by decide)).trans ((h_n1 eI33 tcb thc (by decide)).trans ((h_n1 eI32 tcb tsu (by decide)).trans ((h_n1 eI31 tcb tri (by decide)).trans ((h_n1 eI30 tcb tpa (by decide)).trans ((h_n1 eI29 tcb tla (by decide)).trans ((h_n1 eI26 tcb tfi (by decide)).trans ((h_n2 eI25 hk).trans (h_n1 eI24 tcb tus (by decide)))))))))), (h_n1 eI35 tfi t_a0 (by decide)).trans ((h_n1 eI34 tfi tit (by decide)).trans ((h_n1 eI33 tfi thc (by decide)).trans ((h_n1 eI32 tfi tsu (by decide)).trans ((h_n1 eI31 tfi tri (by decide)).trans ((h_n1 eI30 tfi tpa (by decide)).trans ((h_n1 eI29 tfi tla (by decide)).trans ((h_n2 eI26 hk).trans ((h_n1 eI25 tfi tcb (by decide)).trans (h_n1 eI24 tfi tus (by decide)))))))))), (h_n1 eI35 tla t_a0 (by decide)).trans ((h_n1 eI34 tla tit (by decide)).trans ((h_n1 eI33 tla thc (by decide)).trans ((h_n1 eI32 tla tsu (by decide)).trans ((h_n1 eI31 tla tri (by decide)).trans ((h_n1 eI30 tla tpa (by decide)).trans ((h_n2 eI29 hk).trans ((h_n1 eI26 tla tfi (by decide)).trans ((h_n1 eI25 tla tcb (by decide)).trans (h_n1 eI24 tla tus (by decide)))))))))), (h_n1 eI35 tpa t_a0 (by decide)).trans ((h_n1 eI34 tpa tit (by decide)).trans ((h_n1 eI33 tpa thc (by decide)).trans ((h_n1 eI32 tpa tsu (by decide)).trans ((h_n1 eI31 tpa tri (by decide)).trans ((h_n2 eI30 hk).trans ((h_n1 eI29 tpa tla (by decide)).trans ((h_n1 eI26 tpa tfi (by decide)).trans ((h_n1 eI25 tpa tcb (by decide)).trans (h_n1 eI24 tpa tus (by decide)))))))))), (h_n1 eI35 tri t_a0 (by decide)).trans ((h_n1 eI34 tri tit (by decide)).trans ((h_n1 eI33 tri thc (by decide)).trans ((h_n1 eI32 tri tsu (by decide)).trans ((h_n2 eI31 hk).trans ((h_n1 eI30 tri tpa (by decide)).trans ((h_n1 eI29 tri tla (by decide)).trans ((h_n1 eI26 tri tfi (by decide)).trans ((h_n1 eI25 tri tcb (by decide)).trans (h_n1 eI24 tri tus (by decide)))))))))), (h_n1 eI35 tsu t_a0 (by decide)).trans ((h_n1 eI34 tsu tit (by decide)).trans ((h_n1 eI33 tsu thc (by decide)).trans ((h_n2 eI32 hk).trans ((h_n1 eI31 tsu tri (by decide)).trans ((h_n1 eI30 tsu tpa (by decide)).trans ((h_n1 eI29 tsu tla (by decide)).trans ((h_n1 eI26 tsu tfi (by decide)).trans ((h_n1 eI25 tsu tcb (by decide)).trans (h_n1 eI24 tsu tus (by decide)))))))))), (h_n1 eI35 thc t_a0 (by decide)).trans ((h_n1 eI34 thc tit (by decide)).trans ((h_n2 eI33 hk).trans ((h_n1 eI32 thc tsu (by decide)).trans ((h_n1 eI31 thc tri (by decide)).trans ((h_n1 eI30 thc tpa (by decide)).trans ((h_n1 eI29 thc tla (by decide)).trans ((h_n1 eI26 thc tfi (by decide)).trans ((h_n1 eI25 thc tcb (by decide)).trans (h_n1 eI24 thc tus (by decide)))))))))), (h_n1 eI35 tit t_a0 (by decide)).trans ((h_n2 eI34 hk).trans ((h_n1 eI33 tit thc (by decide)).trans ((h_n1 eI32 tit tsu (by decide)).trans ((h_n1 eI31 tit tri (by decide)).trans ((h_n1 eI30 tit tpa (by decide)).trans ((h_n1 eI29 tit tla (by decide)).trans ((h_n1 eI26 tit tfi (by decide)).trans ((h_n1 eI25 tit tcb (by decide)).trans (h_n1 eI24 tit tus (by decide))))))))))⟩, Or.inr ⟨by rw [ev6.symm]; omega, by rw [← h20p0, ← ev21]; omega, (h_n1 eI35 tus t_a0 (by decide)).trans ((h_n1 eI34 tus tit (by decide)).trans ((h_n1 eI33 tus thc (by decide)).trans ((h_n1 eI32 tus tsu (by decide)).trans ((h_n1 eI31 tus tri (by decide)).trans ((h_n1 eI30 tus tpa (by decide)).trans ((h_n1 eI29 tus tla (by decide)).trans ((h_n1 eI26 tus tfi (by decide)).trans ((h_n1 eI25 tus tcb (by decide)).trans (h_n0 eI24)))))))))⟩, fun k hk => (h_n1 eI35 tus t_a0 (by decide)).trans ((h_n1 eI34 tus tit (by decide)).trans ((h_n1 eI33 tus thc (by decide)).trans ((h_n1 eI32 tus tsu (by decide)).trans ((h_n1 eI31 tus tri (by decide)).trans ((h_n1 eI30 tus tpa (by decide)).trans ((h_n1 eI29 tus tla (by decide)).trans ((h_n1 eI26 tus tfi (by decide)).trans ((h_n1 eI25 tus tcb (by decide)).trans (h_n2 eI24 hk))))))))), h_n0 eI35⟩)⟩, h_ret g ht⟩, hS.F ht⟩) hS.2.2 dX12_sign_155
        · have ic23 := (xi_nle c23 rfl rfl : rh22.toInt < v21.toInt)
          refine lv_iconst (v := 1) hx hb dX12_sign_73 (by decide) ?_
          refine lv_goto (tgt := 78) hx hb dX12_sign_74 (by decide) ?_
          refine h_zast hx hb g tus (by decide) so_1324 (xi_in (by rw [h_c]; omega) (by rw [h_c]; omega)) dX12_sign_78 (fun I36 H locs eI36 g => ?_)
          rw [h_nz (by decide) (by decide)] at eI36
          have hI := hI.wr eI36 tus (rfl : h_bd 1324 _ = (0, 1)) (by decide) (by decide)
          have hF := hF.wr eI36 tus rfl
          refine lv_aload_n hx hb dX12_sign_79 rfl (lv_at hl 0 rfl) ?_
          refine h_get (v := .ref cb) hx hb hts iX12 hown g t_a0 (by decide) so_13 rfl 14 (by decide) (hts (.fieldLink RX12 25 "CapLeagueModel" "clubOf" "[I") (by decide +kernel)) rfl dX12_sign_80 (by show va_rf (z.R a0 14) = _; rw [rcb]; rfl) ?_
          refine lv_iload_n hx hb dX12_sign_83 rfl (lv_at hl 1 rfl) ?_
          refine lv_iload_n hx hb dX12_sign_84 rfl (lv_at hl 2 rfl) ?_
          refine h_ast hx hb g tcb (by decide) so_1314 (xi_in (by rw [h_p]; omega) (by rw [h_p]; omega)) dX12_sign_85 (fun I37 H locs eI37 g => ?_)
          have hI := hI.wr eI37 tcb (rfl : h_bd 1314 _ = ((-1), 7)) (by rw [h_c]; omega) (by rw [h_c]; omega)
          have hF := hF.wr eI37 tcb rfl
          refine lv_aload_n hx hb dX12_sign_86 rfl (lv_at hl 0 rfl) ?_
          refine h_get (v := .ref fi) hx hb hts iX12 hown g t_a0 (by decide) so_13 rfl 15 (by decide) (hts (.fieldLink RX12 28 "CapLeagueModel" "first" "[I") (by decide +kernel)) rfl dX12_sign_87 (by show va_rf (z.R a0 15) = _; rw [rfi]; rfl) ?_
          refine lv_iload_n hx hb dX12_sign_90 rfl (lv_at hl 1 rfl) ?_
          refine lv_aload_n hx hb dX12_sign_91 rfl (lv_at hl 0 rfl) ?_
          refine h_get (v := .int f0_12) hx hb hts iX12 hown g t_a0 (by decide) so_13 rfl 12 (by decide) (hts (.fieldLink RX12 187 "CapLeagueModel" "clock" "I") (by decide +kernel)) rfl dX12_sign_92 (congrArg Value.int ((h_n1 eI37 t_a0 tcb (by decide)).trans ((h_n1 eI36 t_a0 tus (by decide)).trans (ef0_12.symm)))) ?_
          refine h_ast hx hb g tfi (by decide) so_1315 (xi_in (by rw [h_p]; omega) (by rw [h_p]; omega)) dX12_sign_95 (fun I38 H locs eI38 g => ?_)
          have hI := hI.wr eI38 tfi (rfl : h_bd 1315 _ = ((-2147483648), 2147483647)) (xi_lo _) (Int.le_of_lt_add_one (xi_hi _))
          have hF := hF.wr eI38 tfi rfl
          refine lv_aload_n hx hb dX12_sign_96 rfl (lv_at hl 0 rfl) ?_
          refine h_get (v := .ref la) hx hb hts iX12 hown g t_a0 (by decide) so_13 rfl 16 (by decide) (hts (.fieldLink RX12 31 "CapLeagueModel" "last" "[I") (by decide +kernel)) rfl dX12_sign_97 (by show va_rf (z.R a0 16) = _; rw [rla]; rfl) ?_
          refine lv_iload_n hx hb dX12_sign_100 rfl (lv_at hl 1 rfl) ?_
          refine lv_aload_n hx hb dX12_sign_101 rfl (lv_at hl 0 rfl) ?_
          refine h_get (v := .int f0_12) hx hb hts iX12 hown g t_a0 (by decide) so_13 rfl 12 (by decide) (hts (.fieldLink RX12 187 "CapLeagueModel" "clock" "I") (by decide +kernel)) rfl dX12_sign_102 (congrArg Value.int ((h_n1 eI38 t_a0 tfi (by decide)).trans ((h_n1 eI37 t_a0 tcb (by decide)).trans ((h_n1 eI36 t_a0 tus (by decide)).trans (ef0_12.symm))))) ?_
          refine lv_iload_n hx hb dX12_sign_105 rfl (lv_at hl 3 rfl) ?_
          refine lv_iadd hx hb dX12_sign_106 ?_
          refine lv_topi (fun v39 ev39 => ?_)
          have jv39 : v39.toInt = f0_12.toInt + y_t := xi_add ev39 rfl h_y (by omega) (by omega)
          refine lv_iconst (v := 1) hx hb dX12_sign_107 (by decide) ?_
          refine lv_isub hx hb dX12_sign_108 ?_
          refine lv_topi (fun v40 ev40 => ?_)
          have jv40 : v40.toInt = v39.toInt - 1 := xi_sub ev40 rfl (by decide) (by omega) (by omega)
          refine h_ast hx hb g tla (by decide) so_1316 (xi_in (by rw [h_p]; omega) (by rw [h_p]; omega)) dX12_sign_109 (fun I41 H locs eI41 g => ?_)
          have hI := hI.wr eI41 tla (rfl : h_bd 1316 _ = ((-2147483648), 2147483647)) (xi_lo _) (Int.le_of_lt_add_one (xi_hi _))
          have hF := hF.wr eI41 tla rfl
          refine lv_aload_n hx hb dX12_sign_110 rfl (lv_at hl 0 rfl) ?_
          refine h_get (v := .ref pa) hx hb hts iX12 hown g t_a0 (by decide) so_13 rfl 17 (by decide) (hts (.fieldLink RX12 34 "CapLeagueModel" "pay" "[I") (by decide +kernel)) rfl dX12_sign_111 (by show va_rf (z.R a0 17) = _; rw [rpa]; rfl) ?_
          refine lv_iload_n hx hb dX12_sign_114 rfl (lv_at hl 1 rfl) ?_
          refine lv_iload hx hb dX12_sign_115 (lv_at hl 4 rfl) ?_
          refine h_ast hx hb g tpa (by decide) so_1317 (xi_in (by rw [h_p]; omega) (by rw [h_p]; omega)) dX12_sign_117 (fun I42 H locs eI42 g => ?_)
          have hI := hI.wr eI42 tpa (rfl : h_bd 1317 _ = ((-2147483648), 2147483647)) (xi_lo _) (Int.le_of_lt_add_one (xi_hi _))
          have hF := hF.wr eI42 tpa rfl
          refine lv_aload_n hx hb dX12_sign_118 rfl (lv_at hl 0 rfl) ?_
          refine h_get (v := .ref ri) hx hb hts iX12 hown g t_a0 (by decide) so_13 rfl 18 (by decide) (hts (.fieldLink RX12 37 "CapLeagueModel" "rise" "[I") (by decide +kernel)) rfl dX12_sign_119 (by show va_rf (z.R a0 18) = _; rw [rri]; rfl) ?_
          refine lv_iload_n hx hb dX12_sign_122 rfl (lv_at hl 1 rfl) ?_
          refine lv_iload hx hb dX12_sign_123 (lv_at hl 5 rfl) ?_
          refine h_ast hx hb g tri (by decide) so_1318 (xi_in (by rw [h_p]; omega) (by rw [h_p]; omega)) dX12_sign_125 (fun I43 H locs eI43 g => ?_)
          have hI := hI.wr eI43 tri (rfl : h_bd 1318 _ = ((-2147483648), 2147483647)) (xi_lo _) (Int.le_of_lt_add_one (xi_hi _))
          have hF := hF.wr eI43 tri rfl
          refine lv_aload_n hx hb dX12_sign_126 rfl (lv_at hl 0 rfl) ?_
          refine h_get (v := .ref su) hx hb hts iX12 hown g t_a0 (by decide) so_13 rfl 19 (by decide) (hts (.fieldLink RX12 40 "CapLeagueModel" "sure" "[I") (by decide +kernel)) rfl dX12_sign_127 (by show va_rf (z.R a0 19) = _; rw [rsu]; rfl) ?_
          refine lv_iload_n hx hb dX12_sign_130 rfl (lv_at hl 1 rfl) ?_
          refine lv_iload hx hb dX12_sign_131 (lv_at hl 6 rfl) ?_
          refine h_ast hx hb g tsu (by decide) so_1319 (xi_in (by rw [h_p]; omega) (by rw [h_p]; omega)) dX12_sign_133 (fun I44 H locs eI44 g => ?_)
          have hI := hI.wr eI44 tsu (rfl : h_bd 1319 _ = ((-2147483648), 2147483647)) (xi_lo _) (Int.le_of_lt_add_one (xi_hi _))
          have hF := hF.wr eI44 tsu rfl
          refine lv_aload_n hx hb dX12_sign_134 rfl (lv_at hl 0 rfl) ?_
          refine h_get (v := .ref hc) hx hb hts iX12 hown g t_a0 (by decide) so_13 rfl 20 (by decide) (hts (.fieldLink RX12 43 "CapLeagueModel" "hasChoice" "[Z") (by decide +kernel)) rfl dX12_sign_135 (by show va_rf (z.R a0 20) = _; rw [rhc]; rfl) ?_
          refine lv_iload_n hx hb dX12_sign_138 rfl (lv_at hl 1 rfl) ?_
          refine lv_iload hx hb dX12_sign_139 (lv_at hl 7 rfl) ?_
          refine h_zast hx hb g thc (by decide) so_1320 (xi_in (by rw [h_p]; omega) (by rw [h_p]; omega)) dX12_sign_141 (fun I45 H locs eI45 g => ?_)
          rw [h_nz (by rw [h_h]; omega) (by rw [h_h]; omega)] at eI45
          have hI := hI.wr eI45 thc (rfl : h_bd 1320 _ = (0, 1)) (by rw [h_h]; omega) (by rw [h_h]; omega)
          have hF := hF.wr eI45 thc rfl
          refine lv_aload_n hx hb dX12_sign_142 rfl (lv_at hl 0 rfl) ?_
          refine h_get (v := .ref it) hx hb hts iX12 hown g t_a0 (by decide) so_13 rfl 21 (by decide) (hts (.fieldLink RX12 46 "CapLeagueModel" "isTaken" "[Z") (by decide +kernel)) rfl dX12_sign_143 (by show va_rf (z.R a0 21) = _; rw [rit]; rfl) ?_
          refine lv_iload_n hx hb dX12_sign_146 rfl (lv_at hl 1 rfl) ?_
          refine lv_iconst (v := 0) hx hb dX12_sign_147 (by decide) ?_
          refine h_zast hx hb g tit (by decide) so_1321 (xi_in (by rw [h_p]; omega) (by rw [h_p]; omega)) dX12_sign_148 (fun I46 H locs eI46 g => ?_)
          rw [h_nz (by decide) (by decide)] at eI46
          have hI := hI.wr eI46 tit (rfl : h_bd 1321 _ = (0, 1)) (by decide) (by decide)
          have hF := hF.wr eI46 tit rfl
          refine lv_aload_n hx hb dX12_sign_149 rfl (lv_at hl 0 rfl) ?_
          refine lv_iconst (v := 0) hx hb dX12_sign_150 (by decide) ?_
          refine h_putI (ty := .int) (v := 0) hx hb hts iX12 tyX12 tyX12_ok nmX12 hown g t_a0 (by decide) so_13 rfl 33 (by decide) rfl (hts (.fieldLink RX12 247 "CapLeagueModel" "moves" "I") (by decide +kernel)) rfl rfl (by decide +kernel) rfl rfl dX12_sign_151 (fun I47 H locs eI47 g => ?_)
          have hI := hI.wr eI47 t_a0 (rfl : h_bd 13 33 = (0, 12)) (by decide) (by decide)
          have hF := hF.wr eI47 t_a0 rfl
          refine lv_iconst (v := 1) hx hb dX12_sign_154 (by decide) ?_
          have hS := g.2.1
          exact W.iret (v := 1) hx hb hr (fun t ht hW => ⟨⟨1, I47, rfl, ⟨hI, hF, (by refine Or.inr ⟨by omega, rh4.toInt, h4p0, ?_⟩; rw [acb, afi, ala, apa, ari, asu, ahc, ait, aus, ← kp, ← kc]; exact Or.inr ⟨by omega, by decide, ⟨(h_n1 eI47 tcb t_a0 (by decide)).trans ((h_n1 eI46 tcb tit (by decide)).trans ((h_n1 eI45 tcb thc (by decide)).trans ((h_n1 eI44 tcb tsu (by decide)).trans ((h_n1 eI43 tcb tri (by decide)).trans ((h_n1 eI42 tcb tpa (by decide)).trans ((h_n1 eI41 tcb tla (by decide)).trans ((h_n1 eI38 tcb tfi (by decide)).trans (h_n0 eI37)))))))), ((h_n1 eI47 tfi t_a0 (by decide)).trans ((h_n1 eI46 tfi tit (by decide)).trans ((h_n1 eI45 tfi thc (by decide)).trans ((h_n1 eI44 tfi tsu (by decide)).trans ((h_n1 eI43 tfi tri (by decide)).trans ((h_n1 eI42 tfi tpa (by decide)).trans ((h_n1 eI41 tfi tla (by decide)).trans (h_n0 eI38)))))))).trans ef0_12, ((h_n1 eI47 tla t_a0 (by decide)).trans ((h_n1 eI46 tla tit (by decide)).trans ((h_n1 eI45 tla thc (by decide)).trans ((h_n1 eI44 tla tsu (by decide)).trans ((h_n1 eI43 tla tri (by decide)).trans ((h_n1 eI42 tla tpa (by decide)).trans (h_n0 eI41))))))).trans (by rw [ev40, ev39, ef0_12]), (h_n1 eI47 tpa t_a0 (by decide)).trans ((h_n1 eI46 tpa tit (by decide)).trans ((h_n1 eI45 tpa thc (by decide)).trans ((h_n1 eI44 tpa tsu (by decide)).trans ((h_n1 eI43 tpa tri (by decide)).trans (h_n0 eI42))))), (h_n1 eI47 tri t_a0 (by decide)).trans ((h_n1 eI46 tri tit (by decide)).trans ((h_n1 eI45 tri thc (by decide)).trans ((h_n1 eI44 tri tsu (by decide)).trans (h_n0 eI43)))), (h_n1 eI47 tsu t_a0 (by decide)).trans ((h_n1 eI46 tsu tit (by decide)).trans ((h_n1 eI45 tsu thc (by decide)).trans (h_n0 eI44))), (h_n1 eI47 thc t_a0 (by decide)).trans ((h_n1 eI46 thc tit (by decide)).trans (h_n0 eI45)), (h_n1 eI47 tit t_a0 (by decide)).trans (h_n0 eI46)⟩, fun k hk => ⟨(h_n1 eI47 tcb t_a0 (by decide)).trans ((h_n1 eI46 tcb tit (by decide)).trans ((h_n1 eI45 tcb thc (by decide)).trans ((h_n1 eI44 tcb tsu (by decide)).trans ((h_n1 eI43 tcb tri (by decide)).trans ((h_n1 eI42 tcb tpa (by decide)).trans ((h_n1 eI41 tcb tla (by decide)).trans ((h_n1 eI38 tcb tfi (by decide)).trans ((h_n2 eI37 hk).trans (h_n1 eI36 tcb tus (by decide)))))))))), (h_n1 eI47 tfi t_a0 (by decide)).trans ((h_n1 eI46 tfi tit (by decide)).trans ((h_n1 eI45 tfi thc (by decide)).trans ((h_n1 eI44 tfi tsu (by decide)).trans ((h_n1 eI43 tfi tri (by decide)).trans ((h_n1 eI42 tfi tpa (by decide)).trans ((h_n1 eI41 tfi tla (by decide)).trans ((h_n2 eI38 hk).trans ((h_n1 eI37 tfi tcb (by decide)).trans (h_n1 eI36 tfi tus (by decide)))))))))), (h_n1 eI47 tla t_a0 (by decide)).trans ((h_n1 eI46 tla tit (by decide)).trans ((h_n1 eI45 tla thc (by decide)).trans ((h_n1 eI44 tla tsu (by decide)).trans ((h_n1 eI43 tla tri (by decide)).trans ((h_n1 eI42 tla tpa (by decide)).trans ((h_n2 eI41 hk).trans ((h_n1 eI38 tla tfi (by decide)).trans ((h_n1 eI37 tla tcb (by decide)).trans (h_n1 eI36 tla tus (by decide)))))))))), (h_n1 eI47 tpa t_a0 (by decide)).trans ((h_n1 eI46 tpa tit (by decide)).trans ((h_n1 eI45 tpa thc (by decide)).trans ((h_n1 eI44 tpa tsu (by decide)).trans ((h_n1 eI43 tpa tri (by decide)).trans ((h_n2 eI42 hk).trans ((h_n1 eI41 tpa tla (by decide)).trans ((h_n1 eI38 tpa tfi (by decide)).trans ((h_n1 eI37 tpa tcb (by decide)).trans (h_n1 eI36 tpa tus (by decide)))))))))), (h_n1 eI47 tri t_a0 (by decide)).trans ((h_n1 eI46 tri tit (by decide)).trans ((h_n1 eI45 tri thc (by decide)).trans ((h_n1 eI44 tri tsu (by decide)).trans ((h_n2 eI43 hk).trans ((h_n1 eI42 tri tpa (by decide)).trans ((h_n1 eI41 tri tla (by decide)).trans ((h_n1 eI38 tri tfi (by decide)).trans ((h_n1 eI37 tri tcb (by decide)).trans (h_n1 eI36 tri tus (by decide)))))))))), (h_n1 eI47 tsu t_a0 (by decide)).trans ((h_n1 eI46 tsu tit (by decide)).trans ((h_n1 eI45 tsu thc (by decide)).trans ((h_n2 eI44 hk).trans ((h_n1 eI43 tsu tri (by decide)).trans ((h_n1 eI42 tsu tpa (by decide)).trans ((h_n1 eI41 tsu tla (by decide)).trans ((h_n1 eI38 tsu tfi (by decide)).trans ((h_n1 eI37 tsu tcb (by decide)).trans (h_n1 eI36 tsu tus (by decide)))))))))), (h_n1 eI47 thc t_a0 (by decide)).trans ((h_n1 eI46 thc tit (by decide)).trans ((h_n2 eI45 hk).trans ((h_n1 eI44 thc tsu (by decide)).trans ((h_n1 eI43 thc tri (by decide)).trans ((h_n1 eI42 thc tpa (by decide)).trans ((h_n1 eI41 thc tla (by decide)).trans ((h_n1 eI38 thc tfi (by decide)).trans ((h_n1 eI37 thc tcb (by decide)).trans (h_n1 eI36 thc tus (by decide)))))))))), (h_n1 eI47 tit t_a0 (by decide)).trans ((h_n2 eI46 hk).trans ((h_n1 eI45 tit thc (by decide)).trans ((h_n1 eI44 tit tsu (by decide)).trans ((h_n1 eI43 tit tri (by decide)).trans ((h_n1 eI42 tit tpa (by decide)).trans ((h_n1 eI41 tit tla (by decide)).trans ((h_n1 eI38 tit tfi (by decide)).trans ((h_n1 eI37 tit tcb (by decide)).trans (h_n1 eI36 tit tus (by decide))))))))))⟩, Or.inl ⟨Or.inr (by rw [← h20p0, ← ev21]; omega), (h_n1 eI47 tus t_a0 (by decide)).trans ((h_n1 eI46 tus tit (by decide)).trans ((h_n1 eI45 tus thc (by decide)).trans ((h_n1 eI44 tus tsu (by decide)).trans ((h_n1 eI43 tus tri (by decide)).trans ((h_n1 eI42 tus tpa (by decide)).trans ((h_n1 eI41 tus tla (by decide)).trans ((h_n1 eI38 tus tfi (by decide)).trans ((h_n1 eI37 tus tcb (by decide)).trans (h_n0 eI36)))))))))⟩, fun k hk => (h_n1 eI47 tus t_a0 (by decide)).trans ((h_n1 eI46 tus tit (by decide)).trans ((h_n1 eI45 tus thc (by decide)).trans ((h_n1 eI44 tus tsu (by decide)).trans ((h_n1 eI43 tus tri (by decide)).trans ((h_n1 eI42 tus tpa (by decide)).trans ((h_n1 eI41 tus tla (by decide)).trans ((h_n1 eI38 tus tfi (by decide)).trans ((h_n1 eI37 tus tcb (by decide)).trans (h_n2 eI36 hk))))))))), h_n0 eI47⟩)⟩, h_ret g ht⟩, hS.F ht⟩) hS.2.2 dX12_sign_155
    · have ic5 := (xi_ne c5 rfl (by decide) : rh4.toInt ≠ 0)
      refine lv_iconst (v := 0) hx hb dX12_sign_33 (by decide) ?_
      have hS := g.2.1
      exact W.iret (v := 0) hx hb hr (fun t ht hW => ⟨⟨0, I0, rfl, ⟨hI, hF, (by refine Or.inr ⟨by omega, rh4.toInt, h4p0, ?_⟩; exact Or.inl ⟨by omega, by decide, rfl⟩)⟩, h_ret g ht⟩, hS.F ht⟩) hS.2.2 dX12_sign_34
set_option maxHeartbeats 4000000 in
set_option maxRecDepth 100000 in
theorem tX12_wrongB (l : Launch) (E : tE) (X : tX) (A : Nat → Prop) (z : tZ) (I0 : tI) (L0 : tL) (a0 : Nat) (t_a0 : z.ty a0 = 13) (p : Int32) (p_t : Int) (h_p : p.toInt = p_t) (c : Int32) (c_t : Int) (h_c : c.toInt = c_t) (y : Int32) (y_t : Int) (h_y : y.toInt = y_t) (n : Int32) (n_t : Int) (h_n : n.toInt = n_t) (u : Int32) (u_t : Int) (h_u : u.toInt = u_t) (q : Int32) (q_t : Int) (h_q : q.toInt = q_t) (h : Int32) (h_t : Int) (h_h : h.toInt = h_t) (b_h : 0 ≤ h_t ∧ h_t ≤ 1) (u_ : Nat → Int) (hrl : h_r12 (I0 (h_ad z a0 11)) (I0 (h_ad z a0 10)) (I0 a0 12).toInt u_) (hob : q_okb u_) (hpb : ∀ p : Nat, (p : Int) < (I0 a0 13).toInt → (q_pay (I0 (h_ad z a0 14) p) (I0 (h_ad z a0 15) p) (I0 (h_ad z a0 16) p) (I0 (h_ad z a0 17) p) (I0 (h_ad z a0 18) p) (I0 a0 12)).toInt ≤ 1000000) : Met l yX12_wrong wsX12_wrong ({ frames := 6, cells := 0, slots := 0, locals := 384 }) (va_Pc [.ref a0, .int p, .int c, .int y, .int n, .int u, .int q, .int h] (h_P E X A z I0 L0)) (vp_Si (fun r => ((¬ (0 ≤ p_t ∧ p_t < (I0 a0 13).toInt ∧ 0 ≤ c_t ∧ c_t ≤ 7 ∧ 1 ≤ y_t ∧ y_t ≤ 5 ∧ 0 ≤ n_t ∧ n_t ≤ 20000 ∧ -500 ≤ u_t ∧ u_t ≤ 500 ∧ 0 ≤ q_t ∧ q_t ≤ 100 ∧ (h_t = 0 ∨ 2 ≤ y_t)) ∧ r.toInt = -2) ∨ ((0 ≤ p_t ∧ p_t < (I0 a0 13).toInt ∧ 0 ≤ c_t ∧ c_t ≤ 7 ∧ 1 ≤ y_t ∧ y_t ≤ 5 ∧ 0 ≤ n_t ∧ n_t ≤ 20000 ∧ -500 ≤ u_t ∧ u_t ≤ 500 ∧ 0 ≤ q_t ∧ q_t ≤ 100 ∧ (h_t = 0 ∨ 2 ≤ y_t)) ∧ q_flt ((I0 (h_ad z a0 14) p_t.toNat).toInt ≠ -1) (u_ 1 ≤ (m_many z I0 a0 c_t (I0 a0 12)).toInt) (u_ 2 < y_t) (u_ 0 < (m_cnt z I0 a0 c_t (I0 a0 12) (u_ 6) + n).toInt ∧ (u_ 3 < n_t ∨ (I0 (h_ad z a0 24) c_t.toNat).toInt ≠ 0)) r.toInt)))) 0 0 (fun _ => False) := by
  refine Met.ofW (cc := cX12_wrong) (maxL := 8) (ret := (some .int)) (by decide) rfl ?_
  intro pr_ ev_ s m args below meth cd_ s₁ B hml hv
  obtain ⟨rfl, hE, hk, hX, hA, hK, hI, hR, hB0⟩ := hv
  have g : h_G h_so h_fk E A z I0 L0 s s.heap s.heap [] := ⟨hK, va_S.rf, hB0⟩
  have hx := B.exec
  have hb := B.bytes
  have hr := B.returns
  have hts := atoms_spec (ws := wsX12_wrong) B.pre
  have hown : s.vm.findClass RX12 = some m.cls := findClass_of_methodNamed B.named
  have hlocks := B.notSynchronized
  have hl := lv_entry ([.ref a0, .int p, .int c, .int y, .int n, .int u, .int q, .int h]) (n := 8) (Nat.le_of_ble_eq_true rfl)
  rw [lg_entry_eq]
  generalize (lg_sl ([.ref a0, .int p, .int c, .int y, .int n, .int u, .int q, .int h]) ++ List.replicate (8 - (lg_sl ([.ref a0, .int p, .int c, .int y, .int n, .int u, .int q, .int h])).length) Slot.unset).toArray = ls at hl ⊢
  have hl : lv_has ls 8 [(0, .ref a0), (1, .int p), (2, .int c), (3, .int y), (4, .int n), (5, .int u), (6, .int q), (7, .int h)] := hl
  have b_p : -2147483648 ≤ p_t ∧ p_t ≤ 2147483647 := h_p ▸ ⟨xi_lo p, Int.le_of_lt_add_one (xi_hi p)⟩
  have b_c : -2147483648 ≤ c_t ∧ c_t ≤ 2147483647 := h_c ▸ ⟨xi_lo c, Int.le_of_lt_add_one (xi_hi c)⟩
  have b_y : -2147483648 ≤ y_t ∧ y_t ≤ 2147483647 := h_y ▸ ⟨xi_lo y, Int.le_of_lt_add_one (xi_hi y)⟩
  have b_n : -2147483648 ≤ n_t ∧ n_t ≤ 2147483647 := h_n ▸ ⟨xi_lo n, Int.le_of_lt_add_one (xi_hi n)⟩
  have b_u : -2147483648 ≤ u_t ∧ u_t ≤ 2147483647 := h_u ▸ ⟨xi_lo u, Int.le_of_lt_add_one (xi_hi u)⟩
  have b_q : -2147483648 ≤ q_t ∧ q_t ≤ 2147483647 := h_q ▸ ⟨xi_lo q, Int.le_of_lt_add_one (xi_hi q)⟩
  obtain ⟨cb, rcb, tcb⟩ := hR.at a0 14 t_a0 (rfl : h_rs 13 14 = some (1314, false)) (by decide)
  have acb : h_ad z a0 14 = cb := h_ad.at rcb
  obtain ⟨fi, rfi, tfi⟩ := hR.at a0 15 t_a0 (rfl : h_rs 13 15 = some (1315, false)) (by decide)
  have afi : h_ad z a0 15 = fi := h_ad.at rfi
  obtain ⟨la, rla, tla⟩ := hR.at a0 16 t_a0 (rfl : h_rs 13 16 = some (1316, false)) (by decide)
  have ala : h_ad z a0 16 = la := h_ad.at rla
  obtain ⟨pa, rpa, tpa⟩ := hR.at a0 17 t_a0 (rfl : h_rs 13 17 = some (1317, false)) (by decide)
  have apa : h_ad z a0 17 = pa := h_ad.at rpa
  obtain ⟨ri, rri, tri⟩ := hR.at a0 18 t_a0 (rfl : h_rs 13 18 = some (1318, false)) (by decide)
  have ari : h_ad z a0 18 = ri := h_ad.at rri
  obtain ⟨su, rsu, tsu⟩ := hR.at a0 19 t_a0 (rfl : h_rs 13 19 = some (1319, false)) (by decide)
  have asu : h_ad z a0 19 = su := h_ad.at rsu
  obtain ⟨hc, rhc, thc⟩ := hR.at a0 20 t_a0 (rfl : h_rs 13 20 = some (1320, false)) (by decide)
  have ahc : h_ad z a0 20 = hc := h_ad.at rhc
  obtain ⟨it, rit, tit⟩ := hR.at a0 21 t_a0 (rfl : h_rs 13 21 = some (1321, false)) (by decide)
  have ait : h_ad z a0 21 = it := h_ad.at rit
  obtain ⟨us, rus, tus⟩ := hR.at a0 24 t_a0 (rfl : h_rs 13 24 = some (1324, false)) (by decide)
  have aus : h_ad z a0 24 = us := h_ad.at rus
  obtain ⟨lw, rlw, tlw⟩ := hR.at a0 10 t_a0 (rfl : h_rs 13 10 = some (1310, false)) (by decide)
  have alw : h_ad z a0 10 = lw := h_ad.at rlw
  obtain ⟨hy, rhy, thy⟩ := hR.at a0 11 t_a0 (rfl : h_rs 13 11 = some (1311, false)) (by decide)
  have ahy : h_ad z a0 11 = hy := h_ad.at rhy
  obtain ⟨f0_12, ef0_12⟩ : ∃ v : Int32, v = I0 a0 12 := ⟨_, rfl⟩
  have qf0_12 : (I0 a0 12).toInt = f0_12.toInt := congrArg Int32.toInt ef0_12.symm
  have jf0_12 := hI.rd a0 12 t_a0 ef0_12 (rfl : h_bd 13 12 = (0, 9))
  obtain ⟨f0_13, ef0_13⟩ : ∃ v : Int32, v = I0 a0 13 := ⟨_, rfl⟩
  have qf0_13 : (I0 a0 13).toInt = f0_13.toInt := congrArg Int32.toInt ef0_13.symm
  have jf0_13 := hI.rd a0 13 t_a0 ef0_13 (rfl : h_bd 13 13 = (0, 60))
  have hr0 := hrl
  rw [ahy, alw, qf0_12] at hrl
  refine lv_aload_n hx hb dX12_wrong_0 rfl (lv_at hl 0 rfl) ?_
  refine lv_iload_n hx hb dX12_wrong_1 rfl (lv_at hl 1 rfl) ?_
  refine lv_iload_n hx hb dX12_wrong_2 rfl (lv_at hl 2 rfl) ?_
  refine lv_iload_n hx hb dX12_wrong_3 rfl (lv_at hl 3 rfl) ?_
  refine lv_iload hx hb dX12_wrong_4 (lv_at hl 4 rfl) ?_
  refine lv_iload hx hb dX12_wrong_6 (lv_at hl 5 rfl) ?_
  refine lv_iload hx hb dX12_wrong_8 (lv_at hl 6 rfl) ?_
  refine lv_iload hx hb dX12_wrong_10 (lv_at hl 7 rfl) ?_
  refine vp_callSi (W.runV (As := [.int p, .int c, .int y, .int n, .int u, .int q, .int h]) (rest := []) ⟨hx, hb, hml, hown, hts⟩ (tX12_isDealB l E X A z I0 L0 a0 t_a0 p (p_t) h_p c (c_t) h_c y (y_t) h_y n (n_t) h_n u (u_t) h_u q (q_t) h_q h (h_t) h_h (by omega)) (cwV 7 hts gX12_wrong_X12_isDeal rfl rfl rfl (by decide +kernel) ⟨Nat.le_of_ble_eq_true rfl, Nat.le_of_ble_eq_true rfl⟩) ⟨h_blind _ _ _ _ _ _ _, h_recv g t_a0 (by decide) so_13 (q := (RX12, TX12, 51)) rfl, h_pre _ hE hk hX hA hI hR g⟩ rfl rfl hl.1 rfl (lv_room (Nat.le_of_ble_eq_true rfl)) dX12_wrong_12 ⟨Nat.le_of_ble_eq_true rfl, Nat.le_of_ble_eq_true rfl⟩) (fun rh1 h1 => ?_)
  rcases h1 with ⟨rfl, h1⟩ | ⟨rfl, h1⟩
  · skip
    refine lv_if_eq (tgt := 30) hx hb dX12_wrong_15 (by decide) (fun _ => ?_) (fun h => absurd (by decide) h)
    refine lv_bipush (v := (-2)) hx hb dX12_wrong_30 (by decide) ?_
    exact W.iret (v := (-2)) hx hb hr (fun t ht hW => ⟨(-2), rfl, (Or.inl ⟨by omega, by decide⟩), ht⟩) (fun _ h => by cases h) dX12_wrong_32
  · skip
    have kp : p.toNatClampNeg = p_t.toNat := h_keq h_p (by omega) (by omega)
    have kc : c.toNatClampNeg = c_t.toNat := h_keq h_c (by omega) (by omega)
    have okp := h1
    refine lv_if_eq (tgt := 30) hx hb dX12_wrong_15 (by decide) (fun h => absurd h (by decide)) (fun _ => ?_)
    refine lv_aload_n hx hb dX12_wrong_18 rfl (lv_at hl 0 rfl) ?_
    refine lv_iload_n hx hb dX12_wrong_19 rfl (lv_at hl 1 rfl) ?_
    refine lv_iload_n hx hb dX12_wrong_20 rfl (lv_at hl 2 rfl) ?_
    refine lv_iload_n hx hb dX12_wrong_21 rfl (lv_at hl 3 rfl) ?_
    refine lv_iload hx hb dX12_wrong_22 (lv_at hl 4 rfl) ?_
    refine vp_callSi (W.runV (As := [.int p, .int c, .int y, .int n]) (rest := []) ⟨hx, hb, hml, hown, hts⟩ (tX12_wrongOfB l E X A z I0 L0 a0 t_a0 p (p_t) h_p (by omega) c (c_t) h_c (by omega) y (y_t) h_y n (n_t) h_n (u_) (hr0) (hob) (hpb)) (cwV 4 hts gX12_wrong_X12_wrongOf rfl rfl rfl (by decide +kernel) ⟨Nat.le_of_ble_eq_true rfl, Nat.le_of_ble_eq_true rfl⟩) ⟨h_blind _ _ _ _ _ _ _, h_recv g t_a0 (by decide) so_13 (q := (RX12, TX12, 51)) rfl, h_pre _ hE hk hX hA hI hR g⟩ rfl rfl hl.1 rfl (lv_room (Nat.le_of_ble_eq_true rfl)) dX12_wrong_24 ⟨Nat.le_of_ble_eq_true rfl, Nat.le_of_ble_eq_true rfl⟩) (fun rh4 h4 => ?_)
    obtain ⟨h4, h4p0⟩ := h4
    refine lv_goto (tgt := 32) hx hb dX12_wrong_27 (by decide) ?_
    exact W.iret (v := rh4) hx hb hr (fun t ht hW => ⟨rh4, rfl, (Or.inr ⟨by omega, h4p0⟩), ht⟩) (fun _ h => by cases h) dX12_wrong_32

