set_option maxHeartbeats 4000000 in
set_option maxRecDepth 100000 in
theorem tJ6_bitCountF (l : Launch) (E : tE) (X : tX) (A : Nat → Prop) (z : tZ) (I0 : tI) (L0 : tL) (x : Int32) (x_t : Int) (h_x : x.toInt = x_t) : Met l yJ6_bitCount_0f7a4 wsJ6_bitCount_0f7a4 ({ frames := 1, cells := 0, slots := 0, locals := 64 }) (va_Pc [.int x] (h_P E X A z I0 L0)) (vp_Si (fun r => (∀ n : Nat, n < 256 → x = nI n → (r.toInt = 8 ↔ n = 255)))) 0 0 (fun _ => False) := by
  refine Met.ofW (cc := cJ6_bitCount_0f7a4) (maxL := 1) (ret := (some .int)) (by decide) rfl ?_
  intro pr_ ev_ s m args below meth cd_ s₁ B hml hv
  obtain ⟨rfl, hE, hk, hX, hA, hK, hI, hR, hB0⟩ := hv
  have g : h_G h_so h_fk E A z I0 L0 s s.heap s.heap [] := ⟨hK, va_S.rf, hB0⟩
  have hx := B.exec
  have hb := B.bytes
  have hr := B.returns
  have hts := atoms_spec (ws := wsJ6_bitCount_0f7a4) B.pre
  have hown : s.vm.findClass RJ6 = some m.cls := findClass_of_methodNamed B.named
  have hlocks := B.notSynchronized
  have hl := lv_entry ([.int x]) (n := 1) (Nat.le_of_ble_eq_true rfl)
  rw [lg_entry_eq]
  generalize (lg_sl ([.int x]) ++ List.replicate (1 - (lg_sl ([.int x])).length) Slot.unset).toArray = ls at hl ⊢
  have hl : lv_has ls 1 [(0, .int x)] := hl
  have b_x : -2147483648 ≤ x_t ∧ x_t ≤ 2147483647 := h_x ▸ ⟨xi_lo x, Int.le_of_lt_add_one (xi_hi x)⟩
  refine lv_iload_n hx hb dJ6_bitCount_0f7a4_0 rfl (lv_at hl 0 rfl) ?_
  refine lv_iload_n hx hb dJ6_bitCount_0f7a4_1 rfl (lv_at hl 0 rfl) ?_
  refine lv_iconst (v := 1) hx hb dJ6_bitCount_0f7a4_2 (by decide) ?_
  refine lv_iushr hx hb dJ6_bitCount_0f7a4_3 rfl ?_
  refine lv_topi (fun v1 ev1 => ?_)
  have jv1 : -2147483648 ≤ v1.toInt ∧ v1.toInt ≤ 2147483647 := ⟨xi_lo _, Int.le_of_lt_add_one (xi_hi _)⟩
  refine lv_ldcw (v := 1431655765) hx hb hown (hts (.constant RJ6 265 (1431655765)) (by decide +kernel)) dJ6_bitCount_0f7a4_4 ?_
  refine lv_iand hx hb dJ6_bitCount_0f7a4_7 ?_
  refine lv_topi (fun v2 ev2 => ?_)
  have jv2 : -2147483648 ≤ v2.toInt ∧ v2.toInt ≤ 2147483647 := ⟨xi_lo _, Int.le_of_lt_add_one (xi_hi _)⟩
  refine lv_isub hx hb dJ6_bitCount_0f7a4_8 ?_
  refine lv_topi (fun v3 ev3 => ?_)
  have jv3 : -2147483648 ≤ v3.toInt ∧ v3.toInt ≤ 2147483647 := ⟨xi_lo _, Int.le_of_lt_add_one (xi_hi _)⟩
  refine lv_istore_n (lv' := [(0, .int v3)]) hx hb dJ6_bitCount_0f7a4_9 rfl hl (by decide) rfl (fun ls hl => ?_)
  refine lv_iload_n hx hb dJ6_bitCount_0f7a4_10 rfl (lv_at hl 0 rfl) ?_
  refine lv_ldcw (v := 858993459) hx hb hown (hts (.constant RJ6 266 (858993459)) (by decide +kernel)) dJ6_bitCount_0f7a4_11 ?_
  refine lv_iand hx hb dJ6_bitCount_0f7a4_14 ?_
  refine lv_topi (fun v4 ev4 => ?_)
  have jv4 : -2147483648 ≤ v4.toInt ∧ v4.toInt ≤ 2147483647 := ⟨xi_lo _, Int.le_of_lt_add_one (xi_hi _)⟩
  refine lv_iload_n hx hb dJ6_bitCount_0f7a4_15 rfl (lv_at hl 0 rfl) ?_
  refine lv_iconst (v := 2) hx hb dJ6_bitCount_0f7a4_16 (by decide) ?_
  refine lv_iushr hx hb dJ6_bitCount_0f7a4_17 rfl ?_
  refine lv_topi (fun v5 ev5 => ?_)
  have jv5 : -2147483648 ≤ v5.toInt ∧ v5.toInt ≤ 2147483647 := ⟨xi_lo _, Int.le_of_lt_add_one (xi_hi _)⟩
  refine lv_ldcw (v := 858993459) hx hb hown (hts (.constant RJ6 266 (858993459)) (by decide +kernel)) dJ6_bitCount_0f7a4_18 ?_
  refine lv_iand hx hb dJ6_bitCount_0f7a4_21 ?_
  refine lv_topi (fun v6 ev6 => ?_)
  have jv6 : -2147483648 ≤ v6.toInt ∧ v6.toInt ≤ 2147483647 := ⟨xi_lo _, Int.le_of_lt_add_one (xi_hi _)⟩
  refine lv_iadd hx hb dJ6_bitCount_0f7a4_22 ?_
  refine lv_topi (fun v7 ev7 => ?_)
  have jv7 : -2147483648 ≤ v7.toInt ∧ v7.toInt ≤ 2147483647 := ⟨xi_lo _, Int.le_of_lt_add_one (xi_hi _)⟩
  refine lv_istore_n (lv' := [(0, .int v7)]) hx hb dJ6_bitCount_0f7a4_23 rfl hl (by decide) rfl (fun ls hl => ?_)
  refine lv_iload_n hx hb dJ6_bitCount_0f7a4_24 rfl (lv_at hl 0 rfl) ?_
  refine lv_iload_n hx hb dJ6_bitCount_0f7a4_25 rfl (lv_at hl 0 rfl) ?_
  refine lv_iconst (v := 4) hx hb dJ6_bitCount_0f7a4_26 (by decide) ?_
  refine lv_iushr hx hb dJ6_bitCount_0f7a4_27 rfl ?_
  refine lv_topi (fun v8 ev8 => ?_)
  have jv8 : -2147483648 ≤ v8.toInt ∧ v8.toInt ≤ 2147483647 := ⟨xi_lo _, Int.le_of_lt_add_one (xi_hi _)⟩
  refine lv_iadd hx hb dJ6_bitCount_0f7a4_28 ?_
  refine lv_topi (fun v9 ev9 => ?_)
  have jv9 : -2147483648 ≤ v9.toInt ∧ v9.toInt ≤ 2147483647 := ⟨xi_lo _, Int.le_of_lt_add_one (xi_hi _)⟩
  refine lv_ldcw (v := 252645135) hx hb hown (hts (.constant RJ6 267 (252645135)) (by decide +kernel)) dJ6_bitCount_0f7a4_29 ?_
  refine lv_iand hx hb dJ6_bitCount_0f7a4_32 ?_
  refine lv_topi (fun v10 ev10 => ?_)
  have jv10 : -2147483648 ≤ v10.toInt ∧ v10.toInt ≤ 2147483647 := ⟨xi_lo _, Int.le_of_lt_add_one (xi_hi _)⟩
  refine lv_istore_n (lv' := [(0, .int v10)]) hx hb dJ6_bitCount_0f7a4_33 rfl hl (by decide) rfl (fun ls hl => ?_)
  refine lv_iload_n hx hb dJ6_bitCount_0f7a4_34 rfl (lv_at hl 0 rfl) ?_
  refine lv_iload_n hx hb dJ6_bitCount_0f7a4_35 rfl (lv_at hl 0 rfl) ?_
  refine lv_bipush (v := 8) hx hb dJ6_bitCount_0f7a4_36 (by decide) ?_
  refine lv_iushr hx hb dJ6_bitCount_0f7a4_38 rfl ?_
  refine lv_topi (fun v11 ev11 => ?_)
  have jv11 : -2147483648 ≤ v11.toInt ∧ v11.toInt ≤ 2147483647 := ⟨xi_lo _, Int.le_of_lt_add_one (xi_hi _)⟩
  refine lv_iadd hx hb dJ6_bitCount_0f7a4_39 ?_
  refine lv_topi (fun v12 ev12 => ?_)
  have jv12 : -2147483648 ≤ v12.toInt ∧ v12.toInt ≤ 2147483647 := ⟨xi_lo _, Int.le_of_lt_add_one (xi_hi _)⟩
  refine lv_istore_n (lv' := [(0, .int v12)]) hx hb dJ6_bitCount_0f7a4_40 rfl hl (by decide) rfl (fun ls hl => ?_)
  refine lv_iload_n hx hb dJ6_bitCount_0f7a4_41 rfl (lv_at hl 0 rfl) ?_
  refine lv_iload_n hx hb dJ6_bitCount_0f7a4_42 rfl (lv_at hl 0 rfl) ?_
  refine lv_bipush (v := 16) hx hb dJ6_bitCount_0f7a4_43 (by decide) ?_
  refine lv_iushr hx hb dJ6_bitCount_0f7a4_45 rfl ?_
  refine lv_topi (fun v13 ev13 => ?_)
  have jv13 : -2147483648 ≤ v13.toInt ∧ v13.toInt ≤ 2147483647 := ⟨xi_lo _, Int.le_of_lt_add_one (xi_hi _)⟩
  refine lv_iadd hx hb dJ6_bitCount_0f7a4_46 ?_
  refine lv_topi (fun v14 ev14 => ?_)
  have jv14 : -2147483648 ≤ v14.toInt ∧ v14.toInt ≤ 2147483647 := ⟨xi_lo _, Int.le_of_lt_add_one (xi_hi _)⟩
  refine lv_istore_n (lv' := [(0, .int v14)]) hx hb dJ6_bitCount_0f7a4_47 rfl hl (by decide) rfl (fun ls hl => ?_)
  refine lv_iload_n hx hb dJ6_bitCount_0f7a4_48 rfl (lv_at hl 0 rfl) ?_
  refine lv_bipush (v := 63) hx hb dJ6_bitCount_0f7a4_49 (by decide) ?_
  refine lv_iand hx hb dJ6_bitCount_0f7a4_51 ?_
  refine lv_topi (fun v15 ev15 => ?_)
  have jv15 : 0 ≤ v15.toInt ∧ v15.toInt ≤ 63 := h_andn 63 (by decide) ev15
  exact W.iret (v := v15) hx hb hr (fun t ht hW => ⟨v15, rfl, (by intro n hn hq; rw [ev15, ev14, ev13, ev12, ev11, ev10, ev9, ev8, ev7, ev6, ev5, ev4, ev3, ev2, ev1, hq]; clear hq; revert hn; revert n; decide +kernel), ht⟩) (fun _ h => by cases h) dJ6_bitCount_0f7a4_52
set_option maxHeartbeats 4000000 in
set_option maxRecDepth 100000 in
theorem tX2_isTableF (l : Launch) (E : tE) (X : tX) (A : Nat → Prop) (z : tZ) (I0 : tI) (L0 : tL) (a0 : Nat) (t_a0 : z.ty a0 = 9) : Met l yX2_isTable wsX2_isTable ({ frames := 2, cells := 0, slots := 0, locals := 128 }) (va_Pc [.ref a0] (h_P E X A z I0 L0)) (vp_Si (fun r => (0 ≤ r.toInt ∧ r.toInt ≤ 1) ∧ ((r.toInt = 1 ∧ h_istab (q_at (I0 (h_ad z a0 0)) (I0 a0 1).toInt) (I0 a0 1).toInt) ∨ (r.toInt = 0 ∧ ¬ h_istab (q_at (I0 (h_ad z a0 0)) (I0 a0 1).toInt) (I0 a0 1).toInt)))) 0 0 (fun _ => False) := by
  refine Met.ofW (cc := cX2_isTable) (maxL := 4) (ret := (some .boolean)) (by decide) rfl ?_
  intro pr_ ev_ s m args below meth cd_ s₁ B hml hv
  obtain ⟨rfl, hE, hk, hX, hA, hK, hI, hR, hB0⟩ := hv
  have g : h_G h_so h_fk E A z I0 L0 s s.heap s.heap [] := ⟨hK, va_S.rf, hB0⟩
  have hx := B.exec
  have hb := B.bytes
  have hr := B.returns
  have hts := atoms_spec (ws := wsX2_isTable) B.pre
  have hown : s.vm.findClass RX2 = some m.cls := findClass_of_methodNamed B.named
  have hlocks := B.notSynchronized
  have iX8 : ∀ w ∈ u_ws RX8 TX8 2, w ∈ wsX2_isTable := by decide +kernel
  have hl := lv_entry ([.ref a0]) (n := 4) (Nat.le_of_ble_eq_true rfl)
  rw [lg_entry_eq]
  generalize (lg_sl ([.ref a0]) ++ List.replicate (4 - (lg_sl ([.ref a0])).length) Slot.unset).toArray = ls at hl ⊢
  have hl : lv_has ls 4 [(0, .ref a0)] := hl
  obtain ⟨bt, rbt, tbt⟩ := hR.at a0 0 t_a0 (rfl : h_rs 9 0 = some (900, false)) (by decide)
  have abt : h_ad z a0 0 = bt := h_ad.at rbt
  obtain ⟨f0_1, ef0_1⟩ : ∃ v : Int32, v = I0 a0 1 := ⟨_, rfl⟩
  have qf0_1 : (I0 a0 1).toInt = f0_1.toInt := congrArg Int32.toInt ef0_1.symm
  have jf0_1 := hI.rd a0 1 t_a0 ef0_1 (rfl : h_bd 9 1 = (0, 500))
  obtain ⟨gb, egb⟩ : ∃ g : Int → Int, g = q_at (I0 bt) (I0 a0 1).toInt := ⟨_, rfl⟩
  refine lv_iconst (v := 0) hx hb dX2_isTable_0 (by decide) ?_
  refine lv_istore_n (lv' := [(1, .int 0), (0, .ref a0)]) hx hb dX2_isTable_1 rfl hl (by decide) rfl (fun ls hl => ?_)
  refine lv_iconst (v := 0) hx hb dX2_isTable_2 (by decide) ?_
  refine lv_istore_n (lv' := [(2, .int 0), (1, .int 0), (0, .ref a0)]) hx hb dX2_isTable_3 rfl hl (by decide) rfl (fun ls hl => ?_)
  have loop4_0 : ∀ (n : Nat) (ls : Array Slot) (v1 v2 : Int32), lv_has ls 4 [(0, .ref a0), (1, .int v1), (2, .int v2)] → ((-2147483648) ≤ v1.toInt ∧ v1.toInt ≤ 2147483647) → (0 ≤ v2.toInt ∧ v2.toInt ≤ 8) → (v1 = nI (q_seen gb (v2.toInt).toNat)) → (8 - v2.toInt) < (n : Int) → W pr_ l ev_ (headSpec wsX2_isTable ({ frames := 2, cells := 0, slots := 0, locals := 128 })).room s m ([.ref a0] : List Value).toArray below meth cd_ s.heap [] 0 0 (MQ below (vp_Si (fun r => (0 ≤ r.toInt ∧ r.toInt ≤ 1) ∧ ((r.toInt = 1 ∧ h_istab (q_at (I0 (h_ad z a0 0)) (I0 a0 1).toInt) (I0 a0 1).toInt) ∨ (r.toInt = 0 ∧ ¬ h_istab (q_at (I0 (h_ad z a0 0)) (I0 a0 1).toInt) (I0 a0 1).toInt)))) ([.ref a0] : List Value).toArray s 0 0 (fun _ => False)) (F0 m 4 ls []) := by
    intro n
    induction n with
    | zero => intro ls v1 v2 hl jv1 jv2 hx4_0 hn; exact absurd hn (by omega)
    | succ n ih4 =>
      intro ls v1 v2 hl jv1 jv2 hx4_0 hn
      refine lv_iload_n hx hb dX2_isTable_4 rfl (lv_at hl 2 rfl) ?_
      refine lv_bipush (v := 8) hx hb dX2_isTable_5 (by decide) ?_
      refine lv_icmp_ge (tgt := 38) hx hb dX2_isTable_7 (by decide) (fun c3 => ?_) (fun c3 => ?_)
      · have ic3 := (xi_le c3 (by decide) rfl : 8 ≤ v2.toInt)
        refine lv_aload_n hx hb dX2_isTable_38 rfl (lv_at hl 0 rfl) ?_
        refine h_get (v := .int f0_1) hx hb hts iX8 hown g t_a0 (by decide) so_9 rfl 1 (by decide) (hts (.fieldLink RX2 44 "CapLeague$Tape" "size" "I") (by decide +kernel)) rfl dX2_isTable_39 (congrArg Value.int (ef0_1.symm)) ?_
        refine lv_bipush (v := 8) hx hb dX2_isTable_42 (by decide) ?_
        refine lv_icmp_ne (tgt := 60) hx hb dX2_isTable_44 (by decide) (fun c4 => ?_) (fun c4 => ?_)
        · have ic4 := (xi_ne c4 rfl (by decide) : f0_1.toInt ≠ 8)
          refine lv_iconst (v := 0) hx hb dX2_isTable_60 (by decide) ?_
          exact W.zret (v := 0) hx hb hr (by decide) (fun t ht hW => ⟨0, rfl, ⟨⟨(by decide), (by decide)⟩, (by rw [abt, ← egb, qf0_1]; exact Or.inr ⟨by decide, fun h9 => absurd h9.1 (by omega)⟩)⟩, ht⟩) (fun _ h => by cases h) dX2_isTable_61
        · have ic4 := (xi_eq c4 rfl (by decide) : f0_1.toInt = 8)
          refine lv_iload_n hx hb dX2_isTable_47 rfl (lv_at hl 1 rfl) ?_
          refine vp_callSi (W.runS (As := [.int v1]) (rest := []) ⟨hx, hb, hml, hown, hts⟩ (tJ6_bitCountF l E X A z I0 L0 v1 (v1.toInt) rfl) (va_cwS 1 hts gX2_isTable_J6_bitCount_0f7a4 rfl rfl rfl (by decide +kernel) ⟨Nat.le_of_ble_eq_true rfl, Nat.le_of_ble_eq_true rfl⟩) ⟨h_blind _ _ _ _ _ _ _, h_pre _ hE hk hX hA hI hR g⟩ rfl rfl hl.1 rfl (lv_room (Nat.le_of_ble_eq_true rfl)) dX2_isTable_48 ⟨Nat.le_of_ble_eq_true rfl, Nat.le_of_ble_eq_true rfl⟩) (fun rh5 h5 => ?_)
          have h5p0 := h5
          have jrh5 : -2147483648 ≤ rh5.toInt ∧ rh5.toInt ≤ 2147483647 := ⟨xi_lo _, Int.le_of_lt_add_one (xi_hi _)⟩
          have bc := h5p0 (q_seen gb 8) (q_seen_lt gb 8) (by rw [hx4_0]; congr 2; omega)
          refine lv_bipush (v := 8) hx hb dX2_isTable_51 (by decide) ?_
          refine lv_icmp_ne (tgt := 60) hx hb dX2_isTable_53 (by decide) (fun c6 => ?_) (fun c6 => ?_)
          · have ic6 := (xi_ne c6 rfl (by decide) : rh5.toInt ≠ 8)
            refine lv_iconst (v := 0) hx hb dX2_isTable_60 (by decide) ?_
            exact W.zret (v := 0) hx hb hr (by decide) (fun t ht hW => ⟨0, rfl, ⟨⟨(by decide), (by decide)⟩, (by rw [abt, ← egb, qf0_1]; exact Or.inr ⟨by decide, fun h9 => absurd (bc.mpr h9.2) (by omega)⟩)⟩, ht⟩) (fun _ h => by cases h) dX2_isTable_61
          · have ic6 := (xi_eq c6 rfl (by decide) : rh5.toInt = 8)
            refine lv_iconst (v := 1) hx hb dX2_isTable_56 (by decide) ?_
            refine lv_goto (tgt := 61) hx hb dX2_isTable_57 (by decide) ?_
            exact W.zret (v := 1) hx hb hr (by decide) (fun t ht hW => ⟨1, rfl, ⟨⟨(by decide), (by decide)⟩, (by rw [abt, ← egb, qf0_1]; exact Or.inl ⟨by decide, by omega, bc.mp (by omega)⟩)⟩, ht⟩) (fun _ h => by cases h) dX2_isTable_61
      · have ic3 := (xi_nle c3 (by decide) rfl : v2.toInt < 8)
        refine lv_aload_n hx hb dX2_isTable_10 rfl (lv_at hl 0 rfl) ?_
        refine lv_iload_n hx hb dX2_isTable_11 rfl (lv_at hl 2 rfl) ?_
        refine vp_callSi (W.runV (As := [.int v2]) (rest := []) ⟨hx, hb, hml, hown, hts⟩ (tX8_atF l E X A z I0 L0 a0 t_a0 v2 (v2.toInt) rfl) (cwV 1 hts gX2_isTable_X8_at rfl rfl rfl (by decide +kernel) ⟨Nat.le_of_ble_eq_true rfl, Nat.le_of_ble_eq_true rfl⟩) ⟨h_blind _ _ _ _ _ _ _, h_recv g t_a0 (by decide) so_9 (q := (RX8, TX8, 2)) rfl, h_pre _ hE hk hX hA hI hR g⟩ rfl rfl hl.1 rfl (lv_room (Nat.le_of_ble_eq_true rfl)) dX2_isTable_12 ⟨Nat.le_of_ble_eq_true rfl, Nat.le_of_ble_eq_true rfl⟩) (fun rh7 h7 => ?_)
        obtain ⟨h7, h7p0⟩ := h7
        rw [abt, ← egb] at h7p0
        refine lv_bipush (v := 65) hx hb dX2_isTable_15 (by decide) ?_
        refine lv_isub hx hb dX2_isTable_17 ?_
        refine lv_topi (fun v8 ev8 => ?_)
        have jv8 : v8.toInt = rh7.toInt - 65 := xi_sub ev8 rfl (by decide) (by omega) (by omega)
        refine lv_istore_n (lv' := [(3, .int v8), (0, .ref a0), (1, .int v1), (2, .int v2)]) hx hb dX2_isTable_18 rfl hl (by decide) rfl (fun ls hl => ?_)
        refine lv_iload_n hx hb dX2_isTable_19 rfl (lv_at hl 0 rfl) ?_
        refine vp_callSi (xr_of (va_runSN (As := [.int v8]) (rest := []) ⟨hx, hb, hml, hown, hts⟩ (tX11_isClub l E X A z I0 L0 v8 (v8.toInt) rfl) (⟨va_cnB 1 hts gX2_isTable_X11_isClub_n41 rfl rfl rfl (hE.link 12 rfl) (hts (.initialized RX11) (by decide +kernel)) (by decide +kernel) ⟨Nat.le_of_ble_eq_true rfl, Nat.le_of_ble_eq_true rfl⟩, hts (.static yX11_isClub) (by decide +kernel), trivial⟩) ⟨h_blind _ _ _ _ _ _ _, h_pre _ hE hk hX hA hI hR g⟩ rfl rfl hl.1 rfl (lv_room (Nat.le_of_ble_eq_true rfl)) dX2_isTable_20 ⟨Nat.le_of_ble_eq_true rfl, Nat.le_of_ble_eq_true rfl⟩)) (fun rh9 h9 => ?_)
        rcases h9 with ⟨rfl, h9⟩ | ⟨rfl, h9⟩
        · skip
          refine lv_if_eq (tgt := 32) hx hb dX2_isTable_23 (by decide) (fun _ => ?_) (fun h => absurd (by decide) h)
          obtain ⟨v11, ev11⟩ : ∃ z : Int32, z = v2 + 1 := ⟨_, rfl⟩
          have jv11 : v11.toInt = v2.toInt + 1 := xi_add ev11 rfl (by decide) (by omega) (by omega)
          refine lv_iinc (v := v11) (lv' := [(2, .int v11), (3, .int v8), (0, .ref a0), (1, .int v1)]) hx hb dX2_isTable_32 hl (k := 3) rfl (by rw [ev11]; rfl) (by decide) rfl (fun ls hl => ?_)
          refine lv_goto (tgt := 4) hx hb dX2_isTable_35 (by decide) ?_
          exact ih4 _ v1 v11 (lv_sub hl [2, 3, 0] rfl) (by omega) (by omega) (q_seen_out hx4_0 (by omega) (by omega) (by omega)) (by omega)
        · skip
          refine lv_if_eq (tgt := 32) hx hb dX2_isTable_23 (by decide) (fun h => absurd h (by decide)) (fun _ => ?_)
          refine lv_iload_n hx hb dX2_isTable_26 rfl (lv_at hl 2 rfl) ?_
          refine lv_iconst (v := 1) hx hb dX2_isTable_27 (by decide) ?_
          refine lv_iload_n hx hb dX2_isTable_28 rfl (lv_at hl 0 rfl) ?_
          refine lv_ishl hx hb dX2_isTable_29 ?_
          refine lv_topi (fun v13 ev13 => ?_)
          have jv13 : -2147483648 ≤ v13.toInt ∧ v13.toInt ≤ 2147483647 := ⟨xi_lo _, Int.le_of_lt_add_one (xi_hi _)⟩
          refine lv_ior hx hb dX2_isTable_30 ?_
          refine lv_topi (fun v14 ev14 => ?_)
          have jv14 : -2147483648 ≤ v14.toInt ∧ v14.toInt ≤ 2147483647 := ⟨xi_lo _, Int.le_of_lt_add_one (xi_hi _)⟩
          refine lv_istore_n (lv' := [(1, .int v14), (3, .int v8), (0, .ref a0), (2, .int v2)]) hx hb dX2_isTable_31 rfl hl (by decide) rfl (fun ls hl => ?_)
          obtain ⟨v15, ev15⟩ : ∃ z : Int32, z = v2 + 1 := ⟨_, rfl⟩
          have jv15 : v15.toInt = v2.toInt + 1 := xi_add ev15 rfl (by decide) (by omega) (by omega)
          refine lv_iinc (v := v15) (lv' := [(2, .int v15), (1, .int v14), (3, .int v8), (0, .ref a0)]) hx hb dX2_isTable_32 hl (k := 3) rfl (by rw [ev15]; rfl) (by decide) rfl (fun ls hl => ?_)
          refine lv_goto (tgt := 4) hx hb dX2_isTable_35 (by decide) ?_
          exact ih4 _ v14 v15 (lv_sub hl [3, 1, 0] rfl) (by omega) (by omega) (q_seen_in hx4_0 (by omega) (show v8.toInt = gb v2.toInt - 65 by omega) (by omega) (by omega) ev13 ev14 (by omega)) (by omega)
  have kc16 : (0 : Int32).toInt = 0 := by decide
  have kc17 : (0 : Int32).toInt = 0 := by decide
  exact loop4_0 _ _ (0) (0) (lv_sub hl [2, 1, 0] rfl) ⟨by decide, by decide⟩ ⟨by decide, by decide⟩ ((by decide : (0 : Int32) = nI 0)) (show (8 - (0 : Int)) < (((8 - (0 : Int)).toNat + 1 : Nat) : Int) by omega)
set_option maxHeartbeats 4000000 in
set_option maxRecDepth 100000 in
theorem tX2_tellTableF (l : Launch) (E : tE) (X : tX) (A : Nat → Prop) (z : tZ) (I0 : tI) (L0 : tL) (a0 : Nat) (t_a0 : z.ty a0 = 3) (p0 : Nat) (t_p0 : z.ty p0 = 9) : Met l yX2_tellTable wsX2_tellTable ({ frames := 2, cells := 0, slots := 0, locals := 128 }) (va_Pc [.ref a0, .ref p0] (h_P E X A z I0 L0)) (va_Qv (fun (I1 : tI) => h_I z I1 ∧ h_F [(300, 999), (3, 1)] z I0 I1 ∧ (∀ j : Nat, j < 8 → (I1 (h_ad z a0 0) j).toInt = q_at (I0 (h_ad z p0 0)) (I0 p0 1).toInt j - 65) ∧ (I1 a0 1 = 1)) (fun (I1 : tI) t => h_B E A z I1 L0 t) A) 0 0 A := by
  refine Met.ofW (cc := cX2_tellTable) (maxL := 3) (ret := none) (by decide) rfl ?_
  intro pr_ ev_ s m args below meth cd_ s₁ B hml hv
  obtain ⟨rfl, hE, hk, hX, hA, hK, hI, hR, hB0⟩ := hv
  have g : h_G h_so h_fk E A z I0 L0 s s.heap s.heap [] := ⟨hK, va_S.rf, hB0⟩
  have hF : h_F [(300, 999), (3, 1)] z I0 I0 := h_F.rf
  have hx := B.exec
  have hb := B.bytes
  have hr := B.returns
  have hts := atoms_spec (ws := wsX2_tellTable) B.pre
  have hown : s.vm.findClass RX2 = some m.cls := findClass_of_methodNamed B.named
  have hlocks := B.notSynchronized
  have iX2 : ∀ w ∈ u_ws RX2 TX2 7, w ∈ wsX2_tellTable := by decide +kernel
  have hl := lv_entry ([.ref a0, .ref p0]) (n := 3) (Nat.le_of_ble_eq_true rfl)
  rw [lg_entry_eq]
  generalize (lg_sl ([.ref a0, .ref p0]) ++ List.replicate (3 - (lg_sl ([.ref a0, .ref p0])).length) Slot.unset).toArray = ls at hl ⊢
  have hl : lv_has ls 3 [(0, .ref a0), (1, .ref p0)] := hl
  obtain ⟨rk, rrk, trk⟩ := hR.at a0 0 t_a0 (rfl : h_rs 3 0 = some (300, false)) (by decide)
  have ark : h_ad z a0 0 = rk := h_ad.at rrk
  obtain ⟨bt, rbt, tbt⟩ := hR.at p0 0 t_p0 (rfl : h_rs 9 0 = some (900, false)) (by decide)
  have abt : h_ad z p0 0 = bt := h_ad.at rbt
  obtain ⟨gb, egb⟩ : ∃ g : Int → Int, g = q_at (I0 bt) (I0 p0 1).toInt := ⟨_, rfl⟩
  refine lv_iconst (v := 0) hx hb dX2_tellTable_0 (by decide) ?_
  refine lv_istore_n (lv' := [(2, .int 0), (0, .ref a0), (1, .ref p0)]) hx hb dX2_tellTable_1 rfl hl (by decide) rfl (fun ls hl => ?_)
  have loop2_0 : ∀ (n : Nat) (I2 : tI) (H : Heap) (locs : List Loc) (ls : Array Slot) (v1 : Int32), h_G h_so h_fk E A z I2 L0 s s.heap H locs → h_I z I2 → h_F [(300, 999), (3, 1)] z I0 I2 → lv_has ls 3 [(0, .ref a0), (1, .ref p0), (2, .int v1)] → (0 ≤ v1.toInt ∧ v1.toInt ≤ 8) → (∀ j : Nat, (j : Int) < v1.toInt → (I2 rk j).toInt = gb j - 65) → (8 - v1.toInt) < (n : Int) → W pr_ l ev_ (headSpec wsX2_tellTable ({ frames := 2, cells := 0, slots := 0, locals := 128 })).room s m ([.ref a0, .ref p0] : List Value).toArray below meth cd_ H locs 0 0 (MQ below (va_Qv (fun (I1 : tI) => h_I z I1 ∧ h_F [(300, 999), (3, 1)] z I0 I1 ∧ (∀ j : Nat, j < 8 → (I1 (h_ad z a0 0) j).toInt = q_at (I0 (h_ad z p0 0)) (I0 p0 1).toInt j - 65) ∧ (I1 a0 1 = 1)) (fun (I1 : tI) t => h_B E A z I1 L0 t) A) ([.ref a0, .ref p0] : List Value).toArray s 0 0 A) (F0 m 2 ls []) := by
    intro n
    induction n with
    | zero => intro I2 H locs ls v1 g hI hF hl jv1 hx2_0 hn; exact absurd hn (by omega)
    | succ n ih2 =>
      intro I2 H locs ls v1 g hI hF hl jv1 hx2_0 hn
      refine lv_iload_n hx hb dX2_tellTable_2 rfl (lv_at hl 2 rfl) ?_
      refine lv_bipush (v := 8) hx hb dX2_tellTable_3 (by decide) ?_
      refine lv_icmp_ge (tgt := 28) hx hb dX2_tellTable_5 (by decide) (fun c3 => ?_) (fun c3 => ?_)
      · have ic3 := (xi_le c3 (by decide) rfl : 8 ≤ v1.toInt)
        refine lv_aload_n hx hb dX2_tellTable_28 rfl (lv_at hl 0 rfl) ?_
        refine lv_iconst (v := 1) hx hb dX2_tellTable_29 (by decide) ?_
        refine h_putI (ty := .boolean) (v := 1) hx hb hts iX2 tyX2 tyX2_ok nmX2 hown g t_a0 (by decide) so_3 rfl 1 (by decide) rfl (hts (.fieldLink RX2 53 "CapLeague$Draft" "tableTold" "Z") (by decide +kernel)) rfl rfl (by decide +kernel) (by decide) (by decide) dX2_tellTable_30 (fun I4 H locs eI4 g => ?_)
        have hI := hI.wr eI4 t_a0 (rfl : h_bd 3 1 = (0, 1)) (by decide) (by decide)
        have hF := hF.wr eI4 t_a0 rfl
        have hS := g.2.1
        exact W.vret hx hb hr (fun t ht hW => ⟨⟨I4, rfl, ⟨hI, hF, ⟨(by rw [ark, abt, ← egb]; exact fun j hj => by rw [h_n1 eI4 trk t_a0 (by decide)]; exact hx2_0 j (by omega)), (h_n0 eI4)⟩⟩, h_ret g ht⟩, hS.F ht⟩) hS.2.2 dX2_tellTable_33
      · have ic3 := (xi_nle c3 (by decide) rfl : v1.toInt < 8)
        refine lv_aload_n hx hb dX2_tellTable_8 rfl (lv_at hl 0 rfl) ?_
        refine h_get (v := .ref rk) hx hb hts iX2 hown g t_a0 (by decide) so_3 rfl 0 (by decide) (hts (.fieldLink RX2 9 "CapLeague$Draft" "ranks" "[I") (by decide +kernel)) rfl dX2_tellTable_9 (by show va_rf (z.R a0 0) = _; rw [rrk]; rfl) ?_
        refine lv_iload_n hx hb dX2_tellTable_12 rfl (lv_at hl 2 rfl) ?_
        refine lv_aload_n hx hb dX2_tellTable_13 rfl (lv_at hl 1 rfl) ?_
        refine lv_iload_n hx hb dX2_tellTable_14 rfl (lv_at hl 2 rfl) ?_
        refine vp_callSi (W.runV (As := [.int v1]) (rest := [.int v1, .ref rk]) ⟨hx, hb, hml, hown, hts⟩ (tX8_atF l E X A z I2 L0 p0 t_p0 v1 (v1.toInt) rfl) (cwV 1 hts gX2_tellTable_X8_at rfl rfl rfl (by decide +kernel) ⟨Nat.le_of_ble_eq_true rfl, Nat.le_of_ble_eq_true rfl⟩) ⟨h_blind _ _ _ _ _ _ _, h_recv g t_p0 (by decide) so_9 (q := (RX8, TX8, 2)) rfl, h_pre _ hE hk hX hA hI hR g⟩ rfl rfl hl.1 rfl (lv_room (Nat.le_of_ble_eq_true rfl)) dX2_tellTable_15 ⟨Nat.le_of_ble_eq_true rfl, Nat.le_of_ble_eq_true rfl⟩) (fun rh5 h5 => ?_)
        obtain ⟨h5, h5p0⟩ := h5
        rw [abt, show I2 bt = I0 bt from funext (fun k => hF.at tbt rfl), show I2 p0 1 = I0 p0 1 from hF.at t_p0 rfl, ← egb] at h5p0
        refine lv_bipush (v := 65) hx hb dX2_tellTable_18 (by decide) ?_
        refine lv_isub hx hb dX2_tellTable_20 ?_
        refine lv_topi (fun v6 ev6 => ?_)
        have jv6 : v6.toInt = rh5.toInt - 65 := xi_sub ev6 rfl (by decide) (by omega) (by omega)
        refine h_ast hx hb g trk (by decide) so_300 (xi_in (by omega) (by omega)) dX2_tellTable_21 (fun I7 H locs eI7 g => ?_)
        have hI := hI.wr eI7 trk (rfl : h_bd 300 _ = ((-2147483648), 2147483647)) (xi_lo _) (Int.le_of_lt_add_one (xi_hi _))
        have hF := hF.wr eI7 trk rfl
        obtain ⟨v8, ev8⟩ : ∃ z : Int32, z = v1 + 1 := ⟨_, rfl⟩
        have jv8 : v8.toInt = v1.toInt + 1 := xi_add ev8 rfl (by decide) (by omega) (by omega)
        refine lv_iinc (v := v8) (lv' := [(2, .int v8), (0, .ref a0), (1, .ref p0)]) hx hb dX2_tellTable_22 hl (k := 2) rfl (by rw [ev8]; rfl) (by decide) rfl (fun ls hl => ?_)
        refine lv_goto (tgt := 2) hx hb dX2_tellTable_25 (by decide) ?_
        exact ih2 I7 _ _ _ v8 g hI hF (lv_sub hl [1, 2, 0] rfl) (by omega) (q_tbmore hx2_0 (by omega) eI7 rfl (by omega) (by omega)) (by omega)
  have kc9 : (0 : Int32).toInt = 0 := by decide
  exact loop2_0 _ I0 _ _ _ (0) g hI hF (lv_sub hl [1, 2, 0] rfl) ⟨by decide, by decide⟩ (fun j hj => absurd hj (by omega)) (show (8 - (0 : Int)) < (((8 - (0 : Int)).toNat + 1 : Nat) : Int) by omega)
set_option maxHeartbeats 4000000 in
set_option maxRecDepth 100000 in
theorem tX12_tableX (l : Launch) (E : tE) (X : tX) (A : Nat → Prop) (z : tZ) (I0 : tI) (L0 : tL) (a0 : Nat) (t_a0 : z.ty a0 = 13) : Met l yX12_table wsX12_table ({ frames := 2, cells := 0, slots := 0, locals := 128 }) (va_Pc [.ref a0] (h_P E X A z I0 L0)) (va_Qi (fun r (I1 : tI) => h_I z I1 ∧ h_F [(13, 1), (1332, 999), (13, 30)] z I0 I1 ∧ (((I0 a0 31).toInt = 1 ∧ r.toInt = -4 ∧ (∀ k : Nat, I1 (h_ad z a0 32) k = I0 (h_ad z a0 32) k) ∧ I1 a0 30 = I0 a0 30) ∨ ((I0 a0 31).toInt = 0 ∧ ¬ h_istab (q_at (I0 (h_ad z a0 0)) (I0 a0 1).toInt) (I0 a0 1).toInt ∧ r.toInt = -1 ∧ (∀ k : Nat, I1 (h_ad z a0 32) k = I0 (h_ad z a0 32) k) ∧ I1 a0 30 = I0 a0 30) ∨ ((I0 a0 31).toInt = 0 ∧ h_istab (q_at (I0 (h_ad z a0 0)) (I0 a0 1).toInt) (I0 a0 1).toInt ∧ r.toInt = 1 ∧ (∀ j : Nat, j < 8 → (I1 (h_ad z a0 32) j).toInt = (q_at (I0 (h_ad z a0 0)) (I0 a0 1).toInt) j - 65) ∧ I1 a0 30 = 1)) ∧ ((I1 a0 1).toInt = 0)) (fun (I1 : tI) t => h_B E A z I1 L0 t) A) 0 0 A := by
  refine Met.ofW (cc := cX12_table) (maxL := 4) (ret := (some .int)) (by decide) rfl ?_
  intro pr_ ev_ s m args below meth cd_ s₁ B hml hv
  obtain ⟨rfl, hE, hk, hX, hA, hK, hI, hR, hB0⟩ := hv
  have g : h_G h_so h_fk E A z I0 L0 s s.heap s.heap [] := ⟨hK, va_S.rf, hB0⟩
  have hF : h_F [(13, 1), (1332, 999), (13, 30)] z I0 I0 := h_F.rf
  have hx := B.exec
  have hb := B.bytes
  have hr := B.returns
  have hts := atoms_spec (ws := wsX12_table) B.pre
  have hown : s.vm.findClass RX12 = some m.cls := findClass_of_methodNamed B.named
  have hlocks := B.notSynchronized
  have iX12 : ∀ w ∈ u_ws RX12 TX12 51, w ∈ wsX12_table := by decide +kernel
  have hl := lv_entry ([.ref a0]) (n := 4) (Nat.le_of_ble_eq_true rfl)
  rw [lg_entry_eq]
  generalize (lg_sl ([.ref a0]) ++ List.replicate (4 - (lg_sl ([.ref a0])).length) Slot.unset).toArray = ls at hl ⊢
  have hl : lv_has ls 4 [(0, .ref a0)] := hl
  obtain ⟨bt, rbt, tbt⟩ := hR.at a0 0 t_a0 (rfl : h_rs 13 0 = some (1300, false)) (by decide)
  have abt : h_ad z a0 0 = bt := h_ad.at rbt
  obtain ⟨tb, rtb, ttb⟩ := hR.at a0 32 t_a0 (rfl : h_rs 13 32 = some (1332, false)) (by decide)
  have atb : h_ad z a0 32 = tb := h_ad.at rtb
  obtain ⟨f0_1, ef0_1⟩ : ∃ v : Int32, v = I0 a0 1 := ⟨_, rfl⟩
  have qf0_1 : (I0 a0 1).toInt = f0_1.toInt := congrArg Int32.toInt ef0_1.symm
  have jf0_1 := hI.rd a0 1 t_a0 ef0_1 (rfl : h_bd 13 1 = (0, 500))
  obtain ⟨f0_30, ef0_30⟩ : ∃ v : Int32, v = I0 a0 30 := ⟨_, rfl⟩
  have qf0_30 : (I0 a0 30).toInt = f0_30.toInt := congrArg Int32.toInt ef0_30.symm
  have jf0_30 := hI.rd a0 30 t_a0 ef0_30 (rfl : h_bd 13 30 = (0, 1))
  obtain ⟨f0_31, ef0_31⟩ : ∃ v : Int32, v = I0 a0 31 := ⟨_, rfl⟩
  have qf0_31 : (I0 a0 31).toInt = f0_31.toInt := congrArg Int32.toInt ef0_31.symm
  have jf0_31 := hI.rd a0 31 t_a0 ef0_31 (rfl : h_bd 13 31 = (0, 1))
  obtain ⟨gb, egb⟩ : ∃ g : Int → Int, g = q_at (I0 bt) f0_1.toInt := ⟨_, rfl⟩
  have hm : I0 a0 30 = I0 a0 30 := rfl
  have htp : True := trivial
  refine lv_aload_n hx hb dX12_table_0 rfl (lv_at hl 0 rfl) ?_
  refine h_get (v := .int f0_1) hx hb hts iX12 hown g t_a0 (by decide) so_13 rfl 1 (by decide) (hts (.fieldLink RX12 119 "CapLeagueModel" "taped" "I") (by decide +kernel)) rfl dX12_table_1 (congrArg Value.int (ef0_1.symm)) ?_
  refine lv_istore_n (lv' := [(1, .int f0_1), (0, .ref a0)]) hx hb dX12_table_4 rfl hl (by decide) rfl (fun ls hl => ?_)
  refine lv_aload_n hx hb dX12_table_5 rfl (lv_at hl 1 rfl) ?_
  refine lv_iconst (v := 0) hx hb dX12_table_6 (by decide) ?_
  refine h_putI (ty := .int) (v := 0) hx hb hts iX12 tyX12 tyX12_ok nmX12 hown g t_a0 (by decide) so_13 rfl 1 (by decide) rfl (hts (.fieldLink RX12 119 "CapLeagueModel" "taped" "I") (by decide +kernel)) rfl rfl (by decide +kernel) rfl rfl dX12_table_7 (fun I1 H locs eI1 g => ?_)
  have hI := hI.wr eI1 t_a0 (rfl : h_bd 13 1 = (0, 500)) (by decide) (by decide)
  have hF := hF.wr eI1 t_a0 rfl
  have hm : I1 a0 30 = I0 a0 30 := (h_n2 eI1 (by decide)).trans hm
  have htp : I1 a0 1 = 0 := h_n0 eI1
  refine lv_aload_n hx hb dX12_table_10 rfl (lv_at hl 1 rfl) ?_
  refine h_get (v := .int f0_31) hx hb hts iX12 hown g t_a0 (by decide) so_13 rfl 31 (by decide) (hts (.fieldLink RX12 264 "CapLeagueModel" "isDrawn" "Z") (by decide +kernel)) rfl dX12_table_11 (congrArg Value.int ((h_n2 eI1 (by decide)).trans (ef0_31.symm))) ?_
  refine lv_if_eq (tgt := 20) hx hb dX12_table_14 (by decide) (fun c2 => ?_) (fun c2 => ?_)
  · have ic2 := (xi_eq c2 rfl (by decide) : f0_31.toInt = 0)
    refine lv_iconst (v := 0) hx hb dX12_table_20 (by decide) ?_
    refine lv_istore_n (lv' := [(2, .int 0), (1, .int f0_1), (0, .ref a0)]) hx hb dX12_table_21 rfl hl (by decide) rfl (fun ls hl => ?_)
    refine lv_iconst (v := 0) hx hb dX12_table_22 (by decide) ?_
    refine lv_istore_n (lv' := [(3, .int 0), (2, .int 0), (1, .int f0_1), (0, .ref a0)]) hx hb dX12_table_23 rfl hl (by decide) rfl (fun ls hl => ?_)
    have loop24_0 : ∀ (n : Nat) (I5 : tI) (H : Heap) (locs : List Loc) (ls : Array Slot) (v3 v4 : Int32), h_G h_so h_fk E A z I5 L0 s s.heap H locs → h_I z I5 → h_F [(13, 1), (1332, 999), (13, 30)] z I0 I5 → lv_has ls 4 [(0, .ref a0), (1, .int f0_1), (2, .int v3), (3, .int v4)] → ((-2147483648) ≤ v3.toInt ∧ v3.toInt ≤ 2147483647) → (0 ≤ v4.toInt ∧ v4.toInt ≤ 8) → h_F [] z I1 I5 → (v3 = nI (q_seen gb (v4.toInt).toNat)) → (I5 a0 30 = I0 a0 30) → (I5 a0 1 = 0) → (8 - v4.toInt) < (n : Int) → W pr_ l ev_ (headSpec wsX12_table ({ frames := 2, cells := 0, slots := 0, locals := 128 })).room s m ([.ref a0] : List Value).toArray below meth cd_ H locs 0 0 (MQ below (va_Qi (fun r (I1 : tI) => h_I z I1 ∧ h_F [(13, 1), (1332, 999), (13, 30)] z I0 I1 ∧ (((I0 a0 31).toInt = 1 ∧ r.toInt = -4 ∧ (∀ k : Nat, I1 (h_ad z a0 32) k = I0 (h_ad z a0 32) k) ∧ I1 a0 30 = I0 a0 30) ∨ ((I0 a0 31).toInt = 0 ∧ ¬ h_istab (q_at (I0 (h_ad z a0 0)) (I0 a0 1).toInt) (I0 a0 1).toInt ∧ r.toInt = -1 ∧ (∀ k : Nat, I1 (h_ad z a0 32) k = I0 (h_ad z a0 32) k) ∧ I1 a0 30 = I0 a0 30) ∨ ((I0 a0 31).toInt = 0 ∧ h_istab (q_at (I0 (h_ad z a0 0)) (I0 a0 1).toInt) (I0 a0 1).toInt ∧ r.toInt = 1 ∧ (∀ j : Nat, j < 8 → (I1 (h_ad z a0 32) j).toInt = (q_at (I0 (h_ad z a0 0)) (I0 a0 1).toInt) j - 65) ∧ I1 a0 30 = 1)) ∧ ((I1 a0 1).toInt = 0)) (fun (I1 : tI) t => h_B E A z I1 L0 t) A) ([.ref a0] : List Value).toArray s 0 0 A) (F0 m 24 ls []) := by
      intro n
      induction n with
      | zero => intro I5 H locs ls v3 v4 g hI hF hl jv3 jv4 hL24 hx24_0 hm htp hn; exact absurd hn (by omega)
      | succ n ih24 =>
        intro I5 H locs ls v3 v4 g hI hF hl jv3 jv4 hL24 hx24_0 hm htp hn
        refine lv_iload_n hx hb dX12_table_24 rfl (lv_at hl 3 rfl) ?_
        refine lv_iload_n hx hb dX12_table_25 rfl (lv_at hl 1 rfl) ?_
        refine lv_icmp_ge (tgt := 74) hx hb dX12_table_26 (by decide) (fun c6 => ?_) (fun c6 => ?_)
        · have ic6 := (xi_le c6 rfl rfl : f0_1.toInt ≤ v4.toInt)
          refine lv_iload_n hx hb dX12_table_74 rfl (lv_at hl 1 rfl) ?_
          refine lv_bipush (v := 8) hx hb dX12_table_75 (by decide) ?_
          refine lv_icmp_ne (tgt := 87) hx hb dX12_table_77 (by decide) (fun c7 => ?_) (fun c7 => ?_)
          · have ic7 := (xi_ne c7 rfl (by decide) : f0_1.toInt ≠ 8)
            refine lv_iconst (v := (-1)) hx hb dX12_table_87 (by decide) ?_
            have hS := g.2.1
            exact W.iret (v := (-1)) hx hb hr (fun t ht hW => ⟨⟨(-1), I5, rfl, ⟨hI, hF, ⟨(by rw [abt, qf0_1, ← egb, qf0_31, atb]; exact Or.inr (Or.inl ⟨by omega, (fun h9 => absurd h9.1 (by omega)), by decide, fun k => (h_F.at hL24 ttb rfl).trans (h_n1 eI1 ttb t_a0 (by decide)), hm⟩)), (by rw [htp]; decide)⟩⟩, h_ret g ht⟩, hS.F ht⟩) hS.2.2 dX12_table_88
          · have ic7 := (xi_eq c7 rfl (by decide) : f0_1.toInt = 8)
            refine lv_iload_n hx hb dX12_table_80 rfl (lv_at hl 2 rfl) ?_
            refine lv_sipush (v := 255) hx hb dX12_table_81 (by decide) ?_
            refine lv_icmp_eq (tgt := 89) hx hb dX12_table_84 (by decide) (fun c8 => ?_) (fun c8 => ?_)
            · have ic8 := (xi_eq c8 rfl (by decide) : v3.toInt = 255)
              have it : h_istab gb f0_1.toInt := ⟨by omega, (q_seen8 (g := gb) (x := v3) (by rw [hx24_0]; congr 2; omega)).mp (by omega)⟩
              refine lv_iconst (v := 0) hx hb dX12_table_89 (by decide) ?_
              refine lv_istore_n (lv' := [(3, .int 0), (0, .ref a0), (1, .int f0_1), (2, .int v3)]) hx hb dX12_table_90 rfl hl (by decide) rfl (fun ls hl => ?_)
              have loop91_1 : ∀ (n : Nat) (I10 : tI) (H : Heap) (locs : List Loc) (ls : Array Slot) (v9 : Int32), h_G h_so h_fk E A z I10 L0 s s.heap H locs → h_I z I10 → h_F [(13, 1), (1332, 999), (13, 30)] z I0 I10 → lv_has ls 4 [(0, .ref a0), (3, .int v9)] → (0 ≤ v9.toInt ∧ v9.toInt ≤ 8) → h_F [(1332, 999)] z I5 I10 → (∀ j : Nat, (j : Int) < v9.toInt → (I10 tb j).toInt = gb j - 65) → (I10 a0 30 = I0 a0 30) → (I10 a0 1 = 0) → (8 - v9.toInt) < (n : Int) → W pr_ l ev_ (headSpec wsX12_table ({ frames := 2, cells := 0, slots := 0, locals := 128 })).room s m ([.ref a0] : List Value).toArray below meth cd_ H locs 0 0 (MQ below (va_Qi (fun r (I1 : tI) => h_I z I1 ∧ h_F [(13, 1), (1332, 999), (13, 30)] z I0 I1 ∧ (((I0 a0 31).toInt = 1 ∧ r.toInt = -4 ∧ (∀ k : Nat, I1 (h_ad z a0 32) k = I0 (h_ad z a0 32) k) ∧ I1 a0 30 = I0 a0 30) ∨ ((I0 a0 31).toInt = 0 ∧ ¬ h_istab (q_at (I0 (h_ad z a0 0)) (I0 a0 1).toInt) (I0 a0 1).toInt ∧ r.toInt = -1 ∧ (∀ k : Nat, I1 (h_ad z a0 32) k = I0 (h_ad z a0 32) k) ∧ I1 a0 30 = I0 a0 30) ∨ ((I0 a0 31).toInt = 0 ∧ h_istab (q_at (I0 (h_ad z a0 0)) (I0 a0 1).toInt) (I0 a0 1).toInt ∧ r.toInt = 1 ∧ (∀ j : Nat, j < 8 → (I1 (h_ad z a0 32) j).toInt = (q_at (I0 (h_ad z a0 0)) (I0 a0 1).toInt) j - 65) ∧ I1 a0 30 = 1)) ∧ ((I1 a0 1).toInt = 0)) (fun (I1 : tI) t => h_B E A z I1 L0 t) A) ([.ref a0] : List Value).toArray s 0 0 A) (F0 m 91 ls []) := by
                intro n
                induction n with
                | zero => intro I10 H locs ls v9 g hI hF hl jv9 hL91 hx91_0 hm htp hn; exact absurd hn (by omega)
                | succ n ih91 =>
                  intro I10 H locs ls v9 g hI hF hl jv9 hL91 hx91_0 hm htp hn
                  refine lv_iload_n hx hb dX12_table_91 rfl (lv_at hl 1 rfl) ?_
                  refine lv_bipush (v := 8) hx hb dX12_table_92 (by decide) ?_
                  refine lv_icmp_ge (tgt := 118) hx hb dX12_table_94 (by decide) (fun c11 => ?_) (fun c11 => ?_)
                  · have ic11 := (xi_le c11 (by decide) rfl : 8 ≤ v9.toInt)
                    refine lv_aload_n hx hb dX12_table_118 rfl (lv_at hl 0 rfl) ?_
                    refine lv_iconst (v := 1) hx hb dX12_table_119 (by decide) ?_
                    refine h_putI (ty := .boolean) (v := 1) hx hb hts iX12 tyX12 tyX12_ok nmX12 hown g t_a0 (by decide) so_13 rfl 30 (by decide) rfl (hts (.fieldLink RX12 306 "CapLeagueModel" "hasTable" "Z") (by decide +kernel)) rfl rfl (by decide +kernel) (by decide) (by decide) dX12_table_120 (fun I12 H locs eI12 g => ?_)
                    have hI := hI.wr eI12 t_a0 (rfl : h_bd 13 30 = (0, 1)) (by decide) (by decide)
                    have hF := hF.wr eI12 t_a0 rfl
                    have htp : I12 a0 1 = 0 := (h_n2 eI12 (by decide)).trans htp
                    refine lv_iconst (v := 1) hx hb dX12_table_123 (by decide) ?_
                    have hS := g.2.1
                    exact W.iret (v := 1) hx hb hr (fun t ht hW => ⟨⟨1, I12, rfl, ⟨hI, hF, ⟨(by rw [abt, qf0_1, ← egb, qf0_31, atb]; exact Or.inr (Or.inr ⟨by omega, it, by decide, (fun j hj => by rw [h_n1 eI12 ttb t_a0 (by decide)]; exact hx91_0 j (by omega)), h_n0 eI12⟩)), (by rw [htp]; decide)⟩⟩, h_ret g ht⟩, hS.F ht⟩) hS.2.2 dX12_table_124
                  · have ic11 := (xi_nle c11 (by decide) rfl : v9.toInt < 8)
                    refine lv_aload_n hx hb dX12_table_97 rfl (lv_at hl 0 rfl) ?_
                    refine h_get (v := .ref tb) hx hb hts iX12 hown g t_a0 (by decide) so_13 rfl 32 (by decide) (hts (.fieldLink RX12 73 "CapLeagueModel" "table" "[I") (by decide +kernel)) rfl dX12_table_98 (by show va_rf (z.R a0 32) = _; rw [rtb]; rfl) ?_
                    refine lv_iload_n hx hb dX12_table_101 rfl (lv_at hl 1 rfl) ?_
                    refine lv_aload_n hx hb dX12_table_102 rfl (lv_at hl 0 rfl) ?_
                    refine h_get (v := .ref bt) hx hb hts iX12 hown g t_a0 (by decide) so_13 rfl 0 (by decide) (hts (.fieldLink RX12 7 "CapLeagueModel" "tape" "[B") (by decide +kernel)) rfl dX12_table_103 (by show va_rf (z.R a0 0) = _; rw [rbt]; rfl) ?_
                    refine lv_iload_n hx hb dX12_table_106 rfl (lv_at hl 1 rfl) ?_
                    refine h_bald hx hb g tbt (by decide) so_1300 (xi_in (by omega) (by omega)) dX12_table_107 ?_
                    refine lv_topi (fun v13 ev13 => ?_)
                    have jv13 := hI.rd bt v9.toNatClampNeg tbt ev13 (rfl : h_bd 1300 _ = ((-128), 127))
                    have gv13 : gb v9.toInt = v13.toInt % 256 := by rw [egb]; unfold q_at; rw [if_pos (by omega), ← h_keq (i := v9) (t := v9.toInt) (k := (v9.toInt).toNat) rfl (by omega) (by omega), ← show I10 bt = I0 bt from funext (fun k => hF.at tbt rfl), ← ev13]
                    have mv13 : 65 ≤ v13.toInt ∧ v13.toInt ≤ 72 := by have hq := q_tab_in it (v9.toInt).toNat (by omega); rw [show (((v9.toInt).toNat : Nat) : Int) = v9.toInt by omega] at hq; omega
                    refine lv_bipush (v := 65) hx hb dX12_table_108 (by decide) ?_
                    refine lv_isub hx hb dX12_table_110 ?_
                    refine lv_topi (fun v14 ev14 => ?_)
                    have jv14 : v14.toInt = v13.toInt - 65 := xi_sub ev14 rfl (by decide) (by omega) (by omega)
                    refine h_ast hx hb g ttb (by decide) so_1332 (xi_in (by omega) (by omega)) dX12_table_111 (fun I15 H locs eI15 g => ?_)
                    have hI := hI.wr eI15 ttb (rfl : h_bd 1332 _ = (0, 7)) (by omega) (by omega)
                    have hF := hF.wr eI15 ttb rfl
                    have hm : I15 a0 30 = I0 a0 30 := (h_n1 eI15 t_a0 ttb (by decide)).trans hm
                    have htp : I15 a0 1 = 0 := (h_n1 eI15 t_a0 ttb (by decide)).trans htp
                    obtain ⟨v16, ev16⟩ : ∃ z : Int32, z = v9 + 1 := ⟨_, rfl⟩
                    have jv16 : v16.toInt = v9.toInt + 1 := xi_add ev16 rfl (by decide) (by omega) (by omega)
                    refine lv_iinc (v := v16) (lv' := [(3, .int v16), (0, .ref a0)]) hx hb dX12_table_112 hl (k := 1) rfl (by rw [ev16]; rfl) (by decide) rfl (fun ls hl => ?_)
                    refine lv_goto (tgt := 91) hx hb dX12_table_115 (by decide) ?_
                    exact ih91 I15 _ _ _ v16 g hI hF (lv_sub hl [1, 0] rfl) (by omega) (h_F.wr (h_F.call (h_F.rf : h_F [(1332, 999)] z I5 I5) hL91 rfl) eI15 ttb rfl) (q_tbmore hx91_0 (by omega) eI15 rfl (by omega) (by omega)) hm htp (by omega)
              have kc17 : (0 : Int32).toInt = 0 := by decide
              exact loop91_1 _ I5 _ _ _ (0) g hI hF (lv_sub hl [1, 0] rfl) ⟨by decide, by decide⟩ (h_F.rf : h_F [(1332, 999)] z I5 I5) (fun j hj => absurd hj (by omega)) hm htp (show (8 - (0 : Int)) < (((8 - (0 : Int)).toNat + 1 : Nat) : Int) by omega)
            · have ic8 := (xi_ne c8 rfl (by decide) : v3.toInt ≠ 255)
              refine lv_iconst (v := (-1)) hx hb dX12_table_87 (by decide) ?_
              have hS := g.2.1
              exact W.iret (v := (-1)) hx hb hr (fun t ht hW => ⟨⟨(-1), I5, rfl, ⟨hI, hF, ⟨(by rw [abt, qf0_1, ← egb, qf0_31, atb]; exact Or.inr (Or.inl ⟨by omega, (fun h9 => absurd ((q_seen8 (g := gb) (x := v3) (by rw [hx24_0]; congr 2; omega)).mpr h9.2) (by omega)), by decide, fun k => (h_F.at hL24 ttb rfl).trans (h_n1 eI1 ttb t_a0 (by decide)), hm⟩)), (by rw [htp]; decide)⟩⟩, h_ret g ht⟩, hS.F ht⟩) hS.2.2 dX12_table_88
        · have ic6 := (xi_nle c6 rfl rfl : v4.toInt < f0_1.toInt)
          refine lv_iload_n hx hb dX12_table_29 rfl (lv_at hl 1 rfl) ?_
          refine lv_bipush (v := 8) hx hb dX12_table_30 (by decide) ?_
          refine lv_icmp_ne (tgt := 74) hx hb dX12_table_32 (by decide) (fun c18 => ?_) (fun c18 => ?_)
          · have ic18 := (xi_ne c18 rfl (by decide) : f0_1.toInt ≠ 8)
            refine lv_iload_n hx hb dX12_table_74 rfl (lv_at hl 1 rfl) ?_
            refine lv_bipush (v := 8) hx hb dX12_table_75 (by decide) ?_
            refine lv_icmp_ne (tgt := 87) hx hb dX12_table_77 (by decide) (fun c19 => ?_) (fun c19 => ?_)
            · have ic19 := (xi_ne c19 rfl (by decide) : f0_1.toInt ≠ 8)
              refine lv_iconst (v := (-1)) hx hb dX12_table_87 (by decide) ?_
              have hS := g.2.1
              exact W.iret (v := (-1)) hx hb hr (fun t ht hW => ⟨⟨(-1), I5, rfl, ⟨hI, hF, ⟨(by rw [abt, qf0_1, ← egb, qf0_31, atb]; exact Or.inr (Or.inl ⟨by omega, (fun h9 => absurd h9.1 (by omega)), by decide, fun k => (h_F.at hL24 ttb rfl).trans (h_n1 eI1 ttb t_a0 (by decide)), hm⟩)), (by rw [htp]; decide)⟩⟩, h_ret g ht⟩, hS.F ht⟩) hS.2.2 dX12_table_88
            · have ic19 := (xi_eq c19 rfl (by decide) : f0_1.toInt = 8)
              refine lv_iload_n hx hb dX12_table_80 rfl (lv_at hl 2 rfl) ?_
              refine lv_sipush (v := 255) hx hb dX12_table_81 (by decide) ?_
              refine lv_icmp_eq (tgt := 89) hx hb dX12_table_84 (by decide) (fun c20 => ?_) (fun c20 => ?_)
              · have ic20 := (xi_eq c20 rfl (by decide) : v3.toInt = 255)
                have it : h_istab gb f0_1.toInt := ⟨by omega, (q_seen8 (g := gb) (x := v3) (by rw [hx24_0]; congr 2; omega)).mp (by omega)⟩
                refine lv_iconst (v := 0) hx hb dX12_table_89 (by decide) ?_
                refine lv_istore_n (lv' := [(3, .int 0), (0, .ref a0), (1, .int f0_1), (2, .int v3)]) hx hb dX12_table_90 rfl hl (by decide) rfl (fun ls hl => ?_)
                have loop91_2 : ∀ (n : Nat) (I22 : tI) (H : Heap) (locs : List Loc) (ls : Array Slot) (v21 : Int32), h_G h_so h_fk E A z I22 L0 s s.heap H locs → h_I z I22 → h_F [(13, 1), (1332, 999), (13, 30)] z I0 I22 → lv_has ls 4 [(0, .ref a0), (3, .int v21)] → (0 ≤ v21.toInt ∧ v21.toInt ≤ 8) → h_F [(1332, 999)] z I5 I22 → (∀ j : Nat, (j : Int) < v21.toInt → (I22 tb j).toInt = gb j - 65) → (I22 a0 30 = I0 a0 30) → (I22 a0 1 = 0) → (8 - v21.toInt) < (n : Int) → W pr_ l ev_ (headSpec wsX12_table ({ frames := 2, cells := 0, slots := 0, locals := 128 })).room s m ([.ref a0] : List Value).toArray below meth cd_ H locs 0 0 (MQ below (va_Qi (fun r (I1 : tI) => h_I z I1 ∧ h_F [(13, 1), (1332, 999), (13, 30)] z I0 I1 ∧ (((I0 a0 31).toInt = 1 ∧ r.toInt = -4 ∧ (∀ k : Nat, I1 (h_ad z a0 32) k = I0 (h_ad z a0 32) k) ∧ I1 a0 30 = I0 a0 30) ∨ ((I0 a0 31).toInt = 0 ∧ ¬ h_istab (q_at (I0 (h_ad z a0 0)) (I0 a0 1).toInt) (I0 a0 1).toInt ∧ r.toInt = -1 ∧ (∀ k : Nat, I1 (h_ad z a0 32) k = I0 (h_ad z a0 32) k) ∧ I1 a0 30 = I0 a0 30) ∨ ((I0 a0 31).toInt = 0 ∧ h_istab (q_at (I0 (h_ad z a0 0)) (I0 a0 1).toInt) (I0 a0 1).toInt ∧ r.toInt = 1 ∧ (∀ j : Nat, j < 8 → (I1 (h_ad z a0 32) j).toInt = (q_at (I0 (h_ad z a0 0)) (I0 a0 1).toInt) j - 65) ∧ I1 a0 30 = 1)) ∧ ((I1 a0 1).toInt = 0)) (fun (I1 : tI) t => h_B E A z I1 L0 t) A) ([.ref a0] : List Value).toArray s 0 0 A) (F0 m 91 ls []) := by
                  intro n
                  induction n with
                  | zero => intro I22 H locs ls v21 g hI hF hl jv21 hL91 hx91_0 hm htp hn; exact absurd hn (by omega)
                  | succ n ih91 =>
                    intro I22 H locs ls v21 g hI hF hl jv21 hL91 hx91_0 hm htp hn
                    refine lv_iload_n hx hb dX12_table_91 rfl (lv_at hl 1 rfl) ?_
                    refine lv_bipush (v := 8) hx hb dX12_table_92 (by decide) ?_
                    refine lv_icmp_ge (tgt := 118) hx hb dX12_table_94 (by decide) (fun c23 => ?_) (fun c23 => ?_)
                    · have ic23 := (xi_le c23 (by decide) rfl : 8 ≤ v21.toInt)
                      refine lv_aload_n hx hb dX12_table_118 rfl (lv_at hl 0 rfl) ?_
                      refine lv_iconst (v := 1) hx hb dX12_table_119 (by decide) ?_
                      refine h_putI (ty := .boolean) (v := 1) hx hb hts iX12 tyX12 tyX12_ok nmX12 hown g t_a0 (by decide) so_13 rfl 30 (by decide) rfl (hts (.fieldLink RX12 306 "CapLeagueModel" "hasTable" "Z") (by decide +kernel)) rfl rfl (by decide +kernel) (by decide) (by decide) dX12_table_120 (fun I24 H locs eI24 g => ?_)
                      have hI := hI.wr eI24 t_a0 (rfl : h_bd 13 30 = (0, 1)) (by decide) (by decide)
                      have hF := hF.wr eI24 t_a0 rfl
                      have htp : I24 a0 1 = 0 := (h_n2 eI24 (by decide)).trans htp
                      refine lv_iconst (v := 1) hx hb dX12_table_123 (by decide) ?_
                      have hS := g.2.1
                      exact W.iret (v := 1) hx hb hr (fun t ht hW => ⟨⟨1, I24, rfl, ⟨hI, hF, ⟨(by rw [abt, qf0_1, ← egb, qf0_31, atb]; exact Or.inr (Or.inr ⟨by omega, it, by decide, (fun j hj => by rw [h_n1 eI24 ttb t_a0 (by decide)]; exact hx91_0 j (by omega)), h_n0 eI24⟩)), (by rw [htp]; decide)⟩⟩, h_ret g ht⟩, hS.F ht⟩) hS.2.2 dX12_table_124
                    · have ic23 := (xi_nle c23 (by decide) rfl : v21.toInt < 8)
                      refine lv_aload_n hx hb dX12_table_97 rfl (lv_at hl 0 rfl) ?_
                      refine h_get (v := .ref tb) hx hb hts iX12 hown g t_a0 (by decide) so_13 rfl 32 (by decide) (hts (.fieldLink RX12 73 "CapLeagueModel" "table" "[I") (by decide +kernel)) rfl dX12_table_98 (by show va_rf (z.R a0 32) = _; rw [rtb]; rfl) ?_
                      refine lv_iload_n hx hb dX12_table_101 rfl (lv_at hl 1 rfl) ?_
                      refine lv_aload_n hx hb dX12_table_102 rfl (lv_at hl 0 rfl) ?_
                      refine h_get (v := .ref bt) hx hb hts iX12 hown g t_a0 (by decide) so_13 rfl 0 (by decide) (hts (.fieldLink RX12 7 "CapLeagueModel" "tape" "[B") (by decide +kernel)) rfl dX12_table_103 (by show va_rf (z.R a0 0) = _; rw [rbt]; rfl) ?_
                      refine lv_iload_n hx hb dX12_table_106 rfl (lv_at hl 1 rfl) ?_
                      refine h_bald hx hb g tbt (by decide) so_1300 (xi_in (by omega) (by omega)) dX12_table_107 ?_
                      refine lv_topi (fun v25 ev25 => ?_)
                      have jv25 := hI.rd bt v21.toNatClampNeg tbt ev25 (rfl : h_bd 1300 _ = ((-128), 127))
                      have gv25 : gb v21.toInt = v25.toInt % 256 := by rw [egb]; unfold q_at; rw [if_pos (by omega), ← h_keq (i := v21) (t := v21.toInt) (k := (v21.toInt).toNat) rfl (by omega) (by omega), ← show I22 bt = I0 bt from funext (fun k => hF.at tbt rfl), ← ev25]
                      have mv25 : 65 ≤ v25.toInt ∧ v25.toInt ≤ 72 := by have hq := q_tab_in it (v21.toInt).toNat (by omega); rw [show (((v21.toInt).toNat : Nat) : Int) = v21.toInt by omega] at hq; omega
                      refine lv_bipush (v := 65) hx hb dX12_table_108 (by decide) ?_
                      refine lv_isub hx hb dX12_table_110 ?_
                      refine lv_topi (fun v26 ev26 => ?_)
                      have jv26 : v26.toInt = v25.toInt - 65 := xi_sub ev26 rfl (by decide) (by omega) (by omega)
                      refine h_ast hx hb g ttb (by decide) so_1332 (xi_in (by omega) (by omega)) dX12_table_111 (fun I27 H locs eI27 g => ?_)
                      have hI := hI.wr eI27 ttb (rfl : h_bd 1332 _ = (0, 7)) (by omega) (by omega)
                      have hF := hF.wr eI27 ttb rfl
                      have hm : I27 a0 30 = I0 a0 30 := (h_n1 eI27 t_a0 ttb (by decide)).trans hm
                      have htp : I27 a0 1 = 0 := (h_n1 eI27 t_a0 ttb (by decide)).trans htp
                      obtain ⟨v28, ev28⟩ : ∃ z : Int32, z = v21 + 1 := ⟨_, rfl⟩
                      have jv28 : v28.toInt = v21.toInt + 1 := xi_add ev28 rfl (by decide) (by omega) (by omega)
                      refine lv_iinc (v := v28) (lv' := [(3, .int v28), (0, .ref a0)]) hx hb dX12_table_112 hl (k := 1) rfl (by rw [ev28]; rfl) (by decide) rfl (fun ls hl => ?_)
                      refine lv_goto (tgt := 91) hx hb dX12_table_115 (by decide) ?_
                      exact ih91 I27 _ _ _ v28 g hI hF (lv_sub hl [1, 0] rfl) (by omega) (h_F.wr (h_F.call (h_F.rf : h_F [(1332, 999)] z I5 I5) hL91 rfl) eI27 ttb rfl) (q_tbmore hx91_0 (by omega) eI27 rfl (by omega) (by omega)) hm htp (by omega)
                have kc29 : (0 : Int32).toInt = 0 := by decide
                exact loop91_2 _ I5 _ _ _ (0) g hI hF (lv_sub hl [1, 0] rfl) ⟨by decide, by decide⟩ (h_F.rf : h_F [(1332, 999)] z I5 I5) (fun j hj => absurd hj (by omega)) hm htp (show (8 - (0 : Int)) < (((8 - (0 : Int)).toNat + 1 : Nat) : Int) by omega)
              · have ic20 := (xi_ne c20 rfl (by decide) : v3.toInt ≠ 255)
                refine lv_iconst (v := (-1)) hx hb dX12_table_87 (by decide) ?_
                have hS := g.2.1
                exact W.iret (v := (-1)) hx hb hr (fun t ht hW => ⟨⟨(-1), I5, rfl, ⟨hI, hF, ⟨(by rw [abt, qf0_1, ← egb, qf0_31, atb]; exact Or.inr (Or.inl ⟨by omega, (fun h9 => absurd ((q_seen8 (g := gb) (x := v3) (by rw [hx24_0]; congr 2; omega)).mpr h9.2) (by omega)), by decide, fun k => (h_F.at hL24 ttb rfl).trans (h_n1 eI1 ttb t_a0 (by decide)), hm⟩)), (by rw [htp]; decide)⟩⟩, h_ret g ht⟩, hS.F ht⟩) hS.2.2 dX12_table_88
          · have ic18 := (xi_eq c18 rfl (by decide) : f0_1.toInt = 8)
            refine lv_aload_n hx hb dX12_table_35 rfl (lv_at hl 0 rfl) ?_
            refine h_get (v := .ref bt) hx hb hts iX12 hown g t_a0 (by decide) so_13 rfl 0 (by decide) (hts (.fieldLink RX12 7 "CapLeagueModel" "tape" "[B") (by decide +kernel)) rfl dX12_table_36 (by show va_rf (z.R a0 0) = _; rw [rbt]; rfl) ?_
            refine lv_iload_n hx hb dX12_table_39 rfl (lv_at hl 3 rfl) ?_
            refine h_bald hx hb g tbt (by decide) so_1300 (xi_in (by omega) (by omega)) dX12_table_40 ?_
            refine lv_topi (fun v30 ev30 => ?_)
            have jv30 := hI.rd bt v4.toNatClampNeg tbt ev30 (rfl : h_bd 1300 _ = ((-128), 127))
            have gv30 : gb v4.toInt = v30.toInt % 256 := by rw [egb]; unfold q_at; rw [if_pos (by omega), ← h_keq (i := v4) (t := v4.toInt) (k := (v4.toInt).toNat) rfl (by omega) (by omega), ← show I5 bt = I0 bt from funext (fun k => hF.at tbt rfl), ← ev30]
            refine lv_i2l hx hb dX12_table_41 rfl ?_
            refine lv_topl (fun v31 ev31 => ?_)
            have jv31 : v31.toInt = v30.toInt := by rw [ev31, xi_64]
            refine lv_ldc2 (v := 65) hx hb hown (hts (.constantLong RX12 302 (65)) (by decide +kernel)) dX12_table_42 ?_
            refine lv_ldc2 (v := 72) hx hb hown (hts (.constantLong RX12 304 (72)) (by decide +kernel)) dX12_table_45 ?_
            refine vp_callSi (W.runS (As := [.long v31, .long 65, .long 72]) (rest := []) ⟨hx, hb, hml, hown, hts⟩ (tX12_in l E X A z I5 L0 v31 (v30.toInt) jv31 65 (65) (by decide) 72 (72) (by decide)) (va_cwS 3 hts gX12_table_X12_in rfl rfl rfl (by decide +kernel) ⟨Nat.le_of_ble_eq_true rfl, Nat.le_of_ble_eq_true rfl⟩) ⟨h_blind _ _ _ _ _ _ _, h_pre _ hE hk hX hA hI hR g⟩ rfl rfl hl.1 rfl (lv_room (Nat.le_of_ble_eq_true rfl)) dX12_table_48 ⟨Nat.le_of_ble_eq_true rfl, Nat.le_of_ble_eq_true rfl⟩) (fun rh32 h32 => ?_)
            rcases h32 with ⟨rfl, h32⟩ | ⟨rfl, h32⟩
            · skip
              refine lv_if_eq (tgt := 68) hx hb dX12_table_51 (by decide) (fun _ => ?_) (fun h => absurd (by decide) h)
              obtain ⟨v34, ev34⟩ : ∃ z : Int32, z = v4 + 1 := ⟨_, rfl⟩
              have jv34 : v34.toInt = v4.toInt + 1 := xi_add ev34 rfl (by decide) (by omega) (by omega)
              refine lv_iinc (v := v34) (lv' := [(3, .int v34), (0, .ref a0), (1, .int f0_1), (2, .int v3)]) hx hb dX12_table_68 hl (k := 3) rfl (by rw [ev34]; rfl) (by decide) rfl (fun ls hl => ?_)
              refine lv_goto (tgt := 24) hx hb dX12_table_71 (by decide) ?_
              exact ih24 I5 _ _ _ v3 v34 g hI hF (lv_sub hl [1, 2, 3, 0] rfl) (by omega) (by omega) (h_F.call (h_F.rf : h_F [] z I1 I1) hL24 rfl) (q_seen_out hx24_0 (by omega) (by omega) (by omega)) hm htp (by omega)
            · skip
              refine lv_if_eq (tgt := 68) hx hb dX12_table_51 (by decide) (fun h => absurd h (by decide)) (fun _ => ?_)
              refine lv_iload_n hx hb dX12_table_54 rfl (lv_at hl 2 rfl) ?_
              refine lv_iconst (v := 1) hx hb dX12_table_55 (by decide) ?_
              refine lv_aload_n hx hb dX12_table_56 rfl (lv_at hl 0 rfl) ?_
              refine h_get (v := .ref bt) hx hb hts iX12 hown g t_a0 (by decide) so_13 rfl 0 (by decide) (hts (.fieldLink RX12 7 "CapLeagueModel" "tape" "[B") (by decide +kernel)) rfl dX12_table_57 (by show va_rf (z.R a0 0) = _; rw [rbt]; rfl) ?_
              refine lv_iload_n hx hb dX12_table_60 rfl (lv_at hl 3 rfl) ?_
              refine h_bald hx hb g tbt (by decide) so_1300 (xi_in (by omega) (by omega)) dX12_table_61 ?_
              refine xw_i (ev30.symm) ?_
              refine lv_bipush (v := 65) hx hb dX12_table_62 (by decide) ?_
              refine lv_isub hx hb dX12_table_64 ?_
              refine lv_topi (fun v36 ev36 => ?_)
              have jv36 : v36.toInt = v30.toInt - 65 := xi_sub ev36 rfl (by decide) (by omega) (by omega)
              refine lv_ishl hx hb dX12_table_65 ?_
              refine lv_topi (fun v37 ev37 => ?_)
              have jv37 : -2147483648 ≤ v37.toInt ∧ v37.toInt ≤ 2147483647 := ⟨xi_lo _, Int.le_of_lt_add_one (xi_hi _)⟩
              refine lv_ior hx hb dX12_table_66 ?_
              refine lv_topi (fun v38 ev38 => ?_)
              have jv38 : -2147483648 ≤ v38.toInt ∧ v38.toInt ≤ 2147483647 := ⟨xi_lo _, Int.le_of_lt_add_one (xi_hi _)⟩
              refine lv_istore_n (lv' := [(2, .int v38), (0, .ref a0), (1, .int f0_1), (3, .int v4)]) hx hb dX12_table_67 rfl hl (by decide) rfl (fun ls hl => ?_)
              obtain ⟨v39, ev39⟩ : ∃ z : Int32, z = v4 + 1 := ⟨_, rfl⟩
              have jv39 : v39.toInt = v4.toInt + 1 := xi_add ev39 rfl (by decide) (by omega) (by omega)
              refine lv_iinc (v := v39) (lv' := [(3, .int v39), (2, .int v38), (0, .ref a0), (1, .int f0_1)]) hx hb dX12_table_68 hl (k := 3) rfl (by rw [ev39]; rfl) (by decide) rfl (fun ls hl => ?_)
              refine lv_goto (tgt := 24) hx hb dX12_table_71 (by decide) ?_
              exact ih24 I5 _ _ _ v38 v39 g hI hF (lv_sub hl [2, 3, 1, 0] rfl) (by omega) (by omega) (h_F.call (h_F.rf : h_F [] z I1 I1) hL24 rfl) (q_seen_in hx24_0 (by omega) (show v36.toInt = gb v4.toInt - 65 by omega) (by omega) (by omega) ev37 ev38 (by omega)) hm htp (by omega)
    have kc40 : (0 : Int32).toInt = 0 := by decide
    have kc41 : (0 : Int32).toInt = 0 := by decide
    exact loop24_0 _ I1 _ _ _ (0) (0) g hI hF (lv_sub hl [3, 2, 1, 0] rfl) ⟨by decide, by decide⟩ ⟨by decide, by decide⟩ (h_F.rf : h_F [] z I1 I1) ((by decide : (0 : Int32) = nI 0)) hm htp (show (8 - (0 : Int)) < (((8 - (0 : Int)).toNat + 1 : Nat) : Int) by omega)
  · have ic2 := (xi_ne c2 rfl (by decide) : f0_31.toInt ≠ 0)
    refine lv_bipush (v := (-4)) hx hb dX12_table_17 (by decide) ?_
    have hS := g.2.1
    exact W.iret (v := (-4)) hx hb hr (fun t ht hW => ⟨⟨(-4), I1, rfl, ⟨hI, hF, ⟨(by rw [abt, qf0_1, ← egb, qf0_31, atb]; exact Or.inl ⟨by omega, by decide, fun k => h_n1 eI1 ttb t_a0 (by decide), hm⟩), (by rw [htp]; decide)⟩⟩, h_ret g ht⟩, hS.F ht⟩) hS.2.2 dX12_table_19

