set_option maxHeartbeats 4000000 in
set_option maxRecDepth 100000 in
theorem tX12_countsB (l : Launch) (E : tE) (X : tX) (A : Nat → Prop) (z : tZ) (I0 : tI) (L0 : tL) (a0 : Nat) (t_a0 : z.ty a0 = 13) (c : Int32) (c_t : Int) (h_c : c.toInt = c_t) (b_c : 0 ≤ c_t ∧ c_t ≤ 7) (y : Int32) (y_t : Int) (h_y : y.toInt = y_t) (b_y : 0 ≤ y_t ∧ y_t ≤ 9) (u_ : Nat → Int) (hrl : h_r12 (I0 (h_ad z a0 11)) (I0 (h_ad z a0 10)) (I0 a0 12).toInt u_) (hob : q_okb u_) (hpb : ∀ p : Nat, (p : Int) < (I0 a0 13).toInt → (q_pay (I0 (h_ad z a0 14) p) (I0 (h_ad z a0 15) p) (I0 (h_ad z a0 16) p) (I0 (h_ad z a0 17) p) (I0 (h_ad z a0 18) p) y).toInt ≤ 1000000) : Met l yX12_counts wsX12_counts ({ frames := 4, cells := 0, slots := 0, locals := 256 }) (va_Pc [.ref a0, .int c, .int y] (h_P E X A z I0 L0)) (vp_Si (fun r => (r = m_cnt z I0 a0 c_t y (u_ 6)))) 0 0 (fun _ => False) := by
  refine Met.ofW (cc := cX12_counts) (maxL := 5) (ret := (some .int)) (by decide) rfl ?_
  intro pr_ ev_ s m args below meth cd_ s₁ B hml hv
  obtain ⟨rfl, hE, hk, hX, hA, hK, hI, hR, hB0⟩ := hv
  have g : h_G h_so h_fk E A z I0 L0 s s.heap s.heap [] := ⟨hK, va_S.rf, hB0⟩
  have hx := B.exec
  have hb := B.bytes
  have hr := B.returns
  have hts := atoms_spec (ws := wsX12_counts) B.pre
  have hown : s.vm.findClass RX12 = some m.cls := findClass_of_methodNamed B.named
  have hlocks := B.notSynchronized
  have iX12 : ∀ w ∈ u_ws RX12 TX12 51, w ∈ wsX12_counts := by decide +kernel
  have hl := lv_entry ([.ref a0, .int c, .int y]) (n := 5) (Nat.le_of_ble_eq_true rfl)
  rw [lg_entry_eq]
  generalize (lg_sl ([.ref a0, .int c, .int y]) ++ List.replicate (5 - (lg_sl ([.ref a0, .int c, .int y])).length) Slot.unset).toArray = ls at hl ⊢
  have hl : lv_has ls 5 [(0, .ref a0), (1, .int c), (2, .int y)] := hl
  obtain ⟨cb, rcb, tcb⟩ := hR.at a0 14 t_a0 (rfl : h_rs 13 14 = some (1314, false)) (by decide)
  have acb : h_ad z a0 14 = cb := h_ad.at rcb
  obtain ⟨de, rde, tde⟩ := hR.at a0 23 t_a0 (rfl : h_rs 13 23 = some (1323, false)) (by decide)
  have ade : h_ad z a0 23 = de := h_ad.at rde
  obtain ⟨f0_13, ef0_13⟩ : ∃ v : Int32, v = I0 a0 13 := ⟨_, rfl⟩
  have qf0_13 : (I0 a0 13).toInt = f0_13.toInt := congrArg Int32.toInt ef0_13.symm
  have jf0_13 := hI.rd a0 13 t_a0 ef0_13 (rfl : h_bd 13 13 = (0, 60))
  have qy : y.toInt = y_t := h_y
  rw [qf0_13] at hpb
  refine lv_aload_n hx hb dX12_counts_0 rfl (lv_at hl 0 rfl) ?_
  refine h_get (v := .ref de) hx hb hts iX12 hown g t_a0 (by decide) so_13 rfl 23 (by decide) (hts (.fieldLink RX12 52 "CapLeagueModel" "dead" "[I") (by decide +kernel)) rfl dX12_counts_1 (by show va_rf (z.R a0 23) = _; rw [rde]; rfl) ?_
  refine lv_bipush (v := 10) hx hb dX12_counts_4 (by decide) ?_
  refine lv_iload_n hx hb dX12_counts_6 rfl (lv_at hl 1 rfl) ?_
  refine lv_imul hx hb dX12_counts_7 ?_
  refine lv_topi (fun v1 ev1 => ?_)
  have jv1 : v1.toInt = 10 * c_t := xi_mul ev1 (by decide) h_c (by omega) (by omega)
  refine lv_iload_n hx hb dX12_counts_8 rfl (lv_at hl 2 rfl) ?_
  refine lv_iadd hx hb dX12_counts_9 ?_
  refine lv_topi (fun v2 ev2 => ?_)
  have jv2 : v2.toInt = v1.toInt + y_t := xi_add ev2 rfl h_y (by omega) (by omega)
  refine h_ald hx hb g tde (by decide) so_1323 (xi_in (by omega) (by omega)) dX12_counts_10 ?_
  refine lv_topi (fun v3 ev3 => ?_)
  have jv3 := hI.rd de v2.toNatClampNeg tde ev3 (rfl : h_bd 1323 _ = ((-2147483648), 2147483647))
  have eD0 : v3 = q_sums (I0 (h_ad z a0 23) (10 * c_t + y_t).toNat) (m_f z I0 a0 c_t y (u_ 6)) 0 := by show v3 = _; rw [ade, ← h_keq (i := v2) (t := v2.toInt) (k := (10 * c_t + y_t).toNat) rfl (by omega) (by omega)]; exact ev3
  refine lv_istore_n (lv' := [(3, .int v3), (0, .ref a0), (1, .int c), (2, .int y)]) hx hb dX12_counts_11 rfl hl (by decide) rfl (fun ls hl => ?_)
  refine lv_iconst (v := 0) hx hb dX12_counts_12 (by decide) ?_
  refine lv_istore (lv' := [(4, .int 0), (3, .int v3), (0, .ref a0), (1, .int c), (2, .int y)]) hx hb dX12_counts_13 hl (by decide) rfl (fun ls hl => ?_)
  have loop15_0 : ∀ (n : Nat) (ls : Array Slot) (v4 v5 : Int32), lv_has ls 5 [(0, .ref a0), (1, .int c), (2, .int y), (3, .int v4), (4, .int v5)] → ((-2147483648) ≤ v4.toInt ∧ v4.toInt ≤ 2147483647) → (0 ≤ v5.toInt ∧ v5.toInt ≤ 60) → (v4 = q_sums (I0 (h_ad z a0 23) (10 * c_t + y_t).toNat) (m_f z I0 a0 c_t y (u_ 6)) (v5.toInt).toNat) → (v5.toInt ≤ f0_13.toInt) → (60 - v5.toInt) < (n : Int) → W pr_ l ev_ (headSpec wsX12_counts ({ frames := 4, cells := 0, slots := 0, locals := 256 })).room s m ([.ref a0, .int c, .int y] : List Value).toArray below meth cd_ s.heap [] 0 0 (MQ below (vp_Si (fun r => (r = m_cnt z I0 a0 c_t y (u_ 6)))) ([.ref a0, .int c, .int y] : List Value).toArray s 0 0 (fun _ => False)) (F0 m 15 ls []) := by
    intro n
    induction n with
    | zero => intro ls v4 v5 hl jv4 jv5 hx15_0 hx15_1 hn; exact absurd hn (by omega)
    | succ n ih15 =>
      intro ls v4 v5 hl jv4 jv5 hx15_0 hx15_1 hn
      have kv : v5.toNatClampNeg = v5.toInt.toNat := h_keq rfl (by omega) (by omega)
      refine lv_iload hx hb dX12_counts_15 (lv_at hl 4 rfl) ?_
      refine lv_aload_n hx hb dX12_counts_17 rfl (lv_at hl 0 rfl) ?_
      refine h_get (v := .int f0_13) hx hb hts iX12 hown g t_a0 (by decide) so_13 rfl 13 (by decide) (hts (.fieldLink RX12 202 "CapLeagueModel" "players" "I") (by decide +kernel)) rfl dX12_counts_18 (congrArg Value.int (ef0_13.symm)) ?_
      refine lv_icmp_ge (tgt := 55) hx hb dX12_counts_21 (by decide) (fun c6 => ?_) (fun c6 => ?_)
      · have ic6 := (xi_le c6 rfl rfl : f0_13.toInt ≤ v5.toInt)
        refine lv_iload_n hx hb dX12_counts_55 rfl (lv_at hl 3 rfl) ?_
        exact W.iret (v := v4) hx hb hr (fun t ht hW => ⟨v4, rfl, (by unfold m_cnt; rw [← ef0_13, h_y]; rw [show f0_13.toInt.toNat = v5.toInt.toNat by omega]; exact hx15_0), ht⟩) (fun _ h => by cases h) dX12_counts_56
      · have ic6 := (xi_nle c6 rfl rfl : v5.toInt < f0_13.toInt)
        refine lv_iload_n hx hb dX12_counts_24 rfl (lv_at hl 3 rfl) ?_
        refine lv_aload_n hx hb dX12_counts_25 rfl (lv_at hl 0 rfl) ?_
        refine h_get (v := .ref cb) hx hb hts iX12 hown g t_a0 (by decide) so_13 rfl 14 (by decide) (hts (.fieldLink RX12 25 "CapLeagueModel" "clubOf" "[I") (by decide +kernel)) rfl dX12_counts_26 (by show va_rf (z.R a0 14) = _; rw [rcb]; rfl) ?_
        refine lv_iload hx hb dX12_counts_29 (lv_at hl 4 rfl) ?_
        refine h_ald hx hb g tcb (by decide) so_1314 (xi_in (by omega) (by omega)) dX12_counts_31 ?_
        refine lv_topi (fun v7 ev7 => ?_)
        have jv7 := hI.rd cb v5.toNatClampNeg tcb ev7 (rfl : h_bd 1314 _ = ((-1), 7))
        refine lv_iload_n hx hb dX12_counts_32 rfl (lv_at hl 1 rfl) ?_
        refine lv_icmp_ne (tgt := 46) hx hb dX12_counts_33 (by decide) (fun c8 => ?_) (fun c8 => ?_)
        · have ic8 := (xi_ne c8 rfl h_c : v7.toInt ≠ c_t)
          refine lv_iconst (v := 0) hx hb dX12_counts_46 (by decide) ?_
          refine lv_iadd hx hb dX12_counts_47 ?_
          refine lv_topi (fun v9 ev9 => ?_)
          have jv9 : v9.toInt = v4.toInt + 0 := xi_add ev9 rfl (by decide) (by omega) (by omega)
          refine lv_istore_n (lv' := [(3, .int v9), (0, .ref a0), (1, .int c), (2, .int y), (4, .int v5)]) hx hb dX12_counts_48 rfl hl (by decide) rfl (fun ls hl => ?_)
          obtain ⟨v10, ev10⟩ : ∃ z : Int32, z = v5 + 1 := ⟨_, rfl⟩
          have jv10 : v10.toInt = v5.toInt + 1 := xi_add ev10 rfl (by decide) (by omega) (by omega)
          refine lv_iinc (v := v10) (lv' := [(4, .int v10), (3, .int v9), (0, .ref a0), (1, .int c), (2, .int y)]) hx hb dX12_counts_49 hl (k := 4) rfl (by rw [ev10]; rfl) (by decide) rfl (fun ls hl => ?_)
          refine lv_goto (tgt := 15) hx hb dX12_counts_52 (by decide) ?_
          exact ih15 _ v9 v10 (lv_sub hl [2, 3, 4, 1, 0] rfl) (by omega) (by omega) (by rw [show (v10.toInt).toNat = v5.toInt.toNat + 1 by omega]; refine q_sums_s hx15_0 ?_; unfold m_f; rw [if_neg (by rw [acb, ← kv, ev7.symm]; omega)]; exact ev9) (by omega) (by omega)
        · have ic8 := (xi_eq c8 rfl h_c : v7.toInt = c_t)
          refine lv_aload_n hx hb dX12_counts_36 rfl (lv_at hl 0 rfl) ?_
          refine lv_iload hx hb dX12_counts_37 (lv_at hl 4 rfl) ?_
          refine lv_iload_n hx hb dX12_counts_39 rfl (lv_at hl 2 rfl) ?_
          refine vp_callSi (W.runV (As := [.int v5, .int y]) (rest := [.int v4]) ⟨hx, hb, hml, hown, hts⟩ (tX12_countOfB l E X A z I0 L0 a0 t_a0 v5 (v5.toInt) rfl (by omega) y (y_t) h_y) (cwV 2 hts gX12_counts_X12_countOf rfl rfl rfl (by decide +kernel) ⟨Nat.le_of_ble_eq_true rfl, Nat.le_of_ble_eq_true rfl⟩) ⟨h_blind _ _ _ _ _ _ _, h_recv g t_a0 (by decide) so_13 (q := (RX12, TX12, 51)) rfl, h_pre _ hE hk hX hA hI hR g⟩ rfl rfl hl.1 rfl (lv_room (Nat.le_of_ble_eq_true rfl)) dX12_counts_40 ⟨Nat.le_of_ble_eq_true rfl, Nat.le_of_ble_eq_true rfl⟩) (fun rh11 h11 => ?_)
          have h11p0 := h11
          have jrh11 : -2147483648 ≤ rh11.toInt ∧ rh11.toInt ≤ 2147483647 := ⟨xi_lo _, Int.le_of_lt_add_one (xi_hi _)⟩
          refine lv_goto (tgt := 47) hx hb dX12_counts_43 (by decide) ?_
          refine lv_iadd hx hb dX12_counts_47 ?_
          refine lv_topi (fun v12 ev12 => ?_)
          have jv12 : -2147483648 ≤ v12.toInt ∧ v12.toInt ≤ 2147483647 := ⟨xi_lo _, Int.le_of_lt_add_one (xi_hi _)⟩
          refine lv_istore_n (lv' := [(3, .int v12), (0, .ref a0), (1, .int c), (2, .int y), (4, .int v5)]) hx hb dX12_counts_48 rfl hl (by decide) rfl (fun ls hl => ?_)
          obtain ⟨v13, ev13⟩ : ∃ z : Int32, z = v5 + 1 := ⟨_, rfl⟩
          have jv13 : v13.toInt = v5.toInt + 1 := xi_add ev13 rfl (by decide) (by omega) (by omega)
          refine lv_iinc (v := v13) (lv' := [(4, .int v13), (3, .int v12), (0, .ref a0), (1, .int c), (2, .int y)]) hx hb dX12_counts_49 hl (k := 4) rfl (by rw [ev13]; rfl) (by decide) rfl (fun ls hl => ?_)
          refine lv_goto (tgt := 15) hx hb dX12_counts_52 (by decide) ?_
          exact ih15 _ v12 v13 (lv_sub hl [2, 3, 4, 1, 0] rfl) (by omega) (by omega) (by rw [show (v13.toInt).toNat = v5.toInt.toNat + 1 by omega]; refine q_sums_s hx15_0 ?_; unfold m_f; rw [if_pos (by rw [acb, ← kv, ev7.symm]; omega), ← h11p0 u_ hrl hob (hpb _ (by omega))]; exact ev12) (by omega) (by omega)
  have kc14 : (0 : Int32).toInt = 0 := by decide
  exact loop15_0 _ _ v3 (0) (lv_sub hl [2, 3, 4, 1, 0] rfl) (by omega) ⟨by decide, by decide⟩ (eD0) (by omega) (show (60 - (0 : Int)) < (((60 - (0 : Int)).toNat + 1 : Nat) : Int) by omega)
set_option maxHeartbeats 4000000 in
set_option maxRecDepth 100000 in
theorem tX12_manyOfB (l : Launch) (E : tE) (X : tX) (A : Nat → Prop) (z : tZ) (I0 : tI) (L0 : tL) (a0 : Nat) (t_a0 : z.ty a0 = 13) (c : Int32) (c_t : Int) (h_c : c.toInt = c_t) (y : Int32) (y_t : Int) (h_y : y.toInt = y_t) : Met l yX12_manyOf wsX12_manyOf ({ frames := 3, cells := 0, slots := 0, locals := 192 }) (va_Pc [.ref a0, .int c, .int y] (h_P E X A z I0 L0)) (vp_Si (fun r => (r = m_many z I0 a0 c_t y))) 0 0 (fun _ => False) := by
  refine Met.ofW (cc := cX12_manyOf) (maxL := 5) (ret := (some .int)) (by decide) rfl ?_
  intro pr_ ev_ s m args below meth cd_ s₁ B hml hv
  obtain ⟨rfl, hE, hk, hX, hA, hK, hI, hR, hB0⟩ := hv
  have g : h_G h_so h_fk E A z I0 L0 s s.heap s.heap [] := ⟨hK, va_S.rf, hB0⟩
  have hx := B.exec
  have hb := B.bytes
  have hr := B.returns
  have hts := atoms_spec (ws := wsX12_manyOf) B.pre
  have hown : s.vm.findClass RX12 = some m.cls := findClass_of_methodNamed B.named
  have hlocks := B.notSynchronized
  have iX12 : ∀ w ∈ u_ws RX12 TX12 51, w ∈ wsX12_manyOf := by decide +kernel
  have hl := lv_entry ([.ref a0, .int c, .int y]) (n := 5) (Nat.le_of_ble_eq_true rfl)
  rw [lg_entry_eq]
  generalize (lg_sl ([.ref a0, .int c, .int y]) ++ List.replicate (5 - (lg_sl ([.ref a0, .int c, .int y])).length) Slot.unset).toArray = ls at hl ⊢
  have hl : lv_has ls 5 [(0, .ref a0), (1, .int c), (2, .int y)] := hl
  have b_c : -2147483648 ≤ c_t ∧ c_t ≤ 2147483647 := h_c ▸ ⟨xi_lo c, Int.le_of_lt_add_one (xi_hi c)⟩
  have b_y : -2147483648 ≤ y_t ∧ y_t ≤ 2147483647 := h_y ▸ ⟨xi_lo y, Int.le_of_lt_add_one (xi_hi y)⟩
  obtain ⟨cb, rcb, tcb⟩ := hR.at a0 14 t_a0 (rfl : h_rs 13 14 = some (1314, false)) (by decide)
  have acb : h_ad z a0 14 = cb := h_ad.at rcb
  obtain ⟨f0_13, ef0_13⟩ : ∃ v : Int32, v = I0 a0 13 := ⟨_, rfl⟩
  have qf0_13 : (I0 a0 13).toInt = f0_13.toInt := congrArg Int32.toInt ef0_13.symm
  have jf0_13 := hI.rd a0 13 t_a0 ef0_13 (rfl : h_bd 13 13 = (0, 60))
  have qy : y.toInt = y_t := h_y
  refine lv_iconst (v := 0) hx hb dX12_manyOf_0 (by decide) ?_
  refine lv_istore_n (lv' := [(3, .int 0), (0, .ref a0), (1, .int c), (2, .int y)]) hx hb dX12_manyOf_1 rfl hl (by decide) rfl (fun ls hl => ?_)
  refine lv_iconst (v := 0) hx hb dX12_manyOf_2 (by decide) ?_
  refine lv_istore (lv' := [(4, .int 0), (3, .int 0), (0, .ref a0), (1, .int c), (2, .int y)]) hx hb dX12_manyOf_3 hl (by decide) rfl (fun ls hl => ?_)
  have loop5_0 : ∀ (n : Nat) (ls : Array Slot) (v1 v2 : Int32), lv_has ls 5 [(0, .ref a0), (1, .int c), (2, .int y), (3, .int v1), (4, .int v2)] → ((-2147483648) ≤ v1.toInt ∧ v1.toInt ≤ 2147483647) → (0 ≤ v2.toInt ∧ v2.toInt ≤ 60) → (v1 = q_sums 0 (m_g z I0 a0 c_t y) (v2.toInt).toNat) → (v2.toInt ≤ f0_13.toInt) → (60 - v2.toInt) < (n : Int) → W pr_ l ev_ (headSpec wsX12_manyOf ({ frames := 3, cells := 0, slots := 0, locals := 192 })).room s m ([.ref a0, .int c, .int y] : List Value).toArray below meth cd_ s.heap [] 0 0 (MQ below (vp_Si (fun r => (r = m_many z I0 a0 c_t y))) ([.ref a0, .int c, .int y] : List Value).toArray s 0 0 (fun _ => False)) (F0 m 5 ls []) := by
    intro n
    induction n with
    | zero => intro ls v1 v2 hl jv1 jv2 hx5_0 hx5_1 hn; exact absurd hn (by omega)
    | succ n ih5 =>
      intro ls v1 v2 hl jv1 jv2 hx5_0 hx5_1 hn
      have kv : v2.toNatClampNeg = v2.toInt.toNat := h_keq rfl (by omega) (by omega)
      refine lv_iload hx hb dX12_manyOf_5 (lv_at hl 4 rfl) ?_
      refine lv_aload_n hx hb dX12_manyOf_7 rfl (lv_at hl 0 rfl) ?_
      refine h_get (v := .int f0_13) hx hb hts iX12 hown g t_a0 (by decide) so_13 rfl 13 (by decide) (hts (.fieldLink RX12 202 "CapLeagueModel" "players" "I") (by decide +kernel)) rfl dX12_manyOf_8 (congrArg Value.int (ef0_13.symm)) ?_
      refine lv_icmp_ge (tgt := 49) hx hb dX12_manyOf_11 (by decide) (fun c3 => ?_) (fun c3 => ?_)
      · have ic3 := (xi_le c3 rfl rfl : f0_13.toInt ≤ v2.toInt)
        refine lv_iload_n hx hb dX12_manyOf_49 rfl (lv_at hl 3 rfl) ?_
        exact W.iret (v := v1) hx hb hr (fun t ht hW => ⟨v1, rfl, (by unfold m_many; rw [← ef0_13]; rw [show f0_13.toInt.toNat = v2.toInt.toNat by omega]; exact hx5_0), ht⟩) (fun _ h => by cases h) dX12_manyOf_50
      · have ic3 := (xi_nle c3 rfl rfl : v2.toInt < f0_13.toInt)
        refine lv_iload_n hx hb dX12_manyOf_14 rfl (lv_at hl 3 rfl) ?_
        refine lv_aload_n hx hb dX12_manyOf_15 rfl (lv_at hl 0 rfl) ?_
        refine h_get (v := .ref cb) hx hb hts iX12 hown g t_a0 (by decide) so_13 rfl 14 (by decide) (hts (.fieldLink RX12 25 "CapLeagueModel" "clubOf" "[I") (by decide +kernel)) rfl dX12_manyOf_16 (by show va_rf (z.R a0 14) = _; rw [rcb]; rfl) ?_
        refine lv_iload hx hb dX12_manyOf_19 (lv_at hl 4 rfl) ?_
        refine h_ald hx hb g tcb (by decide) so_1314 (xi_in (by omega) (by omega)) dX12_manyOf_21 ?_
        refine lv_topi (fun v4 ev4 => ?_)
        have jv4 := hI.rd cb v2.toNatClampNeg tcb ev4 (rfl : h_bd 1314 _ = ((-1), 7))
        refine lv_iload_n hx hb dX12_manyOf_22 rfl (lv_at hl 1 rfl) ?_
        refine lv_icmp_ne (tgt := 40) hx hb dX12_manyOf_23 (by decide) (fun c5 => ?_) (fun c5 => ?_)
        · have ic5 := (xi_ne c5 rfl h_c : v4.toInt ≠ c_t)
          refine lv_iconst (v := 0) hx hb dX12_manyOf_40 (by decide) ?_
          refine lv_iadd hx hb dX12_manyOf_41 ?_
          refine lv_topi (fun v6 ev6 => ?_)
          have jv6 : v6.toInt = v1.toInt + 0 := xi_add ev6 rfl (by decide) (by omega) (by omega)
          refine lv_istore_n (lv' := [(3, .int v6), (0, .ref a0), (1, .int c), (2, .int y), (4, .int v2)]) hx hb dX12_manyOf_42 rfl hl (by decide) rfl (fun ls hl => ?_)
          obtain ⟨v7, ev7⟩ : ∃ z : Int32, z = v2 + 1 := ⟨_, rfl⟩
          have jv7 : v7.toInt = v2.toInt + 1 := xi_add ev7 rfl (by decide) (by omega) (by omega)
          refine lv_iinc (v := v7) (lv' := [(4, .int v7), (3, .int v6), (0, .ref a0), (1, .int c), (2, .int y)]) hx hb dX12_manyOf_43 hl (k := 4) rfl (by rw [ev7]; rfl) (by decide) rfl (fun ls hl => ?_)
          refine lv_goto (tgt := 5) hx hb dX12_manyOf_46 (by decide) ?_
          exact ih5 _ v6 v7 (lv_sub hl [2, 3, 4, 1, 0] rfl) (by omega) (by omega) (by rw [show (v7.toInt).toNat = v2.toInt.toNat + 1 by omega]; refine q_sums_s hx5_0 ?_; unfold m_g; rw [if_neg (fun q => absurd q.1 (by rw [acb, ← kv, ev4.symm]; omega))]; exact ev6) (by omega) (by omega)
        · have ic5 := (xi_eq c5 rfl h_c : v4.toInt = c_t)
          refine lv_aload_n hx hb dX12_manyOf_26 rfl (lv_at hl 0 rfl) ?_
          refine lv_iload hx hb dX12_manyOf_27 (lv_at hl 4 rfl) ?_
          refine lv_iload_n hx hb dX12_manyOf_29 rfl (lv_at hl 2 rfl) ?_
          refine vp_callSi (W.runV (As := [.int v2, .int y]) (rest := [.int v1]) ⟨hx, hb, hml, hown, hts⟩ (tX12_isUnderB l E X A z I0 L0 a0 t_a0 v2 (v2.toInt) rfl (by omega) y (y_t) h_y) (cwV 2 hts gX12_manyOf_X12_isUnder rfl rfl rfl (by decide +kernel) ⟨Nat.le_of_ble_eq_true rfl, Nat.le_of_ble_eq_true rfl⟩) ⟨h_blind _ _ _ _ _ _ _, h_recv g t_a0 (by decide) so_13 (q := (RX12, TX12, 51)) rfl, h_pre _ hE hk hX hA hI hR g⟩ rfl rfl hl.1 rfl (lv_room (Nat.le_of_ble_eq_true rfl)) dX12_manyOf_30 ⟨Nat.le_of_ble_eq_true rfl, Nat.le_of_ble_eq_true rfl⟩) (fun rh8 h8 => ?_)
          obtain ⟨h8, h8p0⟩ := h8
          refine lv_if_eq (tgt := 40) hx hb dX12_manyOf_33 (by decide) (fun c9 => ?_) (fun c9 => ?_)
          · have ic9 := (xi_eq c9 rfl (by decide) : rh8.toInt = 0)
            refine lv_iconst (v := 0) hx hb dX12_manyOf_40 (by decide) ?_
            refine lv_iadd hx hb dX12_manyOf_41 ?_
            refine lv_topi (fun v10 ev10 => ?_)
            have jv10 : v10.toInt = v1.toInt + 0 := xi_add ev10 rfl (by decide) (by omega) (by omega)
            refine lv_istore_n (lv' := [(3, .int v10), (0, .ref a0), (1, .int c), (2, .int y), (4, .int v2)]) hx hb dX12_manyOf_42 rfl hl (by decide) rfl (fun ls hl => ?_)
            obtain ⟨v11, ev11⟩ : ∃ z : Int32, z = v2 + 1 := ⟨_, rfl⟩
            have jv11 : v11.toInt = v2.toInt + 1 := xi_add ev11 rfl (by decide) (by omega) (by omega)
            refine lv_iinc (v := v11) (lv' := [(4, .int v11), (3, .int v10), (0, .ref a0), (1, .int c), (2, .int y)]) hx hb dX12_manyOf_43 hl (k := 4) rfl (by rw [ev11]; rfl) (by decide) rfl (fun ls hl => ?_)
            refine lv_goto (tgt := 5) hx hb dX12_manyOf_46 (by decide) ?_
            exact ih5 _ v10 v11 (lv_sub hl [2, 3, 4, 1, 0] rfl) (by omega) (by omega) (by rw [show (v11.toInt).toNat = v2.toInt.toNat + 1 by omega]; refine q_sums_s hx5_0 ?_; unfold m_g; rw [if_neg (fun q => absurd q.2 (by rcases h8p0 with q | q; exact absurd q.1 (by omega); exact q.2))]; exact ev10) (by omega) (by omega)
          · have ic9 := (xi_ne c9 rfl (by decide) : rh8.toInt ≠ 0)
            refine lv_iconst (v := 1) hx hb dX12_manyOf_36 (by decide) ?_
            refine lv_goto (tgt := 41) hx hb dX12_manyOf_37 (by decide) ?_
            refine lv_iadd hx hb dX12_manyOf_41 ?_
            refine lv_topi (fun v12 ev12 => ?_)
            have jv12 : -2147483648 ≤ v12.toInt ∧ v12.toInt ≤ 2147483647 := ⟨xi_lo _, Int.le_of_lt_add_one (xi_hi _)⟩
            refine lv_istore_n (lv' := [(3, .int v12), (0, .ref a0), (1, .int c), (2, .int y), (4, .int v2)]) hx hb dX12_manyOf_42 rfl hl (by decide) rfl (fun ls hl => ?_)
            obtain ⟨v13, ev13⟩ : ∃ z : Int32, z = v2 + 1 := ⟨_, rfl⟩
            have jv13 : v13.toInt = v2.toInt + 1 := xi_add ev13 rfl (by decide) (by omega) (by omega)
            refine lv_iinc (v := v13) (lv' := [(4, .int v13), (3, .int v12), (0, .ref a0), (1, .int c), (2, .int y)]) hx hb dX12_manyOf_43 hl (k := 4) rfl (by rw [ev13]; rfl) (by decide) rfl (fun ls hl => ?_)
            refine lv_goto (tgt := 5) hx hb dX12_manyOf_46 (by decide) ?_
            exact ih5 _ v12 v13 (lv_sub hl [2, 3, 4, 1, 0] rfl) (by omega) (by omega) (by rw [show (v13.toInt).toNat = v2.toInt.toNat + 1 by omega]; refine q_sums_s hx5_0 ?_; unfold m_g; rw [if_pos ⟨(by rw [acb, ← kv, ev4.symm]; omega), (by rcases h8p0 with q | q; exact q.2; exact absurd q.1 (by omega))⟩]; exact ev12) (by omega) (by omega)
  have kc14 : (0 : Int32).toInt = 0 := by decide
  have kc15 : (0 : Int32).toInt = 0 := by decide
  exact loop5_0 _ _ (0) (0) (lv_sub hl [2, 3, 4, 1, 0] rfl) ⟨by decide, by decide⟩ ⟨by decide, by decide⟩ (rfl) (by omega) (show (60 - (0 : Int)) < (((60 - (0 : Int)).toNat + 1 : Nat) : Int) by omega)

