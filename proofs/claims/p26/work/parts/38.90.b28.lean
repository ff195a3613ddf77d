set_option maxHeartbeats 4000000 in
set_option maxRecDepth 100000 in
theorem tX5_weightB (l : Launch) (E : tE) (X : tX) (A : Nat → Prop) (z : tZ) (I0 : tI) (L0 : tL) (a0 : Nat) (t_a0 : z.ty a0 = 6) (x : Int32) (x_t : Int) (h_x : x.toInt = x_t) : Met l yX5_weight wsX5_weight ({ frames := 1, cells := 0, slots := 0, locals := 64 }) (va_Pc [.ref a0, .int x] (h_P E X A z I0 L0)) (vp_Si (fun r => (∀ u : Nat → Int, h_lw I0 a0 (h_ad z a0 0) (h_ad z a0 1) u → 0 ≤ x_t → x_t < u 8 → r.toInt = u (9 + x_t.toNat)))) 0 0 (fun _ => False) := by
  refine Met.ofW (cc := cX5_weight) (maxL := 2) (ret := (some .int)) (by decide) rfl ?_
  intro pr_ ev_ s m args below meth cd_ s₁ B hml hv
  obtain ⟨rfl, hE, hk, hX, hA, hK, hI, hR, hB0⟩ := hv
  have g : h_G h_so h_fk E A z I0 L0 s s.heap s.heap [] := ⟨hK, va_S.rf, hB0⟩
  have hx := B.exec
  have hb := B.bytes
  have hr := B.returns
  have hts := atoms_spec (ws := wsX5_weight) B.pre
  have hown : s.vm.findClass RX5 = some m.cls := findClass_of_methodNamed B.named
  have hlocks := B.notSynchronized
  have iX5 : ∀ w ∈ u_ws RX5 TX5 3, w ∈ wsX5_weight := by decide +kernel
  have hl := lv_entry ([.ref a0, .int x]) (n := 2) (Nat.le_of_ble_eq_true rfl)
  rw [lg_entry_eq]
  generalize (lg_sl ([.ref a0, .int x]) ++ List.replicate (2 - (lg_sl ([.ref a0, .int x])).length) Slot.unset).toArray = ls at hl ⊢
  have hl : lv_has ls 2 [(0, .ref a0), (1, .int x)] := hl
  have b_x : -2147483648 ≤ x_t ∧ x_t ≤ 2147483647 := h_x ▸ ⟨xi_lo x, Int.le_of_lt_add_one (xi_hi x)⟩
  obtain ⟨f0_2, ef0_2⟩ : ∃ v : Int32, v = I0 a0 2 := ⟨_, rfl⟩
  have qf0_2 : (I0 a0 2).toInt = f0_2.toInt := congrArg Int32.toInt ef0_2.symm
  have jf0_2 := hI.rd a0 2 t_a0 ef0_2 (rfl : h_bd 6 2 = (0, 6))
  obtain ⟨lo, rlo, tlo⟩ := hR.at a0 1 t_a0 (rfl : h_rs 6 1 = some (601, false)) (by decide)
  have alo : h_ad z a0 1 = lo := h_ad.at rlo
  refine lv_iload_n hx hb dX5_weight_0 rfl (lv_at hl 1 rfl) ?_
  refine lv_if_lt (tgt := 21) hx hb dX5_weight_1 (by decide) (fun c1 => ?_) (fun c1 => ?_)
  · have ic1 := (xi_lt c1 h_x (by decide) : x_t < 0)
    refine lv_iconst (v := 0) hx hb dX5_weight_21 (by decide) ?_
    exact W.iret (v := 0) hx hb hr (fun t ht hW => ⟨0, rfl, (fun u hu h0 h1 => by exfalso; have h8 := hu.2.1; rw [qf0_2] at h8; omega), ht⟩) (fun _ h => by cases h) dX5_weight_22
  · have ic1 := (xi_nlt c1 h_x (by decide) : 0 ≤ x_t)
    refine lv_iload_n hx hb dX5_weight_4 rfl (lv_at hl 1 rfl) ?_
    refine lv_aload_n hx hb dX5_weight_5 rfl (lv_at hl 0 rfl) ?_
    refine h_get (v := .int f0_2) hx hb hts iX5 hown g t_a0 (by decide) so_6 rfl 2 (by decide) (hts (.fieldLink RX5 30 "CapLeague$Laws" "lotCount" "I") (by decide +kernel)) rfl dX5_weight_6 (congrArg Value.int (ef0_2.symm)) ?_
    refine lv_icmp_ge (tgt := 21) hx hb dX5_weight_9 (by decide) (fun c2 => ?_) (fun c2 => ?_)
    · have ic2 := (xi_le c2 rfl h_x : f0_2.toInt ≤ x_t)
      refine lv_iconst (v := 0) hx hb dX5_weight_21 (by decide) ?_
      exact W.iret (v := 0) hx hb hr (fun t ht hW => ⟨0, rfl, (fun u hu h0 h1 => by exfalso; have h8 := hu.2.1; rw [qf0_2] at h8; omega), ht⟩) (fun _ h => by cases h) dX5_weight_22
    · have ic2 := (xi_nle c2 rfl h_x : x_t < f0_2.toInt)
      refine lv_aload_n hx hb dX5_weight_12 rfl (lv_at hl 0 rfl) ?_
      refine h_get (v := .ref lo) hx hb hts iX5 hown g t_a0 (by decide) so_6 rfl 1 (by decide) (hts (.fieldLink RX5 15 "CapLeague$Laws" "lots" "[I") (by decide +kernel)) rfl dX5_weight_13 (by show va_rf (z.R a0 1) = _; rw [rlo]; rfl) ?_
      refine lv_iload_n hx hb dX5_weight_16 rfl (lv_at hl 1 rfl) ?_
      refine h_ald hx hb g tlo (by decide) so_601 (xi_in (by rw [h_x]; omega) (by rw [h_x]; omega)) dX5_weight_17 ?_
      refine lv_topi (fun v3 ev3 => ?_)
      have jv3 := hI.rd lo x.toNatClampNeg tlo ev3 (rfl : h_bd 601 _ = ((-2147483648), 2147483647))
      refine lv_goto (tgt := 22) hx hb dX5_weight_18 (by decide) ?_
      exact W.iret (v := v3) hx hb hr (fun t ht hW => ⟨v3, rfl, (fun u hu h0 h1 => by have h8 := hu.2.1; rw [qf0_2] at h8; rw [ev3, (h_keq h_x (by omega) (by omega) : x.toNatClampNeg = x_t.toNat), ← alo]; exact hu.2.2 x_t.toNat (by omega) (by omega)), ht⟩) (fun _ h => by cases h) dX5_weight_22
set_option maxHeartbeats 4000000 in
set_option maxRecDepth 100000 in
theorem tX5_weightSumB (l : Launch) (E : tE) (X : tX) (A : Nat → Prop) (z : tZ) (I0 : tI) (L0 : tL) (a0 : Nat) (t_a0 : z.ty a0 = 6) (u_ : Nat → Int) (hu : h_lw I0 a0 (h_ad z a0 0) (h_ad z a0 1) u_) (hok : q_ok u_) (hnl : q_nl u_ ≠ 0) : Met l yX5_weightSum wsX5_weightSum ({ frames := 1, cells := 0, slots := 0, locals := 64 }) (va_Pc [.ref a0] (h_P E X A z I0 L0)) (vp_Si (fun r => (r.toInt = q_al u_))) 0 0 (fun _ => False) := by
  refine Met.ofW (cc := cX5_weightSum) (maxL := 3) (ret := (some .int)) (by decide) rfl ?_
  intro pr_ ev_ s m args below meth cd_ s₁ B hml hv
  obtain ⟨rfl, hE, hk, hX, hA, hK, hI, hR, hB0⟩ := hv
  have g : h_G h_so h_fk E A z I0 L0 s s.heap s.heap [] := ⟨hK, va_S.rf, hB0⟩
  have hx := B.exec
  have hb := B.bytes
  have hr := B.returns
  have hts := atoms_spec (ws := wsX5_weightSum) B.pre
  have hown : s.vm.findClass RX5 = some m.cls := findClass_of_methodNamed B.named
  have hlocks := B.notSynchronized
  have iX5 : ∀ w ∈ u_ws RX5 TX5 3, w ∈ wsX5_weightSum := by decide +kernel
  have hl := lv_entry ([.ref a0]) (n := 3) (Nat.le_of_ble_eq_true rfl)
  rw [lg_entry_eq]
  generalize (lg_sl ([.ref a0]) ++ List.replicate (3 - (lg_sl ([.ref a0])).length) Slot.unset).toArray = ls at hl ⊢
  have hl : lv_has ls 3 [(0, .ref a0)] := hl
  obtain ⟨f0_2, ef0_2⟩ : ∃ v : Int32, v = I0 a0 2 := ⟨_, rfl⟩
  have qf0_2 : (I0 a0 2).toInt = f0_2.toInt := congrArg Int32.toInt ef0_2.symm
  have jf0_2 := hI.rd a0 2 t_a0 ef0_2 (rfl : h_bd 6 2 = (0, 6))
  obtain ⟨nu, rnu, tnu⟩ := hR.at a0 0 t_a0 (rfl : h_rs 6 0 = some (600, false)) (by decide)
  have anu : h_ad z a0 0 = nu := h_ad.at rnu
  obtain ⟨lo, rlo, tlo⟩ := hR.at a0 1 t_a0 (rfl : h_rs 6 1 = some (601, false)) (by decide)
  have alo : h_ad z a0 1 = lo := h_ad.at rlo
  have hu0 := hu
  rw [anu, alo] at hu
  have nb := q_nl_b hok
  have h8 := hu.2.1
  rw [qf0_2] at h8
  refine lv_iconst (v := 0) hx hb dX5_weightSum_0 (by decide) ?_
  refine lv_istore_n (lv' := [(1, .int 0), (0, .ref a0)]) hx hb dX5_weightSum_1 rfl hl (by decide) rfl (fun ls hl => ?_)
  refine lv_iconst (v := 0) hx hb dX5_weightSum_2 (by decide) ?_
  refine lv_istore_n (lv' := [(2, .int 0), (1, .int 0), (0, .ref a0)]) hx hb dX5_weightSum_3 rfl hl (by decide) rfl (fun ls hl => ?_)
  have loop4_0 : ∀ (n : Nat) (ls : Array Slot) (v1 v2 : Int32), lv_has ls 3 [(0, .ref a0), (1, .int v1), (2, .int v2)] → (0 ≤ v1.toInt ∧ v1.toInt ≤ 120) → (0 ≤ v2.toInt ∧ v2.toInt ≤ 6) → (q_al u_ = v1.toInt + q_sum u_ (-1) (q_nl u_ - v2.toInt).toNat (v2.toInt).toNat) → (0 ≤ v1.toInt ∧ v1.toInt ≤ 20 * v2.toInt) → (6 - v2.toInt) < (n : Int) → W pr_ l ev_ (headSpec wsX5_weightSum ({ frames := 1, cells := 0, slots := 0, locals := 64 })).room s m ([.ref a0] : List Value).toArray below meth cd_ s.heap [] 0 0 (MQ below (vp_Si (fun r => (r.toInt = q_al u_))) ([.ref a0] : List Value).toArray s 0 0 (fun _ => False)) (F0 m 4 ls []) := by
    intro n
    induction n with
    | zero => intro ls v1 v2 hl jv1 jv2 hx4_0 hx4_1 hn; exact absurd hn (by omega)
    | succ n ih4 =>
      intro ls v1 v2 hl jv1 jv2 hx4_0 hx4_1 hn
      refine lv_iload_n hx hb dX5_weightSum_4 rfl (lv_at hl 2 rfl) ?_
      refine lv_aload_n hx hb dX5_weightSum_5 rfl (lv_at hl 0 rfl) ?_
      refine h_get (v := .int f0_2) hx hb hts iX5 hown g t_a0 (by decide) so_6 rfl 2 (by decide) (hts (.fieldLink RX5 30 "CapLeague$Laws" "lotCount" "I") (by decide +kernel)) rfl dX5_weightSum_6 (congrArg Value.int (ef0_2.symm)) ?_
      refine lv_icmp_ge (tgt := 27) hx hb dX5_weightSum_9 (by decide) (fun c3 => ?_) (fun c3 => ?_)
      · have ic3 := (xi_le c3 rfl rfl : f0_2.toInt ≤ v2.toInt)
        refine lv_iload_n hx hb dX5_weightSum_27 rfl (lv_at hl 1 rfl) ?_
        exact W.iret (v := v1) hx hb hr (fun t ht hW => ⟨v1, rfl, (by rw [hx4_0, q_sum_end (by omega)]; omega), ht⟩) (fun _ h => by cases h) dX5_weightSum_28
      · have ic3 := (xi_nle c3 rfl rfl : v2.toInt < f0_2.toInt)
        refine lv_iload_n hx hb dX5_weightSum_12 rfl (lv_at hl 1 rfl) ?_
        refine lv_aload_n hx hb dX5_weightSum_13 rfl (lv_at hl 0 rfl) ?_
        refine h_get (v := .ref lo) hx hb hts iX5 hown g t_a0 (by decide) so_6 rfl 1 (by decide) (hts (.fieldLink RX5 15 "CapLeague$Laws" "lots" "[I") (by decide +kernel)) rfl dX5_weightSum_14 (by show va_rf (z.R a0 1) = _; rw [rlo]; rfl) ?_
        refine lv_iload_n hx hb dX5_weightSum_17 rfl (lv_at hl 2 rfl) ?_
        refine h_ald hx hb g tlo (by decide) so_601 (xi_in (by omega) (by omega)) dX5_weightSum_18 ?_
        refine lv_topi (fun v4 ev4 => ?_)
        have jv4 := hI.rd lo v2.toNatClampNeg tlo ev4 (rfl : h_bd 601 _ = ((-2147483648), 2147483647))
        have mv4 : v4.toInt = u_ (9 + (v2.toInt).toNat) := by rw [ev4, h_keq (i := v2) (t := v2.toInt) (k := (v2.toInt).toNat) rfl (by omega) (by omega)]; exact hu.2.2 (v2.toInt).toNat (by omega) (by omega)
        have ov4 := hok.2.2 (v2.toInt).toNat (by omega)
        rw [← mv4] at ov4
        refine lv_iadd hx hb dX5_weightSum_19 ?_
        refine lv_topi (fun v5 ev5 => ?_)
        have jv5 : v5.toInt = v1.toInt + v4.toInt := xi_add ev5 rfl rfl (by omega) (by omega)
        refine lv_istore_n (lv' := [(1, .int v5), (0, .ref a0), (2, .int v2)]) hx hb dX5_weightSum_20 rfl hl (by decide) rfl (fun ls hl => ?_)
        obtain ⟨v6, ev6⟩ : ∃ z : Int32, z = v2 + 1 := ⟨_, rfl⟩
        have jv6 : v6.toInt = v2.toInt + 1 := xi_add ev6 rfl (by decide) (by omega) (by omega)
        refine lv_iinc (v := v6) (lv' := [(2, .int v6), (1, .int v5), (0, .ref a0)]) hx hb dX5_weightSum_21 hl (k := 2) rfl (by rw [ev6]; rfl) (by decide) rfl (fun ls hl => ?_)
        refine lv_goto (tgt := 4) hx hb dX5_weightSum_24 (by decide) ?_
        exact ih4 _ v5 v6 (lv_sub hl [2, 1, 0] rfl) (by omega) (by omega) (by rw [hx4_0, q_sum_go (i := v2.toInt) (i1 := v6.toInt) (by omega) (by omega) (by omega)]; omega) (by omega) (by omega)
  have kc7 : (0 : Int32).toInt = 0 := by decide
  have kc8 : (0 : Int32).toInt = 0 := by decide
  exact loop4_0 _ _ (0) (0) (lv_sub hl [2, 1, 0] rfl) ⟨by decide, by decide⟩ ⟨by decide, by decide⟩ (by rw [show (0 : Int32).toInt = 0 by decide, show q_nl u_ - 0 = q_nl u_ by omega]; show _ = 0 + q_sum u_ (-1) (q_nl u_).toNat 0; unfold q_al; omega) (by omega) (show (6 - (0 : Int)) < (((6 - (0 : Int)).toNat + 1 : Nat) : Int) by omega)
set_option maxHeartbeats 4000000 in
set_option maxRecDepth 100000 in
theorem tX2_leftWithoutB (l : Launch) (E : tE) (X : tX) (A : Nat → Prop) (z : tZ) (I0 : tI) (L0 : tL) (x : Int32) (x_t : Int) (h_x : x.toInt = x_t) (y : Int32) (y_t : Int) (h_y : y.toInt = y_t) (n0 : Nat) (t_n0 : z.ty n0 = 6) (u_ : Nat → Int) (hu : h_lw I0 n0 (h_ad z n0 0) (h_ad z n0 1) u_) (hok : q_ok u_) (hnl : q_nl u_ ≠ 0) (hxy : 0 ≤ x_t ∧ 0 ≤ y_t) : Met l yX2_leftWithout wsX2_leftWithout ({ frames := 2, cells := 0, slots := 0, locals := 128 }) (va_Pc [.int x, .int y, .ref n0] (h_P E X A z I0 L0)) (vp_Sl (fun r => (r.toInt = q_cl (q_wgt u_) (q_al u_) x_t.toNat y_t.toNat (q_nl u_).toNat))) 0 0 (fun _ => False) := by
  refine Met.ofW (cc := cX2_leftWithout) (maxL := 7) (ret := (some .long)) (by decide) rfl ?_
  intro pr_ ev_ s m args below meth cd_ s₁ B hml hv
  obtain ⟨rfl, hE, hk, hX, hA, hK, hI, hR, hB0⟩ := hv
  have g : h_G h_so h_fk E A z I0 L0 s s.heap s.heap [] := ⟨hK, va_S.rf, hB0⟩
  have hx := B.exec
  have hb := B.bytes
  have hr := B.returns
  have hts := atoms_spec (ws := wsX2_leftWithout) B.pre
  have hown : s.vm.findClass RX2 = some m.cls := findClass_of_methodNamed B.named
  have hlocks := B.notSynchronized
  have hl := lv_entry ([.int x, .int y, .ref n0]) (n := 7) (Nat.le_of_ble_eq_true rfl)
  rw [lg_entry_eq]
  generalize (lg_sl ([.int x, .int y, .ref n0]) ++ List.replicate (7 - (lg_sl ([.int x, .int y, .ref n0])).length) Slot.unset).toArray = ls at hl ⊢
  have hl : lv_has ls 7 [(0, .int x), (1, .int y), (2, .ref n0)] := hl
  have b_x : -2147483648 ≤ x_t ∧ x_t ≤ 2147483647 := h_x ▸ ⟨xi_lo x, Int.le_of_lt_add_one (xi_hi x)⟩
  have b_y : -2147483648 ≤ y_t ∧ y_t ≤ 2147483647 := h_y ▸ ⟨xi_lo y, Int.le_of_lt_add_one (xi_hi y)⟩
  have nb := q_nl_b hok
  have ab := q_al_b hok (j := 0) (by omega)
  have hpw := q_p120 (q_nl u_).toNat (by omega)
  refine lv_aload_n hx hb dX2_leftWithout_0 rfl (lv_at hl 2 rfl) ?_
  refine vp_callSi (W.runV (As := []) (rest := []) ⟨hx, hb, hml, hown, hts⟩ (tX5_weightSumB l E X A z I0 L0 n0 t_n0 (u_) (hu) (hok) (hnl)) (cwV 0 hts gX2_leftWithout_X5_weightSum rfl rfl rfl (by decide +kernel) ⟨Nat.le_of_ble_eq_true rfl, Nat.le_of_ble_eq_true rfl⟩) ⟨h_blind _ _ _ _ _ _ _, h_recv g t_n0 (by decide) so_6 (q := (RX5, TX5, 3)) rfl, h_pre _ hE hk hX hA hI hR g⟩ rfl rfl hl.1 rfl (lv_room (Nat.le_of_ble_eq_true rfl)) dX2_leftWithout_1 ⟨Nat.le_of_ble_eq_true rfl, Nat.le_of_ble_eq_true rfl⟩) (fun rh1 h1 => ?_)
  have h1p0 := h1
  have jrh1 : -2147483648 ≤ rh1.toInt ∧ rh1.toInt ≤ 2147483647 := ⟨xi_lo _, Int.le_of_lt_add_one (xi_hi _)⟩
  have al : rh1.toInt = q_al u_ := h1p0
  have bal : 2 ≤ rh1.toInt ∧ rh1.toInt ≤ 120 := by omega
  refine lv_istore_n (lv' := [(3, .int rh1), (0, .int x), (1, .int y), (2, .ref n0)]) hx hb dX2_leftWithout_4 rfl hl (by decide) rfl (fun ls hl => ?_)
  refine lv_lconst (v := 1) hx hb dX2_leftWithout_5 (by decide) ?_
  refine lv_lstore (lv' := [(4, .long 1), (3, .int rh1), (0, .int x), (1, .int y), (2, .ref n0)]) hx hb dX2_leftWithout_6 hl (by decide) rfl (fun ls hl => ?_)
  refine lv_iconst (v := 0) hx hb dX2_leftWithout_8 (by decide) ?_
  refine lv_istore (lv' := [(6, .int 0), (4, .long 1), (3, .int rh1), (0, .int x), (1, .int y), (2, .ref n0)]) hx hb dX2_leftWithout_9 hl (by decide) rfl (fun ls hl => ?_)
  have loop11_0 : ∀ (n : Nat) (ls : Array Slot) (v3 : Int32) (v2 : Int64), lv_has ls 7 [(0, .int x), (1, .int y), (2, .ref n0), (3, .int rh1), (4, .long v2), (6, .int v3)] → (0 ≤ v3.toInt ∧ v3.toInt ≤ 6) → (v2.toInt = q_cl (q_wgt u_) (q_al u_) x_t.toNat y_t.toNat (v3.toInt).toNat) → (v3.toInt ≤ q_nl u_) → (6 - v3.toInt) < (n : Int) → W pr_ l ev_ (headSpec wsX2_leftWithout ({ frames := 2, cells := 0, slots := 0, locals := 128 })).room s m ([.int x, .int y, .ref n0] : List Value).toArray below meth cd_ s.heap [] 0 0 (MQ below (vp_Sl (fun r => (r.toInt = q_cl (q_wgt u_) (q_al u_) x_t.toNat y_t.toNat (q_nl u_).toNat))) ([.int x, .int y, .ref n0] : List Value).toArray s 0 0 (fun _ => False)) (F0 m 11 ls []) := by
    intro n
    induction n with
    | zero => intro ls v3 v2 hl jv3 hx11_0 hx11_1 hn; exact absurd hn (by omega)
    | succ n ih11 =>
      intro ls v3 v2 hl jv3 hx11_0 hx11_1 hn
      have cb := q_cl_b hok (r := x_t.toNat) (f := y_t.toNat) (v3.toInt).toNat (by omega)
      have cp := q_p120 (v3.toInt).toNat (by omega)
      rw [← hx11_0] at cb
      refine lv_iload hx hb dX2_leftWithout_11 (lv_at hl 5 rfl) ?_
      refine lv_aload_n hx hb dX2_leftWithout_13 rfl (lv_at hl 2 rfl) ?_
      refine vp_callSi (W.runV (As := []) (rest := [.int v3]) ⟨hx, hb, hml, hown, hts⟩ (tX5_lotClubsF l E X A z I0 L0 n0 t_n0) (cwV 0 hts gX2_leftWithout_X5_lotClubs rfl rfl rfl (by decide +kernel) ⟨Nat.le_of_ble_eq_true rfl, Nat.le_of_ble_eq_true rfl⟩) ⟨h_blind _ _ _ _ _ _ _, h_recv g t_n0 (by decide) so_6 (q := (RX5, TX5, 3)) rfl, h_pre _ hE hk hX hA hI hR g⟩ rfl rfl hl.1 rfl (lv_room (Nat.le_of_ble_eq_true rfl)) dX2_leftWithout_14 ⟨Nat.le_of_ble_eq_true rfl, Nat.le_of_ble_eq_true rfl⟩) (fun rh4 h4 => ?_)
      obtain ⟨h4, h4p0⟩ := h4
      have nl : rh4.toInt = q_nl u_ := h4p0 u_ hu
      refine lv_icmp_ge (tgt := 52) hx hb dX2_leftWithout_17 (by decide) (fun c5 => ?_) (fun c5 => ?_)
      · have ic5 := (xi_le c5 rfl rfl : rh4.toInt ≤ v3.toInt)
        refine lv_lload hx hb dX2_leftWithout_52 (lv_at hl 4 rfl) ?_
        exact W.lret (v := v2) hx hb hr (fun t ht hW => ⟨v2, rfl, (by show v2.toInt = _; rw [hx11_0, show (v3.toInt).toNat = (q_nl u_).toNat by omega]), ht⟩) (fun _ h => by cases h) dX2_leftWithout_54
      · have ic5 := (xi_nle c5 rfl rfl : v3.toInt < rh4.toInt)
        refine lv_iload hx hb dX2_leftWithout_20 (lv_at hl 5 rfl) ?_
        refine lv_iload_n hx hb dX2_leftWithout_22 rfl (lv_at hl 0 rfl) ?_
        refine lv_icmp_eq (tgt := 46) hx hb dX2_leftWithout_23 (by decide) (fun c6 => ?_) (fun c6 => ?_)
        · have ic6 := (xi_eq c6 rfl h_x : v3.toInt = x_t)
          obtain ⟨v7, ev7⟩ : ∃ z : Int32, z = v3 + 1 := ⟨_, rfl⟩
          have jv7 : v7.toInt = v3.toInt + 1 := xi_add ev7 rfl (by decide) (by omega) (by omega)
          refine lv_iinc (v := v7) (lv' := [(6, .int v7), (0, .int x), (1, .int y), (2, .ref n0), (3, .int rh1), (4, .long v2)]) hx hb dX2_leftWithout_46 hl (k := 5) rfl (by rw [ev7]; rfl) (by decide) rfl (fun ls hl => ?_)
          refine lv_goto (tgt := 11) hx hb dX2_leftWithout_49 (by decide) ?_
          exact ih11 _ v7 (v2) (lv_sub hl [1, 2, 3, 4, 5, 0] rfl) (by omega) (q_cl_skip hx11_0 (by omega) (by omega)) (by omega) (by omega)
        · have ic6 := (xi_ne c6 rfl h_x : v3.toInt ≠ x_t)
          refine lv_iload hx hb dX2_leftWithout_26 (lv_at hl 5 rfl) ?_
          refine lv_iload_n hx hb dX2_leftWithout_28 rfl (lv_at hl 1 rfl) ?_
          refine lv_icmp_eq (tgt := 46) hx hb dX2_leftWithout_29 (by decide) (fun c8 => ?_) (fun c8 => ?_)
          · have ic8 := (xi_eq c8 rfl h_y : v3.toInt = y_t)
            obtain ⟨v9, ev9⟩ : ∃ z : Int32, z = v3 + 1 := ⟨_, rfl⟩
            have jv9 : v9.toInt = v3.toInt + 1 := xi_add ev9 rfl (by decide) (by omega) (by omega)
            refine lv_iinc (v := v9) (lv' := [(6, .int v9), (0, .int x), (1, .int y), (2, .ref n0), (3, .int rh1), (4, .long v2)]) hx hb dX2_leftWithout_46 hl (k := 5) rfl (by rw [ev9]; rfl) (by decide) rfl (fun ls hl => ?_)
            refine lv_goto (tgt := 11) hx hb dX2_leftWithout_49 (by decide) ?_
            exact ih11 _ v9 (v2) (lv_sub hl [1, 2, 3, 4, 5, 0] rfl) (by omega) (q_cl_skip hx11_0 (by omega) (by omega)) (by omega) (by omega)
          · have ic8 := (xi_ne c8 rfl h_y : v3.toInt ≠ y_t)
            refine lv_lload hx hb dX2_leftWithout_32 (lv_at hl 4 rfl) ?_
            refine lv_iload_n hx hb dX2_leftWithout_34 rfl (lv_at hl 3 rfl) ?_
            refine lv_aload_n hx hb dX2_leftWithout_35 rfl (lv_at hl 2 rfl) ?_
            refine lv_iload hx hb dX2_leftWithout_36 (lv_at hl 5 rfl) ?_
            refine vp_callSi (W.runV (As := [.int v3]) (rest := [.int rh1, .long v2]) ⟨hx, hb, hml, hown, hts⟩ (tX5_weightB l E X A z I0 L0 n0 t_n0 v3 (v3.toInt) rfl) (cwV 1 hts gX2_leftWithout_X5_weight rfl rfl rfl (by decide +kernel) ⟨Nat.le_of_ble_eq_true rfl, Nat.le_of_ble_eq_true rfl⟩) ⟨h_blind _ _ _ _ _ _ _, h_recv g t_n0 (by decide) so_6 (q := (RX5, TX5, 3)) rfl, h_pre _ hE hk hX hA hI hR g⟩ rfl rfl hl.1 rfl (lv_room (Nat.le_of_ble_eq_true rfl)) dX2_leftWithout_38 ⟨Nat.le_of_ble_eq_true rfl, Nat.le_of_ble_eq_true rfl⟩) (fun rh10 h10 => ?_)
            have h10p0 := h10
            have jrh10 : -2147483648 ≤ rh10.toInt ∧ rh10.toInt ≤ 2147483647 := ⟨xi_lo _, Int.le_of_lt_add_one (xi_hi _)⟩
            have mwrh10 : rh10.toInt = q_wgt u_ (v3.toInt).toNat := h10p0 u_ hu (by omega) (by omega)
            have obrh10 := q_al_b hok (j := (v3.toInt).toNat) (by omega)
            rw [← mwrh10, ← al] at obrh10
            have bwrh10 : 1 ≤ rh10.toInt ∧ rh10.toInt ≤ 20 := by omega
            refine lv_isub hx hb dX2_leftWithout_41 ?_
            refine lv_topi (fun v11 ev11 => ?_)
            have jv11 : v11.toInt = rh1.toInt - rh10.toInt := xi_sub ev11 rfl rfl (by omega) (by omega)
            refine lv_i2l hx hb dX2_leftWithout_42 rfl ?_
            refine lv_topl (fun v12 ev12 => ?_)
            have jv12 : v12.toInt = v11.toInt := by rw [ev12, xi_64]
            refine lv_lmul hx hb dX2_leftWithout_43 ?_
            refine lv_topl (fun v13 ev13 => ?_)
            have pv13 := q_mul_b (x := v2.toInt) (y := v11.toInt) (c := 2985984000000) (d := 119) (by omega) (by omega) (by omega) (by omega)
            have nv13 : v13.toInt = v2.toInt * v11.toInt := h_lmul ev13 (by rw [jv12]) (by omega) (by omega)
            refine lv_lstore (lv' := [(4, .long v13), (0, .int x), (1, .int y), (2, .ref n0), (3, .int rh1), (6, .int v3)]) hx hb dX2_leftWithout_44 hl (by decide) rfl (fun ls hl => ?_)
            obtain ⟨v14, ev14⟩ : ∃ z : Int32, z = v3 + 1 := ⟨_, rfl⟩
            have jv14 : v14.toInt = v3.toInt + 1 := xi_add ev14 rfl (by decide) (by omega) (by omega)
            refine lv_iinc (v := v14) (lv' := [(6, .int v14), (4, .long v13), (0, .int x), (1, .int y), (2, .ref n0), (3, .int rh1)]) hx hb dX2_leftWithout_46 hl (k := 5) rfl (by rw [ev14]; rfl) (by decide) rfl (fun ls hl => ?_)
            refine lv_goto (tgt := 11) hx hb dX2_leftWithout_49 (by decide) ?_
            exact ih11 _ v14 (v13) (lv_sub hl [2, 3, 4, 5, 1, 0] rfl) (by omega) (q_cl_go hx11_0 (by omega) (by omega) (by omega) (by rw [nv13, show v11.toInt = q_al u_ - q_wgt u_ (v3.toInt).toNat by omega])) (by omega) (by omega)
  have kc15 : (0 : Int32).toInt = 0 := by decide
  exact loop11_0 _ _ (0) (1) (lv_sub hl [3, 4, 5, 2, 1, 0] rfl) ⟨by decide, by decide⟩ (by rw [show (1 : Int64).toInt = 1 by decide, show ((0 : Int32).toInt).toNat = 0 by decide]; rfl) (by omega) (show (6 - (0 : Int)) < (((6 - (0 : Int)).toNat + 1 : Nat) : Int) by omega)

