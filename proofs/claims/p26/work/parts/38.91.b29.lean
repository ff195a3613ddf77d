set_option maxHeartbeats 4000000 in
set_option maxRecDepth 100000 in
theorem tX2_findSecondB (l : Launch) (E : tE) (X : tX) (A : Nat → Prop) (z : tZ) (I0 : tI) (L0 : tL) (a0 : Nat) (t_a0 : z.ty a0 = 3) (x : Int32) (x_t : Int) (h_x : x.toInt = x_t) (n0 : Nat) (t_n0 : z.ty n0 = 6) (u_ : Nat → Int) (hu : h_lw I0 n0 (h_ad z n0 0) (h_ad z n0 1) u_) (hok : q_ok u_) (hnl : q_nl u_ ≠ 0) (hxn : 0 ≤ x_t ∧ x_t < q_nl u_) : Met l yX2_findSecondChance wsX2_findSecondChance ({ frames := 3, cells := 0, slots := 0, locals := 192 }) (va_Pc [.ref a0, .int x, .ref n0] (h_P E X A z I0 L0)) (va_Qv (fun (q1 : tI × tL) => h_I z q1.1 ∧ h_F [] z I0 q1.1 ∧ ((q1.2 a0 5).toInt = q_cs (q_wgt u_) (q_al u_) x_t.toNat (q_nl u_).toNat * q_wgt u_ x_t.toNat ∧ (q1.2 a0 6).toInt = q_al u_ * q_cp (q_wgt u_) (q_al u_) x_t.toNat (q_nl u_).toNat)) (fun (q1 : tI × tL) t => h_B E A z q1.1 q1.2 t) A) 0 0 A := by
  refine Met.ofW (cc := cX2_findSecondChance) (maxL := 9) (ret := none) (by decide) rfl ?_
  intro pr_ ev_ s m args below meth cd_ s₁ B hml hv
  obtain ⟨rfl, hE, hk, hX, hA, hK, hI, hR, hB0⟩ := hv
  have g : h_G h_so h_fk E A z I0 L0 s s.heap s.heap [] := ⟨hK, va_S.rf, hB0⟩
  have hF : h_F [] z I0 I0 := h_F.rf
  have hx := B.exec
  have hb := B.bytes
  have hr := B.returns
  have hts := atoms_spec (ws := wsX2_findSecondChance) B.pre
  have hown : s.vm.findClass RX2 = some m.cls := findClass_of_methodNamed B.named
  have hlocks := B.notSynchronized
  have iX2 : ∀ w ∈ u_ws RX2 TX2 7, w ∈ wsX2_findSecondChance := by decide +kernel
  have hl := lv_entry ([.ref a0, .int x, .ref n0]) (n := 9) (Nat.le_of_ble_eq_true rfl)
  rw [lg_entry_eq]
  generalize (lg_sl ([.ref a0, .int x, .ref n0]) ++ List.replicate (9 - (lg_sl ([.ref a0, .int x, .ref n0])).length) Slot.unset).toArray = ls at hl ⊢
  have hl : lv_has ls 9 [(0, .ref a0), (1, .int x), (2, .ref n0)] := hl
  have b_x : -2147483648 ≤ x_t ∧ x_t ≤ 2147483647 := h_x ▸ ⟨xi_lo x, Int.le_of_lt_add_one (xi_hi x)⟩
  have nb := q_nl_b hok
  have ab := q_al_b hok (j := 0) (by omega)
  have hpw := q_p120 (q_nl u_).toNat (by omega)
  refine lv_aload_n hx hb dX2_findSecondChance_0 rfl (lv_at hl 2 rfl) ?_
  refine vp_callSi (W.runV (As := []) (rest := []) ⟨hx, hb, hml, hown, hts⟩ (tX5_weightSumB l E X A z I0 L0 n0 t_n0 (u_) (hu) (hok) (hnl)) (cwV 0 hts gX2_findSecondChance_X5_weightSum rfl rfl rfl (by decide +kernel) ⟨Nat.le_of_ble_eq_true rfl, Nat.le_of_ble_eq_true rfl⟩) ⟨h_blind _ _ _ _ _ _ _, h_recv g t_n0 (by decide) so_6 (q := (RX5, TX5, 3)) rfl, h_pre _ hE hk hX hA hI hR g⟩ rfl rfl hl.1 rfl (lv_room (Nat.le_of_ble_eq_true rfl)) dX2_findSecondChance_1 ⟨Nat.le_of_ble_eq_true rfl, Nat.le_of_ble_eq_true rfl⟩) (fun rh1 h1 => ?_)
  have h1p0 := h1
  have jrh1 : -2147483648 ≤ rh1.toInt ∧ rh1.toInt ≤ 2147483647 := ⟨xi_lo _, Int.le_of_lt_add_one (xi_hi _)⟩
  have al : rh1.toInt = q_al u_ := h1p0
  have bal : 2 ≤ rh1.toInt ∧ rh1.toInt ≤ 120 := by omega
  refine lv_istore_n (lv' := [(3, .int rh1), (0, .ref a0), (1, .int x), (2, .ref n0)]) hx hb dX2_findSecondChance_4 rfl hl (by decide) rfl (fun ls hl => ?_)
  refine lv_iload_n hx hb dX2_findSecondChance_5 rfl (lv_at hl 0 rfl) ?_
  refine lv_i2l hx hb dX2_findSecondChance_6 rfl ?_
  refine lv_topl (fun v2 ev2 => ?_)
  have jv2 : v2.toInt = rh1.toInt := by rw [ev2, xi_64]
  refine lv_lstore (lv' := [(4, .long v2), (3, .int rh1), (0, .ref a0), (1, .int x), (2, .ref n0)]) hx hb dX2_findSecondChance_7 hl (by decide) rfl (fun ls hl => ?_)
  refine lv_lconst (v := 0) hx hb dX2_findSecondChance_9 (by decide) ?_
  refine lv_lstore (lv' := [(6, .long 0), (4, .long v2), (3, .int rh1), (0, .ref a0), (1, .int x), (2, .ref n0)]) hx hb dX2_findSecondChance_10 hl (by decide) rfl (fun ls hl => ?_)
  refine lv_iconst (v := 0) hx hb dX2_findSecondChance_12 (by decide) ?_
  refine lv_istore (lv' := [(8, .int 0), (6, .long 0), (4, .long v2), (3, .int rh1), (0, .ref a0), (1, .int x), (2, .ref n0)]) hx hb dX2_findSecondChance_13 hl (by decide) rfl (fun ls hl => ?_)
  have loop15_0 : ∀ (n : Nat) (I6 : tI) (L7 : tL) (H : Heap) (locs : List Loc) (ls : Array Slot) (v5 : Int32) (v3 v4 : Int64), h_G h_so h_fk E A z I6 L7 s s.heap H locs → h_I z I6 → h_F [] z I0 I6 → lv_has ls 9 [(0, .ref a0), (1, .int x), (2, .ref n0), (3, .int rh1), (4, .long v3), (6, .long v4), (8, .int v5)] → (0 ≤ v5.toInt ∧ v5.toInt ≤ 6) → (v3.toInt = q_al u_ * q_cp (q_wgt u_) (q_al u_) x_t.toNat (v5.toInt).toNat) → (v4.toInt = q_ct (q_wgt u_) (q_al u_) x_t.toNat (q_nl u_).toNat (v5.toInt).toNat) → (v5.toInt ≤ q_nl u_) → (6 - v5.toInt) < (n : Int) → W pr_ l ev_ (headSpec wsX2_findSecondChance ({ frames := 3, cells := 0, slots := 0, locals := 192 })).room s m ([.ref a0, .int x, .ref n0] : List Value).toArray below meth cd_ H locs 0 0 (MQ below (va_Qv (fun (q1 : tI × tL) => h_I z q1.1 ∧ h_F [] z I0 q1.1 ∧ ((q1.2 a0 5).toInt = q_cs (q_wgt u_) (q_al u_) x_t.toNat (q_nl u_).toNat * q_wgt u_ x_t.toNat ∧ (q1.2 a0 6).toInt = q_al u_ * q_cp (q_wgt u_) (q_al u_) x_t.toNat (q_nl u_).toNat)) (fun (q1 : tI × tL) t => h_B E A z q1.1 q1.2 t) A) ([.ref a0, .int x, .ref n0] : List Value).toArray s 0 0 A) (F0 m 15 ls []) := by
    intro n
    induction n with
    | zero => intro I6 L7 H locs ls v5 v3 v4 g hI hF hl jv5 hx15_0 hx15_1 hx15_2 hn; exact absurd hn (by omega)
    | succ n ih15 =>
      intro I6 L7 H locs ls v5 v3 v4 g hI hF hl jv5 hx15_0 hx15_1 hx15_2 hn
      have cb := q_cp_b hok (r := x_t.toNat) (v5.toInt).toNat (by omega)
      have cp := q_p120 (v5.toInt).toNat (by omega)
      have ct := q_ct_b hok (r := x_t.toNat) (n := (q_nl u_).toNat) (by omega) (v5.toInt).toNat (by omega)
      have cq := q_mul_b (x := q_al u_) (y := q_cp (q_wgt u_) (q_al u_) x_t.toNat (v5.toInt).toNat) (c := 120) (d := 2985984000000) (by omega) (by omega) (by omega) (by omega)
      rw [← hx15_0] at cq
      rw [← hx15_1] at ct
      refine lv_iload hx hb dX2_findSecondChance_15 (lv_at hl 6 rfl) ?_
      refine lv_aload_n hx hb dX2_findSecondChance_17 rfl (lv_at hl 2 rfl) ?_
      refine vp_callSi (W.runV (As := []) (rest := [.int v5]) ⟨hx, hb, hml, hown, hts⟩ (tX5_lotClubsF l E X A z I6 L7 n0 t_n0) (cwV 0 hts gX2_findSecondChance_X5_lotClubs rfl rfl rfl (by decide +kernel) ⟨Nat.le_of_ble_eq_true rfl, Nat.le_of_ble_eq_true rfl⟩) ⟨h_blind _ _ _ _ _ _ _, h_recv g t_n0 (by decide) so_6 (q := (RX5, TX5, 3)) rfl, h_pre _ hE hk hX hA hI hR g⟩ rfl rfl hl.1 rfl (lv_room (Nat.le_of_ble_eq_true rfl)) dX2_findSecondChance_18 ⟨Nat.le_of_ble_eq_true rfl, Nat.le_of_ble_eq_true rfl⟩) (fun rh8 h8 => ?_)
      obtain ⟨h8, h8p0⟩ := h8
      have nl : rh8.toInt = q_nl u_ := h8p0 u_ (by rw [show I6 = I0 from funext (fun a => funext (fun k => hF a k rfl))]; exact hu)
      refine lv_icmp_ge (tgt := 70) hx hb dX2_findSecondChance_21 (by decide) (fun c9 => ?_) (fun c9 => ?_)
      · have ic9 := (xi_le c9 rfl rfl : rh8.toInt ≤ v5.toInt)
        refine lv_aload_n hx hb dX2_findSecondChance_70 rfl (lv_at hl 0 rfl) ?_
        refine lv_lload hx hb dX2_findSecondChance_71 (lv_at hl 5 rfl) ?_
        refine lv_aload_n hx hb dX2_findSecondChance_73 rfl (lv_at hl 2 rfl) ?_
        refine lv_iload_n hx hb dX2_findSecondChance_74 rfl (lv_at hl 1 rfl) ?_
        refine vp_callSi (W.runV (As := [.int x]) (rest := [.long v4, .ref a0]) ⟨hx, hb, hml, hown, hts⟩ (tX5_weightB l E X A z I6 L7 n0 t_n0 x (x_t) h_x) (cwV 1 hts gX2_findSecondChance_X5_weight rfl rfl rfl (by decide +kernel) ⟨Nat.le_of_ble_eq_true rfl, Nat.le_of_ble_eq_true rfl⟩) ⟨h_blind _ _ _ _ _ _ _, h_recv g t_n0 (by decide) so_6 (q := (RX5, TX5, 3)) rfl, h_pre _ hE hk hX hA hI hR g⟩ rfl rfl hl.1 rfl (lv_room (Nat.le_of_ble_eq_true rfl)) dX2_findSecondChance_75 ⟨Nat.le_of_ble_eq_true rfl, Nat.le_of_ble_eq_true rfl⟩) (fun rh10 h10 => ?_)
        have h10p0 := h10
        have jrh10 : -2147483648 ≤ rh10.toInt ∧ rh10.toInt ≤ 2147483647 := ⟨xi_lo _, Int.le_of_lt_add_one (xi_hi _)⟩
        have mwrh10 : rh10.toInt = q_wgt u_ (x_t).toNat := h10p0 u_ (by rw [show I6 = I0 from funext (fun a => funext (fun k => hF a k rfl))]; exact hu) (by omega) (by omega)
        have obrh10 := q_al_b hok (j := (x_t).toNat) (by omega)
        rw [← mwrh10, ← al] at obrh10
        have bwrh10 : 1 ≤ rh10.toInt ∧ rh10.toInt ≤ 20 := by omega
        refine lv_i2l hx hb dX2_findSecondChance_78 rfl ?_
        refine lv_topl (fun v11 ev11 => ?_)
        have jv11 : v11.toInt = rh10.toInt := by rw [ev11, xi_64]
        refine lv_lmul hx hb dX2_findSecondChance_79 ?_
        refine lv_topl (fun v12 ev12 => ?_)
        have pv12 := q_mul_n (x := v4.toInt) (y := rh10.toInt) (c := 358318080000000) (d := 20) (by omega) (by omega) (by omega) (by omega)
        have nv12 : v12.toInt = v4.toInt * rh10.toInt := h_lmul ev12 (by rw [jv11]) (by omega) (by omega)
        refine h_putL (ty := .long) (v := v12) hx hb hts iX2 tyX2 tyX2_ok nmX2 hown g t_a0 (by decide) so_3 rfl 5 (by decide) rfl (hts (.fieldLink RX2 60 "CapLeague$Draft" "chanceAbove" "J") (by decide +kernel)) rfl rfl (by decide +kernel) rfl rfl dX2_findSecondChance_80 (fun L13 H locs eL13 g => ?_)
        refine lv_aload_n hx hb dX2_findSecondChance_83 rfl (lv_at hl 0 rfl) ?_
        refine lv_lload hx hb dX2_findSecondChance_84 (lv_at hl 4 rfl) ?_
        refine h_putL (ty := .long) (v := v3) hx hb hts iX2 tyX2 tyX2_ok nmX2 hown g t_a0 (by decide) so_3 rfl 6 (by decide) rfl (hts (.fieldLink RX2 27 "CapLeague$Draft" "chanceBelow" "J") (by decide +kernel)) rfl rfl (by decide +kernel) rfl rfl dX2_findSecondChance_86 (fun L14 H locs eL14 g => ?_)
        have hS := g.2.1
        exact W.vret hx hb hr (fun t ht hW => ⟨⟨(I6, L14), rfl, ⟨hI, hF, (by show (L14 a0 5).toInt = _ ∧ (L14 a0 6).toInt = _; have hl := h_upL eL13 eL14; rw [hl.1, hl.2, nv12, hx15_0, hx15_1, show (v5.toInt).toNat = (q_nl u_).toNat by omega, q_ct_cs, show rh10.toInt = q_wgt u_ x_t.toNat by omega]; exact ⟨rfl, rfl⟩)⟩, h_ret g ht⟩, hS.F ht⟩) hS.2.2 dX2_findSecondChance_89
      · have ic9 := (xi_nle c9 rfl rfl : v5.toInt < rh8.toInt)
        refine lv_iload hx hb dX2_findSecondChance_24 (lv_at hl 6 rfl) ?_
        refine lv_iload_n hx hb dX2_findSecondChance_26 rfl (lv_at hl 1 rfl) ?_
        refine lv_icmp_eq (tgt := 64) hx hb dX2_findSecondChance_27 (by decide) (fun c15 => ?_) (fun c15 => ?_)
        · have ic15 := (xi_eq c15 rfl h_x : v5.toInt = x_t)
          obtain ⟨v16, ev16⟩ : ∃ z : Int32, z = v5 + 1 := ⟨_, rfl⟩
          have jv16 : v16.toInt = v5.toInt + 1 := xi_add ev16 rfl (by decide) (by omega) (by omega)
          refine lv_iinc (v := v16) (lv' := [(8, .int v16), (0, .ref a0), (1, .int x), (2, .ref n0), (3, .int rh1), (4, .long v3), (6, .long v4)]) hx hb dX2_findSecondChance_64 hl (k := 6) rfl (by rw [ev16]; rfl) (by decide) rfl (fun ls hl => ?_)
          refine lv_goto (tgt := 15) hx hb dX2_findSecondChance_67 (by decide) ?_
          exact ih15 I6 L7 _ _ _ v16 (v3) (v4) g hI hF (lv_sub hl [1, 2, 3, 4, 5, 6, 0] rfl) (by omega) (q_cp_skip hx15_0 (by omega) (by omega)) (q_ct_skip hx15_1 (by omega) (by omega)) (by omega) (by omega)
        · have ic15 := (xi_ne c15 rfl h_x : v5.toInt ≠ x_t)
          refine lv_lload hx hb dX2_findSecondChance_30 (lv_at hl 4 rfl) ?_
          refine lv_iload_n hx hb dX2_findSecondChance_32 rfl (lv_at hl 3 rfl) ?_
          refine lv_aload_n hx hb dX2_findSecondChance_33 rfl (lv_at hl 2 rfl) ?_
          refine lv_iload hx hb dX2_findSecondChance_34 (lv_at hl 6 rfl) ?_
          refine vp_callSi (W.runV (As := [.int v5]) (rest := [.int rh1, .long v3]) ⟨hx, hb, hml, hown, hts⟩ (tX5_weightB l E X A z I6 L7 n0 t_n0 v5 (v5.toInt) rfl) (cwV 1 hts gX2_findSecondChance_X5_weight rfl rfl rfl (by decide +kernel) ⟨Nat.le_of_ble_eq_true rfl, Nat.le_of_ble_eq_true rfl⟩) ⟨h_blind _ _ _ _ _ _ _, h_recv g t_n0 (by decide) so_6 (q := (RX5, TX5, 3)) rfl, h_pre _ hE hk hX hA hI hR g⟩ rfl rfl hl.1 rfl (lv_room (Nat.le_of_ble_eq_true rfl)) dX2_findSecondChance_36 ⟨Nat.le_of_ble_eq_true rfl, Nat.le_of_ble_eq_true rfl⟩) (fun rh17 h17 => ?_)
          have h17p0 := h17
          have jrh17 : -2147483648 ≤ rh17.toInt ∧ rh17.toInt ≤ 2147483647 := ⟨xi_lo _, Int.le_of_lt_add_one (xi_hi _)⟩
          have mwrh17 : rh17.toInt = q_wgt u_ (v5.toInt).toNat := h17p0 u_ (by rw [show I6 = I0 from funext (fun a => funext (fun k => hF a k rfl))]; exact hu) (by omega) (by omega)
          have obrh17 := q_al_b hok (j := (v5.toInt).toNat) (by omega)
          rw [← mwrh17, ← al] at obrh17
          have bwrh17 : 1 ≤ rh17.toInt ∧ rh17.toInt ≤ 20 := by omega
          refine lv_isub hx hb dX2_findSecondChance_39 ?_
          refine lv_topi (fun v18 ev18 => ?_)
          have jv18 : v18.toInt = rh1.toInt - rh17.toInt := xi_sub ev18 rfl rfl (by omega) (by omega)
          refine lv_i2l hx hb dX2_findSecondChance_40 rfl ?_
          refine lv_topl (fun v19 ev19 => ?_)
          have jv19 : v19.toInt = v18.toInt := by rw [ev19, xi_64]
          refine lv_lmul hx hb dX2_findSecondChance_41 ?_
          refine lv_topl (fun v20 ev20 => ?_)
          have pv20 := q_mul_b (x := v3.toInt) (y := v18.toInt) (c := 358318080000000) (d := 119) (by omega) (by omega) (by omega) (by omega)
          have nv20 : v20.toInt = v3.toInt * v18.toInt := h_lmul ev20 (by rw [jv19]) (by omega) (by omega)
          refine lv_lstore (lv' := [(4, .long v20), (0, .ref a0), (1, .int x), (2, .ref n0), (3, .int rh1), (6, .long v4), (8, .int v5)]) hx hb dX2_findSecondChance_42 hl (by decide) rfl (fun ls hl => ?_)
          refine lv_lload hx hb dX2_findSecondChance_44 (lv_at hl 5 rfl) ?_
          refine lv_aload_n hx hb dX2_findSecondChance_46 rfl (lv_at hl 3 rfl) ?_
          refine lv_iload hx hb dX2_findSecondChance_47 (lv_at hl 6 rfl) ?_
          refine vp_callSi (W.runV (As := [.int v5]) (rest := [.long v4]) ⟨hx, hb, hml, hown, hts⟩ (tX5_weightB l E X A z I6 L7 n0 t_n0 v5 (v5.toInt) rfl) (cwV 1 hts gX2_findSecondChance_X5_weight rfl rfl rfl (by decide +kernel) ⟨Nat.le_of_ble_eq_true rfl, Nat.le_of_ble_eq_true rfl⟩) ⟨h_blind _ _ _ _ _ _ _, h_recv g t_n0 (by decide) so_6 (q := (RX5, TX5, 3)) rfl, h_pre _ hE hk hX hA hI hR g⟩ rfl rfl hl.1 rfl (lv_room (Nat.le_of_ble_eq_true rfl)) dX2_findSecondChance_49 ⟨Nat.le_of_ble_eq_true rfl, Nat.le_of_ble_eq_true rfl⟩) (fun rh21 h21 => ?_)
          have h21p0 := h21
          have jrh21 : -2147483648 ≤ rh21.toInt ∧ rh21.toInt ≤ 2147483647 := ⟨xi_lo _, Int.le_of_lt_add_one (xi_hi _)⟩
          have mwrh21 : rh21.toInt = q_wgt u_ (v5.toInt).toNat := h21p0 u_ (by rw [show I6 = I0 from funext (fun a => funext (fun k => hF a k rfl))]; exact hu) (by omega) (by omega)
          have obrh21 := q_al_b hok (j := (v5.toInt).toNat) (by omega)
          rw [← mwrh21, ← al] at obrh21
          have bwrh21 : 1 ≤ rh21.toInt ∧ rh21.toInt ≤ 20 := by omega
          refine lv_i2l hx hb dX2_findSecondChance_52 rfl ?_
          refine lv_topl (fun v22 ev22 => ?_)
          have jv22 : v22.toInt = rh21.toInt := by rw [ev22, xi_64]
          refine lv_iload_n hx hb dX2_findSecondChance_53 rfl (lv_at hl 2 rfl) ?_
          refine lv_iload hx hb dX2_findSecondChance_54 (lv_at hl 6 rfl) ?_
          refine lv_aload_n hx hb dX2_findSecondChance_56 rfl (lv_at hl 3 rfl) ?_
          refine vp_callSl (W.runS (As := [.int x, .int v5, .ref n0]) (rest := [.long v22, .long v4]) ⟨hx, hb, hml, hown, hts⟩ (tX2_leftWithoutB l E X A z I6 L7 x (x_t) h_x v5 (v5.toInt) rfl n0 t_n0 (u_) ((by rw [show I6 = I0 from funext (fun a => funext (fun k => hF a k rfl))]; exact hu)) (hok) (hnl) (⟨by omega, by omega⟩)) (va_cwS 3 hts gX2_findSecondChance_X2_leftWithout rfl rfl rfl (by decide +kernel) ⟨Nat.le_of_ble_eq_true rfl, Nat.le_of_ble_eq_true rfl⟩) ⟨h_blind _ _ _ _ _ _ _, h_pre _ hE hk hX hA hI hR g⟩ rfl rfl hl.1 rfl (lv_room (Nat.le_of_ble_eq_true rfl)) dX2_findSecondChance_57 ⟨Nat.le_of_ble_eq_true rfl, Nat.le_of_ble_eq_true rfl⟩) (fun rh23 h23 => ?_)
          have h23p0 := h23
          have jrh23 : -9223372036854775808 ≤ rh23.toInt := Int64.le_toInt _
          have lf : rh23.toInt = q_cl (q_wgt u_) (q_al u_) x_t.toNat (v5.toInt).toNat (q_nl u_).toNat := h23p0
          have lb := q_cl_b hok (r := x_t.toNat) (f := (v5.toInt).toNat) (q_nl u_).toNat (by omega)
          rw [← lf] at lb
          refine lv_lmul hx hb dX2_findSecondChance_60 ?_
          refine lv_topl (fun v24 ev24 => ?_)
          have pv24 := q_mul_b (x := rh21.toInt) (y := rh23.toInt) (c := 20) (d := 2985984000000) (by omega) (by omega) (by omega) (by omega)
          have nv24 : v24.toInt = rh21.toInt * rh23.toInt := h_lmul ev24 (by rw [jv22]) (by omega) (by omega)
          refine lv_ladd hx hb dX2_findSecondChance_61 ?_
          refine lv_topl (fun v25 ev25 => ?_)
          have nv25 : v25.toInt = v4.toInt + v24.toInt := h_ladd ev25 rfl (by omega) (by omega)
          refine lv_lstore (lv' := [(6, .long v25), (4, .long v20), (0, .ref a0), (1, .int x), (2, .ref n0), (3, .int rh1), (8, .int v5)]) hx hb dX2_findSecondChance_62 hl (by decide) rfl (fun ls hl => ?_)
          obtain ⟨v26, ev26⟩ : ∃ z : Int32, z = v5 + 1 := ⟨_, rfl⟩
          have jv26 : v26.toInt = v5.toInt + 1 := xi_add ev26 rfl (by decide) (by omega) (by omega)
          refine lv_iinc (v := v26) (lv' := [(8, .int v26), (6, .long v25), (4, .long v20), (0, .ref a0), (1, .int x), (2, .ref n0), (3, .int rh1)]) hx hb dX2_findSecondChance_64 hl (k := 6) rfl (by rw [ev26]; rfl) (by decide) rfl (fun ls hl => ?_)
          refine lv_goto (tgt := 15) hx hb dX2_findSecondChance_67 (by decide) ?_
          exact ih15 I6 L7 _ _ _ v26 (v20) (v25) g hI hF (lv_sub hl [3, 4, 5, 6, 2, 1, 0] rfl) (by omega) (q_cp_go hx15_0 (by omega) (by omega) (by rw [nv20, show v18.toInt = q_al u_ - q_wgt u_ (v5.toInt).toNat by omega])) (q_ct_go hx15_1 (by omega) (by omega) (by rw [nv25, nv24, show rh21.toInt = q_wgt u_ (v5.toInt).toNat by omega, lf])) (by omega) (by omega)
  have kc27 : (0 : Int32).toInt = 0 := by decide
  exact loop15_0 _ I0 L0 _ _ _ (0) (v2) (0) g hI hF (lv_sub hl [4, 5, 6, 3, 2, 1, 0] rfl) ⟨by decide, by decide⟩ (by rw [show ((0 : Int32).toInt).toNat = 0 by decide]; show _ = q_al u_ * 1; omega) (by rw [show (0 : Int64).toInt = 0 by decide, show ((0 : Int32).toInt).toNat = 0 by decide]; rfl) (by omega) (show (6 - (0 : Int)) < (((6 - (0 : Int)).toNat + 1 : Nat) : Int) by omega)
set_option maxHeartbeats 4000000 in
set_option maxRecDepth 100000 in
theorem tX2_cutB (l : Launch) (E : tE) (X : tX) (A : Nat → Prop) (z : tZ) (I0 : tI) (L0 : tL) (a0 : Nat) (t_a0 : z.ty a0 = 3) (hcA : 0 ≤ (L0 a0 5).toInt ∧ (L0 a0 5).toInt ≤ 100000000000000000) (hcB : 0 < (L0 a0 6).toInt ∧ (L0 a0 6).toInt ≤ 100000000000000000) : Met l yX2_cutFraction wsX2_cutFraction ({ frames := 1, cells := 0, slots := 0, locals := 64 }) (va_Pc [.ref a0] (h_P E X A z I0 L0)) (va_Qv (fun (q1 : tI × tL) => h_I z q1.1 ∧ h_F [] z I0 q1.1 ∧ (∃ g : Int, 0 < g ∧ g.natAbs = Int.gcd (L0 a0 5).toInt (L0 a0 6).toInt ∧ g * (q1.2 a0 5).toInt = (L0 a0 5).toInt ∧ g * (q1.2 a0 6).toInt = (L0 a0 6).toInt)) (fun (q1 : tI × tL) t => h_B E A z q1.1 q1.2 t) A) 0 0 A := by
  refine Met.ofW (cc := cX2_cutFraction) (maxL := 8) (ret := none) (by decide) rfl ?_
  intro pr_ ev_ s m args below meth cd_ s₁ B hml hv
  obtain ⟨rfl, hE, hk, hX, hA, hK, hI, hR, hB0⟩ := hv
  have g : h_G h_so h_fk E A z I0 L0 s s.heap s.heap [] := ⟨hK, va_S.rf, hB0⟩
  have hF : h_F [] z I0 I0 := h_F.rf
  have hx := B.exec
  have hb := B.bytes
  have hr := B.returns
  have hts := atoms_spec (ws := wsX2_cutFraction) B.pre
  have hown : s.vm.findClass RX2 = some m.cls := findClass_of_methodNamed B.named
  have hlocks := B.notSynchronized
  have iX2 : ∀ w ∈ u_ws RX2 TX2 7, w ∈ wsX2_cutFraction := by decide +kernel
  have hl := lv_entry ([.ref a0]) (n := 8) (Nat.le_of_ble_eq_true rfl)
  rw [lg_entry_eq]
  generalize (lg_sl ([.ref a0]) ++ List.replicate (8 - (lg_sl ([.ref a0])).length) Slot.unset).toArray = ls at hl ⊢
  have hl : lv_has ls 8 [(0, .ref a0)] := hl
  refine lv_aload_n hx hb dX2_cutFraction_0 rfl (lv_at hl 0 rfl) ?_
  refine h_get (v := .long (L0 a0 5)) hx hb hts iX2 hown g t_a0 (by decide) so_3 rfl 5 (by decide) (hts (.fieldLink RX2 60 "CapLeague$Draft" "chanceAbove" "J") (by decide +kernel)) rfl dX2_cutFraction_1 rfl ?_
  refine lv_topl (fun v1 ev1 => ?_)
  refine lv_lstore_n (lv' := [(1, .long v1), (0, .ref a0)]) hx hb dX2_cutFraction_4 rfl hl (by decide) rfl (fun ls hl => ?_)
  refine lv_aload_n hx hb dX2_cutFraction_5 rfl (lv_at hl 1 rfl) ?_
  refine h_get (v := .long (L0 a0 6)) hx hb hts iX2 hown g t_a0 (by decide) so_3 rfl 6 (by decide) (hts (.fieldLink RX2 27 "CapLeague$Draft" "chanceBelow" "J") (by decide +kernel)) rfl dX2_cutFraction_6 rfl ?_
  refine lv_topl (fun v2 ev2 => ?_)
  refine lv_lstore_n (lv' := [(3, .long v2), (1, .long v1), (0, .ref a0)]) hx hb dX2_cutFraction_9 rfl hl (by decide) rfl (fun ls hl => ?_)
  refine lv_iconst (v := 0) hx hb dX2_cutFraction_10 (by decide) ?_
  refine lv_istore (lv' := [(5, .int 0), (3, .long v2), (1, .long v1), (0, .ref a0)]) hx hb dX2_cutFraction_11 hl (by decide) rfl (fun ls hl => ?_)
  have loop13_0 : ∀ (n : Nat) (I6 : tI) (L7 : tL) (H : Heap) (locs : List Loc) (ls : Array Slot) (v5 : Int32) (v3 v4 : Int64), h_G h_so h_fk E A z I6 L7 s s.heap H locs → h_I z I6 → h_F [] z I0 I6 → lv_has ls 8 [(0, .ref a0), (1, .long v3), (3, .long v4), (5, .int v5)] → (0 ≤ v5.toInt ∧ v5.toInt ≤ 200) → (L7 a0 5 = L0 a0 5 ∧ L7 a0 6 = L0 a0 6) → (Int.gcd v3.toInt v4.toInt = Int.gcd (L0 a0 5).toInt (L0 a0 6).toInt) → (q_eu 10000000000000000000000000000000000 (v5.toInt).toNat v3.toInt v4.toInt) → (200 - v5.toInt) < (n : Int) → W pr_ l ev_ (headSpec wsX2_cutFraction ({ frames := 1, cells := 0, slots := 0, locals := 64 })).room s m ([.ref a0] : List Value).toArray below meth cd_ H locs 0 0 (MQ below (va_Qv (fun (q1 : tI × tL) => h_I z q1.1 ∧ h_F [] z I0 q1.1 ∧ (∃ g : Int, 0 < g ∧ g.natAbs = Int.gcd (L0 a0 5).toInt (L0 a0 6).toInt ∧ g * (q1.2 a0 5).toInt = (L0 a0 5).toInt ∧ g * (q1.2 a0 6).toInt = (L0 a0 6).toInt)) (fun (q1 : tI × tL) t => h_B E A z q1.1 q1.2 t) A) ([.ref a0] : List Value).toArray s 0 0 A) (F0 m 13 ls []) := by
    intro n
    induction n with
    | zero => intro I6 L7 H locs ls v5 v3 v4 g hI hF hl jv5 hx13_0 hx13_1 hx13_2 hn; exact absurd hn (by omega)
    | succ n ih13 =>
      intro I6 L7 H locs ls v5 v3 v4 g hI hF hl jv5 hx13_0 hx13_1 hx13_2 hn
      refine lv_iload hx hb dX2_cutFraction_13 (lv_at hl 3 rfl) ?_
      refine lv_sipush (v := 200) hx hb dX2_cutFraction_15 (by decide) ?_
      refine lv_icmp_ge (tgt := 43) hx hb dX2_cutFraction_18 (by decide) (fun c8 => ?_) (fun c8 => ?_)
      · have ic8 := (xi_le c8 (by decide) rfl : 200 ≤ v5.toInt)
        have b0 : v4.toInt = 0 := by first | omega | exact q_eu200 hx13_2 (by omega)
        have gg : (v3.toInt).natAbs = Int.gcd (L0 a0 5).toInt (L0 a0 6).toInt := by rw [← hx13_1, b0]; exact (Int.gcd_zero_right _).symm
        have gp := q_gpos hx13_2.1 gg (by omega)
        refine lv_lload_n hx hb dX2_cutFraction_43 rfl (lv_at hl 1 rfl) ?_
        refine lv_lconst (v := 0) hx hb dX2_cutFraction_44 (by decide) ?_
        refine W.lcmp hx hb dX2_cutFraction_45 ?_
        refine lv_if_le (tgt := 69) hx hb dX2_cutFraction_46 (by decide) (fun c9 => ?_) (fun c9 => ?_)
        · have ic9 : v3.toInt ≤ (0 : Int64).toInt := xl_le c9
          rw [show (0 : Int64).toInt = 0 by decide] at ic9
          have hS := g.2.1
          exact W.vret hx hb hr (fun t ht hW => ⟨⟨(I6, L7), rfl, ⟨hI, hF, (by exfalso; omega)⟩, h_ret g ht⟩, hS.F ht⟩) hS.2.2 dX2_cutFraction_69
        · have ic9 : (0 : Int64).toInt < v3.toInt := xl_nle c9
          rw [show (0 : Int64).toInt = 0 by decide] at ic9
          refine lv_aload_n hx hb dX2_cutFraction_49 rfl (lv_at hl 0 rfl) ?_
          refine lv_dup hx hb dX2_cutFraction_50 rfl ?_
          refine h_get (v := .long (L7 a0 5)) hx hb hts iX2 hown g t_a0 (by decide) so_3 rfl 5 (by decide) (hts (.fieldLink RX2 60 "CapLeague$Draft" "chanceAbove" "J") (by decide +kernel)) rfl dX2_cutFraction_51 rfl ?_
          refine lv_topl (fun v10 ev10 => ?_)
          have mv10 : v10.toInt = (L0 a0 5).toInt := by rw [ev10, hx13_0.1]
          refine lv_lload_n hx hb dX2_cutFraction_54 rfl (lv_at hl 1 rfl) ?_
          refine lv_ldiv hx hb dX2_cutFraction_55 (h_lne0 (by omega)) ?_
          refine lv_topl (fun v11 ev11 => ?_)
          have dv11 := h_ldiv ev11 (by omega) (by omega) (by rw [mv10]; exact (h_gd gg).1)
          rw [mv10] at dv11
          refine h_putL (ty := .long) (v := v11) hx hb hts iX2 tyX2 tyX2_ok nmX2 hown g t_a0 (by decide) so_3 rfl 5 (by decide) rfl (hts (.fieldLink RX2 60 "CapLeague$Draft" "chanceAbove" "J") (by decide +kernel)) rfl rfl (by decide +kernel) rfl rfl dX2_cutFraction_56 (fun L12 H locs eL12 g => ?_)
          refine lv_aload_n hx hb dX2_cutFraction_59 rfl (lv_at hl 0 rfl) ?_
          refine lv_dup hx hb dX2_cutFraction_60 rfl ?_
          refine h_get (v := .long (L12 a0 6)) hx hb hts iX2 hown g t_a0 (by decide) so_3 rfl 6 (by decide) (hts (.fieldLink RX2 27 "CapLeague$Draft" "chanceBelow" "J") (by decide +kernel)) rfl dX2_cutFraction_61 rfl ?_
          refine lv_topl (fun v13 ev13 => ?_)
          have mv13 : v13.toInt = (L0 a0 6).toInt := by rw [ev13, eL12, h_up_at (by decide), hx13_0.2]
          refine lv_lload_n hx hb dX2_cutFraction_64 rfl (lv_at hl 1 rfl) ?_
          refine lv_ldiv hx hb dX2_cutFraction_65 (h_lne0 (by omega)) ?_
          refine lv_topl (fun v14 ev14 => ?_)
          have dv14 := h_ldiv ev14 (by omega) (by omega) (by rw [mv13]; exact (h_gd gg).2)
          rw [mv13] at dv14
          refine h_putL (ty := .long) (v := v14) hx hb hts iX2 tyX2 tyX2_ok nmX2 hown g t_a0 (by decide) so_3 rfl 6 (by decide) rfl (hts (.fieldLink RX2 27 "CapLeague$Draft" "chanceBelow" "J") (by decide +kernel)) rfl rfl (by decide +kernel) rfl rfl dX2_cutFraction_66 (fun L15 H locs eL15 g => ?_)
          have hS := g.2.1
          exact W.vret hx hb hr (fun t ht hW => ⟨⟨(I6, L15), rfl, ⟨hI, hF, (by have hl := h_upL eL12 eL15; show ∃ g : Int, 0 < g ∧ g.natAbs = Int.gcd (L0 a0 5).toInt (L0 a0 6).toInt ∧ g * (L15 a0 5).toInt = _ ∧ g * (L15 a0 6).toInt = _; rw [hl.1, hl.2]; exact ⟨v3.toInt, gp, gg, dv11, dv14⟩)⟩, h_ret g ht⟩, hS.F ht⟩) hS.2.2 dX2_cutFraction_69
      · have ic8 := (xi_nle c8 (by decide) rfl : v5.toInt < 200)
        refine lv_lload_n hx hb dX2_cutFraction_21 rfl (lv_at hl 2 rfl) ?_
        refine lv_lconst (v := 0) hx hb dX2_cutFraction_22 (by decide) ?_
        refine W.lcmp hx hb dX2_cutFraction_23 ?_
        refine lv_if_eq (tgt := 43) hx hb dX2_cutFraction_24 (by decide) (fun c16 => ?_) (fun c16 => ?_)
        · have ic16 : v4.toInt = (0 : Int64).toInt := xl_eq c16
          rw [show (0 : Int64).toInt = 0 by decide] at ic16
          have b0 : v4.toInt = 0 := by first | omega | exact q_eu200 hx13_2 (by omega)
          have gg : (v3.toInt).natAbs = Int.gcd (L0 a0 5).toInt (L0 a0 6).toInt := by rw [← hx13_1, b0]; exact (Int.gcd_zero_right _).symm
          have gp := q_gpos hx13_2.1 gg (by omega)
          refine lv_lload_n hx hb dX2_cutFraction_43 rfl (lv_at hl 1 rfl) ?_
          refine lv_lconst (v := 0) hx hb dX2_cutFraction_44 (by decide) ?_
          refine W.lcmp hx hb dX2_cutFraction_45 ?_
          refine lv_if_le (tgt := 69) hx hb dX2_cutFraction_46 (by decide) (fun c17 => ?_) (fun c17 => ?_)
          · have ic17 : v3.toInt ≤ (0 : Int64).toInt := xl_le c17
            rw [show (0 : Int64).toInt = 0 by decide] at ic17
            have hS := g.2.1
            exact W.vret hx hb hr (fun t ht hW => ⟨⟨(I6, L7), rfl, ⟨hI, hF, (by exfalso; omega)⟩, h_ret g ht⟩, hS.F ht⟩) hS.2.2 dX2_cutFraction_69
          · have ic17 : (0 : Int64).toInt < v3.toInt := xl_nle c17
            rw [show (0 : Int64).toInt = 0 by decide] at ic17
            refine lv_aload_n hx hb dX2_cutFraction_49 rfl (lv_at hl 0 rfl) ?_
            refine lv_dup hx hb dX2_cutFraction_50 rfl ?_
            refine h_get (v := .long (L7 a0 5)) hx hb hts iX2 hown g t_a0 (by decide) so_3 rfl 5 (by decide) (hts (.fieldLink RX2 60 "CapLeague$Draft" "chanceAbove" "J") (by decide +kernel)) rfl dX2_cutFraction_51 rfl ?_
            refine lv_topl (fun v18 ev18 => ?_)
            have mv18 : v18.toInt = (L0 a0 5).toInt := by rw [ev18, hx13_0.1]
            refine lv_lload_n hx hb dX2_cutFraction_54 rfl (lv_at hl 1 rfl) ?_
            refine lv_ldiv hx hb dX2_cutFraction_55 (h_lne0 (by omega)) ?_
            refine lv_topl (fun v19 ev19 => ?_)
            have dv19 := h_ldiv ev19 (by omega) (by omega) (by rw [mv18]; exact (h_gd gg).1)
            rw [mv18] at dv19
            refine h_putL (ty := .long) (v := v19) hx hb hts iX2 tyX2 tyX2_ok nmX2 hown g t_a0 (by decide) so_3 rfl 5 (by decide) rfl (hts (.fieldLink RX2 60 "CapLeague$Draft" "chanceAbove" "J") (by decide +kernel)) rfl rfl (by decide +kernel) rfl rfl dX2_cutFraction_56 (fun L20 H locs eL20 g => ?_)
            refine lv_aload_n hx hb dX2_cutFraction_59 rfl (lv_at hl 0 rfl) ?_
            refine lv_dup hx hb dX2_cutFraction_60 rfl ?_
            refine h_get (v := .long (L20 a0 6)) hx hb hts iX2 hown g t_a0 (by decide) so_3 rfl 6 (by decide) (hts (.fieldLink RX2 27 "CapLeague$Draft" "chanceBelow" "J") (by decide +kernel)) rfl dX2_cutFraction_61 rfl ?_
            refine lv_topl (fun v21 ev21 => ?_)
            have mv21 : v21.toInt = (L0 a0 6).toInt := by rw [ev21, eL20, h_up_at (by decide), hx13_0.2]
            refine lv_lload_n hx hb dX2_cutFraction_64 rfl (lv_at hl 1 rfl) ?_
            refine lv_ldiv hx hb dX2_cutFraction_65 (h_lne0 (by omega)) ?_
            refine lv_topl (fun v22 ev22 => ?_)
            have dv22 := h_ldiv ev22 (by omega) (by omega) (by rw [mv21]; exact (h_gd gg).2)
            rw [mv21] at dv22
            refine h_putL (ty := .long) (v := v22) hx hb hts iX2 tyX2 tyX2_ok nmX2 hown g t_a0 (by decide) so_3 rfl 6 (by decide) rfl (hts (.fieldLink RX2 27 "CapLeague$Draft" "chanceBelow" "J") (by decide +kernel)) rfl rfl (by decide +kernel) rfl rfl dX2_cutFraction_66 (fun L23 H locs eL23 g => ?_)
            have hS := g.2.1
            exact W.vret hx hb hr (fun t ht hW => ⟨⟨(I6, L23), rfl, ⟨hI, hF, (by have hl := h_upL eL20 eL23; show ∃ g : Int, 0 < g ∧ g.natAbs = Int.gcd (L0 a0 5).toInt (L0 a0 6).toInt ∧ g * (L23 a0 5).toInt = _ ∧ g * (L23 a0 6).toInt = _; rw [hl.1, hl.2]; exact ⟨v3.toInt, gp, gg, dv19, dv22⟩)⟩, h_ret g ht⟩, hS.F ht⟩) hS.2.2 dX2_cutFraction_69
        · have ic16 : v4.toInt ≠ (0 : Int64).toInt := xl_ne c16
          rw [show (0 : Int64).toInt = 0 by decide] at ic16
          refine lv_lload_n hx hb dX2_cutFraction_27 rfl (lv_at hl 1 rfl) ?_
          refine lv_lload_n hx hb dX2_cutFraction_28 rfl (lv_at hl 2 rfl) ?_
          refine lv_lrem hx hb dX2_cutFraction_29 (h_lne0 (by omega)) ?_
          refine lv_topl (fun v24 ev24 => ?_)
          obtain ⟨dv24, dmv24⟩ := h_lgcd ev24 (by omega)
          have dtv24 := (h_lrem ev24 (by omega)).trans (Int.tmod_eq_emod_of_nonneg hx13_2.1)
          refine lv_lstore (lv' := [(6, .long v24), (0, .ref a0), (1, .long v3), (3, .long v4), (5, .int v5)]) hx hb dX2_cutFraction_30 hl (by decide) rfl (fun ls hl => ?_)
          refine lv_lload_n hx hb dX2_cutFraction_32 rfl (lv_at hl 3 rfl) ?_
          refine lv_lstore_n (lv' := [(1, .long v4), (6, .long v24), (0, .ref a0), (3, .long v4), (5, .int v5)]) hx hb dX2_cutFraction_33 rfl hl (by decide) rfl (fun ls hl => ?_)
          refine lv_lload hx hb dX2_cutFraction_34 (lv_at hl 1 rfl) ?_
          refine lv_lstore_n (lv' := [(3, .long v24), (1, .long v4), (6, .long v24), (0, .ref a0), (5, .int v5)]) hx hb dX2_cutFraction_36 rfl hl (by decide) rfl (fun ls hl => ?_)
          obtain ⟨v25, ev25⟩ : ∃ z : Int32, z = v5 + 1 := ⟨_, rfl⟩
          have jv25 : v25.toInt = v5.toInt + 1 := xi_add ev25 rfl (by decide) (by omega) (by omega)
          refine lv_iinc (v := v25) (lv' := [(5, .int v25), (3, .long v24), (1, .long v4), (6, .long v24), (0, .ref a0)]) hx hb dX2_cutFraction_37 hl (k := 4) rfl (by rw [ev25]; rfl) (by decide) rfl (fun ls hl => ?_)
          refine lv_goto (tgt := 13) hx hb dX2_cutFraction_40 (by decide) ?_
          exact ih13 I6 L7 _ _ _ v25 (v4) (v24) g hI hF (lv_sub hl [4, 2, 1, 0] rfl) (by omega) (hx13_0) (dv24.trans hx13_1) (by rw [show (v25.toInt).toNat = (v5.toInt).toNat + 1 by omega, dtv24]; exact hx13_2.s (by omega)) (by omega)
  have kc26 : (0 : Int32).toInt = 0 := by decide
  exact loop13_0 _ I0 L0 _ _ _ (0) (v1) (v2) g hI hF (lv_sub hl [3, 2, 1, 0] rfl) ⟨by decide, by decide⟩ (⟨rfl, rfl⟩) (by rw [ev1, ev2]) (by rw [show ((0 : Int32).toInt).toNat = 0 by decide, ev1, ev2]; exact q_eu0 hcA.1 (by omega) hcB.2) (show (200 - (0 : Int)) < (((200 - (0 : Int)).toNat + 1 : Nat) : Int) by omega)

