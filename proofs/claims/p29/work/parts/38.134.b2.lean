set_option maxHeartbeats 4000000 in
set_option maxRecDepth 100000 in
theorem tX11_hunB (l : Launch) (E : tE) (X : tX) (A : Nat → Prop) (z : tZ) (I0 : tI) (L0 : tL) (x : Int32) (x_t : Int) (h_x : x.toInt = x_t) (y : Int32) (y_t : Int) (h_y : y.toInt = y_t) : Met l yX11_hundredths wsX11_hundredths ({ frames := 1, cells := 0, slots := 0, locals := 64 }) (va_Pc [.int x, .int y] (h_P E X A z I0 L0)) (vp_Si (fun r => (0 ≤ x_t → 0 ≤ y_t → x_t * y_t ≤ 214748364799 → r.toInt = x_t * y_t / 100))) 0 0 (fun _ => False) := by
  refine Met.ofW (cc := cX11_hundredths) (maxL := 2) (ret := (some .int)) (by decide) rfl ?_
  intro pr_ ev_ s m args below meth cd_ s₁ B hml hv
  obtain ⟨rfl, hE, hk, hX, hA, hK, hI, hR, hB0⟩ := hv
  have g : h_G h_so h_fk E A z I0 L0 s s.heap s.heap [] := ⟨hK, va_S.rf, hB0⟩
  have hx := B.exec
  have hb := B.bytes
  have hr := B.returns
  have hts := atoms_spec (ws := wsX11_hundredths) B.pre
  have hown : s.vm.findClass RX11 = some m.cls := findClass_of_methodNamed B.named
  have hlocks := B.notSynchronized
  have hl := lv_entry ([.int x, .int y]) (n := 2) (Nat.le_of_ble_eq_true rfl)
  rw [lg_entry_eq]
  generalize (lg_sl ([.int x, .int y]) ++ List.replicate (2 - (lg_sl ([.int x, .int y])).length) Slot.unset).toArray = ls at hl ⊢
  have hl : lv_has ls 2 [(0, .int x), (1, .int y)] := hl
  have b_x : -2147483648 ≤ x_t ∧ x_t ≤ 2147483647 := h_x ▸ ⟨xi_lo x, Int.le_of_lt_add_one (xi_hi x)⟩
  have b_y : -2147483648 ≤ y_t ∧ y_t ≤ 2147483647 := h_y ▸ ⟨xi_lo y, Int.le_of_lt_add_one (xi_hi y)⟩
  refine lv_iload_n hx hb dX11_hundredths_0 rfl (lv_at hl 0 rfl) ?_
  refine lv_i2l hx hb dX11_hundredths_1 rfl ?_
  refine lv_topl (fun v1 ev1 => ?_)
  have jv1 : v1.toInt = x_t := by rw [ev1, xi_64]; exact h_x
  refine lv_iload_n hx hb dX11_hundredths_2 rfl (lv_at hl 1 rfl) ?_
  refine lv_i2l hx hb dX11_hundredths_3 rfl ?_
  refine lv_topl (fun v2 ev2 => ?_)
  have jv2 : v2.toInt = y_t := by rw [ev2, xi_64]; exact h_y
  refine lv_lmul hx hb dX11_hundredths_4 ?_
  refine lv_topl (fun v3 ev3 => ?_)
  refine lv_ldc2 (v := 100) hx hb hown (hts (.constantLong RX11 305 (100)) (by decide +kernel)) dX11_hundredths_5 ?_
  refine lv_ldiv hx hb dX11_hundredths_8 (by decide) ?_
  refine lv_topl (fun v4 ev4 => ?_)
  refine lv_l2i hx hb dX11_hundredths_9 rfl ?_
  refine lv_topi (fun v5 ev5 => ?_)
  have jv5 : -2147483648 ≤ v5.toInt ∧ v5.toInt ≤ 2147483647 := ⟨xi_lo _, Int.le_of_lt_add_one (xi_hi _)⟩
  exact W.iret (v := v5) hx hb hr (fun t ht hW => ⟨v5, rfl, (fun h1 h2 h3 => q_hun_of jv1 jv2 ev3 ev4 ev5 h1 h2 h3), ht⟩) (fun _ h => by cases h) dX11_hundredths_10
set_option maxHeartbeats 4000000 in
set_option maxRecDepth 100000 in
theorem tX0_countOfB (l : Launch) (E : tE) (X : tX) (A : Nat → Prop) (z : tZ) (I0 : tI) (L0 : tL) (a0 : Nat) (t_a0 : z.ty a0 = 1) (p0 : Nat) (t_p0 : z.ty p0 = 7) (y : Int32) (y_t : Int) (h_y : y.toInt = y_t) (u_ : Nat → Int) (hcl : ∀ b : Nat, h_of (z.R (h_ad z (h_ad z a0 0) 1)) (h_ad z (h_ad z a0 0) 0) (I0 a0 3).toInt b → h_lw I0 b (h_ad z b 0) (h_ad z b 1) u_) (hob : q_okb u_) : Met l yX0_countOf wsX0_countOf ({ frames := 3, cells := 0, slots := 0, locals := 192 }) (va_Pc [.ref a0, .ref p0, .int y] (h_P E X A z I0 L0)) (vp_Si (fun r => (r = q_cnt (I0 p0 0) (I0 p0 1) (I0 p0 2) (I0 p0 3) (I0 p0 4) (I0 p0 6) (I0 p0 7) y (I0 a0 3) (u_ 6)))) 0 0 (fun _ => False) := by
  refine Met.ofW (cc := cX0_countOf) (maxL := 5) (ret := (some .int)) (by decide) rfl ?_
  intro pr_ ev_ s m args below meth cd_ s₁ B hml hv
  obtain ⟨rfl, hE, hk, hX, hA, hK, hI, hR, hB0⟩ := hv
  have g : h_G h_so h_fk E A z I0 L0 s s.heap s.heap [] := ⟨hK, va_S.rf, hB0⟩
  have hx := B.exec
  have hb := B.bytes
  have hr := B.returns
  have hts := atoms_spec (ws := wsX0_countOf) B.pre
  have hown : s.vm.findClass RX0 = some m.cls := findClass_of_methodNamed B.named
  have hlocks := B.notSynchronized
  have iX6 : ∀ w ∈ u_ws RX6 TX6 9, w ∈ wsX0_countOf := by decide +kernel
  have iX0 : ∀ w ∈ u_ws RX0 TX0 9, w ∈ wsX0_countOf := by decide +kernel
  have hl := lv_entry ([.ref a0, .ref p0, .int y]) (n := 5) (Nat.le_of_ble_eq_true rfl)
  rw [lg_entry_eq]
  generalize (lg_sl ([.ref a0, .ref p0, .int y]) ++ List.replicate (5 - (lg_sl ([.ref a0, .ref p0, .int y])).length) Slot.unset).toArray = ls at hl ⊢
  have hl : lv_has ls 5 [(0, .ref a0), (1, .ref p0), (2, .int y)] := hl
  have b_y : -2147483648 ≤ y_t ∧ y_t ≤ 2147483647 := h_y ▸ ⟨xi_lo y, Int.le_of_lt_add_one (xi_hi y)⟩
  obtain ⟨lb, rlb, tlb⟩ := hR.at a0 0 t_a0 (rfl : h_rs 1 0 = some (4, false)) (by decide)
  have alb : h_ad z a0 0 = lb := h_ad.at rlb
  obtain ⟨un, run, tun⟩ := hR.at lb 0 tlb (rfl : h_rs 4 0 = some (6, false)) (by decide)
  have aun : h_ad z lb 0 = un := h_ad.at run
  obtain ⟨tx, rtx, ttx⟩ := hR.at lb 1 tlb (rfl : h_rs 4 1 = some (401, false)) (by decide)
  have atx : h_ad z lb 1 = tx := h_ad.at rtx
  obtain ⟨f0_3, ef0_3⟩ : ∃ v : Int32, v = I0 a0 3 := ⟨_, rfl⟩
  have qf0_3 : (I0 a0 3).toInt = f0_3.toInt := congrArg Int32.toInt ef0_3.symm
  have jf0_3 := hI.rd a0 3 t_a0 ef0_3 (rfl : h_bd 1 3 = (0, 9))
  rw [alb, aun, atx, qf0_3] at hcl
  have tp0 := t_p0
  obtain ⟨g_0, eg_0⟩ : ∃ v : Int32, v = I0 p0 0 := ⟨_, rfl⟩
  have qg_0 : (I0 p0 0).toInt = g_0.toInt := congrArg Int32.toInt eg_0.symm
  have jg_0 := hI.rd p0 0 tp0 eg_0 (rfl : h_bd 7 0 = ((-1), 7))
  obtain ⟨g_1, eg_1⟩ : ∃ v : Int32, v = I0 p0 1 := ⟨_, rfl⟩
  have qg_1 : (I0 p0 1).toInt = g_1.toInt := congrArg Int32.toInt eg_1.symm
  have jg_1 := hI.rd p0 1 tp0 eg_1 (rfl : h_bd 7 1 = ((-2147483648), 2147483647))
  obtain ⟨g_2, eg_2⟩ : ∃ v : Int32, v = I0 p0 2 := ⟨_, rfl⟩
  have qg_2 : (I0 p0 2).toInt = g_2.toInt := congrArg Int32.toInt eg_2.symm
  have jg_2 := hI.rd p0 2 tp0 eg_2 (rfl : h_bd 7 2 = ((-2147483648), 2147483647))
  obtain ⟨g_3, eg_3⟩ : ∃ v : Int32, v = I0 p0 3 := ⟨_, rfl⟩
  have qg_3 : (I0 p0 3).toInt = g_3.toInt := congrArg Int32.toInt eg_3.symm
  have jg_3 := hI.rd p0 3 tp0 eg_3 (rfl : h_bd 7 3 = ((-2147483648), 2147483647))
  obtain ⟨g_4, eg_4⟩ : ∃ v : Int32, v = I0 p0 4 := ⟨_, rfl⟩
  have qg_4 : (I0 p0 4).toInt = g_4.toInt := congrArg Int32.toInt eg_4.symm
  have jg_4 := hI.rd p0 4 tp0 eg_4 (rfl : h_bd 7 4 = ((-2147483648), 2147483647))
  obtain ⟨g_5, eg_5⟩ : ∃ v : Int32, v = I0 p0 5 := ⟨_, rfl⟩
  have qg_5 : (I0 p0 5).toInt = g_5.toInt := congrArg Int32.toInt eg_5.symm
  have jg_5 := hI.rd p0 5 tp0 eg_5 (rfl : h_bd 7 5 = ((-2147483648), 2147483647))
  obtain ⟨g_6, eg_6⟩ : ∃ v : Int32, v = I0 p0 6 := ⟨_, rfl⟩
  have qg_6 : (I0 p0 6).toInt = g_6.toInt := congrArg Int32.toInt eg_6.symm
  have jg_6 := hI.rd p0 6 tp0 eg_6 (rfl : h_bd 7 6 = (0, 1))
  obtain ⟨g_7, eg_7⟩ : ∃ v : Int32, v = I0 p0 7 := ⟨_, rfl⟩
  have qg_7 : (I0 p0 7).toInt = g_7.toInt := congrArg Int32.toInt eg_7.symm
  have jg_7 := hI.rd p0 7 tp0 eg_7 (rfl : h_bd 7 7 = (0, 1))
  have qy : y.toInt = y_t := h_y
  refine lv_aload_n hx hb dX0_countOf_0 rfl (lv_at hl 1 rfl) ?_
  refine lv_iload_n hx hb dX0_countOf_1 rfl (lv_at hl 2 rfl) ?_
  refine vp_callSi (W.runV (As := [.int y]) (rest := []) ⟨hx, hb, hml, hown, hts⟩ (tX6_isBoundB l E X A z I0 L0 p0 t_p0 y (y_t) h_y) (cwV 1 hts gX0_countOf_X6_isBoundIn rfl rfl rfl (by decide +kernel) ⟨Nat.le_of_ble_eq_true rfl, Nat.le_of_ble_eq_true rfl⟩) ⟨h_blind _ _ _ _ _ _ _, h_recv g t_p0 (by decide) so_7 (q := (RX6, TX6, 9)) rfl, h_pre _ hE hk hX hA hI hR g⟩ rfl rfl hl.1 rfl (lv_room (Nat.le_of_ble_eq_true rfl)) dX0_countOf_2 ⟨Nat.le_of_ble_eq_true rfl, Nat.le_of_ble_eq_true rfl⟩) (fun rh1 h1 => ?_)
  obtain ⟨h1, h1p0⟩ := h1
  rw [← eg_0, ← eg_1, ← eg_2, ← eg_6] at h1p0
  refine lv_if_ne (tgt := 10) hx hb dX0_countOf_5 (by decide) (fun c2 => ?_) (fun c2 => ?_)
  · have ic2 := (xi_ne c2 rfl (by decide) : rh1.toInt ≠ 0)
    refine lv_aload_n hx hb dX0_countOf_10 rfl (lv_at hl 1 rfl) ?_
    refine lv_iload_n hx hb dX0_countOf_11 rfl (lv_at hl 2 rfl) ?_
    refine vp_callSi (W.runV (As := [.int y]) (rest := []) ⟨hx, hb, hml, hown, hts⟩ (tX6_payInB l E X A z I0 L0 p0 t_p0 y (y_t) h_y) (cwV 1 hts gX0_countOf_X6_payIn rfl rfl rfl (by decide +kernel) ⟨Nat.le_of_ble_eq_true rfl, Nat.le_of_ble_eq_true rfl⟩) ⟨h_blind _ _ _ _ _ _ _, h_recv g t_p0 (by decide) so_7 (q := (RX6, TX6, 9)) rfl, h_pre _ hE hk hX hA hI hR g⟩ rfl rfl hl.1 rfl (lv_room (Nat.le_of_ble_eq_true rfl)) dX0_countOf_12 ⟨Nat.le_of_ble_eq_true rfl, Nat.le_of_ble_eq_true rfl⟩) (fun rh3 h3 => ?_)
    have h3p0 := h3
    have jrh3 : -2147483648 ≤ rh3.toInt ∧ rh3.toInt ≤ 2147483647 := ⟨xi_lo _, Int.le_of_lt_add_one (xi_hi _)⟩
    rw [← eg_0, ← eg_1, ← eg_2, ← eg_3, ← eg_4] at h3p0
    have py0 : 0 ≤ rh3.toInt := by rw [h3p0]; exact q_pay_0 _ _ _ _ _ _
    refine lv_istore_n (lv' := [(3, .int rh3), (0, .ref a0), (1, .ref p0), (2, .int y)]) hx hb dX0_countOf_15 rfl hl (by decide) rfl (fun ls hl => ?_)
    refine lv_aload_n hx hb dX0_countOf_16 rfl (lv_at hl 2 rfl) ?_
    refine h_get (v := .int g_7) hx hb hts iX6 hown g t_p0 (by decide) so_7 rfl 7 (by decide) (hts (.fieldLink RX0 62 "CapLeague$Player" "isHurt" "Z") (by decide +kernel)) rfl dX0_countOf_17 (congrArg Value.int (eg_7.symm)) ?_
    refine lv_if_eq (tgt := 35) hx hb dX0_countOf_20 (by decide) (fun c4 => ?_) (fun c4 => ?_)
    · have ic4 := (xi_eq c4 rfl (by decide) : g_7.toInt = 0)
      refine lv_iconst (v := 0) hx hb dX0_countOf_35 (by decide) ?_
      refine lv_istore (lv' := [(4, .int 0), (3, .int rh3), (0, .ref a0), (1, .ref p0), (2, .int y)]) hx hb dX0_countOf_36 hl (by decide) rfl (fun ls hl => ?_)
      refine lv_iload hx hb dX0_countOf_38 (lv_at hl 0 rfl) ?_
      refine lv_if_eq (tgt := 61) hx hb dX0_countOf_40 (by decide) (fun _ => ?_) (fun h => absurd (by decide) h)
      refine lv_iload_n hx hb dX0_countOf_61 rfl (lv_at hl 1 rfl) ?_
      exact W.iret (v := rh3) hx hb hr (fun t ht hW => ⟨rh3, rfl, (by rw [← ef0_3, ← eg_0, ← eg_1, ← eg_2, ← eg_3, ← eg_4, ← eg_6, ← eg_7]; unfold q_cnt; rw [if_pos (by rcases h1p0 with q | q; exact q.2; exact absurd q.1 (by omega)), if_neg (fun q => absurd q (by omega))]; exact h3p0), ht⟩) (fun _ h => by cases h) dX0_countOf_62
    · have ic4 := (xi_ne c4 rfl (by decide) : g_7.toInt ≠ 0)
      refine lv_iload_n hx hb dX0_countOf_23 rfl (lv_at hl 3 rfl) ?_
      refine lv_aload_n hx hb dX0_countOf_24 rfl (lv_at hl 1 rfl) ?_
      refine h_get (v := .int f0_3) hx hb hts iX0 hown g t_a0 (by decide) so_1 rfl 3 (by decide) (hts (.fieldLink RX0 37 "CapLeague$Books" "clock" "I") (by decide +kernel)) rfl dX0_countOf_25 (congrArg Value.int (ef0_3.symm)) ?_
      refine lv_icmp_ne (tgt := 35) hx hb dX0_countOf_28 (by decide) (fun c6 => ?_) (fun c6 => ?_)
      · have ic6 := (xi_ne c6 h_y rfl : y_t ≠ f0_3.toInt)
        refine lv_iconst (v := 0) hx hb dX0_countOf_35 (by decide) ?_
        refine lv_istore (lv' := [(4, .int 0), (3, .int rh3), (0, .ref a0), (1, .ref p0), (2, .int y)]) hx hb dX0_countOf_36 hl (by decide) rfl (fun ls hl => ?_)
        refine lv_iload hx hb dX0_countOf_38 (lv_at hl 0 rfl) ?_
        refine lv_if_eq (tgt := 61) hx hb dX0_countOf_40 (by decide) (fun _ => ?_) (fun h => absurd (by decide) h)
        refine lv_iload_n hx hb dX0_countOf_61 rfl (lv_at hl 1 rfl) ?_
        exact W.iret (v := rh3) hx hb hr (fun t ht hW => ⟨rh3, rfl, (by rw [← ef0_3, ← eg_0, ← eg_1, ← eg_2, ← eg_3, ← eg_4, ← eg_6, ← eg_7]; unfold q_cnt; rw [if_pos (by rcases h1p0 with q | q; exact q.2; exact absurd q.1 (by omega)), if_neg (fun q => absurd q (by omega))]; exact h3p0), ht⟩) (fun _ h => by cases h) dX0_countOf_62
      · have ic6 := (xi_eq c6 h_y rfl : y_t = f0_3.toInt)
        refine lv_iconst (v := 1) hx hb dX0_countOf_31 (by decide) ?_
        refine lv_goto (tgt := 36) hx hb dX0_countOf_32 (by decide) ?_
        refine lv_istore (lv' := [(4, .int 1), (3, .int rh3), (0, .ref a0), (1, .ref p0), (2, .int y)]) hx hb dX0_countOf_36 hl (by decide) rfl (fun ls hl => ?_)
        refine lv_iload hx hb dX0_countOf_38 (lv_at hl 0 rfl) ?_
        refine lv_if_eq (tgt := 61) hx hb dX0_countOf_40 (by decide) (fun h => absurd h (by decide)) (fun _ => ?_)
        refine lv_iload_n hx hb dX0_countOf_43 rfl (lv_at hl 1 rfl) ?_
        refine lv_iload_n hx hb dX0_countOf_44 rfl (lv_at hl 1 rfl) ?_
        refine lv_aload_n hx hb dX0_countOf_45 rfl (lv_at hl 2 rfl) ?_
        refine va_csq (W.runV (As := []) (rest := [.int rh3, .int rh3]) ⟨hx, hb, hml, hown, hts⟩ (tX0_lawsNowF l E X A z I0 L0 a0 t_a0) (cwV 0 hts gX0_countOf_X0_lawsNow rfl rfl rfl (by decide +kernel) ⟨Nat.le_of_ble_eq_true rfl, Nat.le_of_ble_eq_true rfl⟩) ⟨h_blind _ _ _ _ _ _ _, h_recv g t_a0 (by decide) so_1 (q := (RX0, TX0, 9)) rfl, h_pre _ hE hk hX hA hI hR g⟩ rfl rfl hl.1 rfl (lv_room (Nat.le_of_ble_eq_true rfl)) dX0_countOf_46 ⟨Nat.le_of_ble_eq_true rfl, Nat.le_of_ble_eq_true rfl⟩) (fun rh9 h9 => ?_)
        obtain ⟨h9, h9p0⟩ := h9
        obtain ⟨rh9, rfl, trh9⟩ := h9
        refine xw_v (v := .ref rh9) rfl ?_
        rw [alb, aun, atx, qf0_3] at h9p0
        obtain ⟨bb, ebb, hof⟩ := h9p0
        cases ebb
        have hlb := hcl _ hof
        refine lv_bipush (v := 6) hx hb dX0_countOf_49 (by decide) ?_
        refine vp_callSi (W.runV (As := [.int 6]) (rest := [.int rh3, .int rh3]) ⟨hx, hb, hml, hown, hts⟩ (tX5_numberF l E X A z I0 L0 rh9 trh9 6 (6) (by decide) (u_) (hlb)) (cwV 1 hts gX0_countOf_X5_number rfl rfl rfl (by decide +kernel) ⟨Nat.le_of_ble_eq_true rfl, Nat.le_of_ble_eq_true rfl⟩) ⟨h_blind _ _ _ _ _ _ _, h_recv g trh9 (by decide) so_6 (q := (RX5, TX5, 3)) rfl, h_pre _ hE hk hX hA hI hR g⟩ rfl rfl hl.1 rfl (lv_room (Nat.le_of_ble_eq_true rfl)) dX0_countOf_51 ⟨Nat.le_of_ble_eq_true rfl, Nat.le_of_ble_eq_true rfl⟩) (fun rh10 h10 => ?_)
        have h10p0 := h10
        have jrh10 : -2147483648 ≤ rh10.toInt ∧ rh10.toInt ≤ 2147483647 := ⟨xi_lo _, Int.le_of_lt_add_one (xi_hi _)⟩
        refine vp_callSi (xr_of (va_runSN (As := [.int rh3, .int rh10]) (rest := [.int rh3]) ⟨hx, hb, hml, hown, hts⟩ (tX11_hunB l E X A z I0 L0 rh3 (rh3.toInt) rfl rh10 (rh10.toInt) rfl) (⟨va_cnB 2 hts gX0_countOf_X11_hundredths_n75 rfl rfl rfl (hE.link 9 rfl) (hts (.initialized RX11) (by decide +kernel)) (by decide +kernel) ⟨Nat.le_of_ble_eq_true rfl, Nat.le_of_ble_eq_true rfl⟩, hts (.static yX11_hundredths) (by decide +kernel), trivial⟩) ⟨h_blind _ _ _ _ _ _ _, h_pre _ hE hk hX hA hI hR g⟩ rfl rfl hl.1 rfl (lv_room (Nat.le_of_ble_eq_true rfl)) dX0_countOf_54 ⟨Nat.le_of_ble_eq_true rfl, Nat.le_of_ble_eq_true rfl⟩)) (fun rh11 h11 => ?_)
        have h11p0 := h11
        have jrh11 : -2147483648 ≤ rh11.toInt ∧ rh11.toInt ≤ 2147483647 := ⟨xi_lo _, Int.le_of_lt_add_one (xi_hi _)⟩
        refine lv_isub hx hb dX0_countOf_57 ?_
        refine lv_topi (fun v12 ev12 => ?_)
        have jv12 : -2147483648 ≤ v12.toInt ∧ v12.toInt ≤ 2147483647 := ⟨xi_lo _, Int.le_of_lt_add_one (xi_hi _)⟩
        refine lv_goto (tgt := 62) hx hb dX0_countOf_58 (by decide) ?_
        exact W.iret (v := v12) hx hb hr (fun t ht hW => ⟨v12, rfl, (by rw [← ef0_3, ← eg_0, ← eg_1, ← eg_2, ← eg_3, ← eg_4, ← eg_6, ← eg_7]; unfold q_cnt; have hb6 := hob.2.2.2.2.2.2.1; rw [q_num_at (u := u_) (x := 6) (n := 6) rfl (by decide)] at h10p0; have hm := q_mulb py0 (show rh3.toInt ≤ 2147483647 by omega) hb6.1 hb6.2; have h9 := q_ofi (h11p0 py0 (by omega) (by rw [h10p0]; omega)); rw [h10p0] at h9; rw [if_pos (by rcases h1p0 with q | q; exact q.2; exact absurd q.1 (by omega)), if_pos ⟨by omega, by omega⟩, ev12, h9, ← h3p0]; rfl), ht⟩) (fun _ h => by cases h) dX0_countOf_62
  · have ic2 := (xi_eq c2 rfl (by decide) : rh1.toInt = 0)
    refine lv_iconst (v := 0) hx hb dX0_countOf_8 (by decide) ?_
    exact W.iret (v := 0) hx hb hr (fun t ht hW => ⟨0, rfl, (by rw [← ef0_3, ← eg_0, ← eg_1, ← eg_2, ← eg_3, ← eg_4, ← eg_6, ← eg_7]; unfold q_cnt; rw [if_neg (by rcases h1p0 with q | q; exact absurd q.1 (by omega); exact q.2)]), ht⟩) (fun _ h => by cases h) dX0_countOf_9

