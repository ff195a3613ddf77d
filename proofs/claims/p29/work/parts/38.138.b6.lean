set_option maxHeartbeats 4000000 in
set_option maxRecDepth 100000 in
theorem tX0_aboveB (l : Launch) (E : tE) (X : tX) (A : Nat → Prop) (z : tZ) (I0 : tI) (L0 : tL) (a0 : Nat) (t_a0 : z.ty a0 = 1) (c : Int32) (c_t : Int) (h_c : c.toInt = c_t) (b_c : 0 ≤ c_t ∧ c_t ≤ 7) (x : Int32) (x_t : Int) (h_x : x.toInt = x_t) (u_ : Nat → Int) (hcl : ∀ b : Nat, h_of (z.R (h_ad z (h_ad z a0 0) 1)) (h_ad z (h_ad z a0 0) 0) (I0 a0 3).toInt b → h_lw I0 b (h_ad z b 0) (h_ad z b 1) u_) (hob : q_okb u_) (hnn : ∀ p : Nat, (p : Int) < (I0 a0 2).toInt → z.R (h_ad z a0 1) p ≠ none) : Met l yX0_isAboveCap wsX0_isAboveCap ({ frames := 5, cells := 0, slots := 0, locals := 320 }) (va_Pc [.ref a0, .int c, .int x] (h_P E X A z I0 L0)) (vp_Si (fun r => (0 ≤ r.toInt ∧ r.toInt ≤ 1) ∧ ((r.toInt = 1 ∧ u_ 0 < (c_cnt z I0 a0 c_t (I0 a0 3) (u_ 6) + x).toInt) ∨ (r.toInt = 0 ∧ (c_cnt z I0 a0 c_t (I0 a0 3) (u_ 6) + x).toInt ≤ u_ 0)))) 0 0 (fun _ => False) := by
  refine Met.ofW (cc := cX0_isAboveCap) (maxL := 3) (ret := (some .boolean)) (by decide) rfl ?_
  intro pr_ ev_ s m args below meth cd_ s₁ B hml hv
  obtain ⟨rfl, hE, hk, hX, hA, hK, hI, hR, hB0⟩ := hv
  have g : h_G h_so h_fk E A z I0 L0 s s.heap s.heap [] := ⟨hK, va_S.rf, hB0⟩
  have hx := B.exec
  have hb := B.bytes
  have hr := B.returns
  have hts := atoms_spec (ws := wsX0_isAboveCap) B.pre
  have hown : s.vm.findClass RX0 = some m.cls := findClass_of_methodNamed B.named
  have hlocks := B.notSynchronized
  have iX0 : ∀ w ∈ u_ws RX0 TX0 9, w ∈ wsX0_isAboveCap := by decide +kernel
  have hl := lv_entry ([.ref a0, .int c, .int x]) (n := 3) (Nat.le_of_ble_eq_true rfl)
  rw [lg_entry_eq]
  generalize (lg_sl ([.ref a0, .int c, .int x]) ++ List.replicate (3 - (lg_sl ([.ref a0, .int c, .int x])).length) Slot.unset).toArray = ls at hl ⊢
  have hl : lv_has ls 3 [(0, .ref a0), (1, .int c), (2, .int x)] := hl
  have b_x : -2147483648 ≤ x_t ∧ x_t ≤ 2147483647 := h_x ▸ ⟨xi_lo x, Int.le_of_lt_add_one (xi_hi x)⟩
  obtain ⟨lb, rlb, tlb⟩ := hR.at a0 0 t_a0 (rfl : h_rs 1 0 = some (4, false)) (by decide)
  have alb : h_ad z a0 0 = lb := h_ad.at rlb
  obtain ⟨un, run, tun⟩ := hR.at lb 0 tlb (rfl : h_rs 4 0 = some (6, false)) (by decide)
  have aun : h_ad z lb 0 = un := h_ad.at run
  obtain ⟨tx, rtx, ttx⟩ := hR.at lb 1 tlb (rfl : h_rs 4 1 = some (401, false)) (by decide)
  have atx : h_ad z lb 1 = tx := h_ad.at rtx
  obtain ⟨su, rsu, tsu⟩ := hR.at a0 5 t_a0 (rfl : h_rs 1 5 = some (105, false)) (by decide)
  have asu : h_ad z a0 5 = su := h_ad.at rsu
  obtain ⟨f0_3, ef0_3⟩ : ∃ v : Int32, v = I0 a0 3 := ⟨_, rfl⟩
  have qf0_3 : (I0 a0 3).toInt = f0_3.toInt := congrArg Int32.toInt ef0_3.symm
  have jf0_3 := hI.rd a0 3 t_a0 ef0_3 (rfl : h_bd 1 3 = (0, 9))
  have hcl0 := hcl
  rw [alb, aun, atx, qf0_3] at hcl
  refine lv_aload_n hx hb dX0_isAboveCap_0 rfl (lv_at hl 0 rfl) ?_
  refine lv_iload_n hx hb dX0_isAboveCap_1 rfl (lv_at hl 1 rfl) ?_
  refine lv_aload_n hx hb dX0_isAboveCap_2 rfl (lv_at hl 0 rfl) ?_
  refine h_get (v := .int f0_3) hx hb hts iX0 hown g t_a0 (by decide) so_1 rfl 3 (by decide) (hts (.fieldLink RX0 37 "CapLeague$Books" "clock" "I") (by decide +kernel)) rfl dX0_isAboveCap_3 (congrArg Value.int (ef0_3.symm)) ?_
  refine vp_callSi (W.runV (As := [.int c, .int f0_3]) (rest := []) ⟨hx, hb, hml, hown, hts⟩ (tX0_countsB l E X A z I0 L0 a0 t_a0 c (c_t) h_c (by omega) f0_3 (f0_3.toInt) rfl (by omega) (u_) (hcl0) (hob) (hnn)) (cwV 2 hts gX0_isAboveCap_X0_counts rfl rfl rfl (by decide +kernel) ⟨Nat.le_of_ble_eq_true rfl, Nat.le_of_ble_eq_true rfl⟩) ⟨h_blind _ _ _ _ _ _ _, h_recv g t_a0 (by decide) so_1 (q := (RX0, TX0, 9)) rfl, h_pre _ hE hk hX hA hI hR g⟩ rfl rfl hl.1 rfl (lv_room (Nat.le_of_ble_eq_true rfl)) dX0_isAboveCap_6 ⟨Nat.le_of_ble_eq_true rfl, Nat.le_of_ble_eq_true rfl⟩) (fun rh1 h1 => ?_)
  have h1p0 := h1
  have jrh1 : -2147483648 ≤ rh1.toInt ∧ rh1.toInt ≤ 2147483647 := ⟨xi_lo _, Int.le_of_lt_add_one (xi_hi _)⟩
  rw [ef0_3] at h1p0
  refine lv_iload_n hx hb dX0_isAboveCap_9 rfl (lv_at hl 2 rfl) ?_
  refine lv_iadd hx hb dX0_isAboveCap_10 ?_
  refine lv_topi (fun v2 ev2 => ?_)
  have jv2 : -2147483648 ≤ v2.toInt ∧ v2.toInt ≤ 2147483647 := ⟨xi_lo _, Int.le_of_lt_add_one (xi_hi _)⟩
  refine lv_aload_n hx hb dX0_isAboveCap_11 rfl (lv_at hl 0 rfl) ?_
  refine va_csq (W.runV (As := []) (rest := [.int v2]) ⟨hx, hb, hml, hown, hts⟩ (tX0_lawsNowF l E X A z I0 L0 a0 t_a0) (cwV 0 hts gX0_isAboveCap_X0_lawsNow rfl rfl rfl (by decide +kernel) ⟨Nat.le_of_ble_eq_true rfl, Nat.le_of_ble_eq_true rfl⟩) ⟨h_blind _ _ _ _ _ _ _, h_recv g t_a0 (by decide) so_1 (q := (RX0, TX0, 9)) rfl, h_pre _ hE hk hX hA hI hR g⟩ rfl rfl hl.1 rfl (lv_room (Nat.le_of_ble_eq_true rfl)) dX0_isAboveCap_12 ⟨Nat.le_of_ble_eq_true rfl, Nat.le_of_ble_eq_true rfl⟩) (fun rh3 h3 => ?_)
  obtain ⟨h3, h3p0⟩ := h3
  obtain ⟨rh3, rfl, trh3⟩ := h3
  refine xw_v (v := .ref rh3) rfl ?_
  rw [alb, aun, atx, qf0_3] at h3p0
  obtain ⟨bb, ebb, hof⟩ := h3p0
  cases ebb
  have hlb := hcl _ hof
  refine lv_iconst (v := 0) hx hb dX0_isAboveCap_15 (by decide) ?_
  refine vp_callSi (W.runV (As := [.int 0]) (rest := [.int v2]) ⟨hx, hb, hml, hown, hts⟩ (tX5_numberF l E X A z I0 L0 rh3 trh3 0 (0) (by decide) (u_) (hlb)) (cwV 1 hts gX0_isAboveCap_X5_number rfl rfl rfl (by decide +kernel) ⟨Nat.le_of_ble_eq_true rfl, Nat.le_of_ble_eq_true rfl⟩) ⟨h_blind _ _ _ _ _ _ _, h_recv g trh3 (by decide) so_6 (q := (RX5, TX5, 3)) rfl, h_pre _ hE hk hX hA hI hR g⟩ rfl rfl hl.1 rfl (lv_room (Nat.le_of_ble_eq_true rfl)) dX0_isAboveCap_16 ⟨Nat.le_of_ble_eq_true rfl, Nat.le_of_ble_eq_true rfl⟩) (fun rh4 h4 => ?_)
  have h4p0 := h4
  have jrh4 : -2147483648 ≤ rh4.toInt ∧ rh4.toInt ≤ 2147483647 := ⟨xi_lo _, Int.le_of_lt_add_one (xi_hi _)⟩
  rw [q_num_at (u := u_) (x := 0) (n := 0) rfl (by decide)] at h4p0
  refine lv_icmp_le (tgt := 26) hx hb dX0_isAboveCap_19 (by decide) (fun c5 => ?_) (fun c5 => ?_)
  · have ic5 := (xi_le c5 rfl rfl : v2.toInt ≤ rh4.toInt)
    refine lv_iconst (v := 0) hx hb dX0_isAboveCap_26 (by decide) ?_
    exact W.zret (v := 0) hx hb hr (by decide) (fun t ht hW => ⟨0, rfl, ⟨⟨(by decide), (by decide)⟩, (by rw [← h1p0, ← ev2]; have z9 : (0 : Int32).toInt = 0 := (by decide); omega)⟩, ht⟩) (fun _ h => by cases h) dX0_isAboveCap_27
  · have ic5 := (xi_nle c5 rfl rfl : rh4.toInt < v2.toInt)
    refine lv_iconst (v := 1) hx hb dX0_isAboveCap_22 (by decide) ?_
    refine lv_goto (tgt := 27) hx hb dX0_isAboveCap_23 (by decide) ?_
    exact W.zret (v := 1) hx hb hr (by decide) (fun t ht hW => ⟨1, rfl, ⟨⟨(by decide), (by decide)⟩, (by rw [← h1p0, ← ev2]; have z9 : (1 : Int32).toInt = 1 := (by decide); omega)⟩, ht⟩) (fun _ h => by cases h) dX0_isAboveCap_27
set_option maxHeartbeats 4000000 in
set_option maxRecDepth 100000 in
theorem tX0_spareB (l : Launch) (E : tE) (X : tX) (A : Nat → Prop) (z : tZ) (I0 : tI) (L0 : tL) (a0 : Nat) (t_a0 : z.ty a0 = 1) (c : Int32) (c_t : Int) (h_c : c.toInt = c_t) (b_c : 0 ≤ c_t ∧ c_t ≤ 7) : Met l yX0_isSpareUsed wsX0_isSpareUsed ({ frames := 2, cells := 0, slots := 0, locals := 128 }) (va_Pc [.ref a0, .int c] (h_P E X A z I0 L0)) (vp_Si (fun r => (0 ≤ r.toInt ∧ r.toInt ≤ 1) ∧ ((r.toInt = 1 ∧ (I0 (h_ad z a0 5) c_t.toNat).toInt ≠ 0) ∨ (r.toInt = 0 ∧ (I0 (h_ad z a0 5) c_t.toNat).toInt = 0)))) 0 0 (fun _ => False) := by
  refine Met.ofW (cc := cX0_isSpareUsed) (maxL := 2) (ret := (some .boolean)) (by decide) rfl ?_
  intro pr_ ev_ s m args below meth cd_ s₁ B hml hv
  obtain ⟨rfl, hE, hk, hX, hA, hK, hI, hR, hB0⟩ := hv
  have g : h_G h_so h_fk E A z I0 L0 s s.heap s.heap [] := ⟨hK, va_S.rf, hB0⟩
  have hx := B.exec
  have hb := B.bytes
  have hr := B.returns
  have hts := atoms_spec (ws := wsX0_isSpareUsed) B.pre
  have hown : s.vm.findClass RX0 = some m.cls := findClass_of_methodNamed B.named
  have hlocks := B.notSynchronized
  have iX0 : ∀ w ∈ u_ws RX0 TX0 9, w ∈ wsX0_isSpareUsed := by decide +kernel
  have hl := lv_entry ([.ref a0, .int c]) (n := 2) (Nat.le_of_ble_eq_true rfl)
  rw [lg_entry_eq]
  generalize (lg_sl ([.ref a0, .int c]) ++ List.replicate (2 - (lg_sl ([.ref a0, .int c])).length) Slot.unset).toArray = ls at hl ⊢
  have hl : lv_has ls 2 [(0, .ref a0), (1, .int c)] := hl
  obtain ⟨su, rsu, tsu⟩ := hR.at a0 5 t_a0 (rfl : h_rs 1 5 = some (105, false)) (by decide)
  have asu : h_ad z a0 5 = su := h_ad.at rsu
  have kc : c.toNatClampNeg = c_t.toNat := h_keq h_c (by omega) (by omega)
  obtain ⟨xsu, exsu⟩ : ∃ v : Int32, v = I0 su c.toNatClampNeg := ⟨_, rfl⟩
  have jxsu := hI.rd su c.toNatClampNeg tsu exsu (rfl : h_bd 105 _ = (0, 1))
  refine lv_iload_n hx hb dX0_isSpareUsed_0 rfl (lv_at hl 1 rfl) ?_
  refine vp_callSi (xr_of (va_runSN (As := [.int c]) (rest := []) ⟨hx, hb, hml, hown, hts⟩ (tX11_isClub l E X A z I0 L0 c (c_t) h_c) (⟨va_cnB 1 hts gX0_isSpareUsed_X11_isClub_n79 rfl rfl rfl (hE.link 8 rfl) (hts (.initialized RX11) (by decide +kernel)) (by decide +kernel) ⟨Nat.le_of_ble_eq_true rfl, Nat.le_of_ble_eq_true rfl⟩, hts (.static yX11_isClub) (by decide +kernel), trivial⟩) ⟨h_blind _ _ _ _ _ _ _, h_pre _ hE hk hX hA hI hR g⟩ rfl rfl hl.1 rfl (lv_room (Nat.le_of_ble_eq_true rfl)) dX0_isSpareUsed_1 ⟨Nat.le_of_ble_eq_true rfl, Nat.le_of_ble_eq_true rfl⟩)) (fun rh1 h1 => ?_)
  rcases h1 with ⟨rfl, h1⟩ | ⟨rfl, h1⟩
  · skip
    refine lv_if_eq (tgt := 20) hx hb dX0_isSpareUsed_4 (by decide) (fun _ => ?_) (fun h => absurd (by decide) h)
    refine lv_iconst (v := 0) hx hb dX0_isSpareUsed_20 (by decide) ?_
    exact W.zret (v := 0) hx hb hr (by decide) (fun t ht hW => ⟨0, rfl, ⟨⟨(by decide), (by decide)⟩, (by rw [asu, ← kc, ← exsu]; have z9 : (0 : Int32).toInt = 0 := (by decide); omega)⟩, ht⟩) (fun _ h => by cases h) dX0_isSpareUsed_21
  · skip
    refine lv_if_eq (tgt := 20) hx hb dX0_isSpareUsed_4 (by decide) (fun h => absurd h (by decide)) (fun _ => ?_)
    refine lv_aload_n hx hb dX0_isSpareUsed_7 rfl (lv_at hl 0 rfl) ?_
    refine h_get (v := .ref su) hx hb hts iX0 hown g t_a0 (by decide) so_1 rfl 5 (by decide) (hts (.fieldLink RX0 22 "CapLeague$Books" "spareUsed" "[Z") (by decide +kernel)) rfl dX0_isSpareUsed_8 (by show va_rf (z.R a0 5) = _; rw [rsu]; rfl) ?_
    refine lv_iload_n hx hb dX0_isSpareUsed_11 rfl (lv_at hl 1 rfl) ?_
    refine h_zald hx hb g tsu (by decide) so_105 (xi_in (by rw [h_c]; omega) (by rw [h_c]; omega)) dX0_isSpareUsed_12 ?_
    refine xw_i (exsu.symm) ?_
    refine lv_if_eq (tgt := 20) hx hb dX0_isSpareUsed_13 (by decide) (fun c4 => ?_) (fun c4 => ?_)
    · have ic4 := (xi_eq c4 rfl (by decide) : xsu.toInt = 0)
      refine lv_iconst (v := 0) hx hb dX0_isSpareUsed_20 (by decide) ?_
      exact W.zret (v := 0) hx hb hr (by decide) (fun t ht hW => ⟨0, rfl, ⟨⟨(by decide), (by decide)⟩, (by rw [asu, ← kc, ← exsu]; have z9 : (0 : Int32).toInt = 0 := (by decide); omega)⟩, ht⟩) (fun _ h => by cases h) dX0_isSpareUsed_21
    · have ic4 := (xi_ne c4 rfl (by decide) : xsu.toInt ≠ 0)
      refine lv_iconst (v := 1) hx hb dX0_isSpareUsed_16 (by decide) ?_
      refine lv_goto (tgt := 21) hx hb dX0_isSpareUsed_17 (by decide) ?_
      exact W.zret (v := 1) hx hb hr (by decide) (fun t ht hW => ⟨1, rfl, ⟨⟨(by decide), (by decide)⟩, (by rw [asu, ← kc, ← exsu]; have z9 : (1 : Int32).toInt = 1 := (by decide); omega)⟩, ht⟩) (fun _ h => by cases h) dX0_isSpareUsed_21
set_option maxHeartbeats 4000000 in
set_option maxRecDepth 100000 in
theorem tX0_faultsB (l : Launch) (E : tE) (X : tX) (A : Nat → Prop) (z : tZ) (I0 : tI) (L0 : tL) (a0 : Nat) (t_a0 : z.ty a0 = 1) (p0 : Nat) (t_p0 : z.ty p0 = 7) (c : Int32) (c_t : Int) (h_c : c.toInt = c_t) (b_c : 0 ≤ c_t ∧ c_t ≤ 7) (y : Int32) (y_t : Int) (h_y : y.toInt = y_t) (n : Int32) (n_t : Int) (h_n : n.toInt = n_t) (u_ : Nat → Int) (hcl : ∀ b : Nat, h_of (z.R (h_ad z (h_ad z a0 0) 1)) (h_ad z (h_ad z a0 0) 0) (I0 a0 3).toInt b → h_lw I0 b (h_ad z b 0) (h_ad z b 1) u_) (hob : q_okb u_) (hnn : ∀ p : Nat, (p : Int) < (I0 a0 2).toInt → z.R (h_ad z a0 1) p ≠ none) : Met l yX0_faultsOfContract wsX0_faultsOfContract ({ frames := 6, cells := 0, slots := 0, locals := 384 }) (va_Pc [.ref a0, .ref p0, .int c, .int y, .int n] (h_P E X A z I0 L0)) (vp_Si (fun r => (0 ≤ r.toInt ∧ r.toInt ≤ 15) ∧ (q_flt ((I0 p0 0).toInt ≠ -1) (u_ 1 ≤ (c_many z I0 a0 c_t (I0 a0 3)).toInt) (u_ 2 < y_t) (u_ 0 < (c_cnt z I0 a0 c_t (I0 a0 3) (u_ 6) + n).toInt ∧ (u_ 3 < n_t ∨ (I0 (h_ad z a0 5) c_t.toNat).toInt ≠ 0)) r.toInt))) 0 0 (fun _ => False) := by
  refine Met.ofW (cc := cX0_faultsOfContract) (maxL := 7) (ret := (some .int)) (by decide) rfl ?_
  intro pr_ ev_ s m args below meth cd_ s₁ B hml hv
  obtain ⟨rfl, hE, hk, hX, hA, hK, hI, hR, hB0⟩ := hv
  have g : h_G h_so h_fk E A z I0 L0 s s.heap s.heap [] := ⟨hK, va_S.rf, hB0⟩
  have hx := B.exec
  have hb := B.bytes
  have hr := B.returns
  have hts := atoms_spec (ws := wsX0_faultsOfContract) B.pre
  have hown : s.vm.findClass RX0 = some m.cls := findClass_of_methodNamed B.named
  have hlocks := B.notSynchronized
  have iX0 : ∀ w ∈ u_ws RX0 TX0 9, w ∈ wsX0_faultsOfContract := by decide +kernel
  have hl := lv_entry ([.ref a0, .ref p0, .int c, .int y, .int n]) (n := 7) (Nat.le_of_ble_eq_true rfl)
  rw [lg_entry_eq]
  generalize (lg_sl ([.ref a0, .ref p0, .int c, .int y, .int n]) ++ List.replicate (7 - (lg_sl ([.ref a0, .ref p0, .int c, .int y, .int n])).length) Slot.unset).toArray = ls at hl ⊢
  have hl : lv_has ls 7 [(0, .ref a0), (1, .ref p0), (2, .int c), (3, .int y), (4, .int n)] := hl
  have b_y : -2147483648 ≤ y_t ∧ y_t ≤ 2147483647 := h_y ▸ ⟨xi_lo y, Int.le_of_lt_add_one (xi_hi y)⟩
  have b_n : -2147483648 ≤ n_t ∧ n_t ≤ 2147483647 := h_n ▸ ⟨xi_lo n, Int.le_of_lt_add_one (xi_hi n)⟩
  obtain ⟨lb, rlb, tlb⟩ := hR.at a0 0 t_a0 (rfl : h_rs 1 0 = some (4, false)) (by decide)
  have alb : h_ad z a0 0 = lb := h_ad.at rlb
  obtain ⟨un, run, tun⟩ := hR.at lb 0 tlb (rfl : h_rs 4 0 = some (6, false)) (by decide)
  have aun : h_ad z lb 0 = un := h_ad.at run
  obtain ⟨tx, rtx, ttx⟩ := hR.at lb 1 tlb (rfl : h_rs 4 1 = some (401, false)) (by decide)
  have atx : h_ad z lb 1 = tx := h_ad.at rtx
  obtain ⟨su, rsu, tsu⟩ := hR.at a0 5 t_a0 (rfl : h_rs 1 5 = some (105, false)) (by decide)
  have asu : h_ad z a0 5 = su := h_ad.at rsu
  obtain ⟨f0_3, ef0_3⟩ : ∃ v : Int32, v = I0 a0 3 := ⟨_, rfl⟩
  have qf0_3 : (I0 a0 3).toInt = f0_3.toInt := congrArg Int32.toInt ef0_3.symm
  have jf0_3 := hI.rd a0 3 t_a0 ef0_3 (rfl : h_bd 1 3 = (0, 9))
  have hcl0 := hcl
  rw [alb, aun, atx, qf0_3] at hcl
  refine lv_aload_n hx hb dX0_faultsOfContract_0 rfl (lv_at hl 0 rfl) ?_
  refine va_csq (W.runV (As := []) (rest := []) ⟨hx, hb, hml, hown, hts⟩ (tX0_lawsNowF l E X A z I0 L0 a0 t_a0) (cwV 0 hts gX0_faultsOfContract_X0_lawsNow rfl rfl rfl (by decide +kernel) ⟨Nat.le_of_ble_eq_true rfl, Nat.le_of_ble_eq_true rfl⟩) ⟨h_blind _ _ _ _ _ _ _, h_recv g t_a0 (by decide) so_1 (q := (RX0, TX0, 9)) rfl, h_pre _ hE hk hX hA hI hR g⟩ rfl rfl hl.1 rfl (lv_room (Nat.le_of_ble_eq_true rfl)) dX0_faultsOfContract_1 ⟨Nat.le_of_ble_eq_true rfl, Nat.le_of_ble_eq_true rfl⟩) (fun rh1 h1 => ?_)
  obtain ⟨h1, h1p0⟩ := h1
  obtain ⟨rh1, rfl, trh1⟩ := h1
  refine xw_v (v := .ref rh1) rfl ?_
  rw [alb, aun, atx, qf0_3] at h1p0
  obtain ⟨bb, ebb, hof⟩ := h1p0
  cases ebb
  have hlb := hcl _ hof
  refine lv_astore (lv' := [(5, .ref rh1), (0, .ref a0), (1, .ref p0), (2, .int c), (3, .int y), (4, .int n)]) hx hb dX0_faultsOfContract_4 hl (by decide) rfl (fun ls hl => ?_)
  refine lv_aload_n hx hb dX0_faultsOfContract_6 rfl (lv_at hl 2 rfl) ?_
  refine vp_callSi (W.runV (As := []) (rest := []) ⟨hx, hb, hml, hown, hts⟩ (tX6_isSignedB l E X A z I0 L0 p0 t_p0) (cwV 0 hts gX0_faultsOfContract_X6_isSigned rfl rfl rfl (by decide +kernel) ⟨Nat.le_of_ble_eq_true rfl, Nat.le_of_ble_eq_true rfl⟩) ⟨h_blind _ _ _ _ _ _ _, h_recv g t_p0 (by decide) so_7 (q := (RX6, TX6, 9)) rfl, h_pre _ hE hk hX hA hI hR g⟩ rfl rfl hl.1 rfl (lv_room (Nat.le_of_ble_eq_true rfl)) dX0_faultsOfContract_7 ⟨Nat.le_of_ble_eq_true rfl, Nat.le_of_ble_eq_true rfl⟩) (fun rh2 h2 => ?_)
  obtain ⟨h2, h2p0⟩ := h2
  refine lv_if_eq (tgt := 17) hx hb dX0_faultsOfContract_10 (by decide) (fun c3 => ?_) (fun c3 => ?_)
  · have ic3 := (xi_eq c3 rfl (by decide) : rh2.toInt = 0)
    refine lv_iconst (v := 0) hx hb dX0_faultsOfContract_17 (by decide) ?_
    refine lv_istore (lv' := [(6, .int 0), (5, .ref rh1), (0, .ref a0), (1, .ref p0), (2, .int c), (3, .int y), (4, .int n)]) hx hb dX0_faultsOfContract_18 hl (by decide) rfl (fun ls hl => ?_)
    refine lv_aload_n hx hb dX0_faultsOfContract_20 rfl (lv_at hl 2 rfl) ?_
    refine lv_iload_n hx hb dX0_faultsOfContract_21 rfl (lv_at hl 4 rfl) ?_
    refine lv_aload_n hx hb dX0_faultsOfContract_22 rfl (lv_at hl 2 rfl) ?_
    refine h_get (v := .int f0_3) hx hb hts iX0 hown g t_a0 (by decide) so_1 rfl 3 (by decide) (hts (.fieldLink RX0 37 "CapLeague$Books" "clock" "I") (by decide +kernel)) rfl dX0_faultsOfContract_23 (congrArg Value.int (ef0_3.symm)) ?_
    refine vp_callSi (W.runV (As := [.int c, .int f0_3]) (rest := []) ⟨hx, hb, hml, hown, hts⟩ (tX0_playersInB l E X A z I0 L0 a0 t_a0 c (c_t) h_c f0_3 (f0_3.toInt) rfl (hnn)) (cwV 2 hts gX0_faultsOfContract_X0_playersIn rfl rfl rfl (by decide +kernel) ⟨Nat.le_of_ble_eq_true rfl, Nat.le_of_ble_eq_true rfl⟩) ⟨h_blind _ _ _ _ _ _ _, h_recv g t_a0 (by decide) so_1 (q := (RX0, TX0, 9)) rfl, h_pre _ hE hk hX hA hI hR g⟩ rfl rfl hl.1 rfl (lv_room (Nat.le_of_ble_eq_true rfl)) dX0_faultsOfContract_26 ⟨Nat.le_of_ble_eq_true rfl, Nat.le_of_ble_eq_true rfl⟩) (fun rh4 h4 => ?_)
    have h4p0 := h4
    have jrh4 : -2147483648 ≤ rh4.toInt ∧ rh4.toInt ≤ 2147483647 := ⟨xi_lo _, Int.le_of_lt_add_one (xi_hi _)⟩
    rw [ef0_3] at h4p0
    replace h4p0 := congrArg Int32.toInt h4p0
    refine lv_aload hx hb dX0_faultsOfContract_29 (lv_at hl 1 rfl) ?_
    refine lv_iconst (v := 1) hx hb dX0_faultsOfContract_31 (by decide) ?_
    refine vp_callSi (W.runV (As := [.int 1]) (rest := [.int rh4]) ⟨hx, hb, hml, hown, hts⟩ (tX5_numberF l E X A z I0 L0 rh1 trh1 1 (1) (by decide) (u_) (hlb)) (cwV 1 hts gX0_faultsOfContract_X5_number rfl rfl rfl (by decide +kernel) ⟨Nat.le_of_ble_eq_true rfl, Nat.le_of_ble_eq_true rfl⟩) ⟨h_blind _ _ _ _ _ _ _, h_recv g trh1 (by decide) so_6 (q := (RX5, TX5, 3)) rfl, h_pre _ hE hk hX hA hI hR g⟩ rfl rfl hl.1 rfl (lv_room (Nat.le_of_ble_eq_true rfl)) dX0_faultsOfContract_32 ⟨Nat.le_of_ble_eq_true rfl, Nat.le_of_ble_eq_true rfl⟩) (fun rh5 h5 => ?_)
    have h5p0 := h5
    have jrh5 : -2147483648 ≤ rh5.toInt ∧ rh5.toInt ≤ 2147483647 := ⟨xi_lo _, Int.le_of_lt_add_one (xi_hi _)⟩
    rw [q_num_at (u := u_) (x := 1) (n := 1) rfl (by decide)] at h5p0
    refine lv_icmp_lt (tgt := 44) hx hb dX0_faultsOfContract_35 (by decide) (fun c6 => ?_) (fun c6 => ?_)
    · have ic6 := (xi_lt c6 rfl rfl : rh4.toInt < rh5.toInt)
      refine lv_iload_n hx hb dX0_faultsOfContract_44 rfl (lv_at hl 5 rfl) ?_
      refine lv_aload hx hb dX0_faultsOfContract_45 (lv_at hl 1 rfl) ?_
      refine lv_iconst (v := 2) hx hb dX0_faultsOfContract_47 (by decide) ?_
      refine vp_callSi (W.runV (As := [.int 2]) (rest := [.int y]) ⟨hx, hb, hml, hown, hts⟩ (tX5_numberF l E X A z I0 L0 rh1 trh1 2 (2) (by decide) (u_) (hlb)) (cwV 1 hts gX0_faultsOfContract_X5_number rfl rfl rfl (by decide +kernel) ⟨Nat.le_of_ble_eq_true rfl, Nat.le_of_ble_eq_true rfl⟩) ⟨h_blind _ _ _ _ _ _ _, h_recv g trh1 (by decide) so_6 (q := (RX5, TX5, 3)) rfl, h_pre _ hE hk hX hA hI hR g⟩ rfl rfl hl.1 rfl (lv_room (Nat.le_of_ble_eq_true rfl)) dX0_faultsOfContract_48 ⟨Nat.le_of_ble_eq_true rfl, Nat.le_of_ble_eq_true rfl⟩) (fun rh7 h7 => ?_)
      have h7p0 := h7
      have jrh7 : -2147483648 ≤ rh7.toInt ∧ rh7.toInt ≤ 2147483647 := ⟨xi_lo _, Int.le_of_lt_add_one (xi_hi _)⟩
      rw [q_num_at (u := u_) (x := 2) (n := 2) rfl (by decide)] at h7p0
      refine lv_icmp_le (tgt := 60) hx hb dX0_faultsOfContract_51 (by decide) (fun c8 => ?_) (fun c8 => ?_)
      · have ic8 := (xi_le c8 h_y rfl : y_t ≤ rh7.toInt)
        refine lv_aload_n hx hb dX0_faultsOfContract_60 rfl (lv_at hl 2 rfl) ?_
        refine lv_iload_n hx hb dX0_faultsOfContract_61 rfl (lv_at hl 4 rfl) ?_
        refine lv_iload hx hb dX0_faultsOfContract_62 (lv_at hl 6 rfl) ?_
        refine vp_callSi (W.runV (As := [.int c, .int n]) (rest := []) ⟨hx, hb, hml, hown, hts⟩ (tX0_aboveB l E X A z I0 L0 a0 t_a0 c (c_t) h_c (by omega) n (n_t) h_n (u_) (hcl0) (hob) (hnn)) (cwV 2 hts gX0_faultsOfContract_X0_isAboveCap rfl rfl rfl (by decide +kernel) ⟨Nat.le_of_ble_eq_true rfl, Nat.le_of_ble_eq_true rfl⟩) ⟨h_blind _ _ _ _ _ _ _, h_recv g t_a0 (by decide) so_1 (q := (RX0, TX0, 9)) rfl, h_pre _ hE hk hX hA hI hR g⟩ rfl rfl hl.1 rfl (lv_room (Nat.le_of_ble_eq_true rfl)) dX0_faultsOfContract_64 ⟨Nat.le_of_ble_eq_true rfl, Nat.le_of_ble_eq_true rfl⟩) (fun rh9 h9 => ?_)
        obtain ⟨h9, h9p0⟩ := h9
        refine lv_if_eq (tgt := 96) hx hb dX0_faultsOfContract_67 (by decide) (fun c10 => ?_) (fun c10 => ?_)
        · have ic10 := (xi_eq c10 rfl (by decide) : rh9.toInt = 0)
          refine lv_iload hx hb dX0_faultsOfContract_96 (lv_at hl 0 rfl) ?_
          exact W.iret (v := 0) hx hb hr (fun t ht hW => ⟨0, rfl, ⟨⟨(by decide), (by decide)⟩, (by have qn : n.toInt = n_t := h_n; have qy : y.toInt = y_t := h_y; exact ⟨0, 0, 0, 0, by decide, by unfold q_btp; omega, by unfold q_btp; omega, by unfold q_btp; omega, by unfold q_btp; omega⟩)⟩, ht⟩) (fun _ h => by cases h) dX0_faultsOfContract_98
        · have ic10 := (xi_ne c10 rfl (by decide) : rh9.toInt ≠ 0)
          refine lv_iload hx hb dX0_faultsOfContract_70 (lv_at hl 6 rfl) ?_
          refine lv_aload hx hb dX0_faultsOfContract_72 (lv_at hl 1 rfl) ?_
          refine lv_iconst (v := 3) hx hb dX0_faultsOfContract_74 (by decide) ?_
          refine vp_callSi (W.runV (As := [.int 3]) (rest := [.int n]) ⟨hx, hb, hml, hown, hts⟩ (tX5_numberF l E X A z I0 L0 rh1 trh1 3 (3) (by decide) (u_) (hlb)) (cwV 1 hts gX0_faultsOfContract_X5_number rfl rfl rfl (by decide +kernel) ⟨Nat.le_of_ble_eq_true rfl, Nat.le_of_ble_eq_true rfl⟩) ⟨h_blind _ _ _ _ _ _ _, h_recv g trh1 (by decide) so_6 (q := (RX5, TX5, 3)) rfl, h_pre _ hE hk hX hA hI hR g⟩ rfl rfl hl.1 rfl (lv_room (Nat.le_of_ble_eq_true rfl)) dX0_faultsOfContract_75 ⟨Nat.le_of_ble_eq_true rfl, Nat.le_of_ble_eq_true rfl⟩) (fun rh11 h11 => ?_)
          have h11p0 := h11
          have jrh11 : -2147483648 ≤ rh11.toInt ∧ rh11.toInt ≤ 2147483647 := ⟨xi_lo _, Int.le_of_lt_add_one (xi_hi _)⟩
          rw [q_num_at (u := u_) (x := 3) (n := 3) rfl (by decide)] at h11p0
          refine lv_icmp_gt (tgt := 89) hx hb dX0_faultsOfContract_78 (by decide) (fun c12 => ?_) (fun c12 => ?_)
          · have ic12 := (xi_lt c12 rfl h_n : rh11.toInt < n_t)
            refine lv_iload hx hb dX0_faultsOfContract_89 (lv_at hl 0 rfl) ?_
            refine lv_bipush (v := 8) hx hb dX0_faultsOfContract_91 (by decide) ?_
            refine lv_ior hx hb dX0_faultsOfContract_93 ?_
            refine xw_i (v := 8) (by decide) ?_
            refine lv_istore (lv' := [(6, .int 8), (5, .ref rh1), (0, .ref a0), (1, .ref p0), (2, .int c), (3, .int y), (4, .int n)]) hx hb dX0_faultsOfContract_94 hl (by decide) rfl (fun ls hl => ?_)
            refine lv_iload hx hb dX0_faultsOfContract_96 (lv_at hl 0 rfl) ?_
            exact W.iret (v := 8) hx hb hr (fun t ht hW => ⟨8, rfl, ⟨⟨(by decide), (by decide)⟩, (by have qn : n.toInt = n_t := h_n; have qy : y.toInt = y_t := h_y; exact ⟨0, 0, 0, 8, by decide, by unfold q_btp; omega, by unfold q_btp; omega, by unfold q_btp; omega, by unfold q_btp; omega⟩)⟩, ht⟩) (fun _ h => by cases h) dX0_faultsOfContract_98
          · have ic12 := (xi_nlt c12 rfl h_n : n_t ≤ rh11.toInt)
            refine lv_aload_n hx hb dX0_faultsOfContract_81 rfl (lv_at hl 2 rfl) ?_
            refine lv_iload_n hx hb dX0_faultsOfContract_82 rfl (lv_at hl 4 rfl) ?_
            refine vp_callSi (W.runV (As := [.int c]) (rest := []) ⟨hx, hb, hml, hown, hts⟩ (tX0_spareB l E X A z I0 L0 a0 t_a0 c (c_t) h_c (by omega)) (cwV 1 hts gX0_faultsOfContract_X0_isSpareUsed rfl rfl rfl (by decide +kernel) ⟨Nat.le_of_ble_eq_true rfl, Nat.le_of_ble_eq_true rfl⟩) ⟨h_blind _ _ _ _ _ _ _, h_recv g t_a0 (by decide) so_1 (q := (RX0, TX0, 9)) rfl, h_pre _ hE hk hX hA hI hR g⟩ rfl rfl hl.1 rfl (lv_room (Nat.le_of_ble_eq_true rfl)) dX0_faultsOfContract_83 ⟨Nat.le_of_ble_eq_true rfl, Nat.le_of_ble_eq_true rfl⟩) (fun rh13 h13 => ?_)
            obtain ⟨h13, h13p0⟩ := h13
            refine lv_if_eq (tgt := 96) hx hb dX0_faultsOfContract_86 (by decide) (fun c14 => ?_) (fun c14 => ?_)
            · have ic14 := (xi_eq c14 rfl (by decide) : rh13.toInt = 0)
              refine lv_iload hx hb dX0_faultsOfContract_96 (lv_at hl 0 rfl) ?_
              exact W.iret (v := 0) hx hb hr (fun t ht hW => ⟨0, rfl, ⟨⟨(by decide), (by decide)⟩, (by have qn : n.toInt = n_t := h_n; have qy : y.toInt = y_t := h_y; exact ⟨0, 0, 0, 0, by decide, by unfold q_btp; omega, by unfold q_btp; omega, by unfold q_btp; omega, by unfold q_btp; omega⟩)⟩, ht⟩) (fun _ h => by cases h) dX0_faultsOfContract_98
            · have ic14 := (xi_ne c14 rfl (by decide) : rh13.toInt ≠ 0)
              refine lv_iload hx hb dX0_faultsOfContract_89 (lv_at hl 0 rfl) ?_
              refine lv_bipush (v := 8) hx hb dX0_faultsOfContract_91 (by decide) ?_
              refine lv_ior hx hb dX0_faultsOfContract_93 ?_
              refine xw_i (v := 8) (by decide) ?_
              refine lv_istore (lv' := [(6, .int 8), (5, .ref rh1), (0, .ref a0), (1, .ref p0), (2, .int c), (3, .int y), (4, .int n)]) hx hb dX0_faultsOfContract_94 hl (by decide) rfl (fun ls hl => ?_)
              refine lv_iload hx hb dX0_faultsOfContract_96 (lv_at hl 0 rfl) ?_
              exact W.iret (v := 8) hx hb hr (fun t ht hW => ⟨8, rfl, ⟨⟨(by decide), (by decide)⟩, (by have qn : n.toInt = n_t := h_n; have qy : y.toInt = y_t := h_y; exact ⟨0, 0, 0, 8, by decide, by unfold q_btp; omega, by unfold q_btp; omega, by unfold q_btp; omega, by unfold q_btp; omega⟩)⟩, ht⟩) (fun _ h => by cases h) dX0_faultsOfContract_98
      · have ic8 := (xi_nle c8 h_y rfl : rh7.toInt < y_t)
        refine lv_iload hx hb dX0_faultsOfContract_54 (lv_at hl 0 rfl) ?_
        refine lv_iconst (v := 4) hx hb dX0_faultsOfContract_56 (by decide) ?_
        refine lv_ior hx hb dX0_faultsOfContract_57 ?_
        refine xw_i (v := 4) (by decide) ?_
        refine lv_istore (lv' := [(6, .int 4), (5, .ref rh1), (0, .ref a0), (1, .ref p0), (2, .int c), (3, .int y), (4, .int n)]) hx hb dX0_faultsOfContract_58 hl (by decide) rfl (fun ls hl => ?_)
        refine lv_aload_n hx hb dX0_faultsOfContract_60 rfl (lv_at hl 2 rfl) ?_
        refine lv_iload_n hx hb dX0_faultsOfContract_61 rfl (lv_at hl 4 rfl) ?_
        refine lv_iload hx hb dX0_faultsOfContract_62 (lv_at hl 6 rfl) ?_
        refine vp_callSi (W.runV (As := [.int c, .int n]) (rest := []) ⟨hx, hb, hml, hown, hts⟩ (tX0_aboveB l E X A z I0 L0 a0 t_a0 c (c_t) h_c (by omega) n (n_t) h_n (u_) (hcl0) (hob) (hnn)) (cwV 2 hts gX0_faultsOfContract_X0_isAboveCap rfl rfl rfl (by decide +kernel) ⟨Nat.le_of_ble_eq_true rfl, Nat.le_of_ble_eq_true rfl⟩) ⟨h_blind _ _ _ _ _ _ _, h_recv g t_a0 (by decide) so_1 (q := (RX0, TX0, 9)) rfl, h_pre _ hE hk hX hA hI hR g⟩ rfl rfl hl.1 rfl (lv_room (Nat.le_of_ble_eq_true rfl)) dX0_faultsOfContract_64 ⟨Nat.le_of_ble_eq_true rfl, Nat.le_of_ble_eq_true rfl⟩) (fun rh15 h15 => ?_)
        obtain ⟨h15, h15p0⟩ := h15
        refine lv_if_eq (tgt := 96) hx hb dX0_faultsOfContract_67 (by decide) (fun c16 => ?_) (fun c16 => ?_)
        · have ic16 := (xi_eq c16 rfl (by decide) : rh15.toInt = 0)
          refine lv_iload hx hb dX0_faultsOfContract_96 (lv_at hl 0 rfl) ?_
          exact W.iret (v := 4) hx hb hr (fun t ht hW => ⟨4, rfl, ⟨⟨(by decide), (by decide)⟩, (by have qn : n.toInt = n_t := h_n; have qy : y.toInt = y_t := h_y; exact ⟨0, 0, 4, 0, by decide, by unfold q_btp; omega, by unfold q_btp; omega, by unfold q_btp; omega, by unfold q_btp; omega⟩)⟩, ht⟩) (fun _ h => by cases h) dX0_faultsOfContract_98
        · have ic16 := (xi_ne c16 rfl (by decide) : rh15.toInt ≠ 0)
          refine lv_iload hx hb dX0_faultsOfContract_70 (lv_at hl 6 rfl) ?_
          refine lv_aload hx hb dX0_faultsOfContract_72 (lv_at hl 1 rfl) ?_
          refine lv_iconst (v := 3) hx hb dX0_faultsOfContract_74 (by decide) ?_
          refine vp_callSi (W.runV (As := [.int 3]) (rest := [.int n]) ⟨hx, hb, hml, hown, hts⟩ (tX5_numberF l E X A z I0 L0 rh1 trh1 3 (3) (by decide) (u_) (hlb)) (cwV 1 hts gX0_faultsOfContract_X5_number rfl rfl rfl (by decide +kernel) ⟨Nat.le_of_ble_eq_true rfl, Nat.le_of_ble_eq_true rfl⟩) ⟨h_blind _ _ _ _ _ _ _, h_recv g trh1 (by decide) so_6 (q := (RX5, TX5, 3)) rfl, h_pre _ hE hk hX hA hI hR g⟩ rfl rfl hl.1 rfl (lv_room (Nat.le_of_ble_eq_true rfl)) dX0_faultsOfContract_75 ⟨Nat.le_of_ble_eq_true rfl, Nat.le_of_ble_eq_true rfl⟩) (fun rh17 h17 => ?_)
          have h17p0 := h17
          have jrh17 : -2147483648 ≤ rh17.toInt ∧ rh17.toInt ≤ 2147483647 := ⟨xi_lo _, Int.le_of_lt_add_one (xi_hi _)⟩
          rw [q_num_at (u := u_) (x := 3) (n := 3) rfl (by decide)] at h17p0
          refine lv_icmp_gt (tgt := 89) hx hb dX0_faultsOfContract_78 (by decide) (fun c18 => ?_) (fun c18 => ?_)
          · have ic18 := (xi_lt c18 rfl h_n : rh17.toInt < n_t)
            refine lv_iload hx hb dX0_faultsOfContract_89 (lv_at hl 0 rfl) ?_
            refine lv_bipush (v := 8) hx hb dX0_faultsOfContract_91 (by decide) ?_
            refine lv_ior hx hb dX0_faultsOfContract_93 ?_
            refine xw_i (v := 12) (by decide) ?_
            refine lv_istore (lv' := [(6, .int 12), (5, .ref rh1), (0, .ref a0), (1, .ref p0), (2, .int c), (3, .int y), (4, .int n)]) hx hb dX0_faultsOfContract_94 hl (by decide) rfl (fun ls hl => ?_)
            refine lv_iload hx hb dX0_faultsOfContract_96 (lv_at hl 0 rfl) ?_
            exact W.iret (v := 12) hx hb hr (fun t ht hW => ⟨12, rfl, ⟨⟨(by decide), (by decide)⟩, (by have qn : n.toInt = n_t := h_n; have qy : y.toInt = y_t := h_y; exact ⟨0, 0, 4, 8, by decide, by unfold q_btp; omega, by unfold q_btp; omega, by unfold q_btp; omega, by unfold q_btp; omega⟩)⟩, ht⟩) (fun _ h => by cases h) dX0_faultsOfContract_98
          · have ic18 := (xi_nlt c18 rfl h_n : n_t ≤ rh17.toInt)
            refine lv_aload_n hx hb dX0_faultsOfContract_81 rfl (lv_at hl 2 rfl) ?_
            refine lv_iload_n hx hb dX0_faultsOfContract_82 rfl (lv_at hl 4 rfl) ?_
            refine vp_callSi (W.runV (As := [.int c]) (rest := []) ⟨hx, hb, hml, hown, hts⟩ (tX0_spareB l E X A z I0 L0 a0 t_a0 c (c_t) h_c (by omega)) (cwV 1 hts gX0_faultsOfContract_X0_isSpareUsed rfl rfl rfl (by decide +kernel) ⟨Nat.le_of_ble_eq_true rfl, Nat.le_of_ble_eq_true rfl⟩) ⟨h_blind _ _ _ _ _ _ _, h_recv g t_a0 (by decide) so_1 (q := (RX0, TX0, 9)) rfl, h_pre _ hE hk hX hA hI hR g⟩ rfl rfl hl.1 rfl (lv_room (Nat.le_of_ble_eq_true rfl)) dX0_faultsOfContract_83 ⟨Nat.le_of_ble_eq_true rfl, Nat.le_of_ble_eq_true rfl⟩) (fun rh19 h19 => ?_)
            obtain ⟨h19, h19p0⟩ := h19
            refine lv_if_eq (tgt := 96) hx hb dX0_faultsOfContract_86 (by decide) (fun c20 => ?_) (fun c20 => ?_)
            · have ic20 := (xi_eq c20 rfl (by decide) : rh19.toInt = 0)
              refine lv_iload hx hb dX0_faultsOfContract_96 (lv_at hl 0 rfl) ?_
              exact W.iret (v := 4) hx hb hr (fun t ht hW => ⟨4, rfl, ⟨⟨(by decide), (by decide)⟩, (by have qn : n.toInt = n_t := h_n; have qy : y.toInt = y_t := h_y; exact ⟨0, 0, 4, 0, by decide, by unfold q_btp; omega, by unfold q_btp; omega, by unfold q_btp; omega, by unfold q_btp; omega⟩)⟩, ht⟩) (fun _ h => by cases h) dX0_faultsOfContract_98
            · have ic20 := (xi_ne c20 rfl (by decide) : rh19.toInt ≠ 0)
              refine lv_iload hx hb dX0_faultsOfContract_89 (lv_at hl 0 rfl) ?_
              refine lv_bipush (v := 8) hx hb dX0_faultsOfContract_91 (by decide) ?_
              refine lv_ior hx hb dX0_faultsOfContract_93 ?_
              refine xw_i (v := 12) (by decide) ?_
              refine lv_istore (lv' := [(6, .int 12), (5, .ref rh1), (0, .ref a0), (1, .ref p0), (2, .int c), (3, .int y), (4, .int n)]) hx hb dX0_faultsOfContract_94 hl (by decide) rfl (fun ls hl => ?_)
              refine lv_iload hx hb dX0_faultsOfContract_96 (lv_at hl 0 rfl) ?_
              exact W.iret (v := 12) hx hb hr (fun t ht hW => ⟨12, rfl, ⟨⟨(by decide), (by decide)⟩, (by have qn : n.toInt = n_t := h_n; have qy : y.toInt = y_t := h_y; exact ⟨0, 0, 4, 8, by decide, by unfold q_btp; omega, by unfold q_btp; omega, by unfold q_btp; omega, by unfold q_btp; omega⟩)⟩, ht⟩) (fun _ h => by cases h) dX0_faultsOfContract_98
    · have ic6 := (xi_nlt c6 rfl rfl : rh5.toInt ≤ rh4.toInt)
      refine lv_iload hx hb dX0_faultsOfContract_38 (lv_at hl 0 rfl) ?_
      refine lv_iconst (v := 2) hx hb dX0_faultsOfContract_40 (by decide) ?_
      refine lv_ior hx hb dX0_faultsOfContract_41 ?_
      refine xw_i (v := 2) (by decide) ?_
      refine lv_istore (lv' := [(6, .int 2), (5, .ref rh1), (0, .ref a0), (1, .ref p0), (2, .int c), (3, .int y), (4, .int n)]) hx hb dX0_faultsOfContract_42 hl (by decide) rfl (fun ls hl => ?_)
      refine lv_iload_n hx hb dX0_faultsOfContract_44 rfl (lv_at hl 5 rfl) ?_
      refine lv_aload hx hb dX0_faultsOfContract_45 (lv_at hl 1 rfl) ?_
      refine lv_iconst (v := 2) hx hb dX0_faultsOfContract_47 (by decide) ?_
      refine vp_callSi (W.runV (As := [.int 2]) (rest := [.int y]) ⟨hx, hb, hml, hown, hts⟩ (tX5_numberF l E X A z I0 L0 rh1 trh1 2 (2) (by decide) (u_) (hlb)) (cwV 1 hts gX0_faultsOfContract_X5_number rfl rfl rfl (by decide +kernel) ⟨Nat.le_of_ble_eq_true rfl, Nat.le_of_ble_eq_true rfl⟩) ⟨h_blind _ _ _ _ _ _ _, h_recv g trh1 (by decide) so_6 (q := (RX5, TX5, 3)) rfl, h_pre _ hE hk hX hA hI hR g⟩ rfl rfl hl.1 rfl (lv_room (Nat.le_of_ble_eq_true rfl)) dX0_faultsOfContract_48 ⟨Nat.le_of_ble_eq_true rfl, Nat.le_of_ble_eq_true rfl⟩) (fun rh21 h21 => ?_)
      have h21p0 := h21
      have jrh21 : -2147483648 ≤ rh21.toInt ∧ rh21.toInt ≤ 2147483647 := ⟨xi_lo _, Int.le_of_lt_add_one (xi_hi _)⟩
      rw [q_num_at (u := u_) (x := 2) (n := 2) rfl (by decide)] at h21p0
      refine lv_icmp_le (tgt := 60) hx hb dX0_faultsOfContract_51 (by decide) (fun c22 => ?_) (fun c22 => ?_)
      · have ic22 := (xi_le c22 h_y rfl : y_t ≤ rh21.toInt)
        refine lv_aload_n hx hb dX0_faultsOfContract_60 rfl (lv_at hl 2 rfl) ?_
        refine lv_iload_n hx hb dX0_faultsOfContract_61 rfl (lv_at hl 4 rfl) ?_
        refine lv_iload hx hb dX0_faultsOfContract_62 (lv_at hl 6 rfl) ?_
        refine vp_callSi (W.runV (As := [.int c, .int n]) (rest := []) ⟨hx, hb, hml, hown, hts⟩ (tX0_aboveB l E X A z I0 L0 a0 t_a0 c (c_t) h_c (by omega) n (n_t) h_n (u_) (hcl0) (hob) (hnn)) (cwV 2 hts gX0_faultsOfContract_X0_isAboveCap rfl rfl rfl (by decide +kernel) ⟨Nat.le_of_ble_eq_true rfl, Nat.le_of_ble_eq_true rfl⟩) ⟨h_blind _ _ _ _ _ _ _, h_recv g t_a0 (by decide) so_1 (q := (RX0, TX0, 9)) rfl, h_pre _ hE hk hX hA hI hR g⟩ rfl rfl hl.1 rfl (lv_room (Nat.le_of_ble_eq_true rfl)) dX0_faultsOfContract_64 ⟨Nat.le_of_ble_eq_true rfl, Nat.le_of_ble_eq_true rfl⟩) (fun rh23 h23 => ?_)
        obtain ⟨h23, h23p0⟩ := h23
        refine lv_if_eq (tgt := 96) hx hb dX0_faultsOfContract_67 (by decide) (fun c24 => ?_) (fun c24 => ?_)
        · have ic24 := (xi_eq c24 rfl (by decide) : rh23.toInt = 0)
          refine lv_iload hx hb dX0_faultsOfContract_96 (lv_at hl 0 rfl) ?_
          exact W.iret (v := 2) hx hb hr (fun t ht hW => ⟨2, rfl, ⟨⟨(by decide), (by decide)⟩, (by have qn : n.toInt = n_t := h_n; have qy : y.toInt = y_t := h_y; exact ⟨0, 2, 0, 0, by decide, by unfold q_btp; omega, by unfold q_btp; omega, by unfold q_btp; omega, by unfold q_btp; omega⟩)⟩, ht⟩) (fun _ h => by cases h) dX0_faultsOfContract_98
        · have ic24 := (xi_ne c24 rfl (by decide) : rh23.toInt ≠ 0)
          refine lv_iload hx hb dX0_faultsOfContract_70 (lv_at hl 6 rfl) ?_
          refine lv_aload hx hb dX0_faultsOfContract_72 (lv_at hl 1 rfl) ?_
          refine lv_iconst (v := 3) hx hb dX0_faultsOfContract_74 (by decide) ?_
          refine vp_callSi (W.runV (As := [.int 3]) (rest := [.int n]) ⟨hx, hb, hml, hown, hts⟩ (tX5_numberF l E X A z I0 L0 rh1 trh1 3 (3) (by decide) (u_) (hlb)) (cwV 1 hts gX0_faultsOfContract_X5_number rfl rfl rfl (by decide +kernel) ⟨Nat.le_of_ble_eq_true rfl, Nat.le_of_ble_eq_true rfl⟩) ⟨h_blind _ _ _ _ _ _ _, h_recv g trh1 (by decide) so_6 (q := (RX5, TX5, 3)) rfl, h_pre _ hE hk hX hA hI hR g⟩ rfl rfl hl.1 rfl (lv_room (Nat.le_of_ble_eq_true rfl)) dX0_faultsOfContract_75 ⟨Nat.le_of_ble_eq_true rfl, Nat.le_of_ble_eq_true rfl⟩) (fun rh25 h25 => ?_)
          have h25p0 := h25
          have jrh25 : -2147483648 ≤ rh25.toInt ∧ rh25.toInt ≤ 2147483647 := ⟨xi_lo _, Int.le_of_lt_add_one (xi_hi _)⟩
          rw [q_num_at (u := u_) (x := 3) (n := 3) rfl (by decide)] at h25p0
          refine lv_icmp_gt (tgt := 89) hx hb dX0_faultsOfContract_78 (by decide) (fun c26 => ?_) (fun c26 => ?_)
          · have ic26 := (xi_lt c26 rfl h_n : rh25.toInt < n_t)
            refine lv_iload hx hb dX0_faultsOfContract_89 (lv_at hl 0 rfl) ?_
            refine lv_bipush (v := 8) hx hb dX0_faultsOfContract_91 (by decide) ?_
            refine lv_ior hx hb dX0_faultsOfContract_93 ?_
            refine xw_i (v := 10) (by decide) ?_
            refine lv_istore (lv' := [(6, .int 10), (5, .ref rh1), (0, .ref a0), (1, .ref p0), (2, .int c), (3, .int y), (4, .int n)]) hx hb dX0_faultsOfContract_94 hl (by decide) rfl (fun ls hl => ?_)
            refine lv_iload hx hb dX0_faultsOfContract_96 (lv_at hl 0 rfl) ?_
            exact W.iret (v := 10) hx hb hr (fun t ht hW => ⟨10, rfl, ⟨⟨(by decide), (by decide)⟩, (by have qn : n.toInt = n_t := h_n; have qy : y.toInt = y_t := h_y; exact ⟨0, 2, 0, 8, by decide, by unfold q_btp; omega, by unfold q_btp; omega, by unfold q_btp; omega, by unfold q_btp; omega⟩)⟩, ht⟩) (fun _ h => by cases h) dX0_faultsOfContract_98
          · have ic26 := (xi_nlt c26 rfl h_n : n_t ≤ rh25.toInt)
            refine lv_aload_n hx hb dX0_faultsOfContract_81 rfl (lv_at hl 2 rfl) ?_
            refine lv_iload_n hx hb dX0_faultsOfContract_82 rfl (lv_at hl 4 rfl) ?_
            refine vp_callSi (W.runV (As := [.int c]) (rest := []) ⟨hx, hb, hml, hown, hts⟩ (tX0_spareB l E X A z I0 L0 a0 t_a0 c (c_t) h_c (by omega)) (cwV 1 hts gX0_faultsOfContract_X0_isSpareUsed rfl rfl rfl (by decide +kernel) ⟨Nat.le_of_ble_eq_true rfl, Nat.le_of_ble_eq_true rfl⟩) ⟨h_blind _ _ _ _ _ _ _, h_recv g t_a0 (by decide) so_1 (q := (RX0, TX0, 9)) rfl, h_pre _ hE hk hX hA hI hR g⟩ rfl rfl hl.1 rfl (lv_room (Nat.le_of_ble_eq_true rfl)) dX0_faultsOfContract_83 ⟨Nat.le_of_ble_eq_true rfl, Nat.le_of_ble_eq_true rfl⟩) (fun rh27 h27 => ?_)
            obtain ⟨h27, h27p0⟩ := h27
            refine lv_if_eq (tgt := 96) hx hb dX0_faultsOfContract_86 (by decide) (fun c28 => ?_) (fun c28 => ?_)
            · have ic28 := (xi_eq c28 rfl (by decide) : rh27.toInt = 0)
              refine lv_iload hx hb dX0_faultsOfContract_96 (lv_at hl 0 rfl) ?_
              exact W.iret (v := 2) hx hb hr (fun t ht hW => ⟨2, rfl, ⟨⟨(by decide), (by decide)⟩, (by have qn : n.toInt = n_t := h_n; have qy : y.toInt = y_t := h_y; exact ⟨0, 2, 0, 0, by decide, by unfold q_btp; omega, by unfold q_btp; omega, by unfold q_btp; omega, by unfold q_btp; omega⟩)⟩, ht⟩) (fun _ h => by cases h) dX0_faultsOfContract_98
            · have ic28 := (xi_ne c28 rfl (by decide) : rh27.toInt ≠ 0)
              refine lv_iload hx hb dX0_faultsOfContract_89 (lv_at hl 0 rfl) ?_
              refine lv_bipush (v := 8) hx hb dX0_faultsOfContract_91 (by decide) ?_
              refine lv_ior hx hb dX0_faultsOfContract_93 ?_
              refine xw_i (v := 10) (by decide) ?_
              refine lv_istore (lv' := [(6, .int 10), (5, .ref rh1), (0, .ref a0), (1, .ref p0), (2, .int c), (3, .int y), (4, .int n)]) hx hb dX0_faultsOfContract_94 hl (by decide) rfl (fun ls hl => ?_)
              refine lv_iload hx hb dX0_faultsOfContract_96 (lv_at hl 0 rfl) ?_
              exact W.iret (v := 10) hx hb hr (fun t ht hW => ⟨10, rfl, ⟨⟨(by decide), (by decide)⟩, (by have qn : n.toInt = n_t := h_n; have qy : y.toInt = y_t := h_y; exact ⟨0, 2, 0, 8, by decide, by unfold q_btp; omega, by unfold q_btp; omega, by unfold q_btp; omega, by unfold q_btp; omega⟩)⟩, ht⟩) (fun _ h => by cases h) dX0_faultsOfContract_98
      · have ic22 := (xi_nle c22 h_y rfl : rh21.toInt < y_t)
        refine lv_iload hx hb dX0_faultsOfContract_54 (lv_at hl 0 rfl) ?_
        refine lv_iconst (v := 4) hx hb dX0_faultsOfContract_56 (by decide) ?_
        refine lv_ior hx hb dX0_faultsOfContract_57 ?_
        refine xw_i (v := 6) (by decide) ?_
        refine lv_istore (lv' := [(6, .int 6), (5, .ref rh1), (0, .ref a0), (1, .ref p0), (2, .int c), (3, .int y), (4, .int n)]) hx hb dX0_faultsOfContract_58 hl (by decide) rfl (fun ls hl => ?_)
        refine lv_aload_n hx hb dX0_faultsOfContract_60 rfl (lv_at hl 2 rfl) ?_
        refine lv_iload_n hx hb dX0_faultsOfContract_61 rfl (lv_at hl 4 rfl) ?_
        refine lv_iload hx hb dX0_faultsOfContract_62 (lv_at hl 6 rfl) ?_
        refine vp_callSi (W.runV (As := [.int c, .int n]) (rest := []) ⟨hx, hb, hml, hown, hts⟩ (tX0_aboveB l E X A z I0 L0 a0 t_a0 c (c_t) h_c (by omega) n (n_t) h_n (u_) (hcl0) (hob) (hnn)) (cwV 2 hts gX0_faultsOfContract_X0_isAboveCap rfl rfl rfl (by decide +kernel) ⟨Nat.le_of_ble_eq_true rfl, Nat.le_of_ble_eq_true rfl⟩) ⟨h_blind _ _ _ _ _ _ _, h_recv g t_a0 (by decide) so_1 (q := (RX0, TX0, 9)) rfl, h_pre _ hE hk hX hA hI hR g⟩ rfl rfl hl.1 rfl (lv_room (Nat.le_of_ble_eq_true rfl)) dX0_faultsOfContract_64 ⟨Nat.le_of_ble_eq_true rfl, Nat.le_of_ble_eq_true rfl⟩) (fun rh29 h29 => ?_)
        obtain ⟨h29, h29p0⟩ := h29
        refine lv_if_eq (tgt := 96) hx hb dX0_faultsOfContract_67 (by decide) (fun c30 => ?_) (fun c30 => ?_)
        · have ic30 := (xi_eq c30 rfl (by decide) : rh29.toInt = 0)
          refine lv_iload hx hb dX0_faultsOfContract_96 (lv_at hl 0 rfl) ?_
          exact W.iret (v := 6) hx hb hr (fun t ht hW => ⟨6, rfl, ⟨⟨(by decide), (by decide)⟩, (by have qn : n.toInt = n_t := h_n; have qy : y.toInt = y_t := h_y; exact ⟨0, 2, 4, 0, by decide, by unfold q_btp; omega, by unfold q_btp; omega, by unfold q_btp; omega, by unfold q_btp; omega⟩)⟩, ht⟩) (fun _ h => by cases h) dX0_faultsOfContract_98
        · have ic30 := (xi_ne c30 rfl (by decide) : rh29.toInt ≠ 0)
          refine lv_iload hx hb dX0_faultsOfContract_70 (lv_at hl 6 rfl) ?_
          refine lv_aload hx hb dX0_faultsOfContract_72 (lv_at hl 1 rfl) ?_
          refine lv_iconst (v := 3) hx hb dX0_faultsOfContract_74 (by decide) ?_
          refine vp_callSi (W.runV (As := [.int 3]) (rest := [.int n]) ⟨hx, hb, hml, hown, hts⟩ (tX5_numberF l E X A z I0 L0 rh1 trh1 3 (3) (by decide) (u_) (hlb)) (cwV 1 hts gX0_faultsOfContract_X5_number rfl rfl rfl (by decide +kernel) ⟨Nat.le_of_ble_eq_true rfl, Nat.le_of_ble_eq_true rfl⟩) ⟨h_blind _ _ _ _ _ _ _, h_recv g trh1 (by decide) so_6 (q := (RX5, TX5, 3)) rfl, h_pre _ hE hk hX hA hI hR g⟩ rfl rfl hl.1 rfl (lv_room (Nat.le_of_ble_eq_true rfl)) dX0_faultsOfContract_75 ⟨Nat.le_of_ble_eq_true rfl, Nat.le_of_ble_eq_true rfl⟩) (fun rh31 h31 => ?_)
          have h31p0 := h31
          have jrh31 : -2147483648 ≤ rh31.toInt ∧ rh31.toInt ≤ 2147483647 := ⟨xi_lo _, Int.le_of_lt_add_one (xi_hi _)⟩
          rw [q_num_at (u := u_) (x := 3) (n := 3) rfl (by decide)] at h31p0
          refine lv_icmp_gt (tgt := 89) hx hb dX0_faultsOfContract_78 (by decide) (fun c32 => ?_) (fun c32 => ?_)
          · have ic32 := (xi_lt c32 rfl h_n : rh31.toInt < n_t)
            refine lv_iload hx hb dX0_faultsOfContract_89 (lv_at hl 0 rfl) ?_
            refine lv_bipush (v := 8) hx hb dX0_faultsOfContract_91 (by decide) ?_
            refine lv_ior hx hb dX0_faultsOfContract_93 ?_
            refine xw_i (v := 14) (by decide) ?_
            refine lv_istore (lv' := [(6, .int 14), (5, .ref rh1), (0, .ref a0), (1, .ref p0), (2, .int c), (3, .int y), (4, .int n)]) hx hb dX0_faultsOfContract_94 hl (by decide) rfl (fun ls hl => ?_)
            refine lv_iload hx hb dX0_faultsOfContract_96 (lv_at hl 0 rfl) ?_
            exact W.iret (v := 14) hx hb hr (fun t ht hW => ⟨14, rfl, ⟨⟨(by decide), (by decide)⟩, (by have qn : n.toInt = n_t := h_n; have qy : y.toInt = y_t := h_y; exact ⟨0, 2, 4, 8, by decide, by unfold q_btp; omega, by unfold q_btp; omega, by unfold q_btp; omega, by unfold q_btp; omega⟩)⟩, ht⟩) (fun _ h => by cases h) dX0_faultsOfContract_98
          · have ic32 := (xi_nlt c32 rfl h_n : n_t ≤ rh31.toInt)
            refine lv_aload_n hx hb dX0_faultsOfContract_81 rfl (lv_at hl 2 rfl) ?_
            refine lv_iload_n hx hb dX0_faultsOfContract_82 rfl (lv_at hl 4 rfl) ?_
            refine vp_callSi (W.runV (As := [.int c]) (rest := []) ⟨hx, hb, hml, hown, hts⟩ (tX0_spareB l E X A z I0 L0 a0 t_a0 c (c_t) h_c (by omega)) (cwV 1 hts gX0_faultsOfContract_X0_isSpareUsed rfl rfl rfl (by decide +kernel) ⟨Nat.le_of_ble_eq_true rfl, Nat.le_of_ble_eq_true rfl⟩) ⟨h_blind _ _ _ _ _ _ _, h_recv g t_a0 (by decide) so_1 (q := (RX0, TX0, 9)) rfl, h_pre _ hE hk hX hA hI hR g⟩ rfl rfl hl.1 rfl (lv_room (Nat.le_of_ble_eq_true rfl)) dX0_faultsOfContract_83 ⟨Nat.le_of_ble_eq_true rfl, Nat.le_of_ble_eq_true rfl⟩) (fun rh33 h33 => ?_)
            obtain ⟨h33, h33p0⟩ := h33
            refine lv_if_eq (tgt := 96) hx hb dX0_faultsOfContract_86 (by decide) (fun c34 => ?_) (fun c34 => ?_)
            · have ic34 := (xi_eq c34 rfl (by decide) : rh33.toInt = 0)
              refine lv_iload hx hb dX0_faultsOfContract_96 (lv_at hl 0 rfl) ?_
              exact W.iret (v := 6) hx hb hr (fun t ht hW => ⟨6, rfl, ⟨⟨(by decide), (by decide)⟩, (by have qn : n.toInt = n_t := h_n; have qy : y.toInt = y_t := h_y; exact ⟨0, 2, 4, 0, by decide, by unfold q_btp; omega, by unfold q_btp; omega, by unfold q_btp; omega, by unfold q_btp; omega⟩)⟩, ht⟩) (fun _ h => by cases h) dX0_faultsOfContract_98
            · have ic34 := (xi_ne c34 rfl (by decide) : rh33.toInt ≠ 0)
              refine lv_iload hx hb dX0_faultsOfContract_89 (lv_at hl 0 rfl) ?_
              refine lv_bipush (v := 8) hx hb dX0_faultsOfContract_91 (by decide) ?_
              refine lv_ior hx hb dX0_faultsOfContract_93 ?_
              refine xw_i (v := 14) (by decide) ?_
              refine lv_istore (lv' := [(6, .int 14), (5, .ref rh1), (0, .ref a0), (1, .ref p0), (2, .int c), (3, .int y), (4, .int n)]) hx hb dX0_faultsOfContract_94 hl (by decide) rfl (fun ls hl => ?_)
              refine lv_iload hx hb dX0_faultsOfContract_96 (lv_at hl 0 rfl) ?_
              exact W.iret (v := 14) hx hb hr (fun t ht hW => ⟨14, rfl, ⟨⟨(by decide), (by decide)⟩, (by have qn : n.toInt = n_t := h_n; have qy : y.toInt = y_t := h_y; exact ⟨0, 2, 4, 8, by decide, by unfold q_btp; omega, by unfold q_btp; omega, by unfold q_btp; omega, by unfold q_btp; omega⟩)⟩, ht⟩) (fun _ h => by cases h) dX0_faultsOfContract_98
  · have ic3 := (xi_ne c3 rfl (by decide) : rh2.toInt ≠ 0)
    refine lv_iconst (v := 1) hx hb dX0_faultsOfContract_13 (by decide) ?_
    refine lv_goto (tgt := 18) hx hb dX0_faultsOfContract_14 (by decide) ?_
    refine lv_istore (lv' := [(6, .int 1), (5, .ref rh1), (0, .ref a0), (1, .ref p0), (2, .int c), (3, .int y), (4, .int n)]) hx hb dX0_faultsOfContract_18 hl (by decide) rfl (fun ls hl => ?_)
    refine lv_aload_n hx hb dX0_faultsOfContract_20 rfl (lv_at hl 2 rfl) ?_
    refine lv_iload_n hx hb dX0_faultsOfContract_21 rfl (lv_at hl 4 rfl) ?_
    refine lv_aload_n hx hb dX0_faultsOfContract_22 rfl (lv_at hl 2 rfl) ?_
    refine h_get (v := .int f0_3) hx hb hts iX0 hown g t_a0 (by decide) so_1 rfl 3 (by decide) (hts (.fieldLink RX0 37 "CapLeague$Books" "clock" "I") (by decide +kernel)) rfl dX0_faultsOfContract_23 (congrArg Value.int (ef0_3.symm)) ?_
    refine vp_callSi (W.runV (As := [.int c, .int f0_3]) (rest := []) ⟨hx, hb, hml, hown, hts⟩ (tX0_playersInB l E X A z I0 L0 a0 t_a0 c (c_t) h_c f0_3 (f0_3.toInt) rfl (hnn)) (cwV 2 hts gX0_faultsOfContract_X0_playersIn rfl rfl rfl (by decide +kernel) ⟨Nat.le_of_ble_eq_true rfl, Nat.le_of_ble_eq_true rfl⟩) ⟨h_blind _ _ _ _ _ _ _, h_recv g t_a0 (by decide) so_1 (q := (RX0, TX0, 9)) rfl, h_pre _ hE hk hX hA hI hR g⟩ rfl rfl hl.1 rfl (lv_room (Nat.le_of_ble_eq_true rfl)) dX0_faultsOfContract_26 ⟨Nat.le_of_ble_eq_true rfl, Nat.le_of_ble_eq_true rfl⟩) (fun rh35 h35 => ?_)
    have h35p0 := h35
    have jrh35 : -2147483648 ≤ rh35.toInt ∧ rh35.toInt ≤ 2147483647 := ⟨xi_lo _, Int.le_of_lt_add_one (xi_hi _)⟩
    rw [ef0_3] at h35p0
    replace h35p0 := congrArg Int32.toInt h35p0
    refine lv_aload hx hb dX0_faultsOfContract_29 (lv_at hl 1 rfl) ?_
    refine lv_iconst (v := 1) hx hb dX0_faultsOfContract_31 (by decide) ?_
    refine vp_callSi (W.runV (As := [.int 1]) (rest := [.int rh35]) ⟨hx, hb, hml, hown, hts⟩ (tX5_numberF l E X A z I0 L0 rh1 trh1 1 (1) (by decide) (u_) (hlb)) (cwV 1 hts gX0_faultsOfContract_X5_number rfl rfl rfl (by decide +kernel) ⟨Nat.le_of_ble_eq_true rfl, Nat.le_of_ble_eq_true rfl⟩) ⟨h_blind _ _ _ _ _ _ _, h_recv g trh1 (by decide) so_6 (q := (RX5, TX5, 3)) rfl, h_pre _ hE hk hX hA hI hR g⟩ rfl rfl hl.1 rfl (lv_room (Nat.le_of_ble_eq_true rfl)) dX0_faultsOfContract_32 ⟨Nat.le_of_ble_eq_true rfl, Nat.le_of_ble_eq_true rfl⟩) (fun rh36 h36 => ?_)
    have h36p0 := h36
    have jrh36 : -2147483648 ≤ rh36.toInt ∧ rh36.toInt ≤ 2147483647 := ⟨xi_lo _, Int.le_of_lt_add_one (xi_hi _)⟩
    rw [q_num_at (u := u_) (x := 1) (n := 1) rfl (by decide)] at h36p0
    refine lv_icmp_lt (tgt := 44) hx hb dX0_faultsOfContract_35 (by decide) (fun c37 => ?_) (fun c37 => ?_)
    · have ic37 := (xi_lt c37 rfl rfl : rh35.toInt < rh36.toInt)
      refine lv_iload_n hx hb dX0_faultsOfContract_44 rfl (lv_at hl 5 rfl) ?_
      refine lv_aload hx hb dX0_faultsOfContract_45 (lv_at hl 1 rfl) ?_
      refine lv_iconst (v := 2) hx hb dX0_faultsOfContract_47 (by decide) ?_
      refine vp_callSi (W.runV (As := [.int 2]) (rest := [.int y]) ⟨hx, hb, hml, hown, hts⟩ (tX5_numberF l E X A z I0 L0 rh1 trh1 2 (2) (by decide) (u_) (hlb)) (cwV 1 hts gX0_faultsOfContract_X5_number rfl rfl rfl (by decide +kernel) ⟨Nat.le_of_ble_eq_true rfl, Nat.le_of_ble_eq_true rfl⟩) ⟨h_blind _ _ _ _ _ _ _, h_recv g trh1 (by decide) so_6 (q := (RX5, TX5, 3)) rfl, h_pre _ hE hk hX hA hI hR g⟩ rfl rfl hl.1 rfl (lv_room (Nat.le_of_ble_eq_true rfl)) dX0_faultsOfContract_48 ⟨Nat.le_of_ble_eq_true rfl, Nat.le_of_ble_eq_true rfl⟩) (fun rh38 h38 => ?_)
      have h38p0 := h38
      have jrh38 : -2147483648 ≤ rh38.toInt ∧ rh38.toInt ≤ 2147483647 := ⟨xi_lo _, Int.le_of_lt_add_one (xi_hi _)⟩
      rw [q_num_at (u := u_) (x := 2) (n := 2) rfl (by decide)] at h38p0
      refine lv_icmp_le (tgt := 60) hx hb dX0_faultsOfContract_51 (by decide) (fun c39 => ?_) (fun c39 => ?_)
      · have ic39 := (xi_le c39 h_y rfl : y_t ≤ rh38.toInt)
        refine lv_aload_n hx hb dX0_faultsOfContract_60 rfl (lv_at hl 2 rfl) ?_
        refine lv_iload_n hx hb dX0_faultsOfContract_61 rfl (lv_at hl 4 rfl) ?_
        refine lv_iload hx hb dX0_faultsOfContract_62 (lv_at hl 6 rfl) ?_
        refine vp_callSi (W.runV (As := [.int c, .int n]) (rest := []) ⟨hx, hb, hml, hown, hts⟩ (tX0_aboveB l E X A z I0 L0 a0 t_a0 c (c_t) h_c (by omega) n (n_t) h_n (u_) (hcl0) (hob) (hnn)) (cwV 2 hts gX0_faultsOfContract_X0_isAboveCap rfl rfl rfl (by decide +kernel) ⟨Nat.le_of_ble_eq_true rfl, Nat.le_of_ble_eq_true rfl⟩) ⟨h_blind _ _ _ _ _ _ _, h_recv g t_a0 (by decide) so_1 (q := (RX0, TX0, 9)) rfl, h_pre _ hE hk hX hA hI hR g⟩ rfl rfl hl.1 rfl (lv_room (Nat.le_of_ble_eq_true rfl)) dX0_faultsOfContract_64 ⟨Nat.le_of_ble_eq_true rfl, Nat.le_of_ble_eq_true rfl⟩) (fun rh40 h40 => ?_)
        obtain ⟨h40, h40p0⟩ := h40
        refine lv_if_eq (tgt := 96) hx hb dX0_faultsOfContract_67 (by decide) (fun c41 => ?_) (fun c41 => ?_)
        · have ic41 := (xi_eq c41 rfl (by decide) : rh40.toInt = 0)
          refine lv_iload hx hb dX0_faultsOfContract_96 (lv_at hl 0 rfl) ?_
          exact W.iret (v := 1) hx hb hr (fun t ht hW => ⟨1, rfl, ⟨⟨(by decide), (by decide)⟩, (by have qn : n.toInt = n_t := h_n; have qy : y.toInt = y_t := h_y; exact ⟨1, 0, 0, 0, by decide, by unfold q_btp; omega, by unfold q_btp; omega, by unfold q_btp; omega, by unfold q_btp; omega⟩)⟩, ht⟩) (fun _ h => by cases h) dX0_faultsOfContract_98
        · have ic41 := (xi_ne c41 rfl (by decide) : rh40.toInt ≠ 0)
          refine lv_iload hx hb dX0_faultsOfContract_70 (lv_at hl 6 rfl) ?_
          refine lv_aload hx hb dX0_faultsOfContract_72 (lv_at hl 1 rfl) ?_
          refine lv_iconst (v := 3) hx hb dX0_faultsOfContract_74 (by decide) ?_
          refine vp_callSi (W.runV (As := [.int 3]) (rest := [.int n]) ⟨hx, hb, hml, hown, hts⟩ (tX5_numberF l E X A z I0 L0 rh1 trh1 3 (3) (by decide) (u_) (hlb)) (cwV 1 hts gX0_faultsOfContract_X5_number rfl rfl rfl (by decide +kernel) ⟨Nat.le_of_ble_eq_true rfl, Nat.le_of_ble_eq_true rfl⟩) ⟨h_blind _ _ _ _ _ _ _, h_recv g trh1 (by decide) so_6 (q := (RX5, TX5, 3)) rfl, h_pre _ hE hk hX hA hI hR g⟩ rfl rfl hl.1 rfl (lv_room (Nat.le_of_ble_eq_true rfl)) dX0_faultsOfContract_75 ⟨Nat.le_of_ble_eq_true rfl, Nat.le_of_ble_eq_true rfl⟩) (fun rh42 h42 => ?_)
          have h42p0 := h42
          have jrh42 : -2147483648 ≤ rh42.toInt ∧ rh42.toInt ≤ 2147483647 := ⟨xi_lo _, Int.le_of_lt_add_one (xi_hi _)⟩
          rw [q_num_at (u := u_) (x := 3) (n := 3) rfl (by decide)] at h42p0
          refine lv_icmp_gt (tgt := 89) hx hb dX0_faultsOfContract_78 (by decide) (fun c43 => ?_) (fun c43 => ?_)
          · have ic43 := (xi_lt c43 rfl h_n : rh42.toInt < n_t)
            refine lv_iload hx hb dX0_faultsOfContract_89 (lv_at hl 0 rfl) ?_
            refine lv_bipush (v := 8) hx hb dX0_faultsOfContract_91 (by decide) ?_
            refine lv_ior hx hb dX0_faultsOfContract_93 ?_
            refine xw_i (v := 9) (by decide) ?_
            refine lv_istore (lv' := [(6, .int 9), (5, .ref rh1), (0, .ref a0), (1, .ref p0), (2, .int c), (3, .int y), (4, .int n)]) hx hb dX0_faultsOfContract_94 hl (by decide) rfl (fun ls hl => ?_)
            refine lv_iload hx hb dX0_faultsOfContract_96 (lv_at hl 0 rfl) ?_
            exact W.iret (v := 9) hx hb hr (fun t ht hW => ⟨9, rfl, ⟨⟨(by decide), (by decide)⟩, (by have qn : n.toInt = n_t := h_n; have qy : y.toInt = y_t := h_y; exact ⟨1, 0, 0, 8, by decide, by unfold q_btp; omega, by unfold q_btp; omega, by unfold q_btp; omega, by unfold q_btp; omega⟩)⟩, ht⟩) (fun _ h => by cases h) dX0_faultsOfContract_98
          · have ic43 := (xi_nlt c43 rfl h_n : n_t ≤ rh42.toInt)
            refine lv_aload_n hx hb dX0_faultsOfContract_81 rfl (lv_at hl 2 rfl) ?_
            refine lv_iload_n hx hb dX0_faultsOfContract_82 rfl (lv_at hl 4 rfl) ?_
            refine vp_callSi (W.runV (As := [.int c]) (rest := []) ⟨hx, hb, hml, hown, hts⟩ (tX0_spareB l E X A z I0 L0 a0 t_a0 c (c_t) h_c (by omega)) (cwV 1 hts gX0_faultsOfContract_X0_isSpareUsed rfl rfl rfl (by decide +kernel) ⟨Nat.le_of_ble_eq_true rfl, Nat.le_of_ble_eq_true rfl⟩) ⟨h_blind _ _ _ _ _ _ _, h_recv g t_a0 (by decide) so_1 (q := (RX0, TX0, 9)) rfl, h_pre _ hE hk hX hA hI hR g⟩ rfl rfl hl.1 rfl (lv_room (Nat.le_of_ble_eq_true rfl)) dX0_faultsOfContract_83 ⟨Nat.le_of_ble_eq_true rfl, Nat.le_of_ble_eq_true rfl⟩) (fun rh44 h44 => ?_)
            obtain ⟨h44, h44p0⟩ := h44
            refine lv_if_eq (tgt := 96) hx hb dX0_faultsOfContract_86 (by decide) (fun c45 => ?_) (fun c45 => ?_)
            · have ic45 := (xi_eq c45 rfl (by decide) : rh44.toInt = 0)
              refine lv_iload hx hb dX0_faultsOfContract_96 (lv_at hl 0 rfl) ?_
              exact W.iret (v := 1) hx hb hr (fun t ht hW => ⟨1, rfl, ⟨⟨(by decide), (by decide)⟩, (by have qn : n.toInt = n_t := h_n; have qy : y.toInt = y_t := h_y; exact ⟨1, 0, 0, 0, by decide, by unfold q_btp; omega, by unfold q_btp; omega, by unfold q_btp; omega, by unfold q_btp; omega⟩)⟩, ht⟩) (fun _ h => by cases h) dX0_faultsOfContract_98
            · have ic45 := (xi_ne c45 rfl (by decide) : rh44.toInt ≠ 0)
              refine lv_iload hx hb dX0_faultsOfContract_89 (lv_at hl 0 rfl) ?_
              refine lv_bipush (v := 8) hx hb dX0_faultsOfContract_91 (by decide) ?_
              refine lv_ior hx hb dX0_faultsOfContract_93 ?_
              refine xw_i (v := 9) (by decide) ?_
              refine lv_istore (lv' := [(6, .int 9), (5, .ref rh1), (0, .ref a0), (1, .ref p0), (2, .int c), (3, .int y), (4, .int n)]) hx hb dX0_faultsOfContract_94 hl (by decide) rfl (fun ls hl => ?_)
              refine lv_iload hx hb dX0_faultsOfContract_96 (lv_at hl 0 rfl) ?_
              exact W.iret (v := 9) hx hb hr (fun t ht hW => ⟨9, rfl, ⟨⟨(by decide), (by decide)⟩, (by have qn : n.toInt = n_t := h_n; have qy : y.toInt = y_t := h_y; exact ⟨1, 0, 0, 8, by decide, by unfold q_btp; omega, by unfold q_btp; omega, by unfold q_btp; omega, by unfold q_btp; omega⟩)⟩, ht⟩) (fun _ h => by cases h) dX0_faultsOfContract_98
      · have ic39 := (xi_nle c39 h_y rfl : rh38.toInt < y_t)
        refine lv_iload hx hb dX0_faultsOfContract_54 (lv_at hl 0 rfl) ?_
        refine lv_iconst (v := 4) hx hb dX0_faultsOfContract_56 (by decide) ?_
        refine lv_ior hx hb dX0_faultsOfContract_57 ?_
        refine xw_i (v := 5) (by decide) ?_
        refine lv_istore (lv' := [(6, .int 5), (5, .ref rh1), (0, .ref a0), (1, .ref p0), (2, .int c), (3, .int y), (4, .int n)]) hx hb dX0_faultsOfContract_58 hl (by decide) rfl (fun ls hl => ?_)
        refine lv_aload_n hx hb dX0_faultsOfContract_60 rfl (lv_at hl 2 rfl) ?_
        refine lv_iload_n hx hb dX0_faultsOfContract_61 rfl (lv_at hl 4 rfl) ?_
        refine lv_iload hx hb dX0_faultsOfContract_62 (lv_at hl 6 rfl) ?_
        refine vp_callSi (W.runV (As := [.int c, .int n]) (rest := []) ⟨hx, hb, hml, hown, hts⟩ (tX0_aboveB l E X A z I0 L0 a0 t_a0 c (c_t) h_c (by omega) n (n_t) h_n (u_) (hcl0) (hob) (hnn)) (cwV 2 hts gX0_faultsOfContract_X0_isAboveCap rfl rfl rfl (by decide +kernel) ⟨Nat.le_of_ble_eq_true rfl, Nat.le_of_ble_eq_true rfl⟩) ⟨h_blind _ _ _ _ _ _ _, h_recv g t_a0 (by decide) so_1 (q := (RX0, TX0, 9)) rfl, h_pre _ hE hk hX hA hI hR g⟩ rfl rfl hl.1 rfl (lv_room (Nat.le_of_ble_eq_true rfl)) dX0_faultsOfContract_64 ⟨Nat.le_of_ble_eq_true rfl, Nat.le_of_ble_eq_true rfl⟩) (fun rh46 h46 => ?_)
        obtain ⟨h46, h46p0⟩ := h46
        refine lv_if_eq (tgt := 96) hx hb dX0_faultsOfContract_67 (by decide) (fun c47 => ?_) (fun c47 => ?_)
        · have ic47 := (xi_eq c47 rfl (by decide) : rh46.toInt = 0)
          refine lv_iload hx hb dX0_faultsOfContract_96 (lv_at hl 0 rfl) ?_
          exact W.iret (v := 5) hx hb hr (fun t ht hW => ⟨5, rfl, ⟨⟨(by decide), (by decide)⟩, (by have qn : n.toInt = n_t := h_n; have qy : y.toInt = y_t := h_y; exact ⟨1, 0, 4, 0, by decide, by unfold q_btp; omega, by unfold q_btp; omega, by unfold q_btp; omega, by unfold q_btp; omega⟩)⟩, ht⟩) (fun _ h => by cases h) dX0_faultsOfContract_98
        · have ic47 := (xi_ne c47 rfl (by decide) : rh46.toInt ≠ 0)
          refine lv_iload hx hb dX0_faultsOfContract_70 (lv_at hl 6 rfl) ?_
          refine lv_aload hx hb dX0_faultsOfContract_72 (lv_at hl 1 rfl) ?_
          refine lv_iconst (v := 3) hx hb dX0_faultsOfContract_74 (by decide) ?_
          refine vp_callSi (W.runV (As := [.int 3]) (rest := [.int n]) ⟨hx, hb, hml, hown, hts⟩ (tX5_numberF l E X A z I0 L0 rh1 trh1 3 (3) (by decide) (u_) (hlb)) (cwV 1 hts gX0_faultsOfContract_X5_number rfl rfl rfl (by decide +kernel) ⟨Nat.le_of_ble_eq_true rfl, Nat.le_of_ble_eq_true rfl⟩) ⟨h_blind _ _ _ _ _ _ _, h_recv g trh1 (by decide) so_6 (q := (RX5, TX5, 3)) rfl, h_pre _ hE hk hX hA hI hR g⟩ rfl rfl hl.1 rfl (lv_room (Nat.le_of_ble_eq_true rfl)) dX0_faultsOfContract_75 ⟨Nat.le_of_ble_eq_true rfl, Nat.le_of_ble_eq_true rfl⟩) (fun rh48 h48 => ?_)
          have h48p0 := h48
          have jrh48 : -2147483648 ≤ rh48.toInt ∧ rh48.toInt ≤ 2147483647 := ⟨xi_lo _, Int.le_of_lt_add_one (xi_hi _)⟩
          rw [q_num_at (u := u_) (x := 3) (n := 3) rfl (by decide)] at h48p0
          refine lv_icmp_gt (tgt := 89) hx hb dX0_faultsOfContract_78 (by decide) (fun c49 => ?_) (fun c49 => ?_)
          · have ic49 := (xi_lt c49 rfl h_n : rh48.toInt < n_t)
            refine lv_iload hx hb dX0_faultsOfContract_89 (lv_at hl 0 rfl) ?_
            refine lv_bipush (v := 8) hx hb dX0_faultsOfContract_91 (by decide) ?_
            refine lv_ior hx hb dX0_faultsOfContract_93 ?_
            refine xw_i (v := 13) (by decide) ?_
            refine lv_istore (lv' := [(6, .int 13), (5, .ref rh1), (0, .ref a0), (1, .ref p0), (2, .int c), (3, .int y), (4, .int n)]) hx hb dX0_faultsOfContract_94 hl (by decide) rfl (fun ls hl => ?_)
            refine lv_iload hx hb dX0_faultsOfContract_96 (lv_at hl 0 rfl) ?_
            exact W.iret (v := 13) hx hb hr (fun t ht hW => ⟨13, rfl, ⟨⟨(by decide), (by decide)⟩, (by have qn : n.toInt = n_t := h_n; have qy : y.toInt = y_t := h_y; exact ⟨1, 0, 4, 8, by decide, by unfold q_btp; omega, by unfold q_btp; omega, by unfold q_btp; omega, by unfold q_btp; omega⟩)⟩, ht⟩) (fun _ h => by cases h) dX0_faultsOfContract_98
          · have ic49 := (xi_nlt c49 rfl h_n : n_t ≤ rh48.toInt)
            refine lv_aload_n hx hb dX0_faultsOfContract_81 rfl (lv_at hl 2 rfl) ?_
            refine lv_iload_n hx hb dX0_faultsOfContract_82 rfl (lv_at hl 4 rfl) ?_
            refine vp_callSi (W.runV (As := [.int c]) (rest := []) ⟨hx, hb, hml, hown, hts⟩ (tX0_spareB l E X A z I0 L0 a0 t_a0 c (c_t) h_c (by omega)) (cwV 1 hts gX0_faultsOfContract_X0_isSpareUsed rfl rfl rfl (by decide +kernel) ⟨Nat.le_of_ble_eq_true rfl, Nat.le_of_ble_eq_true rfl⟩) ⟨h_blind _ _ _ _ _ _ _, h_recv g t_a0 (by decide) so_1 (q := (RX0, TX0, 9)) rfl, h_pre _ hE hk hX hA hI hR g⟩ rfl rfl hl.1 rfl (lv_room (Nat.le_of_ble_eq_true rfl)) dX0_faultsOfContract_83 ⟨Nat.le_of_ble_eq_true rfl, Nat.le_of_ble_eq_true rfl⟩) (fun rh50 h50 => ?_)
            obtain ⟨h50, h50p0⟩ := h50
            refine lv_if_eq (tgt := 96) hx hb dX0_faultsOfContract_86 (by decide) (fun c51 => ?_) (fun c51 => ?_)
            · have ic51 := (xi_eq c51 rfl (by decide) : rh50.toInt = 0)
              refine lv_iload hx hb dX0_faultsOfContract_96 (lv_at hl 0 rfl) ?_
              exact W.iret (v := 5) hx hb hr (fun t ht hW => ⟨5, rfl, ⟨⟨(by decide), (by decide)⟩, (by have qn : n.toInt = n_t := h_n; have qy : y.toInt = y_t := h_y; exact ⟨1, 0, 4, 0, by decide, by unfold q_btp; omega, by unfold q_btp; omega, by unfold q_btp; omega, by unfold q_btp; omega⟩)⟩, ht⟩) (fun _ h => by cases h) dX0_faultsOfContract_98
            · have ic51 := (xi_ne c51 rfl (by decide) : rh50.toInt ≠ 0)
              refine lv_iload hx hb dX0_faultsOfContract_89 (lv_at hl 0 rfl) ?_
              refine lv_bipush (v := 8) hx hb dX0_faultsOfContract_91 (by decide) ?_
              refine lv_ior hx hb dX0_faultsOfContract_93 ?_
              refine xw_i (v := 13) (by decide) ?_
              refine lv_istore (lv' := [(6, .int 13), (5, .ref rh1), (0, .ref a0), (1, .ref p0), (2, .int c), (3, .int y), (4, .int n)]) hx hb dX0_faultsOfContract_94 hl (by decide) rfl (fun ls hl => ?_)
              refine lv_iload hx hb dX0_faultsOfContract_96 (lv_at hl 0 rfl) ?_
              exact W.iret (v := 13) hx hb hr (fun t ht hW => ⟨13, rfl, ⟨⟨(by decide), (by decide)⟩, (by have qn : n.toInt = n_t := h_n; have qy : y.toInt = y_t := h_y; exact ⟨1, 0, 4, 8, by decide, by unfold q_btp; omega, by unfold q_btp; omega, by unfold q_btp; omega, by unfold q_btp; omega⟩)⟩, ht⟩) (fun _ h => by cases h) dX0_faultsOfContract_98
    · have ic37 := (xi_nlt c37 rfl rfl : rh36.toInt ≤ rh35.toInt)
      refine lv_iload hx hb dX0_faultsOfContract_38 (lv_at hl 0 rfl) ?_
      refine lv_iconst (v := 2) hx hb dX0_faultsOfContract_40 (by decide) ?_
      refine lv_ior hx hb dX0_faultsOfContract_41 ?_
      refine xw_i (v := 3) (by decide) ?_
      refine lv_istore (lv' := [(6, .int 3), (5, .ref rh1), (0, .ref a0), (1, .ref p0), (2, .int c), (3, .int y), (4, .int n)]) hx hb dX0_faultsOfContract_42 hl (by decide) rfl (fun ls hl => ?_)
      refine lv_iload_n hx hb dX0_faultsOfContract_44 rfl (lv_at hl 5 rfl) ?_
      refine lv_aload hx hb dX0_faultsOfContract_45 (lv_at hl 1 rfl) ?_
      refine lv_iconst (v := 2) hx hb dX0_faultsOfContract_47 (by decide) ?_
      refine vp_callSi (W.runV (As := [.int 2]) (rest := [.int y]) ⟨hx, hb, hml, hown, hts⟩ (tX5_numberF l E X A z I0 L0 rh1 trh1 2 (2) (by decide) (u_) (hlb)) (cwV 1 hts gX0_faultsOfContract_X5_number rfl rfl rfl (by decide +kernel) ⟨Nat.le_of_ble_eq_true rfl, Nat.le_of_ble_eq_true rfl⟩) ⟨h_blind _ _ _ _ _ _ _, h_recv g trh1 (by decide) so_6 (q := (RX5, TX5, 3)) rfl, h_pre _ hE hk hX hA hI hR g⟩ rfl rfl hl.1 rfl (lv_room (Nat.le_of_ble_eq_true rfl)) dX0_faultsOfContract_48 ⟨Nat.le_of_ble_eq_true rfl, Nat.le_of_ble_eq_true rfl⟩) (fun rh52 h52 => ?_)
      have h52p0 := h52
      have jrh52 : -2147483648 ≤ rh52.toInt ∧ rh52.toInt ≤ 2147483647 := ⟨xi_lo _, Int.le_of_lt_add_one (xi_hi _)⟩
      rw [q_num_at (u := u_) (x := 2) (n := 2) rfl (by decide)] at h52p0
      refine lv_icmp_le (tgt := 60) hx hb dX0_faultsOfContract_51 (by decide) (fun c53 => ?_) (fun c53 => ?_)
      · have ic53 := (xi_le c53 h_y rfl : y_t ≤ rh52.toInt)
        refine lv_aload_n hx hb dX0_faultsOfContract_60 rfl (lv_at hl 2 rfl) ?_
        refine lv_iload_n hx hb dX0_faultsOfContract_61 rfl (lv_at hl 4 rfl) ?_
        refine lv_iload hx hb dX0_faultsOfContract_62 (lv_at hl 6 rfl) ?_
        refine vp_callSi (W.runV (As := [.int c, .int n]) (rest := []) ⟨hx, hb, hml, hown, hts⟩ (tX0_aboveB l E X A z I0 L0 a0 t_a0 c (c_t) h_c (by omega) n (n_t) h_n (u_) (hcl0) (hob) (hnn)) (cwV 2 hts gX0_faultsOfContract_X0_isAboveCap rfl rfl rfl (by decide +kernel) ⟨Nat.le_of_ble_eq_true rfl, Nat.le_of_ble_eq_true rfl⟩) ⟨h_blind _ _ _ _ _ _ _, h_recv g t_a0 (by decide) so_1 (q := (RX0, TX0, 9)) rfl, h_pre _ hE hk hX hA hI hR g⟩ rfl rfl hl.1 rfl (lv_room (Nat.le_of_ble_eq_true rfl)) dX0_faultsOfContract_64 ⟨Nat.le_of_ble_eq_true rfl, Nat.le_of_ble_eq_true rfl⟩) (fun rh54 h54 => ?_)
        obtain ⟨h54, h54p0⟩ := h54
        refine lv_if_eq (tgt := 96) hx hb dX0_faultsOfContract_67 (by decide) (fun c55 => ?_) (fun c55 => ?_)
        · have ic55 := (xi_eq c55 rfl (by decide) : rh54.toInt = 0)
          refine lv_iload hx hb dX0_faultsOfContract_96 (lv_at hl 0 rfl) ?_
          exact W.iret (v := 3) hx hb hr (fun t ht hW => ⟨3, rfl, ⟨⟨(by decide), (by decide)⟩, (by have qn : n.toInt = n_t := h_n; have qy : y.toInt = y_t := h_y; exact ⟨1, 2, 0, 0, by decide, by unfold q_btp; omega, by unfold q_btp; omega, by unfold q_btp; omega, by unfold q_btp; omega⟩)⟩, ht⟩) (fun _ h => by cases h) dX0_faultsOfContract_98
        · have ic55 := (xi_ne c55 rfl (by decide) : rh54.toInt ≠ 0)
          refine lv_iload hx hb dX0_faultsOfContract_70 (lv_at hl 6 rfl) ?_
          refine lv_aload hx hb dX0_faultsOfContract_72 (lv_at hl 1 rfl) ?_
          refine lv_iconst (v := 3) hx hb dX0_faultsOfContract_74 (by decide) ?_
          refine vp_callSi (W.runV (As := [.int 3]) (rest := [.int n]) ⟨hx, hb, hml, hown, hts⟩ (tX5_numberF l E X A z I0 L0 rh1 trh1 3 (3) (by decide) (u_) (hlb)) (cwV 1 hts gX0_faultsOfContract_X5_number rfl rfl rfl (by decide +kernel) ⟨Nat.le_of_ble_eq_true rfl, Nat.le_of_ble_eq_true rfl⟩) ⟨h_blind _ _ _ _ _ _ _, h_recv g trh1 (by decide) so_6 (q := (RX5, TX5, 3)) rfl, h_pre _ hE hk hX hA hI hR g⟩ rfl rfl hl.1 rfl (lv_room (Nat.le_of_ble_eq_true rfl)) dX0_faultsOfContract_75 ⟨Nat.le_of_ble_eq_true rfl, Nat.le_of_ble_eq_true rfl⟩) (fun rh56 h56 => ?_)
          have h56p0 := h56
          have jrh56 : -2147483648 ≤ rh56.toInt ∧ rh56.toInt ≤ 2147483647 := ⟨xi_lo _, Int.le_of_lt_add_one (xi_hi _)⟩
          rw [q_num_at (u := u_) (x := 3) (n := 3) rfl (by decide)] at h56p0
          refine lv_icmp_gt (tgt := 89) hx hb dX0_faultsOfContract_78 (by decide) (fun c57 => ?_) (fun c57 => ?_)
          · have ic57 := (xi_lt c57 rfl h_n : rh56.toInt < n_t)
            refine lv_iload hx hb dX0_faultsOfContract_89 (lv_at hl 0 rfl) ?_
            refine lv_bipush (v := 8) hx hb dX0_faultsOfContract_91 (by decide) ?_
            refine lv_ior hx hb dX0_faultsOfContract_93 ?_
            refine xw_i (v := 11) (by decide) ?_
            refine lv_istore (lv' := [(6, .int 11), (5, .ref rh1), (0, .ref a0), (1, .ref p0), (2, .int c), (3, .int y), (4, .int n)]) hx hb dX0_faultsOfContract_94 hl (by decide) rfl (fun ls hl => ?_)
            refine lv_iload hx hb dX0_faultsOfContract_96 (lv_at hl 0 rfl) ?_
            exact W.iret (v := 11) hx hb hr (fun t ht hW => ⟨11, rfl, ⟨⟨(by decide), (by decide)⟩, (by have qn : n.toInt = n_t := h_n; have qy : y.toInt = y_t := h_y; exact ⟨1, 2, 0, 8, by decide, by unfold q_btp; omega, by unfold q_btp; omega, by unfold q_btp; omega, by unfold q_btp; omega⟩)⟩, ht⟩) (fun _ h => by cases h) dX0_faultsOfContract_98
          · have ic57 := (xi_nlt c57 rfl h_n : n_t ≤ rh56.toInt)
            refine lv_aload_n hx hb dX0_faultsOfContract_81 rfl (lv_at hl 2 rfl) ?_
            refine lv_iload_n hx hb dX0_faultsOfContract_82 rfl (lv_at hl 4 rfl) ?_
            refine vp_callSi (W.runV (As := [.int c]) (rest := []) ⟨hx, hb, hml, hown, hts⟩ (tX0_spareB l E X A z I0 L0 a0 t_a0 c (c_t) h_c (by omega)) (cwV 1 hts gX0_faultsOfContract_X0_isSpareUsed rfl rfl rfl (by decide +kernel) ⟨Nat.le_of_ble_eq_true rfl, Nat.le_of_ble_eq_true rfl⟩) ⟨h_blind _ _ _ _ _ _ _, h_recv g t_a0 (by decide) so_1 (q := (RX0, TX0, 9)) rfl, h_pre _ hE hk hX hA hI hR g⟩ rfl rfl hl.1 rfl (lv_room (Nat.le_of_ble_eq_true rfl)) dX0_faultsOfContract_83 ⟨Nat.le_of_ble_eq_true rfl, Nat.le_of_ble_eq_true rfl⟩) (fun rh58 h58 => ?_)
            obtain ⟨h58, h58p0⟩ := h58
            refine lv_if_eq (tgt := 96) hx hb dX0_faultsOfContract_86 (by decide) (fun c59 => ?_) (fun c59 => ?_)
            · have ic59 := (xi_eq c59 rfl (by decide) : rh58.toInt = 0)
              refine lv_iload hx hb dX0_faultsOfContract_96 (lv_at hl 0 rfl) ?_
              exact W.iret (v := 3) hx hb hr (fun t ht hW => ⟨3, rfl, ⟨⟨(by decide), (by decide)⟩, (by have qn : n.toInt = n_t := h_n; have qy : y.toInt = y_t := h_y; exact ⟨1, 2, 0, 0, by decide, by unfold q_btp; omega, by unfold q_btp; omega, by unfold q_btp; omega, by unfold q_btp; omega⟩)⟩, ht⟩) (fun _ h => by cases h) dX0_faultsOfContract_98
            · have ic59 := (xi_ne c59 rfl (by decide) : rh58.toInt ≠ 0)
              refine lv_iload hx hb dX0_faultsOfContract_89 (lv_at hl 0 rfl) ?_
              refine lv_bipush (v := 8) hx hb dX0_faultsOfContract_91 (by decide) ?_
              refine lv_ior hx hb dX0_faultsOfContract_93 ?_
              refine xw_i (v := 11) (by decide) ?_
              refine lv_istore (lv' := [(6, .int 11), (5, .ref rh1), (0, .ref a0), (1, .ref p0), (2, .int c), (3, .int y), (4, .int n)]) hx hb dX0_faultsOfContract_94 hl (by decide) rfl (fun ls hl => ?_)
              refine lv_iload hx hb dX0_faultsOfContract_96 (lv_at hl 0 rfl) ?_
              exact W.iret (v := 11) hx hb hr (fun t ht hW => ⟨11, rfl, ⟨⟨(by decide), (by decide)⟩, (by have qn : n.toInt = n_t := h_n; have qy : y.toInt = y_t := h_y; exact ⟨1, 2, 0, 8, by decide, by unfold q_btp; omega, by unfold q_btp; omega, by unfold q_btp; omega, by unfold q_btp; omega⟩)⟩, ht⟩) (fun _ h => by cases h) dX0_faultsOfContract_98
      · have ic53 := (xi_nle c53 h_y rfl : rh52.toInt < y_t)
        refine lv_iload hx hb dX0_faultsOfContract_54 (lv_at hl 0 rfl) ?_
        refine lv_iconst (v := 4) hx hb dX0_faultsOfContract_56 (by decide) ?_
        refine lv_ior hx hb dX0_faultsOfContract_57 ?_
        refine xw_i (v := 7) (by decide) ?_
        refine lv_istore (lv' := [(6, .int 7), (5, .ref rh1), (0, .ref a0), (1, .ref p0), (2, .int c), (3, .int y), (4, .int n)]) hx hb dX0_faultsOfContract_58 hl (by decide) rfl (fun ls hl => ?_)
        refine lv_aload_n hx hb dX0_faultsOfContract_60 rfl (lv_at hl 2 rfl) ?_
        refine lv_iload_n hx hb dX0_faultsOfContract_61 rfl (lv_at hl 4 rfl) ?_
        refine lv_iload hx hb dX0_faultsOfContract_62 (lv_at hl 6 rfl) ?_
        refine vp_callSi (W.runV (As := [.int c, .int n]) (rest := []) ⟨hx, hb, hml, hown, hts⟩ (tX0_aboveB l E X A z I0 L0 a0 t_a0 c (c_t) h_c (by omega) n (n_t) h_n (u_) (hcl0) (hob) (hnn)) (cwV 2 hts gX0_faultsOfContract_X0_isAboveCap rfl rfl rfl (by decide +kernel) ⟨Nat.le_of_ble_eq_true rfl, Nat.le_of_ble_eq_true rfl⟩) ⟨h_blind _ _ _ _ _ _ _, h_recv g t_a0 (by decide) so_1 (q := (RX0, TX0, 9)) rfl, h_pre _ hE hk hX hA hI hR g⟩ rfl rfl hl.1 rfl (lv_room (Nat.le_of_ble_eq_true rfl)) dX0_faultsOfContract_64 ⟨Nat.le_of_ble_eq_true rfl, Nat.le_of_ble_eq_true rfl⟩) (fun rh60 h60 => ?_)
        obtain ⟨h60, h60p0⟩ := h60
        refine lv_if_eq (tgt := 96) hx hb dX0_faultsOfContract_67 (by decide) (fun c61 => ?_) (fun c61 => ?_)
        · have ic61 := (xi_eq c61 rfl (by decide) : rh60.toInt = 0)
          refine lv_iload hx hb dX0_faultsOfContract_96 (lv_at hl 0 rfl) ?_
          exact W.iret (v := 7) hx hb hr (fun t ht hW => ⟨7, rfl, ⟨⟨(by decide), (by decide)⟩, (by have qn : n.toInt = n_t := h_n; have qy : y.toInt = y_t := h_y; exact ⟨1, 2, 4, 0, by decide, by unfold q_btp; omega, by unfold q_btp; omega, by unfold q_btp; omega, by unfold q_btp; omega⟩)⟩, ht⟩) (fun _ h => by cases h) dX0_faultsOfContract_98
        · have ic61 := (xi_ne c61 rfl (by decide) : rh60.toInt ≠ 0)
          refine lv_iload hx hb dX0_faultsOfContract_70 (lv_at hl 6 rfl) ?_
          refine lv_aload hx hb dX0_faultsOfContract_72 (lv_at hl 1 rfl) ?_
          refine lv_iconst (v := 3) hx hb dX0_faultsOfContract_74 (by decide) ?_
          refine vp_callSi (W.runV (As := [.int 3]) (rest := [.int n]) ⟨hx, hb, hml, hown, hts⟩ (tX5_numberF l E X A z I0 L0 rh1 trh1 3 (3) (by decide) (u_) (hlb)) (cwV 1 hts gX0_faultsOfContract_X5_number rfl rfl rfl (by decide +kernel) ⟨Nat.le_of_ble_eq_true rfl, Nat.le_of_ble_eq_true rfl⟩) ⟨h_blind _ _ _ _ _ _ _, h_recv g trh1 (by decide) so_6 (q := (RX5, TX5, 3)) rfl, h_pre _ hE hk hX hA hI hR g⟩ rfl rfl hl.1 rfl (lv_room (Nat.le_of_ble_eq_true rfl)) dX0_faultsOfContract_75 ⟨Nat.le_of_ble_eq_true rfl, Nat.le_of_ble_eq_true rfl⟩) (fun rh62 h62 => ?_)
          have h62p0 := h62
          have jrh62 : -2147483648 ≤ rh62.toInt ∧ rh62.toInt ≤ 2147483647 := ⟨xi_lo _, Int.le_of_lt_add_one (xi_hi _)⟩
          rw [q_num_at (u := u_) (x := 3) (n := 3) rfl (by decide)] at h62p0
          refine lv_icmp_gt (tgt := 89) hx hb dX0_faultsOfContract_78 (by decide) (fun c63 => ?_) (fun c63 => ?_)
          · have ic63 := (xi_lt c63 rfl h_n : rh62.toInt < n_t)
            refine lv_iload hx hb dX0_faultsOfContract_89 (lv_at hl 0 rfl) ?_
            refine lv_bipush (v := 8) hx hb dX0_faultsOfContract_91 (by decide) ?_
            refine lv_ior hx hb dX0_faultsOfContract_93 ?_
            refine xw_i (v := 15) (by decide) ?_
            refine lv_istore (lv' := [(6, .int 15), (5, .ref rh1), (0, .ref a0), (1, .ref p0), (2, .int c), (3, .int y), (4, .int n)]) hx hb dX0_faultsOfContract_94 hl (by decide) rfl (fun ls hl => ?_)
            refine lv_iload hx hb dX0_faultsOfContract_96 (lv_at hl 0 rfl) ?_
            exact W.iret (v := 15) hx hb hr (fun t ht hW => ⟨15, rfl, ⟨⟨(by decide), (by decide)⟩, (by have qn : n.toInt = n_t := h_n; have qy : y.toInt = y_t := h_y; exact ⟨1, 2, 4, 8, by decide, by unfold q_btp; omega, by unfold q_btp; omega, by unfold q_btp; omega, by unfold q_btp; omega⟩)⟩, ht⟩) (fun _ h => by cases h) dX0_faultsOfContract_98
          · have ic63 := (xi_nlt c63 rfl h_n : n_t ≤ rh62.toInt)
            refine lv_aload_n hx hb dX0_faultsOfContract_81 rfl (lv_at hl 2 rfl) ?_
            refine lv_iload_n hx hb dX0_faultsOfContract_82 rfl (lv_at hl 4 rfl) ?_
            refine vp_callSi (W.runV (As := [.int c]) (rest := []) ⟨hx, hb, hml, hown, hts⟩ (tX0_spareB l E X A z I0 L0 a0 t_a0 c (c_t) h_c (by omega)) (cwV 1 hts gX0_faultsOfContract_X0_isSpareUsed rfl rfl rfl (by decide +kernel) ⟨Nat.le_of_ble_eq_true rfl, Nat.le_of_ble_eq_true rfl⟩) ⟨h_blind _ _ _ _ _ _ _, h_recv g t_a0 (by decide) so_1 (q := (RX0, TX0, 9)) rfl, h_pre _ hE hk hX hA hI hR g⟩ rfl rfl hl.1 rfl (lv_room (Nat.le_of_ble_eq_true rfl)) dX0_faultsOfContract_83 ⟨Nat.le_of_ble_eq_true rfl, Nat.le_of_ble_eq_true rfl⟩) (fun rh64 h64 => ?_)
            obtain ⟨h64, h64p0⟩ := h64
            refine lv_if_eq (tgt := 96) hx hb dX0_faultsOfContract_86 (by decide) (fun c65 => ?_) (fun c65 => ?_)
            · have ic65 := (xi_eq c65 rfl (by decide) : rh64.toInt = 0)
              refine lv_iload hx hb dX0_faultsOfContract_96 (lv_at hl 0 rfl) ?_
              exact W.iret (v := 7) hx hb hr (fun t ht hW => ⟨7, rfl, ⟨⟨(by decide), (by decide)⟩, (by have qn : n.toInt = n_t := h_n; have qy : y.toInt = y_t := h_y; exact ⟨1, 2, 4, 0, by decide, by unfold q_btp; omega, by unfold q_btp; omega, by unfold q_btp; omega, by unfold q_btp; omega⟩)⟩, ht⟩) (fun _ h => by cases h) dX0_faultsOfContract_98
            · have ic65 := (xi_ne c65 rfl (by decide) : rh64.toInt ≠ 0)
              refine lv_iload hx hb dX0_faultsOfContract_89 (lv_at hl 0 rfl) ?_
              refine lv_bipush (v := 8) hx hb dX0_faultsOfContract_91 (by decide) ?_
              refine lv_ior hx hb dX0_faultsOfContract_93 ?_
              refine xw_i (v := 15) (by decide) ?_
              refine lv_istore (lv' := [(6, .int 15), (5, .ref rh1), (0, .ref a0), (1, .ref p0), (2, .int c), (3, .int y), (4, .int n)]) hx hb dX0_faultsOfContract_94 hl (by decide) rfl (fun ls hl => ?_)
              refine lv_iload hx hb dX0_faultsOfContract_96 (lv_at hl 0 rfl) ?_
              exact W.iret (v := 15) hx hb hr (fun t ht hW => ⟨15, rfl, ⟨⟨(by decide), (by decide)⟩, (by have qn : n.toInt = n_t := h_n; have qy : y.toInt = y_t := h_y; exact ⟨1, 2, 4, 8, by decide, by unfold q_btp; omega, by unfold q_btp; omega, by unfold q_btp; omega, by unfold q_btp; omega⟩)⟩, ht⟩) (fun _ h => by cases h) dX0_faultsOfContract_98
set_option maxHeartbeats 4000000 in
set_option maxRecDepth 100000 in
theorem tX12_wrongOfB (l : Launch) (E : tE) (X : tX) (A : Nat → Prop) (z : tZ) (I0 : tI) (L0 : tL) (a0 : Nat) (t_a0 : z.ty a0 = 13) (p : Int32) (p_t : Int) (h_p : p.toInt = p_t) (b_p : 0 ≤ p_t ∧ p_t ≤ 59) (c : Int32) (c_t : Int) (h_c : c.toInt = c_t) (b_c : 0 ≤ c_t ∧ c_t ≤ 7) (y : Int32) (y_t : Int) (h_y : y.toInt = y_t) (n : Int32) (n_t : Int) (h_n : n.toInt = n_t) (u_ : Nat → Int) (hrl : h_r12 (I0 (h_ad z a0 11)) (I0 (h_ad z a0 10)) (I0 a0 12).toInt u_) (hob : q_okb u_) (hpb : ∀ p : Nat, (p : Int) < (I0 a0 13).toInt → (q_pay (I0 (h_ad z a0 14) p) (I0 (h_ad z a0 15) p) (I0 (h_ad z a0 16) p) (I0 (h_ad z a0 17) p) (I0 (h_ad z a0 18) p) (I0 a0 12)).toInt ≤ 1000000) : Met l yX12_wrongOf wsX12_wrongOf ({ frames := 5, cells := 0, slots := 0, locals := 320 }) (va_Pc [.ref a0, .int p, .int c, .int y, .int n] (h_P E X A z I0 L0)) (vp_Si (fun r => (0 ≤ r.toInt ∧ r.toInt ≤ 15) ∧ (q_flt ((I0 (h_ad z a0 14) p_t.toNat).toInt ≠ -1) (u_ 1 ≤ (m_many z I0 a0 c_t (I0 a0 12)).toInt) (u_ 2 < y_t) (u_ 0 < (m_cnt z I0 a0 c_t (I0 a0 12) (u_ 6) + n).toInt ∧ (u_ 3 < n_t ∨ (I0 (h_ad z a0 24) c_t.toNat).toInt ≠ 0)) r.toInt))) 0 0 (fun _ => False) := by
  refine Met.ofW (cc := cX12_wrongOf) (maxL := 7) (ret := (some .int)) (by decide) rfl ?_
  intro pr_ ev_ s m args below meth cd_ s₁ B hml hv
  obtain ⟨rfl, hE, hk, hX, hA, hK, hI, hR, hB0⟩ := hv
  have g : h_G h_so h_fk E A z I0 L0 s s.heap s.heap [] := ⟨hK, va_S.rf, hB0⟩
  have hx := B.exec
  have hb := B.bytes
  have hr := B.returns
  have hts := atoms_spec (ws := wsX12_wrongOf) B.pre
  have hown : s.vm.findClass RX12 = some m.cls := findClass_of_methodNamed B.named
  have hlocks := B.notSynchronized
  have iX12 : ∀ w ∈ u_ws RX12 TX12 51, w ∈ wsX12_wrongOf := by decide +kernel
  have hl := lv_entry ([.ref a0, .int p, .int c, .int y, .int n]) (n := 7) (Nat.le_of_ble_eq_true rfl)
  rw [lg_entry_eq]
  generalize (lg_sl ([.ref a0, .int p, .int c, .int y, .int n]) ++ List.replicate (7 - (lg_sl ([.ref a0, .int p, .int c, .int y, .int n])).length) Slot.unset).toArray = ls at hl ⊢
  have hl : lv_has ls 7 [(0, .ref a0), (1, .int p), (2, .int c), (3, .int y), (4, .int n)] := hl
  have b_y : -2147483648 ≤ y_t ∧ y_t ≤ 2147483647 := h_y ▸ ⟨xi_lo y, Int.le_of_lt_add_one (xi_hi y)⟩
  have b_n : -2147483648 ≤ n_t ∧ n_t ≤ 2147483647 := h_n ▸ ⟨xi_lo n, Int.le_of_lt_add_one (xi_hi n)⟩
  obtain ⟨cb, rcb, tcb⟩ := hR.at a0 14 t_a0 (rfl : h_rs 13 14 = some (1314, false)) (by decide)
  have acb : h_ad z a0 14 = cb := h_ad.at rcb
  obtain ⟨us, rus, tus⟩ := hR.at a0 24 t_a0 (rfl : h_rs 13 24 = some (1324, false)) (by decide)
  have aus : h_ad z a0 24 = us := h_ad.at rus
  obtain ⟨lw, rlw, tlw⟩ := hR.at a0 10 t_a0 (rfl : h_rs 13 10 = some (1310, false)) (by decide)
  have alw : h_ad z a0 10 = lw := h_ad.at rlw
  obtain ⟨hy, rhy, thy⟩ := hR.at a0 11 t_a0 (rfl : h_rs 13 11 = some (1311, false)) (by decide)
  have ahy : h_ad z a0 11 = hy := h_ad.at rhy
  obtain ⟨f0_12, ef0_12⟩ : ∃ v : Int32, v = I0 a0 12 := ⟨_, rfl⟩
  have qf0_12 : (I0 a0 12).toInt = f0_12.toInt := congrArg Int32.toInt ef0_12.symm
  have jf0_12 := hI.rd a0 12 t_a0 ef0_12 (rfl : h_bd 13 12 = (0, 9))
  have hr0 := hrl
  rw [ahy, alw, qf0_12] at hrl
  have kp : p.toNatClampNeg = p_t.toNat := h_keq h_p (by omega) (by omega)
  have kc : c.toNatClampNeg = c_t.toNat := h_keq h_c (by omega) (by omega)
  obtain ⟨xcb, excb⟩ : ∃ v : Int32, v = I0 cb p.toNatClampNeg := ⟨_, rfl⟩
  have jxcb := hI.rd cb p.toNatClampNeg tcb excb (rfl : h_bd 1314 _ = ((-1), 7))
  obtain ⟨xus, exus⟩ : ∃ v : Int32, v = I0 us c.toNatClampNeg := ⟨_, rfl⟩
  have jxus := hI.rd us c.toNatClampNeg tus exus (rfl : h_bd 1324 _ = (0, 1))
  refine lv_aload_n hx hb dX12_wrongOf_0 rfl (lv_at hl 0 rfl) ?_
  refine h_get (v := .ref cb) hx hb hts iX12 hown g t_a0 (by decide) so_13 rfl 14 (by decide) (hts (.fieldLink RX12 25 "CapLeagueModel" "clubOf" "[I") (by decide +kernel)) rfl dX12_wrongOf_1 (by show va_rf (z.R a0 14) = _; rw [rcb]; rfl) ?_
  refine lv_iload_n hx hb dX12_wrongOf_4 rfl (lv_at hl 1 rfl) ?_
  refine h_ald hx hb g tcb (by decide) so_1314 (xi_in (by rw [h_p]; omega) (by rw [h_p]; omega)) dX12_wrongOf_5 ?_
  refine xw_i (excb.symm) ?_
  refine lv_iconst (v := (-1)) hx hb dX12_wrongOf_6 (by decide) ?_
  refine lv_icmp_eq (tgt := 14) hx hb dX12_wrongOf_7 (by decide) (fun c1 => ?_) (fun c1 => ?_)
  · have ic1 := (xi_eq c1 rfl (by decide) : xcb.toInt = (-1))
    refine lv_iconst (v := 0) hx hb dX12_wrongOf_14 (by decide) ?_
    refine lv_istore (lv' := [(5, .int 0), (0, .ref a0), (1, .int p), (2, .int c), (3, .int y), (4, .int n)]) hx hb dX12_wrongOf_15 hl (by decide) rfl (fun ls hl => ?_)
    refine lv_aload_n hx hb dX12_wrongOf_17 rfl (lv_at hl 1 rfl) ?_
    refine lv_iload_n hx hb dX12_wrongOf_18 rfl (lv_at hl 3 rfl) ?_
    refine lv_aload_n hx hb dX12_wrongOf_19 rfl (lv_at hl 1 rfl) ?_
    refine h_get (v := .int f0_12) hx hb hts iX12 hown g t_a0 (by decide) so_13 rfl 12 (by decide) (hts (.fieldLink RX12 187 "CapLeagueModel" "clock" "I") (by decide +kernel)) rfl dX12_wrongOf_20 (congrArg Value.int (ef0_12.symm)) ?_
    refine vp_callSi (W.runV (As := [.int c, .int f0_12]) (rest := []) ⟨hx, hb, hml, hown, hts⟩ (tX12_manyOfB l E X A z I0 L0 a0 t_a0 c (c_t) h_c f0_12 (f0_12.toInt) rfl) (cwV 2 hts gX12_wrongOf_X12_manyOf rfl rfl rfl (by decide +kernel) ⟨Nat.le_of_ble_eq_true rfl, Nat.le_of_ble_eq_true rfl⟩) ⟨h_blind _ _ _ _ _ _ _, h_recv g t_a0 (by decide) so_13 (q := (RX12, TX12, 51)) rfl, h_pre _ hE hk hX hA hI hR g⟩ rfl rfl hl.1 rfl (lv_room (Nat.le_of_ble_eq_true rfl)) dX12_wrongOf_23 ⟨Nat.le_of_ble_eq_true rfl, Nat.le_of_ble_eq_true rfl⟩) (fun rh2 h2 => ?_)
    have h2p0 := h2
    have jrh2 : -2147483648 ≤ rh2.toInt ∧ rh2.toInt ≤ 2147483647 := ⟨xi_lo _, Int.le_of_lt_add_one (xi_hi _)⟩
    rw [ef0_12] at h2p0
    replace h2p0 := congrArg Int32.toInt h2p0
    refine lv_aload_n hx hb dX12_wrongOf_26 rfl (lv_at hl 1 rfl) ?_
    refine lv_aload_n hx hb dX12_wrongOf_27 rfl (lv_at hl 1 rfl) ?_
    refine h_get (v := .int f0_12) hx hb hts iX12 hown g t_a0 (by decide) so_13 rfl 12 (by decide) (hts (.fieldLink RX12 187 "CapLeagueModel" "clock" "I") (by decide +kernel)) rfl dX12_wrongOf_28 (congrArg Value.int (ef0_12.symm)) ?_
    refine lv_iconst (v := 1) hx hb dX12_wrongOf_31 (by decide) ?_
    refine vp_callSi (W.runV (As := [.int f0_12, .int 1]) (rest := [.int rh2]) ⟨hx, hb, hml, hown, hts⟩ (tX12_lawOfF l E X A z I0 L0 a0 t_a0 f0_12 (f0_12.toInt) rfl (by omega) 1 (1) (by decide) (by omega)) (cwV 2 hts gX12_wrongOf_X12_lawOf rfl rfl rfl (by decide +kernel) ⟨Nat.le_of_ble_eq_true rfl, Nat.le_of_ble_eq_true rfl⟩) ⟨h_blind _ _ _ _ _ _ _, h_recv g t_a0 (by decide) so_13 (q := (RX12, TX12, 51)) rfl, h_pre _ hE hk hX hA hI hR g⟩ rfl rfl hl.1 rfl (lv_room (Nat.le_of_ble_eq_true rfl)) dX12_wrongOf_32 ⟨Nat.le_of_ble_eq_true rfl, Nat.le_of_ble_eq_true rfl⟩) (fun rh3 h3 => ?_)
    obtain ⟨h3p0, h3p1, h3p2⟩ := h3
    have jrh3 : -2147483648 ≤ rh3.toInt ∧ rh3.toInt ≤ 2147483647 := ⟨xi_lo _, Int.le_of_lt_add_one (xi_hi _)⟩
    rw [alw, ahy] at h3p0
    have grh3 := hrl.at (x := 1) (by decide) h3p0
    clear h3p0
    refine lv_icmp_lt (tgt := 44) hx hb dX12_wrongOf_35 (by decide) (fun c4 => ?_) (fun c4 => ?_)
    · have ic4 := (xi_lt c4 rfl rfl : rh2.toInt < rh3.toInt)
      refine lv_iload_n hx hb dX12_wrongOf_44 rfl (lv_at hl 4 rfl) ?_
      refine lv_aload_n hx hb dX12_wrongOf_45 rfl (lv_at hl 1 rfl) ?_
      refine lv_aload_n hx hb dX12_wrongOf_46 rfl (lv_at hl 1 rfl) ?_
      refine h_get (v := .int f0_12) hx hb hts iX12 hown g t_a0 (by decide) so_13 rfl 12 (by decide) (hts (.fieldLink RX12 187 "CapLeagueModel" "clock" "I") (by decide +kernel)) rfl dX12_wrongOf_47 (congrArg Value.int (ef0_12.symm)) ?_
      refine lv_iconst (v := 2) hx hb dX12_wrongOf_50 (by decide) ?_
      refine vp_callSi (W.runV (As := [.int f0_12, .int 2]) (rest := [.int y]) ⟨hx, hb, hml, hown, hts⟩ (tX12_lawOfF l E X A z I0 L0 a0 t_a0 f0_12 (f0_12.toInt) rfl (by omega) 2 (2) (by decide) (by omega)) (cwV 2 hts gX12_wrongOf_X12_lawOf rfl rfl rfl (by decide +kernel) ⟨Nat.le_of_ble_eq_true rfl, Nat.le_of_ble_eq_true rfl⟩) ⟨h_blind _ _ _ _ _ _ _, h_recv g t_a0 (by decide) so_13 (q := (RX12, TX12, 51)) rfl, h_pre _ hE hk hX hA hI hR g⟩ rfl rfl hl.1 rfl (lv_room (Nat.le_of_ble_eq_true rfl)) dX12_wrongOf_51 ⟨Nat.le_of_ble_eq_true rfl, Nat.le_of_ble_eq_true rfl⟩) (fun rh5 h5 => ?_)
      obtain ⟨h5p0, h5p1, h5p2⟩ := h5
      have jrh5 : -2147483648 ≤ rh5.toInt ∧ rh5.toInt ≤ 2147483647 := ⟨xi_lo _, Int.le_of_lt_add_one (xi_hi _)⟩
      rw [alw, ahy] at h5p0
      have grh5 := hrl.at (x := 2) (by decide) h5p0
      clear h5p0
      refine lv_icmp_le (tgt := 63) hx hb dX12_wrongOf_54 (by decide) (fun c6 => ?_) (fun c6 => ?_)
      · have ic6 := (xi_le c6 h_y rfl : y_t ≤ rh5.toInt)
        refine lv_aload_n hx hb dX12_wrongOf_63 rfl (lv_at hl 1 rfl) ?_
        refine lv_iload_n hx hb dX12_wrongOf_64 rfl (lv_at hl 3 rfl) ?_
        refine lv_aload_n hx hb dX12_wrongOf_65 rfl (lv_at hl 1 rfl) ?_
        refine h_get (v := .int f0_12) hx hb hts iX12 hown g t_a0 (by decide) so_13 rfl 12 (by decide) (hts (.fieldLink RX12 187 "CapLeagueModel" "clock" "I") (by decide +kernel)) rfl dX12_wrongOf_66 (congrArg Value.int (ef0_12.symm)) ?_
        refine vp_callSi (W.runV (As := [.int c, .int f0_12]) (rest := []) ⟨hx, hb, hml, hown, hts⟩ (tX12_countsB l E X A z I0 L0 a0 t_a0 c (c_t) h_c (by omega) f0_12 (f0_12.toInt) rfl (by omega) (u_) (hr0) (hob) (by rw [ef0_12]; exact hpb)) (cwV 2 hts gX12_wrongOf_X12_counts rfl rfl rfl (by decide +kernel) ⟨Nat.le_of_ble_eq_true rfl, Nat.le_of_ble_eq_true rfl⟩) ⟨h_blind _ _ _ _ _ _ _, h_recv g t_a0 (by decide) so_13 (q := (RX12, TX12, 51)) rfl, h_pre _ hE hk hX hA hI hR g⟩ rfl rfl hl.1 rfl (lv_room (Nat.le_of_ble_eq_true rfl)) dX12_wrongOf_69 ⟨Nat.le_of_ble_eq_true rfl, Nat.le_of_ble_eq_true rfl⟩) (fun rh7 h7 => ?_)
        have h7p0 := h7
        have jrh7 : -2147483648 ≤ rh7.toInt ∧ rh7.toInt ≤ 2147483647 := ⟨xi_lo _, Int.le_of_lt_add_one (xi_hi _)⟩
        rw [ef0_12] at h7p0
        refine lv_iload hx hb dX12_wrongOf_72 (lv_at hl 5 rfl) ?_
        refine lv_iadd hx hb dX12_wrongOf_74 ?_
        refine lv_topi (fun v8 ev8 => ?_)
        have jv8 : -2147483648 ≤ v8.toInt ∧ v8.toInt ≤ 2147483647 := ⟨xi_lo _, Int.le_of_lt_add_one (xi_hi _)⟩
        refine lv_aload_n hx hb dX12_wrongOf_75 rfl (lv_at hl 1 rfl) ?_
        refine lv_aload_n hx hb dX12_wrongOf_76 rfl (lv_at hl 1 rfl) ?_
        refine h_get (v := .int f0_12) hx hb hts iX12 hown g t_a0 (by decide) so_13 rfl 12 (by decide) (hts (.fieldLink RX12 187 "CapLeagueModel" "clock" "I") (by decide +kernel)) rfl dX12_wrongOf_77 (congrArg Value.int (ef0_12.symm)) ?_
        refine lv_iconst (v := 0) hx hb dX12_wrongOf_80 (by decide) ?_
        refine vp_callSi (W.runV (As := [.int f0_12, .int 0]) (rest := [.int v8]) ⟨hx, hb, hml, hown, hts⟩ (tX12_lawOfF l E X A z I0 L0 a0 t_a0 f0_12 (f0_12.toInt) rfl (by omega) 0 (0) (by decide) (by omega)) (cwV 2 hts gX12_wrongOf_X12_lawOf rfl rfl rfl (by decide +kernel) ⟨Nat.le_of_ble_eq_true rfl, Nat.le_of_ble_eq_true rfl⟩) ⟨h_blind _ _ _ _ _ _ _, h_recv g t_a0 (by decide) so_13 (q := (RX12, TX12, 51)) rfl, h_pre _ hE hk hX hA hI hR g⟩ rfl rfl hl.1 rfl (lv_room (Nat.le_of_ble_eq_true rfl)) dX12_wrongOf_81 ⟨Nat.le_of_ble_eq_true rfl, Nat.le_of_ble_eq_true rfl⟩) (fun rh9 h9 => ?_)
        obtain ⟨h9p0, h9p1, h9p2⟩ := h9
        have jrh9 : -2147483648 ≤ rh9.toInt ∧ rh9.toInt ≤ 2147483647 := ⟨xi_lo _, Int.le_of_lt_add_one (xi_hi _)⟩
        rw [alw, ahy] at h9p0
        have grh9 := hrl.at (x := 0) (by decide) h9p0
        clear h9p0
        refine lv_icmp_le (tgt := 91) hx hb dX12_wrongOf_84 (by decide) (fun c10 => ?_) (fun c10 => ?_)
        · have ic10 := (xi_le c10 rfl rfl : v8.toInt ≤ rh9.toInt)
          refine lv_iconst (v := 0) hx hb dX12_wrongOf_91 (by decide) ?_
          refine lv_istore (lv' := [(6, .int 0), (5, .int 0), (0, .ref a0), (1, .int p), (2, .int c), (3, .int y), (4, .int n)]) hx hb dX12_wrongOf_92 hl (by decide) rfl (fun ls hl => ?_)
          refine lv_iload hx hb dX12_wrongOf_94 (lv_at hl 0 rfl) ?_
          refine lv_if_eq (tgt := 129) hx hb dX12_wrongOf_96 (by decide) (fun _ => ?_) (fun h => absurd (by decide) h)
          refine lv_iload hx hb dX12_wrongOf_129 (lv_at hl 1 rfl) ?_
          exact W.iret (v := 0) hx hb hr (fun t ht hW => ⟨0, rfl, ⟨⟨(by decide), (by decide)⟩, (by rw [acb, aus, ← kp, ← kc, ← excb, ← exus, ← h7p0, ← ev8]; have qn : n.toInt = n_t := h_n; have qy : y.toInt = y_t := h_y; exact ⟨0, 0, 0, 0, by decide, by unfold q_btp; omega, by unfold q_btp; omega, by unfold q_btp; omega, by unfold q_btp; omega⟩)⟩, ht⟩) (fun _ h => by cases h) dX12_wrongOf_131
        · have ic10 := (xi_nle c10 rfl rfl : rh9.toInt < v8.toInt)
          refine lv_iconst (v := 1) hx hb dX12_wrongOf_87 (by decide) ?_
          refine lv_goto (tgt := 92) hx hb dX12_wrongOf_88 (by decide) ?_
          refine lv_istore (lv' := [(6, .int 1), (5, .int 0), (0, .ref a0), (1, .int p), (2, .int c), (3, .int y), (4, .int n)]) hx hb dX12_wrongOf_92 hl (by decide) rfl (fun ls hl => ?_)
          refine lv_iload hx hb dX12_wrongOf_94 (lv_at hl 0 rfl) ?_
          refine lv_if_eq (tgt := 129) hx hb dX12_wrongOf_96 (by decide) (fun h => absurd h (by decide)) (fun _ => ?_)
          refine lv_iload hx hb dX12_wrongOf_99 (lv_at hl 6 rfl) ?_
          refine lv_aload_n hx hb dX12_wrongOf_101 rfl (lv_at hl 2 rfl) ?_
          refine lv_aload_n hx hb dX12_wrongOf_102 rfl (lv_at hl 2 rfl) ?_
          refine h_get (v := .int f0_12) hx hb hts iX12 hown g t_a0 (by decide) so_13 rfl 12 (by decide) (hts (.fieldLink RX12 187 "CapLeagueModel" "clock" "I") (by decide +kernel)) rfl dX12_wrongOf_103 (congrArg Value.int (ef0_12.symm)) ?_
          refine lv_iconst (v := 3) hx hb dX12_wrongOf_106 (by decide) ?_
          refine vp_callSi (W.runV (As := [.int f0_12, .int 3]) (rest := [.int n]) ⟨hx, hb, hml, hown, hts⟩ (tX12_lawOfF l E X A z I0 L0 a0 t_a0 f0_12 (f0_12.toInt) rfl (by omega) 3 (3) (by decide) (by omega)) (cwV 2 hts gX12_wrongOf_X12_lawOf rfl rfl rfl (by decide +kernel) ⟨Nat.le_of_ble_eq_true rfl, Nat.le_of_ble_eq_true rfl⟩) ⟨h_blind _ _ _ _ _ _ _, h_recv g t_a0 (by decide) so_13 (q := (RX12, TX12, 51)) rfl, h_pre _ hE hk hX hA hI hR g⟩ rfl rfl hl.1 rfl (lv_room (Nat.le_of_ble_eq_true rfl)) dX12_wrongOf_107 ⟨Nat.le_of_ble_eq_true rfl, Nat.le_of_ble_eq_true rfl⟩) (fun rh13 h13 => ?_)
          obtain ⟨h13p0, h13p1, h13p2⟩ := h13
          have jrh13 : -2147483648 ≤ rh13.toInt ∧ rh13.toInt ≤ 2147483647 := ⟨xi_lo _, Int.le_of_lt_add_one (xi_hi _)⟩
          rw [alw, ahy] at h13p0
          have grh13 := hrl.at (x := 3) (by decide) h13p0
          clear h13p0
          refine lv_icmp_gt (tgt := 122) hx hb dX12_wrongOf_110 (by decide) (fun c14 => ?_) (fun c14 => ?_)
          · have ic14 := (xi_lt c14 rfl h_n : rh13.toInt < n_t)
            refine lv_iload hx hb dX12_wrongOf_122 (lv_at hl 1 rfl) ?_
            refine lv_bipush (v := 8) hx hb dX12_wrongOf_124 (by decide) ?_
            refine lv_ior hx hb dX12_wrongOf_126 ?_
            refine xw_i (v := 8) (by decide) ?_
            refine lv_istore (lv' := [(5, .int 8), (6, .int 1), (0, .ref a0), (1, .int p), (2, .int c), (3, .int y), (4, .int n)]) hx hb dX12_wrongOf_127 hl (by decide) rfl (fun ls hl => ?_)
            refine lv_iload hx hb dX12_wrongOf_129 (lv_at hl 0 rfl) ?_
            exact W.iret (v := 8) hx hb hr (fun t ht hW => ⟨8, rfl, ⟨⟨(by decide), (by decide)⟩, (by rw [acb, aus, ← kp, ← kc, ← excb, ← exus, ← h7p0, ← ev8]; have qn : n.toInt = n_t := h_n; have qy : y.toInt = y_t := h_y; exact ⟨0, 0, 0, 8, by decide, by unfold q_btp; omega, by unfold q_btp; omega, by unfold q_btp; omega, by unfold q_btp; omega⟩)⟩, ht⟩) (fun _ h => by cases h) dX12_wrongOf_131
          · have ic14 := (xi_nlt c14 rfl h_n : n_t ≤ rh13.toInt)
            refine lv_aload_n hx hb dX12_wrongOf_113 rfl (lv_at hl 2 rfl) ?_
            refine h_get (v := .ref us) hx hb hts iX12 hown g t_a0 (by decide) so_13 rfl 24 (by decide) (hts (.fieldLink RX12 55 "CapLeagueModel" "usedSpare" "[Z") (by decide +kernel)) rfl dX12_wrongOf_114 (by show va_rf (z.R a0 24) = _; rw [rus]; rfl) ?_
            refine lv_iload_n hx hb dX12_wrongOf_117 rfl (lv_at hl 4 rfl) ?_
            refine h_zald hx hb g tus (by decide) so_1324 (xi_in (by rw [h_c]; omega) (by rw [h_c]; omega)) dX12_wrongOf_118 ?_
            refine xw_i (exus.symm) ?_
            refine lv_if_eq (tgt := 129) hx hb dX12_wrongOf_119 (by decide) (fun c15 => ?_) (fun c15 => ?_)
            · have ic15 := (xi_eq c15 rfl (by decide) : xus.toInt = 0)
              refine lv_iload hx hb dX12_wrongOf_129 (lv_at hl 1 rfl) ?_
              exact W.iret (v := 0) hx hb hr (fun t ht hW => ⟨0, rfl, ⟨⟨(by decide), (by decide)⟩, (by rw [acb, aus, ← kp, ← kc, ← excb, ← exus, ← h7p0, ← ev8]; have qn : n.toInt = n_t := h_n; have qy : y.toInt = y_t := h_y; exact ⟨0, 0, 0, 0, by decide, by unfold q_btp; omega, by unfold q_btp; omega, by unfold q_btp; omega, by unfold q_btp; omega⟩)⟩, ht⟩) (fun _ h => by cases h) dX12_wrongOf_131
            · have ic15 := (xi_ne c15 rfl (by decide) : xus.toInt ≠ 0)
              refine lv_iload hx hb dX12_wrongOf_122 (lv_at hl 1 rfl) ?_
              refine lv_bipush (v := 8) hx hb dX12_wrongOf_124 (by decide) ?_
              refine lv_ior hx hb dX12_wrongOf_126 ?_
              refine xw_i (v := 8) (by decide) ?_
              refine lv_istore (lv' := [(5, .int 8), (6, .int 1), (0, .ref a0), (1, .int p), (2, .int c), (3, .int y), (4, .int n)]) hx hb dX12_wrongOf_127 hl (by decide) rfl (fun ls hl => ?_)
              refine lv_iload hx hb dX12_wrongOf_129 (lv_at hl 0 rfl) ?_
              exact W.iret (v := 8) hx hb hr (fun t ht hW => ⟨8, rfl, ⟨⟨(by decide), (by decide)⟩, (by rw [acb, aus, ← kp, ← kc, ← excb, ← exus, ← h7p0, ← ev8]; have qn : n.toInt = n_t := h_n; have qy : y.toInt = y_t := h_y; exact ⟨0, 0, 0, 8, by decide, by unfold q_btp; omega, by unfold q_btp; omega, by unfold q_btp; omega, by unfold q_btp; omega⟩)⟩, ht⟩) (fun _ h => by cases h) dX12_wrongOf_131
      · have ic6 := (xi_nle c6 h_y rfl : rh5.toInt < y_t)
        refine lv_iload hx hb dX12_wrongOf_57 (lv_at hl 0 rfl) ?_
        refine lv_iconst (v := 4) hx hb dX12_wrongOf_59 (by decide) ?_
        refine lv_ior hx hb dX12_wrongOf_60 ?_
        refine xw_i (v := 4) (by decide) ?_
        refine lv_istore (lv' := [(5, .int 4), (0, .ref a0), (1, .int p), (2, .int c), (3, .int y), (4, .int n)]) hx hb dX12_wrongOf_61 hl (by decide) rfl (fun ls hl => ?_)
        refine lv_aload_n hx hb dX12_wrongOf_63 rfl (lv_at hl 1 rfl) ?_
        refine lv_iload_n hx hb dX12_wrongOf_64 rfl (lv_at hl 3 rfl) ?_
        refine lv_aload_n hx hb dX12_wrongOf_65 rfl (lv_at hl 1 rfl) ?_
        refine h_get (v := .int f0_12) hx hb hts iX12 hown g t_a0 (by decide) so_13 rfl 12 (by decide) (hts (.fieldLink RX12 187 "CapLeagueModel" "clock" "I") (by decide +kernel)) rfl dX12_wrongOf_66 (congrArg Value.int (ef0_12.symm)) ?_
        refine vp_callSi (W.runV (As := [.int c, .int f0_12]) (rest := []) ⟨hx, hb, hml, hown, hts⟩ (tX12_countsB l E X A z I0 L0 a0 t_a0 c (c_t) h_c (by omega) f0_12 (f0_12.toInt) rfl (by omega) (u_) (hr0) (hob) (by rw [ef0_12]; exact hpb)) (cwV 2 hts gX12_wrongOf_X12_counts rfl rfl rfl (by decide +kernel) ⟨Nat.le_of_ble_eq_true rfl, Nat.le_of_ble_eq_true rfl⟩) ⟨h_blind _ _ _ _ _ _ _, h_recv g t_a0 (by decide) so_13 (q := (RX12, TX12, 51)) rfl, h_pre _ hE hk hX hA hI hR g⟩ rfl rfl hl.1 rfl (lv_room (Nat.le_of_ble_eq_true rfl)) dX12_wrongOf_69 ⟨Nat.le_of_ble_eq_true rfl, Nat.le_of_ble_eq_true rfl⟩) (fun rh16 h16 => ?_)
        have h16p0 := h16
        have jrh16 : -2147483648 ≤ rh16.toInt ∧ rh16.toInt ≤ 2147483647 := ⟨xi_lo _, Int.le_of_lt_add_one (xi_hi _)⟩
        rw [ef0_12] at h16p0
        refine lv_iload hx hb dX12_wrongOf_72 (lv_at hl 5 rfl) ?_
        refine lv_iadd hx hb dX12_wrongOf_74 ?_
        refine lv_topi (fun v17 ev17 => ?_)
        have jv17 : -2147483648 ≤ v17.toInt ∧ v17.toInt ≤ 2147483647 := ⟨xi_lo _, Int.le_of_lt_add_one (xi_hi _)⟩
        refine lv_aload_n hx hb dX12_wrongOf_75 rfl (lv_at hl 1 rfl) ?_
        refine lv_aload_n hx hb dX12_wrongOf_76 rfl (lv_at hl 1 rfl) ?_
        refine h_get (v := .int f0_12) hx hb hts iX12 hown g t_a0 (by decide) so_13 rfl 12 (by decide) (hts (.fieldLink RX12 187 "CapLeagueModel" "clock" "I") (by decide +kernel)) rfl dX12_wrongOf_77 (congrArg Value.int (ef0_12.symm)) ?_
        refine lv_iconst (v := 0) hx hb dX12_wrongOf_80 (by decide) ?_
        refine vp_callSi (W.runV (As := [.int f0_12, .int 0]) (rest := [.int v17]) ⟨hx, hb, hml, hown, hts⟩ (tX12_lawOfF l E X A z I0 L0 a0 t_a0 f0_12 (f0_12.toInt) rfl (by omega) 0 (0) (by decide) (by omega)) (cwV 2 hts gX12_wrongOf_X12_lawOf rfl rfl rfl (by decide +kernel) ⟨Nat.le_of_ble_eq_true rfl, Nat.le_of_ble_eq_true rfl⟩) ⟨h_blind _ _ _ _ _ _ _, h_recv g t_a0 (by decide) so_13 (q := (RX12, TX12, 51)) rfl, h_pre _ hE hk hX hA hI hR g⟩ rfl rfl hl.1 rfl (lv_room (Nat.le_of_ble_eq_true rfl)) dX12_wrongOf_81 ⟨Nat.le_of_ble_eq_true rfl, Nat.le_of_ble_eq_true rfl⟩) (fun rh18 h18 => ?_)
        obtain ⟨h18p0, h18p1, h18p2⟩ := h18
        have jrh18 : -2147483648 ≤ rh18.toInt ∧ rh18.toInt ≤ 2147483647 := ⟨xi_lo _, Int.le_of_lt_add_one (xi_hi _)⟩
        rw [alw, ahy] at h18p0
        have grh18 := hrl.at (x := 0) (by decide) h18p0
        clear h18p0
        refine lv_icmp_le (tgt := 91) hx hb dX12_wrongOf_84 (by decide) (fun c19 => ?_) (fun c19 => ?_)
        · have ic19 := (xi_le c19 rfl rfl : v17.toInt ≤ rh18.toInt)
          refine lv_iconst (v := 0) hx hb dX12_wrongOf_91 (by decide) ?_
          refine lv_istore (lv' := [(6, .int 0), (5, .int 4), (0, .ref a0), (1, .int p), (2, .int c), (3, .int y), (4, .int n)]) hx hb dX12_wrongOf_92 hl (by decide) rfl (fun ls hl => ?_)
          refine lv_iload hx hb dX12_wrongOf_94 (lv_at hl 0 rfl) ?_
          refine lv_if_eq (tgt := 129) hx hb dX12_wrongOf_96 (by decide) (fun _ => ?_) (fun h => absurd (by decide) h)
          refine lv_iload hx hb dX12_wrongOf_129 (lv_at hl 1 rfl) ?_
          exact W.iret (v := 4) hx hb hr (fun t ht hW => ⟨4, rfl, ⟨⟨(by decide), (by decide)⟩, (by rw [acb, aus, ← kp, ← kc, ← excb, ← exus, ← h16p0, ← ev17]; have qn : n.toInt = n_t := h_n; have qy : y.toInt = y_t := h_y; exact ⟨0, 0, 4, 0, by decide, by unfold q_btp; omega, by unfold q_btp; omega, by unfold q_btp; omega, by unfold q_btp; omega⟩)⟩, ht⟩) (fun _ h => by cases h) dX12_wrongOf_131
        · have ic19 := (xi_nle c19 rfl rfl : rh18.toInt < v17.toInt)
          refine lv_iconst (v := 1) hx hb dX12_wrongOf_87 (by decide) ?_
          refine lv_goto (tgt := 92) hx hb dX12_wrongOf_88 (by decide) ?_
          refine lv_istore (lv' := [(6, .int 1), (5, .int 4), (0, .ref a0), (1, .int p), (2, .int c), (3, .int y), (4, .int n)]) hx hb dX12_wrongOf_92 hl (by decide) rfl (fun ls hl => ?_)
          refine lv_iload hx hb dX12_wrongOf_94 (lv_at hl 0 rfl) ?_
          refine lv_if_eq (tgt := 129) hx hb dX12_wrongOf_96 (by decide) (fun h => absurd h (by decide)) (fun _ => ?_)
          refine lv_iload hx hb dX12_wrongOf_99 (lv_at hl 6 rfl) ?_
          refine lv_aload_n hx hb dX12_wrongOf_101 rfl (lv_at hl 2 rfl) ?_
          refine lv_aload_n hx hb dX12_wrongOf_102 rfl (lv_at hl 2 rfl) ?_
          refine h_get (v := .int f0_12) hx hb hts iX12 hown g t_a0 (by decide) so_13 rfl 12 (by decide) (hts (.fieldLink RX12 187 "CapLeagueModel" "clock" "I") (by decide +kernel)) rfl dX12_wrongOf_103 (congrArg Value.int (ef0_12.symm)) ?_
          refine lv_iconst (v := 3) hx hb dX12_wrongOf_106 (by decide) ?_
          refine vp_callSi (W.runV (As := [.int f0_12, .int 3]) (rest := [.int n]) ⟨hx, hb, hml, hown, hts⟩ (tX12_lawOfF l E X A z I0 L0 a0 t_a0 f0_12 (f0_12.toInt) rfl (by omega) 3 (3) (by decide) (by omega)) (cwV 2 hts gX12_wrongOf_X12_lawOf rfl rfl rfl (by decide +kernel) ⟨Nat.le_of_ble_eq_true rfl, Nat.le_of_ble_eq_true rfl⟩) ⟨h_blind _ _ _ _ _ _ _, h_recv g t_a0 (by decide) so_13 (q := (RX12, TX12, 51)) rfl, h_pre _ hE hk hX hA hI hR g⟩ rfl rfl hl.1 rfl (lv_room (Nat.le_of_ble_eq_true rfl)) dX12_wrongOf_107 ⟨Nat.le_of_ble_eq_true rfl, Nat.le_of_ble_eq_true rfl⟩) (fun rh22 h22 => ?_)
          obtain ⟨h22p0, h22p1, h22p2⟩ := h22
          have jrh22 : -2147483648 ≤ rh22.toInt ∧ rh22.toInt ≤ 2147483647 := ⟨xi_lo _, Int.le_of_lt_add_one (xi_hi _)⟩
          rw [alw, ahy] at h22p0
          have grh22 := hrl.at (x := 3) (by decide) h22p0
          clear h22p0
          refine lv_icmp_gt (tgt := 122) hx hb dX12_wrongOf_110 (by decide) (fun c23 => ?_) (fun c23 => ?_)
          · have ic23 := (xi_lt c23 rfl h_n : rh22.toInt < n_t)
            refine lv_iload hx hb dX12_wrongOf_122 (lv_at hl 1 rfl) ?_
            refine lv_bipush (v := 8) hx hb dX12_wrongOf_124 (by decide) ?_
            refine lv_ior hx hb dX12_wrongOf_126 ?_
            refine xw_i (v := 12) (by decide) ?_
            refine lv_istore (lv' := [(5, .int 12), (6, .int 1), (0, .ref a0), (1, .int p), (2, .int c), (3, .int y), (4, .int n)]) hx hb dX12_wrongOf_127 hl (by decide) rfl (fun ls hl => ?_)
            refine lv_iload hx hb dX12_wrongOf_129 (lv_at hl 0 rfl) ?_
            exact W.iret (v := 12) hx hb hr (fun t ht hW => ⟨12, rfl, ⟨⟨(by decide), (by decide)⟩, (by rw [acb, aus, ← kp, ← kc, ← excb, ← exus, ← h16p0, ← ev17]; have qn : n.toInt = n_t := h_n; have qy : y.toInt = y_t := h_y; exact ⟨0, 0, 4, 8, by decide, by unfold q_btp; omega, by unfold q_btp; omega, by unfold q_btp; omega, by unfold q_btp; omega⟩)⟩, ht⟩) (fun _ h => by cases h) dX12_wrongOf_131
          · have ic23 := (xi_nlt c23 rfl h_n : n_t ≤ rh22.toInt)
            refine lv_aload_n hx hb dX12_wrongOf_113 rfl (lv_at hl 2 rfl) ?_
            refine h_get (v := .ref us) hx hb hts iX12 hown g t_a0 (by decide) so_13 rfl 24 (by decide) (hts (.fieldLink RX12 55 "CapLeagueModel" "usedSpare" "[Z") (by decide +kernel)) rfl dX12_wrongOf_114 (by show va_rf (z.R a0 24) = _; rw [rus]; rfl) ?_
            refine lv_iload_n hx hb dX12_wrongOf_117 rfl (lv_at hl 4 rfl) ?_
            refine h_zald hx hb g tus (by decide) so_1324 (xi_in (by rw [h_c]; omega) (by rw [h_c]; omega)) dX12_wrongOf_118 ?_
            refine xw_i (exus.symm) ?_
            refine lv_if_eq (tgt := 129) hx hb dX12_wrongOf_119 (by decide) (fun c24 => ?_) (fun c24 => ?_)
            · have ic24 := (xi_eq c24 rfl (by decide) : xus.toInt = 0)
              refine lv_iload hx hb dX12_wrongOf_129 (lv_at hl 1 rfl) ?_
              exact W.iret (v := 4) hx hb hr (fun t ht hW => ⟨4, rfl, ⟨⟨(by decide), (by decide)⟩, (by rw [acb, aus, ← kp, ← kc, ← excb, ← exus, ← h16p0, ← ev17]; have qn : n.toInt = n_t := h_n; have qy : y.toInt = y_t := h_y; exact ⟨0, 0, 4, 0, by decide, by unfold q_btp; omega, by unfold q_btp; omega, by unfold q_btp; omega, by unfold q_btp; omega⟩)⟩, ht⟩) (fun _ h => by cases h) dX12_wrongOf_131
            · have ic24 := (xi_ne c24 rfl (by decide) : xus.toInt ≠ 0)
              refine lv_iload hx hb dX12_wrongOf_122 (lv_at hl 1 rfl) ?_
              refine lv_bipush (v := 8) hx hb dX12_wrongOf_124 (by decide) ?_
              refine lv_ior hx hb dX12_wrongOf_126 ?_
              refine xw_i (v := 12) (by decide) ?_
              refine lv_istore (lv' := [(5, .int 12), (6, .int 1), (0, .ref a0), (1, .int p), (2, .int c), (3, .int y), (4, .int n)]) hx hb dX12_wrongOf_127 hl (by decide) rfl (fun ls hl => ?_)
              refine lv_iload hx hb dX12_wrongOf_129 (lv_at hl 0 rfl) ?_
              exact W.iret (v := 12) hx hb hr (fun t ht hW => ⟨12, rfl, ⟨⟨(by decide), (by decide)⟩, (by rw [acb, aus, ← kp, ← kc, ← excb, ← exus, ← h16p0, ← ev17]; have qn : n.toInt = n_t := h_n; have qy : y.toInt = y_t := h_y; exact ⟨0, 0, 4, 8, by decide, by unfold q_btp; omega, by unfold q_btp; omega, by unfold q_btp; omega, by unfold q_btp; omega⟩)⟩, ht⟩) (fun _ h => by cases h) dX12_wrongOf_131
    · have ic4 := (xi_nlt c4 rfl rfl : rh3.toInt ≤ rh2.toInt)
      refine lv_iload hx hb dX12_wrongOf_38 (lv_at hl 0 rfl) ?_
      refine lv_iconst (v := 2) hx hb dX12_wrongOf_40 (by decide) ?_
      refine lv_ior hx hb dX12_wrongOf_41 ?_
      refine xw_i (v := 2) (by decide) ?_
      refine lv_istore (lv' := [(5, .int 2), (0, .ref a0), (1, .int p), (2, .int c), (3, .int y), (4, .int n)]) hx hb dX12_wrongOf_42 hl (by decide) rfl (fun ls hl => ?_)
      refine lv_iload_n hx hb dX12_wrongOf_44 rfl (lv_at hl 4 rfl) ?_
      refine lv_aload_n hx hb dX12_wrongOf_45 rfl (lv_at hl 1 rfl) ?_
      refine lv_aload_n hx hb dX12_wrongOf_46 rfl (lv_at hl 1 rfl) ?_
      refine h_get (v := .int f0_12) hx hb hts iX12 hown g t_a0 (by decide) so_13 rfl 12 (by decide) (hts (.fieldLink RX12 187 "CapLeagueModel" "clock" "I") (by decide +kernel)) rfl dX12_wrongOf_47 (congrArg Value.int (ef0_12.symm)) ?_
      refine lv_iconst (v := 2) hx hb dX12_wrongOf_50 (by decide) ?_
      refine vp_callSi (W.runV (As := [.int f0_12, .int 2]) (rest := [.int y]) ⟨hx, hb, hml, hown, hts⟩ (tX12_lawOfF l E X A z I0 L0 a0 t_a0 f0_12 (f0_12.toInt) rfl (by omega) 2 (2) (by decide) (by omega)) (cwV 2 hts gX12_wrongOf_X12_lawOf rfl rfl rfl (by decide +kernel) ⟨Nat.le_of_ble_eq_true rfl, Nat.le_of_ble_eq_true rfl⟩) ⟨h_blind _ _ _ _ _ _ _, h_recv g t_a0 (by decide) so_13 (q := (RX12, TX12, 51)) rfl, h_pre _ hE hk hX hA hI hR g⟩ rfl rfl hl.1 rfl (lv_room (Nat.le_of_ble_eq_true rfl)) dX12_wrongOf_51 ⟨Nat.le_of_ble_eq_true rfl, Nat.le_of_ble_eq_true rfl⟩) (fun rh25 h25 => ?_)
      obtain ⟨h25p0, h25p1, h25p2⟩ := h25
      have jrh25 : -2147483648 ≤ rh25.toInt ∧ rh25.toInt ≤ 2147483647 := ⟨xi_lo _, Int.le_of_lt_add_one (xi_hi _)⟩
      rw [alw, ahy] at h25p0
      have grh25 := hrl.at (x := 2) (by decide) h25p0
      clear h25p0
      refine lv_icmp_le (tgt := 63) hx hb dX12_wrongOf_54 (by decide) (fun c26 => ?_) (fun c26 => ?_)
      · have ic26 := (xi_le c26 h_y rfl : y_t ≤ rh25.toInt)
        refine lv_aload_n hx hb dX12_wrongOf_63 rfl (lv_at hl 1 rfl) ?_
        refine lv_iload_n hx hb dX12_wrongOf_64 rfl (lv_at hl 3 rfl) ?_
        refine lv_aload_n hx hb dX12_wrongOf_65 rfl (lv_at hl 1 rfl) ?_
        refine h_get (v := .int f0_12) hx hb hts iX12 hown g t_a0 (by decide) so_13 rfl 12 (by decide) (hts (.fieldLink RX12 187 "CapLeagueModel" "clock" "I") (by decide +kernel)) rfl dX12_wrongOf_66 (congrArg Value.int (ef0_12.symm)) ?_
        refine vp_callSi (W.runV (As := [.int c, .int f0_12]) (rest := []) ⟨hx, hb, hml, hown, hts⟩ (tX12_countsB l E X A z I0 L0 a0 t_a0 c (c_t) h_c (by omega) f0_12 (f0_12.toInt) rfl (by omega) (u_) (hr0) (hob) (by rw [ef0_12]; exact hpb)) (cwV 2 hts gX12_wrongOf_X12_counts rfl rfl rfl (by decide +kernel) ⟨Nat.le_of_ble_eq_true rfl, Nat.le_of_ble_eq_true rfl⟩) ⟨h_blind _ _ _ _ _ _ _, h_recv g t_a0 (by decide) so_13 (q := (RX12, TX12, 51)) rfl, h_pre _ hE hk hX hA hI hR g⟩ rfl rfl hl.1 rfl (lv_room (Nat.le_of_ble_eq_true rfl)) dX12_wrongOf_69 ⟨Nat.le_of_ble_eq_true rfl, Nat.le_of_ble_eq_true rfl⟩) (fun rh27 h27 => ?_)
        have h27p0 := h27
        have jrh27 : -2147483648 ≤ rh27.toInt ∧ rh27.toInt ≤ 2147483647 := ⟨xi_lo _, Int.le_of_lt_add_one (xi_hi _)⟩
        rw [ef0_12] at h27p0
        refine lv_iload hx hb dX12_wrongOf_72 (lv_at hl 5 rfl) ?_
        refine lv_iadd hx hb dX12_wrongOf_74 ?_
        refine lv_topi (fun v28 ev28 => ?_)
        have jv28 : -2147483648 ≤ v28.toInt ∧ v28.toInt ≤ 2147483647 := ⟨xi_lo _, Int.le_of_lt_add_one (xi_hi _)⟩
        refine lv_aload_n hx hb dX12_wrongOf_75 rfl (lv_at hl 1 rfl) ?_
        refine lv_aload_n hx hb dX12_wrongOf_76 rfl (lv_at hl 1 rfl) ?_
        refine h_get (v := .int f0_12) hx hb hts iX12 hown g t_a0 (by decide) so_13 rfl 12 (by decide) (hts (.fieldLink RX12 187 "CapLeagueModel" "clock" "I") (by decide +kernel)) rfl dX12_wrongOf_77 (congrArg Value.int (ef0_12.symm)) ?_
        refine lv_iconst (v := 0) hx hb dX12_wrongOf_80 (by decide) ?_
        refine vp_callSi (W.runV (As := [.int f0_12, .int 0]) (rest := [.int v28]) ⟨hx, hb, hml, hown, hts⟩ (tX12_lawOfF l E X A z I0 L0 a0 t_a0 f0_12 (f0_12.toInt) rfl (by omega) 0 (0) (by decide) (by omega)) (cwV 2 hts gX12_wrongOf_X12_lawOf rfl rfl rfl (by decide +kernel) ⟨Nat.le_of_ble_eq_true rfl, Nat.le_of_ble_eq_true rfl⟩) ⟨h_blind _ _ _ _ _ _ _, h_recv g t_a0 (by decide) so_13 (q := (RX12, TX12, 51)) rfl, h_pre _ hE hk hX hA hI hR g⟩ rfl rfl hl.1 rfl (lv_room (Nat.le_of_ble_eq_true rfl)) dX12_wrongOf_81 ⟨Nat.le_of_ble_eq_true rfl, Nat.le_of_ble_eq_true rfl⟩) (fun rh29 h29 => ?_)
        obtain ⟨h29p0, h29p1, h29p2⟩ := h29
        have jrh29 : -2147483648 ≤ rh29.toInt ∧ rh29.toInt ≤ 2147483647 := ⟨xi_lo _, Int.le_of_lt_add_one (xi_hi _)⟩
        rw [alw, ahy] at h29p0
        have grh29 := hrl.at (x := 0) (by decide) h29p0
        clear h29p0
        refine lv_icmp_le (tgt := 91) hx hb dX12_wrongOf_84 (by decide) (fun c30 => ?_) (fun c30 => ?_)
        · have ic30 := (xi_le c30 rfl rfl : v28.toInt ≤ rh29.toInt)
          refine lv_iconst (v := 0) hx hb dX12_wrongOf_91 (by decide) ?_
          refine lv_istore (lv' := [(6, .int 0), (5, .int 2), (0, .ref a0), (1, .int p), (2, .int c), (3, .int y), (4, .int n)]) hx hb dX12_wrongOf_92 hl (by decide) rfl (fun ls hl => ?_)
          refine lv_iload hx hb dX12_wrongOf_94 (lv_at hl 0 rfl) ?_
          refine lv_if_eq (tgt := 129) hx hb dX12_wrongOf_96 (by decide) (fun _ => ?_) (fun h => absurd (by decide) h)
          refine lv_iload hx hb dX12_wrongOf_129 (lv_at hl 1 rfl) ?_
          exact W.iret (v := 2) hx hb hr (fun t ht hW => ⟨2, rfl, ⟨⟨(by decide), (by decide)⟩, (by rw [acb, aus, ← kp, ← kc, ← excb, ← exus, ← h27p0, ← ev28]; have qn : n.toInt = n_t := h_n; have qy : y.toInt = y_t := h_y; exact ⟨0, 2, 0, 0, by decide, by unfold q_btp; omega, by unfold q_btp; omega, by unfold q_btp; omega, by unfold q_btp; omega⟩)⟩, ht⟩) (fun _ h => by cases h) dX12_wrongOf_131
        · have ic30 := (xi_nle c30 rfl rfl : rh29.toInt < v28.toInt)
          refine lv_iconst (v := 1) hx hb dX12_wrongOf_87 (by decide) ?_
          refine lv_goto (tgt := 92) hx hb dX12_wrongOf_88 (by decide) ?_
          refine lv_istore (lv' := [(6, .int 1), (5, .int 2), (0, .ref a0), (1, .int p), (2, .int c), (3, .int y), (4, .int n)]) hx hb dX12_wrongOf_92 hl (by decide) rfl (fun ls hl => ?_)
          refine lv_iload hx hb dX12_wrongOf_94 (lv_at hl 0 rfl) ?_
          refine lv_if_eq (tgt := 129) hx hb dX12_wrongOf_96 (by decide) (fun h => absurd h (by decide)) (fun _ => ?_)
          refine lv_iload hx hb dX12_wrongOf_99 (lv_at hl 6 rfl) ?_
          refine lv_aload_n hx hb dX12_wrongOf_101 rfl (lv_at hl 2 rfl) ?_
          refine lv_aload_n hx hb dX12_wrongOf_102 rfl (lv_at hl 2 rfl) ?_
          refine h_get (v := .int f0_12) hx hb hts iX12 hown g t_a0 (by decide) so_13 rfl 12 (by decide) (hts (.fieldLink RX12 187 "CapLeagueModel" "clock" "I") (by decide +kernel)) rfl dX12_wrongOf_103 (congrArg Value.int (ef0_12.symm)) ?_
          refine lv_iconst (v := 3) hx hb dX12_wrongOf_106 (by decide) ?_
          refine vp_callSi (W.runV (As := [.int f0_12, .int 3]) (rest := [.int n]) ⟨hx, hb, hml, hown, hts⟩ (tX12_lawOfF l E X A z I0 L0 a0 t_a0 f0_12 (f0_12.toInt) rfl (by omega) 3 (3) (by decide) (by omega)) (cwV 2 hts gX12_wrongOf_X12_lawOf rfl rfl rfl (by decide +kernel) ⟨Nat.le_of_ble_eq_true rfl, Nat.le_of_ble_eq_true rfl⟩) ⟨h_blind _ _ _ _ _ _ _, h_recv g t_a0 (by decide) so_13 (q := (RX12, TX12, 51)) rfl, h_pre _ hE hk hX hA hI hR g⟩ rfl rfl hl.1 rfl (lv_room (Nat.le_of_ble_eq_true rfl)) dX12_wrongOf_107 ⟨Nat.le_of_ble_eq_true rfl, Nat.le_of_ble_eq_true rfl⟩) (fun rh33 h33 => ?_)
          obtain ⟨h33p0, h33p1, h33p2⟩ := h33
          have jrh33 : -2147483648 ≤ rh33.toInt ∧ rh33.toInt ≤ 2147483647 := ⟨xi_lo _, Int.le_of_lt_add_one (xi_hi _)⟩
          rw [alw, ahy] at h33p0
          have grh33 := hrl.at (x := 3) (by decide) h33p0
          clear h33p0
          refine lv_icmp_gt (tgt := 122) hx hb dX12_wrongOf_110 (by decide) (fun c34 => ?_) (fun c34 => ?_)
          · have ic34 := (xi_lt c34 rfl h_n : rh33.toInt < n_t)
            refine lv_iload hx hb dX12_wrongOf_122 (lv_at hl 1 rfl) ?_
            refine lv_bipush (v := 8) hx hb dX12_wrongOf_124 (by decide) ?_
            refine lv_ior hx hb dX12_wrongOf_126 ?_
            refine xw_i (v := 10) (by decide) ?_
            refine lv_istore (lv' := [(5, .int 10), (6, .int 1), (0, .ref a0), (1, .int p), (2, .int c), (3, .int y), (4, .int n)]) hx hb dX12_wrongOf_127 hl (by decide) rfl (fun ls hl => ?_)
            refine lv_iload hx hb dX12_wrongOf_129 (lv_at hl 0 rfl) ?_
            exact W.iret (v := 10) hx hb hr (fun t ht hW => ⟨10, rfl, ⟨⟨(by decide), (by decide)⟩, (by rw [acb, aus, ← kp, ← kc, ← excb, ← exus, ← h27p0, ← ev28]; have qn : n.toInt = n_t := h_n; have qy : y.toInt = y_t := h_y; exact ⟨0, 2, 0, 8, by decide, by unfold q_btp; omega, by unfold q_btp; omega, by unfold q_btp; omega, by unfold q_btp; omega⟩)⟩, ht⟩) (fun _ h => by cases h) dX12_wrongOf_131
          · have ic34 := (xi_nlt c34 rfl h_n : n_t ≤ rh33.toInt)
            refine lv_aload_n hx hb dX12_wrongOf_113 rfl (lv_at hl 2 rfl) ?_
            refine h_get (v := .ref us) hx hb hts iX12 hown g t_a0 (by decide) so_13 rfl 24 (by decide) (hts (.fieldLink RX12 55 "CapLeagueModel" "usedSpare" "[Z") (by decide +kernel)) rfl dX12_wrongOf_114 (by show va_rf (z.R a0 24) = _; rw [rus]; rfl) ?_
            refine lv_iload_n hx hb dX12_wrongOf_117 rfl (lv_at hl 4 rfl) ?_
            refine h_zald hx hb g tus (by decide) so_1324 (xi_in (by rw [h_c]; omega) (by rw [h_c]; omega)) dX12_wrongOf_118 ?_
            refine xw_i (exus.symm) ?_
            refine lv_if_eq (tgt := 129) hx hb dX12_wrongOf_119 (by decide) (fun c35 => ?_) (fun c35 => ?_)
            · have ic35 := (xi_eq c35 rfl (by decide) : xus.toInt = 0)
              refine lv_iload hx hb dX12_wrongOf_129 (lv_at hl 1 rfl) ?_
              exact W.iret (v := 2) hx hb hr (fun t ht hW => ⟨2, rfl, ⟨⟨(by decide), (by decide)⟩, (by rw [acb, aus, ← kp, ← kc, ← excb, ← exus, ← h27p0, ← ev28]; have qn : n.toInt = n_t := h_n; have qy : y.toInt = y_t := h_y; exact ⟨0, 2, 0, 0, by decide, by unfold q_btp; omega, by unfold q_btp; omega, by unfold q_btp; omega, by unfold q_btp; omega⟩)⟩, ht⟩) (fun _ h => by cases h) dX12_wrongOf_131
            · have ic35 := (xi_ne c35 rfl (by decide) : xus.toInt ≠ 0)
              refine lv_iload hx hb dX12_wrongOf_122 (lv_at hl 1 rfl) ?_
              refine lv_bipush (v := 8) hx hb dX12_wrongOf_124 (by decide) ?_
              refine lv_ior hx hb dX12_wrongOf_126 ?_
              refine xw_i (v := 10) (by decide) ?_
              refine lv_istore (lv' := [(5, .int 10), (6, .int 1), (0, .ref a0), (1, .int p), (2, .int c), (3, .int y), (4, .int n)]) hx hb dX12_wrongOf_127 hl (by decide) rfl (fun ls hl => ?_)
              refine lv_iload hx hb dX12_wrongOf_129 (lv_at hl 0 rfl) ?_
              exact W.iret (v := 10) hx hb hr (fun t ht hW => ⟨10, rfl, ⟨⟨(by decide), (by decide)⟩, (by rw [acb, aus, ← kp, ← kc, ← excb, ← exus, ← h27p0, ← ev28]; have qn : n.toInt = n_t := h_n; have qy : y.toInt = y_t := h_y; exact ⟨0, 2, 0, 8, by decide, by unfold q_btp; omega, by unfold q_btp; omega, by unfold q_btp; omega, by unfold q_btp; omega⟩)⟩, ht⟩) (fun _ h => by cases h) dX12_wrongOf_131
      · have ic26 := (xi_nle c26 h_y rfl : rh25.toInt < y_t)
        refine lv_iload hx hb dX12_wrongOf_57 (lv_at hl 0 rfl) ?_
        refine lv_iconst (v := 4) hx hb dX12_wrongOf_59 (by decide) ?_
        refine lv_ior hx hb dX12_wrongOf_60 ?_
        refine xw_i (v := 6) (by decide) ?_
        refine lv_istore (lv' := [(5, .int 6), (0, .ref a0), (1, .int p), (2, .int c), (3, .int y), (4, .int n)]) hx hb dX12_wrongOf_61 hl (by decide) rfl (fun ls hl => ?_)
        refine lv_aload_n hx hb dX12_wrongOf_63 rfl (lv_at hl 1 rfl) ?_
        refine lv_iload_n hx hb dX12_wrongOf_64 rfl (lv_at hl 3 rfl) ?_
        refine lv_aload_n hx hb dX12_wrongOf_65 rfl (lv_at hl 1 rfl) ?_
        refine h_get (v := .int f0_12) hx hb hts iX12 hown g t_a0 (by decide) so_13 rfl 12 (by decide) (hts (.fieldLink RX12 187 "CapLeagueModel" "clock" "I") (by decide +kernel)) rfl dX12_wrongOf_66 (congrArg Value.int (ef0_12.symm)) ?_
        refine vp_callSi (W.runV (As := [.int c, .int f0_12]) (rest := []) ⟨hx, hb, hml, hown, hts⟩ (tX12_countsB l E X A z I0 L0 a0 t_a0 c (c_t) h_c (by omega) f0_12 (f0_12.toInt) rfl (by omega) (u_) (hr0) (hob) (by rw [ef0_12]; exact hpb)) (cwV 2 hts gX12_wrongOf_X12_counts rfl rfl rfl (by decide +kernel) ⟨Nat.le_of_ble_eq_true rfl, Nat.le_of_ble_eq_true rfl⟩) ⟨h_blind _ _ _ _ _ _ _, h_recv g t_a0 (by decide) so_13 (q := (RX12, TX12, 51)) rfl, h_pre _ hE hk hX hA hI hR g⟩ rfl rfl hl.1 rfl (lv_room (Nat.le_of_ble_eq_true rfl)) dX12_wrongOf_69 ⟨Nat.le_of_ble_eq_true rfl, Nat.le_of_ble_eq_true rfl⟩) (fun rh36 h36 => ?_)
        have h36p0 := h36
        have jrh36 : -2147483648 ≤ rh36.toInt ∧ rh36.toInt ≤ 2147483647 := ⟨xi_lo _, Int.le_of_lt_add_one (xi_hi _)⟩
        rw [ef0_12] at h36p0
        refine lv_iload hx hb dX12_wrongOf_72 (lv_at hl 5 rfl) ?_
        refine lv_iadd hx hb dX12_wrongOf_74 ?_
        refine lv_topi (fun v37 ev37 => ?_)
        have jv37 : -2147483648 ≤ v37.toInt ∧ v37.toInt ≤ 2147483647 := ⟨xi_lo _, Int.le_of_lt_add_one (xi_hi _)⟩
        refine lv_aload_n hx hb dX12_wrongOf_75 rfl (lv_at hl 1 rfl) ?_
        refine lv_aload_n hx hb dX12_wrongOf_76 rfl (lv_at hl 1 rfl) ?_
        refine h_get (v := .int f0_12) hx hb hts iX12 hown g t_a0 (by decide) so_13 rfl 12 (by decide) (hts (.fieldLink RX12 187 "CapLeagueModel" "clock" "I") (by decide +kernel)) rfl dX12_wrongOf_77 (congrArg Value.int (ef0_12.symm)) ?_
        refine lv_iconst (v := 0) hx hb dX12_wrongOf_80 (by decide) ?_
        refine vp_callSi (W.runV (As := [.int f0_12, .int 0]) (rest := [.int v37]) ⟨hx, hb, hml, hown, hts⟩ (tX12_lawOfF l E X A z I0 L0 a0 t_a0 f0_12 (f0_12.toInt) rfl (by omega) 0 (0) (by decide) (by omega)) (cwV 2 hts gX12_wrongOf_X12_lawOf rfl rfl rfl (by decide +kernel) ⟨Nat.le_of_ble_eq_true rfl, Nat.le_of_ble_eq_true rfl⟩) ⟨h_blind _ _ _ _ _ _ _, h_recv g t_a0 (by decide) so_13 (q := (RX12, TX12, 51)) rfl, h_pre _ hE hk hX hA hI hR g⟩ rfl rfl hl.1 rfl (lv_room (Nat.le_of_ble_eq_true rfl)) dX12_wrongOf_81 ⟨Nat.le_of_ble_eq_true rfl, Nat.le_of_ble_eq_true rfl⟩) (fun rh38 h38 => ?_)
        obtain ⟨h38p0, h38p1, h38p2⟩ := h38
        have jrh38 : -2147483648 ≤ rh38.toInt ∧ rh38.toInt ≤ 2147483647 := ⟨xi_lo _, Int.le_of_lt_add_one (xi_hi _)⟩
        rw [alw, ahy] at h38p0
        have grh38 := hrl.at (x := 0) (by decide) h38p0
        clear h38p0
        refine lv_icmp_le (tgt := 91) hx hb dX12_wrongOf_84 (by decide) (fun c39 => ?_) (fun c39 => ?_)
        · have ic39 := (xi_le c39 rfl rfl : v37.toInt ≤ rh38.toInt)
          refine lv_iconst (v := 0) hx hb dX12_wrongOf_91 (by decide) ?_
          refine lv_istore (lv' := [(6, .int 0), (5, .int 6), (0, .ref a0), (1, .int p), (2, .int c), (3, .int y), (4, .int n)]) hx hb dX12_wrongOf_92 hl (by decide) rfl (fun ls hl => ?_)
          refine lv_iload hx hb dX12_wrongOf_94 (lv_at hl 0 rfl) ?_
          refine lv_if_eq (tgt := 129) hx hb dX12_wrongOf_96 (by decide) (fun _ => ?_) (fun h => absurd (by decide) h)
          refine lv_iload hx hb dX12_wrongOf_129 (lv_at hl 1 rfl) ?_
          exact W.iret (v := 6) hx hb hr (fun t ht hW => ⟨6, rfl, ⟨⟨(by decide), (by decide)⟩, (by rw [acb, aus, ← kp, ← kc, ← excb, ← exus, ← h36p0, ← ev37]; have qn : n.toInt = n_t := h_n; have qy : y.toInt = y_t := h_y; exact ⟨0, 2, 4, 0, by decide, by unfold q_btp; omega, by unfold q_btp; omega, by unfold q_btp; omega, by unfold q_btp; omega⟩)⟩, ht⟩) (fun _ h => by cases h) dX12_wrongOf_131
        · have ic39 := (xi_nle c39 rfl rfl : rh38.toInt < v37.toInt)
          refine lv_iconst (v := 1) hx hb dX12_wrongOf_87 (by decide) ?_
          refine lv_goto (tgt := 92) hx hb dX12_wrongOf_88 (by decide) ?_
          refine lv_istore (lv' := [(6, .int 1), (5, .int 6), (0, .ref a0), (1, .int p), (2, .int c), (3, .int y), (4, .int n)]) hx hb dX12_wrongOf_92 hl (by decide) rfl (fun ls hl => ?_)
          refine lv_iload hx hb dX12_wrongOf_94 (lv_at hl 0 rfl) ?_
          refine lv_if_eq (tgt := 129) hx hb dX12_wrongOf_96 (by decide) (fun h => absurd h (by decide)) (fun _ => ?_)
          refine lv_iload hx hb dX12_wrongOf_99 (lv_at hl 6 rfl) ?_
          refine lv_aload_n hx hb dX12_wrongOf_101 rfl (lv_at hl 2 rfl) ?_
          refine lv_aload_n hx hb dX12_wrongOf_102 rfl (lv_at hl 2 rfl) ?_
          refine h_get (v := .int f0_12) hx hb hts iX12 hown g t_a0 (by decide) so_13 rfl 12 (by decide) (hts (.fieldLink RX12 187 "CapLeagueModel" "clock" "I") (by decide +kernel)) rfl dX12_wrongOf_103 (congrArg Value.int (ef0_12.symm)) ?_
          refine lv_iconst (v := 3) hx hb dX12_wrongOf_106 (by decide) ?_
          refine vp_callSi (W.runV (As := [.int f0_12, .int 3]) (rest := [.int n]) ⟨hx, hb, hml, hown, hts⟩ (tX12_lawOfF l E X A z I0 L0 a0 t_a0 f0_12 (f0_12.toInt) rfl (by omega) 3 (3) (by decide) (by omega)) (cwV 2 hts gX12_wrongOf_X12_lawOf rfl rfl rfl (by decide +kernel) ⟨Nat.le_of_ble_eq_true rfl, Nat.le_of_ble_eq_true rfl⟩) ⟨h_blind _ _ _ _ _ _ _, h_recv g t_a0 (by decide) so_13 (q := (RX12, TX12, 51)) rfl, h_pre _ hE hk hX hA hI hR g⟩ rfl rfl hl.1 rfl (lv_room (Nat.le_of_ble_eq_true rfl)) dX12_wrongOf_107 ⟨Nat.le_of_ble_eq_true rfl, Nat.le_of_ble_eq_true rfl⟩) (fun rh42 h42 => ?_)
          obtain ⟨h42p0, h42p1, h42p2⟩ := h42
          have jrh42 : -2147483648 ≤ rh42.toInt ∧ rh42.toInt ≤ 2147483647 := ⟨xi_lo _, Int.le_of_lt_add_one (xi_hi _)⟩
          rw [alw, ahy] at h42p0
          have grh42 := hrl.at (x := 3) (by decide) h42p0
          clear h42p0
          refine lv_icmp_gt (tgt := 122) hx hb dX12_wrongOf_110 (by decide) (fun c43 => ?_) (fun c43 => ?_)
          · have ic43 := (xi_lt c43 rfl h_n : rh42.toInt < n_t)
            refine lv_iload hx hb dX12_wrongOf_122 (lv_at hl 1 rfl) ?_
            refine lv_bipush (v := 8) hx hb dX12_wrongOf_124 (by decide) ?_
            refine lv_ior hx hb dX12_wrongOf_126 ?_
            refine xw_i (v := 14) (by decide) ?_
            refine lv_istore (lv' := [(5, .int 14), (6, .int 1), (0, .ref a0), (1, .int p), (2, .int c), (3, .int y), (4, .int n)]) hx hb dX12_wrongOf_127 hl (by decide) rfl (fun ls hl => ?_)
            refine lv_iload hx hb dX12_wrongOf_129 (lv_at hl 0 rfl) ?_
            exact W.iret (v := 14) hx hb hr (fun t ht hW => ⟨14, rfl, ⟨⟨(by decide), (by decide)⟩, (by rw [acb, aus, ← kp, ← kc, ← excb, ← exus, ← h36p0, ← ev37]; have qn : n.toInt = n_t := h_n; have qy : y.toInt = y_t := h_y; exact ⟨0, 2, 4, 8, by decide, by unfold q_btp; omega, by unfold q_btp; omega, by unfold q_btp; omega, by unfold q_btp; omega⟩)⟩, ht⟩) (fun _ h => by cases h) dX12_wrongOf_131
          · have ic43 := (xi_nlt c43 rfl h_n : n_t ≤ rh42.toInt)
            refine lv_aload_n hx hb dX12_wrongOf_113 rfl (lv_at hl 2 rfl) ?_
            refine h_get (v := .ref us) hx hb hts iX12 hown g t_a0 (by decide) so_13 rfl 24 (by decide) (hts (.fieldLink RX12 55 "CapLeagueModel" "usedSpare" "[Z") (by decide +kernel)) rfl dX12_wrongOf_114 (by show va_rf (z.R a0 24) = _; rw [rus]; rfl) ?_
            refine lv_iload_n hx hb dX12_wrongOf_117 rfl (lv_at hl 4 rfl) ?_
            refine h_zald hx hb g tus (by decide) so_1324 (xi_in (by rw [h_c]; omega) (by rw [h_c]; omega)) dX12_wrongOf_118 ?_
            refine xw_i (exus.symm) ?_
            refine lv_if_eq (tgt := 129) hx hb dX12_wrongOf_119 (by decide) (fun c44 => ?_) (fun c44 => ?_)
            · have ic44 := (xi_eq c44 rfl (by decide) : xus.toInt = 0)
              refine lv_iload hx hb dX12_wrongOf_129 (lv_at hl 1 rfl) ?_
              exact W.iret (v := 6) hx hb hr (fun t ht hW => ⟨6, rfl, ⟨⟨(by decide), (by decide)⟩, (by rw [acb, aus, ← kp, ← kc, ← excb, ← exus, ← h36p0, ← ev37]; have qn : n.toInt = n_t := h_n; have qy : y.toInt = y_t := h_y; exact ⟨0, 2, 4, 0, by decide, by unfold q_btp; omega, by unfold q_btp; omega, by unfold q_btp; omega, by unfold q_btp; omega⟩)⟩, ht⟩) (fun _ h => by cases h) dX12_wrongOf_131
            · have ic44 := (xi_ne c44 rfl (by decide) : xus.toInt ≠ 0)
              refine lv_iload hx hb dX12_wrongOf_122 (lv_at hl 1 rfl) ?_
              refine lv_bipush (v := 8) hx hb dX12_wrongOf_124 (by decide) ?_
              refine lv_ior hx hb dX12_wrongOf_126 ?_
              refine xw_i (v := 14) (by decide) ?_
              refine lv_istore (lv' := [(5, .int 14), (6, .int 1), (0, .ref a0), (1, .int p), (2, .int c), (3, .int y), (4, .int n)]) hx hb dX12_wrongOf_127 hl (by decide) rfl (fun ls hl => ?_)
              refine lv_iload hx hb dX12_wrongOf_129 (lv_at hl 0 rfl) ?_
              exact W.iret (v := 14) hx hb hr (fun t ht hW => ⟨14, rfl, ⟨⟨(by decide), (by decide)⟩, (by rw [acb, aus, ← kp, ← kc, ← excb, ← exus, ← h36p0, ← ev37]; have qn : n.toInt = n_t := h_n; have qy : y.toInt = y_t := h_y; exact ⟨0, 2, 4, 8, by decide, by unfold q_btp; omega, by unfold q_btp; omega, by unfold q_btp; omega, by unfold q_btp; omega⟩)⟩, ht⟩) (fun _ h => by cases h) dX12_wrongOf_131
  · have ic1 := (xi_ne c1 rfl (by decide) : xcb.toInt ≠ (-1))
    refine lv_iconst (v := 1) hx hb dX12_wrongOf_10 (by decide) ?_
    refine lv_goto (tgt := 15) hx hb dX12_wrongOf_11 (by decide) ?_
    refine lv_istore (lv' := [(5, .int 1), (0, .ref a0), (1, .int p), (2, .int c), (3, .int y), (4, .int n)]) hx hb dX12_wrongOf_15 hl (by decide) rfl (fun ls hl => ?_)
    refine lv_aload_n hx hb dX12_wrongOf_17 rfl (lv_at hl 1 rfl) ?_
    refine lv_iload_n hx hb dX12_wrongOf_18 rfl (lv_at hl 3 rfl) ?_
    refine lv_aload_n hx hb dX12_wrongOf_19 rfl (lv_at hl 1 rfl) ?_
    refine h_get (v := .int f0_12) hx hb hts iX12 hown g t_a0 (by decide) so_13 rfl 12 (by decide) (hts (.fieldLink RX12 187 "CapLeagueModel" "clock" "I") (by decide +kernel)) rfl dX12_wrongOf_20 (congrArg Value.int (ef0_12.symm)) ?_
    refine vp_callSi (W.runV (As := [.int c, .int f0_12]) (rest := []) ⟨hx, hb, hml, hown, hts⟩ (tX12_manyOfB l E X A z I0 L0 a0 t_a0 c (c_t) h_c f0_12 (f0_12.toInt) rfl) (cwV 2 hts gX12_wrongOf_X12_manyOf rfl rfl rfl (by decide +kernel) ⟨Nat.le_of_ble_eq_true rfl, Nat.le_of_ble_eq_true rfl⟩) ⟨h_blind _ _ _ _ _ _ _, h_recv g t_a0 (by decide) so_13 (q := (RX12, TX12, 51)) rfl, h_pre _ hE hk hX hA hI hR g⟩ rfl rfl hl.1 rfl (lv_room (Nat.le_of_ble_eq_true rfl)) dX12_wrongOf_23 ⟨Nat.le_of_ble_eq_true rfl, Nat.le_of_ble_eq_true rfl⟩) (fun rh45 h45 => ?_)
    have h45p0 := h45
    have jrh45 : -2147483648 ≤ rh45.toInt ∧ rh45.toInt ≤ 2147483647 := ⟨xi_lo _, Int.le_of_lt_add_one (xi_hi _)⟩
    rw [ef0_12] at h45p0
    replace h45p0 := congrArg Int32.toInt h45p0
    refine lv_aload_n hx hb dX12_wrongOf_26 rfl (lv_at hl 1 rfl) ?_
    refine lv_aload_n hx hb dX12_wrongOf_27 rfl (lv_at hl 1 rfl) ?_
    refine h_get (v := .int f0_12) hx hb hts iX12 hown g t_a0 (by decide) so_13 rfl 12 (by decide) (hts (.fieldLink RX12 187 "CapLeagueModel" "clock" "I") (by decide +kernel)) rfl dX12_wrongOf_28 (congrArg Value.int (ef0_12.symm)) ?_
    refine lv_iconst (v := 1) hx hb dX12_wrongOf_31 (by decide) ?_
    refine vp_callSi (W.runV (As := [.int f0_12, .int 1]) (rest := [.int rh45]) ⟨hx, hb, hml, hown, hts⟩ (tX12_lawOfF l E X A z I0 L0 a0 t_a0 f0_12 (f0_12.toInt) rfl (by omega) 1 (1) (by decide) (by omega)) (cwV 2 hts gX12_wrongOf_X12_lawOf rfl rfl rfl (by decide +kernel) ⟨Nat.le_of_ble_eq_true rfl, Nat.le_of_ble_eq_true rfl⟩) ⟨h_blind _ _ _ _ _ _ _, h_recv g t_a0 (by decide) so_13 (q := (RX12, TX12, 51)) rfl, h_pre _ hE hk hX hA hI hR g⟩ rfl rfl hl.1 rfl (lv_room (Nat.le_of_ble_eq_true rfl)) dX12_wrongOf_32 ⟨Nat.le_of_ble_eq_true rfl, Nat.le_of_ble_eq_true rfl⟩) (fun rh46 h46 => ?_)
    obtain ⟨h46p0, h46p1, h46p2⟩ := h46
    have jrh46 : -2147483648 ≤ rh46.toInt ∧ rh46.toInt ≤ 2147483647 := ⟨xi_lo _, Int.le_of_lt_add_one (xi_hi _)⟩
    rw [alw, ahy] at h46p0
    have grh46 := hrl.at (x := 1) (by decide) h46p0
    clear h46p0
    refine lv_icmp_lt (tgt := 44) hx hb dX12_wrongOf_35 (by decide) (fun c47 => ?_) (fun c47 => ?_)
    · have ic47 := (xi_lt c47 rfl rfl : rh45.toInt < rh46.toInt)
      refine lv_iload_n hx hb dX12_wrongOf_44 rfl (lv_at hl 4 rfl) ?_
      refine lv_aload_n hx hb dX12_wrongOf_45 rfl (lv_at hl 1 rfl) ?_
      refine lv_aload_n hx hb dX12_wrongOf_46 rfl (lv_at hl 1 rfl) ?_
      refine h_get (v := .int f0_12) hx hb hts iX12 hown g t_a0 (by decide) so_13 rfl 12 (by decide) (hts (.fieldLink RX12 187 "CapLeagueModel" "clock" "I") (by decide +kernel)) rfl dX12_wrongOf_47 (congrArg Value.int (ef0_12.symm)) ?_
      refine lv_iconst (v := 2) hx hb dX12_wrongOf_50 (by decide) ?_
      refine vp_callSi (W.runV (As := [.int f0_12, .int 2]) (rest := [.int y]) ⟨hx, hb, hml, hown, hts⟩ (tX12_lawOfF l E X A z I0 L0 a0 t_a0 f0_12 (f0_12.toInt) rfl (by omega) 2 (2) (by decide) (by omega)) (cwV 2 hts gX12_wrongOf_X12_lawOf rfl rfl rfl (by decide +kernel) ⟨Nat.le_of_ble_eq_true rfl, Nat.le_of_ble_eq_true rfl⟩) ⟨h_blind _ _ _ _ _ _ _, h_recv g t_a0 (by decide) so_13 (q := (RX12, TX12, 51)) rfl, h_pre _ hE hk hX hA hI hR g⟩ rfl rfl hl.1 rfl (lv_room (Nat.le_of_ble_eq_true rfl)) dX12_wrongOf_51 ⟨Nat.le_of_ble_eq_true rfl, Nat.le_of_ble_eq_true rfl⟩) (fun rh48 h48 => ?_)
      obtain ⟨h48p0, h48p1, h48p2⟩ := h48
      have jrh48 : -2147483648 ≤ rh48.toInt ∧ rh48.toInt ≤ 2147483647 := ⟨xi_lo _, Int.le_of_lt_add_one (xi_hi _)⟩
      rw [alw, ahy] at h48p0
      have grh48 := hrl.at (x := 2) (by decide) h48p0
      clear h48p0
      refine lv_icmp_le (tgt := 63) hx hb dX12_wrongOf_54 (by decide) (fun c49 => ?_) (fun c49 => ?_)
      · have ic49 := (xi_le c49 h_y rfl : y_t ≤ rh48.toInt)
        refine lv_aload_n hx hb dX12_wrongOf_63 rfl (lv_at hl 1 rfl) ?_
        refine lv_iload_n hx hb dX12_wrongOf_64 rfl (lv_at hl 3 rfl) ?_
        refine lv_aload_n hx hb dX12_wrongOf_65 rfl (lv_at hl 1 rfl) ?_
        refine h_get (v := .int f0_12) hx hb hts iX12 hown g t_a0 (by decide) so_13 rfl 12 (by decide) (hts (.fieldLink RX12 187 "CapLeagueModel" "clock" "I") (by decide +kernel)) rfl dX12_wrongOf_66 (congrArg Value.int (ef0_12.symm)) ?_
        refine vp_callSi (W.runV (As := [.int c, .int f0_12]) (rest := []) ⟨hx, hb, hml, hown, hts⟩ (tX12_countsB l E X A z I0 L0 a0 t_a0 c (c_t) h_c (by omega) f0_12 (f0_12.toInt) rfl (by omega) (u_) (hr0) (hob) (by rw [ef0_12]; exact hpb)) (cwV 2 hts gX12_wrongOf_X12_counts rfl rfl rfl (by decide +kernel) ⟨Nat.le_of_ble_eq_true rfl, Nat.le_of_ble_eq_true rfl⟩) ⟨h_blind _ _ _ _ _ _ _, h_recv g t_a0 (by decide) so_13 (q := (RX12, TX12, 51)) rfl, h_pre _ hE hk hX hA hI hR g⟩ rfl rfl hl.1 rfl (lv_room (Nat.le_of_ble_eq_true rfl)) dX12_wrongOf_69 ⟨Nat.le_of_ble_eq_true rfl, Nat.le_of_ble_eq_true rfl⟩) (fun rh50 h50 => ?_)
        have h50p0 := h50
        have jrh50 : -2147483648 ≤ rh50.toInt ∧ rh50.toInt ≤ 2147483647 := ⟨xi_lo _, Int.le_of_lt_add_one (xi_hi _)⟩
        rw [ef0_12] at h50p0
        refine lv_iload hx hb dX12_wrongOf_72 (lv_at hl 5 rfl) ?_
        refine lv_iadd hx hb dX12_wrongOf_74 ?_
        refine lv_topi (fun v51 ev51 => ?_)
        have jv51 : -2147483648 ≤ v51.toInt ∧ v51.toInt ≤ 2147483647 := ⟨xi_lo _, Int.le_of_lt_add_one (xi_hi _)⟩
        refine lv_aload_n hx hb dX12_wrongOf_75 rfl (lv_at hl 1 rfl) ?_
        refine lv_aload_n hx hb dX12_wrongOf_76 rfl (lv_at hl 1 rfl) ?_
        refine h_get (v := .int f0_12) hx hb hts iX12 hown g t_a0 (by decide) so_13 rfl 12 (by decide) (hts (.fieldLink RX12 187 "CapLeagueModel" "clock" "I") (by decide +kernel)) rfl dX12_wrongOf_77 (congrArg Value.int (ef0_12.symm)) ?_
        refine lv_iconst (v := 0) hx hb dX12_wrongOf_80 (by decide) ?_
        refine vp_callSi (W.runV (As := [.int f0_12, .int 0]) (rest := [.int v51]) ⟨hx, hb, hml, hown, hts⟩ (tX12_lawOfF l E X A z I0 L0 a0 t_a0 f0_12 (f0_12.toInt) rfl (by omega) 0 (0) (by decide) (by omega)) (cwV 2 hts gX12_wrongOf_X12_lawOf rfl rfl rfl (by decide +kernel) ⟨Nat.le_of_ble_eq_true rfl, Nat.le_of_ble_eq_true rfl⟩) ⟨h_blind _ _ _ _ _ _ _, h_recv g t_a0 (by decide) so_13 (q := (RX12, TX12, 51)) rfl, h_pre _ hE hk hX hA hI hR g⟩ rfl rfl hl.1 rfl (lv_room (Nat.le_of_ble_eq_true rfl)) dX12_wrongOf_81 ⟨Nat.le_of_ble_eq_true rfl, Nat.le_of_ble_eq_true rfl⟩) (fun rh52 h52 => ?_)
        obtain ⟨h52p0, h52p1, h52p2⟩ := h52
        have jrh52 : -2147483648 ≤ rh52.toInt ∧ rh52.toInt ≤ 2147483647 := ⟨xi_lo _, Int.le_of_lt_add_one (xi_hi _)⟩
        rw [alw, ahy] at h52p0
        have grh52 := hrl.at (x := 0) (by decide) h52p0
        clear h52p0
        refine lv_icmp_le (tgt := 91) hx hb dX12_wrongOf_84 (by decide) (fun c53 => ?_) (fun c53 => ?_)
        · have ic53 := (xi_le c53 rfl rfl : v51.toInt ≤ rh52.toInt)
          refine lv_iconst (v := 0) hx hb dX12_wrongOf_91 (by decide) ?_
          refine lv_istore (lv' := [(6, .int 0), (5, .int 1), (0, .ref a0), (1, .int p), (2, .int c), (3, .int y), (4, .int n)]) hx hb dX12_wrongOf_92 hl (by decide) rfl (fun ls hl => ?_)
          refine lv_iload hx hb dX12_wrongOf_94 (lv_at hl 0 rfl) ?_
          refine lv_if_eq (tgt := 129) hx hb dX12_wrongOf_96 (by decide) (fun _ => ?_) (fun h => absurd (by decide) h)
          refine lv_iload hx hb dX12_wrongOf_129 (lv_at hl 1 rfl) ?_
          exact W.iret (v := 1) hx hb hr (fun t ht hW => ⟨1, rfl, ⟨⟨(by decide), (by decide)⟩, (by rw [acb, aus, ← kp, ← kc, ← excb, ← exus, ← h50p0, ← ev51]; have qn : n.toInt = n_t := h_n; have qy : y.toInt = y_t := h_y; exact ⟨1, 0, 0, 0, by decide, by unfold q_btp; omega, by unfold q_btp; omega, by unfold q_btp; omega, by unfold q_btp; omega⟩)⟩, ht⟩) (fun _ h => by cases h) dX12_wrongOf_131
        · have ic53 := (xi_nle c53 rfl rfl : rh52.toInt < v51.toInt)
          refine lv_iconst (v := 1) hx hb dX12_wrongOf_87 (by decide) ?_
          refine lv_goto (tgt := 92) hx hb dX12_wrongOf_88 (by decide) ?_
          refine lv_istore (lv' := [(6, .int 1), (5, .int 1), (0, .ref a0), (1, .int p), (2, .int c), (3, .int y), (4, .int n)]) hx hb dX12_wrongOf_92 hl (by decide) rfl (fun ls hl => ?_)
          refine lv_iload hx hb dX12_wrongOf_94 (lv_at hl 0 rfl) ?_
          refine lv_if_eq (tgt := 129) hx hb dX12_wrongOf_96 (by decide) (fun h => absurd h (by decide)) (fun _ => ?_)
          refine lv_iload hx hb dX12_wrongOf_99 (lv_at hl 6 rfl) ?_
          refine lv_aload_n hx hb dX12_wrongOf_101 rfl (lv_at hl 2 rfl) ?_
          refine lv_aload_n hx hb dX12_wrongOf_102 rfl (lv_at hl 2 rfl) ?_
          refine h_get (v := .int f0_12) hx hb hts iX12 hown g t_a0 (by decide) so_13 rfl 12 (by decide) (hts (.fieldLink RX12 187 "CapLeagueModel" "clock" "I") (by decide +kernel)) rfl dX12_wrongOf_103 (congrArg Value.int (ef0_12.symm)) ?_
          refine lv_iconst (v := 3) hx hb dX12_wrongOf_106 (by decide) ?_
          refine vp_callSi (W.runV (As := [.int f0_12, .int 3]) (rest := [.int n]) ⟨hx, hb, hml, hown, hts⟩ (tX12_lawOfF l E X A z I0 L0 a0 t_a0 f0_12 (f0_12.toInt) rfl (by omega) 3 (3) (by decide) (by omega)) (cwV 2 hts gX12_wrongOf_X12_lawOf rfl rfl rfl (by decide +kernel) ⟨Nat.le_of_ble_eq_true rfl, Nat.le_of_ble_eq_true rfl⟩) ⟨h_blind _ _ _ _ _ _ _, h_recv g t_a0 (by decide) so_13 (q := (RX12, TX12, 51)) rfl, h_pre _ hE hk hX hA hI hR g⟩ rfl rfl hl.1 rfl (lv_room (Nat.le_of_ble_eq_true rfl)) dX12_wrongOf_107 ⟨Nat.le_of_ble_eq_true rfl, Nat.le_of_ble_eq_true rfl⟩) (fun rh56 h56 => ?_)
          obtain ⟨h56p0, h56p1, h56p2⟩ := h56
          have jrh56 : -2147483648 ≤ rh56.toInt ∧ rh56.toInt ≤ 2147483647 := ⟨xi_lo _, Int.le_of_lt_add_one (xi_hi _)⟩
          rw [alw, ahy] at h56p0
          have grh56 := hrl.at (x := 3) (by decide) h56p0
          clear h56p0
          refine lv_icmp_gt (tgt := 122) hx hb dX12_wrongOf_110 (by decide) (fun c57 => ?_) (fun c57 => ?_)
          · have ic57 := (xi_lt c57 rfl h_n : rh56.toInt < n_t)
            refine lv_iload hx hb dX12_wrongOf_122 (lv_at hl 1 rfl) ?_
            refine lv_bipush (v := 8) hx hb dX12_wrongOf_124 (by decide) ?_
            refine lv_ior hx hb dX12_wrongOf_126 ?_
            refine xw_i (v := 9) (by decide) ?_
            refine lv_istore (lv' := [(5, .int 9), (6, .int 1), (0, .ref a0), (1, .int p), (2, .int c), (3, .int y), (4, .int n)]) hx hb dX12_wrongOf_127 hl (by decide) rfl (fun ls hl => ?_)
            refine lv_iload hx hb dX12_wrongOf_129 (lv_at hl 0 rfl) ?_
            exact W.iret (v := 9) hx hb hr (fun t ht hW => ⟨9, rfl, ⟨⟨(by decide), (by decide)⟩, (by rw [acb, aus, ← kp, ← kc, ← excb, ← exus, ← h50p0, ← ev51]; have qn : n.toInt = n_t := h_n; have qy : y.toInt = y_t := h_y; exact ⟨1, 0, 0, 8, by decide, by unfold q_btp; omega, by unfold q_btp; omega, by unfold q_btp; omega, by unfold q_btp; omega⟩)⟩, ht⟩) (fun _ h => by cases h) dX12_wrongOf_131
          · have ic57 := (xi_nlt c57 rfl h_n : n_t ≤ rh56.toInt)
            refine lv_aload_n hx hb dX12_wrongOf_113 rfl (lv_at hl 2 rfl) ?_
            refine h_get (v := .ref us) hx hb hts iX12 hown g t_a0 (by decide) so_13 rfl 24 (by decide) (hts (.fieldLink RX12 55 "CapLeagueModel" "usedSpare" "[Z") (by decide +kernel)) rfl dX12_wrongOf_114 (by show va_rf (z.R a0 24) = _; rw [rus]; rfl) ?_
            refine lv_iload_n hx hb dX12_wrongOf_117 rfl (lv_at hl 4 rfl) ?_
            refine h_zald hx hb g tus (by decide) so_1324 (xi_in (by rw [h_c]; omega) (by rw [h_c]; omega)) dX12_wrongOf_118 ?_
            refine xw_i (exus.symm) ?_
            refine lv_if_eq (tgt := 129) hx hb dX12_wrongOf_119 (by decide) (fun c58 => ?_) (fun c58 => ?_)
            · have ic58 := (xi_eq c58 rfl (by decide) : xus.toInt = 0)
              refine lv_iload hx hb dX12_wrongOf_129 (lv_at hl 1 rfl) ?_
              exact W.iret (v := 1) hx hb hr (fun t ht hW => ⟨1, rfl, ⟨⟨(by decide), (by decide)⟩, (by rw [acb, aus, ← kp, ← kc, ← excb, ← exus, ← h50p0, ← ev51]; have qn : n.toInt = n_t := h_n; have qy : y.toInt = y_t := h_y; exact ⟨1, 0, 0, 0, by decide, by unfold q_btp; omega, by unfold q_btp; omega, by unfold q_btp; omega, by unfold q_btp; omega⟩)⟩, ht⟩) (fun _ h => by cases h) dX12_wrongOf_131
            · have ic58 := (xi_ne c58 rfl (by decide) : xus.toInt ≠ 0)
              refine lv_iload hx hb dX12_wrongOf_122 (lv_at hl 1 rfl) ?_
              refine lv_bipush (v := 8) hx hb dX12_wrongOf_124 (by decide) ?_
              refine lv_ior hx hb dX12_wrongOf_126 ?_
              refine xw_i (v := 9) (by decide) ?_
              refine lv_istore (lv' := [(5, .int 9), (6, .int 1), (0, .ref a0), (1, .int p), (2, .int c), (3, .int y), (4, .int n)]) hx hb dX12_wrongOf_127 hl (by decide) rfl (fun ls hl => ?_)
              refine lv_iload hx hb dX12_wrongOf_129 (lv_at hl 0 rfl) ?_
              exact W.iret (v := 9) hx hb hr (fun t ht hW => ⟨9, rfl, ⟨⟨(by decide), (by decide)⟩, (by rw [acb, aus, ← kp, ← kc, ← excb, ← exus, ← h50p0, ← ev51]; have qn : n.toInt = n_t := h_n; have qy : y.toInt = y_t := h_y; exact ⟨1, 0, 0, 8, by decide, by unfold q_btp; omega, by unfold q_btp; omega, by unfold q_btp; omega, by unfold q_btp; omega⟩)⟩, ht⟩) (fun _ h => by cases h) dX12_wrongOf_131
      · have ic49 := (xi_nle c49 h_y rfl : rh48.toInt < y_t)
        refine lv_iload hx hb dX12_wrongOf_57 (lv_at hl 0 rfl) ?_
        refine lv_iconst (v := 4) hx hb dX12_wrongOf_59 (by decide) ?_
        refine lv_ior hx hb dX12_wrongOf_60 ?_
        refine xw_i (v := 5) (by decide) ?_
        refine lv_istore (lv' := [(5, .int 5), (0, .ref a0), (1, .int p), (2, .int c), (3, .int y), (4, .int n)]) hx hb dX12_wrongOf_61 hl (by decide) rfl (fun ls hl => ?_)
        refine lv_aload_n hx hb dX12_wrongOf_63 rfl (lv_at hl 1 rfl) ?_
        refine lv_iload_n hx hb dX12_wrongOf_64 rfl (lv_at hl 3 rfl) ?_
        refine lv_aload_n hx hb dX12_wrongOf_65 rfl (lv_at hl 1 rfl) ?_
        refine h_get (v := .int f0_12) hx hb hts iX12 hown g t_a0 (by decide) so_13 rfl 12 (by decide) (hts (.fieldLink RX12 187 "CapLeagueModel" "clock" "I") (by decide +kernel)) rfl dX12_wrongOf_66 (congrArg Value.int (ef0_12.symm)) ?_
        refine vp_callSi (W.runV (As := [.int c, .int f0_12]) (rest := []) ⟨hx, hb, hml, hown, hts⟩ (tX12_countsB l E X A z I0 L0 a0 t_a0 c (c_t) h_c (by omega) f0_12 (f0_12.toInt) rfl (by omega) (u_) (hr0) (hob) (by rw [ef0_12]; exact hpb)) (cwV 2 hts gX12_wrongOf_X12_counts rfl rfl rfl (by decide +kernel) ⟨Nat.le_of_ble_eq_true rfl, Nat.le_of_ble_eq_true rfl⟩) ⟨h_blind _ _ _ _ _ _ _, h_recv g t_a0 (by decide) so_13 (q := (RX12, TX12, 51)) rfl, h_pre _ hE hk hX hA hI hR g⟩ rfl rfl hl.1 rfl (lv_room (Nat.le_of_ble_eq_true rfl)) dX12_wrongOf_69 ⟨Nat.le_of_ble_eq_true rfl, Nat.le_of_ble_eq_true rfl⟩) (fun rh59 h59 => ?_)
        have h59p0 := h59
        have jrh59 : -2147483648 ≤ rh59.toInt ∧ rh59.toInt ≤ 2147483647 := ⟨xi_lo _, Int.le_of_lt_add_one (xi_hi _)⟩
        rw [ef0_12] at h59p0
        refine lv_iload hx hb dX12_wrongOf_72 (lv_at hl 5 rfl) ?_
        refine lv_iadd hx hb dX12_wrongOf_74 ?_
        refine lv_topi (fun v60 ev60 => ?_)
        have jv60 : -2147483648 ≤ v60.toInt ∧ v60.toInt ≤ 2147483647 := ⟨xi_lo _, Int.le_of_lt_add_one (xi_hi _)⟩
        refine lv_aload_n hx hb dX12_wrongOf_75 rfl (lv_at hl 1 rfl) ?_
        refine lv_aload_n hx hb dX12_wrongOf_76 rfl (lv_at hl 1 rfl) ?_
        refine h_get (v := .int f0_12) hx hb hts iX12 hown g t_a0 (by decide) so_13 rfl 12 (by decide) (hts (.fieldLink RX12 187 "CapLeagueModel" "clock" "I") (by decide +kernel)) rfl dX12_wrongOf_77 (congrArg Value.int (ef0_12.symm)) ?_
        refine lv_iconst (v := 0) hx hb dX12_wrongOf_80 (by decide) ?_
        refine vp_callSi (W.runV (As := [.int f0_12, .int 0]) (rest := [.int v60]) ⟨hx, hb, hml, hown, hts⟩ (tX12_lawOfF l E X A z I0 L0 a0 t_a0 f0_12 (f0_12.toInt) rfl (by omega) 0 (0) (by decide) (by omega)) (cwV 2 hts gX12_wrongOf_X12_lawOf rfl rfl rfl (by decide +kernel) ⟨Nat.le_of_ble_eq_true rfl, Nat.le_of_ble_eq_true rfl⟩) ⟨h_blind _ _ _ _ _ _ _, h_recv g t_a0 (by decide) so_13 (q := (RX12, TX12, 51)) rfl, h_pre _ hE hk hX hA hI hR g⟩ rfl rfl hl.1 rfl (lv_room (Nat.le_of_ble_eq_true rfl)) dX12_wrongOf_81 ⟨Nat.le_of_ble_eq_true rfl, Nat.le_of_ble_eq_true rfl⟩) (fun rh61 h61 => ?_)
        obtain ⟨h61p0, h61p1, h61p2⟩ := h61
        have jrh61 : -2147483648 ≤ rh61.toInt ∧ rh61.toInt ≤ 2147483647 := ⟨xi_lo _, Int.le_of_lt_add_one (xi_hi _)⟩
        rw [alw, ahy] at h61p0
        have grh61 := hrl.at (x := 0) (by decide) h61p0
        clear h61p0
        refine lv_icmp_le (tgt := 91) hx hb dX12_wrongOf_84 (by decide) (fun c62 => ?_) (fun c62 => ?_)
        · have ic62 := (xi_le c62 rfl rfl : v60.toInt ≤ rh61.toInt)
          refine lv_iconst (v := 0) hx hb dX12_wrongOf_91 (by decide) ?_
          refine lv_istore (lv' := [(6, .int 0), (5, .int 5), (0, .ref a0), (1, .int p), (2, .int c), (3, .int y), (4, .int n)]) hx hb dX12_wrongOf_92 hl (by decide) rfl (fun ls hl => ?_)
          refine lv_iload hx hb dX12_wrongOf_94 (lv_at hl 0 rfl) ?_
          refine lv_if_eq (tgt := 129) hx hb dX12_wrongOf_96 (by decide) (fun _ => ?_) (fun h => absurd (by decide) h)
          refine lv_iload hx hb dX12_wrongOf_129 (lv_at hl 1 rfl) ?_
          exact W.iret (v := 5) hx hb hr (fun t ht hW => ⟨5, rfl, ⟨⟨(by decide), (by decide)⟩, (by rw [acb, aus, ← kp, ← kc, ← excb, ← exus, ← h59p0, ← ev60]; have qn : n.toInt = n_t := h_n; have qy : y.toInt = y_t := h_y; exact ⟨1, 0, 4, 0, by decide, by unfold q_btp; omega, by unfold q_btp; omega, by unfold q_btp; omega, by unfold q_btp; omega⟩)⟩, ht⟩) (fun _ h => by cases h) dX12_wrongOf_131
        · have ic62 := (xi_nle c62 rfl rfl : rh61.toInt < v60.toInt)
          refine lv_iconst (v := 1) hx hb dX12_wrongOf_87 (by decide) ?_
          refine lv_goto (tgt := 92) hx hb dX12_wrongOf_88 (by decide) ?_
          refine lv_istore (lv' := [(6, .int 1), (5, .int 5), (0, .ref a0), (1, .int p), (2, .int c), (3, .int y), (4, .int n)]) hx hb dX12_wrongOf_92 hl (by decide) rfl (fun ls hl => ?_)
          refine lv_iload hx hb dX12_wrongOf_94 (lv_at hl 0 rfl) ?_
          refine lv_if_eq (tgt := 129) hx hb dX12_wrongOf_96 (by decide) (fun h => absurd h (by decide)) (fun _ => ?_)
          refine lv_iload hx hb dX12_wrongOf_99 (lv_at hl 6 rfl) ?_
          refine lv_aload_n hx hb dX12_wrongOf_101 rfl (lv_at hl 2 rfl) ?_
          refine lv_aload_n hx hb dX12_wrongOf_102 rfl (lv_at hl 2 rfl) ?_
          refine h_get (v := .int f0_12) hx hb hts iX12 hown g t_a0 (by decide) so_13 rfl 12 (by decide) (hts (.fieldLink RX12 187 "CapLeagueModel" "clock" "I") (by decide +kernel)) rfl dX12_wrongOf_103 (congrArg Value.int (ef0_12.symm)) ?_
          refine lv_iconst (v := 3) hx hb dX12_wrongOf_106 (by decide) ?_
          refine vp_callSi (W.runV (As := [.int f0_12, .int 3]) (rest := [.int n]) ⟨hx, hb, hml, hown, hts⟩ (tX12_lawOfF l E X A z I0 L0 a0 t_a0 f0_12 (f0_12.toInt) rfl (by omega) 3 (3) (by decide) (by omega)) (cwV 2 hts gX12_wrongOf_X12_lawOf rfl rfl rfl (by decide +kernel) ⟨Nat.le_of_ble_eq_true rfl, Nat.le_of_ble_eq_true rfl⟩) ⟨h_blind _ _ _ _ _ _ _, h_recv g t_a0 (by decide) so_13 (q := (RX12, TX12, 51)) rfl, h_pre _ hE hk hX hA hI hR g⟩ rfl rfl hl.1 rfl (lv_room (Nat.le_of_ble_eq_true rfl)) dX12_wrongOf_107 ⟨Nat.le_of_ble_eq_true rfl, Nat.le_of_ble_eq_true rfl⟩) (fun rh65 h65 => ?_)
          obtain ⟨h65p0, h65p1, h65p2⟩ := h65
          have jrh65 : -2147483648 ≤ rh65.toInt ∧ rh65.toInt ≤ 2147483647 := ⟨xi_lo _, Int.le_of_lt_add_one (xi_hi _)⟩
          rw [alw, ahy] at h65p0
          have grh65 := hrl.at (x := 3) (by decide) h65p0
          clear h65p0
          refine lv_icmp_gt (tgt := 122) hx hb dX12_wrongOf_110 (by decide) (fun c66 => ?_) (fun c66 => ?_)
          · have ic66 := (xi_lt c66 rfl h_n : rh65.toInt < n_t)
            refine lv_iload hx hb dX12_wrongOf_122 (lv_at hl 1 rfl) ?_
            refine lv_bipush (v := 8) hx hb dX12_wrongOf_124 (by decide) ?_
            refine lv_ior hx hb dX12_wrongOf_126 ?_
            refine xw_i (v := 13) (by decide) ?_
            refine lv_istore (lv' := [(5, .int 13), (6, .int 1), (0, .ref a0), (1, .int p), (2, .int c), (3, .int y), (4, .int n)]) hx hb dX12_wrongOf_127 hl (by decide) rfl (fun ls hl => ?_)
            refine lv_iload hx hb dX12_wrongOf_129 (lv_at hl 0 rfl) ?_
            exact W.iret (v := 13) hx hb hr (fun t ht hW => ⟨13, rfl, ⟨⟨(by decide), (by decide)⟩, (by rw [acb, aus, ← kp, ← kc, ← excb, ← exus, ← h59p0, ← ev60]; have qn : n.toInt = n_t := h_n; have qy : y.toInt = y_t := h_y; exact ⟨1, 0, 4, 8, by decide, by unfold q_btp; omega, by unfold q_btp; omega, by unfold q_btp; omega, by unfold q_btp; omega⟩)⟩, ht⟩) (fun _ h => by cases h) dX12_wrongOf_131
          · have ic66 := (xi_nlt c66 rfl h_n : n_t ≤ rh65.toInt)
            refine lv_aload_n hx hb dX12_wrongOf_113 rfl (lv_at hl 2 rfl) ?_
            refine h_get (v := .ref us) hx hb hts iX12 hown g t_a0 (by decide) so_13 rfl 24 (by decide) (hts (.fieldLink RX12 55 "CapLeagueModel" "usedSpare" "[Z") (by decide +kernel)) rfl dX12_wrongOf_114 (by show va_rf (z.R a0 24) = _; rw [rus]; rfl) ?_
            refine lv_iload_n hx hb dX12_wrongOf_117 rfl (lv_at hl 4 rfl) ?_
            refine h_zald hx hb g tus (by decide) so_1324 (xi_in (by rw [h_c]; omega) (by rw [h_c]; omega)) dX12_wrongOf_118 ?_
            refine xw_i (exus.symm) ?_
            refine lv_if_eq (tgt := 129) hx hb dX12_wrongOf_119 (by decide) (fun c67 => ?_) (fun c67 => ?_)
            · have ic67 := (xi_eq c67 rfl (by decide) : xus.toInt = 0)
              refine lv_iload hx hb dX12_wrongOf_129 (lv_at hl 1 rfl) ?_
              exact W.iret (v := 5) hx hb hr (fun t ht hW => ⟨5, rfl, ⟨⟨(by decide), (by decide)⟩, (by rw [acb, aus, ← kp, ← kc, ← excb, ← exus, ← h59p0, ← ev60]; have qn : n.toInt = n_t := h_n; have qy : y.toInt = y_t := h_y; exact ⟨1, 0, 4, 0, by decide, by unfold q_btp; omega, by unfold q_btp; omega, by unfold q_btp; omega, by unfold q_btp; omega⟩)⟩, ht⟩) (fun _ h => by cases h) dX12_wrongOf_131
            · have ic67 := (xi_ne c67 rfl (by decide) : xus.toInt ≠ 0)
              refine lv_iload hx hb dX12_wrongOf_122 (lv_at hl 1 rfl) ?_
              refine lv_bipush (v := 8) hx hb dX12_wrongOf_124 (by decide) ?_
              refine lv_ior hx hb dX12_wrongOf_126 ?_
              refine xw_i (v := 13) (by decide) ?_
              refine lv_istore (lv' := [(5, .int 13), (6, .int 1), (0, .ref a0), (1, .int p), (2, .int c), (3, .int y), (4, .int n)]) hx hb dX12_wrongOf_127 hl (by decide) rfl (fun ls hl => ?_)
              refine lv_iload hx hb dX12_wrongOf_129 (lv_at hl 0 rfl) ?_
              exact W.iret (v := 13) hx hb hr (fun t ht hW => ⟨13, rfl, ⟨⟨(by decide), (by decide)⟩, (by rw [acb, aus, ← kp, ← kc, ← excb, ← exus, ← h59p0, ← ev60]; have qn : n.toInt = n_t := h_n; have qy : y.toInt = y_t := h_y; exact ⟨1, 0, 4, 8, by decide, by unfold q_btp; omega, by unfold q_btp; omega, by unfold q_btp; omega, by unfold q_btp; omega⟩)⟩, ht⟩) (fun _ h => by cases h) dX12_wrongOf_131
    · have ic47 := (xi_nlt c47 rfl rfl : rh46.toInt ≤ rh45.toInt)
      refine lv_iload hx hb dX12_wrongOf_38 (lv_at hl 0 rfl) ?_
      refine lv_iconst (v := 2) hx hb dX12_wrongOf_40 (by decide) ?_
      refine lv_ior hx hb dX12_wrongOf_41 ?_
      refine xw_i (v := 3) (by decide) ?_
      refine lv_istore (lv' := [(5, .int 3), (0, .ref a0), (1, .int p), (2, .int c), (3, .int y), (4, .int n)]) hx hb dX12_wrongOf_42 hl (by decide) rfl (fun ls hl => ?_)
      refine lv_iload_n hx hb dX12_wrongOf_44 rfl (lv_at hl 4 rfl) ?_
      refine lv_aload_n hx hb dX12_wrongOf_45 rfl (lv_at hl 1 rfl) ?_
      refine lv_aload_n hx hb dX12_wrongOf_46 rfl (lv_at hl 1 rfl) ?_
      refine h_get (v := .int f0_12) hx hb hts iX12 hown g t_a0 (by decide) so_13 rfl 12 (by decide) (hts (.fieldLink RX12 187 "CapLeagueModel" "clock" "I") (by decide +kernel)) rfl dX12_wrongOf_47 (congrArg Value.int (ef0_12.symm)) ?_
      refine lv_iconst (v := 2) hx hb dX12_wrongOf_50 (by decide) ?_
      refine vp_callSi (W.runV (As := [.int f0_12, .int 2]) (rest := [.int y]) ⟨hx, hb, hml, hown, hts⟩ (tX12_lawOfF l E X A z I0 L0 a0 t_a0 f0_12 (f0_12.toInt) rfl (by omega) 2 (2) (by decide) (by omega)) (cwV 2 hts gX12_wrongOf_X12_lawOf rfl rfl rfl (by decide +kernel) ⟨Nat.le_of_ble_eq_true rfl, Nat.le_of_ble_eq_true rfl⟩) ⟨h_blind _ _ _ _ _ _ _, h_recv g t_a0 (by decide) so_13 (q := (RX12, TX12, 51)) rfl, h_pre _ hE hk hX hA hI hR g⟩ rfl rfl hl.1 rfl (lv_room (Nat.le_of_ble_eq_true rfl)) dX12_wrongOf_51 ⟨Nat.le_of_ble_eq_true rfl, Nat.le_of_ble_eq_true rfl⟩) (fun rh68 h68 => ?_)
      obtain ⟨h68p0, h68p1, h68p2⟩ := h68
      have jrh68 : -2147483648 ≤ rh68.toInt ∧ rh68.toInt ≤ 2147483647 := ⟨xi_lo _, Int.le_of_lt_add_one (xi_hi _)⟩
      rw [alw, ahy] at h68p0
      have grh68 := hrl.at (x := 2) (by decide) h68p0
      clear h68p0
      refine lv_icmp_le (tgt := 63) hx hb dX12_wrongOf_54 (by decide) (fun c69 => ?_) (fun c69 => ?_)
      · have ic69 := (xi_le c69 h_y rfl : y_t ≤ rh68.toInt)
        refine lv_aload_n hx hb dX12_wrongOf_63 rfl (lv_at hl 1 rfl) ?_
        refine lv_iload_n hx hb dX12_wrongOf_64 rfl (lv_at hl 3 rfl) ?_
        refine lv_aload_n hx hb dX12_wrongOf_65 rfl (lv_at hl 1 rfl) ?_
        refine h_get (v := .int f0_12) hx hb hts iX12 hown g t_a0 (by decide) so_13 rfl 12 (by decide) (hts (.fieldLink RX12 187 "CapLeagueModel" "clock" "I") (by decide +kernel)) rfl dX12_wrongOf_66 (congrArg Value.int (ef0_12.symm)) ?_
        refine vp_callSi (W.runV (As := [.int c, .int f0_12]) (rest := []) ⟨hx, hb, hml, hown, hts⟩ (tX12_countsB l E X A z I0 L0 a0 t_a0 c (c_t) h_c (by omega) f0_12 (f0_12.toInt) rfl (by omega) (u_) (hr0) (hob) (by rw [ef0_12]; exact hpb)) (cwV 2 hts gX12_wrongOf_X12_counts rfl rfl rfl (by decide +kernel) ⟨Nat.le_of_ble_eq_true rfl, Nat.le_of_ble_eq_true rfl⟩) ⟨h_blind _ _ _ _ _ _ _, h_recv g t_a0 (by decide) so_13 (q := (RX12, TX12, 51)) rfl, h_pre _ hE hk hX hA hI hR g⟩ rfl rfl hl.1 rfl (lv_room (Nat.le_of_ble_eq_true rfl)) dX12_wrongOf_69 ⟨Nat.le_of_ble_eq_true rfl, Nat.le_of_ble_eq_true rfl⟩) (fun rh70 h70 => ?_)
        have h70p0 := h70
        have jrh70 : -2147483648 ≤ rh70.toInt ∧ rh70.toInt ≤ 2147483647 := ⟨xi_lo _, Int.le_of_lt_add_one (xi_hi _)⟩
        rw [ef0_12] at h70p0
        refine lv_iload hx hb dX12_wrongOf_72 (lv_at hl 5 rfl) ?_
        refine lv_iadd hx hb dX12_wrongOf_74 ?_
        refine lv_topi (fun v71 ev71 => ?_)
        have jv71 : -2147483648 ≤ v71.toInt ∧ v71.toInt ≤ 2147483647 := ⟨xi_lo _, Int.le_of_lt_add_one (xi_hi _)⟩
        refine lv_aload_n hx hb dX12_wrongOf_75 rfl (lv_at hl 1 rfl) ?_
        refine lv_aload_n hx hb dX12_wrongOf_76 rfl (lv_at hl 1 rfl) ?_
        refine h_get (v := .int f0_12) hx hb hts iX12 hown g t_a0 (by decide) so_13 rfl 12 (by decide) (hts (.fieldLink RX12 187 "CapLeagueModel" "clock" "I") (by decide +kernel)) rfl dX12_wrongOf_77 (congrArg Value.int (ef0_12.symm)) ?_
        refine lv_iconst (v := 0) hx hb dX12_wrongOf_80 (by decide) ?_
        refine vp_callSi (W.runV (As := [.int f0_12, .int 0]) (rest := [.int v71]) ⟨hx, hb, hml, hown, hts⟩ (tX12_lawOfF l E X A z I0 L0 a0 t_a0 f0_12 (f0_12.toInt) rfl (by omega) 0 (0) (by decide) (by omega)) (cwV 2 hts gX12_wrongOf_X12_lawOf rfl rfl rfl (by decide +kernel) ⟨Nat.le_of_ble_eq_true rfl, Nat.le_of_ble_eq_true rfl⟩) ⟨h_blind _ _ _ _ _ _ _, h_recv g t_a0 (by decide) so_13 (q := (RX12, TX12, 51)) rfl, h_pre _ hE hk hX hA hI hR g⟩ rfl rfl hl.1 rfl (lv_room (Nat.le_of_ble_eq_true rfl)) dX12_wrongOf_81 ⟨Nat.le_of_ble_eq_true rfl, Nat.le_of_ble_eq_true rfl⟩) (fun rh72 h72 => ?_)
        obtain ⟨h72p0, h72p1, h72p2⟩ := h72
        have jrh72 : -2147483648 ≤ rh72.toInt ∧ rh72.toInt ≤ 2147483647 := ⟨xi_lo _, Int.le_of_lt_add_one (xi_hi _)⟩
        rw [alw, ahy] at h72p0
        have grh72 := hrl.at (x := 0) (by decide) h72p0
        clear h72p0
        refine lv_icmp_le (tgt := 91) hx hb dX12_wrongOf_84 (by decide) (fun c73 => ?_) (fun c73 => ?_)
        · have ic73 := (xi_le c73 rfl rfl : v71.toInt ≤ rh72.toInt)
          refine lv_iconst (v := 0) hx hb dX12_wrongOf_91 (by decide) ?_
          refine lv_istore (lv' := [(6, .int 0), (5, .int 3), (0, .ref a0), (1, .int p), (2, .int c), (3, .int y), (4, .int n)]) hx hb dX12_wrongOf_92 hl (by decide) rfl (fun ls hl => ?_)
          refine lv_iload hx hb dX12_wrongOf_94 (lv_at hl 0 rfl) ?_
          refine lv_if_eq (tgt := 129) hx hb dX12_wrongOf_96 (by decide) (fun _ => ?_) (fun h => absurd (by decide) h)
          refine lv_iload hx hb dX12_wrongOf_129 (lv_at hl 1 rfl) ?_
          exact W.iret (v := 3) hx hb hr (fun t ht hW => ⟨3, rfl, ⟨⟨(by decide), (by decide)⟩, (by rw [acb, aus, ← kp, ← kc, ← excb, ← exus, ← h70p0, ← ev71]; have qn : n.toInt = n_t := h_n; have qy : y.toInt = y_t := h_y; exact ⟨1, 2, 0, 0, by decide, by unfold q_btp; omega, by unfold q_btp; omega, by unfold q_btp; omega, by unfold q_btp; omega⟩)⟩, ht⟩) (fun _ h => by cases h) dX12_wrongOf_131
        · have ic73 := (xi_nle c73 rfl rfl : rh72.toInt < v71.toInt)
          refine lv_iconst (v := 1) hx hb dX12_wrongOf_87 (by decide) ?_
          refine lv_goto (tgt := 92) hx hb dX12_wrongOf_88 (by decide) ?_
          refine lv_istore (lv' := [(6, .int 1), (5, .int 3), (0, .ref a0), (1, .int p), (2, .int c), (3, .int y), (4, .int n)]) hx hb dX12_wrongOf_92 hl (by decide) rfl (fun ls hl => ?_)
          refine lv_iload hx hb dX12_wrongOf_94 (lv_at hl 0 rfl) ?_
          refine lv_if_eq (tgt := 129) hx hb dX12_wrongOf_96 (by decide) (fun h => absurd h (by decide)) (fun _ => ?_)
          refine lv_iload hx hb dX12_wrongOf_99 (lv_at hl 6 rfl) ?_
          refine lv_aload_n hx hb dX12_wrongOf_101 rfl (lv_at hl 2 rfl) ?_
          refine lv_aload_n hx hb dX12_wrongOf_102 rfl (lv_at hl 2 rfl) ?_
          refine h_get (v := .int f0_12) hx hb hts iX12 hown g t_a0 (by decide) so_13 rfl 12 (by decide) (hts (.fieldLink RX12 187 "CapLeagueModel" "clock" "I") (by decide +kernel)) rfl dX12_wrongOf_103 (congrArg Value.int (ef0_12.symm)) ?_
          refine lv_iconst (v := 3) hx hb dX12_wrongOf_106 (by decide) ?_
          refine vp_callSi (W.runV (As := [.int f0_12, .int 3]) (rest := [.int n]) ⟨hx, hb, hml, hown, hts⟩ (tX12_lawOfF l E X A z I0 L0 a0 t_a0 f0_12 (f0_12.toInt) rfl (by omega) 3 (3) (by decide) (by omega)) (cwV 2 hts gX12_wrongOf_X12_lawOf rfl rfl rfl (by decide +kernel) ⟨Nat.le_of_ble_eq_true rfl, Nat.le_of_ble_eq_true rfl⟩) ⟨h_blind _ _ _ _ _ _ _, h_recv g t_a0 (by decide) so_13 (q := (RX12, TX12, 51)) rfl, h_pre _ hE hk hX hA hI hR g⟩ rfl rfl hl.1 rfl (lv_room (Nat.le_of_ble_eq_true rfl)) dX12_wrongOf_107 ⟨Nat.le_of_ble_eq_true rfl, Nat.le_of_ble_eq_true rfl⟩) (fun rh76 h76 => ?_)
          obtain ⟨h76p0, h76p1, h76p2⟩ := h76
          have jrh76 : -2147483648 ≤ rh76.toInt ∧ rh76.toInt ≤ 2147483647 := ⟨xi_lo _, Int.le_of_lt_add_one (xi_hi _)⟩
          rw [alw, ahy] at h76p0
          have grh76 := hrl.at (x := 3) (by decide) h76p0
          clear h76p0
          refine lv_icmp_gt (tgt := 122) hx hb dX12_wrongOf_110 (by decide) (fun c77 => ?_) (fun c77 => ?_)
          · have ic77 := (xi_lt c77 rfl h_n : rh76.toInt < n_t)
            refine lv_iload hx hb dX12_wrongOf_122 (lv_at hl 1 rfl) ?_
            refine lv_bipush (v := 8) hx hb dX12_wrongOf_124 (by decide) ?_
            refine lv_ior hx hb dX12_wrongOf_126 ?_
            refine xw_i (v := 11) (by decide) ?_
            refine lv_istore (lv' := [(5, .int 11), (6, .int 1), (0, .ref a0), (1, .int p), (2, .int c), (3, .int y), (4, .int n)]) hx hb dX12_wrongOf_127 hl (by decide) rfl (fun ls hl => ?_)
            refine lv_iload hx hb dX12_wrongOf_129 (lv_at hl 0 rfl) ?_
            exact W.iret (v := 11) hx hb hr (fun t ht hW => ⟨11, rfl, ⟨⟨(by decide), (by decide)⟩, (by rw [acb, aus, ← kp, ← kc, ← excb, ← exus, ← h70p0, ← ev71]; have qn : n.toInt = n_t := h_n; have qy : y.toInt = y_t := h_y; exact ⟨1, 2, 0, 8, by decide, by unfold q_btp; omega, by unfold q_btp; omega, by unfold q_btp; omega, by unfold q_btp; omega⟩)⟩, ht⟩) (fun _ h => by cases h) dX12_wrongOf_131
          · have ic77 := (xi_nlt c77 rfl h_n : n_t ≤ rh76.toInt)
            refine lv_aload_n hx hb dX12_wrongOf_113 rfl (lv_at hl 2 rfl) ?_
            refine h_get (v := .ref us) hx hb hts iX12 hown g t_a0 (by decide) so_13 rfl 24 (by decide) (hts (.fieldLink RX12 55 "CapLeagueModel" "usedSpare" "[Z") (by decide +kernel)) rfl dX12_wrongOf_114 (by show va_rf (z.R a0 24) = _; rw [rus]; rfl) ?_
            refine lv_iload_n hx hb dX12_wrongOf_117 rfl (lv_at hl 4 rfl) ?_
            refine h_zald hx hb g tus (by decide) so_1324 (xi_in (by rw [h_c]; omega) (by rw [h_c]; omega)) dX12_wrongOf_118 ?_
            refine xw_i (exus.symm) ?_
            refine lv_if_eq (tgt := 129) hx hb dX12_wrongOf_119 (by decide) (fun c78 => ?_) (fun c78 => ?_)
            · have ic78 := (xi_eq c78 rfl (by decide) : xus.toInt = 0)
              refine lv_iload hx hb dX12_wrongOf_129 (lv_at hl 1 rfl) ?_
              exact W.iret (v := 3) hx hb hr (fun t ht hW => ⟨3, rfl, ⟨⟨(by decide), (by decide)⟩, (by rw [acb, aus, ← kp, ← kc, ← excb, ← exus, ← h70p0, ← ev71]; have qn : n.toInt = n_t := h_n; have qy : y.toInt = y_t := h_y; exact ⟨1, 2, 0, 0, by decide, by unfold q_btp; omega, by unfold q_btp; omega, by unfold q_btp; omega, by unfold q_btp; omega⟩)⟩, ht⟩) (fun _ h => by cases h) dX12_wrongOf_131
            · have ic78 := (xi_ne c78 rfl (by decide) : xus.toInt ≠ 0)
              refine lv_iload hx hb dX12_wrongOf_122 (lv_at hl 1 rfl) ?_
              refine lv_bipush (v := 8) hx hb dX12_wrongOf_124 (by decide) ?_
              refine lv_ior hx hb dX12_wrongOf_126 ?_
              refine xw_i (v := 11) (by decide) ?_
              refine lv_istore (lv' := [(5, .int 11), (6, .int 1), (0, .ref a0), (1, .int p), (2, .int c), (3, .int y), (4, .int n)]) hx hb dX12_wrongOf_127 hl (by decide) rfl (fun ls hl => ?_)
              refine lv_iload hx hb dX12_wrongOf_129 (lv_at hl 0 rfl) ?_
              exact W.iret (v := 11) hx hb hr (fun t ht hW => ⟨11, rfl, ⟨⟨(by decide), (by decide)⟩, (by rw [acb, aus, ← kp, ← kc, ← excb, ← exus, ← h70p0, ← ev71]; have qn : n.toInt = n_t := h_n; have qy : y.toInt = y_t := h_y; exact ⟨1, 2, 0, 8, by decide, by unfold q_btp; omega, by unfold q_btp; omega, by unfold q_btp; omega, by unfold q_btp; omega⟩)⟩, ht⟩) (fun _ h => by cases h) dX12_wrongOf_131
      · have ic69 := (xi_nle c69 h_y rfl : rh68.toInt < y_t)
        refine lv_iload hx hb dX12_wrongOf_57 (lv_at hl 0 rfl) ?_
        refine lv_iconst (v := 4) hx hb dX12_wrongOf_59 (by decide) ?_
        refine lv_ior hx hb dX12_wrongOf_60 ?_
        refine xw_i (v := 7) (by decide) ?_
        refine lv_istore (lv' := [(5, .int 7), (0, .ref a0), (1, .int p), (2, .int c), (3, .int y), (4, .int n)]) hx hb dX12_wrongOf_61 hl (by decide) rfl (fun ls hl => ?_)
        refine lv_aload_n hx hb dX12_wrongOf_63 rfl (lv_at hl 1 rfl) ?_
        refine lv_iload_n hx hb dX12_wrongOf_64 rfl (lv_at hl 3 rfl) ?_
        refine lv_aload_n hx hb dX12_wrongOf_65 rfl (lv_at hl 1 rfl) ?_
        refine h_get (v := .int f0_12) hx hb hts iX12 hown g t_a0 (by decide) so_13 rfl 12 (by decide) (hts (.fieldLink RX12 187 "CapLeagueModel" "clock" "I") (by decide +kernel)) rfl dX12_wrongOf_66 (congrArg Value.int (ef0_12.symm)) ?_
        refine vp_callSi (W.runV (As := [.int c, .int f0_12]) (rest := []) ⟨hx, hb, hml, hown, hts⟩ (tX12_countsB l E X A z I0 L0 a0 t_a0 c (c_t) h_c (by omega) f0_12 (f0_12.toInt) rfl (by omega) (u_) (hr0) (hob) (by rw [ef0_12]; exact hpb)) (cwV 2 hts gX12_wrongOf_X12_counts rfl rfl rfl (by decide +kernel) ⟨Nat.le_of_ble_eq_true rfl, Nat.le_of_ble_eq_true rfl⟩) ⟨h_blind _ _ _ _ _ _ _, h_recv g t_a0 (by decide) so_13 (q := (RX12, TX12, 51)) rfl, h_pre _ hE hk hX hA hI hR g⟩ rfl rfl hl.1 rfl (lv_room (Nat.le_of_ble_eq_true rfl)) dX12_wrongOf_69 ⟨Nat.le_of_ble_eq_true rfl, Nat.le_of_ble_eq_true rfl⟩) (fun rh79 h79 => ?_)
        have h79p0 := h79
        have jrh79 : -2147483648 ≤ rh79.toInt ∧ rh79.toInt ≤ 2147483647 := ⟨xi_lo _, Int.le_of_lt_add_one (xi_hi _)⟩
        rw [ef0_12] at h79p0
        refine lv_iload hx hb dX12_wrongOf_72 (lv_at hl 5 rfl) ?_
        refine lv_iadd hx hb dX12_wrongOf_74 ?_
        refine lv_topi (fun v80 ev80 => ?_)
        have jv80 : -2147483648 ≤ v80.toInt ∧ v80.toInt ≤ 2147483647 := ⟨xi_lo _, Int.le_of_lt_add_one (xi_hi _)⟩
        refine lv_aload_n hx hb dX12_wrongOf_75 rfl (lv_at hl 1 rfl) ?_
        refine lv_aload_n hx hb dX12_wrongOf_76 rfl (lv_at hl 1 rfl) ?_
        refine h_get (v := .int f0_12) hx hb hts iX12 hown g t_a0 (by decide) so_13 rfl 12 (by decide) (hts (.fieldLink RX12 187 "CapLeagueModel" "clock" "I") (by decide +kernel)) rfl dX12_wrongOf_77 (congrArg Value.int (ef0_12.symm)) ?_
        refine lv_iconst (v := 0) hx hb dX12_wrongOf_80 (by decide) ?_
        refine vp_callSi (W.runV (As := [.int f0_12, .int 0]) (rest := [.int v80]) ⟨hx, hb, hml, hown, hts⟩ (tX12_lawOfF l E X A z I0 L0 a0 t_a0 f0_12 (f0_12.toInt) rfl (by omega) 0 (0) (by decide) (by omega)) (cwV 2 hts gX12_wrongOf_X12_lawOf rfl rfl rfl (by decide +kernel) ⟨Nat.le_of_ble_eq_true rfl, Nat.le_of_ble_eq_true rfl⟩) ⟨h_blind _ _ _ _ _ _ _, h_recv g t_a0 (by decide) so_13 (q := (RX12, TX12, 51)) rfl, h_pre _ hE hk hX hA hI hR g⟩ rfl rfl hl.1 rfl (lv_room (Nat.le_of_ble_eq_true rfl)) dX12_wrongOf_81 ⟨Nat.le_of_ble_eq_true rfl, Nat.le_of_ble_eq_true rfl⟩) (fun rh81 h81 => ?_)
        obtain ⟨h81p0, h81p1, h81p2⟩ := h81
        have jrh81 : -2147483648 ≤ rh81.toInt ∧ rh81.toInt ≤ 2147483647 := ⟨xi_lo _, Int.le_of_lt_add_one (xi_hi _)⟩
        rw [alw, ahy] at h81p0
        have grh81 := hrl.at (x := 0) (by decide) h81p0
        clear h81p0
        refine lv_icmp_le (tgt := 91) hx hb dX12_wrongOf_84 (by decide) (fun c82 => ?_) (fun c82 => ?_)
        · have ic82 := (xi_le c82 rfl rfl : v80.toInt ≤ rh81.toInt)
          refine lv_iconst (v := 0) hx hb dX12_wrongOf_91 (by decide) ?_
          refine lv_istore (lv' := [(6, .int 0), (5, .int 7), (0, .ref a0), (1, .int p), (2, .int c), (3, .int y), (4, .int n)]) hx hb dX12_wrongOf_92 hl (by decide) rfl (fun ls hl => ?_)
          refine lv_iload hx hb dX12_wrongOf_94 (lv_at hl 0 rfl) ?_
          refine lv_if_eq (tgt := 129) hx hb dX12_wrongOf_96 (by decide) (fun _ => ?_) (fun h => absurd (by decide) h)
          refine lv_iload hx hb dX12_wrongOf_129 (lv_at hl 1 rfl) ?_
          exact W.iret (v := 7) hx hb hr (fun t ht hW => ⟨7, rfl, ⟨⟨(by decide), (by decide)⟩, (by rw [acb, aus, ← kp, ← kc, ← excb, ← exus, ← h79p0, ← ev80]; have qn : n.toInt = n_t := h_n; have qy : y.toInt = y_t := h_y; exact ⟨1, 2, 4, 0, by decide, by unfold q_btp; omega, by unfold q_btp; omega, by unfold q_btp; omega, by unfold q_btp; omega⟩)⟩, ht⟩) (fun _ h => by cases h) dX12_wrongOf_131
        · have ic82 := (xi_nle c82 rfl rfl : rh81.toInt < v80.toInt)
          refine lv_iconst (v := 1) hx hb dX12_wrongOf_87 (by decide) ?_
          refine lv_goto (tgt := 92) hx hb dX12_wrongOf_88 (by decide) ?_
          refine lv_istore (lv' := [(6, .int 1), (5, .int 7), (0, .ref a0), (1, .int p), (2, .int c), (3, .int y), (4, .int n)]) hx hb dX12_wrongOf_92 hl (by decide) rfl (fun ls hl => ?_)
          refine lv_iload hx hb dX12_wrongOf_94 (lv_at hl 0 rfl) ?_
          refine lv_if_eq (tgt := 129) hx hb dX12_wrongOf_96 (by decide) (fun h => absurd h (by decide)) (fun _ => ?_)
          refine lv_iload hx hb dX12_wrongOf_99 (lv_at hl 6 rfl) ?_
          refine lv_aload_n hx hb dX12_wrongOf_101 rfl (lv_at hl 2 rfl) ?_
          refine lv_aload_n hx hb dX12_wrongOf_102 rfl (lv_at hl 2 rfl) ?_
          refine h_get (v := .int f0_12) hx hb hts iX12 hown g t_a0 (by decide) so_13 rfl 12 (by decide) (hts (.fieldLink RX12 187 "CapLeagueModel" "clock" "I") (by decide +kernel)) rfl dX12_wrongOf_103 (congrArg Value.int (ef0_12.symm)) ?_
          refine lv_iconst (v := 3) hx hb dX12_wrongOf_106 (by decide) ?_
          refine vp_callSi (W.runV (As := [.int f0_12, .int 3]) (rest := [.int n]) ⟨hx, hb, hml, hown, hts⟩ (tX12_lawOfF l E X A z I0 L0 a0 t_a0 f0_12 (f0_12.toInt) rfl (by omega) 3 (3) (by decide) (by omega)) (cwV 2 hts gX12_wrongOf_X12_lawOf rfl rfl rfl (by decide +kernel) ⟨Nat.le_of_ble_eq_true rfl, Nat.le_of_ble_eq_true rfl⟩) ⟨h_blind _ _ _ _ _ _ _, h_recv g t_a0 (by decide) so_13 (q := (RX12, TX12, 51)) rfl, h_pre _ hE hk hX hA hI hR g⟩ rfl rfl hl.1 rfl (lv_room (Nat.le_of_ble_eq_true rfl)) dX12_wrongOf_107 ⟨Nat.le_of_ble_eq_true rfl, Nat.le_of_ble_eq_true rfl⟩) (fun rh85 h85 => ?_)
          obtain ⟨h85p0, h85p1, h85p2⟩ := h85
          have jrh85 : -2147483648 ≤ rh85.toInt ∧ rh85.toInt ≤ 2147483647 := ⟨xi_lo _, Int.le_of_lt_add_one (xi_hi _)⟩
          rw [alw, ahy] at h85p0
          have grh85 := hrl.at (x := 3) (by decide) h85p0
          clear h85p0
          refine lv_icmp_gt (tgt := 122) hx hb dX12_wrongOf_110 (by decide) (fun c86 => ?_) (fun c86 => ?_)
          · have ic86 := (xi_lt c86 rfl h_n : rh85.toInt < n_t)
            refine lv_iload hx hb dX12_wrongOf_122 (lv_at hl 1 rfl) ?_
            refine lv_bipush (v := 8) hx hb dX12_wrongOf_124 (by decide) ?_
            refine lv_ior hx hb dX12_wrongOf_126 ?_
            refine xw_i (v := 15) (by decide) ?_
            refine lv_istore (lv' := [(5, .int 15), (6, .int 1), (0, .ref a0), (1, .int p), (2, .int c), (3, .int y), (4, .int n)]) hx hb dX12_wrongOf_127 hl (by decide) rfl (fun ls hl => ?_)
            refine lv_iload hx hb dX12_wrongOf_129 (lv_at hl 0 rfl) ?_
            exact W.iret (v := 15) hx hb hr (fun t ht hW => ⟨15, rfl, ⟨⟨(by decide), (by decide)⟩, (by rw [acb, aus, ← kp, ← kc, ← excb, ← exus, ← h79p0, ← ev80]; have qn : n.toInt = n_t := h_n; have qy : y.toInt = y_t := h_y; exact ⟨1, 2, 4, 8, by decide, by unfold q_btp; omega, by unfold q_btp; omega, by unfold q_btp; omega, by unfold q_btp; omega⟩)⟩, ht⟩) (fun _ h => by cases h) dX12_wrongOf_131
          · have ic86 := (xi_nlt c86 rfl h_n : n_t ≤ rh85.toInt)
            refine lv_aload_n hx hb dX12_wrongOf_113 rfl (lv_at hl 2 rfl) ?_
            refine h_get (v := .ref us) hx hb hts iX12 hown g t_a0 (by decide) so_13 rfl 24 (by decide) (hts (.fieldLink RX12 55 "CapLeagueModel" "usedSpare" "[Z") (by decide +kernel)) rfl dX12_wrongOf_114 (by show va_rf (z.R a0 24) = _; rw [rus]; rfl) ?_
            refine lv_iload_n hx hb dX12_wrongOf_117 rfl (lv_at hl 4 rfl) ?_
            refine h_zald hx hb g tus (by decide) so_1324 (xi_in (by rw [h_c]; omega) (by rw [h_c]; omega)) dX12_wrongOf_118 ?_
            refine xw_i (exus.symm) ?_
            refine lv_if_eq (tgt := 129) hx hb dX12_wrongOf_119 (by decide) (fun c87 => ?_) (fun c87 => ?_)
            · have ic87 := (xi_eq c87 rfl (by decide) : xus.toInt = 0)
              refine lv_iload hx hb dX12_wrongOf_129 (lv_at hl 1 rfl) ?_
              exact W.iret (v := 7) hx hb hr (fun t ht hW => ⟨7, rfl, ⟨⟨(by decide), (by decide)⟩, (by rw [acb, aus, ← kp, ← kc, ← excb, ← exus, ← h79p0, ← ev80]; have qn : n.toInt = n_t := h_n; have qy : y.toInt = y_t := h_y; exact ⟨1, 2, 4, 0, by decide, by unfold q_btp; omega, by unfold q_btp; omega, by unfold q_btp; omega, by unfold q_btp; omega⟩)⟩, ht⟩) (fun _ h => by cases h) dX12_wrongOf_131
            · have ic87 := (xi_ne c87 rfl (by decide) : xus.toInt ≠ 0)
              refine lv_iload hx hb dX12_wrongOf_122 (lv_at hl 1 rfl) ?_
              refine lv_bipush (v := 8) hx hb dX12_wrongOf_124 (by decide) ?_
              refine lv_ior hx hb dX12_wrongOf_126 ?_
              refine xw_i (v := 15) (by decide) ?_
              refine lv_istore (lv' := [(5, .int 15), (6, .int 1), (0, .ref a0), (1, .int p), (2, .int c), (3, .int y), (4, .int n)]) hx hb dX12_wrongOf_127 hl (by decide) rfl (fun ls hl => ?_)
              refine lv_iload hx hb dX12_wrongOf_129 (lv_at hl 0 rfl) ?_
              exact W.iret (v := 15) hx hb hr (fun t ht hW => ⟨15, rfl, ⟨⟨(by decide), (by decide)⟩, (by rw [acb, aus, ← kp, ← kc, ← excb, ← exus, ← h79p0, ← ev80]; have qn : n.toInt = n_t := h_n; have qy : y.toInt = y_t := h_y; exact ⟨1, 2, 4, 8, by decide, by unfold q_btp; omega, by unfold q_btp; omega, by unfold q_btp; omega, by unfold q_btp; omega⟩)⟩, ht⟩) (fun _ h => by cases h) dX12_wrongOf_131

