set_option maxHeartbeats 4000000 in
set_option maxRecDepth 100000 in
theorem tX7_worthMoreR (l : Launch) (E : tE) (X : tX) (A : Nat → Prop) (z : tZ) (I0 : tI) (L0 : tL) (a0 : Nat) (t_a0 : z.ty a0 = 8) (c : Int32) (c_t : Int) (h_c : c.toInt = c_t) (b_c : 0 ≤ c_t ∧ c_t ≤ 7) (x : Int32) (x_t : Int) (h_x : x.toInt = x_t) (b_x : 0 ≤ x_t ∧ x_t ≤ 59) (y : Int32) (y_t : Int) (h_y : y.toInt = y_t) (b_y : 0 ≤ y_t ∧ y_t ≤ 59) (hxx : x_t < (I0 (h_ad z a0 0) 2).toInt) (hyy : y_t < (I0 (h_ad z a0 0) 2).toInt) (hnn : ∀ p : Nat, (p : Int) < (I0 (h_ad z a0 0) 2).toInt → z.R (h_ad z (h_ad z a0 0) 1) p ≠ none) : Met l yX7_worthMore wsX7_worthMore ({ frames := 2, cells := 0, slots := 0, locals := 128 }) (va_Pc [.ref a0, .int c, .int x, .int y] (h_P E X A z I0 L0)) (vp_Si (fun r => (r = c_w z I0 (h_ad z a0 0) c_t y_t.toNat - c_w z I0 (h_ad z a0 0) c_t x_t.toNat))) 0 0 (fun _ => False) := by
  refine Met.ofW (cc := cX7_worthMore) (maxL := 6) (ret := (some .int)) (by decide) rfl ?_
  intro pr_ ev_ s m args below meth cd_ s₁ B hml hv
  obtain ⟨rfl, hE, hk, hX, hA, hK, hI, hR, hB0⟩ := hv
  have g : h_G h_so h_fk E A z I0 L0 s s.heap s.heap [] := ⟨hK, va_S.rf, hB0⟩
  have hx := B.exec
  have hb := B.bytes
  have hr := B.returns
  have hts := atoms_spec (ws := wsX7_worthMore) B.pre
  have hown : s.vm.findClass RX7 = some m.cls := findClass_of_methodNamed B.named
  have hlocks := B.notSynchronized
  have iX7 : ∀ w ∈ u_ws RX7 TX7 13, w ∈ wsX7_worthMore := by decide +kernel
  have iX6 : ∀ w ∈ u_ws RX6 TX6 9, w ∈ wsX7_worthMore := by decide +kernel
  have hl := lv_entry ([.ref a0, .int c, .int x, .int y]) (n := 6) (Nat.le_of_ble_eq_true rfl)
  rw [lg_entry_eq]
  generalize (lg_sl ([.ref a0, .int c, .int x, .int y]) ++ List.replicate (6 - (lg_sl ([.ref a0, .int c, .int x, .int y])).length) Slot.unset).toArray = ls at hl ⊢
  have hl : lv_has ls 6 [(0, .ref a0), (1, .int c), (2, .int x), (3, .int y)] := hl
  obtain ⟨bk, rbk, tbk⟩ := hR.at a0 0 t_a0 (rfl : h_rs 8 0 = some (1, false)) (by decide)
  have abk : h_ad z a0 0 = bk := h_ad.at rbk
  obtain ⟨pl, rpl, tpl⟩ := hR.at bk 1 tbk (rfl : h_rs 1 1 = some (101, false)) (by decide)
  have apl : h_ad z bk 1 = pl := h_ad.at rpl
  obtain ⟨f0_2, ef0_2⟩ : ∃ v : Int32, v = I0 bk 2 := ⟨_, rfl⟩
  have qf0_2 : (I0 bk 2).toInt = f0_2.toInt := congrArg Int32.toInt ef0_2.symm
  have jf0_2 := hI.rd bk 2 tbk ef0_2 (rfl : h_bd 1 2 = (0, 60))
  obtain ⟨f0_3, ef0_3⟩ : ∃ v : Int32, v = I0 bk 3 := ⟨_, rfl⟩
  have qf0_3 : (I0 bk 3).toInt = f0_3.toInt := congrArg Int32.toInt ef0_3.symm
  have jf0_3 := hI.rd bk 3 tbk ef0_3 (rfl : h_bd 1 3 = (0, 9))
  rw [abk, qf0_2] at hxx hyy
  rw [abk, apl, qf0_2] at hnn
  have kc : c.toNatClampNeg = c_t.toNat := h_keq h_c (by omega) (by omega)
  refine lv_aload_n hx hb dX7_worthMore_0 rfl (lv_at hl 0 rfl) ?_
  refine h_get (v := .ref bk) hx hb hts iX7 hown g t_a0 (by decide) so_8 rfl 0 (by decide) (hts (.fieldLink RX7 48 "CapLeague$RingSearch" "books" "LCapLeague$Books;") (by decide +kernel)) rfl dX7_worthMore_1 (by show va_rf (z.R a0 0) = _; rw [rbk]; rfl) ?_
  refine lv_iload_n hx hb dX7_worthMore_4 rfl (lv_at hl 2 rfl) ?_
  refine va_csq (W.runV (As := [.int x]) (rest := []) ⟨hx, hb, hml, hown, hts⟩ (tX0_playerAtN l E X A z I0 L0 bk tbk x (x_t) h_x (by omega) (by rw [qf0_2]; omega) (by rw [apl]; exact hnn _ (by omega))) (cwV 1 hts gX7_worthMore_X0_playerAt rfl rfl rfl (by decide +kernel) ⟨Nat.le_of_ble_eq_true rfl, Nat.le_of_ble_eq_true rfl⟩) ⟨h_blind _ _ _ _ _ _ _, h_recv g tbk (by decide) so_1 (q := (RX0, TX0, 9)) rfl, h_pre _ hE hk hX hA hI hR g⟩ rfl rfl hl.1 rfl (lv_room (Nat.le_of_ble_eq_true rfl)) dX7_worthMore_5 ⟨Nat.le_of_ble_eq_true rfl, Nat.le_of_ble_eq_true rfl⟩) (fun rh1 h1 => ?_)
  obtain ⟨h1, h1p0⟩ := h1
  obtain ⟨rh1, rfl, trh1⟩ := h1
  refine xw_v (v := .ref rh1) rfl ?_
  rw [apl] at h1p0
  have rp_x : z.R pl x_t.toNat = some rh1 := h1p0.symm
  refine lv_astore (lv' := [(4, .ref rh1), (0, .ref a0), (1, .int c), (2, .int x), (3, .int y)]) hx hb dX7_worthMore_8 hl (by decide) rfl (fun ls hl => ?_)
  refine lv_aload_n hx hb dX7_worthMore_10 rfl (lv_at hl 1 rfl) ?_
  refine h_get (v := .ref bk) hx hb hts iX7 hown g t_a0 (by decide) so_8 rfl 0 (by decide) (hts (.fieldLink RX7 48 "CapLeague$RingSearch" "books" "LCapLeague$Books;") (by decide +kernel)) rfl dX7_worthMore_11 (by show va_rf (z.R a0 0) = _; rw [rbk]; rfl) ?_
  refine lv_iload_n hx hb dX7_worthMore_14 rfl (lv_at hl 4 rfl) ?_
  refine va_csq (W.runV (As := [.int y]) (rest := []) ⟨hx, hb, hml, hown, hts⟩ (tX0_playerAtN l E X A z I0 L0 bk tbk y (y_t) h_y (by omega) (by rw [qf0_2]; omega) (by rw [apl]; exact hnn _ (by omega))) (cwV 1 hts gX7_worthMore_X0_playerAt rfl rfl rfl (by decide +kernel) ⟨Nat.le_of_ble_eq_true rfl, Nat.le_of_ble_eq_true rfl⟩) ⟨h_blind _ _ _ _ _ _ _, h_recv g tbk (by decide) so_1 (q := (RX0, TX0, 9)) rfl, h_pre _ hE hk hX hA hI hR g⟩ rfl rfl hl.1 rfl (lv_room (Nat.le_of_ble_eq_true rfl)) dX7_worthMore_15 ⟨Nat.le_of_ble_eq_true rfl, Nat.le_of_ble_eq_true rfl⟩) (fun rh2 h2 => ?_)
  obtain ⟨h2, h2p0⟩ := h2
  obtain ⟨rh2, rfl, trh2⟩ := h2
  refine xw_v (v := .ref rh2) rfl ?_
  rw [apl] at h2p0
  have rp_y : z.R pl y_t.toNat = some rh2 := h2p0.symm
  refine lv_astore (lv' := [(5, .ref rh2), (4, .ref rh1), (0, .ref a0), (1, .int c), (2, .int x), (3, .int y)]) hx hb dX7_worthMore_18 hl (by decide) rfl (fun ls hl => ?_)
  refine lv_aload hx hb dX7_worthMore_20 (lv_at hl 1 rfl) ?_
  refine lv_ifnull hx hb dX7_worthMore_22 ?_
  refine lv_aload hx hb dX7_worthMore_25 (lv_at hl 0 rfl) ?_
  refine lv_ifnonnull (tgt := 34) hx hb dX7_worthMore_27 (by decide) ?_
  refine lv_aload hx hb dX7_worthMore_34 (lv_at hl 0 rfl) ?_
  obtain ⟨b3, rb3, tb3⟩ := hR.at rh2 8 trh2 (rfl : h_rs 7 8 = some (708, false)) (by decide)
  refine h_get (v := .ref b3) hx hb hts iX6 hown g trh2 (by decide) so_7 rfl 8 (by decide) (hts (.fieldLink RX7 119 "CapLeague$Player" "worths" "[I") (by decide +kernel)) rfl dX7_worthMore_36 (by show va_rf (z.R rh2 8) = _; rw [rb3]; rfl) ?_
  refine lv_iload_n hx hb dX7_worthMore_39 rfl (lv_at hl 3 rfl) ?_
  refine h_ald hx hb g tb3 (by decide) so_708 (xi_in (by rw [h_c]; omega) (by rw [h_c]; omega)) dX7_worthMore_40 ?_
  refine lv_topi (fun v4 ev4 => ?_)
  have jv4 := hI.rd b3 c.toNatClampNeg tb3 ev4 (rfl : h_bd 708 _ = ((-2147483648), 2147483647))
  refine lv_aload hx hb dX7_worthMore_41 (lv_at hl 1 rfl) ?_
  obtain ⟨b5, rb5, tb5⟩ := hR.at rh1 8 trh1 (rfl : h_rs 7 8 = some (708, false)) (by decide)
  refine h_get (v := .ref b5) hx hb hts iX6 hown g trh1 (by decide) so_7 rfl 8 (by decide) (hts (.fieldLink RX7 119 "CapLeague$Player" "worths" "[I") (by decide +kernel)) rfl dX7_worthMore_43 (by show va_rf (z.R rh1 8) = _; rw [rb5]; rfl) ?_
  refine lv_iload_n hx hb dX7_worthMore_46 rfl (lv_at hl 3 rfl) ?_
  refine h_ald hx hb g tb5 (by decide) so_708 (xi_in (by rw [h_c]; omega) (by rw [h_c]; omega)) dX7_worthMore_47 ?_
  refine lv_topi (fun v6 ev6 => ?_)
  have jv6 := hI.rd b5 c.toNatClampNeg tb5 ev6 (rfl : h_bd 708 _ = ((-2147483648), 2147483647))
  refine lv_isub hx hb dX7_worthMore_48 ?_
  refine lv_topi (fun v7 ev7 => ?_)
  have jv7 : -2147483648 ≤ v7.toInt ∧ v7.toInt ≤ 2147483647 := ⟨xi_lo _, Int.le_of_lt_add_one (xi_hi _)⟩
  exact W.iret (v := v7) hx hb hr (fun t ht hW => ⟨v7, rfl, (by unfold c_w; rw [abk, apl, h_ad.at rp_y, h_ad.at rp_x, h_ad.at rb3, h_ad.at rb5, ← kc, ← ev4, ← ev6]; exact ev7), ht⟩) (fun _ h => by cases h) dX7_worthMore_49
set_option maxHeartbeats 4000000 in
set_option maxRecDepth 100000 in
theorem tX7_isLegalR (l : Launch) (E : tE) (X : tX) (A : Nat → Prop) (z : tZ) (I0 : tI) (L0 : tL) (a0 : Nat) (t_a0 : z.ty a0 = 8) (x : Int32) (x_t : Int) (h_x : x.toInt = x_t) (b_x : 0 ≤ x_t ∧ x_t ≤ 59) (y : Int32) (y_t : Int) (h_y : y.toInt = y_t) (b_y : 0 ≤ y_t ∧ y_t ≤ 59) (p : Int32) (p_t : Int) (h_p : p.toInt = p_t) (c : Int32) (c_t : Int) (h_c : c.toInt = c_t) (n0 : Nat) (t_n0 : z.ty n0 = 6) (u_ : Nat → Int) (hu : h_lw I0 n0 (h_ad z n0 0) (h_ad z n0 1) u_) (hob : q_okb u_) (hpx : 0 ≤ (I0 (h_ad z a0 4) x_t.toNat).toInt ∧ (I0 (h_ad z a0 4) x_t.toNat).toInt ≤ 400000) : Met l yX7_isLegal wsX7_isLegal ({ frames := 3, cells := 0, slots := 0, locals := 192 }) (va_Pc [.ref a0, .int x, .int y, .int p, .int c, .ref n0] (h_P E X A z I0 L0)) (va_Qi (fun r (I1 : tI) => h_I z I1 ∧ h_F [(2, 0), (2, 1), (2, 2), (2, 3)] z I0 I1 ∧ (0 ≤ r.toInt ∧ r.toInt ≤ 1) ∧ ((r.toInt = 1 ∧ (r_lg u_ p_t (c + I0 (h_ad z a0 5) y_t.toNat - I0 (h_ad z a0 5) x_t.toNat) (I0 (h_ad z a0 4) y_t.toNat) (I0 (h_ad z a0 4) x_t.toNat))) ∨ (r.toInt = 0 ∧ ¬ (r_lg u_ p_t (c + I0 (h_ad z a0 5) y_t.toNat - I0 (h_ad z a0 5) x_t.toNat) (I0 (h_ad z a0 4) y_t.toNat) (I0 (h_ad z a0 4) x_t.toNat))))) (fun (I1 : tI) t => h_B E A z I1 L0 t) A) 0 0 A := by
  refine Met.ofW (cc := cX7_isLegal) (maxL := 6) (ret := (some .boolean)) (by decide) rfl ?_
  intro pr_ ev_ s m args below meth cd_ s₁ B hml hv
  obtain ⟨rfl, hE, hk, hX, hA, hK, hI, hR, hB0⟩ := hv
  have g : h_G h_so h_fk E A z I0 L0 s s.heap s.heap [] := ⟨hK, va_S.rf, hB0⟩
  have hF : h_F [(2, 0), (2, 1), (2, 2), (2, 3)] z I0 I0 := h_F.rf
  have hx := B.exec
  have hb := B.bytes
  have hr := B.returns
  have hts := atoms_spec (ws := wsX7_isLegal) B.pre
  have hown : s.vm.findClass RX7 = some m.cls := findClass_of_methodNamed B.named
  have hlocks := B.notSynchronized
  have iX7 : ∀ w ∈ u_ws RX7 TX7 13, w ∈ wsX7_isLegal := by decide +kernel
  have hl := lv_entry ([.ref a0, .int x, .int y, .int p, .int c, .ref n0]) (n := 6) (Nat.le_of_ble_eq_true rfl)
  rw [lg_entry_eq]
  generalize (lg_sl ([.ref a0, .int x, .int y, .int p, .int c, .ref n0]) ++ List.replicate (6 - (lg_sl ([.ref a0, .int x, .int y, .int p, .int c, .ref n0])).length) Slot.unset).toArray = ls at hl ⊢
  have hl : lv_has ls 6 [(0, .ref a0), (1, .int x), (2, .int y), (3, .int p), (4, .int c), (5, .ref n0)] := hl
  have b_p : -2147483648 ≤ p_t ∧ p_t ≤ 2147483647 := h_p ▸ ⟨xi_lo p, Int.le_of_lt_add_one (xi_hi p)⟩
  have b_c : -2147483648 ≤ c_t ∧ c_t ≤ 2147483647 := h_c ▸ ⟨xi_lo c, Int.le_of_lt_add_one (xi_hi c)⟩
  obtain ⟨ch, rch, tch⟩ := hR.at a0 1 t_a0 (rfl : h_rs 8 1 = some (2, false)) (by decide)
  have ach : h_ad z a0 1 = ch := h_ad.at rch
  obtain ⟨pa, rpa, tpa⟩ := hR.at a0 4 t_a0 (rfl : h_rs 8 4 = some (804, false)) (by decide)
  have apa : h_ad z a0 4 = pa := h_ad.at rpa
  obtain ⟨co, rco, tco⟩ := hR.at a0 5 t_a0 (rfl : h_rs 8 5 = some (805, false)) (by decide)
  have aco : h_ad z a0 5 = co := h_ad.at rco
  rw [apa] at hpx
  have kx : x.toNatClampNeg = x_t.toNat := h_keq h_x (by omega) (by omega)
  have ky : y.toNatClampNeg = y_t.toNat := h_keq h_y (by omega) (by omega)
  refine lv_aload_n hx hb dX7_isLegal_0 rfl (lv_at hl 0 rfl) ?_
  refine h_get (v := .ref ch) hx hb hts iX7 hown g t_a0 (by decide) so_8 rfl 1 (by decide) (hts (.fieldLink RX7 12 "CapLeague$RingSearch" "change" "LCapLeague$Change;") (by decide +kernel)) rfl dX7_isLegal_1 (by show va_rf (z.R a0 1) = _; rw [rch]; rfl) ?_
  refine va_callv (va_runV (As := []) (rest := []) ⟨hx, hb, hml, hown, hts⟩ (tX1_clearB l E X A z I0 L0 ch tch) (cwV 0 hts gX7_isLegal_X1_clear rfl rfl rfl (by decide +kernel) ⟨Nat.le_of_ble_eq_true rfl, Nat.le_of_ble_eq_true rfl⟩) ⟨h_blind _ _ _ _ _ _ _, h_recv g tch (by decide) so_2 (q := (RX1, TX1, 4)) rfl, h_pre _ hE hk hX hA hI hR g⟩ rfl rfl hl.1 rfl (lv_room (Nat.le_of_ble_eq_true rfl)) dX7_isLegal_4 ⟨Nat.le_of_ble_eq_true rfl, Nat.le_of_ble_eq_true rfl⟩) g.2.1 (fun q _ h => h) (fun q h => h) (fun I2 t H1 locs ht hvm h1 hB hz1 hk1 hS => ?_)
  obtain ⟨hI, fh1, h1⟩ := h1
  replace g := h_after g hB ht hS
  generalize H1 = H at g
  clear hB hk1 hz1 ht hvm hS
  have hF := hF.call fh1 rfl
  have h1p0 := h1
  refine lv_aload_n hx hb dX7_isLegal_7 rfl (lv_at hl 0 rfl) ?_
  refine h_get (v := .ref ch) hx hb hts iX7 hown g t_a0 (by decide) so_8 rfl 1 (by decide) (hts (.fieldLink RX7 12 "CapLeague$RingSearch" "change" "LCapLeague$Change;") (by decide +kernel)) rfl dX7_isLegal_8 (by show va_rf (z.R a0 1) = _; rw [rch]; rfl) ?_
  refine lv_aload_n hx hb dX7_isLegal_11 rfl (lv_at hl 0 rfl) ?_
  refine h_get (v := .ref pa) hx hb hts iX7 hown g t_a0 (by decide) so_8 rfl 4 (by decide) (hts (.fieldLink RX7 25 "CapLeague$RingSearch" "pays" "[I") (by decide +kernel)) rfl dX7_isLegal_12 (by show va_rf (z.R a0 4) = _; rw [rpa]; rfl) ?_
  refine lv_iload_n hx hb dX7_isLegal_15 rfl (lv_at hl 1 rfl) ?_
  refine h_ald hx hb g tpa (by decide) so_804 (xi_in (by rw [h_x]; omega) (by rw [h_x]; omega)) dX7_isLegal_16 ?_
  refine lv_topi (fun v3 ev3 => ?_)
  have jv3 := hI.rd pa x.toNatClampNeg tpa ev3 (rfl : h_bd 804 _ = ((-2147483648), 2147483647))
  refine lv_aload_n hx hb dX7_isLegal_17 rfl (lv_at hl 0 rfl) ?_
  refine h_get (v := .ref co) hx hb hts iX7 hown g t_a0 (by decide) so_8 rfl 5 (by decide) (hts (.fieldLink RX7 28 "CapLeague$RingSearch" "counts" "[I") (by decide +kernel)) rfl dX7_isLegal_18 (by show va_rf (z.R a0 5) = _; rw [rco]; rfl) ?_
  refine lv_iload_n hx hb dX7_isLegal_21 rfl (lv_at hl 1 rfl) ?_
  refine h_ald hx hb g tco (by decide) so_805 (xi_in (by rw [h_x]; omega) (by rw [h_x]; omega)) dX7_isLegal_22 ?_
  refine lv_topi (fun v4 ev4 => ?_)
  have jv4 := hI.rd co x.toNatClampNeg tco ev4 (rfl : h_bd 805 _ = ((-2147483648), 2147483647))
  refine va_callv (va_runV (As := [.int v3, .int v4]) (rest := []) ⟨hx, hb, hml, hown, hts⟩ (tX1_goesB l E X A z I2 L0 ch tch v3 (v3.toInt) rfl v4 (v4.toInt) rfl) (cwV 2 hts gX7_isLegal_X1_goes rfl rfl rfl (by decide +kernel) ⟨Nat.le_of_ble_eq_true rfl, Nat.le_of_ble_eq_true rfl⟩) ⟨h_blind _ _ _ _ _ _ _, h_recv g tch (by decide) so_2 (q := (RX1, TX1, 4)) rfl, h_pre _ hE hk hX hA hI hR g⟩ rfl rfl hl.1 rfl (lv_room (Nat.le_of_ble_eq_true rfl)) dX7_isLegal_23 ⟨Nat.le_of_ble_eq_true rfl, Nat.le_of_ble_eq_true rfl⟩) g.2.1 (fun q _ h => h) (fun q h => h) (fun I6 t H1 locs ht hvm h5 hB hz1 hk1 hS => ?_)
  obtain ⟨hI, fh5, h5⟩ := h5
  replace g := h_after g hB ht hS
  generalize H1 = H at g
  clear hB hk1 hz1 ht hvm hS
  have hF := hF.call fh5 rfl
  have h5p0 := h5
  refine lv_aload_n hx hb dX7_isLegal_26 rfl (lv_at hl 0 rfl) ?_
  refine h_get (v := .ref ch) hx hb hts iX7 hown g t_a0 (by decide) so_8 rfl 1 (by decide) (hts (.fieldLink RX7 12 "CapLeague$RingSearch" "change" "LCapLeague$Change;") (by decide +kernel)) rfl dX7_isLegal_27 (by show va_rf (z.R a0 1) = _; rw [rch]; rfl) ?_
  refine lv_aload_n hx hb dX7_isLegal_30 rfl (lv_at hl 0 rfl) ?_
  refine h_get (v := .ref pa) hx hb hts iX7 hown g t_a0 (by decide) so_8 rfl 4 (by decide) (hts (.fieldLink RX7 25 "CapLeague$RingSearch" "pays" "[I") (by decide +kernel)) rfl dX7_isLegal_31 (by show va_rf (z.R a0 4) = _; rw [rpa]; rfl) ?_
  refine lv_iload_n hx hb dX7_isLegal_34 rfl (lv_at hl 2 rfl) ?_
  refine h_ald hx hb g tpa (by decide) so_804 (xi_in (by rw [h_y]; omega) (by rw [h_y]; omega)) dX7_isLegal_35 ?_
  refine lv_topi (fun v7 ev7 => ?_)
  have jv7 := hI.rd pa y.toNatClampNeg tpa ev7 (rfl : h_bd 804 _ = ((-2147483648), 2147483647))
  refine lv_aload_n hx hb dX7_isLegal_36 rfl (lv_at hl 0 rfl) ?_
  refine h_get (v := .ref co) hx hb hts iX7 hown g t_a0 (by decide) so_8 rfl 5 (by decide) (hts (.fieldLink RX7 28 "CapLeague$RingSearch" "counts" "[I") (by decide +kernel)) rfl dX7_isLegal_37 (by show va_rf (z.R a0 5) = _; rw [rco]; rfl) ?_
  refine lv_iload_n hx hb dX7_isLegal_40 rfl (lv_at hl 2 rfl) ?_
  refine h_ald hx hb g tco (by decide) so_805 (xi_in (by rw [h_y]; omega) (by rw [h_y]; omega)) dX7_isLegal_41 ?_
  refine lv_topi (fun v8 ev8 => ?_)
  have jv8 := hI.rd co y.toNatClampNeg tco ev8 (rfl : h_bd 805 _ = ((-2147483648), 2147483647))
  refine va_callv (va_runV (As := [.int v7, .int v8]) (rest := []) ⟨hx, hb, hml, hown, hts⟩ (tX1_comesB l E X A z I6 L0 ch tch v7 (v7.toInt) rfl v8 (v8.toInt) rfl) (cwV 2 hts gX7_isLegal_X1_comes rfl rfl rfl (by decide +kernel) ⟨Nat.le_of_ble_eq_true rfl, Nat.le_of_ble_eq_true rfl⟩) ⟨h_blind _ _ _ _ _ _ _, h_recv g tch (by decide) so_2 (q := (RX1, TX1, 4)) rfl, h_pre _ hE hk hX hA hI hR g⟩ rfl rfl hl.1 rfl (lv_room (Nat.le_of_ble_eq_true rfl)) dX7_isLegal_42 ⟨Nat.le_of_ble_eq_true rfl, Nat.le_of_ble_eq_true rfl⟩) g.2.1 (fun q _ h => h) (fun q h => h) (fun I10 t H1 locs ht hvm h9 hB hz1 hk1 hS => ?_)
  obtain ⟨hI, fh9, h9⟩ := h9
  replace g := h_after g hB ht hS
  generalize H1 = H at g
  clear hB hk1 hz1 ht hvm hS
  have hF := hF.call fh9 rfl
  have h9p0 := h9
  have gpx : I0 pa x_t.toNat = v3 := by rw [← kx, ev3]; exact (h_F.at fh1 tpa rfl).symm
  have gcx : I0 co x_t.toNat = v4 := by rw [← kx, ev4]; exact (h_F.at fh1 tco rfl).symm
  have gpy : I0 pa y_t.toNat = v7 := by rw [← ky, ev7]; exact ((h_F.at fh5 tpa rfl).trans (h_F.at fh1 tpa rfl)).symm
  have gcy : I0 co y_t.toNat = v8 := by rw [← ky, ev8]; exact ((h_F.at fh5 tco rfl).trans (h_F.at fh1 tco rfl)).symm
  have pxb : 0 ≤ v3.toInt ∧ v3.toInt ≤ 400000 := by rw [← gpx]; exact hpx
  refine lv_aload_n hx hb dX7_isLegal_45 rfl (lv_at hl 0 rfl) ?_
  refine h_get (v := .ref ch) hx hb hts iX7 hown g t_a0 (by decide) so_8 rfl 1 (by decide) (hts (.fieldLink RX7 12 "CapLeague$RingSearch" "change" "LCapLeague$Change;") (by decide +kernel)) rfl dX7_isLegal_46 (by show va_rf (z.R a0 1) = _; rw [rch]; rfl) ?_
  refine lv_iload_n hx hb dX7_isLegal_49 rfl (lv_at hl 3 rfl) ?_
  refine lv_iload hx hb dX7_isLegal_50 (lv_at hl 4 rfl) ?_
  refine lv_aload hx hb dX7_isLegal_52 (lv_at hl 5 rfl) ?_
  refine vp_callSi (W.runV (As := [.int p, .int c, .ref n0]) (rest := []) ⟨hx, hb, hml, hown, hts⟩ (tX1_faultB l E X A z I10 L0 ch tch p (p_t) h_p c (c_t) h_c n0 t_n0 (u_) (h_lwc hR (h_F.call (h_F.call (h_F.call (h_F.rf : h_F [(2, 0), (2, 1), (2, 2), (2, 3)] z I0 I0) fh1 rfl) fh5 rfl) fh9 rfl) hu t_n0 (fun _ => rfl) (fun _ => rfl) (fun _ => rfl)) (hob) (by rw [h9p0.2.2.1, h5p0.2.2.1, h1p0.2.2.1, Int32.zero_add]; exact pxb)) (cwV 3 hts gX7_isLegal_X1_faultFor rfl rfl rfl (by decide +kernel) ⟨Nat.le_of_ble_eq_true rfl, Nat.le_of_ble_eq_true rfl⟩) ⟨h_blind _ _ _ _ _ _ _, h_recv g tch (by decide) so_2 (q := (RX1, TX1, 4)) rfl, h_pre _ hE hk hX hA hI hR g⟩ rfl rfl hl.1 rfl (lv_room (Nat.le_of_ble_eq_true rfl)) dX7_isLegal_54 ⟨Nat.le_of_ble_eq_true rfl, Nat.le_of_ble_eq_true rfl⟩) (fun rh11 h11 => ?_)
  obtain ⟨h11, h11p0⟩ := h11
  rw [h9p0.1, h9p0.2.2.2, h9p0.2.1, h9p0.2.2.1] at h11p0
  rw [h5p0.1, h5p0.2.2.2, h5p0.2.1, h5p0.2.2.1] at h11p0
  rw [h1p0.1, h1p0.2.2.2, h1p0.2.1, h1p0.2.2.1, show ((0 : Int32) - 1 + 1) = 0 by decide, Int32.add_zero, Int32.zero_add, Int32.zero_add, q_adj] at h11p0
  have hlg := q_tf_lg (u := u_) (mn := p) (cn := c + v8 - v4) (pin := v7) (pout := v3)
  rw [h_p, ← h11p0] at hlg
  refine lv_if_ne (tgt := 64) hx hb dX7_isLegal_57 (by decide) (fun c12 => ?_) (fun c12 => ?_)
  · have ic12 := (xi_ne c12 rfl (by decide) : rh11.toInt ≠ 0)
    refine lv_iconst (v := 0) hx hb dX7_isLegal_64 (by decide) ?_
    have hS := g.2.1
    exact W.zret (v := 0) hx hb hr (by decide) (fun t ht hW => ⟨⟨0, I10, rfl, ⟨hI, hF, ⟨⟨(by decide), (by decide)⟩, (by have z9 : (0 : Int32).toInt = 0 := (by decide); rw [apa, aco, show I0 pa x_t.toNat = v3 from gpx, show I0 pa y_t.toNat = v7 from gpy, show I0 co x_t.toNat = v4 from gcx, show I0 co y_t.toNat = v8 from gcy]; exact Or.inr ⟨z9, fun q => absurd (hlg.mpr q) (by omega)⟩)⟩⟩, h_ret g ht⟩, hS.F ht⟩) hS.2.2 dX7_isLegal_65
  · have ic12 := (xi_eq c12 rfl (by decide) : rh11.toInt = 0)
    refine lv_iconst (v := 1) hx hb dX7_isLegal_60 (by decide) ?_
    refine lv_goto (tgt := 65) hx hb dX7_isLegal_61 (by decide) ?_
    have hS := g.2.1
    exact W.zret (v := 1) hx hb hr (by decide) (fun t ht hW => ⟨⟨1, I10, rfl, ⟨hI, hF, ⟨⟨(by decide), (by decide)⟩, (by have z9 : (1 : Int32).toInt = 1 := (by decide); rw [apa, aco, show I0 pa x_t.toNat = v3 from gpx, show I0 pa y_t.toNat = v7 from gpy, show I0 co x_t.toNat = v4 from gcx, show I0 co y_t.toNat = v8 from gcy]; exact Or.inl ⟨z9, hlg.mp (by omega)⟩)⟩⟩, h_ret g ht⟩, hS.F ht⟩) hS.2.2 dX7_isLegal_65
set_option maxHeartbeats 4000000 in
set_option maxRecDepth 100000 in
theorem tX7_keepR (l : Launch) (E : tE) (X : tX) (A : Nat → Prop) (z : tZ) (I0 : tI) (L0 : tL) (a0 : Nat) (t_a0 : z.ty a0 = 8) (x : Int32) (x_t : Int) (h_x : x.toInt = x_t) (b_x : 0 ≤ x_t ∧ x_t ≤ 3) (y : Int32) (y_t : Int) (h_y : y.toInt = y_t) (b_y : 0 ≤ y_t ∧ y_t ≤ 2) (c : Int32) (c_t : Int) (h_c : c.toInt = c_t) (p : Int32) (p_t : Int) (h_p : p.toInt = p_t) : Met l yX7_keep wsX7_keep ({ frames := 1, cells := 0, slots := 0, locals := 64 }) (va_Pc [.ref a0, .int x, .int y, .int c, .int p] (h_P E X A z I0 L0)) (va_Qv (fun (I1 : tI) => h_I z I1 ∧ h_F [(8, 10), (811, 999), (812, 999)] z I0 I1 ∧ (I1 a0 10 = x) ∧ ((∀ j : Nat, I1 (h_ad z a0 11) j = if j = y_t.toNat then c else I0 (h_ad z a0 11) j) ∧ (∀ j : Nat, I1 (h_ad z a0 12) j = if j = y_t.toNat then p else I0 (h_ad z a0 12) j))) (fun (I1 : tI) t => h_B E A z I1 L0 t) A) 0 0 A := by
  refine Met.ofW (cc := cX7_keep) (maxL := 5) (ret := none) (by decide) rfl ?_
  intro pr_ ev_ s m args below meth cd_ s₁ B hml hv
  obtain ⟨rfl, hE, hk, hX, hA, hK, hI, hR, hB0⟩ := hv
  have g : h_G h_so h_fk E A z I0 L0 s s.heap s.heap [] := ⟨hK, va_S.rf, hB0⟩
  have hF : h_F [(8, 10), (811, 999), (812, 999)] z I0 I0 := h_F.rf
  have hx := B.exec
  have hb := B.bytes
  have hr := B.returns
  have hts := atoms_spec (ws := wsX7_keep) B.pre
  have hown : s.vm.findClass RX7 = some m.cls := findClass_of_methodNamed B.named
  have hlocks := B.notSynchronized
  have iX7 : ∀ w ∈ u_ws RX7 TX7 13, w ∈ wsX7_keep := by decide +kernel
  have hl := lv_entry ([.ref a0, .int x, .int y, .int c, .int p]) (n := 5) (Nat.le_of_ble_eq_true rfl)
  rw [lg_entry_eq]
  generalize (lg_sl ([.ref a0, .int x, .int y, .int c, .int p]) ++ List.replicate (5 - (lg_sl ([.ref a0, .int x, .int y, .int c, .int p])).length) Slot.unset).toArray = ls at hl ⊢
  have hl : lv_has ls 5 [(0, .ref a0), (1, .int x), (2, .int y), (3, .int c), (4, .int p)] := hl
  have b_c : -2147483648 ≤ c_t ∧ c_t ≤ 2147483647 := h_c ▸ ⟨xi_lo c, Int.le_of_lt_add_one (xi_hi c)⟩
  have b_p : -2147483648 ≤ p_t ∧ p_t ≤ 2147483647 := h_p ▸ ⟨xi_lo p, Int.le_of_lt_add_one (xi_hi p)⟩
  obtain ⟨cr, rcr, tcr⟩ := hR.at a0 11 t_a0 (rfl : h_rs 8 11 = some (811, false)) (by decide)
  have acr : h_ad z a0 11 = cr := h_ad.at rcr
  obtain ⟨pr, rpr, tpr⟩ := hR.at a0 12 t_a0 (rfl : h_rs 8 12 = some (812, false)) (by decide)
  have apr : h_ad z a0 12 = pr := h_ad.at rpr
  have kn : y.toNatClampNeg = y_t.toNat := h_keq h_y (by omega) (by omega)
  refine lv_aload_n hx hb dX7_keep_0 rfl (lv_at hl 0 rfl) ?_
  refine lv_iload_n hx hb dX7_keep_1 rfl (lv_at hl 1 rfl) ?_
  refine h_putI (ty := .int) (v := x) hx hb hts iX7 tyX7 tyX7_ok nmX7 hown g t_a0 (by decide) so_8 rfl 10 (by decide) rfl (hts (.fieldLink RX7 71 "CapLeague$RingSearch" "clubsInRing" "I") (by decide +kernel)) rfl rfl (by decide +kernel) rfl rfl dX7_keep_2 (fun I1 H locs eI1 g => ?_)
  have hI := hI.wr eI1 t_a0 (rfl : h_bd 8 10 = (0, 3)) (by rw [h_x]; omega) (by rw [h_x]; omega)
  have hF := hF.wr eI1 t_a0 rfl
  refine lv_aload_n hx hb dX7_keep_5 rfl (lv_at hl 0 rfl) ?_
  refine h_get (v := .ref cr) hx hb hts iX7 hown g t_a0 (by decide) so_8 rfl 11 (by decide) (hts (.fieldLink RX7 42 "CapLeague$RingSearch" "clubRow" "[I") (by decide +kernel)) rfl dX7_keep_6 (by show va_rf (z.R a0 11) = _; rw [rcr]; rfl) ?_
  refine lv_iload_n hx hb dX7_keep_9 rfl (lv_at hl 2 rfl) ?_
  refine lv_iload_n hx hb dX7_keep_10 rfl (lv_at hl 3 rfl) ?_
  refine h_ast hx hb g tcr (by decide) so_811 (xi_in (by rw [h_y]; omega) (by rw [h_y]; omega)) dX7_keep_11 (fun I2 H locs eI2 g => ?_)
  have hI := hI.wr eI2 tcr (rfl : h_bd 811 _ = ((-2147483648), 2147483647)) (xi_lo _) (Int.le_of_lt_add_one (xi_hi _))
  have hF := hF.wr eI2 tcr rfl
  refine lv_aload_n hx hb dX7_keep_12 rfl (lv_at hl 0 rfl) ?_
  refine h_get (v := .ref pr) hx hb hts iX7 hown g t_a0 (by decide) so_8 rfl 12 (by decide) (hts (.fieldLink RX7 45 "CapLeague$RingSearch" "playerRow" "[I") (by decide +kernel)) rfl dX7_keep_13 (by show va_rf (z.R a0 12) = _; rw [rpr]; rfl) ?_
  refine lv_iload_n hx hb dX7_keep_16 rfl (lv_at hl 2 rfl) ?_
  refine lv_iload hx hb dX7_keep_17 (lv_at hl 4 rfl) ?_
  refine h_ast hx hb g tpr (by decide) so_812 (xi_in (by rw [h_y]; omega) (by rw [h_y]; omega)) dX7_keep_19 (fun I3 H locs eI3 g => ?_)
  have hI := hI.wr eI3 tpr (rfl : h_bd 812 _ = ((-2147483648), 2147483647)) (xi_lo _) (Int.le_of_lt_add_one (xi_hi _))
  have hF := hF.wr eI3 tpr rfl
  have hS := g.2.1
  exact W.vret hx hb hr (fun t ht hW => ⟨⟨I3, rfl, ⟨hI, hF, ⟨((h_n1 eI3 t_a0 tpr (by decide)).trans ((h_n1 eI2 t_a0 tcr (by decide)).trans (h_n0 eI1))), (by rw [acr, apr]; exact ⟨fun j => (h_n1 eI3 tcr tpr (by decide)).trans ((h_wif eI2 kn j).trans (by rw [h_n1 eI1 tcr t_a0 (by decide)])), fun j => (h_wif eI3 kn j).trans (by rw [(h_n1 eI2 tpr tcr (by decide)).trans (h_n1 eI1 tpr t_a0 (by decide))])⟩)⟩⟩, h_ret g ht⟩, hS.F ht⟩) hS.2.2 dX7_keep_20
set_option maxHeartbeats 4000000 in
set_option maxRecDepth 100000 in
theorem tX7_lineUpR (l : Launch) (E : tE) (X : tX) (A : Nat → Prop) (z : tZ) (I0 : tI) (L0 : tL) (a0 : Nat) (t_a0 : z.ty a0 = 8) (u_ : Nat → Int) (hcl : ∀ b : Nat, h_of (z.R (h_ad z (h_ad z (h_ad z a0 0) 0) 1)) (h_ad z (h_ad z (h_ad z a0 0) 0) 0) (I0 (h_ad z a0 0) 3).toInt b → h_lw I0 b (h_ad z b 0) (h_ad z b 1) u_) (hob : q_okb u_) (hnn : ∀ p : Nat, (p : Int) < (I0 (h_ad z a0 0) 2).toInt → z.R (h_ad z (h_ad z a0 0) 1) p ≠ none) : Met l yX7_lineUp wsX7_lineUp ({ frames := 4, cells := 0, slots := 0, locals := 256 }) (va_Pc [.ref a0] (h_P E X A z I0 L0)) (va_Qv (fun (I1 : tI) => h_I z I1 ∧ h_F [(803, 999), (802, 999), (804, 999), (805, 999)] z I0 I1 ∧ (c_st I1 (h_ad z a0 3) (I0 (h_ad z a0 0) 2).toInt.toNat (c_cb z I0 (h_ad z a0 0)) 9 ∧ c_lq I1 (h_ad z a0 2) (h_ad z a0 4) (h_ad z a0 5) (I0 (h_ad z a0 0) 2).toInt.toNat (c_cb z I0 (h_ad z a0 0)) (c_pyp z I0 (h_ad z a0 0)) (c_ctp z I0 (h_ad z a0 0) (u_ 6)) 8 0)) (fun (I1 : tI) t => h_B E A z I1 L0 t) A) 0 0 A := by
  refine Met.ofW (cc := cX7_lineUp) (maxL := 5) (ret := none) (by decide) rfl ?_
  intro pr_ ev_ s m args below meth cd_ s₁ B hml hv
  obtain ⟨rfl, hE, hk, hX, hA, hK, hI, hR, hB0⟩ := hv
  have g : h_G h_so h_fk E A z I0 L0 s s.heap s.heap [] := ⟨hK, va_S.rf, hB0⟩
  have hF : h_F [(803, 999), (802, 999), (804, 999), (805, 999)] z I0 I0 := h_F.rf
  have hx := B.exec
  have hb := B.bytes
  have hr := B.returns
  have hts := atoms_spec (ws := wsX7_lineUp) B.pre
  have hown : s.vm.findClass RX7 = some m.cls := findClass_of_methodNamed B.named
  have hlocks := B.notSynchronized
  have iX7 : ∀ w ∈ u_ws RX7 TX7 13, w ∈ wsX7_lineUp := by decide +kernel
  have iX0 : ∀ w ∈ u_ws RX0 TX0 9, w ∈ wsX7_lineUp := by decide +kernel
  have iX6 : ∀ w ∈ u_ws RX6 TX6 9, w ∈ wsX7_lineUp := by decide +kernel
  have hl := lv_entry ([.ref a0]) (n := 5) (Nat.le_of_ble_eq_true rfl)
  rw [lg_entry_eq]
  generalize (lg_sl ([.ref a0]) ++ List.replicate (5 - (lg_sl ([.ref a0])).length) Slot.unset).toArray = ls at hl ⊢
  have hl : lv_has ls 5 [(0, .ref a0)] := hl
  obtain ⟨bk, rbk, tbk⟩ := hR.at a0 0 t_a0 (rfl : h_rs 8 0 = some (1, false)) (by decide)
  have abk : h_ad z a0 0 = bk := h_ad.at rbk
  obtain ⟨ln, rln, tln⟩ := hR.at a0 2 t_a0 (rfl : h_rs 8 2 = some (802, false)) (by decide)
  have aln : h_ad z a0 2 = ln := h_ad.at rln
  obtain ⟨st, rst, tst⟩ := hR.at a0 3 t_a0 (rfl : h_rs 8 3 = some (803, false)) (by decide)
  have ast : h_ad z a0 3 = st := h_ad.at rst
  obtain ⟨pa, rpa, tpa⟩ := hR.at a0 4 t_a0 (rfl : h_rs 8 4 = some (804, false)) (by decide)
  have apa : h_ad z a0 4 = pa := h_ad.at rpa
  obtain ⟨co, rco, tco⟩ := hR.at a0 5 t_a0 (rfl : h_rs 8 5 = some (805, false)) (by decide)
  have aco : h_ad z a0 5 = co := h_ad.at rco
  obtain ⟨pl, rpl, tpl⟩ := hR.at bk 1 tbk (rfl : h_rs 1 1 = some (101, false)) (by decide)
  have apl : h_ad z bk 1 = pl := h_ad.at rpl
  obtain ⟨f0_2, ef0_2⟩ : ∃ v : Int32, v = I0 bk 2 := ⟨_, rfl⟩
  have qf0_2 : (I0 bk 2).toInt = f0_2.toInt := congrArg Int32.toInt ef0_2.symm
  have jf0_2 := hI.rd bk 2 tbk ef0_2 (rfl : h_bd 1 2 = (0, 60))
  obtain ⟨f0_3, ef0_3⟩ : ∃ v : Int32, v = I0 bk 3 := ⟨_, rfl⟩
  have qf0_3 : (I0 bk 3).toInt = f0_3.toInt := congrArg Int32.toInt ef0_3.symm
  have jf0_3 := hI.rd bk 3 tbk ef0_3 (rfl : h_bd 1 3 = (0, 9))
  obtain ⟨lb, rlb, tlb⟩ := hR.at bk 0 tbk (rfl : h_rs 1 0 = some (4, false)) (by decide)
  have alb : h_ad z bk 0 = lb := h_ad.at rlb
  obtain ⟨un, run, tun⟩ := hR.at lb 0 tlb (rfl : h_rs 4 0 = some (6, false)) (by decide)
  have aun : h_ad z lb 0 = un := h_ad.at run
  obtain ⟨tx, rtx, ttx⟩ := hR.at lb 1 tlb (rfl : h_rs 4 1 = some (401, false)) (by decide)
  have atx : h_ad z lb 1 = tx := h_ad.at rtx
  have hcl0 := hcl
  rw [abk, alb, aun, atx, qf0_3] at hcl
  rw [abk, apl, qf0_2] at hnn
  obtain ⟨CB, eCB⟩ : ∃ f : Nat → Int32, f = c_cb z I0 bk := ⟨_, rfl⟩
  obtain ⟨PP, ePP⟩ : ∃ f : Nat → Int32, f = c_pyp z I0 bk := ⟨_, rfl⟩
  obtain ⟨QQ, eQQ⟩ : ∃ f : Nat → Int32, f = c_ctp z I0 bk (u_ 6) := ⟨_, rfl⟩
  obtain ⟨N, eN⟩ : ∃ n : Nat, n = f0_2.toInt.toNat := ⟨_, rfl⟩
  refine lv_iconst (v := 0) hx hb dX7_lineUp_0 (by decide) ?_
  refine lv_istore_n (lv' := [(1, .int 0), (0, .ref a0)]) hx hb dX7_lineUp_1 rfl hl (by decide) rfl (fun ls hl => ?_)
  refine lv_iconst (v := 0) hx hb dX7_lineUp_2 (by decide) ?_
  refine lv_istore_n (lv' := [(2, .int 0), (1, .int 0), (0, .ref a0)]) hx hb dX7_lineUp_3 rfl hl (by decide) rfl (fun ls hl => ?_)
  have loop4_0 : ∀ (n : Nat) (I3 : tI) (H : Heap) (locs : List Loc) (ls : Array Slot) (v1 v2 : Int32), h_G h_so h_fk E A z I3 L0 s s.heap H locs → h_I z I3 → h_F [(803, 999), (802, 999), (804, 999), (805, 999)] z I0 I3 → lv_has ls 5 [(0, .ref a0), (1, .int v1), (2, .int v2)] → (0 ≤ v1.toInt ∧ v1.toInt ≤ 60) → (0 ≤ v2.toInt ∧ v2.toInt ≤ 8) → h_F [(803, 999), (802, 999), (804, 999), (805, 999)] z I0 I3 → (v1.toInt = ((q_sp CB N (v2.toInt).toNat : Nat) : Int)) → (c_lq I3 ln pa co N CB PP QQ (v2.toInt).toNat 0) → (c_st I3 st N CB (v2.toInt).toNat) → (8 - v2.toInt) < (n : Int) → W pr_ l ev_ (headSpec wsX7_lineUp ({ frames := 4, cells := 0, slots := 0, locals := 256 })).room s m ([.ref a0] : List Value).toArray below meth cd_ H locs 0 0 (MQ below (va_Qv (fun (I1 : tI) => h_I z I1 ∧ h_F [(803, 999), (802, 999), (804, 999), (805, 999)] z I0 I1 ∧ (c_st I1 (h_ad z a0 3) (I0 (h_ad z a0 0) 2).toInt.toNat (c_cb z I0 (h_ad z a0 0)) 9 ∧ c_lq I1 (h_ad z a0 2) (h_ad z a0 4) (h_ad z a0 5) (I0 (h_ad z a0 0) 2).toInt.toNat (c_cb z I0 (h_ad z a0 0)) (c_pyp z I0 (h_ad z a0 0)) (c_ctp z I0 (h_ad z a0 0) (u_ 6)) 8 0)) (fun (I1 : tI) t => h_B E A z I1 L0 t) A) ([.ref a0] : List Value).toArray s 0 0 A) (F0 m 4 ls []) := by
    intro n
    induction n with
    | zero => intro I3 H locs ls v1 v2 g hI hF hl jv1 jv2 hL4 hx4_0 hx4_1 hx4_2 hn; exact absurd hn (by omega)
    | succ n ih4 =>
      intro I3 H locs ls v1 v2 g hI hF hl jv1 jv2 hL4 hx4_0 hx4_1 hx4_2 hn
      have sb4 := q_sp_n (cb := CB) (v2.toInt).toNat N
      have k2 : v2.toNatClampNeg = v2.toInt.toNat := h_keq rfl (by omega) (by omega)
      refine lv_iload_n hx hb dX7_lineUp_4 rfl (lv_at hl 2 rfl) ?_
      refine lv_bipush (v := 8) hx hb dX7_lineUp_5 (by decide) ?_
      refine lv_icmp_ge (tgt := 125) hx hb dX7_lineUp_7 (by decide) (fun c4 => ?_) (fun c4 => ?_)
      · have ic4 := (xi_le c4 (by decide) rfl : 8 ≤ v2.toInt)
        have k88 : (8 : Int32).toNatClampNeg = 8 := by decide
        refine lv_aload_n hx hb dX7_lineUp_125 rfl (lv_at hl 0 rfl) ?_
        refine h_get (v := .ref st) hx hb hts iX7 hown g t_a0 (by decide) so_8 rfl 3 (by decide) (hts (.fieldLink RX7 22 "CapLeague$RingSearch" "start" "[I") (by decide +kernel)) rfl dX7_lineUp_126 (by show va_rf (z.R a0 3) = _; rw [rst]; rfl) ?_
        refine lv_bipush (v := 8) hx hb dX7_lineUp_129 (by decide) ?_
        refine lv_iload_n hx hb dX7_lineUp_131 rfl (lv_at hl 1 rfl) ?_
        refine h_ast hx hb g tst (by decide) so_803 (by unfold vp_in; decide) dX7_lineUp_132 (fun I5 H locs eI5 g => ?_)
        have hI := hI.wr eI5 tst (rfl : h_bd 803 _ = (0, 60)) (by omega) (by omega)
        have hF := hF.wr eI5 tst rfl
        have hS := g.2.1
        exact W.vret hx hb hr (fun t ht hW => ⟨⟨I5, rfl, ⟨hI, hF, (by rw [abk, ast, aln, apa, aco, ← eCB, ← ePP, ← eQQ, qf0_2, ← eN]; have k8 : v2.toInt.toNat = 8 := (by omega); rw [k8] at hx4_0 hx4_1 hx4_2; exact ⟨hx4_2.s rfl (x := v1) hx4_0 (fun j => h_wif eI5 k88 j), hx4_1.c (fun k => h_n1 eI5 tln tst (by decide)) (fun k => h_n1 eI5 tpa tst (by decide)) (fun k => h_n1 eI5 tco tst (by decide))⟩)⟩, h_ret g ht⟩, hS.F ht⟩) hS.2.2 dX7_lineUp_133
      · have ic4 := (xi_nle c4 (by decide) rfl : v2.toInt < 8)
        refine lv_aload_n hx hb dX7_lineUp_10 rfl (lv_at hl 0 rfl) ?_
        refine h_get (v := .ref st) hx hb hts iX7 hown g t_a0 (by decide) so_8 rfl 3 (by decide) (hts (.fieldLink RX7 22 "CapLeague$RingSearch" "start" "[I") (by decide +kernel)) rfl dX7_lineUp_11 (by show va_rf (z.R a0 3) = _; rw [rst]; rfl) ?_
        refine lv_iload_n hx hb dX7_lineUp_14 rfl (lv_at hl 2 rfl) ?_
        refine lv_iload_n hx hb dX7_lineUp_15 rfl (lv_at hl 1 rfl) ?_
        refine h_ast hx hb g tst (by decide) so_803 (xi_in (by omega) (by omega)) dX7_lineUp_16 (fun I6 H locs eI6 g => ?_)
        have hI := hI.wr eI6 tst (rfl : h_bd 803 _ = (0, 60)) (by omega) (by omega)
        have hF := hF.wr eI6 tst rfl
        refine lv_iconst (v := 0) hx hb dX7_lineUp_17 (by decide) ?_
        refine lv_istore_n (lv' := [(3, .int 0), (0, .ref a0), (1, .int v1), (2, .int v2)]) hx hb dX7_lineUp_18 rfl hl (by decide) rfl (fun ls hl => ?_)
        have loop19_1 : ∀ (n : Nat) (I9 : tI) (H : Heap) (locs : List Loc) (ls : Array Slot) (v7 v8 : Int32), h_G h_so h_fk E A z I9 L0 s s.heap H locs → h_I z I9 → h_F [(803, 999), (802, 999), (804, 999), (805, 999)] z I0 I9 → lv_has ls 5 [(0, .ref a0), (1, .int v7), (2, .int v2), (3, .int v8)] → (0 ≤ v7.toInt ∧ v7.toInt ≤ 60) → (0 ≤ v8.toInt ∧ v8.toInt ≤ 60) → h_F [(802, 999), (804, 999), (805, 999)] z I6 I9 → (v7.toInt = ((q_sp CB N (v2.toInt).toNat + q_ct (q_mc CB (((v2.toInt).toNat : Nat) : Int)) (v8.toInt).toNat : Nat) : Int)) → (c_lq I9 ln pa co N CB PP QQ (v2.toInt).toNat (v8.toInt).toNat) → (c_st I9 st N CB ((v2.toInt).toNat + 1)) → (v8.toInt ≤ f0_2.toInt) → (60 - v8.toInt) < (n : Int) → W pr_ l ev_ (headSpec wsX7_lineUp ({ frames := 4, cells := 0, slots := 0, locals := 256 })).room s m ([.ref a0] : List Value).toArray below meth cd_ H locs 0 0 (MQ below (va_Qv (fun (I1 : tI) => h_I z I1 ∧ h_F [(803, 999), (802, 999), (804, 999), (805, 999)] z I0 I1 ∧ (c_st I1 (h_ad z a0 3) (I0 (h_ad z a0 0) 2).toInt.toNat (c_cb z I0 (h_ad z a0 0)) 9 ∧ c_lq I1 (h_ad z a0 2) (h_ad z a0 4) (h_ad z a0 5) (I0 (h_ad z a0 0) 2).toInt.toNat (c_cb z I0 (h_ad z a0 0)) (c_pyp z I0 (h_ad z a0 0)) (c_ctp z I0 (h_ad z a0 0) (u_ 6)) 8 0)) (fun (I1 : tI) t => h_B E A z I1 L0 t) A) ([.ref a0] : List Value).toArray s 0 0 A) (F0 m 19 ls []) := by
          intro n
          induction n with
          | zero => intro I9 H locs ls v7 v8 g hI hF hl jv7 jv8 hL19 hx19_0 hx19_1 hx19_2 hx19_3 hn; exact absurd hn (by omega)
          | succ n ih19 =>
            intro I9 H locs ls v7 v8 g hI hF hl jv7 jv8 hL19 hx19_0 hx19_1 hx19_2 hx19_3 hn
            have sb : q_sp CB N (v2.toInt).toNat + q_ct (q_mc CB (((v2.toInt).toNat : Nat) : Int)) N ≤ N := q_sp_n (cb := CB) ((v2.toInt).toNat + 1) N
            have sm : q_ct (q_mc CB (((v2.toInt).toNat : Nat) : Int)) (v8.toInt).toNat ≤ q_ct (q_mc CB (((v2.toInt).toNat : Nat) : Int)) N := q_ct_m (by omega)
            have kv : v8.toNatClampNeg = v8.toInt.toNat := h_keq rfl (by omega) (by omega)
            have kf : v7.toNatClampNeg = q_sp CB N (v2.toInt).toNat + q_ct (q_mc CB (((v2.toInt).toNat : Nat) : Int)) (v8.toInt).toNat := h_keq rfl (by omega) (by omega)
            refine lv_iload_n hx hb dX7_lineUp_19 rfl (lv_at hl 3 rfl) ?_
            refine lv_aload_n hx hb dX7_lineUp_20 rfl (lv_at hl 0 rfl) ?_
            refine h_get (v := .ref bk) hx hb hts iX7 hown g t_a0 (by decide) so_8 rfl 0 (by decide) (hts (.fieldLink RX7 48 "CapLeague$RingSearch" "books" "LCapLeague$Books;") (by decide +kernel)) rfl dX7_lineUp_21 (by show va_rf (z.R a0 0) = _; rw [rbk]; rfl) ?_
            refine h_get (v := .int f0_2) hx hb hts iX0 hown g tbk (by decide) so_1 rfl 2 (by decide) (hts (.fieldLink RX7 74 "CapLeague$Books" "size" "I") (by decide +kernel)) rfl dX7_lineUp_24 (congrArg Value.int ((h_F.at hL19 tbk rfl).trans ((h_n1 eI6 tbk tst (by decide)).trans ((h_F.at hL4 tbk rfl).trans (ef0_2.symm))))) ?_
            refine lv_icmp_ge (tgt := 119) hx hb dX7_lineUp_27 (by decide) (fun c10 => ?_) (fun c10 => ?_)
            · have ic10 := (xi_le c10 rfl rfl : f0_2.toInt ≤ v8.toInt)
              obtain ⟨v11, ev11⟩ : ∃ z : Int32, z = v2 + 1 := ⟨_, rfl⟩
              have jv11 : v11.toInt = v2.toInt + 1 := xi_add ev11 rfl (by decide) (by omega) (by omega)
              refine lv_iinc (v := v11) (lv' := [(2, .int v11), (0, .ref a0), (1, .int v7), (3, .int v8)]) hx hb dX7_lineUp_119 hl (k := 2) rfl (by rw [ev11]; rfl) (by decide) rfl (fun ls hl => ?_)
              refine lv_goto (tgt := 4) hx hb dX7_lineUp_122 (by decide) ?_
              exact ih4 I9 _ _ _ v7 v11 g hI hF (lv_sub hl [1, 2, 0] rfl) (by omega) (by omega) (h_F.call (h_F.wr (h_F.call (h_F.rf : h_F [(803, 999), (802, 999), (804, 999), (805, 999)] z I0 I0) hL4 rfl) eI6 tst rfl) hL19 rfl) (by rw [show (v11.toInt).toNat = v2.toInt.toNat + 1 by omega]; show _ = ((q_sp CB N v2.toInt.toNat + q_ct (q_mc CB ((v2.toInt.toNat : Nat) : Int)) N : Nat) : Int); have h9 := hx19_0; rw [show v8.toInt.toNat = N by omega] at h9; exact h9) (hx19_1.nx (by omega) (by omega : (v11.toInt).toNat = v2.toInt.toNat + 1)) (by rw [show (v11.toInt).toNat = v2.toInt.toNat + 1 by omega]; exact hx19_2) (by omega)
            · have ic10 := (xi_nle c10 rfl rfl : v8.toInt < f0_2.toInt)
              refine lv_aload_n hx hb dX7_lineUp_30 rfl (lv_at hl 0 rfl) ?_
              refine h_get (v := .ref bk) hx hb hts iX7 hown g t_a0 (by decide) so_8 rfl 0 (by decide) (hts (.fieldLink RX7 48 "CapLeague$RingSearch" "books" "LCapLeague$Books;") (by decide +kernel)) rfl dX7_lineUp_31 (by show va_rf (z.R a0 0) = _; rw [rbk]; rfl) ?_
              refine lv_iload_n hx hb dX7_lineUp_34 rfl (lv_at hl 3 rfl) ?_
              refine va_csq (W.runV (As := [.int v8]) (rest := []) ⟨hx, hb, hml, hown, hts⟩ (tX0_playerAtN l E X A z I9 L0 bk tbk v8 (v8.toInt) rfl (by omega) (by rw [show I9 bk 2 = f0_2 from (h_F.at hL19 tbk rfl).trans ((h_n1 eI6 tbk tst (by decide)).trans ((h_F.at hL4 tbk rfl).trans (ef0_2.symm)))]; omega) (by rw [apl]; exact hnn _ (by omega))) (cwV 1 hts gX7_lineUp_X0_playerAt rfl rfl rfl (by decide +kernel) ⟨Nat.le_of_ble_eq_true rfl, Nat.le_of_ble_eq_true rfl⟩) ⟨h_blind _ _ _ _ _ _ _, h_recv g tbk (by decide) so_1 (q := (RX0, TX0, 9)) rfl, h_pre _ hE hk hX hA hI hR g⟩ rfl rfl hl.1 rfl (lv_room (Nat.le_of_ble_eq_true rfl)) dX7_lineUp_35 ⟨Nat.le_of_ble_eq_true rfl, Nat.le_of_ble_eq_true rfl⟩) (fun rh12 h12 => ?_)
              obtain ⟨h12, h12p0⟩ := h12
              obtain ⟨rh12, rfl, trh12⟩ := h12
              refine xw_v (v := .ref rh12) rfl ?_
              rw [apl] at h12p0
              have rp : z.R pl v8.toInt.toNat = some rh12 := h12p0.symm
              have ap := h_ad.at rp
              refine lv_astore (lv' := [(4, .ref rh12), (0, .ref a0), (1, .int v7), (2, .int v2), (3, .int v8)]) hx hb dX7_lineUp_38 hl (by decide) rfl (fun ls hl => ?_)
              refine lv_aload hx hb dX7_lineUp_40 (lv_at hl 0 rfl) ?_
              refine lv_ifnull hx hb dX7_lineUp_42 ?_
              refine lv_aload hx hb dX7_lineUp_45 (lv_at hl 0 rfl) ?_
              refine h_get (v := .int (I9 rh12 0)) hx hb hts iX6 hown g trh12 (by decide) so_7 rfl 0 (by decide) (hts (.fieldLink RX7 83 "CapLeague$Player" "club" "I") (by decide +kernel)) rfl dX7_lineUp_47 rfl ?_
              refine lv_topi (fun v13 ev13 => ?_)
              have jv13 := hI.rd rh12 0 trh12 ev13 (rfl : h_bd 7 0 = ((-1), 7))
              have eC : CB v8.toInt.toNat = v13 := by rw [eCB]; unfold c_cb; rw [apl, ap, ev13]; exact (h_F.at hF trh12 rfl).symm
              refine lv_iload_n hx hb dX7_lineUp_50 rfl (lv_at hl 3 rfl) ?_
              refine lv_icmp_ne (tgt := 113) hx hb dX7_lineUp_51 (by decide) (fun c14 => ?_) (fun c14 => ?_)
              · have ic14 := (xi_ne c14 rfl rfl : v13.toInt ≠ v2.toInt)
                obtain ⟨v15, ev15⟩ : ∃ z : Int32, z = v8 + 1 := ⟨_, rfl⟩
                have jv15 : v15.toInt = v8.toInt + 1 := xi_add ev15 rfl (by decide) (by omega) (by omega)
                refine lv_iinc (v := v15) (lv' := [(3, .int v15), (4, .ref rh12), (0, .ref a0), (1, .int v7), (2, .int v2)]) hx hb dX7_lineUp_113 hl (k := 4) rfl (by rw [ev15]; rfl) (by decide) rfl (fun ls hl => ?_)
                refine lv_goto (tgt := 19) hx hb dX7_lineUp_116 (by decide) ?_
                exact ih19 I9 _ _ _ v7 v15 g hI hF (lv_sub hl [2, 3, 4, 0] rfl) (by omega) (by omega) (h_F.call (h_F.rf : h_F [(802, 999), (804, 999), (805, 999)] z I6 I6) hL19 rfl) (by rw [show (v15.toInt).toNat = v8.toInt.toNat + 1 by omega, q_ct_n (q_mc_n (by rw [eC]; omega))]; omega) (hx19_1.n (by rw [eC]; omega) (by omega : (v15.toInt).toNat = v8.toInt.toNat + 1)) (hx19_2) (by omega) (by omega)
              · have ic14 := (xi_eq c14 rfl rfl : v13.toInt = v2.toInt)
                have hcE : (CB v8.toInt.toNat).toInt = (((v2.toInt).toNat : Nat) : Int) := by rw [eC]; omega
                have pb := q_pos_b (cb := CB) (n := N) (p := v8.toInt.toNat) (by omega) hcE
                refine lv_iload_n hx hb dX7_lineUp_54 rfl (lv_at hl 2 rfl) ?_
                refine lv_aload_n hx hb dX7_lineUp_55 rfl (lv_at hl 1 rfl) ?_
                refine h_get (v := .ref ln) hx hb hts iX7 hown g t_a0 (by decide) so_8 rfl 2 (by decide) (hts (.fieldLink RX7 18 "CapLeague$RingSearch" "line" "[I") (by decide +kernel)) rfl dX7_lineUp_56 (by show va_rf (z.R a0 2) = _; rw [rln]; rfl) ?_
                refine h_alen (v := 60) hx hb g tln (by decide) (Or.inl so_802) rfl dX7_lineUp_59 ?_
                refine lv_icmp_ge (tgt := 113) hx hb dX7_lineUp_60 (by decide) (fun h => absurd (xi_le h (by decide) rfl : 60 ≤ v7.toInt) (by omega)) (fun c16 => ?_)
                have ic16 := (xi_nle c16 (by decide) rfl : v7.toInt < 60)
                refine lv_aload_n hx hb dX7_lineUp_63 rfl (lv_at hl 1 rfl) ?_
                refine h_get (v := .ref ln) hx hb hts iX7 hown g t_a0 (by decide) so_8 rfl 2 (by decide) (hts (.fieldLink RX7 18 "CapLeague$RingSearch" "line" "[I") (by decide +kernel)) rfl dX7_lineUp_64 (by show va_rf (z.R a0 2) = _; rw [rln]; rfl) ?_
                refine lv_iload_n hx hb dX7_lineUp_67 rfl (lv_at hl 2 rfl) ?_
                refine lv_iload_n hx hb dX7_lineUp_68 rfl (lv_at hl 4 rfl) ?_
                refine h_ast hx hb g tln (by decide) so_802 (xi_in (by omega) (by omega)) dX7_lineUp_69 (fun I17 H locs eI17 g => ?_)
                have hI := hI.wr eI17 tln (rfl : h_bd 802 _ = (0, 59)) (by omega) (by omega)
                have hF := hF.wr eI17 tln rfl
                refine lv_aload_n hx hb dX7_lineUp_70 rfl (lv_at hl 1 rfl) ?_
                refine h_get (v := .ref pa) hx hb hts iX7 hown g t_a0 (by decide) so_8 rfl 4 (by decide) (hts (.fieldLink RX7 25 "CapLeague$RingSearch" "pays" "[I") (by decide +kernel)) rfl dX7_lineUp_71 (by show va_rf (z.R a0 4) = _; rw [rpa]; rfl) ?_
                refine lv_iload_n hx hb dX7_lineUp_74 rfl (lv_at hl 4 rfl) ?_
                refine lv_aload hx hb dX7_lineUp_75 (lv_at hl 0 rfl) ?_
                refine lv_aload_n hx hb dX7_lineUp_77 rfl (lv_at hl 1 rfl) ?_
                refine h_get (v := .ref bk) hx hb hts iX7 hown g t_a0 (by decide) so_8 rfl 0 (by decide) (hts (.fieldLink RX7 48 "CapLeague$RingSearch" "books" "LCapLeague$Books;") (by decide +kernel)) rfl dX7_lineUp_78 (by show va_rf (z.R a0 0) = _; rw [rbk]; rfl) ?_
                refine h_get (v := .int f0_3) hx hb hts iX0 hown g tbk (by decide) so_1 rfl 3 (by decide) (hts (.fieldLink RX7 88 "CapLeague$Books" "clock" "I") (by decide +kernel)) rfl dX7_lineUp_81 (congrArg Value.int ((h_n1 eI17 tbk tln (by decide)).trans ((h_F.at hL19 tbk rfl).trans ((h_n1 eI6 tbk tst (by decide)).trans ((h_F.at hL4 tbk rfl).trans (ef0_3.symm)))))) ?_
                refine vp_callSi (W.runV (As := [.int f0_3]) (rest := [.int v8, .ref pa]) ⟨hx, hb, hml, hown, hts⟩ (tX6_payInB l E X A z I17 L0 rh12 trh12 f0_3 (f0_3.toInt) rfl) (cwV 1 hts gX7_lineUp_X6_payIn rfl rfl rfl (by decide +kernel) ⟨Nat.le_of_ble_eq_true rfl, Nat.le_of_ble_eq_true rfl⟩) ⟨h_blind _ _ _ _ _ _ _, h_recv g trh12 (by decide) so_7 (q := (RX6, TX6, 9)) rfl, h_pre _ hE hk hX hA hI hR g⟩ rfl rfl hl.1 rfl (lv_room (Nat.le_of_ble_eq_true rfl)) dX7_lineUp_84 ⟨Nat.le_of_ble_eq_true rfl, Nat.le_of_ble_eq_true rfl⟩) (fun rh18 h18 => ?_)
                have h18p0 := h18
                have jrh18 : -2147483648 ≤ rh18.toInt ∧ rh18.toInt ≤ 2147483647 := ⟨xi_lo _, Int.le_of_lt_add_one (xi_hi _)⟩
                have eP : PP v8.toInt.toNat = rh18 := by rw [ePP]; unfold c_pyp; rw [apl, ap, ← ef0_3, h18p0, show I17 rh12 0 = I0 rh12 0 from h_F.at hF trh12 rfl, show I17 rh12 1 = I0 rh12 1 from h_F.at hF trh12 rfl, show I17 rh12 2 = I0 rh12 2 from h_F.at hF trh12 rfl, show I17 rh12 3 = I0 rh12 3 from h_F.at hF trh12 rfl, show I17 rh12 4 = I0 rh12 4 from h_F.at hF trh12 rfl]
                refine h_ast hx hb g tpa (by decide) so_804 (xi_in (by omega) (by omega)) dX7_lineUp_87 (fun I19 H locs eI19 g => ?_)
                have hI := hI.wr eI19 tpa (rfl : h_bd 804 _ = ((-2147483648), 2147483647)) (xi_lo _) (Int.le_of_lt_add_one (xi_hi _))
                have hF := hF.wr eI19 tpa rfl
                refine lv_aload_n hx hb dX7_lineUp_88 rfl (lv_at hl 1 rfl) ?_
                refine h_get (v := .ref co) hx hb hts iX7 hown g t_a0 (by decide) so_8 rfl 5 (by decide) (hts (.fieldLink RX7 28 "CapLeague$RingSearch" "counts" "[I") (by decide +kernel)) rfl dX7_lineUp_89 (by show va_rf (z.R a0 5) = _; rw [rco]; rfl) ?_
                refine lv_iload_n hx hb dX7_lineUp_92 rfl (lv_at hl 4 rfl) ?_
                refine lv_aload_n hx hb dX7_lineUp_93 rfl (lv_at hl 1 rfl) ?_
                refine h_get (v := .ref bk) hx hb hts iX7 hown g t_a0 (by decide) so_8 rfl 0 (by decide) (hts (.fieldLink RX7 48 "CapLeague$RingSearch" "books" "LCapLeague$Books;") (by decide +kernel)) rfl dX7_lineUp_94 (by show va_rf (z.R a0 0) = _; rw [rbk]; rfl) ?_
                refine lv_aload hx hb dX7_lineUp_97 (lv_at hl 0 rfl) ?_
                refine lv_aload_n hx hb dX7_lineUp_99 rfl (lv_at hl 1 rfl) ?_
                refine h_get (v := .ref bk) hx hb hts iX7 hown g t_a0 (by decide) so_8 rfl 0 (by decide) (hts (.fieldLink RX7 48 "CapLeague$RingSearch" "books" "LCapLeague$Books;") (by decide +kernel)) rfl dX7_lineUp_100 (by show va_rf (z.R a0 0) = _; rw [rbk]; rfl) ?_
                refine h_get (v := .int f0_3) hx hb hts iX0 hown g tbk (by decide) so_1 rfl 3 (by decide) (hts (.fieldLink RX7 88 "CapLeague$Books" "clock" "I") (by decide +kernel)) rfl dX7_lineUp_103 (congrArg Value.int ((h_n1 eI19 tbk tpa (by decide)).trans ((h_n1 eI17 tbk tln (by decide)).trans ((h_F.at hL19 tbk rfl).trans ((h_n1 eI6 tbk tst (by decide)).trans ((h_F.at hL4 tbk rfl).trans (ef0_3.symm))))))) ?_
                refine vp_callSi (W.runV (As := [.ref rh12, .int f0_3]) (rest := [.int v8, .ref co]) ⟨hx, hb, hml, hown, hts⟩ (tX0_countOfB l E X A z I19 L0 bk tbk rh12 trh12 f0_3 (f0_3.toInt) rfl (u_) (by rw [alb, aun, atx, show I19 bk 3 = f0_3 from (h_n1 eI19 tbk tpa (by decide)).trans ((h_n1 eI17 tbk tln (by decide)).trans ((h_F.at hL19 tbk rfl).trans ((h_n1 eI6 tbk tst (by decide)).trans ((h_F.at hL4 tbk rfl).trans (ef0_3.symm)))))]; exact h_lwF hR hF (fun _ => rfl) (fun _ => rfl) (fun _ => rfl) ttx tun hcl) (hob)) (cwV 2 hts gX7_lineUp_X0_countOf rfl rfl rfl (by decide +kernel) ⟨Nat.le_of_ble_eq_true rfl, Nat.le_of_ble_eq_true rfl⟩) ⟨h_blind _ _ _ _ _ _ _, h_recv g tbk (by decide) so_1 (q := (RX0, TX0, 9)) rfl, h_pre _ hE hk hX hA hI hR g⟩ rfl rfl hl.1 rfl (lv_room (Nat.le_of_ble_eq_true rfl)) dX7_lineUp_106 ⟨Nat.le_of_ble_eq_true rfl, Nat.le_of_ble_eq_true rfl⟩) (fun rh20 h20 => ?_)
                have h20p0 := h20
                have jrh20 : -2147483648 ≤ rh20.toInt ∧ rh20.toInt ≤ 2147483647 := ⟨xi_lo _, Int.le_of_lt_add_one (xi_hi _)⟩
                have eQ : QQ v8.toInt.toNat = rh20 := by rw [eQQ]; unfold c_ctp; rw [apl, ap, ← ef0_3, h20p0, show I19 bk 3 = f0_3 from (h_n1 eI19 tbk tpa (by decide)).trans ((h_n1 eI17 tbk tln (by decide)).trans ((h_F.at hL19 tbk rfl).trans ((h_n1 eI6 tbk tst (by decide)).trans ((h_F.at hL4 tbk rfl).trans (ef0_3.symm))))), show I19 rh12 0 = I0 rh12 0 from h_F.at hF trh12 rfl, show I19 rh12 1 = I0 rh12 1 from h_F.at hF trh12 rfl, show I19 rh12 2 = I0 rh12 2 from h_F.at hF trh12 rfl, show I19 rh12 3 = I0 rh12 3 from h_F.at hF trh12 rfl, show I19 rh12 4 = I0 rh12 4 from h_F.at hF trh12 rfl, show I19 rh12 6 = I0 rh12 6 from h_F.at hF trh12 rfl, show I19 rh12 7 = I0 rh12 7 from h_F.at hF trh12 rfl]
                refine h_ast hx hb g tco (by decide) so_805 (xi_in (by omega) (by omega)) dX7_lineUp_109 (fun I21 H locs eI21 g => ?_)
                have hI := hI.wr eI21 tco (rfl : h_bd 805 _ = ((-2147483648), 2147483647)) (xi_lo _) (Int.le_of_lt_add_one (xi_hi _))
                have hF := hF.wr eI21 tco rfl
                obtain ⟨v22, ev22⟩ : ∃ z : Int32, z = v7 + 1 := ⟨_, rfl⟩
                have jv22 : v22.toInt = v7.toInt + 1 := xi_add ev22 rfl (by decide) (by omega) (by omega)
                refine lv_iinc (v := v22) (lv' := [(1, .int v22), (4, .ref rh12), (0, .ref a0), (2, .int v2), (3, .int v8)]) hx hb dX7_lineUp_110 hl (k := 2) rfl (by rw [ev22]; rfl) (by decide) rfl (fun ls hl => ?_)
                obtain ⟨v23, ev23⟩ : ∃ z : Int32, z = v8 + 1 := ⟨_, rfl⟩
                have jv23 : v23.toInt = v8.toInt + 1 := xi_add ev23 rfl (by decide) (by omega) (by omega)
                refine lv_iinc (v := v23) (lv' := [(3, .int v23), (1, .int v22), (4, .ref rh12), (0, .ref a0), (2, .int v2)]) hx hb dX7_lineUp_113 hl (k := 4) rfl (by rw [ev23]; rfl) (by decide) rfl (fun ls hl => ?_)
                refine lv_goto (tgt := 19) hx hb dX7_lineUp_116 (by decide) ?_
                exact ih19 I21 _ _ _ v22 v23 g hI hF (lv_sub hl [3, 1, 4, 0] rfl) (by omega) (by omega) (h_F.wr (h_F.wr (h_F.wr (h_F.call (h_F.rf : h_F [(802, 999), (804, 999), (805, 999)] z I6 I6) hL19 rfl) eI17 tln rfl) eI19 tpa rfl) eI21 tco rfl) (by rw [show (v23.toInt).toNat = v8.toInt.toNat + 1 by omega, q_ct_y (q_mc_y hcE)]; omega) (hx19_1.s (by omega) hcE (by omega : (v23.toInt).toNat = v8.toInt.toNat + 1) (x := v8) (by omega) (fun j => (h_n1 eI21 tln tco (by decide)).trans ((h_n1 eI19 tln tpa (by decide)).trans (h_wif eI17 kf j))) (by rw [eP]; exact fun j => (h_n1 eI21 tpa tco (by decide)).trans ((h_wif eI19 kv j).trans (by rw [h_n1 eI17 tpa tln (by decide)]))) (by rw [eQ]; exact fun j => (h_wif eI21 kv j).trans (by rw [(h_n1 eI19 tco tpa (by decide)).trans (h_n1 eI17 tco tln (by decide))]))) (hx19_2.c (fun k => (h_n1 eI21 tst tco (by decide)).trans ((h_n1 eI19 tst tpa (by decide)).trans (h_n1 eI17 tst tln (by decide))))) (by omega) (by omega)
        have kc24 : (0 : Int32).toInt = 0 := by decide
        exact loop19_1 _ I6 _ _ _ v1 (0) g hI hF (lv_sub hl [1, 2, 3, 0] rfl) (by omega) ⟨by decide, by decide⟩ (h_F.rf : h_F [(802, 999), (804, 999), (805, 999)] z I6 I6) (by show _ = ((q_sp CB N (v2.toInt).toNat + q_ct _ 0 : Nat) : Int); have h9 := hx4_0; show _ = ((q_sp CB N (v2.toInt).toNat + 0 : Nat) : Int); omega) ((hx4_1.c (fun k => h_n1 eI6 tln tst (by decide)) (fun k => h_n1 eI6 tpa tst (by decide)) (fun k => h_n1 eI6 tco tst (by decide)))) (hx4_2.s rfl (x := v1) (by omega) (fun j => h_wif eI6 k2 j)) (by omega) (show (60 - (0 : Int)) < (((60 - (0 : Int)).toNat + 1 : Nat) : Int) by omega)
  have kc25 : (0 : Int32).toInt = 0 := by decide
  have kc26 : (0 : Int32).toInt = 0 := by decide
  exact loop4_0 _ I0 _ _ _ (0) (0) g hI hF (lv_sub hl [2, 1, 0] rfl) ⟨by decide, by decide⟩ ⟨by decide, by decide⟩ (h_F.rf : h_F [(803, 999), (802, 999), (804, 999), (805, 999)] z I0 I0) (by show (0 : Int32).toInt = ((0 : Nat) : Int); decide) (c_lq.z) (fun d hd => absurd hd (Nat.not_lt_zero d)) (show (8 - (0 : Int)) < (((8 - (0 : Int)).toNat + 1 : Nat) : Int) by omega)

