set_option maxHeartbeats 4000000 in
set_option maxRecDepth 100000 in
theorem tX2_isDrawnF (l : Launch) (E : tE) (X : tX) (A : Nat → Prop) (z : tZ) (I0 : tI) (L0 : tL) (a0 : Nat) (t_a0 : z.ty a0 = 3) (y : Int32) (y_t : Int) (h_y : y.toInt = y_t) : Met l yX2_isDrawn wsX2_isDrawn ({ frames := 2, cells := 0, slots := 0, locals := 128 }) (va_Pc [.ref a0, .int y] (h_P E X A z I0 L0)) (vp_Si (fun r => (0 ≤ r.toInt ∧ r.toInt ≤ 1) ∧ ((0 ≤ y_t ∧ y_t ≤ 9 ∧ r.toInt = (I0 (h_ad z a0 2) y_t.toNat).toInt) ∨ (¬ (0 ≤ y_t ∧ y_t ≤ 9) ∧ r.toInt = 0)))) 0 0 (fun _ => False) := by
  refine Met.ofW (cc := cX2_isDrawn) (maxL := 2) (ret := (some .boolean)) (by decide) rfl ?_
  intro pr_ ev_ s m args below meth cd_ s₁ B hml hv
  obtain ⟨rfl, hE, hk, hX, hA, hK, hI, hR, hB0⟩ := hv
  have g : h_G h_so h_fk E A z I0 L0 s s.heap s.heap [] := ⟨hK, va_S.rf, hB0⟩
  have hx := B.exec
  have hb := B.bytes
  have hr := B.returns
  have hts := atoms_spec (ws := wsX2_isDrawn) B.pre
  have hown : s.vm.findClass RX2 = some m.cls := findClass_of_methodNamed B.named
  have hlocks := B.notSynchronized
  have iX2 : ∀ w ∈ u_ws RX2 TX2 7, w ∈ wsX2_isDrawn := by decide +kernel
  have hl := lv_entry ([.ref a0, .int y]) (n := 2) (Nat.le_of_ble_eq_true rfl)
  rw [lg_entry_eq]
  generalize (lg_sl ([.ref a0, .int y]) ++ List.replicate (2 - (lg_sl ([.ref a0, .int y])).length) Slot.unset).toArray = ls at hl ⊢
  have hl : lv_has ls 2 [(0, .ref a0), (1, .int y)] := hl
  have b_y : -2147483648 ≤ y_t ∧ y_t ≤ 2147483647 := h_y ▸ ⟨xi_lo y, Int.le_of_lt_add_one (xi_hi y)⟩
  obtain ⟨dr, rdr, tdr⟩ := hR.at a0 2 t_a0 (rfl : h_rs 3 2 = some (302, false)) (by decide)
  have adr : h_ad z a0 2 = dr := h_ad.at rdr
  refine lv_iload_n hx hb dX2_isDrawn_0 rfl (lv_at hl 1 rfl) ?_
  refine vp_callSi (xr_of (va_runSN (As := [.int y]) (rest := []) ⟨hx, hb, hml, hown, hts⟩ (tX11_isYear l E X A z I0 L0 y (y_t) h_y) (⟨va_cnB 1 hts gX2_isDrawn_X11_isYear_n31 rfl rfl rfl (hE.link 10 rfl) (hts (.initialized RX11) (by decide +kernel)) (by decide +kernel) ⟨Nat.le_of_ble_eq_true rfl, Nat.le_of_ble_eq_true rfl⟩, hts (.static yX11_isYear) (by decide +kernel), trivial⟩) ⟨h_blind _ _ _ _ _ _ _, h_pre _ hE hk hX hA hI hR g⟩ rfl rfl hl.1 rfl (lv_room (Nat.le_of_ble_eq_true rfl)) dX2_isDrawn_1 ⟨Nat.le_of_ble_eq_true rfl, Nat.le_of_ble_eq_true rfl⟩)) (fun rh1 h1 => ?_)
  rcases h1 with ⟨rfl, h1⟩ | ⟨rfl, h1⟩
  · skip
    refine lv_if_eq (tgt := 20) hx hb dX2_isDrawn_4 (by decide) (fun _ => ?_) (fun h => absurd (by decide) h)
    refine lv_iconst (v := 0) hx hb dX2_isDrawn_20 (by decide) ?_
    exact W.zret (v := 0) hx hb hr (by decide) (fun t ht hW => ⟨0, rfl, ⟨⟨(by decide), (by decide)⟩, (Or.inr ⟨by omega, by decide⟩)⟩, ht⟩) (fun _ h => by cases h) dX2_isDrawn_21
  · skip
    refine lv_if_eq (tgt := 20) hx hb dX2_isDrawn_4 (by decide) (fun h => absurd h (by decide)) (fun _ => ?_)
    refine lv_aload_n hx hb dX2_isDrawn_7 rfl (lv_at hl 0 rfl) ?_
    refine h_get (v := .ref dr) hx hb hts iX2 hown g t_a0 (by decide) so_3 rfl 2 (by decide) (hts (.fieldLink RX2 15 "CapLeague$Draft" "drawn" "[Z") (by decide +kernel)) rfl dX2_isDrawn_8 (by show va_rf (z.R a0 2) = _; rw [rdr]; rfl) ?_
    refine lv_iload_n hx hb dX2_isDrawn_11 rfl (lv_at hl 1 rfl) ?_
    refine h_zald hx hb g tdr (by decide) so_302 (xi_in (by rw [h_y]; omega) (by rw [h_y]; omega)) dX2_isDrawn_12 ?_
    refine lv_topi (fun v4 ev4 => ?_)
    have jv4 := hI.rd dr y.toNatClampNeg tdr ev4 (rfl : h_bd 302 _ = (0, 1))
    refine lv_if_eq (tgt := 20) hx hb dX2_isDrawn_13 (by decide) (fun c5 => ?_) (fun c5 => ?_)
    · have ic5 := (xi_eq c5 rfl (by decide) : v4.toInt = 0)
      refine lv_iconst (v := 0) hx hb dX2_isDrawn_20 (by decide) ?_
      exact W.zret (v := 0) hx hb hr (by decide) (fun t ht hW => ⟨0, rfl, ⟨⟨(by decide), (by decide)⟩, (by rw [adr, ← h_keq (i := y) (t := y_t) (k := y_t.toNat) h_y (by omega) (by omega), ← ev4]; exact Or.inl ⟨by omega, by omega, by rw [show (0 : Int32).toInt = 0 by decide]; omega⟩)⟩, ht⟩) (fun _ h => by cases h) dX2_isDrawn_21
    · have ic5 := (xi_ne c5 rfl (by decide) : v4.toInt ≠ 0)
      refine lv_iconst (v := 1) hx hb dX2_isDrawn_16 (by decide) ?_
      refine lv_goto (tgt := 21) hx hb dX2_isDrawn_17 (by decide) ?_
      exact W.zret (v := 1) hx hb hr (by decide) (fun t ht hW => ⟨1, rfl, ⟨⟨(by decide), (by decide)⟩, (by rw [adr, ← h_keq (i := y) (t := y_t) (k := y_t.toNat) h_y (by omega) (by omega), ← ev4]; exact Or.inl ⟨by omega, by omega, by rw [show (1 : Int32).toInt = 1 by decide]; omega⟩)⟩, ht⟩) (fun _ h => by cases h) dX2_isDrawn_21
set_option maxHeartbeats 4000000 in
set_option maxRecDepth 100000 in
theorem tX0_lawsNowF (l : Launch) (E : tE) (X : tX) (A : Nat → Prop) (z : tZ) (I0 : tI) (L0 : tL) (a0 : Nat) (t_a0 : z.ty a0 = 1) : Met l yX0_lawsNow wsX0_lawsNow ({ frames := 2, cells := 0, slots := 0, locals := 128 }) (va_Pc [.ref a0] (h_P E X A z I0 L0)) (va_Sq (fun r => (∃ b, r = some b ∧ z.ty b = 6) ∧ (∃ b, r = some b ∧ h_of (z.R (h_ad z (h_ad z a0 0) 1)) (h_ad z (h_ad z a0 0) 0) (I0 a0 3).toInt b))) 0 0 (fun _ => False) := by
  refine Met.ofW (cc := cX0_lawsNow) (maxL := 1) (ret := (some (.object "CapLeague$Laws"))) (by decide) rfl ?_
  intro pr_ ev_ s m args below meth cd_ s₁ B hml hv
  obtain ⟨rfl, hE, hk, hX, hA, hK, hI, hR, hB0⟩ := hv
  have g : h_G h_so h_fk E A z I0 L0 s s.heap s.heap [] := ⟨hK, va_S.rf, hB0⟩
  have hx := B.exec
  have hb := B.bytes
  have hr := B.returns
  have hts := atoms_spec (ws := wsX0_lawsNow) B.pre
  have hown : s.vm.findClass RX0 = some m.cls := findClass_of_methodNamed B.named
  have hlocks := B.notSynchronized
  have iX0 : ∀ w ∈ u_ws RX0 TX0 9, w ∈ wsX0_lawsNow := by decide +kernel
  have hl := lv_entry ([.ref a0]) (n := 1) (Nat.le_of_ble_eq_true rfl)
  rw [lg_entry_eq]
  generalize (lg_sl ([.ref a0]) ++ List.replicate (1 - (lg_sl ([.ref a0])).length) Slot.unset).toArray = ls at hl ⊢
  have hl : lv_has ls 1 [(0, .ref a0)] := hl
  obtain ⟨lb, rlb, tlb⟩ := hR.at a0 0 t_a0 (rfl : h_rs 1 0 = some (4, false)) (by decide)
  have alb : h_ad z a0 0 = lb := h_ad.at rlb
  obtain ⟨un, run, tun⟩ := hR.at lb 0 tlb (rfl : h_rs 4 0 = some (6, false)) (by decide)
  have aun : h_ad z lb 0 = un := h_ad.at run
  obtain ⟨tx, rtx, ttx⟩ := hR.at lb 1 tlb (rfl : h_rs 4 1 = some (401, false)) (by decide)
  have atx : h_ad z lb 1 = tx := h_ad.at rtx
  obtain ⟨f0_3, ef0_3⟩ : ∃ v : Int32, v = I0 a0 3 := ⟨_, rfl⟩
  have qf0_3 : (I0 a0 3).toInt = f0_3.toInt := congrArg Int32.toInt ef0_3.symm
  have jf0_3 := hI.rd a0 3 t_a0 ef0_3 (rfl : h_bd 1 3 = (0, 9))
  refine lv_aload_n hx hb dX0_lawsNow_0 rfl (lv_at hl 0 rfl) ?_
  refine h_get (v := .ref lb) hx hb hts iX0 hown g t_a0 (by decide) so_1 rfl 0 (by decide) (hts (.fieldLink RX0 33 "CapLeague$Books" "lawBook" "LCapLeague$LawBook;") (by decide +kernel)) rfl dX0_lawsNow_1 (by show va_rf (z.R a0 0) = _; rw [rlb]; rfl) ?_
  refine lv_aload_n hx hb dX0_lawsNow_4 rfl (lv_at hl 0 rfl) ?_
  refine h_get (v := .int f0_3) hx hb hts iX0 hown g t_a0 (by decide) so_1 rfl 3 (by decide) (hts (.fieldLink RX0 37 "CapLeague$Books" "clock" "I") (by decide +kernel)) rfl dX0_lawsNow_5 (congrArg Value.int (ef0_3.symm)) ?_
  refine va_csq (W.runV (As := [.int f0_3]) (rest := []) ⟨hx, hb, hml, hown, hts⟩ (tX3_ofF l E X A z I0 L0 lb tlb f0_3 (f0_3.toInt) rfl) (cwV 1 hts gX0_lawsNow_X3_of rfl rfl rfl (by decide +kernel) ⟨Nat.le_of_ble_eq_true rfl, Nat.le_of_ble_eq_true rfl⟩) ⟨h_blind _ _ _ _ _ _ _, h_recv g tlb (by decide) so_4 (q := (RX3, TX3, 2)) rfl, h_pre _ hE hk hX hA hI hR g⟩ rfl rfl hl.1 rfl (lv_room (Nat.le_of_ble_eq_true rfl)) dX0_lawsNow_8 ⟨Nat.le_of_ble_eq_true rfl, Nat.le_of_ble_eq_true rfl⟩) (fun rh1 h1 => ?_)
  obtain ⟨h1, h1p0⟩ := h1
  obtain ⟨rh1, rfl, trh1⟩ := h1
  refine xw_v (v := .ref rh1) rfl ?_
  rw [aun, atx] at h1p0
  have hofN := h1p0
  exact W.aret (v := .ref rh1) hx hb hr (Or.inl ⟨_, rfl⟩) (Or.inr ⟨_, rfl⟩) (fun t ht hW => ⟨some rh1, rfl, ⟨⟨rh1, rfl, trh1⟩, (by rw [alb, aun, atx, qf0_3]; exact hofN)⟩, ht⟩) (fun _ h => by cases h) dX0_lawsNow_11
set_option maxHeartbeats 4000000 in
set_option maxRecDepth 100000 in
theorem tX11_tableX (l : Launch) (E : tE) (X : tX) (A : Nat → Prop) (z : tZ) (I0 : tI) (L0 : tL) (a0 : Nat) (t_a0 : z.ty a0 = 12) : Met l yX11_table wsX11_table ({ frames := 3, cells := 0, slots := 0, locals := 192 }) (va_Pc [.ref a0] (h_P E X A z I0 L0)) (va_Qi (fun r (I1 : tI) => h_I z I1 ∧ h_F [(300, 999), (3, 1), (9, 1)] z I0 I1 ∧ ((¬ h_istab (q_at (I0 (h_ad z (h_ad z a0 0) 0)) (I0 (h_ad z a0 0) 1).toInt) (I0 (h_ad z a0 0) 1).toInt ∧ r.toInt = -1 ∧ (∀ k : Nat, I1 (h_ad z (h_ad z a0 7) 0) k = I0 (h_ad z (h_ad z a0 7) 0) k) ∧ I1 (h_ad z a0 7) 1 = I0 (h_ad z a0 7) 1) ∨ (h_istab (q_at (I0 (h_ad z (h_ad z a0 0) 0)) (I0 (h_ad z a0 0) 1).toInt) (I0 (h_ad z a0 0) 1).toInt ∧ (I0 (h_ad z (h_ad z a0 7) 2) ((I0 (h_ad z a0 3) 3).toInt).toNat).toInt = 1 ∧ r.toInt = -4 ∧ (∀ k : Nat, I1 (h_ad z (h_ad z a0 7) 0) k = I0 (h_ad z (h_ad z a0 7) 0) k) ∧ I1 (h_ad z a0 7) 1 = I0 (h_ad z a0 7) 1) ∨ (h_istab (q_at (I0 (h_ad z (h_ad z a0 0) 0)) (I0 (h_ad z a0 0) 1).toInt) (I0 (h_ad z a0 0) 1).toInt ∧ (I0 (h_ad z (h_ad z a0 7) 2) ((I0 (h_ad z a0 3) 3).toInt).toNat).toInt = 0 ∧ r.toInt = 1 ∧ (∀ j : Nat, j < 8 → (I1 (h_ad z (h_ad z a0 7) 0) j).toInt = (q_at (I0 (h_ad z (h_ad z a0 0) 0)) (I0 (h_ad z a0 0) 1).toInt) j - 65) ∧ I1 (h_ad z a0 7) 1 = 1)) ∧ ((I1 (h_ad z a0 0) 1).toInt = 0)) (fun (I1 : tI) t => h_B E A z I1 L0 t) A) 0 0 A := by
  refine Met.ofW (cc := cX11_table) (maxL := 3) (ret := (some .int)) (by decide) rfl ?_
  intro pr_ ev_ s m args below meth cd_ s₁ B hml hv
  obtain ⟨rfl, hE, hk, hX, hA, hK, hI, hR, hB0⟩ := hv
  have g : h_G h_so h_fk E A z I0 L0 s s.heap s.heap [] := ⟨hK, va_S.rf, hB0⟩
  have hF : h_F [(300, 999), (3, 1), (9, 1)] z I0 I0 := h_F.rf
  have hx := B.exec
  have hb := B.bytes
  have hr := B.returns
  have hts := atoms_spec (ws := wsX11_table) B.pre
  have hown : s.vm.findClass RX11 = some m.cls := findClass_of_methodNamed B.named
  have hlocks := B.notSynchronized
  have iX11 : ∀ w ∈ u_ws RX11 TX11 8, w ∈ wsX11_table := by decide +kernel
  have iX0 : ∀ w ∈ u_ws RX0 TX0 9, w ∈ wsX11_table := by decide +kernel
  have iX8 : ∀ w ∈ u_ws RX8 TX8 2, w ∈ wsX11_table := by decide +kernel
  have hl := lv_entry ([.ref a0]) (n := 3) (Nat.le_of_ble_eq_true rfl)
  rw [lg_entry_eq]
  generalize (lg_sl ([.ref a0]) ++ List.replicate (3 - (lg_sl ([.ref a0])).length) Slot.unset).toArray = ls at hl ⊢
  have hl : lv_has ls 3 [(0, .ref a0)] := hl
  obtain ⟨tp, rtp, ttp⟩ := hR.at a0 0 t_a0 (rfl : h_rs 12 0 = some (9, false)) (by decide)
  have atp : h_ad z a0 0 = tp := h_ad.at rtp
  obtain ⟨bt, rbt, tbt⟩ := hR.at tp 0 ttp (rfl : h_rs 9 0 = some (900, false)) (by decide)
  have abt : h_ad z tp 0 = bt := h_ad.at rbt
  obtain ⟨bk, rbk, tbk⟩ := hR.at a0 3 t_a0 (rfl : h_rs 12 3 = some (1, false)) (by decide)
  have abk : h_ad z a0 3 = bk := h_ad.at rbk
  obtain ⟨dt, rdt, tdt⟩ := hR.at a0 7 t_a0 (rfl : h_rs 12 7 = some (3, false)) (by decide)
  have adt : h_ad z a0 7 = dt := h_ad.at rdt
  obtain ⟨dr, rdr, tdr⟩ := hR.at dt 2 tdt (rfl : h_rs 3 2 = some (302, false)) (by decide)
  have adr : h_ad z dt 2 = dr := h_ad.at rdr
  obtain ⟨rk, rrk, trk⟩ := hR.at dt 0 tdt (rfl : h_rs 3 0 = some (300, false)) (by decide)
  have ark : h_ad z dt 0 = rk := h_ad.at rrk
  obtain ⟨t0_1, et0_1⟩ : ∃ v : Int32, v = I0 tp 1 := ⟨_, rfl⟩
  have qt0_1 : (I0 tp 1).toInt = t0_1.toInt := congrArg Int32.toInt et0_1.symm
  have jt0_1 := hI.rd tp 1 ttp et0_1 (rfl : h_bd 9 1 = (0, 500))
  obtain ⟨f0_3, ef0_3⟩ : ∃ v : Int32, v = I0 bk 3 := ⟨_, rfl⟩
  have qf0_3 : (I0 bk 3).toInt = f0_3.toInt := congrArg Int32.toInt ef0_3.symm
  have jf0_3 := hI.rd bk 3 tbk ef0_3 (rfl : h_bd 1 3 = (0, 9))
  obtain ⟨d0_1, ed0_1⟩ : ∃ v : Int32, v = I0 dt 1 := ⟨_, rfl⟩
  have qd0_1 : (I0 dt 1).toInt = d0_1.toInt := congrArg Int32.toInt ed0_1.symm
  have jd0_1 := hI.rd dt 1 tdt ed0_1 (rfl : h_bd 3 1 = (0, 1))
  obtain ⟨gb, egb⟩ : ∃ g : Int → Int, g = q_at (I0 bt) (I0 tp 1).toInt := ⟨_, rfl⟩
  refine lv_aload_n hx hb dX11_table_0 rfl (lv_at hl 0 rfl) ?_
  refine h_get (v := .ref tp) hx hb hts iX11 hown g t_a0 (by decide) so_12 rfl 0 (by decide) (hts (.fieldLink RX11 10 "CapLeague" "tape" "LCapLeague$Tape;") (by decide +kernel)) rfl dX11_table_1 (by show va_rf (z.R a0 0) = _; rw [rtp]; rfl) ?_
  refine vp_callSi (W.runS (As := [.ref tp]) (rest := []) ⟨hx, hb, hml, hown, hts⟩ (tX2_isTableF l E X A z I0 L0 tp ttp) (va_cwS 1 hts gX11_table_X2_isTable rfl rfl rfl (by decide +kernel) ⟨Nat.le_of_ble_eq_true rfl, Nat.le_of_ble_eq_true rfl⟩) ⟨h_blind _ _ _ _ _ _ _, h_pre _ hE hk hX hA hI hR g⟩ rfl rfl hl.1 rfl (lv_room (Nat.le_of_ble_eq_true rfl)) dX11_table_4 ⟨Nat.le_of_ble_eq_true rfl, Nat.le_of_ble_eq_true rfl⟩) (fun rh1 h1 => ?_)
  obtain ⟨h1, h1p0⟩ := h1
  rw [abt, ← egb] at h1p0
  refine lv_istore_n (lv' := [(1, .int rh1), (0, .ref a0)]) hx hb dX11_table_7 rfl hl (by decide) rfl (fun ls hl => ?_)
  refine lv_iconst (v := (-1)) hx hb dX11_table_8 (by decide) ?_
  refine lv_istore_n (lv' := [(2, .int (-1)), (1, .int rh1), (0, .ref a0)]) hx hb dX11_table_9 rfl hl (by decide) rfl (fun ls hl => ?_)
  refine lv_iload_n hx hb dX11_table_10 rfl (lv_at hl 1 rfl) ?_
  refine lv_if_eq (tgt := 37) hx hb dX11_table_11 (by decide) (fun c2 => ?_) (fun c2 => ?_)
  · have ic2 := (xi_eq c2 rfl (by decide) : rh1.toInt = 0)
    refine lv_iload_n hx hb dX11_table_37 rfl (lv_at hl 1 rfl) ?_
    refine lv_if_eq (tgt := 54) hx hb dX11_table_38 (by decide) (fun c3 => ?_) (fun h => absurd (xi_ne h rfl (by decide) : rh1.toInt ≠ 0) (by omega))
    have ic3 := (xi_eq c3 rfl (by decide) : rh1.toInt = 0)
    refine lv_aload_n hx hb dX11_table_54 rfl (lv_at hl 2 rfl) ?_
    refine h_get (v := .ref tp) hx hb hts iX11 hown g t_a0 (by decide) so_12 rfl 0 (by decide) (hts (.fieldLink RX11 10 "CapLeague" "tape" "LCapLeague$Tape;") (by decide +kernel)) rfl dX11_table_55 (by show va_rf (z.R a0 0) = _; rw [rtp]; rfl) ?_
    refine lv_iconst (v := 0) hx hb dX11_table_58 (by decide) ?_
    refine h_putI (ty := .int) (v := 0) hx hb hts iX8 tyX8 tyX8_ok nmX8 hown g ttp (by decide) so_9 rfl 1 (by decide) rfl (hts (.fieldLink RX11 81 "CapLeague$Tape" "size" "I") (by decide +kernel)) rfl rfl (by decide +kernel) rfl rfl dX11_table_59 (fun I4 H locs eI4 g => ?_)
    have hI := hI.wr eI4 ttp (rfl : h_bd 9 1 = (0, 500)) (by decide) (by decide)
    have hF := hF.wr eI4 ttp rfl
    refine lv_iload_n hx hb dX11_table_62 rfl (lv_at hl 0 rfl) ?_
    have hS := g.2.1
    exact W.iret (v := (-1)) hx hb hr (fun t ht hW => ⟨⟨(-1), I4, rfl, ⟨hI, hF, ⟨(by rw [atp, abt, abk, adt, adr, ark, qf0_3, ← egb]; exact Or.inl ⟨(by rcases h1p0 with q | q; exact absurd q.1 (by omega); exact q.2), by decide, (fun k => h_n1 eI4 trk ttp (by decide)), h_n1 eI4 tdt ttp (by decide)⟩), (by rw [atp, h_n0 eI4]; decide)⟩⟩, h_ret g ht⟩, hS.F ht⟩) hS.2.2 dX11_table_63
  · have ic2 := (xi_ne c2 rfl (by decide) : rh1.toInt ≠ 0)
    refine lv_aload_n hx hb dX11_table_14 rfl (lv_at hl 2 rfl) ?_
    refine h_get (v := .ref dt) hx hb hts iX11 hown g t_a0 (by decide) so_12 rfl 7 (by decide) (hts (.fieldLink RX11 69 "CapLeague" "draft" "LCapLeague$Draft;") (by decide +kernel)) rfl dX11_table_15 (by show va_rf (z.R a0 7) = _; rw [rdt]; rfl) ?_
    refine lv_aload_n hx hb dX11_table_18 rfl (lv_at hl 2 rfl) ?_
    refine h_get (v := .ref bk) hx hb hts iX11 hown g t_a0 (by decide) so_12 rfl 3 (by decide) (hts (.fieldLink RX11 37 "CapLeague" "books" "LCapLeague$Books;") (by decide +kernel)) rfl dX11_table_19 (by show va_rf (z.R a0 3) = _; rw [rbk]; rfl) ?_
    refine h_get (v := .int f0_3) hx hb hts iX0 hown g tbk (by decide) so_1 rfl 3 (by decide) (hts (.fieldLink RX11 142 "CapLeague$Books" "clock" "I") (by decide +kernel)) rfl dX11_table_22 (congrArg Value.int (ef0_3.symm)) ?_
    refine vp_callSi (W.runV (As := [.int f0_3]) (rest := []) ⟨hx, hb, hml, hown, hts⟩ (tX2_isDrawnF l E X A z I0 L0 dt tdt f0_3 (f0_3.toInt) rfl) (cwV 1 hts gX11_table_X2_isDrawn rfl rfl rfl (by decide +kernel) ⟨Nat.le_of_ble_eq_true rfl, Nat.le_of_ble_eq_true rfl⟩) ⟨h_blind _ _ _ _ _ _ _, h_recv g tdt (by decide) so_3 (q := (RX2, TX2, 7)) rfl, h_pre _ hE hk hX hA hI hR g⟩ rfl rfl hl.1 rfl (lv_room (Nat.le_of_ble_eq_true rfl)) dX11_table_25 ⟨Nat.le_of_ble_eq_true rfl, Nat.le_of_ble_eq_true rfl⟩) (fun rh5 h5 => ?_)
    obtain ⟨h5, h5p0⟩ := h5
    rw [adr] at h5p0
    refine lv_if_eq (tgt := 37) hx hb dX11_table_28 (by decide) (fun c6 => ?_) (fun c6 => ?_)
    · have ic6 := (xi_eq c6 rfl (by decide) : rh5.toInt = 0)
      refine lv_iload_n hx hb dX11_table_37 rfl (lv_at hl 1 rfl) ?_
      refine lv_if_eq (tgt := 54) hx hb dX11_table_38 (by decide) (fun h => absurd (xi_eq h rfl (by decide) : rh1.toInt = 0) (by omega)) (fun c7 => ?_)
      have ic7 := (xi_ne c7 rfl (by decide) : rh1.toInt ≠ 0)
      refine lv_aload_n hx hb dX11_table_41 rfl (lv_at hl 2 rfl) ?_
      refine h_get (v := .ref dt) hx hb hts iX11 hown g t_a0 (by decide) so_12 rfl 7 (by decide) (hts (.fieldLink RX11 69 "CapLeague" "draft" "LCapLeague$Draft;") (by decide +kernel)) rfl dX11_table_42 (by show va_rf (z.R a0 7) = _; rw [rdt]; rfl) ?_
      refine lv_aload_n hx hb dX11_table_45 rfl (lv_at hl 2 rfl) ?_
      refine h_get (v := .ref tp) hx hb hts iX11 hown g t_a0 (by decide) so_12 rfl 0 (by decide) (hts (.fieldLink RX11 10 "CapLeague" "tape" "LCapLeague$Tape;") (by decide +kernel)) rfl dX11_table_46 (by show va_rf (z.R a0 0) = _; rw [rtp]; rfl) ?_
      refine va_callv (va_runV (As := [.ref tp]) (rest := []) ⟨hx, hb, hml, hown, hts⟩ (tX2_tellTableF l E X A z I0 L0 dt tdt tp ttp) (cwV 1 hts gX11_table_X2_tellTable rfl rfl rfl (by decide +kernel) ⟨Nat.le_of_ble_eq_true rfl, Nat.le_of_ble_eq_true rfl⟩) ⟨h_blind _ _ _ _ _ _ _, h_recv g tdt (by decide) so_3 (q := (RX2, TX2, 7)) rfl, h_pre _ hE hk hX hA hI hR g⟩ rfl rfl hl.1 rfl (lv_room (Nat.le_of_ble_eq_true rfl)) dX11_table_49 ⟨Nat.le_of_ble_eq_true rfl, Nat.le_of_ble_eq_true rfl⟩) g.2.1 (fun q _ h => h) (fun q h => h) (fun I9 t H1 locs ht hvm h8 hB hz1 hk1 hS => ?_)
      obtain ⟨hI, fh8, h8⟩ := h8
      replace g := h_after g hB ht hS
      generalize H1 = H at g
      clear hB hk1 hz1 ht hvm hS
      have hF := hF.call fh8 rfl
      obtain ⟨h8p0, h8p1⟩ := h8
      rw [ark, abt, ← egb] at h8p0
      refine lv_iconst (v := 1) hx hb dX11_table_52 (by decide) ?_
      refine lv_istore_n (lv' := [(2, .int 1), (1, .int rh1), (0, .ref a0)]) hx hb dX11_table_53 rfl hl (by decide) rfl (fun ls hl => ?_)
      refine lv_aload_n hx hb dX11_table_54 rfl (lv_at hl 2 rfl) ?_
      refine h_get (v := .ref tp) hx hb hts iX11 hown g t_a0 (by decide) so_12 rfl 0 (by decide) (hts (.fieldLink RX11 10 "CapLeague" "tape" "LCapLeague$Tape;") (by decide +kernel)) rfl dX11_table_55 (by show va_rf (z.R a0 0) = _; rw [rtp]; rfl) ?_
      refine lv_iconst (v := 0) hx hb dX11_table_58 (by decide) ?_
      refine h_putI (ty := .int) (v := 0) hx hb hts iX8 tyX8 tyX8_ok nmX8 hown g ttp (by decide) so_9 rfl 1 (by decide) rfl (hts (.fieldLink RX11 81 "CapLeague$Tape" "size" "I") (by decide +kernel)) rfl rfl (by decide +kernel) rfl rfl dX11_table_59 (fun I10 H locs eI10 g => ?_)
      have hI := hI.wr eI10 ttp (rfl : h_bd 9 1 = (0, 500)) (by decide) (by decide)
      have hF := hF.wr eI10 ttp rfl
      refine lv_iload_n hx hb dX11_table_62 rfl (lv_at hl 0 rfl) ?_
      have hS := g.2.1
      exact W.iret (v := 1) hx hb hr (fun t ht hW => ⟨⟨1, I10, rfl, ⟨hI, hF, ⟨(by rw [atp, abt, abk, adt, adr, ark, qf0_3, ← egb]; exact Or.inr (Or.inr ⟨(by rcases h1p0 with q | q; exact q.2; exact absurd q.1 (by omega)), (by rcases h5p0 with q | q; omega; omega), by decide, (fun j hj => by rw [h_n1 eI10 trk ttp (by decide)]; exact h8p0 j hj), (h_n1 eI10 tdt ttp (by decide)).trans h8p1⟩)), (by rw [atp, h_n0 eI10]; decide)⟩⟩, h_ret g ht⟩, hS.F ht⟩) hS.2.2 dX11_table_63
    · have ic6 := (xi_ne c6 rfl (by decide) : rh5.toInt ≠ 0)
      refine lv_bipush (v := (-4)) hx hb dX11_table_31 (by decide) ?_
      refine lv_istore_n (lv' := [(2, .int (-4)), (1, .int rh1), (0, .ref a0)]) hx hb dX11_table_33 rfl hl (by decide) rfl (fun ls hl => ?_)
      refine lv_goto (tgt := 54) hx hb dX11_table_34 (by decide) ?_
      refine lv_aload_n hx hb dX11_table_54 rfl (lv_at hl 2 rfl) ?_
      refine h_get (v := .ref tp) hx hb hts iX11 hown g t_a0 (by decide) so_12 rfl 0 (by decide) (hts (.fieldLink RX11 10 "CapLeague" "tape" "LCapLeague$Tape;") (by decide +kernel)) rfl dX11_table_55 (by show va_rf (z.R a0 0) = _; rw [rtp]; rfl) ?_
      refine lv_iconst (v := 0) hx hb dX11_table_58 (by decide) ?_
      refine h_putI (ty := .int) (v := 0) hx hb hts iX8 tyX8 tyX8_ok nmX8 hown g ttp (by decide) so_9 rfl 1 (by decide) rfl (hts (.fieldLink RX11 81 "CapLeague$Tape" "size" "I") (by decide +kernel)) rfl rfl (by decide +kernel) rfl rfl dX11_table_59 (fun I11 H locs eI11 g => ?_)
      have hI := hI.wr eI11 ttp (rfl : h_bd 9 1 = (0, 500)) (by decide) (by decide)
      have hF := hF.wr eI11 ttp rfl
      refine lv_iload_n hx hb dX11_table_62 rfl (lv_at hl 0 rfl) ?_
      have hS := g.2.1
      exact W.iret (v := (-4)) hx hb hr (fun t ht hW => ⟨⟨(-4), I11, rfl, ⟨hI, hF, ⟨(by rw [atp, abt, abk, adt, adr, ark, qf0_3, ← egb]; exact Or.inr (Or.inl ⟨(by rcases h1p0 with q | q; exact q.2; exact absurd q.1 (by omega)), (by rcases h5p0 with q | q; omega; omega), by decide, (fun k => h_n1 eI11 trk ttp (by decide)), h_n1 eI11 tdt ttp (by decide)⟩)), (by rw [atp, h_n0 eI11]; decide)⟩⟩, h_ret g ht⟩, hS.F ht⟩) hS.2.2 dX11_table_63

