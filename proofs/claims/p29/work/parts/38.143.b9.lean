set_option maxHeartbeats 4000000 in
set_option maxRecDepth 100000 in
theorem tX11_hurtB (l : Launch) (E : tE) (X : tX) (A : Nat → Prop) (z : tZ) (I0 : tI) (L0 : tL) (a0 : Nat) (t_a0 : z.ty a0 = 12) (p : Int32) (p_t : Int) (h_p : p.toInt = p_t) (h : Int32) (h_t : Int) (h_h : h.toInt = h_t) (b_h : 0 ≤ h_t ∧ h_t ≤ 1) (hnn : ∀ p : Nat, (p : Int) < (I0 (h_ad z a0 3) 2).toInt → z.R (h_ad z (h_ad z a0 3) 1) p ≠ none) : Met l yX11_hurt wsX11_hurt ({ frames := 2, cells := 0, slots := 0, locals := 128 }) (va_Pc [.ref a0, .int p, .int h] (h_P E X A z I0 L0)) (va_Qi (fun r (I1 : tI) => h_I z I1 ∧ h_F [(7, 7)] z I0 I1 ∧ ((¬ (0 ≤ p_t ∧ p_t < (I0 (h_ad z a0 3) 2).toInt) ∧ r.toInt = -2 ∧ I1 = I0) ∨ ((0 ≤ p_t ∧ p_t < (I0 (h_ad z a0 3) 2).toInt) ∧ (((I0 (h_ad z (h_ad z (h_ad z a0 3) 1) p_t.toNat) 7).toInt = h_t ∧ r.toInt = 0) ∨ ((I0 (h_ad z (h_ad z (h_ad z a0 3) 1) p_t.toNat) 7).toInt ≠ h_t ∧ r.toInt = 1)) ∧ I1 = h_up I0 (h_ad z (h_ad z (h_ad z a0 3) 1) p_t.toNat) 7 h))) (fun (I1 : tI) t => h_B E A z I1 L0 t) A) 0 0 A := by
  refine Met.ofW (cc := cX11_hurt) (maxL := 5) (ret := (some .int)) (by decide) rfl ?_
  intro pr_ ev_ s m args below meth cd_ s₁ B hml hv
  obtain ⟨rfl, hE, hk, hX, hA, hK, hI, hR, hB0⟩ := hv
  have g : h_G h_so h_fk E A z I0 L0 s s.heap s.heap [] := ⟨hK, va_S.rf, hB0⟩
  have hF : h_F [(7, 7)] z I0 I0 := h_F.rf
  have hx := B.exec
  have hb := B.bytes
  have hr := B.returns
  have hts := atoms_spec (ws := wsX11_hurt) B.pre
  have hown : s.vm.findClass RX11 = some m.cls := findClass_of_methodNamed B.named
  have hlocks := B.notSynchronized
  have iX11 : ∀ w ∈ u_ws RX11 TX11 8, w ∈ wsX11_hurt := by decide +kernel
  have iX6 : ∀ w ∈ u_ws RX6 TX6 9, w ∈ wsX11_hurt := by decide +kernel
  have hl := lv_entry ([.ref a0, .int p, .int h]) (n := 5) (Nat.le_of_ble_eq_true rfl)
  rw [lg_entry_eq]
  generalize (lg_sl ([.ref a0, .int p, .int h]) ++ List.replicate (5 - (lg_sl ([.ref a0, .int p, .int h])).length) Slot.unset).toArray = ls at hl ⊢
  have hl : lv_has ls 5 [(0, .ref a0), (1, .int p), (2, .int h)] := hl
  have b_p : -2147483648 ≤ p_t ∧ p_t ≤ 2147483647 := h_p ▸ ⟨xi_lo p, Int.le_of_lt_add_one (xi_hi p)⟩
  obtain ⟨bk, rbk, tbk⟩ := hR.at a0 3 t_a0 (rfl : h_rs 12 3 = some (1, false)) (by decide)
  have abk : h_ad z a0 3 = bk := h_ad.at rbk
  obtain ⟨pl, rpl, tpl⟩ := hR.at bk 1 tbk (rfl : h_rs 1 1 = some (101, false)) (by decide)
  have apl : h_ad z bk 1 = pl := h_ad.at rpl
  obtain ⟨f0_2, ef0_2⟩ : ∃ v : Int32, v = I0 bk 2 := ⟨_, rfl⟩
  have qf0_2 : (I0 bk 2).toInt = f0_2.toInt := congrArg Int32.toInt ef0_2.symm
  have jf0_2 := hI.rd bk 2 tbk ef0_2 (rfl : h_bd 1 2 = (0, 60))
  obtain ⟨f0_3, ef0_3⟩ : ∃ v : Int32, v = I0 bk 3 := ⟨_, rfl⟩
  have qf0_3 : (I0 bk 3).toInt = f0_3.toInt := congrArg Int32.toInt ef0_3.symm
  have jf0_3 := hI.rd bk 3 tbk ef0_3 (rfl : h_bd 1 3 = (0, 9))
  rw [abk] at hnn
  rw [apl, qf0_2] at hnn
  refine lv_aload_n hx hb dX11_hurt_0 rfl (lv_at hl 0 rfl) ?_
  refine h_get (v := .ref bk) hx hb hts iX11 hown g t_a0 (by decide) so_12 rfl 3 (by decide) (hts (.fieldLink RX11 37 "CapLeague" "books" "LCapLeague$Books;") (by decide +kernel)) rfl dX11_hurt_1 (by show va_rf (z.R a0 3) = _; rw [rbk]; rfl) ?_
  refine lv_iload_n hx hb dX11_hurt_4 rfl (lv_at hl 1 rfl) ?_
  refine va_csq (W.runV (As := [.int p]) (rest := []) ⟨hx, hb, hml, hown, hts⟩ (tX0_playerAtF l E X A z I0 L0 bk tbk p (p_t) h_p) (cwV 1 hts gX11_hurt_X0_playerAt rfl rfl rfl (by decide +kernel) ⟨Nat.le_of_ble_eq_true rfl, Nat.le_of_ble_eq_true rfl⟩) ⟨h_blind _ _ _ _ _ _ _, h_recv g tbk (by decide) so_1 (q := (RX0, TX0, 9)) rfl, h_pre _ hE hk hX hA hI hR g⟩ rfl rfl hl.1 rfl (lv_room (Nat.le_of_ble_eq_true rfl)) dX11_hurt_5 ⟨Nat.le_of_ble_eq_true rfl, Nat.le_of_ble_eq_true rfl⟩) (fun rh1 h1 => ?_)
  obtain ⟨h1, h1p0⟩ := h1
  rcases h1 with rfl | ⟨rh1, rfl, trh1⟩
  · refine xw_v (v := .null) rfl ?_
    rw [apl, qf0_2] at h1p0
    have hno : ¬ (0 ≤ p_t ∧ p_t < f0_2.toInt) := by rcases h1p0 with ⟨a1, a2, a3⟩ | ⟨a1, _⟩; exact absurd a3.symm (hnn _ (by omega)); exact a1
    refine lv_astore_nN (lv' := [(3, .null), (0, .ref a0), (1, .int p), (2, .int h)]) hx hb dX11_hurt_8 rfl hl (by decide) rfl (fun ls hl => ?_)
    refine lv_aload_nN hx hb dX11_hurt_9 rfl (lv_at hl 0 rfl) ?_
    refine lv_ifnonnullN hx hb dX11_hurt_10 ?_
    refine lv_bipush (v := (-2)) hx hb dX11_hurt_13 (by decide) ?_
    have hS := g.2.1
    exact W.iret (v := (-2)) hx hb hr (fun t ht hW => ⟨⟨(-2), I0, rfl, ⟨hI, hF, (by rw [abk, apl, qf0_2]; exact Or.inl ⟨hno, by decide, rfl⟩)⟩, h_ret g ht⟩, hS.F ht⟩) hS.2.2 dX11_hurt_15
  · refine xw_v (v := .ref rh1) rfl ?_
    rw [apl, qf0_2] at h1p0
    have rp : z.R pl p_t.toNat = some rh1 := by rcases h1p0 with ⟨a1, a2, a3⟩ | ⟨_, a2⟩; exact a3.symm; cases a2
    have hpr : 0 ≤ p_t ∧ p_t < f0_2.toInt := by rcases h1p0 with ⟨a1, a2, a3⟩ | ⟨_, a2⟩; exact ⟨a1, a2⟩; cases a2
    have ap := h_ad.at rp
    obtain ⟨g_7, eg_7⟩ : ∃ v : Int32, v = I0 rh1 7 := ⟨_, rfl⟩
    have qg_7 : (I0 rh1 7).toInt = g_7.toInt := congrArg Int32.toInt eg_7.symm
    have jg_7 := hI.rd rh1 7 trh1 eg_7 (rfl : h_bd 7 7 = (0, 1))
    refine lv_astore_n (lv' := [(3, .ref rh1), (0, .ref a0), (1, .int p), (2, .int h)]) hx hb dX11_hurt_8 rfl hl (by decide) rfl (fun ls hl => ?_)
    refine lv_aload_n hx hb dX11_hurt_9 rfl (lv_at hl 0 rfl) ?_
    refine lv_ifnonnull (tgt := 16) hx hb dX11_hurt_10 (by decide) ?_
    refine lv_aload_n hx hb dX11_hurt_16 rfl (lv_at hl 0 rfl) ?_
    refine h_get (v := .int g_7) hx hb hts iX6 hown g trh1 (by decide) so_7 rfl 7 (by decide) (hts (.fieldLink RX11 168 "CapLeague$Player" "isHurt" "Z") (by decide +kernel)) rfl dX11_hurt_17 (congrArg Value.int (eg_7.symm)) ?_
    refine lv_iload_n hx hb dX11_hurt_20 rfl (lv_at hl 3 rfl) ?_
    refine lv_icmp_ne (tgt := 28) hx hb dX11_hurt_21 (by decide) (fun c2 => ?_) (fun c2 => ?_)
    · have ic2 := (xi_ne c2 rfl h_h : g_7.toInt ≠ h_t)
      refine lv_iconst (v := 1) hx hb dX11_hurt_28 (by decide) ?_
      refine lv_istore (lv' := [(4, .int 1), (3, .ref rh1), (0, .ref a0), (1, .int p), (2, .int h)]) hx hb dX11_hurt_29 hl (by decide) rfl (fun ls hl => ?_)
      refine lv_aload_n hx hb dX11_hurt_31 rfl (lv_at hl 1 rfl) ?_
      refine lv_iload_n hx hb dX11_hurt_32 rfl (lv_at hl 4 rfl) ?_
      refine h_putI (ty := .boolean) (v := h) hx hb hts iX6 tyX6 tyX6_ok nmX6 hown g trh1 (by decide) so_7 rfl 7 (by decide) rfl (hts (.fieldLink RX11 168 "CapLeague$Player" "isHurt" "Z") (by decide +kernel)) rfl rfl (by decide +kernel) (h_nb (by rw [h_h]; omega) (by rw [h_h]; omega)).1 (h_nb (by rw [h_h]; omega) (by rw [h_h]; omega)).2 dX11_hurt_33 (fun I3 H locs eI3 g => ?_)
      have hI := hI.wr eI3 trh1 (rfl : h_bd 7 7 = (0, 1)) (by rw [h_h]; omega) (by rw [h_h]; omega)
      have hF := hF.wr eI3 trh1 rfl
      refine lv_iload hx hb dX11_hurt_36 (lv_at hl 0 rfl) ?_
      have hS := g.2.1
      exact W.iret (v := 1) hx hb hr (fun t ht hW => ⟨⟨1, I3, rfl, ⟨hI, hF, (by rw [abk, apl, qf0_2]; rw [ap, ← eg_7]; have z9 : (1 : Int32).toInt = 1 := (by decide); exact Or.inr ⟨hpr, by omega, eI3⟩)⟩, h_ret g ht⟩, hS.F ht⟩) hS.2.2 dX11_hurt_38
    · have ic2 := (xi_eq c2 rfl h_h : g_7.toInt = h_t)
      refine lv_iconst (v := 0) hx hb dX11_hurt_24 (by decide) ?_
      refine lv_goto (tgt := 29) hx hb dX11_hurt_25 (by decide) ?_
      refine lv_istore (lv' := [(4, .int 0), (3, .ref rh1), (0, .ref a0), (1, .int p), (2, .int h)]) hx hb dX11_hurt_29 hl (by decide) rfl (fun ls hl => ?_)
      refine lv_aload_n hx hb dX11_hurt_31 rfl (lv_at hl 1 rfl) ?_
      refine lv_iload_n hx hb dX11_hurt_32 rfl (lv_at hl 4 rfl) ?_
      refine h_putI (ty := .boolean) (v := h) hx hb hts iX6 tyX6 tyX6_ok nmX6 hown g trh1 (by decide) so_7 rfl 7 (by decide) rfl (hts (.fieldLink RX11 168 "CapLeague$Player" "isHurt" "Z") (by decide +kernel)) rfl rfl (by decide +kernel) (h_nb (by rw [h_h]; omega) (by rw [h_h]; omega)).1 (h_nb (by rw [h_h]; omega) (by rw [h_h]; omega)).2 dX11_hurt_33 (fun I4 H locs eI4 g => ?_)
      have hI := hI.wr eI4 trh1 (rfl : h_bd 7 7 = (0, 1)) (by rw [h_h]; omega) (by rw [h_h]; omega)
      have hF := hF.wr eI4 trh1 rfl
      refine lv_iload hx hb dX11_hurt_36 (lv_at hl 0 rfl) ?_
      have hS := g.2.1
      exact W.iret (v := 0) hx hb hr (fun t ht hW => ⟨⟨0, I4, rfl, ⟨hI, hF, (by rw [abk, apl, qf0_2]; rw [ap, ← eg_7]; have z9 : (0 : Int32).toInt = 0 := (by decide); exact Or.inr ⟨hpr, by omega, eI4⟩)⟩, h_ret g ht⟩, hS.F ht⟩) hS.2.2 dX11_hurt_38
set_option maxHeartbeats 4000000 in
set_option maxRecDepth 100000 in
theorem tX11_chooseB (l : Launch) (E : tE) (X : tX) (A : Nat → Prop) (z : tZ) (I0 : tI) (L0 : tL) (a0 : Nat) (t_a0 : z.ty a0 = 12) (p : Int32) (p_t : Int) (h_p : p.toInt = p_t) (hnn : ∀ p : Nat, (p : Int) < (I0 (h_ad z a0 3) 2).toInt → z.R (h_ad z (h_ad z a0 3) 1) p ≠ none) : Met l yX11_choose wsX11_choose ({ frames := 2, cells := 0, slots := 0, locals := 128 }) (va_Pc [.ref a0, .int p] (h_P E X A z I0 L0)) (va_Qi (fun r (I1 : tI) => h_I z I1 ∧ h_F [(7, 6)] z I0 I1 ∧ ((¬ (0 ≤ p_t ∧ p_t < (I0 (h_ad z a0 3) 2).toInt) ∧ r.toInt = -2 ∧ I1 = I0) ∨ ((0 ≤ p_t ∧ p_t < (I0 (h_ad z a0 3) 2).toInt) ∧ ((I0 (h_ad z (h_ad z (h_ad z a0 3) 1) p_t.toNat) 0).toInt ≠ -1 ∧ (I0 (h_ad z (h_ad z (h_ad z a0 3) 1) p_t.toNat) 6).toInt ≠ 0 ∧ (I0 (h_ad z (h_ad z (h_ad z a0 3) 1) p_t.toNat) 2).toInt = (I0 (h_ad z a0 3) 3).toInt + 1) ∧ r.toInt = 1 ∧ I1 = h_up I0 (h_ad z (h_ad z (h_ad z a0 3) 1) p_t.toNat) 6 0) ∨ ((0 ≤ p_t ∧ p_t < (I0 (h_ad z a0 3) 2).toInt) ∧ ¬ ((I0 (h_ad z (h_ad z (h_ad z a0 3) 1) p_t.toNat) 0).toInt ≠ -1 ∧ (I0 (h_ad z (h_ad z (h_ad z a0 3) 1) p_t.toNat) 6).toInt ≠ 0 ∧ (I0 (h_ad z (h_ad z (h_ad z a0 3) 1) p_t.toNat) 2).toInt = (I0 (h_ad z a0 3) 3).toInt + 1) ∧ r.toInt = -4 ∧ I1 = I0))) (fun (I1 : tI) t => h_B E A z I1 L0 t) A) 0 0 A := by
  refine Met.ofW (cc := cX11_choose) (maxL := 3) (ret := (some .int)) (by decide) rfl ?_
  intro pr_ ev_ s m args below meth cd_ s₁ B hml hv
  obtain ⟨rfl, hE, hk, hX, hA, hK, hI, hR, hB0⟩ := hv
  have g : h_G h_so h_fk E A z I0 L0 s s.heap s.heap [] := ⟨hK, va_S.rf, hB0⟩
  have hF : h_F [(7, 6)] z I0 I0 := h_F.rf
  have hx := B.exec
  have hb := B.bytes
  have hr := B.returns
  have hts := atoms_spec (ws := wsX11_choose) B.pre
  have hown : s.vm.findClass RX11 = some m.cls := findClass_of_methodNamed B.named
  have hlocks := B.notSynchronized
  have iX11 : ∀ w ∈ u_ws RX11 TX11 8, w ∈ wsX11_choose := by decide +kernel
  have iX6 : ∀ w ∈ u_ws RX6 TX6 9, w ∈ wsX11_choose := by decide +kernel
  have iX0 : ∀ w ∈ u_ws RX0 TX0 9, w ∈ wsX11_choose := by decide +kernel
  have hl := lv_entry ([.ref a0, .int p]) (n := 3) (Nat.le_of_ble_eq_true rfl)
  rw [lg_entry_eq]
  generalize (lg_sl ([.ref a0, .int p]) ++ List.replicate (3 - (lg_sl ([.ref a0, .int p])).length) Slot.unset).toArray = ls at hl ⊢
  have hl : lv_has ls 3 [(0, .ref a0), (1, .int p)] := hl
  have b_p : -2147483648 ≤ p_t ∧ p_t ≤ 2147483647 := h_p ▸ ⟨xi_lo p, Int.le_of_lt_add_one (xi_hi p)⟩
  obtain ⟨bk, rbk, tbk⟩ := hR.at a0 3 t_a0 (rfl : h_rs 12 3 = some (1, false)) (by decide)
  have abk : h_ad z a0 3 = bk := h_ad.at rbk
  obtain ⟨pl, rpl, tpl⟩ := hR.at bk 1 tbk (rfl : h_rs 1 1 = some (101, false)) (by decide)
  have apl : h_ad z bk 1 = pl := h_ad.at rpl
  obtain ⟨f0_2, ef0_2⟩ : ∃ v : Int32, v = I0 bk 2 := ⟨_, rfl⟩
  have qf0_2 : (I0 bk 2).toInt = f0_2.toInt := congrArg Int32.toInt ef0_2.symm
  have jf0_2 := hI.rd bk 2 tbk ef0_2 (rfl : h_bd 1 2 = (0, 60))
  obtain ⟨f0_3, ef0_3⟩ : ∃ v : Int32, v = I0 bk 3 := ⟨_, rfl⟩
  have qf0_3 : (I0 bk 3).toInt = f0_3.toInt := congrArg Int32.toInt ef0_3.symm
  have jf0_3 := hI.rd bk 3 tbk ef0_3 (rfl : h_bd 1 3 = (0, 9))
  rw [abk] at hnn
  rw [apl, qf0_2] at hnn
  refine lv_aload_n hx hb dX11_choose_0 rfl (lv_at hl 0 rfl) ?_
  refine h_get (v := .ref bk) hx hb hts iX11 hown g t_a0 (by decide) so_12 rfl 3 (by decide) (hts (.fieldLink RX11 37 "CapLeague" "books" "LCapLeague$Books;") (by decide +kernel)) rfl dX11_choose_1 (by show va_rf (z.R a0 3) = _; rw [rbk]; rfl) ?_
  refine lv_iload_n hx hb dX11_choose_4 rfl (lv_at hl 1 rfl) ?_
  refine va_csq (W.runV (As := [.int p]) (rest := []) ⟨hx, hb, hml, hown, hts⟩ (tX0_playerAtF l E X A z I0 L0 bk tbk p (p_t) h_p) (cwV 1 hts gX11_choose_X0_playerAt rfl rfl rfl (by decide +kernel) ⟨Nat.le_of_ble_eq_true rfl, Nat.le_of_ble_eq_true rfl⟩) ⟨h_blind _ _ _ _ _ _ _, h_recv g tbk (by decide) so_1 (q := (RX0, TX0, 9)) rfl, h_pre _ hE hk hX hA hI hR g⟩ rfl rfl hl.1 rfl (lv_room (Nat.le_of_ble_eq_true rfl)) dX11_choose_5 ⟨Nat.le_of_ble_eq_true rfl, Nat.le_of_ble_eq_true rfl⟩) (fun rh1 h1 => ?_)
  obtain ⟨h1, h1p0⟩ := h1
  rcases h1 with rfl | ⟨rh1, rfl, trh1⟩
  · refine xw_v (v := .null) rfl ?_
    rw [apl, qf0_2] at h1p0
    have hno : ¬ (0 ≤ p_t ∧ p_t < f0_2.toInt) := by rcases h1p0 with ⟨a1, a2, a3⟩ | ⟨a1, _⟩; exact absurd a3.symm (hnn _ (by omega)); exact a1
    refine lv_astore_nN (lv' := [(2, .null), (0, .ref a0), (1, .int p)]) hx hb dX11_choose_8 rfl hl (by decide) rfl (fun ls hl => ?_)
    refine lv_aload_nN hx hb dX11_choose_9 rfl (lv_at hl 0 rfl) ?_
    refine lv_ifnonnullN hx hb dX11_choose_10 ?_
    refine lv_bipush (v := (-2)) hx hb dX11_choose_13 (by decide) ?_
    have hS := g.2.1
    exact W.iret (v := (-2)) hx hb hr (fun t ht hW => ⟨⟨(-2), I0, rfl, ⟨hI, hF, (by rw [abk, apl, qf0_2, qf0_3]; exact Or.inl ⟨hno, by decide, rfl⟩)⟩, h_ret g ht⟩, hS.F ht⟩) hS.2.2 dX11_choose_15
  · refine xw_v (v := .ref rh1) rfl ?_
    rw [apl, qf0_2] at h1p0
    have rp : z.R pl p_t.toNat = some rh1 := by rcases h1p0 with ⟨a1, a2, a3⟩ | ⟨_, a2⟩; exact a3.symm; cases a2
    have hpr : 0 ≤ p_t ∧ p_t < f0_2.toInt := by rcases h1p0 with ⟨a1, a2, a3⟩ | ⟨_, a2⟩; exact ⟨a1, a2⟩; cases a2
    have ap := h_ad.at rp
    obtain ⟨g_0, eg_0⟩ : ∃ v : Int32, v = I0 rh1 0 := ⟨_, rfl⟩
    have qg_0 : (I0 rh1 0).toInt = g_0.toInt := congrArg Int32.toInt eg_0.symm
    have jg_0 := hI.rd rh1 0 trh1 eg_0 (rfl : h_bd 7 0 = ((-1), 7))
    obtain ⟨g_2, eg_2⟩ : ∃ v : Int32, v = I0 rh1 2 := ⟨_, rfl⟩
    have qg_2 : (I0 rh1 2).toInt = g_2.toInt := congrArg Int32.toInt eg_2.symm
    have jg_2 := hI.rd rh1 2 trh1 eg_2 (rfl : h_bd 7 2 = ((-2147483648), 2147483647))
    obtain ⟨g_6, eg_6⟩ : ∃ v : Int32, v = I0 rh1 6 := ⟨_, rfl⟩
    have qg_6 : (I0 rh1 6).toInt = g_6.toInt := congrArg Int32.toInt eg_6.symm
    have jg_6 := hI.rd rh1 6 trh1 eg_6 (rfl : h_bd 7 6 = (0, 1))
    refine lv_astore_n (lv' := [(2, .ref rh1), (0, .ref a0), (1, .int p)]) hx hb dX11_choose_8 rfl hl (by decide) rfl (fun ls hl => ?_)
    refine lv_aload_n hx hb dX11_choose_9 rfl (lv_at hl 0 rfl) ?_
    refine lv_ifnonnull (tgt := 16) hx hb dX11_choose_10 (by decide) ?_
    refine lv_aload_n hx hb dX11_choose_16 rfl (lv_at hl 0 rfl) ?_
    refine vp_callSi (W.runV (As := []) (rest := []) ⟨hx, hb, hml, hown, hts⟩ (tX6_isSignedB l E X A z I0 L0 rh1 trh1) (cwV 0 hts gX11_choose_X6_isSigned rfl rfl rfl (by decide +kernel) ⟨Nat.le_of_ble_eq_true rfl, Nat.le_of_ble_eq_true rfl⟩) ⟨h_blind _ _ _ _ _ _ _, h_recv g trh1 (by decide) so_7 (q := (RX6, TX6, 9)) rfl, h_pre _ hE hk hX hA hI hR g⟩ rfl rfl hl.1 rfl (lv_room (Nat.le_of_ble_eq_true rfl)) dX11_choose_17 ⟨Nat.le_of_ble_eq_true rfl, Nat.le_of_ble_eq_true rfl⟩) (fun rh2 h2 => ?_)
    obtain ⟨h2, h2p0⟩ := h2
    rw [← eg_0] at h2p0
    refine lv_if_eq (tgt := 46) hx hb dX11_choose_20 (by decide) (fun c3 => ?_) (fun c3 => ?_)
    · have ic3 := (xi_eq c3 rfl (by decide) : rh2.toInt = 0)
      refine lv_bipush (v := (-4)) hx hb dX11_choose_46 (by decide) ?_
      have hS := g.2.1
      exact W.iret (v := (-4)) hx hb hr (fun t ht hW => ⟨⟨(-4), I0, rfl, ⟨hI, hF, (by rw [abk, apl, qf0_2, qf0_3]; rw [ap, ← eg_0, ← eg_6, ← eg_2]; exact Or.inr (Or.inr ⟨hpr, by omega, by decide, rfl⟩))⟩, h_ret g ht⟩, hS.F ht⟩) hS.2.2 dX11_choose_48
    · have ic3 := (xi_ne c3 rfl (by decide) : rh2.toInt ≠ 0)
      refine lv_aload_n hx hb dX11_choose_23 rfl (lv_at hl 0 rfl) ?_
      refine h_get (v := .int g_6) hx hb hts iX6 hown g trh1 (by decide) so_7 rfl 6 (by decide) (hts (.fieldLink RX11 157 "CapLeague$Player" "choiceOpen" "Z") (by decide +kernel)) rfl dX11_choose_24 (congrArg Value.int (eg_6.symm)) ?_
      refine lv_if_eq (tgt := 46) hx hb dX11_choose_27 (by decide) (fun c4 => ?_) (fun c4 => ?_)
      · have ic4 := (xi_eq c4 rfl (by decide) : g_6.toInt = 0)
        refine lv_bipush (v := (-4)) hx hb dX11_choose_46 (by decide) ?_
        have hS := g.2.1
        exact W.iret (v := (-4)) hx hb hr (fun t ht hW => ⟨⟨(-4), I0, rfl, ⟨hI, hF, (by rw [abk, apl, qf0_2, qf0_3]; rw [ap, ← eg_0, ← eg_6, ← eg_2]; exact Or.inr (Or.inr ⟨hpr, by omega, by decide, rfl⟩))⟩, h_ret g ht⟩, hS.F ht⟩) hS.2.2 dX11_choose_48
      · have ic4 := (xi_ne c4 rfl (by decide) : g_6.toInt ≠ 0)
        refine lv_aload_n hx hb dX11_choose_30 rfl (lv_at hl 0 rfl) ?_
        refine h_get (v := .int g_2) hx hb hts iX6 hown g trh1 (by decide) so_7 rfl 2 (by decide) (hts (.fieldLink RX11 161 "CapLeague$Player" "last" "I") (by decide +kernel)) rfl dX11_choose_31 (congrArg Value.int (eg_2.symm)) ?_
        refine lv_aload_n hx hb dX11_choose_34 rfl (lv_at hl 1 rfl) ?_
        refine h_get (v := .ref bk) hx hb hts iX11 hown g t_a0 (by decide) so_12 rfl 3 (by decide) (hts (.fieldLink RX11 37 "CapLeague" "books" "LCapLeague$Books;") (by decide +kernel)) rfl dX11_choose_35 (by show va_rf (z.R a0 3) = _; rw [rbk]; rfl) ?_
        refine h_get (v := .int f0_3) hx hb hts iX0 hown g tbk (by decide) so_1 rfl 3 (by decide) (hts (.fieldLink RX11 142 "CapLeague$Books" "clock" "I") (by decide +kernel)) rfl dX11_choose_38 (congrArg Value.int (ef0_3.symm)) ?_
        refine lv_iconst (v := 1) hx hb dX11_choose_41 (by decide) ?_
        refine lv_iadd hx hb dX11_choose_42 ?_
        refine lv_topi (fun v5 ev5 => ?_)
        have jv5 : v5.toInt = f0_3.toInt + 1 := xi_add ev5 rfl (by decide) (by omega) (by omega)
        refine lv_icmp_eq (tgt := 49) hx hb dX11_choose_43 (by decide) (fun c6 => ?_) (fun c6 => ?_)
        · have ic6 := (xi_eq c6 rfl rfl : g_2.toInt = v5.toInt)
          refine lv_aload_n hx hb dX11_choose_49 rfl (lv_at hl 0 rfl) ?_
          refine lv_iconst (v := 0) hx hb dX11_choose_50 (by decide) ?_
          refine h_putI (ty := .boolean) (v := 0) hx hb hts iX6 tyX6 tyX6_ok nmX6 hown g trh1 (by decide) so_7 rfl 6 (by decide) rfl (hts (.fieldLink RX11 157 "CapLeague$Player" "choiceOpen" "Z") (by decide +kernel)) rfl rfl (by decide +kernel) (by decide) (by decide) dX11_choose_51 (fun I7 H locs eI7 g => ?_)
          have hI := hI.wr eI7 trh1 (rfl : h_bd 7 6 = (0, 1)) (by decide) (by decide)
          have hF := hF.wr eI7 trh1 rfl
          refine lv_iconst (v := 1) hx hb dX11_choose_54 (by decide) ?_
          have hS := g.2.1
          exact W.iret (v := 1) hx hb hr (fun t ht hW => ⟨⟨1, I7, rfl, ⟨hI, hF, (by rw [abk, apl, qf0_2, qf0_3]; rw [ap, ← eg_0, ← eg_6, ← eg_2]; exact Or.inr (Or.inl ⟨hpr, ⟨by omega, by omega, by omega⟩, by decide, eI7⟩))⟩, h_ret g ht⟩, hS.F ht⟩) hS.2.2 dX11_choose_55
        · have ic6 := (xi_ne c6 rfl rfl : g_2.toInt ≠ v5.toInt)
          refine lv_bipush (v := (-4)) hx hb dX11_choose_46 (by decide) ?_
          have hS := g.2.1
          exact W.iret (v := (-4)) hx hb hr (fun t ht hW => ⟨⟨(-4), I0, rfl, ⟨hI, hF, (by rw [abk, apl, qf0_2, qf0_3]; rw [ap, ← eg_0, ← eg_6, ← eg_2]; exact Or.inr (Or.inr ⟨hpr, by omega, by decide, rfl⟩))⟩, h_ret g ht⟩, hS.F ht⟩) hS.2.2 dX11_choose_48
set_option maxHeartbeats 4000000 in
set_option maxRecDepth 100000 in
theorem tX6_factB (l : Launch) (E : tE) (X : tX) (A : Nat → Prop) (z : tZ) (I0 : tI) (L0 : tL) (a0 : Nat) (t_a0 : z.ty a0 = 7) (x : Int32) (x_t : Int) (h_x : x.toInt = x_t) : Met l yX6_fact wsX6_fact ({ frames := 3, cells := 0, slots := 0, locals := 192 }) (va_Pc [.ref a0, .int x] (h_P E X A z I0 L0)) (vp_Si (fun r => (r.toInt = q_fact (I0 a0 0) (I0 a0 1) (I0 a0 2) (I0 a0 3) (I0 a0 4) (I0 a0 5) (I0 a0 6) (I0 a0 7) x))) 0 0 (fun _ => False) := by
  refine Met.ofW (cc := cX6_fact) (maxL := 2) (ret := (some .int)) (by decide) rfl ?_
  intro pr_ ev_ s m args below meth cd_ s₁ B hml hv
  obtain ⟨rfl, hE, hk, hX, hA, hK, hI, hR, hB0⟩ := hv
  have g : h_G h_so h_fk E A z I0 L0 s s.heap s.heap [] := ⟨hK, va_S.rf, hB0⟩
  have hx := B.exec
  have hb := B.bytes
  have hr := B.returns
  have hts := atoms_spec (ws := wsX6_fact) B.pre
  have hown : s.vm.findClass RX6 = some m.cls := findClass_of_methodNamed B.named
  have hlocks := B.notSynchronized
  have iX6 : ∀ w ∈ u_ws RX6 TX6 9, w ∈ wsX6_fact := by decide +kernel
  have hl := lv_entry ([.ref a0, .int x]) (n := 2) (Nat.le_of_ble_eq_true rfl)
  rw [lg_entry_eq]
  generalize (lg_sl ([.ref a0, .int x]) ++ List.replicate (2 - (lg_sl ([.ref a0, .int x])).length) Slot.unset).toArray = ls at hl ⊢
  have hl : lv_has ls 2 [(0, .ref a0), (1, .int x)] := hl
  have b_x : -2147483648 ≤ x_t ∧ x_t ≤ 2147483647 := h_x ▸ ⟨xi_lo x, Int.le_of_lt_add_one (xi_hi x)⟩
  obtain ⟨f0_0, ef0_0⟩ : ∃ v : Int32, v = I0 a0 0 := ⟨_, rfl⟩
  have qf0_0 : (I0 a0 0).toInt = f0_0.toInt := congrArg Int32.toInt ef0_0.symm
  have jf0_0 := hI.rd a0 0 t_a0 ef0_0 (rfl : h_bd 7 0 = ((-1), 7))
  obtain ⟨f0_1, ef0_1⟩ : ∃ v : Int32, v = I0 a0 1 := ⟨_, rfl⟩
  have qf0_1 : (I0 a0 1).toInt = f0_1.toInt := congrArg Int32.toInt ef0_1.symm
  have jf0_1 := hI.rd a0 1 t_a0 ef0_1 (rfl : h_bd 7 1 = ((-2147483648), 2147483647))
  obtain ⟨f0_2, ef0_2⟩ : ∃ v : Int32, v = I0 a0 2 := ⟨_, rfl⟩
  have qf0_2 : (I0 a0 2).toInt = f0_2.toInt := congrArg Int32.toInt ef0_2.symm
  have jf0_2 := hI.rd a0 2 t_a0 ef0_2 (rfl : h_bd 7 2 = ((-2147483648), 2147483647))
  obtain ⟨f0_3, ef0_3⟩ : ∃ v : Int32, v = I0 a0 3 := ⟨_, rfl⟩
  have qf0_3 : (I0 a0 3).toInt = f0_3.toInt := congrArg Int32.toInt ef0_3.symm
  have jf0_3 := hI.rd a0 3 t_a0 ef0_3 (rfl : h_bd 7 3 = ((-2147483648), 2147483647))
  obtain ⟨f0_4, ef0_4⟩ : ∃ v : Int32, v = I0 a0 4 := ⟨_, rfl⟩
  have qf0_4 : (I0 a0 4).toInt = f0_4.toInt := congrArg Int32.toInt ef0_4.symm
  have jf0_4 := hI.rd a0 4 t_a0 ef0_4 (rfl : h_bd 7 4 = ((-2147483648), 2147483647))
  obtain ⟨f0_5, ef0_5⟩ : ∃ v : Int32, v = I0 a0 5 := ⟨_, rfl⟩
  have qf0_5 : (I0 a0 5).toInt = f0_5.toInt := congrArg Int32.toInt ef0_5.symm
  have jf0_5 := hI.rd a0 5 t_a0 ef0_5 (rfl : h_bd 7 5 = ((-2147483648), 2147483647))
  obtain ⟨f0_6, ef0_6⟩ : ∃ v : Int32, v = I0 a0 6 := ⟨_, rfl⟩
  have qf0_6 : (I0 a0 6).toInt = f0_6.toInt := congrArg Int32.toInt ef0_6.symm
  have jf0_6 := hI.rd a0 6 t_a0 ef0_6 (rfl : h_bd 7 6 = (0, 1))
  obtain ⟨f0_7, ef0_7⟩ : ∃ v : Int32, v = I0 a0 7 := ⟨_, rfl⟩
  have qf0_7 : (I0 a0 7).toInt = f0_7.toInt := congrArg Int32.toInt ef0_7.symm
  have jf0_7 := hI.rd a0 7 t_a0 ef0_7 (rfl : h_bd 7 7 = (0, 1))
  refine lv_iload_n hx hb dX6_fact_0 rfl (lv_at hl 1 rfl) ?_
  have qc1 : x.toInt = x_t := h_x
  rcases (show (x.toInt < 0 ∨ 4 < x.toInt) ∨ x.toInt = 0 ∨ x.toInt = 1 ∨ x.toInt = 2 ∨ x.toInt = 3 ∨ x.toInt = 4 by omega) with c1 | c1 | c1 | c1 | c1 | c1
  · refine lv_tableOut (tgt := 88) hx hb dX6_fact_1 c1 (by decide) ?_
    refine lv_iload_n hx hb dX6_fact_88 rfl (lv_at hl 1 rfl) ?_
    refine lv_bipush (v := 10) hx hb dX6_fact_89 (by decide) ?_
    refine lv_icmp_lt (tgt := 111) hx hb dX6_fact_91 (by decide) (fun c2 => ?_) (fun c2 => ?_)
    · have ic2 := (xi_lt c2 h_x (by decide) : x_t < 10)
      refine lv_bipush (v := (-9)) hx hb dX6_fact_111 (by decide) ?_
      exact W.iret (v := (-9)) hx hb hr (fun t ht hW => ⟨(-9), rfl, (by rw [← ef0_0, ← ef0_1, ← ef0_2, ← ef0_3, ← ef0_4, ← ef0_5, ← ef0_6, ← ef0_7]; have qx : x.toInt = x_t := h_x; unfold q_fact; have z9 : ((-9) : Int32).toInt = -9 := (by decide); (repeat (first | rw [if_pos (by omega)] | rw [if_neg (by omega)])); all_goals omega), ht⟩) (fun _ h => by cases h) dX6_fact_113
    · have ic2 := (xi_nlt c2 h_x (by decide) : 10 ≤ x_t)
      refine lv_iload_n hx hb dX6_fact_94 rfl (lv_at hl 1 rfl) ?_
      refine lv_bipush (v := 20) hx hb dX6_fact_95 (by decide) ?_
      refine lv_icmp_ge (tgt := 111) hx hb dX6_fact_97 (by decide) (fun c3 => ?_) (fun c3 => ?_)
      · have ic3 := (xi_le c3 (by decide) h_x : 20 ≤ x_t)
        refine lv_bipush (v := (-9)) hx hb dX6_fact_111 (by decide) ?_
        exact W.iret (v := (-9)) hx hb hr (fun t ht hW => ⟨(-9), rfl, (by rw [← ef0_0, ← ef0_1, ← ef0_2, ← ef0_3, ← ef0_4, ← ef0_5, ← ef0_6, ← ef0_7]; have qx : x.toInt = x_t := h_x; unfold q_fact; have z9 : ((-9) : Int32).toInt = -9 := (by decide); (repeat (first | rw [if_pos (by omega)] | rw [if_neg (by omega)])); all_goals omega), ht⟩) (fun _ h => by cases h) dX6_fact_113
      · have ic3 := (xi_nle c3 (by decide) h_x : x_t < 20)
        refine lv_aload_n hx hb dX6_fact_100 rfl (lv_at hl 0 rfl) ?_
        refine lv_iload_n hx hb dX6_fact_101 rfl (lv_at hl 1 rfl) ?_
        refine lv_bipush (v := 10) hx hb dX6_fact_102 (by decide) ?_
        refine lv_isub hx hb dX6_fact_104 ?_
        refine lv_topi (fun v4 ev4 => ?_)
        have jv4 : v4.toInt = x_t - 10 := xi_sub ev4 h_x (by decide) (by omega) (by omega)
        refine vp_callSi (W.runV (As := [.int v4]) (rest := []) ⟨hx, hb, hml, hown, hts⟩ (tX6_payInB l E X A z I0 L0 a0 t_a0 v4 (v4.toInt) rfl) (cwV 1 hts gX6_fact_X6_payIn rfl rfl rfl (by decide +kernel) ⟨Nat.le_of_ble_eq_true rfl, Nat.le_of_ble_eq_true rfl⟩) ⟨h_blind _ _ _ _ _ _ _, h_recv g t_a0 (by decide) so_7 (q := (RX6, TX6, 9)) rfl, h_pre _ hE hk hX hA hI hR g⟩ rfl rfl hl.1 rfl (lv_room (Nat.le_of_ble_eq_true rfl)) dX6_fact_105 ⟨Nat.le_of_ble_eq_true rfl, Nat.le_of_ble_eq_true rfl⟩) (fun rh5 h5 => ?_)
        have h5p0 := h5
        have jrh5 : -2147483648 ≤ rh5.toInt ∧ rh5.toInt ≤ 2147483647 := ⟨xi_lo _, Int.le_of_lt_add_one (xi_hi _)⟩
        rw [← ef0_0, ← ef0_1, ← ef0_2, ← ef0_3, ← ef0_4] at h5p0
        refine lv_goto (tgt := 113) hx hb dX6_fact_108 (by decide) ?_
        exact W.iret (v := rh5) hx hb hr (fun t ht hW => ⟨rh5, rfl, (by rw [← ef0_0, ← ef0_1, ← ef0_2, ← ef0_3, ← ef0_4, ← ef0_5, ← ef0_6, ← ef0_7]; have qx : x.toInt = x_t := h_x; unfold q_fact; (repeat (first | rw [if_pos (by omega)] | rw [if_neg (by omega)])); rw [← ev4, ← h5p0]), ht⟩) (fun _ h => by cases h) dX6_fact_113
  · refine lv_tableIn (off := 35) (tgt := 36) hx hb dX6_fact_1 (by omega) (by omega) (by rw [show (x.toInt - 0).toNat = 0 by omega]; rfl) (by decide) ?_
    refine lv_aload_n hx hb dX6_fact_36 rfl (lv_at hl 0 rfl) ?_
    refine h_get (v := .int f0_0) hx hb hts iX6 hown g t_a0 (by decide) so_7 rfl 0 (by decide) (hts (.fieldLink RX6 9 "CapLeague$Player" "club" "I") (by decide +kernel)) rfl dX6_fact_37 (congrArg Value.int (ef0_0.symm)) ?_
    exact W.iret (v := f0_0) hx hb hr (fun t ht hW => ⟨f0_0, rfl, (by rw [← ef0_0, ← ef0_1, ← ef0_2, ← ef0_3, ← ef0_4, ← ef0_5, ← ef0_6, ← ef0_7]; have qx : x.toInt = x_t := h_x; unfold q_fact; (repeat (first | rw [if_pos (by omega)] | rw [if_neg (by omega)])); all_goals omega), ht⟩) (fun _ h => by cases h) dX6_fact_40
  · refine lv_tableIn (off := 40) (tgt := 41) hx hb dX6_fact_1 (by omega) (by omega) (by rw [show (x.toInt - 0).toNat = 1 by omega]; rfl) (by decide) ?_
    refine lv_aload_n hx hb dX6_fact_41 rfl (lv_at hl 0 rfl) ?_
    refine vp_callSi (W.runV (As := []) (rest := []) ⟨hx, hb, hml, hown, hts⟩ (tX6_isSignedB l E X A z I0 L0 a0 t_a0) (cwV 0 hts gX6_fact_X6_isSigned rfl rfl rfl (by decide +kernel) ⟨Nat.le_of_ble_eq_true rfl, Nat.le_of_ble_eq_true rfl⟩) ⟨h_blind _ _ _ _ _ _ _, h_recv g t_a0 (by decide) so_7 (q := (RX6, TX6, 9)) rfl, h_pre _ hE hk hX hA hI hR g⟩ rfl rfl hl.1 rfl (lv_room (Nat.le_of_ble_eq_true rfl)) dX6_fact_42 ⟨Nat.le_of_ble_eq_true rfl, Nat.le_of_ble_eq_true rfl⟩) (fun rh6 h6 => ?_)
    obtain ⟨h6, h6p0⟩ := h6
    rw [← ef0_0] at h6p0
    refine lv_if_eq (tgt := 55) hx hb dX6_fact_45 (by decide) (fun c7 => ?_) (fun c7 => ?_)
    · have ic7 := (xi_eq c7 rfl (by decide) : rh6.toInt = 0)
      refine lv_iconst (v := (-1)) hx hb dX6_fact_55 (by decide) ?_
      exact W.iret (v := (-1)) hx hb hr (fun t ht hW => ⟨(-1), rfl, (by rw [← ef0_0, ← ef0_1, ← ef0_2, ← ef0_3, ← ef0_4, ← ef0_5, ← ef0_6, ← ef0_7]; have qx : x.toInt = x_t := h_x; unfold q_fact; have z9 : ((-1) : Int32).toInt = -1 := (by decide); (repeat (first | rw [if_pos (by omega)] | rw [if_neg (by omega)])); all_goals omega), ht⟩) (fun _ h => by cases h) dX6_fact_56
    · have ic7 := (xi_ne c7 rfl (by decide) : rh6.toInt ≠ 0)
      refine lv_aload_n hx hb dX6_fact_48 rfl (lv_at hl 0 rfl) ?_
      refine h_get (v := .int f0_2) hx hb hts iX6 hown g t_a0 (by decide) so_7 rfl 2 (by decide) (hts (.fieldLink RX6 22 "CapLeague$Player" "last" "I") (by decide +kernel)) rfl dX6_fact_49 (congrArg Value.int (ef0_2.symm)) ?_
      refine lv_goto (tgt := 56) hx hb dX6_fact_52 (by decide) ?_
      exact W.iret (v := f0_2) hx hb hr (fun t ht hW => ⟨f0_2, rfl, (by rw [← ef0_0, ← ef0_1, ← ef0_2, ← ef0_3, ← ef0_4, ← ef0_5, ← ef0_6, ← ef0_7]; have qx : x.toInt = x_t := h_x; unfold q_fact; (repeat (first | rw [if_pos (by omega)] | rw [if_neg (by omega)])); all_goals omega), ht⟩) (fun _ h => by cases h) dX6_fact_56
  · refine lv_tableIn (off := 56) (tgt := 57) hx hb dX6_fact_1 (by omega) (by omega) (by rw [show (x.toInt - 0).toNat = 2 by omega]; rfl) (by decide) ?_
    refine lv_aload_n hx hb dX6_fact_57 rfl (lv_at hl 0 rfl) ?_
    refine h_get (v := .int f0_6) hx hb hts iX6 hown g t_a0 (by decide) so_7 rfl 6 (by decide) (hts (.fieldLink RX6 34 "CapLeague$Player" "choiceOpen" "Z") (by decide +kernel)) rfl dX6_fact_58 (congrArg Value.int (ef0_6.symm)) ?_
    refine lv_if_eq (tgt := 68) hx hb dX6_fact_61 (by decide) (fun c8 => ?_) (fun c8 => ?_)
    · have ic8 := (xi_eq c8 rfl (by decide) : f0_6.toInt = 0)
      refine lv_iconst (v := 0) hx hb dX6_fact_68 (by decide) ?_
      exact W.iret (v := 0) hx hb hr (fun t ht hW => ⟨0, rfl, (by rw [← ef0_0, ← ef0_1, ← ef0_2, ← ef0_3, ← ef0_4, ← ef0_5, ← ef0_6, ← ef0_7]; have qx : x.toInt = x_t := h_x; unfold q_fact; have z9 : (0 : Int32).toInt = 0 := (by decide); (repeat (first | rw [if_pos (by omega)] | rw [if_neg (by omega)])); all_goals omega), ht⟩) (fun _ h => by cases h) dX6_fact_69
    · have ic8 := (xi_ne c8 rfl (by decide) : f0_6.toInt ≠ 0)
      refine lv_iconst (v := 1) hx hb dX6_fact_64 (by decide) ?_
      refine lv_goto (tgt := 69) hx hb dX6_fact_65 (by decide) ?_
      exact W.iret (v := 1) hx hb hr (fun t ht hW => ⟨1, rfl, (by rw [← ef0_0, ← ef0_1, ← ef0_2, ← ef0_3, ← ef0_4, ← ef0_5, ← ef0_6, ← ef0_7]; have qx : x.toInt = x_t := h_x; unfold q_fact; have z9 : (1 : Int32).toInt = 1 := (by decide); (repeat (first | rw [if_pos (by omega)] | rw [if_neg (by omega)])); all_goals omega), ht⟩) (fun _ h => by cases h) dX6_fact_69
  · refine lv_tableIn (off := 69) (tgt := 70) hx hb dX6_fact_1 (by omega) (by omega) (by rw [show (x.toInt - 0).toNat = 3 by omega]; rfl) (by decide) ?_
    refine lv_aload_n hx hb dX6_fact_70 rfl (lv_at hl 0 rfl) ?_
    refine h_get (v := .int f0_5) hx hb hts iX6 hown g t_a0 (by decide) so_7 rfl 5 (by decide) (hts (.fieldLink RX6 31 "CapLeague$Player" "sure" "I") (by decide +kernel)) rfl dX6_fact_71 (congrArg Value.int (ef0_5.symm)) ?_
    exact W.iret (v := f0_5) hx hb hr (fun t ht hW => ⟨f0_5, rfl, (by rw [← ef0_0, ← ef0_1, ← ef0_2, ← ef0_3, ← ef0_4, ← ef0_5, ← ef0_6, ← ef0_7]; have qx : x.toInt = x_t := h_x; unfold q_fact; (repeat (first | rw [if_pos (by omega)] | rw [if_neg (by omega)])); all_goals omega), ht⟩) (fun _ h => by cases h) dX6_fact_74
  · refine lv_tableIn (off := 74) (tgt := 75) hx hb dX6_fact_1 (by omega) (by omega) (by rw [show (x.toInt - 0).toNat = 4 by omega]; rfl) (by decide) ?_
    refine lv_aload_n hx hb dX6_fact_75 rfl (lv_at hl 0 rfl) ?_
    refine h_get (v := .int f0_7) hx hb hts iX6 hown g t_a0 (by decide) so_7 rfl 7 (by decide) (hts (.fieldLink RX6 52 "CapLeague$Player" "isHurt" "Z") (by decide +kernel)) rfl dX6_fact_76 (congrArg Value.int (ef0_7.symm)) ?_
    refine lv_if_eq (tgt := 86) hx hb dX6_fact_79 (by decide) (fun c9 => ?_) (fun c9 => ?_)
    · have ic9 := (xi_eq c9 rfl (by decide) : f0_7.toInt = 0)
      refine lv_iconst (v := 0) hx hb dX6_fact_86 (by decide) ?_
      exact W.iret (v := 0) hx hb hr (fun t ht hW => ⟨0, rfl, (by rw [← ef0_0, ← ef0_1, ← ef0_2, ← ef0_3, ← ef0_4, ← ef0_5, ← ef0_6, ← ef0_7]; have qx : x.toInt = x_t := h_x; unfold q_fact; have z9 : (0 : Int32).toInt = 0 := (by decide); (repeat (first | rw [if_pos (by omega)] | rw [if_neg (by omega)])); all_goals omega), ht⟩) (fun _ h => by cases h) dX6_fact_87
    · have ic9 := (xi_ne c9 rfl (by decide) : f0_7.toInt ≠ 0)
      refine lv_iconst (v := 1) hx hb dX6_fact_82 (by decide) ?_
      refine lv_goto (tgt := 87) hx hb dX6_fact_83 (by decide) ?_
      exact W.iret (v := 1) hx hb hr (fun t ht hW => ⟨1, rfl, (by rw [← ef0_0, ← ef0_1, ← ef0_2, ← ef0_3, ← ef0_4, ← ef0_5, ← ef0_6, ← ef0_7]; have qx : x.toInt = x_t := h_x; unfold q_fact; have z9 : (1 : Int32).toInt = 1 := (by decide); (repeat (first | rw [if_pos (by omega)] | rw [if_neg (by omega)])); all_goals omega), ht⟩) (fun _ h => by cases h) dX6_fact_87
set_option maxHeartbeats 4000000 in
set_option maxRecDepth 100000 in
theorem tX11_aboutB (l : Launch) (E : tE) (X : tX) (A : Nat → Prop) (z : tZ) (I0 : tI) (L0 : tL) (a0 : Nat) (t_a0 : z.ty a0 = 12) (p : Int32) (p_t : Int) (h_p : p.toInt = p_t) (x : Int32) (x_t : Int) (h_x : x.toInt = x_t) (hnn : ∀ p : Nat, (p : Int) < (I0 (h_ad z a0 3) 2).toInt → z.R (h_ad z (h_ad z a0 3) 1) p ≠ none) : Met l yX11_about wsX11_about ({ frames := 4, cells := 0, slots := 0, locals := 256 }) (va_Pc [.ref a0, .int p, .int x] (h_P E X A z I0 L0)) (vp_Si (fun r => ((¬ (0 ≤ p_t ∧ p_t < (I0 (h_ad z a0 3) 2).toInt) ∧ r.toInt = -9) ∨ ((0 ≤ p_t ∧ p_t < (I0 (h_ad z a0 3) 2).toInt) ∧ r.toInt = q_fact (I0 (h_ad z (h_ad z (h_ad z a0 3) 1) p_t.toNat) 0) (I0 (h_ad z (h_ad z (h_ad z a0 3) 1) p_t.toNat) 1) (I0 (h_ad z (h_ad z (h_ad z a0 3) 1) p_t.toNat) 2) (I0 (h_ad z (h_ad z (h_ad z a0 3) 1) p_t.toNat) 3) (I0 (h_ad z (h_ad z (h_ad z a0 3) 1) p_t.toNat) 4) (I0 (h_ad z (h_ad z (h_ad z a0 3) 1) p_t.toNat) 5) (I0 (h_ad z (h_ad z (h_ad z a0 3) 1) p_t.toNat) 6) (I0 (h_ad z (h_ad z (h_ad z a0 3) 1) p_t.toNat) 7) x)))) 0 0 (fun _ => False) := by
  refine Met.ofW (cc := cX11_about) (maxL := 4) (ret := (some .int)) (by decide) rfl ?_
  intro pr_ ev_ s m args below meth cd_ s₁ B hml hv
  obtain ⟨rfl, hE, hk, hX, hA, hK, hI, hR, hB0⟩ := hv
  have g : h_G h_so h_fk E A z I0 L0 s s.heap s.heap [] := ⟨hK, va_S.rf, hB0⟩
  have hx := B.exec
  have hb := B.bytes
  have hr := B.returns
  have hts := atoms_spec (ws := wsX11_about) B.pre
  have hown : s.vm.findClass RX11 = some m.cls := findClass_of_methodNamed B.named
  have hlocks := B.notSynchronized
  have iX11 : ∀ w ∈ u_ws RX11 TX11 8, w ∈ wsX11_about := by decide +kernel
  have hl := lv_entry ([.ref a0, .int p, .int x]) (n := 4) (Nat.le_of_ble_eq_true rfl)
  rw [lg_entry_eq]
  generalize (lg_sl ([.ref a0, .int p, .int x]) ++ List.replicate (4 - (lg_sl ([.ref a0, .int p, .int x])).length) Slot.unset).toArray = ls at hl ⊢
  have hl : lv_has ls 4 [(0, .ref a0), (1, .int p), (2, .int x)] := hl
  have b_p : -2147483648 ≤ p_t ∧ p_t ≤ 2147483647 := h_p ▸ ⟨xi_lo p, Int.le_of_lt_add_one (xi_hi p)⟩
  have b_x : -2147483648 ≤ x_t ∧ x_t ≤ 2147483647 := h_x ▸ ⟨xi_lo x, Int.le_of_lt_add_one (xi_hi x)⟩
  obtain ⟨bk, rbk, tbk⟩ := hR.at a0 3 t_a0 (rfl : h_rs 12 3 = some (1, false)) (by decide)
  have abk : h_ad z a0 3 = bk := h_ad.at rbk
  obtain ⟨pl, rpl, tpl⟩ := hR.at bk 1 tbk (rfl : h_rs 1 1 = some (101, false)) (by decide)
  have apl : h_ad z bk 1 = pl := h_ad.at rpl
  obtain ⟨f0_2, ef0_2⟩ : ∃ v : Int32, v = I0 bk 2 := ⟨_, rfl⟩
  have qf0_2 : (I0 bk 2).toInt = f0_2.toInt := congrArg Int32.toInt ef0_2.symm
  have jf0_2 := hI.rd bk 2 tbk ef0_2 (rfl : h_bd 1 2 = (0, 60))
  obtain ⟨f0_3, ef0_3⟩ : ∃ v : Int32, v = I0 bk 3 := ⟨_, rfl⟩
  have qf0_3 : (I0 bk 3).toInt = f0_3.toInt := congrArg Int32.toInt ef0_3.symm
  have jf0_3 := hI.rd bk 3 tbk ef0_3 (rfl : h_bd 1 3 = (0, 9))
  rw [abk] at hnn
  rw [apl, qf0_2] at hnn
  refine lv_aload_n hx hb dX11_about_0 rfl (lv_at hl 0 rfl) ?_
  refine h_get (v := .ref bk) hx hb hts iX11 hown g t_a0 (by decide) so_12 rfl 3 (by decide) (hts (.fieldLink RX11 37 "CapLeague" "books" "LCapLeague$Books;") (by decide +kernel)) rfl dX11_about_1 (by show va_rf (z.R a0 3) = _; rw [rbk]; rfl) ?_
  refine lv_iload_n hx hb dX11_about_4 rfl (lv_at hl 1 rfl) ?_
  refine va_csq (W.runV (As := [.int p]) (rest := []) ⟨hx, hb, hml, hown, hts⟩ (tX0_playerAtF l E X A z I0 L0 bk tbk p (p_t) h_p) (cwV 1 hts gX11_about_X0_playerAt rfl rfl rfl (by decide +kernel) ⟨Nat.le_of_ble_eq_true rfl, Nat.le_of_ble_eq_true rfl⟩) ⟨h_blind _ _ _ _ _ _ _, h_recv g tbk (by decide) so_1 (q := (RX0, TX0, 9)) rfl, h_pre _ hE hk hX hA hI hR g⟩ rfl rfl hl.1 rfl (lv_room (Nat.le_of_ble_eq_true rfl)) dX11_about_5 ⟨Nat.le_of_ble_eq_true rfl, Nat.le_of_ble_eq_true rfl⟩) (fun rh1 h1 => ?_)
  obtain ⟨h1, h1p0⟩ := h1
  rcases h1 with rfl | ⟨rh1, rfl, trh1⟩
  · refine xw_v (v := .null) rfl ?_
    rw [apl, qf0_2] at h1p0
    have hno : ¬ (0 ≤ p_t ∧ p_t < f0_2.toInt) := by rcases h1p0 with ⟨a1, a2, a3⟩ | ⟨a1, _⟩; exact absurd a3.symm (hnn _ (by omega)); exact a1
    refine lv_astore_nN (lv' := [(3, .null), (0, .ref a0), (1, .int p), (2, .int x)]) hx hb dX11_about_8 rfl hl (by decide) rfl (fun ls hl => ?_)
    refine lv_aload_nN hx hb dX11_about_9 rfl (lv_at hl 0 rfl) ?_
    refine lv_ifnonnullN hx hb dX11_about_10 ?_
    refine lv_bipush (v := (-9)) hx hb dX11_about_13 (by decide) ?_
    refine lv_goto (tgt := 23) hx hb dX11_about_15 (by decide) ?_
    exact W.iret (v := (-9)) hx hb hr (fun t ht hW => ⟨(-9), rfl, (by rw [abk, apl, qf0_2]; exact Or.inl ⟨hno, by decide⟩), ht⟩) (fun _ h => by cases h) dX11_about_23
  · refine xw_v (v := .ref rh1) rfl ?_
    rw [apl, qf0_2] at h1p0
    have rp : z.R pl p_t.toNat = some rh1 := by rcases h1p0 with ⟨a1, a2, a3⟩ | ⟨_, a2⟩; exact a3.symm; cases a2
    have hpr : 0 ≤ p_t ∧ p_t < f0_2.toInt := by rcases h1p0 with ⟨a1, a2, a3⟩ | ⟨_, a2⟩; exact ⟨a1, a2⟩; cases a2
    have ap := h_ad.at rp
    refine lv_astore_n (lv' := [(3, .ref rh1), (0, .ref a0), (1, .int p), (2, .int x)]) hx hb dX11_about_8 rfl hl (by decide) rfl (fun ls hl => ?_)
    refine lv_aload_n hx hb dX11_about_9 rfl (lv_at hl 0 rfl) ?_
    refine lv_ifnonnull (tgt := 18) hx hb dX11_about_10 (by decide) ?_
    refine lv_aload_n hx hb dX11_about_18 rfl (lv_at hl 0 rfl) ?_
    refine lv_iload_n hx hb dX11_about_19 rfl (lv_at hl 3 rfl) ?_
    refine vp_callSi (W.runV (As := [.int x]) (rest := []) ⟨hx, hb, hml, hown, hts⟩ (tX6_factB l E X A z I0 L0 rh1 trh1 x (x_t) h_x) (cwV 1 hts gX11_about_X6_fact rfl rfl rfl (by decide +kernel) ⟨Nat.le_of_ble_eq_true rfl, Nat.le_of_ble_eq_true rfl⟩) ⟨h_blind _ _ _ _ _ _ _, h_recv g trh1 (by decide) so_7 (q := (RX6, TX6, 9)) rfl, h_pre _ hE hk hX hA hI hR g⟩ rfl rfl hl.1 rfl (lv_room (Nat.le_of_ble_eq_true rfl)) dX11_about_20 ⟨Nat.le_of_ble_eq_true rfl, Nat.le_of_ble_eq_true rfl⟩) (fun rh2 h2 => ?_)
    have h2p0 := h2
    have jrh2 : -2147483648 ≤ rh2.toInt ∧ rh2.toInt ≤ 2147483647 := ⟨xi_lo _, Int.le_of_lt_add_one (xi_hi _)⟩
    exact W.iret (v := rh2) hx hb hr (fun t ht hW => ⟨rh2, rfl, (by rw [abk, apl, qf0_2]; rw [ap]; exact Or.inr ⟨hpr, h2p0⟩), ht⟩) (fun _ h => by cases h) dX11_about_23
set_option maxHeartbeats 4000000 in
set_option maxRecDepth 100000 in
theorem tX11_clubB (l : Launch) (E : tE) (X : tX) (A : Nat → Prop) (z : tZ) (I0 : tI) (L0 : tL) (a0 : Nat) (t_a0 : z.ty a0 = 12) (c : Int32) (c_t : Int) (h_c : c.toInt = c_t) (y : Int32) (y_t : Int) (h_y : y.toInt = y_t) (x : Int32) (x_t : Int) (h_x : x.toInt = x_t) (u_ : Nat → Int) (hcl : ∀ b : Nat, h_of (z.R (h_ad z (h_ad z (h_ad z a0 3) 0) 1)) (h_ad z (h_ad z (h_ad z a0 3) 0) 0) (I0 (h_ad z a0 3) 3).toInt b → h_lw I0 b (h_ad z b 0) (h_ad z b 1) u_) (hob : q_okb u_) (hnn : ∀ p : Nat, (p : Int) < (I0 (h_ad z a0 3) 2).toInt → z.R (h_ad z (h_ad z a0 3) 1) p ≠ none) : Met l yX11_club wsX11_club ({ frames := 5, cells := 0, slots := 0, locals := 320 }) (va_Pc [.ref a0, .int c, .int y, .int x] (h_P E X A z I0 L0)) (vp_Si (fun r => (((¬ (0 ≤ c_t ∧ c_t ≤ 7 ∧ (I0 (h_ad z a0 3) 3).toInt ≤ y_t ∧ y_t ≤ 9) ∨ x_t < 0 ∨ 3 < x_t) ∧ r.toInt = -2) ∨ ((0 ≤ c_t ∧ c_t ≤ 7 ∧ (I0 (h_ad z a0 3) 3).toInt ≤ y_t ∧ y_t ≤ 9) ∧ ((x_t = 0 ∧ r = c_cnt z I0 (h_ad z a0 3) c_t y (u_ 6)) ∨ (x_t = 1 ∧ r = I0 (h_ad z (h_ad z (h_ad z a0 3) 4) c_t.toNat) y_t.toNat) ∨ (x_t = 2 ∧ r = c_many z I0 (h_ad z a0 3) c_t y) ∨ (x_t = 3 ∧ ((y_t = (I0 (h_ad z a0 3) 3).toInt ∧ (I0 (h_ad z (h_ad z a0 3) 5) c_t.toNat).toInt ≠ 0 ∧ r.toInt = 1) ∨ (¬ (y_t = (I0 (h_ad z a0 3) 3).toInt ∧ (I0 (h_ad z (h_ad z a0 3) 5) c_t.toNat).toInt ≠ 0) ∧ r.toInt = 0)))))))) 0 0 (fun _ => False) := by
  refine Met.ofW (cc := cX11_club) (maxL := 4) (ret := (some .int)) (by decide) rfl ?_
  intro pr_ ev_ s m args below meth cd_ s₁ B hml hv
  obtain ⟨rfl, hE, hk, hX, hA, hK, hI, hR, hB0⟩ := hv
  have g : h_G h_so h_fk E A z I0 L0 s s.heap s.heap [] := ⟨hK, va_S.rf, hB0⟩
  have hx := B.exec
  have hb := B.bytes
  have hr := B.returns
  have hts := atoms_spec (ws := wsX11_club) B.pre
  have hown : s.vm.findClass RX11 = some m.cls := findClass_of_methodNamed B.named
  have hlocks := B.notSynchronized
  have iX11 : ∀ w ∈ u_ws RX11 TX11 8, w ∈ wsX11_club := by decide +kernel
  have iX0 : ∀ w ∈ u_ws RX0 TX0 9, w ∈ wsX11_club := by decide +kernel
  have hl := lv_entry ([.ref a0, .int c, .int y, .int x]) (n := 4) (Nat.le_of_ble_eq_true rfl)
  rw [lg_entry_eq]
  generalize (lg_sl ([.ref a0, .int c, .int y, .int x]) ++ List.replicate (4 - (lg_sl ([.ref a0, .int c, .int y, .int x])).length) Slot.unset).toArray = ls at hl ⊢
  have hl : lv_has ls 4 [(0, .ref a0), (1, .int c), (2, .int y), (3, .int x)] := hl
  have b_c : -2147483648 ≤ c_t ∧ c_t ≤ 2147483647 := h_c ▸ ⟨xi_lo c, Int.le_of_lt_add_one (xi_hi c)⟩
  have b_y : -2147483648 ≤ y_t ∧ y_t ≤ 2147483647 := h_y ▸ ⟨xi_lo y, Int.le_of_lt_add_one (xi_hi y)⟩
  have b_x : -2147483648 ≤ x_t ∧ x_t ≤ 2147483647 := h_x ▸ ⟨xi_lo x, Int.le_of_lt_add_one (xi_hi x)⟩
  obtain ⟨bk, rbk, tbk⟩ := hR.at a0 3 t_a0 (rfl : h_rs 12 3 = some (1, false)) (by decide)
  have abk : h_ad z a0 3 = bk := h_ad.at rbk
  obtain ⟨pl, rpl, tpl⟩ := hR.at bk 1 tbk (rfl : h_rs 1 1 = some (101, false)) (by decide)
  have apl : h_ad z bk 1 = pl := h_ad.at rpl
  obtain ⟨su, rsu, tsu⟩ := hR.at bk 5 tbk (rfl : h_rs 1 5 = some (105, false)) (by decide)
  have asu : h_ad z bk 5 = su := h_ad.at rsu
  obtain ⟨bg, rbg, tbg⟩ := hR.at a0 5 t_a0 (rfl : h_rs 12 5 = some (10, false)) (by decide)
  have abg : h_ad z a0 5 = bg := h_ad.at rbg
  obtain ⟨dd, rdd, tdd⟩ := hR.at bk 4 tbk (rfl : h_rs 1 4 = some (104, false)) (by decide)
  have add : h_ad z bk 4 = dd := h_ad.at rdd
  obtain ⟨f0_2, ef0_2⟩ : ∃ v : Int32, v = I0 bk 2 := ⟨_, rfl⟩
  have qf0_2 : (I0 bk 2).toInt = f0_2.toInt := congrArg Int32.toInt ef0_2.symm
  have jf0_2 := hI.rd bk 2 tbk ef0_2 (rfl : h_bd 1 2 = (0, 60))
  obtain ⟨f0_3, ef0_3⟩ : ∃ v : Int32, v = I0 bk 3 := ⟨_, rfl⟩
  have qf0_3 : (I0 bk 3).toInt = f0_3.toInt := congrArg Int32.toInt ef0_3.symm
  have jf0_3 := hI.rd bk 3 tbk ef0_3 (rfl : h_bd 1 3 = (0, 9))
  rw [abk] at hcl hnn
  have hnn0 := hnn
  rw [apl, qf0_2] at hnn
  refine lv_iload_n hx hb dX11_club_0 rfl (lv_at hl 1 rfl) ?_
  refine vp_callSi (W.runS (As := [.int c]) (rest := []) ⟨hx, hb, hml, hown, hts⟩ (tX11_isClub l E X A z I0 L0 c (c_t) h_c) (va_cwS 1 hts gX11_club_X11_isClub rfl rfl rfl (by decide +kernel) ⟨Nat.le_of_ble_eq_true rfl, Nat.le_of_ble_eq_true rfl⟩) ⟨h_blind _ _ _ _ _ _ _, h_pre _ hE hk hX hA hI hR g⟩ rfl rfl hl.1 rfl (lv_room (Nat.le_of_ble_eq_true rfl)) dX11_club_1 ⟨Nat.le_of_ble_eq_true rfl, Nat.le_of_ble_eq_true rfl⟩) (fun rh1 h1 => ?_)
  rcases h1 with ⟨rfl, h1⟩ | ⟨rfl, h1⟩
  · skip
    refine lv_if_eq (tgt := 18) hx hb dX11_club_4 (by decide) (fun _ => ?_) (fun h => absurd (by decide) h)
    refine lv_bipush (v := (-2)) hx hb dX11_club_18 (by decide) ?_
    exact W.iret (v := (-2)) hx hb hr (fun t ht hW => ⟨(-2), rfl, (by rw [abk, qf0_3]; exact Or.inl ⟨by omega, by decide⟩), ht⟩) (fun _ h => by cases h) dX11_club_20
  · skip
    refine lv_if_eq (tgt := 18) hx hb dX11_club_4 (by decide) (fun h => absurd h (by decide)) (fun _ => ?_)
    refine lv_aload_n hx hb dX11_club_7 rfl (lv_at hl 0 rfl) ?_
    refine h_get (v := .ref bk) hx hb hts iX11 hown g t_a0 (by decide) so_12 rfl 3 (by decide) (hts (.fieldLink RX11 37 "CapLeague" "books" "LCapLeague$Books;") (by decide +kernel)) rfl dX11_club_8 (by show va_rf (z.R a0 3) = _; rw [rbk]; rfl) ?_
    refine lv_iload_n hx hb dX11_club_11 rfl (lv_at hl 2 rfl) ?_
    refine vp_callSi (W.runV (As := [.int y]) (rest := []) ⟨hx, hb, hml, hown, hts⟩ (tX0_isNowX l E X A z I0 L0 bk tbk y (y_t) h_y) (cwV 1 hts gX11_club_X0_isNowOrLater rfl rfl rfl (by decide +kernel) ⟨Nat.le_of_ble_eq_true rfl, Nat.le_of_ble_eq_true rfl⟩) ⟨h_blind _ _ _ _ _ _ _, h_recv g tbk (by decide) so_1 (q := (RX0, TX0, 9)) rfl, h_pre _ hE hk hX hA hI hR g⟩ rfl rfl hl.1 rfl (lv_room (Nat.le_of_ble_eq_true rfl)) dX11_club_12 ⟨Nat.le_of_ble_eq_true rfl, Nat.le_of_ble_eq_true rfl⟩) (fun rh4 h4 => ?_)
    obtain ⟨h4, h4p0⟩ := h4
    rw [qf0_3] at h4p0
    refine lv_if_ne (tgt := 21) hx hb dX11_club_15 (by decide) (fun c5 => ?_) (fun c5 => ?_)
    · have ic5 := (xi_ne c5 rfl (by decide) : rh4.toInt ≠ 0)
      have hyr : f0_3.toInt ≤ y_t ∧ 0 ≤ y_t ∧ y_t ≤ 9 := by omega
      have kc : c.toNatClampNeg = c_t.toNat := h_keq h_c (by omega) (by omega)
      have ky : y.toNatClampNeg = y_t.toNat := h_keq h_y (by omega) (by omega)
      refine lv_iload_n hx hb dX11_club_21 rfl (lv_at hl 3 rfl) ?_
      have qc6 : x.toInt = x_t := h_x
      rcases (show (x.toInt < 0 ∨ 3 < x.toInt) ∨ x.toInt = 0 ∨ x.toInt = 1 ∨ x.toInt = 2 ∨ x.toInt = 3 by omega) with c6 | c6 | c6 | c6 | c6
      · refine lv_tableOut (tgt := 113) hx hb dX11_club_22 c6 (by decide) ?_
        refine lv_bipush (v := (-2)) hx hb dX11_club_113 (by decide) ?_
        exact W.iret (v := (-2)) hx hb hr (fun t ht hW => ⟨(-2), rfl, (by rw [abk, qf0_3]; exact Or.inl ⟨by omega, by decide⟩), ht⟩) (fun _ h => by cases h) dX11_club_115
      · refine lv_tableIn (off := 30) (tgt := 52) hx hb dX11_club_22 (by omega) (by omega) (by rw [show (x.toInt - 0).toNat = 0 by omega]; rfl) (by decide) ?_
        refine lv_aload_n hx hb dX11_club_52 rfl (lv_at hl 0 rfl) ?_
        refine h_get (v := .ref bk) hx hb hts iX11 hown g t_a0 (by decide) so_12 rfl 3 (by decide) (hts (.fieldLink RX11 37 "CapLeague" "books" "LCapLeague$Books;") (by decide +kernel)) rfl dX11_club_53 (by show va_rf (z.R a0 3) = _; rw [rbk]; rfl) ?_
        refine lv_iload_n hx hb dX11_club_56 rfl (lv_at hl 1 rfl) ?_
        refine lv_iload_n hx hb dX11_club_57 rfl (lv_at hl 2 rfl) ?_
        refine vp_callSi (W.runV (As := [.int c, .int y]) (rest := []) ⟨hx, hb, hml, hown, hts⟩ (tX0_countsB l E X A z I0 L0 bk tbk c (c_t) h_c (by omega) y (y_t) h_y (by omega) (u_) (hcl) (hob) (hnn0)) (cwV 2 hts gX11_club_X0_counts rfl rfl rfl (by decide +kernel) ⟨Nat.le_of_ble_eq_true rfl, Nat.le_of_ble_eq_true rfl⟩) ⟨h_blind _ _ _ _ _ _ _, h_recv g tbk (by decide) so_1 (q := (RX0, TX0, 9)) rfl, h_pre _ hE hk hX hA hI hR g⟩ rfl rfl hl.1 rfl (lv_room (Nat.le_of_ble_eq_true rfl)) dX11_club_58 ⟨Nat.le_of_ble_eq_true rfl, Nat.le_of_ble_eq_true rfl⟩) (fun rh7 h7 => ?_)
        have h7p0 := h7
        have jrh7 : -2147483648 ≤ rh7.toInt ∧ rh7.toInt ≤ 2147483647 := ⟨xi_lo _, Int.le_of_lt_add_one (xi_hi _)⟩
        exact W.iret (v := rh7) hx hb hr (fun t ht hW => ⟨rh7, rfl, (by rw [abk, qf0_3]; refine Or.inr ⟨by omega, ?_⟩; exact Or.inl ⟨by omega, h7p0⟩), ht⟩) (fun _ h => by cases h) dX11_club_61
      · refine lv_tableIn (off := 40) (tgt := 62) hx hb dX11_club_22 (by omega) (by omega) (by rw [show (x.toInt - 0).toNat = 1 by omega]; rfl) (by decide) ?_
        refine lv_aload_n hx hb dX11_club_62 rfl (lv_at hl 0 rfl) ?_
        refine h_get (v := .ref bk) hx hb hts iX11 hown g t_a0 (by decide) so_12 rfl 3 (by decide) (hts (.fieldLink RX11 37 "CapLeague" "books" "LCapLeague$Books;") (by decide +kernel)) rfl dX11_club_63 (by show va_rf (z.R a0 3) = _; rw [rbk]; rfl) ?_
        refine h_get (v := .ref dd) hx hb hts iX0 hown g tbk (by decide) so_1 rfl 4 (by decide) (hts (.fieldLink RX11 178 "CapLeague$Books" "dead" "[[I") (by decide +kernel)) rfl dX11_club_66 (by show va_rf (z.R bk 4) = _; rw [rdd]; rfl) ?_
        refine lv_iload_n hx hb dX11_club_69 rfl (lv_at hl 1 rfl) ?_
        obtain ⟨b8, rb8, tb8⟩ := hR.at dd c.toNatClampNeg tdd (rfl : h_rs 104 _ = some (154, false)) (by rw [so_104]; exact h_lt (n := 8) (xi_in (by rw [h_c]; omega) (by rw [h_c]; omega)))
        refine h_aldA (v := .ref b8) hx hb g tdd (by decide) so_104 (xi_in (by rw [h_c]; omega) (by rw [h_c]; omega)) dX11_club_70 (by rw [rb8]; rfl) ?_
        refine lv_iload_n hx hb dX11_club_71 rfl (lv_at hl 2 rfl) ?_
        refine h_ald hx hb g tb8 (by decide) so_154 (xi_in (by rw [h_y]; omega) (by rw [h_y]; omega)) dX11_club_72 ?_
        refine lv_topi (fun v9 ev9 => ?_)
        have jv9 := hI.rd b8 y.toNatClampNeg tb8 ev9 (rfl : h_bd 154 _ = ((-2147483648), 2147483647))
        exact W.iret (v := v9) hx hb hr (fun t ht hW => ⟨v9, rfl, (by rw [abk, qf0_3]; refine Or.inr ⟨by omega, ?_⟩; refine Or.inr (Or.inl ⟨by omega, ?_⟩); rw [add, ← kc, ← ky, h_ad.at rb8]; exact ev9), ht⟩) (fun _ h => by cases h) dX11_club_73
      · refine lv_tableIn (off := 52) (tgt := 74) hx hb dX11_club_22 (by omega) (by omega) (by rw [show (x.toInt - 0).toNat = 2 by omega]; rfl) (by decide) ?_
        refine lv_aload_n hx hb dX11_club_74 rfl (lv_at hl 0 rfl) ?_
        refine h_get (v := .ref bk) hx hb hts iX11 hown g t_a0 (by decide) so_12 rfl 3 (by decide) (hts (.fieldLink RX11 37 "CapLeague" "books" "LCapLeague$Books;") (by decide +kernel)) rfl dX11_club_75 (by show va_rf (z.R a0 3) = _; rw [rbk]; rfl) ?_
        refine lv_iload_n hx hb dX11_club_78 rfl (lv_at hl 1 rfl) ?_
        refine lv_iload_n hx hb dX11_club_79 rfl (lv_at hl 2 rfl) ?_
        refine vp_callSi (W.runV (As := [.int c, .int y]) (rest := []) ⟨hx, hb, hml, hown, hts⟩ (tX0_playersInB l E X A z I0 L0 bk tbk c (c_t) h_c y (y_t) h_y (hnn0)) (cwV 2 hts gX11_club_X0_playersIn rfl rfl rfl (by decide +kernel) ⟨Nat.le_of_ble_eq_true rfl, Nat.le_of_ble_eq_true rfl⟩) ⟨h_blind _ _ _ _ _ _ _, h_recv g tbk (by decide) so_1 (q := (RX0, TX0, 9)) rfl, h_pre _ hE hk hX hA hI hR g⟩ rfl rfl hl.1 rfl (lv_room (Nat.le_of_ble_eq_true rfl)) dX11_club_80 ⟨Nat.le_of_ble_eq_true rfl, Nat.le_of_ble_eq_true rfl⟩) (fun rh10 h10 => ?_)
        have h10p0 := h10
        have jrh10 : -2147483648 ≤ rh10.toInt ∧ rh10.toInt ≤ 2147483647 := ⟨xi_lo _, Int.le_of_lt_add_one (xi_hi _)⟩
        exact W.iret (v := rh10) hx hb hr (fun t ht hW => ⟨rh10, rfl, (by rw [abk, qf0_3]; refine Or.inr ⟨by omega, ?_⟩; exact Or.inr (Or.inr (Or.inl ⟨by omega, h10p0⟩))), ht⟩) (fun _ h => by cases h) dX11_club_83
      · refine lv_tableIn (off := 62) (tgt := 84) hx hb dX11_club_22 (by omega) (by omega) (by rw [show (x.toInt - 0).toNat = 3 by omega]; rfl) (by decide) ?_
        refine lv_iload_n hx hb dX11_club_84 rfl (lv_at hl 2 rfl) ?_
        refine lv_aload_n hx hb dX11_club_85 rfl (lv_at hl 0 rfl) ?_
        refine h_get (v := .ref bk) hx hb hts iX11 hown g t_a0 (by decide) so_12 rfl 3 (by decide) (hts (.fieldLink RX11 37 "CapLeague" "books" "LCapLeague$Books;") (by decide +kernel)) rfl dX11_club_86 (by show va_rf (z.R a0 3) = _; rw [rbk]; rfl) ?_
        refine h_get (v := .int f0_3) hx hb hts iX0 hown g tbk (by decide) so_1 rfl 3 (by decide) (hts (.fieldLink RX11 142 "CapLeague$Books" "clock" "I") (by decide +kernel)) rfl dX11_club_89 (congrArg Value.int (ef0_3.symm)) ?_
        refine lv_icmp_ne (tgt := 111) hx hb dX11_club_92 (by decide) (fun c11 => ?_) (fun c11 => ?_)
        · have ic11 := (xi_ne c11 h_y rfl : y_t ≠ f0_3.toInt)
          refine lv_iconst (v := 0) hx hb dX11_club_111 (by decide) ?_
          exact W.iret (v := 0) hx hb hr (fun t ht hW => ⟨0, rfl, (by rw [abk, qf0_3]; refine Or.inr ⟨by omega, ?_⟩; refine Or.inr (Or.inr (Or.inr ⟨by omega, ?_⟩)); rw [asu]; have z9 : (0 : Int32).toInt = 0 := (by decide); omega), ht⟩) (fun _ h => by cases h) dX11_club_112
        · have ic11 := (xi_eq c11 h_y rfl : y_t = f0_3.toInt)
          refine lv_aload_n hx hb dX11_club_95 rfl (lv_at hl 0 rfl) ?_
          refine h_get (v := .ref bk) hx hb hts iX11 hown g t_a0 (by decide) so_12 rfl 3 (by decide) (hts (.fieldLink RX11 37 "CapLeague" "books" "LCapLeague$Books;") (by decide +kernel)) rfl dX11_club_96 (by show va_rf (z.R a0 3) = _; rw [rbk]; rfl) ?_
          refine h_get (v := .ref su) hx hb hts iX0 hown g tbk (by decide) so_1 rfl 5 (by decide) (hts (.fieldLink RX11 185 "CapLeague$Books" "spareUsed" "[Z") (by decide +kernel)) rfl dX11_club_99 (by show va_rf (z.R bk 5) = _; rw [rsu]; rfl) ?_
          refine lv_iload_n hx hb dX11_club_102 rfl (lv_at hl 1 rfl) ?_
          refine h_zald hx hb g tsu (by decide) so_105 (xi_in (by rw [h_c]; omega) (by rw [h_c]; omega)) dX11_club_103 ?_
          refine lv_topi (fun v12 ev12 => ?_)
          have jv12 := hI.rd su c.toNatClampNeg tsu ev12 (rfl : h_bd 105 _ = (0, 1))
          refine lv_if_eq (tgt := 111) hx hb dX11_club_104 (by decide) (fun c13 => ?_) (fun c13 => ?_)
          · have ic13 := (xi_eq c13 rfl (by decide) : v12.toInt = 0)
            refine lv_iconst (v := 0) hx hb dX11_club_111 (by decide) ?_
            exact W.iret (v := 0) hx hb hr (fun t ht hW => ⟨0, rfl, (by rw [abk, qf0_3]; refine Or.inr ⟨by omega, ?_⟩; refine Or.inr (Or.inr (Or.inr ⟨by omega, ?_⟩)); rw [asu, ← kc, ← ev12]; have z9 : (0 : Int32).toInt = 0 := (by decide); omega), ht⟩) (fun _ h => by cases h) dX11_club_112
          · have ic13 := (xi_ne c13 rfl (by decide) : v12.toInt ≠ 0)
            refine lv_iconst (v := 1) hx hb dX11_club_107 (by decide) ?_
            refine lv_goto (tgt := 112) hx hb dX11_club_108 (by decide) ?_
            exact W.iret (v := 1) hx hb hr (fun t ht hW => ⟨1, rfl, (by rw [abk, qf0_3]; refine Or.inr ⟨by omega, ?_⟩; refine Or.inr (Or.inr (Or.inr ⟨by omega, ?_⟩)); rw [asu, ← kc, ← ev12]; have z9 : (1 : Int32).toInt = 1 := (by decide); omega), ht⟩) (fun _ h => by cases h) dX11_club_112
    · have ic5 := (xi_eq c5 rfl (by decide) : rh4.toInt = 0)
      refine lv_bipush (v := (-2)) hx hb dX11_club_18 (by decide) ?_
      exact W.iret (v := (-2)) hx hb hr (fun t ht hW => ⟨(-2), rfl, (by rw [abk, qf0_3]; exact Or.inl ⟨by omega, by decide⟩), ht⟩) (fun _ h => by cases h) dX11_club_20

