set_option maxHeartbeats 4000000 in
set_option maxRecDepth 100000 in
theorem tX0_playerAtN (l : Launch) (E : tE) (X : tX) (A : Nat → Prop) (z : tZ) (I0 : tI) (L0 : tL) (a0 : Nat) (t_a0 : z.ty a0 = 1) (x : Int32) (x_t : Int) (h_x : x.toInt = x_t) (b_x : 0 ≤ x_t ∧ x_t ≤ 59) (hxs : x_t < (I0 a0 2).toInt) (hnn : z.R (h_ad z a0 1) x_t.toNat ≠ none) : Met l yX0_playerAt wsX0_playerAt ({ frames := 1, cells := 0, slots := 0, locals := 64 }) (va_Pc [.ref a0, .int x] (h_P E X A z I0 L0)) (va_Sq (fun r => (∃ b, r = some b ∧ z.ty b = 7) ∧ (r = z.R (h_ad z a0 1) x_t.toNat))) 0 0 (fun _ => False) := by
  refine Met.ofW (cc := cX0_playerAt) (maxL := 2) (ret := (some (.object "CapLeague$Player"))) (by decide) rfl ?_
  intro pr_ ev_ s m args below meth cd_ s₁ B hml hv
  obtain ⟨rfl, hE, hk, hX, hA, hK, hI, hR, hB0⟩ := hv
  have g : h_G h_so h_fk E A z I0 L0 s s.heap s.heap [] := ⟨hK, va_S.rf, hB0⟩
  have hx := B.exec
  have hb := B.bytes
  have hr := B.returns
  have hts := atoms_spec (ws := wsX0_playerAt) B.pre
  have hown : s.vm.findClass RX0 = some m.cls := findClass_of_methodNamed B.named
  have hlocks := B.notSynchronized
  have iX0 : ∀ w ∈ u_ws RX0 TX0 9, w ∈ wsX0_playerAt := by decide +kernel
  have hl := lv_entry ([.ref a0, .int x]) (n := 2) (Nat.le_of_ble_eq_true rfl)
  rw [lg_entry_eq]
  generalize (lg_sl ([.ref a0, .int x]) ++ List.replicate (2 - (lg_sl ([.ref a0, .int x])).length) Slot.unset).toArray = ls at hl ⊢
  have hl : lv_has ls 2 [(0, .ref a0), (1, .int x)] := hl
  obtain ⟨pl, rpl, tpl⟩ := hR.at a0 1 t_a0 (rfl : h_rs 1 1 = some (101, false)) (by decide)
  have apl : h_ad z a0 1 = pl := h_ad.at rpl
  obtain ⟨f0_2, ef0_2⟩ : ∃ v : Int32, v = I0 a0 2 := ⟨_, rfl⟩
  have qf0_2 : (I0 a0 2).toInt = f0_2.toInt := congrArg Int32.toInt ef0_2.symm
  have jf0_2 := hI.rd a0 2 t_a0 ef0_2 (rfl : h_bd 1 2 = (0, 60))
  rw [qf0_2] at hxs
  rw [apl] at hnn
  have kx : x.toNatClampNeg = x_t.toNat := h_keq h_x (by omega) (by omega)
  refine lv_iload_n hx hb dX0_playerAt_0 rfl (lv_at hl 1 rfl) ?_
  refine lv_if_lt (tgt := 30) hx hb dX0_playerAt_1 (by decide) (fun h => absurd (xi_lt h h_x (by decide) : x_t < 0) (by omega)) (fun c1 => ?_)
  have ic1 := (xi_nlt c1 h_x (by decide) : 0 ≤ x_t)
  refine lv_iload_n hx hb dX0_playerAt_4 rfl (lv_at hl 1 rfl) ?_
  refine lv_aload_n hx hb dX0_playerAt_5 rfl (lv_at hl 0 rfl) ?_
  refine h_get (v := .int f0_2) hx hb hts iX0 hown g t_a0 (by decide) so_1 rfl 2 (by decide) (hts (.fieldLink RX0 51 "CapLeague$Books" "size" "I") (by decide +kernel)) rfl dX0_playerAt_6 (congrArg Value.int (ef0_2.symm)) ?_
  refine lv_icmp_ge (tgt := 30) hx hb dX0_playerAt_9 (by decide) (fun h => absurd (xi_le h rfl h_x : f0_2.toInt ≤ x_t) (by omega)) (fun c2 => ?_)
  have ic2 := (xi_nle c2 rfl h_x : x_t < f0_2.toInt)
  refine lv_iload_n hx hb dX0_playerAt_12 rfl (lv_at hl 1 rfl) ?_
  refine lv_aload_n hx hb dX0_playerAt_13 rfl (lv_at hl 0 rfl) ?_
  refine h_get (v := .ref pl) hx hb hts iX0 hown g t_a0 (by decide) so_1 rfl 1 (by decide) (hts (.fieldLink RX0 11 "CapLeague$Books" "players" "[LCapLeague$Player;") (by decide +kernel)) rfl dX0_playerAt_14 (by show va_rf (z.R a0 1) = _; rw [rpl]; rfl) ?_
  refine h_alen (v := 60) hx hb g tpl (by decide) (Or.inr (Or.inr (Or.inr (Or.inr (Or.inl so_101))))) rfl dX0_playerAt_17 ?_
  refine lv_icmp_ge (tgt := 30) hx hb dX0_playerAt_18 (by decide) (fun h => absurd (xi_le h (by decide) h_x : 60 ≤ x_t) (by omega)) (fun c3 => ?_)
  have ic3 := (xi_nle c3 (by decide) h_x : x_t < 60)
  refine lv_aload_n hx hb dX0_playerAt_21 rfl (lv_at hl 0 rfl) ?_
  refine h_get (v := .ref pl) hx hb hts iX0 hown g t_a0 (by decide) so_1 rfl 1 (by decide) (hts (.fieldLink RX0 11 "CapLeague$Books" "players" "[LCapLeague$Player;") (by decide +kernel)) rfl dX0_playerAt_22 (by show va_rf (z.R a0 1) = _; rw [rpl]; rfl) ?_
  refine lv_iload_n hx hb dX0_playerAt_25 rfl (lv_at hl 1 rfl) ?_
  rcases hR.nl pl x.toNatClampNeg tpl (rfl : h_rs 101 _ = some (7, true)) (by rw [so_101]; exact h_lt (n := 60) (xi_in (by rw [h_x]; omega) (by rw [h_x]; omega))) with rb4 | ⟨b4, rb4, tb4⟩
  · refine h_aldP (v := .null) hx hb g tpl (by decide) so_101 (xi_in (by rw [h_x]; omega) (by rw [h_x]; omega)) dX0_playerAt_26 (by rw [rb4]; rfl) ?_
    refine lv_goto (tgt := 31) hx hb dX0_playerAt_27 (by decide) ?_
    exact absurd (by rw [← kx]; exact rb4) hnn
  · refine h_aldP (v := .ref b4) hx hb g tpl (by decide) so_101 (xi_in (by rw [h_x]; omega) (by rw [h_x]; omega)) dX0_playerAt_26 (by rw [rb4]; rfl) ?_
    refine lv_goto (tgt := 31) hx hb dX0_playerAt_27 (by decide) ?_
    exact W.aret (v := .ref b4) hx hb hr (Or.inl ⟨_, rfl⟩) (Or.inr ⟨_, rfl⟩) (fun t ht hW => ⟨some b4, rfl, ⟨⟨b4, rfl, tb4⟩, (by rw [apl, ← kx]; exact rb4.symm)⟩, ht⟩) (fun _ h => by cases h) dX0_playerAt_31
set_option maxHeartbeats 4000000 in
set_option maxRecDepth 100000 in
theorem tX0_countsB (l : Launch) (E : tE) (X : tX) (A : Nat → Prop) (z : tZ) (I0 : tI) (L0 : tL) (a0 : Nat) (t_a0 : z.ty a0 = 1) (c : Int32) (c_t : Int) (h_c : c.toInt = c_t) (b_c : 0 ≤ c_t ∧ c_t ≤ 7) (y : Int32) (y_t : Int) (h_y : y.toInt = y_t) (b_y : 0 ≤ y_t ∧ y_t ≤ 9) (u_ : Nat → Int) (hcl : ∀ b : Nat, h_of (z.R (h_ad z (h_ad z a0 0) 1)) (h_ad z (h_ad z a0 0) 0) (I0 a0 3).toInt b → h_lw I0 b (h_ad z b 0) (h_ad z b 1) u_) (hob : q_okb u_) (hnn : ∀ p : Nat, (p : Int) < (I0 a0 2).toInt → z.R (h_ad z a0 1) p ≠ none) : Met l yX0_counts wsX0_counts ({ frames := 4, cells := 0, slots := 0, locals := 256 }) (va_Pc [.ref a0, .int c, .int y] (h_P E X A z I0 L0)) (vp_Si (fun r => (r = c_cnt z I0 a0 c_t y (u_ 6)))) 0 0 (fun _ => False) := by
  refine Met.ofW (cc := cX0_counts) (maxL := 6) (ret := (some .int)) (by decide) rfl ?_
  intro pr_ ev_ s m args below meth cd_ s₁ B hml hv
  obtain ⟨rfl, hE, hk, hX, hA, hK, hI, hR, hB0⟩ := hv
  have g : h_G h_so h_fk E A z I0 L0 s s.heap s.heap [] := ⟨hK, va_S.rf, hB0⟩
  have hx := B.exec
  have hb := B.bytes
  have hr := B.returns
  have hts := atoms_spec (ws := wsX0_counts) B.pre
  have hown : s.vm.findClass RX0 = some m.cls := findClass_of_methodNamed B.named
  have hlocks := B.notSynchronized
  have iX0 : ∀ w ∈ u_ws RX0 TX0 9, w ∈ wsX0_counts := by decide +kernel
  have iX6 : ∀ w ∈ u_ws RX6 TX6 9, w ∈ wsX0_counts := by decide +kernel
  have hl := lv_entry ([.ref a0, .int c, .int y]) (n := 6) (Nat.le_of_ble_eq_true rfl)
  rw [lg_entry_eq]
  generalize (lg_sl ([.ref a0, .int c, .int y]) ++ List.replicate (6 - (lg_sl ([.ref a0, .int c, .int y])).length) Slot.unset).toArray = ls at hl ⊢
  have hl : lv_has ls 6 [(0, .ref a0), (1, .int c), (2, .int y)] := hl
  obtain ⟨lb, rlb, tlb⟩ := hR.at a0 0 t_a0 (rfl : h_rs 1 0 = some (4, false)) (by decide)
  have alb : h_ad z a0 0 = lb := h_ad.at rlb
  obtain ⟨un, run, tun⟩ := hR.at lb 0 tlb (rfl : h_rs 4 0 = some (6, false)) (by decide)
  have aun : h_ad z lb 0 = un := h_ad.at run
  obtain ⟨tx, rtx, ttx⟩ := hR.at lb 1 tlb (rfl : h_rs 4 1 = some (401, false)) (by decide)
  have atx : h_ad z lb 1 = tx := h_ad.at rtx
  obtain ⟨pl, rpl, tpl⟩ := hR.at a0 1 t_a0 (rfl : h_rs 1 1 = some (101, false)) (by decide)
  have apl : h_ad z a0 1 = pl := h_ad.at rpl
  obtain ⟨dd, rdd, tdd⟩ := hR.at a0 4 t_a0 (rfl : h_rs 1 4 = some (104, false)) (by decide)
  have add : h_ad z a0 4 = dd := h_ad.at rdd
  obtain ⟨f0_3, ef0_3⟩ : ∃ v : Int32, v = I0 a0 3 := ⟨_, rfl⟩
  have qf0_3 : (I0 a0 3).toInt = f0_3.toInt := congrArg Int32.toInt ef0_3.symm
  have jf0_3 := hI.rd a0 3 t_a0 ef0_3 (rfl : h_bd 1 3 = (0, 9))
  obtain ⟨f0_2, ef0_2⟩ : ∃ v : Int32, v = I0 a0 2 := ⟨_, rfl⟩
  have qf0_2 : (I0 a0 2).toInt = f0_2.toInt := congrArg Int32.toInt ef0_2.symm
  have jf0_2 := hI.rd a0 2 t_a0 ef0_2 (rfl : h_bd 1 2 = (0, 60))
  rw [alb, aun, atx, qf0_3] at hcl
  rw [apl, qf0_2] at hnn
  have qy : y.toInt = y_t := h_y
  have kc : c.toNatClampNeg = c_t.toNat := h_keq h_c (by omega) (by omega)
  have ky : y.toNatClampNeg = y_t.toNat := h_keq h_y (by omega) (by omega)
  obtain ⟨ro, rro, tro⟩ := hR.at dd c_t.toNat tdd (rfl : h_rs 104 _ = some (154, false)) (by rw [so_104]; show _ < 8; omega)
  obtain ⟨D, eD⟩ : ∃ v : Int32, v = I0 ro y_t.toNat := ⟨_, rfl⟩
  refine lv_iload_n hx hb dX0_counts_0 rfl (lv_at hl 1 rfl) ?_
  refine vp_callSi (xr_of (va_runSN (As := [.int c]) (rest := []) ⟨hx, hb, hml, hown, hts⟩ (tX11_isClub l E X A z I0 L0 c (c_t) h_c) (⟨va_cnB 1 hts gX0_counts_X11_isClub_n79 rfl rfl rfl (hE.link 8 rfl) (hts (.initialized RX11) (by decide +kernel)) (by decide +kernel) ⟨Nat.le_of_ble_eq_true rfl, Nat.le_of_ble_eq_true rfl⟩, hts (.static yX11_isClub) (by decide +kernel), trivial⟩) ⟨h_blind _ _ _ _ _ _ _, h_pre _ hE hk hX hA hI hR g⟩ rfl rfl hl.1 rfl (lv_room (Nat.le_of_ble_eq_true rfl)) dX0_counts_1 ⟨Nat.le_of_ble_eq_true rfl, Nat.le_of_ble_eq_true rfl⟩)) (fun rh1 h1 => ?_)
  rcases h1 with ⟨rfl, h1⟩ | ⟨rfl, h1⟩
  · skip
    refine lv_if_eq (tgt := 25) hx hb dX0_counts_4 (by decide) (fun _ => ?_) (fun h => absurd (by decide) h)
    refine lv_iconst (v := 0) hx hb dX0_counts_25 (by decide) ?_
    exfalso; omega
  · skip
    refine lv_if_eq (tgt := 25) hx hb dX0_counts_4 (by decide) (fun h => absurd h (by decide)) (fun _ => ?_)
    refine lv_iload_n hx hb dX0_counts_7 rfl (lv_at hl 2 rfl) ?_
    refine vp_callSi (xr_of (va_runSN (As := [.int y]) (rest := []) ⟨hx, hb, hml, hown, hts⟩ (tX11_isYear l E X A z I0 L0 y (y_t) h_y) (⟨va_cnB 1 hts gX0_counts_X11_isYear_n47 rfl rfl rfl (hE.link 5 rfl) (hts (.initialized RX11) (by decide +kernel)) (by decide +kernel) ⟨Nat.le_of_ble_eq_true rfl, Nat.le_of_ble_eq_true rfl⟩, hts (.static yX11_isYear) (by decide +kernel), trivial⟩) ⟨h_blind _ _ _ _ _ _ _, h_pre _ hE hk hX hA hI hR g⟩ rfl rfl hl.1 rfl (lv_room (Nat.le_of_ble_eq_true rfl)) dX0_counts_8 ⟨Nat.le_of_ble_eq_true rfl, Nat.le_of_ble_eq_true rfl⟩)) (fun rh4 h4 => ?_)
    rcases h4 with ⟨rfl, h4⟩ | ⟨rfl, h4⟩
    · skip
      refine lv_if_eq (tgt := 25) hx hb dX0_counts_11 (by decide) (fun _ => ?_) (fun h => absurd (by decide) h)
      refine lv_iconst (v := 0) hx hb dX0_counts_25 (by decide) ?_
      exfalso; omega
    · skip
      refine lv_if_eq (tgt := 25) hx hb dX0_counts_11 (by decide) (fun h => absurd h (by decide)) (fun _ => ?_)
      refine lv_aload_n hx hb dX0_counts_14 rfl (lv_at hl 0 rfl) ?_
      refine h_get (v := .ref dd) hx hb hts iX0 hown g t_a0 (by decide) so_1 rfl 4 (by decide) (hts (.fieldLink RX0 19 "CapLeague$Books" "dead" "[[I") (by decide +kernel)) rfl dX0_counts_15 (by show va_rf (z.R a0 4) = _; rw [rdd]; rfl) ?_
      refine lv_iload_n hx hb dX0_counts_18 rfl (lv_at hl 1 rfl) ?_
      obtain ⟨b7, rb7, tb7⟩ := hR.at dd c.toNatClampNeg tdd (rfl : h_rs 104 _ = some (154, false)) (by rw [so_104]; exact h_lt (n := 8) (xi_in (by rw [h_c]; omega) (by rw [h_c]; omega)))
      refine h_aldA (v := .ref b7) hx hb g tdd (by decide) so_104 (xi_in (by rw [h_c]; omega) (by rw [h_c]; omega)) dX0_counts_19 (by rw [rb7]; rfl) ?_
      refine lv_iload_n hx hb dX0_counts_20 rfl (lv_at hl 2 rfl) ?_
      refine h_ald hx hb g tb7 (by decide) so_154 (xi_in (by rw [h_y]; omega) (by rw [h_y]; omega)) dX0_counts_21 ?_
      refine lv_topi (fun v8 ev8 => ?_)
      have jv8 := hI.rd b7 y.toNatClampNeg tb7 ev8 (rfl : h_bd 154 _ = ((-2147483648), 2147483647))
      refine lv_goto (tgt := 26) hx hb dX0_counts_22 (by decide) ?_
      have e26D : v8 = q_sums D (c_f z I0 a0 c_t y (u_ 6)) 0 := by show v8 = D; rw [ev8, eD, ← ky]; rw [← kc] at rro; rw [rb7] at rro; cases rro; rfl
      refine lv_istore_n (lv' := [(3, .int v8), (0, .ref a0), (1, .int c), (2, .int y)]) hx hb dX0_counts_26 rfl hl (by decide) rfl (fun ls hl => ?_)
      refine lv_iconst (v := 0) hx hb dX0_counts_27 (by decide) ?_
      refine lv_istore (lv' := [(4, .int 0), (3, .int v8), (0, .ref a0), (1, .int c), (2, .int y)]) hx hb dX0_counts_28 hl (by decide) rfl (fun ls hl => ?_)
      have loop30_0 : ∀ (n : Nat) (ls : Array Slot) (v9 v10 : Int32), lv_has ls 6 [(0, .ref a0), (1, .int c), (2, .int y), (3, .int v9), (4, .int v10)] → ((-2147483648) ≤ v9.toInt ∧ v9.toInt ≤ 2147483647) → (0 ≤ v10.toInt ∧ v10.toInt ≤ 60) → (v9 = q_sums D (c_f z I0 a0 c_t y (u_ 6)) (v10.toInt).toNat) → (v10.toInt ≤ f0_2.toInt) → (60 - v10.toInt) < (n : Int) → W pr_ l ev_ (headSpec wsX0_counts ({ frames := 4, cells := 0, slots := 0, locals := 256 })).room s m ([.ref a0, .int c, .int y] : List Value).toArray below meth cd_ s.heap [] 0 0 (MQ below (vp_Si (fun r => (r = c_cnt z I0 a0 c_t y (u_ 6)))) ([.ref a0, .int c, .int y] : List Value).toArray s 0 0 (fun _ => False)) (F0 m 30 ls []) := by
        intro n
        induction n with
        | zero => intro ls v9 v10 hl jv9 jv10 hx30_0 hx30_1 hn; exact absurd hn (by omega)
        | succ n ih30 =>
          intro ls v9 v10 hl jv9 jv10 hx30_0 hx30_1 hn
          refine lv_iload hx hb dX0_counts_30 (lv_at hl 4 rfl) ?_
          refine lv_aload_n hx hb dX0_counts_32 rfl (lv_at hl 0 rfl) ?_
          refine h_get (v := .int f0_2) hx hb hts iX0 hown g t_a0 (by decide) so_1 rfl 2 (by decide) (hts (.fieldLink RX0 51 "CapLeague$Books" "size" "I") (by decide +kernel)) rfl dX0_counts_33 (congrArg Value.int (ef0_2.symm)) ?_
          refine lv_icmp_ge (tgt := 77) hx hb dX0_counts_36 (by decide) (fun c11 => ?_) (fun c11 => ?_)
          · have ic11 := (xi_le c11 rfl rfl : f0_2.toInt ≤ v10.toInt)
            refine lv_iload_n hx hb dX0_counts_77 rfl (lv_at hl 3 rfl) ?_
            exact W.iret (v := v9) hx hb hr (fun t ht hW => ⟨v9, rfl, (by unfold c_cnt; rw [h_y, add, h_ad.at rro, ← eD, ← ef0_2]; rw [show f0_2.toInt.toNat = v10.toInt.toNat by omega]; exact hx30_0), ht⟩) (fun _ h => by cases h) dX0_counts_78
          · have ic11 := (xi_nle c11 rfl rfl : v10.toInt < f0_2.toInt)
            refine lv_aload_n hx hb dX0_counts_39 rfl (lv_at hl 0 rfl) ?_
            refine lv_iload hx hb dX0_counts_40 (lv_at hl 4 rfl) ?_
            refine va_csq (W.runV (As := [.int v10]) (rest := []) ⟨hx, hb, hml, hown, hts⟩ (tX0_playerAtN l E X A z I0 L0 a0 t_a0 v10 (v10.toInt) rfl (by omega) (by rw [qf0_2]; omega) (by rw [apl]; exact hnn _ (by omega))) (cwV 1 hts gX0_counts_X0_playerAt rfl rfl rfl (by decide +kernel) ⟨Nat.le_of_ble_eq_true rfl, Nat.le_of_ble_eq_true rfl⟩) ⟨h_blind _ _ _ _ _ _ _, h_recv g t_a0 (by decide) so_1 (q := (RX0, TX0, 9)) rfl, h_pre _ hE hk hX hA hI hR g⟩ rfl rfl hl.1 rfl (lv_room (Nat.le_of_ble_eq_true rfl)) dX0_counts_42 ⟨Nat.le_of_ble_eq_true rfl, Nat.le_of_ble_eq_true rfl⟩) (fun rh12 h12 => ?_)
            obtain ⟨h12, h12p0⟩ := h12
            obtain ⟨rh12, rfl, trh12⟩ := h12
            refine xw_v (v := .ref rh12) rfl ?_
            rw [apl] at h12p0
            have rp : z.R pl (v10.toInt).toNat = some rh12 := h12p0.symm
            have eF1 : (c_f z I0 a0 c_t y (u_ 6)) (v10.toInt).toNat = if (I0 rh12 0).toInt = c_t then q_cnt (I0 rh12 0) (I0 rh12 1) (I0 rh12 2) (I0 rh12 3) (I0 rh12 4) (I0 rh12 6) (I0 rh12 7) y (I0 a0 3) (u_ 6) else 0 := by unfold c_f; rw [apl, h_ad.at rp]
            refine lv_astore (lv' := [(5, .ref rh12), (0, .ref a0), (1, .int c), (2, .int y), (3, .int v9), (4, .int v10)]) hx hb dX0_counts_45 hl (by decide) rfl (fun ls hl => ?_)
            refine lv_aload hx hb dX0_counts_47 (lv_at hl 0 rfl) ?_
            refine lv_ifnull hx hb dX0_counts_49 ?_
            refine lv_aload hx hb dX0_counts_52 (lv_at hl 0 rfl) ?_
            refine h_get (v := .int (I0 rh12 0)) hx hb hts iX6 hown g trh12 (by decide) so_7 rfl 0 (by decide) (hts (.fieldLink RX0 86 "CapLeague$Player" "club" "I") (by decide +kernel)) rfl dX0_counts_54 rfl ?_
            refine lv_topi (fun v13 ev13 => ?_)
            have jv13 := hI.rd rh12 0 trh12 ev13 (rfl : h_bd 7 0 = ((-1), 7))
            refine lv_iload_n hx hb dX0_counts_57 rfl (lv_at hl 2 rfl) ?_
            refine lv_icmp_ne (tgt := 71) hx hb dX0_counts_58 (by decide) (fun c14 => ?_) (fun c14 => ?_)
            · have ic14 := (xi_ne c14 rfl h_c : v13.toInt ≠ c_t)
              obtain ⟨v15, ev15⟩ : ∃ z : Int32, z = v10 + 1 := ⟨_, rfl⟩
              have jv15 : v15.toInt = v10.toInt + 1 := xi_add ev15 rfl (by decide) (by omega) (by omega)
              refine lv_iinc (v := v15) (lv' := [(4, .int v15), (5, .ref rh12), (0, .ref a0), (1, .int c), (2, .int y), (3, .int v9)]) hx hb dX0_counts_71 hl (k := 5) rfl (by rw [ev15]; rfl) (by decide) rfl (fun ls hl => ?_)
              refine lv_goto (tgt := 30) hx hb dX0_counts_74 (by decide) ?_
              exact ih30 _ v9 v15 (lv_sub hl [2, 3, 4, 5, 0] rfl) (by omega) (by omega) (by rw [show (v15.toInt).toNat = v10.toInt.toNat + 1 by omega]; refine q_sums_s hx30_0 ?_; rw [eF1]; rw [if_neg (by rw [ev13.symm]; omega)]; exact (Int32.add_zero _).symm) (by omega) (by omega)
            · have ic14 := (xi_eq c14 rfl h_c : v13.toInt = c_t)
              refine lv_iload_n hx hb dX0_counts_61 rfl (lv_at hl 4 rfl) ?_
              refine lv_aload_n hx hb dX0_counts_62 rfl (lv_at hl 1 rfl) ?_
              refine lv_aload hx hb dX0_counts_63 (lv_at hl 0 rfl) ?_
              refine lv_iload_n hx hb dX0_counts_65 rfl (lv_at hl 3 rfl) ?_
              refine vp_callSi (W.runV (As := [.ref rh12, .int y]) (rest := [.int v9]) ⟨hx, hb, hml, hown, hts⟩ (tX0_countOfB l E X A z I0 L0 a0 t_a0 rh12 trh12 y (y_t) h_y (u_) (by rw [alb, aun, atx, qf0_3]; exact hcl) (hob)) (cwV 2 hts gX0_counts_X0_countOf rfl rfl rfl (by decide +kernel) ⟨Nat.le_of_ble_eq_true rfl, Nat.le_of_ble_eq_true rfl⟩) ⟨h_blind _ _ _ _ _ _ _, h_recv g t_a0 (by decide) so_1 (q := (RX0, TX0, 9)) rfl, h_pre _ hE hk hX hA hI hR g⟩ rfl rfl hl.1 rfl (lv_room (Nat.le_of_ble_eq_true rfl)) dX0_counts_66 ⟨Nat.le_of_ble_eq_true rfl, Nat.le_of_ble_eq_true rfl⟩) (fun rh16 h16 => ?_)
              have h16p0 := h16
              have jrh16 : -2147483648 ≤ rh16.toInt ∧ rh16.toInt ≤ 2147483647 := ⟨xi_lo _, Int.le_of_lt_add_one (xi_hi _)⟩
              refine lv_iadd hx hb dX0_counts_69 ?_
              refine lv_topi (fun v17 ev17 => ?_)
              have jv17 : -2147483648 ≤ v17.toInt ∧ v17.toInt ≤ 2147483647 := ⟨xi_lo _, Int.le_of_lt_add_one (xi_hi _)⟩
              refine lv_istore_n (lv' := [(3, .int v17), (5, .ref rh12), (0, .ref a0), (1, .int c), (2, .int y), (4, .int v10)]) hx hb dX0_counts_70 rfl hl (by decide) rfl (fun ls hl => ?_)
              obtain ⟨v18, ev18⟩ : ∃ z : Int32, z = v10 + 1 := ⟨_, rfl⟩
              have jv18 : v18.toInt = v10.toInt + 1 := xi_add ev18 rfl (by decide) (by omega) (by omega)
              refine lv_iinc (v := v18) (lv' := [(4, .int v18), (3, .int v17), (5, .ref rh12), (0, .ref a0), (1, .int c), (2, .int y)]) hx hb dX0_counts_71 hl (k := 5) rfl (by rw [ev18]; rfl) (by decide) rfl (fun ls hl => ?_)
              refine lv_goto (tgt := 30) hx hb dX0_counts_74 (by decide) ?_
              exact ih30 _ v17 v18 (lv_sub hl [3, 4, 5, 1, 0] rfl) (by omega) (by omega) (by rw [show (v18.toInt).toNat = v10.toInt.toNat + 1 by omega]; refine q_sums_s hx30_0 ?_; rw [eF1]; rw [if_pos (by rw [ev13.symm]; omega), ← h16p0]; exact ev17) (by omega) (by omega)
      have kc19 : (0 : Int32).toInt = 0 := by decide
      exact loop30_0 _ _ v8 (0) (lv_sub hl [2, 3, 4, 1, 0] rfl) (by omega) ⟨by decide, by decide⟩ (e26D) (by omega) (show (60 - (0 : Int)) < (((60 - (0 : Int)).toNat + 1 : Nat) : Int) by omega)
set_option maxHeartbeats 4000000 in
set_option maxRecDepth 100000 in
theorem tX0_playersInB (l : Launch) (E : tE) (X : tX) (A : Nat → Prop) (z : tZ) (I0 : tI) (L0 : tL) (a0 : Nat) (t_a0 : z.ty a0 = 1) (c : Int32) (c_t : Int) (h_c : c.toInt = c_t) (y : Int32) (y_t : Int) (h_y : y.toInt = y_t) (hnn : ∀ p : Nat, (p : Int) < (I0 a0 2).toInt → z.R (h_ad z a0 1) p ≠ none) : Met l yX0_playersIn wsX0_playersIn ({ frames := 3, cells := 0, slots := 0, locals := 192 }) (va_Pc [.ref a0, .int c, .int y] (h_P E X A z I0 L0)) (vp_Si (fun r => (r = c_many z I0 a0 c_t y))) 0 0 (fun _ => False) := by
  refine Met.ofW (cc := cX0_playersIn) (maxL := 6) (ret := (some .int)) (by decide) rfl ?_
  intro pr_ ev_ s m args below meth cd_ s₁ B hml hv
  obtain ⟨rfl, hE, hk, hX, hA, hK, hI, hR, hB0⟩ := hv
  have g : h_G h_so h_fk E A z I0 L0 s s.heap s.heap [] := ⟨hK, va_S.rf, hB0⟩
  have hx := B.exec
  have hb := B.bytes
  have hr := B.returns
  have hts := atoms_spec (ws := wsX0_playersIn) B.pre
  have hown : s.vm.findClass RX0 = some m.cls := findClass_of_methodNamed B.named
  have hlocks := B.notSynchronized
  have iX0 : ∀ w ∈ u_ws RX0 TX0 9, w ∈ wsX0_playersIn := by decide +kernel
  have iX6 : ∀ w ∈ u_ws RX6 TX6 9, w ∈ wsX0_playersIn := by decide +kernel
  have hl := lv_entry ([.ref a0, .int c, .int y]) (n := 6) (Nat.le_of_ble_eq_true rfl)
  rw [lg_entry_eq]
  generalize (lg_sl ([.ref a0, .int c, .int y]) ++ List.replicate (6 - (lg_sl ([.ref a0, .int c, .int y])).length) Slot.unset).toArray = ls at hl ⊢
  have hl : lv_has ls 6 [(0, .ref a0), (1, .int c), (2, .int y)] := hl
  have b_c : -2147483648 ≤ c_t ∧ c_t ≤ 2147483647 := h_c ▸ ⟨xi_lo c, Int.le_of_lt_add_one (xi_hi c)⟩
  have b_y : -2147483648 ≤ y_t ∧ y_t ≤ 2147483647 := h_y ▸ ⟨xi_lo y, Int.le_of_lt_add_one (xi_hi y)⟩
  obtain ⟨pl, rpl, tpl⟩ := hR.at a0 1 t_a0 (rfl : h_rs 1 1 = some (101, false)) (by decide)
  have apl : h_ad z a0 1 = pl := h_ad.at rpl
  obtain ⟨f0_2, ef0_2⟩ : ∃ v : Int32, v = I0 a0 2 := ⟨_, rfl⟩
  have qf0_2 : (I0 a0 2).toInt = f0_2.toInt := congrArg Int32.toInt ef0_2.symm
  have jf0_2 := hI.rd a0 2 t_a0 ef0_2 (rfl : h_bd 1 2 = (0, 60))
  rw [apl, qf0_2] at hnn
  have qy : y.toInt = y_t := h_y
  refine lv_iconst (v := 0) hx hb dX0_playersIn_0 (by decide) ?_
  refine lv_istore_n (lv' := [(3, .int 0), (0, .ref a0), (1, .int c), (2, .int y)]) hx hb dX0_playersIn_1 rfl hl (by decide) rfl (fun ls hl => ?_)
  refine lv_iconst (v := 0) hx hb dX0_playersIn_2 (by decide) ?_
  refine lv_istore (lv' := [(4, .int 0), (3, .int 0), (0, .ref a0), (1, .int c), (2, .int y)]) hx hb dX0_playersIn_3 hl (by decide) rfl (fun ls hl => ?_)
  have loop5_0 : ∀ (n : Nat) (ls : Array Slot) (v1 v2 : Int32), lv_has ls 6 [(0, .ref a0), (1, .int c), (2, .int y), (3, .int v1), (4, .int v2)] → ((-2147483648) ≤ v1.toInt ∧ v1.toInt ≤ 2147483647) → (0 ≤ v2.toInt ∧ v2.toInt ≤ 60) → (v1 = q_sums 0 (c_g z I0 a0 c_t y) (v2.toInt).toNat) → (v2.toInt ≤ f0_2.toInt) → (60 - v2.toInt) < (n : Int) → W pr_ l ev_ (headSpec wsX0_playersIn ({ frames := 3, cells := 0, slots := 0, locals := 192 })).room s m ([.ref a0, .int c, .int y] : List Value).toArray below meth cd_ s.heap [] 0 0 (MQ below (vp_Si (fun r => (r = c_many z I0 a0 c_t y))) ([.ref a0, .int c, .int y] : List Value).toArray s 0 0 (fun _ => False)) (F0 m 5 ls []) := by
    intro n
    induction n with
    | zero => intro ls v1 v2 hl jv1 jv2 hx5_0 hx5_1 hn; exact absurd hn (by omega)
    | succ n ih5 =>
      intro ls v1 v2 hl jv1 jv2 hx5_0 hx5_1 hn
      refine lv_iload hx hb dX0_playersIn_5 (lv_at hl 4 rfl) ?_
      refine lv_aload_n hx hb dX0_playersIn_7 rfl (lv_at hl 0 rfl) ?_
      refine h_get (v := .int f0_2) hx hb hts iX0 hown g t_a0 (by decide) so_1 rfl 2 (by decide) (hts (.fieldLink RX0 51 "CapLeague$Books" "size" "I") (by decide +kernel)) rfl dX0_playersIn_8 (congrArg Value.int (ef0_2.symm)) ?_
      refine lv_icmp_ge (tgt := 54) hx hb dX0_playersIn_11 (by decide) (fun c3 => ?_) (fun c3 => ?_)
      · have ic3 := (xi_le c3 rfl rfl : f0_2.toInt ≤ v2.toInt)
        refine lv_iload_n hx hb dX0_playersIn_54 rfl (lv_at hl 3 rfl) ?_
        exact W.iret (v := v1) hx hb hr (fun t ht hW => ⟨v1, rfl, (by unfold c_many; rw [← ef0_2]; rw [show f0_2.toInt.toNat = v2.toInt.toNat by omega]; exact hx5_0), ht⟩) (fun _ h => by cases h) dX0_playersIn_55
      · have ic3 := (xi_nle c3 rfl rfl : v2.toInt < f0_2.toInt)
        refine lv_aload_n hx hb dX0_playersIn_14 rfl (lv_at hl 0 rfl) ?_
        refine lv_iload hx hb dX0_playersIn_15 (lv_at hl 4 rfl) ?_
        refine va_csq (W.runV (As := [.int v2]) (rest := []) ⟨hx, hb, hml, hown, hts⟩ (tX0_playerAtN l E X A z I0 L0 a0 t_a0 v2 (v2.toInt) rfl (by omega) (by rw [qf0_2]; omega) (by rw [apl]; exact hnn _ (by omega))) (cwV 1 hts gX0_playersIn_X0_playerAt rfl rfl rfl (by decide +kernel) ⟨Nat.le_of_ble_eq_true rfl, Nat.le_of_ble_eq_true rfl⟩) ⟨h_blind _ _ _ _ _ _ _, h_recv g t_a0 (by decide) so_1 (q := (RX0, TX0, 9)) rfl, h_pre _ hE hk hX hA hI hR g⟩ rfl rfl hl.1 rfl (lv_room (Nat.le_of_ble_eq_true rfl)) dX0_playersIn_17 ⟨Nat.le_of_ble_eq_true rfl, Nat.le_of_ble_eq_true rfl⟩) (fun rh4 h4 => ?_)
        obtain ⟨h4, h4p0⟩ := h4
        obtain ⟨rh4, rfl, trh4⟩ := h4
        refine xw_v (v := .ref rh4) rfl ?_
        rw [apl] at h4p0
        have rp : z.R pl (v2.toInt).toNat = some rh4 := h4p0.symm
        have eF1 : (c_g z I0 a0 c_t y) (v2.toInt).toNat = if (I0 rh4 0).toInt = c_t ∧ q_und (I0 rh4 0) (I0 rh4 1) (I0 rh4 2) (I0 rh4 6) y then 1 else 0 := by unfold c_g; rw [apl, h_ad.at rp]
        refine lv_astore (lv' := [(5, .ref rh4), (0, .ref a0), (1, .int c), (2, .int y), (3, .int v1), (4, .int v2)]) hx hb dX0_playersIn_20 hl (by decide) rfl (fun ls hl => ?_)
        refine lv_aload hx hb dX0_playersIn_22 (lv_at hl 0 rfl) ?_
        refine lv_ifnull hx hb dX0_playersIn_24 ?_
        refine lv_aload hx hb dX0_playersIn_27 (lv_at hl 0 rfl) ?_
        refine h_get (v := .int (I0 rh4 0)) hx hb hts iX6 hown g trh4 (by decide) so_7 rfl 0 (by decide) (hts (.fieldLink RX0 86 "CapLeague$Player" "club" "I") (by decide +kernel)) rfl dX0_playersIn_29 rfl ?_
        refine lv_topi (fun v5 ev5 => ?_)
        have jv5 := hI.rd rh4 0 trh4 ev5 (rfl : h_bd 7 0 = ((-1), 7))
        refine lv_iload_n hx hb dX0_playersIn_32 rfl (lv_at hl 2 rfl) ?_
        refine lv_icmp_ne (tgt := 48) hx hb dX0_playersIn_33 (by decide) (fun c6 => ?_) (fun c6 => ?_)
        · have ic6 := (xi_ne c6 rfl h_c : v5.toInt ≠ c_t)
          obtain ⟨v7, ev7⟩ : ∃ z : Int32, z = v2 + 1 := ⟨_, rfl⟩
          have jv7 : v7.toInt = v2.toInt + 1 := xi_add ev7 rfl (by decide) (by omega) (by omega)
          refine lv_iinc (v := v7) (lv' := [(4, .int v7), (5, .ref rh4), (0, .ref a0), (1, .int c), (2, .int y), (3, .int v1)]) hx hb dX0_playersIn_48 hl (k := 5) rfl (by rw [ev7]; rfl) (by decide) rfl (fun ls hl => ?_)
          refine lv_goto (tgt := 5) hx hb dX0_playersIn_51 (by decide) ?_
          exact ih5 _ v1 v7 (lv_sub hl [2, 3, 4, 5, 0] rfl) (by omega) (by omega) (by rw [show (v7.toInt).toNat = v2.toInt.toNat + 1 by omega]; refine q_sums_s hx5_0 ?_; rw [eF1]; rw [if_neg (fun q => absurd q.1 (by rw [ev5.symm]; omega))]; exact (Int32.add_zero _).symm) (by omega) (by omega)
        · have ic6 := (xi_eq c6 rfl h_c : v5.toInt = c_t)
          refine lv_aload hx hb dX0_playersIn_36 (lv_at hl 0 rfl) ?_
          refine lv_iload_n hx hb dX0_playersIn_38 rfl (lv_at hl 3 rfl) ?_
          refine vp_callSi (W.runV (As := [.int y]) (rest := []) ⟨hx, hb, hml, hown, hts⟩ (tX6_isBoundB l E X A z I0 L0 rh4 trh4 y (y_t) h_y) (cwV 1 hts gX0_playersIn_X6_isBoundIn rfl rfl rfl (by decide +kernel) ⟨Nat.le_of_ble_eq_true rfl, Nat.le_of_ble_eq_true rfl⟩) ⟨h_blind _ _ _ _ _ _ _, h_recv g trh4 (by decide) so_7 (q := (RX6, TX6, 9)) rfl, h_pre _ hE hk hX hA hI hR g⟩ rfl rfl hl.1 rfl (lv_room (Nat.le_of_ble_eq_true rfl)) dX0_playersIn_39 ⟨Nat.le_of_ble_eq_true rfl, Nat.le_of_ble_eq_true rfl⟩) (fun rh8 h8 => ?_)
          obtain ⟨h8, h8p0⟩ := h8
          refine lv_if_eq (tgt := 48) hx hb dX0_playersIn_42 (by decide) (fun c9 => ?_) (fun c9 => ?_)
          · have ic9 := (xi_eq c9 rfl (by decide) : rh8.toInt = 0)
            obtain ⟨v10, ev10⟩ : ∃ z : Int32, z = v2 + 1 := ⟨_, rfl⟩
            have jv10 : v10.toInt = v2.toInt + 1 := xi_add ev10 rfl (by decide) (by omega) (by omega)
            refine lv_iinc (v := v10) (lv' := [(4, .int v10), (5, .ref rh4), (0, .ref a0), (1, .int c), (2, .int y), (3, .int v1)]) hx hb dX0_playersIn_48 hl (k := 5) rfl (by rw [ev10]; rfl) (by decide) rfl (fun ls hl => ?_)
            refine lv_goto (tgt := 5) hx hb dX0_playersIn_51 (by decide) ?_
            exact ih5 _ v1 v10 (lv_sub hl [2, 3, 4, 5, 0] rfl) (by omega) (by omega) (by rw [show (v10.toInt).toNat = v2.toInt.toNat + 1 by omega]; refine q_sums_s hx5_0 ?_; rw [eF1]; rw [if_neg (fun q => absurd q.2 (by rcases h8p0 with q | q; exact absurd q.1 (by omega); exact q.2))]; exact (Int32.add_zero _).symm) (by omega) (by omega)
          · have ic9 := (xi_ne c9 rfl (by decide) : rh8.toInt ≠ 0)
            obtain ⟨v11, ev11⟩ : ∃ z : Int32, z = v1 + 1 := ⟨_, rfl⟩
            have jv11 : -2147483648 ≤ v11.toInt ∧ v11.toInt ≤ 2147483647 := ⟨xi_lo _, Int.le_of_lt_add_one (xi_hi _)⟩
            refine lv_iinc (v := v11) (lv' := [(3, .int v11), (5, .ref rh4), (0, .ref a0), (1, .int c), (2, .int y), (4, .int v2)]) hx hb dX0_playersIn_45 hl (k := 4) rfl (by rw [ev11]; rfl) (by decide) rfl (fun ls hl => ?_)
            obtain ⟨v12, ev12⟩ : ∃ z : Int32, z = v2 + 1 := ⟨_, rfl⟩
            have jv12 : v12.toInt = v2.toInt + 1 := xi_add ev12 rfl (by decide) (by omega) (by omega)
            refine lv_iinc (v := v12) (lv' := [(4, .int v12), (3, .int v11), (5, .ref rh4), (0, .ref a0), (1, .int c), (2, .int y)]) hx hb dX0_playersIn_48 hl (k := 5) rfl (by rw [ev12]; rfl) (by decide) rfl (fun ls hl => ?_)
            refine lv_goto (tgt := 5) hx hb dX0_playersIn_51 (by decide) ?_
            exact ih5 _ v11 v12 (lv_sub hl [3, 4, 5, 1, 0] rfl) (by omega) (by omega) (by rw [show (v12.toInt).toNat = v2.toInt.toNat + 1 by omega]; refine q_sums_s hx5_0 ?_; rw [eF1]; rw [if_pos ⟨by rw [ev5.symm]; omega, (by rcases h8p0 with q | q; exact q.2; exact absurd q.1 (by omega))⟩]; exact ev11) (by omega) (by omega)
  have kc13 : (0 : Int32).toInt = 0 := by decide
  have kc14 : (0 : Int32).toInt = 0 := by decide
  exact loop5_0 _ _ (0) (0) (lv_sub hl [2, 3, 4, 1, 0] rfl) ⟨by decide, by decide⟩ ⟨by decide, by decide⟩ (rfl) (by omega) (show (60 - (0 : Int)) < (((60 - (0 : Int)).toNat + 1 : Nat) : Int) by omega)

