set_option maxHeartbeats 4000000 in
set_option maxRecDepth 100000 in
theorem zX0_addPlayerF (l : Launch) (E : tE) (X : tX) (A : Nat → Prop) (z0 : tZ) (J0 : tI) (K0 : tL) (a0 : Nat) (t_a0 : z0.ty a0 = 1) : Met l yX0_addPlayer wsX0_addPlayer ({ frames := 2, cells := 2, slots := 17, locals := 128 }) (va_Pc [.ref a0] (h_P E X A z0 J0 K0)) (va_Qi (fun r (q1 : tZ × tI × tL) => h_I q1.1 q1.2.1 ∧ h_R q1.1 ∧ h_X [(1, 2), (56, 0)] [101] none z0 J0 K0 q1.1 q1.2.1 q1.2.2 ∧ ((-3) ≤ r.toInt ∧ r.toInt ≤ 59) ∧ ((60 ≤ (J0 a0 2).toInt ∧ r.toInt = -3 ∧ q1.2.1 a0 2 = J0 a0 2) ∨ ((J0 a0 2).toInt < 60 ∧ r.toInt = (J0 a0 2).toInt ∧ (q1.2.1 a0 2).toInt = (J0 a0 2).toInt + 1))) (fun (q1 : tZ × tI × tL) t => h_B E A q1.1 q1.2.1 q1.2.2 t) A) 2 17 A := by
  refine Met.ofW (cc := cX0_addPlayer) (maxL := 1) (ret := (some .int)) (by decide) rfl ?_
  intro pr_ ev_ s m args below meth cd_ s₁ B hml hv
  obtain ⟨rfl, hE, hk, hX, hA, hK, hI, hR, hB0⟩ := hv
  obtain ⟨z, ez0⟩ : ∃ z : tZ, z = z0 := ⟨_, rfl⟩
  obtain ⟨I0, eJ0⟩ : ∃ I0 : tI, I0 = J0 := ⟨_, rfl⟩
  obtain ⟨L0, eK0⟩ : ∃ L0 : tL, L0 = K0 := ⟨_, rfl⟩
  rw [← ez0, ← eJ0] at hI
  rw [← ez0] at hR t_a0
  rw [← ez0, ← eJ0, ← eK0] at hB0
  have g : h_G h_so h_fk E A z I0 L0 s s.heap s.heap [] := ⟨hK, va_S.rf, hB0⟩
  have hF : h_F [(1, 2), (56, 0)] z I0 I0 := h_F.rf
  have hx := B.exec
  have hb := B.bytes
  have hr := B.returns
  have hts := atoms_spec (ws := wsX0_addPlayer) B.pre
  have hown : s.vm.findClass RX0 = some m.cls := findClass_of_methodNamed B.named
  have hlocks := B.notSynchronized
  have iX0 : ∀ w ∈ u_ws RX0 TX0 9, w ∈ wsX0_addPlayer := by decide +kernel
  have iX6 : ∀ w ∈ u_ws RX6 TX6 9, w ∈ wsX0_addPlayer := by decide +kernel
  have hl := lv_entry ([.ref a0]) (n := 1) (Nat.le_of_ble_eq_true rfl)
  rw [lg_entry_eq]
  generalize (lg_sl ([.ref a0]) ++ List.replicate (1 - (lg_sl ([.ref a0])).length) Slot.unset).toArray = ls at hl ⊢
  have hl : lv_has ls 1 [(0, .ref a0)] := hl
  have hZ : h_X [(1, 2), (56, 0)] [101] none z0 J0 K0 z I0 L0 := by rw [ez0, eJ0, eK0]; exact h_X.rf
  obtain ⟨f0_2, ef0_2⟩ : ∃ v : Int32, v = I0 a0 2 := ⟨_, rfl⟩
  have qJ2 : J0 a0 2 = f0_2 := by rw [← eJ0]; exact ef0_2.symm
  have jf0_2 := hI.rd a0 2 t_a0 ef0_2 (rfl : h_bd 1 2 = (0, 60))
  refine lv_aload_n hx hb dX0_addPlayer_0 rfl (lv_at hl 0 rfl) ?_
  refine h_get (v := .int f0_2) hx hb hts iX0 hown g t_a0 (by decide) so_1 rfl 2 (by decide) (hts (.fieldLink RX0 51 "CapLeague$Books" "size" "I") (by decide +kernel)) rfl dX0_addPlayer_1 (congrArg Value.int (ef0_2.symm)) ?_
  refine lv_bipush (v := 60) hx hb dX0_addPlayer_4 (by decide) ?_
  refine lv_icmp_lt (tgt := 12) hx hb dX0_addPlayer_6 (by decide) (fun c1 => ?_) (fun c1 => ?_)
  · have ic1 := (xi_lt c1 rfl (by decide) : f0_2.toInt < 60)
    refine lv_aload_n hx hb dX0_addPlayer_12 rfl (lv_at hl 0 rfl) ?_
    obtain ⟨b2, rb2, tb2⟩ := hR.at a0 1 t_a0 (rfl : h_rs 1 1 = some (101, false)) (by decide)
    refine h_get (v := .ref b2) hx hb hts iX0 hown g t_a0 (by decide) so_1 rfl 1 (by decide) (hts (.fieldLink RX0 11 "CapLeague$Books" "players" "[LCapLeague$Player;") (by decide +kernel)) rfl dX0_addPlayer_13 (by show va_rf (z.R a0 1) = _; rw [rb2]; rfl) ?_
    refine lv_aload_n hx hb dX0_addPlayer_16 rfl (lv_at hl 0 rfl) ?_
    refine h_get (v := .int f0_2) hx hb hts iX0 hown g t_a0 (by decide) so_1 rfl 2 (by decide) (hts (.fieldLink RX0 51 "CapLeague$Books" "size" "I") (by decide +kernel)) rfl dX0_addPlayer_17 (congrArg Value.int (ef0_2.symm)) ?_
    have kf_a0_2 : I0 a0 2 = f0_2 := ef0_2.symm
    have hZ := hZ.tcall hF rfl
    refine h_newO (C := RX6) (T := TX6) (N := 9) (ci := 6) hx hb hts iX6 tyX6 tyX6_ok hown (hts (.classLink RX0 9 RX6) (by decide +kernel)) (hts (.instantiable RX6 9) (by decide +kernel)) (hts (.initialized RX6) (by decide +kernel)) g hA rfl so_56 (fun j hj => by rcases (show j = 0 ∨ j = 1 ∨ j = 2 ∨ j = 3 ∨ j = 4 ∨ j = 5 ∨ j = 6 ∨ j = 7 ∨ j = 8 by omega) with rfl | rfl | rfl | rfl | rfl | rfl | rfl | rfl | rfl <;> rfl) (Nat.le_of_ble_eq_true rfl) (Nat.le_of_ble_eq_true rfl) dX0_addPlayer_20 (fun q3 H hq0 g => ?_)
    have n_q3 := hZ.fresh hq0 (fun h => by cases h)
    have hI := hI.nw (q := q3) (t := 56) (f := fun _ => none)
    have hR := hR.nw (q := q3) (t := 56) (f := fun _ => none) hq0 (fun k t2 n2 h => by cases (show (none : Option (Nat × Bool)) = some (t2, n2) from h))
    have hZ := hZ.nw (q := q3) (t := 56) (f := fun _ => none) hq0 (L2 := (h_rL L0 q3 (fun _ => 0))) (fun b hb => h_rL_n hb)
    have kf_a0_2 : h_row I0 q3 (fun _ => 0) a0 2 = f0_2 := (congrFun (h_row_n (h_neq t_a0 (by decide) hq0)) 2).trans kf_a0_2
    have rb2 := h_nwr (q := q3) (t := 56) (f := fun _ => none) hq0 t_a0 (by decide) rb2
    have t_a0 := h_nwk (q := q3) (t := 56) (f := fun _ => none) hq0 t_a0 (by decide)
    have tb2 := h_nwk (q := q3) (t := 56) (f := fun _ => none) hq0 tb2 (by decide)
    have tq3 : (z.nw q3 56 (fun _ => none)).ty q3 = 56 := nw_te
    have hzq3 : h_row I0 q3 (fun _ => 0) q3 = fun _ => 0 := h_row_e
    obtain ⟨z, ez⟩ : ∃ z1 : tZ, z1 = (z.nw q3 56 (fun _ => none)) := ⟨_, rfl⟩
    rw [← ez] at g hI hR hZ t_a0 tb2 tq3 rb2
    obtain ⟨I0, eI⟩ : ∃ J : tI, J = h_row I0 q3 (fun _ => 0) := ⟨_, rfl⟩
    rw [← eI] at g hI hZ hzq3 kf_a0_2
    obtain ⟨L4, eL⟩ : ∃ J : tL, J = (h_rL L0 q3 (fun _ => 0)) := ⟨_, rfl⟩
    rw [← eL] at g hZ
    have hF : h_F [(1, 2), (56, 0)] z I0 I0 := h_F.rf
    refine W.cs (cells' := 1) (slots' := 9) rfl rfl ?_
    refine lv_dup hx hb dX0_addPlayer_23 rfl ?_
    have kf_a0_2 : I0 a0 2 = f0_2 := kf_a0_2
    have hZ := hZ.tcall hF rfl
    refine va_callv (va_runIN (As := []) (rest := [.ref q3, .int f0_2, .ref b2]) ⟨hx, hb, hml, hown, hts⟩ (zX6_init l E X A z I0 L4 q3 tq3 hzq3) (⟨va_cnB 0 hts gX0_addPlayer_X6_init_n54 rfl rfl rfl (hE.link 7 rfl) (hts (.initialized RX6) (by decide +kernel)) (by decide +kernel) ⟨Nat.le_of_ble_eq_true rfl, Nat.le_of_ble_eq_true rfl⟩, rfl, hts (.instanceMethod yX6_init) (by decide +kernel)⟩) ⟨h_blind _ _ _ _ _ _ _, h_pre _ hE hk hX hA hI hR g⟩ rfl rfl hl.1 rfl (lv_room (Nat.le_of_ble_eq_true rfl)) dX0_addPlayer_24 ⟨Nat.le_of_ble_eq_true rfl, Nat.le_of_ble_eq_true rfl⟩) g.2.1 (fun q _ h => h) (fun q h => h) (fun u t H1 locs ht hvm h5 hB hz1 hk1 hS => ?_)
    obtain ⟨z, I0, L6⟩ := u
    obtain ⟨hI, hR, xh5, tq3_, h5⟩ := h5
    have hI : h_I z I0 := hI
    have hR : h_R z := hR
    have hB : h_B E A z I0 L6 t := hB
    have xh5 : h_X [(56, 0)] [] (some q3) _ _ _ z I0 L6 := xh5
    have hZ := hZ.call xh5 rfl (fun t h9 => rfl) (fun b hb => Or.inr (by cases hb; exact n_q3))
    have kf_a0_2 : I0 a0 2 = f0_2 := (xh5.I t_a0 (by decide) (h_sne t_a0 tq3 (by decide)) rfl).trans kf_a0_2
    have rb2 := xh5.R t_a0 (by decide) (h_sne t_a0 tq3 (by decide)) rfl rb2
    have t_a0 := xh5.ty t_a0 (by decide) (h_sne t_a0 tq3 (by decide))
    have tb2 := xh5.ty tb2 (by decide) (h_sne tb2 tq3 (by decide))
    have tq3 : z.ty q3 = 7 := tq3_
    replace g := h_after g hB ht hS
    generalize H1 = H at g
    clear hB hk1 hz1 ht hvm hS
    have hF : h_F [(1, 2), (56, 0)] z I0 I0 := h_F.rf
    refine W.cs (cells' := 2) (slots' := 17) rfl rfl ?_
    have kf_a0_2 : I0 a0 2 = f0_2 := kf_a0_2
    have hZ := hZ.tcall hF rfl
    refine h_astP hx hb g tb2 (by decide) so_101 tq3 (by decide) so_7 (xi_in (by omega) (by omega)) dX0_addPlayer_27 (fun H locs g => ?_)
    have hR := hR.ast (i := f0_2.toNatClampNeg) tb2 7 (fun k t2 n2 h => by have e9 : some (7, true) = some (t2, n2) := h; cases e9; rfl) tq3
    have hZ := hZ.wR (a := b2) (k := f0_2.toNatClampNeg) (v := some q3) (Or.inr (Or.inr (by rw [tb2]; rfl)))
    have hI : h_I (z.wR b2 f0_2.toNatClampNeg (some q3)) I0 := hI
    have t_a0 : (z.wR b2 f0_2.toNatClampNeg (some q3)).ty a0 = 1 := t_a0
    have tb2 : (z.wR b2 f0_2.toNatClampNeg (some q3)).ty b2 = 101 := tb2
    have tq3 : (z.wR b2 f0_2.toNatClampNeg (some q3)).ty q3 = 7 := tq3
    have rb2 : (z.wR b2 f0_2.toNatClampNeg (some q3)).R a0 1 = some b2 := (congrFun (h_up_ne (h_ne2 t_a0 tb2 (by decide))) 1).trans rb2
    have rast : (z.wR b2 f0_2.toNatClampNeg (some q3)).R b2 f0_2.toNatClampNeg = some q3 := h_up_eq
    obtain ⟨z, ez⟩ : ∃ z1 : tZ, z1 = (z.wR b2 f0_2.toNatClampNeg (some q3)) := ⟨_, rfl⟩
    rw [← ez] at g hI hR hZ t_a0 tb2 tq3 rb2 rast
    have hF : h_F [(1, 2), (56, 0)] z I0 I0 := h_F.rf
    refine lv_aload_n hx hb dX0_addPlayer_28 rfl (lv_at hl 0 rfl) ?_
    refine lv_dup hx hb dX0_addPlayer_29 rfl ?_
    refine h_get (v := .int f0_2) hx hb hts iX0 hown g t_a0 (by decide) so_1 rfl 2 (by decide) (hts (.fieldLink RX0 51 "CapLeague$Books" "size" "I") (by decide +kernel)) rfl dX0_addPlayer_30 (congrArg Value.int (kf_a0_2)) ?_
    refine lv_iconst (v := 1) hx hb dX0_addPlayer_33 (by decide) ?_
    refine lv_iadd hx hb dX0_addPlayer_34 ?_
    refine lv_topi (fun v7 ev7 => ?_)
    have jv7 : v7.toInt = f0_2.toInt + 1 := xi_add ev7 rfl (by decide) (by omega) (by omega)
    refine h_putI (ty := .int) (v := v7) hx hb hts iX0 tyX0 tyX0_ok nmX0 hown g t_a0 (by decide) so_1 rfl 2 (by decide) rfl (hts (.fieldLink RX0 51 "CapLeague$Books" "size" "I") (by decide +kernel)) rfl rfl (by decide +kernel) rfl rfl dX0_addPlayer_35 (fun I8 H locs eI8 g => ?_)
    have hI := hI.wr eI8 t_a0 (rfl : h_bd 1 2 = (0, 60)) (by omega) (by omega)
    have hF := hF.wr eI8 t_a0 rfl
    refine lv_aload_n hx hb dX0_addPlayer_38 rfl (lv_at hl 0 rfl) ?_
    refine h_get (v := .int v7) hx hb hts iX0 hown g t_a0 (by decide) so_1 rfl 2 (by decide) (hts (.fieldLink RX0 51 "CapLeague$Books" "size" "I") (by decide +kernel)) rfl dX0_addPlayer_39 (congrArg Value.int (h_n0 eI8)) ?_
    refine lv_iconst (v := 1) hx hb dX0_addPlayer_42 (by decide) ?_
    refine lv_isub hx hb dX0_addPlayer_43 ?_
    refine lv_topi (fun v9 ev9 => ?_)
    have jv9 : v9.toInt = v7.toInt - 1 := xi_sub ev9 rfl (by decide) (by omega) (by omega)
    have hZ := hZ.tcall hF rfl
    have hS := g.2.1
    exact W.iret (v := v9) hx hb hr (fun t ht hW => ⟨⟨v9, (z, I8, L6), rfl, ⟨hI, hR, hZ, ⟨⟨(by omega), (by omega)⟩, (by right; rw [qJ2]; refine ⟨by omega, by omega, ?_⟩; show (I8 a0 2).toInt = _; rw [h_n0 eI8]; omega)⟩⟩, h_ret g ht⟩, hS.F ht⟩) hS.2.2 dX0_addPlayer_44
  · have ic1 := (xi_nlt c1 rfl (by decide) : 60 ≤ f0_2.toInt)
    refine lv_bipush (v := (-3)) hx hb dX0_addPlayer_9 (by decide) ?_
    refine W.widen (k := 2) (n := 17) (by decide) (by decide) ?_
    have hZ := hZ.tcall hF rfl
    have hS := g.2.1
    exact W.iret (v := (-3)) hx hb hr (fun t ht hW => ⟨⟨(-3), (z, I0, L0), rfl, ⟨hI, hR, hZ, ⟨⟨(by decide), (by decide)⟩, (by left; rw [qJ2]; exact ⟨by omega, by decide, ef0_2.symm⟩)⟩⟩, h_ret g ht⟩, hS.F ht⟩) hS.2.2 dX0_addPlayer_11
set_option maxHeartbeats 4000000 in
set_option maxRecDepth 100000 in
theorem zX11_playerF (l : Launch) (E : tE) (X : tX) (A : Nat → Prop) (z0 : tZ) (J0 : tI) (K0 : tL) (a0 : Nat) (t_a0 : z0.ty a0 = 12) : Met l yX11_player wsX11_player ({ frames := 3, cells := 2, slots := 17, locals := 192 }) (va_Pc [.ref a0] (h_P E X A z0 J0 K0)) (va_Qi (fun r (q1 : tZ × tI × tL) => h_I q1.1 q1.2.1 ∧ h_R q1.1 ∧ h_X [(1, 2), (56, 0)] [101] none z0 J0 K0 q1.1 q1.2.1 q1.2.2 ∧ ((-3) ≤ r.toInt ∧ r.toInt ≤ 59) ∧ ((60 ≤ (J0 (h_ad z0 a0 3) 2).toInt ∧ r.toInt = -3 ∧ q1.2.1 (h_ad z0 a0 3) 2 = J0 (h_ad z0 a0 3) 2) ∨ ((J0 (h_ad z0 a0 3) 2).toInt < 60 ∧ r.toInt = (J0 (h_ad z0 a0 3) 2).toInt ∧ (q1.2.1 (h_ad z0 a0 3) 2).toInt = (J0 (h_ad z0 a0 3) 2).toInt + 1))) (fun (q1 : tZ × tI × tL) t => h_B E A q1.1 q1.2.1 q1.2.2 t) A) 2 17 A := by
  refine Met.ofW (cc := cX11_player) (maxL := 1) (ret := (some .int)) (by decide) rfl ?_
  intro pr_ ev_ s m args below meth cd_ s₁ B hml hv
  obtain ⟨rfl, hE, hk, hX, hA, hK, hI, hR, hB0⟩ := hv
  obtain ⟨z, ez0⟩ : ∃ z : tZ, z = z0 := ⟨_, rfl⟩
  obtain ⟨I0, eJ0⟩ : ∃ I0 : tI, I0 = J0 := ⟨_, rfl⟩
  obtain ⟨L0, eK0⟩ : ∃ L0 : tL, L0 = K0 := ⟨_, rfl⟩
  rw [← ez0, ← eJ0] at hI
  rw [← ez0] at hR t_a0
  rw [← ez0, ← eJ0, ← eK0] at hB0
  have g : h_G h_so h_fk E A z I0 L0 s s.heap s.heap [] := ⟨hK, va_S.rf, hB0⟩
  have hF : h_F [(1, 2), (56, 0)] z I0 I0 := h_F.rf
  have hx := B.exec
  have hb := B.bytes
  have hr := B.returns
  have hts := atoms_spec (ws := wsX11_player) B.pre
  have hown : s.vm.findClass RX11 = some m.cls := findClass_of_methodNamed B.named
  have hlocks := B.notSynchronized
  have iX11 : ∀ w ∈ u_ws RX11 TX11 8, w ∈ wsX11_player := by decide +kernel
  have hl := lv_entry ([.ref a0]) (n := 1) (Nat.le_of_ble_eq_true rfl)
  rw [lg_entry_eq]
  generalize (lg_sl ([.ref a0]) ++ List.replicate (1 - (lg_sl ([.ref a0])).length) Slot.unset).toArray = ls at hl ⊢
  have hl : lv_has ls 1 [(0, .ref a0)] := hl
  have hZ : h_X [(1, 2), (56, 0)] [101] none z0 J0 K0 z I0 L0 := by rw [ez0, eJ0, eK0]; exact h_X.rf
  obtain ⟨bk, rbk, tbk⟩ := hR.at a0 3 t_a0 (rfl : h_rs 12 3 = some (1, false)) (by decide)
  have abk : h_ad z0 a0 3 = bk := by rw [← ez0]; exact h_ad.at rbk
  refine lv_aload_n hx hb dX11_player_0 rfl (lv_at hl 0 rfl) ?_
  refine h_get (v := .ref bk) hx hb hts iX11 hown g t_a0 (by decide) so_12 rfl 3 (by decide) (hts (.fieldLink RX11 37 "CapLeague" "books" "LCapLeague$Books;") (by decide +kernel)) rfl dX11_player_1 (by show va_rf (z.R a0 3) = _; rw [rbk]; rfl) ?_
  have hZ := hZ.tcall hF rfl
  refine va_calli (va_runV (As := []) (rest := []) ⟨hx, hb, hml, hown, hts⟩ (zX0_addPlayerF l E X A z I0 L0 bk tbk) (cwV 0 hts gX11_player_X0_addPlayer rfl rfl rfl (by decide +kernel) ⟨Nat.le_of_ble_eq_true rfl, Nat.le_of_ble_eq_true rfl⟩) ⟨h_blind _ _ _ _ _ _ _, h_recv g tbk (by decide) so_1 (q := (RX0, TX0, 9)) rfl, h_pre _ hE hk hX hA hI hR g⟩ rfl rfl hl.1 rfl (lv_room (Nat.le_of_ble_eq_true rfl)) dX11_player_4 ⟨Nat.le_of_ble_eq_true rfl, Nat.le_of_ble_eq_true rfl⟩) g.2.1 (fun q _ h => h) (fun q h => h) (fun rh1 u t H1 locs ht hvm h1 hB hz1 hk1 hS => ?_)
  obtain ⟨z, I0, L2⟩ := u
  obtain ⟨hI, hR, xh1, h1⟩ := h1
  have hI : h_I z I0 := hI
  have hR : h_R z := hR
  have hB : h_B E A z I0 L2 t := hB
  have xh1 : h_X [(1, 2), (56, 0)] [101] none _ _ _ z I0 L2 := xh1
  have hZ := hZ.call xh1 rfl (fun t h9 => h9) (fun b hb => by cases hb)
  have rbk := xh1.R t_a0 (by decide) (fun h9 => by cases h9) rfl rbk
  have t_a0 := xh1.ty t_a0 (by decide) (fun h9 => by cases h9)
  have tbk := xh1.ty tbk (by decide) (fun h9 => by cases h9)
  replace g := h_after g hB ht hS
  generalize H1 = H at g
  clear hB hk1 hz1 ht hvm hS
  have hF : h_F [(1, 2), (56, 0)] z I0 I0 := h_F.rf
  refine W.cs (cells' := 2) (slots' := 17) rfl rfl ?_
  have ph1 := h1.2
  have hZ := hZ.tcall hF rfl
  have hS := g.2.1
  exact W.iret (v := rh1) hx hb hr (fun t ht hW => ⟨⟨rh1, (z, I0, L2), rfl, ⟨hI, hR, hZ, ⟨⟨(by omega), (by omega)⟩, (by rw [abk, ← eJ0]; exact ph1)⟩⟩, h_ret g ht⟩, hS.F ht⟩) hS.2.2 dX11_player_7
set_option maxHeartbeats 4000000 in
set_option maxRecDepth 100000 in
theorem tX12_playerF (l : Launch) (E : tE) (X : tX) (A : Nat → Prop) (z : tZ) (I0 : tI) (L0 : tL) (a0 : Nat) (t_a0 : z.ty a0 = 13) : Met l yX12_player wsX12_player ({ frames := 1, cells := 0, slots := 0, locals := 64 }) (va_Pc [.ref a0] (h_P E X A z I0 L0)) (va_Qi (fun r (I1 : tI) => h_I z I1 ∧ h_F [(1314, 999), (13, 13)] z I0 I1 ∧ ((-3) ≤ r.toInt ∧ r.toInt ≤ 59) ∧ ((60 ≤ (I0 a0 13).toInt ∧ r.toInt = -3 ∧ I1 a0 13 = I0 a0 13) ∨ ((I0 a0 13).toInt < 60 ∧ r.toInt = (I0 a0 13).toInt ∧ (I1 a0 13).toInt = (I0 a0 13).toInt + 1))) (fun (I1 : tI) t => h_B E A z I1 L0 t) A) 0 0 A := by
  refine Met.ofW (cc := cX12_player) (maxL := 1) (ret := (some .int)) (by decide) rfl ?_
  intro pr_ ev_ s m args below meth cd_ s₁ B hml hv
  obtain ⟨rfl, hE, hk, hX, hA, hK, hI, hR, hB0⟩ := hv
  have g : h_G h_so h_fk E A z I0 L0 s s.heap s.heap [] := ⟨hK, va_S.rf, hB0⟩
  have hF : h_F [(1314, 999), (13, 13)] z I0 I0 := h_F.rf
  have hx := B.exec
  have hb := B.bytes
  have hr := B.returns
  have hts := atoms_spec (ws := wsX12_player) B.pre
  have hown : s.vm.findClass RX12 = some m.cls := findClass_of_methodNamed B.named
  have hlocks := B.notSynchronized
  have iX12 : ∀ w ∈ u_ws RX12 TX12 51, w ∈ wsX12_player := by decide +kernel
  have hl := lv_entry ([.ref a0]) (n := 1) (Nat.le_of_ble_eq_true rfl)
  rw [lg_entry_eq]
  generalize (lg_sl ([.ref a0]) ++ List.replicate (1 - (lg_sl ([.ref a0])).length) Slot.unset).toArray = ls at hl ⊢
  have hl : lv_has ls 1 [(0, .ref a0)] := hl
  obtain ⟨f0_13, ef0_13⟩ : ∃ v : Int32, v = I0 a0 13 := ⟨_, rfl⟩
  have qf0_13 : (I0 a0 13).toInt = f0_13.toInt := congrArg Int32.toInt ef0_13.symm
  have jf0_13 := hI.rd a0 13 t_a0 ef0_13 (rfl : h_bd 13 13 = (0, 60))
  refine lv_aload_n hx hb dX12_player_0 rfl (lv_at hl 0 rfl) ?_
  refine h_get (v := .int f0_13) hx hb hts iX12 hown g t_a0 (by decide) so_13 rfl 13 (by decide) (hts (.fieldLink RX12 202 "CapLeagueModel" "players" "I") (by decide +kernel)) rfl dX12_player_1 (congrArg Value.int (ef0_13.symm)) ?_
  refine lv_bipush (v := 60) hx hb dX12_player_4 (by decide) ?_
  refine lv_icmp_ne (tgt := 12) hx hb dX12_player_6 (by decide) (fun c1 => ?_) (fun c1 => ?_)
  · have ic1 := (xi_ne c1 rfl (by decide) : f0_13.toInt ≠ 60)
    refine lv_aload_n hx hb dX12_player_12 rfl (lv_at hl 0 rfl) ?_
    obtain ⟨b2, rb2, tb2⟩ := hR.at a0 14 t_a0 (rfl : h_rs 13 14 = some (1314, false)) (by decide)
    refine h_get (v := .ref b2) hx hb hts iX12 hown g t_a0 (by decide) so_13 rfl 14 (by decide) (hts (.fieldLink RX12 25 "CapLeagueModel" "clubOf" "[I") (by decide +kernel)) rfl dX12_player_13 (by show va_rf (z.R a0 14) = _; rw [rb2]; rfl) ?_
    refine lv_aload_n hx hb dX12_player_16 rfl (lv_at hl 0 rfl) ?_
    refine h_get (v := .int f0_13) hx hb hts iX12 hown g t_a0 (by decide) so_13 rfl 13 (by decide) (hts (.fieldLink RX12 202 "CapLeagueModel" "players" "I") (by decide +kernel)) rfl dX12_player_17 (congrArg Value.int (ef0_13.symm)) ?_
    refine lv_iconst (v := (-1)) hx hb dX12_player_20 (by decide) ?_
    refine h_ast hx hb g tb2 (by decide) so_1314 (xi_in (by omega) (by omega)) dX12_player_21 (fun I3 H locs eI3 g => ?_)
    have hI := hI.wr eI3 tb2 (rfl : h_bd 1314 _ = ((-1), 7)) (by decide) (by decide)
    have hF := hF.wr eI3 tb2 rfl
    refine lv_aload_n hx hb dX12_player_22 rfl (lv_at hl 0 rfl) ?_
    refine lv_dup hx hb dX12_player_23 rfl ?_
    refine h_get (v := .int f0_13) hx hb hts iX12 hown g t_a0 (by decide) so_13 rfl 13 (by decide) (hts (.fieldLink RX12 202 "CapLeagueModel" "players" "I") (by decide +kernel)) rfl dX12_player_24 (congrArg Value.int ((h_n1 eI3 t_a0 tb2 (by decide)).trans (ef0_13.symm))) ?_
    refine lv_iconst (v := 1) hx hb dX12_player_27 (by decide) ?_
    refine lv_iadd hx hb dX12_player_28 ?_
    refine lv_topi (fun v4 ev4 => ?_)
    have jv4 : v4.toInt = f0_13.toInt + 1 := xi_add ev4 rfl (by decide) (by omega) (by omega)
    refine h_putI (ty := .int) (v := v4) hx hb hts iX12 tyX12 tyX12_ok nmX12 hown g t_a0 (by decide) so_13 rfl 13 (by decide) rfl (hts (.fieldLink RX12 202 "CapLeagueModel" "players" "I") (by decide +kernel)) rfl rfl (by decide +kernel) rfl rfl dX12_player_29 (fun I5 H locs eI5 g => ?_)
    have hI := hI.wr eI5 t_a0 (rfl : h_bd 13 13 = (0, 60)) (by omega) (by omega)
    have hF := hF.wr eI5 t_a0 rfl
    refine lv_aload_n hx hb dX12_player_32 rfl (lv_at hl 0 rfl) ?_
    refine h_get (v := .int v4) hx hb hts iX12 hown g t_a0 (by decide) so_13 rfl 13 (by decide) (hts (.fieldLink RX12 202 "CapLeagueModel" "players" "I") (by decide +kernel)) rfl dX12_player_33 (congrArg Value.int (h_n0 eI5)) ?_
    refine lv_iconst (v := 1) hx hb dX12_player_36 (by decide) ?_
    refine lv_isub hx hb dX12_player_37 ?_
    refine lv_topi (fun v6 ev6 => ?_)
    have jv6 : v6.toInt = v4.toInt - 1 := xi_sub ev6 rfl (by decide) (by omega) (by omega)
    have hS := g.2.1
    exact W.iret (v := v6) hx hb hr (fun t ht hW => ⟨⟨v6, I5, rfl, ⟨hI, hF, ⟨⟨(by omega), (by omega)⟩, (by right; have q1 : (I5 a0 13).toInt = _ := (congrArg Int32.toInt (h_n0 eI5)).trans rfl; refine ⟨by omega, by omega, by omega⟩)⟩⟩, h_ret g ht⟩, hS.F ht⟩) hS.2.2 dX12_player_38
  · have ic1 := (xi_eq c1 rfl (by decide) : f0_13.toInt = 60)
    refine lv_bipush (v := (-3)) hx hb dX12_player_9 (by decide) ?_
    have hS := g.2.1
    exact W.iret (v := (-3)) hx hb hr (fun t ht hW => ⟨⟨(-3), I0, rfl, ⟨hI, hF, ⟨⟨(by decide), (by decide)⟩, (by left; exact ⟨by omega, by decide, rfl⟩)⟩⟩, h_ret g ht⟩, hS.F ht⟩) hS.2.2 dX12_player_11
