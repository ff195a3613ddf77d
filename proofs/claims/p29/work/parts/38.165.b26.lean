set_option maxHeartbeats 4000000 in
set_option maxRecDepth 100000 in
theorem tX12_playerB (l : Launch) (E : tE) (X : tX) (A : Nat → Prop) (z : tZ) (I0 : tI) (L0 : tL) (a0 : Nat) (t_a0 : z.ty a0 = 13) : Met l yX12_player wsX12_player ({ frames := 1, cells := 0, slots := 0, locals := 64 }) (va_Pc [.ref a0] (h_P E X A z I0 L0)) (va_Qi (fun r (I1 : tI) => h_I z I1 ∧ h_F [(1314, 999), (13, 13)] z I0 I1 ∧ ((-3) ≤ r.toInt ∧ r.toInt ≤ 59) ∧ ((60 ≤ (I0 a0 13).toInt ∧ r.toInt = -3 ∧ I1 = I0) ∨ ((I0 a0 13).toInt < 60 ∧ r.toInt = (I0 a0 13).toInt ∧ (I1 a0 13).toInt = (I0 a0 13).toInt + 1 ∧ (∀ j : Nat, I1 (h_ad z a0 14) j = if j = (I0 a0 13).toInt.toNat then -1 else I0 (h_ad z a0 14) j)))) (fun (I1 : tI) t => h_B E A z I1 L0 t) A) 0 0 A := by
  refine Met.ofW (cc := cX12_player) (maxL := 1) (ret := (some .int)) (by decide) rfl ?_
  intro pr_ ev_ s m args below meth cd_ s₁ B hml hv
  obtain ⟨rfl, hE, hk, hX, hA, hK, hI, hR, hB0⟩ := hv
  have g : h_G h_so h_fk E A z I0 L0 s s.heap s.heap [] := ⟨hK, va_S.rf, hB0⟩
  have hF : h_F [(1314, 999), (13, 13)] z I0 I0 := h_F.rf
  have hx := B.exec
  have hb := B.bytes
  have hr := B.returns
  have hts := atoms_spec (ws := wsX12_player) B.pre
  have hown : s.vm.findClass RX12 = some m.cls := findClass_of_methodNamed B.named
  have hlocks := B.notSynchronized
  have iX12 : ∀ w ∈ u_ws RX12 TX12 51, w ∈ wsX12_player := by decide +kernel
  have hl := lv_entry ([.ref a0]) (n := 1) (Nat.le_of_ble_eq_true rfl)
  rw [lg_entry_eq]
  generalize (lg_sl ([.ref a0]) ++ List.replicate (1 - (lg_sl ([.ref a0])).length) Slot.unset).toArray = ls at hl ⊢
  have hl : lv_has ls 1 [(0, .ref a0)] := hl
  obtain ⟨cb, rcb, tcb⟩ := hR.at a0 14 t_a0 (rfl : h_rs 13 14 = some (1314, false)) (by decide)
  have acb : h_ad z a0 14 = cb := h_ad.at rcb
  obtain ⟨f0_13, ef0_13⟩ : ∃ v : Int32, v = I0 a0 13 := ⟨_, rfl⟩
  have qf0_13 : (I0 a0 13).toInt = f0_13.toInt := congrArg Int32.toInt ef0_13.symm
  have jf0_13 := hI.rd a0 13 t_a0 ef0_13 (rfl : h_bd 13 13 = (0, 60))
  have kn : f0_13.toNatClampNeg = f0_13.toInt.toNat := h_keq rfl (by omega) (by omega)
  refine lv_aload_n hx hb dX12_player_0 rfl (lv_at hl 0 rfl) ?_
  refine h_get (v := .int f0_13) hx hb hts iX12 hown g t_a0 (by decide) so_13 rfl 13 (by decide) (hts (.fieldLink RX12 202 "CapLeagueModel" "players" "I") (by decide +kernel)) rfl dX12_player_1 (congrArg Value.int (ef0_13.symm)) ?_
  refine lv_bipush (v := 60) hx hb dX12_player_4 (by decide) ?_
  refine lv_icmp_ne (tgt := 12) hx hb dX12_player_6 (by decide) (fun c1 => ?_) (fun c1 => ?_)
  · have ic1 := (xi_ne c1 rfl (by decide) : f0_13.toInt ≠ 60)
    refine lv_aload_n hx hb dX12_player_12 rfl (lv_at hl 0 rfl) ?_
    refine h_get (v := .ref cb) hx hb hts iX12 hown g t_a0 (by decide) so_13 rfl 14 (by decide) (hts (.fieldLink RX12 25 "CapLeagueModel" "clubOf" "[I") (by decide +kernel)) rfl dX12_player_13 (by show va_rf (z.R a0 14) = _; rw [rcb]; rfl) ?_
    refine lv_aload_n hx hb dX12_player_16 rfl (lv_at hl 0 rfl) ?_
    refine h_get (v := .int f0_13) hx hb hts iX12 hown g t_a0 (by decide) so_13 rfl 13 (by decide) (hts (.fieldLink RX12 202 "CapLeagueModel" "players" "I") (by decide +kernel)) rfl dX12_player_17 (congrArg Value.int (ef0_13.symm)) ?_
    refine lv_iconst (v := (-1)) hx hb dX12_player_20 (by decide) ?_
    refine h_ast hx hb g tcb (by decide) so_1314 (xi_in (by omega) (by omega)) dX12_player_21 (fun I2 H locs eI2 g => ?_)
    have hI := hI.wr eI2 tcb (rfl : h_bd 1314 _ = ((-1), 7)) (by decide) (by decide)
    have hF := hF.wr eI2 tcb rfl
    refine lv_aload_n hx hb dX12_player_22 rfl (lv_at hl 0 rfl) ?_
    refine lv_dup hx hb dX12_player_23 rfl ?_
    refine h_get (v := .int f0_13) hx hb hts iX12 hown g t_a0 (by decide) so_13 rfl 13 (by decide) (hts (.fieldLink RX12 202 "CapLeagueModel" "players" "I") (by decide +kernel)) rfl dX12_player_24 (congrArg Value.int ((h_n1 eI2 t_a0 tcb (by decide)).trans (ef0_13.symm))) ?_
    refine lv_iconst (v := 1) hx hb dX12_player_27 (by decide) ?_
    refine lv_iadd hx hb dX12_player_28 ?_
    refine lv_topi (fun v3 ev3 => ?_)
    have jv3 : v3.toInt = f0_13.toInt + 1 := xi_add ev3 rfl (by decide) (by omega) (by omega)
    refine h_putI (ty := .int) (v := v3) hx hb hts iX12 tyX12 tyX12_ok nmX12 hown g t_a0 (by decide) so_13 rfl 13 (by decide) rfl (hts (.fieldLink RX12 202 "CapLeagueModel" "players" "I") (by decide +kernel)) rfl rfl (by decide +kernel) rfl rfl dX12_player_29 (fun I4 H locs eI4 g => ?_)
    have hI := hI.wr eI4 t_a0 (rfl : h_bd 13 13 = (0, 60)) (by omega) (by omega)
    have hF := hF.wr eI4 t_a0 rfl
    refine lv_aload_n hx hb dX12_player_32 rfl (lv_at hl 0 rfl) ?_
    refine h_get (v := .int v3) hx hb hts iX12 hown g t_a0 (by decide) so_13 rfl 13 (by decide) (hts (.fieldLink RX12 202 "CapLeagueModel" "players" "I") (by decide +kernel)) rfl dX12_player_33 (congrArg Value.int (h_n0 eI4)) ?_
    refine lv_iconst (v := 1) hx hb dX12_player_36 (by decide) ?_
    refine lv_isub hx hb dX12_player_37 ?_
    refine lv_topi (fun v5 ev5 => ?_)
    have jv5 : v5.toInt = v3.toInt - 1 := xi_sub ev5 rfl (by decide) (by omega) (by omega)
    have hS := g.2.1
    exact W.iret (v := v5) hx hb hr (fun t ht hW => ⟨⟨v5, I4, rfl, ⟨hI, hF, ⟨⟨(by omega), (by omega)⟩, (by rw [acb, qf0_13]; exact Or.inr ⟨by omega, by omega, by rw [show I4 a0 13 = v3 from h_n0 eI4]; omega, fun j => (h_n1 eI4 tcb t_a0 (by decide)).trans (h_wif eI2 kn j)⟩)⟩⟩, h_ret g ht⟩, hS.F ht⟩) hS.2.2 dX12_player_38
  · have ic1 := (xi_eq c1 rfl (by decide) : f0_13.toInt = 60)
    refine lv_bipush (v := (-3)) hx hb dX12_player_9 (by decide) ?_
    have hS := g.2.1
    exact W.iret (v := (-3)) hx hb hr (fun t ht hW => ⟨⟨(-3), I0, rfl, ⟨hI, hF, ⟨⟨(by decide), (by decide)⟩, (by rw [qf0_13]; exact Or.inl ⟨by omega, by decide, rfl⟩)⟩⟩, h_ret g ht⟩, hS.F ht⟩) hS.2.2 dX12_player_11
set_option maxHeartbeats 4000000 in
set_option maxRecDepth 100000 in
theorem tX11_tradeB (l : Launch) (E : tE) (X : tX) (A : Nat → Prop) (z : tZ) (I0 : tI) (L0 : tL) (a0 : Nat) (t_a0 : z.ty a0 = 12) : Met l yX11_trade wsX11_trade ({ frames := 2, cells := 0, slots := 0, locals := 128 }) (va_Pc [.ref a0] (h_P E X A z I0 L0)) (va_Qi (fun r (I1 : tI) => h_I z I1 ∧ h_F [(10, 3), (10, 4)] z I0 I1 ∧ ((r = 1 ∧ True)) ∧ (I1 (h_ad z a0 5) 3 = 0 ∧ I1 (h_ad z a0 5) 4 = 0)) (fun (I1 : tI) t => h_B E A z I1 L0 t) A) 0 0 A := by
  refine Met.ofW (cc := cX11_trade) (maxL := 1) (ret := (some .int)) (by decide) rfl ?_
  intro pr_ ev_ s m args below meth cd_ s₁ B hml hv
  obtain ⟨rfl, hE, hk, hX, hA, hK, hI, hR, hB0⟩ := hv
  have g : h_G h_so h_fk E A z I0 L0 s s.heap s.heap [] := ⟨hK, va_S.rf, hB0⟩
  have hF : h_F [(10, 3), (10, 4)] z I0 I0 := h_F.rf
  have hx := B.exec
  have hb := B.bytes
  have hr := B.returns
  have hts := atoms_spec (ws := wsX11_trade) B.pre
  have hown : s.vm.findClass RX11 = some m.cls := findClass_of_methodNamed B.named
  have hlocks := B.notSynchronized
  have iX11 : ∀ w ∈ u_ws RX11 TX11 8, w ∈ wsX11_trade := by decide +kernel
  have hl := lv_entry ([.ref a0]) (n := 1) (Nat.le_of_ble_eq_true rfl)
  rw [lg_entry_eq]
  generalize (lg_sl ([.ref a0]) ++ List.replicate (1 - (lg_sl ([.ref a0])).length) Slot.unset).toArray = ls at hl ⊢
  have hl : lv_has ls 1 [(0, .ref a0)] := hl
  obtain ⟨bg, rbg, tbg⟩ := hR.at a0 5 t_a0 (rfl : h_rs 12 5 = some (10, false)) (by decide)
  have abg : h_ad z a0 5 = bg := h_ad.at rbg
  refine lv_aload_n hx hb dX11_trade_0 rfl (lv_at hl 0 rfl) ?_
  refine h_get (v := .ref bg) hx hb hts iX11 hown g t_a0 (by decide) so_12 rfl 5 (by decide) (hts (.fieldLink RX11 53 "CapLeague" "bargain" "LCapLeague$Trade;") (by decide +kernel)) rfl dX11_trade_1 (by show va_rf (z.R a0 5) = _; rw [rbg]; rfl) ?_
  refine va_callv (va_runV (As := []) (rest := []) ⟨hx, hb, hml, hown, hts⟩ (tX9_clearB l E X A z I0 L0 bg tbg) (cwV 0 hts gX11_trade_X9_clear rfl rfl rfl (by decide +kernel) ⟨Nat.le_of_ble_eq_true rfl, Nat.le_of_ble_eq_true rfl⟩) ⟨h_blind _ _ _ _ _ _ _, h_recv g tbg (by decide) so_10 (q := (RX9, TX9, 10)) rfl, h_pre _ hE hk hX hA hI hR g⟩ rfl rfl hl.1 rfl (lv_room (Nat.le_of_ble_eq_true rfl)) dX11_trade_4 ⟨Nat.le_of_ble_eq_true rfl, Nat.le_of_ble_eq_true rfl⟩) g.2.1 (fun q _ h => h) (fun q h => h) (fun I2 t H1 locs ht hvm h1 hB hz1 hk1 hS => ?_)
  obtain ⟨hI, fh1, h1⟩ := h1
  replace g := h_after g hB ht hS
  generalize H1 = H at g
  clear hB hk1 hz1 ht hvm hS
  have hF := hF.call fh1 rfl
  have h1p0 := h1
  refine lv_iconst (v := 1) hx hb dX11_trade_7 (by decide) ?_
  have hS := g.2.1
  exact W.iret (v := 1) hx hb hr (fun t ht hW => ⟨⟨1, I2, rfl, ⟨hI, hF, ⟨(by exact ⟨rfl, trivial⟩), (by rw [abg]; exact h1p0)⟩⟩, h_ret g ht⟩, hS.F ht⟩) hS.2.2 dX11_trade_8
set_option maxHeartbeats 4000000 in
set_option maxRecDepth 100000 in
theorem tX12_tradeB (l : Launch) (E : tE) (X : tX) (A : Nat → Prop) (z : tZ) (I0 : tI) (L0 : tL) (a0 : Nat) (t_a0 : z.ty a0 = 13) : Met l yX12_trade wsX12_trade ({ frames := 1, cells := 0, slots := 0, locals := 64 }) (va_Pc [.ref a0] (h_P E X A z I0 L0)) (va_Qi (fun r (I1 : tI) => h_I z I1 ∧ h_F [(13, 33)] z I0 I1 ∧ ((r = 1 ∧ True)) ∧ (I1 a0 33 = 0)) (fun (I1 : tI) t => h_B E A z I1 L0 t) A) 0 0 A := by
  refine Met.ofW (cc := cX12_trade) (maxL := 1) (ret := (some .int)) (by decide) rfl ?_
  intro pr_ ev_ s m args below meth cd_ s₁ B hml hv
  obtain ⟨rfl, hE, hk, hX, hA, hK, hI, hR, hB0⟩ := hv
  have g : h_G h_so h_fk E A z I0 L0 s s.heap s.heap [] := ⟨hK, va_S.rf, hB0⟩
  have hF : h_F [(13, 33)] z I0 I0 := h_F.rf
  have hx := B.exec
  have hb := B.bytes
  have hr := B.returns
  have hts := atoms_spec (ws := wsX12_trade) B.pre
  have hown : s.vm.findClass RX12 = some m.cls := findClass_of_methodNamed B.named
  have hlocks := B.notSynchronized
  have iX12 : ∀ w ∈ u_ws RX12 TX12 51, w ∈ wsX12_trade := by decide +kernel
  have hl := lv_entry ([.ref a0]) (n := 1) (Nat.le_of_ble_eq_true rfl)
  rw [lg_entry_eq]
  generalize (lg_sl ([.ref a0]) ++ List.replicate (1 - (lg_sl ([.ref a0])).length) Slot.unset).toArray = ls at hl ⊢
  have hl : lv_has ls 1 [(0, .ref a0)] := hl
  refine lv_aload_n hx hb dX12_trade_0 rfl (lv_at hl 0 rfl) ?_
  refine lv_iconst (v := 0) hx hb dX12_trade_1 (by decide) ?_
  refine h_putI (ty := .int) (v := 0) hx hb hts iX12 tyX12 tyX12_ok nmX12 hown g t_a0 (by decide) so_13 rfl 33 (by decide) rfl (hts (.fieldLink RX12 247 "CapLeagueModel" "moves" "I") (by decide +kernel)) rfl rfl (by decide +kernel) rfl rfl dX12_trade_2 (fun I1 H locs eI1 g => ?_)
  have hI := hI.wr eI1 t_a0 (rfl : h_bd 13 33 = (0, 12)) (by decide) (by decide)
  have hF := hF.wr eI1 t_a0 rfl
  refine lv_iconst (v := 1) hx hb dX12_trade_5 (by decide) ?_
  have hS := g.2.1
  exact W.iret (v := 1) hx hb hr (fun t ht hW => ⟨⟨1, I1, rfl, ⟨hI, hF, ⟨(by exact ⟨rfl, trivial⟩), (h_n0 eI1)⟩⟩, h_ret g ht⟩, hS.F ht⟩) hS.2.2 dX12_trade_6
set_option maxHeartbeats 4000000 in
set_option maxRecDepth 100000 in
theorem zX6_initB (l : Launch) (E : tE) (X : tX) (A : Nat → Prop) (z0 : tZ) (J0 : tI) (K0 : tL) (a0 : Nat) (t_a0 : z0.ty a0 = 56) (h_z0 : J0 a0 = fun _ => 0) (hU : h_U z0) : Met l yX6_init wsX6_init ({ frames := 1, cells := 1, slots := 8, locals := 64 }) (va_Pc [.ref a0] (h_P E X A z0 J0 K0)) (va_Qv (fun (q1 : tZ × tI × tL) => h_I q1.1 q1.2.1 ∧ h_R q1.1 ∧ h_X [(56, 0)] [] (some a0) z0 J0 K0 q1.1 q1.2.1 q1.2.2 ∧ h_Q [(56, 0), (7, 0)] (some a0) z0 q1.1 q1.2.1 ∧ q1.1.ty a0 = 7 ∧ (q1.2.1 a0 0 = -1)) (fun (q1 : tZ × tI × tL) t => h_B E A q1.1 q1.2.1 q1.2.2 t) A) 1 8 A := by
  refine Met.ofW (cc := cX6_init) (maxL := 1) (ret := none) (by decide) rfl ?_
  intro pr_ ev_ s m args below meth cd_ s₁ B hml hv
  obtain ⟨rfl, hE, hk, hX, hA, hK, hI, hR, hB0⟩ := hv
  obtain ⟨z, ez0⟩ : ∃ z : tZ, z = z0 := ⟨_, rfl⟩
  obtain ⟨I0, eJ0⟩ : ∃ I0 : tI, I0 = J0 := ⟨_, rfl⟩
  obtain ⟨L0, eK0⟩ : ∃ L0 : tL, L0 = K0 := ⟨_, rfl⟩
  rw [← ez0, ← eJ0] at hI
  rw [← ez0] at hR t_a0
  rw [← ez0, ← eJ0, ← eK0] at hB0
  rw [← eJ0] at h_z0
  have g : h_G h_so h_fk E A z I0 L0 s s.heap s.heap [] := ⟨hK, va_S.rf, hB0⟩
  have hF : h_F [(56, 0)] z I0 I0 := h_F.rf
  have hx := B.exec
  have hb := B.bytes
  have hr := B.returns
  have hts := atoms_spec (ws := wsX6_init) B.pre
  have hown : s.vm.findClass RX6 = some m.cls := findClass_of_methodNamed B.named
  have hlocks := B.notSynchronized
  have iX6 : ∀ w ∈ u_ws RX6 TX6 9, w ∈ wsX6_init := by decide +kernel
  have hl := lv_entry ([.ref a0]) (n := 1) (Nat.le_of_ble_eq_true rfl)
  rw [lg_entry_eq]
  generalize (lg_sl ([.ref a0]) ++ List.replicate (1 - (lg_sl ([.ref a0])).length) Slot.unset).toArray = ls at hl ⊢
  have hl : lv_has ls 1 [(0, .ref a0)] := hl
  have hin : meth.name = "<init>" := (name_of_methodNamed B.named B.method).1
  have hZ : h_X [(56, 0)] [] (some a0) z0 J0 K0 z I0 L0 := by rw [ez0, eJ0, eK0]; exact h_X.rf
  have hz : I0 a0 = (fun _ => 0) := h_z0
  have hQ : h_Q [(56, 0), (7, 0)] (some a0) z0 z I0 := by rw [ez0]; exact h_Q.rf hU (fun b hb => by cases hb; exact h_z0)
  refine lv_aload_n hx hb dX6_init_0 rfl (lv_at hl 0 rfl) ?_
  refine W.objInit hx hb hown (hts (.methodLink RX6 3 objectInit) (by decide +kernel)) (hts (.instanceMethod objectInit) (by decide +kernel)) (hts (.code objectInit ⟨#[0xb1]⟩ 1 none) (List.mem_of_getElem? (i := 3) rfl)) rfl (by rw [hml]; exact hl.1) rfl dX6_init_1 (Nat.le_of_ble_eq_true rfl) (Nat.le_of_ble_eq_true rfl) ?_
  refine W.eq (g2 := F0 m 4 ls []) rfl ?_
  refine lv_aload_n hx hb dX6_init_4 rfl (lv_at hl 0 rfl) ?_
  refine lv_iconst (v := (-1)) hx hb dX6_init_5 (by decide) ?_
  refine h_putI (ty := .int) (v := (-1)) hx hb hts iX6 tyX6 tyX6_ok nmX6 hown g t_a0 (by decide) so_56 rfl 0 (by decide) rfl (hts (.fieldLink RX6 9 "CapLeague$Player" "club" "I") (by decide +kernel)) rfl rfl (by decide +kernel) rfl rfl dX6_init_6 (fun I1 H locs eI1 g => ?_)
  have hI := hI.wr eI1 t_a0 (rfl : h_bd 56 0 = ((-2147483648), 2147483647)) (by decide) (by decide)
  have hF := hF.wr eI1 t_a0 rfl
  have hz := h_hz hz eI1
  refine lv_aload_n hx hb dX6_init_9 rfl (lv_at hl 0 rfl) ?_
  refine lv_bipush (v := 8) hx hb dX6_init_10 (by decide) ?_
  have kf_a0_0 : I1 a0 0 = (-1) := h_n0 eI1
  have hZ := hZ.tcall hF rfl
  have hQ := hQ.tc hF rfl
  refine h_newI hx hb (hts (.arrayClass .int) (by decide +kernel)) g hA so_708 (by decide) (by decide) (by decide) (Nat.le_of_ble_eq_true rfl) (Nat.le_of_ble_eq_true rfl) dX6_init_12 (fun q2 H hq0 g => ?_)
  have n_q2 := hZ.fresh hq0 (fun h => h_neq t_a0 (by decide) hq0 (Option.some.inj h).symm)
  have hu_q2 := hQ.1.u (q := q2) (t := 708) hq0
  have hQ := hQ.nw (q := q2) (t := 708) hq0 (by decide)
  have hI := hI.nw (q := q2) (t := 708) (f := fun _ => none)
  have hR := hR.nw (q := q2) (t := 708) (f := fun _ => none) hq0 (fun k t2 n2 h => by cases (show (none : Option (Nat × Bool)) = some (t2, n2) from h))
  have hZ := hZ.nw (q := q2) (t := 708) (f := fun _ => none) hq0 (L2 := L0) (fun _ _ => rfl)
  have hz : h_row I1 q2 (fun _ => 0) a0 = (fun j => if j = 0 then (-1) else (fun _ => 0) j) := (h_row_n (h_neq t_a0 (by decide) hq0)).trans hz
  have kf_a0_0 : h_row I1 q2 (fun _ => 0) a0 0 = (-1) := (congrFun (h_row_n (h_neq t_a0 (by decide) hq0)) 0).trans kf_a0_0
  have t_a0 := h_nwk (q := q2) (t := 708) (f := fun _ => none) hq0 t_a0 (by decide)
  have tq2 : (z.nw q2 708 (fun _ => none)).ty q2 = 708 := nw_te
  obtain ⟨z, ez⟩ : ∃ z1 : tZ, z1 = (z.nw q2 708 (fun _ => none)) := ⟨_, rfl⟩
  rw [← ez] at g hI hR hZ hQ hu_q2 t_a0 tq2 
  obtain ⟨I0, eI⟩ : ∃ J : tI, J = h_row I1 q2 (fun _ => 0) := ⟨_, rfl⟩
  rw [← eI] at g hI hZ hQ hz kf_a0_0
  have hF : h_F [(56, 0)] z I0 I0 := h_F.rf
  refine W.cs (cells' := 1) (slots' := 8) rfl rfl ?_
  have kf_a0_0 : I0 a0 0 = (-1) := kf_a0_0
  have hZ := hZ.tcall hF rfl
  have hQ := hQ.tc hF rfl
  refine h_putR (ty := tyX6 8) (v := q2) hx hb hts iX6 tyX6 tyX6_ok nmX6 hown g t_a0 (by decide) so_56 rfl 8 (by decide) rfl (hts (.fieldLink RX6 15 "CapLeague$Player" "worths" "[I") (by decide +kernel)) rfl rfl hin rfl (by decide +kernel) rfl rfl dX6_init_14 (fun H locs g => ?_)
  have hQ := hQ.wR (a := a0) (k := 8) (v := q2) t_a0 (by decide) tq2 (by decide) (fun h9 => ⟨hu_q2, n_q2⟩)
  have hR := hR.wR (k0 := 8) (v := some q2) t_a0 (fun _ => rfl)
  have hZ := hZ.wR (a := a0) (k := 8) (v := some q2) (Or.inl rfl)
  have hI : h_I (z.wR a0 8 (some q2)) I0 := hI
  have t_a0 : (z.wR a0 8 (some q2)).ty a0 = 56 := t_a0
  have tq2 : (z.wR a0 8 (some q2)).ty q2 = 708 := tq2
  have Ra0_8 : (z.wR a0 8 (some q2)).R a0 8 = some q2 := h_up_eq
  obtain ⟨z, ez⟩ : ∃ z1 : tZ, z1 = (z.wR a0 8 (some q2)) := ⟨_, rfl⟩
  rw [← ez] at g hI hR hZ hQ t_a0 tq2 Ra0_8
  have hF : h_F [(56, 0)] z I0 I0 := h_F.rf
  have hZ := hZ.tcall hF rfl
  have hQ := hQ.tc hF rfl
  have kf_a0_0 : I0 a0 0 = (-1) := kf_a0_0
  have g := g.rt (a := a0) (t := 7) (by rw [t_a0]; decide) (by rw [t_a0]; rfl)
  have hI := hI.rt (a := a0) (t := 7) (fun k => by
      rw [hz]
      by_cases hk0 : k = 0
      · subst hk0
        exact ⟨by decide, by decide⟩
      simp only [if_neg hk0]
      exact h_bd0 7 k)
  have hR := hR.rt (t := 7) t_a0 (by decide) (by decide) (fun k t2 n2 h hk => by
      have hk9 : k < 9 := hk
      rcases (show k = 0 ∨ k = 1 ∨ k = 2 ∨ k = 3 ∨ k = 4 ∨ k = 5 ∨ k = 6 ∨ k = 7 ∨ k = 8 by omega) with rfl | rfl | rfl | rfl | rfl | rfl | rfl | rfl | rfl
      · cases (show (none : Option (Nat × Bool)) = some (t2, n2) from h)
      · cases (show (none : Option (Nat × Bool)) = some (t2, n2) from h)
      · cases (show (none : Option (Nat × Bool)) = some (t2, n2) from h)
      · cases (show (none : Option (Nat × Bool)) = some (t2, n2) from h)
      · cases (show (none : Option (Nat × Bool)) = some (t2, n2) from h)
      · cases (show (none : Option (Nat × Bool)) = some (t2, n2) from h)
      · cases (show (none : Option (Nat × Bool)) = some (t2, n2) from h)
      · cases (show (none : Option (Nat × Bool)) = some (t2, n2) from h)
      · have e9 : some (708, false) = some (t2, n2) := h
        cases e9
        exact ⟨q2, Ra0_8, tq2⟩)
  have hZ := hZ.rt (a := a0) (t := 7) (Or.inl rfl)
  have hQ := hQ.rt (a := a0) (t := 7) t_a0 (by decide) (by decide) rfl rfl
  have tq2 := h_rtk (t := 7) tq2 t_a0 (by decide)
  have t_a0 : (z.rt a0 7).ty a0 = 7 := rt_e
  have Ra0_8 : (z.rt a0 7).R a0 8 = some q2 := Ra0_8
  obtain ⟨z, ez⟩ : ∃ z1 : tZ, z1 = (z.rt a0 7) := ⟨_, rfl⟩
  rw [← ez] at g hI hR hZ hQ t_a0 tq2 Ra0_8
  have hF : h_F [(56, 0)] z I0 I0 := h_F.rf
  have rq2 := Ra0_8
  have hZ := hZ.tcall hF rfl
  have hQ := hQ.tc hF rfl
  have hS := g.2.1
  exact W.vret hx hb hr (fun t ht hW => ⟨⟨(z, I0, L0), rfl, ⟨hI, hR, hZ, hQ, t_a0, (by show I0 a0 0 = -1; rw [hz]; rfl)⟩, h_ret g ht⟩, hS.F ht⟩) hS.2.2 dX6_init_17
set_option maxHeartbeats 4000000 in
set_option maxRecDepth 100000 in
theorem zX0_addPlayerB (l : Launch) (E : tE) (X : tX) (A : Nat → Prop) (z0 : tZ) (J0 : tI) (K0 : tL) (a0 : Nat) (t_a0 : z0.ty a0 = 1) (hU : h_U z0) : Met l yX0_addPlayer wsX0_addPlayer ({ frames := 2, cells := 2, slots := 17, locals := 128 }) (va_Pc [.ref a0] (h_P E X A z0 J0 K0)) (va_Qi (fun r (q1 : tZ × tI × tL) => h_I q1.1 q1.2.1 ∧ h_R q1.1 ∧ h_X [(1, 2), (56, 0)] [101] none z0 J0 K0 q1.1 q1.2.1 q1.2.2 ∧ h_Q [(1, 2), (56, 0), (7, 0)] none z0 q1.1 q1.2.1 ∧ ((-3) ≤ r.toInt ∧ r.toInt ≤ 59) ∧ ((60 ≤ (J0 a0 2).toInt ∧ r.toInt = -3 ∧ q1.2.1 a0 2 = J0 a0 2 ∧ q1.1.R (h_ad z0 a0 1) = z0.R (h_ad z0 a0 1)) ∨ ((J0 a0 2).toInt < 60 ∧ r.toInt = (J0 a0 2).toInt ∧ (q1.2.1 a0 2).toInt = (J0 a0 2).toInt + 1 ∧ ∃ q : Nat, z0.ty q = 0 ∧ q1.2.1 q 0 = -1 ∧ q1.1.R (h_ad z0 a0 1) = fun k => if k = (J0 a0 2).toInt.toNat then some q else z0.R (h_ad z0 a0 1) k))) (fun (q1 : tZ × tI × tL) t => h_B E A q1.1 q1.2.1 q1.2.2 t) A) 2 17 A := by
  refine Met.ofW (cc := cX0_addPlayer) (maxL := 1) (ret := (some .int)) (by decide) rfl ?_
  intro pr_ ev_ s m args below meth cd_ s₁ B hml hv
  obtain ⟨rfl, hE, hk, hX, hA, hK, hI, hR, hB0⟩ := hv
  obtain ⟨z, ez0⟩ : ∃ z : tZ, z = z0 := ⟨_, rfl⟩
  obtain ⟨I0, eJ0⟩ : ∃ I0 : tI, I0 = J0 := ⟨_, rfl⟩
  obtain ⟨L0, eK0⟩ : ∃ L0 : tL, L0 = K0 := ⟨_, rfl⟩
  rw [← ez0, ← eJ0] at hI
  rw [← ez0] at hR t_a0
  rw [← ez0, ← eJ0, ← eK0] at hB0
  have g : h_G h_so h_fk E A z I0 L0 s s.heap s.heap [] := ⟨hK, va_S.rf, hB0⟩
  have hF : h_F [(1, 2), (56, 0)] z I0 I0 := h_F.rf
  have hx := B.exec
  have hb := B.bytes
  have hr := B.returns
  have hts := atoms_spec (ws := wsX0_addPlayer) B.pre
  have hown : s.vm.findClass RX0 = some m.cls := findClass_of_methodNamed B.named
  have hlocks := B.notSynchronized
  have iX0 : ∀ w ∈ u_ws RX0 TX0 9, w ∈ wsX0_addPlayer := by decide +kernel
  have iX6 : ∀ w ∈ u_ws RX6 TX6 9, w ∈ wsX0_addPlayer := by decide +kernel
  have hl := lv_entry ([.ref a0]) (n := 1) (Nat.le_of_ble_eq_true rfl)
  rw [lg_entry_eq]
  generalize (lg_sl ([.ref a0]) ++ List.replicate (1 - (lg_sl ([.ref a0])).length) Slot.unset).toArray = ls at hl ⊢
  have hl : lv_has ls 1 [(0, .ref a0)] := hl
  have hZ : h_X [(1, 2), (56, 0)] [101] none z0 J0 K0 z I0 L0 := by rw [ez0, eJ0, eK0]; exact h_X.rf
  have hQ : h_Q [(1, 2), (56, 0), (7, 0)] none z0 z I0 := by rw [ez0]; exact h_Q.rf hU (fun b hb => by cases hb)
  obtain ⟨f0_2, ef0_2⟩ : ∃ v : Int32, v = I0 a0 2 := ⟨_, rfl⟩
  have qJ2 : J0 a0 2 = f0_2 := by rw [← eJ0]; exact ef0_2.symm
  have jf0_2 := hI.rd a0 2 t_a0 ef0_2 (rfl : h_bd 1 2 = (0, 60))
  obtain ⟨pl, rpl, tpl⟩ := hR.at a0 1 t_a0 (rfl : h_rs 1 1 = some (101, false)) (by decide)
  have apl : h_ad z0 a0 1 = pl := by rw [← ez0]; exact h_ad.at rpl
  have ra_pl : z.R pl = z0.R pl := by rw [ez0]
  refine lv_aload_n hx hb dX0_addPlayer_0 rfl (lv_at hl 0 rfl) ?_
  refine h_get (v := .int f0_2) hx hb hts iX0 hown g t_a0 (by decide) so_1 rfl 2 (by decide) (hts (.fieldLink RX0 51 "CapLeague$Books" "size" "I") (by decide +kernel)) rfl dX0_addPlayer_1 (congrArg Value.int (ef0_2.symm)) ?_
  refine lv_bipush (v := 60) hx hb dX0_addPlayer_4 (by decide) ?_
  refine lv_icmp_lt (tgt := 12) hx hb dX0_addPlayer_6 (by decide) (fun c1 => ?_) (fun c1 => ?_)
  · have ic1 := (xi_lt c1 rfl (by decide) : f0_2.toInt < 60)
    refine lv_aload_n hx hb dX0_addPlayer_12 rfl (lv_at hl 0 rfl) ?_
    refine h_get (v := .ref pl) hx hb hts iX0 hown g t_a0 (by decide) so_1 rfl 1 (by decide) (hts (.fieldLink RX0 11 "CapLeague$Books" "players" "[LCapLeague$Player;") (by decide +kernel)) rfl dX0_addPlayer_13 (by show va_rf (z.R a0 1) = _; rw [rpl]; rfl) ?_
    refine lv_aload_n hx hb dX0_addPlayer_16 rfl (lv_at hl 0 rfl) ?_
    refine h_get (v := .int f0_2) hx hb hts iX0 hown g t_a0 (by decide) so_1 rfl 2 (by decide) (hts (.fieldLink RX0 51 "CapLeague$Books" "size" "I") (by decide +kernel)) rfl dX0_addPlayer_17 (congrArg Value.int (ef0_2.symm)) ?_
    have kf_a0_2 : I0 a0 2 = f0_2 := ef0_2.symm
    have hZ := hZ.tcall hF rfl
    have hQ := hQ.tc hF rfl
    refine h_newO (C := RX6) (T := TX6) (N := 9) (ci := 6) hx hb hts iX6 tyX6 tyX6_ok hown (hts (.classLink RX0 9 RX6) (by decide +kernel)) (hts (.instantiable RX6 9) (by decide +kernel)) (hts (.initialized RX6) (by decide +kernel)) g hA rfl so_56 (fun j hj => by rcases (show j = 0 ∨ j = 1 ∨ j = 2 ∨ j = 3 ∨ j = 4 ∨ j = 5 ∨ j = 6 ∨ j = 7 ∨ j = 8 by omega) with rfl | rfl | rfl | rfl | rfl | rfl | rfl | rfl | rfl <;> rfl) (Nat.le_of_ble_eq_true rfl) (Nat.le_of_ble_eq_true rfl) dX0_addPlayer_20 (fun q2 H hq0 g => ?_)
    have n_q2 := hZ.fresh hq0 (fun h => by cases h)
    have hu_q2 := hQ.1.u (q := q2) (t := 56) hq0
    have hQ := hQ.nw (q := q2) (t := 56) hq0 (by decide)
    have hI := hI.nw (q := q2) (t := 56) (f := fun _ => none)
    have hR := hR.nw (q := q2) (t := 56) (f := fun _ => none) hq0 (fun k t2 n2 h => by cases (show (none : Option (Nat × Bool)) = some (t2, n2) from h))
    have hZ := hZ.nw (q := q2) (t := 56) (f := fun _ => none) hq0 (L2 := (h_rL L0 q2 (fun _ => 0))) (fun b hb => h_rL_n hb)
    have kf_a0_2 : h_row I0 q2 (fun _ => 0) a0 2 = f0_2 := (congrFun (h_row_n (h_neq t_a0 (by decide) hq0)) 2).trans kf_a0_2
    have ra_pl : (z.nw q2 56 (fun _ => none)).R pl = z0.R pl := (nw_rn (h_neq tpl (by decide) hq0)).trans ra_pl
    have rpl := h_nwr (q := q2) (t := 56) (f := fun _ => none) hq0 t_a0 (by decide) rpl
    have t_a0 := h_nwk (q := q2) (t := 56) (f := fun _ => none) hq0 t_a0 (by decide)
    have tpl := h_nwk (q := q2) (t := 56) (f := fun _ => none) hq0 tpl (by decide)
    have tq2 : (z.nw q2 56 (fun _ => none)).ty q2 = 56 := nw_te
    have hzq2 : h_row I0 q2 (fun _ => 0) q2 = fun _ => 0 := h_row_e
    obtain ⟨z, ez⟩ : ∃ z1 : tZ, z1 = (z.nw q2 56 (fun _ => none)) := ⟨_, rfl⟩
    rw [← ez] at g hI hR hZ hQ hu_q2 ra_pl t_a0 tpl tq2 rpl
    obtain ⟨I0, eI⟩ : ∃ J : tI, J = h_row I0 q2 (fun _ => 0) := ⟨_, rfl⟩
    rw [← eI] at g hI hZ hQ hzq2 kf_a0_2
    obtain ⟨L3, eL⟩ : ∃ J : tL, J = (h_rL L0 q2 (fun _ => 0)) := ⟨_, rfl⟩
    rw [← eL] at g hZ
    have hF : h_F [(1, 2), (56, 0)] z I0 I0 := h_F.rf
    refine W.cs (cells' := 1) (slots' := 9) rfl rfl ?_
    refine lv_dup hx hb dX0_addPlayer_23 rfl ?_
    have kf_a0_2 : I0 a0 2 = f0_2 := kf_a0_2
    have hZ := hZ.tcall hF rfl
    have hQ := hQ.tc hF rfl
    refine va_callv (va_runIN (As := []) (rest := [.ref q2, .int f0_2, .ref pl]) ⟨hx, hb, hml, hown, hts⟩ (zX6_initB l E X A z I0 L3 q2 tq2 hzq2 hQ.1) (⟨va_cnB 0 hts gX0_addPlayer_X6_init_n54 rfl rfl rfl (hE.link 7 rfl) (hts (.initialized RX6) (by decide +kernel)) (by decide +kernel) ⟨Nat.le_of_ble_eq_true rfl, Nat.le_of_ble_eq_true rfl⟩, rfl, hts (.instanceMethod yX6_init) (by decide +kernel)⟩) ⟨h_blind _ _ _ _ _ _ _, h_pre _ hE hk hX hA hI hR g⟩ rfl rfl hl.1 rfl (lv_room (Nat.le_of_ble_eq_true rfl)) dX0_addPlayer_24 ⟨Nat.le_of_ble_eq_true rfl, Nat.le_of_ble_eq_true rfl⟩) g.2.1 (fun q _ h => h) (fun q h => h) (fun u t H1 locs ht hvm h4 hB hz1 hk1 hS => ?_)
    obtain ⟨z, I0, L5⟩ := u
    obtain ⟨hI, hR, xh4, qh4, tq2_, h4⟩ := h4
    have hI : h_I z I0 := hI
    have hR : h_R z := hR
    have hB : h_B E A z I0 L5 t := hB
    have xh4 : h_X [(56, 0)] [] (some q2) _ _ _ z I0 L5 := xh4
    have qh4 : h_Q [(56, 0), (7, 0)] (some q2) _ z I0 := qh4
    have hQ := hQ.call xh4 qh4 rfl rfl
    have hu_q2 := hu_q2.call qh4.2.1 tq2 (by decide)
    have hZ := hZ.call xh4 rfl (fun t h9 => rfl) (fun b hb => Or.inr (by cases hb; exact n_q2))
    have kf_a0_2 : I0 a0 2 = f0_2 := (xh4.I t_a0 (by decide) (h_sne t_a0 tq2 (by decide)) rfl).trans kf_a0_2
    have rpl := xh4.R t_a0 (by decide) (h_sne t_a0 tq2 (by decide)) rfl rpl
    have ra_pl : z.R pl = z0.R pl := ((xh4 pl (by rw [tpl]; decide) (h_sne tpl tq2 (by decide))).2.1 (by rw [tpl]; rfl)).trans ra_pl
    have t_a0 := xh4.ty t_a0 (by decide) (h_sne t_a0 tq2 (by decide))
    have tpl := xh4.ty tpl (by decide) (h_sne tpl tq2 (by decide))
    have tq2 : z.ty q2 = 7 := tq2_
    replace g := h_after g hB ht hS
    generalize H1 = H at g
    clear hB hk1 hz1 ht hvm hS
    have hF : h_F [(1, 2), (56, 0)] z I0 I0 := h_F.rf
    refine W.cs (cells' := 2) (slots' := 17) rfl rfl ?_
    have kf_q2_0 : I0 q2 0 = -1 := h4
    have kf_a0_2 : I0 a0 2 = f0_2 := kf_a0_2
    have kf_q2_0 : I0 q2 0 = (-1) := kf_q2_0
    have hZ := hZ.tcall hF rfl
    have hQ := hQ.tc hF rfl
    refine h_astP hx hb g tpl (by decide) so_101 tq2 (by decide) so_7 (xi_in (by omega) (by omega)) dX0_addPlayer_27 (fun H locs g => ?_)
    have hR := hR.ast (i := f0_2.toNatClampNeg) tpl 7 (fun k t2 n2 h => by have e9 : some (7, true) = some (t2, n2) := h; cases e9; rfl) tq2
    have hZ := hZ.wR (a := pl) (k := f0_2.toNatClampNeg) (v := some q2) (Or.inr (Or.inr (by rw [tpl]; rfl)))
    have hQ := hQ.wR (a := pl) (k := f0_2.toNatClampNeg) (v := q2) tpl (by decide) tq2 (by decide) (fun _ => ⟨hu_q2, n_q2⟩)
    have hI : h_I (z.wR pl f0_2.toNatClampNeg (some q2)) I0 := hI
    have t_a0 : (z.wR pl f0_2.toNatClampNeg (some q2)).ty a0 = 1 := t_a0
    have tpl : (z.wR pl f0_2.toNatClampNeg (some q2)).ty pl = 101 := tpl
    have tq2 : (z.wR pl f0_2.toNatClampNeg (some q2)).ty q2 = 7 := tq2
    have rpl : (z.wR pl f0_2.toNatClampNeg (some q2)).R a0 1 = some pl := (congrFun (h_up_ne (h_ne2 t_a0 tpl (by decide))) 1).trans rpl
    have ra_pl : (z.wR pl f0_2.toNatClampNeg (some q2)).R pl = (fun k => if k = f0_2.toNatClampNeg then some q2 else z0.R pl k) := h_wRf ra_pl
    have rast : (z.wR pl f0_2.toNatClampNeg (some q2)).R pl f0_2.toNatClampNeg = some q2 := h_up_eq
    obtain ⟨z, ez⟩ : ∃ z1 : tZ, z1 = (z.wR pl f0_2.toNatClampNeg (some q2)) := ⟨_, rfl⟩
    rw [← ez] at g hI hR hZ hQ ra_pl t_a0 tpl tq2 rpl rast
    have hF : h_F [(1, 2), (56, 0)] z I0 I0 := h_F.rf
    refine lv_aload_n hx hb dX0_addPlayer_28 rfl (lv_at hl 0 rfl) ?_
    refine lv_dup hx hb dX0_addPlayer_29 rfl ?_
    refine h_get (v := .int f0_2) hx hb hts iX0 hown g t_a0 (by decide) so_1 rfl 2 (by decide) (hts (.fieldLink RX0 51 "CapLeague$Books" "size" "I") (by decide +kernel)) rfl dX0_addPlayer_30 (congrArg Value.int (kf_a0_2)) ?_
    refine lv_iconst (v := 1) hx hb dX0_addPlayer_33 (by decide) ?_
    refine lv_iadd hx hb dX0_addPlayer_34 ?_
    refine lv_topi (fun v6 ev6 => ?_)
    have jv6 : v6.toInt = f0_2.toInt + 1 := xi_add ev6 rfl (by decide) (by omega) (by omega)
    refine h_putI (ty := .int) (v := v6) hx hb hts iX0 tyX0 tyX0_ok nmX0 hown g t_a0 (by decide) so_1 rfl 2 (by decide) rfl (hts (.fieldLink RX0 51 "CapLeague$Books" "size" "I") (by decide +kernel)) rfl rfl (by decide +kernel) rfl rfl dX0_addPlayer_35 (fun I7 H locs eI7 g => ?_)
    have hI := hI.wr eI7 t_a0 (rfl : h_bd 1 2 = (0, 60)) (by omega) (by omega)
    have hF := hF.wr eI7 t_a0 rfl
    refine lv_aload_n hx hb dX0_addPlayer_38 rfl (lv_at hl 0 rfl) ?_
    refine h_get (v := .int v6) hx hb hts iX0 hown g t_a0 (by decide) so_1 rfl 2 (by decide) (hts (.fieldLink RX0 51 "CapLeague$Books" "size" "I") (by decide +kernel)) rfl dX0_addPlayer_39 (congrArg Value.int (h_n0 eI7)) ?_
    refine lv_iconst (v := 1) hx hb dX0_addPlayer_42 (by decide) ?_
    refine lv_isub hx hb dX0_addPlayer_43 ?_
    refine lv_topi (fun v8 ev8 => ?_)
    have jv8 : v8.toInt = v6.toInt - 1 := xi_sub ev8 rfl (by decide) (by omega) (by omega)
    have hZ := hZ.tcall hF rfl
    have hQ := hQ.tc hF rfl
    have hS := g.2.1
    exact W.iret (v := v8) hx hb hr (fun t ht hW => ⟨⟨v8, (z, I7, L5), rfl, ⟨hI, hR, hZ, hQ, ⟨⟨(by omega), (by omega)⟩, (by rw [apl]; right; rw [qJ2]; refine ⟨by omega, by omega, ?_, q2, n_q2, (h_n1 eI7 tq2 t_a0 (by decide)).trans (kf_q2_0), ra_pl⟩; show (I7 a0 2).toInt = _; rw [h_n0 eI7]; omega)⟩⟩, h_ret g ht⟩, hS.F ht⟩) hS.2.2 dX0_addPlayer_44
  · have ic1 := (xi_nlt c1 rfl (by decide) : 60 ≤ f0_2.toInt)
    refine lv_bipush (v := (-3)) hx hb dX0_addPlayer_9 (by decide) ?_
    refine W.widen (k := 2) (n := 17) (by decide) (by decide) ?_
    have hZ := hZ.tcall hF rfl
    have hQ := hQ.tc hF rfl
    have hS := g.2.1
    exact W.iret (v := (-3)) hx hb hr (fun t ht hW => ⟨⟨(-3), (z, I0, L0), rfl, ⟨hI, hR, hZ, hQ, ⟨⟨(by decide), (by decide)⟩, (by rw [apl]; left; rw [qJ2]; exact ⟨by omega, by decide, ef0_2.symm, ra_pl⟩)⟩⟩, h_ret g ht⟩, hS.F ht⟩) hS.2.2 dX0_addPlayer_11
set_option maxHeartbeats 4000000 in
set_option maxRecDepth 100000 in
theorem zX11_playerB (l : Launch) (E : tE) (X : tX) (A : Nat → Prop) (z0 : tZ) (J0 : tI) (K0 : tL) (a0 : Nat) (t_a0 : z0.ty a0 = 12) (hU : h_U z0) : Met l yX11_player wsX11_player ({ frames := 3, cells := 2, slots := 17, locals := 192 }) (va_Pc [.ref a0] (h_P E X A z0 J0 K0)) (va_Qi (fun r (q1 : tZ × tI × tL) => h_I q1.1 q1.2.1 ∧ h_R q1.1 ∧ h_X [(1, 2), (56, 0)] [101] none z0 J0 K0 q1.1 q1.2.1 q1.2.2 ∧ h_Q [(1, 2), (56, 0), (7, 0)] none z0 q1.1 q1.2.1 ∧ ((-3) ≤ r.toInt ∧ r.toInt ≤ 59) ∧ ((60 ≤ (J0 (h_ad z0 a0 3) 2).toInt ∧ r.toInt = -3 ∧ q1.2.1 (h_ad z0 a0 3) 2 = J0 (h_ad z0 a0 3) 2 ∧ q1.1.R (h_ad z0 (h_ad z0 a0 3) 1) = z0.R (h_ad z0 (h_ad z0 a0 3) 1)) ∨ ((J0 (h_ad z0 a0 3) 2).toInt < 60 ∧ r.toInt = (J0 (h_ad z0 a0 3) 2).toInt ∧ (q1.2.1 (h_ad z0 a0 3) 2).toInt = (J0 (h_ad z0 a0 3) 2).toInt + 1 ∧ ∃ q : Nat, z0.ty q = 0 ∧ q1.2.1 q 0 = -1 ∧ q1.1.R (h_ad z0 (h_ad z0 a0 3) 1) = fun k => if k = (J0 (h_ad z0 a0 3) 2).toInt.toNat then some q else z0.R (h_ad z0 (h_ad z0 a0 3) 1) k))) (fun (q1 : tZ × tI × tL) t => h_B E A q1.1 q1.2.1 q1.2.2 t) A) 2 17 A := by
  refine Met.ofW (cc := cX11_player) (maxL := 1) (ret := (some .int)) (by decide) rfl ?_
  intro pr_ ev_ s m args below meth cd_ s₁ B hml hv
  obtain ⟨rfl, hE, hk, hX, hA, hK, hI, hR, hB0⟩ := hv
  obtain ⟨z, ez0⟩ : ∃ z : tZ, z = z0 := ⟨_, rfl⟩
  obtain ⟨I0, eJ0⟩ : ∃ I0 : tI, I0 = J0 := ⟨_, rfl⟩
  obtain ⟨L0, eK0⟩ : ∃ L0 : tL, L0 = K0 := ⟨_, rfl⟩
  rw [← ez0, ← eJ0] at hI
  rw [← ez0] at hR t_a0
  rw [← ez0, ← eJ0, ← eK0] at hB0
  have g : h_G h_so h_fk E A z I0 L0 s s.heap s.heap [] := ⟨hK, va_S.rf, hB0⟩
  have hF : h_F [(1, 2), (56, 0)] z I0 I0 := h_F.rf
  have hx := B.exec
  have hb := B.bytes
  have hr := B.returns
  have hts := atoms_spec (ws := wsX11_player) B.pre
  have hown : s.vm.findClass RX11 = some m.cls := findClass_of_methodNamed B.named
  have hlocks := B.notSynchronized
  have iX11 : ∀ w ∈ u_ws RX11 TX11 8, w ∈ wsX11_player := by decide +kernel
  have hl := lv_entry ([.ref a0]) (n := 1) (Nat.le_of_ble_eq_true rfl)
  rw [lg_entry_eq]
  generalize (lg_sl ([.ref a0]) ++ List.replicate (1 - (lg_sl ([.ref a0])).length) Slot.unset).toArray = ls at hl ⊢
  have hl : lv_has ls 1 [(0, .ref a0)] := hl
  have hZ : h_X [(1, 2), (56, 0)] [101] none z0 J0 K0 z I0 L0 := by rw [ez0, eJ0, eK0]; exact h_X.rf
  have hQ : h_Q [(1, 2), (56, 0), (7, 0)] none z0 z I0 := by rw [ez0]; exact h_Q.rf hU (fun b hb => by cases hb)
  obtain ⟨bk, rbk, tbk⟩ := hR.at a0 3 t_a0 (rfl : h_rs 12 3 = some (1, false)) (by decide)
  have abk : h_ad z0 a0 3 = bk := by rw [← ez0]; exact h_ad.at rbk
  refine lv_aload_n hx hb dX11_player_0 rfl (lv_at hl 0 rfl) ?_
  refine h_get (v := .ref bk) hx hb hts iX11 hown g t_a0 (by decide) so_12 rfl 3 (by decide) (hts (.fieldLink RX11 37 "CapLeague" "books" "LCapLeague$Books;") (by decide +kernel)) rfl dX11_player_1 (by show va_rf (z.R a0 3) = _; rw [rbk]; rfl) ?_
  have hZ := hZ.tcall hF rfl
  have hQ := hQ.tc hF rfl
  refine va_calli (va_runV (As := []) (rest := []) ⟨hx, hb, hml, hown, hts⟩ (zX0_addPlayerB l E X A z I0 L0 bk tbk hQ.1) (cwV 0 hts gX11_player_X0_addPlayer rfl rfl rfl (by decide +kernel) ⟨Nat.le_of_ble_eq_true rfl, Nat.le_of_ble_eq_true rfl⟩) ⟨h_blind _ _ _ _ _ _ _, h_recv g tbk (by decide) so_1 (q := (RX0, TX0, 9)) rfl, h_pre _ hE hk hX hA hI hR g⟩ rfl rfl hl.1 rfl (lv_room (Nat.le_of_ble_eq_true rfl)) dX11_player_4 ⟨Nat.le_of_ble_eq_true rfl, Nat.le_of_ble_eq_true rfl⟩) g.2.1 (fun q _ h => h) (fun q h => h) (fun rh1 u t H1 locs ht hvm h1 hB hz1 hk1 hS => ?_)
  obtain ⟨z, I0, L2⟩ := u
  obtain ⟨hI, hR, xh1, qh1, h1⟩ := h1
  have hI : h_I z I0 := hI
  have hR : h_R z := hR
  have hB : h_B E A z I0 L2 t := hB
  have xh1 : h_X [(1, 2), (56, 0)] [101] none _ _ _ z I0 L2 := xh1
  have qh1 : h_Q [(1, 2), (56, 0), (7, 0)] none _ z I0 := qh1
  have hQ := hQ.call xh1 qh1 rfl rfl
  have hZ := hZ.call xh1 rfl (fun t h9 => h9) (fun b hb => by cases hb)
  have rbk := xh1.R t_a0 (by decide) (fun h9 => by cases h9) rfl rbk
  have t_a0 := xh1.ty t_a0 (by decide) (fun h9 => by cases h9)
  have tbk := xh1.ty tbk (by decide) (fun h9 => by cases h9)
  replace g := h_after g hB ht hS
  generalize H1 = H at g
  clear hB hk1 hz1 ht hvm hS
  have hF : h_F [(1, 2), (56, 0)] z I0 I0 := h_F.rf
  refine W.cs (cells' := 2) (slots' := 17) rfl rfl ?_
  have ph1 := h1.2
  rw [ez0, eJ0] at ph1
  have hZ := hZ.tcall hF rfl
  have hQ := hQ.tc hF rfl
  have hS := g.2.1
  exact W.iret (v := rh1) hx hb hr (fun t ht hW => ⟨⟨rh1, (z, I0, L2), rfl, ⟨hI, hR, hZ, hQ, ⟨⟨(by omega), (by omega)⟩, (by rw [abk]; exact ph1)⟩⟩, h_ret g ht⟩, hS.F ht⟩) hS.2.2 dX11_player_7

