set_option maxHeartbeats 4000000 in
set_option maxRecDepth 100000 in
theorem zX0_addPlayer (l : Launch) (E : tE) (X : tX) (A : Nat → Prop) (z0 : tZ) (J0 : tI) (K0 : tL) (a0 : Nat) (t_a0 : z0.ty a0 = 1) (hU : h_U z0) : Met l yX0_addPlayer wsX0_addPlayer ({ frames := 2, cells := 2, slots := 17, locals := 128 }) (va_Pc [.ref a0] (h_P E X A z0 J0 K0)) (va_Qi (fun r (q1 : tZ × tI × tL) => h_I q1.1 q1.2.1 ∧ h_R q1.1 ∧ h_X [(1, 2), (56, 0)] [101] none z0 J0 K0 q1.1 q1.2.1 q1.2.2 ∧ h_Q [(1, 2), (56, 0), (7, 0)] none z0 q1.1 q1.2.1 ∧ ((-3) ≤ r.toInt ∧ r.toInt ≤ 59)) (fun (q1 : tZ × tI × tL) t => h_B E A q1.1 q1.2.1 q1.2.2 t) A) 2 17 A := by
  refine Met.ofW (cc := cX0_addPlayer) (maxL := 1) (ret := (some .int)) (by decide) rfl ?_
  intro pr_ ev_ s m args below meth cd_ s₁ B hml hv
  obtain ⟨rfl, hE, hk, hX, hA, hK, hI, hR, hB0⟩ := hv
  obtain ⟨z, ez0⟩ : ∃ z : tZ, z = z0 := ⟨_, rfl⟩
  obtain ⟨I0, eJ0⟩ : ∃ I0 : tI, I0 = J0 := ⟨_, rfl⟩
  obtain ⟨L0, eK0⟩ : ∃ L0 : tL, L0 = K0 := ⟨_, rfl⟩
  rw [← ez0, ← eJ0] at hI
  rw [← ez0] at hR t_a0
  rw [← ez0, ← eJ0, ← eK0] at hB0
  have g : h_G h_so h_fk E A z I0 L0 s s.heap s.heap [] := ⟨hK, va_S.rf, hB0⟩
  replace hF : h_F [(1, 2), (56, 0)] z I0 I0 := h_F.rf
  have hx := B.exec
  have hb := B.bytes
  have hr := B.returns
  have hts := atoms_spec (ws := wsX0_addPlayer) B.pre
  have hown : s.vm.findClass RX0 = some m.cls := findClass_of_methodNamed B.named
  have hlocks := B.notSynchronized
  have iX0 : ∀ w ∈ u_ws RX0 TX0 9, w ∈ wsX0_addPlayer := by decide +kernel
  have iX6 : ∀ w ∈ u_ws RX6 TX6 9, w ∈ wsX0_addPlayer := by decide +kernel
  have hl := lv_entry ([.ref a0]) (n := 1) (Nat.le_of_ble_eq_true rfl)
  rw [lg_entry_eq]
  generalize (lg_sl ([.ref a0]) ++ List.replicate (1 - (lg_sl ([.ref a0])).length) Slot.unset).toArray = ls at hl ⊢
  have hl : lv_has ls 1 [(0, .ref a0)] := hl
  replace hZ : h_X [(1, 2), (56, 0)] [101] none z0 J0 K0 z I0 L0 := by rw [ez0, eJ0, eK0]; exact h_X.rf
  replace hQ : h_Q [(1, 2), (56, 0), (7, 0)] none z0 z I0 := by rw [ez0]; exact h_Q.rf hU (fun b hb => by cases hb)
  refine lv_aload_n hx hb dX0_addPlayer_0 rfl (lv_at hl 0 rfl) ?_
  refine h_get (v := .int (I0 a0 2)) hx hb hts iX0 hown g t_a0 (by decide) so_1 rfl 2 (by decide) (hts (.fieldLink RX0 51 "CapLeague$Books" "size" "I") (by decide +kernel)) rfl dX0_addPlayer_1 rfl ?_
  refine lv_topi (fun v1 ev1 => ?_)
  have jv1 := hI.rd a0 2 t_a0 ev1 (rfl : h_bd 1 2 = (0, 60))
  refine lv_bipush (v := 60) hx hb dX0_addPlayer_4 (by decide) ?_
  refine lv_icmp_lt (tgt := 12) hx hb dX0_addPlayer_6 (by decide) (fun c2 => ?_) (fun c2 => ?_)
  · have ic2 := (xi_lt c2 rfl (by decide) : v1.toInt < 60)
    refine lv_aload_n hx hb dX0_addPlayer_12 rfl (lv_at hl 0 rfl) ?_
    obtain ⟨b3, rb3, tb3⟩ := hR.at a0 1 t_a0 (rfl : h_rs 1 1 = some (101, false)) (by decide)
    refine h_get (v := .ref b3) hx hb hts iX0 hown g t_a0 (by decide) so_1 rfl 1 (by decide) (hts (.fieldLink RX0 11 "CapLeague$Books" "players" "[LCapLeague$Player;") (by decide +kernel)) rfl dX0_addPlayer_13 (by show va_rf (z.R a0 1) = _; rw [rb3]; rfl) ?_
    refine lv_aload_n hx hb dX0_addPlayer_16 rfl (lv_at hl 0 rfl) ?_
    refine h_get (v := .int v1) hx hb hts iX0 hown g t_a0 (by decide) so_1 rfl 2 (by decide) (hts (.fieldLink RX0 51 "CapLeague$Books" "size" "I") (by decide +kernel)) rfl dX0_addPlayer_17 (congrArg Value.int (ev1.symm)) ?_
    replace kf_a0_2 : I0 a0 2 = v1 := ev1.symm
    replace hZ := hZ.tcall hF rfl
    replace hQ := hQ.tc hF rfl
    refine h_newO (C := RX6) (T := TX6) (N := 9) (ci := 6) hx hb hts iX6 tyX6 tyX6_ok hown (hts (.classLink RX0 9 RX6) (by decide +kernel)) (hts (.instantiable RX6 9) (by decide +kernel)) (hts (.initialized RX6) (by decide +kernel)) g hA rfl so_56 (fun j hj => by rcases (show j = 0 ∨ j = 1 ∨ j = 2 ∨ j = 3 ∨ j = 4 ∨ j = 5 ∨ j = 6 ∨ j = 7 ∨ j = 8 by omega) with rfl | rfl | rfl | rfl | rfl | rfl | rfl | rfl | rfl <;> rfl) (Nat.le_of_ble_eq_true rfl) (Nat.le_of_ble_eq_true rfl) dX0_addPlayer_20 (fun q4 H hq0 g => ?_)
    have n_q4 := hZ.fresh hq0 (fun h => by cases h)
    replace hu_q4 := hQ.1.u (q := q4) (t := 56) hq0
    replace hQ := hQ.nw (q := q4) (t := 56) hq0 (by decide)
    replace hI := hI.nw (q := q4) (t := 56) (f := fun _ => none)
    replace hR := hR.nw (q := q4) (t := 56) (f := fun _ => none) hq0 (fun k t2 n2 h => by cases (show (none : Option (Nat × Bool)) = some (t2, n2) from h))
    replace hZ := hZ.nw (q := q4) (t := 56) (f := fun _ => none) hq0 (L2 := (h_rL L0 q4 (fun _ => 0))) (fun b hb => h_rL_n hb)
    replace kf_a0_2 : h_row I0 q4 (fun _ => 0) a0 2 = v1 := (congrFun (h_row_n (h_neq t_a0 (by decide) hq0)) 2).trans kf_a0_2
    have rb3 := h_nwr (q := q4) (t := 56) (f := fun _ => none) hq0 t_a0 (by decide) rb3
    replace t_a0 := h_nwk (q := q4) (t := 56) (f := fun _ => none) hq0 t_a0 (by decide)
    replace tb3 := h_nwk (q := q4) (t := 56) (f := fun _ => none) hq0 tb3 (by decide)
    replace tq4 : (z.nw q4 56 (fun _ => none)).ty q4 = 56 := nw_te
    have hzq4 : h_row I0 q4 (fun _ => 0) q4 = fun _ => 0 := h_row_e
    obtain ⟨z, ez⟩ : ∃ z1 : tZ, z1 = (z.nw q4 56 (fun _ => none)) := ⟨_, rfl⟩
    rw [← ez] at g hI hR hZ hQ hu_q4 t_a0 tb3 tq4 rb3
    clear ez
    obtain ⟨I0, eI⟩ : ∃ J : tI, J = h_row I0 q4 (fun _ => 0) := ⟨_, rfl⟩
    rw [← eI] at g hI hZ hQ hzq4 kf_a0_2
    clear eI
    obtain ⟨L5, eL⟩ : ∃ J : tL, J = (h_rL L0 q4 (fun _ => 0)) := ⟨_, rfl⟩
    rw [← eL] at g hZ
    replace hF : h_F [(1, 2), (56, 0)] z I0 I0 := h_F.rf
    refine W.cs (cells' := 1) (slots' := 9) rfl rfl ?_
    refine lv_dup hx hb dX0_addPlayer_23 rfl ?_
    replace kf_a0_2 : I0 a0 2 = v1 := kf_a0_2
    replace hZ := hZ.tcall hF rfl
    replace hQ := hQ.tc hF rfl
    refine va_callv (va_runIN (As := []) (rest := [.ref q4, .int v1, .ref b3]) ⟨hx, hb, hml, hown, hts⟩ (zX6_init l E X A z I0 L5 q4 tq4 hzq4 hQ.1) (⟨va_cnB 0 hts gX0_addPlayer_X6_init_n54 rfl rfl rfl (hE.link 7 rfl) (hts (.initialized RX6) (by decide +kernel)) (by decide +kernel) ⟨Nat.le_of_ble_eq_true rfl, Nat.le_of_ble_eq_true rfl⟩, rfl, hts (.instanceMethod yX6_init) (by decide +kernel)⟩) ⟨h_blind _ _ _ _ _ _ _, h_pre _ hE hk hX hA hI hR g⟩ rfl rfl hl.1 rfl (lv_room (Nat.le_of_ble_eq_true rfl)) dX0_addPlayer_24 ⟨Nat.le_of_ble_eq_true rfl, Nat.le_of_ble_eq_true rfl⟩) g.2.1 (fun q _ h => h) (fun q h => h) (fun u t H1 locs ht hvm h6 hB hz1 hk1 hS => ?_)
    obtain ⟨z, I0, L7⟩ := u
    obtain ⟨hI, hR, xh6, qh6, tq4_, h6⟩ := h6
    replace hI : h_I z I0 := hI
    replace hR : h_R z := hR
    have hB : h_B E A z I0 L7 t := hB
    have xh6 : h_X [(56, 0)] [] (some q4) _ _ _ z I0 L7 := xh6
    have qh6 : h_Q [(56, 0), (7, 0)] (some q4) _ z I0 := qh6
    replace hQ := hQ.call xh6 qh6 rfl rfl
    replace hu_q4 := hu_q4.call qh6.2.1 tq4 (by decide)
    replace hZ := hZ.call xh6 rfl (fun t h9 => rfl) (fun b hb => Or.inr (by cases hb; exact n_q4))
    replace kf_a0_2 : I0 a0 2 = v1 := (xh6.I t_a0 (by decide) (h_sne t_a0 tq4 (by decide)) rfl).trans kf_a0_2
    have rb3 := xh6.R t_a0 (by decide) (h_sne t_a0 tq4 (by decide)) rfl rb3
    replace t_a0 := xh6.ty t_a0 (by decide) (h_sne t_a0 tq4 (by decide))
    replace tb3 := xh6.ty tb3 (by decide) (h_sne tb3 tq4 (by decide))
    replace tq4 : z.ty q4 = 7 := tq4_
    replace g := h_after g hB ht hS
    generalize H1 = H at g
    clear hB hk1 hz1 ht hvm hS
    replace hF : h_F [(1, 2), (56, 0)] z I0 I0 := h_F.rf
    refine W.cs (cells' := 2) (slots' := 17) rfl rfl ?_
    replace kf_a0_2 : I0 a0 2 = v1 := kf_a0_2
    replace hZ := hZ.tcall hF rfl
    replace hQ := hQ.tc hF rfl
    refine h_astP hx hb g tb3 (by decide) so_101 tq4 (by decide) so_7 (xi_in (by omega) (by omega)) dX0_addPlayer_27 (fun H locs g => ?_)
    replace hR := hR.ast (i := v1.toNatClampNeg) tb3 7 (fun k t2 n2 h => by have e9 : some (7, true) = some (t2, n2) := h; cases e9; rfl) tq4
    replace hZ := hZ.wR (a := b3) (k := v1.toNatClampNeg) (v := some q4) (Or.inr (Or.inr (by rw [tb3]; rfl)))
    replace hQ := hQ.wR (a := b3) (k := v1.toNatClampNeg) (v := q4) tb3 (by decide) tq4 (by decide) (fun _ => ⟨hu_q4, n_q4⟩)
    replace hI : h_I (z.wR b3 v1.toNatClampNeg (some q4)) I0 := hI
    replace t_a0 : (z.wR b3 v1.toNatClampNeg (some q4)).ty a0 = 1 := t_a0
    replace tb3 : (z.wR b3 v1.toNatClampNeg (some q4)).ty b3 = 101 := tb3
    replace tq4 : (z.wR b3 v1.toNatClampNeg (some q4)).ty q4 = 7 := tq4
    have rb3 : (z.wR b3 v1.toNatClampNeg (some q4)).R a0 1 = some b3 := (congrFun (h_up_ne (h_ne2 t_a0 tb3 (by decide))) 1).trans rb3
    have rast : (z.wR b3 v1.toNatClampNeg (some q4)).R b3 v1.toNatClampNeg = some q4 := h_up_eq
    obtain ⟨z, ez⟩ : ∃ z1 : tZ, z1 = (z.wR b3 v1.toNatClampNeg (some q4)) := ⟨_, rfl⟩
    rw [← ez] at g hI hR hZ hQ t_a0 tb3 tq4 rb3 rast
    clear ez
    replace hF : h_F [(1, 2), (56, 0)] z I0 I0 := h_F.rf
    refine lv_aload_n hx hb dX0_addPlayer_28 rfl (lv_at hl 0 rfl) ?_
    refine lv_dup hx hb dX0_addPlayer_29 rfl ?_
    refine h_get (v := .int v1) hx hb hts iX0 hown g t_a0 (by decide) so_1 rfl 2 (by decide) (hts (.fieldLink RX0 51 "CapLeague$Books" "size" "I") (by decide +kernel)) rfl dX0_addPlayer_30 (congrArg Value.int (kf_a0_2)) ?_
    refine lv_iconst (v := 1) hx hb dX0_addPlayer_33 (by decide) ?_
    refine lv_iadd hx hb dX0_addPlayer_34 ?_
    refine lv_topi (fun v8 ev8 => ?_)
    have jv8 : v8.toInt = v1.toInt + 1 := xi_add ev8 rfl (by decide) (by omega) (by omega)
    refine h_putI (ty := .int) (v := v8) hx hb hts iX0 tyX0 tyX0_ok nmX0 hown g t_a0 (by decide) so_1 rfl 2 (by decide) rfl (hts (.fieldLink RX0 51 "CapLeague$Books" "size" "I") (by decide +kernel)) rfl rfl (by decide +kernel) rfl rfl dX0_addPlayer_35 (fun I9 H locs eI9 g => ?_)
    replace hI := hI.wr eI9 t_a0 (rfl : h_bd 1 2 = (0, 60)) (by omega) (by omega)
    replace hF := hF.wr eI9 t_a0 rfl
    refine lv_aload_n hx hb dX0_addPlayer_38 rfl (lv_at hl 0 rfl) ?_
    refine h_get (v := .int v8) hx hb hts iX0 hown g t_a0 (by decide) so_1 rfl 2 (by decide) (hts (.fieldLink RX0 51 "CapLeague$Books" "size" "I") (by decide +kernel)) rfl dX0_addPlayer_39 (congrArg Value.int (h_n0 eI9)) ?_
    refine lv_iconst (v := 1) hx hb dX0_addPlayer_42 (by decide) ?_
    refine lv_isub hx hb dX0_addPlayer_43 ?_
    refine lv_topi (fun v10 ev10 => ?_)
    have jv10 : v10.toInt = v8.toInt - 1 := xi_sub ev10 rfl (by decide) (by omega) (by omega)
    replace hZ := hZ.tcall hF rfl
    replace hQ := hQ.tc hF rfl
    replace hS := g.2.1
    exact W.iret (v := v10) hx hb hr (fun t ht hW => ⟨⟨v10, (z, I9, L7), rfl, ⟨hI, hR, hZ, hQ, ⟨(by omega), (by omega)⟩⟩, h_ret g ht⟩, hS.F ht⟩) hS.2.2 dX0_addPlayer_44
  · have ic2 := (xi_nlt c2 rfl (by decide) : 60 ≤ v1.toInt)
    refine lv_bipush (v := (-3)) hx hb dX0_addPlayer_9 (by decide) ?_
    refine W.widen (k := 2) (n := 17) (by decide) (by decide) ?_
    replace hZ := hZ.tcall hF rfl
    replace hQ := hQ.tc hF rfl
    replace hS := g.2.1
    exact W.iret (v := (-3)) hx hb hr (fun t ht hW => ⟨⟨(-3), (z, I0, L0), rfl, ⟨hI, hR, hZ, hQ, ⟨(by decide), (by decide)⟩⟩, h_ret g ht⟩, hS.F ht⟩) hS.2.2 dX0_addPlayer_11
set_option maxHeartbeats 4000000 in
set_option maxRecDepth 100000 in
theorem zX11_player (l : Launch) (E : tE) (X : tX) (A : Nat → Prop) (z0 : tZ) (J0 : tI) (K0 : tL) (a0 : Nat) (t_a0 : z0.ty a0 = 12) (hU : h_U z0) : Met l yX11_player wsX11_player ({ frames := 3, cells := 2, slots := 17, locals := 192 }) (va_Pc [.ref a0] (h_P E X A z0 J0 K0)) (va_Qi (fun r (q1 : tZ × tI × tL) => h_I q1.1 q1.2.1 ∧ h_R q1.1 ∧ h_X [(1, 2), (56, 0)] [101] none z0 J0 K0 q1.1 q1.2.1 q1.2.2 ∧ h_Q [(1, 2), (56, 0), (7, 0)] none z0 q1.1 q1.2.1 ∧ ((-3) ≤ r.toInt ∧ r.toInt ≤ 59)) (fun (q1 : tZ × tI × tL) t => h_B E A q1.1 q1.2.1 q1.2.2 t) A) 2 17 A := by
  refine Met.ofW (cc := cX11_player) (maxL := 1) (ret := (some .int)) (by decide) rfl ?_
  intro pr_ ev_ s m args below meth cd_ s₁ B hml hv
  obtain ⟨rfl, hE, hk, hX, hA, hK, hI, hR, hB0⟩ := hv
  obtain ⟨z, ez0⟩ : ∃ z : tZ, z = z0 := ⟨_, rfl⟩
  obtain ⟨I0, eJ0⟩ : ∃ I0 : tI, I0 = J0 := ⟨_, rfl⟩
  obtain ⟨L0, eK0⟩ : ∃ L0 : tL, L0 = K0 := ⟨_, rfl⟩
  rw [← ez0, ← eJ0] at hI
  rw [← ez0] at hR t_a0
  rw [← ez0, ← eJ0, ← eK0] at hB0
  have g : h_G h_so h_fk E A z I0 L0 s s.heap s.heap [] := ⟨hK, va_S.rf, hB0⟩
  replace hF : h_F [(1, 2), (56, 0)] z I0 I0 := h_F.rf
  have hx := B.exec
  have hb := B.bytes
  have hr := B.returns
  have hts := atoms_spec (ws := wsX11_player) B.pre
  have hown : s.vm.findClass RX11 = some m.cls := findClass_of_methodNamed B.named
  have hlocks := B.notSynchronized
  have iX11 : ∀ w ∈ u_ws RX11 TX11 8, w ∈ wsX11_player := by decide +kernel
  have hl := lv_entry ([.ref a0]) (n := 1) (Nat.le_of_ble_eq_true rfl)
  rw [lg_entry_eq]
  generalize (lg_sl ([.ref a0]) ++ List.replicate (1 - (lg_sl ([.ref a0])).length) Slot.unset).toArray = ls at hl ⊢
  have hl : lv_has ls 1 [(0, .ref a0)] := hl
  replace hZ : h_X [(1, 2), (56, 0)] [101] none z0 J0 K0 z I0 L0 := by rw [ez0, eJ0, eK0]; exact h_X.rf
  replace hQ : h_Q [(1, 2), (56, 0), (7, 0)] none z0 z I0 := by rw [ez0]; exact h_Q.rf hU (fun b hb => by cases hb)
  refine lv_aload_n hx hb dX11_player_0 rfl (lv_at hl 0 rfl) ?_
  obtain ⟨b1, rb1, tb1⟩ := hR.at a0 3 t_a0 (rfl : h_rs 12 3 = some (1, false)) (by decide)
  refine h_get (v := .ref b1) hx hb hts iX11 hown g t_a0 (by decide) so_12 rfl 3 (by decide) (hts (.fieldLink RX11 37 "CapLeague" "books" "LCapLeague$Books;") (by decide +kernel)) rfl dX11_player_1 (by show va_rf (z.R a0 3) = _; rw [rb1]; rfl) ?_
  replace hZ := hZ.tcall hF rfl
  replace hQ := hQ.tc hF rfl
  refine va_calli (va_runV (As := []) (rest := []) ⟨hx, hb, hml, hown, hts⟩ (zX0_addPlayer l E X A z I0 L0 b1 tb1 hQ.1) (cwV 0 hts gX11_player_X0_addPlayer rfl rfl rfl (by decide +kernel) ⟨Nat.le_of_ble_eq_true rfl, Nat.le_of_ble_eq_true rfl⟩) ⟨h_blind _ _ _ _ _ _ _, h_recv g tb1 (by decide) so_1 (q := (RX0, TX0, 9)) rfl, h_pre _ hE hk hX hA hI hR g⟩ rfl rfl hl.1 rfl (lv_room (Nat.le_of_ble_eq_true rfl)) dX11_player_4 ⟨Nat.le_of_ble_eq_true rfl, Nat.le_of_ble_eq_true rfl⟩) g.2.1 (fun q _ h => h) (fun q h => h) (fun rh2 u t H1 locs ht hvm h2 hB hz1 hk1 hS => ?_)
  obtain ⟨z, I0, L3⟩ := u
  obtain ⟨hI, hR, xh2, qh2, h2⟩ := h2
  replace hI : h_I z I0 := hI
  replace hR : h_R z := hR
  have hB : h_B E A z I0 L3 t := hB
  have xh2 : h_X [(1, 2), (56, 0)] [101] none _ _ _ z I0 L3 := xh2
  have qh2 : h_Q [(1, 2), (56, 0), (7, 0)] none _ z I0 := qh2
  replace hQ := hQ.call xh2 qh2 rfl rfl
  replace hZ := hZ.call xh2 rfl (fun t h9 => h9) (fun b hb => by cases hb)
  have rb1 := xh2.R t_a0 (by decide) (fun h9 => by cases h9) rfl rb1
  replace t_a0 := xh2.ty t_a0 (by decide) (fun h9 => by cases h9)
  replace tb1 := xh2.ty tb1 (by decide) (fun h9 => by cases h9)
  replace g := h_after g hB ht hS
  generalize H1 = H at g
  clear hB hk1 hz1 ht hvm hS
  replace hF : h_F [(1, 2), (56, 0)] z I0 I0 := h_F.rf
  refine W.cs (cells' := 2) (slots' := 17) rfl rfl ?_
  replace hZ := hZ.tcall hF rfl
  replace hQ := hQ.tc hF rfl
  replace hS := g.2.1
  exact W.iret (v := rh2) hx hb hr (fun t ht hW => ⟨⟨rh2, (z, I0, L3), rfl, ⟨hI, hR, hZ, hQ, ⟨(by omega), (by omega)⟩⟩, h_ret g ht⟩, hS.F ht⟩) hS.2.2 dX11_player_7
set_option maxHeartbeats 4000000 in
set_option maxRecDepth 100000 in
theorem zX3_tell (l : Launch) (E : tE) (X : tX) (A : Nat → Prop) (z0 : tZ) (J0 : tI) (K0 : tL) (a0 : Nat) (t_a0 : z0.ty a0 = 4) (y : Int32) (y_t : Int) (h_y : y.toInt = y_t) (p0 : Nat) (t_p0 : z0.ty p0 = 6) (hU : h_U z0) : Met l yX3_tell wsX3_tell ({ frames := 3, cells := 3, slots := 17, locals := 192 }) (va_Pc [.ref a0, .int y, .ref p0] (h_P E X A z0 J0 K0)) (va_Qv (fun (q1 : tZ × tI × tL) => h_I q1.1 q1.2.1 ∧ h_R q1.1 ∧ h_X [(600, 999), (601, 999), (6, 2)] [401] none z0 J0 K0 q1.1 q1.2.1 q1.2.2 ∧ h_Q [(600, 999), (601, 999), (6, 2)] none z0 q1.1 q1.2.1 ∧ True) (fun (q1 : tZ × tI × tL) t => h_B E A q1.1 q1.2.1 q1.2.2 t) A) 3 17 A := by
  refine Met.ofW (cc := cX3_tell) (maxL := 3) (ret := none) (by decide) rfl ?_
  intro pr_ ev_ s m args below meth cd_ s₁ B hml hv
  obtain ⟨rfl, hE, hk, hX, hA, hK, hI, hR, hB0⟩ := hv
  obtain ⟨z, ez0⟩ : ∃ z : tZ, z = z0 := ⟨_, rfl⟩
  obtain ⟨I0, eJ0⟩ : ∃ I0 : tI, I0 = J0 := ⟨_, rfl⟩
  obtain ⟨L0, eK0⟩ : ∃ L0 : tL, L0 = K0 := ⟨_, rfl⟩
  rw [← ez0, ← eJ0] at hI
  rw [← ez0] at hR t_a0 t_p0
  rw [← ez0, ← eJ0, ← eK0] at hB0
  have g : h_G h_so h_fk E A z I0 L0 s s.heap s.heap [] := ⟨hK, va_S.rf, hB0⟩
  replace hF : h_F [(600, 999), (601, 999), (6, 2)] z I0 I0 := h_F.rf
  have hx := B.exec
  have hb := B.bytes
  have hr := B.returns
  have hts := atoms_spec (ws := wsX3_tell) B.pre
  have hown : s.vm.findClass RX3 = some m.cls := findClass_of_methodNamed B.named
  have hlocks := B.notSynchronized
  have iX3 : ∀ w ∈ u_ws RX3 TX3 2, w ∈ wsX3_tell := by decide +kernel
  have iX5 : ∀ w ∈ u_ws RX5 TX5 3, w ∈ wsX3_tell := by decide +kernel
  have hl := lv_entry ([.ref a0, .int y, .ref p0]) (n := 3) (Nat.le_of_ble_eq_true rfl)
  rw [lg_entry_eq]
  generalize (lg_sl ([.ref a0, .int y, .ref p0]) ++ List.replicate (3 - (lg_sl ([.ref a0, .int y, .ref p0])).length) Slot.unset).toArray = ls at hl ⊢
  have hl : lv_has ls 3 [(0, .ref a0), (1, .int y), (2, .ref p0)] := hl
  have b_y : -2147483648 ≤ y_t ∧ y_t ≤ 2147483647 := h_y ▸ ⟨xi_lo y, Int.le_of_lt_add_one (xi_hi y)⟩
  replace hZ : h_X [(600, 999), (601, 999), (6, 2)] [401] none z0 J0 K0 z I0 L0 := by rw [ez0, eJ0, eK0]; exact h_X.rf
  replace hQ : h_Q [(600, 999), (601, 999), (6, 2)] none z0 z I0 := by rw [ez0]; exact h_Q.rf hU (fun b hb => by cases hb)
  refine lv_iload_n hx hb dX3_tell_0 rfl (lv_at hl 1 rfl) ?_
  refine vp_callSi (xr_of (va_runSN (As := [.int y]) (rest := []) ⟨hx, hb, hml, hown, hts⟩ (tX11_isYear l E X A z I0 L0 y (y_t) h_y) (⟨va_cnB 1 hts gX3_tell_X11_isYear_n22 rfl rfl rfl (hE.link 6 rfl) (hts (.initialized RX11) (by decide +kernel)) (by decide +kernel) ⟨Nat.le_of_ble_eq_true rfl, Nat.le_of_ble_eq_true rfl⟩, hts (.static yX11_isYear) (by decide +kernel), trivial⟩) ⟨h_blind _ _ _ _ _ _ _, h_pre _ hE hk hX hA hI hR g⟩ rfl rfl hl.1 rfl (lv_room (Nat.le_of_ble_eq_true rfl)) dX3_tell_1 ⟨Nat.le_of_ble_eq_true rfl, Nat.le_of_ble_eq_true rfl⟩)) (fun rh1 h1 => ?_)
  rcases h1 with ⟨rfl, h1⟩ | ⟨rfl, h1⟩
  · skip
    refine lv_if_ne (tgt := 8) hx hb dX3_tell_4 (by decide) (fun h => absurd (by decide) h) (fun _ => ?_)
    refine W.widen (k := 3) (n := 17) (by decide) (by decide) ?_
    replace hZ := hZ.tcall hF rfl
    replace hQ := hQ.tc hF rfl
    replace hS := g.2.1
    exact W.vret hx hb hr (fun t ht hW => ⟨⟨(z, I0, L0), rfl, ⟨hI, hR, hZ, hQ, trivial⟩, h_ret g ht⟩, hS.F ht⟩) hS.2.2 dX3_tell_7
  · skip
    refine lv_if_ne (tgt := 8) hx hb dX3_tell_4 (by decide) (fun _ => ?_) (fun h => absurd h (by decide))
    refine lv_aload_n hx hb dX3_tell_8 rfl (lv_at hl 0 rfl) ?_
    obtain ⟨b4, rb4, tb4⟩ := hR.at a0 1 t_a0 (rfl : h_rs 4 1 = some (401, false)) (by decide)
    refine h_get (v := .ref b4) hx hb hts iX3 hown g t_a0 (by decide) so_4 rfl 1 (by decide) (hts (.fieldLink RX3 18 "CapLeague$LawBook" "texts" "[LCapLeague$Laws;") (by decide +kernel)) rfl dX3_tell_9 (by show va_rf (z.R a0 1) = _; rw [rb4]; rfl) ?_
    refine lv_iload_n hx hb dX3_tell_12 rfl (lv_at hl 1 rfl) ?_
    rcases hR.nl b4 y.toNatClampNeg tb4 (rfl : h_rs 401 _ = some (6, true)) (by rw [so_401]; exact h_lt (n := 10) (xi_in (by rw [h_y]; omega) (by rw [h_y]; omega))) with rb5 | ⟨b5, rb5, tb5⟩
    · refine h_aldL (v := .null) hx hb g tb4 (by decide) so_401 (xi_in (by rw [h_y]; omega) (by rw [h_y]; omega)) dX3_tell_13 (by rw [rb5]; rfl) ?_
      refine lv_ifnonnullN hx hb dX3_tell_14 ?_
      refine lv_aload_n hx hb dX3_tell_17 rfl (lv_at hl 0 rfl) ?_
      refine h_get (v := .ref b4) hx hb hts iX3 hown g t_a0 (by decide) so_4 rfl 1 (by decide) (hts (.fieldLink RX3 18 "CapLeague$LawBook" "texts" "[LCapLeague$Laws;") (by decide +kernel)) rfl dX3_tell_18 (by show va_rf (z.R a0 1) = _; rw [rb4]; rfl) ?_
      refine lv_iload_n hx hb dX3_tell_21 rfl (lv_at hl 1 rfl) ?_
      replace hZ := hZ.tcall hF rfl
      replace hQ := hQ.tc hF rfl
      refine h_newO (C := RX5) (T := TX5) (N := 3) (ci := 5) hx hb hts iX5 tyX5 tyX5_ok hown (hts (.classLink RX3 9 RX5) (by decide +kernel)) (hts (.instantiable RX5 3) (by decide +kernel)) (hts (.initialized RX5) (by decide +kernel)) g hA rfl so_55 (fun j hj => by rcases (show j = 0 ∨ j = 1 ∨ j = 2 by omega) with rfl | rfl | rfl <;> rfl) (Nat.le_of_ble_eq_true rfl) (Nat.le_of_ble_eq_true rfl) dX3_tell_22 (fun q6 H hq0 g => ?_)
      have n_q6 := hZ.fresh hq0 (fun h => by cases h)
      replace hu_q6 := hQ.1.u (q := q6) (t := 55) hq0
      replace hQ := hQ.nw (q := q6) (t := 55) hq0 (by decide)
      replace hI := hI.nw (q := q6) (t := 55) (f := fun _ => none)
      replace hR := hR.nw (q := q6) (t := 55) (f := fun _ => none) hq0 (fun k t2 n2 h => by cases (show (none : Option (Nat × Bool)) = some (t2, n2) from h))
      replace hZ := hZ.nw (q := q6) (t := 55) (f := fun _ => none) hq0 (L2 := (h_rL L0 q6 (fun _ => 0))) (fun b hb => h_rL_n hb)
      have rb4 := h_nwr (q := q6) (t := 55) (f := fun _ => none) hq0 t_a0 (by decide) rb4
      replace t_a0 := h_nwk (q := q6) (t := 55) (f := fun _ => none) hq0 t_a0 (by decide)
      replace t_p0 := h_nwk (q := q6) (t := 55) (f := fun _ => none) hq0 t_p0 (by decide)
      replace tb4 := h_nwk (q := q6) (t := 55) (f := fun _ => none) hq0 tb4 (by decide)
      replace tq6 : (z.nw q6 55 (fun _ => none)).ty q6 = 55 := nw_te
      have hzq6 : h_row I0 q6 (fun _ => 0) q6 = fun _ => 0 := h_row_e
      obtain ⟨z, ez⟩ : ∃ z1 : tZ, z1 = (z.nw q6 55 (fun _ => none)) := ⟨_, rfl⟩
      rw [← ez] at g hI hR hZ hQ hu_q6 t_a0 t_p0 tb4 tq6 rb4
      clear ez
      obtain ⟨I0, eI⟩ : ∃ J : tI, J = h_row I0 q6 (fun _ => 0) := ⟨_, rfl⟩
      rw [← eI] at g hI hZ hQ hzq6
      clear eI
      obtain ⟨L7, eL⟩ : ∃ J : tL, J = (h_rL L0 q6 (fun _ => 0)) := ⟨_, rfl⟩
      rw [← eL] at g hZ
      replace hF : h_F [(600, 999), (601, 999), (6, 2)] z I0 I0 := h_F.rf
      refine W.cs (cells' := 1) (slots' := 3) rfl rfl ?_
      refine lv_dup hx hb dX3_tell_25 rfl ?_
      replace hZ := hZ.tcall hF rfl
      replace hQ := hQ.tc hF rfl
      refine va_callv (va_runI (As := []) (rest := [.ref q6, .int y, .ref b4]) ⟨hx, hb, hml, hown, hts⟩ (zX5_init l E X A z I0 L7 q6 tq6 hzq6 hQ.1) (cwI 0 hts gX3_tell_X5_init rfl rfl rfl (hts (.initialized RX5) (by decide +kernel)) (hts (.methodLink RX3 11 yX5_init) (by decide +kernel)) (hts (.instanceMethod yX5_init) (by decide +kernel)) rfl (by decide +kernel) ⟨Nat.le_of_ble_eq_true rfl, Nat.le_of_ble_eq_true rfl⟩) ⟨h_blind _ _ _ _ _ _ _, h_pre _ hE hk hX hA hI hR g⟩ rfl rfl hl.1 rfl (lv_room (Nat.le_of_ble_eq_true rfl)) dX3_tell_26 ⟨Nat.le_of_ble_eq_true rfl, Nat.le_of_ble_eq_true rfl⟩) g.2.1 (fun q _ h => h) (fun q h => h) (fun u t H1 locs ht hvm h8 hB hz1 hk1 hS => ?_)
      obtain ⟨z, I0, L9⟩ := u
      obtain ⟨hI, hR, xh8, qh8, tq6_, h8⟩ := h8
      replace hI : h_I z I0 := hI
      replace hR : h_R z := hR
      have hB : h_B E A z I0 L9 t := hB
      have xh8 : h_X [(600, 999), (601, 999), (6, 2)] [] (some q6) _ _ _ z I0 L9 := xh8
      have qh8 : h_Q [(600, 999), (601, 999), (6, 2)] (some q6) _ z I0 := qh8
      replace hQ := hQ.call xh8 qh8 rfl rfl
      replace hu_q6 := hu_q6.call qh8.2.1 tq6 (by decide)
      replace hZ := hZ.call xh8 rfl (fun t h9 => rfl) (fun b hb => Or.inr (by cases hb; exact n_q6))
      have rb4 := xh8.R t_a0 (by decide) (h_sne t_a0 tq6 (by decide)) rfl rb4
      replace t_a0 := xh8.ty t_a0 (by decide) (h_sne t_a0 tq6 (by decide))
      replace t_p0 := xh8.ty t_p0 (by decide) (h_sne t_p0 tq6 (by decide))
      replace tb4 := xh8.ty tb4 (by decide) (h_sne tb4 tq6 (by decide))
      replace tq6 : z.ty q6 = 6 := tq6_
      replace g := h_after g hB ht hS
      generalize H1 = H at g
      clear hB hk1 hz1 ht hvm hS
      replace hF : h_F [(600, 999), (601, 999), (6, 2)] z I0 I0 := h_F.rf
      refine W.cs (cells' := 3) (slots' := 17) rfl rfl ?_
      replace hZ := hZ.tcall hF rfl
      replace hQ := hQ.tc hF rfl
      refine h_astL hx hb g tb4 (by decide) so_401 tq6 (by decide) so_6 (xi_in (by rw [h_y]; omega) (by rw [h_y]; omega)) dX3_tell_29 (fun H locs g => ?_)
      replace hR := hR.ast (i := y.toNatClampNeg) tb4 6 (fun k t2 n2 h => by have e9 : some (6, true) = some (t2, n2) := h; cases e9; rfl) tq6
      replace hZ := hZ.wR (a := b4) (k := y.toNatClampNeg) (v := some q6) (Or.inr (Or.inr (by rw [tb4]; rfl)))
      replace hQ := hQ.wR (a := b4) (k := y.toNatClampNeg) (v := q6) tb4 (by decide) tq6 (by decide) (fun _ => ⟨hu_q6, n_q6⟩)
      replace hI : h_I (z.wR b4 y.toNatClampNeg (some q6)) I0 := hI
      replace t_a0 : (z.wR b4 y.toNatClampNeg (some q6)).ty a0 = 4 := t_a0
      replace t_p0 : (z.wR b4 y.toNatClampNeg (some q6)).ty p0 = 6 := t_p0
      replace tb4 : (z.wR b4 y.toNatClampNeg (some q6)).ty b4 = 401 := tb4
      replace tq6 : (z.wR b4 y.toNatClampNeg (some q6)).ty q6 = 6 := tq6
      have rb4 : (z.wR b4 y.toNatClampNeg (some q6)).R a0 1 = some b4 := (congrFun (h_up_ne (h_ne2 t_a0 tb4 (by decide))) 1).trans rb4
      have rast : (z.wR b4 y.toNatClampNeg (some q6)).R b4 y.toNatClampNeg = some q6 := h_up_eq
      obtain ⟨z, ez⟩ : ∃ z1 : tZ, z1 = (z.wR b4 y.toNatClampNeg (some q6)) := ⟨_, rfl⟩
      rw [← ez] at g hI hR hZ hQ t_a0 t_p0 tb4 tq6 rb4 rast
      clear ez
      replace hF : h_F [(600, 999), (601, 999), (6, 2)] z I0 I0 := h_F.rf
      refine lv_aload_n hx hb dX3_tell_30 rfl (lv_at hl 0 rfl) ?_
      refine h_get (v := .ref b4) hx hb hts iX3 hown g t_a0 (by decide) so_4 rfl 1 (by decide) (hts (.fieldLink RX3 18 "CapLeague$LawBook" "texts" "[LCapLeague$Laws;") (by decide +kernel)) rfl dX3_tell_31 (by show va_rf (z.R a0 1) = _; rw [rb4]; rfl) ?_
      refine lv_iload_n hx hb dX3_tell_34 rfl (lv_at hl 1 rfl) ?_
      refine h_aldL (v := .ref q6) hx hb g tb4 (by decide) so_401 (xi_in (by rw [h_y]; omega) (by rw [h_y]; omega)) dX3_tell_35 (by rw [rast]; rfl) ?_
      refine lv_aload_n hx hb dX3_tell_36 rfl (lv_at hl 2 rfl) ?_
      refine va_callv (va_runV (As := [.ref p0]) (rest := []) ⟨hx, hb, hml, hown, hts⟩ (tX5_copyFrom l E X A z I0 L9 q6 tq6 p0 t_p0) (cwV 1 hts gX3_tell_X5_copyFrom rfl rfl rfl (by decide +kernel) ⟨Nat.le_of_ble_eq_true rfl, Nat.le_of_ble_eq_true rfl⟩) ⟨h_blind _ _ _ _ _ _ _, h_recv g tq6 (by decide) so_6 (q := (RX5, TX5, 3)) rfl, h_pre _ hE hk hX hA hI hR g⟩ rfl rfl hl.1 rfl (lv_room (Nat.le_of_ble_eq_true rfl)) dX3_tell_37 ⟨Nat.le_of_ble_eq_true rfl, Nat.le_of_ble_eq_true rfl⟩) g.2.1 (fun q _ h => h) (fun q h => h) (fun I11 t H1 locs ht hvm h10 hB hz1 hk1 hS => ?_)
      obtain ⟨hI, fh10, h10⟩ := h10
      replace g := h_after g hB ht hS
      generalize H1 = H at g
      clear hB hk1 hz1 ht hvm hS
      replace hF := hF.call fh10 rfl
      replace hZ := hZ.tcall hF rfl
      replace hQ := hQ.tc hF rfl
      replace hS := g.2.1
      exact W.vret hx hb hr (fun t ht hW => ⟨⟨(z, I11, L9), rfl, ⟨hI, hR, hZ, hQ, trivial⟩, h_ret g ht⟩, hS.F ht⟩) hS.2.2 dX3_tell_40
    · refine h_aldL (v := .ref b5) hx hb g tb4 (by decide) so_401 (xi_in (by rw [h_y]; omega) (by rw [h_y]; omega)) dX3_tell_13 (by rw [rb5]; rfl) ?_
      refine lv_ifnonnull (tgt := 30) hx hb dX3_tell_14 (by decide) ?_
      refine lv_aload_n hx hb dX3_tell_30 rfl (lv_at hl 0 rfl) ?_
      refine h_get (v := .ref b4) hx hb hts iX3 hown g t_a0 (by decide) so_4 rfl 1 (by decide) (hts (.fieldLink RX3 18 "CapLeague$LawBook" "texts" "[LCapLeague$Laws;") (by decide +kernel)) rfl dX3_tell_31 (by show va_rf (z.R a0 1) = _; rw [rb4]; rfl) ?_
      refine lv_iload_n hx hb dX3_tell_34 rfl (lv_at hl 1 rfl) ?_
      refine h_aldL (v := .ref b5) hx hb g tb4 (by decide) so_401 (xi_in (by rw [h_y]; omega) (by rw [h_y]; omega)) dX3_tell_35 (by rw [rb5]; rfl) ?_
      refine lv_aload_n hx hb dX3_tell_36 rfl (lv_at hl 2 rfl) ?_
      refine va_callv (va_runV (As := [.ref p0]) (rest := []) ⟨hx, hb, hml, hown, hts⟩ (tX5_copyFrom l E X A z I0 L0 b5 tb5 p0 t_p0) (cwV 1 hts gX3_tell_X5_copyFrom rfl rfl rfl (by decide +kernel) ⟨Nat.le_of_ble_eq_true rfl, Nat.le_of_ble_eq_true rfl⟩) ⟨h_blind _ _ _ _ _ _ _, h_recv g tb5 (by decide) so_6 (q := (RX5, TX5, 3)) rfl, h_pre _ hE hk hX hA hI hR g⟩ rfl rfl hl.1 rfl (lv_room (Nat.le_of_ble_eq_true rfl)) dX3_tell_37 ⟨Nat.le_of_ble_eq_true rfl, Nat.le_of_ble_eq_true rfl⟩) g.2.1 (fun q _ h => h) (fun q h => h) (fun I13 t H1 locs ht hvm h12 hB hz1 hk1 hS => ?_)
      obtain ⟨hI, fh12, h12⟩ := h12
      replace g := h_after g hB ht hS
      generalize H1 = H at g
      clear hB hk1 hz1 ht hvm hS
      replace hF := hF.call fh12 rfl
      refine W.widen (k := 3) (n := 17) (by decide) (by decide) ?_
      replace hZ := hZ.tcall hF rfl
      replace hQ := hQ.tc hF rfl
      replace hS := g.2.1
      exact W.vret hx hb hr (fun t ht hW => ⟨⟨(z, I13, L0), rfl, ⟨hI, hR, hZ, hQ, trivial⟩, h_ret g ht⟩, hS.F ht⟩) hS.2.2 dX3_tell_40
set_option maxHeartbeats 4000000 in
set_option maxRecDepth 100000 in
theorem zX11_laws (l : Launch) (E : tE) (X : tX) (A : Nat → Prop) (z0 : tZ) (J0 : tI) (K0 : tL) (a0 : Nat) (t_a0 : z0.ty a0 = 12) (y : Int32) (y_t : Int) (h_y : y.toInt = y_t) (hU : h_U z0) : Met l yX11_laws wsX11_laws ({ frames := 9, cells := 3, slots := 17, locals := 576 }) (va_Pc [.ref a0, .int y] (h_P E X A z0 J0 K0)) (va_Qi (fun r (q1 : tZ × tI × tL) => h_I q1.1 q1.2.1 ∧ h_R q1.1 ∧ h_X [(5, 4), (5, 5), (5, 6), (5, 7), (5, 2), (5, 3), (600, 999), (601, 999), (6, 2), (5, 8), (9, 1)] [401] none z0 J0 K0 q1.1 q1.2.1 q1.2.2 ∧ h_Q [(5, 4), (5, 5), (5, 6), (5, 7), (5, 2), (5, 3), (600, 999), (601, 999), (6, 2), (5, 8), (9, 1)] none z0 q1.1 q1.2.1 ∧ True) (fun (q1 : tZ × tI × tL) t => h_B E A q1.1 q1.2.1 q1.2.2 t) A) 3 17 A := by
  refine Met.ofW (cc := cX11_laws) (maxL := 3) (ret := (some .int)) (by decide) rfl ?_
  intro pr_ ev_ s m args below meth cd_ s₁ B hml hv
  obtain ⟨rfl, hE, hk, hX, hA, hK, hI, hR, hB0⟩ := hv
  obtain ⟨z, ez0⟩ : ∃ z : tZ, z = z0 := ⟨_, rfl⟩
  obtain ⟨I0, eJ0⟩ : ∃ I0 : tI, I0 = J0 := ⟨_, rfl⟩
  obtain ⟨L0, eK0⟩ : ∃ L0 : tL, L0 = K0 := ⟨_, rfl⟩
  rw [← ez0, ← eJ0] at hI
  rw [← ez0] at hR t_a0
  rw [← ez0, ← eJ0, ← eK0] at hB0
  have g : h_G h_so h_fk E A z I0 L0 s s.heap s.heap [] := ⟨hK, va_S.rf, hB0⟩
  replace hF : h_F [(5, 4), (5, 5), (5, 6), (5, 7), (5, 2), (5, 3), (600, 999), (601, 999), (6, 2), (5, 8), (9, 1)] z I0 I0 := h_F.rf
  have hx := B.exec
  have hb := B.bytes
  have hr := B.returns
  have hts := atoms_spec (ws := wsX11_laws) B.pre
  have hown : s.vm.findClass RX11 = some m.cls := findClass_of_methodNamed B.named
  have hlocks := B.notSynchronized
  have iX11 : ∀ w ∈ u_ws RX11 TX11 8, w ∈ wsX11_laws := by decide +kernel
  have iX4 : ∀ w ∈ u_ws RX4 TX4 9, w ∈ wsX11_laws := by decide +kernel
  have iX8 : ∀ w ∈ u_ws RX8 TX8 2, w ∈ wsX11_laws := by decide +kernel
  have hl := lv_entry ([.ref a0, .int y]) (n := 3) (Nat.le_of_ble_eq_true rfl)
  rw [lg_entry_eq]
  generalize (lg_sl ([.ref a0, .int y]) ++ List.replicate (3 - (lg_sl ([.ref a0, .int y])).length) Slot.unset).toArray = ls at hl ⊢
  have hl : lv_has ls 3 [(0, .ref a0), (1, .int y)] := hl
  have b_y : -2147483648 ≤ y_t ∧ y_t ≤ 2147483647 := h_y ▸ ⟨xi_lo y, Int.le_of_lt_add_one (xi_hi y)⟩
  replace hZ : h_X [(5, 4), (5, 5), (5, 6), (5, 7), (5, 2), (5, 3), (600, 999), (601, 999), (6, 2), (5, 8), (9, 1)] [401] none z0 J0 K0 z I0 L0 := by rw [ez0, eJ0, eK0]; exact h_X.rf
  replace hQ : h_Q [(5, 4), (5, 5), (5, 6), (5, 7), (5, 2), (5, 3), (600, 999), (601, 999), (6, 2), (5, 8), (9, 1)] none z0 z I0 := by rw [ez0]; exact h_Q.rf hU (fun b hb => by cases hb)
  refine lv_aload_n hx hb dX11_laws_0 rfl (lv_at hl 0 rfl) ?_
  obtain ⟨b1, rb1, tb1⟩ := hR.at a0 3 t_a0 (rfl : h_rs 12 3 = some (1, false)) (by decide)
  refine h_get (v := .ref b1) hx hb hts iX11 hown g t_a0 (by decide) so_12 rfl 3 (by decide) (hts (.fieldLink RX11 37 "CapLeague" "books" "LCapLeague$Books;") (by decide +kernel)) rfl dX11_laws_1 (by show va_rf (z.R a0 3) = _; rw [rb1]; rfl) ?_
  refine lv_iload_n hx hb dX11_laws_4 rfl (lv_at hl 1 rfl) ?_
  refine vp_callSi (W.runV (As := [.int y]) (rest := []) ⟨hx, hb, hml, hown, hts⟩ (tX0_isNowOrLater l E X A z I0 L0 b1 tb1 y (y_t) h_y) (cwV 1 hts gX11_laws_X0_isNowOrLater rfl rfl rfl (by decide +kernel) ⟨Nat.le_of_ble_eq_true rfl, Nat.le_of_ble_eq_true rfl⟩) ⟨h_blind _ _ _ _ _ _ _, h_recv g tb1 (by decide) so_1 (q := (RX0, TX0, 9)) rfl, h_pre _ hE hk hX hA hI hR g⟩ rfl rfl hl.1 rfl (lv_room (Nat.le_of_ble_eq_true rfl)) dX11_laws_5 ⟨Nat.le_of_ble_eq_true rfl, Nat.le_of_ble_eq_true rfl⟩) (fun rh2 h2 => ?_)
  rcases h2 with ⟨rfl, h2⟩ | ⟨rfl, h2⟩
  · skip
    refine lv_if_eq (tgt := 21) hx hb dX11_laws_8 (by decide) (fun _ => ?_) (fun h => absurd (by decide) h)
    refine lv_bipush (v := (-2)) hx hb dX11_laws_21 (by decide) ?_
    refine lv_istore_n (lv' := [(2, .int (-2)), (0, .ref a0), (1, .int y)]) hx hb dX11_laws_23 rfl hl (by decide) rfl (fun ls hl => ?_)
    refine lv_iload_n hx hb dX11_laws_24 rfl (lv_at hl 0 rfl) ?_
    refine lv_if_lt (tgt := 43) hx hb dX11_laws_25 (by decide) (fun _ => ?_) (fun h => absurd (by decide) h)
    refine lv_aload_n hx hb dX11_laws_43 rfl (lv_at hl 1 rfl) ?_
    obtain ⟨b5, rb5, tb5⟩ := hR.at a0 0 t_a0 (rfl : h_rs 12 0 = some (9, false)) (by decide)
    refine h_get (v := .ref b5) hx hb hts iX11 hown g t_a0 (by decide) so_12 rfl 0 (by decide) (hts (.fieldLink RX11 10 "CapLeague" "tape" "LCapLeague$Tape;") (by decide +kernel)) rfl dX11_laws_44 (by show va_rf (z.R a0 0) = _; rw [rb5]; rfl) ?_
    refine lv_iconst (v := 0) hx hb dX11_laws_47 (by decide) ?_
    refine h_putI (ty := .int) (v := 0) hx hb hts iX8 tyX8 tyX8_ok nmX8 hown g tb5 (by decide) so_9 rfl 1 (by decide) rfl (hts (.fieldLink RX11 81 "CapLeague$Tape" "size" "I") (by decide +kernel)) rfl rfl (by decide +kernel) rfl rfl dX11_laws_48 (fun I6 H locs eI6 g => ?_)
    replace hI := hI.wr eI6 tb5 (rfl : h_bd 9 1 = (0, 500)) (by decide) (by decide)
    replace hF := hF.wr eI6 tb5 rfl
    refine lv_iload_n hx hb dX11_laws_51 rfl (lv_at hl 0 rfl) ?_
    refine W.widen (k := 3) (n := 17) (by decide) (by decide) ?_
    replace hZ := hZ.tcall hF rfl
    replace hQ := hQ.tc hF rfl
    replace hS := g.2.1
    exact W.iret (v := (-2)) hx hb hr (fun t ht hW => ⟨⟨(-2), (z, I6, L0), rfl, ⟨hI, hR, hZ, hQ, trivial⟩, h_ret g ht⟩, hS.F ht⟩) hS.2.2 dX11_laws_52
  · skip
    refine lv_if_eq (tgt := 21) hx hb dX11_laws_8 (by decide) (fun h => absurd h (by decide)) (fun _ => ?_)
    refine lv_aload_n hx hb dX11_laws_11 rfl (lv_at hl 0 rfl) ?_
    obtain ⟨b8, rb8, tb8⟩ := hR.at a0 2 t_a0 (rfl : h_rs 12 2 = some (5, false)) (by decide)
    refine h_get (v := .ref b8) hx hb hts iX11 hown g t_a0 (by decide) so_12 rfl 2 (by decide) (hts (.fieldLink RX11 28 "CapLeague" "reader" "LCapLeague$LawReader;") (by decide +kernel)) rfl dX11_laws_12 (by show va_rf (z.R a0 2) = _; rw [rb8]; rfl) ?_
    refine va_calli (va_runV (As := []) (rest := []) ⟨hx, hb, hml, hown, hts⟩ (tX4_readText l E X A z I0 L0 b8 tb8) (cwV 0 hts gX11_laws_X4_readText rfl rfl rfl (by decide +kernel) ⟨Nat.le_of_ble_eq_true rfl, Nat.le_of_ble_eq_true rfl⟩) ⟨h_blind _ _ _ _ _ _ _, h_recv g tb8 (by decide) so_5 (q := (RX4, TX4, 9)) rfl, h_pre _ hE hk hX hA hI hR g⟩ rfl rfl hl.1 rfl (lv_room (Nat.le_of_ble_eq_true rfl)) dX11_laws_15 ⟨Nat.le_of_ble_eq_true rfl, Nat.le_of_ble_eq_true rfl⟩) g.2.1 (fun q _ h => h) (fun q h => h) (fun rh9 I10 t H1 locs ht hvm h9 hB hz1 hk1 hS => ?_)
    obtain ⟨hI, fh9, h9⟩ := h9
    replace g := h_after g hB ht hS
    generalize H1 = H at g
    clear hB hk1 hz1 ht hvm hS
    replace hF := hF.call fh9 rfl
    refine lv_goto (tgt := 23) hx hb dX11_laws_18 (by decide) ?_
    refine lv_istore_n (lv' := [(2, .int rh9), (0, .ref a0), (1, .int y)]) hx hb dX11_laws_23 rfl hl (by decide) rfl (fun ls hl => ?_)
    refine lv_iload_n hx hb dX11_laws_24 rfl (lv_at hl 0 rfl) ?_
    refine lv_if_lt (tgt := 43) hx hb dX11_laws_25 (by decide) (fun c11 => ?_) (fun c11 => ?_)
    · have ic11 := (xi_lt c11 rfl (by decide) : rh9.toInt < 0)
      refine lv_aload_n hx hb dX11_laws_43 rfl (lv_at hl 1 rfl) ?_
      obtain ⟨b12, rb12, tb12⟩ := hR.at a0 0 t_a0 (rfl : h_rs 12 0 = some (9, false)) (by decide)
      refine h_get (v := .ref b12) hx hb hts iX11 hown g t_a0 (by decide) so_12 rfl 0 (by decide) (hts (.fieldLink RX11 10 "CapLeague" "tape" "LCapLeague$Tape;") (by decide +kernel)) rfl dX11_laws_44 (by show va_rf (z.R a0 0) = _; rw [rb12]; rfl) ?_
      refine lv_iconst (v := 0) hx hb dX11_laws_47 (by decide) ?_
      refine h_putI (ty := .int) (v := 0) hx hb hts iX8 tyX8 tyX8_ok nmX8 hown g tb12 (by decide) so_9 rfl 1 (by decide) rfl (hts (.fieldLink RX11 81 "CapLeague$Tape" "size" "I") (by decide +kernel)) rfl rfl (by decide +kernel) rfl rfl dX11_laws_48 (fun I13 H locs eI13 g => ?_)
      replace hI := hI.wr eI13 tb12 (rfl : h_bd 9 1 = (0, 500)) (by decide) (by decide)
      replace hF := hF.wr eI13 tb12 rfl
      refine lv_iload_n hx hb dX11_laws_51 rfl (lv_at hl 0 rfl) ?_
      refine W.widen (k := 3) (n := 17) (by decide) (by decide) ?_
      replace hZ := hZ.tcall hF rfl
      replace hQ := hQ.tc hF rfl
      replace hS := g.2.1
      exact W.iret (v := rh9) hx hb hr (fun t ht hW => ⟨⟨rh9, (z, I13, L0), rfl, ⟨hI, hR, hZ, hQ, trivial⟩, h_ret g ht⟩, hS.F ht⟩) hS.2.2 dX11_laws_52
    · have ic11 := (xi_nlt c11 rfl (by decide) : 0 ≤ rh9.toInt)
      refine lv_aload_n hx hb dX11_laws_28 rfl (lv_at hl 1 rfl) ?_
      obtain ⟨b14, rb14, tb14⟩ := hR.at a0 1 t_a0 (rfl : h_rs 12 1 = some (4, false)) (by decide)
      refine h_get (v := .ref b14) hx hb hts iX11 hown g t_a0 (by decide) so_12 rfl 1 (by decide) (hts (.fieldLink RX11 19 "CapLeague" "lawBook" "LCapLeague$LawBook;") (by decide +kernel)) rfl dX11_laws_29 (by show va_rf (z.R a0 1) = _; rw [rb14]; rfl) ?_
      refine lv_iload_n hx hb dX11_laws_32 rfl (lv_at hl 2 rfl) ?_
      refine lv_aload_n hx hb dX11_laws_33 rfl (lv_at hl 1 rfl) ?_
      refine h_get (v := .ref b8) hx hb hts iX11 hown g t_a0 (by decide) so_12 rfl 2 (by decide) (hts (.fieldLink RX11 28 "CapLeague" "reader" "LCapLeague$LawReader;") (by decide +kernel)) rfl dX11_laws_34 (by show va_rf (z.R a0 2) = _; rw [rb8]; rfl) ?_
      obtain ⟨b15, rb15, tb15⟩ := hR.at b8 1 tb8 (rfl : h_rs 5 1 = some (6, false)) (by decide)
      refine h_get (v := .ref b15) hx hb hts iX4 hown g tb8 (by decide) so_5 rfl 1 (by decide) (hts (.fieldLink RX11 93 "CapLeague$LawReader" "read" "LCapLeague$Laws;") (by decide +kernel)) rfl dX11_laws_37 (by show va_rf (z.R b8 1) = _; rw [rb15]; rfl) ?_
      replace hZ := hZ.tcall hF rfl
      replace hQ := hQ.tc hF rfl
      refine va_callv (va_runV (As := [.int y, .ref b15]) (rest := []) ⟨hx, hb, hml, hown, hts⟩ (zX3_tell l E X A z I10 L0 b14 tb14 y (y_t) h_y b15 tb15 hQ.1) (cwV 2 hts gX11_laws_X3_tell rfl rfl rfl (by decide +kernel) ⟨Nat.le_of_ble_eq_true rfl, Nat.le_of_ble_eq_true rfl⟩) ⟨h_blind _ _ _ _ _ _ _, h_recv g tb14 (by decide) so_4 (q := (RX3, TX3, 2)) rfl, h_pre _ hE hk hX hA hI hR g⟩ rfl rfl hl.1 rfl (lv_room (Nat.le_of_ble_eq_true rfl)) dX11_laws_40 ⟨Nat.le_of_ble_eq_true rfl, Nat.le_of_ble_eq_true rfl⟩) g.2.1 (fun q _ h => h) (fun q h => h) (fun u t H1 locs ht hvm h16 hB hz1 hk1 hS => ?_)
      obtain ⟨z, I0, L17⟩ := u
      obtain ⟨hI, hR, xh16, qh16, h16⟩ := h16
      replace hI : h_I z I0 := hI
      replace hR : h_R z := hR
      have hB : h_B E A z I0 L17 t := hB
      have xh16 : h_X [(600, 999), (601, 999), (6, 2)] [401] none _ _ _ z I0 L17 := xh16
      have qh16 : h_Q [(600, 999), (601, 999), (6, 2)] none _ z I0 := qh16
      replace hQ := hQ.call xh16 qh16 rfl rfl
      replace hZ := hZ.call xh16 rfl (fun t h9 => h9) (fun b hb => by cases hb)
      have rb1 := xh16.R t_a0 (by decide) (fun h9 => by cases h9) rfl rb1
      have rb8 := xh16.R t_a0 (by decide) (fun h9 => by cases h9) rfl rb8
      have rb14 := xh16.R t_a0 (by decide) (fun h9 => by cases h9) rfl rb14
      have rb15 := xh16.R tb8 (by decide) (fun h9 => by cases h9) rfl rb15
      replace t_a0 := xh16.ty t_a0 (by decide) (fun h9 => by cases h9)
      replace tb1 := xh16.ty tb1 (by decide) (fun h9 => by cases h9)
      replace tb8 := xh16.ty tb8 (by decide) (fun h9 => by cases h9)
      replace tb14 := xh16.ty tb14 (by decide) (fun h9 => by cases h9)
      replace tb15 := xh16.ty tb15 (by decide) (fun h9 => by cases h9)
      replace g := h_after g hB ht hS
      generalize H1 = H at g
      clear hB hk1 hz1 ht hvm hS
      replace hF : h_F [(5, 4), (5, 5), (5, 6), (5, 7), (5, 2), (5, 3), (600, 999), (601, 999), (6, 2), (5, 8), (9, 1)] z I0 I0 := h_F.rf
      refine W.cs (cells' := 3) (slots' := 17) rfl rfl ?_
      refine lv_aload_n hx hb dX11_laws_43 rfl (lv_at hl 1 rfl) ?_
      obtain ⟨b18, rb18, tb18⟩ := hR.at a0 0 t_a0 (rfl : h_rs 12 0 = some (9, false)) (by decide)
      refine h_get (v := .ref b18) hx hb hts iX11 hown g t_a0 (by decide) so_12 rfl 0 (by decide) (hts (.fieldLink RX11 10 "CapLeague" "tape" "LCapLeague$Tape;") (by decide +kernel)) rfl dX11_laws_44 (by show va_rf (z.R a0 0) = _; rw [rb18]; rfl) ?_
      refine lv_iconst (v := 0) hx hb dX11_laws_47 (by decide) ?_
      refine h_putI (ty := .int) (v := 0) hx hb hts iX8 tyX8 tyX8_ok nmX8 hown g tb18 (by decide) so_9 rfl 1 (by decide) rfl (hts (.fieldLink RX11 81 "CapLeague$Tape" "size" "I") (by decide +kernel)) rfl rfl (by decide +kernel) rfl rfl dX11_laws_48 (fun I19 H locs eI19 g => ?_)
      replace hI := hI.wr eI19 tb18 (rfl : h_bd 9 1 = (0, 500)) (by decide) (by decide)
      replace hF := hF.wr eI19 tb18 rfl
      refine lv_iload_n hx hb dX11_laws_51 rfl (lv_at hl 0 rfl) ?_
      replace hZ := hZ.tcall hF rfl
      replace hQ := hQ.tc hF rfl
      replace hS := g.2.1
      exact W.iret (v := rh9) hx hb hr (fun t ht hW => ⟨⟨rh9, (z, I19, L17), rfl, ⟨hI, hR, hZ, hQ, trivial⟩, h_ret g ht⟩, hS.F ht⟩) hS.2.2 dX11_laws_52
