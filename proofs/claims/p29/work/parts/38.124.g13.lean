set_option maxHeartbeats 4000000 in
set_option maxRecDepth 100000 in
theorem zX5_initF (l : Launch) (E : tE) (X : tX) (A : Nat → Prop) (z0 : tZ) (J0 : tI) (K0 : tL) (a0 : Nat) (t_a0 : z0.ty a0 = 55) (h_z0 : J0 a0 = fun _ => 0) (hU : h_U z0) : Met l yX5_init wsX5_init ({ frames := 2, cells := 2, slots := 14, locals := 128 }) (va_Pc [.ref a0] (h_P E X A z0 J0 K0)) (va_Qv (fun (q1 : tZ × tI × tL) => h_I q1.1 q1.2.1 ∧ h_R q1.1 ∧ h_X [(600, 999), (601, 999), (6, 2)] [] (some a0) z0 J0 K0 q1.1 q1.2.1 q1.2.2 ∧ h_Q [(600, 999), (601, 999), (6, 2)] (some a0) z0 q1.1 q1.2.1 ∧ q1.1.ty a0 = 6 ∧ (h_lw q1.2.1 a0 (h_ad q1.1 a0 0) (h_ad q1.1 a0 1) q_pl) ∧ (∀ b k : Nat, z0.ty b ≠ 0 → b ≠ a0 → q1.2.1 b k = J0 b k)) (fun (q1 : tZ × tI × tL) t => h_B E A q1.1 q1.2.1 q1.2.2 t) A) 2 14 A := by
  refine Met.ofW (cc := cX5_init) (maxL := 1) (ret := none) (by decide) rfl ?_
  intro pr_ ev_ s m args below meth cd_ s₁ B hml hv
  obtain ⟨rfl, hE, hk, hX, hA, hK, hI, hR, hB0⟩ := hv
  obtain ⟨z, ez0⟩ : ∃ z : tZ, z = z0 := ⟨_, rfl⟩
  obtain ⟨I0, eJ0⟩ : ∃ I0 : tI, I0 = J0 := ⟨_, rfl⟩
  obtain ⟨L0, eK0⟩ : ∃ L0 : tL, L0 = K0 := ⟨_, rfl⟩
  rw [← ez0, ← eJ0] at hI
  rw [← ez0] at hR t_a0
  rw [← ez0, ← eJ0, ← eK0] at hB0
  rw [← eJ0] at h_z0
  have g : h_G h_so h_fk E A z I0 L0 s s.heap s.heap [] := ⟨hK, va_S.rf, hB0⟩
  replace hF : h_F [(600, 999), (601, 999), (6, 2)] z I0 I0 := h_F.rf
  have hx := B.exec
  have hb := B.bytes
  have hr := B.returns
  have hts := atoms_spec (ws := wsX5_init) B.pre
  have hown : s.vm.findClass RX5 = some m.cls := findClass_of_methodNamed B.named
  have hlocks := B.notSynchronized
  have iX5 : ∀ w ∈ u_ws RX5 TX5 3, w ∈ wsX5_init := by decide +kernel
  have hl := lv_entry ([.ref a0]) (n := 1) (Nat.le_of_ble_eq_true rfl)
  rw [lg_entry_eq]
  generalize (lg_sl ([.ref a0]) ++ List.replicate (1 - (lg_sl ([.ref a0])).length) Slot.unset).toArray = ls at hl ⊢
  have hl : lv_has ls 1 [(0, .ref a0)] := hl
  have hin : meth.name = "<init>" := (name_of_methodNamed B.named B.method).1
  replace hZ : h_X [(600, 999), (601, 999), (6, 2)] [] (some a0) z0 J0 K0 z I0 L0 := by rw [ez0, eJ0, eK0]; exact h_X.rf
  replace hz : I0 a0 = (fun _ => 0) := h_z0
  replace hQ : h_Q [(600, 999), (601, 999), (6, 2)] (some a0) z0 z I0 := by rw [ez0]; exact h_Q.rf hU (fun b hb => by cases hb; exact h_z0)
  replace hfr : ∀ b k : Nat, z0.ty b ≠ 0 → b ≠ a0 → I0 b k = J0 b k := fun b k _ _ => by rw [eJ0]
  refine lv_aload_n hx hb dX5_init_0 rfl (lv_at hl 0 rfl) ?_
  refine W.objInit hx hb hown (hts (.methodLink RX5 3 objectInit) (by decide +kernel)) (hts (.instanceMethod objectInit) (by decide +kernel)) (hts (.code objectInit ⟨#[0xb1]⟩ 1 none) (List.mem_of_getElem? (i := 3) rfl)) rfl (by rw [hml]; exact hl.1) rfl dX5_init_1 (Nat.le_of_ble_eq_true rfl) (Nat.le_of_ble_eq_true rfl) ?_
  refine W.eq (g2 := F0 m 4 ls []) rfl ?_
  refine lv_aload_n hx hb dX5_init_4 rfl (lv_at hl 0 rfl) ?_
  refine lv_bipush (v := 8) hx hb dX5_init_5 (by decide) ?_
  replace hZ := hZ.tcall hF rfl
  replace hQ := hQ.tc hF rfl
  refine h_newI hx hb (hts (.arrayClass .int) (by decide +kernel)) g hA so_600 (by decide) (by decide) (by decide) (Nat.le_of_ble_eq_true rfl) (Nat.le_of_ble_eq_true rfl) dX5_init_7 (fun q1 H hq0 g => ?_)
  have n_q1 := hZ.fresh hq0 (fun h => h_neq t_a0 (by decide) hq0 (Option.some.inj h).symm)
  replace hu_q1 := hQ.1.u (q := q1) (t := 600) hq0
  replace hQ := hQ.nw (q := q1) (t := 600) hq0 (by decide)
  replace hI := hI.nw (q := q1) (t := 600) (f := fun _ => none)
  replace hR := hR.nw (q := q1) (t := 600) (f := fun _ => none) hq0 (fun k t2 n2 h => by cases (show (none : Option (Nat × Bool)) = some (t2, n2) from h))
  replace hZ := hZ.nw (q := q1) (t := 600) (f := fun _ => none) hq0 (L2 := L0) (fun _ _ => rfl)
  replace hz : h_row I0 q1 (fun _ => 0) a0 = (fun _ => 0) := (h_row_n (h_neq t_a0 (by decide) hq0)).trans hz
  replace hfr : ∀ b k : Nat, z0.ty b ≠ 0 → b ≠ a0 → h_row I0 q1 (fun _ => 0) b k = J0 b k := fun b k h1 h2 => (congrFun (h_row_n (fun e9 => h1 (by rw [e9]; exact n_q1))) k).trans (hfr b k h1 h2)
  replace t_a0 := h_nwk (q := q1) (t := 600) (f := fun _ => none) hq0 t_a0 (by decide)
  replace tq1 : (z.nw q1 600 (fun _ => none)).ty q1 = 600 := nw_te
  obtain ⟨z, ez⟩ : ∃ z1 : tZ, z1 = (z.nw q1 600 (fun _ => none)) := ⟨_, rfl⟩
  rw [← ez] at g hI hR hZ hQ hu_q1 t_a0 tq1 
  clear ez
  obtain ⟨I0, eI⟩ : ∃ J : tI, J = h_row I0 q1 (fun _ => 0) := ⟨_, rfl⟩
  rw [← eI] at g hI hZ hQ hz hfr
  clear eI
  replace hF : h_F [(600, 999), (601, 999), (6, 2)] z I0 I0 := h_F.rf
  refine W.cs (cells' := 1) (slots' := 8) rfl rfl ?_
  replace hZ := hZ.tcall hF rfl
  replace hQ := hQ.tc hF rfl
  refine h_putR (ty := tyX5 0) (v := q1) hx hb hts iX5 tyX5 tyX5_ok nmX5 hown g t_a0 (by decide) so_55 rfl 0 (by decide) rfl (hts (.fieldLink RX5 9 "CapLeague$Laws" "numbers" "[I") (by decide +kernel)) rfl rfl hin rfl (by decide +kernel) rfl rfl dX5_init_9 (fun H locs g => ?_)
  replace hQ := hQ.wR (a := a0) (k := 0) (v := q1) t_a0 (by decide) tq1 (by decide) (fun h9 => ⟨hu_q1, n_q1⟩)
  replace hR := hR.wR (k0 := 0) (v := some q1) t_a0 (fun _ => rfl)
  replace hZ := hZ.wR (a := a0) (k := 0) (v := some q1) (Or.inl rfl)
  replace hI : h_I (z.wR a0 0 (some q1)) I0 := hI
  replace t_a0 : (z.wR a0 0 (some q1)).ty a0 = 55 := t_a0
  replace tq1 : (z.wR a0 0 (some q1)).ty q1 = 600 := tq1
  replace Ra0_0 : (z.wR a0 0 (some q1)).R a0 0 = some q1 := h_up_eq
  obtain ⟨z, ez⟩ : ∃ z1 : tZ, z1 = (z.wR a0 0 (some q1)) := ⟨_, rfl⟩
  rw [← ez] at g hI hR hZ hQ t_a0 tq1 Ra0_0
  clear ez
  replace hF : h_F [(600, 999), (601, 999), (6, 2)] z I0 I0 := h_F.rf
  refine lv_aload_n hx hb dX5_init_12 rfl (lv_at hl 0 rfl) ?_
  refine lv_bipush (v := 6) hx hb dX5_init_13 (by decide) ?_
  replace hZ := hZ.tcall hF rfl
  replace hQ := hQ.tc hF rfl
  refine h_newI hx hb (hts (.arrayClass .int) (by decide +kernel)) g hA so_601 (by decide) (by decide) (by decide) (Nat.le_of_ble_eq_true rfl) (Nat.le_of_ble_eq_true rfl) dX5_init_15 (fun q2 H hq0 g => ?_)
  have n_q2 := hZ.fresh hq0 (fun h => h_neq t_a0 (by decide) hq0 (Option.some.inj h).symm)
  replace hu_q2 := hQ.1.u (q := q2) (t := 601) hq0
  replace hQ := hQ.nw (q := q2) (t := 601) hq0 (by decide)
  replace hI := hI.nw (q := q2) (t := 601) (f := fun _ => none)
  replace hR := hR.nw (q := q2) (t := 601) (f := fun _ => none) hq0 (fun k t2 n2 h => by cases (show (none : Option (Nat × Bool)) = some (t2, n2) from h))
  replace hZ := hZ.nw (q := q2) (t := 601) (f := fun _ => none) hq0 (L2 := L0) (fun _ _ => rfl)
  replace hz : h_row I0 q2 (fun _ => 0) a0 = (fun _ => 0) := (h_row_n (h_neq t_a0 (by decide) hq0)).trans hz
  replace hfr : ∀ b k : Nat, z0.ty b ≠ 0 → b ≠ a0 → h_row I0 q2 (fun _ => 0) b k = J0 b k := fun b k h1 h2 => (congrFun (h_row_n (fun e9 => h1 (by rw [e9]; exact n_q2))) k).trans (hfr b k h1 h2)
  replace Ra0_0 := h_nwr (q := q2) (t := 601) (f := fun _ => none) hq0 t_a0 (by decide) Ra0_0
  replace t_a0 := h_nwk (q := q2) (t := 601) (f := fun _ => none) hq0 t_a0 (by decide)
  replace tq1 := h_nwk (q := q2) (t := 601) (f := fun _ => none) hq0 tq1 (by decide)
  replace tq2 : (z.nw q2 601 (fun _ => none)).ty q2 = 601 := nw_te
  obtain ⟨z, ez⟩ : ∃ z1 : tZ, z1 = (z.nw q2 601 (fun _ => none)) := ⟨_, rfl⟩
  rw [← ez] at g hI hR hZ hQ hu_q2 t_a0 tq1 tq2 Ra0_0
  clear ez
  obtain ⟨I0, eI⟩ : ∃ J : tI, J = h_row I0 q2 (fun _ => 0) := ⟨_, rfl⟩
  rw [← eI] at g hI hZ hQ hz hfr
  clear eI
  replace hF : h_F [(600, 999), (601, 999), (6, 2)] z I0 I0 := h_F.rf
  refine W.cs (cells' := 2) (slots' := 14) rfl rfl ?_
  replace hZ := hZ.tcall hF rfl
  replace hQ := hQ.tc hF rfl
  refine h_putR (ty := tyX5 1) (v := q2) hx hb hts iX5 tyX5 tyX5_ok nmX5 hown g t_a0 (by decide) so_55 rfl 1 (by decide) rfl (hts (.fieldLink RX5 15 "CapLeague$Laws" "lots" "[I") (by decide +kernel)) rfl rfl hin rfl (by decide +kernel) rfl rfl dX5_init_17 (fun H locs g => ?_)
  replace hQ := hQ.wR (a := a0) (k := 1) (v := q2) t_a0 (by decide) tq2 (by decide) (fun h9 => ⟨hu_q2, n_q2⟩)
  replace hR := hR.wR (k0 := 1) (v := some q2) t_a0 (fun _ => rfl)
  replace hZ := hZ.wR (a := a0) (k := 1) (v := some q2) (Or.inl rfl)
  replace hI : h_I (z.wR a0 1 (some q2)) I0 := hI
  replace t_a0 : (z.wR a0 1 (some q2)).ty a0 = 55 := t_a0
  replace tq1 : (z.wR a0 1 (some q2)).ty q1 = 600 := tq1
  replace tq2 : (z.wR a0 1 (some q2)).ty q2 = 601 := tq2
  replace Ra0_0 : (z.wR a0 1 (some q2)).R a0 0 = some q1 := (h_up_at (by decide)).trans Ra0_0
  replace Ra0_1 : (z.wR a0 1 (some q2)).R a0 1 = some q2 := h_up_eq
  obtain ⟨z, ez⟩ : ∃ z1 : tZ, z1 = (z.wR a0 1 (some q2)) := ⟨_, rfl⟩
  rw [← ez] at g hI hR hZ hQ t_a0 tq1 tq2 Ra0_0 Ra0_1
  clear ez
  replace hF : h_F [(600, 999), (601, 999), (6, 2)] z I0 I0 := h_F.rf
  replace hZ := hZ.tcall hF rfl
  replace hQ := hQ.tc hF rfl
  have g := g.rt (a := a0) (t := 6) (by rw [t_a0]; decide) (by rw [t_a0]; rfl)
  replace hI := hI.rt (a := a0) (t := 6) (fun k => by
      rw [hz]
      exact h_bd0 6 k)
  replace hR := hR.rt (t := 6) t_a0 (by decide) (by decide) (fun k t2 n2 h hk => by
      have hk9 : k < 3 := hk
      rcases (show k = 0 ∨ k = 1 ∨ k = 2 by omega) with rfl | rfl | rfl
      · have e9 : some (600, false) = some (t2, n2) := h
        cases e9
        exact ⟨q1, Ra0_0, tq1⟩
      · have e9 : some (601, false) = some (t2, n2) := h
        cases e9
        exact ⟨q2, Ra0_1, tq2⟩
      · cases (show (none : Option (Nat × Bool)) = some (t2, n2) from h))
  replace hZ := hZ.rt (a := a0) (t := 6) (Or.inl rfl)
  replace hQ := hQ.rt (a := a0) (t := 6) t_a0 (by decide) (by decide) rfl rfl
  replace tq1 := h_rtk (t := 6) tq1 t_a0 (by decide)
  replace tq2 := h_rtk (t := 6) tq2 t_a0 (by decide)
  replace t_a0 : (z.rt a0 6).ty a0 = 6 := rt_e
  replace Ra0_0 : (z.rt a0 6).R a0 0 = some q1 := Ra0_0
  replace Ra0_1 : (z.rt a0 6).R a0 1 = some q2 := Ra0_1
  obtain ⟨z, ez⟩ : ∃ z1 : tZ, z1 = (z.rt a0 6) := ⟨_, rfl⟩
  rw [← ez] at g hI hR hZ hQ t_a0 tq1 tq2 Ra0_0 Ra0_1
  clear ez
  replace hF : h_F [(600, 999), (601, 999), (6, 2)] z I0 I0 := h_F.rf
  have rq1 := Ra0_0
  have rq2 := Ra0_1
  refine lv_aload_n hx hb dX5_init_20 rfl (lv_at hl 0 rfl) ?_
  refine va_callv (va_runV (As := []) (rest := []) ⟨hx, hb, hml, hown, hts⟩ (tX5_resetF l E X A z I0 L0 a0 t_a0) (cwV 0 hts gX5_init_X5_reset rfl rfl rfl (by decide +kernel) ⟨Nat.le_of_ble_eq_true rfl, Nat.le_of_ble_eq_true rfl⟩) ⟨h_blind _ _ _ _ _ _ _, h_recv g t_a0 (by decide) so_6 (q := (RX5, TX5, 3)) rfl, h_pre _ hE hk hX hA hI hR g⟩ rfl rfl hl.1 rfl (lv_room (Nat.le_of_ble_eq_true rfl)) dX5_init_21 ⟨Nat.le_of_ble_eq_true rfl, Nat.le_of_ble_eq_true rfl⟩) g.2.1 (fun q _ h => h) (fun q h => h) (fun I4 t H1 locs ht hvm h3 hB hz1 hk1 hS => ?_)
  obtain ⟨hI, fh3, h3⟩ := h3
  replace g := h_after g hB ht hS
  generalize H1 = H at g
  clear hB hk1 hz1 ht hvm hS
  replace hF := hF.call fh3 rfl
  obtain ⟨h3p0, h3p1⟩ := h3
  replace hZ := hZ.tcall hF rfl
  replace hQ := hQ.tc hF rfl
  replace hS := g.2.1
  exact W.vret hx hb hr (fun t ht hW => ⟨⟨(z, I4, L0), rfl, ⟨hI, hR, hZ, hQ, t_a0, ⟨(by show h_lw I4 a0 (h_ad z a0 0) (h_ad z a0 1) q_pl; exact h3p0), (by show ∀ b k : Nat, z0.ty b ≠ 0 → b ≠ a0 → I4 b k = J0 b k; exact fun b k h1 h2 => (h_ap.all h3p1 fh3 rfl h2 (by rw [h_ad.at Ra0_0]; exact fun e9 => h1 (by rw [e9]; exact n_q1)) (by rw [h_ad.at Ra0_1]; exact fun e9 => h1 (by rw [e9]; exact n_q2))).trans (hfr b k h1 h2))⟩⟩, h_ret g ht⟩, hS.F ht⟩) hS.2.2 dX5_init_24
set_option maxHeartbeats 4000000 in
set_option maxRecDepth 100000 in
theorem zX3_initF (l : Launch) (E : tE) (X : tX) (A : Nat → Prop) (z0 : tZ) (J0 : tI) (K0 : tL) (a0 : Nat) (t_a0 : z0.ty a0 = 53) (h_z0 : J0 a0 = fun _ => 0) (hU : h_U z0) : Met l yX3_init wsX3_init ({ frames := 3, cells := 4, slots := 27, locals := 192 }) (va_Pc [.ref a0] (h_P E X A z0 J0 K0)) (va_Qv (fun (q1 : tZ × tI × tL) => h_I q1.1 q1.2.1 ∧ h_R q1.1 ∧ h_X [(600, 999), (601, 999), (6, 2)] [] (some a0) z0 J0 K0 q1.1 q1.2.1 q1.2.2 ∧ h_Q [(600, 999), (601, 999), (6, 2)] (some a0) z0 q1.1 q1.2.1 ∧ q1.1.ty a0 = 4 ∧ (h_lw q1.2.1 (h_ad q1.1 a0 0) (h_ad q1.1 (h_ad q1.1 a0 0) 0) (h_ad q1.1 (h_ad q1.1 a0 0) 1) q_pl) ∧ (q1.1.R (h_ad q1.1 a0 1) = fun _ => none)) (fun (q1 : tZ × tI × tL) t => h_B E A q1.1 q1.2.1 q1.2.2 t) A) 4 27 A := by
  refine Met.ofW (cc := cX3_init) (maxL := 1) (ret := none) (by decide) rfl ?_
  intro pr_ ev_ s m args below meth cd_ s₁ B hml hv
  obtain ⟨rfl, hE, hk, hX, hA, hK, hI, hR, hB0⟩ := hv
  obtain ⟨z, ez0⟩ : ∃ z : tZ, z = z0 := ⟨_, rfl⟩
  obtain ⟨I0, eJ0⟩ : ∃ I0 : tI, I0 = J0 := ⟨_, rfl⟩
  obtain ⟨L0, eK0⟩ : ∃ L0 : tL, L0 = K0 := ⟨_, rfl⟩
  rw [← ez0, ← eJ0] at hI
  rw [← ez0] at hR t_a0
  rw [← ez0, ← eJ0, ← eK0] at hB0
  rw [← eJ0] at h_z0
  have g : h_G h_so h_fk E A z I0 L0 s s.heap s.heap [] := ⟨hK, va_S.rf, hB0⟩
  replace hF : h_F [(600, 999), (601, 999), (6, 2)] z I0 I0 := h_F.rf
  have hx := B.exec
  have hb := B.bytes
  have hr := B.returns
  have hts := atoms_spec (ws := wsX3_init) B.pre
  have hown : s.vm.findClass RX3 = some m.cls := findClass_of_methodNamed B.named
  have hlocks := B.notSynchronized
  have iX5 : ∀ w ∈ u_ws RX5 TX5 3, w ∈ wsX3_init := by decide +kernel
  have iX3 : ∀ w ∈ u_ws RX3 TX3 2, w ∈ wsX3_init := by decide +kernel
  have hl := lv_entry ([.ref a0]) (n := 1) (Nat.le_of_ble_eq_true rfl)
  rw [lg_entry_eq]
  generalize (lg_sl ([.ref a0]) ++ List.replicate (1 - (lg_sl ([.ref a0])).length) Slot.unset).toArray = ls at hl ⊢
  have hl : lv_has ls 1 [(0, .ref a0)] := hl
  have hin : meth.name = "<init>" := (name_of_methodNamed B.named B.method).1
  replace hZ : h_X [(600, 999), (601, 999), (6, 2)] [] (some a0) z0 J0 K0 z I0 L0 := by rw [ez0, eJ0, eK0]; exact h_X.rf
  replace hz : I0 a0 = (fun _ => 0) := h_z0
  replace hQ : h_Q [(600, 999), (601, 999), (6, 2)] (some a0) z0 z I0 := by rw [ez0]; exact h_Q.rf hU (fun b hb => by cases hb; exact h_z0)
  refine lv_aload_n hx hb dX3_init_0 rfl (lv_at hl 0 rfl) ?_
  refine W.objInit hx hb hown (hts (.methodLink RX3 3 objectInit) (by decide +kernel)) (hts (.instanceMethod objectInit) (by decide +kernel)) (hts (.code objectInit ⟨#[0xb1]⟩ 1 none) (List.mem_of_getElem? (i := 3) rfl)) rfl (by rw [hml]; exact hl.1) rfl dX3_init_1 (Nat.le_of_ble_eq_true rfl) (Nat.le_of_ble_eq_true rfl) ?_
  refine W.eq (g2 := F0 m 4 ls []) rfl ?_
  refine lv_aload_n hx hb dX3_init_4 rfl (lv_at hl 0 rfl) ?_
  replace hZ := hZ.tcall hF rfl
  replace hQ := hQ.tc hF rfl
  refine h_newO (C := RX5) (T := TX5) (N := 3) (ci := 5) hx hb hts iX5 tyX5 tyX5_ok hown (hts (.classLink RX3 9 RX5) (by decide +kernel)) (hts (.instantiable RX5 3) (by decide +kernel)) (hts (.initialized RX5) (by decide +kernel)) g hA rfl so_55 (fun j hj => by rcases (show j = 0 ∨ j = 1 ∨ j = 2 by omega) with rfl | rfl | rfl <;> rfl) (Nat.le_of_ble_eq_true rfl) (Nat.le_of_ble_eq_true rfl) dX3_init_5 (fun q1 H hq0 g => ?_)
  have n_q1 := hZ.fresh hq0 (fun h => h_neq t_a0 (by decide) hq0 (Option.some.inj h).symm)
  replace hu_q1 := hQ.1.u (q := q1) (t := 55) hq0
  replace hQ := hQ.nw (q := q1) (t := 55) hq0 (by decide)
  replace hI := hI.nw (q := q1) (t := 55) (f := fun _ => none)
  replace hR := hR.nw (q := q1) (t := 55) (f := fun _ => none) hq0 (fun k t2 n2 h => by cases (show (none : Option (Nat × Bool)) = some (t2, n2) from h))
  replace hZ := hZ.nw (q := q1) (t := 55) (f := fun _ => none) hq0 (L2 := (h_rL L0 q1 (fun _ => 0))) (fun b hb => h_rL_n hb)
  replace hz : h_row I0 q1 (fun _ => 0) a0 = (fun _ => 0) := (h_row_n (h_neq t_a0 (by decide) hq0)).trans hz
  replace t_a0 := h_nwk (q := q1) (t := 55) (f := fun _ => none) hq0 t_a0 (by decide)
  replace tq1 : (z.nw q1 55 (fun _ => none)).ty q1 = 55 := nw_te
  have hzq1 : h_row I0 q1 (fun _ => 0) q1 = fun _ => 0 := h_row_e
  obtain ⟨z, ez⟩ : ∃ z1 : tZ, z1 = (z.nw q1 55 (fun _ => none)) := ⟨_, rfl⟩
  rw [← ez] at g hI hR hZ hQ hu_q1 t_a0 tq1 
  clear ez
  obtain ⟨I0, eI⟩ : ∃ J : tI, J = h_row I0 q1 (fun _ => 0) := ⟨_, rfl⟩
  rw [← eI] at g hI hZ hQ hz hzq1
  clear eI
  obtain ⟨L2, eL⟩ : ∃ J : tL, J = (h_rL L0 q1 (fun _ => 0)) := ⟨_, rfl⟩
  rw [← eL] at g hZ
  replace hF : h_F [(600, 999), (601, 999), (6, 2)] z I0 I0 := h_F.rf
  refine W.cs (cells' := 1) (slots' := 3) rfl rfl ?_
  refine lv_dup hx hb dX3_init_8 rfl ?_
  replace hZ := hZ.tcall hF rfl
  replace hQ := hQ.tc hF rfl
  refine va_callv (va_runI (As := []) (rest := [.ref q1, .ref a0]) ⟨hx, hb, hml, hown, hts⟩ (zX5_initF l E X A z I0 L2 q1 tq1 hzq1 hQ.1) (cwI 0 hts gX3_init_X5_init rfl rfl rfl (hts (.initialized RX5) (by decide +kernel)) (hts (.methodLink RX3 11 yX5_init) (by decide +kernel)) (hts (.instanceMethod yX5_init) (by decide +kernel)) rfl (by decide +kernel) ⟨Nat.le_of_ble_eq_true rfl, Nat.le_of_ble_eq_true rfl⟩) ⟨h_blind _ _ _ _ _ _ _, h_pre _ hE hk hX hA hI hR g⟩ rfl rfl hl.1 rfl (lv_room (Nat.le_of_ble_eq_true rfl)) dX3_init_9 ⟨Nat.le_of_ble_eq_true rfl, Nat.le_of_ble_eq_true rfl⟩) g.2.1 (fun q _ h => h) (fun q h => h) (fun u t H1 locs ht hvm h3 hB hz1 hk1 hS => ?_)
  obtain ⟨z, I0, L4⟩ := u
  obtain ⟨hI, hR, xh3, qh3, tq1_, h3⟩ := h3
  replace hI : h_I z I0 := hI
  replace hR : h_R z := hR
  have hB : h_B E A z I0 L4 t := hB
  have xh3 : h_X [(600, 999), (601, 999), (6, 2)] [] (some q1) _ _ _ z I0 L4 := xh3
  have qh3 : h_Q [(600, 999), (601, 999), (6, 2)] (some q1) _ z I0 := qh3
  replace hQ := hQ.call xh3 qh3 rfl rfl
  replace hu_q1 := hu_q1.call qh3.2.1 tq1 (by decide)
  replace hZ := hZ.call xh3 rfl (fun t h9 => rfl) (fun b hb => Or.inr (by cases hb; exact n_q1))
  replace hz : I0 a0 = (fun _ => 0) := (funext (fun k => xh3.I t_a0 (by decide) (h_sne t_a0 tq1 (by decide)) rfl)).trans hz
  replace t_a0 := xh3.ty t_a0 (by decide) (h_sne t_a0 tq1 (by decide))
  replace tq1 : z.ty q1 = 6 := tq1_
  replace g := h_after g hB ht hS
  generalize H1 = H at g
  clear hB hk1 hz1 ht hvm hS
  replace hF : h_F [(600, 999), (601, 999), (6, 2)] z I0 I0 := h_F.rf
  refine W.cs (cells' := 3) (slots' := 17) rfl rfl ?_
  obtain ⟨nU, rnU, tnU⟩ := hR.at q1 0 tq1 (rfl : h_rs 6 0 = some (600, false)) (by decide)
  obtain ⟨lU, rlU, tlU⟩ := hR.at q1 1 tq1 (rfl : h_rs 6 1 = some (601, false)) (by decide)
  have luU : h_lw I0 q1 nU lU q_pl := by have h9 : h_lw I0 q1 (h_ad z q1 0) (h_ad z q1 1) q_pl := h3.1; rw [h_ad.at rnU, h_ad.at rlU] at h9; exact h9
  replace hZ := hZ.tcall hF rfl
  replace hQ := hQ.tc hF rfl
  refine h_putR (ty := tyX3 0) (v := q1) hx hb hts iX3 tyX3 tyX3_ok nmX3 hown g t_a0 (by decide) so_53 rfl 0 (by decide) rfl (hts (.fieldLink RX3 12 "CapLeague$LawBook" "untold" "LCapLeague$Laws;") (by decide +kernel)) rfl rfl hin rfl (by decide +kernel) rfl rfl dX3_init_12 (fun H locs g => ?_)
  replace hQ := hQ.wR (a := a0) (k := 0) (v := q1) t_a0 (by decide) tq1 (by decide) (fun h9 => ⟨hu_q1, n_q1⟩)
  replace hR := hR.wR (k0 := 0) (v := some q1) t_a0 (fun _ => rfl)
  replace hZ := hZ.wR (a := a0) (k := 0) (v := some q1) (Or.inl rfl)
  replace hI : h_I (z.wR a0 0 (some q1)) I0 := hI
  replace t_a0 : (z.wR a0 0 (some q1)).ty a0 = 53 := t_a0
  replace tq1 : (z.wR a0 0 (some q1)).ty q1 = 6 := tq1
  have tnU : (z.wR a0 0 (some q1)).ty nU = 600 := tnU
  have tlU : (z.wR a0 0 (some q1)).ty lU = 601 := tlU
  have rnU : (z.wR a0 0 (some q1)).R q1 0 = some nU := (congrFun (h_up_ne (h_ne2 tq1 t_a0 (by decide))) 0).trans rnU
  have rlU : (z.wR a0 0 (some q1)).R q1 1 = some lU := (congrFun (h_up_ne (h_ne2 tq1 t_a0 (by decide))) 1).trans rlU
  replace Ra0_0 : (z.wR a0 0 (some q1)).R a0 0 = some q1 := h_up_eq
  obtain ⟨z, ez⟩ : ∃ z1 : tZ, z1 = (z.wR a0 0 (some q1)) := ⟨_, rfl⟩
  rw [← ez] at g hI hR hZ hQ t_a0 tq1 tnU tlU rnU rlU Ra0_0
  clear ez
  replace hF : h_F [(600, 999), (601, 999), (6, 2)] z I0 I0 := h_F.rf
  refine lv_aload_n hx hb dX3_init_15 rfl (lv_at hl 0 rfl) ?_
  refine lv_bipush (v := 10) hx hb dX3_init_16 (by decide) ?_
  replace hZ := hZ.tcall hF rfl
  replace hQ := hQ.tc hF rfl
  refine h_newaL hx hb hown (hts (.classLink RX3 9 RX5) (by decide +kernel)) hE.2.2.1 g hA so_401 (by decide) (by decide) (by decide) (Nat.le_of_ble_eq_true rfl) (Nat.le_of_ble_eq_true rfl) dX3_init_18 (fun q5 H hq0 g => ?_)
  have n_q5 := hZ.fresh hq0 (fun h => h_neq t_a0 (by decide) hq0 (Option.some.inj h).symm)
  replace hu_q5 := hQ.1.u (q := q5) (t := 401) hq0
  replace hQ := hQ.nw (q := q5) (t := 401) hq0 (by decide)
  replace hI := hI.nw (q := q5) (t := 401) (f := fun _ => none)
  replace hR := hR.nw (q := q5) (t := 401) (f := fun _ => none) hq0 (fun k t2 n2 h => by have e9 : some (6, true) = some (t2, n2) := h; cases e9; exact ⟨rfl, rfl⟩)
  replace hZ := hZ.nw (q := q5) (t := 401) (f := fun _ => none) hq0 (L2 := L4) (fun _ _ => rfl)
  replace hz : h_row I0 q5 (fun _ => 0) a0 = (fun _ => 0) := (h_row_n (h_neq t_a0 (by decide) hq0)).trans hz
  have luU : h_lw (h_row I0 q5 (fun _ => 0)) q1 nU lU q_pl := luU.c (fun i => congrFun (h_row_n (h_neq tnU (by decide) hq0)) i) (congrFun (h_row_n (h_neq tq1 (by decide) hq0)) 2) (fun i => congrFun (h_row_n (h_neq tlU (by decide) hq0)) i)
  have rnU := h_nwr (q := q5) (t := 401) (f := fun _ => none) hq0 tq1 (by decide) rnU
  have rlU := h_nwr (q := q5) (t := 401) (f := fun _ => none) hq0 tq1 (by decide) rlU
  replace Ra0_0 := h_nwr (q := q5) (t := 401) (f := fun _ => none) hq0 t_a0 (by decide) Ra0_0
  replace t_a0 := h_nwk (q := q5) (t := 401) (f := fun _ => none) hq0 t_a0 (by decide)
  replace tq1 := h_nwk (q := q5) (t := 401) (f := fun _ => none) hq0 tq1 (by decide)
  have tnU := h_nwk (q := q5) (t := 401) (f := fun _ => none) hq0 tnU (by decide)
  have tlU := h_nwk (q := q5) (t := 401) (f := fun _ => none) hq0 tlU (by decide)
  replace tq5 : (z.nw q5 401 (fun _ => none)).ty q5 = 401 := nw_te
  have ra_tx : (z.nw q5 401 (fun _ => none)).R q5 = fun _ => none := nw_re
  obtain ⟨z, ez⟩ : ∃ z1 : tZ, z1 = (z.nw q5 401 (fun _ => none)) := ⟨_, rfl⟩
  rw [← ez] at g hI hR hZ hQ hu_q5 ra_tx t_a0 tq1 tnU tlU tq5 rnU rlU Ra0_0
  clear ez
  obtain ⟨I0, eI⟩ : ∃ J : tI, J = h_row I0 q5 (fun _ => 0) := ⟨_, rfl⟩
  rw [← eI] at g hI hZ hQ hz luU
  clear eI
  replace hF : h_F [(600, 999), (601, 999), (6, 2)] z I0 I0 := h_F.rf
  refine W.cs (cells' := 4) (slots' := 27) rfl rfl ?_
  replace hZ := hZ.tcall hF rfl
  replace hQ := hQ.tc hF rfl
  refine h_putR (ty := tyX3 1) (v := q5) hx hb hts iX3 tyX3 tyX3_ok nmX3 hown g t_a0 (by decide) so_53 rfl 1 (by decide) rfl (hts (.fieldLink RX3 18 "CapLeague$LawBook" "texts" "[LCapLeague$Laws;") (by decide +kernel)) rfl rfl hin rfl (by decide +kernel) rfl rfl dX3_init_21 (fun H locs g => ?_)
  replace hQ := hQ.wR (a := a0) (k := 1) (v := q5) t_a0 (by decide) tq5 (by decide) (fun h9 => ⟨hu_q5, n_q5⟩)
  replace hR := hR.wR (k0 := 1) (v := some q5) t_a0 (fun _ => rfl)
  replace hZ := hZ.wR (a := a0) (k := 1) (v := some q5) (Or.inl rfl)
  replace hI : h_I (z.wR a0 1 (some q5)) I0 := hI
  replace t_a0 : (z.wR a0 1 (some q5)).ty a0 = 53 := t_a0
  replace tq1 : (z.wR a0 1 (some q5)).ty q1 = 6 := tq1
  have tnU : (z.wR a0 1 (some q5)).ty nU = 600 := tnU
  have tlU : (z.wR a0 1 (some q5)).ty lU = 601 := tlU
  replace tq5 : (z.wR a0 1 (some q5)).ty q5 = 401 := tq5
  have rnU : (z.wR a0 1 (some q5)).R q1 0 = some nU := (congrFun (h_up_ne (h_ne2 tq1 t_a0 (by decide))) 0).trans rnU
  have rlU : (z.wR a0 1 (some q5)).R q1 1 = some lU := (congrFun (h_up_ne (h_ne2 tq1 t_a0 (by decide))) 1).trans rlU
  replace Ra0_0 : (z.wR a0 1 (some q5)).R a0 0 = some q1 := (h_up_at (by decide)).trans Ra0_0
  have ra_tx : (z.wR a0 1 (some q5)).R q5 = (fun _ => none) := (h_up_ne (h_ne2 tq5 t_a0 (by decide))).trans ra_tx
  replace Ra0_1 : (z.wR a0 1 (some q5)).R a0 1 = some q5 := h_up_eq
  obtain ⟨z, ez⟩ : ∃ z1 : tZ, z1 = (z.wR a0 1 (some q5)) := ⟨_, rfl⟩
  rw [← ez] at g hI hR hZ hQ ra_tx t_a0 tq1 tnU tlU tq5 rnU rlU Ra0_0 Ra0_1
  clear ez
  replace hF : h_F [(600, 999), (601, 999), (6, 2)] z I0 I0 := h_F.rf
  replace hZ := hZ.tcall hF rfl
  replace hQ := hQ.tc hF rfl
  have g := g.rt (a := a0) (t := 4) (by rw [t_a0]; decide) (by rw [t_a0]; rfl)
  replace hI := hI.rt (a := a0) (t := 4) (fun k => by
      rw [hz]
      exact h_bd0 4 k)
  replace hR := hR.rt (t := 4) t_a0 (by decide) (by decide) (fun k t2 n2 h hk => by
      have hk9 : k < 2 := hk
      rcases (show k = 0 ∨ k = 1 by omega) with rfl | rfl
      · have e9 : some (6, false) = some (t2, n2) := h
        cases e9
        exact ⟨q1, Ra0_0, tq1⟩
      · have e9 : some (401, false) = some (t2, n2) := h
        cases e9
        exact ⟨q5, Ra0_1, tq5⟩)
  replace hZ := hZ.rt (a := a0) (t := 4) (Or.inl rfl)
  replace hQ := hQ.rt (a := a0) (t := 4) t_a0 (by decide) (by decide) rfl rfl
  replace tq1 := h_rtk (t := 4) tq1 t_a0 (by decide)
  have tnU := h_rtk (t := 4) tnU t_a0 (by decide)
  have tlU := h_rtk (t := 4) tlU t_a0 (by decide)
  replace tq5 := h_rtk (t := 4) tq5 t_a0 (by decide)
  replace t_a0 : (z.rt a0 4).ty a0 = 4 := rt_e
  have rnU : (z.rt a0 4).R q1 0 = some nU := rnU
  have rlU : (z.rt a0 4).R q1 1 = some lU := rlU
  replace Ra0_0 : (z.rt a0 4).R a0 0 = some q1 := Ra0_0
  replace Ra0_1 : (z.rt a0 4).R a0 1 = some q5 := Ra0_1
  have ra_tx : (z.rt a0 4).R q5 = (fun _ => none) := ra_tx
  obtain ⟨z, ez⟩ : ∃ z1 : tZ, z1 = (z.rt a0 4) := ⟨_, rfl⟩
  rw [← ez] at g hI hR hZ hQ ra_tx t_a0 tq1 tnU tlU tq5 rnU rlU Ra0_0 Ra0_1
  clear ez
  replace hF : h_F [(600, 999), (601, 999), (6, 2)] z I0 I0 := h_F.rf
  have rnU := rnU
  have rlU := rlU
  have rq1 := Ra0_0
  have rq5 := Ra0_1
  replace hZ := hZ.tcall hF rfl
  replace hQ := hQ.tc hF rfl
  replace hS := g.2.1
  exact W.vret hx hb hr (fun t ht hW => ⟨⟨(z, I0, L4), rfl, ⟨hI, hR, hZ, hQ, t_a0, ⟨(by show h_lw I0 (h_ad z a0 0) (h_ad z (h_ad z a0 0) 0) (h_ad z (h_ad z a0 0) 1) q_pl; rw [h_ad.at Ra0_0, h_ad.at rnU, h_ad.at rlU]; exact luU), (by show z.R (h_ad z a0 1) = fun _ => none; rw [h_ad.at Ra0_1]; exact ra_tx)⟩⟩, h_ret g ht⟩, hS.F ht⟩) hS.2.2 dX3_init_24
set_option maxHeartbeats 4000000 in
set_option maxRecDepth 100000 in
theorem zX4_initF (l : Launch) (E : tE) (X : tX) (A : Nat → Prop) (z0 : tZ) (J0 : tI) (K0 : tL) (a0 : Nat) (t_a0 : z0.ty a0 = 54) (p0 : Nat) (t_p0 : z0.ty p0 = 9) (h_z0 : J0 a0 = fun _ => 0) (hU : h_U z0) : Met l yX4_init wsX4_init ({ frames := 3, cells := 3, slots := 17, locals := 192 }) (va_Pc [.ref a0, .ref p0] (h_P E X A z0 J0 K0)) (va_Qv (fun (q1 : tZ × tI × tL) => h_I q1.1 q1.2.1 ∧ h_R q1.1 ∧ h_X [(600, 999), (601, 999), (6, 2), (54, 3)] [] (some a0) z0 J0 K0 q1.1 q1.2.1 q1.2.2 ∧ h_Q [(600, 999), (601, 999), (6, 2), (54, 3), (5, 3)] (some a0) z0 q1.1 q1.2.1 ∧ q1.1.ty a0 = 5 ∧ (∀ b k : Nat, z0.ty b ≠ 0 → b ≠ a0 → q1.2.1 b k = J0 b k) ∧ (q1.1.R a0 0 = some p0) ∧ (q1.2.1 a0 2 = 0 ∧ q1.2.1 a0 3 = -1)) (fun (q1 : tZ × tI × tL) t => h_B E A q1.1 q1.2.1 q1.2.2 t) A) 3 17 A := by
  refine Met.ofW (cc := cX4_init) (maxL := 2) (ret := none) (by decide) rfl ?_
  intro pr_ ev_ s m args below meth cd_ s₁ B hml hv
  obtain ⟨rfl, hE, hk, hX, hA, hK, hI, hR, hB0⟩ := hv
  obtain ⟨z, ez0⟩ : ∃ z : tZ, z = z0 := ⟨_, rfl⟩
  obtain ⟨I0, eJ0⟩ : ∃ I0 : tI, I0 = J0 := ⟨_, rfl⟩
  obtain ⟨L0, eK0⟩ : ∃ L0 : tL, L0 = K0 := ⟨_, rfl⟩
  rw [← ez0, ← eJ0] at hI
  rw [← ez0] at hR t_a0 t_p0
  rw [← ez0, ← eJ0, ← eK0] at hB0
  rw [← eJ0] at h_z0
  have g : h_G h_so h_fk E A z I0 L0 s s.heap s.heap [] := ⟨hK, va_S.rf, hB0⟩
  replace hF : h_F [(600, 999), (601, 999), (6, 2), (54, 3)] z I0 I0 := h_F.rf
  have hx := B.exec
  have hb := B.bytes
  have hr := B.returns
  have hts := atoms_spec (ws := wsX4_init) B.pre
  have hown : s.vm.findClass RX4 = some m.cls := findClass_of_methodNamed B.named
  have hlocks := B.notSynchronized
  have iX5 : ∀ w ∈ u_ws RX5 TX5 3, w ∈ wsX4_init := by decide +kernel
  have iX4 : ∀ w ∈ u_ws RX4 TX4 9, w ∈ wsX4_init := by decide +kernel
  have hl := lv_entry ([.ref a0, .ref p0]) (n := 2) (Nat.le_of_ble_eq_true rfl)
  rw [lg_entry_eq]
  generalize (lg_sl ([.ref a0, .ref p0]) ++ List.replicate (2 - (lg_sl ([.ref a0, .ref p0])).length) Slot.unset).toArray = ls at hl ⊢
  have hl : lv_has ls 2 [(0, .ref a0), (1, .ref p0)] := hl
  have hin : meth.name = "<init>" := (name_of_methodNamed B.named B.method).1
  replace hZ : h_X [(600, 999), (601, 999), (6, 2), (54, 3)] [] (some a0) z0 J0 K0 z I0 L0 := by rw [ez0, eJ0, eK0]; exact h_X.rf
  replace hz : I0 a0 = (fun _ => 0) := h_z0
  replace hQ : h_Q [(600, 999), (601, 999), (6, 2), (54, 3), (5, 3)] (some a0) z0 z I0 := by rw [ez0]; exact h_Q.rf hU (fun b hb => by cases hb; exact h_z0)
  replace hfr : ∀ b k : Nat, z0.ty b ≠ 0 → b ≠ a0 → I0 b k = J0 b k := fun b k _ _ => by rw [eJ0]
  refine lv_aload_n hx hb dX4_init_0 rfl (lv_at hl 0 rfl) ?_
  refine W.objInit hx hb hown (hts (.methodLink RX4 3 objectInit) (by decide +kernel)) (hts (.instanceMethod objectInit) (by decide +kernel)) (hts (.code objectInit ⟨#[0xb1]⟩ 1 none) (List.mem_of_getElem? (i := 3) rfl)) rfl (by rw [hml]; exact hl.1) rfl dX4_init_1 (Nat.le_of_ble_eq_true rfl) (Nat.le_of_ble_eq_true rfl) ?_
  refine W.eq (g2 := F0 m 4 ls []) rfl ?_
  refine lv_aload_n hx hb dX4_init_4 rfl (lv_at hl 0 rfl) ?_
  replace hZ := hZ.tcall hF rfl
  replace hQ := hQ.tc hF rfl
  refine h_newO (C := RX5) (T := TX5) (N := 3) (ci := 5) hx hb hts iX5 tyX5 tyX5_ok hown (hts (.classLink RX4 9 RX5) (by decide +kernel)) (hts (.instantiable RX5 3) (by decide +kernel)) (hts (.initialized RX5) (by decide +kernel)) g hA rfl so_55 (fun j hj => by rcases (show j = 0 ∨ j = 1 ∨ j = 2 by omega) with rfl | rfl | rfl <;> rfl) (Nat.le_of_ble_eq_true rfl) (Nat.le_of_ble_eq_true rfl) dX4_init_5 (fun q1 H hq0 g => ?_)
  have n_q1 := hZ.fresh hq0 (fun h => h_neq t_a0 (by decide) hq0 (Option.some.inj h).symm)
  replace hu_q1 := hQ.1.u (q := q1) (t := 55) hq0
  replace hQ := hQ.nw (q := q1) (t := 55) hq0 (by decide)
  replace hI := hI.nw (q := q1) (t := 55) (f := fun _ => none)
  replace hR := hR.nw (q := q1) (t := 55) (f := fun _ => none) hq0 (fun k t2 n2 h => by cases (show (none : Option (Nat × Bool)) = some (t2, n2) from h))
  replace hZ := hZ.nw (q := q1) (t := 55) (f := fun _ => none) hq0 (L2 := (h_rL L0 q1 (fun _ => 0))) (fun b hb => h_rL_n hb)
  replace hz : h_row I0 q1 (fun _ => 0) a0 = (fun _ => 0) := (h_row_n (h_neq t_a0 (by decide) hq0)).trans hz
  replace hfr : ∀ b k : Nat, z0.ty b ≠ 0 → b ≠ a0 → h_row I0 q1 (fun _ => 0) b k = J0 b k := fun b k h1 h2 => (congrFun (h_row_n (fun e9 => h1 (by rw [e9]; exact n_q1))) k).trans (hfr b k h1 h2)
  replace t_a0 := h_nwk (q := q1) (t := 55) (f := fun _ => none) hq0 t_a0 (by decide)
  replace t_p0 := h_nwk (q := q1) (t := 55) (f := fun _ => none) hq0 t_p0 (by decide)
  replace tq1 : (z.nw q1 55 (fun _ => none)).ty q1 = 55 := nw_te
  have hzq1 : h_row I0 q1 (fun _ => 0) q1 = fun _ => 0 := h_row_e
  obtain ⟨z, ez⟩ : ∃ z1 : tZ, z1 = (z.nw q1 55 (fun _ => none)) := ⟨_, rfl⟩
  rw [← ez] at g hI hR hZ hQ hu_q1 t_a0 t_p0 tq1 
  clear ez
  obtain ⟨I0, eI⟩ : ∃ J : tI, J = h_row I0 q1 (fun _ => 0) := ⟨_, rfl⟩
  rw [← eI] at g hI hZ hQ hz hzq1 hfr
  clear eI
  obtain ⟨L2, eL⟩ : ∃ J : tL, J = (h_rL L0 q1 (fun _ => 0)) := ⟨_, rfl⟩
  rw [← eL] at g hZ
  replace hF : h_F [(600, 999), (601, 999), (6, 2), (54, 3)] z I0 I0 := h_F.rf
  refine W.cs (cells' := 1) (slots' := 3) rfl rfl ?_
  refine lv_dup hx hb dX4_init_8 rfl ?_
  replace hZ := hZ.tcall hF rfl
  replace hQ := hQ.tc hF rfl
  have hQo := hQ
  refine va_callv (va_runI (As := []) (rest := [.ref q1, .ref a0]) ⟨hx, hb, hml, hown, hts⟩ (zX5_initF l E X A z I0 L2 q1 tq1 hzq1 hQ.1) (cwI 0 hts gX4_init_X5_init rfl rfl rfl (hts (.initialized RX5) (by decide +kernel)) (hts (.methodLink RX4 11 yX5_init) (by decide +kernel)) (hts (.instanceMethod yX5_init) (by decide +kernel)) rfl (by decide +kernel) ⟨Nat.le_of_ble_eq_true rfl, Nat.le_of_ble_eq_true rfl⟩) ⟨h_blind _ _ _ _ _ _ _, h_pre _ hE hk hX hA hI hR g⟩ rfl rfl hl.1 rfl (lv_room (Nat.le_of_ble_eq_true rfl)) dX4_init_9 ⟨Nat.le_of_ble_eq_true rfl, Nat.le_of_ble_eq_true rfl⟩) g.2.1 (fun q _ h => h) (fun q h => h) (fun u t H1 locs ht hvm h3 hB hz1 hk1 hS => ?_)
  obtain ⟨z, I0, L4⟩ := u
  obtain ⟨hI, hR, xh3, qh3, tq1_, h3⟩ := h3
  replace hI : h_I z I0 := hI
  replace hR : h_R z := hR
  have hB : h_B E A z I0 L4 t := hB
  have xh3 : h_X [(600, 999), (601, 999), (6, 2)] [] (some q1) _ _ _ z I0 L4 := xh3
  have qh3 : h_Q [(600, 999), (601, 999), (6, 2)] (some q1) _ z I0 := qh3
  replace hQ := hQ.call xh3 qh3 rfl rfl
  replace hu_q1 := hu_q1.call qh3.2.1 tq1 (by decide)
  replace hZ := hZ.call xh3 rfl (fun t h9 => rfl) (fun b hb => Or.inr (by cases hb; exact n_q1))
  replace hz : I0 a0 = (fun _ => 0) := (funext (fun k => xh3.I t_a0 (by decide) (h_sne t_a0 tq1 (by decide)) rfl)).trans hz
  replace hfr : ∀ b k : Nat, z0.ty b ≠ 0 → b ≠ a0 → I0 b k = J0 b k := fun b k h1 h2 => (h3.2 b k (fun e9 => h1 (hQo.2.1.1 b e9)) (fun e9 => h1 (by rw [e9]; exact n_q1))).trans (hfr b k h1 h2)
  replace t_a0 := xh3.ty t_a0 (by decide) (h_sne t_a0 tq1 (by decide))
  replace t_p0 := xh3.ty t_p0 (by decide) (h_sne t_p0 tq1 (by decide))
  replace tq1 : z.ty q1 = 6 := tq1_
  replace g := h_after g hB ht hS
  generalize H1 = H at g
  clear hB hk1 hz1 ht hvm hS
  replace hF : h_F [(600, 999), (601, 999), (6, 2), (54, 3)] z I0 I0 := h_F.rf
  refine W.cs (cells' := 3) (slots' := 17) rfl rfl ?_
  replace hZ := hZ.tcall hF rfl
  replace hQ := hQ.tc hF rfl
  refine h_putR (ty := tyX4 1) (v := q1) hx hb hts iX4 tyX4 tyX4_ok nmX4 hown g t_a0 (by decide) so_54 rfl 1 (by decide) rfl (hts (.fieldLink RX4 12 "CapLeague$LawReader" "read" "LCapLeague$Laws;") (by decide +kernel)) rfl rfl hin rfl (by decide +kernel) rfl rfl dX4_init_12 (fun H locs g => ?_)
  replace hQ := hQ.wR (a := a0) (k := 1) (v := q1) t_a0 (by decide) tq1 (by decide) (fun h9 => ⟨hu_q1, n_q1⟩)
  replace hR := hR.wR (k0 := 1) (v := some q1) t_a0 (fun _ => rfl)
  replace hZ := hZ.wR (a := a0) (k := 1) (v := some q1) (Or.inl rfl)
  replace hI : h_I (z.wR a0 1 (some q1)) I0 := hI
  replace t_a0 : (z.wR a0 1 (some q1)).ty a0 = 54 := t_a0
  replace t_p0 : (z.wR a0 1 (some q1)).ty p0 = 9 := t_p0
  replace tq1 : (z.wR a0 1 (some q1)).ty q1 = 6 := tq1
  replace Ra0_1 : (z.wR a0 1 (some q1)).R a0 1 = some q1 := h_up_eq
  obtain ⟨z, ez⟩ : ∃ z1 : tZ, z1 = (z.wR a0 1 (some q1)) := ⟨_, rfl⟩
  rw [← ez] at g hI hR hZ hQ t_a0 t_p0 tq1 Ra0_1
  clear ez
  replace hF : h_F [(600, 999), (601, 999), (6, 2), (54, 3)] z I0 I0 := h_F.rf
  refine lv_aload_n hx hb dX4_init_15 rfl (lv_at hl 0 rfl) ?_
  refine lv_iconst (v := (-1)) hx hb dX4_init_16 (by decide) ?_
  refine h_putI (ty := .int) (v := (-1)) hx hb hts iX4 tyX4 tyX4_ok nmX4 hown g t_a0 (by decide) so_54 rfl 3 (by decide) rfl (hts (.fieldLink RX4 18 "CapLeague$LawReader" "faultPlace" "I") (by decide +kernel)) rfl rfl (by decide +kernel) rfl rfl dX4_init_17 (fun I5 H locs eI5 g => ?_)
  replace hI := hI.wr eI5 t_a0 (rfl : h_bd 54 3 = ((-2147483648), 2147483647)) (by decide) (by decide)
  replace hF := hF.wr eI5 t_a0 rfl
  replace hz := h_hz hz eI5
  replace hfr : ∀ b k : Nat, z0.ty b ≠ 0 → b ≠ a0 → I5 b k = J0 b k := fun b k h1 h2 => (by rw [eI5]; exact congrFun (h_up_ne h2) k : I5 b k = I0 b k).trans (hfr b k h1 h2)
  refine lv_aload_n hx hb dX4_init_20 rfl (lv_at hl 0 rfl) ?_
  refine lv_aload_n hx hb dX4_init_21 rfl (lv_at hl 1 rfl) ?_
  replace kf_a0_3 : I5 a0 3 = (-1) := h_n0 eI5
  replace hZ := hZ.tcall hF rfl
  replace hQ := hQ.tc hF rfl
  refine h_putR (ty := tyX4 0) (v := p0) hx hb hts iX4 tyX4 tyX4_ok nmX4 hown g t_a0 (by decide) so_54 rfl 0 (by decide) rfl (hts (.fieldLink RX4 22 "CapLeague$LawReader" "tape" "LCapLeague$Tape;") (by decide +kernel)) rfl rfl hin rfl (by decide +kernel) rfl rfl dX4_init_22 (fun H locs g => ?_)
  replace hQ := hQ.wR (a := a0) (k := 0) (v := p0) t_a0 (by decide) t_p0 (by decide) (fun h9 => absurd h9 (by decide))
  replace hR := hR.wR (k0 := 0) (v := some p0) t_a0 (fun _ => rfl)
  replace hZ := hZ.wR (a := a0) (k := 0) (v := some p0) (Or.inl rfl)
  replace hI : h_I (z.wR a0 0 (some p0)) I5 := hI
  replace t_a0 : (z.wR a0 0 (some p0)).ty a0 = 54 := t_a0
  replace t_p0 : (z.wR a0 0 (some p0)).ty p0 = 9 := t_p0
  replace tq1 : (z.wR a0 0 (some p0)).ty q1 = 6 := tq1
  replace Ra0_1 : (z.wR a0 0 (some p0)).R a0 1 = some q1 := (h_up_at (by decide)).trans Ra0_1
  replace Ra0_0 : (z.wR a0 0 (some p0)).R a0 0 = some p0 := h_up_eq
  obtain ⟨z, ez⟩ : ∃ z1 : tZ, z1 = (z.wR a0 0 (some p0)) := ⟨_, rfl⟩
  rw [← ez] at g hI hR hZ hQ t_a0 t_p0 tq1 Ra0_1 Ra0_0
  clear ez
  obtain ⟨I0, eI⟩ : ∃ J : tI, J = I5 := ⟨_, rfl⟩
  rw [← eI] at g hI hZ hQ hz kf_a0_3 hfr
  clear eI
  replace hF : h_F [(600, 999), (601, 999), (6, 2), (54, 3)] z I0 I0 := h_F.rf
  replace hZ := hZ.tcall hF rfl
  replace hQ := hQ.tc hF rfl
  replace kf_a0_3 : I0 a0 3 = (-1) := kf_a0_3
  have g := g.rt (a := a0) (t := 5) (by rw [t_a0]; decide) (by rw [t_a0]; rfl)
  replace hI := hI.rt (a := a0) (t := 5) (fun k => by
      rw [hz]
      by_cases hk3 : k = 3
      · subst hk3
        exact ⟨by decide, by decide⟩
      simp only [if_neg hk3]
      exact h_bd0 5 k)
  replace hR := hR.rt (t := 5) t_a0 (by decide) (by decide) (fun k t2 n2 h hk => by
      have hk9 : k < 9 := hk
      rcases (show k = 0 ∨ k = 1 ∨ k = 2 ∨ k = 3 ∨ k = 4 ∨ k = 5 ∨ k = 6 ∨ k = 7 ∨ k = 8 by omega) with rfl | rfl | rfl | rfl | rfl | rfl | rfl | rfl | rfl
      · have e9 : some (9, false) = some (t2, n2) := h
        cases e9
        exact ⟨p0, Ra0_0, t_p0⟩
      · have e9 : some (6, false) = some (t2, n2) := h
        cases e9
        exact ⟨q1, Ra0_1, tq1⟩
      · cases (show (none : Option (Nat × Bool)) = some (t2, n2) from h)
      · cases (show (none : Option (Nat × Bool)) = some (t2, n2) from h)
      · cases (show (none : Option (Nat × Bool)) = some (t2, n2) from h)
      · cases (show (none : Option (Nat × Bool)) = some (t2, n2) from h)
      · cases (show (none : Option (Nat × Bool)) = some (t2, n2) from h)
      · cases (show (none : Option (Nat × Bool)) = some (t2, n2) from h)
      · cases (show (none : Option (Nat × Bool)) = some (t2, n2) from h))
  replace hZ := hZ.rt (a := a0) (t := 5) (Or.inl rfl)
  replace hQ := hQ.rt (a := a0) (t := 5) t_a0 (by decide) (by decide) rfl rfl
  replace t_p0 := h_rtk (t := 5) t_p0 t_a0 (by decide)
  replace tq1 := h_rtk (t := 5) tq1 t_a0 (by decide)
  replace t_a0 : (z.rt a0 5).ty a0 = 5 := rt_e
  replace Ra0_1 : (z.rt a0 5).R a0 1 = some q1 := Ra0_1
  replace Ra0_0 : (z.rt a0 5).R a0 0 = some p0 := Ra0_0
  obtain ⟨z, ez⟩ : ∃ z1 : tZ, z1 = (z.rt a0 5) := ⟨_, rfl⟩
  rw [← ez] at g hI hR hZ hQ t_a0 t_p0 tq1 Ra0_1 Ra0_0
  clear ez
  replace hF : h_F [(600, 999), (601, 999), (6, 2), (54, 3)] z I0 I0 := h_F.rf
  have rq1 := Ra0_1
  have rp0 := Ra0_0
  have hz0 : I0 a0 2 = 0 ∧ I0 a0 3 = -1 := by rw [hz]; exact ⟨rfl, rfl⟩
  replace hZ := hZ.tcall hF rfl
  replace hQ := hQ.tc hF rfl
  replace hS := g.2.1
  exact W.vret hx hb hr (fun t ht hW => ⟨⟨(z, I0, L4), rfl, ⟨hI, hR, hZ, hQ, t_a0, ⟨(by show ∀ b k : Nat, z0.ty b ≠ 0 → b ≠ a0 → I0 b k = J0 b k; exact hfr), (by show z.R a0 0 = some p0; exact Ra0_0), (by show I0 a0 2 = 0 ∧ I0 a0 3 = -1; exact hz0)⟩⟩, h_ret g ht⟩, hS.F ht⟩) hS.2.2 dX4_init_25
set_option maxHeartbeats 4000000 in
set_option maxRecDepth 100000 in
theorem zX0_initF (l : Launch) (E : tE) (X : tX) (A : Nat → Prop) (z0 : tZ) (J0 : tI) (K0 : tL) (a0 : Nat) (t_a0 : z0.ty a0 = 50) (p0 : Nat) (t_p0 : z0.ty p0 = 4) (h_z0 : J0 a0 = fun _ => 0) (hU : h_U z0) : Met l yX0_init wsX0_init ({ frames := 1, cells := 13, slots := 172, locals := 64 }) (va_Pc [.ref a0, .ref p0] (h_P E X A z0 J0 K0)) (va_Qv (fun (q1 : tZ × tI × tL) => h_I q1.1 q1.2.1 ∧ h_R q1.1 ∧ h_X [] [] (some a0) z0 J0 K0 q1.1 q1.2.1 q1.2.2 ∧ h_Q [] (some a0) z0 q1.1 q1.2.1 ∧ q1.1.ty a0 = 1 ∧ (∀ k : Nat, q1.2.1 a0 k = 0) ∧ (q1.1.R a0 0 = some p0)) (fun (q1 : tZ × tI × tL) t => h_B E A q1.1 q1.2.1 q1.2.2 t) A) 13 172 A := by
  refine Met.ofW (cc := cX0_init) (maxL := 2) (ret := none) (by decide) rfl ?_
  intro pr_ ev_ s m args below meth cd_ s₁ B hml hv
  obtain ⟨rfl, hE, hk, hX, hA, hK, hI, hR, hB0⟩ := hv
  obtain ⟨z, ez0⟩ : ∃ z : tZ, z = z0 := ⟨_, rfl⟩
  obtain ⟨I0, eJ0⟩ : ∃ I0 : tI, I0 = J0 := ⟨_, rfl⟩
  obtain ⟨L0, eK0⟩ : ∃ L0 : tL, L0 = K0 := ⟨_, rfl⟩
  rw [← ez0, ← eJ0] at hI
  rw [← ez0] at hR t_a0 t_p0
  rw [← ez0, ← eJ0, ← eK0] at hB0
  rw [← eJ0] at h_z0
  have g : h_G h_so h_fk E A z I0 L0 s s.heap s.heap [] := ⟨hK, va_S.rf, hB0⟩
  replace hF : h_F [] z I0 I0 := h_F.rf
  have hx := B.exec
  have hb := B.bytes
  have hr := B.returns
  have hts := atoms_spec (ws := wsX0_init) B.pre
  have hown : s.vm.findClass RX0 = some m.cls := findClass_of_methodNamed B.named
  have hlocks := B.notSynchronized
  have iX0 : ∀ w ∈ u_ws RX0 TX0 9, w ∈ wsX0_init := by decide +kernel
  have hl := lv_entry ([.ref a0, .ref p0]) (n := 2) (Nat.le_of_ble_eq_true rfl)
  rw [lg_entry_eq]
  generalize (lg_sl ([.ref a0, .ref p0]) ++ List.replicate (2 - (lg_sl ([.ref a0, .ref p0])).length) Slot.unset).toArray = ls at hl ⊢
  have hl : lv_has ls 2 [(0, .ref a0), (1, .ref p0)] := hl
  have hin : meth.name = "<init>" := (name_of_methodNamed B.named B.method).1
  replace hZ : h_X [] [] (some a0) z0 J0 K0 z I0 L0 := by rw [ez0, eJ0, eK0]; exact h_X.rf
  replace hz : I0 a0 = (fun _ => 0) := h_z0
  replace hQ : h_Q [] (some a0) z0 z I0 := by rw [ez0]; exact h_Q.rf hU (fun b hb => by cases hb; exact h_z0)
  refine lv_aload_n hx hb dX0_init_0 rfl (lv_at hl 0 rfl) ?_
  refine W.objInit hx hb hown (hts (.methodLink RX0 3 objectInit) (by decide +kernel)) (hts (.instanceMethod objectInit) (by decide +kernel)) (hts (.code objectInit ⟨#[0xb1]⟩ 1 none) (List.mem_of_getElem? (i := 3) rfl)) rfl (by rw [hml]; exact hl.1) rfl dX0_init_1 (Nat.le_of_ble_eq_true rfl) (Nat.le_of_ble_eq_true rfl) ?_
  refine W.eq (g2 := F0 m 4 ls []) rfl ?_
  refine lv_aload_n hx hb dX0_init_4 rfl (lv_at hl 0 rfl) ?_
  refine lv_bipush (v := 60) hx hb dX0_init_5 (by decide) ?_
  replace hZ := hZ.tcall hF rfl
  replace hQ := hQ.tc hF rfl
  refine h_newaP hx hb hown (hts (.classLink RX0 9 RX6) (by decide +kernel)) hE.2.2.2.1 g hA so_101 (by decide) (by decide) (by decide) (Nat.le_of_ble_eq_true rfl) (Nat.le_of_ble_eq_true rfl) dX0_init_7 (fun q1 H hq0 g => ?_)
  have n_q1 := hZ.fresh hq0 (fun h => h_neq t_a0 (by decide) hq0 (Option.some.inj h).symm)
  replace hu_q1 := hQ.1.u (q := q1) (t := 101) hq0
  replace hQ := hQ.nw (q := q1) (t := 101) hq0 (by decide)
  replace hI := hI.nw (q := q1) (t := 101) (f := fun _ => none)
  replace hR := hR.nw (q := q1) (t := 101) (f := fun _ => none) hq0 (fun k t2 n2 h => by have e9 : some (7, true) = some (t2, n2) := h; cases e9; exact ⟨rfl, rfl⟩)
  replace hZ := hZ.nw (q := q1) (t := 101) (f := fun _ => none) hq0 (L2 := L0) (fun _ _ => rfl)
  replace hz : h_row I0 q1 (fun _ => 0) a0 = (fun _ => 0) := (h_row_n (h_neq t_a0 (by decide) hq0)).trans hz
  replace t_a0 := h_nwk (q := q1) (t := 101) (f := fun _ => none) hq0 t_a0 (by decide)
  replace t_p0 := h_nwk (q := q1) (t := 101) (f := fun _ => none) hq0 t_p0 (by decide)
  replace tq1 : (z.nw q1 101 (fun _ => none)).ty q1 = 101 := nw_te
  obtain ⟨z, ez⟩ : ∃ z1 : tZ, z1 = (z.nw q1 101 (fun _ => none)) := ⟨_, rfl⟩
  rw [← ez] at g hI hR hZ hQ hu_q1 t_a0 t_p0 tq1 
  clear ez
  obtain ⟨I0, eI⟩ : ∃ J : tI, J = h_row I0 q1 (fun _ => 0) := ⟨_, rfl⟩
  rw [← eI] at g hI hZ hQ hz
  clear eI
  replace hF : h_F [] z I0 I0 := h_F.rf
  refine W.cs (cells' := 1) (slots' := 60) rfl rfl ?_
  replace hZ := hZ.tcall hF rfl
  replace hQ := hQ.tc hF rfl
  refine h_putR (ty := tyX0 1) (v := q1) hx hb hts iX0 tyX0 tyX0_ok nmX0 hown g t_a0 (by decide) so_50 rfl 1 (by decide) rfl (hts (.fieldLink RX0 11 "CapLeague$Books" "players" "[LCapLeague$Player;") (by decide +kernel)) rfl rfl hin rfl (by decide +kernel) rfl rfl dX0_init_10 (fun H locs g => ?_)
  replace hQ := hQ.wR (a := a0) (k := 1) (v := q1) t_a0 (by decide) tq1 (by decide) (fun h9 => ⟨hu_q1, n_q1⟩)
  replace hR := hR.wR (k0 := 1) (v := some q1) t_a0 (fun _ => rfl)
  replace hZ := hZ.wR (a := a0) (k := 1) (v := some q1) (Or.inl rfl)
  replace hI : h_I (z.wR a0 1 (some q1)) I0 := hI
  replace t_a0 : (z.wR a0 1 (some q1)).ty a0 = 50 := t_a0
  replace t_p0 : (z.wR a0 1 (some q1)).ty p0 = 4 := t_p0
  replace tq1 : (z.wR a0 1 (some q1)).ty q1 = 101 := tq1
  replace Ra0_1 : (z.wR a0 1 (some q1)).R a0 1 = some q1 := h_up_eq
  obtain ⟨z, ez⟩ : ∃ z1 : tZ, z1 = (z.wR a0 1 (some q1)) := ⟨_, rfl⟩
  rw [← ez] at g hI hR hZ hQ t_a0 t_p0 tq1 Ra0_1
  clear ez
  replace hF : h_F [] z I0 I0 := h_F.rf
  refine lv_aload_n hx hb dX0_init_13 rfl (lv_at hl 0 rfl) ?_
  refine lv_bipush (v := 8) hx hb dX0_init_14 (by decide) ?_
  refine lv_bipush (v := 10) hx hb dX0_init_16 (by decide) ?_
  replace hZ := hZ.tcall hF rfl
  replace hQ := hQ.tc hF rfl
  refine h_newG (N := 8) (M := 10) hx hb hown (hts (.classLink RX0 17 "[[I") (by decide +kernel)) hE.2.2.2.2 (hts (.arrayClass .int) (by decide +kernel)) g hA so_104 so_154 (by decide) (by decide) (by decide) (by decide) (by decide) (by decide) (Nat.le_of_ble_eq_true rfl) (Nat.le_of_ble_eq_true rfl) dX0_init_18 (fun q2 H locs hq0 g => ?_)
  have n_q2 := hZ.fresh (hq0 q2 (Nat.le_refl _) (Nat.le_add_right _ _)) (fun h => h_neq t_a0 (by decide) (hq0 q2 (Nat.le_refl _) (Nat.le_add_right _ _)) (Option.some.inj h).symm)
  replace hu_q2 := hQ.1.ug (q := q2) (t := 104) (tr := 154) hq0
  replace hQ := hQ.nwg (q := q2) (t := 104) (tr := 154) (N := 8) hq0 (by decide) (by decide)
  replace hI := hI.nwg (q := q2) (t := 104) (tr := 154) (N := 8)
  replace hR := hR.nwg (q := q2) (t := 104) (tr := 154) (N := 8) hq0 (fun k t2 n2 h => by have e9 : some (154, false) = some (t2, n2) := h; cases e9; rfl) rfl (fun _ => rfl)
  replace hZ := hZ.nwg (q := q2) (t := 104) (tr := 154) (N := 8) hq0
  replace hz : h_rows I0 q2 8 a0 = (fun _ => 0) := (h_rows_n (fun h => h_neq t_a0 (by decide) (hq0 a0 h.1 h.2) rfl)).trans hz
  replace Ra0_1 := h_ngr (t := 104) (tr := 154) hq0 t_a0 (by decide) Ra0_1
  replace t_a0 := h_ngk (t := 104) (tr := 154) hq0 t_a0 (by decide)
  replace t_p0 := h_ngk (t := 104) (tr := 154) hq0 t_p0 (by decide)
  replace tq1 := h_ngk (t := 104) (tr := 154) hq0 tq1 (by decide)
  replace tq2 : (z.nwg q2 104 154 8).ty q2 = 104 := ng_te
  obtain ⟨z, ez⟩ : ∃ z1 : tZ, z1 = (z.nwg q2 104 154 8) := ⟨_, rfl⟩
  rw [← ez] at g hI hR hZ hQ hu_q2 t_a0 t_p0 tq1 tq2 Ra0_1
  clear ez
  obtain ⟨I0, eI⟩ : ∃ J : tI, J = h_rows I0 q2 8 := ⟨_, rfl⟩
  rw [← eI] at g hI hZ hQ hz
  clear eI
  replace hF : h_F [] z I0 I0 := h_F.rf
  refine W.cs (cells' := 10) (slots' := 148) rfl rfl ?_
  replace hZ := hZ.tcall hF rfl
  replace hQ := hQ.tc hF rfl
  refine h_putR (ty := tyX0 4) (v := q2) hx hb hts iX0 tyX0 tyX0_ok nmX0 hown g t_a0 (by decide) so_50 rfl 4 (by decide) rfl (hts (.fieldLink RX0 19 "CapLeague$Books" "dead" "[[I") (by decide +kernel)) rfl rfl hin rfl (by decide +kernel) rfl rfl dX0_init_22 (fun H locs g => ?_)
  replace hQ := hQ.wR (a := a0) (k := 4) (v := q2) t_a0 (by decide) tq2 (by decide) (fun h9 => ⟨hu_q2, n_q2⟩)
  replace hR := hR.wR (k0 := 4) (v := some q2) t_a0 (fun _ => rfl)
  replace hZ := hZ.wR (a := a0) (k := 4) (v := some q2) (Or.inl rfl)
  replace hI : h_I (z.wR a0 4 (some q2)) I0 := hI
  replace t_a0 : (z.wR a0 4 (some q2)).ty a0 = 50 := t_a0
  replace t_p0 : (z.wR a0 4 (some q2)).ty p0 = 4 := t_p0
  replace tq1 : (z.wR a0 4 (some q2)).ty q1 = 101 := tq1
  replace tq2 : (z.wR a0 4 (some q2)).ty q2 = 104 := tq2
  replace Ra0_1 : (z.wR a0 4 (some q2)).R a0 1 = some q1 := (h_up_at (by decide)).trans Ra0_1
  replace Ra0_4 : (z.wR a0 4 (some q2)).R a0 4 = some q2 := h_up_eq
  obtain ⟨z, ez⟩ : ∃ z1 : tZ, z1 = (z.wR a0 4 (some q2)) := ⟨_, rfl⟩
  rw [← ez] at g hI hR hZ hQ t_a0 t_p0 tq1 tq2 Ra0_1 Ra0_4
  clear ez
  replace hF : h_F [] z I0 I0 := h_F.rf
  refine lv_aload_n hx hb dX0_init_25 rfl (lv_at hl 0 rfl) ?_
  refine lv_bipush (v := 8) hx hb dX0_init_26 (by decide) ?_
  replace hZ := hZ.tcall hF rfl
  replace hQ := hQ.tc hF rfl
  refine h_newZ hx hb (hts (.arrayClass .boolean) (by decide +kernel)) g hA so_105 (by decide) (by decide) (by decide) (Nat.le_of_ble_eq_true rfl) (Nat.le_of_ble_eq_true rfl) dX0_init_28 (fun q3 H hq0 g => ?_)
  have n_q3 := hZ.fresh hq0 (fun h => h_neq t_a0 (by decide) hq0 (Option.some.inj h).symm)
  replace hu_q3 := hQ.1.u (q := q3) (t := 105) hq0
  replace hQ := hQ.nw (q := q3) (t := 105) hq0 (by decide)
  replace hI := hI.nw (q := q3) (t := 105) (f := fun _ => none)
  replace hR := hR.nw (q := q3) (t := 105) (f := fun _ => none) hq0 (fun k t2 n2 h => by cases (show (none : Option (Nat × Bool)) = some (t2, n2) from h))
  replace hZ := hZ.nw (q := q3) (t := 105) (f := fun _ => none) hq0 (L2 := L0) (fun _ _ => rfl)
  replace hz : h_row I0 q3 (fun _ => 0) a0 = (fun _ => 0) := (h_row_n (h_neq t_a0 (by decide) hq0)).trans hz
  replace Ra0_1 := h_nwr (q := q3) (t := 105) (f := fun _ => none) hq0 t_a0 (by decide) Ra0_1
  replace Ra0_4 := h_nwr (q := q3) (t := 105) (f := fun _ => none) hq0 t_a0 (by decide) Ra0_4
  replace t_a0 := h_nwk (q := q3) (t := 105) (f := fun _ => none) hq0 t_a0 (by decide)
  replace t_p0 := h_nwk (q := q3) (t := 105) (f := fun _ => none) hq0 t_p0 (by decide)
  replace tq1 := h_nwk (q := q3) (t := 105) (f := fun _ => none) hq0 tq1 (by decide)
  replace tq2 := h_nwk (q := q3) (t := 105) (f := fun _ => none) hq0 tq2 (by decide)
  replace tq3 : (z.nw q3 105 (fun _ => none)).ty q3 = 105 := nw_te
  obtain ⟨z, ez⟩ : ∃ z1 : tZ, z1 = (z.nw q3 105 (fun _ => none)) := ⟨_, rfl⟩
  rw [← ez] at g hI hR hZ hQ hu_q3 t_a0 t_p0 tq1 tq2 tq3 Ra0_1 Ra0_4
  clear ez
  obtain ⟨I0, eI⟩ : ∃ J : tI, J = h_row I0 q3 (fun _ => 0) := ⟨_, rfl⟩
  rw [← eI] at g hI hZ hQ hz
  clear eI
  replace hF : h_F [] z I0 I0 := h_F.rf
  refine W.cs (cells' := 11) (slots' := 156) rfl rfl ?_
  replace hZ := hZ.tcall hF rfl
  replace hQ := hQ.tc hF rfl
  refine h_putR (ty := tyX0 5) (v := q3) hx hb hts iX0 tyX0 tyX0_ok nmX0 hown g t_a0 (by decide) so_50 rfl 5 (by decide) rfl (hts (.fieldLink RX0 22 "CapLeague$Books" "spareUsed" "[Z") (by decide +kernel)) rfl rfl hin rfl (by decide +kernel) rfl rfl dX0_init_30 (fun H locs g => ?_)
  replace hQ := hQ.wR (a := a0) (k := 5) (v := q3) t_a0 (by decide) tq3 (by decide) (fun h9 => ⟨hu_q3, n_q3⟩)
  replace hR := hR.wR (k0 := 5) (v := some q3) t_a0 (fun _ => rfl)
  replace hZ := hZ.wR (a := a0) (k := 5) (v := some q3) (Or.inl rfl)
  replace hI : h_I (z.wR a0 5 (some q3)) I0 := hI
  replace t_a0 : (z.wR a0 5 (some q3)).ty a0 = 50 := t_a0
  replace t_p0 : (z.wR a0 5 (some q3)).ty p0 = 4 := t_p0
  replace tq1 : (z.wR a0 5 (some q3)).ty q1 = 101 := tq1
  replace tq2 : (z.wR a0 5 (some q3)).ty q2 = 104 := tq2
  replace tq3 : (z.wR a0 5 (some q3)).ty q3 = 105 := tq3
  replace Ra0_1 : (z.wR a0 5 (some q3)).R a0 1 = some q1 := (h_up_at (by decide)).trans Ra0_1
  replace Ra0_4 : (z.wR a0 5 (some q3)).R a0 4 = some q2 := (h_up_at (by decide)).trans Ra0_4
  replace Ra0_5 : (z.wR a0 5 (some q3)).R a0 5 = some q3 := h_up_eq
  obtain ⟨z, ez⟩ : ∃ z1 : tZ, z1 = (z.wR a0 5 (some q3)) := ⟨_, rfl⟩
  rw [← ez] at g hI hR hZ hQ t_a0 t_p0 tq1 tq2 tq3 Ra0_1 Ra0_4 Ra0_5
  clear ez
  replace hF : h_F [] z I0 I0 := h_F.rf
  refine lv_aload_n hx hb dX0_init_33 rfl (lv_at hl 0 rfl) ?_
  refine lv_bipush (v := 8) hx hb dX0_init_34 (by decide) ?_
  replace hZ := hZ.tcall hF rfl
  replace hQ := hQ.tc hF rfl
  refine h_newI hx hb (hts (.arrayClass .int) (by decide +kernel)) g hA so_106 (by decide) (by decide) (by decide) (Nat.le_of_ble_eq_true rfl) (Nat.le_of_ble_eq_true rfl) dX0_init_36 (fun q4 H hq0 g => ?_)
  have n_q4 := hZ.fresh hq0 (fun h => h_neq t_a0 (by decide) hq0 (Option.some.inj h).symm)
  replace hu_q4 := hQ.1.u (q := q4) (t := 106) hq0
  replace hQ := hQ.nw (q := q4) (t := 106) hq0 (by decide)
  replace hI := hI.nw (q := q4) (t := 106) (f := fun _ => none)
  replace hR := hR.nw (q := q4) (t := 106) (f := fun _ => none) hq0 (fun k t2 n2 h => by cases (show (none : Option (Nat × Bool)) = some (t2, n2) from h))
  replace hZ := hZ.nw (q := q4) (t := 106) (f := fun _ => none) hq0 (L2 := L0) (fun _ _ => rfl)
  replace hz : h_row I0 q4 (fun _ => 0) a0 = (fun _ => 0) := (h_row_n (h_neq t_a0 (by decide) hq0)).trans hz
  replace Ra0_1 := h_nwr (q := q4) (t := 106) (f := fun _ => none) hq0 t_a0 (by decide) Ra0_1
  replace Ra0_4 := h_nwr (q := q4) (t := 106) (f := fun _ => none) hq0 t_a0 (by decide) Ra0_4
  replace Ra0_5 := h_nwr (q := q4) (t := 106) (f := fun _ => none) hq0 t_a0 (by decide) Ra0_5
  replace t_a0 := h_nwk (q := q4) (t := 106) (f := fun _ => none) hq0 t_a0 (by decide)
  replace t_p0 := h_nwk (q := q4) (t := 106) (f := fun _ => none) hq0 t_p0 (by decide)
  replace tq1 := h_nwk (q := q4) (t := 106) (f := fun _ => none) hq0 tq1 (by decide)
  replace tq2 := h_nwk (q := q4) (t := 106) (f := fun _ => none) hq0 tq2 (by decide)
  replace tq3 := h_nwk (q := q4) (t := 106) (f := fun _ => none) hq0 tq3 (by decide)
  replace tq4 : (z.nw q4 106 (fun _ => none)).ty q4 = 106 := nw_te
  obtain ⟨z, ez⟩ : ∃ z1 : tZ, z1 = (z.nw q4 106 (fun _ => none)) := ⟨_, rfl⟩
  rw [← ez] at g hI hR hZ hQ hu_q4 t_a0 t_p0 tq1 tq2 tq3 tq4 Ra0_1 Ra0_4 Ra0_5
  clear ez
  obtain ⟨I0, eI⟩ : ∃ J : tI, J = h_row I0 q4 (fun _ => 0) := ⟨_, rfl⟩
  rw [← eI] at g hI hZ hQ hz
  clear eI
  replace hF : h_F [] z I0 I0 := h_F.rf
  refine W.cs (cells' := 12) (slots' := 164) rfl rfl ?_
  replace hZ := hZ.tcall hF rfl
  replace hQ := hQ.tc hF rfl
  refine h_putR (ty := tyX0 6) (v := q4) hx hb hts iX0 tyX0 tyX0_ok nmX0 hown g t_a0 (by decide) so_50 rfl 6 (by decide) rfl (hts (.fieldLink RX0 26 "CapLeague$Books" "fines" "[I") (by decide +kernel)) rfl rfl hin rfl (by decide +kernel) rfl rfl dX0_init_38 (fun H locs g => ?_)
  replace hQ := hQ.wR (a := a0) (k := 6) (v := q4) t_a0 (by decide) tq4 (by decide) (fun h9 => ⟨hu_q4, n_q4⟩)
  replace hR := hR.wR (k0 := 6) (v := some q4) t_a0 (fun _ => rfl)
  replace hZ := hZ.wR (a := a0) (k := 6) (v := some q4) (Or.inl rfl)
  replace hI : h_I (z.wR a0 6 (some q4)) I0 := hI
  replace t_a0 : (z.wR a0 6 (some q4)).ty a0 = 50 := t_a0
  replace t_p0 : (z.wR a0 6 (some q4)).ty p0 = 4 := t_p0
  replace tq1 : (z.wR a0 6 (some q4)).ty q1 = 101 := tq1
  replace tq2 : (z.wR a0 6 (some q4)).ty q2 = 104 := tq2
  replace tq3 : (z.wR a0 6 (some q4)).ty q3 = 105 := tq3
  replace tq4 : (z.wR a0 6 (some q4)).ty q4 = 106 := tq4
  replace Ra0_1 : (z.wR a0 6 (some q4)).R a0 1 = some q1 := (h_up_at (by decide)).trans Ra0_1
  replace Ra0_4 : (z.wR a0 6 (some q4)).R a0 4 = some q2 := (h_up_at (by decide)).trans Ra0_4
  replace Ra0_5 : (z.wR a0 6 (some q4)).R a0 5 = some q3 := (h_up_at (by decide)).trans Ra0_5
  replace Ra0_6 : (z.wR a0 6 (some q4)).R a0 6 = some q4 := h_up_eq
  obtain ⟨z, ez⟩ : ∃ z1 : tZ, z1 = (z.wR a0 6 (some q4)) := ⟨_, rfl⟩
  rw [← ez] at g hI hR hZ hQ t_a0 t_p0 tq1 tq2 tq3 tq4 Ra0_1 Ra0_4 Ra0_5 Ra0_6
  clear ez
  replace hF : h_F [] z I0 I0 := h_F.rf
  refine lv_aload_n hx hb dX0_init_41 rfl (lv_at hl 0 rfl) ?_
  refine lv_bipush (v := 8) hx hb dX0_init_42 (by decide) ?_
  replace hZ := hZ.tcall hF rfl
  replace hQ := hQ.tc hF rfl
  refine h_newI hx hb (hts (.arrayClass .int) (by decide +kernel)) g hA so_108 (by decide) (by decide) (by decide) (Nat.le_of_ble_eq_true rfl) (Nat.le_of_ble_eq_true rfl) dX0_init_44 (fun q5 H hq0 g => ?_)
  have n_q5 := hZ.fresh hq0 (fun h => h_neq t_a0 (by decide) hq0 (Option.some.inj h).symm)
  replace hu_q5 := hQ.1.u (q := q5) (t := 108) hq0
  replace hQ := hQ.nw (q := q5) (t := 108) hq0 (by decide)
  replace hI := hI.nw (q := q5) (t := 108) (f := fun _ => none)
  replace hR := hR.nw (q := q5) (t := 108) (f := fun _ => none) hq0 (fun k t2 n2 h => by cases (show (none : Option (Nat × Bool)) = some (t2, n2) from h))
  replace hZ := hZ.nw (q := q5) (t := 108) (f := fun _ => none) hq0 (L2 := L0) (fun _ _ => rfl)
  replace hz : h_row I0 q5 (fun _ => 0) a0 = (fun _ => 0) := (h_row_n (h_neq t_a0 (by decide) hq0)).trans hz
  replace Ra0_1 := h_nwr (q := q5) (t := 108) (f := fun _ => none) hq0 t_a0 (by decide) Ra0_1
  replace Ra0_4 := h_nwr (q := q5) (t := 108) (f := fun _ => none) hq0 t_a0 (by decide) Ra0_4
  replace Ra0_5 := h_nwr (q := q5) (t := 108) (f := fun _ => none) hq0 t_a0 (by decide) Ra0_5
  replace Ra0_6 := h_nwr (q := q5) (t := 108) (f := fun _ => none) hq0 t_a0 (by decide) Ra0_6
  replace t_a0 := h_nwk (q := q5) (t := 108) (f := fun _ => none) hq0 t_a0 (by decide)
  replace t_p0 := h_nwk (q := q5) (t := 108) (f := fun _ => none) hq0 t_p0 (by decide)
  replace tq1 := h_nwk (q := q5) (t := 108) (f := fun _ => none) hq0 tq1 (by decide)
  replace tq2 := h_nwk (q := q5) (t := 108) (f := fun _ => none) hq0 tq2 (by decide)
  replace tq3 := h_nwk (q := q5) (t := 108) (f := fun _ => none) hq0 tq3 (by decide)
  replace tq4 := h_nwk (q := q5) (t := 108) (f := fun _ => none) hq0 tq4 (by decide)
  replace tq5 : (z.nw q5 108 (fun _ => none)).ty q5 = 108 := nw_te
  obtain ⟨z, ez⟩ : ∃ z1 : tZ, z1 = (z.nw q5 108 (fun _ => none)) := ⟨_, rfl⟩
  rw [← ez] at g hI hR hZ hQ hu_q5 t_a0 t_p0 tq1 tq2 tq3 tq4 tq5 Ra0_1 Ra0_4 Ra0_5 Ra0_6
  clear ez
  obtain ⟨I0, eI⟩ : ∃ J : tI, J = h_row I0 q5 (fun _ => 0) := ⟨_, rfl⟩
  rw [← eI] at g hI hZ hQ hz
  clear eI
  replace hF : h_F [] z I0 I0 := h_F.rf
  refine W.cs (cells' := 13) (slots' := 172) rfl rfl ?_
  replace hZ := hZ.tcall hF rfl
  replace hQ := hQ.tc hF rfl
  refine h_putR (ty := tyX0 8) (v := q5) hx hb hts iX0 tyX0 tyX0_ok nmX0 hown g t_a0 (by decide) so_50 rfl 8 (by decide) rfl (hts (.fieldLink RX0 30 "CapLeague$Books" "aboveCap" "[I") (by decide +kernel)) rfl rfl hin rfl (by decide +kernel) rfl rfl dX0_init_46 (fun H locs g => ?_)
  replace hQ := hQ.wR (a := a0) (k := 8) (v := q5) t_a0 (by decide) tq5 (by decide) (fun h9 => ⟨hu_q5, n_q5⟩)
  replace hR := hR.wR (k0 := 8) (v := some q5) t_a0 (fun _ => rfl)
  replace hZ := hZ.wR (a := a0) (k := 8) (v := some q5) (Or.inl rfl)
  replace hI : h_I (z.wR a0 8 (some q5)) I0 := hI
  replace t_a0 : (z.wR a0 8 (some q5)).ty a0 = 50 := t_a0
  replace t_p0 : (z.wR a0 8 (some q5)).ty p0 = 4 := t_p0
  replace tq1 : (z.wR a0 8 (some q5)).ty q1 = 101 := tq1
  replace tq2 : (z.wR a0 8 (some q5)).ty q2 = 104 := tq2
  replace tq3 : (z.wR a0 8 (some q5)).ty q3 = 105 := tq3
  replace tq4 : (z.wR a0 8 (some q5)).ty q4 = 106 := tq4
  replace tq5 : (z.wR a0 8 (some q5)).ty q5 = 108 := tq5
  replace Ra0_1 : (z.wR a0 8 (some q5)).R a0 1 = some q1 := (h_up_at (by decide)).trans Ra0_1
  replace Ra0_4 : (z.wR a0 8 (some q5)).R a0 4 = some q2 := (h_up_at (by decide)).trans Ra0_4
  replace Ra0_5 : (z.wR a0 8 (some q5)).R a0 5 = some q3 := (h_up_at (by decide)).trans Ra0_5
  replace Ra0_6 : (z.wR a0 8 (some q5)).R a0 6 = some q4 := (h_up_at (by decide)).trans Ra0_6
  replace Ra0_8 : (z.wR a0 8 (some q5)).R a0 8 = some q5 := h_up_eq
  obtain ⟨z, ez⟩ : ∃ z1 : tZ, z1 = (z.wR a0 8 (some q5)) := ⟨_, rfl⟩
  rw [← ez] at g hI hR hZ hQ t_a0 t_p0 tq1 tq2 tq3 tq4 tq5 Ra0_1 Ra0_4 Ra0_5 Ra0_6 Ra0_8
  clear ez
  replace hF : h_F [] z I0 I0 := h_F.rf
  refine lv_aload_n hx hb dX0_init_49 rfl (lv_at hl 0 rfl) ?_
  refine lv_aload_n hx hb dX0_init_50 rfl (lv_at hl 1 rfl) ?_
  replace hZ := hZ.tcall hF rfl
  replace hQ := hQ.tc hF rfl
  refine h_putR (ty := tyX0 0) (v := p0) hx hb hts iX0 tyX0 tyX0_ok nmX0 hown g t_a0 (by decide) so_50 rfl 0 (by decide) rfl (hts (.fieldLink RX0 33 "CapLeague$Books" "lawBook" "LCapLeague$LawBook;") (by decide +kernel)) rfl rfl hin rfl (by decide +kernel) rfl rfl dX0_init_51 (fun H locs g => ?_)
  replace hQ := hQ.wR (a := a0) (k := 0) (v := p0) t_a0 (by decide) t_p0 (by decide) (fun h9 => absurd h9 (by decide))
  replace hR := hR.wR (k0 := 0) (v := some p0) t_a0 (fun _ => rfl)
  replace hZ := hZ.wR (a := a0) (k := 0) (v := some p0) (Or.inl rfl)
  replace hI : h_I (z.wR a0 0 (some p0)) I0 := hI
  replace t_a0 : (z.wR a0 0 (some p0)).ty a0 = 50 := t_a0
  replace t_p0 : (z.wR a0 0 (some p0)).ty p0 = 4 := t_p0
  replace tq1 : (z.wR a0 0 (some p0)).ty q1 = 101 := tq1
  replace tq2 : (z.wR a0 0 (some p0)).ty q2 = 104 := tq2
  replace tq3 : (z.wR a0 0 (some p0)).ty q3 = 105 := tq3
  replace tq4 : (z.wR a0 0 (some p0)).ty q4 = 106 := tq4
  replace tq5 : (z.wR a0 0 (some p0)).ty q5 = 108 := tq5
  replace Ra0_1 : (z.wR a0 0 (some p0)).R a0 1 = some q1 := (h_up_at (by decide)).trans Ra0_1
  replace Ra0_4 : (z.wR a0 0 (some p0)).R a0 4 = some q2 := (h_up_at (by decide)).trans Ra0_4
  replace Ra0_5 : (z.wR a0 0 (some p0)).R a0 5 = some q3 := (h_up_at (by decide)).trans Ra0_5
  replace Ra0_6 : (z.wR a0 0 (some p0)).R a0 6 = some q4 := (h_up_at (by decide)).trans Ra0_6
  replace Ra0_8 : (z.wR a0 0 (some p0)).R a0 8 = some q5 := (h_up_at (by decide)).trans Ra0_8
  replace Ra0_0 : (z.wR a0 0 (some p0)).R a0 0 = some p0 := h_up_eq
  obtain ⟨z, ez⟩ : ∃ z1 : tZ, z1 = (z.wR a0 0 (some p0)) := ⟨_, rfl⟩
  rw [← ez] at g hI hR hZ hQ t_a0 t_p0 tq1 tq2 tq3 tq4 tq5 Ra0_1 Ra0_4 Ra0_5 Ra0_6 Ra0_8 Ra0_0
  clear ez
  replace hF : h_F [] z I0 I0 := h_F.rf
  replace hZ := hZ.tcall hF rfl
  replace hQ := hQ.tc hF rfl
  have g := g.rt (a := a0) (t := 1) (by rw [t_a0]; decide) (by rw [t_a0]; rfl)
  replace hI := hI.rt (a := a0) (t := 1) (fun k => by
      rw [hz]
      exact h_bd0 1 k)
  replace hR := hR.rt (t := 1) t_a0 (by decide) (by decide) (fun k t2 n2 h hk => by
      have hk9 : k < 9 := hk
      rcases (show k = 0 ∨ k = 1 ∨ k = 2 ∨ k = 3 ∨ k = 4 ∨ k = 5 ∨ k = 6 ∨ k = 7 ∨ k = 8 by omega) with rfl | rfl | rfl | rfl | rfl | rfl | rfl | rfl | rfl
      · have e9 : some (4, false) = some (t2, n2) := h
        cases e9
        exact ⟨p0, Ra0_0, t_p0⟩
      · have e9 : some (101, false) = some (t2, n2) := h
        cases e9
        exact ⟨q1, Ra0_1, tq1⟩
      · cases (show (none : Option (Nat × Bool)) = some (t2, n2) from h)
      · cases (show (none : Option (Nat × Bool)) = some (t2, n2) from h)
      · have e9 : some (104, false) = some (t2, n2) := h
        cases e9
        exact ⟨q2, Ra0_4, tq2⟩
      · have e9 : some (105, false) = some (t2, n2) := h
        cases e9
        exact ⟨q3, Ra0_5, tq3⟩
      · have e9 : some (106, false) = some (t2, n2) := h
        cases e9
        exact ⟨q4, Ra0_6, tq4⟩
      · cases (show (none : Option (Nat × Bool)) = some (t2, n2) from h)
      · have e9 : some (108, false) = some (t2, n2) := h
        cases e9
        exact ⟨q5, Ra0_8, tq5⟩)
  replace hZ := hZ.rt (a := a0) (t := 1) (Or.inl rfl)
  replace hQ := hQ.rt (a := a0) (t := 1) t_a0 (by decide) (by decide) rfl rfl
  replace t_p0 := h_rtk (t := 1) t_p0 t_a0 (by decide)
  replace tq1 := h_rtk (t := 1) tq1 t_a0 (by decide)
  replace tq2 := h_rtk (t := 1) tq2 t_a0 (by decide)
  replace tq3 := h_rtk (t := 1) tq3 t_a0 (by decide)
  replace tq4 := h_rtk (t := 1) tq4 t_a0 (by decide)
  replace tq5 := h_rtk (t := 1) tq5 t_a0 (by decide)
  replace t_a0 : (z.rt a0 1).ty a0 = 1 := rt_e
  replace Ra0_1 : (z.rt a0 1).R a0 1 = some q1 := Ra0_1
  replace Ra0_4 : (z.rt a0 1).R a0 4 = some q2 := Ra0_4
  replace Ra0_5 : (z.rt a0 1).R a0 5 = some q3 := Ra0_5
  replace Ra0_6 : (z.rt a0 1).R a0 6 = some q4 := Ra0_6
  replace Ra0_8 : (z.rt a0 1).R a0 8 = some q5 := Ra0_8
  replace Ra0_0 : (z.rt a0 1).R a0 0 = some p0 := Ra0_0
  obtain ⟨z, ez⟩ : ∃ z1 : tZ, z1 = (z.rt a0 1) := ⟨_, rfl⟩
  rw [← ez] at g hI hR hZ hQ t_a0 t_p0 tq1 tq2 tq3 tq4 tq5 Ra0_1 Ra0_4 Ra0_5 Ra0_6 Ra0_8 Ra0_0
  clear ez
  replace hF : h_F [] z I0 I0 := h_F.rf
  have rq1 := Ra0_1
  have rq2 := Ra0_4
  have rq3 := Ra0_5
  have rq4 := Ra0_6
  have rq5 := Ra0_8
  have rp0 := Ra0_0
  replace hZ := hZ.tcall hF rfl
  replace hQ := hQ.tc hF rfl
  replace hS := g.2.1
  exact W.vret hx hb hr (fun t ht hW => ⟨⟨(z, I0, L0), rfl, ⟨hI, hR, hZ, hQ, t_a0, ⟨(fun k => by show I0 a0 k = 0; rw [hz]), (by show z.R a0 0 = some p0; exact Ra0_0)⟩⟩, h_ret g ht⟩, hS.F ht⟩) hS.2.2 dX0_init_54
set_option maxHeartbeats 4000000 in
set_option maxRecDepth 100000 in
theorem zX9_initF (l : Launch) (E : tE) (X : tX) (A : Nat → Prop) (z0 : tZ) (J0 : tI) (K0 : tL) (a0 : Nat) (t_a0 : z0.ty a0 = 59) (p0 : Nat) (t_p0 : z0.ty p0 = 1) (p1 : Nat) (t_p1 : z0.ty p1 = 11) (h_z0 : J0 a0 = fun _ => 0) (hU : h_U z0) : Met l yX9_init wsX9_init ({ frames := 2, cells := 6, slots := 64, locals := 128 }) (va_Pc [.ref a0, .ref p0, .ref p1] (h_P E X A z0 J0 K0)) (va_Qv (fun (q1 : tZ × tI × tL) => h_I q1.1 q1.2.1 ∧ h_R q1.1 ∧ h_X [] [] (some a0) z0 J0 K0 q1.1 q1.2.1 q1.2.2 ∧ h_Q [] (some a0) z0 q1.1 q1.2.1 ∧ q1.1.ty a0 = 10 ∧ (q1.1.R a0 0 = some p0) ∧ (q1.1.R a0 1 = some p1)) (fun (q1 : tZ × tI × tL) t => h_B E A q1.1 q1.2.1 q1.2.2 t) A) 6 64 A := by
  refine Met.ofW (cc := cX9_init) (maxL := 3) (ret := none) (by decide) rfl ?_
  intro pr_ ev_ s m args below meth cd_ s₁ B hml hv
  obtain ⟨rfl, hE, hk, hX, hA, hK, hI, hR, hB0⟩ := hv
  obtain ⟨z, ez0⟩ : ∃ z : tZ, z = z0 := ⟨_, rfl⟩
  obtain ⟨I0, eJ0⟩ : ∃ I0 : tI, I0 = J0 := ⟨_, rfl⟩
  obtain ⟨L0, eK0⟩ : ∃ L0 : tL, L0 = K0 := ⟨_, rfl⟩
  rw [← ez0, ← eJ0] at hI
  rw [← ez0] at hR t_a0 t_p0 t_p1
  rw [← ez0, ← eJ0, ← eK0] at hB0
  rw [← eJ0] at h_z0
  have g : h_G h_so h_fk E A z I0 L0 s s.heap s.heap [] := ⟨hK, va_S.rf, hB0⟩
  replace hF : h_F [] z I0 I0 := h_F.rf
  have hx := B.exec
  have hb := B.bytes
  have hr := B.returns
  have hts := atoms_spec (ws := wsX9_init) B.pre
  have hown : s.vm.findClass RX9 = some m.cls := findClass_of_methodNamed B.named
  have hlocks := B.notSynchronized
  have iX1 : ∀ w ∈ u_ws RX1 TX1 4, w ∈ wsX9_init := by decide +kernel
  have iX9 : ∀ w ∈ u_ws RX9 TX9 10, w ∈ wsX9_init := by decide +kernel
  have hl := lv_entry ([.ref a0, .ref p0, .ref p1]) (n := 3) (Nat.le_of_ble_eq_true rfl)
  rw [lg_entry_eq]
  generalize (lg_sl ([.ref a0, .ref p0, .ref p1]) ++ List.replicate (3 - (lg_sl ([.ref a0, .ref p0, .ref p1])).length) Slot.unset).toArray = ls at hl ⊢
  have hl : lv_has ls 3 [(0, .ref a0), (1, .ref p0), (2, .ref p1)] := hl
  have hin : meth.name = "<init>" := (name_of_methodNamed B.named B.method).1
  replace hZ : h_X [] [] (some a0) z0 J0 K0 z I0 L0 := by rw [ez0, eJ0, eK0]; exact h_X.rf
  replace hz : I0 a0 = (fun _ => 0) := h_z0
  replace hQ : h_Q [] (some a0) z0 z I0 := by rw [ez0]; exact h_Q.rf hU (fun b hb => by cases hb; exact h_z0)
  refine lv_aload_n hx hb dX9_init_0 rfl (lv_at hl 0 rfl) ?_
  refine W.objInit hx hb hown (hts (.methodLink RX9 3 objectInit) (by decide +kernel)) (hts (.instanceMethod objectInit) (by decide +kernel)) (hts (.code objectInit ⟨#[0xb1]⟩ 1 none) (List.mem_of_getElem? (i := 3) rfl)) rfl (by rw [hml]; exact hl.1) rfl dX9_init_1 (Nat.le_of_ble_eq_true rfl) (Nat.le_of_ble_eq_true rfl) ?_
  refine W.eq (g2 := F0 m 4 ls []) rfl ?_
  refine lv_aload_n hx hb dX9_init_4 rfl (lv_at hl 0 rfl) ?_
  replace hZ := hZ.tcall hF rfl
  replace hQ := hQ.tc hF rfl
  refine h_newO (C := RX1) (T := TX1) (N := 4) (ci := 1) hx hb hts iX1 tyX1 tyX1_ok hown (hts (.classLink RX9 9 RX1) (by decide +kernel)) (hts (.instantiable RX1 4) (by decide +kernel)) (hts (.initialized RX1) (by decide +kernel)) g hA rfl so_51 (fun j hj => by rcases (show j = 0 ∨ j = 1 ∨ j = 2 ∨ j = 3 by omega) with rfl | rfl | rfl | rfl <;> rfl) (Nat.le_of_ble_eq_true rfl) (Nat.le_of_ble_eq_true rfl) dX9_init_5 (fun q1 H hq0 g => ?_)
  have n_q1 := hZ.fresh hq0 (fun h => h_neq t_a0 (by decide) hq0 (Option.some.inj h).symm)
  replace hu_q1 := hQ.1.u (q := q1) (t := 51) hq0
  replace hQ := hQ.nw (q := q1) (t := 51) hq0 (by decide)
  replace hI := hI.nw (q := q1) (t := 51) (f := fun _ => none)
  replace hR := hR.nw (q := q1) (t := 51) (f := fun _ => none) hq0 (fun k t2 n2 h => by cases (show (none : Option (Nat × Bool)) = some (t2, n2) from h))
  replace hZ := hZ.nw (q := q1) (t := 51) (f := fun _ => none) hq0 (L2 := (h_rL L0 q1 (fun _ => 0))) (fun b hb => h_rL_n hb)
  replace hz : h_row I0 q1 (fun _ => 0) a0 = (fun _ => 0) := (h_row_n (h_neq t_a0 (by decide) hq0)).trans hz
  replace t_a0 := h_nwk (q := q1) (t := 51) (f := fun _ => none) hq0 t_a0 (by decide)
  replace t_p0 := h_nwk (q := q1) (t := 51) (f := fun _ => none) hq0 t_p0 (by decide)
  replace t_p1 := h_nwk (q := q1) (t := 51) (f := fun _ => none) hq0 t_p1 (by decide)
  replace tq1 : (z.nw q1 51 (fun _ => none)).ty q1 = 51 := nw_te
  have hzq1 : h_row I0 q1 (fun _ => 0) q1 = fun _ => 0 := h_row_e
  obtain ⟨z, ez⟩ : ∃ z1 : tZ, z1 = (z.nw q1 51 (fun _ => none)) := ⟨_, rfl⟩
  rw [← ez] at g hI hR hZ hQ hu_q1 t_a0 t_p0 t_p1 tq1 
  clear ez
  obtain ⟨I0, eI⟩ : ∃ J : tI, J = h_row I0 q1 (fun _ => 0) := ⟨_, rfl⟩
  rw [← eI] at g hI hZ hQ hz hzq1
  clear eI
  obtain ⟨L2, eL⟩ : ∃ J : tL, J = (h_rL L0 q1 (fun _ => 0)) := ⟨_, rfl⟩
  rw [← eL] at g hZ
  replace hF : h_F [] z I0 I0 := h_F.rf
  refine W.cs (cells' := 1) (slots' := 4) rfl rfl ?_
  refine lv_dup hx hb dX9_init_8 rfl ?_
  replace hZ := hZ.tcall hF rfl
  replace hQ := hQ.tc hF rfl
  refine va_callv (va_runIN (As := []) (rest := [.ref q1, .ref a0]) ⟨hx, hb, hml, hown, hts⟩ (zX1_init l E X A z I0 L2 q1 tq1 hzq1 hQ.1) (⟨va_cnB 0 hts gX9_init_X1_init_n11 rfl rfl rfl (hE.link 2 rfl) (hts (.initialized RX1) (by decide +kernel)) (by decide +kernel) ⟨Nat.le_of_ble_eq_true rfl, Nat.le_of_ble_eq_true rfl⟩, rfl, hts (.instanceMethod yX1_init) (by decide +kernel)⟩) ⟨h_blind _ _ _ _ _ _ _, h_pre _ hE hk hX hA hI hR g⟩ rfl rfl hl.1 rfl (lv_room (Nat.le_of_ble_eq_true rfl)) dX9_init_9 ⟨Nat.le_of_ble_eq_true rfl, Nat.le_of_ble_eq_true rfl⟩) g.2.1 (fun q _ h => h) (fun q h => h) (fun u t H1 locs ht hvm h3 hB hz1 hk1 hS => ?_)
  obtain ⟨z, I0, L4⟩ := u
  obtain ⟨hI, hR, xh3, qh3, tq1_, h3⟩ := h3
  replace hI : h_I z I0 := hI
  replace hR : h_R z := hR
  have hB : h_B E A z I0 L4 t := hB
  have xh3 : h_X [] [] (some q1) _ _ _ z I0 L4 := xh3
  have qh3 : h_Q [] (some q1) _ z I0 := qh3
  replace hQ := hQ.call xh3 qh3 rfl rfl
  replace hu_q1 := hu_q1.call qh3.2.1 tq1 (by decide)
  replace hZ := hZ.call xh3 rfl (fun t h9 => rfl) (fun b hb => Or.inr (by cases hb; exact n_q1))
  replace hz : I0 a0 = (fun _ => 0) := (funext (fun k => xh3.I t_a0 (by decide) (h_sne t_a0 tq1 (by decide)) rfl)).trans hz
  replace t_a0 := xh3.ty t_a0 (by decide) (h_sne t_a0 tq1 (by decide))
  replace t_p0 := xh3.ty t_p0 (by decide) (h_sne t_p0 tq1 (by decide))
  replace t_p1 := xh3.ty t_p1 (by decide) (h_sne t_p1 tq1 (by decide))
  replace tq1 : z.ty q1 = 2 := tq1_
  replace g := h_after g hB ht hS
  generalize H1 = H at g
  clear hB hk1 hz1 ht hvm hS
  replace hF : h_F [] z I0 I0 := h_F.rf
  replace hZ := hZ.tcall hF rfl
  replace hQ := hQ.tc hF rfl
  refine h_putR (ty := tyX9 2) (v := q1) hx hb hts iX9 tyX9 tyX9_ok nmX9 hown g t_a0 (by decide) so_59 rfl 2 (by decide) rfl (hts (.fieldLink RX9 12 "CapLeague$Trade" "change" "LCapLeague$Change;") (by decide +kernel)) rfl rfl hin rfl (by decide +kernel) rfl rfl dX9_init_12 (fun H locs g => ?_)
  replace hQ := hQ.wR (a := a0) (k := 2) (v := q1) t_a0 (by decide) tq1 (by decide) (fun h9 => ⟨hu_q1, n_q1⟩)
  replace hR := hR.wR (k0 := 2) (v := some q1) t_a0 (fun _ => rfl)
  replace hZ := hZ.wR (a := a0) (k := 2) (v := some q1) (Or.inl rfl)
  replace hI : h_I (z.wR a0 2 (some q1)) I0 := hI
  replace t_a0 : (z.wR a0 2 (some q1)).ty a0 = 59 := t_a0
  replace t_p0 : (z.wR a0 2 (some q1)).ty p0 = 1 := t_p0
  replace t_p1 : (z.wR a0 2 (some q1)).ty p1 = 11 := t_p1
  replace tq1 : (z.wR a0 2 (some q1)).ty q1 = 2 := tq1
  replace Ra0_2 : (z.wR a0 2 (some q1)).R a0 2 = some q1 := h_up_eq
  obtain ⟨z, ez⟩ : ∃ z1 : tZ, z1 = (z.wR a0 2 (some q1)) := ⟨_, rfl⟩
  rw [← ez] at g hI hR hZ hQ t_a0 t_p0 t_p1 tq1 Ra0_2
  clear ez
  replace hF : h_F [] z I0 I0 := h_F.rf
  refine lv_aload_n hx hb dX9_init_15 rfl (lv_at hl 0 rfl) ?_
  refine lv_bipush (v := 12) hx hb dX9_init_16 (by decide) ?_
  replace hZ := hZ.tcall hF rfl
  replace hQ := hQ.tc hF rfl
  refine h_newZ hx hb (hts (.arrayClass .boolean) (by decide +kernel)) g hA so_1005 (by decide) (by decide) (by decide) (Nat.le_of_ble_eq_true rfl) (Nat.le_of_ble_eq_true rfl) dX9_init_18 (fun q5 H hq0 g => ?_)
  have n_q5 := hZ.fresh hq0 (fun h => h_neq t_a0 (by decide) hq0 (Option.some.inj h).symm)
  replace hu_q5 := hQ.1.u (q := q5) (t := 1005) hq0
  replace hQ := hQ.nw (q := q5) (t := 1005) hq0 (by decide)
  replace hI := hI.nw (q := q5) (t := 1005) (f := fun _ => none)
  replace hR := hR.nw (q := q5) (t := 1005) (f := fun _ => none) hq0 (fun k t2 n2 h => by cases (show (none : Option (Nat × Bool)) = some (t2, n2) from h))
  replace hZ := hZ.nw (q := q5) (t := 1005) (f := fun _ => none) hq0 (L2 := L4) (fun _ _ => rfl)
  replace hz : h_row I0 q5 (fun _ => 0) a0 = (fun _ => 0) := (h_row_n (h_neq t_a0 (by decide) hq0)).trans hz
  replace Ra0_2 := h_nwr (q := q5) (t := 1005) (f := fun _ => none) hq0 t_a0 (by decide) Ra0_2
  replace t_a0 := h_nwk (q := q5) (t := 1005) (f := fun _ => none) hq0 t_a0 (by decide)
  replace t_p0 := h_nwk (q := q5) (t := 1005) (f := fun _ => none) hq0 t_p0 (by decide)
  replace t_p1 := h_nwk (q := q5) (t := 1005) (f := fun _ => none) hq0 t_p1 (by decide)
  replace tq1 := h_nwk (q := q5) (t := 1005) (f := fun _ => none) hq0 tq1 (by decide)
  replace tq5 : (z.nw q5 1005 (fun _ => none)).ty q5 = 1005 := nw_te
  obtain ⟨z, ez⟩ : ∃ z1 : tZ, z1 = (z.nw q5 1005 (fun _ => none)) := ⟨_, rfl⟩
  rw [← ez] at g hI hR hZ hQ hu_q5 t_a0 t_p0 t_p1 tq1 tq5 Ra0_2
  clear ez
  obtain ⟨I0, eI⟩ : ∃ J : tI, J = h_row I0 q5 (fun _ => 0) := ⟨_, rfl⟩
  rw [← eI] at g hI hZ hQ hz
  clear eI
  replace hF : h_F [] z I0 I0 := h_F.rf
  refine W.cs (cells' := 2) (slots' := 16) rfl rfl ?_
  replace hZ := hZ.tcall hF rfl
  replace hQ := hQ.tc hF rfl
  refine h_putR (ty := tyX9 5) (v := q5) hx hb hts iX9 tyX9 tyX9_ok nmX9 hown g t_a0 (by decide) so_59 rfl 5 (by decide) rfl (hts (.fieldLink RX9 18 "CapLeague$Trade" "isTurn" "[Z") (by decide +kernel)) rfl rfl hin rfl (by decide +kernel) rfl rfl dX9_init_20 (fun H locs g => ?_)
  replace hQ := hQ.wR (a := a0) (k := 5) (v := q5) t_a0 (by decide) tq5 (by decide) (fun h9 => ⟨hu_q5, n_q5⟩)
  replace hR := hR.wR (k0 := 5) (v := some q5) t_a0 (fun _ => rfl)
  replace hZ := hZ.wR (a := a0) (k := 5) (v := some q5) (Or.inl rfl)
  replace hI : h_I (z.wR a0 5 (some q5)) I0 := hI
  replace t_a0 : (z.wR a0 5 (some q5)).ty a0 = 59 := t_a0
  replace t_p0 : (z.wR a0 5 (some q5)).ty p0 = 1 := t_p0
  replace t_p1 : (z.wR a0 5 (some q5)).ty p1 = 11 := t_p1
  replace tq1 : (z.wR a0 5 (some q5)).ty q1 = 2 := tq1
  replace tq5 : (z.wR a0 5 (some q5)).ty q5 = 1005 := tq5
  replace Ra0_2 : (z.wR a0 5 (some q5)).R a0 2 = some q1 := (h_up_at (by decide)).trans Ra0_2
  replace Ra0_5 : (z.wR a0 5 (some q5)).R a0 5 = some q5 := h_up_eq
  obtain ⟨z, ez⟩ : ∃ z1 : tZ, z1 = (z.wR a0 5 (some q5)) := ⟨_, rfl⟩
  rw [← ez] at g hI hR hZ hQ t_a0 t_p0 t_p1 tq1 tq5 Ra0_2 Ra0_5
  clear ez
  replace hF : h_F [] z I0 I0 := h_F.rf
  refine lv_aload_n hx hb dX9_init_23 rfl (lv_at hl 0 rfl) ?_
  refine lv_bipush (v := 12) hx hb dX9_init_24 (by decide) ?_
  replace hZ := hZ.tcall hF rfl
  replace hQ := hQ.tc hF rfl
  refine h_newI hx hb (hts (.arrayClass .int) (by decide +kernel)) g hA so_1006 (by decide) (by decide) (by decide) (Nat.le_of_ble_eq_true rfl) (Nat.le_of_ble_eq_true rfl) dX9_init_26 (fun q6 H hq0 g => ?_)
  have n_q6 := hZ.fresh hq0 (fun h => h_neq t_a0 (by decide) hq0 (Option.some.inj h).symm)
  replace hu_q6 := hQ.1.u (q := q6) (t := 1006) hq0
  replace hQ := hQ.nw (q := q6) (t := 1006) hq0 (by decide)
  replace hI := hI.nw (q := q6) (t := 1006) (f := fun _ => none)
  replace hR := hR.nw (q := q6) (t := 1006) (f := fun _ => none) hq0 (fun k t2 n2 h => by cases (show (none : Option (Nat × Bool)) = some (t2, n2) from h))
  replace hZ := hZ.nw (q := q6) (t := 1006) (f := fun _ => none) hq0 (L2 := L4) (fun _ _ => rfl)
  replace hz : h_row I0 q6 (fun _ => 0) a0 = (fun _ => 0) := (h_row_n (h_neq t_a0 (by decide) hq0)).trans hz
  replace Ra0_2 := h_nwr (q := q6) (t := 1006) (f := fun _ => none) hq0 t_a0 (by decide) Ra0_2
  replace Ra0_5 := h_nwr (q := q6) (t := 1006) (f := fun _ => none) hq0 t_a0 (by decide) Ra0_5
  replace t_a0 := h_nwk (q := q6) (t := 1006) (f := fun _ => none) hq0 t_a0 (by decide)
  replace t_p0 := h_nwk (q := q6) (t := 1006) (f := fun _ => none) hq0 t_p0 (by decide)
  replace t_p1 := h_nwk (q := q6) (t := 1006) (f := fun _ => none) hq0 t_p1 (by decide)
  replace tq1 := h_nwk (q := q6) (t := 1006) (f := fun _ => none) hq0 tq1 (by decide)
  replace tq5 := h_nwk (q := q6) (t := 1006) (f := fun _ => none) hq0 tq5 (by decide)
  replace tq6 : (z.nw q6 1006 (fun _ => none)).ty q6 = 1006 := nw_te
  obtain ⟨z, ez⟩ : ∃ z1 : tZ, z1 = (z.nw q6 1006 (fun _ => none)) := ⟨_, rfl⟩
  rw [← ez] at g hI hR hZ hQ hu_q6 t_a0 t_p0 t_p1 tq1 tq5 tq6 Ra0_2 Ra0_5
  clear ez
  obtain ⟨I0, eI⟩ : ∃ J : tI, J = h_row I0 q6 (fun _ => 0) := ⟨_, rfl⟩
  rw [← eI] at g hI hZ hQ hz
  clear eI
  replace hF : h_F [] z I0 I0 := h_F.rf
  refine W.cs (cells' := 3) (slots' := 28) rfl rfl ?_
  replace hZ := hZ.tcall hF rfl
  replace hQ := hQ.tc hF rfl
  refine h_putR (ty := tyX9 6) (v := q6) hx hb hts iX9 tyX9 tyX9_ok nmX9 hown g t_a0 (by decide) so_59 rfl 6 (by decide) rfl (hts (.fieldLink RX9 22 "CapLeague$Trade" "thing" "[I") (by decide +kernel)) rfl rfl hin rfl (by decide +kernel) rfl rfl dX9_init_28 (fun H locs g => ?_)
  replace hQ := hQ.wR (a := a0) (k := 6) (v := q6) t_a0 (by decide) tq6 (by decide) (fun h9 => ⟨hu_q6, n_q6⟩)
  replace hR := hR.wR (k0 := 6) (v := some q6) t_a0 (fun _ => rfl)
  replace hZ := hZ.wR (a := a0) (k := 6) (v := some q6) (Or.inl rfl)
  replace hI : h_I (z.wR a0 6 (some q6)) I0 := hI
  replace t_a0 : (z.wR a0 6 (some q6)).ty a0 = 59 := t_a0
  replace t_p0 : (z.wR a0 6 (some q6)).ty p0 = 1 := t_p0
  replace t_p1 : (z.wR a0 6 (some q6)).ty p1 = 11 := t_p1
  replace tq1 : (z.wR a0 6 (some q6)).ty q1 = 2 := tq1
  replace tq5 : (z.wR a0 6 (some q6)).ty q5 = 1005 := tq5
  replace tq6 : (z.wR a0 6 (some q6)).ty q6 = 1006 := tq6
  replace Ra0_2 : (z.wR a0 6 (some q6)).R a0 2 = some q1 := (h_up_at (by decide)).trans Ra0_2
  replace Ra0_5 : (z.wR a0 6 (some q6)).R a0 5 = some q5 := (h_up_at (by decide)).trans Ra0_5
  replace Ra0_6 : (z.wR a0 6 (some q6)).R a0 6 = some q6 := h_up_eq
  obtain ⟨z, ez⟩ : ∃ z1 : tZ, z1 = (z.wR a0 6 (some q6)) := ⟨_, rfl⟩
  rw [← ez] at g hI hR hZ hQ t_a0 t_p0 t_p1 tq1 tq5 tq6 Ra0_2 Ra0_5 Ra0_6
  clear ez
  replace hF : h_F [] z I0 I0 := h_F.rf
  refine lv_aload_n hx hb dX9_init_31 rfl (lv_at hl 0 rfl) ?_
  refine lv_bipush (v := 12) hx hb dX9_init_32 (by decide) ?_
  replace hZ := hZ.tcall hF rfl
  replace hQ := hQ.tc hF rfl
  refine h_newI hx hb (hts (.arrayClass .int) (by decide +kernel)) g hA so_1007 (by decide) (by decide) (by decide) (Nat.le_of_ble_eq_true rfl) (Nat.le_of_ble_eq_true rfl) dX9_init_34 (fun q7 H hq0 g => ?_)
  have n_q7 := hZ.fresh hq0 (fun h => h_neq t_a0 (by decide) hq0 (Option.some.inj h).symm)
  replace hu_q7 := hQ.1.u (q := q7) (t := 1007) hq0
  replace hQ := hQ.nw (q := q7) (t := 1007) hq0 (by decide)
  replace hI := hI.nw (q := q7) (t := 1007) (f := fun _ => none)
  replace hR := hR.nw (q := q7) (t := 1007) (f := fun _ => none) hq0 (fun k t2 n2 h => by cases (show (none : Option (Nat × Bool)) = some (t2, n2) from h))
  replace hZ := hZ.nw (q := q7) (t := 1007) (f := fun _ => none) hq0 (L2 := L4) (fun _ _ => rfl)
  replace hz : h_row I0 q7 (fun _ => 0) a0 = (fun _ => 0) := (h_row_n (h_neq t_a0 (by decide) hq0)).trans hz
  replace Ra0_2 := h_nwr (q := q7) (t := 1007) (f := fun _ => none) hq0 t_a0 (by decide) Ra0_2
  replace Ra0_5 := h_nwr (q := q7) (t := 1007) (f := fun _ => none) hq0 t_a0 (by decide) Ra0_5
  replace Ra0_6 := h_nwr (q := q7) (t := 1007) (f := fun _ => none) hq0 t_a0 (by decide) Ra0_6
  replace t_a0 := h_nwk (q := q7) (t := 1007) (f := fun _ => none) hq0 t_a0 (by decide)
  replace t_p0 := h_nwk (q := q7) (t := 1007) (f := fun _ => none) hq0 t_p0 (by decide)
  replace t_p1 := h_nwk (q := q7) (t := 1007) (f := fun _ => none) hq0 t_p1 (by decide)
  replace tq1 := h_nwk (q := q7) (t := 1007) (f := fun _ => none) hq0 tq1 (by decide)
  replace tq5 := h_nwk (q := q7) (t := 1007) (f := fun _ => none) hq0 tq5 (by decide)
  replace tq6 := h_nwk (q := q7) (t := 1007) (f := fun _ => none) hq0 tq6 (by decide)
  replace tq7 : (z.nw q7 1007 (fun _ => none)).ty q7 = 1007 := nw_te
  obtain ⟨z, ez⟩ : ∃ z1 : tZ, z1 = (z.nw q7 1007 (fun _ => none)) := ⟨_, rfl⟩
  rw [← ez] at g hI hR hZ hQ hu_q7 t_a0 t_p0 t_p1 tq1 tq5 tq6 tq7 Ra0_2 Ra0_5 Ra0_6
  clear ez
  obtain ⟨I0, eI⟩ : ∃ J : tI, J = h_row I0 q7 (fun _ => 0) := ⟨_, rfl⟩
  rw [← eI] at g hI hZ hQ hz
  clear eI
  replace hF : h_F [] z I0 I0 := h_F.rf
  refine W.cs (cells' := 4) (slots' := 40) rfl rfl ?_
  replace hZ := hZ.tcall hF rfl
  replace hQ := hQ.tc hF rfl
  refine h_putR (ty := tyX9 7) (v := q7) hx hb hts iX9 tyX9 tyX9_ok nmX9 hown g t_a0 (by decide) so_59 rfl 7 (by decide) rfl (hts (.fieldLink RX9 26 "CapLeague$Trade" "from" "[I") (by decide +kernel)) rfl rfl hin rfl (by decide +kernel) rfl rfl dX9_init_36 (fun H locs g => ?_)
  replace hQ := hQ.wR (a := a0) (k := 7) (v := q7) t_a0 (by decide) tq7 (by decide) (fun h9 => ⟨hu_q7, n_q7⟩)
  replace hR := hR.wR (k0 := 7) (v := some q7) t_a0 (fun _ => rfl)
  replace hZ := hZ.wR (a := a0) (k := 7) (v := some q7) (Or.inl rfl)
  replace hI : h_I (z.wR a0 7 (some q7)) I0 := hI
  replace t_a0 : (z.wR a0 7 (some q7)).ty a0 = 59 := t_a0
  replace t_p0 : (z.wR a0 7 (some q7)).ty p0 = 1 := t_p0
  replace t_p1 : (z.wR a0 7 (some q7)).ty p1 = 11 := t_p1
  replace tq1 : (z.wR a0 7 (some q7)).ty q1 = 2 := tq1
  replace tq5 : (z.wR a0 7 (some q7)).ty q5 = 1005 := tq5
  replace tq6 : (z.wR a0 7 (some q7)).ty q6 = 1006 := tq6
  replace tq7 : (z.wR a0 7 (some q7)).ty q7 = 1007 := tq7
  replace Ra0_2 : (z.wR a0 7 (some q7)).R a0 2 = some q1 := (h_up_at (by decide)).trans Ra0_2
  replace Ra0_5 : (z.wR a0 7 (some q7)).R a0 5 = some q5 := (h_up_at (by decide)).trans Ra0_5
  replace Ra0_6 : (z.wR a0 7 (some q7)).R a0 6 = some q6 := (h_up_at (by decide)).trans Ra0_6
  replace Ra0_7 : (z.wR a0 7 (some q7)).R a0 7 = some q7 := h_up_eq
  obtain ⟨z, ez⟩ : ∃ z1 : tZ, z1 = (z.wR a0 7 (some q7)) := ⟨_, rfl⟩
  rw [← ez] at g hI hR hZ hQ t_a0 t_p0 t_p1 tq1 tq5 tq6 tq7 Ra0_2 Ra0_5 Ra0_6 Ra0_7
  clear ez
  replace hF : h_F [] z I0 I0 := h_F.rf
  refine lv_aload_n hx hb dX9_init_39 rfl (lv_at hl 0 rfl) ?_
  refine lv_bipush (v := 12) hx hb dX9_init_40 (by decide) ?_
  replace hZ := hZ.tcall hF rfl
  replace hQ := hQ.tc hF rfl
  refine h_newI hx hb (hts (.arrayClass .int) (by decide +kernel)) g hA so_1008 (by decide) (by decide) (by decide) (Nat.le_of_ble_eq_true rfl) (Nat.le_of_ble_eq_true rfl) dX9_init_42 (fun q8 H hq0 g => ?_)
  have n_q8 := hZ.fresh hq0 (fun h => h_neq t_a0 (by decide) hq0 (Option.some.inj h).symm)
  replace hu_q8 := hQ.1.u (q := q8) (t := 1008) hq0
  replace hQ := hQ.nw (q := q8) (t := 1008) hq0 (by decide)
  replace hI := hI.nw (q := q8) (t := 1008) (f := fun _ => none)
  replace hR := hR.nw (q := q8) (t := 1008) (f := fun _ => none) hq0 (fun k t2 n2 h => by cases (show (none : Option (Nat × Bool)) = some (t2, n2) from h))
  replace hZ := hZ.nw (q := q8) (t := 1008) (f := fun _ => none) hq0 (L2 := L4) (fun _ _ => rfl)
  replace hz : h_row I0 q8 (fun _ => 0) a0 = (fun _ => 0) := (h_row_n (h_neq t_a0 (by decide) hq0)).trans hz
  replace Ra0_2 := h_nwr (q := q8) (t := 1008) (f := fun _ => none) hq0 t_a0 (by decide) Ra0_2
  replace Ra0_5 := h_nwr (q := q8) (t := 1008) (f := fun _ => none) hq0 t_a0 (by decide) Ra0_5
  replace Ra0_6 := h_nwr (q := q8) (t := 1008) (f := fun _ => none) hq0 t_a0 (by decide) Ra0_6
  replace Ra0_7 := h_nwr (q := q8) (t := 1008) (f := fun _ => none) hq0 t_a0 (by decide) Ra0_7
  replace t_a0 := h_nwk (q := q8) (t := 1008) (f := fun _ => none) hq0 t_a0 (by decide)
  replace t_p0 := h_nwk (q := q8) (t := 1008) (f := fun _ => none) hq0 t_p0 (by decide)
  replace t_p1 := h_nwk (q := q8) (t := 1008) (f := fun _ => none) hq0 t_p1 (by decide)
  replace tq1 := h_nwk (q := q8) (t := 1008) (f := fun _ => none) hq0 tq1 (by decide)
  replace tq5 := h_nwk (q := q8) (t := 1008) (f := fun _ => none) hq0 tq5 (by decide)
  replace tq6 := h_nwk (q := q8) (t := 1008) (f := fun _ => none) hq0 tq6 (by decide)
  replace tq7 := h_nwk (q := q8) (t := 1008) (f := fun _ => none) hq0 tq7 (by decide)
  replace tq8 : (z.nw q8 1008 (fun _ => none)).ty q8 = 1008 := nw_te
  obtain ⟨z, ez⟩ : ∃ z1 : tZ, z1 = (z.nw q8 1008 (fun _ => none)) := ⟨_, rfl⟩
  rw [← ez] at g hI hR hZ hQ hu_q8 t_a0 t_p0 t_p1 tq1 tq5 tq6 tq7 tq8 Ra0_2 Ra0_5 Ra0_6 Ra0_7
  clear ez
  obtain ⟨I0, eI⟩ : ∃ J : tI, J = h_row I0 q8 (fun _ => 0) := ⟨_, rfl⟩
  rw [← eI] at g hI hZ hQ hz
  clear eI
  replace hF : h_F [] z I0 I0 := h_F.rf
  refine W.cs (cells' := 5) (slots' := 52) rfl rfl ?_
  replace hZ := hZ.tcall hF rfl
  replace hQ := hQ.tc hF rfl
  refine h_putR (ty := tyX9 8) (v := q8) hx hb hts iX9 tyX9 tyX9_ok nmX9 hown g t_a0 (by decide) so_59 rfl 8 (by decide) rfl (hts (.fieldLink RX9 29 "CapLeague$Trade" "to" "[I") (by decide +kernel)) rfl rfl hin rfl (by decide +kernel) rfl rfl dX9_init_44 (fun H locs g => ?_)
  replace hQ := hQ.wR (a := a0) (k := 8) (v := q8) t_a0 (by decide) tq8 (by decide) (fun h9 => ⟨hu_q8, n_q8⟩)
  replace hR := hR.wR (k0 := 8) (v := some q8) t_a0 (fun _ => rfl)
  replace hZ := hZ.wR (a := a0) (k := 8) (v := some q8) (Or.inl rfl)
  replace hI : h_I (z.wR a0 8 (some q8)) I0 := hI
  replace t_a0 : (z.wR a0 8 (some q8)).ty a0 = 59 := t_a0
  replace t_p0 : (z.wR a0 8 (some q8)).ty p0 = 1 := t_p0
  replace t_p1 : (z.wR a0 8 (some q8)).ty p1 = 11 := t_p1
  replace tq1 : (z.wR a0 8 (some q8)).ty q1 = 2 := tq1
  replace tq5 : (z.wR a0 8 (some q8)).ty q5 = 1005 := tq5
  replace tq6 : (z.wR a0 8 (some q8)).ty q6 = 1006 := tq6
  replace tq7 : (z.wR a0 8 (some q8)).ty q7 = 1007 := tq7
  replace tq8 : (z.wR a0 8 (some q8)).ty q8 = 1008 := tq8
  replace Ra0_2 : (z.wR a0 8 (some q8)).R a0 2 = some q1 := (h_up_at (by decide)).trans Ra0_2
  replace Ra0_5 : (z.wR a0 8 (some q8)).R a0 5 = some q5 := (h_up_at (by decide)).trans Ra0_5
  replace Ra0_6 : (z.wR a0 8 (some q8)).R a0 6 = some q6 := (h_up_at (by decide)).trans Ra0_6
  replace Ra0_7 : (z.wR a0 8 (some q8)).R a0 7 = some q7 := (h_up_at (by decide)).trans Ra0_7
  replace Ra0_8 : (z.wR a0 8 (some q8)).R a0 8 = some q8 := h_up_eq
  obtain ⟨z, ez⟩ : ∃ z1 : tZ, z1 = (z.wR a0 8 (some q8)) := ⟨_, rfl⟩
  rw [← ez] at g hI hR hZ hQ t_a0 t_p0 t_p1 tq1 tq5 tq6 tq7 tq8 Ra0_2 Ra0_5 Ra0_6 Ra0_7 Ra0_8
  clear ez
  replace hF : h_F [] z I0 I0 := h_F.rf
  refine lv_aload_n hx hb dX9_init_47 rfl (lv_at hl 0 rfl) ?_
  refine lv_bipush (v := 12) hx hb dX9_init_48 (by decide) ?_
  replace hZ := hZ.tcall hF rfl
  replace hQ := hQ.tc hF rfl
  refine h_newI hx hb (hts (.arrayClass .int) (by decide +kernel)) g hA so_1009 (by decide) (by decide) (by decide) (Nat.le_of_ble_eq_true rfl) (Nat.le_of_ble_eq_true rfl) dX9_init_50 (fun q9 H hq0 g => ?_)
  have n_q9 := hZ.fresh hq0 (fun h => h_neq t_a0 (by decide) hq0 (Option.some.inj h).symm)
  replace hu_q9 := hQ.1.u (q := q9) (t := 1009) hq0
  replace hQ := hQ.nw (q := q9) (t := 1009) hq0 (by decide)
  replace hI := hI.nw (q := q9) (t := 1009) (f := fun _ => none)
  replace hR := hR.nw (q := q9) (t := 1009) (f := fun _ => none) hq0 (fun k t2 n2 h => by cases (show (none : Option (Nat × Bool)) = some (t2, n2) from h))
  replace hZ := hZ.nw (q := q9) (t := 1009) (f := fun _ => none) hq0 (L2 := L4) (fun _ _ => rfl)
  replace hz : h_row I0 q9 (fun _ => 0) a0 = (fun _ => 0) := (h_row_n (h_neq t_a0 (by decide) hq0)).trans hz
  replace Ra0_2 := h_nwr (q := q9) (t := 1009) (f := fun _ => none) hq0 t_a0 (by decide) Ra0_2
  replace Ra0_5 := h_nwr (q := q9) (t := 1009) (f := fun _ => none) hq0 t_a0 (by decide) Ra0_5
  replace Ra0_6 := h_nwr (q := q9) (t := 1009) (f := fun _ => none) hq0 t_a0 (by decide) Ra0_6
  replace Ra0_7 := h_nwr (q := q9) (t := 1009) (f := fun _ => none) hq0 t_a0 (by decide) Ra0_7
  replace Ra0_8 := h_nwr (q := q9) (t := 1009) (f := fun _ => none) hq0 t_a0 (by decide) Ra0_8
  replace t_a0 := h_nwk (q := q9) (t := 1009) (f := fun _ => none) hq0 t_a0 (by decide)
  replace t_p0 := h_nwk (q := q9) (t := 1009) (f := fun _ => none) hq0 t_p0 (by decide)
  replace t_p1 := h_nwk (q := q9) (t := 1009) (f := fun _ => none) hq0 t_p1 (by decide)
  replace tq1 := h_nwk (q := q9) (t := 1009) (f := fun _ => none) hq0 tq1 (by decide)
  replace tq5 := h_nwk (q := q9) (t := 1009) (f := fun _ => none) hq0 tq5 (by decide)
  replace tq6 := h_nwk (q := q9) (t := 1009) (f := fun _ => none) hq0 tq6 (by decide)
  replace tq7 := h_nwk (q := q9) (t := 1009) (f := fun _ => none) hq0 tq7 (by decide)
  replace tq8 := h_nwk (q := q9) (t := 1009) (f := fun _ => none) hq0 tq8 (by decide)
  replace tq9 : (z.nw q9 1009 (fun _ => none)).ty q9 = 1009 := nw_te
  obtain ⟨z, ez⟩ : ∃ z1 : tZ, z1 = (z.nw q9 1009 (fun _ => none)) := ⟨_, rfl⟩
  rw [← ez] at g hI hR hZ hQ hu_q9 t_a0 t_p0 t_p1 tq1 tq5 tq6 tq7 tq8 tq9 Ra0_2 Ra0_5 Ra0_6 Ra0_7 Ra0_8
  clear ez
  obtain ⟨I0, eI⟩ : ∃ J : tI, J = h_row I0 q9 (fun _ => 0) := ⟨_, rfl⟩
  rw [← eI] at g hI hZ hQ hz
  clear eI
  replace hF : h_F [] z I0 I0 := h_F.rf
  refine W.cs (cells' := 6) (slots' := 64) rfl rfl ?_
  replace hZ := hZ.tcall hF rfl
  replace hQ := hQ.tc hF rfl
  refine h_putR (ty := tyX9 9) (v := q9) hx hb hts iX9 tyX9 tyX9_ok nmX9 hown g t_a0 (by decide) so_59 rfl 9 (by decide) rfl (hts (.fieldLink RX9 32 "CapLeague$Trade" "shield" "[I") (by decide +kernel)) rfl rfl hin rfl (by decide +kernel) rfl rfl dX9_init_52 (fun H locs g => ?_)
  replace hQ := hQ.wR (a := a0) (k := 9) (v := q9) t_a0 (by decide) tq9 (by decide) (fun h9 => ⟨hu_q9, n_q9⟩)
  replace hR := hR.wR (k0 := 9) (v := some q9) t_a0 (fun _ => rfl)
  replace hZ := hZ.wR (a := a0) (k := 9) (v := some q9) (Or.inl rfl)
  replace hI : h_I (z.wR a0 9 (some q9)) I0 := hI
  replace t_a0 : (z.wR a0 9 (some q9)).ty a0 = 59 := t_a0
  replace t_p0 : (z.wR a0 9 (some q9)).ty p0 = 1 := t_p0
  replace t_p1 : (z.wR a0 9 (some q9)).ty p1 = 11 := t_p1
  replace tq1 : (z.wR a0 9 (some q9)).ty q1 = 2 := tq1
  replace tq5 : (z.wR a0 9 (some q9)).ty q5 = 1005 := tq5
  replace tq6 : (z.wR a0 9 (some q9)).ty q6 = 1006 := tq6
  replace tq7 : (z.wR a0 9 (some q9)).ty q7 = 1007 := tq7
  replace tq8 : (z.wR a0 9 (some q9)).ty q8 = 1008 := tq8
  replace tq9 : (z.wR a0 9 (some q9)).ty q9 = 1009 := tq9
  replace Ra0_2 : (z.wR a0 9 (some q9)).R a0 2 = some q1 := (h_up_at (by decide)).trans Ra0_2
  replace Ra0_5 : (z.wR a0 9 (some q9)).R a0 5 = some q5 := (h_up_at (by decide)).trans Ra0_5
  replace Ra0_6 : (z.wR a0 9 (some q9)).R a0 6 = some q6 := (h_up_at (by decide)).trans Ra0_6
  replace Ra0_7 : (z.wR a0 9 (some q9)).R a0 7 = some q7 := (h_up_at (by decide)).trans Ra0_7
  replace Ra0_8 : (z.wR a0 9 (some q9)).R a0 8 = some q8 := (h_up_at (by decide)).trans Ra0_8
  replace Ra0_9 : (z.wR a0 9 (some q9)).R a0 9 = some q9 := h_up_eq
  obtain ⟨z, ez⟩ : ∃ z1 : tZ, z1 = (z.wR a0 9 (some q9)) := ⟨_, rfl⟩
  rw [← ez] at g hI hR hZ hQ t_a0 t_p0 t_p1 tq1 tq5 tq6 tq7 tq8 tq9 Ra0_2 Ra0_5 Ra0_6 Ra0_7 Ra0_8 Ra0_9
  clear ez
  replace hF : h_F [] z I0 I0 := h_F.rf
  refine lv_aload_n hx hb dX9_init_55 rfl (lv_at hl 0 rfl) ?_
  refine lv_aload_n hx hb dX9_init_56 rfl (lv_at hl 1 rfl) ?_
  replace hZ := hZ.tcall hF rfl
  replace hQ := hQ.tc hF rfl
  refine h_putR (ty := tyX9 0) (v := p0) hx hb hts iX9 tyX9 tyX9_ok nmX9 hown g t_a0 (by decide) so_59 rfl 0 (by decide) rfl (hts (.fieldLink RX9 35 "CapLeague$Trade" "books" "LCapLeague$Books;") (by decide +kernel)) rfl rfl hin rfl (by decide +kernel) rfl rfl dX9_init_57 (fun H locs g => ?_)
  replace hQ := hQ.wR (a := a0) (k := 0) (v := p0) t_a0 (by decide) t_p0 (by decide) (fun h9 => absurd h9 (by decide))
  replace hR := hR.wR (k0 := 0) (v := some p0) t_a0 (fun _ => rfl)
  replace hZ := hZ.wR (a := a0) (k := 0) (v := some p0) (Or.inl rfl)
  replace hI : h_I (z.wR a0 0 (some p0)) I0 := hI
  replace t_a0 : (z.wR a0 0 (some p0)).ty a0 = 59 := t_a0
  replace t_p0 : (z.wR a0 0 (some p0)).ty p0 = 1 := t_p0
  replace t_p1 : (z.wR a0 0 (some p0)).ty p1 = 11 := t_p1
  replace tq1 : (z.wR a0 0 (some p0)).ty q1 = 2 := tq1
  replace tq5 : (z.wR a0 0 (some p0)).ty q5 = 1005 := tq5
  replace tq6 : (z.wR a0 0 (some p0)).ty q6 = 1006 := tq6
  replace tq7 : (z.wR a0 0 (some p0)).ty q7 = 1007 := tq7
  replace tq8 : (z.wR a0 0 (some p0)).ty q8 = 1008 := tq8
  replace tq9 : (z.wR a0 0 (some p0)).ty q9 = 1009 := tq9
  replace Ra0_2 : (z.wR a0 0 (some p0)).R a0 2 = some q1 := (h_up_at (by decide)).trans Ra0_2
  replace Ra0_5 : (z.wR a0 0 (some p0)).R a0 5 = some q5 := (h_up_at (by decide)).trans Ra0_5
  replace Ra0_6 : (z.wR a0 0 (some p0)).R a0 6 = some q6 := (h_up_at (by decide)).trans Ra0_6
  replace Ra0_7 : (z.wR a0 0 (some p0)).R a0 7 = some q7 := (h_up_at (by decide)).trans Ra0_7
  replace Ra0_8 : (z.wR a0 0 (some p0)).R a0 8 = some q8 := (h_up_at (by decide)).trans Ra0_8
  replace Ra0_9 : (z.wR a0 0 (some p0)).R a0 9 = some q9 := (h_up_at (by decide)).trans Ra0_9
  replace Ra0_0 : (z.wR a0 0 (some p0)).R a0 0 = some p0 := h_up_eq
  obtain ⟨z, ez⟩ : ∃ z1 : tZ, z1 = (z.wR a0 0 (some p0)) := ⟨_, rfl⟩
  rw [← ez] at g hI hR hZ hQ t_a0 t_p0 t_p1 tq1 tq5 tq6 tq7 tq8 tq9 Ra0_2 Ra0_5 Ra0_6 Ra0_7 Ra0_8 Ra0_9 Ra0_0
  clear ez
  replace hF : h_F [] z I0 I0 := h_F.rf
  refine lv_aload_n hx hb dX9_init_60 rfl (lv_at hl 0 rfl) ?_
  refine lv_aload_n hx hb dX9_init_61 rfl (lv_at hl 2 rfl) ?_
  replace hZ := hZ.tcall hF rfl
  replace hQ := hQ.tc hF rfl
  refine h_putR (ty := tyX9 1) (v := p1) hx hb hts iX9 tyX9 tyX9_ok nmX9 hown g t_a0 (by decide) so_59 rfl 1 (by decide) rfl (hts (.fieldLink RX9 39 "CapLeague$Trade" "turns" "LCapLeague$Turns;") (by decide +kernel)) rfl rfl hin rfl (by decide +kernel) rfl rfl dX9_init_62 (fun H locs g => ?_)
  replace hQ := hQ.wR (a := a0) (k := 1) (v := p1) t_a0 (by decide) t_p1 (by decide) (fun h9 => absurd h9 (by decide))
  replace hR := hR.wR (k0 := 1) (v := some p1) t_a0 (fun _ => rfl)
  replace hZ := hZ.wR (a := a0) (k := 1) (v := some p1) (Or.inl rfl)
  replace hI : h_I (z.wR a0 1 (some p1)) I0 := hI
  replace t_a0 : (z.wR a0 1 (some p1)).ty a0 = 59 := t_a0
  replace t_p0 : (z.wR a0 1 (some p1)).ty p0 = 1 := t_p0
  replace t_p1 : (z.wR a0 1 (some p1)).ty p1 = 11 := t_p1
  replace tq1 : (z.wR a0 1 (some p1)).ty q1 = 2 := tq1
  replace tq5 : (z.wR a0 1 (some p1)).ty q5 = 1005 := tq5
  replace tq6 : (z.wR a0 1 (some p1)).ty q6 = 1006 := tq6
  replace tq7 : (z.wR a0 1 (some p1)).ty q7 = 1007 := tq7
  replace tq8 : (z.wR a0 1 (some p1)).ty q8 = 1008 := tq8
  replace tq9 : (z.wR a0 1 (some p1)).ty q9 = 1009 := tq9
  replace Ra0_2 : (z.wR a0 1 (some p1)).R a0 2 = some q1 := (h_up_at (by decide)).trans Ra0_2
  replace Ra0_5 : (z.wR a0 1 (some p1)).R a0 5 = some q5 := (h_up_at (by decide)).trans Ra0_5
  replace Ra0_6 : (z.wR a0 1 (some p1)).R a0 6 = some q6 := (h_up_at (by decide)).trans Ra0_6
  replace Ra0_7 : (z.wR a0 1 (some p1)).R a0 7 = some q7 := (h_up_at (by decide)).trans Ra0_7
  replace Ra0_8 : (z.wR a0 1 (some p1)).R a0 8 = some q8 := (h_up_at (by decide)).trans Ra0_8
  replace Ra0_9 : (z.wR a0 1 (some p1)).R a0 9 = some q9 := (h_up_at (by decide)).trans Ra0_9
  replace Ra0_0 : (z.wR a0 1 (some p1)).R a0 0 = some p0 := (h_up_at (by decide)).trans Ra0_0
  replace Ra0_1 : (z.wR a0 1 (some p1)).R a0 1 = some p1 := h_up_eq
  obtain ⟨z, ez⟩ : ∃ z1 : tZ, z1 = (z.wR a0 1 (some p1)) := ⟨_, rfl⟩
  rw [← ez] at g hI hR hZ hQ t_a0 t_p0 t_p1 tq1 tq5 tq6 tq7 tq8 tq9 Ra0_2 Ra0_5 Ra0_6 Ra0_7 Ra0_8 Ra0_9 Ra0_0 Ra0_1
  clear ez
  replace hF : h_F [] z I0 I0 := h_F.rf
  replace hZ := hZ.tcall hF rfl
  replace hQ := hQ.tc hF rfl
  have g := g.rt (a := a0) (t := 10) (by rw [t_a0]; decide) (by rw [t_a0]; rfl)
  replace hI := hI.rt (a := a0) (t := 10) (fun k => by
      rw [hz]
      exact h_bd0 10 k)
  replace hR := hR.rt (t := 10) t_a0 (by decide) (by decide) (fun k t2 n2 h hk => by
      have hk9 : k < 10 := hk
      rcases (show k = 0 ∨ k = 1 ∨ k = 2 ∨ k = 3 ∨ k = 4 ∨ k = 5 ∨ k = 6 ∨ k = 7 ∨ k = 8 ∨ k = 9 by omega) with rfl | rfl | rfl | rfl | rfl | rfl | rfl | rfl | rfl | rfl
      · have e9 : some (1, false) = some (t2, n2) := h
        cases e9
        exact ⟨p0, Ra0_0, t_p0⟩
      · have e9 : some (11, false) = some (t2, n2) := h
        cases e9
        exact ⟨p1, Ra0_1, t_p1⟩
      · have e9 : some (2, false) = some (t2, n2) := h
        cases e9
        exact ⟨q1, Ra0_2, tq1⟩
      · cases (show (none : Option (Nat × Bool)) = some (t2, n2) from h)
      · cases (show (none : Option (Nat × Bool)) = some (t2, n2) from h)
      · have e9 : some (1005, false) = some (t2, n2) := h
        cases e9
        exact ⟨q5, Ra0_5, tq5⟩
      · have e9 : some (1006, false) = some (t2, n2) := h
        cases e9
        exact ⟨q6, Ra0_6, tq6⟩
      · have e9 : some (1007, false) = some (t2, n2) := h
        cases e9
        exact ⟨q7, Ra0_7, tq7⟩
      · have e9 : some (1008, false) = some (t2, n2) := h
        cases e9
        exact ⟨q8, Ra0_8, tq8⟩
      · have e9 : some (1009, false) = some (t2, n2) := h
        cases e9
        exact ⟨q9, Ra0_9, tq9⟩)
  replace hZ := hZ.rt (a := a0) (t := 10) (Or.inl rfl)
  replace hQ := hQ.rt (a := a0) (t := 10) t_a0 (by decide) (by decide) rfl rfl
  replace t_p0 := h_rtk (t := 10) t_p0 t_a0 (by decide)
  replace t_p1 := h_rtk (t := 10) t_p1 t_a0 (by decide)
  replace tq1 := h_rtk (t := 10) tq1 t_a0 (by decide)
  replace tq5 := h_rtk (t := 10) tq5 t_a0 (by decide)
  replace tq6 := h_rtk (t := 10) tq6 t_a0 (by decide)
  replace tq7 := h_rtk (t := 10) tq7 t_a0 (by decide)
  replace tq8 := h_rtk (t := 10) tq8 t_a0 (by decide)
  replace tq9 := h_rtk (t := 10) tq9 t_a0 (by decide)
  replace t_a0 : (z.rt a0 10).ty a0 = 10 := rt_e
  replace Ra0_2 : (z.rt a0 10).R a0 2 = some q1 := Ra0_2
  replace Ra0_5 : (z.rt a0 10).R a0 5 = some q5 := Ra0_5
  replace Ra0_6 : (z.rt a0 10).R a0 6 = some q6 := Ra0_6
  replace Ra0_7 : (z.rt a0 10).R a0 7 = some q7 := Ra0_7
  replace Ra0_8 : (z.rt a0 10).R a0 8 = some q8 := Ra0_8
  replace Ra0_9 : (z.rt a0 10).R a0 9 = some q9 := Ra0_9
  replace Ra0_0 : (z.rt a0 10).R a0 0 = some p0 := Ra0_0
  replace Ra0_1 : (z.rt a0 10).R a0 1 = some p1 := Ra0_1
  obtain ⟨z, ez⟩ : ∃ z1 : tZ, z1 = (z.rt a0 10) := ⟨_, rfl⟩
  rw [← ez] at g hI hR hZ hQ t_a0 t_p0 t_p1 tq1 tq5 tq6 tq7 tq8 tq9 Ra0_2 Ra0_5 Ra0_6 Ra0_7 Ra0_8 Ra0_9 Ra0_0 Ra0_1
  clear ez
  replace hF : h_F [] z I0 I0 := h_F.rf
  have rq1 := Ra0_2
  have rq5 := Ra0_5
  have rq6 := Ra0_6
  have rq7 := Ra0_7
  have rq8 := Ra0_8
  have rq9 := Ra0_9
  have rp0 := Ra0_0
  have rp1 := Ra0_1
  replace hZ := hZ.tcall hF rfl
  replace hQ := hQ.tc hF rfl
  replace hS := g.2.1
  exact W.vret hx hb hr (fun t ht hW => ⟨⟨(z, I0, L4), rfl, ⟨hI, hR, hZ, hQ, t_a0, ⟨(by show z.R a0 0 = some p0; exact Ra0_0), (by show z.R a0 1 = some p1; exact Ra0_1)⟩⟩, h_ret g ht⟩, hS.F ht⟩) hS.2.2 dX9_init_65
set_option maxHeartbeats 4000000 in
set_option maxRecDepth 100000 in
theorem zX7_initF (l : Launch) (E : tE) (X : tX) (A : Nat → Prop) (z0 : tZ) (J0 : tI) (K0 : tL) (a0 : Nat) (t_a0 : z0.ty a0 = 57) (p0 : Nat) (t_p0 : z0.ty p0 = 1) (h_z0 : J0 a0 = fun _ => 0) (hU : h_U z0) : Met l yX7_init wsX7_init ({ frames := 2, cells := 70, slots := 3927, locals := 128 }) (va_Pc [.ref a0, .ref p0] (h_P E X A z0 J0 K0)) (va_Qv (fun (q1 : tZ × tI × tL) => h_I q1.1 q1.2.1 ∧ h_R q1.1 ∧ h_X [] [] (some a0) z0 J0 K0 q1.1 q1.2.1 q1.2.2 ∧ h_Q [] (some a0) z0 q1.1 q1.2.1 ∧ q1.1.ty a0 = 8 ∧ (q1.1.R a0 0 = some p0)) (fun (q1 : tZ × tI × tL) t => h_B E A q1.1 q1.2.1 q1.2.2 t) A) 70 3927 A := by
  refine Met.ofW (cc := cX7_init) (maxL := 2) (ret := none) (by decide) rfl ?_
  intro pr_ ev_ s m args below meth cd_ s₁ B hml hv
  obtain ⟨rfl, hE, hk, hX, hA, hK, hI, hR, hB0⟩ := hv
  obtain ⟨z, ez0⟩ : ∃ z : tZ, z = z0 := ⟨_, rfl⟩
  obtain ⟨I0, eJ0⟩ : ∃ I0 : tI, I0 = J0 := ⟨_, rfl⟩
  obtain ⟨L0, eK0⟩ : ∃ L0 : tL, L0 = K0 := ⟨_, rfl⟩
  rw [← ez0, ← eJ0] at hI
  rw [← ez0] at hR t_a0 t_p0
  rw [← ez0, ← eJ0, ← eK0] at hB0
  rw [← eJ0] at h_z0
  have g : h_G h_so h_fk E A z I0 L0 s s.heap s.heap [] := ⟨hK, va_S.rf, hB0⟩
  replace hF : h_F [] z I0 I0 := h_F.rf
  have hx := B.exec
  have hb := B.bytes
  have hr := B.returns
  have hts := atoms_spec (ws := wsX7_init) B.pre
  have hown : s.vm.findClass RX7 = some m.cls := findClass_of_methodNamed B.named
  have hlocks := B.notSynchronized
  have iX1 : ∀ w ∈ u_ws RX1 TX1 4, w ∈ wsX7_init := by decide +kernel
  have iX7 : ∀ w ∈ u_ws RX7 TX7 13, w ∈ wsX7_init := by decide +kernel
  have hl := lv_entry ([.ref a0, .ref p0]) (n := 2) (Nat.le_of_ble_eq_true rfl)
  rw [lg_entry_eq]
  generalize (lg_sl ([.ref a0, .ref p0]) ++ List.replicate (2 - (lg_sl ([.ref a0, .ref p0])).length) Slot.unset).toArray = ls at hl ⊢
  have hl : lv_has ls 2 [(0, .ref a0), (1, .ref p0)] := hl
  have hin : meth.name = "<init>" := (name_of_methodNamed B.named B.method).1
  replace hZ : h_X [] [] (some a0) z0 J0 K0 z I0 L0 := by rw [ez0, eJ0, eK0]; exact h_X.rf
  replace hz : I0 a0 = (fun _ => 0) := h_z0
  replace hQ : h_Q [] (some a0) z0 z I0 := by rw [ez0]; exact h_Q.rf hU (fun b hb => by cases hb; exact h_z0)
  refine lv_aload_n hx hb dX7_init_0 rfl (lv_at hl 0 rfl) ?_
  refine W.objInit hx hb hown (hts (.methodLink RX7 3 objectInit) (by decide +kernel)) (hts (.instanceMethod objectInit) (by decide +kernel)) (hts (.code objectInit ⟨#[0xb1]⟩ 1 none) (List.mem_of_getElem? (i := 3) rfl)) rfl (by rw [hml]; exact hl.1) rfl dX7_init_1 (Nat.le_of_ble_eq_true rfl) (Nat.le_of_ble_eq_true rfl) ?_
  refine W.eq (g2 := F0 m 4 ls []) rfl ?_
  refine lv_aload_n hx hb dX7_init_4 rfl (lv_at hl 0 rfl) ?_
  replace hZ := hZ.tcall hF rfl
  replace hQ := hQ.tc hF rfl
  refine h_newO (C := RX1) (T := TX1) (N := 4) (ci := 1) hx hb hts iX1 tyX1 tyX1_ok hown (hts (.classLink RX7 9 RX1) (by decide +kernel)) (hts (.instantiable RX1 4) (by decide +kernel)) (hts (.initialized RX1) (by decide +kernel)) g hA rfl so_51 (fun j hj => by rcases (show j = 0 ∨ j = 1 ∨ j = 2 ∨ j = 3 by omega) with rfl | rfl | rfl | rfl <;> rfl) (Nat.le_of_ble_eq_true rfl) (Nat.le_of_ble_eq_true rfl) dX7_init_5 (fun q1 H hq0 g => ?_)
  have n_q1 := hZ.fresh hq0 (fun h => h_neq t_a0 (by decide) hq0 (Option.some.inj h).symm)
  replace hu_q1 := hQ.1.u (q := q1) (t := 51) hq0
  replace hQ := hQ.nw (q := q1) (t := 51) hq0 (by decide)
  replace hI := hI.nw (q := q1) (t := 51) (f := fun _ => none)
  replace hR := hR.nw (q := q1) (t := 51) (f := fun _ => none) hq0 (fun k t2 n2 h => by cases (show (none : Option (Nat × Bool)) = some (t2, n2) from h))
  replace hZ := hZ.nw (q := q1) (t := 51) (f := fun _ => none) hq0 (L2 := (h_rL L0 q1 (fun _ => 0))) (fun b hb => h_rL_n hb)
  replace hz : h_row I0 q1 (fun _ => 0) a0 = (fun _ => 0) := (h_row_n (h_neq t_a0 (by decide) hq0)).trans hz
  replace t_a0 := h_nwk (q := q1) (t := 51) (f := fun _ => none) hq0 t_a0 (by decide)
  replace t_p0 := h_nwk (q := q1) (t := 51) (f := fun _ => none) hq0 t_p0 (by decide)
  replace tq1 : (z.nw q1 51 (fun _ => none)).ty q1 = 51 := nw_te
  have hzq1 : h_row I0 q1 (fun _ => 0) q1 = fun _ => 0 := h_row_e
  obtain ⟨z, ez⟩ : ∃ z1 : tZ, z1 = (z.nw q1 51 (fun _ => none)) := ⟨_, rfl⟩
  rw [← ez] at g hI hR hZ hQ hu_q1 t_a0 t_p0 tq1 
  clear ez
  obtain ⟨I0, eI⟩ : ∃ J : tI, J = h_row I0 q1 (fun _ => 0) := ⟨_, rfl⟩
  rw [← eI] at g hI hZ hQ hz hzq1
  clear eI
  obtain ⟨L2, eL⟩ : ∃ J : tL, J = (h_rL L0 q1 (fun _ => 0)) := ⟨_, rfl⟩
  rw [← eL] at g hZ
  replace hF : h_F [] z I0 I0 := h_F.rf
  refine W.cs (cells' := 1) (slots' := 4) rfl rfl ?_
  refine lv_dup hx hb dX7_init_8 rfl ?_
  replace hZ := hZ.tcall hF rfl
  replace hQ := hQ.tc hF rfl
  refine va_callv (va_runIN (As := []) (rest := [.ref q1, .ref a0]) ⟨hx, hb, hml, hown, hts⟩ (zX1_init l E X A z I0 L2 q1 tq1 hzq1 hQ.1) (⟨va_cnB 0 hts gX7_init_X1_init_n11 rfl rfl rfl (hE.link 3 rfl) (hts (.initialized RX1) (by decide +kernel)) (by decide +kernel) ⟨Nat.le_of_ble_eq_true rfl, Nat.le_of_ble_eq_true rfl⟩, rfl, hts (.instanceMethod yX1_init) (by decide +kernel)⟩) ⟨h_blind _ _ _ _ _ _ _, h_pre _ hE hk hX hA hI hR g⟩ rfl rfl hl.1 rfl (lv_room (Nat.le_of_ble_eq_true rfl)) dX7_init_9 ⟨Nat.le_of_ble_eq_true rfl, Nat.le_of_ble_eq_true rfl⟩) g.2.1 (fun q _ h => h) (fun q h => h) (fun u t H1 locs ht hvm h3 hB hz1 hk1 hS => ?_)
  obtain ⟨z, I0, L4⟩ := u
  obtain ⟨hI, hR, xh3, qh3, tq1_, h3⟩ := h3
  replace hI : h_I z I0 := hI
  replace hR : h_R z := hR
  have hB : h_B E A z I0 L4 t := hB
  have xh3 : h_X [] [] (some q1) _ _ _ z I0 L4 := xh3
  have qh3 : h_Q [] (some q1) _ z I0 := qh3
  replace hQ := hQ.call xh3 qh3 rfl rfl
  replace hu_q1 := hu_q1.call qh3.2.1 tq1 (by decide)
  replace hZ := hZ.call xh3 rfl (fun t h9 => rfl) (fun b hb => Or.inr (by cases hb; exact n_q1))
  replace hz : I0 a0 = (fun _ => 0) := (funext (fun k => xh3.I t_a0 (by decide) (h_sne t_a0 tq1 (by decide)) rfl)).trans hz
  replace t_a0 := xh3.ty t_a0 (by decide) (h_sne t_a0 tq1 (by decide))
  replace t_p0 := xh3.ty t_p0 (by decide) (h_sne t_p0 tq1 (by decide))
  replace tq1 : z.ty q1 = 2 := tq1_
  replace g := h_after g hB ht hS
  generalize H1 = H at g
  clear hB hk1 hz1 ht hvm hS
  replace hF : h_F [] z I0 I0 := h_F.rf
  replace hZ := hZ.tcall hF rfl
  replace hQ := hQ.tc hF rfl
  refine h_putR (ty := tyX7 1) (v := q1) hx hb hts iX7 tyX7 tyX7_ok nmX7 hown g t_a0 (by decide) so_57 rfl 1 (by decide) rfl (hts (.fieldLink RX7 12 "CapLeague$RingSearch" "change" "LCapLeague$Change;") (by decide +kernel)) rfl rfl hin rfl (by decide +kernel) rfl rfl dX7_init_12 (fun H locs g => ?_)
  replace hQ := hQ.wR (a := a0) (k := 1) (v := q1) t_a0 (by decide) tq1 (by decide) (fun h9 => ⟨hu_q1, n_q1⟩)
  replace hR := hR.wR (k0 := 1) (v := some q1) t_a0 (fun _ => rfl)
  replace hZ := hZ.wR (a := a0) (k := 1) (v := some q1) (Or.inl rfl)
  replace hI : h_I (z.wR a0 1 (some q1)) I0 := hI
  replace t_a0 : (z.wR a0 1 (some q1)).ty a0 = 57 := t_a0
  replace t_p0 : (z.wR a0 1 (some q1)).ty p0 = 1 := t_p0
  replace tq1 : (z.wR a0 1 (some q1)).ty q1 = 2 := tq1
  replace Ra0_1 : (z.wR a0 1 (some q1)).R a0 1 = some q1 := h_up_eq
  obtain ⟨z, ez⟩ : ∃ z1 : tZ, z1 = (z.wR a0 1 (some q1)) := ⟨_, rfl⟩
  rw [← ez] at g hI hR hZ hQ t_a0 t_p0 tq1 Ra0_1
  clear ez
  replace hF : h_F [] z I0 I0 := h_F.rf
  refine lv_aload_n hx hb dX7_init_15 rfl (lv_at hl 0 rfl) ?_
  refine lv_bipush (v := 60) hx hb dX7_init_16 (by decide) ?_
  replace hZ := hZ.tcall hF rfl
  replace hQ := hQ.tc hF rfl
  refine h_newI hx hb (hts (.arrayClass .int) (by decide +kernel)) g hA so_802 (by decide) (by decide) (by decide) (Nat.le_of_ble_eq_true rfl) (Nat.le_of_ble_eq_true rfl) dX7_init_18 (fun q5 H hq0 g => ?_)
  have n_q5 := hZ.fresh hq0 (fun h => h_neq t_a0 (by decide) hq0 (Option.some.inj h).symm)
  replace hu_q5 := hQ.1.u (q := q5) (t := 802) hq0
  replace hQ := hQ.nw (q := q5) (t := 802) hq0 (by decide)
  replace hI := hI.nw (q := q5) (t := 802) (f := fun _ => none)
  replace hR := hR.nw (q := q5) (t := 802) (f := fun _ => none) hq0 (fun k t2 n2 h => by cases (show (none : Option (Nat × Bool)) = some (t2, n2) from h))
  replace hZ := hZ.nw (q := q5) (t := 802) (f := fun _ => none) hq0 (L2 := L4) (fun _ _ => rfl)
  replace hz : h_row I0 q5 (fun _ => 0) a0 = (fun _ => 0) := (h_row_n (h_neq t_a0 (by decide) hq0)).trans hz
  replace Ra0_1 := h_nwr (q := q5) (t := 802) (f := fun _ => none) hq0 t_a0 (by decide) Ra0_1
  replace t_a0 := h_nwk (q := q5) (t := 802) (f := fun _ => none) hq0 t_a0 (by decide)
  replace t_p0 := h_nwk (q := q5) (t := 802) (f := fun _ => none) hq0 t_p0 (by decide)
  replace tq1 := h_nwk (q := q5) (t := 802) (f := fun _ => none) hq0 tq1 (by decide)
  replace tq5 : (z.nw q5 802 (fun _ => none)).ty q5 = 802 := nw_te
  obtain ⟨z, ez⟩ : ∃ z1 : tZ, z1 = (z.nw q5 802 (fun _ => none)) := ⟨_, rfl⟩
  rw [← ez] at g hI hR hZ hQ hu_q5 t_a0 t_p0 tq1 tq5 Ra0_1
  clear ez
  obtain ⟨I0, eI⟩ : ∃ J : tI, J = h_row I0 q5 (fun _ => 0) := ⟨_, rfl⟩
  rw [← eI] at g hI hZ hQ hz
  clear eI
  replace hF : h_F [] z I0 I0 := h_F.rf
  refine W.cs (cells' := 2) (slots' := 64) rfl rfl ?_
  replace hZ := hZ.tcall hF rfl
  replace hQ := hQ.tc hF rfl
  refine h_putR (ty := tyX7 2) (v := q5) hx hb hts iX7 tyX7 tyX7_ok nmX7 hown g t_a0 (by decide) so_57 rfl 2 (by decide) rfl (hts (.fieldLink RX7 18 "CapLeague$RingSearch" "line" "[I") (by decide +kernel)) rfl rfl hin rfl (by decide +kernel) rfl rfl dX7_init_20 (fun H locs g => ?_)
  replace hQ := hQ.wR (a := a0) (k := 2) (v := q5) t_a0 (by decide) tq5 (by decide) (fun h9 => ⟨hu_q5, n_q5⟩)
  replace hR := hR.wR (k0 := 2) (v := some q5) t_a0 (fun _ => rfl)
  replace hZ := hZ.wR (a := a0) (k := 2) (v := some q5) (Or.inl rfl)
  replace hI : h_I (z.wR a0 2 (some q5)) I0 := hI
  replace t_a0 : (z.wR a0 2 (some q5)).ty a0 = 57 := t_a0
  replace t_p0 : (z.wR a0 2 (some q5)).ty p0 = 1 := t_p0
  replace tq1 : (z.wR a0 2 (some q5)).ty q1 = 2 := tq1
  replace tq5 : (z.wR a0 2 (some q5)).ty q5 = 802 := tq5
  replace Ra0_1 : (z.wR a0 2 (some q5)).R a0 1 = some q1 := (h_up_at (by decide)).trans Ra0_1
  replace Ra0_2 : (z.wR a0 2 (some q5)).R a0 2 = some q5 := h_up_eq
  obtain ⟨z, ez⟩ : ∃ z1 : tZ, z1 = (z.wR a0 2 (some q5)) := ⟨_, rfl⟩
  rw [← ez] at g hI hR hZ hQ t_a0 t_p0 tq1 tq5 Ra0_1 Ra0_2
  clear ez
  replace hF : h_F [] z I0 I0 := h_F.rf
  refine lv_aload_n hx hb dX7_init_23 rfl (lv_at hl 0 rfl) ?_
  refine lv_bipush (v := 9) hx hb dX7_init_24 (by decide) ?_
  replace hZ := hZ.tcall hF rfl
  replace hQ := hQ.tc hF rfl
  refine h_newI hx hb (hts (.arrayClass .int) (by decide +kernel)) g hA so_803 (by decide) (by decide) (by decide) (Nat.le_of_ble_eq_true rfl) (Nat.le_of_ble_eq_true rfl) dX7_init_26 (fun q6 H hq0 g => ?_)
  have n_q6 := hZ.fresh hq0 (fun h => h_neq t_a0 (by decide) hq0 (Option.some.inj h).symm)
  replace hu_q6 := hQ.1.u (q := q6) (t := 803) hq0
  replace hQ := hQ.nw (q := q6) (t := 803) hq0 (by decide)
  replace hI := hI.nw (q := q6) (t := 803) (f := fun _ => none)
  replace hR := hR.nw (q := q6) (t := 803) (f := fun _ => none) hq0 (fun k t2 n2 h => by cases (show (none : Option (Nat × Bool)) = some (t2, n2) from h))
  replace hZ := hZ.nw (q := q6) (t := 803) (f := fun _ => none) hq0 (L2 := L4) (fun _ _ => rfl)
  replace hz : h_row I0 q6 (fun _ => 0) a0 = (fun _ => 0) := (h_row_n (h_neq t_a0 (by decide) hq0)).trans hz
  replace Ra0_1 := h_nwr (q := q6) (t := 803) (f := fun _ => none) hq0 t_a0 (by decide) Ra0_1
  replace Ra0_2 := h_nwr (q := q6) (t := 803) (f := fun _ => none) hq0 t_a0 (by decide) Ra0_2
  replace t_a0 := h_nwk (q := q6) (t := 803) (f := fun _ => none) hq0 t_a0 (by decide)
  replace t_p0 := h_nwk (q := q6) (t := 803) (f := fun _ => none) hq0 t_p0 (by decide)
  replace tq1 := h_nwk (q := q6) (t := 803) (f := fun _ => none) hq0 tq1 (by decide)
  replace tq5 := h_nwk (q := q6) (t := 803) (f := fun _ => none) hq0 tq5 (by decide)
  replace tq6 : (z.nw q6 803 (fun _ => none)).ty q6 = 803 := nw_te
  obtain ⟨z, ez⟩ : ∃ z1 : tZ, z1 = (z.nw q6 803 (fun _ => none)) := ⟨_, rfl⟩
  rw [← ez] at g hI hR hZ hQ hu_q6 t_a0 t_p0 tq1 tq5 tq6 Ra0_1 Ra0_2
  clear ez
  obtain ⟨I0, eI⟩ : ∃ J : tI, J = h_row I0 q6 (fun _ => 0) := ⟨_, rfl⟩
  rw [← eI] at g hI hZ hQ hz
  clear eI
  replace hF : h_F [] z I0 I0 := h_F.rf
  refine W.cs (cells' := 3) (slots' := 73) rfl rfl ?_
  replace hZ := hZ.tcall hF rfl
  replace hQ := hQ.tc hF rfl
  refine h_putR (ty := tyX7 3) (v := q6) hx hb hts iX7 tyX7 tyX7_ok nmX7 hown g t_a0 (by decide) so_57 rfl 3 (by decide) rfl (hts (.fieldLink RX7 22 "CapLeague$RingSearch" "start" "[I") (by decide +kernel)) rfl rfl hin rfl (by decide +kernel) rfl rfl dX7_init_28 (fun H locs g => ?_)
  replace hQ := hQ.wR (a := a0) (k := 3) (v := q6) t_a0 (by decide) tq6 (by decide) (fun h9 => ⟨hu_q6, n_q6⟩)
  replace hR := hR.wR (k0 := 3) (v := some q6) t_a0 (fun _ => rfl)
  replace hZ := hZ.wR (a := a0) (k := 3) (v := some q6) (Or.inl rfl)
  replace hI : h_I (z.wR a0 3 (some q6)) I0 := hI
  replace t_a0 : (z.wR a0 3 (some q6)).ty a0 = 57 := t_a0
  replace t_p0 : (z.wR a0 3 (some q6)).ty p0 = 1 := t_p0
  replace tq1 : (z.wR a0 3 (some q6)).ty q1 = 2 := tq1
  replace tq5 : (z.wR a0 3 (some q6)).ty q5 = 802 := tq5
  replace tq6 : (z.wR a0 3 (some q6)).ty q6 = 803 := tq6
  replace Ra0_1 : (z.wR a0 3 (some q6)).R a0 1 = some q1 := (h_up_at (by decide)).trans Ra0_1
  replace Ra0_2 : (z.wR a0 3 (some q6)).R a0 2 = some q5 := (h_up_at (by decide)).trans Ra0_2
  replace Ra0_3 : (z.wR a0 3 (some q6)).R a0 3 = some q6 := h_up_eq
  obtain ⟨z, ez⟩ : ∃ z1 : tZ, z1 = (z.wR a0 3 (some q6)) := ⟨_, rfl⟩
  rw [← ez] at g hI hR hZ hQ t_a0 t_p0 tq1 tq5 tq6 Ra0_1 Ra0_2 Ra0_3
  clear ez
  replace hF : h_F [] z I0 I0 := h_F.rf
  refine lv_aload_n hx hb dX7_init_31 rfl (lv_at hl 0 rfl) ?_
  refine lv_bipush (v := 60) hx hb dX7_init_32 (by decide) ?_
  replace hZ := hZ.tcall hF rfl
  replace hQ := hQ.tc hF rfl
  refine h_newI hx hb (hts (.arrayClass .int) (by decide +kernel)) g hA so_804 (by decide) (by decide) (by decide) (Nat.le_of_ble_eq_true rfl) (Nat.le_of_ble_eq_true rfl) dX7_init_34 (fun q7 H hq0 g => ?_)
  have n_q7 := hZ.fresh hq0 (fun h => h_neq t_a0 (by decide) hq0 (Option.some.inj h).symm)
  replace hu_q7 := hQ.1.u (q := q7) (t := 804) hq0
  replace hQ := hQ.nw (q := q7) (t := 804) hq0 (by decide)
  replace hI := hI.nw (q := q7) (t := 804) (f := fun _ => none)
  replace hR := hR.nw (q := q7) (t := 804) (f := fun _ => none) hq0 (fun k t2 n2 h => by cases (show (none : Option (Nat × Bool)) = some (t2, n2) from h))
  replace hZ := hZ.nw (q := q7) (t := 804) (f := fun _ => none) hq0 (L2 := L4) (fun _ _ => rfl)
  replace hz : h_row I0 q7 (fun _ => 0) a0 = (fun _ => 0) := (h_row_n (h_neq t_a0 (by decide) hq0)).trans hz
  replace Ra0_1 := h_nwr (q := q7) (t := 804) (f := fun _ => none) hq0 t_a0 (by decide) Ra0_1
  replace Ra0_2 := h_nwr (q := q7) (t := 804) (f := fun _ => none) hq0 t_a0 (by decide) Ra0_2
  replace Ra0_3 := h_nwr (q := q7) (t := 804) (f := fun _ => none) hq0 t_a0 (by decide) Ra0_3
  replace t_a0 := h_nwk (q := q7) (t := 804) (f := fun _ => none) hq0 t_a0 (by decide)
  replace t_p0 := h_nwk (q := q7) (t := 804) (f := fun _ => none) hq0 t_p0 (by decide)
  replace tq1 := h_nwk (q := q7) (t := 804) (f := fun _ => none) hq0 tq1 (by decide)
  replace tq5 := h_nwk (q := q7) (t := 804) (f := fun _ => none) hq0 tq5 (by decide)
  replace tq6 := h_nwk (q := q7) (t := 804) (f := fun _ => none) hq0 tq6 (by decide)
  replace tq7 : (z.nw q7 804 (fun _ => none)).ty q7 = 804 := nw_te
  obtain ⟨z, ez⟩ : ∃ z1 : tZ, z1 = (z.nw q7 804 (fun _ => none)) := ⟨_, rfl⟩
  rw [← ez] at g hI hR hZ hQ hu_q7 t_a0 t_p0 tq1 tq5 tq6 tq7 Ra0_1 Ra0_2 Ra0_3
  clear ez
  obtain ⟨I0, eI⟩ : ∃ J : tI, J = h_row I0 q7 (fun _ => 0) := ⟨_, rfl⟩
  rw [← eI] at g hI hZ hQ hz
  clear eI
  replace hF : h_F [] z I0 I0 := h_F.rf
  refine W.cs (cells' := 4) (slots' := 133) rfl rfl ?_
  replace hZ := hZ.tcall hF rfl
  replace hQ := hQ.tc hF rfl
  refine h_putR (ty := tyX7 4) (v := q7) hx hb hts iX7 tyX7 tyX7_ok nmX7 hown g t_a0 (by decide) so_57 rfl 4 (by decide) rfl (hts (.fieldLink RX7 25 "CapLeague$RingSearch" "pays" "[I") (by decide +kernel)) rfl rfl hin rfl (by decide +kernel) rfl rfl dX7_init_36 (fun H locs g => ?_)
  replace hQ := hQ.wR (a := a0) (k := 4) (v := q7) t_a0 (by decide) tq7 (by decide) (fun h9 => ⟨hu_q7, n_q7⟩)
  replace hR := hR.wR (k0 := 4) (v := some q7) t_a0 (fun _ => rfl)
  replace hZ := hZ.wR (a := a0) (k := 4) (v := some q7) (Or.inl rfl)
  replace hI : h_I (z.wR a0 4 (some q7)) I0 := hI
  replace t_a0 : (z.wR a0 4 (some q7)).ty a0 = 57 := t_a0
  replace t_p0 : (z.wR a0 4 (some q7)).ty p0 = 1 := t_p0
  replace tq1 : (z.wR a0 4 (some q7)).ty q1 = 2 := tq1
  replace tq5 : (z.wR a0 4 (some q7)).ty q5 = 802 := tq5
  replace tq6 : (z.wR a0 4 (some q7)).ty q6 = 803 := tq6
  replace tq7 : (z.wR a0 4 (some q7)).ty q7 = 804 := tq7
  replace Ra0_1 : (z.wR a0 4 (some q7)).R a0 1 = some q1 := (h_up_at (by decide)).trans Ra0_1
  replace Ra0_2 : (z.wR a0 4 (some q7)).R a0 2 = some q5 := (h_up_at (by decide)).trans Ra0_2
  replace Ra0_3 : (z.wR a0 4 (some q7)).R a0 3 = some q6 := (h_up_at (by decide)).trans Ra0_3
  replace Ra0_4 : (z.wR a0 4 (some q7)).R a0 4 = some q7 := h_up_eq
  obtain ⟨z, ez⟩ : ∃ z1 : tZ, z1 = (z.wR a0 4 (some q7)) := ⟨_, rfl⟩
  rw [← ez] at g hI hR hZ hQ t_a0 t_p0 tq1 tq5 tq6 tq7 Ra0_1 Ra0_2 Ra0_3 Ra0_4
  clear ez
  replace hF : h_F [] z I0 I0 := h_F.rf
  refine lv_aload_n hx hb dX7_init_39 rfl (lv_at hl 0 rfl) ?_
  refine lv_bipush (v := 60) hx hb dX7_init_40 (by decide) ?_
  replace hZ := hZ.tcall hF rfl
  replace hQ := hQ.tc hF rfl
  refine h_newI hx hb (hts (.arrayClass .int) (by decide +kernel)) g hA so_805 (by decide) (by decide) (by decide) (Nat.le_of_ble_eq_true rfl) (Nat.le_of_ble_eq_true rfl) dX7_init_42 (fun q8 H hq0 g => ?_)
  have n_q8 := hZ.fresh hq0 (fun h => h_neq t_a0 (by decide) hq0 (Option.some.inj h).symm)
  replace hu_q8 := hQ.1.u (q := q8) (t := 805) hq0
  replace hQ := hQ.nw (q := q8) (t := 805) hq0 (by decide)
  replace hI := hI.nw (q := q8) (t := 805) (f := fun _ => none)
  replace hR := hR.nw (q := q8) (t := 805) (f := fun _ => none) hq0 (fun k t2 n2 h => by cases (show (none : Option (Nat × Bool)) = some (t2, n2) from h))
  replace hZ := hZ.nw (q := q8) (t := 805) (f := fun _ => none) hq0 (L2 := L4) (fun _ _ => rfl)
  replace hz : h_row I0 q8 (fun _ => 0) a0 = (fun _ => 0) := (h_row_n (h_neq t_a0 (by decide) hq0)).trans hz
  replace Ra0_1 := h_nwr (q := q8) (t := 805) (f := fun _ => none) hq0 t_a0 (by decide) Ra0_1
  replace Ra0_2 := h_nwr (q := q8) (t := 805) (f := fun _ => none) hq0 t_a0 (by decide) Ra0_2
  replace Ra0_3 := h_nwr (q := q8) (t := 805) (f := fun _ => none) hq0 t_a0 (by decide) Ra0_3
  replace Ra0_4 := h_nwr (q := q8) (t := 805) (f := fun _ => none) hq0 t_a0 (by decide) Ra0_4
  replace t_a0 := h_nwk (q := q8) (t := 805) (f := fun _ => none) hq0 t_a0 (by decide)
  replace t_p0 := h_nwk (q := q8) (t := 805) (f := fun _ => none) hq0 t_p0 (by decide)
  replace tq1 := h_nwk (q := q8) (t := 805) (f := fun _ => none) hq0 tq1 (by decide)
  replace tq5 := h_nwk (q := q8) (t := 805) (f := fun _ => none) hq0 tq5 (by decide)
  replace tq6 := h_nwk (q := q8) (t := 805) (f := fun _ => none) hq0 tq6 (by decide)
  replace tq7 := h_nwk (q := q8) (t := 805) (f := fun _ => none) hq0 tq7 (by decide)
  replace tq8 : (z.nw q8 805 (fun _ => none)).ty q8 = 805 := nw_te
  obtain ⟨z, ez⟩ : ∃ z1 : tZ, z1 = (z.nw q8 805 (fun _ => none)) := ⟨_, rfl⟩
  rw [← ez] at g hI hR hZ hQ hu_q8 t_a0 t_p0 tq1 tq5 tq6 tq7 tq8 Ra0_1 Ra0_2 Ra0_3 Ra0_4
  clear ez
  obtain ⟨I0, eI⟩ : ∃ J : tI, J = h_row I0 q8 (fun _ => 0) := ⟨_, rfl⟩
  rw [← eI] at g hI hZ hQ hz
  clear eI
  replace hF : h_F [] z I0 I0 := h_F.rf
  refine W.cs (cells' := 5) (slots' := 193) rfl rfl ?_
  replace hZ := hZ.tcall hF rfl
  replace hQ := hQ.tc hF rfl
  refine h_putR (ty := tyX7 5) (v := q8) hx hb hts iX7 tyX7 tyX7_ok nmX7 hown g t_a0 (by decide) so_57 rfl 5 (by decide) rfl (hts (.fieldLink RX7 28 "CapLeague$RingSearch" "counts" "[I") (by decide +kernel)) rfl rfl hin rfl (by decide +kernel) rfl rfl dX7_init_44 (fun H locs g => ?_)
  replace hQ := hQ.wR (a := a0) (k := 5) (v := q8) t_a0 (by decide) tq8 (by decide) (fun h9 => ⟨hu_q8, n_q8⟩)
  replace hR := hR.wR (k0 := 5) (v := some q8) t_a0 (fun _ => rfl)
  replace hZ := hZ.wR (a := a0) (k := 5) (v := some q8) (Or.inl rfl)
  replace hI : h_I (z.wR a0 5 (some q8)) I0 := hI
  replace t_a0 : (z.wR a0 5 (some q8)).ty a0 = 57 := t_a0
  replace t_p0 : (z.wR a0 5 (some q8)).ty p0 = 1 := t_p0
  replace tq1 : (z.wR a0 5 (some q8)).ty q1 = 2 := tq1
  replace tq5 : (z.wR a0 5 (some q8)).ty q5 = 802 := tq5
  replace tq6 : (z.wR a0 5 (some q8)).ty q6 = 803 := tq6
  replace tq7 : (z.wR a0 5 (some q8)).ty q7 = 804 := tq7
  replace tq8 : (z.wR a0 5 (some q8)).ty q8 = 805 := tq8
  replace Ra0_1 : (z.wR a0 5 (some q8)).R a0 1 = some q1 := (h_up_at (by decide)).trans Ra0_1
  replace Ra0_2 : (z.wR a0 5 (some q8)).R a0 2 = some q5 := (h_up_at (by decide)).trans Ra0_2
  replace Ra0_3 : (z.wR a0 5 (some q8)).R a0 3 = some q6 := (h_up_at (by decide)).trans Ra0_3
  replace Ra0_4 : (z.wR a0 5 (some q8)).R a0 4 = some q7 := (h_up_at (by decide)).trans Ra0_4
  replace Ra0_5 : (z.wR a0 5 (some q8)).R a0 5 = some q8 := h_up_eq
  obtain ⟨z, ez⟩ : ∃ z1 : tZ, z1 = (z.wR a0 5 (some q8)) := ⟨_, rfl⟩
  rw [← ez] at g hI hR hZ hQ t_a0 t_p0 tq1 tq5 tq6 tq7 tq8 Ra0_1 Ra0_2 Ra0_3 Ra0_4 Ra0_5
  clear ez
  replace hF : h_F [] z I0 I0 := h_F.rf
  refine lv_aload_n hx hb dX7_init_47 rfl (lv_at hl 0 rfl) ?_
  refine lv_bipush (v := 60) hx hb dX7_init_48 (by decide) ?_
  refine lv_bipush (v := 60) hx hb dX7_init_50 (by decide) ?_
  replace hZ := hZ.tcall hF rfl
  replace hQ := hQ.tc hF rfl
  refine h_newG (N := 60) (M := 60) hx hb hown (hts (.classLink RX7 31 "[[I") (by decide +kernel)) hE.2.2.2.2 (hts (.arrayClass .int) (by decide +kernel)) g hA so_806 so_856 (by decide) (by decide) (by decide) (by decide) (by decide) (by decide) (Nat.le_of_ble_eq_true rfl) (Nat.le_of_ble_eq_true rfl) dX7_init_52 (fun q9 H locs hq0 g => ?_)
  have n_q9 := hZ.fresh (hq0 q9 (Nat.le_refl _) (Nat.le_add_right _ _)) (fun h => h_neq t_a0 (by decide) (hq0 q9 (Nat.le_refl _) (Nat.le_add_right _ _)) (Option.some.inj h).symm)
  replace hu_q9 := hQ.1.ug (q := q9) (t := 806) (tr := 856) hq0
  replace hQ := hQ.nwg (q := q9) (t := 806) (tr := 856) (N := 60) hq0 (by decide) (by decide)
  replace hI := hI.nwg (q := q9) (t := 806) (tr := 856) (N := 60)
  replace hR := hR.nwg (q := q9) (t := 806) (tr := 856) (N := 60) hq0 (fun k t2 n2 h => by have e9 : some (856, false) = some (t2, n2) := h; cases e9; rfl) rfl (fun _ => rfl)
  replace hZ := hZ.nwg (q := q9) (t := 806) (tr := 856) (N := 60) hq0
  replace hz : h_rows I0 q9 60 a0 = (fun _ => 0) := (h_rows_n (fun h => h_neq t_a0 (by decide) (hq0 a0 h.1 h.2) rfl)).trans hz
  replace Ra0_1 := h_ngr (t := 806) (tr := 856) hq0 t_a0 (by decide) Ra0_1
  replace Ra0_2 := h_ngr (t := 806) (tr := 856) hq0 t_a0 (by decide) Ra0_2
  replace Ra0_3 := h_ngr (t := 806) (tr := 856) hq0 t_a0 (by decide) Ra0_3
  replace Ra0_4 := h_ngr (t := 806) (tr := 856) hq0 t_a0 (by decide) Ra0_4
  replace Ra0_5 := h_ngr (t := 806) (tr := 856) hq0 t_a0 (by decide) Ra0_5
  replace t_a0 := h_ngk (t := 806) (tr := 856) hq0 t_a0 (by decide)
  replace t_p0 := h_ngk (t := 806) (tr := 856) hq0 t_p0 (by decide)
  replace tq1 := h_ngk (t := 806) (tr := 856) hq0 tq1 (by decide)
  replace tq5 := h_ngk (t := 806) (tr := 856) hq0 tq5 (by decide)
  replace tq6 := h_ngk (t := 806) (tr := 856) hq0 tq6 (by decide)
  replace tq7 := h_ngk (t := 806) (tr := 856) hq0 tq7 (by decide)
  replace tq8 := h_ngk (t := 806) (tr := 856) hq0 tq8 (by decide)
  replace tq9 : (z.nwg q9 806 856 60).ty q9 = 806 := ng_te
  obtain ⟨z, ez⟩ : ∃ z1 : tZ, z1 = (z.nwg q9 806 856 60) := ⟨_, rfl⟩
  rw [← ez] at g hI hR hZ hQ hu_q9 t_a0 t_p0 tq1 tq5 tq6 tq7 tq8 tq9 Ra0_1 Ra0_2 Ra0_3 Ra0_4 Ra0_5
  clear ez
  obtain ⟨I0, eI⟩ : ∃ J : tI, J = h_rows I0 q9 60 := ⟨_, rfl⟩
  rw [← eI] at g hI hZ hQ hz
  clear eI
  replace hF : h_F [] z I0 I0 := h_F.rf
  refine W.cs (cells' := 66) (slots' := 3853) rfl rfl ?_
  replace hZ := hZ.tcall hF rfl
  replace hQ := hQ.tc hF rfl
  refine h_putR (ty := tyX7 6) (v := q9) hx hb hts iX7 tyX7 tyX7_ok nmX7 hown g t_a0 (by decide) so_57 rfl 6 (by decide) rfl (hts (.fieldLink RX7 33 "CapLeague$RingSearch" "gains" "[[I") (by decide +kernel)) rfl rfl hin rfl (by decide +kernel) rfl rfl dX7_init_56 (fun H locs g => ?_)
  replace hQ := hQ.wR (a := a0) (k := 6) (v := q9) t_a0 (by decide) tq9 (by decide) (fun h9 => ⟨hu_q9, n_q9⟩)
  replace hR := hR.wR (k0 := 6) (v := some q9) t_a0 (fun _ => rfl)
  replace hZ := hZ.wR (a := a0) (k := 6) (v := some q9) (Or.inl rfl)
  replace hI : h_I (z.wR a0 6 (some q9)) I0 := hI
  replace t_a0 : (z.wR a0 6 (some q9)).ty a0 = 57 := t_a0
  replace t_p0 : (z.wR a0 6 (some q9)).ty p0 = 1 := t_p0
  replace tq1 : (z.wR a0 6 (some q9)).ty q1 = 2 := tq1
  replace tq5 : (z.wR a0 6 (some q9)).ty q5 = 802 := tq5
  replace tq6 : (z.wR a0 6 (some q9)).ty q6 = 803 := tq6
  replace tq7 : (z.wR a0 6 (some q9)).ty q7 = 804 := tq7
  replace tq8 : (z.wR a0 6 (some q9)).ty q8 = 805 := tq8
  replace tq9 : (z.wR a0 6 (some q9)).ty q9 = 806 := tq9
  replace Ra0_1 : (z.wR a0 6 (some q9)).R a0 1 = some q1 := (h_up_at (by decide)).trans Ra0_1
  replace Ra0_2 : (z.wR a0 6 (some q9)).R a0 2 = some q5 := (h_up_at (by decide)).trans Ra0_2
  replace Ra0_3 : (z.wR a0 6 (some q9)).R a0 3 = some q6 := (h_up_at (by decide)).trans Ra0_3
  replace Ra0_4 : (z.wR a0 6 (some q9)).R a0 4 = some q7 := (h_up_at (by decide)).trans Ra0_4
  replace Ra0_5 : (z.wR a0 6 (some q9)).R a0 5 = some q8 := (h_up_at (by decide)).trans Ra0_5
  replace Ra0_6 : (z.wR a0 6 (some q9)).R a0 6 = some q9 := h_up_eq
  obtain ⟨z, ez⟩ : ∃ z1 : tZ, z1 = (z.wR a0 6 (some q9)) := ⟨_, rfl⟩
  rw [← ez] at g hI hR hZ hQ t_a0 t_p0 tq1 tq5 tq6 tq7 tq8 tq9 Ra0_1 Ra0_2 Ra0_3 Ra0_4 Ra0_5 Ra0_6
  clear ez
  replace hF : h_F [] z I0 I0 := h_F.rf
  refine lv_aload_n hx hb dX7_init_59 rfl (lv_at hl 0 rfl) ?_
  refine lv_bipush (v := 60) hx hb dX7_init_60 (by decide) ?_
  replace hZ := hZ.tcall hF rfl
  replace hQ := hQ.tc hF rfl
  refine h_newI hx hb (hts (.arrayClass .int) (by decide +kernel)) g hA so_807 (by decide) (by decide) (by decide) (Nat.le_of_ble_eq_true rfl) (Nat.le_of_ble_eq_true rfl) dX7_init_62 (fun q10 H hq0 g => ?_)
  have n_q10 := hZ.fresh hq0 (fun h => h_neq t_a0 (by decide) hq0 (Option.some.inj h).symm)
  replace hu_q10 := hQ.1.u (q := q10) (t := 807) hq0
  replace hQ := hQ.nw (q := q10) (t := 807) hq0 (by decide)
  replace hI := hI.nw (q := q10) (t := 807) (f := fun _ => none)
  replace hR := hR.nw (q := q10) (t := 807) (f := fun _ => none) hq0 (fun k t2 n2 h => by cases (show (none : Option (Nat × Bool)) = some (t2, n2) from h))
  replace hZ := hZ.nw (q := q10) (t := 807) (f := fun _ => none) hq0 (L2 := L4) (fun _ _ => rfl)
  replace hz : h_row I0 q10 (fun _ => 0) a0 = (fun _ => 0) := (h_row_n (h_neq t_a0 (by decide) hq0)).trans hz
  replace Ra0_1 := h_nwr (q := q10) (t := 807) (f := fun _ => none) hq0 t_a0 (by decide) Ra0_1
  replace Ra0_2 := h_nwr (q := q10) (t := 807) (f := fun _ => none) hq0 t_a0 (by decide) Ra0_2
  replace Ra0_3 := h_nwr (q := q10) (t := 807) (f := fun _ => none) hq0 t_a0 (by decide) Ra0_3
  replace Ra0_4 := h_nwr (q := q10) (t := 807) (f := fun _ => none) hq0 t_a0 (by decide) Ra0_4
  replace Ra0_5 := h_nwr (q := q10) (t := 807) (f := fun _ => none) hq0 t_a0 (by decide) Ra0_5
  replace Ra0_6 := h_nwr (q := q10) (t := 807) (f := fun _ => none) hq0 t_a0 (by decide) Ra0_6
  replace t_a0 := h_nwk (q := q10) (t := 807) (f := fun _ => none) hq0 t_a0 (by decide)
  replace t_p0 := h_nwk (q := q10) (t := 807) (f := fun _ => none) hq0 t_p0 (by decide)
  replace tq1 := h_nwk (q := q10) (t := 807) (f := fun _ => none) hq0 tq1 (by decide)
  replace tq5 := h_nwk (q := q10) (t := 807) (f := fun _ => none) hq0 tq5 (by decide)
  replace tq6 := h_nwk (q := q10) (t := 807) (f := fun _ => none) hq0 tq6 (by decide)
  replace tq7 := h_nwk (q := q10) (t := 807) (f := fun _ => none) hq0 tq7 (by decide)
  replace tq8 := h_nwk (q := q10) (t := 807) (f := fun _ => none) hq0 tq8 (by decide)
  replace tq9 := h_nwk (q := q10) (t := 807) (f := fun _ => none) hq0 tq9 (by decide)
  replace tq10 : (z.nw q10 807 (fun _ => none)).ty q10 = 807 := nw_te
  obtain ⟨z, ez⟩ : ∃ z1 : tZ, z1 = (z.nw q10 807 (fun _ => none)) := ⟨_, rfl⟩
  rw [← ez] at g hI hR hZ hQ hu_q10 t_a0 t_p0 tq1 tq5 tq6 tq7 tq8 tq9 tq10 Ra0_1 Ra0_2 Ra0_3 Ra0_4 Ra0_5 Ra0_6
  clear ez
  obtain ⟨I0, eI⟩ : ∃ J : tI, J = h_row I0 q10 (fun _ => 0) := ⟨_, rfl⟩
  rw [← eI] at g hI hZ hQ hz
  clear eI
  replace hF : h_F [] z I0 I0 := h_F.rf
  refine W.cs (cells' := 67) (slots' := 3913) rfl rfl ?_
  replace hZ := hZ.tcall hF rfl
  replace hQ := hQ.tc hF rfl
  refine h_putR (ty := tyX7 7) (v := q10) hx hb hts iX7 tyX7 tyX7_ok nmX7 hown g t_a0 (by decide) so_57 rfl 7 (by decide) rfl (hts (.fieldLink RX7 36 "CapLeague$RingSearch" "playerTop" "[I") (by decide +kernel)) rfl rfl hin rfl (by decide +kernel) rfl rfl dX7_init_64 (fun H locs g => ?_)
  replace hQ := hQ.wR (a := a0) (k := 7) (v := q10) t_a0 (by decide) tq10 (by decide) (fun h9 => ⟨hu_q10, n_q10⟩)
  replace hR := hR.wR (k0 := 7) (v := some q10) t_a0 (fun _ => rfl)
  replace hZ := hZ.wR (a := a0) (k := 7) (v := some q10) (Or.inl rfl)
  replace hI : h_I (z.wR a0 7 (some q10)) I0 := hI
  replace t_a0 : (z.wR a0 7 (some q10)).ty a0 = 57 := t_a0
  replace t_p0 : (z.wR a0 7 (some q10)).ty p0 = 1 := t_p0
  replace tq1 : (z.wR a0 7 (some q10)).ty q1 = 2 := tq1
  replace tq5 : (z.wR a0 7 (some q10)).ty q5 = 802 := tq5
  replace tq6 : (z.wR a0 7 (some q10)).ty q6 = 803 := tq6
  replace tq7 : (z.wR a0 7 (some q10)).ty q7 = 804 := tq7
  replace tq8 : (z.wR a0 7 (some q10)).ty q8 = 805 := tq8
  replace tq9 : (z.wR a0 7 (some q10)).ty q9 = 806 := tq9
  replace tq10 : (z.wR a0 7 (some q10)).ty q10 = 807 := tq10
  replace Ra0_1 : (z.wR a0 7 (some q10)).R a0 1 = some q1 := (h_up_at (by decide)).trans Ra0_1
  replace Ra0_2 : (z.wR a0 7 (some q10)).R a0 2 = some q5 := (h_up_at (by decide)).trans Ra0_2
  replace Ra0_3 : (z.wR a0 7 (some q10)).R a0 3 = some q6 := (h_up_at (by decide)).trans Ra0_3
  replace Ra0_4 : (z.wR a0 7 (some q10)).R a0 4 = some q7 := (h_up_at (by decide)).trans Ra0_4
  replace Ra0_5 : (z.wR a0 7 (some q10)).R a0 5 = some q8 := (h_up_at (by decide)).trans Ra0_5
  replace Ra0_6 : (z.wR a0 7 (some q10)).R a0 6 = some q9 := (h_up_at (by decide)).trans Ra0_6
  replace Ra0_7 : (z.wR a0 7 (some q10)).R a0 7 = some q10 := h_up_eq
  obtain ⟨z, ez⟩ : ∃ z1 : tZ, z1 = (z.wR a0 7 (some q10)) := ⟨_, rfl⟩
  rw [← ez] at g hI hR hZ hQ t_a0 t_p0 tq1 tq5 tq6 tq7 tq8 tq9 tq10 Ra0_1 Ra0_2 Ra0_3 Ra0_4 Ra0_5 Ra0_6 Ra0_7
  clear ez
  replace hF : h_F [] z I0 I0 := h_F.rf
  refine lv_aload_n hx hb dX7_init_67 rfl (lv_at hl 0 rfl) ?_
  refine lv_bipush (v := 8) hx hb dX7_init_68 (by decide) ?_
  replace hZ := hZ.tcall hF rfl
  replace hQ := hQ.tc hF rfl
  refine h_newI hx hb (hts (.arrayClass .int) (by decide +kernel)) g hA so_808 (by decide) (by decide) (by decide) (Nat.le_of_ble_eq_true rfl) (Nat.le_of_ble_eq_true rfl) dX7_init_70 (fun q11 H hq0 g => ?_)
  have n_q11 := hZ.fresh hq0 (fun h => h_neq t_a0 (by decide) hq0 (Option.some.inj h).symm)
  replace hu_q11 := hQ.1.u (q := q11) (t := 808) hq0
  replace hQ := hQ.nw (q := q11) (t := 808) hq0 (by decide)
  replace hI := hI.nw (q := q11) (t := 808) (f := fun _ => none)
  replace hR := hR.nw (q := q11) (t := 808) (f := fun _ => none) hq0 (fun k t2 n2 h => by cases (show (none : Option (Nat × Bool)) = some (t2, n2) from h))
  replace hZ := hZ.nw (q := q11) (t := 808) (f := fun _ => none) hq0 (L2 := L4) (fun _ _ => rfl)
  replace hz : h_row I0 q11 (fun _ => 0) a0 = (fun _ => 0) := (h_row_n (h_neq t_a0 (by decide) hq0)).trans hz
  replace Ra0_1 := h_nwr (q := q11) (t := 808) (f := fun _ => none) hq0 t_a0 (by decide) Ra0_1
  replace Ra0_2 := h_nwr (q := q11) (t := 808) (f := fun _ => none) hq0 t_a0 (by decide) Ra0_2
  replace Ra0_3 := h_nwr (q := q11) (t := 808) (f := fun _ => none) hq0 t_a0 (by decide) Ra0_3
  replace Ra0_4 := h_nwr (q := q11) (t := 808) (f := fun _ => none) hq0 t_a0 (by decide) Ra0_4
  replace Ra0_5 := h_nwr (q := q11) (t := 808) (f := fun _ => none) hq0 t_a0 (by decide) Ra0_5
  replace Ra0_6 := h_nwr (q := q11) (t := 808) (f := fun _ => none) hq0 t_a0 (by decide) Ra0_6
  replace Ra0_7 := h_nwr (q := q11) (t := 808) (f := fun _ => none) hq0 t_a0 (by decide) Ra0_7
  replace t_a0 := h_nwk (q := q11) (t := 808) (f := fun _ => none) hq0 t_a0 (by decide)
  replace t_p0 := h_nwk (q := q11) (t := 808) (f := fun _ => none) hq0 t_p0 (by decide)
  replace tq1 := h_nwk (q := q11) (t := 808) (f := fun _ => none) hq0 tq1 (by decide)
  replace tq5 := h_nwk (q := q11) (t := 808) (f := fun _ => none) hq0 tq5 (by decide)
  replace tq6 := h_nwk (q := q11) (t := 808) (f := fun _ => none) hq0 tq6 (by decide)
  replace tq7 := h_nwk (q := q11) (t := 808) (f := fun _ => none) hq0 tq7 (by decide)
  replace tq8 := h_nwk (q := q11) (t := 808) (f := fun _ => none) hq0 tq8 (by decide)
  replace tq9 := h_nwk (q := q11) (t := 808) (f := fun _ => none) hq0 tq9 (by decide)
  replace tq10 := h_nwk (q := q11) (t := 808) (f := fun _ => none) hq0 tq10 (by decide)
  replace tq11 : (z.nw q11 808 (fun _ => none)).ty q11 = 808 := nw_te
  obtain ⟨z, ez⟩ : ∃ z1 : tZ, z1 = (z.nw q11 808 (fun _ => none)) := ⟨_, rfl⟩
  rw [← ez] at g hI hR hZ hQ hu_q11 t_a0 t_p0 tq1 tq5 tq6 tq7 tq8 tq9 tq10 tq11 Ra0_1 Ra0_2 Ra0_3 Ra0_4 Ra0_5 Ra0_6 Ra0_7
  clear ez
  obtain ⟨I0, eI⟩ : ∃ J : tI, J = h_row I0 q11 (fun _ => 0) := ⟨_, rfl⟩
  rw [← eI] at g hI hZ hQ hz
  clear eI
  replace hF : h_F [] z I0 I0 := h_F.rf
  refine W.cs (cells' := 68) (slots' := 3921) rfl rfl ?_
  replace hZ := hZ.tcall hF rfl
  replace hQ := hQ.tc hF rfl
  refine h_putR (ty := tyX7 8) (v := q11) hx hb hts iX7 tyX7 tyX7_ok nmX7 hown g t_a0 (by decide) so_57 rfl 8 (by decide) rfl (hts (.fieldLink RX7 39 "CapLeague$RingSearch" "clubTop" "[I") (by decide +kernel)) rfl rfl hin rfl (by decide +kernel) rfl rfl dX7_init_72 (fun H locs g => ?_)
  replace hQ := hQ.wR (a := a0) (k := 8) (v := q11) t_a0 (by decide) tq11 (by decide) (fun h9 => ⟨hu_q11, n_q11⟩)
  replace hR := hR.wR (k0 := 8) (v := some q11) t_a0 (fun _ => rfl)
  replace hZ := hZ.wR (a := a0) (k := 8) (v := some q11) (Or.inl rfl)
  replace hI : h_I (z.wR a0 8 (some q11)) I0 := hI
  replace t_a0 : (z.wR a0 8 (some q11)).ty a0 = 57 := t_a0
  replace t_p0 : (z.wR a0 8 (some q11)).ty p0 = 1 := t_p0
  replace tq1 : (z.wR a0 8 (some q11)).ty q1 = 2 := tq1
  replace tq5 : (z.wR a0 8 (some q11)).ty q5 = 802 := tq5
  replace tq6 : (z.wR a0 8 (some q11)).ty q6 = 803 := tq6
  replace tq7 : (z.wR a0 8 (some q11)).ty q7 = 804 := tq7
  replace tq8 : (z.wR a0 8 (some q11)).ty q8 = 805 := tq8
  replace tq9 : (z.wR a0 8 (some q11)).ty q9 = 806 := tq9
  replace tq10 : (z.wR a0 8 (some q11)).ty q10 = 807 := tq10
  replace tq11 : (z.wR a0 8 (some q11)).ty q11 = 808 := tq11
  replace Ra0_1 : (z.wR a0 8 (some q11)).R a0 1 = some q1 := (h_up_at (by decide)).trans Ra0_1
  replace Ra0_2 : (z.wR a0 8 (some q11)).R a0 2 = some q5 := (h_up_at (by decide)).trans Ra0_2
  replace Ra0_3 : (z.wR a0 8 (some q11)).R a0 3 = some q6 := (h_up_at (by decide)).trans Ra0_3
  replace Ra0_4 : (z.wR a0 8 (some q11)).R a0 4 = some q7 := (h_up_at (by decide)).trans Ra0_4
  replace Ra0_5 : (z.wR a0 8 (some q11)).R a0 5 = some q8 := (h_up_at (by decide)).trans Ra0_5
  replace Ra0_6 : (z.wR a0 8 (some q11)).R a0 6 = some q9 := (h_up_at (by decide)).trans Ra0_6
  replace Ra0_7 : (z.wR a0 8 (some q11)).R a0 7 = some q10 := (h_up_at (by decide)).trans Ra0_7
  replace Ra0_8 : (z.wR a0 8 (some q11)).R a0 8 = some q11 := h_up_eq
  obtain ⟨z, ez⟩ : ∃ z1 : tZ, z1 = (z.wR a0 8 (some q11)) := ⟨_, rfl⟩
  rw [← ez] at g hI hR hZ hQ t_a0 t_p0 tq1 tq5 tq6 tq7 tq8 tq9 tq10 tq11 Ra0_1 Ra0_2 Ra0_3 Ra0_4 Ra0_5 Ra0_6 Ra0_7 Ra0_8
  clear ez
  replace hF : h_F [] z I0 I0 := h_F.rf
  refine lv_aload_n hx hb dX7_init_75 rfl (lv_at hl 0 rfl) ?_
  refine lv_iconst (v := 3) hx hb dX7_init_76 (by decide) ?_
  replace hZ := hZ.tcall hF rfl
  replace hQ := hQ.tc hF rfl
  refine h_newI hx hb (hts (.arrayClass .int) (by decide +kernel)) g hA so_811 (by decide) (by decide) (by decide) (Nat.le_of_ble_eq_true rfl) (Nat.le_of_ble_eq_true rfl) dX7_init_77 (fun q12 H hq0 g => ?_)
  have n_q12 := hZ.fresh hq0 (fun h => h_neq t_a0 (by decide) hq0 (Option.some.inj h).symm)
  replace hu_q12 := hQ.1.u (q := q12) (t := 811) hq0
  replace hQ := hQ.nw (q := q12) (t := 811) hq0 (by decide)
  replace hI := hI.nw (q := q12) (t := 811) (f := fun _ => none)
  replace hR := hR.nw (q := q12) (t := 811) (f := fun _ => none) hq0 (fun k t2 n2 h => by cases (show (none : Option (Nat × Bool)) = some (t2, n2) from h))
  replace hZ := hZ.nw (q := q12) (t := 811) (f := fun _ => none) hq0 (L2 := L4) (fun _ _ => rfl)
  replace hz : h_row I0 q12 (fun _ => 0) a0 = (fun _ => 0) := (h_row_n (h_neq t_a0 (by decide) hq0)).trans hz
  replace Ra0_1 := h_nwr (q := q12) (t := 811) (f := fun _ => none) hq0 t_a0 (by decide) Ra0_1
  replace Ra0_2 := h_nwr (q := q12) (t := 811) (f := fun _ => none) hq0 t_a0 (by decide) Ra0_2
  replace Ra0_3 := h_nwr (q := q12) (t := 811) (f := fun _ => none) hq0 t_a0 (by decide) Ra0_3
  replace Ra0_4 := h_nwr (q := q12) (t := 811) (f := fun _ => none) hq0 t_a0 (by decide) Ra0_4
  replace Ra0_5 := h_nwr (q := q12) (t := 811) (f := fun _ => none) hq0 t_a0 (by decide) Ra0_5
  replace Ra0_6 := h_nwr (q := q12) (t := 811) (f := fun _ => none) hq0 t_a0 (by decide) Ra0_6
  replace Ra0_7 := h_nwr (q := q12) (t := 811) (f := fun _ => none) hq0 t_a0 (by decide) Ra0_7
  replace Ra0_8 := h_nwr (q := q12) (t := 811) (f := fun _ => none) hq0 t_a0 (by decide) Ra0_8
  replace t_a0 := h_nwk (q := q12) (t := 811) (f := fun _ => none) hq0 t_a0 (by decide)
  replace t_p0 := h_nwk (q := q12) (t := 811) (f := fun _ => none) hq0 t_p0 (by decide)
  replace tq1 := h_nwk (q := q12) (t := 811) (f := fun _ => none) hq0 tq1 (by decide)
  replace tq5 := h_nwk (q := q12) (t := 811) (f := fun _ => none) hq0 tq5 (by decide)
  replace tq6 := h_nwk (q := q12) (t := 811) (f := fun _ => none) hq0 tq6 (by decide)
  replace tq7 := h_nwk (q := q12) (t := 811) (f := fun _ => none) hq0 tq7 (by decide)
  replace tq8 := h_nwk (q := q12) (t := 811) (f := fun _ => none) hq0 tq8 (by decide)
  replace tq9 := h_nwk (q := q12) (t := 811) (f := fun _ => none) hq0 tq9 (by decide)
  replace tq10 := h_nwk (q := q12) (t := 811) (f := fun _ => none) hq0 tq10 (by decide)
  replace tq11 := h_nwk (q := q12) (t := 811) (f := fun _ => none) hq0 tq11 (by decide)
  replace tq12 : (z.nw q12 811 (fun _ => none)).ty q12 = 811 := nw_te
  obtain ⟨z, ez⟩ : ∃ z1 : tZ, z1 = (z.nw q12 811 (fun _ => none)) := ⟨_, rfl⟩
  rw [← ez] at g hI hR hZ hQ hu_q12 t_a0 t_p0 tq1 tq5 tq6 tq7 tq8 tq9 tq10 tq11 tq12 Ra0_1 Ra0_2 Ra0_3 Ra0_4 Ra0_5 Ra0_6 Ra0_7 Ra0_8
  clear ez
  obtain ⟨I0, eI⟩ : ∃ J : tI, J = h_row I0 q12 (fun _ => 0) := ⟨_, rfl⟩
  rw [← eI] at g hI hZ hQ hz
  clear eI
  replace hF : h_F [] z I0 I0 := h_F.rf
  refine W.cs (cells' := 69) (slots' := 3924) rfl rfl ?_
  replace hZ := hZ.tcall hF rfl
  replace hQ := hQ.tc hF rfl
  refine h_putR (ty := tyX7 11) (v := q12) hx hb hts iX7 tyX7 tyX7_ok nmX7 hown g t_a0 (by decide) so_57 rfl 11 (by decide) rfl (hts (.fieldLink RX7 42 "CapLeague$RingSearch" "clubRow" "[I") (by decide +kernel)) rfl rfl hin rfl (by decide +kernel) rfl rfl dX7_init_79 (fun H locs g => ?_)
  replace hQ := hQ.wR (a := a0) (k := 11) (v := q12) t_a0 (by decide) tq12 (by decide) (fun h9 => ⟨hu_q12, n_q12⟩)
  replace hR := hR.wR (k0 := 11) (v := some q12) t_a0 (fun _ => rfl)
  replace hZ := hZ.wR (a := a0) (k := 11) (v := some q12) (Or.inl rfl)
  replace hI : h_I (z.wR a0 11 (some q12)) I0 := hI
  replace t_a0 : (z.wR a0 11 (some q12)).ty a0 = 57 := t_a0
  replace t_p0 : (z.wR a0 11 (some q12)).ty p0 = 1 := t_p0
  replace tq1 : (z.wR a0 11 (some q12)).ty q1 = 2 := tq1
  replace tq5 : (z.wR a0 11 (some q12)).ty q5 = 802 := tq5
  replace tq6 : (z.wR a0 11 (some q12)).ty q6 = 803 := tq6
  replace tq7 : (z.wR a0 11 (some q12)).ty q7 = 804 := tq7
  replace tq8 : (z.wR a0 11 (some q12)).ty q8 = 805 := tq8
  replace tq9 : (z.wR a0 11 (some q12)).ty q9 = 806 := tq9
  replace tq10 : (z.wR a0 11 (some q12)).ty q10 = 807 := tq10
  replace tq11 : (z.wR a0 11 (some q12)).ty q11 = 808 := tq11
  replace tq12 : (z.wR a0 11 (some q12)).ty q12 = 811 := tq12
  replace Ra0_1 : (z.wR a0 11 (some q12)).R a0 1 = some q1 := (h_up_at (by decide)).trans Ra0_1
  replace Ra0_2 : (z.wR a0 11 (some q12)).R a0 2 = some q5 := (h_up_at (by decide)).trans Ra0_2
  replace Ra0_3 : (z.wR a0 11 (some q12)).R a0 3 = some q6 := (h_up_at (by decide)).trans Ra0_3
  replace Ra0_4 : (z.wR a0 11 (some q12)).R a0 4 = some q7 := (h_up_at (by decide)).trans Ra0_4
  replace Ra0_5 : (z.wR a0 11 (some q12)).R a0 5 = some q8 := (h_up_at (by decide)).trans Ra0_5
  replace Ra0_6 : (z.wR a0 11 (some q12)).R a0 6 = some q9 := (h_up_at (by decide)).trans Ra0_6
  replace Ra0_7 : (z.wR a0 11 (some q12)).R a0 7 = some q10 := (h_up_at (by decide)).trans Ra0_7
  replace Ra0_8 : (z.wR a0 11 (some q12)).R a0 8 = some q11 := (h_up_at (by decide)).trans Ra0_8
  replace Ra0_11 : (z.wR a0 11 (some q12)).R a0 11 = some q12 := h_up_eq
  obtain ⟨z, ez⟩ : ∃ z1 : tZ, z1 = (z.wR a0 11 (some q12)) := ⟨_, rfl⟩
  rw [← ez] at g hI hR hZ hQ t_a0 t_p0 tq1 tq5 tq6 tq7 tq8 tq9 tq10 tq11 tq12 Ra0_1 Ra0_2 Ra0_3 Ra0_4 Ra0_5 Ra0_6 Ra0_7 Ra0_8 Ra0_11
  clear ez
  replace hF : h_F [] z I0 I0 := h_F.rf
  refine lv_aload_n hx hb dX7_init_82 rfl (lv_at hl 0 rfl) ?_
  refine lv_iconst (v := 3) hx hb dX7_init_83 (by decide) ?_
  replace hZ := hZ.tcall hF rfl
  replace hQ := hQ.tc hF rfl
  refine h_newI hx hb (hts (.arrayClass .int) (by decide +kernel)) g hA so_812 (by decide) (by decide) (by decide) (Nat.le_of_ble_eq_true rfl) (Nat.le_of_ble_eq_true rfl) dX7_init_84 (fun q13 H hq0 g => ?_)
  have n_q13 := hZ.fresh hq0 (fun h => h_neq t_a0 (by decide) hq0 (Option.some.inj h).symm)
  replace hu_q13 := hQ.1.u (q := q13) (t := 812) hq0
  replace hQ := hQ.nw (q := q13) (t := 812) hq0 (by decide)
  replace hI := hI.nw (q := q13) (t := 812) (f := fun _ => none)
  replace hR := hR.nw (q := q13) (t := 812) (f := fun _ => none) hq0 (fun k t2 n2 h => by cases (show (none : Option (Nat × Bool)) = some (t2, n2) from h))
  replace hZ := hZ.nw (q := q13) (t := 812) (f := fun _ => none) hq0 (L2 := L4) (fun _ _ => rfl)
  replace hz : h_row I0 q13 (fun _ => 0) a0 = (fun _ => 0) := (h_row_n (h_neq t_a0 (by decide) hq0)).trans hz
  replace Ra0_1 := h_nwr (q := q13) (t := 812) (f := fun _ => none) hq0 t_a0 (by decide) Ra0_1
  replace Ra0_2 := h_nwr (q := q13) (t := 812) (f := fun _ => none) hq0 t_a0 (by decide) Ra0_2
  replace Ra0_3 := h_nwr (q := q13) (t := 812) (f := fun _ => none) hq0 t_a0 (by decide) Ra0_3
  replace Ra0_4 := h_nwr (q := q13) (t := 812) (f := fun _ => none) hq0 t_a0 (by decide) Ra0_4
  replace Ra0_5 := h_nwr (q := q13) (t := 812) (f := fun _ => none) hq0 t_a0 (by decide) Ra0_5
  replace Ra0_6 := h_nwr (q := q13) (t := 812) (f := fun _ => none) hq0 t_a0 (by decide) Ra0_6
  replace Ra0_7 := h_nwr (q := q13) (t := 812) (f := fun _ => none) hq0 t_a0 (by decide) Ra0_7
  replace Ra0_8 := h_nwr (q := q13) (t := 812) (f := fun _ => none) hq0 t_a0 (by decide) Ra0_8
  replace Ra0_11 := h_nwr (q := q13) (t := 812) (f := fun _ => none) hq0 t_a0 (by decide) Ra0_11
  replace t_a0 := h_nwk (q := q13) (t := 812) (f := fun _ => none) hq0 t_a0 (by decide)
  replace t_p0 := h_nwk (q := q13) (t := 812) (f := fun _ => none) hq0 t_p0 (by decide)
  replace tq1 := h_nwk (q := q13) (t := 812) (f := fun _ => none) hq0 tq1 (by decide)
  replace tq5 := h_nwk (q := q13) (t := 812) (f := fun _ => none) hq0 tq5 (by decide)
  replace tq6 := h_nwk (q := q13) (t := 812) (f := fun _ => none) hq0 tq6 (by decide)
  replace tq7 := h_nwk (q := q13) (t := 812) (f := fun _ => none) hq0 tq7 (by decide)
  replace tq8 := h_nwk (q := q13) (t := 812) (f := fun _ => none) hq0 tq8 (by decide)
  replace tq9 := h_nwk (q := q13) (t := 812) (f := fun _ => none) hq0 tq9 (by decide)
  replace tq10 := h_nwk (q := q13) (t := 812) (f := fun _ => none) hq0 tq10 (by decide)
  replace tq11 := h_nwk (q := q13) (t := 812) (f := fun _ => none) hq0 tq11 (by decide)
  replace tq12 := h_nwk (q := q13) (t := 812) (f := fun _ => none) hq0 tq12 (by decide)
  replace tq13 : (z.nw q13 812 (fun _ => none)).ty q13 = 812 := nw_te
  obtain ⟨z, ez⟩ : ∃ z1 : tZ, z1 = (z.nw q13 812 (fun _ => none)) := ⟨_, rfl⟩
  rw [← ez] at g hI hR hZ hQ hu_q13 t_a0 t_p0 tq1 tq5 tq6 tq7 tq8 tq9 tq10 tq11 tq12 tq13 Ra0_1 Ra0_2 Ra0_3 Ra0_4 Ra0_5 Ra0_6 Ra0_7 Ra0_8 Ra0_11
  clear ez
  obtain ⟨I0, eI⟩ : ∃ J : tI, J = h_row I0 q13 (fun _ => 0) := ⟨_, rfl⟩
  rw [← eI] at g hI hZ hQ hz
  clear eI
  replace hF : h_F [] z I0 I0 := h_F.rf
  refine W.cs (cells' := 70) (slots' := 3927) rfl rfl ?_
  replace hZ := hZ.tcall hF rfl
  replace hQ := hQ.tc hF rfl
  refine h_putR (ty := tyX7 12) (v := q13) hx hb hts iX7 tyX7 tyX7_ok nmX7 hown g t_a0 (by decide) so_57 rfl 12 (by decide) rfl (hts (.fieldLink RX7 45 "CapLeague$RingSearch" "playerRow" "[I") (by decide +kernel)) rfl rfl hin rfl (by decide +kernel) rfl rfl dX7_init_86 (fun H locs g => ?_)
  replace hQ := hQ.wR (a := a0) (k := 12) (v := q13) t_a0 (by decide) tq13 (by decide) (fun h9 => ⟨hu_q13, n_q13⟩)
  replace hR := hR.wR (k0 := 12) (v := some q13) t_a0 (fun _ => rfl)
  replace hZ := hZ.wR (a := a0) (k := 12) (v := some q13) (Or.inl rfl)
  replace hI : h_I (z.wR a0 12 (some q13)) I0 := hI
  replace t_a0 : (z.wR a0 12 (some q13)).ty a0 = 57 := t_a0
  replace t_p0 : (z.wR a0 12 (some q13)).ty p0 = 1 := t_p0
  replace tq1 : (z.wR a0 12 (some q13)).ty q1 = 2 := tq1
  replace tq5 : (z.wR a0 12 (some q13)).ty q5 = 802 := tq5
  replace tq6 : (z.wR a0 12 (some q13)).ty q6 = 803 := tq6
  replace tq7 : (z.wR a0 12 (some q13)).ty q7 = 804 := tq7
  replace tq8 : (z.wR a0 12 (some q13)).ty q8 = 805 := tq8
  replace tq9 : (z.wR a0 12 (some q13)).ty q9 = 806 := tq9
  replace tq10 : (z.wR a0 12 (some q13)).ty q10 = 807 := tq10
  replace tq11 : (z.wR a0 12 (some q13)).ty q11 = 808 := tq11
  replace tq12 : (z.wR a0 12 (some q13)).ty q12 = 811 := tq12
  replace tq13 : (z.wR a0 12 (some q13)).ty q13 = 812 := tq13
  replace Ra0_1 : (z.wR a0 12 (some q13)).R a0 1 = some q1 := (h_up_at (by decide)).trans Ra0_1
  replace Ra0_2 : (z.wR a0 12 (some q13)).R a0 2 = some q5 := (h_up_at (by decide)).trans Ra0_2
  replace Ra0_3 : (z.wR a0 12 (some q13)).R a0 3 = some q6 := (h_up_at (by decide)).trans Ra0_3
  replace Ra0_4 : (z.wR a0 12 (some q13)).R a0 4 = some q7 := (h_up_at (by decide)).trans Ra0_4
  replace Ra0_5 : (z.wR a0 12 (some q13)).R a0 5 = some q8 := (h_up_at (by decide)).trans Ra0_5
  replace Ra0_6 : (z.wR a0 12 (some q13)).R a0 6 = some q9 := (h_up_at (by decide)).trans Ra0_6
  replace Ra0_7 : (z.wR a0 12 (some q13)).R a0 7 = some q10 := (h_up_at (by decide)).trans Ra0_7
  replace Ra0_8 : (z.wR a0 12 (some q13)).R a0 8 = some q11 := (h_up_at (by decide)).trans Ra0_8
  replace Ra0_11 : (z.wR a0 12 (some q13)).R a0 11 = some q12 := (h_up_at (by decide)).trans Ra0_11
  replace Ra0_12 : (z.wR a0 12 (some q13)).R a0 12 = some q13 := h_up_eq
  obtain ⟨z, ez⟩ : ∃ z1 : tZ, z1 = (z.wR a0 12 (some q13)) := ⟨_, rfl⟩
  rw [← ez] at g hI hR hZ hQ t_a0 t_p0 tq1 tq5 tq6 tq7 tq8 tq9 tq10 tq11 tq12 tq13 Ra0_1 Ra0_2 Ra0_3 Ra0_4 Ra0_5 Ra0_6 Ra0_7 Ra0_8 Ra0_11 Ra0_12
  clear ez
  replace hF : h_F [] z I0 I0 := h_F.rf
  refine lv_aload_n hx hb dX7_init_89 rfl (lv_at hl 0 rfl) ?_
  refine lv_aload_n hx hb dX7_init_90 rfl (lv_at hl 1 rfl) ?_
  replace hZ := hZ.tcall hF rfl
  replace hQ := hQ.tc hF rfl
  refine h_putR (ty := tyX7 0) (v := p0) hx hb hts iX7 tyX7 tyX7_ok nmX7 hown g t_a0 (by decide) so_57 rfl 0 (by decide) rfl (hts (.fieldLink RX7 48 "CapLeague$RingSearch" "books" "LCapLeague$Books;") (by decide +kernel)) rfl rfl hin rfl (by decide +kernel) rfl rfl dX7_init_91 (fun H locs g => ?_)
  replace hQ := hQ.wR (a := a0) (k := 0) (v := p0) t_a0 (by decide) t_p0 (by decide) (fun h9 => absurd h9 (by decide))
  replace hR := hR.wR (k0 := 0) (v := some p0) t_a0 (fun _ => rfl)
  replace hZ := hZ.wR (a := a0) (k := 0) (v := some p0) (Or.inl rfl)
  replace hI : h_I (z.wR a0 0 (some p0)) I0 := hI
  replace t_a0 : (z.wR a0 0 (some p0)).ty a0 = 57 := t_a0
  replace t_p0 : (z.wR a0 0 (some p0)).ty p0 = 1 := t_p0
  replace tq1 : (z.wR a0 0 (some p0)).ty q1 = 2 := tq1
  replace tq5 : (z.wR a0 0 (some p0)).ty q5 = 802 := tq5
  replace tq6 : (z.wR a0 0 (some p0)).ty q6 = 803 := tq6
  replace tq7 : (z.wR a0 0 (some p0)).ty q7 = 804 := tq7
  replace tq8 : (z.wR a0 0 (some p0)).ty q8 = 805 := tq8
  replace tq9 : (z.wR a0 0 (some p0)).ty q9 = 806 := tq9
  replace tq10 : (z.wR a0 0 (some p0)).ty q10 = 807 := tq10
  replace tq11 : (z.wR a0 0 (some p0)).ty q11 = 808 := tq11
  replace tq12 : (z.wR a0 0 (some p0)).ty q12 = 811 := tq12
  replace tq13 : (z.wR a0 0 (some p0)).ty q13 = 812 := tq13
  replace Ra0_1 : (z.wR a0 0 (some p0)).R a0 1 = some q1 := (h_up_at (by decide)).trans Ra0_1
  replace Ra0_2 : (z.wR a0 0 (some p0)).R a0 2 = some q5 := (h_up_at (by decide)).trans Ra0_2
  replace Ra0_3 : (z.wR a0 0 (some p0)).R a0 3 = some q6 := (h_up_at (by decide)).trans Ra0_3
  replace Ra0_4 : (z.wR a0 0 (some p0)).R a0 4 = some q7 := (h_up_at (by decide)).trans Ra0_4
  replace Ra0_5 : (z.wR a0 0 (some p0)).R a0 5 = some q8 := (h_up_at (by decide)).trans Ra0_5
  replace Ra0_6 : (z.wR a0 0 (some p0)).R a0 6 = some q9 := (h_up_at (by decide)).trans Ra0_6
  replace Ra0_7 : (z.wR a0 0 (some p0)).R a0 7 = some q10 := (h_up_at (by decide)).trans Ra0_7
  replace Ra0_8 : (z.wR a0 0 (some p0)).R a0 8 = some q11 := (h_up_at (by decide)).trans Ra0_8
  replace Ra0_11 : (z.wR a0 0 (some p0)).R a0 11 = some q12 := (h_up_at (by decide)).trans Ra0_11
  replace Ra0_12 : (z.wR a0 0 (some p0)).R a0 12 = some q13 := (h_up_at (by decide)).trans Ra0_12
  replace Ra0_0 : (z.wR a0 0 (some p0)).R a0 0 = some p0 := h_up_eq
  obtain ⟨z, ez⟩ : ∃ z1 : tZ, z1 = (z.wR a0 0 (some p0)) := ⟨_, rfl⟩
  rw [← ez] at g hI hR hZ hQ t_a0 t_p0 tq1 tq5 tq6 tq7 tq8 tq9 tq10 tq11 tq12 tq13 Ra0_1 Ra0_2 Ra0_3 Ra0_4 Ra0_5 Ra0_6 Ra0_7 Ra0_8 Ra0_11 Ra0_12 Ra0_0
  clear ez
  replace hF : h_F [] z I0 I0 := h_F.rf
  replace hZ := hZ.tcall hF rfl
  replace hQ := hQ.tc hF rfl
  have g := g.rt (a := a0) (t := 8) (by rw [t_a0]; decide) (by rw [t_a0]; rfl)
  replace hI := hI.rt (a := a0) (t := 8) (fun k => by
      rw [hz]
      exact h_bd0 8 k)
  replace hR := hR.rt (t := 8) t_a0 (by decide) (by decide) (fun k t2 n2 h hk => by
      have hk9 : k < 13 := hk
      rcases (show k = 0 ∨ k = 1 ∨ k = 2 ∨ k = 3 ∨ k = 4 ∨ k = 5 ∨ k = 6 ∨ k = 7 ∨ k = 8 ∨ k = 9 ∨ k = 10 ∨ k = 11 ∨ k = 12 by omega) with rfl | rfl | rfl | rfl | rfl | rfl | rfl | rfl | rfl | rfl | rfl | rfl | rfl
      · have e9 : some (1, false) = some (t2, n2) := h
        cases e9
        exact ⟨p0, Ra0_0, t_p0⟩
      · have e9 : some (2, false) = some (t2, n2) := h
        cases e9
        exact ⟨q1, Ra0_1, tq1⟩
      · have e9 : some (802, false) = some (t2, n2) := h
        cases e9
        exact ⟨q5, Ra0_2, tq5⟩
      · have e9 : some (803, false) = some (t2, n2) := h
        cases e9
        exact ⟨q6, Ra0_3, tq6⟩
      · have e9 : some (804, false) = some (t2, n2) := h
        cases e9
        exact ⟨q7, Ra0_4, tq7⟩
      · have e9 : some (805, false) = some (t2, n2) := h
        cases e9
        exact ⟨q8, Ra0_5, tq8⟩
      · have e9 : some (806, false) = some (t2, n2) := h
        cases e9
        exact ⟨q9, Ra0_6, tq9⟩
      · have e9 : some (807, false) = some (t2, n2) := h
        cases e9
        exact ⟨q10, Ra0_7, tq10⟩
      · have e9 : some (808, false) = some (t2, n2) := h
        cases e9
        exact ⟨q11, Ra0_8, tq11⟩
      · cases (show (none : Option (Nat × Bool)) = some (t2, n2) from h)
      · cases (show (none : Option (Nat × Bool)) = some (t2, n2) from h)
      · have e9 : some (811, false) = some (t2, n2) := h
        cases e9
        exact ⟨q12, Ra0_11, tq12⟩
      · have e9 : some (812, false) = some (t2, n2) := h
        cases e9
        exact ⟨q13, Ra0_12, tq13⟩)
  replace hZ := hZ.rt (a := a0) (t := 8) (Or.inl rfl)
  replace hQ := hQ.rt (a := a0) (t := 8) t_a0 (by decide) (by decide) rfl rfl
  replace t_p0 := h_rtk (t := 8) t_p0 t_a0 (by decide)
  replace tq1 := h_rtk (t := 8) tq1 t_a0 (by decide)
  replace tq5 := h_rtk (t := 8) tq5 t_a0 (by decide)
  replace tq6 := h_rtk (t := 8) tq6 t_a0 (by decide)
  replace tq7 := h_rtk (t := 8) tq7 t_a0 (by decide)
  replace tq8 := h_rtk (t := 8) tq8 t_a0 (by decide)
  replace tq9 := h_rtk (t := 8) tq9 t_a0 (by decide)
  replace tq10 := h_rtk (t := 8) tq10 t_a0 (by decide)
  replace tq11 := h_rtk (t := 8) tq11 t_a0 (by decide)
  replace tq12 := h_rtk (t := 8) tq12 t_a0 (by decide)
  replace tq13 := h_rtk (t := 8) tq13 t_a0 (by decide)
  replace t_a0 : (z.rt a0 8).ty a0 = 8 := rt_e
  replace Ra0_1 : (z.rt a0 8).R a0 1 = some q1 := Ra0_1
  replace Ra0_2 : (z.rt a0 8).R a0 2 = some q5 := Ra0_2
  replace Ra0_3 : (z.rt a0 8).R a0 3 = some q6 := Ra0_3
  replace Ra0_4 : (z.rt a0 8).R a0 4 = some q7 := Ra0_4
  replace Ra0_5 : (z.rt a0 8).R a0 5 = some q8 := Ra0_5
  replace Ra0_6 : (z.rt a0 8).R a0 6 = some q9 := Ra0_6
  replace Ra0_7 : (z.rt a0 8).R a0 7 = some q10 := Ra0_7
  replace Ra0_8 : (z.rt a0 8).R a0 8 = some q11 := Ra0_8
  replace Ra0_11 : (z.rt a0 8).R a0 11 = some q12 := Ra0_11
  replace Ra0_12 : (z.rt a0 8).R a0 12 = some q13 := Ra0_12
  replace Ra0_0 : (z.rt a0 8).R a0 0 = some p0 := Ra0_0
  obtain ⟨z, ez⟩ : ∃ z1 : tZ, z1 = (z.rt a0 8) := ⟨_, rfl⟩
  rw [← ez] at g hI hR hZ hQ t_a0 t_p0 tq1 tq5 tq6 tq7 tq8 tq9 tq10 tq11 tq12 tq13 Ra0_1 Ra0_2 Ra0_3 Ra0_4 Ra0_5 Ra0_6 Ra0_7 Ra0_8 Ra0_11 Ra0_12 Ra0_0
  clear ez
  replace hF : h_F [] z I0 I0 := h_F.rf
  have rq1 := Ra0_1
  have rq5 := Ra0_2
  have rq6 := Ra0_3
  have rq7 := Ra0_4
  have rq8 := Ra0_5
  have rq9 := Ra0_6
  have rq10 := Ra0_7
  have rq11 := Ra0_8
  have rq12 := Ra0_11
  have rq13 := Ra0_12
  have rp0 := Ra0_0
  replace hZ := hZ.tcall hF rfl
  replace hQ := hQ.tc hF rfl
  replace hS := g.2.1
  exact W.vret hx hb hr (fun t ht hW => ⟨⟨(z, I0, L4), rfl, ⟨hI, hR, hZ, hQ, t_a0, (by show z.R a0 0 = some p0; exact Ra0_0)⟩, h_ret g ht⟩, hS.F ht⟩) hS.2.2 dX7_init_94
set_option maxHeartbeats 4000000 in
set_option maxRecDepth 100000 in
theorem zX3_tellF (l : Launch) (E : tE) (X : tX) (A : Nat → Prop) (z0 : tZ) (J0 : tI) (K0 : tL) (a0 : Nat) (t_a0 : z0.ty a0 = 4) (y : Int32) (y_t : Int) (h_y : y.toInt = y_t) (p0 : Nat) (t_p0 : z0.ty p0 = 6) (u_ : Nat → Int) (hu : h_lw J0 p0 (h_ad z0 p0 0) (h_ad z0 p0 1) u_) (hU : h_U z0) : Met l yX3_tell wsX3_tell ({ frames := 3, cells := 3, slots := 17, locals := 192 }) (va_Pc [.ref a0, .int y, .ref p0] (h_P E X A z0 J0 K0)) (va_Qv (fun (q1 : tZ × tI × tL) => h_I q1.1 q1.2.1 ∧ h_R q1.1 ∧ h_X [(600, 999), (601, 999), (6, 2)] [401] none z0 J0 K0 q1.1 q1.2.1 q1.2.2 ∧ h_Q [(600, 999), (601, 999), (6, 2)] none z0 q1.1 q1.2.1 ∧ (¬ (0 ≤ y_t ∧ y_t ≤ 9) ∨ (0 ≤ y_t ∧ y_t ≤ 9 ∧ ∃ t : Nat, q1.1.R (h_ad z0 a0 1) = (fun k => if k = y_t.toNat then some t else z0.R (h_ad z0 a0 1) k) ∧ h_lw q1.2.1 t (h_ad q1.1 t 0) (h_ad q1.1 t 1) u_ ∧ ∀ b k : Nat, z0.ty b ≠ 0 → (∀ t : Nat, z0.R (h_ad z0 a0 1) y_t.toNat = some t → b ≠ t ∧ b ≠ h_ad z0 t 0 ∧ b ≠ h_ad z0 t 1) → q1.2.1 b k = J0 b k))) (fun (q1 : tZ × tI × tL) t => h_B E A q1.1 q1.2.1 q1.2.2 t) A) 3 17 A := by
  refine Met.ofW (cc := cX3_tell) (maxL := 3) (ret := none) (by decide) rfl ?_
  intro pr_ ev_ s m args below meth cd_ s₁ B hml hv
  obtain ⟨rfl, hE, hk, hX, hA, hK, hI, hR, hB0⟩ := hv
  obtain ⟨z, ez0⟩ : ∃ z : tZ, z = z0 := ⟨_, rfl⟩
  obtain ⟨I0, eJ0⟩ : ∃ I0 : tI, I0 = J0 := ⟨_, rfl⟩
  obtain ⟨L0, eK0⟩ : ∃ L0 : tL, L0 = K0 := ⟨_, rfl⟩
  rw [← ez0, ← eJ0] at hI
  rw [← ez0] at hR t_a0 t_p0
  rw [← ez0, ← eJ0, ← eK0] at hB0
  have g : h_G h_so h_fk E A z I0 L0 s s.heap s.heap [] := ⟨hK, va_S.rf, hB0⟩
  replace hF : h_F [(600, 999), (601, 999), (6, 2)] z I0 I0 := h_F.rf
  have hx := B.exec
  have hb := B.bytes
  have hr := B.returns
  have hts := atoms_spec (ws := wsX3_tell) B.pre
  have hown : s.vm.findClass RX3 = some m.cls := findClass_of_methodNamed B.named
  have hlocks := B.notSynchronized
  have iX3 : ∀ w ∈ u_ws RX3 TX3 2, w ∈ wsX3_tell := by decide +kernel
  have iX5 : ∀ w ∈ u_ws RX5 TX5 3, w ∈ wsX3_tell := by decide +kernel
  have hl := lv_entry ([.ref a0, .int y, .ref p0]) (n := 3) (Nat.le_of_ble_eq_true rfl)
  rw [lg_entry_eq]
  generalize (lg_sl ([.ref a0, .int y, .ref p0]) ++ List.replicate (3 - (lg_sl ([.ref a0, .int y, .ref p0])).length) Slot.unset).toArray = ls at hl ⊢
  have hl : lv_has ls 3 [(0, .ref a0), (1, .int y), (2, .ref p0)] := hl
  have b_y : -2147483648 ≤ y_t ∧ y_t ≤ 2147483647 := h_y ▸ ⟨xi_lo y, Int.le_of_lt_add_one (xi_hi y)⟩
  replace hZ : h_X [(600, 999), (601, 999), (6, 2)] [401] none z0 J0 K0 z I0 L0 := by rw [ez0, eJ0, eK0]; exact h_X.rf
  replace hQ : h_Q [(600, 999), (601, 999), (6, 2)] none z0 z I0 := by rw [ez0]; exact h_Q.rf hU (fun b hb => by cases hb)
  replace hfr : ∀ b k : Nat, z0.ty b ≠ 0 → I0 b k = J0 b k := fun b k _ => by rw [eJ0]
  obtain ⟨tx, rtx, ttx⟩ := hR.at a0 1 t_a0 (rfl : h_rs 4 1 = some (401, false)) (by decide)
  have atx : h_ad z0 a0 1 = tx := by rw [← ez0]; exact h_ad.at rtx
  rw [← eJ0, ← ez0] at hu
  obtain ⟨pn, rpn, tpn⟩ := hR.at p0 0 t_p0 (rfl : h_rs 6 0 = some (600, false)) (by decide)
  obtain ⟨po, rpo, tpo⟩ := hR.at p0 1 t_p0 (rfl : h_rs 6 1 = some (601, false)) (by decide)
  rw [h_ad.at rpn, h_ad.at rpo] at hu
  have ra_tx : z.R tx = z0.R tx := by rw [ez0]
  refine lv_iload_n hx hb dX3_tell_0 rfl (lv_at hl 1 rfl) ?_
  refine vp_callSi (xr_of (va_runSN (As := [.int y]) (rest := []) ⟨hx, hb, hml, hown, hts⟩ (tX11_isYear l E X A z I0 L0 y (y_t) h_y) (⟨va_cnB 1 hts gX3_tell_X11_isYear_n22 rfl rfl rfl (hE.link 6 rfl) (hts (.initialized RX11) (by decide +kernel)) (by decide +kernel) ⟨Nat.le_of_ble_eq_true rfl, Nat.le_of_ble_eq_true rfl⟩, hts (.static yX11_isYear) (by decide +kernel), trivial⟩) ⟨h_blind _ _ _ _ _ _ _, h_pre _ hE hk hX hA hI hR g⟩ rfl rfl hl.1 rfl (lv_room (Nat.le_of_ble_eq_true rfl)) dX3_tell_1 ⟨Nat.le_of_ble_eq_true rfl, Nat.le_of_ble_eq_true rfl⟩)) (fun rh1 h1 => ?_)
  rcases h1 with ⟨rfl, h1⟩ | ⟨rfl, h1⟩
  · skip
    refine lv_if_ne (tgt := 8) hx hb dX3_tell_4 (by decide) (fun h => absurd (by decide) h) (fun _ => ?_)
    refine W.widen (k := 3) (n := 17) (by decide) (by decide) ?_
    replace hZ := hZ.tcall hF rfl
    replace hQ := hQ.tc hF rfl
    replace hS := g.2.1
    exact W.vret hx hb hr (fun t ht hW => ⟨⟨(z, I0, L0), rfl, ⟨hI, hR, hZ, hQ, (Or.inl (by omega))⟩, h_ret g ht⟩, hS.F ht⟩) hS.2.2 dX3_tell_7
  · skip
    refine lv_if_ne (tgt := 8) hx hb dX3_tell_4 (by decide) (fun _ => ?_) (fun h => absurd h (by decide))
    refine lv_aload_n hx hb dX3_tell_8 rfl (lv_at hl 0 rfl) ?_
    refine h_get (v := .ref tx) hx hb hts iX3 hown g t_a0 (by decide) so_4 rfl 1 (by decide) (hts (.fieldLink RX3 18 "CapLeague$LawBook" "texts" "[LCapLeague$Laws;") (by decide +kernel)) rfl dX3_tell_9 (by show va_rf (z.R a0 1) = _; rw [rtx]; rfl) ?_
    refine lv_iload_n hx hb dX3_tell_12 rfl (lv_at hl 1 rfl) ?_
    rcases hR.nl tx y.toNatClampNeg ttx (rfl : h_rs 401 _ = some (6, true)) (by rw [so_401]; exact h_lt (n := 10) (xi_in (by rw [h_y]; omega) (by rw [h_y]; omega))) with rb4 | ⟨b4, rb4, tb4⟩
    · refine h_aldL (v := .null) hx hb g ttx (by decide) so_401 (xi_in (by rw [h_y]; omega) (by rw [h_y]; omega)) dX3_tell_13 (by rw [rb4]; rfl) ?_
      refine lv_ifnonnullN hx hb dX3_tell_14 ?_
      refine lv_aload_n hx hb dX3_tell_17 rfl (lv_at hl 0 rfl) ?_
      refine h_get (v := .ref tx) hx hb hts iX3 hown g t_a0 (by decide) so_4 rfl 1 (by decide) (hts (.fieldLink RX3 18 "CapLeague$LawBook" "texts" "[LCapLeague$Laws;") (by decide +kernel)) rfl dX3_tell_18 (by show va_rf (z.R a0 1) = _; rw [rtx]; rfl) ?_
      refine lv_iload_n hx hb dX3_tell_21 rfl (lv_at hl 1 rfl) ?_
      replace hZ := hZ.tcall hF rfl
      replace hQ := hQ.tc hF rfl
      refine h_newO (C := RX5) (T := TX5) (N := 3) (ci := 5) hx hb hts iX5 tyX5 tyX5_ok hown (hts (.classLink RX3 9 RX5) (by decide +kernel)) (hts (.instantiable RX5 3) (by decide +kernel)) (hts (.initialized RX5) (by decide +kernel)) g hA rfl so_55 (fun j hj => by rcases (show j = 0 ∨ j = 1 ∨ j = 2 by omega) with rfl | rfl | rfl <;> rfl) (Nat.le_of_ble_eq_true rfl) (Nat.le_of_ble_eq_true rfl) dX3_tell_22 (fun q5 H hq0 g => ?_)
      have n_q5 := hZ.fresh hq0 (fun h => by cases h)
      replace hu_q5 := hQ.1.u (q := q5) (t := 55) hq0
      replace hQ := hQ.nw (q := q5) (t := 55) hq0 (by decide)
      replace hI := hI.nw (q := q5) (t := 55) (f := fun _ => none)
      replace hR := hR.nw (q := q5) (t := 55) (f := fun _ => none) hq0 (fun k t2 n2 h => by cases (show (none : Option (Nat × Bool)) = some (t2, n2) from h))
      replace hZ := hZ.nw (q := q5) (t := 55) (f := fun _ => none) hq0 (L2 := (h_rL L0 q5 (fun _ => 0))) (fun b hb => h_rL_n hb)
      have hu : h_lw (h_row I0 q5 (fun _ => 0)) p0 pn po u_ := hu.c (fun i => congrFun (h_row_n (h_neq tpn (by decide) hq0)) i) (congrFun (h_row_n (h_neq t_p0 (by decide) hq0)) 2) (fun i => congrFun (h_row_n (h_neq tpo (by decide) hq0)) i)
      replace hfr : ∀ b k : Nat, z0.ty b ≠ 0 → h_row I0 q5 (fun _ => 0) b k = J0 b k := fun b k h1 => (congrFun (h_row_n (fun e9 => h1 (by rw [e9]; exact n_q5))) k).trans (hfr b k h1)
      have ra_tx : (z.nw q5 55 (fun _ => none)).R tx = z0.R tx := (nw_rn (h_neq ttx (by decide) hq0)).trans ra_tx
      have rtx := h_nwr (q := q5) (t := 55) (f := fun _ => none) hq0 t_a0 (by decide) rtx
      have rpn := h_nwr (q := q5) (t := 55) (f := fun _ => none) hq0 t_p0 (by decide) rpn
      have rpo := h_nwr (q := q5) (t := 55) (f := fun _ => none) hq0 t_p0 (by decide) rpo
      replace t_a0 := h_nwk (q := q5) (t := 55) (f := fun _ => none) hq0 t_a0 (by decide)
      replace t_p0 := h_nwk (q := q5) (t := 55) (f := fun _ => none) hq0 t_p0 (by decide)
      have ttx := h_nwk (q := q5) (t := 55) (f := fun _ => none) hq0 ttx (by decide)
      have tpn := h_nwk (q := q5) (t := 55) (f := fun _ => none) hq0 tpn (by decide)
      have tpo := h_nwk (q := q5) (t := 55) (f := fun _ => none) hq0 tpo (by decide)
      replace tq5 : (z.nw q5 55 (fun _ => none)).ty q5 = 55 := nw_te
      have hzq5 : h_row I0 q5 (fun _ => 0) q5 = fun _ => 0 := h_row_e
      obtain ⟨z, ez⟩ : ∃ z1 : tZ, z1 = (z.nw q5 55 (fun _ => none)) := ⟨_, rfl⟩
      rw [← ez] at g hI hR hZ hQ hu_q5 ra_tx t_a0 t_p0 ttx tpn tpo tq5 rtx rpn rpo
      clear ez
      obtain ⟨I0, eI⟩ : ∃ J : tI, J = h_row I0 q5 (fun _ => 0) := ⟨_, rfl⟩
      rw [← eI] at g hI hZ hQ hzq5 hu hfr
      clear eI
      obtain ⟨L6, eL⟩ : ∃ J : tL, J = (h_rL L0 q5 (fun _ => 0)) := ⟨_, rfl⟩
      rw [← eL] at g hZ
      replace hF : h_F [(600, 999), (601, 999), (6, 2)] z I0 I0 := h_F.rf
      refine W.cs (cells' := 1) (slots' := 3) rfl rfl ?_
      refine lv_dup hx hb dX3_tell_25 rfl ?_
      replace hZ := hZ.tcall hF rfl
      replace hQ := hQ.tc hF rfl
      have hQo := hQ
      refine va_callv (va_runI (As := []) (rest := [.ref q5, .int y, .ref tx]) ⟨hx, hb, hml, hown, hts⟩ (zX5_initF l E X A z I0 L6 q5 tq5 hzq5 hQ.1) (cwI 0 hts gX3_tell_X5_init rfl rfl rfl (hts (.initialized RX5) (by decide +kernel)) (hts (.methodLink RX3 11 yX5_init) (by decide +kernel)) (hts (.instanceMethod yX5_init) (by decide +kernel)) rfl (by decide +kernel) ⟨Nat.le_of_ble_eq_true rfl, Nat.le_of_ble_eq_true rfl⟩) ⟨h_blind _ _ _ _ _ _ _, h_pre _ hE hk hX hA hI hR g⟩ rfl rfl hl.1 rfl (lv_room (Nat.le_of_ble_eq_true rfl)) dX3_tell_26 ⟨Nat.le_of_ble_eq_true rfl, Nat.le_of_ble_eq_true rfl⟩) g.2.1 (fun q _ h => h) (fun q h => h) (fun u t H1 locs ht hvm h7 hB hz1 hk1 hS => ?_)
      obtain ⟨z, I0, L8⟩ := u
      obtain ⟨hI, hR, xh7, qh7, tq5_, h7⟩ := h7
      replace hI : h_I z I0 := hI
      replace hR : h_R z := hR
      have hB : h_B E A z I0 L8 t := hB
      have xh7 : h_X [(600, 999), (601, 999), (6, 2)] [] (some q5) _ _ _ z I0 L8 := xh7
      have qh7 : h_Q [(600, 999), (601, 999), (6, 2)] (some q5) _ z I0 := qh7
      replace hQ := hQ.call xh7 qh7 rfl rfl
      replace hu_q5 := hu_q5.call qh7.2.1 tq5 (by decide)
      replace hZ := hZ.call xh7 rfl (fun t h9 => rfl) (fun b hb => Or.inr (by cases hb; exact n_q5))
      have rtx := xh7.R t_a0 (by decide) (h_sne t_a0 tq5 (by decide)) rfl rtx
      have rpn := xh7.R t_p0 (by decide) (h_sne t_p0 tq5 (by decide)) rfl rpn
      have rpo := xh7.R t_p0 (by decide) (h_sne t_p0 tq5 (by decide)) rfl rpo
      have hu : h_lw I0 p0 pn po u_ := hu.c (fun i => h7.2 pn _ (by rw [tpn]; decide) (fun e9 => (h_sne tpn tq5 (by decide)) (congrArg some e9))) (h7.2 p0 _ (by rw [t_p0]; decide) (fun e9 => (h_sne t_p0 tq5 (by decide)) (congrArg some e9))) (fun i => h7.2 po _ (by rw [tpo]; decide) (fun e9 => (h_sne tpo tq5 (by decide)) (congrArg some e9)))
      replace hfr : ∀ b k : Nat, z0.ty b ≠ 0 → I0 b k = J0 b k := fun b k h1 => (h7.2 b k (fun e9 => h1 (hQo.2.1.1 b e9)) (fun e9 => h1 (by rw [e9]; exact n_q5))).trans (hfr b k h1)
      have ra_tx : z.R tx = z0.R tx := ((xh7 tx (by rw [ttx]; decide) (h_sne ttx tq5 (by decide))).2.1 (by rw [ttx]; rfl)).trans ra_tx
      replace t_a0 := xh7.ty t_a0 (by decide) (h_sne t_a0 tq5 (by decide))
      replace t_p0 := xh7.ty t_p0 (by decide) (h_sne t_p0 tq5 (by decide))
      have ttx := xh7.ty ttx (by decide) (h_sne ttx tq5 (by decide))
      have tpn := xh7.ty tpn (by decide) (h_sne tpn tq5 (by decide))
      have tpo := xh7.ty tpo (by decide) (h_sne tpo tq5 (by decide))
      replace tq5 : z.ty q5 = 6 := tq5_
      replace g := h_after g hB ht hS
      generalize H1 = H at g
      clear hB hk1 hz1 ht hvm hS
      replace hF : h_F [(600, 999), (601, 999), (6, 2)] z I0 I0 := h_F.rf
      refine W.cs (cells' := 3) (slots' := 17) rfl rfl ?_
      obtain ⟨nT, rnT, tnT⟩ := hR.at q5 0 tq5 (rfl : h_rs 6 0 = some (600, false)) (by decide)
      obtain ⟨lT, rlT, tlT⟩ := hR.at q5 1 tq5 (rfl : h_rs 6 1 = some (601, false)) (by decide)
      replace hZ := hZ.tcall hF rfl
      replace hQ := hQ.tc hF rfl
      refine h_astL hx hb g ttx (by decide) so_401 tq5 (by decide) so_6 (xi_in (by rw [h_y]; omega) (by rw [h_y]; omega)) dX3_tell_29 (fun H locs g => ?_)
      replace hR := hR.ast (i := y.toNatClampNeg) ttx 6 (fun k t2 n2 h => by have e9 : some (6, true) = some (t2, n2) := h; cases e9; rfl) tq5
      replace hZ := hZ.wR (a := tx) (k := y.toNatClampNeg) (v := some q5) (Or.inr (Or.inr (by rw [ttx]; rfl)))
      replace hQ := hQ.wR (a := tx) (k := y.toNatClampNeg) (v := q5) ttx (by decide) tq5 (by decide) (fun _ => ⟨hu_q5, n_q5⟩)
      replace hI : h_I (z.wR tx y.toNatClampNeg (some q5)) I0 := hI
      replace t_a0 : (z.wR tx y.toNatClampNeg (some q5)).ty a0 = 4 := t_a0
      replace t_p0 : (z.wR tx y.toNatClampNeg (some q5)).ty p0 = 6 := t_p0
      have ttx : (z.wR tx y.toNatClampNeg (some q5)).ty tx = 401 := ttx
      have tpn : (z.wR tx y.toNatClampNeg (some q5)).ty pn = 600 := tpn
      have tpo : (z.wR tx y.toNatClampNeg (some q5)).ty po = 601 := tpo
      replace tq5 : (z.wR tx y.toNatClampNeg (some q5)).ty q5 = 6 := tq5
      have tnT : (z.wR tx y.toNatClampNeg (some q5)).ty nT = 600 := tnT
      have tlT : (z.wR tx y.toNatClampNeg (some q5)).ty lT = 601 := tlT
      have rtx : (z.wR tx y.toNatClampNeg (some q5)).R a0 1 = some tx := (congrFun (h_up_ne (h_ne2 t_a0 ttx (by decide))) 1).trans rtx
      have rpn : (z.wR tx y.toNatClampNeg (some q5)).R p0 0 = some pn := (congrFun (h_up_ne (h_ne2 t_p0 ttx (by decide))) 0).trans rpn
      have rpo : (z.wR tx y.toNatClampNeg (some q5)).R p0 1 = some po := (congrFun (h_up_ne (h_ne2 t_p0 ttx (by decide))) 1).trans rpo
      have rnT : (z.wR tx y.toNatClampNeg (some q5)).R q5 0 = some nT := (congrFun (h_up_ne (h_ne2 tq5 ttx (by decide))) 0).trans rnT
      have rlT : (z.wR tx y.toNatClampNeg (some q5)).R q5 1 = some lT := (congrFun (h_up_ne (h_ne2 tq5 ttx (by decide))) 1).trans rlT
      have ra_tx : (z.wR tx y.toNatClampNeg (some q5)).R tx = (fun k => if k = y.toNatClampNeg then some q5 else z0.R tx k) := h_wRf ra_tx
      have rast : (z.wR tx y.toNatClampNeg (some q5)).R tx y.toNatClampNeg = some q5 := h_up_eq
      obtain ⟨z, ez⟩ : ∃ z1 : tZ, z1 = (z.wR tx y.toNatClampNeg (some q5)) := ⟨_, rfl⟩
      rw [← ez] at g hI hR hZ hQ ra_tx t_a0 t_p0 ttx tpn tpo tq5 tnT tlT rtx rpn rpo rnT rlT rast
      clear ez
      replace hF : h_F [(600, 999), (601, 999), (6, 2)] z I0 I0 := h_F.rf
      refine lv_aload_n hx hb dX3_tell_30 rfl (lv_at hl 0 rfl) ?_
      refine h_get (v := .ref tx) hx hb hts iX3 hown g t_a0 (by decide) so_4 rfl 1 (by decide) (hts (.fieldLink RX3 18 "CapLeague$LawBook" "texts" "[LCapLeague$Laws;") (by decide +kernel)) rfl dX3_tell_31 (by show va_rf (z.R a0 1) = _; rw [rtx]; rfl) ?_
      refine lv_iload_n hx hb dX3_tell_34 rfl (lv_at hl 1 rfl) ?_
      refine h_aldL (v := .ref q5) hx hb g ttx (by decide) so_401 (xi_in (by rw [h_y]; omega) (by rw [h_y]; omega)) dX3_tell_35 (by rw [rast]; rfl) ?_
      refine lv_aload_n hx hb dX3_tell_36 rfl (lv_at hl 2 rfl) ?_
      refine va_callv (va_runV (As := [.ref p0]) (rest := []) ⟨hx, hb, hml, hown, hts⟩ (tX5_copyFromF l E X A z I0 L8 q5 tq5 p0 t_p0 (u_) (by rw [h_ad.at rpn, h_ad.at rpo]; exact hu)) (cwV 1 hts gX3_tell_X5_copyFrom rfl rfl rfl (by decide +kernel) ⟨Nat.le_of_ble_eq_true rfl, Nat.le_of_ble_eq_true rfl⟩) ⟨h_blind _ _ _ _ _ _ _, h_recv g tq5 (by decide) so_6 (q := (RX5, TX5, 3)) rfl, h_pre _ hE hk hX hA hI hR g⟩ rfl rfl hl.1 rfl (lv_room (Nat.le_of_ble_eq_true rfl)) dX3_tell_37 ⟨Nat.le_of_ble_eq_true rfl, Nat.le_of_ble_eq_true rfl⟩) g.2.1 (fun q _ h => h) (fun q h => h) (fun I10 t H1 locs ht hvm h9 hB hz1 hk1 hS => ?_)
      obtain ⟨hI, fh9, h9⟩ := h9
      replace g := h_after g hB ht hS
      generalize H1 = H at g
      clear hB hk1 hz1 ht hvm hS
      replace hF := hF.call fh9 rfl
      obtain ⟨h9p0, h9p1⟩ := h9
      replace hZ := hZ.tcall hF rfl
      replace hQ := hQ.tc hF rfl
      replace hS := g.2.1
      exact W.vret hx hb hr (fun t ht hW => ⟨⟨(z, I10, L8), rfl, ⟨hI, hR, hZ, hQ, (by show ¬ (0 ≤ y_t ∧ y_t ≤ 9) ∨ (0 ≤ y_t ∧ y_t ≤ 9 ∧ ∃ t : Nat, z.R (h_ad z0 a0 1) = (fun k => if k = y_t.toNat then some t else z0.R (h_ad z0 a0 1) k) ∧ h_lw I10 t (h_ad z t 0) (h_ad z t 1) u_ ∧ ∀ b k : Nat, z0.ty b ≠ 0 → (∀ t : Nat, z0.R (h_ad z0 a0 1) y_t.toNat = some t → b ≠ t ∧ b ≠ h_ad z0 t 0 ∧ b ≠ h_ad z0 t 1) → I10 b k = J0 b k); rw [atx]; refine Or.inr ⟨by omega, by omega, q5, ?_, h9p0, ?_⟩; (rw [← h_keq (i := y) (t := y_t) (k := y_t.toNat) h_y (by omega) (by omega)]; exact ra_tx); exact fun b k h1 h2 => (h_ap.all h9p1 fh9 rfl (fun e9 => h1 (by rw [e9]; exact n_q5)) (by rw [h_ad.at rnT]; exact fun e9 => h1 (by rw [e9]; exact hQ.new hU n_q5 tq5 (by decide) rnT)) (by rw [h_ad.at rlT]; exact fun e9 => h1 (by rw [e9]; exact hQ.new hU n_q5 tq5 (by decide) rlT))).trans (hfr b k h1))⟩, h_ret g ht⟩, hS.F ht⟩) hS.2.2 dX3_tell_40
    · refine h_aldL (v := .ref b4) hx hb g ttx (by decide) so_401 (xi_in (by rw [h_y]; omega) (by rw [h_y]; omega)) dX3_tell_13 (by rw [rb4]; rfl) ?_
      refine lv_ifnonnull (tgt := 30) hx hb dX3_tell_14 (by decide) ?_
      refine lv_aload_n hx hb dX3_tell_30 rfl (lv_at hl 0 rfl) ?_
      refine h_get (v := .ref tx) hx hb hts iX3 hown g t_a0 (by decide) so_4 rfl 1 (by decide) (hts (.fieldLink RX3 18 "CapLeague$LawBook" "texts" "[LCapLeague$Laws;") (by decide +kernel)) rfl dX3_tell_31 (by show va_rf (z.R a0 1) = _; rw [rtx]; rfl) ?_
      refine lv_iload_n hx hb dX3_tell_34 rfl (lv_at hl 1 rfl) ?_
      refine h_aldL (v := .ref b4) hx hb g ttx (by decide) so_401 (xi_in (by rw [h_y]; omega) (by rw [h_y]; omega)) dX3_tell_35 (by rw [rb4]; rfl) ?_
      refine lv_aload_n hx hb dX3_tell_36 rfl (lv_at hl 2 rfl) ?_
      refine va_callv (va_runV (As := [.ref p0]) (rest := []) ⟨hx, hb, hml, hown, hts⟩ (tX5_copyFromF l E X A z I0 L0 b4 tb4 p0 t_p0 (u_) (by rw [h_ad.at rpn, h_ad.at rpo]; exact hu)) (cwV 1 hts gX3_tell_X5_copyFrom rfl rfl rfl (by decide +kernel) ⟨Nat.le_of_ble_eq_true rfl, Nat.le_of_ble_eq_true rfl⟩) ⟨h_blind _ _ _ _ _ _ _, h_recv g tb4 (by decide) so_6 (q := (RX5, TX5, 3)) rfl, h_pre _ hE hk hX hA hI hR g⟩ rfl rfl hl.1 rfl (lv_room (Nat.le_of_ble_eq_true rfl)) dX3_tell_37 ⟨Nat.le_of_ble_eq_true rfl, Nat.le_of_ble_eq_true rfl⟩) g.2.1 (fun q _ h => h) (fun q h => h) (fun I12 t H1 locs ht hvm h11 hB hz1 hk1 hS => ?_)
      obtain ⟨hI, fh11, h11⟩ := h11
      replace g := h_after g hB ht hS
      generalize H1 = H at g
      clear hB hk1 hz1 ht hvm hS
      replace hF := hF.call fh11 rfl
      obtain ⟨h11p0, h11p1⟩ := h11
      refine W.widen (k := 3) (n := 17) (by decide) (by decide) ?_
      replace hZ := hZ.tcall hF rfl
      replace hQ := hQ.tc hF rfl
      replace hS := g.2.1
      exact W.vret hx hb hr (fun t ht hW => ⟨⟨(z, I12, L0), rfl, ⟨hI, hR, hZ, hQ, (by show ¬ (0 ≤ y_t ∧ y_t ≤ 9) ∨ (0 ≤ y_t ∧ y_t ≤ 9 ∧ ∃ t : Nat, z.R (h_ad z0 a0 1) = (fun k => if k = y_t.toNat then some t else z0.R (h_ad z0 a0 1) k) ∧ h_lw I12 t (h_ad z t 0) (h_ad z t 1) u_ ∧ ∀ b k : Nat, z0.ty b ≠ 0 → (∀ t : Nat, z0.R (h_ad z0 a0 1) y_t.toNat = some t → b ≠ t ∧ b ≠ h_ad z0 t 0 ∧ b ≠ h_ad z0 t 1) → I12 b k = J0 b k); rw [atx]; refine Or.inr ⟨by omega, by omega, b4, ?_, h11p0, ?_⟩; (rw [ra_tx]; exact h_same (by rw [← ez0, ← h_keq (i := y) (t := y_t) (k := y_t.toNat) h_y (by omega) (by omega)]; exact rb4 : z0.R tx y_t.toNat = some b4)); intro b k h1 h2; have h3 := h2 b4 (by rw [← ez0, ← h_keq (i := y) (t := y_t) (k := y_t.toNat) h_y (by omega) (by omega)]; exact rb4 : z0.R tx y_t.toNat = some b4); rw [← ez0] at h3; exact (h_ap.all h11p1 fh11 rfl h3.1 h3.2.1 h3.2.2).trans (hfr b k h1))⟩, h_ret g ht⟩, hS.F ht⟩) hS.2.2 dX3_tell_40

