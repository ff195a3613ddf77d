set_option maxHeartbeats 4000000 in
set_option maxRecDepth 100000 in
theorem zX8_init (l : Launch) (E : tE) (X : tX) (A : Nat → Prop) (z0 : tZ) (J0 : tI) (K0 : tL) (a0 : Nat) (t_a0 : z0.ty a0 = 58) (h_z0 : J0 a0 = fun _ => 0) (hU : h_U z0) : Met l yX8_init wsX8_init ({ frames := 1, cells := 1, slots := 500, locals := 64 }) (va_Pc [.ref a0] (h_P E X A z0 J0 K0)) (va_Qv (fun (q1 : tZ × tI × tL) => h_I q1.1 q1.2.1 ∧ h_R q1.1 ∧ h_X [] [] (some a0) z0 J0 K0 q1.1 q1.2.1 q1.2.2 ∧ h_Q [] (some a0) z0 q1.1 q1.2.1 ∧ q1.1.ty a0 = 9 ∧ (∀ k : Nat, q1.2.1 a0 k = 0)) (fun (q1 : tZ × tI × tL) t => h_B E A q1.1 q1.2.1 q1.2.2 t) A) 1 500 A := by
  refine Met.ofW (cc := cX8_init) (maxL := 1) (ret := none) (by decide) rfl ?_
  intro pr_ ev_ s m args below meth cd_ s₁ B hml hv
  obtain ⟨rfl, hE, hk, hX, hA, hK, hI, hR, hB0⟩ := hv
  obtain ⟨z, ez0⟩ : ∃ z : tZ, z = z0 := ⟨_, rfl⟩
  obtain ⟨I0, eJ0⟩ : ∃ I0 : tI, I0 = J0 := ⟨_, rfl⟩
  obtain ⟨L0, eK0⟩ : ∃ L0 : tL, L0 = K0 := ⟨_, rfl⟩
  rw [← ez0, ← eJ0] at hI
  rw [← ez0] at hR t_a0
  rw [← ez0, ← eJ0, ← eK0] at hB0
  rw [← eJ0] at h_z0
  have g : h_G h_so h_fk E A z I0 L0 s s.heap s.heap [] := ⟨hK, va_S.rf, hB0⟩
  replace hF : h_F [] z I0 I0 := h_F.rf
  have hx := B.exec
  have hb := B.bytes
  have hr := B.returns
  have hts := atoms_spec (ws := wsX8_init) B.pre
  have hown : s.vm.findClass RX8 = some m.cls := findClass_of_methodNamed B.named
  have hlocks := B.notSynchronized
  have iX8 : ∀ w ∈ u_ws RX8 TX8 2, w ∈ wsX8_init := by decide +kernel
  have hl := lv_entry ([.ref a0]) (n := 1) (Nat.le_of_ble_eq_true rfl)
  rw [lg_entry_eq]
  generalize (lg_sl ([.ref a0]) ++ List.replicate (1 - (lg_sl ([.ref a0])).length) Slot.unset).toArray = ls at hl ⊢
  have hl : lv_has ls 1 [(0, .ref a0)] := hl
  have hin : meth.name = "<init>" := (name_of_methodNamed B.named B.method).1
  replace hZ : h_X [] [] (some a0) z0 J0 K0 z I0 L0 := by rw [ez0, eJ0, eK0]; exact h_X.rf
  replace hz : I0 a0 = (fun _ => 0) := h_z0
  replace hQ : h_Q [] (some a0) z0 z I0 := by rw [ez0]; exact h_Q.rf hU (fun b hb => by cases hb; exact h_z0)
  refine lv_aload_n hx hb dX8_init_0 rfl (lv_at hl 0 rfl) ?_
  refine W.objInit hx hb hown (hts (.methodLink RX8 3 objectInit) (by decide +kernel)) (hts (.instanceMethod objectInit) (by decide +kernel)) (hts (.code objectInit ⟨#[0xb1]⟩ 1 none) (List.mem_of_getElem? (i := 3) rfl)) rfl (by rw [hml]; exact hl.1) rfl dX8_init_1 (Nat.le_of_ble_eq_true rfl) (Nat.le_of_ble_eq_true rfl) ?_
  refine W.eq (g2 := F0 m 4 ls []) rfl ?_
  refine lv_aload_n hx hb dX8_init_4 rfl (lv_at hl 0 rfl) ?_
  refine lv_sipush (v := 500) hx hb dX8_init_5 (by decide) ?_
  replace hZ := hZ.tcall hF rfl
  replace hQ := hQ.tc hF rfl
  refine h_newB hx hb (hts (.arrayClass .byte) (by decide +kernel)) g hA so_900 (by decide) (by decide) (by decide) (Nat.le_of_ble_eq_true rfl) (Nat.le_of_ble_eq_true rfl) dX8_init_8 (fun q1 H hq0 g => ?_)
  have n_q1 := hZ.fresh hq0 (fun h => h_neq t_a0 (by decide) hq0 (Option.some.inj h).symm)
  replace hu_q1 := hQ.1.u (q := q1) (t := 900) hq0
  replace hQ := hQ.nw (q := q1) (t := 900) hq0 (by decide)
  replace hI := hI.nw (q := q1) (t := 900) (f := fun _ => none)
  replace hR := hR.nw (q := q1) (t := 900) (f := fun _ => none) hq0 (fun k t2 n2 h => by cases (show (none : Option (Nat × Bool)) = some (t2, n2) from h))
  replace hZ := hZ.nw (q := q1) (t := 900) (f := fun _ => none) hq0 (L2 := L0) (fun _ _ => rfl)
  replace hz : h_row I0 q1 (fun _ => 0) a0 = (fun _ => 0) := (h_row_n (h_neq t_a0 (by decide) hq0)).trans hz
  replace t_a0 := h_nwk (q := q1) (t := 900) (f := fun _ => none) hq0 t_a0 (by decide)
  replace tq1 : (z.nw q1 900 (fun _ => none)).ty q1 = 900 := nw_te
  obtain ⟨z, ez⟩ : ∃ z1 : tZ, z1 = (z.nw q1 900 (fun _ => none)) := ⟨_, rfl⟩
  rw [← ez] at g hI hR hZ hQ hu_q1 t_a0 tq1 
  clear ez
  obtain ⟨I0, eI⟩ : ∃ J : tI, J = h_row I0 q1 (fun _ => 0) := ⟨_, rfl⟩
  rw [← eI] at g hI hZ hQ hz
  clear eI
  replace hF : h_F [] z I0 I0 := h_F.rf
  refine W.cs (cells' := 1) (slots' := 500) rfl rfl ?_
  replace hZ := hZ.tcall hF rfl
  replace hQ := hQ.tc hF rfl
  refine h_putR (ty := tyX8 0) (v := q1) hx hb hts iX8 tyX8 tyX8_ok nmX8 hown g t_a0 (by decide) so_58 rfl 0 (by decide) rfl (hts (.fieldLink RX8 11 "CapLeague$Tape" "bytes" "[B") (by decide +kernel)) rfl rfl hin rfl (by decide +kernel) rfl rfl dX8_init_10 (fun H locs g => ?_)
  replace hQ := hQ.wR (a := a0) (k := 0) (v := q1) t_a0 (by decide) tq1 (by decide) (fun h9 => ⟨hu_q1, n_q1⟩)
  replace hR := hR.wR (k0 := 0) (v := some q1) t_a0 (fun _ => rfl)
  replace hZ := hZ.wR (a := a0) (k := 0) (v := some q1) (Or.inl rfl)
  replace hI : h_I (z.wR a0 0 (some q1)) I0 := hI
  replace t_a0 : (z.wR a0 0 (some q1)).ty a0 = 58 := t_a0
  replace tq1 : (z.wR a0 0 (some q1)).ty q1 = 900 := tq1
  replace Ra0_0 : (z.wR a0 0 (some q1)).R a0 0 = some q1 := h_up_eq
  obtain ⟨z, ez⟩ : ∃ z1 : tZ, z1 = (z.wR a0 0 (some q1)) := ⟨_, rfl⟩
  rw [← ez] at g hI hR hZ hQ t_a0 tq1 Ra0_0
  clear ez
  replace hF : h_F [] z I0 I0 := h_F.rf
  replace hZ := hZ.tcall hF rfl
  replace hQ := hQ.tc hF rfl
  have g := g.rt (a := a0) (t := 9) (by rw [t_a0]; decide) (by rw [t_a0]; rfl)
  replace hI := hI.rt (a := a0) (t := 9) (fun k => by
      rw [hz]
      exact h_bd0 9 k)
  replace hR := hR.rt (t := 9) t_a0 (by decide) (by decide) (fun k t2 n2 h hk => by
      have hk9 : k < 2 := hk
      rcases (show k = 0 ∨ k = 1 by omega) with rfl | rfl
      · have e9 : some (900, false) = some (t2, n2) := h
        cases e9
        exact ⟨q1, Ra0_0, tq1⟩
      · cases (show (none : Option (Nat × Bool)) = some (t2, n2) from h))
  replace hZ := hZ.rt (a := a0) (t := 9) (Or.inl rfl)
  replace hQ := hQ.rt (a := a0) (t := 9) t_a0 (by decide) (by decide) rfl rfl
  replace tq1 := h_rtk (t := 9) tq1 t_a0 (by decide)
  replace t_a0 : (z.rt a0 9).ty a0 = 9 := rt_e
  replace Ra0_0 : (z.rt a0 9).R a0 0 = some q1 := Ra0_0
  obtain ⟨z, ez⟩ : ∃ z1 : tZ, z1 = (z.rt a0 9) := ⟨_, rfl⟩
  rw [← ez] at g hI hR hZ hQ t_a0 tq1 Ra0_0
  clear ez
  replace hF : h_F [] z I0 I0 := h_F.rf
  have rq1 := Ra0_0
  replace hZ := hZ.tcall hF rfl
  replace hQ := hQ.tc hF rfl
  replace hS := g.2.1
  exact W.vret hx hb hr (fun t ht hW => ⟨⟨(z, I0, L0), rfl, ⟨hI, hR, hZ, hQ, t_a0, (fun k => by show I0 a0 k = 0; rw [hz])⟩, h_ret g ht⟩, hS.F ht⟩) hS.2.2 dX8_init_13
set_option maxHeartbeats 4000000 in
set_option maxRecDepth 100000 in
theorem zX1_init (l : Launch) (E : tE) (X : tX) (A : Nat → Prop) (z0 : tZ) (J0 : tI) (K0 : tL) (a0 : Nat) (t_a0 : z0.ty a0 = 51) (h_z0 : J0 a0 = fun _ => 0) (hU : h_U z0) : Met l yX1_init wsX1_init ({ frames := 1, cells := 0, slots := 0, locals := 64 }) (va_Pc [.ref a0] (h_P E X A z0 J0 K0)) (va_Qv (fun (q1 : tZ × tI × tL) => h_I q1.1 q1.2.1 ∧ h_R q1.1 ∧ h_X [] [] (some a0) z0 J0 K0 q1.1 q1.2.1 q1.2.2 ∧ h_Q [] (some a0) z0 q1.1 q1.2.1 ∧ q1.1.ty a0 = 2 ∧ True) (fun (q1 : tZ × tI × tL) t => h_B E A q1.1 q1.2.1 q1.2.2 t) A) 0 0 A := by
  refine Met.ofW (cc := cX1_init) (maxL := 1) (ret := none) (by decide) rfl ?_
  intro pr_ ev_ s m args below meth cd_ s₁ B hml hv
  obtain ⟨rfl, hE, hk, hX, hA, hK, hI, hR, hB0⟩ := hv
  obtain ⟨z, ez0⟩ : ∃ z : tZ, z = z0 := ⟨_, rfl⟩
  obtain ⟨I0, eJ0⟩ : ∃ I0 : tI, I0 = J0 := ⟨_, rfl⟩
  obtain ⟨L0, eK0⟩ : ∃ L0 : tL, L0 = K0 := ⟨_, rfl⟩
  rw [← ez0, ← eJ0] at hI
  rw [← ez0] at hR t_a0
  rw [← ez0, ← eJ0, ← eK0] at hB0
  rw [← eJ0] at h_z0
  have g : h_G h_so h_fk E A z I0 L0 s s.heap s.heap [] := ⟨hK, va_S.rf, hB0⟩
  replace hF : h_F [] z I0 I0 := h_F.rf
  have hx := B.exec
  have hb := B.bytes
  have hr := B.returns
  have hts := atoms_spec (ws := wsX1_init) B.pre
  have hown : s.vm.findClass RX1 = some m.cls := findClass_of_methodNamed B.named
  have hlocks := B.notSynchronized
  have hl := lv_entry ([.ref a0]) (n := 1) (Nat.le_of_ble_eq_true rfl)
  rw [lg_entry_eq]
  generalize (lg_sl ([.ref a0]) ++ List.replicate (1 - (lg_sl ([.ref a0])).length) Slot.unset).toArray = ls at hl ⊢
  have hl : lv_has ls 1 [(0, .ref a0)] := hl
  have hin : meth.name = "<init>" := (name_of_methodNamed B.named B.method).1
  replace hZ : h_X [] [] (some a0) z0 J0 K0 z I0 L0 := by rw [ez0, eJ0, eK0]; exact h_X.rf
  replace hz : I0 a0 = (fun _ => 0) := h_z0
  replace hQ : h_Q [] (some a0) z0 z I0 := by rw [ez0]; exact h_Q.rf hU (fun b hb => by cases hb; exact h_z0)
  refine lv_aload_n hx hb dX1_init_0 rfl (lv_at hl 0 rfl) ?_
  refine W.objInit hx hb hown (hts (.methodLink RX1 3 objectInit) (by decide +kernel)) (hts (.instanceMethod objectInit) (by decide +kernel)) (hts (.code objectInit ⟨#[0xb1]⟩ 1 none) (List.mem_of_getElem? (i := 3) rfl)) rfl (by rw [hml]; exact hl.1) rfl dX1_init_1 (Nat.le_of_ble_eq_true rfl) (Nat.le_of_ble_eq_true rfl) ?_
  refine W.eq (g2 := F0 m 4 ls []) rfl ?_
  replace hZ := hZ.tcall hF rfl
  replace hQ := hQ.tc hF rfl
  have g := g.rt (a := a0) (t := 2) (by rw [t_a0]; decide) (by rw [t_a0]; rfl)
  replace hI := hI.rt (a := a0) (t := 2) (fun k => by
      rw [hz]
      exact h_bd0 2 k)
  replace hR := hR.rt (t := 2) t_a0 (by decide) (by decide) (fun k t2 n2 h hk => by
      have hk9 : k < 4 := hk
      rcases (show k = 0 ∨ k = 1 ∨ k = 2 ∨ k = 3 by omega) with rfl | rfl | rfl | rfl
      · cases (show (none : Option (Nat × Bool)) = some (t2, n2) from h)
      · cases (show (none : Option (Nat × Bool)) = some (t2, n2) from h)
      · cases (show (none : Option (Nat × Bool)) = some (t2, n2) from h)
      · cases (show (none : Option (Nat × Bool)) = some (t2, n2) from h))
  replace hZ := hZ.rt (a := a0) (t := 2) (Or.inl rfl)
  replace hQ := hQ.rt (a := a0) (t := 2) t_a0 (by decide) (by decide) rfl rfl
  replace t_a0 : (z.rt a0 2).ty a0 = 2 := rt_e
  obtain ⟨z, ez⟩ : ∃ z1 : tZ, z1 = (z.rt a0 2) := ⟨_, rfl⟩
  rw [← ez] at g hI hR hZ hQ t_a0 
  clear ez
  replace hF : h_F [] z I0 I0 := h_F.rf
  replace hZ := hZ.tcall hF rfl
  replace hQ := hQ.tc hF rfl
  replace hS := g.2.1
  exact W.vret hx hb hr (fun t ht hW => ⟨⟨(z, I0, L0), rfl, ⟨hI, hR, hZ, hQ, t_a0, trivial⟩, h_ret g ht⟩, hS.F ht⟩) hS.2.2 dX1_init_4
set_option maxHeartbeats 4000000 in
set_option maxRecDepth 100000 in
theorem zX5_init (l : Launch) (E : tE) (X : tX) (A : Nat → Prop) (z0 : tZ) (J0 : tI) (K0 : tL) (a0 : Nat) (t_a0 : z0.ty a0 = 55) (h_z0 : J0 a0 = fun _ => 0) (hU : h_U z0) : Met l yX5_init wsX5_init ({ frames := 2, cells := 2, slots := 14, locals := 128 }) (va_Pc [.ref a0] (h_P E X A z0 J0 K0)) (va_Qv (fun (q1 : tZ × tI × tL) => h_I q1.1 q1.2.1 ∧ h_R q1.1 ∧ h_X [(600, 999), (601, 999), (6, 2)] [] (some a0) z0 J0 K0 q1.1 q1.2.1 q1.2.2 ∧ h_Q [(600, 999), (601, 999), (6, 2)] (some a0) z0 q1.1 q1.2.1 ∧ q1.1.ty a0 = 6 ∧ True) (fun (q1 : tZ × tI × tL) t => h_B E A q1.1 q1.2.1 q1.2.2 t) A) 2 14 A := by
  refine Met.ofW (cc := cX5_init) (maxL := 1) (ret := none) (by decide) rfl ?_
  intro pr_ ev_ s m args below meth cd_ s₁ B hml hv
  obtain ⟨rfl, hE, hk, hX, hA, hK, hI, hR, hB0⟩ := hv
  obtain ⟨z, ez0⟩ : ∃ z : tZ, z = z0 := ⟨_, rfl⟩
  obtain ⟨I0, eJ0⟩ : ∃ I0 : tI, I0 = J0 := ⟨_, rfl⟩
  obtain ⟨L0, eK0⟩ : ∃ L0 : tL, L0 = K0 := ⟨_, rfl⟩
  rw [← ez0, ← eJ0] at hI
  rw [← ez0] at hR t_a0
  rw [← ez0, ← eJ0, ← eK0] at hB0
  rw [← eJ0] at h_z0
  have g : h_G h_so h_fk E A z I0 L0 s s.heap s.heap [] := ⟨hK, va_S.rf, hB0⟩
  replace hF : h_F [(600, 999), (601, 999), (6, 2)] z I0 I0 := h_F.rf
  have hx := B.exec
  have hb := B.bytes
  have hr := B.returns
  have hts := atoms_spec (ws := wsX5_init) B.pre
  have hown : s.vm.findClass RX5 = some m.cls := findClass_of_methodNamed B.named
  have hlocks := B.notSynchronized
  have iX5 : ∀ w ∈ u_ws RX5 TX5 3, w ∈ wsX5_init := by decide +kernel
  have hl := lv_entry ([.ref a0]) (n := 1) (Nat.le_of_ble_eq_true rfl)
  rw [lg_entry_eq]
  generalize (lg_sl ([.ref a0]) ++ List.replicate (1 - (lg_sl ([.ref a0])).length) Slot.unset).toArray = ls at hl ⊢
  have hl : lv_has ls 1 [(0, .ref a0)] := hl
  have hin : meth.name = "<init>" := (name_of_methodNamed B.named B.method).1
  replace hZ : h_X [(600, 999), (601, 999), (6, 2)] [] (some a0) z0 J0 K0 z I0 L0 := by rw [ez0, eJ0, eK0]; exact h_X.rf
  replace hz : I0 a0 = (fun _ => 0) := h_z0
  replace hQ : h_Q [(600, 999), (601, 999), (6, 2)] (some a0) z0 z I0 := by rw [ez0]; exact h_Q.rf hU (fun b hb => by cases hb; exact h_z0)
  refine lv_aload_n hx hb dX5_init_0 rfl (lv_at hl 0 rfl) ?_
  refine W.objInit hx hb hown (hts (.methodLink RX5 3 objectInit) (by decide +kernel)) (hts (.instanceMethod objectInit) (by decide +kernel)) (hts (.code objectInit ⟨#[0xb1]⟩ 1 none) (List.mem_of_getElem? (i := 3) rfl)) rfl (by rw [hml]; exact hl.1) rfl dX5_init_1 (Nat.le_of_ble_eq_true rfl) (Nat.le_of_ble_eq_true rfl) ?_
  refine W.eq (g2 := F0 m 4 ls []) rfl ?_
  refine lv_aload_n hx hb dX5_init_4 rfl (lv_at hl 0 rfl) ?_
  refine lv_bipush (v := 8) hx hb dX5_init_5 (by decide) ?_
  replace hZ := hZ.tcall hF rfl
  replace hQ := hQ.tc hF rfl
  refine h_newI hx hb (hts (.arrayClass .int) (by decide +kernel)) g hA so_600 (by decide) (by decide) (by decide) (Nat.le_of_ble_eq_true rfl) (Nat.le_of_ble_eq_true rfl) dX5_init_7 (fun q1 H hq0 g => ?_)
  have n_q1 := hZ.fresh hq0 (fun h => h_neq t_a0 (by decide) hq0 (Option.some.inj h).symm)
  replace hu_q1 := hQ.1.u (q := q1) (t := 600) hq0
  replace hQ := hQ.nw (q := q1) (t := 600) hq0 (by decide)
  replace hI := hI.nw (q := q1) (t := 600) (f := fun _ => none)
  replace hR := hR.nw (q := q1) (t := 600) (f := fun _ => none) hq0 (fun k t2 n2 h => by cases (show (none : Option (Nat × Bool)) = some (t2, n2) from h))
  replace hZ := hZ.nw (q := q1) (t := 600) (f := fun _ => none) hq0 (L2 := L0) (fun _ _ => rfl)
  replace hz : h_row I0 q1 (fun _ => 0) a0 = (fun _ => 0) := (h_row_n (h_neq t_a0 (by decide) hq0)).trans hz
  replace t_a0 := h_nwk (q := q1) (t := 600) (f := fun _ => none) hq0 t_a0 (by decide)
  replace tq1 : (z.nw q1 600 (fun _ => none)).ty q1 = 600 := nw_te
  obtain ⟨z, ez⟩ : ∃ z1 : tZ, z1 = (z.nw q1 600 (fun _ => none)) := ⟨_, rfl⟩
  rw [← ez] at g hI hR hZ hQ hu_q1 t_a0 tq1 
  clear ez
  obtain ⟨I0, eI⟩ : ∃ J : tI, J = h_row I0 q1 (fun _ => 0) := ⟨_, rfl⟩
  rw [← eI] at g hI hZ hQ hz
  clear eI
  replace hF : h_F [(600, 999), (601, 999), (6, 2)] z I0 I0 := h_F.rf
  refine W.cs (cells' := 1) (slots' := 8) rfl rfl ?_
  replace hZ := hZ.tcall hF rfl
  replace hQ := hQ.tc hF rfl
  refine h_putR (ty := tyX5 0) (v := q1) hx hb hts iX5 tyX5 tyX5_ok nmX5 hown g t_a0 (by decide) so_55 rfl 0 (by decide) rfl (hts (.fieldLink RX5 9 "CapLeague$Laws" "numbers" "[I") (by decide +kernel)) rfl rfl hin rfl (by decide +kernel) rfl rfl dX5_init_9 (fun H locs g => ?_)
  replace hQ := hQ.wR (a := a0) (k := 0) (v := q1) t_a0 (by decide) tq1 (by decide) (fun h9 => ⟨hu_q1, n_q1⟩)
  replace hR := hR.wR (k0 := 0) (v := some q1) t_a0 (fun _ => rfl)
  replace hZ := hZ.wR (a := a0) (k := 0) (v := some q1) (Or.inl rfl)
  replace hI : h_I (z.wR a0 0 (some q1)) I0 := hI
  replace t_a0 : (z.wR a0 0 (some q1)).ty a0 = 55 := t_a0
  replace tq1 : (z.wR a0 0 (some q1)).ty q1 = 600 := tq1
  replace Ra0_0 : (z.wR a0 0 (some q1)).R a0 0 = some q1 := h_up_eq
  obtain ⟨z, ez⟩ : ∃ z1 : tZ, z1 = (z.wR a0 0 (some q1)) := ⟨_, rfl⟩
  rw [← ez] at g hI hR hZ hQ t_a0 tq1 Ra0_0
  clear ez
  replace hF : h_F [(600, 999), (601, 999), (6, 2)] z I0 I0 := h_F.rf
  refine lv_aload_n hx hb dX5_init_12 rfl (lv_at hl 0 rfl) ?_
  refine lv_bipush (v := 6) hx hb dX5_init_13 (by decide) ?_
  replace hZ := hZ.tcall hF rfl
  replace hQ := hQ.tc hF rfl
  refine h_newI hx hb (hts (.arrayClass .int) (by decide +kernel)) g hA so_601 (by decide) (by decide) (by decide) (Nat.le_of_ble_eq_true rfl) (Nat.le_of_ble_eq_true rfl) dX5_init_15 (fun q2 H hq0 g => ?_)
  have n_q2 := hZ.fresh hq0 (fun h => h_neq t_a0 (by decide) hq0 (Option.some.inj h).symm)
  replace hu_q2 := hQ.1.u (q := q2) (t := 601) hq0
  replace hQ := hQ.nw (q := q2) (t := 601) hq0 (by decide)
  replace hI := hI.nw (q := q2) (t := 601) (f := fun _ => none)
  replace hR := hR.nw (q := q2) (t := 601) (f := fun _ => none) hq0 (fun k t2 n2 h => by cases (show (none : Option (Nat × Bool)) = some (t2, n2) from h))
  replace hZ := hZ.nw (q := q2) (t := 601) (f := fun _ => none) hq0 (L2 := L0) (fun _ _ => rfl)
  replace hz : h_row I0 q2 (fun _ => 0) a0 = (fun _ => 0) := (h_row_n (h_neq t_a0 (by decide) hq0)).trans hz
  replace Ra0_0 := h_nwr (q := q2) (t := 601) (f := fun _ => none) hq0 t_a0 (by decide) Ra0_0
  replace t_a0 := h_nwk (q := q2) (t := 601) (f := fun _ => none) hq0 t_a0 (by decide)
  replace tq1 := h_nwk (q := q2) (t := 601) (f := fun _ => none) hq0 tq1 (by decide)
  replace tq2 : (z.nw q2 601 (fun _ => none)).ty q2 = 601 := nw_te
  obtain ⟨z, ez⟩ : ∃ z1 : tZ, z1 = (z.nw q2 601 (fun _ => none)) := ⟨_, rfl⟩
  rw [← ez] at g hI hR hZ hQ hu_q2 t_a0 tq1 tq2 Ra0_0
  clear ez
  obtain ⟨I0, eI⟩ : ∃ J : tI, J = h_row I0 q2 (fun _ => 0) := ⟨_, rfl⟩
  rw [← eI] at g hI hZ hQ hz
  clear eI
  replace hF : h_F [(600, 999), (601, 999), (6, 2)] z I0 I0 := h_F.rf
  refine W.cs (cells' := 2) (slots' := 14) rfl rfl ?_
  replace hZ := hZ.tcall hF rfl
  replace hQ := hQ.tc hF rfl
  refine h_putR (ty := tyX5 1) (v := q2) hx hb hts iX5 tyX5 tyX5_ok nmX5 hown g t_a0 (by decide) so_55 rfl 1 (by decide) rfl (hts (.fieldLink RX5 15 "CapLeague$Laws" "lots" "[I") (by decide +kernel)) rfl rfl hin rfl (by decide +kernel) rfl rfl dX5_init_17 (fun H locs g => ?_)
  replace hQ := hQ.wR (a := a0) (k := 1) (v := q2) t_a0 (by decide) tq2 (by decide) (fun h9 => ⟨hu_q2, n_q2⟩)
  replace hR := hR.wR (k0 := 1) (v := some q2) t_a0 (fun _ => rfl)
  replace hZ := hZ.wR (a := a0) (k := 1) (v := some q2) (Or.inl rfl)
  replace hI : h_I (z.wR a0 1 (some q2)) I0 := hI
  replace t_a0 : (z.wR a0 1 (some q2)).ty a0 = 55 := t_a0
  replace tq1 : (z.wR a0 1 (some q2)).ty q1 = 600 := tq1
  replace tq2 : (z.wR a0 1 (some q2)).ty q2 = 601 := tq2
  replace Ra0_0 : (z.wR a0 1 (some q2)).R a0 0 = some q1 := (h_up_at (by decide)).trans Ra0_0
  replace Ra0_1 : (z.wR a0 1 (some q2)).R a0 1 = some q2 := h_up_eq
  obtain ⟨z, ez⟩ : ∃ z1 : tZ, z1 = (z.wR a0 1 (some q2)) := ⟨_, rfl⟩
  rw [← ez] at g hI hR hZ hQ t_a0 tq1 tq2 Ra0_0 Ra0_1
  clear ez
  replace hF : h_F [(600, 999), (601, 999), (6, 2)] z I0 I0 := h_F.rf
  replace hZ := hZ.tcall hF rfl
  replace hQ := hQ.tc hF rfl
  have g := g.rt (a := a0) (t := 6) (by rw [t_a0]; decide) (by rw [t_a0]; rfl)
  replace hI := hI.rt (a := a0) (t := 6) (fun k => by
      rw [hz]
      exact h_bd0 6 k)
  replace hR := hR.rt (t := 6) t_a0 (by decide) (by decide) (fun k t2 n2 h hk => by
      have hk9 : k < 3 := hk
      rcases (show k = 0 ∨ k = 1 ∨ k = 2 by omega) with rfl | rfl | rfl
      · have e9 : some (600, false) = some (t2, n2) := h
        cases e9
        exact ⟨q1, Ra0_0, tq1⟩
      · have e9 : some (601, false) = some (t2, n2) := h
        cases e9
        exact ⟨q2, Ra0_1, tq2⟩
      · cases (show (none : Option (Nat × Bool)) = some (t2, n2) from h))
  replace hZ := hZ.rt (a := a0) (t := 6) (Or.inl rfl)
  replace hQ := hQ.rt (a := a0) (t := 6) t_a0 (by decide) (by decide) rfl rfl
  replace tq1 := h_rtk (t := 6) tq1 t_a0 (by decide)
  replace tq2 := h_rtk (t := 6) tq2 t_a0 (by decide)
  replace t_a0 : (z.rt a0 6).ty a0 = 6 := rt_e
  replace Ra0_0 : (z.rt a0 6).R a0 0 = some q1 := Ra0_0
  replace Ra0_1 : (z.rt a0 6).R a0 1 = some q2 := Ra0_1
  obtain ⟨z, ez⟩ : ∃ z1 : tZ, z1 = (z.rt a0 6) := ⟨_, rfl⟩
  rw [← ez] at g hI hR hZ hQ t_a0 tq1 tq2 Ra0_0 Ra0_1
  clear ez
  replace hF : h_F [(600, 999), (601, 999), (6, 2)] z I0 I0 := h_F.rf
  have rq1 := Ra0_0
  have rq2 := Ra0_1
  refine lv_aload_n hx hb dX5_init_20 rfl (lv_at hl 0 rfl) ?_
  refine va_callv (va_runV (As := []) (rest := []) ⟨hx, hb, hml, hown, hts⟩ (tX5_reset l E X A z I0 L0 a0 t_a0) (cwV 0 hts gX5_init_X5_reset rfl rfl rfl (by decide +kernel) ⟨Nat.le_of_ble_eq_true rfl, Nat.le_of_ble_eq_true rfl⟩) ⟨h_blind _ _ _ _ _ _ _, h_recv g t_a0 (by decide) so_6 (q := (RX5, TX5, 3)) rfl, h_pre _ hE hk hX hA hI hR g⟩ rfl rfl hl.1 rfl (lv_room (Nat.le_of_ble_eq_true rfl)) dX5_init_21 ⟨Nat.le_of_ble_eq_true rfl, Nat.le_of_ble_eq_true rfl⟩) g.2.1 (fun q _ h => h) (fun q h => h) (fun I4 t H1 locs ht hvm h3 hB hz1 hk1 hS => ?_)
  obtain ⟨hI, fh3, h3⟩ := h3
  replace g := h_after g hB ht hS
  generalize H1 = H at g
  clear hB hk1 hz1 ht hvm hS
  replace hF := hF.call fh3 rfl
  replace hZ := hZ.tcall hF rfl
  replace hQ := hQ.tc hF rfl
  replace hS := g.2.1
  exact W.vret hx hb hr (fun t ht hW => ⟨⟨(z, I4, L0), rfl, ⟨hI, hR, hZ, hQ, t_a0, trivial⟩, h_ret g ht⟩, hS.F ht⟩) hS.2.2 dX5_init_24
set_option maxHeartbeats 4000000 in
set_option maxRecDepth 100000 in
theorem zX6_init (l : Launch) (E : tE) (X : tX) (A : Nat → Prop) (z0 : tZ) (J0 : tI) (K0 : tL) (a0 : Nat) (t_a0 : z0.ty a0 = 56) (h_z0 : J0 a0 = fun _ => 0) (hU : h_U z0) : Met l yX6_init wsX6_init ({ frames := 1, cells := 1, slots := 8, locals := 64 }) (va_Pc [.ref a0] (h_P E X A z0 J0 K0)) (va_Qv (fun (q1 : tZ × tI × tL) => h_I q1.1 q1.2.1 ∧ h_R q1.1 ∧ h_X [(56, 0)] [] (some a0) z0 J0 K0 q1.1 q1.2.1 q1.2.2 ∧ h_Q [(56, 0), (7, 0)] (some a0) z0 q1.1 q1.2.1 ∧ q1.1.ty a0 = 7 ∧ True) (fun (q1 : tZ × tI × tL) t => h_B E A q1.1 q1.2.1 q1.2.2 t) A) 1 8 A := by
  refine Met.ofW (cc := cX6_init) (maxL := 1) (ret := none) (by decide) rfl ?_
  intro pr_ ev_ s m args below meth cd_ s₁ B hml hv
  obtain ⟨rfl, hE, hk, hX, hA, hK, hI, hR, hB0⟩ := hv
  obtain ⟨z, ez0⟩ : ∃ z : tZ, z = z0 := ⟨_, rfl⟩
  obtain ⟨I0, eJ0⟩ : ∃ I0 : tI, I0 = J0 := ⟨_, rfl⟩
  obtain ⟨L0, eK0⟩ : ∃ L0 : tL, L0 = K0 := ⟨_, rfl⟩
  rw [← ez0, ← eJ0] at hI
  rw [← ez0] at hR t_a0
  rw [← ez0, ← eJ0, ← eK0] at hB0
  rw [← eJ0] at h_z0
  have g : h_G h_so h_fk E A z I0 L0 s s.heap s.heap [] := ⟨hK, va_S.rf, hB0⟩
  replace hF : h_F [(56, 0)] z I0 I0 := h_F.rf
  have hx := B.exec
  have hb := B.bytes
  have hr := B.returns
  have hts := atoms_spec (ws := wsX6_init) B.pre
  have hown : s.vm.findClass RX6 = some m.cls := findClass_of_methodNamed B.named
  have hlocks := B.notSynchronized
  have iX6 : ∀ w ∈ u_ws RX6 TX6 9, w ∈ wsX6_init := by decide +kernel
  have hl := lv_entry ([.ref a0]) (n := 1) (Nat.le_of_ble_eq_true rfl)
  rw [lg_entry_eq]
  generalize (lg_sl ([.ref a0]) ++ List.replicate (1 - (lg_sl ([.ref a0])).length) Slot.unset).toArray = ls at hl ⊢
  have hl : lv_has ls 1 [(0, .ref a0)] := hl
  have hin : meth.name = "<init>" := (name_of_methodNamed B.named B.method).1
  replace hZ : h_X [(56, 0)] [] (some a0) z0 J0 K0 z I0 L0 := by rw [ez0, eJ0, eK0]; exact h_X.rf
  replace hz : I0 a0 = (fun _ => 0) := h_z0
  replace hQ : h_Q [(56, 0), (7, 0)] (some a0) z0 z I0 := by rw [ez0]; exact h_Q.rf hU (fun b hb => by cases hb; exact h_z0)
  refine lv_aload_n hx hb dX6_init_0 rfl (lv_at hl 0 rfl) ?_
  refine W.objInit hx hb hown (hts (.methodLink RX6 3 objectInit) (by decide +kernel)) (hts (.instanceMethod objectInit) (by decide +kernel)) (hts (.code objectInit ⟨#[0xb1]⟩ 1 none) (List.mem_of_getElem? (i := 3) rfl)) rfl (by rw [hml]; exact hl.1) rfl dX6_init_1 (Nat.le_of_ble_eq_true rfl) (Nat.le_of_ble_eq_true rfl) ?_
  refine W.eq (g2 := F0 m 4 ls []) rfl ?_
  refine lv_aload_n hx hb dX6_init_4 rfl (lv_at hl 0 rfl) ?_
  refine lv_iconst (v := (-1)) hx hb dX6_init_5 (by decide) ?_
  refine h_putI (ty := .int) (v := (-1)) hx hb hts iX6 tyX6 tyX6_ok nmX6 hown g t_a0 (by decide) so_56 rfl 0 (by decide) rfl (hts (.fieldLink RX6 9 "CapLeague$Player" "club" "I") (by decide +kernel)) rfl rfl (by decide +kernel) rfl rfl dX6_init_6 (fun I1 H locs eI1 g => ?_)
  replace hI := hI.wr eI1 t_a0 (rfl : h_bd 56 0 = ((-2147483648), 2147483647)) (by decide) (by decide)
  replace hF := hF.wr eI1 t_a0 rfl
  replace hz := h_hz hz eI1
  refine lv_aload_n hx hb dX6_init_9 rfl (lv_at hl 0 rfl) ?_
  refine lv_bipush (v := 8) hx hb dX6_init_10 (by decide) ?_
  replace kf_a0_0 : I1 a0 0 = (-1) := h_n0 eI1
  replace hZ := hZ.tcall hF rfl
  replace hQ := hQ.tc hF rfl
  refine h_newI hx hb (hts (.arrayClass .int) (by decide +kernel)) g hA so_708 (by decide) (by decide) (by decide) (Nat.le_of_ble_eq_true rfl) (Nat.le_of_ble_eq_true rfl) dX6_init_12 (fun q2 H hq0 g => ?_)
  have n_q2 := hZ.fresh hq0 (fun h => h_neq t_a0 (by decide) hq0 (Option.some.inj h).symm)
  replace hu_q2 := hQ.1.u (q := q2) (t := 708) hq0
  replace hQ := hQ.nw (q := q2) (t := 708) hq0 (by decide)
  replace hI := hI.nw (q := q2) (t := 708) (f := fun _ => none)
  replace hR := hR.nw (q := q2) (t := 708) (f := fun _ => none) hq0 (fun k t2 n2 h => by cases (show (none : Option (Nat × Bool)) = some (t2, n2) from h))
  replace hZ := hZ.nw (q := q2) (t := 708) (f := fun _ => none) hq0 (L2 := L0) (fun _ _ => rfl)
  replace hz : h_row I1 q2 (fun _ => 0) a0 = (fun j => if j = 0 then (-1) else (fun _ => 0) j) := (h_row_n (h_neq t_a0 (by decide) hq0)).trans hz
  replace kf_a0_0 : h_row I1 q2 (fun _ => 0) a0 0 = (-1) := (congrFun (h_row_n (h_neq t_a0 (by decide) hq0)) 0).trans kf_a0_0
  replace t_a0 := h_nwk (q := q2) (t := 708) (f := fun _ => none) hq0 t_a0 (by decide)
  replace tq2 : (z.nw q2 708 (fun _ => none)).ty q2 = 708 := nw_te
  obtain ⟨z, ez⟩ : ∃ z1 : tZ, z1 = (z.nw q2 708 (fun _ => none)) := ⟨_, rfl⟩
  rw [← ez] at g hI hR hZ hQ hu_q2 t_a0 tq2 
  clear ez
  obtain ⟨I0, eI⟩ : ∃ J : tI, J = h_row I1 q2 (fun _ => 0) := ⟨_, rfl⟩
  rw [← eI] at g hI hZ hQ hz kf_a0_0
  clear eI
  replace hF : h_F [(56, 0)] z I0 I0 := h_F.rf
  refine W.cs (cells' := 1) (slots' := 8) rfl rfl ?_
  replace kf_a0_0 : I0 a0 0 = (-1) := kf_a0_0
  replace hZ := hZ.tcall hF rfl
  replace hQ := hQ.tc hF rfl
  refine h_putR (ty := tyX6 8) (v := q2) hx hb hts iX6 tyX6 tyX6_ok nmX6 hown g t_a0 (by decide) so_56 rfl 8 (by decide) rfl (hts (.fieldLink RX6 15 "CapLeague$Player" "worths" "[I") (by decide +kernel)) rfl rfl hin rfl (by decide +kernel) rfl rfl dX6_init_14 (fun H locs g => ?_)
  replace hQ := hQ.wR (a := a0) (k := 8) (v := q2) t_a0 (by decide) tq2 (by decide) (fun h9 => ⟨hu_q2, n_q2⟩)
  replace hR := hR.wR (k0 := 8) (v := some q2) t_a0 (fun _ => rfl)
  replace hZ := hZ.wR (a := a0) (k := 8) (v := some q2) (Or.inl rfl)
  replace hI : h_I (z.wR a0 8 (some q2)) I0 := hI
  replace t_a0 : (z.wR a0 8 (some q2)).ty a0 = 56 := t_a0
  replace tq2 : (z.wR a0 8 (some q2)).ty q2 = 708 := tq2
  replace Ra0_8 : (z.wR a0 8 (some q2)).R a0 8 = some q2 := h_up_eq
  obtain ⟨z, ez⟩ : ∃ z1 : tZ, z1 = (z.wR a0 8 (some q2)) := ⟨_, rfl⟩
  rw [← ez] at g hI hR hZ hQ t_a0 tq2 Ra0_8
  clear ez
  replace hF : h_F [(56, 0)] z I0 I0 := h_F.rf
  replace hZ := hZ.tcall hF rfl
  replace hQ := hQ.tc hF rfl
  replace kf_a0_0 : I0 a0 0 = (-1) := kf_a0_0
  have g := g.rt (a := a0) (t := 7) (by rw [t_a0]; decide) (by rw [t_a0]; rfl)
  replace hI := hI.rt (a := a0) (t := 7) (fun k => by
      rw [hz]
      by_cases hk0 : k = 0
      · subst hk0
        exact ⟨by decide, by decide⟩
      simp only [if_neg hk0]
      exact h_bd0 7 k)
  replace hR := hR.rt (t := 7) t_a0 (by decide) (by decide) (fun k t2 n2 h hk => by
      have hk9 : k < 9 := hk
      rcases (show k = 0 ∨ k = 1 ∨ k = 2 ∨ k = 3 ∨ k = 4 ∨ k = 5 ∨ k = 6 ∨ k = 7 ∨ k = 8 by omega) with rfl | rfl | rfl | rfl | rfl | rfl | rfl | rfl | rfl
      · cases (show (none : Option (Nat × Bool)) = some (t2, n2) from h)
      · cases (show (none : Option (Nat × Bool)) = some (t2, n2) from h)
      · cases (show (none : Option (Nat × Bool)) = some (t2, n2) from h)
      · cases (show (none : Option (Nat × Bool)) = some (t2, n2) from h)
      · cases (show (none : Option (Nat × Bool)) = some (t2, n2) from h)
      · cases (show (none : Option (Nat × Bool)) = some (t2, n2) from h)
      · cases (show (none : Option (Nat × Bool)) = some (t2, n2) from h)
      · cases (show (none : Option (Nat × Bool)) = some (t2, n2) from h)
      · have e9 : some (708, false) = some (t2, n2) := h
        cases e9
        exact ⟨q2, Ra0_8, tq2⟩)
  replace hZ := hZ.rt (a := a0) (t := 7) (Or.inl rfl)
  replace hQ := hQ.rt (a := a0) (t := 7) t_a0 (by decide) (by decide) rfl rfl
  replace tq2 := h_rtk (t := 7) tq2 t_a0 (by decide)
  replace t_a0 : (z.rt a0 7).ty a0 = 7 := rt_e
  replace Ra0_8 : (z.rt a0 7).R a0 8 = some q2 := Ra0_8
  obtain ⟨z, ez⟩ : ∃ z1 : tZ, z1 = (z.rt a0 7) := ⟨_, rfl⟩
  rw [← ez] at g hI hR hZ hQ t_a0 tq2 Ra0_8
  clear ez
  replace hF : h_F [(56, 0)] z I0 I0 := h_F.rf
  have rq2 := Ra0_8
  replace hZ := hZ.tcall hF rfl
  replace hQ := hQ.tc hF rfl
  replace hS := g.2.1
  exact W.vret hx hb hr (fun t ht hW => ⟨⟨(z, I0, L0), rfl, ⟨hI, hR, hZ, hQ, t_a0, trivial⟩, h_ret g ht⟩, hS.F ht⟩) hS.2.2 dX6_init_17
set_option maxHeartbeats 4000000 in
set_option maxRecDepth 100000 in
theorem zX3_init (l : Launch) (E : tE) (X : tX) (A : Nat → Prop) (z0 : tZ) (J0 : tI) (K0 : tL) (a0 : Nat) (t_a0 : z0.ty a0 = 53) (h_z0 : J0 a0 = fun _ => 0) (hU : h_U z0) : Met l yX3_init wsX3_init ({ frames := 3, cells := 4, slots := 27, locals := 192 }) (va_Pc [.ref a0] (h_P E X A z0 J0 K0)) (va_Qv (fun (q1 : tZ × tI × tL) => h_I q1.1 q1.2.1 ∧ h_R q1.1 ∧ h_X [(600, 999), (601, 999), (6, 2)] [] (some a0) z0 J0 K0 q1.1 q1.2.1 q1.2.2 ∧ h_Q [(600, 999), (601, 999), (6, 2)] (some a0) z0 q1.1 q1.2.1 ∧ q1.1.ty a0 = 4 ∧ True) (fun (q1 : tZ × tI × tL) t => h_B E A q1.1 q1.2.1 q1.2.2 t) A) 4 27 A := by
  refine Met.ofW (cc := cX3_init) (maxL := 1) (ret := none) (by decide) rfl ?_
  intro pr_ ev_ s m args below meth cd_ s₁ B hml hv
  obtain ⟨rfl, hE, hk, hX, hA, hK, hI, hR, hB0⟩ := hv
  obtain ⟨z, ez0⟩ : ∃ z : tZ, z = z0 := ⟨_, rfl⟩
  obtain ⟨I0, eJ0⟩ : ∃ I0 : tI, I0 = J0 := ⟨_, rfl⟩
  obtain ⟨L0, eK0⟩ : ∃ L0 : tL, L0 = K0 := ⟨_, rfl⟩
  rw [← ez0, ← eJ0] at hI
  rw [← ez0] at hR t_a0
  rw [← ez0, ← eJ0, ← eK0] at hB0
  rw [← eJ0] at h_z0
  have g : h_G h_so h_fk E A z I0 L0 s s.heap s.heap [] := ⟨hK, va_S.rf, hB0⟩
  replace hF : h_F [(600, 999), (601, 999), (6, 2)] z I0 I0 := h_F.rf
  have hx := B.exec
  have hb := B.bytes
  have hr := B.returns
  have hts := atoms_spec (ws := wsX3_init) B.pre
  have hown : s.vm.findClass RX3 = some m.cls := findClass_of_methodNamed B.named
  have hlocks := B.notSynchronized
  have iX5 : ∀ w ∈ u_ws RX5 TX5 3, w ∈ wsX3_init := by decide +kernel
  have iX3 : ∀ w ∈ u_ws RX3 TX3 2, w ∈ wsX3_init := by decide +kernel
  have hl := lv_entry ([.ref a0]) (n := 1) (Nat.le_of_ble_eq_true rfl)
  rw [lg_entry_eq]
  generalize (lg_sl ([.ref a0]) ++ List.replicate (1 - (lg_sl ([.ref a0])).length) Slot.unset).toArray = ls at hl ⊢
  have hl : lv_has ls 1 [(0, .ref a0)] := hl
  have hin : meth.name = "<init>" := (name_of_methodNamed B.named B.method).1
  replace hZ : h_X [(600, 999), (601, 999), (6, 2)] [] (some a0) z0 J0 K0 z I0 L0 := by rw [ez0, eJ0, eK0]; exact h_X.rf
  replace hz : I0 a0 = (fun _ => 0) := h_z0
  replace hQ : h_Q [(600, 999), (601, 999), (6, 2)] (some a0) z0 z I0 := by rw [ez0]; exact h_Q.rf hU (fun b hb => by cases hb; exact h_z0)
  refine lv_aload_n hx hb dX3_init_0 rfl (lv_at hl 0 rfl) ?_
  refine W.objInit hx hb hown (hts (.methodLink RX3 3 objectInit) (by decide +kernel)) (hts (.instanceMethod objectInit) (by decide +kernel)) (hts (.code objectInit ⟨#[0xb1]⟩ 1 none) (List.mem_of_getElem? (i := 3) rfl)) rfl (by rw [hml]; exact hl.1) rfl dX3_init_1 (Nat.le_of_ble_eq_true rfl) (Nat.le_of_ble_eq_true rfl) ?_
  refine W.eq (g2 := F0 m 4 ls []) rfl ?_
  refine lv_aload_n hx hb dX3_init_4 rfl (lv_at hl 0 rfl) ?_
  replace hZ := hZ.tcall hF rfl
  replace hQ := hQ.tc hF rfl
  refine h_newO (C := RX5) (T := TX5) (N := 3) (ci := 5) hx hb hts iX5 tyX5 tyX5_ok hown (hts (.classLink RX3 9 RX5) (by decide +kernel)) (hts (.instantiable RX5 3) (by decide +kernel)) (hts (.initialized RX5) (by decide +kernel)) g hA rfl so_55 (fun j hj => by rcases (show j = 0 ∨ j = 1 ∨ j = 2 by omega) with rfl | rfl | rfl <;> rfl) (Nat.le_of_ble_eq_true rfl) (Nat.le_of_ble_eq_true rfl) dX3_init_5 (fun q1 H hq0 g => ?_)
  have n_q1 := hZ.fresh hq0 (fun h => h_neq t_a0 (by decide) hq0 (Option.some.inj h).symm)
  replace hu_q1 := hQ.1.u (q := q1) (t := 55) hq0
  replace hQ := hQ.nw (q := q1) (t := 55) hq0 (by decide)
  replace hI := hI.nw (q := q1) (t := 55) (f := fun _ => none)
  replace hR := hR.nw (q := q1) (t := 55) (f := fun _ => none) hq0 (fun k t2 n2 h => by cases (show (none : Option (Nat × Bool)) = some (t2, n2) from h))
  replace hZ := hZ.nw (q := q1) (t := 55) (f := fun _ => none) hq0 (L2 := (h_rL L0 q1 (fun _ => 0))) (fun b hb => h_rL_n hb)
  replace hz : h_row I0 q1 (fun _ => 0) a0 = (fun _ => 0) := (h_row_n (h_neq t_a0 (by decide) hq0)).trans hz
  replace t_a0 := h_nwk (q := q1) (t := 55) (f := fun _ => none) hq0 t_a0 (by decide)
  replace tq1 : (z.nw q1 55 (fun _ => none)).ty q1 = 55 := nw_te
  have hzq1 : h_row I0 q1 (fun _ => 0) q1 = fun _ => 0 := h_row_e
  obtain ⟨z, ez⟩ : ∃ z1 : tZ, z1 = (z.nw q1 55 (fun _ => none)) := ⟨_, rfl⟩
  rw [← ez] at g hI hR hZ hQ hu_q1 t_a0 tq1 
  clear ez
  obtain ⟨I0, eI⟩ : ∃ J : tI, J = h_row I0 q1 (fun _ => 0) := ⟨_, rfl⟩
  rw [← eI] at g hI hZ hQ hz hzq1
  clear eI
  obtain ⟨L2, eL⟩ : ∃ J : tL, J = (h_rL L0 q1 (fun _ => 0)) := ⟨_, rfl⟩
  rw [← eL] at g hZ
  replace hF : h_F [(600, 999), (601, 999), (6, 2)] z I0 I0 := h_F.rf
  refine W.cs (cells' := 1) (slots' := 3) rfl rfl ?_
  refine lv_dup hx hb dX3_init_8 rfl ?_
  replace hZ := hZ.tcall hF rfl
  replace hQ := hQ.tc hF rfl
  refine va_callv (va_runI (As := []) (rest := [.ref q1, .ref a0]) ⟨hx, hb, hml, hown, hts⟩ (zX5_init l E X A z I0 L2 q1 tq1 hzq1 hQ.1) (cwI 0 hts gX3_init_X5_init rfl rfl rfl (hts (.initialized RX5) (by decide +kernel)) (hts (.methodLink RX3 11 yX5_init) (by decide +kernel)) (hts (.instanceMethod yX5_init) (by decide +kernel)) rfl (by decide +kernel) ⟨Nat.le_of_ble_eq_true rfl, Nat.le_of_ble_eq_true rfl⟩) ⟨h_blind _ _ _ _ _ _ _, h_pre _ hE hk hX hA hI hR g⟩ rfl rfl hl.1 rfl (lv_room (Nat.le_of_ble_eq_true rfl)) dX3_init_9 ⟨Nat.le_of_ble_eq_true rfl, Nat.le_of_ble_eq_true rfl⟩) g.2.1 (fun q _ h => h) (fun q h => h) (fun u t H1 locs ht hvm h3 hB hz1 hk1 hS => ?_)
  obtain ⟨z, I0, L4⟩ := u
  obtain ⟨hI, hR, xh3, qh3, tq1_, h3⟩ := h3
  replace hI : h_I z I0 := hI
  replace hR : h_R z := hR
  have hB : h_B E A z I0 L4 t := hB
  have xh3 : h_X [(600, 999), (601, 999), (6, 2)] [] (some q1) _ _ _ z I0 L4 := xh3
  have qh3 : h_Q [(600, 999), (601, 999), (6, 2)] (some q1) _ z I0 := qh3
  replace hQ := hQ.call xh3 qh3 rfl rfl
  replace hu_q1 := hu_q1.call qh3.2.1 tq1 (by decide)
  replace hZ := hZ.call xh3 rfl (fun t h9 => rfl) (fun b hb => Or.inr (by cases hb; exact n_q1))
  replace hz : I0 a0 = (fun _ => 0) := (funext (fun k => xh3.I t_a0 (by decide) (h_sne t_a0 tq1 (by decide)) rfl)).trans hz
  replace t_a0 := xh3.ty t_a0 (by decide) (h_sne t_a0 tq1 (by decide))
  replace tq1 : z.ty q1 = 6 := tq1_
  replace g := h_after g hB ht hS
  generalize H1 = H at g
  clear hB hk1 hz1 ht hvm hS
  replace hF : h_F [(600, 999), (601, 999), (6, 2)] z I0 I0 := h_F.rf
  refine W.cs (cells' := 3) (slots' := 17) rfl rfl ?_
  replace hZ := hZ.tcall hF rfl
  replace hQ := hQ.tc hF rfl
  refine h_putR (ty := tyX3 0) (v := q1) hx hb hts iX3 tyX3 tyX3_ok nmX3 hown g t_a0 (by decide) so_53 rfl 0 (by decide) rfl (hts (.fieldLink RX3 12 "CapLeague$LawBook" "untold" "LCapLeague$Laws;") (by decide +kernel)) rfl rfl hin rfl (by decide +kernel) rfl rfl dX3_init_12 (fun H locs g => ?_)
  replace hQ := hQ.wR (a := a0) (k := 0) (v := q1) t_a0 (by decide) tq1 (by decide) (fun h9 => ⟨hu_q1, n_q1⟩)
  replace hR := hR.wR (k0 := 0) (v := some q1) t_a0 (fun _ => rfl)
  replace hZ := hZ.wR (a := a0) (k := 0) (v := some q1) (Or.inl rfl)
  replace hI : h_I (z.wR a0 0 (some q1)) I0 := hI
  replace t_a0 : (z.wR a0 0 (some q1)).ty a0 = 53 := t_a0
  replace tq1 : (z.wR a0 0 (some q1)).ty q1 = 6 := tq1
  replace Ra0_0 : (z.wR a0 0 (some q1)).R a0 0 = some q1 := h_up_eq
  obtain ⟨z, ez⟩ : ∃ z1 : tZ, z1 = (z.wR a0 0 (some q1)) := ⟨_, rfl⟩
  rw [← ez] at g hI hR hZ hQ t_a0 tq1 Ra0_0
  clear ez
  replace hF : h_F [(600, 999), (601, 999), (6, 2)] z I0 I0 := h_F.rf
  refine lv_aload_n hx hb dX3_init_15 rfl (lv_at hl 0 rfl) ?_
  refine lv_bipush (v := 10) hx hb dX3_init_16 (by decide) ?_
  replace hZ := hZ.tcall hF rfl
  replace hQ := hQ.tc hF rfl
  refine h_newaL hx hb hown (hts (.classLink RX3 9 RX5) (by decide +kernel)) hE.2.2.1 g hA so_401 (by decide) (by decide) (by decide) (Nat.le_of_ble_eq_true rfl) (Nat.le_of_ble_eq_true rfl) dX3_init_18 (fun q5 H hq0 g => ?_)
  have n_q5 := hZ.fresh hq0 (fun h => h_neq t_a0 (by decide) hq0 (Option.some.inj h).symm)
  replace hu_q5 := hQ.1.u (q := q5) (t := 401) hq0
  replace hQ := hQ.nw (q := q5) (t := 401) hq0 (by decide)
  replace hI := hI.nw (q := q5) (t := 401) (f := fun _ => none)
  replace hR := hR.nw (q := q5) (t := 401) (f := fun _ => none) hq0 (fun k t2 n2 h => by have e9 : some (6, true) = some (t2, n2) := h; cases e9; exact ⟨rfl, rfl⟩)
  replace hZ := hZ.nw (q := q5) (t := 401) (f := fun _ => none) hq0 (L2 := L4) (fun _ _ => rfl)
  replace hz : h_row I0 q5 (fun _ => 0) a0 = (fun _ => 0) := (h_row_n (h_neq t_a0 (by decide) hq0)).trans hz
  replace Ra0_0 := h_nwr (q := q5) (t := 401) (f := fun _ => none) hq0 t_a0 (by decide) Ra0_0
  replace t_a0 := h_nwk (q := q5) (t := 401) (f := fun _ => none) hq0 t_a0 (by decide)
  replace tq1 := h_nwk (q := q5) (t := 401) (f := fun _ => none) hq0 tq1 (by decide)
  replace tq5 : (z.nw q5 401 (fun _ => none)).ty q5 = 401 := nw_te
  obtain ⟨z, ez⟩ : ∃ z1 : tZ, z1 = (z.nw q5 401 (fun _ => none)) := ⟨_, rfl⟩
  rw [← ez] at g hI hR hZ hQ hu_q5 t_a0 tq1 tq5 Ra0_0
  clear ez
  obtain ⟨I0, eI⟩ : ∃ J : tI, J = h_row I0 q5 (fun _ => 0) := ⟨_, rfl⟩
  rw [← eI] at g hI hZ hQ hz
  clear eI
  replace hF : h_F [(600, 999), (601, 999), (6, 2)] z I0 I0 := h_F.rf
  refine W.cs (cells' := 4) (slots' := 27) rfl rfl ?_
  replace hZ := hZ.tcall hF rfl
  replace hQ := hQ.tc hF rfl
  refine h_putR (ty := tyX3 1) (v := q5) hx hb hts iX3 tyX3 tyX3_ok nmX3 hown g t_a0 (by decide) so_53 rfl 1 (by decide) rfl (hts (.fieldLink RX3 18 "CapLeague$LawBook" "texts" "[LCapLeague$Laws;") (by decide +kernel)) rfl rfl hin rfl (by decide +kernel) rfl rfl dX3_init_21 (fun H locs g => ?_)
  replace hQ := hQ.wR (a := a0) (k := 1) (v := q5) t_a0 (by decide) tq5 (by decide) (fun h9 => ⟨hu_q5, n_q5⟩)
  replace hR := hR.wR (k0 := 1) (v := some q5) t_a0 (fun _ => rfl)
  replace hZ := hZ.wR (a := a0) (k := 1) (v := some q5) (Or.inl rfl)
  replace hI : h_I (z.wR a0 1 (some q5)) I0 := hI
  replace t_a0 : (z.wR a0 1 (some q5)).ty a0 = 53 := t_a0
  replace tq1 : (z.wR a0 1 (some q5)).ty q1 = 6 := tq1
  replace tq5 : (z.wR a0 1 (some q5)).ty q5 = 401 := tq5
  replace Ra0_0 : (z.wR a0 1 (some q5)).R a0 0 = some q1 := (h_up_at (by decide)).trans Ra0_0
  replace Ra0_1 : (z.wR a0 1 (some q5)).R a0 1 = some q5 := h_up_eq
  obtain ⟨z, ez⟩ : ∃ z1 : tZ, z1 = (z.wR a0 1 (some q5)) := ⟨_, rfl⟩
  rw [← ez] at g hI hR hZ hQ t_a0 tq1 tq5 Ra0_0 Ra0_1
  clear ez
  replace hF : h_F [(600, 999), (601, 999), (6, 2)] z I0 I0 := h_F.rf
  replace hZ := hZ.tcall hF rfl
  replace hQ := hQ.tc hF rfl
  have g := g.rt (a := a0) (t := 4) (by rw [t_a0]; decide) (by rw [t_a0]; rfl)
  replace hI := hI.rt (a := a0) (t := 4) (fun k => by
      rw [hz]
      exact h_bd0 4 k)
  replace hR := hR.rt (t := 4) t_a0 (by decide) (by decide) (fun k t2 n2 h hk => by
      have hk9 : k < 2 := hk
      rcases (show k = 0 ∨ k = 1 by omega) with rfl | rfl
      · have e9 : some (6, false) = some (t2, n2) := h
        cases e9
        exact ⟨q1, Ra0_0, tq1⟩
      · have e9 : some (401, false) = some (t2, n2) := h
        cases e9
        exact ⟨q5, Ra0_1, tq5⟩)
  replace hZ := hZ.rt (a := a0) (t := 4) (Or.inl rfl)
  replace hQ := hQ.rt (a := a0) (t := 4) t_a0 (by decide) (by decide) rfl rfl
  replace tq1 := h_rtk (t := 4) tq1 t_a0 (by decide)
  replace tq5 := h_rtk (t := 4) tq5 t_a0 (by decide)
  replace t_a0 : (z.rt a0 4).ty a0 = 4 := rt_e
  replace Ra0_0 : (z.rt a0 4).R a0 0 = some q1 := Ra0_0
  replace Ra0_1 : (z.rt a0 4).R a0 1 = some q5 := Ra0_1
  obtain ⟨z, ez⟩ : ∃ z1 : tZ, z1 = (z.rt a0 4) := ⟨_, rfl⟩
  rw [← ez] at g hI hR hZ hQ t_a0 tq1 tq5 Ra0_0 Ra0_1
  clear ez
  replace hF : h_F [(600, 999), (601, 999), (6, 2)] z I0 I0 := h_F.rf
  have rq1 := Ra0_0
  have rq5 := Ra0_1
  replace hZ := hZ.tcall hF rfl
  replace hQ := hQ.tc hF rfl
  replace hS := g.2.1
  exact W.vret hx hb hr (fun t ht hW => ⟨⟨(z, I0, L4), rfl, ⟨hI, hR, hZ, hQ, t_a0, trivial⟩, h_ret g ht⟩, hS.F ht⟩) hS.2.2 dX3_init_24
set_option maxHeartbeats 4000000 in
set_option maxRecDepth 100000 in
theorem zX4_init (l : Launch) (E : tE) (X : tX) (A : Nat → Prop) (z0 : tZ) (J0 : tI) (K0 : tL) (a0 : Nat) (t_a0 : z0.ty a0 = 54) (p0 : Nat) (t_p0 : z0.ty p0 = 9) (h_z0 : J0 a0 = fun _ => 0) (hU : h_U z0) : Met l yX4_init wsX4_init ({ frames := 3, cells := 3, slots := 17, locals := 192 }) (va_Pc [.ref a0, .ref p0] (h_P E X A z0 J0 K0)) (va_Qv (fun (q1 : tZ × tI × tL) => h_I q1.1 q1.2.1 ∧ h_R q1.1 ∧ h_X [(600, 999), (601, 999), (6, 2), (54, 3)] [] (some a0) z0 J0 K0 q1.1 q1.2.1 q1.2.2 ∧ h_Q [(600, 999), (601, 999), (6, 2), (54, 3), (5, 3)] (some a0) z0 q1.1 q1.2.1 ∧ q1.1.ty a0 = 5 ∧ True) (fun (q1 : tZ × tI × tL) t => h_B E A q1.1 q1.2.1 q1.2.2 t) A) 3 17 A := by
  refine Met.ofW (cc := cX4_init) (maxL := 2) (ret := none) (by decide) rfl ?_
  intro pr_ ev_ s m args below meth cd_ s₁ B hml hv
  obtain ⟨rfl, hE, hk, hX, hA, hK, hI, hR, hB0⟩ := hv
  obtain ⟨z, ez0⟩ : ∃ z : tZ, z = z0 := ⟨_, rfl⟩
  obtain ⟨I0, eJ0⟩ : ∃ I0 : tI, I0 = J0 := ⟨_, rfl⟩
  obtain ⟨L0, eK0⟩ : ∃ L0 : tL, L0 = K0 := ⟨_, rfl⟩
  rw [← ez0, ← eJ0] at hI
  rw [← ez0] at hR t_a0 t_p0
  rw [← ez0, ← eJ0, ← eK0] at hB0
  rw [← eJ0] at h_z0
  have g : h_G h_so h_fk E A z I0 L0 s s.heap s.heap [] := ⟨hK, va_S.rf, hB0⟩
  replace hF : h_F [(600, 999), (601, 999), (6, 2), (54, 3)] z I0 I0 := h_F.rf
  have hx := B.exec
  have hb := B.bytes
  have hr := B.returns
  have hts := atoms_spec (ws := wsX4_init) B.pre
  have hown : s.vm.findClass RX4 = some m.cls := findClass_of_methodNamed B.named
  have hlocks := B.notSynchronized
  have iX5 : ∀ w ∈ u_ws RX5 TX5 3, w ∈ wsX4_init := by decide +kernel
  have iX4 : ∀ w ∈ u_ws RX4 TX4 9, w ∈ wsX4_init := by decide +kernel
  have hl := lv_entry ([.ref a0, .ref p0]) (n := 2) (Nat.le_of_ble_eq_true rfl)
  rw [lg_entry_eq]
  generalize (lg_sl ([.ref a0, .ref p0]) ++ List.replicate (2 - (lg_sl ([.ref a0, .ref p0])).length) Slot.unset).toArray = ls at hl ⊢
  have hl : lv_has ls 2 [(0, .ref a0), (1, .ref p0)] := hl
  have hin : meth.name = "<init>" := (name_of_methodNamed B.named B.method).1
  replace hZ : h_X [(600, 999), (601, 999), (6, 2), (54, 3)] [] (some a0) z0 J0 K0 z I0 L0 := by rw [ez0, eJ0, eK0]; exact h_X.rf
  replace hz : I0 a0 = (fun _ => 0) := h_z0
  replace hQ : h_Q [(600, 999), (601, 999), (6, 2), (54, 3), (5, 3)] (some a0) z0 z I0 := by rw [ez0]; exact h_Q.rf hU (fun b hb => by cases hb; exact h_z0)
  refine lv_aload_n hx hb dX4_init_0 rfl (lv_at hl 0 rfl) ?_
  refine W.objInit hx hb hown (hts (.methodLink RX4 3 objectInit) (by decide +kernel)) (hts (.instanceMethod objectInit) (by decide +kernel)) (hts (.code objectInit ⟨#[0xb1]⟩ 1 none) (List.mem_of_getElem? (i := 3) rfl)) rfl (by rw [hml]; exact hl.1) rfl dX4_init_1 (Nat.le_of_ble_eq_true rfl) (Nat.le_of_ble_eq_true rfl) ?_
  refine W.eq (g2 := F0 m 4 ls []) rfl ?_
  refine lv_aload_n hx hb dX4_init_4 rfl (lv_at hl 0 rfl) ?_
  replace hZ := hZ.tcall hF rfl
  replace hQ := hQ.tc hF rfl
  refine h_newO (C := RX5) (T := TX5) (N := 3) (ci := 5) hx hb hts iX5 tyX5 tyX5_ok hown (hts (.classLink RX4 9 RX5) (by decide +kernel)) (hts (.instantiable RX5 3) (by decide +kernel)) (hts (.initialized RX5) (by decide +kernel)) g hA rfl so_55 (fun j hj => by rcases (show j = 0 ∨ j = 1 ∨ j = 2 by omega) with rfl | rfl | rfl <;> rfl) (Nat.le_of_ble_eq_true rfl) (Nat.le_of_ble_eq_true rfl) dX4_init_5 (fun q1 H hq0 g => ?_)
  have n_q1 := hZ.fresh hq0 (fun h => h_neq t_a0 (by decide) hq0 (Option.some.inj h).symm)
  replace hu_q1 := hQ.1.u (q := q1) (t := 55) hq0
  replace hQ := hQ.nw (q := q1) (t := 55) hq0 (by decide)
  replace hI := hI.nw (q := q1) (t := 55) (f := fun _ => none)
  replace hR := hR.nw (q := q1) (t := 55) (f := fun _ => none) hq0 (fun k t2 n2 h => by cases (show (none : Option (Nat × Bool)) = some (t2, n2) from h))
  replace hZ := hZ.nw (q := q1) (t := 55) (f := fun _ => none) hq0 (L2 := (h_rL L0 q1 (fun _ => 0))) (fun b hb => h_rL_n hb)
  replace hz : h_row I0 q1 (fun _ => 0) a0 = (fun _ => 0) := (h_row_n (h_neq t_a0 (by decide) hq0)).trans hz
  replace t_a0 := h_nwk (q := q1) (t := 55) (f := fun _ => none) hq0 t_a0 (by decide)
  replace t_p0 := h_nwk (q := q1) (t := 55) (f := fun _ => none) hq0 t_p0 (by decide)
  replace tq1 : (z.nw q1 55 (fun _ => none)).ty q1 = 55 := nw_te
  have hzq1 : h_row I0 q1 (fun _ => 0) q1 = fun _ => 0 := h_row_e
  obtain ⟨z, ez⟩ : ∃ z1 : tZ, z1 = (z.nw q1 55 (fun _ => none)) := ⟨_, rfl⟩
  rw [← ez] at g hI hR hZ hQ hu_q1 t_a0 t_p0 tq1 
  clear ez
  obtain ⟨I0, eI⟩ : ∃ J : tI, J = h_row I0 q1 (fun _ => 0) := ⟨_, rfl⟩
  rw [← eI] at g hI hZ hQ hz hzq1
  clear eI
  obtain ⟨L2, eL⟩ : ∃ J : tL, J = (h_rL L0 q1 (fun _ => 0)) := ⟨_, rfl⟩
  rw [← eL] at g hZ
  replace hF : h_F [(600, 999), (601, 999), (6, 2), (54, 3)] z I0 I0 := h_F.rf
  refine W.cs (cells' := 1) (slots' := 3) rfl rfl ?_
  refine lv_dup hx hb dX4_init_8 rfl ?_
  replace hZ := hZ.tcall hF rfl
  replace hQ := hQ.tc hF rfl
  refine va_callv (va_runI (As := []) (rest := [.ref q1, .ref a0]) ⟨hx, hb, hml, hown, hts⟩ (zX5_init l E X A z I0 L2 q1 tq1 hzq1 hQ.1) (cwI 0 hts gX4_init_X5_init rfl rfl rfl (hts (.initialized RX5) (by decide +kernel)) (hts (.methodLink RX4 11 yX5_init) (by decide +kernel)) (hts (.instanceMethod yX5_init) (by decide +kernel)) rfl (by decide +kernel) ⟨Nat.le_of_ble_eq_true rfl, Nat.le_of_ble_eq_true rfl⟩) ⟨h_blind _ _ _ _ _ _ _, h_pre _ hE hk hX hA hI hR g⟩ rfl rfl hl.1 rfl (lv_room (Nat.le_of_ble_eq_true rfl)) dX4_init_9 ⟨Nat.le_of_ble_eq_true rfl, Nat.le_of_ble_eq_true rfl⟩) g.2.1 (fun q _ h => h) (fun q h => h) (fun u t H1 locs ht hvm h3 hB hz1 hk1 hS => ?_)
  obtain ⟨z, I0, L4⟩ := u
  obtain ⟨hI, hR, xh3, qh3, tq1_, h3⟩ := h3
  replace hI : h_I z I0 := hI
  replace hR : h_R z := hR
  have hB : h_B E A z I0 L4 t := hB
  have xh3 : h_X [(600, 999), (601, 999), (6, 2)] [] (some q1) _ _ _ z I0 L4 := xh3
  have qh3 : h_Q [(600, 999), (601, 999), (6, 2)] (some q1) _ z I0 := qh3
  replace hQ := hQ.call xh3 qh3 rfl rfl
  replace hu_q1 := hu_q1.call qh3.2.1 tq1 (by decide)
  replace hZ := hZ.call xh3 rfl (fun t h9 => rfl) (fun b hb => Or.inr (by cases hb; exact n_q1))
  replace hz : I0 a0 = (fun _ => 0) := (funext (fun k => xh3.I t_a0 (by decide) (h_sne t_a0 tq1 (by decide)) rfl)).trans hz
  replace t_a0 := xh3.ty t_a0 (by decide) (h_sne t_a0 tq1 (by decide))
  replace t_p0 := xh3.ty t_p0 (by decide) (h_sne t_p0 tq1 (by decide))
  replace tq1 : z.ty q1 = 6 := tq1_
  replace g := h_after g hB ht hS
  generalize H1 = H at g
  clear hB hk1 hz1 ht hvm hS
  replace hF : h_F [(600, 999), (601, 999), (6, 2), (54, 3)] z I0 I0 := h_F.rf
  refine W.cs (cells' := 3) (slots' := 17) rfl rfl ?_
  replace hZ := hZ.tcall hF rfl
  replace hQ := hQ.tc hF rfl
  refine h_putR (ty := tyX4 1) (v := q1) hx hb hts iX4 tyX4 tyX4_ok nmX4 hown g t_a0 (by decide) so_54 rfl 1 (by decide) rfl (hts (.fieldLink RX4 12 "CapLeague$LawReader" "read" "LCapLeague$Laws;") (by decide +kernel)) rfl rfl hin rfl (by decide +kernel) rfl rfl dX4_init_12 (fun H locs g => ?_)
  replace hQ := hQ.wR (a := a0) (k := 1) (v := q1) t_a0 (by decide) tq1 (by decide) (fun h9 => ⟨hu_q1, n_q1⟩)
  replace hR := hR.wR (k0 := 1) (v := some q1) t_a0 (fun _ => rfl)
  replace hZ := hZ.wR (a := a0) (k := 1) (v := some q1) (Or.inl rfl)
  replace hI : h_I (z.wR a0 1 (some q1)) I0 := hI
  replace t_a0 : (z.wR a0 1 (some q1)).ty a0 = 54 := t_a0
  replace t_p0 : (z.wR a0 1 (some q1)).ty p0 = 9 := t_p0
  replace tq1 : (z.wR a0 1 (some q1)).ty q1 = 6 := tq1
  replace Ra0_1 : (z.wR a0 1 (some q1)).R a0 1 = some q1 := h_up_eq
  obtain ⟨z, ez⟩ : ∃ z1 : tZ, z1 = (z.wR a0 1 (some q1)) := ⟨_, rfl⟩
  rw [← ez] at g hI hR hZ hQ t_a0 t_p0 tq1 Ra0_1
  clear ez
  replace hF : h_F [(600, 999), (601, 999), (6, 2), (54, 3)] z I0 I0 := h_F.rf
  refine lv_aload_n hx hb dX4_init_15 rfl (lv_at hl 0 rfl) ?_
  refine lv_iconst (v := (-1)) hx hb dX4_init_16 (by decide) ?_
  refine h_putI (ty := .int) (v := (-1)) hx hb hts iX4 tyX4 tyX4_ok nmX4 hown g t_a0 (by decide) so_54 rfl 3 (by decide) rfl (hts (.fieldLink RX4 18 "CapLeague$LawReader" "faultPlace" "I") (by decide +kernel)) rfl rfl (by decide +kernel) rfl rfl dX4_init_17 (fun I5 H locs eI5 g => ?_)
  replace hI := hI.wr eI5 t_a0 (rfl : h_bd 54 3 = ((-2147483648), 2147483647)) (by decide) (by decide)
  replace hF := hF.wr eI5 t_a0 rfl
  replace hz := h_hz hz eI5
  refine lv_aload_n hx hb dX4_init_20 rfl (lv_at hl 0 rfl) ?_
  refine lv_aload_n hx hb dX4_init_21 rfl (lv_at hl 1 rfl) ?_
  replace kf_a0_3 : I5 a0 3 = (-1) := h_n0 eI5
  replace hZ := hZ.tcall hF rfl
  replace hQ := hQ.tc hF rfl
  refine h_putR (ty := tyX4 0) (v := p0) hx hb hts iX4 tyX4 tyX4_ok nmX4 hown g t_a0 (by decide) so_54 rfl 0 (by decide) rfl (hts (.fieldLink RX4 22 "CapLeague$LawReader" "tape" "LCapLeague$Tape;") (by decide +kernel)) rfl rfl hin rfl (by decide +kernel) rfl rfl dX4_init_22 (fun H locs g => ?_)
  replace hQ := hQ.wR (a := a0) (k := 0) (v := p0) t_a0 (by decide) t_p0 (by decide) (fun h9 => absurd h9 (by decide))
  replace hR := hR.wR (k0 := 0) (v := some p0) t_a0 (fun _ => rfl)
  replace hZ := hZ.wR (a := a0) (k := 0) (v := some p0) (Or.inl rfl)
  replace hI : h_I (z.wR a0 0 (some p0)) I5 := hI
  replace t_a0 : (z.wR a0 0 (some p0)).ty a0 = 54 := t_a0
  replace t_p0 : (z.wR a0 0 (some p0)).ty p0 = 9 := t_p0
  replace tq1 : (z.wR a0 0 (some p0)).ty q1 = 6 := tq1
  replace Ra0_1 : (z.wR a0 0 (some p0)).R a0 1 = some q1 := (h_up_at (by decide)).trans Ra0_1
  replace Ra0_0 : (z.wR a0 0 (some p0)).R a0 0 = some p0 := h_up_eq
  obtain ⟨z, ez⟩ : ∃ z1 : tZ, z1 = (z.wR a0 0 (some p0)) := ⟨_, rfl⟩
  rw [← ez] at g hI hR hZ hQ t_a0 t_p0 tq1 Ra0_1 Ra0_0
  clear ez
  obtain ⟨I0, eI⟩ : ∃ J : tI, J = I5 := ⟨_, rfl⟩
  rw [← eI] at g hI hZ hQ hz kf_a0_3
  clear eI
  replace hF : h_F [(600, 999), (601, 999), (6, 2), (54, 3)] z I0 I0 := h_F.rf
  replace hZ := hZ.tcall hF rfl
  replace hQ := hQ.tc hF rfl
  replace kf_a0_3 : I0 a0 3 = (-1) := kf_a0_3
  have g := g.rt (a := a0) (t := 5) (by rw [t_a0]; decide) (by rw [t_a0]; rfl)
  replace hI := hI.rt (a := a0) (t := 5) (fun k => by
      rw [hz]
      by_cases hk3 : k = 3
      · subst hk3
        exact ⟨by decide, by decide⟩
      simp only [if_neg hk3]
      exact h_bd0 5 k)
  replace hR := hR.rt (t := 5) t_a0 (by decide) (by decide) (fun k t2 n2 h hk => by
      have hk9 : k < 9 := hk
      rcases (show k = 0 ∨ k = 1 ∨ k = 2 ∨ k = 3 ∨ k = 4 ∨ k = 5 ∨ k = 6 ∨ k = 7 ∨ k = 8 by omega) with rfl | rfl | rfl | rfl | rfl | rfl | rfl | rfl | rfl
      · have e9 : some (9, false) = some (t2, n2) := h
        cases e9
        exact ⟨p0, Ra0_0, t_p0⟩
      · have e9 : some (6, false) = some (t2, n2) := h
        cases e9
        exact ⟨q1, Ra0_1, tq1⟩
      · cases (show (none : Option (Nat × Bool)) = some (t2, n2) from h)
      · cases (show (none : Option (Nat × Bool)) = some (t2, n2) from h)
      · cases (show (none : Option (Nat × Bool)) = some (t2, n2) from h)
      · cases (show (none : Option (Nat × Bool)) = some (t2, n2) from h)
      · cases (show (none : Option (Nat × Bool)) = some (t2, n2) from h)
      · cases (show (none : Option (Nat × Bool)) = some (t2, n2) from h)
      · cases (show (none : Option (Nat × Bool)) = some (t2, n2) from h))
  replace hZ := hZ.rt (a := a0) (t := 5) (Or.inl rfl)
  replace hQ := hQ.rt (a := a0) (t := 5) t_a0 (by decide) (by decide) rfl rfl
  replace t_p0 := h_rtk (t := 5) t_p0 t_a0 (by decide)
  replace tq1 := h_rtk (t := 5) tq1 t_a0 (by decide)
  replace t_a0 : (z.rt a0 5).ty a0 = 5 := rt_e
  replace Ra0_1 : (z.rt a0 5).R a0 1 = some q1 := Ra0_1
  replace Ra0_0 : (z.rt a0 5).R a0 0 = some p0 := Ra0_0
  obtain ⟨z, ez⟩ : ∃ z1 : tZ, z1 = (z.rt a0 5) := ⟨_, rfl⟩
  rw [← ez] at g hI hR hZ hQ t_a0 t_p0 tq1 Ra0_1 Ra0_0
  clear ez
  replace hF : h_F [(600, 999), (601, 999), (6, 2), (54, 3)] z I0 I0 := h_F.rf
  have rq1 := Ra0_1
  have rp0 := Ra0_0
  replace hZ := hZ.tcall hF rfl
  replace hQ := hQ.tc hF rfl
  replace hS := g.2.1
  exact W.vret hx hb hr (fun t ht hW => ⟨⟨(z, I0, L4), rfl, ⟨hI, hR, hZ, hQ, t_a0, trivial⟩, h_ret g ht⟩, hS.F ht⟩) hS.2.2 dX4_init_25
set_option maxHeartbeats 4000000 in
set_option maxRecDepth 100000 in
theorem zX0_init (l : Launch) (E : tE) (X : tX) (A : Nat → Prop) (z0 : tZ) (J0 : tI) (K0 : tL) (a0 : Nat) (t_a0 : z0.ty a0 = 50) (p0 : Nat) (t_p0 : z0.ty p0 = 4) (h_z0 : J0 a0 = fun _ => 0) (hU : h_U z0) : Met l yX0_init wsX0_init ({ frames := 1, cells := 13, slots := 172, locals := 64 }) (va_Pc [.ref a0, .ref p0] (h_P E X A z0 J0 K0)) (va_Qv (fun (q1 : tZ × tI × tL) => h_I q1.1 q1.2.1 ∧ h_R q1.1 ∧ h_X [] [] (some a0) z0 J0 K0 q1.1 q1.2.1 q1.2.2 ∧ h_Q [] (some a0) z0 q1.1 q1.2.1 ∧ q1.1.ty a0 = 1 ∧ (∀ k : Nat, q1.2.1 a0 k = 0)) (fun (q1 : tZ × tI × tL) t => h_B E A q1.1 q1.2.1 q1.2.2 t) A) 13 172 A := by
  refine Met.ofW (cc := cX0_init) (maxL := 2) (ret := none) (by decide) rfl ?_
  intro pr_ ev_ s m args below meth cd_ s₁ B hml hv
  obtain ⟨rfl, hE, hk, hX, hA, hK, hI, hR, hB0⟩ := hv
  obtain ⟨z, ez0⟩ : ∃ z : tZ, z = z0 := ⟨_, rfl⟩
  obtain ⟨I0, eJ0⟩ : ∃ I0 : tI, I0 = J0 := ⟨_, rfl⟩
  obtain ⟨L0, eK0⟩ : ∃ L0 : tL, L0 = K0 := ⟨_, rfl⟩
  rw [← ez0, ← eJ0] at hI
  rw [← ez0] at hR t_a0 t_p0
  rw [← ez0, ← eJ0, ← eK0] at hB0
  rw [← eJ0] at h_z0
  have g : h_G h_so h_fk E A z I0 L0 s s.heap s.heap [] := ⟨hK, va_S.rf, hB0⟩
  replace hF : h_F [] z I0 I0 := h_F.rf
  have hx := B.exec
  have hb := B.bytes
  have hr := B.returns
  have hts := atoms_spec (ws := wsX0_init) B.pre
  have hown : s.vm.findClass RX0 = some m.cls := findClass_of_methodNamed B.named
  have hlocks := B.notSynchronized
  have iX0 : ∀ w ∈ u_ws RX0 TX0 9, w ∈ wsX0_init := by decide +kernel
  have hl := lv_entry ([.ref a0, .ref p0]) (n := 2) (Nat.le_of_ble_eq_true rfl)
  rw [lg_entry_eq]
  generalize (lg_sl ([.ref a0, .ref p0]) ++ List.replicate (2 - (lg_sl ([.ref a0, .ref p0])).length) Slot.unset).toArray = ls at hl ⊢
  have hl : lv_has ls 2 [(0, .ref a0), (1, .ref p0)] := hl
  have hin : meth.name = "<init>" := (name_of_methodNamed B.named B.method).1
  replace hZ : h_X [] [] (some a0) z0 J0 K0 z I0 L0 := by rw [ez0, eJ0, eK0]; exact h_X.rf
  replace hz : I0 a0 = (fun _ => 0) := h_z0
  replace hQ : h_Q [] (some a0) z0 z I0 := by rw [ez0]; exact h_Q.rf hU (fun b hb => by cases hb; exact h_z0)
  refine lv_aload_n hx hb dX0_init_0 rfl (lv_at hl 0 rfl) ?_
  refine W.objInit hx hb hown (hts (.methodLink RX0 3 objectInit) (by decide +kernel)) (hts (.instanceMethod objectInit) (by decide +kernel)) (hts (.code objectInit ⟨#[0xb1]⟩ 1 none) (List.mem_of_getElem? (i := 3) rfl)) rfl (by rw [hml]; exact hl.1) rfl dX0_init_1 (Nat.le_of_ble_eq_true rfl) (Nat.le_of_ble_eq_true rfl) ?_
  refine W.eq (g2 := F0 m 4 ls []) rfl ?_
  refine lv_aload_n hx hb dX0_init_4 rfl (lv_at hl 0 rfl) ?_
  refine lv_bipush (v := 60) hx hb dX0_init_5 (by decide) ?_
  replace hZ := hZ.tcall hF rfl
  replace hQ := hQ.tc hF rfl
  refine h_newaP hx hb hown (hts (.classLink RX0 9 RX6) (by decide +kernel)) hE.2.2.2.1 g hA so_101 (by decide) (by decide) (by decide) (Nat.le_of_ble_eq_true rfl) (Nat.le_of_ble_eq_true rfl) dX0_init_7 (fun q1 H hq0 g => ?_)
  have n_q1 := hZ.fresh hq0 (fun h => h_neq t_a0 (by decide) hq0 (Option.some.inj h).symm)
  replace hu_q1 := hQ.1.u (q := q1) (t := 101) hq0
  replace hQ := hQ.nw (q := q1) (t := 101) hq0 (by decide)
  replace hI := hI.nw (q := q1) (t := 101) (f := fun _ => none)
  replace hR := hR.nw (q := q1) (t := 101) (f := fun _ => none) hq0 (fun k t2 n2 h => by have e9 : some (7, true) = some (t2, n2) := h; cases e9; exact ⟨rfl, rfl⟩)
  replace hZ := hZ.nw (q := q1) (t := 101) (f := fun _ => none) hq0 (L2 := L0) (fun _ _ => rfl)
  replace hz : h_row I0 q1 (fun _ => 0) a0 = (fun _ => 0) := (h_row_n (h_neq t_a0 (by decide) hq0)).trans hz
  replace t_a0 := h_nwk (q := q1) (t := 101) (f := fun _ => none) hq0 t_a0 (by decide)
  replace t_p0 := h_nwk (q := q1) (t := 101) (f := fun _ => none) hq0 t_p0 (by decide)
  replace tq1 : (z.nw q1 101 (fun _ => none)).ty q1 = 101 := nw_te
  obtain ⟨z, ez⟩ : ∃ z1 : tZ, z1 = (z.nw q1 101 (fun _ => none)) := ⟨_, rfl⟩
  rw [← ez] at g hI hR hZ hQ hu_q1 t_a0 t_p0 tq1 
  clear ez
  obtain ⟨I0, eI⟩ : ∃ J : tI, J = h_row I0 q1 (fun _ => 0) := ⟨_, rfl⟩
  rw [← eI] at g hI hZ hQ hz
  clear eI
  replace hF : h_F [] z I0 I0 := h_F.rf
  refine W.cs (cells' := 1) (slots' := 60) rfl rfl ?_
  replace hZ := hZ.tcall hF rfl
  replace hQ := hQ.tc hF rfl
  refine h_putR (ty := tyX0 1) (v := q1) hx hb hts iX0 tyX0 tyX0_ok nmX0 hown g t_a0 (by decide) so_50 rfl 1 (by decide) rfl (hts (.fieldLink RX0 11 "CapLeague$Books" "players" "[LCapLeague$Player;") (by decide +kernel)) rfl rfl hin rfl (by decide +kernel) rfl rfl dX0_init_10 (fun H locs g => ?_)
  replace hQ := hQ.wR (a := a0) (k := 1) (v := q1) t_a0 (by decide) tq1 (by decide) (fun h9 => ⟨hu_q1, n_q1⟩)
  replace hR := hR.wR (k0 := 1) (v := some q1) t_a0 (fun _ => rfl)
  replace hZ := hZ.wR (a := a0) (k := 1) (v := some q1) (Or.inl rfl)
  replace hI : h_I (z.wR a0 1 (some q1)) I0 := hI
  replace t_a0 : (z.wR a0 1 (some q1)).ty a0 = 50 := t_a0
  replace t_p0 : (z.wR a0 1 (some q1)).ty p0 = 4 := t_p0
  replace tq1 : (z.wR a0 1 (some q1)).ty q1 = 101 := tq1
  replace Ra0_1 : (z.wR a0 1 (some q1)).R a0 1 = some q1 := h_up_eq
  obtain ⟨z, ez⟩ : ∃ z1 : tZ, z1 = (z.wR a0 1 (some q1)) := ⟨_, rfl⟩
  rw [← ez] at g hI hR hZ hQ t_a0 t_p0 tq1 Ra0_1
  clear ez
  replace hF : h_F [] z I0 I0 := h_F.rf
  refine lv_aload_n hx hb dX0_init_13 rfl (lv_at hl 0 rfl) ?_
  refine lv_bipush (v := 8) hx hb dX0_init_14 (by decide) ?_
  refine lv_bipush (v := 10) hx hb dX0_init_16 (by decide) ?_
  replace hZ := hZ.tcall hF rfl
  replace hQ := hQ.tc hF rfl
  refine h_newG (N := 8) (M := 10) hx hb hown (hts (.classLink RX0 17 "[[I") (by decide +kernel)) hE.2.2.2.2 (hts (.arrayClass .int) (by decide +kernel)) g hA so_104 so_154 (by decide) (by decide) (by decide) (by decide) (by decide) (by decide) (Nat.le_of_ble_eq_true rfl) (Nat.le_of_ble_eq_true rfl) dX0_init_18 (fun q2 H locs hq0 g => ?_)
  have n_q2 := hZ.fresh (hq0 q2 (Nat.le_refl _) (Nat.le_add_right _ _)) (fun h => h_neq t_a0 (by decide) (hq0 q2 (Nat.le_refl _) (Nat.le_add_right _ _)) (Option.some.inj h).symm)
  replace hu_q2 := hQ.1.ug (q := q2) (t := 104) (tr := 154) hq0
  replace hQ := hQ.nwg (q := q2) (t := 104) (tr := 154) (N := 8) hq0 (by decide) (by decide)
  replace hI := hI.nwg (q := q2) (t := 104) (tr := 154) (N := 8)
  replace hR := hR.nwg (q := q2) (t := 104) (tr := 154) (N := 8) hq0 (fun k t2 n2 h => by have e9 : some (154, false) = some (t2, n2) := h; cases e9; rfl) rfl (fun _ => rfl)
  replace hZ := hZ.nwg (q := q2) (t := 104) (tr := 154) (N := 8) hq0
  replace hz : h_rows I0 q2 8 a0 = (fun _ => 0) := (h_rows_n (fun h => h_neq t_a0 (by decide) (hq0 a0 h.1 h.2) rfl)).trans hz
  replace Ra0_1 := h_ngr (t := 104) (tr := 154) hq0 t_a0 (by decide) Ra0_1
  replace t_a0 := h_ngk (t := 104) (tr := 154) hq0 t_a0 (by decide)
  replace t_p0 := h_ngk (t := 104) (tr := 154) hq0 t_p0 (by decide)
  replace tq1 := h_ngk (t := 104) (tr := 154) hq0 tq1 (by decide)
  replace tq2 : (z.nwg q2 104 154 8).ty q2 = 104 := ng_te
  obtain ⟨z, ez⟩ : ∃ z1 : tZ, z1 = (z.nwg q2 104 154 8) := ⟨_, rfl⟩
  rw [← ez] at g hI hR hZ hQ hu_q2 t_a0 t_p0 tq1 tq2 Ra0_1
  clear ez
  obtain ⟨I0, eI⟩ : ∃ J : tI, J = h_rows I0 q2 8 := ⟨_, rfl⟩
  rw [← eI] at g hI hZ hQ hz
  clear eI
  replace hF : h_F [] z I0 I0 := h_F.rf
  refine W.cs (cells' := 10) (slots' := 148) rfl rfl ?_
  replace hZ := hZ.tcall hF rfl
  replace hQ := hQ.tc hF rfl
  refine h_putR (ty := tyX0 4) (v := q2) hx hb hts iX0 tyX0 tyX0_ok nmX0 hown g t_a0 (by decide) so_50 rfl 4 (by decide) rfl (hts (.fieldLink RX0 19 "CapLeague$Books" "dead" "[[I") (by decide +kernel)) rfl rfl hin rfl (by decide +kernel) rfl rfl dX0_init_22 (fun H locs g => ?_)
  replace hQ := hQ.wR (a := a0) (k := 4) (v := q2) t_a0 (by decide) tq2 (by decide) (fun h9 => ⟨hu_q2, n_q2⟩)
  replace hR := hR.wR (k0 := 4) (v := some q2) t_a0 (fun _ => rfl)
  replace hZ := hZ.wR (a := a0) (k := 4) (v := some q2) (Or.inl rfl)
  replace hI : h_I (z.wR a0 4 (some q2)) I0 := hI
  replace t_a0 : (z.wR a0 4 (some q2)).ty a0 = 50 := t_a0
  replace t_p0 : (z.wR a0 4 (some q2)).ty p0 = 4 := t_p0
  replace tq1 : (z.wR a0 4 (some q2)).ty q1 = 101 := tq1
  replace tq2 : (z.wR a0 4 (some q2)).ty q2 = 104 := tq2
  replace Ra0_1 : (z.wR a0 4 (some q2)).R a0 1 = some q1 := (h_up_at (by decide)).trans Ra0_1
  replace Ra0_4 : (z.wR a0 4 (some q2)).R a0 4 = some q2 := h_up_eq
  obtain ⟨z, ez⟩ : ∃ z1 : tZ, z1 = (z.wR a0 4 (some q2)) := ⟨_, rfl⟩
  rw [← ez] at g hI hR hZ hQ t_a0 t_p0 tq1 tq2 Ra0_1 Ra0_4
  clear ez
  replace hF : h_F [] z I0 I0 := h_F.rf
  refine lv_aload_n hx hb dX0_init_25 rfl (lv_at hl 0 rfl) ?_
  refine lv_bipush (v := 8) hx hb dX0_init_26 (by decide) ?_
  replace hZ := hZ.tcall hF rfl
  replace hQ := hQ.tc hF rfl
  refine h_newZ hx hb (hts (.arrayClass .boolean) (by decide +kernel)) g hA so_105 (by decide) (by decide) (by decide) (Nat.le_of_ble_eq_true rfl) (Nat.le_of_ble_eq_true rfl) dX0_init_28 (fun q3 H hq0 g => ?_)
  have n_q3 := hZ.fresh hq0 (fun h => h_neq t_a0 (by decide) hq0 (Option.some.inj h).symm)
  replace hu_q3 := hQ.1.u (q := q3) (t := 105) hq0
  replace hQ := hQ.nw (q := q3) (t := 105) hq0 (by decide)
  replace hI := hI.nw (q := q3) (t := 105) (f := fun _ => none)
  replace hR := hR.nw (q := q3) (t := 105) (f := fun _ => none) hq0 (fun k t2 n2 h => by cases (show (none : Option (Nat × Bool)) = some (t2, n2) from h))
  replace hZ := hZ.nw (q := q3) (t := 105) (f := fun _ => none) hq0 (L2 := L0) (fun _ _ => rfl)
  replace hz : h_row I0 q3 (fun _ => 0) a0 = (fun _ => 0) := (h_row_n (h_neq t_a0 (by decide) hq0)).trans hz
  replace Ra0_1 := h_nwr (q := q3) (t := 105) (f := fun _ => none) hq0 t_a0 (by decide) Ra0_1
  replace Ra0_4 := h_nwr (q := q3) (t := 105) (f := fun _ => none) hq0 t_a0 (by decide) Ra0_4
  replace t_a0 := h_nwk (q := q3) (t := 105) (f := fun _ => none) hq0 t_a0 (by decide)
  replace t_p0 := h_nwk (q := q3) (t := 105) (f := fun _ => none) hq0 t_p0 (by decide)
  replace tq1 := h_nwk (q := q3) (t := 105) (f := fun _ => none) hq0 tq1 (by decide)
  replace tq2 := h_nwk (q := q3) (t := 105) (f := fun _ => none) hq0 tq2 (by decide)
  replace tq3 : (z.nw q3 105 (fun _ => none)).ty q3 = 105 := nw_te
  obtain ⟨z, ez⟩ : ∃ z1 : tZ, z1 = (z.nw q3 105 (fun _ => none)) := ⟨_, rfl⟩
  rw [← ez] at g hI hR hZ hQ hu_q3 t_a0 t_p0 tq1 tq2 tq3 Ra0_1 Ra0_4
  clear ez
  obtain ⟨I0, eI⟩ : ∃ J : tI, J = h_row I0 q3 (fun _ => 0) := ⟨_, rfl⟩
  rw [← eI] at g hI hZ hQ hz
  clear eI
  replace hF : h_F [] z I0 I0 := h_F.rf
  refine W.cs (cells' := 11) (slots' := 156) rfl rfl ?_
  replace hZ := hZ.tcall hF rfl
  replace hQ := hQ.tc hF rfl
  refine h_putR (ty := tyX0 5) (v := q3) hx hb hts iX0 tyX0 tyX0_ok nmX0 hown g t_a0 (by decide) so_50 rfl 5 (by decide) rfl (hts (.fieldLink RX0 22 "CapLeague$Books" "spareUsed" "[Z") (by decide +kernel)) rfl rfl hin rfl (by decide +kernel) rfl rfl dX0_init_30 (fun H locs g => ?_)
  replace hQ := hQ.wR (a := a0) (k := 5) (v := q3) t_a0 (by decide) tq3 (by decide) (fun h9 => ⟨hu_q3, n_q3⟩)
  replace hR := hR.wR (k0 := 5) (v := some q3) t_a0 (fun _ => rfl)
  replace hZ := hZ.wR (a := a0) (k := 5) (v := some q3) (Or.inl rfl)
  replace hI : h_I (z.wR a0 5 (some q3)) I0 := hI
  replace t_a0 : (z.wR a0 5 (some q3)).ty a0 = 50 := t_a0
  replace t_p0 : (z.wR a0 5 (some q3)).ty p0 = 4 := t_p0
  replace tq1 : (z.wR a0 5 (some q3)).ty q1 = 101 := tq1
  replace tq2 : (z.wR a0 5 (some q3)).ty q2 = 104 := tq2
  replace tq3 : (z.wR a0 5 (some q3)).ty q3 = 105 := tq3
  replace Ra0_1 : (z.wR a0 5 (some q3)).R a0 1 = some q1 := (h_up_at (by decide)).trans Ra0_1
  replace Ra0_4 : (z.wR a0 5 (some q3)).R a0 4 = some q2 := (h_up_at (by decide)).trans Ra0_4
  replace Ra0_5 : (z.wR a0 5 (some q3)).R a0 5 = some q3 := h_up_eq
  obtain ⟨z, ez⟩ : ∃ z1 : tZ, z1 = (z.wR a0 5 (some q3)) := ⟨_, rfl⟩
  rw [← ez] at g hI hR hZ hQ t_a0 t_p0 tq1 tq2 tq3 Ra0_1 Ra0_4 Ra0_5
  clear ez
  replace hF : h_F [] z I0 I0 := h_F.rf
  refine lv_aload_n hx hb dX0_init_33 rfl (lv_at hl 0 rfl) ?_
  refine lv_bipush (v := 8) hx hb dX0_init_34 (by decide) ?_
  replace hZ := hZ.tcall hF rfl
  replace hQ := hQ.tc hF rfl
  refine h_newI hx hb (hts (.arrayClass .int) (by decide +kernel)) g hA so_106 (by decide) (by decide) (by decide) (Nat.le_of_ble_eq_true rfl) (Nat.le_of_ble_eq_true rfl) dX0_init_36 (fun q4 H hq0 g => ?_)
  have n_q4 := hZ.fresh hq0 (fun h => h_neq t_a0 (by decide) hq0 (Option.some.inj h).symm)
  replace hu_q4 := hQ.1.u (q := q4) (t := 106) hq0
  replace hQ := hQ.nw (q := q4) (t := 106) hq0 (by decide)
  replace hI := hI.nw (q := q4) (t := 106) (f := fun _ => none)
  replace hR := hR.nw (q := q4) (t := 106) (f := fun _ => none) hq0 (fun k t2 n2 h => by cases (show (none : Option (Nat × Bool)) = some (t2, n2) from h))
  replace hZ := hZ.nw (q := q4) (t := 106) (f := fun _ => none) hq0 (L2 := L0) (fun _ _ => rfl)
  replace hz : h_row I0 q4 (fun _ => 0) a0 = (fun _ => 0) := (h_row_n (h_neq t_a0 (by decide) hq0)).trans hz
  replace Ra0_1 := h_nwr (q := q4) (t := 106) (f := fun _ => none) hq0 t_a0 (by decide) Ra0_1
  replace Ra0_4 := h_nwr (q := q4) (t := 106) (f := fun _ => none) hq0 t_a0 (by decide) Ra0_4
  replace Ra0_5 := h_nwr (q := q4) (t := 106) (f := fun _ => none) hq0 t_a0 (by decide) Ra0_5
  replace t_a0 := h_nwk (q := q4) (t := 106) (f := fun _ => none) hq0 t_a0 (by decide)
  replace t_p0 := h_nwk (q := q4) (t := 106) (f := fun _ => none) hq0 t_p0 (by decide)
  replace tq1 := h_nwk (q := q4) (t := 106) (f := fun _ => none) hq0 tq1 (by decide)
  replace tq2 := h_nwk (q := q4) (t := 106) (f := fun _ => none) hq0 tq2 (by decide)
  replace tq3 := h_nwk (q := q4) (t := 106) (f := fun _ => none) hq0 tq3 (by decide)
  replace tq4 : (z.nw q4 106 (fun _ => none)).ty q4 = 106 := nw_te
  obtain ⟨z, ez⟩ : ∃ z1 : tZ, z1 = (z.nw q4 106 (fun _ => none)) := ⟨_, rfl⟩
  rw [← ez] at g hI hR hZ hQ hu_q4 t_a0 t_p0 tq1 tq2 tq3 tq4 Ra0_1 Ra0_4 Ra0_5
  clear ez
  obtain ⟨I0, eI⟩ : ∃ J : tI, J = h_row I0 q4 (fun _ => 0) := ⟨_, rfl⟩
  rw [← eI] at g hI hZ hQ hz
  clear eI
  replace hF : h_F [] z I0 I0 := h_F.rf
  refine W.cs (cells' := 12) (slots' := 164) rfl rfl ?_
  replace hZ := hZ.tcall hF rfl
  replace hQ := hQ.tc hF rfl
  refine h_putR (ty := tyX0 6) (v := q4) hx hb hts iX0 tyX0 tyX0_ok nmX0 hown g t_a0 (by decide) so_50 rfl 6 (by decide) rfl (hts (.fieldLink RX0 26 "CapLeague$Books" "fines" "[I") (by decide +kernel)) rfl rfl hin rfl (by decide +kernel) rfl rfl dX0_init_38 (fun H locs g => ?_)
  replace hQ := hQ.wR (a := a0) (k := 6) (v := q4) t_a0 (by decide) tq4 (by decide) (fun h9 => ⟨hu_q4, n_q4⟩)
  replace hR := hR.wR (k0 := 6) (v := some q4) t_a0 (fun _ => rfl)
  replace hZ := hZ.wR (a := a0) (k := 6) (v := some q4) (Or.inl rfl)
  replace hI : h_I (z.wR a0 6 (some q4)) I0 := hI
  replace t_a0 : (z.wR a0 6 (some q4)).ty a0 = 50 := t_a0
  replace t_p0 : (z.wR a0 6 (some q4)).ty p0 = 4 := t_p0
  replace tq1 : (z.wR a0 6 (some q4)).ty q1 = 101 := tq1
  replace tq2 : (z.wR a0 6 (some q4)).ty q2 = 104 := tq2
  replace tq3 : (z.wR a0 6 (some q4)).ty q3 = 105 := tq3
  replace tq4 : (z.wR a0 6 (some q4)).ty q4 = 106 := tq4
  replace Ra0_1 : (z.wR a0 6 (some q4)).R a0 1 = some q1 := (h_up_at (by decide)).trans Ra0_1
  replace Ra0_4 : (z.wR a0 6 (some q4)).R a0 4 = some q2 := (h_up_at (by decide)).trans Ra0_4
  replace Ra0_5 : (z.wR a0 6 (some q4)).R a0 5 = some q3 := (h_up_at (by decide)).trans Ra0_5
  replace Ra0_6 : (z.wR a0 6 (some q4)).R a0 6 = some q4 := h_up_eq
  obtain ⟨z, ez⟩ : ∃ z1 : tZ, z1 = (z.wR a0 6 (some q4)) := ⟨_, rfl⟩
  rw [← ez] at g hI hR hZ hQ t_a0 t_p0 tq1 tq2 tq3 tq4 Ra0_1 Ra0_4 Ra0_5 Ra0_6
  clear ez
  replace hF : h_F [] z I0 I0 := h_F.rf
  refine lv_aload_n hx hb dX0_init_41 rfl (lv_at hl 0 rfl) ?_
  refine lv_bipush (v := 8) hx hb dX0_init_42 (by decide) ?_
  replace hZ := hZ.tcall hF rfl
  replace hQ := hQ.tc hF rfl
  refine h_newI hx hb (hts (.arrayClass .int) (by decide +kernel)) g hA so_108 (by decide) (by decide) (by decide) (Nat.le_of_ble_eq_true rfl) (Nat.le_of_ble_eq_true rfl) dX0_init_44 (fun q5 H hq0 g => ?_)
  have n_q5 := hZ.fresh hq0 (fun h => h_neq t_a0 (by decide) hq0 (Option.some.inj h).symm)
  replace hu_q5 := hQ.1.u (q := q5) (t := 108) hq0
  replace hQ := hQ.nw (q := q5) (t := 108) hq0 (by decide)
  replace hI := hI.nw (q := q5) (t := 108) (f := fun _ => none)
  replace hR := hR.nw (q := q5) (t := 108) (f := fun _ => none) hq0 (fun k t2 n2 h => by cases (show (none : Option (Nat × Bool)) = some (t2, n2) from h))
  replace hZ := hZ.nw (q := q5) (t := 108) (f := fun _ => none) hq0 (L2 := L0) (fun _ _ => rfl)
  replace hz : h_row I0 q5 (fun _ => 0) a0 = (fun _ => 0) := (h_row_n (h_neq t_a0 (by decide) hq0)).trans hz
  replace Ra0_1 := h_nwr (q := q5) (t := 108) (f := fun _ => none) hq0 t_a0 (by decide) Ra0_1
  replace Ra0_4 := h_nwr (q := q5) (t := 108) (f := fun _ => none) hq0 t_a0 (by decide) Ra0_4
  replace Ra0_5 := h_nwr (q := q5) (t := 108) (f := fun _ => none) hq0 t_a0 (by decide) Ra0_5
  replace Ra0_6 := h_nwr (q := q5) (t := 108) (f := fun _ => none) hq0 t_a0 (by decide) Ra0_6
  replace t_a0 := h_nwk (q := q5) (t := 108) (f := fun _ => none) hq0 t_a0 (by decide)
  replace t_p0 := h_nwk (q := q5) (t := 108) (f := fun _ => none) hq0 t_p0 (by decide)
  replace tq1 := h_nwk (q := q5) (t := 108) (f := fun _ => none) hq0 tq1 (by decide)
  replace tq2 := h_nwk (q := q5) (t := 108) (f := fun _ => none) hq0 tq2 (by decide)
  replace tq3 := h_nwk (q := q5) (t := 108) (f := fun _ => none) hq0 tq3 (by decide)
  replace tq4 := h_nwk (q := q5) (t := 108) (f := fun _ => none) hq0 tq4 (by decide)
  replace tq5 : (z.nw q5 108 (fun _ => none)).ty q5 = 108 := nw_te
  obtain ⟨z, ez⟩ : ∃ z1 : tZ, z1 = (z.nw q5 108 (fun _ => none)) := ⟨_, rfl⟩
  rw [← ez] at g hI hR hZ hQ hu_q5 t_a0 t_p0 tq1 tq2 tq3 tq4 tq5 Ra0_1 Ra0_4 Ra0_5 Ra0_6
  clear ez
  obtain ⟨I0, eI⟩ : ∃ J : tI, J = h_row I0 q5 (fun _ => 0) := ⟨_, rfl⟩
  rw [← eI] at g hI hZ hQ hz
  clear eI
  replace hF : h_F [] z I0 I0 := h_F.rf
  refine W.cs (cells' := 13) (slots' := 172) rfl rfl ?_
  replace hZ := hZ.tcall hF rfl
  replace hQ := hQ.tc hF rfl
  refine h_putR (ty := tyX0 8) (v := q5) hx hb hts iX0 tyX0 tyX0_ok nmX0 hown g t_a0 (by decide) so_50 rfl 8 (by decide) rfl (hts (.fieldLink RX0 30 "CapLeague$Books" "aboveCap" "[I") (by decide +kernel)) rfl rfl hin rfl (by decide +kernel) rfl rfl dX0_init_46 (fun H locs g => ?_)
  replace hQ := hQ.wR (a := a0) (k := 8) (v := q5) t_a0 (by decide) tq5 (by decide) (fun h9 => ⟨hu_q5, n_q5⟩)
  replace hR := hR.wR (k0 := 8) (v := some q5) t_a0 (fun _ => rfl)
  replace hZ := hZ.wR (a := a0) (k := 8) (v := some q5) (Or.inl rfl)
  replace hI : h_I (z.wR a0 8 (some q5)) I0 := hI
  replace t_a0 : (z.wR a0 8 (some q5)).ty a0 = 50 := t_a0
  replace t_p0 : (z.wR a0 8 (some q5)).ty p0 = 4 := t_p0
  replace tq1 : (z.wR a0 8 (some q5)).ty q1 = 101 := tq1
  replace tq2 : (z.wR a0 8 (some q5)).ty q2 = 104 := tq2
  replace tq3 : (z.wR a0 8 (some q5)).ty q3 = 105 := tq3
  replace tq4 : (z.wR a0 8 (some q5)).ty q4 = 106 := tq4
  replace tq5 : (z.wR a0 8 (some q5)).ty q5 = 108 := tq5
  replace Ra0_1 : (z.wR a0 8 (some q5)).R a0 1 = some q1 := (h_up_at (by decide)).trans Ra0_1
  replace Ra0_4 : (z.wR a0 8 (some q5)).R a0 4 = some q2 := (h_up_at (by decide)).trans Ra0_4
  replace Ra0_5 : (z.wR a0 8 (some q5)).R a0 5 = some q3 := (h_up_at (by decide)).trans Ra0_5
  replace Ra0_6 : (z.wR a0 8 (some q5)).R a0 6 = some q4 := (h_up_at (by decide)).trans Ra0_6
  replace Ra0_8 : (z.wR a0 8 (some q5)).R a0 8 = some q5 := h_up_eq
  obtain ⟨z, ez⟩ : ∃ z1 : tZ, z1 = (z.wR a0 8 (some q5)) := ⟨_, rfl⟩
  rw [← ez] at g hI hR hZ hQ t_a0 t_p0 tq1 tq2 tq3 tq4 tq5 Ra0_1 Ra0_4 Ra0_5 Ra0_6 Ra0_8
  clear ez
  replace hF : h_F [] z I0 I0 := h_F.rf
  refine lv_aload_n hx hb dX0_init_49 rfl (lv_at hl 0 rfl) ?_
  refine lv_aload_n hx hb dX0_init_50 rfl (lv_at hl 1 rfl) ?_
  replace hZ := hZ.tcall hF rfl
  replace hQ := hQ.tc hF rfl
  refine h_putR (ty := tyX0 0) (v := p0) hx hb hts iX0 tyX0 tyX0_ok nmX0 hown g t_a0 (by decide) so_50 rfl 0 (by decide) rfl (hts (.fieldLink RX0 33 "CapLeague$Books" "lawBook" "LCapLeague$LawBook;") (by decide +kernel)) rfl rfl hin rfl (by decide +kernel) rfl rfl dX0_init_51 (fun H locs g => ?_)
  replace hQ := hQ.wR (a := a0) (k := 0) (v := p0) t_a0 (by decide) t_p0 (by decide) (fun h9 => absurd h9 (by decide))
  replace hR := hR.wR (k0 := 0) (v := some p0) t_a0 (fun _ => rfl)
  replace hZ := hZ.wR (a := a0) (k := 0) (v := some p0) (Or.inl rfl)
  replace hI : h_I (z.wR a0 0 (some p0)) I0 := hI
  replace t_a0 : (z.wR a0 0 (some p0)).ty a0 = 50 := t_a0
  replace t_p0 : (z.wR a0 0 (some p0)).ty p0 = 4 := t_p0
  replace tq1 : (z.wR a0 0 (some p0)).ty q1 = 101 := tq1
  replace tq2 : (z.wR a0 0 (some p0)).ty q2 = 104 := tq2
  replace tq3 : (z.wR a0 0 (some p0)).ty q3 = 105 := tq3
  replace tq4 : (z.wR a0 0 (some p0)).ty q4 = 106 := tq4
  replace tq5 : (z.wR a0 0 (some p0)).ty q5 = 108 := tq5
  replace Ra0_1 : (z.wR a0 0 (some p0)).R a0 1 = some q1 := (h_up_at (by decide)).trans Ra0_1
  replace Ra0_4 : (z.wR a0 0 (some p0)).R a0 4 = some q2 := (h_up_at (by decide)).trans Ra0_4
  replace Ra0_5 : (z.wR a0 0 (some p0)).R a0 5 = some q3 := (h_up_at (by decide)).trans Ra0_5
  replace Ra0_6 : (z.wR a0 0 (some p0)).R a0 6 = some q4 := (h_up_at (by decide)).trans Ra0_6
  replace Ra0_8 : (z.wR a0 0 (some p0)).R a0 8 = some q5 := (h_up_at (by decide)).trans Ra0_8
  replace Ra0_0 : (z.wR a0 0 (some p0)).R a0 0 = some p0 := h_up_eq
  obtain ⟨z, ez⟩ : ∃ z1 : tZ, z1 = (z.wR a0 0 (some p0)) := ⟨_, rfl⟩
  rw [← ez] at g hI hR hZ hQ t_a0 t_p0 tq1 tq2 tq3 tq4 tq5 Ra0_1 Ra0_4 Ra0_5 Ra0_6 Ra0_8 Ra0_0
  clear ez
  replace hF : h_F [] z I0 I0 := h_F.rf
  replace hZ := hZ.tcall hF rfl
  replace hQ := hQ.tc hF rfl
  have g := g.rt (a := a0) (t := 1) (by rw [t_a0]; decide) (by rw [t_a0]; rfl)
  replace hI := hI.rt (a := a0) (t := 1) (fun k => by
      rw [hz]
      exact h_bd0 1 k)
  replace hR := hR.rt (t := 1) t_a0 (by decide) (by decide) (fun k t2 n2 h hk => by
      have hk9 : k < 9 := hk
      rcases (show k = 0 ∨ k = 1 ∨ k = 2 ∨ k = 3 ∨ k = 4 ∨ k = 5 ∨ k = 6 ∨ k = 7 ∨ k = 8 by omega) with rfl | rfl | rfl | rfl | rfl | rfl | rfl | rfl | rfl
      · have e9 : some (4, false) = some (t2, n2) := h
        cases e9
        exact ⟨p0, Ra0_0, t_p0⟩
      · have e9 : some (101, false) = some (t2, n2) := h
        cases e9
        exact ⟨q1, Ra0_1, tq1⟩
      · cases (show (none : Option (Nat × Bool)) = some (t2, n2) from h)
      · cases (show (none : Option (Nat × Bool)) = some (t2, n2) from h)
      · have e9 : some (104, false) = some (t2, n2) := h
        cases e9
        exact ⟨q2, Ra0_4, tq2⟩
      · have e9 : some (105, false) = some (t2, n2) := h
        cases e9
        exact ⟨q3, Ra0_5, tq3⟩
      · have e9 : some (106, false) = some (t2, n2) := h
        cases e9
        exact ⟨q4, Ra0_6, tq4⟩
      · cases (show (none : Option (Nat × Bool)) = some (t2, n2) from h)
      · have e9 : some (108, false) = some (t2, n2) := h
        cases e9
        exact ⟨q5, Ra0_8, tq5⟩)
  replace hZ := hZ.rt (a := a0) (t := 1) (Or.inl rfl)
  replace hQ := hQ.rt (a := a0) (t := 1) t_a0 (by decide) (by decide) rfl rfl
  replace t_p0 := h_rtk (t := 1) t_p0 t_a0 (by decide)
  replace tq1 := h_rtk (t := 1) tq1 t_a0 (by decide)
  replace tq2 := h_rtk (t := 1) tq2 t_a0 (by decide)
  replace tq3 := h_rtk (t := 1) tq3 t_a0 (by decide)
  replace tq4 := h_rtk (t := 1) tq4 t_a0 (by decide)
  replace tq5 := h_rtk (t := 1) tq5 t_a0 (by decide)
  replace t_a0 : (z.rt a0 1).ty a0 = 1 := rt_e
  replace Ra0_1 : (z.rt a0 1).R a0 1 = some q1 := Ra0_1
  replace Ra0_4 : (z.rt a0 1).R a0 4 = some q2 := Ra0_4
  replace Ra0_5 : (z.rt a0 1).R a0 5 = some q3 := Ra0_5
  replace Ra0_6 : (z.rt a0 1).R a0 6 = some q4 := Ra0_6
  replace Ra0_8 : (z.rt a0 1).R a0 8 = some q5 := Ra0_8
  replace Ra0_0 : (z.rt a0 1).R a0 0 = some p0 := Ra0_0
  obtain ⟨z, ez⟩ : ∃ z1 : tZ, z1 = (z.rt a0 1) := ⟨_, rfl⟩
  rw [← ez] at g hI hR hZ hQ t_a0 t_p0 tq1 tq2 tq3 tq4 tq5 Ra0_1 Ra0_4 Ra0_5 Ra0_6 Ra0_8 Ra0_0
  clear ez
  replace hF : h_F [] z I0 I0 := h_F.rf
  have rq1 := Ra0_1
  have rq2 := Ra0_4
  have rq3 := Ra0_5
  have rq4 := Ra0_6
  have rq5 := Ra0_8
  have rp0 := Ra0_0
  replace hZ := hZ.tcall hF rfl
  replace hQ := hQ.tc hF rfl
  replace hS := g.2.1
  exact W.vret hx hb hr (fun t ht hW => ⟨⟨(z, I0, L0), rfl, ⟨hI, hR, hZ, hQ, t_a0, (fun k => by show I0 a0 k = 0; rw [hz])⟩, h_ret g ht⟩, hS.F ht⟩) hS.2.2 dX0_init_54
set_option maxHeartbeats 4000000 in
set_option maxRecDepth 100000 in
theorem zX10_init (l : Launch) (E : tE) (X : tX) (A : Nat → Prop) (z0 : tZ) (J0 : tI) (K0 : tL) (a0 : Nat) (t_a0 : z0.ty a0 = 60) (h_z0 : J0 a0 = fun _ => 0) (hU : h_U z0) : Met l yX10_init wsX10_init ({ frames := 1, cells := 12, slots := 888, locals := 64 }) (va_Pc [.ref a0] (h_P E X A z0 J0 K0)) (va_Qv (fun (q1 : tZ × tI × tL) => h_I q1.1 q1.2.1 ∧ h_R q1.1 ∧ h_X [(1100, 999)] [] (some a0) z0 J0 K0 q1.1 q1.2.1 q1.2.2 ∧ h_Q [(1100, 999)] (some a0) z0 q1.1 q1.2.1 ∧ q1.1.ty a0 = 11 ∧ True) (fun (q1 : tZ × tI × tL) t => h_B E A q1.1 q1.2.1 q1.2.2 t) A) 12 888 A := by
  refine Met.ofW (cc := cX10_init) (maxL := 2) (ret := none) (by decide) rfl ?_
  intro pr_ ev_ s m args below meth cd_ s₁ B hml hv
  obtain ⟨rfl, hE, hk, hX, hA, hK, hI, hR, hB0⟩ := hv
  obtain ⟨z, ez0⟩ : ∃ z : tZ, z = z0 := ⟨_, rfl⟩
  obtain ⟨I0, eJ0⟩ : ∃ I0 : tI, I0 = J0 := ⟨_, rfl⟩
  obtain ⟨L0, eK0⟩ : ∃ L0 : tL, L0 = K0 := ⟨_, rfl⟩
  rw [← ez0, ← eJ0] at hI
  rw [← ez0] at hR t_a0
  rw [← ez0, ← eJ0, ← eK0] at hB0
  rw [← eJ0] at h_z0
  have g : h_G h_so h_fk E A z I0 L0 s s.heap s.heap [] := ⟨hK, va_S.rf, hB0⟩
  replace hF : h_F [(1100, 999)] z I0 I0 := h_F.rf
  have hx := B.exec
  have hb := B.bytes
  have hr := B.returns
  have hts := atoms_spec (ws := wsX10_init) B.pre
  have hown : s.vm.findClass RX10 = some m.cls := findClass_of_methodNamed B.named
  have hlocks := B.notSynchronized
  have iX10 : ∀ w ∈ u_ws RX10 TX10 4, w ∈ wsX10_init := by decide +kernel
  have hl := lv_entry ([.ref a0]) (n := 2) (Nat.le_of_ble_eq_true rfl)
  rw [lg_entry_eq]
  generalize (lg_sl ([.ref a0]) ++ List.replicate (2 - (lg_sl ([.ref a0])).length) Slot.unset).toArray = ls at hl ⊢
  have hl : lv_has ls 2 [(0, .ref a0)] := hl
  have hin : meth.name = "<init>" := (name_of_methodNamed B.named B.method).1
  replace hZ : h_X [(1100, 999)] [] (some a0) z0 J0 K0 z I0 L0 := by rw [ez0, eJ0, eK0]; exact h_X.rf
  replace hz : I0 a0 = (fun _ => 0) := h_z0
  replace hQ : h_Q [(1100, 999)] (some a0) z0 z I0 := by rw [ez0]; exact h_Q.rf hU (fun b hb => by cases hb; exact h_z0)
  refine lv_aload_n hx hb dX10_init_0 rfl (lv_at hl 0 rfl) ?_
  refine W.objInit hx hb hown (hts (.methodLink RX10 3 objectInit) (by decide +kernel)) (hts (.instanceMethod objectInit) (by decide +kernel)) (hts (.code objectInit ⟨#[0xb1]⟩ 1 none) (List.mem_of_getElem? (i := 3) rfl)) rfl (by rw [hml]; exact hl.1) rfl dX10_init_1 (Nat.le_of_ble_eq_true rfl) (Nat.le_of_ble_eq_true rfl) ?_
  refine W.eq (g2 := F0 m 4 ls []) rfl ?_
  refine lv_aload_n hx hb dX10_init_4 rfl (lv_at hl 0 rfl) ?_
  refine lv_bipush (v := 80) hx hb dX10_init_5 (by decide) ?_
  replace hZ := hZ.tcall hF rfl
  replace hQ := hQ.tc hF rfl
  refine h_newI hx hb (hts (.arrayClass .int) (by decide +kernel)) g hA so_1100 (by decide) (by decide) (by decide) (Nat.le_of_ble_eq_true rfl) (Nat.le_of_ble_eq_true rfl) dX10_init_7 (fun q1 H hq0 g => ?_)
  have n_q1 := hZ.fresh hq0 (fun h => h_neq t_a0 (by decide) hq0 (Option.some.inj h).symm)
  replace hu_q1 := hQ.1.u (q := q1) (t := 1100) hq0
  replace hQ := hQ.nw (q := q1) (t := 1100) hq0 (by decide)
  replace hI := hI.nw (q := q1) (t := 1100) (f := fun _ => none)
  replace hR := hR.nw (q := q1) (t := 1100) (f := fun _ => none) hq0 (fun k t2 n2 h => by cases (show (none : Option (Nat × Bool)) = some (t2, n2) from h))
  replace hZ := hZ.nw (q := q1) (t := 1100) (f := fun _ => none) hq0 (L2 := L0) (fun _ _ => rfl)
  replace hz : h_row I0 q1 (fun _ => 0) a0 = (fun _ => 0) := (h_row_n (h_neq t_a0 (by decide) hq0)).trans hz
  replace t_a0 := h_nwk (q := q1) (t := 1100) (f := fun _ => none) hq0 t_a0 (by decide)
  replace tq1 : (z.nw q1 1100 (fun _ => none)).ty q1 = 1100 := nw_te
  obtain ⟨z, ez⟩ : ∃ z1 : tZ, z1 = (z.nw q1 1100 (fun _ => none)) := ⟨_, rfl⟩
  rw [← ez] at g hI hR hZ hQ hu_q1 t_a0 tq1 
  clear ez
  obtain ⟨I0, eI⟩ : ∃ J : tI, J = h_row I0 q1 (fun _ => 0) := ⟨_, rfl⟩
  rw [← eI] at g hI hZ hQ hz
  clear eI
  replace hF : h_F [(1100, 999)] z I0 I0 := h_F.rf
  refine W.cs (cells' := 1) (slots' := 80) rfl rfl ?_
  replace hZ := hZ.tcall hF rfl
  replace hQ := hQ.tc hF rfl
  refine h_putR (ty := tyX10 0) (v := q1) hx hb hts iX10 tyX10 tyX10_ok nmX10 hown g t_a0 (by decide) so_60 rfl 0 (by decide) rfl (hts (.fieldLink RX10 11 "CapLeague$Turns" "holder" "[I") (by decide +kernel)) rfl rfl hin rfl (by decide +kernel) rfl rfl dX10_init_9 (fun H locs g => ?_)
  replace hQ := hQ.wR (a := a0) (k := 0) (v := q1) t_a0 (by decide) tq1 (by decide) (fun h9 => ⟨hu_q1, n_q1⟩)
  replace hR := hR.wR (k0 := 0) (v := some q1) t_a0 (fun _ => rfl)
  replace hZ := hZ.wR (a := a0) (k := 0) (v := some q1) (Or.inl rfl)
  replace hI : h_I (z.wR a0 0 (some q1)) I0 := hI
  replace t_a0 : (z.wR a0 0 (some q1)).ty a0 = 60 := t_a0
  replace tq1 : (z.wR a0 0 (some q1)).ty q1 = 1100 := tq1
  replace Ra0_0 : (z.wR a0 0 (some q1)).R a0 0 = some q1 := h_up_eq
  obtain ⟨z, ez⟩ : ∃ z1 : tZ, z1 = (z.wR a0 0 (some q1)) := ⟨_, rfl⟩
  rw [← ez] at g hI hR hZ hQ t_a0 tq1 Ra0_0
  clear ez
  replace hF : h_F [(1100, 999)] z I0 I0 := h_F.rf
  refine lv_aload_n hx hb dX10_init_12 rfl (lv_at hl 0 rfl) ?_
  refine lv_bipush (v := 80) hx hb dX10_init_13 (by decide) ?_
  replace hZ := hZ.tcall hF rfl
  replace hQ := hQ.tc hF rfl
  refine h_newI hx hb (hts (.arrayClass .int) (by decide +kernel)) g hA so_1101 (by decide) (by decide) (by decide) (Nat.le_of_ble_eq_true rfl) (Nat.le_of_ble_eq_true rfl) dX10_init_15 (fun q2 H hq0 g => ?_)
  have n_q2 := hZ.fresh hq0 (fun h => h_neq t_a0 (by decide) hq0 (Option.some.inj h).symm)
  replace hu_q2 := hQ.1.u (q := q2) (t := 1101) hq0
  replace hQ := hQ.nw (q := q2) (t := 1101) hq0 (by decide)
  replace hI := hI.nw (q := q2) (t := 1101) (f := fun _ => none)
  replace hR := hR.nw (q := q2) (t := 1101) (f := fun _ => none) hq0 (fun k t2 n2 h => by cases (show (none : Option (Nat × Bool)) = some (t2, n2) from h))
  replace hZ := hZ.nw (q := q2) (t := 1101) (f := fun _ => none) hq0 (L2 := L0) (fun _ _ => rfl)
  replace hz : h_row I0 q2 (fun _ => 0) a0 = (fun _ => 0) := (h_row_n (h_neq t_a0 (by decide) hq0)).trans hz
  replace Ra0_0 := h_nwr (q := q2) (t := 1101) (f := fun _ => none) hq0 t_a0 (by decide) Ra0_0
  replace t_a0 := h_nwk (q := q2) (t := 1101) (f := fun _ => none) hq0 t_a0 (by decide)
  replace tq1 := h_nwk (q := q2) (t := 1101) (f := fun _ => none) hq0 tq1 (by decide)
  replace tq2 : (z.nw q2 1101 (fun _ => none)).ty q2 = 1101 := nw_te
  obtain ⟨z, ez⟩ : ∃ z1 : tZ, z1 = (z.nw q2 1101 (fun _ => none)) := ⟨_, rfl⟩
  rw [← ez] at g hI hR hZ hQ hu_q2 t_a0 tq1 tq2 Ra0_0
  clear ez
  obtain ⟨I0, eI⟩ : ∃ J : tI, J = h_row I0 q2 (fun _ => 0) := ⟨_, rfl⟩
  rw [← eI] at g hI hZ hQ hz
  clear eI
  replace hF : h_F [(1100, 999)] z I0 I0 := h_F.rf
  refine W.cs (cells' := 2) (slots' := 160) rfl rfl ?_
  replace hZ := hZ.tcall hF rfl
  replace hQ := hQ.tc hF rfl
  refine h_putR (ty := tyX10 1) (v := q2) hx hb hts iX10 tyX10 tyX10_ok nmX10 hown g t_a0 (by decide) so_60 rfl 1 (by decide) rfl (hts (.fieldLink RX10 15 "CapLeague$Turns" "shield" "[I") (by decide +kernel)) rfl rfl hin rfl (by decide +kernel) rfl rfl dX10_init_17 (fun H locs g => ?_)
  replace hQ := hQ.wR (a := a0) (k := 1) (v := q2) t_a0 (by decide) tq2 (by decide) (fun h9 => ⟨hu_q2, n_q2⟩)
  replace hR := hR.wR (k0 := 1) (v := some q2) t_a0 (fun _ => rfl)
  replace hZ := hZ.wR (a := a0) (k := 1) (v := some q2) (Or.inl rfl)
  replace hI : h_I (z.wR a0 1 (some q2)) I0 := hI
  replace t_a0 : (z.wR a0 1 (some q2)).ty a0 = 60 := t_a0
  replace tq1 : (z.wR a0 1 (some q2)).ty q1 = 1100 := tq1
  replace tq2 : (z.wR a0 1 (some q2)).ty q2 = 1101 := tq2
  replace Ra0_0 : (z.wR a0 1 (some q2)).R a0 0 = some q1 := (h_up_at (by decide)).trans Ra0_0
  replace Ra0_1 : (z.wR a0 1 (some q2)).R a0 1 = some q2 := h_up_eq
  obtain ⟨z, ez⟩ : ∃ z1 : tZ, z1 = (z.wR a0 1 (some q2)) := ⟨_, rfl⟩
  rw [← ez] at g hI hR hZ hQ t_a0 tq1 tq2 Ra0_0 Ra0_1
  clear ez
  replace hF : h_F [(1100, 999)] z I0 I0 := h_F.rf
  refine lv_aload_n hx hb dX10_init_20 rfl (lv_at hl 0 rfl) ?_
  refine lv_bipush (v := 80) hx hb dX10_init_21 (by decide) ?_
  replace hZ := hZ.tcall hF rfl
  replace hQ := hQ.tc hF rfl
  refine h_newI hx hb (hts (.arrayClass .int) (by decide +kernel)) g hA so_1102 (by decide) (by decide) (by decide) (Nat.le_of_ble_eq_true rfl) (Nat.le_of_ble_eq_true rfl) dX10_init_23 (fun q3 H hq0 g => ?_)
  have n_q3 := hZ.fresh hq0 (fun h => h_neq t_a0 (by decide) hq0 (Option.some.inj h).symm)
  replace hu_q3 := hQ.1.u (q := q3) (t := 1102) hq0
  replace hQ := hQ.nw (q := q3) (t := 1102) hq0 (by decide)
  replace hI := hI.nw (q := q3) (t := 1102) (f := fun _ => none)
  replace hR := hR.nw (q := q3) (t := 1102) (f := fun _ => none) hq0 (fun k t2 n2 h => by cases (show (none : Option (Nat × Bool)) = some (t2, n2) from h))
  replace hZ := hZ.nw (q := q3) (t := 1102) (f := fun _ => none) hq0 (L2 := L0) (fun _ _ => rfl)
  replace hz : h_row I0 q3 (fun _ => 0) a0 = (fun _ => 0) := (h_row_n (h_neq t_a0 (by decide) hq0)).trans hz
  replace Ra0_0 := h_nwr (q := q3) (t := 1102) (f := fun _ => none) hq0 t_a0 (by decide) Ra0_0
  replace Ra0_1 := h_nwr (q := q3) (t := 1102) (f := fun _ => none) hq0 t_a0 (by decide) Ra0_1
  replace t_a0 := h_nwk (q := q3) (t := 1102) (f := fun _ => none) hq0 t_a0 (by decide)
  replace tq1 := h_nwk (q := q3) (t := 1102) (f := fun _ => none) hq0 tq1 (by decide)
  replace tq2 := h_nwk (q := q3) (t := 1102) (f := fun _ => none) hq0 tq2 (by decide)
  replace tq3 : (z.nw q3 1102 (fun _ => none)).ty q3 = 1102 := nw_te
  obtain ⟨z, ez⟩ : ∃ z1 : tZ, z1 = (z.nw q3 1102 (fun _ => none)) := ⟨_, rfl⟩
  rw [← ez] at g hI hR hZ hQ hu_q3 t_a0 tq1 tq2 tq3 Ra0_0 Ra0_1
  clear ez
  obtain ⟨I0, eI⟩ : ∃ J : tI, J = h_row I0 q3 (fun _ => 0) := ⟨_, rfl⟩
  rw [← eI] at g hI hZ hQ hz
  clear eI
  replace hF : h_F [(1100, 999)] z I0 I0 := h_F.rf
  refine W.cs (cells' := 3) (slots' := 240) rfl rfl ?_
  replace hZ := hZ.tcall hF rfl
  replace hQ := hQ.tc hF rfl
  refine h_putR (ty := tyX10 2) (v := q3) hx hb hts iX10 tyX10 tyX10_ok nmX10 hown g t_a0 (by decide) so_60 rfl 2 (by decide) rfl (hts (.fieldLink RX10 18 "CapLeague$Turns" "giver" "[I") (by decide +kernel)) rfl rfl hin rfl (by decide +kernel) rfl rfl dX10_init_25 (fun H locs g => ?_)
  replace hQ := hQ.wR (a := a0) (k := 2) (v := q3) t_a0 (by decide) tq3 (by decide) (fun h9 => ⟨hu_q3, n_q3⟩)
  replace hR := hR.wR (k0 := 2) (v := some q3) t_a0 (fun _ => rfl)
  replace hZ := hZ.wR (a := a0) (k := 2) (v := some q3) (Or.inl rfl)
  replace hI : h_I (z.wR a0 2 (some q3)) I0 := hI
  replace t_a0 : (z.wR a0 2 (some q3)).ty a0 = 60 := t_a0
  replace tq1 : (z.wR a0 2 (some q3)).ty q1 = 1100 := tq1
  replace tq2 : (z.wR a0 2 (some q3)).ty q2 = 1101 := tq2
  replace tq3 : (z.wR a0 2 (some q3)).ty q3 = 1102 := tq3
  replace Ra0_0 : (z.wR a0 2 (some q3)).R a0 0 = some q1 := (h_up_at (by decide)).trans Ra0_0
  replace Ra0_1 : (z.wR a0 2 (some q3)).R a0 1 = some q2 := (h_up_at (by decide)).trans Ra0_1
  replace Ra0_2 : (z.wR a0 2 (some q3)).R a0 2 = some q3 := h_up_eq
  obtain ⟨z, ez⟩ : ∃ z1 : tZ, z1 = (z.wR a0 2 (some q3)) := ⟨_, rfl⟩
  rw [← ez] at g hI hR hZ hQ t_a0 tq1 tq2 tq3 Ra0_0 Ra0_1 Ra0_2
  clear ez
  replace hF : h_F [(1100, 999)] z I0 I0 := h_F.rf
  refine lv_aload_n hx hb dX10_init_28 rfl (lv_at hl 0 rfl) ?_
  refine lv_bipush (v := 8) hx hb dX10_init_29 (by decide) ?_
  refine lv_bipush (v := 80) hx hb dX10_init_31 (by decide) ?_
  replace hZ := hZ.tcall hF rfl
  replace hQ := hQ.tc hF rfl
  refine h_newG (N := 8) (M := 80) hx hb hown (hts (.classLink RX10 21 "[[I") (by decide +kernel)) hE.2.2.2.2 (hts (.arrayClass .int) (by decide +kernel)) g hA so_1103 so_1153 (by decide) (by decide) (by decide) (by decide) (by decide) (by decide) (Nat.le_of_ble_eq_true rfl) (Nat.le_of_ble_eq_true rfl) dX10_init_33 (fun q4 H locs hq0 g => ?_)
  have n_q4 := hZ.fresh (hq0 q4 (Nat.le_refl _) (Nat.le_add_right _ _)) (fun h => h_neq t_a0 (by decide) (hq0 q4 (Nat.le_refl _) (Nat.le_add_right _ _)) (Option.some.inj h).symm)
  replace hu_q4 := hQ.1.ug (q := q4) (t := 1103) (tr := 1153) hq0
  replace hQ := hQ.nwg (q := q4) (t := 1103) (tr := 1153) (N := 8) hq0 (by decide) (by decide)
  replace hI := hI.nwg (q := q4) (t := 1103) (tr := 1153) (N := 8)
  replace hR := hR.nwg (q := q4) (t := 1103) (tr := 1153) (N := 8) hq0 (fun k t2 n2 h => by have e9 : some (1153, false) = some (t2, n2) := h; cases e9; rfl) rfl (fun _ => rfl)
  replace hZ := hZ.nwg (q := q4) (t := 1103) (tr := 1153) (N := 8) hq0
  replace hz : h_rows I0 q4 8 a0 = (fun _ => 0) := (h_rows_n (fun h => h_neq t_a0 (by decide) (hq0 a0 h.1 h.2) rfl)).trans hz
  replace Ra0_0 := h_ngr (t := 1103) (tr := 1153) hq0 t_a0 (by decide) Ra0_0
  replace Ra0_1 := h_ngr (t := 1103) (tr := 1153) hq0 t_a0 (by decide) Ra0_1
  replace Ra0_2 := h_ngr (t := 1103) (tr := 1153) hq0 t_a0 (by decide) Ra0_2
  replace t_a0 := h_ngk (t := 1103) (tr := 1153) hq0 t_a0 (by decide)
  replace tq1 := h_ngk (t := 1103) (tr := 1153) hq0 tq1 (by decide)
  replace tq2 := h_ngk (t := 1103) (tr := 1153) hq0 tq2 (by decide)
  replace tq3 := h_ngk (t := 1103) (tr := 1153) hq0 tq3 (by decide)
  replace tq4 : (z.nwg q4 1103 1153 8).ty q4 = 1103 := ng_te
  obtain ⟨z, ez⟩ : ∃ z1 : tZ, z1 = (z.nwg q4 1103 1153 8) := ⟨_, rfl⟩
  rw [← ez] at g hI hR hZ hQ hu_q4 t_a0 tq1 tq2 tq3 tq4 Ra0_0 Ra0_1 Ra0_2
  clear ez
  obtain ⟨I0, eI⟩ : ∃ J : tI, J = h_rows I0 q4 8 := ⟨_, rfl⟩
  rw [← eI] at g hI hZ hQ hz
  clear eI
  replace hF : h_F [(1100, 999)] z I0 I0 := h_F.rf
  refine W.cs (cells' := 12) (slots' := 888) rfl rfl ?_
  replace hZ := hZ.tcall hF rfl
  replace hQ := hQ.tc hF rfl
  refine h_putR (ty := tyX10 3) (v := q4) hx hb hts iX10 tyX10 tyX10_ok nmX10 hown g t_a0 (by decide) so_60 rfl 3 (by decide) rfl (hts (.fieldLink RX10 23 "CapLeague$Turns" "worths" "[[I") (by decide +kernel)) rfl rfl hin rfl (by decide +kernel) rfl rfl dX10_init_37 (fun H locs g => ?_)
  replace hQ := hQ.wR (a := a0) (k := 3) (v := q4) t_a0 (by decide) tq4 (by decide) (fun h9 => ⟨hu_q4, n_q4⟩)
  replace hR := hR.wR (k0 := 3) (v := some q4) t_a0 (fun _ => rfl)
  replace hZ := hZ.wR (a := a0) (k := 3) (v := some q4) (Or.inl rfl)
  replace hI : h_I (z.wR a0 3 (some q4)) I0 := hI
  replace t_a0 : (z.wR a0 3 (some q4)).ty a0 = 60 := t_a0
  replace tq1 : (z.wR a0 3 (some q4)).ty q1 = 1100 := tq1
  replace tq2 : (z.wR a0 3 (some q4)).ty q2 = 1101 := tq2
  replace tq3 : (z.wR a0 3 (some q4)).ty q3 = 1102 := tq3
  replace tq4 : (z.wR a0 3 (some q4)).ty q4 = 1103 := tq4
  replace Ra0_0 : (z.wR a0 3 (some q4)).R a0 0 = some q1 := (h_up_at (by decide)).trans Ra0_0
  replace Ra0_1 : (z.wR a0 3 (some q4)).R a0 1 = some q2 := (h_up_at (by decide)).trans Ra0_1
  replace Ra0_2 : (z.wR a0 3 (some q4)).R a0 2 = some q3 := (h_up_at (by decide)).trans Ra0_2
  replace Ra0_3 : (z.wR a0 3 (some q4)).R a0 3 = some q4 := h_up_eq
  obtain ⟨z, ez⟩ : ∃ z1 : tZ, z1 = (z.wR a0 3 (some q4)) := ⟨_, rfl⟩
  rw [← ez] at g hI hR hZ hQ t_a0 tq1 tq2 tq3 tq4 Ra0_0 Ra0_1 Ra0_2 Ra0_3
  clear ez
  replace hF : h_F [(1100, 999)] z I0 I0 := h_F.rf
  replace hZ := hZ.tcall hF rfl
  replace hQ := hQ.tc hF rfl
  have g := g.rt (a := a0) (t := 11) (by rw [t_a0]; decide) (by rw [t_a0]; rfl)
  replace hI := hI.rt (a := a0) (t := 11) (fun k => by
      rw [hz]
      exact h_bd0 11 k)
  replace hR := hR.rt (t := 11) t_a0 (by decide) (by decide) (fun k t2 n2 h hk => by
      have hk9 : k < 4 := hk
      rcases (show k = 0 ∨ k = 1 ∨ k = 2 ∨ k = 3 by omega) with rfl | rfl | rfl | rfl
      · have e9 : some (1100, false) = some (t2, n2) := h
        cases e9
        exact ⟨q1, Ra0_0, tq1⟩
      · have e9 : some (1101, false) = some (t2, n2) := h
        cases e9
        exact ⟨q2, Ra0_1, tq2⟩
      · have e9 : some (1102, false) = some (t2, n2) := h
        cases e9
        exact ⟨q3, Ra0_2, tq3⟩
      · have e9 : some (1103, false) = some (t2, n2) := h
        cases e9
        exact ⟨q4, Ra0_3, tq4⟩)
  replace hZ := hZ.rt (a := a0) (t := 11) (Or.inl rfl)
  replace hQ := hQ.rt (a := a0) (t := 11) t_a0 (by decide) (by decide) rfl rfl
  replace tq1 := h_rtk (t := 11) tq1 t_a0 (by decide)
  replace tq2 := h_rtk (t := 11) tq2 t_a0 (by decide)
  replace tq3 := h_rtk (t := 11) tq3 t_a0 (by decide)
  replace tq4 := h_rtk (t := 11) tq4 t_a0 (by decide)
  replace t_a0 : (z.rt a0 11).ty a0 = 11 := rt_e
  replace Ra0_0 : (z.rt a0 11).R a0 0 = some q1 := Ra0_0
  replace Ra0_1 : (z.rt a0 11).R a0 1 = some q2 := Ra0_1
  replace Ra0_2 : (z.rt a0 11).R a0 2 = some q3 := Ra0_2
  replace Ra0_3 : (z.rt a0 11).R a0 3 = some q4 := Ra0_3
  obtain ⟨z, ez⟩ : ∃ z1 : tZ, z1 = (z.rt a0 11) := ⟨_, rfl⟩
  rw [← ez] at g hI hR hZ hQ t_a0 tq1 tq2 tq3 tq4 Ra0_0 Ra0_1 Ra0_2 Ra0_3
  clear ez
  replace hF : h_F [(1100, 999)] z I0 I0 := h_F.rf
  have rq1 := Ra0_0
  have rq2 := Ra0_1
  have rq3 := Ra0_2
  have rq4 := Ra0_3
  refine lv_iconst (v := 0) hx hb dX10_init_40 (by decide) ?_
  refine lv_istore_n (lv' := [(1, .int 0), (0, .ref a0)]) hx hb dX10_init_41 rfl hl (by decide) rfl (fun ls hl => ?_)
  have loop42_0 : ∀ (n : Nat) (I6 : tI) (H : Heap) (locs : List Loc) (ls : Array Slot) (v5 : Int32), h_G h_so h_fk E A z I6 L0 s s.heap H locs → h_I z I6 → h_F [(1100, 999)] z I0 I6 → lv_has ls 2 [(0, .ref a0), (1, .int v5)] → (0 ≤ v5.toInt ∧ v5.toInt ≤ 80) → (80 - v5.toInt) < (n : Int) → W pr_ l ev_ (headSpec wsX10_init ({ frames := 1, cells := 12, slots := 888, locals := 64 })).room s m ([.ref a0] : List Value).toArray below meth cd_ H locs 12 888 (MQ below (va_Qv (fun (q1 : tZ × tI × tL) => h_I q1.1 q1.2.1 ∧ h_R q1.1 ∧ h_X [(1100, 999)] [] (some a0) z0 J0 K0 q1.1 q1.2.1 q1.2.2 ∧ h_Q [(1100, 999)] (some a0) z0 q1.1 q1.2.1 ∧ q1.1.ty a0 = 11 ∧ True) (fun (q1 : tZ × tI × tL) t => h_B E A q1.1 q1.2.1 q1.2.2 t) A) ([.ref a0] : List Value).toArray s 12 888 A) (F0 m 42 ls []) := by
    intro n
    induction n with
    | zero => intro I6 H locs ls v5 g hI hF hl jv5 hn; exact absurd hn (by omega)
    | succ n ih42 =>
      intro I6 H locs ls v5 g hI hF hl jv5 hn
      refine lv_iload_n hx hb dX10_init_42 rfl (lv_at hl 1 rfl) ?_
      refine lv_bipush (v := 80) hx hb dX10_init_43 (by decide) ?_
      refine lv_icmp_ge (tgt := 64) hx hb dX10_init_45 (by decide) (fun c7 => ?_) (fun c7 => ?_)
      · have ic7 := (xi_le c7 (by decide) rfl : 80 ≤ v5.toInt)
        replace hZ := hZ.tcall hF rfl
        replace hQ := hQ.tc hF rfl
        replace hS := g.2.1
        exact W.vret hx hb hr (fun t ht hW => ⟨⟨(z, I6, L0), rfl, ⟨hI, hR, hZ, hQ, t_a0, trivial⟩, h_ret g ht⟩, hS.F ht⟩) hS.2.2 dX10_init_64
      · have ic7 := (xi_nle c7 (by decide) rfl : v5.toInt < 80)
        refine lv_aload_n hx hb dX10_init_48 rfl (lv_at hl 0 rfl) ?_
        refine h_get (v := .ref q1) hx hb hts iX10 hown g t_a0 (by decide) so_11 rfl 0 (by decide) (hts (.fieldLink RX10 11 "CapLeague$Turns" "holder" "[I") (by decide +kernel)) rfl dX10_init_49 (by show va_rf (z.R a0 0) = _; rw [rq1]; rfl) ?_
        refine lv_iload_n hx hb dX10_init_52 rfl (lv_at hl 1 rfl) ?_
        refine lv_iload_n hx hb dX10_init_53 rfl (lv_at hl 1 rfl) ?_
        refine lv_bipush (v := 10) hx hb dX10_init_54 (by decide) ?_
        refine lv_idiv hx hb dX10_init_56 (by decide) ?_
        refine lv_topi (fun v8 ev8 => ?_)
        have jv8 : v8.toInt = v5.toInt / 10 := xi_div ev8 (by omega) (by decide) (by decide)
        refine h_ast hx hb g tq1 (by decide) so_1100 (xi_in (by omega) (by omega)) dX10_init_57 (fun I9 H locs eI9 g => ?_)
        replace hI := hI.wr eI9 tq1 (rfl : h_bd 1100 _ = ((-2147483648), 2147483647)) (xi_lo _) (Int.le_of_lt_add_one (xi_hi _))
        replace hF := hF.wr eI9 tq1 rfl
        obtain ⟨v10, ev10⟩ : ∃ z : Int32, z = v5 + 1 := ⟨_, rfl⟩
        have jv10 : v10.toInt = v5.toInt + 1 := xi_add ev10 rfl (by decide) (by omega) (by omega)
        refine lv_iinc (v := v10) (lv' := [(1, .int v10), (0, .ref a0)]) hx hb dX10_init_58 hl (k := 1) rfl (by rw [ev10]; rfl) (by decide) rfl (fun ls hl => ?_)
        refine lv_goto (tgt := 42) hx hb dX10_init_61 (by decide) ?_
        exact ih42 I9 _ _ _ v10 g hI hF (lv_sub hl [1, 0] rfl) (by omega) (by omega)
  exact loop42_0 _ I0 _ _ _ (0) g hI hF (lv_sub hl [1, 0] rfl) ⟨by decide, by decide⟩ (show (80 - (0 : Int)) < (((80 - (0 : Int)).toNat + 1 : Nat) : Int) by omega)
set_option maxHeartbeats 4000000 in
set_option maxRecDepth 100000 in
theorem zX9_init (l : Launch) (E : tE) (X : tX) (A : Nat → Prop) (z0 : tZ) (J0 : tI) (K0 : tL) (a0 : Nat) (t_a0 : z0.ty a0 = 59) (p0 : Nat) (t_p0 : z0.ty p0 = 1) (p1 : Nat) (t_p1 : z0.ty p1 = 11) (h_z0 : J0 a0 = fun _ => 0) (hU : h_U z0) : Met l yX9_init wsX9_init ({ frames := 2, cells := 6, slots := 64, locals := 128 }) (va_Pc [.ref a0, .ref p0, .ref p1] (h_P E X A z0 J0 K0)) (va_Qv (fun (q1 : tZ × tI × tL) => h_I q1.1 q1.2.1 ∧ h_R q1.1 ∧ h_X [] [] (some a0) z0 J0 K0 q1.1 q1.2.1 q1.2.2 ∧ h_Q [] (some a0) z0 q1.1 q1.2.1 ∧ q1.1.ty a0 = 10 ∧ True) (fun (q1 : tZ × tI × tL) t => h_B E A q1.1 q1.2.1 q1.2.2 t) A) 6 64 A := by
  refine Met.ofW (cc := cX9_init) (maxL := 3) (ret := none) (by decide) rfl ?_
  intro pr_ ev_ s m args below meth cd_ s₁ B hml hv
  obtain ⟨rfl, hE, hk, hX, hA, hK, hI, hR, hB0⟩ := hv
  obtain ⟨z, ez0⟩ : ∃ z : tZ, z = z0 := ⟨_, rfl⟩
  obtain ⟨I0, eJ0⟩ : ∃ I0 : tI, I0 = J0 := ⟨_, rfl⟩
  obtain ⟨L0, eK0⟩ : ∃ L0 : tL, L0 = K0 := ⟨_, rfl⟩
  rw [← ez0, ← eJ0] at hI
  rw [← ez0] at hR t_a0 t_p0 t_p1
  rw [← ez0, ← eJ0, ← eK0] at hB0
  rw [← eJ0] at h_z0
  have g : h_G h_so h_fk E A z I0 L0 s s.heap s.heap [] := ⟨hK, va_S.rf, hB0⟩
  replace hF : h_F [] z I0 I0 := h_F.rf
  have hx := B.exec
  have hb := B.bytes
  have hr := B.returns
  have hts := atoms_spec (ws := wsX9_init) B.pre
  have hown : s.vm.findClass RX9 = some m.cls := findClass_of_methodNamed B.named
  have hlocks := B.notSynchronized
  have iX1 : ∀ w ∈ u_ws RX1 TX1 4, w ∈ wsX9_init := by decide +kernel
  have iX9 : ∀ w ∈ u_ws RX9 TX9 10, w ∈ wsX9_init := by decide +kernel
  have hl := lv_entry ([.ref a0, .ref p0, .ref p1]) (n := 3) (Nat.le_of_ble_eq_true rfl)
  rw [lg_entry_eq]
  generalize (lg_sl ([.ref a0, .ref p0, .ref p1]) ++ List.replicate (3 - (lg_sl ([.ref a0, .ref p0, .ref p1])).length) Slot.unset).toArray = ls at hl ⊢
  have hl : lv_has ls 3 [(0, .ref a0), (1, .ref p0), (2, .ref p1)] := hl
  have hin : meth.name = "<init>" := (name_of_methodNamed B.named B.method).1
  replace hZ : h_X [] [] (some a0) z0 J0 K0 z I0 L0 := by rw [ez0, eJ0, eK0]; exact h_X.rf
  replace hz : I0 a0 = (fun _ => 0) := h_z0
  replace hQ : h_Q [] (some a0) z0 z I0 := by rw [ez0]; exact h_Q.rf hU (fun b hb => by cases hb; exact h_z0)
  refine lv_aload_n hx hb dX9_init_0 rfl (lv_at hl 0 rfl) ?_
  refine W.objInit hx hb hown (hts (.methodLink RX9 3 objectInit) (by decide +kernel)) (hts (.instanceMethod objectInit) (by decide +kernel)) (hts (.code objectInit ⟨#[0xb1]⟩ 1 none) (List.mem_of_getElem? (i := 3) rfl)) rfl (by rw [hml]; exact hl.1) rfl dX9_init_1 (Nat.le_of_ble_eq_true rfl) (Nat.le_of_ble_eq_true rfl) ?_
  refine W.eq (g2 := F0 m 4 ls []) rfl ?_
  refine lv_aload_n hx hb dX9_init_4 rfl (lv_at hl 0 rfl) ?_
  replace hZ := hZ.tcall hF rfl
  replace hQ := hQ.tc hF rfl
  refine h_newO (C := RX1) (T := TX1) (N := 4) (ci := 1) hx hb hts iX1 tyX1 tyX1_ok hown (hts (.classLink RX9 9 RX1) (by decide +kernel)) (hts (.instantiable RX1 4) (by decide +kernel)) (hts (.initialized RX1) (by decide +kernel)) g hA rfl so_51 (fun j hj => by rcases (show j = 0 ∨ j = 1 ∨ j = 2 ∨ j = 3 by omega) with rfl | rfl | rfl | rfl <;> rfl) (Nat.le_of_ble_eq_true rfl) (Nat.le_of_ble_eq_true rfl) dX9_init_5 (fun q1 H hq0 g => ?_)
  have n_q1 := hZ.fresh hq0 (fun h => h_neq t_a0 (by decide) hq0 (Option.some.inj h).symm)
  replace hu_q1 := hQ.1.u (q := q1) (t := 51) hq0
  replace hQ := hQ.nw (q := q1) (t := 51) hq0 (by decide)
  replace hI := hI.nw (q := q1) (t := 51) (f := fun _ => none)
  replace hR := hR.nw (q := q1) (t := 51) (f := fun _ => none) hq0 (fun k t2 n2 h => by cases (show (none : Option (Nat × Bool)) = some (t2, n2) from h))
  replace hZ := hZ.nw (q := q1) (t := 51) (f := fun _ => none) hq0 (L2 := (h_rL L0 q1 (fun _ => 0))) (fun b hb => h_rL_n hb)
  replace hz : h_row I0 q1 (fun _ => 0) a0 = (fun _ => 0) := (h_row_n (h_neq t_a0 (by decide) hq0)).trans hz
  replace t_a0 := h_nwk (q := q1) (t := 51) (f := fun _ => none) hq0 t_a0 (by decide)
  replace t_p0 := h_nwk (q := q1) (t := 51) (f := fun _ => none) hq0 t_p0 (by decide)
  replace t_p1 := h_nwk (q := q1) (t := 51) (f := fun _ => none) hq0 t_p1 (by decide)
  replace tq1 : (z.nw q1 51 (fun _ => none)).ty q1 = 51 := nw_te
  have hzq1 : h_row I0 q1 (fun _ => 0) q1 = fun _ => 0 := h_row_e
  obtain ⟨z, ez⟩ : ∃ z1 : tZ, z1 = (z.nw q1 51 (fun _ => none)) := ⟨_, rfl⟩
  rw [← ez] at g hI hR hZ hQ hu_q1 t_a0 t_p0 t_p1 tq1 
  clear ez
  obtain ⟨I0, eI⟩ : ∃ J : tI, J = h_row I0 q1 (fun _ => 0) := ⟨_, rfl⟩
  rw [← eI] at g hI hZ hQ hz hzq1
  clear eI
  obtain ⟨L2, eL⟩ : ∃ J : tL, J = (h_rL L0 q1 (fun _ => 0)) := ⟨_, rfl⟩
  rw [← eL] at g hZ
  replace hF : h_F [] z I0 I0 := h_F.rf
  refine W.cs (cells' := 1) (slots' := 4) rfl rfl ?_
  refine lv_dup hx hb dX9_init_8 rfl ?_
  replace hZ := hZ.tcall hF rfl
  replace hQ := hQ.tc hF rfl
  refine va_callv (va_runIN (As := []) (rest := [.ref q1, .ref a0]) ⟨hx, hb, hml, hown, hts⟩ (zX1_init l E X A z I0 L2 q1 tq1 hzq1 hQ.1) (⟨va_cnB 0 hts gX9_init_X1_init_n11 rfl rfl rfl (hE.link 2 rfl) (hts (.initialized RX1) (by decide +kernel)) (by decide +kernel) ⟨Nat.le_of_ble_eq_true rfl, Nat.le_of_ble_eq_true rfl⟩, rfl, hts (.instanceMethod yX1_init) (by decide +kernel)⟩) ⟨h_blind _ _ _ _ _ _ _, h_pre _ hE hk hX hA hI hR g⟩ rfl rfl hl.1 rfl (lv_room (Nat.le_of_ble_eq_true rfl)) dX9_init_9 ⟨Nat.le_of_ble_eq_true rfl, Nat.le_of_ble_eq_true rfl⟩) g.2.1 (fun q _ h => h) (fun q h => h) (fun u t H1 locs ht hvm h3 hB hz1 hk1 hS => ?_)
  obtain ⟨z, I0, L4⟩ := u
  obtain ⟨hI, hR, xh3, qh3, tq1_, h3⟩ := h3
  replace hI : h_I z I0 := hI
  replace hR : h_R z := hR
  have hB : h_B E A z I0 L4 t := hB
  have xh3 : h_X [] [] (some q1) _ _ _ z I0 L4 := xh3
  have qh3 : h_Q [] (some q1) _ z I0 := qh3
  replace hQ := hQ.call xh3 qh3 rfl rfl
  replace hu_q1 := hu_q1.call qh3.2.1 tq1 (by decide)
  replace hZ := hZ.call xh3 rfl (fun t h9 => rfl) (fun b hb => Or.inr (by cases hb; exact n_q1))
  replace hz : I0 a0 = (fun _ => 0) := (funext (fun k => xh3.I t_a0 (by decide) (h_sne t_a0 tq1 (by decide)) rfl)).trans hz
  replace t_a0 := xh3.ty t_a0 (by decide) (h_sne t_a0 tq1 (by decide))
  replace t_p0 := xh3.ty t_p0 (by decide) (h_sne t_p0 tq1 (by decide))
  replace t_p1 := xh3.ty t_p1 (by decide) (h_sne t_p1 tq1 (by decide))
  replace tq1 : z.ty q1 = 2 := tq1_
  replace g := h_after g hB ht hS
  generalize H1 = H at g
  clear hB hk1 hz1 ht hvm hS
  replace hF : h_F [] z I0 I0 := h_F.rf
  replace hZ := hZ.tcall hF rfl
  replace hQ := hQ.tc hF rfl
  refine h_putR (ty := tyX9 2) (v := q1) hx hb hts iX9 tyX9 tyX9_ok nmX9 hown g t_a0 (by decide) so_59 rfl 2 (by decide) rfl (hts (.fieldLink RX9 12 "CapLeague$Trade" "change" "LCapLeague$Change;") (by decide +kernel)) rfl rfl hin rfl (by decide +kernel) rfl rfl dX9_init_12 (fun H locs g => ?_)
  replace hQ := hQ.wR (a := a0) (k := 2) (v := q1) t_a0 (by decide) tq1 (by decide) (fun h9 => ⟨hu_q1, n_q1⟩)
  replace hR := hR.wR (k0 := 2) (v := some q1) t_a0 (fun _ => rfl)
  replace hZ := hZ.wR (a := a0) (k := 2) (v := some q1) (Or.inl rfl)
  replace hI : h_I (z.wR a0 2 (some q1)) I0 := hI
  replace t_a0 : (z.wR a0 2 (some q1)).ty a0 = 59 := t_a0
  replace t_p0 : (z.wR a0 2 (some q1)).ty p0 = 1 := t_p0
  replace t_p1 : (z.wR a0 2 (some q1)).ty p1 = 11 := t_p1
  replace tq1 : (z.wR a0 2 (some q1)).ty q1 = 2 := tq1
  replace Ra0_2 : (z.wR a0 2 (some q1)).R a0 2 = some q1 := h_up_eq
  obtain ⟨z, ez⟩ : ∃ z1 : tZ, z1 = (z.wR a0 2 (some q1)) := ⟨_, rfl⟩
  rw [← ez] at g hI hR hZ hQ t_a0 t_p0 t_p1 tq1 Ra0_2
  clear ez
  replace hF : h_F [] z I0 I0 := h_F.rf
  refine lv_aload_n hx hb dX9_init_15 rfl (lv_at hl 0 rfl) ?_
  refine lv_bipush (v := 12) hx hb dX9_init_16 (by decide) ?_
  replace hZ := hZ.tcall hF rfl
  replace hQ := hQ.tc hF rfl
  refine h_newZ hx hb (hts (.arrayClass .boolean) (by decide +kernel)) g hA so_1005 (by decide) (by decide) (by decide) (Nat.le_of_ble_eq_true rfl) (Nat.le_of_ble_eq_true rfl) dX9_init_18 (fun q5 H hq0 g => ?_)
  have n_q5 := hZ.fresh hq0 (fun h => h_neq t_a0 (by decide) hq0 (Option.some.inj h).symm)
  replace hu_q5 := hQ.1.u (q := q5) (t := 1005) hq0
  replace hQ := hQ.nw (q := q5) (t := 1005) hq0 (by decide)
  replace hI := hI.nw (q := q5) (t := 1005) (f := fun _ => none)
  replace hR := hR.nw (q := q5) (t := 1005) (f := fun _ => none) hq0 (fun k t2 n2 h => by cases (show (none : Option (Nat × Bool)) = some (t2, n2) from h))
  replace hZ := hZ.nw (q := q5) (t := 1005) (f := fun _ => none) hq0 (L2 := L4) (fun _ _ => rfl)
  replace hz : h_row I0 q5 (fun _ => 0) a0 = (fun _ => 0) := (h_row_n (h_neq t_a0 (by decide) hq0)).trans hz
  replace Ra0_2 := h_nwr (q := q5) (t := 1005) (f := fun _ => none) hq0 t_a0 (by decide) Ra0_2
  replace t_a0 := h_nwk (q := q5) (t := 1005) (f := fun _ => none) hq0 t_a0 (by decide)
  replace t_p0 := h_nwk (q := q5) (t := 1005) (f := fun _ => none) hq0 t_p0 (by decide)
  replace t_p1 := h_nwk (q := q5) (t := 1005) (f := fun _ => none) hq0 t_p1 (by decide)
  replace tq1 := h_nwk (q := q5) (t := 1005) (f := fun _ => none) hq0 tq1 (by decide)
  replace tq5 : (z.nw q5 1005 (fun _ => none)).ty q5 = 1005 := nw_te
  obtain ⟨z, ez⟩ : ∃ z1 : tZ, z1 = (z.nw q5 1005 (fun _ => none)) := ⟨_, rfl⟩
  rw [← ez] at g hI hR hZ hQ hu_q5 t_a0 t_p0 t_p1 tq1 tq5 Ra0_2
  clear ez
  obtain ⟨I0, eI⟩ : ∃ J : tI, J = h_row I0 q5 (fun _ => 0) := ⟨_, rfl⟩
  rw [← eI] at g hI hZ hQ hz
  clear eI
  replace hF : h_F [] z I0 I0 := h_F.rf
  refine W.cs (cells' := 2) (slots' := 16) rfl rfl ?_
  replace hZ := hZ.tcall hF rfl
  replace hQ := hQ.tc hF rfl
  refine h_putR (ty := tyX9 5) (v := q5) hx hb hts iX9 tyX9 tyX9_ok nmX9 hown g t_a0 (by decide) so_59 rfl 5 (by decide) rfl (hts (.fieldLink RX9 18 "CapLeague$Trade" "isTurn" "[Z") (by decide +kernel)) rfl rfl hin rfl (by decide +kernel) rfl rfl dX9_init_20 (fun H locs g => ?_)
  replace hQ := hQ.wR (a := a0) (k := 5) (v := q5) t_a0 (by decide) tq5 (by decide) (fun h9 => ⟨hu_q5, n_q5⟩)
  replace hR := hR.wR (k0 := 5) (v := some q5) t_a0 (fun _ => rfl)
  replace hZ := hZ.wR (a := a0) (k := 5) (v := some q5) (Or.inl rfl)
  replace hI : h_I (z.wR a0 5 (some q5)) I0 := hI
  replace t_a0 : (z.wR a0 5 (some q5)).ty a0 = 59 := t_a0
  replace t_p0 : (z.wR a0 5 (some q5)).ty p0 = 1 := t_p0
  replace t_p1 : (z.wR a0 5 (some q5)).ty p1 = 11 := t_p1
  replace tq1 : (z.wR a0 5 (some q5)).ty q1 = 2 := tq1
  replace tq5 : (z.wR a0 5 (some q5)).ty q5 = 1005 := tq5
  replace Ra0_2 : (z.wR a0 5 (some q5)).R a0 2 = some q1 := (h_up_at (by decide)).trans Ra0_2
  replace Ra0_5 : (z.wR a0 5 (some q5)).R a0 5 = some q5 := h_up_eq
  obtain ⟨z, ez⟩ : ∃ z1 : tZ, z1 = (z.wR a0 5 (some q5)) := ⟨_, rfl⟩
  rw [← ez] at g hI hR hZ hQ t_a0 t_p0 t_p1 tq1 tq5 Ra0_2 Ra0_5
  clear ez
  replace hF : h_F [] z I0 I0 := h_F.rf
  refine lv_aload_n hx hb dX9_init_23 rfl (lv_at hl 0 rfl) ?_
  refine lv_bipush (v := 12) hx hb dX9_init_24 (by decide) ?_
  replace hZ := hZ.tcall hF rfl
  replace hQ := hQ.tc hF rfl
  refine h_newI hx hb (hts (.arrayClass .int) (by decide +kernel)) g hA so_1006 (by decide) (by decide) (by decide) (Nat.le_of_ble_eq_true rfl) (Nat.le_of_ble_eq_true rfl) dX9_init_26 (fun q6 H hq0 g => ?_)
  have n_q6 := hZ.fresh hq0 (fun h => h_neq t_a0 (by decide) hq0 (Option.some.inj h).symm)
  replace hu_q6 := hQ.1.u (q := q6) (t := 1006) hq0
  replace hQ := hQ.nw (q := q6) (t := 1006) hq0 (by decide)
  replace hI := hI.nw (q := q6) (t := 1006) (f := fun _ => none)
  replace hR := hR.nw (q := q6) (t := 1006) (f := fun _ => none) hq0 (fun k t2 n2 h => by cases (show (none : Option (Nat × Bool)) = some (t2, n2) from h))
  replace hZ := hZ.nw (q := q6) (t := 1006) (f := fun _ => none) hq0 (L2 := L4) (fun _ _ => rfl)
  replace hz : h_row I0 q6 (fun _ => 0) a0 = (fun _ => 0) := (h_row_n (h_neq t_a0 (by decide) hq0)).trans hz
  replace Ra0_2 := h_nwr (q := q6) (t := 1006) (f := fun _ => none) hq0 t_a0 (by decide) Ra0_2
  replace Ra0_5 := h_nwr (q := q6) (t := 1006) (f := fun _ => none) hq0 t_a0 (by decide) Ra0_5
  replace t_a0 := h_nwk (q := q6) (t := 1006) (f := fun _ => none) hq0 t_a0 (by decide)
  replace t_p0 := h_nwk (q := q6) (t := 1006) (f := fun _ => none) hq0 t_p0 (by decide)
  replace t_p1 := h_nwk (q := q6) (t := 1006) (f := fun _ => none) hq0 t_p1 (by decide)
  replace tq1 := h_nwk (q := q6) (t := 1006) (f := fun _ => none) hq0 tq1 (by decide)
  replace tq5 := h_nwk (q := q6) (t := 1006) (f := fun _ => none) hq0 tq5 (by decide)
  replace tq6 : (z.nw q6 1006 (fun _ => none)).ty q6 = 1006 := nw_te
  obtain ⟨z, ez⟩ : ∃ z1 : tZ, z1 = (z.nw q6 1006 (fun _ => none)) := ⟨_, rfl⟩
  rw [← ez] at g hI hR hZ hQ hu_q6 t_a0 t_p0 t_p1 tq1 tq5 tq6 Ra0_2 Ra0_5
  clear ez
  obtain ⟨I0, eI⟩ : ∃ J : tI, J = h_row I0 q6 (fun _ => 0) := ⟨_, rfl⟩
  rw [← eI] at g hI hZ hQ hz
  clear eI
  replace hF : h_F [] z I0 I0 := h_F.rf
  refine W.cs (cells' := 3) (slots' := 28) rfl rfl ?_
  replace hZ := hZ.tcall hF rfl
  replace hQ := hQ.tc hF rfl
  refine h_putR (ty := tyX9 6) (v := q6) hx hb hts iX9 tyX9 tyX9_ok nmX9 hown g t_a0 (by decide) so_59 rfl 6 (by decide) rfl (hts (.fieldLink RX9 22 "CapLeague$Trade" "thing" "[I") (by decide +kernel)) rfl rfl hin rfl (by decide +kernel) rfl rfl dX9_init_28 (fun H locs g => ?_)
  replace hQ := hQ.wR (a := a0) (k := 6) (v := q6) t_a0 (by decide) tq6 (by decide) (fun h9 => ⟨hu_q6, n_q6⟩)
  replace hR := hR.wR (k0 := 6) (v := some q6) t_a0 (fun _ => rfl)
  replace hZ := hZ.wR (a := a0) (k := 6) (v := some q6) (Or.inl rfl)
  replace hI : h_I (z.wR a0 6 (some q6)) I0 := hI
  replace t_a0 : (z.wR a0 6 (some q6)).ty a0 = 59 := t_a0
  replace t_p0 : (z.wR a0 6 (some q6)).ty p0 = 1 := t_p0
  replace t_p1 : (z.wR a0 6 (some q6)).ty p1 = 11 := t_p1
  replace tq1 : (z.wR a0 6 (some q6)).ty q1 = 2 := tq1
  replace tq5 : (z.wR a0 6 (some q6)).ty q5 = 1005 := tq5
  replace tq6 : (z.wR a0 6 (some q6)).ty q6 = 1006 := tq6
  replace Ra0_2 : (z.wR a0 6 (some q6)).R a0 2 = some q1 := (h_up_at (by decide)).trans Ra0_2
  replace Ra0_5 : (z.wR a0 6 (some q6)).R a0 5 = some q5 := (h_up_at (by decide)).trans Ra0_5
  replace Ra0_6 : (z.wR a0 6 (some q6)).R a0 6 = some q6 := h_up_eq
  obtain ⟨z, ez⟩ : ∃ z1 : tZ, z1 = (z.wR a0 6 (some q6)) := ⟨_, rfl⟩
  rw [← ez] at g hI hR hZ hQ t_a0 t_p0 t_p1 tq1 tq5 tq6 Ra0_2 Ra0_5 Ra0_6
  clear ez
  replace hF : h_F [] z I0 I0 := h_F.rf
  refine lv_aload_n hx hb dX9_init_31 rfl (lv_at hl 0 rfl) ?_
  refine lv_bipush (v := 12) hx hb dX9_init_32 (by decide) ?_
  replace hZ := hZ.tcall hF rfl
  replace hQ := hQ.tc hF rfl
  refine h_newI hx hb (hts (.arrayClass .int) (by decide +kernel)) g hA so_1007 (by decide) (by decide) (by decide) (Nat.le_of_ble_eq_true rfl) (Nat.le_of_ble_eq_true rfl) dX9_init_34 (fun q7 H hq0 g => ?_)
  have n_q7 := hZ.fresh hq0 (fun h => h_neq t_a0 (by decide) hq0 (Option.some.inj h).symm)
  replace hu_q7 := hQ.1.u (q := q7) (t := 1007) hq0
  replace hQ := hQ.nw (q := q7) (t := 1007) hq0 (by decide)
  replace hI := hI.nw (q := q7) (t := 1007) (f := fun _ => none)
  replace hR := hR.nw (q := q7) (t := 1007) (f := fun _ => none) hq0 (fun k t2 n2 h => by cases (show (none : Option (Nat × Bool)) = some (t2, n2) from h))
  replace hZ := hZ.nw (q := q7) (t := 1007) (f := fun _ => none) hq0 (L2 := L4) (fun _ _ => rfl)
  replace hz : h_row I0 q7 (fun _ => 0) a0 = (fun _ => 0) := (h_row_n (h_neq t_a0 (by decide) hq0)).trans hz
  replace Ra0_2 := h_nwr (q := q7) (t := 1007) (f := fun _ => none) hq0 t_a0 (by decide) Ra0_2
  replace Ra0_5 := h_nwr (q := q7) (t := 1007) (f := fun _ => none) hq0 t_a0 (by decide) Ra0_5
  replace Ra0_6 := h_nwr (q := q7) (t := 1007) (f := fun _ => none) hq0 t_a0 (by decide) Ra0_6
  replace t_a0 := h_nwk (q := q7) (t := 1007) (f := fun _ => none) hq0 t_a0 (by decide)
  replace t_p0 := h_nwk (q := q7) (t := 1007) (f := fun _ => none) hq0 t_p0 (by decide)
  replace t_p1 := h_nwk (q := q7) (t := 1007) (f := fun _ => none) hq0 t_p1 (by decide)
  replace tq1 := h_nwk (q := q7) (t := 1007) (f := fun _ => none) hq0 tq1 (by decide)
  replace tq5 := h_nwk (q := q7) (t := 1007) (f := fun _ => none) hq0 tq5 (by decide)
  replace tq6 := h_nwk (q := q7) (t := 1007) (f := fun _ => none) hq0 tq6 (by decide)
  replace tq7 : (z.nw q7 1007 (fun _ => none)).ty q7 = 1007 := nw_te
  obtain ⟨z, ez⟩ : ∃ z1 : tZ, z1 = (z.nw q7 1007 (fun _ => none)) := ⟨_, rfl⟩
  rw [← ez] at g hI hR hZ hQ hu_q7 t_a0 t_p0 t_p1 tq1 tq5 tq6 tq7 Ra0_2 Ra0_5 Ra0_6
  clear ez
  obtain ⟨I0, eI⟩ : ∃ J : tI, J = h_row I0 q7 (fun _ => 0) := ⟨_, rfl⟩
  rw [← eI] at g hI hZ hQ hz
  clear eI
  replace hF : h_F [] z I0 I0 := h_F.rf
  refine W.cs (cells' := 4) (slots' := 40) rfl rfl ?_
  replace hZ := hZ.tcall hF rfl
  replace hQ := hQ.tc hF rfl
  refine h_putR (ty := tyX9 7) (v := q7) hx hb hts iX9 tyX9 tyX9_ok nmX9 hown g t_a0 (by decide) so_59 rfl 7 (by decide) rfl (hts (.fieldLink RX9 26 "CapLeague$Trade" "from" "[I") (by decide +kernel)) rfl rfl hin rfl (by decide +kernel) rfl rfl dX9_init_36 (fun H locs g => ?_)
  replace hQ := hQ.wR (a := a0) (k := 7) (v := q7) t_a0 (by decide) tq7 (by decide) (fun h9 => ⟨hu_q7, n_q7⟩)
  replace hR := hR.wR (k0 := 7) (v := some q7) t_a0 (fun _ => rfl)
  replace hZ := hZ.wR (a := a0) (k := 7) (v := some q7) (Or.inl rfl)
  replace hI : h_I (z.wR a0 7 (some q7)) I0 := hI
  replace t_a0 : (z.wR a0 7 (some q7)).ty a0 = 59 := t_a0
  replace t_p0 : (z.wR a0 7 (some q7)).ty p0 = 1 := t_p0
  replace t_p1 : (z.wR a0 7 (some q7)).ty p1 = 11 := t_p1
  replace tq1 : (z.wR a0 7 (some q7)).ty q1 = 2 := tq1
  replace tq5 : (z.wR a0 7 (some q7)).ty q5 = 1005 := tq5
  replace tq6 : (z.wR a0 7 (some q7)).ty q6 = 1006 := tq6
  replace tq7 : (z.wR a0 7 (some q7)).ty q7 = 1007 := tq7
  replace Ra0_2 : (z.wR a0 7 (some q7)).R a0 2 = some q1 := (h_up_at (by decide)).trans Ra0_2
  replace Ra0_5 : (z.wR a0 7 (some q7)).R a0 5 = some q5 := (h_up_at (by decide)).trans Ra0_5
  replace Ra0_6 : (z.wR a0 7 (some q7)).R a0 6 = some q6 := (h_up_at (by decide)).trans Ra0_6
  replace Ra0_7 : (z.wR a0 7 (some q7)).R a0 7 = some q7 := h_up_eq
  obtain ⟨z, ez⟩ : ∃ z1 : tZ, z1 = (z.wR a0 7 (some q7)) := ⟨_, rfl⟩
  rw [← ez] at g hI hR hZ hQ t_a0 t_p0 t_p1 tq1 tq5 tq6 tq7 Ra0_2 Ra0_5 Ra0_6 Ra0_7
  clear ez
  replace hF : h_F [] z I0 I0 := h_F.rf
  refine lv_aload_n hx hb dX9_init_39 rfl (lv_at hl 0 rfl) ?_
  refine lv_bipush (v := 12) hx hb dX9_init_40 (by decide) ?_
  replace hZ := hZ.tcall hF rfl
  replace hQ := hQ.tc hF rfl
  refine h_newI hx hb (hts (.arrayClass .int) (by decide +kernel)) g hA so_1008 (by decide) (by decide) (by decide) (Nat.le_of_ble_eq_true rfl) (Nat.le_of_ble_eq_true rfl) dX9_init_42 (fun q8 H hq0 g => ?_)
  have n_q8 := hZ.fresh hq0 (fun h => h_neq t_a0 (by decide) hq0 (Option.some.inj h).symm)
  replace hu_q8 := hQ.1.u (q := q8) (t := 1008) hq0
  replace hQ := hQ.nw (q := q8) (t := 1008) hq0 (by decide)
  replace hI := hI.nw (q := q8) (t := 1008) (f := fun _ => none)
  replace hR := hR.nw (q := q8) (t := 1008) (f := fun _ => none) hq0 (fun k t2 n2 h => by cases (show (none : Option (Nat × Bool)) = some (t2, n2) from h))
  replace hZ := hZ.nw (q := q8) (t := 1008) (f := fun _ => none) hq0 (L2 := L4) (fun _ _ => rfl)
  replace hz : h_row I0 q8 (fun _ => 0) a0 = (fun _ => 0) := (h_row_n (h_neq t_a0 (by decide) hq0)).trans hz
  replace Ra0_2 := h_nwr (q := q8) (t := 1008) (f := fun _ => none) hq0 t_a0 (by decide) Ra0_2
  replace Ra0_5 := h_nwr (q := q8) (t := 1008) (f := fun _ => none) hq0 t_a0 (by decide) Ra0_5
  replace Ra0_6 := h_nwr (q := q8) (t := 1008) (f := fun _ => none) hq0 t_a0 (by decide) Ra0_6
  replace Ra0_7 := h_nwr (q := q8) (t := 1008) (f := fun _ => none) hq0 t_a0 (by decide) Ra0_7
  replace t_a0 := h_nwk (q := q8) (t := 1008) (f := fun _ => none) hq0 t_a0 (by decide)
  replace t_p0 := h_nwk (q := q8) (t := 1008) (f := fun _ => none) hq0 t_p0 (by decide)
  replace t_p1 := h_nwk (q := q8) (t := 1008) (f := fun _ => none) hq0 t_p1 (by decide)
  replace tq1 := h_nwk (q := q8) (t := 1008) (f := fun _ => none) hq0 tq1 (by decide)
  replace tq5 := h_nwk (q := q8) (t := 1008) (f := fun _ => none) hq0 tq5 (by decide)
  replace tq6 := h_nwk (q := q8) (t := 1008) (f := fun _ => none) hq0 tq6 (by decide)
  replace tq7 := h_nwk (q := q8) (t := 1008) (f := fun _ => none) hq0 tq7 (by decide)
  replace tq8 : (z.nw q8 1008 (fun _ => none)).ty q8 = 1008 := nw_te
  obtain ⟨z, ez⟩ : ∃ z1 : tZ, z1 = (z.nw q8 1008 (fun _ => none)) := ⟨_, rfl⟩
  rw [← ez] at g hI hR hZ hQ hu_q8 t_a0 t_p0 t_p1 tq1 tq5 tq6 tq7 tq8 Ra0_2 Ra0_5 Ra0_6 Ra0_7
  clear ez
  obtain ⟨I0, eI⟩ : ∃ J : tI, J = h_row I0 q8 (fun _ => 0) := ⟨_, rfl⟩
  rw [← eI] at g hI hZ hQ hz
  clear eI
  replace hF : h_F [] z I0 I0 := h_F.rf
  refine W.cs (cells' := 5) (slots' := 52) rfl rfl ?_
  replace hZ := hZ.tcall hF rfl
  replace hQ := hQ.tc hF rfl
  refine h_putR (ty := tyX9 8) (v := q8) hx hb hts iX9 tyX9 tyX9_ok nmX9 hown g t_a0 (by decide) so_59 rfl 8 (by decide) rfl (hts (.fieldLink RX9 29 "CapLeague$Trade" "to" "[I") (by decide +kernel)) rfl rfl hin rfl (by decide +kernel) rfl rfl dX9_init_44 (fun H locs g => ?_)
  replace hQ := hQ.wR (a := a0) (k := 8) (v := q8) t_a0 (by decide) tq8 (by decide) (fun h9 => ⟨hu_q8, n_q8⟩)
  replace hR := hR.wR (k0 := 8) (v := some q8) t_a0 (fun _ => rfl)
  replace hZ := hZ.wR (a := a0) (k := 8) (v := some q8) (Or.inl rfl)
  replace hI : h_I (z.wR a0 8 (some q8)) I0 := hI
  replace t_a0 : (z.wR a0 8 (some q8)).ty a0 = 59 := t_a0
  replace t_p0 : (z.wR a0 8 (some q8)).ty p0 = 1 := t_p0
  replace t_p1 : (z.wR a0 8 (some q8)).ty p1 = 11 := t_p1
  replace tq1 : (z.wR a0 8 (some q8)).ty q1 = 2 := tq1
  replace tq5 : (z.wR a0 8 (some q8)).ty q5 = 1005 := tq5
  replace tq6 : (z.wR a0 8 (some q8)).ty q6 = 1006 := tq6
  replace tq7 : (z.wR a0 8 (some q8)).ty q7 = 1007 := tq7
  replace tq8 : (z.wR a0 8 (some q8)).ty q8 = 1008 := tq8
  replace Ra0_2 : (z.wR a0 8 (some q8)).R a0 2 = some q1 := (h_up_at (by decide)).trans Ra0_2
  replace Ra0_5 : (z.wR a0 8 (some q8)).R a0 5 = some q5 := (h_up_at (by decide)).trans Ra0_5
  replace Ra0_6 : (z.wR a0 8 (some q8)).R a0 6 = some q6 := (h_up_at (by decide)).trans Ra0_6
  replace Ra0_7 : (z.wR a0 8 (some q8)).R a0 7 = some q7 := (h_up_at (by decide)).trans Ra0_7
  replace Ra0_8 : (z.wR a0 8 (some q8)).R a0 8 = some q8 := h_up_eq
  obtain ⟨z, ez⟩ : ∃ z1 : tZ, z1 = (z.wR a0 8 (some q8)) := ⟨_, rfl⟩
  rw [← ez] at g hI hR hZ hQ t_a0 t_p0 t_p1 tq1 tq5 tq6 tq7 tq8 Ra0_2 Ra0_5 Ra0_6 Ra0_7 Ra0_8
  clear ez
  replace hF : h_F [] z I0 I0 := h_F.rf
  refine lv_aload_n hx hb dX9_init_47 rfl (lv_at hl 0 rfl) ?_
  refine lv_bipush (v := 12) hx hb dX9_init_48 (by decide) ?_
  replace hZ := hZ.tcall hF rfl
  replace hQ := hQ.tc hF rfl
  refine h_newI hx hb (hts (.arrayClass .int) (by decide +kernel)) g hA so_1009 (by decide) (by decide) (by decide) (Nat.le_of_ble_eq_true rfl) (Nat.le_of_ble_eq_true rfl) dX9_init_50 (fun q9 H hq0 g => ?_)
  have n_q9 := hZ.fresh hq0 (fun h => h_neq t_a0 (by decide) hq0 (Option.some.inj h).symm)
  replace hu_q9 := hQ.1.u (q := q9) (t := 1009) hq0
  replace hQ := hQ.nw (q := q9) (t := 1009) hq0 (by decide)
  replace hI := hI.nw (q := q9) (t := 1009) (f := fun _ => none)
  replace hR := hR.nw (q := q9) (t := 1009) (f := fun _ => none) hq0 (fun k t2 n2 h => by cases (show (none : Option (Nat × Bool)) = some (t2, n2) from h))
  replace hZ := hZ.nw (q := q9) (t := 1009) (f := fun _ => none) hq0 (L2 := L4) (fun _ _ => rfl)
  replace hz : h_row I0 q9 (fun _ => 0) a0 = (fun _ => 0) := (h_row_n (h_neq t_a0 (by decide) hq0)).trans hz
  replace Ra0_2 := h_nwr (q := q9) (t := 1009) (f := fun _ => none) hq0 t_a0 (by decide) Ra0_2
  replace Ra0_5 := h_nwr (q := q9) (t := 1009) (f := fun _ => none) hq0 t_a0 (by decide) Ra0_5
  replace Ra0_6 := h_nwr (q := q9) (t := 1009) (f := fun _ => none) hq0 t_a0 (by decide) Ra0_6
  replace Ra0_7 := h_nwr (q := q9) (t := 1009) (f := fun _ => none) hq0 t_a0 (by decide) Ra0_7
  replace Ra0_8 := h_nwr (q := q9) (t := 1009) (f := fun _ => none) hq0 t_a0 (by decide) Ra0_8
  replace t_a0 := h_nwk (q := q9) (t := 1009) (f := fun _ => none) hq0 t_a0 (by decide)
  replace t_p0 := h_nwk (q := q9) (t := 1009) (f := fun _ => none) hq0 t_p0 (by decide)
  replace t_p1 := h_nwk (q := q9) (t := 1009) (f := fun _ => none) hq0 t_p1 (by decide)
  replace tq1 := h_nwk (q := q9) (t := 1009) (f := fun _ => none) hq0 tq1 (by decide)
  replace tq5 := h_nwk (q := q9) (t := 1009) (f := fun _ => none) hq0 tq5 (by decide)
  replace tq6 := h_nwk (q := q9) (t := 1009) (f := fun _ => none) hq0 tq6 (by decide)
  replace tq7 := h_nwk (q := q9) (t := 1009) (f := fun _ => none) hq0 tq7 (by decide)
  replace tq8 := h_nwk (q := q9) (t := 1009) (f := fun _ => none) hq0 tq8 (by decide)
  replace tq9 : (z.nw q9 1009 (fun _ => none)).ty q9 = 1009 := nw_te
  obtain ⟨z, ez⟩ : ∃ z1 : tZ, z1 = (z.nw q9 1009 (fun _ => none)) := ⟨_, rfl⟩
  rw [← ez] at g hI hR hZ hQ hu_q9 t_a0 t_p0 t_p1 tq1 tq5 tq6 tq7 tq8 tq9 Ra0_2 Ra0_5 Ra0_6 Ra0_7 Ra0_8
  clear ez
  obtain ⟨I0, eI⟩ : ∃ J : tI, J = h_row I0 q9 (fun _ => 0) := ⟨_, rfl⟩
  rw [← eI] at g hI hZ hQ hz
  clear eI
  replace hF : h_F [] z I0 I0 := h_F.rf
  refine W.cs (cells' := 6) (slots' := 64) rfl rfl ?_
  replace hZ := hZ.tcall hF rfl
  replace hQ := hQ.tc hF rfl
  refine h_putR (ty := tyX9 9) (v := q9) hx hb hts iX9 tyX9 tyX9_ok nmX9 hown g t_a0 (by decide) so_59 rfl 9 (by decide) rfl (hts (.fieldLink RX9 32 "CapLeague$Trade" "shield" "[I") (by decide +kernel)) rfl rfl hin rfl (by decide +kernel) rfl rfl dX9_init_52 (fun H locs g => ?_)
  replace hQ := hQ.wR (a := a0) (k := 9) (v := q9) t_a0 (by decide) tq9 (by decide) (fun h9 => ⟨hu_q9, n_q9⟩)
  replace hR := hR.wR (k0 := 9) (v := some q9) t_a0 (fun _ => rfl)
  replace hZ := hZ.wR (a := a0) (k := 9) (v := some q9) (Or.inl rfl)
  replace hI : h_I (z.wR a0 9 (some q9)) I0 := hI
  replace t_a0 : (z.wR a0 9 (some q9)).ty a0 = 59 := t_a0
  replace t_p0 : (z.wR a0 9 (some q9)).ty p0 = 1 := t_p0
  replace t_p1 : (z.wR a0 9 (some q9)).ty p1 = 11 := t_p1
  replace tq1 : (z.wR a0 9 (some q9)).ty q1 = 2 := tq1
  replace tq5 : (z.wR a0 9 (some q9)).ty q5 = 1005 := tq5
  replace tq6 : (z.wR a0 9 (some q9)).ty q6 = 1006 := tq6
  replace tq7 : (z.wR a0 9 (some q9)).ty q7 = 1007 := tq7
  replace tq8 : (z.wR a0 9 (some q9)).ty q8 = 1008 := tq8
  replace tq9 : (z.wR a0 9 (some q9)).ty q9 = 1009 := tq9
  replace Ra0_2 : (z.wR a0 9 (some q9)).R a0 2 = some q1 := (h_up_at (by decide)).trans Ra0_2
  replace Ra0_5 : (z.wR a0 9 (some q9)).R a0 5 = some q5 := (h_up_at (by decide)).trans Ra0_5
  replace Ra0_6 : (z.wR a0 9 (some q9)).R a0 6 = some q6 := (h_up_at (by decide)).trans Ra0_6
  replace Ra0_7 : (z.wR a0 9 (some q9)).R a0 7 = some q7 := (h_up_at (by decide)).trans Ra0_7
  replace Ra0_8 : (z.wR a0 9 (some q9)).R a0 8 = some q8 := (h_up_at (by decide)).trans Ra0_8
  replace Ra0_9 : (z.wR a0 9 (some q9)).R a0 9 = some q9 := h_up_eq
  obtain ⟨z, ez⟩ : ∃ z1 : tZ, z1 = (z.wR a0 9 (some q9)) := ⟨_, rfl⟩
  rw [← ez] at g hI hR hZ hQ t_a0 t_p0 t_p1 tq1 tq5 tq6 tq7 tq8 tq9 Ra0_2 Ra0_5 Ra0_6 Ra0_7 Ra0_8 Ra0_9
  clear ez
  replace hF : h_F [] z I0 I0 := h_F.rf
  refine lv_aload_n hx hb dX9_init_55 rfl (lv_at hl 0 rfl) ?_
  refine lv_aload_n hx hb dX9_init_56 rfl (lv_at hl 1 rfl) ?_
  replace hZ := hZ.tcall hF rfl
  replace hQ := hQ.tc hF rfl
  refine h_putR (ty := tyX9 0) (v := p0) hx hb hts iX9 tyX9 tyX9_ok nmX9 hown g t_a0 (by decide) so_59 rfl 0 (by decide) rfl (hts (.fieldLink RX9 35 "CapLeague$Trade" "books" "LCapLeague$Books;") (by decide +kernel)) rfl rfl hin rfl (by decide +kernel) rfl rfl dX9_init_57 (fun H locs g => ?_)
  replace hQ := hQ.wR (a := a0) (k := 0) (v := p0) t_a0 (by decide) t_p0 (by decide) (fun h9 => absurd h9 (by decide))
  replace hR := hR.wR (k0 := 0) (v := some p0) t_a0 (fun _ => rfl)
  replace hZ := hZ.wR (a := a0) (k := 0) (v := some p0) (Or.inl rfl)
  replace hI : h_I (z.wR a0 0 (some p0)) I0 := hI
  replace t_a0 : (z.wR a0 0 (some p0)).ty a0 = 59 := t_a0
  replace t_p0 : (z.wR a0 0 (some p0)).ty p0 = 1 := t_p0
  replace t_p1 : (z.wR a0 0 (some p0)).ty p1 = 11 := t_p1
  replace tq1 : (z.wR a0 0 (some p0)).ty q1 = 2 := tq1
  replace tq5 : (z.wR a0 0 (some p0)).ty q5 = 1005 := tq5
  replace tq6 : (z.wR a0 0 (some p0)).ty q6 = 1006 := tq6
  replace tq7 : (z.wR a0 0 (some p0)).ty q7 = 1007 := tq7
  replace tq8 : (z.wR a0 0 (some p0)).ty q8 = 1008 := tq8
  replace tq9 : (z.wR a0 0 (some p0)).ty q9 = 1009 := tq9
  replace Ra0_2 : (z.wR a0 0 (some p0)).R a0 2 = some q1 := (h_up_at (by decide)).trans Ra0_2
  replace Ra0_5 : (z.wR a0 0 (some p0)).R a0 5 = some q5 := (h_up_at (by decide)).trans Ra0_5
  replace Ra0_6 : (z.wR a0 0 (some p0)).R a0 6 = some q6 := (h_up_at (by decide)).trans Ra0_6
  replace Ra0_7 : (z.wR a0 0 (some p0)).R a0 7 = some q7 := (h_up_at (by decide)).trans Ra0_7
  replace Ra0_8 : (z.wR a0 0 (some p0)).R a0 8 = some q8 := (h_up_at (by decide)).trans Ra0_8
  replace Ra0_9 : (z.wR a0 0 (some p0)).R a0 9 = some q9 := (h_up_at (by decide)).trans Ra0_9
  replace Ra0_0 : (z.wR a0 0 (some p0)).R a0 0 = some p0 := h_up_eq
  obtain ⟨z, ez⟩ : ∃ z1 : tZ, z1 = (z.wR a0 0 (some p0)) := ⟨_, rfl⟩
  rw [← ez] at g hI hR hZ hQ t_a0 t_p0 t_p1 tq1 tq5 tq6 tq7 tq8 tq9 Ra0_2 Ra0_5 Ra0_6 Ra0_7 Ra0_8 Ra0_9 Ra0_0
  clear ez
  replace hF : h_F [] z I0 I0 := h_F.rf
  refine lv_aload_n hx hb dX9_init_60 rfl (lv_at hl 0 rfl) ?_
  refine lv_aload_n hx hb dX9_init_61 rfl (lv_at hl 2 rfl) ?_
  replace hZ := hZ.tcall hF rfl
  replace hQ := hQ.tc hF rfl
  refine h_putR (ty := tyX9 1) (v := p1) hx hb hts iX9 tyX9 tyX9_ok nmX9 hown g t_a0 (by decide) so_59 rfl 1 (by decide) rfl (hts (.fieldLink RX9 39 "CapLeague$Trade" "turns" "LCapLeague$Turns;") (by decide +kernel)) rfl rfl hin rfl (by decide +kernel) rfl rfl dX9_init_62 (fun H locs g => ?_)
  replace hQ := hQ.wR (a := a0) (k := 1) (v := p1) t_a0 (by decide) t_p1 (by decide) (fun h9 => absurd h9 (by decide))
  replace hR := hR.wR (k0 := 1) (v := some p1) t_a0 (fun _ => rfl)
  replace hZ := hZ.wR (a := a0) (k := 1) (v := some p1) (Or.inl rfl)
  replace hI : h_I (z.wR a0 1 (some p1)) I0 := hI
  replace t_a0 : (z.wR a0 1 (some p1)).ty a0 = 59 := t_a0
  replace t_p0 : (z.wR a0 1 (some p1)).ty p0 = 1 := t_p0
  replace t_p1 : (z.wR a0 1 (some p1)).ty p1 = 11 := t_p1
  replace tq1 : (z.wR a0 1 (some p1)).ty q1 = 2 := tq1
  replace tq5 : (z.wR a0 1 (some p1)).ty q5 = 1005 := tq5
  replace tq6 : (z.wR a0 1 (some p1)).ty q6 = 1006 := tq6
  replace tq7 : (z.wR a0 1 (some p1)).ty q7 = 1007 := tq7
  replace tq8 : (z.wR a0 1 (some p1)).ty q8 = 1008 := tq8
  replace tq9 : (z.wR a0 1 (some p1)).ty q9 = 1009 := tq9
  replace Ra0_2 : (z.wR a0 1 (some p1)).R a0 2 = some q1 := (h_up_at (by decide)).trans Ra0_2
  replace Ra0_5 : (z.wR a0 1 (some p1)).R a0 5 = some q5 := (h_up_at (by decide)).trans Ra0_5
  replace Ra0_6 : (z.wR a0 1 (some p1)).R a0 6 = some q6 := (h_up_at (by decide)).trans Ra0_6
  replace Ra0_7 : (z.wR a0 1 (some p1)).R a0 7 = some q7 := (h_up_at (by decide)).trans Ra0_7
  replace Ra0_8 : (z.wR a0 1 (some p1)).R a0 8 = some q8 := (h_up_at (by decide)).trans Ra0_8
  replace Ra0_9 : (z.wR a0 1 (some p1)).R a0 9 = some q9 := (h_up_at (by decide)).trans Ra0_9
  replace Ra0_0 : (z.wR a0 1 (some p1)).R a0 0 = some p0 := (h_up_at (by decide)).trans Ra0_0
  replace Ra0_1 : (z.wR a0 1 (some p1)).R a0 1 = some p1 := h_up_eq
  obtain ⟨z, ez⟩ : ∃ z1 : tZ, z1 = (z.wR a0 1 (some p1)) := ⟨_, rfl⟩
  rw [← ez] at g hI hR hZ hQ t_a0 t_p0 t_p1 tq1 tq5 tq6 tq7 tq8 tq9 Ra0_2 Ra0_5 Ra0_6 Ra0_7 Ra0_8 Ra0_9 Ra0_0 Ra0_1
  clear ez
  replace hF : h_F [] z I0 I0 := h_F.rf
  replace hZ := hZ.tcall hF rfl
  replace hQ := hQ.tc hF rfl
  have g := g.rt (a := a0) (t := 10) (by rw [t_a0]; decide) (by rw [t_a0]; rfl)
  replace hI := hI.rt (a := a0) (t := 10) (fun k => by
      rw [hz]
      exact h_bd0 10 k)
  replace hR := hR.rt (t := 10) t_a0 (by decide) (by decide) (fun k t2 n2 h hk => by
      have hk9 : k < 10 := hk
      rcases (show k = 0 ∨ k = 1 ∨ k = 2 ∨ k = 3 ∨ k = 4 ∨ k = 5 ∨ k = 6 ∨ k = 7 ∨ k = 8 ∨ k = 9 by omega) with rfl | rfl | rfl | rfl | rfl | rfl | rfl | rfl | rfl | rfl
      · have e9 : some (1, false) = some (t2, n2) := h
        cases e9
        exact ⟨p0, Ra0_0, t_p0⟩
      · have e9 : some (11, false) = some (t2, n2) := h
        cases e9
        exact ⟨p1, Ra0_1, t_p1⟩
      · have e9 : some (2, false) = some (t2, n2) := h
        cases e9
        exact ⟨q1, Ra0_2, tq1⟩
      · cases (show (none : Option (Nat × Bool)) = some (t2, n2) from h)
      · cases (show (none : Option (Nat × Bool)) = some (t2, n2) from h)
      · have e9 : some (1005, false) = some (t2, n2) := h
        cases e9
        exact ⟨q5, Ra0_5, tq5⟩
      · have e9 : some (1006, false) = some (t2, n2) := h
        cases e9
        exact ⟨q6, Ra0_6, tq6⟩
      · have e9 : some (1007, false) = some (t2, n2) := h
        cases e9
        exact ⟨q7, Ra0_7, tq7⟩
      · have e9 : some (1008, false) = some (t2, n2) := h
        cases e9
        exact ⟨q8, Ra0_8, tq8⟩
      · have e9 : some (1009, false) = some (t2, n2) := h
        cases e9
        exact ⟨q9, Ra0_9, tq9⟩)
  replace hZ := hZ.rt (a := a0) (t := 10) (Or.inl rfl)
  replace hQ := hQ.rt (a := a0) (t := 10) t_a0 (by decide) (by decide) rfl rfl
  replace t_p0 := h_rtk (t := 10) t_p0 t_a0 (by decide)
  replace t_p1 := h_rtk (t := 10) t_p1 t_a0 (by decide)
  replace tq1 := h_rtk (t := 10) tq1 t_a0 (by decide)
  replace tq5 := h_rtk (t := 10) tq5 t_a0 (by decide)
  replace tq6 := h_rtk (t := 10) tq6 t_a0 (by decide)
  replace tq7 := h_rtk (t := 10) tq7 t_a0 (by decide)
  replace tq8 := h_rtk (t := 10) tq8 t_a0 (by decide)
  replace tq9 := h_rtk (t := 10) tq9 t_a0 (by decide)
  replace t_a0 : (z.rt a0 10).ty a0 = 10 := rt_e
  replace Ra0_2 : (z.rt a0 10).R a0 2 = some q1 := Ra0_2
  replace Ra0_5 : (z.rt a0 10).R a0 5 = some q5 := Ra0_5
  replace Ra0_6 : (z.rt a0 10).R a0 6 = some q6 := Ra0_6
  replace Ra0_7 : (z.rt a0 10).R a0 7 = some q7 := Ra0_7
  replace Ra0_8 : (z.rt a0 10).R a0 8 = some q8 := Ra0_8
  replace Ra0_9 : (z.rt a0 10).R a0 9 = some q9 := Ra0_9
  replace Ra0_0 : (z.rt a0 10).R a0 0 = some p0 := Ra0_0
  replace Ra0_1 : (z.rt a0 10).R a0 1 = some p1 := Ra0_1
  obtain ⟨z, ez⟩ : ∃ z1 : tZ, z1 = (z.rt a0 10) := ⟨_, rfl⟩
  rw [← ez] at g hI hR hZ hQ t_a0 t_p0 t_p1 tq1 tq5 tq6 tq7 tq8 tq9 Ra0_2 Ra0_5 Ra0_6 Ra0_7 Ra0_8 Ra0_9 Ra0_0 Ra0_1
  clear ez
  replace hF : h_F [] z I0 I0 := h_F.rf
  have rq1 := Ra0_2
  have rq5 := Ra0_5
  have rq6 := Ra0_6
  have rq7 := Ra0_7
  have rq8 := Ra0_8
  have rq9 := Ra0_9
  have rp0 := Ra0_0
  have rp1 := Ra0_1
  replace hZ := hZ.tcall hF rfl
  replace hQ := hQ.tc hF rfl
  replace hS := g.2.1
  exact W.vret hx hb hr (fun t ht hW => ⟨⟨(z, I0, L4), rfl, ⟨hI, hR, hZ, hQ, t_a0, trivial⟩, h_ret g ht⟩, hS.F ht⟩) hS.2.2 dX9_init_65
set_option maxHeartbeats 4000000 in
set_option maxRecDepth 100000 in
theorem zX7_init (l : Launch) (E : tE) (X : tX) (A : Nat → Prop) (z0 : tZ) (J0 : tI) (K0 : tL) (a0 : Nat) (t_a0 : z0.ty a0 = 57) (p0 : Nat) (t_p0 : z0.ty p0 = 1) (h_z0 : J0 a0 = fun _ => 0) (hU : h_U z0) : Met l yX7_init wsX7_init ({ frames := 2, cells := 70, slots := 3927, locals := 128 }) (va_Pc [.ref a0, .ref p0] (h_P E X A z0 J0 K0)) (va_Qv (fun (q1 : tZ × tI × tL) => h_I q1.1 q1.2.1 ∧ h_R q1.1 ∧ h_X [] [] (some a0) z0 J0 K0 q1.1 q1.2.1 q1.2.2 ∧ h_Q [] (some a0) z0 q1.1 q1.2.1 ∧ q1.1.ty a0 = 8 ∧ True) (fun (q1 : tZ × tI × tL) t => h_B E A q1.1 q1.2.1 q1.2.2 t) A) 70 3927 A := by
  refine Met.ofW (cc := cX7_init) (maxL := 2) (ret := none) (by decide) rfl ?_
  intro pr_ ev_ s m args below meth cd_ s₁ B hml hv
  obtain ⟨rfl, hE, hk, hX, hA, hK, hI, hR, hB0⟩ := hv
  obtain ⟨z, ez0⟩ : ∃ z : tZ, z = z0 := ⟨_, rfl⟩
  obtain ⟨I0, eJ0⟩ : ∃ I0 : tI, I0 = J0 := ⟨_, rfl⟩
  obtain ⟨L0, eK0⟩ : ∃ L0 : tL, L0 = K0 := ⟨_, rfl⟩
  rw [← ez0, ← eJ0] at hI
  rw [← ez0] at hR t_a0 t_p0
  rw [← ez0, ← eJ0, ← eK0] at hB0
  rw [← eJ0] at h_z0
  have g : h_G h_so h_fk E A z I0 L0 s s.heap s.heap [] := ⟨hK, va_S.rf, hB0⟩
  replace hF : h_F [] z I0 I0 := h_F.rf
  have hx := B.exec
  have hb := B.bytes
  have hr := B.returns
  have hts := atoms_spec (ws := wsX7_init) B.pre
  have hown : s.vm.findClass RX7 = some m.cls := findClass_of_methodNamed B.named
  have hlocks := B.notSynchronized
  have iX1 : ∀ w ∈ u_ws RX1 TX1 4, w ∈ wsX7_init := by decide +kernel
  have iX7 : ∀ w ∈ u_ws RX7 TX7 13, w ∈ wsX7_init := by decide +kernel
  have hl := lv_entry ([.ref a0, .ref p0]) (n := 2) (Nat.le_of_ble_eq_true rfl)
  rw [lg_entry_eq]
  generalize (lg_sl ([.ref a0, .ref p0]) ++ List.replicate (2 - (lg_sl ([.ref a0, .ref p0])).length) Slot.unset).toArray = ls at hl ⊢
  have hl : lv_has ls 2 [(0, .ref a0), (1, .ref p0)] := hl
  have hin : meth.name = "<init>" := (name_of_methodNamed B.named B.method).1
  replace hZ : h_X [] [] (some a0) z0 J0 K0 z I0 L0 := by rw [ez0, eJ0, eK0]; exact h_X.rf
  replace hz : I0 a0 = (fun _ => 0) := h_z0
  replace hQ : h_Q [] (some a0) z0 z I0 := by rw [ez0]; exact h_Q.rf hU (fun b hb => by cases hb; exact h_z0)
  refine lv_aload_n hx hb dX7_init_0 rfl (lv_at hl 0 rfl) ?_
  refine W.objInit hx hb hown (hts (.methodLink RX7 3 objectInit) (by decide +kernel)) (hts (.instanceMethod objectInit) (by decide +kernel)) (hts (.code objectInit ⟨#[0xb1]⟩ 1 none) (List.mem_of_getElem? (i := 3) rfl)) rfl (by rw [hml]; exact hl.1) rfl dX7_init_1 (Nat.le_of_ble_eq_true rfl) (Nat.le_of_ble_eq_true rfl) ?_
  refine W.eq (g2 := F0 m 4 ls []) rfl ?_
  refine lv_aload_n hx hb dX7_init_4 rfl (lv_at hl 0 rfl) ?_
  replace hZ := hZ.tcall hF rfl
  replace hQ := hQ.tc hF rfl
  refine h_newO (C := RX1) (T := TX1) (N := 4) (ci := 1) hx hb hts iX1 tyX1 tyX1_ok hown (hts (.classLink RX7 9 RX1) (by decide +kernel)) (hts (.instantiable RX1 4) (by decide +kernel)) (hts (.initialized RX1) (by decide +kernel)) g hA rfl so_51 (fun j hj => by rcases (show j = 0 ∨ j = 1 ∨ j = 2 ∨ j = 3 by omega) with rfl | rfl | rfl | rfl <;> rfl) (Nat.le_of_ble_eq_true rfl) (Nat.le_of_ble_eq_true rfl) dX7_init_5 (fun q1 H hq0 g => ?_)
  have n_q1 := hZ.fresh hq0 (fun h => h_neq t_a0 (by decide) hq0 (Option.some.inj h).symm)
  replace hu_q1 := hQ.1.u (q := q1) (t := 51) hq0
  replace hQ := hQ.nw (q := q1) (t := 51) hq0 (by decide)
  replace hI := hI.nw (q := q1) (t := 51) (f := fun _ => none)
  replace hR := hR.nw (q := q1) (t := 51) (f := fun _ => none) hq0 (fun k t2 n2 h => by cases (show (none : Option (Nat × Bool)) = some (t2, n2) from h))
  replace hZ := hZ.nw (q := q1) (t := 51) (f := fun _ => none) hq0 (L2 := (h_rL L0 q1 (fun _ => 0))) (fun b hb => h_rL_n hb)
  replace hz : h_row I0 q1 (fun _ => 0) a0 = (fun _ => 0) := (h_row_n (h_neq t_a0 (by decide) hq0)).trans hz
  replace t_a0 := h_nwk (q := q1) (t := 51) (f := fun _ => none) hq0 t_a0 (by decide)
  replace t_p0 := h_nwk (q := q1) (t := 51) (f := fun _ => none) hq0 t_p0 (by decide)
  replace tq1 : (z.nw q1 51 (fun _ => none)).ty q1 = 51 := nw_te
  have hzq1 : h_row I0 q1 (fun _ => 0) q1 = fun _ => 0 := h_row_e
  obtain ⟨z, ez⟩ : ∃ z1 : tZ, z1 = (z.nw q1 51 (fun _ => none)) := ⟨_, rfl⟩
  rw [← ez] at g hI hR hZ hQ hu_q1 t_a0 t_p0 tq1 
  clear ez
  obtain ⟨I0, eI⟩ : ∃ J : tI, J = h_row I0 q1 (fun _ => 0) := ⟨_, rfl⟩
  rw [← eI] at g hI hZ hQ hz hzq1
  clear eI
  obtain ⟨L2, eL⟩ : ∃ J : tL, J = (h_rL L0 q1 (fun _ => 0)) := ⟨_, rfl⟩
  rw [← eL] at g hZ
  replace hF : h_F [] z I0 I0 := h_F.rf
  refine W.cs (cells' := 1) (slots' := 4) rfl rfl ?_
  refine lv_dup hx hb dX7_init_8 rfl ?_
  replace hZ := hZ.tcall hF rfl
  replace hQ := hQ.tc hF rfl
  refine va_callv (va_runIN (As := []) (rest := [.ref q1, .ref a0]) ⟨hx, hb, hml, hown, hts⟩ (zX1_init l E X A z I0 L2 q1 tq1 hzq1 hQ.1) (⟨va_cnB 0 hts gX7_init_X1_init_n11 rfl rfl rfl (hE.link 3 rfl) (hts (.initialized RX1) (by decide +kernel)) (by decide +kernel) ⟨Nat.le_of_ble_eq_true rfl, Nat.le_of_ble_eq_true rfl⟩, rfl, hts (.instanceMethod yX1_init) (by decide +kernel)⟩) ⟨h_blind _ _ _ _ _ _ _, h_pre _ hE hk hX hA hI hR g⟩ rfl rfl hl.1 rfl (lv_room (Nat.le_of_ble_eq_true rfl)) dX7_init_9 ⟨Nat.le_of_ble_eq_true rfl, Nat.le_of_ble_eq_true rfl⟩) g.2.1 (fun q _ h => h) (fun q h => h) (fun u t H1 locs ht hvm h3 hB hz1 hk1 hS => ?_)
  obtain ⟨z, I0, L4⟩ := u
  obtain ⟨hI, hR, xh3, qh3, tq1_, h3⟩ := h3
  replace hI : h_I z I0 := hI
  replace hR : h_R z := hR
  have hB : h_B E A z I0 L4 t := hB
  have xh3 : h_X [] [] (some q1) _ _ _ z I0 L4 := xh3
  have qh3 : h_Q [] (some q1) _ z I0 := qh3
  replace hQ := hQ.call xh3 qh3 rfl rfl
  replace hu_q1 := hu_q1.call qh3.2.1 tq1 (by decide)
  replace hZ := hZ.call xh3 rfl (fun t h9 => rfl) (fun b hb => Or.inr (by cases hb; exact n_q1))
  replace hz : I0 a0 = (fun _ => 0) := (funext (fun k => xh3.I t_a0 (by decide) (h_sne t_a0 tq1 (by decide)) rfl)).trans hz
  replace t_a0 := xh3.ty t_a0 (by decide) (h_sne t_a0 tq1 (by decide))
  replace t_p0 := xh3.ty t_p0 (by decide) (h_sne t_p0 tq1 (by decide))
  replace tq1 : z.ty q1 = 2 := tq1_
  replace g := h_after g hB ht hS
  generalize H1 = H at g
  clear hB hk1 hz1 ht hvm hS
  replace hF : h_F [] z I0 I0 := h_F.rf
  replace hZ := hZ.tcall hF rfl
  replace hQ := hQ.tc hF rfl
  refine h_putR (ty := tyX7 1) (v := q1) hx hb hts iX7 tyX7 tyX7_ok nmX7 hown g t_a0 (by decide) so_57 rfl 1 (by decide) rfl (hts (.fieldLink RX7 12 "CapLeague$RingSearch" "change" "LCapLeague$Change;") (by decide +kernel)) rfl rfl hin rfl (by decide +kernel) rfl rfl dX7_init_12 (fun H locs g => ?_)
  replace hQ := hQ.wR (a := a0) (k := 1) (v := q1) t_a0 (by decide) tq1 (by decide) (fun h9 => ⟨hu_q1, n_q1⟩)
  replace hR := hR.wR (k0 := 1) (v := some q1) t_a0 (fun _ => rfl)
  replace hZ := hZ.wR (a := a0) (k := 1) (v := some q1) (Or.inl rfl)
  replace hI : h_I (z.wR a0 1 (some q1)) I0 := hI
  replace t_a0 : (z.wR a0 1 (some q1)).ty a0 = 57 := t_a0
  replace t_p0 : (z.wR a0 1 (some q1)).ty p0 = 1 := t_p0
  replace tq1 : (z.wR a0 1 (some q1)).ty q1 = 2 := tq1
  replace Ra0_1 : (z.wR a0 1 (some q1)).R a0 1 = some q1 := h_up_eq
  obtain ⟨z, ez⟩ : ∃ z1 : tZ, z1 = (z.wR a0 1 (some q1)) := ⟨_, rfl⟩
  rw [← ez] at g hI hR hZ hQ t_a0 t_p0 tq1 Ra0_1
  clear ez
  replace hF : h_F [] z I0 I0 := h_F.rf
  refine lv_aload_n hx hb dX7_init_15 rfl (lv_at hl 0 rfl) ?_
  refine lv_bipush (v := 60) hx hb dX7_init_16 (by decide) ?_
  replace hZ := hZ.tcall hF rfl
  replace hQ := hQ.tc hF rfl
  refine h_newI hx hb (hts (.arrayClass .int) (by decide +kernel)) g hA so_802 (by decide) (by decide) (by decide) (Nat.le_of_ble_eq_true rfl) (Nat.le_of_ble_eq_true rfl) dX7_init_18 (fun q5 H hq0 g => ?_)
  have n_q5 := hZ.fresh hq0 (fun h => h_neq t_a0 (by decide) hq0 (Option.some.inj h).symm)
  replace hu_q5 := hQ.1.u (q := q5) (t := 802) hq0
  replace hQ := hQ.nw (q := q5) (t := 802) hq0 (by decide)
  replace hI := hI.nw (q := q5) (t := 802) (f := fun _ => none)
  replace hR := hR.nw (q := q5) (t := 802) (f := fun _ => none) hq0 (fun k t2 n2 h => by cases (show (none : Option (Nat × Bool)) = some (t2, n2) from h))
  replace hZ := hZ.nw (q := q5) (t := 802) (f := fun _ => none) hq0 (L2 := L4) (fun _ _ => rfl)
  replace hz : h_row I0 q5 (fun _ => 0) a0 = (fun _ => 0) := (h_row_n (h_neq t_a0 (by decide) hq0)).trans hz
  replace Ra0_1 := h_nwr (q := q5) (t := 802) (f := fun _ => none) hq0 t_a0 (by decide) Ra0_1
  replace t_a0 := h_nwk (q := q5) (t := 802) (f := fun _ => none) hq0 t_a0 (by decide)
  replace t_p0 := h_nwk (q := q5) (t := 802) (f := fun _ => none) hq0 t_p0 (by decide)
  replace tq1 := h_nwk (q := q5) (t := 802) (f := fun _ => none) hq0 tq1 (by decide)
  replace tq5 : (z.nw q5 802 (fun _ => none)).ty q5 = 802 := nw_te
  obtain ⟨z, ez⟩ : ∃ z1 : tZ, z1 = (z.nw q5 802 (fun _ => none)) := ⟨_, rfl⟩
  rw [← ez] at g hI hR hZ hQ hu_q5 t_a0 t_p0 tq1 tq5 Ra0_1
  clear ez
  obtain ⟨I0, eI⟩ : ∃ J : tI, J = h_row I0 q5 (fun _ => 0) := ⟨_, rfl⟩
  rw [← eI] at g hI hZ hQ hz
  clear eI
  replace hF : h_F [] z I0 I0 := h_F.rf
  refine W.cs (cells' := 2) (slots' := 64) rfl rfl ?_
  replace hZ := hZ.tcall hF rfl
  replace hQ := hQ.tc hF rfl
  refine h_putR (ty := tyX7 2) (v := q5) hx hb hts iX7 tyX7 tyX7_ok nmX7 hown g t_a0 (by decide) so_57 rfl 2 (by decide) rfl (hts (.fieldLink RX7 18 "CapLeague$RingSearch" "line" "[I") (by decide +kernel)) rfl rfl hin rfl (by decide +kernel) rfl rfl dX7_init_20 (fun H locs g => ?_)
  replace hQ := hQ.wR (a := a0) (k := 2) (v := q5) t_a0 (by decide) tq5 (by decide) (fun h9 => ⟨hu_q5, n_q5⟩)
  replace hR := hR.wR (k0 := 2) (v := some q5) t_a0 (fun _ => rfl)
  replace hZ := hZ.wR (a := a0) (k := 2) (v := some q5) (Or.inl rfl)
  replace hI : h_I (z.wR a0 2 (some q5)) I0 := hI
  replace t_a0 : (z.wR a0 2 (some q5)).ty a0 = 57 := t_a0
  replace t_p0 : (z.wR a0 2 (some q5)).ty p0 = 1 := t_p0
  replace tq1 : (z.wR a0 2 (some q5)).ty q1 = 2 := tq1
  replace tq5 : (z.wR a0 2 (some q5)).ty q5 = 802 := tq5
  replace Ra0_1 : (z.wR a0 2 (some q5)).R a0 1 = some q1 := (h_up_at (by decide)).trans Ra0_1
  replace Ra0_2 : (z.wR a0 2 (some q5)).R a0 2 = some q5 := h_up_eq
  obtain ⟨z, ez⟩ : ∃ z1 : tZ, z1 = (z.wR a0 2 (some q5)) := ⟨_, rfl⟩
  rw [← ez] at g hI hR hZ hQ t_a0 t_p0 tq1 tq5 Ra0_1 Ra0_2
  clear ez
  replace hF : h_F [] z I0 I0 := h_F.rf
  refine lv_aload_n hx hb dX7_init_23 rfl (lv_at hl 0 rfl) ?_
  refine lv_bipush (v := 9) hx hb dX7_init_24 (by decide) ?_
  replace hZ := hZ.tcall hF rfl
  replace hQ := hQ.tc hF rfl
  refine h_newI hx hb (hts (.arrayClass .int) (by decide +kernel)) g hA so_803 (by decide) (by decide) (by decide) (Nat.le_of_ble_eq_true rfl) (Nat.le_of_ble_eq_true rfl) dX7_init_26 (fun q6 H hq0 g => ?_)
  have n_q6 := hZ.fresh hq0 (fun h => h_neq t_a0 (by decide) hq0 (Option.some.inj h).symm)
  replace hu_q6 := hQ.1.u (q := q6) (t := 803) hq0
  replace hQ := hQ.nw (q := q6) (t := 803) hq0 (by decide)
  replace hI := hI.nw (q := q6) (t := 803) (f := fun _ => none)
  replace hR := hR.nw (q := q6) (t := 803) (f := fun _ => none) hq0 (fun k t2 n2 h => by cases (show (none : Option (Nat × Bool)) = some (t2, n2) from h))
  replace hZ := hZ.nw (q := q6) (t := 803) (f := fun _ => none) hq0 (L2 := L4) (fun _ _ => rfl)
  replace hz : h_row I0 q6 (fun _ => 0) a0 = (fun _ => 0) := (h_row_n (h_neq t_a0 (by decide) hq0)).trans hz
  replace Ra0_1 := h_nwr (q := q6) (t := 803) (f := fun _ => none) hq0 t_a0 (by decide) Ra0_1
  replace Ra0_2 := h_nwr (q := q6) (t := 803) (f := fun _ => none) hq0 t_a0 (by decide) Ra0_2
  replace t_a0 := h_nwk (q := q6) (t := 803) (f := fun _ => none) hq0 t_a0 (by decide)
  replace t_p0 := h_nwk (q := q6) (t := 803) (f := fun _ => none) hq0 t_p0 (by decide)
  replace tq1 := h_nwk (q := q6) (t := 803) (f := fun _ => none) hq0 tq1 (by decide)
  replace tq5 := h_nwk (q := q6) (t := 803) (f := fun _ => none) hq0 tq5 (by decide)
  replace tq6 : (z.nw q6 803 (fun _ => none)).ty q6 = 803 := nw_te
  obtain ⟨z, ez⟩ : ∃ z1 : tZ, z1 = (z.nw q6 803 (fun _ => none)) := ⟨_, rfl⟩
  rw [← ez] at g hI hR hZ hQ hu_q6 t_a0 t_p0 tq1 tq5 tq6 Ra0_1 Ra0_2
  clear ez
  obtain ⟨I0, eI⟩ : ∃ J : tI, J = h_row I0 q6 (fun _ => 0) := ⟨_, rfl⟩
  rw [← eI] at g hI hZ hQ hz
  clear eI
  replace hF : h_F [] z I0 I0 := h_F.rf
  refine W.cs (cells' := 3) (slots' := 73) rfl rfl ?_
  replace hZ := hZ.tcall hF rfl
  replace hQ := hQ.tc hF rfl
  refine h_putR (ty := tyX7 3) (v := q6) hx hb hts iX7 tyX7 tyX7_ok nmX7 hown g t_a0 (by decide) so_57 rfl 3 (by decide) rfl (hts (.fieldLink RX7 22 "CapLeague$RingSearch" "start" "[I") (by decide +kernel)) rfl rfl hin rfl (by decide +kernel) rfl rfl dX7_init_28 (fun H locs g => ?_)
  replace hQ := hQ.wR (a := a0) (k := 3) (v := q6) t_a0 (by decide) tq6 (by decide) (fun h9 => ⟨hu_q6, n_q6⟩)
  replace hR := hR.wR (k0 := 3) (v := some q6) t_a0 (fun _ => rfl)
  replace hZ := hZ.wR (a := a0) (k := 3) (v := some q6) (Or.inl rfl)
  replace hI : h_I (z.wR a0 3 (some q6)) I0 := hI
  replace t_a0 : (z.wR a0 3 (some q6)).ty a0 = 57 := t_a0
  replace t_p0 : (z.wR a0 3 (some q6)).ty p0 = 1 := t_p0
  replace tq1 : (z.wR a0 3 (some q6)).ty q1 = 2 := tq1
  replace tq5 : (z.wR a0 3 (some q6)).ty q5 = 802 := tq5
  replace tq6 : (z.wR a0 3 (some q6)).ty q6 = 803 := tq6
  replace Ra0_1 : (z.wR a0 3 (some q6)).R a0 1 = some q1 := (h_up_at (by decide)).trans Ra0_1
  replace Ra0_2 : (z.wR a0 3 (some q6)).R a0 2 = some q5 := (h_up_at (by decide)).trans Ra0_2
  replace Ra0_3 : (z.wR a0 3 (some q6)).R a0 3 = some q6 := h_up_eq
  obtain ⟨z, ez⟩ : ∃ z1 : tZ, z1 = (z.wR a0 3 (some q6)) := ⟨_, rfl⟩
  rw [← ez] at g hI hR hZ hQ t_a0 t_p0 tq1 tq5 tq6 Ra0_1 Ra0_2 Ra0_3
  clear ez
  replace hF : h_F [] z I0 I0 := h_F.rf
  refine lv_aload_n hx hb dX7_init_31 rfl (lv_at hl 0 rfl) ?_
  refine lv_bipush (v := 60) hx hb dX7_init_32 (by decide) ?_
  replace hZ := hZ.tcall hF rfl
  replace hQ := hQ.tc hF rfl
  refine h_newI hx hb (hts (.arrayClass .int) (by decide +kernel)) g hA so_804 (by decide) (by decide) (by decide) (Nat.le_of_ble_eq_true rfl) (Nat.le_of_ble_eq_true rfl) dX7_init_34 (fun q7 H hq0 g => ?_)
  have n_q7 := hZ.fresh hq0 (fun h => h_neq t_a0 (by decide) hq0 (Option.some.inj h).symm)
  replace hu_q7 := hQ.1.u (q := q7) (t := 804) hq0
  replace hQ := hQ.nw (q := q7) (t := 804) hq0 (by decide)
  replace hI := hI.nw (q := q7) (t := 804) (f := fun _ => none)
  replace hR := hR.nw (q := q7) (t := 804) (f := fun _ => none) hq0 (fun k t2 n2 h => by cases (show (none : Option (Nat × Bool)) = some (t2, n2) from h))
  replace hZ := hZ.nw (q := q7) (t := 804) (f := fun _ => none) hq0 (L2 := L4) (fun _ _ => rfl)
  replace hz : h_row I0 q7 (fun _ => 0) a0 = (fun _ => 0) := (h_row_n (h_neq t_a0 (by decide) hq0)).trans hz
  replace Ra0_1 := h_nwr (q := q7) (t := 804) (f := fun _ => none) hq0 t_a0 (by decide) Ra0_1
  replace Ra0_2 := h_nwr (q := q7) (t := 804) (f := fun _ => none) hq0 t_a0 (by decide) Ra0_2
  replace Ra0_3 := h_nwr (q := q7) (t := 804) (f := fun _ => none) hq0 t_a0 (by decide) Ra0_3
  replace t_a0 := h_nwk (q := q7) (t := 804) (f := fun _ => none) hq0 t_a0 (by decide)
  replace t_p0 := h_nwk (q := q7) (t := 804) (f := fun _ => none) hq0 t_p0 (by decide)
  replace tq1 := h_nwk (q := q7) (t := 804) (f := fun _ => none) hq0 tq1 (by decide)
  replace tq5 := h_nwk (q := q7) (t := 804) (f := fun _ => none) hq0 tq5 (by decide)
  replace tq6 := h_nwk (q := q7) (t := 804) (f := fun _ => none) hq0 tq6 (by decide)
  replace tq7 : (z.nw q7 804 (fun _ => none)).ty q7 = 804 := nw_te
  obtain ⟨z, ez⟩ : ∃ z1 : tZ, z1 = (z.nw q7 804 (fun _ => none)) := ⟨_, rfl⟩
  rw [← ez] at g hI hR hZ hQ hu_q7 t_a0 t_p0 tq1 tq5 tq6 tq7 Ra0_1 Ra0_2 Ra0_3
  clear ez
  obtain ⟨I0, eI⟩ : ∃ J : tI, J = h_row I0 q7 (fun _ => 0) := ⟨_, rfl⟩
  rw [← eI] at g hI hZ hQ hz
  clear eI
  replace hF : h_F [] z I0 I0 := h_F.rf
  refine W.cs (cells' := 4) (slots' := 133) rfl rfl ?_
  replace hZ := hZ.tcall hF rfl
  replace hQ := hQ.tc hF rfl
  refine h_putR (ty := tyX7 4) (v := q7) hx hb hts iX7 tyX7 tyX7_ok nmX7 hown g t_a0 (by decide) so_57 rfl 4 (by decide) rfl (hts (.fieldLink RX7 25 "CapLeague$RingSearch" "pays" "[I") (by decide +kernel)) rfl rfl hin rfl (by decide +kernel) rfl rfl dX7_init_36 (fun H locs g => ?_)
  replace hQ := hQ.wR (a := a0) (k := 4) (v := q7) t_a0 (by decide) tq7 (by decide) (fun h9 => ⟨hu_q7, n_q7⟩)
  replace hR := hR.wR (k0 := 4) (v := some q7) t_a0 (fun _ => rfl)
  replace hZ := hZ.wR (a := a0) (k := 4) (v := some q7) (Or.inl rfl)
  replace hI : h_I (z.wR a0 4 (some q7)) I0 := hI
  replace t_a0 : (z.wR a0 4 (some q7)).ty a0 = 57 := t_a0
  replace t_p0 : (z.wR a0 4 (some q7)).ty p0 = 1 := t_p0
  replace tq1 : (z.wR a0 4 (some q7)).ty q1 = 2 := tq1
  replace tq5 : (z.wR a0 4 (some q7)).ty q5 = 802 := tq5
  replace tq6 : (z.wR a0 4 (some q7)).ty q6 = 803 := tq6
  replace tq7 : (z.wR a0 4 (some q7)).ty q7 = 804 := tq7
  replace Ra0_1 : (z.wR a0 4 (some q7)).R a0 1 = some q1 := (h_up_at (by decide)).trans Ra0_1
  replace Ra0_2 : (z.wR a0 4 (some q7)).R a0 2 = some q5 := (h_up_at (by decide)).trans Ra0_2
  replace Ra0_3 : (z.wR a0 4 (some q7)).R a0 3 = some q6 := (h_up_at (by decide)).trans Ra0_3
  replace Ra0_4 : (z.wR a0 4 (some q7)).R a0 4 = some q7 := h_up_eq
  obtain ⟨z, ez⟩ : ∃ z1 : tZ, z1 = (z.wR a0 4 (some q7)) := ⟨_, rfl⟩
  rw [← ez] at g hI hR hZ hQ t_a0 t_p0 tq1 tq5 tq6 tq7 Ra0_1 Ra0_2 Ra0_3 Ra0_4
  clear ez
  replace hF : h_F [] z I0 I0 := h_F.rf
  refine lv_aload_n hx hb dX7_init_39 rfl (lv_at hl 0 rfl) ?_
  refine lv_bipush (v := 60) hx hb dX7_init_40 (by decide) ?_
  replace hZ := hZ.tcall hF rfl
  replace hQ := hQ.tc hF rfl
  refine h_newI hx hb (hts (.arrayClass .int) (by decide +kernel)) g hA so_805 (by decide) (by decide) (by decide) (Nat.le_of_ble_eq_true rfl) (Nat.le_of_ble_eq_true rfl) dX7_init_42 (fun q8 H hq0 g => ?_)
  have n_q8 := hZ.fresh hq0 (fun h => h_neq t_a0 (by decide) hq0 (Option.some.inj h).symm)
  replace hu_q8 := hQ.1.u (q := q8) (t := 805) hq0
  replace hQ := hQ.nw (q := q8) (t := 805) hq0 (by decide)
  replace hI := hI.nw (q := q8) (t := 805) (f := fun _ => none)
  replace hR := hR.nw (q := q8) (t := 805) (f := fun _ => none) hq0 (fun k t2 n2 h => by cases (show (none : Option (Nat × Bool)) = some (t2, n2) from h))
  replace hZ := hZ.nw (q := q8) (t := 805) (f := fun _ => none) hq0 (L2 := L4) (fun _ _ => rfl)
  replace hz : h_row I0 q8 (fun _ => 0) a0 = (fun _ => 0) := (h_row_n (h_neq t_a0 (by decide) hq0)).trans hz
  replace Ra0_1 := h_nwr (q := q8) (t := 805) (f := fun _ => none) hq0 t_a0 (by decide) Ra0_1
  replace Ra0_2 := h_nwr (q := q8) (t := 805) (f := fun _ => none) hq0 t_a0 (by decide) Ra0_2
  replace Ra0_3 := h_nwr (q := q8) (t := 805) (f := fun _ => none) hq0 t_a0 (by decide) Ra0_3
  replace Ra0_4 := h_nwr (q := q8) (t := 805) (f := fun _ => none) hq0 t_a0 (by decide) Ra0_4
  replace t_a0 := h_nwk (q := q8) (t := 805) (f := fun _ => none) hq0 t_a0 (by decide)
  replace t_p0 := h_nwk (q := q8) (t := 805) (f := fun _ => none) hq0 t_p0 (by decide)
  replace tq1 := h_nwk (q := q8) (t := 805) (f := fun _ => none) hq0 tq1 (by decide)
  replace tq5 := h_nwk (q := q8) (t := 805) (f := fun _ => none) hq0 tq5 (by decide)
  replace tq6 := h_nwk (q := q8) (t := 805) (f := fun _ => none) hq0 tq6 (by decide)
  replace tq7 := h_nwk (q := q8) (t := 805) (f := fun _ => none) hq0 tq7 (by decide)
  replace tq8 : (z.nw q8 805 (fun _ => none)).ty q8 = 805 := nw_te
  obtain ⟨z, ez⟩ : ∃ z1 : tZ, z1 = (z.nw q8 805 (fun _ => none)) := ⟨_, rfl⟩
  rw [← ez] at g hI hR hZ hQ hu_q8 t_a0 t_p0 tq1 tq5 tq6 tq7 tq8 Ra0_1 Ra0_2 Ra0_3 Ra0_4
  clear ez
  obtain ⟨I0, eI⟩ : ∃ J : tI, J = h_row I0 q8 (fun _ => 0) := ⟨_, rfl⟩
  rw [← eI] at g hI hZ hQ hz
  clear eI
  replace hF : h_F [] z I0 I0 := h_F.rf
  refine W.cs (cells' := 5) (slots' := 193) rfl rfl ?_
  replace hZ := hZ.tcall hF rfl
  replace hQ := hQ.tc hF rfl
  refine h_putR (ty := tyX7 5) (v := q8) hx hb hts iX7 tyX7 tyX7_ok nmX7 hown g t_a0 (by decide) so_57 rfl 5 (by decide) rfl (hts (.fieldLink RX7 28 "CapLeague$RingSearch" "counts" "[I") (by decide +kernel)) rfl rfl hin rfl (by decide +kernel) rfl rfl dX7_init_44 (fun H locs g => ?_)
  replace hQ := hQ.wR (a := a0) (k := 5) (v := q8) t_a0 (by decide) tq8 (by decide) (fun h9 => ⟨hu_q8, n_q8⟩)
  replace hR := hR.wR (k0 := 5) (v := some q8) t_a0 (fun _ => rfl)
  replace hZ := hZ.wR (a := a0) (k := 5) (v := some q8) (Or.inl rfl)
  replace hI : h_I (z.wR a0 5 (some q8)) I0 := hI
  replace t_a0 : (z.wR a0 5 (some q8)).ty a0 = 57 := t_a0
  replace t_p0 : (z.wR a0 5 (some q8)).ty p0 = 1 := t_p0
  replace tq1 : (z.wR a0 5 (some q8)).ty q1 = 2 := tq1
  replace tq5 : (z.wR a0 5 (some q8)).ty q5 = 802 := tq5
  replace tq6 : (z.wR a0 5 (some q8)).ty q6 = 803 := tq6
  replace tq7 : (z.wR a0 5 (some q8)).ty q7 = 804 := tq7
  replace tq8 : (z.wR a0 5 (some q8)).ty q8 = 805 := tq8
  replace Ra0_1 : (z.wR a0 5 (some q8)).R a0 1 = some q1 := (h_up_at (by decide)).trans Ra0_1
  replace Ra0_2 : (z.wR a0 5 (some q8)).R a0 2 = some q5 := (h_up_at (by decide)).trans Ra0_2
  replace Ra0_3 : (z.wR a0 5 (some q8)).R a0 3 = some q6 := (h_up_at (by decide)).trans Ra0_3
  replace Ra0_4 : (z.wR a0 5 (some q8)).R a0 4 = some q7 := (h_up_at (by decide)).trans Ra0_4
  replace Ra0_5 : (z.wR a0 5 (some q8)).R a0 5 = some q8 := h_up_eq
  obtain ⟨z, ez⟩ : ∃ z1 : tZ, z1 = (z.wR a0 5 (some q8)) := ⟨_, rfl⟩
  rw [← ez] at g hI hR hZ hQ t_a0 t_p0 tq1 tq5 tq6 tq7 tq8 Ra0_1 Ra0_2 Ra0_3 Ra0_4 Ra0_5
  clear ez
  replace hF : h_F [] z I0 I0 := h_F.rf
  refine lv_aload_n hx hb dX7_init_47 rfl (lv_at hl 0 rfl) ?_
  refine lv_bipush (v := 60) hx hb dX7_init_48 (by decide) ?_
  refine lv_bipush (v := 60) hx hb dX7_init_50 (by decide) ?_
  replace hZ := hZ.tcall hF rfl
  replace hQ := hQ.tc hF rfl
  refine h_newG (N := 60) (M := 60) hx hb hown (hts (.classLink RX7 31 "[[I") (by decide +kernel)) hE.2.2.2.2 (hts (.arrayClass .int) (by decide +kernel)) g hA so_806 so_856 (by decide) (by decide) (by decide) (by decide) (by decide) (by decide) (Nat.le_of_ble_eq_true rfl) (Nat.le_of_ble_eq_true rfl) dX7_init_52 (fun q9 H locs hq0 g => ?_)
  have n_q9 := hZ.fresh (hq0 q9 (Nat.le_refl _) (Nat.le_add_right _ _)) (fun h => h_neq t_a0 (by decide) (hq0 q9 (Nat.le_refl _) (Nat.le_add_right _ _)) (Option.some.inj h).symm)
  replace hu_q9 := hQ.1.ug (q := q9) (t := 806) (tr := 856) hq0
  replace hQ := hQ.nwg (q := q9) (t := 806) (tr := 856) (N := 60) hq0 (by decide) (by decide)
  replace hI := hI.nwg (q := q9) (t := 806) (tr := 856) (N := 60)
  replace hR := hR.nwg (q := q9) (t := 806) (tr := 856) (N := 60) hq0 (fun k t2 n2 h => by have e9 : some (856, false) = some (t2, n2) := h; cases e9; rfl) rfl (fun _ => rfl)
  replace hZ := hZ.nwg (q := q9) (t := 806) (tr := 856) (N := 60) hq0
  replace hz : h_rows I0 q9 60 a0 = (fun _ => 0) := (h_rows_n (fun h => h_neq t_a0 (by decide) (hq0 a0 h.1 h.2) rfl)).trans hz
  replace Ra0_1 := h_ngr (t := 806) (tr := 856) hq0 t_a0 (by decide) Ra0_1
  replace Ra0_2 := h_ngr (t := 806) (tr := 856) hq0 t_a0 (by decide) Ra0_2
  replace Ra0_3 := h_ngr (t := 806) (tr := 856) hq0 t_a0 (by decide) Ra0_3
  replace Ra0_4 := h_ngr (t := 806) (tr := 856) hq0 t_a0 (by decide) Ra0_4
  replace Ra0_5 := h_ngr (t := 806) (tr := 856) hq0 t_a0 (by decide) Ra0_5
  replace t_a0 := h_ngk (t := 806) (tr := 856) hq0 t_a0 (by decide)
  replace t_p0 := h_ngk (t := 806) (tr := 856) hq0 t_p0 (by decide)
  replace tq1 := h_ngk (t := 806) (tr := 856) hq0 tq1 (by decide)
  replace tq5 := h_ngk (t := 806) (tr := 856) hq0 tq5 (by decide)
  replace tq6 := h_ngk (t := 806) (tr := 856) hq0 tq6 (by decide)
  replace tq7 := h_ngk (t := 806) (tr := 856) hq0 tq7 (by decide)
  replace tq8 := h_ngk (t := 806) (tr := 856) hq0 tq8 (by decide)
  replace tq9 : (z.nwg q9 806 856 60).ty q9 = 806 := ng_te
  obtain ⟨z, ez⟩ : ∃ z1 : tZ, z1 = (z.nwg q9 806 856 60) := ⟨_, rfl⟩
  rw [← ez] at g hI hR hZ hQ hu_q9 t_a0 t_p0 tq1 tq5 tq6 tq7 tq8 tq9 Ra0_1 Ra0_2 Ra0_3 Ra0_4 Ra0_5
  clear ez
  obtain ⟨I0, eI⟩ : ∃ J : tI, J = h_rows I0 q9 60 := ⟨_, rfl⟩
  rw [← eI] at g hI hZ hQ hz
  clear eI
  replace hF : h_F [] z I0 I0 := h_F.rf
  refine W.cs (cells' := 66) (slots' := 3853) rfl rfl ?_
  replace hZ := hZ.tcall hF rfl
  replace hQ := hQ.tc hF rfl
  refine h_putR (ty := tyX7 6) (v := q9) hx hb hts iX7 tyX7 tyX7_ok nmX7 hown g t_a0 (by decide) so_57 rfl 6 (by decide) rfl (hts (.fieldLink RX7 33 "CapLeague$RingSearch" "gains" "[[I") (by decide +kernel)) rfl rfl hin rfl (by decide +kernel) rfl rfl dX7_init_56 (fun H locs g => ?_)
  replace hQ := hQ.wR (a := a0) (k := 6) (v := q9) t_a0 (by decide) tq9 (by decide) (fun h9 => ⟨hu_q9, n_q9⟩)
  replace hR := hR.wR (k0 := 6) (v := some q9) t_a0 (fun _ => rfl)
  replace hZ := hZ.wR (a := a0) (k := 6) (v := some q9) (Or.inl rfl)
  replace hI : h_I (z.wR a0 6 (some q9)) I0 := hI
  replace t_a0 : (z.wR a0 6 (some q9)).ty a0 = 57 := t_a0
  replace t_p0 : (z.wR a0 6 (some q9)).ty p0 = 1 := t_p0
  replace tq1 : (z.wR a0 6 (some q9)).ty q1 = 2 := tq1
  replace tq5 : (z.wR a0 6 (some q9)).ty q5 = 802 := tq5
  replace tq6 : (z.wR a0 6 (some q9)).ty q6 = 803 := tq6
  replace tq7 : (z.wR a0 6 (some q9)).ty q7 = 804 := tq7
  replace tq8 : (z.wR a0 6 (some q9)).ty q8 = 805 := tq8
  replace tq9 : (z.wR a0 6 (some q9)).ty q9 = 806 := tq9
  replace Ra0_1 : (z.wR a0 6 (some q9)).R a0 1 = some q1 := (h_up_at (by decide)).trans Ra0_1
  replace Ra0_2 : (z.wR a0 6 (some q9)).R a0 2 = some q5 := (h_up_at (by decide)).trans Ra0_2
  replace Ra0_3 : (z.wR a0 6 (some q9)).R a0 3 = some q6 := (h_up_at (by decide)).trans Ra0_3
  replace Ra0_4 : (z.wR a0 6 (some q9)).R a0 4 = some q7 := (h_up_at (by decide)).trans Ra0_4
  replace Ra0_5 : (z.wR a0 6 (some q9)).R a0 5 = some q8 := (h_up_at (by decide)).trans Ra0_5
  replace Ra0_6 : (z.wR a0 6 (some q9)).R a0 6 = some q9 := h_up_eq
  obtain ⟨z, ez⟩ : ∃ z1 : tZ, z1 = (z.wR a0 6 (some q9)) := ⟨_, rfl⟩
  rw [← ez] at g hI hR hZ hQ t_a0 t_p0 tq1 tq5 tq6 tq7 tq8 tq9 Ra0_1 Ra0_2 Ra0_3 Ra0_4 Ra0_5 Ra0_6
  clear ez
  replace hF : h_F [] z I0 I0 := h_F.rf
  refine lv_aload_n hx hb dX7_init_59 rfl (lv_at hl 0 rfl) ?_
  refine lv_bipush (v := 60) hx hb dX7_init_60 (by decide) ?_
  replace hZ := hZ.tcall hF rfl
  replace hQ := hQ.tc hF rfl
  refine h_newI hx hb (hts (.arrayClass .int) (by decide +kernel)) g hA so_807 (by decide) (by decide) (by decide) (Nat.le_of_ble_eq_true rfl) (Nat.le_of_ble_eq_true rfl) dX7_init_62 (fun q10 H hq0 g => ?_)
  have n_q10 := hZ.fresh hq0 (fun h => h_neq t_a0 (by decide) hq0 (Option.some.inj h).symm)
  replace hu_q10 := hQ.1.u (q := q10) (t := 807) hq0
  replace hQ := hQ.nw (q := q10) (t := 807) hq0 (by decide)
  replace hI := hI.nw (q := q10) (t := 807) (f := fun _ => none)
  replace hR := hR.nw (q := q10) (t := 807) (f := fun _ => none) hq0 (fun k t2 n2 h => by cases (show (none : Option (Nat × Bool)) = some (t2, n2) from h))
  replace hZ := hZ.nw (q := q10) (t := 807) (f := fun _ => none) hq0 (L2 := L4) (fun _ _ => rfl)
  replace hz : h_row I0 q10 (fun _ => 0) a0 = (fun _ => 0) := (h_row_n (h_neq t_a0 (by decide) hq0)).trans hz
  replace Ra0_1 := h_nwr (q := q10) (t := 807) (f := fun _ => none) hq0 t_a0 (by decide) Ra0_1
  replace Ra0_2 := h_nwr (q := q10) (t := 807) (f := fun _ => none) hq0 t_a0 (by decide) Ra0_2
  replace Ra0_3 := h_nwr (q := q10) (t := 807) (f := fun _ => none) hq0 t_a0 (by decide) Ra0_3
  replace Ra0_4 := h_nwr (q := q10) (t := 807) (f := fun _ => none) hq0 t_a0 (by decide) Ra0_4
  replace Ra0_5 := h_nwr (q := q10) (t := 807) (f := fun _ => none) hq0 t_a0 (by decide) Ra0_5
  replace Ra0_6 := h_nwr (q := q10) (t := 807) (f := fun _ => none) hq0 t_a0 (by decide) Ra0_6
  replace t_a0 := h_nwk (q := q10) (t := 807) (f := fun _ => none) hq0 t_a0 (by decide)
  replace t_p0 := h_nwk (q := q10) (t := 807) (f := fun _ => none) hq0 t_p0 (by decide)
  replace tq1 := h_nwk (q := q10) (t := 807) (f := fun _ => none) hq0 tq1 (by decide)
  replace tq5 := h_nwk (q := q10) (t := 807) (f := fun _ => none) hq0 tq5 (by decide)
  replace tq6 := h_nwk (q := q10) (t := 807) (f := fun _ => none) hq0 tq6 (by decide)
  replace tq7 := h_nwk (q := q10) (t := 807) (f := fun _ => none) hq0 tq7 (by decide)
  replace tq8 := h_nwk (q := q10) (t := 807) (f := fun _ => none) hq0 tq8 (by decide)
  replace tq9 := h_nwk (q := q10) (t := 807) (f := fun _ => none) hq0 tq9 (by decide)
  replace tq10 : (z.nw q10 807 (fun _ => none)).ty q10 = 807 := nw_te
  obtain ⟨z, ez⟩ : ∃ z1 : tZ, z1 = (z.nw q10 807 (fun _ => none)) := ⟨_, rfl⟩
  rw [← ez] at g hI hR hZ hQ hu_q10 t_a0 t_p0 tq1 tq5 tq6 tq7 tq8 tq9 tq10 Ra0_1 Ra0_2 Ra0_3 Ra0_4 Ra0_5 Ra0_6
  clear ez
  obtain ⟨I0, eI⟩ : ∃ J : tI, J = h_row I0 q10 (fun _ => 0) := ⟨_, rfl⟩
  rw [← eI] at g hI hZ hQ hz
  clear eI
  replace hF : h_F [] z I0 I0 := h_F.rf
  refine W.cs (cells' := 67) (slots' := 3913) rfl rfl ?_
  replace hZ := hZ.tcall hF rfl
  replace hQ := hQ.tc hF rfl
  refine h_putR (ty := tyX7 7) (v := q10) hx hb hts iX7 tyX7 tyX7_ok nmX7 hown g t_a0 (by decide) so_57 rfl 7 (by decide) rfl (hts (.fieldLink RX7 36 "CapLeague$RingSearch" "playerTop" "[I") (by decide +kernel)) rfl rfl hin rfl (by decide +kernel) rfl rfl dX7_init_64 (fun H locs g => ?_)
  replace hQ := hQ.wR (a := a0) (k := 7) (v := q10) t_a0 (by decide) tq10 (by decide) (fun h9 => ⟨hu_q10, n_q10⟩)
  replace hR := hR.wR (k0 := 7) (v := some q10) t_a0 (fun _ => rfl)
  replace hZ := hZ.wR (a := a0) (k := 7) (v := some q10) (Or.inl rfl)
  replace hI : h_I (z.wR a0 7 (some q10)) I0 := hI
  replace t_a0 : (z.wR a0 7 (some q10)).ty a0 = 57 := t_a0
  replace t_p0 : (z.wR a0 7 (some q10)).ty p0 = 1 := t_p0
  replace tq1 : (z.wR a0 7 (some q10)).ty q1 = 2 := tq1
  replace tq5 : (z.wR a0 7 (some q10)).ty q5 = 802 := tq5
  replace tq6 : (z.wR a0 7 (some q10)).ty q6 = 803 := tq6
  replace tq7 : (z.wR a0 7 (some q10)).ty q7 = 804 := tq7
  replace tq8 : (z.wR a0 7 (some q10)).ty q8 = 805 := tq8
  replace tq9 : (z.wR a0 7 (some q10)).ty q9 = 806 := tq9
  replace tq10 : (z.wR a0 7 (some q10)).ty q10 = 807 := tq10
  replace Ra0_1 : (z.wR a0 7 (some q10)).R a0 1 = some q1 := (h_up_at (by decide)).trans Ra0_1
  replace Ra0_2 : (z.wR a0 7 (some q10)).R a0 2 = some q5 := (h_up_at (by decide)).trans Ra0_2
  replace Ra0_3 : (z.wR a0 7 (some q10)).R a0 3 = some q6 := (h_up_at (by decide)).trans Ra0_3
  replace Ra0_4 : (z.wR a0 7 (some q10)).R a0 4 = some q7 := (h_up_at (by decide)).trans Ra0_4
  replace Ra0_5 : (z.wR a0 7 (some q10)).R a0 5 = some q8 := (h_up_at (by decide)).trans Ra0_5
  replace Ra0_6 : (z.wR a0 7 (some q10)).R a0 6 = some q9 := (h_up_at (by decide)).trans Ra0_6
  replace Ra0_7 : (z.wR a0 7 (some q10)).R a0 7 = some q10 := h_up_eq
  obtain ⟨z, ez⟩ : ∃ z1 : tZ, z1 = (z.wR a0 7 (some q10)) := ⟨_, rfl⟩
  rw [← ez] at g hI hR hZ hQ t_a0 t_p0 tq1 tq5 tq6 tq7 tq8 tq9 tq10 Ra0_1 Ra0_2 Ra0_3 Ra0_4 Ra0_5 Ra0_6 Ra0_7
  clear ez
  replace hF : h_F [] z I0 I0 := h_F.rf
  refine lv_aload_n hx hb dX7_init_67 rfl (lv_at hl 0 rfl) ?_
  refine lv_bipush (v := 8) hx hb dX7_init_68 (by decide) ?_
  replace hZ := hZ.tcall hF rfl
  replace hQ := hQ.tc hF rfl
  refine h_newI hx hb (hts (.arrayClass .int) (by decide +kernel)) g hA so_808 (by decide) (by decide) (by decide) (Nat.le_of_ble_eq_true rfl) (Nat.le_of_ble_eq_true rfl) dX7_init_70 (fun q11 H hq0 g => ?_)
  have n_q11 := hZ.fresh hq0 (fun h => h_neq t_a0 (by decide) hq0 (Option.some.inj h).symm)
  replace hu_q11 := hQ.1.u (q := q11) (t := 808) hq0
  replace hQ := hQ.nw (q := q11) (t := 808) hq0 (by decide)
  replace hI := hI.nw (q := q11) (t := 808) (f := fun _ => none)
  replace hR := hR.nw (q := q11) (t := 808) (f := fun _ => none) hq0 (fun k t2 n2 h => by cases (show (none : Option (Nat × Bool)) = some (t2, n2) from h))
  replace hZ := hZ.nw (q := q11) (t := 808) (f := fun _ => none) hq0 (L2 := L4) (fun _ _ => rfl)
  replace hz : h_row I0 q11 (fun _ => 0) a0 = (fun _ => 0) := (h_row_n (h_neq t_a0 (by decide) hq0)).trans hz
  replace Ra0_1 := h_nwr (q := q11) (t := 808) (f := fun _ => none) hq0 t_a0 (by decide) Ra0_1
  replace Ra0_2 := h_nwr (q := q11) (t := 808) (f := fun _ => none) hq0 t_a0 (by decide) Ra0_2
  replace Ra0_3 := h_nwr (q := q11) (t := 808) (f := fun _ => none) hq0 t_a0 (by decide) Ra0_3
  replace Ra0_4 := h_nwr (q := q11) (t := 808) (f := fun _ => none) hq0 t_a0 (by decide) Ra0_4
  replace Ra0_5 := h_nwr (q := q11) (t := 808) (f := fun _ => none) hq0 t_a0 (by decide) Ra0_5
  replace Ra0_6 := h_nwr (q := q11) (t := 808) (f := fun _ => none) hq0 t_a0 (by decide) Ra0_6
  replace Ra0_7 := h_nwr (q := q11) (t := 808) (f := fun _ => none) hq0 t_a0 (by decide) Ra0_7
  replace t_a0 := h_nwk (q := q11) (t := 808) (f := fun _ => none) hq0 t_a0 (by decide)
  replace t_p0 := h_nwk (q := q11) (t := 808) (f := fun _ => none) hq0 t_p0 (by decide)
  replace tq1 := h_nwk (q := q11) (t := 808) (f := fun _ => none) hq0 tq1 (by decide)
  replace tq5 := h_nwk (q := q11) (t := 808) (f := fun _ => none) hq0 tq5 (by decide)
  replace tq6 := h_nwk (q := q11) (t := 808) (f := fun _ => none) hq0 tq6 (by decide)
  replace tq7 := h_nwk (q := q11) (t := 808) (f := fun _ => none) hq0 tq7 (by decide)
  replace tq8 := h_nwk (q := q11) (t := 808) (f := fun _ => none) hq0 tq8 (by decide)
  replace tq9 := h_nwk (q := q11) (t := 808) (f := fun _ => none) hq0 tq9 (by decide)
  replace tq10 := h_nwk (q := q11) (t := 808) (f := fun _ => none) hq0 tq10 (by decide)
  replace tq11 : (z.nw q11 808 (fun _ => none)).ty q11 = 808 := nw_te
  obtain ⟨z, ez⟩ : ∃ z1 : tZ, z1 = (z.nw q11 808 (fun _ => none)) := ⟨_, rfl⟩
  rw [← ez] at g hI hR hZ hQ hu_q11 t_a0 t_p0 tq1 tq5 tq6 tq7 tq8 tq9 tq10 tq11 Ra0_1 Ra0_2 Ra0_3 Ra0_4 Ra0_5 Ra0_6 Ra0_7
  clear ez
  obtain ⟨I0, eI⟩ : ∃ J : tI, J = h_row I0 q11 (fun _ => 0) := ⟨_, rfl⟩
  rw [← eI] at g hI hZ hQ hz
  clear eI
  replace hF : h_F [] z I0 I0 := h_F.rf
  refine W.cs (cells' := 68) (slots' := 3921) rfl rfl ?_
  replace hZ := hZ.tcall hF rfl
  replace hQ := hQ.tc hF rfl
  refine h_putR (ty := tyX7 8) (v := q11) hx hb hts iX7 tyX7 tyX7_ok nmX7 hown g t_a0 (by decide) so_57 rfl 8 (by decide) rfl (hts (.fieldLink RX7 39 "CapLeague$RingSearch" "clubTop" "[I") (by decide +kernel)) rfl rfl hin rfl (by decide +kernel) rfl rfl dX7_init_72 (fun H locs g => ?_)
  replace hQ := hQ.wR (a := a0) (k := 8) (v := q11) t_a0 (by decide) tq11 (by decide) (fun h9 => ⟨hu_q11, n_q11⟩)
  replace hR := hR.wR (k0 := 8) (v := some q11) t_a0 (fun _ => rfl)
  replace hZ := hZ.wR (a := a0) (k := 8) (v := some q11) (Or.inl rfl)
  replace hI : h_I (z.wR a0 8 (some q11)) I0 := hI
  replace t_a0 : (z.wR a0 8 (some q11)).ty a0 = 57 := t_a0
  replace t_p0 : (z.wR a0 8 (some q11)).ty p0 = 1 := t_p0
  replace tq1 : (z.wR a0 8 (some q11)).ty q1 = 2 := tq1
  replace tq5 : (z.wR a0 8 (some q11)).ty q5 = 802 := tq5
  replace tq6 : (z.wR a0 8 (some q11)).ty q6 = 803 := tq6
  replace tq7 : (z.wR a0 8 (some q11)).ty q7 = 804 := tq7
  replace tq8 : (z.wR a0 8 (some q11)).ty q8 = 805 := tq8
  replace tq9 : (z.wR a0 8 (some q11)).ty q9 = 806 := tq9
  replace tq10 : (z.wR a0 8 (some q11)).ty q10 = 807 := tq10
  replace tq11 : (z.wR a0 8 (some q11)).ty q11 = 808 := tq11
  replace Ra0_1 : (z.wR a0 8 (some q11)).R a0 1 = some q1 := (h_up_at (by decide)).trans Ra0_1
  replace Ra0_2 : (z.wR a0 8 (some q11)).R a0 2 = some q5 := (h_up_at (by decide)).trans Ra0_2
  replace Ra0_3 : (z.wR a0 8 (some q11)).R a0 3 = some q6 := (h_up_at (by decide)).trans Ra0_3
  replace Ra0_4 : (z.wR a0 8 (some q11)).R a0 4 = some q7 := (h_up_at (by decide)).trans Ra0_4
  replace Ra0_5 : (z.wR a0 8 (some q11)).R a0 5 = some q8 := (h_up_at (by decide)).trans Ra0_5
  replace Ra0_6 : (z.wR a0 8 (some q11)).R a0 6 = some q9 := (h_up_at (by decide)).trans Ra0_6
  replace Ra0_7 : (z.wR a0 8 (some q11)).R a0 7 = some q10 := (h_up_at (by decide)).trans Ra0_7
  replace Ra0_8 : (z.wR a0 8 (some q11)).R a0 8 = some q11 := h_up_eq
  obtain ⟨z, ez⟩ : ∃ z1 : tZ, z1 = (z.wR a0 8 (some q11)) := ⟨_, rfl⟩
  rw [← ez] at g hI hR hZ hQ t_a0 t_p0 tq1 tq5 tq6 tq7 tq8 tq9 tq10 tq11 Ra0_1 Ra0_2 Ra0_3 Ra0_4 Ra0_5 Ra0_6 Ra0_7 Ra0_8
  clear ez
  replace hF : h_F [] z I0 I0 := h_F.rf
  refine lv_aload_n hx hb dX7_init_75 rfl (lv_at hl 0 rfl) ?_
  refine lv_iconst (v := 3) hx hb dX7_init_76 (by decide) ?_
  replace hZ := hZ.tcall hF rfl
  replace hQ := hQ.tc hF rfl
  refine h_newI hx hb (hts (.arrayClass .int) (by decide +kernel)) g hA so_811 (by decide) (by decide) (by decide) (Nat.le_of_ble_eq_true rfl) (Nat.le_of_ble_eq_true rfl) dX7_init_77 (fun q12 H hq0 g => ?_)
  have n_q12 := hZ.fresh hq0 (fun h => h_neq t_a0 (by decide) hq0 (Option.some.inj h).symm)
  replace hu_q12 := hQ.1.u (q := q12) (t := 811) hq0
  replace hQ := hQ.nw (q := q12) (t := 811) hq0 (by decide)
  replace hI := hI.nw (q := q12) (t := 811) (f := fun _ => none)
  replace hR := hR.nw (q := q12) (t := 811) (f := fun _ => none) hq0 (fun k t2 n2 h => by cases (show (none : Option (Nat × Bool)) = some (t2, n2) from h))
  replace hZ := hZ.nw (q := q12) (t := 811) (f := fun _ => none) hq0 (L2 := L4) (fun _ _ => rfl)
  replace hz : h_row I0 q12 (fun _ => 0) a0 = (fun _ => 0) := (h_row_n (h_neq t_a0 (by decide) hq0)).trans hz
  replace Ra0_1 := h_nwr (q := q12) (t := 811) (f := fun _ => none) hq0 t_a0 (by decide) Ra0_1
  replace Ra0_2 := h_nwr (q := q12) (t := 811) (f := fun _ => none) hq0 t_a0 (by decide) Ra0_2
  replace Ra0_3 := h_nwr (q := q12) (t := 811) (f := fun _ => none) hq0 t_a0 (by decide) Ra0_3
  replace Ra0_4 := h_nwr (q := q12) (t := 811) (f := fun _ => none) hq0 t_a0 (by decide) Ra0_4
  replace Ra0_5 := h_nwr (q := q12) (t := 811) (f := fun _ => none) hq0 t_a0 (by decide) Ra0_5
  replace Ra0_6 := h_nwr (q := q12) (t := 811) (f := fun _ => none) hq0 t_a0 (by decide) Ra0_6
  replace Ra0_7 := h_nwr (q := q12) (t := 811) (f := fun _ => none) hq0 t_a0 (by decide) Ra0_7
  replace Ra0_8 := h_nwr (q := q12) (t := 811) (f := fun _ => none) hq0 t_a0 (by decide) Ra0_8
  replace t_a0 := h_nwk (q := q12) (t := 811) (f := fun _ => none) hq0 t_a0 (by decide)
  replace t_p0 := h_nwk (q := q12) (t := 811) (f := fun _ => none) hq0 t_p0 (by decide)
  replace tq1 := h_nwk (q := q12) (t := 811) (f := fun _ => none) hq0 tq1 (by decide)
  replace tq5 := h_nwk (q := q12) (t := 811) (f := fun _ => none) hq0 tq5 (by decide)
  replace tq6 := h_nwk (q := q12) (t := 811) (f := fun _ => none) hq0 tq6 (by decide)
  replace tq7 := h_nwk (q := q12) (t := 811) (f := fun _ => none) hq0 tq7 (by decide)
  replace tq8 := h_nwk (q := q12) (t := 811) (f := fun _ => none) hq0 tq8 (by decide)
  replace tq9 := h_nwk (q := q12) (t := 811) (f := fun _ => none) hq0 tq9 (by decide)
  replace tq10 := h_nwk (q := q12) (t := 811) (f := fun _ => none) hq0 tq10 (by decide)
  replace tq11 := h_nwk (q := q12) (t := 811) (f := fun _ => none) hq0 tq11 (by decide)
  replace tq12 : (z.nw q12 811 (fun _ => none)).ty q12 = 811 := nw_te
  obtain ⟨z, ez⟩ : ∃ z1 : tZ, z1 = (z.nw q12 811 (fun _ => none)) := ⟨_, rfl⟩
  rw [← ez] at g hI hR hZ hQ hu_q12 t_a0 t_p0 tq1 tq5 tq6 tq7 tq8 tq9 tq10 tq11 tq12 Ra0_1 Ra0_2 Ra0_3 Ra0_4 Ra0_5 Ra0_6 Ra0_7 Ra0_8
  clear ez
  obtain ⟨I0, eI⟩ : ∃ J : tI, J = h_row I0 q12 (fun _ => 0) := ⟨_, rfl⟩
  rw [← eI] at g hI hZ hQ hz
  clear eI
  replace hF : h_F [] z I0 I0 := h_F.rf
  refine W.cs (cells' := 69) (slots' := 3924) rfl rfl ?_
  replace hZ := hZ.tcall hF rfl
  replace hQ := hQ.tc hF rfl
  refine h_putR (ty := tyX7 11) (v := q12) hx hb hts iX7 tyX7 tyX7_ok nmX7 hown g t_a0 (by decide) so_57 rfl 11 (by decide) rfl (hts (.fieldLink RX7 42 "CapLeague$RingSearch" "clubRow" "[I") (by decide +kernel)) rfl rfl hin rfl (by decide +kernel) rfl rfl dX7_init_79 (fun H locs g => ?_)
  replace hQ := hQ.wR (a := a0) (k := 11) (v := q12) t_a0 (by decide) tq12 (by decide) (fun h9 => ⟨hu_q12, n_q12⟩)
  replace hR := hR.wR (k0 := 11) (v := some q12) t_a0 (fun _ => rfl)
  replace hZ := hZ.wR (a := a0) (k := 11) (v := some q12) (Or.inl rfl)
  replace hI : h_I (z.wR a0 11 (some q12)) I0 := hI
  replace t_a0 : (z.wR a0 11 (some q12)).ty a0 = 57 := t_a0
  replace t_p0 : (z.wR a0 11 (some q12)).ty p0 = 1 := t_p0
  replace tq1 : (z.wR a0 11 (some q12)).ty q1 = 2 := tq1
  replace tq5 : (z.wR a0 11 (some q12)).ty q5 = 802 := tq5
  replace tq6 : (z.wR a0 11 (some q12)).ty q6 = 803 := tq6
  replace tq7 : (z.wR a0 11 (some q12)).ty q7 = 804 := tq7
  replace tq8 : (z.wR a0 11 (some q12)).ty q8 = 805 := tq8
  replace tq9 : (z.wR a0 11 (some q12)).ty q9 = 806 := tq9
  replace tq10 : (z.wR a0 11 (some q12)).ty q10 = 807 := tq10
  replace tq11 : (z.wR a0 11 (some q12)).ty q11 = 808 := tq11
  replace tq12 : (z.wR a0 11 (some q12)).ty q12 = 811 := tq12
  replace Ra0_1 : (z.wR a0 11 (some q12)).R a0 1 = some q1 := (h_up_at (by decide)).trans Ra0_1
  replace Ra0_2 : (z.wR a0 11 (some q12)).R a0 2 = some q5 := (h_up_at (by decide)).trans Ra0_2
  replace Ra0_3 : (z.wR a0 11 (some q12)).R a0 3 = some q6 := (h_up_at (by decide)).trans Ra0_3
  replace Ra0_4 : (z.wR a0 11 (some q12)).R a0 4 = some q7 := (h_up_at (by decide)).trans Ra0_4
  replace Ra0_5 : (z.wR a0 11 (some q12)).R a0 5 = some q8 := (h_up_at (by decide)).trans Ra0_5
  replace Ra0_6 : (z.wR a0 11 (some q12)).R a0 6 = some q9 := (h_up_at (by decide)).trans Ra0_6
  replace Ra0_7 : (z.wR a0 11 (some q12)).R a0 7 = some q10 := (h_up_at (by decide)).trans Ra0_7
  replace Ra0_8 : (z.wR a0 11 (some q12)).R a0 8 = some q11 := (h_up_at (by decide)).trans Ra0_8
  replace Ra0_11 : (z.wR a0 11 (some q12)).R a0 11 = some q12 := h_up_eq
  obtain ⟨z, ez⟩ : ∃ z1 : tZ, z1 = (z.wR a0 11 (some q12)) := ⟨_, rfl⟩
  rw [← ez] at g hI hR hZ hQ t_a0 t_p0 tq1 tq5 tq6 tq7 tq8 tq9 tq10 tq11 tq12 Ra0_1 Ra0_2 Ra0_3 Ra0_4 Ra0_5 Ra0_6 Ra0_7 Ra0_8 Ra0_11
  clear ez
  replace hF : h_F [] z I0 I0 := h_F.rf
  refine lv_aload_n hx hb dX7_init_82 rfl (lv_at hl 0 rfl) ?_
  refine lv_iconst (v := 3) hx hb dX7_init_83 (by decide) ?_
  replace hZ := hZ.tcall hF rfl
  replace hQ := hQ.tc hF rfl
  refine h_newI hx hb (hts (.arrayClass .int) (by decide +kernel)) g hA so_812 (by decide) (by decide) (by decide) (Nat.le_of_ble_eq_true rfl) (Nat.le_of_ble_eq_true rfl) dX7_init_84 (fun q13 H hq0 g => ?_)
  have n_q13 := hZ.fresh hq0 (fun h => h_neq t_a0 (by decide) hq0 (Option.some.inj h).symm)
  replace hu_q13 := hQ.1.u (q := q13) (t := 812) hq0
  replace hQ := hQ.nw (q := q13) (t := 812) hq0 (by decide)
  replace hI := hI.nw (q := q13) (t := 812) (f := fun _ => none)
  replace hR := hR.nw (q := q13) (t := 812) (f := fun _ => none) hq0 (fun k t2 n2 h => by cases (show (none : Option (Nat × Bool)) = some (t2, n2) from h))
  replace hZ := hZ.nw (q := q13) (t := 812) (f := fun _ => none) hq0 (L2 := L4) (fun _ _ => rfl)
  replace hz : h_row I0 q13 (fun _ => 0) a0 = (fun _ => 0) := (h_row_n (h_neq t_a0 (by decide) hq0)).trans hz
  replace Ra0_1 := h_nwr (q := q13) (t := 812) (f := fun _ => none) hq0 t_a0 (by decide) Ra0_1
  replace Ra0_2 := h_nwr (q := q13) (t := 812) (f := fun _ => none) hq0 t_a0 (by decide) Ra0_2
  replace Ra0_3 := h_nwr (q := q13) (t := 812) (f := fun _ => none) hq0 t_a0 (by decide) Ra0_3
  replace Ra0_4 := h_nwr (q := q13) (t := 812) (f := fun _ => none) hq0 t_a0 (by decide) Ra0_4
  replace Ra0_5 := h_nwr (q := q13) (t := 812) (f := fun _ => none) hq0 t_a0 (by decide) Ra0_5
  replace Ra0_6 := h_nwr (q := q13) (t := 812) (f := fun _ => none) hq0 t_a0 (by decide) Ra0_6
  replace Ra0_7 := h_nwr (q := q13) (t := 812) (f := fun _ => none) hq0 t_a0 (by decide) Ra0_7
  replace Ra0_8 := h_nwr (q := q13) (t := 812) (f := fun _ => none) hq0 t_a0 (by decide) Ra0_8
  replace Ra0_11 := h_nwr (q := q13) (t := 812) (f := fun _ => none) hq0 t_a0 (by decide) Ra0_11
  replace t_a0 := h_nwk (q := q13) (t := 812) (f := fun _ => none) hq0 t_a0 (by decide)
  replace t_p0 := h_nwk (q := q13) (t := 812) (f := fun _ => none) hq0 t_p0 (by decide)
  replace tq1 := h_nwk (q := q13) (t := 812) (f := fun _ => none) hq0 tq1 (by decide)
  replace tq5 := h_nwk (q := q13) (t := 812) (f := fun _ => none) hq0 tq5 (by decide)
  replace tq6 := h_nwk (q := q13) (t := 812) (f := fun _ => none) hq0 tq6 (by decide)
  replace tq7 := h_nwk (q := q13) (t := 812) (f := fun _ => none) hq0 tq7 (by decide)
  replace tq8 := h_nwk (q := q13) (t := 812) (f := fun _ => none) hq0 tq8 (by decide)
  replace tq9 := h_nwk (q := q13) (t := 812) (f := fun _ => none) hq0 tq9 (by decide)
  replace tq10 := h_nwk (q := q13) (t := 812) (f := fun _ => none) hq0 tq10 (by decide)
  replace tq11 := h_nwk (q := q13) (t := 812) (f := fun _ => none) hq0 tq11 (by decide)
  replace tq12 := h_nwk (q := q13) (t := 812) (f := fun _ => none) hq0 tq12 (by decide)
  replace tq13 : (z.nw q13 812 (fun _ => none)).ty q13 = 812 := nw_te
  obtain ⟨z, ez⟩ : ∃ z1 : tZ, z1 = (z.nw q13 812 (fun _ => none)) := ⟨_, rfl⟩
  rw [← ez] at g hI hR hZ hQ hu_q13 t_a0 t_p0 tq1 tq5 tq6 tq7 tq8 tq9 tq10 tq11 tq12 tq13 Ra0_1 Ra0_2 Ra0_3 Ra0_4 Ra0_5 Ra0_6 Ra0_7 Ra0_8 Ra0_11
  clear ez
  obtain ⟨I0, eI⟩ : ∃ J : tI, J = h_row I0 q13 (fun _ => 0) := ⟨_, rfl⟩
  rw [← eI] at g hI hZ hQ hz
  clear eI
  replace hF : h_F [] z I0 I0 := h_F.rf
  refine W.cs (cells' := 70) (slots' := 3927) rfl rfl ?_
  replace hZ := hZ.tcall hF rfl
  replace hQ := hQ.tc hF rfl
  refine h_putR (ty := tyX7 12) (v := q13) hx hb hts iX7 tyX7 tyX7_ok nmX7 hown g t_a0 (by decide) so_57 rfl 12 (by decide) rfl (hts (.fieldLink RX7 45 "CapLeague$RingSearch" "playerRow" "[I") (by decide +kernel)) rfl rfl hin rfl (by decide +kernel) rfl rfl dX7_init_86 (fun H locs g => ?_)
  replace hQ := hQ.wR (a := a0) (k := 12) (v := q13) t_a0 (by decide) tq13 (by decide) (fun h9 => ⟨hu_q13, n_q13⟩)
  replace hR := hR.wR (k0 := 12) (v := some q13) t_a0 (fun _ => rfl)
  replace hZ := hZ.wR (a := a0) (k := 12) (v := some q13) (Or.inl rfl)
  replace hI : h_I (z.wR a0 12 (some q13)) I0 := hI
  replace t_a0 : (z.wR a0 12 (some q13)).ty a0 = 57 := t_a0
  replace t_p0 : (z.wR a0 12 (some q13)).ty p0 = 1 := t_p0
  replace tq1 : (z.wR a0 12 (some q13)).ty q1 = 2 := tq1
  replace tq5 : (z.wR a0 12 (some q13)).ty q5 = 802 := tq5
  replace tq6 : (z.wR a0 12 (some q13)).ty q6 = 803 := tq6
  replace tq7 : (z.wR a0 12 (some q13)).ty q7 = 804 := tq7
  replace tq8 : (z.wR a0 12 (some q13)).ty q8 = 805 := tq8
  replace tq9 : (z.wR a0 12 (some q13)).ty q9 = 806 := tq9
  replace tq10 : (z.wR a0 12 (some q13)).ty q10 = 807 := tq10
  replace tq11 : (z.wR a0 12 (some q13)).ty q11 = 808 := tq11
  replace tq12 : (z.wR a0 12 (some q13)).ty q12 = 811 := tq12
  replace tq13 : (z.wR a0 12 (some q13)).ty q13 = 812 := tq13
  replace Ra0_1 : (z.wR a0 12 (some q13)).R a0 1 = some q1 := (h_up_at (by decide)).trans Ra0_1
  replace Ra0_2 : (z.wR a0 12 (some q13)).R a0 2 = some q5 := (h_up_at (by decide)).trans Ra0_2
  replace Ra0_3 : (z.wR a0 12 (some q13)).R a0 3 = some q6 := (h_up_at (by decide)).trans Ra0_3
  replace Ra0_4 : (z.wR a0 12 (some q13)).R a0 4 = some q7 := (h_up_at (by decide)).trans Ra0_4
  replace Ra0_5 : (z.wR a0 12 (some q13)).R a0 5 = some q8 := (h_up_at (by decide)).trans Ra0_5
  replace Ra0_6 : (z.wR a0 12 (some q13)).R a0 6 = some q9 := (h_up_at (by decide)).trans Ra0_6
  replace Ra0_7 : (z.wR a0 12 (some q13)).R a0 7 = some q10 := (h_up_at (by decide)).trans Ra0_7
  replace Ra0_8 : (z.wR a0 12 (some q13)).R a0 8 = some q11 := (h_up_at (by decide)).trans Ra0_8
  replace Ra0_11 : (z.wR a0 12 (some q13)).R a0 11 = some q12 := (h_up_at (by decide)).trans Ra0_11
  replace Ra0_12 : (z.wR a0 12 (some q13)).R a0 12 = some q13 := h_up_eq
  obtain ⟨z, ez⟩ : ∃ z1 : tZ, z1 = (z.wR a0 12 (some q13)) := ⟨_, rfl⟩
  rw [← ez] at g hI hR hZ hQ t_a0 t_p0 tq1 tq5 tq6 tq7 tq8 tq9 tq10 tq11 tq12 tq13 Ra0_1 Ra0_2 Ra0_3 Ra0_4 Ra0_5 Ra0_6 Ra0_7 Ra0_8 Ra0_11 Ra0_12
  clear ez
  replace hF : h_F [] z I0 I0 := h_F.rf
  refine lv_aload_n hx hb dX7_init_89 rfl (lv_at hl 0 rfl) ?_
  refine lv_aload_n hx hb dX7_init_90 rfl (lv_at hl 1 rfl) ?_
  replace hZ := hZ.tcall hF rfl
  replace hQ := hQ.tc hF rfl
  refine h_putR (ty := tyX7 0) (v := p0) hx hb hts iX7 tyX7 tyX7_ok nmX7 hown g t_a0 (by decide) so_57 rfl 0 (by decide) rfl (hts (.fieldLink RX7 48 "CapLeague$RingSearch" "books" "LCapLeague$Books;") (by decide +kernel)) rfl rfl hin rfl (by decide +kernel) rfl rfl dX7_init_91 (fun H locs g => ?_)
  replace hQ := hQ.wR (a := a0) (k := 0) (v := p0) t_a0 (by decide) t_p0 (by decide) (fun h9 => absurd h9 (by decide))
  replace hR := hR.wR (k0 := 0) (v := some p0) t_a0 (fun _ => rfl)
  replace hZ := hZ.wR (a := a0) (k := 0) (v := some p0) (Or.inl rfl)
  replace hI : h_I (z.wR a0 0 (some p0)) I0 := hI
  replace t_a0 : (z.wR a0 0 (some p0)).ty a0 = 57 := t_a0
  replace t_p0 : (z.wR a0 0 (some p0)).ty p0 = 1 := t_p0
  replace tq1 : (z.wR a0 0 (some p0)).ty q1 = 2 := tq1
  replace tq5 : (z.wR a0 0 (some p0)).ty q5 = 802 := tq5
  replace tq6 : (z.wR a0 0 (some p0)).ty q6 = 803 := tq6
  replace tq7 : (z.wR a0 0 (some p0)).ty q7 = 804 := tq7
  replace tq8 : (z.wR a0 0 (some p0)).ty q8 = 805 := tq8
  replace tq9 : (z.wR a0 0 (some p0)).ty q9 = 806 := tq9
  replace tq10 : (z.wR a0 0 (some p0)).ty q10 = 807 := tq10
  replace tq11 : (z.wR a0 0 (some p0)).ty q11 = 808 := tq11
  replace tq12 : (z.wR a0 0 (some p0)).ty q12 = 811 := tq12
  replace tq13 : (z.wR a0 0 (some p0)).ty q13 = 812 := tq13
  replace Ra0_1 : (z.wR a0 0 (some p0)).R a0 1 = some q1 := (h_up_at (by decide)).trans Ra0_1
  replace Ra0_2 : (z.wR a0 0 (some p0)).R a0 2 = some q5 := (h_up_at (by decide)).trans Ra0_2
  replace Ra0_3 : (z.wR a0 0 (some p0)).R a0 3 = some q6 := (h_up_at (by decide)).trans Ra0_3
  replace Ra0_4 : (z.wR a0 0 (some p0)).R a0 4 = some q7 := (h_up_at (by decide)).trans Ra0_4
  replace Ra0_5 : (z.wR a0 0 (some p0)).R a0 5 = some q8 := (h_up_at (by decide)).trans Ra0_5
  replace Ra0_6 : (z.wR a0 0 (some p0)).R a0 6 = some q9 := (h_up_at (by decide)).trans Ra0_6
  replace Ra0_7 : (z.wR a0 0 (some p0)).R a0 7 = some q10 := (h_up_at (by decide)).trans Ra0_7
  replace Ra0_8 : (z.wR a0 0 (some p0)).R a0 8 = some q11 := (h_up_at (by decide)).trans Ra0_8
  replace Ra0_11 : (z.wR a0 0 (some p0)).R a0 11 = some q12 := (h_up_at (by decide)).trans Ra0_11
  replace Ra0_12 : (z.wR a0 0 (some p0)).R a0 12 = some q13 := (h_up_at (by decide)).trans Ra0_12
  replace Ra0_0 : (z.wR a0 0 (some p0)).R a0 0 = some p0 := h_up_eq
  obtain ⟨z, ez⟩ : ∃ z1 : tZ, z1 = (z.wR a0 0 (some p0)) := ⟨_, rfl⟩
  rw [← ez] at g hI hR hZ hQ t_a0 t_p0 tq1 tq5 tq6 tq7 tq8 tq9 tq10 tq11 tq12 tq13 Ra0_1 Ra0_2 Ra0_3 Ra0_4 Ra0_5 Ra0_6 Ra0_7 Ra0_8 Ra0_11 Ra0_12 Ra0_0
  clear ez
  replace hF : h_F [] z I0 I0 := h_F.rf
  replace hZ := hZ.tcall hF rfl
  replace hQ := hQ.tc hF rfl
  have g := g.rt (a := a0) (t := 8) (by rw [t_a0]; decide) (by rw [t_a0]; rfl)
  replace hI := hI.rt (a := a0) (t := 8) (fun k => by
      rw [hz]
      exact h_bd0 8 k)
  replace hR := hR.rt (t := 8) t_a0 (by decide) (by decide) (fun k t2 n2 h hk => by
      have hk9 : k < 13 := hk
      rcases (show k = 0 ∨ k = 1 ∨ k = 2 ∨ k = 3 ∨ k = 4 ∨ k = 5 ∨ k = 6 ∨ k = 7 ∨ k = 8 ∨ k = 9 ∨ k = 10 ∨ k = 11 ∨ k = 12 by omega) with rfl | rfl | rfl | rfl | rfl | rfl | rfl | rfl | rfl | rfl | rfl | rfl | rfl
      · have e9 : some (1, false) = some (t2, n2) := h
        cases e9
        exact ⟨p0, Ra0_0, t_p0⟩
      · have e9 : some (2, false) = some (t2, n2) := h
        cases e9
        exact ⟨q1, Ra0_1, tq1⟩
      · have e9 : some (802, false) = some (t2, n2) := h
        cases e9
        exact ⟨q5, Ra0_2, tq5⟩
      · have e9 : some (803, false) = some (t2, n2) := h
        cases e9
        exact ⟨q6, Ra0_3, tq6⟩
      · have e9 : some (804, false) = some (t2, n2) := h
        cases e9
        exact ⟨q7, Ra0_4, tq7⟩
      · have e9 : some (805, false) = some (t2, n2) := h
        cases e9
        exact ⟨q8, Ra0_5, tq8⟩
      · have e9 : some (806, false) = some (t2, n2) := h
        cases e9
        exact ⟨q9, Ra0_6, tq9⟩
      · have e9 : some (807, false) = some (t2, n2) := h
        cases e9
        exact ⟨q10, Ra0_7, tq10⟩
      · have e9 : some (808, false) = some (t2, n2) := h
        cases e9
        exact ⟨q11, Ra0_8, tq11⟩
      · cases (show (none : Option (Nat × Bool)) = some (t2, n2) from h)
      · cases (show (none : Option (Nat × Bool)) = some (t2, n2) from h)
      · have e9 : some (811, false) = some (t2, n2) := h
        cases e9
        exact ⟨q12, Ra0_11, tq12⟩
      · have e9 : some (812, false) = some (t2, n2) := h
        cases e9
        exact ⟨q13, Ra0_12, tq13⟩)
  replace hZ := hZ.rt (a := a0) (t := 8) (Or.inl rfl)
  replace hQ := hQ.rt (a := a0) (t := 8) t_a0 (by decide) (by decide) rfl rfl
  replace t_p0 := h_rtk (t := 8) t_p0 t_a0 (by decide)
  replace tq1 := h_rtk (t := 8) tq1 t_a0 (by decide)
  replace tq5 := h_rtk (t := 8) tq5 t_a0 (by decide)
  replace tq6 := h_rtk (t := 8) tq6 t_a0 (by decide)
  replace tq7 := h_rtk (t := 8) tq7 t_a0 (by decide)
  replace tq8 := h_rtk (t := 8) tq8 t_a0 (by decide)
  replace tq9 := h_rtk (t := 8) tq9 t_a0 (by decide)
  replace tq10 := h_rtk (t := 8) tq10 t_a0 (by decide)
  replace tq11 := h_rtk (t := 8) tq11 t_a0 (by decide)
  replace tq12 := h_rtk (t := 8) tq12 t_a0 (by decide)
  replace tq13 := h_rtk (t := 8) tq13 t_a0 (by decide)
  replace t_a0 : (z.rt a0 8).ty a0 = 8 := rt_e
  replace Ra0_1 : (z.rt a0 8).R a0 1 = some q1 := Ra0_1
  replace Ra0_2 : (z.rt a0 8).R a0 2 = some q5 := Ra0_2
  replace Ra0_3 : (z.rt a0 8).R a0 3 = some q6 := Ra0_3
  replace Ra0_4 : (z.rt a0 8).R a0 4 = some q7 := Ra0_4
  replace Ra0_5 : (z.rt a0 8).R a0 5 = some q8 := Ra0_5
  replace Ra0_6 : (z.rt a0 8).R a0 6 = some q9 := Ra0_6
  replace Ra0_7 : (z.rt a0 8).R a0 7 = some q10 := Ra0_7
  replace Ra0_8 : (z.rt a0 8).R a0 8 = some q11 := Ra0_8
  replace Ra0_11 : (z.rt a0 8).R a0 11 = some q12 := Ra0_11
  replace Ra0_12 : (z.rt a0 8).R a0 12 = some q13 := Ra0_12
  replace Ra0_0 : (z.rt a0 8).R a0 0 = some p0 := Ra0_0
  obtain ⟨z, ez⟩ : ∃ z1 : tZ, z1 = (z.rt a0 8) := ⟨_, rfl⟩
  rw [← ez] at g hI hR hZ hQ t_a0 t_p0 tq1 tq5 tq6 tq7 tq8 tq9 tq10 tq11 tq12 tq13 Ra0_1 Ra0_2 Ra0_3 Ra0_4 Ra0_5 Ra0_6 Ra0_7 Ra0_8 Ra0_11 Ra0_12 Ra0_0
  clear ez
  replace hF : h_F [] z I0 I0 := h_F.rf
  have rq1 := Ra0_1
  have rq5 := Ra0_2
  have rq6 := Ra0_3
  have rq7 := Ra0_4
  have rq8 := Ra0_5
  have rq9 := Ra0_6
  have rq10 := Ra0_7
  have rq11 := Ra0_8
  have rq12 := Ra0_11
  have rq13 := Ra0_12
  have rp0 := Ra0_0
  replace hZ := hZ.tcall hF rfl
  replace hQ := hQ.tc hF rfl
  replace hS := g.2.1
  exact W.vret hx hb hr (fun t ht hW => ⟨⟨(z, I0, L4), rfl, ⟨hI, hR, hZ, hQ, t_a0, trivial⟩, h_ret g ht⟩, hS.F ht⟩) hS.2.2 dX7_init_94
set_option maxHeartbeats 4000000 in
set_option maxRecDepth 100000 in
theorem zX2_init (l : Launch) (E : tE) (X : tX) (A : Nat → Prop) (z0 : tZ) (J0 : tI) (K0 : tL) (a0 : Nat) (t_a0 : z0.ty a0 = 52) (h_z0 : J0 a0 = fun _ => 0) (hU : h_U z0) : Met l yX2_init wsX2_init ({ frames := 1, cells := 24, slots := 198, locals := 64 }) (va_Pc [.ref a0] (h_P E X A z0 J0 K0)) (va_Qv (fun (q1 : tZ × tI × tL) => h_I q1.1 q1.2.1 ∧ h_R q1.1 ∧ h_X [] [] (some a0) z0 J0 K0 q1.1 q1.2.1 q1.2.2 ∧ h_Q [] (some a0) z0 q1.1 q1.2.1 ∧ q1.1.ty a0 = 3 ∧ True) (fun (q1 : tZ × tI × tL) t => h_B E A q1.1 q1.2.1 q1.2.2 t) A) 24 198 A := by
  refine Met.ofW (cc := cX2_init) (maxL := 1) (ret := none) (by decide) rfl ?_
  intro pr_ ev_ s m args below meth cd_ s₁ B hml hv
  obtain ⟨rfl, hE, hk, hX, hA, hK, hI, hR, hB0⟩ := hv
  obtain ⟨z, ez0⟩ : ∃ z : tZ, z = z0 := ⟨_, rfl⟩
  obtain ⟨I0, eJ0⟩ : ∃ I0 : tI, I0 = J0 := ⟨_, rfl⟩
  obtain ⟨L0, eK0⟩ : ∃ L0 : tL, L0 = K0 := ⟨_, rfl⟩
  rw [← ez0, ← eJ0] at hI
  rw [← ez0] at hR t_a0
  rw [← ez0, ← eJ0, ← eK0] at hB0
  rw [← eJ0] at h_z0
  have g : h_G h_so h_fk E A z I0 L0 s s.heap s.heap [] := ⟨hK, va_S.rf, hB0⟩
  replace hF : h_F [] z I0 I0 := h_F.rf
  have hx := B.exec
  have hb := B.bytes
  have hr := B.returns
  have hts := atoms_spec (ws := wsX2_init) B.pre
  have hown : s.vm.findClass RX2 = some m.cls := findClass_of_methodNamed B.named
  have hlocks := B.notSynchronized
  have iX2 : ∀ w ∈ u_ws RX2 TX2 7, w ∈ wsX2_init := by decide +kernel
  have hl := lv_entry ([.ref a0]) (n := 1) (Nat.le_of_ble_eq_true rfl)
  rw [lg_entry_eq]
  generalize (lg_sl ([.ref a0]) ++ List.replicate (1 - (lg_sl ([.ref a0])).length) Slot.unset).toArray = ls at hl ⊢
  have hl : lv_has ls 1 [(0, .ref a0)] := hl
  have hin : meth.name = "<init>" := (name_of_methodNamed B.named B.method).1
  replace hZ : h_X [] [] (some a0) z0 J0 K0 z I0 L0 := by rw [ez0, eJ0, eK0]; exact h_X.rf
  replace hz : I0 a0 = (fun _ => 0) := h_z0
  replace hQ : h_Q [] (some a0) z0 z I0 := by rw [ez0]; exact h_Q.rf hU (fun b hb => by cases hb; exact h_z0)
  refine lv_aload_n hx hb dX2_init_0 rfl (lv_at hl 0 rfl) ?_
  refine W.objInit hx hb hown (hts (.methodLink RX2 3 objectInit) (by decide +kernel)) (hts (.instanceMethod objectInit) (by decide +kernel)) (hts (.code objectInit ⟨#[0xb1]⟩ 1 none) (List.mem_of_getElem? (i := 3) rfl)) rfl (by rw [hml]; exact hl.1) rfl dX2_init_1 (Nat.le_of_ble_eq_true rfl) (Nat.le_of_ble_eq_true rfl) ?_
  refine W.eq (g2 := F0 m 4 ls []) rfl ?_
  refine lv_aload_n hx hb dX2_init_4 rfl (lv_at hl 0 rfl) ?_
  refine lv_bipush (v := 8) hx hb dX2_init_5 (by decide) ?_
  replace hZ := hZ.tcall hF rfl
  replace hQ := hQ.tc hF rfl
  refine h_newI hx hb (hts (.arrayClass .int) (by decide +kernel)) g hA so_300 (by decide) (by decide) (by decide) (Nat.le_of_ble_eq_true rfl) (Nat.le_of_ble_eq_true rfl) dX2_init_7 (fun q1 H hq0 g => ?_)
  have n_q1 := hZ.fresh hq0 (fun h => h_neq t_a0 (by decide) hq0 (Option.some.inj h).symm)
  replace hu_q1 := hQ.1.u (q := q1) (t := 300) hq0
  replace hQ := hQ.nw (q := q1) (t := 300) hq0 (by decide)
  replace hI := hI.nw (q := q1) (t := 300) (f := fun _ => none)
  replace hR := hR.nw (q := q1) (t := 300) (f := fun _ => none) hq0 (fun k t2 n2 h => by cases (show (none : Option (Nat × Bool)) = some (t2, n2) from h))
  replace hZ := hZ.nw (q := q1) (t := 300) (f := fun _ => none) hq0 (L2 := L0) (fun _ _ => rfl)
  replace hz : h_row I0 q1 (fun _ => 0) a0 = (fun _ => 0) := (h_row_n (h_neq t_a0 (by decide) hq0)).trans hz
  replace t_a0 := h_nwk (q := q1) (t := 300) (f := fun _ => none) hq0 t_a0 (by decide)
  replace tq1 : (z.nw q1 300 (fun _ => none)).ty q1 = 300 := nw_te
  obtain ⟨z, ez⟩ : ∃ z1 : tZ, z1 = (z.nw q1 300 (fun _ => none)) := ⟨_, rfl⟩
  rw [← ez] at g hI hR hZ hQ hu_q1 t_a0 tq1 
  clear ez
  obtain ⟨I0, eI⟩ : ∃ J : tI, J = h_row I0 q1 (fun _ => 0) := ⟨_, rfl⟩
  rw [← eI] at g hI hZ hQ hz
  clear eI
  replace hF : h_F [] z I0 I0 := h_F.rf
  refine W.cs (cells' := 1) (slots' := 8) rfl rfl ?_
  replace hZ := hZ.tcall hF rfl
  replace hQ := hQ.tc hF rfl
  refine h_putR (ty := tyX2 0) (v := q1) hx hb hts iX2 tyX2 tyX2_ok nmX2 hown g t_a0 (by decide) so_52 rfl 0 (by decide) rfl (hts (.fieldLink RX2 9 "CapLeague$Draft" "ranks" "[I") (by decide +kernel)) rfl rfl hin rfl (by decide +kernel) rfl rfl dX2_init_9 (fun H locs g => ?_)
  replace hQ := hQ.wR (a := a0) (k := 0) (v := q1) t_a0 (by decide) tq1 (by decide) (fun h9 => ⟨hu_q1, n_q1⟩)
  replace hR := hR.wR (k0 := 0) (v := some q1) t_a0 (fun _ => rfl)
  replace hZ := hZ.wR (a := a0) (k := 0) (v := some q1) (Or.inl rfl)
  replace hI : h_I (z.wR a0 0 (some q1)) I0 := hI
  replace t_a0 : (z.wR a0 0 (some q1)).ty a0 = 52 := t_a0
  replace tq1 : (z.wR a0 0 (some q1)).ty q1 = 300 := tq1
  replace Ra0_0 : (z.wR a0 0 (some q1)).R a0 0 = some q1 := h_up_eq
  obtain ⟨z, ez⟩ : ∃ z1 : tZ, z1 = (z.wR a0 0 (some q1)) := ⟨_, rfl⟩
  rw [← ez] at g hI hR hZ hQ t_a0 tq1 Ra0_0
  clear ez
  replace hF : h_F [] z I0 I0 := h_F.rf
  refine lv_aload_n hx hb dX2_init_12 rfl (lv_at hl 0 rfl) ?_
  refine lv_bipush (v := 10) hx hb dX2_init_13 (by decide) ?_
  replace hZ := hZ.tcall hF rfl
  replace hQ := hQ.tc hF rfl
  refine h_newZ hx hb (hts (.arrayClass .boolean) (by decide +kernel)) g hA so_302 (by decide) (by decide) (by decide) (Nat.le_of_ble_eq_true rfl) (Nat.le_of_ble_eq_true rfl) dX2_init_15 (fun q2 H hq0 g => ?_)
  have n_q2 := hZ.fresh hq0 (fun h => h_neq t_a0 (by decide) hq0 (Option.some.inj h).symm)
  replace hu_q2 := hQ.1.u (q := q2) (t := 302) hq0
  replace hQ := hQ.nw (q := q2) (t := 302) hq0 (by decide)
  replace hI := hI.nw (q := q2) (t := 302) (f := fun _ => none)
  replace hR := hR.nw (q := q2) (t := 302) (f := fun _ => none) hq0 (fun k t2 n2 h => by cases (show (none : Option (Nat × Bool)) = some (t2, n2) from h))
  replace hZ := hZ.nw (q := q2) (t := 302) (f := fun _ => none) hq0 (L2 := L0) (fun _ _ => rfl)
  replace hz : h_row I0 q2 (fun _ => 0) a0 = (fun _ => 0) := (h_row_n (h_neq t_a0 (by decide) hq0)).trans hz
  replace Ra0_0 := h_nwr (q := q2) (t := 302) (f := fun _ => none) hq0 t_a0 (by decide) Ra0_0
  replace t_a0 := h_nwk (q := q2) (t := 302) (f := fun _ => none) hq0 t_a0 (by decide)
  replace tq1 := h_nwk (q := q2) (t := 302) (f := fun _ => none) hq0 tq1 (by decide)
  replace tq2 : (z.nw q2 302 (fun _ => none)).ty q2 = 302 := nw_te
  obtain ⟨z, ez⟩ : ∃ z1 : tZ, z1 = (z.nw q2 302 (fun _ => none)) := ⟨_, rfl⟩
  rw [← ez] at g hI hR hZ hQ hu_q2 t_a0 tq1 tq2 Ra0_0
  clear ez
  obtain ⟨I0, eI⟩ : ∃ J : tI, J = h_row I0 q2 (fun _ => 0) := ⟨_, rfl⟩
  rw [← eI] at g hI hZ hQ hz
  clear eI
  replace hF : h_F [] z I0 I0 := h_F.rf
  refine W.cs (cells' := 2) (slots' := 18) rfl rfl ?_
  replace hZ := hZ.tcall hF rfl
  replace hQ := hQ.tc hF rfl
  refine h_putR (ty := tyX2 2) (v := q2) hx hb hts iX2 tyX2 tyX2_ok nmX2 hown g t_a0 (by decide) so_52 rfl 2 (by decide) rfl (hts (.fieldLink RX2 15 "CapLeague$Draft" "drawn" "[Z") (by decide +kernel)) rfl rfl hin rfl (by decide +kernel) rfl rfl dX2_init_17 (fun H locs g => ?_)
  replace hQ := hQ.wR (a := a0) (k := 2) (v := q2) t_a0 (by decide) tq2 (by decide) (fun h9 => ⟨hu_q2, n_q2⟩)
  replace hR := hR.wR (k0 := 2) (v := some q2) t_a0 (fun _ => rfl)
  replace hZ := hZ.wR (a := a0) (k := 2) (v := some q2) (Or.inl rfl)
  replace hI : h_I (z.wR a0 2 (some q2)) I0 := hI
  replace t_a0 : (z.wR a0 2 (some q2)).ty a0 = 52 := t_a0
  replace tq1 : (z.wR a0 2 (some q2)).ty q1 = 300 := tq1
  replace tq2 : (z.wR a0 2 (some q2)).ty q2 = 302 := tq2
  replace Ra0_0 : (z.wR a0 2 (some q2)).R a0 0 = some q1 := (h_up_at (by decide)).trans Ra0_0
  replace Ra0_2 : (z.wR a0 2 (some q2)).R a0 2 = some q2 := h_up_eq
  obtain ⟨z, ez⟩ : ∃ z1 : tZ, z1 = (z.wR a0 2 (some q2)) := ⟨_, rfl⟩
  rw [← ez] at g hI hR hZ hQ t_a0 tq1 tq2 Ra0_0 Ra0_2
  clear ez
  replace hF : h_F [] z I0 I0 := h_F.rf
  refine lv_aload_n hx hb dX2_init_20 rfl (lv_at hl 0 rfl) ?_
  refine lv_bipush (v := 10) hx hb dX2_init_21 (by decide) ?_
  refine lv_bipush (v := 8) hx hb dX2_init_23 (by decide) ?_
  replace hZ := hZ.tcall hF rfl
  replace hQ := hQ.tc hF rfl
  refine h_newG (N := 10) (M := 8) hx hb hown (hts (.classLink RX2 19 "[[I") (by decide +kernel)) hE.2.2.2.2 (hts (.arrayClass .int) (by decide +kernel)) g hA so_303 so_353 (by decide) (by decide) (by decide) (by decide) (by decide) (by decide) (Nat.le_of_ble_eq_true rfl) (Nat.le_of_ble_eq_true rfl) dX2_init_25 (fun q3 H locs hq0 g => ?_)
  have n_q3 := hZ.fresh (hq0 q3 (Nat.le_refl _) (Nat.le_add_right _ _)) (fun h => h_neq t_a0 (by decide) (hq0 q3 (Nat.le_refl _) (Nat.le_add_right _ _)) (Option.some.inj h).symm)
  replace hu_q3 := hQ.1.ug (q := q3) (t := 303) (tr := 353) hq0
  replace hQ := hQ.nwg (q := q3) (t := 303) (tr := 353) (N := 10) hq0 (by decide) (by decide)
  replace hI := hI.nwg (q := q3) (t := 303) (tr := 353) (N := 10)
  replace hR := hR.nwg (q := q3) (t := 303) (tr := 353) (N := 10) hq0 (fun k t2 n2 h => by have e9 : some (353, false) = some (t2, n2) := h; cases e9; rfl) rfl (fun _ => rfl)
  replace hZ := hZ.nwg (q := q3) (t := 303) (tr := 353) (N := 10) hq0
  replace hz : h_rows I0 q3 10 a0 = (fun _ => 0) := (h_rows_n (fun h => h_neq t_a0 (by decide) (hq0 a0 h.1 h.2) rfl)).trans hz
  replace Ra0_0 := h_ngr (t := 303) (tr := 353) hq0 t_a0 (by decide) Ra0_0
  replace Ra0_2 := h_ngr (t := 303) (tr := 353) hq0 t_a0 (by decide) Ra0_2
  replace t_a0 := h_ngk (t := 303) (tr := 353) hq0 t_a0 (by decide)
  replace tq1 := h_ngk (t := 303) (tr := 353) hq0 tq1 (by decide)
  replace tq2 := h_ngk (t := 303) (tr := 353) hq0 tq2 (by decide)
  replace tq3 : (z.nwg q3 303 353 10).ty q3 = 303 := ng_te
  obtain ⟨z, ez⟩ : ∃ z1 : tZ, z1 = (z.nwg q3 303 353 10) := ⟨_, rfl⟩
  rw [← ez] at g hI hR hZ hQ hu_q3 t_a0 tq1 tq2 tq3 Ra0_0 Ra0_2
  clear ez
  obtain ⟨I0, eI⟩ : ∃ J : tI, J = h_rows I0 q3 10 := ⟨_, rfl⟩
  rw [← eI] at g hI hZ hQ hz
  clear eI
  replace hF : h_F [] z I0 I0 := h_F.rf
  refine W.cs (cells' := 13) (slots' := 108) rfl rfl ?_
  replace hZ := hZ.tcall hF rfl
  replace hQ := hQ.tc hF rfl
  refine h_putR (ty := tyX2 3) (v := q3) hx hb hts iX2 tyX2 tyX2_ok nmX2 hown g t_a0 (by decide) so_52 rfl 3 (by decide) rfl (hts (.fieldLink RX2 21 "CapLeague$Draft" "order" "[[I") (by decide +kernel)) rfl rfl hin rfl (by decide +kernel) rfl rfl dX2_init_29 (fun H locs g => ?_)
  replace hQ := hQ.wR (a := a0) (k := 3) (v := q3) t_a0 (by decide) tq3 (by decide) (fun h9 => ⟨hu_q3, n_q3⟩)
  replace hR := hR.wR (k0 := 3) (v := some q3) t_a0 (fun _ => rfl)
  replace hZ := hZ.wR (a := a0) (k := 3) (v := some q3) (Or.inl rfl)
  replace hI : h_I (z.wR a0 3 (some q3)) I0 := hI
  replace t_a0 : (z.wR a0 3 (some q3)).ty a0 = 52 := t_a0
  replace tq1 : (z.wR a0 3 (some q3)).ty q1 = 300 := tq1
  replace tq2 : (z.wR a0 3 (some q3)).ty q2 = 302 := tq2
  replace tq3 : (z.wR a0 3 (some q3)).ty q3 = 303 := tq3
  replace Ra0_0 : (z.wR a0 3 (some q3)).R a0 0 = some q1 := (h_up_at (by decide)).trans Ra0_0
  replace Ra0_2 : (z.wR a0 3 (some q3)).R a0 2 = some q2 := (h_up_at (by decide)).trans Ra0_2
  replace Ra0_3 : (z.wR a0 3 (some q3)).R a0 3 = some q3 := h_up_eq
  obtain ⟨z, ez⟩ : ∃ z1 : tZ, z1 = (z.wR a0 3 (some q3)) := ⟨_, rfl⟩
  rw [← ez] at g hI hR hZ hQ t_a0 tq1 tq2 tq3 Ra0_0 Ra0_2 Ra0_3
  clear ez
  replace hF : h_F [] z I0 I0 := h_F.rf
  refine lv_aload_n hx hb dX2_init_32 rfl (lv_at hl 0 rfl) ?_
  refine lv_bipush (v := 10) hx hb dX2_init_33 (by decide) ?_
  refine lv_bipush (v := 8) hx hb dX2_init_35 (by decide) ?_
  replace hZ := hZ.tcall hF rfl
  replace hQ := hQ.tc hF rfl
  refine h_newG (N := 10) (M := 8) hx hb hown (hts (.classLink RX2 19 "[[I") (by decide +kernel)) hE.2.2.2.2 (hts (.arrayClass .int) (by decide +kernel)) g hA so_304 so_354 (by decide) (by decide) (by decide) (by decide) (by decide) (by decide) (Nat.le_of_ble_eq_true rfl) (Nat.le_of_ble_eq_true rfl) dX2_init_37 (fun q4 H locs hq0 g => ?_)
  have n_q4 := hZ.fresh (hq0 q4 (Nat.le_refl _) (Nat.le_add_right _ _)) (fun h => h_neq t_a0 (by decide) (hq0 q4 (Nat.le_refl _) (Nat.le_add_right _ _)) (Option.some.inj h).symm)
  replace hu_q4 := hQ.1.ug (q := q4) (t := 304) (tr := 354) hq0
  replace hQ := hQ.nwg (q := q4) (t := 304) (tr := 354) (N := 10) hq0 (by decide) (by decide)
  replace hI := hI.nwg (q := q4) (t := 304) (tr := 354) (N := 10)
  replace hR := hR.nwg (q := q4) (t := 304) (tr := 354) (N := 10) hq0 (fun k t2 n2 h => by have e9 : some (354, false) = some (t2, n2) := h; cases e9; rfl) rfl (fun _ => rfl)
  replace hZ := hZ.nwg (q := q4) (t := 304) (tr := 354) (N := 10) hq0
  replace hz : h_rows I0 q4 10 a0 = (fun _ => 0) := (h_rows_n (fun h => h_neq t_a0 (by decide) (hq0 a0 h.1 h.2) rfl)).trans hz
  replace Ra0_0 := h_ngr (t := 304) (tr := 354) hq0 t_a0 (by decide) Ra0_0
  replace Ra0_2 := h_ngr (t := 304) (tr := 354) hq0 t_a0 (by decide) Ra0_2
  replace Ra0_3 := h_ngr (t := 304) (tr := 354) hq0 t_a0 (by decide) Ra0_3
  replace t_a0 := h_ngk (t := 304) (tr := 354) hq0 t_a0 (by decide)
  replace tq1 := h_ngk (t := 304) (tr := 354) hq0 tq1 (by decide)
  replace tq2 := h_ngk (t := 304) (tr := 354) hq0 tq2 (by decide)
  replace tq3 := h_ngk (t := 304) (tr := 354) hq0 tq3 (by decide)
  replace tq4 : (z.nwg q4 304 354 10).ty q4 = 304 := ng_te
  obtain ⟨z, ez⟩ : ∃ z1 : tZ, z1 = (z.nwg q4 304 354 10) := ⟨_, rfl⟩
  rw [← ez] at g hI hR hZ hQ hu_q4 t_a0 tq1 tq2 tq3 tq4 Ra0_0 Ra0_2 Ra0_3
  clear ez
  obtain ⟨I0, eI⟩ : ∃ J : tI, J = h_rows I0 q4 10 := ⟨_, rfl⟩
  rw [← eI] at g hI hZ hQ hz
  clear eI
  replace hF : h_F [] z I0 I0 := h_F.rf
  refine W.cs (cells' := 24) (slots' := 198) rfl rfl ?_
  replace hZ := hZ.tcall hF rfl
  replace hQ := hQ.tc hF rfl
  refine h_putR (ty := tyX2 4) (v := q4) hx hb hts iX2 tyX2 tyX2_ok nmX2 hown g t_a0 (by decide) so_52 rfl 4 (by decide) rfl (hts (.fieldLink RX2 24 "CapLeague$Draft" "having" "[[I") (by decide +kernel)) rfl rfl hin rfl (by decide +kernel) rfl rfl dX2_init_41 (fun H locs g => ?_)
  replace hQ := hQ.wR (a := a0) (k := 4) (v := q4) t_a0 (by decide) tq4 (by decide) (fun h9 => ⟨hu_q4, n_q4⟩)
  replace hR := hR.wR (k0 := 4) (v := some q4) t_a0 (fun _ => rfl)
  replace hZ := hZ.wR (a := a0) (k := 4) (v := some q4) (Or.inl rfl)
  replace hI : h_I (z.wR a0 4 (some q4)) I0 := hI
  replace t_a0 : (z.wR a0 4 (some q4)).ty a0 = 52 := t_a0
  replace tq1 : (z.wR a0 4 (some q4)).ty q1 = 300 := tq1
  replace tq2 : (z.wR a0 4 (some q4)).ty q2 = 302 := tq2
  replace tq3 : (z.wR a0 4 (some q4)).ty q3 = 303 := tq3
  replace tq4 : (z.wR a0 4 (some q4)).ty q4 = 304 := tq4
  replace Ra0_0 : (z.wR a0 4 (some q4)).R a0 0 = some q1 := (h_up_at (by decide)).trans Ra0_0
  replace Ra0_2 : (z.wR a0 4 (some q4)).R a0 2 = some q2 := (h_up_at (by decide)).trans Ra0_2
  replace Ra0_3 : (z.wR a0 4 (some q4)).R a0 3 = some q3 := (h_up_at (by decide)).trans Ra0_3
  replace Ra0_4 : (z.wR a0 4 (some q4)).R a0 4 = some q4 := h_up_eq
  obtain ⟨z, ez⟩ : ∃ z1 : tZ, z1 = (z.wR a0 4 (some q4)) := ⟨_, rfl⟩
  rw [← ez] at g hI hR hZ hQ t_a0 tq1 tq2 tq3 tq4 Ra0_0 Ra0_2 Ra0_3 Ra0_4
  clear ez
  replace hF : h_F [] z I0 I0 := h_F.rf
  refine lv_aload_n hx hb dX2_init_44 rfl (lv_at hl 0 rfl) ?_
  refine lv_lconst (v := 1) hx hb dX2_init_45 (by decide) ?_
  refine h_putL (ty := .long) (v := 1) hx hb hts iX2 tyX2 tyX2_ok nmX2 hown g t_a0 (by decide) so_52 rfl 6 (by decide) rfl (hts (.fieldLink RX2 27 "CapLeague$Draft" "chanceBelow" "J") (by decide +kernel)) rfl rfl (by decide +kernel) rfl rfl dX2_init_46 (fun L5 H locs eL5 g => ?_)
  replace hZ := hZ.wL eL5 (Or.inl rfl)
  replace hZ := hZ.tcall hF rfl
  replace hQ := hQ.tc hF rfl
  have g := g.rt (a := a0) (t := 3) (by rw [t_a0]; decide) (by rw [t_a0]; rfl)
  replace hI := hI.rt (a := a0) (t := 3) (fun k => by
      rw [hz]
      exact h_bd0 3 k)
  replace hR := hR.rt (t := 3) t_a0 (by decide) (by decide) (fun k t2 n2 h hk => by
      have hk9 : k < 7 := hk
      rcases (show k = 0 ∨ k = 1 ∨ k = 2 ∨ k = 3 ∨ k = 4 ∨ k = 5 ∨ k = 6 by omega) with rfl | rfl | rfl | rfl | rfl | rfl | rfl
      · have e9 : some (300, false) = some (t2, n2) := h
        cases e9
        exact ⟨q1, Ra0_0, tq1⟩
      · cases (show (none : Option (Nat × Bool)) = some (t2, n2) from h)
      · have e9 : some (302, false) = some (t2, n2) := h
        cases e9
        exact ⟨q2, Ra0_2, tq2⟩
      · have e9 : some (303, false) = some (t2, n2) := h
        cases e9
        exact ⟨q3, Ra0_3, tq3⟩
      · have e9 : some (304, false) = some (t2, n2) := h
        cases e9
        exact ⟨q4, Ra0_4, tq4⟩
      · cases (show (none : Option (Nat × Bool)) = some (t2, n2) from h)
      · cases (show (none : Option (Nat × Bool)) = some (t2, n2) from h))
  replace hZ := hZ.rt (a := a0) (t := 3) (Or.inl rfl)
  replace hQ := hQ.rt (a := a0) (t := 3) t_a0 (by decide) (by decide) rfl rfl
  replace tq1 := h_rtk (t := 3) tq1 t_a0 (by decide)
  replace tq2 := h_rtk (t := 3) tq2 t_a0 (by decide)
  replace tq3 := h_rtk (t := 3) tq3 t_a0 (by decide)
  replace tq4 := h_rtk (t := 3) tq4 t_a0 (by decide)
  replace t_a0 : (z.rt a0 3).ty a0 = 3 := rt_e
  replace Ra0_0 : (z.rt a0 3).R a0 0 = some q1 := Ra0_0
  replace Ra0_2 : (z.rt a0 3).R a0 2 = some q2 := Ra0_2
  replace Ra0_3 : (z.rt a0 3).R a0 3 = some q3 := Ra0_3
  replace Ra0_4 : (z.rt a0 3).R a0 4 = some q4 := Ra0_4
  obtain ⟨z, ez⟩ : ∃ z1 : tZ, z1 = (z.rt a0 3) := ⟨_, rfl⟩
  rw [← ez] at g hI hR hZ hQ t_a0 tq1 tq2 tq3 tq4 Ra0_0 Ra0_2 Ra0_3 Ra0_4
  clear ez
  replace hF : h_F [] z I0 I0 := h_F.rf
  have rq1 := Ra0_0
  have rq2 := Ra0_2
  have rq3 := Ra0_3
  have rq4 := Ra0_4
  replace hZ := hZ.tcall hF rfl
  replace hQ := hQ.tc hF rfl
  replace hS := g.2.1
  exact W.vret hx hb hr (fun t ht hW => ⟨⟨(z, I0, L5), rfl, ⟨hI, hR, hZ, hQ, t_a0, trivial⟩, h_ret g ht⟩, hS.F ht⟩) hS.2.2 dX2_init_49
set_option maxHeartbeats 4000000 in
set_option maxRecDepth 100000 in
theorem zX11_init (l : Launch) (E : tE) (X : tX) (A : Nat → Prop) (z0 : tZ) (J0 : tI) (K0 : tL) (a0 : Nat) (t_a0 : z0.ty a0 = 61) (h_z0 : J0 a0 = fun _ => 0) (hU : h_U z0) : Met l yX11_init wsX11_init ({ frames := 4, cells := 141, slots := 5849, locals := 256 }) (va_Pc [.ref a0] (h_P E X A z0 J0 K0)) (va_Qv (fun (q1 : tZ × tI × tL) => h_I q1.1 q1.2.1 ∧ h_R q1.1 ∧ h_X [(600, 999), (601, 999), (6, 2), (54, 3), (1100, 999)] [] (some a0) z0 J0 K0 q1.1 q1.2.1 q1.2.2 ∧ h_Q [(600, 999), (601, 999), (6, 2), (54, 3), (1100, 999), (5, 3)] (some a0) z0 q1.1 q1.2.1 ∧ q1.1.ty a0 = 12 ∧ (q1.2.1 (h_ad q1.1 a0 0) 1 = 0) ∧ (q1.2.1 (h_ad q1.1 a0 3) 2 = 0) ∧ (q1.2.1 (h_ad q1.1 a0 3) 3 = 0)) (fun (q1 : tZ × tI × tL) t => h_B E A q1.1 q1.2.1 q1.2.2 t) A) 141 5849 A := by
  refine Met.ofW (cc := cX11_init) (maxL := 1) (ret := none) (by decide) rfl ?_
  intro pr_ ev_ s m args below meth cd_ s₁ B hml hv
  obtain ⟨rfl, hE, hk, hX, hA, hK, hI, hR, hB0⟩ := hv
  obtain ⟨z, ez0⟩ : ∃ z : tZ, z = z0 := ⟨_, rfl⟩
  obtain ⟨I0, eJ0⟩ : ∃ I0 : tI, I0 = J0 := ⟨_, rfl⟩
  obtain ⟨L0, eK0⟩ : ∃ L0 : tL, L0 = K0 := ⟨_, rfl⟩
  rw [← ez0, ← eJ0] at hI
  rw [← ez0] at hR t_a0
  rw [← ez0, ← eJ0, ← eK0] at hB0
  rw [← eJ0] at h_z0
  have g : h_G h_so h_fk E A z I0 L0 s s.heap s.heap [] := ⟨hK, va_S.rf, hB0⟩
  replace hF : h_F [(600, 999), (601, 999), (6, 2), (54, 3), (1100, 999)] z I0 I0 := h_F.rf
  have hx := B.exec
  have hb := B.bytes
  have hr := B.returns
  have hts := atoms_spec (ws := wsX11_init) B.pre
  have hown : s.vm.findClass RX11 = some m.cls := findClass_of_methodNamed B.named
  have hlocks := B.notSynchronized
  have iX8 : ∀ w ∈ u_ws RX8 TX8 2, w ∈ wsX11_init := by decide +kernel
  have iX11 : ∀ w ∈ u_ws RX11 TX11 8, w ∈ wsX11_init := by decide +kernel
  have iX3 : ∀ w ∈ u_ws RX3 TX3 2, w ∈ wsX11_init := by decide +kernel
  have iX4 : ∀ w ∈ u_ws RX4 TX4 9, w ∈ wsX11_init := by decide +kernel
  have iX0 : ∀ w ∈ u_ws RX0 TX0 9, w ∈ wsX11_init := by decide +kernel
  have iX10 : ∀ w ∈ u_ws RX10 TX10 4, w ∈ wsX11_init := by decide +kernel
  have iX9 : ∀ w ∈ u_ws RX9 TX9 10, w ∈ wsX11_init := by decide +kernel
  have iX7 : ∀ w ∈ u_ws RX7 TX7 13, w ∈ wsX11_init := by decide +kernel
  have iX2 : ∀ w ∈ u_ws RX2 TX2 7, w ∈ wsX11_init := by decide +kernel
  have hl := lv_entry ([.ref a0]) (n := 1) (Nat.le_of_ble_eq_true rfl)
  rw [lg_entry_eq]
  generalize (lg_sl ([.ref a0]) ++ List.replicate (1 - (lg_sl ([.ref a0])).length) Slot.unset).toArray = ls at hl ⊢
  have hl : lv_has ls 1 [(0, .ref a0)] := hl
  have hin : meth.name = "<init>" := (name_of_methodNamed B.named B.method).1
  replace hZ : h_X [(600, 999), (601, 999), (6, 2), (54, 3), (1100, 999)] [] (some a0) z0 J0 K0 z I0 L0 := by rw [ez0, eJ0, eK0]; exact h_X.rf
  replace hz : I0 a0 = (fun _ => 0) := h_z0
  replace hQ : h_Q [(600, 999), (601, 999), (6, 2), (54, 3), (1100, 999), (5, 3)] (some a0) z0 z I0 := by rw [ez0]; exact h_Q.rf hU (fun b hb => by cases hb; exact h_z0)
  refine lv_aload_n hx hb dX11_init_0 rfl (lv_at hl 0 rfl) ?_
  refine W.objInit hx hb hown (hts (.methodLink RX11 1 objectInit) (by decide +kernel)) (hts (.instanceMethod objectInit) (by decide +kernel)) (hts (.code objectInit ⟨#[0xb1]⟩ 1 none) (List.mem_of_getElem? (i := 3) rfl)) rfl (by rw [hml]; exact hl.1) rfl dX11_init_1 (Nat.le_of_ble_eq_true rfl) (Nat.le_of_ble_eq_true rfl) ?_
  refine W.eq (g2 := F0 m 4 ls []) rfl ?_
  refine lv_aload_n hx hb dX11_init_4 rfl (lv_at hl 0 rfl) ?_
  replace hZ := hZ.tcall hF rfl
  replace hQ := hQ.tc hF rfl
  refine h_newO (C := RX8) (T := TX8) (N := 2) (ci := 8) hx hb hts iX8 tyX8 tyX8_ok hown (hts (.classLink RX11 7 RX8) (by decide +kernel)) (hts (.instantiable RX8 2) (by decide +kernel)) (hts (.initialized RX8) (by decide +kernel)) g hA rfl so_58 (fun j hj => by rcases (show j = 0 ∨ j = 1 by omega) with rfl | rfl <;> rfl) (Nat.le_of_ble_eq_true rfl) (Nat.le_of_ble_eq_true rfl) dX11_init_5 (fun q1 H hq0 g => ?_)
  have n_q1 := hZ.fresh hq0 (fun h => h_neq t_a0 (by decide) hq0 (Option.some.inj h).symm)
  replace hu_q1 := hQ.1.u (q := q1) (t := 58) hq0
  replace hQ := hQ.nw (q := q1) (t := 58) hq0 (by decide)
  replace hI := hI.nw (q := q1) (t := 58) (f := fun _ => none)
  replace hR := hR.nw (q := q1) (t := 58) (f := fun _ => none) hq0 (fun k t2 n2 h => by cases (show (none : Option (Nat × Bool)) = some (t2, n2) from h))
  replace hZ := hZ.nw (q := q1) (t := 58) (f := fun _ => none) hq0 (L2 := (h_rL L0 q1 (fun _ => 0))) (fun b hb => h_rL_n hb)
  replace hz : h_row I0 q1 (fun _ => 0) a0 = (fun _ => 0) := (h_row_n (h_neq t_a0 (by decide) hq0)).trans hz
  replace t_a0 := h_nwk (q := q1) (t := 58) (f := fun _ => none) hq0 t_a0 (by decide)
  replace tq1 : (z.nw q1 58 (fun _ => none)).ty q1 = 58 := nw_te
  have hzq1 : h_row I0 q1 (fun _ => 0) q1 = fun _ => 0 := h_row_e
  obtain ⟨z, ez⟩ : ∃ z1 : tZ, z1 = (z.nw q1 58 (fun _ => none)) := ⟨_, rfl⟩
  rw [← ez] at g hI hR hZ hQ hu_q1 t_a0 tq1 
  clear ez
  obtain ⟨I0, eI⟩ : ∃ J : tI, J = h_row I0 q1 (fun _ => 0) := ⟨_, rfl⟩
  rw [← eI] at g hI hZ hQ hz hzq1
  clear eI
  obtain ⟨L2, eL⟩ : ∃ J : tL, J = (h_rL L0 q1 (fun _ => 0)) := ⟨_, rfl⟩
  rw [← eL] at g hZ
  replace hF : h_F [(600, 999), (601, 999), (6, 2), (54, 3), (1100, 999)] z I0 I0 := h_F.rf
  refine W.cs (cells' := 1) (slots' := 2) rfl rfl ?_
  refine lv_dup hx hb dX11_init_8 rfl ?_
  replace hZ := hZ.tcall hF rfl
  replace hQ := hQ.tc hF rfl
  refine va_callv (va_runIN (As := []) (rest := [.ref q1, .ref a0]) ⟨hx, hb, hml, hown, hts⟩ (zX8_init l E X A z I0 L2 q1 tq1 hzq1 hQ.1) (⟨va_cnB 0 hts gX11_init_X8_init_n9 rfl rfl rfl (hE.link 0 rfl) (hts (.initialized RX8) (by decide +kernel)) (by decide +kernel) ⟨Nat.le_of_ble_eq_true rfl, Nat.le_of_ble_eq_true rfl⟩, rfl, hts (.instanceMethod yX8_init) (by decide +kernel)⟩) ⟨h_blind _ _ _ _ _ _ _, h_pre _ hE hk hX hA hI hR g⟩ rfl rfl hl.1 rfl (lv_room (Nat.le_of_ble_eq_true rfl)) dX11_init_9 ⟨Nat.le_of_ble_eq_true rfl, Nat.le_of_ble_eq_true rfl⟩) g.2.1 (fun q _ h => h) (fun q h => h) (fun u t H1 locs ht hvm h3 hB hz1 hk1 hS => ?_)
  obtain ⟨z, I0, L4⟩ := u
  obtain ⟨hI, hR, xh3, qh3, tq1_, h3⟩ := h3
  replace hI : h_I z I0 := hI
  replace hR : h_R z := hR
  have hB : h_B E A z I0 L4 t := hB
  have xh3 : h_X [] [] (some q1) _ _ _ z I0 L4 := xh3
  have qh3 : h_Q [] (some q1) _ z I0 := qh3
  replace hQ := hQ.call xh3 qh3 rfl rfl
  replace hu_q1 := hu_q1.call qh3.2.1 tq1 (by decide)
  replace hZ := hZ.call xh3 rfl (fun t h9 => rfl) (fun b hb => Or.inr (by cases hb; exact n_q1))
  replace hz : I0 a0 = (fun _ => 0) := (funext (fun k => xh3.I t_a0 (by decide) (h_sne t_a0 tq1 (by decide)) rfl)).trans hz
  replace t_a0 := xh3.ty t_a0 (by decide) (h_sne t_a0 tq1 (by decide))
  replace tq1 : z.ty q1 = 9 := tq1_
  replace g := h_after g hB ht hS
  generalize H1 = H at g
  clear hB hk1 hz1 ht hvm hS
  replace hF : h_F [(600, 999), (601, 999), (6, 2), (54, 3), (1100, 999)] z I0 I0 := h_F.rf
  refine W.cs (cells' := 2) (slots' := 502) rfl rfl ?_
  replace kf_q1_1 : I0 q1 1 = 0 := h3 1
  replace kf_q1_1 : I0 q1 1 = 0 := kf_q1_1
  replace hZ := hZ.tcall hF rfl
  replace hQ := hQ.tc hF rfl
  refine h_putR (ty := tyX11 0) (v := q1) hx hb hts iX11 tyX11 tyX11_ok nmX11 hown g t_a0 (by decide) so_61 rfl 0 (by decide) rfl (hts (.fieldLink RX11 10 "CapLeague" "tape" "LCapLeague$Tape;") (by decide +kernel)) rfl rfl hin rfl (by decide +kernel) rfl rfl dX11_init_12 (fun H locs g => ?_)
  replace hQ := hQ.wR (a := a0) (k := 0) (v := q1) t_a0 (by decide) tq1 (by decide) (fun h9 => ⟨hu_q1, n_q1⟩)
  replace hR := hR.wR (k0 := 0) (v := some q1) t_a0 (fun _ => rfl)
  replace hZ := hZ.wR (a := a0) (k := 0) (v := some q1) (Or.inl rfl)
  replace hI : h_I (z.wR a0 0 (some q1)) I0 := hI
  replace t_a0 : (z.wR a0 0 (some q1)).ty a0 = 61 := t_a0
  replace tq1 : (z.wR a0 0 (some q1)).ty q1 = 9 := tq1
  replace Ra0_0 : (z.wR a0 0 (some q1)).R a0 0 = some q1 := h_up_eq
  obtain ⟨z, ez⟩ : ∃ z1 : tZ, z1 = (z.wR a0 0 (some q1)) := ⟨_, rfl⟩
  rw [← ez] at g hI hR hZ hQ t_a0 tq1 Ra0_0
  clear ez
  replace hF : h_F [(600, 999), (601, 999), (6, 2), (54, 3), (1100, 999)] z I0 I0 := h_F.rf
  refine lv_aload_n hx hb dX11_init_15 rfl (lv_at hl 0 rfl) ?_
  replace kf_q1_1 : I0 q1 1 = 0 := kf_q1_1
  replace hZ := hZ.tcall hF rfl
  replace hQ := hQ.tc hF rfl
  refine h_newO (C := RX3) (T := TX3) (N := 2) (ci := 3) hx hb hts iX3 tyX3 tyX3_ok hown (hts (.classLink RX11 16 RX3) (by decide +kernel)) (hts (.instantiable RX3 2) (by decide +kernel)) (hts (.initialized RX3) (by decide +kernel)) g hA rfl so_53 (fun j hj => by rcases (show j = 0 ∨ j = 1 by omega) with rfl | rfl <;> rfl) (Nat.le_of_ble_eq_true rfl) (Nat.le_of_ble_eq_true rfl) dX11_init_16 (fun q5 H hq0 g => ?_)
  have n_q5 := hZ.fresh hq0 (fun h => h_neq t_a0 (by decide) hq0 (Option.some.inj h).symm)
  replace hu_q5 := hQ.1.u (q := q5) (t := 53) hq0
  replace hQ := hQ.nw (q := q5) (t := 53) hq0 (by decide)
  replace hI := hI.nw (q := q5) (t := 53) (f := fun _ => none)
  replace hR := hR.nw (q := q5) (t := 53) (f := fun _ => none) hq0 (fun k t2 n2 h => by cases (show (none : Option (Nat × Bool)) = some (t2, n2) from h))
  replace hZ := hZ.nw (q := q5) (t := 53) (f := fun _ => none) hq0 (L2 := (h_rL L4 q5 (fun _ => 0))) (fun b hb => h_rL_n hb)
  replace hz : h_row I0 q5 (fun _ => 0) a0 = (fun _ => 0) := (h_row_n (h_neq t_a0 (by decide) hq0)).trans hz
  replace kf_q1_1 : h_row I0 q5 (fun _ => 0) q1 1 = 0 := (congrFun (h_row_n (h_neq tq1 (by decide) hq0)) 1).trans kf_q1_1
  replace Ra0_0 := h_nwr (q := q5) (t := 53) (f := fun _ => none) hq0 t_a0 (by decide) Ra0_0
  replace t_a0 := h_nwk (q := q5) (t := 53) (f := fun _ => none) hq0 t_a0 (by decide)
  replace tq1 := h_nwk (q := q5) (t := 53) (f := fun _ => none) hq0 tq1 (by decide)
  replace tq5 : (z.nw q5 53 (fun _ => none)).ty q5 = 53 := nw_te
  have hzq5 : h_row I0 q5 (fun _ => 0) q5 = fun _ => 0 := h_row_e
  obtain ⟨z, ez⟩ : ∃ z1 : tZ, z1 = (z.nw q5 53 (fun _ => none)) := ⟨_, rfl⟩
  rw [← ez] at g hI hR hZ hQ hu_q5 t_a0 tq1 tq5 Ra0_0
  clear ez
  obtain ⟨I0, eI⟩ : ∃ J : tI, J = h_row I0 q5 (fun _ => 0) := ⟨_, rfl⟩
  rw [← eI] at g hI hZ hQ hz hzq5 kf_q1_1
  clear eI
  obtain ⟨L6, eL⟩ : ∃ J : tL, J = (h_rL L4 q5 (fun _ => 0)) := ⟨_, rfl⟩
  rw [← eL] at g hZ
  replace hF : h_F [(600, 999), (601, 999), (6, 2), (54, 3), (1100, 999)] z I0 I0 := h_F.rf
  refine W.cs (cells' := 3) (slots' := 504) rfl rfl ?_
  refine lv_dup hx hb dX11_init_19 rfl ?_
  replace kf_q1_1 : I0 q1 1 = 0 := kf_q1_1
  replace hZ := hZ.tcall hF rfl
  replace hQ := hQ.tc hF rfl
  refine va_callv (va_runIN (As := []) (rest := [.ref q5, .ref a0]) ⟨hx, hb, hml, hown, hts⟩ (zX3_init l E X A z I0 L6 q5 tq5 hzq5 hQ.1) (⟨va_cnB 0 hts gX11_init_X3_init_n18 rfl rfl rfl (hE.link 1 rfl) (hts (.initialized RX3) (by decide +kernel)) (by decide +kernel) ⟨Nat.le_of_ble_eq_true rfl, Nat.le_of_ble_eq_true rfl⟩, rfl, hts (.instanceMethod yX3_init) (by decide +kernel)⟩) ⟨h_blind _ _ _ _ _ _ _, h_pre _ hE hk hX hA hI hR g⟩ rfl rfl hl.1 rfl (lv_room (Nat.le_of_ble_eq_true rfl)) dX11_init_20 ⟨Nat.le_of_ble_eq_true rfl, Nat.le_of_ble_eq_true rfl⟩) g.2.1 (fun q _ h => h) (fun q h => h) (fun u t H1 locs ht hvm h7 hB hz1 hk1 hS => ?_)
  obtain ⟨z, I0, L8⟩ := u
  obtain ⟨hI, hR, xh7, qh7, tq5_, h7⟩ := h7
  replace hI : h_I z I0 := hI
  replace hR : h_R z := hR
  have hB : h_B E A z I0 L8 t := hB
  have xh7 : h_X [(600, 999), (601, 999), (6, 2)] [] (some q5) _ _ _ z I0 L8 := xh7
  have qh7 : h_Q [(600, 999), (601, 999), (6, 2)] (some q5) _ z I0 := qh7
  replace hQ := hQ.call xh7 qh7 rfl rfl
  replace hu_q5 := hu_q5.call qh7.2.1 tq5 (by decide)
  replace hZ := hZ.call xh7 rfl (fun t h9 => rfl) (fun b hb => Or.inr (by cases hb; exact n_q5))
  replace hz : I0 a0 = (fun _ => 0) := (funext (fun k => xh7.I t_a0 (by decide) (h_sne t_a0 tq5 (by decide)) rfl)).trans hz
  replace kf_q1_1 : I0 q1 1 = 0 := (xh7.I tq1 (by decide) (h_sne tq1 tq5 (by decide)) rfl).trans kf_q1_1
  replace Ra0_0 := xh7.R t_a0 (by decide) (h_sne t_a0 tq5 (by decide)) rfl Ra0_0
  replace t_a0 := xh7.ty t_a0 (by decide) (h_sne t_a0 tq5 (by decide))
  replace tq1 := xh7.ty tq1 (by decide) (h_sne tq1 tq5 (by decide))
  replace tq5 : z.ty q5 = 4 := tq5_
  replace g := h_after g hB ht hS
  generalize H1 = H at g
  clear hB hk1 hz1 ht hvm hS
  replace hF : h_F [(600, 999), (601, 999), (6, 2), (54, 3), (1100, 999)] z I0 I0 := h_F.rf
  refine W.cs (cells' := 7) (slots' := 531) rfl rfl ?_
  replace kf_q1_1 : I0 q1 1 = 0 := kf_q1_1
  replace hZ := hZ.tcall hF rfl
  replace hQ := hQ.tc hF rfl
  refine h_putR (ty := tyX11 1) (v := q5) hx hb hts iX11 tyX11 tyX11_ok nmX11 hown g t_a0 (by decide) so_61 rfl 1 (by decide) rfl (hts (.fieldLink RX11 19 "CapLeague" "lawBook" "LCapLeague$LawBook;") (by decide +kernel)) rfl rfl hin rfl (by decide +kernel) rfl rfl dX11_init_23 (fun H locs g => ?_)
  replace hQ := hQ.wR (a := a0) (k := 1) (v := q5) t_a0 (by decide) tq5 (by decide) (fun h9 => ⟨hu_q5, n_q5⟩)
  replace hR := hR.wR (k0 := 1) (v := some q5) t_a0 (fun _ => rfl)
  replace hZ := hZ.wR (a := a0) (k := 1) (v := some q5) (Or.inl rfl)
  replace hI : h_I (z.wR a0 1 (some q5)) I0 := hI
  replace t_a0 : (z.wR a0 1 (some q5)).ty a0 = 61 := t_a0
  replace tq1 : (z.wR a0 1 (some q5)).ty q1 = 9 := tq1
  replace tq5 : (z.wR a0 1 (some q5)).ty q5 = 4 := tq5
  replace Ra0_0 : (z.wR a0 1 (some q5)).R a0 0 = some q1 := (h_up_at (by decide)).trans Ra0_0
  replace Ra0_1 : (z.wR a0 1 (some q5)).R a0 1 = some q5 := h_up_eq
  obtain ⟨z, ez⟩ : ∃ z1 : tZ, z1 = (z.wR a0 1 (some q5)) := ⟨_, rfl⟩
  rw [← ez] at g hI hR hZ hQ t_a0 tq1 tq5 Ra0_0 Ra0_1
  clear ez
  replace hF : h_F [(600, 999), (601, 999), (6, 2), (54, 3), (1100, 999)] z I0 I0 := h_F.rf
  refine lv_aload_n hx hb dX11_init_26 rfl (lv_at hl 0 rfl) ?_
  replace kf_q1_1 : I0 q1 1 = 0 := kf_q1_1
  replace hZ := hZ.tcall hF rfl
  replace hQ := hQ.tc hF rfl
  refine h_newO (C := RX4) (T := TX4) (N := 9) (ci := 4) hx hb hts iX4 tyX4 tyX4_ok hown (hts (.classLink RX11 23 RX4) (by decide +kernel)) (hts (.instantiable RX4 9) (by decide +kernel)) (hts (.initialized RX4) (by decide +kernel)) g hA rfl so_54 (fun j hj => by rcases (show j = 0 ∨ j = 1 ∨ j = 2 ∨ j = 3 ∨ j = 4 ∨ j = 5 ∨ j = 6 ∨ j = 7 ∨ j = 8 by omega) with rfl | rfl | rfl | rfl | rfl | rfl | rfl | rfl | rfl <;> rfl) (Nat.le_of_ble_eq_true rfl) (Nat.le_of_ble_eq_true rfl) dX11_init_27 (fun q9 H hq0 g => ?_)
  have n_q9 := hZ.fresh hq0 (fun h => h_neq t_a0 (by decide) hq0 (Option.some.inj h).symm)
  replace hu_q9 := hQ.1.u (q := q9) (t := 54) hq0
  replace hQ := hQ.nw (q := q9) (t := 54) hq0 (by decide)
  replace hI := hI.nw (q := q9) (t := 54) (f := fun _ => none)
  replace hR := hR.nw (q := q9) (t := 54) (f := fun _ => none) hq0 (fun k t2 n2 h => by cases (show (none : Option (Nat × Bool)) = some (t2, n2) from h))
  replace hZ := hZ.nw (q := q9) (t := 54) (f := fun _ => none) hq0 (L2 := (h_rL L8 q9 (fun _ => 0))) (fun b hb => h_rL_n hb)
  replace hz : h_row I0 q9 (fun _ => 0) a0 = (fun _ => 0) := (h_row_n (h_neq t_a0 (by decide) hq0)).trans hz
  replace kf_q1_1 : h_row I0 q9 (fun _ => 0) q1 1 = 0 := (congrFun (h_row_n (h_neq tq1 (by decide) hq0)) 1).trans kf_q1_1
  replace Ra0_0 := h_nwr (q := q9) (t := 54) (f := fun _ => none) hq0 t_a0 (by decide) Ra0_0
  replace Ra0_1 := h_nwr (q := q9) (t := 54) (f := fun _ => none) hq0 t_a0 (by decide) Ra0_1
  replace t_a0 := h_nwk (q := q9) (t := 54) (f := fun _ => none) hq0 t_a0 (by decide)
  replace tq1 := h_nwk (q := q9) (t := 54) (f := fun _ => none) hq0 tq1 (by decide)
  replace tq5 := h_nwk (q := q9) (t := 54) (f := fun _ => none) hq0 tq5 (by decide)
  replace tq9 : (z.nw q9 54 (fun _ => none)).ty q9 = 54 := nw_te
  have hzq9 : h_row I0 q9 (fun _ => 0) q9 = fun _ => 0 := h_row_e
  obtain ⟨z, ez⟩ : ∃ z1 : tZ, z1 = (z.nw q9 54 (fun _ => none)) := ⟨_, rfl⟩
  rw [← ez] at g hI hR hZ hQ hu_q9 t_a0 tq1 tq5 tq9 Ra0_0 Ra0_1
  clear ez
  obtain ⟨I0, eI⟩ : ∃ J : tI, J = h_row I0 q9 (fun _ => 0) := ⟨_, rfl⟩
  rw [← eI] at g hI hZ hQ hz hzq9 kf_q1_1
  clear eI
  obtain ⟨L10, eL⟩ : ∃ J : tL, J = (h_rL L8 q9 (fun _ => 0)) := ⟨_, rfl⟩
  rw [← eL] at g hZ
  replace hF : h_F [(600, 999), (601, 999), (6, 2), (54, 3), (1100, 999)] z I0 I0 := h_F.rf
  refine W.cs (cells' := 8) (slots' := 540) rfl rfl ?_
  refine lv_dup hx hb dX11_init_30 rfl ?_
  refine lv_aload_n hx hb dX11_init_31 rfl (lv_at hl 0 rfl) ?_
  refine h_get (v := .ref q1) hx hb hts iX11 hown g t_a0 (by decide) so_61 rfl 0 (by decide) (hts (.fieldLink RX11 10 "CapLeague" "tape" "LCapLeague$Tape;") (by decide +kernel)) rfl dX11_init_32 (by show va_rf (z.R a0 0) = _; rw [Ra0_0]; rfl) ?_
  replace kf_q1_1 : I0 q1 1 = 0 := kf_q1_1
  replace hZ := hZ.tcall hF rfl
  replace hQ := hQ.tc hF rfl
  refine va_callv (va_runI (As := [.ref q1]) (rest := [.ref q9, .ref a0]) ⟨hx, hb, hml, hown, hts⟩ (zX4_init l E X A z I0 L10 q9 tq9 q1 tq1 hzq9 hQ.1) (cwI 1 hts gX11_init_X4_init rfl rfl rfl (hts (.initialized RX4) (by decide +kernel)) (hts (.methodLink RX11 25 yX4_init) (by decide +kernel)) (hts (.instanceMethod yX4_init) (by decide +kernel)) rfl (by decide +kernel) ⟨Nat.le_of_ble_eq_true rfl, Nat.le_of_ble_eq_true rfl⟩) ⟨h_blind _ _ _ _ _ _ _, h_pre _ hE hk hX hA hI hR g⟩ rfl rfl hl.1 rfl (lv_room (Nat.le_of_ble_eq_true rfl)) dX11_init_35 ⟨Nat.le_of_ble_eq_true rfl, Nat.le_of_ble_eq_true rfl⟩) g.2.1 (fun q _ h => h) (fun q h => h) (fun u t H1 locs ht hvm h11 hB hz1 hk1 hS => ?_)
  obtain ⟨z, I0, L12⟩ := u
  obtain ⟨hI, hR, xh11, qh11, tq9_, h11⟩ := h11
  replace hI : h_I z I0 := hI
  replace hR : h_R z := hR
  have hB : h_B E A z I0 L12 t := hB
  have xh11 : h_X [(600, 999), (601, 999), (6, 2), (54, 3)] [] (some q9) _ _ _ z I0 L12 := xh11
  have qh11 : h_Q [(600, 999), (601, 999), (6, 2), (54, 3), (5, 3)] (some q9) _ z I0 := qh11
  replace hQ := hQ.call xh11 qh11 rfl rfl
  replace hu_q9 := hu_q9.call qh11.2.1 tq9 (by decide)
  replace hZ := hZ.call xh11 rfl (fun t h9 => rfl) (fun b hb => Or.inr (by cases hb; exact n_q9))
  replace hz : I0 a0 = (fun _ => 0) := (funext (fun k => xh11.I t_a0 (by decide) (h_sne t_a0 tq9 (by decide)) rfl)).trans hz
  replace kf_q1_1 : I0 q1 1 = 0 := (xh11.I tq1 (by decide) (h_sne tq1 tq9 (by decide)) rfl).trans kf_q1_1
  replace Ra0_0 := xh11.R t_a0 (by decide) (h_sne t_a0 tq9 (by decide)) rfl Ra0_0
  replace Ra0_1 := xh11.R t_a0 (by decide) (h_sne t_a0 tq9 (by decide)) rfl Ra0_1
  replace t_a0 := xh11.ty t_a0 (by decide) (h_sne t_a0 tq9 (by decide))
  replace tq1 := xh11.ty tq1 (by decide) (h_sne tq1 tq9 (by decide))
  replace tq5 := xh11.ty tq5 (by decide) (h_sne tq5 tq9 (by decide))
  replace tq9 : z.ty q9 = 5 := tq9_
  replace g := h_after g hB ht hS
  generalize H1 = H at g
  clear hB hk1 hz1 ht hvm hS
  replace hF : h_F [(600, 999), (601, 999), (6, 2), (54, 3), (1100, 999)] z I0 I0 := h_F.rf
  refine W.cs (cells' := 11) (slots' := 557) rfl rfl ?_
  replace kf_q1_1 : I0 q1 1 = 0 := kf_q1_1
  replace hZ := hZ.tcall hF rfl
  replace hQ := hQ.tc hF rfl
  refine h_putR (ty := tyX11 2) (v := q9) hx hb hts iX11 tyX11 tyX11_ok nmX11 hown g t_a0 (by decide) so_61 rfl 2 (by decide) rfl (hts (.fieldLink RX11 28 "CapLeague" "reader" "LCapLeague$LawReader;") (by decide +kernel)) rfl rfl hin rfl (by decide +kernel) rfl rfl dX11_init_38 (fun H locs g => ?_)
  replace hQ := hQ.wR (a := a0) (k := 2) (v := q9) t_a0 (by decide) tq9 (by decide) (fun h9 => ⟨hu_q9, n_q9⟩)
  replace hR := hR.wR (k0 := 2) (v := some q9) t_a0 (fun _ => rfl)
  replace hZ := hZ.wR (a := a0) (k := 2) (v := some q9) (Or.inl rfl)
  replace hI : h_I (z.wR a0 2 (some q9)) I0 := hI
  replace t_a0 : (z.wR a0 2 (some q9)).ty a0 = 61 := t_a0
  replace tq1 : (z.wR a0 2 (some q9)).ty q1 = 9 := tq1
  replace tq5 : (z.wR a0 2 (some q9)).ty q5 = 4 := tq5
  replace tq9 : (z.wR a0 2 (some q9)).ty q9 = 5 := tq9
  replace Ra0_0 : (z.wR a0 2 (some q9)).R a0 0 = some q1 := (h_up_at (by decide)).trans Ra0_0
  replace Ra0_1 : (z.wR a0 2 (some q9)).R a0 1 = some q5 := (h_up_at (by decide)).trans Ra0_1
  replace Ra0_2 : (z.wR a0 2 (some q9)).R a0 2 = some q9 := h_up_eq
  obtain ⟨z, ez⟩ : ∃ z1 : tZ, z1 = (z.wR a0 2 (some q9)) := ⟨_, rfl⟩
  rw [← ez] at g hI hR hZ hQ t_a0 tq1 tq5 tq9 Ra0_0 Ra0_1 Ra0_2
  clear ez
  replace hF : h_F [(600, 999), (601, 999), (6, 2), (54, 3), (1100, 999)] z I0 I0 := h_F.rf
  refine lv_aload_n hx hb dX11_init_41 rfl (lv_at hl 0 rfl) ?_
  replace kf_q1_1 : I0 q1 1 = 0 := kf_q1_1
  replace hZ := hZ.tcall hF rfl
  replace hQ := hQ.tc hF rfl
  refine h_newO (C := RX0) (T := TX0) (N := 9) (ci := 0) hx hb hts iX0 tyX0 tyX0_ok hown (hts (.classLink RX11 32 RX0) (by decide +kernel)) (hts (.instantiable RX0 9) (by decide +kernel)) (hts (.initialized RX0) (by decide +kernel)) g hA rfl so_50 (fun j hj => by rcases (show j = 0 ∨ j = 1 ∨ j = 2 ∨ j = 3 ∨ j = 4 ∨ j = 5 ∨ j = 6 ∨ j = 7 ∨ j = 8 by omega) with rfl | rfl | rfl | rfl | rfl | rfl | rfl | rfl | rfl <;> rfl) (Nat.le_of_ble_eq_true rfl) (Nat.le_of_ble_eq_true rfl) dX11_init_42 (fun q13 H hq0 g => ?_)
  have n_q13 := hZ.fresh hq0 (fun h => h_neq t_a0 (by decide) hq0 (Option.some.inj h).symm)
  replace hu_q13 := hQ.1.u (q := q13) (t := 50) hq0
  replace hQ := hQ.nw (q := q13) (t := 50) hq0 (by decide)
  replace hI := hI.nw (q := q13) (t := 50) (f := fun _ => none)
  replace hR := hR.nw (q := q13) (t := 50) (f := fun _ => none) hq0 (fun k t2 n2 h => by cases (show (none : Option (Nat × Bool)) = some (t2, n2) from h))
  replace hZ := hZ.nw (q := q13) (t := 50) (f := fun _ => none) hq0 (L2 := (h_rL L12 q13 (fun _ => 0))) (fun b hb => h_rL_n hb)
  replace hz : h_row I0 q13 (fun _ => 0) a0 = (fun _ => 0) := (h_row_n (h_neq t_a0 (by decide) hq0)).trans hz
  replace kf_q1_1 : h_row I0 q13 (fun _ => 0) q1 1 = 0 := (congrFun (h_row_n (h_neq tq1 (by decide) hq0)) 1).trans kf_q1_1
  replace Ra0_0 := h_nwr (q := q13) (t := 50) (f := fun _ => none) hq0 t_a0 (by decide) Ra0_0
  replace Ra0_1 := h_nwr (q := q13) (t := 50) (f := fun _ => none) hq0 t_a0 (by decide) Ra0_1
  replace Ra0_2 := h_nwr (q := q13) (t := 50) (f := fun _ => none) hq0 t_a0 (by decide) Ra0_2
  replace t_a0 := h_nwk (q := q13) (t := 50) (f := fun _ => none) hq0 t_a0 (by decide)
  replace tq1 := h_nwk (q := q13) (t := 50) (f := fun _ => none) hq0 tq1 (by decide)
  replace tq5 := h_nwk (q := q13) (t := 50) (f := fun _ => none) hq0 tq5 (by decide)
  replace tq9 := h_nwk (q := q13) (t := 50) (f := fun _ => none) hq0 tq9 (by decide)
  replace tq13 : (z.nw q13 50 (fun _ => none)).ty q13 = 50 := nw_te
  have hzq13 : h_row I0 q13 (fun _ => 0) q13 = fun _ => 0 := h_row_e
  obtain ⟨z, ez⟩ : ∃ z1 : tZ, z1 = (z.nw q13 50 (fun _ => none)) := ⟨_, rfl⟩
  rw [← ez] at g hI hR hZ hQ hu_q13 t_a0 tq1 tq5 tq9 tq13 Ra0_0 Ra0_1 Ra0_2
  clear ez
  obtain ⟨I0, eI⟩ : ∃ J : tI, J = h_row I0 q13 (fun _ => 0) := ⟨_, rfl⟩
  rw [← eI] at g hI hZ hQ hz hzq13 kf_q1_1
  clear eI
  obtain ⟨L14, eL⟩ : ∃ J : tL, J = (h_rL L12 q13 (fun _ => 0)) := ⟨_, rfl⟩
  rw [← eL] at g hZ
  replace hF : h_F [(600, 999), (601, 999), (6, 2), (54, 3), (1100, 999)] z I0 I0 := h_F.rf
  refine W.cs (cells' := 12) (slots' := 566) rfl rfl ?_
  refine lv_dup hx hb dX11_init_45 rfl ?_
  refine lv_aload_n hx hb dX11_init_46 rfl (lv_at hl 0 rfl) ?_
  refine h_get (v := .ref q5) hx hb hts iX11 hown g t_a0 (by decide) so_61 rfl 1 (by decide) (hts (.fieldLink RX11 19 "CapLeague" "lawBook" "LCapLeague$LawBook;") (by decide +kernel)) rfl dX11_init_47 (by show va_rf (z.R a0 1) = _; rw [Ra0_1]; rfl) ?_
  replace kf_q1_1 : I0 q1 1 = 0 := kf_q1_1
  replace hZ := hZ.tcall hF rfl
  replace hQ := hQ.tc hF rfl
  refine va_callv (va_runI (As := [.ref q5]) (rest := [.ref q13, .ref a0]) ⟨hx, hb, hml, hown, hts⟩ (zX0_init l E X A z I0 L14 q13 tq13 q5 tq5 hzq13 hQ.1) (cwI 1 hts gX11_init_X0_init rfl rfl rfl (hts (.initialized RX0) (by decide +kernel)) (hts (.methodLink RX11 34 yX0_init) (by decide +kernel)) (hts (.instanceMethod yX0_init) (by decide +kernel)) rfl (by decide +kernel) ⟨Nat.le_of_ble_eq_true rfl, Nat.le_of_ble_eq_true rfl⟩) ⟨h_blind _ _ _ _ _ _ _, h_pre _ hE hk hX hA hI hR g⟩ rfl rfl hl.1 rfl (lv_room (Nat.le_of_ble_eq_true rfl)) dX11_init_50 ⟨Nat.le_of_ble_eq_true rfl, Nat.le_of_ble_eq_true rfl⟩) g.2.1 (fun q _ h => h) (fun q h => h) (fun u t H1 locs ht hvm h15 hB hz1 hk1 hS => ?_)
  obtain ⟨z, I0, L16⟩ := u
  obtain ⟨hI, hR, xh15, qh15, tq13_, h15⟩ := h15
  replace hI : h_I z I0 := hI
  replace hR : h_R z := hR
  have hB : h_B E A z I0 L16 t := hB
  have xh15 : h_X [] [] (some q13) _ _ _ z I0 L16 := xh15
  have qh15 : h_Q [] (some q13) _ z I0 := qh15
  replace hQ := hQ.call xh15 qh15 rfl rfl
  replace hu_q13 := hu_q13.call qh15.2.1 tq13 (by decide)
  replace hZ := hZ.call xh15 rfl (fun t h9 => rfl) (fun b hb => Or.inr (by cases hb; exact n_q13))
  replace hz : I0 a0 = (fun _ => 0) := (funext (fun k => xh15.I t_a0 (by decide) (h_sne t_a0 tq13 (by decide)) rfl)).trans hz
  replace kf_q1_1 : I0 q1 1 = 0 := (xh15.I tq1 (by decide) (h_sne tq1 tq13 (by decide)) rfl).trans kf_q1_1
  replace Ra0_0 := xh15.R t_a0 (by decide) (h_sne t_a0 tq13 (by decide)) rfl Ra0_0
  replace Ra0_1 := xh15.R t_a0 (by decide) (h_sne t_a0 tq13 (by decide)) rfl Ra0_1
  replace Ra0_2 := xh15.R t_a0 (by decide) (h_sne t_a0 tq13 (by decide)) rfl Ra0_2
  replace t_a0 := xh15.ty t_a0 (by decide) (h_sne t_a0 tq13 (by decide))
  replace tq1 := xh15.ty tq1 (by decide) (h_sne tq1 tq13 (by decide))
  replace tq5 := xh15.ty tq5 (by decide) (h_sne tq5 tq13 (by decide))
  replace tq9 := xh15.ty tq9 (by decide) (h_sne tq9 tq13 (by decide))
  replace tq13 : z.ty q13 = 1 := tq13_
  replace g := h_after g hB ht hS
  generalize H1 = H at g
  clear hB hk1 hz1 ht hvm hS
  replace hF : h_F [(600, 999), (601, 999), (6, 2), (54, 3), (1100, 999)] z I0 I0 := h_F.rf
  refine W.cs (cells' := 25) (slots' := 738) rfl rfl ?_
  replace kf_q13_2 : I0 q13 2 = 0 := h15 2
  replace kf_q13_3 : I0 q13 3 = 0 := h15 3
  replace kf_q1_1 : I0 q1 1 = 0 := kf_q1_1
  replace kf_q13_2 : I0 q13 2 = 0 := kf_q13_2
  replace kf_q13_3 : I0 q13 3 = 0 := kf_q13_3
  replace hZ := hZ.tcall hF rfl
  replace hQ := hQ.tc hF rfl
  refine h_putR (ty := tyX11 3) (v := q13) hx hb hts iX11 tyX11 tyX11_ok nmX11 hown g t_a0 (by decide) so_61 rfl 3 (by decide) rfl (hts (.fieldLink RX11 37 "CapLeague" "books" "LCapLeague$Books;") (by decide +kernel)) rfl rfl hin rfl (by decide +kernel) rfl rfl dX11_init_53 (fun H locs g => ?_)
  replace hQ := hQ.wR (a := a0) (k := 3) (v := q13) t_a0 (by decide) tq13 (by decide) (fun h9 => ⟨hu_q13, n_q13⟩)
  replace hR := hR.wR (k0 := 3) (v := some q13) t_a0 (fun _ => rfl)
  replace hZ := hZ.wR (a := a0) (k := 3) (v := some q13) (Or.inl rfl)
  replace hI : h_I (z.wR a0 3 (some q13)) I0 := hI
  replace t_a0 : (z.wR a0 3 (some q13)).ty a0 = 61 := t_a0
  replace tq1 : (z.wR a0 3 (some q13)).ty q1 = 9 := tq1
  replace tq5 : (z.wR a0 3 (some q13)).ty q5 = 4 := tq5
  replace tq9 : (z.wR a0 3 (some q13)).ty q9 = 5 := tq9
  replace tq13 : (z.wR a0 3 (some q13)).ty q13 = 1 := tq13
  replace Ra0_0 : (z.wR a0 3 (some q13)).R a0 0 = some q1 := (h_up_at (by decide)).trans Ra0_0
  replace Ra0_1 : (z.wR a0 3 (some q13)).R a0 1 = some q5 := (h_up_at (by decide)).trans Ra0_1
  replace Ra0_2 : (z.wR a0 3 (some q13)).R a0 2 = some q9 := (h_up_at (by decide)).trans Ra0_2
  replace Ra0_3 : (z.wR a0 3 (some q13)).R a0 3 = some q13 := h_up_eq
  obtain ⟨z, ez⟩ : ∃ z1 : tZ, z1 = (z.wR a0 3 (some q13)) := ⟨_, rfl⟩
  rw [← ez] at g hI hR hZ hQ t_a0 tq1 tq5 tq9 tq13 Ra0_0 Ra0_1 Ra0_2 Ra0_3
  clear ez
  replace hF : h_F [(600, 999), (601, 999), (6, 2), (54, 3), (1100, 999)] z I0 I0 := h_F.rf
  refine lv_aload_n hx hb dX11_init_56 rfl (lv_at hl 0 rfl) ?_
  replace kf_q1_1 : I0 q1 1 = 0 := kf_q1_1
  replace kf_q13_2 : I0 q13 2 = 0 := kf_q13_2
  replace kf_q13_3 : I0 q13 3 = 0 := kf_q13_3
  replace hZ := hZ.tcall hF rfl
  replace hQ := hQ.tc hF rfl
  refine h_newO (C := RX10) (T := TX10) (N := 4) (ci := 10) hx hb hts iX10 tyX10 tyX10_ok hown (hts (.classLink RX11 41 RX10) (by decide +kernel)) (hts (.instantiable RX10 4) (by decide +kernel)) (hts (.initialized RX10) (by decide +kernel)) g hA rfl so_60 (fun j hj => by rcases (show j = 0 ∨ j = 1 ∨ j = 2 ∨ j = 3 by omega) with rfl | rfl | rfl | rfl <;> rfl) (Nat.le_of_ble_eq_true rfl) (Nat.le_of_ble_eq_true rfl) dX11_init_57 (fun q17 H hq0 g => ?_)
  have n_q17 := hZ.fresh hq0 (fun h => h_neq t_a0 (by decide) hq0 (Option.some.inj h).symm)
  replace hu_q17 := hQ.1.u (q := q17) (t := 60) hq0
  replace hQ := hQ.nw (q := q17) (t := 60) hq0 (by decide)
  replace hI := hI.nw (q := q17) (t := 60) (f := fun _ => none)
  replace hR := hR.nw (q := q17) (t := 60) (f := fun _ => none) hq0 (fun k t2 n2 h => by cases (show (none : Option (Nat × Bool)) = some (t2, n2) from h))
  replace hZ := hZ.nw (q := q17) (t := 60) (f := fun _ => none) hq0 (L2 := (h_rL L16 q17 (fun _ => 0))) (fun b hb => h_rL_n hb)
  replace hz : h_row I0 q17 (fun _ => 0) a0 = (fun _ => 0) := (h_row_n (h_neq t_a0 (by decide) hq0)).trans hz
  replace kf_q1_1 : h_row I0 q17 (fun _ => 0) q1 1 = 0 := (congrFun (h_row_n (h_neq tq1 (by decide) hq0)) 1).trans kf_q1_1
  replace kf_q13_2 : h_row I0 q17 (fun _ => 0) q13 2 = 0 := (congrFun (h_row_n (h_neq tq13 (by decide) hq0)) 2).trans kf_q13_2
  replace kf_q13_3 : h_row I0 q17 (fun _ => 0) q13 3 = 0 := (congrFun (h_row_n (h_neq tq13 (by decide) hq0)) 3).trans kf_q13_3
  replace Ra0_0 := h_nwr (q := q17) (t := 60) (f := fun _ => none) hq0 t_a0 (by decide) Ra0_0
  replace Ra0_1 := h_nwr (q := q17) (t := 60) (f := fun _ => none) hq0 t_a0 (by decide) Ra0_1
  replace Ra0_2 := h_nwr (q := q17) (t := 60) (f := fun _ => none) hq0 t_a0 (by decide) Ra0_2
  replace Ra0_3 := h_nwr (q := q17) (t := 60) (f := fun _ => none) hq0 t_a0 (by decide) Ra0_3
  replace t_a0 := h_nwk (q := q17) (t := 60) (f := fun _ => none) hq0 t_a0 (by decide)
  replace tq1 := h_nwk (q := q17) (t := 60) (f := fun _ => none) hq0 tq1 (by decide)
  replace tq5 := h_nwk (q := q17) (t := 60) (f := fun _ => none) hq0 tq5 (by decide)
  replace tq9 := h_nwk (q := q17) (t := 60) (f := fun _ => none) hq0 tq9 (by decide)
  replace tq13 := h_nwk (q := q17) (t := 60) (f := fun _ => none) hq0 tq13 (by decide)
  replace tq17 : (z.nw q17 60 (fun _ => none)).ty q17 = 60 := nw_te
  have hzq17 : h_row I0 q17 (fun _ => 0) q17 = fun _ => 0 := h_row_e
  obtain ⟨z, ez⟩ : ∃ z1 : tZ, z1 = (z.nw q17 60 (fun _ => none)) := ⟨_, rfl⟩
  rw [← ez] at g hI hR hZ hQ hu_q17 t_a0 tq1 tq5 tq9 tq13 tq17 Ra0_0 Ra0_1 Ra0_2 Ra0_3
  clear ez
  obtain ⟨I0, eI⟩ : ∃ J : tI, J = h_row I0 q17 (fun _ => 0) := ⟨_, rfl⟩
  rw [← eI] at g hI hZ hQ hz hzq17 kf_q1_1 kf_q13_2 kf_q13_3
  clear eI
  obtain ⟨L18, eL⟩ : ∃ J : tL, J = (h_rL L16 q17 (fun _ => 0)) := ⟨_, rfl⟩
  rw [← eL] at g hZ
  replace hF : h_F [(600, 999), (601, 999), (6, 2), (54, 3), (1100, 999)] z I0 I0 := h_F.rf
  refine W.cs (cells' := 26) (slots' := 742) rfl rfl ?_
  refine lv_dup hx hb dX11_init_60 rfl ?_
  replace kf_q1_1 : I0 q1 1 = 0 := kf_q1_1
  replace kf_q13_2 : I0 q13 2 = 0 := kf_q13_2
  replace kf_q13_3 : I0 q13 3 = 0 := kf_q13_3
  replace hZ := hZ.tcall hF rfl
  replace hQ := hQ.tc hF rfl
  refine va_callv (va_runI (As := []) (rest := [.ref q17, .ref a0]) ⟨hx, hb, hml, hown, hts⟩ (zX10_init l E X A z I0 L18 q17 tq17 hzq17 hQ.1) (cwI 0 hts gX11_init_X10_init rfl rfl rfl (hts (.initialized RX10) (by decide +kernel)) (hts (.methodLink RX11 43 yX10_init) (by decide +kernel)) (hts (.instanceMethod yX10_init) (by decide +kernel)) rfl (by decide +kernel) ⟨Nat.le_of_ble_eq_true rfl, Nat.le_of_ble_eq_true rfl⟩) ⟨h_blind _ _ _ _ _ _ _, h_pre _ hE hk hX hA hI hR g⟩ rfl rfl hl.1 rfl (lv_room (Nat.le_of_ble_eq_true rfl)) dX11_init_61 ⟨Nat.le_of_ble_eq_true rfl, Nat.le_of_ble_eq_true rfl⟩) g.2.1 (fun q _ h => h) (fun q h => h) (fun u t H1 locs ht hvm h19 hB hz1 hk1 hS => ?_)
  obtain ⟨z, I0, L20⟩ := u
  obtain ⟨hI, hR, xh19, qh19, tq17_, h19⟩ := h19
  replace hI : h_I z I0 := hI
  replace hR : h_R z := hR
  have hB : h_B E A z I0 L20 t := hB
  have xh19 : h_X [(1100, 999)] [] (some q17) _ _ _ z I0 L20 := xh19
  have qh19 : h_Q [(1100, 999)] (some q17) _ z I0 := qh19
  replace hQ := hQ.call xh19 qh19 rfl rfl
  replace hu_q17 := hu_q17.call qh19.2.1 tq17 (by decide)
  replace hZ := hZ.call xh19 rfl (fun t h9 => rfl) (fun b hb => Or.inr (by cases hb; exact n_q17))
  replace hz : I0 a0 = (fun _ => 0) := (funext (fun k => xh19.I t_a0 (by decide) (h_sne t_a0 tq17 (by decide)) rfl)).trans hz
  replace kf_q1_1 : I0 q1 1 = 0 := (xh19.I tq1 (by decide) (h_sne tq1 tq17 (by decide)) rfl).trans kf_q1_1
  replace kf_q13_2 : I0 q13 2 = 0 := (xh19.I tq13 (by decide) (h_sne tq13 tq17 (by decide)) rfl).trans kf_q13_2
  replace kf_q13_3 : I0 q13 3 = 0 := (xh19.I tq13 (by decide) (h_sne tq13 tq17 (by decide)) rfl).trans kf_q13_3
  replace Ra0_0 := xh19.R t_a0 (by decide) (h_sne t_a0 tq17 (by decide)) rfl Ra0_0
  replace Ra0_1 := xh19.R t_a0 (by decide) (h_sne t_a0 tq17 (by decide)) rfl Ra0_1
  replace Ra0_2 := xh19.R t_a0 (by decide) (h_sne t_a0 tq17 (by decide)) rfl Ra0_2
  replace Ra0_3 := xh19.R t_a0 (by decide) (h_sne t_a0 tq17 (by decide)) rfl Ra0_3
  replace t_a0 := xh19.ty t_a0 (by decide) (h_sne t_a0 tq17 (by decide))
  replace tq1 := xh19.ty tq1 (by decide) (h_sne tq1 tq17 (by decide))
  replace tq5 := xh19.ty tq5 (by decide) (h_sne tq5 tq17 (by decide))
  replace tq9 := xh19.ty tq9 (by decide) (h_sne tq9 tq17 (by decide))
  replace tq13 := xh19.ty tq13 (by decide) (h_sne tq13 tq17 (by decide))
  replace tq17 : z.ty q17 = 11 := tq17_
  replace g := h_after g hB ht hS
  generalize H1 = H at g
  clear hB hk1 hz1 ht hvm hS
  replace hF : h_F [(600, 999), (601, 999), (6, 2), (54, 3), (1100, 999)] z I0 I0 := h_F.rf
  refine W.cs (cells' := 38) (slots' := 1630) rfl rfl ?_
  replace kf_q1_1 : I0 q1 1 = 0 := kf_q1_1
  replace kf_q13_2 : I0 q13 2 = 0 := kf_q13_2
  replace kf_q13_3 : I0 q13 3 = 0 := kf_q13_3
  replace hZ := hZ.tcall hF rfl
  replace hQ := hQ.tc hF rfl
  refine h_putR (ty := tyX11 4) (v := q17) hx hb hts iX11 tyX11 tyX11_ok nmX11 hown g t_a0 (by decide) so_61 rfl 4 (by decide) rfl (hts (.fieldLink RX11 44 "CapLeague" "turns" "LCapLeague$Turns;") (by decide +kernel)) rfl rfl hin rfl (by decide +kernel) rfl rfl dX11_init_64 (fun H locs g => ?_)
  replace hQ := hQ.wR (a := a0) (k := 4) (v := q17) t_a0 (by decide) tq17 (by decide) (fun h9 => ⟨hu_q17, n_q17⟩)
  replace hR := hR.wR (k0 := 4) (v := some q17) t_a0 (fun _ => rfl)
  replace hZ := hZ.wR (a := a0) (k := 4) (v := some q17) (Or.inl rfl)
  replace hI : h_I (z.wR a0 4 (some q17)) I0 := hI
  replace t_a0 : (z.wR a0 4 (some q17)).ty a0 = 61 := t_a0
  replace tq1 : (z.wR a0 4 (some q17)).ty q1 = 9 := tq1
  replace tq5 : (z.wR a0 4 (some q17)).ty q5 = 4 := tq5
  replace tq9 : (z.wR a0 4 (some q17)).ty q9 = 5 := tq9
  replace tq13 : (z.wR a0 4 (some q17)).ty q13 = 1 := tq13
  replace tq17 : (z.wR a0 4 (some q17)).ty q17 = 11 := tq17
  replace Ra0_0 : (z.wR a0 4 (some q17)).R a0 0 = some q1 := (h_up_at (by decide)).trans Ra0_0
  replace Ra0_1 : (z.wR a0 4 (some q17)).R a0 1 = some q5 := (h_up_at (by decide)).trans Ra0_1
  replace Ra0_2 : (z.wR a0 4 (some q17)).R a0 2 = some q9 := (h_up_at (by decide)).trans Ra0_2
  replace Ra0_3 : (z.wR a0 4 (some q17)).R a0 3 = some q13 := (h_up_at (by decide)).trans Ra0_3
  replace Ra0_4 : (z.wR a0 4 (some q17)).R a0 4 = some q17 := h_up_eq
  obtain ⟨z, ez⟩ : ∃ z1 : tZ, z1 = (z.wR a0 4 (some q17)) := ⟨_, rfl⟩
  rw [← ez] at g hI hR hZ hQ t_a0 tq1 tq5 tq9 tq13 tq17 Ra0_0 Ra0_1 Ra0_2 Ra0_3 Ra0_4
  clear ez
  replace hF : h_F [(600, 999), (601, 999), (6, 2), (54, 3), (1100, 999)] z I0 I0 := h_F.rf
  refine lv_aload_n hx hb dX11_init_67 rfl (lv_at hl 0 rfl) ?_
  replace kf_q1_1 : I0 q1 1 = 0 := kf_q1_1
  replace kf_q13_2 : I0 q13 2 = 0 := kf_q13_2
  replace kf_q13_3 : I0 q13 3 = 0 := kf_q13_3
  replace hZ := hZ.tcall hF rfl
  replace hQ := hQ.tc hF rfl
  refine h_newO (C := RX9) (T := TX9) (N := 10) (ci := 9) hx hb hts iX9 tyX9 tyX9_ok hown (hts (.classLink RX11 48 RX9) (by decide +kernel)) (hts (.instantiable RX9 10) (by decide +kernel)) (hts (.initialized RX9) (by decide +kernel)) g hA rfl so_59 (fun j hj => by rcases (show j = 0 ∨ j = 1 ∨ j = 2 ∨ j = 3 ∨ j = 4 ∨ j = 5 ∨ j = 6 ∨ j = 7 ∨ j = 8 ∨ j = 9 by omega) with rfl | rfl | rfl | rfl | rfl | rfl | rfl | rfl | rfl | rfl <;> rfl) (Nat.le_of_ble_eq_true rfl) (Nat.le_of_ble_eq_true rfl) dX11_init_68 (fun q21 H hq0 g => ?_)
  have n_q21 := hZ.fresh hq0 (fun h => h_neq t_a0 (by decide) hq0 (Option.some.inj h).symm)
  replace hu_q21 := hQ.1.u (q := q21) (t := 59) hq0
  replace hQ := hQ.nw (q := q21) (t := 59) hq0 (by decide)
  replace hI := hI.nw (q := q21) (t := 59) (f := fun _ => none)
  replace hR := hR.nw (q := q21) (t := 59) (f := fun _ => none) hq0 (fun k t2 n2 h => by cases (show (none : Option (Nat × Bool)) = some (t2, n2) from h))
  replace hZ := hZ.nw (q := q21) (t := 59) (f := fun _ => none) hq0 (L2 := (h_rL L20 q21 (fun _ => 0))) (fun b hb => h_rL_n hb)
  replace hz : h_row I0 q21 (fun _ => 0) a0 = (fun _ => 0) := (h_row_n (h_neq t_a0 (by decide) hq0)).trans hz
  replace kf_q1_1 : h_row I0 q21 (fun _ => 0) q1 1 = 0 := (congrFun (h_row_n (h_neq tq1 (by decide) hq0)) 1).trans kf_q1_1
  replace kf_q13_2 : h_row I0 q21 (fun _ => 0) q13 2 = 0 := (congrFun (h_row_n (h_neq tq13 (by decide) hq0)) 2).trans kf_q13_2
  replace kf_q13_3 : h_row I0 q21 (fun _ => 0) q13 3 = 0 := (congrFun (h_row_n (h_neq tq13 (by decide) hq0)) 3).trans kf_q13_3
  replace Ra0_0 := h_nwr (q := q21) (t := 59) (f := fun _ => none) hq0 t_a0 (by decide) Ra0_0
  replace Ra0_1 := h_nwr (q := q21) (t := 59) (f := fun _ => none) hq0 t_a0 (by decide) Ra0_1
  replace Ra0_2 := h_nwr (q := q21) (t := 59) (f := fun _ => none) hq0 t_a0 (by decide) Ra0_2
  replace Ra0_3 := h_nwr (q := q21) (t := 59) (f := fun _ => none) hq0 t_a0 (by decide) Ra0_3
  replace Ra0_4 := h_nwr (q := q21) (t := 59) (f := fun _ => none) hq0 t_a0 (by decide) Ra0_4
  replace t_a0 := h_nwk (q := q21) (t := 59) (f := fun _ => none) hq0 t_a0 (by decide)
  replace tq1 := h_nwk (q := q21) (t := 59) (f := fun _ => none) hq0 tq1 (by decide)
  replace tq5 := h_nwk (q := q21) (t := 59) (f := fun _ => none) hq0 tq5 (by decide)
  replace tq9 := h_nwk (q := q21) (t := 59) (f := fun _ => none) hq0 tq9 (by decide)
  replace tq13 := h_nwk (q := q21) (t := 59) (f := fun _ => none) hq0 tq13 (by decide)
  replace tq17 := h_nwk (q := q21) (t := 59) (f := fun _ => none) hq0 tq17 (by decide)
  replace tq21 : (z.nw q21 59 (fun _ => none)).ty q21 = 59 := nw_te
  have hzq21 : h_row I0 q21 (fun _ => 0) q21 = fun _ => 0 := h_row_e
  obtain ⟨z, ez⟩ : ∃ z1 : tZ, z1 = (z.nw q21 59 (fun _ => none)) := ⟨_, rfl⟩
  rw [← ez] at g hI hR hZ hQ hu_q21 t_a0 tq1 tq5 tq9 tq13 tq17 tq21 Ra0_0 Ra0_1 Ra0_2 Ra0_3 Ra0_4
  clear ez
  obtain ⟨I0, eI⟩ : ∃ J : tI, J = h_row I0 q21 (fun _ => 0) := ⟨_, rfl⟩
  rw [← eI] at g hI hZ hQ hz hzq21 kf_q1_1 kf_q13_2 kf_q13_3
  clear eI
  obtain ⟨L22, eL⟩ : ∃ J : tL, J = (h_rL L20 q21 (fun _ => 0)) := ⟨_, rfl⟩
  rw [← eL] at g hZ
  replace hF : h_F [(600, 999), (601, 999), (6, 2), (54, 3), (1100, 999)] z I0 I0 := h_F.rf
  refine W.cs (cells' := 39) (slots' := 1640) rfl rfl ?_
  refine lv_dup hx hb dX11_init_71 rfl ?_
  refine lv_aload_n hx hb dX11_init_72 rfl (lv_at hl 0 rfl) ?_
  refine h_get (v := .ref q13) hx hb hts iX11 hown g t_a0 (by decide) so_61 rfl 3 (by decide) (hts (.fieldLink RX11 37 "CapLeague" "books" "LCapLeague$Books;") (by decide +kernel)) rfl dX11_init_73 (by show va_rf (z.R a0 3) = _; rw [Ra0_3]; rfl) ?_
  refine lv_aload_n hx hb dX11_init_76 rfl (lv_at hl 0 rfl) ?_
  refine h_get (v := .ref q17) hx hb hts iX11 hown g t_a0 (by decide) so_61 rfl 4 (by decide) (hts (.fieldLink RX11 44 "CapLeague" "turns" "LCapLeague$Turns;") (by decide +kernel)) rfl dX11_init_77 (by show va_rf (z.R a0 4) = _; rw [Ra0_4]; rfl) ?_
  replace kf_q1_1 : I0 q1 1 = 0 := kf_q1_1
  replace kf_q13_2 : I0 q13 2 = 0 := kf_q13_2
  replace kf_q13_3 : I0 q13 3 = 0 := kf_q13_3
  replace hZ := hZ.tcall hF rfl
  replace hQ := hQ.tc hF rfl
  refine va_callv (va_runI (As := [.ref q13, .ref q17]) (rest := [.ref q21, .ref a0]) ⟨hx, hb, hml, hown, hts⟩ (zX9_init l E X A z I0 L22 q21 tq21 q13 tq13 q17 tq17 hzq21 hQ.1) (cwI 2 hts gX11_init_X9_init rfl rfl rfl (hts (.initialized RX9) (by decide +kernel)) (hts (.methodLink RX11 50 yX9_init) (by decide +kernel)) (hts (.instanceMethod yX9_init) (by decide +kernel)) rfl (by decide +kernel) ⟨Nat.le_of_ble_eq_true rfl, Nat.le_of_ble_eq_true rfl⟩) ⟨h_blind _ _ _ _ _ _ _, h_pre _ hE hk hX hA hI hR g⟩ rfl rfl hl.1 rfl (lv_room (Nat.le_of_ble_eq_true rfl)) dX11_init_80 ⟨Nat.le_of_ble_eq_true rfl, Nat.le_of_ble_eq_true rfl⟩) g.2.1 (fun q _ h => h) (fun q h => h) (fun u t H1 locs ht hvm h23 hB hz1 hk1 hS => ?_)
  obtain ⟨z, I0, L24⟩ := u
  obtain ⟨hI, hR, xh23, qh23, tq21_, h23⟩ := h23
  replace hI : h_I z I0 := hI
  replace hR : h_R z := hR
  have hB : h_B E A z I0 L24 t := hB
  have xh23 : h_X [] [] (some q21) _ _ _ z I0 L24 := xh23
  have qh23 : h_Q [] (some q21) _ z I0 := qh23
  replace hQ := hQ.call xh23 qh23 rfl rfl
  replace hu_q21 := hu_q21.call qh23.2.1 tq21 (by decide)
  replace hZ := hZ.call xh23 rfl (fun t h9 => rfl) (fun b hb => Or.inr (by cases hb; exact n_q21))
  replace hz : I0 a0 = (fun _ => 0) := (funext (fun k => xh23.I t_a0 (by decide) (h_sne t_a0 tq21 (by decide)) rfl)).trans hz
  replace kf_q1_1 : I0 q1 1 = 0 := (xh23.I tq1 (by decide) (h_sne tq1 tq21 (by decide)) rfl).trans kf_q1_1
  replace kf_q13_2 : I0 q13 2 = 0 := (xh23.I tq13 (by decide) (h_sne tq13 tq21 (by decide)) rfl).trans kf_q13_2
  replace kf_q13_3 : I0 q13 3 = 0 := (xh23.I tq13 (by decide) (h_sne tq13 tq21 (by decide)) rfl).trans kf_q13_3
  replace Ra0_0 := xh23.R t_a0 (by decide) (h_sne t_a0 tq21 (by decide)) rfl Ra0_0
  replace Ra0_1 := xh23.R t_a0 (by decide) (h_sne t_a0 tq21 (by decide)) rfl Ra0_1
  replace Ra0_2 := xh23.R t_a0 (by decide) (h_sne t_a0 tq21 (by decide)) rfl Ra0_2
  replace Ra0_3 := xh23.R t_a0 (by decide) (h_sne t_a0 tq21 (by decide)) rfl Ra0_3
  replace Ra0_4 := xh23.R t_a0 (by decide) (h_sne t_a0 tq21 (by decide)) rfl Ra0_4
  replace t_a0 := xh23.ty t_a0 (by decide) (h_sne t_a0 tq21 (by decide))
  replace tq1 := xh23.ty tq1 (by decide) (h_sne tq1 tq21 (by decide))
  replace tq5 := xh23.ty tq5 (by decide) (h_sne tq5 tq21 (by decide))
  replace tq9 := xh23.ty tq9 (by decide) (h_sne tq9 tq21 (by decide))
  replace tq13 := xh23.ty tq13 (by decide) (h_sne tq13 tq21 (by decide))
  replace tq17 := xh23.ty tq17 (by decide) (h_sne tq17 tq21 (by decide))
  replace tq21 : z.ty q21 = 10 := tq21_
  replace g := h_after g hB ht hS
  generalize H1 = H at g
  clear hB hk1 hz1 ht hvm hS
  replace hF : h_F [(600, 999), (601, 999), (6, 2), (54, 3), (1100, 999)] z I0 I0 := h_F.rf
  refine W.cs (cells' := 45) (slots' := 1704) rfl rfl ?_
  replace kf_q1_1 : I0 q1 1 = 0 := kf_q1_1
  replace kf_q13_2 : I0 q13 2 = 0 := kf_q13_2
  replace kf_q13_3 : I0 q13 3 = 0 := kf_q13_3
  replace hZ := hZ.tcall hF rfl
  replace hQ := hQ.tc hF rfl
  refine h_putR (ty := tyX11 5) (v := q21) hx hb hts iX11 tyX11 tyX11_ok nmX11 hown g t_a0 (by decide) so_61 rfl 5 (by decide) rfl (hts (.fieldLink RX11 53 "CapLeague" "bargain" "LCapLeague$Trade;") (by decide +kernel)) rfl rfl hin rfl (by decide +kernel) rfl rfl dX11_init_83 (fun H locs g => ?_)
  replace hQ := hQ.wR (a := a0) (k := 5) (v := q21) t_a0 (by decide) tq21 (by decide) (fun h9 => ⟨hu_q21, n_q21⟩)
  replace hR := hR.wR (k0 := 5) (v := some q21) t_a0 (fun _ => rfl)
  replace hZ := hZ.wR (a := a0) (k := 5) (v := some q21) (Or.inl rfl)
  replace hI : h_I (z.wR a0 5 (some q21)) I0 := hI
  replace t_a0 : (z.wR a0 5 (some q21)).ty a0 = 61 := t_a0
  replace tq1 : (z.wR a0 5 (some q21)).ty q1 = 9 := tq1
  replace tq5 : (z.wR a0 5 (some q21)).ty q5 = 4 := tq5
  replace tq9 : (z.wR a0 5 (some q21)).ty q9 = 5 := tq9
  replace tq13 : (z.wR a0 5 (some q21)).ty q13 = 1 := tq13
  replace tq17 : (z.wR a0 5 (some q21)).ty q17 = 11 := tq17
  replace tq21 : (z.wR a0 5 (some q21)).ty q21 = 10 := tq21
  replace Ra0_0 : (z.wR a0 5 (some q21)).R a0 0 = some q1 := (h_up_at (by decide)).trans Ra0_0
  replace Ra0_1 : (z.wR a0 5 (some q21)).R a0 1 = some q5 := (h_up_at (by decide)).trans Ra0_1
  replace Ra0_2 : (z.wR a0 5 (some q21)).R a0 2 = some q9 := (h_up_at (by decide)).trans Ra0_2
  replace Ra0_3 : (z.wR a0 5 (some q21)).R a0 3 = some q13 := (h_up_at (by decide)).trans Ra0_3
  replace Ra0_4 : (z.wR a0 5 (some q21)).R a0 4 = some q17 := (h_up_at (by decide)).trans Ra0_4
  replace Ra0_5 : (z.wR a0 5 (some q21)).R a0 5 = some q21 := h_up_eq
  obtain ⟨z, ez⟩ : ∃ z1 : tZ, z1 = (z.wR a0 5 (some q21)) := ⟨_, rfl⟩
  rw [← ez] at g hI hR hZ hQ t_a0 tq1 tq5 tq9 tq13 tq17 tq21 Ra0_0 Ra0_1 Ra0_2 Ra0_3 Ra0_4 Ra0_5
  clear ez
  replace hF : h_F [(600, 999), (601, 999), (6, 2), (54, 3), (1100, 999)] z I0 I0 := h_F.rf
  refine lv_aload_n hx hb dX11_init_86 rfl (lv_at hl 0 rfl) ?_
  replace kf_q1_1 : I0 q1 1 = 0 := kf_q1_1
  replace kf_q13_2 : I0 q13 2 = 0 := kf_q13_2
  replace kf_q13_3 : I0 q13 3 = 0 := kf_q13_3
  replace hZ := hZ.tcall hF rfl
  replace hQ := hQ.tc hF rfl
  refine h_newO (C := RX7) (T := TX7) (N := 13) (ci := 7) hx hb hts iX7 tyX7 tyX7_ok hown (hts (.classLink RX11 57 RX7) (by decide +kernel)) (hts (.instantiable RX7 13) (by decide +kernel)) (hts (.initialized RX7) (by decide +kernel)) g hA rfl so_57 (fun j hj => by rcases (show j = 0 ∨ j = 1 ∨ j = 2 ∨ j = 3 ∨ j = 4 ∨ j = 5 ∨ j = 6 ∨ j = 7 ∨ j = 8 ∨ j = 9 ∨ j = 10 ∨ j = 11 ∨ j = 12 by omega) with rfl | rfl | rfl | rfl | rfl | rfl | rfl | rfl | rfl | rfl | rfl | rfl | rfl <;> rfl) (Nat.le_of_ble_eq_true rfl) (Nat.le_of_ble_eq_true rfl) dX11_init_87 (fun q25 H hq0 g => ?_)
  have n_q25 := hZ.fresh hq0 (fun h => h_neq t_a0 (by decide) hq0 (Option.some.inj h).symm)
  replace hu_q25 := hQ.1.u (q := q25) (t := 57) hq0
  replace hQ := hQ.nw (q := q25) (t := 57) hq0 (by decide)
  replace hI := hI.nw (q := q25) (t := 57) (f := fun _ => none)
  replace hR := hR.nw (q := q25) (t := 57) (f := fun _ => none) hq0 (fun k t2 n2 h => by cases (show (none : Option (Nat × Bool)) = some (t2, n2) from h))
  replace hZ := hZ.nw (q := q25) (t := 57) (f := fun _ => none) hq0 (L2 := (h_rL L24 q25 (fun _ => 0))) (fun b hb => h_rL_n hb)
  replace hz : h_row I0 q25 (fun _ => 0) a0 = (fun _ => 0) := (h_row_n (h_neq t_a0 (by decide) hq0)).trans hz
  replace kf_q1_1 : h_row I0 q25 (fun _ => 0) q1 1 = 0 := (congrFun (h_row_n (h_neq tq1 (by decide) hq0)) 1).trans kf_q1_1
  replace kf_q13_2 : h_row I0 q25 (fun _ => 0) q13 2 = 0 := (congrFun (h_row_n (h_neq tq13 (by decide) hq0)) 2).trans kf_q13_2
  replace kf_q13_3 : h_row I0 q25 (fun _ => 0) q13 3 = 0 := (congrFun (h_row_n (h_neq tq13 (by decide) hq0)) 3).trans kf_q13_3
  replace Ra0_0 := h_nwr (q := q25) (t := 57) (f := fun _ => none) hq0 t_a0 (by decide) Ra0_0
  replace Ra0_1 := h_nwr (q := q25) (t := 57) (f := fun _ => none) hq0 t_a0 (by decide) Ra0_1
  replace Ra0_2 := h_nwr (q := q25) (t := 57) (f := fun _ => none) hq0 t_a0 (by decide) Ra0_2
  replace Ra0_3 := h_nwr (q := q25) (t := 57) (f := fun _ => none) hq0 t_a0 (by decide) Ra0_3
  replace Ra0_4 := h_nwr (q := q25) (t := 57) (f := fun _ => none) hq0 t_a0 (by decide) Ra0_4
  replace Ra0_5 := h_nwr (q := q25) (t := 57) (f := fun _ => none) hq0 t_a0 (by decide) Ra0_5
  replace t_a0 := h_nwk (q := q25) (t := 57) (f := fun _ => none) hq0 t_a0 (by decide)
  replace tq1 := h_nwk (q := q25) (t := 57) (f := fun _ => none) hq0 tq1 (by decide)
  replace tq5 := h_nwk (q := q25) (t := 57) (f := fun _ => none) hq0 tq5 (by decide)
  replace tq9 := h_nwk (q := q25) (t := 57) (f := fun _ => none) hq0 tq9 (by decide)
  replace tq13 := h_nwk (q := q25) (t := 57) (f := fun _ => none) hq0 tq13 (by decide)
  replace tq17 := h_nwk (q := q25) (t := 57) (f := fun _ => none) hq0 tq17 (by decide)
  replace tq21 := h_nwk (q := q25) (t := 57) (f := fun _ => none) hq0 tq21 (by decide)
  replace tq25 : (z.nw q25 57 (fun _ => none)).ty q25 = 57 := nw_te
  have hzq25 : h_row I0 q25 (fun _ => 0) q25 = fun _ => 0 := h_row_e
  obtain ⟨z, ez⟩ : ∃ z1 : tZ, z1 = (z.nw q25 57 (fun _ => none)) := ⟨_, rfl⟩
  rw [← ez] at g hI hR hZ hQ hu_q25 t_a0 tq1 tq5 tq9 tq13 tq17 tq21 tq25 Ra0_0 Ra0_1 Ra0_2 Ra0_3 Ra0_4 Ra0_5
  clear ez
  obtain ⟨I0, eI⟩ : ∃ J : tI, J = h_row I0 q25 (fun _ => 0) := ⟨_, rfl⟩
  rw [← eI] at g hI hZ hQ hz hzq25 kf_q1_1 kf_q13_2 kf_q13_3
  clear eI
  obtain ⟨L26, eL⟩ : ∃ J : tL, J = (h_rL L24 q25 (fun _ => 0)) := ⟨_, rfl⟩
  rw [← eL] at g hZ
  replace hF : h_F [(600, 999), (601, 999), (6, 2), (54, 3), (1100, 999)] z I0 I0 := h_F.rf
  refine W.cs (cells' := 46) (slots' := 1717) rfl rfl ?_
  refine lv_dup hx hb dX11_init_90 rfl ?_
  refine lv_aload_n hx hb dX11_init_91 rfl (lv_at hl 0 rfl) ?_
  refine h_get (v := .ref q13) hx hb hts iX11 hown g t_a0 (by decide) so_61 rfl 3 (by decide) (hts (.fieldLink RX11 37 "CapLeague" "books" "LCapLeague$Books;") (by decide +kernel)) rfl dX11_init_92 (by show va_rf (z.R a0 3) = _; rw [Ra0_3]; rfl) ?_
  replace kf_q1_1 : I0 q1 1 = 0 := kf_q1_1
  replace kf_q13_2 : I0 q13 2 = 0 := kf_q13_2
  replace kf_q13_3 : I0 q13 3 = 0 := kf_q13_3
  replace hZ := hZ.tcall hF rfl
  replace hQ := hQ.tc hF rfl
  refine va_callv (va_runI (As := [.ref q13]) (rest := [.ref q25, .ref a0]) ⟨hx, hb, hml, hown, hts⟩ (zX7_init l E X A z I0 L26 q25 tq25 q13 tq13 hzq25 hQ.1) (cwI 1 hts gX11_init_X7_init rfl rfl rfl (hts (.initialized RX7) (by decide +kernel)) (hts (.methodLink RX11 59 yX7_init) (by decide +kernel)) (hts (.instanceMethod yX7_init) (by decide +kernel)) rfl (by decide +kernel) ⟨Nat.le_of_ble_eq_true rfl, Nat.le_of_ble_eq_true rfl⟩) ⟨h_blind _ _ _ _ _ _ _, h_pre _ hE hk hX hA hI hR g⟩ rfl rfl hl.1 rfl (lv_room (Nat.le_of_ble_eq_true rfl)) dX11_init_95 ⟨Nat.le_of_ble_eq_true rfl, Nat.le_of_ble_eq_true rfl⟩) g.2.1 (fun q _ h => h) (fun q h => h) (fun u t H1 locs ht hvm h27 hB hz1 hk1 hS => ?_)
  obtain ⟨z, I0, L28⟩ := u
  obtain ⟨hI, hR, xh27, qh27, tq25_, h27⟩ := h27
  replace hI : h_I z I0 := hI
  replace hR : h_R z := hR
  have hB : h_B E A z I0 L28 t := hB
  have xh27 : h_X [] [] (some q25) _ _ _ z I0 L28 := xh27
  have qh27 : h_Q [] (some q25) _ z I0 := qh27
  replace hQ := hQ.call xh27 qh27 rfl rfl
  replace hu_q25 := hu_q25.call qh27.2.1 tq25 (by decide)
  replace hZ := hZ.call xh27 rfl (fun t h9 => rfl) (fun b hb => Or.inr (by cases hb; exact n_q25))
  replace hz : I0 a0 = (fun _ => 0) := (funext (fun k => xh27.I t_a0 (by decide) (h_sne t_a0 tq25 (by decide)) rfl)).trans hz
  replace kf_q1_1 : I0 q1 1 = 0 := (xh27.I tq1 (by decide) (h_sne tq1 tq25 (by decide)) rfl).trans kf_q1_1
  replace kf_q13_2 : I0 q13 2 = 0 := (xh27.I tq13 (by decide) (h_sne tq13 tq25 (by decide)) rfl).trans kf_q13_2
  replace kf_q13_3 : I0 q13 3 = 0 := (xh27.I tq13 (by decide) (h_sne tq13 tq25 (by decide)) rfl).trans kf_q13_3
  replace Ra0_0 := xh27.R t_a0 (by decide) (h_sne t_a0 tq25 (by decide)) rfl Ra0_0
  replace Ra0_1 := xh27.R t_a0 (by decide) (h_sne t_a0 tq25 (by decide)) rfl Ra0_1
  replace Ra0_2 := xh27.R t_a0 (by decide) (h_sne t_a0 tq25 (by decide)) rfl Ra0_2
  replace Ra0_3 := xh27.R t_a0 (by decide) (h_sne t_a0 tq25 (by decide)) rfl Ra0_3
  replace Ra0_4 := xh27.R t_a0 (by decide) (h_sne t_a0 tq25 (by decide)) rfl Ra0_4
  replace Ra0_5 := xh27.R t_a0 (by decide) (h_sne t_a0 tq25 (by decide)) rfl Ra0_5
  replace t_a0 := xh27.ty t_a0 (by decide) (h_sne t_a0 tq25 (by decide))
  replace tq1 := xh27.ty tq1 (by decide) (h_sne tq1 tq25 (by decide))
  replace tq5 := xh27.ty tq5 (by decide) (h_sne tq5 tq25 (by decide))
  replace tq9 := xh27.ty tq9 (by decide) (h_sne tq9 tq25 (by decide))
  replace tq13 := xh27.ty tq13 (by decide) (h_sne tq13 tq25 (by decide))
  replace tq17 := xh27.ty tq17 (by decide) (h_sne tq17 tq25 (by decide))
  replace tq21 := xh27.ty tq21 (by decide) (h_sne tq21 tq25 (by decide))
  replace tq25 : z.ty q25 = 8 := tq25_
  replace g := h_after g hB ht hS
  generalize H1 = H at g
  clear hB hk1 hz1 ht hvm hS
  replace hF : h_F [(600, 999), (601, 999), (6, 2), (54, 3), (1100, 999)] z I0 I0 := h_F.rf
  refine W.cs (cells' := 116) (slots' := 5644) rfl rfl ?_
  replace kf_q1_1 : I0 q1 1 = 0 := kf_q1_1
  replace kf_q13_2 : I0 q13 2 = 0 := kf_q13_2
  replace kf_q13_3 : I0 q13 3 = 0 := kf_q13_3
  replace hZ := hZ.tcall hF rfl
  replace hQ := hQ.tc hF rfl
  refine h_putR (ty := tyX11 6) (v := q25) hx hb hts iX11 tyX11 tyX11_ok nmX11 hown g t_a0 (by decide) so_61 rfl 6 (by decide) rfl (hts (.fieldLink RX11 62 "CapLeague" "rings" "LCapLeague$RingSearch;") (by decide +kernel)) rfl rfl hin rfl (by decide +kernel) rfl rfl dX11_init_98 (fun H locs g => ?_)
  replace hQ := hQ.wR (a := a0) (k := 6) (v := q25) t_a0 (by decide) tq25 (by decide) (fun h9 => ⟨hu_q25, n_q25⟩)
  replace hR := hR.wR (k0 := 6) (v := some q25) t_a0 (fun _ => rfl)
  replace hZ := hZ.wR (a := a0) (k := 6) (v := some q25) (Or.inl rfl)
  replace hI : h_I (z.wR a0 6 (some q25)) I0 := hI
  replace t_a0 : (z.wR a0 6 (some q25)).ty a0 = 61 := t_a0
  replace tq1 : (z.wR a0 6 (some q25)).ty q1 = 9 := tq1
  replace tq5 : (z.wR a0 6 (some q25)).ty q5 = 4 := tq5
  replace tq9 : (z.wR a0 6 (some q25)).ty q9 = 5 := tq9
  replace tq13 : (z.wR a0 6 (some q25)).ty q13 = 1 := tq13
  replace tq17 : (z.wR a0 6 (some q25)).ty q17 = 11 := tq17
  replace tq21 : (z.wR a0 6 (some q25)).ty q21 = 10 := tq21
  replace tq25 : (z.wR a0 6 (some q25)).ty q25 = 8 := tq25
  replace Ra0_0 : (z.wR a0 6 (some q25)).R a0 0 = some q1 := (h_up_at (by decide)).trans Ra0_0
  replace Ra0_1 : (z.wR a0 6 (some q25)).R a0 1 = some q5 := (h_up_at (by decide)).trans Ra0_1
  replace Ra0_2 : (z.wR a0 6 (some q25)).R a0 2 = some q9 := (h_up_at (by decide)).trans Ra0_2
  replace Ra0_3 : (z.wR a0 6 (some q25)).R a0 3 = some q13 := (h_up_at (by decide)).trans Ra0_3
  replace Ra0_4 : (z.wR a0 6 (some q25)).R a0 4 = some q17 := (h_up_at (by decide)).trans Ra0_4
  replace Ra0_5 : (z.wR a0 6 (some q25)).R a0 5 = some q21 := (h_up_at (by decide)).trans Ra0_5
  replace Ra0_6 : (z.wR a0 6 (some q25)).R a0 6 = some q25 := h_up_eq
  obtain ⟨z, ez⟩ : ∃ z1 : tZ, z1 = (z.wR a0 6 (some q25)) := ⟨_, rfl⟩
  rw [← ez] at g hI hR hZ hQ t_a0 tq1 tq5 tq9 tq13 tq17 tq21 tq25 Ra0_0 Ra0_1 Ra0_2 Ra0_3 Ra0_4 Ra0_5 Ra0_6
  clear ez
  replace hF : h_F [(600, 999), (601, 999), (6, 2), (54, 3), (1100, 999)] z I0 I0 := h_F.rf
  refine lv_aload_n hx hb dX11_init_101 rfl (lv_at hl 0 rfl) ?_
  replace kf_q1_1 : I0 q1 1 = 0 := kf_q1_1
  replace kf_q13_2 : I0 q13 2 = 0 := kf_q13_2
  replace kf_q13_3 : I0 q13 3 = 0 := kf_q13_3
  replace hZ := hZ.tcall hF rfl
  replace hQ := hQ.tc hF rfl
  refine h_newO (C := RX2) (T := TX2) (N := 7) (ci := 2) hx hb hts iX2 tyX2 tyX2_ok hown (hts (.classLink RX11 66 RX2) (by decide +kernel)) (hts (.instantiable RX2 7) (by decide +kernel)) (hts (.initialized RX2) (by decide +kernel)) g hA rfl so_52 (fun j hj => by rcases (show j = 0 ∨ j = 1 ∨ j = 2 ∨ j = 3 ∨ j = 4 ∨ j = 5 ∨ j = 6 by omega) with rfl | rfl | rfl | rfl | rfl | rfl | rfl <;> rfl) (Nat.le_of_ble_eq_true rfl) (Nat.le_of_ble_eq_true rfl) dX11_init_102 (fun q29 H hq0 g => ?_)
  have n_q29 := hZ.fresh hq0 (fun h => h_neq t_a0 (by decide) hq0 (Option.some.inj h).symm)
  replace hu_q29 := hQ.1.u (q := q29) (t := 52) hq0
  replace hQ := hQ.nw (q := q29) (t := 52) hq0 (by decide)
  replace hI := hI.nw (q := q29) (t := 52) (f := fun _ => none)
  replace hR := hR.nw (q := q29) (t := 52) (f := fun _ => none) hq0 (fun k t2 n2 h => by cases (show (none : Option (Nat × Bool)) = some (t2, n2) from h))
  replace hZ := hZ.nw (q := q29) (t := 52) (f := fun _ => none) hq0 (L2 := (h_rL L28 q29 (fun _ => 0))) (fun b hb => h_rL_n hb)
  replace hz : h_row I0 q29 (fun _ => 0) a0 = (fun _ => 0) := (h_row_n (h_neq t_a0 (by decide) hq0)).trans hz
  replace kf_q1_1 : h_row I0 q29 (fun _ => 0) q1 1 = 0 := (congrFun (h_row_n (h_neq tq1 (by decide) hq0)) 1).trans kf_q1_1
  replace kf_q13_2 : h_row I0 q29 (fun _ => 0) q13 2 = 0 := (congrFun (h_row_n (h_neq tq13 (by decide) hq0)) 2).trans kf_q13_2
  replace kf_q13_3 : h_row I0 q29 (fun _ => 0) q13 3 = 0 := (congrFun (h_row_n (h_neq tq13 (by decide) hq0)) 3).trans kf_q13_3
  replace Ra0_0 := h_nwr (q := q29) (t := 52) (f := fun _ => none) hq0 t_a0 (by decide) Ra0_0
  replace Ra0_1 := h_nwr (q := q29) (t := 52) (f := fun _ => none) hq0 t_a0 (by decide) Ra0_1
  replace Ra0_2 := h_nwr (q := q29) (t := 52) (f := fun _ => none) hq0 t_a0 (by decide) Ra0_2
  replace Ra0_3 := h_nwr (q := q29) (t := 52) (f := fun _ => none) hq0 t_a0 (by decide) Ra0_3
  replace Ra0_4 := h_nwr (q := q29) (t := 52) (f := fun _ => none) hq0 t_a0 (by decide) Ra0_4
  replace Ra0_5 := h_nwr (q := q29) (t := 52) (f := fun _ => none) hq0 t_a0 (by decide) Ra0_5
  replace Ra0_6 := h_nwr (q := q29) (t := 52) (f := fun _ => none) hq0 t_a0 (by decide) Ra0_6
  replace t_a0 := h_nwk (q := q29) (t := 52) (f := fun _ => none) hq0 t_a0 (by decide)
  replace tq1 := h_nwk (q := q29) (t := 52) (f := fun _ => none) hq0 tq1 (by decide)
  replace tq5 := h_nwk (q := q29) (t := 52) (f := fun _ => none) hq0 tq5 (by decide)
  replace tq9 := h_nwk (q := q29) (t := 52) (f := fun _ => none) hq0 tq9 (by decide)
  replace tq13 := h_nwk (q := q29) (t := 52) (f := fun _ => none) hq0 tq13 (by decide)
  replace tq17 := h_nwk (q := q29) (t := 52) (f := fun _ => none) hq0 tq17 (by decide)
  replace tq21 := h_nwk (q := q29) (t := 52) (f := fun _ => none) hq0 tq21 (by decide)
  replace tq25 := h_nwk (q := q29) (t := 52) (f := fun _ => none) hq0 tq25 (by decide)
  replace tq29 : (z.nw q29 52 (fun _ => none)).ty q29 = 52 := nw_te
  have hzq29 : h_row I0 q29 (fun _ => 0) q29 = fun _ => 0 := h_row_e
  obtain ⟨z, ez⟩ : ∃ z1 : tZ, z1 = (z.nw q29 52 (fun _ => none)) := ⟨_, rfl⟩
  rw [← ez] at g hI hR hZ hQ hu_q29 t_a0 tq1 tq5 tq9 tq13 tq17 tq21 tq25 tq29 Ra0_0 Ra0_1 Ra0_2 Ra0_3 Ra0_4 Ra0_5 Ra0_6
  clear ez
  obtain ⟨I0, eI⟩ : ∃ J : tI, J = h_row I0 q29 (fun _ => 0) := ⟨_, rfl⟩
  rw [← eI] at g hI hZ hQ hz hzq29 kf_q1_1 kf_q13_2 kf_q13_3
  clear eI
  obtain ⟨L30, eL⟩ : ∃ J : tL, J = (h_rL L28 q29 (fun _ => 0)) := ⟨_, rfl⟩
  rw [← eL] at g hZ
  replace hF : h_F [(600, 999), (601, 999), (6, 2), (54, 3), (1100, 999)] z I0 I0 := h_F.rf
  refine W.cs (cells' := 117) (slots' := 5651) rfl rfl ?_
  refine lv_dup hx hb dX11_init_105 rfl ?_
  replace kf_q1_1 : I0 q1 1 = 0 := kf_q1_1
  replace kf_q13_2 : I0 q13 2 = 0 := kf_q13_2
  replace kf_q13_3 : I0 q13 3 = 0 := kf_q13_3
  replace hZ := hZ.tcall hF rfl
  replace hQ := hQ.tc hF rfl
  refine va_callv (va_runIN (As := []) (rest := [.ref q29, .ref a0]) ⟨hx, hb, hml, hown, hts⟩ (zX2_init l E X A z I0 L30 q29 tq29 hzq29 hQ.1) (⟨va_cnB 0 hts gX11_init_X2_init_n68 rfl rfl rfl (hE.link 4 rfl) (hts (.initialized RX2) (by decide +kernel)) (by decide +kernel) ⟨Nat.le_of_ble_eq_true rfl, Nat.le_of_ble_eq_true rfl⟩, rfl, hts (.instanceMethod yX2_init) (by decide +kernel)⟩) ⟨h_blind _ _ _ _ _ _ _, h_pre _ hE hk hX hA hI hR g⟩ rfl rfl hl.1 rfl (lv_room (Nat.le_of_ble_eq_true rfl)) dX11_init_106 ⟨Nat.le_of_ble_eq_true rfl, Nat.le_of_ble_eq_true rfl⟩) g.2.1 (fun q _ h => h) (fun q h => h) (fun u t H1 locs ht hvm h31 hB hz1 hk1 hS => ?_)
  obtain ⟨z, I0, L32⟩ := u
  obtain ⟨hI, hR, xh31, qh31, tq29_, h31⟩ := h31
  replace hI : h_I z I0 := hI
  replace hR : h_R z := hR
  have hB : h_B E A z I0 L32 t := hB
  have xh31 : h_X [] [] (some q29) _ _ _ z I0 L32 := xh31
  have qh31 : h_Q [] (some q29) _ z I0 := qh31
  replace hQ := hQ.call xh31 qh31 rfl rfl
  replace hu_q29 := hu_q29.call qh31.2.1 tq29 (by decide)
  replace hZ := hZ.call xh31 rfl (fun t h9 => rfl) (fun b hb => Or.inr (by cases hb; exact n_q29))
  replace hz : I0 a0 = (fun _ => 0) := (funext (fun k => xh31.I t_a0 (by decide) (h_sne t_a0 tq29 (by decide)) rfl)).trans hz
  replace kf_q1_1 : I0 q1 1 = 0 := (xh31.I tq1 (by decide) (h_sne tq1 tq29 (by decide)) rfl).trans kf_q1_1
  replace kf_q13_2 : I0 q13 2 = 0 := (xh31.I tq13 (by decide) (h_sne tq13 tq29 (by decide)) rfl).trans kf_q13_2
  replace kf_q13_3 : I0 q13 3 = 0 := (xh31.I tq13 (by decide) (h_sne tq13 tq29 (by decide)) rfl).trans kf_q13_3
  replace Ra0_0 := xh31.R t_a0 (by decide) (h_sne t_a0 tq29 (by decide)) rfl Ra0_0
  replace Ra0_1 := xh31.R t_a0 (by decide) (h_sne t_a0 tq29 (by decide)) rfl Ra0_1
  replace Ra0_2 := xh31.R t_a0 (by decide) (h_sne t_a0 tq29 (by decide)) rfl Ra0_2
  replace Ra0_3 := xh31.R t_a0 (by decide) (h_sne t_a0 tq29 (by decide)) rfl Ra0_3
  replace Ra0_4 := xh31.R t_a0 (by decide) (h_sne t_a0 tq29 (by decide)) rfl Ra0_4
  replace Ra0_5 := xh31.R t_a0 (by decide) (h_sne t_a0 tq29 (by decide)) rfl Ra0_5
  replace Ra0_6 := xh31.R t_a0 (by decide) (h_sne t_a0 tq29 (by decide)) rfl Ra0_6
  replace t_a0 := xh31.ty t_a0 (by decide) (h_sne t_a0 tq29 (by decide))
  replace tq1 := xh31.ty tq1 (by decide) (h_sne tq1 tq29 (by decide))
  replace tq5 := xh31.ty tq5 (by decide) (h_sne tq5 tq29 (by decide))
  replace tq9 := xh31.ty tq9 (by decide) (h_sne tq9 tq29 (by decide))
  replace tq13 := xh31.ty tq13 (by decide) (h_sne tq13 tq29 (by decide))
  replace tq17 := xh31.ty tq17 (by decide) (h_sne tq17 tq29 (by decide))
  replace tq21 := xh31.ty tq21 (by decide) (h_sne tq21 tq29 (by decide))
  replace tq25 := xh31.ty tq25 (by decide) (h_sne tq25 tq29 (by decide))
  replace tq29 : z.ty q29 = 3 := tq29_
  replace g := h_after g hB ht hS
  generalize H1 = H at g
  clear hB hk1 hz1 ht hvm hS
  replace hF : h_F [(600, 999), (601, 999), (6, 2), (54, 3), (1100, 999)] z I0 I0 := h_F.rf
  refine W.cs (cells' := 141) (slots' := 5849) rfl rfl ?_
  replace kf_q1_1 : I0 q1 1 = 0 := kf_q1_1
  replace kf_q13_2 : I0 q13 2 = 0 := kf_q13_2
  replace kf_q13_3 : I0 q13 3 = 0 := kf_q13_3
  replace hZ := hZ.tcall hF rfl
  replace hQ := hQ.tc hF rfl
  refine h_putR (ty := tyX11 7) (v := q29) hx hb hts iX11 tyX11 tyX11_ok nmX11 hown g t_a0 (by decide) so_61 rfl 7 (by decide) rfl (hts (.fieldLink RX11 69 "CapLeague" "draft" "LCapLeague$Draft;") (by decide +kernel)) rfl rfl hin rfl (by decide +kernel) rfl rfl dX11_init_109 (fun H locs g => ?_)
  replace hQ := hQ.wR (a := a0) (k := 7) (v := q29) t_a0 (by decide) tq29 (by decide) (fun h9 => ⟨hu_q29, n_q29⟩)
  replace hR := hR.wR (k0 := 7) (v := some q29) t_a0 (fun _ => rfl)
  replace hZ := hZ.wR (a := a0) (k := 7) (v := some q29) (Or.inl rfl)
  replace hI : h_I (z.wR a0 7 (some q29)) I0 := hI
  replace t_a0 : (z.wR a0 7 (some q29)).ty a0 = 61 := t_a0
  replace tq1 : (z.wR a0 7 (some q29)).ty q1 = 9 := tq1
  replace tq5 : (z.wR a0 7 (some q29)).ty q5 = 4 := tq5
  replace tq9 : (z.wR a0 7 (some q29)).ty q9 = 5 := tq9
  replace tq13 : (z.wR a0 7 (some q29)).ty q13 = 1 := tq13
  replace tq17 : (z.wR a0 7 (some q29)).ty q17 = 11 := tq17
  replace tq21 : (z.wR a0 7 (some q29)).ty q21 = 10 := tq21
  replace tq25 : (z.wR a0 7 (some q29)).ty q25 = 8 := tq25
  replace tq29 : (z.wR a0 7 (some q29)).ty q29 = 3 := tq29
  replace Ra0_0 : (z.wR a0 7 (some q29)).R a0 0 = some q1 := (h_up_at (by decide)).trans Ra0_0
  replace Ra0_1 : (z.wR a0 7 (some q29)).R a0 1 = some q5 := (h_up_at (by decide)).trans Ra0_1
  replace Ra0_2 : (z.wR a0 7 (some q29)).R a0 2 = some q9 := (h_up_at (by decide)).trans Ra0_2
  replace Ra0_3 : (z.wR a0 7 (some q29)).R a0 3 = some q13 := (h_up_at (by decide)).trans Ra0_3
  replace Ra0_4 : (z.wR a0 7 (some q29)).R a0 4 = some q17 := (h_up_at (by decide)).trans Ra0_4
  replace Ra0_5 : (z.wR a0 7 (some q29)).R a0 5 = some q21 := (h_up_at (by decide)).trans Ra0_5
  replace Ra0_6 : (z.wR a0 7 (some q29)).R a0 6 = some q25 := (h_up_at (by decide)).trans Ra0_6
  replace Ra0_7 : (z.wR a0 7 (some q29)).R a0 7 = some q29 := h_up_eq
  obtain ⟨z, ez⟩ : ∃ z1 : tZ, z1 = (z.wR a0 7 (some q29)) := ⟨_, rfl⟩
  rw [← ez] at g hI hR hZ hQ t_a0 tq1 tq5 tq9 tq13 tq17 tq21 tq25 tq29 Ra0_0 Ra0_1 Ra0_2 Ra0_3 Ra0_4 Ra0_5 Ra0_6 Ra0_7
  clear ez
  replace hF : h_F [(600, 999), (601, 999), (6, 2), (54, 3), (1100, 999)] z I0 I0 := h_F.rf
  replace hZ := hZ.tcall hF rfl
  replace hQ := hQ.tc hF rfl
  replace kf_q1_1 : I0 q1 1 = 0 := kf_q1_1
  replace kf_q13_2 : I0 q13 2 = 0 := kf_q13_2
  replace kf_q13_3 : I0 q13 3 = 0 := kf_q13_3
  have g := g.rt (a := a0) (t := 12) (by rw [t_a0]; decide) (by rw [t_a0]; rfl)
  replace hI := hI.rt (a := a0) (t := 12) (fun k => by
      rw [hz]
      exact h_bd0 12 k)
  replace hR := hR.rt (t := 12) t_a0 (by decide) (by decide) (fun k t2 n2 h hk => by
      have hk9 : k < 8 := hk
      rcases (show k = 0 ∨ k = 1 ∨ k = 2 ∨ k = 3 ∨ k = 4 ∨ k = 5 ∨ k = 6 ∨ k = 7 by omega) with rfl | rfl | rfl | rfl | rfl | rfl | rfl | rfl
      · have e9 : some (9, false) = some (t2, n2) := h
        cases e9
        exact ⟨q1, Ra0_0, tq1⟩
      · have e9 : some (4, false) = some (t2, n2) := h
        cases e9
        exact ⟨q5, Ra0_1, tq5⟩
      · have e9 : some (5, false) = some (t2, n2) := h
        cases e9
        exact ⟨q9, Ra0_2, tq9⟩
      · have e9 : some (1, false) = some (t2, n2) := h
        cases e9
        exact ⟨q13, Ra0_3, tq13⟩
      · have e9 : some (11, false) = some (t2, n2) := h
        cases e9
        exact ⟨q17, Ra0_4, tq17⟩
      · have e9 : some (10, false) = some (t2, n2) := h
        cases e9
        exact ⟨q21, Ra0_5, tq21⟩
      · have e9 : some (8, false) = some (t2, n2) := h
        cases e9
        exact ⟨q25, Ra0_6, tq25⟩
      · have e9 : some (3, false) = some (t2, n2) := h
        cases e9
        exact ⟨q29, Ra0_7, tq29⟩)
  replace hZ := hZ.rt (a := a0) (t := 12) (Or.inl rfl)
  replace hQ := hQ.rt (a := a0) (t := 12) t_a0 (by decide) (by decide) rfl rfl
  replace tq1 := h_rtk (t := 12) tq1 t_a0 (by decide)
  replace tq5 := h_rtk (t := 12) tq5 t_a0 (by decide)
  replace tq9 := h_rtk (t := 12) tq9 t_a0 (by decide)
  replace tq13 := h_rtk (t := 12) tq13 t_a0 (by decide)
  replace tq17 := h_rtk (t := 12) tq17 t_a0 (by decide)
  replace tq21 := h_rtk (t := 12) tq21 t_a0 (by decide)
  replace tq25 := h_rtk (t := 12) tq25 t_a0 (by decide)
  replace tq29 := h_rtk (t := 12) tq29 t_a0 (by decide)
  replace t_a0 : (z.rt a0 12).ty a0 = 12 := rt_e
  replace Ra0_0 : (z.rt a0 12).R a0 0 = some q1 := Ra0_0
  replace Ra0_1 : (z.rt a0 12).R a0 1 = some q5 := Ra0_1
  replace Ra0_2 : (z.rt a0 12).R a0 2 = some q9 := Ra0_2
  replace Ra0_3 : (z.rt a0 12).R a0 3 = some q13 := Ra0_3
  replace Ra0_4 : (z.rt a0 12).R a0 4 = some q17 := Ra0_4
  replace Ra0_5 : (z.rt a0 12).R a0 5 = some q21 := Ra0_5
  replace Ra0_6 : (z.rt a0 12).R a0 6 = some q25 := Ra0_6
  replace Ra0_7 : (z.rt a0 12).R a0 7 = some q29 := Ra0_7
  obtain ⟨z, ez⟩ : ∃ z1 : tZ, z1 = (z.rt a0 12) := ⟨_, rfl⟩
  rw [← ez] at g hI hR hZ hQ t_a0 tq1 tq5 tq9 tq13 tq17 tq21 tq25 tq29 Ra0_0 Ra0_1 Ra0_2 Ra0_3 Ra0_4 Ra0_5 Ra0_6 Ra0_7
  clear ez
  replace hF : h_F [(600, 999), (601, 999), (6, 2), (54, 3), (1100, 999)] z I0 I0 := h_F.rf
  have rq1 := Ra0_0
  have rq5 := Ra0_1
  have rq9 := Ra0_2
  have rq13 := Ra0_3
  have rq17 := Ra0_4
  have rq21 := Ra0_5
  have rq25 := Ra0_6
  have rq29 := Ra0_7
  replace hZ := hZ.tcall hF rfl
  replace hQ := hQ.tc hF rfl
  replace hS := g.2.1
  exact W.vret hx hb hr (fun t ht hW => ⟨⟨(z, I0, L32), rfl, ⟨hI, hR, hZ, hQ, t_a0, ⟨(by show I0 (h_ad z a0 0) 1 = 0; rw [h_ad.at Ra0_0]; exact kf_q1_1), (by show I0 (h_ad z a0 3) 2 = 0; rw [h_ad.at Ra0_3]; exact kf_q13_2), (by show I0 (h_ad z a0 3) 3 = 0; rw [h_ad.at Ra0_3]; exact kf_q13_3)⟩⟩, h_ret g ht⟩, hS.F ht⟩) hS.2.2 dX11_init_112
