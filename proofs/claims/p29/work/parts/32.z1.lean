set_option maxHeartbeats 4000000 in
set_option maxRecDepth 100000 in
theorem zX8_init (l : Launch) (E : tE) (X : tX) (A : Nat → Prop) (z0 : tZ) (J0 : tI) (K0 : tL) (a0 : Nat) (t_a0 : z0.ty a0 = 58) (h_z0 : J0 a0 = fun _ => 0) (hU : h_U z0) : Met l yX8_init wsX8_init ({ frames := 1, cells := 1, slots := 500, locals := 64 }) (va_Pc [.ref a0] (h_P E X A z0 J0 K0)) (va_Qv (fun (q1 : tZ × tI × tL) => h_I q1.1 q1.2.1 ∧ h_R q1.1 ∧ h_X [] [] (some a0) z0 J0 K0 q1.1 q1.2.1 q1.2.2 ∧ h_Q [] (some a0) z0 q1.1 q1.2.1 ∧ q1.1.ty a0 = 9 ∧ (∀ k : Nat, q1.2.1 a0 k = 0)) (fun (q1 : tZ × tI × tL) t => h_B E A q1.1 q1.2.1 q1.2.2 t) A) 1 500 A := by
  refine Met.ofW (cc := cX8_init) (maxL := 1) (ret := none) (by decide) rfl ?_
  intro pr_ ev_ s m args below meth cd_ s₁ B hml hv
  obtain ⟨rfl, hE, hk, hX, hA, hK, hI, hR, hB0⟩ := hv
  obtain ⟨z, ez0⟩ : ∃ z : tZ, z = z0 := ⟨_, rfl⟩
  obtain ⟨I0, eJ0⟩ : ∃ I0 : tI, I0 = J0 := ⟨_, rfl⟩
  obtain ⟨L0, eK0⟩ : ∃ L0 : tL, L0 = K0 := ⟨_, rfl⟩
  rw [← ez0, ← eJ0] at hI
  rw [← ez0] at hR t_a0
  rw [← ez0, ← eJ0, ← eK0] at hB0
  rw [← eJ0] at h_z0
  have g : h_G h_so h_fk E A z I0 L0 s s.heap s.heap [] := ⟨hK, va_S.rf, hB0⟩
  replace hF : h_F [] z I0 I0 := h_F.rf
  have hx := B.exec
  have hb := B.bytes
  have hr := B.returns
  have hts := atoms_spec (ws := wsX8_init) B.pre
  have hown : s.vm.findClass RX8 = some m.cls := findClass_of_methodNamed B.named
  have hlocks := B.notSynchronized
  have iX8 : ∀ w ∈ u_ws RX8 TX8 2, w ∈ wsX8_init := by decide +kernel
  have hl := lv_entry ([.ref a0]) (n := 1) (Nat.le_of_ble_eq_true rfl)
  rw [lg_entry_eq]
  generalize (lg_sl ([.ref a0]) ++ List.replicate (1 - (lg_sl ([.ref a0])).length) Slot.unset).toArray = ls at hl ⊢
  have hl : lv_has ls 1 [(0, .ref a0)] := hl
  have hin : meth.name = "<init>" := (name_of_methodNamed B.named B.method).1
  replace hZ : h_X [] [] (some a0) z0 J0 K0 z I0 L0 := by rw [ez0, eJ0, eK0]; exact h_X.rf
  replace hz : I0 a0 = (fun _ => 0) := h_z0
  replace hQ : h_Q [] (some a0) z0 z I0 := by rw [ez0]; exact h_Q.rf hU (fun b hb => by cases hb; exact h_z0)
  refine lv_aload_n hx hb dX8_init_0 rfl (lv_at hl 0 rfl) ?_
  refine W.objInit hx hb hown (hts (.methodLink RX8 3 objectInit) (by decide +kernel)) (hts (.instanceMethod objectInit) (by decide +kernel)) (hts (.code objectInit ⟨#[0xb1]⟩ 1 none) (List.mem_of_getElem? (i := 3) rfl)) rfl (by rw [hml]; exact hl.1) rfl dX8_init_1 (Nat.le_of_ble_eq_true rfl) (Nat.le_of_ble_eq_true rfl) ?_
  refine W.eq (g2 := F0 m 4 ls []) rfl ?_
  refine lv_aload_n hx hb dX8_init_4 rfl (lv_at hl 0 rfl) ?_
  refine lv_sipush (v := 500) hx hb dX8_init_5 (by decide) ?_
  replace hZ := hZ.tcall hF rfl
  replace hQ := hQ.tc hF rfl
  refine h_newB hx hb (hts (.arrayClass .byte) (by decide +kernel)) g hA so_900 (by decide) (by decide) (by decide) (Nat.le_of_ble_eq_true rfl) (Nat.le_of_ble_eq_true rfl) dX8_init_8 (fun q1 H hq0 g => ?_)
  have n_q1 := hZ.fresh hq0 (fun h => h_neq t_a0 (by decide) hq0 (Option.some.inj h).symm)
  replace hu_q1 := hQ.1.u (q := q1) (t := 900) hq0
  replace hQ := hQ.nw (q := q1) (t := 900) hq0 (by decide)
  replace hI := hI.nw (q := q1) (t := 900) (f := fun _ => none)
  replace hR := hR.nw (q := q1) (t := 900) (f := fun _ => none) hq0 (fun k t2 n2 h => by cases (show (none : Option (Nat × Bool)) = some (t2, n2) from h))
  replace hZ := hZ.nw (q := q1) (t := 900) (f := fun _ => none) hq0 (L2 := L0) (fun _ _ => rfl)
  replace hz : h_row I0 q1 (fun _ => 0) a0 = (fun _ => 0) := (h_row_n (h_neq t_a0 (by decide) hq0)).trans hz
  replace t_a0 := h_nwk (q := q1) (t := 900) (f := fun _ => none) hq0 t_a0 (by decide)
  replace tq1 : (z.nw q1 900 (fun _ => none)).ty q1 = 900 := nw_te
  obtain ⟨z, ez⟩ : ∃ z1 : tZ, z1 = (z.nw q1 900 (fun _ => none)) := ⟨_, rfl⟩
  rw [← ez] at g hI hR hZ hQ hu_q1 t_a0 tq1 
  clear ez
  obtain ⟨I0, eI⟩ : ∃ J : tI, J = h_row I0 q1 (fun _ => 0) := ⟨_, rfl⟩
  rw [← eI] at g hI hZ hQ hz
  clear eI
  replace hF : h_F [] z I0 I0 := h_F.rf
  refine W.cs (cells' := 1) (slots' := 500) rfl rfl ?_
  replace hZ := hZ.tcall hF rfl
  replace hQ := hQ.tc hF rfl
  refine h_putR (ty := tyX8 0) (v := q1) hx hb hts iX8 tyX8 tyX8_ok nmX8 hown g t_a0 (by decide) so_58 rfl 0 (by decide) rfl (hts (.fieldLink RX8 11 "CapLeague$Tape" "bytes" "[B") (by decide +kernel)) rfl rfl hin rfl (by decide +kernel) rfl rfl dX8_init_10 (fun H locs g => ?_)
  replace hQ := hQ.wR (a := a0) (k := 0) (v := q1) t_a0 (by decide) tq1 (by decide) (fun h9 => ⟨hu_q1, n_q1⟩)
  replace hR := hR.wR (k0 := 0) (v := some q1) t_a0 (fun _ => rfl)
  replace hZ := hZ.wR (a := a0) (k := 0) (v := some q1) (Or.inl rfl)
  replace hI : h_I (z.wR a0 0 (some q1)) I0 := hI
  replace t_a0 : (z.wR a0 0 (some q1)).ty a0 = 58 := t_a0
  replace tq1 : (z.wR a0 0 (some q1)).ty q1 = 900 := tq1
  replace Ra0_0 : (z.wR a0 0 (some q1)).R a0 0 = some q1 := h_up_eq
  obtain ⟨z, ez⟩ : ∃ z1 : tZ, z1 = (z.wR a0 0 (some q1)) := ⟨_, rfl⟩
  rw [← ez] at g hI hR hZ hQ t_a0 tq1 Ra0_0
  clear ez
  replace hF : h_F [] z I0 I0 := h_F.rf
  replace hZ := hZ.tcall hF rfl
  replace hQ := hQ.tc hF rfl
  have g := g.rt (a := a0) (t := 9) (by rw [t_a0]; decide) (by rw [t_a0]; rfl)
  replace hI := hI.rt (a := a0) (t := 9) (fun k => by
      rw [hz]
      exact h_bd0 9 k)
  replace hR := hR.rt (t := 9) t_a0 (by decide) (by decide) (fun k t2 n2 h hk => by
      have hk9 : k < 2 := hk
      rcases (show k = 0 ∨ k = 1 by omega) with rfl | rfl
      · have e9 : some (900, false) = some (t2, n2) := h
        cases e9
        exact ⟨q1, Ra0_0, tq1⟩
      · cases (show (none : Option (Nat × Bool)) = some (t2, n2) from h))
  replace hZ := hZ.rt (a := a0) (t := 9) (Or.inl rfl)
  replace hQ := hQ.rt (a := a0) (t := 9) t_a0 (by decide) (by decide) rfl rfl
  replace tq1 := h_rtk (t := 9) tq1 t_a0 (by decide)
  replace t_a0 : (z.rt a0 9).ty a0 = 9 := rt_e
  replace Ra0_0 : (z.rt a0 9).R a0 0 = some q1 := Ra0_0
  obtain ⟨z, ez⟩ : ∃ z1 : tZ, z1 = (z.rt a0 9) := ⟨_, rfl⟩
  rw [← ez] at g hI hR hZ hQ t_a0 tq1 Ra0_0
  clear ez
  replace hF : h_F [] z I0 I0 := h_F.rf
  have rq1 := Ra0_0
  replace hZ := hZ.tcall hF rfl
  replace hQ := hQ.tc hF rfl
  replace hS := g.2.1
  exact W.vret hx hb hr (fun t ht hW => ⟨⟨(z, I0, L0), rfl, ⟨hI, hR, hZ, hQ, t_a0, (fun k => by show I0 a0 k = 0; rw [hz])⟩, h_ret g ht⟩, hS.F ht⟩) hS.2.2 dX8_init_13
set_option maxHeartbeats 4000000 in
set_option maxRecDepth 100000 in
theorem zX1_init (l : Launch) (E : tE) (X : tX) (A : Nat → Prop) (z0 : tZ) (J0 : tI) (K0 : tL) (a0 : Nat) (t_a0 : z0.ty a0 = 51) (h_z0 : J0 a0 = fun _ => 0) (hU : h_U z0) : Met l yX1_init wsX1_init ({ frames := 1, cells := 0, slots := 0, locals := 64 }) (va_Pc [.ref a0] (h_P E X A z0 J0 K0)) (va_Qv (fun (q1 : tZ × tI × tL) => h_I q1.1 q1.2.1 ∧ h_R q1.1 ∧ h_X [] [] (some a0) z0 J0 K0 q1.1 q1.2.1 q1.2.2 ∧ h_Q [] (some a0) z0 q1.1 q1.2.1 ∧ q1.1.ty a0 = 2 ∧ True) (fun (q1 : tZ × tI × tL) t => h_B E A q1.1 q1.2.1 q1.2.2 t) A) 0 0 A := by
  refine Met.ofW (cc := cX1_init) (maxL := 1) (ret := none) (by decide) rfl ?_
  intro pr_ ev_ s m args below meth cd_ s₁ B hml hv
  obtain ⟨rfl, hE, hk, hX, hA, hK, hI, hR, hB0⟩ := hv
  obtain ⟨z, ez0⟩ : ∃ z : tZ, z = z0 := ⟨_, rfl⟩
  obtain ⟨I0, eJ0⟩ : ∃ I0 : tI, I0 = J0 := ⟨_, rfl⟩
  obtain ⟨L0, eK0⟩ : ∃ L0 : tL, L0 = K0 := ⟨_, rfl⟩
  rw [← ez0, ← eJ0] at hI
  rw [← ez0] at hR t_a0
  rw [← ez0, ← eJ0, ← eK0] at hB0
  rw [← eJ0] at h_z0
  have g : h_G h_so h_fk E A z I0 L0 s s.heap s.heap [] := ⟨hK, va_S.rf, hB0⟩
  replace hF : h_F [] z I0 I0 := h_F.rf
  have hx := B.exec
  have hb := B.bytes
  have hr := B.returns
  have hts := atoms_spec (ws := wsX1_init) B.pre
  have hown : s.vm.findClass RX1 = some m.cls := findClass_of_methodNamed B.named
  have hlocks := B.notSynchronized
  have hl := lv_entry ([.ref a0]) (n := 1) (Nat.le_of_ble_eq_true rfl)
  rw [lg_entry_eq]
  generalize (lg_sl ([.ref a0]) ++ List.replicate (1 - (lg_sl ([.ref a0])).length) Slot.unset).toArray = ls at hl ⊢
  have hl : lv_has ls 1 [(0, .ref a0)] := hl
  have hin : meth.name = "<init>" := (name_of_methodNamed B.named B.method).1
  replace hZ : h_X [] [] (some a0) z0 J0 K0 z I0 L0 := by rw [ez0, eJ0, eK0]; exact h_X.rf
  replace hz : I0 a0 = (fun _ => 0) := h_z0
  replace hQ : h_Q [] (some a0) z0 z I0 := by rw [ez0]; exact h_Q.rf hU (fun b hb => by cases hb; exact h_z0)
  refine lv_aload_n hx hb dX1_init_0 rfl (lv_at hl 0 rfl) ?_
  refine W.objInit hx hb hown (hts (.methodLink RX1 3 objectInit) (by decide +kernel)) (hts (.instanceMethod objectInit) (by decide +kernel)) (hts (.code objectInit ⟨#[0xb1]⟩ 1 none) (List.mem_of_getElem? (i := 3) rfl)) rfl (by rw [hml]; exact hl.1) rfl dX1_init_1 (Nat.le_of_ble_eq_true rfl) (Nat.le_of_ble_eq_true rfl) ?_
  refine W.eq (g2 := F0 m 4 ls []) rfl ?_
  replace hZ := hZ.tcall hF rfl
  replace hQ := hQ.tc hF rfl
  have g := g.rt (a := a0) (t := 2) (by rw [t_a0]; decide) (by rw [t_a0]; rfl)
  replace hI := hI.rt (a := a0) (t := 2) (fun k => by
      rw [hz]
      exact h_bd0 2 k)
  replace hR := hR.rt (t := 2) t_a0 (by decide) (by decide) (fun k t2 n2 h hk => by
      have hk9 : k < 4 := hk
      rcases (show k = 0 ∨ k = 1 ∨ k = 2 ∨ k = 3 by omega) with rfl | rfl | rfl | rfl
      · cases (show (none : Option (Nat × Bool)) = some (t2, n2) from h)
      · cases (show (none : Option (Nat × Bool)) = some (t2, n2) from h)
      · cases (show (none : Option (Nat × Bool)) = some (t2, n2) from h)
      · cases (show (none : Option (Nat × Bool)) = some (t2, n2) from h))
  replace hZ := hZ.rt (a := a0) (t := 2) (Or.inl rfl)
  replace hQ := hQ.rt (a := a0) (t := 2) t_a0 (by decide) (by decide) rfl rfl
  replace t_a0 : (z.rt a0 2).ty a0 = 2 := rt_e
  obtain ⟨z, ez⟩ : ∃ z1 : tZ, z1 = (z.rt a0 2) := ⟨_, rfl⟩
  rw [← ez] at g hI hR hZ hQ t_a0 
  clear ez
  replace hF : h_F [] z I0 I0 := h_F.rf
  replace hZ := hZ.tcall hF rfl
  replace hQ := hQ.tc hF rfl
  replace hS := g.2.1
  exact W.vret hx hb hr (fun t ht hW => ⟨⟨(z, I0, L0), rfl, ⟨hI, hR, hZ, hQ, t_a0, trivial⟩, h_ret g ht⟩, hS.F ht⟩) hS.2.2 dX1_init_4
set_option maxHeartbeats 4000000 in
set_option maxRecDepth 100000 in
theorem zX2_init (l : Launch) (E : tE) (X : tX) (A : Nat → Prop) (z0 : tZ) (J0 : tI) (K0 : tL) (a0 : Nat) (t_a0 : z0.ty a0 = 52) (h_z0 : J0 a0 = fun _ => 0) (hU : h_U z0) : Met l yX2_init wsX2_init ({ frames := 1, cells := 24, slots := 198, locals := 64 }) (va_Pc [.ref a0] (h_P E X A z0 J0 K0)) (va_Qv (fun (q1 : tZ × tI × tL) => h_I q1.1 q1.2.1 ∧ h_R q1.1 ∧ h_X [] [] (some a0) z0 J0 K0 q1.1 q1.2.1 q1.2.2 ∧ h_Q [] (some a0) z0 q1.1 q1.2.1 ∧ q1.1.ty a0 = 3 ∧ True) (fun (q1 : tZ × tI × tL) t => h_B E A q1.1 q1.2.1 q1.2.2 t) A) 24 198 A := by
  refine Met.ofW (cc := cX2_init) (maxL := 1) (ret := none) (by decide) rfl ?_
  intro pr_ ev_ s m args below meth cd_ s₁ B hml hv
  obtain ⟨rfl, hE, hk, hX, hA, hK, hI, hR, hB0⟩ := hv
  obtain ⟨z, ez0⟩ : ∃ z : tZ, z = z0 := ⟨_, rfl⟩
  obtain ⟨I0, eJ0⟩ : ∃ I0 : tI, I0 = J0 := ⟨_, rfl⟩
  obtain ⟨L0, eK0⟩ : ∃ L0 : tL, L0 = K0 := ⟨_, rfl⟩
  rw [← ez0, ← eJ0] at hI
  rw [← ez0] at hR t_a0
  rw [← ez0, ← eJ0, ← eK0] at hB0
  rw [← eJ0] at h_z0
  have g : h_G h_so h_fk E A z I0 L0 s s.heap s.heap [] := ⟨hK, va_S.rf, hB0⟩
  replace hF : h_F [] z I0 I0 := h_F.rf
  have hx := B.exec
  have hb := B.bytes
  have hr := B.returns
  have hts := atoms_spec (ws := wsX2_init) B.pre
  have hown : s.vm.findClass RX2 = some m.cls := findClass_of_methodNamed B.named
  have hlocks := B.notSynchronized
  have iX2 : ∀ w ∈ u_ws RX2 TX2 7, w ∈ wsX2_init := by decide +kernel
  have hl := lv_entry ([.ref a0]) (n := 1) (Nat.le_of_ble_eq_true rfl)
  rw [lg_entry_eq]
  generalize (lg_sl ([.ref a0]) ++ List.replicate (1 - (lg_sl ([.ref a0])).length) Slot.unset).toArray = ls at hl ⊢
  have hl : lv_has ls 1 [(0, .ref a0)] := hl
  have hin : meth.name = "<init>" := (name_of_methodNamed B.named B.method).1
  replace hZ : h_X [] [] (some a0) z0 J0 K0 z I0 L0 := by rw [ez0, eJ0, eK0]; exact h_X.rf
  replace hz : I0 a0 = (fun _ => 0) := h_z0
  replace hQ : h_Q [] (some a0) z0 z I0 := by rw [ez0]; exact h_Q.rf hU (fun b hb => by cases hb; exact h_z0)
  refine lv_aload_n hx hb dX2_init_0 rfl (lv_at hl 0 rfl) ?_
  refine W.objInit hx hb hown (hts (.methodLink RX2 3 objectInit) (by decide +kernel)) (hts (.instanceMethod objectInit) (by decide +kernel)) (hts (.code objectInit ⟨#[0xb1]⟩ 1 none) (List.mem_of_getElem? (i := 3) rfl)) rfl (by rw [hml]; exact hl.1) rfl dX2_init_1 (Nat.le_of_ble_eq_true rfl) (Nat.le_of_ble_eq_true rfl) ?_
  refine W.eq (g2 := F0 m 4 ls []) rfl ?_
  refine lv_aload_n hx hb dX2_init_4 rfl (lv_at hl 0 rfl) ?_
  refine lv_bipush (v := 8) hx hb dX2_init_5 (by decide) ?_
  replace hZ := hZ.tcall hF rfl
  replace hQ := hQ.tc hF rfl
  refine h_newI hx hb (hts (.arrayClass .int) (by decide +kernel)) g hA so_300 (by decide) (by decide) (by decide) (Nat.le_of_ble_eq_true rfl) (Nat.le_of_ble_eq_true rfl) dX2_init_7 (fun q1 H hq0 g => ?_)
  have n_q1 := hZ.fresh hq0 (fun h => h_neq t_a0 (by decide) hq0 (Option.some.inj h).symm)
  replace hu_q1 := hQ.1.u (q := q1) (t := 300) hq0
  replace hQ := hQ.nw (q := q1) (t := 300) hq0 (by decide)
  replace hI := hI.nw (q := q1) (t := 300) (f := fun _ => none)
  replace hR := hR.nw (q := q1) (t := 300) (f := fun _ => none) hq0 (fun k t2 n2 h => by cases (show (none : Option (Nat × Bool)) = some (t2, n2) from h))
  replace hZ := hZ.nw (q := q1) (t := 300) (f := fun _ => none) hq0 (L2 := L0) (fun _ _ => rfl)
  replace hz : h_row I0 q1 (fun _ => 0) a0 = (fun _ => 0) := (h_row_n (h_neq t_a0 (by decide) hq0)).trans hz
  replace t_a0 := h_nwk (q := q1) (t := 300) (f := fun _ => none) hq0 t_a0 (by decide)
  replace tq1 : (z.nw q1 300 (fun _ => none)).ty q1 = 300 := nw_te
  obtain ⟨z, ez⟩ : ∃ z1 : tZ, z1 = (z.nw q1 300 (fun _ => none)) := ⟨_, rfl⟩
  rw [← ez] at g hI hR hZ hQ hu_q1 t_a0 tq1 
  clear ez
  obtain ⟨I0, eI⟩ : ∃ J : tI, J = h_row I0 q1 (fun _ => 0) := ⟨_, rfl⟩
  rw [← eI] at g hI hZ hQ hz
  clear eI
  replace hF : h_F [] z I0 I0 := h_F.rf
  refine W.cs (cells' := 1) (slots' := 8) rfl rfl ?_
  replace hZ := hZ.tcall hF rfl
  replace hQ := hQ.tc hF rfl
  refine h_putR (ty := tyX2 0) (v := q1) hx hb hts iX2 tyX2 tyX2_ok nmX2 hown g t_a0 (by decide) so_52 rfl 0 (by decide) rfl (hts (.fieldLink RX2 9 "CapLeague$Draft" "ranks" "[I") (by decide +kernel)) rfl rfl hin rfl (by decide +kernel) rfl rfl dX2_init_9 (fun H locs g => ?_)
  replace hQ := hQ.wR (a := a0) (k := 0) (v := q1) t_a0 (by decide) tq1 (by decide) (fun h9 => ⟨hu_q1, n_q1⟩)
  replace hR := hR.wR (k0 := 0) (v := some q1) t_a0 (fun _ => rfl)
  replace hZ := hZ.wR (a := a0) (k := 0) (v := some q1) (Or.inl rfl)
  replace hI : h_I (z.wR a0 0 (some q1)) I0 := hI
  replace t_a0 : (z.wR a0 0 (some q1)).ty a0 = 52 := t_a0
  replace tq1 : (z.wR a0 0 (some q1)).ty q1 = 300 := tq1
  replace Ra0_0 : (z.wR a0 0 (some q1)).R a0 0 = some q1 := h_up_eq
  obtain ⟨z, ez⟩ : ∃ z1 : tZ, z1 = (z.wR a0 0 (some q1)) := ⟨_, rfl⟩
  rw [← ez] at g hI hR hZ hQ t_a0 tq1 Ra0_0
  clear ez
  replace hF : h_F [] z I0 I0 := h_F.rf
  refine lv_aload_n hx hb dX2_init_12 rfl (lv_at hl 0 rfl) ?_
  refine lv_bipush (v := 10) hx hb dX2_init_13 (by decide) ?_
  replace hZ := hZ.tcall hF rfl
  replace hQ := hQ.tc hF rfl
  refine h_newZ hx hb (hts (.arrayClass .boolean) (by decide +kernel)) g hA so_302 (by decide) (by decide) (by decide) (Nat.le_of_ble_eq_true rfl) (Nat.le_of_ble_eq_true rfl) dX2_init_15 (fun q2 H hq0 g => ?_)
  have n_q2 := hZ.fresh hq0 (fun h => h_neq t_a0 (by decide) hq0 (Option.some.inj h).symm)
  replace hu_q2 := hQ.1.u (q := q2) (t := 302) hq0
  replace hQ := hQ.nw (q := q2) (t := 302) hq0 (by decide)
  replace hI := hI.nw (q := q2) (t := 302) (f := fun _ => none)
  replace hR := hR.nw (q := q2) (t := 302) (f := fun _ => none) hq0 (fun k t2 n2 h => by cases (show (none : Option (Nat × Bool)) = some (t2, n2) from h))
  replace hZ := hZ.nw (q := q2) (t := 302) (f := fun _ => none) hq0 (L2 := L0) (fun _ _ => rfl)
  replace hz : h_row I0 q2 (fun _ => 0) a0 = (fun _ => 0) := (h_row_n (h_neq t_a0 (by decide) hq0)).trans hz
  replace Ra0_0 := h_nwr (q := q2) (t := 302) (f := fun _ => none) hq0 t_a0 (by decide) Ra0_0
  replace t_a0 := h_nwk (q := q2) (t := 302) (f := fun _ => none) hq0 t_a0 (by decide)
  replace tq1 := h_nwk (q := q2) (t := 302) (f := fun _ => none) hq0 tq1 (by decide)
  replace tq2 : (z.nw q2 302 (fun _ => none)).ty q2 = 302 := nw_te
  obtain ⟨z, ez⟩ : ∃ z1 : tZ, z1 = (z.nw q2 302 (fun _ => none)) := ⟨_, rfl⟩
  rw [← ez] at g hI hR hZ hQ hu_q2 t_a0 tq1 tq2 Ra0_0
  clear ez
  obtain ⟨I0, eI⟩ : ∃ J : tI, J = h_row I0 q2 (fun _ => 0) := ⟨_, rfl⟩
  rw [← eI] at g hI hZ hQ hz
  clear eI
  replace hF : h_F [] z I0 I0 := h_F.rf
  refine W.cs (cells' := 2) (slots' := 18) rfl rfl ?_
  replace hZ := hZ.tcall hF rfl
  replace hQ := hQ.tc hF rfl
  refine h_putR (ty := tyX2 2) (v := q2) hx hb hts iX2 tyX2 tyX2_ok nmX2 hown g t_a0 (by decide) so_52 rfl 2 (by decide) rfl (hts (.fieldLink RX2 15 "CapLeague$Draft" "drawn" "[Z") (by decide +kernel)) rfl rfl hin rfl (by decide +kernel) rfl rfl dX2_init_17 (fun H locs g => ?_)
  replace hQ := hQ.wR (a := a0) (k := 2) (v := q2) t_a0 (by decide) tq2 (by decide) (fun h9 => ⟨hu_q2, n_q2⟩)
  replace hR := hR.wR (k0 := 2) (v := some q2) t_a0 (fun _ => rfl)
  replace hZ := hZ.wR (a := a0) (k := 2) (v := some q2) (Or.inl rfl)
  replace hI : h_I (z.wR a0 2 (some q2)) I0 := hI
  replace t_a0 : (z.wR a0 2 (some q2)).ty a0 = 52 := t_a0
  replace tq1 : (z.wR a0 2 (some q2)).ty q1 = 300 := tq1
  replace tq2 : (z.wR a0 2 (some q2)).ty q2 = 302 := tq2
  replace Ra0_0 : (z.wR a0 2 (some q2)).R a0 0 = some q1 := (h_up_at (by decide)).trans Ra0_0
  replace Ra0_2 : (z.wR a0 2 (some q2)).R a0 2 = some q2 := h_up_eq
  obtain ⟨z, ez⟩ : ∃ z1 : tZ, z1 = (z.wR a0 2 (some q2)) := ⟨_, rfl⟩
  rw [← ez] at g hI hR hZ hQ t_a0 tq1 tq2 Ra0_0 Ra0_2
  clear ez
  replace hF : h_F [] z I0 I0 := h_F.rf
  refine lv_aload_n hx hb dX2_init_20 rfl (lv_at hl 0 rfl) ?_
  refine lv_bipush (v := 10) hx hb dX2_init_21 (by decide) ?_
  refine lv_bipush (v := 8) hx hb dX2_init_23 (by decide) ?_
  replace hZ := hZ.tcall hF rfl
  replace hQ := hQ.tc hF rfl
  refine h_newG (N := 10) (M := 8) hx hb hown (hts (.classLink RX2 19 "[[I") (by decide +kernel)) hE.2.2.2.2 (hts (.arrayClass .int) (by decide +kernel)) g hA so_303 so_353 (by decide) (by decide) (by decide) (by decide) (by decide) (by decide) (Nat.le_of_ble_eq_true rfl) (Nat.le_of_ble_eq_true rfl) dX2_init_25 (fun q3 H locs hq0 g => ?_)
  have n_q3 := hZ.fresh (hq0 q3 (Nat.le_refl _) (Nat.le_add_right _ _)) (fun h => h_neq t_a0 (by decide) (hq0 q3 (Nat.le_refl _) (Nat.le_add_right _ _)) (Option.some.inj h).symm)
  replace hu_q3 := hQ.1.ug (q := q3) (t := 303) (tr := 353) hq0
  replace hQ := hQ.nwg (q := q3) (t := 303) (tr := 353) (N := 10) hq0 (by decide) (by decide)
  replace hI := hI.nwg (q := q3) (t := 303) (tr := 353) (N := 10)
  replace hR := hR.nwg (q := q3) (t := 303) (tr := 353) (N := 10) hq0 (fun k t2 n2 h => by have e9 : some (353, false) = some (t2, n2) := h; cases e9; rfl) rfl (fun _ => rfl)
  replace hZ := hZ.nwg (q := q3) (t := 303) (tr := 353) (N := 10) hq0
  replace hz : h_rows I0 q3 10 a0 = (fun _ => 0) := (h_rows_n (fun h => h_neq t_a0 (by decide) (hq0 a0 h.1 h.2) rfl)).trans hz
  replace Ra0_0 := h_ngr (t := 303) (tr := 353) hq0 t_a0 (by decide) Ra0_0
  replace Ra0_2 := h_ngr (t := 303) (tr := 353) hq0 t_a0 (by decide) Ra0_2
  replace t_a0 := h_ngk (t := 303) (tr := 353) hq0 t_a0 (by decide)
  replace tq1 := h_ngk (t := 303) (tr := 353) hq0 tq1 (by decide)
  replace tq2 := h_ngk (t := 303) (tr := 353) hq0 tq2 (by decide)
  replace tq3 : (z.nwg q3 303 353 10).ty q3 = 303 := ng_te
  obtain ⟨z, ez⟩ : ∃ z1 : tZ, z1 = (z.nwg q3 303 353 10) := ⟨_, rfl⟩
  rw [← ez] at g hI hR hZ hQ hu_q3 t_a0 tq1 tq2 tq3 Ra0_0 Ra0_2
  clear ez
  obtain ⟨I0, eI⟩ : ∃ J : tI, J = h_rows I0 q3 10 := ⟨_, rfl⟩
  rw [← eI] at g hI hZ hQ hz
  clear eI
  replace hF : h_F [] z I0 I0 := h_F.rf
  refine W.cs (cells' := 13) (slots' := 108) rfl rfl ?_
  replace hZ := hZ.tcall hF rfl
  replace hQ := hQ.tc hF rfl
  refine h_putR (ty := tyX2 3) (v := q3) hx hb hts iX2 tyX2 tyX2_ok nmX2 hown g t_a0 (by decide) so_52 rfl 3 (by decide) rfl (hts (.fieldLink RX2 21 "CapLeague$Draft" "order" "[[I") (by decide +kernel)) rfl rfl hin rfl (by decide +kernel) rfl rfl dX2_init_29 (fun H locs g => ?_)
  replace hQ := hQ.wR (a := a0) (k := 3) (v := q3) t_a0 (by decide) tq3 (by decide) (fun h9 => ⟨hu_q3, n_q3⟩)
  replace hR := hR.wR (k0 := 3) (v := some q3) t_a0 (fun _ => rfl)
  replace hZ := hZ.wR (a := a0) (k := 3) (v := some q3) (Or.inl rfl)
  replace hI : h_I (z.wR a0 3 (some q3)) I0 := hI
  replace t_a0 : (z.wR a0 3 (some q3)).ty a0 = 52 := t_a0
  replace tq1 : (z.wR a0 3 (some q3)).ty q1 = 300 := tq1
  replace tq2 : (z.wR a0 3 (some q3)).ty q2 = 302 := tq2
  replace tq3 : (z.wR a0 3 (some q3)).ty q3 = 303 := tq3
  replace Ra0_0 : (z.wR a0 3 (some q3)).R a0 0 = some q1 := (h_up_at (by decide)).trans Ra0_0
  replace Ra0_2 : (z.wR a0 3 (some q3)).R a0 2 = some q2 := (h_up_at (by decide)).trans Ra0_2
  replace Ra0_3 : (z.wR a0 3 (some q3)).R a0 3 = some q3 := h_up_eq
  obtain ⟨z, ez⟩ : ∃ z1 : tZ, z1 = (z.wR a0 3 (some q3)) := ⟨_, rfl⟩
  rw [← ez] at g hI hR hZ hQ t_a0 tq1 tq2 tq3 Ra0_0 Ra0_2 Ra0_3
  clear ez
  replace hF : h_F [] z I0 I0 := h_F.rf
  refine lv_aload_n hx hb dX2_init_32 rfl (lv_at hl 0 rfl) ?_
  refine lv_bipush (v := 10) hx hb dX2_init_33 (by decide) ?_
  refine lv_bipush (v := 8) hx hb dX2_init_35 (by decide) ?_
  replace hZ := hZ.tcall hF rfl
  replace hQ := hQ.tc hF rfl
  refine h_newG (N := 10) (M := 8) hx hb hown (hts (.classLink RX2 19 "[[I") (by decide +kernel)) hE.2.2.2.2 (hts (.arrayClass .int) (by decide +kernel)) g hA so_304 so_354 (by decide) (by decide) (by decide) (by decide) (by decide) (by decide) (Nat.le_of_ble_eq_true rfl) (Nat.le_of_ble_eq_true rfl) dX2_init_37 (fun q4 H locs hq0 g => ?_)
  have n_q4 := hZ.fresh (hq0 q4 (Nat.le_refl _) (Nat.le_add_right _ _)) (fun h => h_neq t_a0 (by decide) (hq0 q4 (Nat.le_refl _) (Nat.le_add_right _ _)) (Option.some.inj h).symm)
  replace hu_q4 := hQ.1.ug (q := q4) (t := 304) (tr := 354) hq0
  replace hQ := hQ.nwg (q := q4) (t := 304) (tr := 354) (N := 10) hq0 (by decide) (by decide)
  replace hI := hI.nwg (q := q4) (t := 304) (tr := 354) (N := 10)
  replace hR := hR.nwg (q := q4) (t := 304) (tr := 354) (N := 10) hq0 (fun k t2 n2 h => by have e9 : some (354, false) = some (t2, n2) := h; cases e9; rfl) rfl (fun _ => rfl)
  replace hZ := hZ.nwg (q := q4) (t := 304) (tr := 354) (N := 10) hq0
  replace hz : h_rows I0 q4 10 a0 = (fun _ => 0) := (h_rows_n (fun h => h_neq t_a0 (by decide) (hq0 a0 h.1 h.2) rfl)).trans hz
  replace Ra0_0 := h_ngr (t := 304) (tr := 354) hq0 t_a0 (by decide) Ra0_0
  replace Ra0_2 := h_ngr (t := 304) (tr := 354) hq0 t_a0 (by decide) Ra0_2
  replace Ra0_3 := h_ngr (t := 304) (tr := 354) hq0 t_a0 (by decide) Ra0_3
  replace t_a0 := h_ngk (t := 304) (tr := 354) hq0 t_a0 (by decide)
  replace tq1 := h_ngk (t := 304) (tr := 354) hq0 tq1 (by decide)
  replace tq2 := h_ngk (t := 304) (tr := 354) hq0 tq2 (by decide)
  replace tq3 := h_ngk (t := 304) (tr := 354) hq0 tq3 (by decide)
  replace tq4 : (z.nwg q4 304 354 10).ty q4 = 304 := ng_te
  obtain ⟨z, ez⟩ : ∃ z1 : tZ, z1 = (z.nwg q4 304 354 10) := ⟨_, rfl⟩
  rw [← ez] at g hI hR hZ hQ hu_q4 t_a0 tq1 tq2 tq3 tq4 Ra0_0 Ra0_2 Ra0_3
  clear ez
  obtain ⟨I0, eI⟩ : ∃ J : tI, J = h_rows I0 q4 10 := ⟨_, rfl⟩
  rw [← eI] at g hI hZ hQ hz
  clear eI
  replace hF : h_F [] z I0 I0 := h_F.rf
  refine W.cs (cells' := 24) (slots' := 198) rfl rfl ?_
  replace hZ := hZ.tcall hF rfl
  replace hQ := hQ.tc hF rfl
  refine h_putR (ty := tyX2 4) (v := q4) hx hb hts iX2 tyX2 tyX2_ok nmX2 hown g t_a0 (by decide) so_52 rfl 4 (by decide) rfl (hts (.fieldLink RX2 24 "CapLeague$Draft" "having" "[[I") (by decide +kernel)) rfl rfl hin rfl (by decide +kernel) rfl rfl dX2_init_41 (fun H locs g => ?_)
  replace hQ := hQ.wR (a := a0) (k := 4) (v := q4) t_a0 (by decide) tq4 (by decide) (fun h9 => ⟨hu_q4, n_q4⟩)
  replace hR := hR.wR (k0 := 4) (v := some q4) t_a0 (fun _ => rfl)
  replace hZ := hZ.wR (a := a0) (k := 4) (v := some q4) (Or.inl rfl)
  replace hI : h_I (z.wR a0 4 (some q4)) I0 := hI
  replace t_a0 : (z.wR a0 4 (some q4)).ty a0 = 52 := t_a0
  replace tq1 : (z.wR a0 4 (some q4)).ty q1 = 300 := tq1
  replace tq2 : (z.wR a0 4 (some q4)).ty q2 = 302 := tq2
  replace tq3 : (z.wR a0 4 (some q4)).ty q3 = 303 := tq3
  replace tq4 : (z.wR a0 4 (some q4)).ty q4 = 304 := tq4
  replace Ra0_0 : (z.wR a0 4 (some q4)).R a0 0 = some q1 := (h_up_at (by decide)).trans Ra0_0
  replace Ra0_2 : (z.wR a0 4 (some q4)).R a0 2 = some q2 := (h_up_at (by decide)).trans Ra0_2
  replace Ra0_3 : (z.wR a0 4 (some q4)).R a0 3 = some q3 := (h_up_at (by decide)).trans Ra0_3
  replace Ra0_4 : (z.wR a0 4 (some q4)).R a0 4 = some q4 := h_up_eq
  obtain ⟨z, ez⟩ : ∃ z1 : tZ, z1 = (z.wR a0 4 (some q4)) := ⟨_, rfl⟩
  rw [← ez] at g hI hR hZ hQ t_a0 tq1 tq2 tq3 tq4 Ra0_0 Ra0_2 Ra0_3 Ra0_4
  clear ez
  replace hF : h_F [] z I0 I0 := h_F.rf
  refine lv_aload_n hx hb dX2_init_44 rfl (lv_at hl 0 rfl) ?_
  refine lv_lconst (v := 1) hx hb dX2_init_45 (by decide) ?_
  refine h_putL (ty := .long) (v := 1) hx hb hts iX2 tyX2 tyX2_ok nmX2 hown g t_a0 (by decide) so_52 rfl 6 (by decide) rfl (hts (.fieldLink RX2 27 "CapLeague$Draft" "chanceBelow" "J") (by decide +kernel)) rfl rfl (by decide +kernel) rfl rfl dX2_init_46 (fun L5 H locs eL5 g => ?_)
  replace hZ := hZ.wL eL5 (Or.inl rfl)
  replace hZ := hZ.tcall hF rfl
  replace hQ := hQ.tc hF rfl
  have g := g.rt (a := a0) (t := 3) (by rw [t_a0]; decide) (by rw [t_a0]; rfl)
  replace hI := hI.rt (a := a0) (t := 3) (fun k => by
      rw [hz]
      exact h_bd0 3 k)
  replace hR := hR.rt (t := 3) t_a0 (by decide) (by decide) (fun k t2 n2 h hk => by
      have hk9 : k < 7 := hk
      rcases (show k = 0 ∨ k = 1 ∨ k = 2 ∨ k = 3 ∨ k = 4 ∨ k = 5 ∨ k = 6 by omega) with rfl | rfl | rfl | rfl | rfl | rfl | rfl
      · have e9 : some (300, false) = some (t2, n2) := h
        cases e9
        exact ⟨q1, Ra0_0, tq1⟩
      · cases (show (none : Option (Nat × Bool)) = some (t2, n2) from h)
      · have e9 : some (302, false) = some (t2, n2) := h
        cases e9
        exact ⟨q2, Ra0_2, tq2⟩
      · have e9 : some (303, false) = some (t2, n2) := h
        cases e9
        exact ⟨q3, Ra0_3, tq3⟩
      · have e9 : some (304, false) = some (t2, n2) := h
        cases e9
        exact ⟨q4, Ra0_4, tq4⟩
      · cases (show (none : Option (Nat × Bool)) = some (t2, n2) from h)
      · cases (show (none : Option (Nat × Bool)) = some (t2, n2) from h))
  replace hZ := hZ.rt (a := a0) (t := 3) (Or.inl rfl)
  replace hQ := hQ.rt (a := a0) (t := 3) t_a0 (by decide) (by decide) rfl rfl
  replace tq1 := h_rtk (t := 3) tq1 t_a0 (by decide)
  replace tq2 := h_rtk (t := 3) tq2 t_a0 (by decide)
  replace tq3 := h_rtk (t := 3) tq3 t_a0 (by decide)
  replace tq4 := h_rtk (t := 3) tq4 t_a0 (by decide)
  replace t_a0 : (z.rt a0 3).ty a0 = 3 := rt_e
  replace Ra0_0 : (z.rt a0 3).R a0 0 = some q1 := Ra0_0
  replace Ra0_2 : (z.rt a0 3).R a0 2 = some q2 := Ra0_2
  replace Ra0_3 : (z.rt a0 3).R a0 3 = some q3 := Ra0_3
  replace Ra0_4 : (z.rt a0 3).R a0 4 = some q4 := Ra0_4
  obtain ⟨z, ez⟩ : ∃ z1 : tZ, z1 = (z.rt a0 3) := ⟨_, rfl⟩
  rw [← ez] at g hI hR hZ hQ t_a0 tq1 tq2 tq3 tq4 Ra0_0 Ra0_2 Ra0_3 Ra0_4
  clear ez
  replace hF : h_F [] z I0 I0 := h_F.rf
  have rq1 := Ra0_0
  have rq2 := Ra0_2
  have rq3 := Ra0_3
  have rq4 := Ra0_4
  replace hZ := hZ.tcall hF rfl
  replace hQ := hQ.tc hF rfl
  replace hS := g.2.1
  exact W.vret hx hb hr (fun t ht hW => ⟨⟨(z, I0, L5), rfl, ⟨hI, hR, hZ, hQ, t_a0, trivial⟩, h_ret g ht⟩, hS.F ht⟩) hS.2.2 dX2_init_49
