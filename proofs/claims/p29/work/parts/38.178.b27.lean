set_option maxHeartbeats 4000000 in
set_option maxRecDepth 100000 in
theorem zX10_initB (l : Launch) (E : tE) (X : tX) (A : Nat → Prop) (z0 : tZ) (J0 : tI) (K0 : tL) (a0 : Nat) (t_a0 : z0.ty a0 = 60) (h_z0 : J0 a0 = fun _ => 0) (hU : h_U z0) : Met l yX10_init wsX10_init ({ frames := 1, cells := 12, slots := 888, locals := 64 }) (va_Pc [.ref a0] (h_P E X A z0 J0 K0)) (va_Qv (fun (q1 : tZ × tI × tL) => h_I q1.1 q1.2.1 ∧ h_R q1.1 ∧ h_X [(1100, 999)] [] (some a0) z0 J0 K0 q1.1 q1.2.1 q1.2.2 ∧ h_Q [(1100, 999)] (some a0) z0 q1.1 q1.2.1 ∧ q1.1.ty a0 = 11 ∧ (∀ k : Nat, k < 80 → (q1.2.1 (h_ad q1.1 a0 0) k).toInt = (k : Int) / 10)) (fun (q1 : tZ × tI × tL) t => h_B E A q1.1 q1.2.1 q1.2.2 t) A) 12 888 A := by
  refine Met.ofW (cc := cX10_init) (maxL := 2) (ret := none) (by decide) rfl ?_
  intro pr_ ev_ s m args below meth cd_ s₁ B hml hv
  obtain ⟨rfl, hE, hk, hX, hA, hK, hI, hR, hB0⟩ := hv
  obtain ⟨z, ez0⟩ : ∃ z : tZ, z = z0 := ⟨_, rfl⟩
  obtain ⟨I0, eJ0⟩ : ∃ I0 : tI, I0 = J0 := ⟨_, rfl⟩
  obtain ⟨L0, eK0⟩ : ∃ L0 : tL, L0 = K0 := ⟨_, rfl⟩
  rw [← ez0, ← eJ0] at hI
  rw [← ez0] at hR t_a0
  rw [← ez0, ← eJ0, ← eK0] at hB0
  rw [← eJ0] at h_z0
  have g : h_G h_so h_fk E A z I0 L0 s s.heap s.heap [] := ⟨hK, va_S.rf, hB0⟩
  replace hF : h_F [(1100, 999)] z I0 I0 := h_F.rf
  have hx := B.exec
  have hb := B.bytes
  have hr := B.returns
  have hts := atoms_spec (ws := wsX10_init) B.pre
  have hown : s.vm.findClass RX10 = some m.cls := findClass_of_methodNamed B.named
  have hlocks := B.notSynchronized
  have iX10 : ∀ w ∈ u_ws RX10 TX10 4, w ∈ wsX10_init := by decide +kernel
  have hl := lv_entry ([.ref a0]) (n := 2) (Nat.le_of_ble_eq_true rfl)
  rw [lg_entry_eq]
  generalize (lg_sl ([.ref a0]) ++ List.replicate (2 - (lg_sl ([.ref a0])).length) Slot.unset).toArray = ls at hl ⊢
  have hl : lv_has ls 2 [(0, .ref a0)] := hl
  have hin : meth.name = "<init>" := (name_of_methodNamed B.named B.method).1
  replace hZ : h_X [(1100, 999)] [] (some a0) z0 J0 K0 z I0 L0 := by rw [ez0, eJ0, eK0]; exact h_X.rf
  replace hz : I0 a0 = (fun _ => 0) := h_z0
  replace hQ : h_Q [(1100, 999)] (some a0) z0 z I0 := by rw [ez0]; exact h_Q.rf hU (fun b hb => by cases hb; exact h_z0)
  refine lv_aload_n hx hb dX10_init_0 rfl (lv_at hl 0 rfl) ?_
  refine W.objInit hx hb hown (hts (.methodLink RX10 3 objectInit) (by decide +kernel)) (hts (.instanceMethod objectInit) (by decide +kernel)) (hts (.code objectInit ⟨#[0xb1]⟩ 1 none) (List.mem_of_getElem? (i := 3) rfl)) rfl (by rw [hml]; exact hl.1) rfl dX10_init_1 (Nat.le_of_ble_eq_true rfl) (Nat.le_of_ble_eq_true rfl) ?_
  refine W.eq (g2 := F0 m 4 ls []) rfl ?_
  refine lv_aload_n hx hb dX10_init_4 rfl (lv_at hl 0 rfl) ?_
  refine lv_bipush (v := 80) hx hb dX10_init_5 (by decide) ?_
  replace hZ := hZ.tcall hF rfl
  replace hQ := hQ.tc hF rfl
  refine h_newI hx hb (hts (.arrayClass .int) (by decide +kernel)) g hA so_1100 (by decide) (by decide) (by decide) (Nat.le_of_ble_eq_true rfl) (Nat.le_of_ble_eq_true rfl) dX10_init_7 (fun q1 H hq0 g => ?_)
  have n_q1 := hZ.fresh hq0 (fun h => h_neq t_a0 (by decide) hq0 (Option.some.inj h).symm)
  replace hu_q1 := hQ.1.u (q := q1) (t := 1100) hq0
  replace hQ := hQ.nw (q := q1) (t := 1100) hq0 (by decide)
  replace hI := hI.nw (q := q1) (t := 1100) (f := fun _ => none)
  replace hR := hR.nw (q := q1) (t := 1100) (f := fun _ => none) hq0 (fun k t2 n2 h => by cases (show (none : Option (Nat × Bool)) = some (t2, n2) from h))
  replace hZ := hZ.nw (q := q1) (t := 1100) (f := fun _ => none) hq0 (L2 := L0) (fun _ _ => rfl)
  replace hz : h_row I0 q1 (fun _ => 0) a0 = (fun _ => 0) := (h_row_n (h_neq t_a0 (by decide) hq0)).trans hz
  replace t_a0 := h_nwk (q := q1) (t := 1100) (f := fun _ => none) hq0 t_a0 (by decide)
  replace tq1 : (z.nw q1 1100 (fun _ => none)).ty q1 = 1100 := nw_te
  obtain ⟨z, ez⟩ : ∃ z1 : tZ, z1 = (z.nw q1 1100 (fun _ => none)) := ⟨_, rfl⟩
  rw [← ez] at g hI hR hZ hQ hu_q1 t_a0 tq1 
  clear ez
  obtain ⟨I0, eI⟩ : ∃ J : tI, J = h_row I0 q1 (fun _ => 0) := ⟨_, rfl⟩
  rw [← eI] at g hI hZ hQ hz
  clear eI
  replace hF : h_F [(1100, 999)] z I0 I0 := h_F.rf
  refine W.cs (cells' := 1) (slots' := 80) rfl rfl ?_
  replace hZ := hZ.tcall hF rfl
  replace hQ := hQ.tc hF rfl
  refine h_putR (ty := tyX10 0) (v := q1) hx hb hts iX10 tyX10 tyX10_ok nmX10 hown g t_a0 (by decide) so_60 rfl 0 (by decide) rfl (hts (.fieldLink RX10 11 "CapLeague$Turns" "holder" "[I") (by decide +kernel)) rfl rfl hin rfl (by decide +kernel) rfl rfl dX10_init_9 (fun H locs g => ?_)
  replace hQ := hQ.wR (a := a0) (k := 0) (v := q1) t_a0 (by decide) tq1 (by decide) (fun h9 => ⟨hu_q1, n_q1⟩)
  replace hR := hR.wR (k0 := 0) (v := some q1) t_a0 (fun _ => rfl)
  replace hZ := hZ.wR (a := a0) (k := 0) (v := some q1) (Or.inl rfl)
  replace hI : h_I (z.wR a0 0 (some q1)) I0 := hI
  replace t_a0 : (z.wR a0 0 (some q1)).ty a0 = 60 := t_a0
  replace tq1 : (z.wR a0 0 (some q1)).ty q1 = 1100 := tq1
  replace Ra0_0 : (z.wR a0 0 (some q1)).R a0 0 = some q1 := h_up_eq
  obtain ⟨z, ez⟩ : ∃ z1 : tZ, z1 = (z.wR a0 0 (some q1)) := ⟨_, rfl⟩
  rw [← ez] at g hI hR hZ hQ t_a0 tq1 Ra0_0
  clear ez
  replace hF : h_F [(1100, 999)] z I0 I0 := h_F.rf
  refine lv_aload_n hx hb dX10_init_12 rfl (lv_at hl 0 rfl) ?_
  refine lv_bipush (v := 80) hx hb dX10_init_13 (by decide) ?_
  replace hZ := hZ.tcall hF rfl
  replace hQ := hQ.tc hF rfl
  refine h_newI hx hb (hts (.arrayClass .int) (by decide +kernel)) g hA so_1101 (by decide) (by decide) (by decide) (Nat.le_of_ble_eq_true rfl) (Nat.le_of_ble_eq_true rfl) dX10_init_15 (fun q2 H hq0 g => ?_)
  have n_q2 := hZ.fresh hq0 (fun h => h_neq t_a0 (by decide) hq0 (Option.some.inj h).symm)
  replace hu_q2 := hQ.1.u (q := q2) (t := 1101) hq0
  replace hQ := hQ.nw (q := q2) (t := 1101) hq0 (by decide)
  replace hI := hI.nw (q := q2) (t := 1101) (f := fun _ => none)
  replace hR := hR.nw (q := q2) (t := 1101) (f := fun _ => none) hq0 (fun k t2 n2 h => by cases (show (none : Option (Nat × Bool)) = some (t2, n2) from h))
  replace hZ := hZ.nw (q := q2) (t := 1101) (f := fun _ => none) hq0 (L2 := L0) (fun _ _ => rfl)
  replace hz : h_row I0 q2 (fun _ => 0) a0 = (fun _ => 0) := (h_row_n (h_neq t_a0 (by decide) hq0)).trans hz
  replace Ra0_0 := h_nwr (q := q2) (t := 1101) (f := fun _ => none) hq0 t_a0 (by decide) Ra0_0
  replace t_a0 := h_nwk (q := q2) (t := 1101) (f := fun _ => none) hq0 t_a0 (by decide)
  replace tq1 := h_nwk (q := q2) (t := 1101) (f := fun _ => none) hq0 tq1 (by decide)
  replace tq2 : (z.nw q2 1101 (fun _ => none)).ty q2 = 1101 := nw_te
  obtain ⟨z, ez⟩ : ∃ z1 : tZ, z1 = (z.nw q2 1101 (fun _ => none)) := ⟨_, rfl⟩
  rw [← ez] at g hI hR hZ hQ hu_q2 t_a0 tq1 tq2 Ra0_0
  clear ez
  obtain ⟨I0, eI⟩ : ∃ J : tI, J = h_row I0 q2 (fun _ => 0) := ⟨_, rfl⟩
  rw [← eI] at g hI hZ hQ hz
  clear eI
  replace hF : h_F [(1100, 999)] z I0 I0 := h_F.rf
  refine W.cs (cells' := 2) (slots' := 160) rfl rfl ?_
  replace hZ := hZ.tcall hF rfl
  replace hQ := hQ.tc hF rfl
  refine h_putR (ty := tyX10 1) (v := q2) hx hb hts iX10 tyX10 tyX10_ok nmX10 hown g t_a0 (by decide) so_60 rfl 1 (by decide) rfl (hts (.fieldLink RX10 15 "CapLeague$Turns" "shield" "[I") (by decide +kernel)) rfl rfl hin rfl (by decide +kernel) rfl rfl dX10_init_17 (fun H locs g => ?_)
  replace hQ := hQ.wR (a := a0) (k := 1) (v := q2) t_a0 (by decide) tq2 (by decide) (fun h9 => ⟨hu_q2, n_q2⟩)
  replace hR := hR.wR (k0 := 1) (v := some q2) t_a0 (fun _ => rfl)
  replace hZ := hZ.wR (a := a0) (k := 1) (v := some q2) (Or.inl rfl)
  replace hI : h_I (z.wR a0 1 (some q2)) I0 := hI
  replace t_a0 : (z.wR a0 1 (some q2)).ty a0 = 60 := t_a0
  replace tq1 : (z.wR a0 1 (some q2)).ty q1 = 1100 := tq1
  replace tq2 : (z.wR a0 1 (some q2)).ty q2 = 1101 := tq2
  replace Ra0_0 : (z.wR a0 1 (some q2)).R a0 0 = some q1 := (h_up_at (by decide)).trans Ra0_0
  replace Ra0_1 : (z.wR a0 1 (some q2)).R a0 1 = some q2 := h_up_eq
  obtain ⟨z, ez⟩ : ∃ z1 : tZ, z1 = (z.wR a0 1 (some q2)) := ⟨_, rfl⟩
  rw [← ez] at g hI hR hZ hQ t_a0 tq1 tq2 Ra0_0 Ra0_1
  clear ez
  replace hF : h_F [(1100, 999)] z I0 I0 := h_F.rf
  refine lv_aload_n hx hb dX10_init_20 rfl (lv_at hl 0 rfl) ?_
  refine lv_bipush (v := 80) hx hb dX10_init_21 (by decide) ?_
  replace hZ := hZ.tcall hF rfl
  replace hQ := hQ.tc hF rfl
  refine h_newI hx hb (hts (.arrayClass .int) (by decide +kernel)) g hA so_1102 (by decide) (by decide) (by decide) (Nat.le_of_ble_eq_true rfl) (Nat.le_of_ble_eq_true rfl) dX10_init_23 (fun q3 H hq0 g => ?_)
  have n_q3 := hZ.fresh hq0 (fun h => h_neq t_a0 (by decide) hq0 (Option.some.inj h).symm)
  replace hu_q3 := hQ.1.u (q := q3) (t := 1102) hq0
  replace hQ := hQ.nw (q := q3) (t := 1102) hq0 (by decide)
  replace hI := hI.nw (q := q3) (t := 1102) (f := fun _ => none)
  replace hR := hR.nw (q := q3) (t := 1102) (f := fun _ => none) hq0 (fun k t2 n2 h => by cases (show (none : Option (Nat × Bool)) = some (t2, n2) from h))
  replace hZ := hZ.nw (q := q3) (t := 1102) (f := fun _ => none) hq0 (L2 := L0) (fun _ _ => rfl)
  replace hz : h_row I0 q3 (fun _ => 0) a0 = (fun _ => 0) := (h_row_n (h_neq t_a0 (by decide) hq0)).trans hz
  replace Ra0_0 := h_nwr (q := q3) (t := 1102) (f := fun _ => none) hq0 t_a0 (by decide) Ra0_0
  replace Ra0_1 := h_nwr (q := q3) (t := 1102) (f := fun _ => none) hq0 t_a0 (by decide) Ra0_1
  replace t_a0 := h_nwk (q := q3) (t := 1102) (f := fun _ => none) hq0 t_a0 (by decide)
  replace tq1 := h_nwk (q := q3) (t := 1102) (f := fun _ => none) hq0 tq1 (by decide)
  replace tq2 := h_nwk (q := q3) (t := 1102) (f := fun _ => none) hq0 tq2 (by decide)
  replace tq3 : (z.nw q3 1102 (fun _ => none)).ty q3 = 1102 := nw_te
  obtain ⟨z, ez⟩ : ∃ z1 : tZ, z1 = (z.nw q3 1102 (fun _ => none)) := ⟨_, rfl⟩
  rw [← ez] at g hI hR hZ hQ hu_q3 t_a0 tq1 tq2 tq3 Ra0_0 Ra0_1
  clear ez
  obtain ⟨I0, eI⟩ : ∃ J : tI, J = h_row I0 q3 (fun _ => 0) := ⟨_, rfl⟩
  rw [← eI] at g hI hZ hQ hz
  clear eI
  replace hF : h_F [(1100, 999)] z I0 I0 := h_F.rf
  refine W.cs (cells' := 3) (slots' := 240) rfl rfl ?_
  replace hZ := hZ.tcall hF rfl
  replace hQ := hQ.tc hF rfl
  refine h_putR (ty := tyX10 2) (v := q3) hx hb hts iX10 tyX10 tyX10_ok nmX10 hown g t_a0 (by decide) so_60 rfl 2 (by decide) rfl (hts (.fieldLink RX10 18 "CapLeague$Turns" "giver" "[I") (by decide +kernel)) rfl rfl hin rfl (by decide +kernel) rfl rfl dX10_init_25 (fun H locs g => ?_)
  replace hQ := hQ.wR (a := a0) (k := 2) (v := q3) t_a0 (by decide) tq3 (by decide) (fun h9 => ⟨hu_q3, n_q3⟩)
  replace hR := hR.wR (k0 := 2) (v := some q3) t_a0 (fun _ => rfl)
  replace hZ := hZ.wR (a := a0) (k := 2) (v := some q3) (Or.inl rfl)
  replace hI : h_I (z.wR a0 2 (some q3)) I0 := hI
  replace t_a0 : (z.wR a0 2 (some q3)).ty a0 = 60 := t_a0
  replace tq1 : (z.wR a0 2 (some q3)).ty q1 = 1100 := tq1
  replace tq2 : (z.wR a0 2 (some q3)).ty q2 = 1101 := tq2
  replace tq3 : (z.wR a0 2 (some q3)).ty q3 = 1102 := tq3
  replace Ra0_0 : (z.wR a0 2 (some q3)).R a0 0 = some q1 := (h_up_at (by decide)).trans Ra0_0
  replace Ra0_1 : (z.wR a0 2 (some q3)).R a0 1 = some q2 := (h_up_at (by decide)).trans Ra0_1
  replace Ra0_2 : (z.wR a0 2 (some q3)).R a0 2 = some q3 := h_up_eq
  obtain ⟨z, ez⟩ : ∃ z1 : tZ, z1 = (z.wR a0 2 (some q3)) := ⟨_, rfl⟩
  rw [← ez] at g hI hR hZ hQ t_a0 tq1 tq2 tq3 Ra0_0 Ra0_1 Ra0_2
  clear ez
  replace hF : h_F [(1100, 999)] z I0 I0 := h_F.rf
  refine lv_aload_n hx hb dX10_init_28 rfl (lv_at hl 0 rfl) ?_
  refine lv_bipush (v := 8) hx hb dX10_init_29 (by decide) ?_
  refine lv_bipush (v := 80) hx hb dX10_init_31 (by decide) ?_
  replace hZ := hZ.tcall hF rfl
  replace hQ := hQ.tc hF rfl
  refine h_newG (N := 8) (M := 80) hx hb hown (hts (.classLink RX10 21 "[[I") (by decide +kernel)) hE.2.2.2.2 (hts (.arrayClass .int) (by decide +kernel)) g hA so_1103 so_1153 (by decide) (by decide) (by decide) (by decide) (by decide) (by decide) (Nat.le_of_ble_eq_true rfl) (Nat.le_of_ble_eq_true rfl) dX10_init_33 (fun q4 H locs hq0 g => ?_)
  have n_q4 := hZ.fresh (hq0 q4 (Nat.le_refl _) (Nat.le_add_right _ _)) (fun h => h_neq t_a0 (by decide) (hq0 q4 (Nat.le_refl _) (Nat.le_add_right _ _)) (Option.some.inj h).symm)
  replace hu_q4 := hQ.1.ug (q := q4) (t := 1103) (tr := 1153) hq0
  replace hQ := hQ.nwg (q := q4) (t := 1103) (tr := 1153) (N := 8) hq0 (by decide) (by decide)
  replace hI := hI.nwg (q := q4) (t := 1103) (tr := 1153) (N := 8)
  replace hR := hR.nwg (q := q4) (t := 1103) (tr := 1153) (N := 8) hq0 (fun k t2 n2 h => by have e9 : some (1153, false) = some (t2, n2) := h; cases e9; rfl) rfl (fun _ => rfl)
  replace hZ := hZ.nwg (q := q4) (t := 1103) (tr := 1153) (N := 8) hq0
  replace hz : h_rows I0 q4 8 a0 = (fun _ => 0) := (h_rows_n (fun h => h_neq t_a0 (by decide) (hq0 a0 h.1 h.2) rfl)).trans hz
  replace Ra0_0 := h_ngr (t := 1103) (tr := 1153) hq0 t_a0 (by decide) Ra0_0
  replace Ra0_1 := h_ngr (t := 1103) (tr := 1153) hq0 t_a0 (by decide) Ra0_1
  replace Ra0_2 := h_ngr (t := 1103) (tr := 1153) hq0 t_a0 (by decide) Ra0_2
  replace t_a0 := h_ngk (t := 1103) (tr := 1153) hq0 t_a0 (by decide)
  replace tq1 := h_ngk (t := 1103) (tr := 1153) hq0 tq1 (by decide)
  replace tq2 := h_ngk (t := 1103) (tr := 1153) hq0 tq2 (by decide)
  replace tq3 := h_ngk (t := 1103) (tr := 1153) hq0 tq3 (by decide)
  replace tq4 : (z.nwg q4 1103 1153 8).ty q4 = 1103 := ng_te
  obtain ⟨z, ez⟩ : ∃ z1 : tZ, z1 = (z.nwg q4 1103 1153 8) := ⟨_, rfl⟩
  rw [← ez] at g hI hR hZ hQ hu_q4 t_a0 tq1 tq2 tq3 tq4 Ra0_0 Ra0_1 Ra0_2
  clear ez
  obtain ⟨I0, eI⟩ : ∃ J : tI, J = h_rows I0 q4 8 := ⟨_, rfl⟩
  rw [← eI] at g hI hZ hQ hz
  clear eI
  replace hF : h_F [(1100, 999)] z I0 I0 := h_F.rf
  refine W.cs (cells' := 12) (slots' := 888) rfl rfl ?_
  replace hZ := hZ.tcall hF rfl
  replace hQ := hQ.tc hF rfl
  refine h_putR (ty := tyX10 3) (v := q4) hx hb hts iX10 tyX10 tyX10_ok nmX10 hown g t_a0 (by decide) so_60 rfl 3 (by decide) rfl (hts (.fieldLink RX10 23 "CapLeague$Turns" "worths" "[[I") (by decide +kernel)) rfl rfl hin rfl (by decide +kernel) rfl rfl dX10_init_37 (fun H locs g => ?_)
  replace hQ := hQ.wR (a := a0) (k := 3) (v := q4) t_a0 (by decide) tq4 (by decide) (fun h9 => ⟨hu_q4, n_q4⟩)
  replace hR := hR.wR (k0 := 3) (v := some q4) t_a0 (fun _ => rfl)
  replace hZ := hZ.wR (a := a0) (k := 3) (v := some q4) (Or.inl rfl)
  replace hI : h_I (z.wR a0 3 (some q4)) I0 := hI
  replace t_a0 : (z.wR a0 3 (some q4)).ty a0 = 60 := t_a0
  replace tq1 : (z.wR a0 3 (some q4)).ty q1 = 1100 := tq1
  replace tq2 : (z.wR a0 3 (some q4)).ty q2 = 1101 := tq2
  replace tq3 : (z.wR a0 3 (some q4)).ty q3 = 1102 := tq3
  replace tq4 : (z.wR a0 3 (some q4)).ty q4 = 1103 := tq4
  replace Ra0_0 : (z.wR a0 3 (some q4)).R a0 0 = some q1 := (h_up_at (by decide)).trans Ra0_0
  replace Ra0_1 : (z.wR a0 3 (some q4)).R a0 1 = some q2 := (h_up_at (by decide)).trans Ra0_1
  replace Ra0_2 : (z.wR a0 3 (some q4)).R a0 2 = some q3 := (h_up_at (by decide)).trans Ra0_2
  replace Ra0_3 : (z.wR a0 3 (some q4)).R a0 3 = some q4 := h_up_eq
  obtain ⟨z, ez⟩ : ∃ z1 : tZ, z1 = (z.wR a0 3 (some q4)) := ⟨_, rfl⟩
  rw [← ez] at g hI hR hZ hQ t_a0 tq1 tq2 tq3 tq4 Ra0_0 Ra0_1 Ra0_2 Ra0_3
  clear ez
  replace hF : h_F [(1100, 999)] z I0 I0 := h_F.rf
  replace hZ := hZ.tcall hF rfl
  replace hQ := hQ.tc hF rfl
  have g := g.rt (a := a0) (t := 11) (by rw [t_a0]; decide) (by rw [t_a0]; rfl)
  replace hI := hI.rt (a := a0) (t := 11) (fun k => by
      rw [hz]
      exact h_bd0 11 k)
  replace hR := hR.rt (t := 11) t_a0 (by decide) (by decide) (fun k t2 n2 h hk => by
      have hk9 : k < 4 := hk
      rcases (show k = 0 ∨ k = 1 ∨ k = 2 ∨ k = 3 by omega) with rfl | rfl | rfl | rfl
      · have e9 : some (1100, false) = some (t2, n2) := h
        cases e9
        exact ⟨q1, Ra0_0, tq1⟩
      · have e9 : some (1101, false) = some (t2, n2) := h
        cases e9
        exact ⟨q2, Ra0_1, tq2⟩
      · have e9 : some (1102, false) = some (t2, n2) := h
        cases e9
        exact ⟨q3, Ra0_2, tq3⟩
      · have e9 : some (1103, false) = some (t2, n2) := h
        cases e9
        exact ⟨q4, Ra0_3, tq4⟩)
  replace hZ := hZ.rt (a := a0) (t := 11) (Or.inl rfl)
  replace hQ := hQ.rt (a := a0) (t := 11) t_a0 (by decide) (by decide) rfl rfl
  replace tq1 := h_rtk (t := 11) tq1 t_a0 (by decide)
  replace tq2 := h_rtk (t := 11) tq2 t_a0 (by decide)
  replace tq3 := h_rtk (t := 11) tq3 t_a0 (by decide)
  replace tq4 := h_rtk (t := 11) tq4 t_a0 (by decide)
  replace t_a0 : (z.rt a0 11).ty a0 = 11 := rt_e
  replace Ra0_0 : (z.rt a0 11).R a0 0 = some q1 := Ra0_0
  replace Ra0_1 : (z.rt a0 11).R a0 1 = some q2 := Ra0_1
  replace Ra0_2 : (z.rt a0 11).R a0 2 = some q3 := Ra0_2
  replace Ra0_3 : (z.rt a0 11).R a0 3 = some q4 := Ra0_3
  obtain ⟨z, ez⟩ : ∃ z1 : tZ, z1 = (z.rt a0 11) := ⟨_, rfl⟩
  rw [← ez] at g hI hR hZ hQ t_a0 tq1 tq2 tq3 tq4 Ra0_0 Ra0_1 Ra0_2 Ra0_3
  clear ez
  replace hF : h_F [(1100, 999)] z I0 I0 := h_F.rf
  have rq1 := Ra0_0
  have rq2 := Ra0_1
  have rq3 := Ra0_2
  have rq4 := Ra0_3
  refine lv_iconst (v := 0) hx hb dX10_init_40 (by decide) ?_
  refine lv_istore_n (lv' := [(1, .int 0), (0, .ref a0)]) hx hb dX10_init_41 rfl hl (by decide) rfl (fun ls hl => ?_)
  have loop42_0 : ∀ (n : Nat) (I6 : tI) (H : Heap) (locs : List Loc) (ls : Array Slot) (v5 : Int32), h_G h_so h_fk E A z I6 L0 s s.heap H locs → h_I z I6 → h_F [(1100, 999)] z I0 I6 → lv_has ls 2 [(0, .ref a0), (1, .int v5)] → (0 ≤ v5.toInt ∧ v5.toInt ≤ 80) → (∀ k : Nat, (k : Int) < v5.toInt → (I6 q1 k).toInt = (k : Int) / 10) → (80 - v5.toInt) < (n : Int) → W pr_ l ev_ (headSpec wsX10_init ({ frames := 1, cells := 12, slots := 888, locals := 64 })).room s m ([.ref a0] : List Value).toArray below meth cd_ H locs 12 888 (MQ below (va_Qv (fun (q1 : tZ × tI × tL) => h_I q1.1 q1.2.1 ∧ h_R q1.1 ∧ h_X [(1100, 999)] [] (some a0) z0 J0 K0 q1.1 q1.2.1 q1.2.2 ∧ h_Q [(1100, 999)] (some a0) z0 q1.1 q1.2.1 ∧ q1.1.ty a0 = 11 ∧ (∀ k : Nat, k < 80 → (q1.2.1 (h_ad q1.1 a0 0) k).toInt = (k : Int) / 10)) (fun (q1 : tZ × tI × tL) t => h_B E A q1.1 q1.2.1 q1.2.2 t) A) ([.ref a0] : List Value).toArray s 12 888 A) (F0 m 42 ls []) := by
    intro n
    induction n with
    | zero => intro I6 H locs ls v5 g hI hF hl jv5 hx42_0 hn; exact absurd hn (by omega)
    | succ n ih42 =>
      intro I6 H locs ls v5 g hI hF hl jv5 hx42_0 hn
      refine lv_iload_n hx hb dX10_init_42 rfl (lv_at hl 1 rfl) ?_
      refine lv_bipush (v := 80) hx hb dX10_init_43 (by decide) ?_
      refine lv_icmp_ge (tgt := 64) hx hb dX10_init_45 (by decide) (fun c7 => ?_) (fun c7 => ?_)
      · have ic7 := (xi_le c7 (by decide) rfl : 80 ≤ v5.toInt)
        replace hZ := hZ.tcall hF rfl
        replace hQ := hQ.tc hF rfl
        replace hS := g.2.1
        exact W.vret hx hb hr (fun t ht hW => ⟨⟨(z, I6, L0), rfl, ⟨hI, hR, hZ, hQ, t_a0, (by show ∀ k : Nat, k < 80 → (I6 (h_ad z a0 0) k).toInt = (k : Int) / 10; rw [h_ad.at Ra0_0]; exact fun k hk => hx42_0 k (by omega))⟩, h_ret g ht⟩, hS.F ht⟩) hS.2.2 dX10_init_64
      · have ic7 := (xi_nle c7 (by decide) rfl : v5.toInt < 80)
        refine lv_aload_n hx hb dX10_init_48 rfl (lv_at hl 0 rfl) ?_
        refine h_get (v := .ref q1) hx hb hts iX10 hown g t_a0 (by decide) so_11 rfl 0 (by decide) (hts (.fieldLink RX10 11 "CapLeague$Turns" "holder" "[I") (by decide +kernel)) rfl dX10_init_49 (by show va_rf (z.R a0 0) = _; rw [rq1]; rfl) ?_
        refine lv_iload_n hx hb dX10_init_52 rfl (lv_at hl 1 rfl) ?_
        refine lv_iload_n hx hb dX10_init_53 rfl (lv_at hl 1 rfl) ?_
        refine lv_bipush (v := 10) hx hb dX10_init_54 (by decide) ?_
        refine lv_idiv hx hb dX10_init_56 (by decide) ?_
        refine lv_topi (fun v8 ev8 => ?_)
        have jv8 : v8.toInt = v5.toInt / 10 := xi_div ev8 (by omega) (by decide) (by decide)
        refine h_ast hx hb g tq1 (by decide) so_1100 (xi_in (by omega) (by omega)) dX10_init_57 (fun I9 H locs eI9 g => ?_)
        replace hI := hI.wr eI9 tq1 (rfl : h_bd 1100 _ = ((-2147483648), 2147483647)) (xi_lo _) (Int.le_of_lt_add_one (xi_hi _))
        replace hF := hF.wr eI9 tq1 rfl
        obtain ⟨v10, ev10⟩ : ∃ z : Int32, z = v5 + 1 := ⟨_, rfl⟩
        have jv10 : v10.toInt = v5.toInt + 1 := xi_add ev10 rfl (by decide) (by omega) (by omega)
        refine lv_iinc (v := v10) (lv' := [(1, .int v10), (0, .ref a0)]) hx hb dX10_init_58 hl (k := 1) rfl (by rw [ev10]; rfl) (by decide) rfl (fun ls hl => ?_)
        refine lv_goto (tgt := 42) hx hb dX10_init_61 (by decide) ?_
        exact ih42 I9 _ _ _ v10 g hI hF (lv_sub hl [1, 0] rfl) (by omega) (q_hdO hx42_0 (by omega) eI9 rfl (by omega) (by omega)) (by omega)
  have kc11 : (0 : Int32).toInt = 0 := by decide
  exact loop42_0 _ I0 _ _ _ (0) g hI hF (lv_sub hl [1, 0] rfl) ⟨by decide, by decide⟩ (fun k hk => absurd hk (by omega)) (show (80 - (0 : Int)) < (((80 - (0 : Int)).toNat + 1 : Nat) : Int) by omega)
set_option maxHeartbeats 4000000 in
set_option maxRecDepth 100000 in
theorem zX11_initB (l : Launch) (E : tE) (X : tX) (A : Nat → Prop) (z0 : tZ) (J0 : tI) (K0 : tL) (a0 : Nat) (t_a0 : z0.ty a0 = 61) (h_z0 : J0 a0 = fun _ => 0) (hU : h_U z0) : Met l yX11_init wsX11_init ({ frames := 4, cells := 141, slots := 5849, locals := 256 }) (va_Pc [.ref a0] (h_P E X A z0 J0 K0)) (va_Qv (fun (q1 : tZ × tI × tL) => h_I q1.1 q1.2.1 ∧ h_R q1.1 ∧ h_X [(600, 999), (601, 999), (6, 2), (54, 3), (1100, 999)] [] (some a0) z0 J0 K0 q1.1 q1.2.1 q1.2.2 ∧ h_Q [(600, 999), (601, 999), (6, 2), (54, 3), (1100, 999), (5, 3)] (some a0) z0 q1.1 q1.2.1 ∧ q1.1.ty a0 = 12 ∧ ((h_ad q1.1 (h_ad q1.1 a0 2) 0) = (h_ad q1.1 a0 0)) ∧ ((h_ad q1.1 (h_ad q1.1 a0 3) 0) = (h_ad q1.1 a0 1)) ∧ ((h_ad q1.1 (h_ad q1.1 a0 5) 0) = (h_ad q1.1 a0 3)) ∧ ((h_ad q1.1 (h_ad q1.1 a0 5) 1) = (h_ad q1.1 a0 4)) ∧ ((h_ad q1.1 (h_ad q1.1 a0 6) 0) = (h_ad q1.1 a0 3)) ∧ (q1.1.R (h_ad q1.1 (h_ad q1.1 a0 1) 1) = fun _ => none) ∧ (h_lw q1.2.1 (h_ad q1.1 (h_ad q1.1 a0 1) 0) (h_ad q1.1 (h_ad q1.1 (h_ad q1.1 a0 1) 0) 0) (h_ad q1.1 (h_ad q1.1 (h_ad q1.1 a0 1) 0) 1) q_pl) ∧ (q1.2.1 (h_ad q1.1 a0 2) 2 = 0 ∧ q1.2.1 (h_ad q1.1 a0 2) 3 = -1) ∧ (∀ k : Nat, k < 80 → (q1.2.1 (h_ad q1.1 (h_ad q1.1 a0 4) 0) k).toInt = (k : Int) / 10)) (fun (q1 : tZ × tI × tL) t => h_B E A q1.1 q1.2.1 q1.2.2 t) A) 141 5849 A := by
  refine Met.ofW (cc := cX11_init) (maxL := 1) (ret := none) (by decide) rfl ?_
  intro pr_ ev_ s m args below meth cd_ s₁ B hml hv
  obtain ⟨rfl, hE, hk, hX, hA, hK, hI, hR, hB0⟩ := hv
  obtain ⟨z, ez0⟩ : ∃ z : tZ, z = z0 := ⟨_, rfl⟩
  obtain ⟨I0, eJ0⟩ : ∃ I0 : tI, I0 = J0 := ⟨_, rfl⟩
  obtain ⟨L0, eK0⟩ : ∃ L0 : tL, L0 = K0 := ⟨_, rfl⟩
  rw [← ez0, ← eJ0] at hI
  rw [← ez0] at hR t_a0
  rw [← ez0, ← eJ0, ← eK0] at hB0
  rw [← eJ0] at h_z0
  have g : h_G h_so h_fk E A z I0 L0 s s.heap s.heap [] := ⟨hK, va_S.rf, hB0⟩
  replace hF : h_F [(600, 999), (601, 999), (6, 2), (54, 3), (1100, 999)] z I0 I0 := h_F.rf
  have hx := B.exec
  have hb := B.bytes
  have hr := B.returns
  have hts := atoms_spec (ws := wsX11_init) B.pre
  have hown : s.vm.findClass RX11 = some m.cls := findClass_of_methodNamed B.named
  have hlocks := B.notSynchronized
  have iX8 : ∀ w ∈ u_ws RX8 TX8 2, w ∈ wsX11_init := by decide +kernel
  have iX11 : ∀ w ∈ u_ws RX11 TX11 8, w ∈ wsX11_init := by decide +kernel
  have iX3 : ∀ w ∈ u_ws RX3 TX3 2, w ∈ wsX11_init := by decide +kernel
  have iX4 : ∀ w ∈ u_ws RX4 TX4 9, w ∈ wsX11_init := by decide +kernel
  have iX0 : ∀ w ∈ u_ws RX0 TX0 9, w ∈ wsX11_init := by decide +kernel
  have iX10 : ∀ w ∈ u_ws RX10 TX10 4, w ∈ wsX11_init := by decide +kernel
  have iX9 : ∀ w ∈ u_ws RX9 TX9 10, w ∈ wsX11_init := by decide +kernel
  have iX7 : ∀ w ∈ u_ws RX7 TX7 13, w ∈ wsX11_init := by decide +kernel
  have iX2 : ∀ w ∈ u_ws RX2 TX2 7, w ∈ wsX11_init := by decide +kernel
  have hl := lv_entry ([.ref a0]) (n := 1) (Nat.le_of_ble_eq_true rfl)
  rw [lg_entry_eq]
  generalize (lg_sl ([.ref a0]) ++ List.replicate (1 - (lg_sl ([.ref a0])).length) Slot.unset).toArray = ls at hl ⊢
  have hl : lv_has ls 1 [(0, .ref a0)] := hl
  have hin : meth.name = "<init>" := (name_of_methodNamed B.named B.method).1
  replace hZ : h_X [(600, 999), (601, 999), (6, 2), (54, 3), (1100, 999)] [] (some a0) z0 J0 K0 z I0 L0 := by rw [ez0, eJ0, eK0]; exact h_X.rf
  replace hz : I0 a0 = (fun _ => 0) := h_z0
  replace hQ : h_Q [(600, 999), (601, 999), (6, 2), (54, 3), (1100, 999), (5, 3)] (some a0) z0 z I0 := by rw [ez0]; exact h_Q.rf hU (fun b hb => by cases hb; exact h_z0)
  refine lv_aload_n hx hb dX11_init_0 rfl (lv_at hl 0 rfl) ?_
  refine W.objInit hx hb hown (hts (.methodLink RX11 1 objectInit) (by decide +kernel)) (hts (.instanceMethod objectInit) (by decide +kernel)) (hts (.code objectInit ⟨#[0xb1]⟩ 1 none) (List.mem_of_getElem? (i := 3) rfl)) rfl (by rw [hml]; exact hl.1) rfl dX11_init_1 (Nat.le_of_ble_eq_true rfl) (Nat.le_of_ble_eq_true rfl) ?_
  refine W.eq (g2 := F0 m 4 ls []) rfl ?_
  refine lv_aload_n hx hb dX11_init_4 rfl (lv_at hl 0 rfl) ?_
  replace hZ := hZ.tcall hF rfl
  replace hQ := hQ.tc hF rfl
  refine h_newO (C := RX8) (T := TX8) (N := 2) (ci := 8) hx hb hts iX8 tyX8 tyX8_ok hown (hts (.classLink RX11 7 RX8) (by decide +kernel)) (hts (.instantiable RX8 2) (by decide +kernel)) (hts (.initialized RX8) (by decide +kernel)) g hA rfl so_58 (fun j hj => by rcases (show j = 0 ∨ j = 1 by omega) with rfl | rfl <;> rfl) (Nat.le_of_ble_eq_true rfl) (Nat.le_of_ble_eq_true rfl) dX11_init_5 (fun q1 H hq0 g => ?_)
  have n_q1 := hZ.fresh hq0 (fun h => h_neq t_a0 (by decide) hq0 (Option.some.inj h).symm)
  replace hu_q1 := hQ.1.u (q := q1) (t := 58) hq0
  replace hQ := hQ.nw (q := q1) (t := 58) hq0 (by decide)
  replace hI := hI.nw (q := q1) (t := 58) (f := fun _ => none)
  replace hR := hR.nw (q := q1) (t := 58) (f := fun _ => none) hq0 (fun k t2 n2 h => by cases (show (none : Option (Nat × Bool)) = some (t2, n2) from h))
  replace hZ := hZ.nw (q := q1) (t := 58) (f := fun _ => none) hq0 (L2 := (h_rL L0 q1 (fun _ => 0))) (fun b hb => h_rL_n hb)
  replace hz : h_row I0 q1 (fun _ => 0) a0 = (fun _ => 0) := (h_row_n (h_neq t_a0 (by decide) hq0)).trans hz
  replace t_a0 := h_nwk (q := q1) (t := 58) (f := fun _ => none) hq0 t_a0 (by decide)
  replace tq1 : (z.nw q1 58 (fun _ => none)).ty q1 = 58 := nw_te
  have hzq1 : h_row I0 q1 (fun _ => 0) q1 = fun _ => 0 := h_row_e
  obtain ⟨z, ez⟩ : ∃ z1 : tZ, z1 = (z.nw q1 58 (fun _ => none)) := ⟨_, rfl⟩
  rw [← ez] at g hI hR hZ hQ hu_q1 t_a0 tq1 
  clear ez
  obtain ⟨I0, eI⟩ : ∃ J : tI, J = h_row I0 q1 (fun _ => 0) := ⟨_, rfl⟩
  rw [← eI] at g hI hZ hQ hz hzq1
  clear eI
  obtain ⟨L2, eL⟩ : ∃ J : tL, J = (h_rL L0 q1 (fun _ => 0)) := ⟨_, rfl⟩
  rw [← eL] at g hZ
  replace hF : h_F [(600, 999), (601, 999), (6, 2), (54, 3), (1100, 999)] z I0 I0 := h_F.rf
  refine W.cs (cells' := 1) (slots' := 2) rfl rfl ?_
  refine lv_dup hx hb dX11_init_8 rfl ?_
  replace hZ := hZ.tcall hF rfl
  replace hQ := hQ.tc hF rfl
  refine va_callv (va_runIN (As := []) (rest := [.ref q1, .ref a0]) ⟨hx, hb, hml, hown, hts⟩ (zX8_init l E X A z I0 L2 q1 tq1 hzq1 hQ.1) (⟨va_cnB 0 hts gX11_init_X8_init_n9 rfl rfl rfl (hE.link 0 rfl) (hts (.initialized RX8) (by decide +kernel)) (by decide +kernel) ⟨Nat.le_of_ble_eq_true rfl, Nat.le_of_ble_eq_true rfl⟩, rfl, hts (.instanceMethod yX8_init) (by decide +kernel)⟩) ⟨h_blind _ _ _ _ _ _ _, h_pre _ hE hk hX hA hI hR g⟩ rfl rfl hl.1 rfl (lv_room (Nat.le_of_ble_eq_true rfl)) dX11_init_9 ⟨Nat.le_of_ble_eq_true rfl, Nat.le_of_ble_eq_true rfl⟩) g.2.1 (fun q _ h => h) (fun q h => h) (fun u t H1 locs ht hvm h3 hB hz1 hk1 hS => ?_)
  obtain ⟨z, I0, L4⟩ := u
  obtain ⟨hI, hR, xh3, qh3, tq1_, h3⟩ := h3
  replace hI : h_I z I0 := hI
  replace hR : h_R z := hR
  have hB : h_B E A z I0 L4 t := hB
  have xh3 : h_X [] [] (some q1) _ _ _ z I0 L4 := xh3
  have qh3 : h_Q [] (some q1) _ z I0 := qh3
  replace hQ := hQ.call xh3 qh3 rfl rfl
  replace hu_q1 := hu_q1.call qh3.2.1 tq1 (by decide)
  replace hZ := hZ.call xh3 rfl (fun t h9 => rfl) (fun b hb => Or.inr (by cases hb; exact n_q1))
  replace hz : I0 a0 = (fun _ => 0) := (funext (fun k => xh3.I t_a0 (by decide) (h_sne t_a0 tq1 (by decide)) rfl)).trans hz
  replace t_a0 := xh3.ty t_a0 (by decide) (h_sne t_a0 tq1 (by decide))
  replace tq1 : z.ty q1 = 9 := tq1_
  replace g := h_after g hB ht hS
  generalize H1 = H at g
  clear hB hk1 hz1 ht hvm hS
  replace hF : h_F [(600, 999), (601, 999), (6, 2), (54, 3), (1100, 999)] z I0 I0 := h_F.rf
  refine W.cs (cells' := 2) (slots' := 502) rfl rfl ?_
  replace hZ := hZ.tcall hF rfl
  replace hQ := hQ.tc hF rfl
  refine h_putR (ty := tyX11 0) (v := q1) hx hb hts iX11 tyX11 tyX11_ok nmX11 hown g t_a0 (by decide) so_61 rfl 0 (by decide) rfl (hts (.fieldLink RX11 10 "CapLeague" "tape" "LCapLeague$Tape;") (by decide +kernel)) rfl rfl hin rfl (by decide +kernel) rfl rfl dX11_init_12 (fun H locs g => ?_)
  replace hQ := hQ.wR (a := a0) (k := 0) (v := q1) t_a0 (by decide) tq1 (by decide) (fun h9 => ⟨hu_q1, n_q1⟩)
  replace hR := hR.wR (k0 := 0) (v := some q1) t_a0 (fun _ => rfl)
  replace hZ := hZ.wR (a := a0) (k := 0) (v := some q1) (Or.inl rfl)
  replace hI : h_I (z.wR a0 0 (some q1)) I0 := hI
  replace t_a0 : (z.wR a0 0 (some q1)).ty a0 = 61 := t_a0
  replace tq1 : (z.wR a0 0 (some q1)).ty q1 = 9 := tq1
  replace Ra0_0 : (z.wR a0 0 (some q1)).R a0 0 = some q1 := h_up_eq
  obtain ⟨z, ez⟩ : ∃ z1 : tZ, z1 = (z.wR a0 0 (some q1)) := ⟨_, rfl⟩
  rw [← ez] at g hI hR hZ hQ t_a0 tq1 Ra0_0
  clear ez
  replace hF : h_F [(600, 999), (601, 999), (6, 2), (54, 3), (1100, 999)] z I0 I0 := h_F.rf
  refine lv_aload_n hx hb dX11_init_15 rfl (lv_at hl 0 rfl) ?_
  replace hZ := hZ.tcall hF rfl
  replace hQ := hQ.tc hF rfl
  refine h_newO (C := RX3) (T := TX3) (N := 2) (ci := 3) hx hb hts iX3 tyX3 tyX3_ok hown (hts (.classLink RX11 16 RX3) (by decide +kernel)) (hts (.instantiable RX3 2) (by decide +kernel)) (hts (.initialized RX3) (by decide +kernel)) g hA rfl so_53 (fun j hj => by rcases (show j = 0 ∨ j = 1 by omega) with rfl | rfl <;> rfl) (Nat.le_of_ble_eq_true rfl) (Nat.le_of_ble_eq_true rfl) dX11_init_16 (fun q5 H hq0 g => ?_)
  have n_q5 := hZ.fresh hq0 (fun h => h_neq t_a0 (by decide) hq0 (Option.some.inj h).symm)
  replace hu_q5 := hQ.1.u (q := q5) (t := 53) hq0
  replace hQ := hQ.nw (q := q5) (t := 53) hq0 (by decide)
  replace hI := hI.nw (q := q5) (t := 53) (f := fun _ => none)
  replace hR := hR.nw (q := q5) (t := 53) (f := fun _ => none) hq0 (fun k t2 n2 h => by cases (show (none : Option (Nat × Bool)) = some (t2, n2) from h))
  replace hZ := hZ.nw (q := q5) (t := 53) (f := fun _ => none) hq0 (L2 := (h_rL L4 q5 (fun _ => 0))) (fun b hb => h_rL_n hb)
  replace hz : h_row I0 q5 (fun _ => 0) a0 = (fun _ => 0) := (h_row_n (h_neq t_a0 (by decide) hq0)).trans hz
  replace Ra0_0 := h_nwr (q := q5) (t := 53) (f := fun _ => none) hq0 t_a0 (by decide) Ra0_0
  replace t_a0 := h_nwk (q := q5) (t := 53) (f := fun _ => none) hq0 t_a0 (by decide)
  replace tq1 := h_nwk (q := q5) (t := 53) (f := fun _ => none) hq0 tq1 (by decide)
  replace tq5 : (z.nw q5 53 (fun _ => none)).ty q5 = 53 := nw_te
  have hzq5 : h_row I0 q5 (fun _ => 0) q5 = fun _ => 0 := h_row_e
  obtain ⟨z, ez⟩ : ∃ z1 : tZ, z1 = (z.nw q5 53 (fun _ => none)) := ⟨_, rfl⟩
  rw [← ez] at g hI hR hZ hQ hu_q5 t_a0 tq1 tq5 Ra0_0
  clear ez
  obtain ⟨I0, eI⟩ : ∃ J : tI, J = h_row I0 q5 (fun _ => 0) := ⟨_, rfl⟩
  rw [← eI] at g hI hZ hQ hz hzq5
  clear eI
  obtain ⟨L6, eL⟩ : ∃ J : tL, J = (h_rL L4 q5 (fun _ => 0)) := ⟨_, rfl⟩
  rw [← eL] at g hZ
  replace hF : h_F [(600, 999), (601, 999), (6, 2), (54, 3), (1100, 999)] z I0 I0 := h_F.rf
  refine W.cs (cells' := 3) (slots' := 504) rfl rfl ?_
  refine lv_dup hx hb dX11_init_19 rfl ?_
  replace hZ := hZ.tcall hF rfl
  replace hQ := hQ.tc hF rfl
  refine va_callv (va_runIN (As := []) (rest := [.ref q5, .ref a0]) ⟨hx, hb, hml, hown, hts⟩ (zX3_initF l E X A z I0 L6 q5 tq5 hzq5 hQ.1) (⟨va_cnB 0 hts gX11_init_X3_init_n18 rfl rfl rfl (hE.link 1 rfl) (hts (.initialized RX3) (by decide +kernel)) (by decide +kernel) ⟨Nat.le_of_ble_eq_true rfl, Nat.le_of_ble_eq_true rfl⟩, rfl, hts (.instanceMethod yX3_init) (by decide +kernel)⟩) ⟨h_blind _ _ _ _ _ _ _, h_pre _ hE hk hX hA hI hR g⟩ rfl rfl hl.1 rfl (lv_room (Nat.le_of_ble_eq_true rfl)) dX11_init_20 ⟨Nat.le_of_ble_eq_true rfl, Nat.le_of_ble_eq_true rfl⟩) g.2.1 (fun q _ h => h) (fun q h => h) (fun u t H1 locs ht hvm h7 hB hz1 hk1 hS => ?_)
  obtain ⟨z, I0, L8⟩ := u
  obtain ⟨hI, hR, xh7, qh7, tq5_, h7⟩ := h7
  replace hI : h_I z I0 := hI
  replace hR : h_R z := hR
  have hB : h_B E A z I0 L8 t := hB
  have xh7 : h_X [(600, 999), (601, 999), (6, 2)] [] (some q5) _ _ _ z I0 L8 := xh7
  have qh7 : h_Q [(600, 999), (601, 999), (6, 2)] (some q5) _ z I0 := qh7
  replace hQ := hQ.call xh7 qh7 rfl rfl
  replace hu_q5 := hu_q5.call qh7.2.1 tq5 (by decide)
  replace hZ := hZ.call xh7 rfl (fun t h9 => rfl) (fun b hb => Or.inr (by cases hb; exact n_q5))
  replace hz : I0 a0 = (fun _ => 0) := (funext (fun k => xh7.I t_a0 (by decide) (h_sne t_a0 tq5 (by decide)) rfl)).trans hz
  replace Ra0_0 := xh7.R t_a0 (by decide) (h_sne t_a0 tq5 (by decide)) rfl Ra0_0
  replace t_a0 := xh7.ty t_a0 (by decide) (h_sne t_a0 tq5 (by decide))
  replace tq1 := xh7.ty tq1 (by decide) (h_sne tq1 tq5 (by decide))
  replace tq5 : z.ty q5 = 4 := tq5_
  replace g := h_after g hB ht hS
  generalize H1 = H at g
  clear hB hk1 hz1 ht hvm hS
  replace hF : h_F [(600, 999), (601, 999), (6, 2), (54, 3), (1100, 999)] z I0 I0 := h_F.rf
  refine W.cs (cells' := 7) (slots' := 531) rfl rfl ?_
  obtain ⟨un, run, tun⟩ := hR.at q5 0 tq5 (rfl : h_rs 4 0 = some (6, false)) (by decide)
  obtain ⟨tx, rtx, ttx⟩ := hR.at q5 1 tq5 (rfl : h_rs 4 1 = some (401, false)) (by decide)
  obtain ⟨nU, rnU, tnU⟩ := hR.at un 0 tun (rfl : h_rs 6 0 = some (600, false)) (by decide)
  obtain ⟨lU, rlU, tlU⟩ := hR.at un 1 tun (rfl : h_rs 6 1 = some (601, false)) (by decide)
  have luU : h_lw I0 un nU lU q_pl := by have h9 : h_lw I0 (h_ad z q5 0) (h_ad z (h_ad z q5 0) 0) (h_ad z (h_ad z q5 0) 1) q_pl := h7.1; rw [h_ad.at run, h_ad.at rnU, h_ad.at rlU] at h9; exact h9
  have ra_tx : z.R tx = (fun _ => none) := by have h9 : z.R (h_ad z q5 1) = fun _ => none := h7.2; rw [h_ad.at rtx] at h9; exact h9
  replace hZ := hZ.tcall hF rfl
  replace hQ := hQ.tc hF rfl
  refine h_putR (ty := tyX11 1) (v := q5) hx hb hts iX11 tyX11 tyX11_ok nmX11 hown g t_a0 (by decide) so_61 rfl 1 (by decide) rfl (hts (.fieldLink RX11 19 "CapLeague" "lawBook" "LCapLeague$LawBook;") (by decide +kernel)) rfl rfl hin rfl (by decide +kernel) rfl rfl dX11_init_23 (fun H locs g => ?_)
  replace hQ := hQ.wR (a := a0) (k := 1) (v := q5) t_a0 (by decide) tq5 (by decide) (fun h9 => ⟨hu_q5, n_q5⟩)
  replace hR := hR.wR (k0 := 1) (v := some q5) t_a0 (fun _ => rfl)
  replace hZ := hZ.wR (a := a0) (k := 1) (v := some q5) (Or.inl rfl)
  replace hI : h_I (z.wR a0 1 (some q5)) I0 := hI
  replace t_a0 : (z.wR a0 1 (some q5)).ty a0 = 61 := t_a0
  replace tq1 : (z.wR a0 1 (some q5)).ty q1 = 9 := tq1
  replace tq5 : (z.wR a0 1 (some q5)).ty q5 = 4 := tq5
  have tun : (z.wR a0 1 (some q5)).ty un = 6 := tun
  have ttx : (z.wR a0 1 (some q5)).ty tx = 401 := ttx
  have tnU : (z.wR a0 1 (some q5)).ty nU = 600 := tnU
  have tlU : (z.wR a0 1 (some q5)).ty lU = 601 := tlU
  replace Ra0_0 : (z.wR a0 1 (some q5)).R a0 0 = some q1 := (h_up_at (by decide)).trans Ra0_0
  have run : (z.wR a0 1 (some q5)).R q5 0 = some un := (congrFun (h_up_ne (h_ne2 tq5 t_a0 (by decide))) 0).trans run
  have rtx : (z.wR a0 1 (some q5)).R q5 1 = some tx := (congrFun (h_up_ne (h_ne2 tq5 t_a0 (by decide))) 1).trans rtx
  have rnU : (z.wR a0 1 (some q5)).R un 0 = some nU := (congrFun (h_up_ne (h_ne2 tun t_a0 (by decide))) 0).trans rnU
  have rlU : (z.wR a0 1 (some q5)).R un 1 = some lU := (congrFun (h_up_ne (h_ne2 tun t_a0 (by decide))) 1).trans rlU
  have ra_tx : (z.wR a0 1 (some q5)).R tx = (fun _ => none) := (h_up_ne (h_ne2 ttx t_a0 (by decide))).trans ra_tx
  replace Ra0_1 : (z.wR a0 1 (some q5)).R a0 1 = some q5 := h_up_eq
  obtain ⟨z, ez⟩ : ∃ z1 : tZ, z1 = (z.wR a0 1 (some q5)) := ⟨_, rfl⟩
  rw [← ez] at g hI hR hZ hQ ra_tx t_a0 tq1 tq5 tun ttx tnU tlU Ra0_0 run rtx rnU rlU Ra0_1
  clear ez
  replace hF : h_F [(600, 999), (601, 999), (6, 2), (54, 3), (1100, 999)] z I0 I0 := h_F.rf
  refine lv_aload_n hx hb dX11_init_26 rfl (lv_at hl 0 rfl) ?_
  replace hZ := hZ.tcall hF rfl
  replace hQ := hQ.tc hF rfl
  refine h_newO (C := RX4) (T := TX4) (N := 9) (ci := 4) hx hb hts iX4 tyX4 tyX4_ok hown (hts (.classLink RX11 23 RX4) (by decide +kernel)) (hts (.instantiable RX4 9) (by decide +kernel)) (hts (.initialized RX4) (by decide +kernel)) g hA rfl so_54 (fun j hj => by rcases (show j = 0 ∨ j = 1 ∨ j = 2 ∨ j = 3 ∨ j = 4 ∨ j = 5 ∨ j = 6 ∨ j = 7 ∨ j = 8 by omega) with rfl | rfl | rfl | rfl | rfl | rfl | rfl | rfl | rfl <;> rfl) (Nat.le_of_ble_eq_true rfl) (Nat.le_of_ble_eq_true rfl) dX11_init_27 (fun q9 H hq0 g => ?_)
  have n_q9 := hZ.fresh hq0 (fun h => h_neq t_a0 (by decide) hq0 (Option.some.inj h).symm)
  replace hu_q9 := hQ.1.u (q := q9) (t := 54) hq0
  replace hQ := hQ.nw (q := q9) (t := 54) hq0 (by decide)
  replace hI := hI.nw (q := q9) (t := 54) (f := fun _ => none)
  replace hR := hR.nw (q := q9) (t := 54) (f := fun _ => none) hq0 (fun k t2 n2 h => by cases (show (none : Option (Nat × Bool)) = some (t2, n2) from h))
  replace hZ := hZ.nw (q := q9) (t := 54) (f := fun _ => none) hq0 (L2 := (h_rL L8 q9 (fun _ => 0))) (fun b hb => h_rL_n hb)
  replace hz : h_row I0 q9 (fun _ => 0) a0 = (fun _ => 0) := (h_row_n (h_neq t_a0 (by decide) hq0)).trans hz
  have luU : h_lw (h_row I0 q9 (fun _ => 0)) un nU lU q_pl := luU.c (fun i => congrFun (h_row_n (h_neq tnU (by decide) hq0)) i) (congrFun (h_row_n (h_neq tun (by decide) hq0)) 2) (fun i => congrFun (h_row_n (h_neq tlU (by decide) hq0)) i)
  have ra_tx : (z.nw q9 54 (fun _ => none)).R tx = (fun _ => none) := (nw_rn (h_neq ttx (by decide) hq0)).trans ra_tx
  replace Ra0_0 := h_nwr (q := q9) (t := 54) (f := fun _ => none) hq0 t_a0 (by decide) Ra0_0
  have run := h_nwr (q := q9) (t := 54) (f := fun _ => none) hq0 tq5 (by decide) run
  have rtx := h_nwr (q := q9) (t := 54) (f := fun _ => none) hq0 tq5 (by decide) rtx
  have rnU := h_nwr (q := q9) (t := 54) (f := fun _ => none) hq0 tun (by decide) rnU
  have rlU := h_nwr (q := q9) (t := 54) (f := fun _ => none) hq0 tun (by decide) rlU
  replace Ra0_1 := h_nwr (q := q9) (t := 54) (f := fun _ => none) hq0 t_a0 (by decide) Ra0_1
  replace t_a0 := h_nwk (q := q9) (t := 54) (f := fun _ => none) hq0 t_a0 (by decide)
  replace tq1 := h_nwk (q := q9) (t := 54) (f := fun _ => none) hq0 tq1 (by decide)
  replace tq5 := h_nwk (q := q9) (t := 54) (f := fun _ => none) hq0 tq5 (by decide)
  have tun := h_nwk (q := q9) (t := 54) (f := fun _ => none) hq0 tun (by decide)
  have ttx := h_nwk (q := q9) (t := 54) (f := fun _ => none) hq0 ttx (by decide)
  have tnU := h_nwk (q := q9) (t := 54) (f := fun _ => none) hq0 tnU (by decide)
  have tlU := h_nwk (q := q9) (t := 54) (f := fun _ => none) hq0 tlU (by decide)
  replace tq9 : (z.nw q9 54 (fun _ => none)).ty q9 = 54 := nw_te
  have hzq9 : h_row I0 q9 (fun _ => 0) q9 = fun _ => 0 := h_row_e
  obtain ⟨z, ez⟩ : ∃ z1 : tZ, z1 = (z.nw q9 54 (fun _ => none)) := ⟨_, rfl⟩
  rw [← ez] at g hI hR hZ hQ hu_q9 ra_tx t_a0 tq1 tq5 tun ttx tnU tlU tq9 Ra0_0 run rtx rnU rlU Ra0_1
  clear ez
  obtain ⟨I0, eI⟩ : ∃ J : tI, J = h_row I0 q9 (fun _ => 0) := ⟨_, rfl⟩
  rw [← eI] at g hI hZ hQ hz hzq9 luU
  clear eI
  obtain ⟨L10, eL⟩ : ∃ J : tL, J = (h_rL L8 q9 (fun _ => 0)) := ⟨_, rfl⟩
  rw [← eL] at g hZ
  replace hF : h_F [(600, 999), (601, 999), (6, 2), (54, 3), (1100, 999)] z I0 I0 := h_F.rf
  refine W.cs (cells' := 8) (slots' := 540) rfl rfl ?_
  refine lv_dup hx hb dX11_init_30 rfl ?_
  refine lv_aload_n hx hb dX11_init_31 rfl (lv_at hl 0 rfl) ?_
  refine h_get (v := .ref q1) hx hb hts iX11 hown g t_a0 (by decide) so_61 rfl 0 (by decide) (hts (.fieldLink RX11 10 "CapLeague" "tape" "LCapLeague$Tape;") (by decide +kernel)) rfl dX11_init_32 (by show va_rf (z.R a0 0) = _; rw [Ra0_0]; rfl) ?_
  replace hZ := hZ.tcall hF rfl
  replace hQ := hQ.tc hF rfl
  refine va_callv (va_runI (As := [.ref q1]) (rest := [.ref q9, .ref a0]) ⟨hx, hb, hml, hown, hts⟩ (zX4_initF l E X A z I0 L10 q9 tq9 q1 tq1 hzq9 hQ.1) (cwI 1 hts gX11_init_X4_init rfl rfl rfl (hts (.initialized RX4) (by decide +kernel)) (hts (.methodLink RX11 25 yX4_init) (by decide +kernel)) (hts (.instanceMethod yX4_init) (by decide +kernel)) rfl (by decide +kernel) ⟨Nat.le_of_ble_eq_true rfl, Nat.le_of_ble_eq_true rfl⟩) ⟨h_blind _ _ _ _ _ _ _, h_pre _ hE hk hX hA hI hR g⟩ rfl rfl hl.1 rfl (lv_room (Nat.le_of_ble_eq_true rfl)) dX11_init_35 ⟨Nat.le_of_ble_eq_true rfl, Nat.le_of_ble_eq_true rfl⟩) g.2.1 (fun q _ h => h) (fun q h => h) (fun u t H1 locs ht hvm h11 hB hz1 hk1 hS => ?_)
  obtain ⟨z, I0, L12⟩ := u
  obtain ⟨hI, hR, xh11, qh11, tq9_, h11⟩ := h11
  replace hI : h_I z I0 := hI
  replace hR : h_R z := hR
  have hB : h_B E A z I0 L12 t := hB
  have xh11 : h_X [(600, 999), (601, 999), (6, 2), (54, 3)] [] (some q9) _ _ _ z I0 L12 := xh11
  have qh11 : h_Q [(600, 999), (601, 999), (6, 2), (54, 3), (5, 3)] (some q9) _ z I0 := qh11
  replace hQ := hQ.call xh11 qh11 rfl rfl
  replace hu_q9 := hu_q9.call qh11.2.1 tq9 (by decide)
  replace hZ := hZ.call xh11 rfl (fun t h9 => rfl) (fun b hb => Or.inr (by cases hb; exact n_q9))
  replace hz : I0 a0 = (fun _ => 0) := (funext (fun k => xh11.I t_a0 (by decide) (h_sne t_a0 tq9 (by decide)) rfl)).trans hz
  replace Ra0_0 := xh11.R t_a0 (by decide) (h_sne t_a0 tq9 (by decide)) rfl Ra0_0
  have run := xh11.R tq5 (by decide) (h_sne tq5 tq9 (by decide)) rfl run
  have rtx := xh11.R tq5 (by decide) (h_sne tq5 tq9 (by decide)) rfl rtx
  have rnU := xh11.R tun (by decide) (h_sne tun tq9 (by decide)) rfl rnU
  have rlU := xh11.R tun (by decide) (h_sne tun tq9 (by decide)) rfl rlU
  replace Ra0_1 := xh11.R t_a0 (by decide) (h_sne t_a0 tq9 (by decide)) rfl Ra0_1
  have luU : h_lw I0 un nU lU q_pl := luU.c (fun i => h11.1 nU _ (by rw [tnU]; decide) (fun e9 => (h_sne tnU tq9 (by decide)) (congrArg some e9))) (h11.1 un _ (by rw [tun]; decide) (fun e9 => (h_sne tun tq9 (by decide)) (congrArg some e9))) (fun i => h11.1 lU _ (by rw [tlU]; decide) (fun e9 => (h_sne tlU tq9 (by decide)) (congrArg some e9)))
  have ra_tx : z.R tx = (fun _ => none) := ((xh11 tx (by rw [ttx]; decide) (h_sne ttx tq9 (by decide))).2.1 (by rw [ttx]; rfl)).trans ra_tx
  replace t_a0 := xh11.ty t_a0 (by decide) (h_sne t_a0 tq9 (by decide))
  replace tq1 := xh11.ty tq1 (by decide) (h_sne tq1 tq9 (by decide))
  replace tq5 := xh11.ty tq5 (by decide) (h_sne tq5 tq9 (by decide))
  have tun := xh11.ty tun (by decide) (h_sne tun tq9 (by decide))
  have ttx := xh11.ty ttx (by decide) (h_sne ttx tq9 (by decide))
  have tnU := xh11.ty tnU (by decide) (h_sne tnU tq9 (by decide))
  have tlU := xh11.ty tlU (by decide) (h_sne tlU tq9 (by decide))
  replace tq9 : z.ty q9 = 5 := tq9_
  replace g := h_after g hB ht hS
  generalize H1 = H at g
  clear hB hk1 hz1 ht hvm hS
  replace hF : h_F [(600, 999), (601, 999), (6, 2), (54, 3), (1100, 999)] z I0 I0 := h_F.rf
  refine W.cs (cells' := 11) (slots' := 557) rfl rfl ?_
  have al_q9_0 : z.R q9 0 = some q1 := h11.2.1
  replace kf_q9_2 : I0 q9 2 = 0 := h11.2.2.1
  replace kf_q9_3 : I0 q9 3 = (-1) := h11.2.2.2
  replace kf_q9_2 : I0 q9 2 = 0 := kf_q9_2
  replace kf_q9_3 : I0 q9 3 = (-1) := kf_q9_3
  replace hZ := hZ.tcall hF rfl
  replace hQ := hQ.tc hF rfl
  refine h_putR (ty := tyX11 2) (v := q9) hx hb hts iX11 tyX11 tyX11_ok nmX11 hown g t_a0 (by decide) so_61 rfl 2 (by decide) rfl (hts (.fieldLink RX11 28 "CapLeague" "reader" "LCapLeague$LawReader;") (by decide +kernel)) rfl rfl hin rfl (by decide +kernel) rfl rfl dX11_init_38 (fun H locs g => ?_)
  replace hQ := hQ.wR (a := a0) (k := 2) (v := q9) t_a0 (by decide) tq9 (by decide) (fun h9 => ⟨hu_q9, n_q9⟩)
  replace hR := hR.wR (k0 := 2) (v := some q9) t_a0 (fun _ => rfl)
  replace hZ := hZ.wR (a := a0) (k := 2) (v := some q9) (Or.inl rfl)
  replace hI : h_I (z.wR a0 2 (some q9)) I0 := hI
  replace t_a0 : (z.wR a0 2 (some q9)).ty a0 = 61 := t_a0
  replace tq1 : (z.wR a0 2 (some q9)).ty q1 = 9 := tq1
  replace tq5 : (z.wR a0 2 (some q9)).ty q5 = 4 := tq5
  have tun : (z.wR a0 2 (some q9)).ty un = 6 := tun
  have ttx : (z.wR a0 2 (some q9)).ty tx = 401 := ttx
  have tnU : (z.wR a0 2 (some q9)).ty nU = 600 := tnU
  have tlU : (z.wR a0 2 (some q9)).ty lU = 601 := tlU
  replace tq9 : (z.wR a0 2 (some q9)).ty q9 = 5 := tq9
  replace Ra0_0 : (z.wR a0 2 (some q9)).R a0 0 = some q1 := (h_up_at (by decide)).trans Ra0_0
  have run : (z.wR a0 2 (some q9)).R q5 0 = some un := (congrFun (h_up_ne (h_ne2 tq5 t_a0 (by decide))) 0).trans run
  have rtx : (z.wR a0 2 (some q9)).R q5 1 = some tx := (congrFun (h_up_ne (h_ne2 tq5 t_a0 (by decide))) 1).trans rtx
  have rnU : (z.wR a0 2 (some q9)).R un 0 = some nU := (congrFun (h_up_ne (h_ne2 tun t_a0 (by decide))) 0).trans rnU
  have rlU : (z.wR a0 2 (some q9)).R un 1 = some lU := (congrFun (h_up_ne (h_ne2 tun t_a0 (by decide))) 1).trans rlU
  replace Ra0_1 : (z.wR a0 2 (some q9)).R a0 1 = some q5 := (h_up_at (by decide)).trans Ra0_1
  have al_q9_0 : (z.wR a0 2 (some q9)).R q9 0 = some q1 := (congrFun (h_up_ne (h_ne2 tq9 t_a0 (by decide))) 0).trans al_q9_0
  have ra_tx : (z.wR a0 2 (some q9)).R tx = (fun _ => none) := (h_up_ne (h_ne2 ttx t_a0 (by decide))).trans ra_tx
  replace Ra0_2 : (z.wR a0 2 (some q9)).R a0 2 = some q9 := h_up_eq
  obtain ⟨z, ez⟩ : ∃ z1 : tZ, z1 = (z.wR a0 2 (some q9)) := ⟨_, rfl⟩
  rw [← ez] at g hI hR hZ hQ ra_tx t_a0 tq1 tq5 tun ttx tnU tlU tq9 Ra0_0 run rtx rnU rlU Ra0_1 al_q9_0 Ra0_2
  clear ez
  replace hF : h_F [(600, 999), (601, 999), (6, 2), (54, 3), (1100, 999)] z I0 I0 := h_F.rf
  refine lv_aload_n hx hb dX11_init_41 rfl (lv_at hl 0 rfl) ?_
  replace kf_q9_2 : I0 q9 2 = 0 := kf_q9_2
  replace kf_q9_3 : I0 q9 3 = (-1) := kf_q9_3
  replace hZ := hZ.tcall hF rfl
  replace hQ := hQ.tc hF rfl
  refine h_newO (C := RX0) (T := TX0) (N := 9) (ci := 0) hx hb hts iX0 tyX0 tyX0_ok hown (hts (.classLink RX11 32 RX0) (by decide +kernel)) (hts (.instantiable RX0 9) (by decide +kernel)) (hts (.initialized RX0) (by decide +kernel)) g hA rfl so_50 (fun j hj => by rcases (show j = 0 ∨ j = 1 ∨ j = 2 ∨ j = 3 ∨ j = 4 ∨ j = 5 ∨ j = 6 ∨ j = 7 ∨ j = 8 by omega) with rfl | rfl | rfl | rfl | rfl | rfl | rfl | rfl | rfl <;> rfl) (Nat.le_of_ble_eq_true rfl) (Nat.le_of_ble_eq_true rfl) dX11_init_42 (fun q13 H hq0 g => ?_)
  have n_q13 := hZ.fresh hq0 (fun h => h_neq t_a0 (by decide) hq0 (Option.some.inj h).symm)
  replace hu_q13 := hQ.1.u (q := q13) (t := 50) hq0
  replace hQ := hQ.nw (q := q13) (t := 50) hq0 (by decide)
  replace hI := hI.nw (q := q13) (t := 50) (f := fun _ => none)
  replace hR := hR.nw (q := q13) (t := 50) (f := fun _ => none) hq0 (fun k t2 n2 h => by cases (show (none : Option (Nat × Bool)) = some (t2, n2) from h))
  replace hZ := hZ.nw (q := q13) (t := 50) (f := fun _ => none) hq0 (L2 := (h_rL L12 q13 (fun _ => 0))) (fun b hb => h_rL_n hb)
  replace hz : h_row I0 q13 (fun _ => 0) a0 = (fun _ => 0) := (h_row_n (h_neq t_a0 (by decide) hq0)).trans hz
  replace kf_q9_2 : h_row I0 q13 (fun _ => 0) q9 2 = 0 := (congrFun (h_row_n (h_neq tq9 (by decide) hq0)) 2).trans kf_q9_2
  replace kf_q9_3 : h_row I0 q13 (fun _ => 0) q9 3 = (-1) := (congrFun (h_row_n (h_neq tq9 (by decide) hq0)) 3).trans kf_q9_3
  have luU : h_lw (h_row I0 q13 (fun _ => 0)) un nU lU q_pl := luU.c (fun i => congrFun (h_row_n (h_neq tnU (by decide) hq0)) i) (congrFun (h_row_n (h_neq tun (by decide) hq0)) 2) (fun i => congrFun (h_row_n (h_neq tlU (by decide) hq0)) i)
  have ra_tx : (z.nw q13 50 (fun _ => none)).R tx = (fun _ => none) := (nw_rn (h_neq ttx (by decide) hq0)).trans ra_tx
  replace Ra0_0 := h_nwr (q := q13) (t := 50) (f := fun _ => none) hq0 t_a0 (by decide) Ra0_0
  have run := h_nwr (q := q13) (t := 50) (f := fun _ => none) hq0 tq5 (by decide) run
  have rtx := h_nwr (q := q13) (t := 50) (f := fun _ => none) hq0 tq5 (by decide) rtx
  have rnU := h_nwr (q := q13) (t := 50) (f := fun _ => none) hq0 tun (by decide) rnU
  have rlU := h_nwr (q := q13) (t := 50) (f := fun _ => none) hq0 tun (by decide) rlU
  replace Ra0_1 := h_nwr (q := q13) (t := 50) (f := fun _ => none) hq0 t_a0 (by decide) Ra0_1
  have al_q9_0 := h_nwr (q := q13) (t := 50) (f := fun _ => none) hq0 tq9 (by decide) al_q9_0
  replace Ra0_2 := h_nwr (q := q13) (t := 50) (f := fun _ => none) hq0 t_a0 (by decide) Ra0_2
  replace t_a0 := h_nwk (q := q13) (t := 50) (f := fun _ => none) hq0 t_a0 (by decide)
  replace tq1 := h_nwk (q := q13) (t := 50) (f := fun _ => none) hq0 tq1 (by decide)
  replace tq5 := h_nwk (q := q13) (t := 50) (f := fun _ => none) hq0 tq5 (by decide)
  have tun := h_nwk (q := q13) (t := 50) (f := fun _ => none) hq0 tun (by decide)
  have ttx := h_nwk (q := q13) (t := 50) (f := fun _ => none) hq0 ttx (by decide)
  have tnU := h_nwk (q := q13) (t := 50) (f := fun _ => none) hq0 tnU (by decide)
  have tlU := h_nwk (q := q13) (t := 50) (f := fun _ => none) hq0 tlU (by decide)
  replace tq9 := h_nwk (q := q13) (t := 50) (f := fun _ => none) hq0 tq9 (by decide)
  replace tq13 : (z.nw q13 50 (fun _ => none)).ty q13 = 50 := nw_te
  have hzq13 : h_row I0 q13 (fun _ => 0) q13 = fun _ => 0 := h_row_e
  obtain ⟨z, ez⟩ : ∃ z1 : tZ, z1 = (z.nw q13 50 (fun _ => none)) := ⟨_, rfl⟩
  rw [← ez] at g hI hR hZ hQ hu_q13 ra_tx t_a0 tq1 tq5 tun ttx tnU tlU tq9 tq13 Ra0_0 run rtx rnU rlU Ra0_1 al_q9_0 Ra0_2
  clear ez
  obtain ⟨I0, eI⟩ : ∃ J : tI, J = h_row I0 q13 (fun _ => 0) := ⟨_, rfl⟩
  rw [← eI] at g hI hZ hQ hz hzq13 kf_q9_2 kf_q9_3 luU
  clear eI
  obtain ⟨L14, eL⟩ : ∃ J : tL, J = (h_rL L12 q13 (fun _ => 0)) := ⟨_, rfl⟩
  rw [← eL] at g hZ
  replace hF : h_F [(600, 999), (601, 999), (6, 2), (54, 3), (1100, 999)] z I0 I0 := h_F.rf
  refine W.cs (cells' := 12) (slots' := 566) rfl rfl ?_
  refine lv_dup hx hb dX11_init_45 rfl ?_
  refine lv_aload_n hx hb dX11_init_46 rfl (lv_at hl 0 rfl) ?_
  refine h_get (v := .ref q5) hx hb hts iX11 hown g t_a0 (by decide) so_61 rfl 1 (by decide) (hts (.fieldLink RX11 19 "CapLeague" "lawBook" "LCapLeague$LawBook;") (by decide +kernel)) rfl dX11_init_47 (by show va_rf (z.R a0 1) = _; rw [Ra0_1]; rfl) ?_
  replace kf_q9_2 : I0 q9 2 = 0 := kf_q9_2
  replace kf_q9_3 : I0 q9 3 = (-1) := kf_q9_3
  replace hZ := hZ.tcall hF rfl
  replace hQ := hQ.tc hF rfl
  refine va_callv (va_runI (As := [.ref q5]) (rest := [.ref q13, .ref a0]) ⟨hx, hb, hml, hown, hts⟩ (zX0_initF l E X A z I0 L14 q13 tq13 q5 tq5 hzq13 hQ.1) (cwI 1 hts gX11_init_X0_init rfl rfl rfl (hts (.initialized RX0) (by decide +kernel)) (hts (.methodLink RX11 34 yX0_init) (by decide +kernel)) (hts (.instanceMethod yX0_init) (by decide +kernel)) rfl (by decide +kernel) ⟨Nat.le_of_ble_eq_true rfl, Nat.le_of_ble_eq_true rfl⟩) ⟨h_blind _ _ _ _ _ _ _, h_pre _ hE hk hX hA hI hR g⟩ rfl rfl hl.1 rfl (lv_room (Nat.le_of_ble_eq_true rfl)) dX11_init_50 ⟨Nat.le_of_ble_eq_true rfl, Nat.le_of_ble_eq_true rfl⟩) g.2.1 (fun q _ h => h) (fun q h => h) (fun u t H1 locs ht hvm h15 hB hz1 hk1 hS => ?_)
  obtain ⟨z, I0, L16⟩ := u
  obtain ⟨hI, hR, xh15, qh15, tq13_, h15⟩ := h15
  replace hI : h_I z I0 := hI
  replace hR : h_R z := hR
  have hB : h_B E A z I0 L16 t := hB
  have xh15 : h_X [] [] (some q13) _ _ _ z I0 L16 := xh15
  have qh15 : h_Q [] (some q13) _ z I0 := qh15
  replace hQ := hQ.call xh15 qh15 rfl rfl
  replace hu_q13 := hu_q13.call qh15.2.1 tq13 (by decide)
  replace hZ := hZ.call xh15 rfl (fun t h9 => rfl) (fun b hb => Or.inr (by cases hb; exact n_q13))
  replace hz : I0 a0 = (fun _ => 0) := (funext (fun k => xh15.I t_a0 (by decide) (h_sne t_a0 tq13 (by decide)) rfl)).trans hz
  replace kf_q9_2 : I0 q9 2 = 0 := (xh15.I tq9 (by decide) (h_sne tq9 tq13 (by decide)) rfl).trans kf_q9_2
  replace kf_q9_3 : I0 q9 3 = (-1) := (xh15.I tq9 (by decide) (h_sne tq9 tq13 (by decide)) rfl).trans kf_q9_3
  replace Ra0_0 := xh15.R t_a0 (by decide) (h_sne t_a0 tq13 (by decide)) rfl Ra0_0
  have run := xh15.R tq5 (by decide) (h_sne tq5 tq13 (by decide)) rfl run
  have rtx := xh15.R tq5 (by decide) (h_sne tq5 tq13 (by decide)) rfl rtx
  have rnU := xh15.R tun (by decide) (h_sne tun tq13 (by decide)) rfl rnU
  have rlU := xh15.R tun (by decide) (h_sne tun tq13 (by decide)) rfl rlU
  replace Ra0_1 := xh15.R t_a0 (by decide) (h_sne t_a0 tq13 (by decide)) rfl Ra0_1
  have al_q9_0 := xh15.R tq9 (by decide) (h_sne tq9 tq13 (by decide)) rfl al_q9_0
  replace Ra0_2 := xh15.R t_a0 (by decide) (h_sne t_a0 tq13 (by decide)) rfl Ra0_2
  have luU : h_lw I0 un nU lU q_pl := luU.c (fun i => xh15.I tnU (by decide) (h_sne tnU tq13 (by decide)) rfl) (xh15.I tun (by decide) (h_sne tun tq13 (by decide)) rfl) (fun i => xh15.I tlU (by decide) (h_sne tlU tq13 (by decide)) rfl)
  have ra_tx : z.R tx = (fun _ => none) := ((xh15 tx (by rw [ttx]; decide) (h_sne ttx tq13 (by decide))).2.1 (by rw [ttx]; rfl)).trans ra_tx
  replace t_a0 := xh15.ty t_a0 (by decide) (h_sne t_a0 tq13 (by decide))
  replace tq1 := xh15.ty tq1 (by decide) (h_sne tq1 tq13 (by decide))
  replace tq5 := xh15.ty tq5 (by decide) (h_sne tq5 tq13 (by decide))
  have tun := xh15.ty tun (by decide) (h_sne tun tq13 (by decide))
  have ttx := xh15.ty ttx (by decide) (h_sne ttx tq13 (by decide))
  have tnU := xh15.ty tnU (by decide) (h_sne tnU tq13 (by decide))
  have tlU := xh15.ty tlU (by decide) (h_sne tlU tq13 (by decide))
  replace tq9 := xh15.ty tq9 (by decide) (h_sne tq9 tq13 (by decide))
  replace tq13 : z.ty q13 = 1 := tq13_
  replace g := h_after g hB ht hS
  generalize H1 = H at g
  clear hB hk1 hz1 ht hvm hS
  replace hF : h_F [(600, 999), (601, 999), (6, 2), (54, 3), (1100, 999)] z I0 I0 := h_F.rf
  refine W.cs (cells' := 25) (slots' := 738) rfl rfl ?_
  have al_q13_0 : z.R q13 0 = some q5 := h15.2
  replace kf_q9_2 : I0 q9 2 = 0 := kf_q9_2
  replace kf_q9_3 : I0 q9 3 = (-1) := kf_q9_3
  replace hZ := hZ.tcall hF rfl
  replace hQ := hQ.tc hF rfl
  refine h_putR (ty := tyX11 3) (v := q13) hx hb hts iX11 tyX11 tyX11_ok nmX11 hown g t_a0 (by decide) so_61 rfl 3 (by decide) rfl (hts (.fieldLink RX11 37 "CapLeague" "books" "LCapLeague$Books;") (by decide +kernel)) rfl rfl hin rfl (by decide +kernel) rfl rfl dX11_init_53 (fun H locs g => ?_)
  replace hQ := hQ.wR (a := a0) (k := 3) (v := q13) t_a0 (by decide) tq13 (by decide) (fun h9 => ⟨hu_q13, n_q13⟩)
  replace hR := hR.wR (k0 := 3) (v := some q13) t_a0 (fun _ => rfl)
  replace hZ := hZ.wR (a := a0) (k := 3) (v := some q13) (Or.inl rfl)
  replace hI : h_I (z.wR a0 3 (some q13)) I0 := hI
  replace t_a0 : (z.wR a0 3 (some q13)).ty a0 = 61 := t_a0
  replace tq1 : (z.wR a0 3 (some q13)).ty q1 = 9 := tq1
  replace tq5 : (z.wR a0 3 (some q13)).ty q5 = 4 := tq5
  have tun : (z.wR a0 3 (some q13)).ty un = 6 := tun
  have ttx : (z.wR a0 3 (some q13)).ty tx = 401 := ttx
  have tnU : (z.wR a0 3 (some q13)).ty nU = 600 := tnU
  have tlU : (z.wR a0 3 (some q13)).ty lU = 601 := tlU
  replace tq9 : (z.wR a0 3 (some q13)).ty q9 = 5 := tq9
  replace tq13 : (z.wR a0 3 (some q13)).ty q13 = 1 := tq13
  replace Ra0_0 : (z.wR a0 3 (some q13)).R a0 0 = some q1 := (h_up_at (by decide)).trans Ra0_0
  have run : (z.wR a0 3 (some q13)).R q5 0 = some un := (congrFun (h_up_ne (h_ne2 tq5 t_a0 (by decide))) 0).trans run
  have rtx : (z.wR a0 3 (some q13)).R q5 1 = some tx := (congrFun (h_up_ne (h_ne2 tq5 t_a0 (by decide))) 1).trans rtx
  have rnU : (z.wR a0 3 (some q13)).R un 0 = some nU := (congrFun (h_up_ne (h_ne2 tun t_a0 (by decide))) 0).trans rnU
  have rlU : (z.wR a0 3 (some q13)).R un 1 = some lU := (congrFun (h_up_ne (h_ne2 tun t_a0 (by decide))) 1).trans rlU
  replace Ra0_1 : (z.wR a0 3 (some q13)).R a0 1 = some q5 := (h_up_at (by decide)).trans Ra0_1
  have al_q9_0 : (z.wR a0 3 (some q13)).R q9 0 = some q1 := (congrFun (h_up_ne (h_ne2 tq9 t_a0 (by decide))) 0).trans al_q9_0
  replace Ra0_2 : (z.wR a0 3 (some q13)).R a0 2 = some q9 := (h_up_at (by decide)).trans Ra0_2
  have al_q13_0 : (z.wR a0 3 (some q13)).R q13 0 = some q5 := (congrFun (h_up_ne (h_ne2 tq13 t_a0 (by decide))) 0).trans al_q13_0
  have ra_tx : (z.wR a0 3 (some q13)).R tx = (fun _ => none) := (h_up_ne (h_ne2 ttx t_a0 (by decide))).trans ra_tx
  replace Ra0_3 : (z.wR a0 3 (some q13)).R a0 3 = some q13 := h_up_eq
  obtain ⟨z, ez⟩ : ∃ z1 : tZ, z1 = (z.wR a0 3 (some q13)) := ⟨_, rfl⟩
  rw [← ez] at g hI hR hZ hQ ra_tx t_a0 tq1 tq5 tun ttx tnU tlU tq9 tq13 Ra0_0 run rtx rnU rlU Ra0_1 al_q9_0 Ra0_2 al_q13_0 Ra0_3
  clear ez
  replace hF : h_F [(600, 999), (601, 999), (6, 2), (54, 3), (1100, 999)] z I0 I0 := h_F.rf
  refine lv_aload_n hx hb dX11_init_56 rfl (lv_at hl 0 rfl) ?_
  replace kf_q9_2 : I0 q9 2 = 0 := kf_q9_2
  replace kf_q9_3 : I0 q9 3 = (-1) := kf_q9_3
  replace hZ := hZ.tcall hF rfl
  replace hQ := hQ.tc hF rfl
  refine h_newO (C := RX10) (T := TX10) (N := 4) (ci := 10) hx hb hts iX10 tyX10 tyX10_ok hown (hts (.classLink RX11 41 RX10) (by decide +kernel)) (hts (.instantiable RX10 4) (by decide +kernel)) (hts (.initialized RX10) (by decide +kernel)) g hA rfl so_60 (fun j hj => by rcases (show j = 0 ∨ j = 1 ∨ j = 2 ∨ j = 3 by omega) with rfl | rfl | rfl | rfl <;> rfl) (Nat.le_of_ble_eq_true rfl) (Nat.le_of_ble_eq_true rfl) dX11_init_57 (fun q17 H hq0 g => ?_)
  have n_q17 := hZ.fresh hq0 (fun h => h_neq t_a0 (by decide) hq0 (Option.some.inj h).symm)
  replace hu_q17 := hQ.1.u (q := q17) (t := 60) hq0
  replace hQ := hQ.nw (q := q17) (t := 60) hq0 (by decide)
  replace hI := hI.nw (q := q17) (t := 60) (f := fun _ => none)
  replace hR := hR.nw (q := q17) (t := 60) (f := fun _ => none) hq0 (fun k t2 n2 h => by cases (show (none : Option (Nat × Bool)) = some (t2, n2) from h))
  replace hZ := hZ.nw (q := q17) (t := 60) (f := fun _ => none) hq0 (L2 := (h_rL L16 q17 (fun _ => 0))) (fun b hb => h_rL_n hb)
  replace hz : h_row I0 q17 (fun _ => 0) a0 = (fun _ => 0) := (h_row_n (h_neq t_a0 (by decide) hq0)).trans hz
  replace kf_q9_2 : h_row I0 q17 (fun _ => 0) q9 2 = 0 := (congrFun (h_row_n (h_neq tq9 (by decide) hq0)) 2).trans kf_q9_2
  replace kf_q9_3 : h_row I0 q17 (fun _ => 0) q9 3 = (-1) := (congrFun (h_row_n (h_neq tq9 (by decide) hq0)) 3).trans kf_q9_3
  have luU : h_lw (h_row I0 q17 (fun _ => 0)) un nU lU q_pl := luU.c (fun i => congrFun (h_row_n (h_neq tnU (by decide) hq0)) i) (congrFun (h_row_n (h_neq tun (by decide) hq0)) 2) (fun i => congrFun (h_row_n (h_neq tlU (by decide) hq0)) i)
  have ra_tx : (z.nw q17 60 (fun _ => none)).R tx = (fun _ => none) := (nw_rn (h_neq ttx (by decide) hq0)).trans ra_tx
  replace Ra0_0 := h_nwr (q := q17) (t := 60) (f := fun _ => none) hq0 t_a0 (by decide) Ra0_0
  have run := h_nwr (q := q17) (t := 60) (f := fun _ => none) hq0 tq5 (by decide) run
  have rtx := h_nwr (q := q17) (t := 60) (f := fun _ => none) hq0 tq5 (by decide) rtx
  have rnU := h_nwr (q := q17) (t := 60) (f := fun _ => none) hq0 tun (by decide) rnU
  have rlU := h_nwr (q := q17) (t := 60) (f := fun _ => none) hq0 tun (by decide) rlU
  replace Ra0_1 := h_nwr (q := q17) (t := 60) (f := fun _ => none) hq0 t_a0 (by decide) Ra0_1
  have al_q9_0 := h_nwr (q := q17) (t := 60) (f := fun _ => none) hq0 tq9 (by decide) al_q9_0
  replace Ra0_2 := h_nwr (q := q17) (t := 60) (f := fun _ => none) hq0 t_a0 (by decide) Ra0_2
  have al_q13_0 := h_nwr (q := q17) (t := 60) (f := fun _ => none) hq0 tq13 (by decide) al_q13_0
  replace Ra0_3 := h_nwr (q := q17) (t := 60) (f := fun _ => none) hq0 t_a0 (by decide) Ra0_3
  replace t_a0 := h_nwk (q := q17) (t := 60) (f := fun _ => none) hq0 t_a0 (by decide)
  replace tq1 := h_nwk (q := q17) (t := 60) (f := fun _ => none) hq0 tq1 (by decide)
  replace tq5 := h_nwk (q := q17) (t := 60) (f := fun _ => none) hq0 tq5 (by decide)
  have tun := h_nwk (q := q17) (t := 60) (f := fun _ => none) hq0 tun (by decide)
  have ttx := h_nwk (q := q17) (t := 60) (f := fun _ => none) hq0 ttx (by decide)
  have tnU := h_nwk (q := q17) (t := 60) (f := fun _ => none) hq0 tnU (by decide)
  have tlU := h_nwk (q := q17) (t := 60) (f := fun _ => none) hq0 tlU (by decide)
  replace tq9 := h_nwk (q := q17) (t := 60) (f := fun _ => none) hq0 tq9 (by decide)
  replace tq13 := h_nwk (q := q17) (t := 60) (f := fun _ => none) hq0 tq13 (by decide)
  replace tq17 : (z.nw q17 60 (fun _ => none)).ty q17 = 60 := nw_te
  have hzq17 : h_row I0 q17 (fun _ => 0) q17 = fun _ => 0 := h_row_e
  obtain ⟨z, ez⟩ : ∃ z1 : tZ, z1 = (z.nw q17 60 (fun _ => none)) := ⟨_, rfl⟩
  rw [← ez] at g hI hR hZ hQ hu_q17 ra_tx t_a0 tq1 tq5 tun ttx tnU tlU tq9 tq13 tq17 Ra0_0 run rtx rnU rlU Ra0_1 al_q9_0 Ra0_2 al_q13_0 Ra0_3
  clear ez
  obtain ⟨I0, eI⟩ : ∃ J : tI, J = h_row I0 q17 (fun _ => 0) := ⟨_, rfl⟩
  rw [← eI] at g hI hZ hQ hz hzq17 kf_q9_2 kf_q9_3 luU
  clear eI
  obtain ⟨L18, eL⟩ : ∃ J : tL, J = (h_rL L16 q17 (fun _ => 0)) := ⟨_, rfl⟩
  rw [← eL] at g hZ
  replace hF : h_F [(600, 999), (601, 999), (6, 2), (54, 3), (1100, 999)] z I0 I0 := h_F.rf
  refine W.cs (cells' := 26) (slots' := 742) rfl rfl ?_
  refine lv_dup hx hb dX11_init_60 rfl ?_
  replace kf_q9_2 : I0 q9 2 = 0 := kf_q9_2
  replace kf_q9_3 : I0 q9 3 = (-1) := kf_q9_3
  replace hZ := hZ.tcall hF rfl
  replace hQ := hQ.tc hF rfl
  refine va_callv (va_runI (As := []) (rest := [.ref q17, .ref a0]) ⟨hx, hb, hml, hown, hts⟩ (zX10_initB l E X A z I0 L18 q17 tq17 hzq17 hQ.1) (cwI 0 hts gX11_init_X10_init rfl rfl rfl (hts (.initialized RX10) (by decide +kernel)) (hts (.methodLink RX11 43 yX10_init) (by decide +kernel)) (hts (.instanceMethod yX10_init) (by decide +kernel)) rfl (by decide +kernel) ⟨Nat.le_of_ble_eq_true rfl, Nat.le_of_ble_eq_true rfl⟩) ⟨h_blind _ _ _ _ _ _ _, h_pre _ hE hk hX hA hI hR g⟩ rfl rfl hl.1 rfl (lv_room (Nat.le_of_ble_eq_true rfl)) dX11_init_61 ⟨Nat.le_of_ble_eq_true rfl, Nat.le_of_ble_eq_true rfl⟩) g.2.1 (fun q _ h => h) (fun q h => h) (fun u t H1 locs ht hvm h19 hB hz1 hk1 hS => ?_)
  obtain ⟨z, I0, L20⟩ := u
  obtain ⟨hI, hR, xh19, qh19, tq17_, h19⟩ := h19
  replace hI : h_I z I0 := hI
  replace hR : h_R z := hR
  have hB : h_B E A z I0 L20 t := hB
  have xh19 : h_X [(1100, 999)] [] (some q17) _ _ _ z I0 L20 := xh19
  have qh19 : h_Q [(1100, 999)] (some q17) _ z I0 := qh19
  replace hQ := hQ.call xh19 qh19 rfl rfl
  replace hu_q17 := hu_q17.call qh19.2.1 tq17 (by decide)
  replace hZ := hZ.call xh19 rfl (fun t h9 => rfl) (fun b hb => Or.inr (by cases hb; exact n_q17))
  replace hz : I0 a0 = (fun _ => 0) := (funext (fun k => xh19.I t_a0 (by decide) (h_sne t_a0 tq17 (by decide)) rfl)).trans hz
  replace kf_q9_2 : I0 q9 2 = 0 := (xh19.I tq9 (by decide) (h_sne tq9 tq17 (by decide)) rfl).trans kf_q9_2
  replace kf_q9_3 : I0 q9 3 = (-1) := (xh19.I tq9 (by decide) (h_sne tq9 tq17 (by decide)) rfl).trans kf_q9_3
  replace Ra0_0 := xh19.R t_a0 (by decide) (h_sne t_a0 tq17 (by decide)) rfl Ra0_0
  have run := xh19.R tq5 (by decide) (h_sne tq5 tq17 (by decide)) rfl run
  have rtx := xh19.R tq5 (by decide) (h_sne tq5 tq17 (by decide)) rfl rtx
  have rnU := xh19.R tun (by decide) (h_sne tun tq17 (by decide)) rfl rnU
  have rlU := xh19.R tun (by decide) (h_sne tun tq17 (by decide)) rfl rlU
  replace Ra0_1 := xh19.R t_a0 (by decide) (h_sne t_a0 tq17 (by decide)) rfl Ra0_1
  have al_q9_0 := xh19.R tq9 (by decide) (h_sne tq9 tq17 (by decide)) rfl al_q9_0
  replace Ra0_2 := xh19.R t_a0 (by decide) (h_sne t_a0 tq17 (by decide)) rfl Ra0_2
  have al_q13_0 := xh19.R tq13 (by decide) (h_sne tq13 tq17 (by decide)) rfl al_q13_0
  replace Ra0_3 := xh19.R t_a0 (by decide) (h_sne t_a0 tq17 (by decide)) rfl Ra0_3
  have luU : h_lw I0 un nU lU q_pl := luU.c (fun i => xh19.I tnU (by decide) (h_sne tnU tq17 (by decide)) rfl) (xh19.I tun (by decide) (h_sne tun tq17 (by decide)) rfl) (fun i => xh19.I tlU (by decide) (h_sne tlU tq17 (by decide)) rfl)
  have ra_tx : z.R tx = (fun _ => none) := ((xh19 tx (by rw [ttx]; decide) (h_sne ttx tq17 (by decide))).2.1 (by rw [ttx]; rfl)).trans ra_tx
  replace t_a0 := xh19.ty t_a0 (by decide) (h_sne t_a0 tq17 (by decide))
  replace tq1 := xh19.ty tq1 (by decide) (h_sne tq1 tq17 (by decide))
  replace tq5 := xh19.ty tq5 (by decide) (h_sne tq5 tq17 (by decide))
  have tun := xh19.ty tun (by decide) (h_sne tun tq17 (by decide))
  have ttx := xh19.ty ttx (by decide) (h_sne ttx tq17 (by decide))
  have tnU := xh19.ty tnU (by decide) (h_sne tnU tq17 (by decide))
  have tlU := xh19.ty tlU (by decide) (h_sne tlU tq17 (by decide))
  replace tq9 := xh19.ty tq9 (by decide) (h_sne tq9 tq17 (by decide))
  replace tq13 := xh19.ty tq13 (by decide) (h_sne tq13 tq17 (by decide))
  replace tq17 : z.ty q17 = 11 := tq17_
  replace g := h_after g hB ht hS
  generalize H1 = H at g
  clear hB hk1 hz1 ht hvm hS
  replace hF : h_F [(600, 999), (601, 999), (6, 2), (54, 3), (1100, 999)] z I0 I0 := h_F.rf
  refine W.cs (cells' := 38) (slots' := 1630) rfl rfl ?_
  obtain ⟨hd, rhd, thd⟩ := hR.at q17 0 tq17 (rfl : h_rs 11 0 = some (1100, false)) (by decide)
  replace cuH : ∀ k : Nat, k < 80 → (I0 hd k).toInt = (k : Int) / 10 := by have h9 : ∀ k : Nat, k < 80 → (I0 (h_ad z q17 0) k).toInt = (k : Int) / 10 := h19; rw [h_ad.at rhd] at h9; exact h9
  replace kf_q9_2 : I0 q9 2 = 0 := kf_q9_2
  replace kf_q9_3 : I0 q9 3 = (-1) := kf_q9_3
  replace hZ := hZ.tcall hF rfl
  replace hQ := hQ.tc hF rfl
  refine h_putR (ty := tyX11 4) (v := q17) hx hb hts iX11 tyX11 tyX11_ok nmX11 hown g t_a0 (by decide) so_61 rfl 4 (by decide) rfl (hts (.fieldLink RX11 44 "CapLeague" "turns" "LCapLeague$Turns;") (by decide +kernel)) rfl rfl hin rfl (by decide +kernel) rfl rfl dX11_init_64 (fun H locs g => ?_)
  replace hQ := hQ.wR (a := a0) (k := 4) (v := q17) t_a0 (by decide) tq17 (by decide) (fun h9 => ⟨hu_q17, n_q17⟩)
  replace hR := hR.wR (k0 := 4) (v := some q17) t_a0 (fun _ => rfl)
  replace hZ := hZ.wR (a := a0) (k := 4) (v := some q17) (Or.inl rfl)
  replace hI : h_I (z.wR a0 4 (some q17)) I0 := hI
  replace t_a0 : (z.wR a0 4 (some q17)).ty a0 = 61 := t_a0
  replace tq1 : (z.wR a0 4 (some q17)).ty q1 = 9 := tq1
  replace tq5 : (z.wR a0 4 (some q17)).ty q5 = 4 := tq5
  have tun : (z.wR a0 4 (some q17)).ty un = 6 := tun
  have ttx : (z.wR a0 4 (some q17)).ty tx = 401 := ttx
  have tnU : (z.wR a0 4 (some q17)).ty nU = 600 := tnU
  have tlU : (z.wR a0 4 (some q17)).ty lU = 601 := tlU
  replace tq9 : (z.wR a0 4 (some q17)).ty q9 = 5 := tq9
  replace tq13 : (z.wR a0 4 (some q17)).ty q13 = 1 := tq13
  replace tq17 : (z.wR a0 4 (some q17)).ty q17 = 11 := tq17
  have thd : (z.wR a0 4 (some q17)).ty hd = 1100 := thd
  replace Ra0_0 : (z.wR a0 4 (some q17)).R a0 0 = some q1 := (h_up_at (by decide)).trans Ra0_0
  have run : (z.wR a0 4 (some q17)).R q5 0 = some un := (congrFun (h_up_ne (h_ne2 tq5 t_a0 (by decide))) 0).trans run
  have rtx : (z.wR a0 4 (some q17)).R q5 1 = some tx := (congrFun (h_up_ne (h_ne2 tq5 t_a0 (by decide))) 1).trans rtx
  have rnU : (z.wR a0 4 (some q17)).R un 0 = some nU := (congrFun (h_up_ne (h_ne2 tun t_a0 (by decide))) 0).trans rnU
  have rlU : (z.wR a0 4 (some q17)).R un 1 = some lU := (congrFun (h_up_ne (h_ne2 tun t_a0 (by decide))) 1).trans rlU
  replace Ra0_1 : (z.wR a0 4 (some q17)).R a0 1 = some q5 := (h_up_at (by decide)).trans Ra0_1
  have al_q9_0 : (z.wR a0 4 (some q17)).R q9 0 = some q1 := (congrFun (h_up_ne (h_ne2 tq9 t_a0 (by decide))) 0).trans al_q9_0
  replace Ra0_2 : (z.wR a0 4 (some q17)).R a0 2 = some q9 := (h_up_at (by decide)).trans Ra0_2
  have al_q13_0 : (z.wR a0 4 (some q17)).R q13 0 = some q5 := (congrFun (h_up_ne (h_ne2 tq13 t_a0 (by decide))) 0).trans al_q13_0
  replace Ra0_3 : (z.wR a0 4 (some q17)).R a0 3 = some q13 := (h_up_at (by decide)).trans Ra0_3
  have rhd : (z.wR a0 4 (some q17)).R q17 0 = some hd := (congrFun (h_up_ne (h_ne2 tq17 t_a0 (by decide))) 0).trans rhd
  have ra_tx : (z.wR a0 4 (some q17)).R tx = (fun _ => none) := (h_up_ne (h_ne2 ttx t_a0 (by decide))).trans ra_tx
  replace Ra0_4 : (z.wR a0 4 (some q17)).R a0 4 = some q17 := h_up_eq
  obtain ⟨z, ez⟩ : ∃ z1 : tZ, z1 = (z.wR a0 4 (some q17)) := ⟨_, rfl⟩
  rw [← ez] at g hI hR hZ hQ ra_tx t_a0 tq1 tq5 tun ttx tnU tlU tq9 tq13 tq17 thd Ra0_0 run rtx rnU rlU Ra0_1 al_q9_0 Ra0_2 al_q13_0 Ra0_3 rhd Ra0_4
  clear ez
  replace hF : h_F [(600, 999), (601, 999), (6, 2), (54, 3), (1100, 999)] z I0 I0 := h_F.rf
  refine lv_aload_n hx hb dX11_init_67 rfl (lv_at hl 0 rfl) ?_
  replace kf_q9_2 : I0 q9 2 = 0 := kf_q9_2
  replace kf_q9_3 : I0 q9 3 = (-1) := kf_q9_3
  replace hZ := hZ.tcall hF rfl
  replace hQ := hQ.tc hF rfl
  refine h_newO (C := RX9) (T := TX9) (N := 10) (ci := 9) hx hb hts iX9 tyX9 tyX9_ok hown (hts (.classLink RX11 48 RX9) (by decide +kernel)) (hts (.instantiable RX9 10) (by decide +kernel)) (hts (.initialized RX9) (by decide +kernel)) g hA rfl so_59 (fun j hj => by rcases (show j = 0 ∨ j = 1 ∨ j = 2 ∨ j = 3 ∨ j = 4 ∨ j = 5 ∨ j = 6 ∨ j = 7 ∨ j = 8 ∨ j = 9 by omega) with rfl | rfl | rfl | rfl | rfl | rfl | rfl | rfl | rfl | rfl <;> rfl) (Nat.le_of_ble_eq_true rfl) (Nat.le_of_ble_eq_true rfl) dX11_init_68 (fun q21 H hq0 g => ?_)
  have n_q21 := hZ.fresh hq0 (fun h => h_neq t_a0 (by decide) hq0 (Option.some.inj h).symm)
  replace hu_q21 := hQ.1.u (q := q21) (t := 59) hq0
  replace hQ := hQ.nw (q := q21) (t := 59) hq0 (by decide)
  replace hI := hI.nw (q := q21) (t := 59) (f := fun _ => none)
  replace hR := hR.nw (q := q21) (t := 59) (f := fun _ => none) hq0 (fun k t2 n2 h => by cases (show (none : Option (Nat × Bool)) = some (t2, n2) from h))
  replace hZ := hZ.nw (q := q21) (t := 59) (f := fun _ => none) hq0 (L2 := (h_rL L20 q21 (fun _ => 0))) (fun b hb => h_rL_n hb)
  replace hz : h_row I0 q21 (fun _ => 0) a0 = (fun _ => 0) := (h_row_n (h_neq t_a0 (by decide) hq0)).trans hz
  replace kf_q9_2 : h_row I0 q21 (fun _ => 0) q9 2 = 0 := (congrFun (h_row_n (h_neq tq9 (by decide) hq0)) 2).trans kf_q9_2
  replace kf_q9_3 : h_row I0 q21 (fun _ => 0) q9 3 = (-1) := (congrFun (h_row_n (h_neq tq9 (by decide) hq0)) 3).trans kf_q9_3
  have luU : h_lw (h_row I0 q21 (fun _ => 0)) un nU lU q_pl := luU.c (fun i => congrFun (h_row_n (h_neq tnU (by decide) hq0)) i) (congrFun (h_row_n (h_neq tun (by decide) hq0)) 2) (fun i => congrFun (h_row_n (h_neq tlU (by decide) hq0)) i)
  replace cuH : ∀ k : Nat, k < 80 → (h_row I0 q21 (fun _ => 0) hd k).toInt = (k : Int) / 10 := fun k hk => (congrArg Int32.toInt (congrFun (h_row_n (h_neq thd (by decide) hq0)) k)).trans (cuH k hk)
  have ra_tx : (z.nw q21 59 (fun _ => none)).R tx = (fun _ => none) := (nw_rn (h_neq ttx (by decide) hq0)).trans ra_tx
  replace Ra0_0 := h_nwr (q := q21) (t := 59) (f := fun _ => none) hq0 t_a0 (by decide) Ra0_0
  have run := h_nwr (q := q21) (t := 59) (f := fun _ => none) hq0 tq5 (by decide) run
  have rtx := h_nwr (q := q21) (t := 59) (f := fun _ => none) hq0 tq5 (by decide) rtx
  have rnU := h_nwr (q := q21) (t := 59) (f := fun _ => none) hq0 tun (by decide) rnU
  have rlU := h_nwr (q := q21) (t := 59) (f := fun _ => none) hq0 tun (by decide) rlU
  replace Ra0_1 := h_nwr (q := q21) (t := 59) (f := fun _ => none) hq0 t_a0 (by decide) Ra0_1
  have al_q9_0 := h_nwr (q := q21) (t := 59) (f := fun _ => none) hq0 tq9 (by decide) al_q9_0
  replace Ra0_2 := h_nwr (q := q21) (t := 59) (f := fun _ => none) hq0 t_a0 (by decide) Ra0_2
  have al_q13_0 := h_nwr (q := q21) (t := 59) (f := fun _ => none) hq0 tq13 (by decide) al_q13_0
  replace Ra0_3 := h_nwr (q := q21) (t := 59) (f := fun _ => none) hq0 t_a0 (by decide) Ra0_3
  have rhd := h_nwr (q := q21) (t := 59) (f := fun _ => none) hq0 tq17 (by decide) rhd
  replace Ra0_4 := h_nwr (q := q21) (t := 59) (f := fun _ => none) hq0 t_a0 (by decide) Ra0_4
  replace t_a0 := h_nwk (q := q21) (t := 59) (f := fun _ => none) hq0 t_a0 (by decide)
  replace tq1 := h_nwk (q := q21) (t := 59) (f := fun _ => none) hq0 tq1 (by decide)
  replace tq5 := h_nwk (q := q21) (t := 59) (f := fun _ => none) hq0 tq5 (by decide)
  have tun := h_nwk (q := q21) (t := 59) (f := fun _ => none) hq0 tun (by decide)
  have ttx := h_nwk (q := q21) (t := 59) (f := fun _ => none) hq0 ttx (by decide)
  have tnU := h_nwk (q := q21) (t := 59) (f := fun _ => none) hq0 tnU (by decide)
  have tlU := h_nwk (q := q21) (t := 59) (f := fun _ => none) hq0 tlU (by decide)
  replace tq9 := h_nwk (q := q21) (t := 59) (f := fun _ => none) hq0 tq9 (by decide)
  replace tq13 := h_nwk (q := q21) (t := 59) (f := fun _ => none) hq0 tq13 (by decide)
  replace tq17 := h_nwk (q := q21) (t := 59) (f := fun _ => none) hq0 tq17 (by decide)
  have thd := h_nwk (q := q21) (t := 59) (f := fun _ => none) hq0 thd (by decide)
  replace tq21 : (z.nw q21 59 (fun _ => none)).ty q21 = 59 := nw_te
  have hzq21 : h_row I0 q21 (fun _ => 0) q21 = fun _ => 0 := h_row_e
  obtain ⟨z, ez⟩ : ∃ z1 : tZ, z1 = (z.nw q21 59 (fun _ => none)) := ⟨_, rfl⟩
  rw [← ez] at g hI hR hZ hQ hu_q21 ra_tx t_a0 tq1 tq5 tun ttx tnU tlU tq9 tq13 tq17 thd tq21 Ra0_0 run rtx rnU rlU Ra0_1 al_q9_0 Ra0_2 al_q13_0 Ra0_3 rhd Ra0_4
  clear ez
  obtain ⟨I0, eI⟩ : ∃ J : tI, J = h_row I0 q21 (fun _ => 0) := ⟨_, rfl⟩
  rw [← eI] at g hI hZ hQ hz hzq21 kf_q9_2 kf_q9_3 luU cuH
  clear eI
  obtain ⟨L22, eL⟩ : ∃ J : tL, J = (h_rL L20 q21 (fun _ => 0)) := ⟨_, rfl⟩
  rw [← eL] at g hZ
  replace hF : h_F [(600, 999), (601, 999), (6, 2), (54, 3), (1100, 999)] z I0 I0 := h_F.rf
  refine W.cs (cells' := 39) (slots' := 1640) rfl rfl ?_
  refine lv_dup hx hb dX11_init_71 rfl ?_
  refine lv_aload_n hx hb dX11_init_72 rfl (lv_at hl 0 rfl) ?_
  refine h_get (v := .ref q13) hx hb hts iX11 hown g t_a0 (by decide) so_61 rfl 3 (by decide) (hts (.fieldLink RX11 37 "CapLeague" "books" "LCapLeague$Books;") (by decide +kernel)) rfl dX11_init_73 (by show va_rf (z.R a0 3) = _; rw [Ra0_3]; rfl) ?_
  refine lv_aload_n hx hb dX11_init_76 rfl (lv_at hl 0 rfl) ?_
  refine h_get (v := .ref q17) hx hb hts iX11 hown g t_a0 (by decide) so_61 rfl 4 (by decide) (hts (.fieldLink RX11 44 "CapLeague" "turns" "LCapLeague$Turns;") (by decide +kernel)) rfl dX11_init_77 (by show va_rf (z.R a0 4) = _; rw [Ra0_4]; rfl) ?_
  replace kf_q9_2 : I0 q9 2 = 0 := kf_q9_2
  replace kf_q9_3 : I0 q9 3 = (-1) := kf_q9_3
  replace hZ := hZ.tcall hF rfl
  replace hQ := hQ.tc hF rfl
  refine va_callv (va_runI (As := [.ref q13, .ref q17]) (rest := [.ref q21, .ref a0]) ⟨hx, hb, hml, hown, hts⟩ (zX9_initF l E X A z I0 L22 q21 tq21 q13 tq13 q17 tq17 hzq21 hQ.1) (cwI 2 hts gX11_init_X9_init rfl rfl rfl (hts (.initialized RX9) (by decide +kernel)) (hts (.methodLink RX11 50 yX9_init) (by decide +kernel)) (hts (.instanceMethod yX9_init) (by decide +kernel)) rfl (by decide +kernel) ⟨Nat.le_of_ble_eq_true rfl, Nat.le_of_ble_eq_true rfl⟩) ⟨h_blind _ _ _ _ _ _ _, h_pre _ hE hk hX hA hI hR g⟩ rfl rfl hl.1 rfl (lv_room (Nat.le_of_ble_eq_true rfl)) dX11_init_80 ⟨Nat.le_of_ble_eq_true rfl, Nat.le_of_ble_eq_true rfl⟩) g.2.1 (fun q _ h => h) (fun q h => h) (fun u t H1 locs ht hvm h23 hB hz1 hk1 hS => ?_)
  obtain ⟨z, I0, L24⟩ := u
  obtain ⟨hI, hR, xh23, qh23, tq21_, h23⟩ := h23
  replace hI : h_I z I0 := hI
  replace hR : h_R z := hR
  have hB : h_B E A z I0 L24 t := hB
  have xh23 : h_X [] [] (some q21) _ _ _ z I0 L24 := xh23
  have qh23 : h_Q [] (some q21) _ z I0 := qh23
  replace hQ := hQ.call xh23 qh23 rfl rfl
  replace hu_q21 := hu_q21.call qh23.2.1 tq21 (by decide)
  replace hZ := hZ.call xh23 rfl (fun t h9 => rfl) (fun b hb => Or.inr (by cases hb; exact n_q21))
  replace hz : I0 a0 = (fun _ => 0) := (funext (fun k => xh23.I t_a0 (by decide) (h_sne t_a0 tq21 (by decide)) rfl)).trans hz
  replace kf_q9_2 : I0 q9 2 = 0 := (xh23.I tq9 (by decide) (h_sne tq9 tq21 (by decide)) rfl).trans kf_q9_2
  replace kf_q9_3 : I0 q9 3 = (-1) := (xh23.I tq9 (by decide) (h_sne tq9 tq21 (by decide)) rfl).trans kf_q9_3
  replace Ra0_0 := xh23.R t_a0 (by decide) (h_sne t_a0 tq21 (by decide)) rfl Ra0_0
  have run := xh23.R tq5 (by decide) (h_sne tq5 tq21 (by decide)) rfl run
  have rtx := xh23.R tq5 (by decide) (h_sne tq5 tq21 (by decide)) rfl rtx
  have rnU := xh23.R tun (by decide) (h_sne tun tq21 (by decide)) rfl rnU
  have rlU := xh23.R tun (by decide) (h_sne tun tq21 (by decide)) rfl rlU
  replace Ra0_1 := xh23.R t_a0 (by decide) (h_sne t_a0 tq21 (by decide)) rfl Ra0_1
  have al_q9_0 := xh23.R tq9 (by decide) (h_sne tq9 tq21 (by decide)) rfl al_q9_0
  replace Ra0_2 := xh23.R t_a0 (by decide) (h_sne t_a0 tq21 (by decide)) rfl Ra0_2
  have al_q13_0 := xh23.R tq13 (by decide) (h_sne tq13 tq21 (by decide)) rfl al_q13_0
  replace Ra0_3 := xh23.R t_a0 (by decide) (h_sne t_a0 tq21 (by decide)) rfl Ra0_3
  have rhd := xh23.R tq17 (by decide) (h_sne tq17 tq21 (by decide)) rfl rhd
  replace Ra0_4 := xh23.R t_a0 (by decide) (h_sne t_a0 tq21 (by decide)) rfl Ra0_4
  have luU : h_lw I0 un nU lU q_pl := luU.c (fun i => xh23.I tnU (by decide) (h_sne tnU tq21 (by decide)) rfl) (xh23.I tun (by decide) (h_sne tun tq21 (by decide)) rfl) (fun i => xh23.I tlU (by decide) (h_sne tlU tq21 (by decide)) rfl)
  replace cuH : ∀ k : Nat, k < 80 → (I0 hd k).toInt = (k : Int) / 10 := fun k hk => (congrArg Int32.toInt (xh23.I thd (by decide) (h_sne thd tq21 (by decide)) rfl)).trans (cuH k hk)
  have ra_tx : z.R tx = (fun _ => none) := ((xh23 tx (by rw [ttx]; decide) (h_sne ttx tq21 (by decide))).2.1 (by rw [ttx]; rfl)).trans ra_tx
  replace t_a0 := xh23.ty t_a0 (by decide) (h_sne t_a0 tq21 (by decide))
  replace tq1 := xh23.ty tq1 (by decide) (h_sne tq1 tq21 (by decide))
  replace tq5 := xh23.ty tq5 (by decide) (h_sne tq5 tq21 (by decide))
  have tun := xh23.ty tun (by decide) (h_sne tun tq21 (by decide))
  have ttx := xh23.ty ttx (by decide) (h_sne ttx tq21 (by decide))
  have tnU := xh23.ty tnU (by decide) (h_sne tnU tq21 (by decide))
  have tlU := xh23.ty tlU (by decide) (h_sne tlU tq21 (by decide))
  replace tq9 := xh23.ty tq9 (by decide) (h_sne tq9 tq21 (by decide))
  replace tq13 := xh23.ty tq13 (by decide) (h_sne tq13 tq21 (by decide))
  replace tq17 := xh23.ty tq17 (by decide) (h_sne tq17 tq21 (by decide))
  have thd := xh23.ty thd (by decide) (h_sne thd tq21 (by decide))
  replace tq21 : z.ty q21 = 10 := tq21_
  replace g := h_after g hB ht hS
  generalize H1 = H at g
  clear hB hk1 hz1 ht hvm hS
  replace hF : h_F [(600, 999), (601, 999), (6, 2), (54, 3), (1100, 999)] z I0 I0 := h_F.rf
  refine W.cs (cells' := 45) (slots' := 1704) rfl rfl ?_
  have al_q21_0 : z.R q21 0 = some q13 := h23.1
  have al_q21_1 : z.R q21 1 = some q17 := h23.2
  replace kf_q9_2 : I0 q9 2 = 0 := kf_q9_2
  replace kf_q9_3 : I0 q9 3 = (-1) := kf_q9_3
  replace hZ := hZ.tcall hF rfl
  replace hQ := hQ.tc hF rfl
  refine h_putR (ty := tyX11 5) (v := q21) hx hb hts iX11 tyX11 tyX11_ok nmX11 hown g t_a0 (by decide) so_61 rfl 5 (by decide) rfl (hts (.fieldLink RX11 53 "CapLeague" "bargain" "LCapLeague$Trade;") (by decide +kernel)) rfl rfl hin rfl (by decide +kernel) rfl rfl dX11_init_83 (fun H locs g => ?_)
  replace hQ := hQ.wR (a := a0) (k := 5) (v := q21) t_a0 (by decide) tq21 (by decide) (fun h9 => ⟨hu_q21, n_q21⟩)
  replace hR := hR.wR (k0 := 5) (v := some q21) t_a0 (fun _ => rfl)
  replace hZ := hZ.wR (a := a0) (k := 5) (v := some q21) (Or.inl rfl)
  replace hI : h_I (z.wR a0 5 (some q21)) I0 := hI
  replace t_a0 : (z.wR a0 5 (some q21)).ty a0 = 61 := t_a0
  replace tq1 : (z.wR a0 5 (some q21)).ty q1 = 9 := tq1
  replace tq5 : (z.wR a0 5 (some q21)).ty q5 = 4 := tq5
  have tun : (z.wR a0 5 (some q21)).ty un = 6 := tun
  have ttx : (z.wR a0 5 (some q21)).ty tx = 401 := ttx
  have tnU : (z.wR a0 5 (some q21)).ty nU = 600 := tnU
  have tlU : (z.wR a0 5 (some q21)).ty lU = 601 := tlU
  replace tq9 : (z.wR a0 5 (some q21)).ty q9 = 5 := tq9
  replace tq13 : (z.wR a0 5 (some q21)).ty q13 = 1 := tq13
  replace tq17 : (z.wR a0 5 (some q21)).ty q17 = 11 := tq17
  have thd : (z.wR a0 5 (some q21)).ty hd = 1100 := thd
  replace tq21 : (z.wR a0 5 (some q21)).ty q21 = 10 := tq21
  replace Ra0_0 : (z.wR a0 5 (some q21)).R a0 0 = some q1 := (h_up_at (by decide)).trans Ra0_0
  have run : (z.wR a0 5 (some q21)).R q5 0 = some un := (congrFun (h_up_ne (h_ne2 tq5 t_a0 (by decide))) 0).trans run
  have rtx : (z.wR a0 5 (some q21)).R q5 1 = some tx := (congrFun (h_up_ne (h_ne2 tq5 t_a0 (by decide))) 1).trans rtx
  have rnU : (z.wR a0 5 (some q21)).R un 0 = some nU := (congrFun (h_up_ne (h_ne2 tun t_a0 (by decide))) 0).trans rnU
  have rlU : (z.wR a0 5 (some q21)).R un 1 = some lU := (congrFun (h_up_ne (h_ne2 tun t_a0 (by decide))) 1).trans rlU
  replace Ra0_1 : (z.wR a0 5 (some q21)).R a0 1 = some q5 := (h_up_at (by decide)).trans Ra0_1
  have al_q9_0 : (z.wR a0 5 (some q21)).R q9 0 = some q1 := (congrFun (h_up_ne (h_ne2 tq9 t_a0 (by decide))) 0).trans al_q9_0
  replace Ra0_2 : (z.wR a0 5 (some q21)).R a0 2 = some q9 := (h_up_at (by decide)).trans Ra0_2
  have al_q13_0 : (z.wR a0 5 (some q21)).R q13 0 = some q5 := (congrFun (h_up_ne (h_ne2 tq13 t_a0 (by decide))) 0).trans al_q13_0
  replace Ra0_3 : (z.wR a0 5 (some q21)).R a0 3 = some q13 := (h_up_at (by decide)).trans Ra0_3
  have rhd : (z.wR a0 5 (some q21)).R q17 0 = some hd := (congrFun (h_up_ne (h_ne2 tq17 t_a0 (by decide))) 0).trans rhd
  replace Ra0_4 : (z.wR a0 5 (some q21)).R a0 4 = some q17 := (h_up_at (by decide)).trans Ra0_4
  have al_q21_0 : (z.wR a0 5 (some q21)).R q21 0 = some q13 := (congrFun (h_up_ne (h_ne2 tq21 t_a0 (by decide))) 0).trans al_q21_0
  have al_q21_1 : (z.wR a0 5 (some q21)).R q21 1 = some q17 := (congrFun (h_up_ne (h_ne2 tq21 t_a0 (by decide))) 1).trans al_q21_1
  have ra_tx : (z.wR a0 5 (some q21)).R tx = (fun _ => none) := (h_up_ne (h_ne2 ttx t_a0 (by decide))).trans ra_tx
  replace Ra0_5 : (z.wR a0 5 (some q21)).R a0 5 = some q21 := h_up_eq
  obtain ⟨z, ez⟩ : ∃ z1 : tZ, z1 = (z.wR a0 5 (some q21)) := ⟨_, rfl⟩
  rw [← ez] at g hI hR hZ hQ ra_tx t_a0 tq1 tq5 tun ttx tnU tlU tq9 tq13 tq17 thd tq21 Ra0_0 run rtx rnU rlU Ra0_1 al_q9_0 Ra0_2 al_q13_0 Ra0_3 rhd Ra0_4 al_q21_0 al_q21_1 Ra0_5
  clear ez
  replace hF : h_F [(600, 999), (601, 999), (6, 2), (54, 3), (1100, 999)] z I0 I0 := h_F.rf
  refine lv_aload_n hx hb dX11_init_86 rfl (lv_at hl 0 rfl) ?_
  replace kf_q9_2 : I0 q9 2 = 0 := kf_q9_2
  replace kf_q9_3 : I0 q9 3 = (-1) := kf_q9_3
  replace hZ := hZ.tcall hF rfl
  replace hQ := hQ.tc hF rfl
  refine h_newO (C := RX7) (T := TX7) (N := 13) (ci := 7) hx hb hts iX7 tyX7 tyX7_ok hown (hts (.classLink RX11 57 RX7) (by decide +kernel)) (hts (.instantiable RX7 13) (by decide +kernel)) (hts (.initialized RX7) (by decide +kernel)) g hA rfl so_57 (fun j hj => by rcases (show j = 0 ∨ j = 1 ∨ j = 2 ∨ j = 3 ∨ j = 4 ∨ j = 5 ∨ j = 6 ∨ j = 7 ∨ j = 8 ∨ j = 9 ∨ j = 10 ∨ j = 11 ∨ j = 12 by omega) with rfl | rfl | rfl | rfl | rfl | rfl | rfl | rfl | rfl | rfl | rfl | rfl | rfl <;> rfl) (Nat.le_of_ble_eq_true rfl) (Nat.le_of_ble_eq_true rfl) dX11_init_87 (fun q25 H hq0 g => ?_)
  have n_q25 := hZ.fresh hq0 (fun h => h_neq t_a0 (by decide) hq0 (Option.some.inj h).symm)
  replace hu_q25 := hQ.1.u (q := q25) (t := 57) hq0
  replace hQ := hQ.nw (q := q25) (t := 57) hq0 (by decide)
  replace hI := hI.nw (q := q25) (t := 57) (f := fun _ => none)
  replace hR := hR.nw (q := q25) (t := 57) (f := fun _ => none) hq0 (fun k t2 n2 h => by cases (show (none : Option (Nat × Bool)) = some (t2, n2) from h))
  replace hZ := hZ.nw (q := q25) (t := 57) (f := fun _ => none) hq0 (L2 := (h_rL L24 q25 (fun _ => 0))) (fun b hb => h_rL_n hb)
  replace hz : h_row I0 q25 (fun _ => 0) a0 = (fun _ => 0) := (h_row_n (h_neq t_a0 (by decide) hq0)).trans hz
  replace kf_q9_2 : h_row I0 q25 (fun _ => 0) q9 2 = 0 := (congrFun (h_row_n (h_neq tq9 (by decide) hq0)) 2).trans kf_q9_2
  replace kf_q9_3 : h_row I0 q25 (fun _ => 0) q9 3 = (-1) := (congrFun (h_row_n (h_neq tq9 (by decide) hq0)) 3).trans kf_q9_3
  have luU : h_lw (h_row I0 q25 (fun _ => 0)) un nU lU q_pl := luU.c (fun i => congrFun (h_row_n (h_neq tnU (by decide) hq0)) i) (congrFun (h_row_n (h_neq tun (by decide) hq0)) 2) (fun i => congrFun (h_row_n (h_neq tlU (by decide) hq0)) i)
  replace cuH : ∀ k : Nat, k < 80 → (h_row I0 q25 (fun _ => 0) hd k).toInt = (k : Int) / 10 := fun k hk => (congrArg Int32.toInt (congrFun (h_row_n (h_neq thd (by decide) hq0)) k)).trans (cuH k hk)
  have ra_tx : (z.nw q25 57 (fun _ => none)).R tx = (fun _ => none) := (nw_rn (h_neq ttx (by decide) hq0)).trans ra_tx
  replace Ra0_0 := h_nwr (q := q25) (t := 57) (f := fun _ => none) hq0 t_a0 (by decide) Ra0_0
  have run := h_nwr (q := q25) (t := 57) (f := fun _ => none) hq0 tq5 (by decide) run
  have rtx := h_nwr (q := q25) (t := 57) (f := fun _ => none) hq0 tq5 (by decide) rtx
  have rnU := h_nwr (q := q25) (t := 57) (f := fun _ => none) hq0 tun (by decide) rnU
  have rlU := h_nwr (q := q25) (t := 57) (f := fun _ => none) hq0 tun (by decide) rlU
  replace Ra0_1 := h_nwr (q := q25) (t := 57) (f := fun _ => none) hq0 t_a0 (by decide) Ra0_1
  have al_q9_0 := h_nwr (q := q25) (t := 57) (f := fun _ => none) hq0 tq9 (by decide) al_q9_0
  replace Ra0_2 := h_nwr (q := q25) (t := 57) (f := fun _ => none) hq0 t_a0 (by decide) Ra0_2
  have al_q13_0 := h_nwr (q := q25) (t := 57) (f := fun _ => none) hq0 tq13 (by decide) al_q13_0
  replace Ra0_3 := h_nwr (q := q25) (t := 57) (f := fun _ => none) hq0 t_a0 (by decide) Ra0_3
  have rhd := h_nwr (q := q25) (t := 57) (f := fun _ => none) hq0 tq17 (by decide) rhd
  replace Ra0_4 := h_nwr (q := q25) (t := 57) (f := fun _ => none) hq0 t_a0 (by decide) Ra0_4
  have al_q21_0 := h_nwr (q := q25) (t := 57) (f := fun _ => none) hq0 tq21 (by decide) al_q21_0
  have al_q21_1 := h_nwr (q := q25) (t := 57) (f := fun _ => none) hq0 tq21 (by decide) al_q21_1
  replace Ra0_5 := h_nwr (q := q25) (t := 57) (f := fun _ => none) hq0 t_a0 (by decide) Ra0_5
  replace t_a0 := h_nwk (q := q25) (t := 57) (f := fun _ => none) hq0 t_a0 (by decide)
  replace tq1 := h_nwk (q := q25) (t := 57) (f := fun _ => none) hq0 tq1 (by decide)
  replace tq5 := h_nwk (q := q25) (t := 57) (f := fun _ => none) hq0 tq5 (by decide)
  have tun := h_nwk (q := q25) (t := 57) (f := fun _ => none) hq0 tun (by decide)
  have ttx := h_nwk (q := q25) (t := 57) (f := fun _ => none) hq0 ttx (by decide)
  have tnU := h_nwk (q := q25) (t := 57) (f := fun _ => none) hq0 tnU (by decide)
  have tlU := h_nwk (q := q25) (t := 57) (f := fun _ => none) hq0 tlU (by decide)
  replace tq9 := h_nwk (q := q25) (t := 57) (f := fun _ => none) hq0 tq9 (by decide)
  replace tq13 := h_nwk (q := q25) (t := 57) (f := fun _ => none) hq0 tq13 (by decide)
  replace tq17 := h_nwk (q := q25) (t := 57) (f := fun _ => none) hq0 tq17 (by decide)
  have thd := h_nwk (q := q25) (t := 57) (f := fun _ => none) hq0 thd (by decide)
  replace tq21 := h_nwk (q := q25) (t := 57) (f := fun _ => none) hq0 tq21 (by decide)
  replace tq25 : (z.nw q25 57 (fun _ => none)).ty q25 = 57 := nw_te
  have hzq25 : h_row I0 q25 (fun _ => 0) q25 = fun _ => 0 := h_row_e
  obtain ⟨z, ez⟩ : ∃ z1 : tZ, z1 = (z.nw q25 57 (fun _ => none)) := ⟨_, rfl⟩
  rw [← ez] at g hI hR hZ hQ hu_q25 ra_tx t_a0 tq1 tq5 tun ttx tnU tlU tq9 tq13 tq17 thd tq21 tq25 Ra0_0 run rtx rnU rlU Ra0_1 al_q9_0 Ra0_2 al_q13_0 Ra0_3 rhd Ra0_4 al_q21_0 al_q21_1 Ra0_5
  clear ez
  obtain ⟨I0, eI⟩ : ∃ J : tI, J = h_row I0 q25 (fun _ => 0) := ⟨_, rfl⟩
  rw [← eI] at g hI hZ hQ hz hzq25 kf_q9_2 kf_q9_3 luU cuH
  clear eI
  obtain ⟨L26, eL⟩ : ∃ J : tL, J = (h_rL L24 q25 (fun _ => 0)) := ⟨_, rfl⟩
  rw [← eL] at g hZ
  replace hF : h_F [(600, 999), (601, 999), (6, 2), (54, 3), (1100, 999)] z I0 I0 := h_F.rf
  refine W.cs (cells' := 46) (slots' := 1717) rfl rfl ?_
  refine lv_dup hx hb dX11_init_90 rfl ?_
  refine lv_aload_n hx hb dX11_init_91 rfl (lv_at hl 0 rfl) ?_
  refine h_get (v := .ref q13) hx hb hts iX11 hown g t_a0 (by decide) so_61 rfl 3 (by decide) (hts (.fieldLink RX11 37 "CapLeague" "books" "LCapLeague$Books;") (by decide +kernel)) rfl dX11_init_92 (by show va_rf (z.R a0 3) = _; rw [Ra0_3]; rfl) ?_
  replace kf_q9_2 : I0 q9 2 = 0 := kf_q9_2
  replace kf_q9_3 : I0 q9 3 = (-1) := kf_q9_3
  replace hZ := hZ.tcall hF rfl
  replace hQ := hQ.tc hF rfl
  refine va_callv (va_runI (As := [.ref q13]) (rest := [.ref q25, .ref a0]) ⟨hx, hb, hml, hown, hts⟩ (zX7_initF l E X A z I0 L26 q25 tq25 q13 tq13 hzq25 hQ.1) (cwI 1 hts gX11_init_X7_init rfl rfl rfl (hts (.initialized RX7) (by decide +kernel)) (hts (.methodLink RX11 59 yX7_init) (by decide +kernel)) (hts (.instanceMethod yX7_init) (by decide +kernel)) rfl (by decide +kernel) ⟨Nat.le_of_ble_eq_true rfl, Nat.le_of_ble_eq_true rfl⟩) ⟨h_blind _ _ _ _ _ _ _, h_pre _ hE hk hX hA hI hR g⟩ rfl rfl hl.1 rfl (lv_room (Nat.le_of_ble_eq_true rfl)) dX11_init_95 ⟨Nat.le_of_ble_eq_true rfl, Nat.le_of_ble_eq_true rfl⟩) g.2.1 (fun q _ h => h) (fun q h => h) (fun u t H1 locs ht hvm h27 hB hz1 hk1 hS => ?_)
  obtain ⟨z, I0, L28⟩ := u
  obtain ⟨hI, hR, xh27, qh27, tq25_, h27⟩ := h27
  replace hI : h_I z I0 := hI
  replace hR : h_R z := hR
  have hB : h_B E A z I0 L28 t := hB
  have xh27 : h_X [] [] (some q25) _ _ _ z I0 L28 := xh27
  have qh27 : h_Q [] (some q25) _ z I0 := qh27
  replace hQ := hQ.call xh27 qh27 rfl rfl
  replace hu_q25 := hu_q25.call qh27.2.1 tq25 (by decide)
  replace hZ := hZ.call xh27 rfl (fun t h9 => rfl) (fun b hb => Or.inr (by cases hb; exact n_q25))
  replace hz : I0 a0 = (fun _ => 0) := (funext (fun k => xh27.I t_a0 (by decide) (h_sne t_a0 tq25 (by decide)) rfl)).trans hz
  replace kf_q9_2 : I0 q9 2 = 0 := (xh27.I tq9 (by decide) (h_sne tq9 tq25 (by decide)) rfl).trans kf_q9_2
  replace kf_q9_3 : I0 q9 3 = (-1) := (xh27.I tq9 (by decide) (h_sne tq9 tq25 (by decide)) rfl).trans kf_q9_3
  replace Ra0_0 := xh27.R t_a0 (by decide) (h_sne t_a0 tq25 (by decide)) rfl Ra0_0
  have run := xh27.R tq5 (by decide) (h_sne tq5 tq25 (by decide)) rfl run
  have rtx := xh27.R tq5 (by decide) (h_sne tq5 tq25 (by decide)) rfl rtx
  have rnU := xh27.R tun (by decide) (h_sne tun tq25 (by decide)) rfl rnU
  have rlU := xh27.R tun (by decide) (h_sne tun tq25 (by decide)) rfl rlU
  replace Ra0_1 := xh27.R t_a0 (by decide) (h_sne t_a0 tq25 (by decide)) rfl Ra0_1
  have al_q9_0 := xh27.R tq9 (by decide) (h_sne tq9 tq25 (by decide)) rfl al_q9_0
  replace Ra0_2 := xh27.R t_a0 (by decide) (h_sne t_a0 tq25 (by decide)) rfl Ra0_2
  have al_q13_0 := xh27.R tq13 (by decide) (h_sne tq13 tq25 (by decide)) rfl al_q13_0
  replace Ra0_3 := xh27.R t_a0 (by decide) (h_sne t_a0 tq25 (by decide)) rfl Ra0_3
  have rhd := xh27.R tq17 (by decide) (h_sne tq17 tq25 (by decide)) rfl rhd
  replace Ra0_4 := xh27.R t_a0 (by decide) (h_sne t_a0 tq25 (by decide)) rfl Ra0_4
  have al_q21_0 := xh27.R tq21 (by decide) (h_sne tq21 tq25 (by decide)) rfl al_q21_0
  have al_q21_1 := xh27.R tq21 (by decide) (h_sne tq21 tq25 (by decide)) rfl al_q21_1
  replace Ra0_5 := xh27.R t_a0 (by decide) (h_sne t_a0 tq25 (by decide)) rfl Ra0_5
  have luU : h_lw I0 un nU lU q_pl := luU.c (fun i => xh27.I tnU (by decide) (h_sne tnU tq25 (by decide)) rfl) (xh27.I tun (by decide) (h_sne tun tq25 (by decide)) rfl) (fun i => xh27.I tlU (by decide) (h_sne tlU tq25 (by decide)) rfl)
  replace cuH : ∀ k : Nat, k < 80 → (I0 hd k).toInt = (k : Int) / 10 := fun k hk => (congrArg Int32.toInt (xh27.I thd (by decide) (h_sne thd tq25 (by decide)) rfl)).trans (cuH k hk)
  have ra_tx : z.R tx = (fun _ => none) := ((xh27 tx (by rw [ttx]; decide) (h_sne ttx tq25 (by decide))).2.1 (by rw [ttx]; rfl)).trans ra_tx
  replace t_a0 := xh27.ty t_a0 (by decide) (h_sne t_a0 tq25 (by decide))
  replace tq1 := xh27.ty tq1 (by decide) (h_sne tq1 tq25 (by decide))
  replace tq5 := xh27.ty tq5 (by decide) (h_sne tq5 tq25 (by decide))
  have tun := xh27.ty tun (by decide) (h_sne tun tq25 (by decide))
  have ttx := xh27.ty ttx (by decide) (h_sne ttx tq25 (by decide))
  have tnU := xh27.ty tnU (by decide) (h_sne tnU tq25 (by decide))
  have tlU := xh27.ty tlU (by decide) (h_sne tlU tq25 (by decide))
  replace tq9 := xh27.ty tq9 (by decide) (h_sne tq9 tq25 (by decide))
  replace tq13 := xh27.ty tq13 (by decide) (h_sne tq13 tq25 (by decide))
  replace tq17 := xh27.ty tq17 (by decide) (h_sne tq17 tq25 (by decide))
  have thd := xh27.ty thd (by decide) (h_sne thd tq25 (by decide))
  replace tq21 := xh27.ty tq21 (by decide) (h_sne tq21 tq25 (by decide))
  replace tq25 : z.ty q25 = 8 := tq25_
  replace g := h_after g hB ht hS
  generalize H1 = H at g
  clear hB hk1 hz1 ht hvm hS
  replace hF : h_F [(600, 999), (601, 999), (6, 2), (54, 3), (1100, 999)] z I0 I0 := h_F.rf
  refine W.cs (cells' := 116) (slots' := 5644) rfl rfl ?_
  have al_q25_0 : z.R q25 0 = some q13 := h27
  replace kf_q9_2 : I0 q9 2 = 0 := kf_q9_2
  replace kf_q9_3 : I0 q9 3 = (-1) := kf_q9_3
  replace hZ := hZ.tcall hF rfl
  replace hQ := hQ.tc hF rfl
  refine h_putR (ty := tyX11 6) (v := q25) hx hb hts iX11 tyX11 tyX11_ok nmX11 hown g t_a0 (by decide) so_61 rfl 6 (by decide) rfl (hts (.fieldLink RX11 62 "CapLeague" "rings" "LCapLeague$RingSearch;") (by decide +kernel)) rfl rfl hin rfl (by decide +kernel) rfl rfl dX11_init_98 (fun H locs g => ?_)
  replace hQ := hQ.wR (a := a0) (k := 6) (v := q25) t_a0 (by decide) tq25 (by decide) (fun h9 => ⟨hu_q25, n_q25⟩)
  replace hR := hR.wR (k0 := 6) (v := some q25) t_a0 (fun _ => rfl)
  replace hZ := hZ.wR (a := a0) (k := 6) (v := some q25) (Or.inl rfl)
  replace hI : h_I (z.wR a0 6 (some q25)) I0 := hI
  replace t_a0 : (z.wR a0 6 (some q25)).ty a0 = 61 := t_a0
  replace tq1 : (z.wR a0 6 (some q25)).ty q1 = 9 := tq1
  replace tq5 : (z.wR a0 6 (some q25)).ty q5 = 4 := tq5
  have tun : (z.wR a0 6 (some q25)).ty un = 6 := tun
  have ttx : (z.wR a0 6 (some q25)).ty tx = 401 := ttx
  have tnU : (z.wR a0 6 (some q25)).ty nU = 600 := tnU
  have tlU : (z.wR a0 6 (some q25)).ty lU = 601 := tlU
  replace tq9 : (z.wR a0 6 (some q25)).ty q9 = 5 := tq9
  replace tq13 : (z.wR a0 6 (some q25)).ty q13 = 1 := tq13
  replace tq17 : (z.wR a0 6 (some q25)).ty q17 = 11 := tq17
  have thd : (z.wR a0 6 (some q25)).ty hd = 1100 := thd
  replace tq21 : (z.wR a0 6 (some q25)).ty q21 = 10 := tq21
  replace tq25 : (z.wR a0 6 (some q25)).ty q25 = 8 := tq25
  replace Ra0_0 : (z.wR a0 6 (some q25)).R a0 0 = some q1 := (h_up_at (by decide)).trans Ra0_0
  have run : (z.wR a0 6 (some q25)).R q5 0 = some un := (congrFun (h_up_ne (h_ne2 tq5 t_a0 (by decide))) 0).trans run
  have rtx : (z.wR a0 6 (some q25)).R q5 1 = some tx := (congrFun (h_up_ne (h_ne2 tq5 t_a0 (by decide))) 1).trans rtx
  have rnU : (z.wR a0 6 (some q25)).R un 0 = some nU := (congrFun (h_up_ne (h_ne2 tun t_a0 (by decide))) 0).trans rnU
  have rlU : (z.wR a0 6 (some q25)).R un 1 = some lU := (congrFun (h_up_ne (h_ne2 tun t_a0 (by decide))) 1).trans rlU
  replace Ra0_1 : (z.wR a0 6 (some q25)).R a0 1 = some q5 := (h_up_at (by decide)).trans Ra0_1
  have al_q9_0 : (z.wR a0 6 (some q25)).R q9 0 = some q1 := (congrFun (h_up_ne (h_ne2 tq9 t_a0 (by decide))) 0).trans al_q9_0
  replace Ra0_2 : (z.wR a0 6 (some q25)).R a0 2 = some q9 := (h_up_at (by decide)).trans Ra0_2
  have al_q13_0 : (z.wR a0 6 (some q25)).R q13 0 = some q5 := (congrFun (h_up_ne (h_ne2 tq13 t_a0 (by decide))) 0).trans al_q13_0
  replace Ra0_3 : (z.wR a0 6 (some q25)).R a0 3 = some q13 := (h_up_at (by decide)).trans Ra0_3
  have rhd : (z.wR a0 6 (some q25)).R q17 0 = some hd := (congrFun (h_up_ne (h_ne2 tq17 t_a0 (by decide))) 0).trans rhd
  replace Ra0_4 : (z.wR a0 6 (some q25)).R a0 4 = some q17 := (h_up_at (by decide)).trans Ra0_4
  have al_q21_0 : (z.wR a0 6 (some q25)).R q21 0 = some q13 := (congrFun (h_up_ne (h_ne2 tq21 t_a0 (by decide))) 0).trans al_q21_0
  have al_q21_1 : (z.wR a0 6 (some q25)).R q21 1 = some q17 := (congrFun (h_up_ne (h_ne2 tq21 t_a0 (by decide))) 1).trans al_q21_1
  replace Ra0_5 : (z.wR a0 6 (some q25)).R a0 5 = some q21 := (h_up_at (by decide)).trans Ra0_5
  have al_q25_0 : (z.wR a0 6 (some q25)).R q25 0 = some q13 := (congrFun (h_up_ne (h_ne2 tq25 t_a0 (by decide))) 0).trans al_q25_0
  have ra_tx : (z.wR a0 6 (some q25)).R tx = (fun _ => none) := (h_up_ne (h_ne2 ttx t_a0 (by decide))).trans ra_tx
  replace Ra0_6 : (z.wR a0 6 (some q25)).R a0 6 = some q25 := h_up_eq
  obtain ⟨z, ez⟩ : ∃ z1 : tZ, z1 = (z.wR a0 6 (some q25)) := ⟨_, rfl⟩
  rw [← ez] at g hI hR hZ hQ ra_tx t_a0 tq1 tq5 tun ttx tnU tlU tq9 tq13 tq17 thd tq21 tq25 Ra0_0 run rtx rnU rlU Ra0_1 al_q9_0 Ra0_2 al_q13_0 Ra0_3 rhd Ra0_4 al_q21_0 al_q21_1 Ra0_5 al_q25_0 Ra0_6
  clear ez
  replace hF : h_F [(600, 999), (601, 999), (6, 2), (54, 3), (1100, 999)] z I0 I0 := h_F.rf
  refine lv_aload_n hx hb dX11_init_101 rfl (lv_at hl 0 rfl) ?_
  replace kf_q9_2 : I0 q9 2 = 0 := kf_q9_2
  replace kf_q9_3 : I0 q9 3 = (-1) := kf_q9_3
  replace hZ := hZ.tcall hF rfl
  replace hQ := hQ.tc hF rfl
  refine h_newO (C := RX2) (T := TX2) (N := 7) (ci := 2) hx hb hts iX2 tyX2 tyX2_ok hown (hts (.classLink RX11 66 RX2) (by decide +kernel)) (hts (.instantiable RX2 7) (by decide +kernel)) (hts (.initialized RX2) (by decide +kernel)) g hA rfl so_52 (fun j hj => by rcases (show j = 0 ∨ j = 1 ∨ j = 2 ∨ j = 3 ∨ j = 4 ∨ j = 5 ∨ j = 6 by omega) with rfl | rfl | rfl | rfl | rfl | rfl | rfl <;> rfl) (Nat.le_of_ble_eq_true rfl) (Nat.le_of_ble_eq_true rfl) dX11_init_102 (fun q29 H hq0 g => ?_)
  have n_q29 := hZ.fresh hq0 (fun h => h_neq t_a0 (by decide) hq0 (Option.some.inj h).symm)
  replace hu_q29 := hQ.1.u (q := q29) (t := 52) hq0
  replace hQ := hQ.nw (q := q29) (t := 52) hq0 (by decide)
  replace hI := hI.nw (q := q29) (t := 52) (f := fun _ => none)
  replace hR := hR.nw (q := q29) (t := 52) (f := fun _ => none) hq0 (fun k t2 n2 h => by cases (show (none : Option (Nat × Bool)) = some (t2, n2) from h))
  replace hZ := hZ.nw (q := q29) (t := 52) (f := fun _ => none) hq0 (L2 := (h_rL L28 q29 (fun _ => 0))) (fun b hb => h_rL_n hb)
  replace hz : h_row I0 q29 (fun _ => 0) a0 = (fun _ => 0) := (h_row_n (h_neq t_a0 (by decide) hq0)).trans hz
  replace kf_q9_2 : h_row I0 q29 (fun _ => 0) q9 2 = 0 := (congrFun (h_row_n (h_neq tq9 (by decide) hq0)) 2).trans kf_q9_2
  replace kf_q9_3 : h_row I0 q29 (fun _ => 0) q9 3 = (-1) := (congrFun (h_row_n (h_neq tq9 (by decide) hq0)) 3).trans kf_q9_3
  have luU : h_lw (h_row I0 q29 (fun _ => 0)) un nU lU q_pl := luU.c (fun i => congrFun (h_row_n (h_neq tnU (by decide) hq0)) i) (congrFun (h_row_n (h_neq tun (by decide) hq0)) 2) (fun i => congrFun (h_row_n (h_neq tlU (by decide) hq0)) i)
  replace cuH : ∀ k : Nat, k < 80 → (h_row I0 q29 (fun _ => 0) hd k).toInt = (k : Int) / 10 := fun k hk => (congrArg Int32.toInt (congrFun (h_row_n (h_neq thd (by decide) hq0)) k)).trans (cuH k hk)
  have ra_tx : (z.nw q29 52 (fun _ => none)).R tx = (fun _ => none) := (nw_rn (h_neq ttx (by decide) hq0)).trans ra_tx
  replace Ra0_0 := h_nwr (q := q29) (t := 52) (f := fun _ => none) hq0 t_a0 (by decide) Ra0_0
  have run := h_nwr (q := q29) (t := 52) (f := fun _ => none) hq0 tq5 (by decide) run
  have rtx := h_nwr (q := q29) (t := 52) (f := fun _ => none) hq0 tq5 (by decide) rtx
  have rnU := h_nwr (q := q29) (t := 52) (f := fun _ => none) hq0 tun (by decide) rnU
  have rlU := h_nwr (q := q29) (t := 52) (f := fun _ => none) hq0 tun (by decide) rlU
  replace Ra0_1 := h_nwr (q := q29) (t := 52) (f := fun _ => none) hq0 t_a0 (by decide) Ra0_1
  have al_q9_0 := h_nwr (q := q29) (t := 52) (f := fun _ => none) hq0 tq9 (by decide) al_q9_0
  replace Ra0_2 := h_nwr (q := q29) (t := 52) (f := fun _ => none) hq0 t_a0 (by decide) Ra0_2
  have al_q13_0 := h_nwr (q := q29) (t := 52) (f := fun _ => none) hq0 tq13 (by decide) al_q13_0
  replace Ra0_3 := h_nwr (q := q29) (t := 52) (f := fun _ => none) hq0 t_a0 (by decide) Ra0_3
  have rhd := h_nwr (q := q29) (t := 52) (f := fun _ => none) hq0 tq17 (by decide) rhd
  replace Ra0_4 := h_nwr (q := q29) (t := 52) (f := fun _ => none) hq0 t_a0 (by decide) Ra0_4
  have al_q21_0 := h_nwr (q := q29) (t := 52) (f := fun _ => none) hq0 tq21 (by decide) al_q21_0
  have al_q21_1 := h_nwr (q := q29) (t := 52) (f := fun _ => none) hq0 tq21 (by decide) al_q21_1
  replace Ra0_5 := h_nwr (q := q29) (t := 52) (f := fun _ => none) hq0 t_a0 (by decide) Ra0_5
  have al_q25_0 := h_nwr (q := q29) (t := 52) (f := fun _ => none) hq0 tq25 (by decide) al_q25_0
  replace Ra0_6 := h_nwr (q := q29) (t := 52) (f := fun _ => none) hq0 t_a0 (by decide) Ra0_6
  replace t_a0 := h_nwk (q := q29) (t := 52) (f := fun _ => none) hq0 t_a0 (by decide)
  replace tq1 := h_nwk (q := q29) (t := 52) (f := fun _ => none) hq0 tq1 (by decide)
  replace tq5 := h_nwk (q := q29) (t := 52) (f := fun _ => none) hq0 tq5 (by decide)
  have tun := h_nwk (q := q29) (t := 52) (f := fun _ => none) hq0 tun (by decide)
  have ttx := h_nwk (q := q29) (t := 52) (f := fun _ => none) hq0 ttx (by decide)
  have tnU := h_nwk (q := q29) (t := 52) (f := fun _ => none) hq0 tnU (by decide)
  have tlU := h_nwk (q := q29) (t := 52) (f := fun _ => none) hq0 tlU (by decide)
  replace tq9 := h_nwk (q := q29) (t := 52) (f := fun _ => none) hq0 tq9 (by decide)
  replace tq13 := h_nwk (q := q29) (t := 52) (f := fun _ => none) hq0 tq13 (by decide)
  replace tq17 := h_nwk (q := q29) (t := 52) (f := fun _ => none) hq0 tq17 (by decide)
  have thd := h_nwk (q := q29) (t := 52) (f := fun _ => none) hq0 thd (by decide)
  replace tq21 := h_nwk (q := q29) (t := 52) (f := fun _ => none) hq0 tq21 (by decide)
  replace tq25 := h_nwk (q := q29) (t := 52) (f := fun _ => none) hq0 tq25 (by decide)
  replace tq29 : (z.nw q29 52 (fun _ => none)).ty q29 = 52 := nw_te
  have hzq29 : h_row I0 q29 (fun _ => 0) q29 = fun _ => 0 := h_row_e
  obtain ⟨z, ez⟩ : ∃ z1 : tZ, z1 = (z.nw q29 52 (fun _ => none)) := ⟨_, rfl⟩
  rw [← ez] at g hI hR hZ hQ hu_q29 ra_tx t_a0 tq1 tq5 tun ttx tnU tlU tq9 tq13 tq17 thd tq21 tq25 tq29 Ra0_0 run rtx rnU rlU Ra0_1 al_q9_0 Ra0_2 al_q13_0 Ra0_3 rhd Ra0_4 al_q21_0 al_q21_1 Ra0_5 al_q25_0 Ra0_6
  clear ez
  obtain ⟨I0, eI⟩ : ∃ J : tI, J = h_row I0 q29 (fun _ => 0) := ⟨_, rfl⟩
  rw [← eI] at g hI hZ hQ hz hzq29 kf_q9_2 kf_q9_3 luU cuH
  clear eI
  obtain ⟨L30, eL⟩ : ∃ J : tL, J = (h_rL L28 q29 (fun _ => 0)) := ⟨_, rfl⟩
  rw [← eL] at g hZ
  replace hF : h_F [(600, 999), (601, 999), (6, 2), (54, 3), (1100, 999)] z I0 I0 := h_F.rf
  refine W.cs (cells' := 117) (slots' := 5651) rfl rfl ?_
  refine lv_dup hx hb dX11_init_105 rfl ?_
  replace kf_q9_2 : I0 q9 2 = 0 := kf_q9_2
  replace kf_q9_3 : I0 q9 3 = (-1) := kf_q9_3
  replace hZ := hZ.tcall hF rfl
  replace hQ := hQ.tc hF rfl
  refine va_callv (va_runIN (As := []) (rest := [.ref q29, .ref a0]) ⟨hx, hb, hml, hown, hts⟩ (zX2_init l E X A z I0 L30 q29 tq29 hzq29 hQ.1) (⟨va_cnB 0 hts gX11_init_X2_init_n68 rfl rfl rfl (hE.link 4 rfl) (hts (.initialized RX2) (by decide +kernel)) (by decide +kernel) ⟨Nat.le_of_ble_eq_true rfl, Nat.le_of_ble_eq_true rfl⟩, rfl, hts (.instanceMethod yX2_init) (by decide +kernel)⟩) ⟨h_blind _ _ _ _ _ _ _, h_pre _ hE hk hX hA hI hR g⟩ rfl rfl hl.1 rfl (lv_room (Nat.le_of_ble_eq_true rfl)) dX11_init_106 ⟨Nat.le_of_ble_eq_true rfl, Nat.le_of_ble_eq_true rfl⟩) g.2.1 (fun q _ h => h) (fun q h => h) (fun u t H1 locs ht hvm h31 hB hz1 hk1 hS => ?_)
  obtain ⟨z, I0, L32⟩ := u
  obtain ⟨hI, hR, xh31, qh31, tq29_, h31⟩ := h31
  replace hI : h_I z I0 := hI
  replace hR : h_R z := hR
  have hB : h_B E A z I0 L32 t := hB
  have xh31 : h_X [] [] (some q29) _ _ _ z I0 L32 := xh31
  have qh31 : h_Q [] (some q29) _ z I0 := qh31
  replace hQ := hQ.call xh31 qh31 rfl rfl
  replace hu_q29 := hu_q29.call qh31.2.1 tq29 (by decide)
  replace hZ := hZ.call xh31 rfl (fun t h9 => rfl) (fun b hb => Or.inr (by cases hb; exact n_q29))
  replace hz : I0 a0 = (fun _ => 0) := (funext (fun k => xh31.I t_a0 (by decide) (h_sne t_a0 tq29 (by decide)) rfl)).trans hz
  replace kf_q9_2 : I0 q9 2 = 0 := (xh31.I tq9 (by decide) (h_sne tq9 tq29 (by decide)) rfl).trans kf_q9_2
  replace kf_q9_3 : I0 q9 3 = (-1) := (xh31.I tq9 (by decide) (h_sne tq9 tq29 (by decide)) rfl).trans kf_q9_3
  replace Ra0_0 := xh31.R t_a0 (by decide) (h_sne t_a0 tq29 (by decide)) rfl Ra0_0
  have run := xh31.R tq5 (by decide) (h_sne tq5 tq29 (by decide)) rfl run
  have rtx := xh31.R tq5 (by decide) (h_sne tq5 tq29 (by decide)) rfl rtx
  have rnU := xh31.R tun (by decide) (h_sne tun tq29 (by decide)) rfl rnU
  have rlU := xh31.R tun (by decide) (h_sne tun tq29 (by decide)) rfl rlU
  replace Ra0_1 := xh31.R t_a0 (by decide) (h_sne t_a0 tq29 (by decide)) rfl Ra0_1
  have al_q9_0 := xh31.R tq9 (by decide) (h_sne tq9 tq29 (by decide)) rfl al_q9_0
  replace Ra0_2 := xh31.R t_a0 (by decide) (h_sne t_a0 tq29 (by decide)) rfl Ra0_2
  have al_q13_0 := xh31.R tq13 (by decide) (h_sne tq13 tq29 (by decide)) rfl al_q13_0
  replace Ra0_3 := xh31.R t_a0 (by decide) (h_sne t_a0 tq29 (by decide)) rfl Ra0_3
  have rhd := xh31.R tq17 (by decide) (h_sne tq17 tq29 (by decide)) rfl rhd
  replace Ra0_4 := xh31.R t_a0 (by decide) (h_sne t_a0 tq29 (by decide)) rfl Ra0_4
  have al_q21_0 := xh31.R tq21 (by decide) (h_sne tq21 tq29 (by decide)) rfl al_q21_0
  have al_q21_1 := xh31.R tq21 (by decide) (h_sne tq21 tq29 (by decide)) rfl al_q21_1
  replace Ra0_5 := xh31.R t_a0 (by decide) (h_sne t_a0 tq29 (by decide)) rfl Ra0_5
  have al_q25_0 := xh31.R tq25 (by decide) (h_sne tq25 tq29 (by decide)) rfl al_q25_0
  replace Ra0_6 := xh31.R t_a0 (by decide) (h_sne t_a0 tq29 (by decide)) rfl Ra0_6
  have luU : h_lw I0 un nU lU q_pl := luU.c (fun i => xh31.I tnU (by decide) (h_sne tnU tq29 (by decide)) rfl) (xh31.I tun (by decide) (h_sne tun tq29 (by decide)) rfl) (fun i => xh31.I tlU (by decide) (h_sne tlU tq29 (by decide)) rfl)
  replace cuH : ∀ k : Nat, k < 80 → (I0 hd k).toInt = (k : Int) / 10 := fun k hk => (congrArg Int32.toInt (xh31.I thd (by decide) (h_sne thd tq29 (by decide)) rfl)).trans (cuH k hk)
  have ra_tx : z.R tx = (fun _ => none) := ((xh31 tx (by rw [ttx]; decide) (h_sne ttx tq29 (by decide))).2.1 (by rw [ttx]; rfl)).trans ra_tx
  replace t_a0 := xh31.ty t_a0 (by decide) (h_sne t_a0 tq29 (by decide))
  replace tq1 := xh31.ty tq1 (by decide) (h_sne tq1 tq29 (by decide))
  replace tq5 := xh31.ty tq5 (by decide) (h_sne tq5 tq29 (by decide))
  have tun := xh31.ty tun (by decide) (h_sne tun tq29 (by decide))
  have ttx := xh31.ty ttx (by decide) (h_sne ttx tq29 (by decide))
  have tnU := xh31.ty tnU (by decide) (h_sne tnU tq29 (by decide))
  have tlU := xh31.ty tlU (by decide) (h_sne tlU tq29 (by decide))
  replace tq9 := xh31.ty tq9 (by decide) (h_sne tq9 tq29 (by decide))
  replace tq13 := xh31.ty tq13 (by decide) (h_sne tq13 tq29 (by decide))
  replace tq17 := xh31.ty tq17 (by decide) (h_sne tq17 tq29 (by decide))
  have thd := xh31.ty thd (by decide) (h_sne thd tq29 (by decide))
  replace tq21 := xh31.ty tq21 (by decide) (h_sne tq21 tq29 (by decide))
  replace tq25 := xh31.ty tq25 (by decide) (h_sne tq25 tq29 (by decide))
  replace tq29 : z.ty q29 = 3 := tq29_
  replace g := h_after g hB ht hS
  generalize H1 = H at g
  clear hB hk1 hz1 ht hvm hS
  replace hF : h_F [(600, 999), (601, 999), (6, 2), (54, 3), (1100, 999)] z I0 I0 := h_F.rf
  refine W.cs (cells' := 141) (slots' := 5849) rfl rfl ?_
  replace kf_q9_2 : I0 q9 2 = 0 := kf_q9_2
  replace kf_q9_3 : I0 q9 3 = (-1) := kf_q9_3
  replace hZ := hZ.tcall hF rfl
  replace hQ := hQ.tc hF rfl
  refine h_putR (ty := tyX11 7) (v := q29) hx hb hts iX11 tyX11 tyX11_ok nmX11 hown g t_a0 (by decide) so_61 rfl 7 (by decide) rfl (hts (.fieldLink RX11 69 "CapLeague" "draft" "LCapLeague$Draft;") (by decide +kernel)) rfl rfl hin rfl (by decide +kernel) rfl rfl dX11_init_109 (fun H locs g => ?_)
  replace hQ := hQ.wR (a := a0) (k := 7) (v := q29) t_a0 (by decide) tq29 (by decide) (fun h9 => ⟨hu_q29, n_q29⟩)
  replace hR := hR.wR (k0 := 7) (v := some q29) t_a0 (fun _ => rfl)
  replace hZ := hZ.wR (a := a0) (k := 7) (v := some q29) (Or.inl rfl)
  replace hI : h_I (z.wR a0 7 (some q29)) I0 := hI
  replace t_a0 : (z.wR a0 7 (some q29)).ty a0 = 61 := t_a0
  replace tq1 : (z.wR a0 7 (some q29)).ty q1 = 9 := tq1
  replace tq5 : (z.wR a0 7 (some q29)).ty q5 = 4 := tq5
  have tun : (z.wR a0 7 (some q29)).ty un = 6 := tun
  have ttx : (z.wR a0 7 (some q29)).ty tx = 401 := ttx
  have tnU : (z.wR a0 7 (some q29)).ty nU = 600 := tnU
  have tlU : (z.wR a0 7 (some q29)).ty lU = 601 := tlU
  replace tq9 : (z.wR a0 7 (some q29)).ty q9 = 5 := tq9
  replace tq13 : (z.wR a0 7 (some q29)).ty q13 = 1 := tq13
  replace tq17 : (z.wR a0 7 (some q29)).ty q17 = 11 := tq17
  have thd : (z.wR a0 7 (some q29)).ty hd = 1100 := thd
  replace tq21 : (z.wR a0 7 (some q29)).ty q21 = 10 := tq21
  replace tq25 : (z.wR a0 7 (some q29)).ty q25 = 8 := tq25
  replace tq29 : (z.wR a0 7 (some q29)).ty q29 = 3 := tq29
  replace Ra0_0 : (z.wR a0 7 (some q29)).R a0 0 = some q1 := (h_up_at (by decide)).trans Ra0_0
  have run : (z.wR a0 7 (some q29)).R q5 0 = some un := (congrFun (h_up_ne (h_ne2 tq5 t_a0 (by decide))) 0).trans run
  have rtx : (z.wR a0 7 (some q29)).R q5 1 = some tx := (congrFun (h_up_ne (h_ne2 tq5 t_a0 (by decide))) 1).trans rtx
  have rnU : (z.wR a0 7 (some q29)).R un 0 = some nU := (congrFun (h_up_ne (h_ne2 tun t_a0 (by decide))) 0).trans rnU
  have rlU : (z.wR a0 7 (some q29)).R un 1 = some lU := (congrFun (h_up_ne (h_ne2 tun t_a0 (by decide))) 1).trans rlU
  replace Ra0_1 : (z.wR a0 7 (some q29)).R a0 1 = some q5 := (h_up_at (by decide)).trans Ra0_1
  have al_q9_0 : (z.wR a0 7 (some q29)).R q9 0 = some q1 := (congrFun (h_up_ne (h_ne2 tq9 t_a0 (by decide))) 0).trans al_q9_0
  replace Ra0_2 : (z.wR a0 7 (some q29)).R a0 2 = some q9 := (h_up_at (by decide)).trans Ra0_2
  have al_q13_0 : (z.wR a0 7 (some q29)).R q13 0 = some q5 := (congrFun (h_up_ne (h_ne2 tq13 t_a0 (by decide))) 0).trans al_q13_0
  replace Ra0_3 : (z.wR a0 7 (some q29)).R a0 3 = some q13 := (h_up_at (by decide)).trans Ra0_3
  have rhd : (z.wR a0 7 (some q29)).R q17 0 = some hd := (congrFun (h_up_ne (h_ne2 tq17 t_a0 (by decide))) 0).trans rhd
  replace Ra0_4 : (z.wR a0 7 (some q29)).R a0 4 = some q17 := (h_up_at (by decide)).trans Ra0_4
  have al_q21_0 : (z.wR a0 7 (some q29)).R q21 0 = some q13 := (congrFun (h_up_ne (h_ne2 tq21 t_a0 (by decide))) 0).trans al_q21_0
  have al_q21_1 : (z.wR a0 7 (some q29)).R q21 1 = some q17 := (congrFun (h_up_ne (h_ne2 tq21 t_a0 (by decide))) 1).trans al_q21_1
  replace Ra0_5 : (z.wR a0 7 (some q29)).R a0 5 = some q21 := (h_up_at (by decide)).trans Ra0_5
  have al_q25_0 : (z.wR a0 7 (some q29)).R q25 0 = some q13 := (congrFun (h_up_ne (h_ne2 tq25 t_a0 (by decide))) 0).trans al_q25_0
  replace Ra0_6 : (z.wR a0 7 (some q29)).R a0 6 = some q25 := (h_up_at (by decide)).trans Ra0_6
  have ra_tx : (z.wR a0 7 (some q29)).R tx = (fun _ => none) := (h_up_ne (h_ne2 ttx t_a0 (by decide))).trans ra_tx
  replace Ra0_7 : (z.wR a0 7 (some q29)).R a0 7 = some q29 := h_up_eq
  obtain ⟨z, ez⟩ : ∃ z1 : tZ, z1 = (z.wR a0 7 (some q29)) := ⟨_, rfl⟩
  rw [← ez] at g hI hR hZ hQ ra_tx t_a0 tq1 tq5 tun ttx tnU tlU tq9 tq13 tq17 thd tq21 tq25 tq29 Ra0_0 run rtx rnU rlU Ra0_1 al_q9_0 Ra0_2 al_q13_0 Ra0_3 rhd Ra0_4 al_q21_0 al_q21_1 Ra0_5 al_q25_0 Ra0_6 Ra0_7
  clear ez
  replace hF : h_F [(600, 999), (601, 999), (6, 2), (54, 3), (1100, 999)] z I0 I0 := h_F.rf
  replace hZ := hZ.tcall hF rfl
  replace hQ := hQ.tc hF rfl
  replace kf_q9_2 : I0 q9 2 = 0 := kf_q9_2
  replace kf_q9_3 : I0 q9 3 = (-1) := kf_q9_3
  have g := g.rt (a := a0) (t := 12) (by rw [t_a0]; decide) (by rw [t_a0]; rfl)
  replace hI := hI.rt (a := a0) (t := 12) (fun k => by
      rw [hz]
      exact h_bd0 12 k)
  replace hR := hR.rt (t := 12) t_a0 (by decide) (by decide) (fun k t2 n2 h hk => by
      have hk9 : k < 8 := hk
      rcases (show k = 0 ∨ k = 1 ∨ k = 2 ∨ k = 3 ∨ k = 4 ∨ k = 5 ∨ k = 6 ∨ k = 7 by omega) with rfl | rfl | rfl | rfl | rfl | rfl | rfl | rfl
      · have e9 : some (9, false) = some (t2, n2) := h
        cases e9
        exact ⟨q1, Ra0_0, tq1⟩
      · have e9 : some (4, false) = some (t2, n2) := h
        cases e9
        exact ⟨q5, Ra0_1, tq5⟩
      · have e9 : some (5, false) = some (t2, n2) := h
        cases e9
        exact ⟨q9, Ra0_2, tq9⟩
      · have e9 : some (1, false) = some (t2, n2) := h
        cases e9
        exact ⟨q13, Ra0_3, tq13⟩
      · have e9 : some (11, false) = some (t2, n2) := h
        cases e9
        exact ⟨q17, Ra0_4, tq17⟩
      · have e9 : some (10, false) = some (t2, n2) := h
        cases e9
        exact ⟨q21, Ra0_5, tq21⟩
      · have e9 : some (8, false) = some (t2, n2) := h
        cases e9
        exact ⟨q25, Ra0_6, tq25⟩
      · have e9 : some (3, false) = some (t2, n2) := h
        cases e9
        exact ⟨q29, Ra0_7, tq29⟩)
  replace hZ := hZ.rt (a := a0) (t := 12) (Or.inl rfl)
  replace hQ := hQ.rt (a := a0) (t := 12) t_a0 (by decide) (by decide) rfl rfl
  replace tq1 := h_rtk (t := 12) tq1 t_a0 (by decide)
  replace tq5 := h_rtk (t := 12) tq5 t_a0 (by decide)
  have tun := h_rtk (t := 12) tun t_a0 (by decide)
  have ttx := h_rtk (t := 12) ttx t_a0 (by decide)
  have tnU := h_rtk (t := 12) tnU t_a0 (by decide)
  have tlU := h_rtk (t := 12) tlU t_a0 (by decide)
  replace tq9 := h_rtk (t := 12) tq9 t_a0 (by decide)
  replace tq13 := h_rtk (t := 12) tq13 t_a0 (by decide)
  replace tq17 := h_rtk (t := 12) tq17 t_a0 (by decide)
  have thd := h_rtk (t := 12) thd t_a0 (by decide)
  replace tq21 := h_rtk (t := 12) tq21 t_a0 (by decide)
  replace tq25 := h_rtk (t := 12) tq25 t_a0 (by decide)
  replace tq29 := h_rtk (t := 12) tq29 t_a0 (by decide)
  replace t_a0 : (z.rt a0 12).ty a0 = 12 := rt_e
  replace Ra0_0 : (z.rt a0 12).R a0 0 = some q1 := Ra0_0
  have run : (z.rt a0 12).R q5 0 = some un := run
  have rtx : (z.rt a0 12).R q5 1 = some tx := rtx
  have rnU : (z.rt a0 12).R un 0 = some nU := rnU
  have rlU : (z.rt a0 12).R un 1 = some lU := rlU
  replace Ra0_1 : (z.rt a0 12).R a0 1 = some q5 := Ra0_1
  have al_q9_0 : (z.rt a0 12).R q9 0 = some q1 := al_q9_0
  replace Ra0_2 : (z.rt a0 12).R a0 2 = some q9 := Ra0_2
  have al_q13_0 : (z.rt a0 12).R q13 0 = some q5 := al_q13_0
  replace Ra0_3 : (z.rt a0 12).R a0 3 = some q13 := Ra0_3
  have rhd : (z.rt a0 12).R q17 0 = some hd := rhd
  replace Ra0_4 : (z.rt a0 12).R a0 4 = some q17 := Ra0_4
  have al_q21_0 : (z.rt a0 12).R q21 0 = some q13 := al_q21_0
  have al_q21_1 : (z.rt a0 12).R q21 1 = some q17 := al_q21_1
  replace Ra0_5 : (z.rt a0 12).R a0 5 = some q21 := Ra0_5
  have al_q25_0 : (z.rt a0 12).R q25 0 = some q13 := al_q25_0
  replace Ra0_6 : (z.rt a0 12).R a0 6 = some q25 := Ra0_6
  replace Ra0_7 : (z.rt a0 12).R a0 7 = some q29 := Ra0_7
  have ra_tx : (z.rt a0 12).R tx = (fun _ => none) := ra_tx
  obtain ⟨z, ez⟩ : ∃ z1 : tZ, z1 = (z.rt a0 12) := ⟨_, rfl⟩
  rw [← ez] at g hI hR hZ hQ ra_tx t_a0 tq1 tq5 tun ttx tnU tlU tq9 tq13 tq17 thd tq21 tq25 tq29 Ra0_0 run rtx rnU rlU Ra0_1 al_q9_0 Ra0_2 al_q13_0 Ra0_3 rhd Ra0_4 al_q21_0 al_q21_1 Ra0_5 al_q25_0 Ra0_6 Ra0_7
  clear ez
  replace hF : h_F [(600, 999), (601, 999), (6, 2), (54, 3), (1100, 999)] z I0 I0 := h_F.rf
  have rq1 := Ra0_0
  have run := run
  have rtx := rtx
  have rnU := rnU
  have rlU := rlU
  have rq5 := Ra0_1
  have rq1 := al_q9_0
  have rq9 := Ra0_2
  have rq5 := al_q13_0
  have rq13 := Ra0_3
  have rhd := rhd
  have rq17 := Ra0_4
  have rq13 := al_q21_0
  have rq17 := al_q21_1
  have rq21 := Ra0_5
  have rq13 := al_q25_0
  have rq25 := Ra0_6
  have rq29 := Ra0_7
  replace hZ := hZ.tcall hF rfl
  replace hQ := hQ.tc hF rfl
  replace hS := g.2.1
  exact W.vret hx hb hr (fun t ht hW => ⟨⟨(z, I0, L32), rfl, ⟨hI, hR, hZ, hQ, t_a0, ⟨(by show (h_ad z (h_ad z a0 2) 0) = (h_ad z a0 0); rw [h_ad.at Ra0_2]; rw [h_ad.at al_q9_0]; rw [h_ad.at Ra0_0]), (by show (h_ad z (h_ad z a0 3) 0) = (h_ad z a0 1); rw [h_ad.at Ra0_3]; rw [h_ad.at al_q13_0]; rw [h_ad.at Ra0_1]), (by show (h_ad z (h_ad z a0 5) 0) = (h_ad z a0 3); rw [h_ad.at Ra0_5]; rw [h_ad.at al_q21_0]; rw [h_ad.at Ra0_3]), (by show (h_ad z (h_ad z a0 5) 1) = (h_ad z a0 4); rw [h_ad.at Ra0_5]; rw [h_ad.at al_q21_1]; rw [h_ad.at Ra0_4]), (by show (h_ad z (h_ad z a0 6) 0) = (h_ad z a0 3); rw [h_ad.at Ra0_6]; rw [h_ad.at al_q25_0]; rw [h_ad.at Ra0_3]), (by show z.R (h_ad z (h_ad z a0 1) 1) = fun _ => none; rw [h_ad.at Ra0_1, h_ad.at rtx]; exact ra_tx), (by show h_lw I0 (h_ad z (h_ad z a0 1) 0) (h_ad z (h_ad z (h_ad z a0 1) 0) 0) (h_ad z (h_ad z (h_ad z a0 1) 0) 1) q_pl; rw [h_ad.at Ra0_1, h_ad.at run, h_ad.at rnU, h_ad.at rlU]; exact luU), (by show I0 (h_ad z a0 2) 2 = 0 ∧ I0 (h_ad z a0 2) 3 = -1; rw [h_ad.at Ra0_2]; exact ⟨kf_q9_2, kf_q9_3⟩), (by show ∀ k : Nat, k < 80 → (I0 (h_ad z (h_ad z a0 4) 0) k).toInt = (k : Int) / 10; rw [h_ad.at Ra0_4]; rw [h_ad.at rhd]; exact cuH)⟩⟩, h_ret g ht⟩, hS.F ht⟩) hS.2.2 dX11_init_112
set_option maxHeartbeats 4000000 in
set_option maxRecDepth 100000 in
theorem zX12_initB (l : Launch) (E : tE) (X : tX) (A : Nat → Prop) (z0 : tZ) (J0 : tI) (K0 : tL) (a0 : Nat) (t_a0 : z0.ty a0 = 62) (h_z0 : J0 a0 = fun _ => 0) (hU : h_U z0) : Met l yX12_init wsX12_init ({ frames := 2, cells := 33, slots := 3500, locals := 128 }) (va_Pc [.ref a0] (h_P E X A z0 J0 K0)) (va_Qv (fun (q1 : tZ × tI × tL) => h_I q1.1 q1.2.1 ∧ h_R q1.1 ∧ h_X [(1310, 999), (1325, 999), (1326, 999), (1328, 999), (62, 9)] [] (some a0) z0 J0 K0 q1.1 q1.2.1 q1.2.2 ∧ h_Q [(1310, 999), (1325, 999), (1326, 999), (1328, 999), (62, 9), (13, 9)] (some a0) z0 q1.1 q1.2.1 ∧ q1.1.ty a0 = 13 ∧ (h_J1 (q1.2.1 (h_ad q1.1 a0 10))) ∧ (∀ k : Nat, k ≠ 9 → q1.2.1 a0 k = 0) ∧ (∀ i : Nat, i < 16 → (q1.2.1 (h_ad q1.1 a0 10) (176 + i)).toInt = q_pl i) ∧ (q1.2.1 a0 9 = -1) ∧ (∀ k : Nat, k < 80 → (q1.2.1 (h_ad q1.1 a0 25) k).toInt = (k : Int) / 10) ∧ (∀ k : Nat, k < 80 → q1.2.1 (h_ad q1.1 a0 28) k = -1)) (fun (q1 : tZ × tI × tL) t => h_B E A q1.1 q1.2.1 q1.2.2 t) A) 33 3500 A := by
  refine Met.ofW (cc := cX12_init) (maxL := 3) (ret := none) (by decide) rfl ?_
  intro pr_ ev_ s m args below meth cd_ s₁ B hml hv
  obtain ⟨rfl, hE, hk, hX, hA, hK, hI, hR, hB0⟩ := hv
  obtain ⟨z, ez0⟩ : ∃ z : tZ, z = z0 := ⟨_, rfl⟩
  obtain ⟨I0, eJ0⟩ : ∃ I0 : tI, I0 = J0 := ⟨_, rfl⟩
  obtain ⟨L0, eK0⟩ : ∃ L0 : tL, L0 = K0 := ⟨_, rfl⟩
  rw [← ez0, ← eJ0] at hI
  rw [← ez0] at hR t_a0
  rw [← ez0, ← eJ0, ← eK0] at hB0
  rw [← eJ0] at h_z0
  have g : h_G h_so h_fk E A z I0 L0 s s.heap s.heap [] := ⟨hK, va_S.rf, hB0⟩
  replace hF : h_F [(1310, 999), (1325, 999), (1326, 999), (1328, 999), (62, 9)] z I0 I0 := h_F.rf
  have hx := B.exec
  have hb := B.bytes
  have hr := B.returns
  have hts := atoms_spec (ws := wsX12_init) B.pre
  have hown : s.vm.findClass RX12 = some m.cls := findClass_of_methodNamed B.named
  have hlocks := B.notSynchronized
  have iX12 : ∀ w ∈ u_ws RX12 TX12 51, w ∈ wsX12_init := by decide +kernel
  have hl := lv_entry ([.ref a0]) (n := 3) (Nat.le_of_ble_eq_true rfl)
  rw [lg_entry_eq]
  generalize (lg_sl ([.ref a0]) ++ List.replicate (3 - (lg_sl ([.ref a0])).length) Slot.unset).toArray = ls at hl ⊢
  have hl : lv_has ls 3 [(0, .ref a0)] := hl
  have hin : meth.name = "<init>" := (name_of_methodNamed B.named B.method).1
  replace hZ : h_X [(1310, 999), (1325, 999), (1326, 999), (1328, 999), (62, 9)] [] (some a0) z0 J0 K0 z I0 L0 := by rw [ez0, eJ0, eK0]; exact h_X.rf
  replace hz : I0 a0 = (fun _ => 0) := h_z0
  replace hQ : h_Q [(1310, 999), (1325, 999), (1326, 999), (1328, 999), (62, 9), (13, 9)] (some a0) z0 z I0 := by rw [ez0]; exact h_Q.rf hU (fun b hb => by cases hb; exact h_z0)
  refine lv_aload_n hx hb dX12_init_0 rfl (lv_at hl 0 rfl) ?_
  refine W.objInit hx hb hown (hts (.methodLink RX12 1 objectInit) (by decide +kernel)) (hts (.instanceMethod objectInit) (by decide +kernel)) (hts (.code objectInit ⟨#[0xb1]⟩ 1 none) (List.mem_of_getElem? (i := 3) rfl)) rfl (by rw [hml]; exact hl.1) rfl dX12_init_1 (Nat.le_of_ble_eq_true rfl) (Nat.le_of_ble_eq_true rfl) ?_
  refine W.eq (g2 := F0 m 4 ls []) rfl ?_
  refine lv_aload_n hx hb dX12_init_4 rfl (lv_at hl 0 rfl) ?_
  refine lv_sipush (v := 500) hx hb dX12_init_5 (by decide) ?_
  replace hZ := hZ.tcall hF rfl
  replace hQ := hQ.tc hF rfl
  refine h_newB hx hb (hts (.arrayClass .byte) (by decide +kernel)) g hA so_1300 (by decide) (by decide) (by decide) (Nat.le_of_ble_eq_true rfl) (Nat.le_of_ble_eq_true rfl) dX12_init_8 (fun q1 H hq0 g => ?_)
  have n_q1 := hZ.fresh hq0 (fun h => h_neq t_a0 (by decide) hq0 (Option.some.inj h).symm)
  replace hu_q1 := hQ.1.u (q := q1) (t := 1300) hq0
  replace hQ := hQ.nw (q := q1) (t := 1300) hq0 (by decide)
  replace hI := hI.nw (q := q1) (t := 1300) (f := fun _ => none)
  replace hR := hR.nw (q := q1) (t := 1300) (f := fun _ => none) hq0 (fun k t2 n2 h => by cases (show (none : Option (Nat × Bool)) = some (t2, n2) from h))
  replace hZ := hZ.nw (q := q1) (t := 1300) (f := fun _ => none) hq0 (L2 := L0) (fun _ _ => rfl)
  replace hz : h_row I0 q1 (fun _ => 0) a0 = (fun _ => 0) := (h_row_n (h_neq t_a0 (by decide) hq0)).trans hz
  replace t_a0 := h_nwk (q := q1) (t := 1300) (f := fun _ => none) hq0 t_a0 (by decide)
  replace tq1 : (z.nw q1 1300 (fun _ => none)).ty q1 = 1300 := nw_te
  obtain ⟨z, ez⟩ : ∃ z1 : tZ, z1 = (z.nw q1 1300 (fun _ => none)) := ⟨_, rfl⟩
  rw [← ez] at g hI hR hZ hQ hu_q1 t_a0 tq1 
  clear ez
  obtain ⟨I0, eI⟩ : ∃ J : tI, J = h_row I0 q1 (fun _ => 0) := ⟨_, rfl⟩
  rw [← eI] at g hI hZ hQ hz
  clear eI
  replace hF : h_F [(1310, 999), (1325, 999), (1326, 999), (1328, 999), (62, 9)] z I0 I0 := h_F.rf
  refine W.cs (cells' := 1) (slots' := 500) rfl rfl ?_
  replace hZ := hZ.tcall hF rfl
  replace hQ := hQ.tc hF rfl
  refine h_putR (ty := tyX12 0) (v := q1) hx hb hts iX12 tyX12 tyX12_ok nmX12 hown g t_a0 (by decide) so_62 rfl 0 (by decide) rfl (hts (.fieldLink RX12 7 "CapLeagueModel" "tape" "[B") (by decide +kernel)) rfl rfl hin rfl (by decide +kernel) rfl rfl dX12_init_10 (fun H locs g => ?_)
  replace hQ := hQ.wR (a := a0) (k := 0) (v := q1) t_a0 (by decide) tq1 (by decide) (fun h9 => ⟨hu_q1, n_q1⟩)
  replace hR := hR.wR (k0 := 0) (v := some q1) t_a0 (fun _ => rfl)
  replace hZ := hZ.wR (a := a0) (k := 0) (v := some q1) (Or.inl rfl)
  replace hI : h_I (z.wR a0 0 (some q1)) I0 := hI
  replace t_a0 : (z.wR a0 0 (some q1)).ty a0 = 62 := t_a0
  replace tq1 : (z.wR a0 0 (some q1)).ty q1 = 1300 := tq1
  replace Ra0_0 : (z.wR a0 0 (some q1)).R a0 0 = some q1 := h_up_eq
  obtain ⟨z, ez⟩ : ∃ z1 : tZ, z1 = (z.wR a0 0 (some q1)) := ⟨_, rfl⟩
  rw [← ez] at g hI hR hZ hQ t_a0 tq1 Ra0_0
  clear ez
  replace hF : h_F [(1310, 999), (1325, 999), (1326, 999), (1328, 999), (62, 9)] z I0 I0 := h_F.rf
  refine lv_aload_n hx hb dX12_init_13 rfl (lv_at hl 0 rfl) ?_
  refine lv_iconst (v := (-1)) hx hb dX12_init_14 (by decide) ?_
  refine h_putI (ty := .int) (v := (-1)) hx hb hts iX12 tyX12 tyX12_ok nmX12 hown g t_a0 (by decide) so_62 rfl 9 (by decide) rfl (hts (.fieldLink RX12 13 "CapLeagueModel" "faultPlace" "I") (by decide +kernel)) rfl rfl (by decide +kernel) rfl rfl dX12_init_15 (fun I2 H locs eI2 g => ?_)
  replace hI := hI.wr eI2 t_a0 (rfl : h_bd 62 9 = ((-2147483648), 2147483647)) (by decide) (by decide)
  replace hF := hF.wr eI2 t_a0 rfl
  replace hz := h_hz hz eI2
  refine lv_aload_n hx hb dX12_init_18 rfl (lv_at hl 0 rfl) ?_
  refine lv_sipush (v := 192) hx hb dX12_init_19 (by decide) ?_
  replace kf_a0_9 : I2 a0 9 = (-1) := h_n0 eI2
  replace hZ := hZ.tcall hF rfl
  replace hQ := hQ.tc hF rfl
  refine h_newI hx hb (hts (.arrayClass .int) (by decide +kernel)) g hA so_1310 (by decide) (by decide) (by decide) (Nat.le_of_ble_eq_true rfl) (Nat.le_of_ble_eq_true rfl) dX12_init_22 (fun q3 H hq0 g => ?_)
  have n_q3 := hZ.fresh hq0 (fun h => h_neq t_a0 (by decide) hq0 (Option.some.inj h).symm)
  replace hu_q3 := hQ.1.u (q := q3) (t := 1310) hq0
  replace hQ := hQ.nw (q := q3) (t := 1310) hq0 (by decide)
  replace hI := hI.nw (q := q3) (t := 1310) (f := fun _ => none)
  replace hR := hR.nw (q := q3) (t := 1310) (f := fun _ => none) hq0 (fun k t2 n2 h => by cases (show (none : Option (Nat × Bool)) = some (t2, n2) from h))
  replace hZ := hZ.nw (q := q3) (t := 1310) (f := fun _ => none) hq0 (L2 := L0) (fun _ _ => rfl)
  replace hz : h_row I2 q3 (fun _ => 0) a0 = (fun j => if j = 9 then (-1) else (fun _ => 0) j) := (h_row_n (h_neq t_a0 (by decide) hq0)).trans hz
  replace kf_a0_9 : h_row I2 q3 (fun _ => 0) a0 9 = (-1) := (congrFun (h_row_n (h_neq t_a0 (by decide) hq0)) 9).trans kf_a0_9
  replace Ra0_0 := h_nwr (q := q3) (t := 1310) (f := fun _ => none) hq0 t_a0 (by decide) Ra0_0
  replace t_a0 := h_nwk (q := q3) (t := 1310) (f := fun _ => none) hq0 t_a0 (by decide)
  replace tq1 := h_nwk (q := q3) (t := 1310) (f := fun _ => none) hq0 tq1 (by decide)
  replace tq3 : (z.nw q3 1310 (fun _ => none)).ty q3 = 1310 := nw_te
  have z_laws : h_row I2 q3 (fun _ => 0) q3 = fun _ => 0 := h_row_e
  obtain ⟨z, ez⟩ : ∃ z1 : tZ, z1 = (z.nw q3 1310 (fun _ => none)) := ⟨_, rfl⟩
  rw [← ez] at g hI hR hZ hQ hu_q3 t_a0 tq1 tq3 Ra0_0
  clear ez
  obtain ⟨I0, eI⟩ : ∃ J : tI, J = h_row I2 q3 (fun _ => 0) := ⟨_, rfl⟩
  rw [← eI] at g hI hZ hQ hz kf_a0_9 z_laws
  clear eI
  replace hF : h_F [(1310, 999), (1325, 999), (1326, 999), (1328, 999), (62, 9)] z I0 I0 := h_F.rf
  refine W.cs (cells' := 2) (slots' := 692) rfl rfl ?_
  replace kf_a0_9 : I0 a0 9 = (-1) := kf_a0_9
  replace hZ := hZ.tcall hF rfl
  replace hQ := hQ.tc hF rfl
  refine h_putR (ty := tyX12 10) (v := q3) hx hb hts iX12 tyX12 tyX12_ok nmX12 hown g t_a0 (by decide) so_62 rfl 10 (by decide) rfl (hts (.fieldLink RX12 17 "CapLeagueModel" "laws" "[I") (by decide +kernel)) rfl rfl hin rfl (by decide +kernel) rfl rfl dX12_init_24 (fun H locs g => ?_)
  replace hQ := hQ.wR (a := a0) (k := 10) (v := q3) t_a0 (by decide) tq3 (by decide) (fun h9 => ⟨hu_q3, n_q3⟩)
  replace hR := hR.wR (k0 := 10) (v := some q3) t_a0 (fun _ => rfl)
  replace hZ := hZ.wR (a := a0) (k := 10) (v := some q3) (Or.inl rfl)
  replace hI : h_I (z.wR a0 10 (some q3)) I0 := hI
  replace t_a0 : (z.wR a0 10 (some q3)).ty a0 = 62 := t_a0
  replace tq1 : (z.wR a0 10 (some q3)).ty q1 = 1300 := tq1
  replace tq3 : (z.wR a0 10 (some q3)).ty q3 = 1310 := tq3
  replace Ra0_0 : (z.wR a0 10 (some q3)).R a0 0 = some q1 := (h_up_at (by decide)).trans Ra0_0
  replace Ra0_10 : (z.wR a0 10 (some q3)).R a0 10 = some q3 := h_up_eq
  obtain ⟨z, ez⟩ : ∃ z1 : tZ, z1 = (z.wR a0 10 (some q3)) := ⟨_, rfl⟩
  rw [← ez] at g hI hR hZ hQ t_a0 tq1 tq3 Ra0_0 Ra0_10
  clear ez
  replace hF : h_F [(1310, 999), (1325, 999), (1326, 999), (1328, 999), (62, 9)] z I0 I0 := h_F.rf
  refine lv_aload_n hx hb dX12_init_27 rfl (lv_at hl 0 rfl) ?_
  refine lv_bipush (v := 10) hx hb dX12_init_28 (by decide) ?_
  replace kf_a0_9 : I0 a0 9 = (-1) := kf_a0_9
  replace hZ := hZ.tcall hF rfl
  replace hQ := hQ.tc hF rfl
  refine h_newZ hx hb (hts (.arrayClass .boolean) (by decide +kernel)) g hA so_1311 (by decide) (by decide) (by decide) (Nat.le_of_ble_eq_true rfl) (Nat.le_of_ble_eq_true rfl) dX12_init_30 (fun q4 H hq0 g => ?_)
  have n_q4 := hZ.fresh hq0 (fun h => h_neq t_a0 (by decide) hq0 (Option.some.inj h).symm)
  replace hu_q4 := hQ.1.u (q := q4) (t := 1311) hq0
  replace hQ := hQ.nw (q := q4) (t := 1311) hq0 (by decide)
  replace hI := hI.nw (q := q4) (t := 1311) (f := fun _ => none)
  replace hR := hR.nw (q := q4) (t := 1311) (f := fun _ => none) hq0 (fun k t2 n2 h => by cases (show (none : Option (Nat × Bool)) = some (t2, n2) from h))
  replace hZ := hZ.nw (q := q4) (t := 1311) (f := fun _ => none) hq0 (L2 := L0) (fun _ _ => rfl)
  replace hz : h_row I0 q4 (fun _ => 0) a0 = (fun j => if j = 9 then (-1) else (fun _ => 0) j) := (h_row_n (h_neq t_a0 (by decide) hq0)).trans hz
  replace kf_a0_9 : h_row I0 q4 (fun _ => 0) a0 9 = (-1) := (congrFun (h_row_n (h_neq t_a0 (by decide) hq0)) 9).trans kf_a0_9
  have z_laws : h_row I0 q4 (fun _ => 0) q3 = fun _ => 0 := (h_row_n (h_neq tq3 (by decide) hq0)).trans z_laws
  replace Ra0_0 := h_nwr (q := q4) (t := 1311) (f := fun _ => none) hq0 t_a0 (by decide) Ra0_0
  replace Ra0_10 := h_nwr (q := q4) (t := 1311) (f := fun _ => none) hq0 t_a0 (by decide) Ra0_10
  replace t_a0 := h_nwk (q := q4) (t := 1311) (f := fun _ => none) hq0 t_a0 (by decide)
  replace tq1 := h_nwk (q := q4) (t := 1311) (f := fun _ => none) hq0 tq1 (by decide)
  replace tq3 := h_nwk (q := q4) (t := 1311) (f := fun _ => none) hq0 tq3 (by decide)
  replace tq4 : (z.nw q4 1311 (fun _ => none)).ty q4 = 1311 := nw_te
  obtain ⟨z, ez⟩ : ∃ z1 : tZ, z1 = (z.nw q4 1311 (fun _ => none)) := ⟨_, rfl⟩
  rw [← ez] at g hI hR hZ hQ hu_q4 t_a0 tq1 tq3 tq4 Ra0_0 Ra0_10
  clear ez
  obtain ⟨I0, eI⟩ : ∃ J : tI, J = h_row I0 q4 (fun _ => 0) := ⟨_, rfl⟩
  rw [← eI] at g hI hZ hQ hz kf_a0_9 z_laws
  clear eI
  replace hF : h_F [(1310, 999), (1325, 999), (1326, 999), (1328, 999), (62, 9)] z I0 I0 := h_F.rf
  refine W.cs (cells' := 3) (slots' := 702) rfl rfl ?_
  replace kf_a0_9 : I0 a0 9 = (-1) := kf_a0_9
  replace hZ := hZ.tcall hF rfl
  replace hQ := hQ.tc hF rfl
  refine h_putR (ty := tyX12 11) (v := q4) hx hb hts iX12 tyX12 tyX12_ok nmX12 hown g t_a0 (by decide) so_62 rfl 11 (by decide) rfl (hts (.fieldLink RX12 21 "CapLeagueModel" "hasLaws" "[Z") (by decide +kernel)) rfl rfl hin rfl (by decide +kernel) rfl rfl dX12_init_32 (fun H locs g => ?_)
  replace hQ := hQ.wR (a := a0) (k := 11) (v := q4) t_a0 (by decide) tq4 (by decide) (fun h9 => ⟨hu_q4, n_q4⟩)
  replace hR := hR.wR (k0 := 11) (v := some q4) t_a0 (fun _ => rfl)
  replace hZ := hZ.wR (a := a0) (k := 11) (v := some q4) (Or.inl rfl)
  replace hI : h_I (z.wR a0 11 (some q4)) I0 := hI
  replace t_a0 : (z.wR a0 11 (some q4)).ty a0 = 62 := t_a0
  replace tq1 : (z.wR a0 11 (some q4)).ty q1 = 1300 := tq1
  replace tq3 : (z.wR a0 11 (some q4)).ty q3 = 1310 := tq3
  replace tq4 : (z.wR a0 11 (some q4)).ty q4 = 1311 := tq4
  replace Ra0_0 : (z.wR a0 11 (some q4)).R a0 0 = some q1 := (h_up_at (by decide)).trans Ra0_0
  replace Ra0_10 : (z.wR a0 11 (some q4)).R a0 10 = some q3 := (h_up_at (by decide)).trans Ra0_10
  replace Ra0_11 : (z.wR a0 11 (some q4)).R a0 11 = some q4 := h_up_eq
  obtain ⟨z, ez⟩ : ∃ z1 : tZ, z1 = (z.wR a0 11 (some q4)) := ⟨_, rfl⟩
  rw [← ez] at g hI hR hZ hQ t_a0 tq1 tq3 tq4 Ra0_0 Ra0_10 Ra0_11
  clear ez
  replace hF : h_F [(1310, 999), (1325, 999), (1326, 999), (1328, 999), (62, 9)] z I0 I0 := h_F.rf
  refine lv_aload_n hx hb dX12_init_35 rfl (lv_at hl 0 rfl) ?_
  refine lv_bipush (v := 60) hx hb dX12_init_36 (by decide) ?_
  replace kf_a0_9 : I0 a0 9 = (-1) := kf_a0_9
  replace hZ := hZ.tcall hF rfl
  replace hQ := hQ.tc hF rfl
  refine h_newI hx hb (hts (.arrayClass .int) (by decide +kernel)) g hA so_1314 (by decide) (by decide) (by decide) (Nat.le_of_ble_eq_true rfl) (Nat.le_of_ble_eq_true rfl) dX12_init_38 (fun q5 H hq0 g => ?_)
  have n_q5 := hZ.fresh hq0 (fun h => h_neq t_a0 (by decide) hq0 (Option.some.inj h).symm)
  replace hu_q5 := hQ.1.u (q := q5) (t := 1314) hq0
  replace hQ := hQ.nw (q := q5) (t := 1314) hq0 (by decide)
  replace hI := hI.nw (q := q5) (t := 1314) (f := fun _ => none)
  replace hR := hR.nw (q := q5) (t := 1314) (f := fun _ => none) hq0 (fun k t2 n2 h => by cases (show (none : Option (Nat × Bool)) = some (t2, n2) from h))
  replace hZ := hZ.nw (q := q5) (t := 1314) (f := fun _ => none) hq0 (L2 := L0) (fun _ _ => rfl)
  replace hz : h_row I0 q5 (fun _ => 0) a0 = (fun j => if j = 9 then (-1) else (fun _ => 0) j) := (h_row_n (h_neq t_a0 (by decide) hq0)).trans hz
  replace kf_a0_9 : h_row I0 q5 (fun _ => 0) a0 9 = (-1) := (congrFun (h_row_n (h_neq t_a0 (by decide) hq0)) 9).trans kf_a0_9
  have z_laws : h_row I0 q5 (fun _ => 0) q3 = fun _ => 0 := (h_row_n (h_neq tq3 (by decide) hq0)).trans z_laws
  replace Ra0_0 := h_nwr (q := q5) (t := 1314) (f := fun _ => none) hq0 t_a0 (by decide) Ra0_0
  replace Ra0_10 := h_nwr (q := q5) (t := 1314) (f := fun _ => none) hq0 t_a0 (by decide) Ra0_10
  replace Ra0_11 := h_nwr (q := q5) (t := 1314) (f := fun _ => none) hq0 t_a0 (by decide) Ra0_11
  replace t_a0 := h_nwk (q := q5) (t := 1314) (f := fun _ => none) hq0 t_a0 (by decide)
  replace tq1 := h_nwk (q := q5) (t := 1314) (f := fun _ => none) hq0 tq1 (by decide)
  replace tq3 := h_nwk (q := q5) (t := 1314) (f := fun _ => none) hq0 tq3 (by decide)
  replace tq4 := h_nwk (q := q5) (t := 1314) (f := fun _ => none) hq0 tq4 (by decide)
  replace tq5 : (z.nw q5 1314 (fun _ => none)).ty q5 = 1314 := nw_te
  obtain ⟨z, ez⟩ : ∃ z1 : tZ, z1 = (z.nw q5 1314 (fun _ => none)) := ⟨_, rfl⟩
  rw [← ez] at g hI hR hZ hQ hu_q5 t_a0 tq1 tq3 tq4 tq5 Ra0_0 Ra0_10 Ra0_11
  clear ez
  obtain ⟨I0, eI⟩ : ∃ J : tI, J = h_row I0 q5 (fun _ => 0) := ⟨_, rfl⟩
  rw [← eI] at g hI hZ hQ hz kf_a0_9 z_laws
  clear eI
  replace hF : h_F [(1310, 999), (1325, 999), (1326, 999), (1328, 999), (62, 9)] z I0 I0 := h_F.rf
  refine W.cs (cells' := 4) (slots' := 762) rfl rfl ?_
  replace kf_a0_9 : I0 a0 9 = (-1) := kf_a0_9
  replace hZ := hZ.tcall hF rfl
  replace hQ := hQ.tc hF rfl
  refine h_putR (ty := tyX12 14) (v := q5) hx hb hts iX12 tyX12 tyX12_ok nmX12 hown g t_a0 (by decide) so_62 rfl 14 (by decide) rfl (hts (.fieldLink RX12 25 "CapLeagueModel" "clubOf" "[I") (by decide +kernel)) rfl rfl hin rfl (by decide +kernel) rfl rfl dX12_init_40 (fun H locs g => ?_)
  replace hQ := hQ.wR (a := a0) (k := 14) (v := q5) t_a0 (by decide) tq5 (by decide) (fun h9 => ⟨hu_q5, n_q5⟩)
  replace hR := hR.wR (k0 := 14) (v := some q5) t_a0 (fun _ => rfl)
  replace hZ := hZ.wR (a := a0) (k := 14) (v := some q5) (Or.inl rfl)
  replace hI : h_I (z.wR a0 14 (some q5)) I0 := hI
  replace t_a0 : (z.wR a0 14 (some q5)).ty a0 = 62 := t_a0
  replace tq1 : (z.wR a0 14 (some q5)).ty q1 = 1300 := tq1
  replace tq3 : (z.wR a0 14 (some q5)).ty q3 = 1310 := tq3
  replace tq4 : (z.wR a0 14 (some q5)).ty q4 = 1311 := tq4
  replace tq5 : (z.wR a0 14 (some q5)).ty q5 = 1314 := tq5
  replace Ra0_0 : (z.wR a0 14 (some q5)).R a0 0 = some q1 := (h_up_at (by decide)).trans Ra0_0
  replace Ra0_10 : (z.wR a0 14 (some q5)).R a0 10 = some q3 := (h_up_at (by decide)).trans Ra0_10
  replace Ra0_11 : (z.wR a0 14 (some q5)).R a0 11 = some q4 := (h_up_at (by decide)).trans Ra0_11
  replace Ra0_14 : (z.wR a0 14 (some q5)).R a0 14 = some q5 := h_up_eq
  obtain ⟨z, ez⟩ : ∃ z1 : tZ, z1 = (z.wR a0 14 (some q5)) := ⟨_, rfl⟩
  rw [← ez] at g hI hR hZ hQ t_a0 tq1 tq3 tq4 tq5 Ra0_0 Ra0_10 Ra0_11 Ra0_14
  clear ez
  replace hF : h_F [(1310, 999), (1325, 999), (1326, 999), (1328, 999), (62, 9)] z I0 I0 := h_F.rf
  refine lv_aload_n hx hb dX12_init_43 rfl (lv_at hl 0 rfl) ?_
  refine lv_bipush (v := 60) hx hb dX12_init_44 (by decide) ?_
  replace kf_a0_9 : I0 a0 9 = (-1) := kf_a0_9
  replace hZ := hZ.tcall hF rfl
  replace hQ := hQ.tc hF rfl
  refine h_newI hx hb (hts (.arrayClass .int) (by decide +kernel)) g hA so_1315 (by decide) (by decide) (by decide) (Nat.le_of_ble_eq_true rfl) (Nat.le_of_ble_eq_true rfl) dX12_init_46 (fun q6 H hq0 g => ?_)
  have n_q6 := hZ.fresh hq0 (fun h => h_neq t_a0 (by decide) hq0 (Option.some.inj h).symm)
  replace hu_q6 := hQ.1.u (q := q6) (t := 1315) hq0
  replace hQ := hQ.nw (q := q6) (t := 1315) hq0 (by decide)
  replace hI := hI.nw (q := q6) (t := 1315) (f := fun _ => none)
  replace hR := hR.nw (q := q6) (t := 1315) (f := fun _ => none) hq0 (fun k t2 n2 h => by cases (show (none : Option (Nat × Bool)) = some (t2, n2) from h))
  replace hZ := hZ.nw (q := q6) (t := 1315) (f := fun _ => none) hq0 (L2 := L0) (fun _ _ => rfl)
  replace hz : h_row I0 q6 (fun _ => 0) a0 = (fun j => if j = 9 then (-1) else (fun _ => 0) j) := (h_row_n (h_neq t_a0 (by decide) hq0)).trans hz
  replace kf_a0_9 : h_row I0 q6 (fun _ => 0) a0 9 = (-1) := (congrFun (h_row_n (h_neq t_a0 (by decide) hq0)) 9).trans kf_a0_9
  have z_laws : h_row I0 q6 (fun _ => 0) q3 = fun _ => 0 := (h_row_n (h_neq tq3 (by decide) hq0)).trans z_laws
  replace Ra0_0 := h_nwr (q := q6) (t := 1315) (f := fun _ => none) hq0 t_a0 (by decide) Ra0_0
  replace Ra0_10 := h_nwr (q := q6) (t := 1315) (f := fun _ => none) hq0 t_a0 (by decide) Ra0_10
  replace Ra0_11 := h_nwr (q := q6) (t := 1315) (f := fun _ => none) hq0 t_a0 (by decide) Ra0_11
  replace Ra0_14 := h_nwr (q := q6) (t := 1315) (f := fun _ => none) hq0 t_a0 (by decide) Ra0_14
  replace t_a0 := h_nwk (q := q6) (t := 1315) (f := fun _ => none) hq0 t_a0 (by decide)
  replace tq1 := h_nwk (q := q6) (t := 1315) (f := fun _ => none) hq0 tq1 (by decide)
  replace tq3 := h_nwk (q := q6) (t := 1315) (f := fun _ => none) hq0 tq3 (by decide)
  replace tq4 := h_nwk (q := q6) (t := 1315) (f := fun _ => none) hq0 tq4 (by decide)
  replace tq5 := h_nwk (q := q6) (t := 1315) (f := fun _ => none) hq0 tq5 (by decide)
  replace tq6 : (z.nw q6 1315 (fun _ => none)).ty q6 = 1315 := nw_te
  obtain ⟨z, ez⟩ : ∃ z1 : tZ, z1 = (z.nw q6 1315 (fun _ => none)) := ⟨_, rfl⟩
  rw [← ez] at g hI hR hZ hQ hu_q6 t_a0 tq1 tq3 tq4 tq5 tq6 Ra0_0 Ra0_10 Ra0_11 Ra0_14
  clear ez
  obtain ⟨I0, eI⟩ : ∃ J : tI, J = h_row I0 q6 (fun _ => 0) := ⟨_, rfl⟩
  rw [← eI] at g hI hZ hQ hz kf_a0_9 z_laws
  clear eI
  replace hF : h_F [(1310, 999), (1325, 999), (1326, 999), (1328, 999), (62, 9)] z I0 I0 := h_F.rf
  refine W.cs (cells' := 5) (slots' := 822) rfl rfl ?_
  replace kf_a0_9 : I0 a0 9 = (-1) := kf_a0_9
  replace hZ := hZ.tcall hF rfl
  replace hQ := hQ.tc hF rfl
  refine h_putR (ty := tyX12 15) (v := q6) hx hb hts iX12 tyX12 tyX12_ok nmX12 hown g t_a0 (by decide) so_62 rfl 15 (by decide) rfl (hts (.fieldLink RX12 28 "CapLeagueModel" "first" "[I") (by decide +kernel)) rfl rfl hin rfl (by decide +kernel) rfl rfl dX12_init_48 (fun H locs g => ?_)
  replace hQ := hQ.wR (a := a0) (k := 15) (v := q6) t_a0 (by decide) tq6 (by decide) (fun h9 => ⟨hu_q6, n_q6⟩)
  replace hR := hR.wR (k0 := 15) (v := some q6) t_a0 (fun _ => rfl)
  replace hZ := hZ.wR (a := a0) (k := 15) (v := some q6) (Or.inl rfl)
  replace hI : h_I (z.wR a0 15 (some q6)) I0 := hI
  replace t_a0 : (z.wR a0 15 (some q6)).ty a0 = 62 := t_a0
  replace tq1 : (z.wR a0 15 (some q6)).ty q1 = 1300 := tq1
  replace tq3 : (z.wR a0 15 (some q6)).ty q3 = 1310 := tq3
  replace tq4 : (z.wR a0 15 (some q6)).ty q4 = 1311 := tq4
  replace tq5 : (z.wR a0 15 (some q6)).ty q5 = 1314 := tq5
  replace tq6 : (z.wR a0 15 (some q6)).ty q6 = 1315 := tq6
  replace Ra0_0 : (z.wR a0 15 (some q6)).R a0 0 = some q1 := (h_up_at (by decide)).trans Ra0_0
  replace Ra0_10 : (z.wR a0 15 (some q6)).R a0 10 = some q3 := (h_up_at (by decide)).trans Ra0_10
  replace Ra0_11 : (z.wR a0 15 (some q6)).R a0 11 = some q4 := (h_up_at (by decide)).trans Ra0_11
  replace Ra0_14 : (z.wR a0 15 (some q6)).R a0 14 = some q5 := (h_up_at (by decide)).trans Ra0_14
  replace Ra0_15 : (z.wR a0 15 (some q6)).R a0 15 = some q6 := h_up_eq
  obtain ⟨z, ez⟩ : ∃ z1 : tZ, z1 = (z.wR a0 15 (some q6)) := ⟨_, rfl⟩
  rw [← ez] at g hI hR hZ hQ t_a0 tq1 tq3 tq4 tq5 tq6 Ra0_0 Ra0_10 Ra0_11 Ra0_14 Ra0_15
  clear ez
  replace hF : h_F [(1310, 999), (1325, 999), (1326, 999), (1328, 999), (62, 9)] z I0 I0 := h_F.rf
  refine lv_aload_n hx hb dX12_init_51 rfl (lv_at hl 0 rfl) ?_
  refine lv_bipush (v := 60) hx hb dX12_init_52 (by decide) ?_
  replace kf_a0_9 : I0 a0 9 = (-1) := kf_a0_9
  replace hZ := hZ.tcall hF rfl
  replace hQ := hQ.tc hF rfl
  refine h_newI hx hb (hts (.arrayClass .int) (by decide +kernel)) g hA so_1316 (by decide) (by decide) (by decide) (Nat.le_of_ble_eq_true rfl) (Nat.le_of_ble_eq_true rfl) dX12_init_54 (fun q7 H hq0 g => ?_)
  have n_q7 := hZ.fresh hq0 (fun h => h_neq t_a0 (by decide) hq0 (Option.some.inj h).symm)
  replace hu_q7 := hQ.1.u (q := q7) (t := 1316) hq0
  replace hQ := hQ.nw (q := q7) (t := 1316) hq0 (by decide)
  replace hI := hI.nw (q := q7) (t := 1316) (f := fun _ => none)
  replace hR := hR.nw (q := q7) (t := 1316) (f := fun _ => none) hq0 (fun k t2 n2 h => by cases (show (none : Option (Nat × Bool)) = some (t2, n2) from h))
  replace hZ := hZ.nw (q := q7) (t := 1316) (f := fun _ => none) hq0 (L2 := L0) (fun _ _ => rfl)
  replace hz : h_row I0 q7 (fun _ => 0) a0 = (fun j => if j = 9 then (-1) else (fun _ => 0) j) := (h_row_n (h_neq t_a0 (by decide) hq0)).trans hz
  replace kf_a0_9 : h_row I0 q7 (fun _ => 0) a0 9 = (-1) := (congrFun (h_row_n (h_neq t_a0 (by decide) hq0)) 9).trans kf_a0_9
  have z_laws : h_row I0 q7 (fun _ => 0) q3 = fun _ => 0 := (h_row_n (h_neq tq3 (by decide) hq0)).trans z_laws
  replace Ra0_0 := h_nwr (q := q7) (t := 1316) (f := fun _ => none) hq0 t_a0 (by decide) Ra0_0
  replace Ra0_10 := h_nwr (q := q7) (t := 1316) (f := fun _ => none) hq0 t_a0 (by decide) Ra0_10
  replace Ra0_11 := h_nwr (q := q7) (t := 1316) (f := fun _ => none) hq0 t_a0 (by decide) Ra0_11
  replace Ra0_14 := h_nwr (q := q7) (t := 1316) (f := fun _ => none) hq0 t_a0 (by decide) Ra0_14
  replace Ra0_15 := h_nwr (q := q7) (t := 1316) (f := fun _ => none) hq0 t_a0 (by decide) Ra0_15
  replace t_a0 := h_nwk (q := q7) (t := 1316) (f := fun _ => none) hq0 t_a0 (by decide)
  replace tq1 := h_nwk (q := q7) (t := 1316) (f := fun _ => none) hq0 tq1 (by decide)
  replace tq3 := h_nwk (q := q7) (t := 1316) (f := fun _ => none) hq0 tq3 (by decide)
  replace tq4 := h_nwk (q := q7) (t := 1316) (f := fun _ => none) hq0 tq4 (by decide)
  replace tq5 := h_nwk (q := q7) (t := 1316) (f := fun _ => none) hq0 tq5 (by decide)
  replace tq6 := h_nwk (q := q7) (t := 1316) (f := fun _ => none) hq0 tq6 (by decide)
  replace tq7 : (z.nw q7 1316 (fun _ => none)).ty q7 = 1316 := nw_te
  obtain ⟨z, ez⟩ : ∃ z1 : tZ, z1 = (z.nw q7 1316 (fun _ => none)) := ⟨_, rfl⟩
  rw [← ez] at g hI hR hZ hQ hu_q7 t_a0 tq1 tq3 tq4 tq5 tq6 tq7 Ra0_0 Ra0_10 Ra0_11 Ra0_14 Ra0_15
  clear ez
  obtain ⟨I0, eI⟩ : ∃ J : tI, J = h_row I0 q7 (fun _ => 0) := ⟨_, rfl⟩
  rw [← eI] at g hI hZ hQ hz kf_a0_9 z_laws
  clear eI
  replace hF : h_F [(1310, 999), (1325, 999), (1326, 999), (1328, 999), (62, 9)] z I0 I0 := h_F.rf
  refine W.cs (cells' := 6) (slots' := 882) rfl rfl ?_
  replace kf_a0_9 : I0 a0 9 = (-1) := kf_a0_9
  replace hZ := hZ.tcall hF rfl
  replace hQ := hQ.tc hF rfl
  refine h_putR (ty := tyX12 16) (v := q7) hx hb hts iX12 tyX12 tyX12_ok nmX12 hown g t_a0 (by decide) so_62 rfl 16 (by decide) rfl (hts (.fieldLink RX12 31 "CapLeagueModel" "last" "[I") (by decide +kernel)) rfl rfl hin rfl (by decide +kernel) rfl rfl dX12_init_56 (fun H locs g => ?_)
  replace hQ := hQ.wR (a := a0) (k := 16) (v := q7) t_a0 (by decide) tq7 (by decide) (fun h9 => ⟨hu_q7, n_q7⟩)
  replace hR := hR.wR (k0 := 16) (v := some q7) t_a0 (fun _ => rfl)
  replace hZ := hZ.wR (a := a0) (k := 16) (v := some q7) (Or.inl rfl)
  replace hI : h_I (z.wR a0 16 (some q7)) I0 := hI
  replace t_a0 : (z.wR a0 16 (some q7)).ty a0 = 62 := t_a0
  replace tq1 : (z.wR a0 16 (some q7)).ty q1 = 1300 := tq1
  replace tq3 : (z.wR a0 16 (some q7)).ty q3 = 1310 := tq3
  replace tq4 : (z.wR a0 16 (some q7)).ty q4 = 1311 := tq4
  replace tq5 : (z.wR a0 16 (some q7)).ty q5 = 1314 := tq5
  replace tq6 : (z.wR a0 16 (some q7)).ty q6 = 1315 := tq6
  replace tq7 : (z.wR a0 16 (some q7)).ty q7 = 1316 := tq7
  replace Ra0_0 : (z.wR a0 16 (some q7)).R a0 0 = some q1 := (h_up_at (by decide)).trans Ra0_0
  replace Ra0_10 : (z.wR a0 16 (some q7)).R a0 10 = some q3 := (h_up_at (by decide)).trans Ra0_10
  replace Ra0_11 : (z.wR a0 16 (some q7)).R a0 11 = some q4 := (h_up_at (by decide)).trans Ra0_11
  replace Ra0_14 : (z.wR a0 16 (some q7)).R a0 14 = some q5 := (h_up_at (by decide)).trans Ra0_14
  replace Ra0_15 : (z.wR a0 16 (some q7)).R a0 15 = some q6 := (h_up_at (by decide)).trans Ra0_15
  replace Ra0_16 : (z.wR a0 16 (some q7)).R a0 16 = some q7 := h_up_eq
  obtain ⟨z, ez⟩ : ∃ z1 : tZ, z1 = (z.wR a0 16 (some q7)) := ⟨_, rfl⟩
  rw [← ez] at g hI hR hZ hQ t_a0 tq1 tq3 tq4 tq5 tq6 tq7 Ra0_0 Ra0_10 Ra0_11 Ra0_14 Ra0_15 Ra0_16
  clear ez
  replace hF : h_F [(1310, 999), (1325, 999), (1326, 999), (1328, 999), (62, 9)] z I0 I0 := h_F.rf
  refine lv_aload_n hx hb dX12_init_59 rfl (lv_at hl 0 rfl) ?_
  refine lv_bipush (v := 60) hx hb dX12_init_60 (by decide) ?_
  replace kf_a0_9 : I0 a0 9 = (-1) := kf_a0_9
  replace hZ := hZ.tcall hF rfl
  replace hQ := hQ.tc hF rfl
  refine h_newI hx hb (hts (.arrayClass .int) (by decide +kernel)) g hA so_1317 (by decide) (by decide) (by decide) (Nat.le_of_ble_eq_true rfl) (Nat.le_of_ble_eq_true rfl) dX12_init_62 (fun q8 H hq0 g => ?_)
  have n_q8 := hZ.fresh hq0 (fun h => h_neq t_a0 (by decide) hq0 (Option.some.inj h).symm)
  replace hu_q8 := hQ.1.u (q := q8) (t := 1317) hq0
  replace hQ := hQ.nw (q := q8) (t := 1317) hq0 (by decide)
  replace hI := hI.nw (q := q8) (t := 1317) (f := fun _ => none)
  replace hR := hR.nw (q := q8) (t := 1317) (f := fun _ => none) hq0 (fun k t2 n2 h => by cases (show (none : Option (Nat × Bool)) = some (t2, n2) from h))
  replace hZ := hZ.nw (q := q8) (t := 1317) (f := fun _ => none) hq0 (L2 := L0) (fun _ _ => rfl)
  replace hz : h_row I0 q8 (fun _ => 0) a0 = (fun j => if j = 9 then (-1) else (fun _ => 0) j) := (h_row_n (h_neq t_a0 (by decide) hq0)).trans hz
  replace kf_a0_9 : h_row I0 q8 (fun _ => 0) a0 9 = (-1) := (congrFun (h_row_n (h_neq t_a0 (by decide) hq0)) 9).trans kf_a0_9
  have z_laws : h_row I0 q8 (fun _ => 0) q3 = fun _ => 0 := (h_row_n (h_neq tq3 (by decide) hq0)).trans z_laws
  replace Ra0_0 := h_nwr (q := q8) (t := 1317) (f := fun _ => none) hq0 t_a0 (by decide) Ra0_0
  replace Ra0_10 := h_nwr (q := q8) (t := 1317) (f := fun _ => none) hq0 t_a0 (by decide) Ra0_10
  replace Ra0_11 := h_nwr (q := q8) (t := 1317) (f := fun _ => none) hq0 t_a0 (by decide) Ra0_11
  replace Ra0_14 := h_nwr (q := q8) (t := 1317) (f := fun _ => none) hq0 t_a0 (by decide) Ra0_14
  replace Ra0_15 := h_nwr (q := q8) (t := 1317) (f := fun _ => none) hq0 t_a0 (by decide) Ra0_15
  replace Ra0_16 := h_nwr (q := q8) (t := 1317) (f := fun _ => none) hq0 t_a0 (by decide) Ra0_16
  replace t_a0 := h_nwk (q := q8) (t := 1317) (f := fun _ => none) hq0 t_a0 (by decide)
  replace tq1 := h_nwk (q := q8) (t := 1317) (f := fun _ => none) hq0 tq1 (by decide)
  replace tq3 := h_nwk (q := q8) (t := 1317) (f := fun _ => none) hq0 tq3 (by decide)
  replace tq4 := h_nwk (q := q8) (t := 1317) (f := fun _ => none) hq0 tq4 (by decide)
  replace tq5 := h_nwk (q := q8) (t := 1317) (f := fun _ => none) hq0 tq5 (by decide)
  replace tq6 := h_nwk (q := q8) (t := 1317) (f := fun _ => none) hq0 tq6 (by decide)
  replace tq7 := h_nwk (q := q8) (t := 1317) (f := fun _ => none) hq0 tq7 (by decide)
  replace tq8 : (z.nw q8 1317 (fun _ => none)).ty q8 = 1317 := nw_te
  obtain ⟨z, ez⟩ : ∃ z1 : tZ, z1 = (z.nw q8 1317 (fun _ => none)) := ⟨_, rfl⟩
  rw [← ez] at g hI hR hZ hQ hu_q8 t_a0 tq1 tq3 tq4 tq5 tq6 tq7 tq8 Ra0_0 Ra0_10 Ra0_11 Ra0_14 Ra0_15 Ra0_16
  clear ez
  obtain ⟨I0, eI⟩ : ∃ J : tI, J = h_row I0 q8 (fun _ => 0) := ⟨_, rfl⟩
  rw [← eI] at g hI hZ hQ hz kf_a0_9 z_laws
  clear eI
  replace hF : h_F [(1310, 999), (1325, 999), (1326, 999), (1328, 999), (62, 9)] z I0 I0 := h_F.rf
  refine W.cs (cells' := 7) (slots' := 942) rfl rfl ?_
  replace kf_a0_9 : I0 a0 9 = (-1) := kf_a0_9
  replace hZ := hZ.tcall hF rfl
  replace hQ := hQ.tc hF rfl
  refine h_putR (ty := tyX12 17) (v := q8) hx hb hts iX12 tyX12 tyX12_ok nmX12 hown g t_a0 (by decide) so_62 rfl 17 (by decide) rfl (hts (.fieldLink RX12 34 "CapLeagueModel" "pay" "[I") (by decide +kernel)) rfl rfl hin rfl (by decide +kernel) rfl rfl dX12_init_64 (fun H locs g => ?_)
  replace hQ := hQ.wR (a := a0) (k := 17) (v := q8) t_a0 (by decide) tq8 (by decide) (fun h9 => ⟨hu_q8, n_q8⟩)
  replace hR := hR.wR (k0 := 17) (v := some q8) t_a0 (fun _ => rfl)
  replace hZ := hZ.wR (a := a0) (k := 17) (v := some q8) (Or.inl rfl)
  replace hI : h_I (z.wR a0 17 (some q8)) I0 := hI
  replace t_a0 : (z.wR a0 17 (some q8)).ty a0 = 62 := t_a0
  replace tq1 : (z.wR a0 17 (some q8)).ty q1 = 1300 := tq1
  replace tq3 : (z.wR a0 17 (some q8)).ty q3 = 1310 := tq3
  replace tq4 : (z.wR a0 17 (some q8)).ty q4 = 1311 := tq4
  replace tq5 : (z.wR a0 17 (some q8)).ty q5 = 1314 := tq5
  replace tq6 : (z.wR a0 17 (some q8)).ty q6 = 1315 := tq6
  replace tq7 : (z.wR a0 17 (some q8)).ty q7 = 1316 := tq7
  replace tq8 : (z.wR a0 17 (some q8)).ty q8 = 1317 := tq8
  replace Ra0_0 : (z.wR a0 17 (some q8)).R a0 0 = some q1 := (h_up_at (by decide)).trans Ra0_0
  replace Ra0_10 : (z.wR a0 17 (some q8)).R a0 10 = some q3 := (h_up_at (by decide)).trans Ra0_10
  replace Ra0_11 : (z.wR a0 17 (some q8)).R a0 11 = some q4 := (h_up_at (by decide)).trans Ra0_11
  replace Ra0_14 : (z.wR a0 17 (some q8)).R a0 14 = some q5 := (h_up_at (by decide)).trans Ra0_14
  replace Ra0_15 : (z.wR a0 17 (some q8)).R a0 15 = some q6 := (h_up_at (by decide)).trans Ra0_15
  replace Ra0_16 : (z.wR a0 17 (some q8)).R a0 16 = some q7 := (h_up_at (by decide)).trans Ra0_16
  replace Ra0_17 : (z.wR a0 17 (some q8)).R a0 17 = some q8 := h_up_eq
  obtain ⟨z, ez⟩ : ∃ z1 : tZ, z1 = (z.wR a0 17 (some q8)) := ⟨_, rfl⟩
  rw [← ez] at g hI hR hZ hQ t_a0 tq1 tq3 tq4 tq5 tq6 tq7 tq8 Ra0_0 Ra0_10 Ra0_11 Ra0_14 Ra0_15 Ra0_16 Ra0_17
  clear ez
  replace hF : h_F [(1310, 999), (1325, 999), (1326, 999), (1328, 999), (62, 9)] z I0 I0 := h_F.rf
  refine lv_aload_n hx hb dX12_init_67 rfl (lv_at hl 0 rfl) ?_
  refine lv_bipush (v := 60) hx hb dX12_init_68 (by decide) ?_
  replace kf_a0_9 : I0 a0 9 = (-1) := kf_a0_9
  replace hZ := hZ.tcall hF rfl
  replace hQ := hQ.tc hF rfl
  refine h_newI hx hb (hts (.arrayClass .int) (by decide +kernel)) g hA so_1318 (by decide) (by decide) (by decide) (Nat.le_of_ble_eq_true rfl) (Nat.le_of_ble_eq_true rfl) dX12_init_70 (fun q9 H hq0 g => ?_)
  have n_q9 := hZ.fresh hq0 (fun h => h_neq t_a0 (by decide) hq0 (Option.some.inj h).symm)
  replace hu_q9 := hQ.1.u (q := q9) (t := 1318) hq0
  replace hQ := hQ.nw (q := q9) (t := 1318) hq0 (by decide)
  replace hI := hI.nw (q := q9) (t := 1318) (f := fun _ => none)
  replace hR := hR.nw (q := q9) (t := 1318) (f := fun _ => none) hq0 (fun k t2 n2 h => by cases (show (none : Option (Nat × Bool)) = some (t2, n2) from h))
  replace hZ := hZ.nw (q := q9) (t := 1318) (f := fun _ => none) hq0 (L2 := L0) (fun _ _ => rfl)
  replace hz : h_row I0 q9 (fun _ => 0) a0 = (fun j => if j = 9 then (-1) else (fun _ => 0) j) := (h_row_n (h_neq t_a0 (by decide) hq0)).trans hz
  replace kf_a0_9 : h_row I0 q9 (fun _ => 0) a0 9 = (-1) := (congrFun (h_row_n (h_neq t_a0 (by decide) hq0)) 9).trans kf_a0_9
  have z_laws : h_row I0 q9 (fun _ => 0) q3 = fun _ => 0 := (h_row_n (h_neq tq3 (by decide) hq0)).trans z_laws
  replace Ra0_0 := h_nwr (q := q9) (t := 1318) (f := fun _ => none) hq0 t_a0 (by decide) Ra0_0
  replace Ra0_10 := h_nwr (q := q9) (t := 1318) (f := fun _ => none) hq0 t_a0 (by decide) Ra0_10
  replace Ra0_11 := h_nwr (q := q9) (t := 1318) (f := fun _ => none) hq0 t_a0 (by decide) Ra0_11
  replace Ra0_14 := h_nwr (q := q9) (t := 1318) (f := fun _ => none) hq0 t_a0 (by decide) Ra0_14
  replace Ra0_15 := h_nwr (q := q9) (t := 1318) (f := fun _ => none) hq0 t_a0 (by decide) Ra0_15
  replace Ra0_16 := h_nwr (q := q9) (t := 1318) (f := fun _ => none) hq0 t_a0 (by decide) Ra0_16
  replace Ra0_17 := h_nwr (q := q9) (t := 1318) (f := fun _ => none) hq0 t_a0 (by decide) Ra0_17
  replace t_a0 := h_nwk (q := q9) (t := 1318) (f := fun _ => none) hq0 t_a0 (by decide)
  replace tq1 := h_nwk (q := q9) (t := 1318) (f := fun _ => none) hq0 tq1 (by decide)
  replace tq3 := h_nwk (q := q9) (t := 1318) (f := fun _ => none) hq0 tq3 (by decide)
  replace tq4 := h_nwk (q := q9) (t := 1318) (f := fun _ => none) hq0 tq4 (by decide)
  replace tq5 := h_nwk (q := q9) (t := 1318) (f := fun _ => none) hq0 tq5 (by decide)
  replace tq6 := h_nwk (q := q9) (t := 1318) (f := fun _ => none) hq0 tq6 (by decide)
  replace tq7 := h_nwk (q := q9) (t := 1318) (f := fun _ => none) hq0 tq7 (by decide)
  replace tq8 := h_nwk (q := q9) (t := 1318) (f := fun _ => none) hq0 tq8 (by decide)
  replace tq9 : (z.nw q9 1318 (fun _ => none)).ty q9 = 1318 := nw_te
  obtain ⟨z, ez⟩ : ∃ z1 : tZ, z1 = (z.nw q9 1318 (fun _ => none)) := ⟨_, rfl⟩
  rw [← ez] at g hI hR hZ hQ hu_q9 t_a0 tq1 tq3 tq4 tq5 tq6 tq7 tq8 tq9 Ra0_0 Ra0_10 Ra0_11 Ra0_14 Ra0_15 Ra0_16 Ra0_17
  clear ez
  obtain ⟨I0, eI⟩ : ∃ J : tI, J = h_row I0 q9 (fun _ => 0) := ⟨_, rfl⟩
  rw [← eI] at g hI hZ hQ hz kf_a0_9 z_laws
  clear eI
  replace hF : h_F [(1310, 999), (1325, 999), (1326, 999), (1328, 999), (62, 9)] z I0 I0 := h_F.rf
  refine W.cs (cells' := 8) (slots' := 1002) rfl rfl ?_
  replace kf_a0_9 : I0 a0 9 = (-1) := kf_a0_9
  replace hZ := hZ.tcall hF rfl
  replace hQ := hQ.tc hF rfl
  refine h_putR (ty := tyX12 18) (v := q9) hx hb hts iX12 tyX12 tyX12_ok nmX12 hown g t_a0 (by decide) so_62 rfl 18 (by decide) rfl (hts (.fieldLink RX12 37 "CapLeagueModel" "rise" "[I") (by decide +kernel)) rfl rfl hin rfl (by decide +kernel) rfl rfl dX12_init_72 (fun H locs g => ?_)
  replace hQ := hQ.wR (a := a0) (k := 18) (v := q9) t_a0 (by decide) tq9 (by decide) (fun h9 => ⟨hu_q9, n_q9⟩)
  replace hR := hR.wR (k0 := 18) (v := some q9) t_a0 (fun _ => rfl)
  replace hZ := hZ.wR (a := a0) (k := 18) (v := some q9) (Or.inl rfl)
  replace hI : h_I (z.wR a0 18 (some q9)) I0 := hI
  replace t_a0 : (z.wR a0 18 (some q9)).ty a0 = 62 := t_a0
  replace tq1 : (z.wR a0 18 (some q9)).ty q1 = 1300 := tq1
  replace tq3 : (z.wR a0 18 (some q9)).ty q3 = 1310 := tq3
  replace tq4 : (z.wR a0 18 (some q9)).ty q4 = 1311 := tq4
  replace tq5 : (z.wR a0 18 (some q9)).ty q5 = 1314 := tq5
  replace tq6 : (z.wR a0 18 (some q9)).ty q6 = 1315 := tq6
  replace tq7 : (z.wR a0 18 (some q9)).ty q7 = 1316 := tq7
  replace tq8 : (z.wR a0 18 (some q9)).ty q8 = 1317 := tq8
  replace tq9 : (z.wR a0 18 (some q9)).ty q9 = 1318 := tq9
  replace Ra0_0 : (z.wR a0 18 (some q9)).R a0 0 = some q1 := (h_up_at (by decide)).trans Ra0_0
  replace Ra0_10 : (z.wR a0 18 (some q9)).R a0 10 = some q3 := (h_up_at (by decide)).trans Ra0_10
  replace Ra0_11 : (z.wR a0 18 (some q9)).R a0 11 = some q4 := (h_up_at (by decide)).trans Ra0_11
  replace Ra0_14 : (z.wR a0 18 (some q9)).R a0 14 = some q5 := (h_up_at (by decide)).trans Ra0_14
  replace Ra0_15 : (z.wR a0 18 (some q9)).R a0 15 = some q6 := (h_up_at (by decide)).trans Ra0_15
  replace Ra0_16 : (z.wR a0 18 (some q9)).R a0 16 = some q7 := (h_up_at (by decide)).trans Ra0_16
  replace Ra0_17 : (z.wR a0 18 (some q9)).R a0 17 = some q8 := (h_up_at (by decide)).trans Ra0_17
  replace Ra0_18 : (z.wR a0 18 (some q9)).R a0 18 = some q9 := h_up_eq
  obtain ⟨z, ez⟩ : ∃ z1 : tZ, z1 = (z.wR a0 18 (some q9)) := ⟨_, rfl⟩
  rw [← ez] at g hI hR hZ hQ t_a0 tq1 tq3 tq4 tq5 tq6 tq7 tq8 tq9 Ra0_0 Ra0_10 Ra0_11 Ra0_14 Ra0_15 Ra0_16 Ra0_17 Ra0_18
  clear ez
  replace hF : h_F [(1310, 999), (1325, 999), (1326, 999), (1328, 999), (62, 9)] z I0 I0 := h_F.rf
  refine lv_aload_n hx hb dX12_init_75 rfl (lv_at hl 0 rfl) ?_
  refine lv_bipush (v := 60) hx hb dX12_init_76 (by decide) ?_
  replace kf_a0_9 : I0 a0 9 = (-1) := kf_a0_9
  replace hZ := hZ.tcall hF rfl
  replace hQ := hQ.tc hF rfl
  refine h_newI hx hb (hts (.arrayClass .int) (by decide +kernel)) g hA so_1319 (by decide) (by decide) (by decide) (Nat.le_of_ble_eq_true rfl) (Nat.le_of_ble_eq_true rfl) dX12_init_78 (fun q10 H hq0 g => ?_)
  have n_q10 := hZ.fresh hq0 (fun h => h_neq t_a0 (by decide) hq0 (Option.some.inj h).symm)
  replace hu_q10 := hQ.1.u (q := q10) (t := 1319) hq0
  replace hQ := hQ.nw (q := q10) (t := 1319) hq0 (by decide)
  replace hI := hI.nw (q := q10) (t := 1319) (f := fun _ => none)
  replace hR := hR.nw (q := q10) (t := 1319) (f := fun _ => none) hq0 (fun k t2 n2 h => by cases (show (none : Option (Nat × Bool)) = some (t2, n2) from h))
  replace hZ := hZ.nw (q := q10) (t := 1319) (f := fun _ => none) hq0 (L2 := L0) (fun _ _ => rfl)
  replace hz : h_row I0 q10 (fun _ => 0) a0 = (fun j => if j = 9 then (-1) else (fun _ => 0) j) := (h_row_n (h_neq t_a0 (by decide) hq0)).trans hz
  replace kf_a0_9 : h_row I0 q10 (fun _ => 0) a0 9 = (-1) := (congrFun (h_row_n (h_neq t_a0 (by decide) hq0)) 9).trans kf_a0_9
  have z_laws : h_row I0 q10 (fun _ => 0) q3 = fun _ => 0 := (h_row_n (h_neq tq3 (by decide) hq0)).trans z_laws
  replace Ra0_0 := h_nwr (q := q10) (t := 1319) (f := fun _ => none) hq0 t_a0 (by decide) Ra0_0
  replace Ra0_10 := h_nwr (q := q10) (t := 1319) (f := fun _ => none) hq0 t_a0 (by decide) Ra0_10
  replace Ra0_11 := h_nwr (q := q10) (t := 1319) (f := fun _ => none) hq0 t_a0 (by decide) Ra0_11
  replace Ra0_14 := h_nwr (q := q10) (t := 1319) (f := fun _ => none) hq0 t_a0 (by decide) Ra0_14
  replace Ra0_15 := h_nwr (q := q10) (t := 1319) (f := fun _ => none) hq0 t_a0 (by decide) Ra0_15
  replace Ra0_16 := h_nwr (q := q10) (t := 1319) (f := fun _ => none) hq0 t_a0 (by decide) Ra0_16
  replace Ra0_17 := h_nwr (q := q10) (t := 1319) (f := fun _ => none) hq0 t_a0 (by decide) Ra0_17
  replace Ra0_18 := h_nwr (q := q10) (t := 1319) (f := fun _ => none) hq0 t_a0 (by decide) Ra0_18
  replace t_a0 := h_nwk (q := q10) (t := 1319) (f := fun _ => none) hq0 t_a0 (by decide)
  replace tq1 := h_nwk (q := q10) (t := 1319) (f := fun _ => none) hq0 tq1 (by decide)
  replace tq3 := h_nwk (q := q10) (t := 1319) (f := fun _ => none) hq0 tq3 (by decide)
  replace tq4 := h_nwk (q := q10) (t := 1319) (f := fun _ => none) hq0 tq4 (by decide)
  replace tq5 := h_nwk (q := q10) (t := 1319) (f := fun _ => none) hq0 tq5 (by decide)
  replace tq6 := h_nwk (q := q10) (t := 1319) (f := fun _ => none) hq0 tq6 (by decide)
  replace tq7 := h_nwk (q := q10) (t := 1319) (f := fun _ => none) hq0 tq7 (by decide)
  replace tq8 := h_nwk (q := q10) (t := 1319) (f := fun _ => none) hq0 tq8 (by decide)
  replace tq9 := h_nwk (q := q10) (t := 1319) (f := fun _ => none) hq0 tq9 (by decide)
  replace tq10 : (z.nw q10 1319 (fun _ => none)).ty q10 = 1319 := nw_te
  obtain ⟨z, ez⟩ : ∃ z1 : tZ, z1 = (z.nw q10 1319 (fun _ => none)) := ⟨_, rfl⟩
  rw [← ez] at g hI hR hZ hQ hu_q10 t_a0 tq1 tq3 tq4 tq5 tq6 tq7 tq8 tq9 tq10 Ra0_0 Ra0_10 Ra0_11 Ra0_14 Ra0_15 Ra0_16 Ra0_17 Ra0_18
  clear ez
  obtain ⟨I0, eI⟩ : ∃ J : tI, J = h_row I0 q10 (fun _ => 0) := ⟨_, rfl⟩
  rw [← eI] at g hI hZ hQ hz kf_a0_9 z_laws
  clear eI
  replace hF : h_F [(1310, 999), (1325, 999), (1326, 999), (1328, 999), (62, 9)] z I0 I0 := h_F.rf
  refine W.cs (cells' := 9) (slots' := 1062) rfl rfl ?_
  replace kf_a0_9 : I0 a0 9 = (-1) := kf_a0_9
  replace hZ := hZ.tcall hF rfl
  replace hQ := hQ.tc hF rfl
  refine h_putR (ty := tyX12 19) (v := q10) hx hb hts iX12 tyX12 tyX12_ok nmX12 hown g t_a0 (by decide) so_62 rfl 19 (by decide) rfl (hts (.fieldLink RX12 40 "CapLeagueModel" "sure" "[I") (by decide +kernel)) rfl rfl hin rfl (by decide +kernel) rfl rfl dX12_init_80 (fun H locs g => ?_)
  replace hQ := hQ.wR (a := a0) (k := 19) (v := q10) t_a0 (by decide) tq10 (by decide) (fun h9 => ⟨hu_q10, n_q10⟩)
  replace hR := hR.wR (k0 := 19) (v := some q10) t_a0 (fun _ => rfl)
  replace hZ := hZ.wR (a := a0) (k := 19) (v := some q10) (Or.inl rfl)
  replace hI : h_I (z.wR a0 19 (some q10)) I0 := hI
  replace t_a0 : (z.wR a0 19 (some q10)).ty a0 = 62 := t_a0
  replace tq1 : (z.wR a0 19 (some q10)).ty q1 = 1300 := tq1
  replace tq3 : (z.wR a0 19 (some q10)).ty q3 = 1310 := tq3
  replace tq4 : (z.wR a0 19 (some q10)).ty q4 = 1311 := tq4
  replace tq5 : (z.wR a0 19 (some q10)).ty q5 = 1314 := tq5
  replace tq6 : (z.wR a0 19 (some q10)).ty q6 = 1315 := tq6
  replace tq7 : (z.wR a0 19 (some q10)).ty q7 = 1316 := tq7
  replace tq8 : (z.wR a0 19 (some q10)).ty q8 = 1317 := tq8
  replace tq9 : (z.wR a0 19 (some q10)).ty q9 = 1318 := tq9
  replace tq10 : (z.wR a0 19 (some q10)).ty q10 = 1319 := tq10
  replace Ra0_0 : (z.wR a0 19 (some q10)).R a0 0 = some q1 := (h_up_at (by decide)).trans Ra0_0
  replace Ra0_10 : (z.wR a0 19 (some q10)).R a0 10 = some q3 := (h_up_at (by decide)).trans Ra0_10
  replace Ra0_11 : (z.wR a0 19 (some q10)).R a0 11 = some q4 := (h_up_at (by decide)).trans Ra0_11
  replace Ra0_14 : (z.wR a0 19 (some q10)).R a0 14 = some q5 := (h_up_at (by decide)).trans Ra0_14
  replace Ra0_15 : (z.wR a0 19 (some q10)).R a0 15 = some q6 := (h_up_at (by decide)).trans Ra0_15
  replace Ra0_16 : (z.wR a0 19 (some q10)).R a0 16 = some q7 := (h_up_at (by decide)).trans Ra0_16
  replace Ra0_17 : (z.wR a0 19 (some q10)).R a0 17 = some q8 := (h_up_at (by decide)).trans Ra0_17
  replace Ra0_18 : (z.wR a0 19 (some q10)).R a0 18 = some q9 := (h_up_at (by decide)).trans Ra0_18
  replace Ra0_19 : (z.wR a0 19 (some q10)).R a0 19 = some q10 := h_up_eq
  obtain ⟨z, ez⟩ : ∃ z1 : tZ, z1 = (z.wR a0 19 (some q10)) := ⟨_, rfl⟩
  rw [← ez] at g hI hR hZ hQ t_a0 tq1 tq3 tq4 tq5 tq6 tq7 tq8 tq9 tq10 Ra0_0 Ra0_10 Ra0_11 Ra0_14 Ra0_15 Ra0_16 Ra0_17 Ra0_18 Ra0_19
  clear ez
  replace hF : h_F [(1310, 999), (1325, 999), (1326, 999), (1328, 999), (62, 9)] z I0 I0 := h_F.rf
  refine lv_aload_n hx hb dX12_init_83 rfl (lv_at hl 0 rfl) ?_
  refine lv_bipush (v := 60) hx hb dX12_init_84 (by decide) ?_
  replace kf_a0_9 : I0 a0 9 = (-1) := kf_a0_9
  replace hZ := hZ.tcall hF rfl
  replace hQ := hQ.tc hF rfl
  refine h_newZ hx hb (hts (.arrayClass .boolean) (by decide +kernel)) g hA so_1320 (by decide) (by decide) (by decide) (Nat.le_of_ble_eq_true rfl) (Nat.le_of_ble_eq_true rfl) dX12_init_86 (fun q11 H hq0 g => ?_)
  have n_q11 := hZ.fresh hq0 (fun h => h_neq t_a0 (by decide) hq0 (Option.some.inj h).symm)
  replace hu_q11 := hQ.1.u (q := q11) (t := 1320) hq0
  replace hQ := hQ.nw (q := q11) (t := 1320) hq0 (by decide)
  replace hI := hI.nw (q := q11) (t := 1320) (f := fun _ => none)
  replace hR := hR.nw (q := q11) (t := 1320) (f := fun _ => none) hq0 (fun k t2 n2 h => by cases (show (none : Option (Nat × Bool)) = some (t2, n2) from h))
  replace hZ := hZ.nw (q := q11) (t := 1320) (f := fun _ => none) hq0 (L2 := L0) (fun _ _ => rfl)
  replace hz : h_row I0 q11 (fun _ => 0) a0 = (fun j => if j = 9 then (-1) else (fun _ => 0) j) := (h_row_n (h_neq t_a0 (by decide) hq0)).trans hz
  replace kf_a0_9 : h_row I0 q11 (fun _ => 0) a0 9 = (-1) := (congrFun (h_row_n (h_neq t_a0 (by decide) hq0)) 9).trans kf_a0_9
  have z_laws : h_row I0 q11 (fun _ => 0) q3 = fun _ => 0 := (h_row_n (h_neq tq3 (by decide) hq0)).trans z_laws
  replace Ra0_0 := h_nwr (q := q11) (t := 1320) (f := fun _ => none) hq0 t_a0 (by decide) Ra0_0
  replace Ra0_10 := h_nwr (q := q11) (t := 1320) (f := fun _ => none) hq0 t_a0 (by decide) Ra0_10
  replace Ra0_11 := h_nwr (q := q11) (t := 1320) (f := fun _ => none) hq0 t_a0 (by decide) Ra0_11
  replace Ra0_14 := h_nwr (q := q11) (t := 1320) (f := fun _ => none) hq0 t_a0 (by decide) Ra0_14
  replace Ra0_15 := h_nwr (q := q11) (t := 1320) (f := fun _ => none) hq0 t_a0 (by decide) Ra0_15
  replace Ra0_16 := h_nwr (q := q11) (t := 1320) (f := fun _ => none) hq0 t_a0 (by decide) Ra0_16
  replace Ra0_17 := h_nwr (q := q11) (t := 1320) (f := fun _ => none) hq0 t_a0 (by decide) Ra0_17
  replace Ra0_18 := h_nwr (q := q11) (t := 1320) (f := fun _ => none) hq0 t_a0 (by decide) Ra0_18
  replace Ra0_19 := h_nwr (q := q11) (t := 1320) (f := fun _ => none) hq0 t_a0 (by decide) Ra0_19
  replace t_a0 := h_nwk (q := q11) (t := 1320) (f := fun _ => none) hq0 t_a0 (by decide)
  replace tq1 := h_nwk (q := q11) (t := 1320) (f := fun _ => none) hq0 tq1 (by decide)
  replace tq3 := h_nwk (q := q11) (t := 1320) (f := fun _ => none) hq0 tq3 (by decide)
  replace tq4 := h_nwk (q := q11) (t := 1320) (f := fun _ => none) hq0 tq4 (by decide)
  replace tq5 := h_nwk (q := q11) (t := 1320) (f := fun _ => none) hq0 tq5 (by decide)
  replace tq6 := h_nwk (q := q11) (t := 1320) (f := fun _ => none) hq0 tq6 (by decide)
  replace tq7 := h_nwk (q := q11) (t := 1320) (f := fun _ => none) hq0 tq7 (by decide)
  replace tq8 := h_nwk (q := q11) (t := 1320) (f := fun _ => none) hq0 tq8 (by decide)
  replace tq9 := h_nwk (q := q11) (t := 1320) (f := fun _ => none) hq0 tq9 (by decide)
  replace tq10 := h_nwk (q := q11) (t := 1320) (f := fun _ => none) hq0 tq10 (by decide)
  replace tq11 : (z.nw q11 1320 (fun _ => none)).ty q11 = 1320 := nw_te
  obtain ⟨z, ez⟩ : ∃ z1 : tZ, z1 = (z.nw q11 1320 (fun _ => none)) := ⟨_, rfl⟩
  rw [← ez] at g hI hR hZ hQ hu_q11 t_a0 tq1 tq3 tq4 tq5 tq6 tq7 tq8 tq9 tq10 tq11 Ra0_0 Ra0_10 Ra0_11 Ra0_14 Ra0_15 Ra0_16 Ra0_17 Ra0_18 Ra0_19
  clear ez
  obtain ⟨I0, eI⟩ : ∃ J : tI, J = h_row I0 q11 (fun _ => 0) := ⟨_, rfl⟩
  rw [← eI] at g hI hZ hQ hz kf_a0_9 z_laws
  clear eI
  replace hF : h_F [(1310, 999), (1325, 999), (1326, 999), (1328, 999), (62, 9)] z I0 I0 := h_F.rf
  refine W.cs (cells' := 10) (slots' := 1122) rfl rfl ?_
  replace kf_a0_9 : I0 a0 9 = (-1) := kf_a0_9
  replace hZ := hZ.tcall hF rfl
  replace hQ := hQ.tc hF rfl
  refine h_putR (ty := tyX12 20) (v := q11) hx hb hts iX12 tyX12 tyX12_ok nmX12 hown g t_a0 (by decide) so_62 rfl 20 (by decide) rfl (hts (.fieldLink RX12 43 "CapLeagueModel" "hasChoice" "[Z") (by decide +kernel)) rfl rfl hin rfl (by decide +kernel) rfl rfl dX12_init_88 (fun H locs g => ?_)
  replace hQ := hQ.wR (a := a0) (k := 20) (v := q11) t_a0 (by decide) tq11 (by decide) (fun h9 => ⟨hu_q11, n_q11⟩)
  replace hR := hR.wR (k0 := 20) (v := some q11) t_a0 (fun _ => rfl)
  replace hZ := hZ.wR (a := a0) (k := 20) (v := some q11) (Or.inl rfl)
  replace hI : h_I (z.wR a0 20 (some q11)) I0 := hI
  replace t_a0 : (z.wR a0 20 (some q11)).ty a0 = 62 := t_a0
  replace tq1 : (z.wR a0 20 (some q11)).ty q1 = 1300 := tq1
  replace tq3 : (z.wR a0 20 (some q11)).ty q3 = 1310 := tq3
  replace tq4 : (z.wR a0 20 (some q11)).ty q4 = 1311 := tq4
  replace tq5 : (z.wR a0 20 (some q11)).ty q5 = 1314 := tq5
  replace tq6 : (z.wR a0 20 (some q11)).ty q6 = 1315 := tq6
  replace tq7 : (z.wR a0 20 (some q11)).ty q7 = 1316 := tq7
  replace tq8 : (z.wR a0 20 (some q11)).ty q8 = 1317 := tq8
  replace tq9 : (z.wR a0 20 (some q11)).ty q9 = 1318 := tq9
  replace tq10 : (z.wR a0 20 (some q11)).ty q10 = 1319 := tq10
  replace tq11 : (z.wR a0 20 (some q11)).ty q11 = 1320 := tq11
  replace Ra0_0 : (z.wR a0 20 (some q11)).R a0 0 = some q1 := (h_up_at (by decide)).trans Ra0_0
  replace Ra0_10 : (z.wR a0 20 (some q11)).R a0 10 = some q3 := (h_up_at (by decide)).trans Ra0_10
  replace Ra0_11 : (z.wR a0 20 (some q11)).R a0 11 = some q4 := (h_up_at (by decide)).trans Ra0_11
  replace Ra0_14 : (z.wR a0 20 (some q11)).R a0 14 = some q5 := (h_up_at (by decide)).trans Ra0_14
  replace Ra0_15 : (z.wR a0 20 (some q11)).R a0 15 = some q6 := (h_up_at (by decide)).trans Ra0_15
  replace Ra0_16 : (z.wR a0 20 (some q11)).R a0 16 = some q7 := (h_up_at (by decide)).trans Ra0_16
  replace Ra0_17 : (z.wR a0 20 (some q11)).R a0 17 = some q8 := (h_up_at (by decide)).trans Ra0_17
  replace Ra0_18 : (z.wR a0 20 (some q11)).R a0 18 = some q9 := (h_up_at (by decide)).trans Ra0_18
  replace Ra0_19 : (z.wR a0 20 (some q11)).R a0 19 = some q10 := (h_up_at (by decide)).trans Ra0_19
  replace Ra0_20 : (z.wR a0 20 (some q11)).R a0 20 = some q11 := h_up_eq
  obtain ⟨z, ez⟩ : ∃ z1 : tZ, z1 = (z.wR a0 20 (some q11)) := ⟨_, rfl⟩
  rw [← ez] at g hI hR hZ hQ t_a0 tq1 tq3 tq4 tq5 tq6 tq7 tq8 tq9 tq10 tq11 Ra0_0 Ra0_10 Ra0_11 Ra0_14 Ra0_15 Ra0_16 Ra0_17 Ra0_18 Ra0_19 Ra0_20
  clear ez
  replace hF : h_F [(1310, 999), (1325, 999), (1326, 999), (1328, 999), (62, 9)] z I0 I0 := h_F.rf
  refine lv_aload_n hx hb dX12_init_91 rfl (lv_at hl 0 rfl) ?_
  refine lv_bipush (v := 60) hx hb dX12_init_92 (by decide) ?_
  replace kf_a0_9 : I0 a0 9 = (-1) := kf_a0_9
  replace hZ := hZ.tcall hF rfl
  replace hQ := hQ.tc hF rfl
  refine h_newZ hx hb (hts (.arrayClass .boolean) (by decide +kernel)) g hA so_1321 (by decide) (by decide) (by decide) (Nat.le_of_ble_eq_true rfl) (Nat.le_of_ble_eq_true rfl) dX12_init_94 (fun q12 H hq0 g => ?_)
  have n_q12 := hZ.fresh hq0 (fun h => h_neq t_a0 (by decide) hq0 (Option.some.inj h).symm)
  replace hu_q12 := hQ.1.u (q := q12) (t := 1321) hq0
  replace hQ := hQ.nw (q := q12) (t := 1321) hq0 (by decide)
  replace hI := hI.nw (q := q12) (t := 1321) (f := fun _ => none)
  replace hR := hR.nw (q := q12) (t := 1321) (f := fun _ => none) hq0 (fun k t2 n2 h => by cases (show (none : Option (Nat × Bool)) = some (t2, n2) from h))
  replace hZ := hZ.nw (q := q12) (t := 1321) (f := fun _ => none) hq0 (L2 := L0) (fun _ _ => rfl)
  replace hz : h_row I0 q12 (fun _ => 0) a0 = (fun j => if j = 9 then (-1) else (fun _ => 0) j) := (h_row_n (h_neq t_a0 (by decide) hq0)).trans hz
  replace kf_a0_9 : h_row I0 q12 (fun _ => 0) a0 9 = (-1) := (congrFun (h_row_n (h_neq t_a0 (by decide) hq0)) 9).trans kf_a0_9
  have z_laws : h_row I0 q12 (fun _ => 0) q3 = fun _ => 0 := (h_row_n (h_neq tq3 (by decide) hq0)).trans z_laws
  replace Ra0_0 := h_nwr (q := q12) (t := 1321) (f := fun _ => none) hq0 t_a0 (by decide) Ra0_0
  replace Ra0_10 := h_nwr (q := q12) (t := 1321) (f := fun _ => none) hq0 t_a0 (by decide) Ra0_10
  replace Ra0_11 := h_nwr (q := q12) (t := 1321) (f := fun _ => none) hq0 t_a0 (by decide) Ra0_11
  replace Ra0_14 := h_nwr (q := q12) (t := 1321) (f := fun _ => none) hq0 t_a0 (by decide) Ra0_14
  replace Ra0_15 := h_nwr (q := q12) (t := 1321) (f := fun _ => none) hq0 t_a0 (by decide) Ra0_15
  replace Ra0_16 := h_nwr (q := q12) (t := 1321) (f := fun _ => none) hq0 t_a0 (by decide) Ra0_16
  replace Ra0_17 := h_nwr (q := q12) (t := 1321) (f := fun _ => none) hq0 t_a0 (by decide) Ra0_17
  replace Ra0_18 := h_nwr (q := q12) (t := 1321) (f := fun _ => none) hq0 t_a0 (by decide) Ra0_18
  replace Ra0_19 := h_nwr (q := q12) (t := 1321) (f := fun _ => none) hq0 t_a0 (by decide) Ra0_19
  replace Ra0_20 := h_nwr (q := q12) (t := 1321) (f := fun _ => none) hq0 t_a0 (by decide) Ra0_20
  replace t_a0 := h_nwk (q := q12) (t := 1321) (f := fun _ => none) hq0 t_a0 (by decide)
  replace tq1 := h_nwk (q := q12) (t := 1321) (f := fun _ => none) hq0 tq1 (by decide)
  replace tq3 := h_nwk (q := q12) (t := 1321) (f := fun _ => none) hq0 tq3 (by decide)
  replace tq4 := h_nwk (q := q12) (t := 1321) (f := fun _ => none) hq0 tq4 (by decide)
  replace tq5 := h_nwk (q := q12) (t := 1321) (f := fun _ => none) hq0 tq5 (by decide)
  replace tq6 := h_nwk (q := q12) (t := 1321) (f := fun _ => none) hq0 tq6 (by decide)
  replace tq7 := h_nwk (q := q12) (t := 1321) (f := fun _ => none) hq0 tq7 (by decide)
  replace tq8 := h_nwk (q := q12) (t := 1321) (f := fun _ => none) hq0 tq8 (by decide)
  replace tq9 := h_nwk (q := q12) (t := 1321) (f := fun _ => none) hq0 tq9 (by decide)
  replace tq10 := h_nwk (q := q12) (t := 1321) (f := fun _ => none) hq0 tq10 (by decide)
  replace tq11 := h_nwk (q := q12) (t := 1321) (f := fun _ => none) hq0 tq11 (by decide)
  replace tq12 : (z.nw q12 1321 (fun _ => none)).ty q12 = 1321 := nw_te
  obtain ⟨z, ez⟩ : ∃ z1 : tZ, z1 = (z.nw q12 1321 (fun _ => none)) := ⟨_, rfl⟩
  rw [← ez] at g hI hR hZ hQ hu_q12 t_a0 tq1 tq3 tq4 tq5 tq6 tq7 tq8 tq9 tq10 tq11 tq12 Ra0_0 Ra0_10 Ra0_11 Ra0_14 Ra0_15 Ra0_16 Ra0_17 Ra0_18 Ra0_19 Ra0_20
  clear ez
  obtain ⟨I0, eI⟩ : ∃ J : tI, J = h_row I0 q12 (fun _ => 0) := ⟨_, rfl⟩
  rw [← eI] at g hI hZ hQ hz kf_a0_9 z_laws
  clear eI
  replace hF : h_F [(1310, 999), (1325, 999), (1326, 999), (1328, 999), (62, 9)] z I0 I0 := h_F.rf
  refine W.cs (cells' := 11) (slots' := 1182) rfl rfl ?_
  replace kf_a0_9 : I0 a0 9 = (-1) := kf_a0_9
  replace hZ := hZ.tcall hF rfl
  replace hQ := hQ.tc hF rfl
  refine h_putR (ty := tyX12 21) (v := q12) hx hb hts iX12 tyX12 tyX12_ok nmX12 hown g t_a0 (by decide) so_62 rfl 21 (by decide) rfl (hts (.fieldLink RX12 46 "CapLeagueModel" "isTaken" "[Z") (by decide +kernel)) rfl rfl hin rfl (by decide +kernel) rfl rfl dX12_init_96 (fun H locs g => ?_)
  replace hQ := hQ.wR (a := a0) (k := 21) (v := q12) t_a0 (by decide) tq12 (by decide) (fun h9 => ⟨hu_q12, n_q12⟩)
  replace hR := hR.wR (k0 := 21) (v := some q12) t_a0 (fun _ => rfl)
  replace hZ := hZ.wR (a := a0) (k := 21) (v := some q12) (Or.inl rfl)
  replace hI : h_I (z.wR a0 21 (some q12)) I0 := hI
  replace t_a0 : (z.wR a0 21 (some q12)).ty a0 = 62 := t_a0
  replace tq1 : (z.wR a0 21 (some q12)).ty q1 = 1300 := tq1
  replace tq3 : (z.wR a0 21 (some q12)).ty q3 = 1310 := tq3
  replace tq4 : (z.wR a0 21 (some q12)).ty q4 = 1311 := tq4
  replace tq5 : (z.wR a0 21 (some q12)).ty q5 = 1314 := tq5
  replace tq6 : (z.wR a0 21 (some q12)).ty q6 = 1315 := tq6
  replace tq7 : (z.wR a0 21 (some q12)).ty q7 = 1316 := tq7
  replace tq8 : (z.wR a0 21 (some q12)).ty q8 = 1317 := tq8
  replace tq9 : (z.wR a0 21 (some q12)).ty q9 = 1318 := tq9
  replace tq10 : (z.wR a0 21 (some q12)).ty q10 = 1319 := tq10
  replace tq11 : (z.wR a0 21 (some q12)).ty q11 = 1320 := tq11
  replace tq12 : (z.wR a0 21 (some q12)).ty q12 = 1321 := tq12
  replace Ra0_0 : (z.wR a0 21 (some q12)).R a0 0 = some q1 := (h_up_at (by decide)).trans Ra0_0
  replace Ra0_10 : (z.wR a0 21 (some q12)).R a0 10 = some q3 := (h_up_at (by decide)).trans Ra0_10
  replace Ra0_11 : (z.wR a0 21 (some q12)).R a0 11 = some q4 := (h_up_at (by decide)).trans Ra0_11
  replace Ra0_14 : (z.wR a0 21 (some q12)).R a0 14 = some q5 := (h_up_at (by decide)).trans Ra0_14
  replace Ra0_15 : (z.wR a0 21 (some q12)).R a0 15 = some q6 := (h_up_at (by decide)).trans Ra0_15
  replace Ra0_16 : (z.wR a0 21 (some q12)).R a0 16 = some q7 := (h_up_at (by decide)).trans Ra0_16
  replace Ra0_17 : (z.wR a0 21 (some q12)).R a0 17 = some q8 := (h_up_at (by decide)).trans Ra0_17
  replace Ra0_18 : (z.wR a0 21 (some q12)).R a0 18 = some q9 := (h_up_at (by decide)).trans Ra0_18
  replace Ra0_19 : (z.wR a0 21 (some q12)).R a0 19 = some q10 := (h_up_at (by decide)).trans Ra0_19
  replace Ra0_20 : (z.wR a0 21 (some q12)).R a0 20 = some q11 := (h_up_at (by decide)).trans Ra0_20
  replace Ra0_21 : (z.wR a0 21 (some q12)).R a0 21 = some q12 := h_up_eq
  obtain ⟨z, ez⟩ : ∃ z1 : tZ, z1 = (z.wR a0 21 (some q12)) := ⟨_, rfl⟩
  rw [← ez] at g hI hR hZ hQ t_a0 tq1 tq3 tq4 tq5 tq6 tq7 tq8 tq9 tq10 tq11 tq12 Ra0_0 Ra0_10 Ra0_11 Ra0_14 Ra0_15 Ra0_16 Ra0_17 Ra0_18 Ra0_19 Ra0_20 Ra0_21
  clear ez
  replace hF : h_F [(1310, 999), (1325, 999), (1326, 999), (1328, 999), (62, 9)] z I0 I0 := h_F.rf
  refine lv_aload_n hx hb dX12_init_99 rfl (lv_at hl 0 rfl) ?_
  refine lv_bipush (v := 60) hx hb dX12_init_100 (by decide) ?_
  replace kf_a0_9 : I0 a0 9 = (-1) := kf_a0_9
  replace hZ := hZ.tcall hF rfl
  replace hQ := hQ.tc hF rfl
  refine h_newZ hx hb (hts (.arrayClass .boolean) (by decide +kernel)) g hA so_1322 (by decide) (by decide) (by decide) (Nat.le_of_ble_eq_true rfl) (Nat.le_of_ble_eq_true rfl) dX12_init_102 (fun q13 H hq0 g => ?_)
  have n_q13 := hZ.fresh hq0 (fun h => h_neq t_a0 (by decide) hq0 (Option.some.inj h).symm)
  replace hu_q13 := hQ.1.u (q := q13) (t := 1322) hq0
  replace hQ := hQ.nw (q := q13) (t := 1322) hq0 (by decide)
  replace hI := hI.nw (q := q13) (t := 1322) (f := fun _ => none)
  replace hR := hR.nw (q := q13) (t := 1322) (f := fun _ => none) hq0 (fun k t2 n2 h => by cases (show (none : Option (Nat × Bool)) = some (t2, n2) from h))
  replace hZ := hZ.nw (q := q13) (t := 1322) (f := fun _ => none) hq0 (L2 := L0) (fun _ _ => rfl)
  replace hz : h_row I0 q13 (fun _ => 0) a0 = (fun j => if j = 9 then (-1) else (fun _ => 0) j) := (h_row_n (h_neq t_a0 (by decide) hq0)).trans hz
  replace kf_a0_9 : h_row I0 q13 (fun _ => 0) a0 9 = (-1) := (congrFun (h_row_n (h_neq t_a0 (by decide) hq0)) 9).trans kf_a0_9
  have z_laws : h_row I0 q13 (fun _ => 0) q3 = fun _ => 0 := (h_row_n (h_neq tq3 (by decide) hq0)).trans z_laws
  replace Ra0_0 := h_nwr (q := q13) (t := 1322) (f := fun _ => none) hq0 t_a0 (by decide) Ra0_0
  replace Ra0_10 := h_nwr (q := q13) (t := 1322) (f := fun _ => none) hq0 t_a0 (by decide) Ra0_10
  replace Ra0_11 := h_nwr (q := q13) (t := 1322) (f := fun _ => none) hq0 t_a0 (by decide) Ra0_11
  replace Ra0_14 := h_nwr (q := q13) (t := 1322) (f := fun _ => none) hq0 t_a0 (by decide) Ra0_14
  replace Ra0_15 := h_nwr (q := q13) (t := 1322) (f := fun _ => none) hq0 t_a0 (by decide) Ra0_15
  replace Ra0_16 := h_nwr (q := q13) (t := 1322) (f := fun _ => none) hq0 t_a0 (by decide) Ra0_16
  replace Ra0_17 := h_nwr (q := q13) (t := 1322) (f := fun _ => none) hq0 t_a0 (by decide) Ra0_17
  replace Ra0_18 := h_nwr (q := q13) (t := 1322) (f := fun _ => none) hq0 t_a0 (by decide) Ra0_18
  replace Ra0_19 := h_nwr (q := q13) (t := 1322) (f := fun _ => none) hq0 t_a0 (by decide) Ra0_19
  replace Ra0_20 := h_nwr (q := q13) (t := 1322) (f := fun _ => none) hq0 t_a0 (by decide) Ra0_20
  replace Ra0_21 := h_nwr (q := q13) (t := 1322) (f := fun _ => none) hq0 t_a0 (by decide) Ra0_21
  replace t_a0 := h_nwk (q := q13) (t := 1322) (f := fun _ => none) hq0 t_a0 (by decide)
  replace tq1 := h_nwk (q := q13) (t := 1322) (f := fun _ => none) hq0 tq1 (by decide)
  replace tq3 := h_nwk (q := q13) (t := 1322) (f := fun _ => none) hq0 tq3 (by decide)
  replace tq4 := h_nwk (q := q13) (t := 1322) (f := fun _ => none) hq0 tq4 (by decide)
  replace tq5 := h_nwk (q := q13) (t := 1322) (f := fun _ => none) hq0 tq5 (by decide)
  replace tq6 := h_nwk (q := q13) (t := 1322) (f := fun _ => none) hq0 tq6 (by decide)
  replace tq7 := h_nwk (q := q13) (t := 1322) (f := fun _ => none) hq0 tq7 (by decide)
  replace tq8 := h_nwk (q := q13) (t := 1322) (f := fun _ => none) hq0 tq8 (by decide)
  replace tq9 := h_nwk (q := q13) (t := 1322) (f := fun _ => none) hq0 tq9 (by decide)
  replace tq10 := h_nwk (q := q13) (t := 1322) (f := fun _ => none) hq0 tq10 (by decide)
  replace tq11 := h_nwk (q := q13) (t := 1322) (f := fun _ => none) hq0 tq11 (by decide)
  replace tq12 := h_nwk (q := q13) (t := 1322) (f := fun _ => none) hq0 tq12 (by decide)
  replace tq13 : (z.nw q13 1322 (fun _ => none)).ty q13 = 1322 := nw_te
  obtain ⟨z, ez⟩ : ∃ z1 : tZ, z1 = (z.nw q13 1322 (fun _ => none)) := ⟨_, rfl⟩
  rw [← ez] at g hI hR hZ hQ hu_q13 t_a0 tq1 tq3 tq4 tq5 tq6 tq7 tq8 tq9 tq10 tq11 tq12 tq13 Ra0_0 Ra0_10 Ra0_11 Ra0_14 Ra0_15 Ra0_16 Ra0_17 Ra0_18 Ra0_19 Ra0_20 Ra0_21
  clear ez
  obtain ⟨I0, eI⟩ : ∃ J : tI, J = h_row I0 q13 (fun _ => 0) := ⟨_, rfl⟩
  rw [← eI] at g hI hZ hQ hz kf_a0_9 z_laws
  clear eI
  replace hF : h_F [(1310, 999), (1325, 999), (1326, 999), (1328, 999), (62, 9)] z I0 I0 := h_F.rf
  refine W.cs (cells' := 12) (slots' := 1242) rfl rfl ?_
  replace kf_a0_9 : I0 a0 9 = (-1) := kf_a0_9
  replace hZ := hZ.tcall hF rfl
  replace hQ := hQ.tc hF rfl
  refine h_putR (ty := tyX12 22) (v := q13) hx hb hts iX12 tyX12 tyX12_ok nmX12 hown g t_a0 (by decide) so_62 rfl 22 (by decide) rfl (hts (.fieldLink RX12 49 "CapLeagueModel" "isHurt" "[Z") (by decide +kernel)) rfl rfl hin rfl (by decide +kernel) rfl rfl dX12_init_104 (fun H locs g => ?_)
  replace hQ := hQ.wR (a := a0) (k := 22) (v := q13) t_a0 (by decide) tq13 (by decide) (fun h9 => ⟨hu_q13, n_q13⟩)
  replace hR := hR.wR (k0 := 22) (v := some q13) t_a0 (fun _ => rfl)
  replace hZ := hZ.wR (a := a0) (k := 22) (v := some q13) (Or.inl rfl)
  replace hI : h_I (z.wR a0 22 (some q13)) I0 := hI
  replace t_a0 : (z.wR a0 22 (some q13)).ty a0 = 62 := t_a0
  replace tq1 : (z.wR a0 22 (some q13)).ty q1 = 1300 := tq1
  replace tq3 : (z.wR a0 22 (some q13)).ty q3 = 1310 := tq3
  replace tq4 : (z.wR a0 22 (some q13)).ty q4 = 1311 := tq4
  replace tq5 : (z.wR a0 22 (some q13)).ty q5 = 1314 := tq5
  replace tq6 : (z.wR a0 22 (some q13)).ty q6 = 1315 := tq6
  replace tq7 : (z.wR a0 22 (some q13)).ty q7 = 1316 := tq7
  replace tq8 : (z.wR a0 22 (some q13)).ty q8 = 1317 := tq8
  replace tq9 : (z.wR a0 22 (some q13)).ty q9 = 1318 := tq9
  replace tq10 : (z.wR a0 22 (some q13)).ty q10 = 1319 := tq10
  replace tq11 : (z.wR a0 22 (some q13)).ty q11 = 1320 := tq11
  replace tq12 : (z.wR a0 22 (some q13)).ty q12 = 1321 := tq12
  replace tq13 : (z.wR a0 22 (some q13)).ty q13 = 1322 := tq13
  replace Ra0_0 : (z.wR a0 22 (some q13)).R a0 0 = some q1 := (h_up_at (by decide)).trans Ra0_0
  replace Ra0_10 : (z.wR a0 22 (some q13)).R a0 10 = some q3 := (h_up_at (by decide)).trans Ra0_10
  replace Ra0_11 : (z.wR a0 22 (some q13)).R a0 11 = some q4 := (h_up_at (by decide)).trans Ra0_11
  replace Ra0_14 : (z.wR a0 22 (some q13)).R a0 14 = some q5 := (h_up_at (by decide)).trans Ra0_14
  replace Ra0_15 : (z.wR a0 22 (some q13)).R a0 15 = some q6 := (h_up_at (by decide)).trans Ra0_15
  replace Ra0_16 : (z.wR a0 22 (some q13)).R a0 16 = some q7 := (h_up_at (by decide)).trans Ra0_16
  replace Ra0_17 : (z.wR a0 22 (some q13)).R a0 17 = some q8 := (h_up_at (by decide)).trans Ra0_17
  replace Ra0_18 : (z.wR a0 22 (some q13)).R a0 18 = some q9 := (h_up_at (by decide)).trans Ra0_18
  replace Ra0_19 : (z.wR a0 22 (some q13)).R a0 19 = some q10 := (h_up_at (by decide)).trans Ra0_19
  replace Ra0_20 : (z.wR a0 22 (some q13)).R a0 20 = some q11 := (h_up_at (by decide)).trans Ra0_20
  replace Ra0_21 : (z.wR a0 22 (some q13)).R a0 21 = some q12 := (h_up_at (by decide)).trans Ra0_21
  replace Ra0_22 : (z.wR a0 22 (some q13)).R a0 22 = some q13 := h_up_eq
  obtain ⟨z, ez⟩ : ∃ z1 : tZ, z1 = (z.wR a0 22 (some q13)) := ⟨_, rfl⟩
  rw [← ez] at g hI hR hZ hQ t_a0 tq1 tq3 tq4 tq5 tq6 tq7 tq8 tq9 tq10 tq11 tq12 tq13 Ra0_0 Ra0_10 Ra0_11 Ra0_14 Ra0_15 Ra0_16 Ra0_17 Ra0_18 Ra0_19 Ra0_20 Ra0_21 Ra0_22
  clear ez
  replace hF : h_F [(1310, 999), (1325, 999), (1326, 999), (1328, 999), (62, 9)] z I0 I0 := h_F.rf
  refine lv_aload_n hx hb dX12_init_107 rfl (lv_at hl 0 rfl) ?_
  refine lv_bipush (v := 80) hx hb dX12_init_108 (by decide) ?_
  replace kf_a0_9 : I0 a0 9 = (-1) := kf_a0_9
  replace hZ := hZ.tcall hF rfl
  replace hQ := hQ.tc hF rfl
  refine h_newI hx hb (hts (.arrayClass .int) (by decide +kernel)) g hA so_1323 (by decide) (by decide) (by decide) (Nat.le_of_ble_eq_true rfl) (Nat.le_of_ble_eq_true rfl) dX12_init_110 (fun q14 H hq0 g => ?_)
  have n_q14 := hZ.fresh hq0 (fun h => h_neq t_a0 (by decide) hq0 (Option.some.inj h).symm)
  replace hu_q14 := hQ.1.u (q := q14) (t := 1323) hq0
  replace hQ := hQ.nw (q := q14) (t := 1323) hq0 (by decide)
  replace hI := hI.nw (q := q14) (t := 1323) (f := fun _ => none)
  replace hR := hR.nw (q := q14) (t := 1323) (f := fun _ => none) hq0 (fun k t2 n2 h => by cases (show (none : Option (Nat × Bool)) = some (t2, n2) from h))
  replace hZ := hZ.nw (q := q14) (t := 1323) (f := fun _ => none) hq0 (L2 := L0) (fun _ _ => rfl)
  replace hz : h_row I0 q14 (fun _ => 0) a0 = (fun j => if j = 9 then (-1) else (fun _ => 0) j) := (h_row_n (h_neq t_a0 (by decide) hq0)).trans hz
  replace kf_a0_9 : h_row I0 q14 (fun _ => 0) a0 9 = (-1) := (congrFun (h_row_n (h_neq t_a0 (by decide) hq0)) 9).trans kf_a0_9
  have z_laws : h_row I0 q14 (fun _ => 0) q3 = fun _ => 0 := (h_row_n (h_neq tq3 (by decide) hq0)).trans z_laws
  replace Ra0_0 := h_nwr (q := q14) (t := 1323) (f := fun _ => none) hq0 t_a0 (by decide) Ra0_0
  replace Ra0_10 := h_nwr (q := q14) (t := 1323) (f := fun _ => none) hq0 t_a0 (by decide) Ra0_10
  replace Ra0_11 := h_nwr (q := q14) (t := 1323) (f := fun _ => none) hq0 t_a0 (by decide) Ra0_11
  replace Ra0_14 := h_nwr (q := q14) (t := 1323) (f := fun _ => none) hq0 t_a0 (by decide) Ra0_14
  replace Ra0_15 := h_nwr (q := q14) (t := 1323) (f := fun _ => none) hq0 t_a0 (by decide) Ra0_15
  replace Ra0_16 := h_nwr (q := q14) (t := 1323) (f := fun _ => none) hq0 t_a0 (by decide) Ra0_16
  replace Ra0_17 := h_nwr (q := q14) (t := 1323) (f := fun _ => none) hq0 t_a0 (by decide) Ra0_17
  replace Ra0_18 := h_nwr (q := q14) (t := 1323) (f := fun _ => none) hq0 t_a0 (by decide) Ra0_18
  replace Ra0_19 := h_nwr (q := q14) (t := 1323) (f := fun _ => none) hq0 t_a0 (by decide) Ra0_19
  replace Ra0_20 := h_nwr (q := q14) (t := 1323) (f := fun _ => none) hq0 t_a0 (by decide) Ra0_20
  replace Ra0_21 := h_nwr (q := q14) (t := 1323) (f := fun _ => none) hq0 t_a0 (by decide) Ra0_21
  replace Ra0_22 := h_nwr (q := q14) (t := 1323) (f := fun _ => none) hq0 t_a0 (by decide) Ra0_22
  replace t_a0 := h_nwk (q := q14) (t := 1323) (f := fun _ => none) hq0 t_a0 (by decide)
  replace tq1 := h_nwk (q := q14) (t := 1323) (f := fun _ => none) hq0 tq1 (by decide)
  replace tq3 := h_nwk (q := q14) (t := 1323) (f := fun _ => none) hq0 tq3 (by decide)
  replace tq4 := h_nwk (q := q14) (t := 1323) (f := fun _ => none) hq0 tq4 (by decide)
  replace tq5 := h_nwk (q := q14) (t := 1323) (f := fun _ => none) hq0 tq5 (by decide)
  replace tq6 := h_nwk (q := q14) (t := 1323) (f := fun _ => none) hq0 tq6 (by decide)
  replace tq7 := h_nwk (q := q14) (t := 1323) (f := fun _ => none) hq0 tq7 (by decide)
  replace tq8 := h_nwk (q := q14) (t := 1323) (f := fun _ => none) hq0 tq8 (by decide)
  replace tq9 := h_nwk (q := q14) (t := 1323) (f := fun _ => none) hq0 tq9 (by decide)
  replace tq10 := h_nwk (q := q14) (t := 1323) (f := fun _ => none) hq0 tq10 (by decide)
  replace tq11 := h_nwk (q := q14) (t := 1323) (f := fun _ => none) hq0 tq11 (by decide)
  replace tq12 := h_nwk (q := q14) (t := 1323) (f := fun _ => none) hq0 tq12 (by decide)
  replace tq13 := h_nwk (q := q14) (t := 1323) (f := fun _ => none) hq0 tq13 (by decide)
  replace tq14 : (z.nw q14 1323 (fun _ => none)).ty q14 = 1323 := nw_te
  obtain ⟨z, ez⟩ : ∃ z1 : tZ, z1 = (z.nw q14 1323 (fun _ => none)) := ⟨_, rfl⟩
  rw [← ez] at g hI hR hZ hQ hu_q14 t_a0 tq1 tq3 tq4 tq5 tq6 tq7 tq8 tq9 tq10 tq11 tq12 tq13 tq14 Ra0_0 Ra0_10 Ra0_11 Ra0_14 Ra0_15 Ra0_16 Ra0_17 Ra0_18 Ra0_19 Ra0_20 Ra0_21 Ra0_22
  clear ez
  obtain ⟨I0, eI⟩ : ∃ J : tI, J = h_row I0 q14 (fun _ => 0) := ⟨_, rfl⟩
  rw [← eI] at g hI hZ hQ hz kf_a0_9 z_laws
  clear eI
  replace hF : h_F [(1310, 999), (1325, 999), (1326, 999), (1328, 999), (62, 9)] z I0 I0 := h_F.rf
  refine W.cs (cells' := 13) (slots' := 1322) rfl rfl ?_
  replace kf_a0_9 : I0 a0 9 = (-1) := kf_a0_9
  replace hZ := hZ.tcall hF rfl
  replace hQ := hQ.tc hF rfl
  refine h_putR (ty := tyX12 23) (v := q14) hx hb hts iX12 tyX12 tyX12_ok nmX12 hown g t_a0 (by decide) so_62 rfl 23 (by decide) rfl (hts (.fieldLink RX12 52 "CapLeagueModel" "dead" "[I") (by decide +kernel)) rfl rfl hin rfl (by decide +kernel) rfl rfl dX12_init_112 (fun H locs g => ?_)
  replace hQ := hQ.wR (a := a0) (k := 23) (v := q14) t_a0 (by decide) tq14 (by decide) (fun h9 => ⟨hu_q14, n_q14⟩)
  replace hR := hR.wR (k0 := 23) (v := some q14) t_a0 (fun _ => rfl)
  replace hZ := hZ.wR (a := a0) (k := 23) (v := some q14) (Or.inl rfl)
  replace hI : h_I (z.wR a0 23 (some q14)) I0 := hI
  replace t_a0 : (z.wR a0 23 (some q14)).ty a0 = 62 := t_a0
  replace tq1 : (z.wR a0 23 (some q14)).ty q1 = 1300 := tq1
  replace tq3 : (z.wR a0 23 (some q14)).ty q3 = 1310 := tq3
  replace tq4 : (z.wR a0 23 (some q14)).ty q4 = 1311 := tq4
  replace tq5 : (z.wR a0 23 (some q14)).ty q5 = 1314 := tq5
  replace tq6 : (z.wR a0 23 (some q14)).ty q6 = 1315 := tq6
  replace tq7 : (z.wR a0 23 (some q14)).ty q7 = 1316 := tq7
  replace tq8 : (z.wR a0 23 (some q14)).ty q8 = 1317 := tq8
  replace tq9 : (z.wR a0 23 (some q14)).ty q9 = 1318 := tq9
  replace tq10 : (z.wR a0 23 (some q14)).ty q10 = 1319 := tq10
  replace tq11 : (z.wR a0 23 (some q14)).ty q11 = 1320 := tq11
  replace tq12 : (z.wR a0 23 (some q14)).ty q12 = 1321 := tq12
  replace tq13 : (z.wR a0 23 (some q14)).ty q13 = 1322 := tq13
  replace tq14 : (z.wR a0 23 (some q14)).ty q14 = 1323 := tq14
  replace Ra0_0 : (z.wR a0 23 (some q14)).R a0 0 = some q1 := (h_up_at (by decide)).trans Ra0_0
  replace Ra0_10 : (z.wR a0 23 (some q14)).R a0 10 = some q3 := (h_up_at (by decide)).trans Ra0_10
  replace Ra0_11 : (z.wR a0 23 (some q14)).R a0 11 = some q4 := (h_up_at (by decide)).trans Ra0_11
  replace Ra0_14 : (z.wR a0 23 (some q14)).R a0 14 = some q5 := (h_up_at (by decide)).trans Ra0_14
  replace Ra0_15 : (z.wR a0 23 (some q14)).R a0 15 = some q6 := (h_up_at (by decide)).trans Ra0_15
  replace Ra0_16 : (z.wR a0 23 (some q14)).R a0 16 = some q7 := (h_up_at (by decide)).trans Ra0_16
  replace Ra0_17 : (z.wR a0 23 (some q14)).R a0 17 = some q8 := (h_up_at (by decide)).trans Ra0_17
  replace Ra0_18 : (z.wR a0 23 (some q14)).R a0 18 = some q9 := (h_up_at (by decide)).trans Ra0_18
  replace Ra0_19 : (z.wR a0 23 (some q14)).R a0 19 = some q10 := (h_up_at (by decide)).trans Ra0_19
  replace Ra0_20 : (z.wR a0 23 (some q14)).R a0 20 = some q11 := (h_up_at (by decide)).trans Ra0_20
  replace Ra0_21 : (z.wR a0 23 (some q14)).R a0 21 = some q12 := (h_up_at (by decide)).trans Ra0_21
  replace Ra0_22 : (z.wR a0 23 (some q14)).R a0 22 = some q13 := (h_up_at (by decide)).trans Ra0_22
  replace Ra0_23 : (z.wR a0 23 (some q14)).R a0 23 = some q14 := h_up_eq
  obtain ⟨z, ez⟩ : ∃ z1 : tZ, z1 = (z.wR a0 23 (some q14)) := ⟨_, rfl⟩
  rw [← ez] at g hI hR hZ hQ t_a0 tq1 tq3 tq4 tq5 tq6 tq7 tq8 tq9 tq10 tq11 tq12 tq13 tq14 Ra0_0 Ra0_10 Ra0_11 Ra0_14 Ra0_15 Ra0_16 Ra0_17 Ra0_18 Ra0_19 Ra0_20 Ra0_21 Ra0_22 Ra0_23
  clear ez
  replace hF : h_F [(1310, 999), (1325, 999), (1326, 999), (1328, 999), (62, 9)] z I0 I0 := h_F.rf
  refine lv_aload_n hx hb dX12_init_115 rfl (lv_at hl 0 rfl) ?_
  refine lv_bipush (v := 8) hx hb dX12_init_116 (by decide) ?_
  replace kf_a0_9 : I0 a0 9 = (-1) := kf_a0_9
  replace hZ := hZ.tcall hF rfl
  replace hQ := hQ.tc hF rfl
  refine h_newZ hx hb (hts (.arrayClass .boolean) (by decide +kernel)) g hA so_1324 (by decide) (by decide) (by decide) (Nat.le_of_ble_eq_true rfl) (Nat.le_of_ble_eq_true rfl) dX12_init_118 (fun q15 H hq0 g => ?_)
  have n_q15 := hZ.fresh hq0 (fun h => h_neq t_a0 (by decide) hq0 (Option.some.inj h).symm)
  replace hu_q15 := hQ.1.u (q := q15) (t := 1324) hq0
  replace hQ := hQ.nw (q := q15) (t := 1324) hq0 (by decide)
  replace hI := hI.nw (q := q15) (t := 1324) (f := fun _ => none)
  replace hR := hR.nw (q := q15) (t := 1324) (f := fun _ => none) hq0 (fun k t2 n2 h => by cases (show (none : Option (Nat × Bool)) = some (t2, n2) from h))
  replace hZ := hZ.nw (q := q15) (t := 1324) (f := fun _ => none) hq0 (L2 := L0) (fun _ _ => rfl)
  replace hz : h_row I0 q15 (fun _ => 0) a0 = (fun j => if j = 9 then (-1) else (fun _ => 0) j) := (h_row_n (h_neq t_a0 (by decide) hq0)).trans hz
  replace kf_a0_9 : h_row I0 q15 (fun _ => 0) a0 9 = (-1) := (congrFun (h_row_n (h_neq t_a0 (by decide) hq0)) 9).trans kf_a0_9
  have z_laws : h_row I0 q15 (fun _ => 0) q3 = fun _ => 0 := (h_row_n (h_neq tq3 (by decide) hq0)).trans z_laws
  replace Ra0_0 := h_nwr (q := q15) (t := 1324) (f := fun _ => none) hq0 t_a0 (by decide) Ra0_0
  replace Ra0_10 := h_nwr (q := q15) (t := 1324) (f := fun _ => none) hq0 t_a0 (by decide) Ra0_10
  replace Ra0_11 := h_nwr (q := q15) (t := 1324) (f := fun _ => none) hq0 t_a0 (by decide) Ra0_11
  replace Ra0_14 := h_nwr (q := q15) (t := 1324) (f := fun _ => none) hq0 t_a0 (by decide) Ra0_14
  replace Ra0_15 := h_nwr (q := q15) (t := 1324) (f := fun _ => none) hq0 t_a0 (by decide) Ra0_15
  replace Ra0_16 := h_nwr (q := q15) (t := 1324) (f := fun _ => none) hq0 t_a0 (by decide) Ra0_16
  replace Ra0_17 := h_nwr (q := q15) (t := 1324) (f := fun _ => none) hq0 t_a0 (by decide) Ra0_17
  replace Ra0_18 := h_nwr (q := q15) (t := 1324) (f := fun _ => none) hq0 t_a0 (by decide) Ra0_18
  replace Ra0_19 := h_nwr (q := q15) (t := 1324) (f := fun _ => none) hq0 t_a0 (by decide) Ra0_19
  replace Ra0_20 := h_nwr (q := q15) (t := 1324) (f := fun _ => none) hq0 t_a0 (by decide) Ra0_20
  replace Ra0_21 := h_nwr (q := q15) (t := 1324) (f := fun _ => none) hq0 t_a0 (by decide) Ra0_21
  replace Ra0_22 := h_nwr (q := q15) (t := 1324) (f := fun _ => none) hq0 t_a0 (by decide) Ra0_22
  replace Ra0_23 := h_nwr (q := q15) (t := 1324) (f := fun _ => none) hq0 t_a0 (by decide) Ra0_23
  replace t_a0 := h_nwk (q := q15) (t := 1324) (f := fun _ => none) hq0 t_a0 (by decide)
  replace tq1 := h_nwk (q := q15) (t := 1324) (f := fun _ => none) hq0 tq1 (by decide)
  replace tq3 := h_nwk (q := q15) (t := 1324) (f := fun _ => none) hq0 tq3 (by decide)
  replace tq4 := h_nwk (q := q15) (t := 1324) (f := fun _ => none) hq0 tq4 (by decide)
  replace tq5 := h_nwk (q := q15) (t := 1324) (f := fun _ => none) hq0 tq5 (by decide)
  replace tq6 := h_nwk (q := q15) (t := 1324) (f := fun _ => none) hq0 tq6 (by decide)
  replace tq7 := h_nwk (q := q15) (t := 1324) (f := fun _ => none) hq0 tq7 (by decide)
  replace tq8 := h_nwk (q := q15) (t := 1324) (f := fun _ => none) hq0 tq8 (by decide)
  replace tq9 := h_nwk (q := q15) (t := 1324) (f := fun _ => none) hq0 tq9 (by decide)
  replace tq10 := h_nwk (q := q15) (t := 1324) (f := fun _ => none) hq0 tq10 (by decide)
  replace tq11 := h_nwk (q := q15) (t := 1324) (f := fun _ => none) hq0 tq11 (by decide)
  replace tq12 := h_nwk (q := q15) (t := 1324) (f := fun _ => none) hq0 tq12 (by decide)
  replace tq13 := h_nwk (q := q15) (t := 1324) (f := fun _ => none) hq0 tq13 (by decide)
  replace tq14 := h_nwk (q := q15) (t := 1324) (f := fun _ => none) hq0 tq14 (by decide)
  replace tq15 : (z.nw q15 1324 (fun _ => none)).ty q15 = 1324 := nw_te
  obtain ⟨z, ez⟩ : ∃ z1 : tZ, z1 = (z.nw q15 1324 (fun _ => none)) := ⟨_, rfl⟩
  rw [← ez] at g hI hR hZ hQ hu_q15 t_a0 tq1 tq3 tq4 tq5 tq6 tq7 tq8 tq9 tq10 tq11 tq12 tq13 tq14 tq15 Ra0_0 Ra0_10 Ra0_11 Ra0_14 Ra0_15 Ra0_16 Ra0_17 Ra0_18 Ra0_19 Ra0_20 Ra0_21 Ra0_22 Ra0_23
  clear ez
  obtain ⟨I0, eI⟩ : ∃ J : tI, J = h_row I0 q15 (fun _ => 0) := ⟨_, rfl⟩
  rw [← eI] at g hI hZ hQ hz kf_a0_9 z_laws
  clear eI
  replace hF : h_F [(1310, 999), (1325, 999), (1326, 999), (1328, 999), (62, 9)] z I0 I0 := h_F.rf
  refine W.cs (cells' := 14) (slots' := 1330) rfl rfl ?_
  replace kf_a0_9 : I0 a0 9 = (-1) := kf_a0_9
  replace hZ := hZ.tcall hF rfl
  replace hQ := hQ.tc hF rfl
  refine h_putR (ty := tyX12 24) (v := q15) hx hb hts iX12 tyX12 tyX12_ok nmX12 hown g t_a0 (by decide) so_62 rfl 24 (by decide) rfl (hts (.fieldLink RX12 55 "CapLeagueModel" "usedSpare" "[Z") (by decide +kernel)) rfl rfl hin rfl (by decide +kernel) rfl rfl dX12_init_120 (fun H locs g => ?_)
  replace hQ := hQ.wR (a := a0) (k := 24) (v := q15) t_a0 (by decide) tq15 (by decide) (fun h9 => ⟨hu_q15, n_q15⟩)
  replace hR := hR.wR (k0 := 24) (v := some q15) t_a0 (fun _ => rfl)
  replace hZ := hZ.wR (a := a0) (k := 24) (v := some q15) (Or.inl rfl)
  replace hI : h_I (z.wR a0 24 (some q15)) I0 := hI
  replace t_a0 : (z.wR a0 24 (some q15)).ty a0 = 62 := t_a0
  replace tq1 : (z.wR a0 24 (some q15)).ty q1 = 1300 := tq1
  replace tq3 : (z.wR a0 24 (some q15)).ty q3 = 1310 := tq3
  replace tq4 : (z.wR a0 24 (some q15)).ty q4 = 1311 := tq4
  replace tq5 : (z.wR a0 24 (some q15)).ty q5 = 1314 := tq5
  replace tq6 : (z.wR a0 24 (some q15)).ty q6 = 1315 := tq6
  replace tq7 : (z.wR a0 24 (some q15)).ty q7 = 1316 := tq7
  replace tq8 : (z.wR a0 24 (some q15)).ty q8 = 1317 := tq8
  replace tq9 : (z.wR a0 24 (some q15)).ty q9 = 1318 := tq9
  replace tq10 : (z.wR a0 24 (some q15)).ty q10 = 1319 := tq10
  replace tq11 : (z.wR a0 24 (some q15)).ty q11 = 1320 := tq11
  replace tq12 : (z.wR a0 24 (some q15)).ty q12 = 1321 := tq12
  replace tq13 : (z.wR a0 24 (some q15)).ty q13 = 1322 := tq13
  replace tq14 : (z.wR a0 24 (some q15)).ty q14 = 1323 := tq14
  replace tq15 : (z.wR a0 24 (some q15)).ty q15 = 1324 := tq15
  replace Ra0_0 : (z.wR a0 24 (some q15)).R a0 0 = some q1 := (h_up_at (by decide)).trans Ra0_0
  replace Ra0_10 : (z.wR a0 24 (some q15)).R a0 10 = some q3 := (h_up_at (by decide)).trans Ra0_10
  replace Ra0_11 : (z.wR a0 24 (some q15)).R a0 11 = some q4 := (h_up_at (by decide)).trans Ra0_11
  replace Ra0_14 : (z.wR a0 24 (some q15)).R a0 14 = some q5 := (h_up_at (by decide)).trans Ra0_14
  replace Ra0_15 : (z.wR a0 24 (some q15)).R a0 15 = some q6 := (h_up_at (by decide)).trans Ra0_15
  replace Ra0_16 : (z.wR a0 24 (some q15)).R a0 16 = some q7 := (h_up_at (by decide)).trans Ra0_16
  replace Ra0_17 : (z.wR a0 24 (some q15)).R a0 17 = some q8 := (h_up_at (by decide)).trans Ra0_17
  replace Ra0_18 : (z.wR a0 24 (some q15)).R a0 18 = some q9 := (h_up_at (by decide)).trans Ra0_18
  replace Ra0_19 : (z.wR a0 24 (some q15)).R a0 19 = some q10 := (h_up_at (by decide)).trans Ra0_19
  replace Ra0_20 : (z.wR a0 24 (some q15)).R a0 20 = some q11 := (h_up_at (by decide)).trans Ra0_20
  replace Ra0_21 : (z.wR a0 24 (some q15)).R a0 21 = some q12 := (h_up_at (by decide)).trans Ra0_21
  replace Ra0_22 : (z.wR a0 24 (some q15)).R a0 22 = some q13 := (h_up_at (by decide)).trans Ra0_22
  replace Ra0_23 : (z.wR a0 24 (some q15)).R a0 23 = some q14 := (h_up_at (by decide)).trans Ra0_23
  replace Ra0_24 : (z.wR a0 24 (some q15)).R a0 24 = some q15 := h_up_eq
  obtain ⟨z, ez⟩ : ∃ z1 : tZ, z1 = (z.wR a0 24 (some q15)) := ⟨_, rfl⟩
  rw [← ez] at g hI hR hZ hQ t_a0 tq1 tq3 tq4 tq5 tq6 tq7 tq8 tq9 tq10 tq11 tq12 tq13 tq14 tq15 Ra0_0 Ra0_10 Ra0_11 Ra0_14 Ra0_15 Ra0_16 Ra0_17 Ra0_18 Ra0_19 Ra0_20 Ra0_21 Ra0_22 Ra0_23 Ra0_24
  clear ez
  replace hF : h_F [(1310, 999), (1325, 999), (1326, 999), (1328, 999), (62, 9)] z I0 I0 := h_F.rf
  refine lv_aload_n hx hb dX12_init_123 rfl (lv_at hl 0 rfl) ?_
  refine lv_bipush (v := 80) hx hb dX12_init_124 (by decide) ?_
  replace kf_a0_9 : I0 a0 9 = (-1) := kf_a0_9
  replace hZ := hZ.tcall hF rfl
  replace hQ := hQ.tc hF rfl
  refine h_newI hx hb (hts (.arrayClass .int) (by decide +kernel)) g hA so_1325 (by decide) (by decide) (by decide) (Nat.le_of_ble_eq_true rfl) (Nat.le_of_ble_eq_true rfl) dX12_init_126 (fun q16 H hq0 g => ?_)
  have n_q16 := hZ.fresh hq0 (fun h => h_neq t_a0 (by decide) hq0 (Option.some.inj h).symm)
  replace hu_q16 := hQ.1.u (q := q16) (t := 1325) hq0
  replace hQ := hQ.nw (q := q16) (t := 1325) hq0 (by decide)
  replace hI := hI.nw (q := q16) (t := 1325) (f := fun _ => none)
  replace hR := hR.nw (q := q16) (t := 1325) (f := fun _ => none) hq0 (fun k t2 n2 h => by cases (show (none : Option (Nat × Bool)) = some (t2, n2) from h))
  replace hZ := hZ.nw (q := q16) (t := 1325) (f := fun _ => none) hq0 (L2 := L0) (fun _ _ => rfl)
  replace hz : h_row I0 q16 (fun _ => 0) a0 = (fun j => if j = 9 then (-1) else (fun _ => 0) j) := (h_row_n (h_neq t_a0 (by decide) hq0)).trans hz
  replace kf_a0_9 : h_row I0 q16 (fun _ => 0) a0 9 = (-1) := (congrFun (h_row_n (h_neq t_a0 (by decide) hq0)) 9).trans kf_a0_9
  have z_laws : h_row I0 q16 (fun _ => 0) q3 = fun _ => 0 := (h_row_n (h_neq tq3 (by decide) hq0)).trans z_laws
  replace Ra0_0 := h_nwr (q := q16) (t := 1325) (f := fun _ => none) hq0 t_a0 (by decide) Ra0_0
  replace Ra0_10 := h_nwr (q := q16) (t := 1325) (f := fun _ => none) hq0 t_a0 (by decide) Ra0_10
  replace Ra0_11 := h_nwr (q := q16) (t := 1325) (f := fun _ => none) hq0 t_a0 (by decide) Ra0_11
  replace Ra0_14 := h_nwr (q := q16) (t := 1325) (f := fun _ => none) hq0 t_a0 (by decide) Ra0_14
  replace Ra0_15 := h_nwr (q := q16) (t := 1325) (f := fun _ => none) hq0 t_a0 (by decide) Ra0_15
  replace Ra0_16 := h_nwr (q := q16) (t := 1325) (f := fun _ => none) hq0 t_a0 (by decide) Ra0_16
  replace Ra0_17 := h_nwr (q := q16) (t := 1325) (f := fun _ => none) hq0 t_a0 (by decide) Ra0_17
  replace Ra0_18 := h_nwr (q := q16) (t := 1325) (f := fun _ => none) hq0 t_a0 (by decide) Ra0_18
  replace Ra0_19 := h_nwr (q := q16) (t := 1325) (f := fun _ => none) hq0 t_a0 (by decide) Ra0_19
  replace Ra0_20 := h_nwr (q := q16) (t := 1325) (f := fun _ => none) hq0 t_a0 (by decide) Ra0_20
  replace Ra0_21 := h_nwr (q := q16) (t := 1325) (f := fun _ => none) hq0 t_a0 (by decide) Ra0_21
  replace Ra0_22 := h_nwr (q := q16) (t := 1325) (f := fun _ => none) hq0 t_a0 (by decide) Ra0_22
  replace Ra0_23 := h_nwr (q := q16) (t := 1325) (f := fun _ => none) hq0 t_a0 (by decide) Ra0_23
  replace Ra0_24 := h_nwr (q := q16) (t := 1325) (f := fun _ => none) hq0 t_a0 (by decide) Ra0_24
  replace t_a0 := h_nwk (q := q16) (t := 1325) (f := fun _ => none) hq0 t_a0 (by decide)
  replace tq1 := h_nwk (q := q16) (t := 1325) (f := fun _ => none) hq0 tq1 (by decide)
  replace tq3 := h_nwk (q := q16) (t := 1325) (f := fun _ => none) hq0 tq3 (by decide)
  replace tq4 := h_nwk (q := q16) (t := 1325) (f := fun _ => none) hq0 tq4 (by decide)
  replace tq5 := h_nwk (q := q16) (t := 1325) (f := fun _ => none) hq0 tq5 (by decide)
  replace tq6 := h_nwk (q := q16) (t := 1325) (f := fun _ => none) hq0 tq6 (by decide)
  replace tq7 := h_nwk (q := q16) (t := 1325) (f := fun _ => none) hq0 tq7 (by decide)
  replace tq8 := h_nwk (q := q16) (t := 1325) (f := fun _ => none) hq0 tq8 (by decide)
  replace tq9 := h_nwk (q := q16) (t := 1325) (f := fun _ => none) hq0 tq9 (by decide)
  replace tq10 := h_nwk (q := q16) (t := 1325) (f := fun _ => none) hq0 tq10 (by decide)
  replace tq11 := h_nwk (q := q16) (t := 1325) (f := fun _ => none) hq0 tq11 (by decide)
  replace tq12 := h_nwk (q := q16) (t := 1325) (f := fun _ => none) hq0 tq12 (by decide)
  replace tq13 := h_nwk (q := q16) (t := 1325) (f := fun _ => none) hq0 tq13 (by decide)
  replace tq14 := h_nwk (q := q16) (t := 1325) (f := fun _ => none) hq0 tq14 (by decide)
  replace tq15 := h_nwk (q := q16) (t := 1325) (f := fun _ => none) hq0 tq15 (by decide)
  replace tq16 : (z.nw q16 1325 (fun _ => none)).ty q16 = 1325 := nw_te
  obtain ⟨z, ez⟩ : ∃ z1 : tZ, z1 = (z.nw q16 1325 (fun _ => none)) := ⟨_, rfl⟩
  rw [← ez] at g hI hR hZ hQ hu_q16 t_a0 tq1 tq3 tq4 tq5 tq6 tq7 tq8 tq9 tq10 tq11 tq12 tq13 tq14 tq15 tq16 Ra0_0 Ra0_10 Ra0_11 Ra0_14 Ra0_15 Ra0_16 Ra0_17 Ra0_18 Ra0_19 Ra0_20 Ra0_21 Ra0_22 Ra0_23 Ra0_24
  clear ez
  obtain ⟨I0, eI⟩ : ∃ J : tI, J = h_row I0 q16 (fun _ => 0) := ⟨_, rfl⟩
  rw [← eI] at g hI hZ hQ hz kf_a0_9 z_laws
  clear eI
  replace hF : h_F [(1310, 999), (1325, 999), (1326, 999), (1328, 999), (62, 9)] z I0 I0 := h_F.rf
  refine W.cs (cells' := 15) (slots' := 1410) rfl rfl ?_
  replace kf_a0_9 : I0 a0 9 = (-1) := kf_a0_9
  replace hZ := hZ.tcall hF rfl
  replace hQ := hQ.tc hF rfl
  refine h_putR (ty := tyX12 25) (v := q16) hx hb hts iX12 tyX12 tyX12_ok nmX12 hown g t_a0 (by decide) so_62 rfl 25 (by decide) rfl (hts (.fieldLink RX12 58 "CapLeagueModel" "owner" "[I") (by decide +kernel)) rfl rfl hin rfl (by decide +kernel) rfl rfl dX12_init_128 (fun H locs g => ?_)
  replace hQ := hQ.wR (a := a0) (k := 25) (v := q16) t_a0 (by decide) tq16 (by decide) (fun h9 => ⟨hu_q16, n_q16⟩)
  replace hR := hR.wR (k0 := 25) (v := some q16) t_a0 (fun _ => rfl)
  replace hZ := hZ.wR (a := a0) (k := 25) (v := some q16) (Or.inl rfl)
  replace hI : h_I (z.wR a0 25 (some q16)) I0 := hI
  replace t_a0 : (z.wR a0 25 (some q16)).ty a0 = 62 := t_a0
  replace tq1 : (z.wR a0 25 (some q16)).ty q1 = 1300 := tq1
  replace tq3 : (z.wR a0 25 (some q16)).ty q3 = 1310 := tq3
  replace tq4 : (z.wR a0 25 (some q16)).ty q4 = 1311 := tq4
  replace tq5 : (z.wR a0 25 (some q16)).ty q5 = 1314 := tq5
  replace tq6 : (z.wR a0 25 (some q16)).ty q6 = 1315 := tq6
  replace tq7 : (z.wR a0 25 (some q16)).ty q7 = 1316 := tq7
  replace tq8 : (z.wR a0 25 (some q16)).ty q8 = 1317 := tq8
  replace tq9 : (z.wR a0 25 (some q16)).ty q9 = 1318 := tq9
  replace tq10 : (z.wR a0 25 (some q16)).ty q10 = 1319 := tq10
  replace tq11 : (z.wR a0 25 (some q16)).ty q11 = 1320 := tq11
  replace tq12 : (z.wR a0 25 (some q16)).ty q12 = 1321 := tq12
  replace tq13 : (z.wR a0 25 (some q16)).ty q13 = 1322 := tq13
  replace tq14 : (z.wR a0 25 (some q16)).ty q14 = 1323 := tq14
  replace tq15 : (z.wR a0 25 (some q16)).ty q15 = 1324 := tq15
  replace tq16 : (z.wR a0 25 (some q16)).ty q16 = 1325 := tq16
  replace Ra0_0 : (z.wR a0 25 (some q16)).R a0 0 = some q1 := (h_up_at (by decide)).trans Ra0_0
  replace Ra0_10 : (z.wR a0 25 (some q16)).R a0 10 = some q3 := (h_up_at (by decide)).trans Ra0_10
  replace Ra0_11 : (z.wR a0 25 (some q16)).R a0 11 = some q4 := (h_up_at (by decide)).trans Ra0_11
  replace Ra0_14 : (z.wR a0 25 (some q16)).R a0 14 = some q5 := (h_up_at (by decide)).trans Ra0_14
  replace Ra0_15 : (z.wR a0 25 (some q16)).R a0 15 = some q6 := (h_up_at (by decide)).trans Ra0_15
  replace Ra0_16 : (z.wR a0 25 (some q16)).R a0 16 = some q7 := (h_up_at (by decide)).trans Ra0_16
  replace Ra0_17 : (z.wR a0 25 (some q16)).R a0 17 = some q8 := (h_up_at (by decide)).trans Ra0_17
  replace Ra0_18 : (z.wR a0 25 (some q16)).R a0 18 = some q9 := (h_up_at (by decide)).trans Ra0_18
  replace Ra0_19 : (z.wR a0 25 (some q16)).R a0 19 = some q10 := (h_up_at (by decide)).trans Ra0_19
  replace Ra0_20 : (z.wR a0 25 (some q16)).R a0 20 = some q11 := (h_up_at (by decide)).trans Ra0_20
  replace Ra0_21 : (z.wR a0 25 (some q16)).R a0 21 = some q12 := (h_up_at (by decide)).trans Ra0_21
  replace Ra0_22 : (z.wR a0 25 (some q16)).R a0 22 = some q13 := (h_up_at (by decide)).trans Ra0_22
  replace Ra0_23 : (z.wR a0 25 (some q16)).R a0 23 = some q14 := (h_up_at (by decide)).trans Ra0_23
  replace Ra0_24 : (z.wR a0 25 (some q16)).R a0 24 = some q15 := (h_up_at (by decide)).trans Ra0_24
  replace Ra0_25 : (z.wR a0 25 (some q16)).R a0 25 = some q16 := h_up_eq
  obtain ⟨z, ez⟩ : ∃ z1 : tZ, z1 = (z.wR a0 25 (some q16)) := ⟨_, rfl⟩
  rw [← ez] at g hI hR hZ hQ t_a0 tq1 tq3 tq4 tq5 tq6 tq7 tq8 tq9 tq10 tq11 tq12 tq13 tq14 tq15 tq16 Ra0_0 Ra0_10 Ra0_11 Ra0_14 Ra0_15 Ra0_16 Ra0_17 Ra0_18 Ra0_19 Ra0_20 Ra0_21 Ra0_22 Ra0_23 Ra0_24 Ra0_25
  clear ez
  replace hF : h_F [(1310, 999), (1325, 999), (1326, 999), (1328, 999), (62, 9)] z I0 I0 := h_F.rf
  refine lv_aload_n hx hb dX12_init_131 rfl (lv_at hl 0 rfl) ?_
  refine lv_bipush (v := 80) hx hb dX12_init_132 (by decide) ?_
  replace kf_a0_9 : I0 a0 9 = (-1) := kf_a0_9
  replace hZ := hZ.tcall hF rfl
  replace hQ := hQ.tc hF rfl
  refine h_newI hx hb (hts (.arrayClass .int) (by decide +kernel)) g hA so_1326 (by decide) (by decide) (by decide) (Nat.le_of_ble_eq_true rfl) (Nat.le_of_ble_eq_true rfl) dX12_init_134 (fun q17 H hq0 g => ?_)
  have n_q17 := hZ.fresh hq0 (fun h => h_neq t_a0 (by decide) hq0 (Option.some.inj h).symm)
  replace hu_q17 := hQ.1.u (q := q17) (t := 1326) hq0
  replace hQ := hQ.nw (q := q17) (t := 1326) hq0 (by decide)
  replace hI := hI.nw (q := q17) (t := 1326) (f := fun _ => none)
  replace hR := hR.nw (q := q17) (t := 1326) (f := fun _ => none) hq0 (fun k t2 n2 h => by cases (show (none : Option (Nat × Bool)) = some (t2, n2) from h))
  replace hZ := hZ.nw (q := q17) (t := 1326) (f := fun _ => none) hq0 (L2 := L0) (fun _ _ => rfl)
  replace hz : h_row I0 q17 (fun _ => 0) a0 = (fun j => if j = 9 then (-1) else (fun _ => 0) j) := (h_row_n (h_neq t_a0 (by decide) hq0)).trans hz
  replace kf_a0_9 : h_row I0 q17 (fun _ => 0) a0 9 = (-1) := (congrFun (h_row_n (h_neq t_a0 (by decide) hq0)) 9).trans kf_a0_9
  have z_laws : h_row I0 q17 (fun _ => 0) q3 = fun _ => 0 := (h_row_n (h_neq tq3 (by decide) hq0)).trans z_laws
  replace Ra0_0 := h_nwr (q := q17) (t := 1326) (f := fun _ => none) hq0 t_a0 (by decide) Ra0_0
  replace Ra0_10 := h_nwr (q := q17) (t := 1326) (f := fun _ => none) hq0 t_a0 (by decide) Ra0_10
  replace Ra0_11 := h_nwr (q := q17) (t := 1326) (f := fun _ => none) hq0 t_a0 (by decide) Ra0_11
  replace Ra0_14 := h_nwr (q := q17) (t := 1326) (f := fun _ => none) hq0 t_a0 (by decide) Ra0_14
  replace Ra0_15 := h_nwr (q := q17) (t := 1326) (f := fun _ => none) hq0 t_a0 (by decide) Ra0_15
  replace Ra0_16 := h_nwr (q := q17) (t := 1326) (f := fun _ => none) hq0 t_a0 (by decide) Ra0_16
  replace Ra0_17 := h_nwr (q := q17) (t := 1326) (f := fun _ => none) hq0 t_a0 (by decide) Ra0_17
  replace Ra0_18 := h_nwr (q := q17) (t := 1326) (f := fun _ => none) hq0 t_a0 (by decide) Ra0_18
  replace Ra0_19 := h_nwr (q := q17) (t := 1326) (f := fun _ => none) hq0 t_a0 (by decide) Ra0_19
  replace Ra0_20 := h_nwr (q := q17) (t := 1326) (f := fun _ => none) hq0 t_a0 (by decide) Ra0_20
  replace Ra0_21 := h_nwr (q := q17) (t := 1326) (f := fun _ => none) hq0 t_a0 (by decide) Ra0_21
  replace Ra0_22 := h_nwr (q := q17) (t := 1326) (f := fun _ => none) hq0 t_a0 (by decide) Ra0_22
  replace Ra0_23 := h_nwr (q := q17) (t := 1326) (f := fun _ => none) hq0 t_a0 (by decide) Ra0_23
  replace Ra0_24 := h_nwr (q := q17) (t := 1326) (f := fun _ => none) hq0 t_a0 (by decide) Ra0_24
  replace Ra0_25 := h_nwr (q := q17) (t := 1326) (f := fun _ => none) hq0 t_a0 (by decide) Ra0_25
  replace t_a0 := h_nwk (q := q17) (t := 1326) (f := fun _ => none) hq0 t_a0 (by decide)
  replace tq1 := h_nwk (q := q17) (t := 1326) (f := fun _ => none) hq0 tq1 (by decide)
  replace tq3 := h_nwk (q := q17) (t := 1326) (f := fun _ => none) hq0 tq3 (by decide)
  replace tq4 := h_nwk (q := q17) (t := 1326) (f := fun _ => none) hq0 tq4 (by decide)
  replace tq5 := h_nwk (q := q17) (t := 1326) (f := fun _ => none) hq0 tq5 (by decide)
  replace tq6 := h_nwk (q := q17) (t := 1326) (f := fun _ => none) hq0 tq6 (by decide)
  replace tq7 := h_nwk (q := q17) (t := 1326) (f := fun _ => none) hq0 tq7 (by decide)
  replace tq8 := h_nwk (q := q17) (t := 1326) (f := fun _ => none) hq0 tq8 (by decide)
  replace tq9 := h_nwk (q := q17) (t := 1326) (f := fun _ => none) hq0 tq9 (by decide)
  replace tq10 := h_nwk (q := q17) (t := 1326) (f := fun _ => none) hq0 tq10 (by decide)
  replace tq11 := h_nwk (q := q17) (t := 1326) (f := fun _ => none) hq0 tq11 (by decide)
  replace tq12 := h_nwk (q := q17) (t := 1326) (f := fun _ => none) hq0 tq12 (by decide)
  replace tq13 := h_nwk (q := q17) (t := 1326) (f := fun _ => none) hq0 tq13 (by decide)
  replace tq14 := h_nwk (q := q17) (t := 1326) (f := fun _ => none) hq0 tq14 (by decide)
  replace tq15 := h_nwk (q := q17) (t := 1326) (f := fun _ => none) hq0 tq15 (by decide)
  replace tq16 := h_nwk (q := q17) (t := 1326) (f := fun _ => none) hq0 tq16 (by decide)
  replace tq17 : (z.nw q17 1326 (fun _ => none)).ty q17 = 1326 := nw_te
  obtain ⟨z, ez⟩ : ∃ z1 : tZ, z1 = (z.nw q17 1326 (fun _ => none)) := ⟨_, rfl⟩
  rw [← ez] at g hI hR hZ hQ hu_q17 t_a0 tq1 tq3 tq4 tq5 tq6 tq7 tq8 tq9 tq10 tq11 tq12 tq13 tq14 tq15 tq16 tq17 Ra0_0 Ra0_10 Ra0_11 Ra0_14 Ra0_15 Ra0_16 Ra0_17 Ra0_18 Ra0_19 Ra0_20 Ra0_21 Ra0_22 Ra0_23 Ra0_24 Ra0_25
  clear ez
  obtain ⟨I0, eI⟩ : ∃ J : tI, J = h_row I0 q17 (fun _ => 0) := ⟨_, rfl⟩
  rw [← eI] at g hI hZ hQ hz kf_a0_9 z_laws
  clear eI
  replace hF : h_F [(1310, 999), (1325, 999), (1326, 999), (1328, 999), (62, 9)] z I0 I0 := h_F.rf
  refine W.cs (cells' := 16) (slots' := 1490) rfl rfl ?_
  replace kf_a0_9 : I0 a0 9 = (-1) := kf_a0_9
  replace hZ := hZ.tcall hF rfl
  replace hQ := hQ.tc hF rfl
  refine h_putR (ty := tyX12 26) (v := q17) hx hb hts iX12 tyX12 tyX12_ok nmX12 hown g t_a0 (by decide) so_62 rfl 26 (by decide) rfl (hts (.fieldLink RX12 61 "CapLeagueModel" "giver" "[I") (by decide +kernel)) rfl rfl hin rfl (by decide +kernel) rfl rfl dX12_init_136 (fun H locs g => ?_)
  replace hQ := hQ.wR (a := a0) (k := 26) (v := q17) t_a0 (by decide) tq17 (by decide) (fun h9 => ⟨hu_q17, n_q17⟩)
  replace hR := hR.wR (k0 := 26) (v := some q17) t_a0 (fun _ => rfl)
  replace hZ := hZ.wR (a := a0) (k := 26) (v := some q17) (Or.inl rfl)
  replace hI : h_I (z.wR a0 26 (some q17)) I0 := hI
  replace t_a0 : (z.wR a0 26 (some q17)).ty a0 = 62 := t_a0
  replace tq1 : (z.wR a0 26 (some q17)).ty q1 = 1300 := tq1
  replace tq3 : (z.wR a0 26 (some q17)).ty q3 = 1310 := tq3
  replace tq4 : (z.wR a0 26 (some q17)).ty q4 = 1311 := tq4
  replace tq5 : (z.wR a0 26 (some q17)).ty q5 = 1314 := tq5
  replace tq6 : (z.wR a0 26 (some q17)).ty q6 = 1315 := tq6
  replace tq7 : (z.wR a0 26 (some q17)).ty q7 = 1316 := tq7
  replace tq8 : (z.wR a0 26 (some q17)).ty q8 = 1317 := tq8
  replace tq9 : (z.wR a0 26 (some q17)).ty q9 = 1318 := tq9
  replace tq10 : (z.wR a0 26 (some q17)).ty q10 = 1319 := tq10
  replace tq11 : (z.wR a0 26 (some q17)).ty q11 = 1320 := tq11
  replace tq12 : (z.wR a0 26 (some q17)).ty q12 = 1321 := tq12
  replace tq13 : (z.wR a0 26 (some q17)).ty q13 = 1322 := tq13
  replace tq14 : (z.wR a0 26 (some q17)).ty q14 = 1323 := tq14
  replace tq15 : (z.wR a0 26 (some q17)).ty q15 = 1324 := tq15
  replace tq16 : (z.wR a0 26 (some q17)).ty q16 = 1325 := tq16
  replace tq17 : (z.wR a0 26 (some q17)).ty q17 = 1326 := tq17
  replace Ra0_0 : (z.wR a0 26 (some q17)).R a0 0 = some q1 := (h_up_at (by decide)).trans Ra0_0
  replace Ra0_10 : (z.wR a0 26 (some q17)).R a0 10 = some q3 := (h_up_at (by decide)).trans Ra0_10
  replace Ra0_11 : (z.wR a0 26 (some q17)).R a0 11 = some q4 := (h_up_at (by decide)).trans Ra0_11
  replace Ra0_14 : (z.wR a0 26 (some q17)).R a0 14 = some q5 := (h_up_at (by decide)).trans Ra0_14
  replace Ra0_15 : (z.wR a0 26 (some q17)).R a0 15 = some q6 := (h_up_at (by decide)).trans Ra0_15
  replace Ra0_16 : (z.wR a0 26 (some q17)).R a0 16 = some q7 := (h_up_at (by decide)).trans Ra0_16
  replace Ra0_17 : (z.wR a0 26 (some q17)).R a0 17 = some q8 := (h_up_at (by decide)).trans Ra0_17
  replace Ra0_18 : (z.wR a0 26 (some q17)).R a0 18 = some q9 := (h_up_at (by decide)).trans Ra0_18
  replace Ra0_19 : (z.wR a0 26 (some q17)).R a0 19 = some q10 := (h_up_at (by decide)).trans Ra0_19
  replace Ra0_20 : (z.wR a0 26 (some q17)).R a0 20 = some q11 := (h_up_at (by decide)).trans Ra0_20
  replace Ra0_21 : (z.wR a0 26 (some q17)).R a0 21 = some q12 := (h_up_at (by decide)).trans Ra0_21
  replace Ra0_22 : (z.wR a0 26 (some q17)).R a0 22 = some q13 := (h_up_at (by decide)).trans Ra0_22
  replace Ra0_23 : (z.wR a0 26 (some q17)).R a0 23 = some q14 := (h_up_at (by decide)).trans Ra0_23
  replace Ra0_24 : (z.wR a0 26 (some q17)).R a0 24 = some q15 := (h_up_at (by decide)).trans Ra0_24
  replace Ra0_25 : (z.wR a0 26 (some q17)).R a0 25 = some q16 := (h_up_at (by decide)).trans Ra0_25
  replace Ra0_26 : (z.wR a0 26 (some q17)).R a0 26 = some q17 := h_up_eq
  obtain ⟨z, ez⟩ : ∃ z1 : tZ, z1 = (z.wR a0 26 (some q17)) := ⟨_, rfl⟩
  rw [← ez] at g hI hR hZ hQ t_a0 tq1 tq3 tq4 tq5 tq6 tq7 tq8 tq9 tq10 tq11 tq12 tq13 tq14 tq15 tq16 tq17 Ra0_0 Ra0_10 Ra0_11 Ra0_14 Ra0_15 Ra0_16 Ra0_17 Ra0_18 Ra0_19 Ra0_20 Ra0_21 Ra0_22 Ra0_23 Ra0_24 Ra0_25 Ra0_26
  clear ez
  replace hF : h_F [(1310, 999), (1325, 999), (1326, 999), (1328, 999), (62, 9)] z I0 I0 := h_F.rf
  refine lv_aload_n hx hb dX12_init_139 rfl (lv_at hl 0 rfl) ?_
  refine lv_bipush (v := 80) hx hb dX12_init_140 (by decide) ?_
  replace kf_a0_9 : I0 a0 9 = (-1) := kf_a0_9
  replace hZ := hZ.tcall hF rfl
  replace hQ := hQ.tc hF rfl
  refine h_newI hx hb (hts (.arrayClass .int) (by decide +kernel)) g hA so_1327 (by decide) (by decide) (by decide) (Nat.le_of_ble_eq_true rfl) (Nat.le_of_ble_eq_true rfl) dX12_init_142 (fun q18 H hq0 g => ?_)
  have n_q18 := hZ.fresh hq0 (fun h => h_neq t_a0 (by decide) hq0 (Option.some.inj h).symm)
  replace hu_q18 := hQ.1.u (q := q18) (t := 1327) hq0
  replace hQ := hQ.nw (q := q18) (t := 1327) hq0 (by decide)
  replace hI := hI.nw (q := q18) (t := 1327) (f := fun _ => none)
  replace hR := hR.nw (q := q18) (t := 1327) (f := fun _ => none) hq0 (fun k t2 n2 h => by cases (show (none : Option (Nat × Bool)) = some (t2, n2) from h))
  replace hZ := hZ.nw (q := q18) (t := 1327) (f := fun _ => none) hq0 (L2 := L0) (fun _ _ => rfl)
  replace hz : h_row I0 q18 (fun _ => 0) a0 = (fun j => if j = 9 then (-1) else (fun _ => 0) j) := (h_row_n (h_neq t_a0 (by decide) hq0)).trans hz
  replace kf_a0_9 : h_row I0 q18 (fun _ => 0) a0 9 = (-1) := (congrFun (h_row_n (h_neq t_a0 (by decide) hq0)) 9).trans kf_a0_9
  have z_laws : h_row I0 q18 (fun _ => 0) q3 = fun _ => 0 := (h_row_n (h_neq tq3 (by decide) hq0)).trans z_laws
  replace Ra0_0 := h_nwr (q := q18) (t := 1327) (f := fun _ => none) hq0 t_a0 (by decide) Ra0_0
  replace Ra0_10 := h_nwr (q := q18) (t := 1327) (f := fun _ => none) hq0 t_a0 (by decide) Ra0_10
  replace Ra0_11 := h_nwr (q := q18) (t := 1327) (f := fun _ => none) hq0 t_a0 (by decide) Ra0_11
  replace Ra0_14 := h_nwr (q := q18) (t := 1327) (f := fun _ => none) hq0 t_a0 (by decide) Ra0_14
  replace Ra0_15 := h_nwr (q := q18) (t := 1327) (f := fun _ => none) hq0 t_a0 (by decide) Ra0_15
  replace Ra0_16 := h_nwr (q := q18) (t := 1327) (f := fun _ => none) hq0 t_a0 (by decide) Ra0_16
  replace Ra0_17 := h_nwr (q := q18) (t := 1327) (f := fun _ => none) hq0 t_a0 (by decide) Ra0_17
  replace Ra0_18 := h_nwr (q := q18) (t := 1327) (f := fun _ => none) hq0 t_a0 (by decide) Ra0_18
  replace Ra0_19 := h_nwr (q := q18) (t := 1327) (f := fun _ => none) hq0 t_a0 (by decide) Ra0_19
  replace Ra0_20 := h_nwr (q := q18) (t := 1327) (f := fun _ => none) hq0 t_a0 (by decide) Ra0_20
  replace Ra0_21 := h_nwr (q := q18) (t := 1327) (f := fun _ => none) hq0 t_a0 (by decide) Ra0_21
  replace Ra0_22 := h_nwr (q := q18) (t := 1327) (f := fun _ => none) hq0 t_a0 (by decide) Ra0_22
  replace Ra0_23 := h_nwr (q := q18) (t := 1327) (f := fun _ => none) hq0 t_a0 (by decide) Ra0_23
  replace Ra0_24 := h_nwr (q := q18) (t := 1327) (f := fun _ => none) hq0 t_a0 (by decide) Ra0_24
  replace Ra0_25 := h_nwr (q := q18) (t := 1327) (f := fun _ => none) hq0 t_a0 (by decide) Ra0_25
  replace Ra0_26 := h_nwr (q := q18) (t := 1327) (f := fun _ => none) hq0 t_a0 (by decide) Ra0_26
  replace t_a0 := h_nwk (q := q18) (t := 1327) (f := fun _ => none) hq0 t_a0 (by decide)
  replace tq1 := h_nwk (q := q18) (t := 1327) (f := fun _ => none) hq0 tq1 (by decide)
  replace tq3 := h_nwk (q := q18) (t := 1327) (f := fun _ => none) hq0 tq3 (by decide)
  replace tq4 := h_nwk (q := q18) (t := 1327) (f := fun _ => none) hq0 tq4 (by decide)
  replace tq5 := h_nwk (q := q18) (t := 1327) (f := fun _ => none) hq0 tq5 (by decide)
  replace tq6 := h_nwk (q := q18) (t := 1327) (f := fun _ => none) hq0 tq6 (by decide)
  replace tq7 := h_nwk (q := q18) (t := 1327) (f := fun _ => none) hq0 tq7 (by decide)
  replace tq8 := h_nwk (q := q18) (t := 1327) (f := fun _ => none) hq0 tq8 (by decide)
  replace tq9 := h_nwk (q := q18) (t := 1327) (f := fun _ => none) hq0 tq9 (by decide)
  replace tq10 := h_nwk (q := q18) (t := 1327) (f := fun _ => none) hq0 tq10 (by decide)
  replace tq11 := h_nwk (q := q18) (t := 1327) (f := fun _ => none) hq0 tq11 (by decide)
  replace tq12 := h_nwk (q := q18) (t := 1327) (f := fun _ => none) hq0 tq12 (by decide)
  replace tq13 := h_nwk (q := q18) (t := 1327) (f := fun _ => none) hq0 tq13 (by decide)
  replace tq14 := h_nwk (q := q18) (t := 1327) (f := fun _ => none) hq0 tq14 (by decide)
  replace tq15 := h_nwk (q := q18) (t := 1327) (f := fun _ => none) hq0 tq15 (by decide)
  replace tq16 := h_nwk (q := q18) (t := 1327) (f := fun _ => none) hq0 tq16 (by decide)
  replace tq17 := h_nwk (q := q18) (t := 1327) (f := fun _ => none) hq0 tq17 (by decide)
  replace tq18 : (z.nw q18 1327 (fun _ => none)).ty q18 = 1327 := nw_te
  obtain ⟨z, ez⟩ : ∃ z1 : tZ, z1 = (z.nw q18 1327 (fun _ => none)) := ⟨_, rfl⟩
  rw [← ez] at g hI hR hZ hQ hu_q18 t_a0 tq1 tq3 tq4 tq5 tq6 tq7 tq8 tq9 tq10 tq11 tq12 tq13 tq14 tq15 tq16 tq17 tq18 Ra0_0 Ra0_10 Ra0_11 Ra0_14 Ra0_15 Ra0_16 Ra0_17 Ra0_18 Ra0_19 Ra0_20 Ra0_21 Ra0_22 Ra0_23 Ra0_24 Ra0_25 Ra0_26
  clear ez
  obtain ⟨I0, eI⟩ : ∃ J : tI, J = h_row I0 q18 (fun _ => 0) := ⟨_, rfl⟩
  rw [← eI] at g hI hZ hQ hz kf_a0_9 z_laws
  clear eI
  replace hF : h_F [(1310, 999), (1325, 999), (1326, 999), (1328, 999), (62, 9)] z I0 I0 := h_F.rf
  refine W.cs (cells' := 17) (slots' := 1570) rfl rfl ?_
  replace kf_a0_9 : I0 a0 9 = (-1) := kf_a0_9
  replace hZ := hZ.tcall hF rfl
  replace hQ := hQ.tc hF rfl
  refine h_putR (ty := tyX12 27) (v := q18) hx hb hts iX12 tyX12 tyX12_ok nmX12 hown g t_a0 (by decide) so_62 rfl 27 (by decide) rfl (hts (.fieldLink RX12 64 "CapLeagueModel" "guarded" "[I") (by decide +kernel)) rfl rfl hin rfl (by decide +kernel) rfl rfl dX12_init_144 (fun H locs g => ?_)
  replace hQ := hQ.wR (a := a0) (k := 27) (v := q18) t_a0 (by decide) tq18 (by decide) (fun h9 => ⟨hu_q18, n_q18⟩)
  replace hR := hR.wR (k0 := 27) (v := some q18) t_a0 (fun _ => rfl)
  replace hZ := hZ.wR (a := a0) (k := 27) (v := some q18) (Or.inl rfl)
  replace hI : h_I (z.wR a0 27 (some q18)) I0 := hI
  replace t_a0 : (z.wR a0 27 (some q18)).ty a0 = 62 := t_a0
  replace tq1 : (z.wR a0 27 (some q18)).ty q1 = 1300 := tq1
  replace tq3 : (z.wR a0 27 (some q18)).ty q3 = 1310 := tq3
  replace tq4 : (z.wR a0 27 (some q18)).ty q4 = 1311 := tq4
  replace tq5 : (z.wR a0 27 (some q18)).ty q5 = 1314 := tq5
  replace tq6 : (z.wR a0 27 (some q18)).ty q6 = 1315 := tq6
  replace tq7 : (z.wR a0 27 (some q18)).ty q7 = 1316 := tq7
  replace tq8 : (z.wR a0 27 (some q18)).ty q8 = 1317 := tq8
  replace tq9 : (z.wR a0 27 (some q18)).ty q9 = 1318 := tq9
  replace tq10 : (z.wR a0 27 (some q18)).ty q10 = 1319 := tq10
  replace tq11 : (z.wR a0 27 (some q18)).ty q11 = 1320 := tq11
  replace tq12 : (z.wR a0 27 (some q18)).ty q12 = 1321 := tq12
  replace tq13 : (z.wR a0 27 (some q18)).ty q13 = 1322 := tq13
  replace tq14 : (z.wR a0 27 (some q18)).ty q14 = 1323 := tq14
  replace tq15 : (z.wR a0 27 (some q18)).ty q15 = 1324 := tq15
  replace tq16 : (z.wR a0 27 (some q18)).ty q16 = 1325 := tq16
  replace tq17 : (z.wR a0 27 (some q18)).ty q17 = 1326 := tq17
  replace tq18 : (z.wR a0 27 (some q18)).ty q18 = 1327 := tq18
  replace Ra0_0 : (z.wR a0 27 (some q18)).R a0 0 = some q1 := (h_up_at (by decide)).trans Ra0_0
  replace Ra0_10 : (z.wR a0 27 (some q18)).R a0 10 = some q3 := (h_up_at (by decide)).trans Ra0_10
  replace Ra0_11 : (z.wR a0 27 (some q18)).R a0 11 = some q4 := (h_up_at (by decide)).trans Ra0_11
  replace Ra0_14 : (z.wR a0 27 (some q18)).R a0 14 = some q5 := (h_up_at (by decide)).trans Ra0_14
  replace Ra0_15 : (z.wR a0 27 (some q18)).R a0 15 = some q6 := (h_up_at (by decide)).trans Ra0_15
  replace Ra0_16 : (z.wR a0 27 (some q18)).R a0 16 = some q7 := (h_up_at (by decide)).trans Ra0_16
  replace Ra0_17 : (z.wR a0 27 (some q18)).R a0 17 = some q8 := (h_up_at (by decide)).trans Ra0_17
  replace Ra0_18 : (z.wR a0 27 (some q18)).R a0 18 = some q9 := (h_up_at (by decide)).trans Ra0_18
  replace Ra0_19 : (z.wR a0 27 (some q18)).R a0 19 = some q10 := (h_up_at (by decide)).trans Ra0_19
  replace Ra0_20 : (z.wR a0 27 (some q18)).R a0 20 = some q11 := (h_up_at (by decide)).trans Ra0_20
  replace Ra0_21 : (z.wR a0 27 (some q18)).R a0 21 = some q12 := (h_up_at (by decide)).trans Ra0_21
  replace Ra0_22 : (z.wR a0 27 (some q18)).R a0 22 = some q13 := (h_up_at (by decide)).trans Ra0_22
  replace Ra0_23 : (z.wR a0 27 (some q18)).R a0 23 = some q14 := (h_up_at (by decide)).trans Ra0_23
  replace Ra0_24 : (z.wR a0 27 (some q18)).R a0 24 = some q15 := (h_up_at (by decide)).trans Ra0_24
  replace Ra0_25 : (z.wR a0 27 (some q18)).R a0 25 = some q16 := (h_up_at (by decide)).trans Ra0_25
  replace Ra0_26 : (z.wR a0 27 (some q18)).R a0 26 = some q17 := (h_up_at (by decide)).trans Ra0_26
  replace Ra0_27 : (z.wR a0 27 (some q18)).R a0 27 = some q18 := h_up_eq
  obtain ⟨z, ez⟩ : ∃ z1 : tZ, z1 = (z.wR a0 27 (some q18)) := ⟨_, rfl⟩
  rw [← ez] at g hI hR hZ hQ t_a0 tq1 tq3 tq4 tq5 tq6 tq7 tq8 tq9 tq10 tq11 tq12 tq13 tq14 tq15 tq16 tq17 tq18 Ra0_0 Ra0_10 Ra0_11 Ra0_14 Ra0_15 Ra0_16 Ra0_17 Ra0_18 Ra0_19 Ra0_20 Ra0_21 Ra0_22 Ra0_23 Ra0_24 Ra0_25 Ra0_26 Ra0_27
  clear ez
  replace hF : h_F [(1310, 999), (1325, 999), (1326, 999), (1328, 999), (62, 9)] z I0 I0 := h_F.rf
  refine lv_aload_n hx hb dX12_init_147 rfl (lv_at hl 0 rfl) ?_
  refine lv_bipush (v := 80) hx hb dX12_init_148 (by decide) ?_
  replace kf_a0_9 : I0 a0 9 = (-1) := kf_a0_9
  replace hZ := hZ.tcall hF rfl
  replace hQ := hQ.tc hF rfl
  refine h_newI hx hb (hts (.arrayClass .int) (by decide +kernel)) g hA so_1328 (by decide) (by decide) (by decide) (Nat.le_of_ble_eq_true rfl) (Nat.le_of_ble_eq_true rfl) dX12_init_150 (fun q19 H hq0 g => ?_)
  have n_q19 := hZ.fresh hq0 (fun h => h_neq t_a0 (by decide) hq0 (Option.some.inj h).symm)
  replace hu_q19 := hQ.1.u (q := q19) (t := 1328) hq0
  replace hQ := hQ.nw (q := q19) (t := 1328) hq0 (by decide)
  replace hI := hI.nw (q := q19) (t := 1328) (f := fun _ => none)
  replace hR := hR.nw (q := q19) (t := 1328) (f := fun _ => none) hq0 (fun k t2 n2 h => by cases (show (none : Option (Nat × Bool)) = some (t2, n2) from h))
  replace hZ := hZ.nw (q := q19) (t := 1328) (f := fun _ => none) hq0 (L2 := L0) (fun _ _ => rfl)
  replace hz : h_row I0 q19 (fun _ => 0) a0 = (fun j => if j = 9 then (-1) else (fun _ => 0) j) := (h_row_n (h_neq t_a0 (by decide) hq0)).trans hz
  replace kf_a0_9 : h_row I0 q19 (fun _ => 0) a0 9 = (-1) := (congrFun (h_row_n (h_neq t_a0 (by decide) hq0)) 9).trans kf_a0_9
  have z_laws : h_row I0 q19 (fun _ => 0) q3 = fun _ => 0 := (h_row_n (h_neq tq3 (by decide) hq0)).trans z_laws
  replace Ra0_0 := h_nwr (q := q19) (t := 1328) (f := fun _ => none) hq0 t_a0 (by decide) Ra0_0
  replace Ra0_10 := h_nwr (q := q19) (t := 1328) (f := fun _ => none) hq0 t_a0 (by decide) Ra0_10
  replace Ra0_11 := h_nwr (q := q19) (t := 1328) (f := fun _ => none) hq0 t_a0 (by decide) Ra0_11
  replace Ra0_14 := h_nwr (q := q19) (t := 1328) (f := fun _ => none) hq0 t_a0 (by decide) Ra0_14
  replace Ra0_15 := h_nwr (q := q19) (t := 1328) (f := fun _ => none) hq0 t_a0 (by decide) Ra0_15
  replace Ra0_16 := h_nwr (q := q19) (t := 1328) (f := fun _ => none) hq0 t_a0 (by decide) Ra0_16
  replace Ra0_17 := h_nwr (q := q19) (t := 1328) (f := fun _ => none) hq0 t_a0 (by decide) Ra0_17
  replace Ra0_18 := h_nwr (q := q19) (t := 1328) (f := fun _ => none) hq0 t_a0 (by decide) Ra0_18
  replace Ra0_19 := h_nwr (q := q19) (t := 1328) (f := fun _ => none) hq0 t_a0 (by decide) Ra0_19
  replace Ra0_20 := h_nwr (q := q19) (t := 1328) (f := fun _ => none) hq0 t_a0 (by decide) Ra0_20
  replace Ra0_21 := h_nwr (q := q19) (t := 1328) (f := fun _ => none) hq0 t_a0 (by decide) Ra0_21
  replace Ra0_22 := h_nwr (q := q19) (t := 1328) (f := fun _ => none) hq0 t_a0 (by decide) Ra0_22
  replace Ra0_23 := h_nwr (q := q19) (t := 1328) (f := fun _ => none) hq0 t_a0 (by decide) Ra0_23
  replace Ra0_24 := h_nwr (q := q19) (t := 1328) (f := fun _ => none) hq0 t_a0 (by decide) Ra0_24
  replace Ra0_25 := h_nwr (q := q19) (t := 1328) (f := fun _ => none) hq0 t_a0 (by decide) Ra0_25
  replace Ra0_26 := h_nwr (q := q19) (t := 1328) (f := fun _ => none) hq0 t_a0 (by decide) Ra0_26
  replace Ra0_27 := h_nwr (q := q19) (t := 1328) (f := fun _ => none) hq0 t_a0 (by decide) Ra0_27
  replace t_a0 := h_nwk (q := q19) (t := 1328) (f := fun _ => none) hq0 t_a0 (by decide)
  replace tq1 := h_nwk (q := q19) (t := 1328) (f := fun _ => none) hq0 tq1 (by decide)
  replace tq3 := h_nwk (q := q19) (t := 1328) (f := fun _ => none) hq0 tq3 (by decide)
  replace tq4 := h_nwk (q := q19) (t := 1328) (f := fun _ => none) hq0 tq4 (by decide)
  replace tq5 := h_nwk (q := q19) (t := 1328) (f := fun _ => none) hq0 tq5 (by decide)
  replace tq6 := h_nwk (q := q19) (t := 1328) (f := fun _ => none) hq0 tq6 (by decide)
  replace tq7 := h_nwk (q := q19) (t := 1328) (f := fun _ => none) hq0 tq7 (by decide)
  replace tq8 := h_nwk (q := q19) (t := 1328) (f := fun _ => none) hq0 tq8 (by decide)
  replace tq9 := h_nwk (q := q19) (t := 1328) (f := fun _ => none) hq0 tq9 (by decide)
  replace tq10 := h_nwk (q := q19) (t := 1328) (f := fun _ => none) hq0 tq10 (by decide)
  replace tq11 := h_nwk (q := q19) (t := 1328) (f := fun _ => none) hq0 tq11 (by decide)
  replace tq12 := h_nwk (q := q19) (t := 1328) (f := fun _ => none) hq0 tq12 (by decide)
  replace tq13 := h_nwk (q := q19) (t := 1328) (f := fun _ => none) hq0 tq13 (by decide)
  replace tq14 := h_nwk (q := q19) (t := 1328) (f := fun _ => none) hq0 tq14 (by decide)
  replace tq15 := h_nwk (q := q19) (t := 1328) (f := fun _ => none) hq0 tq15 (by decide)
  replace tq16 := h_nwk (q := q19) (t := 1328) (f := fun _ => none) hq0 tq16 (by decide)
  replace tq17 := h_nwk (q := q19) (t := 1328) (f := fun _ => none) hq0 tq17 (by decide)
  replace tq18 := h_nwk (q := q19) (t := 1328) (f := fun _ => none) hq0 tq18 (by decide)
  replace tq19 : (z.nw q19 1328 (fun _ => none)).ty q19 = 1328 := nw_te
  obtain ⟨z, ez⟩ : ∃ z1 : tZ, z1 = (z.nw q19 1328 (fun _ => none)) := ⟨_, rfl⟩
  rw [← ez] at g hI hR hZ hQ hu_q19 t_a0 tq1 tq3 tq4 tq5 tq6 tq7 tq8 tq9 tq10 tq11 tq12 tq13 tq14 tq15 tq16 tq17 tq18 tq19 Ra0_0 Ra0_10 Ra0_11 Ra0_14 Ra0_15 Ra0_16 Ra0_17 Ra0_18 Ra0_19 Ra0_20 Ra0_21 Ra0_22 Ra0_23 Ra0_24 Ra0_25 Ra0_26 Ra0_27
  clear ez
  obtain ⟨I0, eI⟩ : ∃ J : tI, J = h_row I0 q19 (fun _ => 0) := ⟨_, rfl⟩
  rw [← eI] at g hI hZ hQ hz kf_a0_9 z_laws
  clear eI
  replace hF : h_F [(1310, 999), (1325, 999), (1326, 999), (1328, 999), (62, 9)] z I0 I0 := h_F.rf
  refine W.cs (cells' := 18) (slots' := 1650) rfl rfl ?_
  replace kf_a0_9 : I0 a0 9 = (-1) := kf_a0_9
  replace hZ := hZ.tcall hF rfl
  replace hQ := hQ.tc hF rfl
  refine h_putR (ty := tyX12 28) (v := q19) hx hb hts iX12 tyX12 tyX12_ok nmX12 hown g t_a0 (by decide) so_62 rfl 28 (by decide) rfl (hts (.fieldLink RX12 67 "CapLeagueModel" "drawnOf" "[I") (by decide +kernel)) rfl rfl hin rfl (by decide +kernel) rfl rfl dX12_init_152 (fun H locs g => ?_)
  replace hQ := hQ.wR (a := a0) (k := 28) (v := q19) t_a0 (by decide) tq19 (by decide) (fun h9 => ⟨hu_q19, n_q19⟩)
  replace hR := hR.wR (k0 := 28) (v := some q19) t_a0 (fun _ => rfl)
  replace hZ := hZ.wR (a := a0) (k := 28) (v := some q19) (Or.inl rfl)
  replace hI : h_I (z.wR a0 28 (some q19)) I0 := hI
  replace t_a0 : (z.wR a0 28 (some q19)).ty a0 = 62 := t_a0
  replace tq1 : (z.wR a0 28 (some q19)).ty q1 = 1300 := tq1
  replace tq3 : (z.wR a0 28 (some q19)).ty q3 = 1310 := tq3
  replace tq4 : (z.wR a0 28 (some q19)).ty q4 = 1311 := tq4
  replace tq5 : (z.wR a0 28 (some q19)).ty q5 = 1314 := tq5
  replace tq6 : (z.wR a0 28 (some q19)).ty q6 = 1315 := tq6
  replace tq7 : (z.wR a0 28 (some q19)).ty q7 = 1316 := tq7
  replace tq8 : (z.wR a0 28 (some q19)).ty q8 = 1317 := tq8
  replace tq9 : (z.wR a0 28 (some q19)).ty q9 = 1318 := tq9
  replace tq10 : (z.wR a0 28 (some q19)).ty q10 = 1319 := tq10
  replace tq11 : (z.wR a0 28 (some q19)).ty q11 = 1320 := tq11
  replace tq12 : (z.wR a0 28 (some q19)).ty q12 = 1321 := tq12
  replace tq13 : (z.wR a0 28 (some q19)).ty q13 = 1322 := tq13
  replace tq14 : (z.wR a0 28 (some q19)).ty q14 = 1323 := tq14
  replace tq15 : (z.wR a0 28 (some q19)).ty q15 = 1324 := tq15
  replace tq16 : (z.wR a0 28 (some q19)).ty q16 = 1325 := tq16
  replace tq17 : (z.wR a0 28 (some q19)).ty q17 = 1326 := tq17
  replace tq18 : (z.wR a0 28 (some q19)).ty q18 = 1327 := tq18
  replace tq19 : (z.wR a0 28 (some q19)).ty q19 = 1328 := tq19
  replace Ra0_0 : (z.wR a0 28 (some q19)).R a0 0 = some q1 := (h_up_at (by decide)).trans Ra0_0
  replace Ra0_10 : (z.wR a0 28 (some q19)).R a0 10 = some q3 := (h_up_at (by decide)).trans Ra0_10
  replace Ra0_11 : (z.wR a0 28 (some q19)).R a0 11 = some q4 := (h_up_at (by decide)).trans Ra0_11
  replace Ra0_14 : (z.wR a0 28 (some q19)).R a0 14 = some q5 := (h_up_at (by decide)).trans Ra0_14
  replace Ra0_15 : (z.wR a0 28 (some q19)).R a0 15 = some q6 := (h_up_at (by decide)).trans Ra0_15
  replace Ra0_16 : (z.wR a0 28 (some q19)).R a0 16 = some q7 := (h_up_at (by decide)).trans Ra0_16
  replace Ra0_17 : (z.wR a0 28 (some q19)).R a0 17 = some q8 := (h_up_at (by decide)).trans Ra0_17
  replace Ra0_18 : (z.wR a0 28 (some q19)).R a0 18 = some q9 := (h_up_at (by decide)).trans Ra0_18
  replace Ra0_19 : (z.wR a0 28 (some q19)).R a0 19 = some q10 := (h_up_at (by decide)).trans Ra0_19
  replace Ra0_20 : (z.wR a0 28 (some q19)).R a0 20 = some q11 := (h_up_at (by decide)).trans Ra0_20
  replace Ra0_21 : (z.wR a0 28 (some q19)).R a0 21 = some q12 := (h_up_at (by decide)).trans Ra0_21
  replace Ra0_22 : (z.wR a0 28 (some q19)).R a0 22 = some q13 := (h_up_at (by decide)).trans Ra0_22
  replace Ra0_23 : (z.wR a0 28 (some q19)).R a0 23 = some q14 := (h_up_at (by decide)).trans Ra0_23
  replace Ra0_24 : (z.wR a0 28 (some q19)).R a0 24 = some q15 := (h_up_at (by decide)).trans Ra0_24
  replace Ra0_25 : (z.wR a0 28 (some q19)).R a0 25 = some q16 := (h_up_at (by decide)).trans Ra0_25
  replace Ra0_26 : (z.wR a0 28 (some q19)).R a0 26 = some q17 := (h_up_at (by decide)).trans Ra0_26
  replace Ra0_27 : (z.wR a0 28 (some q19)).R a0 27 = some q18 := (h_up_at (by decide)).trans Ra0_27
  replace Ra0_28 : (z.wR a0 28 (some q19)).R a0 28 = some q19 := h_up_eq
  obtain ⟨z, ez⟩ : ∃ z1 : tZ, z1 = (z.wR a0 28 (some q19)) := ⟨_, rfl⟩
  rw [← ez] at g hI hR hZ hQ t_a0 tq1 tq3 tq4 tq5 tq6 tq7 tq8 tq9 tq10 tq11 tq12 tq13 tq14 tq15 tq16 tq17 tq18 tq19 Ra0_0 Ra0_10 Ra0_11 Ra0_14 Ra0_15 Ra0_16 Ra0_17 Ra0_18 Ra0_19 Ra0_20 Ra0_21 Ra0_22 Ra0_23 Ra0_24 Ra0_25 Ra0_26 Ra0_27 Ra0_28
  clear ez
  replace hF : h_F [(1310, 999), (1325, 999), (1326, 999), (1328, 999), (62, 9)] z I0 I0 := h_F.rf
  refine lv_aload_n hx hb dX12_init_155 rfl (lv_at hl 0 rfl) ?_
  refine lv_bipush (v := 80) hx hb dX12_init_156 (by decide) ?_
  replace kf_a0_9 : I0 a0 9 = (-1) := kf_a0_9
  replace hZ := hZ.tcall hF rfl
  replace hQ := hQ.tc hF rfl
  refine h_newI hx hb (hts (.arrayClass .int) (by decide +kernel)) g hA so_1329 (by decide) (by decide) (by decide) (Nat.le_of_ble_eq_true rfl) (Nat.le_of_ble_eq_true rfl) dX12_init_158 (fun q20 H hq0 g => ?_)
  have n_q20 := hZ.fresh hq0 (fun h => h_neq t_a0 (by decide) hq0 (Option.some.inj h).symm)
  replace hu_q20 := hQ.1.u (q := q20) (t := 1329) hq0
  replace hQ := hQ.nw (q := q20) (t := 1329) hq0 (by decide)
  replace hI := hI.nw (q := q20) (t := 1329) (f := fun _ => none)
  replace hR := hR.nw (q := q20) (t := 1329) (f := fun _ => none) hq0 (fun k t2 n2 h => by cases (show (none : Option (Nat × Bool)) = some (t2, n2) from h))
  replace hZ := hZ.nw (q := q20) (t := 1329) (f := fun _ => none) hq0 (L2 := L0) (fun _ _ => rfl)
  replace hz : h_row I0 q20 (fun _ => 0) a0 = (fun j => if j = 9 then (-1) else (fun _ => 0) j) := (h_row_n (h_neq t_a0 (by decide) hq0)).trans hz
  replace kf_a0_9 : h_row I0 q20 (fun _ => 0) a0 9 = (-1) := (congrFun (h_row_n (h_neq t_a0 (by decide) hq0)) 9).trans kf_a0_9
  have z_laws : h_row I0 q20 (fun _ => 0) q3 = fun _ => 0 := (h_row_n (h_neq tq3 (by decide) hq0)).trans z_laws
  replace Ra0_0 := h_nwr (q := q20) (t := 1329) (f := fun _ => none) hq0 t_a0 (by decide) Ra0_0
  replace Ra0_10 := h_nwr (q := q20) (t := 1329) (f := fun _ => none) hq0 t_a0 (by decide) Ra0_10
  replace Ra0_11 := h_nwr (q := q20) (t := 1329) (f := fun _ => none) hq0 t_a0 (by decide) Ra0_11
  replace Ra0_14 := h_nwr (q := q20) (t := 1329) (f := fun _ => none) hq0 t_a0 (by decide) Ra0_14
  replace Ra0_15 := h_nwr (q := q20) (t := 1329) (f := fun _ => none) hq0 t_a0 (by decide) Ra0_15
  replace Ra0_16 := h_nwr (q := q20) (t := 1329) (f := fun _ => none) hq0 t_a0 (by decide) Ra0_16
  replace Ra0_17 := h_nwr (q := q20) (t := 1329) (f := fun _ => none) hq0 t_a0 (by decide) Ra0_17
  replace Ra0_18 := h_nwr (q := q20) (t := 1329) (f := fun _ => none) hq0 t_a0 (by decide) Ra0_18
  replace Ra0_19 := h_nwr (q := q20) (t := 1329) (f := fun _ => none) hq0 t_a0 (by decide) Ra0_19
  replace Ra0_20 := h_nwr (q := q20) (t := 1329) (f := fun _ => none) hq0 t_a0 (by decide) Ra0_20
  replace Ra0_21 := h_nwr (q := q20) (t := 1329) (f := fun _ => none) hq0 t_a0 (by decide) Ra0_21
  replace Ra0_22 := h_nwr (q := q20) (t := 1329) (f := fun _ => none) hq0 t_a0 (by decide) Ra0_22
  replace Ra0_23 := h_nwr (q := q20) (t := 1329) (f := fun _ => none) hq0 t_a0 (by decide) Ra0_23
  replace Ra0_24 := h_nwr (q := q20) (t := 1329) (f := fun _ => none) hq0 t_a0 (by decide) Ra0_24
  replace Ra0_25 := h_nwr (q := q20) (t := 1329) (f := fun _ => none) hq0 t_a0 (by decide) Ra0_25
  replace Ra0_26 := h_nwr (q := q20) (t := 1329) (f := fun _ => none) hq0 t_a0 (by decide) Ra0_26
  replace Ra0_27 := h_nwr (q := q20) (t := 1329) (f := fun _ => none) hq0 t_a0 (by decide) Ra0_27
  replace Ra0_28 := h_nwr (q := q20) (t := 1329) (f := fun _ => none) hq0 t_a0 (by decide) Ra0_28
  replace t_a0 := h_nwk (q := q20) (t := 1329) (f := fun _ => none) hq0 t_a0 (by decide)
  replace tq1 := h_nwk (q := q20) (t := 1329) (f := fun _ => none) hq0 tq1 (by decide)
  replace tq3 := h_nwk (q := q20) (t := 1329) (f := fun _ => none) hq0 tq3 (by decide)
  replace tq4 := h_nwk (q := q20) (t := 1329) (f := fun _ => none) hq0 tq4 (by decide)
  replace tq5 := h_nwk (q := q20) (t := 1329) (f := fun _ => none) hq0 tq5 (by decide)
  replace tq6 := h_nwk (q := q20) (t := 1329) (f := fun _ => none) hq0 tq6 (by decide)
  replace tq7 := h_nwk (q := q20) (t := 1329) (f := fun _ => none) hq0 tq7 (by decide)
  replace tq8 := h_nwk (q := q20) (t := 1329) (f := fun _ => none) hq0 tq8 (by decide)
  replace tq9 := h_nwk (q := q20) (t := 1329) (f := fun _ => none) hq0 tq9 (by decide)
  replace tq10 := h_nwk (q := q20) (t := 1329) (f := fun _ => none) hq0 tq10 (by decide)
  replace tq11 := h_nwk (q := q20) (t := 1329) (f := fun _ => none) hq0 tq11 (by decide)
  replace tq12 := h_nwk (q := q20) (t := 1329) (f := fun _ => none) hq0 tq12 (by decide)
  replace tq13 := h_nwk (q := q20) (t := 1329) (f := fun _ => none) hq0 tq13 (by decide)
  replace tq14 := h_nwk (q := q20) (t := 1329) (f := fun _ => none) hq0 tq14 (by decide)
  replace tq15 := h_nwk (q := q20) (t := 1329) (f := fun _ => none) hq0 tq15 (by decide)
  replace tq16 := h_nwk (q := q20) (t := 1329) (f := fun _ => none) hq0 tq16 (by decide)
  replace tq17 := h_nwk (q := q20) (t := 1329) (f := fun _ => none) hq0 tq17 (by decide)
  replace tq18 := h_nwk (q := q20) (t := 1329) (f := fun _ => none) hq0 tq18 (by decide)
  replace tq19 := h_nwk (q := q20) (t := 1329) (f := fun _ => none) hq0 tq19 (by decide)
  replace tq20 : (z.nw q20 1329 (fun _ => none)).ty q20 = 1329 := nw_te
  obtain ⟨z, ez⟩ : ∃ z1 : tZ, z1 = (z.nw q20 1329 (fun _ => none)) := ⟨_, rfl⟩
  rw [← ez] at g hI hR hZ hQ hu_q20 t_a0 tq1 tq3 tq4 tq5 tq6 tq7 tq8 tq9 tq10 tq11 tq12 tq13 tq14 tq15 tq16 tq17 tq18 tq19 tq20 Ra0_0 Ra0_10 Ra0_11 Ra0_14 Ra0_15 Ra0_16 Ra0_17 Ra0_18 Ra0_19 Ra0_20 Ra0_21 Ra0_22 Ra0_23 Ra0_24 Ra0_25 Ra0_26 Ra0_27 Ra0_28
  clear ez
  obtain ⟨I0, eI⟩ : ∃ J : tI, J = h_row I0 q20 (fun _ => 0) := ⟨_, rfl⟩
  rw [← eI] at g hI hZ hQ hz kf_a0_9 z_laws
  clear eI
  replace hF : h_F [(1310, 999), (1325, 999), (1326, 999), (1328, 999), (62, 9)] z I0 I0 := h_F.rf
  refine W.cs (cells' := 19) (slots' := 1730) rfl rfl ?_
  replace kf_a0_9 : I0 a0 9 = (-1) := kf_a0_9
  replace hZ := hZ.tcall hF rfl
  replace hQ := hQ.tc hF rfl
  refine h_putR (ty := tyX12 29) (v := q20) hx hb hts iX12 tyX12 tyX12_ok nmX12 hown g t_a0 (by decide) so_62 rfl 29 (by decide) rfl (hts (.fieldLink RX12 70 "CapLeagueModel" "drawnTo" "[I") (by decide +kernel)) rfl rfl hin rfl (by decide +kernel) rfl rfl dX12_init_160 (fun H locs g => ?_)
  replace hQ := hQ.wR (a := a0) (k := 29) (v := q20) t_a0 (by decide) tq20 (by decide) (fun h9 => ⟨hu_q20, n_q20⟩)
  replace hR := hR.wR (k0 := 29) (v := some q20) t_a0 (fun _ => rfl)
  replace hZ := hZ.wR (a := a0) (k := 29) (v := some q20) (Or.inl rfl)
  replace hI : h_I (z.wR a0 29 (some q20)) I0 := hI
  replace t_a0 : (z.wR a0 29 (some q20)).ty a0 = 62 := t_a0
  replace tq1 : (z.wR a0 29 (some q20)).ty q1 = 1300 := tq1
  replace tq3 : (z.wR a0 29 (some q20)).ty q3 = 1310 := tq3
  replace tq4 : (z.wR a0 29 (some q20)).ty q4 = 1311 := tq4
  replace tq5 : (z.wR a0 29 (some q20)).ty q5 = 1314 := tq5
  replace tq6 : (z.wR a0 29 (some q20)).ty q6 = 1315 := tq6
  replace tq7 : (z.wR a0 29 (some q20)).ty q7 = 1316 := tq7
  replace tq8 : (z.wR a0 29 (some q20)).ty q8 = 1317 := tq8
  replace tq9 : (z.wR a0 29 (some q20)).ty q9 = 1318 := tq9
  replace tq10 : (z.wR a0 29 (some q20)).ty q10 = 1319 := tq10
  replace tq11 : (z.wR a0 29 (some q20)).ty q11 = 1320 := tq11
  replace tq12 : (z.wR a0 29 (some q20)).ty q12 = 1321 := tq12
  replace tq13 : (z.wR a0 29 (some q20)).ty q13 = 1322 := tq13
  replace tq14 : (z.wR a0 29 (some q20)).ty q14 = 1323 := tq14
  replace tq15 : (z.wR a0 29 (some q20)).ty q15 = 1324 := tq15
  replace tq16 : (z.wR a0 29 (some q20)).ty q16 = 1325 := tq16
  replace tq17 : (z.wR a0 29 (some q20)).ty q17 = 1326 := tq17
  replace tq18 : (z.wR a0 29 (some q20)).ty q18 = 1327 := tq18
  replace tq19 : (z.wR a0 29 (some q20)).ty q19 = 1328 := tq19
  replace tq20 : (z.wR a0 29 (some q20)).ty q20 = 1329 := tq20
  replace Ra0_0 : (z.wR a0 29 (some q20)).R a0 0 = some q1 := (h_up_at (by decide)).trans Ra0_0
  replace Ra0_10 : (z.wR a0 29 (some q20)).R a0 10 = some q3 := (h_up_at (by decide)).trans Ra0_10
  replace Ra0_11 : (z.wR a0 29 (some q20)).R a0 11 = some q4 := (h_up_at (by decide)).trans Ra0_11
  replace Ra0_14 : (z.wR a0 29 (some q20)).R a0 14 = some q5 := (h_up_at (by decide)).trans Ra0_14
  replace Ra0_15 : (z.wR a0 29 (some q20)).R a0 15 = some q6 := (h_up_at (by decide)).trans Ra0_15
  replace Ra0_16 : (z.wR a0 29 (some q20)).R a0 16 = some q7 := (h_up_at (by decide)).trans Ra0_16
  replace Ra0_17 : (z.wR a0 29 (some q20)).R a0 17 = some q8 := (h_up_at (by decide)).trans Ra0_17
  replace Ra0_18 : (z.wR a0 29 (some q20)).R a0 18 = some q9 := (h_up_at (by decide)).trans Ra0_18
  replace Ra0_19 : (z.wR a0 29 (some q20)).R a0 19 = some q10 := (h_up_at (by decide)).trans Ra0_19
  replace Ra0_20 : (z.wR a0 29 (some q20)).R a0 20 = some q11 := (h_up_at (by decide)).trans Ra0_20
  replace Ra0_21 : (z.wR a0 29 (some q20)).R a0 21 = some q12 := (h_up_at (by decide)).trans Ra0_21
  replace Ra0_22 : (z.wR a0 29 (some q20)).R a0 22 = some q13 := (h_up_at (by decide)).trans Ra0_22
  replace Ra0_23 : (z.wR a0 29 (some q20)).R a0 23 = some q14 := (h_up_at (by decide)).trans Ra0_23
  replace Ra0_24 : (z.wR a0 29 (some q20)).R a0 24 = some q15 := (h_up_at (by decide)).trans Ra0_24
  replace Ra0_25 : (z.wR a0 29 (some q20)).R a0 25 = some q16 := (h_up_at (by decide)).trans Ra0_25
  replace Ra0_26 : (z.wR a0 29 (some q20)).R a0 26 = some q17 := (h_up_at (by decide)).trans Ra0_26
  replace Ra0_27 : (z.wR a0 29 (some q20)).R a0 27 = some q18 := (h_up_at (by decide)).trans Ra0_27
  replace Ra0_28 : (z.wR a0 29 (some q20)).R a0 28 = some q19 := (h_up_at (by decide)).trans Ra0_28
  replace Ra0_29 : (z.wR a0 29 (some q20)).R a0 29 = some q20 := h_up_eq
  obtain ⟨z, ez⟩ : ∃ z1 : tZ, z1 = (z.wR a0 29 (some q20)) := ⟨_, rfl⟩
  rw [← ez] at g hI hR hZ hQ t_a0 tq1 tq3 tq4 tq5 tq6 tq7 tq8 tq9 tq10 tq11 tq12 tq13 tq14 tq15 tq16 tq17 tq18 tq19 tq20 Ra0_0 Ra0_10 Ra0_11 Ra0_14 Ra0_15 Ra0_16 Ra0_17 Ra0_18 Ra0_19 Ra0_20 Ra0_21 Ra0_22 Ra0_23 Ra0_24 Ra0_25 Ra0_26 Ra0_27 Ra0_28 Ra0_29
  clear ez
  replace hF : h_F [(1310, 999), (1325, 999), (1326, 999), (1328, 999), (62, 9)] z I0 I0 := h_F.rf
  refine lv_aload_n hx hb dX12_init_163 rfl (lv_at hl 0 rfl) ?_
  refine lv_bipush (v := 8) hx hb dX12_init_164 (by decide) ?_
  replace kf_a0_9 : I0 a0 9 = (-1) := kf_a0_9
  replace hZ := hZ.tcall hF rfl
  replace hQ := hQ.tc hF rfl
  refine h_newI hx hb (hts (.arrayClass .int) (by decide +kernel)) g hA so_1332 (by decide) (by decide) (by decide) (Nat.le_of_ble_eq_true rfl) (Nat.le_of_ble_eq_true rfl) dX12_init_166 (fun q21 H hq0 g => ?_)
  have n_q21 := hZ.fresh hq0 (fun h => h_neq t_a0 (by decide) hq0 (Option.some.inj h).symm)
  replace hu_q21 := hQ.1.u (q := q21) (t := 1332) hq0
  replace hQ := hQ.nw (q := q21) (t := 1332) hq0 (by decide)
  replace hI := hI.nw (q := q21) (t := 1332) (f := fun _ => none)
  replace hR := hR.nw (q := q21) (t := 1332) (f := fun _ => none) hq0 (fun k t2 n2 h => by cases (show (none : Option (Nat × Bool)) = some (t2, n2) from h))
  replace hZ := hZ.nw (q := q21) (t := 1332) (f := fun _ => none) hq0 (L2 := L0) (fun _ _ => rfl)
  replace hz : h_row I0 q21 (fun _ => 0) a0 = (fun j => if j = 9 then (-1) else (fun _ => 0) j) := (h_row_n (h_neq t_a0 (by decide) hq0)).trans hz
  replace kf_a0_9 : h_row I0 q21 (fun _ => 0) a0 9 = (-1) := (congrFun (h_row_n (h_neq t_a0 (by decide) hq0)) 9).trans kf_a0_9
  have z_laws : h_row I0 q21 (fun _ => 0) q3 = fun _ => 0 := (h_row_n (h_neq tq3 (by decide) hq0)).trans z_laws
  replace Ra0_0 := h_nwr (q := q21) (t := 1332) (f := fun _ => none) hq0 t_a0 (by decide) Ra0_0
  replace Ra0_10 := h_nwr (q := q21) (t := 1332) (f := fun _ => none) hq0 t_a0 (by decide) Ra0_10
  replace Ra0_11 := h_nwr (q := q21) (t := 1332) (f := fun _ => none) hq0 t_a0 (by decide) Ra0_11
  replace Ra0_14 := h_nwr (q := q21) (t := 1332) (f := fun _ => none) hq0 t_a0 (by decide) Ra0_14
  replace Ra0_15 := h_nwr (q := q21) (t := 1332) (f := fun _ => none) hq0 t_a0 (by decide) Ra0_15
  replace Ra0_16 := h_nwr (q := q21) (t := 1332) (f := fun _ => none) hq0 t_a0 (by decide) Ra0_16
  replace Ra0_17 := h_nwr (q := q21) (t := 1332) (f := fun _ => none) hq0 t_a0 (by decide) Ra0_17
  replace Ra0_18 := h_nwr (q := q21) (t := 1332) (f := fun _ => none) hq0 t_a0 (by decide) Ra0_18
  replace Ra0_19 := h_nwr (q := q21) (t := 1332) (f := fun _ => none) hq0 t_a0 (by decide) Ra0_19
  replace Ra0_20 := h_nwr (q := q21) (t := 1332) (f := fun _ => none) hq0 t_a0 (by decide) Ra0_20
  replace Ra0_21 := h_nwr (q := q21) (t := 1332) (f := fun _ => none) hq0 t_a0 (by decide) Ra0_21
  replace Ra0_22 := h_nwr (q := q21) (t := 1332) (f := fun _ => none) hq0 t_a0 (by decide) Ra0_22
  replace Ra0_23 := h_nwr (q := q21) (t := 1332) (f := fun _ => none) hq0 t_a0 (by decide) Ra0_23
  replace Ra0_24 := h_nwr (q := q21) (t := 1332) (f := fun _ => none) hq0 t_a0 (by decide) Ra0_24
  replace Ra0_25 := h_nwr (q := q21) (t := 1332) (f := fun _ => none) hq0 t_a0 (by decide) Ra0_25
  replace Ra0_26 := h_nwr (q := q21) (t := 1332) (f := fun _ => none) hq0 t_a0 (by decide) Ra0_26
  replace Ra0_27 := h_nwr (q := q21) (t := 1332) (f := fun _ => none) hq0 t_a0 (by decide) Ra0_27
  replace Ra0_28 := h_nwr (q := q21) (t := 1332) (f := fun _ => none) hq0 t_a0 (by decide) Ra0_28
  replace Ra0_29 := h_nwr (q := q21) (t := 1332) (f := fun _ => none) hq0 t_a0 (by decide) Ra0_29
  replace t_a0 := h_nwk (q := q21) (t := 1332) (f := fun _ => none) hq0 t_a0 (by decide)
  replace tq1 := h_nwk (q := q21) (t := 1332) (f := fun _ => none) hq0 tq1 (by decide)
  replace tq3 := h_nwk (q := q21) (t := 1332) (f := fun _ => none) hq0 tq3 (by decide)
  replace tq4 := h_nwk (q := q21) (t := 1332) (f := fun _ => none) hq0 tq4 (by decide)
  replace tq5 := h_nwk (q := q21) (t := 1332) (f := fun _ => none) hq0 tq5 (by decide)
  replace tq6 := h_nwk (q := q21) (t := 1332) (f := fun _ => none) hq0 tq6 (by decide)
  replace tq7 := h_nwk (q := q21) (t := 1332) (f := fun _ => none) hq0 tq7 (by decide)
  replace tq8 := h_nwk (q := q21) (t := 1332) (f := fun _ => none) hq0 tq8 (by decide)
  replace tq9 := h_nwk (q := q21) (t := 1332) (f := fun _ => none) hq0 tq9 (by decide)
  replace tq10 := h_nwk (q := q21) (t := 1332) (f := fun _ => none) hq0 tq10 (by decide)
  replace tq11 := h_nwk (q := q21) (t := 1332) (f := fun _ => none) hq0 tq11 (by decide)
  replace tq12 := h_nwk (q := q21) (t := 1332) (f := fun _ => none) hq0 tq12 (by decide)
  replace tq13 := h_nwk (q := q21) (t := 1332) (f := fun _ => none) hq0 tq13 (by decide)
  replace tq14 := h_nwk (q := q21) (t := 1332) (f := fun _ => none) hq0 tq14 (by decide)
  replace tq15 := h_nwk (q := q21) (t := 1332) (f := fun _ => none) hq0 tq15 (by decide)
  replace tq16 := h_nwk (q := q21) (t := 1332) (f := fun _ => none) hq0 tq16 (by decide)
  replace tq17 := h_nwk (q := q21) (t := 1332) (f := fun _ => none) hq0 tq17 (by decide)
  replace tq18 := h_nwk (q := q21) (t := 1332) (f := fun _ => none) hq0 tq18 (by decide)
  replace tq19 := h_nwk (q := q21) (t := 1332) (f := fun _ => none) hq0 tq19 (by decide)
  replace tq20 := h_nwk (q := q21) (t := 1332) (f := fun _ => none) hq0 tq20 (by decide)
  replace tq21 : (z.nw q21 1332 (fun _ => none)).ty q21 = 1332 := nw_te
  obtain ⟨z, ez⟩ : ∃ z1 : tZ, z1 = (z.nw q21 1332 (fun _ => none)) := ⟨_, rfl⟩
  rw [← ez] at g hI hR hZ hQ hu_q21 t_a0 tq1 tq3 tq4 tq5 tq6 tq7 tq8 tq9 tq10 tq11 tq12 tq13 tq14 tq15 tq16 tq17 tq18 tq19 tq20 tq21 Ra0_0 Ra0_10 Ra0_11 Ra0_14 Ra0_15 Ra0_16 Ra0_17 Ra0_18 Ra0_19 Ra0_20 Ra0_21 Ra0_22 Ra0_23 Ra0_24 Ra0_25 Ra0_26 Ra0_27 Ra0_28 Ra0_29
  clear ez
  obtain ⟨I0, eI⟩ : ∃ J : tI, J = h_row I0 q21 (fun _ => 0) := ⟨_, rfl⟩
  rw [← eI] at g hI hZ hQ hz kf_a0_9 z_laws
  clear eI
  replace hF : h_F [(1310, 999), (1325, 999), (1326, 999), (1328, 999), (62, 9)] z I0 I0 := h_F.rf
  refine W.cs (cells' := 20) (slots' := 1738) rfl rfl ?_
  replace kf_a0_9 : I0 a0 9 = (-1) := kf_a0_9
  replace hZ := hZ.tcall hF rfl
  replace hQ := hQ.tc hF rfl
  refine h_putR (ty := tyX12 32) (v := q21) hx hb hts iX12 tyX12 tyX12_ok nmX12 hown g t_a0 (by decide) so_62 rfl 32 (by decide) rfl (hts (.fieldLink RX12 73 "CapLeagueModel" "table" "[I") (by decide +kernel)) rfl rfl hin rfl (by decide +kernel) rfl rfl dX12_init_168 (fun H locs g => ?_)
  replace hQ := hQ.wR (a := a0) (k := 32) (v := q21) t_a0 (by decide) tq21 (by decide) (fun h9 => ⟨hu_q21, n_q21⟩)
  replace hR := hR.wR (k0 := 32) (v := some q21) t_a0 (fun _ => rfl)
  replace hZ := hZ.wR (a := a0) (k := 32) (v := some q21) (Or.inl rfl)
  replace hI : h_I (z.wR a0 32 (some q21)) I0 := hI
  replace t_a0 : (z.wR a0 32 (some q21)).ty a0 = 62 := t_a0
  replace tq1 : (z.wR a0 32 (some q21)).ty q1 = 1300 := tq1
  replace tq3 : (z.wR a0 32 (some q21)).ty q3 = 1310 := tq3
  replace tq4 : (z.wR a0 32 (some q21)).ty q4 = 1311 := tq4
  replace tq5 : (z.wR a0 32 (some q21)).ty q5 = 1314 := tq5
  replace tq6 : (z.wR a0 32 (some q21)).ty q6 = 1315 := tq6
  replace tq7 : (z.wR a0 32 (some q21)).ty q7 = 1316 := tq7
  replace tq8 : (z.wR a0 32 (some q21)).ty q8 = 1317 := tq8
  replace tq9 : (z.wR a0 32 (some q21)).ty q9 = 1318 := tq9
  replace tq10 : (z.wR a0 32 (some q21)).ty q10 = 1319 := tq10
  replace tq11 : (z.wR a0 32 (some q21)).ty q11 = 1320 := tq11
  replace tq12 : (z.wR a0 32 (some q21)).ty q12 = 1321 := tq12
  replace tq13 : (z.wR a0 32 (some q21)).ty q13 = 1322 := tq13
  replace tq14 : (z.wR a0 32 (some q21)).ty q14 = 1323 := tq14
  replace tq15 : (z.wR a0 32 (some q21)).ty q15 = 1324 := tq15
  replace tq16 : (z.wR a0 32 (some q21)).ty q16 = 1325 := tq16
  replace tq17 : (z.wR a0 32 (some q21)).ty q17 = 1326 := tq17
  replace tq18 : (z.wR a0 32 (some q21)).ty q18 = 1327 := tq18
  replace tq19 : (z.wR a0 32 (some q21)).ty q19 = 1328 := tq19
  replace tq20 : (z.wR a0 32 (some q21)).ty q20 = 1329 := tq20
  replace tq21 : (z.wR a0 32 (some q21)).ty q21 = 1332 := tq21
  replace Ra0_0 : (z.wR a0 32 (some q21)).R a0 0 = some q1 := (h_up_at (by decide)).trans Ra0_0
  replace Ra0_10 : (z.wR a0 32 (some q21)).R a0 10 = some q3 := (h_up_at (by decide)).trans Ra0_10
  replace Ra0_11 : (z.wR a0 32 (some q21)).R a0 11 = some q4 := (h_up_at (by decide)).trans Ra0_11
  replace Ra0_14 : (z.wR a0 32 (some q21)).R a0 14 = some q5 := (h_up_at (by decide)).trans Ra0_14
  replace Ra0_15 : (z.wR a0 32 (some q21)).R a0 15 = some q6 := (h_up_at (by decide)).trans Ra0_15
  replace Ra0_16 : (z.wR a0 32 (some q21)).R a0 16 = some q7 := (h_up_at (by decide)).trans Ra0_16
  replace Ra0_17 : (z.wR a0 32 (some q21)).R a0 17 = some q8 := (h_up_at (by decide)).trans Ra0_17
  replace Ra0_18 : (z.wR a0 32 (some q21)).R a0 18 = some q9 := (h_up_at (by decide)).trans Ra0_18
  replace Ra0_19 : (z.wR a0 32 (some q21)).R a0 19 = some q10 := (h_up_at (by decide)).trans Ra0_19
  replace Ra0_20 : (z.wR a0 32 (some q21)).R a0 20 = some q11 := (h_up_at (by decide)).trans Ra0_20
  replace Ra0_21 : (z.wR a0 32 (some q21)).R a0 21 = some q12 := (h_up_at (by decide)).trans Ra0_21
  replace Ra0_22 : (z.wR a0 32 (some q21)).R a0 22 = some q13 := (h_up_at (by decide)).trans Ra0_22
  replace Ra0_23 : (z.wR a0 32 (some q21)).R a0 23 = some q14 := (h_up_at (by decide)).trans Ra0_23
  replace Ra0_24 : (z.wR a0 32 (some q21)).R a0 24 = some q15 := (h_up_at (by decide)).trans Ra0_24
  replace Ra0_25 : (z.wR a0 32 (some q21)).R a0 25 = some q16 := (h_up_at (by decide)).trans Ra0_25
  replace Ra0_26 : (z.wR a0 32 (some q21)).R a0 26 = some q17 := (h_up_at (by decide)).trans Ra0_26
  replace Ra0_27 : (z.wR a0 32 (some q21)).R a0 27 = some q18 := (h_up_at (by decide)).trans Ra0_27
  replace Ra0_28 : (z.wR a0 32 (some q21)).R a0 28 = some q19 := (h_up_at (by decide)).trans Ra0_28
  replace Ra0_29 : (z.wR a0 32 (some q21)).R a0 29 = some q20 := (h_up_at (by decide)).trans Ra0_29
  replace Ra0_32 : (z.wR a0 32 (some q21)).R a0 32 = some q21 := h_up_eq
  obtain ⟨z, ez⟩ : ∃ z1 : tZ, z1 = (z.wR a0 32 (some q21)) := ⟨_, rfl⟩
  rw [← ez] at g hI hR hZ hQ t_a0 tq1 tq3 tq4 tq5 tq6 tq7 tq8 tq9 tq10 tq11 tq12 tq13 tq14 tq15 tq16 tq17 tq18 tq19 tq20 tq21 Ra0_0 Ra0_10 Ra0_11 Ra0_14 Ra0_15 Ra0_16 Ra0_17 Ra0_18 Ra0_19 Ra0_20 Ra0_21 Ra0_22 Ra0_23 Ra0_24 Ra0_25 Ra0_26 Ra0_27 Ra0_28 Ra0_29 Ra0_32
  clear ez
  replace hF : h_F [(1310, 999), (1325, 999), (1326, 999), (1328, 999), (62, 9)] z I0 I0 := h_F.rf
  refine lv_aload_n hx hb dX12_init_171 rfl (lv_at hl 0 rfl) ?_
  refine lv_bipush (v := 12) hx hb dX12_init_172 (by decide) ?_
  replace kf_a0_9 : I0 a0 9 = (-1) := kf_a0_9
  replace hZ := hZ.tcall hF rfl
  replace hQ := hQ.tc hF rfl
  refine h_newI hx hb (hts (.arrayClass .int) (by decide +kernel)) g hA so_1334 (by decide) (by decide) (by decide) (Nat.le_of_ble_eq_true rfl) (Nat.le_of_ble_eq_true rfl) dX12_init_174 (fun q22 H hq0 g => ?_)
  have n_q22 := hZ.fresh hq0 (fun h => h_neq t_a0 (by decide) hq0 (Option.some.inj h).symm)
  replace hu_q22 := hQ.1.u (q := q22) (t := 1334) hq0
  replace hQ := hQ.nw (q := q22) (t := 1334) hq0 (by decide)
  replace hI := hI.nw (q := q22) (t := 1334) (f := fun _ => none)
  replace hR := hR.nw (q := q22) (t := 1334) (f := fun _ => none) hq0 (fun k t2 n2 h => by cases (show (none : Option (Nat × Bool)) = some (t2, n2) from h))
  replace hZ := hZ.nw (q := q22) (t := 1334) (f := fun _ => none) hq0 (L2 := L0) (fun _ _ => rfl)
  replace hz : h_row I0 q22 (fun _ => 0) a0 = (fun j => if j = 9 then (-1) else (fun _ => 0) j) := (h_row_n (h_neq t_a0 (by decide) hq0)).trans hz
  replace kf_a0_9 : h_row I0 q22 (fun _ => 0) a0 9 = (-1) := (congrFun (h_row_n (h_neq t_a0 (by decide) hq0)) 9).trans kf_a0_9
  have z_laws : h_row I0 q22 (fun _ => 0) q3 = fun _ => 0 := (h_row_n (h_neq tq3 (by decide) hq0)).trans z_laws
  replace Ra0_0 := h_nwr (q := q22) (t := 1334) (f := fun _ => none) hq0 t_a0 (by decide) Ra0_0
  replace Ra0_10 := h_nwr (q := q22) (t := 1334) (f := fun _ => none) hq0 t_a0 (by decide) Ra0_10
  replace Ra0_11 := h_nwr (q := q22) (t := 1334) (f := fun _ => none) hq0 t_a0 (by decide) Ra0_11
  replace Ra0_14 := h_nwr (q := q22) (t := 1334) (f := fun _ => none) hq0 t_a0 (by decide) Ra0_14
  replace Ra0_15 := h_nwr (q := q22) (t := 1334) (f := fun _ => none) hq0 t_a0 (by decide) Ra0_15
  replace Ra0_16 := h_nwr (q := q22) (t := 1334) (f := fun _ => none) hq0 t_a0 (by decide) Ra0_16
  replace Ra0_17 := h_nwr (q := q22) (t := 1334) (f := fun _ => none) hq0 t_a0 (by decide) Ra0_17
  replace Ra0_18 := h_nwr (q := q22) (t := 1334) (f := fun _ => none) hq0 t_a0 (by decide) Ra0_18
  replace Ra0_19 := h_nwr (q := q22) (t := 1334) (f := fun _ => none) hq0 t_a0 (by decide) Ra0_19
  replace Ra0_20 := h_nwr (q := q22) (t := 1334) (f := fun _ => none) hq0 t_a0 (by decide) Ra0_20
  replace Ra0_21 := h_nwr (q := q22) (t := 1334) (f := fun _ => none) hq0 t_a0 (by decide) Ra0_21
  replace Ra0_22 := h_nwr (q := q22) (t := 1334) (f := fun _ => none) hq0 t_a0 (by decide) Ra0_22
  replace Ra0_23 := h_nwr (q := q22) (t := 1334) (f := fun _ => none) hq0 t_a0 (by decide) Ra0_23
  replace Ra0_24 := h_nwr (q := q22) (t := 1334) (f := fun _ => none) hq0 t_a0 (by decide) Ra0_24
  replace Ra0_25 := h_nwr (q := q22) (t := 1334) (f := fun _ => none) hq0 t_a0 (by decide) Ra0_25
  replace Ra0_26 := h_nwr (q := q22) (t := 1334) (f := fun _ => none) hq0 t_a0 (by decide) Ra0_26
  replace Ra0_27 := h_nwr (q := q22) (t := 1334) (f := fun _ => none) hq0 t_a0 (by decide) Ra0_27
  replace Ra0_28 := h_nwr (q := q22) (t := 1334) (f := fun _ => none) hq0 t_a0 (by decide) Ra0_28
  replace Ra0_29 := h_nwr (q := q22) (t := 1334) (f := fun _ => none) hq0 t_a0 (by decide) Ra0_29
  replace Ra0_32 := h_nwr (q := q22) (t := 1334) (f := fun _ => none) hq0 t_a0 (by decide) Ra0_32
  replace t_a0 := h_nwk (q := q22) (t := 1334) (f := fun _ => none) hq0 t_a0 (by decide)
  replace tq1 := h_nwk (q := q22) (t := 1334) (f := fun _ => none) hq0 tq1 (by decide)
  replace tq3 := h_nwk (q := q22) (t := 1334) (f := fun _ => none) hq0 tq3 (by decide)
  replace tq4 := h_nwk (q := q22) (t := 1334) (f := fun _ => none) hq0 tq4 (by decide)
  replace tq5 := h_nwk (q := q22) (t := 1334) (f := fun _ => none) hq0 tq5 (by decide)
  replace tq6 := h_nwk (q := q22) (t := 1334) (f := fun _ => none) hq0 tq6 (by decide)
  replace tq7 := h_nwk (q := q22) (t := 1334) (f := fun _ => none) hq0 tq7 (by decide)
  replace tq8 := h_nwk (q := q22) (t := 1334) (f := fun _ => none) hq0 tq8 (by decide)
  replace tq9 := h_nwk (q := q22) (t := 1334) (f := fun _ => none) hq0 tq9 (by decide)
  replace tq10 := h_nwk (q := q22) (t := 1334) (f := fun _ => none) hq0 tq10 (by decide)
  replace tq11 := h_nwk (q := q22) (t := 1334) (f := fun _ => none) hq0 tq11 (by decide)
  replace tq12 := h_nwk (q := q22) (t := 1334) (f := fun _ => none) hq0 tq12 (by decide)
  replace tq13 := h_nwk (q := q22) (t := 1334) (f := fun _ => none) hq0 tq13 (by decide)
  replace tq14 := h_nwk (q := q22) (t := 1334) (f := fun _ => none) hq0 tq14 (by decide)
  replace tq15 := h_nwk (q := q22) (t := 1334) (f := fun _ => none) hq0 tq15 (by decide)
  replace tq16 := h_nwk (q := q22) (t := 1334) (f := fun _ => none) hq0 tq16 (by decide)
  replace tq17 := h_nwk (q := q22) (t := 1334) (f := fun _ => none) hq0 tq17 (by decide)
  replace tq18 := h_nwk (q := q22) (t := 1334) (f := fun _ => none) hq0 tq18 (by decide)
  replace tq19 := h_nwk (q := q22) (t := 1334) (f := fun _ => none) hq0 tq19 (by decide)
  replace tq20 := h_nwk (q := q22) (t := 1334) (f := fun _ => none) hq0 tq20 (by decide)
  replace tq21 := h_nwk (q := q22) (t := 1334) (f := fun _ => none) hq0 tq21 (by decide)
  replace tq22 : (z.nw q22 1334 (fun _ => none)).ty q22 = 1334 := nw_te
  obtain ⟨z, ez⟩ : ∃ z1 : tZ, z1 = (z.nw q22 1334 (fun _ => none)) := ⟨_, rfl⟩
  rw [← ez] at g hI hR hZ hQ hu_q22 t_a0 tq1 tq3 tq4 tq5 tq6 tq7 tq8 tq9 tq10 tq11 tq12 tq13 tq14 tq15 tq16 tq17 tq18 tq19 tq20 tq21 tq22 Ra0_0 Ra0_10 Ra0_11 Ra0_14 Ra0_15 Ra0_16 Ra0_17 Ra0_18 Ra0_19 Ra0_20 Ra0_21 Ra0_22 Ra0_23 Ra0_24 Ra0_25 Ra0_26 Ra0_27 Ra0_28 Ra0_29 Ra0_32
  clear ez
  obtain ⟨I0, eI⟩ : ∃ J : tI, J = h_row I0 q22 (fun _ => 0) := ⟨_, rfl⟩
  rw [← eI] at g hI hZ hQ hz kf_a0_9 z_laws
  clear eI
  replace hF : h_F [(1310, 999), (1325, 999), (1326, 999), (1328, 999), (62, 9)] z I0 I0 := h_F.rf
  refine W.cs (cells' := 21) (slots' := 1750) rfl rfl ?_
  replace kf_a0_9 : I0 a0 9 = (-1) := kf_a0_9
  replace hZ := hZ.tcall hF rfl
  replace hQ := hQ.tc hF rfl
  refine h_putR (ty := tyX12 34) (v := q22) hx hb hts iX12 tyX12 tyX12_ok nmX12 hown g t_a0 (by decide) so_62 rfl 34 (by decide) rfl (hts (.fieldLink RX12 76 "CapLeagueModel" "moved" "[I") (by decide +kernel)) rfl rfl hin rfl (by decide +kernel) rfl rfl dX12_init_176 (fun H locs g => ?_)
  replace hQ := hQ.wR (a := a0) (k := 34) (v := q22) t_a0 (by decide) tq22 (by decide) (fun h9 => ⟨hu_q22, n_q22⟩)
  replace hR := hR.wR (k0 := 34) (v := some q22) t_a0 (fun _ => rfl)
  replace hZ := hZ.wR (a := a0) (k := 34) (v := some q22) (Or.inl rfl)
  replace hI : h_I (z.wR a0 34 (some q22)) I0 := hI
  replace t_a0 : (z.wR a0 34 (some q22)).ty a0 = 62 := t_a0
  replace tq1 : (z.wR a0 34 (some q22)).ty q1 = 1300 := tq1
  replace tq3 : (z.wR a0 34 (some q22)).ty q3 = 1310 := tq3
  replace tq4 : (z.wR a0 34 (some q22)).ty q4 = 1311 := tq4
  replace tq5 : (z.wR a0 34 (some q22)).ty q5 = 1314 := tq5
  replace tq6 : (z.wR a0 34 (some q22)).ty q6 = 1315 := tq6
  replace tq7 : (z.wR a0 34 (some q22)).ty q7 = 1316 := tq7
  replace tq8 : (z.wR a0 34 (some q22)).ty q8 = 1317 := tq8
  replace tq9 : (z.wR a0 34 (some q22)).ty q9 = 1318 := tq9
  replace tq10 : (z.wR a0 34 (some q22)).ty q10 = 1319 := tq10
  replace tq11 : (z.wR a0 34 (some q22)).ty q11 = 1320 := tq11
  replace tq12 : (z.wR a0 34 (some q22)).ty q12 = 1321 := tq12
  replace tq13 : (z.wR a0 34 (some q22)).ty q13 = 1322 := tq13
  replace tq14 : (z.wR a0 34 (some q22)).ty q14 = 1323 := tq14
  replace tq15 : (z.wR a0 34 (some q22)).ty q15 = 1324 := tq15
  replace tq16 : (z.wR a0 34 (some q22)).ty q16 = 1325 := tq16
  replace tq17 : (z.wR a0 34 (some q22)).ty q17 = 1326 := tq17
  replace tq18 : (z.wR a0 34 (some q22)).ty q18 = 1327 := tq18
  replace tq19 : (z.wR a0 34 (some q22)).ty q19 = 1328 := tq19
  replace tq20 : (z.wR a0 34 (some q22)).ty q20 = 1329 := tq20
  replace tq21 : (z.wR a0 34 (some q22)).ty q21 = 1332 := tq21
  replace tq22 : (z.wR a0 34 (some q22)).ty q22 = 1334 := tq22
  replace Ra0_0 : (z.wR a0 34 (some q22)).R a0 0 = some q1 := (h_up_at (by decide)).trans Ra0_0
  replace Ra0_10 : (z.wR a0 34 (some q22)).R a0 10 = some q3 := (h_up_at (by decide)).trans Ra0_10
  replace Ra0_11 : (z.wR a0 34 (some q22)).R a0 11 = some q4 := (h_up_at (by decide)).trans Ra0_11
  replace Ra0_14 : (z.wR a0 34 (some q22)).R a0 14 = some q5 := (h_up_at (by decide)).trans Ra0_14
  replace Ra0_15 : (z.wR a0 34 (some q22)).R a0 15 = some q6 := (h_up_at (by decide)).trans Ra0_15
  replace Ra0_16 : (z.wR a0 34 (some q22)).R a0 16 = some q7 := (h_up_at (by decide)).trans Ra0_16
  replace Ra0_17 : (z.wR a0 34 (some q22)).R a0 17 = some q8 := (h_up_at (by decide)).trans Ra0_17
  replace Ra0_18 : (z.wR a0 34 (some q22)).R a0 18 = some q9 := (h_up_at (by decide)).trans Ra0_18
  replace Ra0_19 : (z.wR a0 34 (some q22)).R a0 19 = some q10 := (h_up_at (by decide)).trans Ra0_19
  replace Ra0_20 : (z.wR a0 34 (some q22)).R a0 20 = some q11 := (h_up_at (by decide)).trans Ra0_20
  replace Ra0_21 : (z.wR a0 34 (some q22)).R a0 21 = some q12 := (h_up_at (by decide)).trans Ra0_21
  replace Ra0_22 : (z.wR a0 34 (some q22)).R a0 22 = some q13 := (h_up_at (by decide)).trans Ra0_22
  replace Ra0_23 : (z.wR a0 34 (some q22)).R a0 23 = some q14 := (h_up_at (by decide)).trans Ra0_23
  replace Ra0_24 : (z.wR a0 34 (some q22)).R a0 24 = some q15 := (h_up_at (by decide)).trans Ra0_24
  replace Ra0_25 : (z.wR a0 34 (some q22)).R a0 25 = some q16 := (h_up_at (by decide)).trans Ra0_25
  replace Ra0_26 : (z.wR a0 34 (some q22)).R a0 26 = some q17 := (h_up_at (by decide)).trans Ra0_26
  replace Ra0_27 : (z.wR a0 34 (some q22)).R a0 27 = some q18 := (h_up_at (by decide)).trans Ra0_27
  replace Ra0_28 : (z.wR a0 34 (some q22)).R a0 28 = some q19 := (h_up_at (by decide)).trans Ra0_28
  replace Ra0_29 : (z.wR a0 34 (some q22)).R a0 29 = some q20 := (h_up_at (by decide)).trans Ra0_29
  replace Ra0_32 : (z.wR a0 34 (some q22)).R a0 32 = some q21 := (h_up_at (by decide)).trans Ra0_32
  replace Ra0_34 : (z.wR a0 34 (some q22)).R a0 34 = some q22 := h_up_eq
  obtain ⟨z, ez⟩ : ∃ z1 : tZ, z1 = (z.wR a0 34 (some q22)) := ⟨_, rfl⟩
  rw [← ez] at g hI hR hZ hQ t_a0 tq1 tq3 tq4 tq5 tq6 tq7 tq8 tq9 tq10 tq11 tq12 tq13 tq14 tq15 tq16 tq17 tq18 tq19 tq20 tq21 tq22 Ra0_0 Ra0_10 Ra0_11 Ra0_14 Ra0_15 Ra0_16 Ra0_17 Ra0_18 Ra0_19 Ra0_20 Ra0_21 Ra0_22 Ra0_23 Ra0_24 Ra0_25 Ra0_26 Ra0_27 Ra0_28 Ra0_29 Ra0_32 Ra0_34
  clear ez
  replace hF : h_F [(1310, 999), (1325, 999), (1326, 999), (1328, 999), (62, 9)] z I0 I0 := h_F.rf
  refine lv_aload_n hx hb dX12_init_179 rfl (lv_at hl 0 rfl) ?_
  refine lv_bipush (v := 12) hx hb dX12_init_180 (by decide) ?_
  replace kf_a0_9 : I0 a0 9 = (-1) := kf_a0_9
  replace hZ := hZ.tcall hF rfl
  replace hQ := hQ.tc hF rfl
  refine h_newI hx hb (hts (.arrayClass .int) (by decide +kernel)) g hA so_1335 (by decide) (by decide) (by decide) (Nat.le_of_ble_eq_true rfl) (Nat.le_of_ble_eq_true rfl) dX12_init_182 (fun q23 H hq0 g => ?_)
  have n_q23 := hZ.fresh hq0 (fun h => h_neq t_a0 (by decide) hq0 (Option.some.inj h).symm)
  replace hu_q23 := hQ.1.u (q := q23) (t := 1335) hq0
  replace hQ := hQ.nw (q := q23) (t := 1335) hq0 (by decide)
  replace hI := hI.nw (q := q23) (t := 1335) (f := fun _ => none)
  replace hR := hR.nw (q := q23) (t := 1335) (f := fun _ => none) hq0 (fun k t2 n2 h => by cases (show (none : Option (Nat × Bool)) = some (t2, n2) from h))
  replace hZ := hZ.nw (q := q23) (t := 1335) (f := fun _ => none) hq0 (L2 := L0) (fun _ _ => rfl)
  replace hz : h_row I0 q23 (fun _ => 0) a0 = (fun j => if j = 9 then (-1) else (fun _ => 0) j) := (h_row_n (h_neq t_a0 (by decide) hq0)).trans hz
  replace kf_a0_9 : h_row I0 q23 (fun _ => 0) a0 9 = (-1) := (congrFun (h_row_n (h_neq t_a0 (by decide) hq0)) 9).trans kf_a0_9
  have z_laws : h_row I0 q23 (fun _ => 0) q3 = fun _ => 0 := (h_row_n (h_neq tq3 (by decide) hq0)).trans z_laws
  replace Ra0_0 := h_nwr (q := q23) (t := 1335) (f := fun _ => none) hq0 t_a0 (by decide) Ra0_0
  replace Ra0_10 := h_nwr (q := q23) (t := 1335) (f := fun _ => none) hq0 t_a0 (by decide) Ra0_10
  replace Ra0_11 := h_nwr (q := q23) (t := 1335) (f := fun _ => none) hq0 t_a0 (by decide) Ra0_11
  replace Ra0_14 := h_nwr (q := q23) (t := 1335) (f := fun _ => none) hq0 t_a0 (by decide) Ra0_14
  replace Ra0_15 := h_nwr (q := q23) (t := 1335) (f := fun _ => none) hq0 t_a0 (by decide) Ra0_15
  replace Ra0_16 := h_nwr (q := q23) (t := 1335) (f := fun _ => none) hq0 t_a0 (by decide) Ra0_16
  replace Ra0_17 := h_nwr (q := q23) (t := 1335) (f := fun _ => none) hq0 t_a0 (by decide) Ra0_17
  replace Ra0_18 := h_nwr (q := q23) (t := 1335) (f := fun _ => none) hq0 t_a0 (by decide) Ra0_18
  replace Ra0_19 := h_nwr (q := q23) (t := 1335) (f := fun _ => none) hq0 t_a0 (by decide) Ra0_19
  replace Ra0_20 := h_nwr (q := q23) (t := 1335) (f := fun _ => none) hq0 t_a0 (by decide) Ra0_20
  replace Ra0_21 := h_nwr (q := q23) (t := 1335) (f := fun _ => none) hq0 t_a0 (by decide) Ra0_21
  replace Ra0_22 := h_nwr (q := q23) (t := 1335) (f := fun _ => none) hq0 t_a0 (by decide) Ra0_22
  replace Ra0_23 := h_nwr (q := q23) (t := 1335) (f := fun _ => none) hq0 t_a0 (by decide) Ra0_23
  replace Ra0_24 := h_nwr (q := q23) (t := 1335) (f := fun _ => none) hq0 t_a0 (by decide) Ra0_24
  replace Ra0_25 := h_nwr (q := q23) (t := 1335) (f := fun _ => none) hq0 t_a0 (by decide) Ra0_25
  replace Ra0_26 := h_nwr (q := q23) (t := 1335) (f := fun _ => none) hq0 t_a0 (by decide) Ra0_26
  replace Ra0_27 := h_nwr (q := q23) (t := 1335) (f := fun _ => none) hq0 t_a0 (by decide) Ra0_27
  replace Ra0_28 := h_nwr (q := q23) (t := 1335) (f := fun _ => none) hq0 t_a0 (by decide) Ra0_28
  replace Ra0_29 := h_nwr (q := q23) (t := 1335) (f := fun _ => none) hq0 t_a0 (by decide) Ra0_29
  replace Ra0_32 := h_nwr (q := q23) (t := 1335) (f := fun _ => none) hq0 t_a0 (by decide) Ra0_32
  replace Ra0_34 := h_nwr (q := q23) (t := 1335) (f := fun _ => none) hq0 t_a0 (by decide) Ra0_34
  replace t_a0 := h_nwk (q := q23) (t := 1335) (f := fun _ => none) hq0 t_a0 (by decide)
  replace tq1 := h_nwk (q := q23) (t := 1335) (f := fun _ => none) hq0 tq1 (by decide)
  replace tq3 := h_nwk (q := q23) (t := 1335) (f := fun _ => none) hq0 tq3 (by decide)
  replace tq4 := h_nwk (q := q23) (t := 1335) (f := fun _ => none) hq0 tq4 (by decide)
  replace tq5 := h_nwk (q := q23) (t := 1335) (f := fun _ => none) hq0 tq5 (by decide)
  replace tq6 := h_nwk (q := q23) (t := 1335) (f := fun _ => none) hq0 tq6 (by decide)
  replace tq7 := h_nwk (q := q23) (t := 1335) (f := fun _ => none) hq0 tq7 (by decide)
  replace tq8 := h_nwk (q := q23) (t := 1335) (f := fun _ => none) hq0 tq8 (by decide)
  replace tq9 := h_nwk (q := q23) (t := 1335) (f := fun _ => none) hq0 tq9 (by decide)
  replace tq10 := h_nwk (q := q23) (t := 1335) (f := fun _ => none) hq0 tq10 (by decide)
  replace tq11 := h_nwk (q := q23) (t := 1335) (f := fun _ => none) hq0 tq11 (by decide)
  replace tq12 := h_nwk (q := q23) (t := 1335) (f := fun _ => none) hq0 tq12 (by decide)
  replace tq13 := h_nwk (q := q23) (t := 1335) (f := fun _ => none) hq0 tq13 (by decide)
  replace tq14 := h_nwk (q := q23) (t := 1335) (f := fun _ => none) hq0 tq14 (by decide)
  replace tq15 := h_nwk (q := q23) (t := 1335) (f := fun _ => none) hq0 tq15 (by decide)
  replace tq16 := h_nwk (q := q23) (t := 1335) (f := fun _ => none) hq0 tq16 (by decide)
  replace tq17 := h_nwk (q := q23) (t := 1335) (f := fun _ => none) hq0 tq17 (by decide)
  replace tq18 := h_nwk (q := q23) (t := 1335) (f := fun _ => none) hq0 tq18 (by decide)
  replace tq19 := h_nwk (q := q23) (t := 1335) (f := fun _ => none) hq0 tq19 (by decide)
  replace tq20 := h_nwk (q := q23) (t := 1335) (f := fun _ => none) hq0 tq20 (by decide)
  replace tq21 := h_nwk (q := q23) (t := 1335) (f := fun _ => none) hq0 tq21 (by decide)
  replace tq22 := h_nwk (q := q23) (t := 1335) (f := fun _ => none) hq0 tq22 (by decide)
  replace tq23 : (z.nw q23 1335 (fun _ => none)).ty q23 = 1335 := nw_te
  obtain ⟨z, ez⟩ : ∃ z1 : tZ, z1 = (z.nw q23 1335 (fun _ => none)) := ⟨_, rfl⟩
  rw [← ez] at g hI hR hZ hQ hu_q23 t_a0 tq1 tq3 tq4 tq5 tq6 tq7 tq8 tq9 tq10 tq11 tq12 tq13 tq14 tq15 tq16 tq17 tq18 tq19 tq20 tq21 tq22 tq23 Ra0_0 Ra0_10 Ra0_11 Ra0_14 Ra0_15 Ra0_16 Ra0_17 Ra0_18 Ra0_19 Ra0_20 Ra0_21 Ra0_22 Ra0_23 Ra0_24 Ra0_25 Ra0_26 Ra0_27 Ra0_28 Ra0_29 Ra0_32 Ra0_34
  clear ez
  obtain ⟨I0, eI⟩ : ∃ J : tI, J = h_row I0 q23 (fun _ => 0) := ⟨_, rfl⟩
  rw [← eI] at g hI hZ hQ hz kf_a0_9 z_laws
  clear eI
  replace hF : h_F [(1310, 999), (1325, 999), (1326, 999), (1328, 999), (62, 9)] z I0 I0 := h_F.rf
  refine W.cs (cells' := 22) (slots' := 1762) rfl rfl ?_
  replace kf_a0_9 : I0 a0 9 = (-1) := kf_a0_9
  replace hZ := hZ.tcall hF rfl
  replace hQ := hQ.tc hF rfl
  refine h_putR (ty := tyX12 35) (v := q23) hx hb hts iX12 tyX12 tyX12_ok nmX12 hown g t_a0 (by decide) so_62 rfl 35 (by decide) rfl (hts (.fieldLink RX12 79 "CapLeagueModel" "from" "[I") (by decide +kernel)) rfl rfl hin rfl (by decide +kernel) rfl rfl dX12_init_184 (fun H locs g => ?_)
  replace hQ := hQ.wR (a := a0) (k := 35) (v := q23) t_a0 (by decide) tq23 (by decide) (fun h9 => ⟨hu_q23, n_q23⟩)
  replace hR := hR.wR (k0 := 35) (v := some q23) t_a0 (fun _ => rfl)
  replace hZ := hZ.wR (a := a0) (k := 35) (v := some q23) (Or.inl rfl)
  replace hI : h_I (z.wR a0 35 (some q23)) I0 := hI
  replace t_a0 : (z.wR a0 35 (some q23)).ty a0 = 62 := t_a0
  replace tq1 : (z.wR a0 35 (some q23)).ty q1 = 1300 := tq1
  replace tq3 : (z.wR a0 35 (some q23)).ty q3 = 1310 := tq3
  replace tq4 : (z.wR a0 35 (some q23)).ty q4 = 1311 := tq4
  replace tq5 : (z.wR a0 35 (some q23)).ty q5 = 1314 := tq5
  replace tq6 : (z.wR a0 35 (some q23)).ty q6 = 1315 := tq6
  replace tq7 : (z.wR a0 35 (some q23)).ty q7 = 1316 := tq7
  replace tq8 : (z.wR a0 35 (some q23)).ty q8 = 1317 := tq8
  replace tq9 : (z.wR a0 35 (some q23)).ty q9 = 1318 := tq9
  replace tq10 : (z.wR a0 35 (some q23)).ty q10 = 1319 := tq10
  replace tq11 : (z.wR a0 35 (some q23)).ty q11 = 1320 := tq11
  replace tq12 : (z.wR a0 35 (some q23)).ty q12 = 1321 := tq12
  replace tq13 : (z.wR a0 35 (some q23)).ty q13 = 1322 := tq13
  replace tq14 : (z.wR a0 35 (some q23)).ty q14 = 1323 := tq14
  replace tq15 : (z.wR a0 35 (some q23)).ty q15 = 1324 := tq15
  replace tq16 : (z.wR a0 35 (some q23)).ty q16 = 1325 := tq16
  replace tq17 : (z.wR a0 35 (some q23)).ty q17 = 1326 := tq17
  replace tq18 : (z.wR a0 35 (some q23)).ty q18 = 1327 := tq18
  replace tq19 : (z.wR a0 35 (some q23)).ty q19 = 1328 := tq19
  replace tq20 : (z.wR a0 35 (some q23)).ty q20 = 1329 := tq20
  replace tq21 : (z.wR a0 35 (some q23)).ty q21 = 1332 := tq21
  replace tq22 : (z.wR a0 35 (some q23)).ty q22 = 1334 := tq22
  replace tq23 : (z.wR a0 35 (some q23)).ty q23 = 1335 := tq23
  replace Ra0_0 : (z.wR a0 35 (some q23)).R a0 0 = some q1 := (h_up_at (by decide)).trans Ra0_0
  replace Ra0_10 : (z.wR a0 35 (some q23)).R a0 10 = some q3 := (h_up_at (by decide)).trans Ra0_10
  replace Ra0_11 : (z.wR a0 35 (some q23)).R a0 11 = some q4 := (h_up_at (by decide)).trans Ra0_11
  replace Ra0_14 : (z.wR a0 35 (some q23)).R a0 14 = some q5 := (h_up_at (by decide)).trans Ra0_14
  replace Ra0_15 : (z.wR a0 35 (some q23)).R a0 15 = some q6 := (h_up_at (by decide)).trans Ra0_15
  replace Ra0_16 : (z.wR a0 35 (some q23)).R a0 16 = some q7 := (h_up_at (by decide)).trans Ra0_16
  replace Ra0_17 : (z.wR a0 35 (some q23)).R a0 17 = some q8 := (h_up_at (by decide)).trans Ra0_17
  replace Ra0_18 : (z.wR a0 35 (some q23)).R a0 18 = some q9 := (h_up_at (by decide)).trans Ra0_18
  replace Ra0_19 : (z.wR a0 35 (some q23)).R a0 19 = some q10 := (h_up_at (by decide)).trans Ra0_19
  replace Ra0_20 : (z.wR a0 35 (some q23)).R a0 20 = some q11 := (h_up_at (by decide)).trans Ra0_20
  replace Ra0_21 : (z.wR a0 35 (some q23)).R a0 21 = some q12 := (h_up_at (by decide)).trans Ra0_21
  replace Ra0_22 : (z.wR a0 35 (some q23)).R a0 22 = some q13 := (h_up_at (by decide)).trans Ra0_22
  replace Ra0_23 : (z.wR a0 35 (some q23)).R a0 23 = some q14 := (h_up_at (by decide)).trans Ra0_23
  replace Ra0_24 : (z.wR a0 35 (some q23)).R a0 24 = some q15 := (h_up_at (by decide)).trans Ra0_24
  replace Ra0_25 : (z.wR a0 35 (some q23)).R a0 25 = some q16 := (h_up_at (by decide)).trans Ra0_25
  replace Ra0_26 : (z.wR a0 35 (some q23)).R a0 26 = some q17 := (h_up_at (by decide)).trans Ra0_26
  replace Ra0_27 : (z.wR a0 35 (some q23)).R a0 27 = some q18 := (h_up_at (by decide)).trans Ra0_27
  replace Ra0_28 : (z.wR a0 35 (some q23)).R a0 28 = some q19 := (h_up_at (by decide)).trans Ra0_28
  replace Ra0_29 : (z.wR a0 35 (some q23)).R a0 29 = some q20 := (h_up_at (by decide)).trans Ra0_29
  replace Ra0_32 : (z.wR a0 35 (some q23)).R a0 32 = some q21 := (h_up_at (by decide)).trans Ra0_32
  replace Ra0_34 : (z.wR a0 35 (some q23)).R a0 34 = some q22 := (h_up_at (by decide)).trans Ra0_34
  replace Ra0_35 : (z.wR a0 35 (some q23)).R a0 35 = some q23 := h_up_eq
  obtain ⟨z, ez⟩ : ∃ z1 : tZ, z1 = (z.wR a0 35 (some q23)) := ⟨_, rfl⟩
  rw [← ez] at g hI hR hZ hQ t_a0 tq1 tq3 tq4 tq5 tq6 tq7 tq8 tq9 tq10 tq11 tq12 tq13 tq14 tq15 tq16 tq17 tq18 tq19 tq20 tq21 tq22 tq23 Ra0_0 Ra0_10 Ra0_11 Ra0_14 Ra0_15 Ra0_16 Ra0_17 Ra0_18 Ra0_19 Ra0_20 Ra0_21 Ra0_22 Ra0_23 Ra0_24 Ra0_25 Ra0_26 Ra0_27 Ra0_28 Ra0_29 Ra0_32 Ra0_34 Ra0_35
  clear ez
  replace hF : h_F [(1310, 999), (1325, 999), (1326, 999), (1328, 999), (62, 9)] z I0 I0 := h_F.rf
  refine lv_aload_n hx hb dX12_init_187 rfl (lv_at hl 0 rfl) ?_
  refine lv_bipush (v := 12) hx hb dX12_init_188 (by decide) ?_
  replace kf_a0_9 : I0 a0 9 = (-1) := kf_a0_9
  replace hZ := hZ.tcall hF rfl
  replace hQ := hQ.tc hF rfl
  refine h_newI hx hb (hts (.arrayClass .int) (by decide +kernel)) g hA so_1336 (by decide) (by decide) (by decide) (Nat.le_of_ble_eq_true rfl) (Nat.le_of_ble_eq_true rfl) dX12_init_190 (fun q24 H hq0 g => ?_)
  have n_q24 := hZ.fresh hq0 (fun h => h_neq t_a0 (by decide) hq0 (Option.some.inj h).symm)
  replace hu_q24 := hQ.1.u (q := q24) (t := 1336) hq0
  replace hQ := hQ.nw (q := q24) (t := 1336) hq0 (by decide)
  replace hI := hI.nw (q := q24) (t := 1336) (f := fun _ => none)
  replace hR := hR.nw (q := q24) (t := 1336) (f := fun _ => none) hq0 (fun k t2 n2 h => by cases (show (none : Option (Nat × Bool)) = some (t2, n2) from h))
  replace hZ := hZ.nw (q := q24) (t := 1336) (f := fun _ => none) hq0 (L2 := L0) (fun _ _ => rfl)
  replace hz : h_row I0 q24 (fun _ => 0) a0 = (fun j => if j = 9 then (-1) else (fun _ => 0) j) := (h_row_n (h_neq t_a0 (by decide) hq0)).trans hz
  replace kf_a0_9 : h_row I0 q24 (fun _ => 0) a0 9 = (-1) := (congrFun (h_row_n (h_neq t_a0 (by decide) hq0)) 9).trans kf_a0_9
  have z_laws : h_row I0 q24 (fun _ => 0) q3 = fun _ => 0 := (h_row_n (h_neq tq3 (by decide) hq0)).trans z_laws
  replace Ra0_0 := h_nwr (q := q24) (t := 1336) (f := fun _ => none) hq0 t_a0 (by decide) Ra0_0
  replace Ra0_10 := h_nwr (q := q24) (t := 1336) (f := fun _ => none) hq0 t_a0 (by decide) Ra0_10
  replace Ra0_11 := h_nwr (q := q24) (t := 1336) (f := fun _ => none) hq0 t_a0 (by decide) Ra0_11
  replace Ra0_14 := h_nwr (q := q24) (t := 1336) (f := fun _ => none) hq0 t_a0 (by decide) Ra0_14
  replace Ra0_15 := h_nwr (q := q24) (t := 1336) (f := fun _ => none) hq0 t_a0 (by decide) Ra0_15
  replace Ra0_16 := h_nwr (q := q24) (t := 1336) (f := fun _ => none) hq0 t_a0 (by decide) Ra0_16
  replace Ra0_17 := h_nwr (q := q24) (t := 1336) (f := fun _ => none) hq0 t_a0 (by decide) Ra0_17
  replace Ra0_18 := h_nwr (q := q24) (t := 1336) (f := fun _ => none) hq0 t_a0 (by decide) Ra0_18
  replace Ra0_19 := h_nwr (q := q24) (t := 1336) (f := fun _ => none) hq0 t_a0 (by decide) Ra0_19
  replace Ra0_20 := h_nwr (q := q24) (t := 1336) (f := fun _ => none) hq0 t_a0 (by decide) Ra0_20
  replace Ra0_21 := h_nwr (q := q24) (t := 1336) (f := fun _ => none) hq0 t_a0 (by decide) Ra0_21
  replace Ra0_22 := h_nwr (q := q24) (t := 1336) (f := fun _ => none) hq0 t_a0 (by decide) Ra0_22
  replace Ra0_23 := h_nwr (q := q24) (t := 1336) (f := fun _ => none) hq0 t_a0 (by decide) Ra0_23
  replace Ra0_24 := h_nwr (q := q24) (t := 1336) (f := fun _ => none) hq0 t_a0 (by decide) Ra0_24
  replace Ra0_25 := h_nwr (q := q24) (t := 1336) (f := fun _ => none) hq0 t_a0 (by decide) Ra0_25
  replace Ra0_26 := h_nwr (q := q24) (t := 1336) (f := fun _ => none) hq0 t_a0 (by decide) Ra0_26
  replace Ra0_27 := h_nwr (q := q24) (t := 1336) (f := fun _ => none) hq0 t_a0 (by decide) Ra0_27
  replace Ra0_28 := h_nwr (q := q24) (t := 1336) (f := fun _ => none) hq0 t_a0 (by decide) Ra0_28
  replace Ra0_29 := h_nwr (q := q24) (t := 1336) (f := fun _ => none) hq0 t_a0 (by decide) Ra0_29
  replace Ra0_32 := h_nwr (q := q24) (t := 1336) (f := fun _ => none) hq0 t_a0 (by decide) Ra0_32
  replace Ra0_34 := h_nwr (q := q24) (t := 1336) (f := fun _ => none) hq0 t_a0 (by decide) Ra0_34
  replace Ra0_35 := h_nwr (q := q24) (t := 1336) (f := fun _ => none) hq0 t_a0 (by decide) Ra0_35
  replace t_a0 := h_nwk (q := q24) (t := 1336) (f := fun _ => none) hq0 t_a0 (by decide)
  replace tq1 := h_nwk (q := q24) (t := 1336) (f := fun _ => none) hq0 tq1 (by decide)
  replace tq3 := h_nwk (q := q24) (t := 1336) (f := fun _ => none) hq0 tq3 (by decide)
  replace tq4 := h_nwk (q := q24) (t := 1336) (f := fun _ => none) hq0 tq4 (by decide)
  replace tq5 := h_nwk (q := q24) (t := 1336) (f := fun _ => none) hq0 tq5 (by decide)
  replace tq6 := h_nwk (q := q24) (t := 1336) (f := fun _ => none) hq0 tq6 (by decide)
  replace tq7 := h_nwk (q := q24) (t := 1336) (f := fun _ => none) hq0 tq7 (by decide)
  replace tq8 := h_nwk (q := q24) (t := 1336) (f := fun _ => none) hq0 tq8 (by decide)
  replace tq9 := h_nwk (q := q24) (t := 1336) (f := fun _ => none) hq0 tq9 (by decide)
  replace tq10 := h_nwk (q := q24) (t := 1336) (f := fun _ => none) hq0 tq10 (by decide)
  replace tq11 := h_nwk (q := q24) (t := 1336) (f := fun _ => none) hq0 tq11 (by decide)
  replace tq12 := h_nwk (q := q24) (t := 1336) (f := fun _ => none) hq0 tq12 (by decide)
  replace tq13 := h_nwk (q := q24) (t := 1336) (f := fun _ => none) hq0 tq13 (by decide)
  replace tq14 := h_nwk (q := q24) (t := 1336) (f := fun _ => none) hq0 tq14 (by decide)
  replace tq15 := h_nwk (q := q24) (t := 1336) (f := fun _ => none) hq0 tq15 (by decide)
  replace tq16 := h_nwk (q := q24) (t := 1336) (f := fun _ => none) hq0 tq16 (by decide)
  replace tq17 := h_nwk (q := q24) (t := 1336) (f := fun _ => none) hq0 tq17 (by decide)
  replace tq18 := h_nwk (q := q24) (t := 1336) (f := fun _ => none) hq0 tq18 (by decide)
  replace tq19 := h_nwk (q := q24) (t := 1336) (f := fun _ => none) hq0 tq19 (by decide)
  replace tq20 := h_nwk (q := q24) (t := 1336) (f := fun _ => none) hq0 tq20 (by decide)
  replace tq21 := h_nwk (q := q24) (t := 1336) (f := fun _ => none) hq0 tq21 (by decide)
  replace tq22 := h_nwk (q := q24) (t := 1336) (f := fun _ => none) hq0 tq22 (by decide)
  replace tq23 := h_nwk (q := q24) (t := 1336) (f := fun _ => none) hq0 tq23 (by decide)
  replace tq24 : (z.nw q24 1336 (fun _ => none)).ty q24 = 1336 := nw_te
  obtain ⟨z, ez⟩ : ∃ z1 : tZ, z1 = (z.nw q24 1336 (fun _ => none)) := ⟨_, rfl⟩
  rw [← ez] at g hI hR hZ hQ hu_q24 t_a0 tq1 tq3 tq4 tq5 tq6 tq7 tq8 tq9 tq10 tq11 tq12 tq13 tq14 tq15 tq16 tq17 tq18 tq19 tq20 tq21 tq22 tq23 tq24 Ra0_0 Ra0_10 Ra0_11 Ra0_14 Ra0_15 Ra0_16 Ra0_17 Ra0_18 Ra0_19 Ra0_20 Ra0_21 Ra0_22 Ra0_23 Ra0_24 Ra0_25 Ra0_26 Ra0_27 Ra0_28 Ra0_29 Ra0_32 Ra0_34 Ra0_35
  clear ez
  obtain ⟨I0, eI⟩ : ∃ J : tI, J = h_row I0 q24 (fun _ => 0) := ⟨_, rfl⟩
  rw [← eI] at g hI hZ hQ hz kf_a0_9 z_laws
  clear eI
  replace hF : h_F [(1310, 999), (1325, 999), (1326, 999), (1328, 999), (62, 9)] z I0 I0 := h_F.rf
  refine W.cs (cells' := 23) (slots' := 1774) rfl rfl ?_
  replace kf_a0_9 : I0 a0 9 = (-1) := kf_a0_9
  replace hZ := hZ.tcall hF rfl
  replace hQ := hQ.tc hF rfl
  refine h_putR (ty := tyX12 36) (v := q24) hx hb hts iX12 tyX12 tyX12_ok nmX12 hown g t_a0 (by decide) so_62 rfl 36 (by decide) rfl (hts (.fieldLink RX12 82 "CapLeagueModel" "to" "[I") (by decide +kernel)) rfl rfl hin rfl (by decide +kernel) rfl rfl dX12_init_192 (fun H locs g => ?_)
  replace hQ := hQ.wR (a := a0) (k := 36) (v := q24) t_a0 (by decide) tq24 (by decide) (fun h9 => ⟨hu_q24, n_q24⟩)
  replace hR := hR.wR (k0 := 36) (v := some q24) t_a0 (fun _ => rfl)
  replace hZ := hZ.wR (a := a0) (k := 36) (v := some q24) (Or.inl rfl)
  replace hI : h_I (z.wR a0 36 (some q24)) I0 := hI
  replace t_a0 : (z.wR a0 36 (some q24)).ty a0 = 62 := t_a0
  replace tq1 : (z.wR a0 36 (some q24)).ty q1 = 1300 := tq1
  replace tq3 : (z.wR a0 36 (some q24)).ty q3 = 1310 := tq3
  replace tq4 : (z.wR a0 36 (some q24)).ty q4 = 1311 := tq4
  replace tq5 : (z.wR a0 36 (some q24)).ty q5 = 1314 := tq5
  replace tq6 : (z.wR a0 36 (some q24)).ty q6 = 1315 := tq6
  replace tq7 : (z.wR a0 36 (some q24)).ty q7 = 1316 := tq7
  replace tq8 : (z.wR a0 36 (some q24)).ty q8 = 1317 := tq8
  replace tq9 : (z.wR a0 36 (some q24)).ty q9 = 1318 := tq9
  replace tq10 : (z.wR a0 36 (some q24)).ty q10 = 1319 := tq10
  replace tq11 : (z.wR a0 36 (some q24)).ty q11 = 1320 := tq11
  replace tq12 : (z.wR a0 36 (some q24)).ty q12 = 1321 := tq12
  replace tq13 : (z.wR a0 36 (some q24)).ty q13 = 1322 := tq13
  replace tq14 : (z.wR a0 36 (some q24)).ty q14 = 1323 := tq14
  replace tq15 : (z.wR a0 36 (some q24)).ty q15 = 1324 := tq15
  replace tq16 : (z.wR a0 36 (some q24)).ty q16 = 1325 := tq16
  replace tq17 : (z.wR a0 36 (some q24)).ty q17 = 1326 := tq17
  replace tq18 : (z.wR a0 36 (some q24)).ty q18 = 1327 := tq18
  replace tq19 : (z.wR a0 36 (some q24)).ty q19 = 1328 := tq19
  replace tq20 : (z.wR a0 36 (some q24)).ty q20 = 1329 := tq20
  replace tq21 : (z.wR a0 36 (some q24)).ty q21 = 1332 := tq21
  replace tq22 : (z.wR a0 36 (some q24)).ty q22 = 1334 := tq22
  replace tq23 : (z.wR a0 36 (some q24)).ty q23 = 1335 := tq23
  replace tq24 : (z.wR a0 36 (some q24)).ty q24 = 1336 := tq24
  replace Ra0_0 : (z.wR a0 36 (some q24)).R a0 0 = some q1 := (h_up_at (by decide)).trans Ra0_0
  replace Ra0_10 : (z.wR a0 36 (some q24)).R a0 10 = some q3 := (h_up_at (by decide)).trans Ra0_10
  replace Ra0_11 : (z.wR a0 36 (some q24)).R a0 11 = some q4 := (h_up_at (by decide)).trans Ra0_11
  replace Ra0_14 : (z.wR a0 36 (some q24)).R a0 14 = some q5 := (h_up_at (by decide)).trans Ra0_14
  replace Ra0_15 : (z.wR a0 36 (some q24)).R a0 15 = some q6 := (h_up_at (by decide)).trans Ra0_15
  replace Ra0_16 : (z.wR a0 36 (some q24)).R a0 16 = some q7 := (h_up_at (by decide)).trans Ra0_16
  replace Ra0_17 : (z.wR a0 36 (some q24)).R a0 17 = some q8 := (h_up_at (by decide)).trans Ra0_17
  replace Ra0_18 : (z.wR a0 36 (some q24)).R a0 18 = some q9 := (h_up_at (by decide)).trans Ra0_18
  replace Ra0_19 : (z.wR a0 36 (some q24)).R a0 19 = some q10 := (h_up_at (by decide)).trans Ra0_19
  replace Ra0_20 : (z.wR a0 36 (some q24)).R a0 20 = some q11 := (h_up_at (by decide)).trans Ra0_20
  replace Ra0_21 : (z.wR a0 36 (some q24)).R a0 21 = some q12 := (h_up_at (by decide)).trans Ra0_21
  replace Ra0_22 : (z.wR a0 36 (some q24)).R a0 22 = some q13 := (h_up_at (by decide)).trans Ra0_22
  replace Ra0_23 : (z.wR a0 36 (some q24)).R a0 23 = some q14 := (h_up_at (by decide)).trans Ra0_23
  replace Ra0_24 : (z.wR a0 36 (some q24)).R a0 24 = some q15 := (h_up_at (by decide)).trans Ra0_24
  replace Ra0_25 : (z.wR a0 36 (some q24)).R a0 25 = some q16 := (h_up_at (by decide)).trans Ra0_25
  replace Ra0_26 : (z.wR a0 36 (some q24)).R a0 26 = some q17 := (h_up_at (by decide)).trans Ra0_26
  replace Ra0_27 : (z.wR a0 36 (some q24)).R a0 27 = some q18 := (h_up_at (by decide)).trans Ra0_27
  replace Ra0_28 : (z.wR a0 36 (some q24)).R a0 28 = some q19 := (h_up_at (by decide)).trans Ra0_28
  replace Ra0_29 : (z.wR a0 36 (some q24)).R a0 29 = some q20 := (h_up_at (by decide)).trans Ra0_29
  replace Ra0_32 : (z.wR a0 36 (some q24)).R a0 32 = some q21 := (h_up_at (by decide)).trans Ra0_32
  replace Ra0_34 : (z.wR a0 36 (some q24)).R a0 34 = some q22 := (h_up_at (by decide)).trans Ra0_34
  replace Ra0_35 : (z.wR a0 36 (some q24)).R a0 35 = some q23 := (h_up_at (by decide)).trans Ra0_35
  replace Ra0_36 : (z.wR a0 36 (some q24)).R a0 36 = some q24 := h_up_eq
  obtain ⟨z, ez⟩ : ∃ z1 : tZ, z1 = (z.wR a0 36 (some q24)) := ⟨_, rfl⟩
  rw [← ez] at g hI hR hZ hQ t_a0 tq1 tq3 tq4 tq5 tq6 tq7 tq8 tq9 tq10 tq11 tq12 tq13 tq14 tq15 tq16 tq17 tq18 tq19 tq20 tq21 tq22 tq23 tq24 Ra0_0 Ra0_10 Ra0_11 Ra0_14 Ra0_15 Ra0_16 Ra0_17 Ra0_18 Ra0_19 Ra0_20 Ra0_21 Ra0_22 Ra0_23 Ra0_24 Ra0_25 Ra0_26 Ra0_27 Ra0_28 Ra0_29 Ra0_32 Ra0_34 Ra0_35 Ra0_36
  clear ez
  replace hF : h_F [(1310, 999), (1325, 999), (1326, 999), (1328, 999), (62, 9)] z I0 I0 := h_F.rf
  refine lv_aload_n hx hb dX12_init_195 rfl (lv_at hl 0 rfl) ?_
  refine lv_bipush (v := 12) hx hb dX12_init_196 (by decide) ?_
  replace kf_a0_9 : I0 a0 9 = (-1) := kf_a0_9
  replace hZ := hZ.tcall hF rfl
  replace hQ := hQ.tc hF rfl
  refine h_newI hx hb (hts (.arrayClass .int) (by decide +kernel)) g hA so_1337 (by decide) (by decide) (by decide) (Nat.le_of_ble_eq_true rfl) (Nat.le_of_ble_eq_true rfl) dX12_init_198 (fun q25 H hq0 g => ?_)
  have n_q25 := hZ.fresh hq0 (fun h => h_neq t_a0 (by decide) hq0 (Option.some.inj h).symm)
  replace hu_q25 := hQ.1.u (q := q25) (t := 1337) hq0
  replace hQ := hQ.nw (q := q25) (t := 1337) hq0 (by decide)
  replace hI := hI.nw (q := q25) (t := 1337) (f := fun _ => none)
  replace hR := hR.nw (q := q25) (t := 1337) (f := fun _ => none) hq0 (fun k t2 n2 h => by cases (show (none : Option (Nat × Bool)) = some (t2, n2) from h))
  replace hZ := hZ.nw (q := q25) (t := 1337) (f := fun _ => none) hq0 (L2 := L0) (fun _ _ => rfl)
  replace hz : h_row I0 q25 (fun _ => 0) a0 = (fun j => if j = 9 then (-1) else (fun _ => 0) j) := (h_row_n (h_neq t_a0 (by decide) hq0)).trans hz
  replace kf_a0_9 : h_row I0 q25 (fun _ => 0) a0 9 = (-1) := (congrFun (h_row_n (h_neq t_a0 (by decide) hq0)) 9).trans kf_a0_9
  have z_laws : h_row I0 q25 (fun _ => 0) q3 = fun _ => 0 := (h_row_n (h_neq tq3 (by decide) hq0)).trans z_laws
  replace Ra0_0 := h_nwr (q := q25) (t := 1337) (f := fun _ => none) hq0 t_a0 (by decide) Ra0_0
  replace Ra0_10 := h_nwr (q := q25) (t := 1337) (f := fun _ => none) hq0 t_a0 (by decide) Ra0_10
  replace Ra0_11 := h_nwr (q := q25) (t := 1337) (f := fun _ => none) hq0 t_a0 (by decide) Ra0_11
  replace Ra0_14 := h_nwr (q := q25) (t := 1337) (f := fun _ => none) hq0 t_a0 (by decide) Ra0_14
  replace Ra0_15 := h_nwr (q := q25) (t := 1337) (f := fun _ => none) hq0 t_a0 (by decide) Ra0_15
  replace Ra0_16 := h_nwr (q := q25) (t := 1337) (f := fun _ => none) hq0 t_a0 (by decide) Ra0_16
  replace Ra0_17 := h_nwr (q := q25) (t := 1337) (f := fun _ => none) hq0 t_a0 (by decide) Ra0_17
  replace Ra0_18 := h_nwr (q := q25) (t := 1337) (f := fun _ => none) hq0 t_a0 (by decide) Ra0_18
  replace Ra0_19 := h_nwr (q := q25) (t := 1337) (f := fun _ => none) hq0 t_a0 (by decide) Ra0_19
  replace Ra0_20 := h_nwr (q := q25) (t := 1337) (f := fun _ => none) hq0 t_a0 (by decide) Ra0_20
  replace Ra0_21 := h_nwr (q := q25) (t := 1337) (f := fun _ => none) hq0 t_a0 (by decide) Ra0_21
  replace Ra0_22 := h_nwr (q := q25) (t := 1337) (f := fun _ => none) hq0 t_a0 (by decide) Ra0_22
  replace Ra0_23 := h_nwr (q := q25) (t := 1337) (f := fun _ => none) hq0 t_a0 (by decide) Ra0_23
  replace Ra0_24 := h_nwr (q := q25) (t := 1337) (f := fun _ => none) hq0 t_a0 (by decide) Ra0_24
  replace Ra0_25 := h_nwr (q := q25) (t := 1337) (f := fun _ => none) hq0 t_a0 (by decide) Ra0_25
  replace Ra0_26 := h_nwr (q := q25) (t := 1337) (f := fun _ => none) hq0 t_a0 (by decide) Ra0_26
  replace Ra0_27 := h_nwr (q := q25) (t := 1337) (f := fun _ => none) hq0 t_a0 (by decide) Ra0_27
  replace Ra0_28 := h_nwr (q := q25) (t := 1337) (f := fun _ => none) hq0 t_a0 (by decide) Ra0_28
  replace Ra0_29 := h_nwr (q := q25) (t := 1337) (f := fun _ => none) hq0 t_a0 (by decide) Ra0_29
  replace Ra0_32 := h_nwr (q := q25) (t := 1337) (f := fun _ => none) hq0 t_a0 (by decide) Ra0_32
  replace Ra0_34 := h_nwr (q := q25) (t := 1337) (f := fun _ => none) hq0 t_a0 (by decide) Ra0_34
  replace Ra0_35 := h_nwr (q := q25) (t := 1337) (f := fun _ => none) hq0 t_a0 (by decide) Ra0_35
  replace Ra0_36 := h_nwr (q := q25) (t := 1337) (f := fun _ => none) hq0 t_a0 (by decide) Ra0_36
  replace t_a0 := h_nwk (q := q25) (t := 1337) (f := fun _ => none) hq0 t_a0 (by decide)
  replace tq1 := h_nwk (q := q25) (t := 1337) (f := fun _ => none) hq0 tq1 (by decide)
  replace tq3 := h_nwk (q := q25) (t := 1337) (f := fun _ => none) hq0 tq3 (by decide)
  replace tq4 := h_nwk (q := q25) (t := 1337) (f := fun _ => none) hq0 tq4 (by decide)
  replace tq5 := h_nwk (q := q25) (t := 1337) (f := fun _ => none) hq0 tq5 (by decide)
  replace tq6 := h_nwk (q := q25) (t := 1337) (f := fun _ => none) hq0 tq6 (by decide)
  replace tq7 := h_nwk (q := q25) (t := 1337) (f := fun _ => none) hq0 tq7 (by decide)
  replace tq8 := h_nwk (q := q25) (t := 1337) (f := fun _ => none) hq0 tq8 (by decide)
  replace tq9 := h_nwk (q := q25) (t := 1337) (f := fun _ => none) hq0 tq9 (by decide)
  replace tq10 := h_nwk (q := q25) (t := 1337) (f := fun _ => none) hq0 tq10 (by decide)
  replace tq11 := h_nwk (q := q25) (t := 1337) (f := fun _ => none) hq0 tq11 (by decide)
  replace tq12 := h_nwk (q := q25) (t := 1337) (f := fun _ => none) hq0 tq12 (by decide)
  replace tq13 := h_nwk (q := q25) (t := 1337) (f := fun _ => none) hq0 tq13 (by decide)
  replace tq14 := h_nwk (q := q25) (t := 1337) (f := fun _ => none) hq0 tq14 (by decide)
  replace tq15 := h_nwk (q := q25) (t := 1337) (f := fun _ => none) hq0 tq15 (by decide)
  replace tq16 := h_nwk (q := q25) (t := 1337) (f := fun _ => none) hq0 tq16 (by decide)
  replace tq17 := h_nwk (q := q25) (t := 1337) (f := fun _ => none) hq0 tq17 (by decide)
  replace tq18 := h_nwk (q := q25) (t := 1337) (f := fun _ => none) hq0 tq18 (by decide)
  replace tq19 := h_nwk (q := q25) (t := 1337) (f := fun _ => none) hq0 tq19 (by decide)
  replace tq20 := h_nwk (q := q25) (t := 1337) (f := fun _ => none) hq0 tq20 (by decide)
  replace tq21 := h_nwk (q := q25) (t := 1337) (f := fun _ => none) hq0 tq21 (by decide)
  replace tq22 := h_nwk (q := q25) (t := 1337) (f := fun _ => none) hq0 tq22 (by decide)
  replace tq23 := h_nwk (q := q25) (t := 1337) (f := fun _ => none) hq0 tq23 (by decide)
  replace tq24 := h_nwk (q := q25) (t := 1337) (f := fun _ => none) hq0 tq24 (by decide)
  replace tq25 : (z.nw q25 1337 (fun _ => none)).ty q25 = 1337 := nw_te
  obtain ⟨z, ez⟩ : ∃ z1 : tZ, z1 = (z.nw q25 1337 (fun _ => none)) := ⟨_, rfl⟩
  rw [← ez] at g hI hR hZ hQ hu_q25 t_a0 tq1 tq3 tq4 tq5 tq6 tq7 tq8 tq9 tq10 tq11 tq12 tq13 tq14 tq15 tq16 tq17 tq18 tq19 tq20 tq21 tq22 tq23 tq24 tq25 Ra0_0 Ra0_10 Ra0_11 Ra0_14 Ra0_15 Ra0_16 Ra0_17 Ra0_18 Ra0_19 Ra0_20 Ra0_21 Ra0_22 Ra0_23 Ra0_24 Ra0_25 Ra0_26 Ra0_27 Ra0_28 Ra0_29 Ra0_32 Ra0_34 Ra0_35 Ra0_36
  clear ez
  obtain ⟨I0, eI⟩ : ∃ J : tI, J = h_row I0 q25 (fun _ => 0) := ⟨_, rfl⟩
  rw [← eI] at g hI hZ hQ hz kf_a0_9 z_laws
  clear eI
  replace hF : h_F [(1310, 999), (1325, 999), (1326, 999), (1328, 999), (62, 9)] z I0 I0 := h_F.rf
  refine W.cs (cells' := 24) (slots' := 1786) rfl rfl ?_
  replace kf_a0_9 : I0 a0 9 = (-1) := kf_a0_9
  replace hZ := hZ.tcall hF rfl
  replace hQ := hQ.tc hF rfl
  refine h_putR (ty := tyX12 37) (v := q25) hx hb hts iX12 tyX12 tyX12_ok nmX12 hown g t_a0 (by decide) so_62 rfl 37 (by decide) rfl (hts (.fieldLink RX12 85 "CapLeagueModel" "guard" "[I") (by decide +kernel)) rfl rfl hin rfl (by decide +kernel) rfl rfl dX12_init_200 (fun H locs g => ?_)
  replace hQ := hQ.wR (a := a0) (k := 37) (v := q25) t_a0 (by decide) tq25 (by decide) (fun h9 => ⟨hu_q25, n_q25⟩)
  replace hR := hR.wR (k0 := 37) (v := some q25) t_a0 (fun _ => rfl)
  replace hZ := hZ.wR (a := a0) (k := 37) (v := some q25) (Or.inl rfl)
  replace hI : h_I (z.wR a0 37 (some q25)) I0 := hI
  replace t_a0 : (z.wR a0 37 (some q25)).ty a0 = 62 := t_a0
  replace tq1 : (z.wR a0 37 (some q25)).ty q1 = 1300 := tq1
  replace tq3 : (z.wR a0 37 (some q25)).ty q3 = 1310 := tq3
  replace tq4 : (z.wR a0 37 (some q25)).ty q4 = 1311 := tq4
  replace tq5 : (z.wR a0 37 (some q25)).ty q5 = 1314 := tq5
  replace tq6 : (z.wR a0 37 (some q25)).ty q6 = 1315 := tq6
  replace tq7 : (z.wR a0 37 (some q25)).ty q7 = 1316 := tq7
  replace tq8 : (z.wR a0 37 (some q25)).ty q8 = 1317 := tq8
  replace tq9 : (z.wR a0 37 (some q25)).ty q9 = 1318 := tq9
  replace tq10 : (z.wR a0 37 (some q25)).ty q10 = 1319 := tq10
  replace tq11 : (z.wR a0 37 (some q25)).ty q11 = 1320 := tq11
  replace tq12 : (z.wR a0 37 (some q25)).ty q12 = 1321 := tq12
  replace tq13 : (z.wR a0 37 (some q25)).ty q13 = 1322 := tq13
  replace tq14 : (z.wR a0 37 (some q25)).ty q14 = 1323 := tq14
  replace tq15 : (z.wR a0 37 (some q25)).ty q15 = 1324 := tq15
  replace tq16 : (z.wR a0 37 (some q25)).ty q16 = 1325 := tq16
  replace tq17 : (z.wR a0 37 (some q25)).ty q17 = 1326 := tq17
  replace tq18 : (z.wR a0 37 (some q25)).ty q18 = 1327 := tq18
  replace tq19 : (z.wR a0 37 (some q25)).ty q19 = 1328 := tq19
  replace tq20 : (z.wR a0 37 (some q25)).ty q20 = 1329 := tq20
  replace tq21 : (z.wR a0 37 (some q25)).ty q21 = 1332 := tq21
  replace tq22 : (z.wR a0 37 (some q25)).ty q22 = 1334 := tq22
  replace tq23 : (z.wR a0 37 (some q25)).ty q23 = 1335 := tq23
  replace tq24 : (z.wR a0 37 (some q25)).ty q24 = 1336 := tq24
  replace tq25 : (z.wR a0 37 (some q25)).ty q25 = 1337 := tq25
  replace Ra0_0 : (z.wR a0 37 (some q25)).R a0 0 = some q1 := (h_up_at (by decide)).trans Ra0_0
  replace Ra0_10 : (z.wR a0 37 (some q25)).R a0 10 = some q3 := (h_up_at (by decide)).trans Ra0_10
  replace Ra0_11 : (z.wR a0 37 (some q25)).R a0 11 = some q4 := (h_up_at (by decide)).trans Ra0_11
  replace Ra0_14 : (z.wR a0 37 (some q25)).R a0 14 = some q5 := (h_up_at (by decide)).trans Ra0_14
  replace Ra0_15 : (z.wR a0 37 (some q25)).R a0 15 = some q6 := (h_up_at (by decide)).trans Ra0_15
  replace Ra0_16 : (z.wR a0 37 (some q25)).R a0 16 = some q7 := (h_up_at (by decide)).trans Ra0_16
  replace Ra0_17 : (z.wR a0 37 (some q25)).R a0 17 = some q8 := (h_up_at (by decide)).trans Ra0_17
  replace Ra0_18 : (z.wR a0 37 (some q25)).R a0 18 = some q9 := (h_up_at (by decide)).trans Ra0_18
  replace Ra0_19 : (z.wR a0 37 (some q25)).R a0 19 = some q10 := (h_up_at (by decide)).trans Ra0_19
  replace Ra0_20 : (z.wR a0 37 (some q25)).R a0 20 = some q11 := (h_up_at (by decide)).trans Ra0_20
  replace Ra0_21 : (z.wR a0 37 (some q25)).R a0 21 = some q12 := (h_up_at (by decide)).trans Ra0_21
  replace Ra0_22 : (z.wR a0 37 (some q25)).R a0 22 = some q13 := (h_up_at (by decide)).trans Ra0_22
  replace Ra0_23 : (z.wR a0 37 (some q25)).R a0 23 = some q14 := (h_up_at (by decide)).trans Ra0_23
  replace Ra0_24 : (z.wR a0 37 (some q25)).R a0 24 = some q15 := (h_up_at (by decide)).trans Ra0_24
  replace Ra0_25 : (z.wR a0 37 (some q25)).R a0 25 = some q16 := (h_up_at (by decide)).trans Ra0_25
  replace Ra0_26 : (z.wR a0 37 (some q25)).R a0 26 = some q17 := (h_up_at (by decide)).trans Ra0_26
  replace Ra0_27 : (z.wR a0 37 (some q25)).R a0 27 = some q18 := (h_up_at (by decide)).trans Ra0_27
  replace Ra0_28 : (z.wR a0 37 (some q25)).R a0 28 = some q19 := (h_up_at (by decide)).trans Ra0_28
  replace Ra0_29 : (z.wR a0 37 (some q25)).R a0 29 = some q20 := (h_up_at (by decide)).trans Ra0_29
  replace Ra0_32 : (z.wR a0 37 (some q25)).R a0 32 = some q21 := (h_up_at (by decide)).trans Ra0_32
  replace Ra0_34 : (z.wR a0 37 (some q25)).R a0 34 = some q22 := (h_up_at (by decide)).trans Ra0_34
  replace Ra0_35 : (z.wR a0 37 (some q25)).R a0 35 = some q23 := (h_up_at (by decide)).trans Ra0_35
  replace Ra0_36 : (z.wR a0 37 (some q25)).R a0 36 = some q24 := (h_up_at (by decide)).trans Ra0_36
  replace Ra0_37 : (z.wR a0 37 (some q25)).R a0 37 = some q25 := h_up_eq
  obtain ⟨z, ez⟩ : ∃ z1 : tZ, z1 = (z.wR a0 37 (some q25)) := ⟨_, rfl⟩
  rw [← ez] at g hI hR hZ hQ t_a0 tq1 tq3 tq4 tq5 tq6 tq7 tq8 tq9 tq10 tq11 tq12 tq13 tq14 tq15 tq16 tq17 tq18 tq19 tq20 tq21 tq22 tq23 tq24 tq25 Ra0_0 Ra0_10 Ra0_11 Ra0_14 Ra0_15 Ra0_16 Ra0_17 Ra0_18 Ra0_19 Ra0_20 Ra0_21 Ra0_22 Ra0_23 Ra0_24 Ra0_25 Ra0_26 Ra0_27 Ra0_28 Ra0_29 Ra0_32 Ra0_34 Ra0_35 Ra0_36 Ra0_37
  clear ez
  replace hF : h_F [(1310, 999), (1325, 999), (1326, 999), (1328, 999), (62, 9)] z I0 I0 := h_F.rf
  refine lv_aload_n hx hb dX12_init_203 rfl (lv_at hl 0 rfl) ?_
  refine lv_sipush (v := 1120) hx hb dX12_init_204 (by decide) ?_
  replace kf_a0_9 : I0 a0 9 = (-1) := kf_a0_9
  replace hZ := hZ.tcall hF rfl
  replace hQ := hQ.tc hF rfl
  refine h_newI hx hb (hts (.arrayClass .int) (by decide +kernel)) g hA so_1338 (by decide) (by decide) (by decide) (Nat.le_of_ble_eq_true rfl) (Nat.le_of_ble_eq_true rfl) dX12_init_207 (fun q26 H hq0 g => ?_)
  have n_q26 := hZ.fresh hq0 (fun h => h_neq t_a0 (by decide) hq0 (Option.some.inj h).symm)
  replace hu_q26 := hQ.1.u (q := q26) (t := 1338) hq0
  replace hQ := hQ.nw (q := q26) (t := 1338) hq0 (by decide)
  replace hI := hI.nw (q := q26) (t := 1338) (f := fun _ => none)
  replace hR := hR.nw (q := q26) (t := 1338) (f := fun _ => none) hq0 (fun k t2 n2 h => by cases (show (none : Option (Nat × Bool)) = some (t2, n2) from h))
  replace hZ := hZ.nw (q := q26) (t := 1338) (f := fun _ => none) hq0 (L2 := L0) (fun _ _ => rfl)
  replace hz : h_row I0 q26 (fun _ => 0) a0 = (fun j => if j = 9 then (-1) else (fun _ => 0) j) := (h_row_n (h_neq t_a0 (by decide) hq0)).trans hz
  replace kf_a0_9 : h_row I0 q26 (fun _ => 0) a0 9 = (-1) := (congrFun (h_row_n (h_neq t_a0 (by decide) hq0)) 9).trans kf_a0_9
  have z_laws : h_row I0 q26 (fun _ => 0) q3 = fun _ => 0 := (h_row_n (h_neq tq3 (by decide) hq0)).trans z_laws
  replace Ra0_0 := h_nwr (q := q26) (t := 1338) (f := fun _ => none) hq0 t_a0 (by decide) Ra0_0
  replace Ra0_10 := h_nwr (q := q26) (t := 1338) (f := fun _ => none) hq0 t_a0 (by decide) Ra0_10
  replace Ra0_11 := h_nwr (q := q26) (t := 1338) (f := fun _ => none) hq0 t_a0 (by decide) Ra0_11
  replace Ra0_14 := h_nwr (q := q26) (t := 1338) (f := fun _ => none) hq0 t_a0 (by decide) Ra0_14
  replace Ra0_15 := h_nwr (q := q26) (t := 1338) (f := fun _ => none) hq0 t_a0 (by decide) Ra0_15
  replace Ra0_16 := h_nwr (q := q26) (t := 1338) (f := fun _ => none) hq0 t_a0 (by decide) Ra0_16
  replace Ra0_17 := h_nwr (q := q26) (t := 1338) (f := fun _ => none) hq0 t_a0 (by decide) Ra0_17
  replace Ra0_18 := h_nwr (q := q26) (t := 1338) (f := fun _ => none) hq0 t_a0 (by decide) Ra0_18
  replace Ra0_19 := h_nwr (q := q26) (t := 1338) (f := fun _ => none) hq0 t_a0 (by decide) Ra0_19
  replace Ra0_20 := h_nwr (q := q26) (t := 1338) (f := fun _ => none) hq0 t_a0 (by decide) Ra0_20
  replace Ra0_21 := h_nwr (q := q26) (t := 1338) (f := fun _ => none) hq0 t_a0 (by decide) Ra0_21
  replace Ra0_22 := h_nwr (q := q26) (t := 1338) (f := fun _ => none) hq0 t_a0 (by decide) Ra0_22
  replace Ra0_23 := h_nwr (q := q26) (t := 1338) (f := fun _ => none) hq0 t_a0 (by decide) Ra0_23
  replace Ra0_24 := h_nwr (q := q26) (t := 1338) (f := fun _ => none) hq0 t_a0 (by decide) Ra0_24
  replace Ra0_25 := h_nwr (q := q26) (t := 1338) (f := fun _ => none) hq0 t_a0 (by decide) Ra0_25
  replace Ra0_26 := h_nwr (q := q26) (t := 1338) (f := fun _ => none) hq0 t_a0 (by decide) Ra0_26
  replace Ra0_27 := h_nwr (q := q26) (t := 1338) (f := fun _ => none) hq0 t_a0 (by decide) Ra0_27
  replace Ra0_28 := h_nwr (q := q26) (t := 1338) (f := fun _ => none) hq0 t_a0 (by decide) Ra0_28
  replace Ra0_29 := h_nwr (q := q26) (t := 1338) (f := fun _ => none) hq0 t_a0 (by decide) Ra0_29
  replace Ra0_32 := h_nwr (q := q26) (t := 1338) (f := fun _ => none) hq0 t_a0 (by decide) Ra0_32
  replace Ra0_34 := h_nwr (q := q26) (t := 1338) (f := fun _ => none) hq0 t_a0 (by decide) Ra0_34
  replace Ra0_35 := h_nwr (q := q26) (t := 1338) (f := fun _ => none) hq0 t_a0 (by decide) Ra0_35
  replace Ra0_36 := h_nwr (q := q26) (t := 1338) (f := fun _ => none) hq0 t_a0 (by decide) Ra0_36
  replace Ra0_37 := h_nwr (q := q26) (t := 1338) (f := fun _ => none) hq0 t_a0 (by decide) Ra0_37
  replace t_a0 := h_nwk (q := q26) (t := 1338) (f := fun _ => none) hq0 t_a0 (by decide)
  replace tq1 := h_nwk (q := q26) (t := 1338) (f := fun _ => none) hq0 tq1 (by decide)
  replace tq3 := h_nwk (q := q26) (t := 1338) (f := fun _ => none) hq0 tq3 (by decide)
  replace tq4 := h_nwk (q := q26) (t := 1338) (f := fun _ => none) hq0 tq4 (by decide)
  replace tq5 := h_nwk (q := q26) (t := 1338) (f := fun _ => none) hq0 tq5 (by decide)
  replace tq6 := h_nwk (q := q26) (t := 1338) (f := fun _ => none) hq0 tq6 (by decide)
  replace tq7 := h_nwk (q := q26) (t := 1338) (f := fun _ => none) hq0 tq7 (by decide)
  replace tq8 := h_nwk (q := q26) (t := 1338) (f := fun _ => none) hq0 tq8 (by decide)
  replace tq9 := h_nwk (q := q26) (t := 1338) (f := fun _ => none) hq0 tq9 (by decide)
  replace tq10 := h_nwk (q := q26) (t := 1338) (f := fun _ => none) hq0 tq10 (by decide)
  replace tq11 := h_nwk (q := q26) (t := 1338) (f := fun _ => none) hq0 tq11 (by decide)
  replace tq12 := h_nwk (q := q26) (t := 1338) (f := fun _ => none) hq0 tq12 (by decide)
  replace tq13 := h_nwk (q := q26) (t := 1338) (f := fun _ => none) hq0 tq13 (by decide)
  replace tq14 := h_nwk (q := q26) (t := 1338) (f := fun _ => none) hq0 tq14 (by decide)
  replace tq15 := h_nwk (q := q26) (t := 1338) (f := fun _ => none) hq0 tq15 (by decide)
  replace tq16 := h_nwk (q := q26) (t := 1338) (f := fun _ => none) hq0 tq16 (by decide)
  replace tq17 := h_nwk (q := q26) (t := 1338) (f := fun _ => none) hq0 tq17 (by decide)
  replace tq18 := h_nwk (q := q26) (t := 1338) (f := fun _ => none) hq0 tq18 (by decide)
  replace tq19 := h_nwk (q := q26) (t := 1338) (f := fun _ => none) hq0 tq19 (by decide)
  replace tq20 := h_nwk (q := q26) (t := 1338) (f := fun _ => none) hq0 tq20 (by decide)
  replace tq21 := h_nwk (q := q26) (t := 1338) (f := fun _ => none) hq0 tq21 (by decide)
  replace tq22 := h_nwk (q := q26) (t := 1338) (f := fun _ => none) hq0 tq22 (by decide)
  replace tq23 := h_nwk (q := q26) (t := 1338) (f := fun _ => none) hq0 tq23 (by decide)
  replace tq24 := h_nwk (q := q26) (t := 1338) (f := fun _ => none) hq0 tq24 (by decide)
  replace tq25 := h_nwk (q := q26) (t := 1338) (f := fun _ => none) hq0 tq25 (by decide)
  replace tq26 : (z.nw q26 1338 (fun _ => none)).ty q26 = 1338 := nw_te
  obtain ⟨z, ez⟩ : ∃ z1 : tZ, z1 = (z.nw q26 1338 (fun _ => none)) := ⟨_, rfl⟩
  rw [← ez] at g hI hR hZ hQ hu_q26 t_a0 tq1 tq3 tq4 tq5 tq6 tq7 tq8 tq9 tq10 tq11 tq12 tq13 tq14 tq15 tq16 tq17 tq18 tq19 tq20 tq21 tq22 tq23 tq24 tq25 tq26 Ra0_0 Ra0_10 Ra0_11 Ra0_14 Ra0_15 Ra0_16 Ra0_17 Ra0_18 Ra0_19 Ra0_20 Ra0_21 Ra0_22 Ra0_23 Ra0_24 Ra0_25 Ra0_26 Ra0_27 Ra0_28 Ra0_29 Ra0_32 Ra0_34 Ra0_35 Ra0_36 Ra0_37
  clear ez
  obtain ⟨I0, eI⟩ : ∃ J : tI, J = h_row I0 q26 (fun _ => 0) := ⟨_, rfl⟩
  rw [← eI] at g hI hZ hQ hz kf_a0_9 z_laws
  clear eI
  replace hF : h_F [(1310, 999), (1325, 999), (1326, 999), (1328, 999), (62, 9)] z I0 I0 := h_F.rf
  refine W.cs (cells' := 25) (slots' := 2906) rfl rfl ?_
  replace kf_a0_9 : I0 a0 9 = (-1) := kf_a0_9
  replace hZ := hZ.tcall hF rfl
  replace hQ := hQ.tc hF rfl
  refine h_putR (ty := tyX12 38) (v := q26) hx hb hts iX12 tyX12 tyX12_ok nmX12 hown g t_a0 (by decide) so_62 rfl 38 (by decide) rfl (hts (.fieldLink RX12 88 "CapLeagueModel" "worths" "[I") (by decide +kernel)) rfl rfl hin rfl (by decide +kernel) rfl rfl dX12_init_209 (fun H locs g => ?_)
  replace hQ := hQ.wR (a := a0) (k := 38) (v := q26) t_a0 (by decide) tq26 (by decide) (fun h9 => ⟨hu_q26, n_q26⟩)
  replace hR := hR.wR (k0 := 38) (v := some q26) t_a0 (fun _ => rfl)
  replace hZ := hZ.wR (a := a0) (k := 38) (v := some q26) (Or.inl rfl)
  replace hI : h_I (z.wR a0 38 (some q26)) I0 := hI
  replace t_a0 : (z.wR a0 38 (some q26)).ty a0 = 62 := t_a0
  replace tq1 : (z.wR a0 38 (some q26)).ty q1 = 1300 := tq1
  replace tq3 : (z.wR a0 38 (some q26)).ty q3 = 1310 := tq3
  replace tq4 : (z.wR a0 38 (some q26)).ty q4 = 1311 := tq4
  replace tq5 : (z.wR a0 38 (some q26)).ty q5 = 1314 := tq5
  replace tq6 : (z.wR a0 38 (some q26)).ty q6 = 1315 := tq6
  replace tq7 : (z.wR a0 38 (some q26)).ty q7 = 1316 := tq7
  replace tq8 : (z.wR a0 38 (some q26)).ty q8 = 1317 := tq8
  replace tq9 : (z.wR a0 38 (some q26)).ty q9 = 1318 := tq9
  replace tq10 : (z.wR a0 38 (some q26)).ty q10 = 1319 := tq10
  replace tq11 : (z.wR a0 38 (some q26)).ty q11 = 1320 := tq11
  replace tq12 : (z.wR a0 38 (some q26)).ty q12 = 1321 := tq12
  replace tq13 : (z.wR a0 38 (some q26)).ty q13 = 1322 := tq13
  replace tq14 : (z.wR a0 38 (some q26)).ty q14 = 1323 := tq14
  replace tq15 : (z.wR a0 38 (some q26)).ty q15 = 1324 := tq15
  replace tq16 : (z.wR a0 38 (some q26)).ty q16 = 1325 := tq16
  replace tq17 : (z.wR a0 38 (some q26)).ty q17 = 1326 := tq17
  replace tq18 : (z.wR a0 38 (some q26)).ty q18 = 1327 := tq18
  replace tq19 : (z.wR a0 38 (some q26)).ty q19 = 1328 := tq19
  replace tq20 : (z.wR a0 38 (some q26)).ty q20 = 1329 := tq20
  replace tq21 : (z.wR a0 38 (some q26)).ty q21 = 1332 := tq21
  replace tq22 : (z.wR a0 38 (some q26)).ty q22 = 1334 := tq22
  replace tq23 : (z.wR a0 38 (some q26)).ty q23 = 1335 := tq23
  replace tq24 : (z.wR a0 38 (some q26)).ty q24 = 1336 := tq24
  replace tq25 : (z.wR a0 38 (some q26)).ty q25 = 1337 := tq25
  replace tq26 : (z.wR a0 38 (some q26)).ty q26 = 1338 := tq26
  replace Ra0_0 : (z.wR a0 38 (some q26)).R a0 0 = some q1 := (h_up_at (by decide)).trans Ra0_0
  replace Ra0_10 : (z.wR a0 38 (some q26)).R a0 10 = some q3 := (h_up_at (by decide)).trans Ra0_10
  replace Ra0_11 : (z.wR a0 38 (some q26)).R a0 11 = some q4 := (h_up_at (by decide)).trans Ra0_11
  replace Ra0_14 : (z.wR a0 38 (some q26)).R a0 14 = some q5 := (h_up_at (by decide)).trans Ra0_14
  replace Ra0_15 : (z.wR a0 38 (some q26)).R a0 15 = some q6 := (h_up_at (by decide)).trans Ra0_15
  replace Ra0_16 : (z.wR a0 38 (some q26)).R a0 16 = some q7 := (h_up_at (by decide)).trans Ra0_16
  replace Ra0_17 : (z.wR a0 38 (some q26)).R a0 17 = some q8 := (h_up_at (by decide)).trans Ra0_17
  replace Ra0_18 : (z.wR a0 38 (some q26)).R a0 18 = some q9 := (h_up_at (by decide)).trans Ra0_18
  replace Ra0_19 : (z.wR a0 38 (some q26)).R a0 19 = some q10 := (h_up_at (by decide)).trans Ra0_19
  replace Ra0_20 : (z.wR a0 38 (some q26)).R a0 20 = some q11 := (h_up_at (by decide)).trans Ra0_20
  replace Ra0_21 : (z.wR a0 38 (some q26)).R a0 21 = some q12 := (h_up_at (by decide)).trans Ra0_21
  replace Ra0_22 : (z.wR a0 38 (some q26)).R a0 22 = some q13 := (h_up_at (by decide)).trans Ra0_22
  replace Ra0_23 : (z.wR a0 38 (some q26)).R a0 23 = some q14 := (h_up_at (by decide)).trans Ra0_23
  replace Ra0_24 : (z.wR a0 38 (some q26)).R a0 24 = some q15 := (h_up_at (by decide)).trans Ra0_24
  replace Ra0_25 : (z.wR a0 38 (some q26)).R a0 25 = some q16 := (h_up_at (by decide)).trans Ra0_25
  replace Ra0_26 : (z.wR a0 38 (some q26)).R a0 26 = some q17 := (h_up_at (by decide)).trans Ra0_26
  replace Ra0_27 : (z.wR a0 38 (some q26)).R a0 27 = some q18 := (h_up_at (by decide)).trans Ra0_27
  replace Ra0_28 : (z.wR a0 38 (some q26)).R a0 28 = some q19 := (h_up_at (by decide)).trans Ra0_28
  replace Ra0_29 : (z.wR a0 38 (some q26)).R a0 29 = some q20 := (h_up_at (by decide)).trans Ra0_29
  replace Ra0_32 : (z.wR a0 38 (some q26)).R a0 32 = some q21 := (h_up_at (by decide)).trans Ra0_32
  replace Ra0_34 : (z.wR a0 38 (some q26)).R a0 34 = some q22 := (h_up_at (by decide)).trans Ra0_34
  replace Ra0_35 : (z.wR a0 38 (some q26)).R a0 35 = some q23 := (h_up_at (by decide)).trans Ra0_35
  replace Ra0_36 : (z.wR a0 38 (some q26)).R a0 36 = some q24 := (h_up_at (by decide)).trans Ra0_36
  replace Ra0_37 : (z.wR a0 38 (some q26)).R a0 37 = some q25 := (h_up_at (by decide)).trans Ra0_37
  replace Ra0_38 : (z.wR a0 38 (some q26)).R a0 38 = some q26 := h_up_eq
  obtain ⟨z, ez⟩ : ∃ z1 : tZ, z1 = (z.wR a0 38 (some q26)) := ⟨_, rfl⟩
  rw [← ez] at g hI hR hZ hQ t_a0 tq1 tq3 tq4 tq5 tq6 tq7 tq8 tq9 tq10 tq11 tq12 tq13 tq14 tq15 tq16 tq17 tq18 tq19 tq20 tq21 tq22 tq23 tq24 tq25 tq26 Ra0_0 Ra0_10 Ra0_11 Ra0_14 Ra0_15 Ra0_16 Ra0_17 Ra0_18 Ra0_19 Ra0_20 Ra0_21 Ra0_22 Ra0_23 Ra0_24 Ra0_25 Ra0_26 Ra0_27 Ra0_28 Ra0_29 Ra0_32 Ra0_34 Ra0_35 Ra0_36 Ra0_37 Ra0_38
  clear ez
  replace hF : h_F [(1310, 999), (1325, 999), (1326, 999), (1328, 999), (62, 9)] z I0 I0 := h_F.rf
  refine lv_aload_n hx hb dX12_init_212 rfl (lv_at hl 0 rfl) ?_
  refine lv_iconst (v := 3) hx hb dX12_init_213 (by decide) ?_
  replace kf_a0_9 : I0 a0 9 = (-1) := kf_a0_9
  replace hZ := hZ.tcall hF rfl
  replace hQ := hQ.tc hF rfl
  refine h_newI hx hb (hts (.arrayClass .int) (by decide +kernel)) g hA so_1339 (by decide) (by decide) (by decide) (Nat.le_of_ble_eq_true rfl) (Nat.le_of_ble_eq_true rfl) dX12_init_214 (fun q27 H hq0 g => ?_)
  have n_q27 := hZ.fresh hq0 (fun h => h_neq t_a0 (by decide) hq0 (Option.some.inj h).symm)
  replace hu_q27 := hQ.1.u (q := q27) (t := 1339) hq0
  replace hQ := hQ.nw (q := q27) (t := 1339) hq0 (by decide)
  replace hI := hI.nw (q := q27) (t := 1339) (f := fun _ => none)
  replace hR := hR.nw (q := q27) (t := 1339) (f := fun _ => none) hq0 (fun k t2 n2 h => by cases (show (none : Option (Nat × Bool)) = some (t2, n2) from h))
  replace hZ := hZ.nw (q := q27) (t := 1339) (f := fun _ => none) hq0 (L2 := L0) (fun _ _ => rfl)
  replace hz : h_row I0 q27 (fun _ => 0) a0 = (fun j => if j = 9 then (-1) else (fun _ => 0) j) := (h_row_n (h_neq t_a0 (by decide) hq0)).trans hz
  replace kf_a0_9 : h_row I0 q27 (fun _ => 0) a0 9 = (-1) := (congrFun (h_row_n (h_neq t_a0 (by decide) hq0)) 9).trans kf_a0_9
  have z_laws : h_row I0 q27 (fun _ => 0) q3 = fun _ => 0 := (h_row_n (h_neq tq3 (by decide) hq0)).trans z_laws
  replace Ra0_0 := h_nwr (q := q27) (t := 1339) (f := fun _ => none) hq0 t_a0 (by decide) Ra0_0
  replace Ra0_10 := h_nwr (q := q27) (t := 1339) (f := fun _ => none) hq0 t_a0 (by decide) Ra0_10
  replace Ra0_11 := h_nwr (q := q27) (t := 1339) (f := fun _ => none) hq0 t_a0 (by decide) Ra0_11
  replace Ra0_14 := h_nwr (q := q27) (t := 1339) (f := fun _ => none) hq0 t_a0 (by decide) Ra0_14
  replace Ra0_15 := h_nwr (q := q27) (t := 1339) (f := fun _ => none) hq0 t_a0 (by decide) Ra0_15
  replace Ra0_16 := h_nwr (q := q27) (t := 1339) (f := fun _ => none) hq0 t_a0 (by decide) Ra0_16
  replace Ra0_17 := h_nwr (q := q27) (t := 1339) (f := fun _ => none) hq0 t_a0 (by decide) Ra0_17
  replace Ra0_18 := h_nwr (q := q27) (t := 1339) (f := fun _ => none) hq0 t_a0 (by decide) Ra0_18
  replace Ra0_19 := h_nwr (q := q27) (t := 1339) (f := fun _ => none) hq0 t_a0 (by decide) Ra0_19
  replace Ra0_20 := h_nwr (q := q27) (t := 1339) (f := fun _ => none) hq0 t_a0 (by decide) Ra0_20
  replace Ra0_21 := h_nwr (q := q27) (t := 1339) (f := fun _ => none) hq0 t_a0 (by decide) Ra0_21
  replace Ra0_22 := h_nwr (q := q27) (t := 1339) (f := fun _ => none) hq0 t_a0 (by decide) Ra0_22
  replace Ra0_23 := h_nwr (q := q27) (t := 1339) (f := fun _ => none) hq0 t_a0 (by decide) Ra0_23
  replace Ra0_24 := h_nwr (q := q27) (t := 1339) (f := fun _ => none) hq0 t_a0 (by decide) Ra0_24
  replace Ra0_25 := h_nwr (q := q27) (t := 1339) (f := fun _ => none) hq0 t_a0 (by decide) Ra0_25
  replace Ra0_26 := h_nwr (q := q27) (t := 1339) (f := fun _ => none) hq0 t_a0 (by decide) Ra0_26
  replace Ra0_27 := h_nwr (q := q27) (t := 1339) (f := fun _ => none) hq0 t_a0 (by decide) Ra0_27
  replace Ra0_28 := h_nwr (q := q27) (t := 1339) (f := fun _ => none) hq0 t_a0 (by decide) Ra0_28
  replace Ra0_29 := h_nwr (q := q27) (t := 1339) (f := fun _ => none) hq0 t_a0 (by decide) Ra0_29
  replace Ra0_32 := h_nwr (q := q27) (t := 1339) (f := fun _ => none) hq0 t_a0 (by decide) Ra0_32
  replace Ra0_34 := h_nwr (q := q27) (t := 1339) (f := fun _ => none) hq0 t_a0 (by decide) Ra0_34
  replace Ra0_35 := h_nwr (q := q27) (t := 1339) (f := fun _ => none) hq0 t_a0 (by decide) Ra0_35
  replace Ra0_36 := h_nwr (q := q27) (t := 1339) (f := fun _ => none) hq0 t_a0 (by decide) Ra0_36
  replace Ra0_37 := h_nwr (q := q27) (t := 1339) (f := fun _ => none) hq0 t_a0 (by decide) Ra0_37
  replace Ra0_38 := h_nwr (q := q27) (t := 1339) (f := fun _ => none) hq0 t_a0 (by decide) Ra0_38
  replace t_a0 := h_nwk (q := q27) (t := 1339) (f := fun _ => none) hq0 t_a0 (by decide)
  replace tq1 := h_nwk (q := q27) (t := 1339) (f := fun _ => none) hq0 tq1 (by decide)
  replace tq3 := h_nwk (q := q27) (t := 1339) (f := fun _ => none) hq0 tq3 (by decide)
  replace tq4 := h_nwk (q := q27) (t := 1339) (f := fun _ => none) hq0 tq4 (by decide)
  replace tq5 := h_nwk (q := q27) (t := 1339) (f := fun _ => none) hq0 tq5 (by decide)
  replace tq6 := h_nwk (q := q27) (t := 1339) (f := fun _ => none) hq0 tq6 (by decide)
  replace tq7 := h_nwk (q := q27) (t := 1339) (f := fun _ => none) hq0 tq7 (by decide)
  replace tq8 := h_nwk (q := q27) (t := 1339) (f := fun _ => none) hq0 tq8 (by decide)
  replace tq9 := h_nwk (q := q27) (t := 1339) (f := fun _ => none) hq0 tq9 (by decide)
  replace tq10 := h_nwk (q := q27) (t := 1339) (f := fun _ => none) hq0 tq10 (by decide)
  replace tq11 := h_nwk (q := q27) (t := 1339) (f := fun _ => none) hq0 tq11 (by decide)
  replace tq12 := h_nwk (q := q27) (t := 1339) (f := fun _ => none) hq0 tq12 (by decide)
  replace tq13 := h_nwk (q := q27) (t := 1339) (f := fun _ => none) hq0 tq13 (by decide)
  replace tq14 := h_nwk (q := q27) (t := 1339) (f := fun _ => none) hq0 tq14 (by decide)
  replace tq15 := h_nwk (q := q27) (t := 1339) (f := fun _ => none) hq0 tq15 (by decide)
  replace tq16 := h_nwk (q := q27) (t := 1339) (f := fun _ => none) hq0 tq16 (by decide)
  replace tq17 := h_nwk (q := q27) (t := 1339) (f := fun _ => none) hq0 tq17 (by decide)
  replace tq18 := h_nwk (q := q27) (t := 1339) (f := fun _ => none) hq0 tq18 (by decide)
  replace tq19 := h_nwk (q := q27) (t := 1339) (f := fun _ => none) hq0 tq19 (by decide)
  replace tq20 := h_nwk (q := q27) (t := 1339) (f := fun _ => none) hq0 tq20 (by decide)
  replace tq21 := h_nwk (q := q27) (t := 1339) (f := fun _ => none) hq0 tq21 (by decide)
  replace tq22 := h_nwk (q := q27) (t := 1339) (f := fun _ => none) hq0 tq22 (by decide)
  replace tq23 := h_nwk (q := q27) (t := 1339) (f := fun _ => none) hq0 tq23 (by decide)
  replace tq24 := h_nwk (q := q27) (t := 1339) (f := fun _ => none) hq0 tq24 (by decide)
  replace tq25 := h_nwk (q := q27) (t := 1339) (f := fun _ => none) hq0 tq25 (by decide)
  replace tq26 := h_nwk (q := q27) (t := 1339) (f := fun _ => none) hq0 tq26 (by decide)
  replace tq27 : (z.nw q27 1339 (fun _ => none)).ty q27 = 1339 := nw_te
  obtain ⟨z, ez⟩ : ∃ z1 : tZ, z1 = (z.nw q27 1339 (fun _ => none)) := ⟨_, rfl⟩
  rw [← ez] at g hI hR hZ hQ hu_q27 t_a0 tq1 tq3 tq4 tq5 tq6 tq7 tq8 tq9 tq10 tq11 tq12 tq13 tq14 tq15 tq16 tq17 tq18 tq19 tq20 tq21 tq22 tq23 tq24 tq25 tq26 tq27 Ra0_0 Ra0_10 Ra0_11 Ra0_14 Ra0_15 Ra0_16 Ra0_17 Ra0_18 Ra0_19 Ra0_20 Ra0_21 Ra0_22 Ra0_23 Ra0_24 Ra0_25 Ra0_26 Ra0_27 Ra0_28 Ra0_29 Ra0_32 Ra0_34 Ra0_35 Ra0_36 Ra0_37 Ra0_38
  clear ez
  obtain ⟨I0, eI⟩ : ∃ J : tI, J = h_row I0 q27 (fun _ => 0) := ⟨_, rfl⟩
  rw [← eI] at g hI hZ hQ hz kf_a0_9 z_laws
  clear eI
  replace hF : h_F [(1310, 999), (1325, 999), (1326, 999), (1328, 999), (62, 9)] z I0 I0 := h_F.rf
  refine W.cs (cells' := 26) (slots' := 2909) rfl rfl ?_
  replace kf_a0_9 : I0 a0 9 = (-1) := kf_a0_9
  replace hZ := hZ.tcall hF rfl
  replace hQ := hQ.tc hF rfl
  refine h_putR (ty := tyX12 39) (v := q27) hx hb hts iX12 tyX12 tyX12_ok nmX12 hown g t_a0 (by decide) so_62 rfl 39 (by decide) rfl (hts (.fieldLink RX12 91 "CapLeagueModel" "ringClub" "[I") (by decide +kernel)) rfl rfl hin rfl (by decide +kernel) rfl rfl dX12_init_216 (fun H locs g => ?_)
  replace hQ := hQ.wR (a := a0) (k := 39) (v := q27) t_a0 (by decide) tq27 (by decide) (fun h9 => ⟨hu_q27, n_q27⟩)
  replace hR := hR.wR (k0 := 39) (v := some q27) t_a0 (fun _ => rfl)
  replace hZ := hZ.wR (a := a0) (k := 39) (v := some q27) (Or.inl rfl)
  replace hI : h_I (z.wR a0 39 (some q27)) I0 := hI
  replace t_a0 : (z.wR a0 39 (some q27)).ty a0 = 62 := t_a0
  replace tq1 : (z.wR a0 39 (some q27)).ty q1 = 1300 := tq1
  replace tq3 : (z.wR a0 39 (some q27)).ty q3 = 1310 := tq3
  replace tq4 : (z.wR a0 39 (some q27)).ty q4 = 1311 := tq4
  replace tq5 : (z.wR a0 39 (some q27)).ty q5 = 1314 := tq5
  replace tq6 : (z.wR a0 39 (some q27)).ty q6 = 1315 := tq6
  replace tq7 : (z.wR a0 39 (some q27)).ty q7 = 1316 := tq7
  replace tq8 : (z.wR a0 39 (some q27)).ty q8 = 1317 := tq8
  replace tq9 : (z.wR a0 39 (some q27)).ty q9 = 1318 := tq9
  replace tq10 : (z.wR a0 39 (some q27)).ty q10 = 1319 := tq10
  replace tq11 : (z.wR a0 39 (some q27)).ty q11 = 1320 := tq11
  replace tq12 : (z.wR a0 39 (some q27)).ty q12 = 1321 := tq12
  replace tq13 : (z.wR a0 39 (some q27)).ty q13 = 1322 := tq13
  replace tq14 : (z.wR a0 39 (some q27)).ty q14 = 1323 := tq14
  replace tq15 : (z.wR a0 39 (some q27)).ty q15 = 1324 := tq15
  replace tq16 : (z.wR a0 39 (some q27)).ty q16 = 1325 := tq16
  replace tq17 : (z.wR a0 39 (some q27)).ty q17 = 1326 := tq17
  replace tq18 : (z.wR a0 39 (some q27)).ty q18 = 1327 := tq18
  replace tq19 : (z.wR a0 39 (some q27)).ty q19 = 1328 := tq19
  replace tq20 : (z.wR a0 39 (some q27)).ty q20 = 1329 := tq20
  replace tq21 : (z.wR a0 39 (some q27)).ty q21 = 1332 := tq21
  replace tq22 : (z.wR a0 39 (some q27)).ty q22 = 1334 := tq22
  replace tq23 : (z.wR a0 39 (some q27)).ty q23 = 1335 := tq23
  replace tq24 : (z.wR a0 39 (some q27)).ty q24 = 1336 := tq24
  replace tq25 : (z.wR a0 39 (some q27)).ty q25 = 1337 := tq25
  replace tq26 : (z.wR a0 39 (some q27)).ty q26 = 1338 := tq26
  replace tq27 : (z.wR a0 39 (some q27)).ty q27 = 1339 := tq27
  replace Ra0_0 : (z.wR a0 39 (some q27)).R a0 0 = some q1 := (h_up_at (by decide)).trans Ra0_0
  replace Ra0_10 : (z.wR a0 39 (some q27)).R a0 10 = some q3 := (h_up_at (by decide)).trans Ra0_10
  replace Ra0_11 : (z.wR a0 39 (some q27)).R a0 11 = some q4 := (h_up_at (by decide)).trans Ra0_11
  replace Ra0_14 : (z.wR a0 39 (some q27)).R a0 14 = some q5 := (h_up_at (by decide)).trans Ra0_14
  replace Ra0_15 : (z.wR a0 39 (some q27)).R a0 15 = some q6 := (h_up_at (by decide)).trans Ra0_15
  replace Ra0_16 : (z.wR a0 39 (some q27)).R a0 16 = some q7 := (h_up_at (by decide)).trans Ra0_16
  replace Ra0_17 : (z.wR a0 39 (some q27)).R a0 17 = some q8 := (h_up_at (by decide)).trans Ra0_17
  replace Ra0_18 : (z.wR a0 39 (some q27)).R a0 18 = some q9 := (h_up_at (by decide)).trans Ra0_18
  replace Ra0_19 : (z.wR a0 39 (some q27)).R a0 19 = some q10 := (h_up_at (by decide)).trans Ra0_19
  replace Ra0_20 : (z.wR a0 39 (some q27)).R a0 20 = some q11 := (h_up_at (by decide)).trans Ra0_20
  replace Ra0_21 : (z.wR a0 39 (some q27)).R a0 21 = some q12 := (h_up_at (by decide)).trans Ra0_21
  replace Ra0_22 : (z.wR a0 39 (some q27)).R a0 22 = some q13 := (h_up_at (by decide)).trans Ra0_22
  replace Ra0_23 : (z.wR a0 39 (some q27)).R a0 23 = some q14 := (h_up_at (by decide)).trans Ra0_23
  replace Ra0_24 : (z.wR a0 39 (some q27)).R a0 24 = some q15 := (h_up_at (by decide)).trans Ra0_24
  replace Ra0_25 : (z.wR a0 39 (some q27)).R a0 25 = some q16 := (h_up_at (by decide)).trans Ra0_25
  replace Ra0_26 : (z.wR a0 39 (some q27)).R a0 26 = some q17 := (h_up_at (by decide)).trans Ra0_26
  replace Ra0_27 : (z.wR a0 39 (some q27)).R a0 27 = some q18 := (h_up_at (by decide)).trans Ra0_27
  replace Ra0_28 : (z.wR a0 39 (some q27)).R a0 28 = some q19 := (h_up_at (by decide)).trans Ra0_28
  replace Ra0_29 : (z.wR a0 39 (some q27)).R a0 29 = some q20 := (h_up_at (by decide)).trans Ra0_29
  replace Ra0_32 : (z.wR a0 39 (some q27)).R a0 32 = some q21 := (h_up_at (by decide)).trans Ra0_32
  replace Ra0_34 : (z.wR a0 39 (some q27)).R a0 34 = some q22 := (h_up_at (by decide)).trans Ra0_34
  replace Ra0_35 : (z.wR a0 39 (some q27)).R a0 35 = some q23 := (h_up_at (by decide)).trans Ra0_35
  replace Ra0_36 : (z.wR a0 39 (some q27)).R a0 36 = some q24 := (h_up_at (by decide)).trans Ra0_36
  replace Ra0_37 : (z.wR a0 39 (some q27)).R a0 37 = some q25 := (h_up_at (by decide)).trans Ra0_37
  replace Ra0_38 : (z.wR a0 39 (some q27)).R a0 38 = some q26 := (h_up_at (by decide)).trans Ra0_38
  replace Ra0_39 : (z.wR a0 39 (some q27)).R a0 39 = some q27 := h_up_eq
  obtain ⟨z, ez⟩ : ∃ z1 : tZ, z1 = (z.wR a0 39 (some q27)) := ⟨_, rfl⟩
  rw [← ez] at g hI hR hZ hQ t_a0 tq1 tq3 tq4 tq5 tq6 tq7 tq8 tq9 tq10 tq11 tq12 tq13 tq14 tq15 tq16 tq17 tq18 tq19 tq20 tq21 tq22 tq23 tq24 tq25 tq26 tq27 Ra0_0 Ra0_10 Ra0_11 Ra0_14 Ra0_15 Ra0_16 Ra0_17 Ra0_18 Ra0_19 Ra0_20 Ra0_21 Ra0_22 Ra0_23 Ra0_24 Ra0_25 Ra0_26 Ra0_27 Ra0_28 Ra0_29 Ra0_32 Ra0_34 Ra0_35 Ra0_36 Ra0_37 Ra0_38 Ra0_39
  clear ez
  replace hF : h_F [(1310, 999), (1325, 999), (1326, 999), (1328, 999), (62, 9)] z I0 I0 := h_F.rf
  refine lv_aload_n hx hb dX12_init_219 rfl (lv_at hl 0 rfl) ?_
  refine lv_iconst (v := 3) hx hb dX12_init_220 (by decide) ?_
  replace kf_a0_9 : I0 a0 9 = (-1) := kf_a0_9
  replace hZ := hZ.tcall hF rfl
  replace hQ := hQ.tc hF rfl
  refine h_newI hx hb (hts (.arrayClass .int) (by decide +kernel)) g hA so_1340 (by decide) (by decide) (by decide) (Nat.le_of_ble_eq_true rfl) (Nat.le_of_ble_eq_true rfl) dX12_init_221 (fun q28 H hq0 g => ?_)
  have n_q28 := hZ.fresh hq0 (fun h => h_neq t_a0 (by decide) hq0 (Option.some.inj h).symm)
  replace hu_q28 := hQ.1.u (q := q28) (t := 1340) hq0
  replace hQ := hQ.nw (q := q28) (t := 1340) hq0 (by decide)
  replace hI := hI.nw (q := q28) (t := 1340) (f := fun _ => none)
  replace hR := hR.nw (q := q28) (t := 1340) (f := fun _ => none) hq0 (fun k t2 n2 h => by cases (show (none : Option (Nat × Bool)) = some (t2, n2) from h))
  replace hZ := hZ.nw (q := q28) (t := 1340) (f := fun _ => none) hq0 (L2 := L0) (fun _ _ => rfl)
  replace hz : h_row I0 q28 (fun _ => 0) a0 = (fun j => if j = 9 then (-1) else (fun _ => 0) j) := (h_row_n (h_neq t_a0 (by decide) hq0)).trans hz
  replace kf_a0_9 : h_row I0 q28 (fun _ => 0) a0 9 = (-1) := (congrFun (h_row_n (h_neq t_a0 (by decide) hq0)) 9).trans kf_a0_9
  have z_laws : h_row I0 q28 (fun _ => 0) q3 = fun _ => 0 := (h_row_n (h_neq tq3 (by decide) hq0)).trans z_laws
  replace Ra0_0 := h_nwr (q := q28) (t := 1340) (f := fun _ => none) hq0 t_a0 (by decide) Ra0_0
  replace Ra0_10 := h_nwr (q := q28) (t := 1340) (f := fun _ => none) hq0 t_a0 (by decide) Ra0_10
  replace Ra0_11 := h_nwr (q := q28) (t := 1340) (f := fun _ => none) hq0 t_a0 (by decide) Ra0_11
  replace Ra0_14 := h_nwr (q := q28) (t := 1340) (f := fun _ => none) hq0 t_a0 (by decide) Ra0_14
  replace Ra0_15 := h_nwr (q := q28) (t := 1340) (f := fun _ => none) hq0 t_a0 (by decide) Ra0_15
  replace Ra0_16 := h_nwr (q := q28) (t := 1340) (f := fun _ => none) hq0 t_a0 (by decide) Ra0_16
  replace Ra0_17 := h_nwr (q := q28) (t := 1340) (f := fun _ => none) hq0 t_a0 (by decide) Ra0_17
  replace Ra0_18 := h_nwr (q := q28) (t := 1340) (f := fun _ => none) hq0 t_a0 (by decide) Ra0_18
  replace Ra0_19 := h_nwr (q := q28) (t := 1340) (f := fun _ => none) hq0 t_a0 (by decide) Ra0_19
  replace Ra0_20 := h_nwr (q := q28) (t := 1340) (f := fun _ => none) hq0 t_a0 (by decide) Ra0_20
  replace Ra0_21 := h_nwr (q := q28) (t := 1340) (f := fun _ => none) hq0 t_a0 (by decide) Ra0_21
  replace Ra0_22 := h_nwr (q := q28) (t := 1340) (f := fun _ => none) hq0 t_a0 (by decide) Ra0_22
  replace Ra0_23 := h_nwr (q := q28) (t := 1340) (f := fun _ => none) hq0 t_a0 (by decide) Ra0_23
  replace Ra0_24 := h_nwr (q := q28) (t := 1340) (f := fun _ => none) hq0 t_a0 (by decide) Ra0_24
  replace Ra0_25 := h_nwr (q := q28) (t := 1340) (f := fun _ => none) hq0 t_a0 (by decide) Ra0_25
  replace Ra0_26 := h_nwr (q := q28) (t := 1340) (f := fun _ => none) hq0 t_a0 (by decide) Ra0_26
  replace Ra0_27 := h_nwr (q := q28) (t := 1340) (f := fun _ => none) hq0 t_a0 (by decide) Ra0_27
  replace Ra0_28 := h_nwr (q := q28) (t := 1340) (f := fun _ => none) hq0 t_a0 (by decide) Ra0_28
  replace Ra0_29 := h_nwr (q := q28) (t := 1340) (f := fun _ => none) hq0 t_a0 (by decide) Ra0_29
  replace Ra0_32 := h_nwr (q := q28) (t := 1340) (f := fun _ => none) hq0 t_a0 (by decide) Ra0_32
  replace Ra0_34 := h_nwr (q := q28) (t := 1340) (f := fun _ => none) hq0 t_a0 (by decide) Ra0_34
  replace Ra0_35 := h_nwr (q := q28) (t := 1340) (f := fun _ => none) hq0 t_a0 (by decide) Ra0_35
  replace Ra0_36 := h_nwr (q := q28) (t := 1340) (f := fun _ => none) hq0 t_a0 (by decide) Ra0_36
  replace Ra0_37 := h_nwr (q := q28) (t := 1340) (f := fun _ => none) hq0 t_a0 (by decide) Ra0_37
  replace Ra0_38 := h_nwr (q := q28) (t := 1340) (f := fun _ => none) hq0 t_a0 (by decide) Ra0_38
  replace Ra0_39 := h_nwr (q := q28) (t := 1340) (f := fun _ => none) hq0 t_a0 (by decide) Ra0_39
  replace t_a0 := h_nwk (q := q28) (t := 1340) (f := fun _ => none) hq0 t_a0 (by decide)
  replace tq1 := h_nwk (q := q28) (t := 1340) (f := fun _ => none) hq0 tq1 (by decide)
  replace tq3 := h_nwk (q := q28) (t := 1340) (f := fun _ => none) hq0 tq3 (by decide)
  replace tq4 := h_nwk (q := q28) (t := 1340) (f := fun _ => none) hq0 tq4 (by decide)
  replace tq5 := h_nwk (q := q28) (t := 1340) (f := fun _ => none) hq0 tq5 (by decide)
  replace tq6 := h_nwk (q := q28) (t := 1340) (f := fun _ => none) hq0 tq6 (by decide)
  replace tq7 := h_nwk (q := q28) (t := 1340) (f := fun _ => none) hq0 tq7 (by decide)
  replace tq8 := h_nwk (q := q28) (t := 1340) (f := fun _ => none) hq0 tq8 (by decide)
  replace tq9 := h_nwk (q := q28) (t := 1340) (f := fun _ => none) hq0 tq9 (by decide)
  replace tq10 := h_nwk (q := q28) (t := 1340) (f := fun _ => none) hq0 tq10 (by decide)
  replace tq11 := h_nwk (q := q28) (t := 1340) (f := fun _ => none) hq0 tq11 (by decide)
  replace tq12 := h_nwk (q := q28) (t := 1340) (f := fun _ => none) hq0 tq12 (by decide)
  replace tq13 := h_nwk (q := q28) (t := 1340) (f := fun _ => none) hq0 tq13 (by decide)
  replace tq14 := h_nwk (q := q28) (t := 1340) (f := fun _ => none) hq0 tq14 (by decide)
  replace tq15 := h_nwk (q := q28) (t := 1340) (f := fun _ => none) hq0 tq15 (by decide)
  replace tq16 := h_nwk (q := q28) (t := 1340) (f := fun _ => none) hq0 tq16 (by decide)
  replace tq17 := h_nwk (q := q28) (t := 1340) (f := fun _ => none) hq0 tq17 (by decide)
  replace tq18 := h_nwk (q := q28) (t := 1340) (f := fun _ => none) hq0 tq18 (by decide)
  replace tq19 := h_nwk (q := q28) (t := 1340) (f := fun _ => none) hq0 tq19 (by decide)
  replace tq20 := h_nwk (q := q28) (t := 1340) (f := fun _ => none) hq0 tq20 (by decide)
  replace tq21 := h_nwk (q := q28) (t := 1340) (f := fun _ => none) hq0 tq21 (by decide)
  replace tq22 := h_nwk (q := q28) (t := 1340) (f := fun _ => none) hq0 tq22 (by decide)
  replace tq23 := h_nwk (q := q28) (t := 1340) (f := fun _ => none) hq0 tq23 (by decide)
  replace tq24 := h_nwk (q := q28) (t := 1340) (f := fun _ => none) hq0 tq24 (by decide)
  replace tq25 := h_nwk (q := q28) (t := 1340) (f := fun _ => none) hq0 tq25 (by decide)
  replace tq26 := h_nwk (q := q28) (t := 1340) (f := fun _ => none) hq0 tq26 (by decide)
  replace tq27 := h_nwk (q := q28) (t := 1340) (f := fun _ => none) hq0 tq27 (by decide)
  replace tq28 : (z.nw q28 1340 (fun _ => none)).ty q28 = 1340 := nw_te
  obtain ⟨z, ez⟩ : ∃ z1 : tZ, z1 = (z.nw q28 1340 (fun _ => none)) := ⟨_, rfl⟩
  rw [← ez] at g hI hR hZ hQ hu_q28 t_a0 tq1 tq3 tq4 tq5 tq6 tq7 tq8 tq9 tq10 tq11 tq12 tq13 tq14 tq15 tq16 tq17 tq18 tq19 tq20 tq21 tq22 tq23 tq24 tq25 tq26 tq27 tq28 Ra0_0 Ra0_10 Ra0_11 Ra0_14 Ra0_15 Ra0_16 Ra0_17 Ra0_18 Ra0_19 Ra0_20 Ra0_21 Ra0_22 Ra0_23 Ra0_24 Ra0_25 Ra0_26 Ra0_27 Ra0_28 Ra0_29 Ra0_32 Ra0_34 Ra0_35 Ra0_36 Ra0_37 Ra0_38 Ra0_39
  clear ez
  obtain ⟨I0, eI⟩ : ∃ J : tI, J = h_row I0 q28 (fun _ => 0) := ⟨_, rfl⟩
  rw [← eI] at g hI hZ hQ hz kf_a0_9 z_laws
  clear eI
  replace hF : h_F [(1310, 999), (1325, 999), (1326, 999), (1328, 999), (62, 9)] z I0 I0 := h_F.rf
  refine W.cs (cells' := 27) (slots' := 2912) rfl rfl ?_
  replace kf_a0_9 : I0 a0 9 = (-1) := kf_a0_9
  replace hZ := hZ.tcall hF rfl
  replace hQ := hQ.tc hF rfl
  refine h_putR (ty := tyX12 40) (v := q28) hx hb hts iX12 tyX12 tyX12_ok nmX12 hown g t_a0 (by decide) so_62 rfl 40 (by decide) rfl (hts (.fieldLink RX12 94 "CapLeagueModel" "ringGives" "[I") (by decide +kernel)) rfl rfl hin rfl (by decide +kernel) rfl rfl dX12_init_223 (fun H locs g => ?_)
  replace hQ := hQ.wR (a := a0) (k := 40) (v := q28) t_a0 (by decide) tq28 (by decide) (fun h9 => ⟨hu_q28, n_q28⟩)
  replace hR := hR.wR (k0 := 40) (v := some q28) t_a0 (fun _ => rfl)
  replace hZ := hZ.wR (a := a0) (k := 40) (v := some q28) (Or.inl rfl)
  replace hI : h_I (z.wR a0 40 (some q28)) I0 := hI
  replace t_a0 : (z.wR a0 40 (some q28)).ty a0 = 62 := t_a0
  replace tq1 : (z.wR a0 40 (some q28)).ty q1 = 1300 := tq1
  replace tq3 : (z.wR a0 40 (some q28)).ty q3 = 1310 := tq3
  replace tq4 : (z.wR a0 40 (some q28)).ty q4 = 1311 := tq4
  replace tq5 : (z.wR a0 40 (some q28)).ty q5 = 1314 := tq5
  replace tq6 : (z.wR a0 40 (some q28)).ty q6 = 1315 := tq6
  replace tq7 : (z.wR a0 40 (some q28)).ty q7 = 1316 := tq7
  replace tq8 : (z.wR a0 40 (some q28)).ty q8 = 1317 := tq8
  replace tq9 : (z.wR a0 40 (some q28)).ty q9 = 1318 := tq9
  replace tq10 : (z.wR a0 40 (some q28)).ty q10 = 1319 := tq10
  replace tq11 : (z.wR a0 40 (some q28)).ty q11 = 1320 := tq11
  replace tq12 : (z.wR a0 40 (some q28)).ty q12 = 1321 := tq12
  replace tq13 : (z.wR a0 40 (some q28)).ty q13 = 1322 := tq13
  replace tq14 : (z.wR a0 40 (some q28)).ty q14 = 1323 := tq14
  replace tq15 : (z.wR a0 40 (some q28)).ty q15 = 1324 := tq15
  replace tq16 : (z.wR a0 40 (some q28)).ty q16 = 1325 := tq16
  replace tq17 : (z.wR a0 40 (some q28)).ty q17 = 1326 := tq17
  replace tq18 : (z.wR a0 40 (some q28)).ty q18 = 1327 := tq18
  replace tq19 : (z.wR a0 40 (some q28)).ty q19 = 1328 := tq19
  replace tq20 : (z.wR a0 40 (some q28)).ty q20 = 1329 := tq20
  replace tq21 : (z.wR a0 40 (some q28)).ty q21 = 1332 := tq21
  replace tq22 : (z.wR a0 40 (some q28)).ty q22 = 1334 := tq22
  replace tq23 : (z.wR a0 40 (some q28)).ty q23 = 1335 := tq23
  replace tq24 : (z.wR a0 40 (some q28)).ty q24 = 1336 := tq24
  replace tq25 : (z.wR a0 40 (some q28)).ty q25 = 1337 := tq25
  replace tq26 : (z.wR a0 40 (some q28)).ty q26 = 1338 := tq26
  replace tq27 : (z.wR a0 40 (some q28)).ty q27 = 1339 := tq27
  replace tq28 : (z.wR a0 40 (some q28)).ty q28 = 1340 := tq28
  replace Ra0_0 : (z.wR a0 40 (some q28)).R a0 0 = some q1 := (h_up_at (by decide)).trans Ra0_0
  replace Ra0_10 : (z.wR a0 40 (some q28)).R a0 10 = some q3 := (h_up_at (by decide)).trans Ra0_10
  replace Ra0_11 : (z.wR a0 40 (some q28)).R a0 11 = some q4 := (h_up_at (by decide)).trans Ra0_11
  replace Ra0_14 : (z.wR a0 40 (some q28)).R a0 14 = some q5 := (h_up_at (by decide)).trans Ra0_14
  replace Ra0_15 : (z.wR a0 40 (some q28)).R a0 15 = some q6 := (h_up_at (by decide)).trans Ra0_15
  replace Ra0_16 : (z.wR a0 40 (some q28)).R a0 16 = some q7 := (h_up_at (by decide)).trans Ra0_16
  replace Ra0_17 : (z.wR a0 40 (some q28)).R a0 17 = some q8 := (h_up_at (by decide)).trans Ra0_17
  replace Ra0_18 : (z.wR a0 40 (some q28)).R a0 18 = some q9 := (h_up_at (by decide)).trans Ra0_18
  replace Ra0_19 : (z.wR a0 40 (some q28)).R a0 19 = some q10 := (h_up_at (by decide)).trans Ra0_19
  replace Ra0_20 : (z.wR a0 40 (some q28)).R a0 20 = some q11 := (h_up_at (by decide)).trans Ra0_20
  replace Ra0_21 : (z.wR a0 40 (some q28)).R a0 21 = some q12 := (h_up_at (by decide)).trans Ra0_21
  replace Ra0_22 : (z.wR a0 40 (some q28)).R a0 22 = some q13 := (h_up_at (by decide)).trans Ra0_22
  replace Ra0_23 : (z.wR a0 40 (some q28)).R a0 23 = some q14 := (h_up_at (by decide)).trans Ra0_23
  replace Ra0_24 : (z.wR a0 40 (some q28)).R a0 24 = some q15 := (h_up_at (by decide)).trans Ra0_24
  replace Ra0_25 : (z.wR a0 40 (some q28)).R a0 25 = some q16 := (h_up_at (by decide)).trans Ra0_25
  replace Ra0_26 : (z.wR a0 40 (some q28)).R a0 26 = some q17 := (h_up_at (by decide)).trans Ra0_26
  replace Ra0_27 : (z.wR a0 40 (some q28)).R a0 27 = some q18 := (h_up_at (by decide)).trans Ra0_27
  replace Ra0_28 : (z.wR a0 40 (some q28)).R a0 28 = some q19 := (h_up_at (by decide)).trans Ra0_28
  replace Ra0_29 : (z.wR a0 40 (some q28)).R a0 29 = some q20 := (h_up_at (by decide)).trans Ra0_29
  replace Ra0_32 : (z.wR a0 40 (some q28)).R a0 32 = some q21 := (h_up_at (by decide)).trans Ra0_32
  replace Ra0_34 : (z.wR a0 40 (some q28)).R a0 34 = some q22 := (h_up_at (by decide)).trans Ra0_34
  replace Ra0_35 : (z.wR a0 40 (some q28)).R a0 35 = some q23 := (h_up_at (by decide)).trans Ra0_35
  replace Ra0_36 : (z.wR a0 40 (some q28)).R a0 36 = some q24 := (h_up_at (by decide)).trans Ra0_36
  replace Ra0_37 : (z.wR a0 40 (some q28)).R a0 37 = some q25 := (h_up_at (by decide)).trans Ra0_37
  replace Ra0_38 : (z.wR a0 40 (some q28)).R a0 38 = some q26 := (h_up_at (by decide)).trans Ra0_38
  replace Ra0_39 : (z.wR a0 40 (some q28)).R a0 39 = some q27 := (h_up_at (by decide)).trans Ra0_39
  replace Ra0_40 : (z.wR a0 40 (some q28)).R a0 40 = some q28 := h_up_eq
  obtain ⟨z, ez⟩ : ∃ z1 : tZ, z1 = (z.wR a0 40 (some q28)) := ⟨_, rfl⟩
  rw [← ez] at g hI hR hZ hQ t_a0 tq1 tq3 tq4 tq5 tq6 tq7 tq8 tq9 tq10 tq11 tq12 tq13 tq14 tq15 tq16 tq17 tq18 tq19 tq20 tq21 tq22 tq23 tq24 tq25 tq26 tq27 tq28 Ra0_0 Ra0_10 Ra0_11 Ra0_14 Ra0_15 Ra0_16 Ra0_17 Ra0_18 Ra0_19 Ra0_20 Ra0_21 Ra0_22 Ra0_23 Ra0_24 Ra0_25 Ra0_26 Ra0_27 Ra0_28 Ra0_29 Ra0_32 Ra0_34 Ra0_35 Ra0_36 Ra0_37 Ra0_38 Ra0_39 Ra0_40
  clear ez
  replace hF : h_F [(1310, 999), (1325, 999), (1326, 999), (1328, 999), (62, 9)] z I0 I0 := h_F.rf
  refine lv_aload_n hx hb dX12_init_226 rfl (lv_at hl 0 rfl) ?_
  refine lv_iconst (v := 3) hx hb dX12_init_227 (by decide) ?_
  replace kf_a0_9 : I0 a0 9 = (-1) := kf_a0_9
  replace hZ := hZ.tcall hF rfl
  replace hQ := hQ.tc hF rfl
  refine h_newI hx hb (hts (.arrayClass .int) (by decide +kernel)) g hA so_1342 (by decide) (by decide) (by decide) (Nat.le_of_ble_eq_true rfl) (Nat.le_of_ble_eq_true rfl) dX12_init_228 (fun q29 H hq0 g => ?_)
  have n_q29 := hZ.fresh hq0 (fun h => h_neq t_a0 (by decide) hq0 (Option.some.inj h).symm)
  replace hu_q29 := hQ.1.u (q := q29) (t := 1342) hq0
  replace hQ := hQ.nw (q := q29) (t := 1342) hq0 (by decide)
  replace hI := hI.nw (q := q29) (t := 1342) (f := fun _ => none)
  replace hR := hR.nw (q := q29) (t := 1342) (f := fun _ => none) hq0 (fun k t2 n2 h => by cases (show (none : Option (Nat × Bool)) = some (t2, n2) from h))
  replace hZ := hZ.nw (q := q29) (t := 1342) (f := fun _ => none) hq0 (L2 := L0) (fun _ _ => rfl)
  replace hz : h_row I0 q29 (fun _ => 0) a0 = (fun j => if j = 9 then (-1) else (fun _ => 0) j) := (h_row_n (h_neq t_a0 (by decide) hq0)).trans hz
  replace kf_a0_9 : h_row I0 q29 (fun _ => 0) a0 9 = (-1) := (congrFun (h_row_n (h_neq t_a0 (by decide) hq0)) 9).trans kf_a0_9
  have z_laws : h_row I0 q29 (fun _ => 0) q3 = fun _ => 0 := (h_row_n (h_neq tq3 (by decide) hq0)).trans z_laws
  replace Ra0_0 := h_nwr (q := q29) (t := 1342) (f := fun _ => none) hq0 t_a0 (by decide) Ra0_0
  replace Ra0_10 := h_nwr (q := q29) (t := 1342) (f := fun _ => none) hq0 t_a0 (by decide) Ra0_10
  replace Ra0_11 := h_nwr (q := q29) (t := 1342) (f := fun _ => none) hq0 t_a0 (by decide) Ra0_11
  replace Ra0_14 := h_nwr (q := q29) (t := 1342) (f := fun _ => none) hq0 t_a0 (by decide) Ra0_14
  replace Ra0_15 := h_nwr (q := q29) (t := 1342) (f := fun _ => none) hq0 t_a0 (by decide) Ra0_15
  replace Ra0_16 := h_nwr (q := q29) (t := 1342) (f := fun _ => none) hq0 t_a0 (by decide) Ra0_16
  replace Ra0_17 := h_nwr (q := q29) (t := 1342) (f := fun _ => none) hq0 t_a0 (by decide) Ra0_17
  replace Ra0_18 := h_nwr (q := q29) (t := 1342) (f := fun _ => none) hq0 t_a0 (by decide) Ra0_18
  replace Ra0_19 := h_nwr (q := q29) (t := 1342) (f := fun _ => none) hq0 t_a0 (by decide) Ra0_19
  replace Ra0_20 := h_nwr (q := q29) (t := 1342) (f := fun _ => none) hq0 t_a0 (by decide) Ra0_20
  replace Ra0_21 := h_nwr (q := q29) (t := 1342) (f := fun _ => none) hq0 t_a0 (by decide) Ra0_21
  replace Ra0_22 := h_nwr (q := q29) (t := 1342) (f := fun _ => none) hq0 t_a0 (by decide) Ra0_22
  replace Ra0_23 := h_nwr (q := q29) (t := 1342) (f := fun _ => none) hq0 t_a0 (by decide) Ra0_23
  replace Ra0_24 := h_nwr (q := q29) (t := 1342) (f := fun _ => none) hq0 t_a0 (by decide) Ra0_24
  replace Ra0_25 := h_nwr (q := q29) (t := 1342) (f := fun _ => none) hq0 t_a0 (by decide) Ra0_25
  replace Ra0_26 := h_nwr (q := q29) (t := 1342) (f := fun _ => none) hq0 t_a0 (by decide) Ra0_26
  replace Ra0_27 := h_nwr (q := q29) (t := 1342) (f := fun _ => none) hq0 t_a0 (by decide) Ra0_27
  replace Ra0_28 := h_nwr (q := q29) (t := 1342) (f := fun _ => none) hq0 t_a0 (by decide) Ra0_28
  replace Ra0_29 := h_nwr (q := q29) (t := 1342) (f := fun _ => none) hq0 t_a0 (by decide) Ra0_29
  replace Ra0_32 := h_nwr (q := q29) (t := 1342) (f := fun _ => none) hq0 t_a0 (by decide) Ra0_32
  replace Ra0_34 := h_nwr (q := q29) (t := 1342) (f := fun _ => none) hq0 t_a0 (by decide) Ra0_34
  replace Ra0_35 := h_nwr (q := q29) (t := 1342) (f := fun _ => none) hq0 t_a0 (by decide) Ra0_35
  replace Ra0_36 := h_nwr (q := q29) (t := 1342) (f := fun _ => none) hq0 t_a0 (by decide) Ra0_36
  replace Ra0_37 := h_nwr (q := q29) (t := 1342) (f := fun _ => none) hq0 t_a0 (by decide) Ra0_37
  replace Ra0_38 := h_nwr (q := q29) (t := 1342) (f := fun _ => none) hq0 t_a0 (by decide) Ra0_38
  replace Ra0_39 := h_nwr (q := q29) (t := 1342) (f := fun _ => none) hq0 t_a0 (by decide) Ra0_39
  replace Ra0_40 := h_nwr (q := q29) (t := 1342) (f := fun _ => none) hq0 t_a0 (by decide) Ra0_40
  replace t_a0 := h_nwk (q := q29) (t := 1342) (f := fun _ => none) hq0 t_a0 (by decide)
  replace tq1 := h_nwk (q := q29) (t := 1342) (f := fun _ => none) hq0 tq1 (by decide)
  replace tq3 := h_nwk (q := q29) (t := 1342) (f := fun _ => none) hq0 tq3 (by decide)
  replace tq4 := h_nwk (q := q29) (t := 1342) (f := fun _ => none) hq0 tq4 (by decide)
  replace tq5 := h_nwk (q := q29) (t := 1342) (f := fun _ => none) hq0 tq5 (by decide)
  replace tq6 := h_nwk (q := q29) (t := 1342) (f := fun _ => none) hq0 tq6 (by decide)
  replace tq7 := h_nwk (q := q29) (t := 1342) (f := fun _ => none) hq0 tq7 (by decide)
  replace tq8 := h_nwk (q := q29) (t := 1342) (f := fun _ => none) hq0 tq8 (by decide)
  replace tq9 := h_nwk (q := q29) (t := 1342) (f := fun _ => none) hq0 tq9 (by decide)
  replace tq10 := h_nwk (q := q29) (t := 1342) (f := fun _ => none) hq0 tq10 (by decide)
  replace tq11 := h_nwk (q := q29) (t := 1342) (f := fun _ => none) hq0 tq11 (by decide)
  replace tq12 := h_nwk (q := q29) (t := 1342) (f := fun _ => none) hq0 tq12 (by decide)
  replace tq13 := h_nwk (q := q29) (t := 1342) (f := fun _ => none) hq0 tq13 (by decide)
  replace tq14 := h_nwk (q := q29) (t := 1342) (f := fun _ => none) hq0 tq14 (by decide)
  replace tq15 := h_nwk (q := q29) (t := 1342) (f := fun _ => none) hq0 tq15 (by decide)
  replace tq16 := h_nwk (q := q29) (t := 1342) (f := fun _ => none) hq0 tq16 (by decide)
  replace tq17 := h_nwk (q := q29) (t := 1342) (f := fun _ => none) hq0 tq17 (by decide)
  replace tq18 := h_nwk (q := q29) (t := 1342) (f := fun _ => none) hq0 tq18 (by decide)
  replace tq19 := h_nwk (q := q29) (t := 1342) (f := fun _ => none) hq0 tq19 (by decide)
  replace tq20 := h_nwk (q := q29) (t := 1342) (f := fun _ => none) hq0 tq20 (by decide)
  replace tq21 := h_nwk (q := q29) (t := 1342) (f := fun _ => none) hq0 tq21 (by decide)
  replace tq22 := h_nwk (q := q29) (t := 1342) (f := fun _ => none) hq0 tq22 (by decide)
  replace tq23 := h_nwk (q := q29) (t := 1342) (f := fun _ => none) hq0 tq23 (by decide)
  replace tq24 := h_nwk (q := q29) (t := 1342) (f := fun _ => none) hq0 tq24 (by decide)
  replace tq25 := h_nwk (q := q29) (t := 1342) (f := fun _ => none) hq0 tq25 (by decide)
  replace tq26 := h_nwk (q := q29) (t := 1342) (f := fun _ => none) hq0 tq26 (by decide)
  replace tq27 := h_nwk (q := q29) (t := 1342) (f := fun _ => none) hq0 tq27 (by decide)
  replace tq28 := h_nwk (q := q29) (t := 1342) (f := fun _ => none) hq0 tq28 (by decide)
  replace tq29 : (z.nw q29 1342 (fun _ => none)).ty q29 = 1342 := nw_te
  obtain ⟨z, ez⟩ : ∃ z1 : tZ, z1 = (z.nw q29 1342 (fun _ => none)) := ⟨_, rfl⟩
  rw [← ez] at g hI hR hZ hQ hu_q29 t_a0 tq1 tq3 tq4 tq5 tq6 tq7 tq8 tq9 tq10 tq11 tq12 tq13 tq14 tq15 tq16 tq17 tq18 tq19 tq20 tq21 tq22 tq23 tq24 tq25 tq26 tq27 tq28 tq29 Ra0_0 Ra0_10 Ra0_11 Ra0_14 Ra0_15 Ra0_16 Ra0_17 Ra0_18 Ra0_19 Ra0_20 Ra0_21 Ra0_22 Ra0_23 Ra0_24 Ra0_25 Ra0_26 Ra0_27 Ra0_28 Ra0_29 Ra0_32 Ra0_34 Ra0_35 Ra0_36 Ra0_37 Ra0_38 Ra0_39 Ra0_40
  clear ez
  obtain ⟨I0, eI⟩ : ∃ J : tI, J = h_row I0 q29 (fun _ => 0) := ⟨_, rfl⟩
  rw [← eI] at g hI hZ hQ hz kf_a0_9 z_laws
  clear eI
  replace hF : h_F [(1310, 999), (1325, 999), (1326, 999), (1328, 999), (62, 9)] z I0 I0 := h_F.rf
  refine W.cs (cells' := 28) (slots' := 2915) rfl rfl ?_
  replace kf_a0_9 : I0 a0 9 = (-1) := kf_a0_9
  replace hZ := hZ.tcall hF rfl
  replace hQ := hQ.tc hF rfl
  refine h_putR (ty := tyX12 42) (v := q29) hx hb hts iX12 tyX12 tyX12_ok nmX12 hown g t_a0 (by decide) so_62 rfl 42 (by decide) rfl (hts (.fieldLink RX12 97 "CapLeagueModel" "triedClub" "[I") (by decide +kernel)) rfl rfl hin rfl (by decide +kernel) rfl rfl dX12_init_230 (fun H locs g => ?_)
  replace hQ := hQ.wR (a := a0) (k := 42) (v := q29) t_a0 (by decide) tq29 (by decide) (fun h9 => ⟨hu_q29, n_q29⟩)
  replace hR := hR.wR (k0 := 42) (v := some q29) t_a0 (fun _ => rfl)
  replace hZ := hZ.wR (a := a0) (k := 42) (v := some q29) (Or.inl rfl)
  replace hI : h_I (z.wR a0 42 (some q29)) I0 := hI
  replace t_a0 : (z.wR a0 42 (some q29)).ty a0 = 62 := t_a0
  replace tq1 : (z.wR a0 42 (some q29)).ty q1 = 1300 := tq1
  replace tq3 : (z.wR a0 42 (some q29)).ty q3 = 1310 := tq3
  replace tq4 : (z.wR a0 42 (some q29)).ty q4 = 1311 := tq4
  replace tq5 : (z.wR a0 42 (some q29)).ty q5 = 1314 := tq5
  replace tq6 : (z.wR a0 42 (some q29)).ty q6 = 1315 := tq6
  replace tq7 : (z.wR a0 42 (some q29)).ty q7 = 1316 := tq7
  replace tq8 : (z.wR a0 42 (some q29)).ty q8 = 1317 := tq8
  replace tq9 : (z.wR a0 42 (some q29)).ty q9 = 1318 := tq9
  replace tq10 : (z.wR a0 42 (some q29)).ty q10 = 1319 := tq10
  replace tq11 : (z.wR a0 42 (some q29)).ty q11 = 1320 := tq11
  replace tq12 : (z.wR a0 42 (some q29)).ty q12 = 1321 := tq12
  replace tq13 : (z.wR a0 42 (some q29)).ty q13 = 1322 := tq13
  replace tq14 : (z.wR a0 42 (some q29)).ty q14 = 1323 := tq14
  replace tq15 : (z.wR a0 42 (some q29)).ty q15 = 1324 := tq15
  replace tq16 : (z.wR a0 42 (some q29)).ty q16 = 1325 := tq16
  replace tq17 : (z.wR a0 42 (some q29)).ty q17 = 1326 := tq17
  replace tq18 : (z.wR a0 42 (some q29)).ty q18 = 1327 := tq18
  replace tq19 : (z.wR a0 42 (some q29)).ty q19 = 1328 := tq19
  replace tq20 : (z.wR a0 42 (some q29)).ty q20 = 1329 := tq20
  replace tq21 : (z.wR a0 42 (some q29)).ty q21 = 1332 := tq21
  replace tq22 : (z.wR a0 42 (some q29)).ty q22 = 1334 := tq22
  replace tq23 : (z.wR a0 42 (some q29)).ty q23 = 1335 := tq23
  replace tq24 : (z.wR a0 42 (some q29)).ty q24 = 1336 := tq24
  replace tq25 : (z.wR a0 42 (some q29)).ty q25 = 1337 := tq25
  replace tq26 : (z.wR a0 42 (some q29)).ty q26 = 1338 := tq26
  replace tq27 : (z.wR a0 42 (some q29)).ty q27 = 1339 := tq27
  replace tq28 : (z.wR a0 42 (some q29)).ty q28 = 1340 := tq28
  replace tq29 : (z.wR a0 42 (some q29)).ty q29 = 1342 := tq29
  replace Ra0_0 : (z.wR a0 42 (some q29)).R a0 0 = some q1 := (h_up_at (by decide)).trans Ra0_0
  replace Ra0_10 : (z.wR a0 42 (some q29)).R a0 10 = some q3 := (h_up_at (by decide)).trans Ra0_10
  replace Ra0_11 : (z.wR a0 42 (some q29)).R a0 11 = some q4 := (h_up_at (by decide)).trans Ra0_11
  replace Ra0_14 : (z.wR a0 42 (some q29)).R a0 14 = some q5 := (h_up_at (by decide)).trans Ra0_14
  replace Ra0_15 : (z.wR a0 42 (some q29)).R a0 15 = some q6 := (h_up_at (by decide)).trans Ra0_15
  replace Ra0_16 : (z.wR a0 42 (some q29)).R a0 16 = some q7 := (h_up_at (by decide)).trans Ra0_16
  replace Ra0_17 : (z.wR a0 42 (some q29)).R a0 17 = some q8 := (h_up_at (by decide)).trans Ra0_17
  replace Ra0_18 : (z.wR a0 42 (some q29)).R a0 18 = some q9 := (h_up_at (by decide)).trans Ra0_18
  replace Ra0_19 : (z.wR a0 42 (some q29)).R a0 19 = some q10 := (h_up_at (by decide)).trans Ra0_19
  replace Ra0_20 : (z.wR a0 42 (some q29)).R a0 20 = some q11 := (h_up_at (by decide)).trans Ra0_20
  replace Ra0_21 : (z.wR a0 42 (some q29)).R a0 21 = some q12 := (h_up_at (by decide)).trans Ra0_21
  replace Ra0_22 : (z.wR a0 42 (some q29)).R a0 22 = some q13 := (h_up_at (by decide)).trans Ra0_22
  replace Ra0_23 : (z.wR a0 42 (some q29)).R a0 23 = some q14 := (h_up_at (by decide)).trans Ra0_23
  replace Ra0_24 : (z.wR a0 42 (some q29)).R a0 24 = some q15 := (h_up_at (by decide)).trans Ra0_24
  replace Ra0_25 : (z.wR a0 42 (some q29)).R a0 25 = some q16 := (h_up_at (by decide)).trans Ra0_25
  replace Ra0_26 : (z.wR a0 42 (some q29)).R a0 26 = some q17 := (h_up_at (by decide)).trans Ra0_26
  replace Ra0_27 : (z.wR a0 42 (some q29)).R a0 27 = some q18 := (h_up_at (by decide)).trans Ra0_27
  replace Ra0_28 : (z.wR a0 42 (some q29)).R a0 28 = some q19 := (h_up_at (by decide)).trans Ra0_28
  replace Ra0_29 : (z.wR a0 42 (some q29)).R a0 29 = some q20 := (h_up_at (by decide)).trans Ra0_29
  replace Ra0_32 : (z.wR a0 42 (some q29)).R a0 32 = some q21 := (h_up_at (by decide)).trans Ra0_32
  replace Ra0_34 : (z.wR a0 42 (some q29)).R a0 34 = some q22 := (h_up_at (by decide)).trans Ra0_34
  replace Ra0_35 : (z.wR a0 42 (some q29)).R a0 35 = some q23 := (h_up_at (by decide)).trans Ra0_35
  replace Ra0_36 : (z.wR a0 42 (some q29)).R a0 36 = some q24 := (h_up_at (by decide)).trans Ra0_36
  replace Ra0_37 : (z.wR a0 42 (some q29)).R a0 37 = some q25 := (h_up_at (by decide)).trans Ra0_37
  replace Ra0_38 : (z.wR a0 42 (some q29)).R a0 38 = some q26 := (h_up_at (by decide)).trans Ra0_38
  replace Ra0_39 : (z.wR a0 42 (some q29)).R a0 39 = some q27 := (h_up_at (by decide)).trans Ra0_39
  replace Ra0_40 : (z.wR a0 42 (some q29)).R a0 40 = some q28 := (h_up_at (by decide)).trans Ra0_40
  replace Ra0_42 : (z.wR a0 42 (some q29)).R a0 42 = some q29 := h_up_eq
  obtain ⟨z, ez⟩ : ∃ z1 : tZ, z1 = (z.wR a0 42 (some q29)) := ⟨_, rfl⟩
  rw [← ez] at g hI hR hZ hQ t_a0 tq1 tq3 tq4 tq5 tq6 tq7 tq8 tq9 tq10 tq11 tq12 tq13 tq14 tq15 tq16 tq17 tq18 tq19 tq20 tq21 tq22 tq23 tq24 tq25 tq26 tq27 tq28 tq29 Ra0_0 Ra0_10 Ra0_11 Ra0_14 Ra0_15 Ra0_16 Ra0_17 Ra0_18 Ra0_19 Ra0_20 Ra0_21 Ra0_22 Ra0_23 Ra0_24 Ra0_25 Ra0_26 Ra0_27 Ra0_28 Ra0_29 Ra0_32 Ra0_34 Ra0_35 Ra0_36 Ra0_37 Ra0_38 Ra0_39 Ra0_40 Ra0_42
  clear ez
  replace hF : h_F [(1310, 999), (1325, 999), (1326, 999), (1328, 999), (62, 9)] z I0 I0 := h_F.rf
  refine lv_aload_n hx hb dX12_init_233 rfl (lv_at hl 0 rfl) ?_
  refine lv_iconst (v := 3) hx hb dX12_init_234 (by decide) ?_
  replace kf_a0_9 : I0 a0 9 = (-1) := kf_a0_9
  replace hZ := hZ.tcall hF rfl
  replace hQ := hQ.tc hF rfl
  refine h_newI hx hb (hts (.arrayClass .int) (by decide +kernel)) g hA so_1343 (by decide) (by decide) (by decide) (Nat.le_of_ble_eq_true rfl) (Nat.le_of_ble_eq_true rfl) dX12_init_235 (fun q30 H hq0 g => ?_)
  have n_q30 := hZ.fresh hq0 (fun h => h_neq t_a0 (by decide) hq0 (Option.some.inj h).symm)
  replace hu_q30 := hQ.1.u (q := q30) (t := 1343) hq0
  replace hQ := hQ.nw (q := q30) (t := 1343) hq0 (by decide)
  replace hI := hI.nw (q := q30) (t := 1343) (f := fun _ => none)
  replace hR := hR.nw (q := q30) (t := 1343) (f := fun _ => none) hq0 (fun k t2 n2 h => by cases (show (none : Option (Nat × Bool)) = some (t2, n2) from h))
  replace hZ := hZ.nw (q := q30) (t := 1343) (f := fun _ => none) hq0 (L2 := L0) (fun _ _ => rfl)
  replace hz : h_row I0 q30 (fun _ => 0) a0 = (fun j => if j = 9 then (-1) else (fun _ => 0) j) := (h_row_n (h_neq t_a0 (by decide) hq0)).trans hz
  replace kf_a0_9 : h_row I0 q30 (fun _ => 0) a0 9 = (-1) := (congrFun (h_row_n (h_neq t_a0 (by decide) hq0)) 9).trans kf_a0_9
  have z_laws : h_row I0 q30 (fun _ => 0) q3 = fun _ => 0 := (h_row_n (h_neq tq3 (by decide) hq0)).trans z_laws
  replace Ra0_0 := h_nwr (q := q30) (t := 1343) (f := fun _ => none) hq0 t_a0 (by decide) Ra0_0
  replace Ra0_10 := h_nwr (q := q30) (t := 1343) (f := fun _ => none) hq0 t_a0 (by decide) Ra0_10
  replace Ra0_11 := h_nwr (q := q30) (t := 1343) (f := fun _ => none) hq0 t_a0 (by decide) Ra0_11
  replace Ra0_14 := h_nwr (q := q30) (t := 1343) (f := fun _ => none) hq0 t_a0 (by decide) Ra0_14
  replace Ra0_15 := h_nwr (q := q30) (t := 1343) (f := fun _ => none) hq0 t_a0 (by decide) Ra0_15
  replace Ra0_16 := h_nwr (q := q30) (t := 1343) (f := fun _ => none) hq0 t_a0 (by decide) Ra0_16
  replace Ra0_17 := h_nwr (q := q30) (t := 1343) (f := fun _ => none) hq0 t_a0 (by decide) Ra0_17
  replace Ra0_18 := h_nwr (q := q30) (t := 1343) (f := fun _ => none) hq0 t_a0 (by decide) Ra0_18
  replace Ra0_19 := h_nwr (q := q30) (t := 1343) (f := fun _ => none) hq0 t_a0 (by decide) Ra0_19
  replace Ra0_20 := h_nwr (q := q30) (t := 1343) (f := fun _ => none) hq0 t_a0 (by decide) Ra0_20
  replace Ra0_21 := h_nwr (q := q30) (t := 1343) (f := fun _ => none) hq0 t_a0 (by decide) Ra0_21
  replace Ra0_22 := h_nwr (q := q30) (t := 1343) (f := fun _ => none) hq0 t_a0 (by decide) Ra0_22
  replace Ra0_23 := h_nwr (q := q30) (t := 1343) (f := fun _ => none) hq0 t_a0 (by decide) Ra0_23
  replace Ra0_24 := h_nwr (q := q30) (t := 1343) (f := fun _ => none) hq0 t_a0 (by decide) Ra0_24
  replace Ra0_25 := h_nwr (q := q30) (t := 1343) (f := fun _ => none) hq0 t_a0 (by decide) Ra0_25
  replace Ra0_26 := h_nwr (q := q30) (t := 1343) (f := fun _ => none) hq0 t_a0 (by decide) Ra0_26
  replace Ra0_27 := h_nwr (q := q30) (t := 1343) (f := fun _ => none) hq0 t_a0 (by decide) Ra0_27
  replace Ra0_28 := h_nwr (q := q30) (t := 1343) (f := fun _ => none) hq0 t_a0 (by decide) Ra0_28
  replace Ra0_29 := h_nwr (q := q30) (t := 1343) (f := fun _ => none) hq0 t_a0 (by decide) Ra0_29
  replace Ra0_32 := h_nwr (q := q30) (t := 1343) (f := fun _ => none) hq0 t_a0 (by decide) Ra0_32
  replace Ra0_34 := h_nwr (q := q30) (t := 1343) (f := fun _ => none) hq0 t_a0 (by decide) Ra0_34
  replace Ra0_35 := h_nwr (q := q30) (t := 1343) (f := fun _ => none) hq0 t_a0 (by decide) Ra0_35
  replace Ra0_36 := h_nwr (q := q30) (t := 1343) (f := fun _ => none) hq0 t_a0 (by decide) Ra0_36
  replace Ra0_37 := h_nwr (q := q30) (t := 1343) (f := fun _ => none) hq0 t_a0 (by decide) Ra0_37
  replace Ra0_38 := h_nwr (q := q30) (t := 1343) (f := fun _ => none) hq0 t_a0 (by decide) Ra0_38
  replace Ra0_39 := h_nwr (q := q30) (t := 1343) (f := fun _ => none) hq0 t_a0 (by decide) Ra0_39
  replace Ra0_40 := h_nwr (q := q30) (t := 1343) (f := fun _ => none) hq0 t_a0 (by decide) Ra0_40
  replace Ra0_42 := h_nwr (q := q30) (t := 1343) (f := fun _ => none) hq0 t_a0 (by decide) Ra0_42
  replace t_a0 := h_nwk (q := q30) (t := 1343) (f := fun _ => none) hq0 t_a0 (by decide)
  replace tq1 := h_nwk (q := q30) (t := 1343) (f := fun _ => none) hq0 tq1 (by decide)
  replace tq3 := h_nwk (q := q30) (t := 1343) (f := fun _ => none) hq0 tq3 (by decide)
  replace tq4 := h_nwk (q := q30) (t := 1343) (f := fun _ => none) hq0 tq4 (by decide)
  replace tq5 := h_nwk (q := q30) (t := 1343) (f := fun _ => none) hq0 tq5 (by decide)
  replace tq6 := h_nwk (q := q30) (t := 1343) (f := fun _ => none) hq0 tq6 (by decide)
  replace tq7 := h_nwk (q := q30) (t := 1343) (f := fun _ => none) hq0 tq7 (by decide)
  replace tq8 := h_nwk (q := q30) (t := 1343) (f := fun _ => none) hq0 tq8 (by decide)
  replace tq9 := h_nwk (q := q30) (t := 1343) (f := fun _ => none) hq0 tq9 (by decide)
  replace tq10 := h_nwk (q := q30) (t := 1343) (f := fun _ => none) hq0 tq10 (by decide)
  replace tq11 := h_nwk (q := q30) (t := 1343) (f := fun _ => none) hq0 tq11 (by decide)
  replace tq12 := h_nwk (q := q30) (t := 1343) (f := fun _ => none) hq0 tq12 (by decide)
  replace tq13 := h_nwk (q := q30) (t := 1343) (f := fun _ => none) hq0 tq13 (by decide)
  replace tq14 := h_nwk (q := q30) (t := 1343) (f := fun _ => none) hq0 tq14 (by decide)
  replace tq15 := h_nwk (q := q30) (t := 1343) (f := fun _ => none) hq0 tq15 (by decide)
  replace tq16 := h_nwk (q := q30) (t := 1343) (f := fun _ => none) hq0 tq16 (by decide)
  replace tq17 := h_nwk (q := q30) (t := 1343) (f := fun _ => none) hq0 tq17 (by decide)
  replace tq18 := h_nwk (q := q30) (t := 1343) (f := fun _ => none) hq0 tq18 (by decide)
  replace tq19 := h_nwk (q := q30) (t := 1343) (f := fun _ => none) hq0 tq19 (by decide)
  replace tq20 := h_nwk (q := q30) (t := 1343) (f := fun _ => none) hq0 tq20 (by decide)
  replace tq21 := h_nwk (q := q30) (t := 1343) (f := fun _ => none) hq0 tq21 (by decide)
  replace tq22 := h_nwk (q := q30) (t := 1343) (f := fun _ => none) hq0 tq22 (by decide)
  replace tq23 := h_nwk (q := q30) (t := 1343) (f := fun _ => none) hq0 tq23 (by decide)
  replace tq24 := h_nwk (q := q30) (t := 1343) (f := fun _ => none) hq0 tq24 (by decide)
  replace tq25 := h_nwk (q := q30) (t := 1343) (f := fun _ => none) hq0 tq25 (by decide)
  replace tq26 := h_nwk (q := q30) (t := 1343) (f := fun _ => none) hq0 tq26 (by decide)
  replace tq27 := h_nwk (q := q30) (t := 1343) (f := fun _ => none) hq0 tq27 (by decide)
  replace tq28 := h_nwk (q := q30) (t := 1343) (f := fun _ => none) hq0 tq28 (by decide)
  replace tq29 := h_nwk (q := q30) (t := 1343) (f := fun _ => none) hq0 tq29 (by decide)
  replace tq30 : (z.nw q30 1343 (fun _ => none)).ty q30 = 1343 := nw_te
  obtain ⟨z, ez⟩ : ∃ z1 : tZ, z1 = (z.nw q30 1343 (fun _ => none)) := ⟨_, rfl⟩
  rw [← ez] at g hI hR hZ hQ hu_q30 t_a0 tq1 tq3 tq4 tq5 tq6 tq7 tq8 tq9 tq10 tq11 tq12 tq13 tq14 tq15 tq16 tq17 tq18 tq19 tq20 tq21 tq22 tq23 tq24 tq25 tq26 tq27 tq28 tq29 tq30 Ra0_0 Ra0_10 Ra0_11 Ra0_14 Ra0_15 Ra0_16 Ra0_17 Ra0_18 Ra0_19 Ra0_20 Ra0_21 Ra0_22 Ra0_23 Ra0_24 Ra0_25 Ra0_26 Ra0_27 Ra0_28 Ra0_29 Ra0_32 Ra0_34 Ra0_35 Ra0_36 Ra0_37 Ra0_38 Ra0_39 Ra0_40 Ra0_42
  clear ez
  obtain ⟨I0, eI⟩ : ∃ J : tI, J = h_row I0 q30 (fun _ => 0) := ⟨_, rfl⟩
  rw [← eI] at g hI hZ hQ hz kf_a0_9 z_laws
  clear eI
  replace hF : h_F [(1310, 999), (1325, 999), (1326, 999), (1328, 999), (62, 9)] z I0 I0 := h_F.rf
  refine W.cs (cells' := 29) (slots' := 2918) rfl rfl ?_
  replace kf_a0_9 : I0 a0 9 = (-1) := kf_a0_9
  replace hZ := hZ.tcall hF rfl
  replace hQ := hQ.tc hF rfl
  refine h_putR (ty := tyX12 43) (v := q30) hx hb hts iX12 tyX12 tyX12_ok nmX12 hown g t_a0 (by decide) so_62 rfl 43 (by decide) rfl (hts (.fieldLink RX12 100 "CapLeagueModel" "triedGives" "[I") (by decide +kernel)) rfl rfl hin rfl (by decide +kernel) rfl rfl dX12_init_237 (fun H locs g => ?_)
  replace hQ := hQ.wR (a := a0) (k := 43) (v := q30) t_a0 (by decide) tq30 (by decide) (fun h9 => ⟨hu_q30, n_q30⟩)
  replace hR := hR.wR (k0 := 43) (v := some q30) t_a0 (fun _ => rfl)
  replace hZ := hZ.wR (a := a0) (k := 43) (v := some q30) (Or.inl rfl)
  replace hI : h_I (z.wR a0 43 (some q30)) I0 := hI
  replace t_a0 : (z.wR a0 43 (some q30)).ty a0 = 62 := t_a0
  replace tq1 : (z.wR a0 43 (some q30)).ty q1 = 1300 := tq1
  replace tq3 : (z.wR a0 43 (some q30)).ty q3 = 1310 := tq3
  replace tq4 : (z.wR a0 43 (some q30)).ty q4 = 1311 := tq4
  replace tq5 : (z.wR a0 43 (some q30)).ty q5 = 1314 := tq5
  replace tq6 : (z.wR a0 43 (some q30)).ty q6 = 1315 := tq6
  replace tq7 : (z.wR a0 43 (some q30)).ty q7 = 1316 := tq7
  replace tq8 : (z.wR a0 43 (some q30)).ty q8 = 1317 := tq8
  replace tq9 : (z.wR a0 43 (some q30)).ty q9 = 1318 := tq9
  replace tq10 : (z.wR a0 43 (some q30)).ty q10 = 1319 := tq10
  replace tq11 : (z.wR a0 43 (some q30)).ty q11 = 1320 := tq11
  replace tq12 : (z.wR a0 43 (some q30)).ty q12 = 1321 := tq12
  replace tq13 : (z.wR a0 43 (some q30)).ty q13 = 1322 := tq13
  replace tq14 : (z.wR a0 43 (some q30)).ty q14 = 1323 := tq14
  replace tq15 : (z.wR a0 43 (some q30)).ty q15 = 1324 := tq15
  replace tq16 : (z.wR a0 43 (some q30)).ty q16 = 1325 := tq16
  replace tq17 : (z.wR a0 43 (some q30)).ty q17 = 1326 := tq17
  replace tq18 : (z.wR a0 43 (some q30)).ty q18 = 1327 := tq18
  replace tq19 : (z.wR a0 43 (some q30)).ty q19 = 1328 := tq19
  replace tq20 : (z.wR a0 43 (some q30)).ty q20 = 1329 := tq20
  replace tq21 : (z.wR a0 43 (some q30)).ty q21 = 1332 := tq21
  replace tq22 : (z.wR a0 43 (some q30)).ty q22 = 1334 := tq22
  replace tq23 : (z.wR a0 43 (some q30)).ty q23 = 1335 := tq23
  replace tq24 : (z.wR a0 43 (some q30)).ty q24 = 1336 := tq24
  replace tq25 : (z.wR a0 43 (some q30)).ty q25 = 1337 := tq25
  replace tq26 : (z.wR a0 43 (some q30)).ty q26 = 1338 := tq26
  replace tq27 : (z.wR a0 43 (some q30)).ty q27 = 1339 := tq27
  replace tq28 : (z.wR a0 43 (some q30)).ty q28 = 1340 := tq28
  replace tq29 : (z.wR a0 43 (some q30)).ty q29 = 1342 := tq29
  replace tq30 : (z.wR a0 43 (some q30)).ty q30 = 1343 := tq30
  replace Ra0_0 : (z.wR a0 43 (some q30)).R a0 0 = some q1 := (h_up_at (by decide)).trans Ra0_0
  replace Ra0_10 : (z.wR a0 43 (some q30)).R a0 10 = some q3 := (h_up_at (by decide)).trans Ra0_10
  replace Ra0_11 : (z.wR a0 43 (some q30)).R a0 11 = some q4 := (h_up_at (by decide)).trans Ra0_11
  replace Ra0_14 : (z.wR a0 43 (some q30)).R a0 14 = some q5 := (h_up_at (by decide)).trans Ra0_14
  replace Ra0_15 : (z.wR a0 43 (some q30)).R a0 15 = some q6 := (h_up_at (by decide)).trans Ra0_15
  replace Ra0_16 : (z.wR a0 43 (some q30)).R a0 16 = some q7 := (h_up_at (by decide)).trans Ra0_16
  replace Ra0_17 : (z.wR a0 43 (some q30)).R a0 17 = some q8 := (h_up_at (by decide)).trans Ra0_17
  replace Ra0_18 : (z.wR a0 43 (some q30)).R a0 18 = some q9 := (h_up_at (by decide)).trans Ra0_18
  replace Ra0_19 : (z.wR a0 43 (some q30)).R a0 19 = some q10 := (h_up_at (by decide)).trans Ra0_19
  replace Ra0_20 : (z.wR a0 43 (some q30)).R a0 20 = some q11 := (h_up_at (by decide)).trans Ra0_20
  replace Ra0_21 : (z.wR a0 43 (some q30)).R a0 21 = some q12 := (h_up_at (by decide)).trans Ra0_21
  replace Ra0_22 : (z.wR a0 43 (some q30)).R a0 22 = some q13 := (h_up_at (by decide)).trans Ra0_22
  replace Ra0_23 : (z.wR a0 43 (some q30)).R a0 23 = some q14 := (h_up_at (by decide)).trans Ra0_23
  replace Ra0_24 : (z.wR a0 43 (some q30)).R a0 24 = some q15 := (h_up_at (by decide)).trans Ra0_24
  replace Ra0_25 : (z.wR a0 43 (some q30)).R a0 25 = some q16 := (h_up_at (by decide)).trans Ra0_25
  replace Ra0_26 : (z.wR a0 43 (some q30)).R a0 26 = some q17 := (h_up_at (by decide)).trans Ra0_26
  replace Ra0_27 : (z.wR a0 43 (some q30)).R a0 27 = some q18 := (h_up_at (by decide)).trans Ra0_27
  replace Ra0_28 : (z.wR a0 43 (some q30)).R a0 28 = some q19 := (h_up_at (by decide)).trans Ra0_28
  replace Ra0_29 : (z.wR a0 43 (some q30)).R a0 29 = some q20 := (h_up_at (by decide)).trans Ra0_29
  replace Ra0_32 : (z.wR a0 43 (some q30)).R a0 32 = some q21 := (h_up_at (by decide)).trans Ra0_32
  replace Ra0_34 : (z.wR a0 43 (some q30)).R a0 34 = some q22 := (h_up_at (by decide)).trans Ra0_34
  replace Ra0_35 : (z.wR a0 43 (some q30)).R a0 35 = some q23 := (h_up_at (by decide)).trans Ra0_35
  replace Ra0_36 : (z.wR a0 43 (some q30)).R a0 36 = some q24 := (h_up_at (by decide)).trans Ra0_36
  replace Ra0_37 : (z.wR a0 43 (some q30)).R a0 37 = some q25 := (h_up_at (by decide)).trans Ra0_37
  replace Ra0_38 : (z.wR a0 43 (some q30)).R a0 38 = some q26 := (h_up_at (by decide)).trans Ra0_38
  replace Ra0_39 : (z.wR a0 43 (some q30)).R a0 39 = some q27 := (h_up_at (by decide)).trans Ra0_39
  replace Ra0_40 : (z.wR a0 43 (some q30)).R a0 40 = some q28 := (h_up_at (by decide)).trans Ra0_40
  replace Ra0_42 : (z.wR a0 43 (some q30)).R a0 42 = some q29 := (h_up_at (by decide)).trans Ra0_42
  replace Ra0_43 : (z.wR a0 43 (some q30)).R a0 43 = some q30 := h_up_eq
  obtain ⟨z, ez⟩ : ∃ z1 : tZ, z1 = (z.wR a0 43 (some q30)) := ⟨_, rfl⟩
  rw [← ez] at g hI hR hZ hQ t_a0 tq1 tq3 tq4 tq5 tq6 tq7 tq8 tq9 tq10 tq11 tq12 tq13 tq14 tq15 tq16 tq17 tq18 tq19 tq20 tq21 tq22 tq23 tq24 tq25 tq26 tq27 tq28 tq29 tq30 Ra0_0 Ra0_10 Ra0_11 Ra0_14 Ra0_15 Ra0_16 Ra0_17 Ra0_18 Ra0_19 Ra0_20 Ra0_21 Ra0_22 Ra0_23 Ra0_24 Ra0_25 Ra0_26 Ra0_27 Ra0_28 Ra0_29 Ra0_32 Ra0_34 Ra0_35 Ra0_36 Ra0_37 Ra0_38 Ra0_39 Ra0_40 Ra0_42 Ra0_43
  clear ez
  replace hF : h_F [(1310, 999), (1325, 999), (1326, 999), (1328, 999), (62, 9)] z I0 I0 := h_F.rf
  refine lv_aload_n hx hb dX12_init_240 rfl (lv_at hl 0 rfl) ?_
  refine lv_iconst (v := 3) hx hb dX12_init_241 (by decide) ?_
  replace kf_a0_9 : I0 a0 9 = (-1) := kf_a0_9
  replace hZ := hZ.tcall hF rfl
  replace hQ := hQ.tc hF rfl
  refine h_newI hx hb (hts (.arrayClass .int) (by decide +kernel)) g hA so_1346 (by decide) (by decide) (by decide) (Nat.le_of_ble_eq_true rfl) (Nat.le_of_ble_eq_true rfl) dX12_init_242 (fun q31 H hq0 g => ?_)
  have n_q31 := hZ.fresh hq0 (fun h => h_neq t_a0 (by decide) hq0 (Option.some.inj h).symm)
  replace hu_q31 := hQ.1.u (q := q31) (t := 1346) hq0
  replace hQ := hQ.nw (q := q31) (t := 1346) hq0 (by decide)
  replace hI := hI.nw (q := q31) (t := 1346) (f := fun _ => none)
  replace hR := hR.nw (q := q31) (t := 1346) (f := fun _ => none) hq0 (fun k t2 n2 h => by cases (show (none : Option (Nat × Bool)) = some (t2, n2) from h))
  replace hZ := hZ.nw (q := q31) (t := 1346) (f := fun _ => none) hq0 (L2 := L0) (fun _ _ => rfl)
  replace hz : h_row I0 q31 (fun _ => 0) a0 = (fun j => if j = 9 then (-1) else (fun _ => 0) j) := (h_row_n (h_neq t_a0 (by decide) hq0)).trans hz
  replace kf_a0_9 : h_row I0 q31 (fun _ => 0) a0 9 = (-1) := (congrFun (h_row_n (h_neq t_a0 (by decide) hq0)) 9).trans kf_a0_9
  have z_laws : h_row I0 q31 (fun _ => 0) q3 = fun _ => 0 := (h_row_n (h_neq tq3 (by decide) hq0)).trans z_laws
  replace Ra0_0 := h_nwr (q := q31) (t := 1346) (f := fun _ => none) hq0 t_a0 (by decide) Ra0_0
  replace Ra0_10 := h_nwr (q := q31) (t := 1346) (f := fun _ => none) hq0 t_a0 (by decide) Ra0_10
  replace Ra0_11 := h_nwr (q := q31) (t := 1346) (f := fun _ => none) hq0 t_a0 (by decide) Ra0_11
  replace Ra0_14 := h_nwr (q := q31) (t := 1346) (f := fun _ => none) hq0 t_a0 (by decide) Ra0_14
  replace Ra0_15 := h_nwr (q := q31) (t := 1346) (f := fun _ => none) hq0 t_a0 (by decide) Ra0_15
  replace Ra0_16 := h_nwr (q := q31) (t := 1346) (f := fun _ => none) hq0 t_a0 (by decide) Ra0_16
  replace Ra0_17 := h_nwr (q := q31) (t := 1346) (f := fun _ => none) hq0 t_a0 (by decide) Ra0_17
  replace Ra0_18 := h_nwr (q := q31) (t := 1346) (f := fun _ => none) hq0 t_a0 (by decide) Ra0_18
  replace Ra0_19 := h_nwr (q := q31) (t := 1346) (f := fun _ => none) hq0 t_a0 (by decide) Ra0_19
  replace Ra0_20 := h_nwr (q := q31) (t := 1346) (f := fun _ => none) hq0 t_a0 (by decide) Ra0_20
  replace Ra0_21 := h_nwr (q := q31) (t := 1346) (f := fun _ => none) hq0 t_a0 (by decide) Ra0_21
  replace Ra0_22 := h_nwr (q := q31) (t := 1346) (f := fun _ => none) hq0 t_a0 (by decide) Ra0_22
  replace Ra0_23 := h_nwr (q := q31) (t := 1346) (f := fun _ => none) hq0 t_a0 (by decide) Ra0_23
  replace Ra0_24 := h_nwr (q := q31) (t := 1346) (f := fun _ => none) hq0 t_a0 (by decide) Ra0_24
  replace Ra0_25 := h_nwr (q := q31) (t := 1346) (f := fun _ => none) hq0 t_a0 (by decide) Ra0_25
  replace Ra0_26 := h_nwr (q := q31) (t := 1346) (f := fun _ => none) hq0 t_a0 (by decide) Ra0_26
  replace Ra0_27 := h_nwr (q := q31) (t := 1346) (f := fun _ => none) hq0 t_a0 (by decide) Ra0_27
  replace Ra0_28 := h_nwr (q := q31) (t := 1346) (f := fun _ => none) hq0 t_a0 (by decide) Ra0_28
  replace Ra0_29 := h_nwr (q := q31) (t := 1346) (f := fun _ => none) hq0 t_a0 (by decide) Ra0_29
  replace Ra0_32 := h_nwr (q := q31) (t := 1346) (f := fun _ => none) hq0 t_a0 (by decide) Ra0_32
  replace Ra0_34 := h_nwr (q := q31) (t := 1346) (f := fun _ => none) hq0 t_a0 (by decide) Ra0_34
  replace Ra0_35 := h_nwr (q := q31) (t := 1346) (f := fun _ => none) hq0 t_a0 (by decide) Ra0_35
  replace Ra0_36 := h_nwr (q := q31) (t := 1346) (f := fun _ => none) hq0 t_a0 (by decide) Ra0_36
  replace Ra0_37 := h_nwr (q := q31) (t := 1346) (f := fun _ => none) hq0 t_a0 (by decide) Ra0_37
  replace Ra0_38 := h_nwr (q := q31) (t := 1346) (f := fun _ => none) hq0 t_a0 (by decide) Ra0_38
  replace Ra0_39 := h_nwr (q := q31) (t := 1346) (f := fun _ => none) hq0 t_a0 (by decide) Ra0_39
  replace Ra0_40 := h_nwr (q := q31) (t := 1346) (f := fun _ => none) hq0 t_a0 (by decide) Ra0_40
  replace Ra0_42 := h_nwr (q := q31) (t := 1346) (f := fun _ => none) hq0 t_a0 (by decide) Ra0_42
  replace Ra0_43 := h_nwr (q := q31) (t := 1346) (f := fun _ => none) hq0 t_a0 (by decide) Ra0_43
  replace t_a0 := h_nwk (q := q31) (t := 1346) (f := fun _ => none) hq0 t_a0 (by decide)
  replace tq1 := h_nwk (q := q31) (t := 1346) (f := fun _ => none) hq0 tq1 (by decide)
  replace tq3 := h_nwk (q := q31) (t := 1346) (f := fun _ => none) hq0 tq3 (by decide)
  replace tq4 := h_nwk (q := q31) (t := 1346) (f := fun _ => none) hq0 tq4 (by decide)
  replace tq5 := h_nwk (q := q31) (t := 1346) (f := fun _ => none) hq0 tq5 (by decide)
  replace tq6 := h_nwk (q := q31) (t := 1346) (f := fun _ => none) hq0 tq6 (by decide)
  replace tq7 := h_nwk (q := q31) (t := 1346) (f := fun _ => none) hq0 tq7 (by decide)
  replace tq8 := h_nwk (q := q31) (t := 1346) (f := fun _ => none) hq0 tq8 (by decide)
  replace tq9 := h_nwk (q := q31) (t := 1346) (f := fun _ => none) hq0 tq9 (by decide)
  replace tq10 := h_nwk (q := q31) (t := 1346) (f := fun _ => none) hq0 tq10 (by decide)
  replace tq11 := h_nwk (q := q31) (t := 1346) (f := fun _ => none) hq0 tq11 (by decide)
  replace tq12 := h_nwk (q := q31) (t := 1346) (f := fun _ => none) hq0 tq12 (by decide)
  replace tq13 := h_nwk (q := q31) (t := 1346) (f := fun _ => none) hq0 tq13 (by decide)
  replace tq14 := h_nwk (q := q31) (t := 1346) (f := fun _ => none) hq0 tq14 (by decide)
  replace tq15 := h_nwk (q := q31) (t := 1346) (f := fun _ => none) hq0 tq15 (by decide)
  replace tq16 := h_nwk (q := q31) (t := 1346) (f := fun _ => none) hq0 tq16 (by decide)
  replace tq17 := h_nwk (q := q31) (t := 1346) (f := fun _ => none) hq0 tq17 (by decide)
  replace tq18 := h_nwk (q := q31) (t := 1346) (f := fun _ => none) hq0 tq18 (by decide)
  replace tq19 := h_nwk (q := q31) (t := 1346) (f := fun _ => none) hq0 tq19 (by decide)
  replace tq20 := h_nwk (q := q31) (t := 1346) (f := fun _ => none) hq0 tq20 (by decide)
  replace tq21 := h_nwk (q := q31) (t := 1346) (f := fun _ => none) hq0 tq21 (by decide)
  replace tq22 := h_nwk (q := q31) (t := 1346) (f := fun _ => none) hq0 tq22 (by decide)
  replace tq23 := h_nwk (q := q31) (t := 1346) (f := fun _ => none) hq0 tq23 (by decide)
  replace tq24 := h_nwk (q := q31) (t := 1346) (f := fun _ => none) hq0 tq24 (by decide)
  replace tq25 := h_nwk (q := q31) (t := 1346) (f := fun _ => none) hq0 tq25 (by decide)
  replace tq26 := h_nwk (q := q31) (t := 1346) (f := fun _ => none) hq0 tq26 (by decide)
  replace tq27 := h_nwk (q := q31) (t := 1346) (f := fun _ => none) hq0 tq27 (by decide)
  replace tq28 := h_nwk (q := q31) (t := 1346) (f := fun _ => none) hq0 tq28 (by decide)
  replace tq29 := h_nwk (q := q31) (t := 1346) (f := fun _ => none) hq0 tq29 (by decide)
  replace tq30 := h_nwk (q := q31) (t := 1346) (f := fun _ => none) hq0 tq30 (by decide)
  replace tq31 : (z.nw q31 1346 (fun _ => none)).ty q31 = 1346 := nw_te
  obtain ⟨z, ez⟩ : ∃ z1 : tZ, z1 = (z.nw q31 1346 (fun _ => none)) := ⟨_, rfl⟩
  rw [← ez] at g hI hR hZ hQ hu_q31 t_a0 tq1 tq3 tq4 tq5 tq6 tq7 tq8 tq9 tq10 tq11 tq12 tq13 tq14 tq15 tq16 tq17 tq18 tq19 tq20 tq21 tq22 tq23 tq24 tq25 tq26 tq27 tq28 tq29 tq30 tq31 Ra0_0 Ra0_10 Ra0_11 Ra0_14 Ra0_15 Ra0_16 Ra0_17 Ra0_18 Ra0_19 Ra0_20 Ra0_21 Ra0_22 Ra0_23 Ra0_24 Ra0_25 Ra0_26 Ra0_27 Ra0_28 Ra0_29 Ra0_32 Ra0_34 Ra0_35 Ra0_36 Ra0_37 Ra0_38 Ra0_39 Ra0_40 Ra0_42 Ra0_43
  clear ez
  obtain ⟨I0, eI⟩ : ∃ J : tI, J = h_row I0 q31 (fun _ => 0) := ⟨_, rfl⟩
  rw [← eI] at g hI hZ hQ hz kf_a0_9 z_laws
  clear eI
  replace hF : h_F [(1310, 999), (1325, 999), (1326, 999), (1328, 999), (62, 9)] z I0 I0 := h_F.rf
  refine W.cs (cells' := 30) (slots' := 2921) rfl rfl ?_
  replace kf_a0_9 : I0 a0 9 = (-1) := kf_a0_9
  replace hZ := hZ.tcall hF rfl
  replace hQ := hQ.tc hF rfl
  refine h_putR (ty := tyX12 46) (v := q31) hx hb hts iX12 tyX12 tyX12_ok nmX12 hown g t_a0 (by decide) so_62 rfl 46 (by decide) rfl (hts (.fieldLink RX12 103 "CapLeagueModel" "toldClub" "[I") (by decide +kernel)) rfl rfl hin rfl (by decide +kernel) rfl rfl dX12_init_244 (fun H locs g => ?_)
  replace hQ := hQ.wR (a := a0) (k := 46) (v := q31) t_a0 (by decide) tq31 (by decide) (fun h9 => ⟨hu_q31, n_q31⟩)
  replace hR := hR.wR (k0 := 46) (v := some q31) t_a0 (fun _ => rfl)
  replace hZ := hZ.wR (a := a0) (k := 46) (v := some q31) (Or.inl rfl)
  replace hI : h_I (z.wR a0 46 (some q31)) I0 := hI
  replace t_a0 : (z.wR a0 46 (some q31)).ty a0 = 62 := t_a0
  replace tq1 : (z.wR a0 46 (some q31)).ty q1 = 1300 := tq1
  replace tq3 : (z.wR a0 46 (some q31)).ty q3 = 1310 := tq3
  replace tq4 : (z.wR a0 46 (some q31)).ty q4 = 1311 := tq4
  replace tq5 : (z.wR a0 46 (some q31)).ty q5 = 1314 := tq5
  replace tq6 : (z.wR a0 46 (some q31)).ty q6 = 1315 := tq6
  replace tq7 : (z.wR a0 46 (some q31)).ty q7 = 1316 := tq7
  replace tq8 : (z.wR a0 46 (some q31)).ty q8 = 1317 := tq8
  replace tq9 : (z.wR a0 46 (some q31)).ty q9 = 1318 := tq9
  replace tq10 : (z.wR a0 46 (some q31)).ty q10 = 1319 := tq10
  replace tq11 : (z.wR a0 46 (some q31)).ty q11 = 1320 := tq11
  replace tq12 : (z.wR a0 46 (some q31)).ty q12 = 1321 := tq12
  replace tq13 : (z.wR a0 46 (some q31)).ty q13 = 1322 := tq13
  replace tq14 : (z.wR a0 46 (some q31)).ty q14 = 1323 := tq14
  replace tq15 : (z.wR a0 46 (some q31)).ty q15 = 1324 := tq15
  replace tq16 : (z.wR a0 46 (some q31)).ty q16 = 1325 := tq16
  replace tq17 : (z.wR a0 46 (some q31)).ty q17 = 1326 := tq17
  replace tq18 : (z.wR a0 46 (some q31)).ty q18 = 1327 := tq18
  replace tq19 : (z.wR a0 46 (some q31)).ty q19 = 1328 := tq19
  replace tq20 : (z.wR a0 46 (some q31)).ty q20 = 1329 := tq20
  replace tq21 : (z.wR a0 46 (some q31)).ty q21 = 1332 := tq21
  replace tq22 : (z.wR a0 46 (some q31)).ty q22 = 1334 := tq22
  replace tq23 : (z.wR a0 46 (some q31)).ty q23 = 1335 := tq23
  replace tq24 : (z.wR a0 46 (some q31)).ty q24 = 1336 := tq24
  replace tq25 : (z.wR a0 46 (some q31)).ty q25 = 1337 := tq25
  replace tq26 : (z.wR a0 46 (some q31)).ty q26 = 1338 := tq26
  replace tq27 : (z.wR a0 46 (some q31)).ty q27 = 1339 := tq27
  replace tq28 : (z.wR a0 46 (some q31)).ty q28 = 1340 := tq28
  replace tq29 : (z.wR a0 46 (some q31)).ty q29 = 1342 := tq29
  replace tq30 : (z.wR a0 46 (some q31)).ty q30 = 1343 := tq30
  replace tq31 : (z.wR a0 46 (some q31)).ty q31 = 1346 := tq31
  replace Ra0_0 : (z.wR a0 46 (some q31)).R a0 0 = some q1 := (h_up_at (by decide)).trans Ra0_0
  replace Ra0_10 : (z.wR a0 46 (some q31)).R a0 10 = some q3 := (h_up_at (by decide)).trans Ra0_10
  replace Ra0_11 : (z.wR a0 46 (some q31)).R a0 11 = some q4 := (h_up_at (by decide)).trans Ra0_11
  replace Ra0_14 : (z.wR a0 46 (some q31)).R a0 14 = some q5 := (h_up_at (by decide)).trans Ra0_14
  replace Ra0_15 : (z.wR a0 46 (some q31)).R a0 15 = some q6 := (h_up_at (by decide)).trans Ra0_15
  replace Ra0_16 : (z.wR a0 46 (some q31)).R a0 16 = some q7 := (h_up_at (by decide)).trans Ra0_16
  replace Ra0_17 : (z.wR a0 46 (some q31)).R a0 17 = some q8 := (h_up_at (by decide)).trans Ra0_17
  replace Ra0_18 : (z.wR a0 46 (some q31)).R a0 18 = some q9 := (h_up_at (by decide)).trans Ra0_18
  replace Ra0_19 : (z.wR a0 46 (some q31)).R a0 19 = some q10 := (h_up_at (by decide)).trans Ra0_19
  replace Ra0_20 : (z.wR a0 46 (some q31)).R a0 20 = some q11 := (h_up_at (by decide)).trans Ra0_20
  replace Ra0_21 : (z.wR a0 46 (some q31)).R a0 21 = some q12 := (h_up_at (by decide)).trans Ra0_21
  replace Ra0_22 : (z.wR a0 46 (some q31)).R a0 22 = some q13 := (h_up_at (by decide)).trans Ra0_22
  replace Ra0_23 : (z.wR a0 46 (some q31)).R a0 23 = some q14 := (h_up_at (by decide)).trans Ra0_23
  replace Ra0_24 : (z.wR a0 46 (some q31)).R a0 24 = some q15 := (h_up_at (by decide)).trans Ra0_24
  replace Ra0_25 : (z.wR a0 46 (some q31)).R a0 25 = some q16 := (h_up_at (by decide)).trans Ra0_25
  replace Ra0_26 : (z.wR a0 46 (some q31)).R a0 26 = some q17 := (h_up_at (by decide)).trans Ra0_26
  replace Ra0_27 : (z.wR a0 46 (some q31)).R a0 27 = some q18 := (h_up_at (by decide)).trans Ra0_27
  replace Ra0_28 : (z.wR a0 46 (some q31)).R a0 28 = some q19 := (h_up_at (by decide)).trans Ra0_28
  replace Ra0_29 : (z.wR a0 46 (some q31)).R a0 29 = some q20 := (h_up_at (by decide)).trans Ra0_29
  replace Ra0_32 : (z.wR a0 46 (some q31)).R a0 32 = some q21 := (h_up_at (by decide)).trans Ra0_32
  replace Ra0_34 : (z.wR a0 46 (some q31)).R a0 34 = some q22 := (h_up_at (by decide)).trans Ra0_34
  replace Ra0_35 : (z.wR a0 46 (some q31)).R a0 35 = some q23 := (h_up_at (by decide)).trans Ra0_35
  replace Ra0_36 : (z.wR a0 46 (some q31)).R a0 36 = some q24 := (h_up_at (by decide)).trans Ra0_36
  replace Ra0_37 : (z.wR a0 46 (some q31)).R a0 37 = some q25 := (h_up_at (by decide)).trans Ra0_37
  replace Ra0_38 : (z.wR a0 46 (some q31)).R a0 38 = some q26 := (h_up_at (by decide)).trans Ra0_38
  replace Ra0_39 : (z.wR a0 46 (some q31)).R a0 39 = some q27 := (h_up_at (by decide)).trans Ra0_39
  replace Ra0_40 : (z.wR a0 46 (some q31)).R a0 40 = some q28 := (h_up_at (by decide)).trans Ra0_40
  replace Ra0_42 : (z.wR a0 46 (some q31)).R a0 42 = some q29 := (h_up_at (by decide)).trans Ra0_42
  replace Ra0_43 : (z.wR a0 46 (some q31)).R a0 43 = some q30 := (h_up_at (by decide)).trans Ra0_43
  replace Ra0_46 : (z.wR a0 46 (some q31)).R a0 46 = some q31 := h_up_eq
  obtain ⟨z, ez⟩ : ∃ z1 : tZ, z1 = (z.wR a0 46 (some q31)) := ⟨_, rfl⟩
  rw [← ez] at g hI hR hZ hQ t_a0 tq1 tq3 tq4 tq5 tq6 tq7 tq8 tq9 tq10 tq11 tq12 tq13 tq14 tq15 tq16 tq17 tq18 tq19 tq20 tq21 tq22 tq23 tq24 tq25 tq26 tq27 tq28 tq29 tq30 tq31 Ra0_0 Ra0_10 Ra0_11 Ra0_14 Ra0_15 Ra0_16 Ra0_17 Ra0_18 Ra0_19 Ra0_20 Ra0_21 Ra0_22 Ra0_23 Ra0_24 Ra0_25 Ra0_26 Ra0_27 Ra0_28 Ra0_29 Ra0_32 Ra0_34 Ra0_35 Ra0_36 Ra0_37 Ra0_38 Ra0_39 Ra0_40 Ra0_42 Ra0_43 Ra0_46
  clear ez
  replace hF : h_F [(1310, 999), (1325, 999), (1326, 999), (1328, 999), (62, 9)] z I0 I0 := h_F.rf
  refine lv_aload_n hx hb dX12_init_247 rfl (lv_at hl 0 rfl) ?_
  refine lv_iconst (v := 3) hx hb dX12_init_248 (by decide) ?_
  replace kf_a0_9 : I0 a0 9 = (-1) := kf_a0_9
  replace hZ := hZ.tcall hF rfl
  replace hQ := hQ.tc hF rfl
  refine h_newI hx hb (hts (.arrayClass .int) (by decide +kernel)) g hA so_1347 (by decide) (by decide) (by decide) (Nat.le_of_ble_eq_true rfl) (Nat.le_of_ble_eq_true rfl) dX12_init_249 (fun q32 H hq0 g => ?_)
  have n_q32 := hZ.fresh hq0 (fun h => h_neq t_a0 (by decide) hq0 (Option.some.inj h).symm)
  replace hu_q32 := hQ.1.u (q := q32) (t := 1347) hq0
  replace hQ := hQ.nw (q := q32) (t := 1347) hq0 (by decide)
  replace hI := hI.nw (q := q32) (t := 1347) (f := fun _ => none)
  replace hR := hR.nw (q := q32) (t := 1347) (f := fun _ => none) hq0 (fun k t2 n2 h => by cases (show (none : Option (Nat × Bool)) = some (t2, n2) from h))
  replace hZ := hZ.nw (q := q32) (t := 1347) (f := fun _ => none) hq0 (L2 := L0) (fun _ _ => rfl)
  replace hz : h_row I0 q32 (fun _ => 0) a0 = (fun j => if j = 9 then (-1) else (fun _ => 0) j) := (h_row_n (h_neq t_a0 (by decide) hq0)).trans hz
  replace kf_a0_9 : h_row I0 q32 (fun _ => 0) a0 9 = (-1) := (congrFun (h_row_n (h_neq t_a0 (by decide) hq0)) 9).trans kf_a0_9
  have z_laws : h_row I0 q32 (fun _ => 0) q3 = fun _ => 0 := (h_row_n (h_neq tq3 (by decide) hq0)).trans z_laws
  replace Ra0_0 := h_nwr (q := q32) (t := 1347) (f := fun _ => none) hq0 t_a0 (by decide) Ra0_0
  replace Ra0_10 := h_nwr (q := q32) (t := 1347) (f := fun _ => none) hq0 t_a0 (by decide) Ra0_10
  replace Ra0_11 := h_nwr (q := q32) (t := 1347) (f := fun _ => none) hq0 t_a0 (by decide) Ra0_11
  replace Ra0_14 := h_nwr (q := q32) (t := 1347) (f := fun _ => none) hq0 t_a0 (by decide) Ra0_14
  replace Ra0_15 := h_nwr (q := q32) (t := 1347) (f := fun _ => none) hq0 t_a0 (by decide) Ra0_15
  replace Ra0_16 := h_nwr (q := q32) (t := 1347) (f := fun _ => none) hq0 t_a0 (by decide) Ra0_16
  replace Ra0_17 := h_nwr (q := q32) (t := 1347) (f := fun _ => none) hq0 t_a0 (by decide) Ra0_17
  replace Ra0_18 := h_nwr (q := q32) (t := 1347) (f := fun _ => none) hq0 t_a0 (by decide) Ra0_18
  replace Ra0_19 := h_nwr (q := q32) (t := 1347) (f := fun _ => none) hq0 t_a0 (by decide) Ra0_19
  replace Ra0_20 := h_nwr (q := q32) (t := 1347) (f := fun _ => none) hq0 t_a0 (by decide) Ra0_20
  replace Ra0_21 := h_nwr (q := q32) (t := 1347) (f := fun _ => none) hq0 t_a0 (by decide) Ra0_21
  replace Ra0_22 := h_nwr (q := q32) (t := 1347) (f := fun _ => none) hq0 t_a0 (by decide) Ra0_22
  replace Ra0_23 := h_nwr (q := q32) (t := 1347) (f := fun _ => none) hq0 t_a0 (by decide) Ra0_23
  replace Ra0_24 := h_nwr (q := q32) (t := 1347) (f := fun _ => none) hq0 t_a0 (by decide) Ra0_24
  replace Ra0_25 := h_nwr (q := q32) (t := 1347) (f := fun _ => none) hq0 t_a0 (by decide) Ra0_25
  replace Ra0_26 := h_nwr (q := q32) (t := 1347) (f := fun _ => none) hq0 t_a0 (by decide) Ra0_26
  replace Ra0_27 := h_nwr (q := q32) (t := 1347) (f := fun _ => none) hq0 t_a0 (by decide) Ra0_27
  replace Ra0_28 := h_nwr (q := q32) (t := 1347) (f := fun _ => none) hq0 t_a0 (by decide) Ra0_28
  replace Ra0_29 := h_nwr (q := q32) (t := 1347) (f := fun _ => none) hq0 t_a0 (by decide) Ra0_29
  replace Ra0_32 := h_nwr (q := q32) (t := 1347) (f := fun _ => none) hq0 t_a0 (by decide) Ra0_32
  replace Ra0_34 := h_nwr (q := q32) (t := 1347) (f := fun _ => none) hq0 t_a0 (by decide) Ra0_34
  replace Ra0_35 := h_nwr (q := q32) (t := 1347) (f := fun _ => none) hq0 t_a0 (by decide) Ra0_35
  replace Ra0_36 := h_nwr (q := q32) (t := 1347) (f := fun _ => none) hq0 t_a0 (by decide) Ra0_36
  replace Ra0_37 := h_nwr (q := q32) (t := 1347) (f := fun _ => none) hq0 t_a0 (by decide) Ra0_37
  replace Ra0_38 := h_nwr (q := q32) (t := 1347) (f := fun _ => none) hq0 t_a0 (by decide) Ra0_38
  replace Ra0_39 := h_nwr (q := q32) (t := 1347) (f := fun _ => none) hq0 t_a0 (by decide) Ra0_39
  replace Ra0_40 := h_nwr (q := q32) (t := 1347) (f := fun _ => none) hq0 t_a0 (by decide) Ra0_40
  replace Ra0_42 := h_nwr (q := q32) (t := 1347) (f := fun _ => none) hq0 t_a0 (by decide) Ra0_42
  replace Ra0_43 := h_nwr (q := q32) (t := 1347) (f := fun _ => none) hq0 t_a0 (by decide) Ra0_43
  replace Ra0_46 := h_nwr (q := q32) (t := 1347) (f := fun _ => none) hq0 t_a0 (by decide) Ra0_46
  replace t_a0 := h_nwk (q := q32) (t := 1347) (f := fun _ => none) hq0 t_a0 (by decide)
  replace tq1 := h_nwk (q := q32) (t := 1347) (f := fun _ => none) hq0 tq1 (by decide)
  replace tq3 := h_nwk (q := q32) (t := 1347) (f := fun _ => none) hq0 tq3 (by decide)
  replace tq4 := h_nwk (q := q32) (t := 1347) (f := fun _ => none) hq0 tq4 (by decide)
  replace tq5 := h_nwk (q := q32) (t := 1347) (f := fun _ => none) hq0 tq5 (by decide)
  replace tq6 := h_nwk (q := q32) (t := 1347) (f := fun _ => none) hq0 tq6 (by decide)
  replace tq7 := h_nwk (q := q32) (t := 1347) (f := fun _ => none) hq0 tq7 (by decide)
  replace tq8 := h_nwk (q := q32) (t := 1347) (f := fun _ => none) hq0 tq8 (by decide)
  replace tq9 := h_nwk (q := q32) (t := 1347) (f := fun _ => none) hq0 tq9 (by decide)
  replace tq10 := h_nwk (q := q32) (t := 1347) (f := fun _ => none) hq0 tq10 (by decide)
  replace tq11 := h_nwk (q := q32) (t := 1347) (f := fun _ => none) hq0 tq11 (by decide)
  replace tq12 := h_nwk (q := q32) (t := 1347) (f := fun _ => none) hq0 tq12 (by decide)
  replace tq13 := h_nwk (q := q32) (t := 1347) (f := fun _ => none) hq0 tq13 (by decide)
  replace tq14 := h_nwk (q := q32) (t := 1347) (f := fun _ => none) hq0 tq14 (by decide)
  replace tq15 := h_nwk (q := q32) (t := 1347) (f := fun _ => none) hq0 tq15 (by decide)
  replace tq16 := h_nwk (q := q32) (t := 1347) (f := fun _ => none) hq0 tq16 (by decide)
  replace tq17 := h_nwk (q := q32) (t := 1347) (f := fun _ => none) hq0 tq17 (by decide)
  replace tq18 := h_nwk (q := q32) (t := 1347) (f := fun _ => none) hq0 tq18 (by decide)
  replace tq19 := h_nwk (q := q32) (t := 1347) (f := fun _ => none) hq0 tq19 (by decide)
  replace tq20 := h_nwk (q := q32) (t := 1347) (f := fun _ => none) hq0 tq20 (by decide)
  replace tq21 := h_nwk (q := q32) (t := 1347) (f := fun _ => none) hq0 tq21 (by decide)
  replace tq22 := h_nwk (q := q32) (t := 1347) (f := fun _ => none) hq0 tq22 (by decide)
  replace tq23 := h_nwk (q := q32) (t := 1347) (f := fun _ => none) hq0 tq23 (by decide)
  replace tq24 := h_nwk (q := q32) (t := 1347) (f := fun _ => none) hq0 tq24 (by decide)
  replace tq25 := h_nwk (q := q32) (t := 1347) (f := fun _ => none) hq0 tq25 (by decide)
  replace tq26 := h_nwk (q := q32) (t := 1347) (f := fun _ => none) hq0 tq26 (by decide)
  replace tq27 := h_nwk (q := q32) (t := 1347) (f := fun _ => none) hq0 tq27 (by decide)
  replace tq28 := h_nwk (q := q32) (t := 1347) (f := fun _ => none) hq0 tq28 (by decide)
  replace tq29 := h_nwk (q := q32) (t := 1347) (f := fun _ => none) hq0 tq29 (by decide)
  replace tq30 := h_nwk (q := q32) (t := 1347) (f := fun _ => none) hq0 tq30 (by decide)
  replace tq31 := h_nwk (q := q32) (t := 1347) (f := fun _ => none) hq0 tq31 (by decide)
  replace tq32 : (z.nw q32 1347 (fun _ => none)).ty q32 = 1347 := nw_te
  obtain ⟨z, ez⟩ : ∃ z1 : tZ, z1 = (z.nw q32 1347 (fun _ => none)) := ⟨_, rfl⟩
  rw [← ez] at g hI hR hZ hQ hu_q32 t_a0 tq1 tq3 tq4 tq5 tq6 tq7 tq8 tq9 tq10 tq11 tq12 tq13 tq14 tq15 tq16 tq17 tq18 tq19 tq20 tq21 tq22 tq23 tq24 tq25 tq26 tq27 tq28 tq29 tq30 tq31 tq32 Ra0_0 Ra0_10 Ra0_11 Ra0_14 Ra0_15 Ra0_16 Ra0_17 Ra0_18 Ra0_19 Ra0_20 Ra0_21 Ra0_22 Ra0_23 Ra0_24 Ra0_25 Ra0_26 Ra0_27 Ra0_28 Ra0_29 Ra0_32 Ra0_34 Ra0_35 Ra0_36 Ra0_37 Ra0_38 Ra0_39 Ra0_40 Ra0_42 Ra0_43 Ra0_46
  clear ez
  obtain ⟨I0, eI⟩ : ∃ J : tI, J = h_row I0 q32 (fun _ => 0) := ⟨_, rfl⟩
  rw [← eI] at g hI hZ hQ hz kf_a0_9 z_laws
  clear eI
  replace hF : h_F [(1310, 999), (1325, 999), (1326, 999), (1328, 999), (62, 9)] z I0 I0 := h_F.rf
  refine W.cs (cells' := 31) (slots' := 2924) rfl rfl ?_
  replace kf_a0_9 : I0 a0 9 = (-1) := kf_a0_9
  replace hZ := hZ.tcall hF rfl
  replace hQ := hQ.tc hF rfl
  refine h_putR (ty := tyX12 47) (v := q32) hx hb hts iX12 tyX12 tyX12_ok nmX12 hown g t_a0 (by decide) so_62 rfl 47 (by decide) rfl (hts (.fieldLink RX12 106 "CapLeagueModel" "toldGives" "[I") (by decide +kernel)) rfl rfl hin rfl (by decide +kernel) rfl rfl dX12_init_251 (fun H locs g => ?_)
  replace hQ := hQ.wR (a := a0) (k := 47) (v := q32) t_a0 (by decide) tq32 (by decide) (fun h9 => ⟨hu_q32, n_q32⟩)
  replace hR := hR.wR (k0 := 47) (v := some q32) t_a0 (fun _ => rfl)
  replace hZ := hZ.wR (a := a0) (k := 47) (v := some q32) (Or.inl rfl)
  replace hI : h_I (z.wR a0 47 (some q32)) I0 := hI
  replace t_a0 : (z.wR a0 47 (some q32)).ty a0 = 62 := t_a0
  replace tq1 : (z.wR a0 47 (some q32)).ty q1 = 1300 := tq1
  replace tq3 : (z.wR a0 47 (some q32)).ty q3 = 1310 := tq3
  replace tq4 : (z.wR a0 47 (some q32)).ty q4 = 1311 := tq4
  replace tq5 : (z.wR a0 47 (some q32)).ty q5 = 1314 := tq5
  replace tq6 : (z.wR a0 47 (some q32)).ty q6 = 1315 := tq6
  replace tq7 : (z.wR a0 47 (some q32)).ty q7 = 1316 := tq7
  replace tq8 : (z.wR a0 47 (some q32)).ty q8 = 1317 := tq8
  replace tq9 : (z.wR a0 47 (some q32)).ty q9 = 1318 := tq9
  replace tq10 : (z.wR a0 47 (some q32)).ty q10 = 1319 := tq10
  replace tq11 : (z.wR a0 47 (some q32)).ty q11 = 1320 := tq11
  replace tq12 : (z.wR a0 47 (some q32)).ty q12 = 1321 := tq12
  replace tq13 : (z.wR a0 47 (some q32)).ty q13 = 1322 := tq13
  replace tq14 : (z.wR a0 47 (some q32)).ty q14 = 1323 := tq14
  replace tq15 : (z.wR a0 47 (some q32)).ty q15 = 1324 := tq15
  replace tq16 : (z.wR a0 47 (some q32)).ty q16 = 1325 := tq16
  replace tq17 : (z.wR a0 47 (some q32)).ty q17 = 1326 := tq17
  replace tq18 : (z.wR a0 47 (some q32)).ty q18 = 1327 := tq18
  replace tq19 : (z.wR a0 47 (some q32)).ty q19 = 1328 := tq19
  replace tq20 : (z.wR a0 47 (some q32)).ty q20 = 1329 := tq20
  replace tq21 : (z.wR a0 47 (some q32)).ty q21 = 1332 := tq21
  replace tq22 : (z.wR a0 47 (some q32)).ty q22 = 1334 := tq22
  replace tq23 : (z.wR a0 47 (some q32)).ty q23 = 1335 := tq23
  replace tq24 : (z.wR a0 47 (some q32)).ty q24 = 1336 := tq24
  replace tq25 : (z.wR a0 47 (some q32)).ty q25 = 1337 := tq25
  replace tq26 : (z.wR a0 47 (some q32)).ty q26 = 1338 := tq26
  replace tq27 : (z.wR a0 47 (some q32)).ty q27 = 1339 := tq27
  replace tq28 : (z.wR a0 47 (some q32)).ty q28 = 1340 := tq28
  replace tq29 : (z.wR a0 47 (some q32)).ty q29 = 1342 := tq29
  replace tq30 : (z.wR a0 47 (some q32)).ty q30 = 1343 := tq30
  replace tq31 : (z.wR a0 47 (some q32)).ty q31 = 1346 := tq31
  replace tq32 : (z.wR a0 47 (some q32)).ty q32 = 1347 := tq32
  replace Ra0_0 : (z.wR a0 47 (some q32)).R a0 0 = some q1 := (h_up_at (by decide)).trans Ra0_0
  replace Ra0_10 : (z.wR a0 47 (some q32)).R a0 10 = some q3 := (h_up_at (by decide)).trans Ra0_10
  replace Ra0_11 : (z.wR a0 47 (some q32)).R a0 11 = some q4 := (h_up_at (by decide)).trans Ra0_11
  replace Ra0_14 : (z.wR a0 47 (some q32)).R a0 14 = some q5 := (h_up_at (by decide)).trans Ra0_14
  replace Ra0_15 : (z.wR a0 47 (some q32)).R a0 15 = some q6 := (h_up_at (by decide)).trans Ra0_15
  replace Ra0_16 : (z.wR a0 47 (some q32)).R a0 16 = some q7 := (h_up_at (by decide)).trans Ra0_16
  replace Ra0_17 : (z.wR a0 47 (some q32)).R a0 17 = some q8 := (h_up_at (by decide)).trans Ra0_17
  replace Ra0_18 : (z.wR a0 47 (some q32)).R a0 18 = some q9 := (h_up_at (by decide)).trans Ra0_18
  replace Ra0_19 : (z.wR a0 47 (some q32)).R a0 19 = some q10 := (h_up_at (by decide)).trans Ra0_19
  replace Ra0_20 : (z.wR a0 47 (some q32)).R a0 20 = some q11 := (h_up_at (by decide)).trans Ra0_20
  replace Ra0_21 : (z.wR a0 47 (some q32)).R a0 21 = some q12 := (h_up_at (by decide)).trans Ra0_21
  replace Ra0_22 : (z.wR a0 47 (some q32)).R a0 22 = some q13 := (h_up_at (by decide)).trans Ra0_22
  replace Ra0_23 : (z.wR a0 47 (some q32)).R a0 23 = some q14 := (h_up_at (by decide)).trans Ra0_23
  replace Ra0_24 : (z.wR a0 47 (some q32)).R a0 24 = some q15 := (h_up_at (by decide)).trans Ra0_24
  replace Ra0_25 : (z.wR a0 47 (some q32)).R a0 25 = some q16 := (h_up_at (by decide)).trans Ra0_25
  replace Ra0_26 : (z.wR a0 47 (some q32)).R a0 26 = some q17 := (h_up_at (by decide)).trans Ra0_26
  replace Ra0_27 : (z.wR a0 47 (some q32)).R a0 27 = some q18 := (h_up_at (by decide)).trans Ra0_27
  replace Ra0_28 : (z.wR a0 47 (some q32)).R a0 28 = some q19 := (h_up_at (by decide)).trans Ra0_28
  replace Ra0_29 : (z.wR a0 47 (some q32)).R a0 29 = some q20 := (h_up_at (by decide)).trans Ra0_29
  replace Ra0_32 : (z.wR a0 47 (some q32)).R a0 32 = some q21 := (h_up_at (by decide)).trans Ra0_32
  replace Ra0_34 : (z.wR a0 47 (some q32)).R a0 34 = some q22 := (h_up_at (by decide)).trans Ra0_34
  replace Ra0_35 : (z.wR a0 47 (some q32)).R a0 35 = some q23 := (h_up_at (by decide)).trans Ra0_35
  replace Ra0_36 : (z.wR a0 47 (some q32)).R a0 36 = some q24 := (h_up_at (by decide)).trans Ra0_36
  replace Ra0_37 : (z.wR a0 47 (some q32)).R a0 37 = some q25 := (h_up_at (by decide)).trans Ra0_37
  replace Ra0_38 : (z.wR a0 47 (some q32)).R a0 38 = some q26 := (h_up_at (by decide)).trans Ra0_38
  replace Ra0_39 : (z.wR a0 47 (some q32)).R a0 39 = some q27 := (h_up_at (by decide)).trans Ra0_39
  replace Ra0_40 : (z.wR a0 47 (some q32)).R a0 40 = some q28 := (h_up_at (by decide)).trans Ra0_40
  replace Ra0_42 : (z.wR a0 47 (some q32)).R a0 42 = some q29 := (h_up_at (by decide)).trans Ra0_42
  replace Ra0_43 : (z.wR a0 47 (some q32)).R a0 43 = some q30 := (h_up_at (by decide)).trans Ra0_43
  replace Ra0_46 : (z.wR a0 47 (some q32)).R a0 46 = some q31 := (h_up_at (by decide)).trans Ra0_46
  replace Ra0_47 : (z.wR a0 47 (some q32)).R a0 47 = some q32 := h_up_eq
  obtain ⟨z, ez⟩ : ∃ z1 : tZ, z1 = (z.wR a0 47 (some q32)) := ⟨_, rfl⟩
  rw [← ez] at g hI hR hZ hQ t_a0 tq1 tq3 tq4 tq5 tq6 tq7 tq8 tq9 tq10 tq11 tq12 tq13 tq14 tq15 tq16 tq17 tq18 tq19 tq20 tq21 tq22 tq23 tq24 tq25 tq26 tq27 tq28 tq29 tq30 tq31 tq32 Ra0_0 Ra0_10 Ra0_11 Ra0_14 Ra0_15 Ra0_16 Ra0_17 Ra0_18 Ra0_19 Ra0_20 Ra0_21 Ra0_22 Ra0_23 Ra0_24 Ra0_25 Ra0_26 Ra0_27 Ra0_28 Ra0_29 Ra0_32 Ra0_34 Ra0_35 Ra0_36 Ra0_37 Ra0_38 Ra0_39 Ra0_40 Ra0_42 Ra0_43 Ra0_46 Ra0_47
  clear ez
  replace hF : h_F [(1310, 999), (1325, 999), (1326, 999), (1328, 999), (62, 9)] z I0 I0 := h_F.rf
  refine lv_aload_n hx hb dX12_init_254 rfl (lv_at hl 0 rfl) ?_
  refine lv_bipush (v := 8) hx hb dX12_init_255 (by decide) ?_
  replace kf_a0_9 : I0 a0 9 = (-1) := kf_a0_9
  replace hZ := hZ.tcall hF rfl
  replace hQ := hQ.tc hF rfl
  refine h_newZ hx hb (hts (.arrayClass .boolean) (by decide +kernel)) g hA so_1348 (by decide) (by decide) (by decide) (Nat.le_of_ble_eq_true rfl) (Nat.le_of_ble_eq_true rfl) dX12_init_257 (fun q33 H hq0 g => ?_)
  have n_q33 := hZ.fresh hq0 (fun h => h_neq t_a0 (by decide) hq0 (Option.some.inj h).symm)
  replace hu_q33 := hQ.1.u (q := q33) (t := 1348) hq0
  replace hQ := hQ.nw (q := q33) (t := 1348) hq0 (by decide)
  replace hI := hI.nw (q := q33) (t := 1348) (f := fun _ => none)
  replace hR := hR.nw (q := q33) (t := 1348) (f := fun _ => none) hq0 (fun k t2 n2 h => by cases (show (none : Option (Nat × Bool)) = some (t2, n2) from h))
  replace hZ := hZ.nw (q := q33) (t := 1348) (f := fun _ => none) hq0 (L2 := L0) (fun _ _ => rfl)
  replace hz : h_row I0 q33 (fun _ => 0) a0 = (fun j => if j = 9 then (-1) else (fun _ => 0) j) := (h_row_n (h_neq t_a0 (by decide) hq0)).trans hz
  replace kf_a0_9 : h_row I0 q33 (fun _ => 0) a0 9 = (-1) := (congrFun (h_row_n (h_neq t_a0 (by decide) hq0)) 9).trans kf_a0_9
  have z_laws : h_row I0 q33 (fun _ => 0) q3 = fun _ => 0 := (h_row_n (h_neq tq3 (by decide) hq0)).trans z_laws
  replace Ra0_0 := h_nwr (q := q33) (t := 1348) (f := fun _ => none) hq0 t_a0 (by decide) Ra0_0
  replace Ra0_10 := h_nwr (q := q33) (t := 1348) (f := fun _ => none) hq0 t_a0 (by decide) Ra0_10
  replace Ra0_11 := h_nwr (q := q33) (t := 1348) (f := fun _ => none) hq0 t_a0 (by decide) Ra0_11
  replace Ra0_14 := h_nwr (q := q33) (t := 1348) (f := fun _ => none) hq0 t_a0 (by decide) Ra0_14
  replace Ra0_15 := h_nwr (q := q33) (t := 1348) (f := fun _ => none) hq0 t_a0 (by decide) Ra0_15
  replace Ra0_16 := h_nwr (q := q33) (t := 1348) (f := fun _ => none) hq0 t_a0 (by decide) Ra0_16
  replace Ra0_17 := h_nwr (q := q33) (t := 1348) (f := fun _ => none) hq0 t_a0 (by decide) Ra0_17
  replace Ra0_18 := h_nwr (q := q33) (t := 1348) (f := fun _ => none) hq0 t_a0 (by decide) Ra0_18
  replace Ra0_19 := h_nwr (q := q33) (t := 1348) (f := fun _ => none) hq0 t_a0 (by decide) Ra0_19
  replace Ra0_20 := h_nwr (q := q33) (t := 1348) (f := fun _ => none) hq0 t_a0 (by decide) Ra0_20
  replace Ra0_21 := h_nwr (q := q33) (t := 1348) (f := fun _ => none) hq0 t_a0 (by decide) Ra0_21
  replace Ra0_22 := h_nwr (q := q33) (t := 1348) (f := fun _ => none) hq0 t_a0 (by decide) Ra0_22
  replace Ra0_23 := h_nwr (q := q33) (t := 1348) (f := fun _ => none) hq0 t_a0 (by decide) Ra0_23
  replace Ra0_24 := h_nwr (q := q33) (t := 1348) (f := fun _ => none) hq0 t_a0 (by decide) Ra0_24
  replace Ra0_25 := h_nwr (q := q33) (t := 1348) (f := fun _ => none) hq0 t_a0 (by decide) Ra0_25
  replace Ra0_26 := h_nwr (q := q33) (t := 1348) (f := fun _ => none) hq0 t_a0 (by decide) Ra0_26
  replace Ra0_27 := h_nwr (q := q33) (t := 1348) (f := fun _ => none) hq0 t_a0 (by decide) Ra0_27
  replace Ra0_28 := h_nwr (q := q33) (t := 1348) (f := fun _ => none) hq0 t_a0 (by decide) Ra0_28
  replace Ra0_29 := h_nwr (q := q33) (t := 1348) (f := fun _ => none) hq0 t_a0 (by decide) Ra0_29
  replace Ra0_32 := h_nwr (q := q33) (t := 1348) (f := fun _ => none) hq0 t_a0 (by decide) Ra0_32
  replace Ra0_34 := h_nwr (q := q33) (t := 1348) (f := fun _ => none) hq0 t_a0 (by decide) Ra0_34
  replace Ra0_35 := h_nwr (q := q33) (t := 1348) (f := fun _ => none) hq0 t_a0 (by decide) Ra0_35
  replace Ra0_36 := h_nwr (q := q33) (t := 1348) (f := fun _ => none) hq0 t_a0 (by decide) Ra0_36
  replace Ra0_37 := h_nwr (q := q33) (t := 1348) (f := fun _ => none) hq0 t_a0 (by decide) Ra0_37
  replace Ra0_38 := h_nwr (q := q33) (t := 1348) (f := fun _ => none) hq0 t_a0 (by decide) Ra0_38
  replace Ra0_39 := h_nwr (q := q33) (t := 1348) (f := fun _ => none) hq0 t_a0 (by decide) Ra0_39
  replace Ra0_40 := h_nwr (q := q33) (t := 1348) (f := fun _ => none) hq0 t_a0 (by decide) Ra0_40
  replace Ra0_42 := h_nwr (q := q33) (t := 1348) (f := fun _ => none) hq0 t_a0 (by decide) Ra0_42
  replace Ra0_43 := h_nwr (q := q33) (t := 1348) (f := fun _ => none) hq0 t_a0 (by decide) Ra0_43
  replace Ra0_46 := h_nwr (q := q33) (t := 1348) (f := fun _ => none) hq0 t_a0 (by decide) Ra0_46
  replace Ra0_47 := h_nwr (q := q33) (t := 1348) (f := fun _ => none) hq0 t_a0 (by decide) Ra0_47
  replace t_a0 := h_nwk (q := q33) (t := 1348) (f := fun _ => none) hq0 t_a0 (by decide)
  replace tq1 := h_nwk (q := q33) (t := 1348) (f := fun _ => none) hq0 tq1 (by decide)
  replace tq3 := h_nwk (q := q33) (t := 1348) (f := fun _ => none) hq0 tq3 (by decide)
  replace tq4 := h_nwk (q := q33) (t := 1348) (f := fun _ => none) hq0 tq4 (by decide)
  replace tq5 := h_nwk (q := q33) (t := 1348) (f := fun _ => none) hq0 tq5 (by decide)
  replace tq6 := h_nwk (q := q33) (t := 1348) (f := fun _ => none) hq0 tq6 (by decide)
  replace tq7 := h_nwk (q := q33) (t := 1348) (f := fun _ => none) hq0 tq7 (by decide)
  replace tq8 := h_nwk (q := q33) (t := 1348) (f := fun _ => none) hq0 tq8 (by decide)
  replace tq9 := h_nwk (q := q33) (t := 1348) (f := fun _ => none) hq0 tq9 (by decide)
  replace tq10 := h_nwk (q := q33) (t := 1348) (f := fun _ => none) hq0 tq10 (by decide)
  replace tq11 := h_nwk (q := q33) (t := 1348) (f := fun _ => none) hq0 tq11 (by decide)
  replace tq12 := h_nwk (q := q33) (t := 1348) (f := fun _ => none) hq0 tq12 (by decide)
  replace tq13 := h_nwk (q := q33) (t := 1348) (f := fun _ => none) hq0 tq13 (by decide)
  replace tq14 := h_nwk (q := q33) (t := 1348) (f := fun _ => none) hq0 tq14 (by decide)
  replace tq15 := h_nwk (q := q33) (t := 1348) (f := fun _ => none) hq0 tq15 (by decide)
  replace tq16 := h_nwk (q := q33) (t := 1348) (f := fun _ => none) hq0 tq16 (by decide)
  replace tq17 := h_nwk (q := q33) (t := 1348) (f := fun _ => none) hq0 tq17 (by decide)
  replace tq18 := h_nwk (q := q33) (t := 1348) (f := fun _ => none) hq0 tq18 (by decide)
  replace tq19 := h_nwk (q := q33) (t := 1348) (f := fun _ => none) hq0 tq19 (by decide)
  replace tq20 := h_nwk (q := q33) (t := 1348) (f := fun _ => none) hq0 tq20 (by decide)
  replace tq21 := h_nwk (q := q33) (t := 1348) (f := fun _ => none) hq0 tq21 (by decide)
  replace tq22 := h_nwk (q := q33) (t := 1348) (f := fun _ => none) hq0 tq22 (by decide)
  replace tq23 := h_nwk (q := q33) (t := 1348) (f := fun _ => none) hq0 tq23 (by decide)
  replace tq24 := h_nwk (q := q33) (t := 1348) (f := fun _ => none) hq0 tq24 (by decide)
  replace tq25 := h_nwk (q := q33) (t := 1348) (f := fun _ => none) hq0 tq25 (by decide)
  replace tq26 := h_nwk (q := q33) (t := 1348) (f := fun _ => none) hq0 tq26 (by decide)
  replace tq27 := h_nwk (q := q33) (t := 1348) (f := fun _ => none) hq0 tq27 (by decide)
  replace tq28 := h_nwk (q := q33) (t := 1348) (f := fun _ => none) hq0 tq28 (by decide)
  replace tq29 := h_nwk (q := q33) (t := 1348) (f := fun _ => none) hq0 tq29 (by decide)
  replace tq30 := h_nwk (q := q33) (t := 1348) (f := fun _ => none) hq0 tq30 (by decide)
  replace tq31 := h_nwk (q := q33) (t := 1348) (f := fun _ => none) hq0 tq31 (by decide)
  replace tq32 := h_nwk (q := q33) (t := 1348) (f := fun _ => none) hq0 tq32 (by decide)
  replace tq33 : (z.nw q33 1348 (fun _ => none)).ty q33 = 1348 := nw_te
  obtain ⟨z, ez⟩ : ∃ z1 : tZ, z1 = (z.nw q33 1348 (fun _ => none)) := ⟨_, rfl⟩
  rw [← ez] at g hI hR hZ hQ hu_q33 t_a0 tq1 tq3 tq4 tq5 tq6 tq7 tq8 tq9 tq10 tq11 tq12 tq13 tq14 tq15 tq16 tq17 tq18 tq19 tq20 tq21 tq22 tq23 tq24 tq25 tq26 tq27 tq28 tq29 tq30 tq31 tq32 tq33 Ra0_0 Ra0_10 Ra0_11 Ra0_14 Ra0_15 Ra0_16 Ra0_17 Ra0_18 Ra0_19 Ra0_20 Ra0_21 Ra0_22 Ra0_23 Ra0_24 Ra0_25 Ra0_26 Ra0_27 Ra0_28 Ra0_29 Ra0_32 Ra0_34 Ra0_35 Ra0_36 Ra0_37 Ra0_38 Ra0_39 Ra0_40 Ra0_42 Ra0_43 Ra0_46 Ra0_47
  clear ez
  obtain ⟨I0, eI⟩ : ∃ J : tI, J = h_row I0 q33 (fun _ => 0) := ⟨_, rfl⟩
  rw [← eI] at g hI hZ hQ hz kf_a0_9 z_laws
  clear eI
  replace hF : h_F [(1310, 999), (1325, 999), (1326, 999), (1328, 999), (62, 9)] z I0 I0 := h_F.rf
  refine W.cs (cells' := 32) (slots' := 2932) rfl rfl ?_
  replace kf_a0_9 : I0 a0 9 = (-1) := kf_a0_9
  replace hZ := hZ.tcall hF rfl
  replace hQ := hQ.tc hF rfl
  refine h_putR (ty := tyX12 48) (v := q33) hx hb hts iX12 tyX12 tyX12_ok nmX12 hown g t_a0 (by decide) so_62 rfl 48 (by decide) rfl (hts (.fieldLink RX12 109 "CapLeagueModel" "isOut" "[Z") (by decide +kernel)) rfl rfl hin rfl (by decide +kernel) rfl rfl dX12_init_259 (fun H locs g => ?_)
  replace hQ := hQ.wR (a := a0) (k := 48) (v := q33) t_a0 (by decide) tq33 (by decide) (fun h9 => ⟨hu_q33, n_q33⟩)
  replace hR := hR.wR (k0 := 48) (v := some q33) t_a0 (fun _ => rfl)
  replace hZ := hZ.wR (a := a0) (k := 48) (v := some q33) (Or.inl rfl)
  replace hI : h_I (z.wR a0 48 (some q33)) I0 := hI
  replace t_a0 : (z.wR a0 48 (some q33)).ty a0 = 62 := t_a0
  replace tq1 : (z.wR a0 48 (some q33)).ty q1 = 1300 := tq1
  replace tq3 : (z.wR a0 48 (some q33)).ty q3 = 1310 := tq3
  replace tq4 : (z.wR a0 48 (some q33)).ty q4 = 1311 := tq4
  replace tq5 : (z.wR a0 48 (some q33)).ty q5 = 1314 := tq5
  replace tq6 : (z.wR a0 48 (some q33)).ty q6 = 1315 := tq6
  replace tq7 : (z.wR a0 48 (some q33)).ty q7 = 1316 := tq7
  replace tq8 : (z.wR a0 48 (some q33)).ty q8 = 1317 := tq8
  replace tq9 : (z.wR a0 48 (some q33)).ty q9 = 1318 := tq9
  replace tq10 : (z.wR a0 48 (some q33)).ty q10 = 1319 := tq10
  replace tq11 : (z.wR a0 48 (some q33)).ty q11 = 1320 := tq11
  replace tq12 : (z.wR a0 48 (some q33)).ty q12 = 1321 := tq12
  replace tq13 : (z.wR a0 48 (some q33)).ty q13 = 1322 := tq13
  replace tq14 : (z.wR a0 48 (some q33)).ty q14 = 1323 := tq14
  replace tq15 : (z.wR a0 48 (some q33)).ty q15 = 1324 := tq15
  replace tq16 : (z.wR a0 48 (some q33)).ty q16 = 1325 := tq16
  replace tq17 : (z.wR a0 48 (some q33)).ty q17 = 1326 := tq17
  replace tq18 : (z.wR a0 48 (some q33)).ty q18 = 1327 := tq18
  replace tq19 : (z.wR a0 48 (some q33)).ty q19 = 1328 := tq19
  replace tq20 : (z.wR a0 48 (some q33)).ty q20 = 1329 := tq20
  replace tq21 : (z.wR a0 48 (some q33)).ty q21 = 1332 := tq21
  replace tq22 : (z.wR a0 48 (some q33)).ty q22 = 1334 := tq22
  replace tq23 : (z.wR a0 48 (some q33)).ty q23 = 1335 := tq23
  replace tq24 : (z.wR a0 48 (some q33)).ty q24 = 1336 := tq24
  replace tq25 : (z.wR a0 48 (some q33)).ty q25 = 1337 := tq25
  replace tq26 : (z.wR a0 48 (some q33)).ty q26 = 1338 := tq26
  replace tq27 : (z.wR a0 48 (some q33)).ty q27 = 1339 := tq27
  replace tq28 : (z.wR a0 48 (some q33)).ty q28 = 1340 := tq28
  replace tq29 : (z.wR a0 48 (some q33)).ty q29 = 1342 := tq29
  replace tq30 : (z.wR a0 48 (some q33)).ty q30 = 1343 := tq30
  replace tq31 : (z.wR a0 48 (some q33)).ty q31 = 1346 := tq31
  replace tq32 : (z.wR a0 48 (some q33)).ty q32 = 1347 := tq32
  replace tq33 : (z.wR a0 48 (some q33)).ty q33 = 1348 := tq33
  replace Ra0_0 : (z.wR a0 48 (some q33)).R a0 0 = some q1 := (h_up_at (by decide)).trans Ra0_0
  replace Ra0_10 : (z.wR a0 48 (some q33)).R a0 10 = some q3 := (h_up_at (by decide)).trans Ra0_10
  replace Ra0_11 : (z.wR a0 48 (some q33)).R a0 11 = some q4 := (h_up_at (by decide)).trans Ra0_11
  replace Ra0_14 : (z.wR a0 48 (some q33)).R a0 14 = some q5 := (h_up_at (by decide)).trans Ra0_14
  replace Ra0_15 : (z.wR a0 48 (some q33)).R a0 15 = some q6 := (h_up_at (by decide)).trans Ra0_15
  replace Ra0_16 : (z.wR a0 48 (some q33)).R a0 16 = some q7 := (h_up_at (by decide)).trans Ra0_16
  replace Ra0_17 : (z.wR a0 48 (some q33)).R a0 17 = some q8 := (h_up_at (by decide)).trans Ra0_17
  replace Ra0_18 : (z.wR a0 48 (some q33)).R a0 18 = some q9 := (h_up_at (by decide)).trans Ra0_18
  replace Ra0_19 : (z.wR a0 48 (some q33)).R a0 19 = some q10 := (h_up_at (by decide)).trans Ra0_19
  replace Ra0_20 : (z.wR a0 48 (some q33)).R a0 20 = some q11 := (h_up_at (by decide)).trans Ra0_20
  replace Ra0_21 : (z.wR a0 48 (some q33)).R a0 21 = some q12 := (h_up_at (by decide)).trans Ra0_21
  replace Ra0_22 : (z.wR a0 48 (some q33)).R a0 22 = some q13 := (h_up_at (by decide)).trans Ra0_22
  replace Ra0_23 : (z.wR a0 48 (some q33)).R a0 23 = some q14 := (h_up_at (by decide)).trans Ra0_23
  replace Ra0_24 : (z.wR a0 48 (some q33)).R a0 24 = some q15 := (h_up_at (by decide)).trans Ra0_24
  replace Ra0_25 : (z.wR a0 48 (some q33)).R a0 25 = some q16 := (h_up_at (by decide)).trans Ra0_25
  replace Ra0_26 : (z.wR a0 48 (some q33)).R a0 26 = some q17 := (h_up_at (by decide)).trans Ra0_26
  replace Ra0_27 : (z.wR a0 48 (some q33)).R a0 27 = some q18 := (h_up_at (by decide)).trans Ra0_27
  replace Ra0_28 : (z.wR a0 48 (some q33)).R a0 28 = some q19 := (h_up_at (by decide)).trans Ra0_28
  replace Ra0_29 : (z.wR a0 48 (some q33)).R a0 29 = some q20 := (h_up_at (by decide)).trans Ra0_29
  replace Ra0_32 : (z.wR a0 48 (some q33)).R a0 32 = some q21 := (h_up_at (by decide)).trans Ra0_32
  replace Ra0_34 : (z.wR a0 48 (some q33)).R a0 34 = some q22 := (h_up_at (by decide)).trans Ra0_34
  replace Ra0_35 : (z.wR a0 48 (some q33)).R a0 35 = some q23 := (h_up_at (by decide)).trans Ra0_35
  replace Ra0_36 : (z.wR a0 48 (some q33)).R a0 36 = some q24 := (h_up_at (by decide)).trans Ra0_36
  replace Ra0_37 : (z.wR a0 48 (some q33)).R a0 37 = some q25 := (h_up_at (by decide)).trans Ra0_37
  replace Ra0_38 : (z.wR a0 48 (some q33)).R a0 38 = some q26 := (h_up_at (by decide)).trans Ra0_38
  replace Ra0_39 : (z.wR a0 48 (some q33)).R a0 39 = some q27 := (h_up_at (by decide)).trans Ra0_39
  replace Ra0_40 : (z.wR a0 48 (some q33)).R a0 40 = some q28 := (h_up_at (by decide)).trans Ra0_40
  replace Ra0_42 : (z.wR a0 48 (some q33)).R a0 42 = some q29 := (h_up_at (by decide)).trans Ra0_42
  replace Ra0_43 : (z.wR a0 48 (some q33)).R a0 43 = some q30 := (h_up_at (by decide)).trans Ra0_43
  replace Ra0_46 : (z.wR a0 48 (some q33)).R a0 46 = some q31 := (h_up_at (by decide)).trans Ra0_46
  replace Ra0_47 : (z.wR a0 48 (some q33)).R a0 47 = some q32 := (h_up_at (by decide)).trans Ra0_47
  replace Ra0_48 : (z.wR a0 48 (some q33)).R a0 48 = some q33 := h_up_eq
  obtain ⟨z, ez⟩ : ∃ z1 : tZ, z1 = (z.wR a0 48 (some q33)) := ⟨_, rfl⟩
  rw [← ez] at g hI hR hZ hQ t_a0 tq1 tq3 tq4 tq5 tq6 tq7 tq8 tq9 tq10 tq11 tq12 tq13 tq14 tq15 tq16 tq17 tq18 tq19 tq20 tq21 tq22 tq23 tq24 tq25 tq26 tq27 tq28 tq29 tq30 tq31 tq32 tq33 Ra0_0 Ra0_10 Ra0_11 Ra0_14 Ra0_15 Ra0_16 Ra0_17 Ra0_18 Ra0_19 Ra0_20 Ra0_21 Ra0_22 Ra0_23 Ra0_24 Ra0_25 Ra0_26 Ra0_27 Ra0_28 Ra0_29 Ra0_32 Ra0_34 Ra0_35 Ra0_36 Ra0_37 Ra0_38 Ra0_39 Ra0_40 Ra0_42 Ra0_43 Ra0_46 Ra0_47 Ra0_48
  clear ez
  replace hF : h_F [(1310, 999), (1325, 999), (1326, 999), (1328, 999), (62, 9)] z I0 I0 := h_F.rf
  refine lv_aload_n hx hb dX12_init_262 rfl (lv_at hl 0 rfl) ?_
  refine lv_bipush (v := 8) hx hb dX12_init_263 (by decide) ?_
  replace kf_a0_9 : I0 a0 9 = (-1) := kf_a0_9
  replace hZ := hZ.tcall hF rfl
  replace hQ := hQ.tc hF rfl
  refine h_newI hx hb (hts (.arrayClass .int) (by decide +kernel)) g hA so_1349 (by decide) (by decide) (by decide) (Nat.le_of_ble_eq_true rfl) (Nat.le_of_ble_eq_true rfl) dX12_init_265 (fun q34 H hq0 g => ?_)
  have n_q34 := hZ.fresh hq0 (fun h => h_neq t_a0 (by decide) hq0 (Option.some.inj h).symm)
  replace hu_q34 := hQ.1.u (q := q34) (t := 1349) hq0
  replace hQ := hQ.nw (q := q34) (t := 1349) hq0 (by decide)
  replace hI := hI.nw (q := q34) (t := 1349) (f := fun _ => none)
  replace hR := hR.nw (q := q34) (t := 1349) (f := fun _ => none) hq0 (fun k t2 n2 h => by cases (show (none : Option (Nat × Bool)) = some (t2, n2) from h))
  replace hZ := hZ.nw (q := q34) (t := 1349) (f := fun _ => none) hq0 (L2 := L0) (fun _ _ => rfl)
  replace hz : h_row I0 q34 (fun _ => 0) a0 = (fun j => if j = 9 then (-1) else (fun _ => 0) j) := (h_row_n (h_neq t_a0 (by decide) hq0)).trans hz
  replace kf_a0_9 : h_row I0 q34 (fun _ => 0) a0 9 = (-1) := (congrFun (h_row_n (h_neq t_a0 (by decide) hq0)) 9).trans kf_a0_9
  have z_laws : h_row I0 q34 (fun _ => 0) q3 = fun _ => 0 := (h_row_n (h_neq tq3 (by decide) hq0)).trans z_laws
  replace Ra0_0 := h_nwr (q := q34) (t := 1349) (f := fun _ => none) hq0 t_a0 (by decide) Ra0_0
  replace Ra0_10 := h_nwr (q := q34) (t := 1349) (f := fun _ => none) hq0 t_a0 (by decide) Ra0_10
  replace Ra0_11 := h_nwr (q := q34) (t := 1349) (f := fun _ => none) hq0 t_a0 (by decide) Ra0_11
  replace Ra0_14 := h_nwr (q := q34) (t := 1349) (f := fun _ => none) hq0 t_a0 (by decide) Ra0_14
  replace Ra0_15 := h_nwr (q := q34) (t := 1349) (f := fun _ => none) hq0 t_a0 (by decide) Ra0_15
  replace Ra0_16 := h_nwr (q := q34) (t := 1349) (f := fun _ => none) hq0 t_a0 (by decide) Ra0_16
  replace Ra0_17 := h_nwr (q := q34) (t := 1349) (f := fun _ => none) hq0 t_a0 (by decide) Ra0_17
  replace Ra0_18 := h_nwr (q := q34) (t := 1349) (f := fun _ => none) hq0 t_a0 (by decide) Ra0_18
  replace Ra0_19 := h_nwr (q := q34) (t := 1349) (f := fun _ => none) hq0 t_a0 (by decide) Ra0_19
  replace Ra0_20 := h_nwr (q := q34) (t := 1349) (f := fun _ => none) hq0 t_a0 (by decide) Ra0_20
  replace Ra0_21 := h_nwr (q := q34) (t := 1349) (f := fun _ => none) hq0 t_a0 (by decide) Ra0_21
  replace Ra0_22 := h_nwr (q := q34) (t := 1349) (f := fun _ => none) hq0 t_a0 (by decide) Ra0_22
  replace Ra0_23 := h_nwr (q := q34) (t := 1349) (f := fun _ => none) hq0 t_a0 (by decide) Ra0_23
  replace Ra0_24 := h_nwr (q := q34) (t := 1349) (f := fun _ => none) hq0 t_a0 (by decide) Ra0_24
  replace Ra0_25 := h_nwr (q := q34) (t := 1349) (f := fun _ => none) hq0 t_a0 (by decide) Ra0_25
  replace Ra0_26 := h_nwr (q := q34) (t := 1349) (f := fun _ => none) hq0 t_a0 (by decide) Ra0_26
  replace Ra0_27 := h_nwr (q := q34) (t := 1349) (f := fun _ => none) hq0 t_a0 (by decide) Ra0_27
  replace Ra0_28 := h_nwr (q := q34) (t := 1349) (f := fun _ => none) hq0 t_a0 (by decide) Ra0_28
  replace Ra0_29 := h_nwr (q := q34) (t := 1349) (f := fun _ => none) hq0 t_a0 (by decide) Ra0_29
  replace Ra0_32 := h_nwr (q := q34) (t := 1349) (f := fun _ => none) hq0 t_a0 (by decide) Ra0_32
  replace Ra0_34 := h_nwr (q := q34) (t := 1349) (f := fun _ => none) hq0 t_a0 (by decide) Ra0_34
  replace Ra0_35 := h_nwr (q := q34) (t := 1349) (f := fun _ => none) hq0 t_a0 (by decide) Ra0_35
  replace Ra0_36 := h_nwr (q := q34) (t := 1349) (f := fun _ => none) hq0 t_a0 (by decide) Ra0_36
  replace Ra0_37 := h_nwr (q := q34) (t := 1349) (f := fun _ => none) hq0 t_a0 (by decide) Ra0_37
  replace Ra0_38 := h_nwr (q := q34) (t := 1349) (f := fun _ => none) hq0 t_a0 (by decide) Ra0_38
  replace Ra0_39 := h_nwr (q := q34) (t := 1349) (f := fun _ => none) hq0 t_a0 (by decide) Ra0_39
  replace Ra0_40 := h_nwr (q := q34) (t := 1349) (f := fun _ => none) hq0 t_a0 (by decide) Ra0_40
  replace Ra0_42 := h_nwr (q := q34) (t := 1349) (f := fun _ => none) hq0 t_a0 (by decide) Ra0_42
  replace Ra0_43 := h_nwr (q := q34) (t := 1349) (f := fun _ => none) hq0 t_a0 (by decide) Ra0_43
  replace Ra0_46 := h_nwr (q := q34) (t := 1349) (f := fun _ => none) hq0 t_a0 (by decide) Ra0_46
  replace Ra0_47 := h_nwr (q := q34) (t := 1349) (f := fun _ => none) hq0 t_a0 (by decide) Ra0_47
  replace Ra0_48 := h_nwr (q := q34) (t := 1349) (f := fun _ => none) hq0 t_a0 (by decide) Ra0_48
  replace t_a0 := h_nwk (q := q34) (t := 1349) (f := fun _ => none) hq0 t_a0 (by decide)
  replace tq1 := h_nwk (q := q34) (t := 1349) (f := fun _ => none) hq0 tq1 (by decide)
  replace tq3 := h_nwk (q := q34) (t := 1349) (f := fun _ => none) hq0 tq3 (by decide)
  replace tq4 := h_nwk (q := q34) (t := 1349) (f := fun _ => none) hq0 tq4 (by decide)
  replace tq5 := h_nwk (q := q34) (t := 1349) (f := fun _ => none) hq0 tq5 (by decide)
  replace tq6 := h_nwk (q := q34) (t := 1349) (f := fun _ => none) hq0 tq6 (by decide)
  replace tq7 := h_nwk (q := q34) (t := 1349) (f := fun _ => none) hq0 tq7 (by decide)
  replace tq8 := h_nwk (q := q34) (t := 1349) (f := fun _ => none) hq0 tq8 (by decide)
  replace tq9 := h_nwk (q := q34) (t := 1349) (f := fun _ => none) hq0 tq9 (by decide)
  replace tq10 := h_nwk (q := q34) (t := 1349) (f := fun _ => none) hq0 tq10 (by decide)
  replace tq11 := h_nwk (q := q34) (t := 1349) (f := fun _ => none) hq0 tq11 (by decide)
  replace tq12 := h_nwk (q := q34) (t := 1349) (f := fun _ => none) hq0 tq12 (by decide)
  replace tq13 := h_nwk (q := q34) (t := 1349) (f := fun _ => none) hq0 tq13 (by decide)
  replace tq14 := h_nwk (q := q34) (t := 1349) (f := fun _ => none) hq0 tq14 (by decide)
  replace tq15 := h_nwk (q := q34) (t := 1349) (f := fun _ => none) hq0 tq15 (by decide)
  replace tq16 := h_nwk (q := q34) (t := 1349) (f := fun _ => none) hq0 tq16 (by decide)
  replace tq17 := h_nwk (q := q34) (t := 1349) (f := fun _ => none) hq0 tq17 (by decide)
  replace tq18 := h_nwk (q := q34) (t := 1349) (f := fun _ => none) hq0 tq18 (by decide)
  replace tq19 := h_nwk (q := q34) (t := 1349) (f := fun _ => none) hq0 tq19 (by decide)
  replace tq20 := h_nwk (q := q34) (t := 1349) (f := fun _ => none) hq0 tq20 (by decide)
  replace tq21 := h_nwk (q := q34) (t := 1349) (f := fun _ => none) hq0 tq21 (by decide)
  replace tq22 := h_nwk (q := q34) (t := 1349) (f := fun _ => none) hq0 tq22 (by decide)
  replace tq23 := h_nwk (q := q34) (t := 1349) (f := fun _ => none) hq0 tq23 (by decide)
  replace tq24 := h_nwk (q := q34) (t := 1349) (f := fun _ => none) hq0 tq24 (by decide)
  replace tq25 := h_nwk (q := q34) (t := 1349) (f := fun _ => none) hq0 tq25 (by decide)
  replace tq26 := h_nwk (q := q34) (t := 1349) (f := fun _ => none) hq0 tq26 (by decide)
  replace tq27 := h_nwk (q := q34) (t := 1349) (f := fun _ => none) hq0 tq27 (by decide)
  replace tq28 := h_nwk (q := q34) (t := 1349) (f := fun _ => none) hq0 tq28 (by decide)
  replace tq29 := h_nwk (q := q34) (t := 1349) (f := fun _ => none) hq0 tq29 (by decide)
  replace tq30 := h_nwk (q := q34) (t := 1349) (f := fun _ => none) hq0 tq30 (by decide)
  replace tq31 := h_nwk (q := q34) (t := 1349) (f := fun _ => none) hq0 tq31 (by decide)
  replace tq32 := h_nwk (q := q34) (t := 1349) (f := fun _ => none) hq0 tq32 (by decide)
  replace tq33 := h_nwk (q := q34) (t := 1349) (f := fun _ => none) hq0 tq33 (by decide)
  replace tq34 : (z.nw q34 1349 (fun _ => none)).ty q34 = 1349 := nw_te
  obtain ⟨z, ez⟩ : ∃ z1 : tZ, z1 = (z.nw q34 1349 (fun _ => none)) := ⟨_, rfl⟩
  rw [← ez] at g hI hR hZ hQ hu_q34 t_a0 tq1 tq3 tq4 tq5 tq6 tq7 tq8 tq9 tq10 tq11 tq12 tq13 tq14 tq15 tq16 tq17 tq18 tq19 tq20 tq21 tq22 tq23 tq24 tq25 tq26 tq27 tq28 tq29 tq30 tq31 tq32 tq33 tq34 Ra0_0 Ra0_10 Ra0_11 Ra0_14 Ra0_15 Ra0_16 Ra0_17 Ra0_18 Ra0_19 Ra0_20 Ra0_21 Ra0_22 Ra0_23 Ra0_24 Ra0_25 Ra0_26 Ra0_27 Ra0_28 Ra0_29 Ra0_32 Ra0_34 Ra0_35 Ra0_36 Ra0_37 Ra0_38 Ra0_39 Ra0_40 Ra0_42 Ra0_43 Ra0_46 Ra0_47 Ra0_48
  clear ez
  obtain ⟨I0, eI⟩ : ∃ J : tI, J = h_row I0 q34 (fun _ => 0) := ⟨_, rfl⟩
  rw [← eI] at g hI hZ hQ hz kf_a0_9 z_laws
  clear eI
  replace hF : h_F [(1310, 999), (1325, 999), (1326, 999), (1328, 999), (62, 9)] z I0 I0 := h_F.rf
  refine W.cs (cells' := 33) (slots' := 2940) rfl rfl ?_
  replace kf_a0_9 : I0 a0 9 = (-1) := kf_a0_9
  replace hZ := hZ.tcall hF rfl
  replace hQ := hQ.tc hF rfl
  refine h_putR (ty := tyX12 49) (v := q34) hx hb hts iX12 tyX12 tyX12_ok nmX12 hown g t_a0 (by decide) so_62 rfl 49 (by decide) rfl (hts (.fieldLink RX12 112 "CapLeagueModel" "purse" "[I") (by decide +kernel)) rfl rfl hin rfl (by decide +kernel) rfl rfl dX12_init_267 (fun H locs g => ?_)
  replace hQ := hQ.wR (a := a0) (k := 49) (v := q34) t_a0 (by decide) tq34 (by decide) (fun h9 => ⟨hu_q34, n_q34⟩)
  replace hR := hR.wR (k0 := 49) (v := some q34) t_a0 (fun _ => rfl)
  replace hZ := hZ.wR (a := a0) (k := 49) (v := some q34) (Or.inl rfl)
  replace hI : h_I (z.wR a0 49 (some q34)) I0 := hI
  replace t_a0 : (z.wR a0 49 (some q34)).ty a0 = 62 := t_a0
  replace tq1 : (z.wR a0 49 (some q34)).ty q1 = 1300 := tq1
  replace tq3 : (z.wR a0 49 (some q34)).ty q3 = 1310 := tq3
  replace tq4 : (z.wR a0 49 (some q34)).ty q4 = 1311 := tq4
  replace tq5 : (z.wR a0 49 (some q34)).ty q5 = 1314 := tq5
  replace tq6 : (z.wR a0 49 (some q34)).ty q6 = 1315 := tq6
  replace tq7 : (z.wR a0 49 (some q34)).ty q7 = 1316 := tq7
  replace tq8 : (z.wR a0 49 (some q34)).ty q8 = 1317 := tq8
  replace tq9 : (z.wR a0 49 (some q34)).ty q9 = 1318 := tq9
  replace tq10 : (z.wR a0 49 (some q34)).ty q10 = 1319 := tq10
  replace tq11 : (z.wR a0 49 (some q34)).ty q11 = 1320 := tq11
  replace tq12 : (z.wR a0 49 (some q34)).ty q12 = 1321 := tq12
  replace tq13 : (z.wR a0 49 (some q34)).ty q13 = 1322 := tq13
  replace tq14 : (z.wR a0 49 (some q34)).ty q14 = 1323 := tq14
  replace tq15 : (z.wR a0 49 (some q34)).ty q15 = 1324 := tq15
  replace tq16 : (z.wR a0 49 (some q34)).ty q16 = 1325 := tq16
  replace tq17 : (z.wR a0 49 (some q34)).ty q17 = 1326 := tq17
  replace tq18 : (z.wR a0 49 (some q34)).ty q18 = 1327 := tq18
  replace tq19 : (z.wR a0 49 (some q34)).ty q19 = 1328 := tq19
  replace tq20 : (z.wR a0 49 (some q34)).ty q20 = 1329 := tq20
  replace tq21 : (z.wR a0 49 (some q34)).ty q21 = 1332 := tq21
  replace tq22 : (z.wR a0 49 (some q34)).ty q22 = 1334 := tq22
  replace tq23 : (z.wR a0 49 (some q34)).ty q23 = 1335 := tq23
  replace tq24 : (z.wR a0 49 (some q34)).ty q24 = 1336 := tq24
  replace tq25 : (z.wR a0 49 (some q34)).ty q25 = 1337 := tq25
  replace tq26 : (z.wR a0 49 (some q34)).ty q26 = 1338 := tq26
  replace tq27 : (z.wR a0 49 (some q34)).ty q27 = 1339 := tq27
  replace tq28 : (z.wR a0 49 (some q34)).ty q28 = 1340 := tq28
  replace tq29 : (z.wR a0 49 (some q34)).ty q29 = 1342 := tq29
  replace tq30 : (z.wR a0 49 (some q34)).ty q30 = 1343 := tq30
  replace tq31 : (z.wR a0 49 (some q34)).ty q31 = 1346 := tq31
  replace tq32 : (z.wR a0 49 (some q34)).ty q32 = 1347 := tq32
  replace tq33 : (z.wR a0 49 (some q34)).ty q33 = 1348 := tq33
  replace tq34 : (z.wR a0 49 (some q34)).ty q34 = 1349 := tq34
  replace Ra0_0 : (z.wR a0 49 (some q34)).R a0 0 = some q1 := (h_up_at (by decide)).trans Ra0_0
  replace Ra0_10 : (z.wR a0 49 (some q34)).R a0 10 = some q3 := (h_up_at (by decide)).trans Ra0_10
  replace Ra0_11 : (z.wR a0 49 (some q34)).R a0 11 = some q4 := (h_up_at (by decide)).trans Ra0_11
  replace Ra0_14 : (z.wR a0 49 (some q34)).R a0 14 = some q5 := (h_up_at (by decide)).trans Ra0_14
  replace Ra0_15 : (z.wR a0 49 (some q34)).R a0 15 = some q6 := (h_up_at (by decide)).trans Ra0_15
  replace Ra0_16 : (z.wR a0 49 (some q34)).R a0 16 = some q7 := (h_up_at (by decide)).trans Ra0_16
  replace Ra0_17 : (z.wR a0 49 (some q34)).R a0 17 = some q8 := (h_up_at (by decide)).trans Ra0_17
  replace Ra0_18 : (z.wR a0 49 (some q34)).R a0 18 = some q9 := (h_up_at (by decide)).trans Ra0_18
  replace Ra0_19 : (z.wR a0 49 (some q34)).R a0 19 = some q10 := (h_up_at (by decide)).trans Ra0_19
  replace Ra0_20 : (z.wR a0 49 (some q34)).R a0 20 = some q11 := (h_up_at (by decide)).trans Ra0_20
  replace Ra0_21 : (z.wR a0 49 (some q34)).R a0 21 = some q12 := (h_up_at (by decide)).trans Ra0_21
  replace Ra0_22 : (z.wR a0 49 (some q34)).R a0 22 = some q13 := (h_up_at (by decide)).trans Ra0_22
  replace Ra0_23 : (z.wR a0 49 (some q34)).R a0 23 = some q14 := (h_up_at (by decide)).trans Ra0_23
  replace Ra0_24 : (z.wR a0 49 (some q34)).R a0 24 = some q15 := (h_up_at (by decide)).trans Ra0_24
  replace Ra0_25 : (z.wR a0 49 (some q34)).R a0 25 = some q16 := (h_up_at (by decide)).trans Ra0_25
  replace Ra0_26 : (z.wR a0 49 (some q34)).R a0 26 = some q17 := (h_up_at (by decide)).trans Ra0_26
  replace Ra0_27 : (z.wR a0 49 (some q34)).R a0 27 = some q18 := (h_up_at (by decide)).trans Ra0_27
  replace Ra0_28 : (z.wR a0 49 (some q34)).R a0 28 = some q19 := (h_up_at (by decide)).trans Ra0_28
  replace Ra0_29 : (z.wR a0 49 (some q34)).R a0 29 = some q20 := (h_up_at (by decide)).trans Ra0_29
  replace Ra0_32 : (z.wR a0 49 (some q34)).R a0 32 = some q21 := (h_up_at (by decide)).trans Ra0_32
  replace Ra0_34 : (z.wR a0 49 (some q34)).R a0 34 = some q22 := (h_up_at (by decide)).trans Ra0_34
  replace Ra0_35 : (z.wR a0 49 (some q34)).R a0 35 = some q23 := (h_up_at (by decide)).trans Ra0_35
  replace Ra0_36 : (z.wR a0 49 (some q34)).R a0 36 = some q24 := (h_up_at (by decide)).trans Ra0_36
  replace Ra0_37 : (z.wR a0 49 (some q34)).R a0 37 = some q25 := (h_up_at (by decide)).trans Ra0_37
  replace Ra0_38 : (z.wR a0 49 (some q34)).R a0 38 = some q26 := (h_up_at (by decide)).trans Ra0_38
  replace Ra0_39 : (z.wR a0 49 (some q34)).R a0 39 = some q27 := (h_up_at (by decide)).trans Ra0_39
  replace Ra0_40 : (z.wR a0 49 (some q34)).R a0 40 = some q28 := (h_up_at (by decide)).trans Ra0_40
  replace Ra0_42 : (z.wR a0 49 (some q34)).R a0 42 = some q29 := (h_up_at (by decide)).trans Ra0_42
  replace Ra0_43 : (z.wR a0 49 (some q34)).R a0 43 = some q30 := (h_up_at (by decide)).trans Ra0_43
  replace Ra0_46 : (z.wR a0 49 (some q34)).R a0 46 = some q31 := (h_up_at (by decide)).trans Ra0_46
  replace Ra0_47 : (z.wR a0 49 (some q34)).R a0 47 = some q32 := (h_up_at (by decide)).trans Ra0_47
  replace Ra0_48 : (z.wR a0 49 (some q34)).R a0 48 = some q33 := (h_up_at (by decide)).trans Ra0_48
  replace Ra0_49 : (z.wR a0 49 (some q34)).R a0 49 = some q34 := h_up_eq
  obtain ⟨z, ez⟩ : ∃ z1 : tZ, z1 = (z.wR a0 49 (some q34)) := ⟨_, rfl⟩
  rw [← ez] at g hI hR hZ hQ t_a0 tq1 tq3 tq4 tq5 tq6 tq7 tq8 tq9 tq10 tq11 tq12 tq13 tq14 tq15 tq16 tq17 tq18 tq19 tq20 tq21 tq22 tq23 tq24 tq25 tq26 tq27 tq28 tq29 tq30 tq31 tq32 tq33 tq34 Ra0_0 Ra0_10 Ra0_11 Ra0_14 Ra0_15 Ra0_16 Ra0_17 Ra0_18 Ra0_19 Ra0_20 Ra0_21 Ra0_22 Ra0_23 Ra0_24 Ra0_25 Ra0_26 Ra0_27 Ra0_28 Ra0_29 Ra0_32 Ra0_34 Ra0_35 Ra0_36 Ra0_37 Ra0_38 Ra0_39 Ra0_40 Ra0_42 Ra0_43 Ra0_46 Ra0_47 Ra0_48 Ra0_49
  clear ez
  replace hF : h_F [(1310, 999), (1325, 999), (1326, 999), (1328, 999), (62, 9)] z I0 I0 := h_F.rf
  replace hZ := hZ.tcall hF rfl
  replace hQ := hQ.tc hF rfl
  replace kf_a0_9 : I0 a0 9 = (-1) := kf_a0_9
  have g := g.rt (a := a0) (t := 13) (by rw [t_a0]; decide) (by rw [t_a0]; rfl)
  replace hI := hI.rt (a := a0) (t := 13) (fun k => by
      rw [hz]
      by_cases hk9 : k = 9
      · subst hk9
        exact ⟨by decide, by decide⟩
      simp only [if_neg hk9]
      exact h_bd0 13 k)
  replace hR := hR.rt (t := 13) t_a0 (by decide) (by decide) (fun k t2 n2 h hk => by
      have hk9 : k < 51 := hk
      rcases (show k = 0 ∨ k = 1 ∨ k = 2 ∨ k = 3 ∨ k = 4 ∨ k = 5 ∨ k = 6 ∨ k = 7 ∨ k = 8 ∨ k = 9 ∨ k = 10 ∨ k = 11 ∨ k = 12 ∨ k = 13 ∨ k = 14 ∨ k = 15 ∨ k = 16 ∨ k = 17 ∨ k = 18 ∨ k = 19 ∨ k = 20 ∨ k = 21 ∨ k = 22 ∨ k = 23 ∨ k = 24 ∨ k = 25 ∨ k = 26 ∨ k = 27 ∨ k = 28 ∨ k = 29 ∨ k = 30 ∨ k = 31 ∨ k = 32 ∨ k = 33 ∨ k = 34 ∨ k = 35 ∨ k = 36 ∨ k = 37 ∨ k = 38 ∨ k = 39 ∨ k = 40 ∨ k = 41 ∨ k = 42 ∨ k = 43 ∨ k = 44 ∨ k = 45 ∨ k = 46 ∨ k = 47 ∨ k = 48 ∨ k = 49 ∨ k = 50 by omega) with rfl | rfl | rfl | rfl | rfl | rfl | rfl | rfl | rfl | rfl | rfl | rfl | rfl | rfl | rfl | rfl | rfl | rfl | rfl | rfl | rfl | rfl | rfl | rfl | rfl | rfl | rfl | rfl | rfl | rfl | rfl | rfl | rfl | rfl | rfl | rfl | rfl | rfl | rfl | rfl | rfl | rfl | rfl | rfl | rfl | rfl | rfl | rfl | rfl | rfl | rfl
      · have e9 : some (1300, false) = some (t2, n2) := h
        cases e9
        exact ⟨q1, Ra0_0, tq1⟩
      · cases (show (none : Option (Nat × Bool)) = some (t2, n2) from h)
      · cases (show (none : Option (Nat × Bool)) = some (t2, n2) from h)
      · cases (show (none : Option (Nat × Bool)) = some (t2, n2) from h)
      · cases (show (none : Option (Nat × Bool)) = some (t2, n2) from h)
      · cases (show (none : Option (Nat × Bool)) = some (t2, n2) from h)
      · cases (show (none : Option (Nat × Bool)) = some (t2, n2) from h)
      · cases (show (none : Option (Nat × Bool)) = some (t2, n2) from h)
      · cases (show (none : Option (Nat × Bool)) = some (t2, n2) from h)
      · cases (show (none : Option (Nat × Bool)) = some (t2, n2) from h)
      · have e9 : some (1310, false) = some (t2, n2) := h
        cases e9
        exact ⟨q3, Ra0_10, tq3⟩
      · have e9 : some (1311, false) = some (t2, n2) := h
        cases e9
        exact ⟨q4, Ra0_11, tq4⟩
      · cases (show (none : Option (Nat × Bool)) = some (t2, n2) from h)
      · cases (show (none : Option (Nat × Bool)) = some (t2, n2) from h)
      · have e9 : some (1314, false) = some (t2, n2) := h
        cases e9
        exact ⟨q5, Ra0_14, tq5⟩
      · have e9 : some (1315, false) = some (t2, n2) := h
        cases e9
        exact ⟨q6, Ra0_15, tq6⟩
      · have e9 : some (1316, false) = some (t2, n2) := h
        cases e9
        exact ⟨q7, Ra0_16, tq7⟩
      · have e9 : some (1317, false) = some (t2, n2) := h
        cases e9
        exact ⟨q8, Ra0_17, tq8⟩
      · have e9 : some (1318, false) = some (t2, n2) := h
        cases e9
        exact ⟨q9, Ra0_18, tq9⟩
      · have e9 : some (1319, false) = some (t2, n2) := h
        cases e9
        exact ⟨q10, Ra0_19, tq10⟩
      · have e9 : some (1320, false) = some (t2, n2) := h
        cases e9
        exact ⟨q11, Ra0_20, tq11⟩
      · have e9 : some (1321, false) = some (t2, n2) := h
        cases e9
        exact ⟨q12, Ra0_21, tq12⟩
      · have e9 : some (1322, false) = some (t2, n2) := h
        cases e9
        exact ⟨q13, Ra0_22, tq13⟩
      · have e9 : some (1323, false) = some (t2, n2) := h
        cases e9
        exact ⟨q14, Ra0_23, tq14⟩
      · have e9 : some (1324, false) = some (t2, n2) := h
        cases e9
        exact ⟨q15, Ra0_24, tq15⟩
      · have e9 : some (1325, false) = some (t2, n2) := h
        cases e9
        exact ⟨q16, Ra0_25, tq16⟩
      · have e9 : some (1326, false) = some (t2, n2) := h
        cases e9
        exact ⟨q17, Ra0_26, tq17⟩
      · have e9 : some (1327, false) = some (t2, n2) := h
        cases e9
        exact ⟨q18, Ra0_27, tq18⟩
      · have e9 : some (1328, false) = some (t2, n2) := h
        cases e9
        exact ⟨q19, Ra0_28, tq19⟩
      · have e9 : some (1329, false) = some (t2, n2) := h
        cases e9
        exact ⟨q20, Ra0_29, tq20⟩
      · cases (show (none : Option (Nat × Bool)) = some (t2, n2) from h)
      · cases (show (none : Option (Nat × Bool)) = some (t2, n2) from h)
      · have e9 : some (1332, false) = some (t2, n2) := h
        cases e9
        exact ⟨q21, Ra0_32, tq21⟩
      · cases (show (none : Option (Nat × Bool)) = some (t2, n2) from h)
      · have e9 : some (1334, false) = some (t2, n2) := h
        cases e9
        exact ⟨q22, Ra0_34, tq22⟩
      · have e9 : some (1335, false) = some (t2, n2) := h
        cases e9
        exact ⟨q23, Ra0_35, tq23⟩
      · have e9 : some (1336, false) = some (t2, n2) := h
        cases e9
        exact ⟨q24, Ra0_36, tq24⟩
      · have e9 : some (1337, false) = some (t2, n2) := h
        cases e9
        exact ⟨q25, Ra0_37, tq25⟩
      · have e9 : some (1338, false) = some (t2, n2) := h
        cases e9
        exact ⟨q26, Ra0_38, tq26⟩
      · have e9 : some (1339, false) = some (t2, n2) := h
        cases e9
        exact ⟨q27, Ra0_39, tq27⟩
      · have e9 : some (1340, false) = some (t2, n2) := h
        cases e9
        exact ⟨q28, Ra0_40, tq28⟩
      · cases (show (none : Option (Nat × Bool)) = some (t2, n2) from h)
      · have e9 : some (1342, false) = some (t2, n2) := h
        cases e9
        exact ⟨q29, Ra0_42, tq29⟩
      · have e9 : some (1343, false) = some (t2, n2) := h
        cases e9
        exact ⟨q30, Ra0_43, tq30⟩
      · cases (show (none : Option (Nat × Bool)) = some (t2, n2) from h)
      · cases (show (none : Option (Nat × Bool)) = some (t2, n2) from h)
      · have e9 : some (1346, false) = some (t2, n2) := h
        cases e9
        exact ⟨q31, Ra0_46, tq31⟩
      · have e9 : some (1347, false) = some (t2, n2) := h
        cases e9
        exact ⟨q32, Ra0_47, tq32⟩
      · have e9 : some (1348, false) = some (t2, n2) := h
        cases e9
        exact ⟨q33, Ra0_48, tq33⟩
      · have e9 : some (1349, false) = some (t2, n2) := h
        cases e9
        exact ⟨q34, Ra0_49, tq34⟩
      · cases (show (none : Option (Nat × Bool)) = some (t2, n2) from h))
  replace hZ := hZ.rt (a := a0) (t := 13) (Or.inl rfl)
  replace hQ := hQ.rt (a := a0) (t := 13) t_a0 (by decide) (by decide) rfl rfl
  replace tq1 := h_rtk (t := 13) tq1 t_a0 (by decide)
  replace tq3 := h_rtk (t := 13) tq3 t_a0 (by decide)
  replace tq4 := h_rtk (t := 13) tq4 t_a0 (by decide)
  replace tq5 := h_rtk (t := 13) tq5 t_a0 (by decide)
  replace tq6 := h_rtk (t := 13) tq6 t_a0 (by decide)
  replace tq7 := h_rtk (t := 13) tq7 t_a0 (by decide)
  replace tq8 := h_rtk (t := 13) tq8 t_a0 (by decide)
  replace tq9 := h_rtk (t := 13) tq9 t_a0 (by decide)
  replace tq10 := h_rtk (t := 13) tq10 t_a0 (by decide)
  replace tq11 := h_rtk (t := 13) tq11 t_a0 (by decide)
  replace tq12 := h_rtk (t := 13) tq12 t_a0 (by decide)
  replace tq13 := h_rtk (t := 13) tq13 t_a0 (by decide)
  replace tq14 := h_rtk (t := 13) tq14 t_a0 (by decide)
  replace tq15 := h_rtk (t := 13) tq15 t_a0 (by decide)
  replace tq16 := h_rtk (t := 13) tq16 t_a0 (by decide)
  replace tq17 := h_rtk (t := 13) tq17 t_a0 (by decide)
  replace tq18 := h_rtk (t := 13) tq18 t_a0 (by decide)
  replace tq19 := h_rtk (t := 13) tq19 t_a0 (by decide)
  replace tq20 := h_rtk (t := 13) tq20 t_a0 (by decide)
  replace tq21 := h_rtk (t := 13) tq21 t_a0 (by decide)
  replace tq22 := h_rtk (t := 13) tq22 t_a0 (by decide)
  replace tq23 := h_rtk (t := 13) tq23 t_a0 (by decide)
  replace tq24 := h_rtk (t := 13) tq24 t_a0 (by decide)
  replace tq25 := h_rtk (t := 13) tq25 t_a0 (by decide)
  replace tq26 := h_rtk (t := 13) tq26 t_a0 (by decide)
  replace tq27 := h_rtk (t := 13) tq27 t_a0 (by decide)
  replace tq28 := h_rtk (t := 13) tq28 t_a0 (by decide)
  replace tq29 := h_rtk (t := 13) tq29 t_a0 (by decide)
  replace tq30 := h_rtk (t := 13) tq30 t_a0 (by decide)
  replace tq31 := h_rtk (t := 13) tq31 t_a0 (by decide)
  replace tq32 := h_rtk (t := 13) tq32 t_a0 (by decide)
  replace tq33 := h_rtk (t := 13) tq33 t_a0 (by decide)
  replace tq34 := h_rtk (t := 13) tq34 t_a0 (by decide)
  replace t_a0 : (z.rt a0 13).ty a0 = 13 := rt_e
  replace Ra0_0 : (z.rt a0 13).R a0 0 = some q1 := Ra0_0
  replace Ra0_10 : (z.rt a0 13).R a0 10 = some q3 := Ra0_10
  replace Ra0_11 : (z.rt a0 13).R a0 11 = some q4 := Ra0_11
  replace Ra0_14 : (z.rt a0 13).R a0 14 = some q5 := Ra0_14
  replace Ra0_15 : (z.rt a0 13).R a0 15 = some q6 := Ra0_15
  replace Ra0_16 : (z.rt a0 13).R a0 16 = some q7 := Ra0_16
  replace Ra0_17 : (z.rt a0 13).R a0 17 = some q8 := Ra0_17
  replace Ra0_18 : (z.rt a0 13).R a0 18 = some q9 := Ra0_18
  replace Ra0_19 : (z.rt a0 13).R a0 19 = some q10 := Ra0_19
  replace Ra0_20 : (z.rt a0 13).R a0 20 = some q11 := Ra0_20
  replace Ra0_21 : (z.rt a0 13).R a0 21 = some q12 := Ra0_21
  replace Ra0_22 : (z.rt a0 13).R a0 22 = some q13 := Ra0_22
  replace Ra0_23 : (z.rt a0 13).R a0 23 = some q14 := Ra0_23
  replace Ra0_24 : (z.rt a0 13).R a0 24 = some q15 := Ra0_24
  replace Ra0_25 : (z.rt a0 13).R a0 25 = some q16 := Ra0_25
  replace Ra0_26 : (z.rt a0 13).R a0 26 = some q17 := Ra0_26
  replace Ra0_27 : (z.rt a0 13).R a0 27 = some q18 := Ra0_27
  replace Ra0_28 : (z.rt a0 13).R a0 28 = some q19 := Ra0_28
  replace Ra0_29 : (z.rt a0 13).R a0 29 = some q20 := Ra0_29
  replace Ra0_32 : (z.rt a0 13).R a0 32 = some q21 := Ra0_32
  replace Ra0_34 : (z.rt a0 13).R a0 34 = some q22 := Ra0_34
  replace Ra0_35 : (z.rt a0 13).R a0 35 = some q23 := Ra0_35
  replace Ra0_36 : (z.rt a0 13).R a0 36 = some q24 := Ra0_36
  replace Ra0_37 : (z.rt a0 13).R a0 37 = some q25 := Ra0_37
  replace Ra0_38 : (z.rt a0 13).R a0 38 = some q26 := Ra0_38
  replace Ra0_39 : (z.rt a0 13).R a0 39 = some q27 := Ra0_39
  replace Ra0_40 : (z.rt a0 13).R a0 40 = some q28 := Ra0_40
  replace Ra0_42 : (z.rt a0 13).R a0 42 = some q29 := Ra0_42
  replace Ra0_43 : (z.rt a0 13).R a0 43 = some q30 := Ra0_43
  replace Ra0_46 : (z.rt a0 13).R a0 46 = some q31 := Ra0_46
  replace Ra0_47 : (z.rt a0 13).R a0 47 = some q32 := Ra0_47
  replace Ra0_48 : (z.rt a0 13).R a0 48 = some q33 := Ra0_48
  replace Ra0_49 : (z.rt a0 13).R a0 49 = some q34 := Ra0_49
  obtain ⟨z, ez⟩ : ∃ z1 : tZ, z1 = (z.rt a0 13) := ⟨_, rfl⟩
  rw [← ez] at g hI hR hZ hQ t_a0 tq1 tq3 tq4 tq5 tq6 tq7 tq8 tq9 tq10 tq11 tq12 tq13 tq14 tq15 tq16 tq17 tq18 tq19 tq20 tq21 tq22 tq23 tq24 tq25 tq26 tq27 tq28 tq29 tq30 tq31 tq32 tq33 tq34 Ra0_0 Ra0_10 Ra0_11 Ra0_14 Ra0_15 Ra0_16 Ra0_17 Ra0_18 Ra0_19 Ra0_20 Ra0_21 Ra0_22 Ra0_23 Ra0_24 Ra0_25 Ra0_26 Ra0_27 Ra0_28 Ra0_29 Ra0_32 Ra0_34 Ra0_35 Ra0_36 Ra0_37 Ra0_38 Ra0_39 Ra0_40 Ra0_42 Ra0_43 Ra0_46 Ra0_47 Ra0_48 Ra0_49
  clear ez
  replace hF : h_F [(1310, 999), (1325, 999), (1326, 999), (1328, 999), (62, 9)] z I0 I0 := h_F.rf
  have rq1 := Ra0_0
  have rq3 := Ra0_10
  have rq4 := Ra0_11
  have rq5 := Ra0_14
  have rq6 := Ra0_15
  have rq7 := Ra0_16
  have rq8 := Ra0_17
  have rq9 := Ra0_18
  have rq10 := Ra0_19
  have rq11 := Ra0_20
  have rq12 := Ra0_21
  have rq13 := Ra0_22
  have rq14 := Ra0_23
  have rq15 := Ra0_24
  have rq16 := Ra0_25
  have rq17 := Ra0_26
  have rq18 := Ra0_27
  have rq19 := Ra0_28
  have rq20 := Ra0_29
  have rq21 := Ra0_32
  have rq22 := Ra0_34
  have rq23 := Ra0_35
  have rq24 := Ra0_36
  have rq25 := Ra0_37
  have rq26 := Ra0_38
  have rq27 := Ra0_39
  have rq28 := Ra0_40
  have rq29 := Ra0_42
  have rq30 := Ra0_43
  have rq31 := Ra0_46
  have rq32 := Ra0_47
  have rq33 := Ra0_48
  have rq34 := Ra0_49
  have hz0 : ∀ k : Nat, k ≠ 9 → I0 a0 k = 0 := fun k hk => by rw [hz]; exact if_neg hk
  have hz9 : I0 a0 9 = -1 := by rw [hz]; exact if_pos rfl
  refine lv_iconst (v := 0) hx hb dX12_init_270 (by decide) ?_
  refine lv_istore_n (lv' := [(1, .int 0), (0, .ref a0)]) hx hb dX12_init_271 rfl hl (by decide) rfl (fun ls hl => ?_)
  have loop272_0 : ∀ (n : Nat) (I36 : tI) (H : Heap) (locs : List Loc) (ls : Array Slot) (v35 : Int32), h_G h_so h_fk E A z I36 L0 s s.heap H locs → h_I z I36 → h_F [(1310, 999), (1325, 999), (1326, 999), (1328, 999), (62, 9)] z I0 I36 → lv_has ls 3 [(0, .ref a0), (1, .int v35)] → (0 ≤ v35.toInt ∧ v35.toInt ≤ 16) → (∀ i : Nat, (i : Int) < v35.toInt → (I36 q3 (176 + i)).toInt = q_pl i) → (∀ k : Nat, k < 176 → I36 q3 k = 0) → (16 - v35.toInt) < (n : Int) → W pr_ l ev_ (headSpec wsX12_init ({ frames := 2, cells := 33, slots := 3500, locals := 128 })).room s m ([.ref a0] : List Value).toArray below meth cd_ H locs 33 2940 (MQ below (va_Qv (fun (q1 : tZ × tI × tL) => h_I q1.1 q1.2.1 ∧ h_R q1.1 ∧ h_X [(1310, 999), (1325, 999), (1326, 999), (1328, 999), (62, 9)] [] (some a0) z0 J0 K0 q1.1 q1.2.1 q1.2.2 ∧ h_Q [(1310, 999), (1325, 999), (1326, 999), (1328, 999), (62, 9), (13, 9)] (some a0) z0 q1.1 q1.2.1 ∧ q1.1.ty a0 = 13 ∧ (h_J1 (q1.2.1 (h_ad q1.1 a0 10))) ∧ (∀ k : Nat, k ≠ 9 → q1.2.1 a0 k = 0) ∧ (∀ i : Nat, i < 16 → (q1.2.1 (h_ad q1.1 a0 10) (176 + i)).toInt = q_pl i) ∧ (q1.2.1 a0 9 = -1) ∧ (∀ k : Nat, k < 80 → (q1.2.1 (h_ad q1.1 a0 25) k).toInt = (k : Int) / 10) ∧ (∀ k : Nat, k < 80 → q1.2.1 (h_ad q1.1 a0 28) k = -1)) (fun (q1 : tZ × tI × tL) t => h_B E A q1.1 q1.2.1 q1.2.2 t) A) ([.ref a0] : List Value).toArray s 33 3500 A) (F0 m 272 ls []) := by
    intro n
    induction n with
    | zero => intro I36 H locs ls v35 g hI hF hl jv35 hx272_0 hx272_1 hn; exact absurd hn (by omega)
    | succ n ih272 =>
      intro I36 H locs ls v35 g hI hF hl jv35 hx272_0 hx272_1 hn
      refine lv_iload_n hx hb dX12_init_272 rfl (lv_at hl 1 rfl) ?_
      refine lv_bipush (v := 16) hx hb dX12_init_273 (by decide) ?_
      refine lv_icmp_ge (tgt := 298) hx hb dX12_init_275 (by decide) (fun c37 => ?_) (fun c37 => ?_)
      · have ic37 := (xi_le c37 (by decide) rfl : 16 ≤ v35.toInt)
        refine lv_iconst (v := 0) hx hb dX12_init_298 (by decide) ?_
        refine lv_istore_n (lv' := [(1, .int 0), (0, .ref a0)]) hx hb dX12_init_299 rfl hl (by decide) rfl (fun ls hl => ?_)
        have loop300_1 : ∀ (n : Nat) (I39 : tI) (H : Heap) (locs : List Loc) (ls : Array Slot) (v38 : Int32), h_G h_so h_fk E A z I39 L0 s s.heap H locs → h_I z I39 → h_F [(1310, 999), (1325, 999), (1326, 999), (1328, 999), (62, 9)] z I0 I39 → lv_has ls 3 [(0, .ref a0), (1, .int v38)] → (0 ≤ v38.toInt ∧ v38.toInt ≤ 8) → h_F [(1325, 999), (1326, 999), (1328, 999)] z I36 I39 → (q_dl (I39 q16) (I39 q19) (v38.toInt) 0) → (8 - v38.toInt) < (n : Int) → W pr_ l ev_ (headSpec wsX12_init ({ frames := 2, cells := 33, slots := 3500, locals := 128 })).room s m ([.ref a0] : List Value).toArray below meth cd_ H locs 33 2940 (MQ below (va_Qv (fun (q1 : tZ × tI × tL) => h_I q1.1 q1.2.1 ∧ h_R q1.1 ∧ h_X [(1310, 999), (1325, 999), (1326, 999), (1328, 999), (62, 9)] [] (some a0) z0 J0 K0 q1.1 q1.2.1 q1.2.2 ∧ h_Q [(1310, 999), (1325, 999), (1326, 999), (1328, 999), (62, 9), (13, 9)] (some a0) z0 q1.1 q1.2.1 ∧ q1.1.ty a0 = 13 ∧ (h_J1 (q1.2.1 (h_ad q1.1 a0 10))) ∧ (∀ k : Nat, k ≠ 9 → q1.2.1 a0 k = 0) ∧ (∀ i : Nat, i < 16 → (q1.2.1 (h_ad q1.1 a0 10) (176 + i)).toInt = q_pl i) ∧ (q1.2.1 a0 9 = -1) ∧ (∀ k : Nat, k < 80 → (q1.2.1 (h_ad q1.1 a0 25) k).toInt = (k : Int) / 10) ∧ (∀ k : Nat, k < 80 → q1.2.1 (h_ad q1.1 a0 28) k = -1)) (fun (q1 : tZ × tI × tL) t => h_B E A q1.1 q1.2.1 q1.2.2 t) A) ([.ref a0] : List Value).toArray s 33 3500 A) (F0 m 300 ls []) := by
          intro n
          induction n with
          | zero => intro I39 H locs ls v38 g hI hF hl jv38 hL300 hx300_0 hn; exact absurd hn (by omega)
          | succ n ih300 =>
            intro I39 H locs ls v38 g hI hF hl jv38 hL300 hx300_0 hn
            refine lv_iload_n hx hb dX12_init_300 rfl (lv_at hl 1 rfl) ?_
            refine lv_bipush (v := 8) hx hb dX12_init_301 (by decide) ?_
            refine lv_icmp_ge (tgt := 362) hx hb dX12_init_303 (by decide) (fun c40 => ?_) (fun c40 => ?_)
            · have ic40 := (xi_le c40 (by decide) rfl : 8 ≤ v38.toInt)
              refine W.widen (k := 33) (n := 3500) (by decide) (by decide) ?_
              replace hZ := hZ.tcall hF rfl
              replace hQ := hQ.tc hF rfl
              replace hS := g.2.1
              exact W.vret hx hb hr (fun t ht hW => ⟨⟨(z, I39, L0), rfl, ⟨hI, hR, hZ, hQ, t_a0, ⟨(by show h_J1 (I39 (h_ad z a0 10)); rw [h_ad.at Ra0_10]; exact h_J1_init (fun k hk => (h_F.at hL300 tq3 rfl).trans (hx272_1 k hk)) (by rw [h_F.at hL300 tq3 rfl]; exact (hx272_0 8 (by omega)).trans (by decide)) (by rw [h_F.at hL300 tq3 rfl]; exact (hx272_0 9 (by omega)).trans (by decide))), (fun k hk => (hF.at t_a0 rfl).trans (hz0 k hk)), (by show ∀ i : Nat, i < 16 → (I39 (h_ad z a0 10) (176 + i)).toInt = q_pl i; rw [h_ad.at Ra0_10]; exact fun i hi => by rw [h_F.at hL300 tq3 rfl]; exact hx272_0 i (by omega)), ((hF.at t_a0 rfl).trans hz9), (by show ∀ k : Nat, k < 80 → (I39 (h_ad z a0 25) k).toInt = (k : Int) / 10; rw [h_ad.at Ra0_25]; exact (q_dl.end hx300_0 (by omega)).1), (by show ∀ k : Nat, k < 80 → I39 (h_ad z a0 28) k = -1; rw [h_ad.at Ra0_28]; exact (q_dl.end hx300_0 (by omega)).2)⟩⟩, h_ret g ht⟩, hS.F ht⟩) hS.2.2 dX12_init_362
            · have ic40 := (xi_nle c40 (by decide) rfl : v38.toInt < 8)
              refine lv_iconst (v := 0) hx hb dX12_init_306 (by decide) ?_
              refine lv_istore_n (lv' := [(2, .int 0), (0, .ref a0), (1, .int v38)]) hx hb dX12_init_307 rfl hl (by decide) rfl (fun ls hl => ?_)
              have loop308_2 : ∀ (n : Nat) (I42 : tI) (H : Heap) (locs : List Loc) (ls : Array Slot) (v41 : Int32), h_G h_so h_fk E A z I42 L0 s s.heap H locs → h_I z I42 → h_F [(1310, 999), (1325, 999), (1326, 999), (1328, 999), (62, 9)] z I0 I42 → lv_has ls 3 [(0, .ref a0), (1, .int v38), (2, .int v41)] → (0 ≤ v41.toInt ∧ v41.toInt ≤ 10) → h_F [(1325, 999), (1326, 999), (1328, 999)] z I39 I42 → (q_dl (I42 q16) (I42 q19) (v38.toInt) (v41.toInt)) → (10 - v41.toInt) < (n : Int) → W pr_ l ev_ (headSpec wsX12_init ({ frames := 2, cells := 33, slots := 3500, locals := 128 })).room s m ([.ref a0] : List Value).toArray below meth cd_ H locs 33 2940 (MQ below (va_Qv (fun (q1 : tZ × tI × tL) => h_I q1.1 q1.2.1 ∧ h_R q1.1 ∧ h_X [(1310, 999), (1325, 999), (1326, 999), (1328, 999), (62, 9)] [] (some a0) z0 J0 K0 q1.1 q1.2.1 q1.2.2 ∧ h_Q [(1310, 999), (1325, 999), (1326, 999), (1328, 999), (62, 9), (13, 9)] (some a0) z0 q1.1 q1.2.1 ∧ q1.1.ty a0 = 13 ∧ (h_J1 (q1.2.1 (h_ad q1.1 a0 10))) ∧ (∀ k : Nat, k ≠ 9 → q1.2.1 a0 k = 0) ∧ (∀ i : Nat, i < 16 → (q1.2.1 (h_ad q1.1 a0 10) (176 + i)).toInt = q_pl i) ∧ (q1.2.1 a0 9 = -1) ∧ (∀ k : Nat, k < 80 → (q1.2.1 (h_ad q1.1 a0 25) k).toInt = (k : Int) / 10) ∧ (∀ k : Nat, k < 80 → q1.2.1 (h_ad q1.1 a0 28) k = -1)) (fun (q1 : tZ × tI × tL) t => h_B E A q1.1 q1.2.1 q1.2.2 t) A) ([.ref a0] : List Value).toArray s 33 3500 A) (F0 m 308 ls []) := by
                intro n
                induction n with
                | zero => intro I42 H locs ls v41 g hI hF hl jv41 hL308 hx308_0 hn; exact absurd hn (by omega)
                | succ n ih308 =>
                  intro I42 H locs ls v41 g hI hF hl jv41 hL308 hx308_0 hn
                  refine lv_iload_n hx hb dX12_init_308 rfl (lv_at hl 2 rfl) ?_
                  refine lv_bipush (v := 10) hx hb dX12_init_309 (by decide) ?_
                  refine lv_icmp_ge (tgt := 356) hx hb dX12_init_311 (by decide) (fun c43 => ?_) (fun c43 => ?_)
                  · have ic43 := (xi_le c43 (by decide) rfl : 10 ≤ v41.toInt)
                    obtain ⟨v44, ev44⟩ : ∃ z : Int32, z = v38 + 1 := ⟨_, rfl⟩
                    have jv44 : v44.toInt = v38.toInt + 1 := xi_add ev44 rfl (by decide) (by omega) (by omega)
                    refine lv_iinc (v := v44) (lv' := [(1, .int v44), (0, .ref a0), (2, .int v41)]) hx hb dX12_init_356 hl (k := 1) rfl (by rw [ev44]; rfl) (by decide) rfl (fun ls hl => ?_)
                    refine lv_goto (tgt := 300) hx hb dX12_init_359 (by decide) ?_
                    exact ih300 I42 _ _ _ v44 g hI hF (lv_sub hl [1, 0] rfl) (by omega) (h_F.call (h_F.call (h_F.rf : h_F [(1325, 999), (1326, 999), (1328, 999)] z I36 I36) hL300 rfl) hL308 rfl) (q_dl.nx hx308_0 (by omega) (by omega)) (by omega)
                  · have ic43 := (xi_nle c43 (by decide) rfl : v41.toInt < 10)
                    refine lv_aload_n hx hb dX12_init_314 rfl (lv_at hl 0 rfl) ?_
                    refine h_get (v := .ref q16) hx hb hts iX12 hown g t_a0 (by decide) so_13 rfl 25 (by decide) (hts (.fieldLink RX12 58 "CapLeagueModel" "owner" "[I") (by decide +kernel)) rfl dX12_init_315 (by show va_rf (z.R a0 25) = _; rw [rq16]; rfl) ?_
                    refine lv_bipush (v := 10) hx hb dX12_init_318 (by decide) ?_
                    refine lv_iload_n hx hb dX12_init_320 rfl (lv_at hl 1 rfl) ?_
                    refine lv_imul hx hb dX12_init_321 ?_
                    refine lv_topi (fun v45 ev45 => ?_)
                    have jv45 : v45.toInt = 10 * v38.toInt := xi_mul ev45 (by decide) rfl (by omega) (by omega)
                    refine lv_iload_n hx hb dX12_init_322 rfl (lv_at hl 2 rfl) ?_
                    refine lv_iadd hx hb dX12_init_323 ?_
                    refine lv_topi (fun v46 ev46 => ?_)
                    have jv46 : v46.toInt = v45.toInt + v41.toInt := xi_add ev46 rfl rfl (by omega) (by omega)
                    refine lv_iload_n hx hb dX12_init_324 rfl (lv_at hl 1 rfl) ?_
                    refine h_ast hx hb g tq16 (by decide) so_1325 (xi_in (by omega) (by omega)) dX12_init_325 (fun I47 H locs eI47 g => ?_)
                    replace hI := hI.wr eI47 tq16 (rfl : h_bd 1325 _ = ((-2147483648), 2147483647)) (xi_lo _) (Int.le_of_lt_add_one (xi_hi _))
                    replace hF := hF.wr eI47 tq16 rfl
                    refine lv_aload_n hx hb dX12_init_326 rfl (lv_at hl 0 rfl) ?_
                    refine h_get (v := .ref q17) hx hb hts iX12 hown g t_a0 (by decide) so_13 rfl 26 (by decide) (hts (.fieldLink RX12 61 "CapLeagueModel" "giver" "[I") (by decide +kernel)) rfl dX12_init_327 (by show va_rf (z.R a0 26) = _; rw [rq17]; rfl) ?_
                    refine lv_bipush (v := 10) hx hb dX12_init_330 (by decide) ?_
                    refine lv_iload_n hx hb dX12_init_332 rfl (lv_at hl 1 rfl) ?_
                    refine lv_imul hx hb dX12_init_333 ?_
                    refine xw_i (v := v45) ev45.symm ?_
                    refine lv_iload_n hx hb dX12_init_334 rfl (lv_at hl 2 rfl) ?_
                    refine lv_iadd hx hb dX12_init_335 ?_
                    refine xw_i (v := v46) ev46.symm ?_
                    refine lv_iconst (v := (-1)) hx hb dX12_init_336 (by decide) ?_
                    refine h_ast hx hb g tq17 (by decide) so_1326 (xi_in (by omega) (by omega)) dX12_init_337 (fun I48 H locs eI48 g => ?_)
                    replace hI := hI.wr eI48 tq17 (rfl : h_bd 1326 _ = ((-2147483648), 2147483647)) (by decide) (by decide)
                    replace hF := hF.wr eI48 tq17 rfl
                    refine lv_aload_n hx hb dX12_init_338 rfl (lv_at hl 0 rfl) ?_
                    refine h_get (v := .ref q19) hx hb hts iX12 hown g t_a0 (by decide) so_13 rfl 28 (by decide) (hts (.fieldLink RX12 67 "CapLeagueModel" "drawnOf" "[I") (by decide +kernel)) rfl dX12_init_339 (by show va_rf (z.R a0 28) = _; rw [rq19]; rfl) ?_
                    refine lv_bipush (v := 8) hx hb dX12_init_342 (by decide) ?_
                    refine lv_iload_n hx hb dX12_init_344 rfl (lv_at hl 2 rfl) ?_
                    refine lv_imul hx hb dX12_init_345 ?_
                    refine lv_topi (fun v49 ev49 => ?_)
                    have jv49 : v49.toInt = 8 * v41.toInt := xi_mul ev49 (by decide) rfl (by omega) (by omega)
                    refine lv_iload_n hx hb dX12_init_346 rfl (lv_at hl 1 rfl) ?_
                    refine lv_iadd hx hb dX12_init_347 ?_
                    refine lv_topi (fun v50 ev50 => ?_)
                    have jv50 : v50.toInt = v49.toInt + v38.toInt := xi_add ev50 rfl rfl (by omega) (by omega)
                    refine lv_iconst (v := (-1)) hx hb dX12_init_348 (by decide) ?_
                    refine h_ast hx hb g tq19 (by decide) so_1328 (xi_in (by omega) (by omega)) dX12_init_349 (fun I51 H locs eI51 g => ?_)
                    replace hI := hI.wr eI51 tq19 (rfl : h_bd 1328 _ = ((-1), 7)) (by decide) (by decide)
                    replace hF := hF.wr eI51 tq19 rfl
                    obtain ⟨v52, ev52⟩ : ∃ z : Int32, z = v41 + 1 := ⟨_, rfl⟩
                    have jv52 : v52.toInt = v41.toInt + 1 := xi_add ev52 rfl (by decide) (by omega) (by omega)
                    refine lv_iinc (v := v52) (lv' := [(2, .int v52), (0, .ref a0), (1, .int v38)]) hx hb dX12_init_350 hl (k := 2) rfl (by rw [ev52]; rfl) (by decide) rfl (fun ls hl => ?_)
                    refine lv_goto (tgt := 308) hx hb dX12_init_353 (by decide) ?_
                    exact ih308 I51 _ _ _ v52 g hI hF (lv_sub hl [1, 2, 0] rfl) (by omega) (h_F.wr (h_F.wr (h_F.wr (h_F.call (h_F.rf : h_F [(1325, 999), (1326, 999), (1328, 999)] z I39 I39) hL308 rfl) eI47 tq16 rfl) eI48 tq17 rfl) eI51 tq19 rfl) (q_dl.s hx308_0 tq16 tq17 tq19 eI47 eI48 eI51 (by omega) (by omega) rfl rfl (by omega) (by omega) (by omega)) (by omega)
              have kc53 : (0 : Int32).toInt = 0 := by decide
              exact loop308_2 _ I39 _ _ _ (0) g hI hF (lv_sub hl [1, 2, 0] rfl) ⟨by decide, by decide⟩ (h_F.rf : h_F [(1325, 999), (1326, 999), (1328, 999)] z I39 I39) (hx300_0) (show (10 - (0 : Int)) < (((10 - (0 : Int)).toNat + 1 : Nat) : Int) by omega)
        have kc54 : (0 : Int32).toInt = 0 := by decide
        exact loop300_1 _ I36 _ _ _ (0) g hI hF (lv_sub hl [1, 0] rfl) ⟨by decide, by decide⟩ (h_F.rf : h_F [(1325, 999), (1326, 999), (1328, 999)] z I36 I36) (fun a b ha hb h9 => absurd h9 (by omega)) (show (8 - (0 : Int)) < (((8 - (0 : Int)).toNat + 1 : Nat) : Int) by omega)
      · have ic37 := (xi_nle c37 (by decide) rfl : v35.toInt < 16)
        refine lv_aload_n hx hb dX12_init_278 rfl (lv_at hl 0 rfl) ?_
        refine h_get (v := .ref q3) hx hb hts iX12 hown g t_a0 (by decide) so_13 rfl 10 (by decide) (hts (.fieldLink RX12 17 "CapLeagueModel" "laws" "[I") (by decide +kernel)) rfl dX12_init_279 (by show va_rf (z.R a0 10) = _; rw [rq3]; rfl) ?_
        refine lv_sipush (v := 176) hx hb dX12_init_282 (by decide) ?_
        refine lv_iload_n hx hb dX12_init_285 rfl (lv_at hl 1 rfl) ?_
        refine lv_iadd hx hb dX12_init_286 ?_
        refine lv_topi (fun v55 ev55 => ?_)
        have jv55 : v55.toInt = 176 + v35.toInt := xi_add ev55 (by decide) rfl (by omega) (by omega)
        refine lv_iload_n hx hb dX12_init_287 rfl (lv_at hl 1 rfl) ?_
        refine vp_callSi (W.runS (As := [.int v35]) (rest := [.int v55, .ref q3]) ⟨hx, hb, hml, hown, hts⟩ (tX12_plainZ l E X A z I36 L0 v35 (v35.toInt) rfl) (va_cwS 1 hts gX12_init_X12_plain rfl rfl rfl (by decide +kernel) ⟨Nat.le_of_ble_eq_true rfl, Nat.le_of_ble_eq_true rfl⟩) ⟨h_blind _ _ _ _ _ _ _, h_pre _ hE hk hX hA hI hR g⟩ rfl rfl hl.1 rfl (lv_room (Nat.le_of_ble_eq_true rfl)) dX12_init_288 ⟨Nat.le_of_ble_eq_true rfl, Nat.le_of_ble_eq_true rfl⟩) (fun rh56 h56 => ?_)
        obtain ⟨h56p0, h56p1⟩ := h56
        have jrh56 : -2147483648 ≤ rh56.toInt ∧ rh56.toInt ≤ 2147483647 := ⟨xi_lo _, Int.le_of_lt_add_one (xi_hi _)⟩
        refine h_ast hx hb g tq3 (by decide) so_1310 (xi_in (by omega) (by omega)) dX12_init_291 (fun I57 H locs eI57 g => ?_)
        replace hI := h_lww hI eI57 tq3 (k := v55.toInt) rfl (by omega) (by omega) (by omega)
        replace hF := hF.wr eI57 tq3 rfl
        obtain ⟨v58, ev58⟩ : ∃ z : Int32, z = v35 + 1 := ⟨_, rfl⟩
        have jv58 : v58.toInt = v35.toInt + 1 := xi_add ev58 rfl (by decide) (by omega) (by omega)
        refine lv_iinc (v := v58) (lv' := [(1, .int v58), (0, .ref a0)]) hx hb dX12_init_292 hl (k := 1) rfl (by rw [ev58]; rfl) (by decide) rfl (fun ls hl => ?_)
        refine lv_goto (tgt := 272) hx hb dX12_init_295 (by decide) ?_
        exact ih272 I57 _ _ _ v58 g hI hF (lv_sub hl [1, 0] rfl) (by omega) (q_plmO (o := 176) (l := v35.toInt) hx272_0 (by omega) eI57 (by omega) (by rcases h56p0 with q | q; exact q; omega) (by omega)) (fun k hk => (h_n2 eI57 (h_kne (t := v55.toInt) rfl (by omega) (by omega))).trans (hx272_1 k hk)) (by omega)
  have kc59 : (0 : Int32).toInt = 0 := by decide
  exact loop272_0 _ I0 _ _ _ (0) g hI hF (lv_sub hl [1, 0] rfl) ⟨by decide, by decide⟩ (fun i hi => absurd hi (by omega)) (fun k hk => by rw [z_laws]) (show (16 - (0 : Int)) < (((16 - (0 : Int)).toNat + 1 : Nat) : Int) by omega)

