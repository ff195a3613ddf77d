set_option maxHeartbeats 4000000 in
set_option maxRecDepth 100000 in
theorem tX0_endConB (l : Launch) (E : tE) (X : tX) (A : Nat → Prop) (z : tZ) (I0 : tI) (L0 : tL) (a0 : Nat) (t_a0 : z.ty a0 = 1) (p0 : Nat) (t_p0 : z.ty p0 = 7) : Met l yX0_endContractIfOver wsX0_endContractIfOver ({ frames := 3, cells := 0, slots := 0, locals := 192 }) (va_Pc [.ref a0, .ref p0] (h_P E X A z I0 L0)) (va_Qv (fun (I1 : tI) => h_I z I1 ∧ h_F [(7, 0), (7, 1), (7, 2), (7, 3), (7, 4), (7, 5), (7, 6)] z I0 I1 ∧ (((I0 p0 0).toInt ≠ -1 ∧ ¬ q_und (I0 p0 0) (I0 p0 1) (I0 p0 2) (I0 p0 6) (I0 a0 3) ∧ I1 p0 0 = -1 ∧ I1 p0 5 = 0 ∧ I1 p0 6 = 0) ∨ (((I0 p0 0).toInt = -1 ∨ q_und (I0 p0 0) (I0 p0 1) (I0 p0 2) (I0 p0 6) (I0 a0 3)) ∧ I1 = I0)) ∧ (∀ b k : Nat, (b ≠ p0 ∨ k = 7) → I1 b k = I0 b k)) (fun (I1 : tI) t => h_B E A z I1 L0 t) A) 0 0 A := by
  refine Met.ofW (cc := cX0_endContractIfOver) (maxL := 2) (ret := none) (by decide) rfl ?_
  intro pr_ ev_ s m args below meth cd_ s₁ B hml hv
  obtain ⟨rfl, hE, hk, hX, hA, hK, hI, hR, hB0⟩ := hv
  have g : h_G h_so h_fk E A z I0 L0 s s.heap s.heap [] := ⟨hK, va_S.rf, hB0⟩
  have hF : h_F [(7, 0), (7, 1), (7, 2), (7, 3), (7, 4), (7, 5), (7, 6)] z I0 I0 := h_F.rf
  have hx := B.exec
  have hb := B.bytes
  have hr := B.returns
  have hts := atoms_spec (ws := wsX0_endContractIfOver) B.pre
  have hown : s.vm.findClass RX0 = some m.cls := findClass_of_methodNamed B.named
  have hlocks := B.notSynchronized
  have iX0 : ∀ w ∈ u_ws RX0 TX0 9, w ∈ wsX0_endContractIfOver := by decide +kernel
  have hl := lv_entry ([.ref a0, .ref p0]) (n := 2) (Nat.le_of_ble_eq_true rfl)
  rw [lg_entry_eq]
  generalize (lg_sl ([.ref a0, .ref p0]) ++ List.replicate (2 - (lg_sl ([.ref a0, .ref p0])).length) Slot.unset).toArray = ls at hl ⊢
  have hl : lv_has ls 2 [(0, .ref a0), (1, .ref p0)] := hl
  have tp0 := t_p0
  obtain ⟨f0_3, ef0_3⟩ : ∃ v : Int32, v = I0 a0 3 := ⟨_, rfl⟩
  have qf0_3 : (I0 a0 3).toInt = f0_3.toInt := congrArg Int32.toInt ef0_3.symm
  have jf0_3 := hI.rd a0 3 t_a0 ef0_3 (rfl : h_bd 1 3 = (0, 9))
  refine lv_aload_n hx hb dX0_endContractIfOver_0 rfl (lv_at hl 1 rfl) ?_
  refine vp_callSi (W.runV (As := []) (rest := []) ⟨hx, hb, hml, hown, hts⟩ (tX6_isSignedB l E X A z I0 L0 p0 t_p0) (cwV 0 hts gX0_endContractIfOver_X6_isSigned rfl rfl rfl (by decide +kernel) ⟨Nat.le_of_ble_eq_true rfl, Nat.le_of_ble_eq_true rfl⟩) ⟨h_blind _ _ _ _ _ _ _, h_recv g t_p0 (by decide) so_7 (q := (RX6, TX6, 9)) rfl, h_pre _ hE hk hX hA hI hR g⟩ rfl rfl hl.1 rfl (lv_room (Nat.le_of_ble_eq_true rfl)) dX0_endContractIfOver_1 ⟨Nat.le_of_ble_eq_true rfl, Nat.le_of_ble_eq_true rfl⟩) (fun rh1 h1 => ?_)
  obtain ⟨h1, h1p0⟩ := h1
  refine lv_if_eq (tgt := 22) hx hb dX0_endContractIfOver_4 (by decide) (fun c2 => ?_) (fun c2 => ?_)
  · have ic2 := (xi_eq c2 rfl (by decide) : rh1.toInt = 0)
    have hS := g.2.1
    exact W.vret hx hb hr (fun t ht hW => ⟨⟨I0, rfl, ⟨hI, hF, ⟨(Or.inr ⟨Or.inl (by omega), rfl⟩), (fun b k _ => rfl)⟩⟩, h_ret g ht⟩, hS.F ht⟩) hS.2.2 dX0_endContractIfOver_22
  · have ic2 := (xi_ne c2 rfl (by decide) : rh1.toInt ≠ 0)
    refine lv_aload_n hx hb dX0_endContractIfOver_7 rfl (lv_at hl 1 rfl) ?_
    refine lv_aload_n hx hb dX0_endContractIfOver_8 rfl (lv_at hl 0 rfl) ?_
    refine h_get (v := .int f0_3) hx hb hts iX0 hown g t_a0 (by decide) so_1 rfl 3 (by decide) (hts (.fieldLink RX0 37 "CapLeague$Books" "clock" "I") (by decide +kernel)) rfl dX0_endContractIfOver_9 (congrArg Value.int (ef0_3.symm)) ?_
    refine vp_callSi (W.runV (As := [.int f0_3]) (rest := []) ⟨hx, hb, hml, hown, hts⟩ (tX6_isBoundB l E X A z I0 L0 p0 t_p0 f0_3 (f0_3.toInt) rfl) (cwV 1 hts gX0_endContractIfOver_X6_isBoundIn rfl rfl rfl (by decide +kernel) ⟨Nat.le_of_ble_eq_true rfl, Nat.le_of_ble_eq_true rfl⟩) ⟨h_blind _ _ _ _ _ _ _, h_recv g t_p0 (by decide) so_7 (q := (RX6, TX6, 9)) rfl, h_pre _ hE hk hX hA hI hR g⟩ rfl rfl hl.1 rfl (lv_room (Nat.le_of_ble_eq_true rfl)) dX0_endContractIfOver_12 ⟨Nat.le_of_ble_eq_true rfl, Nat.le_of_ble_eq_true rfl⟩) (fun rh3 h3 => ?_)
    obtain ⟨h3, h3p0⟩ := h3
    rw [ef0_3] at h3p0
    refine lv_if_ne (tgt := 22) hx hb dX0_endContractIfOver_15 (by decide) (fun c4 => ?_) (fun c4 => ?_)
    · have ic4 := (xi_ne c4 rfl (by decide) : rh3.toInt ≠ 0)
      have hS := g.2.1
      exact W.vret hx hb hr (fun t ht hW => ⟨⟨I0, rfl, ⟨hI, hF, ⟨(Or.inr ⟨Or.inr (by rcases h3p0 with q | q; exact q.2; exact absurd q.1 (by omega)), rfl⟩), (fun b k _ => rfl)⟩⟩, h_ret g ht⟩, hS.F ht⟩) hS.2.2 dX0_endContractIfOver_22
    · have ic4 := (xi_eq c4 rfl (by decide) : rh3.toInt = 0)
      refine lv_aload_n hx hb dX0_endContractIfOver_18 rfl (lv_at hl 1 rfl) ?_
      refine va_callv (va_runV (As := []) (rest := []) ⟨hx, hb, hml, hown, hts⟩ (tX6_unbindB l E X A z I0 L0 p0 t_p0) (cwV 0 hts gX0_endContractIfOver_X6_unbind rfl rfl rfl (by decide +kernel) ⟨Nat.le_of_ble_eq_true rfl, Nat.le_of_ble_eq_true rfl⟩) ⟨h_blind _ _ _ _ _ _ _, h_recv g t_p0 (by decide) so_7 (q := (RX6, TX6, 9)) rfl, h_pre _ hE hk hX hA hI hR g⟩ rfl rfl hl.1 rfl (lv_room (Nat.le_of_ble_eq_true rfl)) dX0_endContractIfOver_19 ⟨Nat.le_of_ble_eq_true rfl, Nat.le_of_ble_eq_true rfl⟩) g.2.1 (fun q _ h => h) (fun q h => h) (fun I6 t H1 locs ht hvm h5 hB hz1 hk1 hS => ?_)
      obtain ⟨hI, fh5, h5⟩ := h5
      replace g := h_after g hB ht hS
      generalize H1 = H at g
      clear hB hk1 hz1 ht hvm hS
      have hF := hF.call fh5 rfl
      obtain ⟨h5p0, h5p1⟩ := h5
      have hS := g.2.1
      exact W.vret hx hb hr (fun t ht hW => ⟨⟨I6, rfl, ⟨hI, hF, ⟨(Or.inl ⟨by omega, (by rcases h3p0 with q | q; exact absurd q.1 (by omega); exact q.2), h5p0.1, h5p0.2.1, h5p0.2.2⟩), (h5p1)⟩⟩, h_ret g ht⟩, hS.F ht⟩) hS.2.2 dX0_endContractIfOver_22
