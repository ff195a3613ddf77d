set_option maxHeartbeats 4000000 in
set_option maxRecDepth 100000 in
theorem tX0_endConB (l : Launch) (E : tE) (X : tX) (A : Nat → Prop) (z : tZ) (I0 : tI) (L0 : tL) (a0 : Nat) (t_a0 : z.ty a0 = 1) (p0 : Nat) (t_p0 : z.ty p0 = 7) : Met l yX0_endContractIfOver wsX0_endContractIfOver ({ frames := 3, cells := 0, slots := 0, locals := 192 }) (va_Pc [.ref a0, .ref p0] (h_P E X A z I0 L0)) (va_Qv (fun (I1 : tI) => h_I z I1 ∧ h_F [(7, 0), (7, 1), (7, 2), (7, 3), (7, 4), (7, 5), (7, 6)] z I0 I1 ∧ (((I0 p0 0).toInt ≠ -1 ∧ ¬ q_und (I0 p0 0) (I0 p0 1) (I0 p0 2) (I0 p0 6) (I0 a0 3) ∧ I1 p0 0 = -1 ∧ I1 p0 5 = 0 ∧ I1 p0 6 = 0) ∨ (((I0 p0 0).toInt = -1 ∨ q_und (I0 p0 0) (I0 p0 1) (I0 p0 2) (I0 p0 6) (I0 a0 3)) ∧ I1 = I0)) ∧ (∀ b k : Nat, (b ≠ p0 ∨ k = 7) → I1 b k = I0 b k)) (fun (I1 : tI) t => h_B E A z I1 L0 t) A) 0 0 A := by
  refine Met.ofW (cc := cX0_endContractIfOver) (maxL := 2) (ret := none) (by decide) rfl ?_
  intro pr_ ev_ s m args below meth cd_ s₁ B hml hv
  obtain ⟨rfl, hE, hk, hX, hA, hK, hI, hR, hB0⟩ := hv
  have g : h_G h_so h_fk E A z I0 L0 s s.heap s.heap [] := ⟨hK, va_S.rf, hB0⟩
  have hF : h_F [(7, 0), (7, 1), (7, 2), (7, 3), (7, 4), (7, 5), (7, 6)] z I0 I0 := h_F.rf
  have hx := B.exec
  have hb := B.bytes
  have hr := B.returns
  have hts := atoms_spec (ws := wsX0_endContractIfOver) B.pre
  have hown : s.vm.findClass RX0 = some m.cls := findClass_of_methodNamed B.named
  have hlocks := B.notSynchronized
  have iX0 : ∀ w ∈ u_ws RX0 TX0 9, w ∈ wsX0_endContractIfOver := by decide +kernel
  have hl := lv_entry ([.ref a0, .ref p0]) (n := 2) (Nat.le_of_ble_eq_true rfl)
  rw [lg_entry_eq]
  generalize (lg_sl ([.ref a0, .ref p0]) ++ List.replicate (2 - (lg_sl ([.ref a0, .ref p0])).length) Slot.unset).toArray = ls at hl ⊢
  have hl : lv_has ls 2 [(0, .ref a0), (1, .ref p0)] := hl
  have tp0 := t_p0
  obtain ⟨f0_3, ef0_3⟩ : ∃ v : Int32, v = I0 a0 3 := ⟨_, rfl⟩
  have qf0_3 : (I0 a0 3).toInt = f0_3.toInt := congrArg Int32.toInt ef0_3.symm
  have jf0_3 := hI.rd a0 3 t_a0 ef0_3 (rfl : h_bd 1 3 = (0, 9))
  refine lv_aload_n hx hb dX0_endContractIfOver_0 rfl (lv_at hl 1 rfl) ?_
  refine vp_callSi (W.runV (As := []) (rest := []) ⟨hx, hb, hml, hown, hts⟩ (tX6_isSignedB l E X A z I0 L0 p0 t_p0) (cwV 0 hts gX0_endContractIfOver_X6_isSigned rfl rfl rfl (by decide +kernel) ⟨Nat.le_of_ble_eq_true rfl, Nat.le_of_ble_eq_true rfl⟩) ⟨h_blind _ _ _ _ _ _ _, h_recv g t_p0 (by decide) so_7 (q := (RX6, TX6, 9)) rfl, h_pre _ hE hk hX hA hI hR g⟩ rfl rfl hl.1 rfl (lv_room (Nat.le_of_ble_eq_true rfl)) dX0_endContractIfOver_1 ⟨Nat.le_of_ble_eq_true rfl, Nat.le_of_ble_eq_true rfl⟩) (fun rh1 h1 => ?_)
  obtain ⟨h1, h1p0⟩ := h1
  refine lv_if_eq (tgt := 22) hx hb dX0_endContractIfOver_4 (by decide) (fun c2 => ?_) (fun c2 => ?_)
  · have ic2 := (xi_eq c2 rfl (by decide) : rh1.toInt = 0)
    have hS := g.2.1
    exact W.vret hx hb hr (fun t ht hW => ⟨⟨I0, rfl, ⟨hI, hF, ⟨(Or.inr ⟨Or.inl (by omega), rfl⟩), (fun b k _ => rfl)⟩⟩, h_ret g ht⟩, hS.F ht⟩) hS.2.2 dX0_endContractIfOver_22
  · have ic2 := (xi_ne c2 rfl (by decide) : rh1.toInt ≠ 0)
    refine lv_aload_n hx hb dX0_endContractIfOver_7 rfl (lv_at hl 1 rfl) ?_
    refine lv_aload_n hx hb dX0_endContractIfOver_8 rfl (lv_at hl 0 rfl) ?_
    refine h_get (v := .int f0_3) hx hb hts iX0 hown g t_a0 (by decide) so_1 rfl 3 (by decide) (hts (.fieldLink RX0 37 "CapLeague$Books" "clock" "I") (by decide +kernel)) rfl dX0_endContractIfOver_9 (congrArg Value.int (ef0_3.symm)) ?_
    refine vp_callSi (W.runV (As := [.int f0_3]) (rest := []) ⟨hx, hb, hml, hown, hts⟩ (tX6_isBoundB l E X A z I0 L0 p0 t_p0 f0_3 (f0_3.toInt) rfl) (cwV 1 hts gX0_endContractIfOver_X6_isBoundIn rfl rfl rfl (by decide +kernel) ⟨Nat.le_of_ble_eq_true rfl, Nat.le_of_ble_eq_true rfl⟩) ⟨h_blind _ _ _ _ _ _ _, h_recv g t_p0 (by decide) so_7 (q := (RX6, TX6, 9)) rfl, h_pre _ hE hk hX hA hI hR g⟩ rfl rfl hl.1 rfl (lv_room (Nat.le_of_ble_eq_true rfl)) dX0_endContractIfOver_12 ⟨Nat.le_of_ble_eq_true rfl, Nat.le_of_ble_eq_true rfl⟩) (fun rh3 h3 => ?_)
    obtain ⟨h3, h3p0⟩ := h3
    rw [ef0_3] at h3p0
    refine lv_if_ne (tgt := 22) hx hb dX0_endContractIfOver_15 (by decide) (fun c4 => ?_) (fun c4 => ?_)
    · have ic4 := (xi_ne c4 rfl (by decide) : rh3.toInt ≠ 0)
      have hS := g.2.1
      exact W.vret hx hb hr (fun t ht hW => ⟨⟨I0, rfl, ⟨hI, hF, ⟨(Or.inr ⟨Or.inr (by rcases h3p0 with q | q; exact q.2; exact absurd q.1 (by omega)), rfl⟩), (fun b k _ => rfl)⟩⟩, h_ret g ht⟩, hS.F ht⟩) hS.2.2 dX0_endContractIfOver_22
    · have ic4 := (xi_eq c4 rfl (by decide) : rh3.toInt = 0)
      refine lv_aload_n hx hb dX0_endContractIfOver_18 rfl (lv_at hl 1 rfl) ?_
      refine va_callv (va_runV (As := []) (rest := []) ⟨hx, hb, hml, hown, hts⟩ (tX6_unbindB l E X A z I0 L0 p0 t_p0) (cwV 0 hts gX0_endContractIfOver_X6_unbind rfl rfl rfl (by decide +kernel) ⟨Nat.le_of_ble_eq_true rfl, Nat.le_of_ble_eq_true rfl⟩) ⟨h_blind _ _ _ _ _ _ _, h_recv g t_p0 (by decide) so_7 (q := (RX6, TX6, 9)) rfl, h_pre _ hE hk hX hA hI hR g⟩ rfl rfl hl.1 rfl (lv_room (Nat.le_of_ble_eq_true rfl)) dX0_endContractIfOver_19 ⟨Nat.le_of_ble_eq_true rfl, Nat.le_of_ble_eq_true rfl⟩) g.2.1 (fun q _ h => h) (fun q h => h) (fun I6 t H1 locs ht hvm h5 hB hz1 hk1 hS => ?_)
      obtain ⟨hI, fh5, h5⟩ := h5
      replace g := h_after g hB ht hS
      generalize H1 = H at g
      clear hB hk1 hz1 ht hvm hS
      have hF := hF.call fh5 rfl
      obtain ⟨h5p0, h5p1⟩ := h5
      have hS := g.2.1
      exact W.vret hx hb hr (fun t ht hW => ⟨⟨I6, rfl, ⟨hI, hF, ⟨(Or.inl ⟨by omega, (by rcases h3p0 with q | q; exact absurd q.1 (by omega); exact q.2), h5p0.1, h5p0.2.1, h5p0.2.2⟩), (h5p1)⟩⟩, h_ret g ht⟩, hS.F ht⟩) hS.2.2 dX0_endContractIfOver_22
set_option maxHeartbeats 4000000 in
set_option maxRecDepth 100000 in
theorem tX0_closeYearB (l : Launch) (E : tE) (X : tX) (A : Nat → Prop) (z : tZ) (I0 : tI) (L0 : tL) (a0 : Nat) (t_a0 : z.ty a0 = 1) (hc : (I0 a0 3).toInt ≤ 8) (hnn : ∀ p : Nat, (p : Int) < (I0 a0 2).toInt → z.R (h_ad z a0 1) p ≠ none) (hdi : ∀ q q2 b : Nat, z.R (h_ad z a0 1) q = some b → z.R (h_ad z a0 1) q2 = some b → q = q2) : Met l yX0_closeYear wsX0_closeYear ({ frames := 6, cells := 0, slots := 0, locals := 384 }) (va_Pc [.ref a0] (h_P E X A z I0 L0)) (va_Qv (fun (I1 : tI) => h_I z I1 ∧ h_F [(108, 999), (106, 999), (1, 7), (1, 3), (105, 999), (7, 7), (7, 0), (7, 1), (7, 2), (7, 3), (7, 4), (7, 5), (7, 6)] z I0 I1 ∧ ((I1 a0 3).toInt = (I0 a0 3).toInt + 1) ∧ (∀ q : Nat, (q : Int) < (I0 a0 2).toInt → ∀ b : Nat, z.R (h_ad z a0 1) q = some b → h_nx I0 I1 b (I1 a0 3)) ∧ (∀ k : Nat, k < 8 → I1 (h_ad z a0 5) k = 0)) (fun (I1 : tI) t => h_B E A z I1 L0 t) A) 0 0 A := by
  refine Met.ofW (cc := cX0_closeYear) (maxL := 3) (ret := none) (by decide) rfl ?_
  intro pr_ ev_ s m args below meth cd_ s₁ B hml hv
  obtain ⟨rfl, hE, hk, hX, hA, hK, hI, hR, hB0⟩ := hv
  have g : h_G h_so h_fk E A z I0 L0 s s.heap s.heap [] := ⟨hK, va_S.rf, hB0⟩
  have hF : h_F [(108, 999), (106, 999), (1, 7), (1, 3), (105, 999), (7, 7), (7, 0), (7, 1), (7, 2), (7, 3), (7, 4), (7, 5), (7, 6)] z I0 I0 := h_F.rf
  have hx := B.exec
  have hb := B.bytes
  have hr := B.returns
  have hts := atoms_spec (ws := wsX0_closeYear) B.pre
  have hown : s.vm.findClass RX0 = some m.cls := findClass_of_methodNamed B.named
  have hlocks := B.notSynchronized
  have iX0 : ∀ w ∈ u_ws RX0 TX0 9, w ∈ wsX0_closeYear := by decide +kernel
  have iX6 : ∀ w ∈ u_ws RX6 TX6 9, w ∈ wsX0_closeYear := by decide +kernel
  have hl := lv_entry ([.ref a0]) (n := 3) (Nat.le_of_ble_eq_true rfl)
  rw [lg_entry_eq]
  generalize (lg_sl ([.ref a0]) ++ List.replicate (3 - (lg_sl ([.ref a0])).length) Slot.unset).toArray = ls at hl ⊢
  have hl : lv_has ls 3 [(0, .ref a0)] := hl
  obtain ⟨pl, rpl, tpl⟩ := hR.at a0 1 t_a0 (rfl : h_rs 1 1 = some (101, false)) (by decide)
  have apl : h_ad z a0 1 = pl := h_ad.at rpl
  obtain ⟨su, rsu, tsu⟩ := hR.at a0 5 t_a0 (rfl : h_rs 1 5 = some (105, false)) (by decide)
  have asu : h_ad z a0 5 = su := h_ad.at rsu
  obtain ⟨f0_3, ef0_3⟩ : ∃ v : Int32, v = I0 a0 3 := ⟨_, rfl⟩
  have qf0_3 : (I0 a0 3).toInt = f0_3.toInt := congrArg Int32.toInt ef0_3.symm
  have jf0_3 := hI.rd a0 3 t_a0 ef0_3 (rfl : h_bd 1 3 = (0, 9))
  obtain ⟨f0_2, ef0_2⟩ : ∃ v : Int32, v = I0 a0 2 := ⟨_, rfl⟩
  have qf0_2 : (I0 a0 2).toInt = f0_2.toInt := congrArg Int32.toInt ef0_2.symm
  have jf0_2 := hI.rd a0 2 t_a0 ef0_2 (rfl : h_bd 1 2 = (0, 60))
  rw [qf0_3] at hc
  rw [apl, qf0_2] at hnn
  rw [apl] at hdi
  refine lv_aload_n hx hb dX0_closeYear_0 rfl (lv_at hl 0 rfl) ?_
  refine va_callv (va_runV (As := []) (rest := []) ⟨hx, hb, hml, hown, hts⟩ (tX0_shareFines l E X A z I0 L0 a0 t_a0) (cwV 0 hts gX0_closeYear_X0_shareFines rfl rfl rfl (by decide +kernel) ⟨Nat.le_of_ble_eq_true rfl, Nat.le_of_ble_eq_true rfl⟩) ⟨h_blind _ _ _ _ _ _ _, h_recv g t_a0 (by decide) so_1 (q := (RX0, TX0, 9)) rfl, h_pre _ hE hk hX hA hI hR g⟩ rfl rfl hl.1 rfl (lv_room (Nat.le_of_ble_eq_true rfl)) dX0_closeYear_1 ⟨Nat.le_of_ble_eq_true rfl, Nat.le_of_ble_eq_true rfl⟩) g.2.1 (fun q _ h => h) (fun q h => h) (fun I2 t H1 locs ht hvm h1 hB hz1 hk1 hS => ?_)
  obtain ⟨hI, fh1, h1⟩ := h1
  replace g := h_after g hB ht hS
  generalize H1 = H at g
  clear hB hk1 hz1 ht hvm hS
  have hF := hF.call fh1 rfl
  refine lv_aload_n hx hb dX0_closeYear_4 rfl (lv_at hl 0 rfl) ?_
  refine lv_dup hx hb dX0_closeYear_5 rfl ?_
  refine h_get (v := .int f0_3) hx hb hts iX0 hown g t_a0 (by decide) so_1 rfl 3 (by decide) (hts (.fieldLink RX0 37 "CapLeague$Books" "clock" "I") (by decide +kernel)) rfl dX0_closeYear_6 (congrArg Value.int ((h_F.at fh1 t_a0 rfl).trans (ef0_3.symm))) ?_
  refine lv_iconst (v := 1) hx hb dX0_closeYear_9 (by decide) ?_
  refine lv_iadd hx hb dX0_closeYear_10 ?_
  refine lv_topi (fun v3 ev3 => ?_)
  have jv3 : v3.toInt = f0_3.toInt + 1 := xi_add ev3 rfl (by decide) (by omega) (by omega)
  refine h_putI (ty := .int) (v := v3) hx hb hts iX0 tyX0 tyX0_ok nmX0 hown g t_a0 (by decide) so_1 rfl 3 (by decide) rfl (hts (.fieldLink RX0 37 "CapLeague$Books" "clock" "I") (by decide +kernel)) rfl rfl (by decide +kernel) rfl rfl dX0_closeYear_11 (fun I4 H locs eI4 g => ?_)
  have hI := hI.wr eI4 t_a0 (rfl : h_bd 1 3 = (0, 9)) (by omega) (by omega)
  have hF := hF.wr eI4 t_a0 rfl
  refine lv_iconst (v := 0) hx hb dX0_closeYear_14 (by decide) ?_
  refine lv_istore_n (lv' := [(1, .int 0), (0, .ref a0)]) hx hb dX0_closeYear_15 rfl hl (by decide) rfl (fun ls hl => ?_)
  have loop16_0 : ∀ (n : Nat) (I6 : tI) (H : Heap) (locs : List Loc) (ls : Array Slot) (v5 : Int32), h_G h_so h_fk E A z I6 L0 s s.heap H locs → h_I z I6 → h_F [(108, 999), (106, 999), (1, 7), (1, 3), (105, 999), (7, 7), (7, 0), (7, 1), (7, 2), (7, 3), (7, 4), (7, 5), (7, 6)] z I0 I6 → lv_has ls 3 [(0, .ref a0), (1, .int v5)] → (0 ≤ v5.toInt ∧ v5.toInt ≤ 8) → h_F [(105, 999)] z I4 I6 → (∀ q : Nat, (q : Int) < v5.toInt → I6 su q = 0) → (8 - v5.toInt) < (n : Int) → W pr_ l ev_ (headSpec wsX0_closeYear ({ frames := 6, cells := 0, slots := 0, locals := 384 })).room s m ([.ref a0] : List Value).toArray below meth cd_ H locs 0 0 (MQ below (va_Qv (fun (I1 : tI) => h_I z I1 ∧ h_F [(108, 999), (106, 999), (1, 7), (1, 3), (105, 999), (7, 7), (7, 0), (7, 1), (7, 2), (7, 3), (7, 4), (7, 5), (7, 6)] z I0 I1 ∧ ((I1 a0 3).toInt = (I0 a0 3).toInt + 1) ∧ (∀ q : Nat, (q : Int) < (I0 a0 2).toInt → ∀ b : Nat, z.R (h_ad z a0 1) q = some b → h_nx I0 I1 b (I1 a0 3)) ∧ (∀ k : Nat, k < 8 → I1 (h_ad z a0 5) k = 0)) (fun (I1 : tI) t => h_B E A z I1 L0 t) A) ([.ref a0] : List Value).toArray s 0 0 A) (F0 m 16 ls []) := by
    intro n
    induction n with
    | zero => intro I6 H locs ls v5 g hI hF hl jv5 hL16 hx16_0 hn; exact absurd hn (by omega)
    | succ n ih16 =>
      intro I6 H locs ls v5 g hI hF hl jv5 hL16 hx16_0 hn
      refine lv_iload_n hx hb dX0_closeYear_16 rfl (lv_at hl 1 rfl) ?_
      refine lv_bipush (v := 8) hx hb dX0_closeYear_17 (by decide) ?_
      refine lv_icmp_ge (tgt := 35) hx hb dX0_closeYear_19 (by decide) (fun c7 => ?_) (fun c7 => ?_)
      · have ic7 := (xi_le c7 (by decide) rfl : 8 ≤ v5.toInt)
        obtain ⟨ck, eck⟩ : ∃ x : Int32, x = v3 := ⟨_, rfl⟩
        refine lv_iconst (v := 0) hx hb dX0_closeYear_35 (by decide) ?_
        refine lv_istore_n (lv' := [(1, .int 0), (0, .ref a0)]) hx hb dX0_closeYear_36 rfl hl (by decide) rfl (fun ls hl => ?_)
        have loop37_1 : ∀ (n : Nat) (I9 : tI) (H : Heap) (locs : List Loc) (ls : Array Slot) (v8 : Int32), h_G h_so h_fk E A z I9 L0 s s.heap H locs → h_I z I9 → h_F [(108, 999), (106, 999), (1, 7), (1, 3), (105, 999), (7, 7), (7, 0), (7, 1), (7, 2), (7, 3), (7, 4), (7, 5), (7, 6)] z I0 I9 → lv_has ls 3 [(0, .ref a0), (1, .int v8)] → (0 ≤ v8.toInt ∧ v8.toInt ≤ 60) → h_F [(7, 7), (7, 0), (7, 1), (7, 2), (7, 3), (7, 4), (7, 5), (7, 6)] z I6 I9 → (∀ q : Nat, (q : Int) < v8.toInt → ∀ b : Nat, z.R pl q = some b → h_nx I0 I9 b ck) → (∀ q : Nat, v8.toInt ≤ (q : Int) → q < 60 → ∀ b : Nat, z.R pl q = some b → ∀ k : Nat, k < 8 → I9 b k = I0 b k) → (60 - v8.toInt) < (n : Int) → W pr_ l ev_ (headSpec wsX0_closeYear ({ frames := 6, cells := 0, slots := 0, locals := 384 })).room s m ([.ref a0] : List Value).toArray below meth cd_ H locs 0 0 (MQ below (va_Qv (fun (I1 : tI) => h_I z I1 ∧ h_F [(108, 999), (106, 999), (1, 7), (1, 3), (105, 999), (7, 7), (7, 0), (7, 1), (7, 2), (7, 3), (7, 4), (7, 5), (7, 6)] z I0 I1 ∧ ((I1 a0 3).toInt = (I0 a0 3).toInt + 1) ∧ (∀ q : Nat, (q : Int) < (I0 a0 2).toInt → ∀ b : Nat, z.R (h_ad z a0 1) q = some b → h_nx I0 I1 b (I1 a0 3)) ∧ (∀ k : Nat, k < 8 → I1 (h_ad z a0 5) k = 0)) (fun (I1 : tI) t => h_B E A z I1 L0 t) A) ([.ref a0] : List Value).toArray s 0 0 A) (F0 m 37 ls []) := by
          intro n
          induction n with
          | zero => intro I9 H locs ls v8 g hI hF hl jv8 hL37 hx37_0 hx37_1 hn; exact absurd hn (by omega)
          | succ n ih37 =>
            intro I9 H locs ls v8 g hI hF hl jv8 hL37 hx37_0 hx37_1 hn
            refine lv_iload_n hx hb dX0_closeYear_37 rfl (lv_at hl 1 rfl) ?_
            refine lv_aload_n hx hb dX0_closeYear_38 rfl (lv_at hl 0 rfl) ?_
            refine h_get (v := .int f0_2) hx hb hts iX0 hown g t_a0 (by decide) so_1 rfl 2 (by decide) (hts (.fieldLink RX0 51 "CapLeague$Books" "size" "I") (by decide +kernel)) rfl dX0_closeYear_39 (congrArg Value.int ((h_F.at hL37 t_a0 rfl).trans ((h_F.at hL16 t_a0 rfl).trans ((h_n2 eI4 (by decide)).trans ((h_F.at fh1 t_a0 rfl).trans (ef0_2.symm)))))) ?_
            refine lv_icmp_ge (tgt := 71) hx hb dX0_closeYear_42 (by decide) (fun c10 => ?_) (fun c10 => ?_)
            · have ic10 := (xi_le c10 rfl rfl : f0_2.toInt ≤ v8.toInt)
              have hS := g.2.1
              exact W.vret hx hb hr (fun t ht hW => ⟨⟨I9, rfl, ⟨hI, hF, ⟨(by rw [qf0_3, show I9 a0 3 = v3 from (h_F.at hL37 t_a0 rfl).trans ((h_F.at hL16 t_a0 rfl).trans (h_n0 eI4))]; omega), (by rw [apl, qf0_2, show I9 a0 3 = ck from ((h_F.at hL37 t_a0 rfl).trans ((h_F.at hL16 t_a0 rfl).trans (h_n0 eI4))).trans eck.symm]; exact fun q hq => hx37_0 q (by omega)), (by rw [asu]; exact fun k hk => (h_F.at hL37 tsu rfl).trans (hx16_0 k (by omega)))⟩⟩, h_ret g ht⟩, hS.F ht⟩) hS.2.2 dX0_closeYear_71
            · have ic10 := (xi_nle c10 rfl rfl : v8.toInt < f0_2.toInt)
              refine lv_aload_n hx hb dX0_closeYear_45 rfl (lv_at hl 0 rfl) ?_
              refine lv_iload_n hx hb dX0_closeYear_46 rfl (lv_at hl 1 rfl) ?_
              refine va_csq (W.runV (As := [.int v8]) (rest := []) ⟨hx, hb, hml, hown, hts⟩ (tX0_playerAtN l E X A z I9 L0 a0 t_a0 v8 (v8.toInt) rfl (by omega) (by rw [show I9 a0 2 = f0_2 from (h_F.at hL37 t_a0 rfl).trans ((h_F.at hL16 t_a0 rfl).trans ((h_n2 eI4 (by decide)).trans ((h_F.at fh1 t_a0 rfl).trans (ef0_2.symm))))]; omega) (by rw [apl]; exact hnn _ (by omega))) (cwV 1 hts gX0_closeYear_X0_playerAt rfl rfl rfl (by decide +kernel) ⟨Nat.le_of_ble_eq_true rfl, Nat.le_of_ble_eq_true rfl⟩) ⟨h_blind _ _ _ _ _ _ _, h_recv g t_a0 (by decide) so_1 (q := (RX0, TX0, 9)) rfl, h_pre _ hE hk hX hA hI hR g⟩ rfl rfl hl.1 rfl (lv_room (Nat.le_of_ble_eq_true rfl)) dX0_closeYear_47 ⟨Nat.le_of_ble_eq_true rfl, Nat.le_of_ble_eq_true rfl⟩) (fun rh11 h11 => ?_)
              obtain ⟨h11, h11p0⟩ := h11
              obtain ⟨rh11, rfl, trh11⟩ := h11
              refine xw_v (v := .ref rh11) rfl ?_
              rw [apl] at h11p0
              have rp : z.R pl (v8.toInt).toNat = some rh11 := h11p0.symm
              refine lv_astore_n (lv' := [(2, .ref rh11), (0, .ref a0), (1, .int v8)]) hx hb dX0_closeYear_50 rfl hl (by decide) rfl (fun ls hl => ?_)
              refine lv_aload_n hx hb dX0_closeYear_51 rfl (lv_at hl 0 rfl) ?_
              refine lv_ifnull hx hb dX0_closeYear_52 ?_
              refine lv_aload_n hx hb dX0_closeYear_55 rfl (lv_at hl 0 rfl) ?_
              refine lv_iconst (v := 0) hx hb dX0_closeYear_56 (by decide) ?_
              refine h_putI (ty := .boolean) (v := 0) hx hb hts iX6 tyX6 tyX6_ok nmX6 hown g trh11 (by decide) so_7 rfl 7 (by decide) rfl (hts (.fieldLink RX0 62 "CapLeague$Player" "isHurt" "Z") (by decide +kernel)) rfl rfl (by decide +kernel) (by decide) (by decide) dX0_closeYear_57 (fun I12 H locs eI12 g => ?_)
              have hI := hI.wr eI12 trh11 (rfl : h_bd 7 7 = (0, 1)) (by decide) (by decide)
              have hF := hF.wr eI12 trh11 rfl
              refine lv_aload_n hx hb dX0_closeYear_60 rfl (lv_at hl 1 rfl) ?_
              refine lv_aload_n hx hb dX0_closeYear_61 rfl (lv_at hl 0 rfl) ?_
              refine va_callv (va_runV (As := [.ref rh11]) (rest := []) ⟨hx, hb, hml, hown, hts⟩ (tX0_endConB l E X A z I12 L0 a0 t_a0 rh11 trh11) (cwV 1 hts gX0_closeYear_X0_endContractIfOver rfl rfl rfl (by decide +kernel) ⟨Nat.le_of_ble_eq_true rfl, Nat.le_of_ble_eq_true rfl⟩) ⟨h_blind _ _ _ _ _ _ _, h_recv g t_a0 (by decide) so_1 (q := (RX0, TX0, 9)) rfl, h_pre _ hE hk hX hA hI hR g⟩ rfl rfl hl.1 rfl (lv_room (Nat.le_of_ble_eq_true rfl)) dX0_closeYear_62 ⟨Nat.le_of_ble_eq_true rfl, Nat.le_of_ble_eq_true rfl⟩) g.2.1 (fun q _ h => h) (fun q h => h) (fun I14 t H1 locs ht hvm h13 hB hz1 hk1 hS => ?_)
              obtain ⟨hI, fh13, h13⟩ := h13
              replace g := h_after g hB ht hS
              generalize H1 = H at g
              clear hB hk1 hz1 ht hvm hS
              have hF := hF.call fh13 rfl
              obtain ⟨h13p0, h13p1⟩ := h13
              rw [show I12 a0 3 = v3 from (h_n1 eI12 t_a0 trh11 (by decide)).trans ((h_F.at hL37 t_a0 rfl).trans ((h_F.at hL16 t_a0 rfl).trans (h_n0 eI4))), ← eck] at h13p0
              obtain ⟨v15, ev15⟩ : ∃ z : Int32, z = v8 + 1 := ⟨_, rfl⟩
              have jv15 : v15.toInt = v8.toInt + 1 := xi_add ev15 rfl (by decide) (by omega) (by omega)
              refine lv_iinc (v := v15) (lv' := [(1, .int v15), (2, .ref rh11), (0, .ref a0)]) hx hb dX0_closeYear_65 hl (k := 2) rfl (by rw [ev15]; rfl) (by decide) rfl (fun ls hl => ?_)
              refine lv_goto (tgt := 37) hx hb dX0_closeYear_68 (by decide) ?_
              exact ih37 I14 _ _ _ v15 g hI hF (lv_sub hl [2, 0] rfl) (by omega) (h_F.call (h_F.wr (h_F.call (h_F.rf : h_F [(7, 7), (7, 0), (7, 1), (7, 2), (7, 3), (7, 4), (7, 5), (7, 6)] z I6 I6) hL37 rfl) eI12 trh11 rfl) fh13 rfl) (fun q hq b hb => by by_cases hqv : (q : Int) < v8.toInt; have nb_ : b ≠ rh11 := (fun e9 => by rw [e9] at hb; have := hdi _ _ _ hb rp; omega); exact (hx37_0 q hqv b hb).c (fun k => ((h13p1 b k (Or.inl nb_)).trans (h_upb eI12 nb_))); rw [show q = v8.toInt.toNat by omega] at hb; rw [rp] at hb; cases hb; exact h_nx.mk (hx37_1 v8.toInt.toNat (by omega) (by omega) _ rp) eI12 h13p0 h13p1) (fun q hq h60 b hb k hk => by have nb_ : b ≠ rh11 := (fun e9 => by rw [e9] at hb; have := hdi _ _ _ hb rp; omega); exact ((h13p1 b k (Or.inl nb_)).trans (h_upb eI12 nb_)).trans (hx37_1 q (by omega) h60 b hb k hk)) (by omega)
        have kc16 : (0 : Int32).toInt = 0 := by decide
        exact loop37_1 _ I6 _ _ _ (0) g hI hF (lv_sub hl [1, 0] rfl) ⟨by decide, by decide⟩ (h_F.rf : h_F [(7, 7), (7, 0), (7, 1), (7, 2), (7, 3), (7, 4), (7, 5), (7, 6)] z I6 I6) (fun q hq => absurd hq (by omega)) (fun q hq h60 b hb k hk => by have tb := (hR.opt tpl (rfl : h_rs 101 _ = some (7, true)) (by rw [so_101]; show q < 60; exact h60) hb); exact (h_F.at hL16 tb rfl).trans ((h_n1 eI4 tb t_a0 (by decide)).trans (h_F.at fh1 tb rfl))) (show (60 - (0 : Int)) < (((60 - (0 : Int)).toNat + 1 : Nat) : Int) by omega)
      · have ic7 := (xi_nle c7 (by decide) rfl : v5.toInt < 8)
        refine lv_aload_n hx hb dX0_closeYear_22 rfl (lv_at hl 0 rfl) ?_
        refine h_get (v := .ref su) hx hb hts iX0 hown g t_a0 (by decide) so_1 rfl 5 (by decide) (hts (.fieldLink RX0 22 "CapLeague$Books" "spareUsed" "[Z") (by decide +kernel)) rfl dX0_closeYear_23 (by show va_rf (z.R a0 5) = _; rw [rsu]; rfl) ?_
        refine lv_iload_n hx hb dX0_closeYear_26 rfl (lv_at hl 1 rfl) ?_
        refine lv_iconst (v := 0) hx hb dX0_closeYear_27 (by decide) ?_
        refine h_zast hx hb g tsu (by decide) so_105 (xi_in (by omega) (by omega)) dX0_closeYear_28 (fun I17 H locs eI17 g => ?_)
        rw [h_nz (by decide) (by decide)] at eI17
        have hI := hI.wr eI17 tsu (rfl : h_bd 105 _ = (0, 1)) (by decide) (by decide)
        have hF := hF.wr eI17 tsu rfl
        obtain ⟨v18, ev18⟩ : ∃ z : Int32, z = v5 + 1 := ⟨_, rfl⟩
        have jv18 : v18.toInt = v5.toInt + 1 := xi_add ev18 rfl (by decide) (by omega) (by omega)
        refine lv_iinc (v := v18) (lv' := [(1, .int v18), (0, .ref a0)]) hx hb dX0_closeYear_29 hl (k := 1) rfl (by rw [ev18]; rfl) (by decide) rfl (fun ls hl => ?_)
        refine lv_goto (tgt := 16) hx hb dX0_closeYear_32 (by decide) ?_
        exact ih16 I17 _ _ _ v18 g hI hF (lv_sub hl [1, 0] rfl) (by omega) (h_F.wr (h_F.call (h_F.rf : h_F [(105, 999)] z I4 I4) hL16 rfl) eI17 tsu rfl) (fun q hq => by by_cases hqv : (q : Int) < v5.toInt; exact (h_n2 eI17 (by rw [(h_keq rfl (by omega) (by omega) : v5.toNatClampNeg = v5.toInt.toNat)]; omega)).trans (hx16_0 q hqv); rw [show q = v5.toInt.toNat by omega, ← (h_keq rfl (by omega) (by omega) : v5.toNatClampNeg = v5.toInt.toNat)]; exact h_n0 eI17) (by omega)
  have kc19 : (0 : Int32).toInt = 0 := by decide
  exact loop16_0 _ I4 _ _ _ (0) g hI hF (lv_sub hl [1, 0] rfl) ⟨by decide, by decide⟩ (h_F.rf : h_F [(105, 999)] z I4 I4) (fun q hq => absurd hq (by omega)) (show (8 - (0 : Int)) < (((8 - (0 : Int)).toNat + 1 : Nat) : Int) by omega)

