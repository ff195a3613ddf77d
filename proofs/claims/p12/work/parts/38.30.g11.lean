set_option maxHeartbeats 4000000 in
set_option maxRecDepth 100000 in
theorem tX2_isDrawnF (l : Launch) (E : tE) (X : tX) (A : Nat → Prop) (z : tZ) (I0 : tI) (L0 : tL) (a0 : Nat) (t_a0 : z.ty a0 = 3) (y : Int32) (y_t : Int) (h_y : y.toInt = y_t) : Met l yX2_isDrawn wsX2_isDrawn ({ frames := 2, cells := 0, slots := 0, locals := 128 }) (va_Pc [.ref a0, .int y] (h_P E X A z I0 L0)) (vp_Si (fun r => (0 ≤ r.toInt ∧ r.toInt ≤ 1) ∧ ((0 ≤ y_t ∧ y_t ≤ 9 ∧ r.toInt = (I0 (h_ad z a0 2) y_t.toNat).toInt) ∨ (¬ (0 ≤ y_t ∧ y_t ≤ 9) ∧ r.toInt = 0)))) 0 0 (fun _ => False) := by
  refine Met.ofW (cc := cX2_isDrawn) (maxL := 2) (ret := (some .boolean)) (by decide) rfl ?_
  intro pr_ ev_ s m args below meth cd_ s₁ B hml hv
  obtain ⟨rfl, hE, hk, hX, hA, hK, hI, hR, hB0⟩ := hv
  have g : h_G h_so h_fk E A z I0 L0 s s.heap s.heap [] := ⟨hK, va_S.rf, hB0⟩
  have hx := B.exec
  have hb := B.bytes
  have hr := B.returns
  have hts := atoms_spec (ws := wsX2_isDrawn) B.pre
  have hown : s.vm.findClass RX2 = some m.cls := findClass_of_methodNamed B.named
  have hlocks := B.notSynchronized
  have iX2 : ∀ w ∈ u_ws RX2 TX2 7, w ∈ wsX2_isDrawn := by decide +kernel
  have hl := lv_entry ([.ref a0, .int y]) (n := 2) (Nat.le_of_ble_eq_true rfl)
  rw [lg_entry_eq]
  generalize (lg_sl ([.ref a0, .int y]) ++ List.replicate (2 - (lg_sl ([.ref a0, .int y])).length) Slot.unset).toArray = ls at hl ⊢
  have hl : lv_has ls 2 [(0, .ref a0), (1, .int y)] := hl
  have b_y : -2147483648 ≤ y_t ∧ y_t ≤ 2147483647 := h_y ▸ ⟨xi_lo y, Int.le_of_lt_add_one (xi_hi y)⟩
  obtain ⟨dr, rdr, tdr⟩ := hR.at a0 2 t_a0 (rfl : h_rs 3 2 = some (302, false)) (by decide)
  have adr : h_ad z a0 2 = dr := h_ad.at rdr
  refine lv_iload_n hx hb dX2_isDrawn_0 rfl (lv_at hl 1 rfl) ?_
  refine vp_callSi (xr_of (va_runSN (As := [.int y]) (rest := []) ⟨hx, hb, hml, hown, hts⟩ (tX11_isYear l E X A z I0 L0 y (y_t) h_y) (⟨va_cnB 1 hts gX2_isDrawn_X11_isYear_n31 rfl rfl rfl (hE.link 10 rfl) (hts (.initialized RX11) (by decide +kernel)) (by decide +kernel) ⟨Nat.le_of_ble_eq_true rfl, Nat.le_of_ble_eq_true rfl⟩, hts (.static yX11_isYear) (by decide +kernel), trivial⟩) ⟨h_blind _ _ _ _ _ _ _, h_pre _ hE hk hX hA hI hR g⟩ rfl rfl hl.1 rfl (lv_room (Nat.le_of_ble_eq_true rfl)) dX2_isDrawn_1 ⟨Nat.le_of_ble_eq_true rfl, Nat.le_of_ble_eq_true rfl⟩)) (fun rh1 h1 => ?_)
  rcases h1 with ⟨rfl, h1⟩ | ⟨rfl, h1⟩
  · skip
    refine lv_if_eq (tgt := 20) hx hb dX2_isDrawn_4 (by decide) (fun _ => ?_) (fun h => absurd (by decide) h)
    refine lv_iconst (v := 0) hx hb dX2_isDrawn_20 (by decide) ?_
    exact W.zret (v := 0) hx hb hr (by decide) (fun t ht hW => ⟨0, rfl, ⟨⟨(by decide), (by decide)⟩, (Or.inr ⟨by omega, by decide⟩)⟩, ht⟩) (fun _ h => by cases h) dX2_isDrawn_21
  · skip
    refine lv_if_eq (tgt := 20) hx hb dX2_isDrawn_4 (by decide) (fun h => absurd h (by decide)) (fun _ => ?_)
    refine lv_aload_n hx hb dX2_isDrawn_7 rfl (lv_at hl 0 rfl) ?_
    refine h_get (v := .ref dr) hx hb hts iX2 hown g t_a0 (by decide) so_3 rfl 2 (by decide) (hts (.fieldLink RX2 15 "CapLeague$Draft" "drawn" "[Z") (by decide +kernel)) rfl dX2_isDrawn_8 (by show va_rf (z.R a0 2) = _; rw [rdr]; rfl) ?_
    refine lv_iload_n hx hb dX2_isDrawn_11 rfl (lv_at hl 1 rfl) ?_
    refine h_zald hx hb g tdr (by decide) so_302 (xi_in (by rw [h_y]; omega) (by rw [h_y]; omega)) dX2_isDrawn_12 ?_
    refine lv_topi (fun v4 ev4 => ?_)
    have jv4 := hI.rd dr y.toNatClampNeg tdr ev4 (rfl : h_bd 302 _ = (0, 1))
    refine lv_if_eq (tgt := 20) hx hb dX2_isDrawn_13 (by decide) (fun c5 => ?_) (fun c5 => ?_)
    · have ic5 := (xi_eq c5 rfl (by decide) : v4.toInt = 0)
      refine lv_iconst (v := 0) hx hb dX2_isDrawn_20 (by decide) ?_
      exact W.zret (v := 0) hx hb hr (by decide) (fun t ht hW => ⟨0, rfl, ⟨⟨(by decide), (by decide)⟩, (by rw [adr, ← h_keq (i := y) (t := y_t) (k := y_t.toNat) h_y (by omega) (by omega), ← ev4]; exact Or.inl ⟨by omega, by omega, by rw [show (0 : Int32).toInt = 0 by decide]; omega⟩)⟩, ht⟩) (fun _ h => by cases h) dX2_isDrawn_21
    · have ic5 := (xi_ne c5 rfl (by decide) : v4.toInt ≠ 0)
      refine lv_iconst (v := 1) hx hb dX2_isDrawn_16 (by decide) ?_
      refine lv_goto (tgt := 21) hx hb dX2_isDrawn_17 (by decide) ?_
      exact W.zret (v := 1) hx hb hr (by decide) (fun t ht hW => ⟨1, rfl, ⟨⟨(by decide), (by decide)⟩, (by rw [adr, ← h_keq (i := y) (t := y_t) (k := y_t.toNat) h_y (by omega) (by omega), ← ev4]; exact Or.inl ⟨by omega, by omega, by rw [show (1 : Int32).toInt = 1 by decide]; omega⟩)⟩, ht⟩) (fun _ h => by cases h) dX2_isDrawn_21
set_option maxHeartbeats 4000000 in
set_option maxRecDepth 100000 in
theorem tX2_handOutF (l : Launch) (E : tE) (X : tX) (A : Nat → Prop) (z : tZ) (I0 : tI) (L0 : tL) (a0 : Nat) (t_a0 : z.ty a0 = 3) (y : Int32) (y_t : Int) (h_y : y.toInt = y_t) (b_y : 0 ≤ y_t ∧ y_t ≤ 9) (u0 : Nat) (t_u0 : z.ty u0 = 11) : Met l yX2_handOut wsX2_handOut ({ frames := 2, cells := 0, slots := 0, locals := 128 }) (va_Pc [.ref a0, .int y, .ref u0] (h_P E X A z I0 L0)) (va_Qv (fun (I1 : tI) => h_I z I1 ∧ h_F [(302, 999), (354, 999), (1100, 999), (1101, 999)] z I0 I1 ∧ (∀ k : Nat, I1 (h_ad z a0 2) k = if k = y_t.toNat then 1 else I0 (h_ad z a0 2) k)) (fun (I1 : tI) t => h_B E A z I1 L0 t) A) 0 0 A := by
  refine Met.ofW (cc := cX2_handOut) (maxL := 4) (ret := none) (by decide) rfl ?_
  intro pr_ ev_ s m args below meth cd_ s₁ B hml hv
  obtain ⟨rfl, hE, hk, hX, hA, hK, hI, hR, hB0⟩ := hv
  have g : h_G h_so h_fk E A z I0 L0 s s.heap s.heap [] := ⟨hK, va_S.rf, hB0⟩
  have hF : h_F [(302, 999), (354, 999), (1100, 999), (1101, 999)] z I0 I0 := h_F.rf
  have hx := B.exec
  have hb := B.bytes
  have hr := B.returns
  have hts := atoms_spec (ws := wsX2_handOut) B.pre
  have hown : s.vm.findClass RX2 = some m.cls := findClass_of_methodNamed B.named
  have hlocks := B.notSynchronized
  have iX2 : ∀ w ∈ u_ws RX2 TX2 7, w ∈ wsX2_handOut := by decide +kernel
  have hl := lv_entry ([.ref a0, .int y, .ref u0]) (n := 4) (Nat.le_of_ble_eq_true rfl)
  rw [lg_entry_eq]
  generalize (lg_sl ([.ref a0, .int y, .ref u0]) ++ List.replicate (4 - (lg_sl ([.ref a0, .int y, .ref u0])).length) Slot.unset).toArray = ls at hl ⊢
  have hl : lv_has ls 4 [(0, .ref a0), (1, .int y), (2, .ref u0)] := hl
  obtain ⟨dr, rdr, tdr⟩ := hR.at a0 2 t_a0 (rfl : h_rs 3 2 = some (302, false)) (by decide)
  have adr : h_ad z a0 2 = dr := h_ad.at rdr
  refine lv_iload_n hx hb dX2_handOut_0 rfl (lv_at hl 1 rfl) ?_
  refine vp_callSi (xr_of (va_runSN (As := [.int y]) (rest := []) ⟨hx, hb, hml, hown, hts⟩ (tX11_isYear l E X A z I0 L0 y (y_t) h_y) (⟨va_cnB 1 hts gX2_handOut_X11_isYear_n31 rfl rfl rfl (hE.link 10 rfl) (hts (.initialized RX11) (by decide +kernel)) (by decide +kernel) ⟨Nat.le_of_ble_eq_true rfl, Nat.le_of_ble_eq_true rfl⟩, hts (.static yX11_isYear) (by decide +kernel), trivial⟩) ⟨h_blind _ _ _ _ _ _ _, h_pre _ hE hk hX hA hI hR g⟩ rfl rfl hl.1 rfl (lv_room (Nat.le_of_ble_eq_true rfl)) dX2_handOut_1 ⟨Nat.le_of_ble_eq_true rfl, Nat.le_of_ble_eq_true rfl⟩)) (fun rh1 h1 => ?_)
  rcases h1 with ⟨rfl, h1⟩ | ⟨rfl, h1⟩
  · skip
    refine lv_if_ne (tgt := 8) hx hb dX2_handOut_4 (by decide) (fun h => absurd (by decide) h) (fun _ => ?_)
    have hS := g.2.1
    exact W.vret hx hb hr (fun t ht hW => ⟨⟨I0, rfl, ⟨hI, hF, (by exfalso; omega)⟩, h_ret g ht⟩, hS.F ht⟩) hS.2.2 dX2_handOut_7
  · skip
    refine lv_if_ne (tgt := 8) hx hb dX2_handOut_4 (by decide) (fun _ => ?_) (fun h => absurd h (by decide))
    refine lv_aload_n hx hb dX2_handOut_8 rfl (lv_at hl 0 rfl) ?_
    refine h_get (v := .ref dr) hx hb hts iX2 hown g t_a0 (by decide) so_3 rfl 2 (by decide) (hts (.fieldLink RX2 15 "CapLeague$Draft" "drawn" "[Z") (by decide +kernel)) rfl dX2_handOut_9 (by show va_rf (z.R a0 2) = _; rw [rdr]; rfl) ?_
    refine lv_iload_n hx hb dX2_handOut_12 rfl (lv_at hl 1 rfl) ?_
    refine lv_iconst (v := 1) hx hb dX2_handOut_13 (by decide) ?_
    refine h_zast hx hb g tdr (by decide) so_302 (xi_in (by rw [h_y]; omega) (by rw [h_y]; omega)) dX2_handOut_14 (fun I4 H locs eI4 g => ?_)
    rw [h_nz (by decide) (by decide)] at eI4
    have hI := hI.wr eI4 tdr (rfl : h_bd 302 _ = (0, 1)) (by decide) (by decide)
    have hF := hF.wr eI4 tdr rfl
    refine lv_iconst (v := 0) hx hb dX2_handOut_15 (by decide) ?_
    refine lv_istore_n (lv' := [(3, .int 0), (0, .ref a0), (1, .int y), (2, .ref u0)]) hx hb dX2_handOut_16 rfl hl (by decide) rfl (fun ls hl => ?_)
    have loop17_0 : ∀ (n : Nat) (I6 : tI) (H : Heap) (locs : List Loc) (ls : Array Slot) (v5 : Int32), h_G h_so h_fk E A z I6 L0 s s.heap H locs → h_I z I6 → h_F [(302, 999), (354, 999), (1100, 999), (1101, 999)] z I0 I6 → lv_has ls 4 [(0, .ref a0), (1, .int y), (2, .ref u0), (3, .int v5)] → (0 ≤ v5.toInt ∧ v5.toInt ≤ 8) → h_F [(354, 999), (1100, 999), (1101, 999)] z I4 I6 → (8 - v5.toInt) < (n : Int) → W pr_ l ev_ (headSpec wsX2_handOut ({ frames := 2, cells := 0, slots := 0, locals := 128 })).room s m ([.ref a0, .int y, .ref u0] : List Value).toArray below meth cd_ H locs 0 0 (MQ below (va_Qv (fun (I1 : tI) => h_I z I1 ∧ h_F [(302, 999), (354, 999), (1100, 999), (1101, 999)] z I0 I1 ∧ (∀ k : Nat, I1 (h_ad z a0 2) k = if k = y_t.toNat then 1 else I0 (h_ad z a0 2) k)) (fun (I1 : tI) t => h_B E A z I1 L0 t) A) ([.ref a0, .int y, .ref u0] : List Value).toArray s 0 0 A) (F0 m 17 ls []) := by
      intro n
      induction n with
      | zero => intro I6 H locs ls v5 g hI hF hl jv5 hL17 hn; exact absurd hn (by omega)
      | succ n ih17 =>
        intro I6 H locs ls v5 g hI hF hl jv5 hL17 hn
        refine lv_iload_n hx hb dX2_handOut_17 rfl (lv_at hl 3 rfl) ?_
        refine lv_bipush (v := 8) hx hb dX2_handOut_18 (by decide) ?_
        refine lv_icmp_ge (tgt := 54) hx hb dX2_handOut_20 (by decide) (fun c7 => ?_) (fun c7 => ?_)
        · have ic7 := (xi_le c7 (by decide) rfl : 8 ≤ v5.toInt)
          have hS := g.2.1
          exact W.vret hx hb hr (fun t ht hW => ⟨⟨I6, rfl, ⟨hI, hF, (by rw [adr]; intro k; by_cases hk : k = y_t.toNat; rw [if_pos hk, hk, ← h_keq (i := y) (t := y_t) (k := y_t.toNat) h_y (by omega) (by omega)]; exact (h_F.at hL17 tdr rfl).trans (h_n0 eI4); rw [if_neg hk]; exact (h_F.at hL17 tdr rfl).trans (h_n2 eI4 (h_kne (t := y_t) h_y (by omega) (by omega))))⟩, h_ret g ht⟩, hS.F ht⟩) hS.2.2 dX2_handOut_54
        · have ic7 := (xi_nle c7 (by decide) rfl : v5.toInt < 8)
          refine lv_aload_n hx hb dX2_handOut_23 rfl (lv_at hl 0 rfl) ?_
          obtain ⟨b8, rb8, tb8⟩ := hR.at a0 4 t_a0 (rfl : h_rs 3 4 = some (304, false)) (by decide)
          refine h_get (v := .ref b8) hx hb hts iX2 hown g t_a0 (by decide) so_3 rfl 4 (by decide) (hts (.fieldLink RX2 24 "CapLeague$Draft" "having" "[[I") (by decide +kernel)) rfl dX2_handOut_24 (by show va_rf (z.R a0 4) = _; rw [rb8]; rfl) ?_
          refine lv_iload_n hx hb dX2_handOut_27 rfl (lv_at hl 1 rfl) ?_
          obtain ⟨b9, rb9, tb9⟩ := hR.at b8 y.toNatClampNeg tb8 (rfl : h_rs 304 _ = some (354, false)) (by rw [so_304]; exact h_lt (n := 10) (xi_in (by rw [h_y]; omega) (by rw [h_y]; omega)))
          refine h_aldA (v := .ref b9) hx hb g tb8 (by decide) so_304 (xi_in (by rw [h_y]; omega) (by rw [h_y]; omega)) dX2_handOut_28 (by rw [rb9]; rfl) ?_
          refine lv_iload_n hx hb dX2_handOut_29 rfl (lv_at hl 3 rfl) ?_
          refine lv_aload_n hx hb dX2_handOut_30 rfl (lv_at hl 2 rfl) ?_
          refine lv_aload_n hx hb dX2_handOut_31 rfl (lv_at hl 0 rfl) ?_
          obtain ⟨b10, rb10, tb10⟩ := hR.at a0 3 t_a0 (rfl : h_rs 3 3 = some (303, false)) (by decide)
          refine h_get (v := .ref b10) hx hb hts iX2 hown g t_a0 (by decide) so_3 rfl 3 (by decide) (hts (.fieldLink RX2 21 "CapLeague$Draft" "order" "[[I") (by decide +kernel)) rfl dX2_handOut_32 (by show va_rf (z.R a0 3) = _; rw [rb10]; rfl) ?_
          refine lv_iload_n hx hb dX2_handOut_35 rfl (lv_at hl 1 rfl) ?_
          obtain ⟨b11, rb11, tb11⟩ := hR.at b10 y.toNatClampNeg tb10 (rfl : h_rs 303 _ = some (353, false)) (by rw [so_303]; exact h_lt (n := 10) (xi_in (by rw [h_y]; omega) (by rw [h_y]; omega)))
          refine h_aldA (v := .ref b11) hx hb g tb10 (by decide) so_303 (xi_in (by rw [h_y]; omega) (by rw [h_y]; omega)) dX2_handOut_36 (by rw [rb11]; rfl) ?_
          refine lv_iload_n hx hb dX2_handOut_37 rfl (lv_at hl 3 rfl) ?_
          refine h_ald hx hb g tb11 (by decide) so_353 (xi_in (by omega) (by omega)) dX2_handOut_38 ?_
          refine lv_topi (fun v12 ev12 => ?_)
          have jv12 := hI.rd b11 v5.toNatClampNeg tb11 ev12 (rfl : h_bd 353 _ = ((-2147483648), 2147483647))
          refine lv_iload_n hx hb dX2_handOut_39 rfl (lv_at hl 1 rfl) ?_
          refine vp_callSi (W.runS (As := [.int v12, .int y]) (rest := [.ref u0, .int v5, .ref b9]) ⟨hx, hb, hml, hown, hts⟩ (tX10_keyOf l E X A z I6 L0 v12 (v12.toInt) rfl y (y_t) h_y) (va_cwS 2 hts gX2_handOut_X10_keyOf rfl rfl rfl (by decide +kernel) ⟨Nat.le_of_ble_eq_true rfl, Nat.le_of_ble_eq_true rfl⟩) ⟨h_blind _ _ _ _ _ _ _, h_pre _ hE hk hX hA hI hR g⟩ rfl rfl hl.1 rfl (lv_room (Nat.le_of_ble_eq_true rfl)) dX2_handOut_40 ⟨Nat.le_of_ble_eq_true rfl, Nat.le_of_ble_eq_true rfl⟩) (fun rh13 h13 => ?_)
          have jrh13 : -2147483648 ≤ rh13.toInt ∧ rh13.toInt ≤ 2147483647 := ⟨xi_lo _, Int.le_of_lt_add_one (xi_hi _)⟩
          refine lv_iload_n hx hb dX2_handOut_43 rfl (lv_at hl 3 rfl) ?_
          refine va_calli (va_runV (As := [.int rh13, .int v5]) (rest := [.int v5, .ref b9]) ⟨hx, hb, hml, hown, hts⟩ (tX10_settle l E X A z I6 L0 u0 t_u0 rh13 (rh13.toInt) rfl v5 (v5.toInt) rfl) (cwV 2 hts gX2_handOut_X10_settle rfl rfl rfl (by decide +kernel) ⟨Nat.le_of_ble_eq_true rfl, Nat.le_of_ble_eq_true rfl⟩) ⟨h_blind _ _ _ _ _ _ _, h_recv g t_u0 (by decide) so_11 (q := (RX10, TX10, 4)) rfl, h_pre _ hE hk hX hA hI hR g⟩ rfl rfl hl.1 rfl (lv_room (Nat.le_of_ble_eq_true rfl)) dX2_handOut_44 ⟨Nat.le_of_ble_eq_true rfl, Nat.le_of_ble_eq_true rfl⟩) g.2.1 (fun q _ h => h) (fun q h => h) (fun rh14 I15 t H1 locs ht hvm h14 hB hz1 hk1 hS => ?_)
          obtain ⟨hI, fh14, h14⟩ := h14
          replace g := h_after g hB ht hS
          generalize H1 = H at g
          clear hB hk1 hz1 ht hvm hS
          have hF := hF.call fh14 rfl
          have jrh14 : -2147483648 ≤ rh14.toInt ∧ rh14.toInt ≤ 2147483647 := ⟨xi_lo _, Int.le_of_lt_add_one (xi_hi _)⟩
          refine h_ast hx hb g tb9 (by decide) so_354 (xi_in (by omega) (by omega)) dX2_handOut_47 (fun I16 H locs eI16 g => ?_)
          have hI := hI.wr eI16 tb9 (rfl : h_bd 354 _ = ((-2147483648), 2147483647)) (xi_lo _) (Int.le_of_lt_add_one (xi_hi _))
          have hF := hF.wr eI16 tb9 rfl
          obtain ⟨v17, ev17⟩ : ∃ z : Int32, z = v5 + 1 := ⟨_, rfl⟩
          have jv17 : v17.toInt = v5.toInt + 1 := xi_add ev17 rfl (by decide) (by omega) (by omega)
          refine lv_iinc (v := v17) (lv' := [(3, .int v17), (0, .ref a0), (1, .int y), (2, .ref u0)]) hx hb dX2_handOut_48 hl (k := 3) rfl (by rw [ev17]; rfl) (by decide) rfl (fun ls hl => ?_)
          refine lv_goto (tgt := 17) hx hb dX2_handOut_51 (by decide) ?_
          exact ih17 I16 _ _ _ v17 g hI hF (lv_sub hl [1, 2, 3, 0] rfl) (by omega) (h_F.wr (h_F.call (h_F.call (h_F.rf : h_F [(354, 999), (1100, 999), (1101, 999)] z I4 I4) hL17 rfl) fh14 rfl) eI16 tb9 rfl) (by omega)
    have kc18 : (0 : Int32).toInt = 0 := by decide
    exact loop17_0 _ I4 _ _ _ (0) g hI hF (lv_sub hl [1, 2, 3, 0] rfl) ⟨by decide, by decide⟩ (h_F.rf : h_F [(354, 999), (1100, 999), (1101, 999)] z I4 I4) (show (8 - (0 : Int)) < (((8 - (0 : Int)).toNat + 1 : Nat) : Int) by omega)
set_option maxHeartbeats 4000000 in
set_option maxRecDepth 100000 in
theorem tX0_lawsNowF (l : Launch) (E : tE) (X : tX) (A : Nat → Prop) (z : tZ) (I0 : tI) (L0 : tL) (a0 : Nat) (t_a0 : z.ty a0 = 1) : Met l yX0_lawsNow wsX0_lawsNow ({ frames := 2, cells := 0, slots := 0, locals := 128 }) (va_Pc [.ref a0] (h_P E X A z I0 L0)) (va_Sq (fun r => (∃ b, r = some b ∧ z.ty b = 6) ∧ (∃ b, r = some b ∧ h_of (z.R (h_ad z (h_ad z a0 0) 1)) (h_ad z (h_ad z a0 0) 0) (I0 a0 3).toInt b))) 0 0 (fun _ => False) := by
  refine Met.ofW (cc := cX0_lawsNow) (maxL := 1) (ret := (some (.object "CapLeague$Laws"))) (by decide) rfl ?_
  intro pr_ ev_ s m args below meth cd_ s₁ B hml hv
  obtain ⟨rfl, hE, hk, hX, hA, hK, hI, hR, hB0⟩ := hv
  have g : h_G h_so h_fk E A z I0 L0 s s.heap s.heap [] := ⟨hK, va_S.rf, hB0⟩
  have hx := B.exec
  have hb := B.bytes
  have hr := B.returns
  have hts := atoms_spec (ws := wsX0_lawsNow) B.pre
  have hown : s.vm.findClass RX0 = some m.cls := findClass_of_methodNamed B.named
  have hlocks := B.notSynchronized
  have iX0 : ∀ w ∈ u_ws RX0 TX0 9, w ∈ wsX0_lawsNow := by decide +kernel
  have hl := lv_entry ([.ref a0]) (n := 1) (Nat.le_of_ble_eq_true rfl)
  rw [lg_entry_eq]
  generalize (lg_sl ([.ref a0]) ++ List.replicate (1 - (lg_sl ([.ref a0])).length) Slot.unset).toArray = ls at hl ⊢
  have hl : lv_has ls 1 [(0, .ref a0)] := hl
  obtain ⟨lb, rlb, tlb⟩ := hR.at a0 0 t_a0 (rfl : h_rs 1 0 = some (4, false)) (by decide)
  have alb : h_ad z a0 0 = lb := h_ad.at rlb
  obtain ⟨un, run, tun⟩ := hR.at lb 0 tlb (rfl : h_rs 4 0 = some (6, false)) (by decide)
  have aun : h_ad z lb 0 = un := h_ad.at run
  obtain ⟨tx, rtx, ttx⟩ := hR.at lb 1 tlb (rfl : h_rs 4 1 = some (401, false)) (by decide)
  have atx : h_ad z lb 1 = tx := h_ad.at rtx
  obtain ⟨f0_3, ef0_3⟩ : ∃ v : Int32, v = I0 a0 3 := ⟨_, rfl⟩
  have qf0_3 : (I0 a0 3).toInt = f0_3.toInt := congrArg Int32.toInt ef0_3.symm
  have jf0_3 := hI.rd a0 3 t_a0 ef0_3 (rfl : h_bd 1 3 = (0, 9))
  refine lv_aload_n hx hb dX0_lawsNow_0 rfl (lv_at hl 0 rfl) ?_
  refine h_get (v := .ref lb) hx hb hts iX0 hown g t_a0 (by decide) so_1 rfl 0 (by decide) (hts (.fieldLink RX0 33 "CapLeague$Books" "lawBook" "LCapLeague$LawBook;") (by decide +kernel)) rfl dX0_lawsNow_1 (by show va_rf (z.R a0 0) = _; rw [rlb]; rfl) ?_
  refine lv_aload_n hx hb dX0_lawsNow_4 rfl (lv_at hl 0 rfl) ?_
  refine h_get (v := .int f0_3) hx hb hts iX0 hown g t_a0 (by decide) so_1 rfl 3 (by decide) (hts (.fieldLink RX0 37 "CapLeague$Books" "clock" "I") (by decide +kernel)) rfl dX0_lawsNow_5 (congrArg Value.int (ef0_3.symm)) ?_
  refine va_csq (W.runV (As := [.int f0_3]) (rest := []) ⟨hx, hb, hml, hown, hts⟩ (tX3_ofF l E X A z I0 L0 lb tlb f0_3 (f0_3.toInt) rfl) (cwV 1 hts gX0_lawsNow_X3_of rfl rfl rfl (by decide +kernel) ⟨Nat.le_of_ble_eq_true rfl, Nat.le_of_ble_eq_true rfl⟩) ⟨h_blind _ _ _ _ _ _ _, h_recv g tlb (by decide) so_4 (q := (RX3, TX3, 2)) rfl, h_pre _ hE hk hX hA hI hR g⟩ rfl rfl hl.1 rfl (lv_room (Nat.le_of_ble_eq_true rfl)) dX0_lawsNow_8 ⟨Nat.le_of_ble_eq_true rfl, Nat.le_of_ble_eq_true rfl⟩) (fun rh1 h1 => ?_)
  obtain ⟨h1, h1p0⟩ := h1
  obtain ⟨rh1, rfl, trh1⟩ := h1
  refine xw_v (v := .ref rh1) rfl ?_
  rw [aun, atx] at h1p0
  have hofN := h1p0
  exact W.aret (v := .ref rh1) hx hb hr (Or.inl ⟨_, rfl⟩) (Or.inr ⟨_, rfl⟩) (fun t ht hW => ⟨some rh1, rfl, ⟨⟨rh1, rfl, trh1⟩, (by rw [alb, aun, atx, qf0_3]; exact hofN)⟩, ht⟩) (fun _ h => by cases h) dX0_lawsNow_11
set_option maxHeartbeats 4000000 in
set_option maxRecDepth 100000 in
theorem tX11_drawX (l : Launch) (E : tE) (X : tX) (A : Nat → Prop) (z : tZ) (I0 : tI) (L0 : tL) (a0 : Nat) (t_a0 : z.ty a0 = 12) (a : Int32) (a_t : Int) (h_a : a.toInt = a_t) (b : Int32) (b_t : Int) (h_b : b.toInt = b_t) (u_ : Nat → Int) (hcl : ∀ b : Nat, h_of (z.R (h_ad z (h_ad z (h_ad z a0 3) 0) 1)) (h_ad z (h_ad z (h_ad z a0 3) 0) 0) (I0 (h_ad z a0 3) 3).toInt b → h_lw I0 b (h_ad z b 0) (h_ad z b 1) u_) (hok : q_ok u_) : Met l yX11_draw wsX11_draw ({ frames := 4, cells := 0, slots := 0, locals := 256 }) (va_Pc [.ref a0, .int a, .int b] (h_P E X A z I0 L0)) (va_Qi (fun r (I1 : tI) => h_I z I1 ∧ h_F [(353, 999), (302, 999), (354, 999), (1100, 999), (1101, 999), (10, 3), (10, 4)] z I0 I1 ∧ ((¬ q_draws u_ a_t b_t ∧ r.toInt = -2 ∧ ∀ k : Nat, I1 (h_ad z (h_ad z a0 7) 2) k = I0 (h_ad z (h_ad z a0 7) 2) k) ∨ (q_draws u_ a_t b_t ∧ ((I0 (h_ad z a0 7) 1).toInt = 0 ∨ (I0 (h_ad z (h_ad z a0 7) 2) ((I0 (h_ad z a0 3) 3).toInt).toNat).toInt = 1) ∧ r.toInt = -4 ∧ ∀ k : Nat, I1 (h_ad z (h_ad z a0 7) 2) k = I0 (h_ad z (h_ad z a0 7) 2) k) ∨ (q_draws u_ a_t b_t ∧ (I0 (h_ad z a0 7) 1).toInt = 1 ∧ (I0 (h_ad z (h_ad z a0 7) 2) ((I0 (h_ad z a0 3) 3).toInt).toNat).toInt = 0 ∧ r.toInt = 1 ∧ ∀ k : Nat, I1 (h_ad z (h_ad z a0 7) 2) k = if k = ((I0 (h_ad z a0 3) 3).toInt).toNat then 1 else I0 (h_ad z (h_ad z a0 7) 2) k))) (fun (I1 : tI) t => h_B E A z I1 L0 t) A) 0 0 A := by
  refine Met.ofW (cc := cX11_draw) (maxL := 4) (ret := (some .int)) (by decide) rfl ?_
  intro pr_ ev_ s m args below meth cd_ s₁ B hml hv
  obtain ⟨rfl, hE, hk, hX, hA, hK, hI, hR, hB0⟩ := hv
  have g : h_G h_so h_fk E A z I0 L0 s s.heap s.heap [] := ⟨hK, va_S.rf, hB0⟩
  have hF : h_F [(353, 999), (302, 999), (354, 999), (1100, 999), (1101, 999), (10, 3), (10, 4)] z I0 I0 := h_F.rf
  have hx := B.exec
  have hb := B.bytes
  have hr := B.returns
  have hts := atoms_spec (ws := wsX11_draw) B.pre
  have hown : s.vm.findClass RX11 = some m.cls := findClass_of_methodNamed B.named
  have hlocks := B.notSynchronized
  have iX11 : ∀ w ∈ u_ws RX11 TX11 8, w ∈ wsX11_draw := by decide +kernel
  have iX2 : ∀ w ∈ u_ws RX2 TX2 7, w ∈ wsX11_draw := by decide +kernel
  have iX0 : ∀ w ∈ u_ws RX0 TX0 9, w ∈ wsX11_draw := by decide +kernel
  have hl := lv_entry ([.ref a0, .int a, .int b]) (n := 4) (Nat.le_of_ble_eq_true rfl)
  rw [lg_entry_eq]
  generalize (lg_sl ([.ref a0, .int a, .int b]) ++ List.replicate (4 - (lg_sl ([.ref a0, .int a, .int b])).length) Slot.unset).toArray = ls at hl ⊢
  have hl : lv_has ls 4 [(0, .ref a0), (1, .int a), (2, .int b)] := hl
  have b_a : -2147483648 ≤ a_t ∧ a_t ≤ 2147483647 := h_a ▸ ⟨xi_lo a, Int.le_of_lt_add_one (xi_hi a)⟩
  have b_b : -2147483648 ≤ b_t ∧ b_t ≤ 2147483647 := h_b ▸ ⟨xi_lo b, Int.le_of_lt_add_one (xi_hi b)⟩
  obtain ⟨bk, rbk, tbk⟩ := hR.at a0 3 t_a0 (rfl : h_rs 12 3 = some (1, false)) (by decide)
  have abk : h_ad z a0 3 = bk := h_ad.at rbk
  obtain ⟨lb, rlb, tlb⟩ := hR.at bk 0 tbk (rfl : h_rs 1 0 = some (4, false)) (by decide)
  have alb : h_ad z bk 0 = lb := h_ad.at rlb
  obtain ⟨un, run, tun⟩ := hR.at lb 0 tlb (rfl : h_rs 4 0 = some (6, false)) (by decide)
  have aun : h_ad z lb 0 = un := h_ad.at run
  obtain ⟨tx, rtx, ttx⟩ := hR.at lb 1 tlb (rfl : h_rs 4 1 = some (401, false)) (by decide)
  have atx : h_ad z lb 1 = tx := h_ad.at rtx
  obtain ⟨dt, rdt, tdt⟩ := hR.at a0 7 t_a0 (rfl : h_rs 12 7 = some (3, false)) (by decide)
  have adt : h_ad z a0 7 = dt := h_ad.at rdt
  obtain ⟨dr, rdr, tdr⟩ := hR.at dt 2 tdt (rfl : h_rs 3 2 = some (302, false)) (by decide)
  have adr : h_ad z dt 2 = dr := h_ad.at rdr
  obtain ⟨f0_3, ef0_3⟩ : ∃ v : Int32, v = I0 bk 3 := ⟨_, rfl⟩
  have qf0_3 : (I0 bk 3).toInt = f0_3.toInt := congrArg Int32.toInt ef0_3.symm
  have jf0_3 := hI.rd bk 3 tbk ef0_3 (rfl : h_bd 1 3 = (0, 9))
  obtain ⟨d0_1, ed0_1⟩ : ∃ v : Int32, v = I0 dt 1 := ⟨_, rfl⟩
  have qd0_1 : (I0 dt 1).toInt = d0_1.toInt := congrArg Int32.toInt ed0_1.symm
  have jd0_1 := hI.rd dt 1 tdt ed0_1 (rfl : h_bd 3 1 = (0, 1))
  rw [abk, alb, aun, atx, qf0_3] at hcl
  have d31 : (I0 dr (f0_3.toInt).toNat).toInt = 0 ∨ (I0 dr (f0_3.toInt).toNat).toInt = 1 := by have hq := hI.rd dr (f0_3.toInt).toNat tdr rfl (rfl : h_bd 302 _ = (0, 1)); omega
  refine lv_aload_n hx hb dX11_draw_0 rfl (lv_at hl 0 rfl) ?_
  refine h_get (v := .ref bk) hx hb hts iX11 hown g t_a0 (by decide) so_12 rfl 3 (by decide) (hts (.fieldLink RX11 37 "CapLeague" "books" "LCapLeague$Books;") (by decide +kernel)) rfl dX11_draw_1 (by show va_rf (z.R a0 3) = _; rw [rbk]; rfl) ?_
  refine va_csq (W.runV (As := []) (rest := []) ⟨hx, hb, hml, hown, hts⟩ (tX0_lawsNowF l E X A z I0 L0 bk tbk) (cwV 0 hts gX11_draw_X0_lawsNow rfl rfl rfl (by decide +kernel) ⟨Nat.le_of_ble_eq_true rfl, Nat.le_of_ble_eq_true rfl⟩) ⟨h_blind _ _ _ _ _ _ _, h_recv g tbk (by decide) so_1 (q := (RX0, TX0, 9)) rfl, h_pre _ hE hk hX hA hI hR g⟩ rfl rfl hl.1 rfl (lv_room (Nat.le_of_ble_eq_true rfl)) dX11_draw_4 ⟨Nat.le_of_ble_eq_true rfl, Nat.le_of_ble_eq_true rfl⟩) (fun rh1 h1 => ?_)
  obtain ⟨h1, h1p0⟩ := h1
  obtain ⟨rh1, rfl, trh1⟩ := h1
  refine xw_v (v := .ref rh1) rfl ?_
  rw [alb, aun, atx, qf0_3] at h1p0
  obtain ⟨bb, ebb, hof⟩ := h1p0
  cases ebb
  have hlb := hcl _ hof
  refine lv_astore_n (lv' := [(3, .ref rh1), (0, .ref a0), (1, .int a), (2, .int b)]) hx hb dX11_draw_7 rfl hl (by decide) rfl (fun ls hl => ?_)
  refine lv_aload_n hx hb dX11_draw_8 rfl (lv_at hl 0 rfl) ?_
  refine lv_iload_n hx hb dX11_draw_9 rfl (lv_at hl 2 rfl) ?_
  refine lv_iload_n hx hb dX11_draw_10 rfl (lv_at hl 3 rfl) ?_
  refine vp_callSi (W.runV (As := [.int a, .int b]) (rest := []) ⟨hx, hb, hml, hown, hts⟩ (tX5_areDrawsF l E X A z I0 L0 rh1 trh1 a (a_t) h_a b (b_t) h_b (u_) (hlb) (hok)) (cwV 2 hts gX11_draw_X5_areDraws rfl rfl rfl (by decide +kernel) ⟨Nat.le_of_ble_eq_true rfl, Nat.le_of_ble_eq_true rfl⟩) ⟨h_blind _ _ _ _ _ _ _, h_recv g trh1 (by decide) so_6 (q := (RX5, TX5, 3)) rfl, h_pre _ hE hk hX hA hI hR g⟩ rfl rfl hl.1 rfl (lv_room (Nat.le_of_ble_eq_true rfl)) dX11_draw_11 ⟨Nat.le_of_ble_eq_true rfl, Nat.le_of_ble_eq_true rfl⟩) (fun rh2 h2 => ?_)
  obtain ⟨h2, h2p0⟩ := h2
  refine lv_if_ne (tgt := 20) hx hb dX11_draw_14 (by decide) (fun c3 => ?_) (fun c3 => ?_)
  · have ic3 := (xi_ne c3 rfl (by decide) : rh2.toInt ≠ 0)
    refine lv_aload_n hx hb dX11_draw_20 rfl (lv_at hl 1 rfl) ?_
    refine h_get (v := .ref dt) hx hb hts iX11 hown g t_a0 (by decide) so_12 rfl 7 (by decide) (hts (.fieldLink RX11 69 "CapLeague" "draft" "LCapLeague$Draft;") (by decide +kernel)) rfl dX11_draw_21 (by show va_rf (z.R a0 7) = _; rw [rdt]; rfl) ?_
    refine h_get (v := .int d0_1) hx hb hts iX2 hown g tdt (by decide) so_3 rfl 1 (by decide) (hts (.fieldLink RX11 257 "CapLeague$Draft" "tableTold" "Z") (by decide +kernel)) rfl dX11_draw_24 (congrArg Value.int (ed0_1.symm)) ?_
    refine lv_if_eq (tgt := 47) hx hb dX11_draw_27 (by decide) (fun c4 => ?_) (fun c4 => ?_)
    · have ic4 := (xi_eq c4 rfl (by decide) : d0_1.toInt = 0)
      refine lv_bipush (v := (-4)) hx hb dX11_draw_47 (by decide) ?_
      have hS := g.2.1
      exact W.iret (v := (-4)) hx hb hr (fun t ht hW => ⟨⟨(-4), I0, rfl, ⟨hI, hF, (by rw [abk, adt, adr, qf0_3, qd0_1]; exact Or.inr (Or.inl ⟨(by rcases h2p0 with q | q; exact q.2; exact absurd q.1 (by omega)), Or.inl (by omega), by decide, fun k => rfl⟩))⟩, h_ret g ht⟩, hS.F ht⟩) hS.2.2 dX11_draw_49
    · have ic4 := (xi_ne c4 rfl (by decide) : d0_1.toInt ≠ 0)
      refine lv_aload_n hx hb dX11_draw_30 rfl (lv_at hl 1 rfl) ?_
      refine h_get (v := .ref dt) hx hb hts iX11 hown g t_a0 (by decide) so_12 rfl 7 (by decide) (hts (.fieldLink RX11 69 "CapLeague" "draft" "LCapLeague$Draft;") (by decide +kernel)) rfl dX11_draw_31 (by show va_rf (z.R a0 7) = _; rw [rdt]; rfl) ?_
      refine lv_aload_n hx hb dX11_draw_34 rfl (lv_at hl 1 rfl) ?_
      refine h_get (v := .ref bk) hx hb hts iX11 hown g t_a0 (by decide) so_12 rfl 3 (by decide) (hts (.fieldLink RX11 37 "CapLeague" "books" "LCapLeague$Books;") (by decide +kernel)) rfl dX11_draw_35 (by show va_rf (z.R a0 3) = _; rw [rbk]; rfl) ?_
      refine h_get (v := .int f0_3) hx hb hts iX0 hown g tbk (by decide) so_1 rfl 3 (by decide) (hts (.fieldLink RX11 142 "CapLeague$Books" "clock" "I") (by decide +kernel)) rfl dX11_draw_38 (congrArg Value.int (ef0_3.symm)) ?_
      refine vp_callSi (W.runV (As := [.int f0_3]) (rest := []) ⟨hx, hb, hml, hown, hts⟩ (tX2_isDrawnF l E X A z I0 L0 dt tdt f0_3 (f0_3.toInt) rfl) (cwV 1 hts gX11_draw_X2_isDrawn rfl rfl rfl (by decide +kernel) ⟨Nat.le_of_ble_eq_true rfl, Nat.le_of_ble_eq_true rfl⟩) ⟨h_blind _ _ _ _ _ _ _, h_recv g tdt (by decide) so_3 (q := (RX2, TX2, 7)) rfl, h_pre _ hE hk hX hA hI hR g⟩ rfl rfl hl.1 rfl (lv_room (Nat.le_of_ble_eq_true rfl)) dX11_draw_41 ⟨Nat.le_of_ble_eq_true rfl, Nat.le_of_ble_eq_true rfl⟩) (fun rh5 h5 => ?_)
      obtain ⟨h5, h5p0⟩ := h5
      rw [adr] at h5p0
      refine lv_if_eq (tgt := 50) hx hb dX11_draw_44 (by decide) (fun c6 => ?_) (fun c6 => ?_)
      · have ic6 := (xi_eq c6 rfl (by decide) : rh5.toInt = 0)
        refine lv_aload_n hx hb dX11_draw_50 rfl (lv_at hl 1 rfl) ?_
        refine h_get (v := .ref dt) hx hb hts iX11 hown g t_a0 (by decide) so_12 rfl 7 (by decide) (hts (.fieldLink RX11 69 "CapLeague" "draft" "LCapLeague$Draft;") (by decide +kernel)) rfl dX11_draw_51 (by show va_rf (z.R a0 7) = _; rw [rdt]; rfl) ?_
        refine lv_aload_n hx hb dX11_draw_54 rfl (lv_at hl 1 rfl) ?_
        refine h_get (v := .ref bk) hx hb hts iX11 hown g t_a0 (by decide) so_12 rfl 3 (by decide) (hts (.fieldLink RX11 37 "CapLeague" "books" "LCapLeague$Books;") (by decide +kernel)) rfl dX11_draw_55 (by show va_rf (z.R a0 3) = _; rw [rbk]; rfl) ?_
        refine h_get (v := .int f0_3) hx hb hts iX0 hown g tbk (by decide) so_1 rfl 3 (by decide) (hts (.fieldLink RX11 142 "CapLeague$Books" "clock" "I") (by decide +kernel)) rfl dX11_draw_58 (congrArg Value.int (ef0_3.symm)) ?_
        refine lv_aload_n hx hb dX11_draw_61 rfl (lv_at hl 0 rfl) ?_
        refine lv_iload_n hx hb dX11_draw_62 rfl (lv_at hl 2 rfl) ?_
        refine lv_iload_n hx hb dX11_draw_63 rfl (lv_at hl 3 rfl) ?_
        refine va_callv (va_runV (As := [.int f0_3, .ref rh1, .int a, .int b]) (rest := []) ⟨hx, hb, hml, hown, hts⟩ (tX2_makeOrder l E X A z I0 L0 dt tdt f0_3 (f0_3.toInt) rfl rh1 trh1 a (a_t) h_a b (b_t) h_b) (cwV 4 hts gX11_draw_X2_makeOrder rfl rfl rfl (by decide +kernel) ⟨Nat.le_of_ble_eq_true rfl, Nat.le_of_ble_eq_true rfl⟩) ⟨h_blind _ _ _ _ _ _ _, h_recv g tdt (by decide) so_3 (q := (RX2, TX2, 7)) rfl, h_pre _ hE hk hX hA hI hR g⟩ rfl rfl hl.1 rfl (lv_room (Nat.le_of_ble_eq_true rfl)) dX11_draw_64 ⟨Nat.le_of_ble_eq_true rfl, Nat.le_of_ble_eq_true rfl⟩) g.2.1 (fun q _ h => h) (fun q h => h) (fun I8 t H1 locs ht hvm h7 hB hz1 hk1 hS => ?_)
        obtain ⟨hI, fh7, h7⟩ := h7
        replace g := h_after g hB ht hS
        generalize H1 = H at g
        clear hB hk1 hz1 ht hvm hS
        have hF := hF.call fh7 rfl
        refine lv_aload_n hx hb dX11_draw_67 rfl (lv_at hl 1 rfl) ?_
        refine h_get (v := .ref dt) hx hb hts iX11 hown g t_a0 (by decide) so_12 rfl 7 (by decide) (hts (.fieldLink RX11 69 "CapLeague" "draft" "LCapLeague$Draft;") (by decide +kernel)) rfl dX11_draw_68 (by show va_rf (z.R a0 7) = _; rw [rdt]; rfl) ?_
        refine lv_aload_n hx hb dX11_draw_71 rfl (lv_at hl 1 rfl) ?_
        refine h_get (v := .ref bk) hx hb hts iX11 hown g t_a0 (by decide) so_12 rfl 3 (by decide) (hts (.fieldLink RX11 37 "CapLeague" "books" "LCapLeague$Books;") (by decide +kernel)) rfl dX11_draw_72 (by show va_rf (z.R a0 3) = _; rw [rbk]; rfl) ?_
        refine h_get (v := .int f0_3) hx hb hts iX0 hown g tbk (by decide) so_1 rfl 3 (by decide) (hts (.fieldLink RX11 142 "CapLeague$Books" "clock" "I") (by decide +kernel)) rfl dX11_draw_75 (congrArg Value.int ((h_F.at fh7 tbk rfl).trans (ef0_3.symm))) ?_
        refine lv_aload_n hx hb dX11_draw_78 rfl (lv_at hl 1 rfl) ?_
        obtain ⟨b9, rb9, tb9⟩ := hR.at a0 4 t_a0 (rfl : h_rs 12 4 = some (11, false)) (by decide)
        refine h_get (v := .ref b9) hx hb hts iX11 hown g t_a0 (by decide) so_12 rfl 4 (by decide) (hts (.fieldLink RX11 44 "CapLeague" "turns" "LCapLeague$Turns;") (by decide +kernel)) rfl dX11_draw_79 (by show va_rf (z.R a0 4) = _; rw [rb9]; rfl) ?_
        refine va_callv (va_runV (As := [.int f0_3, .ref b9]) (rest := []) ⟨hx, hb, hml, hown, hts⟩ (tX2_handOutF l E X A z I8 L0 dt tdt f0_3 (f0_3.toInt) rfl (by omega) b9 tb9) (cwV 2 hts gX11_draw_X2_handOut rfl rfl rfl (by decide +kernel) ⟨Nat.le_of_ble_eq_true rfl, Nat.le_of_ble_eq_true rfl⟩) ⟨h_blind _ _ _ _ _ _ _, h_recv g tdt (by decide) so_3 (q := (RX2, TX2, 7)) rfl, h_pre _ hE hk hX hA hI hR g⟩ rfl rfl hl.1 rfl (lv_room (Nat.le_of_ble_eq_true rfl)) dX11_draw_82 ⟨Nat.le_of_ble_eq_true rfl, Nat.le_of_ble_eq_true rfl⟩) g.2.1 (fun q _ h => h) (fun q h => h) (fun I11 t H1 locs ht hvm h10 hB hz1 hk1 hS => ?_)
        obtain ⟨hI, fh10, h10⟩ := h10
        replace g := h_after g hB ht hS
        generalize H1 = H at g
        clear hB hk1 hz1 ht hvm hS
        have hF := hF.call fh10 rfl
        have h10p0 := h10
        rw [adr] at h10p0
        refine lv_aload_n hx hb dX11_draw_85 rfl (lv_at hl 1 rfl) ?_
        obtain ⟨b12, rb12, tb12⟩ := hR.at a0 5 t_a0 (rfl : h_rs 12 5 = some (10, false)) (by decide)
        refine h_get (v := .ref b12) hx hb hts iX11 hown g t_a0 (by decide) so_12 rfl 5 (by decide) (hts (.fieldLink RX11 53 "CapLeague" "bargain" "LCapLeague$Trade;") (by decide +kernel)) rfl dX11_draw_86 (by show va_rf (z.R a0 5) = _; rw [rb12]; rfl) ?_
        refine va_callv (va_runV (As := []) (rest := []) ⟨hx, hb, hml, hown, hts⟩ (tX9_clear l E X A z I11 L0 b12 tb12) (cwV 0 hts gX11_draw_X9_clear rfl rfl rfl (by decide +kernel) ⟨Nat.le_of_ble_eq_true rfl, Nat.le_of_ble_eq_true rfl⟩) ⟨h_blind _ _ _ _ _ _ _, h_recv g tb12 (by decide) so_10 (q := (RX9, TX9, 10)) rfl, h_pre _ hE hk hX hA hI hR g⟩ rfl rfl hl.1 rfl (lv_room (Nat.le_of_ble_eq_true rfl)) dX11_draw_89 ⟨Nat.le_of_ble_eq_true rfl, Nat.le_of_ble_eq_true rfl⟩) g.2.1 (fun q _ h => h) (fun q h => h) (fun I14 t H1 locs ht hvm h13 hB hz1 hk1 hS => ?_)
        obtain ⟨hI, fh13, h13⟩ := h13
        replace g := h_after g hB ht hS
        generalize H1 = H at g
        clear hB hk1 hz1 ht hvm hS
        have hF := hF.call fh13 rfl
        refine lv_iconst (v := 1) hx hb dX11_draw_92 (by decide) ?_
        have hS := g.2.1
        exact W.iret (v := 1) hx hb hr (fun t ht hW => ⟨⟨1, I14, rfl, ⟨hI, hF, (by rw [abk, adt, adr, qf0_3, qd0_1]; exact Or.inr (Or.inr ⟨(by rcases h2p0 with q | q; exact q.2; exact absurd q.1 (by omega)), by omega, (by rcases h5p0 with q | q; omega; omega), by decide, fun k => by rw [show I14 dr k = _ from h_F.at fh13 tdr rfl, h10p0 k, show I8 dr k = I0 dr k from h_F.at fh7 tdr rfl]⟩))⟩, h_ret g ht⟩, hS.F ht⟩) hS.2.2 dX11_draw_93
      · have ic6 := (xi_ne c6 rfl (by decide) : rh5.toInt ≠ 0)
        refine lv_bipush (v := (-4)) hx hb dX11_draw_47 (by decide) ?_
        have hS := g.2.1
        exact W.iret (v := (-4)) hx hb hr (fun t ht hW => ⟨⟨(-4), I0, rfl, ⟨hI, hF, (by rw [abk, adt, adr, qf0_3, qd0_1]; exact Or.inr (Or.inl ⟨(by rcases h2p0 with q | q; exact q.2; exact absurd q.1 (by omega)), Or.inr (by rcases h5p0 with q | q; omega; omega), by decide, fun k => rfl⟩))⟩, h_ret g ht⟩, hS.F ht⟩) hS.2.2 dX11_draw_49
  · have ic3 := (xi_eq c3 rfl (by decide) : rh2.toInt = 0)
    refine lv_bipush (v := (-2)) hx hb dX11_draw_17 (by decide) ?_
    have hS := g.2.1
    exact W.iret (v := (-2)) hx hb hr (fun t ht hW => ⟨⟨(-2), I0, rfl, ⟨hI, hF, (by rw [abk, adt, adr, qf0_3, qd0_1]; exact Or.inl ⟨(by rcases h2p0 with q | q; exact absurd q.1 (by omega); exact q.2), by decide, fun k => rfl⟩)⟩, h_ret g ht⟩, hS.F ht⟩) hS.2.2 dX11_draw_19
set_option maxHeartbeats 4000000 in
set_option maxRecDepth 100000 in
theorem tX0_closeYearF (l : Launch) (E : tE) (X : tX) (A : Nat → Prop) (z : tZ) (I0 : tI) (L0 : tL) (a0 : Nat) (t_a0 : z.ty a0 = 1) (hc : (I0 a0 3).toInt ≤ 8) : Met l yX0_closeYear wsX0_closeYear ({ frames := 6, cells := 0, slots := 0, locals := 384 }) (va_Pc [.ref a0] (h_P E X A z I0 L0)) (va_Qv (fun (I1 : tI) => h_I z I1 ∧ h_F [(108, 999), (106, 999), (1, 7), (1, 3), (105, 999), (7, 7), (7, 0), (7, 1), (7, 2), (7, 3), (7, 4), (7, 5), (7, 6)] z I0 I1 ∧ ((I1 a0 3).toInt = (I0 a0 3).toInt + 1)) (fun (I1 : tI) t => h_B E A z I1 L0 t) A) 0 0 A := by
  refine Met.ofW (cc := cX0_closeYear) (maxL := 3) (ret := none) (by decide) rfl ?_
  intro pr_ ev_ s m args below meth cd_ s₁ B hml hv
  obtain ⟨rfl, hE, hk, hX, hA, hK, hI, hR, hB0⟩ := hv
  have g : h_G h_so h_fk E A z I0 L0 s s.heap s.heap [] := ⟨hK, va_S.rf, hB0⟩
  have hF : h_F [(108, 999), (106, 999), (1, 7), (1, 3), (105, 999), (7, 7), (7, 0), (7, 1), (7, 2), (7, 3), (7, 4), (7, 5), (7, 6)] z I0 I0 := h_F.rf
  have hx := B.exec
  have hb := B.bytes
  have hr := B.returns
  have hts := atoms_spec (ws := wsX0_closeYear) B.pre
  have hown : s.vm.findClass RX0 = some m.cls := findClass_of_methodNamed B.named
  have hlocks := B.notSynchronized
  have iX0 : ∀ w ∈ u_ws RX0 TX0 9, w ∈ wsX0_closeYear := by decide +kernel
  have iX6 : ∀ w ∈ u_ws RX6 TX6 9, w ∈ wsX0_closeYear := by decide +kernel
  have hl := lv_entry ([.ref a0]) (n := 3) (Nat.le_of_ble_eq_true rfl)
  rw [lg_entry_eq]
  generalize (lg_sl ([.ref a0]) ++ List.replicate (3 - (lg_sl ([.ref a0])).length) Slot.unset).toArray = ls at hl ⊢
  have hl : lv_has ls 3 [(0, .ref a0)] := hl
  obtain ⟨f0_3, ef0_3⟩ : ∃ v : Int32, v = I0 a0 3 := ⟨_, rfl⟩
  have qf0_3 : (I0 a0 3).toInt = f0_3.toInt := congrArg Int32.toInt ef0_3.symm
  have jf0_3 := hI.rd a0 3 t_a0 ef0_3 (rfl : h_bd 1 3 = (0, 9))
  rw [qf0_3] at hc
  refine lv_aload_n hx hb dX0_closeYear_0 rfl (lv_at hl 0 rfl) ?_
  refine va_callv (va_runV (As := []) (rest := []) ⟨hx, hb, hml, hown, hts⟩ (tX0_shareFines l E X A z I0 L0 a0 t_a0) (cwV 0 hts gX0_closeYear_X0_shareFines rfl rfl rfl (by decide +kernel) ⟨Nat.le_of_ble_eq_true rfl, Nat.le_of_ble_eq_true rfl⟩) ⟨h_blind _ _ _ _ _ _ _, h_recv g t_a0 (by decide) so_1 (q := (RX0, TX0, 9)) rfl, h_pre _ hE hk hX hA hI hR g⟩ rfl rfl hl.1 rfl (lv_room (Nat.le_of_ble_eq_true rfl)) dX0_closeYear_1 ⟨Nat.le_of_ble_eq_true rfl, Nat.le_of_ble_eq_true rfl⟩) g.2.1 (fun q _ h => h) (fun q h => h) (fun I2 t H1 locs ht hvm h1 hB hz1 hk1 hS => ?_)
  obtain ⟨hI, fh1, h1⟩ := h1
  replace g := h_after g hB ht hS
  generalize H1 = H at g
  clear hB hk1 hz1 ht hvm hS
  have hF := hF.call fh1 rfl
  refine lv_aload_n hx hb dX0_closeYear_4 rfl (lv_at hl 0 rfl) ?_
  refine lv_dup hx hb dX0_closeYear_5 rfl ?_
  refine h_get (v := .int f0_3) hx hb hts iX0 hown g t_a0 (by decide) so_1 rfl 3 (by decide) (hts (.fieldLink RX0 37 "CapLeague$Books" "clock" "I") (by decide +kernel)) rfl dX0_closeYear_6 (congrArg Value.int ((h_F.at fh1 t_a0 rfl).trans (ef0_3.symm))) ?_
  refine lv_iconst (v := 1) hx hb dX0_closeYear_9 (by decide) ?_
  refine lv_iadd hx hb dX0_closeYear_10 ?_
  refine lv_topi (fun v3 ev3 => ?_)
  have jv3 : v3.toInt = f0_3.toInt + 1 := xi_add ev3 rfl (by decide) (by omega) (by omega)
  refine h_putI (ty := .int) (v := v3) hx hb hts iX0 tyX0 tyX0_ok nmX0 hown g t_a0 (by decide) so_1 rfl 3 (by decide) rfl (hts (.fieldLink RX0 37 "CapLeague$Books" "clock" "I") (by decide +kernel)) rfl rfl (by decide +kernel) rfl rfl dX0_closeYear_11 (fun I4 H locs eI4 g => ?_)
  have hI := hI.wr eI4 t_a0 (rfl : h_bd 1 3 = (0, 9)) (by omega) (by omega)
  have hF := hF.wr eI4 t_a0 rfl
  refine lv_iconst (v := 0) hx hb dX0_closeYear_14 (by decide) ?_
  refine lv_istore_n (lv' := [(1, .int 0), (0, .ref a0)]) hx hb dX0_closeYear_15 rfl hl (by decide) rfl (fun ls hl => ?_)
  have loop16_0 : ∀ (n : Nat) (I6 : tI) (H : Heap) (locs : List Loc) (ls : Array Slot) (v5 : Int32), h_G h_so h_fk E A z I6 L0 s s.heap H locs → h_I z I6 → h_F [(108, 999), (106, 999), (1, 7), (1, 3), (105, 999), (7, 7), (7, 0), (7, 1), (7, 2), (7, 3), (7, 4), (7, 5), (7, 6)] z I0 I6 → lv_has ls 3 [(0, .ref a0), (1, .int v5)] → (0 ≤ v5.toInt ∧ v5.toInt ≤ 8) → h_F [(105, 999)] z I4 I6 → (8 - v5.toInt) < (n : Int) → W pr_ l ev_ (headSpec wsX0_closeYear ({ frames := 6, cells := 0, slots := 0, locals := 384 })).room s m ([.ref a0] : List Value).toArray below meth cd_ H locs 0 0 (MQ below (va_Qv (fun (I1 : tI) => h_I z I1 ∧ h_F [(108, 999), (106, 999), (1, 7), (1, 3), (105, 999), (7, 7), (7, 0), (7, 1), (7, 2), (7, 3), (7, 4), (7, 5), (7, 6)] z I0 I1 ∧ ((I1 a0 3).toInt = (I0 a0 3).toInt + 1)) (fun (I1 : tI) t => h_B E A z I1 L0 t) A) ([.ref a0] : List Value).toArray s 0 0 A) (F0 m 16 ls []) := by
    intro n
    induction n with
    | zero => intro I6 H locs ls v5 g hI hF hl jv5 hL16 hn; exact absurd hn (by omega)
    | succ n ih16 =>
      intro I6 H locs ls v5 g hI hF hl jv5 hL16 hn
      refine lv_iload_n hx hb dX0_closeYear_16 rfl (lv_at hl 1 rfl) ?_
      refine lv_bipush (v := 8) hx hb dX0_closeYear_17 (by decide) ?_
      refine lv_icmp_ge (tgt := 35) hx hb dX0_closeYear_19 (by decide) (fun c7 => ?_) (fun c7 => ?_)
      · have ic7 := (xi_le c7 (by decide) rfl : 8 ≤ v5.toInt)
        refine lv_iconst (v := 0) hx hb dX0_closeYear_35 (by decide) ?_
        refine lv_istore_n (lv' := [(1, .int 0), (0, .ref a0)]) hx hb dX0_closeYear_36 rfl hl (by decide) rfl (fun ls hl => ?_)
        have loop37_1 : ∀ (n : Nat) (I9 : tI) (H : Heap) (locs : List Loc) (ls : Array Slot) (v8 : Int32), h_G h_so h_fk E A z I9 L0 s s.heap H locs → h_I z I9 → h_F [(108, 999), (106, 999), (1, 7), (1, 3), (105, 999), (7, 7), (7, 0), (7, 1), (7, 2), (7, 3), (7, 4), (7, 5), (7, 6)] z I0 I9 → lv_has ls 3 [(0, .ref a0), (1, .int v8)] → (0 ≤ v8.toInt ∧ v8.toInt ≤ 60) → h_F [(7, 7), (7, 0), (7, 1), (7, 2), (7, 3), (7, 4), (7, 5), (7, 6)] z I6 I9 → (60 - v8.toInt) < (n : Int) → W pr_ l ev_ (headSpec wsX0_closeYear ({ frames := 6, cells := 0, slots := 0, locals := 384 })).room s m ([.ref a0] : List Value).toArray below meth cd_ H locs 0 0 (MQ below (va_Qv (fun (I1 : tI) => h_I z I1 ∧ h_F [(108, 999), (106, 999), (1, 7), (1, 3), (105, 999), (7, 7), (7, 0), (7, 1), (7, 2), (7, 3), (7, 4), (7, 5), (7, 6)] z I0 I1 ∧ ((I1 a0 3).toInt = (I0 a0 3).toInt + 1)) (fun (I1 : tI) t => h_B E A z I1 L0 t) A) ([.ref a0] : List Value).toArray s 0 0 A) (F0 m 37 ls []) := by
          intro n
          induction n with
          | zero => intro I9 H locs ls v8 g hI hF hl jv8 hL37 hn; exact absurd hn (by omega)
          | succ n ih37 =>
            intro I9 H locs ls v8 g hI hF hl jv8 hL37 hn
            refine lv_iload_n hx hb dX0_closeYear_37 rfl (lv_at hl 1 rfl) ?_
            refine lv_aload_n hx hb dX0_closeYear_38 rfl (lv_at hl 0 rfl) ?_
            refine h_get (v := .int (I9 a0 2)) hx hb hts iX0 hown g t_a0 (by decide) so_1 rfl 2 (by decide) (hts (.fieldLink RX0 51 "CapLeague$Books" "size" "I") (by decide +kernel)) rfl dX0_closeYear_39 rfl ?_
            refine lv_topi (fun v10 ev10 => ?_)
            have jv10 := hI.rd a0 2 t_a0 ev10 (rfl : h_bd 1 2 = (0, 60))
            refine lv_icmp_ge (tgt := 71) hx hb dX0_closeYear_42 (by decide) (fun c11 => ?_) (fun c11 => ?_)
            · have ic11 := (xi_le c11 rfl rfl : v10.toInt ≤ v8.toInt)
              have hS := g.2.1
              exact W.vret hx hb hr (fun t ht hW => ⟨⟨I9, rfl, ⟨hI, hF, (by rw [qf0_3, show I9 a0 3 = v3 from (h_F.at hL37 t_a0 rfl).trans ((h_F.at hL16 t_a0 rfl).trans (h_n0 eI4))]; omega)⟩, h_ret g ht⟩, hS.F ht⟩) hS.2.2 dX0_closeYear_71
            · have ic11 := (xi_nle c11 rfl rfl : v8.toInt < v10.toInt)
              refine lv_aload_n hx hb dX0_closeYear_45 rfl (lv_at hl 0 rfl) ?_
              refine lv_iload_n hx hb dX0_closeYear_46 rfl (lv_at hl 1 rfl) ?_
              refine va_csq (W.runV (As := [.int v8]) (rest := []) ⟨hx, hb, hml, hown, hts⟩ (tX0_playerAt l E X A z I9 L0 a0 t_a0 v8 (v8.toInt) rfl) (cwV 1 hts gX0_closeYear_X0_playerAt rfl rfl rfl (by decide +kernel) ⟨Nat.le_of_ble_eq_true rfl, Nat.le_of_ble_eq_true rfl⟩) ⟨h_blind _ _ _ _ _ _ _, h_recv g t_a0 (by decide) so_1 (q := (RX0, TX0, 9)) rfl, h_pre _ hE hk hX hA hI hR g⟩ rfl rfl hl.1 rfl (lv_room (Nat.le_of_ble_eq_true rfl)) dX0_closeYear_47 ⟨Nat.le_of_ble_eq_true rfl, Nat.le_of_ble_eq_true rfl⟩) (fun rh12 h12 => ?_)
              rcases h12 with rfl | ⟨rh12, rfl, trh12⟩
              · refine xw_v (v := .null) rfl ?_
                refine lv_astore_nN (lv' := [(2, .null), (0, .ref a0), (1, .int v8)]) hx hb dX0_closeYear_50 rfl hl (by decide) rfl (fun ls hl => ?_)
                refine lv_aload_nN hx hb dX0_closeYear_51 rfl (lv_at hl 0 rfl) ?_
                refine lv_ifnullN (tgt := 65) hx hb dX0_closeYear_52 (by decide) ?_
                obtain ⟨v13, ev13⟩ : ∃ z : Int32, z = v8 + 1 := ⟨_, rfl⟩
                have jv13 : v13.toInt = v8.toInt + 1 := xi_add ev13 rfl (by decide) (by omega) (by omega)
                refine lv_iinc (v := v13) (lv' := [(1, .int v13), (2, .null), (0, .ref a0)]) hx hb dX0_closeYear_65 hl (k := 2) rfl (by rw [ev13]; rfl) (by decide) rfl (fun ls hl => ?_)
                refine lv_goto (tgt := 37) hx hb dX0_closeYear_68 (by decide) ?_
                exact ih37 I9 _ _ _ v13 g hI hF (lv_sub hl [2, 0] rfl) (by omega) (h_F.call (h_F.rf : h_F [(7, 7), (7, 0), (7, 1), (7, 2), (7, 3), (7, 4), (7, 5), (7, 6)] z I6 I6) hL37 rfl) (by omega)
              · refine xw_v (v := .ref rh12) rfl ?_
                refine lv_astore_n (lv' := [(2, .ref rh12), (0, .ref a0), (1, .int v8)]) hx hb dX0_closeYear_50 rfl hl (by decide) rfl (fun ls hl => ?_)
                refine lv_aload_n hx hb dX0_closeYear_51 rfl (lv_at hl 0 rfl) ?_
                refine lv_ifnull hx hb dX0_closeYear_52 ?_
                refine lv_aload_n hx hb dX0_closeYear_55 rfl (lv_at hl 0 rfl) ?_
                refine lv_iconst (v := 0) hx hb dX0_closeYear_56 (by decide) ?_
                refine h_putI (ty := .boolean) (v := 0) hx hb hts iX6 tyX6 tyX6_ok nmX6 hown g trh12 (by decide) so_7 rfl 7 (by decide) rfl (hts (.fieldLink RX0 62 "CapLeague$Player" "isHurt" "Z") (by decide +kernel)) rfl rfl (by decide +kernel) (by decide) (by decide) dX0_closeYear_57 (fun I14 H locs eI14 g => ?_)
                have hI := hI.wr eI14 trh12 (rfl : h_bd 7 7 = (0, 1)) (by decide) (by decide)
                have hF := hF.wr eI14 trh12 rfl
                refine lv_aload_n hx hb dX0_closeYear_60 rfl (lv_at hl 1 rfl) ?_
                refine lv_aload_n hx hb dX0_closeYear_61 rfl (lv_at hl 0 rfl) ?_
                refine va_callv (va_runV (As := [.ref rh12]) (rest := []) ⟨hx, hb, hml, hown, hts⟩ (tX0_endContractIfOver l E X A z I14 L0 a0 t_a0 rh12 trh12) (cwV 1 hts gX0_closeYear_X0_endContractIfOver rfl rfl rfl (by decide +kernel) ⟨Nat.le_of_ble_eq_true rfl, Nat.le_of_ble_eq_true rfl⟩) ⟨h_blind _ _ _ _ _ _ _, h_recv g t_a0 (by decide) so_1 (q := (RX0, TX0, 9)) rfl, h_pre _ hE hk hX hA hI hR g⟩ rfl rfl hl.1 rfl (lv_room (Nat.le_of_ble_eq_true rfl)) dX0_closeYear_62 ⟨Nat.le_of_ble_eq_true rfl, Nat.le_of_ble_eq_true rfl⟩) g.2.1 (fun q _ h => h) (fun q h => h) (fun I16 t H1 locs ht hvm h15 hB hz1 hk1 hS => ?_)
                obtain ⟨hI, fh15, h15⟩ := h15
                replace g := h_after g hB ht hS
                generalize H1 = H at g
                clear hB hk1 hz1 ht hvm hS
                have hF := hF.call fh15 rfl
                obtain ⟨v17, ev17⟩ : ∃ z : Int32, z = v8 + 1 := ⟨_, rfl⟩
                have jv17 : v17.toInt = v8.toInt + 1 := xi_add ev17 rfl (by decide) (by omega) (by omega)
                refine lv_iinc (v := v17) (lv' := [(1, .int v17), (2, .ref rh12), (0, .ref a0)]) hx hb dX0_closeYear_65 hl (k := 2) rfl (by rw [ev17]; rfl) (by decide) rfl (fun ls hl => ?_)
                refine lv_goto (tgt := 37) hx hb dX0_closeYear_68 (by decide) ?_
                exact ih37 I16 _ _ _ v17 g hI hF (lv_sub hl [2, 0] rfl) (by omega) (h_F.call (h_F.wr (h_F.call (h_F.rf : h_F [(7, 7), (7, 0), (7, 1), (7, 2), (7, 3), (7, 4), (7, 5), (7, 6)] z I6 I6) hL37 rfl) eI14 trh12 rfl) fh15 rfl) (by omega)
        have kc18 : (0 : Int32).toInt = 0 := by decide
        exact loop37_1 _ I6 _ _ _ (0) g hI hF (lv_sub hl [1, 0] rfl) ⟨by decide, by decide⟩ (h_F.rf : h_F [(7, 7), (7, 0), (7, 1), (7, 2), (7, 3), (7, 4), (7, 5), (7, 6)] z I6 I6) (show (60 - (0 : Int)) < (((60 - (0 : Int)).toNat + 1 : Nat) : Int) by omega)
      · have ic7 := (xi_nle c7 (by decide) rfl : v5.toInt < 8)
        refine lv_aload_n hx hb dX0_closeYear_22 rfl (lv_at hl 0 rfl) ?_
        obtain ⟨b19, rb19, tb19⟩ := hR.at a0 5 t_a0 (rfl : h_rs 1 5 = some (105, false)) (by decide)
        refine h_get (v := .ref b19) hx hb hts iX0 hown g t_a0 (by decide) so_1 rfl 5 (by decide) (hts (.fieldLink RX0 22 "CapLeague$Books" "spareUsed" "[Z") (by decide +kernel)) rfl dX0_closeYear_23 (by show va_rf (z.R a0 5) = _; rw [rb19]; rfl) ?_
        refine lv_iload_n hx hb dX0_closeYear_26 rfl (lv_at hl 1 rfl) ?_
        refine lv_iconst (v := 0) hx hb dX0_closeYear_27 (by decide) ?_
        refine h_zast hx hb g tb19 (by decide) so_105 (xi_in (by omega) (by omega)) dX0_closeYear_28 (fun I20 H locs eI20 g => ?_)
        rw [h_nz (by decide) (by decide)] at eI20
        have hI := hI.wr eI20 tb19 (rfl : h_bd 105 _ = (0, 1)) (by decide) (by decide)
        have hF := hF.wr eI20 tb19 rfl
        obtain ⟨v21, ev21⟩ : ∃ z : Int32, z = v5 + 1 := ⟨_, rfl⟩
        have jv21 : v21.toInt = v5.toInt + 1 := xi_add ev21 rfl (by decide) (by omega) (by omega)
        refine lv_iinc (v := v21) (lv' := [(1, .int v21), (0, .ref a0)]) hx hb dX0_closeYear_29 hl (k := 1) rfl (by rw [ev21]; rfl) (by decide) rfl (fun ls hl => ?_)
        refine lv_goto (tgt := 16) hx hb dX0_closeYear_32 (by decide) ?_
        exact ih16 I20 _ _ _ v21 g hI hF (lv_sub hl [1, 0] rfl) (by omega) (h_F.wr (h_F.call (h_F.rf : h_F [(105, 999)] z I4 I4) hL16 rfl) eI20 tb19 rfl) (by omega)
  have kc22 : (0 : Int32).toInt = 0 := by decide
  exact loop16_0 _ I4 _ _ _ (0) g hI hF (lv_sub hl [1, 0] rfl) ⟨by decide, by decide⟩ (h_F.rf : h_F [(105, 999)] z I4 I4) (show (8 - (0 : Int)) < (((8 - (0 : Int)).toNat + 1 : Nat) : Int) by omega)
set_option maxHeartbeats 4000000 in
set_option maxRecDepth 100000 in
theorem tX11_nextX (l : Launch) (E : tE) (X : tX) (A : Nat → Prop) (z : tZ) (I0 : tI) (L0 : tL) (a0 : Nat) (t_a0 : z.ty a0 = 12) : Met l yX11_next wsX11_next ({ frames := 7, cells := 0, slots := 0, locals := 448 }) (va_Pc [.ref a0] (h_P E X A z I0 L0)) (va_Qi (fun r (I1 : tI) => h_I z I1 ∧ h_F [(108, 999), (106, 999), (1, 7), (1, 3), (105, 999), (7, 7), (7, 0), (7, 1), (7, 2), (7, 3), (7, 4), (7, 5), (7, 6), (3, 1), (10, 3), (10, 4)] z I0 I1 ∧ (((9 ≤ (I0 (h_ad z a0 3) 3).toInt ∨ (I0 (h_ad z (h_ad z a0 7) 2) ((I0 (h_ad z a0 3) 3).toInt).toNat).toInt = 0) ∧ r.toInt = -4 ∧ I1 (h_ad z a0 3) 3 = I0 (h_ad z a0 3) 3 ∧ I1 (h_ad z a0 7) 1 = I0 (h_ad z a0 7) 1) ∨ ((I0 (h_ad z a0 3) 3).toInt ≤ 8 ∧ (I0 (h_ad z (h_ad z a0 7) 2) ((I0 (h_ad z a0 3) 3).toInt).toNat).toInt = 1 ∧ r.toInt = (I0 (h_ad z a0 3) 3).toInt + 1 ∧ (I1 (h_ad z a0 3) 3).toInt = (I0 (h_ad z a0 3) 3).toInt + 1 ∧ I1 (h_ad z a0 7) 1 = 0))) (fun (I1 : tI) t => h_B E A z I1 L0 t) A) 0 0 A := by
  refine Met.ofW (cc := cX11_next) (maxL := 1) (ret := (some .int)) (by decide) rfl ?_
  intro pr_ ev_ s m args below meth cd_ s₁ B hml hv
  obtain ⟨rfl, hE, hk, hX, hA, hK, hI, hR, hB0⟩ := hv
  have g : h_G h_so h_fk E A z I0 L0 s s.heap s.heap [] := ⟨hK, va_S.rf, hB0⟩
  have hF : h_F [(108, 999), (106, 999), (1, 7), (1, 3), (105, 999), (7, 7), (7, 0), (7, 1), (7, 2), (7, 3), (7, 4), (7, 5), (7, 6), (3, 1), (10, 3), (10, 4)] z I0 I0 := h_F.rf
  have hx := B.exec
  have hb := B.bytes
  have hr := B.returns
  have hts := atoms_spec (ws := wsX11_next) B.pre
  have hown : s.vm.findClass RX11 = some m.cls := findClass_of_methodNamed B.named
  have hlocks := B.notSynchronized
  have iX11 : ∀ w ∈ u_ws RX11 TX11 8, w ∈ wsX11_next := by decide +kernel
  have iX0 : ∀ w ∈ u_ws RX0 TX0 9, w ∈ wsX11_next := by decide +kernel
  have iX2 : ∀ w ∈ u_ws RX2 TX2 7, w ∈ wsX11_next := by decide +kernel
  have hl := lv_entry ([.ref a0]) (n := 1) (Nat.le_of_ble_eq_true rfl)
  rw [lg_entry_eq]
  generalize (lg_sl ([.ref a0]) ++ List.replicate (1 - (lg_sl ([.ref a0])).length) Slot.unset).toArray = ls at hl ⊢
  have hl : lv_has ls 1 [(0, .ref a0)] := hl
  obtain ⟨bk, rbk, tbk⟩ := hR.at a0 3 t_a0 (rfl : h_rs 12 3 = some (1, false)) (by decide)
  have abk : h_ad z a0 3 = bk := h_ad.at rbk
  obtain ⟨dt, rdt, tdt⟩ := hR.at a0 7 t_a0 (rfl : h_rs 12 7 = some (3, false)) (by decide)
  have adt : h_ad z a0 7 = dt := h_ad.at rdt
  obtain ⟨dr, rdr, tdr⟩ := hR.at dt 2 tdt (rfl : h_rs 3 2 = some (302, false)) (by decide)
  have adr : h_ad z dt 2 = dr := h_ad.at rdr
  obtain ⟨f0_3, ef0_3⟩ : ∃ v : Int32, v = I0 bk 3 := ⟨_, rfl⟩
  have qf0_3 : (I0 bk 3).toInt = f0_3.toInt := congrArg Int32.toInt ef0_3.symm
  have jf0_3 := hI.rd bk 3 tbk ef0_3 (rfl : h_bd 1 3 = (0, 9))
  obtain ⟨d0_1, ed0_1⟩ : ∃ v : Int32, v = I0 dt 1 := ⟨_, rfl⟩
  have qd0_1 : (I0 dt 1).toInt = d0_1.toInt := congrArg Int32.toInt ed0_1.symm
  have jd0_1 := hI.rd dt 1 tdt ed0_1 (rfl : h_bd 3 1 = (0, 1))
  refine lv_aload_n hx hb dX11_next_0 rfl (lv_at hl 0 rfl) ?_
  refine h_get (v := .ref bk) hx hb hts iX11 hown g t_a0 (by decide) so_12 rfl 3 (by decide) (hts (.fieldLink RX11 37 "CapLeague" "books" "LCapLeague$Books;") (by decide +kernel)) rfl dX11_next_1 (by show va_rf (z.R a0 3) = _; rw [rbk]; rfl) ?_
  refine h_get (v := .int f0_3) hx hb hts iX0 hown g tbk (by decide) so_1 rfl 3 (by decide) (hts (.fieldLink RX11 142 "CapLeague$Books" "clock" "I") (by decide +kernel)) rfl dX11_next_4 (congrArg Value.int (ef0_3.symm)) ?_
  refine lv_bipush (v := 9) hx hb dX11_next_7 (by decide) ?_
  refine lv_icmp_ge (tgt := 29) hx hb dX11_next_9 (by decide) (fun c1 => ?_) (fun c1 => ?_)
  · have ic1 := (xi_le c1 (by decide) rfl : 9 ≤ f0_3.toInt)
    refine lv_bipush (v := (-4)) hx hb dX11_next_29 (by decide) ?_
    have hS := g.2.1
    exact W.iret (v := (-4)) hx hb hr (fun t ht hW => ⟨⟨(-4), I0, rfl, ⟨hI, hF, (by rw [abk, adt, adr, qf0_3]; exact Or.inl ⟨Or.inl (by omega), by decide, rfl, rfl⟩)⟩, h_ret g ht⟩, hS.F ht⟩) hS.2.2 dX11_next_31
  · have ic1 := (xi_nle c1 (by decide) rfl : f0_3.toInt < 9)
    refine lv_aload_n hx hb dX11_next_12 rfl (lv_at hl 0 rfl) ?_
    refine h_get (v := .ref dt) hx hb hts iX11 hown g t_a0 (by decide) so_12 rfl 7 (by decide) (hts (.fieldLink RX11 69 "CapLeague" "draft" "LCapLeague$Draft;") (by decide +kernel)) rfl dX11_next_13 (by show va_rf (z.R a0 7) = _; rw [rdt]; rfl) ?_
    refine lv_aload_n hx hb dX11_next_16 rfl (lv_at hl 0 rfl) ?_
    refine h_get (v := .ref bk) hx hb hts iX11 hown g t_a0 (by decide) so_12 rfl 3 (by decide) (hts (.fieldLink RX11 37 "CapLeague" "books" "LCapLeague$Books;") (by decide +kernel)) rfl dX11_next_17 (by show va_rf (z.R a0 3) = _; rw [rbk]; rfl) ?_
    refine h_get (v := .int f0_3) hx hb hts iX0 hown g tbk (by decide) so_1 rfl 3 (by decide) (hts (.fieldLink RX11 142 "CapLeague$Books" "clock" "I") (by decide +kernel)) rfl dX11_next_20 (congrArg Value.int (ef0_3.symm)) ?_
    refine vp_callSi (W.runV (As := [.int f0_3]) (rest := []) ⟨hx, hb, hml, hown, hts⟩ (tX2_isDrawnF l E X A z I0 L0 dt tdt f0_3 (f0_3.toInt) rfl) (cwV 1 hts gX11_next_X2_isDrawn rfl rfl rfl (by decide +kernel) ⟨Nat.le_of_ble_eq_true rfl, Nat.le_of_ble_eq_true rfl⟩) ⟨h_blind _ _ _ _ _ _ _, h_recv g tdt (by decide) so_3 (q := (RX2, TX2, 7)) rfl, h_pre _ hE hk hX hA hI hR g⟩ rfl rfl hl.1 rfl (lv_room (Nat.le_of_ble_eq_true rfl)) dX11_next_23 ⟨Nat.le_of_ble_eq_true rfl, Nat.le_of_ble_eq_true rfl⟩) (fun rh2 h2 => ?_)
    obtain ⟨h2, h2p0⟩ := h2
    rw [adr] at h2p0
    refine lv_if_ne (tgt := 32) hx hb dX11_next_26 (by decide) (fun c3 => ?_) (fun c3 => ?_)
    · have ic3 := (xi_ne c3 rfl (by decide) : rh2.toInt ≠ 0)
      refine lv_aload_n hx hb dX11_next_32 rfl (lv_at hl 0 rfl) ?_
      refine h_get (v := .ref bk) hx hb hts iX11 hown g t_a0 (by decide) so_12 rfl 3 (by decide) (hts (.fieldLink RX11 37 "CapLeague" "books" "LCapLeague$Books;") (by decide +kernel)) rfl dX11_next_33 (by show va_rf (z.R a0 3) = _; rw [rbk]; rfl) ?_
      refine va_callv (va_runV (As := []) (rest := []) ⟨hx, hb, hml, hown, hts⟩ (tX0_closeYearF l E X A z I0 L0 bk tbk (by rw [show I0 bk 3 = f0_3 from ef0_3.symm]; omega)) (cwV 0 hts gX11_next_X0_closeYear rfl rfl rfl (by decide +kernel) ⟨Nat.le_of_ble_eq_true rfl, Nat.le_of_ble_eq_true rfl⟩) ⟨h_blind _ _ _ _ _ _ _, h_recv g tbk (by decide) so_1 (q := (RX0, TX0, 9)) rfl, h_pre _ hE hk hX hA hI hR g⟩ rfl rfl hl.1 rfl (lv_room (Nat.le_of_ble_eq_true rfl)) dX11_next_36 ⟨Nat.le_of_ble_eq_true rfl, Nat.le_of_ble_eq_true rfl⟩) g.2.1 (fun q _ h => h) (fun q h => h) (fun I5 t H1 locs ht hvm h4 hB hz1 hk1 hS => ?_)
      obtain ⟨hI, fh4, h4⟩ := h4
      replace g := h_after g hB ht hS
      generalize H1 = H at g
      clear hB hk1 hz1 ht hvm hS
      have hF := hF.call fh4 rfl
      have h4p0 := h4
      rw [show I0 bk 3 = f0_3 from ef0_3.symm] at h4p0
      obtain ⟨v6, ev6⟩ : ∃ v : Int32, v = I5 bk 3 := ⟨_, rfl⟩
      rw [← ev6] at h4p0
      have jv6 := hI.rd bk 3 tbk ev6 (rfl : h_bd 1 3 = (0, 9))
      refine lv_aload_n hx hb dX11_next_39 rfl (lv_at hl 0 rfl) ?_
      refine h_get (v := .ref dt) hx hb hts iX11 hown g t_a0 (by decide) so_12 rfl 7 (by decide) (hts (.fieldLink RX11 69 "CapLeague" "draft" "LCapLeague$Draft;") (by decide +kernel)) rfl dX11_next_40 (by show va_rf (z.R a0 7) = _; rw [rdt]; rfl) ?_
      refine lv_iconst (v := 0) hx hb dX11_next_43 (by decide) ?_
      refine h_putI (ty := .boolean) (v := 0) hx hb hts iX2 tyX2 tyX2_ok nmX2 hown g tdt (by decide) so_3 rfl 1 (by decide) rfl (hts (.fieldLink RX11 257 "CapLeague$Draft" "tableTold" "Z") (by decide +kernel)) rfl rfl (by decide +kernel) (by decide) (by decide) dX11_next_44 (fun I7 H locs eI7 g => ?_)
      have hI := hI.wr eI7 tdt (rfl : h_bd 3 1 = (0, 1)) (by decide) (by decide)
      have hF := hF.wr eI7 tdt rfl
      refine lv_aload_n hx hb dX11_next_47 rfl (lv_at hl 0 rfl) ?_
      obtain ⟨b8, rb8, tb8⟩ := hR.at a0 5 t_a0 (rfl : h_rs 12 5 = some (10, false)) (by decide)
      refine h_get (v := .ref b8) hx hb hts iX11 hown g t_a0 (by decide) so_12 rfl 5 (by decide) (hts (.fieldLink RX11 53 "CapLeague" "bargain" "LCapLeague$Trade;") (by decide +kernel)) rfl dX11_next_48 (by show va_rf (z.R a0 5) = _; rw [rb8]; rfl) ?_
      refine va_callv (va_runV (As := []) (rest := []) ⟨hx, hb, hml, hown, hts⟩ (tX9_clear l E X A z I7 L0 b8 tb8) (cwV 0 hts gX11_next_X9_clear rfl rfl rfl (by decide +kernel) ⟨Nat.le_of_ble_eq_true rfl, Nat.le_of_ble_eq_true rfl⟩) ⟨h_blind _ _ _ _ _ _ _, h_recv g tb8 (by decide) so_10 (q := (RX9, TX9, 10)) rfl, h_pre _ hE hk hX hA hI hR g⟩ rfl rfl hl.1 rfl (lv_room (Nat.le_of_ble_eq_true rfl)) dX11_next_51 ⟨Nat.le_of_ble_eq_true rfl, Nat.le_of_ble_eq_true rfl⟩) g.2.1 (fun q _ h => h) (fun q h => h) (fun I10 t H1 locs ht hvm h9 hB hz1 hk1 hS => ?_)
      obtain ⟨hI, fh9, h9⟩ := h9
      replace g := h_after g hB ht hS
      generalize H1 = H at g
      clear hB hk1 hz1 ht hvm hS
      have hF := hF.call fh9 rfl
      refine lv_aload_n hx hb dX11_next_54 rfl (lv_at hl 0 rfl) ?_
      refine h_get (v := .ref bk) hx hb hts iX11 hown g t_a0 (by decide) so_12 rfl 3 (by decide) (hts (.fieldLink RX11 37 "CapLeague" "books" "LCapLeague$Books;") (by decide +kernel)) rfl dX11_next_55 (by show va_rf (z.R a0 3) = _; rw [rbk]; rfl) ?_
      refine h_get (v := .int v6) hx hb hts iX0 hown g tbk (by decide) so_1 rfl 3 (by decide) (hts (.fieldLink RX11 142 "CapLeague$Books" "clock" "I") (by decide +kernel)) rfl dX11_next_58 (congrArg Value.int ((h_F.at fh9 tbk rfl).trans ((h_n1 eI7 tbk tdt (by decide)).trans (ev6.symm)))) ?_
      have hS := g.2.1
      exact W.iret (v := v6) hx hb hr (fun t ht hW => ⟨⟨v6, I10, rfl, ⟨hI, hF, (by rw [abk, adt, adr, qf0_3]; exact Or.inr ⟨by omega, (by rcases h2p0 with q | q; omega; omega), by omega, by rw [show I10 bk 3 = v6 from (h_F.at fh9 tbk rfl).trans ((h_n1 eI7 tbk tdt (by decide)).trans (ev6.symm))]; omega, (h_F.at fh9 tdt rfl).trans (h_n0 eI7)⟩)⟩, h_ret g ht⟩, hS.F ht⟩) hS.2.2 dX11_next_61
    · have ic3 := (xi_eq c3 rfl (by decide) : rh2.toInt = 0)
      refine lv_bipush (v := (-4)) hx hb dX11_next_29 (by decide) ?_
      have hS := g.2.1
      exact W.iret (v := (-4)) hx hb hr (fun t ht hW => ⟨⟨(-4), I0, rfl, ⟨hI, hF, (by rw [abk, adt, adr, qf0_3]; exact Or.inl ⟨Or.inr (by rcases h2p0 with q | q; omega; omega), by decide, rfl, rfl⟩)⟩, h_ret g ht⟩, hS.F ht⟩) hS.2.2 dX11_next_31
set_option maxHeartbeats 4000000 in
set_option maxRecDepth 100000 in
theorem tX11_tableX (l : Launch) (E : tE) (X : tX) (A : Nat → Prop) (z : tZ) (I0 : tI) (L0 : tL) (a0 : Nat) (t_a0 : z.ty a0 = 12) : Met l yX11_table wsX11_table ({ frames := 3, cells := 0, slots := 0, locals := 192 }) (va_Pc [.ref a0] (h_P E X A z I0 L0)) (va_Qi (fun r (I1 : tI) => h_I z I1 ∧ h_F [(300, 999), (3, 1), (9, 1)] z I0 I1 ∧ ((¬ h_istab (q_at (I0 (h_ad z (h_ad z a0 0) 0)) (I0 (h_ad z a0 0) 1).toInt) (I0 (h_ad z a0 0) 1).toInt ∧ r.toInt = -1 ∧ (∀ k : Nat, I1 (h_ad z (h_ad z a0 7) 0) k = I0 (h_ad z (h_ad z a0 7) 0) k) ∧ I1 (h_ad z a0 7) 1 = I0 (h_ad z a0 7) 1) ∨ (h_istab (q_at (I0 (h_ad z (h_ad z a0 0) 0)) (I0 (h_ad z a0 0) 1).toInt) (I0 (h_ad z a0 0) 1).toInt ∧ (I0 (h_ad z (h_ad z a0 7) 2) ((I0 (h_ad z a0 3) 3).toInt).toNat).toInt = 1 ∧ r.toInt = -4 ∧ (∀ k : Nat, I1 (h_ad z (h_ad z a0 7) 0) k = I0 (h_ad z (h_ad z a0 7) 0) k) ∧ I1 (h_ad z a0 7) 1 = I0 (h_ad z a0 7) 1) ∨ (h_istab (q_at (I0 (h_ad z (h_ad z a0 0) 0)) (I0 (h_ad z a0 0) 1).toInt) (I0 (h_ad z a0 0) 1).toInt ∧ (I0 (h_ad z (h_ad z a0 7) 2) ((I0 (h_ad z a0 3) 3).toInt).toNat).toInt = 0 ∧ r.toInt = 1 ∧ (∀ j : Nat, j < 8 → (I1 (h_ad z (h_ad z a0 7) 0) j).toInt = (q_at (I0 (h_ad z (h_ad z a0 0) 0)) (I0 (h_ad z a0 0) 1).toInt) j - 65) ∧ I1 (h_ad z a0 7) 1 = 1)) ∧ ((I1 (h_ad z a0 0) 1).toInt = 0)) (fun (I1 : tI) t => h_B E A z I1 L0 t) A) 0 0 A := by
  refine Met.ofW (cc := cX11_table) (maxL := 3) (ret := (some .int)) (by decide) rfl ?_
  intro pr_ ev_ s m args below meth cd_ s₁ B hml hv
  obtain ⟨rfl, hE, hk, hX, hA, hK, hI, hR, hB0⟩ := hv
  have g : h_G h_so h_fk E A z I0 L0 s s.heap s.heap [] := ⟨hK, va_S.rf, hB0⟩
  have hF : h_F [(300, 999), (3, 1), (9, 1)] z I0 I0 := h_F.rf
  have hx := B.exec
  have hb := B.bytes
  have hr := B.returns
  have hts := atoms_spec (ws := wsX11_table) B.pre
  have hown : s.vm.findClass RX11 = some m.cls := findClass_of_methodNamed B.named
  have hlocks := B.notSynchronized
  have iX11 : ∀ w ∈ u_ws RX11 TX11 8, w ∈ wsX11_table := by decide +kernel
  have iX0 : ∀ w ∈ u_ws RX0 TX0 9, w ∈ wsX11_table := by decide +kernel
  have iX8 : ∀ w ∈ u_ws RX8 TX8 2, w ∈ wsX11_table := by decide +kernel
  have hl := lv_entry ([.ref a0]) (n := 3) (Nat.le_of_ble_eq_true rfl)
  rw [lg_entry_eq]
  generalize (lg_sl ([.ref a0]) ++ List.replicate (3 - (lg_sl ([.ref a0])).length) Slot.unset).toArray = ls at hl ⊢
  have hl : lv_has ls 3 [(0, .ref a0)] := hl
  obtain ⟨tp, rtp, ttp⟩ := hR.at a0 0 t_a0 (rfl : h_rs 12 0 = some (9, false)) (by decide)
  have atp : h_ad z a0 0 = tp := h_ad.at rtp
  obtain ⟨bt, rbt, tbt⟩ := hR.at tp 0 ttp (rfl : h_rs 9 0 = some (900, false)) (by decide)
  have abt : h_ad z tp 0 = bt := h_ad.at rbt
  obtain ⟨bk, rbk, tbk⟩ := hR.at a0 3 t_a0 (rfl : h_rs 12 3 = some (1, false)) (by decide)
  have abk : h_ad z a0 3 = bk := h_ad.at rbk
  obtain ⟨dt, rdt, tdt⟩ := hR.at a0 7 t_a0 (rfl : h_rs 12 7 = some (3, false)) (by decide)
  have adt : h_ad z a0 7 = dt := h_ad.at rdt
  obtain ⟨dr, rdr, tdr⟩ := hR.at dt 2 tdt (rfl : h_rs 3 2 = some (302, false)) (by decide)
  have adr : h_ad z dt 2 = dr := h_ad.at rdr
  obtain ⟨rk, rrk, trk⟩ := hR.at dt 0 tdt (rfl : h_rs 3 0 = some (300, false)) (by decide)
  have ark : h_ad z dt 0 = rk := h_ad.at rrk
  obtain ⟨t0_1, et0_1⟩ : ∃ v : Int32, v = I0 tp 1 := ⟨_, rfl⟩
  have qt0_1 : (I0 tp 1).toInt = t0_1.toInt := congrArg Int32.toInt et0_1.symm
  have jt0_1 := hI.rd tp 1 ttp et0_1 (rfl : h_bd 9 1 = (0, 500))
  obtain ⟨f0_3, ef0_3⟩ : ∃ v : Int32, v = I0 bk 3 := ⟨_, rfl⟩
  have qf0_3 : (I0 bk 3).toInt = f0_3.toInt := congrArg Int32.toInt ef0_3.symm
  have jf0_3 := hI.rd bk 3 tbk ef0_3 (rfl : h_bd 1 3 = (0, 9))
  obtain ⟨d0_1, ed0_1⟩ : ∃ v : Int32, v = I0 dt 1 := ⟨_, rfl⟩
  have qd0_1 : (I0 dt 1).toInt = d0_1.toInt := congrArg Int32.toInt ed0_1.symm
  have jd0_1 := hI.rd dt 1 tdt ed0_1 (rfl : h_bd 3 1 = (0, 1))
  obtain ⟨gb, egb⟩ : ∃ g : Int → Int, g = q_at (I0 bt) (I0 tp 1).toInt := ⟨_, rfl⟩
  refine lv_aload_n hx hb dX11_table_0 rfl (lv_at hl 0 rfl) ?_
  refine h_get (v := .ref tp) hx hb hts iX11 hown g t_a0 (by decide) so_12 rfl 0 (by decide) (hts (.fieldLink RX11 10 "CapLeague" "tape" "LCapLeague$Tape;") (by decide +kernel)) rfl dX11_table_1 (by show va_rf (z.R a0 0) = _; rw [rtp]; rfl) ?_
  refine vp_callSi (W.runS (As := [.ref tp]) (rest := []) ⟨hx, hb, hml, hown, hts⟩ (tX2_isTableF l E X A z I0 L0 tp ttp) (va_cwS 1 hts gX11_table_X2_isTable rfl rfl rfl (by decide +kernel) ⟨Nat.le_of_ble_eq_true rfl, Nat.le_of_ble_eq_true rfl⟩) ⟨h_blind _ _ _ _ _ _ _, h_pre _ hE hk hX hA hI hR g⟩ rfl rfl hl.1 rfl (lv_room (Nat.le_of_ble_eq_true rfl)) dX11_table_4 ⟨Nat.le_of_ble_eq_true rfl, Nat.le_of_ble_eq_true rfl⟩) (fun rh1 h1 => ?_)
  obtain ⟨h1, h1p0⟩ := h1
  rw [abt, ← egb] at h1p0
  refine lv_istore_n (lv' := [(1, .int rh1), (0, .ref a0)]) hx hb dX11_table_7 rfl hl (by decide) rfl (fun ls hl => ?_)
  refine lv_iconst (v := (-1)) hx hb dX11_table_8 (by decide) ?_
  refine lv_istore_n (lv' := [(2, .int (-1)), (1, .int rh1), (0, .ref a0)]) hx hb dX11_table_9 rfl hl (by decide) rfl (fun ls hl => ?_)
  refine lv_iload_n hx hb dX11_table_10 rfl (lv_at hl 1 rfl) ?_
  refine lv_if_eq (tgt := 37) hx hb dX11_table_11 (by decide) (fun c2 => ?_) (fun c2 => ?_)
  · have ic2 := (xi_eq c2 rfl (by decide) : rh1.toInt = 0)
    refine lv_iload_n hx hb dX11_table_37 rfl (lv_at hl 1 rfl) ?_
    refine lv_if_eq (tgt := 54) hx hb dX11_table_38 (by decide) (fun c3 => ?_) (fun h => absurd (xi_ne h rfl (by decide) : rh1.toInt ≠ 0) (by omega))
    have ic3 := (xi_eq c3 rfl (by decide) : rh1.toInt = 0)
    refine lv_aload_n hx hb dX11_table_54 rfl (lv_at hl 2 rfl) ?_
    refine h_get (v := .ref tp) hx hb hts iX11 hown g t_a0 (by decide) so_12 rfl 0 (by decide) (hts (.fieldLink RX11 10 "CapLeague" "tape" "LCapLeague$Tape;") (by decide +kernel)) rfl dX11_table_55 (by show va_rf (z.R a0 0) = _; rw [rtp]; rfl) ?_
    refine lv_iconst (v := 0) hx hb dX11_table_58 (by decide) ?_
    refine h_putI (ty := .int) (v := 0) hx hb hts iX8 tyX8 tyX8_ok nmX8 hown g ttp (by decide) so_9 rfl 1 (by decide) rfl (hts (.fieldLink RX11 81 "CapLeague$Tape" "size" "I") (by decide +kernel)) rfl rfl (by decide +kernel) rfl rfl dX11_table_59 (fun I4 H locs eI4 g => ?_)
    have hI := hI.wr eI4 ttp (rfl : h_bd 9 1 = (0, 500)) (by decide) (by decide)
    have hF := hF.wr eI4 ttp rfl
    refine lv_iload_n hx hb dX11_table_62 rfl (lv_at hl 0 rfl) ?_
    have hS := g.2.1
    exact W.iret (v := (-1)) hx hb hr (fun t ht hW => ⟨⟨(-1), I4, rfl, ⟨hI, hF, ⟨(by rw [atp, abt, abk, adt, adr, ark, qf0_3, ← egb]; exact Or.inl ⟨(by rcases h1p0 with q | q; exact absurd q.1 (by omega); exact q.2), by decide, (fun k => h_n1 eI4 trk ttp (by decide)), h_n1 eI4 tdt ttp (by decide)⟩), (by rw [atp, h_n0 eI4]; decide)⟩⟩, h_ret g ht⟩, hS.F ht⟩) hS.2.2 dX11_table_63
  · have ic2 := (xi_ne c2 rfl (by decide) : rh1.toInt ≠ 0)
    refine lv_aload_n hx hb dX11_table_14 rfl (lv_at hl 2 rfl) ?_
    refine h_get (v := .ref dt) hx hb hts iX11 hown g t_a0 (by decide) so_12 rfl 7 (by decide) (hts (.fieldLink RX11 69 "CapLeague" "draft" "LCapLeague$Draft;") (by decide +kernel)) rfl dX11_table_15 (by show va_rf (z.R a0 7) = _; rw [rdt]; rfl) ?_
    refine lv_aload_n hx hb dX11_table_18 rfl (lv_at hl 2 rfl) ?_
    refine h_get (v := .ref bk) hx hb hts iX11 hown g t_a0 (by decide) so_12 rfl 3 (by decide) (hts (.fieldLink RX11 37 "CapLeague" "books" "LCapLeague$Books;") (by decide +kernel)) rfl dX11_table_19 (by show va_rf (z.R a0 3) = _; rw [rbk]; rfl) ?_
    refine h_get (v := .int f0_3) hx hb hts iX0 hown g tbk (by decide) so_1 rfl 3 (by decide) (hts (.fieldLink RX11 142 "CapLeague$Books" "clock" "I") (by decide +kernel)) rfl dX11_table_22 (congrArg Value.int (ef0_3.symm)) ?_
    refine vp_callSi (W.runV (As := [.int f0_3]) (rest := []) ⟨hx, hb, hml, hown, hts⟩ (tX2_isDrawnF l E X A z I0 L0 dt tdt f0_3 (f0_3.toInt) rfl) (cwV 1 hts gX11_table_X2_isDrawn rfl rfl rfl (by decide +kernel) ⟨Nat.le_of_ble_eq_true rfl, Nat.le_of_ble_eq_true rfl⟩) ⟨h_blind _ _ _ _ _ _ _, h_recv g tdt (by decide) so_3 (q := (RX2, TX2, 7)) rfl, h_pre _ hE hk hX hA hI hR g⟩ rfl rfl hl.1 rfl (lv_room (Nat.le_of_ble_eq_true rfl)) dX11_table_25 ⟨Nat.le_of_ble_eq_true rfl, Nat.le_of_ble_eq_true rfl⟩) (fun rh5 h5 => ?_)
    obtain ⟨h5, h5p0⟩ := h5
    rw [adr] at h5p0
    refine lv_if_eq (tgt := 37) hx hb dX11_table_28 (by decide) (fun c6 => ?_) (fun c6 => ?_)
    · have ic6 := (xi_eq c6 rfl (by decide) : rh5.toInt = 0)
      refine lv_iload_n hx hb dX11_table_37 rfl (lv_at hl 1 rfl) ?_
      refine lv_if_eq (tgt := 54) hx hb dX11_table_38 (by decide) (fun h => absurd (xi_eq h rfl (by decide) : rh1.toInt = 0) (by omega)) (fun c7 => ?_)
      have ic7 := (xi_ne c7 rfl (by decide) : rh1.toInt ≠ 0)
      refine lv_aload_n hx hb dX11_table_41 rfl (lv_at hl 2 rfl) ?_
      refine h_get (v := .ref dt) hx hb hts iX11 hown g t_a0 (by decide) so_12 rfl 7 (by decide) (hts (.fieldLink RX11 69 "CapLeague" "draft" "LCapLeague$Draft;") (by decide +kernel)) rfl dX11_table_42 (by show va_rf (z.R a0 7) = _; rw [rdt]; rfl) ?_
      refine lv_aload_n hx hb dX11_table_45 rfl (lv_at hl 2 rfl) ?_
      refine h_get (v := .ref tp) hx hb hts iX11 hown g t_a0 (by decide) so_12 rfl 0 (by decide) (hts (.fieldLink RX11 10 "CapLeague" "tape" "LCapLeague$Tape;") (by decide +kernel)) rfl dX11_table_46 (by show va_rf (z.R a0 0) = _; rw [rtp]; rfl) ?_
      refine va_callv (va_runV (As := [.ref tp]) (rest := []) ⟨hx, hb, hml, hown, hts⟩ (tX2_tellTableF l E X A z I0 L0 dt tdt tp ttp) (cwV 1 hts gX11_table_X2_tellTable rfl rfl rfl (by decide +kernel) ⟨Nat.le_of_ble_eq_true rfl, Nat.le_of_ble_eq_true rfl⟩) ⟨h_blind _ _ _ _ _ _ _, h_recv g tdt (by decide) so_3 (q := (RX2, TX2, 7)) rfl, h_pre _ hE hk hX hA hI hR g⟩ rfl rfl hl.1 rfl (lv_room (Nat.le_of_ble_eq_true rfl)) dX11_table_49 ⟨Nat.le_of_ble_eq_true rfl, Nat.le_of_ble_eq_true rfl⟩) g.2.1 (fun q _ h => h) (fun q h => h) (fun I9 t H1 locs ht hvm h8 hB hz1 hk1 hS => ?_)
      obtain ⟨hI, fh8, h8⟩ := h8
      replace g := h_after g hB ht hS
      generalize H1 = H at g
      clear hB hk1 hz1 ht hvm hS
      have hF := hF.call fh8 rfl
      obtain ⟨h8p0, h8p1⟩ := h8
      rw [ark, abt, ← egb] at h8p0
      refine lv_iconst (v := 1) hx hb dX11_table_52 (by decide) ?_
      refine lv_istore_n (lv' := [(2, .int 1), (1, .int rh1), (0, .ref a0)]) hx hb dX11_table_53 rfl hl (by decide) rfl (fun ls hl => ?_)
      refine lv_aload_n hx hb dX11_table_54 rfl (lv_at hl 2 rfl) ?_
      refine h_get (v := .ref tp) hx hb hts iX11 hown g t_a0 (by decide) so_12 rfl 0 (by decide) (hts (.fieldLink RX11 10 "CapLeague" "tape" "LCapLeague$Tape;") (by decide +kernel)) rfl dX11_table_55 (by show va_rf (z.R a0 0) = _; rw [rtp]; rfl) ?_
      refine lv_iconst (v := 0) hx hb dX11_table_58 (by decide) ?_
      refine h_putI (ty := .int) (v := 0) hx hb hts iX8 tyX8 tyX8_ok nmX8 hown g ttp (by decide) so_9 rfl 1 (by decide) rfl (hts (.fieldLink RX11 81 "CapLeague$Tape" "size" "I") (by decide +kernel)) rfl rfl (by decide +kernel) rfl rfl dX11_table_59 (fun I10 H locs eI10 g => ?_)
      have hI := hI.wr eI10 ttp (rfl : h_bd 9 1 = (0, 500)) (by decide) (by decide)
      have hF := hF.wr eI10 ttp rfl
      refine lv_iload_n hx hb dX11_table_62 rfl (lv_at hl 0 rfl) ?_
      have hS := g.2.1
      exact W.iret (v := 1) hx hb hr (fun t ht hW => ⟨⟨1, I10, rfl, ⟨hI, hF, ⟨(by rw [atp, abt, abk, adt, adr, ark, qf0_3, ← egb]; exact Or.inr (Or.inr ⟨(by rcases h1p0 with q | q; exact q.2; exact absurd q.1 (by omega)), (by rcases h5p0 with q | q; omega; omega), by decide, (fun j hj => by rw [h_n1 eI10 trk ttp (by decide)]; exact h8p0 j hj), (h_n1 eI10 tdt ttp (by decide)).trans h8p1⟩)), (by rw [atp, h_n0 eI10]; decide)⟩⟩, h_ret g ht⟩, hS.F ht⟩) hS.2.2 dX11_table_63
    · have ic6 := (xi_ne c6 rfl (by decide) : rh5.toInt ≠ 0)
      refine lv_bipush (v := (-4)) hx hb dX11_table_31 (by decide) ?_
      refine lv_istore_n (lv' := [(2, .int (-4)), (1, .int rh1), (0, .ref a0)]) hx hb dX11_table_33 rfl hl (by decide) rfl (fun ls hl => ?_)
      refine lv_goto (tgt := 54) hx hb dX11_table_34 (by decide) ?_
      refine lv_aload_n hx hb dX11_table_54 rfl (lv_at hl 2 rfl) ?_
      refine h_get (v := .ref tp) hx hb hts iX11 hown g t_a0 (by decide) so_12 rfl 0 (by decide) (hts (.fieldLink RX11 10 "CapLeague" "tape" "LCapLeague$Tape;") (by decide +kernel)) rfl dX11_table_55 (by show va_rf (z.R a0 0) = _; rw [rtp]; rfl) ?_
      refine lv_iconst (v := 0) hx hb dX11_table_58 (by decide) ?_
      refine h_putI (ty := .int) (v := 0) hx hb hts iX8 tyX8 tyX8_ok nmX8 hown g ttp (by decide) so_9 rfl 1 (by decide) rfl (hts (.fieldLink RX11 81 "CapLeague$Tape" "size" "I") (by decide +kernel)) rfl rfl (by decide +kernel) rfl rfl dX11_table_59 (fun I11 H locs eI11 g => ?_)
      have hI := hI.wr eI11 ttp (rfl : h_bd 9 1 = (0, 500)) (by decide) (by decide)
      have hF := hF.wr eI11 ttp rfl
      refine lv_iload_n hx hb dX11_table_62 rfl (lv_at hl 0 rfl) ?_
      have hS := g.2.1
      exact W.iret (v := (-4)) hx hb hr (fun t ht hW => ⟨⟨(-4), I11, rfl, ⟨hI, hF, ⟨(by rw [atp, abt, abk, adt, adr, ark, qf0_3, ← egb]; exact Or.inr (Or.inl ⟨(by rcases h1p0 with q | q; exact q.2; exact absurd q.1 (by omega)), (by rcases h5p0 with q | q; omega; omega), by decide, (fun k => h_n1 eI11 trk ttp (by decide)), h_n1 eI11 tdt ttp (by decide)⟩)), (by rw [atp, h_n0 eI11]; decide)⟩⟩, h_ret g ht⟩, hS.F ht⟩) hS.2.2 dX11_table_63
