set_option maxHeartbeats 4000000 in
set_option maxRecDepth 100000 in
theorem tX11_ring (l : Launch) (E : tE) (X : tX) (A : Nat → Prop) (z : tZ) (I0 : tI) (L0 : tL) (a0 : Nat) (t_a0 : z.ty a0 = 12) : Met l yX11_ring wsX11_ring ({ frames := 7, cells := 0, slots := 0, locals := 448 }) (va_Pc [.ref a0] (h_P E X A z I0 L0)) (va_Qi (fun r (I1 : tI) => h_I z I1 ∧ h_F [(803, 999), (802, 999), (804, 999), (805, 999), (2, 0), (2, 1), (2, 2), (2, 3), (808, 999), (807, 999), (856, 999), (8, 10), (811, 999), (812, 999), (8, 9)] z I0 I1 ∧ True) (fun (I1 : tI) t => h_B E A z I1 L0 t) A) 0 0 A := by
  refine Met.ofW (cc := cX11_ring) (maxL := 1) (ret := (some .int)) (by decide) rfl ?_
  intro pr_ ev_ s m args below meth cd_ s₁ B hml hv
  obtain ⟨rfl, hE, hk, hX, hA, hK, hI, hR, hB0⟩ := hv
  have g : h_G h_so h_fk E A z I0 L0 s s.heap s.heap [] := ⟨hK, va_S.rf, hB0⟩
  have hF : h_F [(803, 999), (802, 999), (804, 999), (805, 999), (2, 0), (2, 1), (2, 2), (2, 3), (808, 999), (807, 999), (856, 999), (8, 10), (811, 999), (812, 999), (8, 9)] z I0 I0 := h_F.rf
  have hx := B.exec
  have hb := B.bytes
  have hr := B.returns
  have hts := atoms_spec (ws := wsX11_ring) B.pre
  have hown : s.vm.findClass RX11 = some m.cls := findClass_of_methodNamed B.named
  have hlocks := B.notSynchronized
  have iX11 : ∀ w ∈ u_ws RX11 TX11 8, w ∈ wsX11_ring := by decide +kernel
  have hl := lv_entry ([.ref a0]) (n := 1) (Nat.le_of_ble_eq_true rfl)
  rw [lg_entry_eq]
  generalize (lg_sl ([.ref a0]) ++ List.replicate (1 - (lg_sl ([.ref a0])).length) Slot.unset).toArray = ls at hl ⊢
  have hl : lv_has ls 1 [(0, .ref a0)] := hl
  refine lv_aload_n hx hb dX11_ring_0 rfl (lv_at hl 0 rfl) ?_
  obtain ⟨b1, rb1, tb1⟩ := hR.at a0 6 t_a0 (rfl : h_rs 12 6 = some (8, false)) (by decide)
  refine h_get (v := .ref b1) hx hb hts iX11 hown g t_a0 (by decide) so_12 rfl 6 (by decide) (hts (.fieldLink RX11 62 "CapLeague" "rings" "LCapLeague$RingSearch;") (by decide +kernel)) rfl dX11_ring_1 (by show va_rf (z.R a0 6) = _; rw [rb1]; rfl) ?_
  refine va_calli (va_runV (As := []) (rest := []) ⟨hx, hb, hml, hown, hts⟩ (tX7_findBest l E X A z I0 L0 b1 tb1) (cwV 0 hts gX11_ring_X7_findBest rfl rfl rfl (by decide +kernel) ⟨Nat.le_of_ble_eq_true rfl, Nat.le_of_ble_eq_true rfl⟩) ⟨h_blind _ _ _ _ _ _ _, h_recv g tb1 (by decide) so_8 (q := (RX7, TX7, 13)) rfl, h_pre _ hE hk hX hA hI hR g⟩ rfl rfl hl.1 rfl (lv_room (Nat.le_of_ble_eq_true rfl)) dX11_ring_4 ⟨Nat.le_of_ble_eq_true rfl, Nat.le_of_ble_eq_true rfl⟩) g.2.1 (fun q _ h => h) (fun q h => h) (fun rh2 I3 t H1 locs ht hvm h2 hB hz1 hk1 hS => ?_)
  obtain ⟨hI, fh2, h2⟩ := h2
  replace g := h_after g hB ht hS
  generalize H1 = H at g
  clear hB hk1 hz1 ht hvm hS
  have hF := hF.call fh2 rfl
  have jrh2 : -2147483648 ≤ rh2.toInt ∧ rh2.toInt ≤ 2147483647 := ⟨xi_lo _, Int.le_of_lt_add_one (xi_hi _)⟩
  have hS := g.2.1
  exact W.iret (v := rh2) hx hb hr (fun t ht hW => ⟨⟨rh2, I3, rfl, ⟨hI, hF, trivial⟩, h_ret g ht⟩, hS.F ht⟩) hS.2.2 dX11_ring_7
set_option maxHeartbeats 4000000 in
set_option maxRecDepth 100000 in
theorem tX11_ringed (l : Launch) (E : tE) (X : tX) (A : Nat → Prop) (z : tZ) (I0 : tI) (L0 : tL) (a0 : Nat) (t_a0 : z.ty a0 = 12) (x : Int32) (x_t : Int) (h_x : x.toInt = x_t) : Met l yX11_ringed wsX11_ringed ({ frames := 2, cells := 0, slots := 0, locals := 128 }) (va_Pc [.ref a0, .int x] (h_P E X A z I0 L0)) (vp_Si (fun r => True)) 0 0 (fun _ => False) := by
  refine Met.ofW (cc := cX11_ringed) (maxL := 2) (ret := (some .int)) (by decide) rfl ?_
  intro pr_ ev_ s m args below meth cd_ s₁ B hml hv
  obtain ⟨rfl, hE, hk, hX, hA, hK, hI, hR, hB0⟩ := hv
  have g : h_G h_so h_fk E A z I0 L0 s s.heap s.heap [] := ⟨hK, va_S.rf, hB0⟩
  have hx := B.exec
  have hb := B.bytes
  have hr := B.returns
  have hts := atoms_spec (ws := wsX11_ringed) B.pre
  have hown : s.vm.findClass RX11 = some m.cls := findClass_of_methodNamed B.named
  have hlocks := B.notSynchronized
  have iX11 : ∀ w ∈ u_ws RX11 TX11 8, w ∈ wsX11_ringed := by decide +kernel
  have hl := lv_entry ([.ref a0, .int x]) (n := 2) (Nat.le_of_ble_eq_true rfl)
  rw [lg_entry_eq]
  generalize (lg_sl ([.ref a0, .int x]) ++ List.replicate (2 - (lg_sl ([.ref a0, .int x])).length) Slot.unset).toArray = ls at hl ⊢
  have hl : lv_has ls 2 [(0, .ref a0), (1, .int x)] := hl
  have b_x : -2147483648 ≤ x_t ∧ x_t ≤ 2147483647 := h_x ▸ ⟨xi_lo x, Int.le_of_lt_add_one (xi_hi x)⟩
  refine lv_aload_n hx hb dX11_ringed_0 rfl (lv_at hl 0 rfl) ?_
  obtain ⟨b1, rb1, tb1⟩ := hR.at a0 6 t_a0 (rfl : h_rs 12 6 = some (8, false)) (by decide)
  refine h_get (v := .ref b1) hx hb hts iX11 hown g t_a0 (by decide) so_12 rfl 6 (by decide) (hts (.fieldLink RX11 62 "CapLeague" "rings" "LCapLeague$RingSearch;") (by decide +kernel)) rfl dX11_ringed_1 (by show va_rf (z.R a0 6) = _; rw [rb1]; rfl) ?_
  refine lv_iload_n hx hb dX11_ringed_4 rfl (lv_at hl 1 rfl) ?_
  refine vp_callSi (W.runV (As := [.int x]) (rest := []) ⟨hx, hb, hml, hown, hts⟩ (tX7_fact l E X A z I0 L0 b1 tb1 x (x_t) h_x) (cwV 1 hts gX11_ringed_X7_fact rfl rfl rfl (by decide +kernel) ⟨Nat.le_of_ble_eq_true rfl, Nat.le_of_ble_eq_true rfl⟩) ⟨h_blind _ _ _ _ _ _ _, h_recv g tb1 (by decide) so_8 (q := (RX7, TX7, 13)) rfl, h_pre _ hE hk hX hA hI hR g⟩ rfl rfl hl.1 rfl (lv_room (Nat.le_of_ble_eq_true rfl)) dX11_ringed_5 ⟨Nat.le_of_ble_eq_true rfl, Nat.le_of_ble_eq_true rfl⟩) (fun rh2 h2 => ?_)
  have jrh2 : -2147483648 ≤ rh2.toInt ∧ rh2.toInt ≤ 2147483647 := ⟨xi_lo _, Int.le_of_lt_add_one (xi_hi _)⟩
  exact W.iret (v := rh2) hx hb hr (fun t ht hW => ⟨rh2, rfl, trivial, ht⟩) (fun _ h => by cases h) dX11_ringed_8
set_option maxHeartbeats 4000000 in
set_option maxRecDepth 100000 in
theorem tX11_chance (l : Launch) (E : tE) (X : tX) (A : Nat → Prop) (z : tZ) (I0 : tI) (L0 : tL) (a0 : Nat) (t_a0 : z.ty a0 = 12) (c : Int32) (c_t : Int) (h_c : c.toInt = c_t) (k : Int32) (k_t : Int) (h_k : k.toInt = k_t) (x : Int32) (x_t : Int) (h_x : x.toInt = x_t) : Met l yX11_chance wsX11_chance ({ frames := 5, cells := 0, slots := 0, locals := 320 }) (va_Pc [.ref a0, .int c, .int k, .int x] (h_P E X A z I0 L0)) (va_Ql (fun r (q1 : tI × tL) => h_I z q1.1 ∧ h_F [] z I0 q1.1 ∧ True) (fun (q1 : tI × tL) t => h_B E A z q1.1 q1.2 t) A) 0 0 A := by
  refine Met.ofW (cc := cX11_chance) (maxL := 4) (ret := (some .long)) (by decide) rfl ?_
  intro pr_ ev_ s m args below meth cd_ s₁ B hml hv
  obtain ⟨rfl, hE, hk, hX, hA, hK, hI, hR, hB0⟩ := hv
  have g : h_G h_so h_fk E A z I0 L0 s s.heap s.heap [] := ⟨hK, va_S.rf, hB0⟩
  have hF : h_F [] z I0 I0 := h_F.rf
  have hx := B.exec
  have hb := B.bytes
  have hr := B.returns
  have hts := atoms_spec (ws := wsX11_chance) B.pre
  have hown : s.vm.findClass RX11 = some m.cls := findClass_of_methodNamed B.named
  have hlocks := B.notSynchronized
  have iX11 : ∀ w ∈ u_ws RX11 TX11 8, w ∈ wsX11_chance := by decide +kernel
  have iX2 : ∀ w ∈ u_ws RX2 TX2 7, w ∈ wsX11_chance := by decide +kernel
  have hl := lv_entry ([.ref a0, .int c, .int k, .int x]) (n := 4) (Nat.le_of_ble_eq_true rfl)
  rw [lg_entry_eq]
  generalize (lg_sl ([.ref a0, .int c, .int k, .int x]) ++ List.replicate (4 - (lg_sl ([.ref a0, .int c, .int k, .int x])).length) Slot.unset).toArray = ls at hl ⊢
  have hl : lv_has ls 4 [(0, .ref a0), (1, .int c), (2, .int k), (3, .int x)] := hl
  have b_c : -2147483648 ≤ c_t ∧ c_t ≤ 2147483647 := h_c ▸ ⟨xi_lo c, Int.le_of_lt_add_one (xi_hi c)⟩
  have b_k : -2147483648 ≤ k_t ∧ k_t ≤ 2147483647 := h_k ▸ ⟨xi_lo k, Int.le_of_lt_add_one (xi_hi k)⟩
  have b_x : -2147483648 ≤ x_t ∧ x_t ≤ 2147483647 := h_x ▸ ⟨xi_lo x, Int.le_of_lt_add_one (xi_hi x)⟩
  refine lv_iload_n hx hb dX11_chance_0 rfl (lv_at hl 1 rfl) ?_
  refine vp_callSi (W.runS (As := [.int c]) (rest := []) ⟨hx, hb, hml, hown, hts⟩ (tX11_isClub l E X A z I0 L0 c (c_t) h_c) (va_cwS 1 hts gX11_chance_X11_isClub rfl rfl rfl (by decide +kernel) ⟨Nat.le_of_ble_eq_true rfl, Nat.le_of_ble_eq_true rfl⟩) ⟨h_blind _ _ _ _ _ _ _, h_pre _ hE hk hX hA hI hR g⟩ rfl rfl hl.1 rfl (lv_room (Nat.le_of_ble_eq_true rfl)) dX11_chance_1 ⟨Nat.le_of_ble_eq_true rfl, Nat.le_of_ble_eq_true rfl⟩) (fun rh1 h1 => ?_)
  rcases h1 with ⟨rfl, h1⟩ | ⟨rfl, h1⟩
  · skip
    refine lv_if_eq (tgt := 25) hx hb dX11_chance_4 (by decide) (fun _ => ?_) (fun h => absurd (by decide) h)
    refine lv_ldc2 (v := (-2)) hx hb hown (hts (.constantLong RX11 255 (-2)) (by decide +kernel)) dX11_chance_25 ?_
    have hS := g.2.1
    exact W.lret (v := (-2)) hx hb hr (fun t ht hW => ⟨⟨(-2), (I0, L0), rfl, ⟨hI, hF, trivial⟩, h_ret g ht⟩, hS.F ht⟩) hS.2.2 dX11_chance_28
  · skip
    refine lv_if_eq (tgt := 25) hx hb dX11_chance_4 (by decide) (fun h => absurd h (by decide)) (fun _ => ?_)
    refine lv_iload_n hx hb dX11_chance_7 rfl (lv_at hl 2 rfl) ?_
    refine lv_if_lt (tgt := 25) hx hb dX11_chance_8 (by decide) (fun c4 => ?_) (fun c4 => ?_)
    · have ic4 := (xi_lt c4 h_k (by decide) : k_t < 0)
      refine lv_ldc2 (v := (-2)) hx hb hown (hts (.constantLong RX11 255 (-2)) (by decide +kernel)) dX11_chance_25 ?_
      have hS := g.2.1
      exact W.lret (v := (-2)) hx hb hr (fun t ht hW => ⟨⟨(-2), (I0, L0), rfl, ⟨hI, hF, trivial⟩, h_ret g ht⟩, hS.F ht⟩) hS.2.2 dX11_chance_28
    · have ic4 := (xi_nlt c4 h_k (by decide) : 0 ≤ k_t)
      refine lv_iload_n hx hb dX11_chance_11 rfl (lv_at hl 2 rfl) ?_
      refine lv_iconst (v := 1) hx hb dX11_chance_12 (by decide) ?_
      refine lv_icmp_gt (tgt := 25) hx hb dX11_chance_13 (by decide) (fun c5 => ?_) (fun c5 => ?_)
      · have ic5 := (xi_lt c5 (by decide) h_k : 1 < k_t)
        refine lv_ldc2 (v := (-2)) hx hb hown (hts (.constantLong RX11 255 (-2)) (by decide +kernel)) dX11_chance_25 ?_
        have hS := g.2.1
        exact W.lret (v := (-2)) hx hb hr (fun t ht hW => ⟨⟨(-2), (I0, L0), rfl, ⟨hI, hF, trivial⟩, h_ret g ht⟩, hS.F ht⟩) hS.2.2 dX11_chance_28
      · have ic5 := (xi_nlt c5 (by decide) h_k : k_t ≤ 1)
        refine lv_iload_n hx hb dX11_chance_16 rfl (lv_at hl 3 rfl) ?_
        refine lv_if_lt (tgt := 25) hx hb dX11_chance_17 (by decide) (fun c6 => ?_) (fun c6 => ?_)
        · have ic6 := (xi_lt c6 h_x (by decide) : x_t < 0)
          refine lv_ldc2 (v := (-2)) hx hb hown (hts (.constantLong RX11 255 (-2)) (by decide +kernel)) dX11_chance_25 ?_
          have hS := g.2.1
          exact W.lret (v := (-2)) hx hb hr (fun t ht hW => ⟨⟨(-2), (I0, L0), rfl, ⟨hI, hF, trivial⟩, h_ret g ht⟩, hS.F ht⟩) hS.2.2 dX11_chance_28
        · have ic6 := (xi_nlt c6 h_x (by decide) : 0 ≤ x_t)
          refine lv_iload_n hx hb dX11_chance_20 rfl (lv_at hl 3 rfl) ?_
          refine lv_iconst (v := 1) hx hb dX11_chance_21 (by decide) ?_
          refine lv_icmp_le (tgt := 29) hx hb dX11_chance_22 (by decide) (fun c7 => ?_) (fun c7 => ?_)
          · have ic7 := (xi_le c7 h_x (by decide) : x_t ≤ 1)
            refine lv_aload_n hx hb dX11_chance_29 rfl (lv_at hl 0 rfl) ?_
            obtain ⟨b8, rb8, tb8⟩ := hR.at a0 7 t_a0 (rfl : h_rs 12 7 = some (3, false)) (by decide)
            refine h_get (v := .ref b8) hx hb hts iX11 hown g t_a0 (by decide) so_12 rfl 7 (by decide) (hts (.fieldLink RX11 69 "CapLeague" "draft" "LCapLeague$Draft;") (by decide +kernel)) rfl dX11_chance_30 (by show va_rf (z.R a0 7) = _; rw [rb8]; rfl) ?_
            refine h_get (v := .int (I0 b8 1)) hx hb hts iX2 hown g tb8 (by decide) so_3 rfl 1 (by decide) (hts (.fieldLink RX11 257 "CapLeague$Draft" "tableTold" "Z") (by decide +kernel)) rfl dX11_chance_33 rfl ?_
            refine lv_topi (fun v9 ev9 => ?_)
            have jv9 := hI.rd b8 1 tb8 ev9 (rfl : h_bd 3 1 = (0, 1))
            refine lv_if_ne (tgt := 43) hx hb dX11_chance_36 (by decide) (fun c10 => ?_) (fun c10 => ?_)
            · have ic10 := (xi_ne c10 rfl (by decide) : v9.toInt ≠ 0)
              refine lv_aload_n hx hb dX11_chance_43 rfl (lv_at hl 0 rfl) ?_
              refine h_get (v := .ref b8) hx hb hts iX11 hown g t_a0 (by decide) so_12 rfl 7 (by decide) (hts (.fieldLink RX11 69 "CapLeague" "draft" "LCapLeague$Draft;") (by decide +kernel)) rfl dX11_chance_44 (by show va_rf (z.R a0 7) = _; rw [rb8]; rfl) ?_
              refine lv_iload_n hx hb dX11_chance_47 rfl (lv_at hl 1 rfl) ?_
              refine lv_iload_n hx hb dX11_chance_48 rfl (lv_at hl 2 rfl) ?_
              refine lv_aload_n hx hb dX11_chance_49 rfl (lv_at hl 0 rfl) ?_
              obtain ⟨b11, rb11, tb11⟩ := hR.at a0 3 t_a0 (rfl : h_rs 12 3 = some (1, false)) (by decide)
              refine h_get (v := .ref b11) hx hb hts iX11 hown g t_a0 (by decide) so_12 rfl 3 (by decide) (hts (.fieldLink RX11 37 "CapLeague" "books" "LCapLeague$Books;") (by decide +kernel)) rfl dX11_chance_50 (by show va_rf (z.R a0 3) = _; rw [rb11]; rfl) ?_
              refine va_csq (W.runV (As := []) (rest := [.int k, .int c, .ref b8]) ⟨hx, hb, hml, hown, hts⟩ (tX0_lawsNow l E X A z I0 L0 b11 tb11) (cwV 0 hts gX11_chance_X0_lawsNow rfl rfl rfl (by decide +kernel) ⟨Nat.le_of_ble_eq_true rfl, Nat.le_of_ble_eq_true rfl⟩) ⟨h_blind _ _ _ _ _ _ _, h_recv g tb11 (by decide) so_1 (q := (RX0, TX0, 9)) rfl, h_pre _ hE hk hX hA hI hR g⟩ rfl rfl hl.1 rfl (lv_room (Nat.le_of_ble_eq_true rfl)) dX11_chance_53 ⟨Nat.le_of_ble_eq_true rfl, Nat.le_of_ble_eq_true rfl⟩) (fun rh12 h12 => ?_)
              obtain ⟨rh12, rfl, trh12⟩ := h12
              refine xw_v (v := .ref rh12) rfl ?_
              refine va_callv (va_runV (As := [.int c, .int k, .ref rh12]) (rest := []) ⟨hx, hb, hml, hown, hts⟩ (tX2_findChance l E X A z I0 L0 b8 tb8 c (c_t) h_c k (k_t) h_k rh12 trh12) (cwV 3 hts gX11_chance_X2_findChance rfl rfl rfl (by decide +kernel) ⟨Nat.le_of_ble_eq_true rfl, Nat.le_of_ble_eq_true rfl⟩) ⟨h_blind _ _ _ _ _ _ _, h_recv g tb8 (by decide) so_3 (q := (RX2, TX2, 7)) rfl, h_pre _ hE hk hX hA hI hR g⟩ rfl rfl hl.1 rfl (lv_room (Nat.le_of_ble_eq_true rfl)) dX11_chance_56 ⟨Nat.le_of_ble_eq_true rfl, Nat.le_of_ble_eq_true rfl⟩) g.2.1 (fun q _ h => h) (fun q h => h) (fun uh13 t H1 locs ht hvm h13 hB hz1 hk1 hS => ?_)
              obtain ⟨I14, L15⟩ := uh13
              obtain ⟨hI, fh13, h13⟩ := h13
              replace g := h_after g hB ht hS
              generalize H1 = H at g
              clear hB hk1 hz1 ht hvm hS
              have hF := hF.call fh13 rfl
              refine lv_iload_n hx hb dX11_chance_59 rfl (lv_at hl 3 rfl) ?_
              refine lv_if_ne (tgt := 73) hx hb dX11_chance_60 (by decide) (fun c16 => ?_) (fun c16 => ?_)
              · have ic16 := (xi_ne c16 h_x (by decide) : x_t ≠ 0)
                refine lv_aload_n hx hb dX11_chance_73 rfl (lv_at hl 0 rfl) ?_
                refine h_get (v := .ref b8) hx hb hts iX11 hown g t_a0 (by decide) so_12 rfl 7 (by decide) (hts (.fieldLink RX11 69 "CapLeague" "draft" "LCapLeague$Draft;") (by decide +kernel)) rfl dX11_chance_74 (by show va_rf (z.R a0 7) = _; rw [rb8]; rfl) ?_
                refine h_get (v := .long (L15 b8 6)) hx hb hts iX2 hown g tb8 (by decide) so_3 rfl 6 (by decide) (hts (.fieldLink RX11 274 "CapLeague$Draft" "chanceBelow" "J") (by decide +kernel)) rfl dX11_chance_77 rfl ?_
                refine lv_topl (fun v17 ev17 => ?_)
                have hS := g.2.1
                exact W.lret (v := v17) hx hb hr (fun t ht hW => ⟨⟨v17, (I14, L15), rfl, ⟨hI, hF, trivial⟩, h_ret g ht⟩, hS.F ht⟩) hS.2.2 dX11_chance_80
              · have ic16 := (xi_eq c16 h_x (by decide) : x_t = 0)
                refine lv_aload_n hx hb dX11_chance_63 rfl (lv_at hl 0 rfl) ?_
                refine h_get (v := .ref b8) hx hb hts iX11 hown g t_a0 (by decide) so_12 rfl 7 (by decide) (hts (.fieldLink RX11 69 "CapLeague" "draft" "LCapLeague$Draft;") (by decide +kernel)) rfl dX11_chance_64 (by show va_rf (z.R a0 7) = _; rw [rb8]; rfl) ?_
                refine h_get (v := .long (L15 b8 5)) hx hb hts iX2 hown g tb8 (by decide) so_3 rfl 5 (by decide) (hts (.fieldLink RX11 270 "CapLeague$Draft" "chanceAbove" "J") (by decide +kernel)) rfl dX11_chance_67 rfl ?_
                refine lv_topl (fun v18 ev18 => ?_)
                refine lv_goto (tgt := 80) hx hb dX11_chance_70 (by decide) ?_
                have hS := g.2.1
                exact W.lret (v := v18) hx hb hr (fun t ht hW => ⟨⟨v18, (I14, L15), rfl, ⟨hI, hF, trivial⟩, h_ret g ht⟩, hS.F ht⟩) hS.2.2 dX11_chance_80
            · have ic10 := (xi_eq c10 rfl (by decide) : v9.toInt = 0)
              refine lv_ldc2 (v := (-4)) hx hb hown (hts (.constantLong RX11 260 (-4)) (by decide +kernel)) dX11_chance_39 ?_
              have hS := g.2.1
              exact W.lret (v := (-4)) hx hb hr (fun t ht hW => ⟨⟨(-4), (I0, L0), rfl, ⟨hI, hF, trivial⟩, h_ret g ht⟩, hS.F ht⟩) hS.2.2 dX11_chance_42
          · have ic7 := (xi_nle c7 h_x (by decide) : 1 < x_t)
            refine lv_ldc2 (v := (-2)) hx hb hown (hts (.constantLong RX11 255 (-2)) (by decide +kernel)) dX11_chance_25 ?_
            have hS := g.2.1
            exact W.lret (v := (-2)) hx hb hr (fun t ht hW => ⟨⟨(-2), (I0, L0), rfl, ⟨hI, hF, trivial⟩, h_ret g ht⟩, hS.F ht⟩) hS.2.2 dX11_chance_28
set_option maxHeartbeats 4000000 in
set_option maxRecDepth 100000 in
theorem tX11_purse (l : Launch) (E : tE) (X : tX) (A : Nat → Prop) (z : tZ) (I0 : tI) (L0 : tL) (a0 : Nat) (t_a0 : z.ty a0 = 12) (c : Int32) (c_t : Int) (h_c : c.toInt = c_t) : Met l yX11_purse wsX11_purse ({ frames := 2, cells := 0, slots := 0, locals := 128 }) (va_Pc [.ref a0, .int c] (h_P E X A z I0 L0)) (vp_Si (fun r => True)) 0 0 (fun _ => False) := by
  refine Met.ofW (cc := cX11_purse) (maxL := 2) (ret := (some .int)) (by decide) rfl ?_
  intro pr_ ev_ s m args below meth cd_ s₁ B hml hv
  obtain ⟨rfl, hE, hk, hX, hA, hK, hI, hR, hB0⟩ := hv
  have g : h_G h_so h_fk E A z I0 L0 s s.heap s.heap [] := ⟨hK, va_S.rf, hB0⟩
  have hx := B.exec
  have hb := B.bytes
  have hr := B.returns
  have hts := atoms_spec (ws := wsX11_purse) B.pre
  have hown : s.vm.findClass RX11 = some m.cls := findClass_of_methodNamed B.named
  have hlocks := B.notSynchronized
  have iX11 : ∀ w ∈ u_ws RX11 TX11 8, w ∈ wsX11_purse := by decide +kernel
  have iX0 : ∀ w ∈ u_ws RX0 TX0 9, w ∈ wsX11_purse := by decide +kernel
  have hl := lv_entry ([.ref a0, .int c]) (n := 2) (Nat.le_of_ble_eq_true rfl)
  rw [lg_entry_eq]
  generalize (lg_sl ([.ref a0, .int c]) ++ List.replicate (2 - (lg_sl ([.ref a0, .int c])).length) Slot.unset).toArray = ls at hl ⊢
  have hl : lv_has ls 2 [(0, .ref a0), (1, .int c)] := hl
  have b_c : -2147483648 ≤ c_t ∧ c_t ≤ 2147483647 := h_c ▸ ⟨xi_lo c, Int.le_of_lt_add_one (xi_hi c)⟩
  refine lv_iload_n hx hb dX11_purse_0 rfl (lv_at hl 1 rfl) ?_
  refine vp_callSi (W.runS (As := [.int c]) (rest := []) ⟨hx, hb, hml, hown, hts⟩ (tX11_isClub l E X A z I0 L0 c (c_t) h_c) (va_cwS 1 hts gX11_purse_X11_isClub rfl rfl rfl (by decide +kernel) ⟨Nat.le_of_ble_eq_true rfl, Nat.le_of_ble_eq_true rfl⟩) ⟨h_blind _ _ _ _ _ _ _, h_pre _ hE hk hX hA hI hR g⟩ rfl rfl hl.1 rfl (lv_room (Nat.le_of_ble_eq_true rfl)) dX11_purse_1 ⟨Nat.le_of_ble_eq_true rfl, Nat.le_of_ble_eq_true rfl⟩) (fun rh1 h1 => ?_)
  rcases h1 with ⟨rfl, h1⟩ | ⟨rfl, h1⟩
  · skip
    refine lv_if_eq (tgt := 19) hx hb dX11_purse_4 (by decide) (fun _ => ?_) (fun h => absurd (by decide) h)
    refine lv_ldc (v := (-2000000000)) hx hb hown (hts (.constant RX11 232 (-2000000000)) (by decide +kernel)) dX11_purse_19 ?_
    exact W.iret (v := (-2000000000)) hx hb hr (fun t ht hW => ⟨(-2000000000), rfl, trivial, ht⟩) (fun _ h => by cases h) dX11_purse_21
  · skip
    refine lv_if_eq (tgt := 19) hx hb dX11_purse_4 (by decide) (fun h => absurd h (by decide)) (fun _ => ?_)
    refine lv_aload_n hx hb dX11_purse_7 rfl (lv_at hl 0 rfl) ?_
    obtain ⟨b4, rb4, tb4⟩ := hR.at a0 3 t_a0 (rfl : h_rs 12 3 = some (1, false)) (by decide)
    refine h_get (v := .ref b4) hx hb hts iX11 hown g t_a0 (by decide) so_12 rfl 3 (by decide) (hts (.fieldLink RX11 37 "CapLeague" "books" "LCapLeague$Books;") (by decide +kernel)) rfl dX11_purse_8 (by show va_rf (z.R a0 3) = _; rw [rb4]; rfl) ?_
    obtain ⟨b5, rb5, tb5⟩ := hR.at b4 6 tb4 (rfl : h_rs 1 6 = some (106, false)) (by decide)
    refine h_get (v := .ref b5) hx hb hts iX0 hown g tb4 (by decide) so_1 rfl 6 (by decide) (hts (.fieldLink RX11 297 "CapLeague$Books" "fines" "[I") (by decide +kernel)) rfl dX11_purse_11 (by show va_rf (z.R b4 6) = _; rw [rb5]; rfl) ?_
    refine lv_iload_n hx hb dX11_purse_14 rfl (lv_at hl 1 rfl) ?_
    refine h_ald hx hb g tb5 (by decide) so_106 (xi_in (by rw [h_c]; omega) (by rw [h_c]; omega)) dX11_purse_15 ?_
    refine lv_topi (fun v6 ev6 => ?_)
    have jv6 := hI.rd b5 c.toNatClampNeg tb5 ev6 (rfl : h_bd 106 _ = ((-2147483648), 2147483647))
    refine lv_goto (tgt := 21) hx hb dX11_purse_16 (by decide) ?_
    exact W.iret (v := v6) hx hb hr (fun t ht hW => ⟨v6, rfl, trivial, ht⟩) (fun _ h => by cases h) dX11_purse_21
set_option maxHeartbeats 4000000 in
set_option maxRecDepth 100000 in
theorem tX11_count (l : Launch) (E : tE) (X : tX) (A : Nat → Prop) (z : tZ) (I0 : tI) (L0 : tL) (a0 : Nat) (t_a0 : z.ty a0 = 12) (x : Int32) (x_t : Int) (h_x : x.toInt = x_t) : Met l yX11_count wsX11_count ({ frames := 3, cells := 0, slots := 0, locals := 192 }) (va_Pc [.ref a0, .int x] (h_P E X A z I0 L0)) (vp_Si (fun r => True)) 0 0 (fun _ => False) := by
  refine Met.ofW (cc := cX11_count) (maxL := 2) (ret := (some .int)) (by decide) rfl ?_
  intro pr_ ev_ s m args below meth cd_ s₁ B hml hv
  obtain ⟨rfl, hE, hk, hX, hA, hK, hI, hR, hB0⟩ := hv
  have g : h_G h_so h_fk E A z I0 L0 s s.heap s.heap [] := ⟨hK, va_S.rf, hB0⟩
  have hx := B.exec
  have hb := B.bytes
  have hr := B.returns
  have hts := atoms_spec (ws := wsX11_count) B.pre
  have hown : s.vm.findClass RX11 = some m.cls := findClass_of_methodNamed B.named
  have hlocks := B.notSynchronized
  have iX11 : ∀ w ∈ u_ws RX11 TX11 8, w ∈ wsX11_count := by decide +kernel
  have iX0 : ∀ w ∈ u_ws RX0 TX0 9, w ∈ wsX11_count := by decide +kernel
  have iX9 : ∀ w ∈ u_ws RX9 TX9 10, w ∈ wsX11_count := by decide +kernel
  have iX8 : ∀ w ∈ u_ws RX8 TX8 2, w ∈ wsX11_count := by decide +kernel
  have iX2 : ∀ w ∈ u_ws RX2 TX2 7, w ∈ wsX11_count := by decide +kernel
  have hl := lv_entry ([.ref a0, .int x]) (n := 2) (Nat.le_of_ble_eq_true rfl)
  rw [lg_entry_eq]
  generalize (lg_sl ([.ref a0, .int x]) ++ List.replicate (2 - (lg_sl ([.ref a0, .int x])).length) Slot.unset).toArray = ls at hl ⊢
  have hl : lv_has ls 2 [(0, .ref a0), (1, .int x)] := hl
  have b_x : -2147483648 ≤ x_t ∧ x_t ≤ 2147483647 := h_x ▸ ⟨xi_lo x, Int.le_of_lt_add_one (xi_hi x)⟩
  refine lv_iload_n hx hb dX11_count_0 rfl (lv_at hl 1 rfl) ?_
  have qc1 : x.toInt = x_t := h_x
  rcases (show (x.toInt < 0 ∨ 6 < x.toInt) ∨ x.toInt = 0 ∨ x.toInt = 1 ∨ x.toInt = 2 ∨ x.toInt = 3 ∨ x.toInt = 4 ∨ x.toInt = 5 ∨ x.toInt = 6 by omega) with c1 | c1 | c1 | c1 | c1 | c1 | c1 | c1
  · refine lv_tableOut (tgt := 123) hx hb dX11_count_1 c1 (by decide) ?_
    refine lv_iconst (v := (-1)) hx hb dX11_count_123 (by decide) ?_
    exact W.iret (v := (-1)) hx hb hr (fun t ht hW => ⟨(-1), rfl, trivial, ht⟩) (fun _ h => by cases h) dX11_count_124
  · refine lv_tableIn (off := 43) (tgt := 44) hx hb dX11_count_1 (by omega) (by omega) (by rw [show (x.toInt - 0).toNat = 0 by omega]; rfl) (by decide) ?_
    refine lv_aload_n hx hb dX11_count_44 rfl (lv_at hl 0 rfl) ?_
    obtain ⟨b2, rb2, tb2⟩ := hR.at a0 3 t_a0 (rfl : h_rs 12 3 = some (1, false)) (by decide)
    refine h_get (v := .ref b2) hx hb hts iX11 hown g t_a0 (by decide) so_12 rfl 3 (by decide) (hts (.fieldLink RX11 37 "CapLeague" "books" "LCapLeague$Books;") (by decide +kernel)) rfl dX11_count_45 (by show va_rf (z.R a0 3) = _; rw [rb2]; rfl) ?_
    refine h_get (v := .int (I0 b2 3)) hx hb hts iX0 hown g tb2 (by decide) so_1 rfl 3 (by decide) (hts (.fieldLink RX11 142 "CapLeague$Books" "clock" "I") (by decide +kernel)) rfl dX11_count_48 rfl ?_
    refine lv_topi (fun v3 ev3 => ?_)
    have jv3 := hI.rd b2 3 tb2 ev3 (rfl : h_bd 1 3 = (0, 9))
    exact W.iret (v := v3) hx hb hr (fun t ht hW => ⟨v3, rfl, trivial, ht⟩) (fun _ h => by cases h) dX11_count_51
  · refine lv_tableIn (off := 51) (tgt := 52) hx hb dX11_count_1 (by omega) (by omega) (by rw [show (x.toInt - 0).toNat = 1 by omega]; rfl) (by decide) ?_
    refine lv_aload_n hx hb dX11_count_52 rfl (lv_at hl 0 rfl) ?_
    obtain ⟨b4, rb4, tb4⟩ := hR.at a0 3 t_a0 (rfl : h_rs 12 3 = some (1, false)) (by decide)
    refine h_get (v := .ref b4) hx hb hts iX11 hown g t_a0 (by decide) so_12 rfl 3 (by decide) (hts (.fieldLink RX11 37 "CapLeague" "books" "LCapLeague$Books;") (by decide +kernel)) rfl dX11_count_53 (by show va_rf (z.R a0 3) = _; rw [rb4]; rfl) ?_
    refine h_get (v := .int (I0 b4 2)) hx hb hts iX0 hown g tb4 (by decide) so_1 rfl 2 (by decide) (hts (.fieldLink RX11 300 "CapLeague$Books" "size" "I") (by decide +kernel)) rfl dX11_count_56 rfl ?_
    refine lv_topi (fun v5 ev5 => ?_)
    have jv5 := hI.rd b4 2 tb4 ev5 (rfl : h_bd 1 2 = (0, 60))
    exact W.iret (v := v5) hx hb hr (fun t ht hW => ⟨v5, rfl, trivial, ht⟩) (fun _ h => by cases h) dX11_count_59
  · refine lv_tableIn (off := 59) (tgt := 60) hx hb dX11_count_1 (by omega) (by omega) (by rw [show (x.toInt - 0).toNat = 2 by omega]; rfl) (by decide) ?_
    refine lv_aload_n hx hb dX11_count_60 rfl (lv_at hl 0 rfl) ?_
    obtain ⟨b6, rb6, tb6⟩ := hR.at a0 5 t_a0 (rfl : h_rs 12 5 = some (10, false)) (by decide)
    refine h_get (v := .ref b6) hx hb hts iX11 hown g t_a0 (by decide) so_12 rfl 5 (by decide) (hts (.fieldLink RX11 53 "CapLeague" "bargain" "LCapLeague$Trade;") (by decide +kernel)) rfl dX11_count_61 (by show va_rf (z.R a0 5) = _; rw [rb6]; rfl) ?_
    refine h_get (v := .int (I0 b6 3)) hx hb hts iX9 hown g tb6 (by decide) so_10 rfl 3 (by decide) (hts (.fieldLink RX11 301 "CapLeague$Trade" "size" "I") (by decide +kernel)) rfl dX11_count_64 rfl ?_
    refine lv_topi (fun v7 ev7 => ?_)
    have jv7 := hI.rd b6 3 tb6 ev7 (rfl : h_bd 10 3 = (0, 12))
    exact W.iret (v := v7) hx hb hr (fun t ht hW => ⟨v7, rfl, trivial, ht⟩) (fun _ h => by cases h) dX11_count_67
  · refine lv_tableIn (off := 67) (tgt := 68) hx hb dX11_count_1 (by omega) (by omega) (by rw [show (x.toInt - 0).toNat = 3 by omega]; rfl) (by decide) ?_
    refine lv_aload_n hx hb dX11_count_68 rfl (lv_at hl 0 rfl) ?_
    obtain ⟨b8, rb8, tb8⟩ := hR.at a0 3 t_a0 (rfl : h_rs 12 3 = some (1, false)) (by decide)
    refine h_get (v := .ref b8) hx hb hts iX11 hown g t_a0 (by decide) so_12 rfl 3 (by decide) (hts (.fieldLink RX11 37 "CapLeague" "books" "LCapLeague$Books;") (by decide +kernel)) rfl dX11_count_69 (by show va_rf (z.R a0 3) = _; rw [rb8]; rfl) ?_
    refine h_get (v := .int (I0 b8 7)) hx hb hts iX0 hown g tb8 (by decide) so_1 rfl 7 (by decide) (hts (.fieldLink RX11 302 "CapLeague$Books" "leftOver" "I") (by decide +kernel)) rfl dX11_count_72 rfl ?_
    refine lv_topi (fun v9 ev9 => ?_)
    have jv9 := hI.rd b8 7 tb8 ev9 (rfl : h_bd 1 7 = ((-2147483648), 2147483647))
    exact W.iret (v := v9) hx hb hr (fun t ht hW => ⟨v9, rfl, trivial, ht⟩) (fun _ h => by cases h) dX11_count_75
  · refine lv_tableIn (off := 75) (tgt := 76) hx hb dX11_count_1 (by omega) (by omega) (by rw [show (x.toInt - 0).toNat = 4 by omega]; rfl) (by decide) ?_
    refine lv_aload_n hx hb dX11_count_76 rfl (lv_at hl 0 rfl) ?_
    obtain ⟨b10, rb10, tb10⟩ := hR.at a0 0 t_a0 (rfl : h_rs 12 0 = some (9, false)) (by decide)
    refine h_get (v := .ref b10) hx hb hts iX11 hown g t_a0 (by decide) so_12 rfl 0 (by decide) (hts (.fieldLink RX11 10 "CapLeague" "tape" "LCapLeague$Tape;") (by decide +kernel)) rfl dX11_count_77 (by show va_rf (z.R a0 0) = _; rw [rb10]; rfl) ?_
    refine h_get (v := .int (I0 b10 1)) hx hb hts iX8 hown g tb10 (by decide) so_9 rfl 1 (by decide) (hts (.fieldLink RX11 81 "CapLeague$Tape" "size" "I") (by decide +kernel)) rfl dX11_count_80 rfl ?_
    refine lv_topi (fun v11 ev11 => ?_)
    have jv11 := hI.rd b10 1 tb10 ev11 (rfl : h_bd 9 1 = (0, 500))
    exact W.iret (v := v11) hx hb hr (fun t ht hW => ⟨v11, rfl, trivial, ht⟩) (fun _ h => by cases h) dX11_count_83
  · refine lv_tableIn (off := 83) (tgt := 84) hx hb dX11_count_1 (by omega) (by omega) (by rw [show (x.toInt - 0).toNat = 5 by omega]; rfl) (by decide) ?_
    refine lv_aload_n hx hb dX11_count_84 rfl (lv_at hl 0 rfl) ?_
    obtain ⟨b12, rb12, tb12⟩ := hR.at a0 7 t_a0 (rfl : h_rs 12 7 = some (3, false)) (by decide)
    refine h_get (v := .ref b12) hx hb hts iX11 hown g t_a0 (by decide) so_12 rfl 7 (by decide) (hts (.fieldLink RX11 69 "CapLeague" "draft" "LCapLeague$Draft;") (by decide +kernel)) rfl dX11_count_85 (by show va_rf (z.R a0 7) = _; rw [rb12]; rfl) ?_
    refine h_get (v := .int (I0 b12 1)) hx hb hts iX2 hown g tb12 (by decide) so_3 rfl 1 (by decide) (hts (.fieldLink RX11 257 "CapLeague$Draft" "tableTold" "Z") (by decide +kernel)) rfl dX11_count_88 rfl ?_
    refine lv_topi (fun v13 ev13 => ?_)
    have jv13 := hI.rd b12 1 tb12 ev13 (rfl : h_bd 3 1 = (0, 1))
    refine lv_if_eq (tgt := 98) hx hb dX11_count_91 (by decide) (fun c14 => ?_) (fun c14 => ?_)
    · have ic14 := (xi_eq c14 rfl (by decide) : v13.toInt = 0)
      refine lv_iconst (v := 0) hx hb dX11_count_98 (by decide) ?_
      exact W.iret (v := 0) hx hb hr (fun t ht hW => ⟨0, rfl, trivial, ht⟩) (fun _ h => by cases h) dX11_count_99
    · have ic14 := (xi_ne c14 rfl (by decide) : v13.toInt ≠ 0)
      refine lv_iconst (v := 1) hx hb dX11_count_94 (by decide) ?_
      refine lv_goto (tgt := 99) hx hb dX11_count_95 (by decide) ?_
      exact W.iret (v := 1) hx hb hr (fun t ht hW => ⟨1, rfl, trivial, ht⟩) (fun _ h => by cases h) dX11_count_99
  · refine lv_tableIn (off := 99) (tgt := 100) hx hb dX11_count_1 (by omega) (by omega) (by rw [show (x.toInt - 0).toNat = 6 by omega]; rfl) (by decide) ?_
    refine lv_aload_n hx hb dX11_count_100 rfl (lv_at hl 0 rfl) ?_
    obtain ⟨b15, rb15, tb15⟩ := hR.at a0 7 t_a0 (rfl : h_rs 12 7 = some (3, false)) (by decide)
    refine h_get (v := .ref b15) hx hb hts iX11 hown g t_a0 (by decide) so_12 rfl 7 (by decide) (hts (.fieldLink RX11 69 "CapLeague" "draft" "LCapLeague$Draft;") (by decide +kernel)) rfl dX11_count_101 (by show va_rf (z.R a0 7) = _; rw [rb15]; rfl) ?_
    refine lv_aload_n hx hb dX11_count_104 rfl (lv_at hl 0 rfl) ?_
    obtain ⟨b16, rb16, tb16⟩ := hR.at a0 3 t_a0 (rfl : h_rs 12 3 = some (1, false)) (by decide)
    refine h_get (v := .ref b16) hx hb hts iX11 hown g t_a0 (by decide) so_12 rfl 3 (by decide) (hts (.fieldLink RX11 37 "CapLeague" "books" "LCapLeague$Books;") (by decide +kernel)) rfl dX11_count_105 (by show va_rf (z.R a0 3) = _; rw [rb16]; rfl) ?_
    refine h_get (v := .int (I0 b16 3)) hx hb hts iX0 hown g tb16 (by decide) so_1 rfl 3 (by decide) (hts (.fieldLink RX11 142 "CapLeague$Books" "clock" "I") (by decide +kernel)) rfl dX11_count_108 rfl ?_
    refine lv_topi (fun v17 ev17 => ?_)
    have jv17 := hI.rd b16 3 tb16 ev17 (rfl : h_bd 1 3 = (0, 9))
    refine vp_callSi (W.runV (As := [.int v17]) (rest := []) ⟨hx, hb, hml, hown, hts⟩ (tX2_isDrawn l E X A z I0 L0 b15 tb15 v17 (v17.toInt) rfl) (cwV 1 hts gX11_count_X2_isDrawn rfl rfl rfl (by decide +kernel) ⟨Nat.le_of_ble_eq_true rfl, Nat.le_of_ble_eq_true rfl⟩) ⟨h_blind _ _ _ _ _ _ _, h_recv g tb15 (by decide) so_3 (q := (RX2, TX2, 7)) rfl, h_pre _ hE hk hX hA hI hR g⟩ rfl rfl hl.1 rfl (lv_room (Nat.le_of_ble_eq_true rfl)) dX11_count_111 ⟨Nat.le_of_ble_eq_true rfl, Nat.le_of_ble_eq_true rfl⟩) (fun rh18 h18 => ?_)
    refine lv_if_eq (tgt := 121) hx hb dX11_count_114 (by decide) (fun c19 => ?_) (fun c19 => ?_)
    · have ic19 := (xi_eq c19 rfl (by decide) : rh18.toInt = 0)
      refine lv_iconst (v := 0) hx hb dX11_count_121 (by decide) ?_
      exact W.iret (v := 0) hx hb hr (fun t ht hW => ⟨0, rfl, trivial, ht⟩) (fun _ h => by cases h) dX11_count_122
    · have ic19 := (xi_ne c19 rfl (by decide) : rh18.toInt ≠ 0)
      refine lv_iconst (v := 1) hx hb dX11_count_117 (by decide) ?_
      refine lv_goto (tgt := 122) hx hb dX11_count_118 (by decide) ?_
      exact W.iret (v := 1) hx hb hr (fun t ht hW => ⟨1, rfl, trivial, ht⟩) (fun _ h => by cases h) dX11_count_122

