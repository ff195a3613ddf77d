set_option maxHeartbeats 4000000 in
set_option maxRecDepth 100000 in
theorem tX11_purseB (l : Launch) (E : tE) (X : tX) (A : Nat → Prop) (z : tZ) (I0 : tI) (L0 : tL) (a0 : Nat) (t_a0 : z.ty a0 = 12) (c : Int32) (c_t : Int) (h_c : c.toInt = c_t) : Met l yX11_purse wsX11_purse ({ frames := 2, cells := 0, slots := 0, locals := 128 }) (va_Pc [.ref a0, .int c] (h_P E X A z I0 L0)) (vp_Si (fun r => ((¬ (0 ≤ c_t ∧ c_t ≤ 7) ∧ r.toInt = -2000000000) ∨ (0 ≤ c_t ∧ c_t ≤ 7 ∧ r = I0 (h_ad z (h_ad z a0 3) 6) c_t.toNat)))) 0 0 (fun _ => False) := by
  refine Met.ofW (cc := cX11_purse) (maxL := 2) (ret := (some .int)) (by decide) rfl ?_
  intro pr_ ev_ s m args below meth cd_ s₁ B hml hv
  obtain ⟨rfl, hE, hk, hX, hA, hK, hI, hR, hB0⟩ := hv
  have g : h_G h_so h_fk E A z I0 L0 s s.heap s.heap [] := ⟨hK, va_S.rf, hB0⟩
  have hx := B.exec
  have hb := B.bytes
  have hr := B.returns
  have hts := atoms_spec (ws := wsX11_purse) B.pre
  have hown : s.vm.findClass RX11 = some m.cls := findClass_of_methodNamed B.named
  have hlocks := B.notSynchronized
  have iX11 : ∀ w ∈ u_ws RX11 TX11 8, w ∈ wsX11_purse := by decide +kernel
  have iX0 : ∀ w ∈ u_ws RX0 TX0 9, w ∈ wsX11_purse := by decide +kernel
  have hl := lv_entry ([.ref a0, .int c]) (n := 2) (Nat.le_of_ble_eq_true rfl)
  rw [lg_entry_eq]
  generalize (lg_sl ([.ref a0, .int c]) ++ List.replicate (2 - (lg_sl ([.ref a0, .int c])).length) Slot.unset).toArray = ls at hl ⊢
  have hl : lv_has ls 2 [(0, .ref a0), (1, .int c)] := hl
  have b_c : -2147483648 ≤ c_t ∧ c_t ≤ 2147483647 := h_c ▸ ⟨xi_lo c, Int.le_of_lt_add_one (xi_hi c)⟩
  obtain ⟨bk, rbk, tbk⟩ := hR.at a0 3 t_a0 (rfl : h_rs 12 3 = some (1, false)) (by decide)
  have abk : h_ad z a0 3 = bk := h_ad.at rbk
  obtain ⟨fi, rfi, tfi⟩ := hR.at bk 6 tbk (rfl : h_rs 1 6 = some (106, false)) (by decide)
  have afi : h_ad z bk 6 = fi := h_ad.at rfi
  have qc : c.toInt = c_t := h_c
  refine lv_iload_n hx hb dX11_purse_0 rfl (lv_at hl 1 rfl) ?_
  refine vp_callSi (W.runS (As := [.int c]) (rest := []) ⟨hx, hb, hml, hown, hts⟩ (tX11_isClub l E X A z I0 L0 c (c_t) h_c) (va_cwS 1 hts gX11_purse_X11_isClub rfl rfl rfl (by decide +kernel) ⟨Nat.le_of_ble_eq_true rfl, Nat.le_of_ble_eq_true rfl⟩) ⟨h_blind _ _ _ _ _ _ _, h_pre _ hE hk hX hA hI hR g⟩ rfl rfl hl.1 rfl (lv_room (Nat.le_of_ble_eq_true rfl)) dX11_purse_1 ⟨Nat.le_of_ble_eq_true rfl, Nat.le_of_ble_eq_true rfl⟩) (fun rh1 h1 => ?_)
  rcases h1 with ⟨rfl, h1⟩ | ⟨rfl, h1⟩
  · skip
    refine lv_if_eq (tgt := 19) hx hb dX11_purse_4 (by decide) (fun _ => ?_) (fun h => absurd (by decide) h)
    refine lv_ldc (v := (-2000000000)) hx hb hown (hts (.constant RX11 232 (-2000000000)) (by decide +kernel)) dX11_purse_19 ?_
    exact W.iret (v := (-2000000000)) hx hb hr (fun t ht hW => ⟨(-2000000000), rfl, (by rw [abk, afi]; exact Or.inl ⟨by omega, by decide⟩), ht⟩) (fun _ h => by cases h) dX11_purse_21
  · skip
    refine lv_if_eq (tgt := 19) hx hb dX11_purse_4 (by decide) (fun h => absurd h (by decide)) (fun _ => ?_)
    refine lv_aload_n hx hb dX11_purse_7 rfl (lv_at hl 0 rfl) ?_
    refine h_get (v := .ref bk) hx hb hts iX11 hown g t_a0 (by decide) so_12 rfl 3 (by decide) (hts (.fieldLink RX11 37 "CapLeague" "books" "LCapLeague$Books;") (by decide +kernel)) rfl dX11_purse_8 (by show va_rf (z.R a0 3) = _; rw [rbk]; rfl) ?_
    refine h_get (v := .ref fi) hx hb hts iX0 hown g tbk (by decide) so_1 rfl 6 (by decide) (hts (.fieldLink RX11 297 "CapLeague$Books" "fines" "[I") (by decide +kernel)) rfl dX11_purse_11 (by show va_rf (z.R bk 6) = _; rw [rfi]; rfl) ?_
    refine lv_iload_n hx hb dX11_purse_14 rfl (lv_at hl 1 rfl) ?_
    refine h_ald hx hb g tfi (by decide) so_106 (xi_in (by rw [h_c]; omega) (by rw [h_c]; omega)) dX11_purse_15 ?_
    refine lv_topi (fun v4 ev4 => ?_)
    have jv4 := hI.rd fi c.toNatClampNeg tfi ev4 (rfl : h_bd 106 _ = ((-2147483648), 2147483647))
    refine lv_goto (tgt := 21) hx hb dX11_purse_16 (by decide) ?_
    exact W.iret (v := v4) hx hb hr (fun t ht hW => ⟨v4, rfl, (by rw [abk, afi]; exact Or.inr ⟨by omega, by omega, by rw [← h_keq (i := c) (t := c_t) (k := c_t.toNat) h_c (by omega) (by omega)]; exact ev4⟩), ht⟩) (fun _ h => by cases h) dX11_purse_21
set_option maxHeartbeats 4000000 in
set_option maxRecDepth 100000 in
theorem tX12_purseB (l : Launch) (E : tE) (X : tX) (A : Nat → Prop) (z : tZ) (I0 : tI) (L0 : tL) (a0 : Nat) (t_a0 : z.ty a0 = 13) (c : Int32) (c_t : Int) (h_c : c.toInt = c_t) : Met l yX12_purse wsX12_purse ({ frames := 3, cells := 0, slots := 0, locals := 192 }) (va_Pc [.ref a0, .int c] (h_P E X A z I0 L0)) (vp_Si (fun r => ((¬ (0 ≤ c_t ∧ c_t ≤ 7) ∧ r.toInt = -2000000000) ∨ (0 ≤ c_t ∧ c_t ≤ 7 ∧ r = I0 (h_ad z a0 49) c_t.toNat)))) 0 0 (fun _ => False) := by
  refine Met.ofW (cc := cX12_purse) (maxL := 2) (ret := (some .int)) (by decide) rfl ?_
  intro pr_ ev_ s m args below meth cd_ s₁ B hml hv
  obtain ⟨rfl, hE, hk, hX, hA, hK, hI, hR, hB0⟩ := hv
  have g : h_G h_so h_fk E A z I0 L0 s s.heap s.heap [] := ⟨hK, va_S.rf, hB0⟩
  have hx := B.exec
  have hb := B.bytes
  have hr := B.returns
  have hts := atoms_spec (ws := wsX12_purse) B.pre
  have hown : s.vm.findClass RX12 = some m.cls := findClass_of_methodNamed B.named
  have hlocks := B.notSynchronized
  have iX12 : ∀ w ∈ u_ws RX12 TX12 51, w ∈ wsX12_purse := by decide +kernel
  have hl := lv_entry ([.ref a0, .int c]) (n := 2) (Nat.le_of_ble_eq_true rfl)
  rw [lg_entry_eq]
  generalize (lg_sl ([.ref a0, .int c]) ++ List.replicate (2 - (lg_sl ([.ref a0, .int c])).length) Slot.unset).toArray = ls at hl ⊢
  have hl : lv_has ls 2 [(0, .ref a0), (1, .int c)] := hl
  have b_c : -2147483648 ≤ c_t ∧ c_t ≤ 2147483647 := h_c ▸ ⟨xi_lo c, Int.le_of_lt_add_one (xi_hi c)⟩
  obtain ⟨pu, rpu, tpu⟩ := hR.at a0 49 t_a0 (rfl : h_rs 13 49 = some (1349, false)) (by decide)
  have apu : h_ad z a0 49 = pu := h_ad.at rpu
  refine lv_iload_n hx hb dX12_purse_0 rfl (lv_at hl 1 rfl) ?_
  refine vp_callSi (W.runS (As := [.int c]) (rest := []) ⟨hx, hb, hml, hown, hts⟩ (tX12_isClub l E X A z I0 L0 c (c_t) h_c) (va_cwS 1 hts gX12_purse_X12_isClub rfl rfl rfl (by decide +kernel) ⟨Nat.le_of_ble_eq_true rfl, Nat.le_of_ble_eq_true rfl⟩) ⟨h_blind _ _ _ _ _ _ _, h_pre _ hE hk hX hA hI hR g⟩ rfl rfl hl.1 rfl (lv_room (Nat.le_of_ble_eq_true rfl)) dX12_purse_1 ⟨Nat.le_of_ble_eq_true rfl, Nat.le_of_ble_eq_true rfl⟩) (fun rh1 h1 => ?_)
  rcases h1 with ⟨rfl, h1⟩ | ⟨rfl, h1⟩
  · skip
    refine lv_if_eq (tgt := 16) hx hb dX12_purse_4 (by decide) (fun _ => ?_) (fun h => absurd (by decide) h)
    refine lv_ldcw (v := (-2000000000)) hx hb hown (hts (.constant RX12 277 (-2000000000)) (by decide +kernel)) dX12_purse_16 ?_
    exact W.iret (v := (-2000000000)) hx hb hr (fun t ht hW => ⟨(-2000000000), rfl, (by rw [apu]; exact Or.inl ⟨by omega, by decide⟩), ht⟩) (fun _ h => by cases h) dX12_purse_19
  · skip
    refine lv_if_eq (tgt := 16) hx hb dX12_purse_4 (by decide) (fun h => absurd h (by decide)) (fun _ => ?_)
    refine lv_aload_n hx hb dX12_purse_7 rfl (lv_at hl 0 rfl) ?_
    refine h_get (v := .ref pu) hx hb hts iX12 hown g t_a0 (by decide) so_13 rfl 49 (by decide) (hts (.fieldLink RX12 112 "CapLeagueModel" "purse" "[I") (by decide +kernel)) rfl dX12_purse_8 (by show va_rf (z.R a0 49) = _; rw [rpu]; rfl) ?_
    refine lv_iload_n hx hb dX12_purse_11 rfl (lv_at hl 1 rfl) ?_
    refine h_ald hx hb g tpu (by decide) so_1349 (xi_in (by rw [h_c]; omega) (by rw [h_c]; omega)) dX12_purse_12 ?_
    refine lv_topi (fun v4 ev4 => ?_)
    have jv4 := hI.rd pu c.toNatClampNeg tpu ev4 (rfl : h_bd 1349 _ = ((-2147483648), 2147483647))
    refine lv_goto (tgt := 19) hx hb dX12_purse_13 (by decide) ?_
    exact W.iret (v := v4) hx hb hr (fun t ht hW => ⟨v4, rfl, (by rw [apu]; exact Or.inr ⟨by omega, by omega, by rw [← h_keq (i := c) (t := c_t) (k := c_t.toNat) h_c (by omega) (by omega)]; exact ev4⟩), ht⟩) (fun _ h => by cases h) dX12_purse_19
set_option maxHeartbeats 4000000 in
set_option maxRecDepth 100000 in
theorem tX11_countB (l : Launch) (E : tE) (X : tX) (A : Nat → Prop) (z : tZ) (I0 : tI) (L0 : tL) (a0 : Nat) (t_a0 : z.ty a0 = 12) (x : Int32) (x_t : Int) (h_x : x.toInt = x_t) : Met l yX11_count wsX11_count ({ frames := 3, cells := 0, slots := 0, locals := 192 }) (va_Pc [.ref a0, .int x] (h_P E X A z I0 L0)) (vp_Si (fun r => ((x_t = 0 ∧ r = I0 (h_ad z a0 3) 3) ∨ (x_t = 1 ∧ r = I0 (h_ad z a0 3) 2) ∨ (x_t = 2 ∧ r = I0 (h_ad z a0 5) 3) ∨ (x_t = 3 ∧ r = I0 (h_ad z a0 3) 7) ∨ (x_t = 4 ∧ r = I0 (h_ad z a0 0) 1) ∨ (x_t = 5 ∧ r.toInt = (I0 (h_ad z a0 7) 1).toInt) ∨ (x_t = 6 ∧ r.toInt = ((I0 (h_ad z (h_ad z a0 7) 2) (I0 (h_ad z a0 3) 3).toInt.toNat)).toInt) ∨ ((x_t < 0 ∨ 6 < x_t) ∧ r.toInt = -1)))) 0 0 (fun _ => False) := by
  refine Met.ofW (cc := cX11_count) (maxL := 2) (ret := (some .int)) (by decide) rfl ?_
  intro pr_ ev_ s m args below meth cd_ s₁ B hml hv
  obtain ⟨rfl, hE, hk, hX, hA, hK, hI, hR, hB0⟩ := hv
  have g : h_G h_so h_fk E A z I0 L0 s s.heap s.heap [] := ⟨hK, va_S.rf, hB0⟩
  have hx := B.exec
  have hb := B.bytes
  have hr := B.returns
  have hts := atoms_spec (ws := wsX11_count) B.pre
  have hown : s.vm.findClass RX11 = some m.cls := findClass_of_methodNamed B.named
  have hlocks := B.notSynchronized
  have iX11 : ∀ w ∈ u_ws RX11 TX11 8, w ∈ wsX11_count := by decide +kernel
  have iX0 : ∀ w ∈ u_ws RX0 TX0 9, w ∈ wsX11_count := by decide +kernel
  have iX9 : ∀ w ∈ u_ws RX9 TX9 10, w ∈ wsX11_count := by decide +kernel
  have iX8 : ∀ w ∈ u_ws RX8 TX8 2, w ∈ wsX11_count := by decide +kernel
  have iX2 : ∀ w ∈ u_ws RX2 TX2 7, w ∈ wsX11_count := by decide +kernel
  have hl := lv_entry ([.ref a0, .int x]) (n := 2) (Nat.le_of_ble_eq_true rfl)
  rw [lg_entry_eq]
  generalize (lg_sl ([.ref a0, .int x]) ++ List.replicate (2 - (lg_sl ([.ref a0, .int x])).length) Slot.unset).toArray = ls at hl ⊢
  have hl : lv_has ls 2 [(0, .ref a0), (1, .int x)] := hl
  have b_x : -2147483648 ≤ x_t ∧ x_t ≤ 2147483647 := h_x ▸ ⟨xi_lo x, Int.le_of_lt_add_one (xi_hi x)⟩
  obtain ⟨tp, rtp, ttp⟩ := hR.at a0 0 t_a0 (rfl : h_rs 12 0 = some (9, false)) (by decide)
  have atp : h_ad z a0 0 = tp := h_ad.at rtp
  obtain ⟨bk, rbk, tbk⟩ := hR.at a0 3 t_a0 (rfl : h_rs 12 3 = some (1, false)) (by decide)
  have abk : h_ad z a0 3 = bk := h_ad.at rbk
  obtain ⟨bg, rbg, tbg⟩ := hR.at a0 5 t_a0 (rfl : h_rs 12 5 = some (10, false)) (by decide)
  have abg : h_ad z a0 5 = bg := h_ad.at rbg
  obtain ⟨dt, rdt, tdt⟩ := hR.at a0 7 t_a0 (rfl : h_rs 12 7 = some (3, false)) (by decide)
  have adt : h_ad z a0 7 = dt := h_ad.at rdt
  obtain ⟨dr, rdr, tdr⟩ := hR.at dt 2 tdt (rfl : h_rs 3 2 = some (302, false)) (by decide)
  have adr : h_ad z dt 2 = dr := h_ad.at rdr
  have qx : x.toInt = x_t := h_x
  obtain ⟨b3, eb3⟩ : ∃ v : Int32, v = I0 bk 3 := ⟨_, rfl⟩
  have qb3 : (I0 bk 3).toInt = b3.toInt := congrArg Int32.toInt eb3.symm
  have jb3 := hI.rd bk 3 tbk eb3 (rfl : h_bd 1 3 = (0, 9))
  obtain ⟨b2, eb2⟩ : ∃ v : Int32, v = I0 bk 2 := ⟨_, rfl⟩
  have qb2 : (I0 bk 2).toInt = b2.toInt := congrArg Int32.toInt eb2.symm
  have jb2 := hI.rd bk 2 tbk eb2 (rfl : h_bd 1 2 = (0, 60))
  obtain ⟨b7, eb7⟩ : ∃ v : Int32, v = I0 bk 7 := ⟨_, rfl⟩
  have qb7 : (I0 bk 7).toInt = b7.toInt := congrArg Int32.toInt eb7.symm
  have jb7 := hI.rd bk 7 tbk eb7 (rfl : h_bd 1 7 = ((-2147483648), 2147483647))
  obtain ⟨g3, eg3⟩ : ∃ v : Int32, v = I0 bg 3 := ⟨_, rfl⟩
  have qg3 : (I0 bg 3).toInt = g3.toInt := congrArg Int32.toInt eg3.symm
  have jg3 := hI.rd bg 3 tbg eg3 (rfl : h_bd 10 3 = (0, 12))
  obtain ⟨p1, ep1⟩ : ∃ v : Int32, v = I0 tp 1 := ⟨_, rfl⟩
  have qp1 : (I0 tp 1).toInt = p1.toInt := congrArg Int32.toInt ep1.symm
  have jp1 := hI.rd tp 1 ttp ep1 (rfl : h_bd 9 1 = (0, 500))
  obtain ⟨d1, ed1⟩ : ∃ v : Int32, v = I0 dt 1 := ⟨_, rfl⟩
  have qd1 : (I0 dt 1).toInt = d1.toInt := congrArg Int32.toInt ed1.symm
  have jd1 := hI.rd dt 1 tdt ed1 (rfl : h_bd 3 1 = (0, 1))
  refine lv_iload_n hx hb dX11_count_0 rfl (lv_at hl 1 rfl) ?_
  have qc1 : x.toInt = x_t := h_x
  rcases (show (x.toInt < 0 ∨ 6 < x.toInt) ∨ x.toInt = 0 ∨ x.toInt = 1 ∨ x.toInt = 2 ∨ x.toInt = 3 ∨ x.toInt = 4 ∨ x.toInt = 5 ∨ x.toInt = 6 by omega) with c1 | c1 | c1 | c1 | c1 | c1 | c1 | c1
  · refine lv_tableOut (tgt := 123) hx hb dX11_count_1 c1 (by decide) ?_
    refine lv_iconst (v := (-1)) hx hb dX11_count_123 (by decide) ?_
    exact W.iret (v := (-1)) hx hb hr (fun t ht hW => ⟨(-1), rfl, (by rw [abk, abg, atp, adt, adr, ← eb3, ← eb2, ← eb7, ← eg3, ← ep1, ← ed1]; exact Or.inr (Or.inr (Or.inr (Or.inr (Or.inr (Or.inr (Or.inr (⟨by omega, by decide⟩)))))))), ht⟩) (fun _ h => by cases h) dX11_count_124
  · refine lv_tableIn (off := 43) (tgt := 44) hx hb dX11_count_1 (by omega) (by omega) (by rw [show (x.toInt - 0).toNat = 0 by omega]; rfl) (by decide) ?_
    refine lv_aload_n hx hb dX11_count_44 rfl (lv_at hl 0 rfl) ?_
    refine h_get (v := .ref bk) hx hb hts iX11 hown g t_a0 (by decide) so_12 rfl 3 (by decide) (hts (.fieldLink RX11 37 "CapLeague" "books" "LCapLeague$Books;") (by decide +kernel)) rfl dX11_count_45 (by show va_rf (z.R a0 3) = _; rw [rbk]; rfl) ?_
    refine h_get (v := .int b3) hx hb hts iX0 hown g tbk (by decide) so_1 rfl 3 (by decide) (hts (.fieldLink RX11 142 "CapLeague$Books" "clock" "I") (by decide +kernel)) rfl dX11_count_48 (congrArg Value.int (eb3.symm)) ?_
    exact W.iret (v := b3) hx hb hr (fun t ht hW => ⟨b3, rfl, (by rw [abk, abg, atp, adt, adr, ← eb3, ← eb2, ← eb7, ← eg3, ← ep1, ← ed1]; exact Or.inl ⟨by omega, rfl⟩), ht⟩) (fun _ h => by cases h) dX11_count_51
  · refine lv_tableIn (off := 51) (tgt := 52) hx hb dX11_count_1 (by omega) (by omega) (by rw [show (x.toInt - 0).toNat = 1 by omega]; rfl) (by decide) ?_
    refine lv_aload_n hx hb dX11_count_52 rfl (lv_at hl 0 rfl) ?_
    refine h_get (v := .ref bk) hx hb hts iX11 hown g t_a0 (by decide) so_12 rfl 3 (by decide) (hts (.fieldLink RX11 37 "CapLeague" "books" "LCapLeague$Books;") (by decide +kernel)) rfl dX11_count_53 (by show va_rf (z.R a0 3) = _; rw [rbk]; rfl) ?_
    refine h_get (v := .int b2) hx hb hts iX0 hown g tbk (by decide) so_1 rfl 2 (by decide) (hts (.fieldLink RX11 300 "CapLeague$Books" "size" "I") (by decide +kernel)) rfl dX11_count_56 (congrArg Value.int (eb2.symm)) ?_
    exact W.iret (v := b2) hx hb hr (fun t ht hW => ⟨b2, rfl, (by rw [abk, abg, atp, adt, adr, ← eb3, ← eb2, ← eb7, ← eg3, ← ep1, ← ed1]; exact Or.inr (Or.inl ⟨by omega, rfl⟩)), ht⟩) (fun _ h => by cases h) dX11_count_59
  · refine lv_tableIn (off := 59) (tgt := 60) hx hb dX11_count_1 (by omega) (by omega) (by rw [show (x.toInt - 0).toNat = 2 by omega]; rfl) (by decide) ?_
    refine lv_aload_n hx hb dX11_count_60 rfl (lv_at hl 0 rfl) ?_
    refine h_get (v := .ref bg) hx hb hts iX11 hown g t_a0 (by decide) so_12 rfl 5 (by decide) (hts (.fieldLink RX11 53 "CapLeague" "bargain" "LCapLeague$Trade;") (by decide +kernel)) rfl dX11_count_61 (by show va_rf (z.R a0 5) = _; rw [rbg]; rfl) ?_
    refine h_get (v := .int g3) hx hb hts iX9 hown g tbg (by decide) so_10 rfl 3 (by decide) (hts (.fieldLink RX11 301 "CapLeague$Trade" "size" "I") (by decide +kernel)) rfl dX11_count_64 (congrArg Value.int (eg3.symm)) ?_
    exact W.iret (v := g3) hx hb hr (fun t ht hW => ⟨g3, rfl, (by rw [abk, abg, atp, adt, adr, ← eb3, ← eb2, ← eb7, ← eg3, ← ep1, ← ed1]; exact Or.inr (Or.inr (Or.inl ⟨by omega, rfl⟩))), ht⟩) (fun _ h => by cases h) dX11_count_67
  · refine lv_tableIn (off := 67) (tgt := 68) hx hb dX11_count_1 (by omega) (by omega) (by rw [show (x.toInt - 0).toNat = 3 by omega]; rfl) (by decide) ?_
    refine lv_aload_n hx hb dX11_count_68 rfl (lv_at hl 0 rfl) ?_
    refine h_get (v := .ref bk) hx hb hts iX11 hown g t_a0 (by decide) so_12 rfl 3 (by decide) (hts (.fieldLink RX11 37 "CapLeague" "books" "LCapLeague$Books;") (by decide +kernel)) rfl dX11_count_69 (by show va_rf (z.R a0 3) = _; rw [rbk]; rfl) ?_
    refine h_get (v := .int b7) hx hb hts iX0 hown g tbk (by decide) so_1 rfl 7 (by decide) (hts (.fieldLink RX11 302 "CapLeague$Books" "leftOver" "I") (by decide +kernel)) rfl dX11_count_72 (congrArg Value.int (eb7.symm)) ?_
    exact W.iret (v := b7) hx hb hr (fun t ht hW => ⟨b7, rfl, (by rw [abk, abg, atp, adt, adr, ← eb3, ← eb2, ← eb7, ← eg3, ← ep1, ← ed1]; exact Or.inr (Or.inr (Or.inr (Or.inl ⟨by omega, rfl⟩)))), ht⟩) (fun _ h => by cases h) dX11_count_75
  · refine lv_tableIn (off := 75) (tgt := 76) hx hb dX11_count_1 (by omega) (by omega) (by rw [show (x.toInt - 0).toNat = 4 by omega]; rfl) (by decide) ?_
    refine lv_aload_n hx hb dX11_count_76 rfl (lv_at hl 0 rfl) ?_
    refine h_get (v := .ref tp) hx hb hts iX11 hown g t_a0 (by decide) so_12 rfl 0 (by decide) (hts (.fieldLink RX11 10 "CapLeague" "tape" "LCapLeague$Tape;") (by decide +kernel)) rfl dX11_count_77 (by show va_rf (z.R a0 0) = _; rw [rtp]; rfl) ?_
    refine h_get (v := .int p1) hx hb hts iX8 hown g ttp (by decide) so_9 rfl 1 (by decide) (hts (.fieldLink RX11 81 "CapLeague$Tape" "size" "I") (by decide +kernel)) rfl dX11_count_80 (congrArg Value.int (ep1.symm)) ?_
    exact W.iret (v := p1) hx hb hr (fun t ht hW => ⟨p1, rfl, (by rw [abk, abg, atp, adt, adr, ← eb3, ← eb2, ← eb7, ← eg3, ← ep1, ← ed1]; exact Or.inr (Or.inr (Or.inr (Or.inr (Or.inl ⟨by omega, rfl⟩))))), ht⟩) (fun _ h => by cases h) dX11_count_83
  · refine lv_tableIn (off := 83) (tgt := 84) hx hb dX11_count_1 (by omega) (by omega) (by rw [show (x.toInt - 0).toNat = 5 by omega]; rfl) (by decide) ?_
    refine lv_aload_n hx hb dX11_count_84 rfl (lv_at hl 0 rfl) ?_
    refine h_get (v := .ref dt) hx hb hts iX11 hown g t_a0 (by decide) so_12 rfl 7 (by decide) (hts (.fieldLink RX11 69 "CapLeague" "draft" "LCapLeague$Draft;") (by decide +kernel)) rfl dX11_count_85 (by show va_rf (z.R a0 7) = _; rw [rdt]; rfl) ?_
    refine h_get (v := .int d1) hx hb hts iX2 hown g tdt (by decide) so_3 rfl 1 (by decide) (hts (.fieldLink RX11 257 "CapLeague$Draft" "tableTold" "Z") (by decide +kernel)) rfl dX11_count_88 (congrArg Value.int (ed1.symm)) ?_
    refine lv_if_eq (tgt := 98) hx hb dX11_count_91 (by decide) (fun c2 => ?_) (fun c2 => ?_)
    · have ic2 := (xi_eq c2 rfl (by decide) : d1.toInt = 0)
      refine lv_iconst (v := 0) hx hb dX11_count_98 (by decide) ?_
      exact W.iret (v := 0) hx hb hr (fun t ht hW => ⟨0, rfl, (by rw [abk, abg, atp, adt, adr, ← eb3, ← eb2, ← eb7, ← eg3, ← ep1, ← ed1]; exact Or.inr (Or.inr (Or.inr (Or.inr (Or.inr (Or.inl ⟨by omega, by have z9 : (0 : Int32).toInt = 0 := (by decide); omega⟩)))))), ht⟩) (fun _ h => by cases h) dX11_count_99
    · have ic2 := (xi_ne c2 rfl (by decide) : d1.toInt ≠ 0)
      refine lv_iconst (v := 1) hx hb dX11_count_94 (by decide) ?_
      refine lv_goto (tgt := 99) hx hb dX11_count_95 (by decide) ?_
      exact W.iret (v := 1) hx hb hr (fun t ht hW => ⟨1, rfl, (by rw [abk, abg, atp, adt, adr, ← eb3, ← eb2, ← eb7, ← eg3, ← ep1, ← ed1]; exact Or.inr (Or.inr (Or.inr (Or.inr (Or.inr (Or.inl ⟨by omega, by have z9 : (1 : Int32).toInt = 1 := (by decide); omega⟩)))))), ht⟩) (fun _ h => by cases h) dX11_count_99
  · refine lv_tableIn (off := 99) (tgt := 100) hx hb dX11_count_1 (by omega) (by omega) (by rw [show (x.toInt - 0).toNat = 6 by omega]; rfl) (by decide) ?_
    refine lv_aload_n hx hb dX11_count_100 rfl (lv_at hl 0 rfl) ?_
    refine h_get (v := .ref dt) hx hb hts iX11 hown g t_a0 (by decide) so_12 rfl 7 (by decide) (hts (.fieldLink RX11 69 "CapLeague" "draft" "LCapLeague$Draft;") (by decide +kernel)) rfl dX11_count_101 (by show va_rf (z.R a0 7) = _; rw [rdt]; rfl) ?_
    refine lv_aload_n hx hb dX11_count_104 rfl (lv_at hl 0 rfl) ?_
    refine h_get (v := .ref bk) hx hb hts iX11 hown g t_a0 (by decide) so_12 rfl 3 (by decide) (hts (.fieldLink RX11 37 "CapLeague" "books" "LCapLeague$Books;") (by decide +kernel)) rfl dX11_count_105 (by show va_rf (z.R a0 3) = _; rw [rbk]; rfl) ?_
    refine h_get (v := .int b3) hx hb hts iX0 hown g tbk (by decide) so_1 rfl 3 (by decide) (hts (.fieldLink RX11 142 "CapLeague$Books" "clock" "I") (by decide +kernel)) rfl dX11_count_108 (congrArg Value.int (eb3.symm)) ?_
    refine vp_callSi (W.runV (As := [.int b3]) (rest := []) ⟨hx, hb, hml, hown, hts⟩ (tX2_isDrawnF l E X A z I0 L0 dt tdt b3 (b3.toInt) rfl) (cwV 1 hts gX11_count_X2_isDrawn rfl rfl rfl (by decide +kernel) ⟨Nat.le_of_ble_eq_true rfl, Nat.le_of_ble_eq_true rfl⟩) ⟨h_blind _ _ _ _ _ _ _, h_recv g tdt (by decide) so_3 (q := (RX2, TX2, 7)) rfl, h_pre _ hE hk hX hA hI hR g⟩ rfl rfl hl.1 rfl (lv_room (Nat.le_of_ble_eq_true rfl)) dX11_count_111 ⟨Nat.le_of_ble_eq_true rfl, Nat.le_of_ble_eq_true rfl⟩) (fun rh3 h3 => ?_)
    obtain ⟨h3, h3p0⟩ := h3
    rw [adr] at h3p0
    refine lv_if_eq (tgt := 121) hx hb dX11_count_114 (by decide) (fun c4 => ?_) (fun c4 => ?_)
    · have ic4 := (xi_eq c4 rfl (by decide) : rh3.toInt = 0)
      refine lv_iconst (v := 0) hx hb dX11_count_121 (by decide) ?_
      exact W.iret (v := 0) hx hb hr (fun t ht hW => ⟨0, rfl, (by rw [abk, abg, atp, adt, adr, ← eb3, ← eb2, ← eb7, ← eg3, ← ep1, ← ed1]; exact Or.inr (Or.inr (Or.inr (Or.inr (Or.inr (Or.inr (Or.inl ⟨by omega, by have z9 : (0 : Int32).toInt = 0 := (by decide); omega⟩))))))), ht⟩) (fun _ h => by cases h) dX11_count_122
    · have ic4 := (xi_ne c4 rfl (by decide) : rh3.toInt ≠ 0)
      refine lv_iconst (v := 1) hx hb dX11_count_117 (by decide) ?_
      refine lv_goto (tgt := 122) hx hb dX11_count_118 (by decide) ?_
      exact W.iret (v := 1) hx hb hr (fun t ht hW => ⟨1, rfl, (by rw [abk, abg, atp, adt, adr, ← eb3, ← eb2, ← eb7, ← eg3, ← ep1, ← ed1]; exact Or.inr (Or.inr (Or.inr (Or.inr (Or.inr (Or.inr (Or.inl ⟨by omega, by have z9 : (1 : Int32).toInt = 1 := (by decide); omega⟩))))))), ht⟩) (fun _ h => by cases h) dX11_count_122
set_option maxHeartbeats 4000000 in
set_option maxRecDepth 100000 in
theorem tX12_countB (l : Launch) (E : tE) (X : tX) (A : Nat → Prop) (z : tZ) (I0 : tI) (L0 : tL) (a0 : Nat) (t_a0 : z.ty a0 = 13) (x : Int32) (x_t : Int) (h_x : x.toInt = x_t) : Met l yX12_count wsX12_count ({ frames := 1, cells := 0, slots := 0, locals := 64 }) (va_Pc [.ref a0, .int x] (h_P E X A z I0 L0)) (vp_Si (fun r => ((x_t = 0 ∧ r = I0 a0 12) ∨ (x_t = 1 ∧ r = I0 a0 13) ∨ (x_t = 2 ∧ r = I0 a0 33) ∨ (x_t = 3 ∧ r = I0 a0 50) ∨ (x_t = 4 ∧ r = I0 a0 1) ∨ (x_t = 5 ∧ r.toInt = (I0 a0 30).toInt) ∨ (x_t = 6 ∧ r.toInt = (I0 a0 31).toInt) ∨ ((x_t < 0 ∨ 6 < x_t) ∧ r.toInt = -1)))) 0 0 (fun _ => False) := by
  refine Met.ofW (cc := cX12_count) (maxL := 2) (ret := (some .int)) (by decide) rfl ?_
  intro pr_ ev_ s m args below meth cd_ s₁ B hml hv
  obtain ⟨rfl, hE, hk, hX, hA, hK, hI, hR, hB0⟩ := hv
  have g : h_G h_so h_fk E A z I0 L0 s s.heap s.heap [] := ⟨hK, va_S.rf, hB0⟩
  have hx := B.exec
  have hb := B.bytes
  have hr := B.returns
  have hts := atoms_spec (ws := wsX12_count) B.pre
  have hown : s.vm.findClass RX12 = some m.cls := findClass_of_methodNamed B.named
  have hlocks := B.notSynchronized
  have iX12 : ∀ w ∈ u_ws RX12 TX12 51, w ∈ wsX12_count := by decide +kernel
  have hl := lv_entry ([.ref a0, .int x]) (n := 2) (Nat.le_of_ble_eq_true rfl)
  rw [lg_entry_eq]
  generalize (lg_sl ([.ref a0, .int x]) ++ List.replicate (2 - (lg_sl ([.ref a0, .int x])).length) Slot.unset).toArray = ls at hl ⊢
  have hl : lv_has ls 2 [(0, .ref a0), (1, .int x)] := hl
  have b_x : -2147483648 ≤ x_t ∧ x_t ≤ 2147483647 := h_x ▸ ⟨xi_lo x, Int.le_of_lt_add_one (xi_hi x)⟩
  obtain ⟨f0_12, ef0_12⟩ : ∃ v : Int32, v = I0 a0 12 := ⟨_, rfl⟩
  have qf0_12 : (I0 a0 12).toInt = f0_12.toInt := congrArg Int32.toInt ef0_12.symm
  have jf0_12 := hI.rd a0 12 t_a0 ef0_12 (rfl : h_bd 13 12 = (0, 9))
  obtain ⟨f0_13, ef0_13⟩ : ∃ v : Int32, v = I0 a0 13 := ⟨_, rfl⟩
  have qf0_13 : (I0 a0 13).toInt = f0_13.toInt := congrArg Int32.toInt ef0_13.symm
  have jf0_13 := hI.rd a0 13 t_a0 ef0_13 (rfl : h_bd 13 13 = (0, 60))
  obtain ⟨f0_33, ef0_33⟩ : ∃ v : Int32, v = I0 a0 33 := ⟨_, rfl⟩
  have qf0_33 : (I0 a0 33).toInt = f0_33.toInt := congrArg Int32.toInt ef0_33.symm
  have jf0_33 := hI.rd a0 33 t_a0 ef0_33 (rfl : h_bd 13 33 = (0, 12))
  obtain ⟨f0_50, ef0_50⟩ : ∃ v : Int32, v = I0 a0 50 := ⟨_, rfl⟩
  have qf0_50 : (I0 a0 50).toInt = f0_50.toInt := congrArg Int32.toInt ef0_50.symm
  have jf0_50 := hI.rd a0 50 t_a0 ef0_50 (rfl : h_bd 13 50 = ((-2147483648), 2147483647))
  obtain ⟨f0_1, ef0_1⟩ : ∃ v : Int32, v = I0 a0 1 := ⟨_, rfl⟩
  have qf0_1 : (I0 a0 1).toInt = f0_1.toInt := congrArg Int32.toInt ef0_1.symm
  have jf0_1 := hI.rd a0 1 t_a0 ef0_1 (rfl : h_bd 13 1 = (0, 500))
  obtain ⟨f0_30, ef0_30⟩ : ∃ v : Int32, v = I0 a0 30 := ⟨_, rfl⟩
  have qf0_30 : (I0 a0 30).toInt = f0_30.toInt := congrArg Int32.toInt ef0_30.symm
  have jf0_30 := hI.rd a0 30 t_a0 ef0_30 (rfl : h_bd 13 30 = (0, 1))
  obtain ⟨f0_31, ef0_31⟩ : ∃ v : Int32, v = I0 a0 31 := ⟨_, rfl⟩
  have qf0_31 : (I0 a0 31).toInt = f0_31.toInt := congrArg Int32.toInt ef0_31.symm
  have jf0_31 := hI.rd a0 31 t_a0 ef0_31 (rfl : h_bd 13 31 = (0, 1))
  have qx : x.toInt = x_t := h_x
  refine lv_iload_n hx hb dX12_count_0 rfl (lv_at hl 1 rfl) ?_
  have qc1 : x.toInt = x_t := h_x
  rcases (show (x.toInt < 0 ∨ 6 < x.toInt) ∨ x.toInt = 0 ∨ x.toInt = 1 ∨ x.toInt = 2 ∨ x.toInt = 3 ∨ x.toInt = 4 ∨ x.toInt = 5 ∨ x.toInt = 6 by omega) with c1 | c1 | c1 | c1 | c1 | c1 | c1 | c1
  · refine lv_tableOut (tgt := 95) hx hb dX12_count_1 c1 (by decide) ?_
    refine lv_iconst (v := (-1)) hx hb dX12_count_95 (by decide) ?_
    exact W.iret (v := (-1)) hx hb hr (fun t ht hW => ⟨(-1), rfl, (by rw [← ef0_12, ← ef0_13, ← ef0_33, ← ef0_50, ← ef0_1, ← ef0_30, ← ef0_31]; exact Or.inr (Or.inr (Or.inr (Or.inr (Or.inr (Or.inr (Or.inr (⟨by omega, by decide⟩)))))))), ht⟩) (fun _ h => by cases h) dX12_count_96
  · refine lv_tableIn (off := 43) (tgt := 44) hx hb dX12_count_1 (by omega) (by omega) (by rw [show (x.toInt - 0).toNat = 0 by omega]; rfl) (by decide) ?_
    refine lv_aload_n hx hb dX12_count_44 rfl (lv_at hl 0 rfl) ?_
    refine h_get (v := .int f0_12) hx hb hts iX12 hown g t_a0 (by decide) so_13 rfl 12 (by decide) (hts (.fieldLink RX12 187 "CapLeagueModel" "clock" "I") (by decide +kernel)) rfl dX12_count_45 (congrArg Value.int (ef0_12.symm)) ?_
    exact W.iret (v := f0_12) hx hb hr (fun t ht hW => ⟨f0_12, rfl, (by rw [← ef0_12, ← ef0_13, ← ef0_33, ← ef0_50, ← ef0_1, ← ef0_30, ← ef0_31]; exact Or.inl ⟨by omega, rfl⟩), ht⟩) (fun _ h => by cases h) dX12_count_48
  · refine lv_tableIn (off := 48) (tgt := 49) hx hb dX12_count_1 (by omega) (by omega) (by rw [show (x.toInt - 0).toNat = 1 by omega]; rfl) (by decide) ?_
    refine lv_aload_n hx hb dX12_count_49 rfl (lv_at hl 0 rfl) ?_
    refine h_get (v := .int f0_13) hx hb hts iX12 hown g t_a0 (by decide) so_13 rfl 13 (by decide) (hts (.fieldLink RX12 202 "CapLeagueModel" "players" "I") (by decide +kernel)) rfl dX12_count_50 (congrArg Value.int (ef0_13.symm)) ?_
    exact W.iret (v := f0_13) hx hb hr (fun t ht hW => ⟨f0_13, rfl, (by rw [← ef0_12, ← ef0_13, ← ef0_33, ← ef0_50, ← ef0_1, ← ef0_30, ← ef0_31]; exact Or.inr (Or.inl ⟨by omega, rfl⟩)), ht⟩) (fun _ h => by cases h) dX12_count_53
  · refine lv_tableIn (off := 53) (tgt := 54) hx hb dX12_count_1 (by omega) (by omega) (by rw [show (x.toInt - 0).toNat = 2 by omega]; rfl) (by decide) ?_
    refine lv_aload_n hx hb dX12_count_54 rfl (lv_at hl 0 rfl) ?_
    refine h_get (v := .int f0_33) hx hb hts iX12 hown g t_a0 (by decide) so_13 rfl 33 (by decide) (hts (.fieldLink RX12 247 "CapLeagueModel" "moves" "I") (by decide +kernel)) rfl dX12_count_55 (congrArg Value.int (ef0_33.symm)) ?_
    exact W.iret (v := f0_33) hx hb hr (fun t ht hW => ⟨f0_33, rfl, (by rw [← ef0_12, ← ef0_13, ← ef0_33, ← ef0_50, ← ef0_1, ← ef0_30, ← ef0_31]; exact Or.inr (Or.inr (Or.inl ⟨by omega, rfl⟩))), ht⟩) (fun _ h => by cases h) dX12_count_58
  · refine lv_tableIn (off := 58) (tgt := 59) hx hb dX12_count_1 (by omega) (by omega) (by rw [show (x.toInt - 0).toNat = 3 by omega]; rfl) (by decide) ?_
    refine lv_aload_n hx hb dX12_count_59 rfl (lv_at hl 0 rfl) ?_
    refine h_get (v := .int f0_50) hx hb hts iX12 hown g t_a0 (by decide) so_13 rfl 50 (by decide) (hts (.fieldLink RX12 329 "CapLeagueModel" "league" "I") (by decide +kernel)) rfl dX12_count_60 (congrArg Value.int (ef0_50.symm)) ?_
    exact W.iret (v := f0_50) hx hb hr (fun t ht hW => ⟨f0_50, rfl, (by rw [← ef0_12, ← ef0_13, ← ef0_33, ← ef0_50, ← ef0_1, ← ef0_30, ← ef0_31]; exact Or.inr (Or.inr (Or.inr (Or.inl ⟨by omega, rfl⟩)))), ht⟩) (fun _ h => by cases h) dX12_count_63
  · refine lv_tableIn (off := 63) (tgt := 64) hx hb dX12_count_1 (by omega) (by omega) (by rw [show (x.toInt - 0).toNat = 4 by omega]; rfl) (by decide) ?_
    refine lv_aload_n hx hb dX12_count_64 rfl (lv_at hl 0 rfl) ?_
    refine h_get (v := .int f0_1) hx hb hts iX12 hown g t_a0 (by decide) so_13 rfl 1 (by decide) (hts (.fieldLink RX12 119 "CapLeagueModel" "taped" "I") (by decide +kernel)) rfl dX12_count_65 (congrArg Value.int (ef0_1.symm)) ?_
    exact W.iret (v := f0_1) hx hb hr (fun t ht hW => ⟨f0_1, rfl, (by rw [← ef0_12, ← ef0_13, ← ef0_33, ← ef0_50, ← ef0_1, ← ef0_30, ← ef0_31]; exact Or.inr (Or.inr (Or.inr (Or.inr (Or.inl ⟨by omega, rfl⟩))))), ht⟩) (fun _ h => by cases h) dX12_count_68
  · refine lv_tableIn (off := 68) (tgt := 69) hx hb dX12_count_1 (by omega) (by omega) (by rw [show (x.toInt - 0).toNat = 5 by omega]; rfl) (by decide) ?_
    refine lv_aload_n hx hb dX12_count_69 rfl (lv_at hl 0 rfl) ?_
    refine h_get (v := .int f0_30) hx hb hts iX12 hown g t_a0 (by decide) so_13 rfl 30 (by decide) (hts (.fieldLink RX12 306 "CapLeagueModel" "hasTable" "Z") (by decide +kernel)) rfl dX12_count_70 (congrArg Value.int (ef0_30.symm)) ?_
    refine lv_if_eq (tgt := 80) hx hb dX12_count_73 (by decide) (fun c2 => ?_) (fun c2 => ?_)
    · have ic2 := (xi_eq c2 rfl (by decide) : f0_30.toInt = 0)
      refine lv_iconst (v := 0) hx hb dX12_count_80 (by decide) ?_
      exact W.iret (v := 0) hx hb hr (fun t ht hW => ⟨0, rfl, (by rw [← ef0_12, ← ef0_13, ← ef0_33, ← ef0_50, ← ef0_1, ← ef0_30, ← ef0_31]; exact Or.inr (Or.inr (Or.inr (Or.inr (Or.inr (Or.inl ⟨by omega, by have z9 : (0 : Int32).toInt = 0 := (by decide); omega⟩)))))), ht⟩) (fun _ h => by cases h) dX12_count_81
    · have ic2 := (xi_ne c2 rfl (by decide) : f0_30.toInt ≠ 0)
      refine lv_iconst (v := 1) hx hb dX12_count_76 (by decide) ?_
      refine lv_goto (tgt := 81) hx hb dX12_count_77 (by decide) ?_
      exact W.iret (v := 1) hx hb hr (fun t ht hW => ⟨1, rfl, (by rw [← ef0_12, ← ef0_13, ← ef0_33, ← ef0_50, ← ef0_1, ← ef0_30, ← ef0_31]; exact Or.inr (Or.inr (Or.inr (Or.inr (Or.inr (Or.inl ⟨by omega, by have z9 : (1 : Int32).toInt = 1 := (by decide); omega⟩)))))), ht⟩) (fun _ h => by cases h) dX12_count_81
  · refine lv_tableIn (off := 81) (tgt := 82) hx hb dX12_count_1 (by omega) (by omega) (by rw [show (x.toInt - 0).toNat = 6 by omega]; rfl) (by decide) ?_
    refine lv_aload_n hx hb dX12_count_82 rfl (lv_at hl 0 rfl) ?_
    refine h_get (v := .int f0_31) hx hb hts iX12 hown g t_a0 (by decide) so_13 rfl 31 (by decide) (hts (.fieldLink RX12 264 "CapLeagueModel" "isDrawn" "Z") (by decide +kernel)) rfl dX12_count_83 (congrArg Value.int (ef0_31.symm)) ?_
    refine lv_if_eq (tgt := 93) hx hb dX12_count_86 (by decide) (fun c3 => ?_) (fun c3 => ?_)
    · have ic3 := (xi_eq c3 rfl (by decide) : f0_31.toInt = 0)
      refine lv_iconst (v := 0) hx hb dX12_count_93 (by decide) ?_
      exact W.iret (v := 0) hx hb hr (fun t ht hW => ⟨0, rfl, (by rw [← ef0_12, ← ef0_13, ← ef0_33, ← ef0_50, ← ef0_1, ← ef0_30, ← ef0_31]; exact Or.inr (Or.inr (Or.inr (Or.inr (Or.inr (Or.inr (Or.inl ⟨by omega, by have z9 : (0 : Int32).toInt = 0 := (by decide); omega⟩))))))), ht⟩) (fun _ h => by cases h) dX12_count_94
    · have ic3 := (xi_ne c3 rfl (by decide) : f0_31.toInt ≠ 0)
      refine lv_iconst (v := 1) hx hb dX12_count_89 (by decide) ?_
      refine lv_goto (tgt := 94) hx hb dX12_count_90 (by decide) ?_
      exact W.iret (v := 1) hx hb hr (fun t ht hW => ⟨1, rfl, (by rw [← ef0_12, ← ef0_13, ← ef0_33, ← ef0_50, ← ef0_1, ← ef0_30, ← ef0_31]; exact Or.inr (Or.inr (Or.inr (Or.inr (Or.inr (Or.inr (Or.inl ⟨by omega, by have z9 : (1 : Int32).toInt = 1 := (by decide); omega⟩))))))), ht⟩) (fun _ h => by cases h) dX12_count_94

