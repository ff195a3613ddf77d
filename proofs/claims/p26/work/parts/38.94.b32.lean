set_option maxHeartbeats 4000000 in
set_option maxRecDepth 100000 in
theorem tX12_commonB (l : Launch) (E : tE) (X : tX) (A : Nat → Prop) (z : tZ) (I0 : tI) (L0 : tL) (x : Int64) (x_t : Int) (h_x : x.toInt = x_t) (y : Int64) (y_t : Int) (h_y : y.toInt = y_t) (hne : (0 ≤ x_t ∧ 0 ≤ y_t) ∧ (x_t ≠ 0 ∨ y_t ≠ 0)) : Met l yX12_common wsX12_common ({ frames := 1, cells := 0, slots := 0, locals := 64 }) (va_Pc [.long x, .long y] (h_P E X A z I0 L0)) (vp_Sl (fun r => (0 < r.toInt) ∧ (r.toInt.natAbs = Int.gcd x_t y_t))) 0 0 (fun _ => False) := by
  refine Met.ofW (cc := cX12_common) (maxL := 10) (ret := (some .long)) (by decide) rfl ?_
  intro pr_ ev_ s m args below meth cd_ s₁ B hml hv
  obtain ⟨rfl, hE, hk, hX, hA, hK, hI, hR, hB0⟩ := hv
  have g : h_G h_so h_fk E A z I0 L0 s s.heap s.heap [] := ⟨hK, va_S.rf, hB0⟩
  have hx := B.exec
  have hb := B.bytes
  have hr := B.returns
  have hts := atoms_spec (ws := wsX12_common) B.pre
  have hown : s.vm.findClass RX12 = some m.cls := findClass_of_methodNamed B.named
  have hlocks := B.notSynchronized
  have hl := lv_entry ([.long x, .long y]) (n := 10) (Nat.le_of_ble_eq_true rfl)
  rw [lg_entry_eq]
  generalize (lg_sl ([.long x, .long y]) ++ List.replicate (10 - (lg_sl ([.long x, .long y])).length) Slot.unset).toArray = ls at hl ⊢
  have hl : lv_has ls 10 [(0, .long x), (2, .long y)] := hl
  refine lv_lload_n hx hb dX12_common_0 rfl (lv_at hl 0 rfl) ?_
  refine lv_lstore (lv' := [(4, .long x), (0, .long x), (2, .long y)]) hx hb dX12_common_1 hl (by decide) rfl (fun ls hl => ?_)
  refine lv_lload_n hx hb dX12_common_3 rfl (lv_at hl 2 rfl) ?_
  refine lv_lstore (lv' := [(6, .long y), (4, .long x), (0, .long x), (2, .long y)]) hx hb dX12_common_4 hl (by decide) rfl (fun ls hl => ?_)
  have loop6_0 : ∀ (n : Nat) (ls : Array Slot) (v1 v2 : Int64), lv_has ls 10 [(4, .long v1), (6, .long v2)] → (v1.toInt ≠ 0 ∨ v2.toInt ≠ 0) → (Int.gcd v1.toInt v2.toInt = Int.gcd x_t y_t) → (0 ≤ v1.toInt ∧ 0 ≤ v2.toInt) → ((v2.toInt.natAbs : Int)) < (n : Int) → W pr_ l ev_ (headSpec wsX12_common ({ frames := 1, cells := 0, slots := 0, locals := 64 })).room s m ([.long x, .long y] : List Value).toArray below meth cd_ s.heap [] 0 0 (MQ below (vp_Sl (fun r => (0 < r.toInt) ∧ (r.toInt.natAbs = Int.gcd x_t y_t))) ([.long x, .long y] : List Value).toArray s 0 0 (fun _ => False)) (F0 m 6 ls []) := by
    intro n
    induction n with
    | zero => intro ls v1 v2 hl hx6_0 hx6_1 hx6_2 hn; exact absurd hn (by omega)
    | succ n ih6 =>
      intro ls v1 v2 hl hx6_0 hx6_1 hx6_2 hn
      refine lv_lload hx hb dX12_common_6 (lv_at hl 1 rfl) ?_
      refine lv_lconst (v := 0) hx hb dX12_common_8 (by decide) ?_
      refine W.lcmp hx hb dX12_common_9 ?_
      refine lv_if_eq (tgt := 31) hx hb dX12_common_10 (by decide) (fun c3 => ?_) (fun c3 => ?_)
      · have ic3 : v2.toInt = (0 : Int64).toInt := xl_eq c3
        rw [show (0 : Int64).toInt = 0 by decide] at ic3
        refine lv_lload hx hb dX12_common_31 (lv_at hl 0 rfl) ?_
        exact W.lret (v := v1) hx hb hr (fun t ht hW => ⟨v1, rfl, ⟨(by omega), (by rw [← hx6_1, ic3]; exact (Int.gcd_zero_right _).symm)⟩, ht⟩) (fun _ h => by cases h) dX12_common_33
      · have ic3 : v2.toInt ≠ (0 : Int64).toInt := xl_ne c3
        rw [show (0 : Int64).toInt = 0 by decide] at ic3
        refine lv_lload hx hb dX12_common_13 (lv_at hl 0 rfl) ?_
        refine lv_lload hx hb dX12_common_15 (lv_at hl 1 rfl) ?_
        refine lv_lrem hx hb dX12_common_17 (h_lne0 (by omega)) ?_
        refine lv_topl (fun v4 ev4 => ?_)
        obtain ⟨dv4, dmv4⟩ := h_lgcd ev4 (by omega)
        have dtv4 := (h_lrem ev4 (by omega)).trans (Int.tmod_eq_emod_of_nonneg hx6_2.1)
        refine lv_lstore (lv' := [(8, .long v4), (4, .long v1), (6, .long v2)]) hx hb dX12_common_18 hl (by decide) rfl (fun ls hl => ?_)
        refine lv_lload hx hb dX12_common_20 (lv_at hl 2 rfl) ?_
        refine lv_lstore (lv' := [(4, .long v2), (8, .long v4), (6, .long v2)]) hx hb dX12_common_22 hl (by decide) rfl (fun ls hl => ?_)
        refine lv_lload hx hb dX12_common_24 (lv_at hl 1 rfl) ?_
        refine lv_lstore (lv' := [(6, .long v4), (4, .long v2), (8, .long v4)]) hx hb dX12_common_26 hl (by decide) rfl (fun ls hl => ?_)
        refine lv_goto (tgt := 6) hx hb dX12_common_28 (by decide) ?_
        exact ih6 _ (v2) (v4) (lv_sub hl [1, 0] rfl) (by omega) (dv4.trans hx6_1) (⟨by omega, by rw [dtv4]; exact Int.emod_nonneg _ (by omega)⟩) (by omega)
  exact loop6_0 _ _ (x) (y) (lv_sub hl [1, 0] rfl) (by omega) (by rw [h_x, h_y]) (by rw [h_x, h_y]; omega) (show ((y.toInt.natAbs : Int)) < ((((y.toInt.natAbs : Int)).toNat + 1 : Nat) : Int) by omega)
set_option maxHeartbeats 4000000 in
set_option maxRecDepth 100000 in
theorem tX12_chanceB (l : Launch) (E : tE) (X : tX) (A : Nat → Prop) (z : tZ) (I0 : tI) (L0 : tL) (a0 : Nat) (t_a0 : z.ty a0 = 13) (c : Int32) (c_t : Int) (h_c : c.toInt = c_t) (k : Int32) (k_t : Int) (h_k : k.toInt = k_t) (x : Int32) (x_t : Int) (h_x : x.toInt = x_t) (u_ : Nat → Int) (hrl : h_r12 (I0 (h_ad z a0 11)) (I0 (h_ad z a0 10)) (I0 a0 12).toInt u_) (hok : q_ok u_) (hex : (I0 a0 30).toInt = 1 → ∀ c : Int, 0 ≤ c → c ≤ 7 → ∃ j : Nat, j < 8 ∧ ((I0 (h_ad z a0 32)) j).toInt = c) : Met l yX12_chance wsX12_chance ({ frames := 5, cells := 0, slots := 0, locals := 320 }) (va_Pc [.ref a0, .int c, .int k, .int x] (h_P E X A z I0 L0)) (vp_Sl (fun r => ((¬ (0 ≤ c_t ∧ c_t ≤ 7 ∧ 0 ≤ k_t ∧ k_t ≤ 1 ∧ 0 ≤ x_t ∧ x_t ≤ 1) ∧ r.toInt = -2) ∨ ((0 ≤ c_t ∧ c_t ≤ 7 ∧ 0 ≤ k_t ∧ k_t ≤ 1 ∧ 0 ≤ x_t ∧ x_t ≤ 1) ∧ (I0 a0 30).toInt = 0 ∧ r.toInt = -4) ∨ ((0 ≤ c_t ∧ c_t ≤ 7 ∧ 0 ≤ k_t ∧ k_t ≤ 1 ∧ 0 ≤ x_t ∧ x_t ≤ 1) ∧ (I0 a0 30).toInt = 1 ∧ ∃ rk a b : Int, q_at1 (I0 (h_ad z a0 32)) c_t rk ∧ q_red (q_chN u_ rk k_t) (q_chD u_ rk k_t) a b ∧ ((x_t = 0 ∧ r.toInt = a) ∨ (x_t = 1 ∧ r.toInt = b)))))) 0 0 (fun _ => False) := by
  refine Met.ofW (cc := cX12_chance) (maxL := 19) (ret := (some .long)) (by decide) rfl ?_
  intro pr_ ev_ s m args below meth cd_ s₁ B hml hv
  obtain ⟨rfl, hE, hk, hX, hA, hK, hI, hR, hB0⟩ := hv
  have g : h_G h_so h_fk E A z I0 L0 s s.heap s.heap [] := ⟨hK, va_S.rf, hB0⟩
  have hx := B.exec
  have hb := B.bytes
  have hr := B.returns
  have hts := atoms_spec (ws := wsX12_chance) B.pre
  have hown : s.vm.findClass RX12 = some m.cls := findClass_of_methodNamed B.named
  have hlocks := B.notSynchronized
  have iX12 : ∀ w ∈ u_ws RX12 TX12 51, w ∈ wsX12_chance := by decide +kernel
  have hl := lv_entry ([.ref a0, .int c, .int k, .int x]) (n := 19) (Nat.le_of_ble_eq_true rfl)
  rw [lg_entry_eq]
  generalize (lg_sl ([.ref a0, .int c, .int k, .int x]) ++ List.replicate (19 - (lg_sl ([.ref a0, .int c, .int k, .int x])).length) Slot.unset).toArray = ls at hl ⊢
  have hl : lv_has ls 19 [(0, .ref a0), (1, .int c), (2, .int k), (3, .int x)] := hl
  have b_c : -2147483648 ≤ c_t ∧ c_t ≤ 2147483647 := h_c ▸ ⟨xi_lo c, Int.le_of_lt_add_one (xi_hi c)⟩
  have b_k : -2147483648 ≤ k_t ∧ k_t ≤ 2147483647 := h_k ▸ ⟨xi_lo k, Int.le_of_lt_add_one (xi_hi k)⟩
  have b_x : -2147483648 ≤ x_t ∧ x_t ≤ 2147483647 := h_x ▸ ⟨xi_lo x, Int.le_of_lt_add_one (xi_hi x)⟩
  obtain ⟨lw, rlw, tlw⟩ := hR.at a0 10 t_a0 (rfl : h_rs 13 10 = some (1310, false)) (by decide)
  have alw : h_ad z a0 10 = lw := h_ad.at rlw
  obtain ⟨hy, rhy, thy⟩ := hR.at a0 11 t_a0 (rfl : h_rs 13 11 = some (1311, false)) (by decide)
  have ahy : h_ad z a0 11 = hy := h_ad.at rhy
  obtain ⟨tb, rtb, ttb⟩ := hR.at a0 32 t_a0 (rfl : h_rs 13 32 = some (1332, false)) (by decide)
  have atb : h_ad z a0 32 = tb := h_ad.at rtb
  obtain ⟨f0_12, ef0_12⟩ : ∃ v : Int32, v = I0 a0 12 := ⟨_, rfl⟩
  have qf0_12 : (I0 a0 12).toInt = f0_12.toInt := congrArg Int32.toInt ef0_12.symm
  have jf0_12 := hI.rd a0 12 t_a0 ef0_12 (rfl : h_bd 13 12 = (0, 9))
  obtain ⟨f0_30, ef0_30⟩ : ∃ v : Int32, v = I0 a0 30 := ⟨_, rfl⟩
  have qf0_30 : (I0 a0 30).toInt = f0_30.toInt := congrArg Int32.toInt ef0_30.symm
  have jf0_30 := hI.rd a0 30 t_a0 ef0_30 (rfl : h_bd 13 30 = (0, 1))
  rw [atb, qf0_30] at hex
  have nb := q_nl_b hok
  refine lv_iload_n hx hb dX12_chance_0 rfl (lv_at hl 1 rfl) ?_
  refine vp_callSi (W.runS (As := [.int c]) (rest := []) ⟨hx, hb, hml, hown, hts⟩ (tX12_isClub l E X A z I0 L0 c (c_t) h_c) (va_cwS 1 hts gX12_chance_X12_isClub rfl rfl rfl (by decide +kernel) ⟨Nat.le_of_ble_eq_true rfl, Nat.le_of_ble_eq_true rfl⟩) ⟨h_blind _ _ _ _ _ _ _, h_pre _ hE hk hX hA hI hR g⟩ rfl rfl hl.1 rfl (lv_room (Nat.le_of_ble_eq_true rfl)) dX12_chance_1 ⟨Nat.le_of_ble_eq_true rfl, Nat.le_of_ble_eq_true rfl⟩) (fun rh1 h1 => ?_)
  rcases h1 with ⟨rfl, h1⟩ | ⟨rfl, h1⟩
  · skip
    refine lv_if_eq (tgt := 27) hx hb dX12_chance_4 (by decide) (fun _ => ?_) (fun h => absurd (by decide) h)
    refine lv_ldc2 (v := (-2)) hx hb hown (hts (.constantLong RX12 315 (-2)) (by decide +kernel)) dX12_chance_27 ?_
    exact W.lret (v := (-2)) hx hb hr (fun t ht hW => ⟨(-2), rfl, (by rw [atb, ← ef0_30]; exact Or.inl ⟨by omega, by decide⟩), ht⟩) (fun _ h => by cases h) dX12_chance_30
  · skip
    refine lv_if_eq (tgt := 27) hx hb dX12_chance_4 (by decide) (fun h => absurd h (by decide)) (fun _ => ?_)
    refine lv_iload_n hx hb dX12_chance_7 rfl (lv_at hl 2 rfl) ?_
    refine lv_i2l hx hb dX12_chance_8 rfl ?_
    refine lv_topl (fun v4 ev4 => ?_)
    have jv4 : v4.toInt = k_t := by rw [ev4, xi_64]; exact h_k
    refine lv_lconst (v := 0) hx hb dX12_chance_9 (by decide) ?_
    refine lv_lconst (v := 1) hx hb dX12_chance_10 (by decide) ?_
    refine vp_callSi (W.runS (As := [.long v4, .long 0, .long 1]) (rest := []) ⟨hx, hb, hml, hown, hts⟩ (tX12_in l E X A z I0 L0 v4 (k_t) jv4 0 (0) (by decide) 1 (1) (by decide)) (va_cwS 3 hts gX12_chance_X12_in rfl rfl rfl (by decide +kernel) ⟨Nat.le_of_ble_eq_true rfl, Nat.le_of_ble_eq_true rfl⟩) ⟨h_blind _ _ _ _ _ _ _, h_pre _ hE hk hX hA hI hR g⟩ rfl rfl hl.1 rfl (lv_room (Nat.le_of_ble_eq_true rfl)) dX12_chance_11 ⟨Nat.le_of_ble_eq_true rfl, Nat.le_of_ble_eq_true rfl⟩) (fun rh5 h5 => ?_)
    rcases h5 with ⟨rfl, h5⟩ | ⟨rfl, h5⟩
    · skip
      refine lv_if_eq (tgt := 27) hx hb dX12_chance_14 (by decide) (fun _ => ?_) (fun h => absurd (by decide) h)
      refine lv_ldc2 (v := (-2)) hx hb hown (hts (.constantLong RX12 315 (-2)) (by decide +kernel)) dX12_chance_27 ?_
      exact W.lret (v := (-2)) hx hb hr (fun t ht hW => ⟨(-2), rfl, (by rw [atb, ← ef0_30]; exact Or.inl ⟨by omega, by decide⟩), ht⟩) (fun _ h => by cases h) dX12_chance_30
    · skip
      refine lv_if_eq (tgt := 27) hx hb dX12_chance_14 (by decide) (fun h => absurd h (by decide)) (fun _ => ?_)
      refine lv_iload_n hx hb dX12_chance_17 rfl (lv_at hl 3 rfl) ?_
      refine lv_i2l hx hb dX12_chance_18 rfl ?_
      refine lv_topl (fun v8 ev8 => ?_)
      have jv8 : v8.toInt = x_t := by rw [ev8, xi_64]; exact h_x
      refine lv_lconst (v := 0) hx hb dX12_chance_19 (by decide) ?_
      refine lv_lconst (v := 1) hx hb dX12_chance_20 (by decide) ?_
      refine vp_callSi (W.runS (As := [.long v8, .long 0, .long 1]) (rest := []) ⟨hx, hb, hml, hown, hts⟩ (tX12_in l E X A z I0 L0 v8 (x_t) jv8 0 (0) (by decide) 1 (1) (by decide)) (va_cwS 3 hts gX12_chance_X12_in rfl rfl rfl (by decide +kernel) ⟨Nat.le_of_ble_eq_true rfl, Nat.le_of_ble_eq_true rfl⟩) ⟨h_blind _ _ _ _ _ _ _, h_pre _ hE hk hX hA hI hR g⟩ rfl rfl hl.1 rfl (lv_room (Nat.le_of_ble_eq_true rfl)) dX12_chance_21 ⟨Nat.le_of_ble_eq_true rfl, Nat.le_of_ble_eq_true rfl⟩) (fun rh9 h9 => ?_)
      rcases h9 with ⟨rfl, h9⟩ | ⟨rfl, h9⟩
      · skip
        refine lv_if_ne (tgt := 31) hx hb dX12_chance_24 (by decide) (fun h => absurd (by decide) h) (fun _ => ?_)
        refine lv_ldc2 (v := (-2)) hx hb hown (hts (.constantLong RX12 315 (-2)) (by decide +kernel)) dX12_chance_27 ?_
        exact W.lret (v := (-2)) hx hb hr (fun t ht hW => ⟨(-2), rfl, (by rw [atb, ← ef0_30]; exact Or.inl ⟨by omega, by decide⟩), ht⟩) (fun _ h => by cases h) dX12_chance_30
      · skip
        refine lv_if_ne (tgt := 31) hx hb dX12_chance_24 (by decide) (fun _ => ?_) (fun h => absurd h (by decide))
        refine lv_aload_n hx hb dX12_chance_31 rfl (lv_at hl 0 rfl) ?_
        refine h_get (v := .int f0_30) hx hb hts iX12 hown g t_a0 (by decide) so_13 rfl 30 (by decide) (hts (.fieldLink RX12 306 "CapLeagueModel" "hasTable" "Z") (by decide +kernel)) rfl dX12_chance_32 (congrArg Value.int (ef0_30.symm)) ?_
        refine lv_if_ne (tgt := 42) hx hb dX12_chance_35 (by decide) (fun c12 => ?_) (fun c12 => ?_)
        · have ic12 := (xi_ne c12 rfl (by decide) : f0_30.toInt ≠ 0)
          obtain ⟨kw, hkw, hkt⟩ := hex (by omega) c_t (by omega) (by omega)
          refine lv_iconst (v := 0) hx hb dX12_chance_42 (by decide) ?_
          refine lv_istore (lv' := [(4, .int 0), (0, .ref a0), (1, .int c), (2, .int k), (3, .int x)]) hx hb dX12_chance_43 hl (by decide) rfl (fun ls hl => ?_)
          have loop45_0 : ∀ (n : Nat) (ls : Array Slot) (v13 : Int32), lv_has ls 19 [(0, .ref a0), (1, .int c), (2, .int k), (3, .int x), (4, .int v13)] → (0 ≤ v13.toInt ∧ v13.toInt ≤ 7) → (v13.toInt ≤ (kw : Int)) → (∀ k : Nat, (k : Int) < v13.toInt → (I0 tb k).toInt ≠ c_t) → (8 - v13.toInt) < (n : Int) → W pr_ l ev_ (headSpec wsX12_chance ({ frames := 5, cells := 0, slots := 0, locals := 320 })).room s m ([.ref a0, .int c, .int k, .int x] : List Value).toArray below meth cd_ s.heap [] 0 0 (MQ below (vp_Sl (fun r => ((¬ (0 ≤ c_t ∧ c_t ≤ 7 ∧ 0 ≤ k_t ∧ k_t ≤ 1 ∧ 0 ≤ x_t ∧ x_t ≤ 1) ∧ r.toInt = -2) ∨ ((0 ≤ c_t ∧ c_t ≤ 7 ∧ 0 ≤ k_t ∧ k_t ≤ 1 ∧ 0 ≤ x_t ∧ x_t ≤ 1) ∧ (I0 a0 30).toInt = 0 ∧ r.toInt = -4) ∨ ((0 ≤ c_t ∧ c_t ≤ 7 ∧ 0 ≤ k_t ∧ k_t ≤ 1 ∧ 0 ≤ x_t ∧ x_t ≤ 1) ∧ (I0 a0 30).toInt = 1 ∧ ∃ rk a b : Int, q_at1 (I0 (h_ad z a0 32)) c_t rk ∧ q_red (q_chN u_ rk k_t) (q_chD u_ rk k_t) a b ∧ ((x_t = 0 ∧ r.toInt = a) ∨ (x_t = 1 ∧ r.toInt = b)))))) ([.ref a0, .int c, .int k, .int x] : List Value).toArray s 0 0 (fun _ => False)) (F0 m 45 ls []) := by
            intro n
            induction n with
            | zero => intro ls v13 hl jv13 hx45_0 hx45_1 hn; exact absurd hn (by omega)
            | succ n ih45 =>
              intro ls v13 hl jv13 hx45_0 hx45_1 hn
              refine lv_aload_n hx hb dX12_chance_45 rfl (lv_at hl 0 rfl) ?_
              refine h_get (v := .ref tb) hx hb hts iX12 hown g t_a0 (by decide) so_13 rfl 32 (by decide) (hts (.fieldLink RX12 73 "CapLeagueModel" "table" "[I") (by decide +kernel)) rfl dX12_chance_46 (by show va_rf (z.R a0 32) = _; rw [rtb]; rfl) ?_
              refine lv_iload hx hb dX12_chance_49 (lv_at hl 4 rfl) ?_
              refine h_ald hx hb g ttb (by decide) so_1332 (xi_in (by omega) (by omega)) dX12_chance_51 ?_
              refine lv_topi (fun v14 ev14 => ?_)
              have jv14 := hI.rd tb v13.toNatClampNeg ttb ev14 (rfl : h_bd 1332 _ = (0, 7))
              have ov14 : v14.toInt = c_t ∨ v13.toInt ≠ (kw : Int) := by
                by_cases h9 : v13.toInt = (kw : Int)
                · left
                  rw [ev14, h_keq (k := kw) (i := v13) rfl (by omega) h9.symm]
                  exact hkt
                · exact Or.inr h9
              refine lv_iload_n hx hb dX12_chance_52 rfl (lv_at hl 1 rfl) ?_
              refine lv_icmp_eq (tgt := 62) hx hb dX12_chance_53 (by decide) (fun c15 => ?_) (fun c15 => ?_)
              · have ic15 := (xi_eq c15 rfl h_c : v14.toInt = c_t)
                have plf : q_at1 (I0 tb) c_t v13.toInt := ⟨by omega, by rw [← (h_keq rfl (by omega) (by omega) : v13.toNatClampNeg = (v13.toInt).toNat), ← ev14]; omega, hx45_1⟩
                refine lv_lconst (v := 0) hx hb dX12_chance_62 (by decide) ?_
                refine lv_lstore (lv' := [(5, .long 0), (0, .ref a0), (1, .int c), (2, .int k), (3, .int x), (4, .int v13)]) hx hb dX12_chance_63 hl (by decide) rfl (fun ls hl => ?_)
                refine lv_lconst (v := 1) hx hb dX12_chance_65 (by decide) ?_
                refine lv_lstore (lv' := [(7, .long 1), (5, .long 0), (0, .ref a0), (1, .int c), (2, .int k), (3, .int x), (4, .int v13)]) hx hb dX12_chance_66 hl (by decide) rfl (fun ls hl => ?_)
                refine lv_aload_n hx hb dX12_chance_68 rfl (lv_at hl 2 rfl) ?_
                refine vp_callSi (W.runV (As := []) (rest := []) ⟨hx, hb, hml, hown, hts⟩ (tX12_weightsF l E X A z I0 L0 a0 t_a0) (cwV 0 hts gX12_chance_X12_weights rfl rfl rfl (by decide +kernel) ⟨Nat.le_of_ble_eq_true rfl, Nat.le_of_ble_eq_true rfl⟩) ⟨h_blind _ _ _ _ _ _ _, h_recv g t_a0 (by decide) so_13 (q := (RX12, TX12, 51)) rfl, h_pre _ hE hk hX hA hI hR g⟩ rfl rfl hl.1 rfl (lv_room (Nat.le_of_ble_eq_true rfl)) dX12_chance_69 ⟨Nat.le_of_ble_eq_true rfl, Nat.le_of_ble_eq_true rfl⟩) (fun rh16 h16 => ?_)
                obtain ⟨h16, h16p0⟩ := h16
                have al : rh16.toInt = q_al u_ := h16p0 u_ hrl hok
                refine lv_istore (lv' := [(9, .int rh16), (7, .long 1), (5, .long 0), (0, .ref a0), (1, .int c), (2, .int k), (3, .int x), (4, .int v13)]) hx hb dX12_chance_72 hl (by decide) rfl (fun ls hl => ?_)
                refine lv_aload_n hx hb dX12_chance_74 rfl (lv_at hl 3 rfl) ?_
                refine vp_callSi (W.runV (As := []) (rest := []) ⟨hx, hb, hml, hown, hts⟩ (tX12_lotsF l E X A z I0 L0 a0 t_a0) (cwV 0 hts gX12_chance_X12_lots rfl rfl rfl (by decide +kernel) ⟨Nat.le_of_ble_eq_true rfl, Nat.le_of_ble_eq_true rfl⟩) ⟨h_blind _ _ _ _ _ _ _, h_recv g t_a0 (by decide) so_13 (q := (RX12, TX12, 51)) rfl, h_pre _ hE hk hX hA hI hR g⟩ rfl rfl hl.1 rfl (lv_room (Nat.le_of_ble_eq_true rfl)) dX12_chance_75 ⟨Nat.le_of_ble_eq_true rfl, Nat.le_of_ble_eq_true rfl⟩) (fun rh17 h17 => ?_)
                obtain ⟨h17, h17p0⟩ := h17
                have nlrh17 : rh17.toInt = q_nl u_ := h17p0 u_ hrl hok
                have bnrh17 : 0 ≤ rh17.toInt ∧ rh17.toInt ≤ 6 := by omega
                refine lv_if_ne (tgt := 97) hx hb dX12_chance_78 (by decide) (fun c18 => ?_) (fun c18 => ?_)
                · have ic18 := (xi_ne c18 rfl (by decide) : rh17.toInt ≠ 0)
                  refine lv_iload_n hx hb dX12_chance_97 rfl (lv_at hl 5 rfl) ?_
                  refine lv_if_ne (tgt := 118) hx hb dX12_chance_98 (by decide) (fun c19 => ?_) (fun c19 => ?_)
                  · have ic19 := (xi_ne c19 h_k (by decide) : k_t ≠ 0)
                    refine lv_iconst (v := 0) hx hb dX12_chance_118 (by decide) ?_
                    refine lv_istore (lv' := [(10, .int 0), (9, .int rh16), (7, .long 1), (5, .long 0), (0, .ref a0), (1, .int c), (2, .int k), (3, .int x), (4, .int v13)]) hx hb dX12_chance_119 hl (by decide) rfl (fun ls hl => ?_)
                    have loop121_1 : ∀ (n : Nat) (ls : Array Slot) (v22 : Int32) (v20 v21 : Int64), lv_has ls 19 [(0, .ref a0), (3, .int x), (4, .int v13), (5, .long v20), (7, .long v21), (9, .int rh16), (10, .int v22)] → (0 ≤ v22.toInt ∧ v22.toInt ≤ 6) → (q_ci u_ (v13.toInt) (v22.toInt).toNat v20.toInt v21.toInt) → (v22.toInt ≤ q_nl u_ ∨ v22.toInt = 0) → (8 - v22.toInt) < (n : Int) → W pr_ l ev_ (headSpec wsX12_chance ({ frames := 5, cells := 0, slots := 0, locals := 320 })).room s m ([.ref a0, .int c, .int k, .int x] : List Value).toArray below meth cd_ s.heap [] 0 0 (MQ below (vp_Sl (fun r => ((¬ (0 ≤ c_t ∧ c_t ≤ 7 ∧ 0 ≤ k_t ∧ k_t ≤ 1 ∧ 0 ≤ x_t ∧ x_t ≤ 1) ∧ r.toInt = -2) ∨ ((0 ≤ c_t ∧ c_t ≤ 7 ∧ 0 ≤ k_t ∧ k_t ≤ 1 ∧ 0 ≤ x_t ∧ x_t ≤ 1) ∧ (I0 a0 30).toInt = 0 ∧ r.toInt = -4) ∨ ((0 ≤ c_t ∧ c_t ≤ 7 ∧ 0 ≤ k_t ∧ k_t ≤ 1 ∧ 0 ≤ x_t ∧ x_t ≤ 1) ∧ (I0 a0 30).toInt = 1 ∧ ∃ rk a b : Int, q_at1 (I0 (h_ad z a0 32)) c_t rk ∧ q_red (q_chN u_ rk k_t) (q_chD u_ rk k_t) a b ∧ ((x_t = 0 ∧ r.toInt = a) ∨ (x_t = 1 ∧ r.toInt = b)))))) ([.ref a0, .int c, .int k, .int x] : List Value).toArray s 0 0 (fun _ => False)) (F0 m 121 ls []) := by
                      intro n
                      induction n with
                      | zero => intro ls v22 v20 v21 hl jv22 hx121_0 hx121_1 hn; exact absurd hn (by omega)
                      | succ n ih121 =>
                        intro ls v22 v20 v21 hl jv22 hx121_0 hx121_1 hn
                        refine lv_iload hx hb dX12_chance_121 (lv_at hl 6 rfl) ?_
                        refine lv_aload_n hx hb dX12_chance_123 rfl (lv_at hl 0 rfl) ?_
                        refine vp_callSi (W.runV (As := []) (rest := [.int v22]) ⟨hx, hb, hml, hown, hts⟩ (tX12_lotsF l E X A z I0 L0 a0 t_a0) (cwV 0 hts gX12_chance_X12_lots rfl rfl rfl (by decide +kernel) ⟨Nat.le_of_ble_eq_true rfl, Nat.le_of_ble_eq_true rfl⟩) ⟨h_blind _ _ _ _ _ _ _, h_recv g t_a0 (by decide) so_13 (q := (RX12, TX12, 51)) rfl, h_pre _ hE hk hX hA hI hR g⟩ rfl rfl hl.1 rfl (lv_room (Nat.le_of_ble_eq_true rfl)) dX12_chance_124 ⟨Nat.le_of_ble_eq_true rfl, Nat.le_of_ble_eq_true rfl⟩) (fun rh23 h23 => ?_)
                        obtain ⟨h23, h23p0⟩ := h23
                        have nlrh23 : rh23.toInt = q_nl u_ := h23p0 u_ hrl hok
                        have bnrh23 : 0 ≤ rh23.toInt ∧ rh23.toInt ≤ 6 := by omega
                        refine lv_icmp_ge (tgt := 249) hx hb dX12_chance_127 (by decide) (fun c24 => ?_) (fun c24 => ?_)
                        · have ic24 := (xi_le c24 rfl rfl : rh23.toInt ≤ v22.toInt)
                          have fin : (0 ≤ v20.toInt ∧ v20.toInt ≤ 9000000000000000000) ∧ (0 < v21.toInt ∧ v21.toInt ≤ 9000000000000000000) ∧ v20.toInt * q_chD u_ (v13.toInt) k_t = q_chN u_ (v13.toInt) k_t * v21.toInt := by
                            exact q_cfin hok hx121_0 (by omega) (by omega) (by omega)
                          refine lv_lload hx hb dX12_chance_249 (lv_at hl 3 rfl) ?_
                          refine lv_lload hx hb dX12_chance_251 (lv_at hl 4 rfl) ?_
                          refine vp_callSl (W.runS (As := [.long v20, .long v21]) (rest := []) ⟨hx, hb, hml, hown, hts⟩ (tX12_commonB l E X A z I0 L0 v20 (v20.toInt) rfl v21 (v21.toInt) rfl (⟨⟨by omega, by omega⟩, by omega⟩)) (va_cwS 2 hts gX12_chance_X12_common rfl rfl rfl (by decide +kernel) ⟨Nat.le_of_ble_eq_true rfl, Nat.le_of_ble_eq_true rfl⟩) ⟨h_blind _ _ _ _ _ _ _, h_pre _ hE hk hX hA hI hR g⟩ rfl rfl hl.1 rfl (lv_room (Nat.le_of_ble_eq_true rfl)) dX12_chance_253 ⟨Nat.le_of_ble_eq_true rfl, Nat.le_of_ble_eq_true rfl⟩) (fun rh25 h25 => ?_)
                          obtain ⟨h25p0, h25p1⟩ := h25
                          have jrh25 : -9223372036854775808 ≤ rh25.toInt := Int64.le_toInt _
                          refine lv_lstore (lv' := [(10, .long rh25), (0, .ref a0), (3, .int x), (4, .int v13), (5, .long v20), (7, .long v21), (9, .int rh16)]) hx hb dX12_chance_256 hl (by decide) rfl (fun ls hl => ?_)
                          refine lv_iload_n hx hb dX12_chance_258 rfl (lv_at hl 2 rfl) ?_
                          refine lv_if_ne (tgt := 270) hx hb dX12_chance_259 (by decide) (fun c26 => ?_) (fun c26 => ?_)
                          · have ic26 := (xi_ne c26 h_x (by decide) : x_t ≠ 0)
                            refine lv_lload hx hb dX12_chance_270 (lv_at hl 5 rfl) ?_
                            refine lv_lload hx hb dX12_chance_272 (lv_at hl 0 rfl) ?_
                            refine lv_ldiv hx hb dX12_chance_274 (h_lne0 (by omega)) ?_
                            refine lv_topl (fun v27 ev27 => ?_)
                            have dF := h_ldiv ev27 (by omega) (by omega) (h_gd h25p1).2
                            exact W.lret (v := v27) hx hb hr (fun t ht hW => ⟨v27, rfl, (by rw [atb, ← ef0_30]; exact Or.inr (Or.inr ⟨by omega, by omega, (by obtain ⟨qa, hqa⟩ := (h_gd h25p1).1; exact ⟨v13.toInt, qa, v27.toInt, plf, q_red.of (by omega) (by omega) (by omega) h25p1 hqa.symm dF fin.2.2, Or.inr ⟨by omega, rfl⟩⟩)⟩)), ht⟩) (fun _ h => by cases h) dX12_chance_275
                          · have ic26 := (xi_eq c26 h_x (by decide) : x_t = 0)
                            refine lv_lload hx hb dX12_chance_262 (lv_at hl 4 rfl) ?_
                            refine lv_lload hx hb dX12_chance_264 (lv_at hl 0 rfl) ?_
                            refine lv_ldiv hx hb dX12_chance_266 (h_lne0 (by omega)) ?_
                            refine lv_topl (fun v28 ev28 => ?_)
                            have dF := h_ldiv ev28 (by omega) (by omega) (h_gd h25p1).1
                            refine lv_goto (tgt := 275) hx hb dX12_chance_267 (by decide) ?_
                            exact W.lret (v := v28) hx hb hr (fun t ht hW => ⟨v28, rfl, (by rw [atb, ← ef0_30]; exact Or.inr (Or.inr ⟨by omega, by omega, (by obtain ⟨qb, hqb⟩ := (h_gd h25p1).2; exact ⟨v13.toInt, v28.toInt, qb, plf, q_red.of (by omega) (by omega) (by omega) h25p1 dF hqb.symm fin.2.2, Or.inl ⟨by omega, rfl⟩⟩)⟩)), ht⟩) (fun _ h => by cases h) dX12_chance_275
                        · have ic24 := (xi_nle c24 rfl rfl : v22.toInt < rh23.toInt)
                          refine lv_iload hx hb dX12_chance_130 (lv_at hl 2 rfl) ?_
                          refine lv_aload_n hx hb dX12_chance_132 rfl (lv_at hl 0 rfl) ?_
                          refine vp_callSi (W.runV (As := []) (rest := [.int v13]) ⟨hx, hb, hml, hown, hts⟩ (tX12_lotsF l E X A z I0 L0 a0 t_a0) (cwV 0 hts gX12_chance_X12_lots rfl rfl rfl (by decide +kernel) ⟨Nat.le_of_ble_eq_true rfl, Nat.le_of_ble_eq_true rfl⟩) ⟨h_blind _ _ _ _ _ _ _, h_recv g t_a0 (by decide) so_13 (q := (RX12, TX12, 51)) rfl, h_pre _ hE hk hX hA hI hR g⟩ rfl rfl hl.1 rfl (lv_room (Nat.le_of_ble_eq_true rfl)) dX12_chance_133 ⟨Nat.le_of_ble_eq_true rfl, Nat.le_of_ble_eq_true rfl⟩) (fun rh29 h29 => ?_)
                          obtain ⟨h29, h29p0⟩ := h29
                          have nlrh29 : rh29.toInt = q_nl u_ := h29p0 u_ hrl hok
                          have bnrh29 : 0 ≤ rh29.toInt ∧ rh29.toInt ≤ 6 := by omega
                          refine lv_icmp_ge (tgt := 249) hx hb dX12_chance_136 (by decide) (fun c30 => ?_) (fun c30 => ?_)
                          · have ic30 := (xi_le c30 rfl rfl : rh29.toInt ≤ v13.toInt)
                            have fin : (0 ≤ v20.toInt ∧ v20.toInt ≤ 9000000000000000000) ∧ (0 < v21.toInt ∧ v21.toInt ≤ 9000000000000000000) ∧ v20.toInt * q_chD u_ (v13.toInt) k_t = q_chN u_ (v13.toInt) k_t * v21.toInt := by
                              exact q_cfin hok hx121_0 (by omega) (by omega) (by omega)
                            refine lv_lload hx hb dX12_chance_249 (lv_at hl 3 rfl) ?_
                            refine lv_lload hx hb dX12_chance_251 (lv_at hl 4 rfl) ?_
                            refine vp_callSl (W.runS (As := [.long v20, .long v21]) (rest := []) ⟨hx, hb, hml, hown, hts⟩ (tX12_commonB l E X A z I0 L0 v20 (v20.toInt) rfl v21 (v21.toInt) rfl (⟨⟨by omega, by omega⟩, by omega⟩)) (va_cwS 2 hts gX12_chance_X12_common rfl rfl rfl (by decide +kernel) ⟨Nat.le_of_ble_eq_true rfl, Nat.le_of_ble_eq_true rfl⟩) ⟨h_blind _ _ _ _ _ _ _, h_pre _ hE hk hX hA hI hR g⟩ rfl rfl hl.1 rfl (lv_room (Nat.le_of_ble_eq_true rfl)) dX12_chance_253 ⟨Nat.le_of_ble_eq_true rfl, Nat.le_of_ble_eq_true rfl⟩) (fun rh31 h31 => ?_)
                            obtain ⟨h31p0, h31p1⟩ := h31
                            have jrh31 : -9223372036854775808 ≤ rh31.toInt := Int64.le_toInt _
                            refine lv_lstore (lv' := [(10, .long rh31), (0, .ref a0), (3, .int x), (4, .int v13), (5, .long v20), (7, .long v21), (9, .int rh16)]) hx hb dX12_chance_256 hl (by decide) rfl (fun ls hl => ?_)
                            refine lv_iload_n hx hb dX12_chance_258 rfl (lv_at hl 2 rfl) ?_
                            refine lv_if_ne (tgt := 270) hx hb dX12_chance_259 (by decide) (fun c32 => ?_) (fun c32 => ?_)
                            · have ic32 := (xi_ne c32 h_x (by decide) : x_t ≠ 0)
                              refine lv_lload hx hb dX12_chance_270 (lv_at hl 5 rfl) ?_
                              refine lv_lload hx hb dX12_chance_272 (lv_at hl 0 rfl) ?_
                              refine lv_ldiv hx hb dX12_chance_274 (h_lne0 (by omega)) ?_
                              refine lv_topl (fun v33 ev33 => ?_)
                              have dF := h_ldiv ev33 (by omega) (by omega) (h_gd h31p1).2
                              exact W.lret (v := v33) hx hb hr (fun t ht hW => ⟨v33, rfl, (by rw [atb, ← ef0_30]; exact Or.inr (Or.inr ⟨by omega, by omega, (by obtain ⟨qa, hqa⟩ := (h_gd h31p1).1; exact ⟨v13.toInt, qa, v33.toInt, plf, q_red.of (by omega) (by omega) (by omega) h31p1 hqa.symm dF fin.2.2, Or.inr ⟨by omega, rfl⟩⟩)⟩)), ht⟩) (fun _ h => by cases h) dX12_chance_275
                            · have ic32 := (xi_eq c32 h_x (by decide) : x_t = 0)
                              refine lv_lload hx hb dX12_chance_262 (lv_at hl 4 rfl) ?_
                              refine lv_lload hx hb dX12_chance_264 (lv_at hl 0 rfl) ?_
                              refine lv_ldiv hx hb dX12_chance_266 (h_lne0 (by omega)) ?_
                              refine lv_topl (fun v34 ev34 => ?_)
                              have dF := h_ldiv ev34 (by omega) (by omega) (h_gd h31p1).1
                              refine lv_goto (tgt := 275) hx hb dX12_chance_267 (by decide) ?_
                              exact W.lret (v := v34) hx hb hr (fun t ht hW => ⟨v34, rfl, (by rw [atb, ← ef0_30]; exact Or.inr (Or.inr ⟨by omega, by omega, (by obtain ⟨qb, hqb⟩ := (h_gd h31p1).2; exact ⟨v13.toInt, v34.toInt, qb, plf, q_red.of (by omega) (by omega) (by omega) h31p1 dF hqb.symm fin.2.2, Or.inl ⟨by omega, rfl⟩⟩)⟩)), ht⟩) (fun _ h => by cases h) dX12_chance_275
                          · have ic30 := (xi_nle c30 rfl rfl : v13.toInt < rh29.toInt)
                            refine lv_iload hx hb dX12_chance_139 (lv_at hl 6 rfl) ?_
                            refine lv_iload hx hb dX12_chance_141 (lv_at hl 2 rfl) ?_
                            refine lv_icmp_ne (tgt := 149) hx hb dX12_chance_143 (by decide) (fun c35 => ?_) (fun c35 => ?_)
                            · have ic35 := (xi_ne c35 rfl rfl : v22.toInt ≠ v13.toInt)
                              have cb := hx121_0.b hok (by omega) (by omega) (by omega)
                              have oj := q_al_b hok (j := (v22.toInt).toNat) (by omega)
                              have op := q_al_b hok (j := (v13.toInt).toNat) (by omega)
                              refine lv_aload_n hx hb dX12_chance_149 rfl (lv_at hl 0 rfl) ?_
                              refine lv_iload hx hb dX12_chance_150 (lv_at hl 6 rfl) ?_
                              refine vp_callSi (W.runV (As := [.int v22]) (rest := []) ⟨hx, hb, hml, hown, hts⟩ (tX12_weightF l E X A z I0 L0 a0 t_a0 v22 (v22.toInt) rfl (by omega)) (cwV 1 hts gX12_chance_X12_weight rfl rfl rfl (by decide +kernel) ⟨Nat.le_of_ble_eq_true rfl, Nat.le_of_ble_eq_true rfl⟩) ⟨h_blind _ _ _ _ _ _ _, h_recv g t_a0 (by decide) so_13 (q := (RX12, TX12, 51)) rfl, h_pre _ hE hk hX hA hI hR g⟩ rfl rfl hl.1 rfl (lv_room (Nat.le_of_ble_eq_true rfl)) dX12_chance_152 ⟨Nat.le_of_ble_eq_true rfl, Nat.le_of_ble_eq_true rfl⟩) (fun rh36 h36 => ?_)
                              obtain ⟨h36, h36p0⟩ := h36
                              have mwrh36 := h36p0 u_ hrl hok
                              refine lv_i2l hx hb dX12_chance_155 rfl ?_
                              refine lv_topl (fun v37 ev37 => ?_)
                              have jv37 : v37.toInt = rh36.toInt := by rw [ev37, xi_64]
                              refine lv_aload_n hx hb dX12_chance_156 rfl (lv_at hl 0 rfl) ?_
                              refine lv_iload hx hb dX12_chance_157 (lv_at hl 2 rfl) ?_
                              refine vp_callSi (W.runV (As := [.int v13]) (rest := [.long v37]) ⟨hx, hb, hml, hown, hts⟩ (tX12_weightF l E X A z I0 L0 a0 t_a0 v13 (v13.toInt) rfl (by omega)) (cwV 1 hts gX12_chance_X12_weight rfl rfl rfl (by decide +kernel) ⟨Nat.le_of_ble_eq_true rfl, Nat.le_of_ble_eq_true rfl⟩) ⟨h_blind _ _ _ _ _ _ _, h_recv g t_a0 (by decide) so_13 (q := (RX12, TX12, 51)) rfl, h_pre _ hE hk hX hA hI hR g⟩ rfl rfl hl.1 rfl (lv_room (Nat.le_of_ble_eq_true rfl)) dX12_chance_159 ⟨Nat.le_of_ble_eq_true rfl, Nat.le_of_ble_eq_true rfl⟩) (fun rh38 h38 => ?_)
                              obtain ⟨h38, h38p0⟩ := h38
                              have mwrh38 := h38p0 u_ hrl hok
                              refine lv_i2l hx hb dX12_chance_162 rfl ?_
                              refine lv_topl (fun v39 ev39 => ?_)
                              have jv39 : v39.toInt = rh38.toInt := by rw [ev39, xi_64]
                              refine lv_lmul hx hb dX12_chance_163 ?_
                              refine lv_topl (fun v40 ev40 => ?_)
                              rw [if_pos (by omega)] at mwrh36
                              have mvrh36 : rh36.toInt = q_wgt u_ (v22.toInt).toNat := mwrh36
                              rw [if_pos (by omega)] at mwrh38
                              have mvrh38 : rh38.toInt = q_wgt u_ (v13.toInt).toNat := mwrh38
                              have pv40 := q_mul_n (x := rh36.toInt) (y := rh38.toInt) (c := 20) (d := 20) (by omega) (by omega) (by omega) (by omega)
                              have nv40 : v40.toInt = rh36.toInt * rh38.toInt := h_lmul ev40 (by rw [jv37, jv39]) (by omega) (by omega)
                              refine lv_lstore (lv' := [(11, .long v40), (0, .ref a0), (3, .int x), (4, .int v13), (5, .long v20), (7, .long v21), (9, .int rh16), (10, .int v22)]) hx hb dX12_chance_164 hl (by decide) rfl (fun ls hl => ?_)
                              refine lv_iload hx hb dX12_chance_166 (lv_at hl 6 rfl) ?_
                              refine lv_i2l hx hb dX12_chance_168 rfl ?_
                              refine lv_topl (fun v41 ev41 => ?_)
                              have jv41 : v41.toInt = rh16.toInt := by rw [ev41, xi_64]
                              refine lv_iload hx hb dX12_chance_169 (lv_at hl 6 rfl) ?_
                              refine lv_aload_n hx hb dX12_chance_171 rfl (lv_at hl 1 rfl) ?_
                              refine lv_iload hx hb dX12_chance_172 (lv_at hl 7 rfl) ?_
                              refine vp_callSi (W.runV (As := [.int v22]) (rest := [.int rh16, .long v41]) ⟨hx, hb, hml, hown, hts⟩ (tX12_weightF l E X A z I0 L0 a0 t_a0 v22 (v22.toInt) rfl (by omega)) (cwV 1 hts gX12_chance_X12_weight rfl rfl rfl (by decide +kernel) ⟨Nat.le_of_ble_eq_true rfl, Nat.le_of_ble_eq_true rfl⟩) ⟨h_blind _ _ _ _ _ _ _, h_recv g t_a0 (by decide) so_13 (q := (RX12, TX12, 51)) rfl, h_pre _ hE hk hX hA hI hR g⟩ rfl rfl hl.1 rfl (lv_room (Nat.le_of_ble_eq_true rfl)) dX12_chance_174 ⟨Nat.le_of_ble_eq_true rfl, Nat.le_of_ble_eq_true rfl⟩) (fun rh42 h42 => ?_)
                              obtain ⟨h42, h42p0⟩ := h42
                              have mwrh42 := h42p0 u_ hrl hok
                              refine lv_isub hx hb dX12_chance_177 ?_
                              refine lv_topi (fun v43 ev43 => ?_)
                              have jv43 : v43.toInt = rh16.toInt - rh42.toInt := xi_sub ev43 rfl rfl (by omega) (by omega)
                              refine lv_i2l hx hb dX12_chance_178 rfl ?_
                              refine lv_topl (fun v44 ev44 => ?_)
                              have jv44 : v44.toInt = v43.toInt := by rw [ev44, xi_64]
                              refine lv_lmul hx hb dX12_chance_179 ?_
                              refine lv_topl (fun v45 ev45 => ?_)
                              rw [if_pos (by omega)] at mwrh42
                              have mvrh42 : rh42.toInt = q_wgt u_ (v22.toInt).toNat := mwrh42
                              have pv45 := q_mul_b (x := rh16.toInt) (y := v43.toInt) (c := 120) (d := 119) (by omega) (by omega) (by omega) (by omega)
                              have nv45 : v45.toInt = rh16.toInt * v43.toInt := h_lmul ev45 (by rw [jv41, jv44]) (by omega) (by omega)
                              have fb : v45.toInt = q_al u_ * (q_al u_ - q_wgt u_ (v22.toInt).toNat) := by rw [nv45, show rh16.toInt = q_al u_ by omega, show v43.toInt = q_al u_ - q_wgt u_ (v22.toInt).toNat by omega]
                              refine lv_lstore (lv' := [(13, .long v45), (11, .long v40), (0, .ref a0), (3, .int x), (4, .int v13), (5, .long v20), (7, .long v21), (9, .int rh16), (10, .int v22)]) hx hb dX12_chance_180 hl (by decide) rfl (fun ls hl => ?_)
                              refine lv_lload hx hb dX12_chance_182 (lv_at hl 6 rfl) ?_
                              refine lv_lload hx hb dX12_chance_184 (lv_at hl 0 rfl) ?_
                              refine vp_callSl (W.runS (As := [.long v21, .long v45]) (rest := []) ⟨hx, hb, hml, hown, hts⟩ (tX12_commonB l E X A z I0 L0 v21 (v21.toInt) rfl v45 (v45.toInt) rfl (⟨⟨by omega, by omega⟩, by omega⟩)) (va_cwS 2 hts gX12_chance_X12_common rfl rfl rfl (by decide +kernel) ⟨Nat.le_of_ble_eq_true rfl, Nat.le_of_ble_eq_true rfl⟩) ⟨h_blind _ _ _ _ _ _ _, h_pre _ hE hk hX hA hI hR g⟩ rfl rfl hl.1 rfl (lv_room (Nat.le_of_ble_eq_true rfl)) dX12_chance_186 ⟨Nat.le_of_ble_eq_true rfl, Nat.le_of_ble_eq_true rfl⟩) (fun rh46 h46 => ?_)
                              obtain ⟨h46p0, h46p1⟩ := h46
                              have jrh46 : -9223372036854775808 ≤ rh46.toInt := Int64.le_toInt _
                              refine lv_lstore (lv' := [(15, .long rh46), (13, .long v45), (11, .long v40), (0, .ref a0), (3, .int x), (4, .int v13), (5, .long v20), (7, .long v21), (9, .int rh16), (10, .int v22)]) hx hb dX12_chance_189 hl (by decide) rfl (fun ls hl => ?_)
                              refine lv_lload hx hb dX12_chance_191 (lv_at hl 6 rfl) ?_
                              refine lv_lload hx hb dX12_chance_193 (lv_at hl 1 rfl) ?_
                              refine lv_lload hx hb dX12_chance_195 (lv_at hl 0 rfl) ?_
                              refine lv_ldiv hx hb dX12_chance_197 (h_lne0 (by omega)) ?_
                              refine lv_topl (fun v47 ev47 => ?_)
                              have dv47 := h_ldiv ev47 (by omega) (by omega) (h_gd h46p1).2
                              have qv47 := q_dvb dv47 (by omega) (by omega)
                              refine lv_lmul hx hb dX12_chance_198 ?_
                              refine lv_topl (fun v48 ev48 => ?_)
                              have pv48 := q_mul_n (x := v20.toInt) (y := v47.toInt) (c := 49766400000000) (d := 14280) (by omega) (by omega) (by omega) (by omega)
                              have nv48 : v48.toInt = v20.toInt * v47.toInt := h_lmul ev48 rfl (by omega) (by omega)
                              refine lv_lload hx hb dX12_chance_199 (lv_at hl 2 rfl) ?_
                              refine lv_lload hx hb dX12_chance_201 (lv_at hl 7 rfl) ?_
                              refine lv_lload hx hb dX12_chance_203 (lv_at hl 0 rfl) ?_
                              refine lv_ldiv hx hb dX12_chance_205 (h_lne0 (by omega)) ?_
                              refine lv_topl (fun v49 ev49 => ?_)
                              have dv49 := h_ldiv ev49 (by omega) (by omega) (h_gd h46p1).1
                              have qv49 := q_dvb dv49 (by omega) (by omega)
                              refine lv_lmul hx hb dX12_chance_206 ?_
                              refine lv_topl (fun v50 ev50 => ?_)
                              have pv50 := q_mul_n (x := v40.toInt) (y := v49.toInt) (c := 400) (d := 2985984000000) (by omega) (by omega) (by omega) (by omega)
                              have nv50 : v50.toInt = v40.toInt * v49.toInt := h_lmul ev50 rfl (by omega) (by omega)
                              refine lv_ladd hx hb dX12_chance_207 ?_
                              refine lv_topl (fun v51 ev51 => ?_)
                              have nv51 : v51.toInt = v48.toInt + v50.toInt := h_ladd ev51 rfl (by omega) (by omega)
                              have a2e : v51.toInt = v20.toInt * v47.toInt + q_wgt u_ (v22.toInt).toNat * q_wgt u_ (v13.toInt).toNat * v49.toInt := by rw [nv51, nv48, nv50, nv40, show rh36.toInt = q_wgt u_ (v22.toInt).toNat by omega, show rh38.toInt = q_wgt u_ (v13.toInt).toNat by omega]
                              refine lv_lstore (lv' := [(5, .long v51), (15, .long rh46), (13, .long v45), (11, .long v40), (0, .ref a0), (3, .int x), (4, .int v13), (7, .long v21), (9, .int rh16), (10, .int v22)]) hx hb dX12_chance_208 hl (by decide) rfl (fun ls hl => ?_)
                              refine lv_lload hx hb dX12_chance_210 (lv_at hl 7 rfl) ?_
                              refine lv_lload hx hb dX12_chance_212 (lv_at hl 1 rfl) ?_
                              refine lv_ldiv hx hb dX12_chance_214 (h_lne0 (by omega)) ?_
                              refine lv_topl (fun v52 ev52 => ?_)
                              have dv52 := h_ldiv ev52 (by omega) (by omega) (h_gd h46p1).1
                              have qv52 := q_dvb dv52 (by omega) (by omega)
                              refine lv_lload hx hb dX12_chance_215 (lv_at hl 2 rfl) ?_
                              refine lv_lmul hx hb dX12_chance_217 ?_
                              refine lv_topl (fun v53 ev53 => ?_)
                              have pv53 := q_mul_b (x := v52.toInt) (y := v45.toInt) (c := 2985984000000) (d := 14280) (by omega) (by omega) (by omega) (by omega)
                              have nv53 : v53.toInt = v52.toInt * v45.toInt := h_lmul ev53 rfl (by omega) (by omega)
                              have b2e : v53.toInt = v49.toInt * v45.toInt := by rw [nv53, q_uniq dv52 dv49 (by omega)]
                              refine lv_lstore (lv' := [(7, .long v53), (5, .long v51), (15, .long rh46), (13, .long v45), (11, .long v40), (0, .ref a0), (3, .int x), (4, .int v13), (9, .int rh16), (10, .int v22)]) hx hb dX12_chance_218 hl (by decide) rfl (fun ls hl => ?_)
                              refine lv_lload hx hb dX12_chance_220 (lv_at hl 1 rfl) ?_
                              refine lv_lload hx hb dX12_chance_222 (lv_at hl 0 rfl) ?_
                              refine vp_callSl (W.runS (As := [.long v51, .long v53]) (rest := []) ⟨hx, hb, hml, hown, hts⟩ (tX12_commonB l E X A z I0 L0 v51 (v51.toInt) rfl v53 (v53.toInt) rfl (⟨⟨by omega, by omega⟩, by omega⟩)) (va_cwS 2 hts gX12_chance_X12_common rfl rfl rfl (by decide +kernel) ⟨Nat.le_of_ble_eq_true rfl, Nat.le_of_ble_eq_true rfl⟩) ⟨h_blind _ _ _ _ _ _ _, h_pre _ hE hk hX hA hI hR g⟩ rfl rfl hl.1 rfl (lv_room (Nat.le_of_ble_eq_true rfl)) dX12_chance_224 ⟨Nat.le_of_ble_eq_true rfl, Nat.le_of_ble_eq_true rfl⟩) (fun rh54 h54 => ?_)
                              obtain ⟨h54p0, h54p1⟩ := h54
                              have jrh54 : -9223372036854775808 ≤ rh54.toInt := Int64.le_toInt _
                              refine lv_lstore (lv' := [(17, .long rh54), (7, .long v53), (5, .long v51), (15, .long rh46), (13, .long v45), (11, .long v40), (0, .ref a0), (3, .int x), (4, .int v13), (9, .int rh16), (10, .int v22)]) hx hb dX12_chance_227 hl (by decide) rfl (fun ls hl => ?_)
                              refine lv_lload hx hb dX12_chance_229 (lv_at hl 2 rfl) ?_
                              refine lv_lload hx hb dX12_chance_231 (lv_at hl 0 rfl) ?_
                              refine lv_ldiv hx hb dX12_chance_233 (h_lne0 (by omega)) ?_
                              refine lv_topl (fun v55 ev55 => ?_)
                              have dv55 := h_ldiv ev55 (by omega) (by omega) (h_gd h54p1).1
                              have qv55 := q_dvb dv55 (by omega) (by omega)
                              refine lv_lstore (lv' := [(5, .long v55), (17, .long rh54), (7, .long v53), (15, .long rh46), (13, .long v45), (11, .long v40), (0, .ref a0), (3, .int x), (4, .int v13), (9, .int rh16), (10, .int v22)]) hx hb dX12_chance_234 hl (by decide) rfl (fun ls hl => ?_)
                              refine lv_lload hx hb dX12_chance_236 (lv_at hl 2 rfl) ?_
                              refine lv_lload hx hb dX12_chance_238 (lv_at hl 1 rfl) ?_
                              refine lv_ldiv hx hb dX12_chance_240 (h_lne0 (by omega)) ?_
                              refine lv_topl (fun v56 ev56 => ?_)
                              have dv56 := h_ldiv ev56 (by omega) (by omega) (h_gd h54p1).2
                              have qv56 := q_dvb dv56 (by omega) (by omega)
                              refine lv_lstore (lv' := [(7, .long v56), (5, .long v55), (17, .long rh54), (15, .long rh46), (13, .long v45), (11, .long v40), (0, .ref a0), (3, .int x), (4, .int v13), (9, .int rh16), (10, .int v22)]) hx hb dX12_chance_241 hl (by decide) rfl (fun ls hl => ?_)
                              obtain ⟨v57, ev57⟩ : ∃ z : Int32, z = v22 + 1 := ⟨_, rfl⟩
                              have jv57 : v57.toInt = v22.toInt + 1 := xi_add ev57 rfl (by decide) (by omega) (by omega)
                              refine lv_iinc (v := v57) (lv' := [(10, .int v57), (7, .long v56), (5, .long v55), (17, .long rh54), (15, .long rh46), (13, .long v45), (11, .long v40), (0, .ref a0), (3, .int x), (4, .int v13), (9, .int rh16)]) hx hb dX12_chance_243 hl (k := 10) rfl (by rw [ev57]; rfl) (by decide) rfl (fun ls hl => ?_)
                              refine lv_goto (tgt := 121) hx hb dX12_chance_246 (by decide) ?_
                              exact ih121 _ v57 (v55) (v56) (lv_sub hl [7, 8, 9, 2, 1, 10, 0] rfl) (by omega) (hx121_0.go hok (g := rh46.toInt) (f := v45.toInt) (b1 := v47.toInt) (B1 := v49.toInt) (a2 := v51.toInt) (b2 := v53.toInt) (cut := rh54.toInt) (by omega) (by omega) (by omega) (by omega) (by omega) fb (by omega) dv47 dv49 a2e b2e (by omega) h54p1 dv55 dv56) (by omega) (by omega)
                            · have ic35 := (xi_eq c35 rfl rfl : v22.toInt = v13.toInt)
                              refine lv_goto (tgt := 243) hx hb dX12_chance_146 (by decide) ?_
                              obtain ⟨v58, ev58⟩ : ∃ z : Int32, z = v22 + 1 := ⟨_, rfl⟩
                              have jv58 : v58.toInt = v22.toInt + 1 := xi_add ev58 rfl (by decide) (by omega) (by omega)
                              refine lv_iinc (v := v58) (lv' := [(10, .int v58), (0, .ref a0), (3, .int x), (4, .int v13), (5, .long v20), (7, .long v21), (9, .int rh16)]) hx hb dX12_chance_243 hl (k := 6) rfl (by rw [ev58]; rfl) (by decide) rfl (fun ls hl => ?_)
                              refine lv_goto (tgt := 121) hx hb dX12_chance_246 (by decide) ?_
                              exact ih121 _ v58 (v20) (v21) (lv_sub hl [1, 2, 3, 4, 5, 6, 0] rfl) (by omega) (hx121_0.skip (by omega) (by omega)) (by omega) (by omega)
                    have kc59 : (0 : Int32).toInt = 0 := by decide
                    exact loop121_1 _ _ (0) (0) (1) (lv_sub hl [4, 7, 8, 3, 2, 1, 0] rfl) ⟨by decide, by decide⟩ (by rw [show (1 : Int64).toInt = 1 by decide, show (0 : Int64).toInt = 0 by decide, show ((0 : Int32).toInt).toNat = 0 by decide]; exact q_ci.z) (by omega) (show (8 - (0 : Int)) < (((8 - (0 : Int)).toNat + 1 : Nat) : Int) by omega)
                  · have ic19 := (xi_eq c19 h_k (by decide) : k_t = 0)
                    refine lv_aload_n hx hb dX12_chance_101 rfl (lv_at hl 3 rfl) ?_
                    refine lv_iload hx hb dX12_chance_102 (lv_at hl 7 rfl) ?_
                    refine vp_callSi (W.runV (As := [.int v13]) (rest := []) ⟨hx, hb, hml, hown, hts⟩ (tX12_weightF l E X A z I0 L0 a0 t_a0 v13 (v13.toInt) rfl (by omega)) (cwV 1 hts gX12_chance_X12_weight rfl rfl rfl (by decide +kernel) ⟨Nat.le_of_ble_eq_true rfl, Nat.le_of_ble_eq_true rfl⟩) ⟨h_blind _ _ _ _ _ _ _, h_recv g t_a0 (by decide) so_13 (q := (RX12, TX12, 51)) rfl, h_pre _ hE hk hX hA hI hR g⟩ rfl rfl hl.1 rfl (lv_room (Nat.le_of_ble_eq_true rfl)) dX12_chance_104 ⟨Nat.le_of_ble_eq_true rfl, Nat.le_of_ble_eq_true rfl⟩) (fun rh60 h60 => ?_)
                    obtain ⟨h60, h60p0⟩ := h60
                    have mwrh60 := h60p0 u_ hrl hok
                    refine lv_i2l hx hb dX12_chance_107 rfl ?_
                    refine lv_topl (fun v61 ev61 => ?_)
                    have jv61 : v61.toInt = rh60.toInt := by rw [ev61, xi_64]
                    refine lv_lstore (lv' := [(5, .long v61), (9, .int rh16), (7, .long 1), (0, .ref a0), (1, .int c), (2, .int k), (3, .int x), (4, .int v13)]) hx hb dX12_chance_108 hl (by decide) rfl (fun ls hl => ?_)
                    refine lv_iload hx hb dX12_chance_110 (lv_at hl 1 rfl) ?_
                    refine lv_i2l hx hb dX12_chance_112 rfl ?_
                    refine lv_topl (fun v62 ev62 => ?_)
                    have jv62 : v62.toInt = rh16.toInt := by rw [ev62, xi_64]
                    refine lv_lstore (lv' := [(7, .long v62), (5, .long v61), (9, .int rh16), (0, .ref a0), (1, .int c), (2, .int k), (3, .int x), (4, .int v13)]) hx hb dX12_chance_113 hl (by decide) rfl (fun ls hl => ?_)
                    refine lv_goto (tgt := 249) hx hb dX12_chance_115 (by decide) ?_
                    have fin : (0 ≤ rh60.toInt ∧ rh60.toInt ≤ 9000000000000000000) ∧ (0 < rh16.toInt ∧ rh16.toInt ≤ 9000000000000000000) ∧ rh60.toInt * q_chD u_ (v13.toInt) k_t = q_chN u_ (v13.toInt) k_t * rh16.toInt := by
                      exact q_cfin1 hok (by omega) (by omega) (by omega) mwrh60 al rfl rfl
                    refine lv_lload hx hb dX12_chance_249 (lv_at hl 1 rfl) ?_
                    refine lv_lload hx hb dX12_chance_251 (lv_at hl 0 rfl) ?_
                    refine vp_callSl (W.runS (As := [.long v61, .long v62]) (rest := []) ⟨hx, hb, hml, hown, hts⟩ (tX12_commonB l E X A z I0 L0 v61 (rh60.toInt) jv61 v62 (rh16.toInt) jv62 (⟨⟨by omega, by omega⟩, by omega⟩)) (va_cwS 2 hts gX12_chance_X12_common rfl rfl rfl (by decide +kernel) ⟨Nat.le_of_ble_eq_true rfl, Nat.le_of_ble_eq_true rfl⟩) ⟨h_blind _ _ _ _ _ _ _, h_pre _ hE hk hX hA hI hR g⟩ rfl rfl hl.1 rfl (lv_room (Nat.le_of_ble_eq_true rfl)) dX12_chance_253 ⟨Nat.le_of_ble_eq_true rfl, Nat.le_of_ble_eq_true rfl⟩) (fun rh63 h63 => ?_)
                    obtain ⟨h63p0, h63p1⟩ := h63
                    have jrh63 : -9223372036854775808 ≤ rh63.toInt := Int64.le_toInt _
                    refine lv_lstore (lv' := [(10, .long rh63), (7, .long v62), (5, .long v61), (9, .int rh16), (0, .ref a0), (1, .int c), (2, .int k), (3, .int x), (4, .int v13)]) hx hb dX12_chance_256 hl (by decide) rfl (fun ls hl => ?_)
                    refine lv_iload_n hx hb dX12_chance_258 rfl (lv_at hl 7 rfl) ?_
                    refine lv_if_ne (tgt := 270) hx hb dX12_chance_259 (by decide) (fun c64 => ?_) (fun c64 => ?_)
                    · have ic64 := (xi_ne c64 h_x (by decide) : x_t ≠ 0)
                      refine lv_lload hx hb dX12_chance_270 (lv_at hl 1 rfl) ?_
                      refine lv_lload hx hb dX12_chance_272 (lv_at hl 0 rfl) ?_
                      refine lv_ldiv hx hb dX12_chance_274 (h_lne0 (by omega)) ?_
                      refine lv_topl (fun v65 ev65 => ?_)
                      have dF := h_ldiv ev65 (by rw [jv62]; omega) (by omega) (by rw [jv62]; exact (h_gd h63p1).2)
                      rw [jv62] at dF
                      exact W.lret (v := v65) hx hb hr (fun t ht hW => ⟨v65, rfl, (by rw [atb, ← ef0_30]; exact Or.inr (Or.inr ⟨by omega, by omega, (by obtain ⟨qa, hqa⟩ := (h_gd h63p1).1; exact ⟨v13.toInt, qa, v65.toInt, plf, q_red.of (by omega) (by omega) (by omega) h63p1 hqa.symm dF fin.2.2, Or.inr ⟨by omega, rfl⟩⟩)⟩)), ht⟩) (fun _ h => by cases h) dX12_chance_275
                    · have ic64 := (xi_eq c64 h_x (by decide) : x_t = 0)
                      refine lv_lload hx hb dX12_chance_262 (lv_at hl 2 rfl) ?_
                      refine lv_lload hx hb dX12_chance_264 (lv_at hl 0 rfl) ?_
                      refine lv_ldiv hx hb dX12_chance_266 (h_lne0 (by omega)) ?_
                      refine lv_topl (fun v66 ev66 => ?_)
                      have dF := h_ldiv ev66 (by rw [jv61]; omega) (by omega) (by rw [jv61]; exact (h_gd h63p1).1)
                      rw [jv61] at dF
                      refine lv_goto (tgt := 275) hx hb dX12_chance_267 (by decide) ?_
                      exact W.lret (v := v66) hx hb hr (fun t ht hW => ⟨v66, rfl, (by rw [atb, ← ef0_30]; exact Or.inr (Or.inr ⟨by omega, by omega, (by obtain ⟨qb, hqb⟩ := (h_gd h63p1).2; exact ⟨v13.toInt, v66.toInt, qb, plf, q_red.of (by omega) (by omega) (by omega) h63p1 dF hqb.symm fin.2.2, Or.inl ⟨by omega, rfl⟩⟩)⟩)), ht⟩) (fun _ h => by cases h) dX12_chance_275
                · have ic18 := (xi_eq c18 rfl (by decide) : rh17.toInt = 0)
                  refine lv_iload hx hb dX12_chance_81 (lv_at hl 7 rfl) ?_
                  refine lv_iload_n hx hb dX12_chance_83 rfl (lv_at hl 5 rfl) ?_
                  refine lv_icmp_ne (tgt := 91) hx hb dX12_chance_84 (by decide) (fun c67 => ?_) (fun c67 => ?_)
                  · have ic67 := (xi_ne c67 rfl h_k : v13.toInt ≠ k_t)
                    refine lv_lconst (v := 0) hx hb dX12_chance_91 (by decide) ?_
                    refine lv_lstore (lv' := [(5, .long 0), (9, .int rh16), (7, .long 1), (0, .ref a0), (1, .int c), (2, .int k), (3, .int x), (4, .int v13)]) hx hb dX12_chance_92 hl (by decide) rfl (fun ls hl => ?_)
                    refine lv_goto (tgt := 249) hx hb dX12_chance_94 (by decide) ?_
                    have fin : (0 ≤ (0 : Int) ∧ (0 : Int) ≤ 9000000000000000000) ∧ (0 < (1 : Int) ∧ (1 : Int) ≤ 9000000000000000000) ∧ (0 : Int) * q_chD u_ (v13.toInt) k_t = q_chN u_ (v13.toInt) k_t * (1 : Int) := by
                      exact q_cfin0 (by omega) (by decide) (by omega)
                    refine lv_lload hx hb dX12_chance_249 (lv_at hl 0 rfl) ?_
                    refine lv_lload hx hb dX12_chance_251 (lv_at hl 2 rfl) ?_
                    refine vp_callSl (W.runS (As := [.long 0, .long 1]) (rest := []) ⟨hx, hb, hml, hown, hts⟩ (tX12_commonB l E X A z I0 L0 0 (0) (by decide) 1 (1) (by decide) (⟨⟨by omega, by omega⟩, by omega⟩)) (va_cwS 2 hts gX12_chance_X12_common rfl rfl rfl (by decide +kernel) ⟨Nat.le_of_ble_eq_true rfl, Nat.le_of_ble_eq_true rfl⟩) ⟨h_blind _ _ _ _ _ _ _, h_pre _ hE hk hX hA hI hR g⟩ rfl rfl hl.1 rfl (lv_room (Nat.le_of_ble_eq_true rfl)) dX12_chance_253 ⟨Nat.le_of_ble_eq_true rfl, Nat.le_of_ble_eq_true rfl⟩) (fun rh68 h68 => ?_)
                    obtain ⟨h68p0, h68p1⟩ := h68
                    have jrh68 : -9223372036854775808 ≤ rh68.toInt := Int64.le_toInt _
                    refine lv_lstore (lv' := [(10, .long rh68), (5, .long 0), (9, .int rh16), (7, .long 1), (0, .ref a0), (1, .int c), (2, .int k), (3, .int x), (4, .int v13)]) hx hb dX12_chance_256 hl (by decide) rfl (fun ls hl => ?_)
                    refine lv_iload_n hx hb dX12_chance_258 rfl (lv_at hl 7 rfl) ?_
                    refine lv_if_ne (tgt := 270) hx hb dX12_chance_259 (by decide) (fun c69 => ?_) (fun c69 => ?_)
                    · have ic69 := (xi_ne c69 h_x (by decide) : x_t ≠ 0)
                      refine lv_lload hx hb dX12_chance_270 (lv_at hl 3 rfl) ?_
                      refine lv_lload hx hb dX12_chance_272 (lv_at hl 0 rfl) ?_
                      refine lv_ldiv hx hb dX12_chance_274 (h_lne0 (by omega)) ?_
                      refine lv_topl (fun v70 ev70 => ?_)
                      have dF := h_ldiv ev70 (by rw [(show (1 : Int64).toInt = 1 by decide)]; omega) (by omega) (by rw [(show (1 : Int64).toInt = 1 by decide)]; exact (h_gd h68p1).2)
                      rw [(show (1 : Int64).toInt = 1 by decide)] at dF
                      exact W.lret (v := v70) hx hb hr (fun t ht hW => ⟨v70, rfl, (by rw [atb, ← ef0_30]; exact Or.inr (Or.inr ⟨by omega, by omega, (by obtain ⟨qa, hqa⟩ := (h_gd h68p1).1; exact ⟨v13.toInt, qa, v70.toInt, plf, q_red.of (by omega) (by omega) (by omega) h68p1 hqa.symm dF fin.2.2, Or.inr ⟨by omega, rfl⟩⟩)⟩)), ht⟩) (fun _ h => by cases h) dX12_chance_275
                    · have ic69 := (xi_eq c69 h_x (by decide) : x_t = 0)
                      refine lv_lload hx hb dX12_chance_262 (lv_at hl 1 rfl) ?_
                      refine lv_lload hx hb dX12_chance_264 (lv_at hl 0 rfl) ?_
                      refine lv_ldiv hx hb dX12_chance_266 (h_lne0 (by omega)) ?_
                      refine lv_topl (fun v71 ev71 => ?_)
                      have dF := h_ldiv ev71 (by rw [(show (0 : Int64).toInt = 0 by decide)]; omega) (by omega) (by rw [(show (0 : Int64).toInt = 0 by decide)]; exact (h_gd h68p1).1)
                      rw [(show (0 : Int64).toInt = 0 by decide)] at dF
                      refine lv_goto (tgt := 275) hx hb dX12_chance_267 (by decide) ?_
                      exact W.lret (v := v71) hx hb hr (fun t ht hW => ⟨v71, rfl, (by rw [atb, ← ef0_30]; exact Or.inr (Or.inr ⟨by omega, by omega, (by obtain ⟨qb, hqb⟩ := (h_gd h68p1).2; exact ⟨v13.toInt, v71.toInt, qb, plf, q_red.of (by omega) (by omega) (by omega) h68p1 dF hqb.symm fin.2.2, Or.inl ⟨by omega, rfl⟩⟩)⟩)), ht⟩) (fun _ h => by cases h) dX12_chance_275
                  · have ic67 := (xi_eq c67 rfl h_k : v13.toInt = k_t)
                    refine lv_lconst (v := 1) hx hb dX12_chance_87 (by decide) ?_
                    refine lv_goto (tgt := 92) hx hb dX12_chance_88 (by decide) ?_
                    refine lv_lstore (lv' := [(5, .long 1), (9, .int rh16), (7, .long 1), (0, .ref a0), (1, .int c), (2, .int k), (3, .int x), (4, .int v13)]) hx hb dX12_chance_92 hl (by decide) rfl (fun ls hl => ?_)
                    refine lv_goto (tgt := 249) hx hb dX12_chance_94 (by decide) ?_
                    have fin : (0 ≤ (1 : Int) ∧ (1 : Int) ≤ 9000000000000000000) ∧ (0 < (1 : Int) ∧ (1 : Int) ≤ 9000000000000000000) ∧ (1 : Int) * q_chD u_ (v13.toInt) k_t = q_chN u_ (v13.toInt) k_t * (1 : Int) := by
                      exact q_cfin0 (by omega) (by decide) (by omega)
                    refine lv_lload hx hb dX12_chance_249 (lv_at hl 0 rfl) ?_
                    refine lv_lload hx hb dX12_chance_251 (lv_at hl 2 rfl) ?_
                    refine vp_callSl (W.runS (As := [.long 1, .long 1]) (rest := []) ⟨hx, hb, hml, hown, hts⟩ (tX12_commonB l E X A z I0 L0 1 (1) (by decide) 1 (1) (by decide) (⟨⟨by omega, by omega⟩, by omega⟩)) (va_cwS 2 hts gX12_chance_X12_common rfl rfl rfl (by decide +kernel) ⟨Nat.le_of_ble_eq_true rfl, Nat.le_of_ble_eq_true rfl⟩) ⟨h_blind _ _ _ _ _ _ _, h_pre _ hE hk hX hA hI hR g⟩ rfl rfl hl.1 rfl (lv_room (Nat.le_of_ble_eq_true rfl)) dX12_chance_253 ⟨Nat.le_of_ble_eq_true rfl, Nat.le_of_ble_eq_true rfl⟩) (fun rh72 h72 => ?_)
                    obtain ⟨h72p0, h72p1⟩ := h72
                    have jrh72 : -9223372036854775808 ≤ rh72.toInt := Int64.le_toInt _
                    refine lv_lstore (lv' := [(10, .long rh72), (5, .long 1), (9, .int rh16), (7, .long 1), (0, .ref a0), (1, .int c), (2, .int k), (3, .int x), (4, .int v13)]) hx hb dX12_chance_256 hl (by decide) rfl (fun ls hl => ?_)
                    refine lv_iload_n hx hb dX12_chance_258 rfl (lv_at hl 7 rfl) ?_
                    refine lv_if_ne (tgt := 270) hx hb dX12_chance_259 (by decide) (fun c73 => ?_) (fun c73 => ?_)
                    · have ic73 := (xi_ne c73 h_x (by decide) : x_t ≠ 0)
                      refine lv_lload hx hb dX12_chance_270 (lv_at hl 3 rfl) ?_
                      refine lv_lload hx hb dX12_chance_272 (lv_at hl 0 rfl) ?_
                      refine lv_ldiv hx hb dX12_chance_274 (h_lne0 (by omega)) ?_
                      refine lv_topl (fun v74 ev74 => ?_)
                      have dF := h_ldiv ev74 (by rw [(show (1 : Int64).toInt = 1 by decide)]; omega) (by omega) (by rw [(show (1 : Int64).toInt = 1 by decide)]; exact (h_gd h72p1).2)
                      rw [(show (1 : Int64).toInt = 1 by decide)] at dF
                      exact W.lret (v := v74) hx hb hr (fun t ht hW => ⟨v74, rfl, (by rw [atb, ← ef0_30]; exact Or.inr (Or.inr ⟨by omega, by omega, (by obtain ⟨qa, hqa⟩ := (h_gd h72p1).1; exact ⟨v13.toInt, qa, v74.toInt, plf, q_red.of (by omega) (by omega) (by omega) h72p1 hqa.symm dF fin.2.2, Or.inr ⟨by omega, rfl⟩⟩)⟩)), ht⟩) (fun _ h => by cases h) dX12_chance_275
                    · have ic73 := (xi_eq c73 h_x (by decide) : x_t = 0)
                      refine lv_lload hx hb dX12_chance_262 (lv_at hl 1 rfl) ?_
                      refine lv_lload hx hb dX12_chance_264 (lv_at hl 0 rfl) ?_
                      refine lv_ldiv hx hb dX12_chance_266 (h_lne0 (by omega)) ?_
                      refine lv_topl (fun v75 ev75 => ?_)
                      have dF := h_ldiv ev75 (by rw [(show (1 : Int64).toInt = 1 by decide)]; omega) (by omega) (by rw [(show (1 : Int64).toInt = 1 by decide)]; exact (h_gd h72p1).1)
                      rw [(show (1 : Int64).toInt = 1 by decide)] at dF
                      refine lv_goto (tgt := 275) hx hb dX12_chance_267 (by decide) ?_
                      exact W.lret (v := v75) hx hb hr (fun t ht hW => ⟨v75, rfl, (by rw [atb, ← ef0_30]; exact Or.inr (Or.inr ⟨by omega, by omega, (by obtain ⟨qb, hqb⟩ := (h_gd h72p1).2; exact ⟨v13.toInt, v75.toInt, qb, plf, q_red.of (by omega) (by omega) (by omega) h72p1 dF hqb.symm fin.2.2, Or.inl ⟨by omega, rfl⟩⟩)⟩)), ht⟩) (fun _ h => by cases h) dX12_chance_275
              · have ic15 := (xi_ne c15 rfl h_c : v14.toInt ≠ c_t)
                obtain ⟨v76, ev76⟩ : ∃ z : Int32, z = v13 + 1 := ⟨_, rfl⟩
                have jv76 : v76.toInt = v13.toInt + 1 := xi_add ev76 rfl (by decide) (by omega) (by omega)
                refine lv_iinc (v := v76) (lv' := [(4, .int v76), (0, .ref a0), (1, .int c), (2, .int k), (3, .int x)]) hx hb dX12_chance_56 hl (k := 4) rfl (by rw [ev76]; rfl) (by decide) rfl (fun ls hl => ?_)
                refine lv_goto (tgt := 45) hx hb dX12_chance_59 (by decide) ?_
                exact ih45 _ v76 (lv_sub hl [1, 2, 3, 4, 0] rfl) (by omega) (by omega) (q_fst hx45_1 ev14 rfl (by omega) (by omega) (by omega)) (by omega)
          have kc77 : (0 : Int32).toInt = 0 := by decide
          exact loop45_0 _ _ (0) (lv_sub hl [1, 2, 3, 4, 0] rfl) ⟨by decide, by decide⟩ (by omega) (fun k hk => absurd hk (by have h9 : (0 : Int32).toInt = 0 := (by decide); omega)) (show (8 - (0 : Int)) < (((8 - (0 : Int)).toNat + 1 : Nat) : Int) by omega)
        · have ic12 := (xi_eq c12 rfl (by decide) : f0_30.toInt = 0)
          refine lv_ldc2 (v := (-4)) hx hb hown (hts (.constantLong RX12 317 (-4)) (by decide +kernel)) dX12_chance_38 ?_
          exact W.lret (v := (-4)) hx hb hr (fun t ht hW => ⟨(-4), rfl, (by rw [atb, ← ef0_30]; exact Or.inr (Or.inl ⟨by omega, by omega, by decide⟩)), ht⟩) (fun _ h => by cases h) dX12_chance_41

