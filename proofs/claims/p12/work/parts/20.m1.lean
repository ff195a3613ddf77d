set_option maxHeartbeats 4000000 in
set_option maxRecDepth 100000 in
theorem tX12_in (l : Launch) (E : tE) (X : tX) (A : Nat → Prop) (z : tZ) (I0 : tI) (L0 : tL) (x : Int64) (x_t : Int) (h_x : x.toInt = x_t) (y : Int64) (y_t : Int) (h_y : y.toInt = y_t) (w : Int64) (w_t : Int) (h_w : w.toInt = w_t) : Met l yX12_in wsX12_in ({ frames := 1, cells := 0, slots := 0, locals := 64 }) (va_Pc [.long x, .long y, .long w] (h_P E X A z I0 L0)) (vp_Si (fun r => ((r = 0 ∧ ¬ (y_t ≤ x_t ∧ x_t ≤ w_t)) ∨ (r = 1 ∧ y_t ≤ x_t ∧ x_t ≤ w_t)))) 0 0 (fun _ => False) := by
  refine Met.ofW (cc := cX12_in) (maxL := 6) (ret := (some .boolean)) (by decide) rfl ?_
  intro pr_ ev_ s m args below meth cd_ s₁ B hml hv
  obtain ⟨rfl, hE, hk, hX, hA, hK, hI, hR, hB0⟩ := hv
  have g : h_G h_so h_fk E A z I0 L0 s s.heap s.heap [] := ⟨hK, va_S.rf, hB0⟩
  have hx := B.exec
  have hb := B.bytes
  have hr := B.returns
  have hts := atoms_spec (ws := wsX12_in) B.pre
  have hown : s.vm.findClass RX12 = some m.cls := findClass_of_methodNamed B.named
  have hlocks := B.notSynchronized
  have hl := lv_entry ([.long x, .long y, .long w]) (n := 6) (Nat.le_of_ble_eq_true rfl)
  rw [lg_entry_eq]
  generalize (lg_sl ([.long x, .long y, .long w]) ++ List.replicate (6 - (lg_sl ([.long x, .long y, .long w])).length) Slot.unset).toArray = ls at hl ⊢
  have hl : lv_has ls 6 [(0, .long x), (2, .long y), (4, .long w)] := hl
  refine lv_lload_n hx hb dX12_in_0 rfl (lv_at hl 0 rfl) ?_
  refine lv_lload_n hx hb dX12_in_1 rfl (lv_at hl 1 rfl) ?_
  refine W.lcmp hx hb dX12_in_2 ?_
  refine lv_if_lt (tgt := 17) hx hb dX12_in_3 (by decide) (fun c1 => ?_) (fun c1 => ?_)
  · have ic1 : x.toInt < y.toInt := xl_lt c1
    rw [h_x] at ic1
    rw [h_y] at ic1
    refine lv_iconst (v := 0) hx hb dX12_in_17 (by decide) ?_
    exact W.zret (v := 0) hx hb hr (by decide) (fun t ht hW => ⟨0, rfl, (by exact Or.inl ⟨rfl, by omega⟩), ht⟩) (fun _ h => by cases h) dX12_in_18
  · have ic1 : y.toInt ≤ x.toInt := xl_nlt c1
    rw [h_y] at ic1
    rw [h_x] at ic1
    refine lv_lload_n hx hb dX12_in_6 rfl (lv_at hl 0 rfl) ?_
    refine lv_lload hx hb dX12_in_7 (lv_at hl 2 rfl) ?_
    refine W.lcmp hx hb dX12_in_9 ?_
    refine lv_if_gt (tgt := 17) hx hb dX12_in_10 (by decide) (fun c2 => ?_) (fun c2 => ?_)
    · have ic2 : w.toInt < x.toInt := xl_gt c2
      rw [h_w] at ic2
      rw [h_x] at ic2
      refine lv_iconst (v := 0) hx hb dX12_in_17 (by decide) ?_
      exact W.zret (v := 0) hx hb hr (by decide) (fun t ht hW => ⟨0, rfl, (by exact Or.inl ⟨rfl, by omega⟩), ht⟩) (fun _ h => by cases h) dX12_in_18
    · have ic2 : x.toInt ≤ w.toInt := xl_ngt c2
      rw [h_x] at ic2
      rw [h_w] at ic2
      refine lv_iconst (v := 1) hx hb dX12_in_13 (by decide) ?_
      refine lv_goto (tgt := 18) hx hb dX12_in_14 (by decide) ?_
      exact W.zret (v := 1) hx hb hr (by decide) (fun t ht hW => ⟨1, rfl, (by exact Or.inr (⟨rfl, by omega⟩)), ht⟩) (fun _ h => by cases h) dX12_in_18
set_option maxHeartbeats 4000000 in
set_option maxRecDepth 100000 in
theorem tX12_isSmall (l : Launch) (E : tE) (X : tX) (A : Nat → Prop) (z : tZ) (I0 : tI) (L0 : tL) (c : Int32) (c_t : Int) (h_c : c.toInt = c_t) : Met l yX12_isSmall wsX12_isSmall ({ frames := 1, cells := 0, slots := 0, locals := 64 }) (va_Pc [.int c] (h_P E X A z I0 L0)) (vp_Si (fun r => ((r = 0 ∧ True) ∨ (r = 1 ∧ 97 ≤ c_t ∧ c_t ≤ 122)))) 0 0 (fun _ => False) := by
  refine Met.ofW (cc := cX12_isSmall) (maxL := 1) (ret := (some .boolean)) (by decide) rfl ?_
  intro pr_ ev_ s m args below meth cd_ s₁ B hml hv
  obtain ⟨rfl, hE, hk, hX, hA, hK, hI, hR, hB0⟩ := hv
  have g : h_G h_so h_fk E A z I0 L0 s s.heap s.heap [] := ⟨hK, va_S.rf, hB0⟩
  have hx := B.exec
  have hb := B.bytes
  have hr := B.returns
  have hts := atoms_spec (ws := wsX12_isSmall) B.pre
  have hown : s.vm.findClass RX12 = some m.cls := findClass_of_methodNamed B.named
  have hlocks := B.notSynchronized
  have hl := lv_entry ([.int c]) (n := 1) (Nat.le_of_ble_eq_true rfl)
  rw [lg_entry_eq]
  generalize (lg_sl ([.int c]) ++ List.replicate (1 - (lg_sl ([.int c])).length) Slot.unset).toArray = ls at hl ⊢
  have hl : lv_has ls 1 [(0, .int c)] := hl
  have b_c : -2147483648 ≤ c_t ∧ c_t ≤ 2147483647 := h_c ▸ ⟨xi_lo c, Int.le_of_lt_add_one (xi_hi c)⟩
  refine lv_iload_n hx hb dX12_isSmall_0 rfl (lv_at hl 0 rfl) ?_
  refine lv_bipush (v := 97) hx hb dX12_isSmall_1 (by decide) ?_
  refine lv_icmp_lt (tgt := 16) hx hb dX12_isSmall_3 (by decide) (fun c1 => ?_) (fun c1 => ?_)
  · have ic1 := (xi_lt c1 h_c (by decide) : c_t < 97)
    refine lv_iconst (v := 0) hx hb dX12_isSmall_16 (by decide) ?_
    exact W.zret (v := 0) hx hb hr (by decide) (fun t ht hW => ⟨0, rfl, (by exact Or.inl ⟨rfl, trivial⟩), ht⟩) (fun _ h => by cases h) dX12_isSmall_17
  · have ic1 := (xi_nlt c1 h_c (by decide) : 97 ≤ c_t)
    refine lv_iload_n hx hb dX12_isSmall_6 rfl (lv_at hl 0 rfl) ?_
    refine lv_bipush (v := 122) hx hb dX12_isSmall_7 (by decide) ?_
    refine lv_icmp_gt (tgt := 16) hx hb dX12_isSmall_9 (by decide) (fun c2 => ?_) (fun c2 => ?_)
    · have ic2 := (xi_lt c2 (by decide) h_c : 122 < c_t)
      refine lv_iconst (v := 0) hx hb dX12_isSmall_16 (by decide) ?_
      exact W.zret (v := 0) hx hb hr (by decide) (fun t ht hW => ⟨0, rfl, (by exact Or.inl ⟨rfl, trivial⟩), ht⟩) (fun _ h => by cases h) dX12_isSmall_17
    · have ic2 := (xi_nlt c2 (by decide) h_c : c_t ≤ 122)
      refine lv_iconst (v := 1) hx hb dX12_isSmall_12 (by decide) ?_
      refine lv_goto (tgt := 17) hx hb dX12_isSmall_13 (by decide) ?_
      exact W.zret (v := 1) hx hb hr (by decide) (fun t ht hW => ⟨1, rfl, (by exact Or.inr (⟨rfl, by omega⟩)), ht⟩) (fun _ h => by cases h) dX12_isSmall_17
set_option maxHeartbeats 4000000 in
set_option maxRecDepth 100000 in
theorem tX12_isDigit (l : Launch) (E : tE) (X : tX) (A : Nat → Prop) (z : tZ) (I0 : tI) (L0 : tL) (c : Int32) (c_t : Int) (h_c : c.toInt = c_t) : Met l yX12_isDigit wsX12_isDigit ({ frames := 1, cells := 0, slots := 0, locals := 64 }) (va_Pc [.int c] (h_P E X A z I0 L0)) (vp_Si (fun r => ((r = 0 ∧ True) ∨ (r = 1 ∧ 48 ≤ c_t ∧ c_t ≤ 57)))) 0 0 (fun _ => False) := by
  refine Met.ofW (cc := cX12_isDigit) (maxL := 1) (ret := (some .boolean)) (by decide) rfl ?_
  intro pr_ ev_ s m args below meth cd_ s₁ B hml hv
  obtain ⟨rfl, hE, hk, hX, hA, hK, hI, hR, hB0⟩ := hv
  have g : h_G h_so h_fk E A z I0 L0 s s.heap s.heap [] := ⟨hK, va_S.rf, hB0⟩
  have hx := B.exec
  have hb := B.bytes
  have hr := B.returns
  have hts := atoms_spec (ws := wsX12_isDigit) B.pre
  have hown : s.vm.findClass RX12 = some m.cls := findClass_of_methodNamed B.named
  have hlocks := B.notSynchronized
  have hl := lv_entry ([.int c]) (n := 1) (Nat.le_of_ble_eq_true rfl)
  rw [lg_entry_eq]
  generalize (lg_sl ([.int c]) ++ List.replicate (1 - (lg_sl ([.int c])).length) Slot.unset).toArray = ls at hl ⊢
  have hl : lv_has ls 1 [(0, .int c)] := hl
  have b_c : -2147483648 ≤ c_t ∧ c_t ≤ 2147483647 := h_c ▸ ⟨xi_lo c, Int.le_of_lt_add_one (xi_hi c)⟩
  refine lv_iload_n hx hb dX12_isDigit_0 rfl (lv_at hl 0 rfl) ?_
  refine lv_bipush (v := 48) hx hb dX12_isDigit_1 (by decide) ?_
  refine lv_icmp_lt (tgt := 16) hx hb dX12_isDigit_3 (by decide) (fun c1 => ?_) (fun c1 => ?_)
  · have ic1 := (xi_lt c1 h_c (by decide) : c_t < 48)
    refine lv_iconst (v := 0) hx hb dX12_isDigit_16 (by decide) ?_
    exact W.zret (v := 0) hx hb hr (by decide) (fun t ht hW => ⟨0, rfl, (by exact Or.inl ⟨rfl, trivial⟩), ht⟩) (fun _ h => by cases h) dX12_isDigit_17
  · have ic1 := (xi_nlt c1 h_c (by decide) : 48 ≤ c_t)
    refine lv_iload_n hx hb dX12_isDigit_6 rfl (lv_at hl 0 rfl) ?_
    refine lv_bipush (v := 57) hx hb dX12_isDigit_7 (by decide) ?_
    refine lv_icmp_gt (tgt := 16) hx hb dX12_isDigit_9 (by decide) (fun c2 => ?_) (fun c2 => ?_)
    · have ic2 := (xi_lt c2 (by decide) h_c : 57 < c_t)
      refine lv_iconst (v := 0) hx hb dX12_isDigit_16 (by decide) ?_
      exact W.zret (v := 0) hx hb hr (by decide) (fun t ht hW => ⟨0, rfl, (by exact Or.inl ⟨rfl, trivial⟩), ht⟩) (fun _ h => by cases h) dX12_isDigit_17
    · have ic2 := (xi_nlt c2 (by decide) h_c : c_t ≤ 57)
      refine lv_iconst (v := 1) hx hb dX12_isDigit_12 (by decide) ?_
      refine lv_goto (tgt := 17) hx hb dX12_isDigit_13 (by decide) ?_
      exact W.zret (v := 1) hx hb hr (by decide) (fun t ht hW => ⟨1, rfl, (by exact Or.inr (⟨rfl, by omega⟩)), ht⟩) (fun _ h => by cases h) dX12_isDigit_17
set_option maxHeartbeats 4000000 in
set_option maxRecDepth 100000 in
theorem tX12_isClub (l : Launch) (E : tE) (X : tX) (A : Nat → Prop) (z : tZ) (I0 : tI) (L0 : tL) (c : Int32) (c_t : Int) (h_c : c.toInt = c_t) : Met l yX12_isClub wsX12_isClub ({ frames := 2, cells := 0, slots := 0, locals := 128 }) (va_Pc [.int c] (h_P E X A z I0 L0)) (vp_Si (fun r => ((r = 0 ∧ ¬ (0 ≤ c_t ∧ c_t ≤ 7)) ∨ (r = 1 ∧ 0 ≤ c_t ∧ c_t ≤ 7)))) 0 0 (fun _ => False) := by
  refine Met.ofW (cc := cX12_isClub) (maxL := 1) (ret := (some .boolean)) (by decide) rfl ?_
  intro pr_ ev_ s m args below meth cd_ s₁ B hml hv
  obtain ⟨rfl, hE, hk, hX, hA, hK, hI, hR, hB0⟩ := hv
  have g : h_G h_so h_fk E A z I0 L0 s s.heap s.heap [] := ⟨hK, va_S.rf, hB0⟩
  have hx := B.exec
  have hb := B.bytes
  have hr := B.returns
  have hts := atoms_spec (ws := wsX12_isClub) B.pre
  have hown : s.vm.findClass RX12 = some m.cls := findClass_of_methodNamed B.named
  have hlocks := B.notSynchronized
  have hl := lv_entry ([.int c]) (n := 1) (Nat.le_of_ble_eq_true rfl)
  rw [lg_entry_eq]
  generalize (lg_sl ([.int c]) ++ List.replicate (1 - (lg_sl ([.int c])).length) Slot.unset).toArray = ls at hl ⊢
  have hl : lv_has ls 1 [(0, .int c)] := hl
  have b_c : -2147483648 ≤ c_t ∧ c_t ≤ 2147483647 := h_c ▸ ⟨xi_lo c, Int.le_of_lt_add_one (xi_hi c)⟩
  refine lv_iload_n hx hb dX12_isClub_0 rfl (lv_at hl 0 rfl) ?_
  refine lv_i2l hx hb dX12_isClub_1 rfl ?_
  refine lv_topl (fun v1 ev1 => ?_)
  have jv1 : v1.toInt = c_t := by rw [ev1, xi_64]; exact h_c
  refine lv_lconst (v := 0) hx hb dX12_isClub_2 (by decide) ?_
  refine lv_ldc2 (v := 7) hx hb hown (hts (.constantLong RX12 205 (7)) (by decide +kernel)) dX12_isClub_3 ?_
  refine vp_callSi (W.runS (As := [.long v1, .long 0, .long 7]) (rest := []) ⟨hx, hb, hml, hown, hts⟩ (tX12_in l E X A z I0 L0 v1 (c_t) jv1 0 (0) (by decide) 7 (7) (by decide)) (va_cwS 3 hts gX12_isClub_X12_in rfl rfl rfl (by decide +kernel) ⟨Nat.le_of_ble_eq_true rfl, Nat.le_of_ble_eq_true rfl⟩) ⟨h_blind _ _ _ _ _ _ _, h_pre _ hE hk hX hA hI hR g⟩ rfl rfl hl.1 rfl (lv_room (Nat.le_of_ble_eq_true rfl)) dX12_isClub_6 ⟨Nat.le_of_ble_eq_true rfl, Nat.le_of_ble_eq_true rfl⟩) (fun rh2 h2 => ?_)
  rcases h2 with ⟨rfl, h2⟩ | ⟨rfl, h2⟩
  · skip
    exact W.zret (v := 0) hx hb hr (by decide) (fun t ht hW => ⟨0, rfl, (by exact Or.inl ⟨rfl, by omega⟩), ht⟩) (fun _ h => by cases h) dX12_isClub_9
  · skip
    exact W.zret (v := 1) hx hb hr (by decide) (fun t ht hW => ⟨1, rfl, (by exact Or.inr (⟨rfl, by omega⟩)), ht⟩) (fun _ h => by cases h) dX12_isClub_9
set_option maxHeartbeats 4000000 in
set_option maxRecDepth 100000 in
theorem tX12_isPlayer (l : Launch) (E : tE) (X : tX) (A : Nat → Prop) (z : tZ) (I0 : tI) (L0 : tL) (a0 : Nat) (t_a0 : z.ty a0 = 13) (p : Int32) (p_t : Int) (h_p : p.toInt = p_t) : Met l yX12_isPlayer wsX12_isPlayer ({ frames := 2, cells := 0, slots := 0, locals := 128 }) (va_Pc [.ref a0, .int p] (h_P E X A z I0 L0)) (vp_Si (fun r => ((r = 0 ∧ True) ∨ (r = 1 ∧ 0 ≤ p_t ∧ p_t ≤ 59)))) 0 0 (fun _ => False) := by
  refine Met.ofW (cc := cX12_isPlayer) (maxL := 2) (ret := (some .boolean)) (by decide) rfl ?_
  intro pr_ ev_ s m args below meth cd_ s₁ B hml hv
  obtain ⟨rfl, hE, hk, hX, hA, hK, hI, hR, hB0⟩ := hv
  have g : h_G h_so h_fk E A z I0 L0 s s.heap s.heap [] := ⟨hK, va_S.rf, hB0⟩
  have hx := B.exec
  have hb := B.bytes
  have hr := B.returns
  have hts := atoms_spec (ws := wsX12_isPlayer) B.pre
  have hown : s.vm.findClass RX12 = some m.cls := findClass_of_methodNamed B.named
  have hlocks := B.notSynchronized
  have iX12 : ∀ w ∈ u_ws RX12 TX12 51, w ∈ wsX12_isPlayer := by decide +kernel
  have hl := lv_entry ([.ref a0, .int p]) (n := 2) (Nat.le_of_ble_eq_true rfl)
  rw [lg_entry_eq]
  generalize (lg_sl ([.ref a0, .int p]) ++ List.replicate (2 - (lg_sl ([.ref a0, .int p])).length) Slot.unset).toArray = ls at hl ⊢
  have hl : lv_has ls 2 [(0, .ref a0), (1, .int p)] := hl
  have b_p : -2147483648 ≤ p_t ∧ p_t ≤ 2147483647 := h_p ▸ ⟨xi_lo p, Int.le_of_lt_add_one (xi_hi p)⟩
  refine lv_iload_n hx hb dX12_isPlayer_0 rfl (lv_at hl 1 rfl) ?_
  refine lv_i2l hx hb dX12_isPlayer_1 rfl ?_
  refine lv_topl (fun v1 ev1 => ?_)
  have jv1 : v1.toInt = p_t := by rw [ev1, xi_64]; exact h_p
  refine lv_lconst (v := 0) hx hb dX12_isPlayer_2 (by decide) ?_
  refine lv_aload_n hx hb dX12_isPlayer_3 rfl (lv_at hl 0 rfl) ?_
  refine h_get (v := .int (I0 a0 13)) hx hb hts iX12 hown g t_a0 (by decide) so_13 rfl 13 (by decide) (hts (.fieldLink RX12 202 "CapLeagueModel" "players" "I") (by decide +kernel)) rfl dX12_isPlayer_4 rfl ?_
  refine lv_topi (fun v2 ev2 => ?_)
  have jv2 := hI.rd a0 13 t_a0 ev2 (rfl : h_bd 13 13 = (0, 60))
  refine lv_iconst (v := 1) hx hb dX12_isPlayer_7 (by decide) ?_
  refine lv_isub hx hb dX12_isPlayer_8 ?_
  refine lv_topi (fun v3 ev3 => ?_)
  have jv3 : v3.toInt = v2.toInt - 1 := xi_sub ev3 rfl (by decide) (by omega) (by omega)
  refine lv_i2l hx hb dX12_isPlayer_9 rfl ?_
  refine lv_topl (fun v4 ev4 => ?_)
  have jv4 : v4.toInt = v3.toInt := by rw [ev4, xi_64]
  refine vp_callSi (W.runS (As := [.long v1, .long 0, .long v4]) (rest := []) ⟨hx, hb, hml, hown, hts⟩ (tX12_in l E X A z I0 L0 v1 (p_t) jv1 0 (0) (by decide) v4 (v3.toInt) jv4) (va_cwS 3 hts gX12_isPlayer_X12_in rfl rfl rfl (by decide +kernel) ⟨Nat.le_of_ble_eq_true rfl, Nat.le_of_ble_eq_true rfl⟩) ⟨h_blind _ _ _ _ _ _ _, h_pre _ hE hk hX hA hI hR g⟩ rfl rfl hl.1 rfl (lv_room (Nat.le_of_ble_eq_true rfl)) dX12_isPlayer_10 ⟨Nat.le_of_ble_eq_true rfl, Nat.le_of_ble_eq_true rfl⟩) (fun rh5 h5 => ?_)
  rcases h5 with ⟨rfl, h5⟩ | ⟨rfl, h5⟩
  · skip
    exact W.zret (v := 0) hx hb hr (by decide) (fun t ht hW => ⟨0, rfl, (by exact Or.inl ⟨rfl, trivial⟩), ht⟩) (fun _ h => by cases h) dX12_isPlayer_13
  · skip
    exact W.zret (v := 1) hx hb hr (by decide) (fun t ht hW => ⟨1, rfl, (by exact Or.inr (⟨rfl, by omega⟩)), ht⟩) (fun _ h => by cases h) dX12_isPlayer_13
set_option maxHeartbeats 4000000 in
set_option maxRecDepth 100000 in
theorem tX12_plain (l : Launch) (E : tE) (X : tX) (A : Nat → Prop) (z : tZ) (I0 : tI) (L0 : tL) (k : Int32) (k_t : Int) (h_k : k.toInt = k_t) : Met l yX12_plain wsX12_plain ({ frames := 1, cells := 0, slots := 0, locals := 64 }) (va_Pc [.int k] (h_P E X A z I0 L0)) (vp_Si (fun r => True)) 0 0 (fun _ => False) := by
  refine Met.ofW (cc := cX12_plain) (maxL := 1) (ret := (some .int)) (by decide) rfl ?_
  intro pr_ ev_ s m args below meth cd_ s₁ B hml hv
  obtain ⟨rfl, hE, hk, hX, hA, hK, hI, hR, hB0⟩ := hv
  have g : h_G h_so h_fk E A z I0 L0 s s.heap s.heap [] := ⟨hK, va_S.rf, hB0⟩
  have hx := B.exec
  have hb := B.bytes
  have hr := B.returns
  have hts := atoms_spec (ws := wsX12_plain) B.pre
  have hown : s.vm.findClass RX12 = some m.cls := findClass_of_methodNamed B.named
  have hlocks := B.notSynchronized
  have hl := lv_entry ([.int k]) (n := 1) (Nat.le_of_ble_eq_true rfl)
  rw [lg_entry_eq]
  generalize (lg_sl ([.int k]) ++ List.replicate (1 - (lg_sl ([.int k])).length) Slot.unset).toArray = ls at hl ⊢
  have hl : lv_has ls 1 [(0, .int k)] := hl
  have b_k : -2147483648 ≤ k_t ∧ k_t ≤ 2147483647 := h_k ▸ ⟨xi_lo k, Int.le_of_lt_add_one (xi_hi k)⟩
  refine lv_iload_n hx hb dX12_plain_0 rfl (lv_at hl 0 rfl) ?_
  have qc1 : k.toInt = k_t := h_k
  rcases (show (k.toInt < 0 ∨ 9 < k.toInt) ∨ k.toInt = 0 ∨ k.toInt = 1 ∨ k.toInt = 2 ∨ k.toInt = 3 ∨ k.toInt = 4 ∨ k.toInt = 5 ∨ k.toInt = 6 ∨ k.toInt = 7 ∨ k.toInt = 8 ∨ k.toInt = 9 by omega) with c1 | c1 | c1 | c1 | c1 | c1 | c1 | c1 | c1 | c1 | c1
  · refine lv_tableOut (tgt := 72) hx hb dX12_plain_1 c1 (by decide) ?_
    refine lv_iconst (v := 0) hx hb dX12_plain_72 (by decide) ?_
    exact W.iret (v := 0) hx hb hr (fun t ht hW => ⟨0, rfl, trivial, ht⟩) (fun _ h => by cases h) dX12_plain_73
  · refine lv_tableIn (off := 55) (tgt := 56) hx hb dX12_plain_1 (by omega) (by omega) (by rw [show (k.toInt - 0).toNat = 0 by omega]; rfl) (by decide) ?_
    refine lv_sipush (v := 1000) hx hb dX12_plain_56 (by decide) ?_
    exact W.iret (v := 1000) hx hb hr (fun t ht hW => ⟨1000, rfl, trivial, ht⟩) (fun _ h => by cases h) dX12_plain_59
  · refine lv_tableIn (off := 59) (tgt := 60) hx hb dX12_plain_1 (by omega) (by omega) (by rw [show (k.toInt - 0).toNat = 1 by omega]; rfl) (by decide) ?_
    refine lv_bipush (v := 15) hx hb dX12_plain_60 (by decide) ?_
    exact W.iret (v := 15) hx hb hr (fun t ht hW => ⟨15, rfl, trivial, ht⟩) (fun _ h => by cases h) dX12_plain_62
  · refine lv_tableIn (off := 62) (tgt := 63) hx hb dX12_plain_1 (by omega) (by omega) (by rw [show (k.toInt - 0).toNat = 2 by omega]; rfl) (by decide) ?_
    refine lv_iconst (v := 4) hx hb dX12_plain_63 (by decide) ?_
    exact W.iret (v := 4) hx hb hr (fun t ht hW => ⟨4, rfl, trivial, ht⟩) (fun _ h => by cases h) dX12_plain_64
  · refine lv_tableIn (off := 71) (tgt := 72) hx hb dX12_plain_1 (by omega) (by omega) (by rw [show (k.toInt - 0).toNat = 3 by omega]; rfl) (by decide) ?_
    refine lv_iconst (v := 0) hx hb dX12_plain_72 (by decide) ?_
    exact W.iret (v := 0) hx hb hr (fun t ht hW => ⟨0, rfl, trivial, ht⟩) (fun _ h => by cases h) dX12_plain_73
  · refine lv_tableIn (off := 64) (tgt := 65) hx hb dX12_plain_1 (by omega) (by omega) (by rw [show (k.toInt - 0).toNat = 4 by omega]; rfl) (by decide) ?_
    refine lv_bipush (v := 100) hx hb dX12_plain_65 (by decide) ?_
    exact W.iret (v := 100) hx hb hr (fun t ht hW => ⟨100, rfl, trivial, ht⟩) (fun _ h => by cases h) dX12_plain_67
  · refine lv_tableIn (off := 71) (tgt := 72) hx hb dX12_plain_1 (by omega) (by omega) (by rw [show (k.toInt - 0).toNat = 5 by omega]; rfl) (by decide) ?_
    refine lv_iconst (v := 0) hx hb dX12_plain_72 (by decide) ?_
    exact W.iret (v := 0) hx hb hr (fun t ht hW => ⟨0, rfl, trivial, ht⟩) (fun _ h => by cases h) dX12_plain_73
  · refine lv_tableIn (off := 71) (tgt := 72) hx hb dX12_plain_1 (by omega) (by omega) (by rw [show (k.toInt - 0).toNat = 6 by omega]; rfl) (by decide) ?_
    refine lv_iconst (v := 0) hx hb dX12_plain_72 (by decide) ?_
    exact W.iret (v := 0) hx hb hr (fun t ht hW => ⟨0, rfl, trivial, ht⟩) (fun _ h => by cases h) dX12_plain_73
  · refine lv_tableIn (off := 71) (tgt := 72) hx hb dX12_plain_1 (by omega) (by omega) (by rw [show (k.toInt - 0).toNat = 7 by omega]; rfl) (by decide) ?_
    refine lv_iconst (v := 0) hx hb dX12_plain_72 (by decide) ?_
    exact W.iret (v := 0) hx hb hr (fun t ht hW => ⟨0, rfl, trivial, ht⟩) (fun _ h => by cases h) dX12_plain_73
  · refine lv_tableIn (off := 67) (tgt := 68) hx hb dX12_plain_1 (by omega) (by omega) (by rw [show (k.toInt - 0).toNat = 8 by omega]; rfl) (by decide) ?_
    refine lv_iconst (v := 1) hx hb dX12_plain_68 (by decide) ?_
    exact W.iret (v := 1) hx hb hr (fun t ht hW => ⟨1, rfl, trivial, ht⟩) (fun _ h => by cases h) dX12_plain_69
  · refine lv_tableIn (off := 69) (tgt := 70) hx hb dX12_plain_1 (by omega) (by omega) (by rw [show (k.toInt - 0).toNat = 9 by omega]; rfl) (by decide) ?_
    refine lv_iconst (v := 1) hx hb dX12_plain_70 (by decide) ?_
    exact W.iret (v := 1) hx hb hr (fun t ht hW => ⟨1, rfl, trivial, ht⟩) (fun _ h => by cases h) dX12_plain_71
set_option maxHeartbeats 4000000 in
set_option maxRecDepth 100000 in
theorem tX12_high (l : Launch) (E : tE) (X : tX) (A : Nat → Prop) (z : tZ) (I0 : tI) (L0 : tL) (k : Int32) (k_t : Int) (h_k : k.toInt = k_t) : Met l yX12_high wsX12_high ({ frames := 1, cells := 0, slots := 0, locals := 64 }) (va_Pc [.int k] (h_P E X A z I0 L0)) (vp_Si (fun r => True)) 0 0 (fun _ => False) := by
  refine Met.ofW (cc := cX12_high) (maxL := 1) (ret := (some .int)) (by decide) rfl ?_
  intro pr_ ev_ s m args below meth cd_ s₁ B hml hv
  obtain ⟨rfl, hE, hk, hX, hA, hK, hI, hR, hB0⟩ := hv
  have g : h_G h_so h_fk E A z I0 L0 s s.heap s.heap [] := ⟨hK, va_S.rf, hB0⟩
  have hx := B.exec
  have hb := B.bytes
  have hr := B.returns
  have hts := atoms_spec (ws := wsX12_high) B.pre
  have hown : s.vm.findClass RX12 = some m.cls := findClass_of_methodNamed B.named
  have hlocks := B.notSynchronized
  have hl := lv_entry ([.int k]) (n := 1) (Nat.le_of_ble_eq_true rfl)
  rw [lg_entry_eq]
  generalize (lg_sl ([.int k]) ++ List.replicate (1 - (lg_sl ([.int k])).length) Slot.unset).toArray = ls at hl ⊢
  have hl : lv_has ls 1 [(0, .int k)] := hl
  have b_k : -2147483648 ≤ k_t ∧ k_t ≤ 2147483647 := h_k ▸ ⟨xi_lo k, Int.le_of_lt_add_one (xi_hi k)⟩
  refine lv_iload_n hx hb dX12_high_0 rfl (lv_at hl 0 rfl) ?_
  have qc1 : k.toInt = k_t := h_k
  rcases (show (k.toInt < 0 ∨ 6 < k.toInt) ∨ k.toInt = 0 ∨ k.toInt = 1 ∨ k.toInt = 2 ∨ k.toInt = 3 ∨ k.toInt = 4 ∨ k.toInt = 5 ∨ k.toInt = 6 by omega) with c1 | c1 | c1 | c1 | c1 | c1 | c1 | c1
  · refine lv_tableOut (tgt := 67) hx hb dX12_high_1 c1 (by decide) ?_
    refine lv_sipush (v := 300) hx hb dX12_high_67 (by decide) ?_
    exact W.iret (v := 300) hx hb hr (fun t ht hW => ⟨300, rfl, trivial, ht⟩) (fun _ h => by cases h) dX12_high_70
  · refine lv_tableIn (off := 43) (tgt := 44) hx hb dX12_high_1 (by omega) (by omega) (by rw [show (k.toInt - 0).toNat = 0 by omega]; rfl) (by decide) ?_
    refine lv_ldc (v := 50000) hx hb hown (hts (.constant RX12 169 (50000)) (by decide +kernel)) dX12_high_44 ?_
    exact W.iret (v := 50000) hx hb hr (fun t ht hW => ⟨50000, rfl, trivial, ht⟩) (fun _ h => by cases h) dX12_high_46
  · refine lv_tableIn (off := 46) (tgt := 47) hx hb dX12_high_1 (by omega) (by omega) (by rw [show (k.toInt - 0).toNat = 1 by omega]; rfl) (by decide) ?_
    refine lv_bipush (v := 15) hx hb dX12_high_47 (by decide) ?_
    exact W.iret (v := 15) hx hb hr (fun t ht hW => ⟨15, rfl, trivial, ht⟩) (fun _ h => by cases h) dX12_high_49
  · refine lv_tableIn (off := 49) (tgt := 50) hx hb dX12_high_1 (by omega) (by omega) (by rw [show (k.toInt - 0).toNat = 2 by omega]; rfl) (by decide) ?_
    refine lv_iconst (v := 5) hx hb dX12_high_50 (by decide) ?_
    exact W.iret (v := 5) hx hb hr (fun t ht hW => ⟨5, rfl, trivial, ht⟩) (fun _ h => by cases h) dX12_high_51
  · refine lv_tableIn (off := 51) (tgt := 52) hx hb dX12_high_1 (by omega) (by omega) (by rw [show (k.toInt - 0).toNat = 3 by omega]; rfl) (by decide) ?_
    refine lv_sipush (v := 5000) hx hb dX12_high_52 (by decide) ?_
    exact W.iret (v := 5000) hx hb hr (fun t ht hW => ⟨5000, rfl, trivial, ht⟩) (fun _ h => by cases h) dX12_high_55
  · refine lv_tableIn (off := 55) (tgt := 56) hx hb dX12_high_1 (by omega) (by omega) (by rw [show (k.toInt - 0).toNat = 4 by omega]; rfl) (by decide) ?_
    refine lv_sipush (v := 300) hx hb dX12_high_56 (by decide) ?_
    exact W.iret (v := 300) hx hb hr (fun t ht hW => ⟨300, rfl, trivial, ht⟩) (fun _ h => by cases h) dX12_high_59
  · refine lv_tableIn (off := 59) (tgt := 60) hx hb dX12_high_1 (by omega) (by omega) (by rw [show (k.toInt - 0).toNat = 5 by omega]; rfl) (by decide) ?_
    refine lv_sipush (v := 5000) hx hb dX12_high_60 (by decide) ?_
    exact W.iret (v := 5000) hx hb hr (fun t ht hW => ⟨5000, rfl, trivial, ht⟩) (fun _ h => by cases h) dX12_high_63
  · refine lv_tableIn (off := 63) (tgt := 64) hx hb dX12_high_1 (by omega) (by omega) (by rw [show (k.toInt - 0).toNat = 6 by omega]; rfl) (by decide) ?_
    refine lv_bipush (v := 100) hx hb dX12_high_64 (by decide) ?_
    exact W.iret (v := 100) hx hb hr (fun t ht hW => ⟨100, rfl, trivial, ht⟩) (fun _ h => by cases h) dX12_high_66
set_option maxHeartbeats 4000000 in
set_option maxRecDepth 100000 in
theorem tX12_fault (l : Launch) (E : tE) (X : tX) (A : Nat → Prop) (z : tZ) (I0 : tI) (L0 : tL) (a0 : Nat) (t_a0 : z.ty a0 = 13) (x : Int32) (x_t : Int) (h_x : x.toInt = x_t) : Met l yX12_fault wsX12_fault ({ frames := 1, cells := 0, slots := 0, locals := 64 }) (va_Pc [.ref a0, .int x] (h_P E X A z I0 L0)) (vp_Si (fun r => True)) 0 0 (fun _ => False) := by
  refine Met.ofW (cc := cX12_fault) (maxL := 2) (ret := (some .int)) (by decide) rfl ?_
  intro pr_ ev_ s m args below meth cd_ s₁ B hml hv
  obtain ⟨rfl, hE, hk, hX, hA, hK, hI, hR, hB0⟩ := hv
  have g : h_G h_so h_fk E A z I0 L0 s s.heap s.heap [] := ⟨hK, va_S.rf, hB0⟩
  have hx := B.exec
  have hb := B.bytes
  have hr := B.returns
  have hts := atoms_spec (ws := wsX12_fault) B.pre
  have hown : s.vm.findClass RX12 = some m.cls := findClass_of_methodNamed B.named
  have hlocks := B.notSynchronized
  have iX12 : ∀ w ∈ u_ws RX12 TX12 51, w ∈ wsX12_fault := by decide +kernel
  have hl := lv_entry ([.ref a0, .int x]) (n := 2) (Nat.le_of_ble_eq_true rfl)
  rw [lg_entry_eq]
  generalize (lg_sl ([.ref a0, .int x]) ++ List.replicate (2 - (lg_sl ([.ref a0, .int x])).length) Slot.unset).toArray = ls at hl ⊢
  have hl : lv_has ls 2 [(0, .ref a0), (1, .int x)] := hl
  have b_x : -2147483648 ≤ x_t ∧ x_t ≤ 2147483647 := h_x ▸ ⟨xi_lo x, Int.le_of_lt_add_one (xi_hi x)⟩
  refine lv_iload_n hx hb dX12_fault_0 rfl (lv_at hl 1 rfl) ?_
  refine lv_if_ne (tgt := 11) hx hb dX12_fault_1 (by decide) (fun c1 => ?_) (fun c1 => ?_)
  · have ic1 := (xi_ne c1 h_x (by decide) : x_t ≠ 0)
    refine lv_iload_n hx hb dX12_fault_11 rfl (lv_at hl 1 rfl) ?_
    refine lv_iconst (v := 1) hx hb dX12_fault_12 (by decide) ?_
    refine lv_icmp_ne (tgt := 23) hx hb dX12_fault_13 (by decide) (fun c2 => ?_) (fun c2 => ?_)
    · have ic2 := (xi_ne c2 h_x (by decide) : x_t ≠ 1)
      refine lv_iconst (v := (-1)) hx hb dX12_fault_23 (by decide) ?_
      exact W.iret (v := (-1)) hx hb hr (fun t ht hW => ⟨(-1), rfl, trivial, ht⟩) (fun _ h => by cases h) dX12_fault_24
    · have ic2 := (xi_eq c2 h_x (by decide) : x_t = 1)
      refine lv_aload_n hx hb dX12_fault_16 rfl (lv_at hl 0 rfl) ?_
      refine h_get (v := .int (I0 a0 9)) hx hb hts iX12 hown g t_a0 (by decide) so_13 rfl 9 (by decide) (hts (.fieldLink RX12 13 "CapLeagueModel" "faultPlace" "I") (by decide +kernel)) rfl dX12_fault_17 rfl ?_
      refine lv_topi (fun v3 ev3 => ?_)
      have jv3 := hI.rd a0 9 t_a0 ev3 (rfl : h_bd 13 9 = ((-2147483648), 2147483647))
      refine lv_goto (tgt := 24) hx hb dX12_fault_20 (by decide) ?_
      exact W.iret (v := v3) hx hb hr (fun t ht hW => ⟨v3, rfl, trivial, ht⟩) (fun _ h => by cases h) dX12_fault_24
  · have ic1 := (xi_eq c1 h_x (by decide) : x_t = 0)
    refine lv_aload_n hx hb dX12_fault_4 rfl (lv_at hl 0 rfl) ?_
    refine h_get (v := .int (I0 a0 8)) hx hb hts iX12 hown g t_a0 (by decide) so_13 rfl 8 (by decide) (hts (.fieldLink RX12 166 "CapLeagueModel" "faultKind" "I") (by decide +kernel)) rfl dX12_fault_5 rfl ?_
    refine lv_topi (fun v4 ev4 => ?_)
    have jv4 := hI.rd a0 8 t_a0 ev4 (rfl : h_bd 13 8 = ((-2147483648), 2147483647))
    refine lv_goto (tgt := 24) hx hb dX12_fault_8 (by decide) ?_
    exact W.iret (v := v4) hx hb hr (fun t ht hW => ⟨v4, rfl, trivial, ht⟩) (fun _ h => by cases h) dX12_fault_24
set_option maxHeartbeats 4000000 in
set_option maxRecDepth 100000 in
theorem tX12_end (l : Launch) (E : tE) (X : tX) (A : Nat → Prop) (z : tZ) (I0 : tI) (L0 : tL) (a0 : Nat) (t_a0 : z.ty a0 = 13) (n : Int32) (n_t : Int) (h_n : n.toInt = n_t) : Met l yX12_end wsX12_end ({ frames := 1, cells := 0, slots := 0, locals := 64 }) (va_Pc [.ref a0, .int n] (h_P E X A z I0 L0)) (va_Qi (fun r (I1 : tI) => h_I z I1 ∧ h_F [(13, 1)] z I0 I1 ∧ True) (fun (I1 : tI) t => h_B E A z I1 L0 t) A) 0 0 A := by
  refine Met.ofW (cc := cX12_end) (maxL := 2) (ret := (some .int)) (by decide) rfl ?_
  intro pr_ ev_ s m args below meth cd_ s₁ B hml hv
  obtain ⟨rfl, hE, hk, hX, hA, hK, hI, hR, hB0⟩ := hv
  have g : h_G h_so h_fk E A z I0 L0 s s.heap s.heap [] := ⟨hK, va_S.rf, hB0⟩
  have hF : h_F [(13, 1)] z I0 I0 := h_F.rf
  have hx := B.exec
  have hb := B.bytes
  have hr := B.returns
  have hts := atoms_spec (ws := wsX12_end) B.pre
  have hown : s.vm.findClass RX12 = some m.cls := findClass_of_methodNamed B.named
  have hlocks := B.notSynchronized
  have iX12 : ∀ w ∈ u_ws RX12 TX12 51, w ∈ wsX12_end := by decide +kernel
  have hl := lv_entry ([.ref a0, .int n]) (n := 2) (Nat.le_of_ble_eq_true rfl)
  rw [lg_entry_eq]
  generalize (lg_sl ([.ref a0, .int n]) ++ List.replicate (2 - (lg_sl ([.ref a0, .int n])).length) Slot.unset).toArray = ls at hl ⊢
  have hl : lv_has ls 2 [(0, .ref a0), (1, .int n)] := hl
  have b_n : -2147483648 ≤ n_t ∧ n_t ≤ 2147483647 := h_n ▸ ⟨xi_lo n, Int.le_of_lt_add_one (xi_hi n)⟩
  refine lv_iload_n hx hb dX12_end_0 rfl (lv_at hl 1 rfl) ?_
  refine lv_if_lt (tgt := 12) hx hb dX12_end_1 (by decide) (fun c1 => ?_) (fun c1 => ?_)
  · have ic1 := (xi_lt c1 h_n (by decide) : n_t < 0)
    refine lv_iconst (v := (-1)) hx hb dX12_end_12 (by decide) ?_
    have hS := g.2.1
    exact W.iret (v := (-1)) hx hb hr (fun t ht hW => ⟨⟨(-1), I0, rfl, ⟨hI, hF, trivial⟩, h_ret g ht⟩, hS.F ht⟩) hS.2.2 dX12_end_13
  · have ic1 := (xi_nlt c1 h_n (by decide) : 0 ≤ n_t)
    refine lv_iload_n hx hb dX12_end_4 rfl (lv_at hl 1 rfl) ?_
    refine lv_aload_n hx hb dX12_end_5 rfl (lv_at hl 0 rfl) ?_
    refine h_get (v := .int (I0 a0 1)) hx hb hts iX12 hown g t_a0 (by decide) so_13 rfl 1 (by decide) (hts (.fieldLink RX12 119 "CapLeagueModel" "taped" "I") (by decide +kernel)) rfl dX12_end_6 rfl ?_
    refine lv_topi (fun v2 ev2 => ?_)
    have jv2 := hI.rd a0 1 t_a0 ev2 (rfl : h_bd 13 1 = (0, 500))
    refine lv_icmp_le (tgt := 14) hx hb dX12_end_9 (by decide) (fun c3 => ?_) (fun c3 => ?_)
    · have ic3 := (xi_le c3 h_n rfl : n_t ≤ v2.toInt)
      refine lv_aload_n hx hb dX12_end_14 rfl (lv_at hl 0 rfl) ?_
      refine lv_iload_n hx hb dX12_end_15 rfl (lv_at hl 1 rfl) ?_
      refine h_putI (ty := .int) (v := n) hx hb hts iX12 tyX12 tyX12_ok nmX12 hown g t_a0 (by decide) so_13 rfl 1 (by decide) rfl (hts (.fieldLink RX12 119 "CapLeagueModel" "taped" "I") (by decide +kernel)) rfl rfl (by decide +kernel) rfl rfl dX12_end_16 (fun I4 H locs eI4 g => ?_)
      have hI := hI.wr eI4 t_a0 (rfl : h_bd 13 1 = (0, 500)) (by rw [h_n]; omega) (by rw [h_n]; omega)
      have hF := hF.wr eI4 t_a0 rfl
      refine lv_iload_n hx hb dX12_end_19 rfl (lv_at hl 1 rfl) ?_
      have hS := g.2.1
      exact W.iret (v := n) hx hb hr (fun t ht hW => ⟨⟨n, I4, rfl, ⟨hI, hF, trivial⟩, h_ret g ht⟩, hS.F ht⟩) hS.2.2 dX12_end_20
    · have ic3 := (xi_nle c3 h_n rfl : v2.toInt < n_t)
      refine lv_iconst (v := (-1)) hx hb dX12_end_12 (by decide) ?_
      have hS := g.2.1
      exact W.iret (v := (-1)) hx hb hr (fun t ht hW => ⟨⟨(-1), I0, rfl, ⟨hI, hF, trivial⟩, h_ret g ht⟩, hS.F ht⟩) hS.2.2 dX12_end_13
set_option maxHeartbeats 4000000 in
set_option maxRecDepth 100000 in
theorem tX12_player (l : Launch) (E : tE) (X : tX) (A : Nat → Prop) (z : tZ) (I0 : tI) (L0 : tL) (a0 : Nat) (t_a0 : z.ty a0 = 13) : Met l yX12_player wsX12_player ({ frames := 1, cells := 0, slots := 0, locals := 64 }) (va_Pc [.ref a0] (h_P E X A z I0 L0)) (va_Qi (fun r (I1 : tI) => h_I z I1 ∧ h_F [(1314, 999), (13, 13)] z I0 I1 ∧ True) (fun (I1 : tI) t => h_B E A z I1 L0 t) A) 0 0 A := by
  refine Met.ofW (cc := cX12_player) (maxL := 1) (ret := (some .int)) (by decide) rfl ?_
  intro pr_ ev_ s m args below meth cd_ s₁ B hml hv
  obtain ⟨rfl, hE, hk, hX, hA, hK, hI, hR, hB0⟩ := hv
  have g : h_G h_so h_fk E A z I0 L0 s s.heap s.heap [] := ⟨hK, va_S.rf, hB0⟩
  have hF : h_F [(1314, 999), (13, 13)] z I0 I0 := h_F.rf
  have hx := B.exec
  have hb := B.bytes
  have hr := B.returns
  have hts := atoms_spec (ws := wsX12_player) B.pre
  have hown : s.vm.findClass RX12 = some m.cls := findClass_of_methodNamed B.named
  have hlocks := B.notSynchronized
  have iX12 : ∀ w ∈ u_ws RX12 TX12 51, w ∈ wsX12_player := by decide +kernel
  have hl := lv_entry ([.ref a0]) (n := 1) (Nat.le_of_ble_eq_true rfl)
  rw [lg_entry_eq]
  generalize (lg_sl ([.ref a0]) ++ List.replicate (1 - (lg_sl ([.ref a0])).length) Slot.unset).toArray = ls at hl ⊢
  have hl : lv_has ls 1 [(0, .ref a0)] := hl
  refine lv_aload_n hx hb dX12_player_0 rfl (lv_at hl 0 rfl) ?_
  refine h_get (v := .int (I0 a0 13)) hx hb hts iX12 hown g t_a0 (by decide) so_13 rfl 13 (by decide) (hts (.fieldLink RX12 202 "CapLeagueModel" "players" "I") (by decide +kernel)) rfl dX12_player_1 rfl ?_
  refine lv_topi (fun v1 ev1 => ?_)
  have jv1 := hI.rd a0 13 t_a0 ev1 (rfl : h_bd 13 13 = (0, 60))
  refine lv_bipush (v := 60) hx hb dX12_player_4 (by decide) ?_
  refine lv_icmp_ne (tgt := 12) hx hb dX12_player_6 (by decide) (fun c2 => ?_) (fun c2 => ?_)
  · have ic2 := (xi_ne c2 rfl (by decide) : v1.toInt ≠ 60)
    refine lv_aload_n hx hb dX12_player_12 rfl (lv_at hl 0 rfl) ?_
    obtain ⟨b3, rb3, tb3⟩ := hR.at a0 14 t_a0 (rfl : h_rs 13 14 = some (1314, false)) (by decide)
    refine h_get (v := .ref b3) hx hb hts iX12 hown g t_a0 (by decide) so_13 rfl 14 (by decide) (hts (.fieldLink RX12 25 "CapLeagueModel" "clubOf" "[I") (by decide +kernel)) rfl dX12_player_13 (by show va_rf (z.R a0 14) = _; rw [rb3]; rfl) ?_
    refine lv_aload_n hx hb dX12_player_16 rfl (lv_at hl 0 rfl) ?_
    refine h_get (v := .int v1) hx hb hts iX12 hown g t_a0 (by decide) so_13 rfl 13 (by decide) (hts (.fieldLink RX12 202 "CapLeagueModel" "players" "I") (by decide +kernel)) rfl dX12_player_17 (congrArg Value.int (ev1.symm)) ?_
    refine lv_iconst (v := (-1)) hx hb dX12_player_20 (by decide) ?_
    refine h_ast hx hb g tb3 (by decide) so_1314 (xi_in (by omega) (by omega)) dX12_player_21 (fun I4 H locs eI4 g => ?_)
    have hI := hI.wr eI4 tb3 (rfl : h_bd 1314 _ = ((-1), 7)) (by decide) (by decide)
    have hF := hF.wr eI4 tb3 rfl
    refine lv_aload_n hx hb dX12_player_22 rfl (lv_at hl 0 rfl) ?_
    refine lv_dup hx hb dX12_player_23 rfl ?_
    refine h_get (v := .int v1) hx hb hts iX12 hown g t_a0 (by decide) so_13 rfl 13 (by decide) (hts (.fieldLink RX12 202 "CapLeagueModel" "players" "I") (by decide +kernel)) rfl dX12_player_24 (congrArg Value.int ((h_n1 eI4 t_a0 tb3 (by decide)).trans (ev1.symm))) ?_
    refine lv_iconst (v := 1) hx hb dX12_player_27 (by decide) ?_
    refine lv_iadd hx hb dX12_player_28 ?_
    refine lv_topi (fun v5 ev5 => ?_)
    have jv5 : v5.toInt = v1.toInt + 1 := xi_add ev5 rfl (by decide) (by omega) (by omega)
    refine h_putI (ty := .int) (v := v5) hx hb hts iX12 tyX12 tyX12_ok nmX12 hown g t_a0 (by decide) so_13 rfl 13 (by decide) rfl (hts (.fieldLink RX12 202 "CapLeagueModel" "players" "I") (by decide +kernel)) rfl rfl (by decide +kernel) rfl rfl dX12_player_29 (fun I6 H locs eI6 g => ?_)
    have hI := hI.wr eI6 t_a0 (rfl : h_bd 13 13 = (0, 60)) (by omega) (by omega)
    have hF := hF.wr eI6 t_a0 rfl
    refine lv_aload_n hx hb dX12_player_32 rfl (lv_at hl 0 rfl) ?_
    refine h_get (v := .int v5) hx hb hts iX12 hown g t_a0 (by decide) so_13 rfl 13 (by decide) (hts (.fieldLink RX12 202 "CapLeagueModel" "players" "I") (by decide +kernel)) rfl dX12_player_33 (congrArg Value.int (h_n0 eI6)) ?_
    refine lv_iconst (v := 1) hx hb dX12_player_36 (by decide) ?_
    refine lv_isub hx hb dX12_player_37 ?_
    refine lv_topi (fun v7 ev7 => ?_)
    have jv7 : v7.toInt = v5.toInt - 1 := xi_sub ev7 rfl (by decide) (by omega) (by omega)
    have hS := g.2.1
    exact W.iret (v := v7) hx hb hr (fun t ht hW => ⟨⟨v7, I6, rfl, ⟨hI, hF, trivial⟩, h_ret g ht⟩, hS.F ht⟩) hS.2.2 dX12_player_38
  · have ic2 := (xi_eq c2 rfl (by decide) : v1.toInt = 60)
    refine lv_bipush (v := (-3)) hx hb dX12_player_9 (by decide) ?_
    have hS := g.2.1
    exact W.iret (v := (-3)) hx hb hr (fun t ht hW => ⟨⟨(-3), I0, rfl, ⟨hI, hF, trivial⟩, h_ret g ht⟩, hS.F ht⟩) hS.2.2 dX12_player_11
set_option maxHeartbeats 4000000 in
set_option maxRecDepth 100000 in
theorem tX12_payOf (l : Launch) (E : tE) (X : tX) (A : Nat → Prop) (z : tZ) (I0 : tI) (L0 : tL) (a0 : Nat) (t_a0 : z.ty a0 = 13) (p : Int32) (p_t : Int) (h_p : p.toInt = p_t) (b_p : 0 ≤ p_t ∧ p_t ≤ 59) (y : Int32) (y_t : Int) (h_y : y.toInt = y_t) : Met l yX12_payOf wsX12_payOf ({ frames := 1, cells := 0, slots := 0, locals := 64 }) (va_Pc [.ref a0, .int p, .int y] (h_P E X A z I0 L0)) (vp_Si (fun r => True)) 0 0 (fun _ => False) := by
  refine Met.ofW (cc := cX12_payOf) (maxL := 4) (ret := (some .int)) (by decide) rfl ?_
  intro pr_ ev_ s m args below meth cd_ s₁ B hml hv
  obtain ⟨rfl, hE, hk, hX, hA, hK, hI, hR, hB0⟩ := hv
  have g : h_G h_so h_fk E A z I0 L0 s s.heap s.heap [] := ⟨hK, va_S.rf, hB0⟩
  have hx := B.exec
  have hb := B.bytes
  have hr := B.returns
  have hts := atoms_spec (ws := wsX12_payOf) B.pre
  have hown : s.vm.findClass RX12 = some m.cls := findClass_of_methodNamed B.named
  have hlocks := B.notSynchronized
  have iX12 : ∀ w ∈ u_ws RX12 TX12 51, w ∈ wsX12_payOf := by decide +kernel
  have hl := lv_entry ([.ref a0, .int p, .int y]) (n := 4) (Nat.le_of_ble_eq_true rfl)
  rw [lg_entry_eq]
  generalize (lg_sl ([.ref a0, .int p, .int y]) ++ List.replicate (4 - (lg_sl ([.ref a0, .int p, .int y])).length) Slot.unset).toArray = ls at hl ⊢
  have hl : lv_has ls 4 [(0, .ref a0), (1, .int p), (2, .int y)] := hl
  have b_y : -2147483648 ≤ y_t ∧ y_t ≤ 2147483647 := h_y ▸ ⟨xi_lo y, Int.le_of_lt_add_one (xi_hi y)⟩
  refine lv_aload_n hx hb dX12_payOf_0 rfl (lv_at hl 0 rfl) ?_
  obtain ⟨b1, rb1, tb1⟩ := hR.at a0 14 t_a0 (rfl : h_rs 13 14 = some (1314, false)) (by decide)
  refine h_get (v := .ref b1) hx hb hts iX12 hown g t_a0 (by decide) so_13 rfl 14 (by decide) (hts (.fieldLink RX12 25 "CapLeagueModel" "clubOf" "[I") (by decide +kernel)) rfl dX12_payOf_1 (by show va_rf (z.R a0 14) = _; rw [rb1]; rfl) ?_
  refine lv_iload_n hx hb dX12_payOf_4 rfl (lv_at hl 1 rfl) ?_
  refine h_ald hx hb g tb1 (by decide) so_1314 (xi_in (by rw [h_p]; omega) (by rw [h_p]; omega)) dX12_payOf_5 ?_
  refine lv_topi (fun v2 ev2 => ?_)
  have jv2 := hI.rd b1 p.toNatClampNeg tb1 ev2 (rfl : h_bd 1314 _ = ((-1), 7))
  refine lv_iconst (v := (-1)) hx hb dX12_payOf_6 (by decide) ?_
  refine lv_icmp_eq (tgt := 30) hx hb dX12_payOf_7 (by decide) (fun c3 => ?_) (fun c3 => ?_)
  · have ic3 := (xi_eq c3 rfl (by decide) : v2.toInt = (-1))
    refine lv_iconst (v := 0) hx hb dX12_payOf_30 (by decide) ?_
    exact W.iret (v := 0) hx hb hr (fun t ht hW => ⟨0, rfl, trivial, ht⟩) (fun _ h => by cases h) dX12_payOf_31
  · have ic3 := (xi_ne c3 rfl (by decide) : v2.toInt ≠ (-1))
    refine lv_iload_n hx hb dX12_payOf_10 rfl (lv_at hl 2 rfl) ?_
    refine lv_aload_n hx hb dX12_payOf_11 rfl (lv_at hl 0 rfl) ?_
    obtain ⟨b4, rb4, tb4⟩ := hR.at a0 15 t_a0 (rfl : h_rs 13 15 = some (1315, false)) (by decide)
    refine h_get (v := .ref b4) hx hb hts iX12 hown g t_a0 (by decide) so_13 rfl 15 (by decide) (hts (.fieldLink RX12 28 "CapLeagueModel" "first" "[I") (by decide +kernel)) rfl dX12_payOf_12 (by show va_rf (z.R a0 15) = _; rw [rb4]; rfl) ?_
    refine lv_iload_n hx hb dX12_payOf_15 rfl (lv_at hl 1 rfl) ?_
    refine h_ald hx hb g tb4 (by decide) so_1315 (xi_in (by rw [h_p]; omega) (by rw [h_p]; omega)) dX12_payOf_16 ?_
    refine lv_topi (fun v5 ev5 => ?_)
    have jv5 := hI.rd b4 p.toNatClampNeg tb4 ev5 (rfl : h_bd 1315 _ = ((-2147483648), 2147483647))
    refine lv_icmp_lt (tgt := 30) hx hb dX12_payOf_17 (by decide) (fun c6 => ?_) (fun c6 => ?_)
    · have ic6 := (xi_lt c6 h_y rfl : y_t < v5.toInt)
      refine lv_iconst (v := 0) hx hb dX12_payOf_30 (by decide) ?_
      exact W.iret (v := 0) hx hb hr (fun t ht hW => ⟨0, rfl, trivial, ht⟩) (fun _ h => by cases h) dX12_payOf_31
    · have ic6 := (xi_nlt c6 h_y rfl : v5.toInt ≤ y_t)
      refine lv_iload_n hx hb dX12_payOf_20 rfl (lv_at hl 2 rfl) ?_
      refine lv_aload_n hx hb dX12_payOf_21 rfl (lv_at hl 0 rfl) ?_
      obtain ⟨b7, rb7, tb7⟩ := hR.at a0 16 t_a0 (rfl : h_rs 13 16 = some (1316, false)) (by decide)
      refine h_get (v := .ref b7) hx hb hts iX12 hown g t_a0 (by decide) so_13 rfl 16 (by decide) (hts (.fieldLink RX12 31 "CapLeagueModel" "last" "[I") (by decide +kernel)) rfl dX12_payOf_22 (by show va_rf (z.R a0 16) = _; rw [rb7]; rfl) ?_
      refine lv_iload_n hx hb dX12_payOf_25 rfl (lv_at hl 1 rfl) ?_
      refine h_ald hx hb g tb7 (by decide) so_1316 (xi_in (by rw [h_p]; omega) (by rw [h_p]; omega)) dX12_payOf_26 ?_
      refine lv_topi (fun v8 ev8 => ?_)
      have jv8 := hI.rd b7 p.toNatClampNeg tb7 ev8 (rfl : h_bd 1316 _ = ((-2147483648), 2147483647))
      refine lv_icmp_le (tgt := 32) hx hb dX12_payOf_27 (by decide) (fun c9 => ?_) (fun c9 => ?_)
      · have ic9 := (xi_le c9 h_y rfl : y_t ≤ v8.toInt)
        refine lv_aload_n hx hb dX12_payOf_32 rfl (lv_at hl 0 rfl) ?_
        obtain ⟨b10, rb10, tb10⟩ := hR.at a0 17 t_a0 (rfl : h_rs 13 17 = some (1317, false)) (by decide)
        refine h_get (v := .ref b10) hx hb hts iX12 hown g t_a0 (by decide) so_13 rfl 17 (by decide) (hts (.fieldLink RX12 34 "CapLeagueModel" "pay" "[I") (by decide +kernel)) rfl dX12_payOf_33 (by show va_rf (z.R a0 17) = _; rw [rb10]; rfl) ?_
        refine lv_iload_n hx hb dX12_payOf_36 rfl (lv_at hl 1 rfl) ?_
        refine h_ald hx hb g tb10 (by decide) so_1317 (xi_in (by rw [h_p]; omega) (by rw [h_p]; omega)) dX12_payOf_37 ?_
        refine lv_topi (fun v11 ev11 => ?_)
        have jv11 := hI.rd b10 p.toNatClampNeg tb10 ev11 (rfl : h_bd 1317 _ = ((-2147483648), 2147483647))
        refine lv_iload_n hx hb dX12_payOf_38 rfl (lv_at hl 2 rfl) ?_
        refine lv_aload_n hx hb dX12_payOf_39 rfl (lv_at hl 0 rfl) ?_
        refine h_get (v := .ref b4) hx hb hts iX12 hown g t_a0 (by decide) so_13 rfl 15 (by decide) (hts (.fieldLink RX12 28 "CapLeagueModel" "first" "[I") (by decide +kernel)) rfl dX12_payOf_40 (by show va_rf (z.R a0 15) = _; rw [rb4]; rfl) ?_
        refine lv_iload_n hx hb dX12_payOf_43 rfl (lv_at hl 1 rfl) ?_
        refine h_ald hx hb g tb4 (by decide) so_1315 (xi_in (by rw [h_p]; omega) (by rw [h_p]; omega)) dX12_payOf_44 ?_
        refine xw_i (ev5.symm) ?_
        refine lv_isub hx hb dX12_payOf_45 ?_
        refine lv_topi (fun v12 ev12 => ?_)
        have jv12 : -2147483648 ≤ v12.toInt ∧ v12.toInt ≤ 2147483647 := ⟨xi_lo _, Int.le_of_lt_add_one (xi_hi _)⟩
        refine lv_aload_n hx hb dX12_payOf_46 rfl (lv_at hl 0 rfl) ?_
        obtain ⟨b13, rb13, tb13⟩ := hR.at a0 18 t_a0 (rfl : h_rs 13 18 = some (1318, false)) (by decide)
        refine h_get (v := .ref b13) hx hb hts iX12 hown g t_a0 (by decide) so_13 rfl 18 (by decide) (hts (.fieldLink RX12 37 "CapLeagueModel" "rise" "[I") (by decide +kernel)) rfl dX12_payOf_47 (by show va_rf (z.R a0 18) = _; rw [rb13]; rfl) ?_
        refine lv_iload_n hx hb dX12_payOf_50 rfl (lv_at hl 1 rfl) ?_
        refine h_ald hx hb g tb13 (by decide) so_1318 (xi_in (by rw [h_p]; omega) (by rw [h_p]; omega)) dX12_payOf_51 ?_
        refine lv_topi (fun v14 ev14 => ?_)
        have jv14 := hI.rd b13 p.toNatClampNeg tb13 ev14 (rfl : h_bd 1318 _ = ((-2147483648), 2147483647))
        refine lv_imul hx hb dX12_payOf_52 ?_
        refine lv_topi (fun v15 ev15 => ?_)
        have jv15 : -2147483648 ≤ v15.toInt ∧ v15.toInt ≤ 2147483647 := ⟨xi_lo _, Int.le_of_lt_add_one (xi_hi _)⟩
        refine lv_iadd hx hb dX12_payOf_53 ?_
        refine lv_topi (fun v16 ev16 => ?_)
        have jv16 : -2147483648 ≤ v16.toInt ∧ v16.toInt ≤ 2147483647 := ⟨xi_lo _, Int.le_of_lt_add_one (xi_hi _)⟩
        refine lv_istore_n (lv' := [(3, .int v16), (0, .ref a0), (1, .int p), (2, .int y)]) hx hb dX12_payOf_54 rfl hl (by decide) rfl (fun ls hl => ?_)
        refine lv_iload_n hx hb dX12_payOf_55 rfl (lv_at hl 0 rfl) ?_
        refine lv_if_le (tgt := 63) hx hb dX12_payOf_56 (by decide) (fun c17 => ?_) (fun c17 => ?_)
        · have ic17 := (xi_le c17 rfl (by decide) : v16.toInt ≤ 0)
          refine lv_iconst (v := 0) hx hb dX12_payOf_63 (by decide) ?_
          exact W.iret (v := 0) hx hb hr (fun t ht hW => ⟨0, rfl, trivial, ht⟩) (fun _ h => by cases h) dX12_payOf_64
        · have ic17 := (xi_nle c17 rfl (by decide) : 0 < v16.toInt)
          refine lv_iload_n hx hb dX12_payOf_59 rfl (lv_at hl 0 rfl) ?_
          refine lv_goto (tgt := 64) hx hb dX12_payOf_60 (by decide) ?_
          exact W.iret (v := v16) hx hb hr (fun t ht hW => ⟨v16, rfl, trivial, ht⟩) (fun _ h => by cases h) dX12_payOf_64
      · have ic9 := (xi_nle c9 h_y rfl : v8.toInt < y_t)
        refine lv_iconst (v := 0) hx hb dX12_payOf_30 (by decide) ?_
        exact W.iret (v := 0) hx hb hr (fun t ht hW => ⟨0, rfl, trivial, ht⟩) (fun _ h => by cases h) dX12_payOf_31
set_option maxHeartbeats 4000000 in
set_option maxRecDepth 100000 in
theorem tX12_isUnder (l : Launch) (E : tE) (X : tX) (A : Nat → Prop) (z : tZ) (I0 : tI) (L0 : tL) (a0 : Nat) (t_a0 : z.ty a0 = 13) (p : Int32) (p_t : Int) (h_p : p.toInt = p_t) (b_p : 0 ≤ p_t ∧ p_t ≤ 59) (y : Int32) (y_t : Int) (h_y : y.toInt = y_t) : Met l yX12_isUnder wsX12_isUnder ({ frames := 2, cells := 0, slots := 0, locals := 128 }) (va_Pc [.ref a0, .int p, .int y] (h_P E X A z I0 L0)) (vp_Si (fun r => (0 ≤ r.toInt ∧ r.toInt ≤ 1))) 0 0 (fun _ => False) := by
  refine Met.ofW (cc := cX12_isUnder) (maxL := 3) (ret := (some .boolean)) (by decide) rfl ?_
  intro pr_ ev_ s m args below meth cd_ s₁ B hml hv
  obtain ⟨rfl, hE, hk, hX, hA, hK, hI, hR, hB0⟩ := hv
  have g : h_G h_so h_fk E A z I0 L0 s s.heap s.heap [] := ⟨hK, va_S.rf, hB0⟩
  have hx := B.exec
  have hb := B.bytes
  have hr := B.returns
  have hts := atoms_spec (ws := wsX12_isUnder) B.pre
  have hown : s.vm.findClass RX12 = some m.cls := findClass_of_methodNamed B.named
  have hlocks := B.notSynchronized
  have iX12 : ∀ w ∈ u_ws RX12 TX12 51, w ∈ wsX12_isUnder := by decide +kernel
  have hl := lv_entry ([.ref a0, .int p, .int y]) (n := 3) (Nat.le_of_ble_eq_true rfl)
  rw [lg_entry_eq]
  generalize (lg_sl ([.ref a0, .int p, .int y]) ++ List.replicate (3 - (lg_sl ([.ref a0, .int p, .int y])).length) Slot.unset).toArray = ls at hl ⊢
  have hl : lv_has ls 3 [(0, .ref a0), (1, .int p), (2, .int y)] := hl
  have b_y : -2147483648 ≤ y_t ∧ y_t ≤ 2147483647 := h_y ▸ ⟨xi_lo y, Int.le_of_lt_add_one (xi_hi y)⟩
  refine lv_aload_n hx hb dX12_isUnder_0 rfl (lv_at hl 0 rfl) ?_
  obtain ⟨b1, rb1, tb1⟩ := hR.at a0 14 t_a0 (rfl : h_rs 13 14 = some (1314, false)) (by decide)
  refine h_get (v := .ref b1) hx hb hts iX12 hown g t_a0 (by decide) so_13 rfl 14 (by decide) (hts (.fieldLink RX12 25 "CapLeagueModel" "clubOf" "[I") (by decide +kernel)) rfl dX12_isUnder_1 (by show va_rf (z.R a0 14) = _; rw [rb1]; rfl) ?_
  refine lv_iload_n hx hb dX12_isUnder_4 rfl (lv_at hl 1 rfl) ?_
  refine h_ald hx hb g tb1 (by decide) so_1314 (xi_in (by rw [h_p]; omega) (by rw [h_p]; omega)) dX12_isUnder_5 ?_
  refine lv_topi (fun v2 ev2 => ?_)
  have jv2 := hI.rd b1 p.toNatClampNeg tb1 ev2 (rfl : h_bd 1314 _ = ((-1), 7))
  refine lv_iconst (v := (-1)) hx hb dX12_isUnder_6 (by decide) ?_
  refine lv_icmp_eq (tgt := 64) hx hb dX12_isUnder_7 (by decide) (fun c3 => ?_) (fun c3 => ?_)
  · have ic3 := (xi_eq c3 rfl (by decide) : v2.toInt = (-1))
    refine lv_iconst (v := 0) hx hb dX12_isUnder_64 (by decide) ?_
    exact W.zret (v := 0) hx hb hr (by decide) (fun t ht hW => ⟨0, rfl, ⟨(by decide), (by decide)⟩, ht⟩) (fun _ h => by cases h) dX12_isUnder_65
  · have ic3 := (xi_ne c3 rfl (by decide) : v2.toInt ≠ (-1))
    refine lv_iload_n hx hb dX12_isUnder_10 rfl (lv_at hl 2 rfl) ?_
    refine lv_i2l hx hb dX12_isUnder_11 rfl ?_
    refine lv_topl (fun v4 ev4 => ?_)
    have jv4 : v4.toInt = y_t := by rw [ev4, xi_64]; exact h_y
    refine lv_aload_n hx hb dX12_isUnder_12 rfl (lv_at hl 0 rfl) ?_
    obtain ⟨b5, rb5, tb5⟩ := hR.at a0 15 t_a0 (rfl : h_rs 13 15 = some (1315, false)) (by decide)
    refine h_get (v := .ref b5) hx hb hts iX12 hown g t_a0 (by decide) so_13 rfl 15 (by decide) (hts (.fieldLink RX12 28 "CapLeagueModel" "first" "[I") (by decide +kernel)) rfl dX12_isUnder_13 (by show va_rf (z.R a0 15) = _; rw [rb5]; rfl) ?_
    refine lv_iload_n hx hb dX12_isUnder_16 rfl (lv_at hl 1 rfl) ?_
    refine h_ald hx hb g tb5 (by decide) so_1315 (xi_in (by rw [h_p]; omega) (by rw [h_p]; omega)) dX12_isUnder_17 ?_
    refine lv_topi (fun v6 ev6 => ?_)
    have jv6 := hI.rd b5 p.toNatClampNeg tb5 ev6 (rfl : h_bd 1315 _ = ((-2147483648), 2147483647))
    refine lv_i2l hx hb dX12_isUnder_18 rfl ?_
    refine lv_topl (fun v7 ev7 => ?_)
    have jv7 : v7.toInt = v6.toInt := by rw [ev7, xi_64]
    refine lv_aload_n hx hb dX12_isUnder_19 rfl (lv_at hl 0 rfl) ?_
    obtain ⟨b8, rb8, tb8⟩ := hR.at a0 16 t_a0 (rfl : h_rs 13 16 = some (1316, false)) (by decide)
    refine h_get (v := .ref b8) hx hb hts iX12 hown g t_a0 (by decide) so_13 rfl 16 (by decide) (hts (.fieldLink RX12 31 "CapLeagueModel" "last" "[I") (by decide +kernel)) rfl dX12_isUnder_20 (by show va_rf (z.R a0 16) = _; rw [rb8]; rfl) ?_
    refine lv_iload_n hx hb dX12_isUnder_23 rfl (lv_at hl 1 rfl) ?_
    refine h_ald hx hb g tb8 (by decide) so_1316 (xi_in (by rw [h_p]; omega) (by rw [h_p]; omega)) dX12_isUnder_24 ?_
    refine lv_topi (fun v9 ev9 => ?_)
    have jv9 := hI.rd b8 p.toNatClampNeg tb8 ev9 (rfl : h_bd 1316 _ = ((-2147483648), 2147483647))
    refine lv_i2l hx hb dX12_isUnder_25 rfl ?_
    refine lv_topl (fun v10 ev10 => ?_)
    have jv10 : v10.toInt = v9.toInt := by rw [ev10, xi_64]
    refine vp_callSi (W.runS (As := [.long v4, .long v7, .long v10]) (rest := []) ⟨hx, hb, hml, hown, hts⟩ (tX12_in l E X A z I0 L0 v4 (y_t) jv4 v7 (v6.toInt) jv7 v10 (v9.toInt) jv10) (va_cwS 3 hts gX12_isUnder_X12_in rfl rfl rfl (by decide +kernel) ⟨Nat.le_of_ble_eq_true rfl, Nat.le_of_ble_eq_true rfl⟩) ⟨h_blind _ _ _ _ _ _ _, h_pre _ hE hk hX hA hI hR g⟩ rfl rfl hl.1 rfl (lv_room (Nat.le_of_ble_eq_true rfl)) dX12_isUnder_26 ⟨Nat.le_of_ble_eq_true rfl, Nat.le_of_ble_eq_true rfl⟩) (fun rh11 h11 => ?_)
    rcases h11 with ⟨rfl, h11⟩ | ⟨rfl, h11⟩
    · skip
      refine lv_if_eq (tgt := 64) hx hb dX12_isUnder_29 (by decide) (fun _ => ?_) (fun h => absurd (by decide) h)
      refine lv_iconst (v := 0) hx hb dX12_isUnder_64 (by decide) ?_
      exact W.zret (v := 0) hx hb hr (by decide) (fun t ht hW => ⟨0, rfl, ⟨(by decide), (by decide)⟩, ht⟩) (fun _ h => by cases h) dX12_isUnder_65
    · skip
      refine lv_if_eq (tgt := 64) hx hb dX12_isUnder_29 (by decide) (fun h => absurd h (by decide)) (fun _ => ?_)
      refine lv_iload_n hx hb dX12_isUnder_32 rfl (lv_at hl 2 rfl) ?_
      refine lv_aload_n hx hb dX12_isUnder_33 rfl (lv_at hl 0 rfl) ?_
      refine h_get (v := .ref b8) hx hb hts iX12 hown g t_a0 (by decide) so_13 rfl 16 (by decide) (hts (.fieldLink RX12 31 "CapLeagueModel" "last" "[I") (by decide +kernel)) rfl dX12_isUnder_34 (by show va_rf (z.R a0 16) = _; rw [rb8]; rfl) ?_
      refine lv_iload_n hx hb dX12_isUnder_37 rfl (lv_at hl 1 rfl) ?_
      refine h_ald hx hb g tb8 (by decide) so_1316 (xi_in (by rw [h_p]; omega) (by rw [h_p]; omega)) dX12_isUnder_38 ?_
      refine xw_i (ev9.symm) ?_
      refine lv_icmp_ne (tgt := 60) hx hb dX12_isUnder_39 (by decide) (fun c14 => ?_) (fun c14 => ?_)
      · have ic14 := (xi_ne c14 h_y rfl : y_t ≠ v9.toInt)
        refine lv_iconst (v := 1) hx hb dX12_isUnder_60 (by decide) ?_
        refine lv_goto (tgt := 65) hx hb dX12_isUnder_61 (by decide) ?_
        exact W.zret (v := 1) hx hb hr (by decide) (fun t ht hW => ⟨1, rfl, ⟨(by decide), (by decide)⟩, ht⟩) (fun _ h => by cases h) dX12_isUnder_65
      · have ic14 := (xi_eq c14 h_y rfl : y_t = v9.toInt)
        refine lv_aload_n hx hb dX12_isUnder_42 rfl (lv_at hl 0 rfl) ?_
        obtain ⟨b15, rb15, tb15⟩ := hR.at a0 20 t_a0 (rfl : h_rs 13 20 = some (1320, false)) (by decide)
        refine h_get (v := .ref b15) hx hb hts iX12 hown g t_a0 (by decide) so_13 rfl 20 (by decide) (hts (.fieldLink RX12 43 "CapLeagueModel" "hasChoice" "[Z") (by decide +kernel)) rfl dX12_isUnder_43 (by show va_rf (z.R a0 20) = _; rw [rb15]; rfl) ?_
        refine lv_iload_n hx hb dX12_isUnder_46 rfl (lv_at hl 1 rfl) ?_
        refine h_zald hx hb g tb15 (by decide) so_1320 (xi_in (by rw [h_p]; omega) (by rw [h_p]; omega)) dX12_isUnder_47 ?_
        refine lv_topi (fun v16 ev16 => ?_)
        have jv16 := hI.rd b15 p.toNatClampNeg tb15 ev16 (rfl : h_bd 1320 _ = (0, 1))
        refine lv_if_eq (tgt := 60) hx hb dX12_isUnder_48 (by decide) (fun c17 => ?_) (fun c17 => ?_)
        · have ic17 := (xi_eq c17 rfl (by decide) : v16.toInt = 0)
          refine lv_iconst (v := 1) hx hb dX12_isUnder_60 (by decide) ?_
          refine lv_goto (tgt := 65) hx hb dX12_isUnder_61 (by decide) ?_
          exact W.zret (v := 1) hx hb hr (by decide) (fun t ht hW => ⟨1, rfl, ⟨(by decide), (by decide)⟩, ht⟩) (fun _ h => by cases h) dX12_isUnder_65
        · have ic17 := (xi_ne c17 rfl (by decide) : v16.toInt ≠ 0)
          refine lv_aload_n hx hb dX12_isUnder_51 rfl (lv_at hl 0 rfl) ?_
          obtain ⟨b18, rb18, tb18⟩ := hR.at a0 21 t_a0 (rfl : h_rs 13 21 = some (1321, false)) (by decide)
          refine h_get (v := .ref b18) hx hb hts iX12 hown g t_a0 (by decide) so_13 rfl 21 (by decide) (hts (.fieldLink RX12 46 "CapLeagueModel" "isTaken" "[Z") (by decide +kernel)) rfl dX12_isUnder_52 (by show va_rf (z.R a0 21) = _; rw [rb18]; rfl) ?_
          refine lv_iload_n hx hb dX12_isUnder_55 rfl (lv_at hl 1 rfl) ?_
          refine h_zald hx hb g tb18 (by decide) so_1321 (xi_in (by rw [h_p]; omega) (by rw [h_p]; omega)) dX12_isUnder_56 ?_
          refine lv_topi (fun v19 ev19 => ?_)
          have jv19 := hI.rd b18 p.toNatClampNeg tb18 ev19 (rfl : h_bd 1321 _ = (0, 1))
          refine lv_if_eq (tgt := 64) hx hb dX12_isUnder_57 (by decide) (fun c20 => ?_) (fun c20 => ?_)
          · have ic20 := (xi_eq c20 rfl (by decide) : v19.toInt = 0)
            refine lv_iconst (v := 0) hx hb dX12_isUnder_64 (by decide) ?_
            exact W.zret (v := 0) hx hb hr (by decide) (fun t ht hW => ⟨0, rfl, ⟨(by decide), (by decide)⟩, ht⟩) (fun _ h => by cases h) dX12_isUnder_65
          · have ic20 := (xi_ne c20 rfl (by decide) : v19.toInt ≠ 0)
            refine lv_iconst (v := 1) hx hb dX12_isUnder_60 (by decide) ?_
            refine lv_goto (tgt := 65) hx hb dX12_isUnder_61 (by decide) ?_
            exact W.zret (v := 1) hx hb hr (by decide) (fun t ht hW => ⟨1, rfl, ⟨(by decide), (by decide)⟩, ht⟩) (fun _ h => by cases h) dX12_isUnder_65
set_option maxHeartbeats 4000000 in
set_option maxRecDepth 100000 in
theorem tX12_trade (l : Launch) (E : tE) (X : tX) (A : Nat → Prop) (z : tZ) (I0 : tI) (L0 : tL) (a0 : Nat) (t_a0 : z.ty a0 = 13) : Met l yX12_trade wsX12_trade ({ frames := 1, cells := 0, slots := 0, locals := 64 }) (va_Pc [.ref a0] (h_P E X A z I0 L0)) (va_Qi (fun r (I1 : tI) => h_I z I1 ∧ h_F [(13, 33)] z I0 I1 ∧ ((r = 1 ∧ True))) (fun (I1 : tI) t => h_B E A z I1 L0 t) A) 0 0 A := by
  refine Met.ofW (cc := cX12_trade) (maxL := 1) (ret := (some .int)) (by decide) rfl ?_
  intro pr_ ev_ s m args below meth cd_ s₁ B hml hv
  obtain ⟨rfl, hE, hk, hX, hA, hK, hI, hR, hB0⟩ := hv
  have g : h_G h_so h_fk E A z I0 L0 s s.heap s.heap [] := ⟨hK, va_S.rf, hB0⟩
  have hF : h_F [(13, 33)] z I0 I0 := h_F.rf
  have hx := B.exec
  have hb := B.bytes
  have hr := B.returns
  have hts := atoms_spec (ws := wsX12_trade) B.pre
  have hown : s.vm.findClass RX12 = some m.cls := findClass_of_methodNamed B.named
  have hlocks := B.notSynchronized
  have iX12 : ∀ w ∈ u_ws RX12 TX12 51, w ∈ wsX12_trade := by decide +kernel
  have hl := lv_entry ([.ref a0]) (n := 1) (Nat.le_of_ble_eq_true rfl)
  rw [lg_entry_eq]
  generalize (lg_sl ([.ref a0]) ++ List.replicate (1 - (lg_sl ([.ref a0])).length) Slot.unset).toArray = ls at hl ⊢
  have hl : lv_has ls 1 [(0, .ref a0)] := hl
  refine lv_aload_n hx hb dX12_trade_0 rfl (lv_at hl 0 rfl) ?_
  refine lv_iconst (v := 0) hx hb dX12_trade_1 (by decide) ?_
  refine h_putI (ty := .int) (v := 0) hx hb hts iX12 tyX12 tyX12_ok nmX12 hown g t_a0 (by decide) so_13 rfl 33 (by decide) rfl (hts (.fieldLink RX12 247 "CapLeagueModel" "moves" "I") (by decide +kernel)) rfl rfl (by decide +kernel) rfl rfl dX12_trade_2 (fun I1 H locs eI1 g => ?_)
  have hI := hI.wr eI1 t_a0 (rfl : h_bd 13 33 = (0, 12)) (by decide) (by decide)
  have hF := hF.wr eI1 t_a0 rfl
  refine lv_iconst (v := 1) hx hb dX12_trade_5 (by decide) ?_
  have hS := g.2.1
  exact W.iret (v := 1) hx hb hr (fun t ht hW => ⟨⟨1, I1, rfl, ⟨hI, hF, (by exact ⟨rfl, trivial⟩)⟩, h_ret g ht⟩, hS.F ht⟩) hS.2.2 dX12_trade_6
set_option maxHeartbeats 4000000 in
set_option maxRecDepth 100000 in
theorem tX12_clubsOf (l : Launch) (E : tE) (X : tX) (A : Nat → Prop) (z : tZ) (I0 : tI) (L0 : tL) (a0 : Nat) (t_a0 : z.ty a0 = 13) : Met l yX12_clubsOf wsX12_clubsOf ({ frames := 1, cells := 0, slots := 0, locals := 64 }) (va_Pc [.ref a0] (h_P E X A z I0 L0)) (vp_Si (fun r => True)) 0 0 (fun _ => False) := by
  refine Met.ofW (cc := cX12_clubsOf) (maxL := 3) (ret := (some .int)) (by decide) rfl ?_
  intro pr_ ev_ s m args below meth cd_ s₁ B hml hv
  obtain ⟨rfl, hE, hk, hX, hA, hK, hI, hR, hB0⟩ := hv
  have g : h_G h_so h_fk E A z I0 L0 s s.heap s.heap [] := ⟨hK, va_S.rf, hB0⟩
  have hx := B.exec
  have hb := B.bytes
  have hr := B.returns
  have hts := atoms_spec (ws := wsX12_clubsOf) B.pre
  have hown : s.vm.findClass RX12 = some m.cls := findClass_of_methodNamed B.named
  have hlocks := B.notSynchronized
  have iX12 : ∀ w ∈ u_ws RX12 TX12 51, w ∈ wsX12_clubsOf := by decide +kernel
  have hl := lv_entry ([.ref a0]) (n := 3) (Nat.le_of_ble_eq_true rfl)
  rw [lg_entry_eq]
  generalize (lg_sl ([.ref a0]) ++ List.replicate (3 - (lg_sl ([.ref a0])).length) Slot.unset).toArray = ls at hl ⊢
  have hl : lv_has ls 3 [(0, .ref a0)] := hl
  refine lv_iconst (v := 0) hx hb dX12_clubsOf_0 (by decide) ?_
  refine lv_istore_n (lv' := [(1, .int 0), (0, .ref a0)]) hx hb dX12_clubsOf_1 rfl hl (by decide) rfl (fun ls hl => ?_)
  refine lv_iconst (v := 0) hx hb dX12_clubsOf_2 (by decide) ?_
  refine lv_istore_n (lv' := [(2, .int 0), (1, .int 0), (0, .ref a0)]) hx hb dX12_clubsOf_3 rfl hl (by decide) rfl (fun ls hl => ?_)
  have loop4_0 : ∀ (n : Nat) (ls : Array Slot) (v1 v2 : Int32), lv_has ls 3 [(0, .ref a0), (1, .int v1), (2, .int v2)] → ((-2147483648) ≤ v1.toInt ∧ v1.toInt ≤ 2147483647) → (0 ≤ v2.toInt ∧ v2.toInt ≤ 12) → (12 - v2.toInt) < (n : Int) → W pr_ l ev_ (headSpec wsX12_clubsOf ({ frames := 1, cells := 0, slots := 0, locals := 64 })).room s m ([.ref a0] : List Value).toArray below meth cd_ s.heap [] 0 0 (MQ below (vp_Si (fun r => True)) ([.ref a0] : List Value).toArray s 0 0 (fun _ => False)) (F0 m 4 ls []) := by
    intro n
    induction n with
    | zero => intro ls v1 v2 hl jv1 jv2 hn; exact absurd hn (by omega)
    | succ n ih4 =>
      intro ls v1 v2 hl jv1 jv2 hn
      refine lv_iload_n hx hb dX12_clubsOf_4 rfl (lv_at hl 2 rfl) ?_
      refine lv_aload_n hx hb dX12_clubsOf_5 rfl (lv_at hl 0 rfl) ?_
      refine h_get (v := .int (I0 a0 33)) hx hb hts iX12 hown g t_a0 (by decide) so_13 rfl 33 (by decide) (hts (.fieldLink RX12 247 "CapLeagueModel" "moves" "I") (by decide +kernel)) rfl dX12_clubsOf_6 rfl ?_
      refine lv_topi (fun v3 ev3 => ?_)
      have jv3 := hI.rd a0 33 t_a0 ev3 (rfl : h_bd 13 33 = (0, 12))
      refine lv_icmp_ge (tgt := 38) hx hb dX12_clubsOf_9 (by decide) (fun c4 => ?_) (fun c4 => ?_)
      · have ic4 := (xi_le c4 rfl rfl : v3.toInt ≤ v2.toInt)
        refine lv_iload_n hx hb dX12_clubsOf_38 rfl (lv_at hl 1 rfl) ?_
        exact W.iret (v := v1) hx hb hr (fun t ht hW => ⟨v1, rfl, trivial, ht⟩) (fun _ h => by cases h) dX12_clubsOf_39
      · have ic4 := (xi_nle c4 rfl rfl : v2.toInt < v3.toInt)
        refine lv_iload_n hx hb dX12_clubsOf_12 rfl (lv_at hl 1 rfl) ?_
        refine lv_iconst (v := 1) hx hb dX12_clubsOf_13 (by decide) ?_
        refine lv_aload_n hx hb dX12_clubsOf_14 rfl (lv_at hl 0 rfl) ?_
        obtain ⟨b5, rb5, tb5⟩ := hR.at a0 35 t_a0 (rfl : h_rs 13 35 = some (1335, false)) (by decide)
        refine h_get (v := .ref b5) hx hb hts iX12 hown g t_a0 (by decide) so_13 rfl 35 (by decide) (hts (.fieldLink RX12 79 "CapLeagueModel" "from" "[I") (by decide +kernel)) rfl dX12_clubsOf_15 (by show va_rf (z.R a0 35) = _; rw [rb5]; rfl) ?_
        refine lv_iload_n hx hb dX12_clubsOf_18 rfl (lv_at hl 2 rfl) ?_
        refine h_ald hx hb g tb5 (by decide) so_1335 (xi_in (by omega) (by omega)) dX12_clubsOf_19 ?_
        refine lv_topi (fun v6 ev6 => ?_)
        have jv6 := hI.rd b5 v2.toNatClampNeg tb5 ev6 (rfl : h_bd 1335 _ = ((-2147483648), 2147483647))
        refine lv_ishl hx hb dX12_clubsOf_20 ?_
        refine lv_topi (fun v7 ev7 => ?_)
        have jv7 : -2147483648 ≤ v7.toInt ∧ v7.toInt ≤ 2147483647 := ⟨xi_lo _, Int.le_of_lt_add_one (xi_hi _)⟩
        refine lv_iconst (v := 1) hx hb dX12_clubsOf_21 (by decide) ?_
        refine lv_aload_n hx hb dX12_clubsOf_22 rfl (lv_at hl 0 rfl) ?_
        obtain ⟨b8, rb8, tb8⟩ := hR.at a0 36 t_a0 (rfl : h_rs 13 36 = some (1336, false)) (by decide)
        refine h_get (v := .ref b8) hx hb hts iX12 hown g t_a0 (by decide) so_13 rfl 36 (by decide) (hts (.fieldLink RX12 82 "CapLeagueModel" "to" "[I") (by decide +kernel)) rfl dX12_clubsOf_23 (by show va_rf (z.R a0 36) = _; rw [rb8]; rfl) ?_
        refine lv_iload_n hx hb dX12_clubsOf_26 rfl (lv_at hl 2 rfl) ?_
        refine h_ald hx hb g tb8 (by decide) so_1336 (xi_in (by omega) (by omega)) dX12_clubsOf_27 ?_
        refine lv_topi (fun v9 ev9 => ?_)
        have jv9 := hI.rd b8 v2.toNatClampNeg tb8 ev9 (rfl : h_bd 1336 _ = (0, 7))
        refine lv_ishl hx hb dX12_clubsOf_28 ?_
        refine lv_topi (fun v10 ev10 => ?_)
        have jv10 : -2147483648 ≤ v10.toInt ∧ v10.toInt ≤ 2147483647 := ⟨xi_lo _, Int.le_of_lt_add_one (xi_hi _)⟩
        refine lv_ior hx hb dX12_clubsOf_29 ?_
        refine lv_topi (fun v11 ev11 => ?_)
        have jv11 : -2147483648 ≤ v11.toInt ∧ v11.toInt ≤ 2147483647 := ⟨xi_lo _, Int.le_of_lt_add_one (xi_hi _)⟩
        refine lv_ior hx hb dX12_clubsOf_30 ?_
        refine lv_topi (fun v12 ev12 => ?_)
        have jv12 : -2147483648 ≤ v12.toInt ∧ v12.toInt ≤ 2147483647 := ⟨xi_lo _, Int.le_of_lt_add_one (xi_hi _)⟩
        refine lv_istore_n (lv' := [(1, .int v12), (0, .ref a0), (2, .int v2)]) hx hb dX12_clubsOf_31 rfl hl (by decide) rfl (fun ls hl => ?_)
        obtain ⟨v13, ev13⟩ : ∃ z : Int32, z = v2 + 1 := ⟨_, rfl⟩
        have jv13 : v13.toInt = v2.toInt + 1 := xi_add ev13 rfl (by decide) (by omega) (by omega)
        refine lv_iinc (v := v13) (lv' := [(2, .int v13), (1, .int v12), (0, .ref a0)]) hx hb dX12_clubsOf_32 hl (k := 2) rfl (by rw [ev13]; rfl) (by decide) rfl (fun ls hl => ?_)
        refine lv_goto (tgt := 4) hx hb dX12_clubsOf_35 (by decide) ?_
        exact ih4 _ v12 v13 (lv_sub hl [2, 1, 0] rfl) (by omega) (by omega) (by omega)
  exact loop4_0 _ _ (0) (0) (lv_sub hl [2, 1, 0] rfl) ⟨by decide, by decide⟩ ⟨by decide, by decide⟩ (show (12 - (0 : Int)) < (((12 - (0 : Int)).toNat + 1 : Nat) : Int) by omega)
set_option maxHeartbeats 4000000 in
set_option maxRecDepth 100000 in
theorem tX12_isMoved (l : Launch) (E : tE) (X : tX) (A : Nat → Prop) (z : tZ) (I0 : tI) (L0 : tL) (a0 : Nat) (t_a0 : z.ty a0 = 13) (x : Int32) (x_t : Int) (h_x : x.toInt = x_t) : Met l yX12_isMoved wsX12_isMoved ({ frames := 1, cells := 0, slots := 0, locals := 64 }) (va_Pc [.ref a0, .int x] (h_P E X A z I0 L0)) (vp_Si (fun r => (0 ≤ r.toInt ∧ r.toInt ≤ 1))) 0 0 (fun _ => False) := by
  refine Met.ofW (cc := cX12_isMoved) (maxL := 3) (ret := (some .boolean)) (by decide) rfl ?_
  intro pr_ ev_ s m args below meth cd_ s₁ B hml hv
  obtain ⟨rfl, hE, hk, hX, hA, hK, hI, hR, hB0⟩ := hv
  have g : h_G h_so h_fk E A z I0 L0 s s.heap s.heap [] := ⟨hK, va_S.rf, hB0⟩
  have hx := B.exec
  have hb := B.bytes
  have hr := B.returns
  have hts := atoms_spec (ws := wsX12_isMoved) B.pre
  have hown : s.vm.findClass RX12 = some m.cls := findClass_of_methodNamed B.named
  have hlocks := B.notSynchronized
  have iX12 : ∀ w ∈ u_ws RX12 TX12 51, w ∈ wsX12_isMoved := by decide +kernel
  have hl := lv_entry ([.ref a0, .int x]) (n := 3) (Nat.le_of_ble_eq_true rfl)
  rw [lg_entry_eq]
  generalize (lg_sl ([.ref a0, .int x]) ++ List.replicate (3 - (lg_sl ([.ref a0, .int x])).length) Slot.unset).toArray = ls at hl ⊢
  have hl : lv_has ls 3 [(0, .ref a0), (1, .int x)] := hl
  have b_x : -2147483648 ≤ x_t ∧ x_t ≤ 2147483647 := h_x ▸ ⟨xi_lo x, Int.le_of_lt_add_one (xi_hi x)⟩
  refine lv_iconst (v := 0) hx hb dX12_isMoved_0 (by decide) ?_
  refine lv_istore_n (lv' := [(2, .int 0), (0, .ref a0), (1, .int x)]) hx hb dX12_isMoved_1 rfl hl (by decide) rfl (fun ls hl => ?_)
  have loop2_0 : ∀ (n : Nat) (ls : Array Slot) (v1 : Int32), lv_has ls 3 [(0, .ref a0), (1, .int x), (2, .int v1)] → (0 ≤ v1.toInt ∧ v1.toInt ≤ 12) → (12 - v1.toInt) < (n : Int) → W pr_ l ev_ (headSpec wsX12_isMoved ({ frames := 1, cells := 0, slots := 0, locals := 64 })).room s m ([.ref a0, .int x] : List Value).toArray below meth cd_ s.heap [] 0 0 (MQ below (vp_Si (fun r => (0 ≤ r.toInt ∧ r.toInt ≤ 1))) ([.ref a0, .int x] : List Value).toArray s 0 0 (fun _ => False)) (F0 m 2 ls []) := by
    intro n
    induction n with
    | zero => intro ls v1 hl jv1 hn; exact absurd hn (by omega)
    | succ n ih2 =>
      intro ls v1 hl jv1 hn
      refine lv_iload_n hx hb dX12_isMoved_2 rfl (lv_at hl 2 rfl) ?_
      refine lv_aload_n hx hb dX12_isMoved_3 rfl (lv_at hl 0 rfl) ?_
      refine h_get (v := .int (I0 a0 33)) hx hb hts iX12 hown g t_a0 (by decide) so_13 rfl 33 (by decide) (hts (.fieldLink RX12 247 "CapLeagueModel" "moves" "I") (by decide +kernel)) rfl dX12_isMoved_4 rfl ?_
      refine lv_topi (fun v2 ev2 => ?_)
      have jv2 := hI.rd a0 33 t_a0 ev2 (rfl : h_bd 13 33 = (0, 12))
      refine lv_icmp_ge (tgt := 28) hx hb dX12_isMoved_7 (by decide) (fun c3 => ?_) (fun c3 => ?_)
      · have ic3 := (xi_le c3 rfl rfl : v2.toInt ≤ v1.toInt)
        refine lv_iconst (v := 0) hx hb dX12_isMoved_28 (by decide) ?_
        exact W.zret (v := 0) hx hb hr (by decide) (fun t ht hW => ⟨0, rfl, ⟨(by decide), (by decide)⟩, ht⟩) (fun _ h => by cases h) dX12_isMoved_29
      · have ic3 := (xi_nle c3 rfl rfl : v1.toInt < v2.toInt)
        refine lv_aload_n hx hb dX12_isMoved_10 rfl (lv_at hl 0 rfl) ?_
        obtain ⟨b4, rb4, tb4⟩ := hR.at a0 34 t_a0 (rfl : h_rs 13 34 = some (1334, false)) (by decide)
        refine h_get (v := .ref b4) hx hb hts iX12 hown g t_a0 (by decide) so_13 rfl 34 (by decide) (hts (.fieldLink RX12 76 "CapLeagueModel" "moved" "[I") (by decide +kernel)) rfl dX12_isMoved_11 (by show va_rf (z.R a0 34) = _; rw [rb4]; rfl) ?_
        refine lv_iload_n hx hb dX12_isMoved_14 rfl (lv_at hl 2 rfl) ?_
        refine h_ald hx hb g tb4 (by decide) so_1334 (xi_in (by omega) (by omega)) dX12_isMoved_15 ?_
        refine lv_topi (fun v5 ev5 => ?_)
        have jv5 := hI.rd b4 v1.toNatClampNeg tb4 ev5 (rfl : h_bd 1334 _ = (0, 139))
        refine lv_iload_n hx hb dX12_isMoved_16 rfl (lv_at hl 1 rfl) ?_
        refine lv_icmp_ne (tgt := 22) hx hb dX12_isMoved_17 (by decide) (fun c6 => ?_) (fun c6 => ?_)
        · have ic6 := (xi_ne c6 rfl h_x : v5.toInt ≠ x_t)
          obtain ⟨v7, ev7⟩ : ∃ z : Int32, z = v1 + 1 := ⟨_, rfl⟩
          have jv7 : v7.toInt = v1.toInt + 1 := xi_add ev7 rfl (by decide) (by omega) (by omega)
          refine lv_iinc (v := v7) (lv' := [(2, .int v7), (0, .ref a0), (1, .int x)]) hx hb dX12_isMoved_22 hl (k := 2) rfl (by rw [ev7]; rfl) (by decide) rfl (fun ls hl => ?_)
          refine lv_goto (tgt := 2) hx hb dX12_isMoved_25 (by decide) ?_
          exact ih2 _ v7 (lv_sub hl [1, 2, 0] rfl) (by omega) (by omega)
        · have ic6 := (xi_eq c6 rfl h_x : v5.toInt = x_t)
          refine lv_iconst (v := 1) hx hb dX12_isMoved_20 (by decide) ?_
          exact W.zret (v := 1) hx hb hr (by decide) (fun t ht hW => ⟨1, rfl, ⟨(by decide), (by decide)⟩, ht⟩) (fun _ h => by cases h) dX12_isMoved_21
  exact loop2_0 _ _ (0) (lv_sub hl [1, 2, 0] rfl) ⟨by decide, by decide⟩ (show (12 - (0 : Int)) < (((12 - (0 : Int)).toNat + 1 : Nat) : Int) by omega)
set_option maxHeartbeats 4000000 in
set_option maxRecDepth 100000 in
theorem tX12_hurt (l : Launch) (E : tE) (X : tX) (A : Nat → Prop) (z : tZ) (I0 : tI) (L0 : tL) (a0 : Nat) (t_a0 : z.ty a0 = 13) (p : Int32) (p_t : Int) (h_p : p.toInt = p_t) (h : Int32) (h_t : Int) (h_h : h.toInt = h_t) (b_h : 0 ≤ h_t ∧ h_t ≤ 1) : Met l yX12_hurt wsX12_hurt ({ frames := 3, cells := 0, slots := 0, locals := 192 }) (va_Pc [.ref a0, .int p, .int h] (h_P E X A z I0 L0)) (va_Qi (fun r (I1 : tI) => h_I z I1 ∧ h_F [(1322, 999)] z I0 I1 ∧ True) (fun (I1 : tI) t => h_B E A z I1 L0 t) A) 0 0 A := by
  refine Met.ofW (cc := cX12_hurt) (maxL := 4) (ret := (some .int)) (by decide) rfl ?_
  intro pr_ ev_ s m args below meth cd_ s₁ B hml hv
  obtain ⟨rfl, hE, hk, hX, hA, hK, hI, hR, hB0⟩ := hv
  have g : h_G h_so h_fk E A z I0 L0 s s.heap s.heap [] := ⟨hK, va_S.rf, hB0⟩
  have hF : h_F [(1322, 999)] z I0 I0 := h_F.rf
  have hx := B.exec
  have hb := B.bytes
  have hr := B.returns
  have hts := atoms_spec (ws := wsX12_hurt) B.pre
  have hown : s.vm.findClass RX12 = some m.cls := findClass_of_methodNamed B.named
  have hlocks := B.notSynchronized
  have iX12 : ∀ w ∈ u_ws RX12 TX12 51, w ∈ wsX12_hurt := by decide +kernel
  have hl := lv_entry ([.ref a0, .int p, .int h]) (n := 4) (Nat.le_of_ble_eq_true rfl)
  rw [lg_entry_eq]
  generalize (lg_sl ([.ref a0, .int p, .int h]) ++ List.replicate (4 - (lg_sl ([.ref a0, .int p, .int h])).length) Slot.unset).toArray = ls at hl ⊢
  have hl : lv_has ls 4 [(0, .ref a0), (1, .int p), (2, .int h)] := hl
  have b_p : -2147483648 ≤ p_t ∧ p_t ≤ 2147483647 := h_p ▸ ⟨xi_lo p, Int.le_of_lt_add_one (xi_hi p)⟩
  refine lv_aload_n hx hb dX12_hurt_0 rfl (lv_at hl 0 rfl) ?_
  refine lv_iload_n hx hb dX12_hurt_1 rfl (lv_at hl 1 rfl) ?_
  refine vp_callSi (W.runV (As := [.int p]) (rest := []) ⟨hx, hb, hml, hown, hts⟩ (tX12_isPlayer l E X A z I0 L0 a0 t_a0 p (p_t) h_p) (cwV 1 hts gX12_hurt_X12_isPlayer rfl rfl rfl (by decide +kernel) ⟨Nat.le_of_ble_eq_true rfl, Nat.le_of_ble_eq_true rfl⟩) ⟨h_blind _ _ _ _ _ _ _, h_recv g t_a0 (by decide) so_13 (q := (RX12, TX12, 51)) rfl, h_pre _ hE hk hX hA hI hR g⟩ rfl rfl hl.1 rfl (lv_room (Nat.le_of_ble_eq_true rfl)) dX12_hurt_2 ⟨Nat.le_of_ble_eq_true rfl, Nat.le_of_ble_eq_true rfl⟩) (fun rh1 h1 => ?_)
  rcases h1 with ⟨rfl, h1⟩ | ⟨rfl, h1⟩
  · skip
    refine lv_if_ne (tgt := 11) hx hb dX12_hurt_5 (by decide) (fun h => absurd (by decide) h) (fun _ => ?_)
    refine lv_bipush (v := (-2)) hx hb dX12_hurt_8 (by decide) ?_
    have hS := g.2.1
    exact W.iret (v := (-2)) hx hb hr (fun t ht hW => ⟨⟨(-2), I0, rfl, ⟨hI, hF, trivial⟩, h_ret g ht⟩, hS.F ht⟩) hS.2.2 dX12_hurt_10
  · skip
    refine lv_if_ne (tgt := 11) hx hb dX12_hurt_5 (by decide) (fun _ => ?_) (fun h => absurd h (by decide))
    refine lv_aload_n hx hb dX12_hurt_11 rfl (lv_at hl 0 rfl) ?_
    obtain ⟨b4, rb4, tb4⟩ := hR.at a0 22 t_a0 (rfl : h_rs 13 22 = some (1322, false)) (by decide)
    refine h_get (v := .ref b4) hx hb hts iX12 hown g t_a0 (by decide) so_13 rfl 22 (by decide) (hts (.fieldLink RX12 49 "CapLeagueModel" "isHurt" "[Z") (by decide +kernel)) rfl dX12_hurt_12 (by show va_rf (z.R a0 22) = _; rw [rb4]; rfl) ?_
    refine lv_iload_n hx hb dX12_hurt_15 rfl (lv_at hl 1 rfl) ?_
    refine h_zald hx hb g tb4 (by decide) so_1322 (xi_in (by rw [h_p]; omega) (by rw [h_p]; omega)) dX12_hurt_16 ?_
    refine lv_topi (fun v5 ev5 => ?_)
    have jv5 := hI.rd b4 p.toNatClampNeg tb4 ev5 (rfl : h_bd 1322 _ = (0, 1))
    refine lv_istore_n (lv' := [(3, .int v5), (0, .ref a0), (1, .int p), (2, .int h)]) hx hb dX12_hurt_17 rfl hl (by decide) rfl (fun ls hl => ?_)
    refine lv_aload_n hx hb dX12_hurt_18 rfl (lv_at hl 1 rfl) ?_
    refine h_get (v := .ref b4) hx hb hts iX12 hown g t_a0 (by decide) so_13 rfl 22 (by decide) (hts (.fieldLink RX12 49 "CapLeagueModel" "isHurt" "[Z") (by decide +kernel)) rfl dX12_hurt_19 (by show va_rf (z.R a0 22) = _; rw [rb4]; rfl) ?_
    refine lv_iload_n hx hb dX12_hurt_22 rfl (lv_at hl 2 rfl) ?_
    refine lv_iload_n hx hb dX12_hurt_23 rfl (lv_at hl 3 rfl) ?_
    refine h_zast hx hb g tb4 (by decide) so_1322 (xi_in (by rw [h_p]; omega) (by rw [h_p]; omega)) dX12_hurt_24 (fun I6 H locs eI6 g => ?_)
    rw [h_nz (by rw [h_h]; omega) (by rw [h_h]; omega)] at eI6
    have hI := hI.wr eI6 tb4 (rfl : h_bd 1322 _ = (0, 1)) (by rw [h_h]; omega) (by rw [h_h]; omega)
    have hF := hF.wr eI6 tb4 rfl
    refine lv_iload_n hx hb dX12_hurt_25 rfl (lv_at hl 0 rfl) ?_
    refine lv_iload_n hx hb dX12_hurt_26 rfl (lv_at hl 3 rfl) ?_
    refine lv_icmp_eq (tgt := 34) hx hb dX12_hurt_27 (by decide) (fun c7 => ?_) (fun c7 => ?_)
    · have ic7 := (xi_eq c7 rfl h_h : v5.toInt = h_t)
      refine lv_iconst (v := 0) hx hb dX12_hurt_34 (by decide) ?_
      have hS := g.2.1
      exact W.iret (v := 0) hx hb hr (fun t ht hW => ⟨⟨0, I6, rfl, ⟨hI, hF, trivial⟩, h_ret g ht⟩, hS.F ht⟩) hS.2.2 dX12_hurt_35
    · have ic7 := (xi_ne c7 rfl h_h : v5.toInt ≠ h_t)
      refine lv_iconst (v := 1) hx hb dX12_hurt_30 (by decide) ?_
      refine lv_goto (tgt := 35) hx hb dX12_hurt_31 (by decide) ?_
      have hS := g.2.1
      exact W.iret (v := 1) hx hb hr (fun t ht hW => ⟨⟨1, I6, rfl, ⟨hI, hF, trivial⟩, h_ret g ht⟩, hS.F ht⟩) hS.2.2 dX12_hurt_35
set_option maxHeartbeats 4000000 in
set_option maxRecDepth 100000 in
theorem tX12_about (l : Launch) (E : tE) (X : tX) (A : Nat → Prop) (z : tZ) (I0 : tI) (L0 : tL) (a0 : Nat) (t_a0 : z.ty a0 = 13) (p : Int32) (p_t : Int) (h_p : p.toInt = p_t) (x : Int32) (x_t : Int) (h_x : x.toInt = x_t) : Met l yX12_about wsX12_about ({ frames := 3, cells := 0, slots := 0, locals := 192 }) (va_Pc [.ref a0, .int p, .int x] (h_P E X A z I0 L0)) (vp_Si (fun r => True)) 0 0 (fun _ => False) := by
  refine Met.ofW (cc := cX12_about) (maxL := 4) (ret := (some .int)) (by decide) rfl ?_
  intro pr_ ev_ s m args below meth cd_ s₁ B hml hv
  obtain ⟨rfl, hE, hk, hX, hA, hK, hI, hR, hB0⟩ := hv
  have g : h_G h_so h_fk E A z I0 L0 s s.heap s.heap [] := ⟨hK, va_S.rf, hB0⟩
  have hx := B.exec
  have hb := B.bytes
  have hr := B.returns
  have hts := atoms_spec (ws := wsX12_about) B.pre
  have hown : s.vm.findClass RX12 = some m.cls := findClass_of_methodNamed B.named
  have hlocks := B.notSynchronized
  have iX12 : ∀ w ∈ u_ws RX12 TX12 51, w ∈ wsX12_about := by decide +kernel
  have hl := lv_entry ([.ref a0, .int p, .int x]) (n := 4) (Nat.le_of_ble_eq_true rfl)
  rw [lg_entry_eq]
  generalize (lg_sl ([.ref a0, .int p, .int x]) ++ List.replicate (4 - (lg_sl ([.ref a0, .int p, .int x])).length) Slot.unset).toArray = ls at hl ⊢
  have hl : lv_has ls 4 [(0, .ref a0), (1, .int p), (2, .int x)] := hl
  have b_p : -2147483648 ≤ p_t ∧ p_t ≤ 2147483647 := h_p ▸ ⟨xi_lo p, Int.le_of_lt_add_one (xi_hi p)⟩
  have b_x : -2147483648 ≤ x_t ∧ x_t ≤ 2147483647 := h_x ▸ ⟨xi_lo x, Int.le_of_lt_add_one (xi_hi x)⟩
  refine lv_aload_n hx hb dX12_about_0 rfl (lv_at hl 0 rfl) ?_
  refine lv_iload_n hx hb dX12_about_1 rfl (lv_at hl 1 rfl) ?_
  refine vp_callSi (W.runV (As := [.int p]) (rest := []) ⟨hx, hb, hml, hown, hts⟩ (tX12_isPlayer l E X A z I0 L0 a0 t_a0 p (p_t) h_p) (cwV 1 hts gX12_about_X12_isPlayer rfl rfl rfl (by decide +kernel) ⟨Nat.le_of_ble_eq_true rfl, Nat.le_of_ble_eq_true rfl⟩) ⟨h_blind _ _ _ _ _ _ _, h_recv g t_a0 (by decide) so_13 (q := (RX12, TX12, 51)) rfl, h_pre _ hE hk hX hA hI hR g⟩ rfl rfl hl.1 rfl (lv_room (Nat.le_of_ble_eq_true rfl)) dX12_about_2 ⟨Nat.le_of_ble_eq_true rfl, Nat.le_of_ble_eq_true rfl⟩) (fun rh1 h1 => ?_)
  rcases h1 with ⟨rfl, h1⟩ | ⟨rfl, h1⟩
  · skip
    refine lv_if_ne (tgt := 11) hx hb dX12_about_5 (by decide) (fun h => absurd (by decide) h) (fun _ => ?_)
    refine lv_bipush (v := (-9)) hx hb dX12_about_8 (by decide) ?_
    exact W.iret (v := (-9)) hx hb hr (fun t ht hW => ⟨(-9), rfl, trivial, ht⟩) (fun _ h => by cases h) dX12_about_10
  · skip
    refine lv_if_ne (tgt := 11) hx hb dX12_about_5 (by decide) (fun _ => ?_) (fun h => absurd h (by decide))
    refine lv_aload_n hx hb dX12_about_11 rfl (lv_at hl 0 rfl) ?_
    obtain ⟨b4, rb4, tb4⟩ := hR.at a0 14 t_a0 (rfl : h_rs 13 14 = some (1314, false)) (by decide)
    refine h_get (v := .ref b4) hx hb hts iX12 hown g t_a0 (by decide) so_13 rfl 14 (by decide) (hts (.fieldLink RX12 25 "CapLeagueModel" "clubOf" "[I") (by decide +kernel)) rfl dX12_about_12 (by show va_rf (z.R a0 14) = _; rw [rb4]; rfl) ?_
    refine lv_iload_n hx hb dX12_about_15 rfl (lv_at hl 1 rfl) ?_
    refine h_ald hx hb g tb4 (by decide) so_1314 (xi_in (by rw [h_p]; omega) (by rw [h_p]; omega)) dX12_about_16 ?_
    refine lv_topi (fun v5 ev5 => ?_)
    have jv5 := hI.rd b4 p.toNatClampNeg tb4 ev5 (rfl : h_bd 1314 _ = ((-1), 7))
    refine lv_iconst (v := (-1)) hx hb dX12_about_17 (by decide) ?_
    refine lv_icmp_eq (tgt := 25) hx hb dX12_about_18 (by decide) (fun c6 => ?_) (fun c6 => ?_)
    · have ic6 := (xi_eq c6 rfl (by decide) : v5.toInt = (-1))
      refine lv_iconst (v := 0) hx hb dX12_about_25 (by decide) ?_
      refine lv_istore_n (lv' := [(3, .int 0), (0, .ref a0), (1, .int p), (2, .int x)]) hx hb dX12_about_26 rfl hl (by decide) rfl (fun ls hl => ?_)
      refine lv_iload_n hx hb dX12_about_27 rfl (lv_at hl 3 rfl) ?_
      have qc7 : x.toInt = x_t := h_x
      rcases (show (x.toInt < 0 ∨ 4 < x.toInt) ∨ x.toInt = 0 ∨ x.toInt = 1 ∨ x.toInt = 2 ∨ x.toInt = 3 ∨ x.toInt = 4 by omega) with c7 | c7 | c7 | c7 | c7 | c7
      · refine lv_tableOut (tgt := 144) hx hb dX12_about_28 c7 (by decide) ?_
        refine lv_iload_n hx hb dX12_about_144 rfl (lv_at hl 3 rfl) ?_
        refine lv_i2l hx hb dX12_about_145 rfl ?_
        refine lv_topl (fun v8 ev8 => ?_)
        have jv8 : v8.toInt = x_t := by rw [ev8, xi_64]; exact h_x
        refine lv_ldc2 (v := 10) hx hb hown (hts (.constantLong RX12 200 (10)) (by decide +kernel)) dX12_about_146 ?_
        refine lv_ldc2 (v := 19) hx hb hown (hts (.constantLong RX12 250 (19)) (by decide +kernel)) dX12_about_149 ?_
        refine vp_callSi (W.runS (As := [.long v8, .long 10, .long 19]) (rest := []) ⟨hx, hb, hml, hown, hts⟩ (tX12_in l E X A z I0 L0 v8 (x_t) jv8 10 (10) (by decide) 19 (19) (by decide)) (va_cwS 3 hts gX12_about_X12_in rfl rfl rfl (by decide +kernel) ⟨Nat.le_of_ble_eq_true rfl, Nat.le_of_ble_eq_true rfl⟩) ⟨h_blind _ _ _ _ _ _ _, h_pre _ hE hk hX hA hI hR g⟩ rfl rfl hl.1 rfl (lv_room (Nat.le_of_ble_eq_true rfl)) dX12_about_152 ⟨Nat.le_of_ble_eq_true rfl, Nat.le_of_ble_eq_true rfl⟩) (fun rh9 h9 => ?_)
        rcases h9 with ⟨rfl, h9⟩ | ⟨rfl, h9⟩
        · skip
          refine lv_if_eq (tgt := 170) hx hb dX12_about_155 (by decide) (fun _ => ?_) (fun h => absurd (by decide) h)
          refine lv_bipush (v := (-9)) hx hb dX12_about_170 (by decide) ?_
          exact W.iret (v := (-9)) hx hb hr (fun t ht hW => ⟨(-9), rfl, trivial, ht⟩) (fun _ h => by cases h) dX12_about_172
        · skip
          refine lv_if_eq (tgt := 170) hx hb dX12_about_155 (by decide) (fun h => absurd h (by decide)) (fun _ => ?_)
          refine lv_aload_n hx hb dX12_about_158 rfl (lv_at hl 1 rfl) ?_
          refine lv_iload_n hx hb dX12_about_159 rfl (lv_at hl 2 rfl) ?_
          refine lv_iload_n hx hb dX12_about_160 rfl (lv_at hl 3 rfl) ?_
          refine lv_bipush (v := 10) hx hb dX12_about_161 (by decide) ?_
          refine lv_isub hx hb dX12_about_163 ?_
          refine lv_topi (fun v12 ev12 => ?_)
          have jv12 : v12.toInt = x_t - 10 := xi_sub ev12 h_x (by decide) (by omega) (by omega)
          refine vp_callSi (W.runV (As := [.int p, .int v12]) (rest := []) ⟨hx, hb, hml, hown, hts⟩ (tX12_payOf l E X A z I0 L0 a0 t_a0 p (p_t) h_p (by omega) v12 (v12.toInt) rfl) (cwV 2 hts gX12_about_X12_payOf rfl rfl rfl (by decide +kernel) ⟨Nat.le_of_ble_eq_true rfl, Nat.le_of_ble_eq_true rfl⟩) ⟨h_blind _ _ _ _ _ _ _, h_recv g t_a0 (by decide) so_13 (q := (RX12, TX12, 51)) rfl, h_pre _ hE hk hX hA hI hR g⟩ rfl rfl hl.1 rfl (lv_room (Nat.le_of_ble_eq_true rfl)) dX12_about_164 ⟨Nat.le_of_ble_eq_true rfl, Nat.le_of_ble_eq_true rfl⟩) (fun rh13 h13 => ?_)
          have jrh13 : -2147483648 ≤ rh13.toInt ∧ rh13.toInt ≤ 2147483647 := ⟨xi_lo _, Int.le_of_lt_add_one (xi_hi _)⟩
          refine lv_goto (tgt := 172) hx hb dX12_about_167 (by decide) ?_
          exact W.iret (v := rh13) hx hb hr (fun t ht hW => ⟨rh13, rfl, trivial, ht⟩) (fun _ h => by cases h) dX12_about_172
      · refine lv_tableIn (off := 36) (tgt := 64) hx hb dX12_about_28 (by omega) (by omega) (by rw [show (x.toInt - 0).toNat = 0 by omega]; rfl) (by decide) ?_
        refine lv_aload_n hx hb dX12_about_64 rfl (lv_at hl 1 rfl) ?_
        refine h_get (v := .ref b4) hx hb hts iX12 hown g t_a0 (by decide) so_13 rfl 14 (by decide) (hts (.fieldLink RX12 25 "CapLeagueModel" "clubOf" "[I") (by decide +kernel)) rfl dX12_about_65 (by show va_rf (z.R a0 14) = _; rw [rb4]; rfl) ?_
        refine lv_iload_n hx hb dX12_about_68 rfl (lv_at hl 2 rfl) ?_
        refine h_ald hx hb g tb4 (by decide) so_1314 (xi_in (by rw [h_p]; omega) (by rw [h_p]; omega)) dX12_about_69 ?_
        refine xw_i (ev5.symm) ?_
        exact W.iret (v := v5) hx hb hr (fun t ht hW => ⟨v5, rfl, trivial, ht⟩) (fun _ h => by cases h) dX12_about_70
      · refine lv_tableIn (off := 43) (tgt := 71) hx hb dX12_about_28 (by omega) (by omega) (by rw [show (x.toInt - 0).toNat = 1 by omega]; rfl) (by decide) ?_
        refine lv_iload_n hx hb dX12_about_71 rfl (lv_at hl 0 rfl) ?_
        refine lv_if_eq (tgt := 84) hx hb dX12_about_72 (by decide) (fun _ => ?_) (fun h => absurd (by decide) h)
        refine lv_iconst (v := (-1)) hx hb dX12_about_84 (by decide) ?_
        exact W.iret (v := (-1)) hx hb hr (fun t ht hW => ⟨(-1), rfl, trivial, ht⟩) (fun _ h => by cases h) dX12_about_85
      · refine lv_tableIn (off := 58) (tgt := 86) hx hb dX12_about_28 (by omega) (by omega) (by rw [show (x.toInt - 0).toNat = 2 by omega]; rfl) (by decide) ?_
        refine lv_iload_n hx hb dX12_about_86 rfl (lv_at hl 0 rfl) ?_
        refine lv_if_eq (tgt := 112) hx hb dX12_about_87 (by decide) (fun _ => ?_) (fun h => absurd (by decide) h)
        refine lv_iconst (v := 0) hx hb dX12_about_112 (by decide) ?_
        exact W.iret (v := 0) hx hb hr (fun t ht hW => ⟨0, rfl, trivial, ht⟩) (fun _ h => by cases h) dX12_about_113
      · refine lv_tableIn (off := 86) (tgt := 114) hx hb dX12_about_28 (by omega) (by omega) (by rw [show (x.toInt - 0).toNat = 3 by omega]; rfl) (by decide) ?_
        refine lv_iload_n hx hb dX12_about_114 rfl (lv_at hl 0 rfl) ?_
        refine lv_if_eq (tgt := 127) hx hb dX12_about_115 (by decide) (fun _ => ?_) (fun h => absurd (by decide) h)
        refine lv_iconst (v := 0) hx hb dX12_about_127 (by decide) ?_
        exact W.iret (v := 0) hx hb hr (fun t ht hW => ⟨0, rfl, trivial, ht⟩) (fun _ h => by cases h) dX12_about_128
      · refine lv_tableIn (off := 101) (tgt := 129) hx hb dX12_about_28 (by omega) (by omega) (by rw [show (x.toInt - 0).toNat = 4 by omega]; rfl) (by decide) ?_
        refine lv_aload_n hx hb dX12_about_129 rfl (lv_at hl 1 rfl) ?_
        obtain ⟨b17, rb17, tb17⟩ := hR.at a0 22 t_a0 (rfl : h_rs 13 22 = some (1322, false)) (by decide)
        refine h_get (v := .ref b17) hx hb hts iX12 hown g t_a0 (by decide) so_13 rfl 22 (by decide) (hts (.fieldLink RX12 49 "CapLeagueModel" "isHurt" "[Z") (by decide +kernel)) rfl dX12_about_130 (by show va_rf (z.R a0 22) = _; rw [rb17]; rfl) ?_
        refine lv_iload_n hx hb dX12_about_133 rfl (lv_at hl 2 rfl) ?_
        refine h_zald hx hb g tb17 (by decide) so_1322 (xi_in (by rw [h_p]; omega) (by rw [h_p]; omega)) dX12_about_134 ?_
        refine lv_topi (fun v18 ev18 => ?_)
        have jv18 := hI.rd b17 p.toNatClampNeg tb17 ev18 (rfl : h_bd 1322 _ = (0, 1))
        refine lv_if_eq (tgt := 142) hx hb dX12_about_135 (by decide) (fun c19 => ?_) (fun c19 => ?_)
        · have ic19 := (xi_eq c19 rfl (by decide) : v18.toInt = 0)
          refine lv_iconst (v := 0) hx hb dX12_about_142 (by decide) ?_
          exact W.iret (v := 0) hx hb hr (fun t ht hW => ⟨0, rfl, trivial, ht⟩) (fun _ h => by cases h) dX12_about_143
        · have ic19 := (xi_ne c19 rfl (by decide) : v18.toInt ≠ 0)
          refine lv_iconst (v := 1) hx hb dX12_about_138 (by decide) ?_
          refine lv_goto (tgt := 143) hx hb dX12_about_139 (by decide) ?_
          exact W.iret (v := 1) hx hb hr (fun t ht hW => ⟨1, rfl, trivial, ht⟩) (fun _ h => by cases h) dX12_about_143
    · have ic6 := (xi_ne c6 rfl (by decide) : v5.toInt ≠ (-1))
      refine lv_iconst (v := 1) hx hb dX12_about_21 (by decide) ?_
      refine lv_goto (tgt := 26) hx hb dX12_about_22 (by decide) ?_
      refine lv_istore_n (lv' := [(3, .int 1), (0, .ref a0), (1, .int p), (2, .int x)]) hx hb dX12_about_26 rfl hl (by decide) rfl (fun ls hl => ?_)
      refine lv_iload_n hx hb dX12_about_27 rfl (lv_at hl 3 rfl) ?_
      have qc20 : x.toInt = x_t := h_x
      rcases (show (x.toInt < 0 ∨ 4 < x.toInt) ∨ x.toInt = 0 ∨ x.toInt = 1 ∨ x.toInt = 2 ∨ x.toInt = 3 ∨ x.toInt = 4 by omega) with c20 | c20 | c20 | c20 | c20 | c20
      · refine lv_tableOut (tgt := 144) hx hb dX12_about_28 c20 (by decide) ?_
        refine lv_iload_n hx hb dX12_about_144 rfl (lv_at hl 3 rfl) ?_
        refine lv_i2l hx hb dX12_about_145 rfl ?_
        refine lv_topl (fun v21 ev21 => ?_)
        have jv21 : v21.toInt = x_t := by rw [ev21, xi_64]; exact h_x
        refine lv_ldc2 (v := 10) hx hb hown (hts (.constantLong RX12 200 (10)) (by decide +kernel)) dX12_about_146 ?_
        refine lv_ldc2 (v := 19) hx hb hown (hts (.constantLong RX12 250 (19)) (by decide +kernel)) dX12_about_149 ?_
        refine vp_callSi (W.runS (As := [.long v21, .long 10, .long 19]) (rest := []) ⟨hx, hb, hml, hown, hts⟩ (tX12_in l E X A z I0 L0 v21 (x_t) jv21 10 (10) (by decide) 19 (19) (by decide)) (va_cwS 3 hts gX12_about_X12_in rfl rfl rfl (by decide +kernel) ⟨Nat.le_of_ble_eq_true rfl, Nat.le_of_ble_eq_true rfl⟩) ⟨h_blind _ _ _ _ _ _ _, h_pre _ hE hk hX hA hI hR g⟩ rfl rfl hl.1 rfl (lv_room (Nat.le_of_ble_eq_true rfl)) dX12_about_152 ⟨Nat.le_of_ble_eq_true rfl, Nat.le_of_ble_eq_true rfl⟩) (fun rh22 h22 => ?_)
        rcases h22 with ⟨rfl, h22⟩ | ⟨rfl, h22⟩
        · skip
          refine lv_if_eq (tgt := 170) hx hb dX12_about_155 (by decide) (fun _ => ?_) (fun h => absurd (by decide) h)
          refine lv_bipush (v := (-9)) hx hb dX12_about_170 (by decide) ?_
          exact W.iret (v := (-9)) hx hb hr (fun t ht hW => ⟨(-9), rfl, trivial, ht⟩) (fun _ h => by cases h) dX12_about_172
        · skip
          refine lv_if_eq (tgt := 170) hx hb dX12_about_155 (by decide) (fun h => absurd h (by decide)) (fun _ => ?_)
          refine lv_aload_n hx hb dX12_about_158 rfl (lv_at hl 1 rfl) ?_
          refine lv_iload_n hx hb dX12_about_159 rfl (lv_at hl 2 rfl) ?_
          refine lv_iload_n hx hb dX12_about_160 rfl (lv_at hl 3 rfl) ?_
          refine lv_bipush (v := 10) hx hb dX12_about_161 (by decide) ?_
          refine lv_isub hx hb dX12_about_163 ?_
          refine lv_topi (fun v25 ev25 => ?_)
          have jv25 : v25.toInt = x_t - 10 := xi_sub ev25 h_x (by decide) (by omega) (by omega)
          refine vp_callSi (W.runV (As := [.int p, .int v25]) (rest := []) ⟨hx, hb, hml, hown, hts⟩ (tX12_payOf l E X A z I0 L0 a0 t_a0 p (p_t) h_p (by omega) v25 (v25.toInt) rfl) (cwV 2 hts gX12_about_X12_payOf rfl rfl rfl (by decide +kernel) ⟨Nat.le_of_ble_eq_true rfl, Nat.le_of_ble_eq_true rfl⟩) ⟨h_blind _ _ _ _ _ _ _, h_recv g t_a0 (by decide) so_13 (q := (RX12, TX12, 51)) rfl, h_pre _ hE hk hX hA hI hR g⟩ rfl rfl hl.1 rfl (lv_room (Nat.le_of_ble_eq_true rfl)) dX12_about_164 ⟨Nat.le_of_ble_eq_true rfl, Nat.le_of_ble_eq_true rfl⟩) (fun rh26 h26 => ?_)
          have jrh26 : -2147483648 ≤ rh26.toInt ∧ rh26.toInt ≤ 2147483647 := ⟨xi_lo _, Int.le_of_lt_add_one (xi_hi _)⟩
          refine lv_goto (tgt := 172) hx hb dX12_about_167 (by decide) ?_
          exact W.iret (v := rh26) hx hb hr (fun t ht hW => ⟨rh26, rfl, trivial, ht⟩) (fun _ h => by cases h) dX12_about_172
      · refine lv_tableIn (off := 36) (tgt := 64) hx hb dX12_about_28 (by omega) (by omega) (by rw [show (x.toInt - 0).toNat = 0 by omega]; rfl) (by decide) ?_
        refine lv_aload_n hx hb dX12_about_64 rfl (lv_at hl 1 rfl) ?_
        refine h_get (v := .ref b4) hx hb hts iX12 hown g t_a0 (by decide) so_13 rfl 14 (by decide) (hts (.fieldLink RX12 25 "CapLeagueModel" "clubOf" "[I") (by decide +kernel)) rfl dX12_about_65 (by show va_rf (z.R a0 14) = _; rw [rb4]; rfl) ?_
        refine lv_iload_n hx hb dX12_about_68 rfl (lv_at hl 2 rfl) ?_
        refine h_ald hx hb g tb4 (by decide) so_1314 (xi_in (by rw [h_p]; omega) (by rw [h_p]; omega)) dX12_about_69 ?_
        refine xw_i (ev5.symm) ?_
        exact W.iret (v := v5) hx hb hr (fun t ht hW => ⟨v5, rfl, trivial, ht⟩) (fun _ h => by cases h) dX12_about_70
      · refine lv_tableIn (off := 43) (tgt := 71) hx hb dX12_about_28 (by omega) (by omega) (by rw [show (x.toInt - 0).toNat = 1 by omega]; rfl) (by decide) ?_
        refine lv_iload_n hx hb dX12_about_71 rfl (lv_at hl 0 rfl) ?_
        refine lv_if_eq (tgt := 84) hx hb dX12_about_72 (by decide) (fun h => absurd h (by decide)) (fun _ => ?_)
        refine lv_aload_n hx hb dX12_about_75 rfl (lv_at hl 1 rfl) ?_
        obtain ⟨b28, rb28, tb28⟩ := hR.at a0 16 t_a0 (rfl : h_rs 13 16 = some (1316, false)) (by decide)
        refine h_get (v := .ref b28) hx hb hts iX12 hown g t_a0 (by decide) so_13 rfl 16 (by decide) (hts (.fieldLink RX12 31 "CapLeagueModel" "last" "[I") (by decide +kernel)) rfl dX12_about_76 (by show va_rf (z.R a0 16) = _; rw [rb28]; rfl) ?_
        refine lv_iload_n hx hb dX12_about_79 rfl (lv_at hl 2 rfl) ?_
        refine h_ald hx hb g tb28 (by decide) so_1316 (xi_in (by rw [h_p]; omega) (by rw [h_p]; omega)) dX12_about_80 ?_
        refine lv_topi (fun v29 ev29 => ?_)
        have jv29 := hI.rd b28 p.toNatClampNeg tb28 ev29 (rfl : h_bd 1316 _ = ((-2147483648), 2147483647))
        refine lv_goto (tgt := 85) hx hb dX12_about_81 (by decide) ?_
        exact W.iret (v := v29) hx hb hr (fun t ht hW => ⟨v29, rfl, trivial, ht⟩) (fun _ h => by cases h) dX12_about_85
      · refine lv_tableIn (off := 58) (tgt := 86) hx hb dX12_about_28 (by omega) (by omega) (by rw [show (x.toInt - 0).toNat = 2 by omega]; rfl) (by decide) ?_
        refine lv_iload_n hx hb dX12_about_86 rfl (lv_at hl 0 rfl) ?_
        refine lv_if_eq (tgt := 112) hx hb dX12_about_87 (by decide) (fun h => absurd h (by decide)) (fun _ => ?_)
        refine lv_aload_n hx hb dX12_about_90 rfl (lv_at hl 1 rfl) ?_
        obtain ⟨b31, rb31, tb31⟩ := hR.at a0 20 t_a0 (rfl : h_rs 13 20 = some (1320, false)) (by decide)
        refine h_get (v := .ref b31) hx hb hts iX12 hown g t_a0 (by decide) so_13 rfl 20 (by decide) (hts (.fieldLink RX12 43 "CapLeagueModel" "hasChoice" "[Z") (by decide +kernel)) rfl dX12_about_91 (by show va_rf (z.R a0 20) = _; rw [rb31]; rfl) ?_
        refine lv_iload_n hx hb dX12_about_94 rfl (lv_at hl 2 rfl) ?_
        refine h_zald hx hb g tb31 (by decide) so_1320 (xi_in (by rw [h_p]; omega) (by rw [h_p]; omega)) dX12_about_95 ?_
        refine lv_topi (fun v32 ev32 => ?_)
        have jv32 := hI.rd b31 p.toNatClampNeg tb31 ev32 (rfl : h_bd 1320 _ = (0, 1))
        refine lv_if_eq (tgt := 112) hx hb dX12_about_96 (by decide) (fun c33 => ?_) (fun c33 => ?_)
        · have ic33 := (xi_eq c33 rfl (by decide) : v32.toInt = 0)
          refine lv_iconst (v := 0) hx hb dX12_about_112 (by decide) ?_
          exact W.iret (v := 0) hx hb hr (fun t ht hW => ⟨0, rfl, trivial, ht⟩) (fun _ h => by cases h) dX12_about_113
        · have ic33 := (xi_ne c33 rfl (by decide) : v32.toInt ≠ 0)
          refine lv_aload_n hx hb dX12_about_99 rfl (lv_at hl 1 rfl) ?_
          obtain ⟨b34, rb34, tb34⟩ := hR.at a0 21 t_a0 (rfl : h_rs 13 21 = some (1321, false)) (by decide)
          refine h_get (v := .ref b34) hx hb hts iX12 hown g t_a0 (by decide) so_13 rfl 21 (by decide) (hts (.fieldLink RX12 46 "CapLeagueModel" "isTaken" "[Z") (by decide +kernel)) rfl dX12_about_100 (by show va_rf (z.R a0 21) = _; rw [rb34]; rfl) ?_
          refine lv_iload_n hx hb dX12_about_103 rfl (lv_at hl 2 rfl) ?_
          refine h_zald hx hb g tb34 (by decide) so_1321 (xi_in (by rw [h_p]; omega) (by rw [h_p]; omega)) dX12_about_104 ?_
          refine lv_topi (fun v35 ev35 => ?_)
          have jv35 := hI.rd b34 p.toNatClampNeg tb34 ev35 (rfl : h_bd 1321 _ = (0, 1))
          refine lv_if_ne (tgt := 112) hx hb dX12_about_105 (by decide) (fun c36 => ?_) (fun c36 => ?_)
          · have ic36 := (xi_ne c36 rfl (by decide) : v35.toInt ≠ 0)
            refine lv_iconst (v := 0) hx hb dX12_about_112 (by decide) ?_
            exact W.iret (v := 0) hx hb hr (fun t ht hW => ⟨0, rfl, trivial, ht⟩) (fun _ h => by cases h) dX12_about_113
          · have ic36 := (xi_eq c36 rfl (by decide) : v35.toInt = 0)
            refine lv_iconst (v := 1) hx hb dX12_about_108 (by decide) ?_
            refine lv_goto (tgt := 113) hx hb dX12_about_109 (by decide) ?_
            exact W.iret (v := 1) hx hb hr (fun t ht hW => ⟨1, rfl, trivial, ht⟩) (fun _ h => by cases h) dX12_about_113
      · refine lv_tableIn (off := 86) (tgt := 114) hx hb dX12_about_28 (by omega) (by omega) (by rw [show (x.toInt - 0).toNat = 3 by omega]; rfl) (by decide) ?_
        refine lv_iload_n hx hb dX12_about_114 rfl (lv_at hl 0 rfl) ?_
        refine lv_if_eq (tgt := 127) hx hb dX12_about_115 (by decide) (fun h => absurd h (by decide)) (fun _ => ?_)
        refine lv_aload_n hx hb dX12_about_118 rfl (lv_at hl 1 rfl) ?_
        obtain ⟨b38, rb38, tb38⟩ := hR.at a0 19 t_a0 (rfl : h_rs 13 19 = some (1319, false)) (by decide)
        refine h_get (v := .ref b38) hx hb hts iX12 hown g t_a0 (by decide) so_13 rfl 19 (by decide) (hts (.fieldLink RX12 40 "CapLeagueModel" "sure" "[I") (by decide +kernel)) rfl dX12_about_119 (by show va_rf (z.R a0 19) = _; rw [rb38]; rfl) ?_
        refine lv_iload_n hx hb dX12_about_122 rfl (lv_at hl 2 rfl) ?_
        refine h_ald hx hb g tb38 (by decide) so_1319 (xi_in (by rw [h_p]; omega) (by rw [h_p]; omega)) dX12_about_123 ?_
        refine lv_topi (fun v39 ev39 => ?_)
        have jv39 := hI.rd b38 p.toNatClampNeg tb38 ev39 (rfl : h_bd 1319 _ = ((-2147483648), 2147483647))
        refine lv_goto (tgt := 128) hx hb dX12_about_124 (by decide) ?_
        exact W.iret (v := v39) hx hb hr (fun t ht hW => ⟨v39, rfl, trivial, ht⟩) (fun _ h => by cases h) dX12_about_128
      · refine lv_tableIn (off := 101) (tgt := 129) hx hb dX12_about_28 (by omega) (by omega) (by rw [show (x.toInt - 0).toNat = 4 by omega]; rfl) (by decide) ?_
        refine lv_aload_n hx hb dX12_about_129 rfl (lv_at hl 1 rfl) ?_
        obtain ⟨b40, rb40, tb40⟩ := hR.at a0 22 t_a0 (rfl : h_rs 13 22 = some (1322, false)) (by decide)
        refine h_get (v := .ref b40) hx hb hts iX12 hown g t_a0 (by decide) so_13 rfl 22 (by decide) (hts (.fieldLink RX12 49 "CapLeagueModel" "isHurt" "[Z") (by decide +kernel)) rfl dX12_about_130 (by show va_rf (z.R a0 22) = _; rw [rb40]; rfl) ?_
        refine lv_iload_n hx hb dX12_about_133 rfl (lv_at hl 2 rfl) ?_
        refine h_zald hx hb g tb40 (by decide) so_1322 (xi_in (by rw [h_p]; omega) (by rw [h_p]; omega)) dX12_about_134 ?_
        refine lv_topi (fun v41 ev41 => ?_)
        have jv41 := hI.rd b40 p.toNatClampNeg tb40 ev41 (rfl : h_bd 1322 _ = (0, 1))
        refine lv_if_eq (tgt := 142) hx hb dX12_about_135 (by decide) (fun c42 => ?_) (fun c42 => ?_)
        · have ic42 := (xi_eq c42 rfl (by decide) : v41.toInt = 0)
          refine lv_iconst (v := 0) hx hb dX12_about_142 (by decide) ?_
          exact W.iret (v := 0) hx hb hr (fun t ht hW => ⟨0, rfl, trivial, ht⟩) (fun _ h => by cases h) dX12_about_143
        · have ic42 := (xi_ne c42 rfl (by decide) : v41.toInt ≠ 0)
          refine lv_iconst (v := 1) hx hb dX12_about_138 (by decide) ?_
          refine lv_goto (tgt := 143) hx hb dX12_about_139 (by decide) ?_
          exact W.iret (v := 1) hx hb hr (fun t ht hW => ⟨1, rfl, trivial, ht⟩) (fun _ h => by cases h) dX12_about_143
set_option maxHeartbeats 4000000 in
set_option maxRecDepth 100000 in
theorem tX12_choose (l : Launch) (E : tE) (X : tX) (A : Nat → Prop) (z : tZ) (I0 : tI) (L0 : tL) (a0 : Nat) (t_a0 : z.ty a0 = 13) (p : Int32) (p_t : Int) (h_p : p.toInt = p_t) : Met l yX12_choose wsX12_choose ({ frames := 3, cells := 0, slots := 0, locals := 192 }) (va_Pc [.ref a0, .int p] (h_P E X A z I0 L0)) (va_Qi (fun r (I1 : tI) => h_I z I1 ∧ h_F [(1321, 999)] z I0 I1 ∧ True) (fun (I1 : tI) t => h_B E A z I1 L0 t) A) 0 0 A := by
  refine Met.ofW (cc := cX12_choose) (maxL := 2) (ret := (some .int)) (by decide) rfl ?_
  intro pr_ ev_ s m args below meth cd_ s₁ B hml hv
  obtain ⟨rfl, hE, hk, hX, hA, hK, hI, hR, hB0⟩ := hv
  have g : h_G h_so h_fk E A z I0 L0 s s.heap s.heap [] := ⟨hK, va_S.rf, hB0⟩
  have hF : h_F [(1321, 999)] z I0 I0 := h_F.rf
  have hx := B.exec
  have hb := B.bytes
  have hr := B.returns
  have hts := atoms_spec (ws := wsX12_choose) B.pre
  have hown : s.vm.findClass RX12 = some m.cls := findClass_of_methodNamed B.named
  have hlocks := B.notSynchronized
  have iX12 : ∀ w ∈ u_ws RX12 TX12 51, w ∈ wsX12_choose := by decide +kernel
  have hl := lv_entry ([.ref a0, .int p]) (n := 2) (Nat.le_of_ble_eq_true rfl)
  rw [lg_entry_eq]
  generalize (lg_sl ([.ref a0, .int p]) ++ List.replicate (2 - (lg_sl ([.ref a0, .int p])).length) Slot.unset).toArray = ls at hl ⊢
  have hl : lv_has ls 2 [(0, .ref a0), (1, .int p)] := hl
  have b_p : -2147483648 ≤ p_t ∧ p_t ≤ 2147483647 := h_p ▸ ⟨xi_lo p, Int.le_of_lt_add_one (xi_hi p)⟩
  refine lv_aload_n hx hb dX12_choose_0 rfl (lv_at hl 0 rfl) ?_
  refine lv_iload_n hx hb dX12_choose_1 rfl (lv_at hl 1 rfl) ?_
  refine vp_callSi (W.runV (As := [.int p]) (rest := []) ⟨hx, hb, hml, hown, hts⟩ (tX12_isPlayer l E X A z I0 L0 a0 t_a0 p (p_t) h_p) (cwV 1 hts gX12_choose_X12_isPlayer rfl rfl rfl (by decide +kernel) ⟨Nat.le_of_ble_eq_true rfl, Nat.le_of_ble_eq_true rfl⟩) ⟨h_blind _ _ _ _ _ _ _, h_recv g t_a0 (by decide) so_13 (q := (RX12, TX12, 51)) rfl, h_pre _ hE hk hX hA hI hR g⟩ rfl rfl hl.1 rfl (lv_room (Nat.le_of_ble_eq_true rfl)) dX12_choose_2 ⟨Nat.le_of_ble_eq_true rfl, Nat.le_of_ble_eq_true rfl⟩) (fun rh1 h1 => ?_)
  rcases h1 with ⟨rfl, h1⟩ | ⟨rfl, h1⟩
  · skip
    refine lv_if_ne (tgt := 11) hx hb dX12_choose_5 (by decide) (fun h => absurd (by decide) h) (fun _ => ?_)
    refine lv_bipush (v := (-2)) hx hb dX12_choose_8 (by decide) ?_
    have hS := g.2.1
    exact W.iret (v := (-2)) hx hb hr (fun t ht hW => ⟨⟨(-2), I0, rfl, ⟨hI, hF, trivial⟩, h_ret g ht⟩, hS.F ht⟩) hS.2.2 dX12_choose_10
  · skip
    refine lv_if_ne (tgt := 11) hx hb dX12_choose_5 (by decide) (fun _ => ?_) (fun h => absurd h (by decide))
    refine lv_aload_n hx hb dX12_choose_11 rfl (lv_at hl 0 rfl) ?_
    obtain ⟨b4, rb4, tb4⟩ := hR.at a0 14 t_a0 (rfl : h_rs 13 14 = some (1314, false)) (by decide)
    refine h_get (v := .ref b4) hx hb hts iX12 hown g t_a0 (by decide) so_13 rfl 14 (by decide) (hts (.fieldLink RX12 25 "CapLeagueModel" "clubOf" "[I") (by decide +kernel)) rfl dX12_choose_12 (by show va_rf (z.R a0 14) = _; rw [rb4]; rfl) ?_
    refine lv_iload_n hx hb dX12_choose_15 rfl (lv_at hl 1 rfl) ?_
    refine h_ald hx hb g tb4 (by decide) so_1314 (xi_in (by rw [h_p]; omega) (by rw [h_p]; omega)) dX12_choose_16 ?_
    refine lv_topi (fun v5 ev5 => ?_)
    have jv5 := hI.rd b4 p.toNatClampNeg tb4 ev5 (rfl : h_bd 1314 _ = ((-1), 7))
    refine lv_iconst (v := (-1)) hx hb dX12_choose_17 (by decide) ?_
    refine lv_icmp_eq (tgt := 54) hx hb dX12_choose_18 (by decide) (fun c6 => ?_) (fun c6 => ?_)
    · have ic6 := (xi_eq c6 rfl (by decide) : v5.toInt = (-1))
      refine lv_bipush (v := (-4)) hx hb dX12_choose_54 (by decide) ?_
      have hS := g.2.1
      exact W.iret (v := (-4)) hx hb hr (fun t ht hW => ⟨⟨(-4), I0, rfl, ⟨hI, hF, trivial⟩, h_ret g ht⟩, hS.F ht⟩) hS.2.2 dX12_choose_56
    · have ic6 := (xi_ne c6 rfl (by decide) : v5.toInt ≠ (-1))
      refine lv_aload_n hx hb dX12_choose_21 rfl (lv_at hl 0 rfl) ?_
      obtain ⟨b7, rb7, tb7⟩ := hR.at a0 20 t_a0 (rfl : h_rs 13 20 = some (1320, false)) (by decide)
      refine h_get (v := .ref b7) hx hb hts iX12 hown g t_a0 (by decide) so_13 rfl 20 (by decide) (hts (.fieldLink RX12 43 "CapLeagueModel" "hasChoice" "[Z") (by decide +kernel)) rfl dX12_choose_22 (by show va_rf (z.R a0 20) = _; rw [rb7]; rfl) ?_
      refine lv_iload_n hx hb dX12_choose_25 rfl (lv_at hl 1 rfl) ?_
      refine h_zald hx hb g tb7 (by decide) so_1320 (xi_in (by rw [h_p]; omega) (by rw [h_p]; omega)) dX12_choose_26 ?_
      refine lv_topi (fun v8 ev8 => ?_)
      have jv8 := hI.rd b7 p.toNatClampNeg tb7 ev8 (rfl : h_bd 1320 _ = (0, 1))
      refine lv_if_eq (tgt := 54) hx hb dX12_choose_27 (by decide) (fun c9 => ?_) (fun c9 => ?_)
      · have ic9 := (xi_eq c9 rfl (by decide) : v8.toInt = 0)
        refine lv_bipush (v := (-4)) hx hb dX12_choose_54 (by decide) ?_
        have hS := g.2.1
        exact W.iret (v := (-4)) hx hb hr (fun t ht hW => ⟨⟨(-4), I0, rfl, ⟨hI, hF, trivial⟩, h_ret g ht⟩, hS.F ht⟩) hS.2.2 dX12_choose_56
      · have ic9 := (xi_ne c9 rfl (by decide) : v8.toInt ≠ 0)
        refine lv_aload_n hx hb dX12_choose_30 rfl (lv_at hl 0 rfl) ?_
        obtain ⟨b10, rb10, tb10⟩ := hR.at a0 21 t_a0 (rfl : h_rs 13 21 = some (1321, false)) (by decide)
        refine h_get (v := .ref b10) hx hb hts iX12 hown g t_a0 (by decide) so_13 rfl 21 (by decide) (hts (.fieldLink RX12 46 "CapLeagueModel" "isTaken" "[Z") (by decide +kernel)) rfl dX12_choose_31 (by show va_rf (z.R a0 21) = _; rw [rb10]; rfl) ?_
        refine lv_iload_n hx hb dX12_choose_34 rfl (lv_at hl 1 rfl) ?_
        refine h_zald hx hb g tb10 (by decide) so_1321 (xi_in (by rw [h_p]; omega) (by rw [h_p]; omega)) dX12_choose_35 ?_
        refine lv_topi (fun v11 ev11 => ?_)
        have jv11 := hI.rd b10 p.toNatClampNeg tb10 ev11 (rfl : h_bd 1321 _ = (0, 1))
        refine lv_if_ne (tgt := 54) hx hb dX12_choose_36 (by decide) (fun c12 => ?_) (fun c12 => ?_)
        · have ic12 := (xi_ne c12 rfl (by decide) : v11.toInt ≠ 0)
          refine lv_bipush (v := (-4)) hx hb dX12_choose_54 (by decide) ?_
          have hS := g.2.1
          exact W.iret (v := (-4)) hx hb hr (fun t ht hW => ⟨⟨(-4), I0, rfl, ⟨hI, hF, trivial⟩, h_ret g ht⟩, hS.F ht⟩) hS.2.2 dX12_choose_56
        · have ic12 := (xi_eq c12 rfl (by decide) : v11.toInt = 0)
          refine lv_aload_n hx hb dX12_choose_39 rfl (lv_at hl 0 rfl) ?_
          obtain ⟨b13, rb13, tb13⟩ := hR.at a0 16 t_a0 (rfl : h_rs 13 16 = some (1316, false)) (by decide)
          refine h_get (v := .ref b13) hx hb hts iX12 hown g t_a0 (by decide) so_13 rfl 16 (by decide) (hts (.fieldLink RX12 31 "CapLeagueModel" "last" "[I") (by decide +kernel)) rfl dX12_choose_40 (by show va_rf (z.R a0 16) = _; rw [rb13]; rfl) ?_
          refine lv_iload_n hx hb dX12_choose_43 rfl (lv_at hl 1 rfl) ?_
          refine h_ald hx hb g tb13 (by decide) so_1316 (xi_in (by rw [h_p]; omega) (by rw [h_p]; omega)) dX12_choose_44 ?_
          refine lv_topi (fun v14 ev14 => ?_)
          have jv14 := hI.rd b13 p.toNatClampNeg tb13 ev14 (rfl : h_bd 1316 _ = ((-2147483648), 2147483647))
          refine lv_aload_n hx hb dX12_choose_45 rfl (lv_at hl 0 rfl) ?_
          refine h_get (v := .int (I0 a0 12)) hx hb hts iX12 hown g t_a0 (by decide) so_13 rfl 12 (by decide) (hts (.fieldLink RX12 187 "CapLeagueModel" "clock" "I") (by decide +kernel)) rfl dX12_choose_46 rfl ?_
          refine lv_topi (fun v15 ev15 => ?_)
          have jv15 := hI.rd a0 12 t_a0 ev15 (rfl : h_bd 13 12 = (0, 9))
          refine lv_iconst (v := 1) hx hb dX12_choose_49 (by decide) ?_
          refine lv_iadd hx hb dX12_choose_50 ?_
          refine lv_topi (fun v16 ev16 => ?_)
          have jv16 : v16.toInt = v15.toInt + 1 := xi_add ev16 rfl (by decide) (by omega) (by omega)
          refine lv_icmp_eq (tgt := 57) hx hb dX12_choose_51 (by decide) (fun c17 => ?_) (fun c17 => ?_)
          · have ic17 := (xi_eq c17 rfl rfl : v14.toInt = v16.toInt)
            refine lv_aload_n hx hb dX12_choose_57 rfl (lv_at hl 0 rfl) ?_
            refine h_get (v := .ref b10) hx hb hts iX12 hown g t_a0 (by decide) so_13 rfl 21 (by decide) (hts (.fieldLink RX12 46 "CapLeagueModel" "isTaken" "[Z") (by decide +kernel)) rfl dX12_choose_58 (by show va_rf (z.R a0 21) = _; rw [rb10]; rfl) ?_
            refine lv_iload_n hx hb dX12_choose_61 rfl (lv_at hl 1 rfl) ?_
            refine lv_iconst (v := 1) hx hb dX12_choose_62 (by decide) ?_
            refine h_zast hx hb g tb10 (by decide) so_1321 (xi_in (by rw [h_p]; omega) (by rw [h_p]; omega)) dX12_choose_63 (fun I18 H locs eI18 g => ?_)
            rw [h_nz (by decide) (by decide)] at eI18
            have hI := hI.wr eI18 tb10 (rfl : h_bd 1321 _ = (0, 1)) (by decide) (by decide)
            have hF := hF.wr eI18 tb10 rfl
            refine lv_iconst (v := 1) hx hb dX12_choose_64 (by decide) ?_
            have hS := g.2.1
            exact W.iret (v := 1) hx hb hr (fun t ht hW => ⟨⟨1, I18, rfl, ⟨hI, hF, trivial⟩, h_ret g ht⟩, hS.F ht⟩) hS.2.2 dX12_choose_65
          · have ic17 := (xi_ne c17 rfl rfl : v14.toInt ≠ v16.toInt)
            refine lv_bipush (v := (-4)) hx hb dX12_choose_54 (by decide) ?_
            have hS := g.2.1
            exact W.iret (v := (-4)) hx hb hr (fun t ht hW => ⟨⟨(-4), I0, rfl, ⟨hI, hF, trivial⟩, h_ret g ht⟩, hS.F ht⟩) hS.2.2 dX12_choose_56
set_option maxHeartbeats 4000000 in
set_option maxRecDepth 100000 in
theorem tX12_owner (l : Launch) (E : tE) (X : tX) (A : Nat → Prop) (z : tZ) (I0 : tI) (L0 : tL) (a0 : Nat) (t_a0 : z.ty a0 = 13) (o : Int32) (o_t : Int) (h_o : o.toInt = o_t) (y : Int32) (y_t : Int) (h_y : y.toInt = y_t) (x : Int32) (x_t : Int) (h_x : x.toInt = x_t) : Met l yX12_owner wsX12_owner ({ frames := 3, cells := 0, slots := 0, locals := 192 }) (va_Pc [.ref a0, .int o, .int y, .int x] (h_P E X A z I0 L0)) (vp_Si (fun r => True)) 0 0 (fun _ => False) := by
  refine Met.ofW (cc := cX12_owner) (maxL := 4) (ret := (some .int)) (by decide) rfl ?_
  intro pr_ ev_ s m args below meth cd_ s₁ B hml hv
  obtain ⟨rfl, hE, hk, hX, hA, hK, hI, hR, hB0⟩ := hv
  have g : h_G h_so h_fk E A z I0 L0 s s.heap s.heap [] := ⟨hK, va_S.rf, hB0⟩
  have hx := B.exec
  have hb := B.bytes
  have hr := B.returns
  have hts := atoms_spec (ws := wsX12_owner) B.pre
  have hown : s.vm.findClass RX12 = some m.cls := findClass_of_methodNamed B.named
  have hlocks := B.notSynchronized
  have iX12 : ∀ w ∈ u_ws RX12 TX12 51, w ∈ wsX12_owner := by decide +kernel
  have hl := lv_entry ([.ref a0, .int o, .int y, .int x]) (n := 4) (Nat.le_of_ble_eq_true rfl)
  rw [lg_entry_eq]
  generalize (lg_sl ([.ref a0, .int o, .int y, .int x]) ++ List.replicate (4 - (lg_sl ([.ref a0, .int o, .int y, .int x])).length) Slot.unset).toArray = ls at hl ⊢
  have hl : lv_has ls 4 [(0, .ref a0), (1, .int o), (2, .int y), (3, .int x)] := hl
  have b_o : -2147483648 ≤ o_t ∧ o_t ≤ 2147483647 := h_o ▸ ⟨xi_lo o, Int.le_of_lt_add_one (xi_hi o)⟩
  have b_y : -2147483648 ≤ y_t ∧ y_t ≤ 2147483647 := h_y ▸ ⟨xi_lo y, Int.le_of_lt_add_one (xi_hi y)⟩
  have b_x : -2147483648 ≤ x_t ∧ x_t ≤ 2147483647 := h_x ▸ ⟨xi_lo x, Int.le_of_lt_add_one (xi_hi x)⟩
  refine lv_iload_n hx hb dX12_owner_0 rfl (lv_at hl 1 rfl) ?_
  refine vp_callSi (W.runS (As := [.int o]) (rest := []) ⟨hx, hb, hml, hown, hts⟩ (tX12_isClub l E X A z I0 L0 o (o_t) h_o) (va_cwS 1 hts gX12_owner_X12_isClub rfl rfl rfl (by decide +kernel) ⟨Nat.le_of_ble_eq_true rfl, Nat.le_of_ble_eq_true rfl⟩) ⟨h_blind _ _ _ _ _ _ _, h_pre _ hE hk hX hA hI hR g⟩ rfl rfl hl.1 rfl (lv_room (Nat.le_of_ble_eq_true rfl)) dX12_owner_1 ⟨Nat.le_of_ble_eq_true rfl, Nat.le_of_ble_eq_true rfl⟩) (fun rh1 h1 => ?_)
  rcases h1 with ⟨rfl, h1⟩ | ⟨rfl, h1⟩
  · skip
    refine lv_if_eq (tgt := 19) hx hb dX12_owner_4 (by decide) (fun _ => ?_) (fun h => absurd (by decide) h)
    refine lv_bipush (v := (-2)) hx hb dX12_owner_19 (by decide) ?_
    exact W.iret (v := (-2)) hx hb hr (fun t ht hW => ⟨(-2), rfl, trivial, ht⟩) (fun _ h => by cases h) dX12_owner_21
  · skip
    refine lv_if_eq (tgt := 19) hx hb dX12_owner_4 (by decide) (fun h => absurd h (by decide)) (fun _ => ?_)
    refine lv_iload_n hx hb dX12_owner_7 rfl (lv_at hl 2 rfl) ?_
    refine lv_i2l hx hb dX12_owner_8 rfl ?_
    refine lv_topl (fun v4 ev4 => ?_)
    have jv4 : v4.toInt = y_t := by rw [ev4, xi_64]; exact h_y
    refine lv_lconst (v := 0) hx hb dX12_owner_9 (by decide) ?_
    refine lv_ldc2 (v := 9) hx hb hown (hts (.constantLong RX12 190 (9)) (by decide +kernel)) dX12_owner_10 ?_
    refine vp_callSi (W.runS (As := [.long v4, .long 0, .long 9]) (rest := []) ⟨hx, hb, hml, hown, hts⟩ (tX12_in l E X A z I0 L0 v4 (y_t) jv4 0 (0) (by decide) 9 (9) (by decide)) (va_cwS 3 hts gX12_owner_X12_in rfl rfl rfl (by decide +kernel) ⟨Nat.le_of_ble_eq_true rfl, Nat.le_of_ble_eq_true rfl⟩) ⟨h_blind _ _ _ _ _ _ _, h_pre _ hE hk hX hA hI hR g⟩ rfl rfl hl.1 rfl (lv_room (Nat.le_of_ble_eq_true rfl)) dX12_owner_13 ⟨Nat.le_of_ble_eq_true rfl, Nat.le_of_ble_eq_true rfl⟩) (fun rh5 h5 => ?_)
    rcases h5 with ⟨rfl, h5⟩ | ⟨rfl, h5⟩
    · skip
      refine lv_if_ne (tgt := 22) hx hb dX12_owner_16 (by decide) (fun h => absurd (by decide) h) (fun _ => ?_)
      refine lv_bipush (v := (-2)) hx hb dX12_owner_19 (by decide) ?_
      exact W.iret (v := (-2)) hx hb hr (fun t ht hW => ⟨(-2), rfl, trivial, ht⟩) (fun _ h => by cases h) dX12_owner_21
    · skip
      refine lv_if_ne (tgt := 22) hx hb dX12_owner_16 (by decide) (fun _ => ?_) (fun h => absurd h (by decide))
      refine lv_iload_n hx hb dX12_owner_22 rfl (lv_at hl 3 rfl) ?_
      refine lv_if_ne (tgt := 40) hx hb dX12_owner_23 (by decide) (fun c8 => ?_) (fun c8 => ?_)
      · have ic8 := (xi_ne c8 h_x (by decide) : x_t ≠ 0)
        refine lv_iload_n hx hb dX12_owner_40 rfl (lv_at hl 3 rfl) ?_
        refine lv_iconst (v := 1) hx hb dX12_owner_41 (by decide) ?_
        refine lv_icmp_ne (tgt := 59) hx hb dX12_owner_42 (by decide) (fun c9 => ?_) (fun c9 => ?_)
        · have ic9 := (xi_ne c9 h_x (by decide) : x_t ≠ 1)
          refine lv_bipush (v := (-2)) hx hb dX12_owner_59 (by decide) ?_
          exact W.iret (v := (-2)) hx hb hr (fun t ht hW => ⟨(-2), rfl, trivial, ht⟩) (fun _ h => by cases h) dX12_owner_61
        · have ic9 := (xi_eq c9 h_x (by decide) : x_t = 1)
          refine lv_aload_n hx hb dX12_owner_45 rfl (lv_at hl 0 rfl) ?_
          obtain ⟨b10, rb10, tb10⟩ := hR.at a0 27 t_a0 (rfl : h_rs 13 27 = some (1327, false)) (by decide)
          refine h_get (v := .ref b10) hx hb hts iX12 hown g t_a0 (by decide) so_13 rfl 27 (by decide) (hts (.fieldLink RX12 64 "CapLeagueModel" "guarded" "[I") (by decide +kernel)) rfl dX12_owner_46 (by show va_rf (z.R a0 27) = _; rw [rb10]; rfl) ?_
          refine lv_bipush (v := 10) hx hb dX12_owner_49 (by decide) ?_
          refine lv_iload_n hx hb dX12_owner_51 rfl (lv_at hl 1 rfl) ?_
          refine lv_imul hx hb dX12_owner_52 ?_
          refine lv_topi (fun v11 ev11 => ?_)
          have jv11 : v11.toInt = 10 * o_t := xi_mul ev11 (by decide) h_o (by omega) (by omega)
          refine lv_iload_n hx hb dX12_owner_53 rfl (lv_at hl 2 rfl) ?_
          refine lv_iadd hx hb dX12_owner_54 ?_
          refine lv_topi (fun v12 ev12 => ?_)
          have jv12 : v12.toInt = v11.toInt + y_t := xi_add ev12 rfl h_y (by omega) (by omega)
          refine h_ald hx hb g tb10 (by decide) so_1327 (xi_in (by omega) (by omega)) dX12_owner_55 ?_
          refine lv_topi (fun v13 ev13 => ?_)
          have jv13 := hI.rd b10 v12.toNatClampNeg tb10 ev13 (rfl : h_bd 1327 _ = ((-2147483648), 2147483647))
          refine lv_goto (tgt := 61) hx hb dX12_owner_56 (by decide) ?_
          exact W.iret (v := v13) hx hb hr (fun t ht hW => ⟨v13, rfl, trivial, ht⟩) (fun _ h => by cases h) dX12_owner_61
      · have ic8 := (xi_eq c8 h_x (by decide) : x_t = 0)
        refine lv_aload_n hx hb dX12_owner_26 rfl (lv_at hl 0 rfl) ?_
        obtain ⟨b14, rb14, tb14⟩ := hR.at a0 25 t_a0 (rfl : h_rs 13 25 = some (1325, false)) (by decide)
        refine h_get (v := .ref b14) hx hb hts iX12 hown g t_a0 (by decide) so_13 rfl 25 (by decide) (hts (.fieldLink RX12 58 "CapLeagueModel" "owner" "[I") (by decide +kernel)) rfl dX12_owner_27 (by show va_rf (z.R a0 25) = _; rw [rb14]; rfl) ?_
        refine lv_bipush (v := 10) hx hb dX12_owner_30 (by decide) ?_
        refine lv_iload_n hx hb dX12_owner_32 rfl (lv_at hl 1 rfl) ?_
        refine lv_imul hx hb dX12_owner_33 ?_
        refine lv_topi (fun v15 ev15 => ?_)
        have jv15 : v15.toInt = 10 * o_t := xi_mul ev15 (by decide) h_o (by omega) (by omega)
        refine lv_iload_n hx hb dX12_owner_34 rfl (lv_at hl 2 rfl) ?_
        refine lv_iadd hx hb dX12_owner_35 ?_
        refine lv_topi (fun v16 ev16 => ?_)
        have jv16 : v16.toInt = v15.toInt + y_t := xi_add ev16 rfl h_y (by omega) (by omega)
        refine h_ald hx hb g tb14 (by decide) so_1325 (xi_in (by omega) (by omega)) dX12_owner_36 ?_
        refine lv_topi (fun v17 ev17 => ?_)
        have jv17 := hI.rd b14 v16.toNatClampNeg tb14 ev17 (rfl : h_bd 1325 _ = ((-2147483648), 2147483647))
        refine lv_goto (tgt := 61) hx hb dX12_owner_37 (by decide) ?_
        exact W.iret (v := v17) hx hb hr (fun t ht hW => ⟨v17, rfl, trivial, ht⟩) (fun _ h => by cases h) dX12_owner_61
set_option maxHeartbeats 4000000 in
set_option maxRecDepth 100000 in
theorem tX12_worthTo (l : Launch) (E : tE) (X : tX) (A : Nat → Prop) (z : tZ) (I0 : tI) (L0 : tL) (a0 : Nat) (t_a0 : z.ty a0 = 13) (c : Int32) (c_t : Int) (h_c : c.toInt = c_t) (b_c : 0 ≤ c_t ∧ c_t ≤ 7) (x : Int32) (x_t : Int) (h_x : x.toInt = x_t) (b_x : 0 ≤ x_t ∧ x_t ≤ 139) : Met l yX12_worthTo wsX12_worthTo ({ frames := 1, cells := 0, slots := 0, locals := 64 }) (va_Pc [.ref a0, .int c, .int x] (h_P E X A z I0 L0)) (vp_Si (fun r => True)) 0 0 (fun _ => False) := by
  refine Met.ofW (cc := cX12_worthTo) (maxL := 3) (ret := (some .int)) (by decide) rfl ?_
  intro pr_ ev_ s m args below meth cd_ s₁ B hml hv
  obtain ⟨rfl, hE, hk, hX, hA, hK, hI, hR, hB0⟩ := hv
  have g : h_G h_so h_fk E A z I0 L0 s s.heap s.heap [] := ⟨hK, va_S.rf, hB0⟩
  have hx := B.exec
  have hb := B.bytes
  have hr := B.returns
  have hts := atoms_spec (ws := wsX12_worthTo) B.pre
  have hown : s.vm.findClass RX12 = some m.cls := findClass_of_methodNamed B.named
  have hlocks := B.notSynchronized
  have iX12 : ∀ w ∈ u_ws RX12 TX12 51, w ∈ wsX12_worthTo := by decide +kernel
  have hl := lv_entry ([.ref a0, .int c, .int x]) (n := 3) (Nat.le_of_ble_eq_true rfl)
  rw [lg_entry_eq]
  generalize (lg_sl ([.ref a0, .int c, .int x]) ++ List.replicate (3 - (lg_sl ([.ref a0, .int c, .int x])).length) Slot.unset).toArray = ls at hl ⊢
  have hl : lv_has ls 3 [(0, .ref a0), (1, .int c), (2, .int x)] := hl
  refine lv_aload_n hx hb dX12_worthTo_0 rfl (lv_at hl 0 rfl) ?_
  obtain ⟨b1, rb1, tb1⟩ := hR.at a0 38 t_a0 (rfl : h_rs 13 38 = some (1338, false)) (by decide)
  refine h_get (v := .ref b1) hx hb hts iX12 hown g t_a0 (by decide) so_13 rfl 38 (by decide) (hts (.fieldLink RX12 88 "CapLeagueModel" "worths" "[I") (by decide +kernel)) rfl dX12_worthTo_1 (by show va_rf (z.R a0 38) = _; rw [rb1]; rfl) ?_
  refine lv_sipush (v := 140) hx hb dX12_worthTo_4 (by decide) ?_
  refine lv_iload_n hx hb dX12_worthTo_7 rfl (lv_at hl 1 rfl) ?_
  refine lv_imul hx hb dX12_worthTo_8 ?_
  refine lv_topi (fun v2 ev2 => ?_)
  have jv2 : v2.toInt = 140 * c_t := xi_mul ev2 (by decide) h_c (by omega) (by omega)
  refine lv_iload_n hx hb dX12_worthTo_9 rfl (lv_at hl 2 rfl) ?_
  refine lv_iadd hx hb dX12_worthTo_10 ?_
  refine lv_topi (fun v3 ev3 => ?_)
  have jv3 : v3.toInt = v2.toInt + x_t := xi_add ev3 rfl h_x (by omega) (by omega)
  refine h_ald hx hb g tb1 (by decide) so_1338 (xi_in (by omega) (by omega)) dX12_worthTo_11 ?_
  refine lv_topi (fun v4 ev4 => ?_)
  have jv4 := hI.rd b1 v3.toNatClampNeg tb1 ev4 (rfl : h_bd 1338 _ = ((-2147483648), 2147483647))
  exact W.iret (v := v4) hx hb hr (fun t ht hW => ⟨v4, rfl, trivial, ht⟩) (fun _ h => by cases h) dX12_worthTo_12
set_option maxHeartbeats 4000000 in
set_option maxRecDepth 100000 in
theorem tX12_gainOf (l : Launch) (E : tE) (X : tX) (A : Nat → Prop) (z : tZ) (I0 : tI) (L0 : tL) (a0 : Nat) (t_a0 : z.ty a0 = 13) (c : Int32) (c_t : Int) (h_c : c.toInt = c_t) (b_c : 0 ≤ c_t ∧ c_t ≤ 7) : Met l yX12_gainOf wsX12_gainOf ({ frames := 2, cells := 0, slots := 0, locals := 128 }) (va_Pc [.ref a0, .int c] (h_P E X A z I0 L0)) (vp_Si (fun r => True)) 0 0 (fun _ => False) := by
  refine Met.ofW (cc := cX12_gainOf) (maxL := 4) (ret := (some .int)) (by decide) rfl ?_
  intro pr_ ev_ s m args below meth cd_ s₁ B hml hv
  obtain ⟨rfl, hE, hk, hX, hA, hK, hI, hR, hB0⟩ := hv
  have g : h_G h_so h_fk E A z I0 L0 s s.heap s.heap [] := ⟨hK, va_S.rf, hB0⟩
  have hx := B.exec
  have hb := B.bytes
  have hr := B.returns
  have hts := atoms_spec (ws := wsX12_gainOf) B.pre
  have hown : s.vm.findClass RX12 = some m.cls := findClass_of_methodNamed B.named
  have hlocks := B.notSynchronized
  have iX12 : ∀ w ∈ u_ws RX12 TX12 51, w ∈ wsX12_gainOf := by decide +kernel
  have hl := lv_entry ([.ref a0, .int c]) (n := 4) (Nat.le_of_ble_eq_true rfl)
  rw [lg_entry_eq]
  generalize (lg_sl ([.ref a0, .int c]) ++ List.replicate (4 - (lg_sl ([.ref a0, .int c])).length) Slot.unset).toArray = ls at hl ⊢
  have hl : lv_has ls 4 [(0, .ref a0), (1, .int c)] := hl
  refine lv_iconst (v := 0) hx hb dX12_gainOf_0 (by decide) ?_
  refine lv_istore_n (lv' := [(2, .int 0), (0, .ref a0), (1, .int c)]) hx hb dX12_gainOf_1 rfl hl (by decide) rfl (fun ls hl => ?_)
  refine lv_iconst (v := 0) hx hb dX12_gainOf_2 (by decide) ?_
  refine lv_istore_n (lv' := [(3, .int 0), (2, .int 0), (0, .ref a0), (1, .int c)]) hx hb dX12_gainOf_3 rfl hl (by decide) rfl (fun ls hl => ?_)
  have loop4_0 : ∀ (n : Nat) (ls : Array Slot) (v1 v2 : Int32), lv_has ls 4 [(0, .ref a0), (1, .int c), (2, .int v1), (3, .int v2)] → ((-2147483648) ≤ v1.toInt ∧ v1.toInt ≤ 2147483647) → (0 ≤ v2.toInt ∧ v2.toInt ≤ 12) → (12 - v2.toInt) < (n : Int) → W pr_ l ev_ (headSpec wsX12_gainOf ({ frames := 2, cells := 0, slots := 0, locals := 128 })).room s m ([.ref a0, .int c] : List Value).toArray below meth cd_ s.heap [] 0 0 (MQ below (vp_Si (fun r => True)) ([.ref a0, .int c] : List Value).toArray s 0 0 (fun _ => False)) (F0 m 4 ls []) := by
    intro n
    induction n with
    | zero => intro ls v1 v2 hl jv1 jv2 hn; exact absurd hn (by omega)
    | succ n ih4 =>
      intro ls v1 v2 hl jv1 jv2 hn
      refine lv_iload_n hx hb dX12_gainOf_4 rfl (lv_at hl 3 rfl) ?_
      refine lv_aload_n hx hb dX12_gainOf_5 rfl (lv_at hl 0 rfl) ?_
      refine h_get (v := .int (I0 a0 33)) hx hb hts iX12 hown g t_a0 (by decide) so_13 rfl 33 (by decide) (hts (.fieldLink RX12 247 "CapLeagueModel" "moves" "I") (by decide +kernel)) rfl dX12_gainOf_6 rfl ?_
      refine lv_topi (fun v3 ev3 => ?_)
      have jv3 := hI.rd a0 33 t_a0 ev3 (rfl : h_bd 13 33 = (0, 12))
      refine lv_icmp_ge (tgt := 72) hx hb dX12_gainOf_9 (by decide) (fun c4 => ?_) (fun c4 => ?_)
      · have ic4 := (xi_le c4 rfl rfl : v3.toInt ≤ v2.toInt)
        refine lv_iload_n hx hb dX12_gainOf_72 rfl (lv_at hl 2 rfl) ?_
        exact W.iret (v := v1) hx hb hr (fun t ht hW => ⟨v1, rfl, trivial, ht⟩) (fun _ h => by cases h) dX12_gainOf_73
      · have ic4 := (xi_nle c4 rfl rfl : v2.toInt < v3.toInt)
        refine lv_iload_n hx hb dX12_gainOf_12 rfl (lv_at hl 2 rfl) ?_
        refine lv_aload_n hx hb dX12_gainOf_13 rfl (lv_at hl 0 rfl) ?_
        obtain ⟨b5, rb5, tb5⟩ := hR.at a0 36 t_a0 (rfl : h_rs 13 36 = some (1336, false)) (by decide)
        refine h_get (v := .ref b5) hx hb hts iX12 hown g t_a0 (by decide) so_13 rfl 36 (by decide) (hts (.fieldLink RX12 82 "CapLeagueModel" "to" "[I") (by decide +kernel)) rfl dX12_gainOf_14 (by show va_rf (z.R a0 36) = _; rw [rb5]; rfl) ?_
        refine lv_iload_n hx hb dX12_gainOf_17 rfl (lv_at hl 3 rfl) ?_
        refine h_ald hx hb g tb5 (by decide) so_1336 (xi_in (by omega) (by omega)) dX12_gainOf_18 ?_
        refine lv_topi (fun v6 ev6 => ?_)
        have jv6 := hI.rd b5 v2.toNatClampNeg tb5 ev6 (rfl : h_bd 1336 _ = (0, 7))
        refine lv_iload_n hx hb dX12_gainOf_19 rfl (lv_at hl 1 rfl) ?_
        refine lv_icmp_ne (tgt := 37) hx hb dX12_gainOf_20 (by decide) (fun c7 => ?_) (fun c7 => ?_)
        · have ic7 := (xi_ne c7 rfl h_c : v6.toInt ≠ c_t)
          refine lv_iconst (v := 0) hx hb dX12_gainOf_37 (by decide) ?_
          refine lv_aload_n hx hb dX12_gainOf_38 rfl (lv_at hl 0 rfl) ?_
          obtain ⟨b8, rb8, tb8⟩ := hR.at a0 35 t_a0 (rfl : h_rs 13 35 = some (1335, false)) (by decide)
          refine h_get (v := .ref b8) hx hb hts iX12 hown g t_a0 (by decide) so_13 rfl 35 (by decide) (hts (.fieldLink RX12 79 "CapLeagueModel" "from" "[I") (by decide +kernel)) rfl dX12_gainOf_39 (by show va_rf (z.R a0 35) = _; rw [rb8]; rfl) ?_
          refine lv_iload_n hx hb dX12_gainOf_42 rfl (lv_at hl 3 rfl) ?_
          refine h_ald hx hb g tb8 (by decide) so_1335 (xi_in (by omega) (by omega)) dX12_gainOf_43 ?_
          refine lv_topi (fun v9 ev9 => ?_)
          have jv9 := hI.rd b8 v2.toNatClampNeg tb8 ev9 (rfl : h_bd 1335 _ = ((-2147483648), 2147483647))
          refine lv_iload_n hx hb dX12_gainOf_44 rfl (lv_at hl 1 rfl) ?_
          refine lv_icmp_ne (tgt := 62) hx hb dX12_gainOf_45 (by decide) (fun c10 => ?_) (fun c10 => ?_)
          · have ic10 := (xi_ne c10 rfl h_c : v9.toInt ≠ c_t)
            refine lv_iconst (v := 0) hx hb dX12_gainOf_62 (by decide) ?_
            refine lv_isub hx hb dX12_gainOf_63 ?_
            refine xw_i (v := 0) (by decide) ?_
            refine lv_iadd hx hb dX12_gainOf_64 ?_
            refine lv_topi (fun v11 ev11 => ?_)
            have jv11 : v11.toInt = v1.toInt + 0 := xi_add ev11 rfl (by decide) (by omega) (by omega)
            refine lv_istore_n (lv' := [(2, .int v11), (0, .ref a0), (1, .int c), (3, .int v2)]) hx hb dX12_gainOf_65 rfl hl (by decide) rfl (fun ls hl => ?_)
            obtain ⟨v12, ev12⟩ : ∃ z : Int32, z = v2 + 1 := ⟨_, rfl⟩
            have jv12 : v12.toInt = v2.toInt + 1 := xi_add ev12 rfl (by decide) (by omega) (by omega)
            refine lv_iinc (v := v12) (lv' := [(3, .int v12), (2, .int v11), (0, .ref a0), (1, .int c)]) hx hb dX12_gainOf_66 hl (k := 3) rfl (by rw [ev12]; rfl) (by decide) rfl (fun ls hl => ?_)
            refine lv_goto (tgt := 4) hx hb dX12_gainOf_69 (by decide) ?_
            exact ih4 _ v11 v12 (lv_sub hl [2, 3, 1, 0] rfl) (by omega) (by omega) (by omega)
          · have ic10 := (xi_eq c10 rfl h_c : v9.toInt = c_t)
            refine lv_aload_n hx hb dX12_gainOf_48 rfl (lv_at hl 0 rfl) ?_
            refine lv_iload_n hx hb dX12_gainOf_49 rfl (lv_at hl 1 rfl) ?_
            refine lv_aload_n hx hb dX12_gainOf_50 rfl (lv_at hl 0 rfl) ?_
            obtain ⟨b13, rb13, tb13⟩ := hR.at a0 34 t_a0 (rfl : h_rs 13 34 = some (1334, false)) (by decide)
            refine h_get (v := .ref b13) hx hb hts iX12 hown g t_a0 (by decide) so_13 rfl 34 (by decide) (hts (.fieldLink RX12 76 "CapLeagueModel" "moved" "[I") (by decide +kernel)) rfl dX12_gainOf_51 (by show va_rf (z.R a0 34) = _; rw [rb13]; rfl) ?_
            refine lv_iload_n hx hb dX12_gainOf_54 rfl (lv_at hl 3 rfl) ?_
            refine h_ald hx hb g tb13 (by decide) so_1334 (xi_in (by omega) (by omega)) dX12_gainOf_55 ?_
            refine lv_topi (fun v14 ev14 => ?_)
            have jv14 := hI.rd b13 v2.toNatClampNeg tb13 ev14 (rfl : h_bd 1334 _ = (0, 139))
            refine vp_callSi (W.runV (As := [.int c, .int v14]) (rest := [.int 0, .int v1]) ⟨hx, hb, hml, hown, hts⟩ (tX12_worthTo l E X A z I0 L0 a0 t_a0 c (c_t) h_c (by omega) v14 (v14.toInt) rfl (by omega)) (cwV 2 hts gX12_gainOf_X12_worthTo rfl rfl rfl (by decide +kernel) ⟨Nat.le_of_ble_eq_true rfl, Nat.le_of_ble_eq_true rfl⟩) ⟨h_blind _ _ _ _ _ _ _, h_recv g t_a0 (by decide) so_13 (q := (RX12, TX12, 51)) rfl, h_pre _ hE hk hX hA hI hR g⟩ rfl rfl hl.1 rfl (lv_room (Nat.le_of_ble_eq_true rfl)) dX12_gainOf_56 ⟨Nat.le_of_ble_eq_true rfl, Nat.le_of_ble_eq_true rfl⟩) (fun rh15 h15 => ?_)
            have jrh15 : -2147483648 ≤ rh15.toInt ∧ rh15.toInt ≤ 2147483647 := ⟨xi_lo _, Int.le_of_lt_add_one (xi_hi _)⟩
            refine lv_goto (tgt := 63) hx hb dX12_gainOf_59 (by decide) ?_
            refine lv_isub hx hb dX12_gainOf_63 ?_
            refine lv_topi (fun v16 ev16 => ?_)
            have jv16 : -2147483648 ≤ v16.toInt ∧ v16.toInt ≤ 2147483647 := ⟨xi_lo _, Int.le_of_lt_add_one (xi_hi _)⟩
            refine lv_iadd hx hb dX12_gainOf_64 ?_
            refine lv_topi (fun v17 ev17 => ?_)
            have jv17 : -2147483648 ≤ v17.toInt ∧ v17.toInt ≤ 2147483647 := ⟨xi_lo _, Int.le_of_lt_add_one (xi_hi _)⟩
            refine lv_istore_n (lv' := [(2, .int v17), (0, .ref a0), (1, .int c), (3, .int v2)]) hx hb dX12_gainOf_65 rfl hl (by decide) rfl (fun ls hl => ?_)
            obtain ⟨v18, ev18⟩ : ∃ z : Int32, z = v2 + 1 := ⟨_, rfl⟩
            have jv18 : v18.toInt = v2.toInt + 1 := xi_add ev18 rfl (by decide) (by omega) (by omega)
            refine lv_iinc (v := v18) (lv' := [(3, .int v18), (2, .int v17), (0, .ref a0), (1, .int c)]) hx hb dX12_gainOf_66 hl (k := 3) rfl (by rw [ev18]; rfl) (by decide) rfl (fun ls hl => ?_)
            refine lv_goto (tgt := 4) hx hb dX12_gainOf_69 (by decide) ?_
            exact ih4 _ v17 v18 (lv_sub hl [2, 3, 1, 0] rfl) (by omega) (by omega) (by omega)
        · have ic7 := (xi_eq c7 rfl h_c : v6.toInt = c_t)
          refine lv_aload_n hx hb dX12_gainOf_23 rfl (lv_at hl 0 rfl) ?_
          refine lv_iload_n hx hb dX12_gainOf_24 rfl (lv_at hl 1 rfl) ?_
          refine lv_aload_n hx hb dX12_gainOf_25 rfl (lv_at hl 0 rfl) ?_
          obtain ⟨b19, rb19, tb19⟩ := hR.at a0 34 t_a0 (rfl : h_rs 13 34 = some (1334, false)) (by decide)
          refine h_get (v := .ref b19) hx hb hts iX12 hown g t_a0 (by decide) so_13 rfl 34 (by decide) (hts (.fieldLink RX12 76 "CapLeagueModel" "moved" "[I") (by decide +kernel)) rfl dX12_gainOf_26 (by show va_rf (z.R a0 34) = _; rw [rb19]; rfl) ?_
          refine lv_iload_n hx hb dX12_gainOf_29 rfl (lv_at hl 3 rfl) ?_
          refine h_ald hx hb g tb19 (by decide) so_1334 (xi_in (by omega) (by omega)) dX12_gainOf_30 ?_
          refine lv_topi (fun v20 ev20 => ?_)
          have jv20 := hI.rd b19 v2.toNatClampNeg tb19 ev20 (rfl : h_bd 1334 _ = (0, 139))
          refine vp_callSi (W.runV (As := [.int c, .int v20]) (rest := [.int v1]) ⟨hx, hb, hml, hown, hts⟩ (tX12_worthTo l E X A z I0 L0 a0 t_a0 c (c_t) h_c (by omega) v20 (v20.toInt) rfl (by omega)) (cwV 2 hts gX12_gainOf_X12_worthTo rfl rfl rfl (by decide +kernel) ⟨Nat.le_of_ble_eq_true rfl, Nat.le_of_ble_eq_true rfl⟩) ⟨h_blind _ _ _ _ _ _ _, h_recv g t_a0 (by decide) so_13 (q := (RX12, TX12, 51)) rfl, h_pre _ hE hk hX hA hI hR g⟩ rfl rfl hl.1 rfl (lv_room (Nat.le_of_ble_eq_true rfl)) dX12_gainOf_31 ⟨Nat.le_of_ble_eq_true rfl, Nat.le_of_ble_eq_true rfl⟩) (fun rh21 h21 => ?_)
          have jrh21 : -2147483648 ≤ rh21.toInt ∧ rh21.toInt ≤ 2147483647 := ⟨xi_lo _, Int.le_of_lt_add_one (xi_hi _)⟩
          refine lv_goto (tgt := 38) hx hb dX12_gainOf_34 (by decide) ?_
          refine lv_aload_n hx hb dX12_gainOf_38 rfl (lv_at hl 0 rfl) ?_
          obtain ⟨b22, rb22, tb22⟩ := hR.at a0 35 t_a0 (rfl : h_rs 13 35 = some (1335, false)) (by decide)
          refine h_get (v := .ref b22) hx hb hts iX12 hown g t_a0 (by decide) so_13 rfl 35 (by decide) (hts (.fieldLink RX12 79 "CapLeagueModel" "from" "[I") (by decide +kernel)) rfl dX12_gainOf_39 (by show va_rf (z.R a0 35) = _; rw [rb22]; rfl) ?_
          refine lv_iload_n hx hb dX12_gainOf_42 rfl (lv_at hl 3 rfl) ?_
          refine h_ald hx hb g tb22 (by decide) so_1335 (xi_in (by omega) (by omega)) dX12_gainOf_43 ?_
          refine lv_topi (fun v23 ev23 => ?_)
          have jv23 := hI.rd b22 v2.toNatClampNeg tb22 ev23 (rfl : h_bd 1335 _ = ((-2147483648), 2147483647))
          refine lv_iload_n hx hb dX12_gainOf_44 rfl (lv_at hl 1 rfl) ?_
          refine lv_icmp_ne (tgt := 62) hx hb dX12_gainOf_45 (by decide) (fun c24 => ?_) (fun c24 => ?_)
          · have ic24 := (xi_ne c24 rfl h_c : v23.toInt ≠ c_t)
            refine lv_iconst (v := 0) hx hb dX12_gainOf_62 (by decide) ?_
            refine lv_isub hx hb dX12_gainOf_63 ?_
            refine lv_topi (fun v25 ev25 => ?_)
            have jv25 : v25.toInt = rh21.toInt - 0 := xi_sub ev25 rfl (by decide) (by omega) (by omega)
            refine lv_iadd hx hb dX12_gainOf_64 ?_
            refine lv_topi (fun v26 ev26 => ?_)
            have jv26 : -2147483648 ≤ v26.toInt ∧ v26.toInt ≤ 2147483647 := ⟨xi_lo _, Int.le_of_lt_add_one (xi_hi _)⟩
            refine lv_istore_n (lv' := [(2, .int v26), (0, .ref a0), (1, .int c), (3, .int v2)]) hx hb dX12_gainOf_65 rfl hl (by decide) rfl (fun ls hl => ?_)
            obtain ⟨v27, ev27⟩ : ∃ z : Int32, z = v2 + 1 := ⟨_, rfl⟩
            have jv27 : v27.toInt = v2.toInt + 1 := xi_add ev27 rfl (by decide) (by omega) (by omega)
            refine lv_iinc (v := v27) (lv' := [(3, .int v27), (2, .int v26), (0, .ref a0), (1, .int c)]) hx hb dX12_gainOf_66 hl (k := 3) rfl (by rw [ev27]; rfl) (by decide) rfl (fun ls hl => ?_)
            refine lv_goto (tgt := 4) hx hb dX12_gainOf_69 (by decide) ?_
            exact ih4 _ v26 v27 (lv_sub hl [2, 3, 1, 0] rfl) (by omega) (by omega) (by omega)
          · have ic24 := (xi_eq c24 rfl h_c : v23.toInt = c_t)
            refine lv_aload_n hx hb dX12_gainOf_48 rfl (lv_at hl 0 rfl) ?_
            refine lv_iload_n hx hb dX12_gainOf_49 rfl (lv_at hl 1 rfl) ?_
            refine lv_aload_n hx hb dX12_gainOf_50 rfl (lv_at hl 0 rfl) ?_
            refine h_get (v := .ref b19) hx hb hts iX12 hown g t_a0 (by decide) so_13 rfl 34 (by decide) (hts (.fieldLink RX12 76 "CapLeagueModel" "moved" "[I") (by decide +kernel)) rfl dX12_gainOf_51 (by show va_rf (z.R a0 34) = _; rw [rb19]; rfl) ?_
            refine lv_iload_n hx hb dX12_gainOf_54 rfl (lv_at hl 3 rfl) ?_
            refine h_ald hx hb g tb19 (by decide) so_1334 (xi_in (by omega) (by omega)) dX12_gainOf_55 ?_
            refine xw_i (ev20.symm) ?_
            refine vp_callSi (W.runV (As := [.int c, .int v20]) (rest := [.int rh21, .int v1]) ⟨hx, hb, hml, hown, hts⟩ (tX12_worthTo l E X A z I0 L0 a0 t_a0 c (c_t) h_c (by omega) v20 (v20.toInt) rfl (by omega)) (cwV 2 hts gX12_gainOf_X12_worthTo rfl rfl rfl (by decide +kernel) ⟨Nat.le_of_ble_eq_true rfl, Nat.le_of_ble_eq_true rfl⟩) ⟨h_blind _ _ _ _ _ _ _, h_recv g t_a0 (by decide) so_13 (q := (RX12, TX12, 51)) rfl, h_pre _ hE hk hX hA hI hR g⟩ rfl rfl hl.1 rfl (lv_room (Nat.le_of_ble_eq_true rfl)) dX12_gainOf_56 ⟨Nat.le_of_ble_eq_true rfl, Nat.le_of_ble_eq_true rfl⟩) (fun rh28 h28 => ?_)
            have jrh28 : -2147483648 ≤ rh28.toInt ∧ rh28.toInt ≤ 2147483647 := ⟨xi_lo _, Int.le_of_lt_add_one (xi_hi _)⟩
            refine lv_goto (tgt := 63) hx hb dX12_gainOf_59 (by decide) ?_
            refine lv_isub hx hb dX12_gainOf_63 ?_
            refine lv_topi (fun v29 ev29 => ?_)
            have jv29 : -2147483648 ≤ v29.toInt ∧ v29.toInt ≤ 2147483647 := ⟨xi_lo _, Int.le_of_lt_add_one (xi_hi _)⟩
            refine lv_iadd hx hb dX12_gainOf_64 ?_
            refine lv_topi (fun v30 ev30 => ?_)
            have jv30 : -2147483648 ≤ v30.toInt ∧ v30.toInt ≤ 2147483647 := ⟨xi_lo _, Int.le_of_lt_add_one (xi_hi _)⟩
            refine lv_istore_n (lv' := [(2, .int v30), (0, .ref a0), (1, .int c), (3, .int v2)]) hx hb dX12_gainOf_65 rfl hl (by decide) rfl (fun ls hl => ?_)
            obtain ⟨v31, ev31⟩ : ∃ z : Int32, z = v2 + 1 := ⟨_, rfl⟩
            have jv31 : v31.toInt = v2.toInt + 1 := xi_add ev31 rfl (by decide) (by omega) (by omega)
            refine lv_iinc (v := v31) (lv' := [(3, .int v31), (2, .int v30), (0, .ref a0), (1, .int c)]) hx hb dX12_gainOf_66 hl (k := 3) rfl (by rw [ev31]; rfl) (by decide) rfl (fun ls hl => ?_)
            refine lv_goto (tgt := 4) hx hb dX12_gainOf_69 (by decide) ?_
            exact ih4 _ v30 v31 (lv_sub hl [2, 3, 1, 0] rfl) (by omega) (by omega) (by omega)
  exact loop4_0 _ _ (0) (0) (lv_sub hl [2, 3, 1, 0] rfl) ⟨by decide, by decide⟩ ⟨by decide, by decide⟩ (show (12 - (0 : Int)) < (((12 - (0 : Int)).toNat + 1 : Nat) : Int) by omega)
set_option maxHeartbeats 4000000 in
set_option maxRecDepth 100000 in
theorem tX12_gain (l : Launch) (E : tE) (X : tX) (A : Nat → Prop) (z : tZ) (I0 : tI) (L0 : tL) (a0 : Nat) (t_a0 : z.ty a0 = 13) (c : Int32) (c_t : Int) (h_c : c.toInt = c_t) : Met l yX12_gain wsX12_gain ({ frames := 3, cells := 0, slots := 0, locals := 192 }) (va_Pc [.ref a0, .int c] (h_P E X A z I0 L0)) (vp_Si (fun r => True)) 0 0 (fun _ => False) := by
  refine Met.ofW (cc := cX12_gain) (maxL := 2) (ret := (some .int)) (by decide) rfl ?_
  intro pr_ ev_ s m args below meth cd_ s₁ B hml hv
  obtain ⟨rfl, hE, hk, hX, hA, hK, hI, hR, hB0⟩ := hv
  have g : h_G h_so h_fk E A z I0 L0 s s.heap s.heap [] := ⟨hK, va_S.rf, hB0⟩
  have hx := B.exec
  have hb := B.bytes
  have hr := B.returns
  have hts := atoms_spec (ws := wsX12_gain) B.pre
  have hown : s.vm.findClass RX12 = some m.cls := findClass_of_methodNamed B.named
  have hlocks := B.notSynchronized
  have hl := lv_entry ([.ref a0, .int c]) (n := 2) (Nat.le_of_ble_eq_true rfl)
  rw [lg_entry_eq]
  generalize (lg_sl ([.ref a0, .int c]) ++ List.replicate (2 - (lg_sl ([.ref a0, .int c])).length) Slot.unset).toArray = ls at hl ⊢
  have hl : lv_has ls 2 [(0, .ref a0), (1, .int c)] := hl
  have b_c : -2147483648 ≤ c_t ∧ c_t ≤ 2147483647 := h_c ▸ ⟨xi_lo c, Int.le_of_lt_add_one (xi_hi c)⟩
  refine lv_iload_n hx hb dX12_gain_0 rfl (lv_at hl 1 rfl) ?_
  refine vp_callSi (W.runS (As := [.int c]) (rest := []) ⟨hx, hb, hml, hown, hts⟩ (tX12_isClub l E X A z I0 L0 c (c_t) h_c) (va_cwS 1 hts gX12_gain_X12_isClub rfl rfl rfl (by decide +kernel) ⟨Nat.le_of_ble_eq_true rfl, Nat.le_of_ble_eq_true rfl⟩) ⟨h_blind _ _ _ _ _ _ _, h_pre _ hE hk hX hA hI hR g⟩ rfl rfl hl.1 rfl (lv_room (Nat.le_of_ble_eq_true rfl)) dX12_gain_1 ⟨Nat.le_of_ble_eq_true rfl, Nat.le_of_ble_eq_true rfl⟩) (fun rh1 h1 => ?_)
  rcases h1 with ⟨rfl, h1⟩ | ⟨rfl, h1⟩
  · skip
    refine lv_if_eq (tgt := 15) hx hb dX12_gain_4 (by decide) (fun _ => ?_) (fun h => absurd (by decide) h)
    refine lv_ldcw (v := (-2000000000)) hx hb hown (hts (.constant RX12 277 (-2000000000)) (by decide +kernel)) dX12_gain_15 ?_
    exact W.iret (v := (-2000000000)) hx hb hr (fun t ht hW => ⟨(-2000000000), rfl, trivial, ht⟩) (fun _ h => by cases h) dX12_gain_18
  · skip
    refine lv_if_eq (tgt := 15) hx hb dX12_gain_4 (by decide) (fun h => absurd h (by decide)) (fun _ => ?_)
    refine lv_aload_n hx hb dX12_gain_7 rfl (lv_at hl 0 rfl) ?_
    refine lv_iload_n hx hb dX12_gain_8 rfl (lv_at hl 1 rfl) ?_
    refine vp_callSi (W.runV (As := [.int c]) (rest := []) ⟨hx, hb, hml, hown, hts⟩ (tX12_gainOf l E X A z I0 L0 a0 t_a0 c (c_t) h_c (by omega)) (cwV 1 hts gX12_gain_X12_gainOf rfl rfl rfl (by decide +kernel) ⟨Nat.le_of_ble_eq_true rfl, Nat.le_of_ble_eq_true rfl⟩) ⟨h_blind _ _ _ _ _ _ _, h_recv g t_a0 (by decide) so_13 (q := (RX12, TX12, 51)) rfl, h_pre _ hE hk hX hA hI hR g⟩ rfl rfl hl.1 rfl (lv_room (Nat.le_of_ble_eq_true rfl)) dX12_gain_9 ⟨Nat.le_of_ble_eq_true rfl, Nat.le_of_ble_eq_true rfl⟩) (fun rh4 h4 => ?_)
    have jrh4 : -2147483648 ≤ rh4.toInt ∧ rh4.toInt ≤ 2147483647 := ⟨xi_lo _, Int.le_of_lt_add_one (xi_hi _)⟩
    refine lv_goto (tgt := 18) hx hb dX12_gain_12 (by decide) ?_
    exact W.iret (v := rh4) hx hb hr (fun t ht hW => ⟨rh4, rfl, trivial, ht⟩) (fun _ h => by cases h) dX12_gain_18
set_option maxHeartbeats 4000000 in
set_option maxRecDepth 100000 in
theorem tX12_worth (l : Launch) (E : tE) (X : tX) (A : Nat → Prop) (z : tZ) (I0 : tI) (L0 : tL) (a0 : Nat) (t_a0 : z.ty a0 = 13) (c : Int32) (c_t : Int) (h_c : c.toInt = c_t) (p : Int32) (p_t : Int) (h_p : p.toInt = p_t) (n : Int32) (n_t : Int) (h_n : n.toInt = n_t) : Met l yX12_worth wsX12_worth ({ frames := 3, cells := 0, slots := 0, locals := 192 }) (va_Pc [.ref a0, .int c, .int p, .int n] (h_P E X A z I0 L0)) (va_Qi (fun r (I1 : tI) => h_I z I1 ∧ h_F [(1338, 999)] z I0 I1 ∧ True) (fun (I1 : tI) t => h_B E A z I1 L0 t) A) 0 0 A := by
  refine Met.ofW (cc := cX12_worth) (maxL := 5) (ret := (some .int)) (by decide) rfl ?_
  intro pr_ ev_ s m args below meth cd_ s₁ B hml hv
  obtain ⟨rfl, hE, hk, hX, hA, hK, hI, hR, hB0⟩ := hv
  have g : h_G h_so h_fk E A z I0 L0 s s.heap s.heap [] := ⟨hK, va_S.rf, hB0⟩
  have hF : h_F [(1338, 999)] z I0 I0 := h_F.rf
  have hx := B.exec
  have hb := B.bytes
  have hr := B.returns
  have hts := atoms_spec (ws := wsX12_worth) B.pre
  have hown : s.vm.findClass RX12 = some m.cls := findClass_of_methodNamed B.named
  have hlocks := B.notSynchronized
  have iX12 : ∀ w ∈ u_ws RX12 TX12 51, w ∈ wsX12_worth := by decide +kernel
  have hl := lv_entry ([.ref a0, .int c, .int p, .int n]) (n := 5) (Nat.le_of_ble_eq_true rfl)
  rw [lg_entry_eq]
  generalize (lg_sl ([.ref a0, .int c, .int p, .int n]) ++ List.replicate (5 - (lg_sl ([.ref a0, .int c, .int p, .int n])).length) Slot.unset).toArray = ls at hl ⊢
  have hl : lv_has ls 5 [(0, .ref a0), (1, .int c), (2, .int p), (3, .int n)] := hl
  have b_c : -2147483648 ≤ c_t ∧ c_t ≤ 2147483647 := h_c ▸ ⟨xi_lo c, Int.le_of_lt_add_one (xi_hi c)⟩
  have b_p : -2147483648 ≤ p_t ∧ p_t ≤ 2147483647 := h_p ▸ ⟨xi_lo p, Int.le_of_lt_add_one (xi_hi p)⟩
  have b_n : -2147483648 ≤ n_t ∧ n_t ≤ 2147483647 := h_n ▸ ⟨xi_lo n, Int.le_of_lt_add_one (xi_hi n)⟩
  refine lv_iload_n hx hb dX12_worth_0 rfl (lv_at hl 1 rfl) ?_
  refine vp_callSi (W.runS (As := [.int c]) (rest := []) ⟨hx, hb, hml, hown, hts⟩ (tX12_isClub l E X A z I0 L0 c (c_t) h_c) (va_cwS 1 hts gX12_worth_X12_isClub rfl rfl rfl (by decide +kernel) ⟨Nat.le_of_ble_eq_true rfl, Nat.le_of_ble_eq_true rfl⟩) ⟨h_blind _ _ _ _ _ _ _, h_pre _ hE hk hX hA hI hR g⟩ rfl rfl hl.1 rfl (lv_room (Nat.le_of_ble_eq_true rfl)) dX12_worth_1 ⟨Nat.le_of_ble_eq_true rfl, Nat.le_of_ble_eq_true rfl⟩) (fun rh1 h1 => ?_)
  rcases h1 with ⟨rfl, h1⟩ | ⟨rfl, h1⟩
  · skip
    refine lv_if_eq (tgt := 27) hx hb dX12_worth_4 (by decide) (fun _ => ?_) (fun h => absurd (by decide) h)
    refine lv_bipush (v := (-2)) hx hb dX12_worth_27 (by decide) ?_
    have hS := g.2.1
    exact W.iret (v := (-2)) hx hb hr (fun t ht hW => ⟨⟨(-2), I0, rfl, ⟨hI, hF, trivial⟩, h_ret g ht⟩, hS.F ht⟩) hS.2.2 dX12_worth_29
  · skip
    refine lv_if_eq (tgt := 27) hx hb dX12_worth_4 (by decide) (fun h => absurd h (by decide)) (fun _ => ?_)
    refine lv_aload_n hx hb dX12_worth_7 rfl (lv_at hl 0 rfl) ?_
    refine lv_iload_n hx hb dX12_worth_8 rfl (lv_at hl 2 rfl) ?_
    refine vp_callSi (W.runV (As := [.int p]) (rest := []) ⟨hx, hb, hml, hown, hts⟩ (tX12_isPlayer l E X A z I0 L0 a0 t_a0 p (p_t) h_p) (cwV 1 hts gX12_worth_X12_isPlayer rfl rfl rfl (by decide +kernel) ⟨Nat.le_of_ble_eq_true rfl, Nat.le_of_ble_eq_true rfl⟩) ⟨h_blind _ _ _ _ _ _ _, h_recv g t_a0 (by decide) so_13 (q := (RX12, TX12, 51)) rfl, h_pre _ hE hk hX hA hI hR g⟩ rfl rfl hl.1 rfl (lv_room (Nat.le_of_ble_eq_true rfl)) dX12_worth_9 ⟨Nat.le_of_ble_eq_true rfl, Nat.le_of_ble_eq_true rfl⟩) (fun rh4 h4 => ?_)
    rcases h4 with ⟨rfl, h4⟩ | ⟨rfl, h4⟩
    · skip
      refine lv_if_eq (tgt := 27) hx hb dX12_worth_12 (by decide) (fun _ => ?_) (fun h => absurd (by decide) h)
      refine lv_bipush (v := (-2)) hx hb dX12_worth_27 (by decide) ?_
      have hS := g.2.1
      exact W.iret (v := (-2)) hx hb hr (fun t ht hW => ⟨⟨(-2), I0, rfl, ⟨hI, hF, trivial⟩, h_ret g ht⟩, hS.F ht⟩) hS.2.2 dX12_worth_29
    · skip
      refine lv_if_eq (tgt := 27) hx hb dX12_worth_12 (by decide) (fun h => absurd h (by decide)) (fun _ => ?_)
      refine lv_iload_n hx hb dX12_worth_15 rfl (lv_at hl 3 rfl) ?_
      refine lv_i2l hx hb dX12_worth_16 rfl ?_
      refine lv_topl (fun v7 ev7 => ?_)
      have jv7 : v7.toInt = n_t := by rw [ev7, xi_64]; exact h_n
      refine lv_lconst (v := 0) hx hb dX12_worth_17 (by decide) ?_
      refine lv_ldc2 (v := 9999) hx hb hown (hts (.constantLong RX12 278 (9999)) (by decide +kernel)) dX12_worth_18 ?_
      refine vp_callSi (W.runS (As := [.long v7, .long 0, .long 9999]) (rest := []) ⟨hx, hb, hml, hown, hts⟩ (tX12_in l E X A z I0 L0 v7 (n_t) jv7 0 (0) (by decide) 9999 (9999) (by decide)) (va_cwS 3 hts gX12_worth_X12_in rfl rfl rfl (by decide +kernel) ⟨Nat.le_of_ble_eq_true rfl, Nat.le_of_ble_eq_true rfl⟩) ⟨h_blind _ _ _ _ _ _ _, h_pre _ hE hk hX hA hI hR g⟩ rfl rfl hl.1 rfl (lv_room (Nat.le_of_ble_eq_true rfl)) dX12_worth_21 ⟨Nat.le_of_ble_eq_true rfl, Nat.le_of_ble_eq_true rfl⟩) (fun rh8 h8 => ?_)
      rcases h8 with ⟨rfl, h8⟩ | ⟨rfl, h8⟩
      · skip
        refine lv_if_ne (tgt := 30) hx hb dX12_worth_24 (by decide) (fun h => absurd (by decide) h) (fun _ => ?_)
        refine lv_bipush (v := (-2)) hx hb dX12_worth_27 (by decide) ?_
        have hS := g.2.1
        exact W.iret (v := (-2)) hx hb hr (fun t ht hW => ⟨⟨(-2), I0, rfl, ⟨hI, hF, trivial⟩, h_ret g ht⟩, hS.F ht⟩) hS.2.2 dX12_worth_29
      · skip
        refine lv_if_ne (tgt := 30) hx hb dX12_worth_24 (by decide) (fun _ => ?_) (fun h => absurd h (by decide))
        refine lv_aload_n hx hb dX12_worth_30 rfl (lv_at hl 0 rfl) ?_
        obtain ⟨b11, rb11, tb11⟩ := hR.at a0 38 t_a0 (rfl : h_rs 13 38 = some (1338, false)) (by decide)
        refine h_get (v := .ref b11) hx hb hts iX12 hown g t_a0 (by decide) so_13 rfl 38 (by decide) (hts (.fieldLink RX12 88 "CapLeagueModel" "worths" "[I") (by decide +kernel)) rfl dX12_worth_31 (by show va_rf (z.R a0 38) = _; rw [rb11]; rfl) ?_
        refine lv_sipush (v := 140) hx hb dX12_worth_34 (by decide) ?_
        refine lv_iload_n hx hb dX12_worth_37 rfl (lv_at hl 1 rfl) ?_
        refine lv_imul hx hb dX12_worth_38 ?_
        refine lv_topi (fun v12 ev12 => ?_)
        have jv12 : v12.toInt = 140 * c_t := xi_mul ev12 (by decide) h_c (by omega) (by omega)
        refine lv_iload_n hx hb dX12_worth_39 rfl (lv_at hl 2 rfl) ?_
        refine lv_iadd hx hb dX12_worth_40 ?_
        refine lv_topi (fun v13 ev13 => ?_)
        have jv13 : v13.toInt = v12.toInt + p_t := xi_add ev13 rfl h_p (by omega) (by omega)
        refine h_ald hx hb g tb11 (by decide) so_1338 (xi_in (by omega) (by omega)) dX12_worth_41 ?_
        refine lv_topi (fun v14 ev14 => ?_)
        have jv14 := hI.rd b11 v13.toNatClampNeg tb11 ev14 (rfl : h_bd 1338 _ = ((-2147483648), 2147483647))
        refine lv_istore (lv' := [(4, .int v14), (0, .ref a0), (1, .int c), (2, .int p), (3, .int n)]) hx hb dX12_worth_42 hl (by decide) rfl (fun ls hl => ?_)
        refine lv_aload_n hx hb dX12_worth_44 rfl (lv_at hl 1 rfl) ?_
        refine h_get (v := .ref b11) hx hb hts iX12 hown g t_a0 (by decide) so_13 rfl 38 (by decide) (hts (.fieldLink RX12 88 "CapLeagueModel" "worths" "[I") (by decide +kernel)) rfl dX12_worth_45 (by show va_rf (z.R a0 38) = _; rw [rb11]; rfl) ?_
        refine lv_sipush (v := 140) hx hb dX12_worth_48 (by decide) ?_
        refine lv_iload_n hx hb dX12_worth_51 rfl (lv_at hl 2 rfl) ?_
        refine lv_imul hx hb dX12_worth_52 ?_
        refine xw_i (v := v12) ev12.symm ?_
        refine lv_iload_n hx hb dX12_worth_53 rfl (lv_at hl 3 rfl) ?_
        refine lv_iadd hx hb dX12_worth_54 ?_
        refine xw_i (v := v13) ev13.symm ?_
        refine lv_iload_n hx hb dX12_worth_55 rfl (lv_at hl 4 rfl) ?_
        refine h_ast hx hb g tb11 (by decide) so_1338 (xi_in (by omega) (by omega)) dX12_worth_56 (fun I15 H locs eI15 g => ?_)
        have hI := hI.wr eI15 tb11 (rfl : h_bd 1338 _ = ((-2147483648), 2147483647)) (xi_lo _) (Int.le_of_lt_add_one (xi_hi _))
        have hF := hF.wr eI15 tb11 rfl
        refine lv_iload hx hb dX12_worth_57 (lv_at hl 0 rfl) ?_
        have hS := g.2.1
        exact W.iret (v := v14) hx hb hr (fun t ht hW => ⟨⟨v14, I15, rfl, ⟨hI, hF, trivial⟩, h_ret g ht⟩, hS.F ht⟩) hS.2.2 dX12_worth_59
set_option maxHeartbeats 4000000 in
set_option maxRecDepth 100000 in
theorem tX12_worthTurn (l : Launch) (E : tE) (X : tX) (A : Nat → Prop) (z : tZ) (I0 : tI) (L0 : tL) (a0 : Nat) (t_a0 : z.ty a0 = 13) (c : Int32) (c_t : Int) (h_c : c.toInt = c_t) (o : Int32) (o_t : Int) (h_o : o.toInt = o_t) (y : Int32) (y_t : Int) (h_y : y.toInt = y_t) (n : Int32) (n_t : Int) (h_n : n.toInt = n_t) : Met l yX12_worthTurn wsX12_worthTurn ({ frames := 3, cells := 0, slots := 0, locals := 192 }) (va_Pc [.ref a0, .int c, .int o, .int y, .int n] (h_P E X A z I0 L0)) (va_Qi (fun r (I1 : tI) => h_I z I1 ∧ h_F [(1338, 999)] z I0 I1 ∧ True) (fun (I1 : tI) t => h_B E A z I1 L0 t) A) 0 0 A := by
  refine Met.ofW (cc := cX12_worthTurn) (maxL := 7) (ret := (some .int)) (by decide) rfl ?_
  intro pr_ ev_ s m args below meth cd_ s₁ B hml hv
  obtain ⟨rfl, hE, hk, hX, hA, hK, hI, hR, hB0⟩ := hv
  have g : h_G h_so h_fk E A z I0 L0 s s.heap s.heap [] := ⟨hK, va_S.rf, hB0⟩
  have hF : h_F [(1338, 999)] z I0 I0 := h_F.rf
  have hx := B.exec
  have hb := B.bytes
  have hr := B.returns
  have hts := atoms_spec (ws := wsX12_worthTurn) B.pre
  have hown : s.vm.findClass RX12 = some m.cls := findClass_of_methodNamed B.named
  have hlocks := B.notSynchronized
  have iX12 : ∀ w ∈ u_ws RX12 TX12 51, w ∈ wsX12_worthTurn := by decide +kernel
  have hl := lv_entry ([.ref a0, .int c, .int o, .int y, .int n]) (n := 7) (Nat.le_of_ble_eq_true rfl)
  rw [lg_entry_eq]
  generalize (lg_sl ([.ref a0, .int c, .int o, .int y, .int n]) ++ List.replicate (7 - (lg_sl ([.ref a0, .int c, .int o, .int y, .int n])).length) Slot.unset).toArray = ls at hl ⊢
  have hl : lv_has ls 7 [(0, .ref a0), (1, .int c), (2, .int o), (3, .int y), (4, .int n)] := hl
  have b_c : -2147483648 ≤ c_t ∧ c_t ≤ 2147483647 := h_c ▸ ⟨xi_lo c, Int.le_of_lt_add_one (xi_hi c)⟩
  have b_o : -2147483648 ≤ o_t ∧ o_t ≤ 2147483647 := h_o ▸ ⟨xi_lo o, Int.le_of_lt_add_one (xi_hi o)⟩
  have b_y : -2147483648 ≤ y_t ∧ y_t ≤ 2147483647 := h_y ▸ ⟨xi_lo y, Int.le_of_lt_add_one (xi_hi y)⟩
  have b_n : -2147483648 ≤ n_t ∧ n_t ≤ 2147483647 := h_n ▸ ⟨xi_lo n, Int.le_of_lt_add_one (xi_hi n)⟩
  refine lv_iload_n hx hb dX12_worthTurn_0 rfl (lv_at hl 1 rfl) ?_
  refine vp_callSi (W.runS (As := [.int c]) (rest := []) ⟨hx, hb, hml, hown, hts⟩ (tX12_isClub l E X A z I0 L0 c (c_t) h_c) (va_cwS 1 hts gX12_worthTurn_X12_isClub rfl rfl rfl (by decide +kernel) ⟨Nat.le_of_ble_eq_true rfl, Nat.le_of_ble_eq_true rfl⟩) ⟨h_blind _ _ _ _ _ _ _, h_pre _ hE hk hX hA hI hR g⟩ rfl rfl hl.1 rfl (lv_room (Nat.le_of_ble_eq_true rfl)) dX12_worthTurn_1 ⟨Nat.le_of_ble_eq_true rfl, Nat.le_of_ble_eq_true rfl⟩) (fun rh1 h1 => ?_)
  rcases h1 with ⟨rfl, h1⟩ | ⟨rfl, h1⟩
  · skip
    refine lv_if_eq (tgt := 39) hx hb dX12_worthTurn_4 (by decide) (fun _ => ?_) (fun h => absurd (by decide) h)
    refine lv_bipush (v := (-2)) hx hb dX12_worthTurn_39 (by decide) ?_
    have hS := g.2.1
    exact W.iret (v := (-2)) hx hb hr (fun t ht hW => ⟨⟨(-2), I0, rfl, ⟨hI, hF, trivial⟩, h_ret g ht⟩, hS.F ht⟩) hS.2.2 dX12_worthTurn_41
  · skip
    refine lv_if_eq (tgt := 39) hx hb dX12_worthTurn_4 (by decide) (fun h => absurd h (by decide)) (fun _ => ?_)
    refine lv_iload_n hx hb dX12_worthTurn_7 rfl (lv_at hl 2 rfl) ?_
    refine vp_callSi (W.runS (As := [.int o]) (rest := []) ⟨hx, hb, hml, hown, hts⟩ (tX12_isClub l E X A z I0 L0 o (o_t) h_o) (va_cwS 1 hts gX12_worthTurn_X12_isClub rfl rfl rfl (by decide +kernel) ⟨Nat.le_of_ble_eq_true rfl, Nat.le_of_ble_eq_true rfl⟩) ⟨h_blind _ _ _ _ _ _ _, h_pre _ hE hk hX hA hI hR g⟩ rfl rfl hl.1 rfl (lv_room (Nat.le_of_ble_eq_true rfl)) dX12_worthTurn_8 ⟨Nat.le_of_ble_eq_true rfl, Nat.le_of_ble_eq_true rfl⟩) (fun rh4 h4 => ?_)
    rcases h4 with ⟨rfl, h4⟩ | ⟨rfl, h4⟩
    · skip
      refine lv_if_eq (tgt := 39) hx hb dX12_worthTurn_11 (by decide) (fun _ => ?_) (fun h => absurd (by decide) h)
      refine lv_bipush (v := (-2)) hx hb dX12_worthTurn_39 (by decide) ?_
      have hS := g.2.1
      exact W.iret (v := (-2)) hx hb hr (fun t ht hW => ⟨⟨(-2), I0, rfl, ⟨hI, hF, trivial⟩, h_ret g ht⟩, hS.F ht⟩) hS.2.2 dX12_worthTurn_41
    · skip
      refine lv_if_eq (tgt := 39) hx hb dX12_worthTurn_11 (by decide) (fun h => absurd h (by decide)) (fun _ => ?_)
      refine lv_iload_n hx hb dX12_worthTurn_14 rfl (lv_at hl 3 rfl) ?_
      refine lv_i2l hx hb dX12_worthTurn_15 rfl ?_
      refine lv_topl (fun v7 ev7 => ?_)
      have jv7 : v7.toInt = y_t := by rw [ev7, xi_64]; exact h_y
      refine lv_lconst (v := 0) hx hb dX12_worthTurn_16 (by decide) ?_
      refine lv_ldc2 (v := 9) hx hb hown (hts (.constantLong RX12 190 (9)) (by decide +kernel)) dX12_worthTurn_17 ?_
      refine vp_callSi (W.runS (As := [.long v7, .long 0, .long 9]) (rest := []) ⟨hx, hb, hml, hown, hts⟩ (tX12_in l E X A z I0 L0 v7 (y_t) jv7 0 (0) (by decide) 9 (9) (by decide)) (va_cwS 3 hts gX12_worthTurn_X12_in rfl rfl rfl (by decide +kernel) ⟨Nat.le_of_ble_eq_true rfl, Nat.le_of_ble_eq_true rfl⟩) ⟨h_blind _ _ _ _ _ _ _, h_pre _ hE hk hX hA hI hR g⟩ rfl rfl hl.1 rfl (lv_room (Nat.le_of_ble_eq_true rfl)) dX12_worthTurn_20 ⟨Nat.le_of_ble_eq_true rfl, Nat.le_of_ble_eq_true rfl⟩) (fun rh8 h8 => ?_)
      rcases h8 with ⟨rfl, h8⟩ | ⟨rfl, h8⟩
      · skip
        refine lv_if_eq (tgt := 39) hx hb dX12_worthTurn_23 (by decide) (fun _ => ?_) (fun h => absurd (by decide) h)
        refine lv_bipush (v := (-2)) hx hb dX12_worthTurn_39 (by decide) ?_
        have hS := g.2.1
        exact W.iret (v := (-2)) hx hb hr (fun t ht hW => ⟨⟨(-2), I0, rfl, ⟨hI, hF, trivial⟩, h_ret g ht⟩, hS.F ht⟩) hS.2.2 dX12_worthTurn_41
      · skip
        refine lv_if_eq (tgt := 39) hx hb dX12_worthTurn_23 (by decide) (fun h => absurd h (by decide)) (fun _ => ?_)
        refine lv_iload hx hb dX12_worthTurn_26 (lv_at hl 4 rfl) ?_
        refine lv_i2l hx hb dX12_worthTurn_28 rfl ?_
        refine lv_topl (fun v11 ev11 => ?_)
        have jv11 : v11.toInt = n_t := by rw [ev11, xi_64]; exact h_n
        refine lv_lconst (v := 0) hx hb dX12_worthTurn_29 (by decide) ?_
        refine lv_ldc2 (v := 9999) hx hb hown (hts (.constantLong RX12 278 (9999)) (by decide +kernel)) dX12_worthTurn_30 ?_
        refine vp_callSi (W.runS (As := [.long v11, .long 0, .long 9999]) (rest := []) ⟨hx, hb, hml, hown, hts⟩ (tX12_in l E X A z I0 L0 v11 (n_t) jv11 0 (0) (by decide) 9999 (9999) (by decide)) (va_cwS 3 hts gX12_worthTurn_X12_in rfl rfl rfl (by decide +kernel) ⟨Nat.le_of_ble_eq_true rfl, Nat.le_of_ble_eq_true rfl⟩) ⟨h_blind _ _ _ _ _ _ _, h_pre _ hE hk hX hA hI hR g⟩ rfl rfl hl.1 rfl (lv_room (Nat.le_of_ble_eq_true rfl)) dX12_worthTurn_33 ⟨Nat.le_of_ble_eq_true rfl, Nat.le_of_ble_eq_true rfl⟩) (fun rh12 h12 => ?_)
        rcases h12 with ⟨rfl, h12⟩ | ⟨rfl, h12⟩
        · skip
          refine lv_if_ne (tgt := 42) hx hb dX12_worthTurn_36 (by decide) (fun h => absurd (by decide) h) (fun _ => ?_)
          refine lv_bipush (v := (-2)) hx hb dX12_worthTurn_39 (by decide) ?_
          have hS := g.2.1
          exact W.iret (v := (-2)) hx hb hr (fun t ht hW => ⟨⟨(-2), I0, rfl, ⟨hI, hF, trivial⟩, h_ret g ht⟩, hS.F ht⟩) hS.2.2 dX12_worthTurn_41
        · skip
          refine lv_if_ne (tgt := 42) hx hb dX12_worthTurn_36 (by decide) (fun _ => ?_) (fun h => absurd h (by decide))
          refine lv_sipush (v := 140) hx hb dX12_worthTurn_42 (by decide) ?_
          refine lv_iload_n hx hb dX12_worthTurn_45 rfl (lv_at hl 1 rfl) ?_
          refine lv_imul hx hb dX12_worthTurn_46 ?_
          refine lv_topi (fun v15 ev15 => ?_)
          have jv15 : v15.toInt = 140 * c_t := xi_mul ev15 (by decide) h_c (by omega) (by omega)
          refine lv_bipush (v := 60) hx hb dX12_worthTurn_47 (by decide) ?_
          refine lv_iadd hx hb dX12_worthTurn_49 ?_
          refine lv_topi (fun v16 ev16 => ?_)
          have jv16 : v16.toInt = v15.toInt + 60 := xi_add ev16 rfl (by decide) (by omega) (by omega)
          refine lv_bipush (v := 10) hx hb dX12_worthTurn_50 (by decide) ?_
          refine lv_iload_n hx hb dX12_worthTurn_52 rfl (lv_at hl 2 rfl) ?_
          refine lv_imul hx hb dX12_worthTurn_53 ?_
          refine lv_topi (fun v17 ev17 => ?_)
          have jv17 : v17.toInt = 10 * o_t := xi_mul ev17 (by decide) h_o (by omega) (by omega)
          refine lv_iadd hx hb dX12_worthTurn_54 ?_
          refine lv_topi (fun v18 ev18 => ?_)
          have jv18 : v18.toInt = v16.toInt + v17.toInt := xi_add ev18 rfl rfl (by omega) (by omega)
          refine lv_iload_n hx hb dX12_worthTurn_55 rfl (lv_at hl 3 rfl) ?_
          refine lv_iadd hx hb dX12_worthTurn_56 ?_
          refine lv_topi (fun v19 ev19 => ?_)
          have jv19 : v19.toInt = v18.toInt + y_t := xi_add ev19 rfl h_y (by omega) (by omega)
          refine lv_istore (lv' := [(5, .int v19), (0, .ref a0), (1, .int c), (2, .int o), (3, .int y), (4, .int n)]) hx hb dX12_worthTurn_57 hl (by decide) rfl (fun ls hl => ?_)
          refine lv_aload_n hx hb dX12_worthTurn_59 rfl (lv_at hl 1 rfl) ?_
          obtain ⟨b20, rb20, tb20⟩ := hR.at a0 38 t_a0 (rfl : h_rs 13 38 = some (1338, false)) (by decide)
          refine h_get (v := .ref b20) hx hb hts iX12 hown g t_a0 (by decide) so_13 rfl 38 (by decide) (hts (.fieldLink RX12 88 "CapLeagueModel" "worths" "[I") (by decide +kernel)) rfl dX12_worthTurn_60 (by show va_rf (z.R a0 38) = _; rw [rb20]; rfl) ?_
          refine lv_iload hx hb dX12_worthTurn_63 (lv_at hl 0 rfl) ?_
          refine h_ald hx hb g tb20 (by decide) so_1338 (xi_in (by omega) (by omega)) dX12_worthTurn_65 ?_
          refine lv_topi (fun v21 ev21 => ?_)
          have jv21 := hI.rd b20 v19.toNatClampNeg tb20 ev21 (rfl : h_bd 1338 _ = ((-2147483648), 2147483647))
          refine lv_istore (lv' := [(6, .int v21), (5, .int v19), (0, .ref a0), (1, .int c), (2, .int o), (3, .int y), (4, .int n)]) hx hb dX12_worthTurn_66 hl (by decide) rfl (fun ls hl => ?_)
          refine lv_aload_n hx hb dX12_worthTurn_68 rfl (lv_at hl 2 rfl) ?_
          refine h_get (v := .ref b20) hx hb hts iX12 hown g t_a0 (by decide) so_13 rfl 38 (by decide) (hts (.fieldLink RX12 88 "CapLeagueModel" "worths" "[I") (by decide +kernel)) rfl dX12_worthTurn_69 (by show va_rf (z.R a0 38) = _; rw [rb20]; rfl) ?_
          refine lv_iload hx hb dX12_worthTurn_72 (lv_at hl 1 rfl) ?_
          refine lv_iload hx hb dX12_worthTurn_74 (lv_at hl 6 rfl) ?_
          refine h_ast hx hb g tb20 (by decide) so_1338 (xi_in (by omega) (by omega)) dX12_worthTurn_76 (fun I22 H locs eI22 g => ?_)
          have hI := hI.wr eI22 tb20 (rfl : h_bd 1338 _ = ((-2147483648), 2147483647)) (xi_lo _) (Int.le_of_lt_add_one (xi_hi _))
          have hF := hF.wr eI22 tb20 rfl
          refine lv_iload hx hb dX12_worthTurn_77 (lv_at hl 0 rfl) ?_
          have hS := g.2.1
          exact W.iret (v := v21) hx hb hr (fun t ht hW => ⟨⟨v21, I22, rfl, ⟨hI, hF, trivial⟩, h_ret g ht⟩, hS.F ht⟩) hS.2.2 dX12_worthTurn_79
set_option maxHeartbeats 4000000 in
set_option maxRecDepth 100000 in
theorem tX12_ringed (l : Launch) (E : tE) (X : tX) (A : Nat → Prop) (z : tZ) (I0 : tI) (L0 : tL) (a0 : Nat) (t_a0 : z.ty a0 = 13) (x : Int32) (x_t : Int) (h_x : x.toInt = x_t) : Met l yX12_ringed wsX12_ringed ({ frames := 2, cells := 0, slots := 0, locals := 128 }) (va_Pc [.ref a0, .int x] (h_P E X A z I0 L0)) (vp_Si (fun r => True)) 0 0 (fun _ => False) := by
  refine Met.ofW (cc := cX12_ringed) (maxL := 2) (ret := (some .int)) (by decide) rfl ?_
  intro pr_ ev_ s m args below meth cd_ s₁ B hml hv
  obtain ⟨rfl, hE, hk, hX, hA, hK, hI, hR, hB0⟩ := hv
  have g : h_G h_so h_fk E A z I0 L0 s s.heap s.heap [] := ⟨hK, va_S.rf, hB0⟩
  have hx := B.exec
  have hb := B.bytes
  have hr := B.returns
  have hts := atoms_spec (ws := wsX12_ringed) B.pre
  have hown : s.vm.findClass RX12 = some m.cls := findClass_of_methodNamed B.named
  have hlocks := B.notSynchronized
  have iX12 : ∀ w ∈ u_ws RX12 TX12 51, w ∈ wsX12_ringed := by decide +kernel
  have hl := lv_entry ([.ref a0, .int x]) (n := 2) (Nat.le_of_ble_eq_true rfl)
  rw [lg_entry_eq]
  generalize (lg_sl ([.ref a0, .int x]) ++ List.replicate (2 - (lg_sl ([.ref a0, .int x])).length) Slot.unset).toArray = ls at hl ⊢
  have hl : lv_has ls 2 [(0, .ref a0), (1, .int x)] := hl
  have b_x : -2147483648 ≤ x_t ∧ x_t ≤ 2147483647 := h_x ▸ ⟨xi_lo x, Int.le_of_lt_add_one (xi_hi x)⟩
  refine lv_aload_n hx hb dX12_ringed_0 rfl (lv_at hl 0 rfl) ?_
  refine h_get (v := .int (I0 a0 41)) hx hb hts iX12 hown g t_a0 (by decide) so_13 rfl 41 (by decide) (hts (.fieldLink RX12 297 "CapLeagueModel" "ringMany" "I") (by decide +kernel)) rfl dX12_ringed_1 rfl ?_
  refine lv_topi (fun v1 ev1 => ?_)
  have jv1 := hI.rd a0 41 t_a0 ev1 (rfl : h_bd 13 41 = (0, 3))
  refine lv_if_ne (tgt := 9) hx hb dX12_ringed_4 (by decide) (fun c2 => ?_) (fun c2 => ?_)
  · have ic2 := (xi_ne c2 rfl (by decide) : v1.toInt ≠ 0)
    refine lv_iload_n hx hb dX12_ringed_9 rfl (lv_at hl 1 rfl) ?_
    refine lv_if_ne (tgt := 18) hx hb dX12_ringed_10 (by decide) (fun c3 => ?_) (fun c3 => ?_)
    · have ic3 := (xi_ne c3 h_x (by decide) : x_t ≠ 0)
      refine lv_iload_n hx hb dX12_ringed_18 rfl (lv_at hl 1 rfl) ?_
      refine lv_i2l hx hb dX12_ringed_19 rfl ?_
      refine lv_topl (fun v4 ev4 => ?_)
      have jv4 : v4.toInt = x_t := by rw [ev4, xi_64]; exact h_x
      refine lv_lconst (v := 1) hx hb dX12_ringed_20 (by decide) ?_
      refine lv_aload_n hx hb dX12_ringed_21 rfl (lv_at hl 0 rfl) ?_
      refine h_get (v := .int v1) hx hb hts iX12 hown g t_a0 (by decide) so_13 rfl 41 (by decide) (hts (.fieldLink RX12 297 "CapLeagueModel" "ringMany" "I") (by decide +kernel)) rfl dX12_ringed_22 (congrArg Value.int (ev1.symm)) ?_
      refine lv_i2l hx hb dX12_ringed_25 rfl ?_
      refine lv_topl (fun v5 ev5 => ?_)
      have jv5 : v5.toInt = v1.toInt := by rw [ev5, xi_64]
      refine vp_callSi (W.runS (As := [.long v4, .long 1, .long v5]) (rest := []) ⟨hx, hb, hml, hown, hts⟩ (tX12_in l E X A z I0 L0 v4 (x_t) jv4 1 (1) (by decide) v5 (v1.toInt) jv5) (va_cwS 3 hts gX12_ringed_X12_in rfl rfl rfl (by decide +kernel) ⟨Nat.le_of_ble_eq_true rfl, Nat.le_of_ble_eq_true rfl⟩) ⟨h_blind _ _ _ _ _ _ _, h_pre _ hE hk hX hA hI hR g⟩ rfl rfl hl.1 rfl (lv_room (Nat.le_of_ble_eq_true rfl)) dX12_ringed_26 ⟨Nat.le_of_ble_eq_true rfl, Nat.le_of_ble_eq_true rfl⟩) (fun rh6 h6 => ?_)
      rcases h6 with ⟨rfl, h6⟩ | ⟨rfl, h6⟩
      · skip
        refine lv_if_eq (tgt := 41) hx hb dX12_ringed_29 (by decide) (fun _ => ?_) (fun h => absurd (by decide) h)
        refine lv_iload_n hx hb dX12_ringed_41 rfl (lv_at hl 1 rfl) ?_
        refine lv_i2l hx hb dX12_ringed_42 rfl ?_
        refine lv_topl (fun v8 ev8 => ?_)
        have jv8 : v8.toInt = x_t := by rw [ev8, xi_64]; exact h_x
        refine lv_ldc2 (v := 4) hx hb hown (hts (.constantLong RX12 300 (4)) (by decide +kernel)) dX12_ringed_43 ?_
        refine lv_iconst (v := 3) hx hb dX12_ringed_46 (by decide) ?_
        refine lv_aload_n hx hb dX12_ringed_47 rfl (lv_at hl 0 rfl) ?_
        refine h_get (v := .int v1) hx hb hts iX12 hown g t_a0 (by decide) so_13 rfl 41 (by decide) (hts (.fieldLink RX12 297 "CapLeagueModel" "ringMany" "I") (by decide +kernel)) rfl dX12_ringed_48 (congrArg Value.int (ev1.symm)) ?_
        refine lv_iadd hx hb dX12_ringed_51 ?_
        refine lv_topi (fun v9 ev9 => ?_)
        have jv9 : v9.toInt = 3 + v1.toInt := xi_add ev9 (by decide) rfl (by omega) (by omega)
        refine lv_i2l hx hb dX12_ringed_52 rfl ?_
        refine lv_topl (fun v10 ev10 => ?_)
        have jv10 : v10.toInt = v9.toInt := by rw [ev10, xi_64]
        refine vp_callSi (W.runS (As := [.long v8, .long 4, .long v10]) (rest := []) ⟨hx, hb, hml, hown, hts⟩ (tX12_in l E X A z I0 L0 v8 (x_t) jv8 4 (4) (by decide) v10 (v9.toInt) jv10) (va_cwS 3 hts gX12_ringed_X12_in rfl rfl rfl (by decide +kernel) ⟨Nat.le_of_ble_eq_true rfl, Nat.le_of_ble_eq_true rfl⟩) ⟨h_blind _ _ _ _ _ _ _, h_pre _ hE hk hX hA hI hR g⟩ rfl rfl hl.1 rfl (lv_room (Nat.le_of_ble_eq_true rfl)) dX12_ringed_53 ⟨Nat.le_of_ble_eq_true rfl, Nat.le_of_ble_eq_true rfl⟩) (fun rh11 h11 => ?_)
        rcases h11 with ⟨rfl, h11⟩ | ⟨rfl, h11⟩
        · skip
          refine lv_if_eq (tgt := 70) hx hb dX12_ringed_56 (by decide) (fun _ => ?_) (fun h => absurd (by decide) h)
          refine lv_iconst (v := (-1)) hx hb dX12_ringed_70 (by decide) ?_
          exact W.iret (v := (-1)) hx hb hr (fun t ht hW => ⟨(-1), rfl, trivial, ht⟩) (fun _ h => by cases h) dX12_ringed_71
        · skip
          refine lv_if_eq (tgt := 70) hx hb dX12_ringed_56 (by decide) (fun h => absurd h (by decide)) (fun _ => ?_)
          refine lv_aload_n hx hb dX12_ringed_59 rfl (lv_at hl 0 rfl) ?_
          obtain ⟨b14, rb14, tb14⟩ := hR.at a0 47 t_a0 (rfl : h_rs 13 47 = some (1347, false)) (by decide)
          refine h_get (v := .ref b14) hx hb hts iX12 hown g t_a0 (by decide) so_13 rfl 47 (by decide) (hts (.fieldLink RX12 106 "CapLeagueModel" "toldGives" "[I") (by decide +kernel)) rfl dX12_ringed_60 (by show va_rf (z.R a0 47) = _; rw [rb14]; rfl) ?_
          refine lv_iload_n hx hb dX12_ringed_63 rfl (lv_at hl 1 rfl) ?_
          refine lv_iconst (v := 4) hx hb dX12_ringed_64 (by decide) ?_
          refine lv_isub hx hb dX12_ringed_65 ?_
          refine lv_topi (fun v15 ev15 => ?_)
          have jv15 : v15.toInt = x_t - 4 := xi_sub ev15 h_x (by decide) (by omega) (by omega)
          refine h_ald hx hb g tb14 (by decide) so_1347 (xi_in (by omega) (by omega)) dX12_ringed_66 ?_
          refine lv_topi (fun v16 ev16 => ?_)
          have jv16 := hI.rd b14 v15.toNatClampNeg tb14 ev16 (rfl : h_bd 1347 _ = ((-2147483648), 2147483647))
          refine lv_goto (tgt := 71) hx hb dX12_ringed_67 (by decide) ?_
          exact W.iret (v := v16) hx hb hr (fun t ht hW => ⟨v16, rfl, trivial, ht⟩) (fun _ h => by cases h) dX12_ringed_71
      · skip
        refine lv_if_eq (tgt := 41) hx hb dX12_ringed_29 (by decide) (fun h => absurd h (by decide)) (fun _ => ?_)
        refine lv_aload_n hx hb dX12_ringed_32 rfl (lv_at hl 0 rfl) ?_
        obtain ⟨b18, rb18, tb18⟩ := hR.at a0 46 t_a0 (rfl : h_rs 13 46 = some (1346, false)) (by decide)
        refine h_get (v := .ref b18) hx hb hts iX12 hown g t_a0 (by decide) so_13 rfl 46 (by decide) (hts (.fieldLink RX12 103 "CapLeagueModel" "toldClub" "[I") (by decide +kernel)) rfl dX12_ringed_33 (by show va_rf (z.R a0 46) = _; rw [rb18]; rfl) ?_
        refine lv_iload_n hx hb dX12_ringed_36 rfl (lv_at hl 1 rfl) ?_
        refine lv_iconst (v := 1) hx hb dX12_ringed_37 (by decide) ?_
        refine lv_isub hx hb dX12_ringed_38 ?_
        refine lv_topi (fun v19 ev19 => ?_)
        have jv19 : v19.toInt = x_t - 1 := xi_sub ev19 h_x (by decide) (by omega) (by omega)
        refine h_ald hx hb g tb18 (by decide) so_1346 (xi_in (by omega) (by omega)) dX12_ringed_39 ?_
        refine lv_topi (fun v20 ev20 => ?_)
        have jv20 := hI.rd b18 v19.toNatClampNeg tb18 ev20 (rfl : h_bd 1346 _ = ((-2147483648), 2147483647))
        exact W.iret (v := v20) hx hb hr (fun t ht hW => ⟨v20, rfl, trivial, ht⟩) (fun _ h => by cases h) dX12_ringed_40
    · have ic3 := (xi_eq c3 h_x (by decide) : x_t = 0)
      refine lv_aload_n hx hb dX12_ringed_13 rfl (lv_at hl 0 rfl) ?_
      refine h_get (v := .int v1) hx hb hts iX12 hown g t_a0 (by decide) so_13 rfl 41 (by decide) (hts (.fieldLink RX12 297 "CapLeagueModel" "ringMany" "I") (by decide +kernel)) rfl dX12_ringed_14 (congrArg Value.int (ev1.symm)) ?_
      exact W.iret (v := v1) hx hb hr (fun t ht hW => ⟨v1, rfl, trivial, ht⟩) (fun _ h => by cases h) dX12_ringed_17
  · have ic2 := (xi_eq c2 rfl (by decide) : v1.toInt = 0)
    refine lv_iconst (v := (-1)) hx hb dX12_ringed_7 (by decide) ?_
    exact W.iret (v := (-1)) hx hb hr (fun t ht hW => ⟨(-1), rfl, trivial, ht⟩) (fun _ h => by cases h) dX12_ringed_8
set_option maxHeartbeats 4000000 in
set_option maxRecDepth 100000 in
theorem tX12_turn (l : Launch) (E : tE) (X : tX) (A : Nat → Prop) (z : tZ) (I0 : tI) (L0 : tL) (a0 : Nat) (t_a0 : z.ty a0 = 13) (y : Int32) (y_t : Int) (h_y : y.toInt = y_t) (i : Int32) (i_t : Int) (h_i : i.toInt = i_t) (x : Int32) (x_t : Int) (h_x : x.toInt = x_t) : Met l yX12_turn wsX12_turn ({ frames := 2, cells := 0, slots := 0, locals := 128 }) (va_Pc [.ref a0, .int y, .int i, .int x] (h_P E X A z I0 L0)) (vp_Si (fun r => True)) 0 0 (fun _ => False) := by
  refine Met.ofW (cc := cX12_turn) (maxL := 4) (ret := (some .int)) (by decide) rfl ?_
  intro pr_ ev_ s m args below meth cd_ s₁ B hml hv
  obtain ⟨rfl, hE, hk, hX, hA, hK, hI, hR, hB0⟩ := hv
  have g : h_G h_so h_fk E A z I0 L0 s s.heap s.heap [] := ⟨hK, va_S.rf, hB0⟩
  have hx := B.exec
  have hb := B.bytes
  have hr := B.returns
  have hts := atoms_spec (ws := wsX12_turn) B.pre
  have hown : s.vm.findClass RX12 = some m.cls := findClass_of_methodNamed B.named
  have hlocks := B.notSynchronized
  have iX12 : ∀ w ∈ u_ws RX12 TX12 51, w ∈ wsX12_turn := by decide +kernel
  have hl := lv_entry ([.ref a0, .int y, .int i, .int x]) (n := 4) (Nat.le_of_ble_eq_true rfl)
  rw [lg_entry_eq]
  generalize (lg_sl ([.ref a0, .int y, .int i, .int x]) ++ List.replicate (4 - (lg_sl ([.ref a0, .int y, .int i, .int x])).length) Slot.unset).toArray = ls at hl ⊢
  have hl : lv_has ls 4 [(0, .ref a0), (1, .int y), (2, .int i), (3, .int x)] := hl
  have b_y : -2147483648 ≤ y_t ∧ y_t ≤ 2147483647 := h_y ▸ ⟨xi_lo y, Int.le_of_lt_add_one (xi_hi y)⟩
  have b_i : -2147483648 ≤ i_t ∧ i_t ≤ 2147483647 := h_i ▸ ⟨xi_lo i, Int.le_of_lt_add_one (xi_hi i)⟩
  have b_x : -2147483648 ≤ x_t ∧ x_t ≤ 2147483647 := h_x ▸ ⟨xi_lo x, Int.le_of_lt_add_one (xi_hi x)⟩
  refine lv_iload_n hx hb dX12_turn_0 rfl (lv_at hl 1 rfl) ?_
  refine lv_i2l hx hb dX12_turn_1 rfl ?_
  refine lv_topl (fun v1 ev1 => ?_)
  have jv1 : v1.toInt = y_t := by rw [ev1, xi_64]; exact h_y
  refine lv_lconst (v := 0) hx hb dX12_turn_2 (by decide) ?_
  refine lv_ldc2 (v := 9) hx hb hown (hts (.constantLong RX12 190 (9)) (by decide +kernel)) dX12_turn_3 ?_
  refine vp_callSi (W.runS (As := [.long v1, .long 0, .long 9]) (rest := []) ⟨hx, hb, hml, hown, hts⟩ (tX12_in l E X A z I0 L0 v1 (y_t) jv1 0 (0) (by decide) 9 (9) (by decide)) (va_cwS 3 hts gX12_turn_X12_in rfl rfl rfl (by decide +kernel) ⟨Nat.le_of_ble_eq_true rfl, Nat.le_of_ble_eq_true rfl⟩) ⟨h_blind _ _ _ _ _ _ _, h_pre _ hE hk hX hA hI hR g⟩ rfl rfl hl.1 rfl (lv_room (Nat.le_of_ble_eq_true rfl)) dX12_turn_6 ⟨Nat.le_of_ble_eq_true rfl, Nat.le_of_ble_eq_true rfl⟩) (fun rh2 h2 => ?_)
  rcases h2 with ⟨rfl, h2⟩ | ⟨rfl, h2⟩
  · skip
    refine lv_if_eq (tgt := 39) hx hb dX12_turn_9 (by decide) (fun _ => ?_) (fun h => absurd (by decide) h)
    refine lv_iconst (v := (-1)) hx hb dX12_turn_39 (by decide) ?_
    exact W.iret (v := (-1)) hx hb hr (fun t ht hW => ⟨(-1), rfl, trivial, ht⟩) (fun _ h => by cases h) dX12_turn_40
  · skip
    refine lv_if_eq (tgt := 39) hx hb dX12_turn_9 (by decide) (fun h => absurd h (by decide)) (fun _ => ?_)
    refine lv_iload_n hx hb dX12_turn_12 rfl (lv_at hl 2 rfl) ?_
    refine lv_i2l hx hb dX12_turn_13 rfl ?_
    refine lv_topl (fun v5 ev5 => ?_)
    have jv5 : v5.toInt = i_t := by rw [ev5, xi_64]; exact h_i
    refine lv_lconst (v := 0) hx hb dX12_turn_14 (by decide) ?_
    refine lv_ldc2 (v := 7) hx hb hown (hts (.constantLong RX12 205 (7)) (by decide +kernel)) dX12_turn_15 ?_
    refine vp_callSi (W.runS (As := [.long v5, .long 0, .long 7]) (rest := []) ⟨hx, hb, hml, hown, hts⟩ (tX12_in l E X A z I0 L0 v5 (i_t) jv5 0 (0) (by decide) 7 (7) (by decide)) (va_cwS 3 hts gX12_turn_X12_in rfl rfl rfl (by decide +kernel) ⟨Nat.le_of_ble_eq_true rfl, Nat.le_of_ble_eq_true rfl⟩) ⟨h_blind _ _ _ _ _ _ _, h_pre _ hE hk hX hA hI hR g⟩ rfl rfl hl.1 rfl (lv_room (Nat.le_of_ble_eq_true rfl)) dX12_turn_18 ⟨Nat.le_of_ble_eq_true rfl, Nat.le_of_ble_eq_true rfl⟩) (fun rh6 h6 => ?_)
    rcases h6 with ⟨rfl, h6⟩ | ⟨rfl, h6⟩
    · skip
      refine lv_if_eq (tgt := 39) hx hb dX12_turn_21 (by decide) (fun _ => ?_) (fun h => absurd (by decide) h)
      refine lv_iconst (v := (-1)) hx hb dX12_turn_39 (by decide) ?_
      exact W.iret (v := (-1)) hx hb hr (fun t ht hW => ⟨(-1), rfl, trivial, ht⟩) (fun _ h => by cases h) dX12_turn_40
    · skip
      refine lv_if_eq (tgt := 39) hx hb dX12_turn_21 (by decide) (fun h => absurd h (by decide)) (fun _ => ?_)
      refine lv_aload_n hx hb dX12_turn_24 rfl (lv_at hl 0 rfl) ?_
      obtain ⟨b9, rb9, tb9⟩ := hR.at a0 28 t_a0 (rfl : h_rs 13 28 = some (1328, false)) (by decide)
      refine h_get (v := .ref b9) hx hb hts iX12 hown g t_a0 (by decide) so_13 rfl 28 (by decide) (hts (.fieldLink RX12 67 "CapLeagueModel" "drawnOf" "[I") (by decide +kernel)) rfl dX12_turn_25 (by show va_rf (z.R a0 28) = _; rw [rb9]; rfl) ?_
      refine lv_bipush (v := 8) hx hb dX12_turn_28 (by decide) ?_
      refine lv_iload_n hx hb dX12_turn_30 rfl (lv_at hl 1 rfl) ?_
      refine lv_imul hx hb dX12_turn_31 ?_
      refine lv_topi (fun v10 ev10 => ?_)
      have jv10 : v10.toInt = 8 * y_t := xi_mul ev10 (by decide) h_y (by omega) (by omega)
      refine lv_iload_n hx hb dX12_turn_32 rfl (lv_at hl 2 rfl) ?_
      refine lv_iadd hx hb dX12_turn_33 ?_
      refine lv_topi (fun v11 ev11 => ?_)
      have jv11 : v11.toInt = v10.toInt + i_t := xi_add ev11 rfl h_i (by omega) (by omega)
      refine h_ald hx hb g tb9 (by decide) so_1328 (xi_in (by omega) (by omega)) dX12_turn_34 ?_
      refine lv_topi (fun v12 ev12 => ?_)
      have jv12 := hI.rd b9 v11.toNatClampNeg tb9 ev12 (rfl : h_bd 1328 _ = ((-1), 7))
      refine lv_iconst (v := (-1)) hx hb dX12_turn_35 (by decide) ?_
      refine lv_icmp_ne (tgt := 41) hx hb dX12_turn_36 (by decide) (fun c13 => ?_) (fun c13 => ?_)
      · have ic13 := (xi_ne c13 rfl (by decide) : v12.toInt ≠ (-1))
        refine lv_iload_n hx hb dX12_turn_41 rfl (lv_at hl 3 rfl) ?_
        refine lv_if_ne (tgt := 59) hx hb dX12_turn_42 (by decide) (fun c14 => ?_) (fun c14 => ?_)
        · have ic14 := (xi_ne c14 h_x (by decide) : x_t ≠ 0)
          refine lv_iload_n hx hb dX12_turn_59 rfl (lv_at hl 3 rfl) ?_
          refine lv_iconst (v := 1) hx hb dX12_turn_60 (by decide) ?_
          refine lv_icmp_ne (tgt := 78) hx hb dX12_turn_61 (by decide) (fun c15 => ?_) (fun c15 => ?_)
          · have ic15 := (xi_ne c15 h_x (by decide) : x_t ≠ 1)
            refine lv_iconst (v := (-1)) hx hb dX12_turn_78 (by decide) ?_
            exact W.iret (v := (-1)) hx hb hr (fun t ht hW => ⟨(-1), rfl, trivial, ht⟩) (fun _ h => by cases h) dX12_turn_79
          · have ic15 := (xi_eq c15 h_x (by decide) : x_t = 1)
            refine lv_aload_n hx hb dX12_turn_64 rfl (lv_at hl 0 rfl) ?_
            obtain ⟨b16, rb16, tb16⟩ := hR.at a0 29 t_a0 (rfl : h_rs 13 29 = some (1329, false)) (by decide)
            refine h_get (v := .ref b16) hx hb hts iX12 hown g t_a0 (by decide) so_13 rfl 29 (by decide) (hts (.fieldLink RX12 70 "CapLeagueModel" "drawnTo" "[I") (by decide +kernel)) rfl dX12_turn_65 (by show va_rf (z.R a0 29) = _; rw [rb16]; rfl) ?_
            refine lv_bipush (v := 8) hx hb dX12_turn_68 (by decide) ?_
            refine lv_iload_n hx hb dX12_turn_70 rfl (lv_at hl 1 rfl) ?_
            refine lv_imul hx hb dX12_turn_71 ?_
            refine xw_i (v := v10) ev10.symm ?_
            refine lv_iload_n hx hb dX12_turn_72 rfl (lv_at hl 2 rfl) ?_
            refine lv_iadd hx hb dX12_turn_73 ?_
            refine xw_i (v := v11) ev11.symm ?_
            refine h_ald hx hb g tb16 (by decide) so_1329 (xi_in (by omega) (by omega)) dX12_turn_74 ?_
            refine lv_topi (fun v17 ev17 => ?_)
            have jv17 := hI.rd b16 v11.toNatClampNeg tb16 ev17 (rfl : h_bd 1329 _ = ((-2147483648), 2147483647))
            refine lv_goto (tgt := 79) hx hb dX12_turn_75 (by decide) ?_
            exact W.iret (v := v17) hx hb hr (fun t ht hW => ⟨v17, rfl, trivial, ht⟩) (fun _ h => by cases h) dX12_turn_79
        · have ic14 := (xi_eq c14 h_x (by decide) : x_t = 0)
          refine lv_aload_n hx hb dX12_turn_45 rfl (lv_at hl 0 rfl) ?_
          refine h_get (v := .ref b9) hx hb hts iX12 hown g t_a0 (by decide) so_13 rfl 28 (by decide) (hts (.fieldLink RX12 67 "CapLeagueModel" "drawnOf" "[I") (by decide +kernel)) rfl dX12_turn_46 (by show va_rf (z.R a0 28) = _; rw [rb9]; rfl) ?_
          refine lv_bipush (v := 8) hx hb dX12_turn_49 (by decide) ?_
          refine lv_iload_n hx hb dX12_turn_51 rfl (lv_at hl 1 rfl) ?_
          refine lv_imul hx hb dX12_turn_52 ?_
          refine xw_i (v := v10) ev10.symm ?_
          refine lv_iload_n hx hb dX12_turn_53 rfl (lv_at hl 2 rfl) ?_
          refine lv_iadd hx hb dX12_turn_54 ?_
          refine xw_i (v := v11) ev11.symm ?_
          refine h_ald hx hb g tb9 (by decide) so_1328 (xi_in (by omega) (by omega)) dX12_turn_55 ?_
          refine xw_i (ev12.symm) ?_
          refine lv_goto (tgt := 79) hx hb dX12_turn_56 (by decide) ?_
          exact W.iret (v := v12) hx hb hr (fun t ht hW => ⟨v12, rfl, trivial, ht⟩) (fun _ h => by cases h) dX12_turn_79
      · have ic13 := (xi_eq c13 rfl (by decide) : v12.toInt = (-1))
        refine lv_iconst (v := (-1)) hx hb dX12_turn_39 (by decide) ?_
        exact W.iret (v := (-1)) hx hb hr (fun t ht hW => ⟨(-1), rfl, trivial, ht⟩) (fun _ h => by cases h) dX12_turn_40
set_option maxHeartbeats 4000000 in
set_option maxRecDepth 100000 in
theorem tX12_purse (l : Launch) (E : tE) (X : tX) (A : Nat → Prop) (z : tZ) (I0 : tI) (L0 : tL) (a0 : Nat) (t_a0 : z.ty a0 = 13) (c : Int32) (c_t : Int) (h_c : c.toInt = c_t) : Met l yX12_purse wsX12_purse ({ frames := 3, cells := 0, slots := 0, locals := 192 }) (va_Pc [.ref a0, .int c] (h_P E X A z I0 L0)) (vp_Si (fun r => True)) 0 0 (fun _ => False) := by
  refine Met.ofW (cc := cX12_purse) (maxL := 2) (ret := (some .int)) (by decide) rfl ?_
  intro pr_ ev_ s m args below meth cd_ s₁ B hml hv
  obtain ⟨rfl, hE, hk, hX, hA, hK, hI, hR, hB0⟩ := hv
  have g : h_G h_so h_fk E A z I0 L0 s s.heap s.heap [] := ⟨hK, va_S.rf, hB0⟩
  have hx := B.exec
  have hb := B.bytes
  have hr := B.returns
  have hts := atoms_spec (ws := wsX12_purse) B.pre
  have hown : s.vm.findClass RX12 = some m.cls := findClass_of_methodNamed B.named
  have hlocks := B.notSynchronized
  have iX12 : ∀ w ∈ u_ws RX12 TX12 51, w ∈ wsX12_purse := by decide +kernel
  have hl := lv_entry ([.ref a0, .int c]) (n := 2) (Nat.le_of_ble_eq_true rfl)
  rw [lg_entry_eq]
  generalize (lg_sl ([.ref a0, .int c]) ++ List.replicate (2 - (lg_sl ([.ref a0, .int c])).length) Slot.unset).toArray = ls at hl ⊢
  have hl : lv_has ls 2 [(0, .ref a0), (1, .int c)] := hl
  have b_c : -2147483648 ≤ c_t ∧ c_t ≤ 2147483647 := h_c ▸ ⟨xi_lo c, Int.le_of_lt_add_one (xi_hi c)⟩
  refine lv_iload_n hx hb dX12_purse_0 rfl (lv_at hl 1 rfl) ?_
  refine vp_callSi (W.runS (As := [.int c]) (rest := []) ⟨hx, hb, hml, hown, hts⟩ (tX12_isClub l E X A z I0 L0 c (c_t) h_c) (va_cwS 1 hts gX12_purse_X12_isClub rfl rfl rfl (by decide +kernel) ⟨Nat.le_of_ble_eq_true rfl, Nat.le_of_ble_eq_true rfl⟩) ⟨h_blind _ _ _ _ _ _ _, h_pre _ hE hk hX hA hI hR g⟩ rfl rfl hl.1 rfl (lv_room (Nat.le_of_ble_eq_true rfl)) dX12_purse_1 ⟨Nat.le_of_ble_eq_true rfl, Nat.le_of_ble_eq_true rfl⟩) (fun rh1 h1 => ?_)
  rcases h1 with ⟨rfl, h1⟩ | ⟨rfl, h1⟩
  · skip
    refine lv_if_eq (tgt := 16) hx hb dX12_purse_4 (by decide) (fun _ => ?_) (fun h => absurd (by decide) h)
    refine lv_ldcw (v := (-2000000000)) hx hb hown (hts (.constant RX12 277 (-2000000000)) (by decide +kernel)) dX12_purse_16 ?_
    exact W.iret (v := (-2000000000)) hx hb hr (fun t ht hW => ⟨(-2000000000), rfl, trivial, ht⟩) (fun _ h => by cases h) dX12_purse_19
  · skip
    refine lv_if_eq (tgt := 16) hx hb dX12_purse_4 (by decide) (fun h => absurd h (by decide)) (fun _ => ?_)
    refine lv_aload_n hx hb dX12_purse_7 rfl (lv_at hl 0 rfl) ?_
    obtain ⟨b4, rb4, tb4⟩ := hR.at a0 49 t_a0 (rfl : h_rs 13 49 = some (1349, false)) (by decide)
    refine h_get (v := .ref b4) hx hb hts iX12 hown g t_a0 (by decide) so_13 rfl 49 (by decide) (hts (.fieldLink RX12 112 "CapLeagueModel" "purse" "[I") (by decide +kernel)) rfl dX12_purse_8 (by show va_rf (z.R a0 49) = _; rw [rb4]; rfl) ?_
    refine lv_iload_n hx hb dX12_purse_11 rfl (lv_at hl 1 rfl) ?_
    refine h_ald hx hb g tb4 (by decide) so_1349 (xi_in (by rw [h_c]; omega) (by rw [h_c]; omega)) dX12_purse_12 ?_
    refine lv_topi (fun v5 ev5 => ?_)
    have jv5 := hI.rd b4 c.toNatClampNeg tb4 ev5 (rfl : h_bd 1349 _ = ((-2147483648), 2147483647))
    refine lv_goto (tgt := 19) hx hb dX12_purse_13 (by decide) ?_
    exact W.iret (v := v5) hx hb hr (fun t ht hW => ⟨v5, rfl, trivial, ht⟩) (fun _ h => by cases h) dX12_purse_19
set_option maxHeartbeats 4000000 in
set_option maxRecDepth 100000 in
theorem tX12_count (l : Launch) (E : tE) (X : tX) (A : Nat → Prop) (z : tZ) (I0 : tI) (L0 : tL) (a0 : Nat) (t_a0 : z.ty a0 = 13) (x : Int32) (x_t : Int) (h_x : x.toInt = x_t) : Met l yX12_count wsX12_count ({ frames := 1, cells := 0, slots := 0, locals := 64 }) (va_Pc [.ref a0, .int x] (h_P E X A z I0 L0)) (vp_Si (fun r => True)) 0 0 (fun _ => False) := by
  refine Met.ofW (cc := cX12_count) (maxL := 2) (ret := (some .int)) (by decide) rfl ?_
  intro pr_ ev_ s m args below meth cd_ s₁ B hml hv
  obtain ⟨rfl, hE, hk, hX, hA, hK, hI, hR, hB0⟩ := hv
  have g : h_G h_so h_fk E A z I0 L0 s s.heap s.heap [] := ⟨hK, va_S.rf, hB0⟩
  have hx := B.exec
  have hb := B.bytes
  have hr := B.returns
  have hts := atoms_spec (ws := wsX12_count) B.pre
  have hown : s.vm.findClass RX12 = some m.cls := findClass_of_methodNamed B.named
  have hlocks := B.notSynchronized
  have iX12 : ∀ w ∈ u_ws RX12 TX12 51, w ∈ wsX12_count := by decide +kernel
  have hl := lv_entry ([.ref a0, .int x]) (n := 2) (Nat.le_of_ble_eq_true rfl)
  rw [lg_entry_eq]
  generalize (lg_sl ([.ref a0, .int x]) ++ List.replicate (2 - (lg_sl ([.ref a0, .int x])).length) Slot.unset).toArray = ls at hl ⊢
  have hl : lv_has ls 2 [(0, .ref a0), (1, .int x)] := hl
  have b_x : -2147483648 ≤ x_t ∧ x_t ≤ 2147483647 := h_x ▸ ⟨xi_lo x, Int.le_of_lt_add_one (xi_hi x)⟩
  refine lv_iload_n hx hb dX12_count_0 rfl (lv_at hl 1 rfl) ?_
  have qc1 : x.toInt = x_t := h_x
  rcases (show (x.toInt < 0 ∨ 6 < x.toInt) ∨ x.toInt = 0 ∨ x.toInt = 1 ∨ x.toInt = 2 ∨ x.toInt = 3 ∨ x.toInt = 4 ∨ x.toInt = 5 ∨ x.toInt = 6 by omega) with c1 | c1 | c1 | c1 | c1 | c1 | c1 | c1
  · refine lv_tableOut (tgt := 95) hx hb dX12_count_1 c1 (by decide) ?_
    refine lv_iconst (v := (-1)) hx hb dX12_count_95 (by decide) ?_
    exact W.iret (v := (-1)) hx hb hr (fun t ht hW => ⟨(-1), rfl, trivial, ht⟩) (fun _ h => by cases h) dX12_count_96
  · refine lv_tableIn (off := 43) (tgt := 44) hx hb dX12_count_1 (by omega) (by omega) (by rw [show (x.toInt - 0).toNat = 0 by omega]; rfl) (by decide) ?_
    refine lv_aload_n hx hb dX12_count_44 rfl (lv_at hl 0 rfl) ?_
    refine h_get (v := .int (I0 a0 12)) hx hb hts iX12 hown g t_a0 (by decide) so_13 rfl 12 (by decide) (hts (.fieldLink RX12 187 "CapLeagueModel" "clock" "I") (by decide +kernel)) rfl dX12_count_45 rfl ?_
    refine lv_topi (fun v2 ev2 => ?_)
    have jv2 := hI.rd a0 12 t_a0 ev2 (rfl : h_bd 13 12 = (0, 9))
    exact W.iret (v := v2) hx hb hr (fun t ht hW => ⟨v2, rfl, trivial, ht⟩) (fun _ h => by cases h) dX12_count_48
  · refine lv_tableIn (off := 48) (tgt := 49) hx hb dX12_count_1 (by omega) (by omega) (by rw [show (x.toInt - 0).toNat = 1 by omega]; rfl) (by decide) ?_
    refine lv_aload_n hx hb dX12_count_49 rfl (lv_at hl 0 rfl) ?_
    refine h_get (v := .int (I0 a0 13)) hx hb hts iX12 hown g t_a0 (by decide) so_13 rfl 13 (by decide) (hts (.fieldLink RX12 202 "CapLeagueModel" "players" "I") (by decide +kernel)) rfl dX12_count_50 rfl ?_
    refine lv_topi (fun v3 ev3 => ?_)
    have jv3 := hI.rd a0 13 t_a0 ev3 (rfl : h_bd 13 13 = (0, 60))
    exact W.iret (v := v3) hx hb hr (fun t ht hW => ⟨v3, rfl, trivial, ht⟩) (fun _ h => by cases h) dX12_count_53
  · refine lv_tableIn (off := 53) (tgt := 54) hx hb dX12_count_1 (by omega) (by omega) (by rw [show (x.toInt - 0).toNat = 2 by omega]; rfl) (by decide) ?_
    refine lv_aload_n hx hb dX12_count_54 rfl (lv_at hl 0 rfl) ?_
    refine h_get (v := .int (I0 a0 33)) hx hb hts iX12 hown g t_a0 (by decide) so_13 rfl 33 (by decide) (hts (.fieldLink RX12 247 "CapLeagueModel" "moves" "I") (by decide +kernel)) rfl dX12_count_55 rfl ?_
    refine lv_topi (fun v4 ev4 => ?_)
    have jv4 := hI.rd a0 33 t_a0 ev4 (rfl : h_bd 13 33 = (0, 12))
    exact W.iret (v := v4) hx hb hr (fun t ht hW => ⟨v4, rfl, trivial, ht⟩) (fun _ h => by cases h) dX12_count_58
  · refine lv_tableIn (off := 58) (tgt := 59) hx hb dX12_count_1 (by omega) (by omega) (by rw [show (x.toInt - 0).toNat = 3 by omega]; rfl) (by decide) ?_
    refine lv_aload_n hx hb dX12_count_59 rfl (lv_at hl 0 rfl) ?_
    refine h_get (v := .int (I0 a0 50)) hx hb hts iX12 hown g t_a0 (by decide) so_13 rfl 50 (by decide) (hts (.fieldLink RX12 329 "CapLeagueModel" "league" "I") (by decide +kernel)) rfl dX12_count_60 rfl ?_
    refine lv_topi (fun v5 ev5 => ?_)
    have jv5 := hI.rd a0 50 t_a0 ev5 (rfl : h_bd 13 50 = ((-2147483648), 2147483647))
    exact W.iret (v := v5) hx hb hr (fun t ht hW => ⟨v5, rfl, trivial, ht⟩) (fun _ h => by cases h) dX12_count_63
  · refine lv_tableIn (off := 63) (tgt := 64) hx hb dX12_count_1 (by omega) (by omega) (by rw [show (x.toInt - 0).toNat = 4 by omega]; rfl) (by decide) ?_
    refine lv_aload_n hx hb dX12_count_64 rfl (lv_at hl 0 rfl) ?_
    refine h_get (v := .int (I0 a0 1)) hx hb hts iX12 hown g t_a0 (by decide) so_13 rfl 1 (by decide) (hts (.fieldLink RX12 119 "CapLeagueModel" "taped" "I") (by decide +kernel)) rfl dX12_count_65 rfl ?_
    refine lv_topi (fun v6 ev6 => ?_)
    have jv6 := hI.rd a0 1 t_a0 ev6 (rfl : h_bd 13 1 = (0, 500))
    exact W.iret (v := v6) hx hb hr (fun t ht hW => ⟨v6, rfl, trivial, ht⟩) (fun _ h => by cases h) dX12_count_68
  · refine lv_tableIn (off := 68) (tgt := 69) hx hb dX12_count_1 (by omega) (by omega) (by rw [show (x.toInt - 0).toNat = 5 by omega]; rfl) (by decide) ?_
    refine lv_aload_n hx hb dX12_count_69 rfl (lv_at hl 0 rfl) ?_
    refine h_get (v := .int (I0 a0 30)) hx hb hts iX12 hown g t_a0 (by decide) so_13 rfl 30 (by decide) (hts (.fieldLink RX12 306 "CapLeagueModel" "hasTable" "Z") (by decide +kernel)) rfl dX12_count_70 rfl ?_
    refine lv_topi (fun v7 ev7 => ?_)
    have jv7 := hI.rd a0 30 t_a0 ev7 (rfl : h_bd 13 30 = (0, 1))
    refine lv_if_eq (tgt := 80) hx hb dX12_count_73 (by decide) (fun c8 => ?_) (fun c8 => ?_)
    · have ic8 := (xi_eq c8 rfl (by decide) : v7.toInt = 0)
      refine lv_iconst (v := 0) hx hb dX12_count_80 (by decide) ?_
      exact W.iret (v := 0) hx hb hr (fun t ht hW => ⟨0, rfl, trivial, ht⟩) (fun _ h => by cases h) dX12_count_81
    · have ic8 := (xi_ne c8 rfl (by decide) : v7.toInt ≠ 0)
      refine lv_iconst (v := 1) hx hb dX12_count_76 (by decide) ?_
      refine lv_goto (tgt := 81) hx hb dX12_count_77 (by decide) ?_
      exact W.iret (v := 1) hx hb hr (fun t ht hW => ⟨1, rfl, trivial, ht⟩) (fun _ h => by cases h) dX12_count_81
  · refine lv_tableIn (off := 81) (tgt := 82) hx hb dX12_count_1 (by omega) (by omega) (by rw [show (x.toInt - 0).toNat = 6 by omega]; rfl) (by decide) ?_
    refine lv_aload_n hx hb dX12_count_82 rfl (lv_at hl 0 rfl) ?_
    refine h_get (v := .int (I0 a0 31)) hx hb hts iX12 hown g t_a0 (by decide) so_13 rfl 31 (by decide) (hts (.fieldLink RX12 264 "CapLeagueModel" "isDrawn" "Z") (by decide +kernel)) rfl dX12_count_83 rfl ?_
    refine lv_topi (fun v9 ev9 => ?_)
    have jv9 := hI.rd a0 31 t_a0 ev9 (rfl : h_bd 13 31 = (0, 1))
    refine lv_if_eq (tgt := 93) hx hb dX12_count_86 (by decide) (fun c10 => ?_) (fun c10 => ?_)
    · have ic10 := (xi_eq c10 rfl (by decide) : v9.toInt = 0)
      refine lv_iconst (v := 0) hx hb dX12_count_93 (by decide) ?_
      exact W.iret (v := 0) hx hb hr (fun t ht hW => ⟨0, rfl, trivial, ht⟩) (fun _ h => by cases h) dX12_count_94
    · have ic10 := (xi_ne c10 rfl (by decide) : v9.toInt ≠ 0)
      refine lv_iconst (v := 1) hx hb dX12_count_89 (by decide) ?_
      refine lv_goto (tgt := 94) hx hb dX12_count_90 (by decide) ?_
      exact W.iret (v := 1) hx hb hr (fun t ht hW => ⟨1, rfl, trivial, ht⟩) (fun _ h => by cases h) dX12_count_94
set_option maxHeartbeats 4000000 in
set_option maxRecDepth 100000 in
theorem tX12_isDeal (l : Launch) (E : tE) (X : tX) (A : Nat → Prop) (z : tZ) (I0 : tI) (L0 : tL) (a0 : Nat) (t_a0 : z.ty a0 = 13) (p : Int32) (p_t : Int) (h_p : p.toInt = p_t) (c : Int32) (c_t : Int) (h_c : c.toInt = c_t) (y : Int32) (y_t : Int) (h_y : y.toInt = y_t) (n : Int32) (n_t : Int) (h_n : n.toInt = n_t) (u : Int32) (u_t : Int) (h_u : u.toInt = u_t) (q : Int32) (q_t : Int) (h_q : q.toInt = q_t) (h : Int32) (h_t : Int) (h_h : h.toInt = h_t) (b_h : 0 ≤ h_t ∧ h_t ≤ 1) : Met l yX12_isDeal wsX12_isDeal ({ frames := 3, cells := 0, slots := 0, locals := 192 }) (va_Pc [.ref a0, .int p, .int c, .int y, .int n, .int u, .int q, .int h] (h_P E X A z I0 L0)) (vp_Si (fun r => ((r = 0 ∧ True) ∨ (r = 1 ∧ 0 ≤ p_t ∧ p_t ≤ 59 ∧ 0 ≤ c_t ∧ c_t ≤ 7)))) 0 0 (fun _ => False) := by
  refine Met.ofW (cc := cX12_isDeal) (maxL := 8) (ret := (some .boolean)) (by decide) rfl ?_
  intro pr_ ev_ s m args below meth cd_ s₁ B hml hv
  obtain ⟨rfl, hE, hk, hX, hA, hK, hI, hR, hB0⟩ := hv
  have g : h_G h_so h_fk E A z I0 L0 s s.heap s.heap [] := ⟨hK, va_S.rf, hB0⟩
  have hx := B.exec
  have hb := B.bytes
  have hr := B.returns
  have hts := atoms_spec (ws := wsX12_isDeal) B.pre
  have hown : s.vm.findClass RX12 = some m.cls := findClass_of_methodNamed B.named
  have hlocks := B.notSynchronized
  have hl := lv_entry ([.ref a0, .int p, .int c, .int y, .int n, .int u, .int q, .int h]) (n := 8) (Nat.le_of_ble_eq_true rfl)
  rw [lg_entry_eq]
  generalize (lg_sl ([.ref a0, .int p, .int c, .int y, .int n, .int u, .int q, .int h]) ++ List.replicate (8 - (lg_sl ([.ref a0, .int p, .int c, .int y, .int n, .int u, .int q, .int h])).length) Slot.unset).toArray = ls at hl ⊢
  have hl : lv_has ls 8 [(0, .ref a0), (1, .int p), (2, .int c), (3, .int y), (4, .int n), (5, .int u), (6, .int q), (7, .int h)] := hl
  have b_p : -2147483648 ≤ p_t ∧ p_t ≤ 2147483647 := h_p ▸ ⟨xi_lo p, Int.le_of_lt_add_one (xi_hi p)⟩
  have b_c : -2147483648 ≤ c_t ∧ c_t ≤ 2147483647 := h_c ▸ ⟨xi_lo c, Int.le_of_lt_add_one (xi_hi c)⟩
  have b_y : -2147483648 ≤ y_t ∧ y_t ≤ 2147483647 := h_y ▸ ⟨xi_lo y, Int.le_of_lt_add_one (xi_hi y)⟩
  have b_n : -2147483648 ≤ n_t ∧ n_t ≤ 2147483647 := h_n ▸ ⟨xi_lo n, Int.le_of_lt_add_one (xi_hi n)⟩
  have b_u : -2147483648 ≤ u_t ∧ u_t ≤ 2147483647 := h_u ▸ ⟨xi_lo u, Int.le_of_lt_add_one (xi_hi u)⟩
  have b_q : -2147483648 ≤ q_t ∧ q_t ≤ 2147483647 := h_q ▸ ⟨xi_lo q, Int.le_of_lt_add_one (xi_hi q)⟩
  refine lv_aload_n hx hb dX12_isDeal_0 rfl (lv_at hl 0 rfl) ?_
  refine lv_iload_n hx hb dX12_isDeal_1 rfl (lv_at hl 1 rfl) ?_
  refine vp_callSi (W.runV (As := [.int p]) (rest := []) ⟨hx, hb, hml, hown, hts⟩ (tX12_isPlayer l E X A z I0 L0 a0 t_a0 p (p_t) h_p) (cwV 1 hts gX12_isDeal_X12_isPlayer rfl rfl rfl (by decide +kernel) ⟨Nat.le_of_ble_eq_true rfl, Nat.le_of_ble_eq_true rfl⟩) ⟨h_blind _ _ _ _ _ _ _, h_recv g t_a0 (by decide) so_13 (q := (RX12, TX12, 51)) rfl, h_pre _ hE hk hX hA hI hR g⟩ rfl rfl hl.1 rfl (lv_room (Nat.le_of_ble_eq_true rfl)) dX12_isDeal_2 ⟨Nat.le_of_ble_eq_true rfl, Nat.le_of_ble_eq_true rfl⟩) (fun rh1 h1 => ?_)
  rcases h1 with ⟨rfl, h1⟩ | ⟨rfl, h1⟩
  · skip
    refine lv_if_eq (tgt := 82) hx hb dX12_isDeal_5 (by decide) (fun _ => ?_) (fun h => absurd (by decide) h)
    refine lv_iconst (v := 0) hx hb dX12_isDeal_82 (by decide) ?_
    exact W.zret (v := 0) hx hb hr (by decide) (fun t ht hW => ⟨0, rfl, (by exact Or.inl ⟨rfl, trivial⟩), ht⟩) (fun _ h => by cases h) dX12_isDeal_83
  · skip
    refine lv_if_eq (tgt := 82) hx hb dX12_isDeal_5 (by decide) (fun h => absurd h (by decide)) (fun _ => ?_)
    refine lv_iload_n hx hb dX12_isDeal_8 rfl (lv_at hl 2 rfl) ?_
    refine vp_callSi (W.runS (As := [.int c]) (rest := []) ⟨hx, hb, hml, hown, hts⟩ (tX12_isClub l E X A z I0 L0 c (c_t) h_c) (va_cwS 1 hts gX12_isDeal_X12_isClub rfl rfl rfl (by decide +kernel) ⟨Nat.le_of_ble_eq_true rfl, Nat.le_of_ble_eq_true rfl⟩) ⟨h_blind _ _ _ _ _ _ _, h_pre _ hE hk hX hA hI hR g⟩ rfl rfl hl.1 rfl (lv_room (Nat.le_of_ble_eq_true rfl)) dX12_isDeal_9 ⟨Nat.le_of_ble_eq_true rfl, Nat.le_of_ble_eq_true rfl⟩) (fun rh4 h4 => ?_)
    rcases h4 with ⟨rfl, h4⟩ | ⟨rfl, h4⟩
    · skip
      refine lv_if_eq (tgt := 82) hx hb dX12_isDeal_12 (by decide) (fun _ => ?_) (fun h => absurd (by decide) h)
      refine lv_iconst (v := 0) hx hb dX12_isDeal_82 (by decide) ?_
      exact W.zret (v := 0) hx hb hr (by decide) (fun t ht hW => ⟨0, rfl, (by exact Or.inl ⟨rfl, trivial⟩), ht⟩) (fun _ h => by cases h) dX12_isDeal_83
    · skip
      refine lv_if_eq (tgt := 82) hx hb dX12_isDeal_12 (by decide) (fun h => absurd h (by decide)) (fun _ => ?_)
      refine lv_iload_n hx hb dX12_isDeal_15 rfl (lv_at hl 3 rfl) ?_
      refine lv_i2l hx hb dX12_isDeal_16 rfl ?_
      refine lv_topl (fun v7 ev7 => ?_)
      have jv7 : v7.toInt = y_t := by rw [ev7, xi_64]; exact h_y
      refine lv_lconst (v := 1) hx hb dX12_isDeal_17 (by decide) ?_
      refine lv_ldc2 (v := 5) hx hb hown (hts (.constantLong RX12 223 (5)) (by decide +kernel)) dX12_isDeal_18 ?_
      refine vp_callSi (W.runS (As := [.long v7, .long 1, .long 5]) (rest := []) ⟨hx, hb, hml, hown, hts⟩ (tX12_in l E X A z I0 L0 v7 (y_t) jv7 1 (1) (by decide) 5 (5) (by decide)) (va_cwS 3 hts gX12_isDeal_X12_in rfl rfl rfl (by decide +kernel) ⟨Nat.le_of_ble_eq_true rfl, Nat.le_of_ble_eq_true rfl⟩) ⟨h_blind _ _ _ _ _ _ _, h_pre _ hE hk hX hA hI hR g⟩ rfl rfl hl.1 rfl (lv_room (Nat.le_of_ble_eq_true rfl)) dX12_isDeal_21 ⟨Nat.le_of_ble_eq_true rfl, Nat.le_of_ble_eq_true rfl⟩) (fun rh8 h8 => ?_)
      rcases h8 with ⟨rfl, h8⟩ | ⟨rfl, h8⟩
      · skip
        refine lv_if_eq (tgt := 82) hx hb dX12_isDeal_24 (by decide) (fun _ => ?_) (fun h => absurd (by decide) h)
        refine lv_iconst (v := 0) hx hb dX12_isDeal_82 (by decide) ?_
        exact W.zret (v := 0) hx hb hr (by decide) (fun t ht hW => ⟨0, rfl, (by exact Or.inl ⟨rfl, trivial⟩), ht⟩) (fun _ h => by cases h) dX12_isDeal_83
      · skip
        refine lv_if_eq (tgt := 82) hx hb dX12_isDeal_24 (by decide) (fun h => absurd h (by decide)) (fun _ => ?_)
        refine lv_iload hx hb dX12_isDeal_27 (lv_at hl 4 rfl) ?_
        refine lv_i2l hx hb dX12_isDeal_29 rfl ?_
        refine lv_topl (fun v11 ev11 => ?_)
        have jv11 : v11.toInt = n_t := by rw [ev11, xi_64]; exact h_n
        refine lv_lconst (v := 0) hx hb dX12_isDeal_30 (by decide) ?_
        refine lv_ldc2 (v := 20000) hx hb hown (hts (.constantLong RX12 225 (20000)) (by decide +kernel)) dX12_isDeal_31 ?_
        refine vp_callSi (W.runS (As := [.long v11, .long 0, .long 20000]) (rest := []) ⟨hx, hb, hml, hown, hts⟩ (tX12_in l E X A z I0 L0 v11 (n_t) jv11 0 (0) (by decide) 20000 (20000) (by decide)) (va_cwS 3 hts gX12_isDeal_X12_in rfl rfl rfl (by decide +kernel) ⟨Nat.le_of_ble_eq_true rfl, Nat.le_of_ble_eq_true rfl⟩) ⟨h_blind _ _ _ _ _ _ _, h_pre _ hE hk hX hA hI hR g⟩ rfl rfl hl.1 rfl (lv_room (Nat.le_of_ble_eq_true rfl)) dX12_isDeal_34 ⟨Nat.le_of_ble_eq_true rfl, Nat.le_of_ble_eq_true rfl⟩) (fun rh12 h12 => ?_)
        rcases h12 with ⟨rfl, h12⟩ | ⟨rfl, h12⟩
        · skip
          refine lv_if_eq (tgt := 82) hx hb dX12_isDeal_37 (by decide) (fun _ => ?_) (fun h => absurd (by decide) h)
          refine lv_iconst (v := 0) hx hb dX12_isDeal_82 (by decide) ?_
          exact W.zret (v := 0) hx hb hr (by decide) (fun t ht hW => ⟨0, rfl, (by exact Or.inl ⟨rfl, trivial⟩), ht⟩) (fun _ h => by cases h) dX12_isDeal_83
        · skip
          refine lv_if_eq (tgt := 82) hx hb dX12_isDeal_37 (by decide) (fun h => absurd h (by decide)) (fun _ => ?_)
          refine lv_iload hx hb dX12_isDeal_40 (lv_at hl 5 rfl) ?_
          refine lv_i2l hx hb dX12_isDeal_42 rfl ?_
          refine lv_topl (fun v15 ev15 => ?_)
          have jv15 : v15.toInt = u_t := by rw [ev15, xi_64]; exact h_u
          refine lv_ldc2 (v := (-500)) hx hb hown (hts (.constantLong RX12 227 (-500)) (by decide +kernel)) dX12_isDeal_43 ?_
          refine lv_ldc2 (v := 500) hx hb hown (hts (.constantLong RX12 229 (500)) (by decide +kernel)) dX12_isDeal_46 ?_
          refine vp_callSi (W.runS (As := [.long v15, .long (-500), .long 500]) (rest := []) ⟨hx, hb, hml, hown, hts⟩ (tX12_in l E X A z I0 L0 v15 (u_t) jv15 (-500) ((-500)) (by decide) 500 (500) (by decide)) (va_cwS 3 hts gX12_isDeal_X12_in rfl rfl rfl (by decide +kernel) ⟨Nat.le_of_ble_eq_true rfl, Nat.le_of_ble_eq_true rfl⟩) ⟨h_blind _ _ _ _ _ _ _, h_pre _ hE hk hX hA hI hR g⟩ rfl rfl hl.1 rfl (lv_room (Nat.le_of_ble_eq_true rfl)) dX12_isDeal_49 ⟨Nat.le_of_ble_eq_true rfl, Nat.le_of_ble_eq_true rfl⟩) (fun rh16 h16 => ?_)
          rcases h16 with ⟨rfl, h16⟩ | ⟨rfl, h16⟩
          · skip
            refine lv_if_eq (tgt := 82) hx hb dX12_isDeal_52 (by decide) (fun _ => ?_) (fun h => absurd (by decide) h)
            refine lv_iconst (v := 0) hx hb dX12_isDeal_82 (by decide) ?_
            exact W.zret (v := 0) hx hb hr (by decide) (fun t ht hW => ⟨0, rfl, (by exact Or.inl ⟨rfl, trivial⟩), ht⟩) (fun _ h => by cases h) dX12_isDeal_83
          · skip
            refine lv_if_eq (tgt := 82) hx hb dX12_isDeal_52 (by decide) (fun h => absurd h (by decide)) (fun _ => ?_)
            refine lv_iload hx hb dX12_isDeal_55 (lv_at hl 6 rfl) ?_
            refine lv_i2l hx hb dX12_isDeal_57 rfl ?_
            refine lv_topl (fun v19 ev19 => ?_)
            have jv19 : v19.toInt = q_t := by rw [ev19, xi_64]; exact h_q
            refine lv_lconst (v := 0) hx hb dX12_isDeal_58 (by decide) ?_
            refine lv_ldc2 (v := 100) hx hb hown (hts (.constantLong RX12 231 (100)) (by decide +kernel)) dX12_isDeal_59 ?_
            refine vp_callSi (W.runS (As := [.long v19, .long 0, .long 100]) (rest := []) ⟨hx, hb, hml, hown, hts⟩ (tX12_in l E X A z I0 L0 v19 (q_t) jv19 0 (0) (by decide) 100 (100) (by decide)) (va_cwS 3 hts gX12_isDeal_X12_in rfl rfl rfl (by decide +kernel) ⟨Nat.le_of_ble_eq_true rfl, Nat.le_of_ble_eq_true rfl⟩) ⟨h_blind _ _ _ _ _ _ _, h_pre _ hE hk hX hA hI hR g⟩ rfl rfl hl.1 rfl (lv_room (Nat.le_of_ble_eq_true rfl)) dX12_isDeal_62 ⟨Nat.le_of_ble_eq_true rfl, Nat.le_of_ble_eq_true rfl⟩) (fun rh20 h20 => ?_)
            rcases h20 with ⟨rfl, h20⟩ | ⟨rfl, h20⟩
            · skip
              refine lv_if_eq (tgt := 82) hx hb dX12_isDeal_65 (by decide) (fun _ => ?_) (fun h => absurd (by decide) h)
              refine lv_iconst (v := 0) hx hb dX12_isDeal_82 (by decide) ?_
              exact W.zret (v := 0) hx hb hr (by decide) (fun t ht hW => ⟨0, rfl, (by exact Or.inl ⟨rfl, trivial⟩), ht⟩) (fun _ h => by cases h) dX12_isDeal_83
            · skip
              refine lv_if_eq (tgt := 82) hx hb dX12_isDeal_65 (by decide) (fun h => absurd h (by decide)) (fun _ => ?_)
              refine lv_iload hx hb dX12_isDeal_68 (lv_at hl 7 rfl) ?_
              refine lv_if_eq (tgt := 78) hx hb dX12_isDeal_70 (by decide) (fun c23 => ?_) (fun c23 => ?_)
              · have ic23 := (xi_eq c23 h_h (by decide) : h_t = 0)
                refine lv_iconst (v := 1) hx hb dX12_isDeal_78 (by decide) ?_
                refine lv_goto (tgt := 83) hx hb dX12_isDeal_79 (by decide) ?_
                exact W.zret (v := 1) hx hb hr (by decide) (fun t ht hW => ⟨1, rfl, (by exact Or.inr (⟨rfl, by omega⟩)), ht⟩) (fun _ h => by cases h) dX12_isDeal_83
              · have ic23 := (xi_ne c23 h_h (by decide) : h_t ≠ 0)
                refine lv_iload_n hx hb dX12_isDeal_73 rfl (lv_at hl 3 rfl) ?_
                refine lv_iconst (v := 1) hx hb dX12_isDeal_74 (by decide) ?_
                refine lv_icmp_eq (tgt := 82) hx hb dX12_isDeal_75 (by decide) (fun c24 => ?_) (fun c24 => ?_)
                · have ic24 := (xi_eq c24 h_y (by decide) : y_t = 1)
                  refine lv_iconst (v := 0) hx hb dX12_isDeal_82 (by decide) ?_
                  exact W.zret (v := 0) hx hb hr (by decide) (fun t ht hW => ⟨0, rfl, (by exact Or.inl ⟨rfl, trivial⟩), ht⟩) (fun _ h => by cases h) dX12_isDeal_83
                · have ic24 := (xi_ne c24 h_y (by decide) : y_t ≠ 1)
                  refine lv_iconst (v := 1) hx hb dX12_isDeal_78 (by decide) ?_
                  refine lv_goto (tgt := 83) hx hb dX12_isDeal_79 (by decide) ?_
                  exact W.zret (v := 1) hx hb hr (by decide) (fun t ht hW => ⟨1, rfl, (by exact Or.inr (⟨rfl, by omega⟩)), ht⟩) (fun _ h => by cases h) dX12_isDeal_83
set_option maxHeartbeats 4000000 in
set_option maxRecDepth 100000 in
theorem tX12_waive (l : Launch) (E : tE) (X : tX) (A : Nat → Prop) (z : tZ) (I0 : tI) (L0 : tL) (a0 : Nat) (t_a0 : z.ty a0 = 13) (p : Int32) (p_t : Int) (h_p : p.toInt = p_t) : Met l yX12_waive wsX12_waive ({ frames := 3, cells := 0, slots := 0, locals := 192 }) (va_Pc [.ref a0, .int p] (h_P E X A z I0 L0)) (va_Qi (fun r (I1 : tI) => h_I z I1 ∧ h_F [(1323, 999), (1314, 999), (13, 33)] z I0 I1 ∧ True) (fun (I1 : tI) t => h_B E A z I1 L0 t) A) 0 0 A := by
  refine Met.ofW (cc := cX12_waive) (maxL := 5) (ret := (some .int)) (by decide) rfl ?_
  intro pr_ ev_ s m args below meth cd_ s₁ B hml hv
  obtain ⟨rfl, hE, hk, hX, hA, hK, hI, hR, hB0⟩ := hv
  have g : h_G h_so h_fk E A z I0 L0 s s.heap s.heap [] := ⟨hK, va_S.rf, hB0⟩
  have hF : h_F [(1323, 999), (1314, 999), (13, 33)] z I0 I0 := h_F.rf
  have hx := B.exec
  have hb := B.bytes
  have hr := B.returns
  have hts := atoms_spec (ws := wsX12_waive) B.pre
  have hown : s.vm.findClass RX12 = some m.cls := findClass_of_methodNamed B.named
  have hlocks := B.notSynchronized
  have iX12 : ∀ w ∈ u_ws RX12 TX12 51, w ∈ wsX12_waive := by decide +kernel
  have hl := lv_entry ([.ref a0, .int p]) (n := 5) (Nat.le_of_ble_eq_true rfl)
  rw [lg_entry_eq]
  generalize (lg_sl ([.ref a0, .int p]) ++ List.replicate (5 - (lg_sl ([.ref a0, .int p])).length) Slot.unset).toArray = ls at hl ⊢
  have hl : lv_has ls 5 [(0, .ref a0), (1, .int p)] := hl
  have b_p : -2147483648 ≤ p_t ∧ p_t ≤ 2147483647 := h_p ▸ ⟨xi_lo p, Int.le_of_lt_add_one (xi_hi p)⟩
  refine lv_aload_n hx hb dX12_waive_0 rfl (lv_at hl 0 rfl) ?_
  refine lv_iload_n hx hb dX12_waive_1 rfl (lv_at hl 1 rfl) ?_
  refine vp_callSi (W.runV (As := [.int p]) (rest := []) ⟨hx, hb, hml, hown, hts⟩ (tX12_isPlayer l E X A z I0 L0 a0 t_a0 p (p_t) h_p) (cwV 1 hts gX12_waive_X12_isPlayer rfl rfl rfl (by decide +kernel) ⟨Nat.le_of_ble_eq_true rfl, Nat.le_of_ble_eq_true rfl⟩) ⟨h_blind _ _ _ _ _ _ _, h_recv g t_a0 (by decide) so_13 (q := (RX12, TX12, 51)) rfl, h_pre _ hE hk hX hA hI hR g⟩ rfl rfl hl.1 rfl (lv_room (Nat.le_of_ble_eq_true rfl)) dX12_waive_2 ⟨Nat.le_of_ble_eq_true rfl, Nat.le_of_ble_eq_true rfl⟩) (fun rh1 h1 => ?_)
  rcases h1 with ⟨rfl, h1⟩ | ⟨rfl, h1⟩
  · skip
    refine lv_if_ne (tgt := 11) hx hb dX12_waive_5 (by decide) (fun h => absurd (by decide) h) (fun _ => ?_)
    refine lv_bipush (v := (-2)) hx hb dX12_waive_8 (by decide) ?_
    have hS := g.2.1
    exact W.iret (v := (-2)) hx hb hr (fun t ht hW => ⟨⟨(-2), I0, rfl, ⟨hI, hF, trivial⟩, h_ret g ht⟩, hS.F ht⟩) hS.2.2 dX12_waive_10
  · skip
    refine lv_if_ne (tgt := 11) hx hb dX12_waive_5 (by decide) (fun _ => ?_) (fun h => absurd h (by decide))
    refine lv_aload_n hx hb dX12_waive_11 rfl (lv_at hl 0 rfl) ?_
    obtain ⟨b4, rb4, tb4⟩ := hR.at a0 14 t_a0 (rfl : h_rs 13 14 = some (1314, false)) (by decide)
    refine h_get (v := .ref b4) hx hb hts iX12 hown g t_a0 (by decide) so_13 rfl 14 (by decide) (hts (.fieldLink RX12 25 "CapLeagueModel" "clubOf" "[I") (by decide +kernel)) rfl dX12_waive_12 (by show va_rf (z.R a0 14) = _; rw [rb4]; rfl) ?_
    refine lv_iload_n hx hb dX12_waive_15 rfl (lv_at hl 1 rfl) ?_
    refine h_ald hx hb g tb4 (by decide) so_1314 (xi_in (by rw [h_p]; omega) (by rw [h_p]; omega)) dX12_waive_16 ?_
    refine lv_topi (fun v5 ev5 => ?_)
    have jv5 := hI.rd b4 p.toNatClampNeg tb4 ev5 (rfl : h_bd 1314 _ = ((-1), 7))
    refine lv_iconst (v := (-1)) hx hb dX12_waive_17 (by decide) ?_
    refine lv_icmp_ne (tgt := 24) hx hb dX12_waive_18 (by decide) (fun c6 => ?_) (fun c6 => ?_)
    · have ic6 := (xi_ne c6 rfl (by decide) : v5.toInt ≠ (-1))
      refine lv_iconst (v := 0) hx hb dX12_waive_24 (by decide) ?_
      refine lv_istore_n (lv' := [(2, .int 0), (0, .ref a0), (1, .int p)]) hx hb dX12_waive_25 rfl hl (by decide) rfl (fun ls hl => ?_)
      refine lv_aload_n hx hb dX12_waive_26 rfl (lv_at hl 1 rfl) ?_
      refine h_get (v := .int (I0 a0 12)) hx hb hts iX12 hown g t_a0 (by decide) so_13 rfl 12 (by decide) (hts (.fieldLink RX12 187 "CapLeagueModel" "clock" "I") (by decide +kernel)) rfl dX12_waive_27 rfl ?_
      refine lv_topi (fun v7 ev7 => ?_)
      have jv7 := hI.rd a0 12 t_a0 ev7 (rfl : h_bd 13 12 = (0, 9))
      refine lv_istore_n (lv' := [(3, .int v7), (2, .int 0), (0, .ref a0), (1, .int p)]) hx hb dX12_waive_30 rfl hl (by decide) rfl (fun ls hl => ?_)
      have loop31_0 : ∀ (n : Nat) (I10 : tI) (H : Heap) (locs : List Loc) (ls : Array Slot) (v8 v9 : Int32), h_G h_so h_fk E A z I10 L0 s s.heap H locs → h_I z I10 → h_F [(1323, 999), (1314, 999), (13, 33)] z I0 I10 → lv_has ls 5 [(0, .ref a0), (1, .int p), (2, .int v8), (3, .int v9)] → ((-2147483648) ≤ v8.toInt ∧ v8.toInt ≤ 2147483647) → (0 ≤ v9.toInt ∧ v9.toInt ≤ 10) → h_F [(1323, 999)] z I0 I10 → (10 - v9.toInt) < (n : Int) → W pr_ l ev_ (headSpec wsX12_waive ({ frames := 3, cells := 0, slots := 0, locals := 192 })).room s m ([.ref a0, .int p] : List Value).toArray below meth cd_ H locs 0 0 (MQ below (va_Qi (fun r (I1 : tI) => h_I z I1 ∧ h_F [(1323, 999), (1314, 999), (13, 33)] z I0 I1 ∧ True) (fun (I1 : tI) t => h_B E A z I1 L0 t) A) ([.ref a0, .int p] : List Value).toArray s 0 0 A) (F0 m 31 ls []) := by
        intro n
        induction n with
        | zero => intro I10 H locs ls v8 v9 g hI hF hl jv8 jv9 hL31 hn; exact absurd hn (by omega)
        | succ n ih31 =>
          intro I10 H locs ls v8 v9 g hI hF hl jv8 jv9 hL31 hn
          refine lv_iload_n hx hb dX12_waive_31 rfl (lv_at hl 3 rfl) ?_
          refine lv_bipush (v := 10) hx hb dX12_waive_32 (by decide) ?_
          refine lv_icmp_ge (tgt := 99) hx hb dX12_waive_34 (by decide) (fun c11 => ?_) (fun c11 => ?_)
          · have ic11 := (xi_le c11 (by decide) rfl : 10 ≤ v9.toInt)
            refine lv_aload_n hx hb dX12_waive_99 rfl (lv_at hl 0 rfl) ?_
            refine h_get (v := .ref b4) hx hb hts iX12 hown g t_a0 (by decide) so_13 rfl 14 (by decide) (hts (.fieldLink RX12 25 "CapLeagueModel" "clubOf" "[I") (by decide +kernel)) rfl dX12_waive_100 (by show va_rf (z.R a0 14) = _; rw [rb4]; rfl) ?_
            refine lv_iload_n hx hb dX12_waive_103 rfl (lv_at hl 1 rfl) ?_
            refine lv_iconst (v := (-1)) hx hb dX12_waive_104 (by decide) ?_
            refine h_ast hx hb g tb4 (by decide) so_1314 (xi_in (by rw [h_p]; omega) (by rw [h_p]; omega)) dX12_waive_105 (fun I12 H locs eI12 g => ?_)
            have hI := hI.wr eI12 tb4 (rfl : h_bd 1314 _ = ((-1), 7)) (by decide) (by decide)
            have hF := hF.wr eI12 tb4 rfl
            refine lv_aload_n hx hb dX12_waive_106 rfl (lv_at hl 0 rfl) ?_
            refine lv_iconst (v := 0) hx hb dX12_waive_107 (by decide) ?_
            refine h_putI (ty := .int) (v := 0) hx hb hts iX12 tyX12 tyX12_ok nmX12 hown g t_a0 (by decide) so_13 rfl 33 (by decide) rfl (hts (.fieldLink RX12 247 "CapLeagueModel" "moves" "I") (by decide +kernel)) rfl rfl (by decide +kernel) rfl rfl dX12_waive_108 (fun I13 H locs eI13 g => ?_)
            have hI := hI.wr eI13 t_a0 (rfl : h_bd 13 33 = (0, 12)) (by decide) (by decide)
            have hF := hF.wr eI13 t_a0 rfl
            refine lv_iload_n hx hb dX12_waive_111 rfl (lv_at hl 2 rfl) ?_
            have hS := g.2.1
            exact W.iret (v := v8) hx hb hr (fun t ht hW => ⟨⟨v8, I13, rfl, ⟨hI, hF, trivial⟩, h_ret g ht⟩, hS.F ht⟩) hS.2.2 dX12_waive_112
          · have ic11 := (xi_nle c11 (by decide) rfl : v9.toInt < 10)
            refine lv_aload_n hx hb dX12_waive_37 rfl (lv_at hl 0 rfl) ?_
            refine lv_iload_n hx hb dX12_waive_38 rfl (lv_at hl 1 rfl) ?_
            refine lv_iload_n hx hb dX12_waive_39 rfl (lv_at hl 3 rfl) ?_
            refine vp_callSi (W.runV (As := [.int p, .int v9]) (rest := []) ⟨hx, hb, hml, hown, hts⟩ (tX12_isUnder l E X A z I10 L0 a0 t_a0 p (p_t) h_p (by omega) v9 (v9.toInt) rfl) (cwV 2 hts gX12_waive_X12_isUnder rfl rfl rfl (by decide +kernel) ⟨Nat.le_of_ble_eq_true rfl, Nat.le_of_ble_eq_true rfl⟩) ⟨h_blind _ _ _ _ _ _ _, h_recv g t_a0 (by decide) so_13 (q := (RX12, TX12, 51)) rfl, h_pre _ hE hk hX hA hI hR g⟩ rfl rfl hl.1 rfl (lv_room (Nat.le_of_ble_eq_true rfl)) dX12_waive_40 ⟨Nat.le_of_ble_eq_true rfl, Nat.le_of_ble_eq_true rfl⟩) (fun rh14 h14 => ?_)
            refine lv_if_ne (tgt := 49) hx hb dX12_waive_43 (by decide) (fun c15 => ?_) (fun c15 => ?_)
            · have ic15 := (xi_ne c15 rfl (by decide) : rh14.toInt ≠ 0)
              refine lv_aload_n hx hb dX12_waive_49 rfl (lv_at hl 0 rfl) ?_
              refine lv_iload_n hx hb dX12_waive_50 rfl (lv_at hl 1 rfl) ?_
              refine lv_iload_n hx hb dX12_waive_51 rfl (lv_at hl 3 rfl) ?_
              refine vp_callSi (W.runV (As := [.int p, .int v9]) (rest := []) ⟨hx, hb, hml, hown, hts⟩ (tX12_payOf l E X A z I10 L0 a0 t_a0 p (p_t) h_p (by omega) v9 (v9.toInt) rfl) (cwV 2 hts gX12_waive_X12_payOf rfl rfl rfl (by decide +kernel) ⟨Nat.le_of_ble_eq_true rfl, Nat.le_of_ble_eq_true rfl⟩) ⟨h_blind _ _ _ _ _ _ _, h_recv g t_a0 (by decide) so_13 (q := (RX12, TX12, 51)) rfl, h_pre _ hE hk hX hA hI hR g⟩ rfl rfl hl.1 rfl (lv_room (Nat.le_of_ble_eq_true rfl)) dX12_waive_52 ⟨Nat.le_of_ble_eq_true rfl, Nat.le_of_ble_eq_true rfl⟩) (fun rh16 h16 => ?_)
              have jrh16 : -2147483648 ≤ rh16.toInt ∧ rh16.toInt ≤ 2147483647 := ⟨xi_lo _, Int.le_of_lt_add_one (xi_hi _)⟩
              refine lv_aload_n hx hb dX12_waive_55 rfl (lv_at hl 0 rfl) ?_
              obtain ⟨b17, rb17, tb17⟩ := hR.at a0 19 t_a0 (rfl : h_rs 13 19 = some (1319, false)) (by decide)
              refine h_get (v := .ref b17) hx hb hts iX12 hown g t_a0 (by decide) so_13 rfl 19 (by decide) (hts (.fieldLink RX12 40 "CapLeagueModel" "sure" "[I") (by decide +kernel)) rfl dX12_waive_56 (by show va_rf (z.R a0 19) = _; rw [rb17]; rfl) ?_
              refine lv_iload_n hx hb dX12_waive_59 rfl (lv_at hl 1 rfl) ?_
              refine h_ald hx hb g tb17 (by decide) so_1319 (xi_in (by rw [h_p]; omega) (by rw [h_p]; omega)) dX12_waive_60 ?_
              refine lv_topi (fun v18 ev18 => ?_)
              have jv18 := hI.rd b17 p.toNatClampNeg tb17 ev18 (rfl : h_bd 1319 _ = ((-2147483648), 2147483647))
              refine lv_imul hx hb dX12_waive_61 ?_
              refine lv_topi (fun v19 ev19 => ?_)
              have jv19 : -2147483648 ≤ v19.toInt ∧ v19.toInt ≤ 2147483647 := ⟨xi_lo _, Int.le_of_lt_add_one (xi_hi _)⟩
              refine lv_bipush (v := 100) hx hb dX12_waive_62 (by decide) ?_
              refine lv_idiv hx hb dX12_waive_64 (by decide) ?_
              refine lv_topi (fun v20 ev20 => ?_)
              have jv20 : -2147483648 ≤ v20.toInt ∧ v20.toInt ≤ 2147483647 := ⟨xi_lo _, Int.le_of_lt_add_one (xi_hi _)⟩
              refine lv_istore (lv' := [(4, .int v20), (0, .ref a0), (1, .int p), (2, .int v8), (3, .int v9)]) hx hb dX12_waive_65 hl (by decide) rfl (fun ls hl => ?_)
              refine lv_aload_n hx hb dX12_waive_67 rfl (lv_at hl 1 rfl) ?_
              obtain ⟨b21, rb21, tb21⟩ := hR.at a0 23 t_a0 (rfl : h_rs 13 23 = some (1323, false)) (by decide)
              refine h_get (v := .ref b21) hx hb hts iX12 hown g t_a0 (by decide) so_13 rfl 23 (by decide) (hts (.fieldLink RX12 52 "CapLeagueModel" "dead" "[I") (by decide +kernel)) rfl dX12_waive_68 (by show va_rf (z.R a0 23) = _; rw [rb21]; rfl) ?_
              refine lv_bipush (v := 10) hx hb dX12_waive_71 (by decide) ?_
              refine lv_aload_n hx hb dX12_waive_73 rfl (lv_at hl 1 rfl) ?_
              refine h_get (v := .ref b4) hx hb hts iX12 hown g t_a0 (by decide) so_13 rfl 14 (by decide) (hts (.fieldLink RX12 25 "CapLeagueModel" "clubOf" "[I") (by decide +kernel)) rfl dX12_waive_74 (by show va_rf (z.R a0 14) = _; rw [rb4]; rfl) ?_
              refine lv_iload_n hx hb dX12_waive_77 rfl (lv_at hl 2 rfl) ?_
              refine h_ald hx hb g tb4 (by decide) so_1314 (xi_in (by rw [h_p]; omega) (by rw [h_p]; omega)) dX12_waive_78 ?_
              refine xw_i ((h_F.at hL31 tb4 rfl).trans (ev5.symm)) ?_
              refine lv_imul hx hb dX12_waive_79 ?_
              refine lv_topi (fun v22 ev22 => ?_)
              have jv22 : v22.toInt = 10 * v5.toInt := xi_mul ev22 (by decide) rfl (by omega) (by omega)
              refine lv_iload_n hx hb dX12_waive_80 rfl (lv_at hl 4 rfl) ?_
              refine lv_iadd hx hb dX12_waive_81 ?_
              refine lv_topi (fun v23 ev23 => ?_)
              have jv23 : v23.toInt = v22.toInt + v9.toInt := xi_add ev23 rfl rfl (by omega) (by omega)
              refine lv_dup2_11 hx hb dX12_waive_82 rfl rfl ?_
              refine h_ald hx hb g tb21 (by decide) so_1323 (xi_in (by omega) (by omega)) dX12_waive_83 ?_
              refine lv_topi (fun v24 ev24 => ?_)
              have jv24 := hI.rd b21 v23.toNatClampNeg tb21 ev24 (rfl : h_bd 1323 _ = ((-2147483648), 2147483647))
              refine lv_iload hx hb dX12_waive_84 (lv_at hl 0 rfl) ?_
              refine lv_iadd hx hb dX12_waive_86 ?_
              refine lv_topi (fun v25 ev25 => ?_)
              have jv25 : -2147483648 ≤ v25.toInt ∧ v25.toInt ≤ 2147483647 := ⟨xi_lo _, Int.le_of_lt_add_one (xi_hi _)⟩
              refine h_ast hx hb g tb21 (by decide) so_1323 (xi_in (by omega) (by omega)) dX12_waive_87 (fun I26 H locs eI26 g => ?_)
              have hI := hI.wr eI26 tb21 (rfl : h_bd 1323 _ = ((-2147483648), 2147483647)) (xi_lo _) (Int.le_of_lt_add_one (xi_hi _))
              have hF := hF.wr eI26 tb21 rfl
              refine lv_iload_n hx hb dX12_waive_88 rfl (lv_at hl 3 rfl) ?_
              refine lv_iload hx hb dX12_waive_89 (lv_at hl 0 rfl) ?_
              refine lv_iadd hx hb dX12_waive_91 ?_
              refine lv_topi (fun v27 ev27 => ?_)
              have jv27 : -2147483648 ≤ v27.toInt ∧ v27.toInt ≤ 2147483647 := ⟨xi_lo _, Int.le_of_lt_add_one (xi_hi _)⟩
              refine lv_istore_n (lv' := [(2, .int v27), (4, .int v20), (0, .ref a0), (1, .int p), (3, .int v9)]) hx hb dX12_waive_92 rfl hl (by decide) rfl (fun ls hl => ?_)
              obtain ⟨v28, ev28⟩ : ∃ z : Int32, z = v9 + 1 := ⟨_, rfl⟩
              have jv28 : v28.toInt = v9.toInt + 1 := xi_add ev28 rfl (by decide) (by omega) (by omega)
              refine lv_iinc (v := v28) (lv' := [(3, .int v28), (2, .int v27), (4, .int v20), (0, .ref a0), (1, .int p)]) hx hb dX12_waive_93 hl (k := 4) rfl (by rw [ev28]; rfl) (by decide) rfl (fun ls hl => ?_)
              refine lv_goto (tgt := 31) hx hb dX12_waive_96 (by decide) ?_
              exact ih31 I26 _ _ _ v27 v28 g hI hF (lv_sub hl [3, 4, 1, 0] rfl) (by omega) (by omega) (h_F.wr (h_F.call (h_F.rf : h_F [(1323, 999)] z I0 I0) hL31 rfl) eI26 tb21 rfl) (by omega)
            · have ic15 := (xi_eq c15 rfl (by decide) : rh14.toInt = 0)
              refine lv_goto (tgt := 93) hx hb dX12_waive_46 (by decide) ?_
              obtain ⟨v29, ev29⟩ : ∃ z : Int32, z = v9 + 1 := ⟨_, rfl⟩
              have jv29 : v29.toInt = v9.toInt + 1 := xi_add ev29 rfl (by decide) (by omega) (by omega)
              refine lv_iinc (v := v29) (lv' := [(3, .int v29), (0, .ref a0), (1, .int p), (2, .int v8)]) hx hb dX12_waive_93 hl (k := 3) rfl (by rw [ev29]; rfl) (by decide) rfl (fun ls hl => ?_)
              refine lv_goto (tgt := 31) hx hb dX12_waive_96 (by decide) ?_
              exact ih31 I10 _ _ _ v8 v29 g hI hF (lv_sub hl [1, 2, 3, 0] rfl) (by omega) (by omega) (h_F.call (h_F.rf : h_F [(1323, 999)] z I0 I0) hL31 rfl) (by omega)
      exact loop31_0 _ I0 _ _ _ (0) v7 g hI hF (lv_sub hl [2, 3, 1, 0] rfl) ⟨by decide, by decide⟩ (by omega) (h_F.rf : h_F [(1323, 999)] z I0 I0) (show (10 - v7.toInt) < (((10 - v7.toInt).toNat + 1 : Nat) : Int) by omega)
    · have ic6 := (xi_eq c6 rfl (by decide) : v5.toInt = (-1))
      refine lv_bipush (v := (-4)) hx hb dX12_waive_21 (by decide) ?_
      have hS := g.2.1
      exact W.iret (v := (-4)) hx hb hr (fun t ht hW => ⟨⟨(-4), I0, rfl, ⟨hI, hF, trivial⟩, h_ret g ht⟩, hS.F ht⟩) hS.2.2 dX12_waive_23
