set_option maxHeartbeats 4000000 in
set_option maxRecDepth 100000 in
theorem tX8_atF (l : Launch) (E : tE) (X : tX) (A : Nat → Prop) (z : tZ) (I0 : tI) (L0 : tL) (a0 : Nat) (t_a0 : z.ty a0 = 9) (x : Int32) (x_t : Int) (h_x : x.toInt = x_t) : Met l yX8_at wsX8_at ({ frames := 1, cells := 0, slots := 0, locals := 64 }) (va_Pc [.ref a0, .int x] (h_P E X A z I0 L0)) (vp_Si (fun r => ((-1) ≤ r.toInt ∧ r.toInt ≤ 255) ∧ (r.toInt = q_at (I0 (h_ad z a0 0)) (I0 a0 1).toInt x_t))) 0 0 (fun _ => False) := by
  refine Met.ofW (cc := cX8_at) (maxL := 2) (ret := (some .int)) (by decide) rfl ?_
  intro pr_ ev_ s m args below meth cd_ s₁ B hml hv
  obtain ⟨rfl, hE, hk, hX, hA, hK, hI, hR, hB0⟩ := hv
  have g : h_G h_so h_fk E A z I0 L0 s s.heap s.heap [] := ⟨hK, va_S.rf, hB0⟩
  have hx := B.exec
  have hb := B.bytes
  have hr := B.returns
  have hts := atoms_spec (ws := wsX8_at) B.pre
  have hown : s.vm.findClass RX8 = some m.cls := findClass_of_methodNamed B.named
  have hlocks := B.notSynchronized
  have iX8 : ∀ w ∈ u_ws RX8 TX8 2, w ∈ wsX8_at := by decide +kernel
  have hl := lv_entry ([.ref a0, .int x]) (n := 2) (Nat.le_of_ble_eq_true rfl)
  rw [lg_entry_eq]
  generalize (lg_sl ([.ref a0, .int x]) ++ List.replicate (2 - (lg_sl ([.ref a0, .int x])).length) Slot.unset).toArray = ls at hl ⊢
  have hl : lv_has ls 2 [(0, .ref a0), (1, .int x)] := hl
  have b_x : -2147483648 ≤ x_t ∧ x_t ≤ 2147483647 := h_x ▸ ⟨xi_lo x, Int.le_of_lt_add_one (xi_hi x)⟩
  obtain ⟨bt, rbt, tbt⟩ := hR.at a0 0 t_a0 (rfl : h_rs 9 0 = some (900, false)) (by decide)
  have abt : h_ad z a0 0 = bt := h_ad.at rbt
  obtain ⟨f0_1, ef0_1⟩ : ∃ v : Int32, v = I0 a0 1 := ⟨_, rfl⟩
  have qf0_1 : (I0 a0 1).toInt = f0_1.toInt := congrArg Int32.toInt ef0_1.symm
  have jf0_1 := hI.rd a0 1 t_a0 ef0_1 (rfl : h_bd 9 1 = (0, 500))
  refine lv_iload_n hx hb dX8_at_0 rfl (lv_at hl 1 rfl) ?_
  refine lv_if_lt (tgt := 34) hx hb dX8_at_1 (by decide) (fun c1 => ?_) (fun c1 => ?_)
  · have ic1 := (xi_lt c1 h_x (by decide) : x_t < 0)
    refine lv_iconst (v := (-1)) hx hb dX8_at_34 (by decide) ?_
    exact W.iret (v := (-1)) hx hb hr (fun t ht hW => ⟨(-1), rfl, ⟨⟨(by decide), (by decide)⟩, (by rw [abt, qf0_1]; unfold q_at; rw [if_neg (by omega)]; decide)⟩, ht⟩) (fun _ h => by cases h) dX8_at_35
  · have ic1 := (xi_nlt c1 h_x (by decide) : 0 ≤ x_t)
    refine lv_iload_n hx hb dX8_at_4 rfl (lv_at hl 1 rfl) ?_
    refine lv_aload_n hx hb dX8_at_5 rfl (lv_at hl 0 rfl) ?_
    refine h_get (v := .int f0_1) hx hb hts iX8 hown g t_a0 (by decide) so_9 rfl 1 (by decide) (hts (.fieldLink RX8 15 "CapLeague$Tape" "size" "I") (by decide +kernel)) rfl dX8_at_6 (congrArg Value.int (ef0_1.symm)) ?_
    refine lv_icmp_ge (tgt := 34) hx hb dX8_at_9 (by decide) (fun c2 => ?_) (fun c2 => ?_)
    · have ic2 := (xi_le c2 rfl h_x : f0_1.toInt ≤ x_t)
      refine lv_iconst (v := (-1)) hx hb dX8_at_34 (by decide) ?_
      exact W.iret (v := (-1)) hx hb hr (fun t ht hW => ⟨(-1), rfl, ⟨⟨(by decide), (by decide)⟩, (by rw [abt, qf0_1]; unfold q_at; rw [if_neg (by omega)]; decide)⟩, ht⟩) (fun _ h => by cases h) dX8_at_35
    · have ic2 := (xi_nle c2 rfl h_x : x_t < f0_1.toInt)
      refine lv_iload_n hx hb dX8_at_12 rfl (lv_at hl 1 rfl) ?_
      refine lv_aload_n hx hb dX8_at_13 rfl (lv_at hl 0 rfl) ?_
      refine h_get (v := .ref bt) hx hb hts iX8 hown g t_a0 (by decide) so_9 rfl 0 (by decide) (hts (.fieldLink RX8 11 "CapLeague$Tape" "bytes" "[B") (by decide +kernel)) rfl dX8_at_14 (by show va_rf (z.R a0 0) = _; rw [rbt]; rfl) ?_
      refine h_alen (v := 500) hx hb g tbt (by decide) (Or.inr (Or.inr (Or.inl so_900))) rfl dX8_at_17 ?_
      refine lv_icmp_ge (tgt := 34) hx hb dX8_at_18 (by decide) (fun h => absurd (xi_le h (by decide) h_x : 500 ≤ x_t) (by omega)) (fun c3 => ?_)
      have ic3 := (xi_nle c3 (by decide) h_x : x_t < 500)
      refine lv_aload_n hx hb dX8_at_21 rfl (lv_at hl 0 rfl) ?_
      refine h_get (v := .ref bt) hx hb hts iX8 hown g t_a0 (by decide) so_9 rfl 0 (by decide) (hts (.fieldLink RX8 11 "CapLeague$Tape" "bytes" "[B") (by decide +kernel)) rfl dX8_at_22 (by show va_rf (z.R a0 0) = _; rw [rbt]; rfl) ?_
      refine lv_iload_n hx hb dX8_at_25 rfl (lv_at hl 1 rfl) ?_
      refine h_bald hx hb g tbt (by decide) so_900 (xi_in (by rw [h_x]; omega) (by rw [h_x]; omega)) dX8_at_26 ?_
      refine lv_topi (fun v4 ev4 => ?_)
      have jv4 := hI.rd bt x.toNatClampNeg tbt ev4 (rfl : h_bd 900 _ = ((-128), 127))
      refine lv_sipush (v := 255) hx hb dX8_at_27 (by decide) ?_
      refine lv_iand hx hb dX8_at_30 ?_
      refine lv_topi (fun v5 ev5 => ?_)
      have jv5 : 0 ≤ v5.toInt ∧ v5.toInt ≤ 255 := h_andn 255 (by decide) ev5
      have mv5 := h_and255 ev5
      refine lv_goto (tgt := 35) hx hb dX8_at_31 (by decide) ?_
      exact W.iret (v := v5) hx hb hr (fun t ht hW => ⟨v5, rfl, ⟨⟨(by omega), (by omega)⟩, (by rw [abt, qf0_1]; unfold q_at; rw [if_pos (by omega), ← h_keq (i := x) (t := x_t) (k := x_t.toNat) h_x (by omega) (by omega), ← ev4]; exact mv5)⟩, ht⟩) (fun _ h => by cases h) dX8_at_35
set_option maxHeartbeats 4000000 in
set_option maxRecDepth 100000 in
theorem tX4_isBlankF (l : Launch) (E : tE) (X : tX) (A : Nat → Prop) (z : tZ) (I0 : tI) (L0 : tL) (x : Int32) (x_t : Int) (h_x : x.toInt = x_t) : Met l yX4_isBlank wsX4_isBlank ({ frames := 1, cells := 0, slots := 0, locals := 64 }) (va_Pc [.int x] (h_P E X A z I0 L0)) (vp_Si (fun r => ((r = 0 ∧ ¬ ((x_t = 32 ∨ x_t = 10))) ∨ (r = 1 ∧ (x_t = 32 ∨ x_t = 10))))) 0 0 (fun _ => False) := by
  refine Met.ofW (cc := cX4_isBlank) (maxL := 1) (ret := (some .boolean)) (by decide) rfl ?_
  intro pr_ ev_ s m args below meth cd_ s₁ B hml hv
  obtain ⟨rfl, hE, hk, hX, hA, hK, hI, hR, hB0⟩ := hv
  have g : h_G h_so h_fk E A z I0 L0 s s.heap s.heap [] := ⟨hK, va_S.rf, hB0⟩
  have hx := B.exec
  have hb := B.bytes
  have hr := B.returns
  have hts := atoms_spec (ws := wsX4_isBlank) B.pre
  have hown : s.vm.findClass RX4 = some m.cls := findClass_of_methodNamed B.named
  have hlocks := B.notSynchronized
  have hl := lv_entry ([.int x]) (n := 1) (Nat.le_of_ble_eq_true rfl)
  rw [lg_entry_eq]
  generalize (lg_sl ([.int x]) ++ List.replicate (1 - (lg_sl ([.int x])).length) Slot.unset).toArray = ls at hl ⊢
  have hl : lv_has ls 1 [(0, .int x)] := hl
  have b_x : -2147483648 ≤ x_t ∧ x_t ≤ 2147483647 := h_x ▸ ⟨xi_lo x, Int.le_of_lt_add_one (xi_hi x)⟩
  refine lv_iload_n hx hb dX4_isBlank_0 rfl (lv_at hl 0 rfl) ?_
  refine lv_bipush (v := 32) hx hb dX4_isBlank_1 (by decide) ?_
  refine lv_icmp_eq (tgt := 12) hx hb dX4_isBlank_3 (by decide) (fun c1 => ?_) (fun c1 => ?_)
  · have ic1 := (xi_eq c1 h_x (by decide) : x_t = 32)
    refine lv_iconst (v := 1) hx hb dX4_isBlank_12 (by decide) ?_
    refine lv_goto (tgt := 17) hx hb dX4_isBlank_13 (by decide) ?_
    exact W.zret (v := 1) hx hb hr (by decide) (fun t ht hW => ⟨1, rfl, (by exact Or.inr (⟨rfl, by omega⟩)), ht⟩) (fun _ h => by cases h) dX4_isBlank_17
  · have ic1 := (xi_ne c1 h_x (by decide) : x_t ≠ 32)
    refine lv_iload_n hx hb dX4_isBlank_6 rfl (lv_at hl 0 rfl) ?_
    refine lv_bipush (v := 10) hx hb dX4_isBlank_7 (by decide) ?_
    refine lv_icmp_ne (tgt := 16) hx hb dX4_isBlank_9 (by decide) (fun c2 => ?_) (fun c2 => ?_)
    · have ic2 := (xi_ne c2 h_x (by decide) : x_t ≠ 10)
      refine lv_iconst (v := 0) hx hb dX4_isBlank_16 (by decide) ?_
      exact W.zret (v := 0) hx hb hr (by decide) (fun t ht hW => ⟨0, rfl, (by exact Or.inl ⟨rfl, by omega⟩), ht⟩) (fun _ h => by cases h) dX4_isBlank_17
    · have ic2 := (xi_eq c2 h_x (by decide) : x_t = 10)
      refine lv_iconst (v := 1) hx hb dX4_isBlank_12 (by decide) ?_
      refine lv_goto (tgt := 17) hx hb dX4_isBlank_13 (by decide) ?_
      exact W.zret (v := 1) hx hb hr (by decide) (fun t ht hW => ⟨1, rfl, (by exact Or.inr (⟨rfl, by omega⟩)), ht⟩) (fun _ h => by cases h) dX4_isBlank_17
set_option maxHeartbeats 4000000 in
set_option maxRecDepth 100000 in
theorem tX4_isLetterF (l : Launch) (E : tE) (X : tX) (A : Nat → Prop) (z : tZ) (I0 : tI) (L0 : tL) (x : Int32) (x_t : Int) (h_x : x.toInt = x_t) : Met l yX4_isLetter wsX4_isLetter ({ frames := 1, cells := 0, slots := 0, locals := 64 }) (va_Pc [.int x] (h_P E X A z I0 L0)) (vp_Si (fun r => ((r = 0 ∧ ¬ (97 ≤ x_t ∧ x_t ≤ 122)) ∨ (r = 1 ∧ 97 ≤ x_t ∧ x_t ≤ 122)))) 0 0 (fun _ => False) := by
  refine Met.ofW (cc := cX4_isLetter) (maxL := 1) (ret := (some .boolean)) (by decide) rfl ?_
  intro pr_ ev_ s m args below meth cd_ s₁ B hml hv
  obtain ⟨rfl, hE, hk, hX, hA, hK, hI, hR, hB0⟩ := hv
  have g : h_G h_so h_fk E A z I0 L0 s s.heap s.heap [] := ⟨hK, va_S.rf, hB0⟩
  have hx := B.exec
  have hb := B.bytes
  have hr := B.returns
  have hts := atoms_spec (ws := wsX4_isLetter) B.pre
  have hown : s.vm.findClass RX4 = some m.cls := findClass_of_methodNamed B.named
  have hlocks := B.notSynchronized
  have hl := lv_entry ([.int x]) (n := 1) (Nat.le_of_ble_eq_true rfl)
  rw [lg_entry_eq]
  generalize (lg_sl ([.int x]) ++ List.replicate (1 - (lg_sl ([.int x])).length) Slot.unset).toArray = ls at hl ⊢
  have hl : lv_has ls 1 [(0, .int x)] := hl
  have b_x : -2147483648 ≤ x_t ∧ x_t ≤ 2147483647 := h_x ▸ ⟨xi_lo x, Int.le_of_lt_add_one (xi_hi x)⟩
  refine lv_iload_n hx hb dX4_isLetter_0 rfl (lv_at hl 0 rfl) ?_
  refine lv_bipush (v := 97) hx hb dX4_isLetter_1 (by decide) ?_
  refine lv_icmp_lt (tgt := 16) hx hb dX4_isLetter_3 (by decide) (fun c1 => ?_) (fun c1 => ?_)
  · have ic1 := (xi_lt c1 h_x (by decide) : x_t < 97)
    refine lv_iconst (v := 0) hx hb dX4_isLetter_16 (by decide) ?_
    exact W.zret (v := 0) hx hb hr (by decide) (fun t ht hW => ⟨0, rfl, (by exact Or.inl ⟨rfl, by omega⟩), ht⟩) (fun _ h => by cases h) dX4_isLetter_17
  · have ic1 := (xi_nlt c1 h_x (by decide) : 97 ≤ x_t)
    refine lv_iload_n hx hb dX4_isLetter_6 rfl (lv_at hl 0 rfl) ?_
    refine lv_bipush (v := 122) hx hb dX4_isLetter_7 (by decide) ?_
    refine lv_icmp_gt (tgt := 16) hx hb dX4_isLetter_9 (by decide) (fun c2 => ?_) (fun c2 => ?_)
    · have ic2 := (xi_lt c2 (by decide) h_x : 122 < x_t)
      refine lv_iconst (v := 0) hx hb dX4_isLetter_16 (by decide) ?_
      exact W.zret (v := 0) hx hb hr (by decide) (fun t ht hW => ⟨0, rfl, (by exact Or.inl ⟨rfl, by omega⟩), ht⟩) (fun _ h => by cases h) dX4_isLetter_17
    · have ic2 := (xi_nlt c2 (by decide) h_x : x_t ≤ 122)
      refine lv_iconst (v := 1) hx hb dX4_isLetter_12 (by decide) ?_
      refine lv_goto (tgt := 17) hx hb dX4_isLetter_13 (by decide) ?_
      exact W.zret (v := 1) hx hb hr (by decide) (fun t ht hW => ⟨1, rfl, (by exact Or.inr (⟨rfl, by omega⟩)), ht⟩) (fun _ h => by cases h) dX4_isLetter_17
set_option maxHeartbeats 4000000 in
set_option maxRecDepth 100000 in
theorem tX4_isDigitF (l : Launch) (E : tE) (X : tX) (A : Nat → Prop) (z : tZ) (I0 : tI) (L0 : tL) (x : Int32) (x_t : Int) (h_x : x.toInt = x_t) : Met l yX4_isDigit wsX4_isDigit ({ frames := 1, cells := 0, slots := 0, locals := 64 }) (va_Pc [.int x] (h_P E X A z I0 L0)) (vp_Si (fun r => ((r = 0 ∧ ¬ (48 ≤ x_t ∧ x_t ≤ 57)) ∨ (r = 1 ∧ 48 ≤ x_t ∧ x_t ≤ 57)))) 0 0 (fun _ => False) := by
  refine Met.ofW (cc := cX4_isDigit) (maxL := 1) (ret := (some .boolean)) (by decide) rfl ?_
  intro pr_ ev_ s m args below meth cd_ s₁ B hml hv
  obtain ⟨rfl, hE, hk, hX, hA, hK, hI, hR, hB0⟩ := hv
  have g : h_G h_so h_fk E A z I0 L0 s s.heap s.heap [] := ⟨hK, va_S.rf, hB0⟩
  have hx := B.exec
  have hb := B.bytes
  have hr := B.returns
  have hts := atoms_spec (ws := wsX4_isDigit) B.pre
  have hown : s.vm.findClass RX4 = some m.cls := findClass_of_methodNamed B.named
  have hlocks := B.notSynchronized
  have hl := lv_entry ([.int x]) (n := 1) (Nat.le_of_ble_eq_true rfl)
  rw [lg_entry_eq]
  generalize (lg_sl ([.int x]) ++ List.replicate (1 - (lg_sl ([.int x])).length) Slot.unset).toArray = ls at hl ⊢
  have hl : lv_has ls 1 [(0, .int x)] := hl
  have b_x : -2147483648 ≤ x_t ∧ x_t ≤ 2147483647 := h_x ▸ ⟨xi_lo x, Int.le_of_lt_add_one (xi_hi x)⟩
  refine lv_iload_n hx hb dX4_isDigit_0 rfl (lv_at hl 0 rfl) ?_
  refine lv_bipush (v := 48) hx hb dX4_isDigit_1 (by decide) ?_
  refine lv_icmp_lt (tgt := 16) hx hb dX4_isDigit_3 (by decide) (fun c1 => ?_) (fun c1 => ?_)
  · have ic1 := (xi_lt c1 h_x (by decide) : x_t < 48)
    refine lv_iconst (v := 0) hx hb dX4_isDigit_16 (by decide) ?_
    exact W.zret (v := 0) hx hb hr (by decide) (fun t ht hW => ⟨0, rfl, (by exact Or.inl ⟨rfl, by omega⟩), ht⟩) (fun _ h => by cases h) dX4_isDigit_17
  · have ic1 := (xi_nlt c1 h_x (by decide) : 48 ≤ x_t)
    refine lv_iload_n hx hb dX4_isDigit_6 rfl (lv_at hl 0 rfl) ?_
    refine lv_bipush (v := 57) hx hb dX4_isDigit_7 (by decide) ?_
    refine lv_icmp_gt (tgt := 16) hx hb dX4_isDigit_9 (by decide) (fun c2 => ?_) (fun c2 => ?_)
    · have ic2 := (xi_lt c2 (by decide) h_x : 57 < x_t)
      refine lv_iconst (v := 0) hx hb dX4_isDigit_16 (by decide) ?_
      exact W.zret (v := 0) hx hb hr (by decide) (fun t ht hW => ⟨0, rfl, (by exact Or.inl ⟨rfl, by omega⟩), ht⟩) (fun _ h => by cases h) dX4_isDigit_17
    · have ic2 := (xi_nlt c2 (by decide) h_x : x_t ≤ 57)
      refine lv_iconst (v := 1) hx hb dX4_isDigit_12 (by decide) ?_
      refine lv_goto (tgt := 17) hx hb dX4_isDigit_13 (by decide) ?_
      exact W.zret (v := 1) hx hb hr (by decide) (fun t ht hW => ⟨1, rfl, (by exact Or.inr (⟨rfl, by omega⟩)), ht⟩) (fun _ h => by cases h) dX4_isDigit_17
set_option maxHeartbeats 4000000 in
set_option maxRecDepth 100000 in
theorem tX4_readWordF (l : Launch) (E : tE) (X : tX) (A : Nat → Prop) (z : tZ) (I0 : tI) (L0 : tL) (a0 : Nat) (t_a0 : z.ty a0 = 5) (hp : 0 ≤ (I0 a0 5).toInt ∧ (I0 a0 5).toInt ≤ 500) : Met l yX4_readWord wsX4_readWord ({ frames := 2, cells := 0, slots := 0, locals := 128 }) (va_Pc [.ref a0] (h_P E X A z I0 L0)) (va_Qv (fun (I1 : tI) => h_I z I1 ∧ h_F [(5, 4), (5, 6)] z I0 I1 ∧ ((I0 a0 5).toInt ≤ (I1 a0 6).toInt ∧ (I1 a0 6).toInt ≤ 500) ∧ (∀ j : Int, (I0 a0 5).toInt ≤ j → j < (I1 a0 6).toInt → q_L ((q_at (I0 (h_ad z (h_ad z a0 0) 0)) (I0 (h_ad z a0 0) 1).toInt) j) = true) ∧ (q_L ((q_at (I0 (h_ad z (h_ad z a0 0) 0)) (I0 (h_ad z a0 0) 1).toInt) (I1 a0 6).toInt) = false) ∧ ((I1 a0 4).toInt = 1)) (fun (I1 : tI) t => h_B E A z I1 L0 t) A) 0 0 A := by
  refine Met.ofW (cc := cX4_readWord) (maxL := 1) (ret := none) (by decide) rfl ?_
  intro pr_ ev_ s m args below meth cd_ s₁ B hml hv
  obtain ⟨rfl, hE, hk, hX, hA, hK, hI, hR, hB0⟩ := hv
  have g : h_G h_so h_fk E A z I0 L0 s s.heap s.heap [] := ⟨hK, va_S.rf, hB0⟩
  have hF : h_F [(5, 4), (5, 6)] z I0 I0 := h_F.rf
  have hx := B.exec
  have hb := B.bytes
  have hr := B.returns
  have hts := atoms_spec (ws := wsX4_readWord) B.pre
  have hown : s.vm.findClass RX4 = some m.cls := findClass_of_methodNamed B.named
  have hlocks := B.notSynchronized
  have iX4 : ∀ w ∈ u_ws RX4 TX4 9, w ∈ wsX4_readWord := by decide +kernel
  have iX8 : ∀ w ∈ u_ws RX8 TX8 2, w ∈ wsX4_readWord := by decide +kernel
  have hl := lv_entry ([.ref a0]) (n := 1) (Nat.le_of_ble_eq_true rfl)
  rw [lg_entry_eq]
  generalize (lg_sl ([.ref a0]) ++ List.replicate (1 - (lg_sl ([.ref a0])).length) Slot.unset).toArray = ls at hl ⊢
  have hl : lv_has ls 1 [(0, .ref a0)] := hl
  obtain ⟨tp, rtp, ttp⟩ := hR.at a0 0 t_a0 (rfl : h_rs 5 0 = some (9, false)) (by decide)
  have atp : h_ad z a0 0 = tp := h_ad.at rtp
  obtain ⟨bt, rbt, tbt⟩ := hR.at tp 0 ttp (rfl : h_rs 9 0 = some (900, false)) (by decide)
  have abt : h_ad z tp 0 = bt := h_ad.at rbt
  obtain ⟨n_1, en_1⟩ : ∃ v : Int32, v = I0 tp 1 := ⟨_, rfl⟩
  have qn_1 : (I0 tp 1).toInt = n_1.toInt := congrArg Int32.toInt en_1.symm
  have jn_1 := hI.rd tp 1 ttp en_1 (rfl : h_bd 9 1 = (0, 500))
  obtain ⟨gb, egb⟩ : ∃ g : Int → Int, g = q_at (I0 bt) (I0 tp 1).toInt := ⟨_, rfl⟩
  obtain ⟨f0_5, ef0_5⟩ : ∃ v : Int32, v = I0 a0 5 := ⟨_, rfl⟩
  have qf0_5 : (I0 a0 5).toInt = f0_5.toInt := congrArg Int32.toInt ef0_5.symm
  have jf0_5 := hI.rd a0 5 t_a0 ef0_5 (rfl : h_bd 5 5 = ((-2147483648), 2147483647))
  rw [qf0_5] at hp
  refine lv_aload_n hx hb dX4_readWord_0 rfl (lv_at hl 0 rfl) ?_
  refine lv_iconst (v := 1) hx hb dX4_readWord_1 (by decide) ?_
  refine h_putI (ty := .int) (v := 1) hx hb hts iX4 tyX4 tyX4_ok nmX4 hown g t_a0 (by decide) so_5 rfl 4 (by decide) rfl (hts (.fieldLink RX4 43 "CapLeague$LawReader" "kind" "I") (by decide +kernel)) rfl rfl (by decide +kernel) rfl rfl dX4_readWord_2 (fun I1 H locs eI1 g => ?_)
  have hI := hI.wr eI1 t_a0 (rfl : h_bd 5 4 = ((-2147483648), 2147483647)) (by decide) (by decide)
  have hF := hF.wr eI1 t_a0 rfl
  refine lv_aload_n hx hb dX4_readWord_5 rfl (lv_at hl 0 rfl) ?_
  refine lv_aload_n hx hb dX4_readWord_6 rfl (lv_at hl 0 rfl) ?_
  refine h_get (v := .int f0_5) hx hb hts iX4 hown g t_a0 (by decide) so_5 rfl 5 (by decide) (hts (.fieldLink RX4 84 "CapLeague$LawReader" "place" "I") (by decide +kernel)) rfl dX4_readWord_7 (congrArg Value.int ((h_n2 eI1 (by decide)).trans (ef0_5.symm))) ?_
  refine h_putI (ty := .int) (v := f0_5) hx hb hts iX4 tyX4 tyX4_ok nmX4 hown g t_a0 (by decide) so_5 rfl 6 (by decide) rfl (hts (.fieldLink RX4 32 "CapLeague$LawReader" "behind" "I") (by decide +kernel)) rfl rfl (by decide +kernel) rfl rfl dX4_readWord_10 (fun I2 H locs eI2 g => ?_)
  have hI := hI.wr eI2 t_a0 (rfl : h_bd 5 6 = ((-2147483648), 2147483647)) (xi_lo _) (Int.le_of_lt_add_one (xi_hi _))
  have hF := hF.wr eI2 t_a0 rfl
  have loop13_0 : ∀ (n : Nat) (I3 : tI) (H : Heap) (locs : List Loc) (ls : Array Slot), h_G h_so h_fk E A z I3 L0 s s.heap H locs → h_I z I3 → h_F [(5, 4), (5, 6)] z I0 I3 → lv_has ls 1 [(0, .ref a0)] → h_F [(5, 6)] z I2 I3 → (f0_5.toInt ≤ (I3 a0 6).toInt ∧ (I3 a0 6).toInt ≤ 500) → (∀ j : Int, f0_5.toInt ≤ j → j < (I3 a0 6).toInt → q_L (gb j) = true) → (501 - (I3 a0 6).toInt) < (n : Int) → W pr_ l ev_ (headSpec wsX4_readWord ({ frames := 2, cells := 0, slots := 0, locals := 128 })).room s m ([.ref a0] : List Value).toArray below meth cd_ H locs 0 0 (MQ below (va_Qv (fun (I1 : tI) => h_I z I1 ∧ h_F [(5, 4), (5, 6)] z I0 I1 ∧ ((I0 a0 5).toInt ≤ (I1 a0 6).toInt ∧ (I1 a0 6).toInt ≤ 500) ∧ (∀ j : Int, (I0 a0 5).toInt ≤ j → j < (I1 a0 6).toInt → q_L ((q_at (I0 (h_ad z (h_ad z a0 0) 0)) (I0 (h_ad z a0 0) 1).toInt) j) = true) ∧ (q_L ((q_at (I0 (h_ad z (h_ad z a0 0) 0)) (I0 (h_ad z a0 0) 1).toInt) (I1 a0 6).toInt) = false) ∧ ((I1 a0 4).toInt = 1)) (fun (I1 : tI) t => h_B E A z I1 L0 t) A) ([.ref a0] : List Value).toArray s 0 0 A) (F0 m 13 ls []) := by
    intro n
    induction n with
    | zero => intro I3 H locs ls g hI hF hl hL13 hx13_0 hx13_1 hn; exact absurd hn (by omega)
    | succ n ih13 =>
      intro I3 H locs ls g hI hF hl hL13 hx13_0 hx13_1 hn
      obtain ⟨v4, ev4⟩ : ∃ v : Int32, v = I3 a0 6 := ⟨_, rfl⟩
      rw [← ev4] at hx13_0 hx13_1 hn
      have jv4 := hI.rd a0 6 t_a0 ev4 (rfl : h_bd 5 6 = ((-2147483648), 2147483647))
      refine lv_aload_n hx hb dX4_readWord_13 rfl (lv_at hl 0 rfl) ?_
      refine h_get (v := .int v4) hx hb hts iX4 hown g t_a0 (by decide) so_5 rfl 6 (by decide) (hts (.fieldLink RX4 32 "CapLeague$LawReader" "behind" "I") (by decide +kernel)) rfl dX4_readWord_14 (congrArg Value.int (ev4.symm)) ?_
      refine lv_aload_n hx hb dX4_readWord_17 rfl (lv_at hl 0 rfl) ?_
      refine h_get (v := .ref tp) hx hb hts iX4 hown g t_a0 (by decide) so_5 rfl 0 (by decide) (hts (.fieldLink RX4 22 "CapLeague$LawReader" "tape" "LCapLeague$Tape;") (by decide +kernel)) rfl dX4_readWord_18 (by show va_rf (z.R a0 0) = _; rw [rtp]; rfl) ?_
      refine h_get (v := .int n_1) hx hb hts iX8 hown g ttp (by decide) so_9 rfl 1 (by decide) (hts (.fieldLink RX4 87 "CapLeague$Tape" "size" "I") (by decide +kernel)) rfl dX4_readWord_21 (congrArg Value.int ((h_F.at hL13 ttp rfl).trans ((h_n1 eI2 ttp t_a0 (by decide)).trans ((h_n1 eI1 ttp t_a0 (by decide)).trans (en_1.symm))))) ?_
      refine lv_icmp_ge (tgt := 57) hx hb dX4_readWord_24 (by decide) (fun c5 => ?_) (fun c5 => ?_)
      · have ic5 := (xi_le c5 rfl rfl : n_1.toInt ≤ v4.toInt)
        have gv : gb v4.toInt = -1 := by rw [egb]; exact q_at_ge (by rw [qn_1]; omega)
        have hS := g.2.1
        exact W.vret hx hb hr (fun t ht hW => ⟨⟨I3, rfl, ⟨hI, hF, ⟨(by rw [qf0_5, show I3 a0 6 = v4 from ev4.symm]; omega), (by rw [atp, abt, ← egb, qf0_5, show I3 a0 6 = v4 from ev4.symm]; exact hx13_1), (by rw [atp, abt, ← egb, show I3 a0 6 = v4 from ev4.symm]; exact q_L_f (by omega)), (by rw [show I3 a0 4 = 1 from (h_F.at hL13 t_a0 rfl).trans ((h_n2 eI2 (by decide)).trans (h_n0 eI1))]; decide)⟩⟩, h_ret g ht⟩, hS.F ht⟩) hS.2.2 dX4_readWord_57
      · have ic5 := (xi_nle c5 rfl rfl : v4.toInt < n_1.toInt)
        refine lv_aload_n hx hb dX4_readWord_27 rfl (lv_at hl 0 rfl) ?_
        refine h_get (v := .ref tp) hx hb hts iX4 hown g t_a0 (by decide) so_5 rfl 0 (by decide) (hts (.fieldLink RX4 22 "CapLeague$LawReader" "tape" "LCapLeague$Tape;") (by decide +kernel)) rfl dX4_readWord_28 (by show va_rf (z.R a0 0) = _; rw [rtp]; rfl) ?_
        refine lv_aload_n hx hb dX4_readWord_31 rfl (lv_at hl 0 rfl) ?_
        refine h_get (v := .int v4) hx hb hts iX4 hown g t_a0 (by decide) so_5 rfl 6 (by decide) (hts (.fieldLink RX4 32 "CapLeague$LawReader" "behind" "I") (by decide +kernel)) rfl dX4_readWord_32 (congrArg Value.int (ev4.symm)) ?_
        refine vp_callSi (W.runV (As := [.int v4]) (rest := []) ⟨hx, hb, hml, hown, hts⟩ (tX8_atF l E X A z I3 L0 tp ttp v4 (v4.toInt) rfl) (cwV 1 hts gX4_readWord_X8_at rfl rfl rfl (by decide +kernel) ⟨Nat.le_of_ble_eq_true rfl, Nat.le_of_ble_eq_true rfl⟩) ⟨h_blind _ _ _ _ _ _ _, h_recv g ttp (by decide) so_9 (q := (RX8, TX8, 2)) rfl, h_pre _ hE hk hX hA hI hR g⟩ rfl rfl hl.1 rfl (lv_room (Nat.le_of_ble_eq_true rfl)) dX4_readWord_35 ⟨Nat.le_of_ble_eq_true rfl, Nat.le_of_ble_eq_true rfl⟩) (fun rh6 h6 => ?_)
        obtain ⟨h6, h6p0⟩ := h6
        rw [abt, show I3 bt = I0 bt from funext (fun k => hF.at tbt rfl), show I3 tp 1 = I0 tp 1 from hF.at ttp rfl, ← egb] at h6p0
        refine vp_callSi (W.runS (As := [.int rh6]) (rest := []) ⟨hx, hb, hml, hown, hts⟩ (tX4_isLetterF l E X A z I3 L0 rh6 (rh6.toInt) rfl) (va_cwS 1 hts gX4_readWord_X4_isLetter rfl rfl rfl (by decide +kernel) ⟨Nat.le_of_ble_eq_true rfl, Nat.le_of_ble_eq_true rfl⟩) ⟨h_blind _ _ _ _ _ _ _, h_pre _ hE hk hX hA hI hR g⟩ rfl rfl hl.1 rfl (lv_room (Nat.le_of_ble_eq_true rfl)) dX4_readWord_38 ⟨Nat.le_of_ble_eq_true rfl, Nat.le_of_ble_eq_true rfl⟩) (fun rh7 h7 => ?_)
        rcases h7 with ⟨rfl, h7⟩ | ⟨rfl, h7⟩
        · skip
          refine lv_if_eq (tgt := 57) hx hb dX4_readWord_41 (by decide) (fun _ => ?_) (fun h => absurd (by decide) h)
          have hS := g.2.1
          exact W.vret hx hb hr (fun t ht hW => ⟨⟨I3, rfl, ⟨hI, hF, ⟨(by rw [qf0_5, show I3 a0 6 = v4 from ev4.symm]; omega), (by rw [atp, abt, ← egb, qf0_5, show I3 a0 6 = v4 from ev4.symm]; exact hx13_1), (by rw [atp, abt, ← egb, show I3 a0 6 = v4 from ev4.symm]; exact q_L_f (by omega)), (by rw [show I3 a0 4 = 1 from (h_F.at hL13 t_a0 rfl).trans ((h_n2 eI2 (by decide)).trans (h_n0 eI1))]; decide)⟩⟩, h_ret g ht⟩, hS.F ht⟩) hS.2.2 dX4_readWord_57
        · skip
          refine lv_if_eq (tgt := 57) hx hb dX4_readWord_41 (by decide) (fun h => absurd h (by decide)) (fun _ => ?_)
          refine lv_aload_n hx hb dX4_readWord_44 rfl (lv_at hl 0 rfl) ?_
          refine lv_dup hx hb dX4_readWord_45 rfl ?_
          refine h_get (v := .int v4) hx hb hts iX4 hown g t_a0 (by decide) so_5 rfl 6 (by decide) (hts (.fieldLink RX4 32 "CapLeague$LawReader" "behind" "I") (by decide +kernel)) rfl dX4_readWord_46 (congrArg Value.int (ev4.symm)) ?_
          refine lv_iconst (v := 1) hx hb dX4_readWord_49 (by decide) ?_
          refine lv_iadd hx hb dX4_readWord_50 ?_
          refine lv_topi (fun v10 ev10 => ?_)
          have jv10 : v10.toInt = v4.toInt + 1 := xi_add ev10 rfl (by decide) (by omega) (by omega)
          refine h_putI (ty := .int) (v := v10) hx hb hts iX4 tyX4 tyX4_ok nmX4 hown g t_a0 (by decide) so_5 rfl 6 (by decide) rfl (hts (.fieldLink RX4 32 "CapLeague$LawReader" "behind" "I") (by decide +kernel)) rfl rfl (by decide +kernel) rfl rfl dX4_readWord_51 (fun I11 H locs eI11 g => ?_)
          have hI := hI.wr eI11 t_a0 (rfl : h_bd 5 6 = ((-2147483648), 2147483647)) (xi_lo _) (Int.le_of_lt_add_one (xi_hi _))
          have hF := hF.wr eI11 t_a0 rfl
          refine lv_goto (tgt := 13) hx hb dX4_readWord_54 (by decide) ?_
          have k12 : (I11 a0 6).toInt = v10.toInt := (congrArg Int32.toInt (h_n0 eI11)).trans rfl
          exact ih13 I11 _ _ _ g hI hF (lv_sub hl [0] rfl) (h_F.wr (h_F.call (h_F.rf : h_F [(5, 6)] z I2 I2) hL13 rfl) eI11 t_a0 rfl) (by omega) (q_more hx13_1 (q_L_t (by omega)) (by omega)) (by omega)
  have k13 : (I2 a0 6).toInt = f0_5.toInt := (congrArg Int32.toInt (h_n0 eI2)).trans rfl
  exact loop13_0 _ I2 _ _ _ g hI hF (lv_sub hl [0] rfl) (h_F.rf : h_F [(5, 6)] z I2 I2) (by omega) (q_none (by omega)) (show (501 - (I2 a0 6).toInt) < (((501 - (I2 a0 6).toInt).toNat + 1 : Nat) : Int) by omega)
set_option maxHeartbeats 4000000 in
set_option maxRecDepth 100000 in
theorem tX4_readNumberF (l : Launch) (E : tE) (X : tX) (A : Nat → Prop) (z : tZ) (I0 : tI) (L0 : tL) (a0 : Nat) (t_a0 : z.ty a0 = 5) (hp : 0 ≤ (I0 a0 5).toInt ∧ (I0 a0 5).toInt ≤ 500) : Met l yX4_readNumber wsX4_readNumber ({ frames := 2, cells := 0, slots := 0, locals := 128 }) (va_Pc [.ref a0] (h_P E X A z I0 L0)) (va_Qv (fun (I1 : tI) => h_I z I1 ∧ h_F [(5, 4), (5, 6), (5, 7)] z I0 I1 ∧ ((I0 a0 5).toInt ≤ (I1 a0 6).toInt ∧ (I1 a0 6).toInt ≤ 500) ∧ (∀ j : Int, (I0 a0 5).toInt ≤ j → j < (I1 a0 6).toInt → q_D ((q_at (I0 (h_ad z (h_ad z a0 0) 0)) (I0 (h_ad z a0 0) 1).toInt) j) = true) ∧ (q_D ((q_at (I0 (h_ad z (h_ad z a0 0) 0)) (I0 (h_ad z a0 0) 1).toInt) (I1 a0 6).toInt) = false) ∧ (((I1 a0 6).toInt - (I0 a0 5).toInt ≤ 5 ∧ (I1 a0 4).toInt = 2 ∧ (I1 a0 7).toInt = q_dec (q_at (I0 (h_ad z (h_ad z a0 0) 0)) (I0 (h_ad z a0 0) 1).toInt) (I0 a0 5).toInt ((I1 a0 6).toInt - (I0 a0 5).toInt).toNat) ∨ (5 < (I1 a0 6).toInt - (I0 a0 5).toInt ∧ (I1 a0 4).toInt = 4))) (fun (I1 : tI) t => h_B E A z I1 L0 t) A) 0 0 A := by
  refine Met.ofW (cc := cX4_readNumber) (maxL := 1) (ret := none) (by decide) rfl ?_
  intro pr_ ev_ s m args below meth cd_ s₁ B hml hv
  obtain ⟨rfl, hE, hk, hX, hA, hK, hI, hR, hB0⟩ := hv
  have g : h_G h_so h_fk E A z I0 L0 s s.heap s.heap [] := ⟨hK, va_S.rf, hB0⟩
  have hF : h_F [(5, 4), (5, 6), (5, 7)] z I0 I0 := h_F.rf
  have hx := B.exec
  have hb := B.bytes
  have hr := B.returns
  have hts := atoms_spec (ws := wsX4_readNumber) B.pre
  have hown : s.vm.findClass RX4 = some m.cls := findClass_of_methodNamed B.named
  have hlocks := B.notSynchronized
  have iX4 : ∀ w ∈ u_ws RX4 TX4 9, w ∈ wsX4_readNumber := by decide +kernel
  have iX8 : ∀ w ∈ u_ws RX8 TX8 2, w ∈ wsX4_readNumber := by decide +kernel
  have hl := lv_entry ([.ref a0]) (n := 1) (Nat.le_of_ble_eq_true rfl)
  rw [lg_entry_eq]
  generalize (lg_sl ([.ref a0]) ++ List.replicate (1 - (lg_sl ([.ref a0])).length) Slot.unset).toArray = ls at hl ⊢
  have hl : lv_has ls 1 [(0, .ref a0)] := hl
  obtain ⟨tp, rtp, ttp⟩ := hR.at a0 0 t_a0 (rfl : h_rs 5 0 = some (9, false)) (by decide)
  have atp : h_ad z a0 0 = tp := h_ad.at rtp
  obtain ⟨bt, rbt, tbt⟩ := hR.at tp 0 ttp (rfl : h_rs 9 0 = some (900, false)) (by decide)
  have abt : h_ad z tp 0 = bt := h_ad.at rbt
  obtain ⟨n_1, en_1⟩ : ∃ v : Int32, v = I0 tp 1 := ⟨_, rfl⟩
  have qn_1 : (I0 tp 1).toInt = n_1.toInt := congrArg Int32.toInt en_1.symm
  have jn_1 := hI.rd tp 1 ttp en_1 (rfl : h_bd 9 1 = (0, 500))
  obtain ⟨gb, egb⟩ : ∃ g : Int → Int, g = q_at (I0 bt) (I0 tp 1).toInt := ⟨_, rfl⟩
  obtain ⟨f0_5, ef0_5⟩ : ∃ v : Int32, v = I0 a0 5 := ⟨_, rfl⟩
  have qf0_5 : (I0 a0 5).toInt = f0_5.toInt := congrArg Int32.toInt ef0_5.symm
  have jf0_5 := hI.rd a0 5 t_a0 ef0_5 (rfl : h_bd 5 5 = ((-2147483648), 2147483647))
  rw [qf0_5] at hp
  refine lv_aload_n hx hb dX4_readNumber_0 rfl (lv_at hl 0 rfl) ?_
  refine lv_aload_n hx hb dX4_readNumber_1 rfl (lv_at hl 0 rfl) ?_
  refine h_get (v := .int f0_5) hx hb hts iX4 hown g t_a0 (by decide) so_5 rfl 5 (by decide) (hts (.fieldLink RX4 84 "CapLeague$LawReader" "place" "I") (by decide +kernel)) rfl dX4_readNumber_2 (congrArg Value.int (ef0_5.symm)) ?_
  refine h_putI (ty := .int) (v := f0_5) hx hb hts iX4 tyX4 tyX4_ok nmX4 hown g t_a0 (by decide) so_5 rfl 6 (by decide) rfl (hts (.fieldLink RX4 32 "CapLeague$LawReader" "behind" "I") (by decide +kernel)) rfl rfl (by decide +kernel) rfl rfl dX4_readNumber_5 (fun I1 H locs eI1 g => ?_)
  have hI := hI.wr eI1 t_a0 (rfl : h_bd 5 6 = ((-2147483648), 2147483647)) (xi_lo _) (Int.le_of_lt_add_one (xi_hi _))
  have hF := hF.wr eI1 t_a0 rfl
  refine lv_aload_n hx hb dX4_readNumber_8 rfl (lv_at hl 0 rfl) ?_
  refine lv_iconst (v := 0) hx hb dX4_readNumber_9 (by decide) ?_
  refine h_putI (ty := .int) (v := 0) hx hb hts iX4 tyX4 tyX4_ok nmX4 hown g t_a0 (by decide) so_5 rfl 7 (by decide) rfl (hts (.fieldLink RX4 67 "CapLeague$LawReader" "value" "I") (by decide +kernel)) rfl rfl (by decide +kernel) rfl rfl dX4_readNumber_10 (fun I2 H locs eI2 g => ?_)
  have hI := hI.wr eI2 t_a0 (rfl : h_bd 5 7 = ((-2147483648), 2147483647)) (by decide) (by decide)
  have hF := hF.wr eI2 t_a0 rfl
  have loop13_0 : ∀ (n : Nat) (I3 : tI) (H : Heap) (locs : List Loc) (ls : Array Slot), h_G h_so h_fk E A z I3 L0 s s.heap H locs → h_I z I3 → h_F [(5, 4), (5, 6), (5, 7)] z I0 I3 → lv_has ls 1 [(0, .ref a0)] → (f0_5.toInt ≤ (I3 a0 6).toInt ∧ (I3 a0 6).toInt ≤ 500) → (∀ j : Int, f0_5.toInt ≤ j → j < (I3 a0 6).toInt → q_D (gb j) = true) → ((I3 a0 6).toInt - f0_5.toInt ≤ 5 → (I3 a0 7).toInt = q_dec gb f0_5.toInt ((I3 a0 6).toInt - f0_5.toInt).toNat) → (501 - (I3 a0 6).toInt) < (n : Int) → W pr_ l ev_ (headSpec wsX4_readNumber ({ frames := 2, cells := 0, slots := 0, locals := 128 })).room s m ([.ref a0] : List Value).toArray below meth cd_ H locs 0 0 (MQ below (va_Qv (fun (I1 : tI) => h_I z I1 ∧ h_F [(5, 4), (5, 6), (5, 7)] z I0 I1 ∧ ((I0 a0 5).toInt ≤ (I1 a0 6).toInt ∧ (I1 a0 6).toInt ≤ 500) ∧ (∀ j : Int, (I0 a0 5).toInt ≤ j → j < (I1 a0 6).toInt → q_D ((q_at (I0 (h_ad z (h_ad z a0 0) 0)) (I0 (h_ad z a0 0) 1).toInt) j) = true) ∧ (q_D ((q_at (I0 (h_ad z (h_ad z a0 0) 0)) (I0 (h_ad z a0 0) 1).toInt) (I1 a0 6).toInt) = false) ∧ (((I1 a0 6).toInt - (I0 a0 5).toInt ≤ 5 ∧ (I1 a0 4).toInt = 2 ∧ (I1 a0 7).toInt = q_dec (q_at (I0 (h_ad z (h_ad z a0 0) 0)) (I0 (h_ad z a0 0) 1).toInt) (I0 a0 5).toInt ((I1 a0 6).toInt - (I0 a0 5).toInt).toNat) ∨ (5 < (I1 a0 6).toInt - (I0 a0 5).toInt ∧ (I1 a0 4).toInt = 4))) (fun (I1 : tI) t => h_B E A z I1 L0 t) A) ([.ref a0] : List Value).toArray s 0 0 A) (F0 m 13 ls []) := by
    intro n
    induction n with
    | zero => intro I3 H locs ls g hI hF hl hx13_0 hx13_1 hx13_2 hn; exact absurd hn (by omega)
    | succ n ih13 =>
      intro I3 H locs ls g hI hF hl hx13_0 hx13_1 hx13_2 hn
      obtain ⟨v4, ev4⟩ : ∃ v : Int32, v = I3 a0 6 := ⟨_, rfl⟩
      rw [← ev4] at hx13_0 hx13_1 hx13_2 hn
      have jv4 := hI.rd a0 6 t_a0 ev4 (rfl : h_bd 5 6 = ((-2147483648), 2147483647))
      obtain ⟨v5, ev5⟩ : ∃ v : Int32, v = I3 a0 7 := ⟨_, rfl⟩
      rw [← ev5] at hx13_2
      have jv5 := hI.rd a0 7 t_a0 ev5 (rfl : h_bd 5 7 = ((-2147483648), 2147483647))
      refine lv_aload_n hx hb dX4_readNumber_13 rfl (lv_at hl 0 rfl) ?_
      refine h_get (v := .int v4) hx hb hts iX4 hown g t_a0 (by decide) so_5 rfl 6 (by decide) (hts (.fieldLink RX4 32 "CapLeague$LawReader" "behind" "I") (by decide +kernel)) rfl dX4_readNumber_14 (congrArg Value.int (ev4.symm)) ?_
      refine lv_aload_n hx hb dX4_readNumber_17 rfl (lv_at hl 0 rfl) ?_
      refine h_get (v := .ref tp) hx hb hts iX4 hown g t_a0 (by decide) so_5 rfl 0 (by decide) (hts (.fieldLink RX4 22 "CapLeague$LawReader" "tape" "LCapLeague$Tape;") (by decide +kernel)) rfl dX4_readNumber_18 (by show va_rf (z.R a0 0) = _; rw [rtp]; rfl) ?_
      refine h_get (v := .int n_1) hx hb hts iX8 hown g ttp (by decide) so_9 rfl 1 (by decide) (hts (.fieldLink RX4 87 "CapLeague$Tape" "size" "I") (by decide +kernel)) rfl dX4_readNumber_21 (congrArg Value.int ((h_F.at hF ttp rfl).trans (en_1.symm))) ?_
      refine lv_icmp_ge (tgt := 83) hx hb dX4_readNumber_24 (by decide) (fun c6 => ?_) (fun c6 => ?_)
      · have ic6 := (xi_le c6 rfl rfl : n_1.toInt ≤ v4.toInt)
        refine lv_aload_n hx hb dX4_readNumber_83 rfl (lv_at hl 0 rfl) ?_
        refine lv_aload_n hx hb dX4_readNumber_84 rfl (lv_at hl 0 rfl) ?_
        refine h_get (v := .int v4) hx hb hts iX4 hown g t_a0 (by decide) so_5 rfl 6 (by decide) (hts (.fieldLink RX4 32 "CapLeague$LawReader" "behind" "I") (by decide +kernel)) rfl dX4_readNumber_85 (congrArg Value.int (ev4.symm)) ?_
        refine lv_aload_n hx hb dX4_readNumber_88 rfl (lv_at hl 0 rfl) ?_
        refine h_get (v := .int f0_5) hx hb hts iX4 hown g t_a0 (by decide) so_5 rfl 5 (by decide) (hts (.fieldLink RX4 84 "CapLeague$LawReader" "place" "I") (by decide +kernel)) rfl dX4_readNumber_89 (congrArg Value.int ((h_F.at hF t_a0 rfl).trans (ef0_5.symm))) ?_
        refine lv_isub hx hb dX4_readNumber_92 ?_
        refine lv_topi (fun v7 ev7 => ?_)
        have jv7 : v7.toInt = v4.toInt - f0_5.toInt := xi_sub ev7 rfl rfl (by omega) (by omega)
        refine lv_iconst (v := 5) hx hb dX4_readNumber_93 (by decide) ?_
        refine lv_icmp_gt (tgt := 101) hx hb dX4_readNumber_94 (by decide) (fun c8 => ?_) (fun c8 => ?_)
        · have ic8 := (xi_lt c8 (by decide) rfl : 5 < v7.toInt)
          refine lv_iconst (v := 4) hx hb dX4_readNumber_101 (by decide) ?_
          refine h_putI (ty := .int) (v := 4) hx hb hts iX4 tyX4 tyX4_ok nmX4 hown g t_a0 (by decide) so_5 rfl 4 (by decide) rfl (hts (.fieldLink RX4 43 "CapLeague$LawReader" "kind" "I") (by decide +kernel)) rfl rfl (by decide +kernel) rfl rfl dX4_readNumber_102 (fun I9 H locs eI9 g => ?_)
          have hI := hI.wr eI9 t_a0 (rfl : h_bd 5 4 = ((-2147483648), 2147483647)) (by decide) (by decide)
          have hF := hF.wr eI9 t_a0 rfl
          have gv : gb v4.toInt = -1 := by rw [egb]; exact q_at_ge (by rw [qn_1]; omega)
          have hS := g.2.1
          exact W.vret hx hb hr (fun t ht hW => ⟨⟨I9, rfl, ⟨hI, hF, ⟨(by rw [qf0_5, show I9 a0 6 = v4 from (h_n2 eI9 (by decide)).trans (ev4.symm)]; omega), (by rw [atp, abt, ← egb, qf0_5, show I9 a0 6 = v4 from (h_n2 eI9 (by decide)).trans (ev4.symm)]; exact hx13_1), (by rw [atp, abt, ← egb, show I9 a0 6 = v4 from (h_n2 eI9 (by decide)).trans (ev4.symm)]; exact q_D_f (by omega)), (by rw [atp, abt, ← egb, qf0_5, show I9 a0 6 = v4 from (h_n2 eI9 (by decide)).trans (ev4.symm), show I9 a0 4 = 4 from h_n0 eI9, show I9 a0 7 = v5 from (h_n2 eI9 (by decide)).trans (ev5.symm)]; exact Or.inr ⟨by omega, by decide⟩)⟩⟩, h_ret g ht⟩, hS.F ht⟩) hS.2.2 dX4_readNumber_105
        · have ic8 := (xi_nlt c8 (by decide) rfl : v7.toInt ≤ 5)
          refine lv_iconst (v := 2) hx hb dX4_readNumber_97 (by decide) ?_
          refine lv_goto (tgt := 102) hx hb dX4_readNumber_98 (by decide) ?_
          refine h_putI (ty := .int) (v := 2) hx hb hts iX4 tyX4 tyX4_ok nmX4 hown g t_a0 (by decide) so_5 rfl 4 (by decide) rfl (hts (.fieldLink RX4 43 "CapLeague$LawReader" "kind" "I") (by decide +kernel)) rfl rfl (by decide +kernel) rfl rfl dX4_readNumber_102 (fun I10 H locs eI10 g => ?_)
          have hI := hI.wr eI10 t_a0 (rfl : h_bd 5 4 = ((-2147483648), 2147483647)) (by decide) (by decide)
          have hF := hF.wr eI10 t_a0 rfl
          have gv : gb v4.toInt = -1 := by rw [egb]; exact q_at_ge (by rw [qn_1]; omega)
          have hS := g.2.1
          exact W.vret hx hb hr (fun t ht hW => ⟨⟨I10, rfl, ⟨hI, hF, ⟨(by rw [qf0_5, show I10 a0 6 = v4 from (h_n2 eI10 (by decide)).trans (ev4.symm)]; omega), (by rw [atp, abt, ← egb, qf0_5, show I10 a0 6 = v4 from (h_n2 eI10 (by decide)).trans (ev4.symm)]; exact hx13_1), (by rw [atp, abt, ← egb, show I10 a0 6 = v4 from (h_n2 eI10 (by decide)).trans (ev4.symm)]; exact q_D_f (by omega)), (by rw [atp, abt, ← egb, qf0_5, show I10 a0 6 = v4 from (h_n2 eI10 (by decide)).trans (ev4.symm), show I10 a0 4 = 2 from h_n0 eI10, show I10 a0 7 = v5 from (h_n2 eI10 (by decide)).trans (ev5.symm)]; exact Or.inl ⟨by omega, by decide, hx13_2 (by omega)⟩)⟩⟩, h_ret g ht⟩, hS.F ht⟩) hS.2.2 dX4_readNumber_105
      · have ic6 := (xi_nle c6 rfl rfl : v4.toInt < n_1.toInt)
        refine lv_aload_n hx hb dX4_readNumber_27 rfl (lv_at hl 0 rfl) ?_
        refine h_get (v := .ref tp) hx hb hts iX4 hown g t_a0 (by decide) so_5 rfl 0 (by decide) (hts (.fieldLink RX4 22 "CapLeague$LawReader" "tape" "LCapLeague$Tape;") (by decide +kernel)) rfl dX4_readNumber_28 (by show va_rf (z.R a0 0) = _; rw [rtp]; rfl) ?_
        refine lv_aload_n hx hb dX4_readNumber_31 rfl (lv_at hl 0 rfl) ?_
        refine h_get (v := .int v4) hx hb hts iX4 hown g t_a0 (by decide) so_5 rfl 6 (by decide) (hts (.fieldLink RX4 32 "CapLeague$LawReader" "behind" "I") (by decide +kernel)) rfl dX4_readNumber_32 (congrArg Value.int (ev4.symm)) ?_
        refine vp_callSi (W.runV (As := [.int v4]) (rest := []) ⟨hx, hb, hml, hown, hts⟩ (tX8_atF l E X A z I3 L0 tp ttp v4 (v4.toInt) rfl) (cwV 1 hts gX4_readNumber_X8_at rfl rfl rfl (by decide +kernel) ⟨Nat.le_of_ble_eq_true rfl, Nat.le_of_ble_eq_true rfl⟩) ⟨h_blind _ _ _ _ _ _ _, h_recv g ttp (by decide) so_9 (q := (RX8, TX8, 2)) rfl, h_pre _ hE hk hX hA hI hR g⟩ rfl rfl hl.1 rfl (lv_room (Nat.le_of_ble_eq_true rfl)) dX4_readNumber_35 ⟨Nat.le_of_ble_eq_true rfl, Nat.le_of_ble_eq_true rfl⟩) (fun rh11 h11 => ?_)
        obtain ⟨h11, h11p0⟩ := h11
        rw [abt, show I3 bt = I0 bt from funext (fun k => hF.at tbt rfl), show I3 tp 1 = I0 tp 1 from hF.at ttp rfl, ← egb] at h11p0
        refine vp_callSi (W.runS (As := [.int rh11]) (rest := []) ⟨hx, hb, hml, hown, hts⟩ (tX4_isDigitF l E X A z I3 L0 rh11 (rh11.toInt) rfl) (va_cwS 1 hts gX4_readNumber_X4_isDigit rfl rfl rfl (by decide +kernel) ⟨Nat.le_of_ble_eq_true rfl, Nat.le_of_ble_eq_true rfl⟩) ⟨h_blind _ _ _ _ _ _ _, h_pre _ hE hk hX hA hI hR g⟩ rfl rfl hl.1 rfl (lv_room (Nat.le_of_ble_eq_true rfl)) dX4_readNumber_38 ⟨Nat.le_of_ble_eq_true rfl, Nat.le_of_ble_eq_true rfl⟩) (fun rh12 h12 => ?_)
        rcases h12 with ⟨rfl, h12⟩ | ⟨rfl, h12⟩
        · skip
          refine lv_if_eq (tgt := 83) hx hb dX4_readNumber_41 (by decide) (fun _ => ?_) (fun h => absurd (by decide) h)
          refine lv_aload_n hx hb dX4_readNumber_83 rfl (lv_at hl 0 rfl) ?_
          refine lv_aload_n hx hb dX4_readNumber_84 rfl (lv_at hl 0 rfl) ?_
          refine h_get (v := .int v4) hx hb hts iX4 hown g t_a0 (by decide) so_5 rfl 6 (by decide) (hts (.fieldLink RX4 32 "CapLeague$LawReader" "behind" "I") (by decide +kernel)) rfl dX4_readNumber_85 (congrArg Value.int (ev4.symm)) ?_
          refine lv_aload_n hx hb dX4_readNumber_88 rfl (lv_at hl 0 rfl) ?_
          refine h_get (v := .int f0_5) hx hb hts iX4 hown g t_a0 (by decide) so_5 rfl 5 (by decide) (hts (.fieldLink RX4 84 "CapLeague$LawReader" "place" "I") (by decide +kernel)) rfl dX4_readNumber_89 (congrArg Value.int ((h_F.at hF t_a0 rfl).trans (ef0_5.symm))) ?_
          refine lv_isub hx hb dX4_readNumber_92 ?_
          refine lv_topi (fun v14 ev14 => ?_)
          have jv14 : v14.toInt = v4.toInt - f0_5.toInt := xi_sub ev14 rfl rfl (by omega) (by omega)
          refine lv_iconst (v := 5) hx hb dX4_readNumber_93 (by decide) ?_
          refine lv_icmp_gt (tgt := 101) hx hb dX4_readNumber_94 (by decide) (fun c15 => ?_) (fun c15 => ?_)
          · have ic15 := (xi_lt c15 (by decide) rfl : 5 < v14.toInt)
            refine lv_iconst (v := 4) hx hb dX4_readNumber_101 (by decide) ?_
            refine h_putI (ty := .int) (v := 4) hx hb hts iX4 tyX4 tyX4_ok nmX4 hown g t_a0 (by decide) so_5 rfl 4 (by decide) rfl (hts (.fieldLink RX4 43 "CapLeague$LawReader" "kind" "I") (by decide +kernel)) rfl rfl (by decide +kernel) rfl rfl dX4_readNumber_102 (fun I16 H locs eI16 g => ?_)
            have hI := hI.wr eI16 t_a0 (rfl : h_bd 5 4 = ((-2147483648), 2147483647)) (by decide) (by decide)
            have hF := hF.wr eI16 t_a0 rfl
            have hS := g.2.1
            exact W.vret hx hb hr (fun t ht hW => ⟨⟨I16, rfl, ⟨hI, hF, ⟨(by rw [qf0_5, show I16 a0 6 = v4 from (h_n2 eI16 (by decide)).trans (ev4.symm)]; omega), (by rw [atp, abt, ← egb, qf0_5, show I16 a0 6 = v4 from (h_n2 eI16 (by decide)).trans (ev4.symm)]; exact hx13_1), (by rw [atp, abt, ← egb, show I16 a0 6 = v4 from (h_n2 eI16 (by decide)).trans (ev4.symm)]; exact q_D_f (by omega)), (by rw [atp, abt, ← egb, qf0_5, show I16 a0 6 = v4 from (h_n2 eI16 (by decide)).trans (ev4.symm), show I16 a0 4 = 4 from h_n0 eI16, show I16 a0 7 = v5 from (h_n2 eI16 (by decide)).trans (ev5.symm)]; exact Or.inr ⟨by omega, by decide⟩)⟩⟩, h_ret g ht⟩, hS.F ht⟩) hS.2.2 dX4_readNumber_105
          · have ic15 := (xi_nlt c15 (by decide) rfl : v14.toInt ≤ 5)
            refine lv_iconst (v := 2) hx hb dX4_readNumber_97 (by decide) ?_
            refine lv_goto (tgt := 102) hx hb dX4_readNumber_98 (by decide) ?_
            refine h_putI (ty := .int) (v := 2) hx hb hts iX4 tyX4 tyX4_ok nmX4 hown g t_a0 (by decide) so_5 rfl 4 (by decide) rfl (hts (.fieldLink RX4 43 "CapLeague$LawReader" "kind" "I") (by decide +kernel)) rfl rfl (by decide +kernel) rfl rfl dX4_readNumber_102 (fun I17 H locs eI17 g => ?_)
            have hI := hI.wr eI17 t_a0 (rfl : h_bd 5 4 = ((-2147483648), 2147483647)) (by decide) (by decide)
            have hF := hF.wr eI17 t_a0 rfl
            have hS := g.2.1
            exact W.vret hx hb hr (fun t ht hW => ⟨⟨I17, rfl, ⟨hI, hF, ⟨(by rw [qf0_5, show I17 a0 6 = v4 from (h_n2 eI17 (by decide)).trans (ev4.symm)]; omega), (by rw [atp, abt, ← egb, qf0_5, show I17 a0 6 = v4 from (h_n2 eI17 (by decide)).trans (ev4.symm)]; exact hx13_1), (by rw [atp, abt, ← egb, show I17 a0 6 = v4 from (h_n2 eI17 (by decide)).trans (ev4.symm)]; exact q_D_f (by omega)), (by rw [atp, abt, ← egb, qf0_5, show I17 a0 6 = v4 from (h_n2 eI17 (by decide)).trans (ev4.symm), show I17 a0 4 = 2 from h_n0 eI17, show I17 a0 7 = v5 from (h_n2 eI17 (by decide)).trans (ev5.symm)]; exact Or.inl ⟨by omega, by decide, hx13_2 (by omega)⟩)⟩⟩, h_ret g ht⟩, hS.F ht⟩) hS.2.2 dX4_readNumber_105
        · skip
          refine lv_if_eq (tgt := 83) hx hb dX4_readNumber_41 (by decide) (fun h => absurd h (by decide)) (fun _ => ?_)
          refine lv_aload_n hx hb dX4_readNumber_44 rfl (lv_at hl 0 rfl) ?_
          refine lv_aload_n hx hb dX4_readNumber_45 rfl (lv_at hl 0 rfl) ?_
          refine h_get (v := .int v5) hx hb hts iX4 hown g t_a0 (by decide) so_5 rfl 7 (by decide) (hts (.fieldLink RX4 67 "CapLeague$LawReader" "value" "I") (by decide +kernel)) rfl dX4_readNumber_46 (congrArg Value.int (ev5.symm)) ?_
          refine lv_bipush (v := 10) hx hb dX4_readNumber_49 (by decide) ?_
          refine lv_imul hx hb dX4_readNumber_51 ?_
          refine lv_topi (fun v19 ev19 => ?_)
          have jv19 : -2147483648 ≤ v19.toInt ∧ v19.toInt ≤ 2147483647 := ⟨xi_lo _, Int.le_of_lt_add_one (xi_hi _)⟩
          refine lv_aload_n hx hb dX4_readNumber_52 rfl (lv_at hl 0 rfl) ?_
          refine h_get (v := .ref tp) hx hb hts iX4 hown g t_a0 (by decide) so_5 rfl 0 (by decide) (hts (.fieldLink RX4 22 "CapLeague$LawReader" "tape" "LCapLeague$Tape;") (by decide +kernel)) rfl dX4_readNumber_53 (by show va_rf (z.R a0 0) = _; rw [rtp]; rfl) ?_
          refine lv_aload_n hx hb dX4_readNumber_56 rfl (lv_at hl 0 rfl) ?_
          refine h_get (v := .int v4) hx hb hts iX4 hown g t_a0 (by decide) so_5 rfl 6 (by decide) (hts (.fieldLink RX4 32 "CapLeague$LawReader" "behind" "I") (by decide +kernel)) rfl dX4_readNumber_57 (congrArg Value.int (ev4.symm)) ?_
          refine vp_callSi (W.runV (As := [.int v4]) (rest := [.int v19, .ref a0]) ⟨hx, hb, hml, hown, hts⟩ (tX8_atF l E X A z I3 L0 tp ttp v4 (v4.toInt) rfl) (cwV 1 hts gX4_readNumber_X8_at rfl rfl rfl (by decide +kernel) ⟨Nat.le_of_ble_eq_true rfl, Nat.le_of_ble_eq_true rfl⟩) ⟨h_blind _ _ _ _ _ _ _, h_recv g ttp (by decide) so_9 (q := (RX8, TX8, 2)) rfl, h_pre _ hE hk hX hA hI hR g⟩ rfl rfl hl.1 rfl (lv_room (Nat.le_of_ble_eq_true rfl)) dX4_readNumber_60 ⟨Nat.le_of_ble_eq_true rfl, Nat.le_of_ble_eq_true rfl⟩) (fun rh20 h20 => ?_)
          obtain ⟨h20, h20p0⟩ := h20
          rw [abt, show I3 bt = I0 bt from funext (fun k => hF.at tbt rfl), show I3 tp 1 = I0 tp 1 from hF.at ttp rfl, ← egb] at h20p0
          refine lv_iadd hx hb dX4_readNumber_63 ?_
          refine lv_topi (fun v21 ev21 => ?_)
          have jv21 : -2147483648 ≤ v21.toInt ∧ v21.toInt ≤ 2147483647 := ⟨xi_lo _, Int.le_of_lt_add_one (xi_hi _)⟩
          refine lv_bipush (v := 48) hx hb dX4_readNumber_64 (by decide) ?_
          refine lv_isub hx hb dX4_readNumber_66 ?_
          refine lv_topi (fun v22 ev22 => ?_)
          have jv22 : -2147483648 ≤ v22.toInt ∧ v22.toInt ≤ 2147483647 := ⟨xi_lo _, Int.le_of_lt_add_one (xi_hi _)⟩
          refine h_putI (ty := .int) (v := v22) hx hb hts iX4 tyX4 tyX4_ok nmX4 hown g t_a0 (by decide) so_5 rfl 7 (by decide) rfl (hts (.fieldLink RX4 67 "CapLeague$LawReader" "value" "I") (by decide +kernel)) rfl rfl (by decide +kernel) rfl rfl dX4_readNumber_67 (fun I23 H locs eI23 g => ?_)
          have hI := hI.wr eI23 t_a0 (rfl : h_bd 5 7 = ((-2147483648), 2147483647)) (xi_lo _) (Int.le_of_lt_add_one (xi_hi _))
          have hF := hF.wr eI23 t_a0 rfl
          refine lv_aload_n hx hb dX4_readNumber_70 rfl (lv_at hl 0 rfl) ?_
          refine lv_dup hx hb dX4_readNumber_71 rfl ?_
          refine h_get (v := .int v4) hx hb hts iX4 hown g t_a0 (by decide) so_5 rfl 6 (by decide) (hts (.fieldLink RX4 32 "CapLeague$LawReader" "behind" "I") (by decide +kernel)) rfl dX4_readNumber_72 (congrArg Value.int ((h_n2 eI23 (by decide)).trans (ev4.symm))) ?_
          refine lv_iconst (v := 1) hx hb dX4_readNumber_75 (by decide) ?_
          refine lv_iadd hx hb dX4_readNumber_76 ?_
          refine lv_topi (fun v24 ev24 => ?_)
          have jv24 : v24.toInt = v4.toInt + 1 := xi_add ev24 rfl (by decide) (by omega) (by omega)
          refine h_putI (ty := .int) (v := v24) hx hb hts iX4 tyX4 tyX4_ok nmX4 hown g t_a0 (by decide) so_5 rfl 6 (by decide) rfl (hts (.fieldLink RX4 32 "CapLeague$LawReader" "behind" "I") (by decide +kernel)) rfl rfl (by decide +kernel) rfl rfl dX4_readNumber_77 (fun I25 H locs eI25 g => ?_)
          have hI := hI.wr eI25 t_a0 (rfl : h_bd 5 6 = ((-2147483648), 2147483647)) (xi_lo _) (Int.le_of_lt_add_one (xi_hi _))
          have hF := hF.wr eI25 t_a0 rfl
          refine lv_goto (tgt := 13) hx hb dX4_readNumber_80 (by decide) ?_
          have k26 : (I25 a0 6).toInt = v24.toInt := (congrArg Int32.toInt (h_n0 eI25)).trans rfl
          have k27 : (I25 a0 7).toInt = v22.toInt := (congrArg Int32.toInt ((h_n2 eI25 (by decide)).trans (h_n0 eI23))).trans rfl
          exact ih13 I25 _ _ _ g hI hF (lv_sub hl [0] rfl) (by omega) (q_more hx13_1 (q_D_t (by omega)) (by omega)) (by rw [show I25 a0 7 = v22 from (h_n2 eI25 (by decide)).trans (h_n0 eI23)]; exact q_numstep ev19 ev21 ev22 h20p0 (by omega) (by omega) hx13_1 (by omega) hx13_2) (by omega)
  have k28 : (I2 a0 6).toInt = f0_5.toInt := (congrArg Int32.toInt ((h_n2 eI2 (by decide)).trans (h_n0 eI1))).trans rfl
  have k29 : (I2 a0 7).toInt = 0 := (congrArg Int32.toInt (h_n0 eI2)).trans (by decide)
  exact loop13_0 _ I2 _ _ _ g hI hF (lv_sub hl [0] rfl) (by omega) (q_none (by omega)) (fun _ => by rw [show I2 a0 7 = 0 from h_n0 eI2, show (I2 a0 6).toInt - f0_5.toInt = 0 by omega]; exact (by decide : (0 : Int32).toInt = 0)) (show (501 - (I2 a0 6).toInt) < (((501 - (I2 a0 6).toInt).toNat + 1 : Nat) : Int) by omega)
set_option maxHeartbeats 4000000 in
set_option maxRecDepth 100000 in
theorem tX4_readTokenF (l : Launch) (E : tE) (X : tX) (A : Nat → Prop) (z : tZ) (I0 : tI) (L0 : tL) (a0 : Nat) (t_a0 : z.ty a0 = 5) (hp : 0 ≤ (I0 a0 6).toInt ∧ (I0 a0 6).toInt ≤ 500) : Met l yX4_readToken wsX4_readToken ({ frames := 3, cells := 0, slots := 0, locals := 192 }) (va_Pc [.ref a0] (h_P E X A z I0 L0)) (va_Qv (fun (I1 : tI) => h_I z I1 ∧ h_F [(5, 4), (5, 5), (5, 6), (5, 7)] z I0 I1 ∧ ((I1 a0 5).toInt = q_a (q_at (I0 (h_ad z (h_ad z a0 0) 0)) (I0 (h_ad z a0 0) 1).toInt) (I0 a0 6).toInt) ∧ ((I1 a0 6).toInt = q_e (q_at (I0 (h_ad z (h_ad z a0 0) 0)) (I0 (h_ad z a0 0) 1).toInt) (I0 a0 6).toInt) ∧ ((I1 a0 4).toInt = q_k (q_at (I0 (h_ad z (h_ad z a0 0) 0)) (I0 (h_ad z a0 0) 1).toInt) (I0 a0 6).toInt) ∧ ((I1 a0 4).toInt = 2 → (I1 a0 7).toInt = q_v (q_at (I0 (h_ad z (h_ad z a0 0) 0)) (I0 (h_ad z a0 0) 1).toInt) (I0 a0 6).toInt) ∧ ((I0 a0 6).toInt ≤ (I1 a0 5).toInt ∧ (I1 a0 5).toInt ≤ (I1 a0 6).toInt ∧ (I1 a0 6).toInt ≤ 500) ∧ ((I1 a0 4).toInt = 0 ∨ (I1 a0 5).toInt < (I1 a0 6).toInt)) (fun (I1 : tI) t => h_B E A z I1 L0 t) A) 0 0 A := by
  refine Met.ofW (cc := cX4_readToken) (maxL := 2) (ret := none) (by decide) rfl ?_
  intro pr_ ev_ s m args below meth cd_ s₁ B hml hv
  obtain ⟨rfl, hE, hk, hX, hA, hK, hI, hR, hB0⟩ := hv
  have g : h_G h_so h_fk E A z I0 L0 s s.heap s.heap [] := ⟨hK, va_S.rf, hB0⟩
  have hF : h_F [(5, 4), (5, 5), (5, 6), (5, 7)] z I0 I0 := h_F.rf
  have hx := B.exec
  have hb := B.bytes
  have hr := B.returns
  have hts := atoms_spec (ws := wsX4_readToken) B.pre
  have hown : s.vm.findClass RX4 = some m.cls := findClass_of_methodNamed B.named
  have hlocks := B.notSynchronized
  have iX4 : ∀ w ∈ u_ws RX4 TX4 9, w ∈ wsX4_readToken := by decide +kernel
  have iX8 : ∀ w ∈ u_ws RX8 TX8 2, w ∈ wsX4_readToken := by decide +kernel
  have hl := lv_entry ([.ref a0]) (n := 2) (Nat.le_of_ble_eq_true rfl)
  rw [lg_entry_eq]
  generalize (lg_sl ([.ref a0]) ++ List.replicate (2 - (lg_sl ([.ref a0])).length) Slot.unset).toArray = ls at hl ⊢
  have hl : lv_has ls 2 [(0, .ref a0)] := hl
  obtain ⟨tp, rtp, ttp⟩ := hR.at a0 0 t_a0 (rfl : h_rs 5 0 = some (9, false)) (by decide)
  have atp : h_ad z a0 0 = tp := h_ad.at rtp
  obtain ⟨bt, rbt, tbt⟩ := hR.at tp 0 ttp (rfl : h_rs 9 0 = some (900, false)) (by decide)
  have abt : h_ad z tp 0 = bt := h_ad.at rbt
  obtain ⟨n_1, en_1⟩ : ∃ v : Int32, v = I0 tp 1 := ⟨_, rfl⟩
  have qn_1 : (I0 tp 1).toInt = n_1.toInt := congrArg Int32.toInt en_1.symm
  have jn_1 := hI.rd tp 1 ttp en_1 (rfl : h_bd 9 1 = (0, 500))
  obtain ⟨gb, egb⟩ : ∃ g : Int → Int, g = q_at (I0 bt) (I0 tp 1).toInt := ⟨_, rfl⟩
  obtain ⟨f0_6, ef0_6⟩ : ∃ v : Int32, v = I0 a0 6 := ⟨_, rfl⟩
  have qf0_6 : (I0 a0 6).toInt = f0_6.toInt := congrArg Int32.toInt ef0_6.symm
  have jf0_6 := hI.rd a0 6 t_a0 ef0_6 (rfl : h_bd 5 6 = ((-2147483648), 2147483647))
  rw [qf0_6] at hp
  refine lv_aload_n hx hb dX4_readToken_0 rfl (lv_at hl 0 rfl) ?_
  refine lv_aload_n hx hb dX4_readToken_1 rfl (lv_at hl 0 rfl) ?_
  refine h_get (v := .int f0_6) hx hb hts iX4 hown g t_a0 (by decide) so_5 rfl 6 (by decide) (hts (.fieldLink RX4 32 "CapLeague$LawReader" "behind" "I") (by decide +kernel)) rfl dX4_readToken_2 (congrArg Value.int (ef0_6.symm)) ?_
  refine h_putI (ty := .int) (v := f0_6) hx hb hts iX4 tyX4 tyX4_ok nmX4 hown g t_a0 (by decide) so_5 rfl 5 (by decide) rfl (hts (.fieldLink RX4 84 "CapLeague$LawReader" "place" "I") (by decide +kernel)) rfl rfl (by decide +kernel) rfl rfl dX4_readToken_5 (fun I1 H locs eI1 g => ?_)
  have hI := hI.wr eI1 t_a0 (rfl : h_bd 5 5 = ((-2147483648), 2147483647)) (xi_lo _) (Int.le_of_lt_add_one (xi_hi _))
  have hF := hF.wr eI1 t_a0 rfl
  have loop8_0 : ∀ (n : Nat) (I2 : tI) (H : Heap) (locs : List Loc) (ls : Array Slot), h_G h_so h_fk E A z I2 L0 s s.heap H locs → h_I z I2 → h_F [(5, 4), (5, 5), (5, 6), (5, 7)] z I0 I2 → lv_has ls 2 [(0, .ref a0)] → (f0_6.toInt ≤ (I2 a0 5).toInt ∧ (I2 a0 5).toInt ≤ 500) → (∀ j : Int, f0_6.toInt ≤ j → j < (I2 a0 5).toInt → q_B (gb j) = true) → (501 - (I2 a0 5).toInt) < (n : Int) → W pr_ l ev_ (headSpec wsX4_readToken ({ frames := 3, cells := 0, slots := 0, locals := 192 })).room s m ([.ref a0] : List Value).toArray below meth cd_ H locs 0 0 (MQ below (va_Qv (fun (I1 : tI) => h_I z I1 ∧ h_F [(5, 4), (5, 5), (5, 6), (5, 7)] z I0 I1 ∧ ((I1 a0 5).toInt = q_a (q_at (I0 (h_ad z (h_ad z a0 0) 0)) (I0 (h_ad z a0 0) 1).toInt) (I0 a0 6).toInt) ∧ ((I1 a0 6).toInt = q_e (q_at (I0 (h_ad z (h_ad z a0 0) 0)) (I0 (h_ad z a0 0) 1).toInt) (I0 a0 6).toInt) ∧ ((I1 a0 4).toInt = q_k (q_at (I0 (h_ad z (h_ad z a0 0) 0)) (I0 (h_ad z a0 0) 1).toInt) (I0 a0 6).toInt) ∧ ((I1 a0 4).toInt = 2 → (I1 a0 7).toInt = q_v (q_at (I0 (h_ad z (h_ad z a0 0) 0)) (I0 (h_ad z a0 0) 1).toInt) (I0 a0 6).toInt) ∧ ((I0 a0 6).toInt ≤ (I1 a0 5).toInt ∧ (I1 a0 5).toInt ≤ (I1 a0 6).toInt ∧ (I1 a0 6).toInt ≤ 500) ∧ ((I1 a0 4).toInt = 0 ∨ (I1 a0 5).toInt < (I1 a0 6).toInt)) (fun (I1 : tI) t => h_B E A z I1 L0 t) A) ([.ref a0] : List Value).toArray s 0 0 A) (F0 m 8 ls []) := by
    intro n
    induction n with
    | zero => intro I2 H locs ls g hI hF hl hx8_0 hx8_1 hn; exact absurd hn (by omega)
    | succ n ih8 =>
      intro I2 H locs ls g hI hF hl hx8_0 hx8_1 hn
      obtain ⟨v3, ev3⟩ : ∃ v : Int32, v = I2 a0 5 := ⟨_, rfl⟩
      rw [← ev3] at hx8_0 hx8_1 hn
      have jv3 := hI.rd a0 5 t_a0 ev3 (rfl : h_bd 5 5 = ((-2147483648), 2147483647))
      refine lv_aload_n hx hb dX4_readToken_8 rfl (lv_at hl 0 rfl) ?_
      refine h_get (v := .int v3) hx hb hts iX4 hown g t_a0 (by decide) so_5 rfl 5 (by decide) (hts (.fieldLink RX4 84 "CapLeague$LawReader" "place" "I") (by decide +kernel)) rfl dX4_readToken_9 (congrArg Value.int (ev3.symm)) ?_
      refine lv_aload_n hx hb dX4_readToken_12 rfl (lv_at hl 0 rfl) ?_
      refine h_get (v := .ref tp) hx hb hts iX4 hown g t_a0 (by decide) so_5 rfl 0 (by decide) (hts (.fieldLink RX4 22 "CapLeague$LawReader" "tape" "LCapLeague$Tape;") (by decide +kernel)) rfl dX4_readToken_13 (by show va_rf (z.R a0 0) = _; rw [rtp]; rfl) ?_
      refine h_get (v := .int n_1) hx hb hts iX8 hown g ttp (by decide) so_9 rfl 1 (by decide) (hts (.fieldLink RX4 87 "CapLeague$Tape" "size" "I") (by decide +kernel)) rfl dX4_readToken_16 (congrArg Value.int ((h_F.at hF ttp rfl).trans (en_1.symm))) ?_
      refine lv_icmp_ge (tgt := 52) hx hb dX4_readToken_19 (by decide) (fun c4 => ?_) (fun c4 => ?_)
      · have ic4 := (xi_le c4 rfl rfl : n_1.toInt ≤ v3.toInt)
        have gv : gb v3.toInt = -1 := by rw [egb]; exact q_at_ge (by rw [qn_1]; omega)
        refine lv_aload_n hx hb dX4_readToken_52 rfl (lv_at hl 0 rfl) ?_
        refine h_get (v := .ref tp) hx hb hts iX4 hown g t_a0 (by decide) so_5 rfl 0 (by decide) (hts (.fieldLink RX4 22 "CapLeague$LawReader" "tape" "LCapLeague$Tape;") (by decide +kernel)) rfl dX4_readToken_53 (by show va_rf (z.R a0 0) = _; rw [rtp]; rfl) ?_
        refine lv_aload_n hx hb dX4_readToken_56 rfl (lv_at hl 0 rfl) ?_
        refine h_get (v := .int v3) hx hb hts iX4 hown g t_a0 (by decide) so_5 rfl 5 (by decide) (hts (.fieldLink RX4 84 "CapLeague$LawReader" "place" "I") (by decide +kernel)) rfl dX4_readToken_57 (congrArg Value.int (ev3.symm)) ?_
        refine vp_callSi (W.runV (As := [.int v3]) (rest := []) ⟨hx, hb, hml, hown, hts⟩ (tX8_atF l E X A z I2 L0 tp ttp v3 (v3.toInt) rfl) (cwV 1 hts gX4_readToken_X8_at rfl rfl rfl (by decide +kernel) ⟨Nat.le_of_ble_eq_true rfl, Nat.le_of_ble_eq_true rfl⟩) ⟨h_blind _ _ _ _ _ _ _, h_recv g ttp (by decide) so_9 (q := (RX8, TX8, 2)) rfl, h_pre _ hE hk hX hA hI hR g⟩ rfl rfl hl.1 rfl (lv_room (Nat.le_of_ble_eq_true rfl)) dX4_readToken_60 ⟨Nat.le_of_ble_eq_true rfl, Nat.le_of_ble_eq_true rfl⟩) (fun rh5 h5 => ?_)
        obtain ⟨h5, h5p0⟩ := h5
        rw [abt, show I2 bt = I0 bt from funext (fun k => hF.at tbt rfl), show I2 tp 1 = I0 tp 1 from hF.at ttp rfl, ← egb] at h5p0
        have gs := h5p0
        refine lv_istore_n (lv' := [(1, .int rh5), (0, .ref a0)]) hx hb dX4_readToken_63 rfl hl (by decide) rfl (fun ls hl => ?_)
        refine lv_iload_n hx hb dX4_readToken_64 rfl (lv_at hl 0 rfl) ?_
        refine lv_iconst (v := (-1)) hx hb dX4_readToken_65 (by decide) ?_
        refine lv_icmp_ne (tgt := 85) hx hb dX4_readToken_66 (by decide) (fun c6 => ?_) (fun c6 => ?_)
        · have ic6 := (xi_ne c6 rfl (by decide) : rh5.toInt ≠ (-1))
          refine lv_iload_n hx hb dX4_readToken_85 rfl (lv_at hl 0 rfl) ?_
          refine vp_callSi (W.runS (As := [.int rh5]) (rest := []) ⟨hx, hb, hml, hown, hts⟩ (tX4_isLetterF l E X A z I2 L0 rh5 (rh5.toInt) rfl) (va_cwS 1 hts gX4_readToken_X4_isLetter rfl rfl rfl (by decide +kernel) ⟨Nat.le_of_ble_eq_true rfl, Nat.le_of_ble_eq_true rfl⟩) ⟨h_blind _ _ _ _ _ _ _, h_pre _ hE hk hX hA hI hR g⟩ rfl rfl hl.1 rfl (lv_room (Nat.le_of_ble_eq_true rfl)) dX4_readToken_86 ⟨Nat.le_of_ble_eq_true rfl, Nat.le_of_ble_eq_true rfl⟩) (fun rh7 h7 => ?_)
          rcases h7 with ⟨rfl, h7⟩ | ⟨rfl, h7⟩
          · skip
            refine lv_if_eq (tgt := 99) hx hb dX4_readToken_89 (by decide) (fun _ => ?_) (fun h => absurd (by decide) h)
            refine lv_iload_n hx hb dX4_readToken_99 rfl (lv_at hl 0 rfl) ?_
            refine vp_callSi (W.runS (As := [.int rh5]) (rest := []) ⟨hx, hb, hml, hown, hts⟩ (tX4_isDigitF l E X A z I2 L0 rh5 (rh5.toInt) rfl) (va_cwS 1 hts gX4_readToken_X4_isDigit rfl rfl rfl (by decide +kernel) ⟨Nat.le_of_ble_eq_true rfl, Nat.le_of_ble_eq_true rfl⟩) ⟨h_blind _ _ _ _ _ _ _, h_pre _ hE hk hX hA hI hR g⟩ rfl rfl hl.1 rfl (lv_room (Nat.le_of_ble_eq_true rfl)) dX4_readToken_100 ⟨Nat.le_of_ble_eq_true rfl, Nat.le_of_ble_eq_true rfl⟩) (fun rh9 h9 => ?_)
            rcases h9 with ⟨rfl, h9⟩ | ⟨rfl, h9⟩
            · skip
              refine lv_if_eq (tgt := 113) hx hb dX4_readToken_103 (by decide) (fun _ => ?_) (fun h => absurd (by decide) h)
              refine lv_aload_n hx hb dX4_readToken_113 rfl (lv_at hl 1 rfl) ?_
              refine lv_iload_n hx hb dX4_readToken_114 rfl (lv_at hl 0 rfl) ?_
              refine lv_bipush (v := 59) hx hb dX4_readToken_115 (by decide) ?_
              refine lv_icmp_ne (tgt := 124) hx hb dX4_readToken_117 (by decide) (fun c11 => ?_) (fun c11 => ?_)
              · have ic11 := (xi_ne c11 rfl (by decide) : rh5.toInt ≠ 59)
                refine lv_iconst (v := 4) hx hb dX4_readToken_124 (by decide) ?_
                refine h_putI (ty := .int) (v := 4) hx hb hts iX4 tyX4 tyX4_ok nmX4 hown g t_a0 (by decide) so_5 rfl 4 (by decide) rfl (hts (.fieldLink RX4 43 "CapLeague$LawReader" "kind" "I") (by decide +kernel)) rfl rfl (by decide +kernel) rfl rfl dX4_readToken_125 (fun I12 H locs eI12 g => ?_)
                have hI := hI.wr eI12 t_a0 (rfl : h_bd 5 4 = ((-2147483648), 2147483647)) (by decide) (by decide)
                have hF := hF.wr eI12 t_a0 rfl
                refine lv_aload_n hx hb dX4_readToken_128 rfl (lv_at hl 1 rfl) ?_
                refine lv_aload_n hx hb dX4_readToken_129 rfl (lv_at hl 1 rfl) ?_
                refine h_get (v := .int v3) hx hb hts iX4 hown g t_a0 (by decide) so_5 rfl 5 (by decide) (hts (.fieldLink RX4 84 "CapLeague$LawReader" "place" "I") (by decide +kernel)) rfl dX4_readToken_130 (congrArg Value.int ((h_n2 eI12 (by decide)).trans (ev3.symm))) ?_
                refine lv_iconst (v := 1) hx hb dX4_readToken_133 (by decide) ?_
                refine lv_iadd hx hb dX4_readToken_134 ?_
                refine lv_topi (fun v13 ev13 => ?_)
                have jv13 : v13.toInt = v3.toInt + 1 := xi_add ev13 rfl (by decide) (by omega) (by omega)
                refine h_putI (ty := .int) (v := v13) hx hb hts iX4 tyX4 tyX4_ok nmX4 hown g t_a0 (by decide) so_5 rfl 6 (by decide) rfl (hts (.fieldLink RX4 32 "CapLeague$LawReader" "behind" "I") (by decide +kernel)) rfl rfl (by decide +kernel) rfl rfl dX4_readToken_135 (fun I14 H locs eI14 g => ?_)
                have hI := hI.wr eI14 t_a0 (rfl : h_bd 5 6 = ((-2147483648), 2147483647)) (xi_lo _) (Int.le_of_lt_add_one (xi_hi _))
                have hF := hF.wr eI14 t_a0 rfl
                have ta := q_tokA (g := gb) (p := f0_6.toInt) (a := v3.toInt) (by omega) (by omega) (by omega) hx8_1 (q_B_f (by omega))
                have tin := q_at_in (f := I0 bt) (n := (I0 tp 1).toInt) (p := v3.toInt) (by rw [← egb]; omega)
                have tk := q_tok3 ta (by omega) (by omega) (by omega)
                have hS := g.2.1
                exact W.vret hx hb hr (fun t ht hW => ⟨⟨I14, rfl, ⟨hI, hF, ⟨(by rw [atp, abt, ← egb, qf0_6, show I14 a0 5 = v3 from (h_n2 eI14 (by decide)).trans ((h_n2 eI12 (by decide)).trans (ev3.symm))]; exact ta.symm), (by rw [atp, abt, ← egb, qf0_6, show I14 a0 6 = v13 from h_n0 eI14]; rw [tk.1]; omega), (by rw [atp, abt, ← egb, qf0_6, show I14 a0 4 = 4 from (h_n2 eI14 (by decide)).trans (h_n0 eI12)]; rw [tk.2, if_neg (by omega)]; decide), (fun h9 => absurd h9 (by rw [show I14 a0 4 = 4 from (h_n2 eI14 (by decide)).trans (h_n0 eI12)]; decide)), (by rw [qf0_6, show I14 a0 5 = v3 from (h_n2 eI14 (by decide)).trans ((h_n2 eI12 (by decide)).trans (ev3.symm)), show I14 a0 6 = v13 from h_n0 eI14]; omega), (Or.inr (by rw [show I14 a0 5 = v3 from (h_n2 eI14 (by decide)).trans ((h_n2 eI12 (by decide)).trans (ev3.symm)), show I14 a0 6 = v13 from h_n0 eI14]; omega))⟩⟩, h_ret g ht⟩, hS.F ht⟩) hS.2.2 dX4_readToken_138
              · have ic11 := (xi_eq c11 rfl (by decide) : rh5.toInt = 59)
                refine lv_iconst (v := 3) hx hb dX4_readToken_120 (by decide) ?_
                refine lv_goto (tgt := 125) hx hb dX4_readToken_121 (by decide) ?_
                refine h_putI (ty := .int) (v := 3) hx hb hts iX4 tyX4 tyX4_ok nmX4 hown g t_a0 (by decide) so_5 rfl 4 (by decide) rfl (hts (.fieldLink RX4 43 "CapLeague$LawReader" "kind" "I") (by decide +kernel)) rfl rfl (by decide +kernel) rfl rfl dX4_readToken_125 (fun I15 H locs eI15 g => ?_)
                have hI := hI.wr eI15 t_a0 (rfl : h_bd 5 4 = ((-2147483648), 2147483647)) (by decide) (by decide)
                have hF := hF.wr eI15 t_a0 rfl
                refine lv_aload_n hx hb dX4_readToken_128 rfl (lv_at hl 1 rfl) ?_
                refine lv_aload_n hx hb dX4_readToken_129 rfl (lv_at hl 1 rfl) ?_
                refine h_get (v := .int v3) hx hb hts iX4 hown g t_a0 (by decide) so_5 rfl 5 (by decide) (hts (.fieldLink RX4 84 "CapLeague$LawReader" "place" "I") (by decide +kernel)) rfl dX4_readToken_130 (congrArg Value.int ((h_n2 eI15 (by decide)).trans (ev3.symm))) ?_
                refine lv_iconst (v := 1) hx hb dX4_readToken_133 (by decide) ?_
                refine lv_iadd hx hb dX4_readToken_134 ?_
                refine lv_topi (fun v16 ev16 => ?_)
                have jv16 : v16.toInt = v3.toInt + 1 := xi_add ev16 rfl (by decide) (by omega) (by omega)
                refine h_putI (ty := .int) (v := v16) hx hb hts iX4 tyX4 tyX4_ok nmX4 hown g t_a0 (by decide) so_5 rfl 6 (by decide) rfl (hts (.fieldLink RX4 32 "CapLeague$LawReader" "behind" "I") (by decide +kernel)) rfl rfl (by decide +kernel) rfl rfl dX4_readToken_135 (fun I17 H locs eI17 g => ?_)
                have hI := hI.wr eI17 t_a0 (rfl : h_bd 5 6 = ((-2147483648), 2147483647)) (xi_lo _) (Int.le_of_lt_add_one (xi_hi _))
                have hF := hF.wr eI17 t_a0 rfl
                have ta := q_tokA (g := gb) (p := f0_6.toInt) (a := v3.toInt) (by omega) (by omega) (by omega) hx8_1 (q_B_f (by omega))
                have tin := q_at_in (f := I0 bt) (n := (I0 tp 1).toInt) (p := v3.toInt) (by rw [← egb]; omega)
                have tk := q_tok3 ta (by omega) (by omega) (by omega)
                have hS := g.2.1
                exact W.vret hx hb hr (fun t ht hW => ⟨⟨I17, rfl, ⟨hI, hF, ⟨(by rw [atp, abt, ← egb, qf0_6, show I17 a0 5 = v3 from (h_n2 eI17 (by decide)).trans ((h_n2 eI15 (by decide)).trans (ev3.symm))]; exact ta.symm), (by rw [atp, abt, ← egb, qf0_6, show I17 a0 6 = v16 from h_n0 eI17]; rw [tk.1]; omega), (by rw [atp, abt, ← egb, qf0_6, show I17 a0 4 = 3 from (h_n2 eI17 (by decide)).trans (h_n0 eI15)]; rw [tk.2, if_pos (by omega)]; decide), (fun h9 => absurd h9 (by rw [show I17 a0 4 = 3 from (h_n2 eI17 (by decide)).trans (h_n0 eI15)]; decide)), (by rw [qf0_6, show I17 a0 5 = v3 from (h_n2 eI17 (by decide)).trans ((h_n2 eI15 (by decide)).trans (ev3.symm)), show I17 a0 6 = v16 from h_n0 eI17]; omega), (Or.inr (by rw [show I17 a0 5 = v3 from (h_n2 eI17 (by decide)).trans ((h_n2 eI15 (by decide)).trans (ev3.symm)), show I17 a0 6 = v16 from h_n0 eI17]; omega))⟩⟩, h_ret g ht⟩, hS.F ht⟩) hS.2.2 dX4_readToken_138
            · skip
              refine lv_if_eq (tgt := 113) hx hb dX4_readToken_103 (by decide) (fun h => absurd h (by decide)) (fun _ => ?_)
              refine lv_aload_n hx hb dX4_readToken_106 rfl (lv_at hl 1 rfl) ?_
              have hFo := hF
              refine va_callv (va_runV (As := []) (rest := []) ⟨hx, hb, hml, hown, hts⟩ (tX4_readNumberF l E X A z I2 L0 a0 t_a0 (by rw [show I2 a0 5 = v3 from ev3.symm]; omega)) (cwV 0 hts gX4_readToken_X4_readNumber rfl rfl rfl (by decide +kernel) ⟨Nat.le_of_ble_eq_true rfl, Nat.le_of_ble_eq_true rfl⟩) ⟨h_blind _ _ _ _ _ _ _, h_recv g t_a0 (by decide) so_5 (q := (RX4, TX4, 9)) rfl, h_pre _ hE hk hX hA hI hR g⟩ rfl rfl hl.1 rfl (lv_room (Nat.le_of_ble_eq_true rfl)) dX4_readToken_107 ⟨Nat.le_of_ble_eq_true rfl, Nat.le_of_ble_eq_true rfl⟩) g.2.1 (fun q _ h => h) (fun q h => h) (fun I20 t H1 locs ht hvm h19 hB hz1 hk1 hS => ?_)
              obtain ⟨hI, fh19, h19⟩ := h19
              replace g := h_after g hB ht hS
              generalize H1 = H at g
              clear hB hk1 hz1 ht hvm hS
              have hF := hF.call fh19 rfl
              obtain ⟨h19p0, h19p1, h19p2, h19p3⟩ := h19
              rw [atp, abt, show I2 bt = I0 bt from funext (fun k => hFo.at tbt rfl), show I2 tp 1 = I0 tp 1 from hFo.at ttp rfl, ← egb] at h19p1 h19p2 h19p3
              rw [show I2 a0 5 = v3 from ev3.symm] at h19p0 h19p1 h19p3
              obtain ⟨v21, ev21⟩ : ∃ v : Int32, v = I20 a0 6 := ⟨_, rfl⟩
              rw [← ev21] at h19p0 h19p1 h19p2 h19p3
              obtain ⟨v22, ev22⟩ : ∃ v : Int32, v = I20 a0 4 := ⟨_, rfl⟩
              rw [← ev22] at h19p3
              obtain ⟨v23, ev23⟩ : ∃ v : Int32, v = I20 a0 7 := ⟨_, rfl⟩
              rw [← ev23] at h19p3
              refine lv_goto (tgt := 138) hx hb dX4_readToken_110 (by decide) ?_
              have ta := q_tokA (g := gb) (p := f0_6.toInt) (a := v3.toInt) (by omega) (by omega) (by omega) hx8_1 (q_B_f (by omega))
              have tin := q_at_in (f := I0 bt) (n := (I0 tp 1).toInt) (p := v3.toInt) (by rw [← egb]; omega)
              have tl := q_ne (g := gb) (a := v3.toInt) (e := v21.toInt) (by omega) (q_D_t (by omega)) h19p2
              have tk := q_tok2 ta (by omega) (by omega) (by omega) (by omega) h19p1 h19p2
              have hS := g.2.1
              exact W.vret hx hb hr (fun t ht hW => ⟨⟨I20, rfl, ⟨hI, hF, ⟨(by rw [atp, abt, ← egb, qf0_6, show I20 a0 5 = v3 from (h_F.at fh19 t_a0 rfl).trans (ev3.symm)]; exact ta.symm), (by rw [atp, abt, ← egb, qf0_6, show I20 a0 6 = v21 from ev21.symm]; exact tk.1.symm), (by rw [atp, abt, ← egb, qf0_6, show I20 a0 4 = v22 from ev22.symm]; rw [tk.2.1]; rcases h19p3 with ⟨a1, a2, a3⟩ | ⟨a1, a2⟩; rw [if_pos a1]; exact a2; rw [if_neg (by omega)]; exact a2), (by rw [atp, abt, ← egb, qf0_6, show I20 a0 4 = v22 from ev22.symm, show I20 a0 7 = v23 from ev23.symm]; intro h9; rw [tk.2.2]; rcases h19p3 with ⟨a1, a2, a3⟩ | ⟨a1, a2⟩; exact a3; omega), (by rw [qf0_6, show I20 a0 5 = v3 from (h_F.at fh19 t_a0 rfl).trans (ev3.symm), show I20 a0 6 = v21 from ev21.symm]; omega), (Or.inr (by rw [show I20 a0 5 = v3 from (h_F.at fh19 t_a0 rfl).trans (ev3.symm), show I20 a0 6 = v21 from ev21.symm]; omega))⟩⟩, h_ret g ht⟩, hS.F ht⟩) hS.2.2 dX4_readToken_138
          · skip
            refine lv_if_eq (tgt := 99) hx hb dX4_readToken_89 (by decide) (fun h => absurd h (by decide)) (fun _ => ?_)
            refine lv_aload_n hx hb dX4_readToken_92 rfl (lv_at hl 1 rfl) ?_
            have hFo := hF
            refine va_callv (va_runV (As := []) (rest := []) ⟨hx, hb, hml, hown, hts⟩ (tX4_readWordF l E X A z I2 L0 a0 t_a0 (by rw [show I2 a0 5 = v3 from ev3.symm]; omega)) (cwV 0 hts gX4_readToken_X4_readWord rfl rfl rfl (by decide +kernel) ⟨Nat.le_of_ble_eq_true rfl, Nat.le_of_ble_eq_true rfl⟩) ⟨h_blind _ _ _ _ _ _ _, h_recv g t_a0 (by decide) so_5 (q := (RX4, TX4, 9)) rfl, h_pre _ hE hk hX hA hI hR g⟩ rfl rfl hl.1 rfl (lv_room (Nat.le_of_ble_eq_true rfl)) dX4_readToken_93 ⟨Nat.le_of_ble_eq_true rfl, Nat.le_of_ble_eq_true rfl⟩) g.2.1 (fun q _ h => h) (fun q h => h) (fun I26 t H1 locs ht hvm h25 hB hz1 hk1 hS => ?_)
            obtain ⟨hI, fh25, h25⟩ := h25
            replace g := h_after g hB ht hS
            generalize H1 = H at g
            clear hB hk1 hz1 ht hvm hS
            have hF := hF.call fh25 rfl
            obtain ⟨h25p0, h25p1, h25p2, h25p3⟩ := h25
            rw [atp, abt, show I2 bt = I0 bt from funext (fun k => hFo.at tbt rfl), show I2 tp 1 = I0 tp 1 from hFo.at ttp rfl, ← egb] at h25p1 h25p2
            rw [show I2 a0 5 = v3 from ev3.symm] at h25p0 h25p1
            obtain ⟨v27, ev27⟩ : ∃ v : Int32, v = I26 a0 6 := ⟨_, rfl⟩
            rw [← ev27] at h25p0 h25p1 h25p2
            obtain ⟨v28, ev28⟩ : ∃ v : Int32, v = I26 a0 4 := ⟨_, rfl⟩
            rw [← ev28] at h25p3
            refine lv_goto (tgt := 138) hx hb dX4_readToken_96 (by decide) ?_
            have ta := q_tokA (g := gb) (p := f0_6.toInt) (a := v3.toInt) (by omega) (by omega) (by omega) hx8_1 (q_B_f (by omega))
            have tin := q_at_in (f := I0 bt) (n := (I0 tp 1).toInt) (p := v3.toInt) (by rw [← egb]; omega)
            have tl := q_ne (g := gb) (a := v3.toInt) (e := v27.toInt) (by omega) (q_L_t (by omega)) h25p2
            have tk := q_tok1 ta (by omega) (by omega) (by omega) (by omega) h25p1 h25p2
            have hS := g.2.1
            exact W.vret hx hb hr (fun t ht hW => ⟨⟨I26, rfl, ⟨hI, hF, ⟨(by rw [atp, abt, ← egb, qf0_6, show I26 a0 5 = v3 from (h_F.at fh25 t_a0 rfl).trans (ev3.symm)]; exact ta.symm), (by rw [atp, abt, ← egb, qf0_6, show I26 a0 6 = v27 from ev27.symm]; exact tk.1.symm), (by rw [atp, abt, ← egb, qf0_6, show I26 a0 4 = v28 from ev28.symm]; rw [tk.2]; exact h25p3), (fun h9 => absurd h9 (by rw [show I26 a0 4 = v28 from ev28.symm]; omega)), (by rw [qf0_6, show I26 a0 5 = v3 from (h_F.at fh25 t_a0 rfl).trans (ev3.symm), show I26 a0 6 = v27 from ev27.symm]; omega), (Or.inr (by rw [show I26 a0 5 = v3 from (h_F.at fh25 t_a0 rfl).trans (ev3.symm), show I26 a0 6 = v27 from ev27.symm]; omega))⟩⟩, h_ret g ht⟩, hS.F ht⟩) hS.2.2 dX4_readToken_138
        · have ic6 := (xi_eq c6 rfl (by decide) : rh5.toInt = (-1))
          refine lv_aload_n hx hb dX4_readToken_69 rfl (lv_at hl 1 rfl) ?_
          refine lv_iconst (v := 0) hx hb dX4_readToken_70 (by decide) ?_
          refine h_putI (ty := .int) (v := 0) hx hb hts iX4 tyX4 tyX4_ok nmX4 hown g t_a0 (by decide) so_5 rfl 4 (by decide) rfl (hts (.fieldLink RX4 43 "CapLeague$LawReader" "kind" "I") (by decide +kernel)) rfl rfl (by decide +kernel) rfl rfl dX4_readToken_71 (fun I29 H locs eI29 g => ?_)
          have hI := hI.wr eI29 t_a0 (rfl : h_bd 5 4 = ((-2147483648), 2147483647)) (by decide) (by decide)
          have hF := hF.wr eI29 t_a0 rfl
          refine lv_aload_n hx hb dX4_readToken_74 rfl (lv_at hl 1 rfl) ?_
          refine lv_aload_n hx hb dX4_readToken_75 rfl (lv_at hl 1 rfl) ?_
          refine h_get (v := .int v3) hx hb hts iX4 hown g t_a0 (by decide) so_5 rfl 5 (by decide) (hts (.fieldLink RX4 84 "CapLeague$LawReader" "place" "I") (by decide +kernel)) rfl dX4_readToken_76 (congrArg Value.int ((h_n2 eI29 (by decide)).trans (ev3.symm))) ?_
          refine h_putI (ty := .int) (v := v3) hx hb hts iX4 tyX4 tyX4_ok nmX4 hown g t_a0 (by decide) so_5 rfl 6 (by decide) rfl (hts (.fieldLink RX4 32 "CapLeague$LawReader" "behind" "I") (by decide +kernel)) rfl rfl (by decide +kernel) rfl rfl dX4_readToken_79 (fun I30 H locs eI30 g => ?_)
          have hI := hI.wr eI30 t_a0 (rfl : h_bd 5 6 = ((-2147483648), 2147483647)) (xi_lo _) (Int.le_of_lt_add_one (xi_hi _))
          have hF := hF.wr eI30 t_a0 rfl
          refine lv_goto (tgt := 138) hx hb dX4_readToken_82 (by decide) ?_
          have ta := q_tokA (g := gb) (p := f0_6.toInt) (a := v3.toInt) (by omega) (by omega) (by omega) hx8_1 (q_B_f (by omega))
          have tk := q_tok0 ta (by omega)
          have hS := g.2.1
          exact W.vret hx hb hr (fun t ht hW => ⟨⟨I30, rfl, ⟨hI, hF, ⟨(by rw [atp, abt, ← egb, qf0_6, show I30 a0 5 = v3 from (h_n2 eI30 (by decide)).trans ((h_n2 eI29 (by decide)).trans (ev3.symm))]; exact ta.symm), (by rw [atp, abt, ← egb, qf0_6, show I30 a0 6 = v3 from h_n0 eI30]; exact tk.1.symm), (by rw [atp, abt, ← egb, qf0_6, show I30 a0 4 = 0 from (h_n2 eI30 (by decide)).trans (h_n0 eI29)]; rw [tk.2]; decide), (fun h9 => absurd h9 (by rw [show I30 a0 4 = 0 from (h_n2 eI30 (by decide)).trans (h_n0 eI29)]; decide)), (by rw [qf0_6, show I30 a0 5 = v3 from (h_n2 eI30 (by decide)).trans ((h_n2 eI29 (by decide)).trans (ev3.symm)), show I30 a0 6 = v3 from h_n0 eI30]; omega), (Or.inl (by rw [show I30 a0 4 = 0 from (h_n2 eI30 (by decide)).trans (h_n0 eI29)]; decide))⟩⟩, h_ret g ht⟩, hS.F ht⟩) hS.2.2 dX4_readToken_138
      · have ic4 := (xi_nle c4 rfl rfl : v3.toInt < n_1.toInt)
        refine lv_aload_n hx hb dX4_readToken_22 rfl (lv_at hl 0 rfl) ?_
        refine h_get (v := .ref tp) hx hb hts iX4 hown g t_a0 (by decide) so_5 rfl 0 (by decide) (hts (.fieldLink RX4 22 "CapLeague$LawReader" "tape" "LCapLeague$Tape;") (by decide +kernel)) rfl dX4_readToken_23 (by show va_rf (z.R a0 0) = _; rw [rtp]; rfl) ?_
        refine lv_aload_n hx hb dX4_readToken_26 rfl (lv_at hl 0 rfl) ?_
        refine h_get (v := .int v3) hx hb hts iX4 hown g t_a0 (by decide) so_5 rfl 5 (by decide) (hts (.fieldLink RX4 84 "CapLeague$LawReader" "place" "I") (by decide +kernel)) rfl dX4_readToken_27 (congrArg Value.int (ev3.symm)) ?_
        refine vp_callSi (W.runV (As := [.int v3]) (rest := []) ⟨hx, hb, hml, hown, hts⟩ (tX8_atF l E X A z I2 L0 tp ttp v3 (v3.toInt) rfl) (cwV 1 hts gX4_readToken_X8_at rfl rfl rfl (by decide +kernel) ⟨Nat.le_of_ble_eq_true rfl, Nat.le_of_ble_eq_true rfl⟩) ⟨h_blind _ _ _ _ _ _ _, h_recv g ttp (by decide) so_9 (q := (RX8, TX8, 2)) rfl, h_pre _ hE hk hX hA hI hR g⟩ rfl rfl hl.1 rfl (lv_room (Nat.le_of_ble_eq_true rfl)) dX4_readToken_30 ⟨Nat.le_of_ble_eq_true rfl, Nat.le_of_ble_eq_true rfl⟩) (fun rh31 h31 => ?_)
        obtain ⟨h31, h31p0⟩ := h31
        rw [abt, show I2 bt = I0 bt from funext (fun k => hF.at tbt rfl), show I2 tp 1 = I0 tp 1 from hF.at ttp rfl, ← egb] at h31p0
        refine vp_callSi (W.runS (As := [.int rh31]) (rest := []) ⟨hx, hb, hml, hown, hts⟩ (tX4_isBlankF l E X A z I2 L0 rh31 (rh31.toInt) rfl) (va_cwS 1 hts gX4_readToken_X4_isBlank rfl rfl rfl (by decide +kernel) ⟨Nat.le_of_ble_eq_true rfl, Nat.le_of_ble_eq_true rfl⟩) ⟨h_blind _ _ _ _ _ _ _, h_pre _ hE hk hX hA hI hR g⟩ rfl rfl hl.1 rfl (lv_room (Nat.le_of_ble_eq_true rfl)) dX4_readToken_33 ⟨Nat.le_of_ble_eq_true rfl, Nat.le_of_ble_eq_true rfl⟩) (fun rh32 h32 => ?_)
        rcases h32 with ⟨rfl, h32⟩ | ⟨rfl, h32⟩
        · skip
          refine lv_if_eq (tgt := 52) hx hb dX4_readToken_36 (by decide) (fun _ => ?_) (fun h => absurd (by decide) h)
          refine lv_aload_n hx hb dX4_readToken_52 rfl (lv_at hl 0 rfl) ?_
          refine h_get (v := .ref tp) hx hb hts iX4 hown g t_a0 (by decide) so_5 rfl 0 (by decide) (hts (.fieldLink RX4 22 "CapLeague$LawReader" "tape" "LCapLeague$Tape;") (by decide +kernel)) rfl dX4_readToken_53 (by show va_rf (z.R a0 0) = _; rw [rtp]; rfl) ?_
          refine lv_aload_n hx hb dX4_readToken_56 rfl (lv_at hl 0 rfl) ?_
          refine h_get (v := .int v3) hx hb hts iX4 hown g t_a0 (by decide) so_5 rfl 5 (by decide) (hts (.fieldLink RX4 84 "CapLeague$LawReader" "place" "I") (by decide +kernel)) rfl dX4_readToken_57 (congrArg Value.int (ev3.symm)) ?_
          refine vp_callSi (W.runV (As := [.int v3]) (rest := []) ⟨hx, hb, hml, hown, hts⟩ (tX8_atF l E X A z I2 L0 tp ttp v3 (v3.toInt) rfl) (cwV 1 hts gX4_readToken_X8_at rfl rfl rfl (by decide +kernel) ⟨Nat.le_of_ble_eq_true rfl, Nat.le_of_ble_eq_true rfl⟩) ⟨h_blind _ _ _ _ _ _ _, h_recv g ttp (by decide) so_9 (q := (RX8, TX8, 2)) rfl, h_pre _ hE hk hX hA hI hR g⟩ rfl rfl hl.1 rfl (lv_room (Nat.le_of_ble_eq_true rfl)) dX4_readToken_60 ⟨Nat.le_of_ble_eq_true rfl, Nat.le_of_ble_eq_true rfl⟩) (fun rh34 h34 => ?_)
          obtain ⟨h34, h34p0⟩ := h34
          rw [abt, show I2 bt = I0 bt from funext (fun k => hF.at tbt rfl), show I2 tp 1 = I0 tp 1 from hF.at ttp rfl, ← egb] at h34p0
          have gs := h34p0
          refine lv_istore_n (lv' := [(1, .int rh34), (0, .ref a0)]) hx hb dX4_readToken_63 rfl hl (by decide) rfl (fun ls hl => ?_)
          refine lv_iload_n hx hb dX4_readToken_64 rfl (lv_at hl 0 rfl) ?_
          refine lv_iconst (v := (-1)) hx hb dX4_readToken_65 (by decide) ?_
          refine lv_icmp_ne (tgt := 85) hx hb dX4_readToken_66 (by decide) (fun c35 => ?_) (fun c35 => ?_)
          · have ic35 := (xi_ne c35 rfl (by decide) : rh34.toInt ≠ (-1))
            refine lv_iload_n hx hb dX4_readToken_85 rfl (lv_at hl 0 rfl) ?_
            refine vp_callSi (W.runS (As := [.int rh34]) (rest := []) ⟨hx, hb, hml, hown, hts⟩ (tX4_isLetterF l E X A z I2 L0 rh34 (rh34.toInt) rfl) (va_cwS 1 hts gX4_readToken_X4_isLetter rfl rfl rfl (by decide +kernel) ⟨Nat.le_of_ble_eq_true rfl, Nat.le_of_ble_eq_true rfl⟩) ⟨h_blind _ _ _ _ _ _ _, h_pre _ hE hk hX hA hI hR g⟩ rfl rfl hl.1 rfl (lv_room (Nat.le_of_ble_eq_true rfl)) dX4_readToken_86 ⟨Nat.le_of_ble_eq_true rfl, Nat.le_of_ble_eq_true rfl⟩) (fun rh36 h36 => ?_)
            rcases h36 with ⟨rfl, h36⟩ | ⟨rfl, h36⟩
            · skip
              refine lv_if_eq (tgt := 99) hx hb dX4_readToken_89 (by decide) (fun _ => ?_) (fun h => absurd (by decide) h)
              refine lv_iload_n hx hb dX4_readToken_99 rfl (lv_at hl 0 rfl) ?_
              refine vp_callSi (W.runS (As := [.int rh34]) (rest := []) ⟨hx, hb, hml, hown, hts⟩ (tX4_isDigitF l E X A z I2 L0 rh34 (rh34.toInt) rfl) (va_cwS 1 hts gX4_readToken_X4_isDigit rfl rfl rfl (by decide +kernel) ⟨Nat.le_of_ble_eq_true rfl, Nat.le_of_ble_eq_true rfl⟩) ⟨h_blind _ _ _ _ _ _ _, h_pre _ hE hk hX hA hI hR g⟩ rfl rfl hl.1 rfl (lv_room (Nat.le_of_ble_eq_true rfl)) dX4_readToken_100 ⟨Nat.le_of_ble_eq_true rfl, Nat.le_of_ble_eq_true rfl⟩) (fun rh38 h38 => ?_)
              rcases h38 with ⟨rfl, h38⟩ | ⟨rfl, h38⟩
              · skip
                refine lv_if_eq (tgt := 113) hx hb dX4_readToken_103 (by decide) (fun _ => ?_) (fun h => absurd (by decide) h)
                refine lv_aload_n hx hb dX4_readToken_113 rfl (lv_at hl 1 rfl) ?_
                refine lv_iload_n hx hb dX4_readToken_114 rfl (lv_at hl 0 rfl) ?_
                refine lv_bipush (v := 59) hx hb dX4_readToken_115 (by decide) ?_
                refine lv_icmp_ne (tgt := 124) hx hb dX4_readToken_117 (by decide) (fun c40 => ?_) (fun c40 => ?_)
                · have ic40 := (xi_ne c40 rfl (by decide) : rh34.toInt ≠ 59)
                  refine lv_iconst (v := 4) hx hb dX4_readToken_124 (by decide) ?_
                  refine h_putI (ty := .int) (v := 4) hx hb hts iX4 tyX4 tyX4_ok nmX4 hown g t_a0 (by decide) so_5 rfl 4 (by decide) rfl (hts (.fieldLink RX4 43 "CapLeague$LawReader" "kind" "I") (by decide +kernel)) rfl rfl (by decide +kernel) rfl rfl dX4_readToken_125 (fun I41 H locs eI41 g => ?_)
                  have hI := hI.wr eI41 t_a0 (rfl : h_bd 5 4 = ((-2147483648), 2147483647)) (by decide) (by decide)
                  have hF := hF.wr eI41 t_a0 rfl
                  refine lv_aload_n hx hb dX4_readToken_128 rfl (lv_at hl 1 rfl) ?_
                  refine lv_aload_n hx hb dX4_readToken_129 rfl (lv_at hl 1 rfl) ?_
                  refine h_get (v := .int v3) hx hb hts iX4 hown g t_a0 (by decide) so_5 rfl 5 (by decide) (hts (.fieldLink RX4 84 "CapLeague$LawReader" "place" "I") (by decide +kernel)) rfl dX4_readToken_130 (congrArg Value.int ((h_n2 eI41 (by decide)).trans (ev3.symm))) ?_
                  refine lv_iconst (v := 1) hx hb dX4_readToken_133 (by decide) ?_
                  refine lv_iadd hx hb dX4_readToken_134 ?_
                  refine lv_topi (fun v42 ev42 => ?_)
                  have jv42 : v42.toInt = v3.toInt + 1 := xi_add ev42 rfl (by decide) (by omega) (by omega)
                  refine h_putI (ty := .int) (v := v42) hx hb hts iX4 tyX4 tyX4_ok nmX4 hown g t_a0 (by decide) so_5 rfl 6 (by decide) rfl (hts (.fieldLink RX4 32 "CapLeague$LawReader" "behind" "I") (by decide +kernel)) rfl rfl (by decide +kernel) rfl rfl dX4_readToken_135 (fun I43 H locs eI43 g => ?_)
                  have hI := hI.wr eI43 t_a0 (rfl : h_bd 5 6 = ((-2147483648), 2147483647)) (xi_lo _) (Int.le_of_lt_add_one (xi_hi _))
                  have hF := hF.wr eI43 t_a0 rfl
                  have ta := q_tokA (g := gb) (p := f0_6.toInt) (a := v3.toInt) (by omega) (by omega) (by omega) hx8_1 (q_B_f (by omega))
                  have tin := q_at_in (f := I0 bt) (n := (I0 tp 1).toInt) (p := v3.toInt) (by rw [← egb]; omega)
                  have tk := q_tok3 ta (by omega) (by omega) (by omega)
                  have hS := g.2.1
                  exact W.vret hx hb hr (fun t ht hW => ⟨⟨I43, rfl, ⟨hI, hF, ⟨(by rw [atp, abt, ← egb, qf0_6, show I43 a0 5 = v3 from (h_n2 eI43 (by decide)).trans ((h_n2 eI41 (by decide)).trans (ev3.symm))]; exact ta.symm), (by rw [atp, abt, ← egb, qf0_6, show I43 a0 6 = v42 from h_n0 eI43]; rw [tk.1]; omega), (by rw [atp, abt, ← egb, qf0_6, show I43 a0 4 = 4 from (h_n2 eI43 (by decide)).trans (h_n0 eI41)]; rw [tk.2, if_neg (by omega)]; decide), (fun h9 => absurd h9 (by rw [show I43 a0 4 = 4 from (h_n2 eI43 (by decide)).trans (h_n0 eI41)]; decide)), (by rw [qf0_6, show I43 a0 5 = v3 from (h_n2 eI43 (by decide)).trans ((h_n2 eI41 (by decide)).trans (ev3.symm)), show I43 a0 6 = v42 from h_n0 eI43]; omega), (Or.inr (by rw [show I43 a0 5 = v3 from (h_n2 eI43 (by decide)).trans ((h_n2 eI41 (by decide)).trans (ev3.symm)), show I43 a0 6 = v42 from h_n0 eI43]; omega))⟩⟩, h_ret g ht⟩, hS.F ht⟩) hS.2.2 dX4_readToken_138
                · have ic40 := (xi_eq c40 rfl (by decide) : rh34.toInt = 59)
                  refine lv_iconst (v := 3) hx hb dX4_readToken_120 (by decide) ?_
                  refine lv_goto (tgt := 125) hx hb dX4_readToken_121 (by decide) ?_
                  refine h_putI (ty := .int) (v := 3) hx hb hts iX4 tyX4 tyX4_ok nmX4 hown g t_a0 (by decide) so_5 rfl 4 (by decide) rfl (hts (.fieldLink RX4 43 "CapLeague$LawReader" "kind" "I") (by decide +kernel)) rfl rfl (by decide +kernel) rfl rfl dX4_readToken_125 (fun I44 H locs eI44 g => ?_)
                  have hI := hI.wr eI44 t_a0 (rfl : h_bd 5 4 = ((-2147483648), 2147483647)) (by decide) (by decide)
                  have hF := hF.wr eI44 t_a0 rfl
                  refine lv_aload_n hx hb dX4_readToken_128 rfl (lv_at hl 1 rfl) ?_
                  refine lv_aload_n hx hb dX4_readToken_129 rfl (lv_at hl 1 rfl) ?_
                  refine h_get (v := .int v3) hx hb hts iX4 hown g t_a0 (by decide) so_5 rfl 5 (by decide) (hts (.fieldLink RX4 84 "CapLeague$LawReader" "place" "I") (by decide +kernel)) rfl dX4_readToken_130 (congrArg Value.int ((h_n2 eI44 (by decide)).trans (ev3.symm))) ?_
                  refine lv_iconst (v := 1) hx hb dX4_readToken_133 (by decide) ?_
                  refine lv_iadd hx hb dX4_readToken_134 ?_
                  refine lv_topi (fun v45 ev45 => ?_)
                  have jv45 : v45.toInt = v3.toInt + 1 := xi_add ev45 rfl (by decide) (by omega) (by omega)
                  refine h_putI (ty := .int) (v := v45) hx hb hts iX4 tyX4 tyX4_ok nmX4 hown g t_a0 (by decide) so_5 rfl 6 (by decide) rfl (hts (.fieldLink RX4 32 "CapLeague$LawReader" "behind" "I") (by decide +kernel)) rfl rfl (by decide +kernel) rfl rfl dX4_readToken_135 (fun I46 H locs eI46 g => ?_)
                  have hI := hI.wr eI46 t_a0 (rfl : h_bd 5 6 = ((-2147483648), 2147483647)) (xi_lo _) (Int.le_of_lt_add_one (xi_hi _))
                  have hF := hF.wr eI46 t_a0 rfl
                  have ta := q_tokA (g := gb) (p := f0_6.toInt) (a := v3.toInt) (by omega) (by omega) (by omega) hx8_1 (q_B_f (by omega))
                  have tin := q_at_in (f := I0 bt) (n := (I0 tp 1).toInt) (p := v3.toInt) (by rw [← egb]; omega)
                  have tk := q_tok3 ta (by omega) (by omega) (by omega)
                  have hS := g.2.1
                  exact W.vret hx hb hr (fun t ht hW => ⟨⟨I46, rfl, ⟨hI, hF, ⟨(by rw [atp, abt, ← egb, qf0_6, show I46 a0 5 = v3 from (h_n2 eI46 (by decide)).trans ((h_n2 eI44 (by decide)).trans (ev3.symm))]; exact ta.symm), (by rw [atp, abt, ← egb, qf0_6, show I46 a0 6 = v45 from h_n0 eI46]; rw [tk.1]; omega), (by rw [atp, abt, ← egb, qf0_6, show I46 a0 4 = 3 from (h_n2 eI46 (by decide)).trans (h_n0 eI44)]; rw [tk.2, if_pos (by omega)]; decide), (fun h9 => absurd h9 (by rw [show I46 a0 4 = 3 from (h_n2 eI46 (by decide)).trans (h_n0 eI44)]; decide)), (by rw [qf0_6, show I46 a0 5 = v3 from (h_n2 eI46 (by decide)).trans ((h_n2 eI44 (by decide)).trans (ev3.symm)), show I46 a0 6 = v45 from h_n0 eI46]; omega), (Or.inr (by rw [show I46 a0 5 = v3 from (h_n2 eI46 (by decide)).trans ((h_n2 eI44 (by decide)).trans (ev3.symm)), show I46 a0 6 = v45 from h_n0 eI46]; omega))⟩⟩, h_ret g ht⟩, hS.F ht⟩) hS.2.2 dX4_readToken_138
              · skip
                refine lv_if_eq (tgt := 113) hx hb dX4_readToken_103 (by decide) (fun h => absurd h (by decide)) (fun _ => ?_)
                refine lv_aload_n hx hb dX4_readToken_106 rfl (lv_at hl 1 rfl) ?_
                have hFo := hF
                refine va_callv (va_runV (As := []) (rest := []) ⟨hx, hb, hml, hown, hts⟩ (tX4_readNumberF l E X A z I2 L0 a0 t_a0 (by rw [show I2 a0 5 = v3 from ev3.symm]; omega)) (cwV 0 hts gX4_readToken_X4_readNumber rfl rfl rfl (by decide +kernel) ⟨Nat.le_of_ble_eq_true rfl, Nat.le_of_ble_eq_true rfl⟩) ⟨h_blind _ _ _ _ _ _ _, h_recv g t_a0 (by decide) so_5 (q := (RX4, TX4, 9)) rfl, h_pre _ hE hk hX hA hI hR g⟩ rfl rfl hl.1 rfl (lv_room (Nat.le_of_ble_eq_true rfl)) dX4_readToken_107 ⟨Nat.le_of_ble_eq_true rfl, Nat.le_of_ble_eq_true rfl⟩) g.2.1 (fun q _ h => h) (fun q h => h) (fun I49 t H1 locs ht hvm h48 hB hz1 hk1 hS => ?_)
                obtain ⟨hI, fh48, h48⟩ := h48
                replace g := h_after g hB ht hS
                generalize H1 = H at g
                clear hB hk1 hz1 ht hvm hS
                have hF := hF.call fh48 rfl
                obtain ⟨h48p0, h48p1, h48p2, h48p3⟩ := h48
                rw [atp, abt, show I2 bt = I0 bt from funext (fun k => hFo.at tbt rfl), show I2 tp 1 = I0 tp 1 from hFo.at ttp rfl, ← egb] at h48p1 h48p2 h48p3
                rw [show I2 a0 5 = v3 from ev3.symm] at h48p0 h48p1 h48p3
                obtain ⟨v50, ev50⟩ : ∃ v : Int32, v = I49 a0 6 := ⟨_, rfl⟩
                rw [← ev50] at h48p0 h48p1 h48p2 h48p3
                obtain ⟨v51, ev51⟩ : ∃ v : Int32, v = I49 a0 4 := ⟨_, rfl⟩
                rw [← ev51] at h48p3
                obtain ⟨v52, ev52⟩ : ∃ v : Int32, v = I49 a0 7 := ⟨_, rfl⟩
                rw [← ev52] at h48p3
                refine lv_goto (tgt := 138) hx hb dX4_readToken_110 (by decide) ?_
                have ta := q_tokA (g := gb) (p := f0_6.toInt) (a := v3.toInt) (by omega) (by omega) (by omega) hx8_1 (q_B_f (by omega))
                have tin := q_at_in (f := I0 bt) (n := (I0 tp 1).toInt) (p := v3.toInt) (by rw [← egb]; omega)
                have tl := q_ne (g := gb) (a := v3.toInt) (e := v50.toInt) (by omega) (q_D_t (by omega)) h48p2
                have tk := q_tok2 ta (by omega) (by omega) (by omega) (by omega) h48p1 h48p2
                have hS := g.2.1
                exact W.vret hx hb hr (fun t ht hW => ⟨⟨I49, rfl, ⟨hI, hF, ⟨(by rw [atp, abt, ← egb, qf0_6, show I49 a0 5 = v3 from (h_F.at fh48 t_a0 rfl).trans (ev3.symm)]; exact ta.symm), (by rw [atp, abt, ← egb, qf0_6, show I49 a0 6 = v50 from ev50.symm]; exact tk.1.symm), (by rw [atp, abt, ← egb, qf0_6, show I49 a0 4 = v51 from ev51.symm]; rw [tk.2.1]; rcases h48p3 with ⟨a1, a2, a3⟩ | ⟨a1, a2⟩; rw [if_pos a1]; exact a2; rw [if_neg (by omega)]; exact a2), (by rw [atp, abt, ← egb, qf0_6, show I49 a0 4 = v51 from ev51.symm, show I49 a0 7 = v52 from ev52.symm]; intro h9; rw [tk.2.2]; rcases h48p3 with ⟨a1, a2, a3⟩ | ⟨a1, a2⟩; exact a3; omega), (by rw [qf0_6, show I49 a0 5 = v3 from (h_F.at fh48 t_a0 rfl).trans (ev3.symm), show I49 a0 6 = v50 from ev50.symm]; omega), (Or.inr (by rw [show I49 a0 5 = v3 from (h_F.at fh48 t_a0 rfl).trans (ev3.symm), show I49 a0 6 = v50 from ev50.symm]; omega))⟩⟩, h_ret g ht⟩, hS.F ht⟩) hS.2.2 dX4_readToken_138
            · skip
              refine lv_if_eq (tgt := 99) hx hb dX4_readToken_89 (by decide) (fun h => absurd h (by decide)) (fun _ => ?_)
              refine lv_aload_n hx hb dX4_readToken_92 rfl (lv_at hl 1 rfl) ?_
              have hFo := hF
              refine va_callv (va_runV (As := []) (rest := []) ⟨hx, hb, hml, hown, hts⟩ (tX4_readWordF l E X A z I2 L0 a0 t_a0 (by rw [show I2 a0 5 = v3 from ev3.symm]; omega)) (cwV 0 hts gX4_readToken_X4_readWord rfl rfl rfl (by decide +kernel) ⟨Nat.le_of_ble_eq_true rfl, Nat.le_of_ble_eq_true rfl⟩) ⟨h_blind _ _ _ _ _ _ _, h_recv g t_a0 (by decide) so_5 (q := (RX4, TX4, 9)) rfl, h_pre _ hE hk hX hA hI hR g⟩ rfl rfl hl.1 rfl (lv_room (Nat.le_of_ble_eq_true rfl)) dX4_readToken_93 ⟨Nat.le_of_ble_eq_true rfl, Nat.le_of_ble_eq_true rfl⟩) g.2.1 (fun q _ h => h) (fun q h => h) (fun I55 t H1 locs ht hvm h54 hB hz1 hk1 hS => ?_)
              obtain ⟨hI, fh54, h54⟩ := h54
              replace g := h_after g hB ht hS
              generalize H1 = H at g
              clear hB hk1 hz1 ht hvm hS
              have hF := hF.call fh54 rfl
              obtain ⟨h54p0, h54p1, h54p2, h54p3⟩ := h54
              rw [atp, abt, show I2 bt = I0 bt from funext (fun k => hFo.at tbt rfl), show I2 tp 1 = I0 tp 1 from hFo.at ttp rfl, ← egb] at h54p1 h54p2
              rw [show I2 a0 5 = v3 from ev3.symm] at h54p0 h54p1
              obtain ⟨v56, ev56⟩ : ∃ v : Int32, v = I55 a0 6 := ⟨_, rfl⟩
              rw [← ev56] at h54p0 h54p1 h54p2
              obtain ⟨v57, ev57⟩ : ∃ v : Int32, v = I55 a0 4 := ⟨_, rfl⟩
              rw [← ev57] at h54p3
              refine lv_goto (tgt := 138) hx hb dX4_readToken_96 (by decide) ?_
              have ta := q_tokA (g := gb) (p := f0_6.toInt) (a := v3.toInt) (by omega) (by omega) (by omega) hx8_1 (q_B_f (by omega))
              have tin := q_at_in (f := I0 bt) (n := (I0 tp 1).toInt) (p := v3.toInt) (by rw [← egb]; omega)
              have tl := q_ne (g := gb) (a := v3.toInt) (e := v56.toInt) (by omega) (q_L_t (by omega)) h54p2
              have tk := q_tok1 ta (by omega) (by omega) (by omega) (by omega) h54p1 h54p2
              have hS := g.2.1
              exact W.vret hx hb hr (fun t ht hW => ⟨⟨I55, rfl, ⟨hI, hF, ⟨(by rw [atp, abt, ← egb, qf0_6, show I55 a0 5 = v3 from (h_F.at fh54 t_a0 rfl).trans (ev3.symm)]; exact ta.symm), (by rw [atp, abt, ← egb, qf0_6, show I55 a0 6 = v56 from ev56.symm]; exact tk.1.symm), (by rw [atp, abt, ← egb, qf0_6, show I55 a0 4 = v57 from ev57.symm]; rw [tk.2]; exact h54p3), (fun h9 => absurd h9 (by rw [show I55 a0 4 = v57 from ev57.symm]; omega)), (by rw [qf0_6, show I55 a0 5 = v3 from (h_F.at fh54 t_a0 rfl).trans (ev3.symm), show I55 a0 6 = v56 from ev56.symm]; omega), (Or.inr (by rw [show I55 a0 5 = v3 from (h_F.at fh54 t_a0 rfl).trans (ev3.symm), show I55 a0 6 = v56 from ev56.symm]; omega))⟩⟩, h_ret g ht⟩, hS.F ht⟩) hS.2.2 dX4_readToken_138
          · have ic35 := (xi_eq c35 rfl (by decide) : rh34.toInt = (-1))
            refine lv_aload_n hx hb dX4_readToken_69 rfl (lv_at hl 1 rfl) ?_
            refine lv_iconst (v := 0) hx hb dX4_readToken_70 (by decide) ?_
            refine h_putI (ty := .int) (v := 0) hx hb hts iX4 tyX4 tyX4_ok nmX4 hown g t_a0 (by decide) so_5 rfl 4 (by decide) rfl (hts (.fieldLink RX4 43 "CapLeague$LawReader" "kind" "I") (by decide +kernel)) rfl rfl (by decide +kernel) rfl rfl dX4_readToken_71 (fun I58 H locs eI58 g => ?_)
            have hI := hI.wr eI58 t_a0 (rfl : h_bd 5 4 = ((-2147483648), 2147483647)) (by decide) (by decide)
            have hF := hF.wr eI58 t_a0 rfl
            refine lv_aload_n hx hb dX4_readToken_74 rfl (lv_at hl 1 rfl) ?_
            refine lv_aload_n hx hb dX4_readToken_75 rfl (lv_at hl 1 rfl) ?_
            refine h_get (v := .int v3) hx hb hts iX4 hown g t_a0 (by decide) so_5 rfl 5 (by decide) (hts (.fieldLink RX4 84 "CapLeague$LawReader" "place" "I") (by decide +kernel)) rfl dX4_readToken_76 (congrArg Value.int ((h_n2 eI58 (by decide)).trans (ev3.symm))) ?_
            refine h_putI (ty := .int) (v := v3) hx hb hts iX4 tyX4 tyX4_ok nmX4 hown g t_a0 (by decide) so_5 rfl 6 (by decide) rfl (hts (.fieldLink RX4 32 "CapLeague$LawReader" "behind" "I") (by decide +kernel)) rfl rfl (by decide +kernel) rfl rfl dX4_readToken_79 (fun I59 H locs eI59 g => ?_)
            have hI := hI.wr eI59 t_a0 (rfl : h_bd 5 6 = ((-2147483648), 2147483647)) (xi_lo _) (Int.le_of_lt_add_one (xi_hi _))
            have hF := hF.wr eI59 t_a0 rfl
            refine lv_goto (tgt := 138) hx hb dX4_readToken_82 (by decide) ?_
            have ta := q_tokA (g := gb) (p := f0_6.toInt) (a := v3.toInt) (by omega) (by omega) (by omega) hx8_1 (q_B_f (by omega))
            have tk := q_tok0 ta (by omega)
            have hS := g.2.1
            exact W.vret hx hb hr (fun t ht hW => ⟨⟨I59, rfl, ⟨hI, hF, ⟨(by rw [atp, abt, ← egb, qf0_6, show I59 a0 5 = v3 from (h_n2 eI59 (by decide)).trans ((h_n2 eI58 (by decide)).trans (ev3.symm))]; exact ta.symm), (by rw [atp, abt, ← egb, qf0_6, show I59 a0 6 = v3 from h_n0 eI59]; exact tk.1.symm), (by rw [atp, abt, ← egb, qf0_6, show I59 a0 4 = 0 from (h_n2 eI59 (by decide)).trans (h_n0 eI58)]; rw [tk.2]; decide), (fun h9 => absurd h9 (by rw [show I59 a0 4 = 0 from (h_n2 eI59 (by decide)).trans (h_n0 eI58)]; decide)), (by rw [qf0_6, show I59 a0 5 = v3 from (h_n2 eI59 (by decide)).trans ((h_n2 eI58 (by decide)).trans (ev3.symm)), show I59 a0 6 = v3 from h_n0 eI59]; omega), (Or.inl (by rw [show I59 a0 4 = 0 from (h_n2 eI59 (by decide)).trans (h_n0 eI58)]; decide))⟩⟩, h_ret g ht⟩, hS.F ht⟩) hS.2.2 dX4_readToken_138
        · skip
          refine lv_if_eq (tgt := 52) hx hb dX4_readToken_36 (by decide) (fun h => absurd h (by decide)) (fun _ => ?_)
          refine lv_aload_n hx hb dX4_readToken_39 rfl (lv_at hl 0 rfl) ?_
          refine lv_dup hx hb dX4_readToken_40 rfl ?_
          refine h_get (v := .int v3) hx hb hts iX4 hown g t_a0 (by decide) so_5 rfl 5 (by decide) (hts (.fieldLink RX4 84 "CapLeague$LawReader" "place" "I") (by decide +kernel)) rfl dX4_readToken_41 (congrArg Value.int (ev3.symm)) ?_
          refine lv_iconst (v := 1) hx hb dX4_readToken_44 (by decide) ?_
          refine lv_iadd hx hb dX4_readToken_45 ?_
          refine lv_topi (fun v61 ev61 => ?_)
          have jv61 : v61.toInt = v3.toInt + 1 := xi_add ev61 rfl (by decide) (by omega) (by omega)
          refine h_putI (ty := .int) (v := v61) hx hb hts iX4 tyX4 tyX4_ok nmX4 hown g t_a0 (by decide) so_5 rfl 5 (by decide) rfl (hts (.fieldLink RX4 84 "CapLeague$LawReader" "place" "I") (by decide +kernel)) rfl rfl (by decide +kernel) rfl rfl dX4_readToken_46 (fun I62 H locs eI62 g => ?_)
          have hI := hI.wr eI62 t_a0 (rfl : h_bd 5 5 = ((-2147483648), 2147483647)) (xi_lo _) (Int.le_of_lt_add_one (xi_hi _))
          have hF := hF.wr eI62 t_a0 rfl
          refine lv_goto (tgt := 8) hx hb dX4_readToken_49 (by decide) ?_
          have k63 : (I62 a0 5).toInt = v61.toInt := (congrArg Int32.toInt (h_n0 eI62)).trans rfl
          exact ih8 I62 _ _ _ g hI hF (lv_sub hl [0] rfl) (by omega) (q_more hx8_1 (q_B_t (by omega)) (by omega)) (by omega)
  have k64 : (I1 a0 5).toInt = f0_6.toInt := (congrArg Int32.toInt (h_n0 eI1)).trans rfl
  exact loop8_0 _ I1 _ _ _ g hI hF (lv_sub hl [0] rfl) (by omega) (q_none (by omega)) (show (501 - (I1 a0 5).toInt) < (((501 - (I1 a0 5).toInt).toNat + 1 : Nat) : Int) by omega)
set_option maxHeartbeats 4000000 in
set_option maxRecDepth 100000 in
theorem tJ1_charAtF (l : Launch) (E : tE) (X : tX) (A : Nat → Prop) (z : tZ) (I0 : tI) (L0 : tL) (i1 : Nat) (hi1 : i1 < 10) (x : Int32) (x_t : Int) (h_x : x.toInt = x_t) (b_x : 0 ≤ x_t ∧ x_t ≤ 2147483647) (hxy : x_t < (h_len10.getD i1 0 : Int)) : Met l yJ1_charAt_3b067 wsJ1_charAt_3b067 ({ frames := 3, cells := 0, slots := 0, locals := 192 }) (va_Pc [.ref (X.adV i1), .int x] (h_P E X A z I0 L0)) (vp_Si (fun r => (0 ≤ r.toInt ∧ r.toInt ≤ 255) ∧ (r.toInt = ((h_byt10.getD i1 []).getD x_t.toNat 0).toInt % 256))) 0 0 (fun _ => False) := by
  refine Met.ofW (cc := cJ1_charAt_3b067) (maxL := 2) (ret := (some .char)) (by decide) rfl ?_
  intro pr_ ev_ s m args below meth cd_ s₁ B hml hv
  obtain ⟨rfl, hE, hk, hX, hA, hK, hI, hR, hB0⟩ := hv
  have g : h_G h_so h_fk E A z I0 L0 s s.heap s.heap [] := ⟨hK, va_S.rf, hB0⟩
  have hx := B.exec
  have hb := B.bytes
  have hr := B.returns
  have hts := atoms_spec (ws := wsJ1_charAt_3b067) B.pre
  have hown : s.vm.findClass RJ1 = some m.cls := findClass_of_methodNamed B.named
  have hlocks := B.notSynchronized
  have hl := lv_entry ([.ref (X.adV i1), .int x]) (n := 2) (Nat.le_of_ble_eq_true rfl)
  rw [lg_entry_eq]
  generalize (lg_sl ([.ref (X.adV i1), .int x]) ++ List.replicate (2 - (lg_sl ([.ref (X.adV i1), .int x])).length) Slot.unset).toArray = ls at hl ⊢
  have hl : lv_has ls 2 [(0, .ref (X.adV i1)), (1, .int x)] := hl
  refine lv_iload_n hx hb dJ1_charAt_3b067_0 rfl (lv_at hl 1 rfl) ?_
  refine lv_aload_n hx hb dJ1_charAt_3b067_1 rfl (lv_at hl 0 rfl) ?_
  refine va_tlen hx hb (hX.2.2.2.2.2.1 i1 hi1).2.2.2 g.2.1 rfl dJ1_charAt_3b067_2 ?_
  refine lv_topi (fun v1 ev1 => ?_)
  have jv1 := h_slenI ev1
  have kv1 := h_slen i1
  refine va_csv (W.runS (As := [.int x, .int v1]) (rest := []) ⟨hx, hb, hml, hown, hts⟩ (tJ0_checkIndex_df160 l E X A z I0 L0 x (x_t) h_x (by omega) v1 (v1.toInt) rfl (by omega)) (va_cwS 2 hts gJ1_charAt_3b067_J0_checkIndex_df160 rfl rfl rfl (by decide +kernel) ⟨Nat.le_of_ble_eq_true rfl, Nat.le_of_ble_eq_true rfl⟩) ⟨h_blind _ _ _ _ _ _ _, h_pre _ hE hk hX hA hI hR g⟩ rfl rfl hl.1 rfl (lv_room (Nat.le_of_ble_eq_true rfl)) dJ1_charAt_3b067_3 ⟨Nat.le_of_ble_eq_true rfl, Nat.le_of_ble_eq_true rfl⟩) (fun h2 => ?_)
  refine lv_aload_n hx hb dJ1_charAt_3b067_6 rfl (lv_at hl 0 rfl) ?_
  refine lv_iload_n hx hb dJ1_charAt_3b067_7 rfl (lv_at hl 1 rfl) ?_
  refine va_tb hx hb (hX.2.2.2.2.2.1 i1 hi1).2.2.2 g.2.1 (xi_in (by rw [h_x]; omega) (by rw [h_x]; omega)) rfl dJ1_charAt_3b067_8 ?_
  refine lv_topi (fun v3 ev3 => ?_)
  have jv3 : -2147483648 ≤ v3.toInt ∧ v3.toInt ≤ 2147483647 := ⟨xi_lo _, Int.le_of_lt_add_one (xi_hi _)⟩
  refine lv_sipush (v := 255) hx hb dJ1_charAt_3b067_9 (by decide) ?_
  refine lv_iand hx hb dJ1_charAt_3b067_12 ?_
  refine lv_topi (fun v4 ev4 => ?_)
  have jv4 : 0 ≤ v4.toInt ∧ v4.toInt ≤ 255 := h_andn 255 (by decide) ev4
  have mv4 := h_and255 ev4
  refine lv_i2c hx hb dJ1_charAt_3b067_13 rfl ?_
  refine lv_topi (fun v5 ev5 => ?_)
  have jv5 := h_i2c ev5 (by omega) (by omega)
  exact W.zret (v := v5) hx hb hr (h_nc (by omega) (by omega)) (fun t ht hW => ⟨v5, rfl, ⟨⟨(by omega), (by omega)⟩, (by rw [← h_keq (i := x) (t := x_t) (k := x_t.toNat) h_x (by omega) (by omega), ← ev3]; omega)⟩, ht⟩) (fun _ h => by cases h) dJ1_charAt_3b067_14
set_option maxHeartbeats 4000000 in
set_option maxRecDepth 100000 in
theorem tJ0_charAtF (l : Launch) (E : tE) (X : tX) (A : Nat → Prop) (z : tZ) (I0 : tI) (L0 : tL) (i1 : Nat) (hi1 : i1 < 10) (x : Int32) (x_t : Int) (h_x : x.toInt = x_t) (b_x : 0 ≤ x_t ∧ x_t ≤ 2147483647) (hxy : x_t < (h_len10.getD i1 0 : Int)) : Met l yJ0_charAt_5068e wsJ0_charAt_5068e ({ frames := 4, cells := 0, slots := 0, locals := 256 }) (va_Pc [.ref (X.adK i1), .int x] (h_P E X A z I0 L0)) (vp_Si (fun r => (0 ≤ r.toInt ∧ r.toInt ≤ 255) ∧ (r.toInt = ((h_byt10.getD i1 []).getD x_t.toNat 0).toInt % 256))) 0 0 (fun _ => False) := by
  refine Met.ofW (cc := cJ0_charAt_5068e) (maxL := 2) (ret := (some .char)) (by decide) rfl ?_
  intro pr_ ev_ s m args below meth cd_ s₁ B hml hv
  obtain ⟨rfl, hE, hk, hX, hA, hK, hI, hR, hB0⟩ := hv
  have g : h_G h_so h_fk E A z I0 L0 s s.heap s.heap [] := ⟨hK, va_S.rf, hB0⟩
  have hx := B.exec
  have hb := B.bytes
  have hr := B.returns
  have hts := atoms_spec (ws := wsJ0_charAt_5068e) B.pre
  have hown : s.vm.findClass RJ0 = some m.cls := findClass_of_methodNamed B.named
  have hlocks := B.notSynchronized
  have hl := lv_entry ([.ref (X.adK i1), .int x]) (n := 2) (Nat.le_of_ble_eq_true rfl)
  rw [lg_entry_eq]
  generalize (lg_sl ([.ref (X.adK i1), .int x]) ++ List.replicate (2 - (lg_sl ([.ref (X.adK i1), .int x])).length) Slot.unset).toArray = ls at hl ⊢
  have hl : lv_has ls 2 [(0, .ref (X.adK i1)), (1, .int x)] := hl
  refine lv_aload_n hx hb dJ0_charAt_5068e_0 rfl (lv_at hl 0 rfl) ?_
  refine vp_callSi (W.runV (As := []) (rest := []) ⟨hx, hb, hml, hown, hts⟩ (tJ0_isLatin1_aae02 l E X A z I0 L0 i1 hi1) (cwV 0 hts gJ0_charAt_5068e_J0_isLatin1_aae02 rfl rfl rfl (by decide +kernel) ⟨Nat.le_of_ble_eq_true rfl, Nat.le_of_ble_eq_true rfl⟩) ⟨h_blind _ _ _ _ _ _ _, vk_recv hX.2.2.2.2.2 hi1 g.2.1, h_pre _ hE hk hX hA hI hR g⟩ rfl rfl hl.1 rfl (lv_room (Nat.le_of_ble_eq_true rfl)) dJ0_charAt_5068e_1 ⟨Nat.le_of_ble_eq_true rfl, Nat.le_of_ble_eq_true rfl⟩) (fun rh1 h1 => ?_)
  rcases h1 with ⟨rfl, h1⟩
  · skip
    refine lv_if_eq (tgt := 16) hx hb dJ0_charAt_5068e_4 (by decide) (fun h => absurd h (by decide)) (fun _ => ?_)
    refine lv_aload_n hx hb dJ0_charAt_5068e_7 rfl (lv_at hl 0 rfl) ?_
    refine vk_getf (o := "java/lang/String") (n := "value") (d := "[B") hx hb (hX.2.2.2.2.2.1 i1 hi1).2.2.1 g.2.1 hown (hts (.fieldLink RJ0 9 "java/lang/String" "value" "[B") (by decide +kernel)) (fun _ h => h) dJ0_charAt_5068e_8 ?_
    refine lv_iload_n hx hb dJ0_charAt_5068e_11 rfl (lv_at hl 1 rfl) ?_
    refine vp_callSi (W.runS (As := [.ref (X.adV i1), .int x]) (rest := []) ⟨hx, hb, hml, hown, hts⟩ (tJ1_charAtF l E X A z I0 L0 i1 hi1 x (x_t) h_x (by omega) (by omega)) (va_cwS 2 hts gJ0_charAt_5068e_J1_charAt_3b067 rfl rfl rfl (by decide +kernel) ⟨Nat.le_of_ble_eq_true rfl, Nat.le_of_ble_eq_true rfl⟩) ⟨h_blind _ _ _ _ _ _ _, h_pre _ hE hk hX hA hI hR g⟩ rfl rfl hl.1 rfl (lv_room (Nat.le_of_ble_eq_true rfl)) dJ0_charAt_5068e_12 ⟨Nat.le_of_ble_eq_true rfl, Nat.le_of_ble_eq_true rfl⟩) (fun rh3 h3 => ?_)
    obtain ⟨h3, h3p0⟩ := h3
    exact W.zret (v := rh3) hx hb hr (h_nc (by omega) (by omega)) (fun t ht hW => ⟨rh3, rfl, ⟨⟨(by omega), (by omega)⟩, (h3p0)⟩, ht⟩) (fun _ h => by cases h) dJ0_charAt_5068e_15
set_option maxHeartbeats 4000000 in
set_option maxRecDepth 100000 in
theorem tX4_wordOfF (l : Launch) (E : tE) (X : tX) (A : Nat → Prop) (z : tZ) (I0 : tI) (L0 : tL) (x : Int32) (x_t : Int) (h_x : x.toInt = x_t) : Met l yX4_wordOf wsX4_wordOf ({ frames := 1, cells := 0, slots := 0, locals := 64 }) (va_Pc [.int x] (h_P E X A z I0 L0)) (va_Sq (fun r => (r = some (X.adK (h_wi x_t)) ∧ (h_wi x_t) < 10))) 0 0 (fun _ => False) := by
  refine Met.ofW (cc := cX4_wordOf) (maxL := 1) (ret := (some (.object "java/lang/String"))) (by decide) rfl ?_
  intro pr_ ev_ s m args below meth cd_ s₁ B hml hv
  obtain ⟨rfl, hE, hk, hX, hA, hK, hI, hR, hB0⟩ := hv
  have g : h_G h_so h_fk E A z I0 L0 s s.heap s.heap [] := ⟨hK, va_S.rf, hB0⟩
  have hx := B.exec
  have hb := B.bytes
  have hr := B.returns
  have hts := atoms_spec (ws := wsX4_wordOf) B.pre
  have hown : s.vm.findClass RX4 = some m.cls := findClass_of_methodNamed B.named
  have hlocks := B.notSynchronized
  have hl := lv_entry ([.int x]) (n := 1) (Nat.le_of_ble_eq_true rfl)
  rw [lg_entry_eq]
  generalize (lg_sl ([.int x]) ++ List.replicate (1 - (lg_sl ([.int x])).length) Slot.unset).toArray = ls at hl ⊢
  have hl : lv_has ls 1 [(0, .int x)] := hl
  have b_x : -2147483648 ≤ x_t ∧ x_t ≤ 2147483647 := h_x ▸ ⟨xi_lo x, Int.le_of_lt_add_one (xi_hi x)⟩
  refine lv_iload_n hx hb dX4_wordOf_0 rfl (lv_at hl 0 rfl) ?_
  have qc1 : x.toInt = x_t := h_x
  rcases (show (x.toInt < 0 ∨ 8 < x.toInt) ∨ x.toInt = 0 ∨ x.toInt = 1 ∨ x.toInt = 2 ∨ x.toInt = 3 ∨ x.toInt = 4 ∨ x.toInt = 5 ∨ x.toInt = 6 ∨ x.toInt = 7 ∨ x.toInt = 8 by omega) with c1 | c1 | c1 | c1 | c1 | c1 | c1 | c1 | c1 | c1
  · refine lv_tableOut (tgt := 76) hx hb dX4_wordOf_1 c1 (by decide) ?_
    refine va_ldcS (tx := "") (q := X.adK 8) hx hb hown (hk.1 8 (RX4, 142, "") h_str_8) dX4_wordOf_76 ?_
    exact W.aret (v := .ref (X.adK 8)) hx hb hr (Or.inl ⟨_, rfl⟩) (Or.inr ⟨_, rfl⟩) (fun t ht hW => ⟨some (X.adK 8), rfl, (by have e9 : (h_wi x_t) = 8 := (by unfold h_wi; repeat (first | rw [if_pos (by omega)] | rw [if_neg (by omega)])); exact ⟨by rw [e9], by rw [e9]; decide⟩), ht⟩) (fun _ h => by cases h) dX4_wordOf_78
  · refine lv_tableIn (off := 51) (tgt := 52) hx hb dX4_wordOf_1 (by omega) (by omega) (by rw [show (x.toInt - 0).toNat = 0 by omega]; rfl) (by decide) ?_
    refine va_ldcS (tx := "cap") (q := X.adK 0) hx hb hown (hk.1 0 (RX4, 126, "cap") h_str_0) dX4_wordOf_52 ?_
    exact W.aret (v := .ref (X.adK 0)) hx hb hr (Or.inl ⟨_, rfl⟩) (Or.inr ⟨_, rfl⟩) (fun t ht hW => ⟨some (X.adK 0), rfl, (by have e9 : (h_wi x_t) = 0 := (by unfold h_wi; repeat (first | rw [if_pos (by omega)] | rw [if_neg (by omega)])); exact ⟨by rw [e9], by rw [e9]; decide⟩), ht⟩) (fun _ h => by cases h) dX4_wordOf_54
  · refine lv_tableIn (off := 54) (tgt := 55) hx hb dX4_wordOf_1 (by omega) (by omega) (by rw [show (x.toInt - 0).toNat = 1 by omega]; rfl) (by decide) ?_
    refine va_ldcS (tx := "roster") (q := X.adK 1) hx hb hown (hk.1 1 (RX4, 128, "roster") h_str_1) dX4_wordOf_55 ?_
    exact W.aret (v := .ref (X.adK 1)) hx hb hr (Or.inl ⟨_, rfl⟩) (Or.inr ⟨_, rfl⟩) (fun t ht hW => ⟨some (X.adK 1), rfl, (by have e9 : (h_wi x_t) = 1 := (by unfold h_wi; repeat (first | rw [if_pos (by omega)] | rw [if_neg (by omega)])); exact ⟨by rw [e9], by rw [e9]; decide⟩), ht⟩) (fun _ h => by cases h) dX4_wordOf_57
  · refine lv_tableIn (off := 57) (tgt := 58) hx hb dX4_wordOf_1 (by omega) (by omega) (by rw [show (x.toInt - 0).toNat = 2 by omega]; rfl) (by decide) ?_
    refine va_ldcS (tx := "years") (q := X.adK 2) hx hb hown (hk.1 2 (RX4, 130, "years") h_str_2) dX4_wordOf_58 ?_
    exact W.aret (v := .ref (X.adK 2)) hx hb hr (Or.inl ⟨_, rfl⟩) (Or.inr ⟨_, rfl⟩) (fun t ht hW => ⟨some (X.adK 2), rfl, (by have e9 : (h_wi x_t) = 2 := (by unfold h_wi; repeat (first | rw [if_pos (by omega)] | rw [if_neg (by omega)])); exact ⟨by rw [e9], by rw [e9]; decide⟩), ht⟩) (fun _ h => by cases h) dX4_wordOf_60
  · refine lv_tableIn (off := 60) (tgt := 61) hx hb dX4_wordOf_1 (by omega) (by omega) (by rw [show (x.toInt - 0).toNat = 3 by omega]; rfl) (by decide) ?_
    refine va_ldcS (tx := "spare") (q := X.adK 3) hx hb hown (hk.1 3 (RX4, 132, "spare") h_str_3) dX4_wordOf_61 ?_
    exact W.aret (v := .ref (X.adK 3)) hx hb hr (Or.inl ⟨_, rfl⟩) (Or.inr ⟨_, rfl⟩) (fun t ht hW => ⟨some (X.adK 3), rfl, (by have e9 : (h_wi x_t) = 3 := (by unfold h_wi; repeat (first | rw [if_pos (by omega)] | rw [if_neg (by omega)])); exact ⟨by rw [e9], by rw [e9]; decide⟩), ht⟩) (fun _ h => by cases h) dX4_wordOf_63
  · refine lv_tableIn (off := 63) (tgt := 64) hx hb dX4_wordOf_1 (by omega) (by omega) (by rw [show (x.toInt - 0).toNat = 4 by omega]; rfl) (by decide) ?_
    refine va_ldcS (tx := "match") (q := X.adK 4) hx hb hown (hk.1 4 (RX4, 134, "match") h_str_4) dX4_wordOf_64 ?_
    exact W.aret (v := .ref (X.adK 4)) hx hb hr (Or.inl ⟨_, rfl⟩) (Or.inr ⟨_, rfl⟩) (fun t ht hW => ⟨some (X.adK 4), rfl, (by have e9 : (h_wi x_t) = 4 := (by unfold h_wi; repeat (first | rw [if_pos (by omega)] | rw [if_neg (by omega)])); exact ⟨by rw [e9], by rw [e9]; decide⟩), ht⟩) (fun _ h => by cases h) dX4_wordOf_66
  · refine lv_tableIn (off := 75) (tgt := 76) hx hb dX4_wordOf_1 (by omega) (by omega) (by rw [show (x.toInt - 0).toNat = 5 by omega]; rfl) (by decide) ?_
    refine va_ldcS (tx := "") (q := X.adK 8) hx hb hown (hk.1 8 (RX4, 142, "") h_str_8) dX4_wordOf_76 ?_
    exact W.aret (v := .ref (X.adK 8)) hx hb hr (Or.inl ⟨_, rfl⟩) (Or.inr ⟨_, rfl⟩) (fun t ht hW => ⟨some (X.adK 8), rfl, (by have e9 : (h_wi x_t) = 8 := (by unfold h_wi; repeat (first | rw [if_pos (by omega)] | rw [if_neg (by omega)])); exact ⟨by rw [e9], by rw [e9]; decide⟩), ht⟩) (fun _ h => by cases h) dX4_wordOf_78
  · refine lv_tableIn (off := 66) (tgt := 67) hx hb dX4_wordOf_1 (by omega) (by omega) (by rw [show (x.toInt - 0).toNat = 6 by omega]; rfl) (by decide) ?_
    refine va_ldcS (tx := "hurt") (q := X.adK 5) hx hb hown (hk.1 5 (RX4, 136, "hurt") h_str_5) dX4_wordOf_67 ?_
    exact W.aret (v := .ref (X.adK 5)) hx hb hr (Or.inl ⟨_, rfl⟩) (Or.inr ⟨_, rfl⟩) (fun t ht hW => ⟨some (X.adK 5), rfl, (by have e9 : (h_wi x_t) = 5 := (by unfold h_wi; repeat (first | rw [if_pos (by omega)] | rw [if_neg (by omega)])); exact ⟨by rw [e9], by rw [e9]; decide⟩), ht⟩) (fun _ h => by cases h) dX4_wordOf_69
  · refine lv_tableIn (off := 69) (tgt := 70) hx hb dX4_wordOf_1 (by omega) (by omega) (by rw [show (x.toInt - 0).toNat = 7 by omega]; rfl) (by decide) ?_
    refine va_ldcS (tx := "tax") (q := X.adK 6) hx hb hown (hk.1 6 (RX4, 138, "tax") h_str_6) dX4_wordOf_70 ?_
    exact W.aret (v := .ref (X.adK 6)) hx hb hr (Or.inl ⟨_, rfl⟩) (Or.inr ⟨_, rfl⟩) (fun t ht hW => ⟨some (X.adK 6), rfl, (by have e9 : (h_wi x_t) = 6 := (by unfold h_wi; repeat (first | rw [if_pos (by omega)] | rw [if_neg (by omega)])); exact ⟨by rw [e9], by rw [e9]; decide⟩), ht⟩) (fun _ h => by cases h) dX4_wordOf_72
  · refine lv_tableIn (off := 72) (tgt := 73) hx hb dX4_wordOf_1 (by omega) (by omega) (by rw [show (x.toInt - 0).toNat = 8 by omega]; rfl) (by decide) ?_
    refine va_ldcS (tx := "lots") (q := X.adK 7) hx hb hown (hk.1 7 (RX4, 140, "lots") h_str_7) dX4_wordOf_73 ?_
    exact W.aret (v := .ref (X.adK 7)) hx hb hr (Or.inl ⟨_, rfl⟩) (Or.inr ⟨_, rfl⟩) (fun t ht hW => ⟨some (X.adK 7), rfl, (by have e9 : (h_wi x_t) = 7 := (by unfold h_wi; repeat (first | rw [if_pos (by omega)] | rw [if_neg (by omega)])); exact ⟨by rw [e9], by rw [e9]; decide⟩), ht⟩) (fun _ h => by cases h) dX4_wordOf_75
set_option maxHeartbeats 4000000 in
set_option maxRecDepth 100000 in
theorem tX4_isWordF (l : Launch) (E : tE) (X : tX) (A : Nat → Prop) (z : tZ) (I0 : tI) (L0 : tL) (a0 : Nat) (t_a0 : z.ty a0 = 5) (i1 : Nat) (hi1 : i1 < 10) (hp : 0 ≤ (I0 a0 5).toInt ∧ (I0 a0 5).toInt ≤ 500) (hp6 : 0 ≤ (I0 a0 6).toInt ∧ (I0 a0 6).toInt ≤ 500) : Met l yX4_isWord wsX4_isWord ({ frames := 5, cells := 0, slots := 0, locals := 320 }) (va_Pc [.ref a0, .ref (X.adK i1)] (h_P E X A z I0 L0)) (vp_Si (fun r => (0 ≤ r.toInt ∧ r.toInt ≤ 1) ∧ ((r.toInt = 1 ∧ (h_len10.getD i1 0 : Int) = (I0 a0 6).toInt - (I0 a0 5).toInt ∧ ∀ j : Nat, (j : Int) < (h_len10.getD i1 0 : Int) → (q_at (I0 (h_ad z (h_ad z a0 0) 0)) (I0 (h_ad z a0 0) 1).toInt) ((I0 a0 5).toInt + j) = ((h_byt10.getD i1 []).getD j 0).toInt % 256) ∨ (r.toInt = 0 ∧ ¬ ((h_len10.getD i1 0 : Int) = (I0 a0 6).toInt - (I0 a0 5).toInt ∧ ∀ j : Nat, (j : Int) < (h_len10.getD i1 0 : Int) → (q_at (I0 (h_ad z (h_ad z a0 0) 0)) (I0 (h_ad z a0 0) 1).toInt) ((I0 a0 5).toInt + j) = ((h_byt10.getD i1 []).getD j 0).toInt % 256))))) 0 0 (fun _ => False) := by
  refine Met.ofW (cc := cX4_isWord) (maxL := 3) (ret := (some .boolean)) (by decide) rfl ?_
  intro pr_ ev_ s m args below meth cd_ s₁ B hml hv
  obtain ⟨rfl, hE, hk, hX, hA, hK, hI, hR, hB0⟩ := hv
  have g : h_G h_so h_fk E A z I0 L0 s s.heap s.heap [] := ⟨hK, va_S.rf, hB0⟩
  have hx := B.exec
  have hb := B.bytes
  have hr := B.returns
  have hts := atoms_spec (ws := wsX4_isWord) B.pre
  have hown : s.vm.findClass RX4 = some m.cls := findClass_of_methodNamed B.named
  have hlocks := B.notSynchronized
  have iX4 : ∀ w ∈ u_ws RX4 TX4 9, w ∈ wsX4_isWord := by decide +kernel
  have hl := lv_entry ([.ref a0, .ref (X.adK i1)]) (n := 3) (Nat.le_of_ble_eq_true rfl)
  rw [lg_entry_eq]
  generalize (lg_sl ([.ref a0, .ref (X.adK i1)]) ++ List.replicate (3 - (lg_sl ([.ref a0, .ref (X.adK i1)])).length) Slot.unset).toArray = ls at hl ⊢
  have hl : lv_has ls 3 [(0, .ref a0), (1, .ref (X.adK i1))] := hl
  obtain ⟨tp, rtp, ttp⟩ := hR.at a0 0 t_a0 (rfl : h_rs 5 0 = some (9, false)) (by decide)
  have atp : h_ad z a0 0 = tp := h_ad.at rtp
  obtain ⟨bt, rbt, tbt⟩ := hR.at tp 0 ttp (rfl : h_rs 9 0 = some (900, false)) (by decide)
  have abt : h_ad z tp 0 = bt := h_ad.at rbt
  obtain ⟨n_1, en_1⟩ : ∃ v : Int32, v = I0 tp 1 := ⟨_, rfl⟩
  have qn_1 : (I0 tp 1).toInt = n_1.toInt := congrArg Int32.toInt en_1.symm
  have jn_1 := hI.rd tp 1 ttp en_1 (rfl : h_bd 9 1 = (0, 500))
  obtain ⟨gb, egb⟩ : ∃ g : Int → Int, g = q_at (I0 bt) (I0 tp 1).toInt := ⟨_, rfl⟩
  obtain ⟨f0_5, ef0_5⟩ : ∃ v : Int32, v = I0 a0 5 := ⟨_, rfl⟩
  have qf0_5 : (I0 a0 5).toInt = f0_5.toInt := congrArg Int32.toInt ef0_5.symm
  have jf0_5 := hI.rd a0 5 t_a0 ef0_5 (rfl : h_bd 5 5 = ((-2147483648), 2147483647))
  obtain ⟨f0_6, ef0_6⟩ : ∃ v : Int32, v = I0 a0 6 := ⟨_, rfl⟩
  have qf0_6 : (I0 a0 6).toInt = f0_6.toInt := congrArg Int32.toInt ef0_6.symm
  have jf0_6 := hI.rd a0 6 t_a0 ef0_6 (rfl : h_bd 5 6 = ((-2147483648), 2147483647))
  rw [qf0_5] at hp
  rw [qf0_6] at hp6
  refine lv_aload_n hx hb dX4_isWord_0 rfl (lv_at hl 1 rfl) ?_
  refine vp_callSi (W.runV (As := []) (rest := []) ⟨hx, hb, hml, hown, hts⟩ (tJ0_length_8abf5 l E X A z I0 L0 i1 hi1) (cwV 0 hts gX4_isWord_J0_length_8abf5 rfl rfl rfl (by decide +kernel) ⟨Nat.le_of_ble_eq_true rfl, Nat.le_of_ble_eq_true rfl⟩) ⟨h_blind _ _ _ _ _ _ _, vk_recv hX.2.2.2.2.2 hi1 g.2.1, h_pre _ hE hk hX hA hI hR g⟩ rfl rfl hl.1 rfl (lv_room (Nat.le_of_ble_eq_true rfl)) dX4_isWord_1 ⟨Nat.le_of_ble_eq_true rfl, Nat.le_of_ble_eq_true rfl⟩) (fun rh1 h1 => ?_)
  have h1p0 := h1
  have jrh1 : -2147483648 ≤ rh1.toInt ∧ rh1.toInt ≤ 2147483647 := ⟨xi_lo _, Int.le_of_lt_add_one (xi_hi _)⟩
  have krh1 := h_slen i1
  have rh1q : rh1.toInt = (h_len10.getD i1 0 : Int) := h1p0
  refine lv_aload_n hx hb dX4_isWord_4 rfl (lv_at hl 0 rfl) ?_
  refine h_get (v := .int f0_6) hx hb hts iX4 hown g t_a0 (by decide) so_5 rfl 6 (by decide) (hts (.fieldLink RX4 32 "CapLeague$LawReader" "behind" "I") (by decide +kernel)) rfl dX4_isWord_5 (congrArg Value.int (ef0_6.symm)) ?_
  refine lv_aload_n hx hb dX4_isWord_8 rfl (lv_at hl 0 rfl) ?_
  refine h_get (v := .int f0_5) hx hb hts iX4 hown g t_a0 (by decide) so_5 rfl 5 (by decide) (hts (.fieldLink RX4 84 "CapLeague$LawReader" "place" "I") (by decide +kernel)) rfl dX4_isWord_9 (congrArg Value.int (ef0_5.symm)) ?_
  refine lv_isub hx hb dX4_isWord_12 ?_
  refine lv_topi (fun v2 ev2 => ?_)
  have jv2 : v2.toInt = f0_6.toInt - f0_5.toInt := xi_sub ev2 rfl rfl (by omega) (by omega)
  refine lv_icmp_eq (tgt := 18) hx hb dX4_isWord_13 (by decide) (fun c3 => ?_) (fun c3 => ?_)
  · have ic3 := (xi_eq c3 rfl rfl : rh1.toInt = v2.toInt)
    refine lv_iconst (v := 0) hx hb dX4_isWord_18 (by decide) ?_
    refine lv_istore_n (lv' := [(2, .int 0), (0, .ref a0), (1, .ref (X.adK i1))]) hx hb dX4_isWord_19 rfl hl (by decide) rfl (fun ls hl => ?_)
    have loop20_0 : ∀ (n : Nat) (ls : Array Slot) (v4 : Int32), lv_has ls 3 [(0, .ref a0), (1, .ref (X.adK i1)), (2, .int v4)] → (0 ≤ v4.toInt ∧ v4.toInt ≤ 43) → (∀ j : Nat, (j : Int) < v4.toInt → gb (f0_5.toInt + j) = ((h_byt10.getD i1 []).getD j 0).toInt % 256) → (v4.toInt ≤ (h_len10.getD i1 0 : Int)) → (43 - v4.toInt) < (n : Int) → W pr_ l ev_ (headSpec wsX4_isWord ({ frames := 5, cells := 0, slots := 0, locals := 320 })).room s m ([.ref a0, .ref (X.adK i1)] : List Value).toArray below meth cd_ s.heap [] 0 0 (MQ below (vp_Si (fun r => (0 ≤ r.toInt ∧ r.toInt ≤ 1) ∧ ((r.toInt = 1 ∧ (h_len10.getD i1 0 : Int) = (I0 a0 6).toInt - (I0 a0 5).toInt ∧ ∀ j : Nat, (j : Int) < (h_len10.getD i1 0 : Int) → (q_at (I0 (h_ad z (h_ad z a0 0) 0)) (I0 (h_ad z a0 0) 1).toInt) ((I0 a0 5).toInt + j) = ((h_byt10.getD i1 []).getD j 0).toInt % 256) ∨ (r.toInt = 0 ∧ ¬ ((h_len10.getD i1 0 : Int) = (I0 a0 6).toInt - (I0 a0 5).toInt ∧ ∀ j : Nat, (j : Int) < (h_len10.getD i1 0 : Int) → (q_at (I0 (h_ad z (h_ad z a0 0) 0)) (I0 (h_ad z a0 0) 1).toInt) ((I0 a0 5).toInt + j) = ((h_byt10.getD i1 []).getD j 0).toInt % 256))))) ([.ref a0, .ref (X.adK i1)] : List Value).toArray s 0 0 (fun _ => False)) (F0 m 20 ls []) := by
      intro n
      induction n with
      | zero => intro ls v4 hl jv4 hx20_0 hx20_1 hn; exact absurd hn (by omega)
      | succ n ih20 =>
        intro ls v4 hl jv4 hx20_0 hx20_1 hn
        refine lv_iload_n hx hb dX4_isWord_20 rfl (lv_at hl 2 rfl) ?_
        refine lv_aload_n hx hb dX4_isWord_21 rfl (lv_at hl 1 rfl) ?_
        refine vp_callSi (W.runV (As := []) (rest := [.int v4]) ⟨hx, hb, hml, hown, hts⟩ (tJ0_length_8abf5 l E X A z I0 L0 i1 hi1) (cwV 0 hts gX4_isWord_J0_length_8abf5 rfl rfl rfl (by decide +kernel) ⟨Nat.le_of_ble_eq_true rfl, Nat.le_of_ble_eq_true rfl⟩) ⟨h_blind _ _ _ _ _ _ _, vk_recv hX.2.2.2.2.2 hi1 g.2.1, h_pre _ hE hk hX hA hI hR g⟩ rfl rfl hl.1 rfl (lv_room (Nat.le_of_ble_eq_true rfl)) dX4_isWord_22 ⟨Nat.le_of_ble_eq_true rfl, Nat.le_of_ble_eq_true rfl⟩) (fun rh5 h5 => ?_)
        have h5p0 := h5
        have jrh5 : -2147483648 ≤ rh5.toInt ∧ rh5.toInt ≤ 2147483647 := ⟨xi_lo _, Int.le_of_lt_add_one (xi_hi _)⟩
        have krh5 := h_slen i1
        have rh5q : rh5.toInt = (h_len10.getD i1 0 : Int) := h5p0
        refine lv_icmp_ge (tgt := 57) hx hb dX4_isWord_25 (by decide) (fun c6 => ?_) (fun c6 => ?_)
        · have ic6 := (xi_le c6 rfl rfl : rh5.toInt ≤ v4.toInt)
          refine lv_iconst (v := 1) hx hb dX4_isWord_57 (by decide) ?_
          exact W.zret (v := 1) hx hb hr (by decide) (fun t ht hW => ⟨1, rfl, ⟨⟨(by decide), (by decide)⟩, (by rw [qf0_5, qf0_6, atp, abt, ← egb]; exact Or.inl ⟨by decide, by omega, fun j hj => hx20_0 j (by omega)⟩)⟩, ht⟩) (fun _ h => by cases h) dX4_isWord_58
        · have ic6 := (xi_nle c6 rfl rfl : v4.toInt < rh5.toInt)
          refine lv_aload_n hx hb dX4_isWord_28 rfl (lv_at hl 0 rfl) ?_
          refine h_get (v := .ref tp) hx hb hts iX4 hown g t_a0 (by decide) so_5 rfl 0 (by decide) (hts (.fieldLink RX4 22 "CapLeague$LawReader" "tape" "LCapLeague$Tape;") (by decide +kernel)) rfl dX4_isWord_29 (by show va_rf (z.R a0 0) = _; rw [rtp]; rfl) ?_
          refine lv_aload_n hx hb dX4_isWord_32 rfl (lv_at hl 0 rfl) ?_
          refine h_get (v := .int f0_5) hx hb hts iX4 hown g t_a0 (by decide) so_5 rfl 5 (by decide) (hts (.fieldLink RX4 84 "CapLeague$LawReader" "place" "I") (by decide +kernel)) rfl dX4_isWord_33 (congrArg Value.int (ef0_5.symm)) ?_
          refine lv_iload_n hx hb dX4_isWord_36 rfl (lv_at hl 2 rfl) ?_
          refine lv_iadd hx hb dX4_isWord_37 ?_
          refine lv_topi (fun v7 ev7 => ?_)
          have jv7 : v7.toInt = f0_5.toInt + v4.toInt := xi_add ev7 rfl rfl (by omega) (by omega)
          refine vp_callSi (W.runV (As := [.int v7]) (rest := []) ⟨hx, hb, hml, hown, hts⟩ (tX8_atF l E X A z I0 L0 tp ttp v7 (v7.toInt) rfl) (cwV 1 hts gX4_isWord_X8_at rfl rfl rfl (by decide +kernel) ⟨Nat.le_of_ble_eq_true rfl, Nat.le_of_ble_eq_true rfl⟩) ⟨h_blind _ _ _ _ _ _ _, h_recv g ttp (by decide) so_9 (q := (RX8, TX8, 2)) rfl, h_pre _ hE hk hX hA hI hR g⟩ rfl rfl hl.1 rfl (lv_room (Nat.le_of_ble_eq_true rfl)) dX4_isWord_38 ⟨Nat.le_of_ble_eq_true rfl, Nat.le_of_ble_eq_true rfl⟩) (fun rh8 h8 => ?_)
          obtain ⟨h8, h8p0⟩ := h8
          rw [abt, ← egb] at h8p0
          refine lv_aload_n hx hb dX4_isWord_41 rfl (lv_at hl 1 rfl) ?_
          refine lv_iload_n hx hb dX4_isWord_42 rfl (lv_at hl 2 rfl) ?_
          refine vp_callSi (W.runV (As := [.int v4]) (rest := [.int rh8]) ⟨hx, hb, hml, hown, hts⟩ (tJ0_charAtF l E X A z I0 L0 i1 hi1 v4 (v4.toInt) rfl (by omega) (by omega)) (cwV 1 hts gX4_isWord_J0_charAt_5068e rfl rfl rfl (by decide +kernel) ⟨Nat.le_of_ble_eq_true rfl, Nat.le_of_ble_eq_true rfl⟩) ⟨h_blind _ _ _ _ _ _ _, vk_recv hX.2.2.2.2.2 hi1 g.2.1, h_pre _ hE hk hX hA hI hR g⟩ rfl rfl hl.1 rfl (lv_room (Nat.le_of_ble_eq_true rfl)) dX4_isWord_43 ⟨Nat.le_of_ble_eq_true rfl, Nat.le_of_ble_eq_true rfl⟩) (fun rh9 h9 => ?_)
          obtain ⟨h9, h9p0⟩ := h9
          refine lv_icmp_eq (tgt := 51) hx hb dX4_isWord_46 (by decide) (fun c10 => ?_) (fun c10 => ?_)
          · have ic10 := (xi_eq c10 rfl rfl : rh8.toInt = rh9.toInt)
            obtain ⟨v11, ev11⟩ : ∃ z : Int32, z = v4 + 1 := ⟨_, rfl⟩
            have jv11 : v11.toInt = v4.toInt + 1 := xi_add ev11 rfl (by decide) (by omega) (by omega)
            refine lv_iinc (v := v11) (lv' := [(2, .int v11), (0, .ref a0), (1, .ref (X.adK i1))]) hx hb dX4_isWord_51 hl (k := 2) rfl (by rw [ev11]; rfl) (by decide) rfl (fun ls hl => ?_)
            refine lv_goto (tgt := 20) hx hb dX4_isWord_54 (by decide) ?_
            exact ih20 _ v11 (lv_sub hl [1, 2, 0] rfl) (by omega) (q_wmore hx20_0 (by omega) (show v7.toInt = f0_5.toInt + v4.toInt by omega) (by omega) (by omega)) (by omega) (by omega)
          · have ic10 := (xi_ne c10 rfl rfl : rh8.toInt ≠ rh9.toInt)
            refine lv_iconst (v := 0) hx hb dX4_isWord_49 (by decide) ?_
            exact W.zret (v := 0) hx hb hr (by decide) (fun t ht hW => ⟨0, rfl, ⟨⟨(by decide), (by decide)⟩, (by rw [qf0_5, qf0_6, atp, abt, ← egb]; exact Or.inr ⟨by decide, fun h9 => q_wno (i := v4.toInt) (a := v7.toInt) (by omega) (by omega) (by omega) (by omega) h9.2⟩)⟩, ht⟩) (fun _ h => by cases h) dX4_isWord_50
    have kc12 : (0 : Int32).toInt = 0 := by decide
    exact loop20_0 _ _ (0) (lv_sub hl [1, 2, 0] rfl) ⟨by decide, by decide⟩ (fun j hj => absurd hj (by omega)) (by omega) (show (43 - (0 : Int)) < (((43 - (0 : Int)).toNat + 1 : Nat) : Int) by omega)
  · have ic3 := (xi_ne c3 rfl rfl : rh1.toInt ≠ v2.toInt)
    refine lv_iconst (v := 0) hx hb dX4_isWord_16 (by decide) ?_
    exact W.zret (v := 0) hx hb hr (by decide) (fun t ht hW => ⟨0, rfl, ⟨⟨(by decide), (by decide)⟩, (by rw [qf0_5, qf0_6, atp, abt, ← egb]; exact Or.inr ⟨by decide, fun h9 => absurd h9.1 (by omega)⟩)⟩, ht⟩) (fun _ h => by cases h) dX4_isWord_17
set_option maxHeartbeats 4000000 in
set_option maxRecDepth 100000 in
theorem tX4_lineOfWordF (l : Launch) (E : tE) (X : tX) (A : Nat → Prop) (z : tZ) (I0 : tI) (L0 : tL) (a0 : Nat) (t_a0 : z.ty a0 = 5) (hp : 0 ≤ (I0 a0 5).toInt ∧ (I0 a0 5).toInt ≤ 500) (hp6 : 0 ≤ (I0 a0 6).toInt ∧ (I0 a0 6).toInt ≤ 500) (hlt : (I0 a0 5).toInt < (I0 a0 6).toInt) : Met l yX4_lineOfWord wsX4_lineOfWord ({ frames := 6, cells := 0, slots := 0, locals := 384 }) (va_Pc [.ref a0] (h_P E X A z I0 L0)) (vp_Si (fun r => ((-1) ≤ r.toInt ∧ r.toInt ≤ 8) ∧ ((r.toInt = -1 ∧ q_fd (q_at (I0 (h_ad z (h_ad z a0 0) 0)) (I0 (h_ad z a0 0) 1).toInt) (I0 a0 5).toInt ((I0 a0 6).toInt - (I0 a0 5).toInt) q_wd 0 = -1) ∨ (0 ≤ q_fd (q_at (I0 (h_ad z (h_ad z a0 0) 0)) (I0 (h_ad z a0 0) 1).toInt) (I0 a0 5).toInt ((I0 a0 6).toInt - (I0 a0 5).toInt) q_wd 0 ∧ q_fd (q_at (I0 (h_ad z (h_ad z a0 0) 0)) (I0 (h_ad z a0 0) 1).toInt) (I0 a0 5).toInt ((I0 a0 6).toInt - (I0 a0 5).toInt) q_wd 0 ≤ 7 ∧ r.toInt = q_ll (q_fd (q_at (I0 (h_ad z (h_ad z a0 0) 0)) (I0 (h_ad z a0 0) 1).toInt) (I0 a0 5).toInt ((I0 a0 6).toInt - (I0 a0 5).toInt) q_wd 0))))) 0 0 (fun _ => False) := by
  refine Met.ofW (cc := cX4_lineOfWord) (maxL := 2) (ret := (some .int)) (by decide) rfl ?_
  intro pr_ ev_ s m args below meth cd_ s₁ B hml hv
  obtain ⟨rfl, hE, hk, hX, hA, hK, hI, hR, hB0⟩ := hv
  have g : h_G h_so h_fk E A z I0 L0 s s.heap s.heap [] := ⟨hK, va_S.rf, hB0⟩
  have hx := B.exec
  have hb := B.bytes
  have hr := B.returns
  have hts := atoms_spec (ws := wsX4_lineOfWord) B.pre
  have hown : s.vm.findClass RX4 = some m.cls := findClass_of_methodNamed B.named
  have hlocks := B.notSynchronized
  have hl := lv_entry ([.ref a0]) (n := 2) (Nat.le_of_ble_eq_true rfl)
  rw [lg_entry_eq]
  generalize (lg_sl ([.ref a0]) ++ List.replicate (2 - (lg_sl ([.ref a0])).length) Slot.unset).toArray = ls at hl ⊢
  have hl : lv_has ls 2 [(0, .ref a0)] := hl
  obtain ⟨tp, rtp, ttp⟩ := hR.at a0 0 t_a0 (rfl : h_rs 5 0 = some (9, false)) (by decide)
  have atp : h_ad z a0 0 = tp := h_ad.at rtp
  obtain ⟨bt, rbt, tbt⟩ := hR.at tp 0 ttp (rfl : h_rs 9 0 = some (900, false)) (by decide)
  have abt : h_ad z tp 0 = bt := h_ad.at rbt
  obtain ⟨n_1, en_1⟩ : ∃ v : Int32, v = I0 tp 1 := ⟨_, rfl⟩
  have qn_1 : (I0 tp 1).toInt = n_1.toInt := congrArg Int32.toInt en_1.symm
  have jn_1 := hI.rd tp 1 ttp en_1 (rfl : h_bd 9 1 = (0, 500))
  obtain ⟨gb, egb⟩ : ∃ g : Int → Int, g = q_at (I0 bt) (I0 tp 1).toInt := ⟨_, rfl⟩
  obtain ⟨f0_5, ef0_5⟩ : ∃ v : Int32, v = I0 a0 5 := ⟨_, rfl⟩
  have qf0_5 : (I0 a0 5).toInt = f0_5.toInt := congrArg Int32.toInt ef0_5.symm
  have jf0_5 := hI.rd a0 5 t_a0 ef0_5 (rfl : h_bd 5 5 = ((-2147483648), 2147483647))
  obtain ⟨f0_6, ef0_6⟩ : ∃ v : Int32, v = I0 a0 6 := ⟨_, rfl⟩
  have qf0_6 : (I0 a0 6).toInt = f0_6.toInt := congrArg Int32.toInt ef0_6.symm
  have jf0_6 := hI.rd a0 6 t_a0 ef0_6 (rfl : h_bd 5 6 = ((-2147483648), 2147483647))
  rw [qf0_5] at hp
  rw [qf0_6] at hp6
  rw [qf0_5, qf0_6] at hlt
  refine lv_iconst (v := 0) hx hb dX4_lineOfWord_0 (by decide) ?_
  refine lv_istore_n (lv' := [(1, .int 0), (0, .ref a0)]) hx hb dX4_lineOfWord_1 rfl hl (by decide) rfl (fun ls hl => ?_)
  have loop2_0 : ∀ (n : Nat) (ls : Array Slot) (v1 : Int32), lv_has ls 2 [(0, .ref a0), (1, .int v1)] → (0 ≤ v1.toInt ∧ v1.toInt ≤ 9) → (∀ k : Nat, k < 8 → q_lnN k < v1.toInt → q_is gb f0_5.toInt (f0_6.toInt - f0_5.toInt) (q_wd.getD k []) = false) → (9 - v1.toInt) < (n : Int) → W pr_ l ev_ (headSpec wsX4_lineOfWord ({ frames := 6, cells := 0, slots := 0, locals := 384 })).room s m ([.ref a0] : List Value).toArray below meth cd_ s.heap [] 0 0 (MQ below (vp_Si (fun r => ((-1) ≤ r.toInt ∧ r.toInt ≤ 8) ∧ ((r.toInt = -1 ∧ q_fd (q_at (I0 (h_ad z (h_ad z a0 0) 0)) (I0 (h_ad z a0 0) 1).toInt) (I0 a0 5).toInt ((I0 a0 6).toInt - (I0 a0 5).toInt) q_wd 0 = -1) ∨ (0 ≤ q_fd (q_at (I0 (h_ad z (h_ad z a0 0) 0)) (I0 (h_ad z a0 0) 1).toInt) (I0 a0 5).toInt ((I0 a0 6).toInt - (I0 a0 5).toInt) q_wd 0 ∧ q_fd (q_at (I0 (h_ad z (h_ad z a0 0) 0)) (I0 (h_ad z a0 0) 1).toInt) (I0 a0 5).toInt ((I0 a0 6).toInt - (I0 a0 5).toInt) q_wd 0 ≤ 7 ∧ r.toInt = q_ll (q_fd (q_at (I0 (h_ad z (h_ad z a0 0) 0)) (I0 (h_ad z a0 0) 1).toInt) (I0 a0 5).toInt ((I0 a0 6).toInt - (I0 a0 5).toInt) q_wd 0))))) ([.ref a0] : List Value).toArray s 0 0 (fun _ => False)) (F0 m 2 ls []) := by
    intro n
    induction n with
    | zero => intro ls v1 hl jv1 hx2_0 hn; exact absurd hn (by omega)
    | succ n ih2 =>
      intro ls v1 hl jv1 hx2_0 hn
      refine lv_iload_n hx hb dX4_lineOfWord_2 rfl (lv_at hl 1 rfl) ?_
      refine lv_bipush (v := 8) hx hb dX4_lineOfWord_3 (by decide) ?_
      refine lv_icmp_gt (tgt := 27) hx hb dX4_lineOfWord_5 (by decide) (fun c2 => ?_) (fun c2 => ?_)
      · have ic2 := (xi_lt c2 (by decide) rfl : 8 < v1.toInt)
        refine lv_iconst (v := (-1)) hx hb dX4_lineOfWord_27 (by decide) ?_
        exact W.iret (v := (-1)) hx hb hr (fun t ht hW => ⟨(-1), rfl, ⟨⟨(by decide), (by decide)⟩, (by rw [atp, abt, ← egb, qf0_5, qf0_6]; exact Or.inl ⟨by decide, q_lnone hx2_0 (by omega)⟩)⟩, ht⟩) (fun _ h => by cases h) dX4_lineOfWord_28
      · have ic2 := (xi_nlt c2 (by decide) rfl : v1.toInt ≤ 8)
        refine lv_aload_n hx hb dX4_lineOfWord_8 rfl (lv_at hl 0 rfl) ?_
        refine lv_iload_n hx hb dX4_lineOfWord_9 rfl (lv_at hl 1 rfl) ?_
        refine va_csq (W.runS (As := [.int v1]) (rest := [.ref a0]) ⟨hx, hb, hml, hown, hts⟩ (tX4_wordOfF l E X A z I0 L0 v1 (v1.toInt) rfl) (va_cwS 1 hts gX4_lineOfWord_X4_wordOf rfl rfl rfl (by decide +kernel) ⟨Nat.le_of_ble_eq_true rfl, Nat.le_of_ble_eq_true rfl⟩) ⟨h_blind _ _ _ _ _ _ _, h_pre _ hE hk hX hA hI hR g⟩ rfl rfl hl.1 rfl (lv_room (Nat.le_of_ble_eq_true rfl)) dX4_lineOfWord_10 ⟨Nat.le_of_ble_eq_true rfl, Nat.le_of_ble_eq_true rfl⟩) (fun rh3 h3 => ?_)
        obtain ⟨rfl, hrh3⟩ := h3
        refine xw_v (v := .ref (X.adK (h_wi (v1.toInt)))) rfl ?_
        refine vp_callSi (W.runV (As := [.ref (X.adK (h_wi (v1.toInt)))]) (rest := []) ⟨hx, hb, hml, hown, hts⟩ (tX4_isWordF l E X A z I0 L0 a0 t_a0 (h_wi (v1.toInt)) hrh3 (by rw [qf0_5]; omega) (by rw [qf0_6]; omega)) (cwV 1 hts gX4_lineOfWord_X4_isWord rfl rfl rfl (by decide +kernel) ⟨Nat.le_of_ble_eq_true rfl, Nat.le_of_ble_eq_true rfl⟩) ⟨h_blind _ _ _ _ _ _ _, h_recv g t_a0 (by decide) so_5 (q := (RX4, TX4, 9)) rfl, h_pre _ hE hk hX hA hI hR g⟩ rfl rfl hl.1 rfl (lv_room (Nat.le_of_ble_eq_true rfl)) dX4_lineOfWord_13 ⟨Nat.le_of_ble_eq_true rfl, Nat.le_of_ble_eq_true rfl⟩) (fun rh4 h4 => ?_)
        obtain ⟨h4, h4p0⟩ := h4
        rw [atp, abt, ← egb, qf0_5, qf0_6] at h4p0
        refine lv_if_eq (tgt := 21) hx hb dX4_lineOfWord_16 (by decide) (fun c5 => ?_) (fun c5 => ?_)
        · have ic5 := (xi_eq c5 rfl (by decide) : rh4.toInt = 0)
          obtain ⟨v6, ev6⟩ : ∃ z : Int32, z = v1 + 1 := ⟨_, rfl⟩
          have jv6 : v6.toInt = v1.toInt + 1 := xi_add ev6 rfl (by decide) (by omega) (by omega)
          refine lv_iinc (v := v6) (lv' := [(1, .int v6), (0, .ref a0)]) hx hb dX4_lineOfWord_21 hl (k := 1) rfl (by rw [ev6]; rfl) (by decide) rfl (fun ls hl => ?_)
          refine lv_goto (tgt := 2) hx hb dX4_lineOfWord_24 (by decide) ?_
          exact ih2 _ v6 (lv_sub hl [1, 0] rfl) (by omega) (q_lmore hx2_0 (by rcases h4p0 with ⟨a1, a2⟩ | ⟨a1, a2⟩; omega; exact a2) (by omega)) (by omega)
        · have ic5 := (xi_ne c5 rfl (by decide) : rh4.toInt ≠ 0)
          refine lv_iload_n hx hb dX4_lineOfWord_19 rfl (lv_at hl 1 rfl) ?_
          exact W.iret (v := v1) hx hb hr (fun t ht hW => ⟨v1, rfl, ⟨⟨(by omega), (by omega)⟩, (by rw [atp, abt, ← egb, qf0_5, qf0_6]; exact Or.inr (q_lfound hx2_0 (by omega) (by omega) (by omega) (by rcases h4p0 with ⟨a1, a2⟩ | ⟨a1, a2⟩; exact a2; omega)))⟩, ht⟩) (fun _ h => by cases h) dX4_lineOfWord_20
  have kc7 : (0 : Int32).toInt = 0 := by decide
  exact loop2_0 _ _ (0) (lv_sub hl [1, 0] rfl) ⟨by decide, by decide⟩ (fun k _ hk => absurd hk (by unfold q_lnN; split <;> omega)) (show (9 - (0 : Int)) < (((9 - (0 : Int)).toNat + 1 : Nat) : Int) by omega)

