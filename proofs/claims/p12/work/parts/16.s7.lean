set_option maxHeartbeats 4000000 in
set_option maxRecDepth 100000 in
theorem tX4_isBlank (l : Launch) (E : tE) (X : tX) (A : Nat → Prop) (z : tZ) (I0 : tI) (L0 : tL) (x : Int32) (x_t : Int) (h_x : x.toInt = x_t) : Met l yX4_isBlank wsX4_isBlank ({ frames := 1, cells := 0, slots := 0, locals := 64 }) (va_Pc [.int x] (h_P E X A z I0 L0)) (vp_Si (fun r => (0 ≤ r.toInt ∧ r.toInt ≤ 1))) 0 0 (fun _ => False) := by
  refine Met.ofW (cc := cX4_isBlank) (maxL := 1) (ret := (some .boolean)) (by decide) rfl ?_
  intro pr_ ev_ s m args below meth cd_ s₁ B hml hv
  obtain ⟨rfl, hE, hk, hX, hA, hK, hI, hR, hB0⟩ := hv
  have g : h_G h_so h_fk E A z I0 L0 s s.heap s.heap [] := ⟨hK, va_S.rf, hB0⟩
  have hx := B.exec
  have hb := B.bytes
  have hr := B.returns
  have hts := atoms_spec (ws := wsX4_isBlank) B.pre
  have hown : s.vm.findClass RX4 = some m.cls := findClass_of_methodNamed B.named
  have hlocks := B.notSynchronized
  have hl := lv_entry ([.int x]) (n := 1) (Nat.le_of_ble_eq_true rfl)
  rw [lg_entry_eq]
  generalize (lg_sl ([.int x]) ++ List.replicate (1 - (lg_sl ([.int x])).length) Slot.unset).toArray = ls at hl ⊢
  have hl : lv_has ls 1 [(0, .int x)] := hl
  have b_x : -2147483648 ≤ x_t ∧ x_t ≤ 2147483647 := h_x ▸ ⟨xi_lo x, Int.le_of_lt_add_one (xi_hi x)⟩
  refine lv_iload_n hx hb dX4_isBlank_0 rfl (lv_at hl 0 rfl) ?_
  refine lv_bipush (v := 32) hx hb dX4_isBlank_1 (by decide) ?_
  refine lv_icmp_eq (tgt := 12) hx hb dX4_isBlank_3 (by decide) (fun c1 => ?_) (fun c1 => ?_)
  · have ic1 := (xi_eq c1 h_x (by decide) : x_t = 32)
    refine lv_iconst (v := 1) hx hb dX4_isBlank_12 (by decide) ?_
    refine lv_goto (tgt := 17) hx hb dX4_isBlank_13 (by decide) ?_
    exact W.zret (v := 1) hx hb hr (by decide) (fun t ht hW => ⟨1, rfl, ⟨(by decide), (by decide)⟩, ht⟩) (fun _ h => by cases h) dX4_isBlank_17
  · have ic1 := (xi_ne c1 h_x (by decide) : x_t ≠ 32)
    refine lv_iload_n hx hb dX4_isBlank_6 rfl (lv_at hl 0 rfl) ?_
    refine lv_bipush (v := 10) hx hb dX4_isBlank_7 (by decide) ?_
    refine lv_icmp_ne (tgt := 16) hx hb dX4_isBlank_9 (by decide) (fun c2 => ?_) (fun c2 => ?_)
    · have ic2 := (xi_ne c2 h_x (by decide) : x_t ≠ 10)
      refine lv_iconst (v := 0) hx hb dX4_isBlank_16 (by decide) ?_
      exact W.zret (v := 0) hx hb hr (by decide) (fun t ht hW => ⟨0, rfl, ⟨(by decide), (by decide)⟩, ht⟩) (fun _ h => by cases h) dX4_isBlank_17
    · have ic2 := (xi_eq c2 h_x (by decide) : x_t = 10)
      refine lv_iconst (v := 1) hx hb dX4_isBlank_12 (by decide) ?_
      refine lv_goto (tgt := 17) hx hb dX4_isBlank_13 (by decide) ?_
      exact W.zret (v := 1) hx hb hr (by decide) (fun t ht hW => ⟨1, rfl, ⟨(by decide), (by decide)⟩, ht⟩) (fun _ h => by cases h) dX4_isBlank_17
set_option maxHeartbeats 4000000 in
set_option maxRecDepth 100000 in
theorem tX4_isLetter (l : Launch) (E : tE) (X : tX) (A : Nat → Prop) (z : tZ) (I0 : tI) (L0 : tL) (x : Int32) (x_t : Int) (h_x : x.toInt = x_t) : Met l yX4_isLetter wsX4_isLetter ({ frames := 1, cells := 0, slots := 0, locals := 64 }) (va_Pc [.int x] (h_P E X A z I0 L0)) (vp_Si (fun r => (0 ≤ r.toInt ∧ r.toInt ≤ 1))) 0 0 (fun _ => False) := by
  refine Met.ofW (cc := cX4_isLetter) (maxL := 1) (ret := (some .boolean)) (by decide) rfl ?_
  intro pr_ ev_ s m args below meth cd_ s₁ B hml hv
  obtain ⟨rfl, hE, hk, hX, hA, hK, hI, hR, hB0⟩ := hv
  have g : h_G h_so h_fk E A z I0 L0 s s.heap s.heap [] := ⟨hK, va_S.rf, hB0⟩
  have hx := B.exec
  have hb := B.bytes
  have hr := B.returns
  have hts := atoms_spec (ws := wsX4_isLetter) B.pre
  have hown : s.vm.findClass RX4 = some m.cls := findClass_of_methodNamed B.named
  have hlocks := B.notSynchronized
  have hl := lv_entry ([.int x]) (n := 1) (Nat.le_of_ble_eq_true rfl)
  rw [lg_entry_eq]
  generalize (lg_sl ([.int x]) ++ List.replicate (1 - (lg_sl ([.int x])).length) Slot.unset).toArray = ls at hl ⊢
  have hl : lv_has ls 1 [(0, .int x)] := hl
  have b_x : -2147483648 ≤ x_t ∧ x_t ≤ 2147483647 := h_x ▸ ⟨xi_lo x, Int.le_of_lt_add_one (xi_hi x)⟩
  refine lv_iload_n hx hb dX4_isLetter_0 rfl (lv_at hl 0 rfl) ?_
  refine lv_bipush (v := 97) hx hb dX4_isLetter_1 (by decide) ?_
  refine lv_icmp_lt (tgt := 16) hx hb dX4_isLetter_3 (by decide) (fun c1 => ?_) (fun c1 => ?_)
  · have ic1 := (xi_lt c1 h_x (by decide) : x_t < 97)
    refine lv_iconst (v := 0) hx hb dX4_isLetter_16 (by decide) ?_
    exact W.zret (v := 0) hx hb hr (by decide) (fun t ht hW => ⟨0, rfl, ⟨(by decide), (by decide)⟩, ht⟩) (fun _ h => by cases h) dX4_isLetter_17
  · have ic1 := (xi_nlt c1 h_x (by decide) : 97 ≤ x_t)
    refine lv_iload_n hx hb dX4_isLetter_6 rfl (lv_at hl 0 rfl) ?_
    refine lv_bipush (v := 122) hx hb dX4_isLetter_7 (by decide) ?_
    refine lv_icmp_gt (tgt := 16) hx hb dX4_isLetter_9 (by decide) (fun c2 => ?_) (fun c2 => ?_)
    · have ic2 := (xi_lt c2 (by decide) h_x : 122 < x_t)
      refine lv_iconst (v := 0) hx hb dX4_isLetter_16 (by decide) ?_
      exact W.zret (v := 0) hx hb hr (by decide) (fun t ht hW => ⟨0, rfl, ⟨(by decide), (by decide)⟩, ht⟩) (fun _ h => by cases h) dX4_isLetter_17
    · have ic2 := (xi_nlt c2 (by decide) h_x : x_t ≤ 122)
      refine lv_iconst (v := 1) hx hb dX4_isLetter_12 (by decide) ?_
      refine lv_goto (tgt := 17) hx hb dX4_isLetter_13 (by decide) ?_
      exact W.zret (v := 1) hx hb hr (by decide) (fun t ht hW => ⟨1, rfl, ⟨(by decide), (by decide)⟩, ht⟩) (fun _ h => by cases h) dX4_isLetter_17
set_option maxHeartbeats 4000000 in
set_option maxRecDepth 100000 in
theorem tX4_isDigit (l : Launch) (E : tE) (X : tX) (A : Nat → Prop) (z : tZ) (I0 : tI) (L0 : tL) (x : Int32) (x_t : Int) (h_x : x.toInt = x_t) : Met l yX4_isDigit wsX4_isDigit ({ frames := 1, cells := 0, slots := 0, locals := 64 }) (va_Pc [.int x] (h_P E X A z I0 L0)) (vp_Si (fun r => (0 ≤ r.toInt ∧ r.toInt ≤ 1))) 0 0 (fun _ => False) := by
  refine Met.ofW (cc := cX4_isDigit) (maxL := 1) (ret := (some .boolean)) (by decide) rfl ?_
  intro pr_ ev_ s m args below meth cd_ s₁ B hml hv
  obtain ⟨rfl, hE, hk, hX, hA, hK, hI, hR, hB0⟩ := hv
  have g : h_G h_so h_fk E A z I0 L0 s s.heap s.heap [] := ⟨hK, va_S.rf, hB0⟩
  have hx := B.exec
  have hb := B.bytes
  have hr := B.returns
  have hts := atoms_spec (ws := wsX4_isDigit) B.pre
  have hown : s.vm.findClass RX4 = some m.cls := findClass_of_methodNamed B.named
  have hlocks := B.notSynchronized
  have hl := lv_entry ([.int x]) (n := 1) (Nat.le_of_ble_eq_true rfl)
  rw [lg_entry_eq]
  generalize (lg_sl ([.int x]) ++ List.replicate (1 - (lg_sl ([.int x])).length) Slot.unset).toArray = ls at hl ⊢
  have hl : lv_has ls 1 [(0, .int x)] := hl
  have b_x : -2147483648 ≤ x_t ∧ x_t ≤ 2147483647 := h_x ▸ ⟨xi_lo x, Int.le_of_lt_add_one (xi_hi x)⟩
  refine lv_iload_n hx hb dX4_isDigit_0 rfl (lv_at hl 0 rfl) ?_
  refine lv_bipush (v := 48) hx hb dX4_isDigit_1 (by decide) ?_
  refine lv_icmp_lt (tgt := 16) hx hb dX4_isDigit_3 (by decide) (fun c1 => ?_) (fun c1 => ?_)
  · have ic1 := (xi_lt c1 h_x (by decide) : x_t < 48)
    refine lv_iconst (v := 0) hx hb dX4_isDigit_16 (by decide) ?_
    exact W.zret (v := 0) hx hb hr (by decide) (fun t ht hW => ⟨0, rfl, ⟨(by decide), (by decide)⟩, ht⟩) (fun _ h => by cases h) dX4_isDigit_17
  · have ic1 := (xi_nlt c1 h_x (by decide) : 48 ≤ x_t)
    refine lv_iload_n hx hb dX4_isDigit_6 rfl (lv_at hl 0 rfl) ?_
    refine lv_bipush (v := 57) hx hb dX4_isDigit_7 (by decide) ?_
    refine lv_icmp_gt (tgt := 16) hx hb dX4_isDigit_9 (by decide) (fun c2 => ?_) (fun c2 => ?_)
    · have ic2 := (xi_lt c2 (by decide) h_x : 57 < x_t)
      refine lv_iconst (v := 0) hx hb dX4_isDigit_16 (by decide) ?_
      exact W.zret (v := 0) hx hb hr (by decide) (fun t ht hW => ⟨0, rfl, ⟨(by decide), (by decide)⟩, ht⟩) (fun _ h => by cases h) dX4_isDigit_17
    · have ic2 := (xi_nlt c2 (by decide) h_x : x_t ≤ 57)
      refine lv_iconst (v := 1) hx hb dX4_isDigit_12 (by decide) ?_
      refine lv_goto (tgt := 17) hx hb dX4_isDigit_13 (by decide) ?_
      exact W.zret (v := 1) hx hb hr (by decide) (fun t ht hW => ⟨1, rfl, ⟨(by decide), (by decide)⟩, ht⟩) (fun _ h => by cases h) dX4_isDigit_17
set_option maxHeartbeats 4000000 in
set_option maxRecDepth 100000 in
theorem tX4_wordOf (l : Launch) (E : tE) (X : tX) (A : Nat → Prop) (z : tZ) (I0 : tI) (L0 : tL) (x : Int32) (x_t : Int) (h_x : x.toInt = x_t) : Met l yX4_wordOf wsX4_wordOf ({ frames := 1, cells := 0, slots := 0, locals := 64 }) (va_Pc [.int x] (h_P E X A z I0 L0)) (va_Sq (fun r => (∃ i : Nat, i < 10 ∧ r = some (X.adK i)))) 0 0 (fun _ => False) := by
  refine Met.ofW (cc := cX4_wordOf) (maxL := 1) (ret := (some (.object "java/lang/String"))) (by decide) rfl ?_
  intro pr_ ev_ s m args below meth cd_ s₁ B hml hv
  obtain ⟨rfl, hE, hk, hX, hA, hK, hI, hR, hB0⟩ := hv
  have g : h_G h_so h_fk E A z I0 L0 s s.heap s.heap [] := ⟨hK, va_S.rf, hB0⟩
  have hx := B.exec
  have hb := B.bytes
  have hr := B.returns
  have hts := atoms_spec (ws := wsX4_wordOf) B.pre
  have hown : s.vm.findClass RX4 = some m.cls := findClass_of_methodNamed B.named
  have hlocks := B.notSynchronized
  have hl := lv_entry ([.int x]) (n := 1) (Nat.le_of_ble_eq_true rfl)
  rw [lg_entry_eq]
  generalize (lg_sl ([.int x]) ++ List.replicate (1 - (lg_sl ([.int x])).length) Slot.unset).toArray = ls at hl ⊢
  have hl : lv_has ls 1 [(0, .int x)] := hl
  have b_x : -2147483648 ≤ x_t ∧ x_t ≤ 2147483647 := h_x ▸ ⟨xi_lo x, Int.le_of_lt_add_one (xi_hi x)⟩
  refine lv_iload_n hx hb dX4_wordOf_0 rfl (lv_at hl 0 rfl) ?_
  have qc1 : x.toInt = x_t := h_x
  rcases (show (x.toInt < 0 ∨ 8 < x.toInt) ∨ x.toInt = 0 ∨ x.toInt = 1 ∨ x.toInt = 2 ∨ x.toInt = 3 ∨ x.toInt = 4 ∨ x.toInt = 5 ∨ x.toInt = 6 ∨ x.toInt = 7 ∨ x.toInt = 8 by omega) with c1 | c1 | c1 | c1 | c1 | c1 | c1 | c1 | c1 | c1
  · refine lv_tableOut (tgt := 76) hx hb dX4_wordOf_1 c1 (by decide) ?_
    refine va_ldcS (tx := "") (q := X.adK 8) hx hb hown (hk.1 8 (RX4, 142, "") h_str_8) dX4_wordOf_76 ?_
    exact W.aret (v := .ref (X.adK 8)) hx hb hr (Or.inl ⟨_, rfl⟩) (Or.inr ⟨_, rfl⟩) (fun t ht hW => ⟨some (X.adK 8), rfl, ⟨8, (by decide), rfl⟩, ht⟩) (fun _ h => by cases h) dX4_wordOf_78
  · refine lv_tableIn (off := 51) (tgt := 52) hx hb dX4_wordOf_1 (by omega) (by omega) (by rw [show (x.toInt - 0).toNat = 0 by omega]; rfl) (by decide) ?_
    refine va_ldcS (tx := "cap") (q := X.adK 0) hx hb hown (hk.1 0 (RX4, 126, "cap") h_str_0) dX4_wordOf_52 ?_
    exact W.aret (v := .ref (X.adK 0)) hx hb hr (Or.inl ⟨_, rfl⟩) (Or.inr ⟨_, rfl⟩) (fun t ht hW => ⟨some (X.adK 0), rfl, ⟨0, (by decide), rfl⟩, ht⟩) (fun _ h => by cases h) dX4_wordOf_54
  · refine lv_tableIn (off := 54) (tgt := 55) hx hb dX4_wordOf_1 (by omega) (by omega) (by rw [show (x.toInt - 0).toNat = 1 by omega]; rfl) (by decide) ?_
    refine va_ldcS (tx := "roster") (q := X.adK 1) hx hb hown (hk.1 1 (RX4, 128, "roster") h_str_1) dX4_wordOf_55 ?_
    exact W.aret (v := .ref (X.adK 1)) hx hb hr (Or.inl ⟨_, rfl⟩) (Or.inr ⟨_, rfl⟩) (fun t ht hW => ⟨some (X.adK 1), rfl, ⟨1, (by decide), rfl⟩, ht⟩) (fun _ h => by cases h) dX4_wordOf_57
  · refine lv_tableIn (off := 57) (tgt := 58) hx hb dX4_wordOf_1 (by omega) (by omega) (by rw [show (x.toInt - 0).toNat = 2 by omega]; rfl) (by decide) ?_
    refine va_ldcS (tx := "years") (q := X.adK 2) hx hb hown (hk.1 2 (RX4, 130, "years") h_str_2) dX4_wordOf_58 ?_
    exact W.aret (v := .ref (X.adK 2)) hx hb hr (Or.inl ⟨_, rfl⟩) (Or.inr ⟨_, rfl⟩) (fun t ht hW => ⟨some (X.adK 2), rfl, ⟨2, (by decide), rfl⟩, ht⟩) (fun _ h => by cases h) dX4_wordOf_60
  · refine lv_tableIn (off := 60) (tgt := 61) hx hb dX4_wordOf_1 (by omega) (by omega) (by rw [show (x.toInt - 0).toNat = 3 by omega]; rfl) (by decide) ?_
    refine va_ldcS (tx := "spare") (q := X.adK 3) hx hb hown (hk.1 3 (RX4, 132, "spare") h_str_3) dX4_wordOf_61 ?_
    exact W.aret (v := .ref (X.adK 3)) hx hb hr (Or.inl ⟨_, rfl⟩) (Or.inr ⟨_, rfl⟩) (fun t ht hW => ⟨some (X.adK 3), rfl, ⟨3, (by decide), rfl⟩, ht⟩) (fun _ h => by cases h) dX4_wordOf_63
  · refine lv_tableIn (off := 63) (tgt := 64) hx hb dX4_wordOf_1 (by omega) (by omega) (by rw [show (x.toInt - 0).toNat = 4 by omega]; rfl) (by decide) ?_
    refine va_ldcS (tx := "match") (q := X.adK 4) hx hb hown (hk.1 4 (RX4, 134, "match") h_str_4) dX4_wordOf_64 ?_
    exact W.aret (v := .ref (X.adK 4)) hx hb hr (Or.inl ⟨_, rfl⟩) (Or.inr ⟨_, rfl⟩) (fun t ht hW => ⟨some (X.adK 4), rfl, ⟨4, (by decide), rfl⟩, ht⟩) (fun _ h => by cases h) dX4_wordOf_66
  · refine lv_tableIn (off := 75) (tgt := 76) hx hb dX4_wordOf_1 (by omega) (by omega) (by rw [show (x.toInt - 0).toNat = 5 by omega]; rfl) (by decide) ?_
    refine va_ldcS (tx := "") (q := X.adK 8) hx hb hown (hk.1 8 (RX4, 142, "") h_str_8) dX4_wordOf_76 ?_
    exact W.aret (v := .ref (X.adK 8)) hx hb hr (Or.inl ⟨_, rfl⟩) (Or.inr ⟨_, rfl⟩) (fun t ht hW => ⟨some (X.adK 8), rfl, ⟨8, (by decide), rfl⟩, ht⟩) (fun _ h => by cases h) dX4_wordOf_78
  · refine lv_tableIn (off := 66) (tgt := 67) hx hb dX4_wordOf_1 (by omega) (by omega) (by rw [show (x.toInt - 0).toNat = 6 by omega]; rfl) (by decide) ?_
    refine va_ldcS (tx := "hurt") (q := X.adK 5) hx hb hown (hk.1 5 (RX4, 136, "hurt") h_str_5) dX4_wordOf_67 ?_
    exact W.aret (v := .ref (X.adK 5)) hx hb hr (Or.inl ⟨_, rfl⟩) (Or.inr ⟨_, rfl⟩) (fun t ht hW => ⟨some (X.adK 5), rfl, ⟨5, (by decide), rfl⟩, ht⟩) (fun _ h => by cases h) dX4_wordOf_69
  · refine lv_tableIn (off := 69) (tgt := 70) hx hb dX4_wordOf_1 (by omega) (by omega) (by rw [show (x.toInt - 0).toNat = 7 by omega]; rfl) (by decide) ?_
    refine va_ldcS (tx := "tax") (q := X.adK 6) hx hb hown (hk.1 6 (RX4, 138, "tax") h_str_6) dX4_wordOf_70 ?_
    exact W.aret (v := .ref (X.adK 6)) hx hb hr (Or.inl ⟨_, rfl⟩) (Or.inr ⟨_, rfl⟩) (fun t ht hW => ⟨some (X.adK 6), rfl, ⟨6, (by decide), rfl⟩, ht⟩) (fun _ h => by cases h) dX4_wordOf_72
  · refine lv_tableIn (off := 72) (tgt := 73) hx hb dX4_wordOf_1 (by omega) (by omega) (by rw [show (x.toInt - 0).toNat = 8 by omega]; rfl) (by decide) ?_
    refine va_ldcS (tx := "lots") (q := X.adK 7) hx hb hown (hk.1 7 (RX4, 140, "lots") h_str_7) dX4_wordOf_73 ?_
    exact W.aret (v := .ref (X.adK 7)) hx hb hr (Or.inl ⟨_, rfl⟩) (Or.inr ⟨_, rfl⟩) (fun t ht hW => ⟨some (X.adK 7), rfl, ⟨7, (by decide), rfl⟩, ht⟩) (fun _ h => by cases h) dX4_wordOf_75
set_option maxHeartbeats 4000000 in
set_option maxRecDepth 100000 in
theorem tX4_fail (l : Launch) (E : tE) (X : tX) (A : Nat → Prop) (z : tZ) (I0 : tI) (L0 : tL) (a0 : Nat) (t_a0 : z.ty a0 = 5) (x : Int32) (x_t : Int) (h_x : x.toInt = x_t) : Met l yX4_fail wsX4_fail ({ frames := 1, cells := 0, slots := 0, locals := 64 }) (va_Pc [.ref a0, .int x] (h_P E X A z I0 L0)) (va_Qi (fun r (I1 : tI) => h_I z I1 ∧ h_F [(5, 2), (5, 3)] z I0 I1 ∧ (0 ≤ r.toInt ∧ r.toInt ≤ 0)) (fun (I1 : tI) t => h_B E A z I1 L0 t) A) 0 0 A := by
  refine Met.ofW (cc := cX4_fail) (maxL := 2) (ret := (some .boolean)) (by decide) rfl ?_
  intro pr_ ev_ s m args below meth cd_ s₁ B hml hv
  obtain ⟨rfl, hE, hk, hX, hA, hK, hI, hR, hB0⟩ := hv
  have g : h_G h_so h_fk E A z I0 L0 s s.heap s.heap [] := ⟨hK, va_S.rf, hB0⟩
  have hF : h_F [(5, 2), (5, 3)] z I0 I0 := h_F.rf
  have hx := B.exec
  have hb := B.bytes
  have hr := B.returns
  have hts := atoms_spec (ws := wsX4_fail) B.pre
  have hown : s.vm.findClass RX4 = some m.cls := findClass_of_methodNamed B.named
  have hlocks := B.notSynchronized
  have iX4 : ∀ w ∈ u_ws RX4 TX4 9, w ∈ wsX4_fail := by decide +kernel
  have hl := lv_entry ([.ref a0, .int x]) (n := 2) (Nat.le_of_ble_eq_true rfl)
  rw [lg_entry_eq]
  generalize (lg_sl ([.ref a0, .int x]) ++ List.replicate (2 - (lg_sl ([.ref a0, .int x])).length) Slot.unset).toArray = ls at hl ⊢
  have hl : lv_has ls 2 [(0, .ref a0), (1, .int x)] := hl
  have b_x : -2147483648 ≤ x_t ∧ x_t ≤ 2147483647 := h_x ▸ ⟨xi_lo x, Int.le_of_lt_add_one (xi_hi x)⟩
  refine lv_aload_n hx hb dX4_fail_0 rfl (lv_at hl 0 rfl) ?_
  refine lv_iload_n hx hb dX4_fail_1 rfl (lv_at hl 1 rfl) ?_
  refine h_putI (ty := .int) (v := x) hx hb hts iX4 tyX4 tyX4_ok nmX4 hown g t_a0 (by decide) so_5 rfl 2 (by decide) rfl (hts (.fieldLink RX4 29 "CapLeague$LawReader" "faultKind" "I") (by decide +kernel)) rfl rfl (by decide +kernel) rfl rfl dX4_fail_2 (fun I1 H locs eI1 g => ?_)
  have hI := hI.wr eI1 t_a0 (rfl : h_bd 5 2 = ((-2147483648), 2147483647)) (xi_lo _) (Int.le_of_lt_add_one (xi_hi _))
  have hF := hF.wr eI1 t_a0 rfl
  refine lv_aload_n hx hb dX4_fail_5 rfl (lv_at hl 0 rfl) ?_
  refine lv_aload_n hx hb dX4_fail_6 rfl (lv_at hl 0 rfl) ?_
  refine h_get (v := .int (I1 a0 5)) hx hb hts iX4 hown g t_a0 (by decide) so_5 rfl 5 (by decide) (hts (.fieldLink RX4 84 "CapLeague$LawReader" "place" "I") (by decide +kernel)) rfl dX4_fail_7 rfl ?_
  refine lv_topi (fun v2 ev2 => ?_)
  have jv2 := hI.rd a0 5 t_a0 ev2 (rfl : h_bd 5 5 = ((-2147483648), 2147483647))
  refine h_putI (ty := .int) (v := v2) hx hb hts iX4 tyX4 tyX4_ok nmX4 hown g t_a0 (by decide) so_5 rfl 3 (by decide) rfl (hts (.fieldLink RX4 18 "CapLeague$LawReader" "faultPlace" "I") (by decide +kernel)) rfl rfl (by decide +kernel) rfl rfl dX4_fail_10 (fun I3 H locs eI3 g => ?_)
  have hI := hI.wr eI3 t_a0 (rfl : h_bd 5 3 = ((-2147483648), 2147483647)) (xi_lo _) (Int.le_of_lt_add_one (xi_hi _))
  have hF := hF.wr eI3 t_a0 rfl
  refine lv_iconst (v := 0) hx hb dX4_fail_13 (by decide) ?_
  have hS := g.2.1
  exact W.zret (v := 0) hx hb hr (by decide) (fun t ht hW => ⟨⟨0, I3, rfl, ⟨hI, hF, ⟨(by decide), (by decide)⟩⟩, h_ret g ht⟩, hS.F ht⟩) hS.2.2 dX4_fail_14
set_option maxHeartbeats 4000000 in
set_option maxRecDepth 100000 in
theorem tX4_isWord (l : Launch) (E : tE) (X : tX) (A : Nat → Prop) (z : tZ) (I0 : tI) (L0 : tL) (a0 : Nat) (t_a0 : z.ty a0 = 5) (i1 : Nat) (hi1 : i1 < 10) : Met l yX4_isWord wsX4_isWord ({ frames := 5, cells := 0, slots := 0, locals := 320 }) (va_Pc [.ref a0, .ref (X.adK i1)] (h_P E X A z I0 L0)) (vp_Si (fun r => (0 ≤ r.toInt ∧ r.toInt ≤ 1))) 0 0 (fun _ => False) := by
  refine Met.ofW (cc := cX4_isWord) (maxL := 3) (ret := (some .boolean)) (by decide) rfl ?_
  intro pr_ ev_ s m args below meth cd_ s₁ B hml hv
  obtain ⟨rfl, hE, hk, hX, hA, hK, hI, hR, hB0⟩ := hv
  have g : h_G h_so h_fk E A z I0 L0 s s.heap s.heap [] := ⟨hK, va_S.rf, hB0⟩
  have hx := B.exec
  have hb := B.bytes
  have hr := B.returns
  have hts := atoms_spec (ws := wsX4_isWord) B.pre
  have hown : s.vm.findClass RX4 = some m.cls := findClass_of_methodNamed B.named
  have hlocks := B.notSynchronized
  have iX4 : ∀ w ∈ u_ws RX4 TX4 9, w ∈ wsX4_isWord := by decide +kernel
  have hl := lv_entry ([.ref a0, .ref (X.adK i1)]) (n := 3) (Nat.le_of_ble_eq_true rfl)
  rw [lg_entry_eq]
  generalize (lg_sl ([.ref a0, .ref (X.adK i1)]) ++ List.replicate (3 - (lg_sl ([.ref a0, .ref (X.adK i1)])).length) Slot.unset).toArray = ls at hl ⊢
  have hl : lv_has ls 3 [(0, .ref a0), (1, .ref (X.adK i1))] := hl
  refine lv_aload_n hx hb dX4_isWord_0 rfl (lv_at hl 1 rfl) ?_
  refine vp_callSi (W.runV (As := []) (rest := []) ⟨hx, hb, hml, hown, hts⟩ (tJ0_length_8abf5 l E X A z I0 L0 i1 hi1) (cwV 0 hts gX4_isWord_J0_length_8abf5 rfl rfl rfl (by decide +kernel) ⟨Nat.le_of_ble_eq_true rfl, Nat.le_of_ble_eq_true rfl⟩) ⟨h_blind _ _ _ _ _ _ _, vk_recv hX.2.2.2.2.2 hi1 g.2.1, h_pre _ hE hk hX hA hI hR g⟩ rfl rfl hl.1 rfl (lv_room (Nat.le_of_ble_eq_true rfl)) dX4_isWord_1 ⟨Nat.le_of_ble_eq_true rfl, Nat.le_of_ble_eq_true rfl⟩) (fun rh1 h1 => ?_)
  have h1p0 := h1
  have jrh1 : -2147483648 ≤ rh1.toInt ∧ rh1.toInt ≤ 2147483647 := ⟨xi_lo _, Int.le_of_lt_add_one (xi_hi _)⟩
  have krh1 := h_slen i1
  have rh1q : rh1.toInt = (h_len10.getD i1 0 : Int) := h1p0
  refine lv_aload_n hx hb dX4_isWord_4 rfl (lv_at hl 0 rfl) ?_
  refine h_get (v := .int (I0 a0 6)) hx hb hts iX4 hown g t_a0 (by decide) so_5 rfl 6 (by decide) (hts (.fieldLink RX4 32 "CapLeague$LawReader" "behind" "I") (by decide +kernel)) rfl dX4_isWord_5 rfl ?_
  refine lv_topi (fun v2 ev2 => ?_)
  have jv2 := hI.rd a0 6 t_a0 ev2 (rfl : h_bd 5 6 = ((-2147483648), 2147483647))
  refine lv_aload_n hx hb dX4_isWord_8 rfl (lv_at hl 0 rfl) ?_
  refine h_get (v := .int (I0 a0 5)) hx hb hts iX4 hown g t_a0 (by decide) so_5 rfl 5 (by decide) (hts (.fieldLink RX4 84 "CapLeague$LawReader" "place" "I") (by decide +kernel)) rfl dX4_isWord_9 rfl ?_
  refine lv_topi (fun v3 ev3 => ?_)
  have jv3 := hI.rd a0 5 t_a0 ev3 (rfl : h_bd 5 5 = ((-2147483648), 2147483647))
  refine lv_isub hx hb dX4_isWord_12 ?_
  refine lv_topi (fun v4 ev4 => ?_)
  have jv4 : -2147483648 ≤ v4.toInt ∧ v4.toInt ≤ 2147483647 := ⟨xi_lo _, Int.le_of_lt_add_one (xi_hi _)⟩
  refine lv_icmp_eq (tgt := 18) hx hb dX4_isWord_13 (by decide) (fun c5 => ?_) (fun c5 => ?_)
  · have ic5 := (xi_eq c5 rfl rfl : rh1.toInt = v4.toInt)
    refine lv_iconst (v := 0) hx hb dX4_isWord_18 (by decide) ?_
    refine lv_istore_n (lv' := [(2, .int 0), (0, .ref a0), (1, .ref (X.adK i1))]) hx hb dX4_isWord_19 rfl hl (by decide) rfl (fun ls hl => ?_)
    have loop20_0 : ∀ (n : Nat) (ls : Array Slot) (v6 : Int32), lv_has ls 3 [(0, .ref a0), (1, .ref (X.adK i1)), (2, .int v6)] → (0 ≤ v6.toInt ∧ v6.toInt ≤ 43) → (43 - v6.toInt) < (n : Int) → W pr_ l ev_ (headSpec wsX4_isWord ({ frames := 5, cells := 0, slots := 0, locals := 320 })).room s m ([.ref a0, .ref (X.adK i1)] : List Value).toArray below meth cd_ s.heap [] 0 0 (MQ below (vp_Si (fun r => (0 ≤ r.toInt ∧ r.toInt ≤ 1))) ([.ref a0, .ref (X.adK i1)] : List Value).toArray s 0 0 (fun _ => False)) (F0 m 20 ls []) := by
      intro n
      induction n with
      | zero => intro ls v6 hl jv6 hn; exact absurd hn (by omega)
      | succ n ih20 =>
        intro ls v6 hl jv6 hn
        refine lv_iload_n hx hb dX4_isWord_20 rfl (lv_at hl 2 rfl) ?_
        refine lv_aload_n hx hb dX4_isWord_21 rfl (lv_at hl 1 rfl) ?_
        refine vp_callSi (W.runV (As := []) (rest := [.int v6]) ⟨hx, hb, hml, hown, hts⟩ (tJ0_length_8abf5 l E X A z I0 L0 i1 hi1) (cwV 0 hts gX4_isWord_J0_length_8abf5 rfl rfl rfl (by decide +kernel) ⟨Nat.le_of_ble_eq_true rfl, Nat.le_of_ble_eq_true rfl⟩) ⟨h_blind _ _ _ _ _ _ _, vk_recv hX.2.2.2.2.2 hi1 g.2.1, h_pre _ hE hk hX hA hI hR g⟩ rfl rfl hl.1 rfl (lv_room (Nat.le_of_ble_eq_true rfl)) dX4_isWord_22 ⟨Nat.le_of_ble_eq_true rfl, Nat.le_of_ble_eq_true rfl⟩) (fun rh7 h7 => ?_)
        have h7p0 := h7
        have jrh7 : -2147483648 ≤ rh7.toInt ∧ rh7.toInt ≤ 2147483647 := ⟨xi_lo _, Int.le_of_lt_add_one (xi_hi _)⟩
        have krh7 := h_slen i1
        have rh7q : rh7.toInt = (h_len10.getD i1 0 : Int) := h7p0
        refine lv_icmp_ge (tgt := 57) hx hb dX4_isWord_25 (by decide) (fun c8 => ?_) (fun c8 => ?_)
        · have ic8 := (xi_le c8 rfl rfl : rh7.toInt ≤ v6.toInt)
          refine lv_iconst (v := 1) hx hb dX4_isWord_57 (by decide) ?_
          exact W.zret (v := 1) hx hb hr (by decide) (fun t ht hW => ⟨1, rfl, ⟨(by decide), (by decide)⟩, ht⟩) (fun _ h => by cases h) dX4_isWord_58
        · have ic8 := (xi_nle c8 rfl rfl : v6.toInt < rh7.toInt)
          refine lv_aload_n hx hb dX4_isWord_28 rfl (lv_at hl 0 rfl) ?_
          obtain ⟨b9, rb9, tb9⟩ := hR.at a0 0 t_a0 (rfl : h_rs 5 0 = some (9, false)) (by decide)
          refine h_get (v := .ref b9) hx hb hts iX4 hown g t_a0 (by decide) so_5 rfl 0 (by decide) (hts (.fieldLink RX4 22 "CapLeague$LawReader" "tape" "LCapLeague$Tape;") (by decide +kernel)) rfl dX4_isWord_29 (by show va_rf (z.R a0 0) = _; rw [rb9]; rfl) ?_
          refine lv_aload_n hx hb dX4_isWord_32 rfl (lv_at hl 0 rfl) ?_
          refine h_get (v := .int v3) hx hb hts iX4 hown g t_a0 (by decide) so_5 rfl 5 (by decide) (hts (.fieldLink RX4 84 "CapLeague$LawReader" "place" "I") (by decide +kernel)) rfl dX4_isWord_33 (congrArg Value.int (ev3.symm)) ?_
          refine lv_iload_n hx hb dX4_isWord_36 rfl (lv_at hl 2 rfl) ?_
          refine lv_iadd hx hb dX4_isWord_37 ?_
          refine lv_topi (fun v10 ev10 => ?_)
          have jv10 : -2147483648 ≤ v10.toInt ∧ v10.toInt ≤ 2147483647 := ⟨xi_lo _, Int.le_of_lt_add_one (xi_hi _)⟩
          refine vp_callSi (W.runV (As := [.int v10]) (rest := []) ⟨hx, hb, hml, hown, hts⟩ (tX8_at l E X A z I0 L0 b9 tb9 v10 (v10.toInt) rfl) (cwV 1 hts gX4_isWord_X8_at rfl rfl rfl (by decide +kernel) ⟨Nat.le_of_ble_eq_true rfl, Nat.le_of_ble_eq_true rfl⟩) ⟨h_blind _ _ _ _ _ _ _, h_recv g tb9 (by decide) so_9 (q := (RX8, TX8, 2)) rfl, h_pre _ hE hk hX hA hI hR g⟩ rfl rfl hl.1 rfl (lv_room (Nat.le_of_ble_eq_true rfl)) dX4_isWord_38 ⟨Nat.le_of_ble_eq_true rfl, Nat.le_of_ble_eq_true rfl⟩) (fun rh11 h11 => ?_)
          refine lv_aload_n hx hb dX4_isWord_41 rfl (lv_at hl 1 rfl) ?_
          refine lv_iload_n hx hb dX4_isWord_42 rfl (lv_at hl 2 rfl) ?_
          refine vp_callSi (W.runV (As := [.int v6]) (rest := [.int rh11]) ⟨hx, hb, hml, hown, hts⟩ (tJ0_charAt_5068e l E X A z I0 L0 i1 hi1 v6 (v6.toInt) rfl (by omega) (by omega)) (cwV 1 hts gX4_isWord_J0_charAt_5068e rfl rfl rfl (by decide +kernel) ⟨Nat.le_of_ble_eq_true rfl, Nat.le_of_ble_eq_true rfl⟩) ⟨h_blind _ _ _ _ _ _ _, vk_recv hX.2.2.2.2.2 hi1 g.2.1, h_pre _ hE hk hX hA hI hR g⟩ rfl rfl hl.1 rfl (lv_room (Nat.le_of_ble_eq_true rfl)) dX4_isWord_43 ⟨Nat.le_of_ble_eq_true rfl, Nat.le_of_ble_eq_true rfl⟩) (fun rh12 h12 => ?_)
          refine lv_icmp_eq (tgt := 51) hx hb dX4_isWord_46 (by decide) (fun c13 => ?_) (fun c13 => ?_)
          · have ic13 := (xi_eq c13 rfl rfl : rh11.toInt = rh12.toInt)
            obtain ⟨v14, ev14⟩ : ∃ z : Int32, z = v6 + 1 := ⟨_, rfl⟩
            have jv14 : v14.toInt = v6.toInt + 1 := xi_add ev14 rfl (by decide) (by omega) (by omega)
            refine lv_iinc (v := v14) (lv' := [(2, .int v14), (0, .ref a0), (1, .ref (X.adK i1))]) hx hb dX4_isWord_51 hl (k := 2) rfl (by rw [ev14]; rfl) (by decide) rfl (fun ls hl => ?_)
            refine lv_goto (tgt := 20) hx hb dX4_isWord_54 (by decide) ?_
            exact ih20 _ v14 (lv_sub hl [1, 2, 0] rfl) (by omega) (by omega)
          · have ic13 := (xi_ne c13 rfl rfl : rh11.toInt ≠ rh12.toInt)
            refine lv_iconst (v := 0) hx hb dX4_isWord_49 (by decide) ?_
            exact W.zret (v := 0) hx hb hr (by decide) (fun t ht hW => ⟨0, rfl, ⟨(by decide), (by decide)⟩, ht⟩) (fun _ h => by cases h) dX4_isWord_50
    exact loop20_0 _ _ (0) (lv_sub hl [1, 2, 0] rfl) ⟨by decide, by decide⟩ (show (43 - (0 : Int)) < (((43 - (0 : Int)).toNat + 1 : Nat) : Int) by omega)
  · have ic5 := (xi_ne c5 rfl rfl : rh1.toInt ≠ v4.toInt)
    refine lv_iconst (v := 0) hx hb dX4_isWord_16 (by decide) ?_
    exact W.zret (v := 0) hx hb hr (by decide) (fun t ht hW => ⟨0, rfl, ⟨(by decide), (by decide)⟩, ht⟩) (fun _ h => by cases h) dX4_isWord_17
set_option maxHeartbeats 4000000 in
set_option maxRecDepth 100000 in
theorem tX4_lineOfWord (l : Launch) (E : tE) (X : tX) (A : Nat → Prop) (z : tZ) (I0 : tI) (L0 : tL) (a0 : Nat) (t_a0 : z.ty a0 = 5) : Met l yX4_lineOfWord wsX4_lineOfWord ({ frames := 6, cells := 0, slots := 0, locals := 384 }) (va_Pc [.ref a0] (h_P E X A z I0 L0)) (vp_Si (fun r => ((-1) ≤ r.toInt ∧ r.toInt ≤ 8))) 0 0 (fun _ => False) := by
  refine Met.ofW (cc := cX4_lineOfWord) (maxL := 2) (ret := (some .int)) (by decide) rfl ?_
  intro pr_ ev_ s m args below meth cd_ s₁ B hml hv
  obtain ⟨rfl, hE, hk, hX, hA, hK, hI, hR, hB0⟩ := hv
  have g : h_G h_so h_fk E A z I0 L0 s s.heap s.heap [] := ⟨hK, va_S.rf, hB0⟩
  have hx := B.exec
  have hb := B.bytes
  have hr := B.returns
  have hts := atoms_spec (ws := wsX4_lineOfWord) B.pre
  have hown : s.vm.findClass RX4 = some m.cls := findClass_of_methodNamed B.named
  have hlocks := B.notSynchronized
  have hl := lv_entry ([.ref a0]) (n := 2) (Nat.le_of_ble_eq_true rfl)
  rw [lg_entry_eq]
  generalize (lg_sl ([.ref a0]) ++ List.replicate (2 - (lg_sl ([.ref a0])).length) Slot.unset).toArray = ls at hl ⊢
  have hl : lv_has ls 2 [(0, .ref a0)] := hl
  refine lv_iconst (v := 0) hx hb dX4_lineOfWord_0 (by decide) ?_
  refine lv_istore_n (lv' := [(1, .int 0), (0, .ref a0)]) hx hb dX4_lineOfWord_1 rfl hl (by decide) rfl (fun ls hl => ?_)
  have loop2_0 : ∀ (n : Nat) (ls : Array Slot) (v1 : Int32), lv_has ls 2 [(0, .ref a0), (1, .int v1)] → (0 ≤ v1.toInt ∧ v1.toInt ≤ 9) → (9 - v1.toInt) < (n : Int) → W pr_ l ev_ (headSpec wsX4_lineOfWord ({ frames := 6, cells := 0, slots := 0, locals := 384 })).room s m ([.ref a0] : List Value).toArray below meth cd_ s.heap [] 0 0 (MQ below (vp_Si (fun r => ((-1) ≤ r.toInt ∧ r.toInt ≤ 8))) ([.ref a0] : List Value).toArray s 0 0 (fun _ => False)) (F0 m 2 ls []) := by
    intro n
    induction n with
    | zero => intro ls v1 hl jv1 hn; exact absurd hn (by omega)
    | succ n ih2 =>
      intro ls v1 hl jv1 hn
      refine lv_iload_n hx hb dX4_lineOfWord_2 rfl (lv_at hl 1 rfl) ?_
      refine lv_bipush (v := 8) hx hb dX4_lineOfWord_3 (by decide) ?_
      refine lv_icmp_gt (tgt := 27) hx hb dX4_lineOfWord_5 (by decide) (fun c2 => ?_) (fun c2 => ?_)
      · have ic2 := (xi_lt c2 (by decide) rfl : 8 < v1.toInt)
        refine lv_iconst (v := (-1)) hx hb dX4_lineOfWord_27 (by decide) ?_
        exact W.iret (v := (-1)) hx hb hr (fun t ht hW => ⟨(-1), rfl, ⟨(by decide), (by decide)⟩, ht⟩) (fun _ h => by cases h) dX4_lineOfWord_28
      · have ic2 := (xi_nlt c2 (by decide) rfl : v1.toInt ≤ 8)
        refine lv_aload_n hx hb dX4_lineOfWord_8 rfl (lv_at hl 0 rfl) ?_
        refine lv_iload_n hx hb dX4_lineOfWord_9 rfl (lv_at hl 1 rfl) ?_
        refine va_csq (W.runS (As := [.int v1]) (rest := [.ref a0]) ⟨hx, hb, hml, hown, hts⟩ (tX4_wordOf l E X A z I0 L0 v1 (v1.toInt) rfl) (va_cwS 1 hts gX4_lineOfWord_X4_wordOf rfl rfl rfl (by decide +kernel) ⟨Nat.le_of_ble_eq_true rfl, Nat.le_of_ble_eq_true rfl⟩) ⟨h_blind _ _ _ _ _ _ _, h_pre _ hE hk hX hA hI hR g⟩ rfl rfl hl.1 rfl (lv_room (Nat.le_of_ble_eq_true rfl)) dX4_lineOfWord_10 ⟨Nat.le_of_ble_eq_true rfl, Nat.le_of_ble_eq_true rfl⟩) (fun rh3 h3 => ?_)
        obtain ⟨rh3, hrh3, rfl⟩ := h3
        refine xw_v (v := .ref (X.adK rh3)) rfl ?_
        refine vp_callSi (W.runV (As := [.ref (X.adK rh3)]) (rest := []) ⟨hx, hb, hml, hown, hts⟩ (tX4_isWord l E X A z I0 L0 a0 t_a0 rh3 hrh3) (cwV 1 hts gX4_lineOfWord_X4_isWord rfl rfl rfl (by decide +kernel) ⟨Nat.le_of_ble_eq_true rfl, Nat.le_of_ble_eq_true rfl⟩) ⟨h_blind _ _ _ _ _ _ _, h_recv g t_a0 (by decide) so_5 (q := (RX4, TX4, 9)) rfl, h_pre _ hE hk hX hA hI hR g⟩ rfl rfl hl.1 rfl (lv_room (Nat.le_of_ble_eq_true rfl)) dX4_lineOfWord_13 ⟨Nat.le_of_ble_eq_true rfl, Nat.le_of_ble_eq_true rfl⟩) (fun rh4 h4 => ?_)
        refine lv_if_eq (tgt := 21) hx hb dX4_lineOfWord_16 (by decide) (fun c5 => ?_) (fun c5 => ?_)
        · have ic5 := (xi_eq c5 rfl (by decide) : rh4.toInt = 0)
          obtain ⟨v6, ev6⟩ : ∃ z : Int32, z = v1 + 1 := ⟨_, rfl⟩
          have jv6 : v6.toInt = v1.toInt + 1 := xi_add ev6 rfl (by decide) (by omega) (by omega)
          refine lv_iinc (v := v6) (lv' := [(1, .int v6), (0, .ref a0)]) hx hb dX4_lineOfWord_21 hl (k := 1) rfl (by rw [ev6]; rfl) (by decide) rfl (fun ls hl => ?_)
          refine lv_goto (tgt := 2) hx hb dX4_lineOfWord_24 (by decide) ?_
          exact ih2 _ v6 (lv_sub hl [1, 0] rfl) (by omega) (by omega)
        · have ic5 := (xi_ne c5 rfl (by decide) : rh4.toInt ≠ 0)
          refine lv_iload_n hx hb dX4_lineOfWord_19 rfl (lv_at hl 1 rfl) ?_
          exact W.iret (v := v1) hx hb hr (fun t ht hW => ⟨v1, rfl, ⟨(by omega), (by omega)⟩, ht⟩) (fun _ h => by cases h) dX4_lineOfWord_20
  exact loop2_0 _ _ (0) (lv_sub hl [1, 0] rfl) ⟨by decide, by decide⟩ (show (9 - (0 : Int)) < (((9 - (0 : Int)).toNat + 1 : Nat) : Int) by omega)
set_option maxHeartbeats 4000000 in
set_option maxRecDepth 100000 in
theorem tX4_readWord (l : Launch) (E : tE) (X : tX) (A : Nat → Prop) (z : tZ) (I0 : tI) (L0 : tL) (a0 : Nat) (t_a0 : z.ty a0 = 5) : Met l yX4_readWord wsX4_readWord ({ frames := 2, cells := 0, slots := 0, locals := 128 }) (va_Pc [.ref a0] (h_P E X A z I0 L0)) (va_Qv (fun (I1 : tI) => h_I z I1 ∧ h_F [(5, 4), (5, 6)] z I0 I1 ∧ True) (fun (I1 : tI) t => h_B E A z I1 L0 t) A) 0 0 A := by
  refine Met.ofW (cc := cX4_readWord) (maxL := 1) (ret := none) (by decide) rfl ?_
  intro pr_ ev_ s m args below meth cd_ s₁ B hml hv
  obtain ⟨rfl, hE, hk, hX, hA, hK, hI, hR, hB0⟩ := hv
  have g : h_G h_so h_fk E A z I0 L0 s s.heap s.heap [] := ⟨hK, va_S.rf, hB0⟩
  have hF : h_F [(5, 4), (5, 6)] z I0 I0 := h_F.rf
  have hx := B.exec
  have hb := B.bytes
  have hr := B.returns
  have hts := atoms_spec (ws := wsX4_readWord) B.pre
  have hown : s.vm.findClass RX4 = some m.cls := findClass_of_methodNamed B.named
  have hlocks := B.notSynchronized
  have iX4 : ∀ w ∈ u_ws RX4 TX4 9, w ∈ wsX4_readWord := by decide +kernel
  have iX8 : ∀ w ∈ u_ws RX8 TX8 2, w ∈ wsX4_readWord := by decide +kernel
  have hl := lv_entry ([.ref a0]) (n := 1) (Nat.le_of_ble_eq_true rfl)
  rw [lg_entry_eq]
  generalize (lg_sl ([.ref a0]) ++ List.replicate (1 - (lg_sl ([.ref a0])).length) Slot.unset).toArray = ls at hl ⊢
  have hl : lv_has ls 1 [(0, .ref a0)] := hl
  refine lv_aload_n hx hb dX4_readWord_0 rfl (lv_at hl 0 rfl) ?_
  refine lv_iconst (v := 1) hx hb dX4_readWord_1 (by decide) ?_
  refine h_putI (ty := .int) (v := 1) hx hb hts iX4 tyX4 tyX4_ok nmX4 hown g t_a0 (by decide) so_5 rfl 4 (by decide) rfl (hts (.fieldLink RX4 43 "CapLeague$LawReader" "kind" "I") (by decide +kernel)) rfl rfl (by decide +kernel) rfl rfl dX4_readWord_2 (fun I1 H locs eI1 g => ?_)
  have hI := hI.wr eI1 t_a0 (rfl : h_bd 5 4 = ((-2147483648), 2147483647)) (by decide) (by decide)
  have hF := hF.wr eI1 t_a0 rfl
  refine lv_aload_n hx hb dX4_readWord_5 rfl (lv_at hl 0 rfl) ?_
  refine lv_aload_n hx hb dX4_readWord_6 rfl (lv_at hl 0 rfl) ?_
  refine h_get (v := .int (I1 a0 5)) hx hb hts iX4 hown g t_a0 (by decide) so_5 rfl 5 (by decide) (hts (.fieldLink RX4 84 "CapLeague$LawReader" "place" "I") (by decide +kernel)) rfl dX4_readWord_7 rfl ?_
  refine lv_topi (fun v2 ev2 => ?_)
  have jv2 := hI.rd a0 5 t_a0 ev2 (rfl : h_bd 5 5 = ((-2147483648), 2147483647))
  refine h_putI (ty := .int) (v := v2) hx hb hts iX4 tyX4 tyX4_ok nmX4 hown g t_a0 (by decide) so_5 rfl 6 (by decide) rfl (hts (.fieldLink RX4 32 "CapLeague$LawReader" "behind" "I") (by decide +kernel)) rfl rfl (by decide +kernel) rfl rfl dX4_readWord_10 (fun I3 H locs eI3 g => ?_)
  have hI := hI.wr eI3 t_a0 (rfl : h_bd 5 6 = ((-2147483648), 2147483647)) (xi_lo _) (Int.le_of_lt_add_one (xi_hi _))
  have hF := hF.wr eI3 t_a0 rfl
  have loop13_0 : ∀ (n : Nat) (I4 : tI) (H : Heap) (locs : List Loc) (ls : Array Slot), h_G h_so h_fk E A z I4 L0 s s.heap H locs → h_I z I4 → h_F [(5, 4), (5, 6)] z I0 I4 → lv_has ls 1 [(0, .ref a0)] → (((500 - (I4 a0 6).toInt).toNat : Int)) < (n : Int) → W pr_ l ev_ (headSpec wsX4_readWord ({ frames := 2, cells := 0, slots := 0, locals := 128 })).room s m ([.ref a0] : List Value).toArray below meth cd_ H locs 0 0 (MQ below (va_Qv (fun (I1 : tI) => h_I z I1 ∧ h_F [(5, 4), (5, 6)] z I0 I1 ∧ True) (fun (I1 : tI) t => h_B E A z I1 L0 t) A) ([.ref a0] : List Value).toArray s 0 0 A) (F0 m 13 ls []) := by
    intro n
    induction n with
    | zero => intro I4 H locs ls g hI hF hl hn; exact absurd hn (by omega)
    | succ n ih13 =>
      intro I4 H locs ls g hI hF hl hn
      obtain ⟨v5, ev5⟩ : ∃ v : Int32, v = I4 a0 6 := ⟨_, rfl⟩
      rw [← ev5] at hn
      have jv5 := hI.rd a0 6 t_a0 ev5 (rfl : h_bd 5 6 = ((-2147483648), 2147483647))
      refine lv_aload_n hx hb dX4_readWord_13 rfl (lv_at hl 0 rfl) ?_
      refine h_get (v := .int v5) hx hb hts iX4 hown g t_a0 (by decide) so_5 rfl 6 (by decide) (hts (.fieldLink RX4 32 "CapLeague$LawReader" "behind" "I") (by decide +kernel)) rfl dX4_readWord_14 (congrArg Value.int (ev5.symm)) ?_
      refine lv_aload_n hx hb dX4_readWord_17 rfl (lv_at hl 0 rfl) ?_
      obtain ⟨b6, rb6, tb6⟩ := hR.at a0 0 t_a0 (rfl : h_rs 5 0 = some (9, false)) (by decide)
      refine h_get (v := .ref b6) hx hb hts iX4 hown g t_a0 (by decide) so_5 rfl 0 (by decide) (hts (.fieldLink RX4 22 "CapLeague$LawReader" "tape" "LCapLeague$Tape;") (by decide +kernel)) rfl dX4_readWord_18 (by show va_rf (z.R a0 0) = _; rw [rb6]; rfl) ?_
      refine h_get (v := .int (I4 b6 1)) hx hb hts iX8 hown g tb6 (by decide) so_9 rfl 1 (by decide) (hts (.fieldLink RX4 87 "CapLeague$Tape" "size" "I") (by decide +kernel)) rfl dX4_readWord_21 rfl ?_
      refine lv_topi (fun v7 ev7 => ?_)
      have jv7 := hI.rd b6 1 tb6 ev7 (rfl : h_bd 9 1 = (0, 500))
      refine lv_icmp_ge (tgt := 57) hx hb dX4_readWord_24 (by decide) (fun c8 => ?_) (fun c8 => ?_)
      · have ic8 := (xi_le c8 rfl rfl : v7.toInt ≤ v5.toInt)
        have hS := g.2.1
        exact W.vret hx hb hr (fun t ht hW => ⟨⟨I4, rfl, ⟨hI, hF, trivial⟩, h_ret g ht⟩, hS.F ht⟩) hS.2.2 dX4_readWord_57
      · have ic8 := (xi_nle c8 rfl rfl : v5.toInt < v7.toInt)
        refine lv_aload_n hx hb dX4_readWord_27 rfl (lv_at hl 0 rfl) ?_
        refine h_get (v := .ref b6) hx hb hts iX4 hown g t_a0 (by decide) so_5 rfl 0 (by decide) (hts (.fieldLink RX4 22 "CapLeague$LawReader" "tape" "LCapLeague$Tape;") (by decide +kernel)) rfl dX4_readWord_28 (by show va_rf (z.R a0 0) = _; rw [rb6]; rfl) ?_
        refine lv_aload_n hx hb dX4_readWord_31 rfl (lv_at hl 0 rfl) ?_
        refine h_get (v := .int v5) hx hb hts iX4 hown g t_a0 (by decide) so_5 rfl 6 (by decide) (hts (.fieldLink RX4 32 "CapLeague$LawReader" "behind" "I") (by decide +kernel)) rfl dX4_readWord_32 (congrArg Value.int (ev5.symm)) ?_
        refine vp_callSi (W.runV (As := [.int v5]) (rest := []) ⟨hx, hb, hml, hown, hts⟩ (tX8_at l E X A z I4 L0 b6 tb6 v5 (v5.toInt) rfl) (cwV 1 hts gX4_readWord_X8_at rfl rfl rfl (by decide +kernel) ⟨Nat.le_of_ble_eq_true rfl, Nat.le_of_ble_eq_true rfl⟩) ⟨h_blind _ _ _ _ _ _ _, h_recv g tb6 (by decide) so_9 (q := (RX8, TX8, 2)) rfl, h_pre _ hE hk hX hA hI hR g⟩ rfl rfl hl.1 rfl (lv_room (Nat.le_of_ble_eq_true rfl)) dX4_readWord_35 ⟨Nat.le_of_ble_eq_true rfl, Nat.le_of_ble_eq_true rfl⟩) (fun rh9 h9 => ?_)
        refine vp_callSi (W.runS (As := [.int rh9]) (rest := []) ⟨hx, hb, hml, hown, hts⟩ (tX4_isLetter l E X A z I4 L0 rh9 (rh9.toInt) rfl) (va_cwS 1 hts gX4_readWord_X4_isLetter rfl rfl rfl (by decide +kernel) ⟨Nat.le_of_ble_eq_true rfl, Nat.le_of_ble_eq_true rfl⟩) ⟨h_blind _ _ _ _ _ _ _, h_pre _ hE hk hX hA hI hR g⟩ rfl rfl hl.1 rfl (lv_room (Nat.le_of_ble_eq_true rfl)) dX4_readWord_38 ⟨Nat.le_of_ble_eq_true rfl, Nat.le_of_ble_eq_true rfl⟩) (fun rh10 h10 => ?_)
        refine lv_if_eq (tgt := 57) hx hb dX4_readWord_41 (by decide) (fun c11 => ?_) (fun c11 => ?_)
        · have ic11 := (xi_eq c11 rfl (by decide) : rh10.toInt = 0)
          have hS := g.2.1
          exact W.vret hx hb hr (fun t ht hW => ⟨⟨I4, rfl, ⟨hI, hF, trivial⟩, h_ret g ht⟩, hS.F ht⟩) hS.2.2 dX4_readWord_57
        · have ic11 := (xi_ne c11 rfl (by decide) : rh10.toInt ≠ 0)
          refine lv_aload_n hx hb dX4_readWord_44 rfl (lv_at hl 0 rfl) ?_
          refine lv_dup hx hb dX4_readWord_45 rfl ?_
          refine h_get (v := .int v5) hx hb hts iX4 hown g t_a0 (by decide) so_5 rfl 6 (by decide) (hts (.fieldLink RX4 32 "CapLeague$LawReader" "behind" "I") (by decide +kernel)) rfl dX4_readWord_46 (congrArg Value.int (ev5.symm)) ?_
          refine lv_iconst (v := 1) hx hb dX4_readWord_49 (by decide) ?_
          refine lv_iadd hx hb dX4_readWord_50 ?_
          refine lv_topi (fun v12 ev12 => ?_)
          have jv12 : v12.toInt = v5.toInt + 1 := xi_add ev12 rfl (by decide) (by omega) (by omega)
          refine h_putI (ty := .int) (v := v12) hx hb hts iX4 tyX4 tyX4_ok nmX4 hown g t_a0 (by decide) so_5 rfl 6 (by decide) rfl (hts (.fieldLink RX4 32 "CapLeague$LawReader" "behind" "I") (by decide +kernel)) rfl rfl (by decide +kernel) rfl rfl dX4_readWord_51 (fun I13 H locs eI13 g => ?_)
          have hI := hI.wr eI13 t_a0 (rfl : h_bd 5 6 = ((-2147483648), 2147483647)) (xi_lo _) (Int.le_of_lt_add_one (xi_hi _))
          have hF := hF.wr eI13 t_a0 rfl
          refine lv_goto (tgt := 13) hx hb dX4_readWord_54 (by decide) ?_
          have k14 : (I13 a0 6).toInt = v12.toInt := by rw [h_n0 eI13]
          exact ih13 I13 _ _ _ g hI hF (lv_sub hl [0] rfl) (by omega)
  have k15 : (I3 a0 6).toInt = v2.toInt := by rw [h_n0 eI3]
  exact loop13_0 _ I3 _ _ _ g hI hF (lv_sub hl [0] rfl) (show (((500 - (I3 a0 6).toInt).toNat : Int)) < (((((500 - (I3 a0 6).toInt).toNat : Int)).toNat + 1 : Nat) : Int) by omega)
set_option maxHeartbeats 4000000 in
set_option maxRecDepth 100000 in
theorem tX4_readNumber (l : Launch) (E : tE) (X : tX) (A : Nat → Prop) (z : tZ) (I0 : tI) (L0 : tL) (a0 : Nat) (t_a0 : z.ty a0 = 5) : Met l yX4_readNumber wsX4_readNumber ({ frames := 2, cells := 0, slots := 0, locals := 128 }) (va_Pc [.ref a0] (h_P E X A z I0 L0)) (va_Qv (fun (I1 : tI) => h_I z I1 ∧ h_F [(5, 4), (5, 6), (5, 7)] z I0 I1 ∧ True) (fun (I1 : tI) t => h_B E A z I1 L0 t) A) 0 0 A := by
  refine Met.ofW (cc := cX4_readNumber) (maxL := 1) (ret := none) (by decide) rfl ?_
  intro pr_ ev_ s m args below meth cd_ s₁ B hml hv
  obtain ⟨rfl, hE, hk, hX, hA, hK, hI, hR, hB0⟩ := hv
  have g : h_G h_so h_fk E A z I0 L0 s s.heap s.heap [] := ⟨hK, va_S.rf, hB0⟩
  have hF : h_F [(5, 4), (5, 6), (5, 7)] z I0 I0 := h_F.rf
  have hx := B.exec
  have hb := B.bytes
  have hr := B.returns
  have hts := atoms_spec (ws := wsX4_readNumber) B.pre
  have hown : s.vm.findClass RX4 = some m.cls := findClass_of_methodNamed B.named
  have hlocks := B.notSynchronized
  have iX4 : ∀ w ∈ u_ws RX4 TX4 9, w ∈ wsX4_readNumber := by decide +kernel
  have iX8 : ∀ w ∈ u_ws RX8 TX8 2, w ∈ wsX4_readNumber := by decide +kernel
  have hl := lv_entry ([.ref a0]) (n := 1) (Nat.le_of_ble_eq_true rfl)
  rw [lg_entry_eq]
  generalize (lg_sl ([.ref a0]) ++ List.replicate (1 - (lg_sl ([.ref a0])).length) Slot.unset).toArray = ls at hl ⊢
  have hl : lv_has ls 1 [(0, .ref a0)] := hl
  refine lv_aload_n hx hb dX4_readNumber_0 rfl (lv_at hl 0 rfl) ?_
  refine lv_aload_n hx hb dX4_readNumber_1 rfl (lv_at hl 0 rfl) ?_
  refine h_get (v := .int (I0 a0 5)) hx hb hts iX4 hown g t_a0 (by decide) so_5 rfl 5 (by decide) (hts (.fieldLink RX4 84 "CapLeague$LawReader" "place" "I") (by decide +kernel)) rfl dX4_readNumber_2 rfl ?_
  refine lv_topi (fun v1 ev1 => ?_)
  have jv1 := hI.rd a0 5 t_a0 ev1 (rfl : h_bd 5 5 = ((-2147483648), 2147483647))
  refine h_putI (ty := .int) (v := v1) hx hb hts iX4 tyX4 tyX4_ok nmX4 hown g t_a0 (by decide) so_5 rfl 6 (by decide) rfl (hts (.fieldLink RX4 32 "CapLeague$LawReader" "behind" "I") (by decide +kernel)) rfl rfl (by decide +kernel) rfl rfl dX4_readNumber_5 (fun I2 H locs eI2 g => ?_)
  have hI := hI.wr eI2 t_a0 (rfl : h_bd 5 6 = ((-2147483648), 2147483647)) (xi_lo _) (Int.le_of_lt_add_one (xi_hi _))
  have hF := hF.wr eI2 t_a0 rfl
  refine lv_aload_n hx hb dX4_readNumber_8 rfl (lv_at hl 0 rfl) ?_
  refine lv_iconst (v := 0) hx hb dX4_readNumber_9 (by decide) ?_
  refine h_putI (ty := .int) (v := 0) hx hb hts iX4 tyX4 tyX4_ok nmX4 hown g t_a0 (by decide) so_5 rfl 7 (by decide) rfl (hts (.fieldLink RX4 67 "CapLeague$LawReader" "value" "I") (by decide +kernel)) rfl rfl (by decide +kernel) rfl rfl dX4_readNumber_10 (fun I3 H locs eI3 g => ?_)
  have hI := hI.wr eI3 t_a0 (rfl : h_bd 5 7 = ((-2147483648), 2147483647)) (by decide) (by decide)
  have hF := hF.wr eI3 t_a0 rfl
  have loop13_0 : ∀ (n : Nat) (I4 : tI) (H : Heap) (locs : List Loc) (ls : Array Slot), h_G h_so h_fk E A z I4 L0 s s.heap H locs → h_I z I4 → h_F [(5, 4), (5, 6), (5, 7)] z I0 I4 → lv_has ls 1 [(0, .ref a0)] → (((500 - (I4 a0 6).toInt).toNat : Int)) < (n : Int) → W pr_ l ev_ (headSpec wsX4_readNumber ({ frames := 2, cells := 0, slots := 0, locals := 128 })).room s m ([.ref a0] : List Value).toArray below meth cd_ H locs 0 0 (MQ below (va_Qv (fun (I1 : tI) => h_I z I1 ∧ h_F [(5, 4), (5, 6), (5, 7)] z I0 I1 ∧ True) (fun (I1 : tI) t => h_B E A z I1 L0 t) A) ([.ref a0] : List Value).toArray s 0 0 A) (F0 m 13 ls []) := by
    intro n
    induction n with
    | zero => intro I4 H locs ls g hI hF hl hn; exact absurd hn (by omega)
    | succ n ih13 =>
      intro I4 H locs ls g hI hF hl hn
      obtain ⟨v5, ev5⟩ : ∃ v : Int32, v = I4 a0 6 := ⟨_, rfl⟩
      rw [← ev5] at hn
      have jv5 := hI.rd a0 6 t_a0 ev5 (rfl : h_bd 5 6 = ((-2147483648), 2147483647))
      refine lv_aload_n hx hb dX4_readNumber_13 rfl (lv_at hl 0 rfl) ?_
      refine h_get (v := .int v5) hx hb hts iX4 hown g t_a0 (by decide) so_5 rfl 6 (by decide) (hts (.fieldLink RX4 32 "CapLeague$LawReader" "behind" "I") (by decide +kernel)) rfl dX4_readNumber_14 (congrArg Value.int (ev5.symm)) ?_
      refine lv_aload_n hx hb dX4_readNumber_17 rfl (lv_at hl 0 rfl) ?_
      obtain ⟨b6, rb6, tb6⟩ := hR.at a0 0 t_a0 (rfl : h_rs 5 0 = some (9, false)) (by decide)
      refine h_get (v := .ref b6) hx hb hts iX4 hown g t_a0 (by decide) so_5 rfl 0 (by decide) (hts (.fieldLink RX4 22 "CapLeague$LawReader" "tape" "LCapLeague$Tape;") (by decide +kernel)) rfl dX4_readNumber_18 (by show va_rf (z.R a0 0) = _; rw [rb6]; rfl) ?_
      refine h_get (v := .int (I4 b6 1)) hx hb hts iX8 hown g tb6 (by decide) so_9 rfl 1 (by decide) (hts (.fieldLink RX4 87 "CapLeague$Tape" "size" "I") (by decide +kernel)) rfl dX4_readNumber_21 rfl ?_
      refine lv_topi (fun v7 ev7 => ?_)
      have jv7 := hI.rd b6 1 tb6 ev7 (rfl : h_bd 9 1 = (0, 500))
      refine lv_icmp_ge (tgt := 83) hx hb dX4_readNumber_24 (by decide) (fun c8 => ?_) (fun c8 => ?_)
      · have ic8 := (xi_le c8 rfl rfl : v7.toInt ≤ v5.toInt)
        refine lv_aload_n hx hb dX4_readNumber_83 rfl (lv_at hl 0 rfl) ?_
        refine lv_aload_n hx hb dX4_readNumber_84 rfl (lv_at hl 0 rfl) ?_
        refine h_get (v := .int v5) hx hb hts iX4 hown g t_a0 (by decide) so_5 rfl 6 (by decide) (hts (.fieldLink RX4 32 "CapLeague$LawReader" "behind" "I") (by decide +kernel)) rfl dX4_readNumber_85 (congrArg Value.int (ev5.symm)) ?_
        refine lv_aload_n hx hb dX4_readNumber_88 rfl (lv_at hl 0 rfl) ?_
        refine h_get (v := .int v1) hx hb hts iX4 hown g t_a0 (by decide) so_5 rfl 5 (by decide) (hts (.fieldLink RX4 84 "CapLeague$LawReader" "place" "I") (by decide +kernel)) rfl dX4_readNumber_89 (congrArg Value.int ((h_F.at hF t_a0 rfl).trans (ev1.symm))) ?_
        refine lv_isub hx hb dX4_readNumber_92 ?_
        refine lv_topi (fun v9 ev9 => ?_)
        have jv9 : -2147483648 ≤ v9.toInt ∧ v9.toInt ≤ 2147483647 := ⟨xi_lo _, Int.le_of_lt_add_one (xi_hi _)⟩
        refine lv_iconst (v := 5) hx hb dX4_readNumber_93 (by decide) ?_
        refine lv_icmp_gt (tgt := 101) hx hb dX4_readNumber_94 (by decide) (fun c10 => ?_) (fun c10 => ?_)
        · have ic10 := (xi_lt c10 (by decide) rfl : 5 < v9.toInt)
          refine lv_iconst (v := 4) hx hb dX4_readNumber_101 (by decide) ?_
          refine h_putI (ty := .int) (v := 4) hx hb hts iX4 tyX4 tyX4_ok nmX4 hown g t_a0 (by decide) so_5 rfl 4 (by decide) rfl (hts (.fieldLink RX4 43 "CapLeague$LawReader" "kind" "I") (by decide +kernel)) rfl rfl (by decide +kernel) rfl rfl dX4_readNumber_102 (fun I11 H locs eI11 g => ?_)
          have hI := hI.wr eI11 t_a0 (rfl : h_bd 5 4 = ((-2147483648), 2147483647)) (by decide) (by decide)
          have hF := hF.wr eI11 t_a0 rfl
          have hS := g.2.1
          exact W.vret hx hb hr (fun t ht hW => ⟨⟨I11, rfl, ⟨hI, hF, trivial⟩, h_ret g ht⟩, hS.F ht⟩) hS.2.2 dX4_readNumber_105
        · have ic10 := (xi_nlt c10 (by decide) rfl : v9.toInt ≤ 5)
          refine lv_iconst (v := 2) hx hb dX4_readNumber_97 (by decide) ?_
          refine lv_goto (tgt := 102) hx hb dX4_readNumber_98 (by decide) ?_
          refine h_putI (ty := .int) (v := 2) hx hb hts iX4 tyX4 tyX4_ok nmX4 hown g t_a0 (by decide) so_5 rfl 4 (by decide) rfl (hts (.fieldLink RX4 43 "CapLeague$LawReader" "kind" "I") (by decide +kernel)) rfl rfl (by decide +kernel) rfl rfl dX4_readNumber_102 (fun I12 H locs eI12 g => ?_)
          have hI := hI.wr eI12 t_a0 (rfl : h_bd 5 4 = ((-2147483648), 2147483647)) (by decide) (by decide)
          have hF := hF.wr eI12 t_a0 rfl
          have hS := g.2.1
          exact W.vret hx hb hr (fun t ht hW => ⟨⟨I12, rfl, ⟨hI, hF, trivial⟩, h_ret g ht⟩, hS.F ht⟩) hS.2.2 dX4_readNumber_105
      · have ic8 := (xi_nle c8 rfl rfl : v5.toInt < v7.toInt)
        refine lv_aload_n hx hb dX4_readNumber_27 rfl (lv_at hl 0 rfl) ?_
        refine h_get (v := .ref b6) hx hb hts iX4 hown g t_a0 (by decide) so_5 rfl 0 (by decide) (hts (.fieldLink RX4 22 "CapLeague$LawReader" "tape" "LCapLeague$Tape;") (by decide +kernel)) rfl dX4_readNumber_28 (by show va_rf (z.R a0 0) = _; rw [rb6]; rfl) ?_
        refine lv_aload_n hx hb dX4_readNumber_31 rfl (lv_at hl 0 rfl) ?_
        refine h_get (v := .int v5) hx hb hts iX4 hown g t_a0 (by decide) so_5 rfl 6 (by decide) (hts (.fieldLink RX4 32 "CapLeague$LawReader" "behind" "I") (by decide +kernel)) rfl dX4_readNumber_32 (congrArg Value.int (ev5.symm)) ?_
        refine vp_callSi (W.runV (As := [.int v5]) (rest := []) ⟨hx, hb, hml, hown, hts⟩ (tX8_at l E X A z I4 L0 b6 tb6 v5 (v5.toInt) rfl) (cwV 1 hts gX4_readNumber_X8_at rfl rfl rfl (by decide +kernel) ⟨Nat.le_of_ble_eq_true rfl, Nat.le_of_ble_eq_true rfl⟩) ⟨h_blind _ _ _ _ _ _ _, h_recv g tb6 (by decide) so_9 (q := (RX8, TX8, 2)) rfl, h_pre _ hE hk hX hA hI hR g⟩ rfl rfl hl.1 rfl (lv_room (Nat.le_of_ble_eq_true rfl)) dX4_readNumber_35 ⟨Nat.le_of_ble_eq_true rfl, Nat.le_of_ble_eq_true rfl⟩) (fun rh13 h13 => ?_)
        refine vp_callSi (W.runS (As := [.int rh13]) (rest := []) ⟨hx, hb, hml, hown, hts⟩ (tX4_isDigit l E X A z I4 L0 rh13 (rh13.toInt) rfl) (va_cwS 1 hts gX4_readNumber_X4_isDigit rfl rfl rfl (by decide +kernel) ⟨Nat.le_of_ble_eq_true rfl, Nat.le_of_ble_eq_true rfl⟩) ⟨h_blind _ _ _ _ _ _ _, h_pre _ hE hk hX hA hI hR g⟩ rfl rfl hl.1 rfl (lv_room (Nat.le_of_ble_eq_true rfl)) dX4_readNumber_38 ⟨Nat.le_of_ble_eq_true rfl, Nat.le_of_ble_eq_true rfl⟩) (fun rh14 h14 => ?_)
        refine lv_if_eq (tgt := 83) hx hb dX4_readNumber_41 (by decide) (fun c15 => ?_) (fun c15 => ?_)
        · have ic15 := (xi_eq c15 rfl (by decide) : rh14.toInt = 0)
          refine lv_aload_n hx hb dX4_readNumber_83 rfl (lv_at hl 0 rfl) ?_
          refine lv_aload_n hx hb dX4_readNumber_84 rfl (lv_at hl 0 rfl) ?_
          refine h_get (v := .int v5) hx hb hts iX4 hown g t_a0 (by decide) so_5 rfl 6 (by decide) (hts (.fieldLink RX4 32 "CapLeague$LawReader" "behind" "I") (by decide +kernel)) rfl dX4_readNumber_85 (congrArg Value.int (ev5.symm)) ?_
          refine lv_aload_n hx hb dX4_readNumber_88 rfl (lv_at hl 0 rfl) ?_
          refine h_get (v := .int v1) hx hb hts iX4 hown g t_a0 (by decide) so_5 rfl 5 (by decide) (hts (.fieldLink RX4 84 "CapLeague$LawReader" "place" "I") (by decide +kernel)) rfl dX4_readNumber_89 (congrArg Value.int ((h_F.at hF t_a0 rfl).trans (ev1.symm))) ?_
          refine lv_isub hx hb dX4_readNumber_92 ?_
          refine lv_topi (fun v16 ev16 => ?_)
          have jv16 : -2147483648 ≤ v16.toInt ∧ v16.toInt ≤ 2147483647 := ⟨xi_lo _, Int.le_of_lt_add_one (xi_hi _)⟩
          refine lv_iconst (v := 5) hx hb dX4_readNumber_93 (by decide) ?_
          refine lv_icmp_gt (tgt := 101) hx hb dX4_readNumber_94 (by decide) (fun c17 => ?_) (fun c17 => ?_)
          · have ic17 := (xi_lt c17 (by decide) rfl : 5 < v16.toInt)
            refine lv_iconst (v := 4) hx hb dX4_readNumber_101 (by decide) ?_
            refine h_putI (ty := .int) (v := 4) hx hb hts iX4 tyX4 tyX4_ok nmX4 hown g t_a0 (by decide) so_5 rfl 4 (by decide) rfl (hts (.fieldLink RX4 43 "CapLeague$LawReader" "kind" "I") (by decide +kernel)) rfl rfl (by decide +kernel) rfl rfl dX4_readNumber_102 (fun I18 H locs eI18 g => ?_)
            have hI := hI.wr eI18 t_a0 (rfl : h_bd 5 4 = ((-2147483648), 2147483647)) (by decide) (by decide)
            have hF := hF.wr eI18 t_a0 rfl
            have hS := g.2.1
            exact W.vret hx hb hr (fun t ht hW => ⟨⟨I18, rfl, ⟨hI, hF, trivial⟩, h_ret g ht⟩, hS.F ht⟩) hS.2.2 dX4_readNumber_105
          · have ic17 := (xi_nlt c17 (by decide) rfl : v16.toInt ≤ 5)
            refine lv_iconst (v := 2) hx hb dX4_readNumber_97 (by decide) ?_
            refine lv_goto (tgt := 102) hx hb dX4_readNumber_98 (by decide) ?_
            refine h_putI (ty := .int) (v := 2) hx hb hts iX4 tyX4 tyX4_ok nmX4 hown g t_a0 (by decide) so_5 rfl 4 (by decide) rfl (hts (.fieldLink RX4 43 "CapLeague$LawReader" "kind" "I") (by decide +kernel)) rfl rfl (by decide +kernel) rfl rfl dX4_readNumber_102 (fun I19 H locs eI19 g => ?_)
            have hI := hI.wr eI19 t_a0 (rfl : h_bd 5 4 = ((-2147483648), 2147483647)) (by decide) (by decide)
            have hF := hF.wr eI19 t_a0 rfl
            have hS := g.2.1
            exact W.vret hx hb hr (fun t ht hW => ⟨⟨I19, rfl, ⟨hI, hF, trivial⟩, h_ret g ht⟩, hS.F ht⟩) hS.2.2 dX4_readNumber_105
        · have ic15 := (xi_ne c15 rfl (by decide) : rh14.toInt ≠ 0)
          refine lv_aload_n hx hb dX4_readNumber_44 rfl (lv_at hl 0 rfl) ?_
          refine lv_aload_n hx hb dX4_readNumber_45 rfl (lv_at hl 0 rfl) ?_
          refine h_get (v := .int (I4 a0 7)) hx hb hts iX4 hown g t_a0 (by decide) so_5 rfl 7 (by decide) (hts (.fieldLink RX4 67 "CapLeague$LawReader" "value" "I") (by decide +kernel)) rfl dX4_readNumber_46 rfl ?_
          refine lv_topi (fun v20 ev20 => ?_)
          have jv20 := hI.rd a0 7 t_a0 ev20 (rfl : h_bd 5 7 = ((-2147483648), 2147483647))
          refine lv_bipush (v := 10) hx hb dX4_readNumber_49 (by decide) ?_
          refine lv_imul hx hb dX4_readNumber_51 ?_
          refine lv_topi (fun v21 ev21 => ?_)
          have jv21 : -2147483648 ≤ v21.toInt ∧ v21.toInt ≤ 2147483647 := ⟨xi_lo _, Int.le_of_lt_add_one (xi_hi _)⟩
          refine lv_aload_n hx hb dX4_readNumber_52 rfl (lv_at hl 0 rfl) ?_
          refine h_get (v := .ref b6) hx hb hts iX4 hown g t_a0 (by decide) so_5 rfl 0 (by decide) (hts (.fieldLink RX4 22 "CapLeague$LawReader" "tape" "LCapLeague$Tape;") (by decide +kernel)) rfl dX4_readNumber_53 (by show va_rf (z.R a0 0) = _; rw [rb6]; rfl) ?_
          refine lv_aload_n hx hb dX4_readNumber_56 rfl (lv_at hl 0 rfl) ?_
          refine h_get (v := .int v5) hx hb hts iX4 hown g t_a0 (by decide) so_5 rfl 6 (by decide) (hts (.fieldLink RX4 32 "CapLeague$LawReader" "behind" "I") (by decide +kernel)) rfl dX4_readNumber_57 (congrArg Value.int (ev5.symm)) ?_
          refine vp_callSi (W.runV (As := [.int v5]) (rest := [.int v21, .ref a0]) ⟨hx, hb, hml, hown, hts⟩ (tX8_at l E X A z I4 L0 b6 tb6 v5 (v5.toInt) rfl) (cwV 1 hts gX4_readNumber_X8_at rfl rfl rfl (by decide +kernel) ⟨Nat.le_of_ble_eq_true rfl, Nat.le_of_ble_eq_true rfl⟩) ⟨h_blind _ _ _ _ _ _ _, h_recv g tb6 (by decide) so_9 (q := (RX8, TX8, 2)) rfl, h_pre _ hE hk hX hA hI hR g⟩ rfl rfl hl.1 rfl (lv_room (Nat.le_of_ble_eq_true rfl)) dX4_readNumber_60 ⟨Nat.le_of_ble_eq_true rfl, Nat.le_of_ble_eq_true rfl⟩) (fun rh22 h22 => ?_)
          refine lv_iadd hx hb dX4_readNumber_63 ?_
          refine lv_topi (fun v23 ev23 => ?_)
          have jv23 : -2147483648 ≤ v23.toInt ∧ v23.toInt ≤ 2147483647 := ⟨xi_lo _, Int.le_of_lt_add_one (xi_hi _)⟩
          refine lv_bipush (v := 48) hx hb dX4_readNumber_64 (by decide) ?_
          refine lv_isub hx hb dX4_readNumber_66 ?_
          refine lv_topi (fun v24 ev24 => ?_)
          have jv24 : -2147483648 ≤ v24.toInt ∧ v24.toInt ≤ 2147483647 := ⟨xi_lo _, Int.le_of_lt_add_one (xi_hi _)⟩
          refine h_putI (ty := .int) (v := v24) hx hb hts iX4 tyX4 tyX4_ok nmX4 hown g t_a0 (by decide) so_5 rfl 7 (by decide) rfl (hts (.fieldLink RX4 67 "CapLeague$LawReader" "value" "I") (by decide +kernel)) rfl rfl (by decide +kernel) rfl rfl dX4_readNumber_67 (fun I25 H locs eI25 g => ?_)
          have hI := hI.wr eI25 t_a0 (rfl : h_bd 5 7 = ((-2147483648), 2147483647)) (xi_lo _) (Int.le_of_lt_add_one (xi_hi _))
          have hF := hF.wr eI25 t_a0 rfl
          refine lv_aload_n hx hb dX4_readNumber_70 rfl (lv_at hl 0 rfl) ?_
          refine lv_dup hx hb dX4_readNumber_71 rfl ?_
          refine h_get (v := .int v5) hx hb hts iX4 hown g t_a0 (by decide) so_5 rfl 6 (by decide) (hts (.fieldLink RX4 32 "CapLeague$LawReader" "behind" "I") (by decide +kernel)) rfl dX4_readNumber_72 (congrArg Value.int ((h_n2 eI25 (by decide)).trans (ev5.symm))) ?_
          refine lv_iconst (v := 1) hx hb dX4_readNumber_75 (by decide) ?_
          refine lv_iadd hx hb dX4_readNumber_76 ?_
          refine lv_topi (fun v26 ev26 => ?_)
          have jv26 : v26.toInt = v5.toInt + 1 := xi_add ev26 rfl (by decide) (by omega) (by omega)
          refine h_putI (ty := .int) (v := v26) hx hb hts iX4 tyX4 tyX4_ok nmX4 hown g t_a0 (by decide) so_5 rfl 6 (by decide) rfl (hts (.fieldLink RX4 32 "CapLeague$LawReader" "behind" "I") (by decide +kernel)) rfl rfl (by decide +kernel) rfl rfl dX4_readNumber_77 (fun I27 H locs eI27 g => ?_)
          have hI := hI.wr eI27 t_a0 (rfl : h_bd 5 6 = ((-2147483648), 2147483647)) (xi_lo _) (Int.le_of_lt_add_one (xi_hi _))
          have hF := hF.wr eI27 t_a0 rfl
          refine lv_goto (tgt := 13) hx hb dX4_readNumber_80 (by decide) ?_
          have k28 : (I27 a0 6).toInt = v26.toInt := by rw [h_n0 eI27]
          exact ih13 I27 _ _ _ g hI hF (lv_sub hl [0] rfl) (by omega)
  have k29 : (I3 a0 6).toInt = v1.toInt := by rw [(h_n2 eI3 (by decide)).trans (h_n0 eI2)]
  exact loop13_0 _ I3 _ _ _ g hI hF (lv_sub hl [0] rfl) (show (((500 - (I3 a0 6).toInt).toNat : Int)) < (((((500 - (I3 a0 6).toInt).toNat : Int)).toNat + 1 : Nat) : Int) by omega)
set_option maxHeartbeats 4000000 in
set_option maxRecDepth 100000 in
theorem tX4_readToken (l : Launch) (E : tE) (X : tX) (A : Nat → Prop) (z : tZ) (I0 : tI) (L0 : tL) (a0 : Nat) (t_a0 : z.ty a0 = 5) : Met l yX4_readToken wsX4_readToken ({ frames := 3, cells := 0, slots := 0, locals := 192 }) (va_Pc [.ref a0] (h_P E X A z I0 L0)) (va_Qv (fun (I1 : tI) => h_I z I1 ∧ h_F [(5, 4), (5, 5), (5, 6), (5, 7)] z I0 I1 ∧ True) (fun (I1 : tI) t => h_B E A z I1 L0 t) A) 0 0 A := by
  refine Met.ofW (cc := cX4_readToken) (maxL := 2) (ret := none) (by decide) rfl ?_
  intro pr_ ev_ s m args below meth cd_ s₁ B hml hv
  obtain ⟨rfl, hE, hk, hX, hA, hK, hI, hR, hB0⟩ := hv
  have g : h_G h_so h_fk E A z I0 L0 s s.heap s.heap [] := ⟨hK, va_S.rf, hB0⟩
  have hF : h_F [(5, 4), (5, 5), (5, 6), (5, 7)] z I0 I0 := h_F.rf
  have hx := B.exec
  have hb := B.bytes
  have hr := B.returns
  have hts := atoms_spec (ws := wsX4_readToken) B.pre
  have hown : s.vm.findClass RX4 = some m.cls := findClass_of_methodNamed B.named
  have hlocks := B.notSynchronized
  have iX4 : ∀ w ∈ u_ws RX4 TX4 9, w ∈ wsX4_readToken := by decide +kernel
  have iX8 : ∀ w ∈ u_ws RX8 TX8 2, w ∈ wsX4_readToken := by decide +kernel
  have hl := lv_entry ([.ref a0]) (n := 2) (Nat.le_of_ble_eq_true rfl)
  rw [lg_entry_eq]
  generalize (lg_sl ([.ref a0]) ++ List.replicate (2 - (lg_sl ([.ref a0])).length) Slot.unset).toArray = ls at hl ⊢
  have hl : lv_has ls 2 [(0, .ref a0)] := hl
  refine lv_aload_n hx hb dX4_readToken_0 rfl (lv_at hl 0 rfl) ?_
  refine lv_aload_n hx hb dX4_readToken_1 rfl (lv_at hl 0 rfl) ?_
  refine h_get (v := .int (I0 a0 6)) hx hb hts iX4 hown g t_a0 (by decide) so_5 rfl 6 (by decide) (hts (.fieldLink RX4 32 "CapLeague$LawReader" "behind" "I") (by decide +kernel)) rfl dX4_readToken_2 rfl ?_
  refine lv_topi (fun v1 ev1 => ?_)
  have jv1 := hI.rd a0 6 t_a0 ev1 (rfl : h_bd 5 6 = ((-2147483648), 2147483647))
  refine h_putI (ty := .int) (v := v1) hx hb hts iX4 tyX4 tyX4_ok nmX4 hown g t_a0 (by decide) so_5 rfl 5 (by decide) rfl (hts (.fieldLink RX4 84 "CapLeague$LawReader" "place" "I") (by decide +kernel)) rfl rfl (by decide +kernel) rfl rfl dX4_readToken_5 (fun I2 H locs eI2 g => ?_)
  have hI := hI.wr eI2 t_a0 (rfl : h_bd 5 5 = ((-2147483648), 2147483647)) (xi_lo _) (Int.le_of_lt_add_one (xi_hi _))
  have hF := hF.wr eI2 t_a0 rfl
  have loop8_0 : ∀ (n : Nat) (I3 : tI) (H : Heap) (locs : List Loc) (ls : Array Slot), h_G h_so h_fk E A z I3 L0 s s.heap H locs → h_I z I3 → h_F [(5, 4), (5, 5), (5, 6), (5, 7)] z I0 I3 → lv_has ls 2 [(0, .ref a0)] → (((500 - (I3 a0 5).toInt).toNat : Int)) < (n : Int) → W pr_ l ev_ (headSpec wsX4_readToken ({ frames := 3, cells := 0, slots := 0, locals := 192 })).room s m ([.ref a0] : List Value).toArray below meth cd_ H locs 0 0 (MQ below (va_Qv (fun (I1 : tI) => h_I z I1 ∧ h_F [(5, 4), (5, 5), (5, 6), (5, 7)] z I0 I1 ∧ True) (fun (I1 : tI) t => h_B E A z I1 L0 t) A) ([.ref a0] : List Value).toArray s 0 0 A) (F0 m 8 ls []) := by
    intro n
    induction n with
    | zero => intro I3 H locs ls g hI hF hl hn; exact absurd hn (by omega)
    | succ n ih8 =>
      intro I3 H locs ls g hI hF hl hn
      obtain ⟨v4, ev4⟩ : ∃ v : Int32, v = I3 a0 5 := ⟨_, rfl⟩
      rw [← ev4] at hn
      have jv4 := hI.rd a0 5 t_a0 ev4 (rfl : h_bd 5 5 = ((-2147483648), 2147483647))
      refine lv_aload_n hx hb dX4_readToken_8 rfl (lv_at hl 0 rfl) ?_
      refine h_get (v := .int v4) hx hb hts iX4 hown g t_a0 (by decide) so_5 rfl 5 (by decide) (hts (.fieldLink RX4 84 "CapLeague$LawReader" "place" "I") (by decide +kernel)) rfl dX4_readToken_9 (congrArg Value.int (ev4.symm)) ?_
      refine lv_aload_n hx hb dX4_readToken_12 rfl (lv_at hl 0 rfl) ?_
      obtain ⟨b5, rb5, tb5⟩ := hR.at a0 0 t_a0 (rfl : h_rs 5 0 = some (9, false)) (by decide)
      refine h_get (v := .ref b5) hx hb hts iX4 hown g t_a0 (by decide) so_5 rfl 0 (by decide) (hts (.fieldLink RX4 22 "CapLeague$LawReader" "tape" "LCapLeague$Tape;") (by decide +kernel)) rfl dX4_readToken_13 (by show va_rf (z.R a0 0) = _; rw [rb5]; rfl) ?_
      refine h_get (v := .int (I3 b5 1)) hx hb hts iX8 hown g tb5 (by decide) so_9 rfl 1 (by decide) (hts (.fieldLink RX4 87 "CapLeague$Tape" "size" "I") (by decide +kernel)) rfl dX4_readToken_16 rfl ?_
      refine lv_topi (fun v6 ev6 => ?_)
      have jv6 := hI.rd b5 1 tb5 ev6 (rfl : h_bd 9 1 = (0, 500))
      refine lv_icmp_ge (tgt := 52) hx hb dX4_readToken_19 (by decide) (fun c7 => ?_) (fun c7 => ?_)
      · have ic7 := (xi_le c7 rfl rfl : v6.toInt ≤ v4.toInt)
        refine lv_aload_n hx hb dX4_readToken_52 rfl (lv_at hl 0 rfl) ?_
        refine h_get (v := .ref b5) hx hb hts iX4 hown g t_a0 (by decide) so_5 rfl 0 (by decide) (hts (.fieldLink RX4 22 "CapLeague$LawReader" "tape" "LCapLeague$Tape;") (by decide +kernel)) rfl dX4_readToken_53 (by show va_rf (z.R a0 0) = _; rw [rb5]; rfl) ?_
        refine lv_aload_n hx hb dX4_readToken_56 rfl (lv_at hl 0 rfl) ?_
        refine h_get (v := .int v4) hx hb hts iX4 hown g t_a0 (by decide) so_5 rfl 5 (by decide) (hts (.fieldLink RX4 84 "CapLeague$LawReader" "place" "I") (by decide +kernel)) rfl dX4_readToken_57 (congrArg Value.int (ev4.symm)) ?_
        refine vp_callSi (W.runV (As := [.int v4]) (rest := []) ⟨hx, hb, hml, hown, hts⟩ (tX8_at l E X A z I3 L0 b5 tb5 v4 (v4.toInt) rfl) (cwV 1 hts gX4_readToken_X8_at rfl rfl rfl (by decide +kernel) ⟨Nat.le_of_ble_eq_true rfl, Nat.le_of_ble_eq_true rfl⟩) ⟨h_blind _ _ _ _ _ _ _, h_recv g tb5 (by decide) so_9 (q := (RX8, TX8, 2)) rfl, h_pre _ hE hk hX hA hI hR g⟩ rfl rfl hl.1 rfl (lv_room (Nat.le_of_ble_eq_true rfl)) dX4_readToken_60 ⟨Nat.le_of_ble_eq_true rfl, Nat.le_of_ble_eq_true rfl⟩) (fun rh8 h8 => ?_)
        refine lv_istore_n (lv' := [(1, .int rh8), (0, .ref a0)]) hx hb dX4_readToken_63 rfl hl (by decide) rfl (fun ls hl => ?_)
        refine lv_iload_n hx hb dX4_readToken_64 rfl (lv_at hl 0 rfl) ?_
        refine lv_iconst (v := (-1)) hx hb dX4_readToken_65 (by decide) ?_
        refine lv_icmp_ne (tgt := 85) hx hb dX4_readToken_66 (by decide) (fun c9 => ?_) (fun c9 => ?_)
        · have ic9 := (xi_ne c9 rfl (by decide) : rh8.toInt ≠ (-1))
          refine lv_iload_n hx hb dX4_readToken_85 rfl (lv_at hl 0 rfl) ?_
          refine vp_callSi (W.runS (As := [.int rh8]) (rest := []) ⟨hx, hb, hml, hown, hts⟩ (tX4_isLetter l E X A z I3 L0 rh8 (rh8.toInt) rfl) (va_cwS 1 hts gX4_readToken_X4_isLetter rfl rfl rfl (by decide +kernel) ⟨Nat.le_of_ble_eq_true rfl, Nat.le_of_ble_eq_true rfl⟩) ⟨h_blind _ _ _ _ _ _ _, h_pre _ hE hk hX hA hI hR g⟩ rfl rfl hl.1 rfl (lv_room (Nat.le_of_ble_eq_true rfl)) dX4_readToken_86 ⟨Nat.le_of_ble_eq_true rfl, Nat.le_of_ble_eq_true rfl⟩) (fun rh10 h10 => ?_)
          refine lv_if_eq (tgt := 99) hx hb dX4_readToken_89 (by decide) (fun c11 => ?_) (fun c11 => ?_)
          · have ic11 := (xi_eq c11 rfl (by decide) : rh10.toInt = 0)
            refine lv_iload_n hx hb dX4_readToken_99 rfl (lv_at hl 0 rfl) ?_
            refine vp_callSi (W.runS (As := [.int rh8]) (rest := []) ⟨hx, hb, hml, hown, hts⟩ (tX4_isDigit l E X A z I3 L0 rh8 (rh8.toInt) rfl) (va_cwS 1 hts gX4_readToken_X4_isDigit rfl rfl rfl (by decide +kernel) ⟨Nat.le_of_ble_eq_true rfl, Nat.le_of_ble_eq_true rfl⟩) ⟨h_blind _ _ _ _ _ _ _, h_pre _ hE hk hX hA hI hR g⟩ rfl rfl hl.1 rfl (lv_room (Nat.le_of_ble_eq_true rfl)) dX4_readToken_100 ⟨Nat.le_of_ble_eq_true rfl, Nat.le_of_ble_eq_true rfl⟩) (fun rh12 h12 => ?_)
            refine lv_if_eq (tgt := 113) hx hb dX4_readToken_103 (by decide) (fun c13 => ?_) (fun c13 => ?_)
            · have ic13 := (xi_eq c13 rfl (by decide) : rh12.toInt = 0)
              refine lv_aload_n hx hb dX4_readToken_113 rfl (lv_at hl 1 rfl) ?_
              refine lv_iload_n hx hb dX4_readToken_114 rfl (lv_at hl 0 rfl) ?_
              refine lv_bipush (v := 59) hx hb dX4_readToken_115 (by decide) ?_
              refine lv_icmp_ne (tgt := 124) hx hb dX4_readToken_117 (by decide) (fun c14 => ?_) (fun c14 => ?_)
              · have ic14 := (xi_ne c14 rfl (by decide) : rh8.toInt ≠ 59)
                refine lv_iconst (v := 4) hx hb dX4_readToken_124 (by decide) ?_
                refine h_putI (ty := .int) (v := 4) hx hb hts iX4 tyX4 tyX4_ok nmX4 hown g t_a0 (by decide) so_5 rfl 4 (by decide) rfl (hts (.fieldLink RX4 43 "CapLeague$LawReader" "kind" "I") (by decide +kernel)) rfl rfl (by decide +kernel) rfl rfl dX4_readToken_125 (fun I15 H locs eI15 g => ?_)
                have hI := hI.wr eI15 t_a0 (rfl : h_bd 5 4 = ((-2147483648), 2147483647)) (by decide) (by decide)
                have hF := hF.wr eI15 t_a0 rfl
                refine lv_aload_n hx hb dX4_readToken_128 rfl (lv_at hl 1 rfl) ?_
                refine lv_aload_n hx hb dX4_readToken_129 rfl (lv_at hl 1 rfl) ?_
                refine h_get (v := .int v4) hx hb hts iX4 hown g t_a0 (by decide) so_5 rfl 5 (by decide) (hts (.fieldLink RX4 84 "CapLeague$LawReader" "place" "I") (by decide +kernel)) rfl dX4_readToken_130 (congrArg Value.int ((h_n2 eI15 (by decide)).trans (ev4.symm))) ?_
                refine lv_iconst (v := 1) hx hb dX4_readToken_133 (by decide) ?_
                refine lv_iadd hx hb dX4_readToken_134 ?_
                refine lv_topi (fun v16 ev16 => ?_)
                have jv16 : -2147483648 ≤ v16.toInt ∧ v16.toInt ≤ 2147483647 := ⟨xi_lo _, Int.le_of_lt_add_one (xi_hi _)⟩
                refine h_putI (ty := .int) (v := v16) hx hb hts iX4 tyX4 tyX4_ok nmX4 hown g t_a0 (by decide) so_5 rfl 6 (by decide) rfl (hts (.fieldLink RX4 32 "CapLeague$LawReader" "behind" "I") (by decide +kernel)) rfl rfl (by decide +kernel) rfl rfl dX4_readToken_135 (fun I17 H locs eI17 g => ?_)
                have hI := hI.wr eI17 t_a0 (rfl : h_bd 5 6 = ((-2147483648), 2147483647)) (xi_lo _) (Int.le_of_lt_add_one (xi_hi _))
                have hF := hF.wr eI17 t_a0 rfl
                have hS := g.2.1
                exact W.vret hx hb hr (fun t ht hW => ⟨⟨I17, rfl, ⟨hI, hF, trivial⟩, h_ret g ht⟩, hS.F ht⟩) hS.2.2 dX4_readToken_138
              · have ic14 := (xi_eq c14 rfl (by decide) : rh8.toInt = 59)
                refine lv_iconst (v := 3) hx hb dX4_readToken_120 (by decide) ?_
                refine lv_goto (tgt := 125) hx hb dX4_readToken_121 (by decide) ?_
                refine h_putI (ty := .int) (v := 3) hx hb hts iX4 tyX4 tyX4_ok nmX4 hown g t_a0 (by decide) so_5 rfl 4 (by decide) rfl (hts (.fieldLink RX4 43 "CapLeague$LawReader" "kind" "I") (by decide +kernel)) rfl rfl (by decide +kernel) rfl rfl dX4_readToken_125 (fun I18 H locs eI18 g => ?_)
                have hI := hI.wr eI18 t_a0 (rfl : h_bd 5 4 = ((-2147483648), 2147483647)) (by decide) (by decide)
                have hF := hF.wr eI18 t_a0 rfl
                refine lv_aload_n hx hb dX4_readToken_128 rfl (lv_at hl 1 rfl) ?_
                refine lv_aload_n hx hb dX4_readToken_129 rfl (lv_at hl 1 rfl) ?_
                refine h_get (v := .int v4) hx hb hts iX4 hown g t_a0 (by decide) so_5 rfl 5 (by decide) (hts (.fieldLink RX4 84 "CapLeague$LawReader" "place" "I") (by decide +kernel)) rfl dX4_readToken_130 (congrArg Value.int ((h_n2 eI18 (by decide)).trans (ev4.symm))) ?_
                refine lv_iconst (v := 1) hx hb dX4_readToken_133 (by decide) ?_
                refine lv_iadd hx hb dX4_readToken_134 ?_
                refine lv_topi (fun v19 ev19 => ?_)
                have jv19 : -2147483648 ≤ v19.toInt ∧ v19.toInt ≤ 2147483647 := ⟨xi_lo _, Int.le_of_lt_add_one (xi_hi _)⟩
                refine h_putI (ty := .int) (v := v19) hx hb hts iX4 tyX4 tyX4_ok nmX4 hown g t_a0 (by decide) so_5 rfl 6 (by decide) rfl (hts (.fieldLink RX4 32 "CapLeague$LawReader" "behind" "I") (by decide +kernel)) rfl rfl (by decide +kernel) rfl rfl dX4_readToken_135 (fun I20 H locs eI20 g => ?_)
                have hI := hI.wr eI20 t_a0 (rfl : h_bd 5 6 = ((-2147483648), 2147483647)) (xi_lo _) (Int.le_of_lt_add_one (xi_hi _))
                have hF := hF.wr eI20 t_a0 rfl
                have hS := g.2.1
                exact W.vret hx hb hr (fun t ht hW => ⟨⟨I20, rfl, ⟨hI, hF, trivial⟩, h_ret g ht⟩, hS.F ht⟩) hS.2.2 dX4_readToken_138
            · have ic13 := (xi_ne c13 rfl (by decide) : rh12.toInt ≠ 0)
              refine lv_aload_n hx hb dX4_readToken_106 rfl (lv_at hl 1 rfl) ?_
              refine va_callv (va_runV (As := []) (rest := []) ⟨hx, hb, hml, hown, hts⟩ (tX4_readNumber l E X A z I3 L0 a0 t_a0) (cwV 0 hts gX4_readToken_X4_readNumber rfl rfl rfl (by decide +kernel) ⟨Nat.le_of_ble_eq_true rfl, Nat.le_of_ble_eq_true rfl⟩) ⟨h_blind _ _ _ _ _ _ _, h_recv g t_a0 (by decide) so_5 (q := (RX4, TX4, 9)) rfl, h_pre _ hE hk hX hA hI hR g⟩ rfl rfl hl.1 rfl (lv_room (Nat.le_of_ble_eq_true rfl)) dX4_readToken_107 ⟨Nat.le_of_ble_eq_true rfl, Nat.le_of_ble_eq_true rfl⟩) g.2.1 (fun q _ h => h) (fun q h => h) (fun I22 t H1 locs ht hvm h21 hB hz1 hk1 hS => ?_)
              obtain ⟨hI, fh21, h21⟩ := h21
              replace g := h_after g hB ht hS
              generalize H1 = H at g
              clear hB hk1 hz1 ht hvm hS
              have hF := hF.call fh21 rfl
              refine lv_goto (tgt := 138) hx hb dX4_readToken_110 (by decide) ?_
              have hS := g.2.1
              exact W.vret hx hb hr (fun t ht hW => ⟨⟨I22, rfl, ⟨hI, hF, trivial⟩, h_ret g ht⟩, hS.F ht⟩) hS.2.2 dX4_readToken_138
          · have ic11 := (xi_ne c11 rfl (by decide) : rh10.toInt ≠ 0)
            refine lv_aload_n hx hb dX4_readToken_92 rfl (lv_at hl 1 rfl) ?_
            refine va_callv (va_runV (As := []) (rest := []) ⟨hx, hb, hml, hown, hts⟩ (tX4_readWord l E X A z I3 L0 a0 t_a0) (cwV 0 hts gX4_readToken_X4_readWord rfl rfl rfl (by decide +kernel) ⟨Nat.le_of_ble_eq_true rfl, Nat.le_of_ble_eq_true rfl⟩) ⟨h_blind _ _ _ _ _ _ _, h_recv g t_a0 (by decide) so_5 (q := (RX4, TX4, 9)) rfl, h_pre _ hE hk hX hA hI hR g⟩ rfl rfl hl.1 rfl (lv_room (Nat.le_of_ble_eq_true rfl)) dX4_readToken_93 ⟨Nat.le_of_ble_eq_true rfl, Nat.le_of_ble_eq_true rfl⟩) g.2.1 (fun q _ h => h) (fun q h => h) (fun I24 t H1 locs ht hvm h23 hB hz1 hk1 hS => ?_)
            obtain ⟨hI, fh23, h23⟩ := h23
            replace g := h_after g hB ht hS
            generalize H1 = H at g
            clear hB hk1 hz1 ht hvm hS
            have hF := hF.call fh23 rfl
            refine lv_goto (tgt := 138) hx hb dX4_readToken_96 (by decide) ?_
            have hS := g.2.1
            exact W.vret hx hb hr (fun t ht hW => ⟨⟨I24, rfl, ⟨hI, hF, trivial⟩, h_ret g ht⟩, hS.F ht⟩) hS.2.2 dX4_readToken_138
        · have ic9 := (xi_eq c9 rfl (by decide) : rh8.toInt = (-1))
          refine lv_aload_n hx hb dX4_readToken_69 rfl (lv_at hl 1 rfl) ?_
          refine lv_iconst (v := 0) hx hb dX4_readToken_70 (by decide) ?_
          refine h_putI (ty := .int) (v := 0) hx hb hts iX4 tyX4 tyX4_ok nmX4 hown g t_a0 (by decide) so_5 rfl 4 (by decide) rfl (hts (.fieldLink RX4 43 "CapLeague$LawReader" "kind" "I") (by decide +kernel)) rfl rfl (by decide +kernel) rfl rfl dX4_readToken_71 (fun I25 H locs eI25 g => ?_)
          have hI := hI.wr eI25 t_a0 (rfl : h_bd 5 4 = ((-2147483648), 2147483647)) (by decide) (by decide)
          have hF := hF.wr eI25 t_a0 rfl
          refine lv_aload_n hx hb dX4_readToken_74 rfl (lv_at hl 1 rfl) ?_
          refine lv_aload_n hx hb dX4_readToken_75 rfl (lv_at hl 1 rfl) ?_
          refine h_get (v := .int v4) hx hb hts iX4 hown g t_a0 (by decide) so_5 rfl 5 (by decide) (hts (.fieldLink RX4 84 "CapLeague$LawReader" "place" "I") (by decide +kernel)) rfl dX4_readToken_76 (congrArg Value.int ((h_n2 eI25 (by decide)).trans (ev4.symm))) ?_
          refine h_putI (ty := .int) (v := v4) hx hb hts iX4 tyX4 tyX4_ok nmX4 hown g t_a0 (by decide) so_5 rfl 6 (by decide) rfl (hts (.fieldLink RX4 32 "CapLeague$LawReader" "behind" "I") (by decide +kernel)) rfl rfl (by decide +kernel) rfl rfl dX4_readToken_79 (fun I26 H locs eI26 g => ?_)
          have hI := hI.wr eI26 t_a0 (rfl : h_bd 5 6 = ((-2147483648), 2147483647)) (xi_lo _) (Int.le_of_lt_add_one (xi_hi _))
          have hF := hF.wr eI26 t_a0 rfl
          refine lv_goto (tgt := 138) hx hb dX4_readToken_82 (by decide) ?_
          have hS := g.2.1
          exact W.vret hx hb hr (fun t ht hW => ⟨⟨I26, rfl, ⟨hI, hF, trivial⟩, h_ret g ht⟩, hS.F ht⟩) hS.2.2 dX4_readToken_138
      · have ic7 := (xi_nle c7 rfl rfl : v4.toInt < v6.toInt)
        refine lv_aload_n hx hb dX4_readToken_22 rfl (lv_at hl 0 rfl) ?_
        refine h_get (v := .ref b5) hx hb hts iX4 hown g t_a0 (by decide) so_5 rfl 0 (by decide) (hts (.fieldLink RX4 22 "CapLeague$LawReader" "tape" "LCapLeague$Tape;") (by decide +kernel)) rfl dX4_readToken_23 (by show va_rf (z.R a0 0) = _; rw [rb5]; rfl) ?_
        refine lv_aload_n hx hb dX4_readToken_26 rfl (lv_at hl 0 rfl) ?_
        refine h_get (v := .int v4) hx hb hts iX4 hown g t_a0 (by decide) so_5 rfl 5 (by decide) (hts (.fieldLink RX4 84 "CapLeague$LawReader" "place" "I") (by decide +kernel)) rfl dX4_readToken_27 (congrArg Value.int (ev4.symm)) ?_
        refine vp_callSi (W.runV (As := [.int v4]) (rest := []) ⟨hx, hb, hml, hown, hts⟩ (tX8_at l E X A z I3 L0 b5 tb5 v4 (v4.toInt) rfl) (cwV 1 hts gX4_readToken_X8_at rfl rfl rfl (by decide +kernel) ⟨Nat.le_of_ble_eq_true rfl, Nat.le_of_ble_eq_true rfl⟩) ⟨h_blind _ _ _ _ _ _ _, h_recv g tb5 (by decide) so_9 (q := (RX8, TX8, 2)) rfl, h_pre _ hE hk hX hA hI hR g⟩ rfl rfl hl.1 rfl (lv_room (Nat.le_of_ble_eq_true rfl)) dX4_readToken_30 ⟨Nat.le_of_ble_eq_true rfl, Nat.le_of_ble_eq_true rfl⟩) (fun rh27 h27 => ?_)
        refine vp_callSi (W.runS (As := [.int rh27]) (rest := []) ⟨hx, hb, hml, hown, hts⟩ (tX4_isBlank l E X A z I3 L0 rh27 (rh27.toInt) rfl) (va_cwS 1 hts gX4_readToken_X4_isBlank rfl rfl rfl (by decide +kernel) ⟨Nat.le_of_ble_eq_true rfl, Nat.le_of_ble_eq_true rfl⟩) ⟨h_blind _ _ _ _ _ _ _, h_pre _ hE hk hX hA hI hR g⟩ rfl rfl hl.1 rfl (lv_room (Nat.le_of_ble_eq_true rfl)) dX4_readToken_33 ⟨Nat.le_of_ble_eq_true rfl, Nat.le_of_ble_eq_true rfl⟩) (fun rh28 h28 => ?_)
        refine lv_if_eq (tgt := 52) hx hb dX4_readToken_36 (by decide) (fun c29 => ?_) (fun c29 => ?_)
        · have ic29 := (xi_eq c29 rfl (by decide) : rh28.toInt = 0)
          refine lv_aload_n hx hb dX4_readToken_52 rfl (lv_at hl 0 rfl) ?_
          refine h_get (v := .ref b5) hx hb hts iX4 hown g t_a0 (by decide) so_5 rfl 0 (by decide) (hts (.fieldLink RX4 22 "CapLeague$LawReader" "tape" "LCapLeague$Tape;") (by decide +kernel)) rfl dX4_readToken_53 (by show va_rf (z.R a0 0) = _; rw [rb5]; rfl) ?_
          refine lv_aload_n hx hb dX4_readToken_56 rfl (lv_at hl 0 rfl) ?_
          refine h_get (v := .int v4) hx hb hts iX4 hown g t_a0 (by decide) so_5 rfl 5 (by decide) (hts (.fieldLink RX4 84 "CapLeague$LawReader" "place" "I") (by decide +kernel)) rfl dX4_readToken_57 (congrArg Value.int (ev4.symm)) ?_
          refine vp_callSi (W.runV (As := [.int v4]) (rest := []) ⟨hx, hb, hml, hown, hts⟩ (tX8_at l E X A z I3 L0 b5 tb5 v4 (v4.toInt) rfl) (cwV 1 hts gX4_readToken_X8_at rfl rfl rfl (by decide +kernel) ⟨Nat.le_of_ble_eq_true rfl, Nat.le_of_ble_eq_true rfl⟩) ⟨h_blind _ _ _ _ _ _ _, h_recv g tb5 (by decide) so_9 (q := (RX8, TX8, 2)) rfl, h_pre _ hE hk hX hA hI hR g⟩ rfl rfl hl.1 rfl (lv_room (Nat.le_of_ble_eq_true rfl)) dX4_readToken_60 ⟨Nat.le_of_ble_eq_true rfl, Nat.le_of_ble_eq_true rfl⟩) (fun rh30 h30 => ?_)
          refine lv_istore_n (lv' := [(1, .int rh30), (0, .ref a0)]) hx hb dX4_readToken_63 rfl hl (by decide) rfl (fun ls hl => ?_)
          refine lv_iload_n hx hb dX4_readToken_64 rfl (lv_at hl 0 rfl) ?_
          refine lv_iconst (v := (-1)) hx hb dX4_readToken_65 (by decide) ?_
          refine lv_icmp_ne (tgt := 85) hx hb dX4_readToken_66 (by decide) (fun c31 => ?_) (fun c31 => ?_)
          · have ic31 := (xi_ne c31 rfl (by decide) : rh30.toInt ≠ (-1))
            refine lv_iload_n hx hb dX4_readToken_85 rfl (lv_at hl 0 rfl) ?_
            refine vp_callSi (W.runS (As := [.int rh30]) (rest := []) ⟨hx, hb, hml, hown, hts⟩ (tX4_isLetter l E X A z I3 L0 rh30 (rh30.toInt) rfl) (va_cwS 1 hts gX4_readToken_X4_isLetter rfl rfl rfl (by decide +kernel) ⟨Nat.le_of_ble_eq_true rfl, Nat.le_of_ble_eq_true rfl⟩) ⟨h_blind _ _ _ _ _ _ _, h_pre _ hE hk hX hA hI hR g⟩ rfl rfl hl.1 rfl (lv_room (Nat.le_of_ble_eq_true rfl)) dX4_readToken_86 ⟨Nat.le_of_ble_eq_true rfl, Nat.le_of_ble_eq_true rfl⟩) (fun rh32 h32 => ?_)
            refine lv_if_eq (tgt := 99) hx hb dX4_readToken_89 (by decide) (fun c33 => ?_) (fun c33 => ?_)
            · have ic33 := (xi_eq c33 rfl (by decide) : rh32.toInt = 0)
              refine lv_iload_n hx hb dX4_readToken_99 rfl (lv_at hl 0 rfl) ?_
              refine vp_callSi (W.runS (As := [.int rh30]) (rest := []) ⟨hx, hb, hml, hown, hts⟩ (tX4_isDigit l E X A z I3 L0 rh30 (rh30.toInt) rfl) (va_cwS 1 hts gX4_readToken_X4_isDigit rfl rfl rfl (by decide +kernel) ⟨Nat.le_of_ble_eq_true rfl, Nat.le_of_ble_eq_true rfl⟩) ⟨h_blind _ _ _ _ _ _ _, h_pre _ hE hk hX hA hI hR g⟩ rfl rfl hl.1 rfl (lv_room (Nat.le_of_ble_eq_true rfl)) dX4_readToken_100 ⟨Nat.le_of_ble_eq_true rfl, Nat.le_of_ble_eq_true rfl⟩) (fun rh34 h34 => ?_)
              refine lv_if_eq (tgt := 113) hx hb dX4_readToken_103 (by decide) (fun c35 => ?_) (fun c35 => ?_)
              · have ic35 := (xi_eq c35 rfl (by decide) : rh34.toInt = 0)
                refine lv_aload_n hx hb dX4_readToken_113 rfl (lv_at hl 1 rfl) ?_
                refine lv_iload_n hx hb dX4_readToken_114 rfl (lv_at hl 0 rfl) ?_
                refine lv_bipush (v := 59) hx hb dX4_readToken_115 (by decide) ?_
                refine lv_icmp_ne (tgt := 124) hx hb dX4_readToken_117 (by decide) (fun c36 => ?_) (fun c36 => ?_)
                · have ic36 := (xi_ne c36 rfl (by decide) : rh30.toInt ≠ 59)
                  refine lv_iconst (v := 4) hx hb dX4_readToken_124 (by decide) ?_
                  refine h_putI (ty := .int) (v := 4) hx hb hts iX4 tyX4 tyX4_ok nmX4 hown g t_a0 (by decide) so_5 rfl 4 (by decide) rfl (hts (.fieldLink RX4 43 "CapLeague$LawReader" "kind" "I") (by decide +kernel)) rfl rfl (by decide +kernel) rfl rfl dX4_readToken_125 (fun I37 H locs eI37 g => ?_)
                  have hI := hI.wr eI37 t_a0 (rfl : h_bd 5 4 = ((-2147483648), 2147483647)) (by decide) (by decide)
                  have hF := hF.wr eI37 t_a0 rfl
                  refine lv_aload_n hx hb dX4_readToken_128 rfl (lv_at hl 1 rfl) ?_
                  refine lv_aload_n hx hb dX4_readToken_129 rfl (lv_at hl 1 rfl) ?_
                  refine h_get (v := .int v4) hx hb hts iX4 hown g t_a0 (by decide) so_5 rfl 5 (by decide) (hts (.fieldLink RX4 84 "CapLeague$LawReader" "place" "I") (by decide +kernel)) rfl dX4_readToken_130 (congrArg Value.int ((h_n2 eI37 (by decide)).trans (ev4.symm))) ?_
                  refine lv_iconst (v := 1) hx hb dX4_readToken_133 (by decide) ?_
                  refine lv_iadd hx hb dX4_readToken_134 ?_
                  refine lv_topi (fun v38 ev38 => ?_)
                  have jv38 : v38.toInt = v4.toInt + 1 := xi_add ev38 rfl (by decide) (by omega) (by omega)
                  refine h_putI (ty := .int) (v := v38) hx hb hts iX4 tyX4 tyX4_ok nmX4 hown g t_a0 (by decide) so_5 rfl 6 (by decide) rfl (hts (.fieldLink RX4 32 "CapLeague$LawReader" "behind" "I") (by decide +kernel)) rfl rfl (by decide +kernel) rfl rfl dX4_readToken_135 (fun I39 H locs eI39 g => ?_)
                  have hI := hI.wr eI39 t_a0 (rfl : h_bd 5 6 = ((-2147483648), 2147483647)) (xi_lo _) (Int.le_of_lt_add_one (xi_hi _))
                  have hF := hF.wr eI39 t_a0 rfl
                  have hS := g.2.1
                  exact W.vret hx hb hr (fun t ht hW => ⟨⟨I39, rfl, ⟨hI, hF, trivial⟩, h_ret g ht⟩, hS.F ht⟩) hS.2.2 dX4_readToken_138
                · have ic36 := (xi_eq c36 rfl (by decide) : rh30.toInt = 59)
                  refine lv_iconst (v := 3) hx hb dX4_readToken_120 (by decide) ?_
                  refine lv_goto (tgt := 125) hx hb dX4_readToken_121 (by decide) ?_
                  refine h_putI (ty := .int) (v := 3) hx hb hts iX4 tyX4 tyX4_ok nmX4 hown g t_a0 (by decide) so_5 rfl 4 (by decide) rfl (hts (.fieldLink RX4 43 "CapLeague$LawReader" "kind" "I") (by decide +kernel)) rfl rfl (by decide +kernel) rfl rfl dX4_readToken_125 (fun I40 H locs eI40 g => ?_)
                  have hI := hI.wr eI40 t_a0 (rfl : h_bd 5 4 = ((-2147483648), 2147483647)) (by decide) (by decide)
                  have hF := hF.wr eI40 t_a0 rfl
                  refine lv_aload_n hx hb dX4_readToken_128 rfl (lv_at hl 1 rfl) ?_
                  refine lv_aload_n hx hb dX4_readToken_129 rfl (lv_at hl 1 rfl) ?_
                  refine h_get (v := .int v4) hx hb hts iX4 hown g t_a0 (by decide) so_5 rfl 5 (by decide) (hts (.fieldLink RX4 84 "CapLeague$LawReader" "place" "I") (by decide +kernel)) rfl dX4_readToken_130 (congrArg Value.int ((h_n2 eI40 (by decide)).trans (ev4.symm))) ?_
                  refine lv_iconst (v := 1) hx hb dX4_readToken_133 (by decide) ?_
                  refine lv_iadd hx hb dX4_readToken_134 ?_
                  refine lv_topi (fun v41 ev41 => ?_)
                  have jv41 : v41.toInt = v4.toInt + 1 := xi_add ev41 rfl (by decide) (by omega) (by omega)
                  refine h_putI (ty := .int) (v := v41) hx hb hts iX4 tyX4 tyX4_ok nmX4 hown g t_a0 (by decide) so_5 rfl 6 (by decide) rfl (hts (.fieldLink RX4 32 "CapLeague$LawReader" "behind" "I") (by decide +kernel)) rfl rfl (by decide +kernel) rfl rfl dX4_readToken_135 (fun I42 H locs eI42 g => ?_)
                  have hI := hI.wr eI42 t_a0 (rfl : h_bd 5 6 = ((-2147483648), 2147483647)) (xi_lo _) (Int.le_of_lt_add_one (xi_hi _))
                  have hF := hF.wr eI42 t_a0 rfl
                  have hS := g.2.1
                  exact W.vret hx hb hr (fun t ht hW => ⟨⟨I42, rfl, ⟨hI, hF, trivial⟩, h_ret g ht⟩, hS.F ht⟩) hS.2.2 dX4_readToken_138
              · have ic35 := (xi_ne c35 rfl (by decide) : rh34.toInt ≠ 0)
                refine lv_aload_n hx hb dX4_readToken_106 rfl (lv_at hl 1 rfl) ?_
                refine va_callv (va_runV (As := []) (rest := []) ⟨hx, hb, hml, hown, hts⟩ (tX4_readNumber l E X A z I3 L0 a0 t_a0) (cwV 0 hts gX4_readToken_X4_readNumber rfl rfl rfl (by decide +kernel) ⟨Nat.le_of_ble_eq_true rfl, Nat.le_of_ble_eq_true rfl⟩) ⟨h_blind _ _ _ _ _ _ _, h_recv g t_a0 (by decide) so_5 (q := (RX4, TX4, 9)) rfl, h_pre _ hE hk hX hA hI hR g⟩ rfl rfl hl.1 rfl (lv_room (Nat.le_of_ble_eq_true rfl)) dX4_readToken_107 ⟨Nat.le_of_ble_eq_true rfl, Nat.le_of_ble_eq_true rfl⟩) g.2.1 (fun q _ h => h) (fun q h => h) (fun I44 t H1 locs ht hvm h43 hB hz1 hk1 hS => ?_)
                obtain ⟨hI, fh43, h43⟩ := h43
                replace g := h_after g hB ht hS
                generalize H1 = H at g
                clear hB hk1 hz1 ht hvm hS
                have hF := hF.call fh43 rfl
                refine lv_goto (tgt := 138) hx hb dX4_readToken_110 (by decide) ?_
                have hS := g.2.1
                exact W.vret hx hb hr (fun t ht hW => ⟨⟨I44, rfl, ⟨hI, hF, trivial⟩, h_ret g ht⟩, hS.F ht⟩) hS.2.2 dX4_readToken_138
            · have ic33 := (xi_ne c33 rfl (by decide) : rh32.toInt ≠ 0)
              refine lv_aload_n hx hb dX4_readToken_92 rfl (lv_at hl 1 rfl) ?_
              refine va_callv (va_runV (As := []) (rest := []) ⟨hx, hb, hml, hown, hts⟩ (tX4_readWord l E X A z I3 L0 a0 t_a0) (cwV 0 hts gX4_readToken_X4_readWord rfl rfl rfl (by decide +kernel) ⟨Nat.le_of_ble_eq_true rfl, Nat.le_of_ble_eq_true rfl⟩) ⟨h_blind _ _ _ _ _ _ _, h_recv g t_a0 (by decide) so_5 (q := (RX4, TX4, 9)) rfl, h_pre _ hE hk hX hA hI hR g⟩ rfl rfl hl.1 rfl (lv_room (Nat.le_of_ble_eq_true rfl)) dX4_readToken_93 ⟨Nat.le_of_ble_eq_true rfl, Nat.le_of_ble_eq_true rfl⟩) g.2.1 (fun q _ h => h) (fun q h => h) (fun I46 t H1 locs ht hvm h45 hB hz1 hk1 hS => ?_)
              obtain ⟨hI, fh45, h45⟩ := h45
              replace g := h_after g hB ht hS
              generalize H1 = H at g
              clear hB hk1 hz1 ht hvm hS
              have hF := hF.call fh45 rfl
              refine lv_goto (tgt := 138) hx hb dX4_readToken_96 (by decide) ?_
              have hS := g.2.1
              exact W.vret hx hb hr (fun t ht hW => ⟨⟨I46, rfl, ⟨hI, hF, trivial⟩, h_ret g ht⟩, hS.F ht⟩) hS.2.2 dX4_readToken_138
          · have ic31 := (xi_eq c31 rfl (by decide) : rh30.toInt = (-1))
            refine lv_aload_n hx hb dX4_readToken_69 rfl (lv_at hl 1 rfl) ?_
            refine lv_iconst (v := 0) hx hb dX4_readToken_70 (by decide) ?_
            refine h_putI (ty := .int) (v := 0) hx hb hts iX4 tyX4 tyX4_ok nmX4 hown g t_a0 (by decide) so_5 rfl 4 (by decide) rfl (hts (.fieldLink RX4 43 "CapLeague$LawReader" "kind" "I") (by decide +kernel)) rfl rfl (by decide +kernel) rfl rfl dX4_readToken_71 (fun I47 H locs eI47 g => ?_)
            have hI := hI.wr eI47 t_a0 (rfl : h_bd 5 4 = ((-2147483648), 2147483647)) (by decide) (by decide)
            have hF := hF.wr eI47 t_a0 rfl
            refine lv_aload_n hx hb dX4_readToken_74 rfl (lv_at hl 1 rfl) ?_
            refine lv_aload_n hx hb dX4_readToken_75 rfl (lv_at hl 1 rfl) ?_
            refine h_get (v := .int v4) hx hb hts iX4 hown g t_a0 (by decide) so_5 rfl 5 (by decide) (hts (.fieldLink RX4 84 "CapLeague$LawReader" "place" "I") (by decide +kernel)) rfl dX4_readToken_76 (congrArg Value.int ((h_n2 eI47 (by decide)).trans (ev4.symm))) ?_
            refine h_putI (ty := .int) (v := v4) hx hb hts iX4 tyX4 tyX4_ok nmX4 hown g t_a0 (by decide) so_5 rfl 6 (by decide) rfl (hts (.fieldLink RX4 32 "CapLeague$LawReader" "behind" "I") (by decide +kernel)) rfl rfl (by decide +kernel) rfl rfl dX4_readToken_79 (fun I48 H locs eI48 g => ?_)
            have hI := hI.wr eI48 t_a0 (rfl : h_bd 5 6 = ((-2147483648), 2147483647)) (xi_lo _) (Int.le_of_lt_add_one (xi_hi _))
            have hF := hF.wr eI48 t_a0 rfl
            refine lv_goto (tgt := 138) hx hb dX4_readToken_82 (by decide) ?_
            have hS := g.2.1
            exact W.vret hx hb hr (fun t ht hW => ⟨⟨I48, rfl, ⟨hI, hF, trivial⟩, h_ret g ht⟩, hS.F ht⟩) hS.2.2 dX4_readToken_138
        · have ic29 := (xi_ne c29 rfl (by decide) : rh28.toInt ≠ 0)
          refine lv_aload_n hx hb dX4_readToken_39 rfl (lv_at hl 0 rfl) ?_
          refine lv_dup hx hb dX4_readToken_40 rfl ?_
          refine h_get (v := .int v4) hx hb hts iX4 hown g t_a0 (by decide) so_5 rfl 5 (by decide) (hts (.fieldLink RX4 84 "CapLeague$LawReader" "place" "I") (by decide +kernel)) rfl dX4_readToken_41 (congrArg Value.int (ev4.symm)) ?_
          refine lv_iconst (v := 1) hx hb dX4_readToken_44 (by decide) ?_
          refine lv_iadd hx hb dX4_readToken_45 ?_
          refine lv_topi (fun v49 ev49 => ?_)
          have jv49 : v49.toInt = v4.toInt + 1 := xi_add ev49 rfl (by decide) (by omega) (by omega)
          refine h_putI (ty := .int) (v := v49) hx hb hts iX4 tyX4 tyX4_ok nmX4 hown g t_a0 (by decide) so_5 rfl 5 (by decide) rfl (hts (.fieldLink RX4 84 "CapLeague$LawReader" "place" "I") (by decide +kernel)) rfl rfl (by decide +kernel) rfl rfl dX4_readToken_46 (fun I50 H locs eI50 g => ?_)
          have hI := hI.wr eI50 t_a0 (rfl : h_bd 5 5 = ((-2147483648), 2147483647)) (xi_lo _) (Int.le_of_lt_add_one (xi_hi _))
          have hF := hF.wr eI50 t_a0 rfl
          refine lv_goto (tgt := 8) hx hb dX4_readToken_49 (by decide) ?_
          have k51 : (I50 a0 5).toInt = v49.toInt := by rw [h_n0 eI50]
          exact ih8 I50 _ _ _ g hI hF (lv_sub hl [0] rfl) (by omega)
  have k52 : (I2 a0 5).toInt = v1.toInt := by rw [h_n0 eI2]
  exact loop8_0 _ I2 _ _ _ g hI hF (lv_sub hl [0] rfl) (show (((500 - (I2 a0 5).toInt).toNat : Int)) < (((((500 - (I2 a0 5).toInt).toNat : Int)).toNat + 1 : Nat) : Int) by omega)
set_option maxHeartbeats 4000000 in
set_option maxRecDepth 100000 in
theorem tX4_isNumberFor (l : Launch) (E : tE) (X : tX) (A : Nat → Prop) (z : tZ) (I0 : tI) (L0 : tL) (a0 : Nat) (t_a0 : z.ty a0 = 5) (x : Int32) (x_t : Int) (h_x : x.toInt = x_t) : Met l yX4_isNumberFor wsX4_isNumberFor ({ frames := 2, cells := 0, slots := 0, locals := 128 }) (va_Pc [.ref a0, .int x] (h_P E X A z I0 L0)) (va_Qi (fun r (I1 : tI) => h_I z I1 ∧ h_F [(5, 2), (5, 3)] z I0 I1 ∧ (0 ≤ r.toInt ∧ r.toInt ≤ 1)) (fun (I1 : tI) t => h_B E A z I1 L0 t) A) 0 0 A := by
  refine Met.ofW (cc := cX4_isNumberFor) (maxL := 2) (ret := (some .boolean)) (by decide) rfl ?_
  intro pr_ ev_ s m args below meth cd_ s₁ B hml hv
  obtain ⟨rfl, hE, hk, hX, hA, hK, hI, hR, hB0⟩ := hv
  have g : h_G h_so h_fk E A z I0 L0 s s.heap s.heap [] := ⟨hK, va_S.rf, hB0⟩
  have hF : h_F [(5, 2), (5, 3)] z I0 I0 := h_F.rf
  have hx := B.exec
  have hb := B.bytes
  have hr := B.returns
  have hts := atoms_spec (ws := wsX4_isNumberFor) B.pre
  have hown : s.vm.findClass RX4 = some m.cls := findClass_of_methodNamed B.named
  have hlocks := B.notSynchronized
  have iX4 : ∀ w ∈ u_ws RX4 TX4 9, w ∈ wsX4_isNumberFor := by decide +kernel
  have hl := lv_entry ([.ref a0, .int x]) (n := 2) (Nat.le_of_ble_eq_true rfl)
  rw [lg_entry_eq]
  generalize (lg_sl ([.ref a0, .int x]) ++ List.replicate (2 - (lg_sl ([.ref a0, .int x])).length) Slot.unset).toArray = ls at hl ⊢
  have hl : lv_has ls 2 [(0, .ref a0), (1, .int x)] := hl
  have b_x : -2147483648 ≤ x_t ∧ x_t ≤ 2147483647 := h_x ▸ ⟨xi_lo x, Int.le_of_lt_add_one (xi_hi x)⟩
  refine lv_aload_n hx hb dX4_isNumberFor_0 rfl (lv_at hl 0 rfl) ?_
  refine h_get (v := .int (I0 a0 4)) hx hb hts iX4 hown g t_a0 (by decide) so_5 rfl 4 (by decide) (hts (.fieldLink RX4 43 "CapLeague$LawReader" "kind" "I") (by decide +kernel)) rfl dX4_isNumberFor_1 rfl ?_
  refine lv_topi (fun v1 ev1 => ?_)
  have jv1 := hI.rd a0 4 t_a0 ev1 (rfl : h_bd 5 4 = ((-2147483648), 2147483647))
  refine lv_iconst (v := 2) hx hb dX4_isNumberFor_4 (by decide) ?_
  refine lv_icmp_eq (tgt := 14) hx hb dX4_isNumberFor_5 (by decide) (fun c2 => ?_) (fun c2 => ?_)
  · have ic2 := (xi_eq c2 rfl (by decide) : v1.toInt = 2)
    refine lv_iload_n hx hb dX4_isNumberFor_14 rfl (lv_at hl 1 rfl) ?_
    refine lv_if_lt (tgt := 48) hx hb dX4_isNumberFor_15 (by decide) (fun c3 => ?_) (fun c3 => ?_)
    · have ic3 := (xi_lt c3 h_x (by decide) : x_t < 0)
      refine lv_aload_n hx hb dX4_isNumberFor_48 rfl (lv_at hl 0 rfl) ?_
      refine lv_iconst (v := 2) hx hb dX4_isNumberFor_49 (by decide) ?_
      refine va_calli (va_runV (As := [.int 2]) (rest := []) ⟨hx, hb, hml, hown, hts⟩ (tX4_fail l E X A z I0 L0 a0 t_a0 2 (2) (by decide)) (cwV 1 hts gX4_isNumberFor_X4_fail rfl rfl rfl (by decide +kernel) ⟨Nat.le_of_ble_eq_true rfl, Nat.le_of_ble_eq_true rfl⟩) ⟨h_blind _ _ _ _ _ _ _, h_recv g t_a0 (by decide) so_5 (q := (RX4, TX4, 9)) rfl, h_pre _ hE hk hX hA hI hR g⟩ rfl rfl hl.1 rfl (lv_room (Nat.le_of_ble_eq_true rfl)) dX4_isNumberFor_50 ⟨Nat.le_of_ble_eq_true rfl, Nat.le_of_ble_eq_true rfl⟩) g.2.1 (fun q _ h => h) (fun q h => h) (fun rh4 I5 t H1 locs ht hvm h4 hB hz1 hk1 hS => ?_)
      obtain ⟨hI, fh4, h4⟩ := h4
      replace g := h_after g hB ht hS
      generalize H1 = H at g
      clear hB hk1 hz1 ht hvm hS
      have hF := hF.call fh4 rfl
      have hS := g.2.1
      exact W.zret (v := rh4) hx hb hr (h_nb (by omega) (by omega)).1 (fun t ht hW => ⟨⟨rh4, I5, rfl, ⟨hI, hF, ⟨(by omega), (by omega)⟩⟩, h_ret g ht⟩, hS.F ht⟩) hS.2.2 dX4_isNumberFor_53
    · have ic3 := (xi_nlt c3 h_x (by decide) : 0 ≤ x_t)
      refine lv_iload_n hx hb dX4_isNumberFor_18 rfl (lv_at hl 1 rfl) ?_
      refine lv_bipush (v := 8) hx hb dX4_isNumberFor_19 (by decide) ?_
      refine lv_icmp_gt (tgt := 48) hx hb dX4_isNumberFor_21 (by decide) (fun c6 => ?_) (fun c6 => ?_)
      · have ic6 := (xi_lt c6 (by decide) h_x : 8 < x_t)
        refine lv_aload_n hx hb dX4_isNumberFor_48 rfl (lv_at hl 0 rfl) ?_
        refine lv_iconst (v := 2) hx hb dX4_isNumberFor_49 (by decide) ?_
        refine va_calli (va_runV (As := [.int 2]) (rest := []) ⟨hx, hb, hml, hown, hts⟩ (tX4_fail l E X A z I0 L0 a0 t_a0 2 (2) (by decide)) (cwV 1 hts gX4_isNumberFor_X4_fail rfl rfl rfl (by decide +kernel) ⟨Nat.le_of_ble_eq_true rfl, Nat.le_of_ble_eq_true rfl⟩) ⟨h_blind _ _ _ _ _ _ _, h_recv g t_a0 (by decide) so_5 (q := (RX4, TX4, 9)) rfl, h_pre _ hE hk hX hA hI hR g⟩ rfl rfl hl.1 rfl (lv_room (Nat.le_of_ble_eq_true rfl)) dX4_isNumberFor_50 ⟨Nat.le_of_ble_eq_true rfl, Nat.le_of_ble_eq_true rfl⟩) g.2.1 (fun q _ h => h) (fun q h => h) (fun rh7 I8 t H1 locs ht hvm h7 hB hz1 hk1 hS => ?_)
        obtain ⟨hI, fh7, h7⟩ := h7
        replace g := h_after g hB ht hS
        generalize H1 = H at g
        clear hB hk1 hz1 ht hvm hS
        have hF := hF.call fh7 rfl
        have hS := g.2.1
        exact W.zret (v := rh7) hx hb hr (h_nb (by omega) (by omega)).1 (fun t ht hW => ⟨⟨rh7, I8, rfl, ⟨hI, hF, ⟨(by omega), (by omega)⟩⟩, h_ret g ht⟩, hS.F ht⟩) hS.2.2 dX4_isNumberFor_53
      · have ic6 := (xi_nlt c6 (by decide) h_x : x_t ≤ 8)
        refine lv_aload_n hx hb dX4_isNumberFor_24 rfl (lv_at hl 0 rfl) ?_
        refine h_get (v := .int (I0 a0 7)) hx hb hts iX4 hown g t_a0 (by decide) so_5 rfl 7 (by decide) (hts (.fieldLink RX4 67 "CapLeague$LawReader" "value" "I") (by decide +kernel)) rfl dX4_isNumberFor_25 rfl ?_
        refine lv_topi (fun v9 ev9 => ?_)
        have jv9 := hI.rd a0 7 t_a0 ev9 (rfl : h_bd 5 7 = ((-2147483648), 2147483647))
        refine va_getsN (C := RX11) (n := "LEAST") (d := "[I") (ref := RX11) (host := RX11) hx hb hX.2.1.1 g.2.1 hown (va_Nw.use rfl hk.2.1) (fun _ h => h) dX4_isNumberFor_28 ?_
        refine lv_iload_n hx hb dX4_isNumberFor_31 rfl (lv_at hl 1 rfl) ?_
        refine va_ti hx hb hX.2.1.2 g.2.1 (xi_in (by rw [h_x]; omega) (by rw [h_x]; omega)) rfl dX4_isNumberFor_32 ?_
        refine lv_topi (fun v10 ev10 => ?_)
        have jv10 : -2147483648 ≤ v10.toInt ∧ v10.toInt ≤ 2147483647 := ⟨xi_lo _, Int.le_of_lt_add_one (xi_hi _)⟩
        refine lv_icmp_lt (tgt := 48) hx hb dX4_isNumberFor_33 (by decide) (fun c11 => ?_) (fun c11 => ?_)
        · have ic11 := (xi_lt c11 rfl rfl : v9.toInt < v10.toInt)
          refine lv_aload_n hx hb dX4_isNumberFor_48 rfl (lv_at hl 0 rfl) ?_
          refine lv_iconst (v := 2) hx hb dX4_isNumberFor_49 (by decide) ?_
          refine va_calli (va_runV (As := [.int 2]) (rest := []) ⟨hx, hb, hml, hown, hts⟩ (tX4_fail l E X A z I0 L0 a0 t_a0 2 (2) (by decide)) (cwV 1 hts gX4_isNumberFor_X4_fail rfl rfl rfl (by decide +kernel) ⟨Nat.le_of_ble_eq_true rfl, Nat.le_of_ble_eq_true rfl⟩) ⟨h_blind _ _ _ _ _ _ _, h_recv g t_a0 (by decide) so_5 (q := (RX4, TX4, 9)) rfl, h_pre _ hE hk hX hA hI hR g⟩ rfl rfl hl.1 rfl (lv_room (Nat.le_of_ble_eq_true rfl)) dX4_isNumberFor_50 ⟨Nat.le_of_ble_eq_true rfl, Nat.le_of_ble_eq_true rfl⟩) g.2.1 (fun q _ h => h) (fun q h => h) (fun rh12 I13 t H1 locs ht hvm h12 hB hz1 hk1 hS => ?_)
          obtain ⟨hI, fh12, h12⟩ := h12
          replace g := h_after g hB ht hS
          generalize H1 = H at g
          clear hB hk1 hz1 ht hvm hS
          have hF := hF.call fh12 rfl
          have hS := g.2.1
          exact W.zret (v := rh12) hx hb hr (h_nb (by omega) (by omega)).1 (fun t ht hW => ⟨⟨rh12, I13, rfl, ⟨hI, hF, ⟨(by omega), (by omega)⟩⟩, h_ret g ht⟩, hS.F ht⟩) hS.2.2 dX4_isNumberFor_53
        · have ic11 := (xi_nlt c11 rfl rfl : v10.toInt ≤ v9.toInt)
          refine lv_aload_n hx hb dX4_isNumberFor_36 rfl (lv_at hl 0 rfl) ?_
          refine h_get (v := .int v9) hx hb hts iX4 hown g t_a0 (by decide) so_5 rfl 7 (by decide) (hts (.fieldLink RX4 67 "CapLeague$LawReader" "value" "I") (by decide +kernel)) rfl dX4_isNumberFor_37 (congrArg Value.int (ev9.symm)) ?_
          refine va_getsN (C := RX11) (n := "MOST") (d := "[I") (ref := RX11) (host := RX11) hx hb hX.2.2.1.1 g.2.1 hown (va_Nw.use rfl hk.2.2) (fun _ h => h) dX4_isNumberFor_40 ?_
          refine lv_iload_n hx hb dX4_isNumberFor_43 rfl (lv_at hl 1 rfl) ?_
          refine va_ti hx hb hX.2.2.1.2 g.2.1 (xi_in (by rw [h_x]; omega) (by rw [h_x]; omega)) rfl dX4_isNumberFor_44 ?_
          refine lv_topi (fun v14 ev14 => ?_)
          have jv14 : -2147483648 ≤ v14.toInt ∧ v14.toInt ≤ 2147483647 := ⟨xi_lo _, Int.le_of_lt_add_one (xi_hi _)⟩
          refine lv_icmp_le (tgt := 54) hx hb dX4_isNumberFor_45 (by decide) (fun c15 => ?_) (fun c15 => ?_)
          · have ic15 := (xi_le c15 rfl rfl : v9.toInt ≤ v14.toInt)
            refine lv_iconst (v := 1) hx hb dX4_isNumberFor_54 (by decide) ?_
            have hS := g.2.1
            exact W.zret (v := 1) hx hb hr (by decide) (fun t ht hW => ⟨⟨1, I0, rfl, ⟨hI, hF, ⟨(by decide), (by decide)⟩⟩, h_ret g ht⟩, hS.F ht⟩) hS.2.2 dX4_isNumberFor_55
          · have ic15 := (xi_nle c15 rfl rfl : v14.toInt < v9.toInt)
            refine lv_aload_n hx hb dX4_isNumberFor_48 rfl (lv_at hl 0 rfl) ?_
            refine lv_iconst (v := 2) hx hb dX4_isNumberFor_49 (by decide) ?_
            refine va_calli (va_runV (As := [.int 2]) (rest := []) ⟨hx, hb, hml, hown, hts⟩ (tX4_fail l E X A z I0 L0 a0 t_a0 2 (2) (by decide)) (cwV 1 hts gX4_isNumberFor_X4_fail rfl rfl rfl (by decide +kernel) ⟨Nat.le_of_ble_eq_true rfl, Nat.le_of_ble_eq_true rfl⟩) ⟨h_blind _ _ _ _ _ _ _, h_recv g t_a0 (by decide) so_5 (q := (RX4, TX4, 9)) rfl, h_pre _ hE hk hX hA hI hR g⟩ rfl rfl hl.1 rfl (lv_room (Nat.le_of_ble_eq_true rfl)) dX4_isNumberFor_50 ⟨Nat.le_of_ble_eq_true rfl, Nat.le_of_ble_eq_true rfl⟩) g.2.1 (fun q _ h => h) (fun q h => h) (fun rh16 I17 t H1 locs ht hvm h16 hB hz1 hk1 hS => ?_)
            obtain ⟨hI, fh16, h16⟩ := h16
            replace g := h_after g hB ht hS
            generalize H1 = H at g
            clear hB hk1 hz1 ht hvm hS
            have hF := hF.call fh16 rfl
            have hS := g.2.1
            exact W.zret (v := rh16) hx hb hr (h_nb (by omega) (by omega)).1 (fun t ht hW => ⟨⟨rh16, I17, rfl, ⟨hI, hF, ⟨(by omega), (by omega)⟩⟩, h_ret g ht⟩, hS.F ht⟩) hS.2.2 dX4_isNumberFor_53
  · have ic2 := (xi_ne c2 rfl (by decide) : v1.toInt ≠ 2)
    refine lv_aload_n hx hb dX4_isNumberFor_8 rfl (lv_at hl 0 rfl) ?_
    refine lv_iconst (v := 1) hx hb dX4_isNumberFor_9 (by decide) ?_
    refine va_calli (va_runV (As := [.int 1]) (rest := []) ⟨hx, hb, hml, hown, hts⟩ (tX4_fail l E X A z I0 L0 a0 t_a0 1 (1) (by decide)) (cwV 1 hts gX4_isNumberFor_X4_fail rfl rfl rfl (by decide +kernel) ⟨Nat.le_of_ble_eq_true rfl, Nat.le_of_ble_eq_true rfl⟩) ⟨h_blind _ _ _ _ _ _ _, h_recv g t_a0 (by decide) so_5 (q := (RX4, TX4, 9)) rfl, h_pre _ hE hk hX hA hI hR g⟩ rfl rfl hl.1 rfl (lv_room (Nat.le_of_ble_eq_true rfl)) dX4_isNumberFor_10 ⟨Nat.le_of_ble_eq_true rfl, Nat.le_of_ble_eq_true rfl⟩) g.2.1 (fun q _ h => h) (fun q h => h) (fun rh18 I19 t H1 locs ht hvm h18 hB hz1 hk1 hS => ?_)
    obtain ⟨hI, fh18, h18⟩ := h18
    replace g := h_after g hB ht hS
    generalize H1 = H at g
    clear hB hk1 hz1 ht hvm hS
    have hF := hF.call fh18 rfl
    have hS := g.2.1
    exact W.zret (v := rh18) hx hb hr (h_nb (by omega) (by omega)).1 (fun t ht hW => ⟨⟨rh18, I19, rfl, ⟨hI, hF, ⟨(by omega), (by omega)⟩⟩, h_ret g ht⟩, hS.F ht⟩) hS.2.2 dX4_isNumberFor_13
set_option maxHeartbeats 4000000 in
set_option maxRecDepth 100000 in
theorem tX4_readNumbers (l : Launch) (E : tE) (X : tX) (A : Nat → Prop) (z : tZ) (I0 : tI) (L0 : tL) (a0 : Nat) (t_a0 : z.ty a0 = 5) (x : Int32) (x_t : Int) (h_x : x.toInt = x_t) (b_x : (-1) ≤ x_t ∧ x_t ≤ 8) : Met l yX4_readNumbers wsX4_readNumbers ({ frames := 4, cells := 0, slots := 0, locals := 256 }) (va_Pc [.ref a0, .int x] (h_P E X A z I0 L0)) (va_Qi (fun r (I1 : tI) => h_I z I1 ∧ h_F [(5, 4), (5, 5), (5, 6), (5, 7), (5, 2), (5, 3), (600, 999), (601, 999), (6, 2)] z I0 I1 ∧ (0 ≤ r.toInt ∧ r.toInt ≤ 1)) (fun (I1 : tI) t => h_B E A z I1 L0 t) A) 0 0 A := by
  refine Met.ofW (cc := cX4_readNumbers) (maxL := 4) (ret := (some .boolean)) (by decide) rfl ?_
  intro pr_ ev_ s m args below meth cd_ s₁ B hml hv
  obtain ⟨rfl, hE, hk, hX, hA, hK, hI, hR, hB0⟩ := hv
  have g : h_G h_so h_fk E A z I0 L0 s s.heap s.heap [] := ⟨hK, va_S.rf, hB0⟩
  have hF : h_F [(5, 4), (5, 5), (5, 6), (5, 7), (5, 2), (5, 3), (600, 999), (601, 999), (6, 2)] z I0 I0 := h_F.rf
  have hx := B.exec
  have hb := B.bytes
  have hr := B.returns
  have hts := atoms_spec (ws := wsX4_readNumbers) B.pre
  have hown : s.vm.findClass RX4 = some m.cls := findClass_of_methodNamed B.named
  have hlocks := B.notSynchronized
  have iX4 : ∀ w ∈ u_ws RX4 TX4 9, w ∈ wsX4_readNumbers := by decide +kernel
  have hl := lv_entry ([.ref a0, .int x]) (n := 4) (Nat.le_of_ble_eq_true rfl)
  rw [lg_entry_eq]
  generalize (lg_sl ([.ref a0, .int x]) ++ List.replicate (4 - (lg_sl ([.ref a0, .int x])).length) Slot.unset).toArray = ls at hl ⊢
  have hl : lv_has ls 4 [(0, .ref a0), (1, .int x)] := hl
  refine lv_iload_n hx hb dX4_readNumbers_0 rfl (lv_at hl 1 rfl) ?_
  refine lv_iconst (v := 4) hx hb dX4_readNumbers_1 (by decide) ?_
  refine lv_icmp_ne (tgt := 9) hx hb dX4_readNumbers_2 (by decide) (fun c1 => ?_) (fun c1 => ?_)
  · have ic1 := (xi_ne c1 h_x (by decide) : x_t ≠ 4)
    refine lv_iload_n hx hb dX4_readNumbers_9 rfl (lv_at hl 1 rfl) ?_
    refine lv_istore_n (lv' := [(2, .int x), (0, .ref a0), (1, .int x)]) hx hb dX4_readNumbers_10 rfl hl (by decide) rfl (fun ls hl => ?_)
    refine lv_iload_n hx hb dX4_readNumbers_11 rfl (lv_at hl 2 rfl) ?_
    refine lv_istore_n (lv' := [(3, .int x), (2, .int x), (0, .ref a0), (1, .int x)]) hx hb dX4_readNumbers_12 rfl hl (by decide) rfl (fun ls hl => ?_)
    have loop13_0 : ∀ (n : Nat) (I3 : tI) (H : Heap) (locs : List Loc) (ls : Array Slot) (v2 : Int32), h_G h_so h_fk E A z I3 L0 s s.heap H locs → h_I z I3 → h_F [(5, 4), (5, 5), (5, 6), (5, 7), (5, 2), (5, 3), (600, 999), (601, 999), (6, 2)] z I0 I3 → lv_has ls 4 [(0, .ref a0), (2, .int x), (3, .int v2)] → ((-1) ≤ v2.toInt ∧ v2.toInt ≤ 9) → (10 - v2.toInt) < (n : Int) → W pr_ l ev_ (headSpec wsX4_readNumbers ({ frames := 4, cells := 0, slots := 0, locals := 256 })).room s m ([.ref a0, .int x] : List Value).toArray below meth cd_ H locs 0 0 (MQ below (va_Qi (fun r (I1 : tI) => h_I z I1 ∧ h_F [(5, 4), (5, 5), (5, 6), (5, 7), (5, 2), (5, 3), (600, 999), (601, 999), (6, 2)] z I0 I1 ∧ (0 ≤ r.toInt ∧ r.toInt ≤ 1)) (fun (I1 : tI) t => h_B E A z I1 L0 t) A) ([.ref a0, .int x] : List Value).toArray s 0 0 A) (F0 m 13 ls []) := by
      intro n
      induction n with
      | zero => intro I3 H locs ls v2 g hI hF hl jv2 hn; exact absurd hn (by omega)
      | succ n ih13 =>
        intro I3 H locs ls v2 g hI hF hl jv2 hn
        refine lv_iload_n hx hb dX4_readNumbers_13 rfl (lv_at hl 2 rfl) ?_
        refine lv_iload_n hx hb dX4_readNumbers_14 rfl (lv_at hl 1 rfl) ?_
        refine lv_icmp_gt (tgt := 50) hx hb dX4_readNumbers_15 (by decide) (fun c4 => ?_) (fun c4 => ?_)
        · have ic4 := (xi_lt c4 h_x rfl : x_t < v2.toInt)
          refine lv_aload_n hx hb dX4_readNumbers_50 rfl (lv_at hl 0 rfl) ?_
          refine va_callv (va_runV (As := []) (rest := []) ⟨hx, hb, hml, hown, hts⟩ (tX4_readToken l E X A z I3 L0 a0 t_a0) (cwV 0 hts gX4_readNumbers_X4_readToken rfl rfl rfl (by decide +kernel) ⟨Nat.le_of_ble_eq_true rfl, Nat.le_of_ble_eq_true rfl⟩) ⟨h_blind _ _ _ _ _ _ _, h_recv g t_a0 (by decide) so_5 (q := (RX4, TX4, 9)) rfl, h_pre _ hE hk hX hA hI hR g⟩ rfl rfl hl.1 rfl (lv_room (Nat.le_of_ble_eq_true rfl)) dX4_readNumbers_51 ⟨Nat.le_of_ble_eq_true rfl, Nat.le_of_ble_eq_true rfl⟩) g.2.1 (fun q _ h => h) (fun q h => h) (fun I6 t H1 locs ht hvm h5 hB hz1 hk1 hS => ?_)
          obtain ⟨hI, fh5, h5⟩ := h5
          replace g := h_after g hB ht hS
          generalize H1 = H at g
          clear hB hk1 hz1 ht hvm hS
          have hF := hF.call fh5 rfl
          refine lv_aload_n hx hb dX4_readNumbers_54 rfl (lv_at hl 0 rfl) ?_
          refine h_get (v := .int (I6 a0 4)) hx hb hts iX4 hown g t_a0 (by decide) so_5 rfl 4 (by decide) (hts (.fieldLink RX4 43 "CapLeague$LawReader" "kind" "I") (by decide +kernel)) rfl dX4_readNumbers_55 rfl ?_
          refine lv_topi (fun v7 ev7 => ?_)
          have jv7 := hI.rd a0 4 t_a0 ev7 (rfl : h_bd 5 4 = ((-2147483648), 2147483647))
          refine lv_iconst (v := 3) hx hb dX4_readNumbers_58 (by decide) ?_
          refine lv_icmp_eq (tgt := 70) hx hb dX4_readNumbers_59 (by decide) (fun c8 => ?_) (fun c8 => ?_)
          · have ic8 := (xi_eq c8 rfl (by decide) : v7.toInt = 3)
            refine lv_iconst (v := 1) hx hb dX4_readNumbers_70 (by decide) ?_
            refine lv_goto (tgt := 75) hx hb dX4_readNumbers_71 (by decide) ?_
            have hS := g.2.1
            exact W.zret (v := 1) hx hb hr (by decide) (fun t ht hW => ⟨⟨1, I6, rfl, ⟨hI, hF, ⟨(by decide), (by decide)⟩⟩, h_ret g ht⟩, hS.F ht⟩) hS.2.2 dX4_readNumbers_75
          · have ic8 := (xi_ne c8 rfl (by decide) : v7.toInt ≠ 3)
            refine lv_aload_n hx hb dX4_readNumbers_62 rfl (lv_at hl 0 rfl) ?_
            refine lv_iconst (v := 1) hx hb dX4_readNumbers_63 (by decide) ?_
            refine va_calli (va_runV (As := [.int 1]) (rest := []) ⟨hx, hb, hml, hown, hts⟩ (tX4_fail l E X A z I6 L0 a0 t_a0 1 (1) (by decide)) (cwV 1 hts gX4_readNumbers_X4_fail rfl rfl rfl (by decide +kernel) ⟨Nat.le_of_ble_eq_true rfl, Nat.le_of_ble_eq_true rfl⟩) ⟨h_blind _ _ _ _ _ _ _, h_recv g t_a0 (by decide) so_5 (q := (RX4, TX4, 9)) rfl, h_pre _ hE hk hX hA hI hR g⟩ rfl rfl hl.1 rfl (lv_room (Nat.le_of_ble_eq_true rfl)) dX4_readNumbers_64 ⟨Nat.le_of_ble_eq_true rfl, Nat.le_of_ble_eq_true rfl⟩) g.2.1 (fun q _ h => h) (fun q h => h) (fun rh9 I10 t H1 locs ht hvm h9 hB hz1 hk1 hS => ?_)
            obtain ⟨hI, fh9, h9⟩ := h9
            replace g := h_after g hB ht hS
            generalize H1 = H at g
            clear hB hk1 hz1 ht hvm hS
            have hF := hF.call fh9 rfl
            refine lv_if_eq (tgt := 74) hx hb dX4_readNumbers_67 (by decide) (fun c11 => ?_) (fun h => absurd (xi_ne h rfl (by decide) : rh9.toInt ≠ 0) (by omega))
            have ic11 := (xi_eq c11 rfl (by decide) : rh9.toInt = 0)
            refine lv_iconst (v := 0) hx hb dX4_readNumbers_74 (by decide) ?_
            have hS := g.2.1
            exact W.zret (v := 0) hx hb hr (by decide) (fun t ht hW => ⟨⟨0, I10, rfl, ⟨hI, hF, ⟨(by decide), (by decide)⟩⟩, h_ret g ht⟩, hS.F ht⟩) hS.2.2 dX4_readNumbers_75
        · have ic4 := (xi_nlt c4 h_x rfl : v2.toInt ≤ x_t)
          refine lv_aload_n hx hb dX4_readNumbers_18 rfl (lv_at hl 0 rfl) ?_
          refine va_callv (va_runV (As := []) (rest := []) ⟨hx, hb, hml, hown, hts⟩ (tX4_readToken l E X A z I3 L0 a0 t_a0) (cwV 0 hts gX4_readNumbers_X4_readToken rfl rfl rfl (by decide +kernel) ⟨Nat.le_of_ble_eq_true rfl, Nat.le_of_ble_eq_true rfl⟩) ⟨h_blind _ _ _ _ _ _ _, h_recv g t_a0 (by decide) so_5 (q := (RX4, TX4, 9)) rfl, h_pre _ hE hk hX hA hI hR g⟩ rfl rfl hl.1 rfl (lv_room (Nat.le_of_ble_eq_true rfl)) dX4_readNumbers_19 ⟨Nat.le_of_ble_eq_true rfl, Nat.le_of_ble_eq_true rfl⟩) g.2.1 (fun q _ h => h) (fun q h => h) (fun I13 t H1 locs ht hvm h12 hB hz1 hk1 hS => ?_)
          obtain ⟨hI, fh12, h12⟩ := h12
          replace g := h_after g hB ht hS
          generalize H1 = H at g
          clear hB hk1 hz1 ht hvm hS
          have hF := hF.call fh12 rfl
          refine lv_aload_n hx hb dX4_readNumbers_22 rfl (lv_at hl 0 rfl) ?_
          refine lv_iload_n hx hb dX4_readNumbers_23 rfl (lv_at hl 2 rfl) ?_
          refine va_calli (va_runV (As := [.int v2]) (rest := []) ⟨hx, hb, hml, hown, hts⟩ (tX4_isNumberFor l E X A z I13 L0 a0 t_a0 v2 (v2.toInt) rfl) (cwV 1 hts gX4_readNumbers_X4_isNumberFor rfl rfl rfl (by decide +kernel) ⟨Nat.le_of_ble_eq_true rfl, Nat.le_of_ble_eq_true rfl⟩) ⟨h_blind _ _ _ _ _ _ _, h_recv g t_a0 (by decide) so_5 (q := (RX4, TX4, 9)) rfl, h_pre _ hE hk hX hA hI hR g⟩ rfl rfl hl.1 rfl (lv_room (Nat.le_of_ble_eq_true rfl)) dX4_readNumbers_24 ⟨Nat.le_of_ble_eq_true rfl, Nat.le_of_ble_eq_true rfl⟩) g.2.1 (fun q _ h => h) (fun q h => h) (fun rh14 I15 t H1 locs ht hvm h14 hB hz1 hk1 hS => ?_)
          obtain ⟨hI, fh14, h14⟩ := h14
          replace g := h_after g hB ht hS
          generalize H1 = H at g
          clear hB hk1 hz1 ht hvm hS
          have hF := hF.call fh14 rfl
          refine lv_if_ne (tgt := 32) hx hb dX4_readNumbers_27 (by decide) (fun c16 => ?_) (fun c16 => ?_)
          · have ic16 := (xi_ne c16 rfl (by decide) : rh14.toInt ≠ 0)
            refine lv_aload_n hx hb dX4_readNumbers_32 rfl (lv_at hl 0 rfl) ?_
            obtain ⟨b17, rb17, tb17⟩ := hR.at a0 1 t_a0 (rfl : h_rs 5 1 = some (6, false)) (by decide)
            refine h_get (v := .ref b17) hx hb hts iX4 hown g t_a0 (by decide) so_5 rfl 1 (by decide) (hts (.fieldLink RX4 12 "CapLeague$LawReader" "read" "LCapLeague$Laws;") (by decide +kernel)) rfl dX4_readNumbers_33 (by show va_rf (z.R a0 1) = _; rw [rb17]; rfl) ?_
            refine lv_iload_n hx hb dX4_readNumbers_36 rfl (lv_at hl 2 rfl) ?_
            refine lv_aload_n hx hb dX4_readNumbers_37 rfl (lv_at hl 0 rfl) ?_
            refine h_get (v := .int (I15 a0 7)) hx hb hts iX4 hown g t_a0 (by decide) so_5 rfl 7 (by decide) (hts (.fieldLink RX4 67 "CapLeague$LawReader" "value" "I") (by decide +kernel)) rfl dX4_readNumbers_38 rfl ?_
            refine lv_topi (fun v18 ev18 => ?_)
            have jv18 := hI.rd a0 7 t_a0 ev18 (rfl : h_bd 5 7 = ((-2147483648), 2147483647))
            refine va_callv (va_runV (As := [.int v2, .int v18]) (rest := []) ⟨hx, hb, hml, hown, hts⟩ (tX5_put l E X A z I15 L0 b17 tb17 v2 (v2.toInt) rfl v18 (v18.toInt) rfl) (cwV 2 hts gX4_readNumbers_X5_put rfl rfl rfl (by decide +kernel) ⟨Nat.le_of_ble_eq_true rfl, Nat.le_of_ble_eq_true rfl⟩) ⟨h_blind _ _ _ _ _ _ _, h_recv g tb17 (by decide) so_6 (q := (RX5, TX5, 3)) rfl, h_pre _ hE hk hX hA hI hR g⟩ rfl rfl hl.1 rfl (lv_room (Nat.le_of_ble_eq_true rfl)) dX4_readNumbers_41 ⟨Nat.le_of_ble_eq_true rfl, Nat.le_of_ble_eq_true rfl⟩) g.2.1 (fun q _ h => h) (fun q h => h) (fun I20 t H1 locs ht hvm h19 hB hz1 hk1 hS => ?_)
            obtain ⟨hI, fh19, h19⟩ := h19
            replace g := h_after g hB ht hS
            generalize H1 = H at g
            clear hB hk1 hz1 ht hvm hS
            have hF := hF.call fh19 rfl
            obtain ⟨v21, ev21⟩ : ∃ z : Int32, z = v2 + 1 := ⟨_, rfl⟩
            have jv21 : v21.toInt = v2.toInt + 1 := xi_add ev21 rfl (by decide) (by omega) (by omega)
            refine lv_iinc (v := v21) (lv' := [(3, .int v21), (0, .ref a0), (2, .int x)]) hx hb dX4_readNumbers_44 hl (k := 2) rfl (by rw [ev21]; rfl) (by decide) rfl (fun ls hl => ?_)
            refine lv_goto (tgt := 13) hx hb dX4_readNumbers_47 (by decide) ?_
            exact ih13 I20 _ _ _ v21 g hI hF (lv_sub hl [1, 2, 0] rfl) (by omega) (by omega)
          · have ic16 := (xi_eq c16 rfl (by decide) : rh14.toInt = 0)
            refine lv_iconst (v := 0) hx hb dX4_readNumbers_30 (by decide) ?_
            have hS := g.2.1
            exact W.zret (v := 0) hx hb hr (by decide) (fun t ht hW => ⟨⟨0, I15, rfl, ⟨hI, hF, ⟨(by decide), (by decide)⟩⟩, h_ret g ht⟩, hS.F ht⟩) hS.2.2 dX4_readNumbers_31
    exact loop13_0 _ I0 _ _ _ x g hI hF (lv_sub hl [2, 1, 0] rfl) (by rw [h_x]; omega) (show (10 - x.toInt) < (((10 - x.toInt).toNat + 1 : Nat) : Int) by omega)
  · have ic1 := (xi_eq c1 h_x (by decide) : x_t = 4)
    refine lv_iconst (v := 5) hx hb dX4_readNumbers_5 (by decide) ?_
    refine lv_goto (tgt := 10) hx hb dX4_readNumbers_6 (by decide) ?_
    refine lv_istore_n (lv' := [(2, .int 5), (0, .ref a0), (1, .int x)]) hx hb dX4_readNumbers_10 rfl hl (by decide) rfl (fun ls hl => ?_)
    refine lv_iload_n hx hb dX4_readNumbers_11 rfl (lv_at hl 2 rfl) ?_
    refine lv_istore_n (lv' := [(3, .int x), (2, .int 5), (0, .ref a0), (1, .int x)]) hx hb dX4_readNumbers_12 rfl hl (by decide) rfl (fun ls hl => ?_)
    have loop13_1 : ∀ (n : Nat) (I23 : tI) (H : Heap) (locs : List Loc) (ls : Array Slot) (v22 : Int32), h_G h_so h_fk E A z I23 L0 s s.heap H locs → h_I z I23 → h_F [(5, 4), (5, 5), (5, 6), (5, 7), (5, 2), (5, 3), (600, 999), (601, 999), (6, 2)] z I0 I23 → lv_has ls 4 [(0, .ref a0), (2, .int 5), (3, .int v22)] → ((-1) ≤ v22.toInt ∧ v22.toInt ≤ 9) → (10 - v22.toInt) < (n : Int) → W pr_ l ev_ (headSpec wsX4_readNumbers ({ frames := 4, cells := 0, slots := 0, locals := 256 })).room s m ([.ref a0, .int x] : List Value).toArray below meth cd_ H locs 0 0 (MQ below (va_Qi (fun r (I1 : tI) => h_I z I1 ∧ h_F [(5, 4), (5, 5), (5, 6), (5, 7), (5, 2), (5, 3), (600, 999), (601, 999), (6, 2)] z I0 I1 ∧ (0 ≤ r.toInt ∧ r.toInt ≤ 1)) (fun (I1 : tI) t => h_B E A z I1 L0 t) A) ([.ref a0, .int x] : List Value).toArray s 0 0 A) (F0 m 13 ls []) := by
      intro n
      induction n with
      | zero => intro I23 H locs ls v22 g hI hF hl jv22 hn; exact absurd hn (by omega)
      | succ n ih13 =>
        intro I23 H locs ls v22 g hI hF hl jv22 hn
        refine lv_iload_n hx hb dX4_readNumbers_13 rfl (lv_at hl 2 rfl) ?_
        refine lv_iload_n hx hb dX4_readNumbers_14 rfl (lv_at hl 1 rfl) ?_
        refine lv_icmp_gt (tgt := 50) hx hb dX4_readNumbers_15 (by decide) (fun c24 => ?_) (fun c24 => ?_)
        · have ic24 := (xi_lt c24 (by decide) rfl : 5 < v22.toInt)
          refine lv_aload_n hx hb dX4_readNumbers_50 rfl (lv_at hl 0 rfl) ?_
          refine va_callv (va_runV (As := []) (rest := []) ⟨hx, hb, hml, hown, hts⟩ (tX4_readToken l E X A z I23 L0 a0 t_a0) (cwV 0 hts gX4_readNumbers_X4_readToken rfl rfl rfl (by decide +kernel) ⟨Nat.le_of_ble_eq_true rfl, Nat.le_of_ble_eq_true rfl⟩) ⟨h_blind _ _ _ _ _ _ _, h_recv g t_a0 (by decide) so_5 (q := (RX4, TX4, 9)) rfl, h_pre _ hE hk hX hA hI hR g⟩ rfl rfl hl.1 rfl (lv_room (Nat.le_of_ble_eq_true rfl)) dX4_readNumbers_51 ⟨Nat.le_of_ble_eq_true rfl, Nat.le_of_ble_eq_true rfl⟩) g.2.1 (fun q _ h => h) (fun q h => h) (fun I26 t H1 locs ht hvm h25 hB hz1 hk1 hS => ?_)
          obtain ⟨hI, fh25, h25⟩ := h25
          replace g := h_after g hB ht hS
          generalize H1 = H at g
          clear hB hk1 hz1 ht hvm hS
          have hF := hF.call fh25 rfl
          refine lv_aload_n hx hb dX4_readNumbers_54 rfl (lv_at hl 0 rfl) ?_
          refine h_get (v := .int (I26 a0 4)) hx hb hts iX4 hown g t_a0 (by decide) so_5 rfl 4 (by decide) (hts (.fieldLink RX4 43 "CapLeague$LawReader" "kind" "I") (by decide +kernel)) rfl dX4_readNumbers_55 rfl ?_
          refine lv_topi (fun v27 ev27 => ?_)
          have jv27 := hI.rd a0 4 t_a0 ev27 (rfl : h_bd 5 4 = ((-2147483648), 2147483647))
          refine lv_iconst (v := 3) hx hb dX4_readNumbers_58 (by decide) ?_
          refine lv_icmp_eq (tgt := 70) hx hb dX4_readNumbers_59 (by decide) (fun c28 => ?_) (fun c28 => ?_)
          · have ic28 := (xi_eq c28 rfl (by decide) : v27.toInt = 3)
            refine lv_iconst (v := 1) hx hb dX4_readNumbers_70 (by decide) ?_
            refine lv_goto (tgt := 75) hx hb dX4_readNumbers_71 (by decide) ?_
            have hS := g.2.1
            exact W.zret (v := 1) hx hb hr (by decide) (fun t ht hW => ⟨⟨1, I26, rfl, ⟨hI, hF, ⟨(by decide), (by decide)⟩⟩, h_ret g ht⟩, hS.F ht⟩) hS.2.2 dX4_readNumbers_75
          · have ic28 := (xi_ne c28 rfl (by decide) : v27.toInt ≠ 3)
            refine lv_aload_n hx hb dX4_readNumbers_62 rfl (lv_at hl 0 rfl) ?_
            refine lv_iconst (v := 1) hx hb dX4_readNumbers_63 (by decide) ?_
            refine va_calli (va_runV (As := [.int 1]) (rest := []) ⟨hx, hb, hml, hown, hts⟩ (tX4_fail l E X A z I26 L0 a0 t_a0 1 (1) (by decide)) (cwV 1 hts gX4_readNumbers_X4_fail rfl rfl rfl (by decide +kernel) ⟨Nat.le_of_ble_eq_true rfl, Nat.le_of_ble_eq_true rfl⟩) ⟨h_blind _ _ _ _ _ _ _, h_recv g t_a0 (by decide) so_5 (q := (RX4, TX4, 9)) rfl, h_pre _ hE hk hX hA hI hR g⟩ rfl rfl hl.1 rfl (lv_room (Nat.le_of_ble_eq_true rfl)) dX4_readNumbers_64 ⟨Nat.le_of_ble_eq_true rfl, Nat.le_of_ble_eq_true rfl⟩) g.2.1 (fun q _ h => h) (fun q h => h) (fun rh29 I30 t H1 locs ht hvm h29 hB hz1 hk1 hS => ?_)
            obtain ⟨hI, fh29, h29⟩ := h29
            replace g := h_after g hB ht hS
            generalize H1 = H at g
            clear hB hk1 hz1 ht hvm hS
            have hF := hF.call fh29 rfl
            refine lv_if_eq (tgt := 74) hx hb dX4_readNumbers_67 (by decide) (fun c31 => ?_) (fun h => absurd (xi_ne h rfl (by decide) : rh29.toInt ≠ 0) (by omega))
            have ic31 := (xi_eq c31 rfl (by decide) : rh29.toInt = 0)
            refine lv_iconst (v := 0) hx hb dX4_readNumbers_74 (by decide) ?_
            have hS := g.2.1
            exact W.zret (v := 0) hx hb hr (by decide) (fun t ht hW => ⟨⟨0, I30, rfl, ⟨hI, hF, ⟨(by decide), (by decide)⟩⟩, h_ret g ht⟩, hS.F ht⟩) hS.2.2 dX4_readNumbers_75
        · have ic24 := (xi_nlt c24 (by decide) rfl : v22.toInt ≤ 5)
          refine lv_aload_n hx hb dX4_readNumbers_18 rfl (lv_at hl 0 rfl) ?_
          refine va_callv (va_runV (As := []) (rest := []) ⟨hx, hb, hml, hown, hts⟩ (tX4_readToken l E X A z I23 L0 a0 t_a0) (cwV 0 hts gX4_readNumbers_X4_readToken rfl rfl rfl (by decide +kernel) ⟨Nat.le_of_ble_eq_true rfl, Nat.le_of_ble_eq_true rfl⟩) ⟨h_blind _ _ _ _ _ _ _, h_recv g t_a0 (by decide) so_5 (q := (RX4, TX4, 9)) rfl, h_pre _ hE hk hX hA hI hR g⟩ rfl rfl hl.1 rfl (lv_room (Nat.le_of_ble_eq_true rfl)) dX4_readNumbers_19 ⟨Nat.le_of_ble_eq_true rfl, Nat.le_of_ble_eq_true rfl⟩) g.2.1 (fun q _ h => h) (fun q h => h) (fun I33 t H1 locs ht hvm h32 hB hz1 hk1 hS => ?_)
          obtain ⟨hI, fh32, h32⟩ := h32
          replace g := h_after g hB ht hS
          generalize H1 = H at g
          clear hB hk1 hz1 ht hvm hS
          have hF := hF.call fh32 rfl
          refine lv_aload_n hx hb dX4_readNumbers_22 rfl (lv_at hl 0 rfl) ?_
          refine lv_iload_n hx hb dX4_readNumbers_23 rfl (lv_at hl 2 rfl) ?_
          refine va_calli (va_runV (As := [.int v22]) (rest := []) ⟨hx, hb, hml, hown, hts⟩ (tX4_isNumberFor l E X A z I33 L0 a0 t_a0 v22 (v22.toInt) rfl) (cwV 1 hts gX4_readNumbers_X4_isNumberFor rfl rfl rfl (by decide +kernel) ⟨Nat.le_of_ble_eq_true rfl, Nat.le_of_ble_eq_true rfl⟩) ⟨h_blind _ _ _ _ _ _ _, h_recv g t_a0 (by decide) so_5 (q := (RX4, TX4, 9)) rfl, h_pre _ hE hk hX hA hI hR g⟩ rfl rfl hl.1 rfl (lv_room (Nat.le_of_ble_eq_true rfl)) dX4_readNumbers_24 ⟨Nat.le_of_ble_eq_true rfl, Nat.le_of_ble_eq_true rfl⟩) g.2.1 (fun q _ h => h) (fun q h => h) (fun rh34 I35 t H1 locs ht hvm h34 hB hz1 hk1 hS => ?_)
          obtain ⟨hI, fh34, h34⟩ := h34
          replace g := h_after g hB ht hS
          generalize H1 = H at g
          clear hB hk1 hz1 ht hvm hS
          have hF := hF.call fh34 rfl
          refine lv_if_ne (tgt := 32) hx hb dX4_readNumbers_27 (by decide) (fun c36 => ?_) (fun c36 => ?_)
          · have ic36 := (xi_ne c36 rfl (by decide) : rh34.toInt ≠ 0)
            refine lv_aload_n hx hb dX4_readNumbers_32 rfl (lv_at hl 0 rfl) ?_
            obtain ⟨b37, rb37, tb37⟩ := hR.at a0 1 t_a0 (rfl : h_rs 5 1 = some (6, false)) (by decide)
            refine h_get (v := .ref b37) hx hb hts iX4 hown g t_a0 (by decide) so_5 rfl 1 (by decide) (hts (.fieldLink RX4 12 "CapLeague$LawReader" "read" "LCapLeague$Laws;") (by decide +kernel)) rfl dX4_readNumbers_33 (by show va_rf (z.R a0 1) = _; rw [rb37]; rfl) ?_
            refine lv_iload_n hx hb dX4_readNumbers_36 rfl (lv_at hl 2 rfl) ?_
            refine lv_aload_n hx hb dX4_readNumbers_37 rfl (lv_at hl 0 rfl) ?_
            refine h_get (v := .int (I35 a0 7)) hx hb hts iX4 hown g t_a0 (by decide) so_5 rfl 7 (by decide) (hts (.fieldLink RX4 67 "CapLeague$LawReader" "value" "I") (by decide +kernel)) rfl dX4_readNumbers_38 rfl ?_
            refine lv_topi (fun v38 ev38 => ?_)
            have jv38 := hI.rd a0 7 t_a0 ev38 (rfl : h_bd 5 7 = ((-2147483648), 2147483647))
            refine va_callv (va_runV (As := [.int v22, .int v38]) (rest := []) ⟨hx, hb, hml, hown, hts⟩ (tX5_put l E X A z I35 L0 b37 tb37 v22 (v22.toInt) rfl v38 (v38.toInt) rfl) (cwV 2 hts gX4_readNumbers_X5_put rfl rfl rfl (by decide +kernel) ⟨Nat.le_of_ble_eq_true rfl, Nat.le_of_ble_eq_true rfl⟩) ⟨h_blind _ _ _ _ _ _ _, h_recv g tb37 (by decide) so_6 (q := (RX5, TX5, 3)) rfl, h_pre _ hE hk hX hA hI hR g⟩ rfl rfl hl.1 rfl (lv_room (Nat.le_of_ble_eq_true rfl)) dX4_readNumbers_41 ⟨Nat.le_of_ble_eq_true rfl, Nat.le_of_ble_eq_true rfl⟩) g.2.1 (fun q _ h => h) (fun q h => h) (fun I40 t H1 locs ht hvm h39 hB hz1 hk1 hS => ?_)
            obtain ⟨hI, fh39, h39⟩ := h39
            replace g := h_after g hB ht hS
            generalize H1 = H at g
            clear hB hk1 hz1 ht hvm hS
            have hF := hF.call fh39 rfl
            obtain ⟨v41, ev41⟩ : ∃ z : Int32, z = v22 + 1 := ⟨_, rfl⟩
            have jv41 : v41.toInt = v22.toInt + 1 := xi_add ev41 rfl (by decide) (by omega) (by omega)
            refine lv_iinc (v := v41) (lv' := [(3, .int v41), (0, .ref a0), (2, .int 5)]) hx hb dX4_readNumbers_44 hl (k := 2) rfl (by rw [ev41]; rfl) (by decide) rfl (fun ls hl => ?_)
            refine lv_goto (tgt := 13) hx hb dX4_readNumbers_47 (by decide) ?_
            exact ih13 I40 _ _ _ v41 g hI hF (lv_sub hl [1, 2, 0] rfl) (by omega) (by omega)
          · have ic36 := (xi_eq c36 rfl (by decide) : rh34.toInt = 0)
            refine lv_iconst (v := 0) hx hb dX4_readNumbers_30 (by decide) ?_
            have hS := g.2.1
            exact W.zret (v := 0) hx hb hr (by decide) (fun t ht hW => ⟨⟨0, I35, rfl, ⟨hI, hF, ⟨(by decide), (by decide)⟩⟩, h_ret g ht⟩, hS.F ht⟩) hS.2.2 dX4_readNumbers_31
    exact loop13_1 _ I0 _ _ _ x g hI hF (lv_sub hl [2, 1, 0] rfl) (by rw [h_x]; omega) (show (10 - x.toInt) < (((10 - x.toInt).toNat + 1 : Nat) : Int) by omega)
set_option maxHeartbeats 4000000 in
set_option maxRecDepth 100000 in
theorem tX4_readLots (l : Launch) (E : tE) (X : tX) (A : Nat → Prop) (z : tZ) (I0 : tI) (L0 : tL) (a0 : Nat) (t_a0 : z.ty a0 = 5) : Met l yX4_readLots wsX4_readLots ({ frames := 4, cells := 0, slots := 0, locals := 256 }) (va_Pc [.ref a0] (h_P E X A z I0 L0)) (va_Qi (fun r (I1 : tI) => h_I z I1 ∧ h_F [(5, 4), (5, 5), (5, 6), (5, 7), (5, 2), (5, 3), (600, 999), (601, 999), (6, 2)] z I0 I1 ∧ (0 ≤ r.toInt ∧ r.toInt ≤ 1)) (fun (I1 : tI) t => h_B E A z I1 L0 t) A) 0 0 A := by
  refine Met.ofW (cc := cX4_readLots) (maxL := 2) (ret := (some .boolean)) (by decide) rfl ?_
  intro pr_ ev_ s m args below meth cd_ s₁ B hml hv
  obtain ⟨rfl, hE, hk, hX, hA, hK, hI, hR, hB0⟩ := hv
  have g : h_G h_so h_fk E A z I0 L0 s s.heap s.heap [] := ⟨hK, va_S.rf, hB0⟩
  have hF : h_F [(5, 4), (5, 5), (5, 6), (5, 7), (5, 2), (5, 3), (600, 999), (601, 999), (6, 2)] z I0 I0 := h_F.rf
  have hx := B.exec
  have hb := B.bytes
  have hr := B.returns
  have hts := atoms_spec (ws := wsX4_readLots) B.pre
  have hown : s.vm.findClass RX4 = some m.cls := findClass_of_methodNamed B.named
  have hlocks := B.notSynchronized
  have iX4 : ∀ w ∈ u_ws RX4 TX4 9, w ∈ wsX4_readLots := by decide +kernel
  have hl := lv_entry ([.ref a0]) (n := 2) (Nat.le_of_ble_eq_true rfl)
  rw [lg_entry_eq]
  generalize (lg_sl ([.ref a0]) ++ List.replicate (2 - (lg_sl ([.ref a0])).length) Slot.unset).toArray = ls at hl ⊢
  have hl : lv_has ls 2 [(0, .ref a0)] := hl
  refine lv_iconst (v := 0) hx hb dX4_readLots_0 (by decide) ?_
  refine lv_istore_n (lv' := [(1, .int 0), (0, .ref a0)]) hx hb dX4_readLots_1 rfl hl (by decide) rfl (fun ls hl => ?_)
  have loop2_0 : ∀ (n : Nat) (I2 : tI) (H : Heap) (locs : List Loc) (ls : Array Slot) (v1 : Int32), h_G h_so h_fk E A z I2 L0 s s.heap H locs → h_I z I2 → h_F [(5, 4), (5, 5), (5, 6), (5, 7), (5, 2), (5, 3), (600, 999), (601, 999), (6, 2)] z I0 I2 → lv_has ls 2 [(0, .ref a0), (1, .int v1)] → (0 ≤ v1.toInt ∧ v1.toInt ≤ 6) → (6 - v1.toInt) < (n : Int) → W pr_ l ev_ (headSpec wsX4_readLots ({ frames := 4, cells := 0, slots := 0, locals := 256 })).room s m ([.ref a0] : List Value).toArray below meth cd_ H locs 0 0 (MQ below (va_Qi (fun r (I1 : tI) => h_I z I1 ∧ h_F [(5, 4), (5, 5), (5, 6), (5, 7), (5, 2), (5, 3), (600, 999), (601, 999), (6, 2)] z I0 I1 ∧ (0 ≤ r.toInt ∧ r.toInt ≤ 1)) (fun (I1 : tI) t => h_B E A z I1 L0 t) A) ([.ref a0] : List Value).toArray s 0 0 A) (F0 m 2 ls []) := by
    intro n
    induction n with
    | zero => intro I2 H locs ls v1 g hI hF hl jv1 hn; exact absurd hn (by omega)
    | succ n ih2 =>
      intro I2 H locs ls v1 g hI hF hl jv1 hn
      refine lv_iload_n hx hb dX4_readLots_2 rfl (lv_at hl 1 rfl) ?_
      refine lv_bipush (v := 6) hx hb dX4_readLots_3 (by decide) ?_
      refine lv_icmp_ge (tgt := 55) hx hb dX4_readLots_5 (by decide) (fun c3 => ?_) (fun c3 => ?_)
      · have ic3 := (xi_le c3 (by decide) rfl : 6 ≤ v1.toInt)
        refine lv_aload_n hx hb dX4_readLots_55 rfl (lv_at hl 0 rfl) ?_
        refine va_callv (va_runV (As := []) (rest := []) ⟨hx, hb, hml, hown, hts⟩ (tX4_readToken l E X A z I2 L0 a0 t_a0) (cwV 0 hts gX4_readLots_X4_readToken rfl rfl rfl (by decide +kernel) ⟨Nat.le_of_ble_eq_true rfl, Nat.le_of_ble_eq_true rfl⟩) ⟨h_blind _ _ _ _ _ _ _, h_recv g t_a0 (by decide) so_5 (q := (RX4, TX4, 9)) rfl, h_pre _ hE hk hX hA hI hR g⟩ rfl rfl hl.1 rfl (lv_room (Nat.le_of_ble_eq_true rfl)) dX4_readLots_56 ⟨Nat.le_of_ble_eq_true rfl, Nat.le_of_ble_eq_true rfl⟩) g.2.1 (fun q _ h => h) (fun q h => h) (fun I5 t H1 locs ht hvm h4 hB hz1 hk1 hS => ?_)
        obtain ⟨hI, fh4, h4⟩ := h4
        replace g := h_after g hB ht hS
        generalize H1 = H at g
        clear hB hk1 hz1 ht hvm hS
        have hF := hF.call fh4 rfl
        refine lv_aload_n hx hb dX4_readLots_59 rfl (lv_at hl 0 rfl) ?_
        refine h_get (v := .int (I5 a0 4)) hx hb hts iX4 hown g t_a0 (by decide) so_5 rfl 4 (by decide) (hts (.fieldLink RX4 43 "CapLeague$LawReader" "kind" "I") (by decide +kernel)) rfl dX4_readLots_60 rfl ?_
        refine lv_topi (fun v6 ev6 => ?_)
        have jv6 := hI.rd a0 4 t_a0 ev6 (rfl : h_bd 5 4 = ((-2147483648), 2147483647))
        refine lv_iconst (v := 3) hx hb dX4_readLots_63 (by decide) ?_
        refine lv_icmp_eq (tgt := 75) hx hb dX4_readLots_64 (by decide) (fun c7 => ?_) (fun c7 => ?_)
        · have ic7 := (xi_eq c7 rfl (by decide) : v6.toInt = 3)
          refine lv_iconst (v := 1) hx hb dX4_readLots_75 (by decide) ?_
          refine lv_goto (tgt := 80) hx hb dX4_readLots_76 (by decide) ?_
          have hS := g.2.1
          exact W.zret (v := 1) hx hb hr (by decide) (fun t ht hW => ⟨⟨1, I5, rfl, ⟨hI, hF, ⟨(by decide), (by decide)⟩⟩, h_ret g ht⟩, hS.F ht⟩) hS.2.2 dX4_readLots_80
        · have ic7 := (xi_ne c7 rfl (by decide) : v6.toInt ≠ 3)
          refine lv_aload_n hx hb dX4_readLots_67 rfl (lv_at hl 0 rfl) ?_
          refine lv_iconst (v := 1) hx hb dX4_readLots_68 (by decide) ?_
          refine va_calli (va_runV (As := [.int 1]) (rest := []) ⟨hx, hb, hml, hown, hts⟩ (tX4_fail l E X A z I5 L0 a0 t_a0 1 (1) (by decide)) (cwV 1 hts gX4_readLots_X4_fail rfl rfl rfl (by decide +kernel) ⟨Nat.le_of_ble_eq_true rfl, Nat.le_of_ble_eq_true rfl⟩) ⟨h_blind _ _ _ _ _ _ _, h_recv g t_a0 (by decide) so_5 (q := (RX4, TX4, 9)) rfl, h_pre _ hE hk hX hA hI hR g⟩ rfl rfl hl.1 rfl (lv_room (Nat.le_of_ble_eq_true rfl)) dX4_readLots_69 ⟨Nat.le_of_ble_eq_true rfl, Nat.le_of_ble_eq_true rfl⟩) g.2.1 (fun q _ h => h) (fun q h => h) (fun rh8 I9 t H1 locs ht hvm h8 hB hz1 hk1 hS => ?_)
          obtain ⟨hI, fh8, h8⟩ := h8
          replace g := h_after g hB ht hS
          generalize H1 = H at g
          clear hB hk1 hz1 ht hvm hS
          have hF := hF.call fh8 rfl
          refine lv_if_eq (tgt := 79) hx hb dX4_readLots_72 (by decide) (fun c10 => ?_) (fun h => absurd (xi_ne h rfl (by decide) : rh8.toInt ≠ 0) (by omega))
          have ic10 := (xi_eq c10 rfl (by decide) : rh8.toInt = 0)
          refine lv_iconst (v := 0) hx hb dX4_readLots_79 (by decide) ?_
          have hS := g.2.1
          exact W.zret (v := 0) hx hb hr (by decide) (fun t ht hW => ⟨⟨0, I9, rfl, ⟨hI, hF, ⟨(by decide), (by decide)⟩⟩, h_ret g ht⟩, hS.F ht⟩) hS.2.2 dX4_readLots_80
      · have ic3 := (xi_nle c3 (by decide) rfl : v1.toInt < 6)
        refine lv_aload_n hx hb dX4_readLots_8 rfl (lv_at hl 0 rfl) ?_
        refine va_callv (va_runV (As := []) (rest := []) ⟨hx, hb, hml, hown, hts⟩ (tX4_readToken l E X A z I2 L0 a0 t_a0) (cwV 0 hts gX4_readLots_X4_readToken rfl rfl rfl (by decide +kernel) ⟨Nat.le_of_ble_eq_true rfl, Nat.le_of_ble_eq_true rfl⟩) ⟨h_blind _ _ _ _ _ _ _, h_recv g t_a0 (by decide) so_5 (q := (RX4, TX4, 9)) rfl, h_pre _ hE hk hX hA hI hR g⟩ rfl rfl hl.1 rfl (lv_room (Nat.le_of_ble_eq_true rfl)) dX4_readLots_9 ⟨Nat.le_of_ble_eq_true rfl, Nat.le_of_ble_eq_true rfl⟩) g.2.1 (fun q _ h => h) (fun q h => h) (fun I12 t H1 locs ht hvm h11 hB hz1 hk1 hS => ?_)
        obtain ⟨hI, fh11, h11⟩ := h11
        replace g := h_after g hB ht hS
        generalize H1 = H at g
        clear hB hk1 hz1 ht hvm hS
        have hF := hF.call fh11 rfl
        refine lv_aload_n hx hb dX4_readLots_12 rfl (lv_at hl 0 rfl) ?_
        refine h_get (v := .int (I12 a0 4)) hx hb hts iX4 hown g t_a0 (by decide) so_5 rfl 4 (by decide) (hts (.fieldLink RX4 43 "CapLeague$LawReader" "kind" "I") (by decide +kernel)) rfl dX4_readLots_13 rfl ?_
        refine lv_topi (fun v13 ev13 => ?_)
        have jv13 := hI.rd a0 4 t_a0 ev13 (rfl : h_bd 5 4 = ((-2147483648), 2147483647))
        refine lv_iconst (v := 3) hx hb dX4_readLots_16 (by decide) ?_
        refine lv_icmp_ne (tgt := 26) hx hb dX4_readLots_17 (by decide) (fun c14 => ?_) (fun c14 => ?_)
        · have ic14 := (xi_ne c14 rfl (by decide) : v13.toInt ≠ 3)
          refine lv_aload_n hx hb dX4_readLots_26 rfl (lv_at hl 0 rfl) ?_
          refine lv_bipush (v := 8) hx hb dX4_readLots_27 (by decide) ?_
          refine va_calli (va_runV (As := [.int 8]) (rest := []) ⟨hx, hb, hml, hown, hts⟩ (tX4_isNumberFor l E X A z I12 L0 a0 t_a0 8 (8) (by decide)) (cwV 1 hts gX4_readLots_X4_isNumberFor rfl rfl rfl (by decide +kernel) ⟨Nat.le_of_ble_eq_true rfl, Nat.le_of_ble_eq_true rfl⟩) ⟨h_blind _ _ _ _ _ _ _, h_recv g t_a0 (by decide) so_5 (q := (RX4, TX4, 9)) rfl, h_pre _ hE hk hX hA hI hR g⟩ rfl rfl hl.1 rfl (lv_room (Nat.le_of_ble_eq_true rfl)) dX4_readLots_29 ⟨Nat.le_of_ble_eq_true rfl, Nat.le_of_ble_eq_true rfl⟩) g.2.1 (fun q _ h => h) (fun q h => h) (fun rh15 I16 t H1 locs ht hvm h15 hB hz1 hk1 hS => ?_)
          obtain ⟨hI, fh15, h15⟩ := h15
          replace g := h_after g hB ht hS
          generalize H1 = H at g
          clear hB hk1 hz1 ht hvm hS
          have hF := hF.call fh15 rfl
          refine lv_if_ne (tgt := 37) hx hb dX4_readLots_32 (by decide) (fun c17 => ?_) (fun c17 => ?_)
          · have ic17 := (xi_ne c17 rfl (by decide) : rh15.toInt ≠ 0)
            refine lv_aload_n hx hb dX4_readLots_37 rfl (lv_at hl 0 rfl) ?_
            obtain ⟨b18, rb18, tb18⟩ := hR.at a0 1 t_a0 (rfl : h_rs 5 1 = some (6, false)) (by decide)
            refine h_get (v := .ref b18) hx hb hts iX4 hown g t_a0 (by decide) so_5 rfl 1 (by decide) (hts (.fieldLink RX4 12 "CapLeague$LawReader" "read" "LCapLeague$Laws;") (by decide +kernel)) rfl dX4_readLots_38 (by show va_rf (z.R a0 1) = _; rw [rb18]; rfl) ?_
            refine lv_iload_n hx hb dX4_readLots_41 rfl (lv_at hl 1 rfl) ?_
            refine lv_aload_n hx hb dX4_readLots_42 rfl (lv_at hl 0 rfl) ?_
            refine h_get (v := .int (I16 a0 7)) hx hb hts iX4 hown g t_a0 (by decide) so_5 rfl 7 (by decide) (hts (.fieldLink RX4 67 "CapLeague$LawReader" "value" "I") (by decide +kernel)) rfl dX4_readLots_43 rfl ?_
            refine lv_topi (fun v19 ev19 => ?_)
            have jv19 := hI.rd a0 7 t_a0 ev19 (rfl : h_bd 5 7 = ((-2147483648), 2147483647))
            refine va_callv (va_runV (As := [.int v1, .int v19]) (rest := []) ⟨hx, hb, hml, hown, hts⟩ (tX5_putLot l E X A z I16 L0 b18 tb18 v1 (v1.toInt) rfl v19 (v19.toInt) rfl) (cwV 2 hts gX4_readLots_X5_putLot rfl rfl rfl (by decide +kernel) ⟨Nat.le_of_ble_eq_true rfl, Nat.le_of_ble_eq_true rfl⟩) ⟨h_blind _ _ _ _ _ _ _, h_recv g tb18 (by decide) so_6 (q := (RX5, TX5, 3)) rfl, h_pre _ hE hk hX hA hI hR g⟩ rfl rfl hl.1 rfl (lv_room (Nat.le_of_ble_eq_true rfl)) dX4_readLots_46 ⟨Nat.le_of_ble_eq_true rfl, Nat.le_of_ble_eq_true rfl⟩) g.2.1 (fun q _ h => h) (fun q h => h) (fun I21 t H1 locs ht hvm h20 hB hz1 hk1 hS => ?_)
            obtain ⟨hI, fh20, h20⟩ := h20
            replace g := h_after g hB ht hS
            generalize H1 = H at g
            clear hB hk1 hz1 ht hvm hS
            have hF := hF.call fh20 rfl
            obtain ⟨v22, ev22⟩ : ∃ z : Int32, z = v1 + 1 := ⟨_, rfl⟩
            have jv22 : v22.toInt = v1.toInt + 1 := xi_add ev22 rfl (by decide) (by omega) (by omega)
            refine lv_iinc (v := v22) (lv' := [(1, .int v22), (0, .ref a0)]) hx hb dX4_readLots_49 hl (k := 1) rfl (by rw [ev22]; rfl) (by decide) rfl (fun ls hl => ?_)
            refine lv_goto (tgt := 2) hx hb dX4_readLots_52 (by decide) ?_
            exact ih2 I21 _ _ _ v22 g hI hF (lv_sub hl [1, 0] rfl) (by omega) (by omega)
          · have ic17 := (xi_eq c17 rfl (by decide) : rh15.toInt = 0)
            refine lv_iconst (v := 0) hx hb dX4_readLots_35 (by decide) ?_
            have hS := g.2.1
            exact W.zret (v := 0) hx hb hr (by decide) (fun t ht hW => ⟨⟨0, I16, rfl, ⟨hI, hF, ⟨(by decide), (by decide)⟩⟩, h_ret g ht⟩, hS.F ht⟩) hS.2.2 dX4_readLots_36
        · have ic14 := (xi_eq c14 rfl (by decide) : v13.toInt = 3)
          refine lv_iload_n hx hb dX4_readLots_20 rfl (lv_at hl 1 rfl) ?_
          refine lv_if_le (tgt := 26) hx hb dX4_readLots_21 (by decide) (fun c23 => ?_) (fun c23 => ?_)
          · have ic23 := (xi_le c23 rfl (by decide) : v1.toInt ≤ 0)
            refine lv_aload_n hx hb dX4_readLots_26 rfl (lv_at hl 0 rfl) ?_
            refine lv_bipush (v := 8) hx hb dX4_readLots_27 (by decide) ?_
            refine va_calli (va_runV (As := [.int 8]) (rest := []) ⟨hx, hb, hml, hown, hts⟩ (tX4_isNumberFor l E X A z I12 L0 a0 t_a0 8 (8) (by decide)) (cwV 1 hts gX4_readLots_X4_isNumberFor rfl rfl rfl (by decide +kernel) ⟨Nat.le_of_ble_eq_true rfl, Nat.le_of_ble_eq_true rfl⟩) ⟨h_blind _ _ _ _ _ _ _, h_recv g t_a0 (by decide) so_5 (q := (RX4, TX4, 9)) rfl, h_pre _ hE hk hX hA hI hR g⟩ rfl rfl hl.1 rfl (lv_room (Nat.le_of_ble_eq_true rfl)) dX4_readLots_29 ⟨Nat.le_of_ble_eq_true rfl, Nat.le_of_ble_eq_true rfl⟩) g.2.1 (fun q _ h => h) (fun q h => h) (fun rh24 I25 t H1 locs ht hvm h24 hB hz1 hk1 hS => ?_)
            obtain ⟨hI, fh24, h24⟩ := h24
            replace g := h_after g hB ht hS
            generalize H1 = H at g
            clear hB hk1 hz1 ht hvm hS
            have hF := hF.call fh24 rfl
            refine lv_if_ne (tgt := 37) hx hb dX4_readLots_32 (by decide) (fun c26 => ?_) (fun c26 => ?_)
            · have ic26 := (xi_ne c26 rfl (by decide) : rh24.toInt ≠ 0)
              refine lv_aload_n hx hb dX4_readLots_37 rfl (lv_at hl 0 rfl) ?_
              obtain ⟨b27, rb27, tb27⟩ := hR.at a0 1 t_a0 (rfl : h_rs 5 1 = some (6, false)) (by decide)
              refine h_get (v := .ref b27) hx hb hts iX4 hown g t_a0 (by decide) so_5 rfl 1 (by decide) (hts (.fieldLink RX4 12 "CapLeague$LawReader" "read" "LCapLeague$Laws;") (by decide +kernel)) rfl dX4_readLots_38 (by show va_rf (z.R a0 1) = _; rw [rb27]; rfl) ?_
              refine lv_iload_n hx hb dX4_readLots_41 rfl (lv_at hl 1 rfl) ?_
              refine lv_aload_n hx hb dX4_readLots_42 rfl (lv_at hl 0 rfl) ?_
              refine h_get (v := .int (I25 a0 7)) hx hb hts iX4 hown g t_a0 (by decide) so_5 rfl 7 (by decide) (hts (.fieldLink RX4 67 "CapLeague$LawReader" "value" "I") (by decide +kernel)) rfl dX4_readLots_43 rfl ?_
              refine lv_topi (fun v28 ev28 => ?_)
              have jv28 := hI.rd a0 7 t_a0 ev28 (rfl : h_bd 5 7 = ((-2147483648), 2147483647))
              refine va_callv (va_runV (As := [.int v1, .int v28]) (rest := []) ⟨hx, hb, hml, hown, hts⟩ (tX5_putLot l E X A z I25 L0 b27 tb27 v1 (v1.toInt) rfl v28 (v28.toInt) rfl) (cwV 2 hts gX4_readLots_X5_putLot rfl rfl rfl (by decide +kernel) ⟨Nat.le_of_ble_eq_true rfl, Nat.le_of_ble_eq_true rfl⟩) ⟨h_blind _ _ _ _ _ _ _, h_recv g tb27 (by decide) so_6 (q := (RX5, TX5, 3)) rfl, h_pre _ hE hk hX hA hI hR g⟩ rfl rfl hl.1 rfl (lv_room (Nat.le_of_ble_eq_true rfl)) dX4_readLots_46 ⟨Nat.le_of_ble_eq_true rfl, Nat.le_of_ble_eq_true rfl⟩) g.2.1 (fun q _ h => h) (fun q h => h) (fun I30 t H1 locs ht hvm h29 hB hz1 hk1 hS => ?_)
              obtain ⟨hI, fh29, h29⟩ := h29
              replace g := h_after g hB ht hS
              generalize H1 = H at g
              clear hB hk1 hz1 ht hvm hS
              have hF := hF.call fh29 rfl
              obtain ⟨v31, ev31⟩ : ∃ z : Int32, z = v1 + 1 := ⟨_, rfl⟩
              have jv31 : v31.toInt = v1.toInt + 1 := xi_add ev31 rfl (by decide) (by omega) (by omega)
              refine lv_iinc (v := v31) (lv' := [(1, .int v31), (0, .ref a0)]) hx hb dX4_readLots_49 hl (k := 1) rfl (by rw [ev31]; rfl) (by decide) rfl (fun ls hl => ?_)
              refine lv_goto (tgt := 2) hx hb dX4_readLots_52 (by decide) ?_
              exact ih2 I30 _ _ _ v31 g hI hF (lv_sub hl [1, 0] rfl) (by omega) (by omega)
            · have ic26 := (xi_eq c26 rfl (by decide) : rh24.toInt = 0)
              refine lv_iconst (v := 0) hx hb dX4_readLots_35 (by decide) ?_
              have hS := g.2.1
              exact W.zret (v := 0) hx hb hr (by decide) (fun t ht hW => ⟨⟨0, I25, rfl, ⟨hI, hF, ⟨(by decide), (by decide)⟩⟩, h_ret g ht⟩, hS.F ht⟩) hS.2.2 dX4_readLots_36
          · have ic23 := (xi_nle c23 rfl (by decide) : 0 < v1.toInt)
            refine lv_iconst (v := 1) hx hb dX4_readLots_24 (by decide) ?_
            have hS := g.2.1
            exact W.zret (v := 1) hx hb hr (by decide) (fun t ht hW => ⟨⟨1, I12, rfl, ⟨hI, hF, ⟨(by decide), (by decide)⟩⟩, h_ret g ht⟩, hS.F ht⟩) hS.2.2 dX4_readLots_25
  exact loop2_0 _ I0 _ _ _ (0) g hI hF (lv_sub hl [1, 0] rfl) ⟨by decide, by decide⟩ (show (6 - (0 : Int)) < (((6 - (0 : Int)).toNat + 1 : Nat) : Int) by omega)
set_option maxHeartbeats 4000000 in
set_option maxRecDepth 100000 in
theorem tX4_readLine (l : Launch) (E : tE) (X : tX) (A : Nat → Prop) (z : tZ) (I0 : tI) (L0 : tL) (a0 : Nat) (t_a0 : z.ty a0 = 5) : Met l yX4_readLine wsX4_readLine ({ frames := 7, cells := 0, slots := 0, locals := 448 }) (va_Pc [.ref a0] (h_P E X A z I0 L0)) (va_Qi (fun r (I1 : tI) => h_I z I1 ∧ h_F [(5, 4), (5, 5), (5, 6), (5, 7), (5, 2), (5, 3), (600, 999), (601, 999), (6, 2), (5, 8)] z I0 I1 ∧ (0 ≤ r.toInt ∧ r.toInt ≤ 1)) (fun (I1 : tI) t => h_B E A z I1 L0 t) A) 0 0 A := by
  refine Met.ofW (cc := cX4_readLine) (maxL := 2) (ret := (some .boolean)) (by decide) rfl ?_
  intro pr_ ev_ s m args below meth cd_ s₁ B hml hv
  obtain ⟨rfl, hE, hk, hX, hA, hK, hI, hR, hB0⟩ := hv
  have g : h_G h_so h_fk E A z I0 L0 s s.heap s.heap [] := ⟨hK, va_S.rf, hB0⟩
  have hF : h_F [(5, 4), (5, 5), (5, 6), (5, 7), (5, 2), (5, 3), (600, 999), (601, 999), (6, 2), (5, 8)] z I0 I0 := h_F.rf
  have hx := B.exec
  have hb := B.bytes
  have hr := B.returns
  have hts := atoms_spec (ws := wsX4_readLine) B.pre
  have hown : s.vm.findClass RX4 = some m.cls := findClass_of_methodNamed B.named
  have hlocks := B.notSynchronized
  have iX4 : ∀ w ∈ u_ws RX4 TX4 9, w ∈ wsX4_readLine := by decide +kernel
  have hl := lv_entry ([.ref a0]) (n := 2) (Nat.le_of_ble_eq_true rfl)
  rw [lg_entry_eq]
  generalize (lg_sl ([.ref a0]) ++ List.replicate (2 - (lg_sl ([.ref a0])).length) Slot.unset).toArray = ls at hl ⊢
  have hl : lv_has ls 2 [(0, .ref a0)] := hl
  refine lv_aload_n hx hb dX4_readLine_0 rfl (lv_at hl 0 rfl) ?_
  refine h_get (v := .int (I0 a0 4)) hx hb hts iX4 hown g t_a0 (by decide) so_5 rfl 4 (by decide) (hts (.fieldLink RX4 43 "CapLeague$LawReader" "kind" "I") (by decide +kernel)) rfl dX4_readLine_1 rfl ?_
  refine lv_topi (fun v1 ev1 => ?_)
  have jv1 := hI.rd a0 4 t_a0 ev1 (rfl : h_bd 5 4 = ((-2147483648), 2147483647))
  refine lv_iconst (v := 1) hx hb dX4_readLine_4 (by decide) ?_
  refine lv_icmp_ne (tgt := 15) hx hb dX4_readLine_5 (by decide) (fun c2 => ?_) (fun c2 => ?_)
  · have ic2 := (xi_ne c2 rfl (by decide) : v1.toInt ≠ 1)
    refine lv_iconst (v := (-1)) hx hb dX4_readLine_15 (by decide) ?_
    refine lv_istore_n (lv' := [(1, .int (-1)), (0, .ref a0)]) hx hb dX4_readLine_16 rfl hl (by decide) rfl (fun ls hl => ?_)
    refine lv_iload_n hx hb dX4_readLine_17 rfl (lv_at hl 0 rfl) ?_
    refine lv_iconst (v := (-1)) hx hb dX4_readLine_18 (by decide) ?_
    refine lv_icmp_ne (tgt := 28) hx hb dX4_readLine_19 (by decide) (fun h => absurd (by decide) h) (fun _ => ?_)
    refine lv_aload_n hx hb dX4_readLine_22 rfl (lv_at hl 1 rfl) ?_
    refine lv_iconst (v := 1) hx hb dX4_readLine_23 (by decide) ?_
    refine va_calli (va_runV (As := [.int 1]) (rest := []) ⟨hx, hb, hml, hown, hts⟩ (tX4_fail l E X A z I0 L0 a0 t_a0 1 (1) (by decide)) (cwV 1 hts gX4_readLine_X4_fail rfl rfl rfl (by decide +kernel) ⟨Nat.le_of_ble_eq_true rfl, Nat.le_of_ble_eq_true rfl⟩) ⟨h_blind _ _ _ _ _ _ _, h_recv g t_a0 (by decide) so_5 (q := (RX4, TX4, 9)) rfl, h_pre _ hE hk hX hA hI hR g⟩ rfl rfl hl.1 rfl (lv_room (Nat.le_of_ble_eq_true rfl)) dX4_readLine_24 ⟨Nat.le_of_ble_eq_true rfl, Nat.le_of_ble_eq_true rfl⟩) g.2.1 (fun q _ h => h) (fun q h => h) (fun rh4 I5 t H1 locs ht hvm h4 hB hz1 hk1 hS => ?_)
    obtain ⟨hI, fh4, h4⟩ := h4
    replace g := h_after g hB ht hS
    generalize H1 = H at g
    clear hB hk1 hz1 ht hvm hS
    have hF := hF.call fh4 rfl
    have hS := g.2.1
    exact W.zret (v := rh4) hx hb hr (h_nb (by omega) (by omega)).1 (fun t ht hW => ⟨⟨rh4, I5, rfl, ⟨hI, hF, ⟨(by omega), (by omega)⟩⟩, h_ret g ht⟩, hS.F ht⟩) hS.2.2 dX4_readLine_27
  · have ic2 := (xi_eq c2 rfl (by decide) : v1.toInt = 1)
    refine lv_aload_n hx hb dX4_readLine_8 rfl (lv_at hl 0 rfl) ?_
    refine vp_callSi (W.runV (As := []) (rest := []) ⟨hx, hb, hml, hown, hts⟩ (tX4_lineOfWord l E X A z I0 L0 a0 t_a0) (cwV 0 hts gX4_readLine_X4_lineOfWord rfl rfl rfl (by decide +kernel) ⟨Nat.le_of_ble_eq_true rfl, Nat.le_of_ble_eq_true rfl⟩) ⟨h_blind _ _ _ _ _ _ _, h_recv g t_a0 (by decide) so_5 (q := (RX4, TX4, 9)) rfl, h_pre _ hE hk hX hA hI hR g⟩ rfl rfl hl.1 rfl (lv_room (Nat.le_of_ble_eq_true rfl)) dX4_readLine_9 ⟨Nat.le_of_ble_eq_true rfl, Nat.le_of_ble_eq_true rfl⟩) (fun rh6 h6 => ?_)
    refine lv_goto (tgt := 16) hx hb dX4_readLine_12 (by decide) ?_
    refine lv_istore_n (lv' := [(1, .int rh6), (0, .ref a0)]) hx hb dX4_readLine_16 rfl hl (by decide) rfl (fun ls hl => ?_)
    refine lv_iload_n hx hb dX4_readLine_17 rfl (lv_at hl 0 rfl) ?_
    refine lv_iconst (v := (-1)) hx hb dX4_readLine_18 (by decide) ?_
    refine lv_icmp_ne (tgt := 28) hx hb dX4_readLine_19 (by decide) (fun c7 => ?_) (fun c7 => ?_)
    · have ic7 := (xi_ne c7 rfl (by decide) : rh6.toInt ≠ (-1))
      refine lv_aload_n hx hb dX4_readLine_28 rfl (lv_at hl 1 rfl) ?_
      refine h_get (v := .int (I0 a0 8)) hx hb hts iX4 hown g t_a0 (by decide) so_5 rfl 8 (by decide) (hts (.fieldLink RX4 35 "CapLeague$LawReader" "toldLines" "I") (by decide +kernel)) rfl dX4_readLine_29 rfl ?_
      refine lv_topi (fun v8 ev8 => ?_)
      have jv8 := hI.rd a0 8 t_a0 ev8 (rfl : h_bd 5 8 = ((-2147483648), 2147483647))
      refine lv_iconst (v := 1) hx hb dX4_readLine_32 (by decide) ?_
      refine lv_iload_n hx hb dX4_readLine_33 rfl (lv_at hl 0 rfl) ?_
      refine lv_ishl hx hb dX4_readLine_34 ?_
      refine lv_topi (fun v9 ev9 => ?_)
      have jv9 : -2147483648 ≤ v9.toInt ∧ v9.toInt ≤ 2147483647 := ⟨xi_lo _, Int.le_of_lt_add_one (xi_hi _)⟩
      refine lv_iand hx hb dX4_readLine_35 ?_
      refine lv_topi (fun v10 ev10 => ?_)
      have jv10 : -2147483648 ≤ v10.toInt ∧ v10.toInt ≤ 2147483647 := ⟨xi_lo _, Int.le_of_lt_add_one (xi_hi _)⟩
      refine lv_if_eq (tgt := 45) hx hb dX4_readLine_36 (by decide) (fun c11 => ?_) (fun c11 => ?_)
      · have ic11 := (xi_eq c11 rfl (by decide) : v10.toInt = 0)
        refine lv_aload_n hx hb dX4_readLine_45 rfl (lv_at hl 1 rfl) ?_
        refine lv_dup hx hb dX4_readLine_46 rfl ?_
        refine h_get (v := .int v8) hx hb hts iX4 hown g t_a0 (by decide) so_5 rfl 8 (by decide) (hts (.fieldLink RX4 35 "CapLeague$LawReader" "toldLines" "I") (by decide +kernel)) rfl dX4_readLine_47 (congrArg Value.int (ev8.symm)) ?_
        refine lv_iconst (v := 1) hx hb dX4_readLine_50 (by decide) ?_
        refine lv_iload_n hx hb dX4_readLine_51 rfl (lv_at hl 0 rfl) ?_
        refine lv_ishl hx hb dX4_readLine_52 ?_
        refine lv_topi (fun v12 ev12 => ?_)
        have jv12 : -2147483648 ≤ v12.toInt ∧ v12.toInt ≤ 2147483647 := ⟨xi_lo _, Int.le_of_lt_add_one (xi_hi _)⟩
        refine lv_ior hx hb dX4_readLine_53 ?_
        refine lv_topi (fun v13 ev13 => ?_)
        have jv13 : -2147483648 ≤ v13.toInt ∧ v13.toInt ≤ 2147483647 := ⟨xi_lo _, Int.le_of_lt_add_one (xi_hi _)⟩
        refine h_putI (ty := .int) (v := v13) hx hb hts iX4 tyX4 tyX4_ok nmX4 hown g t_a0 (by decide) so_5 rfl 8 (by decide) rfl (hts (.fieldLink RX4 35 "CapLeague$LawReader" "toldLines" "I") (by decide +kernel)) rfl rfl (by decide +kernel) rfl rfl dX4_readLine_54 (fun I14 H locs eI14 g => ?_)
        have hI := hI.wr eI14 t_a0 (rfl : h_bd 5 8 = ((-2147483648), 2147483647)) (xi_lo _) (Int.le_of_lt_add_one (xi_hi _))
        have hF := hF.wr eI14 t_a0 rfl
        refine lv_iload_n hx hb dX4_readLine_57 rfl (lv_at hl 0 rfl) ?_
        refine lv_bipush (v := 8) hx hb dX4_readLine_58 (by decide) ?_
        refine lv_icmp_ne (tgt := 70) hx hb dX4_readLine_60 (by decide) (fun c15 => ?_) (fun c15 => ?_)
        · have ic15 := (xi_ne c15 rfl (by decide) : rh6.toInt ≠ 8)
          refine lv_aload_n hx hb dX4_readLine_70 rfl (lv_at hl 1 rfl) ?_
          refine lv_iload_n hx hb dX4_readLine_71 rfl (lv_at hl 0 rfl) ?_
          refine va_calli (va_runV (As := [.int rh6]) (rest := []) ⟨hx, hb, hml, hown, hts⟩ (tX4_readNumbers l E X A z I14 L0 a0 t_a0 rh6 (rh6.toInt) rfl (by omega)) (cwV 1 hts gX4_readLine_X4_readNumbers rfl rfl rfl (by decide +kernel) ⟨Nat.le_of_ble_eq_true rfl, Nat.le_of_ble_eq_true rfl⟩) ⟨h_blind _ _ _ _ _ _ _, h_recv g t_a0 (by decide) so_5 (q := (RX4, TX4, 9)) rfl, h_pre _ hE hk hX hA hI hR g⟩ rfl rfl hl.1 rfl (lv_room (Nat.le_of_ble_eq_true rfl)) dX4_readLine_72 ⟨Nat.le_of_ble_eq_true rfl, Nat.le_of_ble_eq_true rfl⟩) g.2.1 (fun q _ h => h) (fun q h => h) (fun rh16 I17 t H1 locs ht hvm h16 hB hz1 hk1 hS => ?_)
          obtain ⟨hI, fh16, h16⟩ := h16
          replace g := h_after g hB ht hS
          generalize H1 = H at g
          clear hB hk1 hz1 ht hvm hS
          have hF := hF.call fh16 rfl
          have hS := g.2.1
          exact W.zret (v := rh16) hx hb hr (h_nb (by omega) (by omega)).1 (fun t ht hW => ⟨⟨rh16, I17, rfl, ⟨hI, hF, ⟨(by omega), (by omega)⟩⟩, h_ret g ht⟩, hS.F ht⟩) hS.2.2 dX4_readLine_75
        · have ic15 := (xi_eq c15 rfl (by decide) : rh6.toInt = 8)
          refine lv_aload_n hx hb dX4_readLine_63 rfl (lv_at hl 1 rfl) ?_
          refine va_calli (va_runV (As := []) (rest := []) ⟨hx, hb, hml, hown, hts⟩ (tX4_readLots l E X A z I14 L0 a0 t_a0) (cwV 0 hts gX4_readLine_X4_readLots rfl rfl rfl (by decide +kernel) ⟨Nat.le_of_ble_eq_true rfl, Nat.le_of_ble_eq_true rfl⟩) ⟨h_blind _ _ _ _ _ _ _, h_recv g t_a0 (by decide) so_5 (q := (RX4, TX4, 9)) rfl, h_pre _ hE hk hX hA hI hR g⟩ rfl rfl hl.1 rfl (lv_room (Nat.le_of_ble_eq_true rfl)) dX4_readLine_64 ⟨Nat.le_of_ble_eq_true rfl, Nat.le_of_ble_eq_true rfl⟩) g.2.1 (fun q _ h => h) (fun q h => h) (fun rh18 I19 t H1 locs ht hvm h18 hB hz1 hk1 hS => ?_)
          obtain ⟨hI, fh18, h18⟩ := h18
          replace g := h_after g hB ht hS
          generalize H1 = H at g
          clear hB hk1 hz1 ht hvm hS
          have hF := hF.call fh18 rfl
          refine lv_goto (tgt := 75) hx hb dX4_readLine_67 (by decide) ?_
          have hS := g.2.1
          exact W.zret (v := rh18) hx hb hr (h_nb (by omega) (by omega)).1 (fun t ht hW => ⟨⟨rh18, I19, rfl, ⟨hI, hF, ⟨(by omega), (by omega)⟩⟩, h_ret g ht⟩, hS.F ht⟩) hS.2.2 dX4_readLine_75
      · have ic11 := (xi_ne c11 rfl (by decide) : v10.toInt ≠ 0)
        refine lv_aload_n hx hb dX4_readLine_39 rfl (lv_at hl 1 rfl) ?_
        refine lv_iconst (v := 3) hx hb dX4_readLine_40 (by decide) ?_
        refine va_calli (va_runV (As := [.int 3]) (rest := []) ⟨hx, hb, hml, hown, hts⟩ (tX4_fail l E X A z I0 L0 a0 t_a0 3 (3) (by decide)) (cwV 1 hts gX4_readLine_X4_fail rfl rfl rfl (by decide +kernel) ⟨Nat.le_of_ble_eq_true rfl, Nat.le_of_ble_eq_true rfl⟩) ⟨h_blind _ _ _ _ _ _ _, h_recv g t_a0 (by decide) so_5 (q := (RX4, TX4, 9)) rfl, h_pre _ hE hk hX hA hI hR g⟩ rfl rfl hl.1 rfl (lv_room (Nat.le_of_ble_eq_true rfl)) dX4_readLine_41 ⟨Nat.le_of_ble_eq_true rfl, Nat.le_of_ble_eq_true rfl⟩) g.2.1 (fun q _ h => h) (fun q h => h) (fun rh20 I21 t H1 locs ht hvm h20 hB hz1 hk1 hS => ?_)
        obtain ⟨hI, fh20, h20⟩ := h20
        replace g := h_after g hB ht hS
        generalize H1 = H at g
        clear hB hk1 hz1 ht hvm hS
        have hF := hF.call fh20 rfl
        have hS := g.2.1
        exact W.zret (v := rh20) hx hb hr (h_nb (by omega) (by omega)).1 (fun t ht hW => ⟨⟨rh20, I21, rfl, ⟨hI, hF, ⟨(by omega), (by omega)⟩⟩, h_ret g ht⟩, hS.F ht⟩) hS.2.2 dX4_readLine_44
    · have ic7 := (xi_eq c7 rfl (by decide) : rh6.toInt = (-1))
      refine lv_aload_n hx hb dX4_readLine_22 rfl (lv_at hl 1 rfl) ?_
      refine lv_iconst (v := 1) hx hb dX4_readLine_23 (by decide) ?_
      refine va_calli (va_runV (As := [.int 1]) (rest := []) ⟨hx, hb, hml, hown, hts⟩ (tX4_fail l E X A z I0 L0 a0 t_a0 1 (1) (by decide)) (cwV 1 hts gX4_readLine_X4_fail rfl rfl rfl (by decide +kernel) ⟨Nat.le_of_ble_eq_true rfl, Nat.le_of_ble_eq_true rfl⟩) ⟨h_blind _ _ _ _ _ _ _, h_recv g t_a0 (by decide) so_5 (q := (RX4, TX4, 9)) rfl, h_pre _ hE hk hX hA hI hR g⟩ rfl rfl hl.1 rfl (lv_room (Nat.le_of_ble_eq_true rfl)) dX4_readLine_24 ⟨Nat.le_of_ble_eq_true rfl, Nat.le_of_ble_eq_true rfl⟩) g.2.1 (fun q _ h => h) (fun q h => h) (fun rh22 I23 t H1 locs ht hvm h22 hB hz1 hk1 hS => ?_)
      obtain ⟨hI, fh22, h22⟩ := h22
      replace g := h_after g hB ht hS
      generalize H1 = H at g
      clear hB hk1 hz1 ht hvm hS
      have hF := hF.call fh22 rfl
      have hS := g.2.1
      exact W.zret (v := rh22) hx hb hr (h_nb (by omega) (by omega)).1 (fun t ht hW => ⟨⟨rh22, I23, rfl, ⟨hI, hF, ⟨(by omega), (by omega)⟩⟩, h_ret g ht⟩, hS.F ht⟩) hS.2.2 dX4_readLine_27
set_option maxHeartbeats 4000000 in
set_option maxRecDepth 100000 in
theorem tX5_reset (l : Launch) (E : tE) (X : tX) (A : Nat → Prop) (z : tZ) (I0 : tI) (L0 : tL) (a0 : Nat) (t_a0 : z.ty a0 = 6) : Met l yX5_reset wsX5_reset ({ frames := 1, cells := 0, slots := 0, locals := 64 }) (va_Pc [.ref a0] (h_P E X A z I0 L0)) (va_Qv (fun (I1 : tI) => h_I z I1 ∧ h_F [(600, 999), (601, 999), (6, 2)] z I0 I1 ∧ True) (fun (I1 : tI) t => h_B E A z I1 L0 t) A) 0 0 A := by
  refine Met.ofW (cc := cX5_reset) (maxL := 1) (ret := none) (by decide) rfl ?_
  intro pr_ ev_ s m args below meth cd_ s₁ B hml hv
  obtain ⟨rfl, hE, hk, hX, hA, hK, hI, hR, hB0⟩ := hv
  have g : h_G h_so h_fk E A z I0 L0 s s.heap s.heap [] := ⟨hK, va_S.rf, hB0⟩
  have hF : h_F [(600, 999), (601, 999), (6, 2)] z I0 I0 := h_F.rf
  have hx := B.exec
  have hb := B.bytes
  have hr := B.returns
  have hts := atoms_spec (ws := wsX5_reset) B.pre
  have hown : s.vm.findClass RX5 = some m.cls := findClass_of_methodNamed B.named
  have hlocks := B.notSynchronized
  have iX5 : ∀ w ∈ u_ws RX5 TX5 3, w ∈ wsX5_reset := by decide +kernel
  have hl := lv_entry ([.ref a0]) (n := 1) (Nat.le_of_ble_eq_true rfl)
  rw [lg_entry_eq]
  generalize (lg_sl ([.ref a0]) ++ List.replicate (1 - (lg_sl ([.ref a0])).length) Slot.unset).toArray = ls at hl ⊢
  have hl : lv_has ls 1 [(0, .ref a0)] := hl
  refine xu_get hx hb hX.1 g.2.1 hown hE.2.1 dX5_reset_0 ?_
  refine lv_iconst (v := 0) hx hb dX5_reset_3 (by decide) ?_
  refine lv_aload_n hx hb dX5_reset_4 rfl (lv_at hl 0 rfl) ?_
  obtain ⟨b1, rb1, tb1⟩ := hR.at a0 0 t_a0 (rfl : h_rs 6 0 = some (600, false)) (by decide)
  refine h_get (v := .ref b1) hx hb hts iX5 hown g t_a0 (by decide) so_6 rfl 0 (by decide) (hts (.fieldLink RX5 9 "CapLeague$Laws" "numbers" "[I") (by decide +kernel)) rfl dX5_reset_5 (by show va_rf (z.R a0 0) = _; rw [rb1]; rfl) ?_
  refine lv_iconst (v := 0) hx hb dX5_reset_8 (by decide) ?_
  refine lv_bipush (v := 8) hx hb dX5_reset_9 (by decide) ?_
  refine h_copyU hx hb (hml.trans hl.1.symm) hown (hts (.methodLink RX5 24 arraycopyName) (by decide +kernel)) (hts (.native arraycopyName) (by decide +kernel)) (hts (.static arraycopyName) (by decide +kernel)) (hts (.initialized "java/lang/System") (by decide +kernel)) g hX tb1 (by decide) so_600 (by decide) (Nat.le_of_ble_eq_true rfl) (Nat.le_of_ble_eq_true rfl) dX5_reset_11 (fun I2 H locs eI2 g => ?_)
  have hI := hI.row eI2 tb1 (fun _ => (rfl : h_bd 600 _ = (-2147483648, 2147483647))) (fun k => h_anyb _)
  have hF := hF.row eI2 tb1 (fun _ => rfl)
  refine lv_aload_n hx hb dX5_reset_14 rfl (lv_at hl 0 rfl) ?_
  obtain ⟨b3, rb3, tb3⟩ := hR.at a0 1 t_a0 (rfl : h_rs 6 1 = some (601, false)) (by decide)
  refine h_get (v := .ref b3) hx hb hts iX5 hown g t_a0 (by decide) so_6 rfl 1 (by decide) (hts (.fieldLink RX5 15 "CapLeague$Laws" "lots" "[I") (by decide +kernel)) rfl dX5_reset_15 (by show va_rf (z.R a0 1) = _; rw [rb3]; rfl) ?_
  refine lv_iconst (v := 0) hx hb dX5_reset_18 (by decide) ?_
  refine lv_iconst (v := 1) hx hb dX5_reset_19 (by decide) ?_
  refine h_ast hx hb g tb3 (by decide) so_601 (by unfold vp_in; decide) dX5_reset_20 (fun I4 H locs eI4 g => ?_)
  have hI := hI.wr eI4 tb3 (rfl : h_bd 601 _ = ((-2147483648), 2147483647)) (by decide) (by decide)
  have hF := hF.wr eI4 tb3 rfl
  refine lv_aload_n hx hb dX5_reset_21 rfl (lv_at hl 0 rfl) ?_
  refine lv_iconst (v := 1) hx hb dX5_reset_22 (by decide) ?_
  refine h_putI (ty := .int) (v := 1) hx hb hts iX5 tyX5 tyX5_ok nmX5 hown g t_a0 (by decide) so_6 rfl 2 (by decide) rfl (hts (.fieldLink RX5 30 "CapLeague$Laws" "lotCount" "I") (by decide +kernel)) rfl rfl (by decide +kernel) rfl rfl dX5_reset_23 (fun I5 H locs eI5 g => ?_)
  have hI := hI.wr eI5 t_a0 (rfl : h_bd 6 2 = (0, 6)) (by decide) (by decide)
  have hF := hF.wr eI5 t_a0 rfl
  have hS := g.2.1
  exact W.vret hx hb hr (fun t ht hW => ⟨⟨I5, rfl, ⟨hI, hF, trivial⟩, h_ret g ht⟩, hS.F ht⟩) hS.2.2 dX5_reset_26
set_option maxHeartbeats 4000000 in
set_option maxRecDepth 100000 in
theorem tX5_copyFrom (l : Launch) (E : tE) (X : tX) (A : Nat → Prop) (z : tZ) (I0 : tI) (L0 : tL) (a0 : Nat) (t_a0 : z.ty a0 = 6) (q0 : Nat) (t_q0 : z.ty q0 = 6) : Met l yX5_copyFrom wsX5_copyFrom ({ frames := 1, cells := 0, slots := 0, locals := 64 }) (va_Pc [.ref a0, .ref q0] (h_P E X A z I0 L0)) (va_Qv (fun (I1 : tI) => h_I z I1 ∧ h_F [(600, 999), (601, 999), (6, 2)] z I0 I1 ∧ True) (fun (I1 : tI) t => h_B E A z I1 L0 t) A) 0 0 A := by
  refine Met.ofW (cc := cX5_copyFrom) (maxL := 2) (ret := none) (by decide) rfl ?_
  intro pr_ ev_ s m args below meth cd_ s₁ B hml hv
  obtain ⟨rfl, hE, hk, hX, hA, hK, hI, hR, hB0⟩ := hv
  have g : h_G h_so h_fk E A z I0 L0 s s.heap s.heap [] := ⟨hK, va_S.rf, hB0⟩
  have hF : h_F [(600, 999), (601, 999), (6, 2)] z I0 I0 := h_F.rf
  have hx := B.exec
  have hb := B.bytes
  have hr := B.returns
  have hts := atoms_spec (ws := wsX5_copyFrom) B.pre
  have hown : s.vm.findClass RX5 = some m.cls := findClass_of_methodNamed B.named
  have hlocks := B.notSynchronized
  have iX5 : ∀ w ∈ u_ws RX5 TX5 3, w ∈ wsX5_copyFrom := by decide +kernel
  have hl := lv_entry ([.ref a0, .ref q0]) (n := 2) (Nat.le_of_ble_eq_true rfl)
  rw [lg_entry_eq]
  generalize (lg_sl ([.ref a0, .ref q0]) ++ List.replicate (2 - (lg_sl ([.ref a0, .ref q0])).length) Slot.unset).toArray = ls at hl ⊢
  have hl : lv_has ls 2 [(0, .ref a0), (1, .ref q0)] := hl
  refine lv_aload_n hx hb dX5_copyFrom_0 rfl (lv_at hl 1 rfl) ?_
  obtain ⟨b1, rb1, tb1⟩ := hR.at q0 0 t_q0 (rfl : h_rs 6 0 = some (600, false)) (by decide)
  refine h_get (v := .ref b1) hx hb hts iX5 hown g t_q0 (by decide) so_6 rfl 0 (by decide) (hts (.fieldLink RX5 9 "CapLeague$Laws" "numbers" "[I") (by decide +kernel)) rfl dX5_copyFrom_1 (by show va_rf (z.R q0 0) = _; rw [rb1]; rfl) ?_
  refine lv_iconst (v := 0) hx hb dX5_copyFrom_4 (by decide) ?_
  refine lv_aload_n hx hb dX5_copyFrom_5 rfl (lv_at hl 0 rfl) ?_
  obtain ⟨b2, rb2, tb2⟩ := hR.at a0 0 t_a0 (rfl : h_rs 6 0 = some (600, false)) (by decide)
  refine h_get (v := .ref b2) hx hb hts iX5 hown g t_a0 (by decide) so_6 rfl 0 (by decide) (hts (.fieldLink RX5 9 "CapLeague$Laws" "numbers" "[I") (by decide +kernel)) rfl dX5_copyFrom_6 (by show va_rf (z.R a0 0) = _; rw [rb2]; rfl) ?_
  refine lv_iconst (v := 0) hx hb dX5_copyFrom_9 (by decide) ?_
  refine lv_bipush (v := 8) hx hb dX5_copyFrom_10 (by decide) ?_
  refine h_copy hx hb (hml.trans hl.1.symm) hown (hts (.methodLink RX5 24 arraycopyName) (by decide +kernel)) (hts (.native arraycopyName) (by decide +kernel)) (hts (.static arraycopyName) (by decide +kernel)) (hts (.initialized "java/lang/System") (by decide +kernel)) g tb1 (by decide) so_600 tb2 (by decide) so_600 (by decide) (by decide) (by decide) (by decide) (by decide) (Nat.le_of_ble_eq_true rfl) (Nat.le_of_ble_eq_true rfl) dX5_copyFrom_12 (fun I3 H locs eI3 g => ?_)
  have hI := hI.row eI3 tb2 (fun _ => (rfl : h_bd 600 _ = (-2147483648, 2147483647))) (fun k => h_anyb _)
  have hF := hF.row eI3 tb2 (fun _ => rfl)
  refine lv_aload_n hx hb dX5_copyFrom_15 rfl (lv_at hl 1 rfl) ?_
  obtain ⟨b4, rb4, tb4⟩ := hR.at q0 1 t_q0 (rfl : h_rs 6 1 = some (601, false)) (by decide)
  refine h_get (v := .ref b4) hx hb hts iX5 hown g t_q0 (by decide) so_6 rfl 1 (by decide) (hts (.fieldLink RX5 15 "CapLeague$Laws" "lots" "[I") (by decide +kernel)) rfl dX5_copyFrom_16 (by show va_rf (z.R q0 1) = _; rw [rb4]; rfl) ?_
  refine lv_iconst (v := 0) hx hb dX5_copyFrom_19 (by decide) ?_
  refine lv_aload_n hx hb dX5_copyFrom_20 rfl (lv_at hl 0 rfl) ?_
  obtain ⟨b5, rb5, tb5⟩ := hR.at a0 1 t_a0 (rfl : h_rs 6 1 = some (601, false)) (by decide)
  refine h_get (v := .ref b5) hx hb hts iX5 hown g t_a0 (by decide) so_6 rfl 1 (by decide) (hts (.fieldLink RX5 15 "CapLeague$Laws" "lots" "[I") (by decide +kernel)) rfl dX5_copyFrom_21 (by show va_rf (z.R a0 1) = _; rw [rb5]; rfl) ?_
  refine lv_iconst (v := 0) hx hb dX5_copyFrom_24 (by decide) ?_
  refine lv_bipush (v := 6) hx hb dX5_copyFrom_25 (by decide) ?_
  refine h_copy hx hb (hml.trans hl.1.symm) hown (hts (.methodLink RX5 24 arraycopyName) (by decide +kernel)) (hts (.native arraycopyName) (by decide +kernel)) (hts (.static arraycopyName) (by decide +kernel)) (hts (.initialized "java/lang/System") (by decide +kernel)) g tb4 (by decide) so_601 tb5 (by decide) so_601 (by decide) (by decide) (by decide) (by decide) (by decide) (Nat.le_of_ble_eq_true rfl) (Nat.le_of_ble_eq_true rfl) dX5_copyFrom_27 (fun I6 H locs eI6 g => ?_)
  have hI := hI.row eI6 tb5 (fun _ => (rfl : h_bd 601 _ = (-2147483648, 2147483647))) (fun k => h_anyb _)
  have hF := hF.row eI6 tb5 (fun _ => rfl)
  refine lv_aload_n hx hb dX5_copyFrom_30 rfl (lv_at hl 0 rfl) ?_
  refine lv_aload_n hx hb dX5_copyFrom_31 rfl (lv_at hl 1 rfl) ?_
  refine h_get (v := .int (I6 q0 2)) hx hb hts iX5 hown g t_q0 (by decide) so_6 rfl 2 (by decide) (hts (.fieldLink RX5 30 "CapLeague$Laws" "lotCount" "I") (by decide +kernel)) rfl dX5_copyFrom_32 rfl ?_
  refine lv_topi (fun v7 ev7 => ?_)
  have jv7 := hI.rd q0 2 t_q0 ev7 (rfl : h_bd 6 2 = (0, 6))
  refine h_putI (ty := .int) (v := v7) hx hb hts iX5 tyX5 tyX5_ok nmX5 hown g t_a0 (by decide) so_6 rfl 2 (by decide) rfl (hts (.fieldLink RX5 30 "CapLeague$Laws" "lotCount" "I") (by decide +kernel)) rfl rfl (by decide +kernel) rfl rfl dX5_copyFrom_35 (fun I8 H locs eI8 g => ?_)
  have hI := hI.wr eI8 t_a0 (rfl : h_bd 6 2 = (0, 6)) (by omega) (by omega)
  have hF := hF.wr eI8 t_a0 rfl
  have hS := g.2.1
  exact W.vret hx hb hr (fun t ht hW => ⟨⟨I8, rfl, ⟨hI, hF, trivial⟩, h_ret g ht⟩, hS.F ht⟩) hS.2.2 dX5_copyFrom_38
set_option maxHeartbeats 4000000 in
set_option maxRecDepth 100000 in
theorem tX4_readText (l : Launch) (E : tE) (X : tX) (A : Nat → Prop) (z : tZ) (I0 : tI) (L0 : tL) (a0 : Nat) (t_a0 : z.ty a0 = 5) : Met l yX4_readText wsX4_readText ({ frames := 8, cells := 0, slots := 0, locals := 512 }) (va_Pc [.ref a0] (h_P E X A z I0 L0)) (va_Qi (fun r (I1 : tI) => h_I z I1 ∧ h_F [(5, 4), (5, 5), (5, 6), (5, 7), (5, 2), (5, 3), (600, 999), (601, 999), (6, 2), (5, 8)] z I0 I1 ∧ ((-1) ≤ r.toInt ∧ r.toInt ≤ 501)) (fun (I1 : tI) t => h_B E A z I1 L0 t) A) 0 0 A := by
  refine Met.ofW (cc := cX4_readText) (maxL := 2) (ret := (some .int)) (by decide) rfl ?_
  intro pr_ ev_ s m args below meth cd_ s₁ B hml hv
  obtain ⟨rfl, hE, hk, hX, hA, hK, hI, hR, hB0⟩ := hv
  have g : h_G h_so h_fk E A z I0 L0 s s.heap s.heap [] := ⟨hK, va_S.rf, hB0⟩
  have hF : h_F [(5, 4), (5, 5), (5, 6), (5, 7), (5, 2), (5, 3), (600, 999), (601, 999), (6, 2), (5, 8)] z I0 I0 := h_F.rf
  have hx := B.exec
  have hb := B.bytes
  have hr := B.returns
  have hts := atoms_spec (ws := wsX4_readText) B.pre
  have hown : s.vm.findClass RX4 = some m.cls := findClass_of_methodNamed B.named
  have hlocks := B.notSynchronized
  have iX4 : ∀ w ∈ u_ws RX4 TX4 9, w ∈ wsX4_readText := by decide +kernel
  have hl := lv_entry ([.ref a0]) (n := 2) (Nat.le_of_ble_eq_true rfl)
  rw [lg_entry_eq]
  generalize (lg_sl ([.ref a0]) ++ List.replicate (2 - (lg_sl ([.ref a0])).length) Slot.unset).toArray = ls at hl ⊢
  have hl : lv_has ls 2 [(0, .ref a0)] := hl
  refine lv_aload_n hx hb dX4_readText_0 rfl (lv_at hl 0 rfl) ?_
  obtain ⟨b1, rb1, tb1⟩ := hR.at a0 1 t_a0 (rfl : h_rs 5 1 = some (6, false)) (by decide)
  refine h_get (v := .ref b1) hx hb hts iX4 hown g t_a0 (by decide) so_5 rfl 1 (by decide) (hts (.fieldLink RX4 12 "CapLeague$LawReader" "read" "LCapLeague$Laws;") (by decide +kernel)) rfl dX4_readText_1 (by show va_rf (z.R a0 1) = _; rw [rb1]; rfl) ?_
  refine va_callv (va_runV (As := []) (rest := []) ⟨hx, hb, hml, hown, hts⟩ (tX5_reset l E X A z I0 L0 b1 tb1) (cwV 0 hts gX4_readText_X5_reset rfl rfl rfl (by decide +kernel) ⟨Nat.le_of_ble_eq_true rfl, Nat.le_of_ble_eq_true rfl⟩) ⟨h_blind _ _ _ _ _ _ _, h_recv g tb1 (by decide) so_6 (q := (RX5, TX5, 3)) rfl, h_pre _ hE hk hX hA hI hR g⟩ rfl rfl hl.1 rfl (lv_room (Nat.le_of_ble_eq_true rfl)) dX4_readText_4 ⟨Nat.le_of_ble_eq_true rfl, Nat.le_of_ble_eq_true rfl⟩) g.2.1 (fun q _ h => h) (fun q h => h) (fun I3 t H1 locs ht hvm h2 hB hz1 hk1 hS => ?_)
  obtain ⟨hI, fh2, h2⟩ := h2
  replace g := h_after g hB ht hS
  generalize H1 = H at g
  clear hB hk1 hz1 ht hvm hS
  have hF := hF.call fh2 rfl
  refine lv_aload_n hx hb dX4_readText_7 rfl (lv_at hl 0 rfl) ?_
  refine lv_iconst (v := 0) hx hb dX4_readText_8 (by decide) ?_
  refine h_putI (ty := .int) (v := 0) hx hb hts iX4 tyX4 tyX4_ok nmX4 hown g t_a0 (by decide) so_5 rfl 2 (by decide) rfl (hts (.fieldLink RX4 29 "CapLeague$LawReader" "faultKind" "I") (by decide +kernel)) rfl rfl (by decide +kernel) rfl rfl dX4_readText_9 (fun I4 H locs eI4 g => ?_)
  have hI := hI.wr eI4 t_a0 (rfl : h_bd 5 2 = ((-2147483648), 2147483647)) (by decide) (by decide)
  have hF := hF.wr eI4 t_a0 rfl
  refine lv_aload_n hx hb dX4_readText_12 rfl (lv_at hl 0 rfl) ?_
  refine lv_iconst (v := (-1)) hx hb dX4_readText_13 (by decide) ?_
  refine h_putI (ty := .int) (v := (-1)) hx hb hts iX4 tyX4 tyX4_ok nmX4 hown g t_a0 (by decide) so_5 rfl 3 (by decide) rfl (hts (.fieldLink RX4 18 "CapLeague$LawReader" "faultPlace" "I") (by decide +kernel)) rfl rfl (by decide +kernel) rfl rfl dX4_readText_14 (fun I5 H locs eI5 g => ?_)
  have hI := hI.wr eI5 t_a0 (rfl : h_bd 5 3 = ((-2147483648), 2147483647)) (by decide) (by decide)
  have hF := hF.wr eI5 t_a0 rfl
  refine lv_aload_n hx hb dX4_readText_17 rfl (lv_at hl 0 rfl) ?_
  refine lv_iconst (v := 0) hx hb dX4_readText_18 (by decide) ?_
  refine h_putI (ty := .int) (v := 0) hx hb hts iX4 tyX4 tyX4_ok nmX4 hown g t_a0 (by decide) so_5 rfl 6 (by decide) rfl (hts (.fieldLink RX4 32 "CapLeague$LawReader" "behind" "I") (by decide +kernel)) rfl rfl (by decide +kernel) rfl rfl dX4_readText_19 (fun I6 H locs eI6 g => ?_)
  have hI := hI.wr eI6 t_a0 (rfl : h_bd 5 6 = ((-2147483648), 2147483647)) (by decide) (by decide)
  have hF := hF.wr eI6 t_a0 rfl
  refine lv_aload_n hx hb dX4_readText_22 rfl (lv_at hl 0 rfl) ?_
  refine lv_iconst (v := 0) hx hb dX4_readText_23 (by decide) ?_
  refine h_putI (ty := .int) (v := 0) hx hb hts iX4 tyX4 tyX4_ok nmX4 hown g t_a0 (by decide) so_5 rfl 8 (by decide) rfl (hts (.fieldLink RX4 35 "CapLeague$LawReader" "toldLines" "I") (by decide +kernel)) rfl rfl (by decide +kernel) rfl rfl dX4_readText_24 (fun I7 H locs eI7 g => ?_)
  have hI := hI.wr eI7 t_a0 (rfl : h_bd 5 8 = ((-2147483648), 2147483647)) (by decide) (by decide)
  have hF := hF.wr eI7 t_a0 rfl
  refine lv_iconst (v := 0) hx hb dX4_readText_27 (by decide) ?_
  refine lv_istore_n (lv' := [(1, .int 0), (0, .ref a0)]) hx hb dX4_readText_28 rfl hl (by decide) rfl (fun ls hl => ?_)
  have loop29_0 : ∀ (n : Nat) (I9 : tI) (H : Heap) (locs : List Loc) (ls : Array Slot) (v8 : Int32), h_G h_so h_fk E A z I9 L0 s s.heap H locs → h_I z I9 → h_F [(5, 4), (5, 5), (5, 6), (5, 7), (5, 2), (5, 3), (600, 999), (601, 999), (6, 2), (5, 8)] z I0 I9 → lv_has ls 2 [(0, .ref a0), (1, .int v8)] → (0 ≤ v8.toInt ∧ v8.toInt ≤ 501) → (501 - v8.toInt) < (n : Int) → W pr_ l ev_ (headSpec wsX4_readText ({ frames := 8, cells := 0, slots := 0, locals := 512 })).room s m ([.ref a0] : List Value).toArray below meth cd_ H locs 0 0 (MQ below (va_Qi (fun r (I1 : tI) => h_I z I1 ∧ h_F [(5, 4), (5, 5), (5, 6), (5, 7), (5, 2), (5, 3), (600, 999), (601, 999), (6, 2), (5, 8)] z I0 I1 ∧ ((-1) ≤ r.toInt ∧ r.toInt ≤ 501)) (fun (I1 : tI) t => h_B E A z I1 L0 t) A) ([.ref a0] : List Value).toArray s 0 0 A) (F0 m 29 ls []) := by
    intro n
    induction n with
    | zero => intro I9 H locs ls v8 g hI hF hl jv8 hn; exact absurd hn (by omega)
    | succ n ih29 =>
      intro I9 H locs ls v8 g hI hF hl jv8 hn
      refine lv_iload_n hx hb dX4_readText_29 rfl (lv_at hl 1 rfl) ?_
      refine lv_sipush (v := 500) hx hb dX4_readText_30 (by decide) ?_
      refine lv_icmp_gt (tgt := 64) hx hb dX4_readText_33 (by decide) (fun c10 => ?_) (fun c10 => ?_)
      · have ic10 := (xi_lt c10 (by decide) rfl : 500 < v8.toInt)
        refine lv_iconst (v := (-1)) hx hb dX4_readText_64 (by decide) ?_
        have hS := g.2.1
        exact W.iret (v := (-1)) hx hb hr (fun t ht hW => ⟨⟨(-1), I9, rfl, ⟨hI, hF, ⟨(by decide), (by decide)⟩⟩, h_ret g ht⟩, hS.F ht⟩) hS.2.2 dX4_readText_65
      · have ic10 := (xi_nlt c10 (by decide) rfl : v8.toInt ≤ 500)
        refine lv_aload_n hx hb dX4_readText_36 rfl (lv_at hl 0 rfl) ?_
        refine va_callv (va_runV (As := []) (rest := []) ⟨hx, hb, hml, hown, hts⟩ (tX4_readToken l E X A z I9 L0 a0 t_a0) (cwV 0 hts gX4_readText_X4_readToken rfl rfl rfl (by decide +kernel) ⟨Nat.le_of_ble_eq_true rfl, Nat.le_of_ble_eq_true rfl⟩) ⟨h_blind _ _ _ _ _ _ _, h_recv g t_a0 (by decide) so_5 (q := (RX4, TX4, 9)) rfl, h_pre _ hE hk hX hA hI hR g⟩ rfl rfl hl.1 rfl (lv_room (Nat.le_of_ble_eq_true rfl)) dX4_readText_37 ⟨Nat.le_of_ble_eq_true rfl, Nat.le_of_ble_eq_true rfl⟩) g.2.1 (fun q _ h => h) (fun q h => h) (fun I12 t H1 locs ht hvm h11 hB hz1 hk1 hS => ?_)
        obtain ⟨hI, fh11, h11⟩ := h11
        replace g := h_after g hB ht hS
        generalize H1 = H at g
        clear hB hk1 hz1 ht hvm hS
        have hF := hF.call fh11 rfl
        refine lv_aload_n hx hb dX4_readText_40 rfl (lv_at hl 0 rfl) ?_
        refine h_get (v := .int (I12 a0 4)) hx hb hts iX4 hown g t_a0 (by decide) so_5 rfl 4 (by decide) (hts (.fieldLink RX4 43 "CapLeague$LawReader" "kind" "I") (by decide +kernel)) rfl dX4_readText_41 rfl ?_
        refine lv_topi (fun v13 ev13 => ?_)
        have jv13 := hI.rd a0 4 t_a0 ev13 (rfl : h_bd 5 4 = ((-2147483648), 2147483647))
        refine lv_if_ne (tgt := 49) hx hb dX4_readText_44 (by decide) (fun c14 => ?_) (fun c14 => ?_)
        · have ic14 := (xi_ne c14 rfl (by decide) : v13.toInt ≠ 0)
          refine lv_aload_n hx hb dX4_readText_49 rfl (lv_at hl 0 rfl) ?_
          refine va_calli (va_runV (As := []) (rest := []) ⟨hx, hb, hml, hown, hts⟩ (tX4_readLine l E X A z I12 L0 a0 t_a0) (cwV 0 hts gX4_readText_X4_readLine rfl rfl rfl (by decide +kernel) ⟨Nat.le_of_ble_eq_true rfl, Nat.le_of_ble_eq_true rfl⟩) ⟨h_blind _ _ _ _ _ _ _, h_recv g t_a0 (by decide) so_5 (q := (RX4, TX4, 9)) rfl, h_pre _ hE hk hX hA hI hR g⟩ rfl rfl hl.1 rfl (lv_room (Nat.le_of_ble_eq_true rfl)) dX4_readText_50 ⟨Nat.le_of_ble_eq_true rfl, Nat.le_of_ble_eq_true rfl⟩) g.2.1 (fun q _ h => h) (fun q h => h) (fun rh15 I16 t H1 locs ht hvm h15 hB hz1 hk1 hS => ?_)
          obtain ⟨hI, fh15, h15⟩ := h15
          replace g := h_after g hB ht hS
          generalize H1 = H at g
          clear hB hk1 hz1 ht hvm hS
          have hF := hF.call fh15 rfl
          refine lv_if_ne (tgt := 58) hx hb dX4_readText_53 (by decide) (fun c17 => ?_) (fun c17 => ?_)
          · have ic17 := (xi_ne c17 rfl (by decide) : rh15.toInt ≠ 0)
            obtain ⟨v18, ev18⟩ : ∃ z : Int32, z = v8 + 1 := ⟨_, rfl⟩
            have jv18 : v18.toInt = v8.toInt + 1 := xi_add ev18 rfl (by decide) (by omega) (by omega)
            refine lv_iinc (v := v18) (lv' := [(1, .int v18), (0, .ref a0)]) hx hb dX4_readText_58 hl (k := 1) rfl (by rw [ev18]; rfl) (by decide) rfl (fun ls hl => ?_)
            refine lv_goto (tgt := 29) hx hb dX4_readText_61 (by decide) ?_
            exact ih29 I16 _ _ _ v18 g hI hF (lv_sub hl [1, 0] rfl) (by omega) (by omega)
          · have ic17 := (xi_eq c17 rfl (by decide) : rh15.toInt = 0)
            refine lv_iconst (v := (-1)) hx hb dX4_readText_56 (by decide) ?_
            have hS := g.2.1
            exact W.iret (v := (-1)) hx hb hr (fun t ht hW => ⟨⟨(-1), I16, rfl, ⟨hI, hF, ⟨(by decide), (by decide)⟩⟩, h_ret g ht⟩, hS.F ht⟩) hS.2.2 dX4_readText_57
        · have ic14 := (xi_eq c14 rfl (by decide) : v13.toInt = 0)
          refine lv_iload_n hx hb dX4_readText_47 rfl (lv_at hl 1 rfl) ?_
          have hS := g.2.1
          exact W.iret (v := v8) hx hb hr (fun t ht hW => ⟨⟨v8, I12, rfl, ⟨hI, hF, ⟨(by omega), (by omega)⟩⟩, h_ret g ht⟩, hS.F ht⟩) hS.2.2 dX4_readText_48
  exact loop29_0 _ I7 _ _ _ (0) g hI hF (lv_sub hl [1, 0] rfl) ⟨by decide, by decide⟩ (show (501 - (0 : Int)) < (((501 - (0 : Int)).toNat + 1 : Nat) : Int) by omega)
