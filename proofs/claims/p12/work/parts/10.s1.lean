set_option maxHeartbeats 4000000 in
set_option maxRecDepth 100000 in
theorem tX11_isClub (l : Launch) (E : tE) (X : tX) (A : Nat → Prop) (z : tZ) (I0 : tI) (L0 : tL) (c : Int32) (c_t : Int) (h_c : c.toInt = c_t) : Met l yX11_isClub wsX11_isClub ({ frames := 1, cells := 0, slots := 0, locals := 64 }) (va_Pc [.int c] (h_P E X A z I0 L0)) (vp_Si (fun r => ((r = 0 ∧ ¬ (0 ≤ c_t ∧ c_t ≤ 7)) ∨ (r = 1 ∧ 0 ≤ c_t ∧ c_t ≤ 7)))) 0 0 (fun _ => False) := by
  refine Met.ofW (cc := cX11_isClub) (maxL := 1) (ret := (some .boolean)) (by decide) rfl ?_
  intro pr_ ev_ s m args below meth cd_ s₁ B hml hv
  obtain ⟨rfl, hE, hk, hX, hA, hK, hI, hR, hB0⟩ := hv
  have g : h_G h_so h_fk E A z I0 L0 s s.heap s.heap [] := ⟨hK, va_S.rf, hB0⟩
  have hx := B.exec
  have hb := B.bytes
  have hr := B.returns
  have hts := atoms_spec (ws := wsX11_isClub) B.pre
  have hown : s.vm.findClass RX11 = some m.cls := findClass_of_methodNamed B.named
  have hlocks := B.notSynchronized
  have hl := lv_entry ([.int c]) (n := 1) (Nat.le_of_ble_eq_true rfl)
  rw [lg_entry_eq]
  generalize (lg_sl ([.int c]) ++ List.replicate (1 - (lg_sl ([.int c])).length) Slot.unset).toArray = ls at hl ⊢
  have hl : lv_has ls 1 [(0, .int c)] := hl
  have b_c : -2147483648 ≤ c_t ∧ c_t ≤ 2147483647 := h_c ▸ ⟨xi_lo c, Int.le_of_lt_add_one (xi_hi c)⟩
  refine lv_iload_n hx hb dX11_isClub_0 rfl (lv_at hl 0 rfl) ?_
  refine lv_if_lt (tgt := 14) hx hb dX11_isClub_1 (by decide) (fun c1 => ?_) (fun c1 => ?_)
  · have ic1 := (xi_lt c1 h_c (by decide) : c_t < 0)
    refine lv_iconst (v := 0) hx hb dX11_isClub_14 (by decide) ?_
    exact W.zret (v := 0) hx hb hr (by decide) (fun t ht hW => ⟨0, rfl, (by exact Or.inl ⟨rfl, by omega⟩), ht⟩) (fun _ h => by cases h) dX11_isClub_15
  · have ic1 := (xi_nlt c1 h_c (by decide) : 0 ≤ c_t)
    refine lv_iload_n hx hb dX11_isClub_4 rfl (lv_at hl 0 rfl) ?_
    refine lv_bipush (v := 8) hx hb dX11_isClub_5 (by decide) ?_
    refine lv_icmp_ge (tgt := 14) hx hb dX11_isClub_7 (by decide) (fun c2 => ?_) (fun c2 => ?_)
    · have ic2 := (xi_le c2 (by decide) h_c : 8 ≤ c_t)
      refine lv_iconst (v := 0) hx hb dX11_isClub_14 (by decide) ?_
      exact W.zret (v := 0) hx hb hr (by decide) (fun t ht hW => ⟨0, rfl, (by exact Or.inl ⟨rfl, by omega⟩), ht⟩) (fun _ h => by cases h) dX11_isClub_15
    · have ic2 := (xi_nle c2 (by decide) h_c : c_t < 8)
      refine lv_iconst (v := 1) hx hb dX11_isClub_10 (by decide) ?_
      refine lv_goto (tgt := 15) hx hb dX11_isClub_11 (by decide) ?_
      exact W.zret (v := 1) hx hb hr (by decide) (fun t ht hW => ⟨1, rfl, (by exact Or.inr (⟨rfl, by omega⟩)), ht⟩) (fun _ h => by cases h) dX11_isClub_15
set_option maxHeartbeats 4000000 in
set_option maxRecDepth 100000 in
theorem tX11_isYear (l : Launch) (E : tE) (X : tX) (A : Nat → Prop) (z : tZ) (I0 : tI) (L0 : tL) (y : Int32) (y_t : Int) (h_y : y.toInt = y_t) : Met l yX11_isYear wsX11_isYear ({ frames := 1, cells := 0, slots := 0, locals := 64 }) (va_Pc [.int y] (h_P E X A z I0 L0)) (vp_Si (fun r => ((r = 0 ∧ ¬ (0 ≤ y_t ∧ y_t ≤ 9)) ∨ (r = 1 ∧ 0 ≤ y_t ∧ y_t ≤ 9)))) 0 0 (fun _ => False) := by
  refine Met.ofW (cc := cX11_isYear) (maxL := 1) (ret := (some .boolean)) (by decide) rfl ?_
  intro pr_ ev_ s m args below meth cd_ s₁ B hml hv
  obtain ⟨rfl, hE, hk, hX, hA, hK, hI, hR, hB0⟩ := hv
  have g : h_G h_so h_fk E A z I0 L0 s s.heap s.heap [] := ⟨hK, va_S.rf, hB0⟩
  have hx := B.exec
  have hb := B.bytes
  have hr := B.returns
  have hts := atoms_spec (ws := wsX11_isYear) B.pre
  have hown : s.vm.findClass RX11 = some m.cls := findClass_of_methodNamed B.named
  have hlocks := B.notSynchronized
  have hl := lv_entry ([.int y]) (n := 1) (Nat.le_of_ble_eq_true rfl)
  rw [lg_entry_eq]
  generalize (lg_sl ([.int y]) ++ List.replicate (1 - (lg_sl ([.int y])).length) Slot.unset).toArray = ls at hl ⊢
  have hl : lv_has ls 1 [(0, .int y)] := hl
  have b_y : -2147483648 ≤ y_t ∧ y_t ≤ 2147483647 := h_y ▸ ⟨xi_lo y, Int.le_of_lt_add_one (xi_hi y)⟩
  refine lv_iload_n hx hb dX11_isYear_0 rfl (lv_at hl 0 rfl) ?_
  refine lv_if_lt (tgt := 14) hx hb dX11_isYear_1 (by decide) (fun c1 => ?_) (fun c1 => ?_)
  · have ic1 := (xi_lt c1 h_y (by decide) : y_t < 0)
    refine lv_iconst (v := 0) hx hb dX11_isYear_14 (by decide) ?_
    exact W.zret (v := 0) hx hb hr (by decide) (fun t ht hW => ⟨0, rfl, (by exact Or.inl ⟨rfl, by omega⟩), ht⟩) (fun _ h => by cases h) dX11_isYear_15
  · have ic1 := (xi_nlt c1 h_y (by decide) : 0 ≤ y_t)
    refine lv_iload_n hx hb dX11_isYear_4 rfl (lv_at hl 0 rfl) ?_
    refine lv_bipush (v := 10) hx hb dX11_isYear_5 (by decide) ?_
    refine lv_icmp_ge (tgt := 14) hx hb dX11_isYear_7 (by decide) (fun c2 => ?_) (fun c2 => ?_)
    · have ic2 := (xi_le c2 (by decide) h_y : 10 ≤ y_t)
      refine lv_iconst (v := 0) hx hb dX11_isYear_14 (by decide) ?_
      exact W.zret (v := 0) hx hb hr (by decide) (fun t ht hW => ⟨0, rfl, (by exact Or.inl ⟨rfl, by omega⟩), ht⟩) (fun _ h => by cases h) dX11_isYear_15
    · have ic2 := (xi_nle c2 (by decide) h_y : y_t < 10)
      refine lv_iconst (v := 1) hx hb dX11_isYear_10 (by decide) ?_
      refine lv_goto (tgt := 15) hx hb dX11_isYear_11 (by decide) ?_
      exact W.zret (v := 1) hx hb hr (by decide) (fun t ht hW => ⟨1, rfl, (by exact Or.inr (⟨rfl, by omega⟩)), ht⟩) (fun _ h => by cases h) dX11_isYear_15
set_option maxHeartbeats 4000000 in
set_option maxRecDepth 100000 in
theorem tX11_isWorth (l : Launch) (E : tE) (X : tX) (A : Nat → Prop) (z : tZ) (I0 : tI) (L0 : tL) (x : Int32) (x_t : Int) (h_x : x.toInt = x_t) : Met l yX11_isWorth wsX11_isWorth ({ frames := 1, cells := 0, slots := 0, locals := 64 }) (va_Pc [.int x] (h_P E X A z I0 L0)) (vp_Si (fun r => ((r = 0 ∧ ¬ (0 ≤ x_t ∧ x_t ≤ 9999)) ∨ (r = 1 ∧ 0 ≤ x_t ∧ x_t ≤ 9999)))) 0 0 (fun _ => False) := by
  refine Met.ofW (cc := cX11_isWorth) (maxL := 1) (ret := (some .boolean)) (by decide) rfl ?_
  intro pr_ ev_ s m args below meth cd_ s₁ B hml hv
  obtain ⟨rfl, hE, hk, hX, hA, hK, hI, hR, hB0⟩ := hv
  have g : h_G h_so h_fk E A z I0 L0 s s.heap s.heap [] := ⟨hK, va_S.rf, hB0⟩
  have hx := B.exec
  have hb := B.bytes
  have hr := B.returns
  have hts := atoms_spec (ws := wsX11_isWorth) B.pre
  have hown : s.vm.findClass RX11 = some m.cls := findClass_of_methodNamed B.named
  have hlocks := B.notSynchronized
  have hl := lv_entry ([.int x]) (n := 1) (Nat.le_of_ble_eq_true rfl)
  rw [lg_entry_eq]
  generalize (lg_sl ([.int x]) ++ List.replicate (1 - (lg_sl ([.int x])).length) Slot.unset).toArray = ls at hl ⊢
  have hl : lv_has ls 1 [(0, .int x)] := hl
  have b_x : -2147483648 ≤ x_t ∧ x_t ≤ 2147483647 := h_x ▸ ⟨xi_lo x, Int.le_of_lt_add_one (xi_hi x)⟩
  refine lv_iload_n hx hb dX11_isWorth_0 rfl (lv_at hl 0 rfl) ?_
  refine lv_if_lt (tgt := 15) hx hb dX11_isWorth_1 (by decide) (fun c1 => ?_) (fun c1 => ?_)
  · have ic1 := (xi_lt c1 h_x (by decide) : x_t < 0)
    refine lv_iconst (v := 0) hx hb dX11_isWorth_15 (by decide) ?_
    exact W.zret (v := 0) hx hb hr (by decide) (fun t ht hW => ⟨0, rfl, (by exact Or.inl ⟨rfl, by omega⟩), ht⟩) (fun _ h => by cases h) dX11_isWorth_16
  · have ic1 := (xi_nlt c1 h_x (by decide) : 0 ≤ x_t)
    refine lv_iload_n hx hb dX11_isWorth_4 rfl (lv_at hl 0 rfl) ?_
    refine lv_sipush (v := 9999) hx hb dX11_isWorth_5 (by decide) ?_
    refine lv_icmp_gt (tgt := 15) hx hb dX11_isWorth_8 (by decide) (fun c2 => ?_) (fun c2 => ?_)
    · have ic2 := (xi_lt c2 (by decide) h_x : 9999 < x_t)
      refine lv_iconst (v := 0) hx hb dX11_isWorth_15 (by decide) ?_
      exact W.zret (v := 0) hx hb hr (by decide) (fun t ht hW => ⟨0, rfl, (by exact Or.inl ⟨rfl, by omega⟩), ht⟩) (fun _ h => by cases h) dX11_isWorth_16
    · have ic2 := (xi_nlt c2 (by decide) h_x : x_t ≤ 9999)
      refine lv_iconst (v := 1) hx hb dX11_isWorth_11 (by decide) ?_
      refine lv_goto (tgt := 16) hx hb dX11_isWorth_12 (by decide) ?_
      exact W.zret (v := 1) hx hb hr (by decide) (fun t ht hW => ⟨1, rfl, (by exact Or.inr (⟨rfl, by omega⟩)), ht⟩) (fun _ h => by cases h) dX11_isWorth_16
set_option maxHeartbeats 4000000 in
set_option maxRecDepth 100000 in
theorem tX11_hundredths (l : Launch) (E : tE) (X : tX) (A : Nat → Prop) (z : tZ) (I0 : tI) (L0 : tL) (x : Int32) (x_t : Int) (h_x : x.toInt = x_t) (y : Int32) (y_t : Int) (h_y : y.toInt = y_t) : Met l yX11_hundredths wsX11_hundredths ({ frames := 1, cells := 0, slots := 0, locals := 64 }) (va_Pc [.int x, .int y] (h_P E X A z I0 L0)) (vp_Si (fun r => True)) 0 0 (fun _ => False) := by
  refine Met.ofW (cc := cX11_hundredths) (maxL := 2) (ret := (some .int)) (by decide) rfl ?_
  intro pr_ ev_ s m args below meth cd_ s₁ B hml hv
  obtain ⟨rfl, hE, hk, hX, hA, hK, hI, hR, hB0⟩ := hv
  have g : h_G h_so h_fk E A z I0 L0 s s.heap s.heap [] := ⟨hK, va_S.rf, hB0⟩
  have hx := B.exec
  have hb := B.bytes
  have hr := B.returns
  have hts := atoms_spec (ws := wsX11_hundredths) B.pre
  have hown : s.vm.findClass RX11 = some m.cls := findClass_of_methodNamed B.named
  have hlocks := B.notSynchronized
  have hl := lv_entry ([.int x, .int y]) (n := 2) (Nat.le_of_ble_eq_true rfl)
  rw [lg_entry_eq]
  generalize (lg_sl ([.int x, .int y]) ++ List.replicate (2 - (lg_sl ([.int x, .int y])).length) Slot.unset).toArray = ls at hl ⊢
  have hl : lv_has ls 2 [(0, .int x), (1, .int y)] := hl
  have b_x : -2147483648 ≤ x_t ∧ x_t ≤ 2147483647 := h_x ▸ ⟨xi_lo x, Int.le_of_lt_add_one (xi_hi x)⟩
  have b_y : -2147483648 ≤ y_t ∧ y_t ≤ 2147483647 := h_y ▸ ⟨xi_lo y, Int.le_of_lt_add_one (xi_hi y)⟩
  refine lv_iload_n hx hb dX11_hundredths_0 rfl (lv_at hl 0 rfl) ?_
  refine lv_i2l hx hb dX11_hundredths_1 rfl ?_
  refine lv_topl (fun v1 ev1 => ?_)
  have jv1 : v1.toInt = x_t := by rw [ev1, xi_64]; exact h_x
  refine lv_iload_n hx hb dX11_hundredths_2 rfl (lv_at hl 1 rfl) ?_
  refine lv_i2l hx hb dX11_hundredths_3 rfl ?_
  refine lv_topl (fun v2 ev2 => ?_)
  have jv2 : v2.toInt = y_t := by rw [ev2, xi_64]; exact h_y
  refine lv_lmul hx hb dX11_hundredths_4 ?_
  refine lv_topl (fun v3 ev3 => ?_)
  refine lv_ldc2 (v := 100) hx hb hown (hts (.constantLong RX11 305 (100)) (by decide +kernel)) dX11_hundredths_5 ?_
  refine lv_ldiv hx hb dX11_hundredths_8 (by decide) ?_
  refine lv_topl (fun v4 ev4 => ?_)
  refine lv_l2i hx hb dX11_hundredths_9 rfl ?_
  refine lv_topi (fun v5 ev5 => ?_)
  have jv5 : -2147483648 ≤ v5.toInt ∧ v5.toInt ≤ 2147483647 := ⟨xi_lo _, Int.le_of_lt_add_one (xi_hi _)⟩
  exact W.iret (v := v5) hx hb hr (fun t ht hW => ⟨v5, rfl, trivial, ht⟩) (fun _ h => by cases h) dX11_hundredths_10
set_option maxHeartbeats 4000000 in
set_option maxRecDepth 100000 in
theorem tX11_areTerms (l : Launch) (E : tE) (X : tX) (A : Nat → Prop) (z : tZ) (I0 : tI) (L0 : tL) (a : Int32) (a_t : Int) (h_a : a.toInt = a_t) (b : Int32) (b_t : Int) (h_b : b.toInt = b_t) (c : Int32) (c_t : Int) (h_c : c.toInt = c_t) (d : Int32) (d_t : Int) (h_d : d.toInt = d_t) (f : Int32) (f_t : Int) (h_f : f.toInt = f_t) (b_f : 0 ≤ f_t ∧ f_t ≤ 1) : Met l yX11_areTerms wsX11_areTerms ({ frames := 1, cells := 0, slots := 0, locals := 64 }) (va_Pc [.int a, .int b, .int c, .int d, .int f] (h_P E X A z I0 L0)) (vp_Si (fun r => (0 ≤ r.toInt ∧ r.toInt ≤ 1))) 0 0 (fun _ => False) := by
  refine Met.ofW (cc := cX11_areTerms) (maxL := 5) (ret := (some .boolean)) (by decide) rfl ?_
  intro pr_ ev_ s m args below meth cd_ s₁ B hml hv
  obtain ⟨rfl, hE, hk, hX, hA, hK, hI, hR, hB0⟩ := hv
  have g : h_G h_so h_fk E A z I0 L0 s s.heap s.heap [] := ⟨hK, va_S.rf, hB0⟩
  have hx := B.exec
  have hb := B.bytes
  have hr := B.returns
  have hts := atoms_spec (ws := wsX11_areTerms) B.pre
  have hown : s.vm.findClass RX11 = some m.cls := findClass_of_methodNamed B.named
  have hlocks := B.notSynchronized
  have hl := lv_entry ([.int a, .int b, .int c, .int d, .int f]) (n := 5) (Nat.le_of_ble_eq_true rfl)
  rw [lg_entry_eq]
  generalize (lg_sl ([.int a, .int b, .int c, .int d, .int f]) ++ List.replicate (5 - (lg_sl ([.int a, .int b, .int c, .int d, .int f])).length) Slot.unset).toArray = ls at hl ⊢
  have hl : lv_has ls 5 [(0, .int a), (1, .int b), (2, .int c), (3, .int d), (4, .int f)] := hl
  have b_a : -2147483648 ≤ a_t ∧ a_t ≤ 2147483647 := h_a ▸ ⟨xi_lo a, Int.le_of_lt_add_one (xi_hi a)⟩
  have b_b : -2147483648 ≤ b_t ∧ b_t ≤ 2147483647 := h_b ▸ ⟨xi_lo b, Int.le_of_lt_add_one (xi_hi b)⟩
  have b_c : -2147483648 ≤ c_t ∧ c_t ≤ 2147483647 := h_c ▸ ⟨xi_lo c, Int.le_of_lt_add_one (xi_hi c)⟩
  have b_d : -2147483648 ≤ d_t ∧ d_t ≤ 2147483647 := h_d ▸ ⟨xi_lo d, Int.le_of_lt_add_one (xi_hi d)⟩
  refine lv_iload_n hx hb dX11_areTerms_0 rfl (lv_at hl 0 rfl) ?_
  refine lv_iconst (v := 1) hx hb dX11_areTerms_1 (by decide) ?_
  refine lv_icmp_lt (tgt := 59) hx hb dX11_areTerms_2 (by decide) (fun c1 => ?_) (fun c1 => ?_)
  · have ic1 := (xi_lt c1 h_a (by decide) : a_t < 1)
    refine lv_iconst (v := 0) hx hb dX11_areTerms_59 (by decide) ?_
    exact W.zret (v := 0) hx hb hr (by decide) (fun t ht hW => ⟨0, rfl, ⟨(by decide), (by decide)⟩, ht⟩) (fun _ h => by cases h) dX11_areTerms_60
  · have ic1 := (xi_nlt c1 h_a (by decide) : 1 ≤ a_t)
    refine lv_iload_n hx hb dX11_areTerms_5 rfl (lv_at hl 0 rfl) ?_
    refine lv_iconst (v := 5) hx hb dX11_areTerms_6 (by decide) ?_
    refine lv_icmp_gt (tgt := 59) hx hb dX11_areTerms_7 (by decide) (fun c2 => ?_) (fun c2 => ?_)
    · have ic2 := (xi_lt c2 (by decide) h_a : 5 < a_t)
      refine lv_iconst (v := 0) hx hb dX11_areTerms_59 (by decide) ?_
      exact W.zret (v := 0) hx hb hr (by decide) (fun t ht hW => ⟨0, rfl, ⟨(by decide), (by decide)⟩, ht⟩) (fun _ h => by cases h) dX11_areTerms_60
    · have ic2 := (xi_nlt c2 (by decide) h_a : a_t ≤ 5)
      refine lv_iload_n hx hb dX11_areTerms_10 rfl (lv_at hl 1 rfl) ?_
      refine lv_if_lt (tgt := 59) hx hb dX11_areTerms_11 (by decide) (fun c3 => ?_) (fun c3 => ?_)
      · have ic3 := (xi_lt c3 h_b (by decide) : b_t < 0)
        refine lv_iconst (v := 0) hx hb dX11_areTerms_59 (by decide) ?_
        exact W.zret (v := 0) hx hb hr (by decide) (fun t ht hW => ⟨0, rfl, ⟨(by decide), (by decide)⟩, ht⟩) (fun _ h => by cases h) dX11_areTerms_60
      · have ic3 := (xi_nlt c3 h_b (by decide) : 0 ≤ b_t)
        refine lv_iload_n hx hb dX11_areTerms_14 rfl (lv_at hl 1 rfl) ?_
        refine lv_sipush (v := 20000) hx hb dX11_areTerms_15 (by decide) ?_
        refine lv_icmp_gt (tgt := 59) hx hb dX11_areTerms_18 (by decide) (fun c4 => ?_) (fun c4 => ?_)
        · have ic4 := (xi_lt c4 (by decide) h_b : 20000 < b_t)
          refine lv_iconst (v := 0) hx hb dX11_areTerms_59 (by decide) ?_
          exact W.zret (v := 0) hx hb hr (by decide) (fun t ht hW => ⟨0, rfl, ⟨(by decide), (by decide)⟩, ht⟩) (fun _ h => by cases h) dX11_areTerms_60
        · have ic4 := (xi_nlt c4 (by decide) h_b : b_t ≤ 20000)
          refine lv_iload_n hx hb dX11_areTerms_21 rfl (lv_at hl 2 rfl) ?_
          refine lv_sipush (v := (-500)) hx hb dX11_areTerms_22 (by decide) ?_
          refine lv_icmp_lt (tgt := 59) hx hb dX11_areTerms_25 (by decide) (fun c5 => ?_) (fun c5 => ?_)
          · have ic5 := (xi_lt c5 h_c (by decide) : c_t < (-500))
            refine lv_iconst (v := 0) hx hb dX11_areTerms_59 (by decide) ?_
            exact W.zret (v := 0) hx hb hr (by decide) (fun t ht hW => ⟨0, rfl, ⟨(by decide), (by decide)⟩, ht⟩) (fun _ h => by cases h) dX11_areTerms_60
          · have ic5 := (xi_nlt c5 h_c (by decide) : (-500) ≤ c_t)
            refine lv_iload_n hx hb dX11_areTerms_28 rfl (lv_at hl 2 rfl) ?_
            refine lv_sipush (v := 500) hx hb dX11_areTerms_29 (by decide) ?_
            refine lv_icmp_gt (tgt := 59) hx hb dX11_areTerms_32 (by decide) (fun c6 => ?_) (fun c6 => ?_)
            · have ic6 := (xi_lt c6 (by decide) h_c : 500 < c_t)
              refine lv_iconst (v := 0) hx hb dX11_areTerms_59 (by decide) ?_
              exact W.zret (v := 0) hx hb hr (by decide) (fun t ht hW => ⟨0, rfl, ⟨(by decide), (by decide)⟩, ht⟩) (fun _ h => by cases h) dX11_areTerms_60
            · have ic6 := (xi_nlt c6 (by decide) h_c : c_t ≤ 500)
              refine lv_iload_n hx hb dX11_areTerms_35 rfl (lv_at hl 3 rfl) ?_
              refine lv_if_lt (tgt := 59) hx hb dX11_areTerms_36 (by decide) (fun c7 => ?_) (fun c7 => ?_)
              · have ic7 := (xi_lt c7 h_d (by decide) : d_t < 0)
                refine lv_iconst (v := 0) hx hb dX11_areTerms_59 (by decide) ?_
                exact W.zret (v := 0) hx hb hr (by decide) (fun t ht hW => ⟨0, rfl, ⟨(by decide), (by decide)⟩, ht⟩) (fun _ h => by cases h) dX11_areTerms_60
              · have ic7 := (xi_nlt c7 h_d (by decide) : 0 ≤ d_t)
                refine lv_iload_n hx hb dX11_areTerms_39 rfl (lv_at hl 3 rfl) ?_
                refine lv_bipush (v := 100) hx hb dX11_areTerms_40 (by decide) ?_
                refine lv_icmp_gt (tgt := 59) hx hb dX11_areTerms_42 (by decide) (fun c8 => ?_) (fun c8 => ?_)
                · have ic8 := (xi_lt c8 (by decide) h_d : 100 < d_t)
                  refine lv_iconst (v := 0) hx hb dX11_areTerms_59 (by decide) ?_
                  exact W.zret (v := 0) hx hb hr (by decide) (fun t ht hW => ⟨0, rfl, ⟨(by decide), (by decide)⟩, ht⟩) (fun _ h => by cases h) dX11_areTerms_60
                · have ic8 := (xi_nlt c8 (by decide) h_d : d_t ≤ 100)
                  refine lv_iload hx hb dX11_areTerms_45 (lv_at hl 4 rfl) ?_
                  refine lv_if_eq (tgt := 55) hx hb dX11_areTerms_47 (by decide) (fun c9 => ?_) (fun c9 => ?_)
                  · have ic9 := (xi_eq c9 h_f (by decide) : f_t = 0)
                    refine lv_iconst (v := 1) hx hb dX11_areTerms_55 (by decide) ?_
                    refine lv_goto (tgt := 60) hx hb dX11_areTerms_56 (by decide) ?_
                    exact W.zret (v := 1) hx hb hr (by decide) (fun t ht hW => ⟨1, rfl, ⟨(by decide), (by decide)⟩, ht⟩) (fun _ h => by cases h) dX11_areTerms_60
                  · have ic9 := (xi_ne c9 h_f (by decide) : f_t ≠ 0)
                    refine lv_iload_n hx hb dX11_areTerms_50 rfl (lv_at hl 0 rfl) ?_
                    refine lv_iconst (v := 2) hx hb dX11_areTerms_51 (by decide) ?_
                    refine lv_icmp_lt (tgt := 59) hx hb dX11_areTerms_52 (by decide) (fun c10 => ?_) (fun c10 => ?_)
                    · have ic10 := (xi_lt c10 h_a (by decide) : a_t < 2)
                      refine lv_iconst (v := 0) hx hb dX11_areTerms_59 (by decide) ?_
                      exact W.zret (v := 0) hx hb hr (by decide) (fun t ht hW => ⟨0, rfl, ⟨(by decide), (by decide)⟩, ht⟩) (fun _ h => by cases h) dX11_areTerms_60
                    · have ic10 := (xi_nlt c10 h_a (by decide) : 2 ≤ a_t)
                      refine lv_iconst (v := 1) hx hb dX11_areTerms_55 (by decide) ?_
                      refine lv_goto (tgt := 60) hx hb dX11_areTerms_56 (by decide) ?_
                      exact W.zret (v := 1) hx hb hr (by decide) (fun t ht hW => ⟨1, rfl, ⟨(by decide), (by decide)⟩, ht⟩) (fun _ h => by cases h) dX11_areTerms_60
set_option maxHeartbeats 4000000 in
set_option maxRecDepth 100000 in
theorem tX8_hasRoom (l : Launch) (E : tE) (X : tX) (A : Nat → Prop) (z : tZ) (I0 : tI) (L0 : tL) (a0 : Nat) (t_a0 : z.ty a0 = 9) : Met l yX8_hasRoom wsX8_hasRoom ({ frames := 1, cells := 0, slots := 0, locals := 64 }) (va_Pc [.ref a0] (h_P E X A z I0 L0)) (vp_Si (fun r => (0 ≤ r.toInt ∧ r.toInt ≤ 1))) 0 0 (fun _ => False) := by
  refine Met.ofW (cc := cX8_hasRoom) (maxL := 1) (ret := (some .boolean)) (by decide) rfl ?_
  intro pr_ ev_ s m args below meth cd_ s₁ B hml hv
  obtain ⟨rfl, hE, hk, hX, hA, hK, hI, hR, hB0⟩ := hv
  have g : h_G h_so h_fk E A z I0 L0 s s.heap s.heap [] := ⟨hK, va_S.rf, hB0⟩
  have hx := B.exec
  have hb := B.bytes
  have hr := B.returns
  have hts := atoms_spec (ws := wsX8_hasRoom) B.pre
  have hown : s.vm.findClass RX8 = some m.cls := findClass_of_methodNamed B.named
  have hlocks := B.notSynchronized
  have iX8 : ∀ w ∈ u_ws RX8 TX8 2, w ∈ wsX8_hasRoom := by decide +kernel
  have hl := lv_entry ([.ref a0]) (n := 1) (Nat.le_of_ble_eq_true rfl)
  rw [lg_entry_eq]
  generalize (lg_sl ([.ref a0]) ++ List.replicate (1 - (lg_sl ([.ref a0])).length) Slot.unset).toArray = ls at hl ⊢
  have hl : lv_has ls 1 [(0, .ref a0)] := hl
  refine lv_aload_n hx hb dX8_hasRoom_0 rfl (lv_at hl 0 rfl) ?_
  refine h_get (v := .int (I0 a0 1)) hx hb hts iX8 hown g t_a0 (by decide) so_9 rfl 1 (by decide) (hts (.fieldLink RX8 15 "CapLeague$Tape" "size" "I") (by decide +kernel)) rfl dX8_hasRoom_1 rfl ?_
  refine lv_topi (fun v1 ev1 => ?_)
  have jv1 := hI.rd a0 1 t_a0 ev1 (rfl : h_bd 9 1 = (0, 500))
  refine lv_bipush (v := 20) hx hb dX8_hasRoom_4 (by decide) ?_
  refine lv_iadd hx hb dX8_hasRoom_6 ?_
  refine lv_topi (fun v2 ev2 => ?_)
  have jv2 : v2.toInt = v1.toInt + 20 := xi_add ev2 rfl (by decide) (by omega) (by omega)
  refine lv_sipush (v := 500) hx hb dX8_hasRoom_7 (by decide) ?_
  refine lv_icmp_gt (tgt := 17) hx hb dX8_hasRoom_10 (by decide) (fun c3 => ?_) (fun c3 => ?_)
  · have ic3 := (xi_lt c3 (by decide) rfl : 500 < v2.toInt)
    refine lv_iconst (v := 0) hx hb dX8_hasRoom_17 (by decide) ?_
    exact W.zret (v := 0) hx hb hr (by decide) (fun t ht hW => ⟨0, rfl, ⟨(by decide), (by decide)⟩, ht⟩) (fun _ h => by cases h) dX8_hasRoom_18
  · have ic3 := (xi_nlt c3 (by decide) rfl : v2.toInt ≤ 500)
    refine lv_iconst (v := 1) hx hb dX8_hasRoom_13 (by decide) ?_
    refine lv_goto (tgt := 18) hx hb dX8_hasRoom_14 (by decide) ?_
    exact W.zret (v := 1) hx hb hr (by decide) (fun t ht hW => ⟨1, rfl, ⟨(by decide), (by decide)⟩, ht⟩) (fun _ h => by cases h) dX8_hasRoom_18
set_option maxHeartbeats 4000000 in
set_option maxRecDepth 100000 in
theorem tX8_append (l : Launch) (E : tE) (X : tX) (A : Nat → Prop) (z : tZ) (I0 : tI) (L0 : tL) (a0 : Nat) (t_a0 : z.ty a0 = 9) (x : Int32) (x_t : Int) (h_x : x.toInt = x_t) : Met l yX8_append wsX8_append ({ frames := 1, cells := 0, slots := 0, locals := 64 }) (va_Pc [.ref a0, .int x] (h_P E X A z I0 L0)) (va_Qv (fun (I1 : tI) => h_I z I1 ∧ h_F [(900, 999), (9, 1)] z I0 I1 ∧ True) (fun (I1 : tI) t => h_B E A z I1 L0 t) A) 0 0 A := by
  refine Met.ofW (cc := cX8_append) (maxL := 3) (ret := none) (by decide) rfl ?_
  intro pr_ ev_ s m args below meth cd_ s₁ B hml hv
  obtain ⟨rfl, hE, hk, hX, hA, hK, hI, hR, hB0⟩ := hv
  have g : h_G h_so h_fk E A z I0 L0 s s.heap s.heap [] := ⟨hK, va_S.rf, hB0⟩
  have hF : h_F [(900, 999), (9, 1)] z I0 I0 := h_F.rf
  have hx := B.exec
  have hb := B.bytes
  have hr := B.returns
  have hts := atoms_spec (ws := wsX8_append) B.pre
  have hown : s.vm.findClass RX8 = some m.cls := findClass_of_methodNamed B.named
  have hlocks := B.notSynchronized
  have iX8 : ∀ w ∈ u_ws RX8 TX8 2, w ∈ wsX8_append := by decide +kernel
  have hl := lv_entry ([.ref a0, .int x]) (n := 3) (Nat.le_of_ble_eq_true rfl)
  rw [lg_entry_eq]
  generalize (lg_sl ([.ref a0, .int x]) ++ List.replicate (3 - (lg_sl ([.ref a0, .int x])).length) Slot.unset).toArray = ls at hl ⊢
  have hl : lv_has ls 3 [(0, .ref a0), (1, .int x)] := hl
  have b_x : -2147483648 ≤ x_t ∧ x_t ≤ 2147483647 := h_x ▸ ⟨xi_lo x, Int.le_of_lt_add_one (xi_hi x)⟩
  refine lv_bipush (v := 24) hx hb dX8_append_0 (by decide) ?_
  refine lv_istore_n (lv' := [(2, .int 24), (0, .ref a0), (1, .int x)]) hx hb dX8_append_2 rfl hl (by decide) rfl (fun ls hl => ?_)
  have loop3_0 : ∀ (n : Nat) (I2 : tI) (H : Heap) (locs : List Loc) (ls : Array Slot) (v1 : Int32), h_G h_so h_fk E A z I2 L0 s s.heap H locs → h_I z I2 → h_F [(900, 999), (9, 1)] z I0 I2 → lv_has ls 3 [(0, .ref a0), (1, .int x), (2, .int v1)] → ((-8) ≤ v1.toInt ∧ v1.toInt ≤ 24) → (v1.toInt + 8) < (n : Int) → W pr_ l ev_ (headSpec wsX8_append ({ frames := 1, cells := 0, slots := 0, locals := 64 })).room s m ([.ref a0, .int x] : List Value).toArray below meth cd_ H locs 0 0 (MQ below (va_Qv (fun (I1 : tI) => h_I z I1 ∧ h_F [(900, 999), (9, 1)] z I0 I1 ∧ True) (fun (I1 : tI) t => h_B E A z I1 L0 t) A) ([.ref a0, .int x] : List Value).toArray s 0 0 A) (F0 m 3 ls []) := by
    intro n
    induction n with
    | zero => intro I2 H locs ls v1 g hI hF hl jv1 hn; exact absurd hn (by omega)
    | succ n ih3 =>
      intro I2 H locs ls v1 g hI hF hl jv1 hn
      refine lv_iload_n hx hb dX8_append_3 rfl (lv_at hl 2 rfl) ?_
      refine lv_if_lt (tgt := 48) hx hb dX8_append_4 (by decide) (fun c3 => ?_) (fun c3 => ?_)
      · have ic3 := (xi_lt c3 rfl (by decide) : v1.toInt < 0)
        have hS := g.2.1
        exact W.vret hx hb hr (fun t ht hW => ⟨⟨I2, rfl, ⟨hI, hF, trivial⟩, h_ret g ht⟩, hS.F ht⟩) hS.2.2 dX8_append_48
      · have ic3 := (xi_nlt c3 rfl (by decide) : 0 ≤ v1.toInt)
        refine lv_aload_n hx hb dX8_append_7 rfl (lv_at hl 0 rfl) ?_
        refine h_get (v := .int (I2 a0 1)) hx hb hts iX8 hown g t_a0 (by decide) so_9 rfl 1 (by decide) (hts (.fieldLink RX8 15 "CapLeague$Tape" "size" "I") (by decide +kernel)) rfl dX8_append_8 rfl ?_
        refine lv_topi (fun v4 ev4 => ?_)
        have jv4 := hI.rd a0 1 t_a0 ev4 (rfl : h_bd 9 1 = (0, 500))
        refine lv_aload_n hx hb dX8_append_11 rfl (lv_at hl 0 rfl) ?_
        obtain ⟨b5, rb5, tb5⟩ := hR.at a0 0 t_a0 (rfl : h_rs 9 0 = some (900, false)) (by decide)
        refine h_get (v := .ref b5) hx hb hts iX8 hown g t_a0 (by decide) so_9 rfl 0 (by decide) (hts (.fieldLink RX8 11 "CapLeague$Tape" "bytes" "[B") (by decide +kernel)) rfl dX8_append_12 (by show va_rf (z.R a0 0) = _; rw [rb5]; rfl) ?_
        refine h_alen (v := 500) hx hb g tb5 (by decide) (Or.inr (Or.inr (Or.inl so_900))) rfl dX8_append_15 ?_
        refine lv_icmp_ge (tgt := 48) hx hb dX8_append_16 (by decide) (fun c6 => ?_) (fun c6 => ?_)
        · have ic6 := (xi_le c6 (by decide) rfl : 500 ≤ v4.toInt)
          have hS := g.2.1
          exact W.vret hx hb hr (fun t ht hW => ⟨⟨I2, rfl, ⟨hI, hF, trivial⟩, h_ret g ht⟩, hS.F ht⟩) hS.2.2 dX8_append_48
        · have ic6 := (xi_nle c6 (by decide) rfl : v4.toInt < 500)
          refine lv_aload_n hx hb dX8_append_19 rfl (lv_at hl 0 rfl) ?_
          refine h_get (v := .ref b5) hx hb hts iX8 hown g t_a0 (by decide) so_9 rfl 0 (by decide) (hts (.fieldLink RX8 11 "CapLeague$Tape" "bytes" "[B") (by decide +kernel)) rfl dX8_append_20 (by show va_rf (z.R a0 0) = _; rw [rb5]; rfl) ?_
          refine lv_aload_n hx hb dX8_append_23 rfl (lv_at hl 0 rfl) ?_
          refine h_get (v := .int v4) hx hb hts iX8 hown g t_a0 (by decide) so_9 rfl 1 (by decide) (hts (.fieldLink RX8 15 "CapLeague$Tape" "size" "I") (by decide +kernel)) rfl dX8_append_24 (congrArg Value.int (ev4.symm)) ?_
          refine lv_iload_n hx hb dX8_append_27 rfl (lv_at hl 1 rfl) ?_
          refine lv_iload_n hx hb dX8_append_28 rfl (lv_at hl 2 rfl) ?_
          refine lv_ishr hx hb dX8_append_29 ?_
          refine lv_topi (fun v7 ev7 => ?_)
          have jv7 : -2147483648 ≤ v7.toInt ∧ v7.toInt ≤ 2147483647 := ⟨xi_lo _, Int.le_of_lt_add_one (xi_hi _)⟩
          refine lv_i2b hx hb dX8_append_30 rfl ?_
          refine lv_topi (fun v8 ev8 => ?_)
          have jv8 : -2147483648 ≤ v8.toInt ∧ v8.toInt ≤ 2147483647 := ⟨xi_lo _, Int.le_of_lt_add_one (xi_hi _)⟩
          refine h_bast hx hb g tb5 (by decide) so_900 (xi_in (by omega) (by omega)) dX8_append_31 (fun I9 H locs eI9 g => ?_)
          have hI := hI.wr eI9 tb5 (rfl : h_bd 900 _ = (-128, 127)) (h_ny _).1 (h_ny _).2
          have hF := hF.wr eI9 tb5 rfl
          refine lv_aload_n hx hb dX8_append_32 rfl (lv_at hl 0 rfl) ?_
          refine lv_dup hx hb dX8_append_33 rfl ?_
          refine h_get (v := .int v4) hx hb hts iX8 hown g t_a0 (by decide) so_9 rfl 1 (by decide) (hts (.fieldLink RX8 15 "CapLeague$Tape" "size" "I") (by decide +kernel)) rfl dX8_append_34 (congrArg Value.int ((h_n1 eI9 t_a0 tb5 (by decide)).trans (ev4.symm))) ?_
          refine lv_iconst (v := 1) hx hb dX8_append_37 (by decide) ?_
          refine lv_iadd hx hb dX8_append_38 ?_
          refine lv_topi (fun v10 ev10 => ?_)
          have jv10 : v10.toInt = v4.toInt + 1 := xi_add ev10 rfl (by decide) (by omega) (by omega)
          refine h_putI (ty := .int) (v := v10) hx hb hts iX8 tyX8 tyX8_ok nmX8 hown g t_a0 (by decide) so_9 rfl 1 (by decide) rfl (hts (.fieldLink RX8 15 "CapLeague$Tape" "size" "I") (by decide +kernel)) rfl rfl (by decide +kernel) rfl rfl dX8_append_39 (fun I11 H locs eI11 g => ?_)
          have hI := hI.wr eI11 t_a0 (rfl : h_bd 9 1 = (0, 500)) (by omega) (by omega)
          have hF := hF.wr eI11 t_a0 rfl
          obtain ⟨v12, ev12⟩ : ∃ z : Int32, z = v1 + (-8) := ⟨_, rfl⟩
          have jv12 : v12.toInt = v1.toInt + (-8) := xi_add ev12 rfl (by decide) (by omega) (by omega)
          refine lv_iinc (v := v12) (lv' := [(2, .int v12), (0, .ref a0), (1, .int x)]) hx hb dX8_append_42 hl (k := 2) rfl (by rw [ev12]; rfl) (by decide) rfl (fun ls hl => ?_)
          refine lv_goto (tgt := 3) hx hb dX8_append_45 (by decide) ?_
          exact ih3 I11 _ _ _ v12 g hI hF (lv_sub hl [1, 2, 0] rfl) (by omega) (by omega)
  exact loop3_0 _ I0 _ _ _ (24) g hI hF (lv_sub hl [1, 2, 0] rfl) ⟨by decide, by decide⟩ (show ((24 : Int) + 8) < ((((24 : Int) + 8).toNat + 1 : Nat) : Int) by omega)
set_option maxHeartbeats 4000000 in
set_option maxRecDepth 100000 in
theorem tX8_at (l : Launch) (E : tE) (X : tX) (A : Nat → Prop) (z : tZ) (I0 : tI) (L0 : tL) (a0 : Nat) (t_a0 : z.ty a0 = 9) (x : Int32) (x_t : Int) (h_x : x.toInt = x_t) : Met l yX8_at wsX8_at ({ frames := 1, cells := 0, slots := 0, locals := 64 }) (va_Pc [.ref a0, .int x] (h_P E X A z I0 L0)) (vp_Si (fun r => ((-1) ≤ r.toInt ∧ r.toInt ≤ 255))) 0 0 (fun _ => False) := by
  refine Met.ofW (cc := cX8_at) (maxL := 2) (ret := (some .int)) (by decide) rfl ?_
  intro pr_ ev_ s m args below meth cd_ s₁ B hml hv
  obtain ⟨rfl, hE, hk, hX, hA, hK, hI, hR, hB0⟩ := hv
  have g : h_G h_so h_fk E A z I0 L0 s s.heap s.heap [] := ⟨hK, va_S.rf, hB0⟩
  have hx := B.exec
  have hb := B.bytes
  have hr := B.returns
  have hts := atoms_spec (ws := wsX8_at) B.pre
  have hown : s.vm.findClass RX8 = some m.cls := findClass_of_methodNamed B.named
  have hlocks := B.notSynchronized
  have iX8 : ∀ w ∈ u_ws RX8 TX8 2, w ∈ wsX8_at := by decide +kernel
  have hl := lv_entry ([.ref a0, .int x]) (n := 2) (Nat.le_of_ble_eq_true rfl)
  rw [lg_entry_eq]
  generalize (lg_sl ([.ref a0, .int x]) ++ List.replicate (2 - (lg_sl ([.ref a0, .int x])).length) Slot.unset).toArray = ls at hl ⊢
  have hl : lv_has ls 2 [(0, .ref a0), (1, .int x)] := hl
  have b_x : -2147483648 ≤ x_t ∧ x_t ≤ 2147483647 := h_x ▸ ⟨xi_lo x, Int.le_of_lt_add_one (xi_hi x)⟩
  refine lv_iload_n hx hb dX8_at_0 rfl (lv_at hl 1 rfl) ?_
  refine lv_if_lt (tgt := 34) hx hb dX8_at_1 (by decide) (fun c1 => ?_) (fun c1 => ?_)
  · have ic1 := (xi_lt c1 h_x (by decide) : x_t < 0)
    refine lv_iconst (v := (-1)) hx hb dX8_at_34 (by decide) ?_
    exact W.iret (v := (-1)) hx hb hr (fun t ht hW => ⟨(-1), rfl, ⟨(by decide), (by decide)⟩, ht⟩) (fun _ h => by cases h) dX8_at_35
  · have ic1 := (xi_nlt c1 h_x (by decide) : 0 ≤ x_t)
    refine lv_iload_n hx hb dX8_at_4 rfl (lv_at hl 1 rfl) ?_
    refine lv_aload_n hx hb dX8_at_5 rfl (lv_at hl 0 rfl) ?_
    refine h_get (v := .int (I0 a0 1)) hx hb hts iX8 hown g t_a0 (by decide) so_9 rfl 1 (by decide) (hts (.fieldLink RX8 15 "CapLeague$Tape" "size" "I") (by decide +kernel)) rfl dX8_at_6 rfl ?_
    refine lv_topi (fun v2 ev2 => ?_)
    have jv2 := hI.rd a0 1 t_a0 ev2 (rfl : h_bd 9 1 = (0, 500))
    refine lv_icmp_ge (tgt := 34) hx hb dX8_at_9 (by decide) (fun c3 => ?_) (fun c3 => ?_)
    · have ic3 := (xi_le c3 rfl h_x : v2.toInt ≤ x_t)
      refine lv_iconst (v := (-1)) hx hb dX8_at_34 (by decide) ?_
      exact W.iret (v := (-1)) hx hb hr (fun t ht hW => ⟨(-1), rfl, ⟨(by decide), (by decide)⟩, ht⟩) (fun _ h => by cases h) dX8_at_35
    · have ic3 := (xi_nle c3 rfl h_x : x_t < v2.toInt)
      refine lv_iload_n hx hb dX8_at_12 rfl (lv_at hl 1 rfl) ?_
      refine lv_aload_n hx hb dX8_at_13 rfl (lv_at hl 0 rfl) ?_
      obtain ⟨b4, rb4, tb4⟩ := hR.at a0 0 t_a0 (rfl : h_rs 9 0 = some (900, false)) (by decide)
      refine h_get (v := .ref b4) hx hb hts iX8 hown g t_a0 (by decide) so_9 rfl 0 (by decide) (hts (.fieldLink RX8 11 "CapLeague$Tape" "bytes" "[B") (by decide +kernel)) rfl dX8_at_14 (by show va_rf (z.R a0 0) = _; rw [rb4]; rfl) ?_
      refine h_alen (v := 500) hx hb g tb4 (by decide) (Or.inr (Or.inr (Or.inl so_900))) rfl dX8_at_17 ?_
      refine lv_icmp_ge (tgt := 34) hx hb dX8_at_18 (by decide) (fun h => absurd (xi_le h (by decide) h_x : 500 ≤ x_t) (by omega)) (fun c5 => ?_)
      have ic5 := (xi_nle c5 (by decide) h_x : x_t < 500)
      refine lv_aload_n hx hb dX8_at_21 rfl (lv_at hl 0 rfl) ?_
      refine h_get (v := .ref b4) hx hb hts iX8 hown g t_a0 (by decide) so_9 rfl 0 (by decide) (hts (.fieldLink RX8 11 "CapLeague$Tape" "bytes" "[B") (by decide +kernel)) rfl dX8_at_22 (by show va_rf (z.R a0 0) = _; rw [rb4]; rfl) ?_
      refine lv_iload_n hx hb dX8_at_25 rfl (lv_at hl 1 rfl) ?_
      refine h_bald hx hb g tb4 (by decide) so_900 (xi_in (by rw [h_x]; omega) (by rw [h_x]; omega)) dX8_at_26 ?_
      refine lv_topi (fun v6 ev6 => ?_)
      have jv6 := hI.rd b4 x.toNatClampNeg tb4 ev6 (rfl : h_bd 900 _ = ((-128), 127))
      refine lv_sipush (v := 255) hx hb dX8_at_27 (by decide) ?_
      refine lv_iand hx hb dX8_at_30 ?_
      refine lv_topi (fun v7 ev7 => ?_)
      have jv7 : 0 ≤ v7.toInt ∧ v7.toInt ≤ 255 := h_andn 255 (by decide) ev7
      refine lv_goto (tgt := 35) hx hb dX8_at_31 (by decide) ?_
      exact W.iret (v := v7) hx hb hr (fun t ht hW => ⟨v7, rfl, ⟨(by omega), (by omega)⟩, ht⟩) (fun _ h => by cases h) dX8_at_35
