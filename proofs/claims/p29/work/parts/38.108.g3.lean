set_option maxHeartbeats 4000000 in
set_option maxRecDepth 100000 in
theorem tX12_seeF (l : Launch) (E : tE) (X : tX) (A : Nat → Prop) (z : tZ) (I0 : tI) (L0 : tL) (a0 : Nat) (t_a0 : z.ty a0 = 13) (x : Int32) (x_t : Int) (h_x : x.toInt = x_t) (b_x : 0 ≤ x_t ∧ x_t ≤ 2147483647) : Met l yX12_see wsX12_see ({ frames := 1, cells := 0, slots := 0, locals := 64 }) (va_Pc [.ref a0, .int x] (h_P E X A z I0 L0)) (vp_Si (fun r => ((-1) ≤ r.toInt ∧ r.toInt ≤ 255) ∧ (r.toInt = q_at (I0 (h_ad z a0 0)) (I0 a0 2).toInt x_t))) 0 0 (fun _ => False) := by
  refine Met.ofW (cc := cX12_see) (maxL := 2) (ret := (some .int)) (by decide) rfl ?_
  intro pr_ ev_ s m args below meth cd_ s₁ B hml hv
  obtain ⟨rfl, hE, hk, hX, hA, hK, hI, hR, hB0⟩ := hv
  have g : h_G h_so h_fk E A z I0 L0 s s.heap s.heap [] := ⟨hK, va_S.rf, hB0⟩
  have hx := B.exec
  have hb := B.bytes
  have hr := B.returns
  have hts := atoms_spec (ws := wsX12_see) B.pre
  have hown : s.vm.findClass RX12 = some m.cls := findClass_of_methodNamed B.named
  have hlocks := B.notSynchronized
  have iX12 : ∀ w ∈ u_ws RX12 TX12 51, w ∈ wsX12_see := by decide +kernel
  have hl := lv_entry ([.ref a0, .int x]) (n := 2) (Nat.le_of_ble_eq_true rfl)
  rw [lg_entry_eq]
  generalize (lg_sl ([.ref a0, .int x]) ++ List.replicate (2 - (lg_sl ([.ref a0, .int x])).length) Slot.unset).toArray = ls at hl ⊢
  have hl : lv_has ls 2 [(0, .ref a0), (1, .int x)] := hl
  obtain ⟨bt, rbt, tbt⟩ := hR.at a0 0 t_a0 (rfl : h_rs 13 0 = some (1300, false)) (by decide)
  have abt : h_ad z a0 0 = bt := h_ad.at rbt
  obtain ⟨n_2, en_2⟩ : ∃ v : Int32, v = I0 a0 2 := ⟨_, rfl⟩
  have qn_2 : (I0 a0 2).toInt = n_2.toInt := congrArg Int32.toInt en_2.symm
  have jn_2 := hI.rd a0 2 t_a0 en_2 (rfl : h_bd 13 2 = (0, 500))
  obtain ⟨gb, egb⟩ : ∃ g : Int → Int, g = q_at (I0 bt) (I0 a0 2).toInt := ⟨_, rfl⟩
  refine lv_iload_n hx hb dX12_see_0 rfl (lv_at hl 1 rfl) ?_
  refine lv_aload_n hx hb dX12_see_1 rfl (lv_at hl 0 rfl) ?_
  refine h_get (v := .int n_2) hx hb hts iX12 hown g t_a0 (by decide) so_13 rfl 2 (by decide) (hts (.fieldLink RX12 122 "CapLeagueModel" "size" "I") (by decide +kernel)) rfl dX12_see_2 (congrArg Value.int (en_2.symm)) ?_
  refine lv_icmp_ge (tgt := 21) hx hb dX12_see_5 (by decide) (fun c1 => ?_) (fun c1 => ?_)
  · have ic1 := (xi_le c1 rfl h_x : n_2.toInt ≤ x_t)
    refine lv_iconst (v := (-1)) hx hb dX12_see_21 (by decide) ?_
    exact W.iret (v := (-1)) hx hb hr (fun t ht hW => ⟨(-1), rfl, ⟨⟨(by decide), (by decide)⟩, (by rw [abt, qn_2]; unfold q_at; rw [if_neg (by omega)]; decide)⟩, ht⟩) (fun _ h => by cases h) dX12_see_22
  · have ic1 := (xi_nle c1 rfl h_x : x_t < n_2.toInt)
    refine lv_aload_n hx hb dX12_see_8 rfl (lv_at hl 0 rfl) ?_
    refine h_get (v := .ref bt) hx hb hts iX12 hown g t_a0 (by decide) so_13 rfl 0 (by decide) (hts (.fieldLink RX12 7 "CapLeagueModel" "tape" "[B") (by decide +kernel)) rfl dX12_see_9 (by show va_rf (z.R a0 0) = _; rw [rbt]; rfl) ?_
    refine lv_iload_n hx hb dX12_see_12 rfl (lv_at hl 1 rfl) ?_
    refine h_bald hx hb g tbt (by decide) so_1300 (xi_in (by rw [h_x]; omega) (by rw [h_x]; omega)) dX12_see_13 ?_
    refine lv_topi (fun v2 ev2 => ?_)
    have jv2 := hI.rd bt x.toNatClampNeg tbt ev2 (rfl : h_bd 1300 _ = ((-128), 127))
    refine lv_sipush (v := 255) hx hb dX12_see_14 (by decide) ?_
    refine lv_iand hx hb dX12_see_17 ?_
    refine lv_topi (fun v3 ev3 => ?_)
    have jv3 : 0 ≤ v3.toInt ∧ v3.toInt ≤ 255 := h_andn 255 (by decide) ev3
    have mv3 := h_and255 ev3
    refine lv_goto (tgt := 22) hx hb dX12_see_18 (by decide) ?_
    exact W.iret (v := v3) hx hb hr (fun t ht hW => ⟨v3, rfl, ⟨⟨(by omega), (by omega)⟩, (by rw [abt, qn_2]; unfold q_at; rw [if_pos (by omega), ← h_keq (i := x) (t := x_t) (k := x_t.toNat) h_x (by omega) (by omega), ← ev2]; exact mv3)⟩, ht⟩) (fun _ h => by cases h) dX12_see_22
set_option maxHeartbeats 4000000 in
set_option maxRecDepth 100000 in
theorem tX12_isSmallF (l : Launch) (E : tE) (X : tX) (A : Nat → Prop) (z : tZ) (I0 : tI) (L0 : tL) (c : Int32) (c_t : Int) (h_c : c.toInt = c_t) : Met l yX12_isSmall wsX12_isSmall ({ frames := 1, cells := 0, slots := 0, locals := 64 }) (va_Pc [.int c] (h_P E X A z I0 L0)) (vp_Si (fun r => ((r = 0 ∧ ¬ (97 ≤ c_t ∧ c_t ≤ 122)) ∨ (r = 1 ∧ 97 ≤ c_t ∧ c_t ≤ 122)))) 0 0 (fun _ => False) := by
  refine Met.ofW (cc := cX12_isSmall) (maxL := 1) (ret := (some .boolean)) (by decide) rfl ?_
  intro pr_ ev_ s m args below meth cd_ s₁ B hml hv
  obtain ⟨rfl, hE, hk, hX, hA, hK, hI, hR, hB0⟩ := hv
  have g : h_G h_so h_fk E A z I0 L0 s s.heap s.heap [] := ⟨hK, va_S.rf, hB0⟩
  have hx := B.exec
  have hb := B.bytes
  have hr := B.returns
  have hts := atoms_spec (ws := wsX12_isSmall) B.pre
  have hown : s.vm.findClass RX12 = some m.cls := findClass_of_methodNamed B.named
  have hlocks := B.notSynchronized
  have hl := lv_entry ([.int c]) (n := 1) (Nat.le_of_ble_eq_true rfl)
  rw [lg_entry_eq]
  generalize (lg_sl ([.int c]) ++ List.replicate (1 - (lg_sl ([.int c])).length) Slot.unset).toArray = ls at hl ⊢
  have hl : lv_has ls 1 [(0, .int c)] := hl
  have b_c : -2147483648 ≤ c_t ∧ c_t ≤ 2147483647 := h_c ▸ ⟨xi_lo c, Int.le_of_lt_add_one (xi_hi c)⟩
  refine lv_iload_n hx hb dX12_isSmall_0 rfl (lv_at hl 0 rfl) ?_
  refine lv_bipush (v := 97) hx hb dX12_isSmall_1 (by decide) ?_
  refine lv_icmp_lt (tgt := 16) hx hb dX12_isSmall_3 (by decide) (fun c1 => ?_) (fun c1 => ?_)
  · have ic1 := (xi_lt c1 h_c (by decide) : c_t < 97)
    refine lv_iconst (v := 0) hx hb dX12_isSmall_16 (by decide) ?_
    exact W.zret (v := 0) hx hb hr (by decide) (fun t ht hW => ⟨0, rfl, (by exact Or.inl ⟨rfl, by omega⟩), ht⟩) (fun _ h => by cases h) dX12_isSmall_17
  · have ic1 := (xi_nlt c1 h_c (by decide) : 97 ≤ c_t)
    refine lv_iload_n hx hb dX12_isSmall_6 rfl (lv_at hl 0 rfl) ?_
    refine lv_bipush (v := 122) hx hb dX12_isSmall_7 (by decide) ?_
    refine lv_icmp_gt (tgt := 16) hx hb dX12_isSmall_9 (by decide) (fun c2 => ?_) (fun c2 => ?_)
    · have ic2 := (xi_lt c2 (by decide) h_c : 122 < c_t)
      refine lv_iconst (v := 0) hx hb dX12_isSmall_16 (by decide) ?_
      exact W.zret (v := 0) hx hb hr (by decide) (fun t ht hW => ⟨0, rfl, (by exact Or.inl ⟨rfl, by omega⟩), ht⟩) (fun _ h => by cases h) dX12_isSmall_17
    · have ic2 := (xi_nlt c2 (by decide) h_c : c_t ≤ 122)
      refine lv_iconst (v := 1) hx hb dX12_isSmall_12 (by decide) ?_
      refine lv_goto (tgt := 17) hx hb dX12_isSmall_13 (by decide) ?_
      exact W.zret (v := 1) hx hb hr (by decide) (fun t ht hW => ⟨1, rfl, (by exact Or.inr (⟨rfl, by omega⟩)), ht⟩) (fun _ h => by cases h) dX12_isSmall_17
set_option maxHeartbeats 4000000 in
set_option maxRecDepth 100000 in
theorem tX12_isDigitF (l : Launch) (E : tE) (X : tX) (A : Nat → Prop) (z : tZ) (I0 : tI) (L0 : tL) (c : Int32) (c_t : Int) (h_c : c.toInt = c_t) : Met l yX12_isDigit wsX12_isDigit ({ frames := 1, cells := 0, slots := 0, locals := 64 }) (va_Pc [.int c] (h_P E X A z I0 L0)) (vp_Si (fun r => ((r = 0 ∧ ¬ (48 ≤ c_t ∧ c_t ≤ 57)) ∨ (r = 1 ∧ 48 ≤ c_t ∧ c_t ≤ 57)))) 0 0 (fun _ => False) := by
  refine Met.ofW (cc := cX12_isDigit) (maxL := 1) (ret := (some .boolean)) (by decide) rfl ?_
  intro pr_ ev_ s m args below meth cd_ s₁ B hml hv
  obtain ⟨rfl, hE, hk, hX, hA, hK, hI, hR, hB0⟩ := hv
  have g : h_G h_so h_fk E A z I0 L0 s s.heap s.heap [] := ⟨hK, va_S.rf, hB0⟩
  have hx := B.exec
  have hb := B.bytes
  have hr := B.returns
  have hts := atoms_spec (ws := wsX12_isDigit) B.pre
  have hown : s.vm.findClass RX12 = some m.cls := findClass_of_methodNamed B.named
  have hlocks := B.notSynchronized
  have hl := lv_entry ([.int c]) (n := 1) (Nat.le_of_ble_eq_true rfl)
  rw [lg_entry_eq]
  generalize (lg_sl ([.int c]) ++ List.replicate (1 - (lg_sl ([.int c])).length) Slot.unset).toArray = ls at hl ⊢
  have hl : lv_has ls 1 [(0, .int c)] := hl
  have b_c : -2147483648 ≤ c_t ∧ c_t ≤ 2147483647 := h_c ▸ ⟨xi_lo c, Int.le_of_lt_add_one (xi_hi c)⟩
  refine lv_iload_n hx hb dX12_isDigit_0 rfl (lv_at hl 0 rfl) ?_
  refine lv_bipush (v := 48) hx hb dX12_isDigit_1 (by decide) ?_
  refine lv_icmp_lt (tgt := 16) hx hb dX12_isDigit_3 (by decide) (fun c1 => ?_) (fun c1 => ?_)
  · have ic1 := (xi_lt c1 h_c (by decide) : c_t < 48)
    refine lv_iconst (v := 0) hx hb dX12_isDigit_16 (by decide) ?_
    exact W.zret (v := 0) hx hb hr (by decide) (fun t ht hW => ⟨0, rfl, (by exact Or.inl ⟨rfl, by omega⟩), ht⟩) (fun _ h => by cases h) dX12_isDigit_17
  · have ic1 := (xi_nlt c1 h_c (by decide) : 48 ≤ c_t)
    refine lv_iload_n hx hb dX12_isDigit_6 rfl (lv_at hl 0 rfl) ?_
    refine lv_bipush (v := 57) hx hb dX12_isDigit_7 (by decide) ?_
    refine lv_icmp_gt (tgt := 16) hx hb dX12_isDigit_9 (by decide) (fun c2 => ?_) (fun c2 => ?_)
    · have ic2 := (xi_lt c2 (by decide) h_c : 57 < c_t)
      refine lv_iconst (v := 0) hx hb dX12_isDigit_16 (by decide) ?_
      exact W.zret (v := 0) hx hb hr (by decide) (fun t ht hW => ⟨0, rfl, (by exact Or.inl ⟨rfl, by omega⟩), ht⟩) (fun _ h => by cases h) dX12_isDigit_17
    · have ic2 := (xi_nlt c2 (by decide) h_c : c_t ≤ 57)
      refine lv_iconst (v := 1) hx hb dX12_isDigit_12 (by decide) ?_
      refine lv_goto (tgt := 17) hx hb dX12_isDigit_13 (by decide) ?_
      exact W.zret (v := 1) hx hb hr (by decide) (fun t ht hW => ⟨1, rfl, (by exact Or.inr (⟨rfl, by omega⟩)), ht⟩) (fun _ h => by cases h) dX12_isDigit_17
set_option maxHeartbeats 4000000 in
set_option maxRecDepth 100000 in
theorem tX12_keyAtF (l : Launch) (E : tE) (X : tX) (A : Nat → Prop) (z : tZ) (I0 : tI) (L0 : tL) (a0 : Nat) (t_a0 : z.ty a0 = 13) (p : Int32) (p_t : Int) (h_p : p.toInt = p_t) (b_p : 0 ≤ p_t ∧ p_t ≤ 500) (w : Int32) (w_t : Int) (h_w : w.toInt = w_t) (b_w : 1 ≤ w_t ∧ w_t ≤ 500) : Met l yX12_keyAt wsX12_keyAt ({ frames := 5, cells := 0, slots := 0, locals := 320 }) (va_Pc [.ref a0, .int p, .int w] (h_P E X A z I0 L0)) (vp_Si (fun r => ((-1) ≤ r.toInt ∧ r.toInt ≤ 60) ∧ (r.toInt = q_fd (q_at (I0 (h_ad z a0 0)) (I0 a0 2).toInt) p_t w_t q_wd 0))) 0 0 (fun _ => False) := by
  refine Met.ofW (cc := cX12_keyAt) (maxL := 8) (ret := (some .int)) (by decide) rfl ?_
  intro pr_ ev_ s m args below meth cd_ s₁ B hml hv
  obtain ⟨rfl, hE, hk, hX, hA, hK, hI, hR, hB0⟩ := hv
  have g : h_G h_so h_fk E A z I0 L0 s s.heap s.heap [] := ⟨hK, va_S.rf, hB0⟩
  have hx := B.exec
  have hb := B.bytes
  have hr := B.returns
  have hts := atoms_spec (ws := wsX12_keyAt) B.pre
  have hown : s.vm.findClass RX12 = some m.cls := findClass_of_methodNamed B.named
  have hlocks := B.notSynchronized
  have hl := lv_entry ([.ref a0, .int p, .int w]) (n := 8) (Nat.le_of_ble_eq_true rfl)
  rw [lg_entry_eq]
  generalize (lg_sl ([.ref a0, .int p, .int w]) ++ List.replicate (8 - (lg_sl ([.ref a0, .int p, .int w])).length) Slot.unset).toArray = ls at hl ⊢
  have hl : lv_has ls 8 [(0, .ref a0), (1, .int p), (2, .int w)] := hl
  obtain ⟨bt, rbt, tbt⟩ := hR.at a0 0 t_a0 (rfl : h_rs 13 0 = some (1300, false)) (by decide)
  have abt : h_ad z a0 0 = bt := h_ad.at rbt
  obtain ⟨n_2, en_2⟩ : ∃ v : Int32, v = I0 a0 2 := ⟨_, rfl⟩
  have qn_2 : (I0 a0 2).toInt = n_2.toInt := congrArg Int32.toInt en_2.symm
  have jn_2 := hI.rd a0 2 t_a0 en_2 (rfl : h_bd 13 2 = (0, 500))
  obtain ⟨gb, egb⟩ : ∃ g : Int → Int, g = q_at (I0 bt) (I0 a0 2).toInt := ⟨_, rfl⟩
  refine lv_iconst (v := 0) hx hb dX12_keyAt_0 (by decide) ?_
  refine lv_istore_n (lv' := [(3, .int 0), (0, .ref a0), (1, .int p), (2, .int w)]) hx hb dX12_keyAt_1 rfl hl (by decide) rfl (fun ls hl => ?_)
  refine lv_iconst (v := 0) hx hb dX12_keyAt_2 (by decide) ?_
  refine lv_istore (lv' := [(4, .int 0), (3, .int 0), (0, .ref a0), (1, .int p), (2, .int w)]) hx hb dX12_keyAt_3 hl (by decide) rfl (fun ls hl => ?_)
  refine lv_iconst (v := 0) hx hb dX12_keyAt_5 (by decide) ?_
  refine lv_istore (lv' := [(5, .int 0), (4, .int 0), (3, .int 0), (0, .ref a0), (1, .int p), (2, .int w)]) hx hb dX12_keyAt_6 hl (by decide) rfl (fun ls hl => ?_)
  have loop8_0 : ∀ (n : Nat) (ls : Array Slot) (v1 v2 v3 : Int32), lv_has ls 8 [(0, .ref a0), (1, .int p), (2, .int w), (3, .int v1), (4, .int v2), (5, .int v3)] → (0 ≤ v1.toInt ∧ v1.toInt ≤ 43) → (0 ≤ v2.toInt ∧ v2.toInt ≤ 43) → (0 ≤ v3.toInt ∧ v3.toInt ≤ 43) → (v1.toInt = q_W v3.toInt ∧ v2.toInt = q_F v3.toInt ∧ v1.toInt ≤ v3.toInt) → (∀ j : Nat, (j : Int) < v1.toInt → q_is gb p_t w_t (q_wd.getD j []) = false) → (43 - v3.toInt) < (n : Int) → W pr_ l ev_ (headSpec wsX12_keyAt ({ frames := 5, cells := 0, slots := 0, locals := 320 })).room s m ([.ref a0, .int p, .int w] : List Value).toArray below meth cd_ s.heap [] 0 0 (MQ below (vp_Si (fun r => ((-1) ≤ r.toInt ∧ r.toInt ≤ 60) ∧ (r.toInt = q_fd (q_at (I0 (h_ad z a0 0)) (I0 a0 2).toInt) p_t w_t q_wd 0))) ([.ref a0, .int p, .int w] : List Value).toArray s 0 0 (fun _ => False)) (F0 m 8 ls []) := by
    intro n
    induction n with
    | zero => intro ls v1 v2 v3 hl jv1 jv2 jv3 hx8_0 hx8_1 hn; exact absurd hn (by omega)
    | succ n ih8 =>
      intro ls v1 v2 v3 hl jv1 jv2 jv3 hx8_0 hx8_1 hn
      refine lv_iload hx hb dX12_keyAt_8 (lv_at hl 5 rfl) ?_
      refine va_ldcS (tx := "cap roster years spare match hurt tax lots ") (q := X.adK 9) hx hb hown (hk.1 9 (RX12, 125, "cap roster years spare match hurt tax lots ") h_str_9) dX12_keyAt_10 ?_
      refine vp_callSi (W.runV (As := []) (rest := [.int v3]) ⟨hx, hb, hml, hown, hts⟩ (tJ0_length_8abf5 l E X A z I0 L0 9 (by decide)) (cwV 0 hts gX12_keyAt_J0_length_8abf5 rfl rfl rfl (by decide +kernel) ⟨Nat.le_of_ble_eq_true rfl, Nat.le_of_ble_eq_true rfl⟩) ⟨h_blind _ _ _ _ _ _ _, vk_recv hX.2.2.2.2.2 (by decide) g.2.1, h_pre _ hE hk hX hA hI hR g⟩ rfl rfl hl.1 rfl (lv_room (Nat.le_of_ble_eq_true rfl)) dX12_keyAt_12 ⟨Nat.le_of_ble_eq_true rfl, Nat.le_of_ble_eq_true rfl⟩) (fun rh4 h4 => ?_)
      have h4p0 := h4
      have jrh4 : -2147483648 ≤ rh4.toInt ∧ rh4.toInt ≤ 2147483647 := ⟨xi_lo _, Int.le_of_lt_add_one (xi_hi _)⟩
      have krh4 := h_slen 9
      have rh4q : rh4.toInt = (h_len10.getD 9 0 : Int) := h4p0
      have l9 := q_len9
      refine lv_icmp_ge (tgt := 119) hx hb dX12_keyAt_15 (by decide) (fun c5 => ?_) (fun c5 => ?_)
      · have ic5 := (xi_le c5 rfl rfl : rh4.toInt ≤ v3.toInt)
        refine lv_iconst (v := (-1)) hx hb dX12_keyAt_119 (by decide) ?_
        exact W.iret (v := (-1)) hx hb hr (fun t ht hW => ⟨(-1), rfl, ⟨⟨(by decide), (by decide)⟩, (by rw [abt, ← egb, q_wnone hx8_1 (by have q8 := q_W43 (k := v3.toInt) (by omega); omega)]; decide)⟩, ht⟩) (fun _ h => by cases h) dX12_keyAt_120
      · have ic5 := (xi_nle c5 rfl rfl : v3.toInt < rh4.toInt)
        refine va_ldcS (tx := "cap roster years spare match hurt tax lots ") (q := X.adK 9) hx hb hown (hk.1 9 (RX12, 125, "cap roster years spare match hurt tax lots ") h_str_9) dX12_keyAt_18 ?_
        refine lv_iload hx hb dX12_keyAt_20 (lv_at hl 5 rfl) ?_
        refine vp_callSi (W.runV (As := [.int v3]) (rest := []) ⟨hx, hb, hml, hown, hts⟩ (tJ0_charAtF l E X A z I0 L0 9 (by decide) v3 (v3.toInt) rfl (by omega) (by omega)) (cwV 1 hts gX12_keyAt_J0_charAt_5068e rfl rfl rfl (by decide +kernel) ⟨Nat.le_of_ble_eq_true rfl, Nat.le_of_ble_eq_true rfl⟩) ⟨h_blind _ _ _ _ _ _ _, vk_recv hX.2.2.2.2.2 (by decide) g.2.1, h_pre _ hE hk hX hA hI hR g⟩ rfl rfl hl.1 rfl (lv_room (Nat.le_of_ble_eq_true rfl)) dX12_keyAt_22 ⟨Nat.le_of_ble_eq_true rfl, Nat.le_of_ble_eq_true rfl⟩) (fun rh6 h6 => ?_)
        obtain ⟨h6, h6p0⟩ := h6
        have crh6 : rh6.toInt = q_b9 v3.toInt := h6p0
        refine lv_bipush (v := 32) hx hb dX12_keyAt_25 (by decide) ?_
        refine lv_icmp_eq (tgt := 33) hx hb dX12_keyAt_27 (by decide) (fun c7 => ?_) (fun c7 => ?_)
        · have ic7 := (xi_eq c7 rfl (by decide) : rh6.toInt = 32)
          refine lv_iload hx hb dX12_keyAt_33 (lv_at hl 5 rfl) ?_
          refine lv_iload hx hb dX12_keyAt_35 (lv_at hl 4 rfl) ?_
          refine lv_isub hx hb dX12_keyAt_37 ?_
          refine lv_topi (fun v8 ev8 => ?_)
          have jv8 : v8.toInt = v3.toInt - v2.toInt := xi_sub ev8 rfl rfl (by omega) (by omega)
          refine lv_iload_n hx hb dX12_keyAt_38 rfl (lv_at hl 2 rfl) ?_
          refine lv_icmp_ne (tgt := 46) hx hb dX12_keyAt_39 (by decide) (fun c9 => ?_) (fun c9 => ?_)
          · have ic9 := (xi_ne c9 rfl h_w : v8.toInt ≠ w_t)
            refine lv_iconst (v := 0) hx hb dX12_keyAt_46 (by decide) ?_
            refine lv_istore (lv' := [(6, .int 0), (0, .ref a0), (1, .int p), (2, .int w), (3, .int v1), (4, .int v2), (5, .int v3)]) hx hb dX12_keyAt_47 hl (by decide) rfl (fun ls hl => ?_)
            refine lv_iconst (v := 0) hx hb dX12_keyAt_49 (by decide) ?_
            refine lv_istore (lv' := [(7, .int 0), (6, .int 0), (0, .ref a0), (1, .int p), (2, .int w), (3, .int v1), (4, .int v2), (5, .int v3)]) hx hb dX12_keyAt_50 hl (by decide) rfl (fun ls hl => ?_)
            have loop52_1 : ∀ (n : Nat) (ls : Array Slot) (v10 v11 : Int32), lv_has ls 8 [(0, .ref a0), (1, .int p), (2, .int w), (3, .int v1), (4, .int v2), (5, .int v3), (6, .int v10), (7, .int v11)] → (0 ≤ v10.toInt ∧ v10.toInt ≤ 1) → (0 ≤ v11.toInt ∧ v11.toInt ≤ 500) → ((v10.toInt = 1 ∧ v3.toInt - v2.toInt = w_t ∧ ∀ j : Nat, (j : Int) < v11.toInt → gb (p_t + j) = q_b9 (v2.toInt + j)) ∨ (v10.toInt = 0 ∧ ¬ (v3.toInt - v2.toInt = w_t ∧ ∀ j : Nat, (j : Int) < w_t → gb (p_t + j) = q_b9 (v2.toInt + j)))) → (v11.toInt ≤ w_t) → (501 - v11.toInt) < (n : Int) → W pr_ l ev_ (headSpec wsX12_keyAt ({ frames := 5, cells := 0, slots := 0, locals := 320 })).room s m ([.ref a0, .int p, .int w] : List Value).toArray below meth cd_ s.heap [] 0 0 (MQ below (vp_Si (fun r => ((-1) ≤ r.toInt ∧ r.toInt ≤ 60) ∧ (r.toInt = q_fd (q_at (I0 (h_ad z a0 0)) (I0 a0 2).toInt) p_t w_t q_wd 0))) ([.ref a0, .int p, .int w] : List Value).toArray s 0 0 (fun _ => False)) (F0 m 52 ls []) := by
              intro n
              induction n with
              | zero => intro ls v10 v11 hl jv10 jv11 hx52_0 hx52_1 hn; exact absurd hn (by omega)
              | succ n ih52 =>
                intro ls v10 v11 hl jv10 jv11 hx52_0 hx52_1 hn
                refine lv_iload hx hb dX12_keyAt_52 (lv_at hl 7 rfl) ?_
                refine lv_iload_n hx hb dX12_keyAt_54 rfl (lv_at hl 2 rfl) ?_
                refine lv_icmp_ge (tgt := 97) hx hb dX12_keyAt_55 (by decide) (fun c12 => ?_) (fun c12 => ?_)
                · have ic12 := (xi_le c12 h_w rfl : w_t ≤ v11.toInt)
                  have h97 : (v10.toInt = 1 ∧ (v3.toInt - v2.toInt = w_t ∧ ∀ j : Nat, (j : Int) < w_t → gb (p_t + j) = q_b9 (v2.toInt + j))) ∨ (v10.toInt = 0 ∧ ¬ (v3.toInt - v2.toInt = w_t ∧ ∀ j : Nat, (j : Int) < w_t → gb (p_t + j) = q_b9 (v2.toInt + j))) := by rcases hx52_0 with q | q; exact Or.inl ⟨q.1, q.2.1, fun j hj => q.2.2 j (by omega)⟩; exact Or.inr q
                  refine lv_iload hx hb dX12_keyAt_97 (lv_at hl 6 rfl) ?_
                  refine lv_if_eq (tgt := 104) hx hb dX12_keyAt_99 (by decide) (fun c13 => ?_) (fun c13 => ?_)
                  · have ic13 := (xi_eq c13 rfl (by decide) : v10.toInt = 0)
                    have hno0 : ¬ (v3.toInt - v2.toInt = w_t ∧ ∀ j : Nat, (j : Int) < w_t → gb (p_t + j) = q_b9 (v2.toInt + j)) := by rcases h97 with q | q; exact absurd q.1 (by omega); exact q.2
                    have hno : ¬ (v3.toInt - q_F v3.toInt = w_t ∧ ∀ j : Nat, (j : Int) < w_t → gb (p_t + j) = q_b9 (q_F v3.toInt + j)) := by rw [← hx8_0.2.1]; exact hno0
                    obtain ⟨v14, ev14⟩ : ∃ z : Int32, z = v1 + 1 := ⟨_, rfl⟩
                    have jv14 : v14.toInt = v1.toInt + 1 := xi_add ev14 rfl (by decide) (by omega) (by omega)
                    refine lv_iinc (v := v14) (lv' := [(3, .int v14), (0, .ref a0), (1, .int p), (2, .int w), (4, .int v2), (5, .int v3), (6, .int v10), (7, .int v11)]) hx hb dX12_keyAt_104 hl (k := 3) rfl (by rw [ev14]; rfl) (by decide) rfl (fun ls hl => ?_)
                    refine lv_iload hx hb dX12_keyAt_107 (lv_at hl 5 rfl) ?_
                    refine lv_iconst (v := 1) hx hb dX12_keyAt_109 (by decide) ?_
                    refine lv_iadd hx hb dX12_keyAt_110 ?_
                    refine lv_topi (fun v15 ev15 => ?_)
                    have jv15 : v15.toInt = v3.toInt + 1 := xi_add ev15 rfl (by decide) (by omega) (by omega)
                    refine lv_istore (lv' := [(4, .int v15), (3, .int v14), (0, .ref a0), (1, .int p), (2, .int w), (5, .int v3), (6, .int v10), (7, .int v11)]) hx hb dX12_keyAt_111 hl (by decide) rfl (fun ls hl => ?_)
                    obtain ⟨v16, ev16⟩ : ∃ z : Int32, z = v3 + 1 := ⟨_, rfl⟩
                    have jv16 : v16.toInt = v3.toInt + 1 := xi_add ev16 rfl (by decide) (by omega) (by omega)
                    refine lv_iinc (v := v16) (lv' := [(5, .int v16), (4, .int v15), (3, .int v14), (0, .ref a0), (1, .int p), (2, .int w), (6, .int v10), (7, .int v11)]) hx hb dX12_keyAt_113 hl (k := 5) rfl (by rw [ev16]; rfl) (by decide) rfl (fun ls hl => ?_)
                    refine lv_goto (tgt := 8) hx hb dX12_keyAt_116 (by decide) ?_
                    exact ih8 _ v14 v15 v16 (lv_sub hl [3, 4, 5, 2, 1, 0] rfl) (by omega) (by omega) (by omega) (by have qs := q_key_s (k := v3.toInt) (k1 := v16.toInt) (by omega) (by omega) (by omega) (by omega); omega) (q_wfalse (k := v3.toInt) hx8_1 (by omega) (by omega) (by omega) (by omega) hno (by omega)) (by omega)
                  · have ic13 := (xi_ne c13 rfl (by decide) : v10.toInt ≠ 0)
                    have qs := q_key_s (k := v3.toInt) (k1 := v3.toInt + 1) (by omega) (by omega) (by omega) rfl
                    refine lv_iload_n hx hb dX12_keyAt_102 rfl (lv_at hl 3 rfl) ?_
                    exact W.iret (v := v1) hx hb hr (fun t ht hW => ⟨v1, rfl, ⟨⟨(by omega), (by omega)⟩, (by rw [abt, ← egb]; exact q_wtrue (k := v3.toInt) hx8_1 (by omega) (by omega) (by omega) hx8_0.1 (by rw [← hx8_0.2.1]; rcases h97 with q | q; exact q.2; exact absurd q.1 (by omega)))⟩, ht⟩) (fun _ h => by cases h) dX12_keyAt_103
                · have ic12 := (xi_nle c12 h_w rfl : v11.toInt < w_t)
                  refine lv_iload hx hb dX12_keyAt_58 (lv_at hl 6 rfl) ?_
                  refine lv_if_eq (tgt := 97) hx hb dX12_keyAt_60 (by decide) (fun c17 => ?_) (fun c17 => ?_)
                  · have ic17 := (xi_eq c17 rfl (by decide) : v10.toInt = 0)
                    have h97 : (v10.toInt = 1 ∧ (v3.toInt - v2.toInt = w_t ∧ ∀ j : Nat, (j : Int) < w_t → gb (p_t + j) = q_b9 (v2.toInt + j))) ∨ (v10.toInt = 0 ∧ ¬ (v3.toInt - v2.toInt = w_t ∧ ∀ j : Nat, (j : Int) < w_t → gb (p_t + j) = q_b9 (v2.toInt + j))) := by rcases hx52_0 with q | q; exact Or.inl ⟨q.1, q.2.1, fun j hj => q.2.2 j (by omega)⟩; exact Or.inr q
                    refine lv_iload hx hb dX12_keyAt_97 (lv_at hl 6 rfl) ?_
                    refine lv_if_eq (tgt := 104) hx hb dX12_keyAt_99 (by decide) (fun c18 => ?_) (fun h => absurd (xi_ne h rfl (by decide) : v10.toInt ≠ 0) (by omega))
                    have ic18 := (xi_eq c18 rfl (by decide) : v10.toInt = 0)
                    have hno0 : ¬ (v3.toInt - v2.toInt = w_t ∧ ∀ j : Nat, (j : Int) < w_t → gb (p_t + j) = q_b9 (v2.toInt + j)) := by rcases h97 with q | q; exact absurd q.1 (by omega); exact q.2
                    have hno : ¬ (v3.toInt - q_F v3.toInt = w_t ∧ ∀ j : Nat, (j : Int) < w_t → gb (p_t + j) = q_b9 (q_F v3.toInt + j)) := by rw [← hx8_0.2.1]; exact hno0
                    obtain ⟨v19, ev19⟩ : ∃ z : Int32, z = v1 + 1 := ⟨_, rfl⟩
                    have jv19 : v19.toInt = v1.toInt + 1 := xi_add ev19 rfl (by decide) (by omega) (by omega)
                    refine lv_iinc (v := v19) (lv' := [(3, .int v19), (0, .ref a0), (1, .int p), (2, .int w), (4, .int v2), (5, .int v3), (6, .int v10), (7, .int v11)]) hx hb dX12_keyAt_104 hl (k := 3) rfl (by rw [ev19]; rfl) (by decide) rfl (fun ls hl => ?_)
                    refine lv_iload hx hb dX12_keyAt_107 (lv_at hl 5 rfl) ?_
                    refine lv_iconst (v := 1) hx hb dX12_keyAt_109 (by decide) ?_
                    refine lv_iadd hx hb dX12_keyAt_110 ?_
                    refine lv_topi (fun v20 ev20 => ?_)
                    have jv20 : v20.toInt = v3.toInt + 1 := xi_add ev20 rfl (by decide) (by omega) (by omega)
                    refine lv_istore (lv' := [(4, .int v20), (3, .int v19), (0, .ref a0), (1, .int p), (2, .int w), (5, .int v3), (6, .int v10), (7, .int v11)]) hx hb dX12_keyAt_111 hl (by decide) rfl (fun ls hl => ?_)
                    obtain ⟨v21, ev21⟩ : ∃ z : Int32, z = v3 + 1 := ⟨_, rfl⟩
                    have jv21 : v21.toInt = v3.toInt + 1 := xi_add ev21 rfl (by decide) (by omega) (by omega)
                    refine lv_iinc (v := v21) (lv' := [(5, .int v21), (4, .int v20), (3, .int v19), (0, .ref a0), (1, .int p), (2, .int w), (6, .int v10), (7, .int v11)]) hx hb dX12_keyAt_113 hl (k := 5) rfl (by rw [ev21]; rfl) (by decide) rfl (fun ls hl => ?_)
                    refine lv_goto (tgt := 8) hx hb dX12_keyAt_116 (by decide) ?_
                    exact ih8 _ v19 v20 v21 (lv_sub hl [3, 4, 5, 2, 1, 0] rfl) (by omega) (by omega) (by omega) (by have qs := q_key_s (k := v3.toInt) (k1 := v21.toInt) (by omega) (by omega) (by omega) (by omega); omega) (q_wfalse (k := v3.toInt) hx8_1 (by omega) (by omega) (by omega) (by omega) hno (by omega)) (by omega)
                  · have ic17 := (xi_ne c17 rfl (by decide) : v10.toInt ≠ 0)
                    have k52 : v10.toInt = 1 ∧ v3.toInt - v2.toInt = w_t ∧ ∀ j : Nat, (j : Int) < v11.toInt → gb (p_t + j) = q_b9 (v2.toInt + j) := by rcases hx52_0 with q | q; exact q; exact absurd q.1 (by omega)
                    refine va_ldcS (tx := "cap roster years spare match hurt tax lots ") (q := X.adK 9) hx hb hown (hk.1 9 (RX12, 125, "cap roster years spare match hurt tax lots ") h_str_9) dX12_keyAt_63 ?_
                    refine lv_iload hx hb dX12_keyAt_65 (lv_at hl 4 rfl) ?_
                    refine lv_iload hx hb dX12_keyAt_67 (lv_at hl 7 rfl) ?_
                    refine lv_iadd hx hb dX12_keyAt_69 ?_
                    refine lv_topi (fun v22 ev22 => ?_)
                    have jv22 : v22.toInt = v2.toInt + v11.toInt := xi_add ev22 rfl rfl (by omega) (by omega)
                    refine vp_callSi (W.runV (As := [.int v22]) (rest := []) ⟨hx, hb, hml, hown, hts⟩ (tJ0_charAtF l E X A z I0 L0 9 (by decide) v22 (v22.toInt) rfl (by omega) (by omega)) (cwV 1 hts gX12_keyAt_J0_charAt_5068e rfl rfl rfl (by decide +kernel) ⟨Nat.le_of_ble_eq_true rfl, Nat.le_of_ble_eq_true rfl⟩) ⟨h_blind _ _ _ _ _ _ _, vk_recv hX.2.2.2.2.2 (by decide) g.2.1, h_pre _ hE hk hX hA hI hR g⟩ rfl rfl hl.1 rfl (lv_room (Nat.le_of_ble_eq_true rfl)) dX12_keyAt_70 ⟨Nat.le_of_ble_eq_true rfl, Nat.le_of_ble_eq_true rfl⟩) (fun rh23 h23 => ?_)
                    obtain ⟨h23, h23p0⟩ := h23
                    have crh23 : rh23.toInt = q_b9 v22.toInt := h23p0
                    refine lv_aload_n hx hb dX12_keyAt_73 rfl (lv_at hl 0 rfl) ?_
                    refine lv_iload_n hx hb dX12_keyAt_74 rfl (lv_at hl 1 rfl) ?_
                    refine lv_iload hx hb dX12_keyAt_75 (lv_at hl 7 rfl) ?_
                    refine lv_iadd hx hb dX12_keyAt_77 ?_
                    refine lv_topi (fun v24 ev24 => ?_)
                    have jv24 : v24.toInt = p_t + v11.toInt := xi_add ev24 h_p rfl (by omega) (by omega)
                    refine vp_callSi (W.runV (As := [.int v24]) (rest := [.int rh23]) ⟨hx, hb, hml, hown, hts⟩ (tX12_seeF l E X A z I0 L0 a0 t_a0 v24 (v24.toInt) rfl (by omega)) (cwV 1 hts gX12_keyAt_X12_see rfl rfl rfl (by decide +kernel) ⟨Nat.le_of_ble_eq_true rfl, Nat.le_of_ble_eq_true rfl⟩) ⟨h_blind _ _ _ _ _ _ _, h_recv g t_a0 (by decide) so_13 (q := (RX12, TX12, 51)) rfl, h_pre _ hE hk hX hA hI hR g⟩ rfl rfl hl.1 rfl (lv_room (Nat.le_of_ble_eq_true rfl)) dX12_keyAt_78 ⟨Nat.le_of_ble_eq_true rfl, Nat.le_of_ble_eq_true rfl⟩) (fun rh25 h25 => ?_)
                    obtain ⟨h25, h25p0⟩ := h25
                    rw [abt, ← egb] at h25p0
                    refine lv_icmp_ne (tgt := 88) hx hb dX12_keyAt_81 (by decide) (fun c26 => ?_) (fun c26 => ?_)
                    · have ic26 := (xi_ne c26 rfl rfl : rh23.toInt ≠ rh25.toInt)
                      refine lv_iconst (v := 0) hx hb dX12_keyAt_88 (by decide) ?_
                      refine lv_istore (lv' := [(6, .int 0), (0, .ref a0), (1, .int p), (2, .int w), (3, .int v1), (4, .int v2), (5, .int v3), (7, .int v11)]) hx hb dX12_keyAt_89 hl (by decide) rfl (fun ls hl => ?_)
                      obtain ⟨v27, ev27⟩ : ∃ z : Int32, z = v11 + 1 := ⟨_, rfl⟩
                      have jv27 : v27.toInt = v11.toInt + 1 := xi_add ev27 rfl (by decide) (by omega) (by omega)
                      refine lv_iinc (v := v27) (lv' := [(7, .int v27), (6, .int 0), (0, .ref a0), (1, .int p), (2, .int w), (3, .int v1), (4, .int v2), (5, .int v3)]) hx hb dX12_keyAt_91 hl (k := 7) rfl (by rw [ev27]; rfl) (by decide) rfl (fun ls hl => ?_)
                      refine lv_goto (tgt := 52) hx hb dX12_keyAt_94 (by decide) ?_
                      have kc28 : (0 : Int32).toInt = 0 := by decide
                      exact ih52 _ (0) v27 (lv_sub hl [2, 3, 4, 5, 6, 7, 1, 0] rfl) ⟨by decide, by decide⟩ (by omega) (Or.inr ⟨by decide, fun h9 => q_wno (B := fun j => q_b9 (v2.toInt + j)) (i := v11.toInt) (a := v24.toInt) (by omega) (by omega) (by omega) (by rw [show v2.toInt + ((v11.toInt.toNat : Nat) : Int) = v22.toInt by omega]; omega) h9.2⟩) (by omega) (by omega)
                    · have ic26 := (xi_eq c26 rfl rfl : rh23.toInt = rh25.toInt)
                      refine lv_iconst (v := 1) hx hb dX12_keyAt_84 (by decide) ?_
                      refine lv_goto (tgt := 89) hx hb dX12_keyAt_85 (by decide) ?_
                      refine lv_istore (lv' := [(6, .int 1), (0, .ref a0), (1, .int p), (2, .int w), (3, .int v1), (4, .int v2), (5, .int v3), (7, .int v11)]) hx hb dX12_keyAt_89 hl (by decide) rfl (fun ls hl => ?_)
                      obtain ⟨v29, ev29⟩ : ∃ z : Int32, z = v11 + 1 := ⟨_, rfl⟩
                      have jv29 : v29.toInt = v11.toInt + 1 := xi_add ev29 rfl (by decide) (by omega) (by omega)
                      refine lv_iinc (v := v29) (lv' := [(7, .int v29), (6, .int 1), (0, .ref a0), (1, .int p), (2, .int w), (3, .int v1), (4, .int v2), (5, .int v3)]) hx hb dX12_keyAt_91 hl (k := 7) rfl (by rw [ev29]; rfl) (by decide) rfl (fun ls hl => ?_)
                      refine lv_goto (tgt := 52) hx hb dX12_keyAt_94 (by decide) ?_
                      have kc30 : (1 : Int32).toInt = 1 := by decide
                      exact ih52 _ (1) v29 (lv_sub hl [2, 3, 4, 5, 6, 7, 1, 0] rfl) ⟨by decide, by decide⟩ (by omega) (Or.inl ⟨by decide, by omega, q_wmore (B := fun j => q_b9 (v2.toInt + j)) k52.2.2 (by omega) (show v24.toInt = p_t + v11.toInt by omega) (by rw [show v2.toInt + ((v11.toInt.toNat : Nat) : Int) = v22.toInt by omega]; omega) (by omega)⟩) (by omega) (by omega)
            have kc31 : (0 : Int32).toInt = 0 := by decide
            have kc32 : (0 : Int32).toInt = 0 := by decide
            exact loop52_1 _ _ (0) (0) (lv_sub hl [2, 3, 4, 5, 6, 7, 1, 0] rfl) ⟨by decide, by decide⟩ ⟨by decide, by decide⟩ (Or.inr ⟨by decide, fun h9 => absurd h9.1 (by omega)⟩) (by omega) (show (501 - (0 : Int)) < (((501 - (0 : Int)).toNat + 1 : Nat) : Int) by omega)
          · have ic9 := (xi_eq c9 rfl h_w : v8.toInt = w_t)
            refine lv_iconst (v := 1) hx hb dX12_keyAt_42 (by decide) ?_
            refine lv_goto (tgt := 47) hx hb dX12_keyAt_43 (by decide) ?_
            refine lv_istore (lv' := [(6, .int 1), (0, .ref a0), (1, .int p), (2, .int w), (3, .int v1), (4, .int v2), (5, .int v3)]) hx hb dX12_keyAt_47 hl (by decide) rfl (fun ls hl => ?_)
            refine lv_iconst (v := 0) hx hb dX12_keyAt_49 (by decide) ?_
            refine lv_istore (lv' := [(7, .int 0), (6, .int 1), (0, .ref a0), (1, .int p), (2, .int w), (3, .int v1), (4, .int v2), (5, .int v3)]) hx hb dX12_keyAt_50 hl (by decide) rfl (fun ls hl => ?_)
            have loop52_2 : ∀ (n : Nat) (ls : Array Slot) (v33 v34 : Int32), lv_has ls 8 [(0, .ref a0), (1, .int p), (2, .int w), (3, .int v1), (4, .int v2), (5, .int v3), (6, .int v33), (7, .int v34)] → (0 ≤ v33.toInt ∧ v33.toInt ≤ 1) → (0 ≤ v34.toInt ∧ v34.toInt ≤ 500) → ((v33.toInt = 1 ∧ v3.toInt - v2.toInt = w_t ∧ ∀ j : Nat, (j : Int) < v34.toInt → gb (p_t + j) = q_b9 (v2.toInt + j)) ∨ (v33.toInt = 0 ∧ ¬ (v3.toInt - v2.toInt = w_t ∧ ∀ j : Nat, (j : Int) < w_t → gb (p_t + j) = q_b9 (v2.toInt + j)))) → (v34.toInt ≤ w_t) → (501 - v34.toInt) < (n : Int) → W pr_ l ev_ (headSpec wsX12_keyAt ({ frames := 5, cells := 0, slots := 0, locals := 320 })).room s m ([.ref a0, .int p, .int w] : List Value).toArray below meth cd_ s.heap [] 0 0 (MQ below (vp_Si (fun r => ((-1) ≤ r.toInt ∧ r.toInt ≤ 60) ∧ (r.toInt = q_fd (q_at (I0 (h_ad z a0 0)) (I0 a0 2).toInt) p_t w_t q_wd 0))) ([.ref a0, .int p, .int w] : List Value).toArray s 0 0 (fun _ => False)) (F0 m 52 ls []) := by
              intro n
              induction n with
              | zero => intro ls v33 v34 hl jv33 jv34 hx52_0 hx52_1 hn; exact absurd hn (by omega)
              | succ n ih52 =>
                intro ls v33 v34 hl jv33 jv34 hx52_0 hx52_1 hn
                refine lv_iload hx hb dX12_keyAt_52 (lv_at hl 7 rfl) ?_
                refine lv_iload_n hx hb dX12_keyAt_54 rfl (lv_at hl 2 rfl) ?_
                refine lv_icmp_ge (tgt := 97) hx hb dX12_keyAt_55 (by decide) (fun c35 => ?_) (fun c35 => ?_)
                · have ic35 := (xi_le c35 h_w rfl : w_t ≤ v34.toInt)
                  have h97 : (v33.toInt = 1 ∧ (v3.toInt - v2.toInt = w_t ∧ ∀ j : Nat, (j : Int) < w_t → gb (p_t + j) = q_b9 (v2.toInt + j))) ∨ (v33.toInt = 0 ∧ ¬ (v3.toInt - v2.toInt = w_t ∧ ∀ j : Nat, (j : Int) < w_t → gb (p_t + j) = q_b9 (v2.toInt + j))) := by rcases hx52_0 with q | q; exact Or.inl ⟨q.1, q.2.1, fun j hj => q.2.2 j (by omega)⟩; exact Or.inr q
                  refine lv_iload hx hb dX12_keyAt_97 (lv_at hl 6 rfl) ?_
                  refine lv_if_eq (tgt := 104) hx hb dX12_keyAt_99 (by decide) (fun c36 => ?_) (fun c36 => ?_)
                  · have ic36 := (xi_eq c36 rfl (by decide) : v33.toInt = 0)
                    have hno0 : ¬ (v3.toInt - v2.toInt = w_t ∧ ∀ j : Nat, (j : Int) < w_t → gb (p_t + j) = q_b9 (v2.toInt + j)) := by rcases h97 with q | q; exact absurd q.1 (by omega); exact q.2
                    have hno : ¬ (v3.toInt - q_F v3.toInt = w_t ∧ ∀ j : Nat, (j : Int) < w_t → gb (p_t + j) = q_b9 (q_F v3.toInt + j)) := by rw [← hx8_0.2.1]; exact hno0
                    obtain ⟨v37, ev37⟩ : ∃ z : Int32, z = v1 + 1 := ⟨_, rfl⟩
                    have jv37 : v37.toInt = v1.toInt + 1 := xi_add ev37 rfl (by decide) (by omega) (by omega)
                    refine lv_iinc (v := v37) (lv' := [(3, .int v37), (0, .ref a0), (1, .int p), (2, .int w), (4, .int v2), (5, .int v3), (6, .int v33), (7, .int v34)]) hx hb dX12_keyAt_104 hl (k := 3) rfl (by rw [ev37]; rfl) (by decide) rfl (fun ls hl => ?_)
                    refine lv_iload hx hb dX12_keyAt_107 (lv_at hl 5 rfl) ?_
                    refine lv_iconst (v := 1) hx hb dX12_keyAt_109 (by decide) ?_
                    refine lv_iadd hx hb dX12_keyAt_110 ?_
                    refine lv_topi (fun v38 ev38 => ?_)
                    have jv38 : v38.toInt = v3.toInt + 1 := xi_add ev38 rfl (by decide) (by omega) (by omega)
                    refine lv_istore (lv' := [(4, .int v38), (3, .int v37), (0, .ref a0), (1, .int p), (2, .int w), (5, .int v3), (6, .int v33), (7, .int v34)]) hx hb dX12_keyAt_111 hl (by decide) rfl (fun ls hl => ?_)
                    obtain ⟨v39, ev39⟩ : ∃ z : Int32, z = v3 + 1 := ⟨_, rfl⟩
                    have jv39 : v39.toInt = v3.toInt + 1 := xi_add ev39 rfl (by decide) (by omega) (by omega)
                    refine lv_iinc (v := v39) (lv' := [(5, .int v39), (4, .int v38), (3, .int v37), (0, .ref a0), (1, .int p), (2, .int w), (6, .int v33), (7, .int v34)]) hx hb dX12_keyAt_113 hl (k := 5) rfl (by rw [ev39]; rfl) (by decide) rfl (fun ls hl => ?_)
                    refine lv_goto (tgt := 8) hx hb dX12_keyAt_116 (by decide) ?_
                    exact ih8 _ v37 v38 v39 (lv_sub hl [3, 4, 5, 2, 1, 0] rfl) (by omega) (by omega) (by omega) (by have qs := q_key_s (k := v3.toInt) (k1 := v39.toInt) (by omega) (by omega) (by omega) (by omega); omega) (q_wfalse (k := v3.toInt) hx8_1 (by omega) (by omega) (by omega) (by omega) hno (by omega)) (by omega)
                  · have ic36 := (xi_ne c36 rfl (by decide) : v33.toInt ≠ 0)
                    have qs := q_key_s (k := v3.toInt) (k1 := v3.toInt + 1) (by omega) (by omega) (by omega) rfl
                    refine lv_iload_n hx hb dX12_keyAt_102 rfl (lv_at hl 3 rfl) ?_
                    exact W.iret (v := v1) hx hb hr (fun t ht hW => ⟨v1, rfl, ⟨⟨(by omega), (by omega)⟩, (by rw [abt, ← egb]; exact q_wtrue (k := v3.toInt) hx8_1 (by omega) (by omega) (by omega) hx8_0.1 (by rw [← hx8_0.2.1]; rcases h97 with q | q; exact q.2; exact absurd q.1 (by omega)))⟩, ht⟩) (fun _ h => by cases h) dX12_keyAt_103
                · have ic35 := (xi_nle c35 h_w rfl : v34.toInt < w_t)
                  refine lv_iload hx hb dX12_keyAt_58 (lv_at hl 6 rfl) ?_
                  refine lv_if_eq (tgt := 97) hx hb dX12_keyAt_60 (by decide) (fun c40 => ?_) (fun c40 => ?_)
                  · have ic40 := (xi_eq c40 rfl (by decide) : v33.toInt = 0)
                    have h97 : (v33.toInt = 1 ∧ (v3.toInt - v2.toInt = w_t ∧ ∀ j : Nat, (j : Int) < w_t → gb (p_t + j) = q_b9 (v2.toInt + j))) ∨ (v33.toInt = 0 ∧ ¬ (v3.toInt - v2.toInt = w_t ∧ ∀ j : Nat, (j : Int) < w_t → gb (p_t + j) = q_b9 (v2.toInt + j))) := by rcases hx52_0 with q | q; exact Or.inl ⟨q.1, q.2.1, fun j hj => q.2.2 j (by omega)⟩; exact Or.inr q
                    refine lv_iload hx hb dX12_keyAt_97 (lv_at hl 6 rfl) ?_
                    refine lv_if_eq (tgt := 104) hx hb dX12_keyAt_99 (by decide) (fun c41 => ?_) (fun h => absurd (xi_ne h rfl (by decide) : v33.toInt ≠ 0) (by omega))
                    have ic41 := (xi_eq c41 rfl (by decide) : v33.toInt = 0)
                    have hno0 : ¬ (v3.toInt - v2.toInt = w_t ∧ ∀ j : Nat, (j : Int) < w_t → gb (p_t + j) = q_b9 (v2.toInt + j)) := by rcases h97 with q | q; exact absurd q.1 (by omega); exact q.2
                    have hno : ¬ (v3.toInt - q_F v3.toInt = w_t ∧ ∀ j : Nat, (j : Int) < w_t → gb (p_t + j) = q_b9 (q_F v3.toInt + j)) := by rw [← hx8_0.2.1]; exact hno0
                    obtain ⟨v42, ev42⟩ : ∃ z : Int32, z = v1 + 1 := ⟨_, rfl⟩
                    have jv42 : v42.toInt = v1.toInt + 1 := xi_add ev42 rfl (by decide) (by omega) (by omega)
                    refine lv_iinc (v := v42) (lv' := [(3, .int v42), (0, .ref a0), (1, .int p), (2, .int w), (4, .int v2), (5, .int v3), (6, .int v33), (7, .int v34)]) hx hb dX12_keyAt_104 hl (k := 3) rfl (by rw [ev42]; rfl) (by decide) rfl (fun ls hl => ?_)
                    refine lv_iload hx hb dX12_keyAt_107 (lv_at hl 5 rfl) ?_
                    refine lv_iconst (v := 1) hx hb dX12_keyAt_109 (by decide) ?_
                    refine lv_iadd hx hb dX12_keyAt_110 ?_
                    refine lv_topi (fun v43 ev43 => ?_)
                    have jv43 : v43.toInt = v3.toInt + 1 := xi_add ev43 rfl (by decide) (by omega) (by omega)
                    refine lv_istore (lv' := [(4, .int v43), (3, .int v42), (0, .ref a0), (1, .int p), (2, .int w), (5, .int v3), (6, .int v33), (7, .int v34)]) hx hb dX12_keyAt_111 hl (by decide) rfl (fun ls hl => ?_)
                    obtain ⟨v44, ev44⟩ : ∃ z : Int32, z = v3 + 1 := ⟨_, rfl⟩
                    have jv44 : v44.toInt = v3.toInt + 1 := xi_add ev44 rfl (by decide) (by omega) (by omega)
                    refine lv_iinc (v := v44) (lv' := [(5, .int v44), (4, .int v43), (3, .int v42), (0, .ref a0), (1, .int p), (2, .int w), (6, .int v33), (7, .int v34)]) hx hb dX12_keyAt_113 hl (k := 5) rfl (by rw [ev44]; rfl) (by decide) rfl (fun ls hl => ?_)
                    refine lv_goto (tgt := 8) hx hb dX12_keyAt_116 (by decide) ?_
                    exact ih8 _ v42 v43 v44 (lv_sub hl [3, 4, 5, 2, 1, 0] rfl) (by omega) (by omega) (by omega) (by have qs := q_key_s (k := v3.toInt) (k1 := v44.toInt) (by omega) (by omega) (by omega) (by omega); omega) (q_wfalse (k := v3.toInt) hx8_1 (by omega) (by omega) (by omega) (by omega) hno (by omega)) (by omega)
                  · have ic40 := (xi_ne c40 rfl (by decide) : v33.toInt ≠ 0)
                    have k52 : v33.toInt = 1 ∧ v3.toInt - v2.toInt = w_t ∧ ∀ j : Nat, (j : Int) < v34.toInt → gb (p_t + j) = q_b9 (v2.toInt + j) := by rcases hx52_0 with q | q; exact q; exact absurd q.1 (by omega)
                    refine va_ldcS (tx := "cap roster years spare match hurt tax lots ") (q := X.adK 9) hx hb hown (hk.1 9 (RX12, 125, "cap roster years spare match hurt tax lots ") h_str_9) dX12_keyAt_63 ?_
                    refine lv_iload hx hb dX12_keyAt_65 (lv_at hl 4 rfl) ?_
                    refine lv_iload hx hb dX12_keyAt_67 (lv_at hl 7 rfl) ?_
                    refine lv_iadd hx hb dX12_keyAt_69 ?_
                    refine lv_topi (fun v45 ev45 => ?_)
                    have jv45 : v45.toInt = v2.toInt + v34.toInt := xi_add ev45 rfl rfl (by omega) (by omega)
                    refine vp_callSi (W.runV (As := [.int v45]) (rest := []) ⟨hx, hb, hml, hown, hts⟩ (tJ0_charAtF l E X A z I0 L0 9 (by decide) v45 (v45.toInt) rfl (by omega) (by omega)) (cwV 1 hts gX12_keyAt_J0_charAt_5068e rfl rfl rfl (by decide +kernel) ⟨Nat.le_of_ble_eq_true rfl, Nat.le_of_ble_eq_true rfl⟩) ⟨h_blind _ _ _ _ _ _ _, vk_recv hX.2.2.2.2.2 (by decide) g.2.1, h_pre _ hE hk hX hA hI hR g⟩ rfl rfl hl.1 rfl (lv_room (Nat.le_of_ble_eq_true rfl)) dX12_keyAt_70 ⟨Nat.le_of_ble_eq_true rfl, Nat.le_of_ble_eq_true rfl⟩) (fun rh46 h46 => ?_)
                    obtain ⟨h46, h46p0⟩ := h46
                    have crh46 : rh46.toInt = q_b9 v45.toInt := h46p0
                    refine lv_aload_n hx hb dX12_keyAt_73 rfl (lv_at hl 0 rfl) ?_
                    refine lv_iload_n hx hb dX12_keyAt_74 rfl (lv_at hl 1 rfl) ?_
                    refine lv_iload hx hb dX12_keyAt_75 (lv_at hl 7 rfl) ?_
                    refine lv_iadd hx hb dX12_keyAt_77 ?_
                    refine lv_topi (fun v47 ev47 => ?_)
                    have jv47 : v47.toInt = p_t + v34.toInt := xi_add ev47 h_p rfl (by omega) (by omega)
                    refine vp_callSi (W.runV (As := [.int v47]) (rest := [.int rh46]) ⟨hx, hb, hml, hown, hts⟩ (tX12_seeF l E X A z I0 L0 a0 t_a0 v47 (v47.toInt) rfl (by omega)) (cwV 1 hts gX12_keyAt_X12_see rfl rfl rfl (by decide +kernel) ⟨Nat.le_of_ble_eq_true rfl, Nat.le_of_ble_eq_true rfl⟩) ⟨h_blind _ _ _ _ _ _ _, h_recv g t_a0 (by decide) so_13 (q := (RX12, TX12, 51)) rfl, h_pre _ hE hk hX hA hI hR g⟩ rfl rfl hl.1 rfl (lv_room (Nat.le_of_ble_eq_true rfl)) dX12_keyAt_78 ⟨Nat.le_of_ble_eq_true rfl, Nat.le_of_ble_eq_true rfl⟩) (fun rh48 h48 => ?_)
                    obtain ⟨h48, h48p0⟩ := h48
                    rw [abt, ← egb] at h48p0
                    refine lv_icmp_ne (tgt := 88) hx hb dX12_keyAt_81 (by decide) (fun c49 => ?_) (fun c49 => ?_)
                    · have ic49 := (xi_ne c49 rfl rfl : rh46.toInt ≠ rh48.toInt)
                      refine lv_iconst (v := 0) hx hb dX12_keyAt_88 (by decide) ?_
                      refine lv_istore (lv' := [(6, .int 0), (0, .ref a0), (1, .int p), (2, .int w), (3, .int v1), (4, .int v2), (5, .int v3), (7, .int v34)]) hx hb dX12_keyAt_89 hl (by decide) rfl (fun ls hl => ?_)
                      obtain ⟨v50, ev50⟩ : ∃ z : Int32, z = v34 + 1 := ⟨_, rfl⟩
                      have jv50 : v50.toInt = v34.toInt + 1 := xi_add ev50 rfl (by decide) (by omega) (by omega)
                      refine lv_iinc (v := v50) (lv' := [(7, .int v50), (6, .int 0), (0, .ref a0), (1, .int p), (2, .int w), (3, .int v1), (4, .int v2), (5, .int v3)]) hx hb dX12_keyAt_91 hl (k := 7) rfl (by rw [ev50]; rfl) (by decide) rfl (fun ls hl => ?_)
                      refine lv_goto (tgt := 52) hx hb dX12_keyAt_94 (by decide) ?_
                      have kc51 : (0 : Int32).toInt = 0 := by decide
                      exact ih52 _ (0) v50 (lv_sub hl [2, 3, 4, 5, 6, 7, 1, 0] rfl) ⟨by decide, by decide⟩ (by omega) (Or.inr ⟨by decide, fun h9 => q_wno (B := fun j => q_b9 (v2.toInt + j)) (i := v34.toInt) (a := v47.toInt) (by omega) (by omega) (by omega) (by rw [show v2.toInt + ((v34.toInt.toNat : Nat) : Int) = v45.toInt by omega]; omega) h9.2⟩) (by omega) (by omega)
                    · have ic49 := (xi_eq c49 rfl rfl : rh46.toInt = rh48.toInt)
                      refine lv_iconst (v := 1) hx hb dX12_keyAt_84 (by decide) ?_
                      refine lv_goto (tgt := 89) hx hb dX12_keyAt_85 (by decide) ?_
                      refine lv_istore (lv' := [(6, .int 1), (0, .ref a0), (1, .int p), (2, .int w), (3, .int v1), (4, .int v2), (5, .int v3), (7, .int v34)]) hx hb dX12_keyAt_89 hl (by decide) rfl (fun ls hl => ?_)
                      obtain ⟨v52, ev52⟩ : ∃ z : Int32, z = v34 + 1 := ⟨_, rfl⟩
                      have jv52 : v52.toInt = v34.toInt + 1 := xi_add ev52 rfl (by decide) (by omega) (by omega)
                      refine lv_iinc (v := v52) (lv' := [(7, .int v52), (6, .int 1), (0, .ref a0), (1, .int p), (2, .int w), (3, .int v1), (4, .int v2), (5, .int v3)]) hx hb dX12_keyAt_91 hl (k := 7) rfl (by rw [ev52]; rfl) (by decide) rfl (fun ls hl => ?_)
                      refine lv_goto (tgt := 52) hx hb dX12_keyAt_94 (by decide) ?_
                      have kc53 : (1 : Int32).toInt = 1 := by decide
                      exact ih52 _ (1) v52 (lv_sub hl [2, 3, 4, 5, 6, 7, 1, 0] rfl) ⟨by decide, by decide⟩ (by omega) (Or.inl ⟨by decide, by omega, q_wmore (B := fun j => q_b9 (v2.toInt + j)) k52.2.2 (by omega) (show v47.toInt = p_t + v34.toInt by omega) (by rw [show v2.toInt + ((v34.toInt.toNat : Nat) : Int) = v45.toInt by omega]; omega) (by omega)⟩) (by omega) (by omega)
            have kc54 : (1 : Int32).toInt = 1 := by decide
            have kc55 : (0 : Int32).toInt = 0 := by decide
            exact loop52_2 _ _ (1) (0) (lv_sub hl [2, 3, 4, 5, 6, 7, 1, 0] rfl) ⟨by decide, by decide⟩ ⟨by decide, by decide⟩ (Or.inl ⟨by decide, by omega, fun j hj => absurd hj (by omega)⟩) (by omega) (show (501 - (0 : Int)) < (((501 - (0 : Int)).toNat + 1 : Nat) : Int) by omega)
        · have ic7 := (xi_ne c7 rfl (by decide) : rh6.toInt ≠ 32)
          refine lv_goto (tgt := 113) hx hb dX12_keyAt_30 (by decide) ?_
          obtain ⟨v56, ev56⟩ : ∃ z : Int32, z = v3 + 1 := ⟨_, rfl⟩
          have jv56 : v56.toInt = v3.toInt + 1 := xi_add ev56 rfl (by decide) (by omega) (by omega)
          refine lv_iinc (v := v56) (lv' := [(5, .int v56), (0, .ref a0), (1, .int p), (2, .int w), (3, .int v1), (4, .int v2)]) hx hb dX12_keyAt_113 hl (k := 5) rfl (by rw [ev56]; rfl) (by decide) rfl (fun ls hl => ?_)
          refine lv_goto (tgt := 8) hx hb dX12_keyAt_116 (by decide) ?_
          exact ih8 _ v1 v2 v56 (lv_sub hl [1, 2, 3, 4, 5, 0] rfl) (by omega) (by omega) (by omega) (by have qs := q_key_c (k := v3.toInt) (k1 := v56.toInt) (by omega) (by omega) (by omega) (by omega); omega) (hx8_1) (by omega)
  have kc57 : (0 : Int32).toInt = 0 := by decide
  have kc58 : (0 : Int32).toInt = 0 := by decide
  have kc59 : (0 : Int32).toInt = 0 := by decide
  exact loop8_0 _ _ (0) (0) (0) (lv_sub hl [3, 4, 5, 2, 1, 0] rfl) ⟨by decide, by decide⟩ ⟨by decide, by decide⟩ ⟨by decide, by decide⟩ (⟨by decide, by decide, by decide⟩) (fun j hj => absurd hj (by omega)) (show (43 - (0 : Int)) < (((43 - (0 : Int)).toNat + 1 : Nat) : Int) by omega)
set_option maxHeartbeats 4000000 in
set_option maxRecDepth 100000 in
theorem tX12_scanF (l : Launch) (E : tE) (X : tX) (A : Nat → Prop) (z : tZ) (I0 : tI) (L0 : tL) (a0 : Nat) (t_a0 : z.ty a0 = 13) : Met l yX12_scan wsX12_scan ({ frames := 6, cells := 0, slots := 0, locals := 384 }) (va_Pc [.ref a0] (h_P E X A z I0 L0)) (va_Qv (fun (I1 : tI) => h_I z I1 ∧ h_F [(13, 5), (13, 3), (13, 4), (13, 7), (13, 6)] z I0 I1 ∧ (h_tk (q_at (I0 (h_ad z a0 0)) (I0 a0 2).toInt) I1 a0 (I0 a0 6).toInt)) (fun (I1 : tI) t => h_B E A z I1 L0 t) A) 0 0 A := by
  refine Met.ofW (cc := cX12_scan) (maxL := 4) (ret := none) (by decide) rfl ?_
  intro pr_ ev_ s m args below meth cd_ s₁ B hml hv
  obtain ⟨rfl, hE, hk, hX, hA, hK, hI, hR, hB0⟩ := hv
  have g : h_G h_so h_fk E A z I0 L0 s s.heap s.heap [] := ⟨hK, va_S.rf, hB0⟩
  have hF : h_F [(13, 5), (13, 3), (13, 4), (13, 7), (13, 6)] z I0 I0 := h_F.rf
  have hx := B.exec
  have hb := B.bytes
  have hr := B.returns
  have hts := atoms_spec (ws := wsX12_scan) B.pre
  have hown : s.vm.findClass RX12 = some m.cls := findClass_of_methodNamed B.named
  have hlocks := B.notSynchronized
  have iX12 : ∀ w ∈ u_ws RX12 TX12 51, w ∈ wsX12_scan := by decide +kernel
  have hl := lv_entry ([.ref a0]) (n := 4) (Nat.le_of_ble_eq_true rfl)
  rw [lg_entry_eq]
  generalize (lg_sl ([.ref a0]) ++ List.replicate (4 - (lg_sl ([.ref a0])).length) Slot.unset).toArray = ls at hl ⊢
  have hl : lv_has ls 4 [(0, .ref a0)] := hl
  obtain ⟨bt, rbt, tbt⟩ := hR.at a0 0 t_a0 (rfl : h_rs 13 0 = some (1300, false)) (by decide)
  have abt : h_ad z a0 0 = bt := h_ad.at rbt
  obtain ⟨n_2, en_2⟩ : ∃ v : Int32, v = I0 a0 2 := ⟨_, rfl⟩
  have qn_2 : (I0 a0 2).toInt = n_2.toInt := congrArg Int32.toInt en_2.symm
  have jn_2 := hI.rd a0 2 t_a0 en_2 (rfl : h_bd 13 2 = (0, 500))
  obtain ⟨gb, egb⟩ : ∃ g : Int → Int, g = q_at (I0 bt) (I0 a0 2).toInt := ⟨_, rfl⟩
  obtain ⟨f0_6, ef0_6⟩ : ∃ v : Int32, v = I0 a0 6 := ⟨_, rfl⟩
  have qf0_6 : (I0 a0 6).toInt = f0_6.toInt := congrArg Int32.toInt ef0_6.symm
  have jf0_6 := hI.rd a0 6 t_a0 ef0_6 (rfl : h_bd 13 6 = (0, 500))
  refine lv_aload_n hx hb dX12_scan_0 rfl (lv_at hl 0 rfl) ?_
  refine h_get (v := .int f0_6) hx hb hts iX12 hown g t_a0 (by decide) so_13 rfl 6 (by decide) (hts (.fieldLink RX12 140 "CapLeagueModel" "end" "I") (by decide +kernel)) rfl dX12_scan_1 (congrArg Value.int (ef0_6.symm)) ?_
  refine lv_istore_n (lv' := [(1, .int f0_6), (0, .ref a0)]) hx hb dX12_scan_4 rfl hl (by decide) rfl (fun ls hl => ?_)
  have loop5_0 : ∀ (n : Nat) (I2 : tI) (H : Heap) (locs : List Loc) (ls : Array Slot) (v1 : Int32), h_G h_so h_fk E A z I2 L0 s s.heap H locs → h_I z I2 → h_F [(13, 5), (13, 3), (13, 4), (13, 7), (13, 6)] z I0 I2 → lv_has ls 4 [(0, .ref a0), (1, .int v1)] → (0 ≤ v1.toInt ∧ v1.toInt ≤ 500) → h_F [] z I0 I2 → (f0_6.toInt ≤ v1.toInt) → (∀ j : Int, f0_6.toInt ≤ j → j < v1.toInt → q_B (gb j) = true) → (501 - v1.toInt) < (n : Int) → W pr_ l ev_ (headSpec wsX12_scan ({ frames := 6, cells := 0, slots := 0, locals := 384 })).room s m ([.ref a0] : List Value).toArray below meth cd_ H locs 0 0 (MQ below (va_Qv (fun (I1 : tI) => h_I z I1 ∧ h_F [(13, 5), (13, 3), (13, 4), (13, 7), (13, 6)] z I0 I1 ∧ (h_tk (q_at (I0 (h_ad z a0 0)) (I0 a0 2).toInt) I1 a0 (I0 a0 6).toInt)) (fun (I1 : tI) t => h_B E A z I1 L0 t) A) ([.ref a0] : List Value).toArray s 0 0 A) (F0 m 5 ls []) := by
    intro n
    induction n with
    | zero => intro I2 H locs ls v1 g hI hF hl jv1 hL5 hx5_0 hx5_1 hn; exact absurd hn (by omega)
    | succ n ih5 =>
      intro I2 H locs ls v1 g hI hF hl jv1 hL5 hx5_0 hx5_1 hn
      refine lv_aload_n hx hb dX12_scan_5 rfl (lv_at hl 0 rfl) ?_
      refine lv_iload_n hx hb dX12_scan_6 rfl (lv_at hl 1 rfl) ?_
      refine vp_callSi (W.runV (As := [.int v1]) (rest := []) ⟨hx, hb, hml, hown, hts⟩ (tX12_seeF l E X A z I2 L0 a0 t_a0 v1 (v1.toInt) rfl (by omega)) (cwV 1 hts gX12_scan_X12_see rfl rfl rfl (by decide +kernel) ⟨Nat.le_of_ble_eq_true rfl, Nat.le_of_ble_eq_true rfl⟩) ⟨h_blind _ _ _ _ _ _ _, h_recv g t_a0 (by decide) so_13 (q := (RX12, TX12, 51)) rfl, h_pre _ hE hk hX hA hI hR g⟩ rfl rfl hl.1 rfl (lv_room (Nat.le_of_ble_eq_true rfl)) dX12_scan_7 ⟨Nat.le_of_ble_eq_true rfl, Nat.le_of_ble_eq_true rfl⟩) (fun rh3 h3 => ?_)
      obtain ⟨h3, h3p0⟩ := h3
      rw [abt, show I2 bt = I0 bt from funext (fun k => hF.at tbt rfl), show I2 a0 2 = I0 a0 2 from hF.at t_a0 rfl, ← egb] at h3p0
      refine lv_bipush (v := 32) hx hb dX12_scan_10 (by decide) ?_
      refine lv_icmp_eq (tgt := 25) hx hb dX12_scan_12 (by decide) (fun c4 => ?_) (fun c4 => ?_)
      · have ic4 := (xi_eq c4 rfl (by decide) : rh3.toInt = 32)
        obtain ⟨v5, ev5⟩ : ∃ z : Int32, z = v1 + 1 := ⟨_, rfl⟩
        have jv5 : v5.toInt = v1.toInt + 1 := xi_add ev5 rfl (by decide) (by omega) (by omega)
        refine lv_iinc (v := v5) (lv' := [(1, .int v5), (0, .ref a0)]) hx hb dX12_scan_25 hl (k := 1) rfl (by rw [ev5]; rfl) (by decide) rfl (fun ls hl => ?_)
        refine lv_goto (tgt := 5) hx hb dX12_scan_28 (by decide) ?_
        have tin := q_at_in (f := I0 bt) (n := (I0 a0 2).toInt) (p := v1.toInt) (by rw [← egb]; omega)
        exact ih5 I2 _ _ _ v5 g hI hF (lv_sub hl [1, 0] rfl) (by omega) (h_F.call (h_F.rf : h_F [] z I0 I0) hL5 rfl) (by omega) (q_more hx5_1 (q_B_t (by omega)) (by omega)) (by omega)
      · have ic4 := (xi_ne c4 rfl (by decide) : rh3.toInt ≠ 32)
        refine lv_aload_n hx hb dX12_scan_15 rfl (lv_at hl 0 rfl) ?_
        refine lv_iload_n hx hb dX12_scan_16 rfl (lv_at hl 1 rfl) ?_
        refine vp_callSi (W.runV (As := [.int v1]) (rest := []) ⟨hx, hb, hml, hown, hts⟩ (tX12_seeF l E X A z I2 L0 a0 t_a0 v1 (v1.toInt) rfl (by omega)) (cwV 1 hts gX12_scan_X12_see rfl rfl rfl (by decide +kernel) ⟨Nat.le_of_ble_eq_true rfl, Nat.le_of_ble_eq_true rfl⟩) ⟨h_blind _ _ _ _ _ _ _, h_recv g t_a0 (by decide) so_13 (q := (RX12, TX12, 51)) rfl, h_pre _ hE hk hX hA hI hR g⟩ rfl rfl hl.1 rfl (lv_room (Nat.le_of_ble_eq_true rfl)) dX12_scan_17 ⟨Nat.le_of_ble_eq_true rfl, Nat.le_of_ble_eq_true rfl⟩) (fun rh6 h6 => ?_)
        obtain ⟨h6, h6p0⟩ := h6
        rw [abt, show I2 bt = I0 bt from funext (fun k => hF.at tbt rfl), show I2 a0 2 = I0 a0 2 from hF.at t_a0 rfl, ← egb] at h6p0
        refine lv_bipush (v := 10) hx hb dX12_scan_20 (by decide) ?_
        refine lv_icmp_ne (tgt := 31) hx hb dX12_scan_22 (by decide) (fun c7 => ?_) (fun c7 => ?_)
        · have ic7 := (xi_ne c7 rfl (by decide) : rh6.toInt ≠ 10)
          refine lv_aload_n hx hb dX12_scan_31 rfl (lv_at hl 0 rfl) ?_
          refine lv_iload_n hx hb dX12_scan_32 rfl (lv_at hl 1 rfl) ?_
          refine h_putI (ty := .int) (v := v1) hx hb hts iX12 tyX12 tyX12_ok nmX12 hown g t_a0 (by decide) so_13 rfl 5 (by decide) rfl (hts (.fieldLink RX12 143 "CapLeagueModel" "at" "I") (by decide +kernel)) rfl rfl (by decide +kernel) rfl rfl dX12_scan_33 (fun I8 H locs eI8 g => ?_)
          have hI := hI.wr eI8 t_a0 (rfl : h_bd 13 5 = ((-2147483648), 2147483647)) (xi_lo _) (Int.le_of_lt_add_one (xi_hi _))
          have hF := hF.wr eI8 t_a0 rfl
          refine lv_aload_n hx hb dX12_scan_36 rfl (lv_at hl 0 rfl) ?_
          refine lv_iload_n hx hb dX12_scan_37 rfl (lv_at hl 1 rfl) ?_
          refine vp_callSi (W.runV (As := [.int v1]) (rest := []) ⟨hx, hb, hml, hown, hts⟩ (tX12_seeF l E X A z I8 L0 a0 t_a0 v1 (v1.toInt) rfl (by omega)) (cwV 1 hts gX12_scan_X12_see rfl rfl rfl (by decide +kernel) ⟨Nat.le_of_ble_eq_true rfl, Nat.le_of_ble_eq_true rfl⟩) ⟨h_blind _ _ _ _ _ _ _, h_recv g t_a0 (by decide) so_13 (q := (RX12, TX12, 51)) rfl, h_pre _ hE hk hX hA hI hR g⟩ rfl rfl hl.1 rfl (lv_room (Nat.le_of_ble_eq_true rfl)) dX12_scan_38 ⟨Nat.le_of_ble_eq_true rfl, Nat.le_of_ble_eq_true rfl⟩) (fun rh9 h9 => ?_)
          obtain ⟨h9, h9p0⟩ := h9
          rw [abt, show I8 bt = I0 bt from funext (fun k => hF.at tbt rfl), show I8 a0 2 = I0 a0 2 from hF.at t_a0 rfl, ← egb] at h9p0
          refine lv_istore_n (lv' := [(2, .int rh9), (0, .ref a0), (1, .int v1)]) hx hb dX12_scan_41 rfl hl (by decide) rfl (fun ls hl => ?_)
          have gs : rh9.toInt = gb v1.toInt := h9p0
          refine lv_iload_n hx hb dX12_scan_42 rfl (lv_at hl 2 rfl) ?_
          refine lv_iconst (v := 1) hx hb dX12_scan_43 (by decide) ?_
          refine lv_iadd hx hb dX12_scan_44 ?_
          refine lv_topi (fun v10 ev10 => ?_)
          have jv10 : v10.toInt = v1.toInt + 1 := xi_add ev10 rfl (by decide) (by omega) (by omega)
          refine lv_istore_n (lv' := [(3, .int v10), (2, .int rh9), (0, .ref a0), (1, .int v1)]) hx hb dX12_scan_45 rfl hl (by decide) rfl (fun ls hl => ?_)
          refine lv_iload_n hx hb dX12_scan_46 rfl (lv_at hl 1 rfl) ?_
          refine lv_iconst (v := (-1)) hx hb dX12_scan_47 (by decide) ?_
          refine lv_icmp_ne (tgt := 61) hx hb dX12_scan_48 (by decide) (fun c11 => ?_) (fun c11 => ?_)
          · have ic11 := (xi_ne c11 rfl (by decide) : rh9.toInt ≠ (-1))
            have tin := q_at_in (f := I0 bt) (n := (I0 a0 2).toInt) (p := v1.toInt) (by rw [← egb]; omega)
            refine lv_iload_n hx hb dX12_scan_61 rfl (lv_at hl 1 rfl) ?_
            refine vp_callSi (W.runS (As := [.int rh9]) (rest := []) ⟨hx, hb, hml, hown, hts⟩ (tX12_isSmallF l E X A z I8 L0 rh9 (rh9.toInt) rfl) (va_cwS 1 hts gX12_scan_X12_isSmall rfl rfl rfl (by decide +kernel) ⟨Nat.le_of_ble_eq_true rfl, Nat.le_of_ble_eq_true rfl⟩) ⟨h_blind _ _ _ _ _ _ _, h_pre _ hE hk hX hA hI hR g⟩ rfl rfl hl.1 rfl (lv_room (Nat.le_of_ble_eq_true rfl)) dX12_scan_62 ⟨Nat.le_of_ble_eq_true rfl, Nat.le_of_ble_eq_true rfl⟩) (fun rh12 h12 => ?_)
            rcases h12 with ⟨rfl, h12⟩ | ⟨rfl, h12⟩
            · skip
              refine lv_if_eq (tgt := 117) hx hb dX12_scan_65 (by decide) (fun _ => ?_) (fun h => absurd (by decide) h)
              refine lv_iload_n hx hb dX12_scan_117 rfl (lv_at hl 1 rfl) ?_
              refine vp_callSi (W.runS (As := [.int rh9]) (rest := []) ⟨hx, hb, hml, hown, hts⟩ (tX12_isDigitF l E X A z I8 L0 rh9 (rh9.toInt) rfl) (va_cwS 1 hts gX12_scan_X12_isDigit rfl rfl rfl (by decide +kernel) ⟨Nat.le_of_ble_eq_true rfl, Nat.le_of_ble_eq_true rfl⟩) ⟨h_blind _ _ _ _ _ _ _, h_pre _ hE hk hX hA hI hR g⟩ rfl rfl hl.1 rfl (lv_room (Nat.le_of_ble_eq_true rfl)) dX12_scan_118 ⟨Nat.le_of_ble_eq_true rfl, Nat.le_of_ble_eq_true rfl⟩) (fun rh14 h14 => ?_)
              rcases h14 with ⟨rfl, h14⟩ | ⟨rfl, h14⟩
              · skip
                refine lv_if_eq (tgt := 202) hx hb dX12_scan_121 (by decide) (fun _ => ?_) (fun h => absurd (by decide) h)
                refine lv_aload_n hx hb dX12_scan_202 rfl (lv_at hl 2 rfl) ?_
                refine lv_iload_n hx hb dX12_scan_203 rfl (lv_at hl 1 rfl) ?_
                refine lv_bipush (v := 59) hx hb dX12_scan_204 (by decide) ?_
                refine lv_icmp_ne (tgt := 213) hx hb dX12_scan_206 (by decide) (fun c16 => ?_) (fun c16 => ?_)
                · have ic16 := (xi_ne c16 rfl (by decide) : rh9.toInt ≠ 59)
                  refine lv_iconst (v := 0) hx hb dX12_scan_213 (by decide) ?_
                  refine h_putI (ty := .int) (v := 0) hx hb hts iX12 tyX12 tyX12_ok nmX12 hown g t_a0 (by decide) so_13 rfl 3 (by decide) rfl (hts (.fieldLink RX12 146 "CapLeagueModel" "sort" "I") (by decide +kernel)) rfl rfl (by decide +kernel) rfl rfl dX12_scan_214 (fun I17 H locs eI17 g => ?_)
                  have hI := hI.wr eI17 t_a0 (rfl : h_bd 13 3 = ((-2147483648), 2147483647)) (by decide) (by decide)
                  have hF := hF.wr eI17 t_a0 rfl
                  refine lv_aload_n hx hb dX12_scan_217 rfl (lv_at hl 2 rfl) ?_
                  refine lv_iload_n hx hb dX12_scan_218 rfl (lv_at hl 0 rfl) ?_
                  refine h_putI (ty := .int) (v := v10) hx hb hts iX12 tyX12 tyX12_ok nmX12 hown g t_a0 (by decide) so_13 rfl 6 (by decide) rfl (hts (.fieldLink RX12 140 "CapLeagueModel" "end" "I") (by decide +kernel)) rfl rfl (by decide +kernel) rfl rfl dX12_scan_219 (fun I18 H locs eI18 g => ?_)
                  have hI := hI.wr eI18 t_a0 (rfl : h_bd 13 6 = (0, 500)) (by omega) (by omega)
                  have hF := hF.wr eI18 t_a0 rfl
                  have ta := q_tokA (g := gb) (p := f0_6.toInt) (a := v1.toInt) (by omega) (by omega) (by omega) hx5_1 (q_B_f (by omega))
                  have tk := q_tok3 ta (by omega) (by omega) (by omega)
                  have hS := g.2.1
                  exact W.vret hx hb hr (fun t ht hW => ⟨⟨I18, rfl, ⟨hI, hF, (by rw [abt, ← egb, qf0_6]; refine ⟨by rw [show I18 a0 5 = v1 from (h_n2 eI18 (by decide)).trans ((h_n2 eI17 (by decide)).trans (h_n0 eI8))]; omega, by rw [show I18 a0 6 = v10 from h_n0 eI18]; rw [tk.1]; omega, ?_, by omega, by rw [show I18 a0 5 = v1 from (h_n2 eI18 (by decide)).trans ((h_n2 eI17 (by decide)).trans (h_n0 eI8))]; omega, by rw [show I18 a0 5 = v1 from (h_n2 eI18 (by decide)).trans ((h_n2 eI17 (by decide)).trans (h_n0 eI8)), show I18 a0 6 = v10 from h_n0 eI18]; omega, by rw [show I18 a0 6 = v10 from h_n0 eI18]; omega, ?_⟩; exact Or.inr (Or.inr (Or.inr (Or.inr (Or.inr ⟨by rw [tk.2, if_neg (by omega)], (by rw [show I18 a0 3 = 0 from (h_n2 eI18 (by decide)).trans (h_n0 eI17)]; decide)⟩)))); exact Or.inr (by rw [show I18 a0 5 = v1 from (h_n2 eI18 (by decide)).trans ((h_n2 eI17 (by decide)).trans (h_n0 eI8)), show I18 a0 6 = v10 from h_n0 eI18]; omega))⟩, h_ret g ht⟩, hS.F ht⟩) hS.2.2 dX12_scan_222
                · have ic16 := (xi_eq c16 rfl (by decide) : rh9.toInt = 59)
                  refine lv_iconst (v := 3) hx hb dX12_scan_209 (by decide) ?_
                  refine lv_goto (tgt := 214) hx hb dX12_scan_210 (by decide) ?_
                  refine h_putI (ty := .int) (v := 3) hx hb hts iX12 tyX12 tyX12_ok nmX12 hown g t_a0 (by decide) so_13 rfl 3 (by decide) rfl (hts (.fieldLink RX12 146 "CapLeagueModel" "sort" "I") (by decide +kernel)) rfl rfl (by decide +kernel) rfl rfl dX12_scan_214 (fun I19 H locs eI19 g => ?_)
                  have hI := hI.wr eI19 t_a0 (rfl : h_bd 13 3 = ((-2147483648), 2147483647)) (by decide) (by decide)
                  have hF := hF.wr eI19 t_a0 rfl
                  refine lv_aload_n hx hb dX12_scan_217 rfl (lv_at hl 2 rfl) ?_
                  refine lv_iload_n hx hb dX12_scan_218 rfl (lv_at hl 0 rfl) ?_
                  refine h_putI (ty := .int) (v := v10) hx hb hts iX12 tyX12 tyX12_ok nmX12 hown g t_a0 (by decide) so_13 rfl 6 (by decide) rfl (hts (.fieldLink RX12 140 "CapLeagueModel" "end" "I") (by decide +kernel)) rfl rfl (by decide +kernel) rfl rfl dX12_scan_219 (fun I20 H locs eI20 g => ?_)
                  have hI := hI.wr eI20 t_a0 (rfl : h_bd 13 6 = (0, 500)) (by omega) (by omega)
                  have hF := hF.wr eI20 t_a0 rfl
                  have ta := q_tokA (g := gb) (p := f0_6.toInt) (a := v1.toInt) (by omega) (by omega) (by omega) hx5_1 (q_B_f (by omega))
                  have tk := q_tok3 ta (by omega) (by omega) (by omega)
                  have hS := g.2.1
                  exact W.vret hx hb hr (fun t ht hW => ⟨⟨I20, rfl, ⟨hI, hF, (by rw [abt, ← egb, qf0_6]; refine ⟨by rw [show I20 a0 5 = v1 from (h_n2 eI20 (by decide)).trans ((h_n2 eI19 (by decide)).trans (h_n0 eI8))]; omega, by rw [show I20 a0 6 = v10 from h_n0 eI20]; rw [tk.1]; omega, ?_, by omega, by rw [show I20 a0 5 = v1 from (h_n2 eI20 (by decide)).trans ((h_n2 eI19 (by decide)).trans (h_n0 eI8))]; omega, by rw [show I20 a0 5 = v1 from (h_n2 eI20 (by decide)).trans ((h_n2 eI19 (by decide)).trans (h_n0 eI8)), show I20 a0 6 = v10 from h_n0 eI20]; omega, by rw [show I20 a0 6 = v10 from h_n0 eI20]; omega, ?_⟩; exact Or.inr (Or.inr (Or.inr (Or.inr (Or.inl ⟨by rw [tk.2, if_pos (by omega)], (by rw [show I20 a0 3 = 3 from (h_n2 eI20 (by decide)).trans (h_n0 eI19)]; decide)⟩)))); exact Or.inr (by rw [show I20 a0 5 = v1 from (h_n2 eI20 (by decide)).trans ((h_n2 eI19 (by decide)).trans (h_n0 eI8)), show I20 a0 6 = v10 from h_n0 eI20]; omega))⟩, h_ret g ht⟩, hS.F ht⟩) hS.2.2 dX12_scan_222
              · skip
                refine lv_if_eq (tgt := 202) hx hb dX12_scan_121 (by decide) (fun h => absurd h (by decide)) (fun _ => ?_)
                refine lv_aload_n hx hb dX12_scan_124 rfl (lv_at hl 2 rfl) ?_
                refine lv_iload_n hx hb dX12_scan_125 rfl (lv_at hl 1 rfl) ?_
                refine lv_bipush (v := 48) hx hb dX12_scan_126 (by decide) ?_
                refine lv_isub hx hb dX12_scan_128 ?_
                refine lv_topi (fun v22 ev22 => ?_)
                have jv22 : v22.toInt = rh9.toInt - 48 := xi_sub ev22 rfl (by decide) (by omega) (by omega)
                refine h_putI (ty := .int) (v := v22) hx hb hts iX12 tyX12 tyX12_ok nmX12 hown g t_a0 (by decide) so_13 rfl 7 (by decide) rfl (hts (.fieldLink RX12 163 "CapLeagueModel" "worth" "I") (by decide +kernel)) rfl rfl (by decide +kernel) rfl rfl dX12_scan_129 (fun I23 H locs eI23 g => ?_)
                have hI := hI.wr eI23 t_a0 (rfl : h_bd 13 7 = ((-2147483648), 2147483647)) (xi_lo _) (Int.le_of_lt_add_one (xi_hi _))
                have hF := hF.wr eI23 t_a0 rfl
                have loop132_1 : ∀ (n : Nat) (I25 : tI) (H : Heap) (locs : List Loc) (ls : Array Slot) (v24 : Int32), h_G h_so h_fk E A z I25 L0 s s.heap H locs → h_I z I25 → h_F [(13, 5), (13, 3), (13, 4), (13, 7), (13, 6)] z I0 I25 → lv_has ls 4 [(0, .ref a0), (1, .int v1), (3, .int v24)] → (1 ≤ v24.toInt ∧ v24.toInt ≤ 500) → h_F [(13, 7)] z I23 I25 → (v1.toInt + 1 ≤ v24.toInt) → (∀ j : Int, v1.toInt ≤ j → j < v24.toInt → q_D (gb j) = true) → (v24.toInt - v1.toInt ≤ 5 → (I25 a0 7).toInt = q_dec gb v1.toInt (v24.toInt - v1.toInt).toNat) → (501 - v24.toInt) < (n : Int) → W pr_ l ev_ (headSpec wsX12_scan ({ frames := 6, cells := 0, slots := 0, locals := 384 })).room s m ([.ref a0] : List Value).toArray below meth cd_ H locs 0 0 (MQ below (va_Qv (fun (I1 : tI) => h_I z I1 ∧ h_F [(13, 5), (13, 3), (13, 4), (13, 7), (13, 6)] z I0 I1 ∧ (h_tk (q_at (I0 (h_ad z a0 0)) (I0 a0 2).toInt) I1 a0 (I0 a0 6).toInt)) (fun (I1 : tI) t => h_B E A z I1 L0 t) A) ([.ref a0] : List Value).toArray s 0 0 A) (F0 m 132 ls []) := by
                  intro n
                  induction n with
                  | zero => intro I25 H locs ls v24 g hI hF hl jv24 hL132 hx132_0 hx132_1 hx132_2 hn; exact absurd hn (by omega)
                  | succ n ih132 =>
                    intro I25 H locs ls v24 g hI hF hl jv24 hL132 hx132_0 hx132_1 hx132_2 hn
                    obtain ⟨v26, ev26⟩ : ∃ v : Int32, v = I25 a0 7 := ⟨_, rfl⟩
                    rw [← ev26] at hx132_2
                    have jv26 := hI.rd a0 7 t_a0 ev26 (rfl : h_bd 13 7 = ((-2147483648), 2147483647))
                    refine lv_aload_n hx hb dX12_scan_132 rfl (lv_at hl 0 rfl) ?_
                    refine lv_iload_n hx hb dX12_scan_133 rfl (lv_at hl 2 rfl) ?_
                    refine vp_callSi (W.runV (As := [.int v24]) (rest := []) ⟨hx, hb, hml, hown, hts⟩ (tX12_seeF l E X A z I25 L0 a0 t_a0 v24 (v24.toInt) rfl (by omega)) (cwV 1 hts gX12_scan_X12_see rfl rfl rfl (by decide +kernel) ⟨Nat.le_of_ble_eq_true rfl, Nat.le_of_ble_eq_true rfl⟩) ⟨h_blind _ _ _ _ _ _ _, h_recv g t_a0 (by decide) so_13 (q := (RX12, TX12, 51)) rfl, h_pre _ hE hk hX hA hI hR g⟩ rfl rfl hl.1 rfl (lv_room (Nat.le_of_ble_eq_true rfl)) dX12_scan_134 ⟨Nat.le_of_ble_eq_true rfl, Nat.le_of_ble_eq_true rfl⟩) (fun rh27 h27 => ?_)
                    obtain ⟨h27, h27p0⟩ := h27
                    rw [abt, show I25 bt = I0 bt from funext (fun k => hF.at tbt rfl), show I25 a0 2 = I0 a0 2 from hF.at t_a0 rfl, ← egb] at h27p0
                    refine vp_callSi (W.runS (As := [.int rh27]) (rest := []) ⟨hx, hb, hml, hown, hts⟩ (tX12_isDigitF l E X A z I25 L0 rh27 (rh27.toInt) rfl) (va_cwS 1 hts gX12_scan_X12_isDigit rfl rfl rfl (by decide +kernel) ⟨Nat.le_of_ble_eq_true rfl, Nat.le_of_ble_eq_true rfl⟩) ⟨h_blind _ _ _ _ _ _ _, h_pre _ hE hk hX hA hI hR g⟩ rfl rfl hl.1 rfl (lv_room (Nat.le_of_ble_eq_true rfl)) dX12_scan_137 ⟨Nat.le_of_ble_eq_true rfl, Nat.le_of_ble_eq_true rfl⟩) (fun rh28 h28 => ?_)
                    rcases h28 with ⟨rfl, h28⟩ | ⟨rfl, h28⟩
                    · skip
                      refine lv_if_eq (tgt := 183) hx hb dX12_scan_140 (by decide) (fun _ => ?_) (fun h => absurd (by decide) h)
                      refine lv_aload_n hx hb dX12_scan_183 rfl (lv_at hl 0 rfl) ?_
                      refine lv_iload_n hx hb dX12_scan_184 rfl (lv_at hl 2 rfl) ?_
                      refine lv_iload_n hx hb dX12_scan_185 rfl (lv_at hl 1 rfl) ?_
                      refine lv_isub hx hb dX12_scan_186 ?_
                      refine lv_topi (fun v30 ev30 => ?_)
                      have jv30 : v30.toInt = v24.toInt - v1.toInt := xi_sub ev30 rfl rfl (by omega) (by omega)
                      refine lv_iconst (v := 5) hx hb dX12_scan_187 (by decide) ?_
                      refine lv_icmp_le (tgt := 195) hx hb dX12_scan_188 (by decide) (fun c31 => ?_) (fun c31 => ?_)
                      · have ic31 := (xi_le c31 rfl (by decide) : v30.toInt ≤ 5)
                        refine lv_iconst (v := 2) hx hb dX12_scan_195 (by decide) ?_
                        refine h_putI (ty := .int) (v := 2) hx hb hts iX12 tyX12 tyX12_ok nmX12 hown g t_a0 (by decide) so_13 rfl 3 (by decide) rfl (hts (.fieldLink RX12 146 "CapLeagueModel" "sort" "I") (by decide +kernel)) rfl rfl (by decide +kernel) rfl rfl dX12_scan_196 (fun I32 H locs eI32 g => ?_)
                        have hI := hI.wr eI32 t_a0 (rfl : h_bd 13 3 = ((-2147483648), 2147483647)) (by decide) (by decide)
                        have hF := hF.wr eI32 t_a0 rfl
                        refine lv_goto (tgt := 217) hx hb dX12_scan_199 (by decide) ?_
                        refine lv_aload_n hx hb dX12_scan_217 rfl (lv_at hl 0 rfl) ?_
                        refine lv_iload_n hx hb dX12_scan_218 rfl (lv_at hl 2 rfl) ?_
                        refine h_putI (ty := .int) (v := v24) hx hb hts iX12 tyX12 tyX12_ok nmX12 hown g t_a0 (by decide) so_13 rfl 6 (by decide) rfl (hts (.fieldLink RX12 140 "CapLeagueModel" "end" "I") (by decide +kernel)) rfl rfl (by decide +kernel) rfl rfl dX12_scan_219 (fun I33 H locs eI33 g => ?_)
                        have hI := hI.wr eI33 t_a0 (rfl : h_bd 13 6 = (0, 500)) (by omega) (by omega)
                        have hF := hF.wr eI33 t_a0 rfl
                        have ta := q_tokA (g := gb) (p := f0_6.toInt) (a := v1.toInt) (by omega) (by omega) (by omega) hx5_1 (q_B_f (by omega))
                        have tk := q_tok2 ta (by omega) (by omega) (by omega) (by omega) hx132_1 (q_D_f (by omega))
                        have hS := g.2.1
                        exact W.vret hx hb hr (fun t ht hW => ⟨⟨I33, rfl, ⟨hI, hF, (by rw [abt, ← egb, qf0_6]; refine ⟨by rw [show I33 a0 5 = v1 from (h_n2 eI33 (by decide)).trans ((h_n2 eI32 (by decide)).trans ((h_F.at hL132 t_a0 rfl).trans ((h_n2 eI23 (by decide)).trans (h_n0 eI8))))]; omega, by rw [show I33 a0 6 = v24 from h_n0 eI33]; exact tk.1.symm, ?_, by omega, by rw [show I33 a0 5 = v1 from (h_n2 eI33 (by decide)).trans ((h_n2 eI32 (by decide)).trans ((h_F.at hL132 t_a0 rfl).trans ((h_n2 eI23 (by decide)).trans (h_n0 eI8))))]; omega, by rw [show I33 a0 5 = v1 from (h_n2 eI33 (by decide)).trans ((h_n2 eI32 (by decide)).trans ((h_F.at hL132 t_a0 rfl).trans ((h_n2 eI23 (by decide)).trans (h_n0 eI8)))), show I33 a0 6 = v24 from h_n0 eI33]; omega, by rw [show I33 a0 6 = v24 from h_n0 eI33]; omega, ?_⟩; exact Or.inr (Or.inr (Or.inr (Or.inl ⟨by rw [tk.2.1, if_pos (by omega)], (by rw [show I33 a0 3 = 2 from (h_n2 eI33 (by decide)).trans (h_n0 eI32)]; decide), by rw [tk.2.2, show I33 a0 7 = v26 from (h_n2 eI33 (by decide)).trans ((h_n2 eI32 (by decide)).trans (ev26.symm))]; exact hx132_2 (by omega)⟩))); exact Or.inr (by rw [show I33 a0 5 = v1 from (h_n2 eI33 (by decide)).trans ((h_n2 eI32 (by decide)).trans ((h_F.at hL132 t_a0 rfl).trans ((h_n2 eI23 (by decide)).trans (h_n0 eI8)))), show I33 a0 6 = v24 from h_n0 eI33]; omega))⟩, h_ret g ht⟩, hS.F ht⟩) hS.2.2 dX12_scan_222
                      · have ic31 := (xi_nle c31 rfl (by decide) : 5 < v30.toInt)
                        refine lv_iconst (v := 0) hx hb dX12_scan_191 (by decide) ?_
                        refine lv_goto (tgt := 196) hx hb dX12_scan_192 (by decide) ?_
                        refine h_putI (ty := .int) (v := 0) hx hb hts iX12 tyX12 tyX12_ok nmX12 hown g t_a0 (by decide) so_13 rfl 3 (by decide) rfl (hts (.fieldLink RX12 146 "CapLeagueModel" "sort" "I") (by decide +kernel)) rfl rfl (by decide +kernel) rfl rfl dX12_scan_196 (fun I34 H locs eI34 g => ?_)
                        have hI := hI.wr eI34 t_a0 (rfl : h_bd 13 3 = ((-2147483648), 2147483647)) (by decide) (by decide)
                        have hF := hF.wr eI34 t_a0 rfl
                        refine lv_goto (tgt := 217) hx hb dX12_scan_199 (by decide) ?_
                        refine lv_aload_n hx hb dX12_scan_217 rfl (lv_at hl 0 rfl) ?_
                        refine lv_iload_n hx hb dX12_scan_218 rfl (lv_at hl 2 rfl) ?_
                        refine h_putI (ty := .int) (v := v24) hx hb hts iX12 tyX12 tyX12_ok nmX12 hown g t_a0 (by decide) so_13 rfl 6 (by decide) rfl (hts (.fieldLink RX12 140 "CapLeagueModel" "end" "I") (by decide +kernel)) rfl rfl (by decide +kernel) rfl rfl dX12_scan_219 (fun I35 H locs eI35 g => ?_)
                        have hI := hI.wr eI35 t_a0 (rfl : h_bd 13 6 = (0, 500)) (by omega) (by omega)
                        have hF := hF.wr eI35 t_a0 rfl
                        have ta := q_tokA (g := gb) (p := f0_6.toInt) (a := v1.toInt) (by omega) (by omega) (by omega) hx5_1 (q_B_f (by omega))
                        have tk := q_tok2 ta (by omega) (by omega) (by omega) (by omega) hx132_1 (q_D_f (by omega))
                        have hS := g.2.1
                        exact W.vret hx hb hr (fun t ht hW => ⟨⟨I35, rfl, ⟨hI, hF, (by rw [abt, ← egb, qf0_6]; refine ⟨by rw [show I35 a0 5 = v1 from (h_n2 eI35 (by decide)).trans ((h_n2 eI34 (by decide)).trans ((h_F.at hL132 t_a0 rfl).trans ((h_n2 eI23 (by decide)).trans (h_n0 eI8))))]; omega, by rw [show I35 a0 6 = v24 from h_n0 eI35]; exact tk.1.symm, ?_, by omega, by rw [show I35 a0 5 = v1 from (h_n2 eI35 (by decide)).trans ((h_n2 eI34 (by decide)).trans ((h_F.at hL132 t_a0 rfl).trans ((h_n2 eI23 (by decide)).trans (h_n0 eI8))))]; omega, by rw [show I35 a0 5 = v1 from (h_n2 eI35 (by decide)).trans ((h_n2 eI34 (by decide)).trans ((h_F.at hL132 t_a0 rfl).trans ((h_n2 eI23 (by decide)).trans (h_n0 eI8)))), show I35 a0 6 = v24 from h_n0 eI35]; omega, by rw [show I35 a0 6 = v24 from h_n0 eI35]; omega, ?_⟩; exact Or.inr (Or.inr (Or.inr (Or.inr (Or.inr ⟨by rw [tk.2.1, if_neg (by omega)], (by rw [show I35 a0 3 = 0 from (h_n2 eI35 (by decide)).trans (h_n0 eI34)]; decide)⟩)))); exact Or.inr (by rw [show I35 a0 5 = v1 from (h_n2 eI35 (by decide)).trans ((h_n2 eI34 (by decide)).trans ((h_F.at hL132 t_a0 rfl).trans ((h_n2 eI23 (by decide)).trans (h_n0 eI8)))), show I35 a0 6 = v24 from h_n0 eI35]; omega))⟩, h_ret g ht⟩, hS.F ht⟩) hS.2.2 dX12_scan_222
                    · skip
                      refine lv_if_eq (tgt := 183) hx hb dX12_scan_140 (by decide) (fun h => absurd h (by decide)) (fun _ => ?_)
                      refine lv_aload_n hx hb dX12_scan_143 rfl (lv_at hl 0 rfl) ?_
                      refine lv_iload_n hx hb dX12_scan_144 rfl (lv_at hl 2 rfl) ?_
                      refine lv_iload_n hx hb dX12_scan_145 rfl (lv_at hl 1 rfl) ?_
                      refine lv_isub hx hb dX12_scan_146 ?_
                      refine lv_topi (fun v37 ev37 => ?_)
                      have jv37 : v37.toInt = v24.toInt - v1.toInt := xi_sub ev37 rfl rfl (by omega) (by omega)
                      refine lv_iconst (v := 5) hx hb dX12_scan_147 (by decide) ?_
                      refine lv_icmp_ge (tgt := 170) hx hb dX12_scan_148 (by decide) (fun c38 => ?_) (fun c38 => ?_)
                      · have ic38 := (xi_le c38 (by decide) rfl : 5 ≤ v37.toInt)
                        refine lv_aload_n hx hb dX12_scan_170 rfl (lv_at hl 0 rfl) ?_
                        refine h_get (v := .int v26) hx hb hts iX12 hown g t_a0 (by decide) so_13 rfl 7 (by decide) (hts (.fieldLink RX12 163 "CapLeagueModel" "worth" "I") (by decide +kernel)) rfl dX12_scan_171 (congrArg Value.int (ev26.symm)) ?_
                        refine h_putI (ty := .int) (v := v26) hx hb hts iX12 tyX12 tyX12_ok nmX12 hown g t_a0 (by decide) so_13 rfl 7 (by decide) rfl (hts (.fieldLink RX12 163 "CapLeagueModel" "worth" "I") (by decide +kernel)) rfl rfl (by decide +kernel) rfl rfl dX12_scan_174 (fun I39 H locs eI39 g => ?_)
                        have hI := hI.wr eI39 t_a0 (rfl : h_bd 13 7 = ((-2147483648), 2147483647)) (xi_lo _) (Int.le_of_lt_add_one (xi_hi _))
                        have hF := hF.wr eI39 t_a0 rfl
                        obtain ⟨v40, ev40⟩ : ∃ z : Int32, z = v24 + 1 := ⟨_, rfl⟩
                        have jv40 : v40.toInt = v24.toInt + 1 := xi_add ev40 rfl (by decide) (by omega) (by omega)
                        refine lv_iinc (v := v40) (lv' := [(3, .int v40), (0, .ref a0), (1, .int v1)]) hx hb dX12_scan_177 hl (k := 2) rfl (by rw [ev40]; rfl) (by decide) rfl (fun ls hl => ?_)
                        refine lv_goto (tgt := 132) hx hb dX12_scan_180 (by decide) ?_
                        have k41 : (I39 a0 7).toInt = v26.toInt := (congrArg Int32.toInt (h_n0 eI39)).trans rfl
                        have tin := q_at_in (f := I0 bt) (n := (I0 a0 2).toInt) (p := v24.toInt) (by rw [← egb]; omega)
                        exact ih132 I39 _ _ _ v40 g hI hF (lv_sub hl [1, 2, 0] rfl) (by omega) (h_F.wr (h_F.call (h_F.rf : h_F [(13, 7)] z I23 I23) hL132 rfl) eI39 t_a0 rfl) (by omega) (q_more hx132_1 (q_D_t (by omega)) (by omega)) (fun h9 => absurd h9 (by omega)) (by omega)
                      · have ic38 := (xi_nle c38 (by decide) rfl : v37.toInt < 5)
                        refine lv_bipush (v := 10) hx hb dX12_scan_151 (by decide) ?_
                        refine lv_aload_n hx hb dX12_scan_153 rfl (lv_at hl 0 rfl) ?_
                        refine h_get (v := .int v26) hx hb hts iX12 hown g t_a0 (by decide) so_13 rfl 7 (by decide) (hts (.fieldLink RX12 163 "CapLeagueModel" "worth" "I") (by decide +kernel)) rfl dX12_scan_154 (congrArg Value.int (ev26.symm)) ?_
                        refine lv_imul hx hb dX12_scan_157 ?_
                        refine lv_topi (fun v42 ev42 => ?_)
                        have jv42 : -2147483648 ≤ v42.toInt ∧ v42.toInt ≤ 2147483647 := ⟨xi_lo _, Int.le_of_lt_add_one (xi_hi _)⟩
                        refine lv_aload_n hx hb dX12_scan_158 rfl (lv_at hl 0 rfl) ?_
                        refine lv_iload_n hx hb dX12_scan_159 rfl (lv_at hl 2 rfl) ?_
                        refine vp_callSi (W.runV (As := [.int v24]) (rest := [.int v42, .ref a0]) ⟨hx, hb, hml, hown, hts⟩ (tX12_seeF l E X A z I25 L0 a0 t_a0 v24 (v24.toInt) rfl (by omega)) (cwV 1 hts gX12_scan_X12_see rfl rfl rfl (by decide +kernel) ⟨Nat.le_of_ble_eq_true rfl, Nat.le_of_ble_eq_true rfl⟩) ⟨h_blind _ _ _ _ _ _ _, h_recv g t_a0 (by decide) so_13 (q := (RX12, TX12, 51)) rfl, h_pre _ hE hk hX hA hI hR g⟩ rfl rfl hl.1 rfl (lv_room (Nat.le_of_ble_eq_true rfl)) dX12_scan_160 ⟨Nat.le_of_ble_eq_true rfl, Nat.le_of_ble_eq_true rfl⟩) (fun rh43 h43 => ?_)
                        obtain ⟨h43, h43p0⟩ := h43
                        rw [abt, show I25 bt = I0 bt from funext (fun k => hF.at tbt rfl), show I25 a0 2 = I0 a0 2 from hF.at t_a0 rfl, ← egb] at h43p0
                        refine lv_iadd hx hb dX12_scan_163 ?_
                        refine lv_topi (fun v44 ev44 => ?_)
                        have jv44 : -2147483648 ≤ v44.toInt ∧ v44.toInt ≤ 2147483647 := ⟨xi_lo _, Int.le_of_lt_add_one (xi_hi _)⟩
                        refine lv_bipush (v := 48) hx hb dX12_scan_164 (by decide) ?_
                        refine lv_isub hx hb dX12_scan_166 ?_
                        refine lv_topi (fun v45 ev45 => ?_)
                        have jv45 : -2147483648 ≤ v45.toInt ∧ v45.toInt ≤ 2147483647 := ⟨xi_lo _, Int.le_of_lt_add_one (xi_hi _)⟩
                        refine lv_goto (tgt := 174) hx hb dX12_scan_167 (by decide) ?_
                        refine h_putI (ty := .int) (v := v45) hx hb hts iX12 tyX12 tyX12_ok nmX12 hown g t_a0 (by decide) so_13 rfl 7 (by decide) rfl (hts (.fieldLink RX12 163 "CapLeagueModel" "worth" "I") (by decide +kernel)) rfl rfl (by decide +kernel) rfl rfl dX12_scan_174 (fun I46 H locs eI46 g => ?_)
                        have hI := hI.wr eI46 t_a0 (rfl : h_bd 13 7 = ((-2147483648), 2147483647)) (xi_lo _) (Int.le_of_lt_add_one (xi_hi _))
                        have hF := hF.wr eI46 t_a0 rfl
                        obtain ⟨v47, ev47⟩ : ∃ z : Int32, z = v24 + 1 := ⟨_, rfl⟩
                        have jv47 : v47.toInt = v24.toInt + 1 := xi_add ev47 rfl (by decide) (by omega) (by omega)
                        refine lv_iinc (v := v47) (lv' := [(3, .int v47), (0, .ref a0), (1, .int v1)]) hx hb dX12_scan_177 hl (k := 2) rfl (by rw [ev47]; rfl) (by decide) rfl (fun ls hl => ?_)
                        refine lv_goto (tgt := 132) hx hb dX12_scan_180 (by decide) ?_
                        have k48 : (I46 a0 7).toInt = v45.toInt := (congrArg Int32.toInt (h_n0 eI46)).trans rfl
                        have tin := q_at_in (f := I0 bt) (n := (I0 a0 2).toInt) (p := v24.toInt) (by rw [← egb]; omega)
                        exact ih132 I46 _ _ _ v47 g hI hF (lv_sub hl [1, 2, 0] rfl) (by omega) (h_F.wr (h_F.call (h_F.rf : h_F [(13, 7)] z I23 I23) hL132 rfl) eI46 t_a0 rfl) (by omega) (q_more hx132_1 (q_D_t (by omega)) (by omega)) (by rw [show I46 a0 7 = v45 from h_n0 eI46]; exact q_numstep2 ev42 ev44 ev45 h43p0 (by omega) (by omega) hx132_1 (by omega) hx132_2) (by omega)
                have k49 : (I23 a0 7).toInt = v22.toInt := (congrArg Int32.toInt (h_n0 eI23)).trans rfl
                exact loop132_1 _ I23 _ _ _ v10 g hI hF (lv_sub hl [2, 3, 0] rfl) (by omega) (h_F.rf : h_F [(13, 7)] z I23 I23) (by omega) (q_more (q_none (b := v1.toInt) rfl) (q_D_t (by omega)) (by omega)) (fun _ => by rw [show I23 a0 7 = v22 from h_n0 eI23, q_dec1 (a := v1.toInt) (by omega)]; omega) (show (501 - v10.toInt) < (((501 - v10.toInt).toNat + 1 : Nat) : Int) by omega)
            · skip
              refine lv_if_eq (tgt := 117) hx hb dX12_scan_65 (by decide) (fun h => absurd h (by decide)) (fun _ => ?_)
              have loop68_2 : ∀ (n : Nat) (I52 : tI) (H : Heap) (locs : List Loc) (ls : Array Slot) (v51 : Int32), h_G h_so h_fk E A z I52 L0 s s.heap H locs → h_I z I52 → h_F [(13, 5), (13, 3), (13, 4), (13, 7), (13, 6)] z I0 I52 → lv_has ls 4 [(0, .ref a0), (1, .int v1), (3, .int v51)] → (1 ≤ v51.toInt ∧ v51.toInt ≤ 500) → h_F [] z I8 I52 → (v1.toInt + 1 ≤ v51.toInt) → (∀ j : Int, v1.toInt ≤ j → j < v51.toInt → q_L (gb j) = true) → (501 - v51.toInt) < (n : Int) → W pr_ l ev_ (headSpec wsX12_scan ({ frames := 6, cells := 0, slots := 0, locals := 384 })).room s m ([.ref a0] : List Value).toArray below meth cd_ H locs 0 0 (MQ below (va_Qv (fun (I1 : tI) => h_I z I1 ∧ h_F [(13, 5), (13, 3), (13, 4), (13, 7), (13, 6)] z I0 I1 ∧ (h_tk (q_at (I0 (h_ad z a0 0)) (I0 a0 2).toInt) I1 a0 (I0 a0 6).toInt)) (fun (I1 : tI) t => h_B E A z I1 L0 t) A) ([.ref a0] : List Value).toArray s 0 0 A) (F0 m 68 ls []) := by
                intro n
                induction n with
                | zero => intro I52 H locs ls v51 g hI hF hl jv51 hL68 hx68_0 hx68_1 hn; exact absurd hn (by omega)
                | succ n ih68 =>
                  intro I52 H locs ls v51 g hI hF hl jv51 hL68 hx68_0 hx68_1 hn
                  refine lv_aload_n hx hb dX12_scan_68 rfl (lv_at hl 0 rfl) ?_
                  refine lv_iload_n hx hb dX12_scan_69 rfl (lv_at hl 2 rfl) ?_
                  refine vp_callSi (W.runV (As := [.int v51]) (rest := []) ⟨hx, hb, hml, hown, hts⟩ (tX12_seeF l E X A z I52 L0 a0 t_a0 v51 (v51.toInt) rfl (by omega)) (cwV 1 hts gX12_scan_X12_see rfl rfl rfl (by decide +kernel) ⟨Nat.le_of_ble_eq_true rfl, Nat.le_of_ble_eq_true rfl⟩) ⟨h_blind _ _ _ _ _ _ _, h_recv g t_a0 (by decide) so_13 (q := (RX12, TX12, 51)) rfl, h_pre _ hE hk hX hA hI hR g⟩ rfl rfl hl.1 rfl (lv_room (Nat.le_of_ble_eq_true rfl)) dX12_scan_70 ⟨Nat.le_of_ble_eq_true rfl, Nat.le_of_ble_eq_true rfl⟩) (fun rh53 h53 => ?_)
                  obtain ⟨h53, h53p0⟩ := h53
                  rw [abt, show I52 bt = I0 bt from funext (fun k => hF.at tbt rfl), show I52 a0 2 = I0 a0 2 from hF.at t_a0 rfl, ← egb] at h53p0
                  refine vp_callSi (W.runS (As := [.int rh53]) (rest := []) ⟨hx, hb, hml, hown, hts⟩ (tX12_isSmallF l E X A z I52 L0 rh53 (rh53.toInt) rfl) (va_cwS 1 hts gX12_scan_X12_isSmall rfl rfl rfl (by decide +kernel) ⟨Nat.le_of_ble_eq_true rfl, Nat.le_of_ble_eq_true rfl⟩) ⟨h_blind _ _ _ _ _ _ _, h_pre _ hE hk hX hA hI hR g⟩ rfl rfl hl.1 rfl (lv_room (Nat.le_of_ble_eq_true rfl)) dX12_scan_73 ⟨Nat.le_of_ble_eq_true rfl, Nat.le_of_ble_eq_true rfl⟩) (fun rh54 h54 => ?_)
                  rcases h54 with ⟨rfl, h54⟩ | ⟨rfl, h54⟩
                  · skip
                    refine lv_if_eq (tgt := 85) hx hb dX12_scan_76 (by decide) (fun _ => ?_) (fun h => absurd (by decide) h)
                    refine lv_aload_n hx hb dX12_scan_85 rfl (lv_at hl 0 rfl) ?_
                    refine lv_aload_n hx hb dX12_scan_86 rfl (lv_at hl 0 rfl) ?_
                    refine lv_iload_n hx hb dX12_scan_87 rfl (lv_at hl 1 rfl) ?_
                    refine lv_iload_n hx hb dX12_scan_88 rfl (lv_at hl 2 rfl) ?_
                    refine lv_iload_n hx hb dX12_scan_89 rfl (lv_at hl 1 rfl) ?_
                    refine lv_isub hx hb dX12_scan_90 ?_
                    refine lv_topi (fun v56 ev56 => ?_)
                    have jv56 : v56.toInt = v51.toInt - v1.toInt := xi_sub ev56 rfl rfl (by omega) (by omega)
                    refine vp_callSi (W.runV (As := [.int v1, .int v56]) (rest := [.ref a0]) ⟨hx, hb, hml, hown, hts⟩ (tX12_keyAtF l E X A z I52 L0 a0 t_a0 v1 (v1.toInt) rfl (by omega) v56 (v56.toInt) rfl (by omega)) (cwV 2 hts gX12_scan_X12_keyAt rfl rfl rfl (by decide +kernel) ⟨Nat.le_of_ble_eq_true rfl, Nat.le_of_ble_eq_true rfl⟩) ⟨h_blind _ _ _ _ _ _ _, h_recv g t_a0 (by decide) so_13 (q := (RX12, TX12, 51)) rfl, h_pre _ hE hk hX hA hI hR g⟩ rfl rfl hl.1 rfl (lv_room (Nat.le_of_ble_eq_true rfl)) dX12_scan_91 ⟨Nat.le_of_ble_eq_true rfl, Nat.le_of_ble_eq_true rfl⟩) (fun rh57 h57 => ?_)
                    obtain ⟨h57, h57p0⟩ := h57
                    rw [abt, show I52 bt = I0 bt from funext (fun k => hF.at tbt rfl), show I52 a0 2 = I0 a0 2 from hF.at t_a0 rfl, ← egb] at h57p0
                    refine h_putI (ty := .int) (v := rh57) hx hb hts iX12 tyX12 tyX12_ok nmX12 hown g t_a0 (by decide) so_13 rfl 4 (by decide) rfl (hts (.fieldLink RX12 157 "CapLeagueModel" "what" "I") (by decide +kernel)) rfl rfl (by decide +kernel) rfl rfl dX12_scan_94 (fun I58 H locs eI58 g => ?_)
                    have hI := hI.wr eI58 t_a0 (rfl : h_bd 13 4 = ((-1), 60)) (by omega) (by omega)
                    have hF := hF.wr eI58 t_a0 rfl
                    refine lv_aload_n hx hb dX12_scan_97 rfl (lv_at hl 0 rfl) ?_
                    refine lv_aload_n hx hb dX12_scan_98 rfl (lv_at hl 0 rfl) ?_
                    refine h_get (v := .int rh57) hx hb hts iX12 hown g t_a0 (by decide) so_13 rfl 4 (by decide) (hts (.fieldLink RX12 157 "CapLeagueModel" "what" "I") (by decide +kernel)) rfl dX12_scan_99 (congrArg Value.int (h_n0 eI58)) ?_
                    refine lv_iconst (v := (-1)) hx hb dX12_scan_102 (by decide) ?_
                    refine lv_icmp_ne (tgt := 110) hx hb dX12_scan_103 (by decide) (fun c59 => ?_) (fun c59 => ?_)
                    · have ic59 := (xi_ne c59 rfl (by decide) : rh57.toInt ≠ (-1))
                      refine lv_iconst (v := 1) hx hb dX12_scan_110 (by decide) ?_
                      refine h_putI (ty := .int) (v := 1) hx hb hts iX12 tyX12 tyX12_ok nmX12 hown g t_a0 (by decide) so_13 rfl 3 (by decide) rfl (hts (.fieldLink RX12 146 "CapLeagueModel" "sort" "I") (by decide +kernel)) rfl rfl (by decide +kernel) rfl rfl dX12_scan_111 (fun I60 H locs eI60 g => ?_)
                      have hI := hI.wr eI60 t_a0 (rfl : h_bd 13 3 = ((-2147483648), 2147483647)) (by decide) (by decide)
                      have hF := hF.wr eI60 t_a0 rfl
                      refine lv_goto (tgt := 217) hx hb dX12_scan_114 (by decide) ?_
                      refine lv_aload_n hx hb dX12_scan_217 rfl (lv_at hl 0 rfl) ?_
                      refine lv_iload_n hx hb dX12_scan_218 rfl (lv_at hl 2 rfl) ?_
                      refine h_putI (ty := .int) (v := v51) hx hb hts iX12 tyX12 tyX12_ok nmX12 hown g t_a0 (by decide) so_13 rfl 6 (by decide) rfl (hts (.fieldLink RX12 140 "CapLeagueModel" "end" "I") (by decide +kernel)) rfl rfl (by decide +kernel) rfl rfl dX12_scan_219 (fun I61 H locs eI61 g => ?_)
                      have hI := hI.wr eI61 t_a0 (rfl : h_bd 13 6 = (0, 500)) (by omega) (by omega)
                      have hF := hF.wr eI61 t_a0 rfl
                      have ta := q_tokA (g := gb) (p := f0_6.toInt) (a := v1.toInt) (by omega) (by omega) (by omega) hx5_1 (q_B_f (by omega))
                      have tk := q_tok1 ta (by omega) (by omega) (by omega) (by omega) hx68_1 (q_L_f (by omega))
                      have hS := g.2.1
                      exact W.vret hx hb hr (fun t ht hW => ⟨⟨I61, rfl, ⟨hI, hF, (by rw [abt, ← egb, qf0_6]; refine ⟨by rw [show I61 a0 5 = v1 from (h_n2 eI61 (by decide)).trans ((h_n2 eI60 (by decide)).trans ((h_n2 eI58 (by decide)).trans ((h_F.at hL68 t_a0 rfl).trans (h_n0 eI8))))]; omega, by rw [show I61 a0 6 = v51 from h_n0 eI61]; exact tk.1.symm, ?_, by omega, by rw [show I61 a0 5 = v1 from (h_n2 eI61 (by decide)).trans ((h_n2 eI60 (by decide)).trans ((h_n2 eI58 (by decide)).trans ((h_F.at hL68 t_a0 rfl).trans (h_n0 eI8))))]; omega, by rw [show I61 a0 5 = v1 from (h_n2 eI61 (by decide)).trans ((h_n2 eI60 (by decide)).trans ((h_n2 eI58 (by decide)).trans ((h_F.at hL68 t_a0 rfl).trans (h_n0 eI8)))), show I61 a0 6 = v51 from h_n0 eI61]; omega, by rw [show I61 a0 6 = v51 from h_n0 eI61]; omega, ?_⟩; exact (by have qw : q_w gb f0_6.toInt = rh57.toInt := (by unfold q_w; rw [ta, tk.1, show v51.toInt - v1.toInt = v56.toInt by omega]; exact h57p0.symm); have qf := q_fd_rg (g := gb) (a := v1.toInt) (n := v56.toInt); exact Or.inr (Or.inr (Or.inl ⟨tk.2, by omega, by omega, (by rw [show I61 a0 3 = 1 from (h_n2 eI61 (by decide)).trans (h_n0 eI60)]; decide), by rw [show I61 a0 4 = rh57 from (h_n2 eI61 (by decide)).trans ((h_n2 eI60 (by decide)).trans (h_n0 eI58))]; omega⟩))); exact Or.inr (by rw [show I61 a0 5 = v1 from (h_n2 eI61 (by decide)).trans ((h_n2 eI60 (by decide)).trans ((h_n2 eI58 (by decide)).trans ((h_F.at hL68 t_a0 rfl).trans (h_n0 eI8)))), show I61 a0 6 = v51 from h_n0 eI61]; omega))⟩, h_ret g ht⟩, hS.F ht⟩) hS.2.2 dX12_scan_222
                    · have ic59 := (xi_eq c59 rfl (by decide) : rh57.toInt = (-1))
                      refine lv_iconst (v := 0) hx hb dX12_scan_106 (by decide) ?_
                      refine lv_goto (tgt := 111) hx hb dX12_scan_107 (by decide) ?_
                      refine h_putI (ty := .int) (v := 0) hx hb hts iX12 tyX12 tyX12_ok nmX12 hown g t_a0 (by decide) so_13 rfl 3 (by decide) rfl (hts (.fieldLink RX12 146 "CapLeagueModel" "sort" "I") (by decide +kernel)) rfl rfl (by decide +kernel) rfl rfl dX12_scan_111 (fun I62 H locs eI62 g => ?_)
                      have hI := hI.wr eI62 t_a0 (rfl : h_bd 13 3 = ((-2147483648), 2147483647)) (by decide) (by decide)
                      have hF := hF.wr eI62 t_a0 rfl
                      refine lv_goto (tgt := 217) hx hb dX12_scan_114 (by decide) ?_
                      refine lv_aload_n hx hb dX12_scan_217 rfl (lv_at hl 0 rfl) ?_
                      refine lv_iload_n hx hb dX12_scan_218 rfl (lv_at hl 2 rfl) ?_
                      refine h_putI (ty := .int) (v := v51) hx hb hts iX12 tyX12 tyX12_ok nmX12 hown g t_a0 (by decide) so_13 rfl 6 (by decide) rfl (hts (.fieldLink RX12 140 "CapLeagueModel" "end" "I") (by decide +kernel)) rfl rfl (by decide +kernel) rfl rfl dX12_scan_219 (fun I63 H locs eI63 g => ?_)
                      have hI := hI.wr eI63 t_a0 (rfl : h_bd 13 6 = (0, 500)) (by omega) (by omega)
                      have hF := hF.wr eI63 t_a0 rfl
                      have ta := q_tokA (g := gb) (p := f0_6.toInt) (a := v1.toInt) (by omega) (by omega) (by omega) hx5_1 (q_B_f (by omega))
                      have tk := q_tok1 ta (by omega) (by omega) (by omega) (by omega) hx68_1 (q_L_f (by omega))
                      have hS := g.2.1
                      exact W.vret hx hb hr (fun t ht hW => ⟨⟨I63, rfl, ⟨hI, hF, (by rw [abt, ← egb, qf0_6]; refine ⟨by rw [show I63 a0 5 = v1 from (h_n2 eI63 (by decide)).trans ((h_n2 eI62 (by decide)).trans ((h_n2 eI58 (by decide)).trans ((h_F.at hL68 t_a0 rfl).trans (h_n0 eI8))))]; omega, by rw [show I63 a0 6 = v51 from h_n0 eI63]; exact tk.1.symm, ?_, by omega, by rw [show I63 a0 5 = v1 from (h_n2 eI63 (by decide)).trans ((h_n2 eI62 (by decide)).trans ((h_n2 eI58 (by decide)).trans ((h_F.at hL68 t_a0 rfl).trans (h_n0 eI8))))]; omega, by rw [show I63 a0 5 = v1 from (h_n2 eI63 (by decide)).trans ((h_n2 eI62 (by decide)).trans ((h_n2 eI58 (by decide)).trans ((h_F.at hL68 t_a0 rfl).trans (h_n0 eI8)))), show I63 a0 6 = v51 from h_n0 eI63]; omega, by rw [show I63 a0 6 = v51 from h_n0 eI63]; omega, ?_⟩; exact (by have qw : q_w gb f0_6.toInt = rh57.toInt := (by unfold q_w; rw [ta, tk.1, show v51.toInt - v1.toInt = v56.toInt by omega]; exact h57p0.symm); exact Or.inr (Or.inl ⟨tk.2, by omega, (by rw [show I63 a0 3 = 0 from (h_n2 eI63 (by decide)).trans (h_n0 eI62)]; decide)⟩)); exact Or.inr (by rw [show I63 a0 5 = v1 from (h_n2 eI63 (by decide)).trans ((h_n2 eI62 (by decide)).trans ((h_n2 eI58 (by decide)).trans ((h_F.at hL68 t_a0 rfl).trans (h_n0 eI8)))), show I63 a0 6 = v51 from h_n0 eI63]; omega))⟩, h_ret g ht⟩, hS.F ht⟩) hS.2.2 dX12_scan_222
                  · skip
                    refine lv_if_eq (tgt := 85) hx hb dX12_scan_76 (by decide) (fun h => absurd h (by decide)) (fun _ => ?_)
                    obtain ⟨v65, ev65⟩ : ∃ z : Int32, z = v51 + 1 := ⟨_, rfl⟩
                    have jv65 : v65.toInt = v51.toInt + 1 := xi_add ev65 rfl (by decide) (by omega) (by omega)
                    refine lv_iinc (v := v65) (lv' := [(3, .int v65), (0, .ref a0), (1, .int v1)]) hx hb dX12_scan_79 hl (k := 2) rfl (by rw [ev65]; rfl) (by decide) rfl (fun ls hl => ?_)
                    refine lv_goto (tgt := 68) hx hb dX12_scan_82 (by decide) ?_
                    have tin := q_at_in (f := I0 bt) (n := (I0 a0 2).toInt) (p := v51.toInt) (by rw [← egb]; omega)
                    exact ih68 I52 _ _ _ v65 g hI hF (lv_sub hl [1, 2, 0] rfl) (by omega) (h_F.call (h_F.rf : h_F [] z I8 I8) hL68 rfl) (by omega) (q_more hx68_1 (q_L_t (by omega)) (by omega)) (by omega)
              exact loop68_2 _ I8 _ _ _ v10 g hI hF (lv_sub hl [2, 3, 0] rfl) (by omega) (h_F.rf : h_F [] z I8 I8) (by omega) (q_more (q_none (b := v1.toInt) rfl) (q_L_t (by omega)) (by omega)) (show (501 - v10.toInt) < (((501 - v10.toInt).toNat + 1 : Nat) : Int) by omega)
          · have ic11 := (xi_eq c11 rfl (by decide) : rh9.toInt = (-1))
            refine lv_aload_n hx hb dX12_scan_51 rfl (lv_at hl 2 rfl) ?_
            refine lv_iconst (v := 4) hx hb dX12_scan_52 (by decide) ?_
            refine h_putI (ty := .int) (v := 4) hx hb hts iX12 tyX12 tyX12_ok nmX12 hown g t_a0 (by decide) so_13 rfl 3 (by decide) rfl (hts (.fieldLink RX12 146 "CapLeagueModel" "sort" "I") (by decide +kernel)) rfl rfl (by decide +kernel) rfl rfl dX12_scan_53 (fun I66 H locs eI66 g => ?_)
            have hI := hI.wr eI66 t_a0 (rfl : h_bd 13 3 = ((-2147483648), 2147483647)) (by decide) (by decide)
            have hF := hF.wr eI66 t_a0 rfl
            refine lv_iload_n hx hb dX12_scan_56 rfl (lv_at hl 3 rfl) ?_
            refine lv_istore_n (lv' := [(3, .int v1), (2, .int rh9), (0, .ref a0), (1, .int v1)]) hx hb dX12_scan_57 rfl hl (by decide) rfl (fun ls hl => ?_)
            refine lv_goto (tgt := 217) hx hb dX12_scan_58 (by decide) ?_
            refine lv_aload_n hx hb dX12_scan_217 rfl (lv_at hl 2 rfl) ?_
            refine lv_iload_n hx hb dX12_scan_218 rfl (lv_at hl 0 rfl) ?_
            refine h_putI (ty := .int) (v := v1) hx hb hts iX12 tyX12 tyX12_ok nmX12 hown g t_a0 (by decide) so_13 rfl 6 (by decide) rfl (hts (.fieldLink RX12 140 "CapLeagueModel" "end" "I") (by decide +kernel)) rfl rfl (by decide +kernel) rfl rfl dX12_scan_219 (fun I67 H locs eI67 g => ?_)
            have hI := hI.wr eI67 t_a0 (rfl : h_bd 13 6 = (0, 500)) (by omega) (by omega)
            have hF := hF.wr eI67 t_a0 rfl
            have ta := q_tokA (g := gb) (p := f0_6.toInt) (a := v1.toInt) (by omega) (by omega) (by omega) hx5_1 (q_B_f (by omega))
            have tk := q_tok0 ta (by omega)
            have hS := g.2.1
            exact W.vret hx hb hr (fun t ht hW => ⟨⟨I67, rfl, ⟨hI, hF, (by rw [abt, ← egb, qf0_6]; refine ⟨by rw [show I67 a0 5 = v1 from (h_n2 eI67 (by decide)).trans ((h_n2 eI66 (by decide)).trans (h_n0 eI8))]; omega, by rw [show I67 a0 6 = v1 from h_n0 eI67]; exact tk.1.symm, ?_, by omega, by rw [show I67 a0 5 = v1 from (h_n2 eI67 (by decide)).trans ((h_n2 eI66 (by decide)).trans (h_n0 eI8))]; omega, by rw [show I67 a0 5 = v1 from (h_n2 eI67 (by decide)).trans ((h_n2 eI66 (by decide)).trans (h_n0 eI8)), show I67 a0 6 = v1 from h_n0 eI67]; omega, by rw [show I67 a0 6 = v1 from h_n0 eI67]; omega, ?_⟩; exact Or.inl ⟨tk.2, (by rw [show I67 a0 3 = 4 from (h_n2 eI67 (by decide)).trans (h_n0 eI66)]; decide)⟩; exact Or.inl (by rw [show I67 a0 3 = 4 from (h_n2 eI67 (by decide)).trans (h_n0 eI66)]; decide))⟩, h_ret g ht⟩, hS.F ht⟩) hS.2.2 dX12_scan_222
        · have ic7 := (xi_eq c7 rfl (by decide) : rh6.toInt = 10)
          obtain ⟨v68, ev68⟩ : ∃ z : Int32, z = v1 + 1 := ⟨_, rfl⟩
          have jv68 : v68.toInt = v1.toInt + 1 := xi_add ev68 rfl (by decide) (by omega) (by omega)
          refine lv_iinc (v := v68) (lv' := [(1, .int v68), (0, .ref a0)]) hx hb dX12_scan_25 hl (k := 1) rfl (by rw [ev68]; rfl) (by decide) rfl (fun ls hl => ?_)
          refine lv_goto (tgt := 5) hx hb dX12_scan_28 (by decide) ?_
          have tin := q_at_in (f := I0 bt) (n := (I0 a0 2).toInt) (p := v1.toInt) (by rw [← egb]; omega)
          exact ih5 I2 _ _ _ v68 g hI hF (lv_sub hl [1, 0] rfl) (by omega) (h_F.call (h_F.rf : h_F [] z I0 I0) hL5 rfl) (by omega) (q_more hx5_1 (q_B_t (by omega)) (by omega)) (by omega)
  exact loop5_0 _ I0 _ _ _ f0_6 g hI hF (lv_sub hl [1, 0] rfl) (by omega) (h_F.rf : h_F [] z I0 I0) (by omega) (q_none rfl) (show (501 - f0_6.toInt) < (((501 - f0_6.toInt).toNat + 1 : Nat) : Int) by omega)
set_option maxHeartbeats 4000000 in
set_option maxRecDepth 100000 in
theorem tX12_failsF (l : Launch) (E : tE) (X : tX) (A : Nat → Prop) (z : tZ) (I0 : tI) (L0 : tL) (a0 : Nat) (t_a0 : z.ty a0 = 13) (k : Int32) (k_t : Int) (h_k : k.toInt = k_t) : Met l yX12_fails wsX12_fails ({ frames := 1, cells := 0, slots := 0, locals := 64 }) (va_Pc [.ref a0, .int k] (h_P E X A z I0 L0)) (va_Qi (fun r (I1 : tI) => h_I z I1 ∧ h_F [(13, 8), (13, 9)] z I0 I1 ∧ (0 ≤ r.toInt ∧ r.toInt ≤ 0) ∧ (I1 a0 8 = k ∧ I1 a0 9 = I0 a0 5)) (fun (I1 : tI) t => h_B E A z I1 L0 t) A) 0 0 A := by
  refine Met.ofW (cc := cX12_fails) (maxL := 2) (ret := (some .boolean)) (by decide) rfl ?_
  intro pr_ ev_ s m args below meth cd_ s₁ B hml hv
  obtain ⟨rfl, hE, hk, hX, hA, hK, hI, hR, hB0⟩ := hv
  have g : h_G h_so h_fk E A z I0 L0 s s.heap s.heap [] := ⟨hK, va_S.rf, hB0⟩
  have hF : h_F [(13, 8), (13, 9)] z I0 I0 := h_F.rf
  have hx := B.exec
  have hb := B.bytes
  have hr := B.returns
  have hts := atoms_spec (ws := wsX12_fails) B.pre
  have hown : s.vm.findClass RX12 = some m.cls := findClass_of_methodNamed B.named
  have hlocks := B.notSynchronized
  have iX12 : ∀ w ∈ u_ws RX12 TX12 51, w ∈ wsX12_fails := by decide +kernel
  have hl := lv_entry ([.ref a0, .int k]) (n := 2) (Nat.le_of_ble_eq_true rfl)
  rw [lg_entry_eq]
  generalize (lg_sl ([.ref a0, .int k]) ++ List.replicate (2 - (lg_sl ([.ref a0, .int k])).length) Slot.unset).toArray = ls at hl ⊢
  have hl : lv_has ls 2 [(0, .ref a0), (1, .int k)] := hl
  have b_k : -2147483648 ≤ k_t ∧ k_t ≤ 2147483647 := h_k ▸ ⟨xi_lo k, Int.le_of_lt_add_one (xi_hi k)⟩
  obtain ⟨f0_5, ef0_5⟩ : ∃ v : Int32, v = I0 a0 5 := ⟨_, rfl⟩
  have qf0_5 : (I0 a0 5).toInt = f0_5.toInt := congrArg Int32.toInt ef0_5.symm
  have jf0_5 := hI.rd a0 5 t_a0 ef0_5 (rfl : h_bd 13 5 = ((-2147483648), 2147483647))
  refine lv_aload_n hx hb dX12_fails_0 rfl (lv_at hl 0 rfl) ?_
  refine lv_iload_n hx hb dX12_fails_1 rfl (lv_at hl 1 rfl) ?_
  refine h_putI (ty := .int) (v := k) hx hb hts iX12 tyX12 tyX12_ok nmX12 hown g t_a0 (by decide) so_13 rfl 8 (by decide) rfl (hts (.fieldLink RX12 166 "CapLeagueModel" "faultKind" "I") (by decide +kernel)) rfl rfl (by decide +kernel) rfl rfl dX12_fails_2 (fun I1 H locs eI1 g => ?_)
  have hI := hI.wr eI1 t_a0 (rfl : h_bd 13 8 = ((-2147483648), 2147483647)) (xi_lo _) (Int.le_of_lt_add_one (xi_hi _))
  have hF := hF.wr eI1 t_a0 rfl
  refine lv_aload_n hx hb dX12_fails_5 rfl (lv_at hl 0 rfl) ?_
  refine lv_aload_n hx hb dX12_fails_6 rfl (lv_at hl 0 rfl) ?_
  refine h_get (v := .int f0_5) hx hb hts iX12 hown g t_a0 (by decide) so_13 rfl 5 (by decide) (hts (.fieldLink RX12 143 "CapLeagueModel" "at" "I") (by decide +kernel)) rfl dX12_fails_7 (congrArg Value.int ((h_n2 eI1 (by decide)).trans (ef0_5.symm))) ?_
  refine h_putI (ty := .int) (v := f0_5) hx hb hts iX12 tyX12 tyX12_ok nmX12 hown g t_a0 (by decide) so_13 rfl 9 (by decide) rfl (hts (.fieldLink RX12 13 "CapLeagueModel" "faultPlace" "I") (by decide +kernel)) rfl rfl (by decide +kernel) rfl rfl dX12_fails_10 (fun I2 H locs eI2 g => ?_)
  have hI := hI.wr eI2 t_a0 (rfl : h_bd 13 9 = ((-2147483648), 2147483647)) (xi_lo _) (Int.le_of_lt_add_one (xi_hi _))
  have hF := hF.wr eI2 t_a0 rfl
  refine lv_iconst (v := 0) hx hb dX12_fails_13 (by decide) ?_
  have hS := g.2.1
  exact W.zret (v := 0) hx hb hr (by decide) (fun t ht hW => ⟨⟨0, I2, rfl, ⟨hI, hF, ⟨⟨(by decide), (by decide)⟩, (⟨(h_n2 eI2 (by decide)).trans (h_n0 eI1), (h_n0 eI2).trans ef0_5⟩)⟩⟩, h_ret g ht⟩, hS.F ht⟩) hS.2.2 dX12_fails_14
set_option maxHeartbeats 4000000 in
set_option maxRecDepth 100000 in
theorem tX12_numberF7 (l : Launch) (E : tE) (X : tX) (A : Nat → Prop) (z : tZ) (I0 : tI) (L0 : tL) (a0 : Nat) (t_a0 : z.ty a0 = 13) (y : Int32) (y_t : Int) (h_y : y.toInt = y_t) (b_y : 0 ≤ y_t ∧ y_t ≤ 7) (a : Int32) (a_t : Int) (h_a : a.toInt = a_t) (b : Int32) (b_t : Int) (h_b : b.toInt = b_t) (p_ : Int) (htk : h_tk (q_at (I0 (h_ad z a0 0)) (I0 a0 2).toInt) I0 a0 p_) : Met l yX12_number wsX12_number ({ frames := 7, cells := 0, slots := 0, locals := 448 }) (va_Pc [.ref a0, .int y, .int a, .int b] (h_P E X A z I0 L0)) (va_Qi (fun r (I1 : tI) => h_I z I1 ∧ h_F [(13, 5), (13, 3), (13, 4), (13, 7), (13, 6), (13, 8), (13, 9), (1310, 999)] z I0 I1 ∧ (0 ≤ r.toInt ∧ r.toInt ≤ 1) ∧ ((r.toInt = 1 ∧ q_k (q_at (I0 (h_ad z a0 0)) (I0 a0 2).toInt) p_ = 2 ∧ a_t ≤ q_v (q_at (I0 (h_ad z a0 0)) (I0 a0 2).toInt) p_ ∧ q_v (q_at (I0 (h_ad z a0 0)) (I0 a0 2).toInt) p_ ≤ b_t ∧ (I1 (h_ad z a0 10) (160 + y_t).toNat).toInt = q_v (q_at (I0 (h_ad z a0 0)) (I0 a0 2).toInt) p_ ∧ h_tk (q_at (I0 (h_ad z a0 0)) (I0 a0 2).toInt) I1 a0 (q_e (q_at (I0 (h_ad z a0 0)) (I0 a0 2).toInt) p_) ∧ I1 a0 8 = I0 a0 8 ∧ I1 a0 9 = I0 a0 9) ∨ (r.toInt = 0 ∧ q_k (q_at (I0 (h_ad z a0 0)) (I0 a0 2).toInt) p_ ≠ 2 ∧ (I1 a0 8).toInt = 1 ∧ (I1 a0 9).toInt = q_a (q_at (I0 (h_ad z a0 0)) (I0 a0 2).toInt) p_) ∨ (r.toInt = 0 ∧ q_k (q_at (I0 (h_ad z a0 0)) (I0 a0 2).toInt) p_ = 2 ∧ (q_v (q_at (I0 (h_ad z a0 0)) (I0 a0 2).toInt) p_ < a_t ∨ b_t < q_v (q_at (I0 (h_ad z a0 0)) (I0 a0 2).toInt) p_) ∧ (I1 a0 8).toInt = 2 ∧ (I1 a0 9).toInt = q_a (q_at (I0 (h_ad z a0 0)) (I0 a0 2).toInt) p_)) ∧ (∀ k : Nat, (k : Int) ≠ 160 + y_t → I1 (h_ad z a0 10) k = I0 (h_ad z a0 10) k)) (fun (I1 : tI) t => h_B E A z I1 L0 t) A) 0 0 A := by
  refine Met.ofW (cc := cX12_number) (maxL := 4) (ret := (some .boolean)) (by decide) rfl ?_
  intro pr_ ev_ s m args below meth cd_ s₁ B hml hv
  obtain ⟨rfl, hE, hk, hX, hA, hK, hI, hR, hB0⟩ := hv
  have g : h_G h_so h_fk E A z I0 L0 s s.heap s.heap [] := ⟨hK, va_S.rf, hB0⟩
  have hF : h_F [(13, 5), (13, 3), (13, 4), (13, 7), (13, 6), (13, 8), (13, 9), (1310, 999)] z I0 I0 := h_F.rf
  have hx := B.exec
  have hb := B.bytes
  have hr := B.returns
  have hts := atoms_spec (ws := wsX12_number) B.pre
  have hown : s.vm.findClass RX12 = some m.cls := findClass_of_methodNamed B.named
  have hlocks := B.notSynchronized
  have iX12 : ∀ w ∈ u_ws RX12 TX12 51, w ∈ wsX12_number := by decide +kernel
  have hl := lv_entry ([.ref a0, .int y, .int a, .int b]) (n := 4) (Nat.le_of_ble_eq_true rfl)
  rw [lg_entry_eq]
  generalize (lg_sl ([.ref a0, .int y, .int a, .int b]) ++ List.replicate (4 - (lg_sl ([.ref a0, .int y, .int a, .int b])).length) Slot.unset).toArray = ls at hl ⊢
  have hl : lv_has ls 4 [(0, .ref a0), (1, .int y), (2, .int a), (3, .int b)] := hl
  have b_a : -2147483648 ≤ a_t ∧ a_t ≤ 2147483647 := h_a ▸ ⟨xi_lo a, Int.le_of_lt_add_one (xi_hi a)⟩
  have b_b : -2147483648 ≤ b_t ∧ b_t ≤ 2147483647 := h_b ▸ ⟨xi_lo b, Int.le_of_lt_add_one (xi_hi b)⟩
  obtain ⟨bt, rbt, tbt⟩ := hR.at a0 0 t_a0 (rfl : h_rs 13 0 = some (1300, false)) (by decide)
  have abt : h_ad z a0 0 = bt := h_ad.at rbt
  obtain ⟨lw, rlw, tlw⟩ := hR.at a0 10 t_a0 (rfl : h_rs 13 10 = some (1310, false)) (by decide)
  have alw : h_ad z a0 10 = lw := h_ad.at rlw
  obtain ⟨n_2, en_2⟩ : ∃ v : Int32, v = I0 a0 2 := ⟨_, rfl⟩
  have qn_2 : (I0 a0 2).toInt = n_2.toInt := congrArg Int32.toInt en_2.symm
  have jn_2 := hI.rd a0 2 t_a0 en_2 (rfl : h_bd 13 2 = (0, 500))
  obtain ⟨gb, egb⟩ : ∃ g : Int → Int, g = q_at (I0 bt) (I0 a0 2).toInt := ⟨_, rfl⟩
  obtain ⟨f0_3, ef0_3⟩ : ∃ v : Int32, v = I0 a0 3 := ⟨_, rfl⟩
  have qf0_3 : (I0 a0 3).toInt = f0_3.toInt := congrArg Int32.toInt ef0_3.symm
  have jf0_3 := hI.rd a0 3 t_a0 ef0_3 (rfl : h_bd 13 3 = ((-2147483648), 2147483647))
  obtain ⟨f0_4, ef0_4⟩ : ∃ v : Int32, v = I0 a0 4 := ⟨_, rfl⟩
  have qf0_4 : (I0 a0 4).toInt = f0_4.toInt := congrArg Int32.toInt ef0_4.symm
  have jf0_4 := hI.rd a0 4 t_a0 ef0_4 (rfl : h_bd 13 4 = ((-1), 60))
  obtain ⟨f0_5, ef0_5⟩ : ∃ v : Int32, v = I0 a0 5 := ⟨_, rfl⟩
  have qf0_5 : (I0 a0 5).toInt = f0_5.toInt := congrArg Int32.toInt ef0_5.symm
  have jf0_5 := hI.rd a0 5 t_a0 ef0_5 (rfl : h_bd 13 5 = ((-2147483648), 2147483647))
  obtain ⟨f0_6, ef0_6⟩ : ∃ v : Int32, v = I0 a0 6 := ⟨_, rfl⟩
  have qf0_6 : (I0 a0 6).toInt = f0_6.toInt := congrArg Int32.toInt ef0_6.symm
  have jf0_6 := hI.rd a0 6 t_a0 ef0_6 (rfl : h_bd 13 6 = (0, 500))
  obtain ⟨f0_7, ef0_7⟩ : ∃ v : Int32, v = I0 a0 7 := ⟨_, rfl⟩
  have qf0_7 : (I0 a0 7).toInt = f0_7.toInt := congrArg Int32.toInt ef0_7.symm
  have jf0_7 := hI.rd a0 7 t_a0 ef0_7 (rfl : h_bd 13 7 = ((-2147483648), 2147483647))
  obtain ⟨f0_8, ef0_8⟩ : ∃ v : Int32, v = I0 a0 8 := ⟨_, rfl⟩
  have qf0_8 : (I0 a0 8).toInt = f0_8.toInt := congrArg Int32.toInt ef0_8.symm
  have jf0_8 := hI.rd a0 8 t_a0 ef0_8 (rfl : h_bd 13 8 = ((-2147483648), 2147483647))
  obtain ⟨f0_9, ef0_9⟩ : ∃ v : Int32, v = I0 a0 9 := ⟨_, rfl⟩
  have qf0_9 : (I0 a0 9).toInt = f0_9.toInt := congrArg Int32.toInt ef0_9.symm
  have jf0_9 := hI.rd a0 9 t_a0 ef0_9 (rfl : h_bd 13 9 = ((-2147483648), 2147483647))
  rw [abt, ← egb] at htk
  unfold h_tk h_sc at htk
  rw [qf0_3, qf0_4, qf0_5, qf0_6, qf0_7] at htk
  refine lv_aload_n hx hb dX12_number_0 rfl (lv_at hl 0 rfl) ?_
  refine h_get (v := .int f0_3) hx hb hts iX12 hown g t_a0 (by decide) so_13 rfl 3 (by decide) (hts (.fieldLink RX12 146 "CapLeagueModel" "sort" "I") (by decide +kernel)) rfl dX12_number_1 (congrArg Value.int (ef0_3.symm)) ?_
  refine lv_iconst (v := 2) hx hb dX12_number_4 (by decide) ?_
  refine lv_icmp_eq (tgt := 14) hx hb dX12_number_5 (by decide) (fun c1 => ?_) (fun c1 => ?_)
  · have ic1 := (xi_eq c1 rfl (by decide) : f0_3.toInt = 2)
    refine lv_aload_n hx hb dX12_number_14 rfl (lv_at hl 0 rfl) ?_
    refine h_get (v := .int f0_7) hx hb hts iX12 hown g t_a0 (by decide) so_13 rfl 7 (by decide) (hts (.fieldLink RX12 163 "CapLeagueModel" "worth" "I") (by decide +kernel)) rfl dX12_number_15 (congrArg Value.int (ef0_7.symm)) ?_
    refine lv_i2l hx hb dX12_number_18 rfl ?_
    refine lv_topl (fun v2 ev2 => ?_)
    have jv2 : v2.toInt = f0_7.toInt := by rw [ev2, xi_64]
    refine lv_iload_n hx hb dX12_number_19 rfl (lv_at hl 2 rfl) ?_
    refine lv_i2l hx hb dX12_number_20 rfl ?_
    refine lv_topl (fun v3 ev3 => ?_)
    have jv3 : v3.toInt = a_t := by rw [ev3, xi_64]; exact h_a
    refine lv_iload_n hx hb dX12_number_21 rfl (lv_at hl 3 rfl) ?_
    refine lv_i2l hx hb dX12_number_22 rfl ?_
    refine lv_topl (fun v4 ev4 => ?_)
    have jv4 : v4.toInt = b_t := by rw [ev4, xi_64]; exact h_b
    refine vp_callSi (W.runS (As := [.long v2, .long v3, .long v4]) (rest := []) ⟨hx, hb, hml, hown, hts⟩ (tX12_in l E X A z I0 L0 v2 (f0_7.toInt) jv2 v3 (a_t) jv3 v4 (b_t) jv4) (va_cwS 3 hts gX12_number_X12_in rfl rfl rfl (by decide +kernel) ⟨Nat.le_of_ble_eq_true rfl, Nat.le_of_ble_eq_true rfl⟩) ⟨h_blind _ _ _ _ _ _ _, h_pre _ hE hk hX hA hI hR g⟩ rfl rfl hl.1 rfl (lv_room (Nat.le_of_ble_eq_true rfl)) dX12_number_23 ⟨Nat.le_of_ble_eq_true rfl, Nat.le_of_ble_eq_true rfl⟩) (fun rh5 h5 => ?_)
    rcases h5 with ⟨rfl, h5⟩ | ⟨rfl, h5⟩
    · skip
      refine lv_if_ne (tgt := 35) hx hb dX12_number_26 (by decide) (fun h => absurd (by decide) h) (fun _ => ?_)
      refine lv_aload_n hx hb dX12_number_29 rfl (lv_at hl 0 rfl) ?_
      refine lv_iconst (v := 2) hx hb dX12_number_30 (by decide) ?_
      refine va_calli (va_runV (As := [.int 2]) (rest := []) ⟨hx, hb, hml, hown, hts⟩ (tX12_failsF l E X A z I0 L0 a0 t_a0 2 (2) (by decide)) (cwV 1 hts gX12_number_X12_fails rfl rfl rfl (by decide +kernel) ⟨Nat.le_of_ble_eq_true rfl, Nat.le_of_ble_eq_true rfl⟩) ⟨h_blind _ _ _ _ _ _ _, h_recv g t_a0 (by decide) so_13 (q := (RX12, TX12, 51)) rfl, h_pre _ hE hk hX hA hI hR g⟩ rfl rfl hl.1 rfl (lv_room (Nat.le_of_ble_eq_true rfl)) dX12_number_31 ⟨Nat.le_of_ble_eq_true rfl, Nat.le_of_ble_eq_true rfl⟩) g.2.1 (fun q _ h => h) (fun q h => h) (fun rh7 I8 t H1 locs ht hvm h7 hB hz1 hk1 hS => ?_)
      obtain ⟨hI, fh7, h7⟩ := h7
      replace g := h_after g hB ht hS
      generalize H1 = H at g
      clear hB hk1 hz1 ht hvm hS
      have hF := hF.call fh7 rfl
      obtain ⟨h7, h7p0⟩ := h7
      have hS := g.2.1
      exact W.zret (v := rh7) hx hb hr (h_nb (by omega) (by omega)).1 (fun t ht hW => ⟨⟨rh7, I8, rfl, ⟨hI, hF, ⟨⟨(by omega), (by omega)⟩, (by rw [abt, ← egb, alw]; exact Or.inr (Or.inr ⟨by omega, by omega, by omega, by rw [h7p0.1]; exact (by decide : (2 : Int32).toInt = 2), by rw [h7p0.2, qf0_5]; exact htk.1⟩)), (by rw [alw]; exact fun k hk => h_F.at fh7 tlw rfl)⟩⟩, h_ret g ht⟩, hS.F ht⟩) hS.2.2 dX12_number_34
    · skip
      refine lv_if_ne (tgt := 35) hx hb dX12_number_26 (by decide) (fun _ => ?_) (fun h => absurd h (by decide))
      refine lv_aload_n hx hb dX12_number_35 rfl (lv_at hl 0 rfl) ?_
      refine h_get (v := .ref lw) hx hb hts iX12 hown g t_a0 (by decide) so_13 rfl 10 (by decide) (hts (.fieldLink RX12 17 "CapLeagueModel" "laws" "[I") (by decide +kernel)) rfl dX12_number_36 (by show va_rf (z.R a0 10) = _; rw [rlw]; rfl) ?_
      refine lv_sipush (v := 160) hx hb dX12_number_39 (by decide) ?_
      refine lv_iload_n hx hb dX12_number_42 rfl (lv_at hl 1 rfl) ?_
      refine lv_iadd hx hb dX12_number_43 ?_
      refine lv_topi (fun v10 ev10 => ?_)
      have jv10 : v10.toInt = 160 + y_t := xi_add ev10 (by decide) h_y (by omega) (by omega)
      refine lv_aload_n hx hb dX12_number_44 rfl (lv_at hl 0 rfl) ?_
      refine h_get (v := .int f0_7) hx hb hts iX12 hown g t_a0 (by decide) so_13 rfl 7 (by decide) (hts (.fieldLink RX12 163 "CapLeagueModel" "worth" "I") (by decide +kernel)) rfl dX12_number_45 (congrArg Value.int (ef0_7.symm)) ?_
      refine h_ast hx hb g tlw (by decide) so_1310 (xi_in (by omega) (by omega)) dX12_number_48 (fun I11 H locs eI11 g => ?_)
      have hI := h_lww hI eI11 tlw (k := v10.toInt) rfl (by omega) (by omega) (by omega)
      have hF := hF.wr eI11 tlw rfl
      have hFo := hF
      refine lv_aload_n hx hb dX12_number_49 rfl (lv_at hl 0 rfl) ?_
      refine va_callv (va_runV (As := []) (rest := []) ⟨hx, hb, hml, hown, hts⟩ (tX12_scanF l E X A z I11 L0 a0 t_a0) (cwV 0 hts gX12_number_X12_scan rfl rfl rfl (by decide +kernel) ⟨Nat.le_of_ble_eq_true rfl, Nat.le_of_ble_eq_true rfl⟩) ⟨h_blind _ _ _ _ _ _ _, h_recv g t_a0 (by decide) so_13 (q := (RX12, TX12, 51)) rfl, h_pre _ hE hk hX hA hI hR g⟩ rfl rfl hl.1 rfl (lv_room (Nat.le_of_ble_eq_true rfl)) dX12_number_50 ⟨Nat.le_of_ble_eq_true rfl, Nat.le_of_ble_eq_true rfl⟩) g.2.1 (fun q _ h => h) (fun q h => h) (fun I13 t H1 locs ht hvm h12 hB hz1 hk1 hS => ?_)
      obtain ⟨hI, fh12, h12⟩ := h12
      replace g := h_after g hB ht hS
      generalize H1 = H at g
      clear hB hk1 hz1 ht hvm hS
      have hF := hF.call fh12 rfl
      have h12p0 := h12
      rw [abt, show I11 bt = I0 bt from funext (fun k => hFo.at tbt rfl), show I11 a0 2 = I0 a0 2 from hFo.at t_a0 rfl, ← egb, show I11 a0 6 = f0_6 from (h_n1 eI11 t_a0 tlw (by decide)).trans (ef0_6.symm)] at h12p0
      refine lv_iconst (v := 1) hx hb dX12_number_53 (by decide) ?_
      have hS := g.2.1
      exact W.zret (v := 1) hx hb hr (by decide) (fun t ht hW => ⟨⟨1, I13, rfl, ⟨hI, hF, ⟨⟨(by decide), (by decide)⟩, (by rw [abt, ← egb, alw]; exact Or.inl ⟨by decide, by omega, by omega, by omega, by rw [← h_keq (i := v10) (t := v10.toInt) (k := (160 + y_t).toNat) rfl (by omega) (by omega), show I13 lw v10.toNatClampNeg = f0_7 from (h_F.at fh12 tlw rfl).trans (h_n0 eI11)]; omega, (by rw [← htk.2.1]; exact h12p0), (h_F.at fh12 t_a0 rfl).trans (h_n1 eI11 t_a0 tlw (by decide)), (h_F.at fh12 t_a0 rfl).trans (h_n1 eI11 t_a0 tlw (by decide))⟩), (by rw [alw]; exact fun k hk => (h_F.at fh12 tlw rfl).trans (h_n2 eI11 (h_kne (t := v10.toInt) rfl (by omega) (by omega))))⟩⟩, h_ret g ht⟩, hS.F ht⟩) hS.2.2 dX12_number_54
  · have ic1 := (xi_ne c1 rfl (by decide) : f0_3.toInt ≠ 2)
    refine lv_aload_n hx hb dX12_number_8 rfl (lv_at hl 0 rfl) ?_
    refine lv_iconst (v := 1) hx hb dX12_number_9 (by decide) ?_
    refine va_calli (va_runV (As := [.int 1]) (rest := []) ⟨hx, hb, hml, hown, hts⟩ (tX12_failsF l E X A z I0 L0 a0 t_a0 1 (1) (by decide)) (cwV 1 hts gX12_number_X12_fails rfl rfl rfl (by decide +kernel) ⟨Nat.le_of_ble_eq_true rfl, Nat.le_of_ble_eq_true rfl⟩) ⟨h_blind _ _ _ _ _ _ _, h_recv g t_a0 (by decide) so_13 (q := (RX12, TX12, 51)) rfl, h_pre _ hE hk hX hA hI hR g⟩ rfl rfl hl.1 rfl (lv_room (Nat.le_of_ble_eq_true rfl)) dX12_number_10 ⟨Nat.le_of_ble_eq_true rfl, Nat.le_of_ble_eq_true rfl⟩) g.2.1 (fun q _ h => h) (fun q h => h) (fun rh14 I15 t H1 locs ht hvm h14 hB hz1 hk1 hS => ?_)
    obtain ⟨hI, fh14, h14⟩ := h14
    replace g := h_after g hB ht hS
    generalize H1 = H at g
    clear hB hk1 hz1 ht hvm hS
    have hF := hF.call fh14 rfl
    obtain ⟨h14, h14p0⟩ := h14
    have hS := g.2.1
    exact W.zret (v := rh14) hx hb hr (h_nb (by omega) (by omega)).1 (fun t ht hW => ⟨⟨rh14, I15, rfl, ⟨hI, hF, ⟨⟨(by omega), (by omega)⟩, (by rw [abt, ← egb, alw]; exact Or.inr (Or.inl ⟨by omega, by omega, by rw [h14p0.1]; exact (by decide : (1 : Int32).toInt = 1), by rw [h14p0.2, qf0_5]; exact htk.1⟩)), (by rw [alw]; exact fun k hk => h_F.at fh14 tlw rfl)⟩⟩, h_ret g ht⟩, hS.F ht⟩) hS.2.2 dX12_number_13
set_option maxHeartbeats 4000000 in
set_option maxRecDepth 100000 in
theorem tX12_numberF9 (l : Launch) (E : tE) (X : tX) (A : Nat → Prop) (z : tZ) (I0 : tI) (L0 : tL) (a0 : Nat) (t_a0 : z.ty a0 = 13) (y : Int32) (y_t : Int) (h_y : y.toInt = y_t) (b_y : 9 ≤ y_t ∧ y_t ≤ 15) (a : Int32) (a_t : Int) (h_a : a.toInt = a_t) (b_a : 1 ≤ a_t ∧ a_t ≤ 1) (b : Int32) (b_t : Int) (h_b : b.toInt = b_t) (b_b : 20 ≤ b_t ∧ b_t ≤ 20) (p_ : Int) (htk : h_tk (q_at (I0 (h_ad z a0 0)) (I0 a0 2).toInt) I0 a0 p_) : Met l yX12_number wsX12_number ({ frames := 7, cells := 0, slots := 0, locals := 448 }) (va_Pc [.ref a0, .int y, .int a, .int b] (h_P E X A z I0 L0)) (va_Qi (fun r (I1 : tI) => h_I z I1 ∧ h_F [(13, 5), (13, 3), (13, 4), (13, 7), (13, 6), (13, 8), (13, 9), (1310, 999)] z I0 I1 ∧ (0 ≤ r.toInt ∧ r.toInt ≤ 1) ∧ ((r.toInt = 1 ∧ q_k (q_at (I0 (h_ad z a0 0)) (I0 a0 2).toInt) p_ = 2 ∧ a_t ≤ q_v (q_at (I0 (h_ad z a0 0)) (I0 a0 2).toInt) p_ ∧ q_v (q_at (I0 (h_ad z a0 0)) (I0 a0 2).toInt) p_ ≤ b_t ∧ (I1 (h_ad z a0 10) (160 + y_t).toNat).toInt = q_v (q_at (I0 (h_ad z a0 0)) (I0 a0 2).toInt) p_ ∧ h_tk (q_at (I0 (h_ad z a0 0)) (I0 a0 2).toInt) I1 a0 (q_e (q_at (I0 (h_ad z a0 0)) (I0 a0 2).toInt) p_) ∧ I1 a0 8 = I0 a0 8 ∧ I1 a0 9 = I0 a0 9) ∨ (r.toInt = 0 ∧ q_k (q_at (I0 (h_ad z a0 0)) (I0 a0 2).toInt) p_ ≠ 2 ∧ (I1 a0 8).toInt = 1 ∧ (I1 a0 9).toInt = q_a (q_at (I0 (h_ad z a0 0)) (I0 a0 2).toInt) p_) ∨ (r.toInt = 0 ∧ q_k (q_at (I0 (h_ad z a0 0)) (I0 a0 2).toInt) p_ = 2 ∧ (q_v (q_at (I0 (h_ad z a0 0)) (I0 a0 2).toInt) p_ < a_t ∨ b_t < q_v (q_at (I0 (h_ad z a0 0)) (I0 a0 2).toInt) p_) ∧ (I1 a0 8).toInt = 2 ∧ (I1 a0 9).toInt = q_a (q_at (I0 (h_ad z a0 0)) (I0 a0 2).toInt) p_)) ∧ (∀ k : Nat, (k : Int) ≠ 160 + y_t → I1 (h_ad z a0 10) k = I0 (h_ad z a0 10) k)) (fun (I1 : tI) t => h_B E A z I1 L0 t) A) 0 0 A := by
  refine Met.ofW (cc := cX12_number) (maxL := 4) (ret := (some .boolean)) (by decide) rfl ?_
  intro pr_ ev_ s m args below meth cd_ s₁ B hml hv
  obtain ⟨rfl, hE, hk, hX, hA, hK, hI, hR, hB0⟩ := hv
  have g : h_G h_so h_fk E A z I0 L0 s s.heap s.heap [] := ⟨hK, va_S.rf, hB0⟩
  have hF : h_F [(13, 5), (13, 3), (13, 4), (13, 7), (13, 6), (13, 8), (13, 9), (1310, 999)] z I0 I0 := h_F.rf
  have hx := B.exec
  have hb := B.bytes
  have hr := B.returns
  have hts := atoms_spec (ws := wsX12_number) B.pre
  have hown : s.vm.findClass RX12 = some m.cls := findClass_of_methodNamed B.named
  have hlocks := B.notSynchronized
  have iX12 : ∀ w ∈ u_ws RX12 TX12 51, w ∈ wsX12_number := by decide +kernel
  have hl := lv_entry ([.ref a0, .int y, .int a, .int b]) (n := 4) (Nat.le_of_ble_eq_true rfl)
  rw [lg_entry_eq]
  generalize (lg_sl ([.ref a0, .int y, .int a, .int b]) ++ List.replicate (4 - (lg_sl ([.ref a0, .int y, .int a, .int b])).length) Slot.unset).toArray = ls at hl ⊢
  have hl : lv_has ls 4 [(0, .ref a0), (1, .int y), (2, .int a), (3, .int b)] := hl
  obtain ⟨bt, rbt, tbt⟩ := hR.at a0 0 t_a0 (rfl : h_rs 13 0 = some (1300, false)) (by decide)
  have abt : h_ad z a0 0 = bt := h_ad.at rbt
  obtain ⟨lw, rlw, tlw⟩ := hR.at a0 10 t_a0 (rfl : h_rs 13 10 = some (1310, false)) (by decide)
  have alw : h_ad z a0 10 = lw := h_ad.at rlw
  obtain ⟨n_2, en_2⟩ : ∃ v : Int32, v = I0 a0 2 := ⟨_, rfl⟩
  have qn_2 : (I0 a0 2).toInt = n_2.toInt := congrArg Int32.toInt en_2.symm
  have jn_2 := hI.rd a0 2 t_a0 en_2 (rfl : h_bd 13 2 = (0, 500))
  obtain ⟨gb, egb⟩ : ∃ g : Int → Int, g = q_at (I0 bt) (I0 a0 2).toInt := ⟨_, rfl⟩
  obtain ⟨f0_3, ef0_3⟩ : ∃ v : Int32, v = I0 a0 3 := ⟨_, rfl⟩
  have qf0_3 : (I0 a0 3).toInt = f0_3.toInt := congrArg Int32.toInt ef0_3.symm
  have jf0_3 := hI.rd a0 3 t_a0 ef0_3 (rfl : h_bd 13 3 = ((-2147483648), 2147483647))
  obtain ⟨f0_4, ef0_4⟩ : ∃ v : Int32, v = I0 a0 4 := ⟨_, rfl⟩
  have qf0_4 : (I0 a0 4).toInt = f0_4.toInt := congrArg Int32.toInt ef0_4.symm
  have jf0_4 := hI.rd a0 4 t_a0 ef0_4 (rfl : h_bd 13 4 = ((-1), 60))
  obtain ⟨f0_5, ef0_5⟩ : ∃ v : Int32, v = I0 a0 5 := ⟨_, rfl⟩
  have qf0_5 : (I0 a0 5).toInt = f0_5.toInt := congrArg Int32.toInt ef0_5.symm
  have jf0_5 := hI.rd a0 5 t_a0 ef0_5 (rfl : h_bd 13 5 = ((-2147483648), 2147483647))
  obtain ⟨f0_6, ef0_6⟩ : ∃ v : Int32, v = I0 a0 6 := ⟨_, rfl⟩
  have qf0_6 : (I0 a0 6).toInt = f0_6.toInt := congrArg Int32.toInt ef0_6.symm
  have jf0_6 := hI.rd a0 6 t_a0 ef0_6 (rfl : h_bd 13 6 = (0, 500))
  obtain ⟨f0_7, ef0_7⟩ : ∃ v : Int32, v = I0 a0 7 := ⟨_, rfl⟩
  have qf0_7 : (I0 a0 7).toInt = f0_7.toInt := congrArg Int32.toInt ef0_7.symm
  have jf0_7 := hI.rd a0 7 t_a0 ef0_7 (rfl : h_bd 13 7 = ((-2147483648), 2147483647))
  obtain ⟨f0_8, ef0_8⟩ : ∃ v : Int32, v = I0 a0 8 := ⟨_, rfl⟩
  have qf0_8 : (I0 a0 8).toInt = f0_8.toInt := congrArg Int32.toInt ef0_8.symm
  have jf0_8 := hI.rd a0 8 t_a0 ef0_8 (rfl : h_bd 13 8 = ((-2147483648), 2147483647))
  obtain ⟨f0_9, ef0_9⟩ : ∃ v : Int32, v = I0 a0 9 := ⟨_, rfl⟩
  have qf0_9 : (I0 a0 9).toInt = f0_9.toInt := congrArg Int32.toInt ef0_9.symm
  have jf0_9 := hI.rd a0 9 t_a0 ef0_9 (rfl : h_bd 13 9 = ((-2147483648), 2147483647))
  rw [abt, ← egb] at htk
  unfold h_tk h_sc at htk
  rw [qf0_3, qf0_4, qf0_5, qf0_6, qf0_7] at htk
  refine lv_aload_n hx hb dX12_number_0 rfl (lv_at hl 0 rfl) ?_
  refine h_get (v := .int f0_3) hx hb hts iX12 hown g t_a0 (by decide) so_13 rfl 3 (by decide) (hts (.fieldLink RX12 146 "CapLeagueModel" "sort" "I") (by decide +kernel)) rfl dX12_number_1 (congrArg Value.int (ef0_3.symm)) ?_
  refine lv_iconst (v := 2) hx hb dX12_number_4 (by decide) ?_
  refine lv_icmp_eq (tgt := 14) hx hb dX12_number_5 (by decide) (fun c1 => ?_) (fun c1 => ?_)
  · have ic1 := (xi_eq c1 rfl (by decide) : f0_3.toInt = 2)
    refine lv_aload_n hx hb dX12_number_14 rfl (lv_at hl 0 rfl) ?_
    refine h_get (v := .int f0_7) hx hb hts iX12 hown g t_a0 (by decide) so_13 rfl 7 (by decide) (hts (.fieldLink RX12 163 "CapLeagueModel" "worth" "I") (by decide +kernel)) rfl dX12_number_15 (congrArg Value.int (ef0_7.symm)) ?_
    refine lv_i2l hx hb dX12_number_18 rfl ?_
    refine lv_topl (fun v2 ev2 => ?_)
    have jv2 : v2.toInt = f0_7.toInt := by rw [ev2, xi_64]
    refine lv_iload_n hx hb dX12_number_19 rfl (lv_at hl 2 rfl) ?_
    refine lv_i2l hx hb dX12_number_20 rfl ?_
    refine lv_topl (fun v3 ev3 => ?_)
    have jv3 : v3.toInt = a_t := by rw [ev3, xi_64]; exact h_a
    refine lv_iload_n hx hb dX12_number_21 rfl (lv_at hl 3 rfl) ?_
    refine lv_i2l hx hb dX12_number_22 rfl ?_
    refine lv_topl (fun v4 ev4 => ?_)
    have jv4 : v4.toInt = b_t := by rw [ev4, xi_64]; exact h_b
    refine vp_callSi (W.runS (As := [.long v2, .long v3, .long v4]) (rest := []) ⟨hx, hb, hml, hown, hts⟩ (tX12_in l E X A z I0 L0 v2 (f0_7.toInt) jv2 v3 (a_t) jv3 v4 (b_t) jv4) (va_cwS 3 hts gX12_number_X12_in rfl rfl rfl (by decide +kernel) ⟨Nat.le_of_ble_eq_true rfl, Nat.le_of_ble_eq_true rfl⟩) ⟨h_blind _ _ _ _ _ _ _, h_pre _ hE hk hX hA hI hR g⟩ rfl rfl hl.1 rfl (lv_room (Nat.le_of_ble_eq_true rfl)) dX12_number_23 ⟨Nat.le_of_ble_eq_true rfl, Nat.le_of_ble_eq_true rfl⟩) (fun rh5 h5 => ?_)
    rcases h5 with ⟨rfl, h5⟩ | ⟨rfl, h5⟩
    · skip
      refine lv_if_ne (tgt := 35) hx hb dX12_number_26 (by decide) (fun h => absurd (by decide) h) (fun _ => ?_)
      refine lv_aload_n hx hb dX12_number_29 rfl (lv_at hl 0 rfl) ?_
      refine lv_iconst (v := 2) hx hb dX12_number_30 (by decide) ?_
      refine va_calli (va_runV (As := [.int 2]) (rest := []) ⟨hx, hb, hml, hown, hts⟩ (tX12_failsF l E X A z I0 L0 a0 t_a0 2 (2) (by decide)) (cwV 1 hts gX12_number_X12_fails rfl rfl rfl (by decide +kernel) ⟨Nat.le_of_ble_eq_true rfl, Nat.le_of_ble_eq_true rfl⟩) ⟨h_blind _ _ _ _ _ _ _, h_recv g t_a0 (by decide) so_13 (q := (RX12, TX12, 51)) rfl, h_pre _ hE hk hX hA hI hR g⟩ rfl rfl hl.1 rfl (lv_room (Nat.le_of_ble_eq_true rfl)) dX12_number_31 ⟨Nat.le_of_ble_eq_true rfl, Nat.le_of_ble_eq_true rfl⟩) g.2.1 (fun q _ h => h) (fun q h => h) (fun rh7 I8 t H1 locs ht hvm h7 hB hz1 hk1 hS => ?_)
      obtain ⟨hI, fh7, h7⟩ := h7
      replace g := h_after g hB ht hS
      generalize H1 = H at g
      clear hB hk1 hz1 ht hvm hS
      have hF := hF.call fh7 rfl
      obtain ⟨h7, h7p0⟩ := h7
      have hS := g.2.1
      exact W.zret (v := rh7) hx hb hr (h_nb (by omega) (by omega)).1 (fun t ht hW => ⟨⟨rh7, I8, rfl, ⟨hI, hF, ⟨⟨(by omega), (by omega)⟩, (by rw [abt, ← egb, alw]; exact Or.inr (Or.inr ⟨by omega, by omega, by omega, by rw [h7p0.1]; exact (by decide : (2 : Int32).toInt = 2), by rw [h7p0.2, qf0_5]; exact htk.1⟩)), (by rw [alw]; exact fun k hk => h_F.at fh7 tlw rfl)⟩⟩, h_ret g ht⟩, hS.F ht⟩) hS.2.2 dX12_number_34
    · skip
      refine lv_if_ne (tgt := 35) hx hb dX12_number_26 (by decide) (fun _ => ?_) (fun h => absurd h (by decide))
      refine lv_aload_n hx hb dX12_number_35 rfl (lv_at hl 0 rfl) ?_
      refine h_get (v := .ref lw) hx hb hts iX12 hown g t_a0 (by decide) so_13 rfl 10 (by decide) (hts (.fieldLink RX12 17 "CapLeagueModel" "laws" "[I") (by decide +kernel)) rfl dX12_number_36 (by show va_rf (z.R a0 10) = _; rw [rlw]; rfl) ?_
      refine lv_sipush (v := 160) hx hb dX12_number_39 (by decide) ?_
      refine lv_iload_n hx hb dX12_number_42 rfl (lv_at hl 1 rfl) ?_
      refine lv_iadd hx hb dX12_number_43 ?_
      refine lv_topi (fun v10 ev10 => ?_)
      have jv10 : v10.toInt = 160 + y_t := xi_add ev10 (by decide) h_y (by omega) (by omega)
      refine lv_aload_n hx hb dX12_number_44 rfl (lv_at hl 0 rfl) ?_
      refine h_get (v := .int f0_7) hx hb hts iX12 hown g t_a0 (by decide) so_13 rfl 7 (by decide) (hts (.fieldLink RX12 163 "CapLeagueModel" "worth" "I") (by decide +kernel)) rfl dX12_number_45 (congrArg Value.int (ef0_7.symm)) ?_
      refine h_ast hx hb g tlw (by decide) so_1310 (xi_in (by omega) (by omega)) dX12_number_48 (fun I11 H locs eI11 g => ?_)
      have hI := h_lww hI eI11 tlw (k := v10.toInt) rfl (by omega) (by omega) (by omega)
      have hF := hF.wr eI11 tlw rfl
      have hFo := hF
      refine lv_aload_n hx hb dX12_number_49 rfl (lv_at hl 0 rfl) ?_
      refine va_callv (va_runV (As := []) (rest := []) ⟨hx, hb, hml, hown, hts⟩ (tX12_scanF l E X A z I11 L0 a0 t_a0) (cwV 0 hts gX12_number_X12_scan rfl rfl rfl (by decide +kernel) ⟨Nat.le_of_ble_eq_true rfl, Nat.le_of_ble_eq_true rfl⟩) ⟨h_blind _ _ _ _ _ _ _, h_recv g t_a0 (by decide) so_13 (q := (RX12, TX12, 51)) rfl, h_pre _ hE hk hX hA hI hR g⟩ rfl rfl hl.1 rfl (lv_room (Nat.le_of_ble_eq_true rfl)) dX12_number_50 ⟨Nat.le_of_ble_eq_true rfl, Nat.le_of_ble_eq_true rfl⟩) g.2.1 (fun q _ h => h) (fun q h => h) (fun I13 t H1 locs ht hvm h12 hB hz1 hk1 hS => ?_)
      obtain ⟨hI, fh12, h12⟩ := h12
      replace g := h_after g hB ht hS
      generalize H1 = H at g
      clear hB hk1 hz1 ht hvm hS
      have hF := hF.call fh12 rfl
      have h12p0 := h12
      rw [abt, show I11 bt = I0 bt from funext (fun k => hFo.at tbt rfl), show I11 a0 2 = I0 a0 2 from hFo.at t_a0 rfl, ← egb, show I11 a0 6 = f0_6 from (h_n1 eI11 t_a0 tlw (by decide)).trans (ef0_6.symm)] at h12p0
      refine lv_iconst (v := 1) hx hb dX12_number_53 (by decide) ?_
      have hS := g.2.1
      exact W.zret (v := 1) hx hb hr (by decide) (fun t ht hW => ⟨⟨1, I13, rfl, ⟨hI, hF, ⟨⟨(by decide), (by decide)⟩, (by rw [abt, ← egb, alw]; exact Or.inl ⟨by decide, by omega, by omega, by omega, by rw [← h_keq (i := v10) (t := v10.toInt) (k := (160 + y_t).toNat) rfl (by omega) (by omega), show I13 lw v10.toNatClampNeg = f0_7 from (h_F.at fh12 tlw rfl).trans (h_n0 eI11)]; omega, (by rw [← htk.2.1]; exact h12p0), (h_F.at fh12 t_a0 rfl).trans (h_n1 eI11 t_a0 tlw (by decide)), (h_F.at fh12 t_a0 rfl).trans (h_n1 eI11 t_a0 tlw (by decide))⟩), (by rw [alw]; exact fun k hk => (h_F.at fh12 tlw rfl).trans (h_n2 eI11 (h_kne (t := v10.toInt) rfl (by omega) (by omega))))⟩⟩, h_ret g ht⟩, hS.F ht⟩) hS.2.2 dX12_number_54
  · have ic1 := (xi_ne c1 rfl (by decide) : f0_3.toInt ≠ 2)
    refine lv_aload_n hx hb dX12_number_8 rfl (lv_at hl 0 rfl) ?_
    refine lv_iconst (v := 1) hx hb dX12_number_9 (by decide) ?_
    refine va_calli (va_runV (As := [.int 1]) (rest := []) ⟨hx, hb, hml, hown, hts⟩ (tX12_failsF l E X A z I0 L0 a0 t_a0 1 (1) (by decide)) (cwV 1 hts gX12_number_X12_fails rfl rfl rfl (by decide +kernel) ⟨Nat.le_of_ble_eq_true rfl, Nat.le_of_ble_eq_true rfl⟩) ⟨h_blind _ _ _ _ _ _ _, h_recv g t_a0 (by decide) so_13 (q := (RX12, TX12, 51)) rfl, h_pre _ hE hk hX hA hI hR g⟩ rfl rfl hl.1 rfl (lv_room (Nat.le_of_ble_eq_true rfl)) dX12_number_10 ⟨Nat.le_of_ble_eq_true rfl, Nat.le_of_ble_eq_true rfl⟩) g.2.1 (fun q _ h => h) (fun q h => h) (fun rh14 I15 t H1 locs ht hvm h14 hB hz1 hk1 hS => ?_)
    obtain ⟨hI, fh14, h14⟩ := h14
    replace g := h_after g hB ht hS
    generalize H1 = H at g
    clear hB hk1 hz1 ht hvm hS
    have hF := hF.call fh14 rfl
    obtain ⟨h14, h14p0⟩ := h14
    have hS := g.2.1
    exact W.zret (v := rh14) hx hb hr (h_nb (by omega) (by omega)).1 (fun t ht hW => ⟨⟨rh14, I15, rfl, ⟨hI, hF, ⟨⟨(by omega), (by omega)⟩, (by rw [abt, ← egb, alw]; exact Or.inr (Or.inl ⟨by omega, by omega, by rw [h14p0.1]; exact (by decide : (1 : Int32).toInt = 1), by rw [h14p0.2, qf0_5]; exact htk.1⟩)), (by rw [alw]; exact fun k hk => h_F.at fh14 tlw rfl)⟩⟩, h_ret g ht⟩, hS.F ht⟩) hS.2.2 dX12_number_13
set_option maxHeartbeats 4000000 in
set_option maxRecDepth 100000 in
theorem tX12_highF (l : Launch) (E : tE) (X : tX) (A : Nat → Prop) (z : tZ) (I0 : tI) (L0 : tL) (k : Int32) (k_t : Int) (h_k : k.toInt = k_t) : Met l yX12_high wsX12_high ({ frames := 1, cells := 0, slots := 0, locals := 64 }) (va_Pc [.int k] (h_P E X A z I0 L0)) (vp_Si (fun r => (r.toInt = q_hg k_t))) 0 0 (fun _ => False) := by
  refine Met.ofW (cc := cX12_high) (maxL := 1) (ret := (some .int)) (by decide) rfl ?_
  intro pr_ ev_ s m args below meth cd_ s₁ B hml hv
  obtain ⟨rfl, hE, hk, hX, hA, hK, hI, hR, hB0⟩ := hv
  have g : h_G h_so h_fk E A z I0 L0 s s.heap s.heap [] := ⟨hK, va_S.rf, hB0⟩
  have hx := B.exec
  have hb := B.bytes
  have hr := B.returns
  have hts := atoms_spec (ws := wsX12_high) B.pre
  have hown : s.vm.findClass RX12 = some m.cls := findClass_of_methodNamed B.named
  have hlocks := B.notSynchronized
  have hl := lv_entry ([.int k]) (n := 1) (Nat.le_of_ble_eq_true rfl)
  rw [lg_entry_eq]
  generalize (lg_sl ([.int k]) ++ List.replicate (1 - (lg_sl ([.int k])).length) Slot.unset).toArray = ls at hl ⊢
  have hl : lv_has ls 1 [(0, .int k)] := hl
  have b_k : -2147483648 ≤ k_t ∧ k_t ≤ 2147483647 := h_k ▸ ⟨xi_lo k, Int.le_of_lt_add_one (xi_hi k)⟩
  refine lv_iload_n hx hb dX12_high_0 rfl (lv_at hl 0 rfl) ?_
  have qc1 : k.toInt = k_t := h_k
  rcases (show (k.toInt < 0 ∨ 6 < k.toInt) ∨ k.toInt = 0 ∨ k.toInt = 1 ∨ k.toInt = 2 ∨ k.toInt = 3 ∨ k.toInt = 4 ∨ k.toInt = 5 ∨ k.toInt = 6 by omega) with c1 | c1 | c1 | c1 | c1 | c1 | c1 | c1
  · refine lv_tableOut (tgt := 67) hx hb dX12_high_1 c1 (by decide) ?_
    refine lv_sipush (v := 300) hx hb dX12_high_67 (by decide) ?_
    exact W.iret (v := 300) hx hb hr (fun t ht hW => ⟨300, rfl, (by have e9 : q_hg k_t = 300 := (by unfold q_hg; repeat (first | rw [if_pos (by omega)] | rw [if_neg (by omega)])); rw [e9]; decide), ht⟩) (fun _ h => by cases h) dX12_high_70
  · refine lv_tableIn (off := 43) (tgt := 44) hx hb dX12_high_1 (by omega) (by omega) (by rw [show (k.toInt - 0).toNat = 0 by omega]; rfl) (by decide) ?_
    refine lv_ldc (v := 50000) hx hb hown (hts (.constant RX12 169 (50000)) (by decide +kernel)) dX12_high_44 ?_
    exact W.iret (v := 50000) hx hb hr (fun t ht hW => ⟨50000, rfl, (by have e9 : q_hg k_t = 50000 := (by unfold q_hg; repeat (first | rw [if_pos (by omega)] | rw [if_neg (by omega)])); rw [e9]; decide), ht⟩) (fun _ h => by cases h) dX12_high_46
  · refine lv_tableIn (off := 46) (tgt := 47) hx hb dX12_high_1 (by omega) (by omega) (by rw [show (k.toInt - 0).toNat = 1 by omega]; rfl) (by decide) ?_
    refine lv_bipush (v := 15) hx hb dX12_high_47 (by decide) ?_
    exact W.iret (v := 15) hx hb hr (fun t ht hW => ⟨15, rfl, (by have e9 : q_hg k_t = 15 := (by unfold q_hg; repeat (first | rw [if_pos (by omega)] | rw [if_neg (by omega)])); rw [e9]; decide), ht⟩) (fun _ h => by cases h) dX12_high_49
  · refine lv_tableIn (off := 49) (tgt := 50) hx hb dX12_high_1 (by omega) (by omega) (by rw [show (k.toInt - 0).toNat = 2 by omega]; rfl) (by decide) ?_
    refine lv_iconst (v := 5) hx hb dX12_high_50 (by decide) ?_
    exact W.iret (v := 5) hx hb hr (fun t ht hW => ⟨5, rfl, (by have e9 : q_hg k_t = 5 := (by unfold q_hg; repeat (first | rw [if_pos (by omega)] | rw [if_neg (by omega)])); rw [e9]; decide), ht⟩) (fun _ h => by cases h) dX12_high_51
  · refine lv_tableIn (off := 51) (tgt := 52) hx hb dX12_high_1 (by omega) (by omega) (by rw [show (k.toInt - 0).toNat = 3 by omega]; rfl) (by decide) ?_
    refine lv_sipush (v := 5000) hx hb dX12_high_52 (by decide) ?_
    exact W.iret (v := 5000) hx hb hr (fun t ht hW => ⟨5000, rfl, (by have e9 : q_hg k_t = 5000 := (by unfold q_hg; repeat (first | rw [if_pos (by omega)] | rw [if_neg (by omega)])); rw [e9]; decide), ht⟩) (fun _ h => by cases h) dX12_high_55
  · refine lv_tableIn (off := 55) (tgt := 56) hx hb dX12_high_1 (by omega) (by omega) (by rw [show (k.toInt - 0).toNat = 4 by omega]; rfl) (by decide) ?_
    refine lv_sipush (v := 300) hx hb dX12_high_56 (by decide) ?_
    exact W.iret (v := 300) hx hb hr (fun t ht hW => ⟨300, rfl, (by have e9 : q_hg k_t = 300 := (by unfold q_hg; repeat (first | rw [if_pos (by omega)] | rw [if_neg (by omega)])); rw [e9]; decide), ht⟩) (fun _ h => by cases h) dX12_high_59
  · refine lv_tableIn (off := 59) (tgt := 60) hx hb dX12_high_1 (by omega) (by omega) (by rw [show (k.toInt - 0).toNat = 5 by omega]; rfl) (by decide) ?_
    refine lv_sipush (v := 5000) hx hb dX12_high_60 (by decide) ?_
    exact W.iret (v := 5000) hx hb hr (fun t ht hW => ⟨5000, rfl, (by have e9 : q_hg k_t = 5000 := (by unfold q_hg; repeat (first | rw [if_pos (by omega)] | rw [if_neg (by omega)])); rw [e9]; decide), ht⟩) (fun _ h => by cases h) dX12_high_63
  · refine lv_tableIn (off := 63) (tgt := 64) hx hb dX12_high_1 (by omega) (by omega) (by rw [show (k.toInt - 0).toNat = 6 by omega]; rfl) (by decide) ?_
    refine lv_bipush (v := 100) hx hb dX12_high_64 (by decide) ?_
    exact W.iret (v := 100) hx hb hr (fun t ht hW => ⟨100, rfl, (by have e9 : q_hg k_t = 100 := (by unfold q_hg; repeat (first | rw [if_pos (by omega)] | rw [if_neg (by omega)])); rw [e9]; decide), ht⟩) (fun _ h => by cases h) dX12_high_66

