theorem xl_at {f : Nat → Int32} (hL : ∀ j : Nat, j < 16 → f (176 + j) = xpl j) {ix : Int32} {k : Int} (hi : ix.toInt = 176 + k) (h0 : 0 ≤ k) (h1 : k ≤ 15) : f ix.toNatClampNeg = xpl k := by
  have e : ix.toNatClampNeg = 176 + k.toNat := by
    show ix.toInt.toNat = _
    omega
  rw [e, hL k.toNat (by omega), show ((k.toNat : Nat) : Int) = k by omega]
theorem xi_clt {z : Int32} {n : Nat} (h0 : 0 ≤ z.toInt) (h1 : z.toInt < n) : z.toNatClampNeg < n := by
  show z.toInt.toNat < n
  omega
set_option maxHeartbeats 4000000 in
set_option maxRecDepth 100000 in
theorem rX12_lawOf (l : Launch) (dC : Nat → ClassId) (dI : Nat → Nat → Nat) (ws : va_W) (tys : List (ClassId × FieldType)) {m_clubOf m_dead m_drawnOf m_drawnTo m_first m_from m_giver m_guard m_guarded m_hasChoice m_hasLaws m_isHurt m_isOut m_isTaken m_last m_laws m_moved m_owner m_pay m_purse m_ringClub m_ringGives m_rise m_sure m_table m_tape m_to m_toldClub m_toldGives m_triedClub m_triedGives m_usedSpare m_worths mo : Nat} {k_hasLaws k_laws : ClassId} {fL : Nat → Int32} (hL : ∀ j : Nat, j < 16 → fL (176 + j) = xpl j) (p0 : Nat) (e0 : ws[p0]? = some (mo, .inr (12, [.ref m_tape, .int 0, .int 0, .int 0, .int 0, .int 0, .int 0, .int 0, .int 0, .int (-1), .ref m_laws, .ref m_hasLaws, .int 0, .int 0, .ref m_clubOf, .ref m_first, .ref m_last, .ref m_pay, .ref m_rise, .ref m_sure, .ref m_hasChoice, .ref m_isTaken, .ref m_isHurt, .ref m_dead, .ref m_usedSpare, .ref m_owner, .ref m_giver, .ref m_guarded, .ref m_drawnOf, .ref m_drawnTo, .int 0, .int 0, .ref m_table, .int 0, .ref m_moved, .ref m_from, .ref m_to, .ref m_guard, .ref m_worths, .ref m_ringClub, .ref m_ringGives, .int 0, .ref m_triedClub, .ref m_triedGives, .int 0, .int 0, .ref m_toldClub, .ref m_toldGives, .ref m_isOut, .ref m_purse, .int 0]))) (p1 : Nat) (e1 : ws[p1]? = some (m_laws, .inl (k_laws, 192, .inl fL))) (t1 : Nat) (y1 : tys[t1]? = some (k_laws, .int)) (p2 : Nat) (e2 : ws[p2]? = some (m_hasLaws, .inl (k_hasLaws, 10, .inl (fun _ => 0)))) (t2 : Nat) (y2 : tys[t2]? = some (k_hasLaws, .boolean)) (y : Int32) (y_t : Int) (h_y : y.toInt = y_t) (q : Int32) (q_t : Int) (h_q : q.toInt = q_t) (h1 : 0 ≤ y_t) (h2 : y_t ≤ 9) (h3 : 0 ≤ q_t) (h4 : q_t ≤ 15) : Met l yX12_lawOf wsX12_lawOf ({ frames := 1, cells := 0, slots := 0, locals := 64 }) (va_Pc [.ref mo, .int y, .int q] (xR (dC, dI) tys ws)) (vp_Si (fun r => (r = 1000 ∧ q_t = 0) ∨ (r = 15 ∧ q_t = 1) ∨ (r = 4 ∧ q_t = 2) ∨ (r = 100 ∧ q_t = 4) ∨ (r = 1 ∧ (q_t = 8 ∨ q_t = 9)) ∨ (r = 0 ∧ (q_t = 3 ∨ q_t = 5 ∨ q_t = 6 ∨ q_t = 7 ∨ 10 ≤ q_t)))) 0 0 (fun _ => False) := by
  refine Met.ofW (cc := cX12_lawOf) (maxL := 4) (ret := (some .int)) (by decide) rfl ?_
  intro pr_ ev_ s m args below meth cd_ s₁ B hml hv
  obtain ⟨rfl, hE, hK, hP⟩ := hv
  have hx := B.exec
  have hb := B.bytes
  have hr := B.returns
  have hts := atoms_spec (ws := wsX12_lawOf) B.pre
  have hown : s.vm.findClass RX12 = some m.cls := findClass_of_methodNamed B.named
  have hlocks := B.notSynchronized
  have iX12 : ∀ w ∈ u_ws RX12 TX12 51, w ∈ wsX12_lawOf := by decide +kernel
  have hl := lv_entry ([.ref mo, .int y, .int q]) (n := 4) (Nat.le_of_ble_eq_true rfl)
  rw [lg_entry_eq]
  generalize (lg_sl ([.ref mo, .int y, .int q]) ++ List.replicate (4 - (lg_sl ([.ref mo, .int y, .int q])).length) Slot.unset).toArray = ls at hl ⊢
  have hl : lv_has ls 4 [(0, .ref mo), (1, .int y), (2, .int q)] := hl
  have lo_y := xi_lo y
  have hi_y := xi_hi y
  have lo_q := xi_lo q
  have hi_q := xi_hi q
  refine lv_iload_n hx hb dX12_lawOf_0 rfl (lv_at hl 1 rfl) ?_
  refine lv_istore_n (lv' := [(3, .int y), (0, .ref mo), (1, .int y), (2, .int q)]) hx hb dX12_lawOf_1 rfl hl (by decide) rfl (fun ls hl => ?_)
  obtain ⟨v1, ev1⟩ : ∃ z : Int32, z = y := ⟨_, rfl⟩
  have jev1 : v1.toInt = y.toInt := by rw [ev1]
  replace hl : lv_has ls 4 [(3, .int v1), (0, .ref mo), (1, .int y), (2, .int q)] := by rw [ev1]; exact lv_sub hl [0, 1, 2, 3] rfl
  obtain ⟨n, hn, hm⟩ : ∃ n : Nat, v1.toInt = (n : Int) + -1 ∧ n ≤ 10 := ⟨(v1.toInt - (-1)).toNat, by omega, by omega⟩
  clear jev1 ev1
  induction n generalizing v1 ls with
  | zero =>
    refine lv_iload_n hx hb dX12_lawOf_2 rfl (lv_at hl 0 rfl) ?_
    refine lv_if_lt (tgt := 21) hx hb dX12_lawOf_3 (by decide) (fun c2 => ?_) (fun h => absurd (xi_nlt h rfl (by decide) : 0 ≤ v1.toInt) (by omega))
    have ic2 := (xi_lt c2 rfl (by decide) : v1.toInt < 0)
    refine lv_aload_n hx hb dX12_lawOf_21 rfl (lv_at hl 1 rfl) ?_
    refine va_get (D := (dC, dI)) (ci := 12) (v := .ref m_laws) (C := RX12) (T := TX12) (N := 51) hx hb hts iX12 hown hK hP p0 e0 rfl 10 (by decide) (hts (.fieldLink RX12 17 "CapLeagueModel" "laws" "[I") (by decide +kernel)) (fun _ h9 => h9) rfl dX12_lawOf_22 ?_
    refine lv_bipush (v := 16) hx hb dX12_lawOf_25 (by decide) ?_
    refine lv_iload_n hx hb dX12_lawOf_27 rfl (lv_at hl 0 rfl) ?_
    refine lv_if_ge (tgt := 36) hx hb dX12_lawOf_28 (by decide) (fun h => absurd (xi_le h (by decide) rfl : 0 ≤ v1.toInt) (by omega)) (fun c3 => ?_)
    have ic3 := (xi_nle c3 (by decide) rfl : v1.toInt < 0)
    refine lv_bipush (v := 11) hx hb dX12_lawOf_31 (by decide) ?_
    refine lv_goto (tgt := 37) hx hb dX12_lawOf_33 (by decide) ?_
    refine lv_imul hx hb dX12_lawOf_37 ?_
    refine xw_i (v := 176) (by decide) ?_
    refine lv_iload_n hx hb dX12_lawOf_38 rfl (lv_at hl 3 rfl) ?_
    refine lv_iadd hx hb dX12_lawOf_39 ?_
    refine lv_topi (fun v4 ev4 => ?_)
    have jv4 : v4.toInt = 176 + q.toInt := xi_add ev4 (by decide) rfl (by omega) (by omega)
    refine va_iald (D := (dC, dI)) hx hb hK hP p1 t1 e1 y1 (xi_in (by omega) (by omega)) dX12_lawOf_40 ?_
    refine lv_topi (fun v5 ev5 => ?_)
    have jr : v5 = xpl q_t := by rw [ev5]; exact xl_at hL (by omega) (by omega) (by omega)
    exact W.iret (v := v5) hx hb hr (fun t ht hW => ⟨v5, rfl, by (rcases (show q_t = 0 ∨ q_t = 1 ∨ q_t = 2 ∨ q_t = 4 ∨ q_t = 8 ∨ q_t = 9 ∨ (q_t = 3 ∨ q_t = 5 ∨ q_t = 6 ∨ q_t = 7 ∨ 10 ≤ q_t) by omega) with h | h | h | h | h | h | h <;> first | exact Or.inl ⟨by first | (rw [jr, h]; rfl) | (rw [jr]; exact (xpl_0 (by omega) (by omega) (by omega) (by omega) (by omega) (by omega)).symm), by omega⟩ | exact Or.inr (Or.inl ⟨by first | (rw [jr, h]; rfl) | (rw [jr]; exact (xpl_0 (by omega) (by omega) (by omega) (by omega) (by omega) (by omega)).symm), by omega⟩) | exact Or.inr (Or.inr (Or.inl ⟨by first | (rw [jr, h]; rfl) | (rw [jr]; exact (xpl_0 (by omega) (by omega) (by omega) (by omega) (by omega) (by omega)).symm), by omega⟩)) | exact Or.inr (Or.inr (Or.inr (Or.inl ⟨by first | (rw [jr, h]; rfl) | (rw [jr]; exact (xpl_0 (by omega) (by omega) (by omega) (by omega) (by omega) (by omega)).symm), by omega⟩))) | exact Or.inr (Or.inr (Or.inr (Or.inr (Or.inl ⟨by first | (rw [jr, h]; rfl) | (rw [jr]; exact (xpl_0 (by omega) (by omega) (by omega) (by omega) (by omega) (by omega)).symm), by omega⟩)))) | exact Or.inr (Or.inr (Or.inr (Or.inr (Or.inr (⟨by first | (rw [jr, h]; rfl) | (rw [jr]; exact (xpl_0 (by omega) (by omega) (by omega) (by omega) (by omega) (by omega)).symm), by omega⟩)))))), ht⟩) (fun _ h => by cases h) dX12_lawOf_41
  | succ n ih_2 =>
    refine lv_iload_n hx hb dX12_lawOf_2 rfl (lv_at hl 0 rfl) ?_
    refine lv_if_lt (tgt := 21) hx hb dX12_lawOf_3 (by decide) (fun h => absurd (xi_lt h rfl (by decide) : v1.toInt < 0) (by omega)) (fun c6 => ?_)
    have ic6 := (xi_nlt c6 rfl (by decide) : 0 ≤ v1.toInt)
    refine lv_aload_n hx hb dX12_lawOf_6 rfl (lv_at hl 1 rfl) ?_
    refine va_get (D := (dC, dI)) (ci := 12) (v := .ref m_hasLaws) (C := RX12) (T := TX12) (N := 51) hx hb hts iX12 hown hK hP p0 e0 rfl 11 (by decide) (hts (.fieldLink RX12 21 "CapLeagueModel" "hasLaws" "[Z") (by decide +kernel)) (fun _ h9 => h9) rfl dX12_lawOf_7 ?_
    refine lv_iload_n hx hb dX12_lawOf_10 rfl (lv_at hl 0 rfl) ?_
    refine va_zald (D := (dC, dI)) hx hb hK hP p2 t2 e2 y2 (xi_in (by omega) (by omega)) dX12_lawOf_11 ?_
    refine xw_i (v := 0) rfl ?_
    refine lv_if_ne (tgt := 21) hx hb dX12_lawOf_12 (by decide) (fun h => absurd (by decide) h) (fun _ => ?_)
    obtain ⟨v8, ev8⟩ : ∃ z : Int32, z = v1 + (-1) := ⟨_, rfl⟩
    have jv8 : v8.toInt = v1.toInt + (-1) := xi_add ev8 rfl (by decide) (by omega) (by omega)
    refine lv_iinc (v := v8) (lv' := [(3, .int v8), (0, .ref mo), (1, .int y), (2, .int q)]) hx hb dX12_lawOf_15 hl (k := 0) rfl (by rw [ev8]; rfl) (by decide) rfl (fun ls hl => ?_)
    refine lv_goto (tgt := 2) hx hb dX12_lawOf_18 (by decide) ?_
    exact ih_2 _ _ (lv_sub hl [0, 1, 2, 3] rfl) (by omega) (by omega)
set_option maxHeartbeats 4000000 in
set_option maxRecDepth 100000 in
theorem mX_law (l : Launch) (dC : Nat → ClassId) (dI : Nat → Nat → Nat) (ws : va_W) (tys : List (ClassId × FieldType)) {m_clubOf m_dead m_drawnOf m_drawnTo m_first m_from m_giver m_guard m_guarded m_hasChoice m_hasLaws m_isHurt m_isOut m_isTaken m_last m_laws m_moved m_owner m_pay m_purse m_ringClub m_ringGives m_rise m_sure m_table m_tape m_to m_toldClub m_toldGives m_triedClub m_triedGives m_usedSpare m_worths mo : Nat} {k_hasLaws k_laws : ClassId} {fL : Nat → Int32} (hL : ∀ j : Nat, j < 16 → fL (176 + j) = xpl j) (p0 : Nat) (e0 : ws[p0]? = some (mo, .inr (12, [.ref m_tape, .int 0, .int 0, .int 0, .int 0, .int 0, .int 0, .int 0, .int 0, .int (-1), .ref m_laws, .ref m_hasLaws, .int 0, .int 0, .ref m_clubOf, .ref m_first, .ref m_last, .ref m_pay, .ref m_rise, .ref m_sure, .ref m_hasChoice, .ref m_isTaken, .ref m_isHurt, .ref m_dead, .ref m_usedSpare, .ref m_owner, .ref m_giver, .ref m_guarded, .ref m_drawnOf, .ref m_drawnTo, .int 0, .int 0, .ref m_table, .int 0, .ref m_moved, .ref m_from, .ref m_to, .ref m_guard, .ref m_worths, .ref m_ringClub, .ref m_ringGives, .int 0, .ref m_triedClub, .ref m_triedGives, .int 0, .int 0, .ref m_toldClub, .ref m_toldGives, .ref m_isOut, .ref m_purse, .int 0]))) (p1 : Nat) (e1 : ws[p1]? = some (m_laws, .inl (k_laws, 192, .inl fL))) (t1 : Nat) (y1 : tys[t1]? = some (k_laws, .int)) (p2 : Nat) (e2 : ws[p2]? = some (m_hasLaws, .inl (k_hasLaws, 10, .inl (fun _ => 0)))) (t2 : Nat) (y2 : tys[t2]? = some (k_hasLaws, .boolean)) (y : Int32) (y_t : Int) (h_y : y.toInt = y_t) (q : Int32) (q_t : Int) (h_q : q.toInt = q_t)  : Met l yX12_law wsX12_law ({ frames := 2, cells := 0, slots := 0, locals := 128 }) (va_Pc [.ref mo, .int y, .int q] (xR (dC, dI) tys ws)) (vp_Si (fun r => (r = 1000 ∧ 0 ≤ y_t ∧ y_t ≤ 9 ∧ q_t = 0) ∨ (r = 15 ∧ 0 ≤ y_t ∧ y_t ≤ 9 ∧ q_t = 1) ∨ (r = 4 ∧ 0 ≤ y_t ∧ y_t ≤ 9 ∧ q_t = 2) ∨ (r = 100 ∧ 0 ≤ y_t ∧ y_t ≤ 9 ∧ q_t = 4) ∨ (r = 1 ∧ 0 ≤ y_t ∧ y_t ≤ 9 ∧ (q_t = 8 ∨ q_t = 10)) ∨ (r = 0 ∧ 0 ≤ y_t ∧ y_t ≤ 9 ∧ (q_t = 3 ∨ q_t = 5 ∨ q_t = 6 ∨ q_t = 7)) ∨ (r = (-9) ∧ ¬ (0 ≤ y_t ∧ y_t ≤ 9 ∧ 0 ≤ q_t ∧ q_t ≤ 10 ∧ q_t ≠ 9)))) 0 0 (fun _ => False) := by
  refine Met.ofW (cc := cX12_law) (maxL := 3) (ret := (some .int)) (by decide) rfl ?_
  intro pr_ ev_ s m args below meth cd_ s₁ B hml hv
  obtain ⟨rfl, hE, hK, hP⟩ := hv
  have hx := B.exec
  have hb := B.bytes
  have hr := B.returns
  have hts := atoms_spec (ws := wsX12_law) B.pre
  have hown : s.vm.findClass RX12 = some m.cls := findClass_of_methodNamed B.named
  have hlocks := B.notSynchronized
  have hl := lv_entry ([.ref mo, .int y, .int q]) (n := 3) (Nat.le_of_ble_eq_true rfl)
  rw [lg_entry_eq]
  generalize (lg_sl ([.ref mo, .int y, .int q]) ++ List.replicate (3 - (lg_sl ([.ref mo, .int y, .int q])).length) Slot.unset).toArray = ls at hl ⊢
  have hl : lv_has ls 3 [(0, .ref mo), (1, .int y), (2, .int q)] := hl
  have lo_y := xi_lo y
  have hi_y := xi_hi y
  have lo_q := xi_lo q
  have hi_q := xi_hi q
  refine lv_iload_n hx hb dX12_law_0 rfl (lv_at hl 1 rfl) ?_
  refine lv_i2l hx hb dX12_law_1 rfl ?_
  refine lv_lconst (v := 0) hx hb dX12_law_2 (by decide) ?_
  refine lv_ldc2 (v := 9) hx hb hown (hts (.constantLong RX12 190 (9)) (by decide +kernel)) dX12_law_3 ?_
  refine vp_callSi (W.runS (As := [.long y.toInt64, .long 0, .long 9]) (rest := []) ⟨hx, hb, hml, hown, hts⟩ (cX12_in_ l dC dI ws tys y.toInt64 (y.toInt) (xi_64 y) 0 (0) (by decide) 9 (9) (by decide)) (va_cwS 3 hts gX12_law_X12_in rfl rfl rfl (by decide +kernel) ⟨Nat.le_of_ble_eq_true rfl, Nat.le_of_ble_eq_true rfl⟩) ⟨xR_blind _ _ _ _, xR_pre _ hE hK hP⟩ rfl rfl hl.1 rfl (lv_room (Nat.le_of_ble_eq_true rfl)) dX12_law_6 ⟨Nat.le_of_ble_eq_true rfl, Nat.le_of_ble_eq_true rfl⟩) (fun rh1 h1 => ?_)
  rcases h1 with ⟨rfl, h1⟩ | ⟨rfl, h1⟩
  · skip
    refine lv_if_ne (tgt := 15) hx hb dX12_law_9 (by decide) (fun _ => ?_) (fun h => absurd h (by decide))
    refine lv_iload_n hx hb dX12_law_15 rfl (lv_at hl 2 rfl) ?_
    refine lv_i2l hx hb dX12_law_16 rfl ?_
    refine lv_lconst (v := 0) hx hb dX12_law_17 (by decide) ?_
    refine lv_ldc2 (v := 8) hx hb hown (hts (.constantLong RX12 195 (8)) (by decide +kernel)) dX12_law_18 ?_
    refine vp_callSi (W.runS (As := [.long q.toInt64, .long 0, .long 8]) (rest := []) ⟨hx, hb, hml, hown, hts⟩ (cX12_in_ l dC dI ws tys q.toInt64 (q.toInt) (xi_64 q) 0 (0) (by decide) 8 (8) (by decide)) (va_cwS 3 hts gX12_law_X12_in rfl rfl rfl (by decide +kernel) ⟨Nat.le_of_ble_eq_true rfl, Nat.le_of_ble_eq_true rfl⟩) ⟨xR_blind _ _ _ _, xR_pre _ hE hK hP⟩ rfl rfl hl.1 rfl (lv_room (Nat.le_of_ble_eq_true rfl)) dX12_law_21 ⟨Nat.le_of_ble_eq_true rfl, Nat.le_of_ble_eq_true rfl⟩) (fun rh3 h3 => ?_)
    rcases h3 with ⟨rfl, h3⟩ | ⟨rfl, h3⟩
    · skip
      refine lv_if_eq (tgt := 34) hx hb dX12_law_24 (by decide) (fun h => absurd h (by decide)) (fun _ => ?_)
      refine lv_aload_n hx hb dX12_law_27 rfl (lv_at hl 0 rfl) ?_
      refine lv_iload_n hx hb dX12_law_28 rfl (lv_at hl 1 rfl) ?_
      refine lv_iload_n hx hb dX12_law_29 rfl (lv_at hl 2 rfl) ?_
      refine vp_callSi (W.runV (As := [.int y, .int q]) (rest := []) ⟨hx, hb, hml, hown, hts⟩ (rX12_lawOf l dC dI ws tys hL p0 e0 p1 e1 t1 y1 p2 e2 t2 y2 y (y.toInt) rfl q (q.toInt) rfl (by omega) (by omega) (by omega) (by omega)) (cwV 2 hts gX12_law_X12_lawOf rfl rfl rfl (by decide +kernel) ⟨Nat.le_of_ble_eq_true rfl, Nat.le_of_ble_eq_true rfl⟩) ⟨xR_blind _ _ _ _, va_recv hK hP (ci := 12) (q0 := p0) rfl e0, xR_pre _ hE hK hP⟩ rfl rfl hl.1 rfl (lv_room (Nat.le_of_ble_eq_true rfl)) dX12_law_30 ⟨Nat.le_of_ble_eq_true rfl, Nat.le_of_ble_eq_true rfl⟩) (fun rh5 h5 => ?_)
      rcases h5 with ⟨rfl, h5⟩ | ⟨rfl, h5⟩ | ⟨rfl, h5⟩ | ⟨rfl, h5⟩ | ⟨rfl, h5⟩ | ⟨rfl, h5⟩
      · skip
        exact W.iret (v := 1000) hx hb hr (fun t ht hW => ⟨1000, rfl, by first | exact Or.inl ⟨by first | rfl | exact xi_k (k := 1000) (by decide) (by omega), by first | trivial | omega⟩ | exact Or.inr (Or.inl ⟨by first | rfl | exact xi_k (k := 15) (by decide) (by omega), by first | trivial | omega⟩) | exact Or.inr (Or.inr (Or.inl ⟨by first | rfl | exact xi_k (k := 4) (by decide) (by omega), by first | trivial | omega⟩)) | exact Or.inr (Or.inr (Or.inr (Or.inl ⟨by first | rfl | exact xi_k (k := 100) (by decide) (by omega), by first | trivial | omega⟩))) | exact Or.inr (Or.inr (Or.inr (Or.inr (Or.inl ⟨by first | rfl | exact xi_k (k := 1) (by decide) (by omega), by first | trivial | omega⟩)))) | exact Or.inr (Or.inr (Or.inr (Or.inr (Or.inr (Or.inl ⟨by first | rfl | exact xi_k (k := 0) (by decide) (by omega), by first | trivial | omega⟩))))) | exact Or.inr (Or.inr (Or.inr (Or.inr (Or.inr (Or.inr (⟨by first | rfl | exact xi_k (k := (-9)) (by decide) (by omega), by first | trivial | omega⟩)))))), ht⟩) (fun _ h => by cases h) dX12_law_33
      · skip
        exact W.iret (v := 15) hx hb hr (fun t ht hW => ⟨15, rfl, by first | exact Or.inl ⟨by first | rfl | exact xi_k (k := 1000) (by decide) (by omega), by first | trivial | omega⟩ | exact Or.inr (Or.inl ⟨by first | rfl | exact xi_k (k := 15) (by decide) (by omega), by first | trivial | omega⟩) | exact Or.inr (Or.inr (Or.inl ⟨by first | rfl | exact xi_k (k := 4) (by decide) (by omega), by first | trivial | omega⟩)) | exact Or.inr (Or.inr (Or.inr (Or.inl ⟨by first | rfl | exact xi_k (k := 100) (by decide) (by omega), by first | trivial | omega⟩))) | exact Or.inr (Or.inr (Or.inr (Or.inr (Or.inl ⟨by first | rfl | exact xi_k (k := 1) (by decide) (by omega), by first | trivial | omega⟩)))) | exact Or.inr (Or.inr (Or.inr (Or.inr (Or.inr (Or.inl ⟨by first | rfl | exact xi_k (k := 0) (by decide) (by omega), by first | trivial | omega⟩))))) | exact Or.inr (Or.inr (Or.inr (Or.inr (Or.inr (Or.inr (⟨by first | rfl | exact xi_k (k := (-9)) (by decide) (by omega), by first | trivial | omega⟩)))))), ht⟩) (fun _ h => by cases h) dX12_law_33
      · skip
        exact W.iret (v := 4) hx hb hr (fun t ht hW => ⟨4, rfl, by first | exact Or.inl ⟨by first | rfl | exact xi_k (k := 1000) (by decide) (by omega), by first | trivial | omega⟩ | exact Or.inr (Or.inl ⟨by first | rfl | exact xi_k (k := 15) (by decide) (by omega), by first | trivial | omega⟩) | exact Or.inr (Or.inr (Or.inl ⟨by first | rfl | exact xi_k (k := 4) (by decide) (by omega), by first | trivial | omega⟩)) | exact Or.inr (Or.inr (Or.inr (Or.inl ⟨by first | rfl | exact xi_k (k := 100) (by decide) (by omega), by first | trivial | omega⟩))) | exact Or.inr (Or.inr (Or.inr (Or.inr (Or.inl ⟨by first | rfl | exact xi_k (k := 1) (by decide) (by omega), by first | trivial | omega⟩)))) | exact Or.inr (Or.inr (Or.inr (Or.inr (Or.inr (Or.inl ⟨by first | rfl | exact xi_k (k := 0) (by decide) (by omega), by first | trivial | omega⟩))))) | exact Or.inr (Or.inr (Or.inr (Or.inr (Or.inr (Or.inr (⟨by first | rfl | exact xi_k (k := (-9)) (by decide) (by omega), by first | trivial | omega⟩)))))), ht⟩) (fun _ h => by cases h) dX12_law_33
      · skip
        exact W.iret (v := 100) hx hb hr (fun t ht hW => ⟨100, rfl, by first | exact Or.inl ⟨by first | rfl | exact xi_k (k := 1000) (by decide) (by omega), by first | trivial | omega⟩ | exact Or.inr (Or.inl ⟨by first | rfl | exact xi_k (k := 15) (by decide) (by omega), by first | trivial | omega⟩) | exact Or.inr (Or.inr (Or.inl ⟨by first | rfl | exact xi_k (k := 4) (by decide) (by omega), by first | trivial | omega⟩)) | exact Or.inr (Or.inr (Or.inr (Or.inl ⟨by first | rfl | exact xi_k (k := 100) (by decide) (by omega), by first | trivial | omega⟩))) | exact Or.inr (Or.inr (Or.inr (Or.inr (Or.inl ⟨by first | rfl | exact xi_k (k := 1) (by decide) (by omega), by first | trivial | omega⟩)))) | exact Or.inr (Or.inr (Or.inr (Or.inr (Or.inr (Or.inl ⟨by first | rfl | exact xi_k (k := 0) (by decide) (by omega), by first | trivial | omega⟩))))) | exact Or.inr (Or.inr (Or.inr (Or.inr (Or.inr (Or.inr (⟨by first | rfl | exact xi_k (k := (-9)) (by decide) (by omega), by first | trivial | omega⟩)))))), ht⟩) (fun _ h => by cases h) dX12_law_33
      · skip
        exact W.iret (v := 1) hx hb hr (fun t ht hW => ⟨1, rfl, by first | exact Or.inl ⟨by first | rfl | exact xi_k (k := 1000) (by decide) (by omega), by first | trivial | omega⟩ | exact Or.inr (Or.inl ⟨by first | rfl | exact xi_k (k := 15) (by decide) (by omega), by first | trivial | omega⟩) | exact Or.inr (Or.inr (Or.inl ⟨by first | rfl | exact xi_k (k := 4) (by decide) (by omega), by first | trivial | omega⟩)) | exact Or.inr (Or.inr (Or.inr (Or.inl ⟨by first | rfl | exact xi_k (k := 100) (by decide) (by omega), by first | trivial | omega⟩))) | exact Or.inr (Or.inr (Or.inr (Or.inr (Or.inl ⟨by first | rfl | exact xi_k (k := 1) (by decide) (by omega), by first | trivial | omega⟩)))) | exact Or.inr (Or.inr (Or.inr (Or.inr (Or.inr (Or.inl ⟨by first | rfl | exact xi_k (k := 0) (by decide) (by omega), by first | trivial | omega⟩))))) | exact Or.inr (Or.inr (Or.inr (Or.inr (Or.inr (Or.inr (⟨by first | rfl | exact xi_k (k := (-9)) (by decide) (by omega), by first | trivial | omega⟩)))))), ht⟩) (fun _ h => by cases h) dX12_law_33
      · skip
        exact W.iret (v := 0) hx hb hr (fun t ht hW => ⟨0, rfl, by first | exact Or.inl ⟨by first | rfl | exact xi_k (k := 1000) (by decide) (by omega), by first | trivial | omega⟩ | exact Or.inr (Or.inl ⟨by first | rfl | exact xi_k (k := 15) (by decide) (by omega), by first | trivial | omega⟩) | exact Or.inr (Or.inr (Or.inl ⟨by first | rfl | exact xi_k (k := 4) (by decide) (by omega), by first | trivial | omega⟩)) | exact Or.inr (Or.inr (Or.inr (Or.inl ⟨by first | rfl | exact xi_k (k := 100) (by decide) (by omega), by first | trivial | omega⟩))) | exact Or.inr (Or.inr (Or.inr (Or.inr (Or.inl ⟨by first | rfl | exact xi_k (k := 1) (by decide) (by omega), by first | trivial | omega⟩)))) | exact Or.inr (Or.inr (Or.inr (Or.inr (Or.inr (Or.inl ⟨by first | rfl | exact xi_k (k := 0) (by decide) (by omega), by first | trivial | omega⟩))))) | exact Or.inr (Or.inr (Or.inr (Or.inr (Or.inr (Or.inr (⟨by first | rfl | exact xi_k (k := (-9)) (by decide) (by omega), by first | trivial | omega⟩)))))), ht⟩) (fun _ h => by cases h) dX12_law_33
    · skip
      refine lv_if_eq (tgt := 34) hx hb dX12_law_24 (by decide) (fun _ => ?_) (fun h => absurd (by decide) h)
      refine lv_iload_n hx hb dX12_law_34 rfl (lv_at hl 2 rfl) ?_
      refine lv_i2l hx hb dX12_law_35 rfl ?_
      refine lv_ldc2 (v := 10) hx hb hown (hts (.constantLong RX12 200 (10)) (by decide +kernel)) dX12_law_36 ?_
      refine lv_bipush (v := 9) hx hb dX12_law_39 (by decide) ?_
      refine lv_aload_n hx hb dX12_law_41 rfl (lv_at hl 0 rfl) ?_
      refine lv_iload_n hx hb dX12_law_42 rfl (lv_at hl 1 rfl) ?_
      refine lv_bipush (v := 8) hx hb dX12_law_43 (by decide) ?_
      refine vp_callSi (W.runV (As := [.int y, .int 8]) (rest := [.int 9, .long 10, .long q.toInt64]) ⟨hx, hb, hml, hown, hts⟩ (rX12_lawOf l dC dI ws tys hL p0 e0 p1 e1 t1 y1 p2 e2 t2 y2 y (y.toInt) rfl 8 (8) (by decide) (by omega) (by omega) (by omega) (by omega)) (cwV 2 hts gX12_law_X12_lawOf rfl rfl rfl (by decide +kernel) ⟨Nat.le_of_ble_eq_true rfl, Nat.le_of_ble_eq_true rfl⟩) ⟨xR_blind _ _ _ _, va_recv hK hP (ci := 12) (q0 := p0) rfl e0, xR_pre _ hE hK hP⟩ rfl rfl hl.1 rfl (lv_room (Nat.le_of_ble_eq_true rfl)) dX12_law_45 ⟨Nat.le_of_ble_eq_true rfl, Nat.le_of_ble_eq_true rfl⟩) (fun rh7 h7 => ?_)
      rcases h7 with ⟨rfl, h7⟩ | ⟨rfl, h7⟩ | ⟨rfl, h7⟩ | ⟨rfl, h7⟩ | ⟨rfl, h7⟩ | ⟨rfl, h7⟩
      · skip
        exact absurd h7 (by omega)
      · skip
        exact absurd h7 (by omega)
      · skip
        exact absurd h7 (by omega)
      · skip
        exact absurd h7 (by omega)
      · skip
        refine lv_iadd hx hb dX12_law_48 ?_
        refine xw_i (v := 10) (by decide) ?_
        refine lv_i2l (v := 10) hx hb dX12_law_49 (by decide) ?_
        refine vp_callSi (W.runS (As := [.long q.toInt64, .long 10, .long 10]) (rest := []) ⟨hx, hb, hml, hown, hts⟩ (cX12_in_ l dC dI ws tys q.toInt64 (q.toInt) (xi_64 q) 10 (10) (by decide) 10 (10) (by decide)) (va_cwS 3 hts gX12_law_X12_in rfl rfl rfl (by decide +kernel) ⟨Nat.le_of_ble_eq_true rfl, Nat.le_of_ble_eq_true rfl⟩) ⟨xR_blind _ _ _ _, xR_pre _ hE hK hP⟩ rfl rfl hl.1 rfl (lv_room (Nat.le_of_ble_eq_true rfl)) dX12_law_50 ⟨Nat.le_of_ble_eq_true rfl, Nat.le_of_ble_eq_true rfl⟩) (fun rh8 h8 => ?_)
        rcases h8 with ⟨rfl, h8⟩ | ⟨rfl, h8⟩
        · skip
          refine lv_if_eq (tgt := 67) hx hb dX12_law_53 (by decide) (fun h => absurd h (by decide)) (fun _ => ?_)
          refine lv_aload_n hx hb dX12_law_56 rfl (lv_at hl 0 rfl) ?_
          refine lv_iload_n hx hb dX12_law_57 rfl (lv_at hl 1 rfl) ?_
          refine lv_iload_n hx hb dX12_law_58 rfl (lv_at hl 2 rfl) ?_
          refine lv_iconst (v := 1) hx hb dX12_law_59 (by decide) ?_
          refine lv_isub hx hb dX12_law_60 ?_
          refine lv_topi (fun v10 ev10 => ?_)
          have jv10 : v10.toInt = q.toInt - 1 := xi_sub ev10 rfl (by decide) (by omega) (by omega)
          refine vp_callSi (W.runV (As := [.int y, .int v10]) (rest := []) ⟨hx, hb, hml, hown, hts⟩ (rX12_lawOf l dC dI ws tys hL p0 e0 p1 e1 t1 y1 p2 e2 t2 y2 y (y.toInt) rfl v10 (v10.toInt) rfl (by omega) (by omega) (by omega) (by omega)) (cwV 2 hts gX12_law_X12_lawOf rfl rfl rfl (by decide +kernel) ⟨Nat.le_of_ble_eq_true rfl, Nat.le_of_ble_eq_true rfl⟩) ⟨xR_blind _ _ _ _, va_recv hK hP (ci := 12) (q0 := p0) rfl e0, xR_pre _ hE hK hP⟩ rfl rfl hl.1 rfl (lv_room (Nat.le_of_ble_eq_true rfl)) dX12_law_61 ⟨Nat.le_of_ble_eq_true rfl, Nat.le_of_ble_eq_true rfl⟩) (fun rh11 h11 => ?_)
          rcases h11 with ⟨rfl, h11⟩ | ⟨rfl, h11⟩ | ⟨rfl, h11⟩ | ⟨rfl, h11⟩ | ⟨rfl, h11⟩ | ⟨rfl, h11⟩
          · skip
            exact absurd h11 (by omega)
          · skip
            exact absurd h11 (by omega)
          · skip
            exact absurd h11 (by omega)
          · skip
            exact absurd h11 (by omega)
          · skip
            refine lv_goto (tgt := 69) hx hb dX12_law_64 (by decide) ?_
            exact W.iret (v := 1) hx hb hr (fun t ht hW => ⟨1, rfl, by first | exact Or.inl ⟨by first | rfl | exact xi_k (k := 1000) (by decide) (by omega), by first | trivial | omega⟩ | exact Or.inr (Or.inl ⟨by first | rfl | exact xi_k (k := 15) (by decide) (by omega), by first | trivial | omega⟩) | exact Or.inr (Or.inr (Or.inl ⟨by first | rfl | exact xi_k (k := 4) (by decide) (by omega), by first | trivial | omega⟩)) | exact Or.inr (Or.inr (Or.inr (Or.inl ⟨by first | rfl | exact xi_k (k := 100) (by decide) (by omega), by first | trivial | omega⟩))) | exact Or.inr (Or.inr (Or.inr (Or.inr (Or.inl ⟨by first | rfl | exact xi_k (k := 1) (by decide) (by omega), by first | trivial | omega⟩)))) | exact Or.inr (Or.inr (Or.inr (Or.inr (Or.inr (Or.inl ⟨by first | rfl | exact xi_k (k := 0) (by decide) (by omega), by first | trivial | omega⟩))))) | exact Or.inr (Or.inr (Or.inr (Or.inr (Or.inr (Or.inr (⟨by first | rfl | exact xi_k (k := (-9)) (by decide) (by omega), by first | trivial | omega⟩)))))), ht⟩) (fun _ h => by cases h) dX12_law_69
          · skip
            refine lv_goto (tgt := 69) hx hb dX12_law_64 (by decide) ?_
            exact W.iret (v := 0) hx hb hr (fun t ht hW => ⟨0, rfl, by first | exact Or.inl ⟨by first | rfl | exact xi_k (k := 1000) (by decide) (by omega), by first | trivial | omega⟩ | exact Or.inr (Or.inl ⟨by first | rfl | exact xi_k (k := 15) (by decide) (by omega), by first | trivial | omega⟩) | exact Or.inr (Or.inr (Or.inl ⟨by first | rfl | exact xi_k (k := 4) (by decide) (by omega), by first | trivial | omega⟩)) | exact Or.inr (Or.inr (Or.inr (Or.inl ⟨by first | rfl | exact xi_k (k := 100) (by decide) (by omega), by first | trivial | omega⟩))) | exact Or.inr (Or.inr (Or.inr (Or.inr (Or.inl ⟨by first | rfl | exact xi_k (k := 1) (by decide) (by omega), by first | trivial | omega⟩)))) | exact Or.inr (Or.inr (Or.inr (Or.inr (Or.inr (Or.inl ⟨by first | rfl | exact xi_k (k := 0) (by decide) (by omega), by first | trivial | omega⟩))))) | exact Or.inr (Or.inr (Or.inr (Or.inr (Or.inr (Or.inr (⟨by first | rfl | exact xi_k (k := (-9)) (by decide) (by omega), by first | trivial | omega⟩)))))), ht⟩) (fun _ h => by cases h) dX12_law_69
        · skip
          refine lv_if_eq (tgt := 67) hx hb dX12_law_53 (by decide) (fun _ => ?_) (fun h => absurd (by decide) h)
          refine lv_bipush (v := (-9)) hx hb dX12_law_67 (by decide) ?_
          exact W.iret (v := (-9)) hx hb hr (fun t ht hW => ⟨(-9), rfl, by first | exact Or.inl ⟨by first | rfl | exact xi_k (k := 1000) (by decide) (by omega), by first | trivial | omega⟩ | exact Or.inr (Or.inl ⟨by first | rfl | exact xi_k (k := 15) (by decide) (by omega), by first | trivial | omega⟩) | exact Or.inr (Or.inr (Or.inl ⟨by first | rfl | exact xi_k (k := 4) (by decide) (by omega), by first | trivial | omega⟩)) | exact Or.inr (Or.inr (Or.inr (Or.inl ⟨by first | rfl | exact xi_k (k := 100) (by decide) (by omega), by first | trivial | omega⟩))) | exact Or.inr (Or.inr (Or.inr (Or.inr (Or.inl ⟨by first | rfl | exact xi_k (k := 1) (by decide) (by omega), by first | trivial | omega⟩)))) | exact Or.inr (Or.inr (Or.inr (Or.inr (Or.inr (Or.inl ⟨by first | rfl | exact xi_k (k := 0) (by decide) (by omega), by first | trivial | omega⟩))))) | exact Or.inr (Or.inr (Or.inr (Or.inr (Or.inr (Or.inr (⟨by first | rfl | exact xi_k (k := (-9)) (by decide) (by omega), by first | trivial | omega⟩)))))), ht⟩) (fun _ h => by cases h) dX12_law_69
      · skip
        refine lv_iadd hx hb dX12_law_48 ?_
        refine xw_i (v := 9) (by decide) ?_
        refine lv_i2l (v := 9) hx hb dX12_law_49 (by decide) ?_
        refine vp_callSi (W.runS (As := [.long q.toInt64, .long 10, .long 9]) (rest := []) ⟨hx, hb, hml, hown, hts⟩ (cX12_in_ l dC dI ws tys q.toInt64 (q.toInt) (xi_64 q) 10 (10) (by decide) 9 (9) (by decide)) (va_cwS 3 hts gX12_law_X12_in rfl rfl rfl (by decide +kernel) ⟨Nat.le_of_ble_eq_true rfl, Nat.le_of_ble_eq_true rfl⟩) ⟨xR_blind _ _ _ _, xR_pre _ hE hK hP⟩ rfl rfl hl.1 rfl (lv_room (Nat.le_of_ble_eq_true rfl)) dX12_law_50 ⟨Nat.le_of_ble_eq_true rfl, Nat.le_of_ble_eq_true rfl⟩) (fun rh13 h13 => ?_)
        rcases h13 with ⟨rfl, h13⟩ | ⟨rfl, h13⟩
        · skip
          exact absurd h13 (by omega)
        · skip
          refine lv_if_eq (tgt := 67) hx hb dX12_law_53 (by decide) (fun _ => ?_) (fun h => absurd (by decide) h)
          refine lv_bipush (v := (-9)) hx hb dX12_law_67 (by decide) ?_
          exact W.iret (v := (-9)) hx hb hr (fun t ht hW => ⟨(-9), rfl, by first | exact Or.inl ⟨by first | rfl | exact xi_k (k := 1000) (by decide) (by omega), by first | trivial | omega⟩ | exact Or.inr (Or.inl ⟨by first | rfl | exact xi_k (k := 15) (by decide) (by omega), by first | trivial | omega⟩) | exact Or.inr (Or.inr (Or.inl ⟨by first | rfl | exact xi_k (k := 4) (by decide) (by omega), by first | trivial | omega⟩)) | exact Or.inr (Or.inr (Or.inr (Or.inl ⟨by first | rfl | exact xi_k (k := 100) (by decide) (by omega), by first | trivial | omega⟩))) | exact Or.inr (Or.inr (Or.inr (Or.inr (Or.inl ⟨by first | rfl | exact xi_k (k := 1) (by decide) (by omega), by first | trivial | omega⟩)))) | exact Or.inr (Or.inr (Or.inr (Or.inr (Or.inr (Or.inl ⟨by first | rfl | exact xi_k (k := 0) (by decide) (by omega), by first | trivial | omega⟩))))) | exact Or.inr (Or.inr (Or.inr (Or.inr (Or.inr (Or.inr (⟨by first | rfl | exact xi_k (k := (-9)) (by decide) (by omega), by first | trivial | omega⟩)))))), ht⟩) (fun _ h => by cases h) dX12_law_69
  · skip
    refine lv_if_ne (tgt := 15) hx hb dX12_law_9 (by decide) (fun h => absurd (by decide) h) (fun _ => ?_)
    refine lv_bipush (v := (-9)) hx hb dX12_law_12 (by decide) ?_
    exact W.iret (v := (-9)) hx hb hr (fun t ht hW => ⟨(-9), rfl, by first | exact Or.inl ⟨by first | rfl | exact xi_k (k := 1000) (by decide) (by omega), by first | trivial | omega⟩ | exact Or.inr (Or.inl ⟨by first | rfl | exact xi_k (k := 15) (by decide) (by omega), by first | trivial | omega⟩) | exact Or.inr (Or.inr (Or.inl ⟨by first | rfl | exact xi_k (k := 4) (by decide) (by omega), by first | trivial | omega⟩)) | exact Or.inr (Or.inr (Or.inr (Or.inl ⟨by first | rfl | exact xi_k (k := 100) (by decide) (by omega), by first | trivial | omega⟩))) | exact Or.inr (Or.inr (Or.inr (Or.inr (Or.inl ⟨by first | rfl | exact xi_k (k := 1) (by decide) (by omega), by first | trivial | omega⟩)))) | exact Or.inr (Or.inr (Or.inr (Or.inr (Or.inr (Or.inl ⟨by first | rfl | exact xi_k (k := 0) (by decide) (by omega), by first | trivial | omega⟩))))) | exact Or.inr (Or.inr (Or.inr (Or.inr (Or.inr (Or.inr (⟨by first | rfl | exact xi_k (k := (-9)) (by decide) (by omega), by first | trivial | omega⟩)))))), ht⟩) (fun _ h => by cases h) dX12_law_14
set_option maxHeartbeats 4000000 in
set_option maxRecDepth 100000 in
theorem rX12_lots (l : Launch) (dC : Nat → ClassId) (dI : Nat → Nat → Nat) (ws : va_W) (tys : List (ClassId × FieldType)) {m_clubOf m_dead m_drawnOf m_drawnTo m_first m_from m_giver m_guard m_guarded m_hasChoice m_hasLaws m_isHurt m_isOut m_isTaken m_last m_laws m_moved m_owner m_pay m_purse m_ringClub m_ringGives m_rise m_sure m_table m_tape m_to m_toldClub m_toldGives m_triedClub m_triedGives m_usedSpare m_worths mo : Nat} {k_hasLaws k_laws : ClassId} {fL : Nat → Int32} (hL : ∀ j : Nat, j < 16 → fL (176 + j) = xpl j) (p0 : Nat) (e0 : ws[p0]? = some (mo, .inr (12, [.ref m_tape, .int 0, .int 0, .int 0, .int 0, .int 0, .int 0, .int 0, .int 0, .int (-1), .ref m_laws, .ref m_hasLaws, .int 0, .int 0, .ref m_clubOf, .ref m_first, .ref m_last, .ref m_pay, .ref m_rise, .ref m_sure, .ref m_hasChoice, .ref m_isTaken, .ref m_isHurt, .ref m_dead, .ref m_usedSpare, .ref m_owner, .ref m_giver, .ref m_guarded, .ref m_drawnOf, .ref m_drawnTo, .int 0, .int 0, .ref m_table, .int 0, .ref m_moved, .ref m_from, .ref m_to, .ref m_guard, .ref m_worths, .ref m_ringClub, .ref m_ringGives, .int 0, .ref m_triedClub, .ref m_triedGives, .int 0, .int 0, .ref m_toldClub, .ref m_toldGives, .ref m_isOut, .ref m_purse, .int 0]))) (p1 : Nat) (e1 : ws[p1]? = some (m_laws, .inl (k_laws, 192, .inl fL))) (t1 : Nat) (y1 : tys[t1]? = some (k_laws, .int)) (p2 : Nat) (e2 : ws[p2]? = some (m_hasLaws, .inl (k_hasLaws, 10, .inl (fun _ => 0)))) (t2 : Nat) (y2 : tys[t2]? = some (k_hasLaws, .boolean))   : Met l yX12_lots wsX12_lots ({ frames := 2, cells := 0, slots := 0, locals := 128 }) (va_Pc [.ref mo] (xR (dC, dI) tys ws)) (vp_Si (fun r => (r = 0 ∧ True))) 0 0 (fun _ => False) := by
  refine Met.ofW (cc := cX12_lots) (maxL := 1) (ret := (some .int)) (by decide) rfl ?_
  intro pr_ ev_ s m args below meth cd_ s₁ B hml hv
  obtain ⟨rfl, hE, hK, hP⟩ := hv
  have hx := B.exec
  have hb := B.bytes
  have hr := B.returns
  have hts := atoms_spec (ws := wsX12_lots) B.pre
  have hown : s.vm.findClass RX12 = some m.cls := findClass_of_methodNamed B.named
  have hlocks := B.notSynchronized
  have iX12 : ∀ w ∈ u_ws RX12 TX12 51, w ∈ wsX12_lots := by decide +kernel
  have hl := lv_entry ([.ref mo]) (n := 1) (Nat.le_of_ble_eq_true rfl)
  rw [lg_entry_eq]
  generalize (lg_sl ([.ref mo]) ++ List.replicate (1 - (lg_sl ([.ref mo])).length) Slot.unset).toArray = ls at hl ⊢
  have hl : lv_has ls 1 [(0, .ref mo)] := hl
  refine lv_aload_n hx hb dX12_lots_0 rfl (lv_at hl 0 rfl) ?_
  refine lv_aload_n hx hb dX12_lots_1 rfl (lv_at hl 0 rfl) ?_
  refine va_get (D := (dC, dI)) (ci := 12) (v := .int 0) (C := RX12) (T := TX12) (N := 51) hx hb hts iX12 hown hK hP p0 e0 rfl 12 (by decide) (hts (.fieldLink RX12 187 "CapLeagueModel" "clock" "I") (by decide +kernel)) (fun _ h9 => h9) rfl dX12_lots_2 ?_
  refine lv_bipush (v := 8) hx hb dX12_lots_5 (by decide) ?_
  refine vp_callSi (W.runV (As := [.int 0, .int 8]) (rest := []) ⟨hx, hb, hml, hown, hts⟩ (rX12_lawOf l dC dI ws tys hL p0 e0 p1 e1 t1 y1 p2 e2 t2 y2 0 (0) (by decide) 8 (8) (by decide) (by omega) (by omega) (by omega) (by omega)) (cwV 2 hts gX12_lots_X12_lawOf rfl rfl rfl (by decide +kernel) ⟨Nat.le_of_ble_eq_true rfl, Nat.le_of_ble_eq_true rfl⟩) ⟨xR_blind _ _ _ _, va_recv hK hP (ci := 12) (q0 := p0) rfl e0, xR_pre _ hE hK hP⟩ rfl rfl hl.1 rfl (lv_room (Nat.le_of_ble_eq_true rfl)) dX12_lots_7 ⟨Nat.le_of_ble_eq_true rfl, Nat.le_of_ble_eq_true rfl⟩) (fun rh1 h1 => ?_)
  rcases h1 with ⟨rfl, h1⟩ | ⟨rfl, h1⟩ | ⟨rfl, h1⟩ | ⟨rfl, h1⟩ | ⟨rfl, h1⟩ | ⟨rfl, h1⟩
  · skip
    exact absurd h1 (by omega)
  · skip
    exact absurd h1 (by omega)
  · skip
    exact absurd h1 (by omega)
  · skip
    exact absurd h1 (by omega)
  · skip
    refine lv_iconst (v := 1) hx hb dX12_lots_10 (by decide) ?_
    refine lv_icmp_ne (tgt := 18) hx hb dX12_lots_11 (by decide) (fun h => absurd (by decide) h) (fun _ => ?_)
    refine lv_iconst (v := 0) hx hb dX12_lots_14 (by decide) ?_
    refine lv_goto (tgt := 28) hx hb dX12_lots_15 (by decide) ?_
    exact W.iret (v := 0) hx hb hr (fun t ht hW => ⟨0, rfl, by first | exact ⟨by first | rfl | exact xi_k (k := 0) (by decide) (by omega), by first | trivial | omega⟩, ht⟩) (fun _ h => by cases h) dX12_lots_28
  · skip
    refine lv_iconst (v := 1) hx hb dX12_lots_10 (by decide) ?_
    refine lv_icmp_ne (tgt := 18) hx hb dX12_lots_11 (by decide) (fun _ => ?_) (fun h => absurd h (by decide))
    refine lv_aload_n hx hb dX12_lots_18 rfl (lv_at hl 0 rfl) ?_
    refine lv_aload_n hx hb dX12_lots_19 rfl (lv_at hl 0 rfl) ?_
    refine va_get (D := (dC, dI)) (ci := 12) (v := .int 0) (C := RX12) (T := TX12) (N := 51) hx hb hts iX12 hown hK hP p0 e0 rfl 12 (by decide) (hts (.fieldLink RX12 187 "CapLeagueModel" "clock" "I") (by decide +kernel)) (fun _ h9 => h9) rfl dX12_lots_20 ?_
    refine lv_bipush (v := 8) hx hb dX12_lots_23 (by decide) ?_
    refine vp_callSi (W.runV (As := [.int 0, .int 8]) (rest := []) ⟨hx, hb, hml, hown, hts⟩ (rX12_lawOf l dC dI ws tys hL p0 e0 p1 e1 t1 y1 p2 e2 t2 y2 0 (0) (by decide) 8 (8) (by decide) (by omega) (by omega) (by omega) (by omega)) (cwV 2 hts gX12_lots_X12_lawOf rfl rfl rfl (by decide +kernel) ⟨Nat.le_of_ble_eq_true rfl, Nat.le_of_ble_eq_true rfl⟩) ⟨xR_blind _ _ _ _, va_recv hK hP (ci := 12) (q0 := p0) rfl e0, xR_pre _ hE hK hP⟩ rfl rfl hl.1 rfl (lv_room (Nat.le_of_ble_eq_true rfl)) dX12_lots_25 ⟨Nat.le_of_ble_eq_true rfl, Nat.le_of_ble_eq_true rfl⟩) (fun rh4 h4 => ?_)
    rcases h4 with ⟨rfl, h4⟩ | ⟨rfl, h4⟩ | ⟨rfl, h4⟩ | ⟨rfl, h4⟩ | ⟨rfl, h4⟩ | ⟨rfl, h4⟩
    · skip
      exact absurd h4 (by omega)
    · skip
      exact absurd h4 (by omega)
    · skip
      exact absurd h4 (by omega)
    · skip
      exact absurd h4 (by omega)
    · skip
      exact W.iret (v := 1) hx hb hr (fun t ht hW => ⟨1, rfl, by first | exact ⟨by first | rfl | exact xi_k (k := 0) (by decide) (by omega), by first | trivial | omega⟩, ht⟩) (fun _ h => by cases h) dX12_lots_28
    · skip
      exact W.iret (v := 0) hx hb hr (fun t ht hW => ⟨0, rfl, by first | exact ⟨by first | rfl | exact xi_k (k := 0) (by decide) (by omega), by first | trivial | omega⟩, ht⟩) (fun _ h => by cases h) dX12_lots_28
set_option maxHeartbeats 4000000 in
set_option maxRecDepth 100000 in
theorem mX_turn (l : Launch) (dC : Nat → ClassId) (dI : Nat → Nat → Nat) (ws : va_W) (tys : List (ClassId × FieldType)) {m_clubOf m_dead m_drawnOf m_drawnTo m_first m_from m_giver m_guard m_guarded m_hasChoice m_hasLaws m_isHurt m_isOut m_isTaken m_last m_laws m_moved m_owner m_pay m_purse m_ringClub m_ringGives m_rise m_sure m_table m_tape m_to m_toldClub m_toldGives m_triedClub m_triedGives m_usedSpare m_worths mo : Nat} {k_drawnOf : ClassId} {fD : Nat → Int32} (hD : ∀ j : Nat, j < 80 → fD j = -1) (p0 : Nat) (e0 : ws[p0]? = some (mo, .inr (12, [.ref m_tape, .int 0, .int 0, .int 0, .int 0, .int 0, .int 0, .int 0, .int 0, .int (-1), .ref m_laws, .ref m_hasLaws, .int 0, .int 0, .ref m_clubOf, .ref m_first, .ref m_last, .ref m_pay, .ref m_rise, .ref m_sure, .ref m_hasChoice, .ref m_isTaken, .ref m_isHurt, .ref m_dead, .ref m_usedSpare, .ref m_owner, .ref m_giver, .ref m_guarded, .ref m_drawnOf, .ref m_drawnTo, .int 0, .int 0, .ref m_table, .int 0, .ref m_moved, .ref m_from, .ref m_to, .ref m_guard, .ref m_worths, .ref m_ringClub, .ref m_ringGives, .int 0, .ref m_triedClub, .ref m_triedGives, .int 0, .int 0, .ref m_toldClub, .ref m_toldGives, .ref m_isOut, .ref m_purse, .int 0]))) (p1 : Nat) (e1 : ws[p1]? = some (m_drawnOf, .inl (k_drawnOf, 80, .inl fD))) (t1 : Nat) (y1 : tys[t1]? = some (k_drawnOf, .int)) (y : Int32) (y_t : Int) (h_y : y.toInt = y_t) (i : Int32) (i_t : Int) (h_i : i.toInt = i_t) (q : Int32) (q_t : Int) (h_q : q.toInt = q_t)  : Met l yX12_turn wsX12_turn ({ frames := 2, cells := 0, slots := 0, locals := 128 }) (va_Pc [.ref mo, .int y, .int i, .int q] (xR (dC, dI) tys ws)) (vp_Si (fun r => (r = (-1) ∧ True))) 0 0 (fun _ => False) := by
  refine Met.ofW (cc := cX12_turn) (maxL := 4) (ret := (some .int)) (by decide) rfl ?_
  intro pr_ ev_ s m args below meth cd_ s₁ B hml hv
  obtain ⟨rfl, hE, hK, hP⟩ := hv
  have hx := B.exec
  have hb := B.bytes
  have hr := B.returns
  have hts := atoms_spec (ws := wsX12_turn) B.pre
  have hown : s.vm.findClass RX12 = some m.cls := findClass_of_methodNamed B.named
  have hlocks := B.notSynchronized
  have iX12 : ∀ w ∈ u_ws RX12 TX12 51, w ∈ wsX12_turn := by decide +kernel
  have hl := lv_entry ([.ref mo, .int y, .int i, .int q]) (n := 4) (Nat.le_of_ble_eq_true rfl)
  rw [lg_entry_eq]
  generalize (lg_sl ([.ref mo, .int y, .int i, .int q]) ++ List.replicate (4 - (lg_sl ([.ref mo, .int y, .int i, .int q])).length) Slot.unset).toArray = ls at hl ⊢
  have hl : lv_has ls 4 [(0, .ref mo), (1, .int y), (2, .int i), (3, .int q)] := hl
  have lo_y := xi_lo y
  have hi_y := xi_hi y
  have lo_i := xi_lo i
  have hi_i := xi_hi i
  have lo_q := xi_lo q
  have hi_q := xi_hi q
  refine lv_iload_n hx hb dX12_turn_0 rfl (lv_at hl 1 rfl) ?_
  refine lv_i2l hx hb dX12_turn_1 rfl ?_
  refine lv_lconst (v := 0) hx hb dX12_turn_2 (by decide) ?_
  refine lv_ldc2 (v := 9) hx hb hown (hts (.constantLong RX12 190 (9)) (by decide +kernel)) dX12_turn_3 ?_
  refine vp_callSi (W.runS (As := [.long y.toInt64, .long 0, .long 9]) (rest := []) ⟨hx, hb, hml, hown, hts⟩ (cX12_in_ l dC dI ws tys y.toInt64 (y.toInt) (xi_64 y) 0 (0) (by decide) 9 (9) (by decide)) (va_cwS 3 hts gX12_turn_X12_in rfl rfl rfl (by decide +kernel) ⟨Nat.le_of_ble_eq_true rfl, Nat.le_of_ble_eq_true rfl⟩) ⟨xR_blind _ _ _ _, xR_pre _ hE hK hP⟩ rfl rfl hl.1 rfl (lv_room (Nat.le_of_ble_eq_true rfl)) dX12_turn_6 ⟨Nat.le_of_ble_eq_true rfl, Nat.le_of_ble_eq_true rfl⟩) (fun rh1 h1 => ?_)
  rcases h1 with ⟨rfl, h1⟩ | ⟨rfl, h1⟩
  · skip
    refine lv_if_eq (tgt := 39) hx hb dX12_turn_9 (by decide) (fun h => absurd h (by decide)) (fun _ => ?_)
    refine lv_iload_n hx hb dX12_turn_12 rfl (lv_at hl 2 rfl) ?_
    refine lv_i2l hx hb dX12_turn_13 rfl ?_
    refine lv_lconst (v := 0) hx hb dX12_turn_14 (by decide) ?_
    refine lv_ldc2 (v := 7) hx hb hown (hts (.constantLong RX12 205 (7)) (by decide +kernel)) dX12_turn_15 ?_
    refine vp_callSi (W.runS (As := [.long i.toInt64, .long 0, .long 7]) (rest := []) ⟨hx, hb, hml, hown, hts⟩ (cX12_in_ l dC dI ws tys i.toInt64 (i.toInt) (xi_64 i) 0 (0) (by decide) 7 (7) (by decide)) (va_cwS 3 hts gX12_turn_X12_in rfl rfl rfl (by decide +kernel) ⟨Nat.le_of_ble_eq_true rfl, Nat.le_of_ble_eq_true rfl⟩) ⟨xR_blind _ _ _ _, xR_pre _ hE hK hP⟩ rfl rfl hl.1 rfl (lv_room (Nat.le_of_ble_eq_true rfl)) dX12_turn_18 ⟨Nat.le_of_ble_eq_true rfl, Nat.le_of_ble_eq_true rfl⟩) (fun rh3 h3 => ?_)
    rcases h3 with ⟨rfl, h3⟩ | ⟨rfl, h3⟩
    · skip
      refine lv_if_eq (tgt := 39) hx hb dX12_turn_21 (by decide) (fun h => absurd h (by decide)) (fun _ => ?_)
      refine lv_aload_n hx hb dX12_turn_24 rfl (lv_at hl 0 rfl) ?_
      refine va_get (D := (dC, dI)) (ci := 12) (v := .ref m_drawnOf) (C := RX12) (T := TX12) (N := 51) hx hb hts iX12 hown hK hP p0 e0 rfl 28 (by decide) (hts (.fieldLink RX12 67 "CapLeagueModel" "drawnOf" "[I") (by decide +kernel)) (fun _ h9 => h9) rfl dX12_turn_25 ?_
      refine lv_bipush (v := 8) hx hb dX12_turn_28 (by decide) ?_
      refine lv_iload_n hx hb dX12_turn_30 rfl (lv_at hl 1 rfl) ?_
      refine lv_imul hx hb dX12_turn_31 ?_
      refine lv_topi (fun v5 ev5 => ?_)
      have jv5 : v5.toInt = 8 * y.toInt := xi_mul ev5 (by decide) rfl (by omega) (by omega)
      refine lv_iload_n hx hb dX12_turn_32 rfl (lv_at hl 2 rfl) ?_
      refine lv_iadd hx hb dX12_turn_33 ?_
      refine lv_topi (fun v6 ev6 => ?_)
      have jv6 : v6.toInt = v5.toInt + i.toInt := xi_add ev6 rfl rfl (by omega) (by omega)
      refine va_iald (D := (dC, dI)) hx hb hK hP p1 t1 e1 y1 (xi_in (by omega) (by omega)) dX12_turn_34 ?_
      refine xw_i (v := (-1)) (hD _ (xi_clt (by omega) (by omega))) ?_
      refine lv_iconst (v := (-1)) hx hb dX12_turn_35 (by decide) ?_
      refine lv_icmp_ne (tgt := 41) hx hb dX12_turn_36 (by decide) (fun h => absurd (by decide) h) (fun _ => ?_)
      refine lv_iconst (v := (-1)) hx hb dX12_turn_39 (by decide) ?_
      exact W.iret (v := (-1)) hx hb hr (fun t ht hW => ⟨(-1), rfl, by first | exact ⟨by first | rfl | exact xi_k (k := (-1)) (by decide) (by omega), by first | trivial | omega⟩, ht⟩) (fun _ h => by cases h) dX12_turn_40
    · skip
      refine lv_if_eq (tgt := 39) hx hb dX12_turn_21 (by decide) (fun _ => ?_) (fun h => absurd (by decide) h)
      refine lv_iconst (v := (-1)) hx hb dX12_turn_39 (by decide) ?_
      exact W.iret (v := (-1)) hx hb hr (fun t ht hW => ⟨(-1), rfl, by first | exact ⟨by first | rfl | exact xi_k (k := (-1)) (by decide) (by omega), by first | trivial | omega⟩, ht⟩) (fun _ h => by cases h) dX12_turn_40
  · skip
    refine lv_if_eq (tgt := 39) hx hb dX12_turn_9 (by decide) (fun _ => ?_) (fun h => absurd (by decide) h)
    refine lv_iconst (v := (-1)) hx hb dX12_turn_39 (by decide) ?_
    exact W.iret (v := (-1)) hx hb hr (fun t ht hW => ⟨(-1), rfl, by first | exact ⟨by first | rfl | exact xi_k (k := (-1)) (by decide) (by omega), by first | trivial | omega⟩, ht⟩) (fun _ h => by cases h) dX12_turn_40
set_option maxHeartbeats 4000000 in
set_option maxRecDepth 100000 in
theorem mX_chance (l : Launch) (dC : Nat → ClassId) (dI : Nat → Nat → Nat) (ws : va_W) (tys : List (ClassId × FieldType)) {m_clubOf m_dead m_drawnOf m_drawnTo m_first m_from m_giver m_guard m_guarded m_hasChoice m_hasLaws m_isHurt m_isOut m_isTaken m_last m_laws m_moved m_owner m_pay m_purse m_ringClub m_ringGives m_rise m_sure m_table m_tape m_to m_toldClub m_toldGives m_triedClub m_triedGives m_usedSpare m_worths mo : Nat}  (p0 : Nat) (e0 : ws[p0]? = some (mo, .inr (12, [.ref m_tape, .int 0, .int 0, .int 0, .int 0, .int 0, .int 0, .int 0, .int 0, .int (-1), .ref m_laws, .ref m_hasLaws, .int 0, .int 0, .ref m_clubOf, .ref m_first, .ref m_last, .ref m_pay, .ref m_rise, .ref m_sure, .ref m_hasChoice, .ref m_isTaken, .ref m_isHurt, .ref m_dead, .ref m_usedSpare, .ref m_owner, .ref m_giver, .ref m_guarded, .ref m_drawnOf, .ref m_drawnTo, .int 0, .int 0, .ref m_table, .int 0, .ref m_moved, .ref m_from, .ref m_to, .ref m_guard, .ref m_worths, .ref m_ringClub, .ref m_ringGives, .int 0, .ref m_triedClub, .ref m_triedGives, .int 0, .int 0, .ref m_toldClub, .ref m_toldGives, .ref m_isOut, .ref m_purse, .int 0]))) (c : Int32) (c_t : Int) (h_c : c.toInt = c_t) (k : Int32) (k_t : Int) (h_k : k.toInt = k_t) (q : Int32) (q_t : Int) (h_q : q.toInt = q_t)  : Met l yX12_chance wsX12_chance ({ frames := 3, cells := 0, slots := 0, locals := 192 }) (va_Pc [.ref mo, .int c, .int k, .int q] (xR (dC, dI) tys ws)) (vp_Sl (fun r => (r = (-4) ∧ (0 ≤ c_t ∧ c_t ≤ 7 ∧ 0 ≤ k_t ∧ k_t ≤ 1 ∧ 0 ≤ q_t ∧ q_t ≤ 1)) ∨ (r = (-2) ∧ ¬ (0 ≤ c_t ∧ c_t ≤ 7 ∧ 0 ≤ k_t ∧ k_t ≤ 1 ∧ 0 ≤ q_t ∧ q_t ≤ 1)))) 0 0 (fun _ => False) := by
  refine Met.ofW (cc := cX12_chance) (maxL := 19) (ret := (some .long)) (by decide) rfl ?_
  intro pr_ ev_ s m args below meth cd_ s₁ B hml hv
  obtain ⟨rfl, hE, hK, hP⟩ := hv
  have hx := B.exec
  have hb := B.bytes
  have hr := B.returns
  have hts := atoms_spec (ws := wsX12_chance) B.pre
  have hown : s.vm.findClass RX12 = some m.cls := findClass_of_methodNamed B.named
  have hlocks := B.notSynchronized
  have iX12 : ∀ w ∈ u_ws RX12 TX12 51, w ∈ wsX12_chance := by decide +kernel
  have hl := lv_entry ([.ref mo, .int c, .int k, .int q]) (n := 19) (Nat.le_of_ble_eq_true rfl)
  rw [lg_entry_eq]
  generalize (lg_sl ([.ref mo, .int c, .int k, .int q]) ++ List.replicate (19 - (lg_sl ([.ref mo, .int c, .int k, .int q])).length) Slot.unset).toArray = ls at hl ⊢
  have hl : lv_has ls 19 [(0, .ref mo), (1, .int c), (2, .int k), (3, .int q)] := hl
  have lo_c := xi_lo c
  have hi_c := xi_hi c
  have lo_k := xi_lo k
  have hi_k := xi_hi k
  have lo_q := xi_lo q
  have hi_q := xi_hi q
  refine lv_iload_n hx hb dX12_chance_0 rfl (lv_at hl 1 rfl) ?_
  refine vp_callSi (W.runS (As := [.int c]) (rest := []) ⟨hx, hb, hml, hown, hts⟩ (cX12_isClub_ l dC dI ws tys c (c.toInt) rfl) (va_cwS 1 hts gX12_chance_X12_isClub rfl rfl rfl (by decide +kernel) ⟨Nat.le_of_ble_eq_true rfl, Nat.le_of_ble_eq_true rfl⟩) ⟨xR_blind _ _ _ _, xR_pre _ hE hK hP⟩ rfl rfl hl.1 rfl (lv_room (Nat.le_of_ble_eq_true rfl)) dX12_chance_1 ⟨Nat.le_of_ble_eq_true rfl, Nat.le_of_ble_eq_true rfl⟩) (fun rh1 h1 => ?_)
  rcases h1 with ⟨rfl, h1⟩ | ⟨rfl, h1⟩
  · skip
    refine lv_if_eq (tgt := 27) hx hb dX12_chance_4 (by decide) (fun h => absurd h (by decide)) (fun _ => ?_)
    refine lv_iload_n hx hb dX12_chance_7 rfl (lv_at hl 2 rfl) ?_
    refine lv_i2l hx hb dX12_chance_8 rfl ?_
    refine lv_lconst (v := 0) hx hb dX12_chance_9 (by decide) ?_
    refine lv_lconst (v := 1) hx hb dX12_chance_10 (by decide) ?_
    refine vp_callSi (W.runS (As := [.long k.toInt64, .long 0, .long 1]) (rest := []) ⟨hx, hb, hml, hown, hts⟩ (cX12_in_ l dC dI ws tys k.toInt64 (k.toInt) (xi_64 k) 0 (0) (by decide) 1 (1) (by decide)) (va_cwS 3 hts gX12_chance_X12_in rfl rfl rfl (by decide +kernel) ⟨Nat.le_of_ble_eq_true rfl, Nat.le_of_ble_eq_true rfl⟩) ⟨xR_blind _ _ _ _, xR_pre _ hE hK hP⟩ rfl rfl hl.1 rfl (lv_room (Nat.le_of_ble_eq_true rfl)) dX12_chance_11 ⟨Nat.le_of_ble_eq_true rfl, Nat.le_of_ble_eq_true rfl⟩) (fun rh3 h3 => ?_)
    rcases h3 with ⟨rfl, h3⟩ | ⟨rfl, h3⟩
    · skip
      refine lv_if_eq (tgt := 27) hx hb dX12_chance_14 (by decide) (fun h => absurd h (by decide)) (fun _ => ?_)
      refine lv_iload_n hx hb dX12_chance_17 rfl (lv_at hl 3 rfl) ?_
      refine lv_i2l hx hb dX12_chance_18 rfl ?_
      refine lv_lconst (v := 0) hx hb dX12_chance_19 (by decide) ?_
      refine lv_lconst (v := 1) hx hb dX12_chance_20 (by decide) ?_
      refine vp_callSi (W.runS (As := [.long q.toInt64, .long 0, .long 1]) (rest := []) ⟨hx, hb, hml, hown, hts⟩ (cX12_in_ l dC dI ws tys q.toInt64 (q.toInt) (xi_64 q) 0 (0) (by decide) 1 (1) (by decide)) (va_cwS 3 hts gX12_chance_X12_in rfl rfl rfl (by decide +kernel) ⟨Nat.le_of_ble_eq_true rfl, Nat.le_of_ble_eq_true rfl⟩) ⟨xR_blind _ _ _ _, xR_pre _ hE hK hP⟩ rfl rfl hl.1 rfl (lv_room (Nat.le_of_ble_eq_true rfl)) dX12_chance_21 ⟨Nat.le_of_ble_eq_true rfl, Nat.le_of_ble_eq_true rfl⟩) (fun rh5 h5 => ?_)
      rcases h5 with ⟨rfl, h5⟩ | ⟨rfl, h5⟩
      · skip
        refine lv_if_ne (tgt := 31) hx hb dX12_chance_24 (by decide) (fun _ => ?_) (fun h => absurd h (by decide))
        refine lv_aload_n hx hb dX12_chance_31 rfl (lv_at hl 0 rfl) ?_
        refine va_get (D := (dC, dI)) (ci := 12) (v := .int 0) (C := RX12) (T := TX12) (N := 51) hx hb hts iX12 hown hK hP p0 e0 rfl 30 (by decide) (hts (.fieldLink RX12 306 "CapLeagueModel" "hasTable" "Z") (by decide +kernel)) (fun _ h9 => h9) rfl dX12_chance_32 ?_
        refine lv_if_ne (tgt := 42) hx hb dX12_chance_35 (by decide) (fun h => absurd (by decide) h) (fun _ => ?_)
        refine lv_ldc2 (v := (-4)) hx hb hown (hts (.constantLong RX12 317 (-4)) (by decide +kernel)) dX12_chance_38 ?_
        exact W.lret (v := (-4)) hx hb hr (fun t ht hW => ⟨(-4), rfl, by first | exact Or.inl ⟨by first | rfl | exact xi_of (by omega), by first | trivial | omega⟩ | exact Or.inr (⟨by first | rfl | exact xi_of (by omega), by first | trivial | omega⟩), ht⟩) (fun _ h => by cases h) dX12_chance_41
      · skip
        refine lv_if_ne (tgt := 31) hx hb dX12_chance_24 (by decide) (fun h => absurd (by decide) h) (fun _ => ?_)
        refine lv_ldc2 (v := (-2)) hx hb hown (hts (.constantLong RX12 315 (-2)) (by decide +kernel)) dX12_chance_27 ?_
        exact W.lret (v := (-2)) hx hb hr (fun t ht hW => ⟨(-2), rfl, by first | exact Or.inl ⟨by first | rfl | exact xi_of (by omega), by first | trivial | omega⟩ | exact Or.inr (⟨by first | rfl | exact xi_of (by omega), by first | trivial | omega⟩), ht⟩) (fun _ h => by cases h) dX12_chance_30
    · skip
      refine lv_if_eq (tgt := 27) hx hb dX12_chance_14 (by decide) (fun _ => ?_) (fun h => absurd (by decide) h)
      refine lv_ldc2 (v := (-2)) hx hb hown (hts (.constantLong RX12 315 (-2)) (by decide +kernel)) dX12_chance_27 ?_
      exact W.lret (v := (-2)) hx hb hr (fun t ht hW => ⟨(-2), rfl, by first | exact Or.inl ⟨by first | rfl | exact xi_of (by omega), by first | trivial | omega⟩ | exact Or.inr (⟨by first | rfl | exact xi_of (by omega), by first | trivial | omega⟩), ht⟩) (fun _ h => by cases h) dX12_chance_30
  · skip
    refine lv_if_eq (tgt := 27) hx hb dX12_chance_4 (by decide) (fun _ => ?_) (fun h => absurd (by decide) h)
    refine lv_ldc2 (v := (-2)) hx hb hown (hts (.constantLong RX12 315 (-2)) (by decide +kernel)) dX12_chance_27 ?_
    exact W.lret (v := (-2)) hx hb hr (fun t ht hW => ⟨(-2), rfl, by first | exact Or.inl ⟨by first | rfl | exact xi_of (by omega), by first | trivial | omega⟩ | exact Or.inr (⟨by first | rfl | exact xi_of (by omega), by first | trivial | omega⟩), ht⟩) (fun _ h => by cases h) dX12_chance_30
set_option maxHeartbeats 4000000 in
set_option maxRecDepth 100000 in
theorem mX_owner (l : Launch) (dC : Nat → ClassId) (dI : Nat → Nat → Nat) (ws : va_W) (tys : List (ClassId × FieldType)) {m_clubOf m_dead m_drawnOf m_drawnTo m_first m_from m_giver m_guard m_guarded m_hasChoice m_hasLaws m_isHurt m_isOut m_isTaken m_last m_laws m_moved m_owner m_pay m_purse m_ringClub m_ringGives m_rise m_sure m_table m_tape m_to m_toldClub m_toldGives m_triedClub m_triedGives m_usedSpare m_worths mo : Nat} {k_guarded k_owner : ClassId} {fO : Nat → Int32} (hh : ∀ j : Nat, j < 80 → (fO j).toInt = j / 10) (p0 : Nat) (e0 : ws[p0]? = some (mo, .inr (12, [.ref m_tape, .int 0, .int 0, .int 0, .int 0, .int 0, .int 0, .int 0, .int 0, .int (-1), .ref m_laws, .ref m_hasLaws, .int 0, .int 0, .ref m_clubOf, .ref m_first, .ref m_last, .ref m_pay, .ref m_rise, .ref m_sure, .ref m_hasChoice, .ref m_isTaken, .ref m_isHurt, .ref m_dead, .ref m_usedSpare, .ref m_owner, .ref m_giver, .ref m_guarded, .ref m_drawnOf, .ref m_drawnTo, .int 0, .int 0, .ref m_table, .int 0, .ref m_moved, .ref m_from, .ref m_to, .ref m_guard, .ref m_worths, .ref m_ringClub, .ref m_ringGives, .int 0, .ref m_triedClub, .ref m_triedGives, .int 0, .int 0, .ref m_toldClub, .ref m_toldGives, .ref m_isOut, .ref m_purse, .int 0]))) (p1 : Nat) (e1 : ws[p1]? = some (m_owner, .inl (k_owner, 80, .inl fO))) (t1 : Nat) (y1 : tys[t1]? = some (k_owner, .int)) (p2 : Nat) (e2 : ws[p2]? = some (m_guarded, .inl (k_guarded, 80, .inl (fun _ => 0)))) (t2 : Nat) (y2 : tys[t2]? = some (k_guarded, .int)) (a : Int32) (a_t : Int) (h_a : a.toInt = a_t) (y : Int32) (y_t : Int) (h_y : y.toInt = y_t) (q : Int32) (q_t : Int) (h_q : q.toInt = q_t)  : Met l yX12_owner wsX12_owner ({ frames := 3, cells := 0, slots := 0, locals := 192 }) (va_Pc [.ref mo, .int a, .int y, .int q] (xR (dC, dI) tys ws)) (vp_Si (fun r => (r = a ∧ 0 ≤ a_t ∧ a_t ≤ 7 ∧ 0 ≤ y_t ∧ y_t ≤ 9 ∧ 0 ≤ q_t ∧ q_t ≤ 1 ∧ q_t = 0) ∨ (r = 0 ∧ 0 ≤ a_t ∧ a_t ≤ 7 ∧ 0 ≤ y_t ∧ y_t ≤ 9 ∧ 0 ≤ q_t ∧ q_t ≤ 1 ∧ q_t = 1) ∨ (r = (-2) ∧ ¬ (0 ≤ a_t ∧ a_t ≤ 7 ∧ 0 ≤ y_t ∧ y_t ≤ 9 ∧ 0 ≤ q_t ∧ q_t ≤ 1)))) 0 0 (fun _ => False) := by
  refine Met.ofW (cc := cX12_owner) (maxL := 4) (ret := (some .int)) (by decide) rfl ?_
  intro pr_ ev_ s m args below meth cd_ s₁ B hml hv
  obtain ⟨rfl, hE, hK, hP⟩ := hv
  have hx := B.exec
  have hb := B.bytes
  have hr := B.returns
  have hts := atoms_spec (ws := wsX12_owner) B.pre
  have hown : s.vm.findClass RX12 = some m.cls := findClass_of_methodNamed B.named
  have hlocks := B.notSynchronized
  have iX12 : ∀ w ∈ u_ws RX12 TX12 51, w ∈ wsX12_owner := by decide +kernel
  have hl := lv_entry ([.ref mo, .int a, .int y, .int q]) (n := 4) (Nat.le_of_ble_eq_true rfl)
  rw [lg_entry_eq]
  generalize (lg_sl ([.ref mo, .int a, .int y, .int q]) ++ List.replicate (4 - (lg_sl ([.ref mo, .int a, .int y, .int q])).length) Slot.unset).toArray = ls at hl ⊢
  have hl : lv_has ls 4 [(0, .ref mo), (1, .int a), (2, .int y), (3, .int q)] := hl
  have lo_a := xi_lo a
  have hi_a := xi_hi a
  have lo_y := xi_lo y
  have hi_y := xi_hi y
  have lo_q := xi_lo q
  have hi_q := xi_hi q
  refine lv_iload_n hx hb dX12_owner_0 rfl (lv_at hl 1 rfl) ?_
  refine vp_callSi (W.runS (As := [.int a]) (rest := []) ⟨hx, hb, hml, hown, hts⟩ (cX12_isClub_ l dC dI ws tys a (a.toInt) rfl) (va_cwS 1 hts gX12_owner_X12_isClub rfl rfl rfl (by decide +kernel) ⟨Nat.le_of_ble_eq_true rfl, Nat.le_of_ble_eq_true rfl⟩) ⟨xR_blind _ _ _ _, xR_pre _ hE hK hP⟩ rfl rfl hl.1 rfl (lv_room (Nat.le_of_ble_eq_true rfl)) dX12_owner_1 ⟨Nat.le_of_ble_eq_true rfl, Nat.le_of_ble_eq_true rfl⟩) (fun rh1 h1 => ?_)
  rcases h1 with ⟨rfl, h1⟩ | ⟨rfl, h1⟩
  · skip
    refine lv_if_eq (tgt := 19) hx hb dX12_owner_4 (by decide) (fun h => absurd h (by decide)) (fun _ => ?_)
    refine lv_iload_n hx hb dX12_owner_7 rfl (lv_at hl 2 rfl) ?_
    refine lv_i2l hx hb dX12_owner_8 rfl ?_
    refine lv_lconst (v := 0) hx hb dX12_owner_9 (by decide) ?_
    refine lv_ldc2 (v := 9) hx hb hown (hts (.constantLong RX12 190 (9)) (by decide +kernel)) dX12_owner_10 ?_
    refine vp_callSi (W.runS (As := [.long y.toInt64, .long 0, .long 9]) (rest := []) ⟨hx, hb, hml, hown, hts⟩ (cX12_in_ l dC dI ws tys y.toInt64 (y.toInt) (xi_64 y) 0 (0) (by decide) 9 (9) (by decide)) (va_cwS 3 hts gX12_owner_X12_in rfl rfl rfl (by decide +kernel) ⟨Nat.le_of_ble_eq_true rfl, Nat.le_of_ble_eq_true rfl⟩) ⟨xR_blind _ _ _ _, xR_pre _ hE hK hP⟩ rfl rfl hl.1 rfl (lv_room (Nat.le_of_ble_eq_true rfl)) dX12_owner_13 ⟨Nat.le_of_ble_eq_true rfl, Nat.le_of_ble_eq_true rfl⟩) (fun rh3 h3 => ?_)
    rcases h3 with ⟨rfl, h3⟩ | ⟨rfl, h3⟩
    · skip
      refine lv_if_ne (tgt := 22) hx hb dX12_owner_16 (by decide) (fun _ => ?_) (fun h => absurd h (by decide))
      refine lv_iload_n hx hb dX12_owner_22 rfl (lv_at hl 3 rfl) ?_
      refine lv_if_ne (tgt := 40) hx hb dX12_owner_23 (by decide) (fun c5 => ?_) (fun c5 => ?_)
      · have ic5 := (xi_ne c5 rfl (by decide) : q.toInt ≠ 0)
        refine lv_iload_n hx hb dX12_owner_40 rfl (lv_at hl 3 rfl) ?_
        refine lv_iconst (v := 1) hx hb dX12_owner_41 (by decide) ?_
        refine lv_icmp_ne (tgt := 59) hx hb dX12_owner_42 (by decide) (fun c6 => ?_) (fun c6 => ?_)
        · have ic6 := (xi_ne c6 rfl (by decide) : q.toInt ≠ 1)
          refine lv_bipush (v := (-2)) hx hb dX12_owner_59 (by decide) ?_
          exact W.iret (v := (-2)) hx hb hr (fun t ht hW => ⟨(-2), rfl, by first | exact Or.inl ⟨by first | rfl | exact xi_of (by omega), by first | trivial | omega⟩ | exact Or.inr (Or.inl ⟨by first | rfl | exact xi_k (k := 0) (by decide) (by omega), by first | trivial | omega⟩) | exact Or.inr (Or.inr (⟨by first | rfl | exact xi_k (k := (-2)) (by decide) (by omega), by first | trivial | omega⟩)), ht⟩) (fun _ h => by cases h) dX12_owner_61
        · have ic6 := (xi_eq c6 rfl (by decide) : q.toInt = 1)
          refine lv_aload_n hx hb dX12_owner_45 rfl (lv_at hl 0 rfl) ?_
          refine va_get (D := (dC, dI)) (ci := 12) (v := .ref m_guarded) (C := RX12) (T := TX12) (N := 51) hx hb hts iX12 hown hK hP p0 e0 rfl 27 (by decide) (hts (.fieldLink RX12 64 "CapLeagueModel" "guarded" "[I") (by decide +kernel)) (fun _ h9 => h9) rfl dX12_owner_46 ?_
          refine lv_bipush (v := 10) hx hb dX12_owner_49 (by decide) ?_
          refine lv_iload_n hx hb dX12_owner_51 rfl (lv_at hl 1 rfl) ?_
          refine lv_imul hx hb dX12_owner_52 ?_
          refine lv_topi (fun v7 ev7 => ?_)
          have jv7 : v7.toInt = 10 * a.toInt := xi_mul ev7 (by decide) rfl (by omega) (by omega)
          refine lv_iload_n hx hb dX12_owner_53 rfl (lv_at hl 2 rfl) ?_
          refine lv_iadd hx hb dX12_owner_54 ?_
          refine lv_topi (fun v8 ev8 => ?_)
          have jv8 : v8.toInt = v7.toInt + y.toInt := xi_add ev8 rfl rfl (by omega) (by omega)
          refine va_iald (D := (dC, dI)) hx hb hK hP p2 t2 e2 y2 (xi_in (by omega) (by omega)) dX12_owner_55 ?_
          refine xw_i (v := 0) rfl ?_
          refine lv_goto (tgt := 61) hx hb dX12_owner_56 (by decide) ?_
          exact W.iret (v := 0) hx hb hr (fun t ht hW => ⟨0, rfl, by first | exact Or.inl ⟨by first | rfl | exact xi_of (by omega), by first | trivial | omega⟩ | exact Or.inr (Or.inl ⟨by first | rfl | exact xi_k (k := 0) (by decide) (by omega), by first | trivial | omega⟩) | exact Or.inr (Or.inr (⟨by first | rfl | exact xi_k (k := (-2)) (by decide) (by omega), by first | trivial | omega⟩)), ht⟩) (fun _ h => by cases h) dX12_owner_61
      · have ic5 := (xi_eq c5 rfl (by decide) : q.toInt = 0)
        refine lv_aload_n hx hb dX12_owner_26 rfl (lv_at hl 0 rfl) ?_
        refine va_get (D := (dC, dI)) (ci := 12) (v := .ref m_owner) (C := RX12) (T := TX12) (N := 51) hx hb hts iX12 hown hK hP p0 e0 rfl 25 (by decide) (hts (.fieldLink RX12 58 "CapLeagueModel" "owner" "[I") (by decide +kernel)) (fun _ h9 => h9) rfl dX12_owner_27 ?_
        refine lv_bipush (v := 10) hx hb dX12_owner_30 (by decide) ?_
        refine lv_iload_n hx hb dX12_owner_32 rfl (lv_at hl 1 rfl) ?_
        refine lv_imul hx hb dX12_owner_33 ?_
        refine lv_topi (fun v9 ev9 => ?_)
        have jv9 : v9.toInt = 10 * a.toInt := xi_mul ev9 (by decide) rfl (by omega) (by omega)
        refine lv_iload_n hx hb dX12_owner_34 rfl (lv_at hl 2 rfl) ?_
        refine lv_iadd hx hb dX12_owner_35 ?_
        refine lv_topi (fun v10 ev10 => ?_)
        have jv10 : v10.toInt = v9.toInt + y.toInt := xi_add ev10 rfl rfl (by omega) (by omega)
        refine va_iald (D := (dC, dI)) hx hb hK hP p1 t1 e1 y1 (xi_in (by omega) (by omega)) dX12_owner_36 ?_
        refine lv_topi (fun v11 ev11 => ?_)
        have jv11 : v11.toInt = v10.toInt / 10 := by rw [ev11]; exact xh_at hh (by omega) (by omega)
        refine lv_goto (tgt := 61) hx hb dX12_owner_37 (by decide) ?_
        exact W.iret (v := v11) hx hb hr (fun t ht hW => ⟨v11, rfl, by first | exact Or.inl ⟨by first | rfl | exact xi_of (by omega), by first | trivial | omega⟩ | exact Or.inr (Or.inl ⟨by first | rfl | exact xi_k (k := 0) (by decide) (by omega), by first | trivial | omega⟩) | exact Or.inr (Or.inr (⟨by first | rfl | exact xi_k (k := (-2)) (by decide) (by omega), by first | trivial | omega⟩)), ht⟩) (fun _ h => by cases h) dX12_owner_61
    · skip
      refine lv_if_ne (tgt := 22) hx hb dX12_owner_16 (by decide) (fun h => absurd (by decide) h) (fun _ => ?_)
      refine lv_bipush (v := (-2)) hx hb dX12_owner_19 (by decide) ?_
      exact W.iret (v := (-2)) hx hb hr (fun t ht hW => ⟨(-2), rfl, by first | exact Or.inl ⟨by first | rfl | exact xi_of (by omega), by first | trivial | omega⟩ | exact Or.inr (Or.inl ⟨by first | rfl | exact xi_k (k := 0) (by decide) (by omega), by first | trivial | omega⟩) | exact Or.inr (Or.inr (⟨by first | rfl | exact xi_k (k := (-2)) (by decide) (by omega), by first | trivial | omega⟩)), ht⟩) (fun _ h => by cases h) dX12_owner_21
  · skip
    refine lv_if_eq (tgt := 19) hx hb dX12_owner_4 (by decide) (fun _ => ?_) (fun h => absurd (by decide) h)
    refine lv_bipush (v := (-2)) hx hb dX12_owner_19 (by decide) ?_
    exact W.iret (v := (-2)) hx hb hr (fun t ht hW => ⟨(-2), rfl, by first | exact Or.inl ⟨by first | rfl | exact xi_of (by omega), by first | trivial | omega⟩ | exact Or.inr (Or.inl ⟨by first | rfl | exact xi_k (k := 0) (by decide) (by omega), by first | trivial | omega⟩) | exact Or.inr (Or.inr (⟨by first | rfl | exact xi_k (k := (-2)) (by decide) (by omega), by first | trivial | omega⟩)), ht⟩) (fun _ h => by cases h) dX12_owner_21
set_option maxHeartbeats 4000000 in
set_option maxRecDepth 100000 in
theorem mX_end (l : Launch) (dC : Nat → ClassId) (dI : Nat → Nat → Nat) (mo m_tape m_laws m_hasLaws m_clubOf m_first m_last m_pay m_rise m_sure m_hasChoice m_isTaken m_isHurt m_dead m_usedSpare m_owner m_giver m_guarded m_drawnOf m_drawnTo m_table m_moved m_from m_to m_guard m_worths m_ringClub m_ringGives m_triedClub m_triedGives m_toldClub m_toldGives m_isOut m_purse : Nat)  (sz : Nat)  (q : Int32) (q_t : Int) (h_q : q.toInt = q_t)  : Met l yX12_end wsX12_end ({ frames := 1, cells := 0, slots := 0, locals := 64 }) (va_Pc [.ref mo, .int q] (xW (dC, dI) [] [(mo, .inr (12, [.ref m_tape, .int 0, .int 0, .int 0, .int 0, .int 0, .int 0, .int 0, .int 0, .int (-1), .ref m_laws, .ref m_hasLaws, .int 0, .int 0, .ref m_clubOf, .ref m_first, .ref m_last, .ref m_pay, .ref m_rise, .ref m_sure, .ref m_hasChoice, .ref m_isTaken, .ref m_isHurt, .ref m_dead, .ref m_usedSpare, .ref m_owner, .ref m_giver, .ref m_guarded, .ref m_drawnOf, .ref m_drawnTo, .int 0, .int 0, .ref m_table, .int 0, .ref m_moved, .ref m_from, .ref m_to, .ref m_guard, .ref m_worths, .ref m_ringClub, .ref m_ringGives, .int 0, .ref m_triedClub, .ref m_triedGives, .int 0, .int 0, .ref m_toldClub, .ref m_toldGives, .ref m_isOut, .ref m_purse, .int 0]))] sz)) (va_Qi (fun r (_ : Unit) => (r = 0 ∧ q_t = 0) ∨ (r = (-1) ∧ q_t ≠ 0)) (fun (_ : Unit) _ => True) (va_A [(mo, .inr (12, [.ref m_tape, .int 0, .int 0, .int 0, .int 0, .int 0, .int 0, .int 0, .int 0, .int (-1), .ref m_laws, .ref m_hasLaws, .int 0, .int 0, .ref m_clubOf, .ref m_first, .ref m_last, .ref m_pay, .ref m_rise, .ref m_sure, .ref m_hasChoice, .ref m_isTaken, .ref m_isHurt, .ref m_dead, .ref m_usedSpare, .ref m_owner, .ref m_giver, .ref m_guarded, .ref m_drawnOf, .ref m_drawnTo, .int 0, .int 0, .ref m_table, .int 0, .ref m_moved, .ref m_from, .ref m_to, .ref m_guard, .ref m_worths, .ref m_ringClub, .ref m_ringGives, .int 0, .ref m_triedClub, .ref m_triedGives, .int 0, .int 0, .ref m_toldClub, .ref m_toldGives, .ref m_isOut, .ref m_purse, .int 0]))] sz)) 0 0 (va_A [(mo, .inr (12, [.ref m_tape, .int 0, .int 0, .int 0, .int 0, .int 0, .int 0, .int 0, .int 0, .int (-1), .ref m_laws, .ref m_hasLaws, .int 0, .int 0, .ref m_clubOf, .ref m_first, .ref m_last, .ref m_pay, .ref m_rise, .ref m_sure, .ref m_hasChoice, .ref m_isTaken, .ref m_isHurt, .ref m_dead, .ref m_usedSpare, .ref m_owner, .ref m_giver, .ref m_guarded, .ref m_drawnOf, .ref m_drawnTo, .int 0, .int 0, .ref m_table, .int 0, .ref m_moved, .ref m_from, .ref m_to, .ref m_guard, .ref m_worths, .ref m_ringClub, .ref m_ringGives, .int 0, .ref m_triedClub, .ref m_triedGives, .int 0, .int 0, .ref m_toldClub, .ref m_toldGives, .ref m_isOut, .ref m_purse, .int 0]))] sz) := by
  refine Met.ofW (cc := cX12_end) (maxL := 2) (ret := (some .int)) (by decide) rfl ?_
  intro pr_ ev_ s m args below meth cd_ s₁ B hml hv
  obtain ⟨rfl, hE, hsz, hK, hP, hD0⟩ := hv
  have hx := B.exec
  have hb := B.bytes
  have hr := B.returns
  have hts := atoms_spec (ws := wsX12_end) B.pre
  have hown : s.vm.findClass RX12 = some m.cls := findClass_of_methodNamed B.named
  have hlocks := B.notSynchronized
  subst hsz
  have hD := hD0.self (sz := s.heap.size)
  generalize hAe : va_A [(mo, .inr (12, [.ref m_tape, .int 0, .int 0, .int 0, .int 0, .int 0, .int 0, .int 0, .int 0, .int (-1), .ref m_laws, .ref m_hasLaws, .int 0, .int 0, .ref m_clubOf, .ref m_first, .ref m_last, .ref m_pay, .ref m_rise, .ref m_sure, .ref m_hasChoice, .ref m_isTaken, .ref m_isHurt, .ref m_dead, .ref m_usedSpare, .ref m_owner, .ref m_giver, .ref m_guarded, .ref m_drawnOf, .ref m_drawnTo, .int 0, .int 0, .ref m_table, .int 0, .ref m_moved, .ref m_from, .ref m_to, .ref m_guard, .ref m_worths, .ref m_ringClub, .ref m_ringGives, .int 0, .ref m_triedClub, .ref m_triedGives, .int 0, .int 0, .ref m_toldClub, .ref m_toldGives, .ref m_isOut, .ref m_purse, .int 0]))] s.heap.size = A at hD ⊢
  have hA : ∀ q : Nat, s.heap.size ≤ q → A q := fun q h => by rw [← hAe]; exact Or.inr h
  have hS : va_S A s.heap s.heap [] := va_S.rf
  have iX12 : ∀ w ∈ u_ws RX12 TX12 51, w ∈ wsX12_end := by decide +kernel
  have hl := lv_entry ([.ref mo, .int q]) (n := 2) (Nat.le_of_ble_eq_true rfl)
  rw [lg_entry_eq]
  generalize (lg_sl ([.ref mo, .int q]) ++ List.replicate (2 - (lg_sl ([.ref mo, .int q])).length) Slot.unset).toArray = ls at hl ⊢
  have hl : lv_has ls 2 [(0, .ref mo), (1, .int q)] := hl
  have lo_q := xi_lo q
  have hi_q := xi_hi q
  refine lv_iload_n hx hb dX12_end_0 rfl (lv_at hl 1 rfl) ?_
  refine lv_if_lt (tgt := 12) hx hb dX12_end_1 (by decide) (fun c1 => ?_) (fun c1 => ?_)
  · have ic1 := (xi_lt c1 rfl (by decide) : q.toInt < 0)
    refine lv_iconst (v := (-1)) hx hb dX12_end_12 (by decide) ?_
    exact W.iret (v := (-1)) hx hb hr (fun t ht hW => ⟨⟨(-1), (), rfl, by first | exact Or.inl ⟨by first | rfl | exact xi_k (k := 0) (by decide) (by omega), by first | trivial | omega⟩ | exact Or.inr (⟨by first | rfl | exact xi_k (k := (-1)) (by decide) (by omega), by first | trivial | omega⟩), trivial⟩, hS.F ht⟩) hS.2.2 dX12_end_13
  · have ic1 := (xi_nlt c1 rfl (by decide) : 0 ≤ q.toInt)
    refine lv_iload_n hx hb dX12_end_4 rfl (lv_at hl 1 rfl) ?_
    refine lv_aload_n hx hb dX12_end_5 rfl (lv_at hl 0 rfl) ?_
    refine va_get (D := (dC, dI)) (ci := 12) (v := .int 0) (C := RX12) (T := TX12) (N := 51) hx hb hts iX12 hown hK hP 0 rfl rfl 1 (by decide) (hts (.fieldLink RX12 119 "CapLeagueModel" "taped" "I") (by decide +kernel)) (fun _ h9 => h9) rfl dX12_end_6 ?_
    refine lv_icmp_le (tgt := 14) hx hb dX12_end_9 (by decide) (fun c2 => ?_) (fun c2 => ?_)
    · have ic2 := (xi_le c2 rfl (by decide) : q.toInt ≤ 0)
      refine lv_aload_n hx hb dX12_end_14 rfl (lv_at hl 0 rfl) ?_
      refine lv_iload_n hx hb dX12_end_15 rfl (lv_at hl 1 rfl) ?_
      refine va_put (D := (dC, dI)) (ci := 12) (v := .int q) (ty := .int) (C := RX12) (T := TX12) (N := 51) hx hb hts iX12 tyX12 tyX12_ok nmX12 hown hK hP hD hS 0 rfl rfl 1 (by decide) (hts (.fieldLink RX12 119 "CapLeagueModel" "taped" "I") (by decide +kernel)) (fun _ h9 => h9) rfl (by decide +kernel) rfl rfl (Nat.le_of_ble_eq_true rfl) dX12_end_16 (fun H locs hP hD hS => ?_)
      replace hP : va_P (dC, dI) vwCl [(mo, .inr (12, [.ref m_tape, .int q, .int 0, .int 0, .int 0, .int 0, .int 0, .int 0, .int 0, .int (-1), .ref m_laws, .ref m_hasLaws, .int 0, .int 0, .ref m_clubOf, .ref m_first, .ref m_last, .ref m_pay, .ref m_rise, .ref m_sure, .ref m_hasChoice, .ref m_isTaken, .ref m_isHurt, .ref m_dead, .ref m_usedSpare, .ref m_owner, .ref m_giver, .ref m_guarded, .ref m_drawnOf, .ref m_drawnTo, .int 0, .int 0, .ref m_table, .int 0, .ref m_moved, .ref m_from, .ref m_to, .ref m_guard, .ref m_worths, .ref m_ringClub, .ref m_ringGives, .int 0, .ref m_triedClub, .ref m_triedGives, .int 0, .int 0, .ref m_toldClub, .ref m_toldGives, .ref m_isOut, .ref m_purse, .int 0]))] H := hP
      replace hD : va_D A [(mo, .inr (12, [.ref m_tape, .int q, .int 0, .int 0, .int 0, .int 0, .int 0, .int 0, .int 0, .int (-1), .ref m_laws, .ref m_hasLaws, .int 0, .int 0, .ref m_clubOf, .ref m_first, .ref m_last, .ref m_pay, .ref m_rise, .ref m_sure, .ref m_hasChoice, .ref m_isTaken, .ref m_isHurt, .ref m_dead, .ref m_usedSpare, .ref m_owner, .ref m_giver, .ref m_guarded, .ref m_drawnOf, .ref m_drawnTo, .int 0, .int 0, .ref m_table, .int 0, .ref m_moved, .ref m_from, .ref m_to, .ref m_guard, .ref m_worths, .ref m_ringClub, .ref m_ringGives, .int 0, .ref m_triedClub, .ref m_triedGives, .int 0, .int 0, .ref m_toldClub, .ref m_toldGives, .ref m_isOut, .ref m_purse, .int 0]))] := hD
      refine lv_iload_n hx hb dX12_end_19 rfl (lv_at hl 1 rfl) ?_
      exact W.iret (v := q) hx hb hr (fun t ht hW => ⟨⟨q, (), rfl, by first | exact Or.inl ⟨by first | rfl | exact xi_k (k := 0) (by decide) (by omega), by first | trivial | omega⟩ | exact Or.inr (⟨by first | rfl | exact xi_k (k := (-1)) (by decide) (by omega), by first | trivial | omega⟩), trivial⟩, hS.F ht⟩) hS.2.2 dX12_end_20
    · have ic2 := (xi_nle c2 rfl (by decide) : 0 < q.toInt)
      refine lv_iconst (v := (-1)) hx hb dX12_end_12 (by decide) ?_
      exact W.iret (v := (-1)) hx hb hr (fun t ht hW => ⟨⟨(-1), (), rfl, by first | exact Or.inl ⟨by first | rfl | exact xi_k (k := 0) (by decide) (by omega), by first | trivial | omega⟩ | exact Or.inr (⟨by first | rfl | exact xi_k (k := (-1)) (by decide) (by omega), by first | trivial | omega⟩), trivial⟩, hS.F ht⟩) hS.2.2 dX12_end_13
set_option maxHeartbeats 4000000 in
set_option maxRecDepth 100000 in
theorem mX_trade (l : Launch) (dC : Nat → ClassId) (dI : Nat → Nat → Nat) (mo m_tape m_laws m_hasLaws m_clubOf m_first m_last m_pay m_rise m_sure m_hasChoice m_isTaken m_isHurt m_dead m_usedSpare m_owner m_giver m_guarded m_drawnOf m_drawnTo m_table m_moved m_from m_to m_guard m_worths m_ringClub m_ringGives m_triedClub m_triedGives m_toldClub m_toldGives m_isOut m_purse : Nat)  (sz : Nat)    : Met l yX12_trade wsX12_trade ({ frames := 1, cells := 0, slots := 0, locals := 64 }) (va_Pc [.ref mo] (xW (dC, dI) [] [(mo, .inr (12, [.ref m_tape, .int 0, .int 0, .int 0, .int 0, .int 0, .int 0, .int 0, .int 0, .int (-1), .ref m_laws, .ref m_hasLaws, .int 0, .int 0, .ref m_clubOf, .ref m_first, .ref m_last, .ref m_pay, .ref m_rise, .ref m_sure, .ref m_hasChoice, .ref m_isTaken, .ref m_isHurt, .ref m_dead, .ref m_usedSpare, .ref m_owner, .ref m_giver, .ref m_guarded, .ref m_drawnOf, .ref m_drawnTo, .int 0, .int 0, .ref m_table, .int 0, .ref m_moved, .ref m_from, .ref m_to, .ref m_guard, .ref m_worths, .ref m_ringClub, .ref m_ringGives, .int 0, .ref m_triedClub, .ref m_triedGives, .int 0, .int 0, .ref m_toldClub, .ref m_toldGives, .ref m_isOut, .ref m_purse, .int 0]))] sz)) (va_Qi (fun r (_ : Unit) => (r = 1 ∧ True)) (fun (_ : Unit) _ => True) (va_A [(mo, .inr (12, [.ref m_tape, .int 0, .int 0, .int 0, .int 0, .int 0, .int 0, .int 0, .int 0, .int (-1), .ref m_laws, .ref m_hasLaws, .int 0, .int 0, .ref m_clubOf, .ref m_first, .ref m_last, .ref m_pay, .ref m_rise, .ref m_sure, .ref m_hasChoice, .ref m_isTaken, .ref m_isHurt, .ref m_dead, .ref m_usedSpare, .ref m_owner, .ref m_giver, .ref m_guarded, .ref m_drawnOf, .ref m_drawnTo, .int 0, .int 0, .ref m_table, .int 0, .ref m_moved, .ref m_from, .ref m_to, .ref m_guard, .ref m_worths, .ref m_ringClub, .ref m_ringGives, .int 0, .ref m_triedClub, .ref m_triedGives, .int 0, .int 0, .ref m_toldClub, .ref m_toldGives, .ref m_isOut, .ref m_purse, .int 0]))] sz)) 0 0 (va_A [(mo, .inr (12, [.ref m_tape, .int 0, .int 0, .int 0, .int 0, .int 0, .int 0, .int 0, .int 0, .int (-1), .ref m_laws, .ref m_hasLaws, .int 0, .int 0, .ref m_clubOf, .ref m_first, .ref m_last, .ref m_pay, .ref m_rise, .ref m_sure, .ref m_hasChoice, .ref m_isTaken, .ref m_isHurt, .ref m_dead, .ref m_usedSpare, .ref m_owner, .ref m_giver, .ref m_guarded, .ref m_drawnOf, .ref m_drawnTo, .int 0, .int 0, .ref m_table, .int 0, .ref m_moved, .ref m_from, .ref m_to, .ref m_guard, .ref m_worths, .ref m_ringClub, .ref m_ringGives, .int 0, .ref m_triedClub, .ref m_triedGives, .int 0, .int 0, .ref m_toldClub, .ref m_toldGives, .ref m_isOut, .ref m_purse, .int 0]))] sz) := by
  refine Met.ofW (cc := cX12_trade) (maxL := 1) (ret := (some .int)) (by decide) rfl ?_
  intro pr_ ev_ s m args below meth cd_ s₁ B hml hv
  obtain ⟨rfl, hE, hsz, hK, hP, hD0⟩ := hv
  have hx := B.exec
  have hb := B.bytes
  have hr := B.returns
  have hts := atoms_spec (ws := wsX12_trade) B.pre
  have hown : s.vm.findClass RX12 = some m.cls := findClass_of_methodNamed B.named
  have hlocks := B.notSynchronized
  subst hsz
  have hD := hD0.self (sz := s.heap.size)
  generalize hAe : va_A [(mo, .inr (12, [.ref m_tape, .int 0, .int 0, .int 0, .int 0, .int 0, .int 0, .int 0, .int 0, .int (-1), .ref m_laws, .ref m_hasLaws, .int 0, .int 0, .ref m_clubOf, .ref m_first, .ref m_last, .ref m_pay, .ref m_rise, .ref m_sure, .ref m_hasChoice, .ref m_isTaken, .ref m_isHurt, .ref m_dead, .ref m_usedSpare, .ref m_owner, .ref m_giver, .ref m_guarded, .ref m_drawnOf, .ref m_drawnTo, .int 0, .int 0, .ref m_table, .int 0, .ref m_moved, .ref m_from, .ref m_to, .ref m_guard, .ref m_worths, .ref m_ringClub, .ref m_ringGives, .int 0, .ref m_triedClub, .ref m_triedGives, .int 0, .int 0, .ref m_toldClub, .ref m_toldGives, .ref m_isOut, .ref m_purse, .int 0]))] s.heap.size = A at hD ⊢
  have hA : ∀ q : Nat, s.heap.size ≤ q → A q := fun q h => by rw [← hAe]; exact Or.inr h
  have hS : va_S A s.heap s.heap [] := va_S.rf
  have iX12 : ∀ w ∈ u_ws RX12 TX12 51, w ∈ wsX12_trade := by decide +kernel
  have hl := lv_entry ([.ref mo]) (n := 1) (Nat.le_of_ble_eq_true rfl)
  rw [lg_entry_eq]
  generalize (lg_sl ([.ref mo]) ++ List.replicate (1 - (lg_sl ([.ref mo])).length) Slot.unset).toArray = ls at hl ⊢
  have hl : lv_has ls 1 [(0, .ref mo)] := hl
  refine lv_aload_n hx hb dX12_trade_0 rfl (lv_at hl 0 rfl) ?_
  refine lv_iconst (v := 0) hx hb dX12_trade_1 (by decide) ?_
  refine va_put (D := (dC, dI)) (ci := 12) (v := .int 0) (ty := .int) (C := RX12) (T := TX12) (N := 51) hx hb hts iX12 tyX12 tyX12_ok nmX12 hown hK hP hD hS 0 rfl rfl 33 (by decide) (hts (.fieldLink RX12 247 "CapLeagueModel" "moves" "I") (by decide +kernel)) (fun _ h9 => h9) rfl (by decide +kernel) rfl rfl (Nat.le_of_ble_eq_true rfl) dX12_trade_2 (fun H locs hP hD hS => ?_)
  replace hP : va_P (dC, dI) vwCl [(mo, .inr (12, [.ref m_tape, .int 0, .int 0, .int 0, .int 0, .int 0, .int 0, .int 0, .int 0, .int (-1), .ref m_laws, .ref m_hasLaws, .int 0, .int 0, .ref m_clubOf, .ref m_first, .ref m_last, .ref m_pay, .ref m_rise, .ref m_sure, .ref m_hasChoice, .ref m_isTaken, .ref m_isHurt, .ref m_dead, .ref m_usedSpare, .ref m_owner, .ref m_giver, .ref m_guarded, .ref m_drawnOf, .ref m_drawnTo, .int 0, .int 0, .ref m_table, .int 0, .ref m_moved, .ref m_from, .ref m_to, .ref m_guard, .ref m_worths, .ref m_ringClub, .ref m_ringGives, .int 0, .ref m_triedClub, .ref m_triedGives, .int 0, .int 0, .ref m_toldClub, .ref m_toldGives, .ref m_isOut, .ref m_purse, .int 0]))] H := hP
  replace hD : va_D A [(mo, .inr (12, [.ref m_tape, .int 0, .int 0, .int 0, .int 0, .int 0, .int 0, .int 0, .int 0, .int (-1), .ref m_laws, .ref m_hasLaws, .int 0, .int 0, .ref m_clubOf, .ref m_first, .ref m_last, .ref m_pay, .ref m_rise, .ref m_sure, .ref m_hasChoice, .ref m_isTaken, .ref m_isHurt, .ref m_dead, .ref m_usedSpare, .ref m_owner, .ref m_giver, .ref m_guarded, .ref m_drawnOf, .ref m_drawnTo, .int 0, .int 0, .ref m_table, .int 0, .ref m_moved, .ref m_from, .ref m_to, .ref m_guard, .ref m_worths, .ref m_ringClub, .ref m_ringGives, .int 0, .ref m_triedClub, .ref m_triedGives, .int 0, .int 0, .ref m_toldClub, .ref m_toldGives, .ref m_isOut, .ref m_purse, .int 0]))] := hD
  refine lv_iconst (v := 1) hx hb dX12_trade_5 (by decide) ?_
  exact W.iret (v := 1) hx hb hr (fun t ht hW => ⟨⟨1, (), rfl, by first | exact ⟨by first | rfl | exact xi_k (k := 1) (by decide) (by omega), by first | trivial | omega⟩, trivial⟩, hS.F ht⟩) hS.2.2 dX12_trade_6
set_option maxHeartbeats 4000000 in
set_option maxRecDepth 100000 in
theorem mX_player (l : Launch) (dC : Nat → ClassId) (dI : Nat → Nat → Nat) (mo m_tape m_laws m_hasLaws m_clubOf m_first m_last m_pay m_rise m_sure m_hasChoice m_isTaken m_isHurt m_dead m_usedSpare m_owner m_giver m_guarded m_drawnOf m_drawnTo m_table m_moved m_from m_to m_guard m_worths m_ringClub m_ringGives m_triedClub m_triedGives m_toldClub m_toldGives m_isOut m_purse : Nat) (k_clubOf : ClassId)  (sz : Nat)    : Met l yX12_player wsX12_player ({ frames := 1, cells := 0, slots := 0, locals := 64 }) (va_Pc [.ref mo] (xW (dC, dI) [(k_clubOf, .int)] [(mo, .inr (12, [.ref m_tape, .int 0, .int 0, .int 0, .int 0, .int 0, .int 0, .int 0, .int 0, .int (-1), .ref m_laws, .ref m_hasLaws, .int 0, .int 0, .ref m_clubOf, .ref m_first, .ref m_last, .ref m_pay, .ref m_rise, .ref m_sure, .ref m_hasChoice, .ref m_isTaken, .ref m_isHurt, .ref m_dead, .ref m_usedSpare, .ref m_owner, .ref m_giver, .ref m_guarded, .ref m_drawnOf, .ref m_drawnTo, .int 0, .int 0, .ref m_table, .int 0, .ref m_moved, .ref m_from, .ref m_to, .ref m_guard, .ref m_worths, .ref m_ringClub, .ref m_ringGives, .int 0, .ref m_triedClub, .ref m_triedGives, .int 0, .int 0, .ref m_toldClub, .ref m_toldGives, .ref m_isOut, .ref m_purse, .int 0])), (m_clubOf, .inl (k_clubOf, 60, .inl (fun _ => 0)))] sz)) (va_Qi (fun r (_ : Unit) => (r = 0 ∧ True)) (fun (_ : Unit) _ => True) (va_A [(mo, .inr (12, [.ref m_tape, .int 0, .int 0, .int 0, .int 0, .int 0, .int 0, .int 0, .int 0, .int (-1), .ref m_laws, .ref m_hasLaws, .int 0, .int 0, .ref m_clubOf, .ref m_first, .ref m_last, .ref m_pay, .ref m_rise, .ref m_sure, .ref m_hasChoice, .ref m_isTaken, .ref m_isHurt, .ref m_dead, .ref m_usedSpare, .ref m_owner, .ref m_giver, .ref m_guarded, .ref m_drawnOf, .ref m_drawnTo, .int 0, .int 0, .ref m_table, .int 0, .ref m_moved, .ref m_from, .ref m_to, .ref m_guard, .ref m_worths, .ref m_ringClub, .ref m_ringGives, .int 0, .ref m_triedClub, .ref m_triedGives, .int 0, .int 0, .ref m_toldClub, .ref m_toldGives, .ref m_isOut, .ref m_purse, .int 0])), (m_clubOf, .inl (k_clubOf, 60, .inl (fun _ => 0)))] sz)) 0 0 (va_A [(mo, .inr (12, [.ref m_tape, .int 0, .int 0, .int 0, .int 0, .int 0, .int 0, .int 0, .int 0, .int (-1), .ref m_laws, .ref m_hasLaws, .int 0, .int 0, .ref m_clubOf, .ref m_first, .ref m_last, .ref m_pay, .ref m_rise, .ref m_sure, .ref m_hasChoice, .ref m_isTaken, .ref m_isHurt, .ref m_dead, .ref m_usedSpare, .ref m_owner, .ref m_giver, .ref m_guarded, .ref m_drawnOf, .ref m_drawnTo, .int 0, .int 0, .ref m_table, .int 0, .ref m_moved, .ref m_from, .ref m_to, .ref m_guard, .ref m_worths, .ref m_ringClub, .ref m_ringGives, .int 0, .ref m_triedClub, .ref m_triedGives, .int 0, .int 0, .ref m_toldClub, .ref m_toldGives, .ref m_isOut, .ref m_purse, .int 0])), (m_clubOf, .inl (k_clubOf, 60, .inl (fun _ => 0)))] sz) := by
  refine Met.ofW (cc := cX12_player) (maxL := 1) (ret := (some .int)) (by decide) rfl ?_
  intro pr_ ev_ s m args below meth cd_ s₁ B hml hv
  obtain ⟨rfl, hE, hsz, hK, hP, hD0⟩ := hv
  have hx := B.exec
  have hb := B.bytes
  have hr := B.returns
  have hts := atoms_spec (ws := wsX12_player) B.pre
  have hown : s.vm.findClass RX12 = some m.cls := findClass_of_methodNamed B.named
  have hlocks := B.notSynchronized
  subst hsz
  have hD := hD0.self (sz := s.heap.size)
  generalize hAe : va_A [(mo, .inr (12, [.ref m_tape, .int 0, .int 0, .int 0, .int 0, .int 0, .int 0, .int 0, .int 0, .int (-1), .ref m_laws, .ref m_hasLaws, .int 0, .int 0, .ref m_clubOf, .ref m_first, .ref m_last, .ref m_pay, .ref m_rise, .ref m_sure, .ref m_hasChoice, .ref m_isTaken, .ref m_isHurt, .ref m_dead, .ref m_usedSpare, .ref m_owner, .ref m_giver, .ref m_guarded, .ref m_drawnOf, .ref m_drawnTo, .int 0, .int 0, .ref m_table, .int 0, .ref m_moved, .ref m_from, .ref m_to, .ref m_guard, .ref m_worths, .ref m_ringClub, .ref m_ringGives, .int 0, .ref m_triedClub, .ref m_triedGives, .int 0, .int 0, .ref m_toldClub, .ref m_toldGives, .ref m_isOut, .ref m_purse, .int 0])), (m_clubOf, .inl (k_clubOf, 60, .inl (fun _ => 0)))] s.heap.size = A at hD ⊢
  have hA : ∀ q : Nat, s.heap.size ≤ q → A q := fun q h => by rw [← hAe]; exact Or.inr h
  have hS : va_S A s.heap s.heap [] := va_S.rf
  have iX12 : ∀ w ∈ u_ws RX12 TX12 51, w ∈ wsX12_player := by decide +kernel
  have hl := lv_entry ([.ref mo]) (n := 1) (Nat.le_of_ble_eq_true rfl)
  rw [lg_entry_eq]
  generalize (lg_sl ([.ref mo]) ++ List.replicate (1 - (lg_sl ([.ref mo])).length) Slot.unset).toArray = ls at hl ⊢
  have hl : lv_has ls 1 [(0, .ref mo)] := hl
  refine lv_aload_n hx hb dX12_player_0 rfl (lv_at hl 0 rfl) ?_
  refine va_get (D := (dC, dI)) (ci := 12) (v := .int 0) (C := RX12) (T := TX12) (N := 51) hx hb hts iX12 hown hK hP 0 rfl rfl 13 (by decide) (hts (.fieldLink RX12 202 "CapLeagueModel" "players" "I") (by decide +kernel)) (fun _ h9 => h9) rfl dX12_player_1 ?_
  refine lv_bipush (v := 60) hx hb dX12_player_4 (by decide) ?_
  refine lv_icmp_ne (tgt := 12) hx hb dX12_player_6 (by decide) (fun _ => ?_) (fun h => absurd h (by decide))
  refine lv_aload_n hx hb dX12_player_12 rfl (lv_at hl 0 rfl) ?_
  refine va_get (D := (dC, dI)) (ci := 12) (v := .ref m_clubOf) (C := RX12) (T := TX12) (N := 51) hx hb hts iX12 hown hK hP 0 rfl rfl 14 (by decide) (hts (.fieldLink RX12 25 "CapLeagueModel" "clubOf" "[I") (by decide +kernel)) (fun _ h9 => h9) rfl dX12_player_13 ?_
  refine lv_aload_n hx hb dX12_player_16 rfl (lv_at hl 0 rfl) ?_
  refine va_get (D := (dC, dI)) (ci := 12) (v := .int 0) (C := RX12) (T := TX12) (N := 51) hx hb hts iX12 hown hK hP 0 rfl rfl 13 (by decide) (hts (.fieldLink RX12 202 "CapLeagueModel" "players" "I") (by decide +kernel)) (fun _ h9 => h9) rfl dX12_player_17 ?_
  refine lv_iconst (v := (-1)) hx hb dX12_player_20 (by decide) ?_
  refine va_iast (D := (dC, dI)) hx hb hK hP hD hS 1 0 rfl rfl (by unfold vp_in; decide) dX12_player_21 (fun H locs hP hD hS => ?_)
  obtain ⟨f2, ef2⟩ : ∃ g : Nat → Int32, g = upd (fun _ => 0) (0 : Int32).toNatClampNeg ((-1)) := ⟨_, rfl⟩
  replace hP : va_P (dC, dI) vwCl [(mo, .inr (12, [.ref m_tape, .int 0, .int 0, .int 0, .int 0, .int 0, .int 0, .int 0, .int 0, .int (-1), .ref m_laws, .ref m_hasLaws, .int 0, .int 0, .ref m_clubOf, .ref m_first, .ref m_last, .ref m_pay, .ref m_rise, .ref m_sure, .ref m_hasChoice, .ref m_isTaken, .ref m_isHurt, .ref m_dead, .ref m_usedSpare, .ref m_owner, .ref m_giver, .ref m_guarded, .ref m_drawnOf, .ref m_drawnTo, .int 0, .int 0, .ref m_table, .int 0, .ref m_moved, .ref m_from, .ref m_to, .ref m_guard, .ref m_worths, .ref m_ringClub, .ref m_ringGives, .int 0, .ref m_triedClub, .ref m_triedGives, .int 0, .int 0, .ref m_toldClub, .ref m_toldGives, .ref m_isOut, .ref m_purse, .int 0])), (m_clubOf, .inl (k_clubOf, 60, .inl f2))] H := by rw [ef2]; exact hP
  replace hD : va_D A [(mo, .inr (12, [.ref m_tape, .int 0, .int 0, .int 0, .int 0, .int 0, .int 0, .int 0, .int 0, .int (-1), .ref m_laws, .ref m_hasLaws, .int 0, .int 0, .ref m_clubOf, .ref m_first, .ref m_last, .ref m_pay, .ref m_rise, .ref m_sure, .ref m_hasChoice, .ref m_isTaken, .ref m_isHurt, .ref m_dead, .ref m_usedSpare, .ref m_owner, .ref m_giver, .ref m_guarded, .ref m_drawnOf, .ref m_drawnTo, .int 0, .int 0, .ref m_table, .int 0, .ref m_moved, .ref m_from, .ref m_to, .ref m_guard, .ref m_worths, .ref m_ringClub, .ref m_ringGives, .int 0, .ref m_triedClub, .ref m_triedGives, .int 0, .int 0, .ref m_toldClub, .ref m_toldGives, .ref m_isOut, .ref m_purse, .int 0])), (m_clubOf, .inl (k_clubOf, 60, .inl f2))] := by rw [ef2]; exact hD
  clear ef2
  refine lv_aload_n hx hb dX12_player_22 rfl (lv_at hl 0 rfl) ?_
  refine lv_dup hx hb dX12_player_23 rfl ?_
  refine va_get (D := (dC, dI)) (ci := 12) (v := .int 0) (C := RX12) (T := TX12) (N := 51) hx hb hts iX12 hown hK hP 0 rfl rfl 13 (by decide) (hts (.fieldLink RX12 202 "CapLeagueModel" "players" "I") (by decide +kernel)) (fun _ h9 => h9) rfl dX12_player_24 ?_
  refine lv_iconst (v := 1) hx hb dX12_player_27 (by decide) ?_
  refine lv_iadd hx hb dX12_player_28 ?_
  refine xw_i (v := 1) (by decide) ?_
  refine va_put (D := (dC, dI)) (ci := 12) (v := .int 1) (ty := .int) (C := RX12) (T := TX12) (N := 51) hx hb hts iX12 tyX12 tyX12_ok nmX12 hown hK hP hD hS 0 rfl rfl 13 (by decide) (hts (.fieldLink RX12 202 "CapLeagueModel" "players" "I") (by decide +kernel)) (fun _ h9 => h9) rfl (by decide +kernel) rfl rfl (Nat.le_of_ble_eq_true rfl) dX12_player_29 (fun H locs hP hD hS => ?_)
  replace hP : va_P (dC, dI) vwCl [(mo, .inr (12, [.ref m_tape, .int 0, .int 0, .int 0, .int 0, .int 0, .int 0, .int 0, .int 0, .int (-1), .ref m_laws, .ref m_hasLaws, .int 0, .int 1, .ref m_clubOf, .ref m_first, .ref m_last, .ref m_pay, .ref m_rise, .ref m_sure, .ref m_hasChoice, .ref m_isTaken, .ref m_isHurt, .ref m_dead, .ref m_usedSpare, .ref m_owner, .ref m_giver, .ref m_guarded, .ref m_drawnOf, .ref m_drawnTo, .int 0, .int 0, .ref m_table, .int 0, .ref m_moved, .ref m_from, .ref m_to, .ref m_guard, .ref m_worths, .ref m_ringClub, .ref m_ringGives, .int 0, .ref m_triedClub, .ref m_triedGives, .int 0, .int 0, .ref m_toldClub, .ref m_toldGives, .ref m_isOut, .ref m_purse, .int 0])), (m_clubOf, .inl (k_clubOf, 60, .inl f2))] H := hP
  replace hD : va_D A [(mo, .inr (12, [.ref m_tape, .int 0, .int 0, .int 0, .int 0, .int 0, .int 0, .int 0, .int 0, .int (-1), .ref m_laws, .ref m_hasLaws, .int 0, .int 1, .ref m_clubOf, .ref m_first, .ref m_last, .ref m_pay, .ref m_rise, .ref m_sure, .ref m_hasChoice, .ref m_isTaken, .ref m_isHurt, .ref m_dead, .ref m_usedSpare, .ref m_owner, .ref m_giver, .ref m_guarded, .ref m_drawnOf, .ref m_drawnTo, .int 0, .int 0, .ref m_table, .int 0, .ref m_moved, .ref m_from, .ref m_to, .ref m_guard, .ref m_worths, .ref m_ringClub, .ref m_ringGives, .int 0, .ref m_triedClub, .ref m_triedGives, .int 0, .int 0, .ref m_toldClub, .ref m_toldGives, .ref m_isOut, .ref m_purse, .int 0])), (m_clubOf, .inl (k_clubOf, 60, .inl f2))] := hD
  refine lv_aload_n hx hb dX12_player_32 rfl (lv_at hl 0 rfl) ?_
  refine va_get (D := (dC, dI)) (ci := 12) (v := .int 1) (C := RX12) (T := TX12) (N := 51) hx hb hts iX12 hown hK hP 0 rfl rfl 13 (by decide) (hts (.fieldLink RX12 202 "CapLeagueModel" "players" "I") (by decide +kernel)) (fun _ h9 => h9) rfl dX12_player_33 ?_
  refine lv_iconst (v := 1) hx hb dX12_player_36 (by decide) ?_
  refine lv_isub hx hb dX12_player_37 ?_
  refine xw_i (v := 0) (by decide) ?_
  exact W.iret (v := 0) hx hb hr (fun t ht hW => ⟨⟨0, (), rfl, by first | exact ⟨by first | rfl | exact xi_k (k := 0) (by decide) (by omega), by first | trivial | omega⟩, trivial⟩, hS.F ht⟩) hS.2.2 dX12_player_38
set_option maxHeartbeats 4000000 in
set_option maxRecDepth 100000 in
theorem mX_worthTurn (l : Launch) (dC : Nat → ClassId) (dI : Nat → Nat → Nat) (mo m_tape m_laws m_hasLaws m_clubOf m_first m_last m_pay m_rise m_sure m_hasChoice m_isTaken m_isHurt m_dead m_usedSpare m_owner m_giver m_guarded m_drawnOf m_drawnTo m_table m_moved m_from m_to m_guard m_worths m_ringClub m_ringGives m_triedClub m_triedGives m_toldClub m_toldGives m_isOut m_purse : Nat) (k_worths : ClassId)  (sz : Nat)  (c : Int32) (c_t : Int) (h_c : c.toInt = c_t) (a : Int32) (a_t : Int) (h_a : a.toInt = a_t) (y : Int32) (y_t : Int) (h_y : y.toInt = y_t) (k : Int32) (k_t : Int) (h_k : k.toInt = k_t)  : Met l yX12_worthTurn wsX12_worthTurn ({ frames := 3, cells := 0, slots := 0, locals := 192 }) (va_Pc [.ref mo, .int c, .int a, .int y, .int k] (xW (dC, dI) [(k_worths, .int)] [(mo, .inr (12, [.ref m_tape, .int 0, .int 0, .int 0, .int 0, .int 0, .int 0, .int 0, .int 0, .int (-1), .ref m_laws, .ref m_hasLaws, .int 0, .int 0, .ref m_clubOf, .ref m_first, .ref m_last, .ref m_pay, .ref m_rise, .ref m_sure, .ref m_hasChoice, .ref m_isTaken, .ref m_isHurt, .ref m_dead, .ref m_usedSpare, .ref m_owner, .ref m_giver, .ref m_guarded, .ref m_drawnOf, .ref m_drawnTo, .int 0, .int 0, .ref m_table, .int 0, .ref m_moved, .ref m_from, .ref m_to, .ref m_guard, .ref m_worths, .ref m_ringClub, .ref m_ringGives, .int 0, .ref m_triedClub, .ref m_triedGives, .int 0, .int 0, .ref m_toldClub, .ref m_toldGives, .ref m_isOut, .ref m_purse, .int 0])), (m_worths, .inl (k_worths, 1120, .inl (fun _ => 0)))] sz)) (va_Qi (fun r (_ : Unit) => (r = 0 ∧ (0 ≤ c_t ∧ c_t ≤ 7 ∧ 0 ≤ a_t ∧ a_t ≤ 7 ∧ 0 ≤ y_t ∧ y_t ≤ 9 ∧ 0 ≤ k_t ∧ k_t ≤ 9999)) ∨ (r = (-2) ∧ ¬ (0 ≤ c_t ∧ c_t ≤ 7 ∧ 0 ≤ a_t ∧ a_t ≤ 7 ∧ 0 ≤ y_t ∧ y_t ≤ 9 ∧ 0 ≤ k_t ∧ k_t ≤ 9999))) (fun (_ : Unit) _ => True) (va_A [(mo, .inr (12, [.ref m_tape, .int 0, .int 0, .int 0, .int 0, .int 0, .int 0, .int 0, .int 0, .int (-1), .ref m_laws, .ref m_hasLaws, .int 0, .int 0, .ref m_clubOf, .ref m_first, .ref m_last, .ref m_pay, .ref m_rise, .ref m_sure, .ref m_hasChoice, .ref m_isTaken, .ref m_isHurt, .ref m_dead, .ref m_usedSpare, .ref m_owner, .ref m_giver, .ref m_guarded, .ref m_drawnOf, .ref m_drawnTo, .int 0, .int 0, .ref m_table, .int 0, .ref m_moved, .ref m_from, .ref m_to, .ref m_guard, .ref m_worths, .ref m_ringClub, .ref m_ringGives, .int 0, .ref m_triedClub, .ref m_triedGives, .int 0, .int 0, .ref m_toldClub, .ref m_toldGives, .ref m_isOut, .ref m_purse, .int 0])), (m_worths, .inl (k_worths, 1120, .inl (fun _ => 0)))] sz)) 0 0 (va_A [(mo, .inr (12, [.ref m_tape, .int 0, .int 0, .int 0, .int 0, .int 0, .int 0, .int 0, .int 0, .int (-1), .ref m_laws, .ref m_hasLaws, .int 0, .int 0, .ref m_clubOf, .ref m_first, .ref m_last, .ref m_pay, .ref m_rise, .ref m_sure, .ref m_hasChoice, .ref m_isTaken, .ref m_isHurt, .ref m_dead, .ref m_usedSpare, .ref m_owner, .ref m_giver, .ref m_guarded, .ref m_drawnOf, .ref m_drawnTo, .int 0, .int 0, .ref m_table, .int 0, .ref m_moved, .ref m_from, .ref m_to, .ref m_guard, .ref m_worths, .ref m_ringClub, .ref m_ringGives, .int 0, .ref m_triedClub, .ref m_triedGives, .int 0, .int 0, .ref m_toldClub, .ref m_toldGives, .ref m_isOut, .ref m_purse, .int 0])), (m_worths, .inl (k_worths, 1120, .inl (fun _ => 0)))] sz) := by
  refine Met.ofW (cc := cX12_worthTurn) (maxL := 7) (ret := (some .int)) (by decide) rfl ?_
  intro pr_ ev_ s m args below meth cd_ s₁ B hml hv
  obtain ⟨rfl, hE, hsz, hK, hP, hD0⟩ := hv
  have hx := B.exec
  have hb := B.bytes
  have hr := B.returns
  have hts := atoms_spec (ws := wsX12_worthTurn) B.pre
  have hown : s.vm.findClass RX12 = some m.cls := findClass_of_methodNamed B.named
  have hlocks := B.notSynchronized
  subst hsz
  have hD := hD0.self (sz := s.heap.size)
  generalize hAe : va_A [(mo, .inr (12, [.ref m_tape, .int 0, .int 0, .int 0, .int 0, .int 0, .int 0, .int 0, .int 0, .int (-1), .ref m_laws, .ref m_hasLaws, .int 0, .int 0, .ref m_clubOf, .ref m_first, .ref m_last, .ref m_pay, .ref m_rise, .ref m_sure, .ref m_hasChoice, .ref m_isTaken, .ref m_isHurt, .ref m_dead, .ref m_usedSpare, .ref m_owner, .ref m_giver, .ref m_guarded, .ref m_drawnOf, .ref m_drawnTo, .int 0, .int 0, .ref m_table, .int 0, .ref m_moved, .ref m_from, .ref m_to, .ref m_guard, .ref m_worths, .ref m_ringClub, .ref m_ringGives, .int 0, .ref m_triedClub, .ref m_triedGives, .int 0, .int 0, .ref m_toldClub, .ref m_toldGives, .ref m_isOut, .ref m_purse, .int 0])), (m_worths, .inl (k_worths, 1120, .inl (fun _ => 0)))] s.heap.size = A at hD ⊢
  have hA : ∀ q : Nat, s.heap.size ≤ q → A q := fun q h => by rw [← hAe]; exact Or.inr h
  have hS : va_S A s.heap s.heap [] := va_S.rf
  have iX12 : ∀ w ∈ u_ws RX12 TX12 51, w ∈ wsX12_worthTurn := by decide +kernel
  have hl := lv_entry ([.ref mo, .int c, .int a, .int y, .int k]) (n := 7) (Nat.le_of_ble_eq_true rfl)
  rw [lg_entry_eq]
  generalize (lg_sl ([.ref mo, .int c, .int a, .int y, .int k]) ++ List.replicate (7 - (lg_sl ([.ref mo, .int c, .int a, .int y, .int k])).length) Slot.unset).toArray = ls at hl ⊢
  have hl : lv_has ls 7 [(0, .ref mo), (1, .int c), (2, .int a), (3, .int y), (4, .int k)] := hl
  have lo_c := xi_lo c
  have hi_c := xi_hi c
  have lo_a := xi_lo a
  have hi_a := xi_hi a
  have lo_y := xi_lo y
  have hi_y := xi_hi y
  have lo_k := xi_lo k
  have hi_k := xi_hi k
  refine lv_iload_n hx hb dX12_worthTurn_0 rfl (lv_at hl 1 rfl) ?_
  refine vp_callSi (W.runS (As := [.int c]) (rest := []) ⟨hx, hb, hml, hown, hts⟩ (cX12_isClub_ l dC dI ([(mo, .inr (12, [.ref m_tape, .int 0, .int 0, .int 0, .int 0, .int 0, .int 0, .int 0, .int 0, .int (-1), .ref m_laws, .ref m_hasLaws, .int 0, .int 0, .ref m_clubOf, .ref m_first, .ref m_last, .ref m_pay, .ref m_rise, .ref m_sure, .ref m_hasChoice, .ref m_isTaken, .ref m_isHurt, .ref m_dead, .ref m_usedSpare, .ref m_owner, .ref m_giver, .ref m_guarded, .ref m_drawnOf, .ref m_drawnTo, .int 0, .int 0, .ref m_table, .int 0, .ref m_moved, .ref m_from, .ref m_to, .ref m_guard, .ref m_worths, .ref m_ringClub, .ref m_ringGives, .int 0, .ref m_triedClub, .ref m_triedGives, .int 0, .int 0, .ref m_toldClub, .ref m_toldGives, .ref m_isOut, .ref m_purse, .int 0])), (m_worths, .inl (k_worths, 1120, .inl (fun _ => 0)))]) ([(k_worths, .int)]) c (c.toInt) rfl) (va_cwS 1 hts gX12_worthTurn_X12_isClub rfl rfl rfl (by decide +kernel) ⟨Nat.le_of_ble_eq_true rfl, Nat.le_of_ble_eq_true rfl⟩) ⟨xR_blind _ _ _ _, xR_pre _ hE hK hP⟩ rfl rfl hl.1 rfl (lv_room (Nat.le_of_ble_eq_true rfl)) dX12_worthTurn_1 ⟨Nat.le_of_ble_eq_true rfl, Nat.le_of_ble_eq_true rfl⟩) (fun rh1 h1 => ?_)
  rcases h1 with ⟨rfl, h1⟩ | ⟨rfl, h1⟩
  · skip
    refine lv_if_eq (tgt := 39) hx hb dX12_worthTurn_4 (by decide) (fun h => absurd h (by decide)) (fun _ => ?_)
    refine lv_iload_n hx hb dX12_worthTurn_7 rfl (lv_at hl 2 rfl) ?_
    refine vp_callSi (W.runS (As := [.int a]) (rest := []) ⟨hx, hb, hml, hown, hts⟩ (cX12_isClub_ l dC dI ([(mo, .inr (12, [.ref m_tape, .int 0, .int 0, .int 0, .int 0, .int 0, .int 0, .int 0, .int 0, .int (-1), .ref m_laws, .ref m_hasLaws, .int 0, .int 0, .ref m_clubOf, .ref m_first, .ref m_last, .ref m_pay, .ref m_rise, .ref m_sure, .ref m_hasChoice, .ref m_isTaken, .ref m_isHurt, .ref m_dead, .ref m_usedSpare, .ref m_owner, .ref m_giver, .ref m_guarded, .ref m_drawnOf, .ref m_drawnTo, .int 0, .int 0, .ref m_table, .int 0, .ref m_moved, .ref m_from, .ref m_to, .ref m_guard, .ref m_worths, .ref m_ringClub, .ref m_ringGives, .int 0, .ref m_triedClub, .ref m_triedGives, .int 0, .int 0, .ref m_toldClub, .ref m_toldGives, .ref m_isOut, .ref m_purse, .int 0])), (m_worths, .inl (k_worths, 1120, .inl (fun _ => 0)))]) ([(k_worths, .int)]) a (a.toInt) rfl) (va_cwS 1 hts gX12_worthTurn_X12_isClub rfl rfl rfl (by decide +kernel) ⟨Nat.le_of_ble_eq_true rfl, Nat.le_of_ble_eq_true rfl⟩) ⟨xR_blind _ _ _ _, xR_pre _ hE hK hP⟩ rfl rfl hl.1 rfl (lv_room (Nat.le_of_ble_eq_true rfl)) dX12_worthTurn_8 ⟨Nat.le_of_ble_eq_true rfl, Nat.le_of_ble_eq_true rfl⟩) (fun rh3 h3 => ?_)
    rcases h3 with ⟨rfl, h3⟩ | ⟨rfl, h3⟩
    · skip
      refine lv_if_eq (tgt := 39) hx hb dX12_worthTurn_11 (by decide) (fun h => absurd h (by decide)) (fun _ => ?_)
      refine lv_iload_n hx hb dX12_worthTurn_14 rfl (lv_at hl 3 rfl) ?_
      refine lv_i2l hx hb dX12_worthTurn_15 rfl ?_
      refine lv_lconst (v := 0) hx hb dX12_worthTurn_16 (by decide) ?_
      refine lv_ldc2 (v := 9) hx hb hown (hts (.constantLong RX12 190 (9)) (by decide +kernel)) dX12_worthTurn_17 ?_
      refine vp_callSi (W.runS (As := [.long y.toInt64, .long 0, .long 9]) (rest := []) ⟨hx, hb, hml, hown, hts⟩ (cX12_in_ l dC dI ([(mo, .inr (12, [.ref m_tape, .int 0, .int 0, .int 0, .int 0, .int 0, .int 0, .int 0, .int 0, .int (-1), .ref m_laws, .ref m_hasLaws, .int 0, .int 0, .ref m_clubOf, .ref m_first, .ref m_last, .ref m_pay, .ref m_rise, .ref m_sure, .ref m_hasChoice, .ref m_isTaken, .ref m_isHurt, .ref m_dead, .ref m_usedSpare, .ref m_owner, .ref m_giver, .ref m_guarded, .ref m_drawnOf, .ref m_drawnTo, .int 0, .int 0, .ref m_table, .int 0, .ref m_moved, .ref m_from, .ref m_to, .ref m_guard, .ref m_worths, .ref m_ringClub, .ref m_ringGives, .int 0, .ref m_triedClub, .ref m_triedGives, .int 0, .int 0, .ref m_toldClub, .ref m_toldGives, .ref m_isOut, .ref m_purse, .int 0])), (m_worths, .inl (k_worths, 1120, .inl (fun _ => 0)))]) ([(k_worths, .int)]) y.toInt64 (y.toInt) (xi_64 y) 0 (0) (by decide) 9 (9) (by decide)) (va_cwS 3 hts gX12_worthTurn_X12_in rfl rfl rfl (by decide +kernel) ⟨Nat.le_of_ble_eq_true rfl, Nat.le_of_ble_eq_true rfl⟩) ⟨xR_blind _ _ _ _, xR_pre _ hE hK hP⟩ rfl rfl hl.1 rfl (lv_room (Nat.le_of_ble_eq_true rfl)) dX12_worthTurn_20 ⟨Nat.le_of_ble_eq_true rfl, Nat.le_of_ble_eq_true rfl⟩) (fun rh5 h5 => ?_)
      rcases h5 with ⟨rfl, h5⟩ | ⟨rfl, h5⟩
      · skip
        refine lv_if_eq (tgt := 39) hx hb dX12_worthTurn_23 (by decide) (fun h => absurd h (by decide)) (fun _ => ?_)
        refine lv_iload hx hb dX12_worthTurn_26 (lv_at hl 4 rfl) ?_
        refine lv_i2l hx hb dX12_worthTurn_28 rfl ?_
        refine lv_lconst (v := 0) hx hb dX12_worthTurn_29 (by decide) ?_
        refine lv_ldc2 (v := 9999) hx hb hown (hts (.constantLong RX12 278 (9999)) (by decide +kernel)) dX12_worthTurn_30 ?_
        refine vp_callSi (W.runS (As := [.long k.toInt64, .long 0, .long 9999]) (rest := []) ⟨hx, hb, hml, hown, hts⟩ (cX12_in_ l dC dI ([(mo, .inr (12, [.ref m_tape, .int 0, .int 0, .int 0, .int 0, .int 0, .int 0, .int 0, .int 0, .int (-1), .ref m_laws, .ref m_hasLaws, .int 0, .int 0, .ref m_clubOf, .ref m_first, .ref m_last, .ref m_pay, .ref m_rise, .ref m_sure, .ref m_hasChoice, .ref m_isTaken, .ref m_isHurt, .ref m_dead, .ref m_usedSpare, .ref m_owner, .ref m_giver, .ref m_guarded, .ref m_drawnOf, .ref m_drawnTo, .int 0, .int 0, .ref m_table, .int 0, .ref m_moved, .ref m_from, .ref m_to, .ref m_guard, .ref m_worths, .ref m_ringClub, .ref m_ringGives, .int 0, .ref m_triedClub, .ref m_triedGives, .int 0, .int 0, .ref m_toldClub, .ref m_toldGives, .ref m_isOut, .ref m_purse, .int 0])), (m_worths, .inl (k_worths, 1120, .inl (fun _ => 0)))]) ([(k_worths, .int)]) k.toInt64 (k.toInt) (xi_64 k) 0 (0) (by decide) 9999 (9999) (by decide)) (va_cwS 3 hts gX12_worthTurn_X12_in rfl rfl rfl (by decide +kernel) ⟨Nat.le_of_ble_eq_true rfl, Nat.le_of_ble_eq_true rfl⟩) ⟨xR_blind _ _ _ _, xR_pre _ hE hK hP⟩ rfl rfl hl.1 rfl (lv_room (Nat.le_of_ble_eq_true rfl)) dX12_worthTurn_33 ⟨Nat.le_of_ble_eq_true rfl, Nat.le_of_ble_eq_true rfl⟩) (fun rh7 h7 => ?_)
        rcases h7 with ⟨rfl, h7⟩ | ⟨rfl, h7⟩
        · skip
          refine lv_if_ne (tgt := 42) hx hb dX12_worthTurn_36 (by decide) (fun _ => ?_) (fun h => absurd h (by decide))
          refine lv_sipush (v := 140) hx hb dX12_worthTurn_42 (by decide) ?_
          refine lv_iload_n hx hb dX12_worthTurn_45 rfl (lv_at hl 1 rfl) ?_
          refine lv_imul hx hb dX12_worthTurn_46 ?_
          refine lv_topi (fun v9 ev9 => ?_)
          have jv9 : v9.toInt = 140 * c.toInt := xi_mul ev9 (by decide) rfl (by omega) (by omega)
          refine lv_bipush (v := 60) hx hb dX12_worthTurn_47 (by decide) ?_
          refine lv_iadd hx hb dX12_worthTurn_49 ?_
          refine lv_topi (fun v10 ev10 => ?_)
          have jv10 : v10.toInt = v9.toInt + 60 := xi_add ev10 rfl (by decide) (by omega) (by omega)
          refine lv_bipush (v := 10) hx hb dX12_worthTurn_50 (by decide) ?_
          refine lv_iload_n hx hb dX12_worthTurn_52 rfl (lv_at hl 2 rfl) ?_
          refine lv_imul hx hb dX12_worthTurn_53 ?_
          refine lv_topi (fun v11 ev11 => ?_)
          have jv11 : v11.toInt = 10 * a.toInt := xi_mul ev11 (by decide) rfl (by omega) (by omega)
          refine lv_iadd hx hb dX12_worthTurn_54 ?_
          refine lv_topi (fun v12 ev12 => ?_)
          have jv12 : v12.toInt = v10.toInt + v11.toInt := xi_add ev12 rfl rfl (by omega) (by omega)
          refine lv_iload_n hx hb dX12_worthTurn_55 rfl (lv_at hl 3 rfl) ?_
          refine lv_iadd hx hb dX12_worthTurn_56 ?_
          refine lv_topi (fun v13 ev13 => ?_)
          have jv13 : v13.toInt = v12.toInt + y.toInt := xi_add ev13 rfl rfl (by omega) (by omega)
          refine lv_istore (lv' := [(5, .int v13), (0, .ref mo), (1, .int c), (2, .int a), (3, .int y), (4, .int k)]) hx hb dX12_worthTurn_57 hl (by decide) rfl (fun ls hl => ?_)
          refine lv_aload_n hx hb dX12_worthTurn_59 rfl (lv_at hl 1 rfl) ?_
          refine va_get (D := (dC, dI)) (ci := 12) (v := .ref m_worths) (C := RX12) (T := TX12) (N := 51) hx hb hts iX12 hown hK hP 0 rfl rfl 38 (by decide) (hts (.fieldLink RX12 88 "CapLeagueModel" "worths" "[I") (by decide +kernel)) (fun _ h9 => h9) rfl dX12_worthTurn_60 ?_
          refine lv_iload hx hb dX12_worthTurn_63 (lv_at hl 0 rfl) ?_
          refine va_iald (D := (dC, dI)) hx hb hK hP 1 0 rfl rfl (xi_in (by omega) (by omega)) dX12_worthTurn_65 ?_
          refine xw_i (v := 0) rfl ?_
          refine lv_istore (lv' := [(6, .int 0), (5, .int v13), (0, .ref mo), (1, .int c), (2, .int a), (3, .int y), (4, .int k)]) hx hb dX12_worthTurn_66 hl (by decide) rfl (fun ls hl => ?_)
          refine lv_aload_n hx hb dX12_worthTurn_68 rfl (lv_at hl 2 rfl) ?_
          refine va_get (D := (dC, dI)) (ci := 12) (v := .ref m_worths) (C := RX12) (T := TX12) (N := 51) hx hb hts iX12 hown hK hP 0 rfl rfl 38 (by decide) (hts (.fieldLink RX12 88 "CapLeagueModel" "worths" "[I") (by decide +kernel)) (fun _ h9 => h9) rfl dX12_worthTurn_69 ?_
          refine lv_iload hx hb dX12_worthTurn_72 (lv_at hl 1 rfl) ?_
          refine lv_iload hx hb dX12_worthTurn_74 (lv_at hl 6 rfl) ?_
          refine va_iast (D := (dC, dI)) hx hb hK hP hD hS 1 0 rfl rfl (xi_in (by omega) (by omega)) dX12_worthTurn_76 (fun H locs hP hD hS => ?_)
          obtain ⟨f14, ef14⟩ : ∃ g : Nat → Int32, g = upd (fun _ => 0) v13.toNatClampNeg (k) := ⟨_, rfl⟩
          replace hP : va_P (dC, dI) vwCl [(mo, .inr (12, [.ref m_tape, .int 0, .int 0, .int 0, .int 0, .int 0, .int 0, .int 0, .int 0, .int (-1), .ref m_laws, .ref m_hasLaws, .int 0, .int 0, .ref m_clubOf, .ref m_first, .ref m_last, .ref m_pay, .ref m_rise, .ref m_sure, .ref m_hasChoice, .ref m_isTaken, .ref m_isHurt, .ref m_dead, .ref m_usedSpare, .ref m_owner, .ref m_giver, .ref m_guarded, .ref m_drawnOf, .ref m_drawnTo, .int 0, .int 0, .ref m_table, .int 0, .ref m_moved, .ref m_from, .ref m_to, .ref m_guard, .ref m_worths, .ref m_ringClub, .ref m_ringGives, .int 0, .ref m_triedClub, .ref m_triedGives, .int 0, .int 0, .ref m_toldClub, .ref m_toldGives, .ref m_isOut, .ref m_purse, .int 0])), (m_worths, .inl (k_worths, 1120, .inl f14))] H := by rw [ef14]; exact hP
          replace hD : va_D A [(mo, .inr (12, [.ref m_tape, .int 0, .int 0, .int 0, .int 0, .int 0, .int 0, .int 0, .int 0, .int (-1), .ref m_laws, .ref m_hasLaws, .int 0, .int 0, .ref m_clubOf, .ref m_first, .ref m_last, .ref m_pay, .ref m_rise, .ref m_sure, .ref m_hasChoice, .ref m_isTaken, .ref m_isHurt, .ref m_dead, .ref m_usedSpare, .ref m_owner, .ref m_giver, .ref m_guarded, .ref m_drawnOf, .ref m_drawnTo, .int 0, .int 0, .ref m_table, .int 0, .ref m_moved, .ref m_from, .ref m_to, .ref m_guard, .ref m_worths, .ref m_ringClub, .ref m_ringGives, .int 0, .ref m_triedClub, .ref m_triedGives, .int 0, .int 0, .ref m_toldClub, .ref m_toldGives, .ref m_isOut, .ref m_purse, .int 0])), (m_worths, .inl (k_worths, 1120, .inl f14))] := by rw [ef14]; exact hD
          clear ef14
          refine lv_iload hx hb dX12_worthTurn_77 (lv_at hl 0 rfl) ?_
          exact W.iret (v := 0) hx hb hr (fun t ht hW => ⟨⟨0, (), rfl, by first | exact Or.inl ⟨by first | rfl | exact xi_k (k := 0) (by decide) (by omega), by first | trivial | omega⟩ | exact Or.inr (⟨by first | rfl | exact xi_k (k := (-2)) (by decide) (by omega), by first | trivial | omega⟩), trivial⟩, hS.F ht⟩) hS.2.2 dX12_worthTurn_79
        · skip
          refine lv_if_ne (tgt := 42) hx hb dX12_worthTurn_36 (by decide) (fun h => absurd (by decide) h) (fun _ => ?_)
          refine lv_bipush (v := (-2)) hx hb dX12_worthTurn_39 (by decide) ?_
          exact W.iret (v := (-2)) hx hb hr (fun t ht hW => ⟨⟨(-2), (), rfl, by first | exact Or.inl ⟨by first | rfl | exact xi_k (k := 0) (by decide) (by omega), by first | trivial | omega⟩ | exact Or.inr (⟨by first | rfl | exact xi_k (k := (-2)) (by decide) (by omega), by first | trivial | omega⟩), trivial⟩, hS.F ht⟩) hS.2.2 dX12_worthTurn_41
      · skip
        refine lv_if_eq (tgt := 39) hx hb dX12_worthTurn_23 (by decide) (fun _ => ?_) (fun h => absurd (by decide) h)
        refine lv_bipush (v := (-2)) hx hb dX12_worthTurn_39 (by decide) ?_
        exact W.iret (v := (-2)) hx hb hr (fun t ht hW => ⟨⟨(-2), (), rfl, by first | exact Or.inl ⟨by first | rfl | exact xi_k (k := 0) (by decide) (by omega), by first | trivial | omega⟩ | exact Or.inr (⟨by first | rfl | exact xi_k (k := (-2)) (by decide) (by omega), by first | trivial | omega⟩), trivial⟩, hS.F ht⟩) hS.2.2 dX12_worthTurn_41
    · skip
      refine lv_if_eq (tgt := 39) hx hb dX12_worthTurn_11 (by decide) (fun _ => ?_) (fun h => absurd (by decide) h)
      refine lv_bipush (v := (-2)) hx hb dX12_worthTurn_39 (by decide) ?_
      exact W.iret (v := (-2)) hx hb hr (fun t ht hW => ⟨⟨(-2), (), rfl, by first | exact Or.inl ⟨by first | rfl | exact xi_k (k := 0) (by decide) (by omega), by first | trivial | omega⟩ | exact Or.inr (⟨by first | rfl | exact xi_k (k := (-2)) (by decide) (by omega), by first | trivial | omega⟩), trivial⟩, hS.F ht⟩) hS.2.2 dX12_worthTurn_41
  · skip
    refine lv_if_eq (tgt := 39) hx hb dX12_worthTurn_4 (by decide) (fun _ => ?_) (fun h => absurd (by decide) h)
    refine lv_bipush (v := (-2)) hx hb dX12_worthTurn_39 (by decide) ?_
    exact W.iret (v := (-2)) hx hb hr (fun t ht hW => ⟨⟨(-2), (), rfl, by first | exact Or.inl ⟨by first | rfl | exact xi_k (k := 0) (by decide) (by omega), by first | trivial | omega⟩ | exact Or.inr (⟨by first | rfl | exact xi_k (k := (-2)) (by decide) (by omega), by first | trivial | omega⟩), trivial⟩, hS.F ht⟩) hS.2.2 dX12_worthTurn_41
set_option maxHeartbeats 4000000 in
set_option maxRecDepth 100000 in
theorem mX_table (l : Launch) (dC : Nat → ClassId) (dI : Nat → Nat → Nat) (mo m_tape m_laws m_hasLaws m_clubOf m_first m_last m_pay m_rise m_sure m_hasChoice m_isTaken m_isHurt m_dead m_usedSpare m_owner m_giver m_guarded m_drawnOf m_drawnTo m_table m_moved m_from m_to m_guard m_worths m_ringClub m_ringGives m_triedClub m_triedGives m_toldClub m_toldGives m_isOut m_purse : Nat)  (sz : Nat)    : Met l yX12_table wsX12_table ({ frames := 1, cells := 0, slots := 0, locals := 64 }) (va_Pc [.ref mo] (xW (dC, dI) [] [(mo, .inr (12, [.ref m_tape, .int 0, .int 0, .int 0, .int 0, .int 0, .int 0, .int 0, .int 0, .int (-1), .ref m_laws, .ref m_hasLaws, .int 0, .int 0, .ref m_clubOf, .ref m_first, .ref m_last, .ref m_pay, .ref m_rise, .ref m_sure, .ref m_hasChoice, .ref m_isTaken, .ref m_isHurt, .ref m_dead, .ref m_usedSpare, .ref m_owner, .ref m_giver, .ref m_guarded, .ref m_drawnOf, .ref m_drawnTo, .int 0, .int 0, .ref m_table, .int 0, .ref m_moved, .ref m_from, .ref m_to, .ref m_guard, .ref m_worths, .ref m_ringClub, .ref m_ringGives, .int 0, .ref m_triedClub, .ref m_triedGives, .int 0, .int 0, .ref m_toldClub, .ref m_toldGives, .ref m_isOut, .ref m_purse, .int 0]))] sz)) (va_Qi (fun r (_ : Unit) => (r = (-1) ∧ True)) (fun (_ : Unit) _ => True) (va_A [(mo, .inr (12, [.ref m_tape, .int 0, .int 0, .int 0, .int 0, .int 0, .int 0, .int 0, .int 0, .int (-1), .ref m_laws, .ref m_hasLaws, .int 0, .int 0, .ref m_clubOf, .ref m_first, .ref m_last, .ref m_pay, .ref m_rise, .ref m_sure, .ref m_hasChoice, .ref m_isTaken, .ref m_isHurt, .ref m_dead, .ref m_usedSpare, .ref m_owner, .ref m_giver, .ref m_guarded, .ref m_drawnOf, .ref m_drawnTo, .int 0, .int 0, .ref m_table, .int 0, .ref m_moved, .ref m_from, .ref m_to, .ref m_guard, .ref m_worths, .ref m_ringClub, .ref m_ringGives, .int 0, .ref m_triedClub, .ref m_triedGives, .int 0, .int 0, .ref m_toldClub, .ref m_toldGives, .ref m_isOut, .ref m_purse, .int 0]))] sz)) 0 0 (va_A [(mo, .inr (12, [.ref m_tape, .int 0, .int 0, .int 0, .int 0, .int 0, .int 0, .int 0, .int 0, .int (-1), .ref m_laws, .ref m_hasLaws, .int 0, .int 0, .ref m_clubOf, .ref m_first, .ref m_last, .ref m_pay, .ref m_rise, .ref m_sure, .ref m_hasChoice, .ref m_isTaken, .ref m_isHurt, .ref m_dead, .ref m_usedSpare, .ref m_owner, .ref m_giver, .ref m_guarded, .ref m_drawnOf, .ref m_drawnTo, .int 0, .int 0, .ref m_table, .int 0, .ref m_moved, .ref m_from, .ref m_to, .ref m_guard, .ref m_worths, .ref m_ringClub, .ref m_ringGives, .int 0, .ref m_triedClub, .ref m_triedGives, .int 0, .int 0, .ref m_toldClub, .ref m_toldGives, .ref m_isOut, .ref m_purse, .int 0]))] sz) := by
  refine Met.ofW (cc := cX12_table) (maxL := 4) (ret := (some .int)) (by decide) rfl ?_
  intro pr_ ev_ s m args below meth cd_ s₁ B hml hv
  obtain ⟨rfl, hE, hsz, hK, hP, hD0⟩ := hv
  have hx := B.exec
  have hb := B.bytes
  have hr := B.returns
  have hts := atoms_spec (ws := wsX12_table) B.pre
  have hown : s.vm.findClass RX12 = some m.cls := findClass_of_methodNamed B.named
  have hlocks := B.notSynchronized
  subst hsz
  have hD := hD0.self (sz := s.heap.size)
  generalize hAe : va_A [(mo, .inr (12, [.ref m_tape, .int 0, .int 0, .int 0, .int 0, .int 0, .int 0, .int 0, .int 0, .int (-1), .ref m_laws, .ref m_hasLaws, .int 0, .int 0, .ref m_clubOf, .ref m_first, .ref m_last, .ref m_pay, .ref m_rise, .ref m_sure, .ref m_hasChoice, .ref m_isTaken, .ref m_isHurt, .ref m_dead, .ref m_usedSpare, .ref m_owner, .ref m_giver, .ref m_guarded, .ref m_drawnOf, .ref m_drawnTo, .int 0, .int 0, .ref m_table, .int 0, .ref m_moved, .ref m_from, .ref m_to, .ref m_guard, .ref m_worths, .ref m_ringClub, .ref m_ringGives, .int 0, .ref m_triedClub, .ref m_triedGives, .int 0, .int 0, .ref m_toldClub, .ref m_toldGives, .ref m_isOut, .ref m_purse, .int 0]))] s.heap.size = A at hD ⊢
  have hA : ∀ q : Nat, s.heap.size ≤ q → A q := fun q h => by rw [← hAe]; exact Or.inr h
  have hS : va_S A s.heap s.heap [] := va_S.rf
  have iX12 : ∀ w ∈ u_ws RX12 TX12 51, w ∈ wsX12_table := by decide +kernel
  have hl := lv_entry ([.ref mo]) (n := 4) (Nat.le_of_ble_eq_true rfl)
  rw [lg_entry_eq]
  generalize (lg_sl ([.ref mo]) ++ List.replicate (4 - (lg_sl ([.ref mo])).length) Slot.unset).toArray = ls at hl ⊢
  have hl : lv_has ls 4 [(0, .ref mo)] := hl
  refine lv_aload_n hx hb dX12_table_0 rfl (lv_at hl 0 rfl) ?_
  refine va_get (D := (dC, dI)) (ci := 12) (v := .int 0) (C := RX12) (T := TX12) (N := 51) hx hb hts iX12 hown hK hP 0 rfl rfl 1 (by decide) (hts (.fieldLink RX12 119 "CapLeagueModel" "taped" "I") (by decide +kernel)) (fun _ h9 => h9) rfl dX12_table_1 ?_
  refine lv_istore_n (lv' := [(1, .int 0), (0, .ref mo)]) hx hb dX12_table_4 rfl hl (by decide) rfl (fun ls hl => ?_)
  refine lv_aload_n hx hb dX12_table_5 rfl (lv_at hl 1 rfl) ?_
  refine lv_iconst (v := 0) hx hb dX12_table_6 (by decide) ?_
  refine va_put (D := (dC, dI)) (ci := 12) (v := .int 0) (ty := .int) (C := RX12) (T := TX12) (N := 51) hx hb hts iX12 tyX12 tyX12_ok nmX12 hown hK hP hD hS 0 rfl rfl 1 (by decide) (hts (.fieldLink RX12 119 "CapLeagueModel" "taped" "I") (by decide +kernel)) (fun _ h9 => h9) rfl (by decide +kernel) rfl rfl (Nat.le_of_ble_eq_true rfl) dX12_table_7 (fun H locs hP hD hS => ?_)
  replace hP : va_P (dC, dI) vwCl [(mo, .inr (12, [.ref m_tape, .int 0, .int 0, .int 0, .int 0, .int 0, .int 0, .int 0, .int 0, .int (-1), .ref m_laws, .ref m_hasLaws, .int 0, .int 0, .ref m_clubOf, .ref m_first, .ref m_last, .ref m_pay, .ref m_rise, .ref m_sure, .ref m_hasChoice, .ref m_isTaken, .ref m_isHurt, .ref m_dead, .ref m_usedSpare, .ref m_owner, .ref m_giver, .ref m_guarded, .ref m_drawnOf, .ref m_drawnTo, .int 0, .int 0, .ref m_table, .int 0, .ref m_moved, .ref m_from, .ref m_to, .ref m_guard, .ref m_worths, .ref m_ringClub, .ref m_ringGives, .int 0, .ref m_triedClub, .ref m_triedGives, .int 0, .int 0, .ref m_toldClub, .ref m_toldGives, .ref m_isOut, .ref m_purse, .int 0]))] H := hP
  replace hD : va_D A [(mo, .inr (12, [.ref m_tape, .int 0, .int 0, .int 0, .int 0, .int 0, .int 0, .int 0, .int 0, .int (-1), .ref m_laws, .ref m_hasLaws, .int 0, .int 0, .ref m_clubOf, .ref m_first, .ref m_last, .ref m_pay, .ref m_rise, .ref m_sure, .ref m_hasChoice, .ref m_isTaken, .ref m_isHurt, .ref m_dead, .ref m_usedSpare, .ref m_owner, .ref m_giver, .ref m_guarded, .ref m_drawnOf, .ref m_drawnTo, .int 0, .int 0, .ref m_table, .int 0, .ref m_moved, .ref m_from, .ref m_to, .ref m_guard, .ref m_worths, .ref m_ringClub, .ref m_ringGives, .int 0, .ref m_triedClub, .ref m_triedGives, .int 0, .int 0, .ref m_toldClub, .ref m_toldGives, .ref m_isOut, .ref m_purse, .int 0]))] := hD
  refine lv_aload_n hx hb dX12_table_10 rfl (lv_at hl 1 rfl) ?_
  refine va_get (D := (dC, dI)) (ci := 12) (v := .int 0) (C := RX12) (T := TX12) (N := 51) hx hb hts iX12 hown hK hP 0 rfl rfl 31 (by decide) (hts (.fieldLink RX12 264 "CapLeagueModel" "isDrawn" "Z") (by decide +kernel)) (fun _ h9 => h9) rfl dX12_table_11 ?_
  refine lv_if_eq (tgt := 20) hx hb dX12_table_14 (by decide) (fun _ => ?_) (fun h => absurd (by decide) h)
  refine lv_iconst (v := 0) hx hb dX12_table_20 (by decide) ?_
  refine lv_istore_n (lv' := [(2, .int 0), (1, .int 0), (0, .ref mo)]) hx hb dX12_table_21 rfl hl (by decide) rfl (fun ls hl => ?_)
  refine lv_iconst (v := 0) hx hb dX12_table_22 (by decide) ?_
  refine lv_istore_n (lv' := [(3, .int 0), (2, .int 0), (1, .int 0), (0, .ref mo)]) hx hb dX12_table_23 rfl hl (by decide) rfl (fun ls hl => ?_)
  refine lv_iload_n hx hb dX12_table_24 rfl (lv_at hl 0 rfl) ?_
  refine lv_iload_n hx hb dX12_table_25 rfl (lv_at hl 2 rfl) ?_
  refine lv_icmp_ge (tgt := 74) hx hb dX12_table_26 (by decide) (fun _ => ?_) (fun h => absurd (by decide) h)
  refine lv_iload_n hx hb dX12_table_74 rfl (lv_at hl 2 rfl) ?_
  refine lv_bipush (v := 8) hx hb dX12_table_75 (by decide) ?_
  refine lv_icmp_ne (tgt := 87) hx hb dX12_table_77 (by decide) (fun _ => ?_) (fun h => absurd h (by decide))
  refine lv_iconst (v := (-1)) hx hb dX12_table_87 (by decide) ?_
  exact W.iret (v := (-1)) hx hb hr (fun t ht hW => ⟨⟨(-1), (), rfl, by first | exact ⟨by first | rfl | exact xi_k (k := (-1)) (by decide) (by omega), by first | trivial | omega⟩, trivial⟩, hS.F ht⟩) hS.2.2 dX12_table_88
