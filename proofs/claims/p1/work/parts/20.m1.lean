set_option maxHeartbeats 4000000 in
set_option maxRecDepth 100000 in
theorem cX12_in_ (l : Launch) (dC : Nat → ClassId) (dI : Nat → Nat → Nat) (ws : va_W) (tys : List (ClassId × FieldType))  (v : Int64) (v_t : Int) (h_v : v.toInt = v_t) (a : Int64) (a_t : Int) (h_a : a.toInt = a_t) (b : Int64) (b_t : Int) (h_b : b.toInt = b_t)  : Met l yX12_in wsX12_in ({ frames := 1, cells := 0, slots := 0, locals := 64 }) (va_Pc [.long v, .long a, .long b] (xR (dC, dI) tys ws)) (vp_Si (fun r => (r = 1 ∧ a_t ≤ v_t ∧ v_t ≤ b_t) ∨ (r = 0 ∧ ¬ (a_t ≤ v_t ∧ v_t ≤ b_t)))) 0 0 (fun _ => False) := by
  refine Met.ofW (cc := cX12_in) (maxL := 6) (ret := (some .boolean)) (by decide) rfl ?_
  intro pr_ ev_ s m args below meth cd_ s₁ B hml hv
  obtain ⟨rfl, hE, hK, hP⟩ := hv
  have hx := B.exec
  have hb := B.bytes
  have hr := B.returns
  have hts := atoms_spec (ws := wsX12_in) B.pre
  have hown : s.vm.findClass RX12 = some m.cls := findClass_of_methodNamed B.named
  have hlocks := B.notSynchronized
  have hl := lv_entry ([.long v, .long a, .long b]) (n := 6) (Nat.le_of_ble_eq_true rfl)
  rw [lg_entry_eq]
  generalize (lg_sl ([.long v, .long a, .long b]) ++ List.replicate (6 - (lg_sl ([.long v, .long a, .long b])).length) Slot.unset).toArray = ls at hl ⊢
  have hl : lv_has ls 6 [(0, .long v), (2, .long a), (4, .long b)] := hl
  refine lv_lload_n hx hb dX12_in_0 rfl (lv_at hl 0 rfl) ?_
  refine lv_lload_n hx hb dX12_in_1 rfl (lv_at hl 1 rfl) ?_
  refine W.lcmp hx hb dX12_in_2 ?_
  refine lv_if_lt (tgt := 17) hx hb dX12_in_3 (by decide) (fun c1 => ?_) (fun c1 => ?_)
  · have ic1 : v.toInt < a.toInt := xl_lt c1
    refine lv_iconst (v := 0) hx hb dX12_in_17 (by decide) ?_
    exact W.zret (v := 0) hx hb hr (by decide) (fun t ht hW => ⟨0, rfl, by first | exact Or.inl ⟨by first | rfl | exact xi_k (k := 1) (by decide) (by omega), by first | trivial | omega⟩ | exact Or.inr (⟨by first | rfl | exact xi_k (k := 0) (by decide) (by omega), by first | trivial | omega⟩), ht⟩) (fun _ h => by cases h) dX12_in_18
  · have ic1 : a.toInt ≤ v.toInt := xl_nlt c1
    refine lv_lload_n hx hb dX12_in_6 rfl (lv_at hl 0 rfl) ?_
    refine lv_lload hx hb dX12_in_7 (lv_at hl 2 rfl) ?_
    refine W.lcmp hx hb dX12_in_9 ?_
    refine lv_if_gt (tgt := 17) hx hb dX12_in_10 (by decide) (fun c2 => ?_) (fun c2 => ?_)
    · have ic2 : b.toInt < v.toInt := xl_gt c2
      refine lv_iconst (v := 0) hx hb dX12_in_17 (by decide) ?_
      exact W.zret (v := 0) hx hb hr (by decide) (fun t ht hW => ⟨0, rfl, by first | exact Or.inl ⟨by first | rfl | exact xi_k (k := 1) (by decide) (by omega), by first | trivial | omega⟩ | exact Or.inr (⟨by first | rfl | exact xi_k (k := 0) (by decide) (by omega), by first | trivial | omega⟩), ht⟩) (fun _ h => by cases h) dX12_in_18
    · have ic2 : v.toInt ≤ b.toInt := xl_ngt c2
      refine lv_iconst (v := 1) hx hb dX12_in_13 (by decide) ?_
      refine lv_goto (tgt := 18) hx hb dX12_in_14 (by decide) ?_
      exact W.zret (v := 1) hx hb hr (by decide) (fun t ht hW => ⟨1, rfl, by first | exact Or.inl ⟨by first | rfl | exact xi_k (k := 1) (by decide) (by omega), by first | trivial | omega⟩ | exact Or.inr (⟨by first | rfl | exact xi_k (k := 0) (by decide) (by omega), by first | trivial | omega⟩), ht⟩) (fun _ h => by cases h) dX12_in_18
set_option maxHeartbeats 4000000 in
set_option maxRecDepth 100000 in
theorem cX12_isClub_ (l : Launch) (dC : Nat → ClassId) (dI : Nat → Nat → Nat) (ws : va_W) (tys : List (ClassId × FieldType))  (c : Int32) (c_t : Int) (h_c : c.toInt = c_t)  : Met l yX12_isClub wsX12_isClub ({ frames := 2, cells := 0, slots := 0, locals := 128 }) (va_Pc [.int c] (xR (dC, dI) tys ws)) (vp_Si (fun r => (r = 1 ∧ 0 ≤ c_t ∧ c_t ≤ 7) ∨ (r = 0 ∧ ¬ (0 ≤ c_t ∧ c_t ≤ 7)))) 0 0 (fun _ => False) := by
  refine Met.ofW (cc := cX12_isClub) (maxL := 1) (ret := (some .boolean)) (by decide) rfl ?_
  intro pr_ ev_ s m args below meth cd_ s₁ B hml hv
  obtain ⟨rfl, hE, hK, hP⟩ := hv
  have hx := B.exec
  have hb := B.bytes
  have hr := B.returns
  have hts := atoms_spec (ws := wsX12_isClub) B.pre
  have hown : s.vm.findClass RX12 = some m.cls := findClass_of_methodNamed B.named
  have hlocks := B.notSynchronized
  have hl := lv_entry ([.int c]) (n := 1) (Nat.le_of_ble_eq_true rfl)
  rw [lg_entry_eq]
  generalize (lg_sl ([.int c]) ++ List.replicate (1 - (lg_sl ([.int c])).length) Slot.unset).toArray = ls at hl ⊢
  have hl : lv_has ls 1 [(0, .int c)] := hl
  have lo_c := xi_lo c
  have hi_c := xi_hi c
  refine lv_iload_n hx hb dX12_isClub_0 rfl (lv_at hl 0 rfl) ?_
  refine lv_i2l hx hb dX12_isClub_1 rfl ?_
  refine lv_lconst (v := 0) hx hb dX12_isClub_2 (by decide) ?_
  refine lv_ldc2 (v := 7) hx hb hown (hts (.constantLong RX12 205 (7)) (by decide +kernel)) dX12_isClub_3 ?_
  refine vp_callSi (W.runS (As := [.long c.toInt64, .long 0, .long 7]) (rest := []) ⟨hx, hb, hml, hown, hts⟩ (cX12_in_ l dC dI ws tys c.toInt64 (c.toInt) (xi_64 c) 0 (0) (by decide) 7 (7) (by decide)) (va_cwS 3 hts gX12_isClub_X12_in rfl rfl rfl (by decide +kernel) ⟨Nat.le_of_ble_eq_true rfl, Nat.le_of_ble_eq_true rfl⟩) ⟨xR_blind _ _ _ _, xR_pre _ hE hK hP⟩ rfl rfl hl.1 rfl (lv_room (Nat.le_of_ble_eq_true rfl)) dX12_isClub_6 ⟨Nat.le_of_ble_eq_true rfl, Nat.le_of_ble_eq_true rfl⟩) (fun rh1 h1 => ?_)
  rcases h1 with ⟨rfl, h1⟩ | ⟨rfl, h1⟩
  · skip
    exact W.zret (v := 1) hx hb hr (by decide) (fun t ht hW => ⟨1, rfl, by first | exact Or.inl ⟨by first | rfl | exact xi_k (k := 1) (by decide) (by omega), by first | trivial | omega⟩ | exact Or.inr (⟨by first | rfl | exact xi_k (k := 0) (by decide) (by omega), by first | trivial | omega⟩), ht⟩) (fun _ h => by cases h) dX12_isClub_9
  · skip
    exact W.zret (v := 0) hx hb hr (by decide) (fun t ht hW => ⟨0, rfl, by first | exact Or.inl ⟨by first | rfl | exact xi_k (k := 1) (by decide) (by omega), by first | trivial | omega⟩ | exact Or.inr (⟨by first | rfl | exact xi_k (k := 0) (by decide) (by omega), by first | trivial | omega⟩), ht⟩) (fun _ h => by cases h) dX12_isClub_9
set_option maxHeartbeats 4000000 in
set_option maxRecDepth 100000 in
theorem cX12_isPlayer_ (l : Launch) (dC : Nat → ClassId) (dI : Nat → Nat → Nat) (ws : va_W) (tys : List (ClassId × FieldType)) {m_clubOf m_dead m_drawnOf m_drawnTo m_first m_from m_giver m_guard m_guarded m_hasChoice m_hasLaws m_isHurt m_isOut m_isTaken m_last m_laws m_moved m_owner m_pay m_purse m_ringClub m_ringGives m_rise m_sure m_table m_tape m_to m_toldClub m_toldGives m_triedClub m_triedGives m_usedSpare m_worths mo : Nat}  (p0 : Nat) (e0 : ws[p0]? = some (mo, .inr (12, [.ref m_tape, .int 0, .int 0, .int 0, .int 0, .int 0, .int 0, .int 0, .int 0, .int (-1), .ref m_laws, .ref m_hasLaws, .int 0, .int 0, .ref m_clubOf, .ref m_first, .ref m_last, .ref m_pay, .ref m_rise, .ref m_sure, .ref m_hasChoice, .ref m_isTaken, .ref m_isHurt, .ref m_dead, .ref m_usedSpare, .ref m_owner, .ref m_giver, .ref m_guarded, .ref m_drawnOf, .ref m_drawnTo, .int 0, .int 0, .ref m_table, .int 0, .ref m_moved, .ref m_from, .ref m_to, .ref m_guard, .ref m_worths, .ref m_ringClub, .ref m_ringGives, .int 0, .ref m_triedClub, .ref m_triedGives, .int 0, .int 0, .ref m_toldClub, .ref m_toldGives, .ref m_isOut, .ref m_purse, .int 0]))) (q : Int32) (q_t : Int) (h_q : q.toInt = q_t)  : Met l yX12_isPlayer wsX12_isPlayer ({ frames := 2, cells := 0, slots := 0, locals := 128 }) (va_Pc [.ref mo, .int q] (xR (dC, dI) tys ws)) (vp_Si (fun r => (r = 0 ∧ True))) 0 0 (fun _ => False) := by
  refine Met.ofW (cc := cX12_isPlayer) (maxL := 2) (ret := (some .boolean)) (by decide) rfl ?_
  intro pr_ ev_ s m args below meth cd_ s₁ B hml hv
  obtain ⟨rfl, hE, hK, hP⟩ := hv
  have hx := B.exec
  have hb := B.bytes
  have hr := B.returns
  have hts := atoms_spec (ws := wsX12_isPlayer) B.pre
  have hown : s.vm.findClass RX12 = some m.cls := findClass_of_methodNamed B.named
  have hlocks := B.notSynchronized
  have iX12 : ∀ w ∈ u_ws RX12 TX12 51, w ∈ wsX12_isPlayer := by decide +kernel
  have hl := lv_entry ([.ref mo, .int q]) (n := 2) (Nat.le_of_ble_eq_true rfl)
  rw [lg_entry_eq]
  generalize (lg_sl ([.ref mo, .int q]) ++ List.replicate (2 - (lg_sl ([.ref mo, .int q])).length) Slot.unset).toArray = ls at hl ⊢
  have hl : lv_has ls 2 [(0, .ref mo), (1, .int q)] := hl
  have lo_q := xi_lo q
  have hi_q := xi_hi q
  refine lv_iload_n hx hb dX12_isPlayer_0 rfl (lv_at hl 1 rfl) ?_
  refine lv_i2l hx hb dX12_isPlayer_1 rfl ?_
  refine lv_lconst (v := 0) hx hb dX12_isPlayer_2 (by decide) ?_
  refine lv_aload_n hx hb dX12_isPlayer_3 rfl (lv_at hl 0 rfl) ?_
  refine va_get (D := (dC, dI)) (ci := 12) (v := .int 0) (C := RX12) (T := TX12) (N := 51) hx hb hts iX12 hown hK hP p0 e0 rfl 13 (by decide) (hts (.fieldLink RX12 202 "CapLeagueModel" "players" "I") (by decide +kernel)) (fun _ h9 => h9) rfl dX12_isPlayer_4 ?_
  refine lv_iconst (v := 1) hx hb dX12_isPlayer_7 (by decide) ?_
  refine lv_isub hx hb dX12_isPlayer_8 ?_
  refine xw_i (v := (-1)) (by decide) ?_
  refine lv_i2l (v := (-1)) hx hb dX12_isPlayer_9 (by decide) ?_
  refine vp_callSi (W.runS (As := [.long q.toInt64, .long 0, .long (-1)]) (rest := []) ⟨hx, hb, hml, hown, hts⟩ (cX12_in_ l dC dI ws tys q.toInt64 (q.toInt) (xi_64 q) 0 (0) (by decide) (-1) ((-1)) (by decide)) (va_cwS 3 hts gX12_isPlayer_X12_in rfl rfl rfl (by decide +kernel) ⟨Nat.le_of_ble_eq_true rfl, Nat.le_of_ble_eq_true rfl⟩) ⟨xR_blind _ _ _ _, xR_pre _ hE hK hP⟩ rfl rfl hl.1 rfl (lv_room (Nat.le_of_ble_eq_true rfl)) dX12_isPlayer_10 ⟨Nat.le_of_ble_eq_true rfl, Nat.le_of_ble_eq_true rfl⟩) (fun rh1 h1 => ?_)
  rcases h1 with ⟨rfl, h1⟩ | ⟨rfl, h1⟩
  · skip
    exact absurd h1 (by omega)
  · skip
    exact W.zret (v := 0) hx hb hr (by decide) (fun t ht hW => ⟨0, rfl, by first | exact ⟨by first | rfl | exact xi_k (k := 0) (by decide) (by omega), by first | trivial | omega⟩, ht⟩) (fun _ h => by cases h) dX12_isPlayer_13
set_option maxHeartbeats 4000000 in
set_option maxRecDepth 100000 in
theorem cX12_manyOf_ (l : Launch) (dC : Nat → ClassId) (dI : Nat → Nat → Nat) (ws : va_W) (tys : List (ClassId × FieldType)) {m_clubOf m_dead m_drawnOf m_drawnTo m_first m_from m_giver m_guard m_guarded m_hasChoice m_hasLaws m_isHurt m_isOut m_isTaken m_last m_laws m_moved m_owner m_pay m_purse m_ringClub m_ringGives m_rise m_sure m_table m_tape m_to m_toldClub m_toldGives m_triedClub m_triedGives m_usedSpare m_worths mo : Nat}  (p0 : Nat) (e0 : ws[p0]? = some (mo, .inr (12, [.ref m_tape, .int 0, .int 0, .int 0, .int 0, .int 0, .int 0, .int 0, .int 0, .int (-1), .ref m_laws, .ref m_hasLaws, .int 0, .int 0, .ref m_clubOf, .ref m_first, .ref m_last, .ref m_pay, .ref m_rise, .ref m_sure, .ref m_hasChoice, .ref m_isTaken, .ref m_isHurt, .ref m_dead, .ref m_usedSpare, .ref m_owner, .ref m_giver, .ref m_guarded, .ref m_drawnOf, .ref m_drawnTo, .int 0, .int 0, .ref m_table, .int 0, .ref m_moved, .ref m_from, .ref m_to, .ref m_guard, .ref m_worths, .ref m_ringClub, .ref m_ringGives, .int 0, .ref m_triedClub, .ref m_triedGives, .int 0, .int 0, .ref m_toldClub, .ref m_toldGives, .ref m_isOut, .ref m_purse, .int 0]))) (c : Int32) (c_t : Int) (h_c : c.toInt = c_t) (y : Int32) (y_t : Int) (h_y : y.toInt = y_t)  : Met l yX12_manyOf wsX12_manyOf ({ frames := 2, cells := 0, slots := 0, locals := 128 }) (va_Pc [.ref mo, .int c, .int y] (xR (dC, dI) tys ws)) (vp_Si (fun r => (r = 0 ∧ True))) 0 0 (fun _ => False) := by
  refine Met.ofW (cc := cX12_manyOf) (maxL := 5) (ret := (some .int)) (by decide) rfl ?_
  intro pr_ ev_ s m args below meth cd_ s₁ B hml hv
  obtain ⟨rfl, hE, hK, hP⟩ := hv
  have hx := B.exec
  have hb := B.bytes
  have hr := B.returns
  have hts := atoms_spec (ws := wsX12_manyOf) B.pre
  have hown : s.vm.findClass RX12 = some m.cls := findClass_of_methodNamed B.named
  have hlocks := B.notSynchronized
  have iX12 : ∀ w ∈ u_ws RX12 TX12 51, w ∈ wsX12_manyOf := by decide +kernel
  have hl := lv_entry ([.ref mo, .int c, .int y]) (n := 5) (Nat.le_of_ble_eq_true rfl)
  rw [lg_entry_eq]
  generalize (lg_sl ([.ref mo, .int c, .int y]) ++ List.replicate (5 - (lg_sl ([.ref mo, .int c, .int y])).length) Slot.unset).toArray = ls at hl ⊢
  have hl : lv_has ls 5 [(0, .ref mo), (1, .int c), (2, .int y)] := hl
  have lo_c := xi_lo c
  have hi_c := xi_hi c
  have lo_y := xi_lo y
  have hi_y := xi_hi y
  refine lv_iconst (v := 0) hx hb dX12_manyOf_0 (by decide) ?_
  refine lv_istore_n (lv' := [(3, .int 0), (0, .ref mo), (1, .int c), (2, .int y)]) hx hb dX12_manyOf_1 rfl hl (by decide) rfl (fun ls hl => ?_)
  refine lv_iconst (v := 0) hx hb dX12_manyOf_2 (by decide) ?_
  refine lv_istore (lv' := [(4, .int 0), (3, .int 0), (0, .ref mo), (1, .int c), (2, .int y)]) hx hb dX12_manyOf_3 hl (by decide) rfl (fun ls hl => ?_)
  refine lv_iload hx hb dX12_manyOf_5 (lv_at hl 0 rfl) ?_
  refine lv_aload_n hx hb dX12_manyOf_7 rfl (lv_at hl 2 rfl) ?_
  refine va_get (D := (dC, dI)) (ci := 12) (v := .int 0) (C := RX12) (T := TX12) (N := 51) hx hb hts iX12 hown hK hP p0 e0 rfl 13 (by decide) (hts (.fieldLink RX12 202 "CapLeagueModel" "players" "I") (by decide +kernel)) (fun _ h9 => h9) rfl dX12_manyOf_8 ?_
  refine lv_icmp_ge (tgt := 49) hx hb dX12_manyOf_11 (by decide) (fun _ => ?_) (fun h => absurd (by decide) h)
  refine lv_iload_n hx hb dX12_manyOf_49 rfl (lv_at hl 1 rfl) ?_
  exact W.iret (v := 0) hx hb hr (fun t ht hW => ⟨0, rfl, by first | exact ⟨by first | rfl | exact xi_k (k := 0) (by decide) (by omega), by first | trivial | omega⟩, ht⟩) (fun _ h => by cases h) dX12_manyOf_50
set_option maxHeartbeats 4000000 in
set_option maxRecDepth 100000 in
theorem cX12_isMoved_ (l : Launch) (dC : Nat → ClassId) (dI : Nat → Nat → Nat) (ws : va_W) (tys : List (ClassId × FieldType)) {m_clubOf m_dead m_drawnOf m_drawnTo m_first m_from m_giver m_guard m_guarded m_hasChoice m_hasLaws m_isHurt m_isOut m_isTaken m_last m_laws m_moved m_owner m_pay m_purse m_ringClub m_ringGives m_rise m_sure m_table m_tape m_to m_toldClub m_toldGives m_triedClub m_triedGives m_usedSpare m_worths mo : Nat}  (p0 : Nat) (e0 : ws[p0]? = some (mo, .inr (12, [.ref m_tape, .int 0, .int 0, .int 0, .int 0, .int 0, .int 0, .int 0, .int 0, .int (-1), .ref m_laws, .ref m_hasLaws, .int 0, .int 0, .ref m_clubOf, .ref m_first, .ref m_last, .ref m_pay, .ref m_rise, .ref m_sure, .ref m_hasChoice, .ref m_isTaken, .ref m_isHurt, .ref m_dead, .ref m_usedSpare, .ref m_owner, .ref m_giver, .ref m_guarded, .ref m_drawnOf, .ref m_drawnTo, .int 0, .int 0, .ref m_table, .int 0, .ref m_moved, .ref m_from, .ref m_to, .ref m_guard, .ref m_worths, .ref m_ringClub, .ref m_ringGives, .int 0, .ref m_triedClub, .ref m_triedGives, .int 0, .int 0, .ref m_toldClub, .ref m_toldGives, .ref m_isOut, .ref m_purse, .int 0]))) (q : Int32) (q_t : Int) (h_q : q.toInt = q_t)  : Met l yX12_isMoved wsX12_isMoved ({ frames := 1, cells := 0, slots := 0, locals := 64 }) (va_Pc [.ref mo, .int q] (xR (dC, dI) tys ws)) (vp_Si (fun r => (r = 0 ∧ True))) 0 0 (fun _ => False) := by
  refine Met.ofW (cc := cX12_isMoved) (maxL := 3) (ret := (some .boolean)) (by decide) rfl ?_
  intro pr_ ev_ s m args below meth cd_ s₁ B hml hv
  obtain ⟨rfl, hE, hK, hP⟩ := hv
  have hx := B.exec
  have hb := B.bytes
  have hr := B.returns
  have hts := atoms_spec (ws := wsX12_isMoved) B.pre
  have hown : s.vm.findClass RX12 = some m.cls := findClass_of_methodNamed B.named
  have hlocks := B.notSynchronized
  have iX12 : ∀ w ∈ u_ws RX12 TX12 51, w ∈ wsX12_isMoved := by decide +kernel
  have hl := lv_entry ([.ref mo, .int q]) (n := 3) (Nat.le_of_ble_eq_true rfl)
  rw [lg_entry_eq]
  generalize (lg_sl ([.ref mo, .int q]) ++ List.replicate (3 - (lg_sl ([.ref mo, .int q])).length) Slot.unset).toArray = ls at hl ⊢
  have hl : lv_has ls 3 [(0, .ref mo), (1, .int q)] := hl
  have lo_q := xi_lo q
  have hi_q := xi_hi q
  refine lv_iconst (v := 0) hx hb dX12_isMoved_0 (by decide) ?_
  refine lv_istore_n (lv' := [(2, .int 0), (0, .ref mo), (1, .int q)]) hx hb dX12_isMoved_1 rfl hl (by decide) rfl (fun ls hl => ?_)
  refine lv_iload_n hx hb dX12_isMoved_2 rfl (lv_at hl 0 rfl) ?_
  refine lv_aload_n hx hb dX12_isMoved_3 rfl (lv_at hl 1 rfl) ?_
  refine va_get (D := (dC, dI)) (ci := 12) (v := .int 0) (C := RX12) (T := TX12) (N := 51) hx hb hts iX12 hown hK hP p0 e0 rfl 33 (by decide) (hts (.fieldLink RX12 247 "CapLeagueModel" "moves" "I") (by decide +kernel)) (fun _ h9 => h9) rfl dX12_isMoved_4 ?_
  refine lv_icmp_ge (tgt := 28) hx hb dX12_isMoved_7 (by decide) (fun _ => ?_) (fun h => absurd (by decide) h)
  refine lv_iconst (v := 0) hx hb dX12_isMoved_28 (by decide) ?_
  exact W.zret (v := 0) hx hb hr (by decide) (fun t ht hW => ⟨0, rfl, by first | exact ⟨by first | rfl | exact xi_k (k := 0) (by decide) (by omega), by first | trivial | omega⟩, ht⟩) (fun _ h => by cases h) dX12_isMoved_29
set_option maxHeartbeats 4000000 in
set_option maxRecDepth 100000 in
theorem cX12_clubsOf_ (l : Launch) (dC : Nat → ClassId) (dI : Nat → Nat → Nat) (ws : va_W) (tys : List (ClassId × FieldType)) {m_clubOf m_dead m_drawnOf m_drawnTo m_first m_from m_giver m_guard m_guarded m_hasChoice m_hasLaws m_isHurt m_isOut m_isTaken m_last m_laws m_moved m_owner m_pay m_purse m_ringClub m_ringGives m_rise m_sure m_table m_tape m_to m_toldClub m_toldGives m_triedClub m_triedGives m_usedSpare m_worths mo : Nat}  (p0 : Nat) (e0 : ws[p0]? = some (mo, .inr (12, [.ref m_tape, .int 0, .int 0, .int 0, .int 0, .int 0, .int 0, .int 0, .int 0, .int (-1), .ref m_laws, .ref m_hasLaws, .int 0, .int 0, .ref m_clubOf, .ref m_first, .ref m_last, .ref m_pay, .ref m_rise, .ref m_sure, .ref m_hasChoice, .ref m_isTaken, .ref m_isHurt, .ref m_dead, .ref m_usedSpare, .ref m_owner, .ref m_giver, .ref m_guarded, .ref m_drawnOf, .ref m_drawnTo, .int 0, .int 0, .ref m_table, .int 0, .ref m_moved, .ref m_from, .ref m_to, .ref m_guard, .ref m_worths, .ref m_ringClub, .ref m_ringGives, .int 0, .ref m_triedClub, .ref m_triedGives, .int 0, .int 0, .ref m_toldClub, .ref m_toldGives, .ref m_isOut, .ref m_purse, .int 0])))   : Met l yX12_clubsOf wsX12_clubsOf ({ frames := 1, cells := 0, slots := 0, locals := 64 }) (va_Pc [.ref mo] (xR (dC, dI) tys ws)) (vp_Si (fun r => (r = 0 ∧ True))) 0 0 (fun _ => False) := by
  refine Met.ofW (cc := cX12_clubsOf) (maxL := 3) (ret := (some .int)) (by decide) rfl ?_
  intro pr_ ev_ s m args below meth cd_ s₁ B hml hv
  obtain ⟨rfl, hE, hK, hP⟩ := hv
  have hx := B.exec
  have hb := B.bytes
  have hr := B.returns
  have hts := atoms_spec (ws := wsX12_clubsOf) B.pre
  have hown : s.vm.findClass RX12 = some m.cls := findClass_of_methodNamed B.named
  have hlocks := B.notSynchronized
  have iX12 : ∀ w ∈ u_ws RX12 TX12 51, w ∈ wsX12_clubsOf := by decide +kernel
  have hl := lv_entry ([.ref mo]) (n := 3) (Nat.le_of_ble_eq_true rfl)
  rw [lg_entry_eq]
  generalize (lg_sl ([.ref mo]) ++ List.replicate (3 - (lg_sl ([.ref mo])).length) Slot.unset).toArray = ls at hl ⊢
  have hl : lv_has ls 3 [(0, .ref mo)] := hl
  refine lv_iconst (v := 0) hx hb dX12_clubsOf_0 (by decide) ?_
  refine lv_istore_n (lv' := [(1, .int 0), (0, .ref mo)]) hx hb dX12_clubsOf_1 rfl hl (by decide) rfl (fun ls hl => ?_)
  refine lv_iconst (v := 0) hx hb dX12_clubsOf_2 (by decide) ?_
  refine lv_istore_n (lv' := [(2, .int 0), (1, .int 0), (0, .ref mo)]) hx hb dX12_clubsOf_3 rfl hl (by decide) rfl (fun ls hl => ?_)
  refine lv_iload_n hx hb dX12_clubsOf_4 rfl (lv_at hl 0 rfl) ?_
  refine lv_aload_n hx hb dX12_clubsOf_5 rfl (lv_at hl 2 rfl) ?_
  refine va_get (D := (dC, dI)) (ci := 12) (v := .int 0) (C := RX12) (T := TX12) (N := 51) hx hb hts iX12 hown hK hP p0 e0 rfl 33 (by decide) (hts (.fieldLink RX12 247 "CapLeagueModel" "moves" "I") (by decide +kernel)) (fun _ h9 => h9) rfl dX12_clubsOf_6 ?_
  refine lv_icmp_ge (tgt := 38) hx hb dX12_clubsOf_9 (by decide) (fun _ => ?_) (fun h => absurd (by decide) h)
  refine lv_iload_n hx hb dX12_clubsOf_38 rfl (lv_at hl 1 rfl) ?_
  exact W.iret (v := 0) hx hb hr (fun t ht hW => ⟨0, rfl, by first | exact ⟨by first | rfl | exact xi_k (k := 0) (by decide) (by omega), by first | trivial | omega⟩, ht⟩) (fun _ h => by cases h) dX12_clubsOf_39
set_option maxHeartbeats 4000000 in
set_option maxRecDepth 100000 in
theorem cX12_gainOf_ (l : Launch) (dC : Nat → ClassId) (dI : Nat → Nat → Nat) (ws : va_W) (tys : List (ClassId × FieldType)) {m_clubOf m_dead m_drawnOf m_drawnTo m_first m_from m_giver m_guard m_guarded m_hasChoice m_hasLaws m_isHurt m_isOut m_isTaken m_last m_laws m_moved m_owner m_pay m_purse m_ringClub m_ringGives m_rise m_sure m_table m_tape m_to m_toldClub m_toldGives m_triedClub m_triedGives m_usedSpare m_worths mo : Nat}  (p0 : Nat) (e0 : ws[p0]? = some (mo, .inr (12, [.ref m_tape, .int 0, .int 0, .int 0, .int 0, .int 0, .int 0, .int 0, .int 0, .int (-1), .ref m_laws, .ref m_hasLaws, .int 0, .int 0, .ref m_clubOf, .ref m_first, .ref m_last, .ref m_pay, .ref m_rise, .ref m_sure, .ref m_hasChoice, .ref m_isTaken, .ref m_isHurt, .ref m_dead, .ref m_usedSpare, .ref m_owner, .ref m_giver, .ref m_guarded, .ref m_drawnOf, .ref m_drawnTo, .int 0, .int 0, .ref m_table, .int 0, .ref m_moved, .ref m_from, .ref m_to, .ref m_guard, .ref m_worths, .ref m_ringClub, .ref m_ringGives, .int 0, .ref m_triedClub, .ref m_triedGives, .int 0, .int 0, .ref m_toldClub, .ref m_toldGives, .ref m_isOut, .ref m_purse, .int 0]))) (c : Int32) (c_t : Int) (h_c : c.toInt = c_t)  : Met l yX12_gainOf wsX12_gainOf ({ frames := 1, cells := 0, slots := 0, locals := 64 }) (va_Pc [.ref mo, .int c] (xR (dC, dI) tys ws)) (vp_Si (fun r => (r = 0 ∧ True))) 0 0 (fun _ => False) := by
  refine Met.ofW (cc := cX12_gainOf) (maxL := 4) (ret := (some .int)) (by decide) rfl ?_
  intro pr_ ev_ s m args below meth cd_ s₁ B hml hv
  obtain ⟨rfl, hE, hK, hP⟩ := hv
  have hx := B.exec
  have hb := B.bytes
  have hr := B.returns
  have hts := atoms_spec (ws := wsX12_gainOf) B.pre
  have hown : s.vm.findClass RX12 = some m.cls := findClass_of_methodNamed B.named
  have hlocks := B.notSynchronized
  have iX12 : ∀ w ∈ u_ws RX12 TX12 51, w ∈ wsX12_gainOf := by decide +kernel
  have hl := lv_entry ([.ref mo, .int c]) (n := 4) (Nat.le_of_ble_eq_true rfl)
  rw [lg_entry_eq]
  generalize (lg_sl ([.ref mo, .int c]) ++ List.replicate (4 - (lg_sl ([.ref mo, .int c])).length) Slot.unset).toArray = ls at hl ⊢
  have hl : lv_has ls 4 [(0, .ref mo), (1, .int c)] := hl
  have lo_c := xi_lo c
  have hi_c := xi_hi c
  refine lv_iconst (v := 0) hx hb dX12_gainOf_0 (by decide) ?_
  refine lv_istore_n (lv' := [(2, .int 0), (0, .ref mo), (1, .int c)]) hx hb dX12_gainOf_1 rfl hl (by decide) rfl (fun ls hl => ?_)
  refine lv_iconst (v := 0) hx hb dX12_gainOf_2 (by decide) ?_
  refine lv_istore_n (lv' := [(3, .int 0), (2, .int 0), (0, .ref mo), (1, .int c)]) hx hb dX12_gainOf_3 rfl hl (by decide) rfl (fun ls hl => ?_)
  refine lv_iload_n hx hb dX12_gainOf_4 rfl (lv_at hl 0 rfl) ?_
  refine lv_aload_n hx hb dX12_gainOf_5 rfl (lv_at hl 2 rfl) ?_
  refine va_get (D := (dC, dI)) (ci := 12) (v := .int 0) (C := RX12) (T := TX12) (N := 51) hx hb hts iX12 hown hK hP p0 e0 rfl 33 (by decide) (hts (.fieldLink RX12 247 "CapLeagueModel" "moves" "I") (by decide +kernel)) (fun _ h9 => h9) rfl dX12_gainOf_6 ?_
  refine lv_icmp_ge (tgt := 72) hx hb dX12_gainOf_9 (by decide) (fun _ => ?_) (fun h => absurd (by decide) h)
  refine lv_iload_n hx hb dX12_gainOf_72 rfl (lv_at hl 1 rfl) ?_
  exact W.iret (v := 0) hx hb hr (fun t ht hW => ⟨0, rfl, by first | exact ⟨by first | rfl | exact xi_k (k := 0) (by decide) (by omega), by first | trivial | omega⟩, ht⟩) (fun _ h => by cases h) dX12_gainOf_73
set_option maxHeartbeats 4000000 in
set_option maxRecDepth 100000 in
theorem cX12_counts_ (l : Launch) (dC : Nat → ClassId) (dI : Nat → Nat → Nat) (ws : va_W) (tys : List (ClassId × FieldType)) {m_clubOf m_dead m_drawnOf m_drawnTo m_first m_from m_giver m_guard m_guarded m_hasChoice m_hasLaws m_isHurt m_isOut m_isTaken m_last m_laws m_moved m_owner m_pay m_purse m_ringClub m_ringGives m_rise m_sure m_table m_tape m_to m_toldClub m_toldGives m_triedClub m_triedGives m_usedSpare m_worths mo : Nat} {k_dead : ClassId}  (p0 : Nat) (e0 : ws[p0]? = some (mo, .inr (12, [.ref m_tape, .int 0, .int 0, .int 0, .int 0, .int 0, .int 0, .int 0, .int 0, .int (-1), .ref m_laws, .ref m_hasLaws, .int 0, .int 0, .ref m_clubOf, .ref m_first, .ref m_last, .ref m_pay, .ref m_rise, .ref m_sure, .ref m_hasChoice, .ref m_isTaken, .ref m_isHurt, .ref m_dead, .ref m_usedSpare, .ref m_owner, .ref m_giver, .ref m_guarded, .ref m_drawnOf, .ref m_drawnTo, .int 0, .int 0, .ref m_table, .int 0, .ref m_moved, .ref m_from, .ref m_to, .ref m_guard, .ref m_worths, .ref m_ringClub, .ref m_ringGives, .int 0, .ref m_triedClub, .ref m_triedGives, .int 0, .int 0, .ref m_toldClub, .ref m_toldGives, .ref m_isOut, .ref m_purse, .int 0]))) (p1 : Nat) (e1 : ws[p1]? = some (m_dead, .inl (k_dead, 80, .inl (fun _ => 0)))) (t1 : Nat) (y1 : tys[t1]? = some (k_dead, .int)) (c : Int32) (c_t : Int) (h_c : c.toInt = c_t) (y : Int32) (y_t : Int) (h_y : y.toInt = y_t) (hc0 : 0 ≤ c_t) (hc1 : c_t ≤ 7) (hy0 : 0 ≤ y_t) (hy1 : y_t ≤ 9) : Met l yX12_counts wsX12_counts ({ frames := 2, cells := 0, slots := 0, locals := 128 }) (va_Pc [.ref mo, .int c, .int y] (xR (dC, dI) tys ws)) (vp_Si (fun r => (r = 0 ∧ True))) 0 0 (fun _ => False) := by
  refine Met.ofW (cc := cX12_counts) (maxL := 5) (ret := (some .int)) (by decide) rfl ?_
  intro pr_ ev_ s m args below meth cd_ s₁ B hml hv
  obtain ⟨rfl, hE, hK, hP⟩ := hv
  have hx := B.exec
  have hb := B.bytes
  have hr := B.returns
  have hts := atoms_spec (ws := wsX12_counts) B.pre
  have hown : s.vm.findClass RX12 = some m.cls := findClass_of_methodNamed B.named
  have hlocks := B.notSynchronized
  have iX12 : ∀ w ∈ u_ws RX12 TX12 51, w ∈ wsX12_counts := by decide +kernel
  have hl := lv_entry ([.ref mo, .int c, .int y]) (n := 5) (Nat.le_of_ble_eq_true rfl)
  rw [lg_entry_eq]
  generalize (lg_sl ([.ref mo, .int c, .int y]) ++ List.replicate (5 - (lg_sl ([.ref mo, .int c, .int y])).length) Slot.unset).toArray = ls at hl ⊢
  have hl : lv_has ls 5 [(0, .ref mo), (1, .int c), (2, .int y)] := hl
  have lo_c := xi_lo c
  have hi_c := xi_hi c
  have lo_y := xi_lo y
  have hi_y := xi_hi y
  refine lv_aload_n hx hb dX12_counts_0 rfl (lv_at hl 0 rfl) ?_
  refine va_get (D := (dC, dI)) (ci := 12) (v := .ref m_dead) (C := RX12) (T := TX12) (N := 51) hx hb hts iX12 hown hK hP p0 e0 rfl 23 (by decide) (hts (.fieldLink RX12 52 "CapLeagueModel" "dead" "[I") (by decide +kernel)) (fun _ h9 => h9) rfl dX12_counts_1 ?_
  refine lv_bipush (v := 10) hx hb dX12_counts_4 (by decide) ?_
  refine lv_iload_n hx hb dX12_counts_6 rfl (lv_at hl 1 rfl) ?_
  refine lv_imul hx hb dX12_counts_7 ?_
  refine lv_topi (fun v1 ev1 => ?_)
  have jv1 : v1.toInt = 10 * c.toInt := xi_mul ev1 (by decide) rfl (by omega) (by omega)
  refine lv_iload_n hx hb dX12_counts_8 rfl (lv_at hl 2 rfl) ?_
  refine lv_iadd hx hb dX12_counts_9 ?_
  refine lv_topi (fun v2 ev2 => ?_)
  have jv2 : v2.toInt = v1.toInt + y.toInt := xi_add ev2 rfl rfl (by omega) (by omega)
  refine va_iald (D := (dC, dI)) hx hb hK hP p1 t1 e1 y1 (xi_in (by omega) (by omega)) dX12_counts_10 ?_
  refine xw_i (v := 0) rfl ?_
  refine lv_istore_n (lv' := [(3, .int 0), (0, .ref mo), (1, .int c), (2, .int y)]) hx hb dX12_counts_11 rfl hl (by decide) rfl (fun ls hl => ?_)
  refine lv_iconst (v := 0) hx hb dX12_counts_12 (by decide) ?_
  refine lv_istore (lv' := [(4, .int 0), (3, .int 0), (0, .ref mo), (1, .int c), (2, .int y)]) hx hb dX12_counts_13 hl (by decide) rfl (fun ls hl => ?_)
  refine lv_iload hx hb dX12_counts_15 (lv_at hl 0 rfl) ?_
  refine lv_aload_n hx hb dX12_counts_17 rfl (lv_at hl 2 rfl) ?_
  refine va_get (D := (dC, dI)) (ci := 12) (v := .int 0) (C := RX12) (T := TX12) (N := 51) hx hb hts iX12 hown hK hP p0 e0 rfl 13 (by decide) (hts (.fieldLink RX12 202 "CapLeagueModel" "players" "I") (by decide +kernel)) (fun _ h9 => h9) rfl dX12_counts_18 ?_
  refine lv_icmp_ge (tgt := 55) hx hb dX12_counts_21 (by decide) (fun _ => ?_) (fun h => absurd (by decide) h)
  refine lv_iload_n hx hb dX12_counts_55 rfl (lv_at hl 1 rfl) ?_
  exact W.iret (v := 0) hx hb hr (fun t ht hW => ⟨0, rfl, by first | exact ⟨by first | rfl | exact xi_k (k := 0) (by decide) (by omega), by first | trivial | omega⟩, ht⟩) (fun _ h => by cases h) dX12_counts_56
set_option maxHeartbeats 4000000 in
set_option maxRecDepth 100000 in
theorem cX12_isDeal_ (l : Launch) (dC : Nat → ClassId) (dI : Nat → Nat → Nat) (ws : va_W) (tys : List (ClassId × FieldType)) {m_clubOf m_dead m_drawnOf m_drawnTo m_first m_from m_giver m_guard m_guarded m_hasChoice m_hasLaws m_isHurt m_isOut m_isTaken m_last m_laws m_moved m_owner m_pay m_purse m_ringClub m_ringGives m_rise m_sure m_table m_tape m_to m_toldClub m_toldGives m_triedClub m_triedGives m_usedSpare m_worths mo : Nat}  (p0 : Nat) (e0 : ws[p0]? = some (mo, .inr (12, [.ref m_tape, .int 0, .int 0, .int 0, .int 0, .int 0, .int 0, .int 0, .int 0, .int (-1), .ref m_laws, .ref m_hasLaws, .int 0, .int 0, .ref m_clubOf, .ref m_first, .ref m_last, .ref m_pay, .ref m_rise, .ref m_sure, .ref m_hasChoice, .ref m_isTaken, .ref m_isHurt, .ref m_dead, .ref m_usedSpare, .ref m_owner, .ref m_giver, .ref m_guarded, .ref m_drawnOf, .ref m_drawnTo, .int 0, .int 0, .ref m_table, .int 0, .ref m_moved, .ref m_from, .ref m_to, .ref m_guard, .ref m_worths, .ref m_ringClub, .ref m_ringGives, .int 0, .ref m_triedClub, .ref m_triedGives, .int 0, .int 0, .ref m_toldClub, .ref m_toldGives, .ref m_isOut, .ref m_purse, .int 0]))) (q : Int32) (q_t : Int) (h_q : q.toInt = q_t) (c : Int32) (c_t : Int) (h_c : c.toInt = c_t) (y : Int32) (y_t : Int) (h_y : y.toInt = y_t) (n : Int32) (n_t : Int) (h_n : n.toInt = n_t) (u : Int32) (u_t : Int) (h_u : u.toInt = u_t) (p_ : Int32) (p__t : Int) (h_p_ : p_.toInt = p__t) (b : Int32) (b_t : Int) (h_b : b.toInt = b_t)  : Met l yX12_isDeal wsX12_isDeal ({ frames := 3, cells := 0, slots := 0, locals := 192 }) (va_Pc [.ref mo, .int q, .int c, .int y, .int n, .int u, .int p_, .int b] (xR (dC, dI) tys ws)) (vp_Si (fun r => (r = 0 ∧ True))) 0 0 (fun _ => False) := by
  refine Met.ofW (cc := cX12_isDeal) (maxL := 8) (ret := (some .boolean)) (by decide) rfl ?_
  intro pr_ ev_ s m args below meth cd_ s₁ B hml hv
  obtain ⟨rfl, hE, hK, hP⟩ := hv
  have hx := B.exec
  have hb := B.bytes
  have hr := B.returns
  have hts := atoms_spec (ws := wsX12_isDeal) B.pre
  have hown : s.vm.findClass RX12 = some m.cls := findClass_of_methodNamed B.named
  have hlocks := B.notSynchronized
  have hl := lv_entry ([.ref mo, .int q, .int c, .int y, .int n, .int u, .int p_, .int b]) (n := 8) (Nat.le_of_ble_eq_true rfl)
  rw [lg_entry_eq]
  generalize (lg_sl ([.ref mo, .int q, .int c, .int y, .int n, .int u, .int p_, .int b]) ++ List.replicate (8 - (lg_sl ([.ref mo, .int q, .int c, .int y, .int n, .int u, .int p_, .int b])).length) Slot.unset).toArray = ls at hl ⊢
  have hl : lv_has ls 8 [(0, .ref mo), (1, .int q), (2, .int c), (3, .int y), (4, .int n), (5, .int u), (6, .int p_), (7, .int b)] := hl
  have lo_q := xi_lo q
  have hi_q := xi_hi q
  have lo_c := xi_lo c
  have hi_c := xi_hi c
  have lo_y := xi_lo y
  have hi_y := xi_hi y
  have lo_n := xi_lo n
  have hi_n := xi_hi n
  have lo_u := xi_lo u
  have hi_u := xi_hi u
  have lo_p_ := xi_lo p_
  have hi_p_ := xi_hi p_
  have lo_b := xi_lo b
  have hi_b := xi_hi b
  refine lv_aload_n hx hb dX12_isDeal_0 rfl (lv_at hl 0 rfl) ?_
  refine lv_iload_n hx hb dX12_isDeal_1 rfl (lv_at hl 1 rfl) ?_
  refine vp_callSi (W.runV (As := [.int q]) (rest := []) ⟨hx, hb, hml, hown, hts⟩ (cX12_isPlayer_ l dC dI ws tys p0 e0 q (q.toInt) rfl) (cwV 1 hts gX12_isDeal_X12_isPlayer rfl rfl rfl (by decide +kernel) ⟨Nat.le_of_ble_eq_true rfl, Nat.le_of_ble_eq_true rfl⟩) ⟨xR_blind _ _ _ _, va_recv hK hP (ci := 12) (q0 := p0) rfl e0, xR_pre _ hE hK hP⟩ rfl rfl hl.1 rfl (lv_room (Nat.le_of_ble_eq_true rfl)) dX12_isDeal_2 ⟨Nat.le_of_ble_eq_true rfl, Nat.le_of_ble_eq_true rfl⟩) (fun rh1 h1 => ?_)
  obtain ⟨rfl, h1⟩ := h1
  refine lv_if_eq (tgt := 82) hx hb dX12_isDeal_5 (by decide) (fun _ => ?_) (fun h => absurd (by decide) h)
  refine lv_iconst (v := 0) hx hb dX12_isDeal_82 (by decide) ?_
  exact W.zret (v := 0) hx hb hr (by decide) (fun t ht hW => ⟨0, rfl, by first | exact ⟨by first | rfl | exact xi_k (k := 0) (by decide) (by omega), by first | trivial | omega⟩, ht⟩) (fun _ h => by cases h) dX12_isDeal_83
set_option maxHeartbeats 4000000 in
set_option maxRecDepth 100000 in
theorem mX_fault (l : Launch) (dC : Nat → ClassId) (dI : Nat → Nat → Nat) (ws : va_W) (tys : List (ClassId × FieldType)) {m_clubOf m_dead m_drawnOf m_drawnTo m_first m_from m_giver m_guard m_guarded m_hasChoice m_hasLaws m_isHurt m_isOut m_isTaken m_last m_laws m_moved m_owner m_pay m_purse m_ringClub m_ringGives m_rise m_sure m_table m_tape m_to m_toldClub m_toldGives m_triedClub m_triedGives m_usedSpare m_worths mo : Nat}  (p0 : Nat) (e0 : ws[p0]? = some (mo, .inr (12, [.ref m_tape, .int 0, .int 0, .int 0, .int 0, .int 0, .int 0, .int 0, .int 0, .int (-1), .ref m_laws, .ref m_hasLaws, .int 0, .int 0, .ref m_clubOf, .ref m_first, .ref m_last, .ref m_pay, .ref m_rise, .ref m_sure, .ref m_hasChoice, .ref m_isTaken, .ref m_isHurt, .ref m_dead, .ref m_usedSpare, .ref m_owner, .ref m_giver, .ref m_guarded, .ref m_drawnOf, .ref m_drawnTo, .int 0, .int 0, .ref m_table, .int 0, .ref m_moved, .ref m_from, .ref m_to, .ref m_guard, .ref m_worths, .ref m_ringClub, .ref m_ringGives, .int 0, .ref m_triedClub, .ref m_triedGives, .int 0, .int 0, .ref m_toldClub, .ref m_toldGives, .ref m_isOut, .ref m_purse, .int 0]))) (q : Int32) (q_t : Int) (h_q : q.toInt = q_t)  : Met l yX12_fault wsX12_fault ({ frames := 1, cells := 0, slots := 0, locals := 64 }) (va_Pc [.ref mo, .int q] (xR (dC, dI) tys ws)) (vp_Si (fun r => (r = 0 ∧ q_t = 0) ∨ (r = (-1) ∧ q_t ≠ 0))) 0 0 (fun _ => False) := by
  refine Met.ofW (cc := cX12_fault) (maxL := 2) (ret := (some .int)) (by decide) rfl ?_
  intro pr_ ev_ s m args below meth cd_ s₁ B hml hv
  obtain ⟨rfl, hE, hK, hP⟩ := hv
  have hx := B.exec
  have hb := B.bytes
  have hr := B.returns
  have hts := atoms_spec (ws := wsX12_fault) B.pre
  have hown : s.vm.findClass RX12 = some m.cls := findClass_of_methodNamed B.named
  have hlocks := B.notSynchronized
  have iX12 : ∀ w ∈ u_ws RX12 TX12 51, w ∈ wsX12_fault := by decide +kernel
  have hl := lv_entry ([.ref mo, .int q]) (n := 2) (Nat.le_of_ble_eq_true rfl)
  rw [lg_entry_eq]
  generalize (lg_sl ([.ref mo, .int q]) ++ List.replicate (2 - (lg_sl ([.ref mo, .int q])).length) Slot.unset).toArray = ls at hl ⊢
  have hl : lv_has ls 2 [(0, .ref mo), (1, .int q)] := hl
  have lo_q := xi_lo q
  have hi_q := xi_hi q
  refine lv_iload_n hx hb dX12_fault_0 rfl (lv_at hl 1 rfl) ?_
  refine lv_if_ne (tgt := 11) hx hb dX12_fault_1 (by decide) (fun c1 => ?_) (fun c1 => ?_)
  · have ic1 := (xi_ne c1 rfl (by decide) : q.toInt ≠ 0)
    refine lv_iload_n hx hb dX12_fault_11 rfl (lv_at hl 1 rfl) ?_
    refine lv_iconst (v := 1) hx hb dX12_fault_12 (by decide) ?_
    refine lv_icmp_ne (tgt := 23) hx hb dX12_fault_13 (by decide) (fun c2 => ?_) (fun c2 => ?_)
    · have ic2 := (xi_ne c2 rfl (by decide) : q.toInt ≠ 1)
      refine lv_iconst (v := (-1)) hx hb dX12_fault_23 (by decide) ?_
      exact W.iret (v := (-1)) hx hb hr (fun t ht hW => ⟨(-1), rfl, by first | exact Or.inl ⟨by first | rfl | exact xi_k (k := 0) (by decide) (by omega), by first | trivial | omega⟩ | exact Or.inr (⟨by first | rfl | exact xi_k (k := (-1)) (by decide) (by omega), by first | trivial | omega⟩), ht⟩) (fun _ h => by cases h) dX12_fault_24
    · have ic2 := (xi_eq c2 rfl (by decide) : q.toInt = 1)
      refine lv_aload_n hx hb dX12_fault_16 rfl (lv_at hl 0 rfl) ?_
      refine va_get (D := (dC, dI)) (ci := 12) (v := .int (-1)) (C := RX12) (T := TX12) (N := 51) hx hb hts iX12 hown hK hP p0 e0 rfl 9 (by decide) (hts (.fieldLink RX12 13 "CapLeagueModel" "faultPlace" "I") (by decide +kernel)) (fun _ h9 => h9) rfl dX12_fault_17 ?_
      refine lv_goto (tgt := 24) hx hb dX12_fault_20 (by decide) ?_
      exact W.iret (v := (-1)) hx hb hr (fun t ht hW => ⟨(-1), rfl, by first | exact Or.inl ⟨by first | rfl | exact xi_k (k := 0) (by decide) (by omega), by first | trivial | omega⟩ | exact Or.inr (⟨by first | rfl | exact xi_k (k := (-1)) (by decide) (by omega), by first | trivial | omega⟩), ht⟩) (fun _ h => by cases h) dX12_fault_24
  · have ic1 := (xi_eq c1 rfl (by decide) : q.toInt = 0)
    refine lv_aload_n hx hb dX12_fault_4 rfl (lv_at hl 0 rfl) ?_
    refine va_get (D := (dC, dI)) (ci := 12) (v := .int 0) (C := RX12) (T := TX12) (N := 51) hx hb hts iX12 hown hK hP p0 e0 rfl 8 (by decide) (hts (.fieldLink RX12 166 "CapLeagueModel" "faultKind" "I") (by decide +kernel)) (fun _ h9 => h9) rfl dX12_fault_5 ?_
    refine lv_goto (tgt := 24) hx hb dX12_fault_8 (by decide) ?_
    exact W.iret (v := 0) hx hb hr (fun t ht hW => ⟨0, rfl, by first | exact Or.inl ⟨by first | rfl | exact xi_k (k := 0) (by decide) (by omega), by first | trivial | omega⟩ | exact Or.inr (⟨by first | rfl | exact xi_k (k := (-1)) (by decide) (by omega), by first | trivial | omega⟩), ht⟩) (fun _ h => by cases h) dX12_fault_24
set_option maxHeartbeats 4000000 in
set_option maxRecDepth 100000 in
theorem mX_wrong (l : Launch) (dC : Nat → ClassId) (dI : Nat → Nat → Nat) (ws : va_W) (tys : List (ClassId × FieldType)) {m_clubOf m_dead m_drawnOf m_drawnTo m_first m_from m_giver m_guard m_guarded m_hasChoice m_hasLaws m_isHurt m_isOut m_isTaken m_last m_laws m_moved m_owner m_pay m_purse m_ringClub m_ringGives m_rise m_sure m_table m_tape m_to m_toldClub m_toldGives m_triedClub m_triedGives m_usedSpare m_worths mo : Nat}  (p0 : Nat) (e0 : ws[p0]? = some (mo, .inr (12, [.ref m_tape, .int 0, .int 0, .int 0, .int 0, .int 0, .int 0, .int 0, .int 0, .int (-1), .ref m_laws, .ref m_hasLaws, .int 0, .int 0, .ref m_clubOf, .ref m_first, .ref m_last, .ref m_pay, .ref m_rise, .ref m_sure, .ref m_hasChoice, .ref m_isTaken, .ref m_isHurt, .ref m_dead, .ref m_usedSpare, .ref m_owner, .ref m_giver, .ref m_guarded, .ref m_drawnOf, .ref m_drawnTo, .int 0, .int 0, .ref m_table, .int 0, .ref m_moved, .ref m_from, .ref m_to, .ref m_guard, .ref m_worths, .ref m_ringClub, .ref m_ringGives, .int 0, .ref m_triedClub, .ref m_triedGives, .int 0, .int 0, .ref m_toldClub, .ref m_toldGives, .ref m_isOut, .ref m_purse, .int 0]))) (q : Int32) (q_t : Int) (h_q : q.toInt = q_t) (c : Int32) (c_t : Int) (h_c : c.toInt = c_t) (y : Int32) (y_t : Int) (h_y : y.toInt = y_t) (n : Int32) (n_t : Int) (h_n : n.toInt = n_t) (u : Int32) (u_t : Int) (h_u : u.toInt = u_t) (p_ : Int32) (p__t : Int) (h_p_ : p_.toInt = p__t) (b : Int32) (b_t : Int) (h_b : b.toInt = b_t)  : Met l yX12_wrong wsX12_wrong ({ frames := 4, cells := 0, slots := 0, locals := 256 }) (va_Pc [.ref mo, .int q, .int c, .int y, .int n, .int u, .int p_, .int b] (xR (dC, dI) tys ws)) (vp_Si (fun r => (r = (-2) ∧ True))) 0 0 (fun _ => False) := by
  refine Met.ofW (cc := cX12_wrong) (maxL := 8) (ret := (some .int)) (by decide) rfl ?_
  intro pr_ ev_ s m args below meth cd_ s₁ B hml hv
  obtain ⟨rfl, hE, hK, hP⟩ := hv
  have hx := B.exec
  have hb := B.bytes
  have hr := B.returns
  have hts := atoms_spec (ws := wsX12_wrong) B.pre
  have hown : s.vm.findClass RX12 = some m.cls := findClass_of_methodNamed B.named
  have hlocks := B.notSynchronized
  have hl := lv_entry ([.ref mo, .int q, .int c, .int y, .int n, .int u, .int p_, .int b]) (n := 8) (Nat.le_of_ble_eq_true rfl)
  rw [lg_entry_eq]
  generalize (lg_sl ([.ref mo, .int q, .int c, .int y, .int n, .int u, .int p_, .int b]) ++ List.replicate (8 - (lg_sl ([.ref mo, .int q, .int c, .int y, .int n, .int u, .int p_, .int b])).length) Slot.unset).toArray = ls at hl ⊢
  have hl : lv_has ls 8 [(0, .ref mo), (1, .int q), (2, .int c), (3, .int y), (4, .int n), (5, .int u), (6, .int p_), (7, .int b)] := hl
  have lo_q := xi_lo q
  have hi_q := xi_hi q
  have lo_c := xi_lo c
  have hi_c := xi_hi c
  have lo_y := xi_lo y
  have hi_y := xi_hi y
  have lo_n := xi_lo n
  have hi_n := xi_hi n
  have lo_u := xi_lo u
  have hi_u := xi_hi u
  have lo_p_ := xi_lo p_
  have hi_p_ := xi_hi p_
  have lo_b := xi_lo b
  have hi_b := xi_hi b
  refine lv_aload_n hx hb dX12_wrong_0 rfl (lv_at hl 0 rfl) ?_
  refine lv_iload_n hx hb dX12_wrong_1 rfl (lv_at hl 1 rfl) ?_
  refine lv_iload_n hx hb dX12_wrong_2 rfl (lv_at hl 2 rfl) ?_
  refine lv_iload_n hx hb dX12_wrong_3 rfl (lv_at hl 3 rfl) ?_
  refine lv_iload hx hb dX12_wrong_4 (lv_at hl 4 rfl) ?_
  refine lv_iload hx hb dX12_wrong_6 (lv_at hl 5 rfl) ?_
  refine lv_iload hx hb dX12_wrong_8 (lv_at hl 6 rfl) ?_
  refine lv_iload hx hb dX12_wrong_10 (lv_at hl 7 rfl) ?_
  refine vp_callSi (W.runV (As := [.int q, .int c, .int y, .int n, .int u, .int p_, .int b]) (rest := []) ⟨hx, hb, hml, hown, hts⟩ (cX12_isDeal_ l dC dI ws tys p0 e0 q (q.toInt) rfl c (c.toInt) rfl y (y.toInt) rfl n (n.toInt) rfl u (u.toInt) rfl p_ (p_.toInt) rfl b (b.toInt) rfl) (cwV 7 hts gX12_wrong_X12_isDeal rfl rfl rfl (by decide +kernel) ⟨Nat.le_of_ble_eq_true rfl, Nat.le_of_ble_eq_true rfl⟩) ⟨xR_blind _ _ _ _, va_recv hK hP (ci := 12) (q0 := p0) rfl e0, xR_pre _ hE hK hP⟩ rfl rfl hl.1 rfl (lv_room (Nat.le_of_ble_eq_true rfl)) dX12_wrong_12 ⟨Nat.le_of_ble_eq_true rfl, Nat.le_of_ble_eq_true rfl⟩) (fun rh1 h1 => ?_)
  obtain ⟨rfl, h1⟩ := h1
  refine lv_if_eq (tgt := 30) hx hb dX12_wrong_15 (by decide) (fun _ => ?_) (fun h => absurd (by decide) h)
  refine lv_bipush (v := (-2)) hx hb dX12_wrong_30 (by decide) ?_
  exact W.iret (v := (-2)) hx hb hr (fun t ht hW => ⟨(-2), rfl, by first | exact ⟨by first | rfl | exact xi_k (k := (-2)) (by decide) (by omega), by first | trivial | omega⟩, ht⟩) (fun _ h => by cases h) dX12_wrong_32
set_option maxHeartbeats 4000000 in
set_option maxRecDepth 100000 in
theorem mX_sign (l : Launch) (dC : Nat → ClassId) (dI : Nat → Nat → Nat) (ws : va_W) (tys : List (ClassId × FieldType)) {m_clubOf m_dead m_drawnOf m_drawnTo m_first m_from m_giver m_guard m_guarded m_hasChoice m_hasLaws m_isHurt m_isOut m_isTaken m_last m_laws m_moved m_owner m_pay m_purse m_ringClub m_ringGives m_rise m_sure m_table m_tape m_to m_toldClub m_toldGives m_triedClub m_triedGives m_usedSpare m_worths mo : Nat}  (p0 : Nat) (e0 : ws[p0]? = some (mo, .inr (12, [.ref m_tape, .int 0, .int 0, .int 0, .int 0, .int 0, .int 0, .int 0, .int 0, .int (-1), .ref m_laws, .ref m_hasLaws, .int 0, .int 0, .ref m_clubOf, .ref m_first, .ref m_last, .ref m_pay, .ref m_rise, .ref m_sure, .ref m_hasChoice, .ref m_isTaken, .ref m_isHurt, .ref m_dead, .ref m_usedSpare, .ref m_owner, .ref m_giver, .ref m_guarded, .ref m_drawnOf, .ref m_drawnTo, .int 0, .int 0, .ref m_table, .int 0, .ref m_moved, .ref m_from, .ref m_to, .ref m_guard, .ref m_worths, .ref m_ringClub, .ref m_ringGives, .int 0, .ref m_triedClub, .ref m_triedGives, .int 0, .int 0, .ref m_toldClub, .ref m_toldGives, .ref m_isOut, .ref m_purse, .int 0]))) (q : Int32) (q_t : Int) (h_q : q.toInt = q_t) (c : Int32) (c_t : Int) (h_c : c.toInt = c_t) (y : Int32) (y_t : Int) (h_y : y.toInt = y_t) (n : Int32) (n_t : Int) (h_n : n.toInt = n_t) (u : Int32) (u_t : Int) (h_u : u.toInt = u_t) (p_ : Int32) (p__t : Int) (h_p_ : p_.toInt = p__t) (b : Int32) (b_t : Int) (h_b : b.toInt = b_t)  : Met l yX12_sign wsX12_sign ({ frames := 4, cells := 0, slots := 0, locals := 256 }) (va_Pc [.ref mo, .int q, .int c, .int y, .int n, .int u, .int p_, .int b] (xR (dC, dI) tys ws)) (vp_Si (fun r => (r = (-2) ∧ True))) 0 0 (fun _ => False) := by
  refine Met.ofW (cc := cX12_sign) (maxL := 8) (ret := (some .int)) (by decide) rfl ?_
  intro pr_ ev_ s m args below meth cd_ s₁ B hml hv
  obtain ⟨rfl, hE, hK, hP⟩ := hv
  have hx := B.exec
  have hb := B.bytes
  have hr := B.returns
  have hts := atoms_spec (ws := wsX12_sign) B.pre
  have hown : s.vm.findClass RX12 = some m.cls := findClass_of_methodNamed B.named
  have hlocks := B.notSynchronized
  have iX12 : ∀ w ∈ u_ws RX12 TX12 51, w ∈ wsX12_sign := by decide +kernel
  have hl := lv_entry ([.ref mo, .int q, .int c, .int y, .int n, .int u, .int p_, .int b]) (n := 8) (Nat.le_of_ble_eq_true rfl)
  rw [lg_entry_eq]
  generalize (lg_sl ([.ref mo, .int q, .int c, .int y, .int n, .int u, .int p_, .int b]) ++ List.replicate (8 - (lg_sl ([.ref mo, .int q, .int c, .int y, .int n, .int u, .int p_, .int b])).length) Slot.unset).toArray = ls at hl ⊢
  have hl : lv_has ls 8 [(0, .ref mo), (1, .int q), (2, .int c), (3, .int y), (4, .int n), (5, .int u), (6, .int p_), (7, .int b)] := hl
  have lo_q := xi_lo q
  have hi_q := xi_hi q
  have lo_c := xi_lo c
  have hi_c := xi_hi c
  have lo_y := xi_lo y
  have hi_y := xi_hi y
  have lo_n := xi_lo n
  have hi_n := xi_hi n
  have lo_u := xi_lo u
  have hi_u := xi_hi u
  have lo_p_ := xi_lo p_
  have hi_p_ := xi_hi p_
  have lo_b := xi_lo b
  have hi_b := xi_hi b
  refine lv_aload_n hx hb dX12_sign_0 rfl (lv_at hl 0 rfl) ?_
  refine lv_iload_n hx hb dX12_sign_1 rfl (lv_at hl 1 rfl) ?_
  refine lv_iload_n hx hb dX12_sign_2 rfl (lv_at hl 2 rfl) ?_
  refine lv_iload_n hx hb dX12_sign_3 rfl (lv_at hl 3 rfl) ?_
  refine lv_iload hx hb dX12_sign_4 (lv_at hl 4 rfl) ?_
  refine lv_iload hx hb dX12_sign_6 (lv_at hl 5 rfl) ?_
  refine lv_iload hx hb dX12_sign_8 (lv_at hl 6 rfl) ?_
  refine lv_iload hx hb dX12_sign_10 (lv_at hl 7 rfl) ?_
  refine vp_callSi (W.runV (As := [.int q, .int c, .int y, .int n, .int u, .int p_, .int b]) (rest := []) ⟨hx, hb, hml, hown, hts⟩ (cX12_isDeal_ l dC dI ws tys p0 e0 q (q.toInt) rfl c (c.toInt) rfl y (y.toInt) rfl n (n.toInt) rfl u (u.toInt) rfl p_ (p_.toInt) rfl b (b.toInt) rfl) (cwV 7 hts gX12_sign_X12_isDeal rfl rfl rfl (by decide +kernel) ⟨Nat.le_of_ble_eq_true rfl, Nat.le_of_ble_eq_true rfl⟩) ⟨xR_blind _ _ _ _, va_recv hK hP (ci := 12) (q0 := p0) rfl e0, xR_pre _ hE hK hP⟩ rfl rfl hl.1 rfl (lv_room (Nat.le_of_ble_eq_true rfl)) dX12_sign_12 ⟨Nat.le_of_ble_eq_true rfl, Nat.le_of_ble_eq_true rfl⟩) (fun rh1 h1 => ?_)
  obtain ⟨rfl, h1⟩ := h1
  refine lv_if_ne (tgt := 21) hx hb dX12_sign_15 (by decide) (fun h => absurd (by decide) h) (fun _ => ?_)
  refine lv_bipush (v := (-2)) hx hb dX12_sign_18 (by decide) ?_
  exact W.iret (v := (-2)) hx hb hr (fun t ht hW => ⟨(-2), rfl, by first | exact ⟨by first | rfl | exact xi_k (k := (-2)) (by decide) (by omega), by first | trivial | omega⟩, ht⟩) (fun _ h => by cases h) dX12_sign_20
set_option maxHeartbeats 4000000 in
set_option maxRecDepth 100000 in
theorem mX_choose (l : Launch) (dC : Nat → ClassId) (dI : Nat → Nat → Nat) (ws : va_W) (tys : List (ClassId × FieldType)) {m_clubOf m_dead m_drawnOf m_drawnTo m_first m_from m_giver m_guard m_guarded m_hasChoice m_hasLaws m_isHurt m_isOut m_isTaken m_last m_laws m_moved m_owner m_pay m_purse m_ringClub m_ringGives m_rise m_sure m_table m_tape m_to m_toldClub m_toldGives m_triedClub m_triedGives m_usedSpare m_worths mo : Nat}  (p0 : Nat) (e0 : ws[p0]? = some (mo, .inr (12, [.ref m_tape, .int 0, .int 0, .int 0, .int 0, .int 0, .int 0, .int 0, .int 0, .int (-1), .ref m_laws, .ref m_hasLaws, .int 0, .int 0, .ref m_clubOf, .ref m_first, .ref m_last, .ref m_pay, .ref m_rise, .ref m_sure, .ref m_hasChoice, .ref m_isTaken, .ref m_isHurt, .ref m_dead, .ref m_usedSpare, .ref m_owner, .ref m_giver, .ref m_guarded, .ref m_drawnOf, .ref m_drawnTo, .int 0, .int 0, .ref m_table, .int 0, .ref m_moved, .ref m_from, .ref m_to, .ref m_guard, .ref m_worths, .ref m_ringClub, .ref m_ringGives, .int 0, .ref m_triedClub, .ref m_triedGives, .int 0, .int 0, .ref m_toldClub, .ref m_toldGives, .ref m_isOut, .ref m_purse, .int 0]))) (q : Int32) (q_t : Int) (h_q : q.toInt = q_t)  : Met l yX12_choose wsX12_choose ({ frames := 3, cells := 0, slots := 0, locals := 192 }) (va_Pc [.ref mo, .int q] (xR (dC, dI) tys ws)) (vp_Si (fun r => (r = (-2) ∧ True))) 0 0 (fun _ => False) := by
  refine Met.ofW (cc := cX12_choose) (maxL := 2) (ret := (some .int)) (by decide) rfl ?_
  intro pr_ ev_ s m args below meth cd_ s₁ B hml hv
  obtain ⟨rfl, hE, hK, hP⟩ := hv
  have hx := B.exec
  have hb := B.bytes
  have hr := B.returns
  have hts := atoms_spec (ws := wsX12_choose) B.pre
  have hown : s.vm.findClass RX12 = some m.cls := findClass_of_methodNamed B.named
  have hlocks := B.notSynchronized
  have iX12 : ∀ w ∈ u_ws RX12 TX12 51, w ∈ wsX12_choose := by decide +kernel
  have hl := lv_entry ([.ref mo, .int q]) (n := 2) (Nat.le_of_ble_eq_true rfl)
  rw [lg_entry_eq]
  generalize (lg_sl ([.ref mo, .int q]) ++ List.replicate (2 - (lg_sl ([.ref mo, .int q])).length) Slot.unset).toArray = ls at hl ⊢
  have hl : lv_has ls 2 [(0, .ref mo), (1, .int q)] := hl
  have lo_q := xi_lo q
  have hi_q := xi_hi q
  refine lv_aload_n hx hb dX12_choose_0 rfl (lv_at hl 0 rfl) ?_
  refine lv_iload_n hx hb dX12_choose_1 rfl (lv_at hl 1 rfl) ?_
  refine vp_callSi (W.runV (As := [.int q]) (rest := []) ⟨hx, hb, hml, hown, hts⟩ (cX12_isPlayer_ l dC dI ws tys p0 e0 q (q.toInt) rfl) (cwV 1 hts gX12_choose_X12_isPlayer rfl rfl rfl (by decide +kernel) ⟨Nat.le_of_ble_eq_true rfl, Nat.le_of_ble_eq_true rfl⟩) ⟨xR_blind _ _ _ _, va_recv hK hP (ci := 12) (q0 := p0) rfl e0, xR_pre _ hE hK hP⟩ rfl rfl hl.1 rfl (lv_room (Nat.le_of_ble_eq_true rfl)) dX12_choose_2 ⟨Nat.le_of_ble_eq_true rfl, Nat.le_of_ble_eq_true rfl⟩) (fun rh1 h1 => ?_)
  obtain ⟨rfl, h1⟩ := h1
  refine lv_if_ne (tgt := 11) hx hb dX12_choose_5 (by decide) (fun h => absurd (by decide) h) (fun _ => ?_)
  refine lv_bipush (v := (-2)) hx hb dX12_choose_8 (by decide) ?_
  exact W.iret (v := (-2)) hx hb hr (fun t ht hW => ⟨(-2), rfl, by first | exact ⟨by first | rfl | exact xi_k (k := (-2)) (by decide) (by omega), by first | trivial | omega⟩, ht⟩) (fun _ h => by cases h) dX12_choose_10
set_option maxHeartbeats 4000000 in
set_option maxRecDepth 100000 in
theorem mX_waive (l : Launch) (dC : Nat → ClassId) (dI : Nat → Nat → Nat) (ws : va_W) (tys : List (ClassId × FieldType)) {m_clubOf m_dead m_drawnOf m_drawnTo m_first m_from m_giver m_guard m_guarded m_hasChoice m_hasLaws m_isHurt m_isOut m_isTaken m_last m_laws m_moved m_owner m_pay m_purse m_ringClub m_ringGives m_rise m_sure m_table m_tape m_to m_toldClub m_toldGives m_triedClub m_triedGives m_usedSpare m_worths mo : Nat}  (p0 : Nat) (e0 : ws[p0]? = some (mo, .inr (12, [.ref m_tape, .int 0, .int 0, .int 0, .int 0, .int 0, .int 0, .int 0, .int 0, .int (-1), .ref m_laws, .ref m_hasLaws, .int 0, .int 0, .ref m_clubOf, .ref m_first, .ref m_last, .ref m_pay, .ref m_rise, .ref m_sure, .ref m_hasChoice, .ref m_isTaken, .ref m_isHurt, .ref m_dead, .ref m_usedSpare, .ref m_owner, .ref m_giver, .ref m_guarded, .ref m_drawnOf, .ref m_drawnTo, .int 0, .int 0, .ref m_table, .int 0, .ref m_moved, .ref m_from, .ref m_to, .ref m_guard, .ref m_worths, .ref m_ringClub, .ref m_ringGives, .int 0, .ref m_triedClub, .ref m_triedGives, .int 0, .int 0, .ref m_toldClub, .ref m_toldGives, .ref m_isOut, .ref m_purse, .int 0]))) (q : Int32) (q_t : Int) (h_q : q.toInt = q_t)  : Met l yX12_waive wsX12_waive ({ frames := 3, cells := 0, slots := 0, locals := 192 }) (va_Pc [.ref mo, .int q] (xR (dC, dI) tys ws)) (vp_Si (fun r => (r = (-2) ∧ True))) 0 0 (fun _ => False) := by
  refine Met.ofW (cc := cX12_waive) (maxL := 5) (ret := (some .int)) (by decide) rfl ?_
  intro pr_ ev_ s m args below meth cd_ s₁ B hml hv
  obtain ⟨rfl, hE, hK, hP⟩ := hv
  have hx := B.exec
  have hb := B.bytes
  have hr := B.returns
  have hts := atoms_spec (ws := wsX12_waive) B.pre
  have hown : s.vm.findClass RX12 = some m.cls := findClass_of_methodNamed B.named
  have hlocks := B.notSynchronized
  have iX12 : ∀ w ∈ u_ws RX12 TX12 51, w ∈ wsX12_waive := by decide +kernel
  have hl := lv_entry ([.ref mo, .int q]) (n := 5) (Nat.le_of_ble_eq_true rfl)
  rw [lg_entry_eq]
  generalize (lg_sl ([.ref mo, .int q]) ++ List.replicate (5 - (lg_sl ([.ref mo, .int q])).length) Slot.unset).toArray = ls at hl ⊢
  have hl : lv_has ls 5 [(0, .ref mo), (1, .int q)] := hl
  have lo_q := xi_lo q
  have hi_q := xi_hi q
  refine lv_aload_n hx hb dX12_waive_0 rfl (lv_at hl 0 rfl) ?_
  refine lv_iload_n hx hb dX12_waive_1 rfl (lv_at hl 1 rfl) ?_
  refine vp_callSi (W.runV (As := [.int q]) (rest := []) ⟨hx, hb, hml, hown, hts⟩ (cX12_isPlayer_ l dC dI ws tys p0 e0 q (q.toInt) rfl) (cwV 1 hts gX12_waive_X12_isPlayer rfl rfl rfl (by decide +kernel) ⟨Nat.le_of_ble_eq_true rfl, Nat.le_of_ble_eq_true rfl⟩) ⟨xR_blind _ _ _ _, va_recv hK hP (ci := 12) (q0 := p0) rfl e0, xR_pre _ hE hK hP⟩ rfl rfl hl.1 rfl (lv_room (Nat.le_of_ble_eq_true rfl)) dX12_waive_2 ⟨Nat.le_of_ble_eq_true rfl, Nat.le_of_ble_eq_true rfl⟩) (fun rh1 h1 => ?_)
  obtain ⟨rfl, h1⟩ := h1
  refine lv_if_ne (tgt := 11) hx hb dX12_waive_5 (by decide) (fun h => absurd (by decide) h) (fun _ => ?_)
  refine lv_bipush (v := (-2)) hx hb dX12_waive_8 (by decide) ?_
  exact W.iret (v := (-2)) hx hb hr (fun t ht hW => ⟨(-2), rfl, by first | exact ⟨by first | rfl | exact xi_k (k := (-2)) (by decide) (by omega), by first | trivial | omega⟩, ht⟩) (fun _ h => by cases h) dX12_waive_10
set_option maxHeartbeats 4000000 in
set_option maxRecDepth 100000 in
theorem mX_hurt (l : Launch) (dC : Nat → ClassId) (dI : Nat → Nat → Nat) (ws : va_W) (tys : List (ClassId × FieldType)) {m_clubOf m_dead m_drawnOf m_drawnTo m_first m_from m_giver m_guard m_guarded m_hasChoice m_hasLaws m_isHurt m_isOut m_isTaken m_last m_laws m_moved m_owner m_pay m_purse m_ringClub m_ringGives m_rise m_sure m_table m_tape m_to m_toldClub m_toldGives m_triedClub m_triedGives m_usedSpare m_worths mo : Nat}  (p0 : Nat) (e0 : ws[p0]? = some (mo, .inr (12, [.ref m_tape, .int 0, .int 0, .int 0, .int 0, .int 0, .int 0, .int 0, .int 0, .int (-1), .ref m_laws, .ref m_hasLaws, .int 0, .int 0, .ref m_clubOf, .ref m_first, .ref m_last, .ref m_pay, .ref m_rise, .ref m_sure, .ref m_hasChoice, .ref m_isTaken, .ref m_isHurt, .ref m_dead, .ref m_usedSpare, .ref m_owner, .ref m_giver, .ref m_guarded, .ref m_drawnOf, .ref m_drawnTo, .int 0, .int 0, .ref m_table, .int 0, .ref m_moved, .ref m_from, .ref m_to, .ref m_guard, .ref m_worths, .ref m_ringClub, .ref m_ringGives, .int 0, .ref m_triedClub, .ref m_triedGives, .int 0, .int 0, .ref m_toldClub, .ref m_toldGives, .ref m_isOut, .ref m_purse, .int 0]))) (q : Int32) (q_t : Int) (h_q : q.toInt = q_t) (b : Int32) (b_t : Int) (h_b : b.toInt = b_t)  : Met l yX12_hurt wsX12_hurt ({ frames := 3, cells := 0, slots := 0, locals := 192 }) (va_Pc [.ref mo, .int q, .int b] (xR (dC, dI) tys ws)) (vp_Si (fun r => (r = (-2) ∧ True))) 0 0 (fun _ => False) := by
  refine Met.ofW (cc := cX12_hurt) (maxL := 4) (ret := (some .int)) (by decide) rfl ?_
  intro pr_ ev_ s m args below meth cd_ s₁ B hml hv
  obtain ⟨rfl, hE, hK, hP⟩ := hv
  have hx := B.exec
  have hb := B.bytes
  have hr := B.returns
  have hts := atoms_spec (ws := wsX12_hurt) B.pre
  have hown : s.vm.findClass RX12 = some m.cls := findClass_of_methodNamed B.named
  have hlocks := B.notSynchronized
  have iX12 : ∀ w ∈ u_ws RX12 TX12 51, w ∈ wsX12_hurt := by decide +kernel
  have hl := lv_entry ([.ref mo, .int q, .int b]) (n := 4) (Nat.le_of_ble_eq_true rfl)
  rw [lg_entry_eq]
  generalize (lg_sl ([.ref mo, .int q, .int b]) ++ List.replicate (4 - (lg_sl ([.ref mo, .int q, .int b])).length) Slot.unset).toArray = ls at hl ⊢
  have hl : lv_has ls 4 [(0, .ref mo), (1, .int q), (2, .int b)] := hl
  have lo_q := xi_lo q
  have hi_q := xi_hi q
  have lo_b := xi_lo b
  have hi_b := xi_hi b
  refine lv_aload_n hx hb dX12_hurt_0 rfl (lv_at hl 0 rfl) ?_
  refine lv_iload_n hx hb dX12_hurt_1 rfl (lv_at hl 1 rfl) ?_
  refine vp_callSi (W.runV (As := [.int q]) (rest := []) ⟨hx, hb, hml, hown, hts⟩ (cX12_isPlayer_ l dC dI ws tys p0 e0 q (q.toInt) rfl) (cwV 1 hts gX12_hurt_X12_isPlayer rfl rfl rfl (by decide +kernel) ⟨Nat.le_of_ble_eq_true rfl, Nat.le_of_ble_eq_true rfl⟩) ⟨xR_blind _ _ _ _, va_recv hK hP (ci := 12) (q0 := p0) rfl e0, xR_pre _ hE hK hP⟩ rfl rfl hl.1 rfl (lv_room (Nat.le_of_ble_eq_true rfl)) dX12_hurt_2 ⟨Nat.le_of_ble_eq_true rfl, Nat.le_of_ble_eq_true rfl⟩) (fun rh1 h1 => ?_)
  obtain ⟨rfl, h1⟩ := h1
  refine lv_if_ne (tgt := 11) hx hb dX12_hurt_5 (by decide) (fun h => absurd (by decide) h) (fun _ => ?_)
  refine lv_bipush (v := (-2)) hx hb dX12_hurt_8 (by decide) ?_
  exact W.iret (v := (-2)) hx hb hr (fun t ht hW => ⟨(-2), rfl, by first | exact ⟨by first | rfl | exact xi_k (k := (-2)) (by decide) (by omega), by first | trivial | omega⟩, ht⟩) (fun _ h => by cases h) dX12_hurt_10
set_option maxHeartbeats 4000000 in
set_option maxRecDepth 100000 in
theorem mX_about (l : Launch) (dC : Nat → ClassId) (dI : Nat → Nat → Nat) (ws : va_W) (tys : List (ClassId × FieldType)) {m_clubOf m_dead m_drawnOf m_drawnTo m_first m_from m_giver m_guard m_guarded m_hasChoice m_hasLaws m_isHurt m_isOut m_isTaken m_last m_laws m_moved m_owner m_pay m_purse m_ringClub m_ringGives m_rise m_sure m_table m_tape m_to m_toldClub m_toldGives m_triedClub m_triedGives m_usedSpare m_worths mo : Nat}  (p0 : Nat) (e0 : ws[p0]? = some (mo, .inr (12, [.ref m_tape, .int 0, .int 0, .int 0, .int 0, .int 0, .int 0, .int 0, .int 0, .int (-1), .ref m_laws, .ref m_hasLaws, .int 0, .int 0, .ref m_clubOf, .ref m_first, .ref m_last, .ref m_pay, .ref m_rise, .ref m_sure, .ref m_hasChoice, .ref m_isTaken, .ref m_isHurt, .ref m_dead, .ref m_usedSpare, .ref m_owner, .ref m_giver, .ref m_guarded, .ref m_drawnOf, .ref m_drawnTo, .int 0, .int 0, .ref m_table, .int 0, .ref m_moved, .ref m_from, .ref m_to, .ref m_guard, .ref m_worths, .ref m_ringClub, .ref m_ringGives, .int 0, .ref m_triedClub, .ref m_triedGives, .int 0, .int 0, .ref m_toldClub, .ref m_toldGives, .ref m_isOut, .ref m_purse, .int 0]))) (q : Int32) (q_t : Int) (h_q : q.toInt = q_t) (w_ : Int32) (w__t : Int) (h_w_ : w_.toInt = w__t)  : Met l yX12_about wsX12_about ({ frames := 3, cells := 0, slots := 0, locals := 192 }) (va_Pc [.ref mo, .int q, .int w_] (xR (dC, dI) tys ws)) (vp_Si (fun r => (r = (-9) ∧ True))) 0 0 (fun _ => False) := by
  refine Met.ofW (cc := cX12_about) (maxL := 4) (ret := (some .int)) (by decide) rfl ?_
  intro pr_ ev_ s m args below meth cd_ s₁ B hml hv
  obtain ⟨rfl, hE, hK, hP⟩ := hv
  have hx := B.exec
  have hb := B.bytes
  have hr := B.returns
  have hts := atoms_spec (ws := wsX12_about) B.pre
  have hown : s.vm.findClass RX12 = some m.cls := findClass_of_methodNamed B.named
  have hlocks := B.notSynchronized
  have iX12 : ∀ w ∈ u_ws RX12 TX12 51, w ∈ wsX12_about := by decide +kernel
  have hl := lv_entry ([.ref mo, .int q, .int w_]) (n := 4) (Nat.le_of_ble_eq_true rfl)
  rw [lg_entry_eq]
  generalize (lg_sl ([.ref mo, .int q, .int w_]) ++ List.replicate (4 - (lg_sl ([.ref mo, .int q, .int w_])).length) Slot.unset).toArray = ls at hl ⊢
  have hl : lv_has ls 4 [(0, .ref mo), (1, .int q), (2, .int w_)] := hl
  have lo_q := xi_lo q
  have hi_q := xi_hi q
  have lo_w_ := xi_lo w_
  have hi_w_ := xi_hi w_
  refine lv_aload_n hx hb dX12_about_0 rfl (lv_at hl 0 rfl) ?_
  refine lv_iload_n hx hb dX12_about_1 rfl (lv_at hl 1 rfl) ?_
  refine vp_callSi (W.runV (As := [.int q]) (rest := []) ⟨hx, hb, hml, hown, hts⟩ (cX12_isPlayer_ l dC dI ws tys p0 e0 q (q.toInt) rfl) (cwV 1 hts gX12_about_X12_isPlayer rfl rfl rfl (by decide +kernel) ⟨Nat.le_of_ble_eq_true rfl, Nat.le_of_ble_eq_true rfl⟩) ⟨xR_blind _ _ _ _, va_recv hK hP (ci := 12) (q0 := p0) rfl e0, xR_pre _ hE hK hP⟩ rfl rfl hl.1 rfl (lv_room (Nat.le_of_ble_eq_true rfl)) dX12_about_2 ⟨Nat.le_of_ble_eq_true rfl, Nat.le_of_ble_eq_true rfl⟩) (fun rh1 h1 => ?_)
  obtain ⟨rfl, h1⟩ := h1
  refine lv_if_ne (tgt := 11) hx hb dX12_about_5 (by decide) (fun h => absurd (by decide) h) (fun _ => ?_)
  refine lv_bipush (v := (-9)) hx hb dX12_about_8 (by decide) ?_
  exact W.iret (v := (-9)) hx hb hr (fun t ht hW => ⟨(-9), rfl, by first | exact ⟨by first | rfl | exact xi_k (k := (-9)) (by decide) (by omega), by first | trivial | omega⟩, ht⟩) (fun _ h => by cases h) dX12_about_10
set_option maxHeartbeats 4000000 in
set_option maxRecDepth 100000 in
theorem mX_give (l : Launch) (dC : Nat → ClassId) (dI : Nat → Nat → Nat) (ws : va_W) (tys : List (ClassId × FieldType)) {m_clubOf m_dead m_drawnOf m_drawnTo m_first m_from m_giver m_guard m_guarded m_hasChoice m_hasLaws m_isHurt m_isOut m_isTaken m_last m_laws m_moved m_owner m_pay m_purse m_ringClub m_ringGives m_rise m_sure m_table m_tape m_to m_toldClub m_toldGives m_triedClub m_triedGives m_usedSpare m_worths mo : Nat}  (p0 : Nat) (e0 : ws[p0]? = some (mo, .inr (12, [.ref m_tape, .int 0, .int 0, .int 0, .int 0, .int 0, .int 0, .int 0, .int 0, .int (-1), .ref m_laws, .ref m_hasLaws, .int 0, .int 0, .ref m_clubOf, .ref m_first, .ref m_last, .ref m_pay, .ref m_rise, .ref m_sure, .ref m_hasChoice, .ref m_isTaken, .ref m_isHurt, .ref m_dead, .ref m_usedSpare, .ref m_owner, .ref m_giver, .ref m_guarded, .ref m_drawnOf, .ref m_drawnTo, .int 0, .int 0, .ref m_table, .int 0, .ref m_moved, .ref m_from, .ref m_to, .ref m_guard, .ref m_worths, .ref m_ringClub, .ref m_ringGives, .int 0, .ref m_triedClub, .ref m_triedGives, .int 0, .int 0, .ref m_toldClub, .ref m_toldGives, .ref m_isOut, .ref m_purse, .int 0]))) (q : Int32) (q_t : Int) (h_q : q.toInt = q_t) (c : Int32) (c_t : Int) (h_c : c.toInt = c_t)  : Met l yX12_give wsX12_give ({ frames := 3, cells := 0, slots := 0, locals := 192 }) (va_Pc [.ref mo, .int q, .int c] (xR (dC, dI) tys ws)) (vp_Si (fun r => (r = (-2) ∧ True))) 0 0 (fun _ => False) := by
  refine Met.ofW (cc := cX12_give) (maxL := 3) (ret := (some .int)) (by decide) rfl ?_
  intro pr_ ev_ s m args below meth cd_ s₁ B hml hv
  obtain ⟨rfl, hE, hK, hP⟩ := hv
  have hx := B.exec
  have hb := B.bytes
  have hr := B.returns
  have hts := atoms_spec (ws := wsX12_give) B.pre
  have hown : s.vm.findClass RX12 = some m.cls := findClass_of_methodNamed B.named
  have hlocks := B.notSynchronized
  have iX12 : ∀ w ∈ u_ws RX12 TX12 51, w ∈ wsX12_give := by decide +kernel
  have hl := lv_entry ([.ref mo, .int q, .int c]) (n := 3) (Nat.le_of_ble_eq_true rfl)
  rw [lg_entry_eq]
  generalize (lg_sl ([.ref mo, .int q, .int c]) ++ List.replicate (3 - (lg_sl ([.ref mo, .int q, .int c])).length) Slot.unset).toArray = ls at hl ⊢
  have hl : lv_has ls 3 [(0, .ref mo), (1, .int q), (2, .int c)] := hl
  have lo_q := xi_lo q
  have hi_q := xi_hi q
  have lo_c := xi_lo c
  have hi_c := xi_hi c
  refine lv_aload_n hx hb dX12_give_0 rfl (lv_at hl 0 rfl) ?_
  refine lv_iload_n hx hb dX12_give_1 rfl (lv_at hl 1 rfl) ?_
  refine vp_callSi (W.runV (As := [.int q]) (rest := []) ⟨hx, hb, hml, hown, hts⟩ (cX12_isPlayer_ l dC dI ws tys p0 e0 q (q.toInt) rfl) (cwV 1 hts gX12_give_X12_isPlayer rfl rfl rfl (by decide +kernel) ⟨Nat.le_of_ble_eq_true rfl, Nat.le_of_ble_eq_true rfl⟩) ⟨xR_blind _ _ _ _, va_recv hK hP (ci := 12) (q0 := p0) rfl e0, xR_pre _ hE hK hP⟩ rfl rfl hl.1 rfl (lv_room (Nat.le_of_ble_eq_true rfl)) dX12_give_2 ⟨Nat.le_of_ble_eq_true rfl, Nat.le_of_ble_eq_true rfl⟩) (fun rh1 h1 => ?_)
  obtain ⟨rfl, h1⟩ := h1
  refine lv_if_eq (tgt := 15) hx hb dX12_give_5 (by decide) (fun _ => ?_) (fun h => absurd (by decide) h)
  refine lv_bipush (v := (-2)) hx hb dX12_give_15 (by decide) ?_
  exact W.iret (v := (-2)) hx hb hr (fun t ht hW => ⟨(-2), rfl, by first | exact ⟨by first | rfl | exact xi_k (k := (-2)) (by decide) (by omega), by first | trivial | omega⟩, ht⟩) (fun _ h => by cases h) dX12_give_17
set_option maxHeartbeats 4000000 in
set_option maxRecDepth 100000 in
theorem mX_check (l : Launch) (dC : Nat → ClassId) (dI : Nat → Nat → Nat) (ws : va_W) (tys : List (ClassId × FieldType)) {m_clubOf m_dead m_drawnOf m_drawnTo m_first m_from m_giver m_guard m_guarded m_hasChoice m_hasLaws m_isHurt m_isOut m_isTaken m_last m_laws m_moved m_owner m_pay m_purse m_ringClub m_ringGives m_rise m_sure m_table m_tape m_to m_toldClub m_toldGives m_triedClub m_triedGives m_usedSpare m_worths mo : Nat}  (p0 : Nat) (e0 : ws[p0]? = some (mo, .inr (12, [.ref m_tape, .int 0, .int 0, .int 0, .int 0, .int 0, .int 0, .int 0, .int 0, .int (-1), .ref m_laws, .ref m_hasLaws, .int 0, .int 0, .ref m_clubOf, .ref m_first, .ref m_last, .ref m_pay, .ref m_rise, .ref m_sure, .ref m_hasChoice, .ref m_isTaken, .ref m_isHurt, .ref m_dead, .ref m_usedSpare, .ref m_owner, .ref m_giver, .ref m_guarded, .ref m_drawnOf, .ref m_drawnTo, .int 0, .int 0, .ref m_table, .int 0, .ref m_moved, .ref m_from, .ref m_to, .ref m_guard, .ref m_worths, .ref m_ringClub, .ref m_ringGives, .int 0, .ref m_triedClub, .ref m_triedGives, .int 0, .int 0, .ref m_toldClub, .ref m_toldGives, .ref m_isOut, .ref m_purse, .int 0])))   : Met l yX12_check wsX12_check ({ frames := 1, cells := 0, slots := 0, locals := 64 }) (va_Pc [.ref mo] (xR (dC, dI) tys ws)) (vp_Si (fun r => (r = (-4) ∧ True))) 0 0 (fun _ => False) := by
  refine Met.ofW (cc := cX12_check) (maxL := 1) (ret := (some .int)) (by decide) rfl ?_
  intro pr_ ev_ s m args below meth cd_ s₁ B hml hv
  obtain ⟨rfl, hE, hK, hP⟩ := hv
  have hx := B.exec
  have hb := B.bytes
  have hr := B.returns
  have hts := atoms_spec (ws := wsX12_check) B.pre
  have hown : s.vm.findClass RX12 = some m.cls := findClass_of_methodNamed B.named
  have hlocks := B.notSynchronized
  have iX12 : ∀ w ∈ u_ws RX12 TX12 51, w ∈ wsX12_check := by decide +kernel
  have hl := lv_entry ([.ref mo]) (n := 1) (Nat.le_of_ble_eq_true rfl)
  rw [lg_entry_eq]
  generalize (lg_sl ([.ref mo]) ++ List.replicate (1 - (lg_sl ([.ref mo])).length) Slot.unset).toArray = ls at hl ⊢
  have hl : lv_has ls 1 [(0, .ref mo)] := hl
  refine lv_aload_n hx hb dX12_check_0 rfl (lv_at hl 0 rfl) ?_
  refine va_get (D := (dC, dI)) (ci := 12) (v := .int 0) (C := RX12) (T := TX12) (N := 51) hx hb hts iX12 hown hK hP p0 e0 rfl 33 (by decide) (hts (.fieldLink RX12 247 "CapLeagueModel" "moves" "I") (by decide +kernel)) (fun _ h9 => h9) rfl dX12_check_1 ?_
  refine lv_if_ne (tgt := 12) hx hb dX12_check_4 (by decide) (fun h => absurd (by decide) h) (fun _ => ?_)
  refine lv_bipush (v := (-4)) hx hb dX12_check_7 (by decide) ?_
  refine lv_goto (tgt := 16) hx hb dX12_check_9 (by decide) ?_
  exact W.iret (v := (-4)) hx hb hr (fun t ht hW => ⟨(-4), rfl, by first | exact ⟨by first | rfl | exact xi_k (k := (-4)) (by decide) (by omega), by first | trivial | omega⟩, ht⟩) (fun _ h => by cases h) dX12_check_16
set_option maxHeartbeats 4000000 in
set_option maxRecDepth 100000 in
theorem mX_deal (l : Launch) (dC : Nat → ClassId) (dI : Nat → Nat → Nat) (ws : va_W) (tys : List (ClassId × FieldType)) {m_clubOf m_dead m_drawnOf m_drawnTo m_first m_from m_giver m_guard m_guarded m_hasChoice m_hasLaws m_isHurt m_isOut m_isTaken m_last m_laws m_moved m_owner m_pay m_purse m_ringClub m_ringGives m_rise m_sure m_table m_tape m_to m_toldClub m_toldGives m_triedClub m_triedGives m_usedSpare m_worths mo : Nat}  (p0 : Nat) (e0 : ws[p0]? = some (mo, .inr (12, [.ref m_tape, .int 0, .int 0, .int 0, .int 0, .int 0, .int 0, .int 0, .int 0, .int (-1), .ref m_laws, .ref m_hasLaws, .int 0, .int 0, .ref m_clubOf, .ref m_first, .ref m_last, .ref m_pay, .ref m_rise, .ref m_sure, .ref m_hasChoice, .ref m_isTaken, .ref m_isHurt, .ref m_dead, .ref m_usedSpare, .ref m_owner, .ref m_giver, .ref m_guarded, .ref m_drawnOf, .ref m_drawnTo, .int 0, .int 0, .ref m_table, .int 0, .ref m_moved, .ref m_from, .ref m_to, .ref m_guard, .ref m_worths, .ref m_ringClub, .ref m_ringGives, .int 0, .ref m_triedClub, .ref m_triedGives, .int 0, .int 0, .ref m_toldClub, .ref m_toldGives, .ref m_isOut, .ref m_purse, .int 0])))   : Met l yX12_deal wsX12_deal ({ frames := 1, cells := 0, slots := 0, locals := 64 }) (va_Pc [.ref mo] (xR (dC, dI) tys ws)) (vp_Si (fun r => (r = (-4) ∧ True))) 0 0 (fun _ => False) := by
  refine Met.ofW (cc := cX12_deal) (maxL := 3) (ret := (some .int)) (by decide) rfl ?_
  intro pr_ ev_ s m args below meth cd_ s₁ B hml hv
  obtain ⟨rfl, hE, hK, hP⟩ := hv
  have hx := B.exec
  have hb := B.bytes
  have hr := B.returns
  have hts := atoms_spec (ws := wsX12_deal) B.pre
  have hown : s.vm.findClass RX12 = some m.cls := findClass_of_methodNamed B.named
  have hlocks := B.notSynchronized
  have iX12 : ∀ w ∈ u_ws RX12 TX12 51, w ∈ wsX12_deal := by decide +kernel
  have hl := lv_entry ([.ref mo]) (n := 3) (Nat.le_of_ble_eq_true rfl)
  rw [lg_entry_eq]
  generalize (lg_sl ([.ref mo]) ++ List.replicate (3 - (lg_sl ([.ref mo])).length) Slot.unset).toArray = ls at hl ⊢
  have hl : lv_has ls 3 [(0, .ref mo)] := hl
  refine lv_aload_n hx hb dX12_deal_0 rfl (lv_at hl 0 rfl) ?_
  refine va_get (D := (dC, dI)) (ci := 12) (v := .int 0) (C := RX12) (T := TX12) (N := 51) hx hb hts iX12 hown hK hP p0 e0 rfl 33 (by decide) (hts (.fieldLink RX12 247 "CapLeagueModel" "moves" "I") (by decide +kernel)) (fun _ h9 => h9) rfl dX12_deal_1 ?_
  refine lv_if_ne (tgt := 10) hx hb dX12_deal_4 (by decide) (fun h => absurd (by decide) h) (fun _ => ?_)
  refine lv_bipush (v := (-4)) hx hb dX12_deal_7 (by decide) ?_
  exact W.iret (v := (-4)) hx hb hr (fun t ht hW => ⟨(-4), rfl, by first | exact ⟨by first | rfl | exact xi_k (k := (-4)) (by decide) (by omega), by first | trivial | omega⟩, ht⟩) (fun _ h => by cases h) dX12_deal_9
set_option maxHeartbeats 4000000 in
set_option maxRecDepth 100000 in
theorem mX_gain (l : Launch) (dC : Nat → ClassId) (dI : Nat → Nat → Nat) (ws : va_W) (tys : List (ClassId × FieldType)) {m_clubOf m_dead m_drawnOf m_drawnTo m_first m_from m_giver m_guard m_guarded m_hasChoice m_hasLaws m_isHurt m_isOut m_isTaken m_last m_laws m_moved m_owner m_pay m_purse m_ringClub m_ringGives m_rise m_sure m_table m_tape m_to m_toldClub m_toldGives m_triedClub m_triedGives m_usedSpare m_worths mo : Nat}  (p0 : Nat) (e0 : ws[p0]? = some (mo, .inr (12, [.ref m_tape, .int 0, .int 0, .int 0, .int 0, .int 0, .int 0, .int 0, .int 0, .int (-1), .ref m_laws, .ref m_hasLaws, .int 0, .int 0, .ref m_clubOf, .ref m_first, .ref m_last, .ref m_pay, .ref m_rise, .ref m_sure, .ref m_hasChoice, .ref m_isTaken, .ref m_isHurt, .ref m_dead, .ref m_usedSpare, .ref m_owner, .ref m_giver, .ref m_guarded, .ref m_drawnOf, .ref m_drawnTo, .int 0, .int 0, .ref m_table, .int 0, .ref m_moved, .ref m_from, .ref m_to, .ref m_guard, .ref m_worths, .ref m_ringClub, .ref m_ringGives, .int 0, .ref m_triedClub, .ref m_triedGives, .int 0, .int 0, .ref m_toldClub, .ref m_toldGives, .ref m_isOut, .ref m_purse, .int 0]))) (c : Int32) (c_t : Int) (h_c : c.toInt = c_t)  : Met l yX12_gain wsX12_gain ({ frames := 3, cells := 0, slots := 0, locals := 192 }) (va_Pc [.ref mo, .int c] (xR (dC, dI) tys ws)) (vp_Si (fun r => (r = 0 ∧ 0 ≤ c_t ∧ c_t ≤ 7) ∨ (r = (-2000000000) ∧ ¬ (0 ≤ c_t ∧ c_t ≤ 7)))) 0 0 (fun _ => False) := by
  refine Met.ofW (cc := cX12_gain) (maxL := 2) (ret := (some .int)) (by decide) rfl ?_
  intro pr_ ev_ s m args below meth cd_ s₁ B hml hv
  obtain ⟨rfl, hE, hK, hP⟩ := hv
  have hx := B.exec
  have hb := B.bytes
  have hr := B.returns
  have hts := atoms_spec (ws := wsX12_gain) B.pre
  have hown : s.vm.findClass RX12 = some m.cls := findClass_of_methodNamed B.named
  have hlocks := B.notSynchronized
  have hl := lv_entry ([.ref mo, .int c]) (n := 2) (Nat.le_of_ble_eq_true rfl)
  rw [lg_entry_eq]
  generalize (lg_sl ([.ref mo, .int c]) ++ List.replicate (2 - (lg_sl ([.ref mo, .int c])).length) Slot.unset).toArray = ls at hl ⊢
  have hl : lv_has ls 2 [(0, .ref mo), (1, .int c)] := hl
  have lo_c := xi_lo c
  have hi_c := xi_hi c
  refine lv_iload_n hx hb dX12_gain_0 rfl (lv_at hl 1 rfl) ?_
  refine vp_callSi (W.runS (As := [.int c]) (rest := []) ⟨hx, hb, hml, hown, hts⟩ (cX12_isClub_ l dC dI ws tys c (c.toInt) rfl) (va_cwS 1 hts gX12_gain_X12_isClub rfl rfl rfl (by decide +kernel) ⟨Nat.le_of_ble_eq_true rfl, Nat.le_of_ble_eq_true rfl⟩) ⟨xR_blind _ _ _ _, xR_pre _ hE hK hP⟩ rfl rfl hl.1 rfl (lv_room (Nat.le_of_ble_eq_true rfl)) dX12_gain_1 ⟨Nat.le_of_ble_eq_true rfl, Nat.le_of_ble_eq_true rfl⟩) (fun rh1 h1 => ?_)
  rcases h1 with ⟨rfl, h1⟩ | ⟨rfl, h1⟩
  · skip
    refine lv_if_eq (tgt := 15) hx hb dX12_gain_4 (by decide) (fun h => absurd h (by decide)) (fun _ => ?_)
    refine lv_aload_n hx hb dX12_gain_7 rfl (lv_at hl 0 rfl) ?_
    refine lv_iload_n hx hb dX12_gain_8 rfl (lv_at hl 1 rfl) ?_
    refine vp_callSi (W.runV (As := [.int c]) (rest := []) ⟨hx, hb, hml, hown, hts⟩ (cX12_gainOf_ l dC dI ws tys p0 e0 c (c.toInt) rfl) (cwV 1 hts gX12_gain_X12_gainOf rfl rfl rfl (by decide +kernel) ⟨Nat.le_of_ble_eq_true rfl, Nat.le_of_ble_eq_true rfl⟩) ⟨xR_blind _ _ _ _, va_recv hK hP (ci := 12) (q0 := p0) rfl e0, xR_pre _ hE hK hP⟩ rfl rfl hl.1 rfl (lv_room (Nat.le_of_ble_eq_true rfl)) dX12_gain_9 ⟨Nat.le_of_ble_eq_true rfl, Nat.le_of_ble_eq_true rfl⟩) (fun rh3 h3 => ?_)
    obtain ⟨rfl, h3⟩ := h3
    refine lv_goto (tgt := 18) hx hb dX12_gain_12 (by decide) ?_
    exact W.iret (v := 0) hx hb hr (fun t ht hW => ⟨0, rfl, by first | exact Or.inl ⟨by first | rfl | exact xi_k (k := 0) (by decide) (by omega), by first | trivial | omega⟩ | exact Or.inr (⟨by first | rfl | exact xi_k (k := (-2000000000)) (by decide) (by omega), by first | trivial | omega⟩), ht⟩) (fun _ h => by cases h) dX12_gain_18
  · skip
    refine lv_if_eq (tgt := 15) hx hb dX12_gain_4 (by decide) (fun _ => ?_) (fun h => absurd (by decide) h)
    refine lv_ldcw (v := (-2000000000)) hx hb hown (hts (.constant RX12 277 (-2000000000)) (by decide +kernel)) dX12_gain_15 ?_
    exact W.iret (v := (-2000000000)) hx hb hr (fun t ht hW => ⟨(-2000000000), rfl, by first | exact Or.inl ⟨by first | rfl | exact xi_k (k := 0) (by decide) (by omega), by first | trivial | omega⟩ | exact Or.inr (⟨by first | rfl | exact xi_k (k := (-2000000000)) (by decide) (by omega), by first | trivial | omega⟩), ht⟩) (fun _ h => by cases h) dX12_gain_18
set_option maxHeartbeats 4000000 in
set_option maxRecDepth 100000 in
theorem mX_worth (l : Launch) (dC : Nat → ClassId) (dI : Nat → Nat → Nat) (ws : va_W) (tys : List (ClassId × FieldType)) {m_clubOf m_dead m_drawnOf m_drawnTo m_first m_from m_giver m_guard m_guarded m_hasChoice m_hasLaws m_isHurt m_isOut m_isTaken m_last m_laws m_moved m_owner m_pay m_purse m_ringClub m_ringGives m_rise m_sure m_table m_tape m_to m_toldClub m_toldGives m_triedClub m_triedGives m_usedSpare m_worths mo : Nat}  (p0 : Nat) (e0 : ws[p0]? = some (mo, .inr (12, [.ref m_tape, .int 0, .int 0, .int 0, .int 0, .int 0, .int 0, .int 0, .int 0, .int (-1), .ref m_laws, .ref m_hasLaws, .int 0, .int 0, .ref m_clubOf, .ref m_first, .ref m_last, .ref m_pay, .ref m_rise, .ref m_sure, .ref m_hasChoice, .ref m_isTaken, .ref m_isHurt, .ref m_dead, .ref m_usedSpare, .ref m_owner, .ref m_giver, .ref m_guarded, .ref m_drawnOf, .ref m_drawnTo, .int 0, .int 0, .ref m_table, .int 0, .ref m_moved, .ref m_from, .ref m_to, .ref m_guard, .ref m_worths, .ref m_ringClub, .ref m_ringGives, .int 0, .ref m_triedClub, .ref m_triedGives, .int 0, .int 0, .ref m_toldClub, .ref m_toldGives, .ref m_isOut, .ref m_purse, .int 0]))) (c : Int32) (c_t : Int) (h_c : c.toInt = c_t) (q : Int32) (q_t : Int) (h_q : q.toInt = q_t) (n : Int32) (n_t : Int) (h_n : n.toInt = n_t)  : Met l yX12_worth wsX12_worth ({ frames := 3, cells := 0, slots := 0, locals := 192 }) (va_Pc [.ref mo, .int c, .int q, .int n] (xR (dC, dI) tys ws)) (vp_Si (fun r => (r = (-2) ∧ True))) 0 0 (fun _ => False) := by
  refine Met.ofW (cc := cX12_worth) (maxL := 5) (ret := (some .int)) (by decide) rfl ?_
  intro pr_ ev_ s m args below meth cd_ s₁ B hml hv
  obtain ⟨rfl, hE, hK, hP⟩ := hv
  have hx := B.exec
  have hb := B.bytes
  have hr := B.returns
  have hts := atoms_spec (ws := wsX12_worth) B.pre
  have hown : s.vm.findClass RX12 = some m.cls := findClass_of_methodNamed B.named
  have hlocks := B.notSynchronized
  have iX12 : ∀ w ∈ u_ws RX12 TX12 51, w ∈ wsX12_worth := by decide +kernel
  have hl := lv_entry ([.ref mo, .int c, .int q, .int n]) (n := 5) (Nat.le_of_ble_eq_true rfl)
  rw [lg_entry_eq]
  generalize (lg_sl ([.ref mo, .int c, .int q, .int n]) ++ List.replicate (5 - (lg_sl ([.ref mo, .int c, .int q, .int n])).length) Slot.unset).toArray = ls at hl ⊢
  have hl : lv_has ls 5 [(0, .ref mo), (1, .int c), (2, .int q), (3, .int n)] := hl
  have lo_c := xi_lo c
  have hi_c := xi_hi c
  have lo_q := xi_lo q
  have hi_q := xi_hi q
  have lo_n := xi_lo n
  have hi_n := xi_hi n
  refine lv_iload_n hx hb dX12_worth_0 rfl (lv_at hl 1 rfl) ?_
  refine vp_callSi (W.runS (As := [.int c]) (rest := []) ⟨hx, hb, hml, hown, hts⟩ (cX12_isClub_ l dC dI ws tys c (c.toInt) rfl) (va_cwS 1 hts gX12_worth_X12_isClub rfl rfl rfl (by decide +kernel) ⟨Nat.le_of_ble_eq_true rfl, Nat.le_of_ble_eq_true rfl⟩) ⟨xR_blind _ _ _ _, xR_pre _ hE hK hP⟩ rfl rfl hl.1 rfl (lv_room (Nat.le_of_ble_eq_true rfl)) dX12_worth_1 ⟨Nat.le_of_ble_eq_true rfl, Nat.le_of_ble_eq_true rfl⟩) (fun rh1 h1 => ?_)
  rcases h1 with ⟨rfl, h1⟩ | ⟨rfl, h1⟩
  · skip
    refine lv_if_eq (tgt := 27) hx hb dX12_worth_4 (by decide) (fun h => absurd h (by decide)) (fun _ => ?_)
    refine lv_aload_n hx hb dX12_worth_7 rfl (lv_at hl 0 rfl) ?_
    refine lv_iload_n hx hb dX12_worth_8 rfl (lv_at hl 2 rfl) ?_
    refine vp_callSi (W.runV (As := [.int q]) (rest := []) ⟨hx, hb, hml, hown, hts⟩ (cX12_isPlayer_ l dC dI ws tys p0 e0 q (q.toInt) rfl) (cwV 1 hts gX12_worth_X12_isPlayer rfl rfl rfl (by decide +kernel) ⟨Nat.le_of_ble_eq_true rfl, Nat.le_of_ble_eq_true rfl⟩) ⟨xR_blind _ _ _ _, va_recv hK hP (ci := 12) (q0 := p0) rfl e0, xR_pre _ hE hK hP⟩ rfl rfl hl.1 rfl (lv_room (Nat.le_of_ble_eq_true rfl)) dX12_worth_9 ⟨Nat.le_of_ble_eq_true rfl, Nat.le_of_ble_eq_true rfl⟩) (fun rh3 h3 => ?_)
    obtain ⟨rfl, h3⟩ := h3
    refine lv_if_eq (tgt := 27) hx hb dX12_worth_12 (by decide) (fun _ => ?_) (fun h => absurd (by decide) h)
    refine lv_bipush (v := (-2)) hx hb dX12_worth_27 (by decide) ?_
    exact W.iret (v := (-2)) hx hb hr (fun t ht hW => ⟨(-2), rfl, by first | exact ⟨by first | rfl | exact xi_k (k := (-2)) (by decide) (by omega), by first | trivial | omega⟩, ht⟩) (fun _ h => by cases h) dX12_worth_29
  · skip
    refine lv_if_eq (tgt := 27) hx hb dX12_worth_4 (by decide) (fun _ => ?_) (fun h => absurd (by decide) h)
    refine lv_bipush (v := (-2)) hx hb dX12_worth_27 (by decide) ?_
    exact W.iret (v := (-2)) hx hb hr (fun t ht hW => ⟨(-2), rfl, by first | exact ⟨by first | rfl | exact xi_k (k := (-2)) (by decide) (by omega), by first | trivial | omega⟩, ht⟩) (fun _ h => by cases h) dX12_worth_29
set_option maxHeartbeats 4000000 in
set_option maxRecDepth 100000 in
theorem mX_ringed (l : Launch) (dC : Nat → ClassId) (dI : Nat → Nat → Nat) (ws : va_W) (tys : List (ClassId × FieldType)) {m_clubOf m_dead m_drawnOf m_drawnTo m_first m_from m_giver m_guard m_guarded m_hasChoice m_hasLaws m_isHurt m_isOut m_isTaken m_last m_laws m_moved m_owner m_pay m_purse m_ringClub m_ringGives m_rise m_sure m_table m_tape m_to m_toldClub m_toldGives m_triedClub m_triedGives m_usedSpare m_worths mo : Nat}  (p0 : Nat) (e0 : ws[p0]? = some (mo, .inr (12, [.ref m_tape, .int 0, .int 0, .int 0, .int 0, .int 0, .int 0, .int 0, .int 0, .int (-1), .ref m_laws, .ref m_hasLaws, .int 0, .int 0, .ref m_clubOf, .ref m_first, .ref m_last, .ref m_pay, .ref m_rise, .ref m_sure, .ref m_hasChoice, .ref m_isTaken, .ref m_isHurt, .ref m_dead, .ref m_usedSpare, .ref m_owner, .ref m_giver, .ref m_guarded, .ref m_drawnOf, .ref m_drawnTo, .int 0, .int 0, .ref m_table, .int 0, .ref m_moved, .ref m_from, .ref m_to, .ref m_guard, .ref m_worths, .ref m_ringClub, .ref m_ringGives, .int 0, .ref m_triedClub, .ref m_triedGives, .int 0, .int 0, .ref m_toldClub, .ref m_toldGives, .ref m_isOut, .ref m_purse, .int 0]))) (q : Int32) (q_t : Int) (h_q : q.toInt = q_t)  : Met l yX12_ringed wsX12_ringed ({ frames := 1, cells := 0, slots := 0, locals := 64 }) (va_Pc [.ref mo, .int q] (xR (dC, dI) tys ws)) (vp_Si (fun r => (r = (-1) ∧ True))) 0 0 (fun _ => False) := by
  refine Met.ofW (cc := cX12_ringed) (maxL := 2) (ret := (some .int)) (by decide) rfl ?_
  intro pr_ ev_ s m args below meth cd_ s₁ B hml hv
  obtain ⟨rfl, hE, hK, hP⟩ := hv
  have hx := B.exec
  have hb := B.bytes
  have hr := B.returns
  have hts := atoms_spec (ws := wsX12_ringed) B.pre
  have hown : s.vm.findClass RX12 = some m.cls := findClass_of_methodNamed B.named
  have hlocks := B.notSynchronized
  have iX12 : ∀ w ∈ u_ws RX12 TX12 51, w ∈ wsX12_ringed := by decide +kernel
  have hl := lv_entry ([.ref mo, .int q]) (n := 2) (Nat.le_of_ble_eq_true rfl)
  rw [lg_entry_eq]
  generalize (lg_sl ([.ref mo, .int q]) ++ List.replicate (2 - (lg_sl ([.ref mo, .int q])).length) Slot.unset).toArray = ls at hl ⊢
  have hl : lv_has ls 2 [(0, .ref mo), (1, .int q)] := hl
  have lo_q := xi_lo q
  have hi_q := xi_hi q
  refine lv_aload_n hx hb dX12_ringed_0 rfl (lv_at hl 0 rfl) ?_
  refine va_get (D := (dC, dI)) (ci := 12) (v := .int 0) (C := RX12) (T := TX12) (N := 51) hx hb hts iX12 hown hK hP p0 e0 rfl 41 (by decide) (hts (.fieldLink RX12 297 "CapLeagueModel" "ringMany" "I") (by decide +kernel)) (fun _ h9 => h9) rfl dX12_ringed_1 ?_
  refine lv_if_ne (tgt := 9) hx hb dX12_ringed_4 (by decide) (fun h => absurd (by decide) h) (fun _ => ?_)
  refine lv_iconst (v := (-1)) hx hb dX12_ringed_7 (by decide) ?_
  exact W.iret (v := (-1)) hx hb hr (fun t ht hW => ⟨(-1), rfl, by first | exact ⟨by first | rfl | exact xi_k (k := (-1)) (by decide) (by omega), by first | trivial | omega⟩, ht⟩) (fun _ h => by cases h) dX12_ringed_8
set_option maxHeartbeats 4000000 in
set_option maxRecDepth 100000 in
theorem mX_next (l : Launch) (dC : Nat → ClassId) (dI : Nat → Nat → Nat) (ws : va_W) (tys : List (ClassId × FieldType)) {m_clubOf m_dead m_drawnOf m_drawnTo m_first m_from m_giver m_guard m_guarded m_hasChoice m_hasLaws m_isHurt m_isOut m_isTaken m_last m_laws m_moved m_owner m_pay m_purse m_ringClub m_ringGives m_rise m_sure m_table m_tape m_to m_toldClub m_toldGives m_triedClub m_triedGives m_usedSpare m_worths mo : Nat}  (p0 : Nat) (e0 : ws[p0]? = some (mo, .inr (12, [.ref m_tape, .int 0, .int 0, .int 0, .int 0, .int 0, .int 0, .int 0, .int 0, .int (-1), .ref m_laws, .ref m_hasLaws, .int 0, .int 0, .ref m_clubOf, .ref m_first, .ref m_last, .ref m_pay, .ref m_rise, .ref m_sure, .ref m_hasChoice, .ref m_isTaken, .ref m_isHurt, .ref m_dead, .ref m_usedSpare, .ref m_owner, .ref m_giver, .ref m_guarded, .ref m_drawnOf, .ref m_drawnTo, .int 0, .int 0, .ref m_table, .int 0, .ref m_moved, .ref m_from, .ref m_to, .ref m_guard, .ref m_worths, .ref m_ringClub, .ref m_ringGives, .int 0, .ref m_triedClub, .ref m_triedGives, .int 0, .int 0, .ref m_toldClub, .ref m_toldGives, .ref m_isOut, .ref m_purse, .int 0])))   : Met l yX12_next wsX12_next ({ frames := 1, cells := 0, slots := 0, locals := 64 }) (va_Pc [.ref mo] (xR (dC, dI) tys ws)) (vp_Si (fun r => (r = (-4) ∧ True))) 0 0 (fun _ => False) := by
  refine Met.ofW (cc := cX12_next) (maxL := 6) (ret := (some .int)) (by decide) rfl ?_
  intro pr_ ev_ s m args below meth cd_ s₁ B hml hv
  obtain ⟨rfl, hE, hK, hP⟩ := hv
  have hx := B.exec
  have hb := B.bytes
  have hr := B.returns
  have hts := atoms_spec (ws := wsX12_next) B.pre
  have hown : s.vm.findClass RX12 = some m.cls := findClass_of_methodNamed B.named
  have hlocks := B.notSynchronized
  have iX12 : ∀ w ∈ u_ws RX12 TX12 51, w ∈ wsX12_next := by decide +kernel
  have hl := lv_entry ([.ref mo]) (n := 6) (Nat.le_of_ble_eq_true rfl)
  rw [lg_entry_eq]
  generalize (lg_sl ([.ref mo]) ++ List.replicate (6 - (lg_sl ([.ref mo])).length) Slot.unset).toArray = ls at hl ⊢
  have hl : lv_has ls 6 [(0, .ref mo)] := hl
  refine lv_aload_n hx hb dX12_next_0 rfl (lv_at hl 0 rfl) ?_
  refine va_get (D := (dC, dI)) (ci := 12) (v := .int 0) (C := RX12) (T := TX12) (N := 51) hx hb hts iX12 hown hK hP p0 e0 rfl 12 (by decide) (hts (.fieldLink RX12 187 "CapLeagueModel" "clock" "I") (by decide +kernel)) (fun _ h9 => h9) rfl dX12_next_1 ?_
  refine lv_bipush (v := 9) hx hb dX12_next_4 (by decide) ?_
  refine lv_icmp_eq (tgt := 16) hx hb dX12_next_6 (by decide) (fun h => absurd h (by decide)) (fun _ => ?_)
  refine lv_aload_n hx hb dX12_next_9 rfl (lv_at hl 0 rfl) ?_
  refine va_get (D := (dC, dI)) (ci := 12) (v := .int 0) (C := RX12) (T := TX12) (N := 51) hx hb hts iX12 hown hK hP p0 e0 rfl 31 (by decide) (hts (.fieldLink RX12 264 "CapLeagueModel" "isDrawn" "Z") (by decide +kernel)) (fun _ h9 => h9) rfl dX12_next_10 ?_
  refine lv_if_ne (tgt := 19) hx hb dX12_next_13 (by decide) (fun h => absurd (by decide) h) (fun _ => ?_)
  refine lv_bipush (v := (-4)) hx hb dX12_next_16 (by decide) ?_
  exact W.iret (v := (-4)) hx hb hr (fun t ht hW => ⟨(-4), rfl, by first | exact ⟨by first | rfl | exact xi_k (k := (-4)) (by decide) (by omega), by first | trivial | omega⟩, ht⟩) (fun _ h => by cases h) dX12_next_18
set_option maxHeartbeats 4000000 in
set_option maxRecDepth 100000 in
theorem mX_purse (l : Launch) (dC : Nat → ClassId) (dI : Nat → Nat → Nat) (ws : va_W) (tys : List (ClassId × FieldType)) {m_clubOf m_dead m_drawnOf m_drawnTo m_first m_from m_giver m_guard m_guarded m_hasChoice m_hasLaws m_isHurt m_isOut m_isTaken m_last m_laws m_moved m_owner m_pay m_purse m_ringClub m_ringGives m_rise m_sure m_table m_tape m_to m_toldClub m_toldGives m_triedClub m_triedGives m_usedSpare m_worths mo : Nat} {k_purse : ClassId}  (p0 : Nat) (e0 : ws[p0]? = some (mo, .inr (12, [.ref m_tape, .int 0, .int 0, .int 0, .int 0, .int 0, .int 0, .int 0, .int 0, .int (-1), .ref m_laws, .ref m_hasLaws, .int 0, .int 0, .ref m_clubOf, .ref m_first, .ref m_last, .ref m_pay, .ref m_rise, .ref m_sure, .ref m_hasChoice, .ref m_isTaken, .ref m_isHurt, .ref m_dead, .ref m_usedSpare, .ref m_owner, .ref m_giver, .ref m_guarded, .ref m_drawnOf, .ref m_drawnTo, .int 0, .int 0, .ref m_table, .int 0, .ref m_moved, .ref m_from, .ref m_to, .ref m_guard, .ref m_worths, .ref m_ringClub, .ref m_ringGives, .int 0, .ref m_triedClub, .ref m_triedGives, .int 0, .int 0, .ref m_toldClub, .ref m_toldGives, .ref m_isOut, .ref m_purse, .int 0]))) (p1 : Nat) (e1 : ws[p1]? = some (m_purse, .inl (k_purse, 8, .inl (fun _ => 0)))) (t1 : Nat) (y1 : tys[t1]? = some (k_purse, .int)) (c : Int32) (c_t : Int) (h_c : c.toInt = c_t)  : Met l yX12_purse wsX12_purse ({ frames := 3, cells := 0, slots := 0, locals := 192 }) (va_Pc [.ref mo, .int c] (xR (dC, dI) tys ws)) (vp_Si (fun r => (r = 0 ∧ 0 ≤ c_t ∧ c_t ≤ 7) ∨ (r = (-2000000000) ∧ ¬ (0 ≤ c_t ∧ c_t ≤ 7)))) 0 0 (fun _ => False) := by
  refine Met.ofW (cc := cX12_purse) (maxL := 2) (ret := (some .int)) (by decide) rfl ?_
  intro pr_ ev_ s m args below meth cd_ s₁ B hml hv
  obtain ⟨rfl, hE, hK, hP⟩ := hv
  have hx := B.exec
  have hb := B.bytes
  have hr := B.returns
  have hts := atoms_spec (ws := wsX12_purse) B.pre
  have hown : s.vm.findClass RX12 = some m.cls := findClass_of_methodNamed B.named
  have hlocks := B.notSynchronized
  have iX12 : ∀ w ∈ u_ws RX12 TX12 51, w ∈ wsX12_purse := by decide +kernel
  have hl := lv_entry ([.ref mo, .int c]) (n := 2) (Nat.le_of_ble_eq_true rfl)
  rw [lg_entry_eq]
  generalize (lg_sl ([.ref mo, .int c]) ++ List.replicate (2 - (lg_sl ([.ref mo, .int c])).length) Slot.unset).toArray = ls at hl ⊢
  have hl : lv_has ls 2 [(0, .ref mo), (1, .int c)] := hl
  have lo_c := xi_lo c
  have hi_c := xi_hi c
  refine lv_iload_n hx hb dX12_purse_0 rfl (lv_at hl 1 rfl) ?_
  refine vp_callSi (W.runS (As := [.int c]) (rest := []) ⟨hx, hb, hml, hown, hts⟩ (cX12_isClub_ l dC dI ws tys c (c.toInt) rfl) (va_cwS 1 hts gX12_purse_X12_isClub rfl rfl rfl (by decide +kernel) ⟨Nat.le_of_ble_eq_true rfl, Nat.le_of_ble_eq_true rfl⟩) ⟨xR_blind _ _ _ _, xR_pre _ hE hK hP⟩ rfl rfl hl.1 rfl (lv_room (Nat.le_of_ble_eq_true rfl)) dX12_purse_1 ⟨Nat.le_of_ble_eq_true rfl, Nat.le_of_ble_eq_true rfl⟩) (fun rh1 h1 => ?_)
  rcases h1 with ⟨rfl, h1⟩ | ⟨rfl, h1⟩
  · skip
    refine lv_if_eq (tgt := 16) hx hb dX12_purse_4 (by decide) (fun h => absurd h (by decide)) (fun _ => ?_)
    refine lv_aload_n hx hb dX12_purse_7 rfl (lv_at hl 0 rfl) ?_
    refine va_get (D := (dC, dI)) (ci := 12) (v := .ref m_purse) (C := RX12) (T := TX12) (N := 51) hx hb hts iX12 hown hK hP p0 e0 rfl 49 (by decide) (hts (.fieldLink RX12 112 "CapLeagueModel" "purse" "[I") (by decide +kernel)) (fun _ h9 => h9) rfl dX12_purse_8 ?_
    refine lv_iload_n hx hb dX12_purse_11 rfl (lv_at hl 1 rfl) ?_
    refine va_iald (D := (dC, dI)) hx hb hK hP p1 t1 e1 y1 (xi_in (by omega) (by omega)) dX12_purse_12 ?_
    refine xw_i (v := 0) rfl ?_
    refine lv_goto (tgt := 19) hx hb dX12_purse_13 (by decide) ?_
    exact W.iret (v := 0) hx hb hr (fun t ht hW => ⟨0, rfl, by first | exact Or.inl ⟨by first | rfl | exact xi_k (k := 0) (by decide) (by omega), by first | trivial | omega⟩ | exact Or.inr (⟨by first | rfl | exact xi_k (k := (-2000000000)) (by decide) (by omega), by first | trivial | omega⟩), ht⟩) (fun _ h => by cases h) dX12_purse_19
  · skip
    refine lv_if_eq (tgt := 16) hx hb dX12_purse_4 (by decide) (fun _ => ?_) (fun h => absurd (by decide) h)
    refine lv_ldcw (v := (-2000000000)) hx hb hown (hts (.constant RX12 277 (-2000000000)) (by decide +kernel)) dX12_purse_16 ?_
    exact W.iret (v := (-2000000000)) hx hb hr (fun t ht hW => ⟨(-2000000000), rfl, by first | exact Or.inl ⟨by first | rfl | exact xi_k (k := 0) (by decide) (by omega), by first | trivial | omega⟩ | exact Or.inr (⟨by first | rfl | exact xi_k (k := (-2000000000)) (by decide) (by omega), by first | trivial | omega⟩), ht⟩) (fun _ h => by cases h) dX12_purse_19
set_option maxHeartbeats 4000000 in
set_option maxRecDepth 100000 in
theorem mX_count (l : Launch) (dC : Nat → ClassId) (dI : Nat → Nat → Nat) (ws : va_W) (tys : List (ClassId × FieldType)) {m_clubOf m_dead m_drawnOf m_drawnTo m_first m_from m_giver m_guard m_guarded m_hasChoice m_hasLaws m_isHurt m_isOut m_isTaken m_last m_laws m_moved m_owner m_pay m_purse m_ringClub m_ringGives m_rise m_sure m_table m_tape m_to m_toldClub m_toldGives m_triedClub m_triedGives m_usedSpare m_worths mo : Nat}  (p0 : Nat) (e0 : ws[p0]? = some (mo, .inr (12, [.ref m_tape, .int 0, .int 0, .int 0, .int 0, .int 0, .int 0, .int 0, .int 0, .int (-1), .ref m_laws, .ref m_hasLaws, .int 0, .int 0, .ref m_clubOf, .ref m_first, .ref m_last, .ref m_pay, .ref m_rise, .ref m_sure, .ref m_hasChoice, .ref m_isTaken, .ref m_isHurt, .ref m_dead, .ref m_usedSpare, .ref m_owner, .ref m_giver, .ref m_guarded, .ref m_drawnOf, .ref m_drawnTo, .int 0, .int 0, .ref m_table, .int 0, .ref m_moved, .ref m_from, .ref m_to, .ref m_guard, .ref m_worths, .ref m_ringClub, .ref m_ringGives, .int 0, .ref m_triedClub, .ref m_triedGives, .int 0, .int 0, .ref m_toldClub, .ref m_toldGives, .ref m_isOut, .ref m_purse, .int 0]))) (q : Int32) (q_t : Int) (h_q : q.toInt = q_t)  : Met l yX12_count wsX12_count ({ frames := 1, cells := 0, slots := 0, locals := 64 }) (va_Pc [.ref mo, .int q] (xR (dC, dI) tys ws)) (vp_Si (fun r => (r = 0 ∧ 0 ≤ q_t ∧ q_t ≤ 6) ∨ (r = (-1) ∧ ¬ (0 ≤ q_t ∧ q_t ≤ 6)))) 0 0 (fun _ => False) := by
  refine Met.ofW (cc := cX12_count) (maxL := 2) (ret := (some .int)) (by decide) rfl ?_
  intro pr_ ev_ s m args below meth cd_ s₁ B hml hv
  obtain ⟨rfl, hE, hK, hP⟩ := hv
  have hx := B.exec
  have hb := B.bytes
  have hr := B.returns
  have hts := atoms_spec (ws := wsX12_count) B.pre
  have hown : s.vm.findClass RX12 = some m.cls := findClass_of_methodNamed B.named
  have hlocks := B.notSynchronized
  have iX12 : ∀ w ∈ u_ws RX12 TX12 51, w ∈ wsX12_count := by decide +kernel
  have hl := lv_entry ([.ref mo, .int q]) (n := 2) (Nat.le_of_ble_eq_true rfl)
  rw [lg_entry_eq]
  generalize (lg_sl ([.ref mo, .int q]) ++ List.replicate (2 - (lg_sl ([.ref mo, .int q])).length) Slot.unset).toArray = ls at hl ⊢
  have hl : lv_has ls 2 [(0, .ref mo), (1, .int q)] := hl
  have lo_q := xi_lo q
  have hi_q := xi_hi q
  refine lv_iload_n hx hb dX12_count_0 rfl (lv_at hl 1 rfl) ?_
  rcases (show (q.toInt < 0 ∨ 6 < q.toInt) ∨ q.toInt = 0 ∨ q.toInt = 1 ∨ q.toInt = 2 ∨ q.toInt = 3 ∨ q.toInt = 4 ∨ q.toInt = 5 ∨ q.toInt = 6 by omega) with c1 | c1 | c1 | c1 | c1 | c1 | c1 | c1
  · refine lv_tableOut (tgt := 95) hx hb dX12_count_1 c1 (by decide) ?_
    refine lv_iconst (v := (-1)) hx hb dX12_count_95 (by decide) ?_
    exact W.iret (v := (-1)) hx hb hr (fun t ht hW => ⟨(-1), rfl, by first | exact Or.inl ⟨by first | rfl | exact xi_k (k := 0) (by decide) (by omega), by first | trivial | omega⟩ | exact Or.inr (⟨by first | rfl | exact xi_k (k := (-1)) (by decide) (by omega), by first | trivial | omega⟩), ht⟩) (fun _ h => by cases h) dX12_count_96
  · refine lv_tableIn (off := 43) (tgt := 44) hx hb dX12_count_1 (by omega) (by omega) (by rw [show (q.toInt - 0).toNat = 0 by omega]; rfl) (by decide) ?_
    refine lv_aload_n hx hb dX12_count_44 rfl (lv_at hl 0 rfl) ?_
    refine va_get (D := (dC, dI)) (ci := 12) (v := .int 0) (C := RX12) (T := TX12) (N := 51) hx hb hts iX12 hown hK hP p0 e0 rfl 12 (by decide) (hts (.fieldLink RX12 187 "CapLeagueModel" "clock" "I") (by decide +kernel)) (fun _ h9 => h9) rfl dX12_count_45 ?_
    exact W.iret (v := 0) hx hb hr (fun t ht hW => ⟨0, rfl, by first | exact Or.inl ⟨by first | rfl | exact xi_k (k := 0) (by decide) (by omega), by first | trivial | omega⟩ | exact Or.inr (⟨by first | rfl | exact xi_k (k := (-1)) (by decide) (by omega), by first | trivial | omega⟩), ht⟩) (fun _ h => by cases h) dX12_count_48
  · refine lv_tableIn (off := 48) (tgt := 49) hx hb dX12_count_1 (by omega) (by omega) (by rw [show (q.toInt - 0).toNat = 1 by omega]; rfl) (by decide) ?_
    refine lv_aload_n hx hb dX12_count_49 rfl (lv_at hl 0 rfl) ?_
    refine va_get (D := (dC, dI)) (ci := 12) (v := .int 0) (C := RX12) (T := TX12) (N := 51) hx hb hts iX12 hown hK hP p0 e0 rfl 13 (by decide) (hts (.fieldLink RX12 202 "CapLeagueModel" "players" "I") (by decide +kernel)) (fun _ h9 => h9) rfl dX12_count_50 ?_
    exact W.iret (v := 0) hx hb hr (fun t ht hW => ⟨0, rfl, by first | exact Or.inl ⟨by first | rfl | exact xi_k (k := 0) (by decide) (by omega), by first | trivial | omega⟩ | exact Or.inr (⟨by first | rfl | exact xi_k (k := (-1)) (by decide) (by omega), by first | trivial | omega⟩), ht⟩) (fun _ h => by cases h) dX12_count_53
  · refine lv_tableIn (off := 53) (tgt := 54) hx hb dX12_count_1 (by omega) (by omega) (by rw [show (q.toInt - 0).toNat = 2 by omega]; rfl) (by decide) ?_
    refine lv_aload_n hx hb dX12_count_54 rfl (lv_at hl 0 rfl) ?_
    refine va_get (D := (dC, dI)) (ci := 12) (v := .int 0) (C := RX12) (T := TX12) (N := 51) hx hb hts iX12 hown hK hP p0 e0 rfl 33 (by decide) (hts (.fieldLink RX12 247 "CapLeagueModel" "moves" "I") (by decide +kernel)) (fun _ h9 => h9) rfl dX12_count_55 ?_
    exact W.iret (v := 0) hx hb hr (fun t ht hW => ⟨0, rfl, by first | exact Or.inl ⟨by first | rfl | exact xi_k (k := 0) (by decide) (by omega), by first | trivial | omega⟩ | exact Or.inr (⟨by first | rfl | exact xi_k (k := (-1)) (by decide) (by omega), by first | trivial | omega⟩), ht⟩) (fun _ h => by cases h) dX12_count_58
  · refine lv_tableIn (off := 58) (tgt := 59) hx hb dX12_count_1 (by omega) (by omega) (by rw [show (q.toInt - 0).toNat = 3 by omega]; rfl) (by decide) ?_
    refine lv_aload_n hx hb dX12_count_59 rfl (lv_at hl 0 rfl) ?_
    refine va_get (D := (dC, dI)) (ci := 12) (v := .int 0) (C := RX12) (T := TX12) (N := 51) hx hb hts iX12 hown hK hP p0 e0 rfl 50 (by decide) (hts (.fieldLink RX12 329 "CapLeagueModel" "league" "I") (by decide +kernel)) (fun _ h9 => h9) rfl dX12_count_60 ?_
    exact W.iret (v := 0) hx hb hr (fun t ht hW => ⟨0, rfl, by first | exact Or.inl ⟨by first | rfl | exact xi_k (k := 0) (by decide) (by omega), by first | trivial | omega⟩ | exact Or.inr (⟨by first | rfl | exact xi_k (k := (-1)) (by decide) (by omega), by first | trivial | omega⟩), ht⟩) (fun _ h => by cases h) dX12_count_63
  · refine lv_tableIn (off := 63) (tgt := 64) hx hb dX12_count_1 (by omega) (by omega) (by rw [show (q.toInt - 0).toNat = 4 by omega]; rfl) (by decide) ?_
    refine lv_aload_n hx hb dX12_count_64 rfl (lv_at hl 0 rfl) ?_
    refine va_get (D := (dC, dI)) (ci := 12) (v := .int 0) (C := RX12) (T := TX12) (N := 51) hx hb hts iX12 hown hK hP p0 e0 rfl 1 (by decide) (hts (.fieldLink RX12 119 "CapLeagueModel" "taped" "I") (by decide +kernel)) (fun _ h9 => h9) rfl dX12_count_65 ?_
    exact W.iret (v := 0) hx hb hr (fun t ht hW => ⟨0, rfl, by first | exact Or.inl ⟨by first | rfl | exact xi_k (k := 0) (by decide) (by omega), by first | trivial | omega⟩ | exact Or.inr (⟨by first | rfl | exact xi_k (k := (-1)) (by decide) (by omega), by first | trivial | omega⟩), ht⟩) (fun _ h => by cases h) dX12_count_68
  · refine lv_tableIn (off := 68) (tgt := 69) hx hb dX12_count_1 (by omega) (by omega) (by rw [show (q.toInt - 0).toNat = 5 by omega]; rfl) (by decide) ?_
    refine lv_aload_n hx hb dX12_count_69 rfl (lv_at hl 0 rfl) ?_
    refine va_get (D := (dC, dI)) (ci := 12) (v := .int 0) (C := RX12) (T := TX12) (N := 51) hx hb hts iX12 hown hK hP p0 e0 rfl 30 (by decide) (hts (.fieldLink RX12 306 "CapLeagueModel" "hasTable" "Z") (by decide +kernel)) (fun _ h9 => h9) rfl dX12_count_70 ?_
    refine lv_if_eq (tgt := 80) hx hb dX12_count_73 (by decide) (fun _ => ?_) (fun h => absurd (by decide) h)
    refine lv_iconst (v := 0) hx hb dX12_count_80 (by decide) ?_
    exact W.iret (v := 0) hx hb hr (fun t ht hW => ⟨0, rfl, by first | exact Or.inl ⟨by first | rfl | exact xi_k (k := 0) (by decide) (by omega), by first | trivial | omega⟩ | exact Or.inr (⟨by first | rfl | exact xi_k (k := (-1)) (by decide) (by omega), by first | trivial | omega⟩), ht⟩) (fun _ h => by cases h) dX12_count_81
  · refine lv_tableIn (off := 81) (tgt := 82) hx hb dX12_count_1 (by omega) (by omega) (by rw [show (q.toInt - 0).toNat = 6 by omega]; rfl) (by decide) ?_
    refine lv_aload_n hx hb dX12_count_82 rfl (lv_at hl 0 rfl) ?_
    refine va_get (D := (dC, dI)) (ci := 12) (v := .int 0) (C := RX12) (T := TX12) (N := 51) hx hb hts iX12 hown hK hP p0 e0 rfl 31 (by decide) (hts (.fieldLink RX12 264 "CapLeagueModel" "isDrawn" "Z") (by decide +kernel)) (fun _ h9 => h9) rfl dX12_count_83 ?_
    refine lv_if_eq (tgt := 93) hx hb dX12_count_86 (by decide) (fun _ => ?_) (fun h => absurd (by decide) h)
    refine lv_iconst (v := 0) hx hb dX12_count_93 (by decide) ?_
    exact W.iret (v := 0) hx hb hr (fun t ht hW => ⟨0, rfl, by first | exact Or.inl ⟨by first | rfl | exact xi_k (k := 0) (by decide) (by omega), by first | trivial | omega⟩ | exact Or.inr (⟨by first | rfl | exact xi_k (k := (-1)) (by decide) (by omega), by first | trivial | omega⟩), ht⟩) (fun _ h => by cases h) dX12_count_94
set_option maxHeartbeats 4000000 in
set_option maxRecDepth 100000 in
theorem mX_club (l : Launch) (dC : Nat → ClassId) (dI : Nat → Nat → Nat) (ws : va_W) (tys : List (ClassId × FieldType)) {m_clubOf m_dead m_drawnOf m_drawnTo m_first m_from m_giver m_guard m_guarded m_hasChoice m_hasLaws m_isHurt m_isOut m_isTaken m_last m_laws m_moved m_owner m_pay m_purse m_ringClub m_ringGives m_rise m_sure m_table m_tape m_to m_toldClub m_toldGives m_triedClub m_triedGives m_usedSpare m_worths mo : Nat} {k_dead k_usedSpare : ClassId}  (p0 : Nat) (e0 : ws[p0]? = some (mo, .inr (12, [.ref m_tape, .int 0, .int 0, .int 0, .int 0, .int 0, .int 0, .int 0, .int 0, .int (-1), .ref m_laws, .ref m_hasLaws, .int 0, .int 0, .ref m_clubOf, .ref m_first, .ref m_last, .ref m_pay, .ref m_rise, .ref m_sure, .ref m_hasChoice, .ref m_isTaken, .ref m_isHurt, .ref m_dead, .ref m_usedSpare, .ref m_owner, .ref m_giver, .ref m_guarded, .ref m_drawnOf, .ref m_drawnTo, .int 0, .int 0, .ref m_table, .int 0, .ref m_moved, .ref m_from, .ref m_to, .ref m_guard, .ref m_worths, .ref m_ringClub, .ref m_ringGives, .int 0, .ref m_triedClub, .ref m_triedGives, .int 0, .int 0, .ref m_toldClub, .ref m_toldGives, .ref m_isOut, .ref m_purse, .int 0]))) (p1 : Nat) (e1 : ws[p1]? = some (m_dead, .inl (k_dead, 80, .inl (fun _ => 0)))) (t1 : Nat) (y1 : tys[t1]? = some (k_dead, .int)) (p2 : Nat) (e2 : ws[p2]? = some (m_usedSpare, .inl (k_usedSpare, 8, .inl (fun _ => 0)))) (t2 : Nat) (y2 : tys[t2]? = some (k_usedSpare, .boolean)) (c : Int32) (c_t : Int) (h_c : c.toInt = c_t) (y : Int32) (y_t : Int) (h_y : y.toInt = y_t) (q : Int32) (q_t : Int) (h_q : q.toInt = q_t)  : Met l yX12_club wsX12_club ({ frames := 3, cells := 0, slots := 0, locals := 192 }) (va_Pc [.ref mo, .int c, .int y, .int q] (xR (dC, dI) tys ws)) (vp_Si (fun r => (r = 0 ∧ (0 ≤ c_t ∧ c_t ≤ 7 ∧ 0 ≤ y_t ∧ y_t ≤ 9 ∧ 0 ≤ q_t ∧ q_t ≤ 3)) ∨ (r = (-2) ∧ ¬ (0 ≤ c_t ∧ c_t ≤ 7 ∧ 0 ≤ y_t ∧ y_t ≤ 9 ∧ 0 ≤ q_t ∧ q_t ≤ 3)))) 0 0 (fun _ => False) := by
  refine Met.ofW (cc := cX12_club) (maxL := 4) (ret := (some .int)) (by decide) rfl ?_
  intro pr_ ev_ s m args below meth cd_ s₁ B hml hv
  obtain ⟨rfl, hE, hK, hP⟩ := hv
  have hx := B.exec
  have hb := B.bytes
  have hr := B.returns
  have hts := atoms_spec (ws := wsX12_club) B.pre
  have hown : s.vm.findClass RX12 = some m.cls := findClass_of_methodNamed B.named
  have hlocks := B.notSynchronized
  have iX12 : ∀ w ∈ u_ws RX12 TX12 51, w ∈ wsX12_club := by decide +kernel
  have hl := lv_entry ([.ref mo, .int c, .int y, .int q]) (n := 4) (Nat.le_of_ble_eq_true rfl)
  rw [lg_entry_eq]
  generalize (lg_sl ([.ref mo, .int c, .int y, .int q]) ++ List.replicate (4 - (lg_sl ([.ref mo, .int c, .int y, .int q])).length) Slot.unset).toArray = ls at hl ⊢
  have hl : lv_has ls 4 [(0, .ref mo), (1, .int c), (2, .int y), (3, .int q)] := hl
  have lo_c := xi_lo c
  have hi_c := xi_hi c
  have lo_y := xi_lo y
  have hi_y := xi_hi y
  have lo_q := xi_lo q
  have hi_q := xi_hi q
  refine lv_iload_n hx hb dX12_club_0 rfl (lv_at hl 1 rfl) ?_
  refine vp_callSi (W.runS (As := [.int c]) (rest := []) ⟨hx, hb, hml, hown, hts⟩ (cX12_isClub_ l dC dI ws tys c (c.toInt) rfl) (va_cwS 1 hts gX12_club_X12_isClub rfl rfl rfl (by decide +kernel) ⟨Nat.le_of_ble_eq_true rfl, Nat.le_of_ble_eq_true rfl⟩) ⟨xR_blind _ _ _ _, xR_pre _ hE hK hP⟩ rfl rfl hl.1 rfl (lv_room (Nat.le_of_ble_eq_true rfl)) dX12_club_1 ⟨Nat.le_of_ble_eq_true rfl, Nat.le_of_ble_eq_true rfl⟩) (fun rh1 h1 => ?_)
  rcases h1 with ⟨rfl, h1⟩ | ⟨rfl, h1⟩
  · skip
    refine lv_if_eq (tgt := 23) hx hb dX12_club_4 (by decide) (fun h => absurd h (by decide)) (fun _ => ?_)
    refine lv_iload_n hx hb dX12_club_7 rfl (lv_at hl 2 rfl) ?_
    refine lv_i2l hx hb dX12_club_8 rfl ?_
    refine lv_aload_n hx hb dX12_club_9 rfl (lv_at hl 0 rfl) ?_
    refine va_get (D := (dC, dI)) (ci := 12) (v := .int 0) (C := RX12) (T := TX12) (N := 51) hx hb hts iX12 hown hK hP p0 e0 rfl 12 (by decide) (hts (.fieldLink RX12 187 "CapLeagueModel" "clock" "I") (by decide +kernel)) (fun _ h9 => h9) rfl dX12_club_10 ?_
    refine lv_i2l (v := 0) hx hb dX12_club_13 (by decide) ?_
    refine lv_ldc2 (v := 9) hx hb hown (hts (.constantLong RX12 190 (9)) (by decide +kernel)) dX12_club_14 ?_
    refine vp_callSi (W.runS (As := [.long y.toInt64, .long 0, .long 9]) (rest := []) ⟨hx, hb, hml, hown, hts⟩ (cX12_in_ l dC dI ws tys y.toInt64 (y.toInt) (xi_64 y) 0 (0) (by decide) 9 (9) (by decide)) (va_cwS 3 hts gX12_club_X12_in rfl rfl rfl (by decide +kernel) ⟨Nat.le_of_ble_eq_true rfl, Nat.le_of_ble_eq_true rfl⟩) ⟨xR_blind _ _ _ _, xR_pre _ hE hK hP⟩ rfl rfl hl.1 rfl (lv_room (Nat.le_of_ble_eq_true rfl)) dX12_club_17 ⟨Nat.le_of_ble_eq_true rfl, Nat.le_of_ble_eq_true rfl⟩) (fun rh3 h3 => ?_)
    rcases h3 with ⟨rfl, h3⟩ | ⟨rfl, h3⟩
    · skip
      refine lv_if_ne (tgt := 26) hx hb dX12_club_20 (by decide) (fun _ => ?_) (fun h => absurd h (by decide))
      refine lv_iload_n hx hb dX12_club_26 rfl (lv_at hl 3 rfl) ?_
      rcases (show (q.toInt < 0 ∨ 3 < q.toInt) ∨ q.toInt = 0 ∨ q.toInt = 1 ∨ q.toInt = 2 ∨ q.toInt = 3 by omega) with c5 | c5 | c5 | c5 | c5
      · refine lv_tableOut (tgt := 105) hx hb dX12_club_27 c5 (by decide) ?_
        refine lv_bipush (v := (-2)) hx hb dX12_club_105 (by decide) ?_
        exact W.iret (v := (-2)) hx hb hr (fun t ht hW => ⟨(-2), rfl, by first | exact Or.inl ⟨by first | rfl | exact xi_k (k := 0) (by decide) (by omega), by first | trivial | omega⟩ | exact Or.inr (⟨by first | rfl | exact xi_k (k := (-2)) (by decide) (by omega), by first | trivial | omega⟩), ht⟩) (fun _ h => by cases h) dX12_club_107
      · refine lv_tableIn (off := 29) (tgt := 56) hx hb dX12_club_27 (by omega) (by omega) (by rw [show (q.toInt - 0).toNat = 0 by omega]; rfl) (by decide) ?_
        refine lv_aload_n hx hb dX12_club_56 rfl (lv_at hl 0 rfl) ?_
        refine lv_iload_n hx hb dX12_club_57 rfl (lv_at hl 1 rfl) ?_
        refine lv_iload_n hx hb dX12_club_58 rfl (lv_at hl 2 rfl) ?_
        refine vp_callSi (W.runV (As := [.int c, .int y]) (rest := []) ⟨hx, hb, hml, hown, hts⟩ (cX12_counts_ l dC dI ws tys p0 e0 p1 e1 t1 y1 c (c.toInt) rfl y (y.toInt) rfl (by omega) (by omega) (by omega) (by omega)) (cwV 2 hts gX12_club_X12_counts rfl rfl rfl (by decide +kernel) ⟨Nat.le_of_ble_eq_true rfl, Nat.le_of_ble_eq_true rfl⟩) ⟨xR_blind _ _ _ _, va_recv hK hP (ci := 12) (q0 := p0) rfl e0, xR_pre _ hE hK hP⟩ rfl rfl hl.1 rfl (lv_room (Nat.le_of_ble_eq_true rfl)) dX12_club_59 ⟨Nat.le_of_ble_eq_true rfl, Nat.le_of_ble_eq_true rfl⟩) (fun rh6 h6 => ?_)
        obtain ⟨rfl, h6⟩ := h6
        exact W.iret (v := 0) hx hb hr (fun t ht hW => ⟨0, rfl, by first | exact Or.inl ⟨by first | rfl | exact xi_k (k := 0) (by decide) (by omega), by first | trivial | omega⟩ | exact Or.inr (⟨by first | rfl | exact xi_k (k := (-2)) (by decide) (by omega), by first | trivial | omega⟩), ht⟩) (fun _ h => by cases h) dX12_club_62
      · refine lv_tableIn (off := 36) (tgt := 63) hx hb dX12_club_27 (by omega) (by omega) (by rw [show (q.toInt - 0).toNat = 1 by omega]; rfl) (by decide) ?_
        refine lv_aload_n hx hb dX12_club_63 rfl (lv_at hl 0 rfl) ?_
        refine va_get (D := (dC, dI)) (ci := 12) (v := .ref m_dead) (C := RX12) (T := TX12) (N := 51) hx hb hts iX12 hown hK hP p0 e0 rfl 23 (by decide) (hts (.fieldLink RX12 52 "CapLeagueModel" "dead" "[I") (by decide +kernel)) (fun _ h9 => h9) rfl dX12_club_64 ?_
        refine lv_bipush (v := 10) hx hb dX12_club_67 (by decide) ?_
        refine lv_iload_n hx hb dX12_club_69 rfl (lv_at hl 1 rfl) ?_
        refine lv_imul hx hb dX12_club_70 ?_
        refine lv_topi (fun v7 ev7 => ?_)
        have jv7 : v7.toInt = 10 * c.toInt := xi_mul ev7 (by decide) rfl (by omega) (by omega)
        refine lv_iload_n hx hb dX12_club_71 rfl (lv_at hl 2 rfl) ?_
        refine lv_iadd hx hb dX12_club_72 ?_
        refine lv_topi (fun v8 ev8 => ?_)
        have jv8 : v8.toInt = v7.toInt + y.toInt := xi_add ev8 rfl rfl (by omega) (by omega)
        refine va_iald (D := (dC, dI)) hx hb hK hP p1 t1 e1 y1 (xi_in (by omega) (by omega)) dX12_club_73 ?_
        refine xw_i (v := 0) rfl ?_
        exact W.iret (v := 0) hx hb hr (fun t ht hW => ⟨0, rfl, by first | exact Or.inl ⟨by first | rfl | exact xi_k (k := 0) (by decide) (by omega), by first | trivial | omega⟩ | exact Or.inr (⟨by first | rfl | exact xi_k (k := (-2)) (by decide) (by omega), by first | trivial | omega⟩), ht⟩) (fun _ h => by cases h) dX12_club_74
      · refine lv_tableIn (off := 48) (tgt := 75) hx hb dX12_club_27 (by omega) (by omega) (by rw [show (q.toInt - 0).toNat = 2 by omega]; rfl) (by decide) ?_
        refine lv_aload_n hx hb dX12_club_75 rfl (lv_at hl 0 rfl) ?_
        refine lv_iload_n hx hb dX12_club_76 rfl (lv_at hl 1 rfl) ?_
        refine lv_iload_n hx hb dX12_club_77 rfl (lv_at hl 2 rfl) ?_
        refine vp_callSi (W.runV (As := [.int c, .int y]) (rest := []) ⟨hx, hb, hml, hown, hts⟩ (cX12_manyOf_ l dC dI ws tys p0 e0 c (c.toInt) rfl y (y.toInt) rfl) (cwV 2 hts gX12_club_X12_manyOf rfl rfl rfl (by decide +kernel) ⟨Nat.le_of_ble_eq_true rfl, Nat.le_of_ble_eq_true rfl⟩) ⟨xR_blind _ _ _ _, va_recv hK hP (ci := 12) (q0 := p0) rfl e0, xR_pre _ hE hK hP⟩ rfl rfl hl.1 rfl (lv_room (Nat.le_of_ble_eq_true rfl)) dX12_club_78 ⟨Nat.le_of_ble_eq_true rfl, Nat.le_of_ble_eq_true rfl⟩) (fun rh9 h9 => ?_)
        obtain ⟨rfl, h9⟩ := h9
        exact W.iret (v := 0) hx hb hr (fun t ht hW => ⟨0, rfl, by first | exact Or.inl ⟨by first | rfl | exact xi_k (k := 0) (by decide) (by omega), by first | trivial | omega⟩ | exact Or.inr (⟨by first | rfl | exact xi_k (k := (-2)) (by decide) (by omega), by first | trivial | omega⟩), ht⟩) (fun _ h => by cases h) dX12_club_81
      · refine lv_tableIn (off := 55) (tgt := 82) hx hb dX12_club_27 (by omega) (by omega) (by rw [show (q.toInt - 0).toNat = 3 by omega]; rfl) (by decide) ?_
        refine lv_iload_n hx hb dX12_club_82 rfl (lv_at hl 2 rfl) ?_
        refine lv_aload_n hx hb dX12_club_83 rfl (lv_at hl 0 rfl) ?_
        refine va_get (D := (dC, dI)) (ci := 12) (v := .int 0) (C := RX12) (T := TX12) (N := 51) hx hb hts iX12 hown hK hP p0 e0 rfl 12 (by decide) (hts (.fieldLink RX12 187 "CapLeagueModel" "clock" "I") (by decide +kernel)) (fun _ h9 => h9) rfl dX12_club_84 ?_
        refine lv_icmp_ne (tgt := 103) hx hb dX12_club_87 (by decide) (fun c10 => ?_) (fun c10 => ?_)
        · have ic10 := (xi_ne c10 rfl (by decide) : y.toInt ≠ 0)
          refine lv_iconst (v := 0) hx hb dX12_club_103 (by decide) ?_
          exact W.iret (v := 0) hx hb hr (fun t ht hW => ⟨0, rfl, by first | exact Or.inl ⟨by first | rfl | exact xi_k (k := 0) (by decide) (by omega), by first | trivial | omega⟩ | exact Or.inr (⟨by first | rfl | exact xi_k (k := (-2)) (by decide) (by omega), by first | trivial | omega⟩), ht⟩) (fun _ h => by cases h) dX12_club_104
        · have ic10 := (xi_eq c10 rfl (by decide) : y.toInt = 0)
          refine lv_aload_n hx hb dX12_club_90 rfl (lv_at hl 0 rfl) ?_
          refine va_get (D := (dC, dI)) (ci := 12) (v := .ref m_usedSpare) (C := RX12) (T := TX12) (N := 51) hx hb hts iX12 hown hK hP p0 e0 rfl 24 (by decide) (hts (.fieldLink RX12 55 "CapLeagueModel" "usedSpare" "[Z") (by decide +kernel)) (fun _ h9 => h9) rfl dX12_club_91 ?_
          refine lv_iload_n hx hb dX12_club_94 rfl (lv_at hl 1 rfl) ?_
          refine va_zald (D := (dC, dI)) hx hb hK hP p2 t2 e2 y2 (xi_in (by omega) (by omega)) dX12_club_95 ?_
          refine xw_i (v := 0) rfl ?_
          refine lv_if_eq (tgt := 103) hx hb dX12_club_96 (by decide) (fun _ => ?_) (fun h => absurd (by decide) h)
          refine lv_iconst (v := 0) hx hb dX12_club_103 (by decide) ?_
          exact W.iret (v := 0) hx hb hr (fun t ht hW => ⟨0, rfl, by first | exact Or.inl ⟨by first | rfl | exact xi_k (k := 0) (by decide) (by omega), by first | trivial | omega⟩ | exact Or.inr (⟨by first | rfl | exact xi_k (k := (-2)) (by decide) (by omega), by first | trivial | omega⟩), ht⟩) (fun _ h => by cases h) dX12_club_104
    · skip
      refine lv_if_ne (tgt := 26) hx hb dX12_club_20 (by decide) (fun h => absurd (by decide) h) (fun _ => ?_)
      refine lv_bipush (v := (-2)) hx hb dX12_club_23 (by decide) ?_
      exact W.iret (v := (-2)) hx hb hr (fun t ht hW => ⟨(-2), rfl, by first | exact Or.inl ⟨by first | rfl | exact xi_k (k := 0) (by decide) (by omega), by first | trivial | omega⟩ | exact Or.inr (⟨by first | rfl | exact xi_k (k := (-2)) (by decide) (by omega), by first | trivial | omega⟩), ht⟩) (fun _ h => by cases h) dX12_club_25
  · skip
    refine lv_if_eq (tgt := 23) hx hb dX12_club_4 (by decide) (fun _ => ?_) (fun h => absurd (by decide) h)
    refine lv_bipush (v := (-2)) hx hb dX12_club_23 (by decide) ?_
    exact W.iret (v := (-2)) hx hb hr (fun t ht hW => ⟨(-2), rfl, by first | exact Or.inl ⟨by first | rfl | exact xi_k (k := 0) (by decide) (by omega), by first | trivial | omega⟩ | exact Or.inr (⟨by first | rfl | exact xi_k (k := (-2)) (by decide) (by omega), by first | trivial | omega⟩), ht⟩) (fun _ h => by cases h) dX12_club_25
