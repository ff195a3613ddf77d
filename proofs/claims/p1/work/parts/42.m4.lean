/-- at most two bits -/
def xB2 (z : Int32) : Prop := z = 0 ∨ z &&& (z - 1) = 0 ∨ (z &&& (z - 1)) &&& ((z &&& (z - 1)) - 1) = 0
theorem xb_dead {z v1 v2 v3 v4 : Int32} (h : xB2 z) (h1 : ¬ z = 0) (e1 : v1 = z - 1) (e2 : v2 = z &&& v1) (h2 : ¬ v2 = 0) (e3 : v3 = v2 - 1) (e4 : v4 = v2 &&& v3) : v4 = 0 := by
  subst e1; subst e2; subst e3; subst e4
  rcases h with h | h | h
  · exact absurd h h1
  · exact absurd h h2
  · exact h
theorem xB2_ok {c d : Int32} (h1 : 0 ≤ c.toInt) (h2 : c.toInt ≤ 7) (h3 : 0 ≤ d.toInt) (h4 : d.toInt ≤ 7) : xB2 (((0 : Int32) ||| ((1 : Int32) <<< (c &&& 31))) ||| ((1 : Int32) <<< (d &&& 31))) := by
  have hc : c = 0 ∨ c = 1 ∨ c = 2 ∨ c = 3 ∨ c = 4 ∨ c = 5 ∨ c = 6 ∨ c = 7 := by
    rcases (show c.toInt = 0 ∨ c.toInt = 1 ∨ c.toInt = 2 ∨ c.toInt = 3 ∨ c.toInt = 4 ∨ c.toInt = 5 ∨ c.toInt = 6 ∨ c.toInt = 7 by omega) with h | h | h | h | h | h | h | h
    · exact Or.inl (xi_k (k := 0) (by decide) h)
    · exact Or.inr (Or.inl (xi_k (k := 1) (by decide) h))
    · exact Or.inr (Or.inr (Or.inl (xi_k (k := 2) (by decide) h)))
    · exact Or.inr (Or.inr (Or.inr (Or.inl (xi_k (k := 3) (by decide) h))))
    · exact Or.inr (Or.inr (Or.inr (Or.inr (Or.inl (xi_k (k := 4) (by decide) h)))))
    · exact Or.inr (Or.inr (Or.inr (Or.inr (Or.inr (Or.inl (xi_k (k := 5) (by decide) h))))))
    · exact Or.inr (Or.inr (Or.inr (Or.inr (Or.inr (Or.inr (Or.inl (xi_k (k := 6) (by decide) h)))))))
    · exact Or.inr (Or.inr (Or.inr (Or.inr (Or.inr (Or.inr (Or.inr ((xi_k (k := 7) (by decide) h))))))))
  have hd : d = 0 ∨ d = 1 ∨ d = 2 ∨ d = 3 ∨ d = 4 ∨ d = 5 ∨ d = 6 ∨ d = 7 := by
    rcases (show d.toInt = 0 ∨ d.toInt = 1 ∨ d.toInt = 2 ∨ d.toInt = 3 ∨ d.toInt = 4 ∨ d.toInt = 5 ∨ d.toInt = 6 ∨ d.toInt = 7 by omega) with h | h | h | h | h | h | h | h
    · exact Or.inl (xi_k (k := 0) (by decide) h)
    · exact Or.inr (Or.inl (xi_k (k := 1) (by decide) h))
    · exact Or.inr (Or.inr (Or.inl (xi_k (k := 2) (by decide) h)))
    · exact Or.inr (Or.inr (Or.inr (Or.inl (xi_k (k := 3) (by decide) h))))
    · exact Or.inr (Or.inr (Or.inr (Or.inr (Or.inl (xi_k (k := 4) (by decide) h)))))
    · exact Or.inr (Or.inr (Or.inr (Or.inr (Or.inr (Or.inl (xi_k (k := 5) (by decide) h))))))
    · exact Or.inr (Or.inr (Or.inr (Or.inr (Or.inr (Or.inr (Or.inl (xi_k (k := 6) (by decide) h)))))))
    · exact Or.inr (Or.inr (Or.inr (Or.inr (Or.inr (Or.inr (Or.inr ((xi_k (k := 7) (by decide) h))))))))
  rcases hc with rfl | rfl | rfl | rfl | rfl | rfl | rfl | rfl <;> rcases hd with rfl | rfl | rfl | rfl | rfl | rfl | rfl | rfl <;> (unfold xB2; decide)
set_option maxHeartbeats 4000000 in
set_option maxRecDepth 100000 in
theorem rX12_bits (l : Launch) (dC : Nat → ClassId) (dI : Nat → Nat → Nat) (ws : va_W) (tys : List (ClassId × FieldType))  (z : Int32) (z_t : Int) (h_z : z.toInt = z_t) (hB : xB2 z) : Met l yX12_bits wsX12_bits ({ frames := 1, cells := 0, slots := 0, locals := 64 }) (va_Pc [.int z] (xR (dC, dI) tys ws)) (vp_Si (fun r => (r.toInt ≤ 2))) 0 0 (fun _ => False) := by
  refine Met.ofW (cc := cX12_bits) (maxL := 3) (ret := (some .int)) (by decide) rfl ?_
  intro pr_ ev_ s m args below meth cd_ s₁ B hml hv
  obtain ⟨rfl, hE, hK, hP⟩ := hv
  have hx := B.exec
  have hb := B.bytes
  have hr := B.returns
  have hts := atoms_spec (ws := wsX12_bits) B.pre
  have hown : s.vm.findClass RX12 = some m.cls := findClass_of_methodNamed B.named
  have hlocks := B.notSynchronized
  have hl := lv_entry ([.int z]) (n := 3) (Nat.le_of_ble_eq_true rfl)
  rw [lg_entry_eq]
  generalize (lg_sl ([.int z]) ++ List.replicate (3 - (lg_sl ([.int z])).length) Slot.unset).toArray = ls at hl ⊢
  have hl : lv_has ls 3 [(0, .int z)] := hl
  have lo_z := xi_lo z
  have hi_z := xi_hi z
  refine lv_iconst (v := 0) hx hb dX12_bits_0 (by decide) ?_
  refine lv_istore_n (lv' := [(1, .int 0), (0, .int z)]) hx hb dX12_bits_1 rfl hl (by decide) rfl (fun ls hl => ?_)
  refine lv_iload_n hx hb dX12_bits_2 rfl (lv_at hl 1 rfl) ?_
  refine lv_istore_n (lv' := [(2, .int z), (1, .int 0), (0, .int z)]) hx hb dX12_bits_3 rfl hl (by decide) rfl (fun ls hl => ?_)
  refine lv_iload_n hx hb dX12_bits_4 rfl (lv_at hl 0 rfl) ?_
  refine lv_if_eq (tgt := 20) hx hb dX12_bits_5 (by decide) (fun c1 => ?_) (fun c1 => ?_)
  · skip
    refine lv_iload_n hx hb dX12_bits_20 rfl (lv_at hl 1 rfl) ?_
    exact W.iret (v := 0) hx hb hr (fun t ht hW => ⟨0, rfl, by first | exact (by decide), ht⟩) (fun _ h => by cases h) dX12_bits_21
  · skip
    refine lv_iinc (v := 1) (lv' := [(1, .int 1), (2, .int z), (0, .int z)]) hx hb dX12_bits_8 hl (k := 1) rfl (by decide) (by decide) rfl (fun ls hl => ?_)
    refine lv_iload_n hx hb dX12_bits_11 rfl (lv_at hl 1 rfl) ?_
    refine lv_iload_n hx hb dX12_bits_12 rfl (lv_at hl 1 rfl) ?_
    refine lv_iconst (v := 1) hx hb dX12_bits_13 (by decide) ?_
    refine lv_isub hx hb dX12_bits_14 ?_
    refine lv_topi (fun v2 ev2 => ?_)
    refine lv_iand hx hb dX12_bits_15 ?_
    refine lv_topi (fun v3 ev3 => ?_)
    refine lv_istore_n (lv' := [(2, .int v3), (1, .int 1), (0, .int z)]) hx hb dX12_bits_16 rfl hl (by decide) rfl (fun ls hl => ?_)
    refine lv_goto (tgt := 4) hx hb dX12_bits_17 (by decide) ?_
    refine lv_iload_n hx hb dX12_bits_4 rfl (lv_at hl 0 rfl) ?_
    refine lv_if_eq (tgt := 20) hx hb dX12_bits_5 (by decide) (fun c4 => ?_) (fun c4 => ?_)
    · skip
      refine lv_iload_n hx hb dX12_bits_20 rfl (lv_at hl 1 rfl) ?_
      exact W.iret (v := 1) hx hb hr (fun t ht hW => ⟨1, rfl, by first | exact (by decide), ht⟩) (fun _ h => by cases h) dX12_bits_21
    · skip
      refine lv_iinc (v := 2) (lv' := [(1, .int 2), (2, .int v3), (0, .int z)]) hx hb dX12_bits_8 hl (k := 1) rfl (by decide) (by decide) rfl (fun ls hl => ?_)
      refine lv_iload_n hx hb dX12_bits_11 rfl (lv_at hl 1 rfl) ?_
      refine lv_iload_n hx hb dX12_bits_12 rfl (lv_at hl 1 rfl) ?_
      refine lv_iconst (v := 1) hx hb dX12_bits_13 (by decide) ?_
      refine lv_isub hx hb dX12_bits_14 ?_
      refine lv_topi (fun v5 ev5 => ?_)
      refine lv_iand hx hb dX12_bits_15 ?_
      refine lv_topi (fun v6 ev6 => ?_)
      refine lv_istore_n (lv' := [(2, .int v6), (1, .int 2), (0, .int z)]) hx hb dX12_bits_16 rfl hl (by decide) rfl (fun ls hl => ?_)
      refine lv_goto (tgt := 4) hx hb dX12_bits_17 (by decide) ?_
      refine lv_iload_n hx hb dX12_bits_4 rfl (lv_at hl 0 rfl) ?_
      refine lv_if_eq (tgt := 20) hx hb dX12_bits_5 (by decide) (fun _ => ?_) (fun h => absurd (xb_dead hB c1 ev2 ev3 c4 ev5 ev6) h)
      refine lv_iload_n hx hb dX12_bits_20 rfl (lv_at hl 1 rfl) ?_
      exact W.iret (v := 2) hx hb hr (fun t ht hW => ⟨2, rfl, by first | exact (by decide), ht⟩) (fun _ h => by cases h) dX12_bits_21
set_option maxHeartbeats 4000000 in
set_option maxRecDepth 100000 in
theorem wX12_add (l : Launch) (dC : Nat → ClassId) (dI : Nat → Nat → Nat) (mo m_tape m_laws m_hasLaws m_clubOf m_first m_last m_pay m_rise m_sure m_hasChoice m_isTaken m_isHurt m_dead m_usedSpare m_owner m_giver m_guarded m_drawnOf m_drawnTo m_table m_moved m_from m_to m_guard m_worths m_ringClub m_ringGives m_triedClub m_triedGives m_toldClub m_toldGives m_isOut m_purse : Nat) (k_moved k_from k_to k_guard : ClassId)  (sz : Nat)  (q : Int32) (q_t : Int) (h_q : q.toInt = q_t) (a : Int32) (a_t : Int) (h_a : a.toInt = a_t) (b : Int32) (b_t : Int) (h_b : b.toInt = b_t) (k : Int32) (k_t : Int) (h_k : k.toInt = k_t) (h1 : 0 ≤ a_t) (h2 : a_t ≤ 7) (h3 : 0 ≤ b_t) (h4 : b_t ≤ 7) : Met l yX12_add wsX12_add ({ frames := 2, cells := 0, slots := 0, locals := 128 }) (va_Pc [.ref mo, .int q, .int a, .int b, .int k] (xW (dC, dI) [(k_moved, .int), (k_from, .int), (k_to, .int), (k_guard, .int)] [(mo, .inr (12, [.ref m_tape, .int 0, .int 0, .int 0, .int 0, .int 0, .int 0, .int 0, .int 0, .int (-1), .ref m_laws, .ref m_hasLaws, .int 0, .int 0, .ref m_clubOf, .ref m_first, .ref m_last, .ref m_pay, .ref m_rise, .ref m_sure, .ref m_hasChoice, .ref m_isTaken, .ref m_isHurt, .ref m_dead, .ref m_usedSpare, .ref m_owner, .ref m_giver, .ref m_guarded, .ref m_drawnOf, .ref m_drawnTo, .int 0, .int 0, .ref m_table, .int 0, .ref m_moved, .ref m_from, .ref m_to, .ref m_guard, .ref m_worths, .ref m_ringClub, .ref m_ringGives, .int 0, .ref m_triedClub, .ref m_triedGives, .int 0, .int 0, .ref m_toldClub, .ref m_toldGives, .ref m_isOut, .ref m_purse, .int 0])), (m_moved, .inl (k_moved, 12, .inl (fun _ => 0))), (m_from, .inl (k_from, 12, .inl (fun _ => 0))), (m_to, .inl (k_to, 12, .inl (fun _ => 0))), (m_guard, .inl (k_guard, 12, .inl (fun _ => 0)))] sz)) (va_Qi (fun r (_ : Unit) => (r = 1 ∧ True)) (fun (_ : Unit) _ => True) (va_A [(mo, .inr (12, [.ref m_tape, .int 0, .int 0, .int 0, .int 0, .int 0, .int 0, .int 0, .int 0, .int (-1), .ref m_laws, .ref m_hasLaws, .int 0, .int 0, .ref m_clubOf, .ref m_first, .ref m_last, .ref m_pay, .ref m_rise, .ref m_sure, .ref m_hasChoice, .ref m_isTaken, .ref m_isHurt, .ref m_dead, .ref m_usedSpare, .ref m_owner, .ref m_giver, .ref m_guarded, .ref m_drawnOf, .ref m_drawnTo, .int 0, .int 0, .ref m_table, .int 0, .ref m_moved, .ref m_from, .ref m_to, .ref m_guard, .ref m_worths, .ref m_ringClub, .ref m_ringGives, .int 0, .ref m_triedClub, .ref m_triedGives, .int 0, .int 0, .ref m_toldClub, .ref m_toldGives, .ref m_isOut, .ref m_purse, .int 0])), (m_moved, .inl (k_moved, 12, .inl (fun _ => 0))), (m_from, .inl (k_from, 12, .inl (fun _ => 0))), (m_to, .inl (k_to, 12, .inl (fun _ => 0))), (m_guard, .inl (k_guard, 12, .inl (fun _ => 0)))] sz)) 0 0 (va_A [(mo, .inr (12, [.ref m_tape, .int 0, .int 0, .int 0, .int 0, .int 0, .int 0, .int 0, .int 0, .int (-1), .ref m_laws, .ref m_hasLaws, .int 0, .int 0, .ref m_clubOf, .ref m_first, .ref m_last, .ref m_pay, .ref m_rise, .ref m_sure, .ref m_hasChoice, .ref m_isTaken, .ref m_isHurt, .ref m_dead, .ref m_usedSpare, .ref m_owner, .ref m_giver, .ref m_guarded, .ref m_drawnOf, .ref m_drawnTo, .int 0, .int 0, .ref m_table, .int 0, .ref m_moved, .ref m_from, .ref m_to, .ref m_guard, .ref m_worths, .ref m_ringClub, .ref m_ringGives, .int 0, .ref m_triedClub, .ref m_triedGives, .int 0, .int 0, .ref m_toldClub, .ref m_toldGives, .ref m_isOut, .ref m_purse, .int 0])), (m_moved, .inl (k_moved, 12, .inl (fun _ => 0))), (m_from, .inl (k_from, 12, .inl (fun _ => 0))), (m_to, .inl (k_to, 12, .inl (fun _ => 0))), (m_guard, .inl (k_guard, 12, .inl (fun _ => 0)))] sz) := by
  refine Met.ofW (cc := cX12_add) (maxL := 5) (ret := (some .int)) (by decide) rfl ?_
  intro pr_ ev_ s m args below meth cd_ s₁ B hml hv
  obtain ⟨rfl, hE, hsz, hK, hP, hD0⟩ := hv
  have hx := B.exec
  have hb := B.bytes
  have hr := B.returns
  have hts := atoms_spec (ws := wsX12_add) B.pre
  have hown : s.vm.findClass RX12 = some m.cls := findClass_of_methodNamed B.named
  have hlocks := B.notSynchronized
  subst hsz
  have hD := hD0.self (sz := s.heap.size)
  generalize hAe : va_A [(mo, .inr (12, [.ref m_tape, .int 0, .int 0, .int 0, .int 0, .int 0, .int 0, .int 0, .int 0, .int (-1), .ref m_laws, .ref m_hasLaws, .int 0, .int 0, .ref m_clubOf, .ref m_first, .ref m_last, .ref m_pay, .ref m_rise, .ref m_sure, .ref m_hasChoice, .ref m_isTaken, .ref m_isHurt, .ref m_dead, .ref m_usedSpare, .ref m_owner, .ref m_giver, .ref m_guarded, .ref m_drawnOf, .ref m_drawnTo, .int 0, .int 0, .ref m_table, .int 0, .ref m_moved, .ref m_from, .ref m_to, .ref m_guard, .ref m_worths, .ref m_ringClub, .ref m_ringGives, .int 0, .ref m_triedClub, .ref m_triedGives, .int 0, .int 0, .ref m_toldClub, .ref m_toldGives, .ref m_isOut, .ref m_purse, .int 0])), (m_moved, .inl (k_moved, 12, .inl (fun _ => 0))), (m_from, .inl (k_from, 12, .inl (fun _ => 0))), (m_to, .inl (k_to, 12, .inl (fun _ => 0))), (m_guard, .inl (k_guard, 12, .inl (fun _ => 0)))] s.heap.size = A at hD ⊢
  have hA : ∀ q : Nat, s.heap.size ≤ q → A q := fun q h => by rw [← hAe]; exact Or.inr h
  have hS : va_S A s.heap s.heap [] := va_S.rf
  have iX12 : ∀ w ∈ u_ws RX12 TX12 51, w ∈ wsX12_add := by decide +kernel
  have hl := lv_entry ([.ref mo, .int q, .int a, .int b, .int k]) (n := 5) (Nat.le_of_ble_eq_true rfl)
  rw [lg_entry_eq]
  generalize (lg_sl ([.ref mo, .int q, .int a, .int b, .int k]) ++ List.replicate (5 - (lg_sl ([.ref mo, .int q, .int a, .int b, .int k])).length) Slot.unset).toArray = ls at hl ⊢
  have hl : lv_has ls 5 [(0, .ref mo), (1, .int q), (2, .int a), (3, .int b), (4, .int k)] := hl
  have lo_q := xi_lo q
  have hi_q := xi_hi q
  have lo_a := xi_lo a
  have hi_a := xi_hi a
  have lo_b := xi_lo b
  have hi_b := xi_hi b
  have lo_k := xi_lo k
  have hi_k := xi_hi k
  refine lv_aload_n hx hb dX12_add_0 rfl (lv_at hl 0 rfl) ?_
  refine lv_iload_n hx hb dX12_add_1 rfl (lv_at hl 1 rfl) ?_
  refine vp_callSi (W.runV (As := [.int q]) (rest := []) ⟨hx, hb, hml, hown, hts⟩ (cX12_isMoved_ l dC dI ([(mo, .inr (12, [.ref m_tape, .int 0, .int 0, .int 0, .int 0, .int 0, .int 0, .int 0, .int 0, .int (-1), .ref m_laws, .ref m_hasLaws, .int 0, .int 0, .ref m_clubOf, .ref m_first, .ref m_last, .ref m_pay, .ref m_rise, .ref m_sure, .ref m_hasChoice, .ref m_isTaken, .ref m_isHurt, .ref m_dead, .ref m_usedSpare, .ref m_owner, .ref m_giver, .ref m_guarded, .ref m_drawnOf, .ref m_drawnTo, .int 0, .int 0, .ref m_table, .int 0, .ref m_moved, .ref m_from, .ref m_to, .ref m_guard, .ref m_worths, .ref m_ringClub, .ref m_ringGives, .int 0, .ref m_triedClub, .ref m_triedGives, .int 0, .int 0, .ref m_toldClub, .ref m_toldGives, .ref m_isOut, .ref m_purse, .int 0])), (m_moved, .inl (k_moved, 12, .inl (fun _ => 0))), (m_from, .inl (k_from, 12, .inl (fun _ => 0))), (m_to, .inl (k_to, 12, .inl (fun _ => 0))), (m_guard, .inl (k_guard, 12, .inl (fun _ => 0)))]) ([(k_moved, .int), (k_from, .int), (k_to, .int), (k_guard, .int)]) 0 rfl q (q.toInt) rfl) (cwV 1 hts gX12_add_X12_isMoved rfl rfl rfl (by decide +kernel) ⟨Nat.le_of_ble_eq_true rfl, Nat.le_of_ble_eq_true rfl⟩) ⟨xR_blind _ _ _ _, va_recv hK hP (ci := 12) (q0 := 0) rfl rfl, xR_pre _ hE hK hP⟩ rfl rfl hl.1 rfl (lv_room (Nat.le_of_ble_eq_true rfl)) dX12_add_2 ⟨Nat.le_of_ble_eq_true rfl, Nat.le_of_ble_eq_true rfl⟩) (fun rh1 h1 => ?_)
  obtain ⟨rfl, h1⟩ := h1
  refine lv_if_ne (tgt := 27) hx hb dX12_add_5 (by decide) (fun h => absurd (by decide) h) (fun _ => ?_)
  refine lv_aload_n hx hb dX12_add_8 rfl (lv_at hl 0 rfl) ?_
  refine vp_callSi (W.runV (As := []) (rest := []) ⟨hx, hb, hml, hown, hts⟩ (cX12_clubsOf_ l dC dI ([(mo, .inr (12, [.ref m_tape, .int 0, .int 0, .int 0, .int 0, .int 0, .int 0, .int 0, .int 0, .int (-1), .ref m_laws, .ref m_hasLaws, .int 0, .int 0, .ref m_clubOf, .ref m_first, .ref m_last, .ref m_pay, .ref m_rise, .ref m_sure, .ref m_hasChoice, .ref m_isTaken, .ref m_isHurt, .ref m_dead, .ref m_usedSpare, .ref m_owner, .ref m_giver, .ref m_guarded, .ref m_drawnOf, .ref m_drawnTo, .int 0, .int 0, .ref m_table, .int 0, .ref m_moved, .ref m_from, .ref m_to, .ref m_guard, .ref m_worths, .ref m_ringClub, .ref m_ringGives, .int 0, .ref m_triedClub, .ref m_triedGives, .int 0, .int 0, .ref m_toldClub, .ref m_toldGives, .ref m_isOut, .ref m_purse, .int 0])), (m_moved, .inl (k_moved, 12, .inl (fun _ => 0))), (m_from, .inl (k_from, 12, .inl (fun _ => 0))), (m_to, .inl (k_to, 12, .inl (fun _ => 0))), (m_guard, .inl (k_guard, 12, .inl (fun _ => 0)))]) ([(k_moved, .int), (k_from, .int), (k_to, .int), (k_guard, .int)]) 0 rfl) (cwV 0 hts gX12_add_X12_clubsOf rfl rfl rfl (by decide +kernel) ⟨Nat.le_of_ble_eq_true rfl, Nat.le_of_ble_eq_true rfl⟩) ⟨xR_blind _ _ _ _, va_recv hK hP (ci := 12) (q0 := 0) rfl rfl, xR_pre _ hE hK hP⟩ rfl rfl hl.1 rfl (lv_room (Nat.le_of_ble_eq_true rfl)) dX12_add_9 ⟨Nat.le_of_ble_eq_true rfl, Nat.le_of_ble_eq_true rfl⟩) (fun rh3 h3 => ?_)
  obtain ⟨rfl, h3⟩ := h3
  refine lv_iconst (v := 1) hx hb dX12_add_12 (by decide) ?_
  refine lv_iload_n hx hb dX12_add_13 rfl (lv_at hl 2 rfl) ?_
  refine lv_ishl hx hb dX12_add_14 ?_
  refine lv_topi (fun v4 ev4 => ?_)
  refine lv_ior hx hb dX12_add_15 ?_
  refine lv_topi (fun v5 ev5 => ?_)
  refine lv_iconst (v := 1) hx hb dX12_add_16 (by decide) ?_
  refine lv_iload_n hx hb dX12_add_17 rfl (lv_at hl 3 rfl) ?_
  refine lv_ishl hx hb dX12_add_18 ?_
  refine lv_topi (fun v6 ev6 => ?_)
  refine lv_ior hx hb dX12_add_19 ?_
  refine lv_topi (fun v7 ev7 => ?_)
  refine vp_callSi (W.runS (As := [.int v7]) (rest := []) ⟨hx, hb, hml, hown, hts⟩ (rX12_bits l dC dI ([(mo, .inr (12, [.ref m_tape, .int 0, .int 0, .int 0, .int 0, .int 0, .int 0, .int 0, .int 0, .int (-1), .ref m_laws, .ref m_hasLaws, .int 0, .int 0, .ref m_clubOf, .ref m_first, .ref m_last, .ref m_pay, .ref m_rise, .ref m_sure, .ref m_hasChoice, .ref m_isTaken, .ref m_isHurt, .ref m_dead, .ref m_usedSpare, .ref m_owner, .ref m_giver, .ref m_guarded, .ref m_drawnOf, .ref m_drawnTo, .int 0, .int 0, .ref m_table, .int 0, .ref m_moved, .ref m_from, .ref m_to, .ref m_guard, .ref m_worths, .ref m_ringClub, .ref m_ringGives, .int 0, .ref m_triedClub, .ref m_triedGives, .int 0, .int 0, .ref m_toldClub, .ref m_toldGives, .ref m_isOut, .ref m_purse, .int 0])), (m_moved, .inl (k_moved, 12, .inl (fun _ => 0))), (m_from, .inl (k_from, 12, .inl (fun _ => 0))), (m_to, .inl (k_to, 12, .inl (fun _ => 0))), (m_guard, .inl (k_guard, 12, .inl (fun _ => 0)))]) ([(k_moved, .int), (k_from, .int), (k_to, .int), (k_guard, .int)]) v7 (v7.toInt) rfl (by rw [ev7, ev6, ev5, ev4]; exact xB2_ok (by omega) (by omega) (by omega) (by omega))) (va_cwS 1 hts gX12_add_X12_bits rfl rfl rfl (by decide +kernel) ⟨Nat.le_of_ble_eq_true rfl, Nat.le_of_ble_eq_true rfl⟩) ⟨xR_blind _ _ _ _, xR_pre _ hE hK hP⟩ rfl rfl hl.1 rfl (lv_room (Nat.le_of_ble_eq_true rfl)) dX12_add_20 ⟨Nat.le_of_ble_eq_true rfl, Nat.le_of_ble_eq_true rfl⟩) (fun rh8 h8 => ?_)
  refine lv_iconst (v := 4) hx hb dX12_add_23 (by decide) ?_
  refine lv_icmp_le (tgt := 30) hx hb dX12_add_24 (by decide) (fun c9 => ?_) (fun h => absurd (xi_nle h rfl (by decide) : 4 < rh8.toInt) (by omega))
  have ic9 := (xi_le c9 rfl (by decide) : rh8.toInt ≤ 4)
  refine lv_aload_n hx hb dX12_add_30 rfl (lv_at hl 0 rfl) ?_
  refine va_get (D := (dC, dI)) (ci := 12) (v := .int 0) (C := RX12) (T := TX12) (N := 51) hx hb hts iX12 hown hK hP 0 rfl rfl 33 (by decide) (hts (.fieldLink RX12 247 "CapLeagueModel" "moves" "I") (by decide +kernel)) (fun _ h9 => h9) rfl dX12_add_31 ?_
  refine lv_bipush (v := 12) hx hb dX12_add_34 (by decide) ?_
  refine lv_icmp_ne (tgt := 42) hx hb dX12_add_36 (by decide) (fun _ => ?_) (fun h => absurd h (by decide))
  refine lv_aload_n hx hb dX12_add_42 rfl (lv_at hl 0 rfl) ?_
  refine va_get (D := (dC, dI)) (ci := 12) (v := .ref m_moved) (C := RX12) (T := TX12) (N := 51) hx hb hts iX12 hown hK hP 0 rfl rfl 34 (by decide) (hts (.fieldLink RX12 76 "CapLeagueModel" "moved" "[I") (by decide +kernel)) (fun _ h9 => h9) rfl dX12_add_43 ?_
  refine lv_aload_n hx hb dX12_add_46 rfl (lv_at hl 0 rfl) ?_
  refine va_get (D := (dC, dI)) (ci := 12) (v := .int 0) (C := RX12) (T := TX12) (N := 51) hx hb hts iX12 hown hK hP 0 rfl rfl 33 (by decide) (hts (.fieldLink RX12 247 "CapLeagueModel" "moves" "I") (by decide +kernel)) (fun _ h9 => h9) rfl dX12_add_47 ?_
  refine lv_iload_n hx hb dX12_add_50 rfl (lv_at hl 1 rfl) ?_
  refine va_iast (D := (dC, dI)) hx hb hK hP hD hS 1 0 rfl rfl (by unfold vp_in; decide) dX12_add_51 (fun H locs hP hD hS => ?_)
  obtain ⟨f11, ef11⟩ : ∃ g : Nat → Int32, g = upd (fun _ => 0) (0 : Int32).toNatClampNeg (q) := ⟨_, rfl⟩
  replace hP : va_P (dC, dI) vwCl [(mo, .inr (12, [.ref m_tape, .int 0, .int 0, .int 0, .int 0, .int 0, .int 0, .int 0, .int 0, .int (-1), .ref m_laws, .ref m_hasLaws, .int 0, .int 0, .ref m_clubOf, .ref m_first, .ref m_last, .ref m_pay, .ref m_rise, .ref m_sure, .ref m_hasChoice, .ref m_isTaken, .ref m_isHurt, .ref m_dead, .ref m_usedSpare, .ref m_owner, .ref m_giver, .ref m_guarded, .ref m_drawnOf, .ref m_drawnTo, .int 0, .int 0, .ref m_table, .int 0, .ref m_moved, .ref m_from, .ref m_to, .ref m_guard, .ref m_worths, .ref m_ringClub, .ref m_ringGives, .int 0, .ref m_triedClub, .ref m_triedGives, .int 0, .int 0, .ref m_toldClub, .ref m_toldGives, .ref m_isOut, .ref m_purse, .int 0])), (m_moved, .inl (k_moved, 12, .inl f11)), (m_from, .inl (k_from, 12, .inl (fun _ => 0))), (m_to, .inl (k_to, 12, .inl (fun _ => 0))), (m_guard, .inl (k_guard, 12, .inl (fun _ => 0)))] H := by rw [ef11]; exact hP
  replace hD : va_D A [(mo, .inr (12, [.ref m_tape, .int 0, .int 0, .int 0, .int 0, .int 0, .int 0, .int 0, .int 0, .int (-1), .ref m_laws, .ref m_hasLaws, .int 0, .int 0, .ref m_clubOf, .ref m_first, .ref m_last, .ref m_pay, .ref m_rise, .ref m_sure, .ref m_hasChoice, .ref m_isTaken, .ref m_isHurt, .ref m_dead, .ref m_usedSpare, .ref m_owner, .ref m_giver, .ref m_guarded, .ref m_drawnOf, .ref m_drawnTo, .int 0, .int 0, .ref m_table, .int 0, .ref m_moved, .ref m_from, .ref m_to, .ref m_guard, .ref m_worths, .ref m_ringClub, .ref m_ringGives, .int 0, .ref m_triedClub, .ref m_triedGives, .int 0, .int 0, .ref m_toldClub, .ref m_toldGives, .ref m_isOut, .ref m_purse, .int 0])), (m_moved, .inl (k_moved, 12, .inl f11)), (m_from, .inl (k_from, 12, .inl (fun _ => 0))), (m_to, .inl (k_to, 12, .inl (fun _ => 0))), (m_guard, .inl (k_guard, 12, .inl (fun _ => 0)))] := by rw [ef11]; exact hD
  clear ef11
  refine lv_aload_n hx hb dX12_add_52 rfl (lv_at hl 0 rfl) ?_
  refine va_get (D := (dC, dI)) (ci := 12) (v := .ref m_from) (C := RX12) (T := TX12) (N := 51) hx hb hts iX12 hown hK hP 0 rfl rfl 35 (by decide) (hts (.fieldLink RX12 79 "CapLeagueModel" "from" "[I") (by decide +kernel)) (fun _ h9 => h9) rfl dX12_add_53 ?_
  refine lv_aload_n hx hb dX12_add_56 rfl (lv_at hl 0 rfl) ?_
  refine va_get (D := (dC, dI)) (ci := 12) (v := .int 0) (C := RX12) (T := TX12) (N := 51) hx hb hts iX12 hown hK hP 0 rfl rfl 33 (by decide) (hts (.fieldLink RX12 247 "CapLeagueModel" "moves" "I") (by decide +kernel)) (fun _ h9 => h9) rfl dX12_add_57 ?_
  refine lv_iload_n hx hb dX12_add_60 rfl (lv_at hl 2 rfl) ?_
  refine va_iast (D := (dC, dI)) hx hb hK hP hD hS 2 1 rfl rfl (by unfold vp_in; decide) dX12_add_61 (fun H locs hP hD hS => ?_)
  obtain ⟨f12, ef12⟩ : ∃ g : Nat → Int32, g = upd (fun _ => 0) (0 : Int32).toNatClampNeg (a) := ⟨_, rfl⟩
  replace hP : va_P (dC, dI) vwCl [(mo, .inr (12, [.ref m_tape, .int 0, .int 0, .int 0, .int 0, .int 0, .int 0, .int 0, .int 0, .int (-1), .ref m_laws, .ref m_hasLaws, .int 0, .int 0, .ref m_clubOf, .ref m_first, .ref m_last, .ref m_pay, .ref m_rise, .ref m_sure, .ref m_hasChoice, .ref m_isTaken, .ref m_isHurt, .ref m_dead, .ref m_usedSpare, .ref m_owner, .ref m_giver, .ref m_guarded, .ref m_drawnOf, .ref m_drawnTo, .int 0, .int 0, .ref m_table, .int 0, .ref m_moved, .ref m_from, .ref m_to, .ref m_guard, .ref m_worths, .ref m_ringClub, .ref m_ringGives, .int 0, .ref m_triedClub, .ref m_triedGives, .int 0, .int 0, .ref m_toldClub, .ref m_toldGives, .ref m_isOut, .ref m_purse, .int 0])), (m_moved, .inl (k_moved, 12, .inl f11)), (m_from, .inl (k_from, 12, .inl f12)), (m_to, .inl (k_to, 12, .inl (fun _ => 0))), (m_guard, .inl (k_guard, 12, .inl (fun _ => 0)))] H := by rw [ef12]; exact hP
  replace hD : va_D A [(mo, .inr (12, [.ref m_tape, .int 0, .int 0, .int 0, .int 0, .int 0, .int 0, .int 0, .int 0, .int (-1), .ref m_laws, .ref m_hasLaws, .int 0, .int 0, .ref m_clubOf, .ref m_first, .ref m_last, .ref m_pay, .ref m_rise, .ref m_sure, .ref m_hasChoice, .ref m_isTaken, .ref m_isHurt, .ref m_dead, .ref m_usedSpare, .ref m_owner, .ref m_giver, .ref m_guarded, .ref m_drawnOf, .ref m_drawnTo, .int 0, .int 0, .ref m_table, .int 0, .ref m_moved, .ref m_from, .ref m_to, .ref m_guard, .ref m_worths, .ref m_ringClub, .ref m_ringGives, .int 0, .ref m_triedClub, .ref m_triedGives, .int 0, .int 0, .ref m_toldClub, .ref m_toldGives, .ref m_isOut, .ref m_purse, .int 0])), (m_moved, .inl (k_moved, 12, .inl f11)), (m_from, .inl (k_from, 12, .inl f12)), (m_to, .inl (k_to, 12, .inl (fun _ => 0))), (m_guard, .inl (k_guard, 12, .inl (fun _ => 0)))] := by rw [ef12]; exact hD
  clear ef12
  refine lv_aload_n hx hb dX12_add_62 rfl (lv_at hl 0 rfl) ?_
  refine va_get (D := (dC, dI)) (ci := 12) (v := .ref m_to) (C := RX12) (T := TX12) (N := 51) hx hb hts iX12 hown hK hP 0 rfl rfl 36 (by decide) (hts (.fieldLink RX12 82 "CapLeagueModel" "to" "[I") (by decide +kernel)) (fun _ h9 => h9) rfl dX12_add_63 ?_
  refine lv_aload_n hx hb dX12_add_66 rfl (lv_at hl 0 rfl) ?_
  refine va_get (D := (dC, dI)) (ci := 12) (v := .int 0) (C := RX12) (T := TX12) (N := 51) hx hb hts iX12 hown hK hP 0 rfl rfl 33 (by decide) (hts (.fieldLink RX12 247 "CapLeagueModel" "moves" "I") (by decide +kernel)) (fun _ h9 => h9) rfl dX12_add_67 ?_
  refine lv_iload_n hx hb dX12_add_70 rfl (lv_at hl 3 rfl) ?_
  refine va_iast (D := (dC, dI)) hx hb hK hP hD hS 3 2 rfl rfl (by unfold vp_in; decide) dX12_add_71 (fun H locs hP hD hS => ?_)
  obtain ⟨f13, ef13⟩ : ∃ g : Nat → Int32, g = upd (fun _ => 0) (0 : Int32).toNatClampNeg (b) := ⟨_, rfl⟩
  replace hP : va_P (dC, dI) vwCl [(mo, .inr (12, [.ref m_tape, .int 0, .int 0, .int 0, .int 0, .int 0, .int 0, .int 0, .int 0, .int (-1), .ref m_laws, .ref m_hasLaws, .int 0, .int 0, .ref m_clubOf, .ref m_first, .ref m_last, .ref m_pay, .ref m_rise, .ref m_sure, .ref m_hasChoice, .ref m_isTaken, .ref m_isHurt, .ref m_dead, .ref m_usedSpare, .ref m_owner, .ref m_giver, .ref m_guarded, .ref m_drawnOf, .ref m_drawnTo, .int 0, .int 0, .ref m_table, .int 0, .ref m_moved, .ref m_from, .ref m_to, .ref m_guard, .ref m_worths, .ref m_ringClub, .ref m_ringGives, .int 0, .ref m_triedClub, .ref m_triedGives, .int 0, .int 0, .ref m_toldClub, .ref m_toldGives, .ref m_isOut, .ref m_purse, .int 0])), (m_moved, .inl (k_moved, 12, .inl f11)), (m_from, .inl (k_from, 12, .inl f12)), (m_to, .inl (k_to, 12, .inl f13)), (m_guard, .inl (k_guard, 12, .inl (fun _ => 0)))] H := by rw [ef13]; exact hP
  replace hD : va_D A [(mo, .inr (12, [.ref m_tape, .int 0, .int 0, .int 0, .int 0, .int 0, .int 0, .int 0, .int 0, .int (-1), .ref m_laws, .ref m_hasLaws, .int 0, .int 0, .ref m_clubOf, .ref m_first, .ref m_last, .ref m_pay, .ref m_rise, .ref m_sure, .ref m_hasChoice, .ref m_isTaken, .ref m_isHurt, .ref m_dead, .ref m_usedSpare, .ref m_owner, .ref m_giver, .ref m_guarded, .ref m_drawnOf, .ref m_drawnTo, .int 0, .int 0, .ref m_table, .int 0, .ref m_moved, .ref m_from, .ref m_to, .ref m_guard, .ref m_worths, .ref m_ringClub, .ref m_ringGives, .int 0, .ref m_triedClub, .ref m_triedGives, .int 0, .int 0, .ref m_toldClub, .ref m_toldGives, .ref m_isOut, .ref m_purse, .int 0])), (m_moved, .inl (k_moved, 12, .inl f11)), (m_from, .inl (k_from, 12, .inl f12)), (m_to, .inl (k_to, 12, .inl f13)), (m_guard, .inl (k_guard, 12, .inl (fun _ => 0)))] := by rw [ef13]; exact hD
  clear ef13
  refine lv_aload_n hx hb dX12_add_72 rfl (lv_at hl 0 rfl) ?_
  refine va_get (D := (dC, dI)) (ci := 12) (v := .ref m_guard) (C := RX12) (T := TX12) (N := 51) hx hb hts iX12 hown hK hP 0 rfl rfl 37 (by decide) (hts (.fieldLink RX12 85 "CapLeagueModel" "guard" "[I") (by decide +kernel)) (fun _ h9 => h9) rfl dX12_add_73 ?_
  refine lv_aload_n hx hb dX12_add_76 rfl (lv_at hl 0 rfl) ?_
  refine va_get (D := (dC, dI)) (ci := 12) (v := .int 0) (C := RX12) (T := TX12) (N := 51) hx hb hts iX12 hown hK hP 0 rfl rfl 33 (by decide) (hts (.fieldLink RX12 247 "CapLeagueModel" "moves" "I") (by decide +kernel)) (fun _ h9 => h9) rfl dX12_add_77 ?_
  refine lv_iload hx hb dX12_add_80 (lv_at hl 4 rfl) ?_
  refine va_iast (D := (dC, dI)) hx hb hK hP hD hS 4 3 rfl rfl (by unfold vp_in; decide) dX12_add_82 (fun H locs hP hD hS => ?_)
  obtain ⟨f14, ef14⟩ : ∃ g : Nat → Int32, g = upd (fun _ => 0) (0 : Int32).toNatClampNeg (k) := ⟨_, rfl⟩
  replace hP : va_P (dC, dI) vwCl [(mo, .inr (12, [.ref m_tape, .int 0, .int 0, .int 0, .int 0, .int 0, .int 0, .int 0, .int 0, .int (-1), .ref m_laws, .ref m_hasLaws, .int 0, .int 0, .ref m_clubOf, .ref m_first, .ref m_last, .ref m_pay, .ref m_rise, .ref m_sure, .ref m_hasChoice, .ref m_isTaken, .ref m_isHurt, .ref m_dead, .ref m_usedSpare, .ref m_owner, .ref m_giver, .ref m_guarded, .ref m_drawnOf, .ref m_drawnTo, .int 0, .int 0, .ref m_table, .int 0, .ref m_moved, .ref m_from, .ref m_to, .ref m_guard, .ref m_worths, .ref m_ringClub, .ref m_ringGives, .int 0, .ref m_triedClub, .ref m_triedGives, .int 0, .int 0, .ref m_toldClub, .ref m_toldGives, .ref m_isOut, .ref m_purse, .int 0])), (m_moved, .inl (k_moved, 12, .inl f11)), (m_from, .inl (k_from, 12, .inl f12)), (m_to, .inl (k_to, 12, .inl f13)), (m_guard, .inl (k_guard, 12, .inl f14))] H := by rw [ef14]; exact hP
  replace hD : va_D A [(mo, .inr (12, [.ref m_tape, .int 0, .int 0, .int 0, .int 0, .int 0, .int 0, .int 0, .int 0, .int (-1), .ref m_laws, .ref m_hasLaws, .int 0, .int 0, .ref m_clubOf, .ref m_first, .ref m_last, .ref m_pay, .ref m_rise, .ref m_sure, .ref m_hasChoice, .ref m_isTaken, .ref m_isHurt, .ref m_dead, .ref m_usedSpare, .ref m_owner, .ref m_giver, .ref m_guarded, .ref m_drawnOf, .ref m_drawnTo, .int 0, .int 0, .ref m_table, .int 0, .ref m_moved, .ref m_from, .ref m_to, .ref m_guard, .ref m_worths, .ref m_ringClub, .ref m_ringGives, .int 0, .ref m_triedClub, .ref m_triedGives, .int 0, .int 0, .ref m_toldClub, .ref m_toldGives, .ref m_isOut, .ref m_purse, .int 0])), (m_moved, .inl (k_moved, 12, .inl f11)), (m_from, .inl (k_from, 12, .inl f12)), (m_to, .inl (k_to, 12, .inl f13)), (m_guard, .inl (k_guard, 12, .inl f14))] := by rw [ef14]; exact hD
  clear ef14
  refine lv_aload_n hx hb dX12_add_83 rfl (lv_at hl 0 rfl) ?_
  refine lv_dup hx hb dX12_add_84 rfl ?_
  refine va_get (D := (dC, dI)) (ci := 12) (v := .int 0) (C := RX12) (T := TX12) (N := 51) hx hb hts iX12 hown hK hP 0 rfl rfl 33 (by decide) (hts (.fieldLink RX12 247 "CapLeagueModel" "moves" "I") (by decide +kernel)) (fun _ h9 => h9) rfl dX12_add_85 ?_
  refine lv_iconst (v := 1) hx hb dX12_add_88 (by decide) ?_
  refine lv_iadd hx hb dX12_add_89 ?_
  refine xw_i (v := 1) (by decide) ?_
  refine va_put (D := (dC, dI)) (ci := 12) (v := .int 1) (ty := .int) (C := RX12) (T := TX12) (N := 51) hx hb hts iX12 tyX12 tyX12_ok nmX12 hown hK hP hD hS 0 rfl rfl 33 (by decide) (hts (.fieldLink RX12 247 "CapLeagueModel" "moves" "I") (by decide +kernel)) (fun _ h9 => h9) rfl (by decide +kernel) rfl rfl (Nat.le_of_ble_eq_true rfl) dX12_add_90 (fun H locs hP hD hS => ?_)
  replace hP : va_P (dC, dI) vwCl [(mo, .inr (12, [.ref m_tape, .int 0, .int 0, .int 0, .int 0, .int 0, .int 0, .int 0, .int 0, .int (-1), .ref m_laws, .ref m_hasLaws, .int 0, .int 0, .ref m_clubOf, .ref m_first, .ref m_last, .ref m_pay, .ref m_rise, .ref m_sure, .ref m_hasChoice, .ref m_isTaken, .ref m_isHurt, .ref m_dead, .ref m_usedSpare, .ref m_owner, .ref m_giver, .ref m_guarded, .ref m_drawnOf, .ref m_drawnTo, .int 0, .int 0, .ref m_table, .int 1, .ref m_moved, .ref m_from, .ref m_to, .ref m_guard, .ref m_worths, .ref m_ringClub, .ref m_ringGives, .int 0, .ref m_triedClub, .ref m_triedGives, .int 0, .int 0, .ref m_toldClub, .ref m_toldGives, .ref m_isOut, .ref m_purse, .int 0])), (m_moved, .inl (k_moved, 12, .inl f11)), (m_from, .inl (k_from, 12, .inl f12)), (m_to, .inl (k_to, 12, .inl f13)), (m_guard, .inl (k_guard, 12, .inl f14))] H := hP
  replace hD : va_D A [(mo, .inr (12, [.ref m_tape, .int 0, .int 0, .int 0, .int 0, .int 0, .int 0, .int 0, .int 0, .int (-1), .ref m_laws, .ref m_hasLaws, .int 0, .int 0, .ref m_clubOf, .ref m_first, .ref m_last, .ref m_pay, .ref m_rise, .ref m_sure, .ref m_hasChoice, .ref m_isTaken, .ref m_isHurt, .ref m_dead, .ref m_usedSpare, .ref m_owner, .ref m_giver, .ref m_guarded, .ref m_drawnOf, .ref m_drawnTo, .int 0, .int 0, .ref m_table, .int 1, .ref m_moved, .ref m_from, .ref m_to, .ref m_guard, .ref m_worths, .ref m_ringClub, .ref m_ringGives, .int 0, .ref m_triedClub, .ref m_triedGives, .int 0, .int 0, .ref m_toldClub, .ref m_toldGives, .ref m_isOut, .ref m_purse, .int 0])), (m_moved, .inl (k_moved, 12, .inl f11)), (m_from, .inl (k_from, 12, .inl f12)), (m_to, .inl (k_to, 12, .inl f13)), (m_guard, .inl (k_guard, 12, .inl f14))] := hD
  refine lv_aload_n hx hb dX12_add_93 rfl (lv_at hl 0 rfl) ?_
  refine va_get (D := (dC, dI)) (ci := 12) (v := .int 1) (C := RX12) (T := TX12) (N := 51) hx hb hts iX12 hown hK hP 0 rfl rfl 33 (by decide) (hts (.fieldLink RX12 247 "CapLeagueModel" "moves" "I") (by decide +kernel)) (fun _ h9 => h9) rfl dX12_add_94 ?_
  exact W.iret (v := 1) hx hb hr (fun t ht hW => ⟨⟨1, (), rfl, by first | exact ⟨by first | rfl | exact xi_k (k := 1) (by decide) (by omega), by first | trivial | omega⟩, trivial⟩, hS.F ht⟩) hS.2.2 dX12_add_97
set_option maxHeartbeats 4000000 in
set_option maxRecDepth 100000 in
theorem mX_giveTurn (l : Launch) (dC : Nat → ClassId) (dI : Nat → Nat → Nat) (mo m_tape m_laws m_hasLaws m_clubOf m_first m_last m_pay m_rise m_sure m_hasChoice m_isTaken m_isHurt m_dead m_usedSpare m_owner m_giver m_guarded m_drawnOf m_drawnTo m_table m_moved m_from m_to m_guard m_worths m_ringClub m_ringGives m_triedClub m_triedGives m_toldClub m_toldGives m_isOut m_purse : Nat) (k_owner k_guarded k_moved k_from k_to k_guard : ClassId) (fO : Nat → Int32) (sz : Nat) (hh : ∀ j : Nat, j < 80 → (fO j).toInt = j / 10) (a : Int32) (a_t : Int) (h_a : a.toInt = a_t) (y : Int32) (y_t : Int) (h_y : y.toInt = y_t) (c : Int32) (c_t : Int) (h_c : c.toInt = c_t) (k : Int32) (k_t : Int) (h_k : k.toInt = k_t)  : Met l yX12_giveTurn wsX12_giveTurn ({ frames := 3, cells := 0, slots := 0, locals := 192 }) (va_Pc [.ref mo, .int a, .int y, .int c, .int k] (xW (dC, dI) [(k_owner, .int), (k_guarded, .int), (k_moved, .int), (k_from, .int), (k_to, .int), (k_guard, .int)] [(mo, .inr (12, [.ref m_tape, .int 0, .int 0, .int 0, .int 0, .int 0, .int 0, .int 0, .int 0, .int (-1), .ref m_laws, .ref m_hasLaws, .int 0, .int 0, .ref m_clubOf, .ref m_first, .ref m_last, .ref m_pay, .ref m_rise, .ref m_sure, .ref m_hasChoice, .ref m_isTaken, .ref m_isHurt, .ref m_dead, .ref m_usedSpare, .ref m_owner, .ref m_giver, .ref m_guarded, .ref m_drawnOf, .ref m_drawnTo, .int 0, .int 0, .ref m_table, .int 0, .ref m_moved, .ref m_from, .ref m_to, .ref m_guard, .ref m_worths, .ref m_ringClub, .ref m_ringGives, .int 0, .ref m_triedClub, .ref m_triedGives, .int 0, .int 0, .ref m_toldClub, .ref m_toldGives, .ref m_isOut, .ref m_purse, .int 0])), (m_owner, .inl (k_owner, 80, .inl fO)), (m_guarded, .inl (k_guarded, 80, .inl (fun _ => 0))), (m_moved, .inl (k_moved, 12, .inl (fun _ => 0))), (m_from, .inl (k_from, 12, .inl (fun _ => 0))), (m_to, .inl (k_to, 12, .inl (fun _ => 0))), (m_guard, .inl (k_guard, 12, .inl (fun _ => 0)))] sz)) (va_Qi (fun r (_ : Unit) => (r = 1 ∧ (0 ≤ a_t ∧ a_t ≤ 7 ∧ 0 ≤ y_t ∧ y_t ≤ 9 ∧ 0 ≤ c_t ∧ c_t ≤ 7 ∧ 0 ≤ k_t ∧ k_t ≤ 8) ∧ a_t ≠ c_t) ∨ (r = (-4) ∧ (0 ≤ a_t ∧ a_t ≤ 7 ∧ 0 ≤ y_t ∧ y_t ≤ 9 ∧ 0 ≤ c_t ∧ c_t ≤ 7 ∧ 0 ≤ k_t ∧ k_t ≤ 8) ∧ a_t = c_t) ∨ (r = (-2) ∧ ¬ (0 ≤ a_t ∧ a_t ≤ 7 ∧ 0 ≤ y_t ∧ y_t ≤ 9 ∧ 0 ≤ c_t ∧ c_t ≤ 7 ∧ 0 ≤ k_t ∧ k_t ≤ 8))) (fun (_ : Unit) _ => True) (va_A [(mo, .inr (12, [.ref m_tape, .int 0, .int 0, .int 0, .int 0, .int 0, .int 0, .int 0, .int 0, .int (-1), .ref m_laws, .ref m_hasLaws, .int 0, .int 0, .ref m_clubOf, .ref m_first, .ref m_last, .ref m_pay, .ref m_rise, .ref m_sure, .ref m_hasChoice, .ref m_isTaken, .ref m_isHurt, .ref m_dead, .ref m_usedSpare, .ref m_owner, .ref m_giver, .ref m_guarded, .ref m_drawnOf, .ref m_drawnTo, .int 0, .int 0, .ref m_table, .int 0, .ref m_moved, .ref m_from, .ref m_to, .ref m_guard, .ref m_worths, .ref m_ringClub, .ref m_ringGives, .int 0, .ref m_triedClub, .ref m_triedGives, .int 0, .int 0, .ref m_toldClub, .ref m_toldGives, .ref m_isOut, .ref m_purse, .int 0])), (m_owner, .inl (k_owner, 80, .inl fO)), (m_guarded, .inl (k_guarded, 80, .inl (fun _ => 0))), (m_moved, .inl (k_moved, 12, .inl (fun _ => 0))), (m_from, .inl (k_from, 12, .inl (fun _ => 0))), (m_to, .inl (k_to, 12, .inl (fun _ => 0))), (m_guard, .inl (k_guard, 12, .inl (fun _ => 0)))] sz)) 0 0 (va_A [(mo, .inr (12, [.ref m_tape, .int 0, .int 0, .int 0, .int 0, .int 0, .int 0, .int 0, .int 0, .int (-1), .ref m_laws, .ref m_hasLaws, .int 0, .int 0, .ref m_clubOf, .ref m_first, .ref m_last, .ref m_pay, .ref m_rise, .ref m_sure, .ref m_hasChoice, .ref m_isTaken, .ref m_isHurt, .ref m_dead, .ref m_usedSpare, .ref m_owner, .ref m_giver, .ref m_guarded, .ref m_drawnOf, .ref m_drawnTo, .int 0, .int 0, .ref m_table, .int 0, .ref m_moved, .ref m_from, .ref m_to, .ref m_guard, .ref m_worths, .ref m_ringClub, .ref m_ringGives, .int 0, .ref m_triedClub, .ref m_triedGives, .int 0, .int 0, .ref m_toldClub, .ref m_toldGives, .ref m_isOut, .ref m_purse, .int 0])), (m_owner, .inl (k_owner, 80, .inl fO)), (m_guarded, .inl (k_guarded, 80, .inl (fun _ => 0))), (m_moved, .inl (k_moved, 12, .inl (fun _ => 0))), (m_from, .inl (k_from, 12, .inl (fun _ => 0))), (m_to, .inl (k_to, 12, .inl (fun _ => 0))), (m_guard, .inl (k_guard, 12, .inl (fun _ => 0)))] sz) := by
  refine Met.ofW (cc := cX12_giveTurn) (maxL := 6) (ret := (some .int)) (by decide) rfl ?_
  intro pr_ ev_ s m args below meth cd_ s₁ B hml hv
  obtain ⟨rfl, hE, hsz, hK, hP, hD0⟩ := hv
  have hx := B.exec
  have hb := B.bytes
  have hr := B.returns
  have hts := atoms_spec (ws := wsX12_giveTurn) B.pre
  have hown : s.vm.findClass RX12 = some m.cls := findClass_of_methodNamed B.named
  have hlocks := B.notSynchronized
  subst hsz
  have hD := hD0.self (sz := s.heap.size)
  generalize hAe : va_A [(mo, .inr (12, [.ref m_tape, .int 0, .int 0, .int 0, .int 0, .int 0, .int 0, .int 0, .int 0, .int (-1), .ref m_laws, .ref m_hasLaws, .int 0, .int 0, .ref m_clubOf, .ref m_first, .ref m_last, .ref m_pay, .ref m_rise, .ref m_sure, .ref m_hasChoice, .ref m_isTaken, .ref m_isHurt, .ref m_dead, .ref m_usedSpare, .ref m_owner, .ref m_giver, .ref m_guarded, .ref m_drawnOf, .ref m_drawnTo, .int 0, .int 0, .ref m_table, .int 0, .ref m_moved, .ref m_from, .ref m_to, .ref m_guard, .ref m_worths, .ref m_ringClub, .ref m_ringGives, .int 0, .ref m_triedClub, .ref m_triedGives, .int 0, .int 0, .ref m_toldClub, .ref m_toldGives, .ref m_isOut, .ref m_purse, .int 0])), (m_owner, .inl (k_owner, 80, .inl fO)), (m_guarded, .inl (k_guarded, 80, .inl (fun _ => 0))), (m_moved, .inl (k_moved, 12, .inl (fun _ => 0))), (m_from, .inl (k_from, 12, .inl (fun _ => 0))), (m_to, .inl (k_to, 12, .inl (fun _ => 0))), (m_guard, .inl (k_guard, 12, .inl (fun _ => 0)))] s.heap.size = A at hD ⊢
  have hA : ∀ q : Nat, s.heap.size ≤ q → A q := fun q h => by rw [← hAe]; exact Or.inr h
  have hS : va_S A s.heap s.heap [] := va_S.rf
  have iX12 : ∀ w ∈ u_ws RX12 TX12 51, w ∈ wsX12_giveTurn := by decide +kernel
  have hl := lv_entry ([.ref mo, .int a, .int y, .int c, .int k]) (n := 6) (Nat.le_of_ble_eq_true rfl)
  rw [lg_entry_eq]
  generalize (lg_sl ([.ref mo, .int a, .int y, .int c, .int k]) ++ List.replicate (6 - (lg_sl ([.ref mo, .int a, .int y, .int c, .int k])).length) Slot.unset).toArray = ls at hl ⊢
  have hl : lv_has ls 6 [(0, .ref mo), (1, .int a), (2, .int y), (3, .int c), (4, .int k)] := hl
  have lo_a := xi_lo a
  have hi_a := xi_hi a
  have lo_y := xi_lo y
  have hi_y := xi_hi y
  have lo_c := xi_lo c
  have hi_c := xi_hi c
  have lo_k := xi_lo k
  have hi_k := xi_hi k
  refine lv_iload_n hx hb dX12_giveTurn_0 rfl (lv_at hl 1 rfl) ?_
  refine vp_callSi (W.runS (As := [.int a]) (rest := []) ⟨hx, hb, hml, hown, hts⟩ (cX12_isClub_ l dC dI ([(mo, .inr (12, [.ref m_tape, .int 0, .int 0, .int 0, .int 0, .int 0, .int 0, .int 0, .int 0, .int (-1), .ref m_laws, .ref m_hasLaws, .int 0, .int 0, .ref m_clubOf, .ref m_first, .ref m_last, .ref m_pay, .ref m_rise, .ref m_sure, .ref m_hasChoice, .ref m_isTaken, .ref m_isHurt, .ref m_dead, .ref m_usedSpare, .ref m_owner, .ref m_giver, .ref m_guarded, .ref m_drawnOf, .ref m_drawnTo, .int 0, .int 0, .ref m_table, .int 0, .ref m_moved, .ref m_from, .ref m_to, .ref m_guard, .ref m_worths, .ref m_ringClub, .ref m_ringGives, .int 0, .ref m_triedClub, .ref m_triedGives, .int 0, .int 0, .ref m_toldClub, .ref m_toldGives, .ref m_isOut, .ref m_purse, .int 0])), (m_owner, .inl (k_owner, 80, .inl fO)), (m_guarded, .inl (k_guarded, 80, .inl (fun _ => 0))), (m_moved, .inl (k_moved, 12, .inl (fun _ => 0))), (m_from, .inl (k_from, 12, .inl (fun _ => 0))), (m_to, .inl (k_to, 12, .inl (fun _ => 0))), (m_guard, .inl (k_guard, 12, .inl (fun _ => 0)))]) ([(k_owner, .int), (k_guarded, .int), (k_moved, .int), (k_from, .int), (k_to, .int), (k_guard, .int)]) a (a.toInt) rfl) (va_cwS 1 hts gX12_giveTurn_X12_isClub rfl rfl rfl (by decide +kernel) ⟨Nat.le_of_ble_eq_true rfl, Nat.le_of_ble_eq_true rfl⟩) ⟨xR_blind _ _ _ _, xR_pre _ hE hK hP⟩ rfl rfl hl.1 rfl (lv_room (Nat.le_of_ble_eq_true rfl)) dX12_giveTurn_1 ⟨Nat.le_of_ble_eq_true rfl, Nat.le_of_ble_eq_true rfl⟩) (fun rh1 h1 => ?_)
  rcases h1 with ⟨rfl, h1⟩ | ⟨rfl, h1⟩
  · skip
    refine lv_if_eq (tgt := 43) hx hb dX12_giveTurn_4 (by decide) (fun h => absurd h (by decide)) (fun _ => ?_)
    refine lv_iload_n hx hb dX12_giveTurn_7 rfl (lv_at hl 2 rfl) ?_
    refine lv_i2l hx hb dX12_giveTurn_8 rfl ?_
    refine lv_aload_n hx hb dX12_giveTurn_9 rfl (lv_at hl 0 rfl) ?_
    refine va_get (D := (dC, dI)) (ci := 12) (v := .int 0) (C := RX12) (T := TX12) (N := 51) hx hb hts iX12 hown hK hP 0 rfl rfl 12 (by decide) (hts (.fieldLink RX12 187 "CapLeagueModel" "clock" "I") (by decide +kernel)) (fun _ h9 => h9) rfl dX12_giveTurn_10 ?_
    refine lv_i2l (v := 0) hx hb dX12_giveTurn_13 (by decide) ?_
    refine lv_ldc2 (v := 9) hx hb hown (hts (.constantLong RX12 190 (9)) (by decide +kernel)) dX12_giveTurn_14 ?_
    refine vp_callSi (W.runS (As := [.long y.toInt64, .long 0, .long 9]) (rest := []) ⟨hx, hb, hml, hown, hts⟩ (cX12_in_ l dC dI ([(mo, .inr (12, [.ref m_tape, .int 0, .int 0, .int 0, .int 0, .int 0, .int 0, .int 0, .int 0, .int (-1), .ref m_laws, .ref m_hasLaws, .int 0, .int 0, .ref m_clubOf, .ref m_first, .ref m_last, .ref m_pay, .ref m_rise, .ref m_sure, .ref m_hasChoice, .ref m_isTaken, .ref m_isHurt, .ref m_dead, .ref m_usedSpare, .ref m_owner, .ref m_giver, .ref m_guarded, .ref m_drawnOf, .ref m_drawnTo, .int 0, .int 0, .ref m_table, .int 0, .ref m_moved, .ref m_from, .ref m_to, .ref m_guard, .ref m_worths, .ref m_ringClub, .ref m_ringGives, .int 0, .ref m_triedClub, .ref m_triedGives, .int 0, .int 0, .ref m_toldClub, .ref m_toldGives, .ref m_isOut, .ref m_purse, .int 0])), (m_owner, .inl (k_owner, 80, .inl fO)), (m_guarded, .inl (k_guarded, 80, .inl (fun _ => 0))), (m_moved, .inl (k_moved, 12, .inl (fun _ => 0))), (m_from, .inl (k_from, 12, .inl (fun _ => 0))), (m_to, .inl (k_to, 12, .inl (fun _ => 0))), (m_guard, .inl (k_guard, 12, .inl (fun _ => 0)))]) ([(k_owner, .int), (k_guarded, .int), (k_moved, .int), (k_from, .int), (k_to, .int), (k_guard, .int)]) y.toInt64 (y.toInt) (xi_64 y) 0 (0) (by decide) 9 (9) (by decide)) (va_cwS 3 hts gX12_giveTurn_X12_in rfl rfl rfl (by decide +kernel) ⟨Nat.le_of_ble_eq_true rfl, Nat.le_of_ble_eq_true rfl⟩) ⟨xR_blind _ _ _ _, xR_pre _ hE hK hP⟩ rfl rfl hl.1 rfl (lv_room (Nat.le_of_ble_eq_true rfl)) dX12_giveTurn_17 ⟨Nat.le_of_ble_eq_true rfl, Nat.le_of_ble_eq_true rfl⟩) (fun rh3 h3 => ?_)
    rcases h3 with ⟨rfl, h3⟩ | ⟨rfl, h3⟩
    · skip
      refine lv_if_eq (tgt := 43) hx hb dX12_giveTurn_20 (by decide) (fun h => absurd h (by decide)) (fun _ => ?_)
      refine lv_iload_n hx hb dX12_giveTurn_23 rfl (lv_at hl 3 rfl) ?_
      refine vp_callSi (W.runS (As := [.int c]) (rest := []) ⟨hx, hb, hml, hown, hts⟩ (cX12_isClub_ l dC dI ([(mo, .inr (12, [.ref m_tape, .int 0, .int 0, .int 0, .int 0, .int 0, .int 0, .int 0, .int 0, .int (-1), .ref m_laws, .ref m_hasLaws, .int 0, .int 0, .ref m_clubOf, .ref m_first, .ref m_last, .ref m_pay, .ref m_rise, .ref m_sure, .ref m_hasChoice, .ref m_isTaken, .ref m_isHurt, .ref m_dead, .ref m_usedSpare, .ref m_owner, .ref m_giver, .ref m_guarded, .ref m_drawnOf, .ref m_drawnTo, .int 0, .int 0, .ref m_table, .int 0, .ref m_moved, .ref m_from, .ref m_to, .ref m_guard, .ref m_worths, .ref m_ringClub, .ref m_ringGives, .int 0, .ref m_triedClub, .ref m_triedGives, .int 0, .int 0, .ref m_toldClub, .ref m_toldGives, .ref m_isOut, .ref m_purse, .int 0])), (m_owner, .inl (k_owner, 80, .inl fO)), (m_guarded, .inl (k_guarded, 80, .inl (fun _ => 0))), (m_moved, .inl (k_moved, 12, .inl (fun _ => 0))), (m_from, .inl (k_from, 12, .inl (fun _ => 0))), (m_to, .inl (k_to, 12, .inl (fun _ => 0))), (m_guard, .inl (k_guard, 12, .inl (fun _ => 0)))]) ([(k_owner, .int), (k_guarded, .int), (k_moved, .int), (k_from, .int), (k_to, .int), (k_guard, .int)]) c (c.toInt) rfl) (va_cwS 1 hts gX12_giveTurn_X12_isClub rfl rfl rfl (by decide +kernel) ⟨Nat.le_of_ble_eq_true rfl, Nat.le_of_ble_eq_true rfl⟩) ⟨xR_blind _ _ _ _, xR_pre _ hE hK hP⟩ rfl rfl hl.1 rfl (lv_room (Nat.le_of_ble_eq_true rfl)) dX12_giveTurn_24 ⟨Nat.le_of_ble_eq_true rfl, Nat.le_of_ble_eq_true rfl⟩) (fun rh5 h5 => ?_)
      rcases h5 with ⟨rfl, h5⟩ | ⟨rfl, h5⟩
      · skip
        refine lv_if_eq (tgt := 43) hx hb dX12_giveTurn_27 (by decide) (fun h => absurd h (by decide)) (fun _ => ?_)
        refine lv_iload hx hb dX12_giveTurn_30 (lv_at hl 4 rfl) ?_
        refine lv_i2l hx hb dX12_giveTurn_32 rfl ?_
        refine lv_lconst (v := 0) hx hb dX12_giveTurn_33 (by decide) ?_
        refine lv_ldc2 (v := 8) hx hb hown (hts (.constantLong RX12 195 (8)) (by decide +kernel)) dX12_giveTurn_34 ?_
        refine vp_callSi (W.runS (As := [.long k.toInt64, .long 0, .long 8]) (rest := []) ⟨hx, hb, hml, hown, hts⟩ (cX12_in_ l dC dI ([(mo, .inr (12, [.ref m_tape, .int 0, .int 0, .int 0, .int 0, .int 0, .int 0, .int 0, .int 0, .int (-1), .ref m_laws, .ref m_hasLaws, .int 0, .int 0, .ref m_clubOf, .ref m_first, .ref m_last, .ref m_pay, .ref m_rise, .ref m_sure, .ref m_hasChoice, .ref m_isTaken, .ref m_isHurt, .ref m_dead, .ref m_usedSpare, .ref m_owner, .ref m_giver, .ref m_guarded, .ref m_drawnOf, .ref m_drawnTo, .int 0, .int 0, .ref m_table, .int 0, .ref m_moved, .ref m_from, .ref m_to, .ref m_guard, .ref m_worths, .ref m_ringClub, .ref m_ringGives, .int 0, .ref m_triedClub, .ref m_triedGives, .int 0, .int 0, .ref m_toldClub, .ref m_toldGives, .ref m_isOut, .ref m_purse, .int 0])), (m_owner, .inl (k_owner, 80, .inl fO)), (m_guarded, .inl (k_guarded, 80, .inl (fun _ => 0))), (m_moved, .inl (k_moved, 12, .inl (fun _ => 0))), (m_from, .inl (k_from, 12, .inl (fun _ => 0))), (m_to, .inl (k_to, 12, .inl (fun _ => 0))), (m_guard, .inl (k_guard, 12, .inl (fun _ => 0)))]) ([(k_owner, .int), (k_guarded, .int), (k_moved, .int), (k_from, .int), (k_to, .int), (k_guard, .int)]) k.toInt64 (k.toInt) (xi_64 k) 0 (0) (by decide) 8 (8) (by decide)) (va_cwS 3 hts gX12_giveTurn_X12_in rfl rfl rfl (by decide +kernel) ⟨Nat.le_of_ble_eq_true rfl, Nat.le_of_ble_eq_true rfl⟩) ⟨xR_blind _ _ _ _, xR_pre _ hE hK hP⟩ rfl rfl hl.1 rfl (lv_room (Nat.le_of_ble_eq_true rfl)) dX12_giveTurn_37 ⟨Nat.le_of_ble_eq_true rfl, Nat.le_of_ble_eq_true rfl⟩) (fun rh7 h7 => ?_)
        rcases h7 with ⟨rfl, h7⟩ | ⟨rfl, h7⟩
        · skip
          refine lv_if_ne (tgt := 46) hx hb dX12_giveTurn_40 (by decide) (fun _ => ?_) (fun h => absurd h (by decide))
          refine lv_bipush (v := 10) hx hb dX12_giveTurn_46 (by decide) ?_
          refine lv_iload_n hx hb dX12_giveTurn_48 rfl (lv_at hl 1 rfl) ?_
          refine lv_imul hx hb dX12_giveTurn_49 ?_
          refine lv_topi (fun v9 ev9 => ?_)
          have jv9 : v9.toInt = 10 * a.toInt := xi_mul ev9 (by decide) rfl (by omega) (by omega)
          refine lv_iload_n hx hb dX12_giveTurn_50 rfl (lv_at hl 2 rfl) ?_
          refine lv_iadd hx hb dX12_giveTurn_51 ?_
          refine lv_topi (fun v10 ev10 => ?_)
          have jv10 : v10.toInt = v9.toInt + y.toInt := xi_add ev10 rfl rfl (by omega) (by omega)
          refine lv_istore (lv' := [(5, .int v10), (0, .ref mo), (1, .int a), (2, .int y), (3, .int c), (4, .int k)]) hx hb dX12_giveTurn_52 hl (by decide) rfl (fun ls hl => ?_)
          refine lv_aload_n hx hb dX12_giveTurn_54 rfl (lv_at hl 1 rfl) ?_
          refine va_get (D := (dC, dI)) (ci := 12) (v := .ref m_owner) (C := RX12) (T := TX12) (N := 51) hx hb hts iX12 hown hK hP 0 rfl rfl 25 (by decide) (hts (.fieldLink RX12 58 "CapLeagueModel" "owner" "[I") (by decide +kernel)) (fun _ h9 => h9) rfl dX12_giveTurn_55 ?_
          refine lv_iload hx hb dX12_giveTurn_58 (lv_at hl 0 rfl) ?_
          refine va_iald (D := (dC, dI)) hx hb hK hP 1 0 rfl rfl (xi_in (by omega) (by omega)) dX12_giveTurn_60 ?_
          refine lv_topi (fun v11 ev11 => ?_)
          have jv11 : v11.toInt = v10.toInt / 10 := by rw [ev11]; exact xh_at hh (by omega) (by omega)
          refine lv_iload_n hx hb dX12_giveTurn_61 rfl (lv_at hl 4 rfl) ?_
          refine lv_icmp_eq (tgt := 90) hx hb dX12_giveTurn_62 (by decide) (fun c12 => ?_) (fun c12 => ?_)
          · have ic12 := (xi_eq c12 rfl rfl : v11.toInt = c.toInt)
            refine lv_bipush (v := (-4)) hx hb dX12_giveTurn_90 (by decide) ?_
            exact W.iret (v := (-4)) hx hb hr (fun t ht hW => ⟨⟨(-4), (), rfl, by first | exact Or.inl ⟨by first | rfl | exact xi_k (k := 1) (by decide) (by omega), by first | trivial | omega⟩ | exact Or.inr (Or.inl ⟨by first | rfl | exact xi_k (k := (-4)) (by decide) (by omega), by first | trivial | omega⟩) | exact Or.inr (Or.inr (⟨by first | rfl | exact xi_k (k := (-2)) (by decide) (by omega), by first | trivial | omega⟩)), trivial⟩, hS.F ht⟩) hS.2.2 dX12_giveTurn_92
          · have ic12 := (xi_ne c12 rfl rfl : v11.toInt ≠ c.toInt)
            refine lv_iload_n hx hb dX12_giveTurn_65 rfl (lv_at hl 3 rfl) ?_
            refine lv_aload_n hx hb dX12_giveTurn_66 rfl (lv_at hl 1 rfl) ?_
            refine va_get (D := (dC, dI)) (ci := 12) (v := .int 0) (C := RX12) (T := TX12) (N := 51) hx hb hts iX12 hown hK hP 0 rfl rfl 12 (by decide) (hts (.fieldLink RX12 187 "CapLeagueModel" "clock" "I") (by decide +kernel)) (fun _ h9 => h9) rfl dX12_giveTurn_67 ?_
            refine lv_icmp_ne (tgt := 80) hx hb dX12_giveTurn_70 (by decide) (fun c13 => ?_) (fun c13 => ?_)
            · have ic13 := (xi_ne c13 rfl (by decide) : y.toInt ≠ 0)
              refine lv_aload_n hx hb dX12_giveTurn_80 rfl (lv_at hl 1 rfl) ?_
              refine va_get (D := (dC, dI)) (ci := 12) (v := .ref m_guarded) (C := RX12) (T := TX12) (N := 51) hx hb hts iX12 hown hK hP 0 rfl rfl 27 (by decide) (hts (.fieldLink RX12 64 "CapLeagueModel" "guarded" "[I") (by decide +kernel)) (fun _ h9 => h9) rfl dX12_giveTurn_81 ?_
              refine lv_iload hx hb dX12_giveTurn_84 (lv_at hl 0 rfl) ?_
              refine va_iald (D := (dC, dI)) hx hb hK hP 2 1 rfl rfl (xi_in (by omega) (by omega)) dX12_giveTurn_86 ?_
              refine xw_i (v := 0) rfl ?_
              refine lv_if_le (tgt := 93) hx hb dX12_giveTurn_87 (by decide) (fun _ => ?_) (fun h => absurd (by decide) h)
              refine lv_aload_n hx hb dX12_giveTurn_93 rfl (lv_at hl 1 rfl) ?_
              refine lv_bipush (v := 60) hx hb dX12_giveTurn_94 (by decide) ?_
              refine lv_iload hx hb dX12_giveTurn_96 (lv_at hl 0 rfl) ?_
              refine lv_iadd hx hb dX12_giveTurn_98 ?_
              refine lv_topi (fun v15 ev15 => ?_)
              have jv15 : v15.toInt = 60 + v10.toInt := xi_add ev15 (by decide) rfl (by omega) (by omega)
              refine lv_aload_n hx hb dX12_giveTurn_99 rfl (lv_at hl 1 rfl) ?_
              refine va_get (D := (dC, dI)) (ci := 12) (v := .ref m_owner) (C := RX12) (T := TX12) (N := 51) hx hb hts iX12 hown hK hP 0 rfl rfl 25 (by decide) (hts (.fieldLink RX12 58 "CapLeagueModel" "owner" "[I") (by decide +kernel)) (fun _ h9 => h9) rfl dX12_giveTurn_100 ?_
              refine lv_iload hx hb dX12_giveTurn_103 (lv_at hl 0 rfl) ?_
              refine va_iald (D := (dC, dI)) hx hb hK hP 1 0 rfl rfl (xi_in (by omega) (by omega)) dX12_giveTurn_105 ?_
              refine lv_topi (fun v16 ev16 => ?_)
              have jv16 : v16.toInt = v10.toInt / 10 := by rw [ev16]; exact xh_at hh (by omega) (by omega)
              refine lv_iload_n hx hb dX12_giveTurn_106 rfl (lv_at hl 4 rfl) ?_
              refine lv_iload hx hb dX12_giveTurn_107 (lv_at hl 5 rfl) ?_
              have hPc := hP.sub (ws' := [(mo, .inr (12, [.ref m_tape, .int 0, .int 0, .int 0, .int 0, .int 0, .int 0, .int 0, .int 0, .int (-1), .ref m_laws, .ref m_hasLaws, .int 0, .int 0, .ref m_clubOf, .ref m_first, .ref m_last, .ref m_pay, .ref m_rise, .ref m_sure, .ref m_hasChoice, .ref m_isTaken, .ref m_isHurt, .ref m_dead, .ref m_usedSpare, .ref m_owner, .ref m_giver, .ref m_guarded, .ref m_drawnOf, .ref m_drawnTo, .int 0, .int 0, .ref m_table, .int 0, .ref m_moved, .ref m_from, .ref m_to, .ref m_guard, .ref m_worths, .ref m_ringClub, .ref m_ringGives, .int 0, .ref m_triedClub, .ref m_triedGives, .int 0, .int 0, .ref m_toldClub, .ref m_toldGives, .ref m_isOut, .ref m_purse, .int 0])), (m_moved, .inl (k_moved, 12, .inl (fun _ => 0))), (m_from, .inl (k_from, 12, .inl (fun _ => 0))), (m_to, .inl (k_to, 12, .inl (fun _ => 0))), (m_guard, .inl (k_guard, 12, .inl (fun _ => 0)))]) [0, 3, 4, 5, 6] rfl
              have hDc := hD.sub (ws' := [(mo, .inr (12, [.ref m_tape, .int 0, .int 0, .int 0, .int 0, .int 0, .int 0, .int 0, .int 0, .int (-1), .ref m_laws, .ref m_hasLaws, .int 0, .int 0, .ref m_clubOf, .ref m_first, .ref m_last, .ref m_pay, .ref m_rise, .ref m_sure, .ref m_hasChoice, .ref m_isTaken, .ref m_isHurt, .ref m_dead, .ref m_usedSpare, .ref m_owner, .ref m_giver, .ref m_guarded, .ref m_drawnOf, .ref m_drawnTo, .int 0, .int 0, .ref m_table, .int 0, .ref m_moved, .ref m_from, .ref m_to, .ref m_guard, .ref m_worths, .ref m_ringClub, .ref m_ringGives, .int 0, .ref m_triedClub, .ref m_triedGives, .int 0, .int 0, .ref m_toldClub, .ref m_toldGives, .ref m_isOut, .ref m_purse, .int 0])), (m_moved, .inl (k_moved, 12, .inl (fun _ => 0))), (m_from, .inl (k_from, 12, .inl (fun _ => 0))), (m_to, .inl (k_to, 12, .inl (fun _ => 0))), (m_guard, .inl (k_guard, 12, .inl (fun _ => 0)))]) [0, 3, 4, 5, 6] (by decide) rfl
              have hKc := hK.sub (tys' := [(k_moved, .int), (k_from, .int), (k_to, .int), (k_guard, .int)]) [2, 3, 4, 5] rfl
              have hFc := va_free (wc := [(mo, .inr (12, [.ref m_tape, .int 0, .int 0, .int 0, .int 0, .int 0, .int 0, .int 0, .int 0, .int (-1), .ref m_laws, .ref m_hasLaws, .int 0, .int 0, .ref m_clubOf, .ref m_first, .ref m_last, .ref m_pay, .ref m_rise, .ref m_sure, .ref m_hasChoice, .ref m_isTaken, .ref m_isHurt, .ref m_dead, .ref m_usedSpare, .ref m_owner, .ref m_giver, .ref m_guarded, .ref m_drawnOf, .ref m_drawnTo, .int 0, .int 0, .ref m_table, .int 0, .ref m_moved, .ref m_from, .ref m_to, .ref m_guard, .ref m_worths, .ref m_ringClub, .ref m_ringGives, .int 0, .ref m_triedClub, .ref m_triedGives, .int 0, .int 0, .ref m_toldClub, .ref m_toldGives, .ref m_isOut, .ref m_purse, .int 0])), (m_moved, .inl (k_moved, 12, .inl (fun _ => 0))), (m_from, .inl (k_from, 12, .inl (fun _ => 0))), (m_to, .inl (k_to, 12, .inl (fun _ => 0))), (m_guard, .inl (k_guard, 12, .inl (fun _ => 0)))]) hD hS hA [0, 3, 4, 5, 6] rfl
              refine va_calli (va_runV (As := [.int v15, .int v16, .int c, .int k]) (rest := []) ⟨hx, hb, hml, hown, hts⟩ (wX12_add l dC dI mo m_tape m_laws m_hasLaws m_clubOf m_first m_last m_pay m_rise m_sure m_hasChoice m_isTaken m_isHurt m_dead m_usedSpare m_owner m_giver m_guarded m_drawnOf m_drawnTo m_table m_moved m_from m_to m_guard m_worths m_ringClub m_ringGives m_triedClub m_triedGives m_toldClub m_toldGives m_isOut m_purse k_moved k_from k_to k_guard   _ v15 (v15.toInt) rfl v16 (v16.toInt) rfl c (c.toInt) rfl k (k.toInt) rfl (by omega) (by omega) (by omega) (by omega)) (cwV 4 hts gX12_giveTurn_X12_add rfl rfl rfl (by decide +kernel) ⟨Nat.le_of_ble_eq_true rfl, Nat.le_of_ble_eq_true rfl⟩) ⟨xW_blind _ _ _ _ _, va_recv hKc hPc (ci := 12) (q0 := 0) rfl rfl, xW_pre _ hE hKc hPc hDc⟩ rfl rfl hl.1 rfl (lv_room (Nat.le_of_ble_eq_true rfl)) dX12_giveTurn_109 ⟨Nat.le_of_ble_eq_true rfl, Nat.le_of_ble_eq_true rfl⟩) hS (fun q _ h => hFc q h) hFc (fun rh17 u t H1 locs ht hvm h17 hB hz1 hk1 hS => ?_)
              obtain ⟨hP, hD⟩ := va_join (wr := [(m_owner, .inl (k_owner, 80, .inl fO)), (m_guarded, .inl (k_guarded, 80, .inl (fun _ => 0)))]) (w1 := []) hP hD [0, 3, 4, 5, 6] [1, 2] rfl rfl (by decide) (by decide) hk1 hFc xz_P xz_D
              generalize H1 = H at hP hS ⊢
              replace hP : va_P (dC, dI) vwCl [(m_owner, .inl (k_owner, 80, .inl fO)), (m_guarded, .inl (k_guarded, 80, .inl (fun _ => 0)))] H := hP
              replace hD : va_D A [(m_owner, .inl (k_owner, 80, .inl fO)), (m_guarded, .inl (k_guarded, 80, .inl (fun _ => 0)))] := hD
              replace hK : va_K (dC, dI) vwCl [(k_owner, .int), (k_guarded, .int), (k_moved, .int), (k_from, .int), (k_to, .int), (k_guard, .int)] s := hK
              refine W.cs (cells' := 0) (slots' := 0) rfl rfl ?_
              obtain ⟨rfl, h17⟩ := h17
              exact W.iret (v := 1) hx hb hr (fun t ht hW => ⟨⟨1, (), rfl, by first | exact Or.inl ⟨by first | rfl | exact xi_k (k := 1) (by decide) (by omega), by first | trivial | omega⟩ | exact Or.inr (Or.inl ⟨by first | rfl | exact xi_k (k := (-4)) (by decide) (by omega), by first | trivial | omega⟩) | exact Or.inr (Or.inr (⟨by first | rfl | exact xi_k (k := (-2)) (by decide) (by omega), by first | trivial | omega⟩)), trivial⟩, hS.F ht⟩) hS.2.2 dX12_giveTurn_112
            · have ic13 := (xi_eq c13 rfl (by decide) : y.toInt = 0)
              refine lv_aload_n hx hb dX12_giveTurn_73 rfl (lv_at hl 1 rfl) ?_
              refine va_get (D := (dC, dI)) (ci := 12) (v := .int 0) (C := RX12) (T := TX12) (N := 51) hx hb hts iX12 hown hK hP 0 rfl rfl 31 (by decide) (hts (.fieldLink RX12 264 "CapLeagueModel" "isDrawn" "Z") (by decide +kernel)) (fun _ h9 => h9) rfl dX12_giveTurn_74 ?_
              refine lv_if_ne (tgt := 90) hx hb dX12_giveTurn_77 (by decide) (fun h => absurd (by decide) h) (fun _ => ?_)
              refine lv_aload_n hx hb dX12_giveTurn_80 rfl (lv_at hl 1 rfl) ?_
              refine va_get (D := (dC, dI)) (ci := 12) (v := .ref m_guarded) (C := RX12) (T := TX12) (N := 51) hx hb hts iX12 hown hK hP 0 rfl rfl 27 (by decide) (hts (.fieldLink RX12 64 "CapLeagueModel" "guarded" "[I") (by decide +kernel)) (fun _ h9 => h9) rfl dX12_giveTurn_81 ?_
              refine lv_iload hx hb dX12_giveTurn_84 (lv_at hl 0 rfl) ?_
              refine va_iald (D := (dC, dI)) hx hb hK hP 2 1 rfl rfl (xi_in (by omega) (by omega)) dX12_giveTurn_86 ?_
              refine xw_i (v := 0) rfl ?_
              refine lv_if_le (tgt := 93) hx hb dX12_giveTurn_87 (by decide) (fun _ => ?_) (fun h => absurd (by decide) h)
              refine lv_aload_n hx hb dX12_giveTurn_93 rfl (lv_at hl 1 rfl) ?_
              refine lv_bipush (v := 60) hx hb dX12_giveTurn_94 (by decide) ?_
              refine lv_iload hx hb dX12_giveTurn_96 (lv_at hl 0 rfl) ?_
              refine lv_iadd hx hb dX12_giveTurn_98 ?_
              refine lv_topi (fun v20 ev20 => ?_)
              have jv20 : v20.toInt = 60 + v10.toInt := xi_add ev20 (by decide) rfl (by omega) (by omega)
              refine lv_aload_n hx hb dX12_giveTurn_99 rfl (lv_at hl 1 rfl) ?_
              refine va_get (D := (dC, dI)) (ci := 12) (v := .ref m_owner) (C := RX12) (T := TX12) (N := 51) hx hb hts iX12 hown hK hP 0 rfl rfl 25 (by decide) (hts (.fieldLink RX12 58 "CapLeagueModel" "owner" "[I") (by decide +kernel)) (fun _ h9 => h9) rfl dX12_giveTurn_100 ?_
              refine lv_iload hx hb dX12_giveTurn_103 (lv_at hl 0 rfl) ?_
              refine va_iald (D := (dC, dI)) hx hb hK hP 1 0 rfl rfl (xi_in (by omega) (by omega)) dX12_giveTurn_105 ?_
              refine lv_topi (fun v21 ev21 => ?_)
              have jv21 : v21.toInt = v10.toInt / 10 := by rw [ev21]; exact xh_at hh (by omega) (by omega)
              refine lv_iload_n hx hb dX12_giveTurn_106 rfl (lv_at hl 4 rfl) ?_
              refine lv_iload hx hb dX12_giveTurn_107 (lv_at hl 5 rfl) ?_
              have hPc := hP.sub (ws' := [(mo, .inr (12, [.ref m_tape, .int 0, .int 0, .int 0, .int 0, .int 0, .int 0, .int 0, .int 0, .int (-1), .ref m_laws, .ref m_hasLaws, .int 0, .int 0, .ref m_clubOf, .ref m_first, .ref m_last, .ref m_pay, .ref m_rise, .ref m_sure, .ref m_hasChoice, .ref m_isTaken, .ref m_isHurt, .ref m_dead, .ref m_usedSpare, .ref m_owner, .ref m_giver, .ref m_guarded, .ref m_drawnOf, .ref m_drawnTo, .int 0, .int 0, .ref m_table, .int 0, .ref m_moved, .ref m_from, .ref m_to, .ref m_guard, .ref m_worths, .ref m_ringClub, .ref m_ringGives, .int 0, .ref m_triedClub, .ref m_triedGives, .int 0, .int 0, .ref m_toldClub, .ref m_toldGives, .ref m_isOut, .ref m_purse, .int 0])), (m_moved, .inl (k_moved, 12, .inl (fun _ => 0))), (m_from, .inl (k_from, 12, .inl (fun _ => 0))), (m_to, .inl (k_to, 12, .inl (fun _ => 0))), (m_guard, .inl (k_guard, 12, .inl (fun _ => 0)))]) [0, 3, 4, 5, 6] rfl
              have hDc := hD.sub (ws' := [(mo, .inr (12, [.ref m_tape, .int 0, .int 0, .int 0, .int 0, .int 0, .int 0, .int 0, .int 0, .int (-1), .ref m_laws, .ref m_hasLaws, .int 0, .int 0, .ref m_clubOf, .ref m_first, .ref m_last, .ref m_pay, .ref m_rise, .ref m_sure, .ref m_hasChoice, .ref m_isTaken, .ref m_isHurt, .ref m_dead, .ref m_usedSpare, .ref m_owner, .ref m_giver, .ref m_guarded, .ref m_drawnOf, .ref m_drawnTo, .int 0, .int 0, .ref m_table, .int 0, .ref m_moved, .ref m_from, .ref m_to, .ref m_guard, .ref m_worths, .ref m_ringClub, .ref m_ringGives, .int 0, .ref m_triedClub, .ref m_triedGives, .int 0, .int 0, .ref m_toldClub, .ref m_toldGives, .ref m_isOut, .ref m_purse, .int 0])), (m_moved, .inl (k_moved, 12, .inl (fun _ => 0))), (m_from, .inl (k_from, 12, .inl (fun _ => 0))), (m_to, .inl (k_to, 12, .inl (fun _ => 0))), (m_guard, .inl (k_guard, 12, .inl (fun _ => 0)))]) [0, 3, 4, 5, 6] (by decide) rfl
              have hKc := hK.sub (tys' := [(k_moved, .int), (k_from, .int), (k_to, .int), (k_guard, .int)]) [2, 3, 4, 5] rfl
              have hFc := va_free (wc := [(mo, .inr (12, [.ref m_tape, .int 0, .int 0, .int 0, .int 0, .int 0, .int 0, .int 0, .int 0, .int (-1), .ref m_laws, .ref m_hasLaws, .int 0, .int 0, .ref m_clubOf, .ref m_first, .ref m_last, .ref m_pay, .ref m_rise, .ref m_sure, .ref m_hasChoice, .ref m_isTaken, .ref m_isHurt, .ref m_dead, .ref m_usedSpare, .ref m_owner, .ref m_giver, .ref m_guarded, .ref m_drawnOf, .ref m_drawnTo, .int 0, .int 0, .ref m_table, .int 0, .ref m_moved, .ref m_from, .ref m_to, .ref m_guard, .ref m_worths, .ref m_ringClub, .ref m_ringGives, .int 0, .ref m_triedClub, .ref m_triedGives, .int 0, .int 0, .ref m_toldClub, .ref m_toldGives, .ref m_isOut, .ref m_purse, .int 0])), (m_moved, .inl (k_moved, 12, .inl (fun _ => 0))), (m_from, .inl (k_from, 12, .inl (fun _ => 0))), (m_to, .inl (k_to, 12, .inl (fun _ => 0))), (m_guard, .inl (k_guard, 12, .inl (fun _ => 0)))]) hD hS hA [0, 3, 4, 5, 6] rfl
              refine va_calli (va_runV (As := [.int v20, .int v21, .int c, .int k]) (rest := []) ⟨hx, hb, hml, hown, hts⟩ (wX12_add l dC dI mo m_tape m_laws m_hasLaws m_clubOf m_first m_last m_pay m_rise m_sure m_hasChoice m_isTaken m_isHurt m_dead m_usedSpare m_owner m_giver m_guarded m_drawnOf m_drawnTo m_table m_moved m_from m_to m_guard m_worths m_ringClub m_ringGives m_triedClub m_triedGives m_toldClub m_toldGives m_isOut m_purse k_moved k_from k_to k_guard   _ v20 (v20.toInt) rfl v21 (v21.toInt) rfl c (c.toInt) rfl k (k.toInt) rfl (by omega) (by omega) (by omega) (by omega)) (cwV 4 hts gX12_giveTurn_X12_add rfl rfl rfl (by decide +kernel) ⟨Nat.le_of_ble_eq_true rfl, Nat.le_of_ble_eq_true rfl⟩) ⟨xW_blind _ _ _ _ _, va_recv hKc hPc (ci := 12) (q0 := 0) rfl rfl, xW_pre _ hE hKc hPc hDc⟩ rfl rfl hl.1 rfl (lv_room (Nat.le_of_ble_eq_true rfl)) dX12_giveTurn_109 ⟨Nat.le_of_ble_eq_true rfl, Nat.le_of_ble_eq_true rfl⟩) hS (fun q _ h => hFc q h) hFc (fun rh22 u t H1 locs ht hvm h22 hB hz1 hk1 hS => ?_)
              obtain ⟨hP, hD⟩ := va_join (wr := [(m_owner, .inl (k_owner, 80, .inl fO)), (m_guarded, .inl (k_guarded, 80, .inl (fun _ => 0)))]) (w1 := []) hP hD [0, 3, 4, 5, 6] [1, 2] rfl rfl (by decide) (by decide) hk1 hFc xz_P xz_D
              generalize H1 = H at hP hS ⊢
              replace hP : va_P (dC, dI) vwCl [(m_owner, .inl (k_owner, 80, .inl fO)), (m_guarded, .inl (k_guarded, 80, .inl (fun _ => 0)))] H := hP
              replace hD : va_D A [(m_owner, .inl (k_owner, 80, .inl fO)), (m_guarded, .inl (k_guarded, 80, .inl (fun _ => 0)))] := hD
              replace hK : va_K (dC, dI) vwCl [(k_owner, .int), (k_guarded, .int), (k_moved, .int), (k_from, .int), (k_to, .int), (k_guard, .int)] s := hK
              refine W.cs (cells' := 0) (slots' := 0) rfl rfl ?_
              obtain ⟨rfl, h22⟩ := h22
              exact W.iret (v := 1) hx hb hr (fun t ht hW => ⟨⟨1, (), rfl, by first | exact Or.inl ⟨by first | rfl | exact xi_k (k := 1) (by decide) (by omega), by first | trivial | omega⟩ | exact Or.inr (Or.inl ⟨by first | rfl | exact xi_k (k := (-4)) (by decide) (by omega), by first | trivial | omega⟩) | exact Or.inr (Or.inr (⟨by first | rfl | exact xi_k (k := (-2)) (by decide) (by omega), by first | trivial | omega⟩)), trivial⟩, hS.F ht⟩) hS.2.2 dX12_giveTurn_112
        · skip
          refine lv_if_ne (tgt := 46) hx hb dX12_giveTurn_40 (by decide) (fun h => absurd (by decide) h) (fun _ => ?_)
          refine lv_bipush (v := (-2)) hx hb dX12_giveTurn_43 (by decide) ?_
          exact W.iret (v := (-2)) hx hb hr (fun t ht hW => ⟨⟨(-2), (), rfl, by first | exact Or.inl ⟨by first | rfl | exact xi_k (k := 1) (by decide) (by omega), by first | trivial | omega⟩ | exact Or.inr (Or.inl ⟨by first | rfl | exact xi_k (k := (-4)) (by decide) (by omega), by first | trivial | omega⟩) | exact Or.inr (Or.inr (⟨by first | rfl | exact xi_k (k := (-2)) (by decide) (by omega), by first | trivial | omega⟩)), trivial⟩, hS.F ht⟩) hS.2.2 dX12_giveTurn_45
      · skip
        refine lv_if_eq (tgt := 43) hx hb dX12_giveTurn_27 (by decide) (fun _ => ?_) (fun h => absurd (by decide) h)
        refine lv_bipush (v := (-2)) hx hb dX12_giveTurn_43 (by decide) ?_
        exact W.iret (v := (-2)) hx hb hr (fun t ht hW => ⟨⟨(-2), (), rfl, by first | exact Or.inl ⟨by first | rfl | exact xi_k (k := 1) (by decide) (by omega), by first | trivial | omega⟩ | exact Or.inr (Or.inl ⟨by first | rfl | exact xi_k (k := (-4)) (by decide) (by omega), by first | trivial | omega⟩) | exact Or.inr (Or.inr (⟨by first | rfl | exact xi_k (k := (-2)) (by decide) (by omega), by first | trivial | omega⟩)), trivial⟩, hS.F ht⟩) hS.2.2 dX12_giveTurn_45
    · skip
      refine lv_if_eq (tgt := 43) hx hb dX12_giveTurn_20 (by decide) (fun _ => ?_) (fun h => absurd (by decide) h)
      refine lv_bipush (v := (-2)) hx hb dX12_giveTurn_43 (by decide) ?_
      exact W.iret (v := (-2)) hx hb hr (fun t ht hW => ⟨⟨(-2), (), rfl, by first | exact Or.inl ⟨by first | rfl | exact xi_k (k := 1) (by decide) (by omega), by first | trivial | omega⟩ | exact Or.inr (Or.inl ⟨by first | rfl | exact xi_k (k := (-4)) (by decide) (by omega), by first | trivial | omega⟩) | exact Or.inr (Or.inr (⟨by first | rfl | exact xi_k (k := (-2)) (by decide) (by omega), by first | trivial | omega⟩)), trivial⟩, hS.F ht⟩) hS.2.2 dX12_giveTurn_45
  · skip
    refine lv_if_eq (tgt := 43) hx hb dX12_giveTurn_4 (by decide) (fun _ => ?_) (fun h => absurd (by decide) h)
    refine lv_bipush (v := (-2)) hx hb dX12_giveTurn_43 (by decide) ?_
    exact W.iret (v := (-2)) hx hb hr (fun t ht hW => ⟨⟨(-2), (), rfl, by first | exact Or.inl ⟨by first | rfl | exact xi_k (k := 1) (by decide) (by omega), by first | trivial | omega⟩ | exact Or.inr (Or.inl ⟨by first | rfl | exact xi_k (k := (-4)) (by decide) (by omega), by first | trivial | omega⟩) | exact Or.inr (Or.inr (⟨by first | rfl | exact xi_k (k := (-2)) (by decide) (by omega), by first | trivial | omega⟩)), trivial⟩, hS.F ht⟩) hS.2.2 dX12_giveTurn_45
