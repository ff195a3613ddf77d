set_option maxHeartbeats 8000000 in
set_option maxRecDepth 100000 in
theorem law_24 {p : Program} {l : Launch} {e : Env} {s : State} {m : MethodId} {below : List Frame} {meth : Method} {c : Code} {dC : Nat → ClassId} {dI : Nat → Nat → Nat} {b : Nat} {xs : Nat → Int32} (C0 : lw_At p s m meth c b 8 xs) {A : Nat → Prop} (hAe : (fun q : Nat => s.heap.size ≤ q) = A) {tU : Nat} (hU : xU tU A s s.heap) (cp tp lb rd bk tn td rg dr ra dn od hv mo m_tape m_laws m_hasLaws m_clubOf m_first m_last m_pay m_rise m_sure m_hasChoice m_isTaken m_isHurt m_dead m_usedSpare m_owner m_giver m_guarded m_drawnOf m_drawnTo m_table m_moved m_from m_to m_guard m_worths m_ringClub m_ringGives m_triedClub m_triedGives m_toldClub m_toldGives m_isOut m_purse : Nat)    (hK : va_K (dC, dI) vwCl [] s) (H : Heap) (locs : List Loc) (hP : va_P (dC, dI) vwCl [(cp, .inr (11, [.ref tp, .ref lb, .ref rd, .ref bk, .ref tn, .ref td, .ref rg, .ref dr])), (dr, .inr (2, [.ref ra, .int 0, .ref dn, .ref od, .ref hv, .long 0, .long 1])), (mo, .inr (12, [.ref m_tape, .int 0, .int 0, .int 0, .int 0, .int 0, .int 0, .int 0, .int 0, .int (-1), .ref m_laws, .ref m_hasLaws, .int 0, .int 0, .ref m_clubOf, .ref m_first, .ref m_last, .ref m_pay, .ref m_rise, .ref m_sure, .ref m_hasChoice, .ref m_isTaken, .ref m_isHurt, .ref m_dead, .ref m_usedSpare, .ref m_owner, .ref m_giver, .ref m_guarded, .ref m_drawnOf, .ref m_drawnTo, .int 0, .int 0, .ref m_table, .int 0, .ref m_moved, .ref m_from, .ref m_to, .ref m_guard, .ref m_worths, .ref m_ringClub, .ref m_ringGives, .int 0, .ref m_triedClub, .ref m_triedGives, .int 0, .int 0, .ref m_toldClub, .ref m_toldGives, .ref m_isOut, .ref m_purse, .int 0]))] H) (hD : va_D A [(cp, .inr (11, [.ref tp, .ref lb, .ref rd, .ref bk, .ref tn, .ref td, .ref rg, .ref dr])), (dr, .inr (2, [.ref ra, .int 0, .ref dn, .ref od, .ref hv, .long 0, .long 1])), (mo, .inr (12, [.ref m_tape, .int 0, .int 0, .int 0, .int 0, .int 0, .int 0, .int 0, .int 0, .int (-1), .ref m_laws, .ref m_hasLaws, .int 0, .int 0, .ref m_clubOf, .ref m_first, .ref m_last, .ref m_pay, .ref m_rise, .ref m_sure, .ref m_hasChoice, .ref m_isTaken, .ref m_isHurt, .ref m_dead, .ref m_usedSpare, .ref m_owner, .ref m_giver, .ref m_guarded, .ref m_drawnOf, .ref m_drawnTo, .int 0, .int 0, .ref m_table, .int 0, .ref m_moved, .ref m_from, .ref m_to, .ref m_guard, .ref m_worths, .ref m_ringClub, .ref m_ringGives, .int 0, .ref m_triedClub, .ref m_triedGives, .int 0, .int 0, .ref m_toldClub, .ref m_toldGives, .ref m_isOut, .ref m_purse, .int 0]))]) (hS : va_S A s.heap H locs) (ls : Array Slot) (hl : lv_has ls 4 [(3, .int 0), (2, .ref mo), (1, .ref cp), (0, .ref b)]) : W p l e room_1 s m #[Value.ref b] below meth c H locs 178 9908 (lw_Z below #[Value.ref b] s) (F0 m 1020 ls []) := by
  obtain ⟨hx, hb, hr, hml, hown, hts0, hX, hbl, hlocks, hgv⟩ := id C0
  have hE := xs_E hts0
  have hts : ∀ w ∈ wsL_law, w.before #[Value.ref b] s = true := fun w h => hts0 w (wsL_law_in w h)
  have hA : ∀ q : Nat, s.heap.size ≤ q → A q := fun q h => by rw [← hAe]; exact h
  have hbA : ¬ A b := by rw [← hAe]; exact Nat.not_le.mpr hbl
  have lo0 := xi_lo (xs 0)
  have hi0 := xi_hi (xs 0)
  have lo1 := xi_lo (xs 1)
  have hi1 := xi_hi (xs 1)
  have lo2 := xi_lo (xs 2)
  have hi2 := xi_hi (xs 2)
  have lo3 := xi_lo (xs 3)
  have hi3 := xi_hi (xs 3)
  have lo4 := xi_lo (xs 4)
  have hi4 := xi_hi (xs 4)
  have lo5 := xi_lo (xs 5)
  have hi5 := xi_hi (xs 5)
  have lo6 := xi_lo (xs 6)
  have hi6 := xi_hi (xs 6)
  have lo7 := xi_lo (xs 7)
  have hi7 := xi_hi (xs 7)
  refine lv_aload_n hx hb dL_law_1020 rfl (lv_at hl 2 rfl) ?_
  refine lv_aload_n hx hb dL_law_1021 rfl (lv_at hl 3 rfl) ?_
  refine lv_iload_n hx hb dL_law_1022 rfl (lv_at hl 0 rfl) ?_
  refine lv_iconst (v := 1) hx hb dL_law_1023 (by decide) ?_
  refine lv_iadd hx hb dL_law_1024 ?_
  refine xw_i (v := 1) (by decide) ?_
  refine va_sld hx hb hX hbl hbA hS (by unfold vp_in; decide) dL_law_1025 ?_
  refine xw_i (v := xs 1) rfl ?_
  refine lv_aload_n hx hb dL_law_1026 rfl (lv_at hl 3 rfl) ?_
  refine lv_iload_n hx hb dL_law_1027 rfl (lv_at hl 0 rfl) ?_
  refine lv_iconst (v := 2) hx hb dL_law_1028 (by decide) ?_
  refine lv_iadd hx hb dL_law_1029 ?_
  refine xw_i (v := 2) (by decide) ?_
  refine va_sld hx hb hX hbl hbA hS (by unfold vp_in; decide) dL_law_1030 ?_
  refine xw_i (v := xs 2) rfl ?_
  refine lv_aload_n hx hb dL_law_1031 rfl (lv_at hl 3 rfl) ?_
  refine lv_iload_n hx hb dL_law_1032 rfl (lv_at hl 0 rfl) ?_
  refine lv_iconst (v := 3) hx hb dL_law_1033 (by decide) ?_
  refine lv_iadd hx hb dL_law_1034 ?_
  refine xw_i (v := 3) (by decide) ?_
  refine va_sld hx hb hX hbl hbA hS (by unfold vp_in; decide) dL_law_1035 ?_
  refine xw_i (v := xs 3) rfl ?_
  have hPc := hP.sub (ws' := [(cp, .inr (11, [.ref tp, .ref lb, .ref rd, .ref bk, .ref tn, .ref td, .ref rg, .ref dr])), (dr, .inr (2, [.ref ra, .int 0, .ref dn, .ref od, .ref hv, .long 0, .long 1]))]) [0, 1] rfl
  have hKc := hK.sub (tys' := []) [] rfl
  refine vp_callSl (W.runV (As := [.int (xs 1), .int (xs 2), .int (xs 3)]) (rest := []) ⟨hx, hb, hml, hown, hts⟩ (aX_chance l dC dI ([(cp, .inr (11, [.ref tp, .ref lb, .ref rd, .ref bk, .ref tn, .ref td, .ref rg, .ref dr])), (dr, .inr (2, [.ref ra, .int 0, .ref dn, .ref od, .ref hv, .long 0, .long 1]))]) ([]) 0 rfl 1 rfl (xs 1) ((xs 1).toInt) rfl (xs 2) ((xs 2).toInt) rfl (xs 3) ((xs 3).toInt) rfl) (cwV 3 hts gL_law_X11_chance rfl rfl rfl (by decide +kernel) ⟨Nat.le_of_ble_eq_true rfl, Nat.le_of_ble_eq_true rfl⟩) ⟨xR_blind _ _ _ _, va_recv hKc hPc (ci := 11) (q0 := 0) rfl rfl, xR_pre _ hE hKc hPc⟩ rfl rfl hl.1 rfl (lv_room (Nat.le_of_ble_eq_true rfl)) dL_law_1036 ⟨Nat.le_of_ble_eq_true rfl, Nat.le_of_ble_eq_true rfl⟩) (fun rh1 h1 => ?_)
  rcases h1 with ⟨rfl, h1⟩ | ⟨rfl, h1⟩
  · skip
    refine lv_aload_n hx hb dL_law_1039 rfl (lv_at hl 1 rfl) ?_
    refine lv_aload_n hx hb dL_law_1040 rfl (lv_at hl 3 rfl) ?_
    refine lv_iload_n hx hb dL_law_1041 rfl (lv_at hl 0 rfl) ?_
    refine lv_iconst (v := 1) hx hb dL_law_1042 (by decide) ?_
    refine lv_iadd hx hb dL_law_1043 ?_
    refine xw_i (v := 1) (by decide) ?_
    refine va_sld hx hb hX hbl hbA hS (by unfold vp_in; decide) dL_law_1044 ?_
    refine xw_i (v := xs 1) rfl ?_
    refine lv_aload_n hx hb dL_law_1045 rfl (lv_at hl 3 rfl) ?_
    refine lv_iload_n hx hb dL_law_1046 rfl (lv_at hl 0 rfl) ?_
    refine lv_iconst (v := 2) hx hb dL_law_1047 (by decide) ?_
    refine lv_iadd hx hb dL_law_1048 ?_
    refine xw_i (v := 2) (by decide) ?_
    refine va_sld hx hb hX hbl hbA hS (by unfold vp_in; decide) dL_law_1049 ?_
    refine xw_i (v := xs 2) rfl ?_
    refine lv_aload_n hx hb dL_law_1050 rfl (lv_at hl 3 rfl) ?_
    refine lv_iload_n hx hb dL_law_1051 rfl (lv_at hl 0 rfl) ?_
    refine lv_iconst (v := 3) hx hb dL_law_1052 (by decide) ?_
    refine lv_iadd hx hb dL_law_1053 ?_
    refine xw_i (v := 3) (by decide) ?_
    refine va_sld hx hb hX hbl hbA hS (by unfold vp_in; decide) dL_law_1054 ?_
    refine xw_i (v := xs 3) rfl ?_
    have hPc := hP.sub (ws' := [(mo, .inr (12, [.ref m_tape, .int 0, .int 0, .int 0, .int 0, .int 0, .int 0, .int 0, .int 0, .int (-1), .ref m_laws, .ref m_hasLaws, .int 0, .int 0, .ref m_clubOf, .ref m_first, .ref m_last, .ref m_pay, .ref m_rise, .ref m_sure, .ref m_hasChoice, .ref m_isTaken, .ref m_isHurt, .ref m_dead, .ref m_usedSpare, .ref m_owner, .ref m_giver, .ref m_guarded, .ref m_drawnOf, .ref m_drawnTo, .int 0, .int 0, .ref m_table, .int 0, .ref m_moved, .ref m_from, .ref m_to, .ref m_guard, .ref m_worths, .ref m_ringClub, .ref m_ringGives, .int 0, .ref m_triedClub, .ref m_triedGives, .int 0, .int 0, .ref m_toldClub, .ref m_toldGives, .ref m_isOut, .ref m_purse, .int 0]))]) [2] rfl
    have hKc := hK.sub (tys' := []) [] rfl
    refine vp_callSl (W.runV (As := [.int (xs 1), .int (xs 2), .int (xs 3)]) (rest := [.long (-4)]) ⟨hx, hb, hml, hown, hts⟩ (mX_chance l dC dI ([(mo, .inr (12, [.ref m_tape, .int 0, .int 0, .int 0, .int 0, .int 0, .int 0, .int 0, .int 0, .int (-1), .ref m_laws, .ref m_hasLaws, .int 0, .int 0, .ref m_clubOf, .ref m_first, .ref m_last, .ref m_pay, .ref m_rise, .ref m_sure, .ref m_hasChoice, .ref m_isTaken, .ref m_isHurt, .ref m_dead, .ref m_usedSpare, .ref m_owner, .ref m_giver, .ref m_guarded, .ref m_drawnOf, .ref m_drawnTo, .int 0, .int 0, .ref m_table, .int 0, .ref m_moved, .ref m_from, .ref m_to, .ref m_guard, .ref m_worths, .ref m_ringClub, .ref m_ringGives, .int 0, .ref m_triedClub, .ref m_triedGives, .int 0, .int 0, .ref m_toldClub, .ref m_toldGives, .ref m_isOut, .ref m_purse, .int 0]))]) ([]) 0 rfl (xs 1) ((xs 1).toInt) rfl (xs 2) ((xs 2).toInt) rfl (xs 3) ((xs 3).toInt) rfl) (cwV 3 hts gL_law_X12_chance rfl rfl rfl (by decide +kernel) ⟨Nat.le_of_ble_eq_true rfl, Nat.le_of_ble_eq_true rfl⟩) ⟨xR_blind _ _ _ _, va_recv hKc hPc (ci := 12) (q0 := 0) rfl rfl, xR_pre _ hE hKc hPc⟩ rfl rfl hl.1 rfl (lv_room (Nat.le_of_ble_eq_true rfl)) dL_law_1055 ⟨Nat.le_of_ble_eq_true rfl, Nat.le_of_ble_eq_true rfl⟩) (fun rh2 h2 => ?_)
    rcases h2 with ⟨rfl, h2⟩ | ⟨rfl, h2⟩
    · skip
      refine W.lcmp hx hb dL_law_1058 ?_
      refine lv_if_eq (tgt := 1242) hx hb dL_law_1059 (by decide) (fun _ => ?_) (fun h => absurd (by first | rfl | decide | (exfalso; omega)) h)
      refine lv_iinc (v := 8) (lv' := [(3, .int 8), (2, .ref mo), (1, .ref cp), (0, .ref b)]) hx hb dL_law_1242 hl (k := 0) rfl (by decide) (by decide) rfl (fun ls hl => ?_)
      refine lv_goto (tgt := 18) hx hb dL_law_1245 (by decide) ?_
      refine lv_iload_n hx hb dL_law_18 rfl (lv_at hl 0 rfl) ?_
      refine lv_aload_n hx hb dL_law_19 rfl (lv_at hl 3 rfl) ?_
      refine va_slen hx hb hX hbl hbA hS dL_law_20 ?_
      refine xw_i (v := 8) rfl ?_
      refine lv_bipush (v := 8) hx hb dL_law_21 (by decide) ?_
      refine lv_isub hx hb dL_law_23 ?_
      refine xw_i (v := 0) (by decide) ?_
      refine lv_icmp_gt (tgt := 1248) hx hb dL_law_24 (by decide) (fun _ => ?_) (fun h => absurd (by decide) h)
      refine lv_iconst (v := 1) hx hb dL_law_1248 (by decide) ?_
      refine va_forget (fun q hq => by have h9 := hS.2.2 q hq; rw [← hAe] at h9; exact h9) ?_
      refine W.widen (k := 600000) (n := 7302250) (by decide) (by decide) ?_
      exact lw_ret hx hb hr hlocks dL_law_1249
    · skip
      refine W.lcmp hx hb dL_law_1058 ?_
      refine lv_if_eq (tgt := 1242) hx hb dL_law_1059 (by decide) (fun _ => ?_) (fun h => absurd (by first | rfl | decide | (exfalso; omega)) h)
      refine lv_iinc (v := 8) (lv' := [(3, .int 8), (2, .ref mo), (1, .ref cp), (0, .ref b)]) hx hb dL_law_1242 hl (k := 0) rfl (by decide) (by decide) rfl (fun ls hl => ?_)
      refine lv_goto (tgt := 18) hx hb dL_law_1245 (by decide) ?_
      refine lv_iload_n hx hb dL_law_18 rfl (lv_at hl 0 rfl) ?_
      refine lv_aload_n hx hb dL_law_19 rfl (lv_at hl 3 rfl) ?_
      refine va_slen hx hb hX hbl hbA hS dL_law_20 ?_
      refine xw_i (v := 8) rfl ?_
      refine lv_bipush (v := 8) hx hb dL_law_21 (by decide) ?_
      refine lv_isub hx hb dL_law_23 ?_
      refine xw_i (v := 0) (by decide) ?_
      refine lv_icmp_gt (tgt := 1248) hx hb dL_law_24 (by decide) (fun _ => ?_) (fun h => absurd (by decide) h)
      refine lv_iconst (v := 1) hx hb dL_law_1248 (by decide) ?_
      refine va_forget (fun q hq => by have h9 := hS.2.2 q hq; rw [← hAe] at h9; exact h9) ?_
      refine W.widen (k := 600000) (n := 7302250) (by decide) (by decide) ?_
      exact lw_ret hx hb hr hlocks dL_law_1249
  · skip
    refine lv_aload_n hx hb dL_law_1039 rfl (lv_at hl 1 rfl) ?_
    refine lv_aload_n hx hb dL_law_1040 rfl (lv_at hl 3 rfl) ?_
    refine lv_iload_n hx hb dL_law_1041 rfl (lv_at hl 0 rfl) ?_
    refine lv_iconst (v := 1) hx hb dL_law_1042 (by decide) ?_
    refine lv_iadd hx hb dL_law_1043 ?_
    refine xw_i (v := 1) (by decide) ?_
    refine va_sld hx hb hX hbl hbA hS (by unfold vp_in; decide) dL_law_1044 ?_
    refine xw_i (v := xs 1) rfl ?_
    refine lv_aload_n hx hb dL_law_1045 rfl (lv_at hl 3 rfl) ?_
    refine lv_iload_n hx hb dL_law_1046 rfl (lv_at hl 0 rfl) ?_
    refine lv_iconst (v := 2) hx hb dL_law_1047 (by decide) ?_
    refine lv_iadd hx hb dL_law_1048 ?_
    refine xw_i (v := 2) (by decide) ?_
    refine va_sld hx hb hX hbl hbA hS (by unfold vp_in; decide) dL_law_1049 ?_
    refine xw_i (v := xs 2) rfl ?_
    refine lv_aload_n hx hb dL_law_1050 rfl (lv_at hl 3 rfl) ?_
    refine lv_iload_n hx hb dL_law_1051 rfl (lv_at hl 0 rfl) ?_
    refine lv_iconst (v := 3) hx hb dL_law_1052 (by decide) ?_
    refine lv_iadd hx hb dL_law_1053 ?_
    refine xw_i (v := 3) (by decide) ?_
    refine va_sld hx hb hX hbl hbA hS (by unfold vp_in; decide) dL_law_1054 ?_
    refine xw_i (v := xs 3) rfl ?_
    have hPc := hP.sub (ws' := [(mo, .inr (12, [.ref m_tape, .int 0, .int 0, .int 0, .int 0, .int 0, .int 0, .int 0, .int 0, .int (-1), .ref m_laws, .ref m_hasLaws, .int 0, .int 0, .ref m_clubOf, .ref m_first, .ref m_last, .ref m_pay, .ref m_rise, .ref m_sure, .ref m_hasChoice, .ref m_isTaken, .ref m_isHurt, .ref m_dead, .ref m_usedSpare, .ref m_owner, .ref m_giver, .ref m_guarded, .ref m_drawnOf, .ref m_drawnTo, .int 0, .int 0, .ref m_table, .int 0, .ref m_moved, .ref m_from, .ref m_to, .ref m_guard, .ref m_worths, .ref m_ringClub, .ref m_ringGives, .int 0, .ref m_triedClub, .ref m_triedGives, .int 0, .int 0, .ref m_toldClub, .ref m_toldGives, .ref m_isOut, .ref m_purse, .int 0]))]) [2] rfl
    have hKc := hK.sub (tys' := []) [] rfl
    refine vp_callSl (W.runV (As := [.int (xs 1), .int (xs 2), .int (xs 3)]) (rest := [.long (-2)]) ⟨hx, hb, hml, hown, hts⟩ (mX_chance l dC dI ([(mo, .inr (12, [.ref m_tape, .int 0, .int 0, .int 0, .int 0, .int 0, .int 0, .int 0, .int 0, .int (-1), .ref m_laws, .ref m_hasLaws, .int 0, .int 0, .ref m_clubOf, .ref m_first, .ref m_last, .ref m_pay, .ref m_rise, .ref m_sure, .ref m_hasChoice, .ref m_isTaken, .ref m_isHurt, .ref m_dead, .ref m_usedSpare, .ref m_owner, .ref m_giver, .ref m_guarded, .ref m_drawnOf, .ref m_drawnTo, .int 0, .int 0, .ref m_table, .int 0, .ref m_moved, .ref m_from, .ref m_to, .ref m_guard, .ref m_worths, .ref m_ringClub, .ref m_ringGives, .int 0, .ref m_triedClub, .ref m_triedGives, .int 0, .int 0, .ref m_toldClub, .ref m_toldGives, .ref m_isOut, .ref m_purse, .int 0]))]) ([]) 0 rfl (xs 1) ((xs 1).toInt) rfl (xs 2) ((xs 2).toInt) rfl (xs 3) ((xs 3).toInt) rfl) (cwV 3 hts gL_law_X12_chance rfl rfl rfl (by decide +kernel) ⟨Nat.le_of_ble_eq_true rfl, Nat.le_of_ble_eq_true rfl⟩) ⟨xR_blind _ _ _ _, va_recv hKc hPc (ci := 12) (q0 := 0) rfl rfl, xR_pre _ hE hKc hPc⟩ rfl rfl hl.1 rfl (lv_room (Nat.le_of_ble_eq_true rfl)) dL_law_1055 ⟨Nat.le_of_ble_eq_true rfl, Nat.le_of_ble_eq_true rfl⟩) (fun rh5 h5 => ?_)
    rcases h5 with ⟨rfl, h5⟩ | ⟨rfl, h5⟩
    · skip
      refine W.lcmp hx hb dL_law_1058 ?_
      refine lv_if_eq (tgt := 1242) hx hb dL_law_1059 (by decide) (fun _ => ?_) (fun h => absurd (by first | rfl | decide | (exfalso; omega)) h)
      refine lv_iinc (v := 8) (lv' := [(3, .int 8), (2, .ref mo), (1, .ref cp), (0, .ref b)]) hx hb dL_law_1242 hl (k := 0) rfl (by decide) (by decide) rfl (fun ls hl => ?_)
      refine lv_goto (tgt := 18) hx hb dL_law_1245 (by decide) ?_
      refine lv_iload_n hx hb dL_law_18 rfl (lv_at hl 0 rfl) ?_
      refine lv_aload_n hx hb dL_law_19 rfl (lv_at hl 3 rfl) ?_
      refine va_slen hx hb hX hbl hbA hS dL_law_20 ?_
      refine xw_i (v := 8) rfl ?_
      refine lv_bipush (v := 8) hx hb dL_law_21 (by decide) ?_
      refine lv_isub hx hb dL_law_23 ?_
      refine xw_i (v := 0) (by decide) ?_
      refine lv_icmp_gt (tgt := 1248) hx hb dL_law_24 (by decide) (fun _ => ?_) (fun h => absurd (by decide) h)
      refine lv_iconst (v := 1) hx hb dL_law_1248 (by decide) ?_
      refine va_forget (fun q hq => by have h9 := hS.2.2 q hq; rw [← hAe] at h9; exact h9) ?_
      refine W.widen (k := 600000) (n := 7302250) (by decide) (by decide) ?_
      exact lw_ret hx hb hr hlocks dL_law_1249
    · skip
      refine W.lcmp hx hb dL_law_1058 ?_
      refine lv_if_eq (tgt := 1242) hx hb dL_law_1059 (by decide) (fun _ => ?_) (fun h => absurd (by first | rfl | decide | (exfalso; omega)) h)
      refine lv_iinc (v := 8) (lv' := [(3, .int 8), (2, .ref mo), (1, .ref cp), (0, .ref b)]) hx hb dL_law_1242 hl (k := 0) rfl (by decide) (by decide) rfl (fun ls hl => ?_)
      refine lv_goto (tgt := 18) hx hb dL_law_1245 (by decide) ?_
      refine lv_iload_n hx hb dL_law_18 rfl (lv_at hl 0 rfl) ?_
      refine lv_aload_n hx hb dL_law_19 rfl (lv_at hl 3 rfl) ?_
      refine va_slen hx hb hX hbl hbA hS dL_law_20 ?_
      refine xw_i (v := 8) rfl ?_
      refine lv_bipush (v := 8) hx hb dL_law_21 (by decide) ?_
      refine lv_isub hx hb dL_law_23 ?_
      refine xw_i (v := 0) (by decide) ?_
      refine lv_icmp_gt (tgt := 1248) hx hb dL_law_24 (by decide) (fun _ => ?_) (fun h => absurd (by decide) h)
      refine lv_iconst (v := 1) hx hb dL_law_1248 (by decide) ?_
      refine va_forget (fun q hq => by have h9 := hS.2.2 q hq; rw [← hAe] at h9; exact h9) ?_
      refine W.widen (k := 600000) (n := 7302250) (by decide) (by decide) ?_
      exact lw_ret hx hb hr hlocks dL_law_1249
set_option maxHeartbeats 8000000 in
set_option maxRecDepth 100000 in
theorem law_25 {p : Program} {l : Launch} {e : Env} {s : State} {m : MethodId} {below : List Frame} {meth : Method} {c : Code} {dC : Nat → ClassId} {dI : Nat → Nat → Nat} {b : Nat} {xs : Nat → Int32} (C0 : lw_At p s m meth c b 8 xs) {A : Nat → Prop} (hAe : (fun q : Nat => s.heap.size ≤ q) = A) {tU : Nat} (hU : xU tU A s s.heap) (cp tp lb rd bk tn td rg dr un tx un1 un2 pl de su fi ac ra dn od hv mo m_tape m_laws m_hasLaws m_clubOf m_first m_last m_pay m_rise m_sure m_hasChoice m_isTaken m_isHurt m_dead m_usedSpare m_owner m_giver m_guarded m_drawnOf m_drawnTo m_table m_moved m_from m_to m_guard m_worths m_ringClub m_ringGives m_triedClub m_triedGives m_toldClub m_toldGives m_isOut m_purse : Nat) (k_tx k_dn k_laws k_hasLaws k_isOut : ClassId) (fL : Nat → Int32) (um0 : ∀ j : Nat, j < 16 → fL (176 + j) = xpl j) (hK : va_K (dC, dI) vwCl [(k_tx, (.object RX5)), (k_dn, .boolean), (k_laws, .int), (k_hasLaws, .boolean), (k_isOut, .boolean)] s) (H : Heap) (locs : List Loc) (hP : va_P (dC, dI) vwCl [(cp, .inr (11, [.ref tp, .ref lb, .ref rd, .ref bk, .ref tn, .ref td, .ref rg, .ref dr])), (lb, .inr (3, [.ref un, .ref tx])), (un, .inr (5, [.ref un1, .ref un2, .int 1])), (tx, .inl (k_tx, 10, .inr (.inr (.inr (.inr (fun _ => none)))))), (bk, .inr (0, [.ref lb, .ref pl, .int 0, .int 0, .ref de, .ref su, .ref fi, .int 0, .ref ac])), (dr, .inr (2, [.ref ra, .int 0, .ref dn, .ref od, .ref hv, .long 0, .long 1])), (dn, .inl (k_dn, 10, .inl (fun _ => 0))), (mo, .inr (12, [.ref m_tape, .int 0, .int 0, .int 0, .int 0, .int 0, .int 0, .int 0, .int 0, .int (-1), .ref m_laws, .ref m_hasLaws, .int 0, .int 0, .ref m_clubOf, .ref m_first, .ref m_last, .ref m_pay, .ref m_rise, .ref m_sure, .ref m_hasChoice, .ref m_isTaken, .ref m_isHurt, .ref m_dead, .ref m_usedSpare, .ref m_owner, .ref m_giver, .ref m_guarded, .ref m_drawnOf, .ref m_drawnTo, .int 0, .int 0, .ref m_table, .int 0, .ref m_moved, .ref m_from, .ref m_to, .ref m_guard, .ref m_worths, .ref m_ringClub, .ref m_ringGives, .int 0, .ref m_triedClub, .ref m_triedGives, .int 0, .int 0, .ref m_toldClub, .ref m_toldGives, .ref m_isOut, .ref m_purse, .int 0])), (m_laws, .inl (k_laws, 192, .inl fL)), (m_hasLaws, .inl (k_hasLaws, 10, .inl (fun _ => 0))), (m_isOut, .inl (k_isOut, 8, .inl (fun _ => 0)))] H) (hD : va_D A [(cp, .inr (11, [.ref tp, .ref lb, .ref rd, .ref bk, .ref tn, .ref td, .ref rg, .ref dr])), (lb, .inr (3, [.ref un, .ref tx])), (un, .inr (5, [.ref un1, .ref un2, .int 1])), (tx, .inl (k_tx, 10, .inr (.inr (.inr (.inr (fun _ => none)))))), (bk, .inr (0, [.ref lb, .ref pl, .int 0, .int 0, .ref de, .ref su, .ref fi, .int 0, .ref ac])), (dr, .inr (2, [.ref ra, .int 0, .ref dn, .ref od, .ref hv, .long 0, .long 1])), (dn, .inl (k_dn, 10, .inl (fun _ => 0))), (mo, .inr (12, [.ref m_tape, .int 0, .int 0, .int 0, .int 0, .int 0, .int 0, .int 0, .int 0, .int (-1), .ref m_laws, .ref m_hasLaws, .int 0, .int 0, .ref m_clubOf, .ref m_first, .ref m_last, .ref m_pay, .ref m_rise, .ref m_sure, .ref m_hasChoice, .ref m_isTaken, .ref m_isHurt, .ref m_dead, .ref m_usedSpare, .ref m_owner, .ref m_giver, .ref m_guarded, .ref m_drawnOf, .ref m_drawnTo, .int 0, .int 0, .ref m_table, .int 0, .ref m_moved, .ref m_from, .ref m_to, .ref m_guard, .ref m_worths, .ref m_ringClub, .ref m_ringGives, .int 0, .ref m_triedClub, .ref m_triedGives, .int 0, .int 0, .ref m_toldClub, .ref m_toldGives, .ref m_isOut, .ref m_purse, .int 0])), (m_laws, .inl (k_laws, 192, .inl fL)), (m_hasLaws, .inl (k_hasLaws, 10, .inl (fun _ => 0))), (m_isOut, .inl (k_isOut, 8, .inl (fun _ => 0)))]) (hS : va_S A s.heap H locs) (ls : Array Slot) (hl : lv_has ls 4 [(3, .int 0), (2, .ref mo), (1, .ref cp), (0, .ref b)]) : W p l e room_1 s m #[Value.ref b] below meth c H locs 178 9908 (lw_Z below #[Value.ref b] s) (F0 m 1064 ls []) := by
  obtain ⟨hx, hb, hr, hml, hown, hts0, hX, hbl, hlocks, hgv⟩ := id C0
  have hE := xs_E hts0
  have hts : ∀ w ∈ wsL_law, w.before #[Value.ref b] s = true := fun w h => hts0 w (wsL_law_in w h)
  have hA : ∀ q : Nat, s.heap.size ≤ q → A q := fun q h => by rw [← hAe]; exact h
  have hbA : ¬ A b := by rw [← hAe]; exact Nat.not_le.mpr hbl
  have lo0 := xi_lo (xs 0)
  have hi0 := xi_hi (xs 0)
  have lo1 := xi_lo (xs 1)
  have hi1 := xi_hi (xs 1)
  have lo2 := xi_lo (xs 2)
  have hi2 := xi_hi (xs 2)
  have lo3 := xi_lo (xs 3)
  have hi3 := xi_hi (xs 3)
  have lo4 := xi_lo (xs 4)
  have hi4 := xi_hi (xs 4)
  have lo5 := xi_lo (xs 5)
  have hi5 := xi_hi (xs 5)
  have lo6 := xi_lo (xs 6)
  have hi6 := xi_hi (xs 6)
  have lo7 := xi_lo (xs 7)
  have hi7 := xi_hi (xs 7)
  refine lv_aload_n hx hb dL_law_1064 rfl (lv_at hl 2 rfl) ?_
  refine lv_aload_n hx hb dL_law_1065 rfl (lv_at hl 3 rfl) ?_
  refine lv_iload_n hx hb dL_law_1066 rfl (lv_at hl 0 rfl) ?_
  refine lv_iconst (v := 1) hx hb dL_law_1067 (by decide) ?_
  refine lv_iadd hx hb dL_law_1068 ?_
  refine xw_i (v := 1) (by decide) ?_
  refine va_sld hx hb hX hbl hbA hS (by unfold vp_in; decide) dL_law_1069 ?_
  refine xw_i (v := xs 1) rfl ?_
  refine lv_aload_n hx hb dL_law_1070 rfl (lv_at hl 3 rfl) ?_
  refine lv_iload_n hx hb dL_law_1071 rfl (lv_at hl 0 rfl) ?_
  refine lv_iconst (v := 2) hx hb dL_law_1072 (by decide) ?_
  refine lv_iadd hx hb dL_law_1073 ?_
  refine xw_i (v := 2) (by decide) ?_
  refine va_sld hx hb hX hbl hbA hS (by unfold vp_in; decide) dL_law_1074 ?_
  refine xw_i (v := xs 2) rfl ?_
  have hPc := hP.sub (ws' := [(cp, .inr (11, [.ref tp, .ref lb, .ref rd, .ref bk, .ref tn, .ref td, .ref rg, .ref dr])), (bk, .inr (0, [.ref lb, .ref pl, .int 0, .int 0, .ref de, .ref su, .ref fi, .int 0, .ref ac])), (dr, .inr (2, [.ref ra, .int 0, .ref dn, .ref od, .ref hv, .long 0, .long 1])), (dn, .inl (k_dn, 10, .inl (fun _ => 0))), (lb, .inr (3, [.ref un, .ref tx])), (tx, .inl (k_tx, 10, .inr (.inr (.inr (.inr (fun _ => none)))))), (un, .inr (5, [.ref un1, .ref un2, .int 1]))]) [0, 4, 5, 6, 1, 3, 2] rfl
  have hKc := hK.sub (tys' := [(k_dn, .boolean), (k_tx, (.object RX5))]) [1, 0] rfl
  refine vp_callSi (W.runV (As := [.int (xs 1), .int (xs 2)]) (rest := []) ⟨hx, hb, hml, hown, hts⟩ (aX_draw l dC dI ([(cp, .inr (11, [.ref tp, .ref lb, .ref rd, .ref bk, .ref tn, .ref td, .ref rg, .ref dr])), (bk, .inr (0, [.ref lb, .ref pl, .int 0, .int 0, .ref de, .ref su, .ref fi, .int 0, .ref ac])), (dr, .inr (2, [.ref ra, .int 0, .ref dn, .ref od, .ref hv, .long 0, .long 1])), (dn, .inl (k_dn, 10, .inl (fun _ => 0))), (lb, .inr (3, [.ref un, .ref tx])), (tx, .inl (k_tx, 10, .inr (.inr (.inr (.inr (fun _ => none)))))), (un, .inr (5, [.ref un1, .ref un2, .int 1]))]) ([(k_dn, .boolean), (k_tx, (.object RX5))]) 0 rfl 1 rfl 2 rfl 3 rfl 0 rfl 4 rfl 5 rfl 1 rfl 6 rfl (xs 1) ((xs 1).toInt) rfl (xs 2) ((xs 2).toInt) rfl) (cwV 2 hts gL_law_X11_draw rfl rfl rfl (by decide +kernel) ⟨Nat.le_of_ble_eq_true rfl, Nat.le_of_ble_eq_true rfl⟩) ⟨xR_blind _ _ _ _, va_recv hKc hPc (ci := 11) (q0 := 0) rfl rfl, xR_pre _ hE hKc hPc⟩ rfl rfl hl.1 rfl (lv_room (Nat.le_of_ble_eq_true rfl)) dL_law_1075 ⟨Nat.le_of_ble_eq_true rfl, Nat.le_of_ble_eq_true rfl⟩) (fun rh1 h1 => ?_)
  rcases h1 with ⟨rfl, h1⟩ | ⟨rfl, h1⟩
  · skip
    refine lv_aload_n hx hb dL_law_1078 rfl (lv_at hl 1 rfl) ?_
    refine lv_aload_n hx hb dL_law_1079 rfl (lv_at hl 3 rfl) ?_
    refine lv_iload_n hx hb dL_law_1080 rfl (lv_at hl 0 rfl) ?_
    refine lv_iconst (v := 1) hx hb dL_law_1081 (by decide) ?_
    refine lv_iadd hx hb dL_law_1082 ?_
    refine xw_i (v := 1) (by decide) ?_
    refine va_sld hx hb hX hbl hbA hS (by unfold vp_in; decide) dL_law_1083 ?_
    refine xw_i (v := xs 1) rfl ?_
    refine lv_aload_n hx hb dL_law_1084 rfl (lv_at hl 3 rfl) ?_
    refine lv_iload_n hx hb dL_law_1085 rfl (lv_at hl 0 rfl) ?_
    refine lv_iconst (v := 2) hx hb dL_law_1086 (by decide) ?_
    refine lv_iadd hx hb dL_law_1087 ?_
    refine xw_i (v := 2) (by decide) ?_
    refine va_sld hx hb hX hbl hbA hS (by unfold vp_in; decide) dL_law_1088 ?_
    refine xw_i (v := xs 2) rfl ?_
    have hPc := hP.sub (ws' := [(mo, .inr (12, [.ref m_tape, .int 0, .int 0, .int 0, .int 0, .int 0, .int 0, .int 0, .int 0, .int (-1), .ref m_laws, .ref m_hasLaws, .int 0, .int 0, .ref m_clubOf, .ref m_first, .ref m_last, .ref m_pay, .ref m_rise, .ref m_sure, .ref m_hasChoice, .ref m_isTaken, .ref m_isHurt, .ref m_dead, .ref m_usedSpare, .ref m_owner, .ref m_giver, .ref m_guarded, .ref m_drawnOf, .ref m_drawnTo, .int 0, .int 0, .ref m_table, .int 0, .ref m_moved, .ref m_from, .ref m_to, .ref m_guard, .ref m_worths, .ref m_ringClub, .ref m_ringGives, .int 0, .ref m_triedClub, .ref m_triedGives, .int 0, .int 0, .ref m_toldClub, .ref m_toldGives, .ref m_isOut, .ref m_purse, .int 0])), (m_laws, .inl (k_laws, 192, .inl fL)), (m_hasLaws, .inl (k_hasLaws, 10, .inl (fun _ => 0))), (m_isOut, .inl (k_isOut, 8, .inl (fun _ => 0)))]) [7, 8, 9, 10] rfl
    have hDc := hD.sub (ws' := [(mo, .inr (12, [.ref m_tape, .int 0, .int 0, .int 0, .int 0, .int 0, .int 0, .int 0, .int 0, .int (-1), .ref m_laws, .ref m_hasLaws, .int 0, .int 0, .ref m_clubOf, .ref m_first, .ref m_last, .ref m_pay, .ref m_rise, .ref m_sure, .ref m_hasChoice, .ref m_isTaken, .ref m_isHurt, .ref m_dead, .ref m_usedSpare, .ref m_owner, .ref m_giver, .ref m_guarded, .ref m_drawnOf, .ref m_drawnTo, .int 0, .int 0, .ref m_table, .int 0, .ref m_moved, .ref m_from, .ref m_to, .ref m_guard, .ref m_worths, .ref m_ringClub, .ref m_ringGives, .int 0, .ref m_triedClub, .ref m_triedGives, .int 0, .int 0, .ref m_toldClub, .ref m_toldGives, .ref m_isOut, .ref m_purse, .int 0])), (m_laws, .inl (k_laws, 192, .inl fL)), (m_hasLaws, .inl (k_hasLaws, 10, .inl (fun _ => 0))), (m_isOut, .inl (k_isOut, 8, .inl (fun _ => 0)))]) [7, 8, 9, 10] (by decide) rfl
    have hKc := hK.sub (tys' := [(k_laws, .int), (k_hasLaws, .boolean), (k_isOut, .boolean)]) [2, 3, 4] rfl
    have hFc := va_free (wc := [(mo, .inr (12, [.ref m_tape, .int 0, .int 0, .int 0, .int 0, .int 0, .int 0, .int 0, .int 0, .int (-1), .ref m_laws, .ref m_hasLaws, .int 0, .int 0, .ref m_clubOf, .ref m_first, .ref m_last, .ref m_pay, .ref m_rise, .ref m_sure, .ref m_hasChoice, .ref m_isTaken, .ref m_isHurt, .ref m_dead, .ref m_usedSpare, .ref m_owner, .ref m_giver, .ref m_guarded, .ref m_drawnOf, .ref m_drawnTo, .int 0, .int 0, .ref m_table, .int 0, .ref m_moved, .ref m_from, .ref m_to, .ref m_guard, .ref m_worths, .ref m_ringClub, .ref m_ringGives, .int 0, .ref m_triedClub, .ref m_triedGives, .int 0, .int 0, .ref m_toldClub, .ref m_toldGives, .ref m_isOut, .ref m_purse, .int 0])), (m_laws, .inl (k_laws, 192, .inl fL)), (m_hasLaws, .inl (k_hasLaws, 10, .inl (fun _ => 0))), (m_isOut, .inl (k_isOut, 8, .inl (fun _ => 0)))]) hD hS hA [7, 8, 9, 10] rfl
    refine va_calli (va_runV (As := [.int (xs 1), .int (xs 2)]) (rest := [.int (-4)]) ⟨hx, hb, hml, hown, hts⟩ (mX_draw l dC dI mo m_tape m_laws m_hasLaws m_clubOf m_first m_last m_pay m_rise m_sure m_hasChoice m_isTaken m_isHurt m_dead m_usedSpare m_owner m_giver m_guarded m_drawnOf m_drawnTo m_table m_moved m_from m_to m_guard m_worths m_ringClub m_ringGives m_triedClub m_triedGives m_toldClub m_toldGives m_isOut m_purse k_laws k_hasLaws k_isOut fL  _ um0 (xs 1) ((xs 1).toInt) rfl (xs 2) ((xs 2).toInt) rfl) (cwV 2 hts gL_law_X12_draw rfl rfl rfl (by decide +kernel) ⟨Nat.le_of_ble_eq_true rfl, Nat.le_of_ble_eq_true rfl⟩) ⟨xW_blind _ _ _ _ _, va_recv hKc hPc (ci := 12) (q0 := 0) rfl rfl, xW_pre _ hE hKc hPc hDc⟩ rfl rfl hl.1 rfl (lv_room (Nat.le_of_ble_eq_true rfl)) dL_law_1089 ⟨Nat.le_of_ble_eq_true rfl, Nat.le_of_ble_eq_true rfl⟩) hS (fun q _ h => hFc q h) hFc (fun rh2 u t H1 locs ht hvm h2 hB hz1 hk1 hS => ?_)
    obtain ⟨hP, hD⟩ := va_join (wr := [(cp, .inr (11, [.ref tp, .ref lb, .ref rd, .ref bk, .ref tn, .ref td, .ref rg, .ref dr])), (lb, .inr (3, [.ref un, .ref tx])), (un, .inr (5, [.ref un1, .ref un2, .int 1])), (tx, .inl (k_tx, 10, .inr (.inr (.inr (.inr (fun _ => none)))))), (bk, .inr (0, [.ref lb, .ref pl, .int 0, .int 0, .ref de, .ref su, .ref fi, .int 0, .ref ac])), (dr, .inr (2, [.ref ra, .int 0, .ref dn, .ref od, .ref hv, .long 0, .long 1])), (dn, .inl (k_dn, 10, .inl (fun _ => 0)))]) (w1 := []) hP hD [7, 8, 9, 10] [0, 1, 2, 3, 4, 5, 6] rfl rfl (by decide) (by decide) hk1 hFc xz_P xz_D
    generalize H1 = H at hP hS ⊢
    replace hP : va_P (dC, dI) vwCl [(cp, .inr (11, [.ref tp, .ref lb, .ref rd, .ref bk, .ref tn, .ref td, .ref rg, .ref dr])), (lb, .inr (3, [.ref un, .ref tx])), (un, .inr (5, [.ref un1, .ref un2, .int 1])), (tx, .inl (k_tx, 10, .inr (.inr (.inr (.inr (fun _ => none)))))), (bk, .inr (0, [.ref lb, .ref pl, .int 0, .int 0, .ref de, .ref su, .ref fi, .int 0, .ref ac])), (dr, .inr (2, [.ref ra, .int 0, .ref dn, .ref od, .ref hv, .long 0, .long 1])), (dn, .inl (k_dn, 10, .inl (fun _ => 0)))] H := hP
    replace hD : va_D A [(cp, .inr (11, [.ref tp, .ref lb, .ref rd, .ref bk, .ref tn, .ref td, .ref rg, .ref dr])), (lb, .inr (3, [.ref un, .ref tx])), (un, .inr (5, [.ref un1, .ref un2, .int 1])), (tx, .inl (k_tx, 10, .inr (.inr (.inr (.inr (fun _ => none)))))), (bk, .inr (0, [.ref lb, .ref pl, .int 0, .int 0, .ref de, .ref su, .ref fi, .int 0, .ref ac])), (dr, .inr (2, [.ref ra, .int 0, .ref dn, .ref od, .ref hv, .long 0, .long 1])), (dn, .inl (k_dn, 10, .inl (fun _ => 0)))] := hD
    replace hK : va_K (dC, dI) vwCl [(k_tx, (.object RX5)), (k_dn, .boolean), (k_laws, .int), (k_hasLaws, .boolean), (k_isOut, .boolean)] s := hK
    refine W.cs (cells' := 178) (slots' := 9908) rfl rfl ?_
    rcases h2 with ⟨rfl, h2⟩ | ⟨rfl, h2⟩
    · skip
      refine lv_icmp_eq (tgt := 1242) hx hb dL_law_1092 (by decide) (fun _ => ?_) (fun h => absurd (by first | rfl | (exfalso; omega)) h)
      refine lv_iinc (v := 8) (lv' := [(3, .int 8), (2, .ref mo), (1, .ref cp), (0, .ref b)]) hx hb dL_law_1242 hl (k := 0) rfl (by decide) (by decide) rfl (fun ls hl => ?_)
      refine lv_goto (tgt := 18) hx hb dL_law_1245 (by decide) ?_
      refine lv_iload_n hx hb dL_law_18 rfl (lv_at hl 0 rfl) ?_
      refine lv_aload_n hx hb dL_law_19 rfl (lv_at hl 3 rfl) ?_
      refine va_slen hx hb hX hbl hbA hS dL_law_20 ?_
      refine xw_i (v := 8) rfl ?_
      refine lv_bipush (v := 8) hx hb dL_law_21 (by decide) ?_
      refine lv_isub hx hb dL_law_23 ?_
      refine xw_i (v := 0) (by decide) ?_
      refine lv_icmp_gt (tgt := 1248) hx hb dL_law_24 (by decide) (fun _ => ?_) (fun h => absurd (by decide) h)
      refine lv_iconst (v := 1) hx hb dL_law_1248 (by decide) ?_
      refine va_forget (fun q hq => by have h9 := hS.2.2 q hq; rw [← hAe] at h9; exact h9) ?_
      refine W.widen (k := 600000) (n := 7302250) (by decide) (by decide) ?_
      exact lw_ret hx hb hr hlocks dL_law_1249
    · skip
      refine lv_icmp_eq (tgt := 1242) hx hb dL_law_1092 (by decide) (fun _ => ?_) (fun h => absurd (by first | rfl | (exfalso; omega)) h)
      refine lv_iinc (v := 8) (lv' := [(3, .int 8), (2, .ref mo), (1, .ref cp), (0, .ref b)]) hx hb dL_law_1242 hl (k := 0) rfl (by decide) (by decide) rfl (fun ls hl => ?_)
      refine lv_goto (tgt := 18) hx hb dL_law_1245 (by decide) ?_
      refine lv_iload_n hx hb dL_law_18 rfl (lv_at hl 0 rfl) ?_
      refine lv_aload_n hx hb dL_law_19 rfl (lv_at hl 3 rfl) ?_
      refine va_slen hx hb hX hbl hbA hS dL_law_20 ?_
      refine xw_i (v := 8) rfl ?_
      refine lv_bipush (v := 8) hx hb dL_law_21 (by decide) ?_
      refine lv_isub hx hb dL_law_23 ?_
      refine xw_i (v := 0) (by decide) ?_
      refine lv_icmp_gt (tgt := 1248) hx hb dL_law_24 (by decide) (fun _ => ?_) (fun h => absurd (by decide) h)
      refine lv_iconst (v := 1) hx hb dL_law_1248 (by decide) ?_
      refine va_forget (fun q hq => by have h9 := hS.2.2 q hq; rw [← hAe] at h9; exact h9) ?_
      refine W.widen (k := 600000) (n := 7302250) (by decide) (by decide) ?_
      exact lw_ret hx hb hr hlocks dL_law_1249
  · skip
    refine lv_aload_n hx hb dL_law_1078 rfl (lv_at hl 1 rfl) ?_
    refine lv_aload_n hx hb dL_law_1079 rfl (lv_at hl 3 rfl) ?_
    refine lv_iload_n hx hb dL_law_1080 rfl (lv_at hl 0 rfl) ?_
    refine lv_iconst (v := 1) hx hb dL_law_1081 (by decide) ?_
    refine lv_iadd hx hb dL_law_1082 ?_
    refine xw_i (v := 1) (by decide) ?_
    refine va_sld hx hb hX hbl hbA hS (by unfold vp_in; decide) dL_law_1083 ?_
    refine xw_i (v := xs 1) rfl ?_
    refine lv_aload_n hx hb dL_law_1084 rfl (lv_at hl 3 rfl) ?_
    refine lv_iload_n hx hb dL_law_1085 rfl (lv_at hl 0 rfl) ?_
    refine lv_iconst (v := 2) hx hb dL_law_1086 (by decide) ?_
    refine lv_iadd hx hb dL_law_1087 ?_
    refine xw_i (v := 2) (by decide) ?_
    refine va_sld hx hb hX hbl hbA hS (by unfold vp_in; decide) dL_law_1088 ?_
    refine xw_i (v := xs 2) rfl ?_
    have hPc := hP.sub (ws' := [(mo, .inr (12, [.ref m_tape, .int 0, .int 0, .int 0, .int 0, .int 0, .int 0, .int 0, .int 0, .int (-1), .ref m_laws, .ref m_hasLaws, .int 0, .int 0, .ref m_clubOf, .ref m_first, .ref m_last, .ref m_pay, .ref m_rise, .ref m_sure, .ref m_hasChoice, .ref m_isTaken, .ref m_isHurt, .ref m_dead, .ref m_usedSpare, .ref m_owner, .ref m_giver, .ref m_guarded, .ref m_drawnOf, .ref m_drawnTo, .int 0, .int 0, .ref m_table, .int 0, .ref m_moved, .ref m_from, .ref m_to, .ref m_guard, .ref m_worths, .ref m_ringClub, .ref m_ringGives, .int 0, .ref m_triedClub, .ref m_triedGives, .int 0, .int 0, .ref m_toldClub, .ref m_toldGives, .ref m_isOut, .ref m_purse, .int 0])), (m_laws, .inl (k_laws, 192, .inl fL)), (m_hasLaws, .inl (k_hasLaws, 10, .inl (fun _ => 0))), (m_isOut, .inl (k_isOut, 8, .inl (fun _ => 0)))]) [7, 8, 9, 10] rfl
    have hDc := hD.sub (ws' := [(mo, .inr (12, [.ref m_tape, .int 0, .int 0, .int 0, .int 0, .int 0, .int 0, .int 0, .int 0, .int (-1), .ref m_laws, .ref m_hasLaws, .int 0, .int 0, .ref m_clubOf, .ref m_first, .ref m_last, .ref m_pay, .ref m_rise, .ref m_sure, .ref m_hasChoice, .ref m_isTaken, .ref m_isHurt, .ref m_dead, .ref m_usedSpare, .ref m_owner, .ref m_giver, .ref m_guarded, .ref m_drawnOf, .ref m_drawnTo, .int 0, .int 0, .ref m_table, .int 0, .ref m_moved, .ref m_from, .ref m_to, .ref m_guard, .ref m_worths, .ref m_ringClub, .ref m_ringGives, .int 0, .ref m_triedClub, .ref m_triedGives, .int 0, .int 0, .ref m_toldClub, .ref m_toldGives, .ref m_isOut, .ref m_purse, .int 0])), (m_laws, .inl (k_laws, 192, .inl fL)), (m_hasLaws, .inl (k_hasLaws, 10, .inl (fun _ => 0))), (m_isOut, .inl (k_isOut, 8, .inl (fun _ => 0)))]) [7, 8, 9, 10] (by decide) rfl
    have hKc := hK.sub (tys' := [(k_laws, .int), (k_hasLaws, .boolean), (k_isOut, .boolean)]) [2, 3, 4] rfl
    have hFc := va_free (wc := [(mo, .inr (12, [.ref m_tape, .int 0, .int 0, .int 0, .int 0, .int 0, .int 0, .int 0, .int 0, .int (-1), .ref m_laws, .ref m_hasLaws, .int 0, .int 0, .ref m_clubOf, .ref m_first, .ref m_last, .ref m_pay, .ref m_rise, .ref m_sure, .ref m_hasChoice, .ref m_isTaken, .ref m_isHurt, .ref m_dead, .ref m_usedSpare, .ref m_owner, .ref m_giver, .ref m_guarded, .ref m_drawnOf, .ref m_drawnTo, .int 0, .int 0, .ref m_table, .int 0, .ref m_moved, .ref m_from, .ref m_to, .ref m_guard, .ref m_worths, .ref m_ringClub, .ref m_ringGives, .int 0, .ref m_triedClub, .ref m_triedGives, .int 0, .int 0, .ref m_toldClub, .ref m_toldGives, .ref m_isOut, .ref m_purse, .int 0])), (m_laws, .inl (k_laws, 192, .inl fL)), (m_hasLaws, .inl (k_hasLaws, 10, .inl (fun _ => 0))), (m_isOut, .inl (k_isOut, 8, .inl (fun _ => 0)))]) hD hS hA [7, 8, 9, 10] rfl
    refine va_calli (va_runV (As := [.int (xs 1), .int (xs 2)]) (rest := [.int (-2)]) ⟨hx, hb, hml, hown, hts⟩ (mX_draw l dC dI mo m_tape m_laws m_hasLaws m_clubOf m_first m_last m_pay m_rise m_sure m_hasChoice m_isTaken m_isHurt m_dead m_usedSpare m_owner m_giver m_guarded m_drawnOf m_drawnTo m_table m_moved m_from m_to m_guard m_worths m_ringClub m_ringGives m_triedClub m_triedGives m_toldClub m_toldGives m_isOut m_purse k_laws k_hasLaws k_isOut fL  _ um0 (xs 1) ((xs 1).toInt) rfl (xs 2) ((xs 2).toInt) rfl) (cwV 2 hts gL_law_X12_draw rfl rfl rfl (by decide +kernel) ⟨Nat.le_of_ble_eq_true rfl, Nat.le_of_ble_eq_true rfl⟩) ⟨xW_blind _ _ _ _ _, va_recv hKc hPc (ci := 12) (q0 := 0) rfl rfl, xW_pre _ hE hKc hPc hDc⟩ rfl rfl hl.1 rfl (lv_room (Nat.le_of_ble_eq_true rfl)) dL_law_1089 ⟨Nat.le_of_ble_eq_true rfl, Nat.le_of_ble_eq_true rfl⟩) hS (fun q _ h => hFc q h) hFc (fun rh5 u t H1 locs ht hvm h5 hB hz1 hk1 hS => ?_)
    obtain ⟨hP, hD⟩ := va_join (wr := [(cp, .inr (11, [.ref tp, .ref lb, .ref rd, .ref bk, .ref tn, .ref td, .ref rg, .ref dr])), (lb, .inr (3, [.ref un, .ref tx])), (un, .inr (5, [.ref un1, .ref un2, .int 1])), (tx, .inl (k_tx, 10, .inr (.inr (.inr (.inr (fun _ => none)))))), (bk, .inr (0, [.ref lb, .ref pl, .int 0, .int 0, .ref de, .ref su, .ref fi, .int 0, .ref ac])), (dr, .inr (2, [.ref ra, .int 0, .ref dn, .ref od, .ref hv, .long 0, .long 1])), (dn, .inl (k_dn, 10, .inl (fun _ => 0)))]) (w1 := []) hP hD [7, 8, 9, 10] [0, 1, 2, 3, 4, 5, 6] rfl rfl (by decide) (by decide) hk1 hFc xz_P xz_D
    generalize H1 = H at hP hS ⊢
    replace hP : va_P (dC, dI) vwCl [(cp, .inr (11, [.ref tp, .ref lb, .ref rd, .ref bk, .ref tn, .ref td, .ref rg, .ref dr])), (lb, .inr (3, [.ref un, .ref tx])), (un, .inr (5, [.ref un1, .ref un2, .int 1])), (tx, .inl (k_tx, 10, .inr (.inr (.inr (.inr (fun _ => none)))))), (bk, .inr (0, [.ref lb, .ref pl, .int 0, .int 0, .ref de, .ref su, .ref fi, .int 0, .ref ac])), (dr, .inr (2, [.ref ra, .int 0, .ref dn, .ref od, .ref hv, .long 0, .long 1])), (dn, .inl (k_dn, 10, .inl (fun _ => 0)))] H := hP
    replace hD : va_D A [(cp, .inr (11, [.ref tp, .ref lb, .ref rd, .ref bk, .ref tn, .ref td, .ref rg, .ref dr])), (lb, .inr (3, [.ref un, .ref tx])), (un, .inr (5, [.ref un1, .ref un2, .int 1])), (tx, .inl (k_tx, 10, .inr (.inr (.inr (.inr (fun _ => none)))))), (bk, .inr (0, [.ref lb, .ref pl, .int 0, .int 0, .ref de, .ref su, .ref fi, .int 0, .ref ac])), (dr, .inr (2, [.ref ra, .int 0, .ref dn, .ref od, .ref hv, .long 0, .long 1])), (dn, .inl (k_dn, 10, .inl (fun _ => 0)))] := hD
    replace hK : va_K (dC, dI) vwCl [(k_tx, (.object RX5)), (k_dn, .boolean), (k_laws, .int), (k_hasLaws, .boolean), (k_isOut, .boolean)] s := hK
    refine W.cs (cells' := 178) (slots' := 9908) rfl rfl ?_
    rcases h5 with ⟨rfl, h5⟩ | ⟨rfl, h5⟩
    · skip
      refine lv_icmp_eq (tgt := 1242) hx hb dL_law_1092 (by decide) (fun _ => ?_) (fun h => absurd (by first | rfl | (exfalso; omega)) h)
      refine lv_iinc (v := 8) (lv' := [(3, .int 8), (2, .ref mo), (1, .ref cp), (0, .ref b)]) hx hb dL_law_1242 hl (k := 0) rfl (by decide) (by decide) rfl (fun ls hl => ?_)
      refine lv_goto (tgt := 18) hx hb dL_law_1245 (by decide) ?_
      refine lv_iload_n hx hb dL_law_18 rfl (lv_at hl 0 rfl) ?_
      refine lv_aload_n hx hb dL_law_19 rfl (lv_at hl 3 rfl) ?_
      refine va_slen hx hb hX hbl hbA hS dL_law_20 ?_
      refine xw_i (v := 8) rfl ?_
      refine lv_bipush (v := 8) hx hb dL_law_21 (by decide) ?_
      refine lv_isub hx hb dL_law_23 ?_
      refine xw_i (v := 0) (by decide) ?_
      refine lv_icmp_gt (tgt := 1248) hx hb dL_law_24 (by decide) (fun _ => ?_) (fun h => absurd (by decide) h)
      refine lv_iconst (v := 1) hx hb dL_law_1248 (by decide) ?_
      refine va_forget (fun q hq => by have h9 := hS.2.2 q hq; rw [← hAe] at h9; exact h9) ?_
      refine W.widen (k := 600000) (n := 7302250) (by decide) (by decide) ?_
      exact lw_ret hx hb hr hlocks dL_law_1249
    · skip
      refine lv_icmp_eq (tgt := 1242) hx hb dL_law_1092 (by decide) (fun _ => ?_) (fun h => absurd (by first | rfl | (exfalso; omega)) h)
      refine lv_iinc (v := 8) (lv' := [(3, .int 8), (2, .ref mo), (1, .ref cp), (0, .ref b)]) hx hb dL_law_1242 hl (k := 0) rfl (by decide) (by decide) rfl (fun ls hl => ?_)
      refine lv_goto (tgt := 18) hx hb dL_law_1245 (by decide) ?_
      refine lv_iload_n hx hb dL_law_18 rfl (lv_at hl 0 rfl) ?_
      refine lv_aload_n hx hb dL_law_19 rfl (lv_at hl 3 rfl) ?_
      refine va_slen hx hb hX hbl hbA hS dL_law_20 ?_
      refine xw_i (v := 8) rfl ?_
      refine lv_bipush (v := 8) hx hb dL_law_21 (by decide) ?_
      refine lv_isub hx hb dL_law_23 ?_
      refine xw_i (v := 0) (by decide) ?_
      refine lv_icmp_gt (tgt := 1248) hx hb dL_law_24 (by decide) (fun _ => ?_) (fun h => absurd (by decide) h)
      refine lv_iconst (v := 1) hx hb dL_law_1248 (by decide) ?_
      refine va_forget (fun q hq => by have h9 := hS.2.2 q hq; rw [← hAe] at h9; exact h9) ?_
      refine W.widen (k := 600000) (n := 7302250) (by decide) (by decide) ?_
      exact lw_ret hx hb hr hlocks dL_law_1249
set_option maxHeartbeats 8000000 in
set_option maxRecDepth 100000 in
theorem law_26 {p : Program} {l : Launch} {e : Env} {s : State} {m : MethodId} {below : List Frame} {meth : Method} {c : Code} {dC : Nat → ClassId} {dI : Nat → Nat → Nat} {b : Nat} {xs : Nat → Int32} (C0 : lw_At p s m meth c b 8 xs) {A : Nat → Prop} (hAe : (fun q : Nat => s.heap.size ≤ q) = A) {tU : Nat} (hU : xU tU A s s.heap) (cp tp lb rd bk tn td rg dr ra dn od hv mo m_tape m_laws m_hasLaws m_clubOf m_first m_last m_pay m_rise m_sure m_hasChoice m_isTaken m_isHurt m_dead m_usedSpare m_owner m_giver m_guarded m_drawnOf m_drawnTo m_table m_moved m_from m_to m_guard m_worths m_ringClub m_ringGives m_triedClub m_triedGives m_toldClub m_toldGives m_isOut m_purse : Nat) (k_dn k_drawnOf : ClassId) (fD : Nat → Int32) (um2 : ∀ j : Nat, j < 80 → fD j = -1) (hK : va_K (dC, dI) vwCl [(k_dn, .boolean), (k_drawnOf, .int)] s) (H : Heap) (locs : List Loc) (hP : va_P (dC, dI) vwCl [(cp, .inr (11, [.ref tp, .ref lb, .ref rd, .ref bk, .ref tn, .ref td, .ref rg, .ref dr])), (dr, .inr (2, [.ref ra, .int 0, .ref dn, .ref od, .ref hv, .long 0, .long 1])), (dn, .inl (k_dn, 10, .inl (fun _ => 0))), (mo, .inr (12, [.ref m_tape, .int 0, .int 0, .int 0, .int 0, .int 0, .int 0, .int 0, .int 0, .int (-1), .ref m_laws, .ref m_hasLaws, .int 0, .int 0, .ref m_clubOf, .ref m_first, .ref m_last, .ref m_pay, .ref m_rise, .ref m_sure, .ref m_hasChoice, .ref m_isTaken, .ref m_isHurt, .ref m_dead, .ref m_usedSpare, .ref m_owner, .ref m_giver, .ref m_guarded, .ref m_drawnOf, .ref m_drawnTo, .int 0, .int 0, .ref m_table, .int 0, .ref m_moved, .ref m_from, .ref m_to, .ref m_guard, .ref m_worths, .ref m_ringClub, .ref m_ringGives, .int 0, .ref m_triedClub, .ref m_triedGives, .int 0, .int 0, .ref m_toldClub, .ref m_toldGives, .ref m_isOut, .ref m_purse, .int 0])), (m_drawnOf, .inl (k_drawnOf, 80, .inl fD))] H) (hD : va_D A [(cp, .inr (11, [.ref tp, .ref lb, .ref rd, .ref bk, .ref tn, .ref td, .ref rg, .ref dr])), (dr, .inr (2, [.ref ra, .int 0, .ref dn, .ref od, .ref hv, .long 0, .long 1])), (dn, .inl (k_dn, 10, .inl (fun _ => 0))), (mo, .inr (12, [.ref m_tape, .int 0, .int 0, .int 0, .int 0, .int 0, .int 0, .int 0, .int 0, .int (-1), .ref m_laws, .ref m_hasLaws, .int 0, .int 0, .ref m_clubOf, .ref m_first, .ref m_last, .ref m_pay, .ref m_rise, .ref m_sure, .ref m_hasChoice, .ref m_isTaken, .ref m_isHurt, .ref m_dead, .ref m_usedSpare, .ref m_owner, .ref m_giver, .ref m_guarded, .ref m_drawnOf, .ref m_drawnTo, .int 0, .int 0, .ref m_table, .int 0, .ref m_moved, .ref m_from, .ref m_to, .ref m_guard, .ref m_worths, .ref m_ringClub, .ref m_ringGives, .int 0, .ref m_triedClub, .ref m_triedGives, .int 0, .int 0, .ref m_toldClub, .ref m_toldGives, .ref m_isOut, .ref m_purse, .int 0])), (m_drawnOf, .inl (k_drawnOf, 80, .inl fD))]) (hS : va_S A s.heap H locs) (ls : Array Slot) (hl : lv_has ls 4 [(3, .int 0), (2, .ref mo), (1, .ref cp), (0, .ref b)]) : W p l e room_1 s m #[Value.ref b] below meth c H locs 178 9908 (lw_Z below #[Value.ref b] s) (F0 m 1097 ls []) := by
  obtain ⟨hx, hb, hr, hml, hown, hts0, hX, hbl, hlocks, hgv⟩ := id C0
  have hE := xs_E hts0
  have hts : ∀ w ∈ wsL_law, w.before #[Value.ref b] s = true := fun w h => hts0 w (wsL_law_in w h)
  have hA : ∀ q : Nat, s.heap.size ≤ q → A q := fun q h => by rw [← hAe]; exact h
  have hbA : ¬ A b := by rw [← hAe]; exact Nat.not_le.mpr hbl
  have lo0 := xi_lo (xs 0)
  have hi0 := xi_hi (xs 0)
  have lo1 := xi_lo (xs 1)
  have hi1 := xi_hi (xs 1)
  have lo2 := xi_lo (xs 2)
  have hi2 := xi_hi (xs 2)
  have lo3 := xi_lo (xs 3)
  have hi3 := xi_hi (xs 3)
  have lo4 := xi_lo (xs 4)
  have hi4 := xi_hi (xs 4)
  have lo5 := xi_lo (xs 5)
  have hi5 := xi_hi (xs 5)
  have lo6 := xi_lo (xs 6)
  have hi6 := xi_hi (xs 6)
  have lo7 := xi_lo (xs 7)
  have hi7 := xi_hi (xs 7)
  refine lv_aload_n hx hb dL_law_1097 rfl (lv_at hl 2 rfl) ?_
  refine lv_aload_n hx hb dL_law_1098 rfl (lv_at hl 3 rfl) ?_
  refine lv_iload_n hx hb dL_law_1099 rfl (lv_at hl 0 rfl) ?_
  refine lv_iconst (v := 1) hx hb dL_law_1100 (by decide) ?_
  refine lv_iadd hx hb dL_law_1101 ?_
  refine xw_i (v := 1) (by decide) ?_
  refine va_sld hx hb hX hbl hbA hS (by unfold vp_in; decide) dL_law_1102 ?_
  refine xw_i (v := xs 1) rfl ?_
  refine lv_aload_n hx hb dL_law_1103 rfl (lv_at hl 3 rfl) ?_
  refine lv_iload_n hx hb dL_law_1104 rfl (lv_at hl 0 rfl) ?_
  refine lv_iconst (v := 2) hx hb dL_law_1105 (by decide) ?_
  refine lv_iadd hx hb dL_law_1106 ?_
  refine xw_i (v := 2) (by decide) ?_
  refine va_sld hx hb hX hbl hbA hS (by unfold vp_in; decide) dL_law_1107 ?_
  refine xw_i (v := xs 2) rfl ?_
  refine lv_aload_n hx hb dL_law_1108 rfl (lv_at hl 3 rfl) ?_
  refine lv_iload_n hx hb dL_law_1109 rfl (lv_at hl 0 rfl) ?_
  refine lv_iconst (v := 3) hx hb dL_law_1110 (by decide) ?_
  refine lv_iadd hx hb dL_law_1111 ?_
  refine xw_i (v := 3) (by decide) ?_
  refine va_sld hx hb hX hbl hbA hS (by unfold vp_in; decide) dL_law_1112 ?_
  refine xw_i (v := xs 3) rfl ?_
  have hPc := hP.sub (ws' := [(cp, .inr (11, [.ref tp, .ref lb, .ref rd, .ref bk, .ref tn, .ref td, .ref rg, .ref dr])), (dr, .inr (2, [.ref ra, .int 0, .ref dn, .ref od, .ref hv, .long 0, .long 1])), (dn, .inl (k_dn, 10, .inl (fun _ => 0)))]) [0, 1, 2] rfl
  have hKc := hK.sub (tys' := [(k_dn, .boolean)]) [0] rfl
  refine vp_callSi (W.runV (As := [.int (xs 1), .int (xs 2), .int (xs 3)]) (rest := []) ⟨hx, hb, hml, hown, hts⟩ (aX_turn l dC dI ([(cp, .inr (11, [.ref tp, .ref lb, .ref rd, .ref bk, .ref tn, .ref td, .ref rg, .ref dr])), (dr, .inr (2, [.ref ra, .int 0, .ref dn, .ref od, .ref hv, .long 0, .long 1])), (dn, .inl (k_dn, 10, .inl (fun _ => 0)))]) ([(k_dn, .boolean)]) 0 rfl 1 rfl 2 rfl 0 rfl (xs 1) ((xs 1).toInt) rfl (xs 2) ((xs 2).toInt) rfl (xs 3) ((xs 3).toInt) rfl) (cwV 3 hts gL_law_X11_turn rfl rfl rfl (by decide +kernel) ⟨Nat.le_of_ble_eq_true rfl, Nat.le_of_ble_eq_true rfl⟩) ⟨xR_blind _ _ _ _, va_recv hKc hPc (ci := 11) (q0 := 0) rfl rfl, xR_pre _ hE hKc hPc⟩ rfl rfl hl.1 rfl (lv_room (Nat.le_of_ble_eq_true rfl)) dL_law_1113 ⟨Nat.le_of_ble_eq_true rfl, Nat.le_of_ble_eq_true rfl⟩) (fun rh1 h1 => ?_)
  obtain ⟨rfl, h1⟩ := h1
  refine lv_aload_n hx hb dL_law_1116 rfl (lv_at hl 1 rfl) ?_
  refine lv_aload_n hx hb dL_law_1117 rfl (lv_at hl 3 rfl) ?_
  refine lv_iload_n hx hb dL_law_1118 rfl (lv_at hl 0 rfl) ?_
  refine lv_iconst (v := 1) hx hb dL_law_1119 (by decide) ?_
  refine lv_iadd hx hb dL_law_1120 ?_
  refine xw_i (v := 1) (by decide) ?_
  refine va_sld hx hb hX hbl hbA hS (by unfold vp_in; decide) dL_law_1121 ?_
  refine xw_i (v := xs 1) rfl ?_
  refine lv_aload_n hx hb dL_law_1122 rfl (lv_at hl 3 rfl) ?_
  refine lv_iload_n hx hb dL_law_1123 rfl (lv_at hl 0 rfl) ?_
  refine lv_iconst (v := 2) hx hb dL_law_1124 (by decide) ?_
  refine lv_iadd hx hb dL_law_1125 ?_
  refine xw_i (v := 2) (by decide) ?_
  refine va_sld hx hb hX hbl hbA hS (by unfold vp_in; decide) dL_law_1126 ?_
  refine xw_i (v := xs 2) rfl ?_
  refine lv_aload_n hx hb dL_law_1127 rfl (lv_at hl 3 rfl) ?_
  refine lv_iload_n hx hb dL_law_1128 rfl (lv_at hl 0 rfl) ?_
  refine lv_iconst (v := 3) hx hb dL_law_1129 (by decide) ?_
  refine lv_iadd hx hb dL_law_1130 ?_
  refine xw_i (v := 3) (by decide) ?_
  refine va_sld hx hb hX hbl hbA hS (by unfold vp_in; decide) dL_law_1131 ?_
  refine xw_i (v := xs 3) rfl ?_
  have hPc := hP.sub (ws' := [(mo, .inr (12, [.ref m_tape, .int 0, .int 0, .int 0, .int 0, .int 0, .int 0, .int 0, .int 0, .int (-1), .ref m_laws, .ref m_hasLaws, .int 0, .int 0, .ref m_clubOf, .ref m_first, .ref m_last, .ref m_pay, .ref m_rise, .ref m_sure, .ref m_hasChoice, .ref m_isTaken, .ref m_isHurt, .ref m_dead, .ref m_usedSpare, .ref m_owner, .ref m_giver, .ref m_guarded, .ref m_drawnOf, .ref m_drawnTo, .int 0, .int 0, .ref m_table, .int 0, .ref m_moved, .ref m_from, .ref m_to, .ref m_guard, .ref m_worths, .ref m_ringClub, .ref m_ringGives, .int 0, .ref m_triedClub, .ref m_triedGives, .int 0, .int 0, .ref m_toldClub, .ref m_toldGives, .ref m_isOut, .ref m_purse, .int 0])), (m_drawnOf, .inl (k_drawnOf, 80, .inl fD))]) [3, 4] rfl
  have hKc := hK.sub (tys' := [(k_drawnOf, .int)]) [1] rfl
  refine vp_callSi (W.runV (As := [.int (xs 1), .int (xs 2), .int (xs 3)]) (rest := [.int (-1)]) ⟨hx, hb, hml, hown, hts⟩ (mX_turn l dC dI ([(mo, .inr (12, [.ref m_tape, .int 0, .int 0, .int 0, .int 0, .int 0, .int 0, .int 0, .int 0, .int (-1), .ref m_laws, .ref m_hasLaws, .int 0, .int 0, .ref m_clubOf, .ref m_first, .ref m_last, .ref m_pay, .ref m_rise, .ref m_sure, .ref m_hasChoice, .ref m_isTaken, .ref m_isHurt, .ref m_dead, .ref m_usedSpare, .ref m_owner, .ref m_giver, .ref m_guarded, .ref m_drawnOf, .ref m_drawnTo, .int 0, .int 0, .ref m_table, .int 0, .ref m_moved, .ref m_from, .ref m_to, .ref m_guard, .ref m_worths, .ref m_ringClub, .ref m_ringGives, .int 0, .ref m_triedClub, .ref m_triedGives, .int 0, .int 0, .ref m_toldClub, .ref m_toldGives, .ref m_isOut, .ref m_purse, .int 0])), (m_drawnOf, .inl (k_drawnOf, 80, .inl fD))]) ([(k_drawnOf, .int)]) um2 0 rfl 1 rfl 0 rfl (xs 1) ((xs 1).toInt) rfl (xs 2) ((xs 2).toInt) rfl (xs 3) ((xs 3).toInt) rfl) (cwV 3 hts gL_law_X12_turn rfl rfl rfl (by decide +kernel) ⟨Nat.le_of_ble_eq_true rfl, Nat.le_of_ble_eq_true rfl⟩) ⟨xR_blind _ _ _ _, va_recv hKc hPc (ci := 12) (q0 := 0) rfl rfl, xR_pre _ hE hKc hPc⟩ rfl rfl hl.1 rfl (lv_room (Nat.le_of_ble_eq_true rfl)) dL_law_1132 ⟨Nat.le_of_ble_eq_true rfl, Nat.le_of_ble_eq_true rfl⟩) (fun rh2 h2 => ?_)
  obtain ⟨rfl, h2⟩ := h2
  refine lv_icmp_eq (tgt := 1242) hx hb dL_law_1135 (by decide) (fun _ => ?_) (fun h => absurd (by first | rfl | (exfalso; omega)) h)
  refine lv_iinc (v := 8) (lv' := [(3, .int 8), (2, .ref mo), (1, .ref cp), (0, .ref b)]) hx hb dL_law_1242 hl (k := 0) rfl (by decide) (by decide) rfl (fun ls hl => ?_)
  refine lv_goto (tgt := 18) hx hb dL_law_1245 (by decide) ?_
  refine lv_iload_n hx hb dL_law_18 rfl (lv_at hl 0 rfl) ?_
  refine lv_aload_n hx hb dL_law_19 rfl (lv_at hl 3 rfl) ?_
  refine va_slen hx hb hX hbl hbA hS dL_law_20 ?_
  refine xw_i (v := 8) rfl ?_
  refine lv_bipush (v := 8) hx hb dL_law_21 (by decide) ?_
  refine lv_isub hx hb dL_law_23 ?_
  refine xw_i (v := 0) (by decide) ?_
  refine lv_icmp_gt (tgt := 1248) hx hb dL_law_24 (by decide) (fun _ => ?_) (fun h => absurd (by decide) h)
  refine lv_iconst (v := 1) hx hb dL_law_1248 (by decide) ?_
  refine va_forget (fun q hq => by have h9 := hS.2.2 q hq; rw [← hAe] at h9; exact h9) ?_
  refine W.widen (k := 600000) (n := 7302250) (by decide) (by decide) ?_
  exact lw_ret hx hb hr hlocks dL_law_1249
set_option maxHeartbeats 8000000 in
set_option maxRecDepth 100000 in
theorem law_27 {p : Program} {l : Launch} {e : Env} {s : State} {m : MethodId} {below : List Frame} {meth : Method} {c : Code} {dC : Nat → ClassId} {dI : Nat → Nat → Nat} {b : Nat} {xs : Nat → Int32} (C0 : lw_At p s m meth c b 8 xs) {A : Nat → Prop} (hAe : (fun q : Nat => s.heap.size ≤ q) = A) {tU : Nat} (hU : xU tU A s s.heap) (cp tp lb rd bk tn td rg dr ho sh gi wo mo m_tape m_laws m_hasLaws m_clubOf m_first m_last m_pay m_rise m_sure m_hasChoice m_isTaken m_isHurt m_dead m_usedSpare m_owner m_giver m_guarded m_drawnOf m_drawnTo m_table m_moved m_from m_to m_guard m_worths m_ringClub m_ringGives m_triedClub m_triedGives m_toldClub m_toldGives m_isOut m_purse : Nat) (k_ho k_sh k_owner k_guarded : ClassId) (fh fO : Nat → Int32) (ux18 : ∀ j : Nat, j < 80 → (fh j).toInt = j / 10) (um1 : ∀ j : Nat, j < 80 → (fO j).toInt = j / 10) (hK : va_K (dC, dI) vwCl [(k_ho, .int), (k_sh, .int), (k_owner, .int), (k_guarded, .int)] s) (H : Heap) (locs : List Loc) (hP : va_P (dC, dI) vwCl [(cp, .inr (11, [.ref tp, .ref lb, .ref rd, .ref bk, .ref tn, .ref td, .ref rg, .ref dr])), (tn, .inr (10, [.ref ho, .ref sh, .ref gi, .ref wo])), (ho, .inl (k_ho, 80, .inl fh)), (sh, .inl (k_sh, 80, .inl (fun _ => 0))), (mo, .inr (12, [.ref m_tape, .int 0, .int 0, .int 0, .int 0, .int 0, .int 0, .int 0, .int 0, .int (-1), .ref m_laws, .ref m_hasLaws, .int 0, .int 0, .ref m_clubOf, .ref m_first, .ref m_last, .ref m_pay, .ref m_rise, .ref m_sure, .ref m_hasChoice, .ref m_isTaken, .ref m_isHurt, .ref m_dead, .ref m_usedSpare, .ref m_owner, .ref m_giver, .ref m_guarded, .ref m_drawnOf, .ref m_drawnTo, .int 0, .int 0, .ref m_table, .int 0, .ref m_moved, .ref m_from, .ref m_to, .ref m_guard, .ref m_worths, .ref m_ringClub, .ref m_ringGives, .int 0, .ref m_triedClub, .ref m_triedGives, .int 0, .int 0, .ref m_toldClub, .ref m_toldGives, .ref m_isOut, .ref m_purse, .int 0])), (m_owner, .inl (k_owner, 80, .inl fO)), (m_guarded, .inl (k_guarded, 80, .inl (fun _ => 0)))] H) (hD : va_D A [(cp, .inr (11, [.ref tp, .ref lb, .ref rd, .ref bk, .ref tn, .ref td, .ref rg, .ref dr])), (tn, .inr (10, [.ref ho, .ref sh, .ref gi, .ref wo])), (ho, .inl (k_ho, 80, .inl fh)), (sh, .inl (k_sh, 80, .inl (fun _ => 0))), (mo, .inr (12, [.ref m_tape, .int 0, .int 0, .int 0, .int 0, .int 0, .int 0, .int 0, .int 0, .int (-1), .ref m_laws, .ref m_hasLaws, .int 0, .int 0, .ref m_clubOf, .ref m_first, .ref m_last, .ref m_pay, .ref m_rise, .ref m_sure, .ref m_hasChoice, .ref m_isTaken, .ref m_isHurt, .ref m_dead, .ref m_usedSpare, .ref m_owner, .ref m_giver, .ref m_guarded, .ref m_drawnOf, .ref m_drawnTo, .int 0, .int 0, .ref m_table, .int 0, .ref m_moved, .ref m_from, .ref m_to, .ref m_guard, .ref m_worths, .ref m_ringClub, .ref m_ringGives, .int 0, .ref m_triedClub, .ref m_triedGives, .int 0, .int 0, .ref m_toldClub, .ref m_toldGives, .ref m_isOut, .ref m_purse, .int 0])), (m_owner, .inl (k_owner, 80, .inl fO)), (m_guarded, .inl (k_guarded, 80, .inl (fun _ => 0)))]) (hS : va_S A s.heap H locs) (ls : Array Slot) (hl : lv_has ls 4 [(3, .int 0), (2, .ref mo), (1, .ref cp), (0, .ref b)]) : W p l e room_1 s m #[Value.ref b] below meth c H locs 178 9908 (lw_Z below #[Value.ref b] s) (F0 m 1140 ls []) := by
  obtain ⟨hx, hb, hr, hml, hown, hts0, hX, hbl, hlocks, hgv⟩ := id C0
  have hE := xs_E hts0
  have hts : ∀ w ∈ wsL_law, w.before #[Value.ref b] s = true := fun w h => hts0 w (wsL_law_in w h)
  have hA : ∀ q : Nat, s.heap.size ≤ q → A q := fun q h => by rw [← hAe]; exact h
  have hbA : ¬ A b := by rw [← hAe]; exact Nat.not_le.mpr hbl
  have lo0 := xi_lo (xs 0)
  have hi0 := xi_hi (xs 0)
  have lo1 := xi_lo (xs 1)
  have hi1 := xi_hi (xs 1)
  have lo2 := xi_lo (xs 2)
  have hi2 := xi_hi (xs 2)
  have lo3 := xi_lo (xs 3)
  have hi3 := xi_hi (xs 3)
  have lo4 := xi_lo (xs 4)
  have hi4 := xi_hi (xs 4)
  have lo5 := xi_lo (xs 5)
  have hi5 := xi_hi (xs 5)
  have lo6 := xi_lo (xs 6)
  have hi6 := xi_hi (xs 6)
  have lo7 := xi_lo (xs 7)
  have hi7 := xi_hi (xs 7)
  refine lv_aload_n hx hb dL_law_1140 rfl (lv_at hl 2 rfl) ?_
  refine lv_aload_n hx hb dL_law_1141 rfl (lv_at hl 3 rfl) ?_
  refine lv_iload_n hx hb dL_law_1142 rfl (lv_at hl 0 rfl) ?_
  refine lv_iconst (v := 1) hx hb dL_law_1143 (by decide) ?_
  refine lv_iadd hx hb dL_law_1144 ?_
  refine xw_i (v := 1) (by decide) ?_
  refine va_sld hx hb hX hbl hbA hS (by unfold vp_in; decide) dL_law_1145 ?_
  refine xw_i (v := xs 1) rfl ?_
  refine lv_aload_n hx hb dL_law_1146 rfl (lv_at hl 3 rfl) ?_
  refine lv_iload_n hx hb dL_law_1147 rfl (lv_at hl 0 rfl) ?_
  refine lv_iconst (v := 2) hx hb dL_law_1148 (by decide) ?_
  refine lv_iadd hx hb dL_law_1149 ?_
  refine xw_i (v := 2) (by decide) ?_
  refine va_sld hx hb hX hbl hbA hS (by unfold vp_in; decide) dL_law_1150 ?_
  refine xw_i (v := xs 2) rfl ?_
  refine lv_aload_n hx hb dL_law_1151 rfl (lv_at hl 3 rfl) ?_
  refine lv_iload_n hx hb dL_law_1152 rfl (lv_at hl 0 rfl) ?_
  refine lv_iconst (v := 3) hx hb dL_law_1153 (by decide) ?_
  refine lv_iadd hx hb dL_law_1154 ?_
  refine xw_i (v := 3) (by decide) ?_
  refine va_sld hx hb hX hbl hbA hS (by unfold vp_in; decide) dL_law_1155 ?_
  refine xw_i (v := xs 3) rfl ?_
  have hPc := hP.sub (ws' := [(cp, .inr (11, [.ref tp, .ref lb, .ref rd, .ref bk, .ref tn, .ref td, .ref rg, .ref dr])), (tn, .inr (10, [.ref ho, .ref sh, .ref gi, .ref wo])), (ho, .inl (k_ho, 80, .inl fh)), (sh, .inl (k_sh, 80, .inl (fun _ => 0)))]) [0, 1, 2, 3] rfl
  have hKc := hK.sub (tys' := [(k_ho, .int), (k_sh, .int)]) [0, 1] rfl
  refine vp_callSi (W.runV (As := [.int (xs 1), .int (xs 2), .int (xs 3)]) (rest := []) ⟨hx, hb, hml, hown, hts⟩ (aX_owner l dC dI ([(cp, .inr (11, [.ref tp, .ref lb, .ref rd, .ref bk, .ref tn, .ref td, .ref rg, .ref dr])), (tn, .inr (10, [.ref ho, .ref sh, .ref gi, .ref wo])), (ho, .inl (k_ho, 80, .inl fh)), (sh, .inl (k_sh, 80, .inl (fun _ => 0)))]) ([(k_ho, .int), (k_sh, .int)]) ux18 0 rfl 1 rfl 2 rfl 0 rfl 3 rfl 1 rfl (xs 1) ((xs 1).toInt) rfl (xs 2) ((xs 2).toInt) rfl (xs 3) ((xs 3).toInt) rfl) (cwV 3 hts gL_law_X11_owner rfl rfl rfl (by decide +kernel) ⟨Nat.le_of_ble_eq_true rfl, Nat.le_of_ble_eq_true rfl⟩) ⟨xR_blind _ _ _ _, va_recv hKc hPc (ci := 11) (q0 := 0) rfl rfl, xR_pre _ hE hKc hPc⟩ rfl rfl hl.1 rfl (lv_room (Nat.le_of_ble_eq_true rfl)) dL_law_1156 ⟨Nat.le_of_ble_eq_true rfl, Nat.le_of_ble_eq_true rfl⟩) (fun rh1 h1 => ?_)
  rcases h1 with ⟨rfl, h1⟩ | ⟨rfl, h1⟩ | ⟨rfl, h1⟩
  · skip
    refine lv_aload_n hx hb dL_law_1159 rfl (lv_at hl 1 rfl) ?_
    refine lv_aload_n hx hb dL_law_1160 rfl (lv_at hl 3 rfl) ?_
    refine lv_iload_n hx hb dL_law_1161 rfl (lv_at hl 0 rfl) ?_
    refine lv_iconst (v := 1) hx hb dL_law_1162 (by decide) ?_
    refine lv_iadd hx hb dL_law_1163 ?_
    refine xw_i (v := 1) (by decide) ?_
    refine va_sld hx hb hX hbl hbA hS (by unfold vp_in; decide) dL_law_1164 ?_
    refine xw_i (v := xs 1) rfl ?_
    refine lv_aload_n hx hb dL_law_1165 rfl (lv_at hl 3 rfl) ?_
    refine lv_iload_n hx hb dL_law_1166 rfl (lv_at hl 0 rfl) ?_
    refine lv_iconst (v := 2) hx hb dL_law_1167 (by decide) ?_
    refine lv_iadd hx hb dL_law_1168 ?_
    refine xw_i (v := 2) (by decide) ?_
    refine va_sld hx hb hX hbl hbA hS (by unfold vp_in; decide) dL_law_1169 ?_
    refine xw_i (v := xs 2) rfl ?_
    refine lv_aload_n hx hb dL_law_1170 rfl (lv_at hl 3 rfl) ?_
    refine lv_iload_n hx hb dL_law_1171 rfl (lv_at hl 0 rfl) ?_
    refine lv_iconst (v := 3) hx hb dL_law_1172 (by decide) ?_
    refine lv_iadd hx hb dL_law_1173 ?_
    refine xw_i (v := 3) (by decide) ?_
    refine va_sld hx hb hX hbl hbA hS (by unfold vp_in; decide) dL_law_1174 ?_
    refine xw_i (v := xs 3) rfl ?_
    have hPc := hP.sub (ws' := [(mo, .inr (12, [.ref m_tape, .int 0, .int 0, .int 0, .int 0, .int 0, .int 0, .int 0, .int 0, .int (-1), .ref m_laws, .ref m_hasLaws, .int 0, .int 0, .ref m_clubOf, .ref m_first, .ref m_last, .ref m_pay, .ref m_rise, .ref m_sure, .ref m_hasChoice, .ref m_isTaken, .ref m_isHurt, .ref m_dead, .ref m_usedSpare, .ref m_owner, .ref m_giver, .ref m_guarded, .ref m_drawnOf, .ref m_drawnTo, .int 0, .int 0, .ref m_table, .int 0, .ref m_moved, .ref m_from, .ref m_to, .ref m_guard, .ref m_worths, .ref m_ringClub, .ref m_ringGives, .int 0, .ref m_triedClub, .ref m_triedGives, .int 0, .int 0, .ref m_toldClub, .ref m_toldGives, .ref m_isOut, .ref m_purse, .int 0])), (m_owner, .inl (k_owner, 80, .inl fO)), (m_guarded, .inl (k_guarded, 80, .inl (fun _ => 0)))]) [4, 5, 6] rfl
    have hKc := hK.sub (tys' := [(k_owner, .int), (k_guarded, .int)]) [2, 3] rfl
    refine vp_callSi (W.runV (As := [.int (xs 1), .int (xs 2), .int (xs 3)]) (rest := [.int (xs 1)]) ⟨hx, hb, hml, hown, hts⟩ (mX_owner l dC dI ([(mo, .inr (12, [.ref m_tape, .int 0, .int 0, .int 0, .int 0, .int 0, .int 0, .int 0, .int 0, .int (-1), .ref m_laws, .ref m_hasLaws, .int 0, .int 0, .ref m_clubOf, .ref m_first, .ref m_last, .ref m_pay, .ref m_rise, .ref m_sure, .ref m_hasChoice, .ref m_isTaken, .ref m_isHurt, .ref m_dead, .ref m_usedSpare, .ref m_owner, .ref m_giver, .ref m_guarded, .ref m_drawnOf, .ref m_drawnTo, .int 0, .int 0, .ref m_table, .int 0, .ref m_moved, .ref m_from, .ref m_to, .ref m_guard, .ref m_worths, .ref m_ringClub, .ref m_ringGives, .int 0, .ref m_triedClub, .ref m_triedGives, .int 0, .int 0, .ref m_toldClub, .ref m_toldGives, .ref m_isOut, .ref m_purse, .int 0])), (m_owner, .inl (k_owner, 80, .inl fO)), (m_guarded, .inl (k_guarded, 80, .inl (fun _ => 0)))]) ([(k_owner, .int), (k_guarded, .int)]) um1 0 rfl 1 rfl 0 rfl 2 rfl 1 rfl (xs 1) ((xs 1).toInt) rfl (xs 2) ((xs 2).toInt) rfl (xs 3) ((xs 3).toInt) rfl) (cwV 3 hts gL_law_X12_owner rfl rfl rfl (by decide +kernel) ⟨Nat.le_of_ble_eq_true rfl, Nat.le_of_ble_eq_true rfl⟩) ⟨xR_blind _ _ _ _, va_recv hKc hPc (ci := 12) (q0 := 0) rfl rfl, xR_pre _ hE hKc hPc⟩ rfl rfl hl.1 rfl (lv_room (Nat.le_of_ble_eq_true rfl)) dL_law_1175 ⟨Nat.le_of_ble_eq_true rfl, Nat.le_of_ble_eq_true rfl⟩) (fun rh2 h2 => ?_)
    rcases h2 with ⟨rfl, h2⟩ | ⟨rfl, h2⟩ | ⟨rfl, h2⟩
    · skip
      refine lv_icmp_eq (tgt := 1242) hx hb dL_law_1178 (by decide) (fun _ => ?_) (fun h => absurd (by first | rfl | (exfalso; omega)) h)
      refine lv_iinc (v := 8) (lv' := [(3, .int 8), (2, .ref mo), (1, .ref cp), (0, .ref b)]) hx hb dL_law_1242 hl (k := 0) rfl (by decide) (by decide) rfl (fun ls hl => ?_)
      refine lv_goto (tgt := 18) hx hb dL_law_1245 (by decide) ?_
      refine lv_iload_n hx hb dL_law_18 rfl (lv_at hl 0 rfl) ?_
      refine lv_aload_n hx hb dL_law_19 rfl (lv_at hl 3 rfl) ?_
      refine va_slen hx hb hX hbl hbA hS dL_law_20 ?_
      refine xw_i (v := 8) rfl ?_
      refine lv_bipush (v := 8) hx hb dL_law_21 (by decide) ?_
      refine lv_isub hx hb dL_law_23 ?_
      refine xw_i (v := 0) (by decide) ?_
      refine lv_icmp_gt (tgt := 1248) hx hb dL_law_24 (by decide) (fun _ => ?_) (fun h => absurd (by decide) h)
      refine lv_iconst (v := 1) hx hb dL_law_1248 (by decide) ?_
      refine va_forget (fun q hq => by have h9 := hS.2.2 q hq; rw [← hAe] at h9; exact h9) ?_
      refine W.widen (k := 600000) (n := 7302250) (by decide) (by decide) ?_
      exact lw_ret hx hb hr hlocks dL_law_1249
    · skip
      exact absurd h2 (by omega)
    · skip
      refine lv_icmp_eq (tgt := 1242) hx hb dL_law_1178 (by decide) (fun _ => ?_) (fun h => absurd (by first | rfl | (exfalso; omega)) h)
      refine lv_iinc (v := 8) (lv' := [(3, .int 8), (2, .ref mo), (1, .ref cp), (0, .ref b)]) hx hb dL_law_1242 hl (k := 0) rfl (by decide) (by decide) rfl (fun ls hl => ?_)
      refine lv_goto (tgt := 18) hx hb dL_law_1245 (by decide) ?_
      refine lv_iload_n hx hb dL_law_18 rfl (lv_at hl 0 rfl) ?_
      refine lv_aload_n hx hb dL_law_19 rfl (lv_at hl 3 rfl) ?_
      refine va_slen hx hb hX hbl hbA hS dL_law_20 ?_
      refine xw_i (v := 8) rfl ?_
      refine lv_bipush (v := 8) hx hb dL_law_21 (by decide) ?_
      refine lv_isub hx hb dL_law_23 ?_
      refine xw_i (v := 0) (by decide) ?_
      refine lv_icmp_gt (tgt := 1248) hx hb dL_law_24 (by decide) (fun _ => ?_) (fun h => absurd (by decide) h)
      refine lv_iconst (v := 1) hx hb dL_law_1248 (by decide) ?_
      refine va_forget (fun q hq => by have h9 := hS.2.2 q hq; rw [← hAe] at h9; exact h9) ?_
      refine W.widen (k := 600000) (n := 7302250) (by decide) (by decide) ?_
      exact lw_ret hx hb hr hlocks dL_law_1249
  · skip
    refine lv_aload_n hx hb dL_law_1159 rfl (lv_at hl 1 rfl) ?_
    refine lv_aload_n hx hb dL_law_1160 rfl (lv_at hl 3 rfl) ?_
    refine lv_iload_n hx hb dL_law_1161 rfl (lv_at hl 0 rfl) ?_
    refine lv_iconst (v := 1) hx hb dL_law_1162 (by decide) ?_
    refine lv_iadd hx hb dL_law_1163 ?_
    refine xw_i (v := 1) (by decide) ?_
    refine va_sld hx hb hX hbl hbA hS (by unfold vp_in; decide) dL_law_1164 ?_
    refine xw_i (v := xs 1) rfl ?_
    refine lv_aload_n hx hb dL_law_1165 rfl (lv_at hl 3 rfl) ?_
    refine lv_iload_n hx hb dL_law_1166 rfl (lv_at hl 0 rfl) ?_
    refine lv_iconst (v := 2) hx hb dL_law_1167 (by decide) ?_
    refine lv_iadd hx hb dL_law_1168 ?_
    refine xw_i (v := 2) (by decide) ?_
    refine va_sld hx hb hX hbl hbA hS (by unfold vp_in; decide) dL_law_1169 ?_
    refine xw_i (v := xs 2) rfl ?_
    refine lv_aload_n hx hb dL_law_1170 rfl (lv_at hl 3 rfl) ?_
    refine lv_iload_n hx hb dL_law_1171 rfl (lv_at hl 0 rfl) ?_
    refine lv_iconst (v := 3) hx hb dL_law_1172 (by decide) ?_
    refine lv_iadd hx hb dL_law_1173 ?_
    refine xw_i (v := 3) (by decide) ?_
    refine va_sld hx hb hX hbl hbA hS (by unfold vp_in; decide) dL_law_1174 ?_
    refine xw_i (v := xs 3) rfl ?_
    have hPc := hP.sub (ws' := [(mo, .inr (12, [.ref m_tape, .int 0, .int 0, .int 0, .int 0, .int 0, .int 0, .int 0, .int 0, .int (-1), .ref m_laws, .ref m_hasLaws, .int 0, .int 0, .ref m_clubOf, .ref m_first, .ref m_last, .ref m_pay, .ref m_rise, .ref m_sure, .ref m_hasChoice, .ref m_isTaken, .ref m_isHurt, .ref m_dead, .ref m_usedSpare, .ref m_owner, .ref m_giver, .ref m_guarded, .ref m_drawnOf, .ref m_drawnTo, .int 0, .int 0, .ref m_table, .int 0, .ref m_moved, .ref m_from, .ref m_to, .ref m_guard, .ref m_worths, .ref m_ringClub, .ref m_ringGives, .int 0, .ref m_triedClub, .ref m_triedGives, .int 0, .int 0, .ref m_toldClub, .ref m_toldGives, .ref m_isOut, .ref m_purse, .int 0])), (m_owner, .inl (k_owner, 80, .inl fO)), (m_guarded, .inl (k_guarded, 80, .inl (fun _ => 0)))]) [4, 5, 6] rfl
    have hKc := hK.sub (tys' := [(k_owner, .int), (k_guarded, .int)]) [2, 3] rfl
    refine vp_callSi (W.runV (As := [.int (xs 1), .int (xs 2), .int (xs 3)]) (rest := [.int 0]) ⟨hx, hb, hml, hown, hts⟩ (mX_owner l dC dI ([(mo, .inr (12, [.ref m_tape, .int 0, .int 0, .int 0, .int 0, .int 0, .int 0, .int 0, .int 0, .int (-1), .ref m_laws, .ref m_hasLaws, .int 0, .int 0, .ref m_clubOf, .ref m_first, .ref m_last, .ref m_pay, .ref m_rise, .ref m_sure, .ref m_hasChoice, .ref m_isTaken, .ref m_isHurt, .ref m_dead, .ref m_usedSpare, .ref m_owner, .ref m_giver, .ref m_guarded, .ref m_drawnOf, .ref m_drawnTo, .int 0, .int 0, .ref m_table, .int 0, .ref m_moved, .ref m_from, .ref m_to, .ref m_guard, .ref m_worths, .ref m_ringClub, .ref m_ringGives, .int 0, .ref m_triedClub, .ref m_triedGives, .int 0, .int 0, .ref m_toldClub, .ref m_toldGives, .ref m_isOut, .ref m_purse, .int 0])), (m_owner, .inl (k_owner, 80, .inl fO)), (m_guarded, .inl (k_guarded, 80, .inl (fun _ => 0)))]) ([(k_owner, .int), (k_guarded, .int)]) um1 0 rfl 1 rfl 0 rfl 2 rfl 1 rfl (xs 1) ((xs 1).toInt) rfl (xs 2) ((xs 2).toInt) rfl (xs 3) ((xs 3).toInt) rfl) (cwV 3 hts gL_law_X12_owner rfl rfl rfl (by decide +kernel) ⟨Nat.le_of_ble_eq_true rfl, Nat.le_of_ble_eq_true rfl⟩) ⟨xR_blind _ _ _ _, va_recv hKc hPc (ci := 12) (q0 := 0) rfl rfl, xR_pre _ hE hKc hPc⟩ rfl rfl hl.1 rfl (lv_room (Nat.le_of_ble_eq_true rfl)) dL_law_1175 ⟨Nat.le_of_ble_eq_true rfl, Nat.le_of_ble_eq_true rfl⟩) (fun rh5 h5 => ?_)
    rcases h5 with ⟨rfl, h5⟩ | ⟨rfl, h5⟩ | ⟨rfl, h5⟩
    · skip
      exact absurd h5 (by omega)
    · skip
      refine lv_icmp_eq (tgt := 1242) hx hb dL_law_1178 (by decide) (fun _ => ?_) (fun h => absurd (by first | rfl | (exfalso; omega)) h)
      refine lv_iinc (v := 8) (lv' := [(3, .int 8), (2, .ref mo), (1, .ref cp), (0, .ref b)]) hx hb dL_law_1242 hl (k := 0) rfl (by decide) (by decide) rfl (fun ls hl => ?_)
      refine lv_goto (tgt := 18) hx hb dL_law_1245 (by decide) ?_
      refine lv_iload_n hx hb dL_law_18 rfl (lv_at hl 0 rfl) ?_
      refine lv_aload_n hx hb dL_law_19 rfl (lv_at hl 3 rfl) ?_
      refine va_slen hx hb hX hbl hbA hS dL_law_20 ?_
      refine xw_i (v := 8) rfl ?_
      refine lv_bipush (v := 8) hx hb dL_law_21 (by decide) ?_
      refine lv_isub hx hb dL_law_23 ?_
      refine xw_i (v := 0) (by decide) ?_
      refine lv_icmp_gt (tgt := 1248) hx hb dL_law_24 (by decide) (fun _ => ?_) (fun h => absurd (by decide) h)
      refine lv_iconst (v := 1) hx hb dL_law_1248 (by decide) ?_
      refine va_forget (fun q hq => by have h9 := hS.2.2 q hq; rw [← hAe] at h9; exact h9) ?_
      refine W.widen (k := 600000) (n := 7302250) (by decide) (by decide) ?_
      exact lw_ret hx hb hr hlocks dL_law_1249
    · skip
      refine lv_icmp_eq (tgt := 1242) hx hb dL_law_1178 (by decide) (fun _ => ?_) (fun h => absurd (by first | rfl | (exfalso; omega)) h)
      refine lv_iinc (v := 8) (lv' := [(3, .int 8), (2, .ref mo), (1, .ref cp), (0, .ref b)]) hx hb dL_law_1242 hl (k := 0) rfl (by decide) (by decide) rfl (fun ls hl => ?_)
      refine lv_goto (tgt := 18) hx hb dL_law_1245 (by decide) ?_
      refine lv_iload_n hx hb dL_law_18 rfl (lv_at hl 0 rfl) ?_
      refine lv_aload_n hx hb dL_law_19 rfl (lv_at hl 3 rfl) ?_
      refine va_slen hx hb hX hbl hbA hS dL_law_20 ?_
      refine xw_i (v := 8) rfl ?_
      refine lv_bipush (v := 8) hx hb dL_law_21 (by decide) ?_
      refine lv_isub hx hb dL_law_23 ?_
      refine xw_i (v := 0) (by decide) ?_
      refine lv_icmp_gt (tgt := 1248) hx hb dL_law_24 (by decide) (fun _ => ?_) (fun h => absurd (by decide) h)
      refine lv_iconst (v := 1) hx hb dL_law_1248 (by decide) ?_
      refine va_forget (fun q hq => by have h9 := hS.2.2 q hq; rw [← hAe] at h9; exact h9) ?_
      refine W.widen (k := 600000) (n := 7302250) (by decide) (by decide) ?_
      exact lw_ret hx hb hr hlocks dL_law_1249
  · skip
    refine lv_aload_n hx hb dL_law_1159 rfl (lv_at hl 1 rfl) ?_
    refine lv_aload_n hx hb dL_law_1160 rfl (lv_at hl 3 rfl) ?_
    refine lv_iload_n hx hb dL_law_1161 rfl (lv_at hl 0 rfl) ?_
    refine lv_iconst (v := 1) hx hb dL_law_1162 (by decide) ?_
    refine lv_iadd hx hb dL_law_1163 ?_
    refine xw_i (v := 1) (by decide) ?_
    refine va_sld hx hb hX hbl hbA hS (by unfold vp_in; decide) dL_law_1164 ?_
    refine xw_i (v := xs 1) rfl ?_
    refine lv_aload_n hx hb dL_law_1165 rfl (lv_at hl 3 rfl) ?_
    refine lv_iload_n hx hb dL_law_1166 rfl (lv_at hl 0 rfl) ?_
    refine lv_iconst (v := 2) hx hb dL_law_1167 (by decide) ?_
    refine lv_iadd hx hb dL_law_1168 ?_
    refine xw_i (v := 2) (by decide) ?_
    refine va_sld hx hb hX hbl hbA hS (by unfold vp_in; decide) dL_law_1169 ?_
    refine xw_i (v := xs 2) rfl ?_
    refine lv_aload_n hx hb dL_law_1170 rfl (lv_at hl 3 rfl) ?_
    refine lv_iload_n hx hb dL_law_1171 rfl (lv_at hl 0 rfl) ?_
    refine lv_iconst (v := 3) hx hb dL_law_1172 (by decide) ?_
    refine lv_iadd hx hb dL_law_1173 ?_
    refine xw_i (v := 3) (by decide) ?_
    refine va_sld hx hb hX hbl hbA hS (by unfold vp_in; decide) dL_law_1174 ?_
    refine xw_i (v := xs 3) rfl ?_
    have hPc := hP.sub (ws' := [(mo, .inr (12, [.ref m_tape, .int 0, .int 0, .int 0, .int 0, .int 0, .int 0, .int 0, .int 0, .int (-1), .ref m_laws, .ref m_hasLaws, .int 0, .int 0, .ref m_clubOf, .ref m_first, .ref m_last, .ref m_pay, .ref m_rise, .ref m_sure, .ref m_hasChoice, .ref m_isTaken, .ref m_isHurt, .ref m_dead, .ref m_usedSpare, .ref m_owner, .ref m_giver, .ref m_guarded, .ref m_drawnOf, .ref m_drawnTo, .int 0, .int 0, .ref m_table, .int 0, .ref m_moved, .ref m_from, .ref m_to, .ref m_guard, .ref m_worths, .ref m_ringClub, .ref m_ringGives, .int 0, .ref m_triedClub, .ref m_triedGives, .int 0, .int 0, .ref m_toldClub, .ref m_toldGives, .ref m_isOut, .ref m_purse, .int 0])), (m_owner, .inl (k_owner, 80, .inl fO)), (m_guarded, .inl (k_guarded, 80, .inl (fun _ => 0)))]) [4, 5, 6] rfl
    have hKc := hK.sub (tys' := [(k_owner, .int), (k_guarded, .int)]) [2, 3] rfl
    refine vp_callSi (W.runV (As := [.int (xs 1), .int (xs 2), .int (xs 3)]) (rest := [.int (-2)]) ⟨hx, hb, hml, hown, hts⟩ (mX_owner l dC dI ([(mo, .inr (12, [.ref m_tape, .int 0, .int 0, .int 0, .int 0, .int 0, .int 0, .int 0, .int 0, .int (-1), .ref m_laws, .ref m_hasLaws, .int 0, .int 0, .ref m_clubOf, .ref m_first, .ref m_last, .ref m_pay, .ref m_rise, .ref m_sure, .ref m_hasChoice, .ref m_isTaken, .ref m_isHurt, .ref m_dead, .ref m_usedSpare, .ref m_owner, .ref m_giver, .ref m_guarded, .ref m_drawnOf, .ref m_drawnTo, .int 0, .int 0, .ref m_table, .int 0, .ref m_moved, .ref m_from, .ref m_to, .ref m_guard, .ref m_worths, .ref m_ringClub, .ref m_ringGives, .int 0, .ref m_triedClub, .ref m_triedGives, .int 0, .int 0, .ref m_toldClub, .ref m_toldGives, .ref m_isOut, .ref m_purse, .int 0])), (m_owner, .inl (k_owner, 80, .inl fO)), (m_guarded, .inl (k_guarded, 80, .inl (fun _ => 0)))]) ([(k_owner, .int), (k_guarded, .int)]) um1 0 rfl 1 rfl 0 rfl 2 rfl 1 rfl (xs 1) ((xs 1).toInt) rfl (xs 2) ((xs 2).toInt) rfl (xs 3) ((xs 3).toInt) rfl) (cwV 3 hts gL_law_X12_owner rfl rfl rfl (by decide +kernel) ⟨Nat.le_of_ble_eq_true rfl, Nat.le_of_ble_eq_true rfl⟩) ⟨xR_blind _ _ _ _, va_recv hKc hPc (ci := 12) (q0 := 0) rfl rfl, xR_pre _ hE hKc hPc⟩ rfl rfl hl.1 rfl (lv_room (Nat.le_of_ble_eq_true rfl)) dL_law_1175 ⟨Nat.le_of_ble_eq_true rfl, Nat.le_of_ble_eq_true rfl⟩) (fun rh8 h8 => ?_)
    rcases h8 with ⟨rfl, h8⟩ | ⟨rfl, h8⟩ | ⟨rfl, h8⟩
    · skip
      refine lv_icmp_eq (tgt := 1242) hx hb dL_law_1178 (by decide) (fun _ => ?_) (fun h => absurd (by first | rfl | (exfalso; omega)) h)
      refine lv_iinc (v := 8) (lv' := [(3, .int 8), (2, .ref mo), (1, .ref cp), (0, .ref b)]) hx hb dL_law_1242 hl (k := 0) rfl (by decide) (by decide) rfl (fun ls hl => ?_)
      refine lv_goto (tgt := 18) hx hb dL_law_1245 (by decide) ?_
      refine lv_iload_n hx hb dL_law_18 rfl (lv_at hl 0 rfl) ?_
      refine lv_aload_n hx hb dL_law_19 rfl (lv_at hl 3 rfl) ?_
      refine va_slen hx hb hX hbl hbA hS dL_law_20 ?_
      refine xw_i (v := 8) rfl ?_
      refine lv_bipush (v := 8) hx hb dL_law_21 (by decide) ?_
      refine lv_isub hx hb dL_law_23 ?_
      refine xw_i (v := 0) (by decide) ?_
      refine lv_icmp_gt (tgt := 1248) hx hb dL_law_24 (by decide) (fun _ => ?_) (fun h => absurd (by decide) h)
      refine lv_iconst (v := 1) hx hb dL_law_1248 (by decide) ?_
      refine va_forget (fun q hq => by have h9 := hS.2.2 q hq; rw [← hAe] at h9; exact h9) ?_
      refine W.widen (k := 600000) (n := 7302250) (by decide) (by decide) ?_
      exact lw_ret hx hb hr hlocks dL_law_1249
    · skip
      refine lv_icmp_eq (tgt := 1242) hx hb dL_law_1178 (by decide) (fun _ => ?_) (fun h => absurd (by first | rfl | (exfalso; omega)) h)
      refine lv_iinc (v := 8) (lv' := [(3, .int 8), (2, .ref mo), (1, .ref cp), (0, .ref b)]) hx hb dL_law_1242 hl (k := 0) rfl (by decide) (by decide) rfl (fun ls hl => ?_)
      refine lv_goto (tgt := 18) hx hb dL_law_1245 (by decide) ?_
      refine lv_iload_n hx hb dL_law_18 rfl (lv_at hl 0 rfl) ?_
      refine lv_aload_n hx hb dL_law_19 rfl (lv_at hl 3 rfl) ?_
      refine va_slen hx hb hX hbl hbA hS dL_law_20 ?_
      refine xw_i (v := 8) rfl ?_
      refine lv_bipush (v := 8) hx hb dL_law_21 (by decide) ?_
      refine lv_isub hx hb dL_law_23 ?_
      refine xw_i (v := 0) (by decide) ?_
      refine lv_icmp_gt (tgt := 1248) hx hb dL_law_24 (by decide) (fun _ => ?_) (fun h => absurd (by decide) h)
      refine lv_iconst (v := 1) hx hb dL_law_1248 (by decide) ?_
      refine va_forget (fun q hq => by have h9 := hS.2.2 q hq; rw [← hAe] at h9; exact h9) ?_
      refine W.widen (k := 600000) (n := 7302250) (by decide) (by decide) ?_
      exact lw_ret hx hb hr hlocks dL_law_1249
    · skip
      refine lv_icmp_eq (tgt := 1242) hx hb dL_law_1178 (by decide) (fun _ => ?_) (fun h => absurd (by first | rfl | (exfalso; omega)) h)
      refine lv_iinc (v := 8) (lv' := [(3, .int 8), (2, .ref mo), (1, .ref cp), (0, .ref b)]) hx hb dL_law_1242 hl (k := 0) rfl (by decide) (by decide) rfl (fun ls hl => ?_)
      refine lv_goto (tgt := 18) hx hb dL_law_1245 (by decide) ?_
      refine lv_iload_n hx hb dL_law_18 rfl (lv_at hl 0 rfl) ?_
      refine lv_aload_n hx hb dL_law_19 rfl (lv_at hl 3 rfl) ?_
      refine va_slen hx hb hX hbl hbA hS dL_law_20 ?_
      refine xw_i (v := 8) rfl ?_
      refine lv_bipush (v := 8) hx hb dL_law_21 (by decide) ?_
      refine lv_isub hx hb dL_law_23 ?_
      refine xw_i (v := 0) (by decide) ?_
      refine lv_icmp_gt (tgt := 1248) hx hb dL_law_24 (by decide) (fun _ => ?_) (fun h => absurd (by decide) h)
      refine lv_iconst (v := 1) hx hb dL_law_1248 (by decide) ?_
      refine va_forget (fun q hq => by have h9 := hS.2.2 q hq; rw [← hAe] at h9; exact h9) ?_
      refine W.widen (k := 600000) (n := 7302250) (by decide) (by decide) ?_
      exact lw_ret hx hb hr hlocks dL_law_1249
set_option maxHeartbeats 8000000 in
set_option maxRecDepth 100000 in
theorem law_28 {p : Program} {l : Launch} {e : Env} {s : State} {m : MethodId} {below : List Frame} {meth : Method} {c : Code} {dC : Nat → ClassId} {dI : Nat → Nat → Nat} {b : Nat} {xs : Nat → Int32} (C0 : lw_At p s m meth c b 8 xs) {A : Nat → Prop} (hAe : (fun q : Nat => s.heap.size ≤ q) = A) {tU : Nat} (hU : xU tU A s s.heap) (cp tp lb rd bk tn td rg dr pl de su fi ac ra dn od hv mo m_tape m_laws m_hasLaws m_clubOf m_first m_last m_pay m_rise m_sure m_hasChoice m_isTaken m_isHurt m_dead m_usedSpare m_owner m_giver m_guarded m_drawnOf m_drawnTo m_table m_moved m_from m_to m_guard m_worths m_ringClub m_ringGives m_triedClub m_triedGives m_toldClub m_toldGives m_isOut m_purse : Nat) (k_dn : ClassId)   (hK : va_K (dC, dI) vwCl [(k_dn, .boolean)] s) (H : Heap) (locs : List Loc) (hP : va_P (dC, dI) vwCl [(cp, .inr (11, [.ref tp, .ref lb, .ref rd, .ref bk, .ref tn, .ref td, .ref rg, .ref dr])), (bk, .inr (0, [.ref lb, .ref pl, .int 0, .int 0, .ref de, .ref su, .ref fi, .int 0, .ref ac])), (dr, .inr (2, [.ref ra, .int 0, .ref dn, .ref od, .ref hv, .long 0, .long 1])), (dn, .inl (k_dn, 10, .inl (fun _ => 0))), (mo, .inr (12, [.ref m_tape, .int 0, .int 0, .int 0, .int 0, .int 0, .int 0, .int 0, .int 0, .int (-1), .ref m_laws, .ref m_hasLaws, .int 0, .int 0, .ref m_clubOf, .ref m_first, .ref m_last, .ref m_pay, .ref m_rise, .ref m_sure, .ref m_hasChoice, .ref m_isTaken, .ref m_isHurt, .ref m_dead, .ref m_usedSpare, .ref m_owner, .ref m_giver, .ref m_guarded, .ref m_drawnOf, .ref m_drawnTo, .int 0, .int 0, .ref m_table, .int 0, .ref m_moved, .ref m_from, .ref m_to, .ref m_guard, .ref m_worths, .ref m_ringClub, .ref m_ringGives, .int 0, .ref m_triedClub, .ref m_triedGives, .int 0, .int 0, .ref m_toldClub, .ref m_toldGives, .ref m_isOut, .ref m_purse, .int 0]))] H) (hD : va_D A [(cp, .inr (11, [.ref tp, .ref lb, .ref rd, .ref bk, .ref tn, .ref td, .ref rg, .ref dr])), (bk, .inr (0, [.ref lb, .ref pl, .int 0, .int 0, .ref de, .ref su, .ref fi, .int 0, .ref ac])), (dr, .inr (2, [.ref ra, .int 0, .ref dn, .ref od, .ref hv, .long 0, .long 1])), (dn, .inl (k_dn, 10, .inl (fun _ => 0))), (mo, .inr (12, [.ref m_tape, .int 0, .int 0, .int 0, .int 0, .int 0, .int 0, .int 0, .int 0, .int (-1), .ref m_laws, .ref m_hasLaws, .int 0, .int 0, .ref m_clubOf, .ref m_first, .ref m_last, .ref m_pay, .ref m_rise, .ref m_sure, .ref m_hasChoice, .ref m_isTaken, .ref m_isHurt, .ref m_dead, .ref m_usedSpare, .ref m_owner, .ref m_giver, .ref m_guarded, .ref m_drawnOf, .ref m_drawnTo, .int 0, .int 0, .ref m_table, .int 0, .ref m_moved, .ref m_from, .ref m_to, .ref m_guard, .ref m_worths, .ref m_ringClub, .ref m_ringGives, .int 0, .ref m_triedClub, .ref m_triedGives, .int 0, .int 0, .ref m_toldClub, .ref m_toldGives, .ref m_isOut, .ref m_purse, .int 0]))]) (hS : va_S A s.heap H locs) (ls : Array Slot) (hl : lv_has ls 4 [(3, .int 0), (2, .ref mo), (1, .ref cp), (0, .ref b)]) : W p l e room_1 s m #[Value.ref b] below meth c H locs 178 9908 (lw_Z below #[Value.ref b] s) (F0 m 1183 ls []) := by
  obtain ⟨hx, hb, hr, hml, hown, hts0, hX, hbl, hlocks, hgv⟩ := id C0
  have hE := xs_E hts0
  have hts : ∀ w ∈ wsL_law, w.before #[Value.ref b] s = true := fun w h => hts0 w (wsL_law_in w h)
  have hA : ∀ q : Nat, s.heap.size ≤ q → A q := fun q h => by rw [← hAe]; exact h
  have hbA : ¬ A b := by rw [← hAe]; exact Nat.not_le.mpr hbl
  have lo0 := xi_lo (xs 0)
  have hi0 := xi_hi (xs 0)
  have lo1 := xi_lo (xs 1)
  have hi1 := xi_hi (xs 1)
  have lo2 := xi_lo (xs 2)
  have hi2 := xi_hi (xs 2)
  have lo3 := xi_lo (xs 3)
  have hi3 := xi_hi (xs 3)
  have lo4 := xi_lo (xs 4)
  have hi4 := xi_hi (xs 4)
  have lo5 := xi_lo (xs 5)
  have hi5 := xi_hi (xs 5)
  have lo6 := xi_lo (xs 6)
  have hi6 := xi_hi (xs 6)
  have lo7 := xi_lo (xs 7)
  have hi7 := xi_hi (xs 7)
  refine lv_aload_n hx hb dL_law_1183 rfl (lv_at hl 2 rfl) ?_
  have hPc := hP.sub (ws' := [(cp, .inr (11, [.ref tp, .ref lb, .ref rd, .ref bk, .ref tn, .ref td, .ref rg, .ref dr])), (bk, .inr (0, [.ref lb, .ref pl, .int 0, .int 0, .ref de, .ref su, .ref fi, .int 0, .ref ac])), (dr, .inr (2, [.ref ra, .int 0, .ref dn, .ref od, .ref hv, .long 0, .long 1])), (dn, .inl (k_dn, 10, .inl (fun _ => 0)))]) [0, 1, 2, 3] rfl
  have hKc := hK.sub (tys' := [(k_dn, .boolean)]) [0] rfl
  refine vp_callSi (W.runV (As := []) (rest := []) ⟨hx, hb, hml, hown, hts⟩ (aX_next l dC dI ([(cp, .inr (11, [.ref tp, .ref lb, .ref rd, .ref bk, .ref tn, .ref td, .ref rg, .ref dr])), (bk, .inr (0, [.ref lb, .ref pl, .int 0, .int 0, .ref de, .ref su, .ref fi, .int 0, .ref ac])), (dr, .inr (2, [.ref ra, .int 0, .ref dn, .ref od, .ref hv, .long 0, .long 1])), (dn, .inl (k_dn, 10, .inl (fun _ => 0)))]) ([(k_dn, .boolean)]) 0 rfl 1 rfl 2 rfl 3 rfl 0 rfl) (cwV 0 hts gL_law_X11_next rfl rfl rfl (by decide +kernel) ⟨Nat.le_of_ble_eq_true rfl, Nat.le_of_ble_eq_true rfl⟩) ⟨xR_blind _ _ _ _, va_recv hKc hPc (ci := 11) (q0 := 0) rfl rfl, xR_pre _ hE hKc hPc⟩ rfl rfl hl.1 rfl (lv_room (Nat.le_of_ble_eq_true rfl)) dL_law_1184 ⟨Nat.le_of_ble_eq_true rfl, Nat.le_of_ble_eq_true rfl⟩) (fun rh1 h1 => ?_)
  obtain ⟨rfl, h1⟩ := h1
  refine lv_aload_n hx hb dL_law_1187 rfl (lv_at hl 1 rfl) ?_
  have hPc := hP.sub (ws' := [(mo, .inr (12, [.ref m_tape, .int 0, .int 0, .int 0, .int 0, .int 0, .int 0, .int 0, .int 0, .int (-1), .ref m_laws, .ref m_hasLaws, .int 0, .int 0, .ref m_clubOf, .ref m_first, .ref m_last, .ref m_pay, .ref m_rise, .ref m_sure, .ref m_hasChoice, .ref m_isTaken, .ref m_isHurt, .ref m_dead, .ref m_usedSpare, .ref m_owner, .ref m_giver, .ref m_guarded, .ref m_drawnOf, .ref m_drawnTo, .int 0, .int 0, .ref m_table, .int 0, .ref m_moved, .ref m_from, .ref m_to, .ref m_guard, .ref m_worths, .ref m_ringClub, .ref m_ringGives, .int 0, .ref m_triedClub, .ref m_triedGives, .int 0, .int 0, .ref m_toldClub, .ref m_toldGives, .ref m_isOut, .ref m_purse, .int 0]))]) [4] rfl
  have hKc := hK.sub (tys' := []) [] rfl
  refine vp_callSi (W.runV (As := []) (rest := [.int (-4)]) ⟨hx, hb, hml, hown, hts⟩ (mX_next l dC dI ([(mo, .inr (12, [.ref m_tape, .int 0, .int 0, .int 0, .int 0, .int 0, .int 0, .int 0, .int 0, .int (-1), .ref m_laws, .ref m_hasLaws, .int 0, .int 0, .ref m_clubOf, .ref m_first, .ref m_last, .ref m_pay, .ref m_rise, .ref m_sure, .ref m_hasChoice, .ref m_isTaken, .ref m_isHurt, .ref m_dead, .ref m_usedSpare, .ref m_owner, .ref m_giver, .ref m_guarded, .ref m_drawnOf, .ref m_drawnTo, .int 0, .int 0, .ref m_table, .int 0, .ref m_moved, .ref m_from, .ref m_to, .ref m_guard, .ref m_worths, .ref m_ringClub, .ref m_ringGives, .int 0, .ref m_triedClub, .ref m_triedGives, .int 0, .int 0, .ref m_toldClub, .ref m_toldGives, .ref m_isOut, .ref m_purse, .int 0]))]) ([]) 0 rfl) (cwV 0 hts gL_law_X12_next rfl rfl rfl (by decide +kernel) ⟨Nat.le_of_ble_eq_true rfl, Nat.le_of_ble_eq_true rfl⟩) ⟨xR_blind _ _ _ _, va_recv hKc hPc (ci := 12) (q0 := 0) rfl rfl, xR_pre _ hE hKc hPc⟩ rfl rfl hl.1 rfl (lv_room (Nat.le_of_ble_eq_true rfl)) dL_law_1188 ⟨Nat.le_of_ble_eq_true rfl, Nat.le_of_ble_eq_true rfl⟩) (fun rh2 h2 => ?_)
  obtain ⟨rfl, h2⟩ := h2
  refine lv_icmp_eq (tgt := 1242) hx hb dL_law_1191 (by decide) (fun _ => ?_) (fun h => absurd (by first | rfl | (exfalso; omega)) h)
  refine lv_iinc (v := 8) (lv' := [(3, .int 8), (2, .ref mo), (1, .ref cp), (0, .ref b)]) hx hb dL_law_1242 hl (k := 0) rfl (by decide) (by decide) rfl (fun ls hl => ?_)
  refine lv_goto (tgt := 18) hx hb dL_law_1245 (by decide) ?_
  refine lv_iload_n hx hb dL_law_18 rfl (lv_at hl 0 rfl) ?_
  refine lv_aload_n hx hb dL_law_19 rfl (lv_at hl 3 rfl) ?_
  refine va_slen hx hb hX hbl hbA hS dL_law_20 ?_
  refine xw_i (v := 8) rfl ?_
  refine lv_bipush (v := 8) hx hb dL_law_21 (by decide) ?_
  refine lv_isub hx hb dL_law_23 ?_
  refine xw_i (v := 0) (by decide) ?_
  refine lv_icmp_gt (tgt := 1248) hx hb dL_law_24 (by decide) (fun _ => ?_) (fun h => absurd (by decide) h)
  refine lv_iconst (v := 1) hx hb dL_law_1248 (by decide) ?_
  refine va_forget (fun q hq => by have h9 := hS.2.2 q hq; rw [← hAe] at h9; exact h9) ?_
  refine W.widen (k := 600000) (n := 7302250) (by decide) (by decide) ?_
  exact lw_ret hx hb hr hlocks dL_law_1249
set_option maxHeartbeats 8000000 in
set_option maxRecDepth 100000 in
theorem law_29 {p : Program} {l : Launch} {e : Env} {s : State} {m : MethodId} {below : List Frame} {meth : Method} {c : Code} {dC : Nat → ClassId} {dI : Nat → Nat → Nat} {b : Nat} {xs : Nat → Int32} (C0 : lw_At p s m meth c b 8 xs) {A : Nat → Prop} (hAe : (fun q : Nat => s.heap.size ≤ q) = A) {tU : Nat} (hU : xU tU A s s.heap) (cp tp lb rd bk tn td rg dr pl de su fi ac mo m_tape m_laws m_hasLaws m_clubOf m_first m_last m_pay m_rise m_sure m_hasChoice m_isTaken m_isHurt m_dead m_usedSpare m_owner m_giver m_guarded m_drawnOf m_drawnTo m_table m_moved m_from m_to m_guard m_worths m_ringClub m_ringGives m_triedClub m_triedGives m_toldClub m_toldGives m_isOut m_purse : Nat) (k_fi k_purse : ClassId)   (hK : va_K (dC, dI) vwCl [(k_fi, .int), (k_purse, .int)] s) (H : Heap) (locs : List Loc) (hP : va_P (dC, dI) vwCl [(cp, .inr (11, [.ref tp, .ref lb, .ref rd, .ref bk, .ref tn, .ref td, .ref rg, .ref dr])), (bk, .inr (0, [.ref lb, .ref pl, .int 0, .int 0, .ref de, .ref su, .ref fi, .int 0, .ref ac])), (fi, .inl (k_fi, 8, .inl (fun _ => 0))), (mo, .inr (12, [.ref m_tape, .int 0, .int 0, .int 0, .int 0, .int 0, .int 0, .int 0, .int 0, .int (-1), .ref m_laws, .ref m_hasLaws, .int 0, .int 0, .ref m_clubOf, .ref m_first, .ref m_last, .ref m_pay, .ref m_rise, .ref m_sure, .ref m_hasChoice, .ref m_isTaken, .ref m_isHurt, .ref m_dead, .ref m_usedSpare, .ref m_owner, .ref m_giver, .ref m_guarded, .ref m_drawnOf, .ref m_drawnTo, .int 0, .int 0, .ref m_table, .int 0, .ref m_moved, .ref m_from, .ref m_to, .ref m_guard, .ref m_worths, .ref m_ringClub, .ref m_ringGives, .int 0, .ref m_triedClub, .ref m_triedGives, .int 0, .int 0, .ref m_toldClub, .ref m_toldGives, .ref m_isOut, .ref m_purse, .int 0])), (m_purse, .inl (k_purse, 8, .inl (fun _ => 0)))] H) (hD : va_D A [(cp, .inr (11, [.ref tp, .ref lb, .ref rd, .ref bk, .ref tn, .ref td, .ref rg, .ref dr])), (bk, .inr (0, [.ref lb, .ref pl, .int 0, .int 0, .ref de, .ref su, .ref fi, .int 0, .ref ac])), (fi, .inl (k_fi, 8, .inl (fun _ => 0))), (mo, .inr (12, [.ref m_tape, .int 0, .int 0, .int 0, .int 0, .int 0, .int 0, .int 0, .int 0, .int (-1), .ref m_laws, .ref m_hasLaws, .int 0, .int 0, .ref m_clubOf, .ref m_first, .ref m_last, .ref m_pay, .ref m_rise, .ref m_sure, .ref m_hasChoice, .ref m_isTaken, .ref m_isHurt, .ref m_dead, .ref m_usedSpare, .ref m_owner, .ref m_giver, .ref m_guarded, .ref m_drawnOf, .ref m_drawnTo, .int 0, .int 0, .ref m_table, .int 0, .ref m_moved, .ref m_from, .ref m_to, .ref m_guard, .ref m_worths, .ref m_ringClub, .ref m_ringGives, .int 0, .ref m_triedClub, .ref m_triedGives, .int 0, .int 0, .ref m_toldClub, .ref m_toldGives, .ref m_isOut, .ref m_purse, .int 0])), (m_purse, .inl (k_purse, 8, .inl (fun _ => 0)))]) (hS : va_S A s.heap H locs) (ls : Array Slot) (hl : lv_has ls 4 [(3, .int 0), (2, .ref mo), (1, .ref cp), (0, .ref b)]) : W p l e room_1 s m #[Value.ref b] below meth c H locs 178 9908 (lw_Z below #[Value.ref b] s) (F0 m 1196 ls []) := by
  obtain ⟨hx, hb, hr, hml, hown, hts0, hX, hbl, hlocks, hgv⟩ := id C0
  have hE := xs_E hts0
  have hts : ∀ w ∈ wsL_law, w.before #[Value.ref b] s = true := fun w h => hts0 w (wsL_law_in w h)
  have hA : ∀ q : Nat, s.heap.size ≤ q → A q := fun q h => by rw [← hAe]; exact h
  have hbA : ¬ A b := by rw [← hAe]; exact Nat.not_le.mpr hbl
  have lo0 := xi_lo (xs 0)
  have hi0 := xi_hi (xs 0)
  have lo1 := xi_lo (xs 1)
  have hi1 := xi_hi (xs 1)
  have lo2 := xi_lo (xs 2)
  have hi2 := xi_hi (xs 2)
  have lo3 := xi_lo (xs 3)
  have hi3 := xi_hi (xs 3)
  have lo4 := xi_lo (xs 4)
  have hi4 := xi_hi (xs 4)
  have lo5 := xi_lo (xs 5)
  have hi5 := xi_hi (xs 5)
  have lo6 := xi_lo (xs 6)
  have hi6 := xi_hi (xs 6)
  have lo7 := xi_lo (xs 7)
  have hi7 := xi_hi (xs 7)
  refine lv_aload_n hx hb dL_law_1196 rfl (lv_at hl 2 rfl) ?_
  refine lv_aload_n hx hb dL_law_1197 rfl (lv_at hl 3 rfl) ?_
  refine lv_iload_n hx hb dL_law_1198 rfl (lv_at hl 0 rfl) ?_
  refine lv_iconst (v := 1) hx hb dL_law_1199 (by decide) ?_
  refine lv_iadd hx hb dL_law_1200 ?_
  refine xw_i (v := 1) (by decide) ?_
  refine va_sld hx hb hX hbl hbA hS (by unfold vp_in; decide) dL_law_1201 ?_
  refine xw_i (v := xs 1) rfl ?_
  have hPc := hP.sub (ws' := [(cp, .inr (11, [.ref tp, .ref lb, .ref rd, .ref bk, .ref tn, .ref td, .ref rg, .ref dr])), (bk, .inr (0, [.ref lb, .ref pl, .int 0, .int 0, .ref de, .ref su, .ref fi, .int 0, .ref ac])), (fi, .inl (k_fi, 8, .inl (fun _ => 0)))]) [0, 1, 2] rfl
  have hKc := hK.sub (tys' := [(k_fi, .int)]) [0] rfl
  refine vp_callSi (W.runV (As := [.int (xs 1)]) (rest := []) ⟨hx, hb, hml, hown, hts⟩ (aX_purse l dC dI ([(cp, .inr (11, [.ref tp, .ref lb, .ref rd, .ref bk, .ref tn, .ref td, .ref rg, .ref dr])), (bk, .inr (0, [.ref lb, .ref pl, .int 0, .int 0, .ref de, .ref su, .ref fi, .int 0, .ref ac])), (fi, .inl (k_fi, 8, .inl (fun _ => 0)))]) ([(k_fi, .int)]) 0 rfl 1 rfl 2 rfl 0 rfl (xs 1) ((xs 1).toInt) rfl) (cwV 1 hts gL_law_X11_purse rfl rfl rfl (by decide +kernel) ⟨Nat.le_of_ble_eq_true rfl, Nat.le_of_ble_eq_true rfl⟩) ⟨xR_blind _ _ _ _, va_recv hKc hPc (ci := 11) (q0 := 0) rfl rfl, xR_pre _ hE hKc hPc⟩ rfl rfl hl.1 rfl (lv_room (Nat.le_of_ble_eq_true rfl)) dL_law_1202 ⟨Nat.le_of_ble_eq_true rfl, Nat.le_of_ble_eq_true rfl⟩) (fun rh1 h1 => ?_)
  rcases h1 with ⟨rfl, h1⟩ | ⟨rfl, h1⟩
  · skip
    refine lv_aload_n hx hb dL_law_1205 rfl (lv_at hl 1 rfl) ?_
    refine lv_aload_n hx hb dL_law_1206 rfl (lv_at hl 3 rfl) ?_
    refine lv_iload_n hx hb dL_law_1207 rfl (lv_at hl 0 rfl) ?_
    refine lv_iconst (v := 1) hx hb dL_law_1208 (by decide) ?_
    refine lv_iadd hx hb dL_law_1209 ?_
    refine xw_i (v := 1) (by decide) ?_
    refine va_sld hx hb hX hbl hbA hS (by unfold vp_in; decide) dL_law_1210 ?_
    refine xw_i (v := xs 1) rfl ?_
    have hPc := hP.sub (ws' := [(mo, .inr (12, [.ref m_tape, .int 0, .int 0, .int 0, .int 0, .int 0, .int 0, .int 0, .int 0, .int (-1), .ref m_laws, .ref m_hasLaws, .int 0, .int 0, .ref m_clubOf, .ref m_first, .ref m_last, .ref m_pay, .ref m_rise, .ref m_sure, .ref m_hasChoice, .ref m_isTaken, .ref m_isHurt, .ref m_dead, .ref m_usedSpare, .ref m_owner, .ref m_giver, .ref m_guarded, .ref m_drawnOf, .ref m_drawnTo, .int 0, .int 0, .ref m_table, .int 0, .ref m_moved, .ref m_from, .ref m_to, .ref m_guard, .ref m_worths, .ref m_ringClub, .ref m_ringGives, .int 0, .ref m_triedClub, .ref m_triedGives, .int 0, .int 0, .ref m_toldClub, .ref m_toldGives, .ref m_isOut, .ref m_purse, .int 0])), (m_purse, .inl (k_purse, 8, .inl (fun _ => 0)))]) [3, 4] rfl
    have hKc := hK.sub (tys' := [(k_purse, .int)]) [1] rfl
    refine vp_callSi (W.runV (As := [.int (xs 1)]) (rest := [.int 0]) ⟨hx, hb, hml, hown, hts⟩ (mX_purse l dC dI ([(mo, .inr (12, [.ref m_tape, .int 0, .int 0, .int 0, .int 0, .int 0, .int 0, .int 0, .int 0, .int (-1), .ref m_laws, .ref m_hasLaws, .int 0, .int 0, .ref m_clubOf, .ref m_first, .ref m_last, .ref m_pay, .ref m_rise, .ref m_sure, .ref m_hasChoice, .ref m_isTaken, .ref m_isHurt, .ref m_dead, .ref m_usedSpare, .ref m_owner, .ref m_giver, .ref m_guarded, .ref m_drawnOf, .ref m_drawnTo, .int 0, .int 0, .ref m_table, .int 0, .ref m_moved, .ref m_from, .ref m_to, .ref m_guard, .ref m_worths, .ref m_ringClub, .ref m_ringGives, .int 0, .ref m_triedClub, .ref m_triedGives, .int 0, .int 0, .ref m_toldClub, .ref m_toldGives, .ref m_isOut, .ref m_purse, .int 0])), (m_purse, .inl (k_purse, 8, .inl (fun _ => 0)))]) ([(k_purse, .int)]) 0 rfl 1 rfl 0 rfl (xs 1) ((xs 1).toInt) rfl) (cwV 1 hts gL_law_X12_purse rfl rfl rfl (by decide +kernel) ⟨Nat.le_of_ble_eq_true rfl, Nat.le_of_ble_eq_true rfl⟩) ⟨xR_blind _ _ _ _, va_recv hKc hPc (ci := 12) (q0 := 0) rfl rfl, xR_pre _ hE hKc hPc⟩ rfl rfl hl.1 rfl (lv_room (Nat.le_of_ble_eq_true rfl)) dL_law_1211 ⟨Nat.le_of_ble_eq_true rfl, Nat.le_of_ble_eq_true rfl⟩) (fun rh2 h2 => ?_)
    rcases h2 with ⟨rfl, h2⟩ | ⟨rfl, h2⟩
    · skip
      refine lv_icmp_eq (tgt := 1242) hx hb dL_law_1214 (by decide) (fun _ => ?_) (fun h => absurd (by first | rfl | (exfalso; omega)) h)
      refine lv_iinc (v := 8) (lv' := [(3, .int 8), (2, .ref mo), (1, .ref cp), (0, .ref b)]) hx hb dL_law_1242 hl (k := 0) rfl (by decide) (by decide) rfl (fun ls hl => ?_)
      refine lv_goto (tgt := 18) hx hb dL_law_1245 (by decide) ?_
      refine lv_iload_n hx hb dL_law_18 rfl (lv_at hl 0 rfl) ?_
      refine lv_aload_n hx hb dL_law_19 rfl (lv_at hl 3 rfl) ?_
      refine va_slen hx hb hX hbl hbA hS dL_law_20 ?_
      refine xw_i (v := 8) rfl ?_
      refine lv_bipush (v := 8) hx hb dL_law_21 (by decide) ?_
      refine lv_isub hx hb dL_law_23 ?_
      refine xw_i (v := 0) (by decide) ?_
      refine lv_icmp_gt (tgt := 1248) hx hb dL_law_24 (by decide) (fun _ => ?_) (fun h => absurd (by decide) h)
      refine lv_iconst (v := 1) hx hb dL_law_1248 (by decide) ?_
      refine va_forget (fun q hq => by have h9 := hS.2.2 q hq; rw [← hAe] at h9; exact h9) ?_
      refine W.widen (k := 600000) (n := 7302250) (by decide) (by decide) ?_
      exact lw_ret hx hb hr hlocks dL_law_1249
    · skip
      refine lv_icmp_eq (tgt := 1242) hx hb dL_law_1214 (by decide) (fun _ => ?_) (fun h => absurd (by first | rfl | (exfalso; omega)) h)
      refine lv_iinc (v := 8) (lv' := [(3, .int 8), (2, .ref mo), (1, .ref cp), (0, .ref b)]) hx hb dL_law_1242 hl (k := 0) rfl (by decide) (by decide) rfl (fun ls hl => ?_)
      refine lv_goto (tgt := 18) hx hb dL_law_1245 (by decide) ?_
      refine lv_iload_n hx hb dL_law_18 rfl (lv_at hl 0 rfl) ?_
      refine lv_aload_n hx hb dL_law_19 rfl (lv_at hl 3 rfl) ?_
      refine va_slen hx hb hX hbl hbA hS dL_law_20 ?_
      refine xw_i (v := 8) rfl ?_
      refine lv_bipush (v := 8) hx hb dL_law_21 (by decide) ?_
      refine lv_isub hx hb dL_law_23 ?_
      refine xw_i (v := 0) (by decide) ?_
      refine lv_icmp_gt (tgt := 1248) hx hb dL_law_24 (by decide) (fun _ => ?_) (fun h => absurd (by decide) h)
      refine lv_iconst (v := 1) hx hb dL_law_1248 (by decide) ?_
      refine va_forget (fun q hq => by have h9 := hS.2.2 q hq; rw [← hAe] at h9; exact h9) ?_
      refine W.widen (k := 600000) (n := 7302250) (by decide) (by decide) ?_
      exact lw_ret hx hb hr hlocks dL_law_1249
  · skip
    refine lv_aload_n hx hb dL_law_1205 rfl (lv_at hl 1 rfl) ?_
    refine lv_aload_n hx hb dL_law_1206 rfl (lv_at hl 3 rfl) ?_
    refine lv_iload_n hx hb dL_law_1207 rfl (lv_at hl 0 rfl) ?_
    refine lv_iconst (v := 1) hx hb dL_law_1208 (by decide) ?_
    refine lv_iadd hx hb dL_law_1209 ?_
    refine xw_i (v := 1) (by decide) ?_
    refine va_sld hx hb hX hbl hbA hS (by unfold vp_in; decide) dL_law_1210 ?_
    refine xw_i (v := xs 1) rfl ?_
    have hPc := hP.sub (ws' := [(mo, .inr (12, [.ref m_tape, .int 0, .int 0, .int 0, .int 0, .int 0, .int 0, .int 0, .int 0, .int (-1), .ref m_laws, .ref m_hasLaws, .int 0, .int 0, .ref m_clubOf, .ref m_first, .ref m_last, .ref m_pay, .ref m_rise, .ref m_sure, .ref m_hasChoice, .ref m_isTaken, .ref m_isHurt, .ref m_dead, .ref m_usedSpare, .ref m_owner, .ref m_giver, .ref m_guarded, .ref m_drawnOf, .ref m_drawnTo, .int 0, .int 0, .ref m_table, .int 0, .ref m_moved, .ref m_from, .ref m_to, .ref m_guard, .ref m_worths, .ref m_ringClub, .ref m_ringGives, .int 0, .ref m_triedClub, .ref m_triedGives, .int 0, .int 0, .ref m_toldClub, .ref m_toldGives, .ref m_isOut, .ref m_purse, .int 0])), (m_purse, .inl (k_purse, 8, .inl (fun _ => 0)))]) [3, 4] rfl
    have hKc := hK.sub (tys' := [(k_purse, .int)]) [1] rfl
    refine vp_callSi (W.runV (As := [.int (xs 1)]) (rest := [.int (-2000000000)]) ⟨hx, hb, hml, hown, hts⟩ (mX_purse l dC dI ([(mo, .inr (12, [.ref m_tape, .int 0, .int 0, .int 0, .int 0, .int 0, .int 0, .int 0, .int 0, .int (-1), .ref m_laws, .ref m_hasLaws, .int 0, .int 0, .ref m_clubOf, .ref m_first, .ref m_last, .ref m_pay, .ref m_rise, .ref m_sure, .ref m_hasChoice, .ref m_isTaken, .ref m_isHurt, .ref m_dead, .ref m_usedSpare, .ref m_owner, .ref m_giver, .ref m_guarded, .ref m_drawnOf, .ref m_drawnTo, .int 0, .int 0, .ref m_table, .int 0, .ref m_moved, .ref m_from, .ref m_to, .ref m_guard, .ref m_worths, .ref m_ringClub, .ref m_ringGives, .int 0, .ref m_triedClub, .ref m_triedGives, .int 0, .int 0, .ref m_toldClub, .ref m_toldGives, .ref m_isOut, .ref m_purse, .int 0])), (m_purse, .inl (k_purse, 8, .inl (fun _ => 0)))]) ([(k_purse, .int)]) 0 rfl 1 rfl 0 rfl (xs 1) ((xs 1).toInt) rfl) (cwV 1 hts gL_law_X12_purse rfl rfl rfl (by decide +kernel) ⟨Nat.le_of_ble_eq_true rfl, Nat.le_of_ble_eq_true rfl⟩) ⟨xR_blind _ _ _ _, va_recv hKc hPc (ci := 12) (q0 := 0) rfl rfl, xR_pre _ hE hKc hPc⟩ rfl rfl hl.1 rfl (lv_room (Nat.le_of_ble_eq_true rfl)) dL_law_1211 ⟨Nat.le_of_ble_eq_true rfl, Nat.le_of_ble_eq_true rfl⟩) (fun rh5 h5 => ?_)
    rcases h5 with ⟨rfl, h5⟩ | ⟨rfl, h5⟩
    · skip
      refine lv_icmp_eq (tgt := 1242) hx hb dL_law_1214 (by decide) (fun _ => ?_) (fun h => absurd (by first | rfl | (exfalso; omega)) h)
      refine lv_iinc (v := 8) (lv' := [(3, .int 8), (2, .ref mo), (1, .ref cp), (0, .ref b)]) hx hb dL_law_1242 hl (k := 0) rfl (by decide) (by decide) rfl (fun ls hl => ?_)
      refine lv_goto (tgt := 18) hx hb dL_law_1245 (by decide) ?_
      refine lv_iload_n hx hb dL_law_18 rfl (lv_at hl 0 rfl) ?_
      refine lv_aload_n hx hb dL_law_19 rfl (lv_at hl 3 rfl) ?_
      refine va_slen hx hb hX hbl hbA hS dL_law_20 ?_
      refine xw_i (v := 8) rfl ?_
      refine lv_bipush (v := 8) hx hb dL_law_21 (by decide) ?_
      refine lv_isub hx hb dL_law_23 ?_
      refine xw_i (v := 0) (by decide) ?_
      refine lv_icmp_gt (tgt := 1248) hx hb dL_law_24 (by decide) (fun _ => ?_) (fun h => absurd (by decide) h)
      refine lv_iconst (v := 1) hx hb dL_law_1248 (by decide) ?_
      refine va_forget (fun q hq => by have h9 := hS.2.2 q hq; rw [← hAe] at h9; exact h9) ?_
      refine W.widen (k := 600000) (n := 7302250) (by decide) (by decide) ?_
      exact lw_ret hx hb hr hlocks dL_law_1249
    · skip
      refine lv_icmp_eq (tgt := 1242) hx hb dL_law_1214 (by decide) (fun _ => ?_) (fun h => absurd (by first | rfl | (exfalso; omega)) h)
      refine lv_iinc (v := 8) (lv' := [(3, .int 8), (2, .ref mo), (1, .ref cp), (0, .ref b)]) hx hb dL_law_1242 hl (k := 0) rfl (by decide) (by decide) rfl (fun ls hl => ?_)
      refine lv_goto (tgt := 18) hx hb dL_law_1245 (by decide) ?_
      refine lv_iload_n hx hb dL_law_18 rfl (lv_at hl 0 rfl) ?_
      refine lv_aload_n hx hb dL_law_19 rfl (lv_at hl 3 rfl) ?_
      refine va_slen hx hb hX hbl hbA hS dL_law_20 ?_
      refine xw_i (v := 8) rfl ?_
      refine lv_bipush (v := 8) hx hb dL_law_21 (by decide) ?_
      refine lv_isub hx hb dL_law_23 ?_
      refine xw_i (v := 0) (by decide) ?_
      refine lv_icmp_gt (tgt := 1248) hx hb dL_law_24 (by decide) (fun _ => ?_) (fun h => absurd (by decide) h)
      refine lv_iconst (v := 1) hx hb dL_law_1248 (by decide) ?_
      refine va_forget (fun q hq => by have h9 := hS.2.2 q hq; rw [← hAe] at h9; exact h9) ?_
      refine W.widen (k := 600000) (n := 7302250) (by decide) (by decide) ?_
      exact lw_ret hx hb hr hlocks dL_law_1249
set_option maxHeartbeats 8000000 in
set_option maxRecDepth 100000 in
theorem law_30 {p : Program} {l : Launch} {e : Env} {s : State} {m : MethodId} {below : List Frame} {meth : Method} {c : Code} {dC : Nat → ClassId} {dI : Nat → Nat → Nat} {b : Nat} {xs : Nat → Int32} (C0 : lw_At p s m meth c b 8 xs) {A : Nat → Prop} (hAe : (fun q : Nat => s.heap.size ≤ q) = A) {tU : Nat} (hU : xU tU A s s.heap) (cp tp lb rd bk tn td rg dr by_ pl de su fi ac cg tt th tf to ts ra dn od hv mo m_tape m_laws m_hasLaws m_clubOf m_first m_last m_pay m_rise m_sure m_hasChoice m_isTaken m_isHurt m_dead m_usedSpare m_owner m_giver m_guarded m_drawnOf m_drawnTo m_table m_moved m_from m_to m_guard m_worths m_ringClub m_ringGives m_triedClub m_triedGives m_toldClub m_toldGives m_isOut m_purse : Nat) (k_dn : ClassId)   (hK : va_K (dC, dI) vwCl [(k_dn, .boolean)] s) (H : Heap) (locs : List Loc) (hP : va_P (dC, dI) vwCl [(cp, .inr (11, [.ref tp, .ref lb, .ref rd, .ref bk, .ref tn, .ref td, .ref rg, .ref dr])), (tp, .inr (8, [.ref by_, .int 0])), (bk, .inr (0, [.ref lb, .ref pl, .int 0, .int 0, .ref de, .ref su, .ref fi, .int 0, .ref ac])), (td, .inr (9, [.ref bk, .ref tn, .ref cg, .int 0, .int 0, .ref tt, .ref th, .ref tf, .ref to, .ref ts])), (dr, .inr (2, [.ref ra, .int 0, .ref dn, .ref od, .ref hv, .long 0, .long 1])), (dn, .inl (k_dn, 10, .inl (fun _ => 0))), (mo, .inr (12, [.ref m_tape, .int 0, .int 0, .int 0, .int 0, .int 0, .int 0, .int 0, .int 0, .int (-1), .ref m_laws, .ref m_hasLaws, .int 0, .int 0, .ref m_clubOf, .ref m_first, .ref m_last, .ref m_pay, .ref m_rise, .ref m_sure, .ref m_hasChoice, .ref m_isTaken, .ref m_isHurt, .ref m_dead, .ref m_usedSpare, .ref m_owner, .ref m_giver, .ref m_guarded, .ref m_drawnOf, .ref m_drawnTo, .int 0, .int 0, .ref m_table, .int 0, .ref m_moved, .ref m_from, .ref m_to, .ref m_guard, .ref m_worths, .ref m_ringClub, .ref m_ringGives, .int 0, .ref m_triedClub, .ref m_triedGives, .int 0, .int 0, .ref m_toldClub, .ref m_toldGives, .ref m_isOut, .ref m_purse, .int 0]))] H) (hD : va_D A [(cp, .inr (11, [.ref tp, .ref lb, .ref rd, .ref bk, .ref tn, .ref td, .ref rg, .ref dr])), (tp, .inr (8, [.ref by_, .int 0])), (bk, .inr (0, [.ref lb, .ref pl, .int 0, .int 0, .ref de, .ref su, .ref fi, .int 0, .ref ac])), (td, .inr (9, [.ref bk, .ref tn, .ref cg, .int 0, .int 0, .ref tt, .ref th, .ref tf, .ref to, .ref ts])), (dr, .inr (2, [.ref ra, .int 0, .ref dn, .ref od, .ref hv, .long 0, .long 1])), (dn, .inl (k_dn, 10, .inl (fun _ => 0))), (mo, .inr (12, [.ref m_tape, .int 0, .int 0, .int 0, .int 0, .int 0, .int 0, .int 0, .int 0, .int (-1), .ref m_laws, .ref m_hasLaws, .int 0, .int 0, .ref m_clubOf, .ref m_first, .ref m_last, .ref m_pay, .ref m_rise, .ref m_sure, .ref m_hasChoice, .ref m_isTaken, .ref m_isHurt, .ref m_dead, .ref m_usedSpare, .ref m_owner, .ref m_giver, .ref m_guarded, .ref m_drawnOf, .ref m_drawnTo, .int 0, .int 0, .ref m_table, .int 0, .ref m_moved, .ref m_from, .ref m_to, .ref m_guard, .ref m_worths, .ref m_ringClub, .ref m_ringGives, .int 0, .ref m_triedClub, .ref m_triedGives, .int 0, .int 0, .ref m_toldClub, .ref m_toldGives, .ref m_isOut, .ref m_purse, .int 0]))]) (hS : va_S A s.heap H locs) (ls : Array Slot) (hl : lv_has ls 4 [(3, .int 0), (2, .ref mo), (1, .ref cp), (0, .ref b)]) : W p l e room_1 s m #[Value.ref b] below meth c H locs 178 9908 (lw_Z below #[Value.ref b] s) (F0 m 1219 ls []) := by
  obtain ⟨hx, hb, hr, hml, hown, hts0, hX, hbl, hlocks, hgv⟩ := id C0
  have hE := xs_E hts0
  have hts : ∀ w ∈ wsL_law, w.before #[Value.ref b] s = true := fun w h => hts0 w (wsL_law_in w h)
  have hA : ∀ q : Nat, s.heap.size ≤ q → A q := fun q h => by rw [← hAe]; exact h
  have hbA : ¬ A b := by rw [← hAe]; exact Nat.not_le.mpr hbl
  have lo0 := xi_lo (xs 0)
  have hi0 := xi_hi (xs 0)
  have lo1 := xi_lo (xs 1)
  have hi1 := xi_hi (xs 1)
  have lo2 := xi_lo (xs 2)
  have hi2 := xi_hi (xs 2)
  have lo3 := xi_lo (xs 3)
  have hi3 := xi_hi (xs 3)
  have lo4 := xi_lo (xs 4)
  have hi4 := xi_hi (xs 4)
  have lo5 := xi_lo (xs 5)
  have hi5 := xi_hi (xs 5)
  have lo6 := xi_lo (xs 6)
  have hi6 := xi_hi (xs 6)
  have lo7 := xi_lo (xs 7)
  have hi7 := xi_hi (xs 7)
  refine lv_aload_n hx hb dL_law_1219 rfl (lv_at hl 2 rfl) ?_
  refine lv_aload_n hx hb dL_law_1220 rfl (lv_at hl 3 rfl) ?_
  refine lv_iload_n hx hb dL_law_1221 rfl (lv_at hl 0 rfl) ?_
  refine lv_iconst (v := 1) hx hb dL_law_1222 (by decide) ?_
  refine lv_iadd hx hb dL_law_1223 ?_
  refine xw_i (v := 1) (by decide) ?_
  refine va_sld hx hb hX hbl hbA hS (by unfold vp_in; decide) dL_law_1224 ?_
  refine xw_i (v := xs 1) rfl ?_
  have hPc := hP.sub (ws' := [(cp, .inr (11, [.ref tp, .ref lb, .ref rd, .ref bk, .ref tn, .ref td, .ref rg, .ref dr])), (bk, .inr (0, [.ref lb, .ref pl, .int 0, .int 0, .ref de, .ref su, .ref fi, .int 0, .ref ac])), (td, .inr (9, [.ref bk, .ref tn, .ref cg, .int 0, .int 0, .ref tt, .ref th, .ref tf, .ref to, .ref ts])), (tp, .inr (8, [.ref by_, .int 0])), (dr, .inr (2, [.ref ra, .int 0, .ref dn, .ref od, .ref hv, .long 0, .long 1])), (dn, .inl (k_dn, 10, .inl (fun _ => 0)))]) [0, 2, 3, 1, 4, 5] rfl
  have hKc := hK.sub (tys' := [(k_dn, .boolean)]) [0] rfl
  refine vp_callSi (W.runV (As := [.int (xs 1)]) (rest := []) ⟨hx, hb, hml, hown, hts⟩ (aX_count l dC dI ([(cp, .inr (11, [.ref tp, .ref lb, .ref rd, .ref bk, .ref tn, .ref td, .ref rg, .ref dr])), (bk, .inr (0, [.ref lb, .ref pl, .int 0, .int 0, .ref de, .ref su, .ref fi, .int 0, .ref ac])), (td, .inr (9, [.ref bk, .ref tn, .ref cg, .int 0, .int 0, .ref tt, .ref th, .ref tf, .ref to, .ref ts])), (tp, .inr (8, [.ref by_, .int 0])), (dr, .inr (2, [.ref ra, .int 0, .ref dn, .ref od, .ref hv, .long 0, .long 1])), (dn, .inl (k_dn, 10, .inl (fun _ => 0)))]) ([(k_dn, .boolean)]) 0 rfl 1 rfl 2 rfl 3 rfl 4 rfl 5 rfl 0 rfl (xs 1) ((xs 1).toInt) rfl) (cwV 1 hts gL_law_X11_count rfl rfl rfl (by decide +kernel) ⟨Nat.le_of_ble_eq_true rfl, Nat.le_of_ble_eq_true rfl⟩) ⟨xR_blind _ _ _ _, va_recv hKc hPc (ci := 11) (q0 := 0) rfl rfl, xR_pre _ hE hKc hPc⟩ rfl rfl hl.1 rfl (lv_room (Nat.le_of_ble_eq_true rfl)) dL_law_1225 ⟨Nat.le_of_ble_eq_true rfl, Nat.le_of_ble_eq_true rfl⟩) (fun rh1 h1 => ?_)
  rcases h1 with ⟨rfl, h1⟩ | ⟨rfl, h1⟩
  · skip
    refine lv_aload_n hx hb dL_law_1228 rfl (lv_at hl 1 rfl) ?_
    refine lv_aload_n hx hb dL_law_1229 rfl (lv_at hl 3 rfl) ?_
    refine lv_iload_n hx hb dL_law_1230 rfl (lv_at hl 0 rfl) ?_
    refine lv_iconst (v := 1) hx hb dL_law_1231 (by decide) ?_
    refine lv_iadd hx hb dL_law_1232 ?_
    refine xw_i (v := 1) (by decide) ?_
    refine va_sld hx hb hX hbl hbA hS (by unfold vp_in; decide) dL_law_1233 ?_
    refine xw_i (v := xs 1) rfl ?_
    have hPc := hP.sub (ws' := [(mo, .inr (12, [.ref m_tape, .int 0, .int 0, .int 0, .int 0, .int 0, .int 0, .int 0, .int 0, .int (-1), .ref m_laws, .ref m_hasLaws, .int 0, .int 0, .ref m_clubOf, .ref m_first, .ref m_last, .ref m_pay, .ref m_rise, .ref m_sure, .ref m_hasChoice, .ref m_isTaken, .ref m_isHurt, .ref m_dead, .ref m_usedSpare, .ref m_owner, .ref m_giver, .ref m_guarded, .ref m_drawnOf, .ref m_drawnTo, .int 0, .int 0, .ref m_table, .int 0, .ref m_moved, .ref m_from, .ref m_to, .ref m_guard, .ref m_worths, .ref m_ringClub, .ref m_ringGives, .int 0, .ref m_triedClub, .ref m_triedGives, .int 0, .int 0, .ref m_toldClub, .ref m_toldGives, .ref m_isOut, .ref m_purse, .int 0]))]) [6] rfl
    have hKc := hK.sub (tys' := []) [] rfl
    refine vp_callSi (W.runV (As := [.int (xs 1)]) (rest := [.int 0]) ⟨hx, hb, hml, hown, hts⟩ (mX_count l dC dI ([(mo, .inr (12, [.ref m_tape, .int 0, .int 0, .int 0, .int 0, .int 0, .int 0, .int 0, .int 0, .int (-1), .ref m_laws, .ref m_hasLaws, .int 0, .int 0, .ref m_clubOf, .ref m_first, .ref m_last, .ref m_pay, .ref m_rise, .ref m_sure, .ref m_hasChoice, .ref m_isTaken, .ref m_isHurt, .ref m_dead, .ref m_usedSpare, .ref m_owner, .ref m_giver, .ref m_guarded, .ref m_drawnOf, .ref m_drawnTo, .int 0, .int 0, .ref m_table, .int 0, .ref m_moved, .ref m_from, .ref m_to, .ref m_guard, .ref m_worths, .ref m_ringClub, .ref m_ringGives, .int 0, .ref m_triedClub, .ref m_triedGives, .int 0, .int 0, .ref m_toldClub, .ref m_toldGives, .ref m_isOut, .ref m_purse, .int 0]))]) ([]) 0 rfl (xs 1) ((xs 1).toInt) rfl) (cwV 1 hts gL_law_X12_count rfl rfl rfl (by decide +kernel) ⟨Nat.le_of_ble_eq_true rfl, Nat.le_of_ble_eq_true rfl⟩) ⟨xR_blind _ _ _ _, va_recv hKc hPc (ci := 12) (q0 := 0) rfl rfl, xR_pre _ hE hKc hPc⟩ rfl rfl hl.1 rfl (lv_room (Nat.le_of_ble_eq_true rfl)) dL_law_1234 ⟨Nat.le_of_ble_eq_true rfl, Nat.le_of_ble_eq_true rfl⟩) (fun rh2 h2 => ?_)
    rcases h2 with ⟨rfl, h2⟩ | ⟨rfl, h2⟩
    · skip
      refine lv_icmp_eq (tgt := 1242) hx hb dL_law_1237 (by decide) (fun _ => ?_) (fun h => absurd (by first | rfl | (exfalso; omega)) h)
      refine lv_iinc (v := 8) (lv' := [(3, .int 8), (2, .ref mo), (1, .ref cp), (0, .ref b)]) hx hb dL_law_1242 hl (k := 0) rfl (by decide) (by decide) rfl (fun ls hl => ?_)
      refine lv_goto (tgt := 18) hx hb dL_law_1245 (by decide) ?_
      refine lv_iload_n hx hb dL_law_18 rfl (lv_at hl 0 rfl) ?_
      refine lv_aload_n hx hb dL_law_19 rfl (lv_at hl 3 rfl) ?_
      refine va_slen hx hb hX hbl hbA hS dL_law_20 ?_
      refine xw_i (v := 8) rfl ?_
      refine lv_bipush (v := 8) hx hb dL_law_21 (by decide) ?_
      refine lv_isub hx hb dL_law_23 ?_
      refine xw_i (v := 0) (by decide) ?_
      refine lv_icmp_gt (tgt := 1248) hx hb dL_law_24 (by decide) (fun _ => ?_) (fun h => absurd (by decide) h)
      refine lv_iconst (v := 1) hx hb dL_law_1248 (by decide) ?_
      refine va_forget (fun q hq => by have h9 := hS.2.2 q hq; rw [← hAe] at h9; exact h9) ?_
      refine W.widen (k := 600000) (n := 7302250) (by decide) (by decide) ?_
      exact lw_ret hx hb hr hlocks dL_law_1249
    · skip
      refine lv_icmp_eq (tgt := 1242) hx hb dL_law_1237 (by decide) (fun _ => ?_) (fun h => absurd (by first | rfl | (exfalso; omega)) h)
      refine lv_iinc (v := 8) (lv' := [(3, .int 8), (2, .ref mo), (1, .ref cp), (0, .ref b)]) hx hb dL_law_1242 hl (k := 0) rfl (by decide) (by decide) rfl (fun ls hl => ?_)
      refine lv_goto (tgt := 18) hx hb dL_law_1245 (by decide) ?_
      refine lv_iload_n hx hb dL_law_18 rfl (lv_at hl 0 rfl) ?_
      refine lv_aload_n hx hb dL_law_19 rfl (lv_at hl 3 rfl) ?_
      refine va_slen hx hb hX hbl hbA hS dL_law_20 ?_
      refine xw_i (v := 8) rfl ?_
      refine lv_bipush (v := 8) hx hb dL_law_21 (by decide) ?_
      refine lv_isub hx hb dL_law_23 ?_
      refine xw_i (v := 0) (by decide) ?_
      refine lv_icmp_gt (tgt := 1248) hx hb dL_law_24 (by decide) (fun _ => ?_) (fun h => absurd (by decide) h)
      refine lv_iconst (v := 1) hx hb dL_law_1248 (by decide) ?_
      refine va_forget (fun q hq => by have h9 := hS.2.2 q hq; rw [← hAe] at h9; exact h9) ?_
      refine W.widen (k := 600000) (n := 7302250) (by decide) (by decide) ?_
      exact lw_ret hx hb hr hlocks dL_law_1249
  · skip
    refine lv_aload_n hx hb dL_law_1228 rfl (lv_at hl 1 rfl) ?_
    refine lv_aload_n hx hb dL_law_1229 rfl (lv_at hl 3 rfl) ?_
    refine lv_iload_n hx hb dL_law_1230 rfl (lv_at hl 0 rfl) ?_
    refine lv_iconst (v := 1) hx hb dL_law_1231 (by decide) ?_
    refine lv_iadd hx hb dL_law_1232 ?_
    refine xw_i (v := 1) (by decide) ?_
    refine va_sld hx hb hX hbl hbA hS (by unfold vp_in; decide) dL_law_1233 ?_
    refine xw_i (v := xs 1) rfl ?_
    have hPc := hP.sub (ws' := [(mo, .inr (12, [.ref m_tape, .int 0, .int 0, .int 0, .int 0, .int 0, .int 0, .int 0, .int 0, .int (-1), .ref m_laws, .ref m_hasLaws, .int 0, .int 0, .ref m_clubOf, .ref m_first, .ref m_last, .ref m_pay, .ref m_rise, .ref m_sure, .ref m_hasChoice, .ref m_isTaken, .ref m_isHurt, .ref m_dead, .ref m_usedSpare, .ref m_owner, .ref m_giver, .ref m_guarded, .ref m_drawnOf, .ref m_drawnTo, .int 0, .int 0, .ref m_table, .int 0, .ref m_moved, .ref m_from, .ref m_to, .ref m_guard, .ref m_worths, .ref m_ringClub, .ref m_ringGives, .int 0, .ref m_triedClub, .ref m_triedGives, .int 0, .int 0, .ref m_toldClub, .ref m_toldGives, .ref m_isOut, .ref m_purse, .int 0]))]) [6] rfl
    have hKc := hK.sub (tys' := []) [] rfl
    refine vp_callSi (W.runV (As := [.int (xs 1)]) (rest := [.int (-1)]) ⟨hx, hb, hml, hown, hts⟩ (mX_count l dC dI ([(mo, .inr (12, [.ref m_tape, .int 0, .int 0, .int 0, .int 0, .int 0, .int 0, .int 0, .int 0, .int (-1), .ref m_laws, .ref m_hasLaws, .int 0, .int 0, .ref m_clubOf, .ref m_first, .ref m_last, .ref m_pay, .ref m_rise, .ref m_sure, .ref m_hasChoice, .ref m_isTaken, .ref m_isHurt, .ref m_dead, .ref m_usedSpare, .ref m_owner, .ref m_giver, .ref m_guarded, .ref m_drawnOf, .ref m_drawnTo, .int 0, .int 0, .ref m_table, .int 0, .ref m_moved, .ref m_from, .ref m_to, .ref m_guard, .ref m_worths, .ref m_ringClub, .ref m_ringGives, .int 0, .ref m_triedClub, .ref m_triedGives, .int 0, .int 0, .ref m_toldClub, .ref m_toldGives, .ref m_isOut, .ref m_purse, .int 0]))]) ([]) 0 rfl (xs 1) ((xs 1).toInt) rfl) (cwV 1 hts gL_law_X12_count rfl rfl rfl (by decide +kernel) ⟨Nat.le_of_ble_eq_true rfl, Nat.le_of_ble_eq_true rfl⟩) ⟨xR_blind _ _ _ _, va_recv hKc hPc (ci := 12) (q0 := 0) rfl rfl, xR_pre _ hE hKc hPc⟩ rfl rfl hl.1 rfl (lv_room (Nat.le_of_ble_eq_true rfl)) dL_law_1234 ⟨Nat.le_of_ble_eq_true rfl, Nat.le_of_ble_eq_true rfl⟩) (fun rh5 h5 => ?_)
    rcases h5 with ⟨rfl, h5⟩ | ⟨rfl, h5⟩
    · skip
      refine lv_icmp_eq (tgt := 1242) hx hb dL_law_1237 (by decide) (fun _ => ?_) (fun h => absurd (by first | rfl | (exfalso; omega)) h)
      refine lv_iinc (v := 8) (lv' := [(3, .int 8), (2, .ref mo), (1, .ref cp), (0, .ref b)]) hx hb dL_law_1242 hl (k := 0) rfl (by decide) (by decide) rfl (fun ls hl => ?_)
      refine lv_goto (tgt := 18) hx hb dL_law_1245 (by decide) ?_
      refine lv_iload_n hx hb dL_law_18 rfl (lv_at hl 0 rfl) ?_
      refine lv_aload_n hx hb dL_law_19 rfl (lv_at hl 3 rfl) ?_
      refine va_slen hx hb hX hbl hbA hS dL_law_20 ?_
      refine xw_i (v := 8) rfl ?_
      refine lv_bipush (v := 8) hx hb dL_law_21 (by decide) ?_
      refine lv_isub hx hb dL_law_23 ?_
      refine xw_i (v := 0) (by decide) ?_
      refine lv_icmp_gt (tgt := 1248) hx hb dL_law_24 (by decide) (fun _ => ?_) (fun h => absurd (by decide) h)
      refine lv_iconst (v := 1) hx hb dL_law_1248 (by decide) ?_
      refine va_forget (fun q hq => by have h9 := hS.2.2 q hq; rw [← hAe] at h9; exact h9) ?_
      refine W.widen (k := 600000) (n := 7302250) (by decide) (by decide) ?_
      exact lw_ret hx hb hr hlocks dL_law_1249
    · skip
      refine lv_icmp_eq (tgt := 1242) hx hb dL_law_1237 (by decide) (fun _ => ?_) (fun h => absurd (by first | rfl | (exfalso; omega)) h)
      refine lv_iinc (v := 8) (lv' := [(3, .int 8), (2, .ref mo), (1, .ref cp), (0, .ref b)]) hx hb dL_law_1242 hl (k := 0) rfl (by decide) (by decide) rfl (fun ls hl => ?_)
      refine lv_goto (tgt := 18) hx hb dL_law_1245 (by decide) ?_
      refine lv_iload_n hx hb dL_law_18 rfl (lv_at hl 0 rfl) ?_
      refine lv_aload_n hx hb dL_law_19 rfl (lv_at hl 3 rfl) ?_
      refine va_slen hx hb hX hbl hbA hS dL_law_20 ?_
      refine xw_i (v := 8) rfl ?_
      refine lv_bipush (v := 8) hx hb dL_law_21 (by decide) ?_
      refine lv_isub hx hb dL_law_23 ?_
      refine xw_i (v := 0) (by decide) ?_
      refine lv_icmp_gt (tgt := 1248) hx hb dL_law_24 (by decide) (fun _ => ?_) (fun h => absurd (by decide) h)
      refine lv_iconst (v := 1) hx hb dL_law_1248 (by decide) ?_
      refine va_forget (fun q hq => by have h9 := hS.2.2 q hq; rw [← hAe] at h9; exact h9) ?_
      refine W.widen (k := 600000) (n := 7302250) (by decide) (by decide) ?_
      exact lw_ret hx hb hr hlocks dL_law_1249
