set_option maxHeartbeats 8000000 in
set_option maxRecDepth 100000 in
theorem law_16 {p : Program} {l : Launch} {e : Env} {s : State} {m : MethodId} {below : List Frame} {meth : Method} {c : Code} {dC : Nat → ClassId} {dI : Nat → Nat → Nat} {b : Nat} {xs : Nat → Int32} (C0 : lw_At p s m meth c b 8 xs) {A : Nat → Prop} (hAe : (fun q : Nat => s.heap.size ≤ q) = A) {tU : Nat} (hU : xU tU A s s.heap) (cp tp lb rd bk tn td rg dr cg tt th tf to ts mo m_tape m_laws m_hasLaws m_clubOf m_first m_last m_pay m_rise m_sure m_hasChoice m_isTaken m_isHurt m_dead m_usedSpare m_owner m_giver m_guarded m_drawnOf m_drawnTo m_table m_moved m_from m_to m_guard m_worths m_ringClub m_ringGives m_triedClub m_triedGives m_toldClub m_toldGives m_isOut m_purse : Nat)    (hK : va_K (dC, dI) vwCl [] s) (H : Heap) (locs : List Loc) (hP : va_P (dC, dI) vwCl [(cp, .inr (11, [.ref tp, .ref lb, .ref rd, .ref bk, .ref tn, .ref td, .ref rg, .ref dr])), (td, .inr (9, [.ref bk, .ref tn, .ref cg, .int 0, .int 0, .ref tt, .ref th, .ref tf, .ref to, .ref ts])), (mo, .inr (12, [.ref m_tape, .int 0, .int 0, .int 0, .int 0, .int 0, .int 0, .int 0, .int 0, .int (-1), .ref m_laws, .ref m_hasLaws, .int 0, .int 0, .ref m_clubOf, .ref m_first, .ref m_last, .ref m_pay, .ref m_rise, .ref m_sure, .ref m_hasChoice, .ref m_isTaken, .ref m_isHurt, .ref m_dead, .ref m_usedSpare, .ref m_owner, .ref m_giver, .ref m_guarded, .ref m_drawnOf, .ref m_drawnTo, .int 0, .int 0, .ref m_table, .int 0, .ref m_moved, .ref m_from, .ref m_to, .ref m_guard, .ref m_worths, .ref m_ringClub, .ref m_ringGives, .int 0, .ref m_triedClub, .ref m_triedGives, .int 0, .int 0, .ref m_toldClub, .ref m_toldGives, .ref m_isOut, .ref m_purse, .int 0]))] H) (hD : va_D A [(cp, .inr (11, [.ref tp, .ref lb, .ref rd, .ref bk, .ref tn, .ref td, .ref rg, .ref dr])), (td, .inr (9, [.ref bk, .ref tn, .ref cg, .int 0, .int 0, .ref tt, .ref th, .ref tf, .ref to, .ref ts])), (mo, .inr (12, [.ref m_tape, .int 0, .int 0, .int 0, .int 0, .int 0, .int 0, .int 0, .int 0, .int (-1), .ref m_laws, .ref m_hasLaws, .int 0, .int 0, .ref m_clubOf, .ref m_first, .ref m_last, .ref m_pay, .ref m_rise, .ref m_sure, .ref m_hasChoice, .ref m_isTaken, .ref m_isHurt, .ref m_dead, .ref m_usedSpare, .ref m_owner, .ref m_giver, .ref m_guarded, .ref m_drawnOf, .ref m_drawnTo, .int 0, .int 0, .ref m_table, .int 0, .ref m_moved, .ref m_from, .ref m_to, .ref m_guard, .ref m_worths, .ref m_ringClub, .ref m_ringGives, .int 0, .ref m_triedClub, .ref m_triedGives, .int 0, .int 0, .ref m_toldClub, .ref m_toldGives, .ref m_isOut, .ref m_purse, .int 0]))]) (hS : va_S A s.heap H locs) (ls : Array Slot) (hl : lv_has ls 4 [(3, .int 0), (2, .ref mo), (1, .ref cp), (0, .ref b)]) : W p l e room_1 s m #[Value.ref b] below meth c H locs 178 9908 (lw_Z below #[Value.ref b] s) (F0 m 826 ls []) := by
  obtain ⟨hx, hb, hr, hml, hown, hts0, hX, hbl, hlocks, hgv⟩ := id C0
  have hE := xs_E hts0
  have hts : ∀ w ∈ wsL_law, w.before #[Value.ref b] s = true := fun w h => hts0 w (wsL_law_in w h)
  have hA : ∀ q : Nat, s.heap.size ≤ q → A q := fun q h => by rw [← hAe]; exact h
  have hbA : ¬ A b := by rw [← hAe]; exact Nat.not_le.mpr hbl
  have lo0 := xi_lo (xs 0)
  have hi0 := xi_hi (xs 0)
  have lo1 := xi_lo (xs 1)
  have hi1 := xi_hi (xs 1)
  have lo2 := xi_lo (xs 2)
  have hi2 := xi_hi (xs 2)
  have lo3 := xi_lo (xs 3)
  have hi3 := xi_hi (xs 3)
  have lo4 := xi_lo (xs 4)
  have hi4 := xi_hi (xs 4)
  have lo5 := xi_lo (xs 5)
  have hi5 := xi_hi (xs 5)
  have lo6 := xi_lo (xs 6)
  have hi6 := xi_hi (xs 6)
  have lo7 := xi_lo (xs 7)
  have hi7 := xi_hi (xs 7)
  refine lv_aload_n hx hb dL_law_826 rfl (lv_at hl 2 rfl) ?_
  have hPc := hP.sub (ws' := [(cp, .inr (11, [.ref tp, .ref lb, .ref rd, .ref bk, .ref tn, .ref td, .ref rg, .ref dr])), (td, .inr (9, [.ref bk, .ref tn, .ref cg, .int 0, .int 0, .ref tt, .ref th, .ref tf, .ref to, .ref ts]))]) [0, 1] rfl
  have hKc := hK.sub (tys' := []) [] rfl
  refine vp_callSi (W.runV (As := []) (rest := []) ⟨hx, hb, hml, hown, hts⟩ (aX_check l dC dI ([(cp, .inr (11, [.ref tp, .ref lb, .ref rd, .ref bk, .ref tn, .ref td, .ref rg, .ref dr])), (td, .inr (9, [.ref bk, .ref tn, .ref cg, .int 0, .int 0, .ref tt, .ref th, .ref tf, .ref to, .ref ts]))]) ([]) 0 rfl 1 rfl) (cwV 0 hts gL_law_X11_check rfl rfl rfl (by decide +kernel) ⟨Nat.le_of_ble_eq_true rfl, Nat.le_of_ble_eq_true rfl⟩) ⟨xR_blind _ _ _ _, va_recv hKc hPc (ci := 11) (q0 := 0) rfl rfl, xR_pre _ hE hKc hPc⟩ rfl rfl hl.1 rfl (lv_room (Nat.le_of_ble_eq_true rfl)) dL_law_827 ⟨Nat.le_of_ble_eq_true rfl, Nat.le_of_ble_eq_true rfl⟩) (fun rh1 h1 => ?_)
  obtain ⟨rfl, h1⟩ := h1
  refine lv_aload_n hx hb dL_law_830 rfl (lv_at hl 1 rfl) ?_
  have hPc := hP.sub (ws' := [(mo, .inr (12, [.ref m_tape, .int 0, .int 0, .int 0, .int 0, .int 0, .int 0, .int 0, .int 0, .int (-1), .ref m_laws, .ref m_hasLaws, .int 0, .int 0, .ref m_clubOf, .ref m_first, .ref m_last, .ref m_pay, .ref m_rise, .ref m_sure, .ref m_hasChoice, .ref m_isTaken, .ref m_isHurt, .ref m_dead, .ref m_usedSpare, .ref m_owner, .ref m_giver, .ref m_guarded, .ref m_drawnOf, .ref m_drawnTo, .int 0, .int 0, .ref m_table, .int 0, .ref m_moved, .ref m_from, .ref m_to, .ref m_guard, .ref m_worths, .ref m_ringClub, .ref m_ringGives, .int 0, .ref m_triedClub, .ref m_triedGives, .int 0, .int 0, .ref m_toldClub, .ref m_toldGives, .ref m_isOut, .ref m_purse, .int 0]))]) [2] rfl
  have hKc := hK.sub (tys' := []) [] rfl
  refine vp_callSi (W.runV (As := []) (rest := [.int (-4)]) ⟨hx, hb, hml, hown, hts⟩ (mX_check l dC dI ([(mo, .inr (12, [.ref m_tape, .int 0, .int 0, .int 0, .int 0, .int 0, .int 0, .int 0, .int 0, .int (-1), .ref m_laws, .ref m_hasLaws, .int 0, .int 0, .ref m_clubOf, .ref m_first, .ref m_last, .ref m_pay, .ref m_rise, .ref m_sure, .ref m_hasChoice, .ref m_isTaken, .ref m_isHurt, .ref m_dead, .ref m_usedSpare, .ref m_owner, .ref m_giver, .ref m_guarded, .ref m_drawnOf, .ref m_drawnTo, .int 0, .int 0, .ref m_table, .int 0, .ref m_moved, .ref m_from, .ref m_to, .ref m_guard, .ref m_worths, .ref m_ringClub, .ref m_ringGives, .int 0, .ref m_triedClub, .ref m_triedGives, .int 0, .int 0, .ref m_toldClub, .ref m_toldGives, .ref m_isOut, .ref m_purse, .int 0]))]) ([]) 0 rfl) (cwV 0 hts gL_law_X12_check rfl rfl rfl (by decide +kernel) ⟨Nat.le_of_ble_eq_true rfl, Nat.le_of_ble_eq_true rfl⟩) ⟨xR_blind _ _ _ _, va_recv hKc hPc (ci := 12) (q0 := 0) rfl rfl, xR_pre _ hE hKc hPc⟩ rfl rfl hl.1 rfl (lv_room (Nat.le_of_ble_eq_true rfl)) dL_law_831 ⟨Nat.le_of_ble_eq_true rfl, Nat.le_of_ble_eq_true rfl⟩) (fun rh2 h2 => ?_)
  obtain ⟨rfl, h2⟩ := h2
  refine lv_icmp_eq (tgt := 1242) hx hb dL_law_834 (by decide) (fun _ => ?_) (fun h => absurd (by first | rfl | (exfalso; omega)) h)
  refine lv_iinc (v := 8) (lv' := [(3, .int 8), (2, .ref mo), (1, .ref cp), (0, .ref b)]) hx hb dL_law_1242 hl (k := 0) rfl (by decide) (by decide) rfl (fun ls hl => ?_)
  refine lv_goto (tgt := 18) hx hb dL_law_1245 (by decide) ?_
  refine lv_iload_n hx hb dL_law_18 rfl (lv_at hl 0 rfl) ?_
  refine lv_aload_n hx hb dL_law_19 rfl (lv_at hl 3 rfl) ?_
  refine va_slen hx hb hX hbl hbA hS dL_law_20 ?_
  refine xw_i (v := 8) rfl ?_
  refine lv_bipush (v := 8) hx hb dL_law_21 (by decide) ?_
  refine lv_isub hx hb dL_law_23 ?_
  refine xw_i (v := 0) (by decide) ?_
  refine lv_icmp_gt (tgt := 1248) hx hb dL_law_24 (by decide) (fun _ => ?_) (fun h => absurd (by decide) h)
  refine lv_iconst (v := 1) hx hb dL_law_1248 (by decide) ?_
  refine va_forget (fun q hq => by have h9 := hS.2.2 q hq; rw [← hAe] at h9; exact h9) ?_
  refine W.widen (k := 600000) (n := 7302250) (by decide) (by decide) ?_
  exact lw_ret hx hb hr hlocks dL_law_1249
set_option maxHeartbeats 8000000 in
set_option maxRecDepth 100000 in
theorem law_17 {p : Program} {l : Launch} {e : Env} {s : State} {m : MethodId} {below : List Frame} {meth : Method} {c : Code} {dC : Nat → ClassId} {dI : Nat → Nat → Nat} {b : Nat} {xs : Nat → Int32} (C0 : lw_At p s m meth c b 8 xs) {A : Nat → Prop} (hAe : (fun q : Nat => s.heap.size ≤ q) = A) {tU : Nat} (hU : xU tU A s s.heap) (cp tp lb rd bk tn td rg dr cg tt th tf to ts mo m_tape m_laws m_hasLaws m_clubOf m_first m_last m_pay m_rise m_sure m_hasChoice m_isTaken m_isHurt m_dead m_usedSpare m_owner m_giver m_guarded m_drawnOf m_drawnTo m_table m_moved m_from m_to m_guard m_worths m_ringClub m_ringGives m_triedClub m_triedGives m_toldClub m_toldGives m_isOut m_purse : Nat)    (hK : va_K (dC, dI) vwCl [] s) (H : Heap) (locs : List Loc) (hP : va_P (dC, dI) vwCl [(cp, .inr (11, [.ref tp, .ref lb, .ref rd, .ref bk, .ref tn, .ref td, .ref rg, .ref dr])), (td, .inr (9, [.ref bk, .ref tn, .ref cg, .int 0, .int 0, .ref tt, .ref th, .ref tf, .ref to, .ref ts])), (mo, .inr (12, [.ref m_tape, .int 0, .int 0, .int 0, .int 0, .int 0, .int 0, .int 0, .int 0, .int (-1), .ref m_laws, .ref m_hasLaws, .int 0, .int 0, .ref m_clubOf, .ref m_first, .ref m_last, .ref m_pay, .ref m_rise, .ref m_sure, .ref m_hasChoice, .ref m_isTaken, .ref m_isHurt, .ref m_dead, .ref m_usedSpare, .ref m_owner, .ref m_giver, .ref m_guarded, .ref m_drawnOf, .ref m_drawnTo, .int 0, .int 0, .ref m_table, .int 0, .ref m_moved, .ref m_from, .ref m_to, .ref m_guard, .ref m_worths, .ref m_ringClub, .ref m_ringGives, .int 0, .ref m_triedClub, .ref m_triedGives, .int 0, .int 0, .ref m_toldClub, .ref m_toldGives, .ref m_isOut, .ref m_purse, .int 0]))] H) (hD : va_D A [(cp, .inr (11, [.ref tp, .ref lb, .ref rd, .ref bk, .ref tn, .ref td, .ref rg, .ref dr])), (td, .inr (9, [.ref bk, .ref tn, .ref cg, .int 0, .int 0, .ref tt, .ref th, .ref tf, .ref to, .ref ts])), (mo, .inr (12, [.ref m_tape, .int 0, .int 0, .int 0, .int 0, .int 0, .int 0, .int 0, .int 0, .int (-1), .ref m_laws, .ref m_hasLaws, .int 0, .int 0, .ref m_clubOf, .ref m_first, .ref m_last, .ref m_pay, .ref m_rise, .ref m_sure, .ref m_hasChoice, .ref m_isTaken, .ref m_isHurt, .ref m_dead, .ref m_usedSpare, .ref m_owner, .ref m_giver, .ref m_guarded, .ref m_drawnOf, .ref m_drawnTo, .int 0, .int 0, .ref m_table, .int 0, .ref m_moved, .ref m_from, .ref m_to, .ref m_guard, .ref m_worths, .ref m_ringClub, .ref m_ringGives, .int 0, .ref m_triedClub, .ref m_triedGives, .int 0, .int 0, .ref m_toldClub, .ref m_toldGives, .ref m_isOut, .ref m_purse, .int 0]))]) (hS : va_S A s.heap H locs) (ls : Array Slot) (hl : lv_has ls 4 [(3, .int 0), (2, .ref mo), (1, .ref cp), (0, .ref b)]) : W p l e room_1 s m #[Value.ref b] below meth c H locs 178 9908 (lw_Z below #[Value.ref b] s) (F0 m 839 ls []) := by
  obtain ⟨hx, hb, hr, hml, hown, hts0, hX, hbl, hlocks, hgv⟩ := id C0
  have hE := xs_E hts0
  have hts : ∀ w ∈ wsL_law, w.before #[Value.ref b] s = true := fun w h => hts0 w (wsL_law_in w h)
  have hA : ∀ q : Nat, s.heap.size ≤ q → A q := fun q h => by rw [← hAe]; exact h
  have hbA : ¬ A b := by rw [← hAe]; exact Nat.not_le.mpr hbl
  have lo0 := xi_lo (xs 0)
  have hi0 := xi_hi (xs 0)
  have lo1 := xi_lo (xs 1)
  have hi1 := xi_hi (xs 1)
  have lo2 := xi_lo (xs 2)
  have hi2 := xi_hi (xs 2)
  have lo3 := xi_lo (xs 3)
  have hi3 := xi_hi (xs 3)
  have lo4 := xi_lo (xs 4)
  have hi4 := xi_hi (xs 4)
  have lo5 := xi_lo (xs 5)
  have hi5 := xi_hi (xs 5)
  have lo6 := xi_lo (xs 6)
  have hi6 := xi_hi (xs 6)
  have lo7 := xi_lo (xs 7)
  have hi7 := xi_hi (xs 7)
  refine lv_aload_n hx hb dL_law_839 rfl (lv_at hl 2 rfl) ?_
  refine lv_aload_n hx hb dL_law_840 rfl (lv_at hl 3 rfl) ?_
  refine lv_iload_n hx hb dL_law_841 rfl (lv_at hl 0 rfl) ?_
  refine lv_iconst (v := 1) hx hb dL_law_842 (by decide) ?_
  refine lv_iadd hx hb dL_law_843 ?_
  refine xw_i (v := 1) (by decide) ?_
  refine va_sld hx hb hX hbl hbA hS (by unfold vp_in; decide) dL_law_844 ?_
  refine xw_i (v := xs 1) rfl ?_
  have hPc := hP.sub (ws' := [(cp, .inr (11, [.ref tp, .ref lb, .ref rd, .ref bk, .ref tn, .ref td, .ref rg, .ref dr])), (td, .inr (9, [.ref bk, .ref tn, .ref cg, .int 0, .int 0, .ref tt, .ref th, .ref tf, .ref to, .ref ts]))]) [0, 1] rfl
  have hKc := hK.sub (tys' := []) [] rfl
  refine vp_callSi (W.runV (As := [.int (xs 1)]) (rest := []) ⟨hx, hb, hml, hown, hts⟩ (aX_gain l dC dI ([(cp, .inr (11, [.ref tp, .ref lb, .ref rd, .ref bk, .ref tn, .ref td, .ref rg, .ref dr])), (td, .inr (9, [.ref bk, .ref tn, .ref cg, .int 0, .int 0, .ref tt, .ref th, .ref tf, .ref to, .ref ts]))]) ([]) 0 rfl 1 rfl (xs 1) ((xs 1).toInt) rfl) (cwV 1 hts gL_law_X11_gain rfl rfl rfl (by decide +kernel) ⟨Nat.le_of_ble_eq_true rfl, Nat.le_of_ble_eq_true rfl⟩) ⟨xR_blind _ _ _ _, va_recv hKc hPc (ci := 11) (q0 := 0) rfl rfl, xR_pre _ hE hKc hPc⟩ rfl rfl hl.1 rfl (lv_room (Nat.le_of_ble_eq_true rfl)) dL_law_845 ⟨Nat.le_of_ble_eq_true rfl, Nat.le_of_ble_eq_true rfl⟩) (fun rh1 h1 => ?_)
  rcases h1 with ⟨rfl, h1⟩ | ⟨rfl, h1⟩
  · skip
    refine lv_aload_n hx hb dL_law_848 rfl (lv_at hl 1 rfl) ?_
    refine lv_aload_n hx hb dL_law_849 rfl (lv_at hl 3 rfl) ?_
    refine lv_iload_n hx hb dL_law_850 rfl (lv_at hl 0 rfl) ?_
    refine lv_iconst (v := 1) hx hb dL_law_851 (by decide) ?_
    refine lv_iadd hx hb dL_law_852 ?_
    refine xw_i (v := 1) (by decide) ?_
    refine va_sld hx hb hX hbl hbA hS (by unfold vp_in; decide) dL_law_853 ?_
    refine xw_i (v := xs 1) rfl ?_
    have hPc := hP.sub (ws' := [(mo, .inr (12, [.ref m_tape, .int 0, .int 0, .int 0, .int 0, .int 0, .int 0, .int 0, .int 0, .int (-1), .ref m_laws, .ref m_hasLaws, .int 0, .int 0, .ref m_clubOf, .ref m_first, .ref m_last, .ref m_pay, .ref m_rise, .ref m_sure, .ref m_hasChoice, .ref m_isTaken, .ref m_isHurt, .ref m_dead, .ref m_usedSpare, .ref m_owner, .ref m_giver, .ref m_guarded, .ref m_drawnOf, .ref m_drawnTo, .int 0, .int 0, .ref m_table, .int 0, .ref m_moved, .ref m_from, .ref m_to, .ref m_guard, .ref m_worths, .ref m_ringClub, .ref m_ringGives, .int 0, .ref m_triedClub, .ref m_triedGives, .int 0, .int 0, .ref m_toldClub, .ref m_toldGives, .ref m_isOut, .ref m_purse, .int 0]))]) [2] rfl
    have hKc := hK.sub (tys' := []) [] rfl
    refine vp_callSi (W.runV (As := [.int (xs 1)]) (rest := [.int 0]) ⟨hx, hb, hml, hown, hts⟩ (mX_gain l dC dI ([(mo, .inr (12, [.ref m_tape, .int 0, .int 0, .int 0, .int 0, .int 0, .int 0, .int 0, .int 0, .int (-1), .ref m_laws, .ref m_hasLaws, .int 0, .int 0, .ref m_clubOf, .ref m_first, .ref m_last, .ref m_pay, .ref m_rise, .ref m_sure, .ref m_hasChoice, .ref m_isTaken, .ref m_isHurt, .ref m_dead, .ref m_usedSpare, .ref m_owner, .ref m_giver, .ref m_guarded, .ref m_drawnOf, .ref m_drawnTo, .int 0, .int 0, .ref m_table, .int 0, .ref m_moved, .ref m_from, .ref m_to, .ref m_guard, .ref m_worths, .ref m_ringClub, .ref m_ringGives, .int 0, .ref m_triedClub, .ref m_triedGives, .int 0, .int 0, .ref m_toldClub, .ref m_toldGives, .ref m_isOut, .ref m_purse, .int 0]))]) ([]) 0 rfl (xs 1) ((xs 1).toInt) rfl) (cwV 1 hts gL_law_X12_gain rfl rfl rfl (by decide +kernel) ⟨Nat.le_of_ble_eq_true rfl, Nat.le_of_ble_eq_true rfl⟩) ⟨xR_blind _ _ _ _, va_recv hKc hPc (ci := 12) (q0 := 0) rfl rfl, xR_pre _ hE hKc hPc⟩ rfl rfl hl.1 rfl (lv_room (Nat.le_of_ble_eq_true rfl)) dL_law_854 ⟨Nat.le_of_ble_eq_true rfl, Nat.le_of_ble_eq_true rfl⟩) (fun rh2 h2 => ?_)
    rcases h2 with ⟨rfl, h2⟩ | ⟨rfl, h2⟩
    · skip
      refine lv_icmp_eq (tgt := 1242) hx hb dL_law_857 (by decide) (fun _ => ?_) (fun h => absurd (by first | rfl | (exfalso; omega)) h)
      refine lv_iinc (v := 8) (lv' := [(3, .int 8), (2, .ref mo), (1, .ref cp), (0, .ref b)]) hx hb dL_law_1242 hl (k := 0) rfl (by decide) (by decide) rfl (fun ls hl => ?_)
      refine lv_goto (tgt := 18) hx hb dL_law_1245 (by decide) ?_
      refine lv_iload_n hx hb dL_law_18 rfl (lv_at hl 0 rfl) ?_
      refine lv_aload_n hx hb dL_law_19 rfl (lv_at hl 3 rfl) ?_
      refine va_slen hx hb hX hbl hbA hS dL_law_20 ?_
      refine xw_i (v := 8) rfl ?_
      refine lv_bipush (v := 8) hx hb dL_law_21 (by decide) ?_
      refine lv_isub hx hb dL_law_23 ?_
      refine xw_i (v := 0) (by decide) ?_
      refine lv_icmp_gt (tgt := 1248) hx hb dL_law_24 (by decide) (fun _ => ?_) (fun h => absurd (by decide) h)
      refine lv_iconst (v := 1) hx hb dL_law_1248 (by decide) ?_
      refine va_forget (fun q hq => by have h9 := hS.2.2 q hq; rw [← hAe] at h9; exact h9) ?_
      refine W.widen (k := 600000) (n := 7302250) (by decide) (by decide) ?_
      exact lw_ret hx hb hr hlocks dL_law_1249
    · skip
      refine lv_icmp_eq (tgt := 1242) hx hb dL_law_857 (by decide) (fun _ => ?_) (fun h => absurd (by first | rfl | (exfalso; omega)) h)
      refine lv_iinc (v := 8) (lv' := [(3, .int 8), (2, .ref mo), (1, .ref cp), (0, .ref b)]) hx hb dL_law_1242 hl (k := 0) rfl (by decide) (by decide) rfl (fun ls hl => ?_)
      refine lv_goto (tgt := 18) hx hb dL_law_1245 (by decide) ?_
      refine lv_iload_n hx hb dL_law_18 rfl (lv_at hl 0 rfl) ?_
      refine lv_aload_n hx hb dL_law_19 rfl (lv_at hl 3 rfl) ?_
      refine va_slen hx hb hX hbl hbA hS dL_law_20 ?_
      refine xw_i (v := 8) rfl ?_
      refine lv_bipush (v := 8) hx hb dL_law_21 (by decide) ?_
      refine lv_isub hx hb dL_law_23 ?_
      refine xw_i (v := 0) (by decide) ?_
      refine lv_icmp_gt (tgt := 1248) hx hb dL_law_24 (by decide) (fun _ => ?_) (fun h => absurd (by decide) h)
      refine lv_iconst (v := 1) hx hb dL_law_1248 (by decide) ?_
      refine va_forget (fun q hq => by have h9 := hS.2.2 q hq; rw [← hAe] at h9; exact h9) ?_
      refine W.widen (k := 600000) (n := 7302250) (by decide) (by decide) ?_
      exact lw_ret hx hb hr hlocks dL_law_1249
  · skip
    refine lv_aload_n hx hb dL_law_848 rfl (lv_at hl 1 rfl) ?_
    refine lv_aload_n hx hb dL_law_849 rfl (lv_at hl 3 rfl) ?_
    refine lv_iload_n hx hb dL_law_850 rfl (lv_at hl 0 rfl) ?_
    refine lv_iconst (v := 1) hx hb dL_law_851 (by decide) ?_
    refine lv_iadd hx hb dL_law_852 ?_
    refine xw_i (v := 1) (by decide) ?_
    refine va_sld hx hb hX hbl hbA hS (by unfold vp_in; decide) dL_law_853 ?_
    refine xw_i (v := xs 1) rfl ?_
    have hPc := hP.sub (ws' := [(mo, .inr (12, [.ref m_tape, .int 0, .int 0, .int 0, .int 0, .int 0, .int 0, .int 0, .int 0, .int (-1), .ref m_laws, .ref m_hasLaws, .int 0, .int 0, .ref m_clubOf, .ref m_first, .ref m_last, .ref m_pay, .ref m_rise, .ref m_sure, .ref m_hasChoice, .ref m_isTaken, .ref m_isHurt, .ref m_dead, .ref m_usedSpare, .ref m_owner, .ref m_giver, .ref m_guarded, .ref m_drawnOf, .ref m_drawnTo, .int 0, .int 0, .ref m_table, .int 0, .ref m_moved, .ref m_from, .ref m_to, .ref m_guard, .ref m_worths, .ref m_ringClub, .ref m_ringGives, .int 0, .ref m_triedClub, .ref m_triedGives, .int 0, .int 0, .ref m_toldClub, .ref m_toldGives, .ref m_isOut, .ref m_purse, .int 0]))]) [2] rfl
    have hKc := hK.sub (tys' := []) [] rfl
    refine vp_callSi (W.runV (As := [.int (xs 1)]) (rest := [.int (-2000000000)]) ⟨hx, hb, hml, hown, hts⟩ (mX_gain l dC dI ([(mo, .inr (12, [.ref m_tape, .int 0, .int 0, .int 0, .int 0, .int 0, .int 0, .int 0, .int 0, .int (-1), .ref m_laws, .ref m_hasLaws, .int 0, .int 0, .ref m_clubOf, .ref m_first, .ref m_last, .ref m_pay, .ref m_rise, .ref m_sure, .ref m_hasChoice, .ref m_isTaken, .ref m_isHurt, .ref m_dead, .ref m_usedSpare, .ref m_owner, .ref m_giver, .ref m_guarded, .ref m_drawnOf, .ref m_drawnTo, .int 0, .int 0, .ref m_table, .int 0, .ref m_moved, .ref m_from, .ref m_to, .ref m_guard, .ref m_worths, .ref m_ringClub, .ref m_ringGives, .int 0, .ref m_triedClub, .ref m_triedGives, .int 0, .int 0, .ref m_toldClub, .ref m_toldGives, .ref m_isOut, .ref m_purse, .int 0]))]) ([]) 0 rfl (xs 1) ((xs 1).toInt) rfl) (cwV 1 hts gL_law_X12_gain rfl rfl rfl (by decide +kernel) ⟨Nat.le_of_ble_eq_true rfl, Nat.le_of_ble_eq_true rfl⟩) ⟨xR_blind _ _ _ _, va_recv hKc hPc (ci := 12) (q0 := 0) rfl rfl, xR_pre _ hE hKc hPc⟩ rfl rfl hl.1 rfl (lv_room (Nat.le_of_ble_eq_true rfl)) dL_law_854 ⟨Nat.le_of_ble_eq_true rfl, Nat.le_of_ble_eq_true rfl⟩) (fun rh5 h5 => ?_)
    rcases h5 with ⟨rfl, h5⟩ | ⟨rfl, h5⟩
    · skip
      refine lv_icmp_eq (tgt := 1242) hx hb dL_law_857 (by decide) (fun _ => ?_) (fun h => absurd (by first | rfl | (exfalso; omega)) h)
      refine lv_iinc (v := 8) (lv' := [(3, .int 8), (2, .ref mo), (1, .ref cp), (0, .ref b)]) hx hb dL_law_1242 hl (k := 0) rfl (by decide) (by decide) rfl (fun ls hl => ?_)
      refine lv_goto (tgt := 18) hx hb dL_law_1245 (by decide) ?_
      refine lv_iload_n hx hb dL_law_18 rfl (lv_at hl 0 rfl) ?_
      refine lv_aload_n hx hb dL_law_19 rfl (lv_at hl 3 rfl) ?_
      refine va_slen hx hb hX hbl hbA hS dL_law_20 ?_
      refine xw_i (v := 8) rfl ?_
      refine lv_bipush (v := 8) hx hb dL_law_21 (by decide) ?_
      refine lv_isub hx hb dL_law_23 ?_
      refine xw_i (v := 0) (by decide) ?_
      refine lv_icmp_gt (tgt := 1248) hx hb dL_law_24 (by decide) (fun _ => ?_) (fun h => absurd (by decide) h)
      refine lv_iconst (v := 1) hx hb dL_law_1248 (by decide) ?_
      refine va_forget (fun q hq => by have h9 := hS.2.2 q hq; rw [← hAe] at h9; exact h9) ?_
      refine W.widen (k := 600000) (n := 7302250) (by decide) (by decide) ?_
      exact lw_ret hx hb hr hlocks dL_law_1249
    · skip
      refine lv_icmp_eq (tgt := 1242) hx hb dL_law_857 (by decide) (fun _ => ?_) (fun h => absurd (by first | rfl | (exfalso; omega)) h)
      refine lv_iinc (v := 8) (lv' := [(3, .int 8), (2, .ref mo), (1, .ref cp), (0, .ref b)]) hx hb dL_law_1242 hl (k := 0) rfl (by decide) (by decide) rfl (fun ls hl => ?_)
      refine lv_goto (tgt := 18) hx hb dL_law_1245 (by decide) ?_
      refine lv_iload_n hx hb dL_law_18 rfl (lv_at hl 0 rfl) ?_
      refine lv_aload_n hx hb dL_law_19 rfl (lv_at hl 3 rfl) ?_
      refine va_slen hx hb hX hbl hbA hS dL_law_20 ?_
      refine xw_i (v := 8) rfl ?_
      refine lv_bipush (v := 8) hx hb dL_law_21 (by decide) ?_
      refine lv_isub hx hb dL_law_23 ?_
      refine xw_i (v := 0) (by decide) ?_
      refine lv_icmp_gt (tgt := 1248) hx hb dL_law_24 (by decide) (fun _ => ?_) (fun h => absurd (by decide) h)
      refine lv_iconst (v := 1) hx hb dL_law_1248 (by decide) ?_
      refine va_forget (fun q hq => by have h9 := hS.2.2 q hq; rw [← hAe] at h9; exact h9) ?_
      refine W.widen (k := 600000) (n := 7302250) (by decide) (by decide) ?_
      exact lw_ret hx hb hr hlocks dL_law_1249
set_option maxHeartbeats 8000000 in
set_option maxRecDepth 100000 in
theorem law_18 {p : Program} {l : Launch} {e : Env} {s : State} {m : MethodId} {below : List Frame} {meth : Method} {c : Code} {dC : Nat → ClassId} {dI : Nat → Nat → Nat} {b : Nat} {xs : Nat → Int32} (C0 : lw_At p s m meth c b 8 xs) {A : Nat → Prop} (hAe : (fun q : Nat => s.heap.size ≤ q) = A) {tU : Nat} (hU : xU tU A s s.heap) (cp tp lb rd bk tn td rg dr cg tt th tf to ts mo m_tape m_laws m_hasLaws m_clubOf m_first m_last m_pay m_rise m_sure m_hasChoice m_isTaken m_isHurt m_dead m_usedSpare m_owner m_giver m_guarded m_drawnOf m_drawnTo m_table m_moved m_from m_to m_guard m_worths m_ringClub m_ringGives m_triedClub m_triedGives m_toldClub m_toldGives m_isOut m_purse : Nat)    (hK : va_K (dC, dI) vwCl [] s) (H : Heap) (locs : List Loc) (hP : va_P (dC, dI) vwCl [(cp, .inr (11, [.ref tp, .ref lb, .ref rd, .ref bk, .ref tn, .ref td, .ref rg, .ref dr])), (td, .inr (9, [.ref bk, .ref tn, .ref cg, .int 0, .int 0, .ref tt, .ref th, .ref tf, .ref to, .ref ts])), (mo, .inr (12, [.ref m_tape, .int 0, .int 0, .int 0, .int 0, .int 0, .int 0, .int 0, .int 0, .int (-1), .ref m_laws, .ref m_hasLaws, .int 0, .int 0, .ref m_clubOf, .ref m_first, .ref m_last, .ref m_pay, .ref m_rise, .ref m_sure, .ref m_hasChoice, .ref m_isTaken, .ref m_isHurt, .ref m_dead, .ref m_usedSpare, .ref m_owner, .ref m_giver, .ref m_guarded, .ref m_drawnOf, .ref m_drawnTo, .int 0, .int 0, .ref m_table, .int 0, .ref m_moved, .ref m_from, .ref m_to, .ref m_guard, .ref m_worths, .ref m_ringClub, .ref m_ringGives, .int 0, .ref m_triedClub, .ref m_triedGives, .int 0, .int 0, .ref m_toldClub, .ref m_toldGives, .ref m_isOut, .ref m_purse, .int 0]))] H) (hD : va_D A [(cp, .inr (11, [.ref tp, .ref lb, .ref rd, .ref bk, .ref tn, .ref td, .ref rg, .ref dr])), (td, .inr (9, [.ref bk, .ref tn, .ref cg, .int 0, .int 0, .ref tt, .ref th, .ref tf, .ref to, .ref ts])), (mo, .inr (12, [.ref m_tape, .int 0, .int 0, .int 0, .int 0, .int 0, .int 0, .int 0, .int 0, .int (-1), .ref m_laws, .ref m_hasLaws, .int 0, .int 0, .ref m_clubOf, .ref m_first, .ref m_last, .ref m_pay, .ref m_rise, .ref m_sure, .ref m_hasChoice, .ref m_isTaken, .ref m_isHurt, .ref m_dead, .ref m_usedSpare, .ref m_owner, .ref m_giver, .ref m_guarded, .ref m_drawnOf, .ref m_drawnTo, .int 0, .int 0, .ref m_table, .int 0, .ref m_moved, .ref m_from, .ref m_to, .ref m_guard, .ref m_worths, .ref m_ringClub, .ref m_ringGives, .int 0, .ref m_triedClub, .ref m_triedGives, .int 0, .int 0, .ref m_toldClub, .ref m_toldGives, .ref m_isOut, .ref m_purse, .int 0]))]) (hS : va_S A s.heap H locs) (ls : Array Slot) (hl : lv_has ls 4 [(3, .int 0), (2, .ref mo), (1, .ref cp), (0, .ref b)]) : W p l e room_1 s m #[Value.ref b] below meth c H locs 178 9908 (lw_Z below #[Value.ref b] s) (F0 m 862 ls []) := by
  obtain ⟨hx, hb, hr, hml, hown, hts0, hX, hbl, hlocks, hgv⟩ := id C0
  have hE := xs_E hts0
  have hts : ∀ w ∈ wsL_law, w.before #[Value.ref b] s = true := fun w h => hts0 w (wsL_law_in w h)
  have hA : ∀ q : Nat, s.heap.size ≤ q → A q := fun q h => by rw [← hAe]; exact h
  have hbA : ¬ A b := by rw [← hAe]; exact Nat.not_le.mpr hbl
  have lo0 := xi_lo (xs 0)
  have hi0 := xi_hi (xs 0)
  have lo1 := xi_lo (xs 1)
  have hi1 := xi_hi (xs 1)
  have lo2 := xi_lo (xs 2)
  have hi2 := xi_hi (xs 2)
  have lo3 := xi_lo (xs 3)
  have hi3 := xi_hi (xs 3)
  have lo4 := xi_lo (xs 4)
  have hi4 := xi_hi (xs 4)
  have lo5 := xi_lo (xs 5)
  have hi5 := xi_hi (xs 5)
  have lo6 := xi_lo (xs 6)
  have hi6 := xi_hi (xs 6)
  have lo7 := xi_lo (xs 7)
  have hi7 := xi_hi (xs 7)
  refine lv_aload_n hx hb dL_law_862 rfl (lv_at hl 2 rfl) ?_
  have hPc := hP.sub (ws' := [(cp, .inr (11, [.ref tp, .ref lb, .ref rd, .ref bk, .ref tn, .ref td, .ref rg, .ref dr])), (td, .inr (9, [.ref bk, .ref tn, .ref cg, .int 0, .int 0, .ref tt, .ref th, .ref tf, .ref to, .ref ts]))]) [0, 1] rfl
  have hKc := hK.sub (tys' := []) [] rfl
  refine vp_callSi (W.runV (As := []) (rest := []) ⟨hx, hb, hml, hown, hts⟩ (aX_deal l dC dI ([(cp, .inr (11, [.ref tp, .ref lb, .ref rd, .ref bk, .ref tn, .ref td, .ref rg, .ref dr])), (td, .inr (9, [.ref bk, .ref tn, .ref cg, .int 0, .int 0, .ref tt, .ref th, .ref tf, .ref to, .ref ts]))]) ([]) 0 rfl 1 rfl) (cwV 0 hts gL_law_X11_deal rfl rfl rfl (by decide +kernel) ⟨Nat.le_of_ble_eq_true rfl, Nat.le_of_ble_eq_true rfl⟩) ⟨xR_blind _ _ _ _, va_recv hKc hPc (ci := 11) (q0 := 0) rfl rfl, xR_pre _ hE hKc hPc⟩ rfl rfl hl.1 rfl (lv_room (Nat.le_of_ble_eq_true rfl)) dL_law_863 ⟨Nat.le_of_ble_eq_true rfl, Nat.le_of_ble_eq_true rfl⟩) (fun rh1 h1 => ?_)
  obtain ⟨rfl, h1⟩ := h1
  refine lv_aload_n hx hb dL_law_866 rfl (lv_at hl 1 rfl) ?_
  have hPc := hP.sub (ws' := [(mo, .inr (12, [.ref m_tape, .int 0, .int 0, .int 0, .int 0, .int 0, .int 0, .int 0, .int 0, .int (-1), .ref m_laws, .ref m_hasLaws, .int 0, .int 0, .ref m_clubOf, .ref m_first, .ref m_last, .ref m_pay, .ref m_rise, .ref m_sure, .ref m_hasChoice, .ref m_isTaken, .ref m_isHurt, .ref m_dead, .ref m_usedSpare, .ref m_owner, .ref m_giver, .ref m_guarded, .ref m_drawnOf, .ref m_drawnTo, .int 0, .int 0, .ref m_table, .int 0, .ref m_moved, .ref m_from, .ref m_to, .ref m_guard, .ref m_worths, .ref m_ringClub, .ref m_ringGives, .int 0, .ref m_triedClub, .ref m_triedGives, .int 0, .int 0, .ref m_toldClub, .ref m_toldGives, .ref m_isOut, .ref m_purse, .int 0]))]) [2] rfl
  have hKc := hK.sub (tys' := []) [] rfl
  refine vp_callSi (W.runV (As := []) (rest := [.int (-4)]) ⟨hx, hb, hml, hown, hts⟩ (mX_deal l dC dI ([(mo, .inr (12, [.ref m_tape, .int 0, .int 0, .int 0, .int 0, .int 0, .int 0, .int 0, .int 0, .int (-1), .ref m_laws, .ref m_hasLaws, .int 0, .int 0, .ref m_clubOf, .ref m_first, .ref m_last, .ref m_pay, .ref m_rise, .ref m_sure, .ref m_hasChoice, .ref m_isTaken, .ref m_isHurt, .ref m_dead, .ref m_usedSpare, .ref m_owner, .ref m_giver, .ref m_guarded, .ref m_drawnOf, .ref m_drawnTo, .int 0, .int 0, .ref m_table, .int 0, .ref m_moved, .ref m_from, .ref m_to, .ref m_guard, .ref m_worths, .ref m_ringClub, .ref m_ringGives, .int 0, .ref m_triedClub, .ref m_triedGives, .int 0, .int 0, .ref m_toldClub, .ref m_toldGives, .ref m_isOut, .ref m_purse, .int 0]))]) ([]) 0 rfl) (cwV 0 hts gL_law_X12_deal rfl rfl rfl (by decide +kernel) ⟨Nat.le_of_ble_eq_true rfl, Nat.le_of_ble_eq_true rfl⟩) ⟨xR_blind _ _ _ _, va_recv hKc hPc (ci := 12) (q0 := 0) rfl rfl, xR_pre _ hE hKc hPc⟩ rfl rfl hl.1 rfl (lv_room (Nat.le_of_ble_eq_true rfl)) dL_law_867 ⟨Nat.le_of_ble_eq_true rfl, Nat.le_of_ble_eq_true rfl⟩) (fun rh2 h2 => ?_)
  obtain ⟨rfl, h2⟩ := h2
  refine lv_icmp_eq (tgt := 1242) hx hb dL_law_870 (by decide) (fun _ => ?_) (fun h => absurd (by first | rfl | (exfalso; omega)) h)
  refine lv_iinc (v := 8) (lv' := [(3, .int 8), (2, .ref mo), (1, .ref cp), (0, .ref b)]) hx hb dL_law_1242 hl (k := 0) rfl (by decide) (by decide) rfl (fun ls hl => ?_)
  refine lv_goto (tgt := 18) hx hb dL_law_1245 (by decide) ?_
  refine lv_iload_n hx hb dL_law_18 rfl (lv_at hl 0 rfl) ?_
  refine lv_aload_n hx hb dL_law_19 rfl (lv_at hl 3 rfl) ?_
  refine va_slen hx hb hX hbl hbA hS dL_law_20 ?_
  refine xw_i (v := 8) rfl ?_
  refine lv_bipush (v := 8) hx hb dL_law_21 (by decide) ?_
  refine lv_isub hx hb dL_law_23 ?_
  refine xw_i (v := 0) (by decide) ?_
  refine lv_icmp_gt (tgt := 1248) hx hb dL_law_24 (by decide) (fun _ => ?_) (fun h => absurd (by decide) h)
  refine lv_iconst (v := 1) hx hb dL_law_1248 (by decide) ?_
  refine va_forget (fun q hq => by have h9 := hS.2.2 q hq; rw [← hAe] at h9; exact h9) ?_
  refine W.widen (k := 600000) (n := 7302250) (by decide) (by decide) ?_
  exact lw_ret hx hb hr hlocks dL_law_1249
set_option maxHeartbeats 8000000 in
set_option maxRecDepth 100000 in
theorem law_19 {p : Program} {l : Launch} {e : Env} {s : State} {m : MethodId} {below : List Frame} {meth : Method} {c : Code} {dC : Nat → ClassId} {dI : Nat → Nat → Nat} {b : Nat} {xs : Nat → Int32} (C0 : lw_At p s m meth c b 8 xs) {A : Nat → Prop} (hAe : (fun q : Nat => s.heap.size ≤ q) = A) {tU : Nat} (hU : xU tU A s s.heap) (cp tp lb rd bk tn td rg dr pl de su fi ac mo m_tape m_laws m_hasLaws m_clubOf m_first m_last m_pay m_rise m_sure m_hasChoice m_isTaken m_isHurt m_dead m_usedSpare m_owner m_giver m_guarded m_drawnOf m_drawnTo m_table m_moved m_from m_to m_guard m_worths m_ringClub m_ringGives m_triedClub m_triedGives m_toldClub m_toldGives m_isOut m_purse : Nat)    (hK : va_K (dC, dI) vwCl [] s) (H : Heap) (locs : List Loc) (hP : va_P (dC, dI) vwCl [(cp, .inr (11, [.ref tp, .ref lb, .ref rd, .ref bk, .ref tn, .ref td, .ref rg, .ref dr])), (bk, .inr (0, [.ref lb, .ref pl, .int 0, .int 0, .ref de, .ref su, .ref fi, .int 0, .ref ac])), (mo, .inr (12, [.ref m_tape, .int 0, .int 0, .int 0, .int 0, .int 0, .int 0, .int 0, .int 0, .int (-1), .ref m_laws, .ref m_hasLaws, .int 0, .int 0, .ref m_clubOf, .ref m_first, .ref m_last, .ref m_pay, .ref m_rise, .ref m_sure, .ref m_hasChoice, .ref m_isTaken, .ref m_isHurt, .ref m_dead, .ref m_usedSpare, .ref m_owner, .ref m_giver, .ref m_guarded, .ref m_drawnOf, .ref m_drawnTo, .int 0, .int 0, .ref m_table, .int 0, .ref m_moved, .ref m_from, .ref m_to, .ref m_guard, .ref m_worths, .ref m_ringClub, .ref m_ringGives, .int 0, .ref m_triedClub, .ref m_triedGives, .int 0, .int 0, .ref m_toldClub, .ref m_toldGives, .ref m_isOut, .ref m_purse, .int 0]))] H) (hD : va_D A [(cp, .inr (11, [.ref tp, .ref lb, .ref rd, .ref bk, .ref tn, .ref td, .ref rg, .ref dr])), (bk, .inr (0, [.ref lb, .ref pl, .int 0, .int 0, .ref de, .ref su, .ref fi, .int 0, .ref ac])), (mo, .inr (12, [.ref m_tape, .int 0, .int 0, .int 0, .int 0, .int 0, .int 0, .int 0, .int 0, .int (-1), .ref m_laws, .ref m_hasLaws, .int 0, .int 0, .ref m_clubOf, .ref m_first, .ref m_last, .ref m_pay, .ref m_rise, .ref m_sure, .ref m_hasChoice, .ref m_isTaken, .ref m_isHurt, .ref m_dead, .ref m_usedSpare, .ref m_owner, .ref m_giver, .ref m_guarded, .ref m_drawnOf, .ref m_drawnTo, .int 0, .int 0, .ref m_table, .int 0, .ref m_moved, .ref m_from, .ref m_to, .ref m_guard, .ref m_worths, .ref m_ringClub, .ref m_ringGives, .int 0, .ref m_triedClub, .ref m_triedGives, .int 0, .int 0, .ref m_toldClub, .ref m_toldGives, .ref m_isOut, .ref m_purse, .int 0]))]) (hS : va_S A s.heap H locs) (ls : Array Slot) (hl : lv_has ls 4 [(3, .int 0), (2, .ref mo), (1, .ref cp), (0, .ref b)]) : W p l e room_1 s m #[Value.ref b] below meth c H locs 178 9908 (lw_Z below #[Value.ref b] s) (F0 m 875 ls []) := by
  obtain ⟨hx, hb, hr, hml, hown, hts0, hX, hbl, hlocks, hgv⟩ := id C0
  have hE := xs_E hts0
  have hts : ∀ w ∈ wsL_law, w.before #[Value.ref b] s = true := fun w h => hts0 w (wsL_law_in w h)
  have hA : ∀ q : Nat, s.heap.size ≤ q → A q := fun q h => by rw [← hAe]; exact h
  have hbA : ¬ A b := by rw [← hAe]; exact Nat.not_le.mpr hbl
  have lo0 := xi_lo (xs 0)
  have hi0 := xi_hi (xs 0)
  have lo1 := xi_lo (xs 1)
  have hi1 := xi_hi (xs 1)
  have lo2 := xi_lo (xs 2)
  have hi2 := xi_hi (xs 2)
  have lo3 := xi_lo (xs 3)
  have hi3 := xi_hi (xs 3)
  have lo4 := xi_lo (xs 4)
  have hi4 := xi_hi (xs 4)
  have lo5 := xi_lo (xs 5)
  have hi5 := xi_hi (xs 5)
  have lo6 := xi_lo (xs 6)
  have hi6 := xi_hi (xs 6)
  have lo7 := xi_lo (xs 7)
  have hi7 := xi_hi (xs 7)
  refine lv_aload_n hx hb dL_law_875 rfl (lv_at hl 2 rfl) ?_
  refine lv_aload_n hx hb dL_law_876 rfl (lv_at hl 3 rfl) ?_
  refine lv_iload_n hx hb dL_law_877 rfl (lv_at hl 0 rfl) ?_
  refine lv_iconst (v := 1) hx hb dL_law_878 (by decide) ?_
  refine lv_iadd hx hb dL_law_879 ?_
  refine xw_i (v := 1) (by decide) ?_
  refine va_sld hx hb hX hbl hbA hS (by unfold vp_in; decide) dL_law_880 ?_
  refine xw_i (v := xs 1) rfl ?_
  refine lv_aload_n hx hb dL_law_881 rfl (lv_at hl 3 rfl) ?_
  refine lv_iload_n hx hb dL_law_882 rfl (lv_at hl 0 rfl) ?_
  refine lv_iconst (v := 2) hx hb dL_law_883 (by decide) ?_
  refine lv_iadd hx hb dL_law_884 ?_
  refine xw_i (v := 2) (by decide) ?_
  refine va_sld hx hb hX hbl hbA hS (by unfold vp_in; decide) dL_law_885 ?_
  refine xw_i (v := xs 2) rfl ?_
  refine lv_aload_n hx hb dL_law_886 rfl (lv_at hl 3 rfl) ?_
  refine lv_iload_n hx hb dL_law_887 rfl (lv_at hl 0 rfl) ?_
  refine lv_iconst (v := 3) hx hb dL_law_888 (by decide) ?_
  refine lv_iadd hx hb dL_law_889 ?_
  refine xw_i (v := 3) (by decide) ?_
  refine va_sld hx hb hX hbl hbA hS (by unfold vp_in; decide) dL_law_890 ?_
  refine xw_i (v := xs 3) rfl ?_
  have hPc := hP.sub (ws' := [(cp, .inr (11, [.ref tp, .ref lb, .ref rd, .ref bk, .ref tn, .ref td, .ref rg, .ref dr])), (bk, .inr (0, [.ref lb, .ref pl, .int 0, .int 0, .ref de, .ref su, .ref fi, .int 0, .ref ac]))]) [0, 1] rfl
  have hKc := hK.sub (tys' := []) [] rfl
  refine vp_callSi (W.runV (As := [.int (xs 1), .int (xs 2), .int (xs 3)]) (rest := []) ⟨hx, hb, hml, hown, hts⟩ (aX_worth l dC dI ([(cp, .inr (11, [.ref tp, .ref lb, .ref rd, .ref bk, .ref tn, .ref td, .ref rg, .ref dr])), (bk, .inr (0, [.ref lb, .ref pl, .int 0, .int 0, .ref de, .ref su, .ref fi, .int 0, .ref ac]))]) ([]) 0 rfl 1 rfl (xs 1) ((xs 1).toInt) rfl (xs 2) ((xs 2).toInt) rfl (xs 3) ((xs 3).toInt) rfl) (cwV 3 hts gL_law_X11_worth rfl rfl rfl (by decide +kernel) ⟨Nat.le_of_ble_eq_true rfl, Nat.le_of_ble_eq_true rfl⟩) ⟨xR_blind _ _ _ _, va_recv hKc hPc (ci := 11) (q0 := 0) rfl rfl, xR_pre _ hE hKc hPc⟩ rfl rfl hl.1 rfl (lv_room (Nat.le_of_ble_eq_true rfl)) dL_law_891 ⟨Nat.le_of_ble_eq_true rfl, Nat.le_of_ble_eq_true rfl⟩) (fun rh1 h1 => ?_)
  obtain ⟨rfl, h1⟩ := h1
  refine lv_aload_n hx hb dL_law_894 rfl (lv_at hl 1 rfl) ?_
  refine lv_aload_n hx hb dL_law_895 rfl (lv_at hl 3 rfl) ?_
  refine lv_iload_n hx hb dL_law_896 rfl (lv_at hl 0 rfl) ?_
  refine lv_iconst (v := 1) hx hb dL_law_897 (by decide) ?_
  refine lv_iadd hx hb dL_law_898 ?_
  refine xw_i (v := 1) (by decide) ?_
  refine va_sld hx hb hX hbl hbA hS (by unfold vp_in; decide) dL_law_899 ?_
  refine xw_i (v := xs 1) rfl ?_
  refine lv_aload_n hx hb dL_law_900 rfl (lv_at hl 3 rfl) ?_
  refine lv_iload_n hx hb dL_law_901 rfl (lv_at hl 0 rfl) ?_
  refine lv_iconst (v := 2) hx hb dL_law_902 (by decide) ?_
  refine lv_iadd hx hb dL_law_903 ?_
  refine xw_i (v := 2) (by decide) ?_
  refine va_sld hx hb hX hbl hbA hS (by unfold vp_in; decide) dL_law_904 ?_
  refine xw_i (v := xs 2) rfl ?_
  refine lv_aload_n hx hb dL_law_905 rfl (lv_at hl 3 rfl) ?_
  refine lv_iload_n hx hb dL_law_906 rfl (lv_at hl 0 rfl) ?_
  refine lv_iconst (v := 3) hx hb dL_law_907 (by decide) ?_
  refine lv_iadd hx hb dL_law_908 ?_
  refine xw_i (v := 3) (by decide) ?_
  refine va_sld hx hb hX hbl hbA hS (by unfold vp_in; decide) dL_law_909 ?_
  refine xw_i (v := xs 3) rfl ?_
  have hPc := hP.sub (ws' := [(mo, .inr (12, [.ref m_tape, .int 0, .int 0, .int 0, .int 0, .int 0, .int 0, .int 0, .int 0, .int (-1), .ref m_laws, .ref m_hasLaws, .int 0, .int 0, .ref m_clubOf, .ref m_first, .ref m_last, .ref m_pay, .ref m_rise, .ref m_sure, .ref m_hasChoice, .ref m_isTaken, .ref m_isHurt, .ref m_dead, .ref m_usedSpare, .ref m_owner, .ref m_giver, .ref m_guarded, .ref m_drawnOf, .ref m_drawnTo, .int 0, .int 0, .ref m_table, .int 0, .ref m_moved, .ref m_from, .ref m_to, .ref m_guard, .ref m_worths, .ref m_ringClub, .ref m_ringGives, .int 0, .ref m_triedClub, .ref m_triedGives, .int 0, .int 0, .ref m_toldClub, .ref m_toldGives, .ref m_isOut, .ref m_purse, .int 0]))]) [2] rfl
  have hKc := hK.sub (tys' := []) [] rfl
  refine vp_callSi (W.runV (As := [.int (xs 1), .int (xs 2), .int (xs 3)]) (rest := [.int (-2)]) ⟨hx, hb, hml, hown, hts⟩ (mX_worth l dC dI ([(mo, .inr (12, [.ref m_tape, .int 0, .int 0, .int 0, .int 0, .int 0, .int 0, .int 0, .int 0, .int (-1), .ref m_laws, .ref m_hasLaws, .int 0, .int 0, .ref m_clubOf, .ref m_first, .ref m_last, .ref m_pay, .ref m_rise, .ref m_sure, .ref m_hasChoice, .ref m_isTaken, .ref m_isHurt, .ref m_dead, .ref m_usedSpare, .ref m_owner, .ref m_giver, .ref m_guarded, .ref m_drawnOf, .ref m_drawnTo, .int 0, .int 0, .ref m_table, .int 0, .ref m_moved, .ref m_from, .ref m_to, .ref m_guard, .ref m_worths, .ref m_ringClub, .ref m_ringGives, .int 0, .ref m_triedClub, .ref m_triedGives, .int 0, .int 0, .ref m_toldClub, .ref m_toldGives, .ref m_isOut, .ref m_purse, .int 0]))]) ([]) 0 rfl (xs 1) ((xs 1).toInt) rfl (xs 2) ((xs 2).toInt) rfl (xs 3) ((xs 3).toInt) rfl) (cwV 3 hts gL_law_X12_worth rfl rfl rfl (by decide +kernel) ⟨Nat.le_of_ble_eq_true rfl, Nat.le_of_ble_eq_true rfl⟩) ⟨xR_blind _ _ _ _, va_recv hKc hPc (ci := 12) (q0 := 0) rfl rfl, xR_pre _ hE hKc hPc⟩ rfl rfl hl.1 rfl (lv_room (Nat.le_of_ble_eq_true rfl)) dL_law_910 ⟨Nat.le_of_ble_eq_true rfl, Nat.le_of_ble_eq_true rfl⟩) (fun rh2 h2 => ?_)
  obtain ⟨rfl, h2⟩ := h2
  refine lv_icmp_eq (tgt := 1242) hx hb dL_law_913 (by decide) (fun _ => ?_) (fun h => absurd (by first | rfl | (exfalso; omega)) h)
  refine lv_iinc (v := 8) (lv' := [(3, .int 8), (2, .ref mo), (1, .ref cp), (0, .ref b)]) hx hb dL_law_1242 hl (k := 0) rfl (by decide) (by decide) rfl (fun ls hl => ?_)
  refine lv_goto (tgt := 18) hx hb dL_law_1245 (by decide) ?_
  refine lv_iload_n hx hb dL_law_18 rfl (lv_at hl 0 rfl) ?_
  refine lv_aload_n hx hb dL_law_19 rfl (lv_at hl 3 rfl) ?_
  refine va_slen hx hb hX hbl hbA hS dL_law_20 ?_
  refine xw_i (v := 8) rfl ?_
  refine lv_bipush (v := 8) hx hb dL_law_21 (by decide) ?_
  refine lv_isub hx hb dL_law_23 ?_
  refine xw_i (v := 0) (by decide) ?_
  refine lv_icmp_gt (tgt := 1248) hx hb dL_law_24 (by decide) (fun _ => ?_) (fun h => absurd (by decide) h)
  refine lv_iconst (v := 1) hx hb dL_law_1248 (by decide) ?_
  refine va_forget (fun q hq => by have h9 := hS.2.2 q hq; rw [← hAe] at h9; exact h9) ?_
  refine W.widen (k := 600000) (n := 7302250) (by decide) (by decide) ?_
  exact lw_ret hx hb hr hlocks dL_law_1249
set_option maxHeartbeats 8000000 in
set_option maxRecDepth 100000 in
theorem law_20 {p : Program} {l : Launch} {e : Env} {s : State} {m : MethodId} {below : List Frame} {meth : Method} {c : Code} {dC : Nat → ClassId} {dI : Nat → Nat → Nat} {b : Nat} {xs : Nat → Int32} (C0 : lw_At p s m meth c b 8 xs) {A : Nat → Prop} (hAe : (fun q : Nat => s.heap.size ≤ q) = A) {tU : Nat} (hU : xU tU A s s.heap) (cp tp lb rd bk tn td rg dr ho sh gi wo mo m_tape m_laws m_hasLaws m_clubOf m_first m_last m_pay m_rise m_sure m_hasChoice m_isTaken m_isHurt m_dead m_usedSpare m_owner m_giver m_guarded m_drawnOf m_drawnTo m_table m_moved m_from m_to m_guard m_worths m_ringClub m_ringGives m_triedClub m_triedGives m_toldClub m_toldGives m_isOut m_purse : Nat) (k_wO k_wI k_worths : ClassId)   (hK : va_K (dC, dI) vwCl [(k_wO, (.array .int)), (k_wI, .int), (k_worths, .int)] s) (H : Heap) (locs : List Loc) (hP : va_P (dC, dI) vwCl [(cp, .inr (11, [.ref tp, .ref lb, .ref rd, .ref bk, .ref tn, .ref td, .ref rg, .ref dr])), (tn, .inr (10, [.ref ho, .ref sh, .ref gi, .ref wo])), (wo, .inl (k_wO, 8, .inr (.inr (.inr (.inr (fun j => if j < 8 then some (wo + 1 + j) else none)))))), ((wo + 1 + 0), .inl (k_wI, 80, .inl (fun _ => 0))), ((wo + 1 + 1), .inl (k_wI, 80, .inl (fun _ => 0))), ((wo + 1 + 2), .inl (k_wI, 80, .inl (fun _ => 0))), ((wo + 1 + 3), .inl (k_wI, 80, .inl (fun _ => 0))), ((wo + 1 + 4), .inl (k_wI, 80, .inl (fun _ => 0))), ((wo + 1 + 5), .inl (k_wI, 80, .inl (fun _ => 0))), ((wo + 1 + 6), .inl (k_wI, 80, .inl (fun _ => 0))), ((wo + 1 + 7), .inl (k_wI, 80, .inl (fun _ => 0))), (mo, .inr (12, [.ref m_tape, .int 0, .int 0, .int 0, .int 0, .int 0, .int 0, .int 0, .int 0, .int (-1), .ref m_laws, .ref m_hasLaws, .int 0, .int 0, .ref m_clubOf, .ref m_first, .ref m_last, .ref m_pay, .ref m_rise, .ref m_sure, .ref m_hasChoice, .ref m_isTaken, .ref m_isHurt, .ref m_dead, .ref m_usedSpare, .ref m_owner, .ref m_giver, .ref m_guarded, .ref m_drawnOf, .ref m_drawnTo, .int 0, .int 0, .ref m_table, .int 0, .ref m_moved, .ref m_from, .ref m_to, .ref m_guard, .ref m_worths, .ref m_ringClub, .ref m_ringGives, .int 0, .ref m_triedClub, .ref m_triedGives, .int 0, .int 0, .ref m_toldClub, .ref m_toldGives, .ref m_isOut, .ref m_purse, .int 0])), (m_worths, .inl (k_worths, 1120, .inl (fun _ => 0)))] H) (hD : va_D A [(cp, .inr (11, [.ref tp, .ref lb, .ref rd, .ref bk, .ref tn, .ref td, .ref rg, .ref dr])), (tn, .inr (10, [.ref ho, .ref sh, .ref gi, .ref wo])), (wo, .inl (k_wO, 8, .inr (.inr (.inr (.inr (fun j => if j < 8 then some (wo + 1 + j) else none)))))), ((wo + 1 + 0), .inl (k_wI, 80, .inl (fun _ => 0))), ((wo + 1 + 1), .inl (k_wI, 80, .inl (fun _ => 0))), ((wo + 1 + 2), .inl (k_wI, 80, .inl (fun _ => 0))), ((wo + 1 + 3), .inl (k_wI, 80, .inl (fun _ => 0))), ((wo + 1 + 4), .inl (k_wI, 80, .inl (fun _ => 0))), ((wo + 1 + 5), .inl (k_wI, 80, .inl (fun _ => 0))), ((wo + 1 + 6), .inl (k_wI, 80, .inl (fun _ => 0))), ((wo + 1 + 7), .inl (k_wI, 80, .inl (fun _ => 0))), (mo, .inr (12, [.ref m_tape, .int 0, .int 0, .int 0, .int 0, .int 0, .int 0, .int 0, .int 0, .int (-1), .ref m_laws, .ref m_hasLaws, .int 0, .int 0, .ref m_clubOf, .ref m_first, .ref m_last, .ref m_pay, .ref m_rise, .ref m_sure, .ref m_hasChoice, .ref m_isTaken, .ref m_isHurt, .ref m_dead, .ref m_usedSpare, .ref m_owner, .ref m_giver, .ref m_guarded, .ref m_drawnOf, .ref m_drawnTo, .int 0, .int 0, .ref m_table, .int 0, .ref m_moved, .ref m_from, .ref m_to, .ref m_guard, .ref m_worths, .ref m_ringClub, .ref m_ringGives, .int 0, .ref m_triedClub, .ref m_triedGives, .int 0, .int 0, .ref m_toldClub, .ref m_toldGives, .ref m_isOut, .ref m_purse, .int 0])), (m_worths, .inl (k_worths, 1120, .inl (fun _ => 0)))]) (hS : va_S A s.heap H locs) (ls : Array Slot) (hl : lv_has ls 4 [(3, .int 0), (2, .ref mo), (1, .ref cp), (0, .ref b)]) : W p l e room_1 s m #[Value.ref b] below meth c H locs 178 9908 (lw_Z below #[Value.ref b] s) (F0 m 918 ls []) := by
  obtain ⟨hx, hb, hr, hml, hown, hts0, hX, hbl, hlocks, hgv⟩ := id C0
  have hE := xs_E hts0
  have hts : ∀ w ∈ wsL_law, w.before #[Value.ref b] s = true := fun w h => hts0 w (wsL_law_in w h)
  have hA : ∀ q : Nat, s.heap.size ≤ q → A q := fun q h => by rw [← hAe]; exact h
  have hbA : ¬ A b := by rw [← hAe]; exact Nat.not_le.mpr hbl
  have lo0 := xi_lo (xs 0)
  have hi0 := xi_hi (xs 0)
  have lo1 := xi_lo (xs 1)
  have hi1 := xi_hi (xs 1)
  have lo2 := xi_lo (xs 2)
  have hi2 := xi_hi (xs 2)
  have lo3 := xi_lo (xs 3)
  have hi3 := xi_hi (xs 3)
  have lo4 := xi_lo (xs 4)
  have hi4 := xi_hi (xs 4)
  have lo5 := xi_lo (xs 5)
  have hi5 := xi_hi (xs 5)
  have lo6 := xi_lo (xs 6)
  have hi6 := xi_hi (xs 6)
  have lo7 := xi_lo (xs 7)
  have hi7 := xi_hi (xs 7)
  refine lv_aload_n hx hb dL_law_918 rfl (lv_at hl 2 rfl) ?_
  refine lv_aload_n hx hb dL_law_919 rfl (lv_at hl 3 rfl) ?_
  refine lv_iload_n hx hb dL_law_920 rfl (lv_at hl 0 rfl) ?_
  refine lv_iconst (v := 1) hx hb dL_law_921 (by decide) ?_
  refine lv_iadd hx hb dL_law_922 ?_
  refine xw_i (v := 1) (by decide) ?_
  refine va_sld hx hb hX hbl hbA hS (by unfold vp_in; decide) dL_law_923 ?_
  refine xw_i (v := xs 1) rfl ?_
  refine lv_aload_n hx hb dL_law_924 rfl (lv_at hl 3 rfl) ?_
  refine lv_iload_n hx hb dL_law_925 rfl (lv_at hl 0 rfl) ?_
  refine lv_iconst (v := 2) hx hb dL_law_926 (by decide) ?_
  refine lv_iadd hx hb dL_law_927 ?_
  refine xw_i (v := 2) (by decide) ?_
  refine va_sld hx hb hX hbl hbA hS (by unfold vp_in; decide) dL_law_928 ?_
  refine xw_i (v := xs 2) rfl ?_
  refine lv_aload_n hx hb dL_law_929 rfl (lv_at hl 3 rfl) ?_
  refine lv_iload_n hx hb dL_law_930 rfl (lv_at hl 0 rfl) ?_
  refine lv_iconst (v := 3) hx hb dL_law_931 (by decide) ?_
  refine lv_iadd hx hb dL_law_932 ?_
  refine xw_i (v := 3) (by decide) ?_
  refine va_sld hx hb hX hbl hbA hS (by unfold vp_in; decide) dL_law_933 ?_
  refine xw_i (v := xs 3) rfl ?_
  refine lv_aload_n hx hb dL_law_934 rfl (lv_at hl 3 rfl) ?_
  refine lv_iload_n hx hb dL_law_935 rfl (lv_at hl 0 rfl) ?_
  refine lv_iconst (v := 4) hx hb dL_law_936 (by decide) ?_
  refine lv_iadd hx hb dL_law_937 ?_
  refine xw_i (v := 4) (by decide) ?_
  refine va_sld hx hb hX hbl hbA hS (by unfold vp_in; decide) dL_law_938 ?_
  refine xw_i (v := xs 4) rfl ?_
  have hPc := hP.sub (ws' := [(cp, .inr (11, [.ref tp, .ref lb, .ref rd, .ref bk, .ref tn, .ref td, .ref rg, .ref dr])), (tn, .inr (10, [.ref ho, .ref sh, .ref gi, .ref wo])), (wo, .inl (k_wO, 8, .inr (.inr (.inr (.inr (fun j => if j < 8 then some (wo + 1 + j) else none)))))), ((wo + 1 + 0), .inl (k_wI, 80, .inl (fun _ => 0))), ((wo + 1 + 1), .inl (k_wI, 80, .inl (fun _ => 0))), ((wo + 1 + 2), .inl (k_wI, 80, .inl (fun _ => 0))), ((wo + 1 + 3), .inl (k_wI, 80, .inl (fun _ => 0))), ((wo + 1 + 4), .inl (k_wI, 80, .inl (fun _ => 0))), ((wo + 1 + 5), .inl (k_wI, 80, .inl (fun _ => 0))), ((wo + 1 + 6), .inl (k_wI, 80, .inl (fun _ => 0))), ((wo + 1 + 7), .inl (k_wI, 80, .inl (fun _ => 0)))]) [0, 1, 2, 3, 4, 5, 6, 7, 8, 9, 10] rfl
  have hDc := hD.sub (ws' := [(cp, .inr (11, [.ref tp, .ref lb, .ref rd, .ref bk, .ref tn, .ref td, .ref rg, .ref dr])), (tn, .inr (10, [.ref ho, .ref sh, .ref gi, .ref wo])), (wo, .inl (k_wO, 8, .inr (.inr (.inr (.inr (fun j => if j < 8 then some (wo + 1 + j) else none)))))), ((wo + 1 + 0), .inl (k_wI, 80, .inl (fun _ => 0))), ((wo + 1 + 1), .inl (k_wI, 80, .inl (fun _ => 0))), ((wo + 1 + 2), .inl (k_wI, 80, .inl (fun _ => 0))), ((wo + 1 + 3), .inl (k_wI, 80, .inl (fun _ => 0))), ((wo + 1 + 4), .inl (k_wI, 80, .inl (fun _ => 0))), ((wo + 1 + 5), .inl (k_wI, 80, .inl (fun _ => 0))), ((wo + 1 + 6), .inl (k_wI, 80, .inl (fun _ => 0))), ((wo + 1 + 7), .inl (k_wI, 80, .inl (fun _ => 0)))]) [0, 1, 2, 3, 4, 5, 6, 7, 8, 9, 10] (by decide) rfl
  have hKc := hK.sub (tys' := [(k_wO, (.array .int)), (k_wI, .int), (k_wI, .int), (k_wI, .int), (k_wI, .int), (k_wI, .int), (k_wI, .int), (k_wI, .int), (k_wI, .int)]) [0, 1, 1, 1, 1, 1, 1, 1, 1] rfl
  have hFc := va_free (wc := [(cp, .inr (11, [.ref tp, .ref lb, .ref rd, .ref bk, .ref tn, .ref td, .ref rg, .ref dr])), (tn, .inr (10, [.ref ho, .ref sh, .ref gi, .ref wo])), (wo, .inl (k_wO, 8, .inr (.inr (.inr (.inr (fun j => if j < 8 then some (wo + 1 + j) else none)))))), ((wo + 1 + 0), .inl (k_wI, 80, .inl (fun _ => 0))), ((wo + 1 + 1), .inl (k_wI, 80, .inl (fun _ => 0))), ((wo + 1 + 2), .inl (k_wI, 80, .inl (fun _ => 0))), ((wo + 1 + 3), .inl (k_wI, 80, .inl (fun _ => 0))), ((wo + 1 + 4), .inl (k_wI, 80, .inl (fun _ => 0))), ((wo + 1 + 5), .inl (k_wI, 80, .inl (fun _ => 0))), ((wo + 1 + 6), .inl (k_wI, 80, .inl (fun _ => 0))), ((wo + 1 + 7), .inl (k_wI, 80, .inl (fun _ => 0)))]) hD hS hA [0, 1, 2, 3, 4, 5, 6, 7, 8, 9, 10] rfl
  refine va_calli (va_runV (As := [.int (xs 1), .int (xs 2), .int (xs 3), .int (xs 4)]) (rest := []) ⟨hx, hb, hml, hown, hts⟩ (aX_worthTurn l dC dI cp tp lb rd bk tn td rg dr ho sh gi wo k_wO k_wI   _ (xs 1) ((xs 1).toInt) rfl (xs 2) ((xs 2).toInt) rfl (xs 3) ((xs 3).toInt) rfl (xs 4) ((xs 4).toInt) rfl) (cwV 4 hts gL_law_X11_worthTurn rfl rfl rfl (by decide +kernel) ⟨Nat.le_of_ble_eq_true rfl, Nat.le_of_ble_eq_true rfl⟩) ⟨xW_blind _ _ _ _ _, va_recv hKc hPc (ci := 11) (q0 := 0) rfl rfl, xW_pre _ hE hKc hPc hDc⟩ rfl rfl hl.1 rfl (lv_room (Nat.le_of_ble_eq_true rfl)) dL_law_939 ⟨Nat.le_of_ble_eq_true rfl, Nat.le_of_ble_eq_true rfl⟩) hS (fun q _ h => hFc q h) hFc (fun rh1 u t H1 locs ht hvm h1 hB hz1 hk1 hS => ?_)
  obtain ⟨hP, hD⟩ := va_join (wr := [(mo, .inr (12, [.ref m_tape, .int 0, .int 0, .int 0, .int 0, .int 0, .int 0, .int 0, .int 0, .int (-1), .ref m_laws, .ref m_hasLaws, .int 0, .int 0, .ref m_clubOf, .ref m_first, .ref m_last, .ref m_pay, .ref m_rise, .ref m_sure, .ref m_hasChoice, .ref m_isTaken, .ref m_isHurt, .ref m_dead, .ref m_usedSpare, .ref m_owner, .ref m_giver, .ref m_guarded, .ref m_drawnOf, .ref m_drawnTo, .int 0, .int 0, .ref m_table, .int 0, .ref m_moved, .ref m_from, .ref m_to, .ref m_guard, .ref m_worths, .ref m_ringClub, .ref m_ringGives, .int 0, .ref m_triedClub, .ref m_triedGives, .int 0, .int 0, .ref m_toldClub, .ref m_toldGives, .ref m_isOut, .ref m_purse, .int 0])), (m_worths, .inl (k_worths, 1120, .inl (fun _ => 0)))]) (w1 := []) hP hD [0, 1, 2, 3, 4, 5, 6, 7, 8, 9, 10] [11, 12] rfl rfl (by decide) (by decide) hk1 hFc xz_P xz_D
  generalize H1 = H at hP hS ⊢
  replace hP : va_P (dC, dI) vwCl [(mo, .inr (12, [.ref m_tape, .int 0, .int 0, .int 0, .int 0, .int 0, .int 0, .int 0, .int 0, .int (-1), .ref m_laws, .ref m_hasLaws, .int 0, .int 0, .ref m_clubOf, .ref m_first, .ref m_last, .ref m_pay, .ref m_rise, .ref m_sure, .ref m_hasChoice, .ref m_isTaken, .ref m_isHurt, .ref m_dead, .ref m_usedSpare, .ref m_owner, .ref m_giver, .ref m_guarded, .ref m_drawnOf, .ref m_drawnTo, .int 0, .int 0, .ref m_table, .int 0, .ref m_moved, .ref m_from, .ref m_to, .ref m_guard, .ref m_worths, .ref m_ringClub, .ref m_ringGives, .int 0, .ref m_triedClub, .ref m_triedGives, .int 0, .int 0, .ref m_toldClub, .ref m_toldGives, .ref m_isOut, .ref m_purse, .int 0])), (m_worths, .inl (k_worths, 1120, .inl (fun _ => 0)))] H := hP
  replace hD : va_D A [(mo, .inr (12, [.ref m_tape, .int 0, .int 0, .int 0, .int 0, .int 0, .int 0, .int 0, .int 0, .int (-1), .ref m_laws, .ref m_hasLaws, .int 0, .int 0, .ref m_clubOf, .ref m_first, .ref m_last, .ref m_pay, .ref m_rise, .ref m_sure, .ref m_hasChoice, .ref m_isTaken, .ref m_isHurt, .ref m_dead, .ref m_usedSpare, .ref m_owner, .ref m_giver, .ref m_guarded, .ref m_drawnOf, .ref m_drawnTo, .int 0, .int 0, .ref m_table, .int 0, .ref m_moved, .ref m_from, .ref m_to, .ref m_guard, .ref m_worths, .ref m_ringClub, .ref m_ringGives, .int 0, .ref m_triedClub, .ref m_triedGives, .int 0, .int 0, .ref m_toldClub, .ref m_toldGives, .ref m_isOut, .ref m_purse, .int 0])), (m_worths, .inl (k_worths, 1120, .inl (fun _ => 0)))] := hD
  replace hK : va_K (dC, dI) vwCl [(k_wO, (.array .int)), (k_wI, .int), (k_worths, .int)] s := hK
  refine W.cs (cells' := 178) (slots' := 9908) rfl rfl ?_
  rcases h1 with ⟨rfl, h1⟩ | ⟨rfl, h1⟩
  · skip
    refine lv_aload_n hx hb dL_law_942 rfl (lv_at hl 1 rfl) ?_
    refine lv_aload_n hx hb dL_law_943 rfl (lv_at hl 3 rfl) ?_
    refine lv_iload_n hx hb dL_law_944 rfl (lv_at hl 0 rfl) ?_
    refine lv_iconst (v := 1) hx hb dL_law_945 (by decide) ?_
    refine lv_iadd hx hb dL_law_946 ?_
    refine xw_i (v := 1) (by decide) ?_
    refine va_sld hx hb hX hbl hbA hS (by unfold vp_in; decide) dL_law_947 ?_
    refine xw_i (v := xs 1) rfl ?_
    refine lv_aload_n hx hb dL_law_948 rfl (lv_at hl 3 rfl) ?_
    refine lv_iload_n hx hb dL_law_949 rfl (lv_at hl 0 rfl) ?_
    refine lv_iconst (v := 2) hx hb dL_law_950 (by decide) ?_
    refine lv_iadd hx hb dL_law_951 ?_
    refine xw_i (v := 2) (by decide) ?_
    refine va_sld hx hb hX hbl hbA hS (by unfold vp_in; decide) dL_law_952 ?_
    refine xw_i (v := xs 2) rfl ?_
    refine lv_aload_n hx hb dL_law_953 rfl (lv_at hl 3 rfl) ?_
    refine lv_iload_n hx hb dL_law_954 rfl (lv_at hl 0 rfl) ?_
    refine lv_iconst (v := 3) hx hb dL_law_955 (by decide) ?_
    refine lv_iadd hx hb dL_law_956 ?_
    refine xw_i (v := 3) (by decide) ?_
    refine va_sld hx hb hX hbl hbA hS (by unfold vp_in; decide) dL_law_957 ?_
    refine xw_i (v := xs 3) rfl ?_
    refine lv_aload_n hx hb dL_law_958 rfl (lv_at hl 3 rfl) ?_
    refine lv_iload_n hx hb dL_law_959 rfl (lv_at hl 0 rfl) ?_
    refine lv_iconst (v := 4) hx hb dL_law_960 (by decide) ?_
    refine lv_iadd hx hb dL_law_961 ?_
    refine xw_i (v := 4) (by decide) ?_
    refine va_sld hx hb hX hbl hbA hS (by unfold vp_in; decide) dL_law_962 ?_
    refine xw_i (v := xs 4) rfl ?_
    have hPc := hP.sub (ws' := [(mo, .inr (12, [.ref m_tape, .int 0, .int 0, .int 0, .int 0, .int 0, .int 0, .int 0, .int 0, .int (-1), .ref m_laws, .ref m_hasLaws, .int 0, .int 0, .ref m_clubOf, .ref m_first, .ref m_last, .ref m_pay, .ref m_rise, .ref m_sure, .ref m_hasChoice, .ref m_isTaken, .ref m_isHurt, .ref m_dead, .ref m_usedSpare, .ref m_owner, .ref m_giver, .ref m_guarded, .ref m_drawnOf, .ref m_drawnTo, .int 0, .int 0, .ref m_table, .int 0, .ref m_moved, .ref m_from, .ref m_to, .ref m_guard, .ref m_worths, .ref m_ringClub, .ref m_ringGives, .int 0, .ref m_triedClub, .ref m_triedGives, .int 0, .int 0, .ref m_toldClub, .ref m_toldGives, .ref m_isOut, .ref m_purse, .int 0])), (m_worths, .inl (k_worths, 1120, .inl (fun _ => 0)))]) [0, 1] rfl
    have hDc := hD.sub (ws' := [(mo, .inr (12, [.ref m_tape, .int 0, .int 0, .int 0, .int 0, .int 0, .int 0, .int 0, .int 0, .int (-1), .ref m_laws, .ref m_hasLaws, .int 0, .int 0, .ref m_clubOf, .ref m_first, .ref m_last, .ref m_pay, .ref m_rise, .ref m_sure, .ref m_hasChoice, .ref m_isTaken, .ref m_isHurt, .ref m_dead, .ref m_usedSpare, .ref m_owner, .ref m_giver, .ref m_guarded, .ref m_drawnOf, .ref m_drawnTo, .int 0, .int 0, .ref m_table, .int 0, .ref m_moved, .ref m_from, .ref m_to, .ref m_guard, .ref m_worths, .ref m_ringClub, .ref m_ringGives, .int 0, .ref m_triedClub, .ref m_triedGives, .int 0, .int 0, .ref m_toldClub, .ref m_toldGives, .ref m_isOut, .ref m_purse, .int 0])), (m_worths, .inl (k_worths, 1120, .inl (fun _ => 0)))]) [0, 1] (by decide) rfl
    have hKc := hK.sub (tys' := [(k_worths, .int)]) [2] rfl
    have hFc := va_free (wc := [(mo, .inr (12, [.ref m_tape, .int 0, .int 0, .int 0, .int 0, .int 0, .int 0, .int 0, .int 0, .int (-1), .ref m_laws, .ref m_hasLaws, .int 0, .int 0, .ref m_clubOf, .ref m_first, .ref m_last, .ref m_pay, .ref m_rise, .ref m_sure, .ref m_hasChoice, .ref m_isTaken, .ref m_isHurt, .ref m_dead, .ref m_usedSpare, .ref m_owner, .ref m_giver, .ref m_guarded, .ref m_drawnOf, .ref m_drawnTo, .int 0, .int 0, .ref m_table, .int 0, .ref m_moved, .ref m_from, .ref m_to, .ref m_guard, .ref m_worths, .ref m_ringClub, .ref m_ringGives, .int 0, .ref m_triedClub, .ref m_triedGives, .int 0, .int 0, .ref m_toldClub, .ref m_toldGives, .ref m_isOut, .ref m_purse, .int 0])), (m_worths, .inl (k_worths, 1120, .inl (fun _ => 0)))]) hD hS hA [0, 1] rfl
    refine va_calli (va_runV (As := [.int (xs 1), .int (xs 2), .int (xs 3), .int (xs 4)]) (rest := [.int 0]) ⟨hx, hb, hml, hown, hts⟩ (mX_worthTurn l dC dI mo m_tape m_laws m_hasLaws m_clubOf m_first m_last m_pay m_rise m_sure m_hasChoice m_isTaken m_isHurt m_dead m_usedSpare m_owner m_giver m_guarded m_drawnOf m_drawnTo m_table m_moved m_from m_to m_guard m_worths m_ringClub m_ringGives m_triedClub m_triedGives m_toldClub m_toldGives m_isOut m_purse k_worths   _ (xs 1) ((xs 1).toInt) rfl (xs 2) ((xs 2).toInt) rfl (xs 3) ((xs 3).toInt) rfl (xs 4) ((xs 4).toInt) rfl) (cwV 4 hts gL_law_X12_worthTurn rfl rfl rfl (by decide +kernel) ⟨Nat.le_of_ble_eq_true rfl, Nat.le_of_ble_eq_true rfl⟩) ⟨xW_blind _ _ _ _ _, va_recv hKc hPc (ci := 12) (q0 := 0) rfl rfl, xW_pre _ hE hKc hPc hDc⟩ rfl rfl hl.1 rfl (lv_room (Nat.le_of_ble_eq_true rfl)) dL_law_963 ⟨Nat.le_of_ble_eq_true rfl, Nat.le_of_ble_eq_true rfl⟩) hS (fun q _ h => hFc q h) hFc (fun rh2 u t H1 locs ht hvm h2 hB hz1 hk1 hS => ?_)
    obtain ⟨hP, hD⟩ := va_join (wr := []) (w1 := []) hP hD [0, 1] [] rfl rfl (by decide) (by decide) hk1 hFc xz_P xz_D
    generalize H1 = H at hP hS ⊢
    replace hP : va_P (dC, dI) vwCl [] H := hP
    replace hD : va_D A [] := hD
    replace hK : va_K (dC, dI) vwCl [(k_wO, (.array .int)), (k_wI, .int), (k_worths, .int)] s := hK
    refine W.cs (cells' := 178) (slots' := 9908) rfl rfl ?_
    rcases h2 with ⟨rfl, h2⟩ | ⟨rfl, h2⟩
    · skip
      refine lv_icmp_eq (tgt := 1242) hx hb dL_law_966 (by decide) (fun _ => ?_) (fun h => absurd (by first | rfl | (exfalso; omega)) h)
      refine lv_iinc (v := 8) (lv' := [(3, .int 8), (2, .ref mo), (1, .ref cp), (0, .ref b)]) hx hb dL_law_1242 hl (k := 0) rfl (by decide) (by decide) rfl (fun ls hl => ?_)
      refine lv_goto (tgt := 18) hx hb dL_law_1245 (by decide) ?_
      refine lv_iload_n hx hb dL_law_18 rfl (lv_at hl 0 rfl) ?_
      refine lv_aload_n hx hb dL_law_19 rfl (lv_at hl 3 rfl) ?_
      refine va_slen hx hb hX hbl hbA hS dL_law_20 ?_
      refine xw_i (v := 8) rfl ?_
      refine lv_bipush (v := 8) hx hb dL_law_21 (by decide) ?_
      refine lv_isub hx hb dL_law_23 ?_
      refine xw_i (v := 0) (by decide) ?_
      refine lv_icmp_gt (tgt := 1248) hx hb dL_law_24 (by decide) (fun _ => ?_) (fun h => absurd (by decide) h)
      refine lv_iconst (v := 1) hx hb dL_law_1248 (by decide) ?_
      refine va_forget (fun q hq => by have h9 := hS.2.2 q hq; rw [← hAe] at h9; exact h9) ?_
      refine W.widen (k := 600000) (n := 7302250) (by decide) (by decide) ?_
      exact lw_ret hx hb hr hlocks dL_law_1249
    · skip
      refine lv_icmp_eq (tgt := 1242) hx hb dL_law_966 (by decide) (fun _ => ?_) (fun h => absurd (by first | rfl | (exfalso; omega)) h)
      refine lv_iinc (v := 8) (lv' := [(3, .int 8), (2, .ref mo), (1, .ref cp), (0, .ref b)]) hx hb dL_law_1242 hl (k := 0) rfl (by decide) (by decide) rfl (fun ls hl => ?_)
      refine lv_goto (tgt := 18) hx hb dL_law_1245 (by decide) ?_
      refine lv_iload_n hx hb dL_law_18 rfl (lv_at hl 0 rfl) ?_
      refine lv_aload_n hx hb dL_law_19 rfl (lv_at hl 3 rfl) ?_
      refine va_slen hx hb hX hbl hbA hS dL_law_20 ?_
      refine xw_i (v := 8) rfl ?_
      refine lv_bipush (v := 8) hx hb dL_law_21 (by decide) ?_
      refine lv_isub hx hb dL_law_23 ?_
      refine xw_i (v := 0) (by decide) ?_
      refine lv_icmp_gt (tgt := 1248) hx hb dL_law_24 (by decide) (fun _ => ?_) (fun h => absurd (by decide) h)
      refine lv_iconst (v := 1) hx hb dL_law_1248 (by decide) ?_
      refine va_forget (fun q hq => by have h9 := hS.2.2 q hq; rw [← hAe] at h9; exact h9) ?_
      refine W.widen (k := 600000) (n := 7302250) (by decide) (by decide) ?_
      exact lw_ret hx hb hr hlocks dL_law_1249
  · skip
    refine lv_aload_n hx hb dL_law_942 rfl (lv_at hl 1 rfl) ?_
    refine lv_aload_n hx hb dL_law_943 rfl (lv_at hl 3 rfl) ?_
    refine lv_iload_n hx hb dL_law_944 rfl (lv_at hl 0 rfl) ?_
    refine lv_iconst (v := 1) hx hb dL_law_945 (by decide) ?_
    refine lv_iadd hx hb dL_law_946 ?_
    refine xw_i (v := 1) (by decide) ?_
    refine va_sld hx hb hX hbl hbA hS (by unfold vp_in; decide) dL_law_947 ?_
    refine xw_i (v := xs 1) rfl ?_
    refine lv_aload_n hx hb dL_law_948 rfl (lv_at hl 3 rfl) ?_
    refine lv_iload_n hx hb dL_law_949 rfl (lv_at hl 0 rfl) ?_
    refine lv_iconst (v := 2) hx hb dL_law_950 (by decide) ?_
    refine lv_iadd hx hb dL_law_951 ?_
    refine xw_i (v := 2) (by decide) ?_
    refine va_sld hx hb hX hbl hbA hS (by unfold vp_in; decide) dL_law_952 ?_
    refine xw_i (v := xs 2) rfl ?_
    refine lv_aload_n hx hb dL_law_953 rfl (lv_at hl 3 rfl) ?_
    refine lv_iload_n hx hb dL_law_954 rfl (lv_at hl 0 rfl) ?_
    refine lv_iconst (v := 3) hx hb dL_law_955 (by decide) ?_
    refine lv_iadd hx hb dL_law_956 ?_
    refine xw_i (v := 3) (by decide) ?_
    refine va_sld hx hb hX hbl hbA hS (by unfold vp_in; decide) dL_law_957 ?_
    refine xw_i (v := xs 3) rfl ?_
    refine lv_aload_n hx hb dL_law_958 rfl (lv_at hl 3 rfl) ?_
    refine lv_iload_n hx hb dL_law_959 rfl (lv_at hl 0 rfl) ?_
    refine lv_iconst (v := 4) hx hb dL_law_960 (by decide) ?_
    refine lv_iadd hx hb dL_law_961 ?_
    refine xw_i (v := 4) (by decide) ?_
    refine va_sld hx hb hX hbl hbA hS (by unfold vp_in; decide) dL_law_962 ?_
    refine xw_i (v := xs 4) rfl ?_
    have hPc := hP.sub (ws' := [(mo, .inr (12, [.ref m_tape, .int 0, .int 0, .int 0, .int 0, .int 0, .int 0, .int 0, .int 0, .int (-1), .ref m_laws, .ref m_hasLaws, .int 0, .int 0, .ref m_clubOf, .ref m_first, .ref m_last, .ref m_pay, .ref m_rise, .ref m_sure, .ref m_hasChoice, .ref m_isTaken, .ref m_isHurt, .ref m_dead, .ref m_usedSpare, .ref m_owner, .ref m_giver, .ref m_guarded, .ref m_drawnOf, .ref m_drawnTo, .int 0, .int 0, .ref m_table, .int 0, .ref m_moved, .ref m_from, .ref m_to, .ref m_guard, .ref m_worths, .ref m_ringClub, .ref m_ringGives, .int 0, .ref m_triedClub, .ref m_triedGives, .int 0, .int 0, .ref m_toldClub, .ref m_toldGives, .ref m_isOut, .ref m_purse, .int 0])), (m_worths, .inl (k_worths, 1120, .inl (fun _ => 0)))]) [0, 1] rfl
    have hDc := hD.sub (ws' := [(mo, .inr (12, [.ref m_tape, .int 0, .int 0, .int 0, .int 0, .int 0, .int 0, .int 0, .int 0, .int (-1), .ref m_laws, .ref m_hasLaws, .int 0, .int 0, .ref m_clubOf, .ref m_first, .ref m_last, .ref m_pay, .ref m_rise, .ref m_sure, .ref m_hasChoice, .ref m_isTaken, .ref m_isHurt, .ref m_dead, .ref m_usedSpare, .ref m_owner, .ref m_giver, .ref m_guarded, .ref m_drawnOf, .ref m_drawnTo, .int 0, .int 0, .ref m_table, .int 0, .ref m_moved, .ref m_from, .ref m_to, .ref m_guard, .ref m_worths, .ref m_ringClub, .ref m_ringGives, .int 0, .ref m_triedClub, .ref m_triedGives, .int 0, .int 0, .ref m_toldClub, .ref m_toldGives, .ref m_isOut, .ref m_purse, .int 0])), (m_worths, .inl (k_worths, 1120, .inl (fun _ => 0)))]) [0, 1] (by decide) rfl
    have hKc := hK.sub (tys' := [(k_worths, .int)]) [2] rfl
    have hFc := va_free (wc := [(mo, .inr (12, [.ref m_tape, .int 0, .int 0, .int 0, .int 0, .int 0, .int 0, .int 0, .int 0, .int (-1), .ref m_laws, .ref m_hasLaws, .int 0, .int 0, .ref m_clubOf, .ref m_first, .ref m_last, .ref m_pay, .ref m_rise, .ref m_sure, .ref m_hasChoice, .ref m_isTaken, .ref m_isHurt, .ref m_dead, .ref m_usedSpare, .ref m_owner, .ref m_giver, .ref m_guarded, .ref m_drawnOf, .ref m_drawnTo, .int 0, .int 0, .ref m_table, .int 0, .ref m_moved, .ref m_from, .ref m_to, .ref m_guard, .ref m_worths, .ref m_ringClub, .ref m_ringGives, .int 0, .ref m_triedClub, .ref m_triedGives, .int 0, .int 0, .ref m_toldClub, .ref m_toldGives, .ref m_isOut, .ref m_purse, .int 0])), (m_worths, .inl (k_worths, 1120, .inl (fun _ => 0)))]) hD hS hA [0, 1] rfl
    refine va_calli (va_runV (As := [.int (xs 1), .int (xs 2), .int (xs 3), .int (xs 4)]) (rest := [.int (-2)]) ⟨hx, hb, hml, hown, hts⟩ (mX_worthTurn l dC dI mo m_tape m_laws m_hasLaws m_clubOf m_first m_last m_pay m_rise m_sure m_hasChoice m_isTaken m_isHurt m_dead m_usedSpare m_owner m_giver m_guarded m_drawnOf m_drawnTo m_table m_moved m_from m_to m_guard m_worths m_ringClub m_ringGives m_triedClub m_triedGives m_toldClub m_toldGives m_isOut m_purse k_worths   _ (xs 1) ((xs 1).toInt) rfl (xs 2) ((xs 2).toInt) rfl (xs 3) ((xs 3).toInt) rfl (xs 4) ((xs 4).toInt) rfl) (cwV 4 hts gL_law_X12_worthTurn rfl rfl rfl (by decide +kernel) ⟨Nat.le_of_ble_eq_true rfl, Nat.le_of_ble_eq_true rfl⟩) ⟨xW_blind _ _ _ _ _, va_recv hKc hPc (ci := 12) (q0 := 0) rfl rfl, xW_pre _ hE hKc hPc hDc⟩ rfl rfl hl.1 rfl (lv_room (Nat.le_of_ble_eq_true rfl)) dL_law_963 ⟨Nat.le_of_ble_eq_true rfl, Nat.le_of_ble_eq_true rfl⟩) hS (fun q _ h => hFc q h) hFc (fun rh5 u t H1 locs ht hvm h5 hB hz1 hk1 hS => ?_)
    obtain ⟨hP, hD⟩ := va_join (wr := []) (w1 := []) hP hD [0, 1] [] rfl rfl (by decide) (by decide) hk1 hFc xz_P xz_D
    generalize H1 = H at hP hS ⊢
    replace hP : va_P (dC, dI) vwCl [] H := hP
    replace hD : va_D A [] := hD
    replace hK : va_K (dC, dI) vwCl [(k_wO, (.array .int)), (k_wI, .int), (k_worths, .int)] s := hK
    refine W.cs (cells' := 178) (slots' := 9908) rfl rfl ?_
    rcases h5 with ⟨rfl, h5⟩ | ⟨rfl, h5⟩
    · skip
      refine lv_icmp_eq (tgt := 1242) hx hb dL_law_966 (by decide) (fun _ => ?_) (fun h => absurd (by first | rfl | (exfalso; omega)) h)
      refine lv_iinc (v := 8) (lv' := [(3, .int 8), (2, .ref mo), (1, .ref cp), (0, .ref b)]) hx hb dL_law_1242 hl (k := 0) rfl (by decide) (by decide) rfl (fun ls hl => ?_)
      refine lv_goto (tgt := 18) hx hb dL_law_1245 (by decide) ?_
      refine lv_iload_n hx hb dL_law_18 rfl (lv_at hl 0 rfl) ?_
      refine lv_aload_n hx hb dL_law_19 rfl (lv_at hl 3 rfl) ?_
      refine va_slen hx hb hX hbl hbA hS dL_law_20 ?_
      refine xw_i (v := 8) rfl ?_
      refine lv_bipush (v := 8) hx hb dL_law_21 (by decide) ?_
      refine lv_isub hx hb dL_law_23 ?_
      refine xw_i (v := 0) (by decide) ?_
      refine lv_icmp_gt (tgt := 1248) hx hb dL_law_24 (by decide) (fun _ => ?_) (fun h => absurd (by decide) h)
      refine lv_iconst (v := 1) hx hb dL_law_1248 (by decide) ?_
      refine va_forget (fun q hq => by have h9 := hS.2.2 q hq; rw [← hAe] at h9; exact h9) ?_
      refine W.widen (k := 600000) (n := 7302250) (by decide) (by decide) ?_
      exact lw_ret hx hb hr hlocks dL_law_1249
    · skip
      refine lv_icmp_eq (tgt := 1242) hx hb dL_law_966 (by decide) (fun _ => ?_) (fun h => absurd (by first | rfl | (exfalso; omega)) h)
      refine lv_iinc (v := 8) (lv' := [(3, .int 8), (2, .ref mo), (1, .ref cp), (0, .ref b)]) hx hb dL_law_1242 hl (k := 0) rfl (by decide) (by decide) rfl (fun ls hl => ?_)
      refine lv_goto (tgt := 18) hx hb dL_law_1245 (by decide) ?_
      refine lv_iload_n hx hb dL_law_18 rfl (lv_at hl 0 rfl) ?_
      refine lv_aload_n hx hb dL_law_19 rfl (lv_at hl 3 rfl) ?_
      refine va_slen hx hb hX hbl hbA hS dL_law_20 ?_
      refine xw_i (v := 8) rfl ?_
      refine lv_bipush (v := 8) hx hb dL_law_21 (by decide) ?_
      refine lv_isub hx hb dL_law_23 ?_
      refine xw_i (v := 0) (by decide) ?_
      refine lv_icmp_gt (tgt := 1248) hx hb dL_law_24 (by decide) (fun _ => ?_) (fun h => absurd (by decide) h)
      refine lv_iconst (v := 1) hx hb dL_law_1248 (by decide) ?_
      refine va_forget (fun q hq => by have h9 := hS.2.2 q hq; rw [← hAe] at h9; exact h9) ?_
      refine W.widen (k := 600000) (n := 7302250) (by decide) (by decide) ?_
      exact lw_ret hx hb hr hlocks dL_law_1249
set_option maxHeartbeats 8000000 in
set_option maxRecDepth 100000 in
theorem law_21 {p : Program} {l : Launch} {e : Env} {s : State} {m : MethodId} {below : List Frame} {meth : Method} {c : Code} {dC : Nat → ClassId} {dI : Nat → Nat → Nat} {b : Nat} {xs : Nat → Int32} (C0 : lw_At p s m meth c b 8 xs) {A : Nat → Prop} (hAe : (fun q : Nat => s.heap.size ≤ q) = A) {tU : Nat} (hU : xU tU A s s.heap) (cp tp lb rd bk tn td rg dr un tx pl de su fi ac cr li sr pa co ga pt ct cw pw mo m_tape m_laws m_hasLaws m_clubOf m_first m_last m_pay m_rise m_sure m_hasChoice m_isTaken m_isHurt m_dead m_usedSpare m_owner m_giver m_guarded m_drawnOf m_drawnTo m_table m_moved m_from m_to m_guard m_worths m_ringClub m_ringGives m_triedClub m_triedGives m_toldClub m_toldGives m_isOut m_purse : Nat) (k_tx k_dO k_dI k_sr k_ct k_triedClub : ClassId)   (hK : va_K (dC, dI) vwCl [(k_tx, (.object RX5)), (k_dO, (.array .int)), (k_dI, .int), (k_sr, .int), (k_ct, .int), (k_triedClub, .int)] s) (H : Heap) (locs : List Loc) (hP : va_P (dC, dI) vwCl [(cp, .inr (11, [.ref tp, .ref lb, .ref rd, .ref bk, .ref tn, .ref td, .ref rg, .ref dr])), (lb, .inr (3, [.ref un, .ref tx])), (tx, .inl (k_tx, 10, .inr (.inr (.inr (.inr (fun _ => none)))))), (bk, .inr (0, [.ref lb, .ref pl, .int 0, .int 0, .ref de, .ref su, .ref fi, .int 0, .ref ac])), (de, .inl (k_dO, 8, .inr (.inr (.inr (.inr (fun j => if j < 8 then some (de + 1 + j) else none)))))), ((de + 1 + 0), .inl (k_dI, 10, .inl (fun _ => 0))), ((de + 1 + 1), .inl (k_dI, 10, .inl (fun _ => 0))), ((de + 1 + 2), .inl (k_dI, 10, .inl (fun _ => 0))), ((de + 1 + 3), .inl (k_dI, 10, .inl (fun _ => 0))), ((de + 1 + 4), .inl (k_dI, 10, .inl (fun _ => 0))), ((de + 1 + 5), .inl (k_dI, 10, .inl (fun _ => 0))), ((de + 1 + 6), .inl (k_dI, 10, .inl (fun _ => 0))), ((de + 1 + 7), .inl (k_dI, 10, .inl (fun _ => 0))), (rg, .inr (7, [.ref bk, .ref cr, .ref li, .ref sr, .ref pa, .ref co, .ref ga, .ref pt, .ref ct, .int 0, .int 0, .ref cw, .ref pw])), (sr, .inl (k_sr, 9, .inl (fun _ => 0))), (ct, .inl (k_ct, 8, .inl (fun _ => 0))), (mo, .inr (12, [.ref m_tape, .int 0, .int 0, .int 0, .int 0, .int 0, .int 0, .int 0, .int 0, .int (-1), .ref m_laws, .ref m_hasLaws, .int 0, .int 0, .ref m_clubOf, .ref m_first, .ref m_last, .ref m_pay, .ref m_rise, .ref m_sure, .ref m_hasChoice, .ref m_isTaken, .ref m_isHurt, .ref m_dead, .ref m_usedSpare, .ref m_owner, .ref m_giver, .ref m_guarded, .ref m_drawnOf, .ref m_drawnTo, .int 0, .int 0, .ref m_table, .int 0, .ref m_moved, .ref m_from, .ref m_to, .ref m_guard, .ref m_worths, .ref m_ringClub, .ref m_ringGives, .int 0, .ref m_triedClub, .ref m_triedGives, .int 0, .int 0, .ref m_toldClub, .ref m_toldGives, .ref m_isOut, .ref m_purse, .int 0])), (m_triedClub, .inl (k_triedClub, 3, .inl (fun _ => 0)))] H) (hD : va_D A [(cp, .inr (11, [.ref tp, .ref lb, .ref rd, .ref bk, .ref tn, .ref td, .ref rg, .ref dr])), (lb, .inr (3, [.ref un, .ref tx])), (tx, .inl (k_tx, 10, .inr (.inr (.inr (.inr (fun _ => none)))))), (bk, .inr (0, [.ref lb, .ref pl, .int 0, .int 0, .ref de, .ref su, .ref fi, .int 0, .ref ac])), (de, .inl (k_dO, 8, .inr (.inr (.inr (.inr (fun j => if j < 8 then some (de + 1 + j) else none)))))), ((de + 1 + 0), .inl (k_dI, 10, .inl (fun _ => 0))), ((de + 1 + 1), .inl (k_dI, 10, .inl (fun _ => 0))), ((de + 1 + 2), .inl (k_dI, 10, .inl (fun _ => 0))), ((de + 1 + 3), .inl (k_dI, 10, .inl (fun _ => 0))), ((de + 1 + 4), .inl (k_dI, 10, .inl (fun _ => 0))), ((de + 1 + 5), .inl (k_dI, 10, .inl (fun _ => 0))), ((de + 1 + 6), .inl (k_dI, 10, .inl (fun _ => 0))), ((de + 1 + 7), .inl (k_dI, 10, .inl (fun _ => 0))), (rg, .inr (7, [.ref bk, .ref cr, .ref li, .ref sr, .ref pa, .ref co, .ref ga, .ref pt, .ref ct, .int 0, .int 0, .ref cw, .ref pw])), (sr, .inl (k_sr, 9, .inl (fun _ => 0))), (ct, .inl (k_ct, 8, .inl (fun _ => 0))), (mo, .inr (12, [.ref m_tape, .int 0, .int 0, .int 0, .int 0, .int 0, .int 0, .int 0, .int 0, .int (-1), .ref m_laws, .ref m_hasLaws, .int 0, .int 0, .ref m_clubOf, .ref m_first, .ref m_last, .ref m_pay, .ref m_rise, .ref m_sure, .ref m_hasChoice, .ref m_isTaken, .ref m_isHurt, .ref m_dead, .ref m_usedSpare, .ref m_owner, .ref m_giver, .ref m_guarded, .ref m_drawnOf, .ref m_drawnTo, .int 0, .int 0, .ref m_table, .int 0, .ref m_moved, .ref m_from, .ref m_to, .ref m_guard, .ref m_worths, .ref m_ringClub, .ref m_ringGives, .int 0, .ref m_triedClub, .ref m_triedGives, .int 0, .int 0, .ref m_toldClub, .ref m_toldGives, .ref m_isOut, .ref m_purse, .int 0])), (m_triedClub, .inl (k_triedClub, 3, .inl (fun _ => 0)))]) (hS : va_S A s.heap H locs) (ls : Array Slot) (hl : lv_has ls 4 [(3, .int 0), (2, .ref mo), (1, .ref cp), (0, .ref b)]) : W p l e room_1 s m #[Value.ref b] below meth c H locs 178 9908 (lw_Z below #[Value.ref b] s) (F0 m 971 ls []) := by
  obtain ⟨hx, hb, hr, hml, hown, hts0, hX, hbl, hlocks, hgv⟩ := id C0
  have hE := xs_E hts0
  have hts : ∀ w ∈ wsL_law, w.before #[Value.ref b] s = true := fun w h => hts0 w (wsL_law_in w h)
  have hA : ∀ q : Nat, s.heap.size ≤ q → A q := fun q h => by rw [← hAe]; exact h
  have hbA : ¬ A b := by rw [← hAe]; exact Nat.not_le.mpr hbl
  have lo0 := xi_lo (xs 0)
  have hi0 := xi_hi (xs 0)
  have lo1 := xi_lo (xs 1)
  have hi1 := xi_hi (xs 1)
  have lo2 := xi_lo (xs 2)
  have hi2 := xi_hi (xs 2)
  have lo3 := xi_lo (xs 3)
  have hi3 := xi_hi (xs 3)
  have lo4 := xi_lo (xs 4)
  have hi4 := xi_hi (xs 4)
  have lo5 := xi_lo (xs 5)
  have hi5 := xi_hi (xs 5)
  have lo6 := xi_lo (xs 6)
  have hi6 := xi_hi (xs 6)
  have lo7 := xi_lo (xs 7)
  have hi7 := xi_hi (xs 7)
  refine lv_aload_n hx hb dL_law_971 rfl (lv_at hl 2 rfl) ?_
  have hPc := hP.sub (ws' := [(cp, .inr (11, [.ref tp, .ref lb, .ref rd, .ref bk, .ref tn, .ref td, .ref rg, .ref dr])), (rg, .inr (7, [.ref bk, .ref cr, .ref li, .ref sr, .ref pa, .ref co, .ref ga, .ref pt, .ref ct, .int 0, .int 0, .ref cw, .ref pw])), (bk, .inr (0, [.ref lb, .ref pl, .int 0, .int 0, .ref de, .ref su, .ref fi, .int 0, .ref ac])), (lb, .inr (3, [.ref un, .ref tx])), (tx, .inl (k_tx, 10, .inr (.inr (.inr (.inr (fun _ => none)))))), (de, .inl (k_dO, 8, .inr (.inr (.inr (.inr (fun j => if j < 8 then some (de + 1 + j) else none)))))), ((de + 1 + 0), .inl (k_dI, 10, .inl (fun _ => 0))), ((de + 1 + 1), .inl (k_dI, 10, .inl (fun _ => 0))), ((de + 1 + 2), .inl (k_dI, 10, .inl (fun _ => 0))), ((de + 1 + 3), .inl (k_dI, 10, .inl (fun _ => 0))), ((de + 1 + 4), .inl (k_dI, 10, .inl (fun _ => 0))), ((de + 1 + 5), .inl (k_dI, 10, .inl (fun _ => 0))), ((de + 1 + 6), .inl (k_dI, 10, .inl (fun _ => 0))), ((de + 1 + 7), .inl (k_dI, 10, .inl (fun _ => 0))), (sr, .inl (k_sr, 9, .inl (fun _ => 0))), (ct, .inl (k_ct, 8, .inl (fun _ => 0)))]) [0, 13, 3, 1, 2, 4, 5, 6, 7, 8, 9, 10, 11, 12, 14, 15] rfl
  have hDc := hD.sub (ws' := [(cp, .inr (11, [.ref tp, .ref lb, .ref rd, .ref bk, .ref tn, .ref td, .ref rg, .ref dr])), (rg, .inr (7, [.ref bk, .ref cr, .ref li, .ref sr, .ref pa, .ref co, .ref ga, .ref pt, .ref ct, .int 0, .int 0, .ref cw, .ref pw])), (bk, .inr (0, [.ref lb, .ref pl, .int 0, .int 0, .ref de, .ref su, .ref fi, .int 0, .ref ac])), (lb, .inr (3, [.ref un, .ref tx])), (tx, .inl (k_tx, 10, .inr (.inr (.inr (.inr (fun _ => none)))))), (de, .inl (k_dO, 8, .inr (.inr (.inr (.inr (fun j => if j < 8 then some (de + 1 + j) else none)))))), ((de + 1 + 0), .inl (k_dI, 10, .inl (fun _ => 0))), ((de + 1 + 1), .inl (k_dI, 10, .inl (fun _ => 0))), ((de + 1 + 2), .inl (k_dI, 10, .inl (fun _ => 0))), ((de + 1 + 3), .inl (k_dI, 10, .inl (fun _ => 0))), ((de + 1 + 4), .inl (k_dI, 10, .inl (fun _ => 0))), ((de + 1 + 5), .inl (k_dI, 10, .inl (fun _ => 0))), ((de + 1 + 6), .inl (k_dI, 10, .inl (fun _ => 0))), ((de + 1 + 7), .inl (k_dI, 10, .inl (fun _ => 0))), (sr, .inl (k_sr, 9, .inl (fun _ => 0))), (ct, .inl (k_ct, 8, .inl (fun _ => 0)))]) [0, 13, 3, 1, 2, 4, 5, 6, 7, 8, 9, 10, 11, 12, 14, 15] (by decide) rfl
  have hKc := hK.sub (tys' := [(k_tx, (.object RX5)), (k_dO, (.array .int)), (k_dI, .int), (k_dI, .int), (k_dI, .int), (k_dI, .int), (k_dI, .int), (k_dI, .int), (k_dI, .int), (k_dI, .int), (k_sr, .int), (k_ct, .int)]) [0, 1, 2, 2, 2, 2, 2, 2, 2, 2, 3, 4] rfl
  have hFc := va_free (wc := [(cp, .inr (11, [.ref tp, .ref lb, .ref rd, .ref bk, .ref tn, .ref td, .ref rg, .ref dr])), (rg, .inr (7, [.ref bk, .ref cr, .ref li, .ref sr, .ref pa, .ref co, .ref ga, .ref pt, .ref ct, .int 0, .int 0, .ref cw, .ref pw])), (bk, .inr (0, [.ref lb, .ref pl, .int 0, .int 0, .ref de, .ref su, .ref fi, .int 0, .ref ac])), (lb, .inr (3, [.ref un, .ref tx])), (tx, .inl (k_tx, 10, .inr (.inr (.inr (.inr (fun _ => none)))))), (de, .inl (k_dO, 8, .inr (.inr (.inr (.inr (fun j => if j < 8 then some (de + 1 + j) else none)))))), ((de + 1 + 0), .inl (k_dI, 10, .inl (fun _ => 0))), ((de + 1 + 1), .inl (k_dI, 10, .inl (fun _ => 0))), ((de + 1 + 2), .inl (k_dI, 10, .inl (fun _ => 0))), ((de + 1 + 3), .inl (k_dI, 10, .inl (fun _ => 0))), ((de + 1 + 4), .inl (k_dI, 10, .inl (fun _ => 0))), ((de + 1 + 5), .inl (k_dI, 10, .inl (fun _ => 0))), ((de + 1 + 6), .inl (k_dI, 10, .inl (fun _ => 0))), ((de + 1 + 7), .inl (k_dI, 10, .inl (fun _ => 0))), (sr, .inl (k_sr, 9, .inl (fun _ => 0))), (ct, .inl (k_ct, 8, .inl (fun _ => 0)))]) hD hS hA [0, 13, 3, 1, 2, 4, 5, 6, 7, 8, 9, 10, 11, 12, 14, 15] rfl
  refine va_calli (va_runV (As := []) (rest := []) ⟨hx, hb, hml, hown, hts⟩ (aX_ring l dC dI cp tp lb rd bk tn td rg dr cr li sr pa co ga pt ct cw pw pl de su fi ac un tx k_tx k_dO k_dI k_sr k_ct   _) (cwV 0 hts gL_law_X11_ring rfl rfl rfl (by decide +kernel) ⟨Nat.le_of_ble_eq_true rfl, Nat.le_of_ble_eq_true rfl⟩) ⟨xW_blind _ _ _ _ _, va_recv hKc hPc (ci := 11) (q0 := 0) rfl rfl, xW_pre _ hE hKc hPc hDc⟩ rfl rfl hl.1 rfl (lv_room (Nat.le_of_ble_eq_true rfl)) dL_law_972 ⟨Nat.le_of_ble_eq_true rfl, Nat.le_of_ble_eq_true rfl⟩) hS (fun q _ h => hFc q h) hFc (fun rh1 u t H1 locs ht hvm h1 hB hz1 hk1 hS => ?_)
  obtain ⟨hP, hD⟩ := va_join (wr := [(mo, .inr (12, [.ref m_tape, .int 0, .int 0, .int 0, .int 0, .int 0, .int 0, .int 0, .int 0, .int (-1), .ref m_laws, .ref m_hasLaws, .int 0, .int 0, .ref m_clubOf, .ref m_first, .ref m_last, .ref m_pay, .ref m_rise, .ref m_sure, .ref m_hasChoice, .ref m_isTaken, .ref m_isHurt, .ref m_dead, .ref m_usedSpare, .ref m_owner, .ref m_giver, .ref m_guarded, .ref m_drawnOf, .ref m_drawnTo, .int 0, .int 0, .ref m_table, .int 0, .ref m_moved, .ref m_from, .ref m_to, .ref m_guard, .ref m_worths, .ref m_ringClub, .ref m_ringGives, .int 0, .ref m_triedClub, .ref m_triedGives, .int 0, .int 0, .ref m_toldClub, .ref m_toldGives, .ref m_isOut, .ref m_purse, .int 0])), (m_triedClub, .inl (k_triedClub, 3, .inl (fun _ => 0)))]) (w1 := []) hP hD [0, 13, 3, 1, 2, 4, 5, 6, 7, 8, 9, 10, 11, 12, 14, 15] [16, 17] rfl rfl (by decide) (by decide) hk1 hFc xz_P xz_D
  generalize H1 = H at hP hS ⊢
  replace hP : va_P (dC, dI) vwCl [(mo, .inr (12, [.ref m_tape, .int 0, .int 0, .int 0, .int 0, .int 0, .int 0, .int 0, .int 0, .int (-1), .ref m_laws, .ref m_hasLaws, .int 0, .int 0, .ref m_clubOf, .ref m_first, .ref m_last, .ref m_pay, .ref m_rise, .ref m_sure, .ref m_hasChoice, .ref m_isTaken, .ref m_isHurt, .ref m_dead, .ref m_usedSpare, .ref m_owner, .ref m_giver, .ref m_guarded, .ref m_drawnOf, .ref m_drawnTo, .int 0, .int 0, .ref m_table, .int 0, .ref m_moved, .ref m_from, .ref m_to, .ref m_guard, .ref m_worths, .ref m_ringClub, .ref m_ringGives, .int 0, .ref m_triedClub, .ref m_triedGives, .int 0, .int 0, .ref m_toldClub, .ref m_toldGives, .ref m_isOut, .ref m_purse, .int 0])), (m_triedClub, .inl (k_triedClub, 3, .inl (fun _ => 0)))] H := hP
  replace hD : va_D A [(mo, .inr (12, [.ref m_tape, .int 0, .int 0, .int 0, .int 0, .int 0, .int 0, .int 0, .int 0, .int (-1), .ref m_laws, .ref m_hasLaws, .int 0, .int 0, .ref m_clubOf, .ref m_first, .ref m_last, .ref m_pay, .ref m_rise, .ref m_sure, .ref m_hasChoice, .ref m_isTaken, .ref m_isHurt, .ref m_dead, .ref m_usedSpare, .ref m_owner, .ref m_giver, .ref m_guarded, .ref m_drawnOf, .ref m_drawnTo, .int 0, .int 0, .ref m_table, .int 0, .ref m_moved, .ref m_from, .ref m_to, .ref m_guard, .ref m_worths, .ref m_ringClub, .ref m_ringGives, .int 0, .ref m_triedClub, .ref m_triedGives, .int 0, .int 0, .ref m_toldClub, .ref m_toldGives, .ref m_isOut, .ref m_purse, .int 0])), (m_triedClub, .inl (k_triedClub, 3, .inl (fun _ => 0)))] := hD
  replace hK : va_K (dC, dI) vwCl [(k_tx, (.object RX5)), (k_dO, (.array .int)), (k_dI, .int), (k_sr, .int), (k_ct, .int), (k_triedClub, .int)] s := hK
  refine W.cs (cells' := 178) (slots' := 9908) rfl rfl ?_
  obtain ⟨rfl, h1⟩ := h1
  refine lv_aload_n hx hb dL_law_975 rfl (lv_at hl 1 rfl) ?_
  have hPc := hP.sub (ws' := [(mo, .inr (12, [.ref m_tape, .int 0, .int 0, .int 0, .int 0, .int 0, .int 0, .int 0, .int 0, .int (-1), .ref m_laws, .ref m_hasLaws, .int 0, .int 0, .ref m_clubOf, .ref m_first, .ref m_last, .ref m_pay, .ref m_rise, .ref m_sure, .ref m_hasChoice, .ref m_isTaken, .ref m_isHurt, .ref m_dead, .ref m_usedSpare, .ref m_owner, .ref m_giver, .ref m_guarded, .ref m_drawnOf, .ref m_drawnTo, .int 0, .int 0, .ref m_table, .int 0, .ref m_moved, .ref m_from, .ref m_to, .ref m_guard, .ref m_worths, .ref m_ringClub, .ref m_ringGives, .int 0, .ref m_triedClub, .ref m_triedGives, .int 0, .int 0, .ref m_toldClub, .ref m_toldGives, .ref m_isOut, .ref m_purse, .int 0])), (m_triedClub, .inl (k_triedClub, 3, .inl (fun _ => 0)))]) [0, 1] rfl
  have hDc := hD.sub (ws' := [(mo, .inr (12, [.ref m_tape, .int 0, .int 0, .int 0, .int 0, .int 0, .int 0, .int 0, .int 0, .int (-1), .ref m_laws, .ref m_hasLaws, .int 0, .int 0, .ref m_clubOf, .ref m_first, .ref m_last, .ref m_pay, .ref m_rise, .ref m_sure, .ref m_hasChoice, .ref m_isTaken, .ref m_isHurt, .ref m_dead, .ref m_usedSpare, .ref m_owner, .ref m_giver, .ref m_guarded, .ref m_drawnOf, .ref m_drawnTo, .int 0, .int 0, .ref m_table, .int 0, .ref m_moved, .ref m_from, .ref m_to, .ref m_guard, .ref m_worths, .ref m_ringClub, .ref m_ringGives, .int 0, .ref m_triedClub, .ref m_triedGives, .int 0, .int 0, .ref m_toldClub, .ref m_toldGives, .ref m_isOut, .ref m_purse, .int 0])), (m_triedClub, .inl (k_triedClub, 3, .inl (fun _ => 0)))]) [0, 1] (by decide) rfl
  have hKc := hK.sub (tys' := [(k_triedClub, .int)]) [5] rfl
  have hFc := va_free (wc := [(mo, .inr (12, [.ref m_tape, .int 0, .int 0, .int 0, .int 0, .int 0, .int 0, .int 0, .int 0, .int (-1), .ref m_laws, .ref m_hasLaws, .int 0, .int 0, .ref m_clubOf, .ref m_first, .ref m_last, .ref m_pay, .ref m_rise, .ref m_sure, .ref m_hasChoice, .ref m_isTaken, .ref m_isHurt, .ref m_dead, .ref m_usedSpare, .ref m_owner, .ref m_giver, .ref m_guarded, .ref m_drawnOf, .ref m_drawnTo, .int 0, .int 0, .ref m_table, .int 0, .ref m_moved, .ref m_from, .ref m_to, .ref m_guard, .ref m_worths, .ref m_ringClub, .ref m_ringGives, .int 0, .ref m_triedClub, .ref m_triedGives, .int 0, .int 0, .ref m_toldClub, .ref m_toldGives, .ref m_isOut, .ref m_purse, .int 0])), (m_triedClub, .inl (k_triedClub, 3, .inl (fun _ => 0)))]) hD hS hA [0, 1] rfl
  refine va_calli (va_runV (As := []) (rest := [.int (-1)]) ⟨hx, hb, hml, hown, hts⟩ (mX_ring l dC dI mo m_tape m_laws m_hasLaws m_clubOf m_first m_last m_pay m_rise m_sure m_hasChoice m_isTaken m_isHurt m_dead m_usedSpare m_owner m_giver m_guarded m_drawnOf m_drawnTo m_table m_moved m_from m_to m_guard m_worths m_ringClub m_ringGives m_triedClub m_triedGives m_toldClub m_toldGives m_isOut m_purse k_triedClub   _) (cwV 0 hts gL_law_X12_ring rfl rfl rfl (by decide +kernel) ⟨Nat.le_of_ble_eq_true rfl, Nat.le_of_ble_eq_true rfl⟩) ⟨xW_blind _ _ _ _ _, va_recv hKc hPc (ci := 12) (q0 := 0) rfl rfl, xW_pre _ hE hKc hPc hDc⟩ rfl rfl hl.1 rfl (lv_room (Nat.le_of_ble_eq_true rfl)) dL_law_976 ⟨Nat.le_of_ble_eq_true rfl, Nat.le_of_ble_eq_true rfl⟩) hS (fun q _ h => hFc q h) hFc (fun rh2 u t H1 locs ht hvm h2 hB hz1 hk1 hS => ?_)
  obtain ⟨hP, hD⟩ := va_join (wr := []) (w1 := []) hP hD [0, 1] [] rfl rfl (by decide) (by decide) hk1 hFc xz_P xz_D
  generalize H1 = H at hP hS ⊢
  replace hP : va_P (dC, dI) vwCl [] H := hP
  replace hD : va_D A [] := hD
  replace hK : va_K (dC, dI) vwCl [(k_tx, (.object RX5)), (k_dO, (.array .int)), (k_dI, .int), (k_sr, .int), (k_ct, .int), (k_triedClub, .int)] s := hK
  refine W.cs (cells' := 178) (slots' := 9908) rfl rfl ?_
  obtain ⟨rfl, h2⟩ := h2
  refine lv_icmp_eq (tgt := 1242) hx hb dL_law_979 (by decide) (fun _ => ?_) (fun h => absurd (by first | rfl | (exfalso; omega)) h)
  refine lv_iinc (v := 8) (lv' := [(3, .int 8), (2, .ref mo), (1, .ref cp), (0, .ref b)]) hx hb dL_law_1242 hl (k := 0) rfl (by decide) (by decide) rfl (fun ls hl => ?_)
  refine lv_goto (tgt := 18) hx hb dL_law_1245 (by decide) ?_
  refine lv_iload_n hx hb dL_law_18 rfl (lv_at hl 0 rfl) ?_
  refine lv_aload_n hx hb dL_law_19 rfl (lv_at hl 3 rfl) ?_
  refine va_slen hx hb hX hbl hbA hS dL_law_20 ?_
  refine xw_i (v := 8) rfl ?_
  refine lv_bipush (v := 8) hx hb dL_law_21 (by decide) ?_
  refine lv_isub hx hb dL_law_23 ?_
  refine xw_i (v := 0) (by decide) ?_
  refine lv_icmp_gt (tgt := 1248) hx hb dL_law_24 (by decide) (fun _ => ?_) (fun h => absurd (by decide) h)
  refine lv_iconst (v := 1) hx hb dL_law_1248 (by decide) ?_
  refine va_forget (fun q hq => by have h9 := hS.2.2 q hq; rw [← hAe] at h9; exact h9) ?_
  refine W.widen (k := 600000) (n := 7302250) (by decide) (by decide) ?_
  exact lw_ret hx hb hr hlocks dL_law_1249
set_option maxHeartbeats 8000000 in
set_option maxRecDepth 100000 in
theorem law_22 {p : Program} {l : Launch} {e : Env} {s : State} {m : MethodId} {below : List Frame} {meth : Method} {c : Code} {dC : Nat → ClassId} {dI : Nat → Nat → Nat} {b : Nat} {xs : Nat → Int32} (C0 : lw_At p s m meth c b 8 xs) {A : Nat → Prop} (hAe : (fun q : Nat => s.heap.size ≤ q) = A) {tU : Nat} (hU : xU tU A s s.heap) (cp tp lb rd bk tn td rg dr cr li sr pa co ga pt ct cw pw mo m_tape m_laws m_hasLaws m_clubOf m_first m_last m_pay m_rise m_sure m_hasChoice m_isTaken m_isHurt m_dead m_usedSpare m_owner m_giver m_guarded m_drawnOf m_drawnTo m_table m_moved m_from m_to m_guard m_worths m_ringClub m_ringGives m_triedClub m_triedGives m_toldClub m_toldGives m_isOut m_purse : Nat)    (hK : va_K (dC, dI) vwCl [] s) (H : Heap) (locs : List Loc) (hP : va_P (dC, dI) vwCl [(cp, .inr (11, [.ref tp, .ref lb, .ref rd, .ref bk, .ref tn, .ref td, .ref rg, .ref dr])), (rg, .inr (7, [.ref bk, .ref cr, .ref li, .ref sr, .ref pa, .ref co, .ref ga, .ref pt, .ref ct, .int 0, .int 0, .ref cw, .ref pw])), (mo, .inr (12, [.ref m_tape, .int 0, .int 0, .int 0, .int 0, .int 0, .int 0, .int 0, .int 0, .int (-1), .ref m_laws, .ref m_hasLaws, .int 0, .int 0, .ref m_clubOf, .ref m_first, .ref m_last, .ref m_pay, .ref m_rise, .ref m_sure, .ref m_hasChoice, .ref m_isTaken, .ref m_isHurt, .ref m_dead, .ref m_usedSpare, .ref m_owner, .ref m_giver, .ref m_guarded, .ref m_drawnOf, .ref m_drawnTo, .int 0, .int 0, .ref m_table, .int 0, .ref m_moved, .ref m_from, .ref m_to, .ref m_guard, .ref m_worths, .ref m_ringClub, .ref m_ringGives, .int 0, .ref m_triedClub, .ref m_triedGives, .int 0, .int 0, .ref m_toldClub, .ref m_toldGives, .ref m_isOut, .ref m_purse, .int 0]))] H) (hD : va_D A [(cp, .inr (11, [.ref tp, .ref lb, .ref rd, .ref bk, .ref tn, .ref td, .ref rg, .ref dr])), (rg, .inr (7, [.ref bk, .ref cr, .ref li, .ref sr, .ref pa, .ref co, .ref ga, .ref pt, .ref ct, .int 0, .int 0, .ref cw, .ref pw])), (mo, .inr (12, [.ref m_tape, .int 0, .int 0, .int 0, .int 0, .int 0, .int 0, .int 0, .int 0, .int (-1), .ref m_laws, .ref m_hasLaws, .int 0, .int 0, .ref m_clubOf, .ref m_first, .ref m_last, .ref m_pay, .ref m_rise, .ref m_sure, .ref m_hasChoice, .ref m_isTaken, .ref m_isHurt, .ref m_dead, .ref m_usedSpare, .ref m_owner, .ref m_giver, .ref m_guarded, .ref m_drawnOf, .ref m_drawnTo, .int 0, .int 0, .ref m_table, .int 0, .ref m_moved, .ref m_from, .ref m_to, .ref m_guard, .ref m_worths, .ref m_ringClub, .ref m_ringGives, .int 0, .ref m_triedClub, .ref m_triedGives, .int 0, .int 0, .ref m_toldClub, .ref m_toldGives, .ref m_isOut, .ref m_purse, .int 0]))]) (hS : va_S A s.heap H locs) (ls : Array Slot) (hl : lv_has ls 4 [(3, .int 0), (2, .ref mo), (1, .ref cp), (0, .ref b)]) : W p l e room_1 s m #[Value.ref b] below meth c H locs 178 9908 (lw_Z below #[Value.ref b] s) (F0 m 984 ls []) := by
  obtain ⟨hx, hb, hr, hml, hown, hts0, hX, hbl, hlocks, hgv⟩ := id C0
  have hE := xs_E hts0
  have hts : ∀ w ∈ wsL_law, w.before #[Value.ref b] s = true := fun w h => hts0 w (wsL_law_in w h)
  have hA : ∀ q : Nat, s.heap.size ≤ q → A q := fun q h => by rw [← hAe]; exact h
  have hbA : ¬ A b := by rw [← hAe]; exact Nat.not_le.mpr hbl
  have lo0 := xi_lo (xs 0)
  have hi0 := xi_hi (xs 0)
  have lo1 := xi_lo (xs 1)
  have hi1 := xi_hi (xs 1)
  have lo2 := xi_lo (xs 2)
  have hi2 := xi_hi (xs 2)
  have lo3 := xi_lo (xs 3)
  have hi3 := xi_hi (xs 3)
  have lo4 := xi_lo (xs 4)
  have hi4 := xi_hi (xs 4)
  have lo5 := xi_lo (xs 5)
  have hi5 := xi_hi (xs 5)
  have lo6 := xi_lo (xs 6)
  have hi6 := xi_hi (xs 6)
  have lo7 := xi_lo (xs 7)
  have hi7 := xi_hi (xs 7)
  refine lv_aload_n hx hb dL_law_984 rfl (lv_at hl 2 rfl) ?_
  refine lv_aload_n hx hb dL_law_985 rfl (lv_at hl 3 rfl) ?_
  refine lv_iload_n hx hb dL_law_986 rfl (lv_at hl 0 rfl) ?_
  refine lv_iconst (v := 1) hx hb dL_law_987 (by decide) ?_
  refine lv_iadd hx hb dL_law_988 ?_
  refine xw_i (v := 1) (by decide) ?_
  refine va_sld hx hb hX hbl hbA hS (by unfold vp_in; decide) dL_law_989 ?_
  refine xw_i (v := xs 1) rfl ?_
  have hPc := hP.sub (ws' := [(cp, .inr (11, [.ref tp, .ref lb, .ref rd, .ref bk, .ref tn, .ref td, .ref rg, .ref dr])), (rg, .inr (7, [.ref bk, .ref cr, .ref li, .ref sr, .ref pa, .ref co, .ref ga, .ref pt, .ref ct, .int 0, .int 0, .ref cw, .ref pw]))]) [0, 1] rfl
  have hKc := hK.sub (tys' := []) [] rfl
  refine vp_callSi (W.runV (As := [.int (xs 1)]) (rest := []) ⟨hx, hb, hml, hown, hts⟩ (aX_ringed l dC dI ([(cp, .inr (11, [.ref tp, .ref lb, .ref rd, .ref bk, .ref tn, .ref td, .ref rg, .ref dr])), (rg, .inr (7, [.ref bk, .ref cr, .ref li, .ref sr, .ref pa, .ref co, .ref ga, .ref pt, .ref ct, .int 0, .int 0, .ref cw, .ref pw]))]) ([]) 0 rfl 1 rfl (xs 1) ((xs 1).toInt) rfl) (cwV 1 hts gL_law_X11_ringed rfl rfl rfl (by decide +kernel) ⟨Nat.le_of_ble_eq_true rfl, Nat.le_of_ble_eq_true rfl⟩) ⟨xR_blind _ _ _ _, va_recv hKc hPc (ci := 11) (q0 := 0) rfl rfl, xR_pre _ hE hKc hPc⟩ rfl rfl hl.1 rfl (lv_room (Nat.le_of_ble_eq_true rfl)) dL_law_990 ⟨Nat.le_of_ble_eq_true rfl, Nat.le_of_ble_eq_true rfl⟩) (fun rh1 h1 => ?_)
  obtain ⟨rfl, h1⟩ := h1
  refine lv_aload_n hx hb dL_law_993 rfl (lv_at hl 1 rfl) ?_
  refine lv_aload_n hx hb dL_law_994 rfl (lv_at hl 3 rfl) ?_
  refine lv_iload_n hx hb dL_law_995 rfl (lv_at hl 0 rfl) ?_
  refine lv_iconst (v := 1) hx hb dL_law_996 (by decide) ?_
  refine lv_iadd hx hb dL_law_997 ?_
  refine xw_i (v := 1) (by decide) ?_
  refine va_sld hx hb hX hbl hbA hS (by unfold vp_in; decide) dL_law_998 ?_
  refine xw_i (v := xs 1) rfl ?_
  have hPc := hP.sub (ws' := [(mo, .inr (12, [.ref m_tape, .int 0, .int 0, .int 0, .int 0, .int 0, .int 0, .int 0, .int 0, .int (-1), .ref m_laws, .ref m_hasLaws, .int 0, .int 0, .ref m_clubOf, .ref m_first, .ref m_last, .ref m_pay, .ref m_rise, .ref m_sure, .ref m_hasChoice, .ref m_isTaken, .ref m_isHurt, .ref m_dead, .ref m_usedSpare, .ref m_owner, .ref m_giver, .ref m_guarded, .ref m_drawnOf, .ref m_drawnTo, .int 0, .int 0, .ref m_table, .int 0, .ref m_moved, .ref m_from, .ref m_to, .ref m_guard, .ref m_worths, .ref m_ringClub, .ref m_ringGives, .int 0, .ref m_triedClub, .ref m_triedGives, .int 0, .int 0, .ref m_toldClub, .ref m_toldGives, .ref m_isOut, .ref m_purse, .int 0]))]) [2] rfl
  have hKc := hK.sub (tys' := []) [] rfl
  refine vp_callSi (W.runV (As := [.int (xs 1)]) (rest := [.int (-1)]) ⟨hx, hb, hml, hown, hts⟩ (mX_ringed l dC dI ([(mo, .inr (12, [.ref m_tape, .int 0, .int 0, .int 0, .int 0, .int 0, .int 0, .int 0, .int 0, .int (-1), .ref m_laws, .ref m_hasLaws, .int 0, .int 0, .ref m_clubOf, .ref m_first, .ref m_last, .ref m_pay, .ref m_rise, .ref m_sure, .ref m_hasChoice, .ref m_isTaken, .ref m_isHurt, .ref m_dead, .ref m_usedSpare, .ref m_owner, .ref m_giver, .ref m_guarded, .ref m_drawnOf, .ref m_drawnTo, .int 0, .int 0, .ref m_table, .int 0, .ref m_moved, .ref m_from, .ref m_to, .ref m_guard, .ref m_worths, .ref m_ringClub, .ref m_ringGives, .int 0, .ref m_triedClub, .ref m_triedGives, .int 0, .int 0, .ref m_toldClub, .ref m_toldGives, .ref m_isOut, .ref m_purse, .int 0]))]) ([]) 0 rfl (xs 1) ((xs 1).toInt) rfl) (cwV 1 hts gL_law_X12_ringed rfl rfl rfl (by decide +kernel) ⟨Nat.le_of_ble_eq_true rfl, Nat.le_of_ble_eq_true rfl⟩) ⟨xR_blind _ _ _ _, va_recv hKc hPc (ci := 12) (q0 := 0) rfl rfl, xR_pre _ hE hKc hPc⟩ rfl rfl hl.1 rfl (lv_room (Nat.le_of_ble_eq_true rfl)) dL_law_999 ⟨Nat.le_of_ble_eq_true rfl, Nat.le_of_ble_eq_true rfl⟩) (fun rh2 h2 => ?_)
  obtain ⟨rfl, h2⟩ := h2
  refine lv_icmp_eq (tgt := 1242) hx hb dL_law_1002 (by decide) (fun _ => ?_) (fun h => absurd (by first | rfl | (exfalso; omega)) h)
  refine lv_iinc (v := 8) (lv' := [(3, .int 8), (2, .ref mo), (1, .ref cp), (0, .ref b)]) hx hb dL_law_1242 hl (k := 0) rfl (by decide) (by decide) rfl (fun ls hl => ?_)
  refine lv_goto (tgt := 18) hx hb dL_law_1245 (by decide) ?_
  refine lv_iload_n hx hb dL_law_18 rfl (lv_at hl 0 rfl) ?_
  refine lv_aload_n hx hb dL_law_19 rfl (lv_at hl 3 rfl) ?_
  refine va_slen hx hb hX hbl hbA hS dL_law_20 ?_
  refine xw_i (v := 8) rfl ?_
  refine lv_bipush (v := 8) hx hb dL_law_21 (by decide) ?_
  refine lv_isub hx hb dL_law_23 ?_
  refine xw_i (v := 0) (by decide) ?_
  refine lv_icmp_gt (tgt := 1248) hx hb dL_law_24 (by decide) (fun _ => ?_) (fun h => absurd (by decide) h)
  refine lv_iconst (v := 1) hx hb dL_law_1248 (by decide) ?_
  refine va_forget (fun q hq => by have h9 := hS.2.2 q hq; rw [← hAe] at h9; exact h9) ?_
  refine W.widen (k := 600000) (n := 7302250) (by decide) (by decide) ?_
  exact lw_ret hx hb hr hlocks dL_law_1249
set_option maxHeartbeats 8000000 in
set_option maxRecDepth 100000 in
theorem law_23 {p : Program} {l : Launch} {e : Env} {s : State} {m : MethodId} {below : List Frame} {meth : Method} {c : Code} {dC : Nat → ClassId} {dI : Nat → Nat → Nat} {b : Nat} {xs : Nat → Int32} (C0 : lw_At p s m meth c b 8 xs) {A : Nat → Prop} (hAe : (fun q : Nat => s.heap.size ≤ q) = A) {tU : Nat} (hU : xU tU A s s.heap) (cp tp lb rd bk tn td rg dr by_ mo m_tape m_laws m_hasLaws m_clubOf m_first m_last m_pay m_rise m_sure m_hasChoice m_isTaken m_isHurt m_dead m_usedSpare m_owner m_giver m_guarded m_drawnOf m_drawnTo m_table m_moved m_from m_to m_guard m_worths m_ringClub m_ringGives m_triedClub m_triedGives m_toldClub m_toldGives m_isOut m_purse : Nat)    (hK : va_K (dC, dI) vwCl [] s) (H : Heap) (locs : List Loc) (hP : va_P (dC, dI) vwCl [(cp, .inr (11, [.ref tp, .ref lb, .ref rd, .ref bk, .ref tn, .ref td, .ref rg, .ref dr])), (tp, .inr (8, [.ref by_, .int 0])), (mo, .inr (12, [.ref m_tape, .int 0, .int 0, .int 0, .int 0, .int 0, .int 0, .int 0, .int 0, .int (-1), .ref m_laws, .ref m_hasLaws, .int 0, .int 0, .ref m_clubOf, .ref m_first, .ref m_last, .ref m_pay, .ref m_rise, .ref m_sure, .ref m_hasChoice, .ref m_isTaken, .ref m_isHurt, .ref m_dead, .ref m_usedSpare, .ref m_owner, .ref m_giver, .ref m_guarded, .ref m_drawnOf, .ref m_drawnTo, .int 0, .int 0, .ref m_table, .int 0, .ref m_moved, .ref m_from, .ref m_to, .ref m_guard, .ref m_worths, .ref m_ringClub, .ref m_ringGives, .int 0, .ref m_triedClub, .ref m_triedGives, .int 0, .int 0, .ref m_toldClub, .ref m_toldGives, .ref m_isOut, .ref m_purse, .int 0]))] H) (hD : va_D A [(cp, .inr (11, [.ref tp, .ref lb, .ref rd, .ref bk, .ref tn, .ref td, .ref rg, .ref dr])), (tp, .inr (8, [.ref by_, .int 0])), (mo, .inr (12, [.ref m_tape, .int 0, .int 0, .int 0, .int 0, .int 0, .int 0, .int 0, .int 0, .int (-1), .ref m_laws, .ref m_hasLaws, .int 0, .int 0, .ref m_clubOf, .ref m_first, .ref m_last, .ref m_pay, .ref m_rise, .ref m_sure, .ref m_hasChoice, .ref m_isTaken, .ref m_isHurt, .ref m_dead, .ref m_usedSpare, .ref m_owner, .ref m_giver, .ref m_guarded, .ref m_drawnOf, .ref m_drawnTo, .int 0, .int 0, .ref m_table, .int 0, .ref m_moved, .ref m_from, .ref m_to, .ref m_guard, .ref m_worths, .ref m_ringClub, .ref m_ringGives, .int 0, .ref m_triedClub, .ref m_triedGives, .int 0, .int 0, .ref m_toldClub, .ref m_toldGives, .ref m_isOut, .ref m_purse, .int 0]))]) (hS : va_S A s.heap H locs) (ls : Array Slot) (hl : lv_has ls 4 [(3, .int 0), (2, .ref mo), (1, .ref cp), (0, .ref b)]) : W p l e room_1 s m #[Value.ref b] below meth c H locs 178 9908 (lw_Z below #[Value.ref b] s) (F0 m 1007 ls []) := by
  obtain ⟨hx, hb, hr, hml, hown, hts0, hX, hbl, hlocks, hgv⟩ := id C0
  have hE := xs_E hts0
  have hts : ∀ w ∈ wsL_law, w.before #[Value.ref b] s = true := fun w h => hts0 w (wsL_law_in w h)
  have hA : ∀ q : Nat, s.heap.size ≤ q → A q := fun q h => by rw [← hAe]; exact h
  have hbA : ¬ A b := by rw [← hAe]; exact Nat.not_le.mpr hbl
  have lo0 := xi_lo (xs 0)
  have hi0 := xi_hi (xs 0)
  have lo1 := xi_lo (xs 1)
  have hi1 := xi_hi (xs 1)
  have lo2 := xi_lo (xs 2)
  have hi2 := xi_hi (xs 2)
  have lo3 := xi_lo (xs 3)
  have hi3 := xi_hi (xs 3)
  have lo4 := xi_lo (xs 4)
  have hi4 := xi_hi (xs 4)
  have lo5 := xi_lo (xs 5)
  have hi5 := xi_hi (xs 5)
  have lo6 := xi_lo (xs 6)
  have hi6 := xi_hi (xs 6)
  have lo7 := xi_lo (xs 7)
  have hi7 := xi_hi (xs 7)
  refine lv_aload_n hx hb dL_law_1007 rfl (lv_at hl 2 rfl) ?_
  have hPc := hP.sub (ws' := [(cp, .inr (11, [.ref tp, .ref lb, .ref rd, .ref bk, .ref tn, .ref td, .ref rg, .ref dr])), (tp, .inr (8, [.ref by_, .int 0]))]) [0, 1] rfl
  have hDc := hD.sub (ws' := [(cp, .inr (11, [.ref tp, .ref lb, .ref rd, .ref bk, .ref tn, .ref td, .ref rg, .ref dr])), (tp, .inr (8, [.ref by_, .int 0]))]) [0, 1] (by decide) rfl
  have hKc := hK.sub (tys' := []) [] rfl
  have hFc := va_free (wc := [(cp, .inr (11, [.ref tp, .ref lb, .ref rd, .ref bk, .ref tn, .ref td, .ref rg, .ref dr])), (tp, .inr (8, [.ref by_, .int 0]))]) hD hS hA [0, 1] rfl
  refine va_calli (va_runV (As := []) (rest := []) ⟨hx, hb, hml, hown, hts⟩ (aX_table l dC dI cp tp lb rd bk tn td rg dr by_    _) (cwV 0 hts gL_law_X11_table rfl rfl rfl (by decide +kernel) ⟨Nat.le_of_ble_eq_true rfl, Nat.le_of_ble_eq_true rfl⟩) ⟨xW_blind _ _ _ _ _, va_recv hKc hPc (ci := 11) (q0 := 0) rfl rfl, xW_pre _ hE hKc hPc hDc⟩ rfl rfl hl.1 rfl (lv_room (Nat.le_of_ble_eq_true rfl)) dL_law_1008 ⟨Nat.le_of_ble_eq_true rfl, Nat.le_of_ble_eq_true rfl⟩) hS (fun q _ h => hFc q h) hFc (fun rh1 u t H1 locs ht hvm h1 hB hz1 hk1 hS => ?_)
  obtain ⟨hP, hD⟩ := va_join (wr := [(mo, .inr (12, [.ref m_tape, .int 0, .int 0, .int 0, .int 0, .int 0, .int 0, .int 0, .int 0, .int (-1), .ref m_laws, .ref m_hasLaws, .int 0, .int 0, .ref m_clubOf, .ref m_first, .ref m_last, .ref m_pay, .ref m_rise, .ref m_sure, .ref m_hasChoice, .ref m_isTaken, .ref m_isHurt, .ref m_dead, .ref m_usedSpare, .ref m_owner, .ref m_giver, .ref m_guarded, .ref m_drawnOf, .ref m_drawnTo, .int 0, .int 0, .ref m_table, .int 0, .ref m_moved, .ref m_from, .ref m_to, .ref m_guard, .ref m_worths, .ref m_ringClub, .ref m_ringGives, .int 0, .ref m_triedClub, .ref m_triedGives, .int 0, .int 0, .ref m_toldClub, .ref m_toldGives, .ref m_isOut, .ref m_purse, .int 0]))]) (w1 := []) hP hD [0, 1] [2] rfl rfl (by decide) (by decide) hk1 hFc xz_P xz_D
  generalize H1 = H at hP hS ⊢
  replace hP : va_P (dC, dI) vwCl [(mo, .inr (12, [.ref m_tape, .int 0, .int 0, .int 0, .int 0, .int 0, .int 0, .int 0, .int 0, .int (-1), .ref m_laws, .ref m_hasLaws, .int 0, .int 0, .ref m_clubOf, .ref m_first, .ref m_last, .ref m_pay, .ref m_rise, .ref m_sure, .ref m_hasChoice, .ref m_isTaken, .ref m_isHurt, .ref m_dead, .ref m_usedSpare, .ref m_owner, .ref m_giver, .ref m_guarded, .ref m_drawnOf, .ref m_drawnTo, .int 0, .int 0, .ref m_table, .int 0, .ref m_moved, .ref m_from, .ref m_to, .ref m_guard, .ref m_worths, .ref m_ringClub, .ref m_ringGives, .int 0, .ref m_triedClub, .ref m_triedGives, .int 0, .int 0, .ref m_toldClub, .ref m_toldGives, .ref m_isOut, .ref m_purse, .int 0]))] H := hP
  replace hD : va_D A [(mo, .inr (12, [.ref m_tape, .int 0, .int 0, .int 0, .int 0, .int 0, .int 0, .int 0, .int 0, .int (-1), .ref m_laws, .ref m_hasLaws, .int 0, .int 0, .ref m_clubOf, .ref m_first, .ref m_last, .ref m_pay, .ref m_rise, .ref m_sure, .ref m_hasChoice, .ref m_isTaken, .ref m_isHurt, .ref m_dead, .ref m_usedSpare, .ref m_owner, .ref m_giver, .ref m_guarded, .ref m_drawnOf, .ref m_drawnTo, .int 0, .int 0, .ref m_table, .int 0, .ref m_moved, .ref m_from, .ref m_to, .ref m_guard, .ref m_worths, .ref m_ringClub, .ref m_ringGives, .int 0, .ref m_triedClub, .ref m_triedGives, .int 0, .int 0, .ref m_toldClub, .ref m_toldGives, .ref m_isOut, .ref m_purse, .int 0]))] := hD
  replace hK : va_K (dC, dI) vwCl [] s := hK
  refine W.cs (cells' := 178) (slots' := 9908) rfl rfl ?_
  obtain ⟨rfl, h1⟩ := h1
  refine lv_aload_n hx hb dL_law_1011 rfl (lv_at hl 1 rfl) ?_
  have hPc := hP.sub (ws' := [(mo, .inr (12, [.ref m_tape, .int 0, .int 0, .int 0, .int 0, .int 0, .int 0, .int 0, .int 0, .int (-1), .ref m_laws, .ref m_hasLaws, .int 0, .int 0, .ref m_clubOf, .ref m_first, .ref m_last, .ref m_pay, .ref m_rise, .ref m_sure, .ref m_hasChoice, .ref m_isTaken, .ref m_isHurt, .ref m_dead, .ref m_usedSpare, .ref m_owner, .ref m_giver, .ref m_guarded, .ref m_drawnOf, .ref m_drawnTo, .int 0, .int 0, .ref m_table, .int 0, .ref m_moved, .ref m_from, .ref m_to, .ref m_guard, .ref m_worths, .ref m_ringClub, .ref m_ringGives, .int 0, .ref m_triedClub, .ref m_triedGives, .int 0, .int 0, .ref m_toldClub, .ref m_toldGives, .ref m_isOut, .ref m_purse, .int 0]))]) [0] rfl
  have hDc := hD.sub (ws' := [(mo, .inr (12, [.ref m_tape, .int 0, .int 0, .int 0, .int 0, .int 0, .int 0, .int 0, .int 0, .int (-1), .ref m_laws, .ref m_hasLaws, .int 0, .int 0, .ref m_clubOf, .ref m_first, .ref m_last, .ref m_pay, .ref m_rise, .ref m_sure, .ref m_hasChoice, .ref m_isTaken, .ref m_isHurt, .ref m_dead, .ref m_usedSpare, .ref m_owner, .ref m_giver, .ref m_guarded, .ref m_drawnOf, .ref m_drawnTo, .int 0, .int 0, .ref m_table, .int 0, .ref m_moved, .ref m_from, .ref m_to, .ref m_guard, .ref m_worths, .ref m_ringClub, .ref m_ringGives, .int 0, .ref m_triedClub, .ref m_triedGives, .int 0, .int 0, .ref m_toldClub, .ref m_toldGives, .ref m_isOut, .ref m_purse, .int 0]))]) [0] (by decide) rfl
  have hKc := hK.sub (tys' := []) [] rfl
  have hFc := va_free (wc := [(mo, .inr (12, [.ref m_tape, .int 0, .int 0, .int 0, .int 0, .int 0, .int 0, .int 0, .int 0, .int (-1), .ref m_laws, .ref m_hasLaws, .int 0, .int 0, .ref m_clubOf, .ref m_first, .ref m_last, .ref m_pay, .ref m_rise, .ref m_sure, .ref m_hasChoice, .ref m_isTaken, .ref m_isHurt, .ref m_dead, .ref m_usedSpare, .ref m_owner, .ref m_giver, .ref m_guarded, .ref m_drawnOf, .ref m_drawnTo, .int 0, .int 0, .ref m_table, .int 0, .ref m_moved, .ref m_from, .ref m_to, .ref m_guard, .ref m_worths, .ref m_ringClub, .ref m_ringGives, .int 0, .ref m_triedClub, .ref m_triedGives, .int 0, .int 0, .ref m_toldClub, .ref m_toldGives, .ref m_isOut, .ref m_purse, .int 0]))]) hD hS hA [0] rfl
  refine va_calli (va_runV (As := []) (rest := [.int (-1)]) ⟨hx, hb, hml, hown, hts⟩ (mX_table l dC dI mo m_tape m_laws m_hasLaws m_clubOf m_first m_last m_pay m_rise m_sure m_hasChoice m_isTaken m_isHurt m_dead m_usedSpare m_owner m_giver m_guarded m_drawnOf m_drawnTo m_table m_moved m_from m_to m_guard m_worths m_ringClub m_ringGives m_triedClub m_triedGives m_toldClub m_toldGives m_isOut m_purse    _) (cwV 0 hts gL_law_X12_table rfl rfl rfl (by decide +kernel) ⟨Nat.le_of_ble_eq_true rfl, Nat.le_of_ble_eq_true rfl⟩) ⟨xW_blind _ _ _ _ _, va_recv hKc hPc (ci := 12) (q0 := 0) rfl rfl, xW_pre _ hE hKc hPc hDc⟩ rfl rfl hl.1 rfl (lv_room (Nat.le_of_ble_eq_true rfl)) dL_law_1012 ⟨Nat.le_of_ble_eq_true rfl, Nat.le_of_ble_eq_true rfl⟩) hS (fun q _ h => hFc q h) hFc (fun rh2 u t H1 locs ht hvm h2 hB hz1 hk1 hS => ?_)
  obtain ⟨hP, hD⟩ := va_join (wr := []) (w1 := []) hP hD [0] [] rfl rfl (by decide) (by decide) hk1 hFc xz_P xz_D
  generalize H1 = H at hP hS ⊢
  replace hP : va_P (dC, dI) vwCl [] H := hP
  replace hD : va_D A [] := hD
  replace hK : va_K (dC, dI) vwCl [] s := hK
  refine W.cs (cells' := 178) (slots' := 9908) rfl rfl ?_
  obtain ⟨rfl, h2⟩ := h2
  refine lv_icmp_eq (tgt := 1242) hx hb dL_law_1015 (by decide) (fun _ => ?_) (fun h => absurd (by first | rfl | (exfalso; omega)) h)
  refine lv_iinc (v := 8) (lv' := [(3, .int 8), (2, .ref mo), (1, .ref cp), (0, .ref b)]) hx hb dL_law_1242 hl (k := 0) rfl (by decide) (by decide) rfl (fun ls hl => ?_)
  refine lv_goto (tgt := 18) hx hb dL_law_1245 (by decide) ?_
  refine lv_iload_n hx hb dL_law_18 rfl (lv_at hl 0 rfl) ?_
  refine lv_aload_n hx hb dL_law_19 rfl (lv_at hl 3 rfl) ?_
  refine va_slen hx hb hX hbl hbA hS dL_law_20 ?_
  refine xw_i (v := 8) rfl ?_
  refine lv_bipush (v := 8) hx hb dL_law_21 (by decide) ?_
  refine lv_isub hx hb dL_law_23 ?_
  refine xw_i (v := 0) (by decide) ?_
  refine lv_icmp_gt (tgt := 1248) hx hb dL_law_24 (by decide) (fun _ => ?_) (fun h => absurd (by decide) h)
  refine lv_iconst (v := 1) hx hb dL_law_1248 (by decide) ?_
  refine va_forget (fun q hq => by have h9 := hS.2.2 q hq; rw [← hAe] at h9; exact h9) ?_
  refine W.widen (k := 600000) (n := 7302250) (by decide) (by decide) ?_
  exact lw_ret hx hb hr hlocks dL_law_1249
