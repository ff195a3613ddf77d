set_option maxHeartbeats 8000000 in
set_option maxRecDepth 100000 in
theorem law_0 {p : Program} {l : Launch} {e : Env} {s : State} {m : MethodId} {below : List Frame} {meth : Method} {c : Code} {dC : Nat → ClassId} {dI : Nat → Nat → Nat} {b : Nat} {xs : Nat → Int32} (C0 : lw_At p s m meth c b 8 xs) {A : Nat → Prop} (hAe : (fun q : Nat => s.heap.size ≤ q) = A) {tU : Nat} (hU : xU tU A s s.heap) (cp tp lb rd bk tn td rg dr by_ mo m_tape m_laws m_hasLaws m_clubOf m_first m_last m_pay m_rise m_sure m_hasChoice m_isTaken m_isHurt m_dead m_usedSpare m_owner m_giver m_guarded m_drawnOf m_drawnTo m_table m_moved m_from m_to m_guard m_worths m_ringClub m_ringGives m_triedClub m_triedGives m_toldClub m_toldGives m_isOut m_purse : Nat) (k_by k_tape : ClassId)   (hK : va_K (dC, dI) vwCl [(k_by, .byte), (k_tape, .byte)] s) (H : Heap) (locs : List Loc) (hP : va_P (dC, dI) vwCl [(cp, .inr (11, [.ref tp, .ref lb, .ref rd, .ref bk, .ref tn, .ref td, .ref rg, .ref dr])), (tp, .inr (8, [.ref by_, .int 0])), (by_, .inl (k_by, 500, .inl (fun _ => 0))), (mo, .inr (12, [.ref m_tape, .int 0, .int 0, .int 0, .int 0, .int 0, .int 0, .int 0, .int 0, .int (-1), .ref m_laws, .ref m_hasLaws, .int 0, .int 0, .ref m_clubOf, .ref m_first, .ref m_last, .ref m_pay, .ref m_rise, .ref m_sure, .ref m_hasChoice, .ref m_isTaken, .ref m_isHurt, .ref m_dead, .ref m_usedSpare, .ref m_owner, .ref m_giver, .ref m_guarded, .ref m_drawnOf, .ref m_drawnTo, .int 0, .int 0, .ref m_table, .int 0, .ref m_moved, .ref m_from, .ref m_to, .ref m_guard, .ref m_worths, .ref m_ringClub, .ref m_ringGives, .int 0, .ref m_triedClub, .ref m_triedGives, .int 0, .int 0, .ref m_toldClub, .ref m_toldGives, .ref m_isOut, .ref m_purse, .int 0])), (m_tape, .inl (k_tape, 500, .inl (fun _ => 0)))] H) (hD : va_D A [(cp, .inr (11, [.ref tp, .ref lb, .ref rd, .ref bk, .ref tn, .ref td, .ref rg, .ref dr])), (tp, .inr (8, [.ref by_, .int 0])), (by_, .inl (k_by, 500, .inl (fun _ => 0))), (mo, .inr (12, [.ref m_tape, .int 0, .int 0, .int 0, .int 0, .int 0, .int 0, .int 0, .int 0, .int (-1), .ref m_laws, .ref m_hasLaws, .int 0, .int 0, .ref m_clubOf, .ref m_first, .ref m_last, .ref m_pay, .ref m_rise, .ref m_sure, .ref m_hasChoice, .ref m_isTaken, .ref m_isHurt, .ref m_dead, .ref m_usedSpare, .ref m_owner, .ref m_giver, .ref m_guarded, .ref m_drawnOf, .ref m_drawnTo, .int 0, .int 0, .ref m_table, .int 0, .ref m_moved, .ref m_from, .ref m_to, .ref m_guard, .ref m_worths, .ref m_ringClub, .ref m_ringGives, .int 0, .ref m_triedClub, .ref m_triedGives, .int 0, .int 0, .ref m_toldClub, .ref m_toldGives, .ref m_isOut, .ref m_purse, .int 0])), (m_tape, .inl (k_tape, 500, .inl (fun _ => 0)))]) (hS : va_S A s.heap H locs) (ls : Array Slot) (hl : lv_has ls 4 [(3, .int 0), (2, .ref mo), (1, .ref cp), (0, .ref b)]) : W p l e room_1 s m #[Value.ref b] below meth c H locs 178 9908 (lw_Z below #[Value.ref b] s) (F0 m 172 ls []) := by
  obtain ⟨hx, hb, hr, hml, hown, hts0, hX, hbl, hlocks, hgv⟩ := id C0
  have hE := xs_E hts0
  have hts : ∀ w ∈ wsL_law, w.before #[Value.ref b] s = true := fun w h => hts0 w (wsL_law_in w h)
  have hA : ∀ q : Nat, s.heap.size ≤ q → A q := fun q h => by rw [← hAe]; exact h
  have hbA : ¬ A b := by rw [← hAe]; exact Nat.not_le.mpr hbl
  have lo0 := xi_lo (xs 0)
  have hi0 := xi_hi (xs 0)
  have lo1 := xi_lo (xs 1)
  have hi1 := xi_hi (xs 1)
  have lo2 := xi_lo (xs 2)
  have hi2 := xi_hi (xs 2)
  have lo3 := xi_lo (xs 3)
  have hi3 := xi_hi (xs 3)
  have lo4 := xi_lo (xs 4)
  have hi4 := xi_hi (xs 4)
  have lo5 := xi_lo (xs 5)
  have hi5 := xi_hi (xs 5)
  have lo6 := xi_lo (xs 6)
  have hi6 := xi_hi (xs 6)
  have lo7 := xi_lo (xs 7)
  have hi7 := xi_hi (xs 7)
  refine lv_aload_n hx hb dL_law_172 rfl (lv_at hl 2 rfl) ?_
  refine lv_aload_n hx hb dL_law_173 rfl (lv_at hl 3 rfl) ?_
  refine lv_iload_n hx hb dL_law_174 rfl (lv_at hl 0 rfl) ?_
  refine lv_iconst (v := 1) hx hb dL_law_175 (by decide) ?_
  refine lv_iadd hx hb dL_law_176 ?_
  refine xw_i (v := 1) (by decide) ?_
  refine va_sld hx hb hX hbl hbA hS (by unfold vp_in; decide) dL_law_177 ?_
  refine xw_i (v := xs 1) rfl ?_
  refine lv_aload_n hx hb dL_law_178 rfl (lv_at hl 3 rfl) ?_
  refine lv_iload_n hx hb dL_law_179 rfl (lv_at hl 0 rfl) ?_
  refine lv_iconst (v := 2) hx hb dL_law_180 (by decide) ?_
  refine lv_iadd hx hb dL_law_181 ?_
  refine xw_i (v := 2) (by decide) ?_
  refine va_sld hx hb hX hbl hbA hS (by unfold vp_in; decide) dL_law_182 ?_
  refine xw_i (v := xs 2) rfl ?_
  refine lv_aload_n hx hb dL_law_183 rfl (lv_at hl 3 rfl) ?_
  refine lv_iload_n hx hb dL_law_184 rfl (lv_at hl 0 rfl) ?_
  refine lv_iconst (v := 3) hx hb dL_law_185 (by decide) ?_
  refine lv_iadd hx hb dL_law_186 ?_
  refine xw_i (v := 3) (by decide) ?_
  refine va_sld hx hb hX hbl hbA hS (by unfold vp_in; decide) dL_law_187 ?_
  refine xw_i (v := xs 3) rfl ?_
  refine lv_aload_n hx hb dL_law_188 rfl (lv_at hl 3 rfl) ?_
  refine lv_iload_n hx hb dL_law_189 rfl (lv_at hl 0 rfl) ?_
  refine lv_iconst (v := 4) hx hb dL_law_190 (by decide) ?_
  refine lv_iadd hx hb dL_law_191 ?_
  refine xw_i (v := 4) (by decide) ?_
  refine va_sld hx hb hX hbl hbA hS (by unfold vp_in; decide) dL_law_192 ?_
  refine xw_i (v := xs 4) rfl ?_
  refine lv_aload_n hx hb dL_law_193 rfl (lv_at hl 3 rfl) ?_
  refine lv_iload_n hx hb dL_law_194 rfl (lv_at hl 0 rfl) ?_
  refine lv_iconst (v := 5) hx hb dL_law_195 (by decide) ?_
  refine lv_iadd hx hb dL_law_196 ?_
  refine xw_i (v := 5) (by decide) ?_
  refine va_sld hx hb hX hbl hbA hS (by unfold vp_in; decide) dL_law_197 ?_
  refine xw_i (v := xs 5) rfl ?_
  have hPc := hP.sub (ws' := [(cp, .inr (11, [.ref tp, .ref lb, .ref rd, .ref bk, .ref tn, .ref td, .ref rg, .ref dr])), (tp, .inr (8, [.ref by_, .int 0])), (by_, .inl (k_by, 500, .inl (fun _ => 0)))]) [0, 1, 2] rfl
  have hDc := hD.sub (ws' := [(cp, .inr (11, [.ref tp, .ref lb, .ref rd, .ref bk, .ref tn, .ref td, .ref rg, .ref dr])), (tp, .inr (8, [.ref by_, .int 0])), (by_, .inl (k_by, 500, .inl (fun _ => 0)))]) [0, 1, 2] (by decide) rfl
  have hKc := hK.sub (tys' := [(k_by, .byte)]) [0] rfl
  have hFc := va_free (wc := [(cp, .inr (11, [.ref tp, .ref lb, .ref rd, .ref bk, .ref tn, .ref td, .ref rg, .ref dr])), (tp, .inr (8, [.ref by_, .int 0])), (by_, .inl (k_by, 500, .inl (fun _ => 0)))]) hD hS hA [0, 1, 2] rfl
  refine va_calli (va_runV (As := [.int (xs 1), .int (xs 2), .int (xs 3), .int (xs 4), .int (xs 5)]) (rest := []) ⟨hx, hb, hml, hown, hts⟩ (aX_feed l dC dI cp tp lb rd bk tn td rg dr by_ k_by   _ (xs 1) ((xs 1).toInt) rfl (xs 2) ((xs 2).toInt) rfl (xs 3) ((xs 3).toInt) rfl (xs 4) ((xs 4).toInt) rfl (xs 5) ((xs 5).toInt) rfl) (cwV 5 hts gL_law_X11_feed rfl rfl rfl (by decide +kernel) ⟨Nat.le_of_ble_eq_true rfl, Nat.le_of_ble_eq_true rfl⟩) ⟨xW_blind _ _ _ _ _, va_recv hKc hPc (ci := 11) (q0 := 0) rfl rfl, xW_pre _ hE hKc hPc hDc⟩ rfl rfl hl.1 rfl (lv_room (Nat.le_of_ble_eq_true rfl)) dL_law_198 ⟨Nat.le_of_ble_eq_true rfl, Nat.le_of_ble_eq_true rfl⟩) hS (fun q _ h => hFc q h) hFc (fun rh1 u t H1 locs ht hvm h1 hB hz1 hk1 hS => ?_)
  obtain ⟨hP, hD⟩ := va_join (wr := [(mo, .inr (12, [.ref m_tape, .int 0, .int 0, .int 0, .int 0, .int 0, .int 0, .int 0, .int 0, .int (-1), .ref m_laws, .ref m_hasLaws, .int 0, .int 0, .ref m_clubOf, .ref m_first, .ref m_last, .ref m_pay, .ref m_rise, .ref m_sure, .ref m_hasChoice, .ref m_isTaken, .ref m_isHurt, .ref m_dead, .ref m_usedSpare, .ref m_owner, .ref m_giver, .ref m_guarded, .ref m_drawnOf, .ref m_drawnTo, .int 0, .int 0, .ref m_table, .int 0, .ref m_moved, .ref m_from, .ref m_to, .ref m_guard, .ref m_worths, .ref m_ringClub, .ref m_ringGives, .int 0, .ref m_triedClub, .ref m_triedGives, .int 0, .int 0, .ref m_toldClub, .ref m_toldGives, .ref m_isOut, .ref m_purse, .int 0])), (m_tape, .inl (k_tape, 500, .inl (fun _ => 0)))]) (w1 := []) hP hD [0, 1, 2] [3, 4] rfl rfl (by decide) (by decide) hk1 hFc xz_P xz_D
  generalize H1 = H at hP hS ⊢
  replace hP : va_P (dC, dI) vwCl [(mo, .inr (12, [.ref m_tape, .int 0, .int 0, .int 0, .int 0, .int 0, .int 0, .int 0, .int 0, .int (-1), .ref m_laws, .ref m_hasLaws, .int 0, .int 0, .ref m_clubOf, .ref m_first, .ref m_last, .ref m_pay, .ref m_rise, .ref m_sure, .ref m_hasChoice, .ref m_isTaken, .ref m_isHurt, .ref m_dead, .ref m_usedSpare, .ref m_owner, .ref m_giver, .ref m_guarded, .ref m_drawnOf, .ref m_drawnTo, .int 0, .int 0, .ref m_table, .int 0, .ref m_moved, .ref m_from, .ref m_to, .ref m_guard, .ref m_worths, .ref m_ringClub, .ref m_ringGives, .int 0, .ref m_triedClub, .ref m_triedGives, .int 0, .int 0, .ref m_toldClub, .ref m_toldGives, .ref m_isOut, .ref m_purse, .int 0])), (m_tape, .inl (k_tape, 500, .inl (fun _ => 0)))] H := hP
  replace hD : va_D A [(mo, .inr (12, [.ref m_tape, .int 0, .int 0, .int 0, .int 0, .int 0, .int 0, .int 0, .int 0, .int (-1), .ref m_laws, .ref m_hasLaws, .int 0, .int 0, .ref m_clubOf, .ref m_first, .ref m_last, .ref m_pay, .ref m_rise, .ref m_sure, .ref m_hasChoice, .ref m_isTaken, .ref m_isHurt, .ref m_dead, .ref m_usedSpare, .ref m_owner, .ref m_giver, .ref m_guarded, .ref m_drawnOf, .ref m_drawnTo, .int 0, .int 0, .ref m_table, .int 0, .ref m_moved, .ref m_from, .ref m_to, .ref m_guard, .ref m_worths, .ref m_ringClub, .ref m_ringGives, .int 0, .ref m_triedClub, .ref m_triedGives, .int 0, .int 0, .ref m_toldClub, .ref m_toldGives, .ref m_isOut, .ref m_purse, .int 0])), (m_tape, .inl (k_tape, 500, .inl (fun _ => 0)))] := hD
  replace hK : va_K (dC, dI) vwCl [(k_by, .byte), (k_tape, .byte)] s := hK
  refine W.cs (cells' := 178) (slots' := 9908) rfl rfl ?_
  obtain ⟨rfl, h1⟩ := h1
  refine lv_aload_n hx hb dL_law_201 rfl (lv_at hl 1 rfl) ?_
  refine lv_aload_n hx hb dL_law_202 rfl (lv_at hl 3 rfl) ?_
  refine lv_iload_n hx hb dL_law_203 rfl (lv_at hl 0 rfl) ?_
  refine lv_iconst (v := 1) hx hb dL_law_204 (by decide) ?_
  refine lv_iadd hx hb dL_law_205 ?_
  refine xw_i (v := 1) (by decide) ?_
  refine va_sld hx hb hX hbl hbA hS (by unfold vp_in; decide) dL_law_206 ?_
  refine xw_i (v := xs 1) rfl ?_
  refine lv_aload_n hx hb dL_law_207 rfl (lv_at hl 3 rfl) ?_
  refine lv_iload_n hx hb dL_law_208 rfl (lv_at hl 0 rfl) ?_
  refine lv_iconst (v := 2) hx hb dL_law_209 (by decide) ?_
  refine lv_iadd hx hb dL_law_210 ?_
  refine xw_i (v := 2) (by decide) ?_
  refine va_sld hx hb hX hbl hbA hS (by unfold vp_in; decide) dL_law_211 ?_
  refine xw_i (v := xs 2) rfl ?_
  refine lv_aload_n hx hb dL_law_212 rfl (lv_at hl 3 rfl) ?_
  refine lv_iload_n hx hb dL_law_213 rfl (lv_at hl 0 rfl) ?_
  refine lv_iconst (v := 3) hx hb dL_law_214 (by decide) ?_
  refine lv_iadd hx hb dL_law_215 ?_
  refine xw_i (v := 3) (by decide) ?_
  refine va_sld hx hb hX hbl hbA hS (by unfold vp_in; decide) dL_law_216 ?_
  refine xw_i (v := xs 3) rfl ?_
  refine lv_aload_n hx hb dL_law_217 rfl (lv_at hl 3 rfl) ?_
  refine lv_iload_n hx hb dL_law_218 rfl (lv_at hl 0 rfl) ?_
  refine lv_iconst (v := 4) hx hb dL_law_219 (by decide) ?_
  refine lv_iadd hx hb dL_law_220 ?_
  refine xw_i (v := 4) (by decide) ?_
  refine va_sld hx hb hX hbl hbA hS (by unfold vp_in; decide) dL_law_221 ?_
  refine xw_i (v := xs 4) rfl ?_
  refine lv_aload_n hx hb dL_law_222 rfl (lv_at hl 3 rfl) ?_
  refine lv_iload_n hx hb dL_law_223 rfl (lv_at hl 0 rfl) ?_
  refine lv_iconst (v := 5) hx hb dL_law_224 (by decide) ?_
  refine lv_iadd hx hb dL_law_225 ?_
  refine xw_i (v := 5) (by decide) ?_
  refine va_sld hx hb hX hbl hbA hS (by unfold vp_in; decide) dL_law_226 ?_
  refine xw_i (v := xs 5) rfl ?_
  have hPc := hP.sub (ws' := [(mo, .inr (12, [.ref m_tape, .int 0, .int 0, .int 0, .int 0, .int 0, .int 0, .int 0, .int 0, .int (-1), .ref m_laws, .ref m_hasLaws, .int 0, .int 0, .ref m_clubOf, .ref m_first, .ref m_last, .ref m_pay, .ref m_rise, .ref m_sure, .ref m_hasChoice, .ref m_isTaken, .ref m_isHurt, .ref m_dead, .ref m_usedSpare, .ref m_owner, .ref m_giver, .ref m_guarded, .ref m_drawnOf, .ref m_drawnTo, .int 0, .int 0, .ref m_table, .int 0, .ref m_moved, .ref m_from, .ref m_to, .ref m_guard, .ref m_worths, .ref m_ringClub, .ref m_ringGives, .int 0, .ref m_triedClub, .ref m_triedGives, .int 0, .int 0, .ref m_toldClub, .ref m_toldGives, .ref m_isOut, .ref m_purse, .int 0])), (m_tape, .inl (k_tape, 500, .inl (fun _ => 0)))]) [0, 1] rfl
  have hDc := hD.sub (ws' := [(mo, .inr (12, [.ref m_tape, .int 0, .int 0, .int 0, .int 0, .int 0, .int 0, .int 0, .int 0, .int (-1), .ref m_laws, .ref m_hasLaws, .int 0, .int 0, .ref m_clubOf, .ref m_first, .ref m_last, .ref m_pay, .ref m_rise, .ref m_sure, .ref m_hasChoice, .ref m_isTaken, .ref m_isHurt, .ref m_dead, .ref m_usedSpare, .ref m_owner, .ref m_giver, .ref m_guarded, .ref m_drawnOf, .ref m_drawnTo, .int 0, .int 0, .ref m_table, .int 0, .ref m_moved, .ref m_from, .ref m_to, .ref m_guard, .ref m_worths, .ref m_ringClub, .ref m_ringGives, .int 0, .ref m_triedClub, .ref m_triedGives, .int 0, .int 0, .ref m_toldClub, .ref m_toldGives, .ref m_isOut, .ref m_purse, .int 0])), (m_tape, .inl (k_tape, 500, .inl (fun _ => 0)))]) [0, 1] (by decide) rfl
  have hKc := hK.sub (tys' := [(k_tape, .byte)]) [1] rfl
  have hFc := va_free (wc := [(mo, .inr (12, [.ref m_tape, .int 0, .int 0, .int 0, .int 0, .int 0, .int 0, .int 0, .int 0, .int (-1), .ref m_laws, .ref m_hasLaws, .int 0, .int 0, .ref m_clubOf, .ref m_first, .ref m_last, .ref m_pay, .ref m_rise, .ref m_sure, .ref m_hasChoice, .ref m_isTaken, .ref m_isHurt, .ref m_dead, .ref m_usedSpare, .ref m_owner, .ref m_giver, .ref m_guarded, .ref m_drawnOf, .ref m_drawnTo, .int 0, .int 0, .ref m_table, .int 0, .ref m_moved, .ref m_from, .ref m_to, .ref m_guard, .ref m_worths, .ref m_ringClub, .ref m_ringGives, .int 0, .ref m_triedClub, .ref m_triedGives, .int 0, .int 0, .ref m_toldClub, .ref m_toldGives, .ref m_isOut, .ref m_purse, .int 0])), (m_tape, .inl (k_tape, 500, .inl (fun _ => 0)))]) hD hS hA [0, 1] rfl
  refine va_calli (va_runV (As := [.int (xs 1), .int (xs 2), .int (xs 3), .int (xs 4), .int (xs 5)]) (rest := [.int 20]) ⟨hx, hb, hml, hown, hts⟩ (mX_feed l dC dI mo m_tape m_laws m_hasLaws m_clubOf m_first m_last m_pay m_rise m_sure m_hasChoice m_isTaken m_isHurt m_dead m_usedSpare m_owner m_giver m_guarded m_drawnOf m_drawnTo m_table m_moved m_from m_to m_guard m_worths m_ringClub m_ringGives m_triedClub m_triedGives m_toldClub m_toldGives m_isOut m_purse k_tape   _ (xs 1) ((xs 1).toInt) rfl (xs 2) ((xs 2).toInt) rfl (xs 3) ((xs 3).toInt) rfl (xs 4) ((xs 4).toInt) rfl (xs 5) ((xs 5).toInt) rfl) (cwV 5 hts gL_law_X12_feed rfl rfl rfl (by decide +kernel) ⟨Nat.le_of_ble_eq_true rfl, Nat.le_of_ble_eq_true rfl⟩) ⟨xW_blind _ _ _ _ _, va_recv hKc hPc (ci := 12) (q0 := 0) rfl rfl, xW_pre _ hE hKc hPc hDc⟩ rfl rfl hl.1 rfl (lv_room (Nat.le_of_ble_eq_true rfl)) dL_law_227 ⟨Nat.le_of_ble_eq_true rfl, Nat.le_of_ble_eq_true rfl⟩) hS (fun q _ h => hFc q h) hFc (fun rh2 u t H1 locs ht hvm h2 hB hz1 hk1 hS => ?_)
  obtain ⟨hP, hD⟩ := va_join (wr := []) (w1 := []) hP hD [0, 1] [] rfl rfl (by decide) (by decide) hk1 hFc xz_P xz_D
  generalize H1 = H at hP hS ⊢
  replace hP : va_P (dC, dI) vwCl [] H := hP
  replace hD : va_D A [] := hD
  replace hK : va_K (dC, dI) vwCl [(k_by, .byte), (k_tape, .byte)] s := hK
  refine W.cs (cells' := 178) (slots' := 9908) rfl rfl ?_
  obtain ⟨rfl, h2⟩ := h2
  refine lv_icmp_eq (tgt := 1242) hx hb dL_law_230 (by decide) (fun _ => ?_) (fun h => absurd (by first | rfl | (exfalso; omega)) h)
  refine lv_iinc (v := 8) (lv' := [(3, .int 8), (2, .ref mo), (1, .ref cp), (0, .ref b)]) hx hb dL_law_1242 hl (k := 0) rfl (by decide) (by decide) rfl (fun ls hl => ?_)
  refine lv_goto (tgt := 18) hx hb dL_law_1245 (by decide) ?_
  refine lv_iload_n hx hb dL_law_18 rfl (lv_at hl 0 rfl) ?_
  refine lv_aload_n hx hb dL_law_19 rfl (lv_at hl 3 rfl) ?_
  refine va_slen hx hb hX hbl hbA hS dL_law_20 ?_
  refine xw_i (v := 8) rfl ?_
  refine lv_bipush (v := 8) hx hb dL_law_21 (by decide) ?_
  refine lv_isub hx hb dL_law_23 ?_
  refine xw_i (v := 0) (by decide) ?_
  refine lv_icmp_gt (tgt := 1248) hx hb dL_law_24 (by decide) (fun _ => ?_) (fun h => absurd (by decide) h)
  refine lv_iconst (v := 1) hx hb dL_law_1248 (by decide) ?_
  refine va_forget (fun q hq => by have h9 := hS.2.2 q hq; rw [← hAe] at h9; exact h9) ?_
  refine W.widen (k := 600000) (n := 7302250) (by decide) (by decide) ?_
  exact lw_ret hx hb hr hlocks dL_law_1249
set_option maxHeartbeats 8000000 in
set_option maxRecDepth 100000 in
theorem law_1 {p : Program} {l : Launch} {e : Env} {s : State} {m : MethodId} {below : List Frame} {meth : Method} {c : Code} {dC : Nat → ClassId} {dI : Nat → Nat → Nat} {b : Nat} {xs : Nat → Int32} (C0 : lw_At p s m meth c b 8 xs) {A : Nat → Prop} (hAe : (fun q : Nat => s.heap.size ≤ q) = A) {tU : Nat} (hU : xU tU A s s.heap) (cp tp lb rd bk tn td rg dr by_ mo m_tape m_laws m_hasLaws m_clubOf m_first m_last m_pay m_rise m_sure m_hasChoice m_isTaken m_isHurt m_dead m_usedSpare m_owner m_giver m_guarded m_drawnOf m_drawnTo m_table m_moved m_from m_to m_guard m_worths m_ringClub m_ringGives m_triedClub m_triedGives m_toldClub m_toldGives m_isOut m_purse : Nat)    (hK : va_K (dC, dI) vwCl [] s) (H : Heap) (locs : List Loc) (hP : va_P (dC, dI) vwCl [(cp, .inr (11, [.ref tp, .ref lb, .ref rd, .ref bk, .ref tn, .ref td, .ref rg, .ref dr])), (tp, .inr (8, [.ref by_, .int 0])), (mo, .inr (12, [.ref m_tape, .int 0, .int 0, .int 0, .int 0, .int 0, .int 0, .int 0, .int 0, .int (-1), .ref m_laws, .ref m_hasLaws, .int 0, .int 0, .ref m_clubOf, .ref m_first, .ref m_last, .ref m_pay, .ref m_rise, .ref m_sure, .ref m_hasChoice, .ref m_isTaken, .ref m_isHurt, .ref m_dead, .ref m_usedSpare, .ref m_owner, .ref m_giver, .ref m_guarded, .ref m_drawnOf, .ref m_drawnTo, .int 0, .int 0, .ref m_table, .int 0, .ref m_moved, .ref m_from, .ref m_to, .ref m_guard, .ref m_worths, .ref m_ringClub, .ref m_ringGives, .int 0, .ref m_triedClub, .ref m_triedGives, .int 0, .int 0, .ref m_toldClub, .ref m_toldGives, .ref m_isOut, .ref m_purse, .int 0]))] H) (hD : va_D A [(cp, .inr (11, [.ref tp, .ref lb, .ref rd, .ref bk, .ref tn, .ref td, .ref rg, .ref dr])), (tp, .inr (8, [.ref by_, .int 0])), (mo, .inr (12, [.ref m_tape, .int 0, .int 0, .int 0, .int 0, .int 0, .int 0, .int 0, .int 0, .int (-1), .ref m_laws, .ref m_hasLaws, .int 0, .int 0, .ref m_clubOf, .ref m_first, .ref m_last, .ref m_pay, .ref m_rise, .ref m_sure, .ref m_hasChoice, .ref m_isTaken, .ref m_isHurt, .ref m_dead, .ref m_usedSpare, .ref m_owner, .ref m_giver, .ref m_guarded, .ref m_drawnOf, .ref m_drawnTo, .int 0, .int 0, .ref m_table, .int 0, .ref m_moved, .ref m_from, .ref m_to, .ref m_guard, .ref m_worths, .ref m_ringClub, .ref m_ringGives, .int 0, .ref m_triedClub, .ref m_triedGives, .int 0, .int 0, .ref m_toldClub, .ref m_toldGives, .ref m_isOut, .ref m_purse, .int 0]))]) (hS : va_S A s.heap H locs) (ls : Array Slot) (hl : lv_has ls 4 [(3, .int 0), (2, .ref mo), (1, .ref cp), (0, .ref b)]) : W p l e room_1 s m #[Value.ref b] below meth c H locs 178 9908 (lw_Z below #[Value.ref b] s) (F0 m 235 ls []) := by
  obtain ⟨hx, hb, hr, hml, hown, hts0, hX, hbl, hlocks, hgv⟩ := id C0
  have hE := xs_E hts0
  have hts : ∀ w ∈ wsL_law, w.before #[Value.ref b] s = true := fun w h => hts0 w (wsL_law_in w h)
  have hA : ∀ q : Nat, s.heap.size ≤ q → A q := fun q h => by rw [← hAe]; exact h
  have hbA : ¬ A b := by rw [← hAe]; exact Nat.not_le.mpr hbl
  have lo0 := xi_lo (xs 0)
  have hi0 := xi_hi (xs 0)
  have lo1 := xi_lo (xs 1)
  have hi1 := xi_hi (xs 1)
  have lo2 := xi_lo (xs 2)
  have hi2 := xi_hi (xs 2)
  have lo3 := xi_lo (xs 3)
  have hi3 := xi_hi (xs 3)
  have lo4 := xi_lo (xs 4)
  have hi4 := xi_hi (xs 4)
  have lo5 := xi_lo (xs 5)
  have hi5 := xi_hi (xs 5)
  have lo6 := xi_lo (xs 6)
  have hi6 := xi_hi (xs 6)
  have lo7 := xi_lo (xs 7)
  have hi7 := xi_hi (xs 7)
  refine lv_aload_n hx hb dL_law_235 rfl (lv_at hl 2 rfl) ?_
  refine lv_aload_n hx hb dL_law_236 rfl (lv_at hl 3 rfl) ?_
  refine lv_iload_n hx hb dL_law_237 rfl (lv_at hl 0 rfl) ?_
  refine lv_iconst (v := 1) hx hb dL_law_238 (by decide) ?_
  refine lv_iadd hx hb dL_law_239 ?_
  refine xw_i (v := 1) (by decide) ?_
  refine va_sld hx hb hX hbl hbA hS (by unfold vp_in; decide) dL_law_240 ?_
  refine xw_i (v := xs 1) rfl ?_
  have hPc := hP.sub (ws' := [(cp, .inr (11, [.ref tp, .ref lb, .ref rd, .ref bk, .ref tn, .ref td, .ref rg, .ref dr])), (tp, .inr (8, [.ref by_, .int 0]))]) [0, 1] rfl
  have hDc := hD.sub (ws' := [(cp, .inr (11, [.ref tp, .ref lb, .ref rd, .ref bk, .ref tn, .ref td, .ref rg, .ref dr])), (tp, .inr (8, [.ref by_, .int 0]))]) [0, 1] (by decide) rfl
  have hKc := hK.sub (tys' := []) [] rfl
  have hFc := va_free (wc := [(cp, .inr (11, [.ref tp, .ref lb, .ref rd, .ref bk, .ref tn, .ref td, .ref rg, .ref dr])), (tp, .inr (8, [.ref by_, .int 0]))]) hD hS hA [0, 1] rfl
  refine va_calli (va_runV (As := [.int (xs 1)]) (rest := []) ⟨hx, hb, hml, hown, hts⟩ (aX_end l dC dI cp tp lb rd bk tn td rg dr by_    _ (xs 1) ((xs 1).toInt) rfl) (cwV 1 hts gL_law_X11_end rfl rfl rfl (by decide +kernel) ⟨Nat.le_of_ble_eq_true rfl, Nat.le_of_ble_eq_true rfl⟩) ⟨xW_blind _ _ _ _ _, va_recv hKc hPc (ci := 11) (q0 := 0) rfl rfl, xW_pre _ hE hKc hPc hDc⟩ rfl rfl hl.1 rfl (lv_room (Nat.le_of_ble_eq_true rfl)) dL_law_241 ⟨Nat.le_of_ble_eq_true rfl, Nat.le_of_ble_eq_true rfl⟩) hS (fun q _ h => hFc q h) hFc (fun rh1 u t H1 locs ht hvm h1 hB hz1 hk1 hS => ?_)
  obtain ⟨hP, hD⟩ := va_join (wr := [(mo, .inr (12, [.ref m_tape, .int 0, .int 0, .int 0, .int 0, .int 0, .int 0, .int 0, .int 0, .int (-1), .ref m_laws, .ref m_hasLaws, .int 0, .int 0, .ref m_clubOf, .ref m_first, .ref m_last, .ref m_pay, .ref m_rise, .ref m_sure, .ref m_hasChoice, .ref m_isTaken, .ref m_isHurt, .ref m_dead, .ref m_usedSpare, .ref m_owner, .ref m_giver, .ref m_guarded, .ref m_drawnOf, .ref m_drawnTo, .int 0, .int 0, .ref m_table, .int 0, .ref m_moved, .ref m_from, .ref m_to, .ref m_guard, .ref m_worths, .ref m_ringClub, .ref m_ringGives, .int 0, .ref m_triedClub, .ref m_triedGives, .int 0, .int 0, .ref m_toldClub, .ref m_toldGives, .ref m_isOut, .ref m_purse, .int 0]))]) (w1 := []) hP hD [0, 1] [2] rfl rfl (by decide) (by decide) hk1 hFc xz_P xz_D
  generalize H1 = H at hP hS ⊢
  replace hP : va_P (dC, dI) vwCl [(mo, .inr (12, [.ref m_tape, .int 0, .int 0, .int 0, .int 0, .int 0, .int 0, .int 0, .int 0, .int (-1), .ref m_laws, .ref m_hasLaws, .int 0, .int 0, .ref m_clubOf, .ref m_first, .ref m_last, .ref m_pay, .ref m_rise, .ref m_sure, .ref m_hasChoice, .ref m_isTaken, .ref m_isHurt, .ref m_dead, .ref m_usedSpare, .ref m_owner, .ref m_giver, .ref m_guarded, .ref m_drawnOf, .ref m_drawnTo, .int 0, .int 0, .ref m_table, .int 0, .ref m_moved, .ref m_from, .ref m_to, .ref m_guard, .ref m_worths, .ref m_ringClub, .ref m_ringGives, .int 0, .ref m_triedClub, .ref m_triedGives, .int 0, .int 0, .ref m_toldClub, .ref m_toldGives, .ref m_isOut, .ref m_purse, .int 0]))] H := hP
  replace hD : va_D A [(mo, .inr (12, [.ref m_tape, .int 0, .int 0, .int 0, .int 0, .int 0, .int 0, .int 0, .int 0, .int (-1), .ref m_laws, .ref m_hasLaws, .int 0, .int 0, .ref m_clubOf, .ref m_first, .ref m_last, .ref m_pay, .ref m_rise, .ref m_sure, .ref m_hasChoice, .ref m_isTaken, .ref m_isHurt, .ref m_dead, .ref m_usedSpare, .ref m_owner, .ref m_giver, .ref m_guarded, .ref m_drawnOf, .ref m_drawnTo, .int 0, .int 0, .ref m_table, .int 0, .ref m_moved, .ref m_from, .ref m_to, .ref m_guard, .ref m_worths, .ref m_ringClub, .ref m_ringGives, .int 0, .ref m_triedClub, .ref m_triedGives, .int 0, .int 0, .ref m_toldClub, .ref m_toldGives, .ref m_isOut, .ref m_purse, .int 0]))] := hD
  replace hK : va_K (dC, dI) vwCl [] s := hK
  refine W.cs (cells' := 178) (slots' := 9908) rfl rfl ?_
  rcases h1 with ⟨rfl, h1⟩ | ⟨rfl, h1⟩
  · skip
    refine lv_aload_n hx hb dL_law_244 rfl (lv_at hl 1 rfl) ?_
    refine lv_aload_n hx hb dL_law_245 rfl (lv_at hl 3 rfl) ?_
    refine lv_iload_n hx hb dL_law_246 rfl (lv_at hl 0 rfl) ?_
    refine lv_iconst (v := 1) hx hb dL_law_247 (by decide) ?_
    refine lv_iadd hx hb dL_law_248 ?_
    refine xw_i (v := 1) (by decide) ?_
    refine va_sld hx hb hX hbl hbA hS (by unfold vp_in; decide) dL_law_249 ?_
    refine xw_i (v := xs 1) rfl ?_
    have hPc := hP.sub (ws' := [(mo, .inr (12, [.ref m_tape, .int 0, .int 0, .int 0, .int 0, .int 0, .int 0, .int 0, .int 0, .int (-1), .ref m_laws, .ref m_hasLaws, .int 0, .int 0, .ref m_clubOf, .ref m_first, .ref m_last, .ref m_pay, .ref m_rise, .ref m_sure, .ref m_hasChoice, .ref m_isTaken, .ref m_isHurt, .ref m_dead, .ref m_usedSpare, .ref m_owner, .ref m_giver, .ref m_guarded, .ref m_drawnOf, .ref m_drawnTo, .int 0, .int 0, .ref m_table, .int 0, .ref m_moved, .ref m_from, .ref m_to, .ref m_guard, .ref m_worths, .ref m_ringClub, .ref m_ringGives, .int 0, .ref m_triedClub, .ref m_triedGives, .int 0, .int 0, .ref m_toldClub, .ref m_toldGives, .ref m_isOut, .ref m_purse, .int 0]))]) [0] rfl
    have hDc := hD.sub (ws' := [(mo, .inr (12, [.ref m_tape, .int 0, .int 0, .int 0, .int 0, .int 0, .int 0, .int 0, .int 0, .int (-1), .ref m_laws, .ref m_hasLaws, .int 0, .int 0, .ref m_clubOf, .ref m_first, .ref m_last, .ref m_pay, .ref m_rise, .ref m_sure, .ref m_hasChoice, .ref m_isTaken, .ref m_isHurt, .ref m_dead, .ref m_usedSpare, .ref m_owner, .ref m_giver, .ref m_guarded, .ref m_drawnOf, .ref m_drawnTo, .int 0, .int 0, .ref m_table, .int 0, .ref m_moved, .ref m_from, .ref m_to, .ref m_guard, .ref m_worths, .ref m_ringClub, .ref m_ringGives, .int 0, .ref m_triedClub, .ref m_triedGives, .int 0, .int 0, .ref m_toldClub, .ref m_toldGives, .ref m_isOut, .ref m_purse, .int 0]))]) [0] (by decide) rfl
    have hKc := hK.sub (tys' := []) [] rfl
    have hFc := va_free (wc := [(mo, .inr (12, [.ref m_tape, .int 0, .int 0, .int 0, .int 0, .int 0, .int 0, .int 0, .int 0, .int (-1), .ref m_laws, .ref m_hasLaws, .int 0, .int 0, .ref m_clubOf, .ref m_first, .ref m_last, .ref m_pay, .ref m_rise, .ref m_sure, .ref m_hasChoice, .ref m_isTaken, .ref m_isHurt, .ref m_dead, .ref m_usedSpare, .ref m_owner, .ref m_giver, .ref m_guarded, .ref m_drawnOf, .ref m_drawnTo, .int 0, .int 0, .ref m_table, .int 0, .ref m_moved, .ref m_from, .ref m_to, .ref m_guard, .ref m_worths, .ref m_ringClub, .ref m_ringGives, .int 0, .ref m_triedClub, .ref m_triedGives, .int 0, .int 0, .ref m_toldClub, .ref m_toldGives, .ref m_isOut, .ref m_purse, .int 0]))]) hD hS hA [0] rfl
    refine va_calli (va_runV (As := [.int (xs 1)]) (rest := [.int 0]) ⟨hx, hb, hml, hown, hts⟩ (mX_end l dC dI mo m_tape m_laws m_hasLaws m_clubOf m_first m_last m_pay m_rise m_sure m_hasChoice m_isTaken m_isHurt m_dead m_usedSpare m_owner m_giver m_guarded m_drawnOf m_drawnTo m_table m_moved m_from m_to m_guard m_worths m_ringClub m_ringGives m_triedClub m_triedGives m_toldClub m_toldGives m_isOut m_purse    _ (xs 1) ((xs 1).toInt) rfl) (cwV 1 hts gL_law_X12_end rfl rfl rfl (by decide +kernel) ⟨Nat.le_of_ble_eq_true rfl, Nat.le_of_ble_eq_true rfl⟩) ⟨xW_blind _ _ _ _ _, va_recv hKc hPc (ci := 12) (q0 := 0) rfl rfl, xW_pre _ hE hKc hPc hDc⟩ rfl rfl hl.1 rfl (lv_room (Nat.le_of_ble_eq_true rfl)) dL_law_250 ⟨Nat.le_of_ble_eq_true rfl, Nat.le_of_ble_eq_true rfl⟩) hS (fun q _ h => hFc q h) hFc (fun rh2 u t H1 locs ht hvm h2 hB hz1 hk1 hS => ?_)
    obtain ⟨hP, hD⟩ := va_join (wr := []) (w1 := []) hP hD [0] [] rfl rfl (by decide) (by decide) hk1 hFc xz_P xz_D
    generalize H1 = H at hP hS ⊢
    replace hP : va_P (dC, dI) vwCl [] H := hP
    replace hD : va_D A [] := hD
    replace hK : va_K (dC, dI) vwCl [] s := hK
    refine W.cs (cells' := 178) (slots' := 9908) rfl rfl ?_
    rcases h2 with ⟨rfl, h2⟩ | ⟨rfl, h2⟩
    · skip
      refine lv_icmp_eq (tgt := 1242) hx hb dL_law_253 (by decide) (fun _ => ?_) (fun h => absurd (by first | rfl | (exfalso; omega)) h)
      refine lv_iinc (v := 8) (lv' := [(3, .int 8), (2, .ref mo), (1, .ref cp), (0, .ref b)]) hx hb dL_law_1242 hl (k := 0) rfl (by decide) (by decide) rfl (fun ls hl => ?_)
      refine lv_goto (tgt := 18) hx hb dL_law_1245 (by decide) ?_
      refine lv_iload_n hx hb dL_law_18 rfl (lv_at hl 0 rfl) ?_
      refine lv_aload_n hx hb dL_law_19 rfl (lv_at hl 3 rfl) ?_
      refine va_slen hx hb hX hbl hbA hS dL_law_20 ?_
      refine xw_i (v := 8) rfl ?_
      refine lv_bipush (v := 8) hx hb dL_law_21 (by decide) ?_
      refine lv_isub hx hb dL_law_23 ?_
      refine xw_i (v := 0) (by decide) ?_
      refine lv_icmp_gt (tgt := 1248) hx hb dL_law_24 (by decide) (fun _ => ?_) (fun h => absurd (by decide) h)
      refine lv_iconst (v := 1) hx hb dL_law_1248 (by decide) ?_
      refine va_forget (fun q hq => by have h9 := hS.2.2 q hq; rw [← hAe] at h9; exact h9) ?_
      refine W.widen (k := 600000) (n := 7302250) (by decide) (by decide) ?_
      exact lw_ret hx hb hr hlocks dL_law_1249
    · skip
      exact absurd h2 (by omega)
  · skip
    refine lv_aload_n hx hb dL_law_244 rfl (lv_at hl 1 rfl) ?_
    refine lv_aload_n hx hb dL_law_245 rfl (lv_at hl 3 rfl) ?_
    refine lv_iload_n hx hb dL_law_246 rfl (lv_at hl 0 rfl) ?_
    refine lv_iconst (v := 1) hx hb dL_law_247 (by decide) ?_
    refine lv_iadd hx hb dL_law_248 ?_
    refine xw_i (v := 1) (by decide) ?_
    refine va_sld hx hb hX hbl hbA hS (by unfold vp_in; decide) dL_law_249 ?_
    refine xw_i (v := xs 1) rfl ?_
    have hPc := hP.sub (ws' := [(mo, .inr (12, [.ref m_tape, .int 0, .int 0, .int 0, .int 0, .int 0, .int 0, .int 0, .int 0, .int (-1), .ref m_laws, .ref m_hasLaws, .int 0, .int 0, .ref m_clubOf, .ref m_first, .ref m_last, .ref m_pay, .ref m_rise, .ref m_sure, .ref m_hasChoice, .ref m_isTaken, .ref m_isHurt, .ref m_dead, .ref m_usedSpare, .ref m_owner, .ref m_giver, .ref m_guarded, .ref m_drawnOf, .ref m_drawnTo, .int 0, .int 0, .ref m_table, .int 0, .ref m_moved, .ref m_from, .ref m_to, .ref m_guard, .ref m_worths, .ref m_ringClub, .ref m_ringGives, .int 0, .ref m_triedClub, .ref m_triedGives, .int 0, .int 0, .ref m_toldClub, .ref m_toldGives, .ref m_isOut, .ref m_purse, .int 0]))]) [0] rfl
    have hDc := hD.sub (ws' := [(mo, .inr (12, [.ref m_tape, .int 0, .int 0, .int 0, .int 0, .int 0, .int 0, .int 0, .int 0, .int (-1), .ref m_laws, .ref m_hasLaws, .int 0, .int 0, .ref m_clubOf, .ref m_first, .ref m_last, .ref m_pay, .ref m_rise, .ref m_sure, .ref m_hasChoice, .ref m_isTaken, .ref m_isHurt, .ref m_dead, .ref m_usedSpare, .ref m_owner, .ref m_giver, .ref m_guarded, .ref m_drawnOf, .ref m_drawnTo, .int 0, .int 0, .ref m_table, .int 0, .ref m_moved, .ref m_from, .ref m_to, .ref m_guard, .ref m_worths, .ref m_ringClub, .ref m_ringGives, .int 0, .ref m_triedClub, .ref m_triedGives, .int 0, .int 0, .ref m_toldClub, .ref m_toldGives, .ref m_isOut, .ref m_purse, .int 0]))]) [0] (by decide) rfl
    have hKc := hK.sub (tys' := []) [] rfl
    have hFc := va_free (wc := [(mo, .inr (12, [.ref m_tape, .int 0, .int 0, .int 0, .int 0, .int 0, .int 0, .int 0, .int 0, .int (-1), .ref m_laws, .ref m_hasLaws, .int 0, .int 0, .ref m_clubOf, .ref m_first, .ref m_last, .ref m_pay, .ref m_rise, .ref m_sure, .ref m_hasChoice, .ref m_isTaken, .ref m_isHurt, .ref m_dead, .ref m_usedSpare, .ref m_owner, .ref m_giver, .ref m_guarded, .ref m_drawnOf, .ref m_drawnTo, .int 0, .int 0, .ref m_table, .int 0, .ref m_moved, .ref m_from, .ref m_to, .ref m_guard, .ref m_worths, .ref m_ringClub, .ref m_ringGives, .int 0, .ref m_triedClub, .ref m_triedGives, .int 0, .int 0, .ref m_toldClub, .ref m_toldGives, .ref m_isOut, .ref m_purse, .int 0]))]) hD hS hA [0] rfl
    refine va_calli (va_runV (As := [.int (xs 1)]) (rest := [.int (-1)]) ⟨hx, hb, hml, hown, hts⟩ (mX_end l dC dI mo m_tape m_laws m_hasLaws m_clubOf m_first m_last m_pay m_rise m_sure m_hasChoice m_isTaken m_isHurt m_dead m_usedSpare m_owner m_giver m_guarded m_drawnOf m_drawnTo m_table m_moved m_from m_to m_guard m_worths m_ringClub m_ringGives m_triedClub m_triedGives m_toldClub m_toldGives m_isOut m_purse    _ (xs 1) ((xs 1).toInt) rfl) (cwV 1 hts gL_law_X12_end rfl rfl rfl (by decide +kernel) ⟨Nat.le_of_ble_eq_true rfl, Nat.le_of_ble_eq_true rfl⟩) ⟨xW_blind _ _ _ _ _, va_recv hKc hPc (ci := 12) (q0 := 0) rfl rfl, xW_pre _ hE hKc hPc hDc⟩ rfl rfl hl.1 rfl (lv_room (Nat.le_of_ble_eq_true rfl)) dL_law_250 ⟨Nat.le_of_ble_eq_true rfl, Nat.le_of_ble_eq_true rfl⟩) hS (fun q _ h => hFc q h) hFc (fun rh4 u t H1 locs ht hvm h4 hB hz1 hk1 hS => ?_)
    obtain ⟨hP, hD⟩ := va_join (wr := []) (w1 := []) hP hD [0] [] rfl rfl (by decide) (by decide) hk1 hFc xz_P xz_D
    generalize H1 = H at hP hS ⊢
    replace hP : va_P (dC, dI) vwCl [] H := hP
    replace hD : va_D A [] := hD
    replace hK : va_K (dC, dI) vwCl [] s := hK
    refine W.cs (cells' := 178) (slots' := 9908) rfl rfl ?_
    rcases h4 with ⟨rfl, h4⟩ | ⟨rfl, h4⟩
    · skip
      refine lv_icmp_eq (tgt := 1242) hx hb dL_law_253 (by decide) (fun _ => ?_) (fun h => absurd (by first | rfl | (exfalso; omega)) h)
      refine lv_iinc (v := 8) (lv' := [(3, .int 8), (2, .ref mo), (1, .ref cp), (0, .ref b)]) hx hb dL_law_1242 hl (k := 0) rfl (by decide) (by decide) rfl (fun ls hl => ?_)
      refine lv_goto (tgt := 18) hx hb dL_law_1245 (by decide) ?_
      refine lv_iload_n hx hb dL_law_18 rfl (lv_at hl 0 rfl) ?_
      refine lv_aload_n hx hb dL_law_19 rfl (lv_at hl 3 rfl) ?_
      refine va_slen hx hb hX hbl hbA hS dL_law_20 ?_
      refine xw_i (v := 8) rfl ?_
      refine lv_bipush (v := 8) hx hb dL_law_21 (by decide) ?_
      refine lv_isub hx hb dL_law_23 ?_
      refine xw_i (v := 0) (by decide) ?_
      refine lv_icmp_gt (tgt := 1248) hx hb dL_law_24 (by decide) (fun _ => ?_) (fun h => absurd (by decide) h)
      refine lv_iconst (v := 1) hx hb dL_law_1248 (by decide) ?_
      refine va_forget (fun q hq => by have h9 := hS.2.2 q hq; rw [← hAe] at h9; exact h9) ?_
      refine W.widen (k := 600000) (n := 7302250) (by decide) (by decide) ?_
      exact lw_ret hx hb hr hlocks dL_law_1249
    · skip
      refine lv_icmp_eq (tgt := 1242) hx hb dL_law_253 (by decide) (fun _ => ?_) (fun h => absurd (by first | rfl | (exfalso; omega)) h)
      refine lv_iinc (v := 8) (lv' := [(3, .int 8), (2, .ref mo), (1, .ref cp), (0, .ref b)]) hx hb dL_law_1242 hl (k := 0) rfl (by decide) (by decide) rfl (fun ls hl => ?_)
      refine lv_goto (tgt := 18) hx hb dL_law_1245 (by decide) ?_
      refine lv_iload_n hx hb dL_law_18 rfl (lv_at hl 0 rfl) ?_
      refine lv_aload_n hx hb dL_law_19 rfl (lv_at hl 3 rfl) ?_
      refine va_slen hx hb hX hbl hbA hS dL_law_20 ?_
      refine xw_i (v := 8) rfl ?_
      refine lv_bipush (v := 8) hx hb dL_law_21 (by decide) ?_
      refine lv_isub hx hb dL_law_23 ?_
      refine xw_i (v := 0) (by decide) ?_
      refine lv_icmp_gt (tgt := 1248) hx hb dL_law_24 (by decide) (fun _ => ?_) (fun h => absurd (by decide) h)
      refine lv_iconst (v := 1) hx hb dL_law_1248 (by decide) ?_
      refine va_forget (fun q hq => by have h9 := hS.2.2 q hq; rw [← hAe] at h9; exact h9) ?_
      refine W.widen (k := 600000) (n := 7302250) (by decide) (by decide) ?_
      exact lw_ret hx hb hr hlocks dL_law_1249
set_option maxHeartbeats 8000000 in
set_option maxRecDepth 100000 in
theorem law_2 {p : Program} {l : Launch} {e : Env} {s : State} {m : MethodId} {below : List Frame} {meth : Method} {c : Code} {dC : Nat → ClassId} {dI : Nat → Nat → Nat} {b : Nat} {xs : Nat → Int32} (C0 : lw_At p s m meth c b 8 xs) {A : Nat → Prop} (hAe : (fun q : Nat => s.heap.size ≤ q) = A) {tU : Nat} (hU : xU tU A s s.heap) (cp tp lb rd bk tn td rg dr by_ un tx lr lr1 lr2 pl de su fi ac mo m_tape m_laws m_hasLaws m_clubOf m_first m_last m_pay m_rise m_sure m_hasChoice m_isTaken m_isHurt m_dead m_usedSpare m_owner m_giver m_guarded m_drawnOf m_drawnTo m_table m_moved m_from m_to m_guard m_worths m_ringClub m_ringGives m_triedClub m_triedGives m_toldClub m_toldGives m_isOut m_purse : Nat) (k_tx k_l1 k_l2 k_laws k_hasLaws : ClassId) (fr1 fr2 fL : Nat → Int32) (ux9 : fr1 0 = 1000) (ux10 : fr1 1 = 15) (ux11 : fr1 2 = 4) (ux12 : fr1 3 = 0) (ux13 : fr1 4 = 100) (ux14 : fr1 5 = 0) (ux15 : fr1 6 = 0) (ux16 : fr1 7 = 0) (ux17 : fr2 0 = 1) (um0 : ∀ j : Nat, j < 16 → fL (176 + j) = xpl j) (hK : va_K (dC, dI) vwCl [(k_tx, (.object RX5)), (k_l1, .int), (k_l2, .int), (k_laws, .int), (k_hasLaws, .boolean)] s) (H : Heap) (locs : List Loc) (hP : va_P (dC, dI) vwCl [(cp, .inr (11, [.ref tp, .ref lb, .ref rd, .ref bk, .ref tn, .ref td, .ref rg, .ref dr])), (tp, .inr (8, [.ref by_, .int 0])), (lb, .inr (3, [.ref un, .ref tx])), (tx, .inl (k_tx, 10, .inr (.inr (.inr (.inr (fun _ => none)))))), (rd, .inr (4, [.ref tp, .ref lr, .int 0, .int (-1), .int 0, .int 0, .int 0, .int 0, .int 0])), (lr, .inr (5, [.ref lr1, .ref lr2, .int 1])), (lr1, .inl (k_l1, 8, .inl fr1)), (lr2, .inl (k_l2, 6, .inl fr2)), (bk, .inr (0, [.ref lb, .ref pl, .int 0, .int 0, .ref de, .ref su, .ref fi, .int 0, .ref ac])), (mo, .inr (12, [.ref m_tape, .int 0, .int 0, .int 0, .int 0, .int 0, .int 0, .int 0, .int 0, .int (-1), .ref m_laws, .ref m_hasLaws, .int 0, .int 0, .ref m_clubOf, .ref m_first, .ref m_last, .ref m_pay, .ref m_rise, .ref m_sure, .ref m_hasChoice, .ref m_isTaken, .ref m_isHurt, .ref m_dead, .ref m_usedSpare, .ref m_owner, .ref m_giver, .ref m_guarded, .ref m_drawnOf, .ref m_drawnTo, .int 0, .int 0, .ref m_table, .int 0, .ref m_moved, .ref m_from, .ref m_to, .ref m_guard, .ref m_worths, .ref m_ringClub, .ref m_ringGives, .int 0, .ref m_triedClub, .ref m_triedGives, .int 0, .int 0, .ref m_toldClub, .ref m_toldGives, .ref m_isOut, .ref m_purse, .int 0])), (m_laws, .inl (k_laws, 192, .inl fL)), (m_hasLaws, .inl (k_hasLaws, 10, .inl (fun _ => 0)))] H) (hD : va_D A [(cp, .inr (11, [.ref tp, .ref lb, .ref rd, .ref bk, .ref tn, .ref td, .ref rg, .ref dr])), (tp, .inr (8, [.ref by_, .int 0])), (lb, .inr (3, [.ref un, .ref tx])), (tx, .inl (k_tx, 10, .inr (.inr (.inr (.inr (fun _ => none)))))), (rd, .inr (4, [.ref tp, .ref lr, .int 0, .int (-1), .int 0, .int 0, .int 0, .int 0, .int 0])), (lr, .inr (5, [.ref lr1, .ref lr2, .int 1])), (lr1, .inl (k_l1, 8, .inl fr1)), (lr2, .inl (k_l2, 6, .inl fr2)), (bk, .inr (0, [.ref lb, .ref pl, .int 0, .int 0, .ref de, .ref su, .ref fi, .int 0, .ref ac])), (mo, .inr (12, [.ref m_tape, .int 0, .int 0, .int 0, .int 0, .int 0, .int 0, .int 0, .int 0, .int (-1), .ref m_laws, .ref m_hasLaws, .int 0, .int 0, .ref m_clubOf, .ref m_first, .ref m_last, .ref m_pay, .ref m_rise, .ref m_sure, .ref m_hasChoice, .ref m_isTaken, .ref m_isHurt, .ref m_dead, .ref m_usedSpare, .ref m_owner, .ref m_giver, .ref m_guarded, .ref m_drawnOf, .ref m_drawnTo, .int 0, .int 0, .ref m_table, .int 0, .ref m_moved, .ref m_from, .ref m_to, .ref m_guard, .ref m_worths, .ref m_ringClub, .ref m_ringGives, .int 0, .ref m_triedClub, .ref m_triedGives, .int 0, .int 0, .ref m_toldClub, .ref m_toldGives, .ref m_isOut, .ref m_purse, .int 0])), (m_laws, .inl (k_laws, 192, .inl fL)), (m_hasLaws, .inl (k_hasLaws, 10, .inl (fun _ => 0)))]) (hS : va_S A s.heap H locs) (ls : Array Slot) (hl : lv_has ls 4 [(3, .int 0), (2, .ref mo), (1, .ref cp), (0, .ref b)]) : W p l e room_1 s m #[Value.ref b] below meth c H locs 178 9908 (lw_Z below #[Value.ref b] s) (F0 m 258 ls []) := by
  obtain ⟨hx, hb, hr, hml, hown, hts0, hX, hbl, hlocks, hgv⟩ := id C0
  have hE := xs_E hts0
  have hts : ∀ w ∈ wsL_law, w.before #[Value.ref b] s = true := fun w h => hts0 w (wsL_law_in w h)
  have hA : ∀ q : Nat, s.heap.size ≤ q → A q := fun q h => by rw [← hAe]; exact h
  have hbA : ¬ A b := by rw [← hAe]; exact Nat.not_le.mpr hbl
  have lo0 := xi_lo (xs 0)
  have hi0 := xi_hi (xs 0)
  have lo1 := xi_lo (xs 1)
  have hi1 := xi_hi (xs 1)
  have lo2 := xi_lo (xs 2)
  have hi2 := xi_hi (xs 2)
  have lo3 := xi_lo (xs 3)
  have hi3 := xi_hi (xs 3)
  have lo4 := xi_lo (xs 4)
  have hi4 := xi_hi (xs 4)
  have lo5 := xi_lo (xs 5)
  have hi5 := xi_hi (xs 5)
  have lo6 := xi_lo (xs 6)
  have hi6 := xi_hi (xs 6)
  have lo7 := xi_lo (xs 7)
  have hi7 := xi_hi (xs 7)
  refine lv_aload_n hx hb dL_law_258 rfl (lv_at hl 2 rfl) ?_
  refine lv_aload_n hx hb dL_law_259 rfl (lv_at hl 3 rfl) ?_
  refine lv_iload_n hx hb dL_law_260 rfl (lv_at hl 0 rfl) ?_
  refine lv_iconst (v := 1) hx hb dL_law_261 (by decide) ?_
  refine lv_iadd hx hb dL_law_262 ?_
  refine xw_i (v := 1) (by decide) ?_
  refine va_sld hx hb hX hbl hbA hS (by unfold vp_in; decide) dL_law_263 ?_
  refine xw_i (v := xs 1) rfl ?_
  have hPc := hP.sub (ws' := [(cp, .inr (11, [.ref tp, .ref lb, .ref rd, .ref bk, .ref tn, .ref td, .ref rg, .ref dr])), (bk, .inr (0, [.ref lb, .ref pl, .int 0, .int 0, .ref de, .ref su, .ref fi, .int 0, .ref ac])), (rd, .inr (4, [.ref tp, .ref lr, .int 0, .int (-1), .int 0, .int 0, .int 0, .int 0, .int 0])), (tp, .inr (8, [.ref by_, .int 0])), (lr, .inr (5, [.ref lr1, .ref lr2, .int 1])), (lr1, .inl (k_l1, 8, .inl fr1)), (lr2, .inl (k_l2, 6, .inl fr2)), (lb, .inr (3, [.ref un, .ref tx])), (tx, .inl (k_tx, 10, .inr (.inr (.inr (.inr (fun _ => none))))))]) [0, 8, 4, 1, 5, 6, 7, 2, 3] rfl
  have hDc := hD.sub (ws' := [(cp, .inr (11, [.ref tp, .ref lb, .ref rd, .ref bk, .ref tn, .ref td, .ref rg, .ref dr])), (bk, .inr (0, [.ref lb, .ref pl, .int 0, .int 0, .ref de, .ref su, .ref fi, .int 0, .ref ac])), (rd, .inr (4, [.ref tp, .ref lr, .int 0, .int (-1), .int 0, .int 0, .int 0, .int 0, .int 0])), (tp, .inr (8, [.ref by_, .int 0])), (lr, .inr (5, [.ref lr1, .ref lr2, .int 1])), (lr1, .inl (k_l1, 8, .inl fr1)), (lr2, .inl (k_l2, 6, .inl fr2)), (lb, .inr (3, [.ref un, .ref tx])), (tx, .inl (k_tx, 10, .inr (.inr (.inr (.inr (fun _ => none))))))]) [0, 8, 4, 1, 5, 6, 7, 2, 3] (by decide) rfl
  have hKc := hK.sub (tys' := [(k_l1, .int), (k_l2, .int), (k_tx, (.object RX5))]) [1, 2, 0] rfl
  have hFc := va_free (wc := [(cp, .inr (11, [.ref tp, .ref lb, .ref rd, .ref bk, .ref tn, .ref td, .ref rg, .ref dr])), (bk, .inr (0, [.ref lb, .ref pl, .int 0, .int 0, .ref de, .ref su, .ref fi, .int 0, .ref ac])), (rd, .inr (4, [.ref tp, .ref lr, .int 0, .int (-1), .int 0, .int 0, .int 0, .int 0, .int 0])), (tp, .inr (8, [.ref by_, .int 0])), (lr, .inr (5, [.ref lr1, .ref lr2, .int 1])), (lr1, .inl (k_l1, 8, .inl fr1)), (lr2, .inl (k_l2, 6, .inl fr2)), (lb, .inr (3, [.ref un, .ref tx])), (tx, .inl (k_tx, 10, .inr (.inr (.inr (.inr (fun _ => none))))))]) hD hS hA [0, 8, 4, 1, 5, 6, 7, 2, 3] rfl
  refine va_calli (va_runV (As := [.int (xs 1)]) (rest := []) ⟨hx, hb, hml, hown, hts⟩ (aX_laws l dC dI cp tp lb rd bk tn td rg dr pl de su fi ac lr by_ lr1 lr2 un tx k_l1 k_l2 k_tx fr1 fr2  _ tU (xs 1) ((xs 1).toInt) rfl) (cwV 1 hts gL_law_X11_laws rfl rfl rfl (by decide +kernel) ⟨Nat.le_of_ble_eq_true rfl, Nat.le_of_ble_eq_true rfl⟩) ⟨xWU_blind _ _ _ _ _ _, va_recv hKc hPc (ci := 11) (q0 := 0) rfl rfl, xWU_pre _ hE hKc hPc hDc hU hS hFc⟩ rfl rfl hl.1 rfl (lv_room (Nat.le_of_ble_eq_true rfl)) dL_law_264 ⟨Nat.le_of_ble_eq_true rfl, Nat.le_of_ble_eq_true rfl⟩) hS (fun q _ h => hFc q h) hFc (fun rh1 u t H1 locs ht hvm h1 hB hz1 hk1 hS => ?_)
  obtain ⟨hP, hD⟩ := va_join (wr := [(mo, .inr (12, [.ref m_tape, .int 0, .int 0, .int 0, .int 0, .int 0, .int 0, .int 0, .int 0, .int (-1), .ref m_laws, .ref m_hasLaws, .int 0, .int 0, .ref m_clubOf, .ref m_first, .ref m_last, .ref m_pay, .ref m_rise, .ref m_sure, .ref m_hasChoice, .ref m_isTaken, .ref m_isHurt, .ref m_dead, .ref m_usedSpare, .ref m_owner, .ref m_giver, .ref m_guarded, .ref m_drawnOf, .ref m_drawnTo, .int 0, .int 0, .ref m_table, .int 0, .ref m_moved, .ref m_from, .ref m_to, .ref m_guard, .ref m_worths, .ref m_ringClub, .ref m_ringGives, .int 0, .ref m_triedClub, .ref m_triedGives, .int 0, .int 0, .ref m_toldClub, .ref m_toldGives, .ref m_isOut, .ref m_purse, .int 0])), (m_laws, .inl (k_laws, 192, .inl fL)), (m_hasLaws, .inl (k_hasLaws, 10, .inl (fun _ => 0)))]) (w1 := []) hP hD [0, 8, 4, 1, 5, 6, 7, 2, 3] [9, 10, 11] rfl rfl (by decide) (by decide) hk1 hFc xz_P xz_D
  generalize H1 = H at hP hS ⊢
  replace hP : va_P (dC, dI) vwCl [(mo, .inr (12, [.ref m_tape, .int 0, .int 0, .int 0, .int 0, .int 0, .int 0, .int 0, .int 0, .int (-1), .ref m_laws, .ref m_hasLaws, .int 0, .int 0, .ref m_clubOf, .ref m_first, .ref m_last, .ref m_pay, .ref m_rise, .ref m_sure, .ref m_hasChoice, .ref m_isTaken, .ref m_isHurt, .ref m_dead, .ref m_usedSpare, .ref m_owner, .ref m_giver, .ref m_guarded, .ref m_drawnOf, .ref m_drawnTo, .int 0, .int 0, .ref m_table, .int 0, .ref m_moved, .ref m_from, .ref m_to, .ref m_guard, .ref m_worths, .ref m_ringClub, .ref m_ringGives, .int 0, .ref m_triedClub, .ref m_triedGives, .int 0, .int 0, .ref m_toldClub, .ref m_toldGives, .ref m_isOut, .ref m_purse, .int 0])), (m_laws, .inl (k_laws, 192, .inl fL)), (m_hasLaws, .inl (k_hasLaws, 10, .inl (fun _ => 0)))] H := hP
  replace hD : va_D A [(mo, .inr (12, [.ref m_tape, .int 0, .int 0, .int 0, .int 0, .int 0, .int 0, .int 0, .int 0, .int (-1), .ref m_laws, .ref m_hasLaws, .int 0, .int 0, .ref m_clubOf, .ref m_first, .ref m_last, .ref m_pay, .ref m_rise, .ref m_sure, .ref m_hasChoice, .ref m_isTaken, .ref m_isHurt, .ref m_dead, .ref m_usedSpare, .ref m_owner, .ref m_giver, .ref m_guarded, .ref m_drawnOf, .ref m_drawnTo, .int 0, .int 0, .ref m_table, .int 0, .ref m_moved, .ref m_from, .ref m_to, .ref m_guard, .ref m_worths, .ref m_ringClub, .ref m_ringGives, .int 0, .ref m_triedClub, .ref m_triedGives, .int 0, .int 0, .ref m_toldClub, .ref m_toldGives, .ref m_isOut, .ref m_purse, .int 0])), (m_laws, .inl (k_laws, 192, .inl fL)), (m_hasLaws, .inl (k_hasLaws, 10, .inl (fun _ => 0)))] := hD
  replace hK : va_K (dC, dI) vwCl [(k_tx, (.object RX5)), (k_l1, .int), (k_l2, .int), (k_laws, .int), (k_hasLaws, .boolean)] s := hK
  refine W.cs (cells' := 181) (slots' := 9925) rfl rfl ?_
  rcases h1 with ⟨rfl, h1⟩ | ⟨rfl, h1⟩
  · skip
    refine lv_aload_n hx hb dL_law_267 rfl (lv_at hl 1 rfl) ?_
    refine lv_aload_n hx hb dL_law_268 rfl (lv_at hl 3 rfl) ?_
    refine lv_iload_n hx hb dL_law_269 rfl (lv_at hl 0 rfl) ?_
    refine lv_iconst (v := 1) hx hb dL_law_270 (by decide) ?_
    refine lv_iadd hx hb dL_law_271 ?_
    refine xw_i (v := 1) (by decide) ?_
    refine va_sld hx hb hX hbl hbA hS (by unfold vp_in; decide) dL_law_272 ?_
    refine xw_i (v := xs 1) rfl ?_
    have hPc := hP.sub (ws' := [(mo, .inr (12, [.ref m_tape, .int 0, .int 0, .int 0, .int 0, .int 0, .int 0, .int 0, .int 0, .int (-1), .ref m_laws, .ref m_hasLaws, .int 0, .int 0, .ref m_clubOf, .ref m_first, .ref m_last, .ref m_pay, .ref m_rise, .ref m_sure, .ref m_hasChoice, .ref m_isTaken, .ref m_isHurt, .ref m_dead, .ref m_usedSpare, .ref m_owner, .ref m_giver, .ref m_guarded, .ref m_drawnOf, .ref m_drawnTo, .int 0, .int 0, .ref m_table, .int 0, .ref m_moved, .ref m_from, .ref m_to, .ref m_guard, .ref m_worths, .ref m_ringClub, .ref m_ringGives, .int 0, .ref m_triedClub, .ref m_triedGives, .int 0, .int 0, .ref m_toldClub, .ref m_toldGives, .ref m_isOut, .ref m_purse, .int 0])), (m_laws, .inl (k_laws, 192, .inl fL)), (m_hasLaws, .inl (k_hasLaws, 10, .inl (fun _ => 0)))]) [0, 1, 2] rfl
    have hDc := hD.sub (ws' := [(mo, .inr (12, [.ref m_tape, .int 0, .int 0, .int 0, .int 0, .int 0, .int 0, .int 0, .int 0, .int (-1), .ref m_laws, .ref m_hasLaws, .int 0, .int 0, .ref m_clubOf, .ref m_first, .ref m_last, .ref m_pay, .ref m_rise, .ref m_sure, .ref m_hasChoice, .ref m_isTaken, .ref m_isHurt, .ref m_dead, .ref m_usedSpare, .ref m_owner, .ref m_giver, .ref m_guarded, .ref m_drawnOf, .ref m_drawnTo, .int 0, .int 0, .ref m_table, .int 0, .ref m_moved, .ref m_from, .ref m_to, .ref m_guard, .ref m_worths, .ref m_ringClub, .ref m_ringGives, .int 0, .ref m_triedClub, .ref m_triedGives, .int 0, .int 0, .ref m_toldClub, .ref m_toldGives, .ref m_isOut, .ref m_purse, .int 0])), (m_laws, .inl (k_laws, 192, .inl fL)), (m_hasLaws, .inl (k_hasLaws, 10, .inl (fun _ => 0)))]) [0, 1, 2] (by decide) rfl
    have hKc := hK.sub (tys' := [(k_laws, .int), (k_hasLaws, .boolean)]) [3, 4] rfl
    have hFc := va_free (wc := [(mo, .inr (12, [.ref m_tape, .int 0, .int 0, .int 0, .int 0, .int 0, .int 0, .int 0, .int 0, .int (-1), .ref m_laws, .ref m_hasLaws, .int 0, .int 0, .ref m_clubOf, .ref m_first, .ref m_last, .ref m_pay, .ref m_rise, .ref m_sure, .ref m_hasChoice, .ref m_isTaken, .ref m_isHurt, .ref m_dead, .ref m_usedSpare, .ref m_owner, .ref m_giver, .ref m_guarded, .ref m_drawnOf, .ref m_drawnTo, .int 0, .int 0, .ref m_table, .int 0, .ref m_moved, .ref m_from, .ref m_to, .ref m_guard, .ref m_worths, .ref m_ringClub, .ref m_ringGives, .int 0, .ref m_triedClub, .ref m_triedGives, .int 0, .int 0, .ref m_toldClub, .ref m_toldGives, .ref m_isOut, .ref m_purse, .int 0])), (m_laws, .inl (k_laws, 192, .inl fL)), (m_hasLaws, .inl (k_hasLaws, 10, .inl (fun _ => 0)))]) hD hS hA [0, 1, 2] rfl
    refine va_calli (va_runV (As := [.int (xs 1)]) (rest := [.int 0]) ⟨hx, hb, hml, hown, hts⟩ (mX_laws l dC dI mo m_tape m_laws m_hasLaws m_clubOf m_first m_last m_pay m_rise m_sure m_hasChoice m_isTaken m_isHurt m_dead m_usedSpare m_owner m_giver m_guarded m_drawnOf m_drawnTo m_table m_moved m_from m_to m_guard m_worths m_ringClub m_ringGives m_triedClub m_triedGives m_toldClub m_toldGives m_isOut m_purse k_laws k_hasLaws fL  _ (xs 1) ((xs 1).toInt) rfl) (cwV 1 hts gL_law_X12_laws rfl rfl rfl (by decide +kernel) ⟨Nat.le_of_ble_eq_true rfl, Nat.le_of_ble_eq_true rfl⟩) ⟨xW_blind _ _ _ _ _, va_recv hKc hPc (ci := 12) (q0 := 0) rfl rfl, xW_pre _ hE hKc hPc hDc⟩ rfl rfl hl.1 rfl (lv_room (Nat.le_of_ble_eq_true rfl)) dL_law_273 ⟨Nat.le_of_ble_eq_true rfl, Nat.le_of_ble_eq_true rfl⟩) hS (fun q _ h => hFc q h) hFc (fun rh2 u t H1 locs ht hvm h2 hB hz1 hk1 hS => ?_)
    obtain ⟨hP, hD⟩ := va_join (wr := []) (w1 := []) hP hD [0, 1, 2] [] rfl rfl (by decide) (by decide) hk1 hFc xz_P xz_D
    generalize H1 = H at hP hS ⊢
    replace hP : va_P (dC, dI) vwCl [] H := hP
    replace hD : va_D A [] := hD
    replace hK : va_K (dC, dI) vwCl [(k_tx, (.object RX5)), (k_l1, .int), (k_l2, .int), (k_laws, .int), (k_hasLaws, .boolean)] s := hK
    refine W.cs (cells' := 181) (slots' := 9925) rfl rfl ?_
    rcases h2 with ⟨rfl, h2⟩ | ⟨rfl, h2⟩
    · skip
      refine lv_icmp_eq (tgt := 1242) hx hb dL_law_276 (by decide) (fun _ => ?_) (fun h => absurd (by first | rfl | (exfalso; omega)) h)
      refine lv_iinc (v := 8) (lv' := [(3, .int 8), (2, .ref mo), (1, .ref cp), (0, .ref b)]) hx hb dL_law_1242 hl (k := 0) rfl (by decide) (by decide) rfl (fun ls hl => ?_)
      refine lv_goto (tgt := 18) hx hb dL_law_1245 (by decide) ?_
      refine lv_iload_n hx hb dL_law_18 rfl (lv_at hl 0 rfl) ?_
      refine lv_aload_n hx hb dL_law_19 rfl (lv_at hl 3 rfl) ?_
      refine va_slen hx hb hX hbl hbA hS dL_law_20 ?_
      refine xw_i (v := 8) rfl ?_
      refine lv_bipush (v := 8) hx hb dL_law_21 (by decide) ?_
      refine lv_isub hx hb dL_law_23 ?_
      refine xw_i (v := 0) (by decide) ?_
      refine lv_icmp_gt (tgt := 1248) hx hb dL_law_24 (by decide) (fun _ => ?_) (fun h => absurd (by decide) h)
      refine lv_iconst (v := 1) hx hb dL_law_1248 (by decide) ?_
      refine va_forget (fun q hq => by have h9 := hS.2.2 q hq; rw [← hAe] at h9; exact h9) ?_
      refine W.widen (k := 600000) (n := 7302250) (by decide) (by decide) ?_
      exact lw_ret hx hb hr hlocks dL_law_1249
    · skip
      refine lv_icmp_eq (tgt := 1242) hx hb dL_law_276 (by decide) (fun _ => ?_) (fun h => absurd (by first | rfl | (exfalso; omega)) h)
      refine lv_iinc (v := 8) (lv' := [(3, .int 8), (2, .ref mo), (1, .ref cp), (0, .ref b)]) hx hb dL_law_1242 hl (k := 0) rfl (by decide) (by decide) rfl (fun ls hl => ?_)
      refine lv_goto (tgt := 18) hx hb dL_law_1245 (by decide) ?_
      refine lv_iload_n hx hb dL_law_18 rfl (lv_at hl 0 rfl) ?_
      refine lv_aload_n hx hb dL_law_19 rfl (lv_at hl 3 rfl) ?_
      refine va_slen hx hb hX hbl hbA hS dL_law_20 ?_
      refine xw_i (v := 8) rfl ?_
      refine lv_bipush (v := 8) hx hb dL_law_21 (by decide) ?_
      refine lv_isub hx hb dL_law_23 ?_
      refine xw_i (v := 0) (by decide) ?_
      refine lv_icmp_gt (tgt := 1248) hx hb dL_law_24 (by decide) (fun _ => ?_) (fun h => absurd (by decide) h)
      refine lv_iconst (v := 1) hx hb dL_law_1248 (by decide) ?_
      refine va_forget (fun q hq => by have h9 := hS.2.2 q hq; rw [← hAe] at h9; exact h9) ?_
      refine W.widen (k := 600000) (n := 7302250) (by decide) (by decide) ?_
      exact lw_ret hx hb hr hlocks dL_law_1249
  · skip
    refine lv_aload_n hx hb dL_law_267 rfl (lv_at hl 1 rfl) ?_
    refine lv_aload_n hx hb dL_law_268 rfl (lv_at hl 3 rfl) ?_
    refine lv_iload_n hx hb dL_law_269 rfl (lv_at hl 0 rfl) ?_
    refine lv_iconst (v := 1) hx hb dL_law_270 (by decide) ?_
    refine lv_iadd hx hb dL_law_271 ?_
    refine xw_i (v := 1) (by decide) ?_
    refine va_sld hx hb hX hbl hbA hS (by unfold vp_in; decide) dL_law_272 ?_
    refine xw_i (v := xs 1) rfl ?_
    have hPc := hP.sub (ws' := [(mo, .inr (12, [.ref m_tape, .int 0, .int 0, .int 0, .int 0, .int 0, .int 0, .int 0, .int 0, .int (-1), .ref m_laws, .ref m_hasLaws, .int 0, .int 0, .ref m_clubOf, .ref m_first, .ref m_last, .ref m_pay, .ref m_rise, .ref m_sure, .ref m_hasChoice, .ref m_isTaken, .ref m_isHurt, .ref m_dead, .ref m_usedSpare, .ref m_owner, .ref m_giver, .ref m_guarded, .ref m_drawnOf, .ref m_drawnTo, .int 0, .int 0, .ref m_table, .int 0, .ref m_moved, .ref m_from, .ref m_to, .ref m_guard, .ref m_worths, .ref m_ringClub, .ref m_ringGives, .int 0, .ref m_triedClub, .ref m_triedGives, .int 0, .int 0, .ref m_toldClub, .ref m_toldGives, .ref m_isOut, .ref m_purse, .int 0])), (m_laws, .inl (k_laws, 192, .inl fL)), (m_hasLaws, .inl (k_hasLaws, 10, .inl (fun _ => 0)))]) [0, 1, 2] rfl
    have hDc := hD.sub (ws' := [(mo, .inr (12, [.ref m_tape, .int 0, .int 0, .int 0, .int 0, .int 0, .int 0, .int 0, .int 0, .int (-1), .ref m_laws, .ref m_hasLaws, .int 0, .int 0, .ref m_clubOf, .ref m_first, .ref m_last, .ref m_pay, .ref m_rise, .ref m_sure, .ref m_hasChoice, .ref m_isTaken, .ref m_isHurt, .ref m_dead, .ref m_usedSpare, .ref m_owner, .ref m_giver, .ref m_guarded, .ref m_drawnOf, .ref m_drawnTo, .int 0, .int 0, .ref m_table, .int 0, .ref m_moved, .ref m_from, .ref m_to, .ref m_guard, .ref m_worths, .ref m_ringClub, .ref m_ringGives, .int 0, .ref m_triedClub, .ref m_triedGives, .int 0, .int 0, .ref m_toldClub, .ref m_toldGives, .ref m_isOut, .ref m_purse, .int 0])), (m_laws, .inl (k_laws, 192, .inl fL)), (m_hasLaws, .inl (k_hasLaws, 10, .inl (fun _ => 0)))]) [0, 1, 2] (by decide) rfl
    have hKc := hK.sub (tys' := [(k_laws, .int), (k_hasLaws, .boolean)]) [3, 4] rfl
    have hFc := va_free (wc := [(mo, .inr (12, [.ref m_tape, .int 0, .int 0, .int 0, .int 0, .int 0, .int 0, .int 0, .int 0, .int (-1), .ref m_laws, .ref m_hasLaws, .int 0, .int 0, .ref m_clubOf, .ref m_first, .ref m_last, .ref m_pay, .ref m_rise, .ref m_sure, .ref m_hasChoice, .ref m_isTaken, .ref m_isHurt, .ref m_dead, .ref m_usedSpare, .ref m_owner, .ref m_giver, .ref m_guarded, .ref m_drawnOf, .ref m_drawnTo, .int 0, .int 0, .ref m_table, .int 0, .ref m_moved, .ref m_from, .ref m_to, .ref m_guard, .ref m_worths, .ref m_ringClub, .ref m_ringGives, .int 0, .ref m_triedClub, .ref m_triedGives, .int 0, .int 0, .ref m_toldClub, .ref m_toldGives, .ref m_isOut, .ref m_purse, .int 0])), (m_laws, .inl (k_laws, 192, .inl fL)), (m_hasLaws, .inl (k_hasLaws, 10, .inl (fun _ => 0)))]) hD hS hA [0, 1, 2] rfl
    refine va_calli (va_runV (As := [.int (xs 1)]) (rest := [.int (-2)]) ⟨hx, hb, hml, hown, hts⟩ (mX_laws l dC dI mo m_tape m_laws m_hasLaws m_clubOf m_first m_last m_pay m_rise m_sure m_hasChoice m_isTaken m_isHurt m_dead m_usedSpare m_owner m_giver m_guarded m_drawnOf m_drawnTo m_table m_moved m_from m_to m_guard m_worths m_ringClub m_ringGives m_triedClub m_triedGives m_toldClub m_toldGives m_isOut m_purse k_laws k_hasLaws fL  _ (xs 1) ((xs 1).toInt) rfl) (cwV 1 hts gL_law_X12_laws rfl rfl rfl (by decide +kernel) ⟨Nat.le_of_ble_eq_true rfl, Nat.le_of_ble_eq_true rfl⟩) ⟨xW_blind _ _ _ _ _, va_recv hKc hPc (ci := 12) (q0 := 0) rfl rfl, xW_pre _ hE hKc hPc hDc⟩ rfl rfl hl.1 rfl (lv_room (Nat.le_of_ble_eq_true rfl)) dL_law_273 ⟨Nat.le_of_ble_eq_true rfl, Nat.le_of_ble_eq_true rfl⟩) hS (fun q _ h => hFc q h) hFc (fun rh5 u t H1 locs ht hvm h5 hB hz1 hk1 hS => ?_)
    obtain ⟨hP, hD⟩ := va_join (wr := []) (w1 := []) hP hD [0, 1, 2] [] rfl rfl (by decide) (by decide) hk1 hFc xz_P xz_D
    generalize H1 = H at hP hS ⊢
    replace hP : va_P (dC, dI) vwCl [] H := hP
    replace hD : va_D A [] := hD
    replace hK : va_K (dC, dI) vwCl [(k_tx, (.object RX5)), (k_l1, .int), (k_l2, .int), (k_laws, .int), (k_hasLaws, .boolean)] s := hK
    refine W.cs (cells' := 181) (slots' := 9925) rfl rfl ?_
    rcases h5 with ⟨rfl, h5⟩ | ⟨rfl, h5⟩
    · skip
      refine lv_icmp_eq (tgt := 1242) hx hb dL_law_276 (by decide) (fun _ => ?_) (fun h => absurd (by first | rfl | (exfalso; omega)) h)
      refine lv_iinc (v := 8) (lv' := [(3, .int 8), (2, .ref mo), (1, .ref cp), (0, .ref b)]) hx hb dL_law_1242 hl (k := 0) rfl (by decide) (by decide) rfl (fun ls hl => ?_)
      refine lv_goto (tgt := 18) hx hb dL_law_1245 (by decide) ?_
      refine lv_iload_n hx hb dL_law_18 rfl (lv_at hl 0 rfl) ?_
      refine lv_aload_n hx hb dL_law_19 rfl (lv_at hl 3 rfl) ?_
      refine va_slen hx hb hX hbl hbA hS dL_law_20 ?_
      refine xw_i (v := 8) rfl ?_
      refine lv_bipush (v := 8) hx hb dL_law_21 (by decide) ?_
      refine lv_isub hx hb dL_law_23 ?_
      refine xw_i (v := 0) (by decide) ?_
      refine lv_icmp_gt (tgt := 1248) hx hb dL_law_24 (by decide) (fun _ => ?_) (fun h => absurd (by decide) h)
      refine lv_iconst (v := 1) hx hb dL_law_1248 (by decide) ?_
      refine va_forget (fun q hq => by have h9 := hS.2.2 q hq; rw [← hAe] at h9; exact h9) ?_
      refine W.widen (k := 600000) (n := 7302250) (by decide) (by decide) ?_
      exact lw_ret hx hb hr hlocks dL_law_1249
    · skip
      refine lv_icmp_eq (tgt := 1242) hx hb dL_law_276 (by decide) (fun _ => ?_) (fun h => absurd (by first | rfl | (exfalso; omega)) h)
      refine lv_iinc (v := 8) (lv' := [(3, .int 8), (2, .ref mo), (1, .ref cp), (0, .ref b)]) hx hb dL_law_1242 hl (k := 0) rfl (by decide) (by decide) rfl (fun ls hl => ?_)
      refine lv_goto (tgt := 18) hx hb dL_law_1245 (by decide) ?_
      refine lv_iload_n hx hb dL_law_18 rfl (lv_at hl 0 rfl) ?_
      refine lv_aload_n hx hb dL_law_19 rfl (lv_at hl 3 rfl) ?_
      refine va_slen hx hb hX hbl hbA hS dL_law_20 ?_
      refine xw_i (v := 8) rfl ?_
      refine lv_bipush (v := 8) hx hb dL_law_21 (by decide) ?_
      refine lv_isub hx hb dL_law_23 ?_
      refine xw_i (v := 0) (by decide) ?_
      refine lv_icmp_gt (tgt := 1248) hx hb dL_law_24 (by decide) (fun _ => ?_) (fun h => absurd (by decide) h)
      refine lv_iconst (v := 1) hx hb dL_law_1248 (by decide) ?_
      refine va_forget (fun q hq => by have h9 := hS.2.2 q hq; rw [← hAe] at h9; exact h9) ?_
      refine W.widen (k := 600000) (n := 7302250) (by decide) (by decide) ?_
      exact lw_ret hx hb hr hlocks dL_law_1249
set_option maxHeartbeats 8000000 in
set_option maxRecDepth 100000 in
theorem law_3 {p : Program} {l : Launch} {e : Env} {s : State} {m : MethodId} {below : List Frame} {meth : Method} {c : Code} {dC : Nat → ClassId} {dI : Nat → Nat → Nat} {b : Nat} {xs : Nat → Int32} (C0 : lw_At p s m meth c b 8 xs) {A : Nat → Prop} (hAe : (fun q : Nat => s.heap.size ≤ q) = A) {tU : Nat} (hU : xU tU A s s.heap) (cp tp lb rd bk tn td rg dr lr mo m_tape m_laws m_hasLaws m_clubOf m_first m_last m_pay m_rise m_sure m_hasChoice m_isTaken m_isHurt m_dead m_usedSpare m_owner m_giver m_guarded m_drawnOf m_drawnTo m_table m_moved m_from m_to m_guard m_worths m_ringClub m_ringGives m_triedClub m_triedGives m_toldClub m_toldGives m_isOut m_purse : Nat)    (hK : va_K (dC, dI) vwCl [] s) (H : Heap) (locs : List Loc) (hP : va_P (dC, dI) vwCl [(cp, .inr (11, [.ref tp, .ref lb, .ref rd, .ref bk, .ref tn, .ref td, .ref rg, .ref dr])), (rd, .inr (4, [.ref tp, .ref lr, .int 0, .int (-1), .int 0, .int 0, .int 0, .int 0, .int 0])), (mo, .inr (12, [.ref m_tape, .int 0, .int 0, .int 0, .int 0, .int 0, .int 0, .int 0, .int 0, .int (-1), .ref m_laws, .ref m_hasLaws, .int 0, .int 0, .ref m_clubOf, .ref m_first, .ref m_last, .ref m_pay, .ref m_rise, .ref m_sure, .ref m_hasChoice, .ref m_isTaken, .ref m_isHurt, .ref m_dead, .ref m_usedSpare, .ref m_owner, .ref m_giver, .ref m_guarded, .ref m_drawnOf, .ref m_drawnTo, .int 0, .int 0, .ref m_table, .int 0, .ref m_moved, .ref m_from, .ref m_to, .ref m_guard, .ref m_worths, .ref m_ringClub, .ref m_ringGives, .int 0, .ref m_triedClub, .ref m_triedGives, .int 0, .int 0, .ref m_toldClub, .ref m_toldGives, .ref m_isOut, .ref m_purse, .int 0]))] H) (hD : va_D A [(cp, .inr (11, [.ref tp, .ref lb, .ref rd, .ref bk, .ref tn, .ref td, .ref rg, .ref dr])), (rd, .inr (4, [.ref tp, .ref lr, .int 0, .int (-1), .int 0, .int 0, .int 0, .int 0, .int 0])), (mo, .inr (12, [.ref m_tape, .int 0, .int 0, .int 0, .int 0, .int 0, .int 0, .int 0, .int 0, .int (-1), .ref m_laws, .ref m_hasLaws, .int 0, .int 0, .ref m_clubOf, .ref m_first, .ref m_last, .ref m_pay, .ref m_rise, .ref m_sure, .ref m_hasChoice, .ref m_isTaken, .ref m_isHurt, .ref m_dead, .ref m_usedSpare, .ref m_owner, .ref m_giver, .ref m_guarded, .ref m_drawnOf, .ref m_drawnTo, .int 0, .int 0, .ref m_table, .int 0, .ref m_moved, .ref m_from, .ref m_to, .ref m_guard, .ref m_worths, .ref m_ringClub, .ref m_ringGives, .int 0, .ref m_triedClub, .ref m_triedGives, .int 0, .int 0, .ref m_toldClub, .ref m_toldGives, .ref m_isOut, .ref m_purse, .int 0]))]) (hS : va_S A s.heap H locs) (ls : Array Slot) (hl : lv_has ls 4 [(3, .int 0), (2, .ref mo), (1, .ref cp), (0, .ref b)]) : W p l e room_1 s m #[Value.ref b] below meth c H locs 178 9908 (lw_Z below #[Value.ref b] s) (F0 m 281 ls []) := by
  obtain ⟨hx, hb, hr, hml, hown, hts0, hX, hbl, hlocks, hgv⟩ := id C0
  have hE := xs_E hts0
  have hts : ∀ w ∈ wsL_law, w.before #[Value.ref b] s = true := fun w h => hts0 w (wsL_law_in w h)
  have hA : ∀ q : Nat, s.heap.size ≤ q → A q := fun q h => by rw [← hAe]; exact h
  have hbA : ¬ A b := by rw [← hAe]; exact Nat.not_le.mpr hbl
  have lo0 := xi_lo (xs 0)
  have hi0 := xi_hi (xs 0)
  have lo1 := xi_lo (xs 1)
  have hi1 := xi_hi (xs 1)
  have lo2 := xi_lo (xs 2)
  have hi2 := xi_hi (xs 2)
  have lo3 := xi_lo (xs 3)
  have hi3 := xi_hi (xs 3)
  have lo4 := xi_lo (xs 4)
  have hi4 := xi_hi (xs 4)
  have lo5 := xi_lo (xs 5)
  have hi5 := xi_hi (xs 5)
  have lo6 := xi_lo (xs 6)
  have hi6 := xi_hi (xs 6)
  have lo7 := xi_lo (xs 7)
  have hi7 := xi_hi (xs 7)
  refine lv_aload_n hx hb dL_law_281 rfl (lv_at hl 2 rfl) ?_
  refine lv_aload_n hx hb dL_law_282 rfl (lv_at hl 3 rfl) ?_
  refine lv_iload_n hx hb dL_law_283 rfl (lv_at hl 0 rfl) ?_
  refine lv_iconst (v := 1) hx hb dL_law_284 (by decide) ?_
  refine lv_iadd hx hb dL_law_285 ?_
  refine xw_i (v := 1) (by decide) ?_
  refine va_sld hx hb hX hbl hbA hS (by unfold vp_in; decide) dL_law_286 ?_
  refine xw_i (v := xs 1) rfl ?_
  have hPc := hP.sub (ws' := [(cp, .inr (11, [.ref tp, .ref lb, .ref rd, .ref bk, .ref tn, .ref td, .ref rg, .ref dr])), (rd, .inr (4, [.ref tp, .ref lr, .int 0, .int (-1), .int 0, .int 0, .int 0, .int 0, .int 0]))]) [0, 1] rfl
  have hKc := hK.sub (tys' := []) [] rfl
  refine vp_callSi (W.runV (As := [.int (xs 1)]) (rest := []) ⟨hx, hb, hml, hown, hts⟩ (aX_fault l dC dI ([(cp, .inr (11, [.ref tp, .ref lb, .ref rd, .ref bk, .ref tn, .ref td, .ref rg, .ref dr])), (rd, .inr (4, [.ref tp, .ref lr, .int 0, .int (-1), .int 0, .int 0, .int 0, .int 0, .int 0]))]) ([]) 0 rfl 1 rfl (xs 1) ((xs 1).toInt) rfl) (cwV 1 hts gL_law_X11_fault rfl rfl rfl (by decide +kernel) ⟨Nat.le_of_ble_eq_true rfl, Nat.le_of_ble_eq_true rfl⟩) ⟨xR_blind _ _ _ _, va_recv hKc hPc (ci := 11) (q0 := 0) rfl rfl, xR_pre _ hE hKc hPc⟩ rfl rfl hl.1 rfl (lv_room (Nat.le_of_ble_eq_true rfl)) dL_law_287 ⟨Nat.le_of_ble_eq_true rfl, Nat.le_of_ble_eq_true rfl⟩) (fun rh1 h1 => ?_)
  rcases h1 with ⟨rfl, h1⟩ | ⟨rfl, h1⟩
  · skip
    refine lv_aload_n hx hb dL_law_290 rfl (lv_at hl 1 rfl) ?_
    refine lv_aload_n hx hb dL_law_291 rfl (lv_at hl 3 rfl) ?_
    refine lv_iload_n hx hb dL_law_292 rfl (lv_at hl 0 rfl) ?_
    refine lv_iconst (v := 1) hx hb dL_law_293 (by decide) ?_
    refine lv_iadd hx hb dL_law_294 ?_
    refine xw_i (v := 1) (by decide) ?_
    refine va_sld hx hb hX hbl hbA hS (by unfold vp_in; decide) dL_law_295 ?_
    refine xw_i (v := xs 1) rfl ?_
    have hPc := hP.sub (ws' := [(mo, .inr (12, [.ref m_tape, .int 0, .int 0, .int 0, .int 0, .int 0, .int 0, .int 0, .int 0, .int (-1), .ref m_laws, .ref m_hasLaws, .int 0, .int 0, .ref m_clubOf, .ref m_first, .ref m_last, .ref m_pay, .ref m_rise, .ref m_sure, .ref m_hasChoice, .ref m_isTaken, .ref m_isHurt, .ref m_dead, .ref m_usedSpare, .ref m_owner, .ref m_giver, .ref m_guarded, .ref m_drawnOf, .ref m_drawnTo, .int 0, .int 0, .ref m_table, .int 0, .ref m_moved, .ref m_from, .ref m_to, .ref m_guard, .ref m_worths, .ref m_ringClub, .ref m_ringGives, .int 0, .ref m_triedClub, .ref m_triedGives, .int 0, .int 0, .ref m_toldClub, .ref m_toldGives, .ref m_isOut, .ref m_purse, .int 0]))]) [2] rfl
    have hKc := hK.sub (tys' := []) [] rfl
    refine vp_callSi (W.runV (As := [.int (xs 1)]) (rest := [.int 0]) ⟨hx, hb, hml, hown, hts⟩ (mX_fault l dC dI ([(mo, .inr (12, [.ref m_tape, .int 0, .int 0, .int 0, .int 0, .int 0, .int 0, .int 0, .int 0, .int (-1), .ref m_laws, .ref m_hasLaws, .int 0, .int 0, .ref m_clubOf, .ref m_first, .ref m_last, .ref m_pay, .ref m_rise, .ref m_sure, .ref m_hasChoice, .ref m_isTaken, .ref m_isHurt, .ref m_dead, .ref m_usedSpare, .ref m_owner, .ref m_giver, .ref m_guarded, .ref m_drawnOf, .ref m_drawnTo, .int 0, .int 0, .ref m_table, .int 0, .ref m_moved, .ref m_from, .ref m_to, .ref m_guard, .ref m_worths, .ref m_ringClub, .ref m_ringGives, .int 0, .ref m_triedClub, .ref m_triedGives, .int 0, .int 0, .ref m_toldClub, .ref m_toldGives, .ref m_isOut, .ref m_purse, .int 0]))]) ([]) 0 rfl (xs 1) ((xs 1).toInt) rfl) (cwV 1 hts gL_law_X12_fault rfl rfl rfl (by decide +kernel) ⟨Nat.le_of_ble_eq_true rfl, Nat.le_of_ble_eq_true rfl⟩) ⟨xR_blind _ _ _ _, va_recv hKc hPc (ci := 12) (q0 := 0) rfl rfl, xR_pre _ hE hKc hPc⟩ rfl rfl hl.1 rfl (lv_room (Nat.le_of_ble_eq_true rfl)) dL_law_296 ⟨Nat.le_of_ble_eq_true rfl, Nat.le_of_ble_eq_true rfl⟩) (fun rh2 h2 => ?_)
    rcases h2 with ⟨rfl, h2⟩ | ⟨rfl, h2⟩
    · skip
      refine lv_icmp_eq (tgt := 1242) hx hb dL_law_299 (by decide) (fun _ => ?_) (fun h => absurd (by first | rfl | (exfalso; omega)) h)
      refine lv_iinc (v := 8) (lv' := [(3, .int 8), (2, .ref mo), (1, .ref cp), (0, .ref b)]) hx hb dL_law_1242 hl (k := 0) rfl (by decide) (by decide) rfl (fun ls hl => ?_)
      refine lv_goto (tgt := 18) hx hb dL_law_1245 (by decide) ?_
      refine lv_iload_n hx hb dL_law_18 rfl (lv_at hl 0 rfl) ?_
      refine lv_aload_n hx hb dL_law_19 rfl (lv_at hl 3 rfl) ?_
      refine va_slen hx hb hX hbl hbA hS dL_law_20 ?_
      refine xw_i (v := 8) rfl ?_
      refine lv_bipush (v := 8) hx hb dL_law_21 (by decide) ?_
      refine lv_isub hx hb dL_law_23 ?_
      refine xw_i (v := 0) (by decide) ?_
      refine lv_icmp_gt (tgt := 1248) hx hb dL_law_24 (by decide) (fun _ => ?_) (fun h => absurd (by decide) h)
      refine lv_iconst (v := 1) hx hb dL_law_1248 (by decide) ?_
      refine va_forget (fun q hq => by have h9 := hS.2.2 q hq; rw [← hAe] at h9; exact h9) ?_
      refine W.widen (k := 600000) (n := 7302250) (by decide) (by decide) ?_
      exact lw_ret hx hb hr hlocks dL_law_1249
    · skip
      exact absurd h2 (by omega)
  · skip
    refine lv_aload_n hx hb dL_law_290 rfl (lv_at hl 1 rfl) ?_
    refine lv_aload_n hx hb dL_law_291 rfl (lv_at hl 3 rfl) ?_
    refine lv_iload_n hx hb dL_law_292 rfl (lv_at hl 0 rfl) ?_
    refine lv_iconst (v := 1) hx hb dL_law_293 (by decide) ?_
    refine lv_iadd hx hb dL_law_294 ?_
    refine xw_i (v := 1) (by decide) ?_
    refine va_sld hx hb hX hbl hbA hS (by unfold vp_in; decide) dL_law_295 ?_
    refine xw_i (v := xs 1) rfl ?_
    have hPc := hP.sub (ws' := [(mo, .inr (12, [.ref m_tape, .int 0, .int 0, .int 0, .int 0, .int 0, .int 0, .int 0, .int 0, .int (-1), .ref m_laws, .ref m_hasLaws, .int 0, .int 0, .ref m_clubOf, .ref m_first, .ref m_last, .ref m_pay, .ref m_rise, .ref m_sure, .ref m_hasChoice, .ref m_isTaken, .ref m_isHurt, .ref m_dead, .ref m_usedSpare, .ref m_owner, .ref m_giver, .ref m_guarded, .ref m_drawnOf, .ref m_drawnTo, .int 0, .int 0, .ref m_table, .int 0, .ref m_moved, .ref m_from, .ref m_to, .ref m_guard, .ref m_worths, .ref m_ringClub, .ref m_ringGives, .int 0, .ref m_triedClub, .ref m_triedGives, .int 0, .int 0, .ref m_toldClub, .ref m_toldGives, .ref m_isOut, .ref m_purse, .int 0]))]) [2] rfl
    have hKc := hK.sub (tys' := []) [] rfl
    refine vp_callSi (W.runV (As := [.int (xs 1)]) (rest := [.int (-1)]) ⟨hx, hb, hml, hown, hts⟩ (mX_fault l dC dI ([(mo, .inr (12, [.ref m_tape, .int 0, .int 0, .int 0, .int 0, .int 0, .int 0, .int 0, .int 0, .int (-1), .ref m_laws, .ref m_hasLaws, .int 0, .int 0, .ref m_clubOf, .ref m_first, .ref m_last, .ref m_pay, .ref m_rise, .ref m_sure, .ref m_hasChoice, .ref m_isTaken, .ref m_isHurt, .ref m_dead, .ref m_usedSpare, .ref m_owner, .ref m_giver, .ref m_guarded, .ref m_drawnOf, .ref m_drawnTo, .int 0, .int 0, .ref m_table, .int 0, .ref m_moved, .ref m_from, .ref m_to, .ref m_guard, .ref m_worths, .ref m_ringClub, .ref m_ringGives, .int 0, .ref m_triedClub, .ref m_triedGives, .int 0, .int 0, .ref m_toldClub, .ref m_toldGives, .ref m_isOut, .ref m_purse, .int 0]))]) ([]) 0 rfl (xs 1) ((xs 1).toInt) rfl) (cwV 1 hts gL_law_X12_fault rfl rfl rfl (by decide +kernel) ⟨Nat.le_of_ble_eq_true rfl, Nat.le_of_ble_eq_true rfl⟩) ⟨xR_blind _ _ _ _, va_recv hKc hPc (ci := 12) (q0 := 0) rfl rfl, xR_pre _ hE hKc hPc⟩ rfl rfl hl.1 rfl (lv_room (Nat.le_of_ble_eq_true rfl)) dL_law_296 ⟨Nat.le_of_ble_eq_true rfl, Nat.le_of_ble_eq_true rfl⟩) (fun rh4 h4 => ?_)
    rcases h4 with ⟨rfl, h4⟩ | ⟨rfl, h4⟩
    · skip
      refine lv_icmp_eq (tgt := 1242) hx hb dL_law_299 (by decide) (fun _ => ?_) (fun h => absurd (by first | rfl | (exfalso; omega)) h)
      refine lv_iinc (v := 8) (lv' := [(3, .int 8), (2, .ref mo), (1, .ref cp), (0, .ref b)]) hx hb dL_law_1242 hl (k := 0) rfl (by decide) (by decide) rfl (fun ls hl => ?_)
      refine lv_goto (tgt := 18) hx hb dL_law_1245 (by decide) ?_
      refine lv_iload_n hx hb dL_law_18 rfl (lv_at hl 0 rfl) ?_
      refine lv_aload_n hx hb dL_law_19 rfl (lv_at hl 3 rfl) ?_
      refine va_slen hx hb hX hbl hbA hS dL_law_20 ?_
      refine xw_i (v := 8) rfl ?_
      refine lv_bipush (v := 8) hx hb dL_law_21 (by decide) ?_
      refine lv_isub hx hb dL_law_23 ?_
      refine xw_i (v := 0) (by decide) ?_
      refine lv_icmp_gt (tgt := 1248) hx hb dL_law_24 (by decide) (fun _ => ?_) (fun h => absurd (by decide) h)
      refine lv_iconst (v := 1) hx hb dL_law_1248 (by decide) ?_
      refine va_forget (fun q hq => by have h9 := hS.2.2 q hq; rw [← hAe] at h9; exact h9) ?_
      refine W.widen (k := 600000) (n := 7302250) (by decide) (by decide) ?_
      exact lw_ret hx hb hr hlocks dL_law_1249
    · skip
      refine lv_icmp_eq (tgt := 1242) hx hb dL_law_299 (by decide) (fun _ => ?_) (fun h => absurd (by first | rfl | (exfalso; omega)) h)
      refine lv_iinc (v := 8) (lv' := [(3, .int 8), (2, .ref mo), (1, .ref cp), (0, .ref b)]) hx hb dL_law_1242 hl (k := 0) rfl (by decide) (by decide) rfl (fun ls hl => ?_)
      refine lv_goto (tgt := 18) hx hb dL_law_1245 (by decide) ?_
      refine lv_iload_n hx hb dL_law_18 rfl (lv_at hl 0 rfl) ?_
      refine lv_aload_n hx hb dL_law_19 rfl (lv_at hl 3 rfl) ?_
      refine va_slen hx hb hX hbl hbA hS dL_law_20 ?_
      refine xw_i (v := 8) rfl ?_
      refine lv_bipush (v := 8) hx hb dL_law_21 (by decide) ?_
      refine lv_isub hx hb dL_law_23 ?_
      refine xw_i (v := 0) (by decide) ?_
      refine lv_icmp_gt (tgt := 1248) hx hb dL_law_24 (by decide) (fun _ => ?_) (fun h => absurd (by decide) h)
      refine lv_iconst (v := 1) hx hb dL_law_1248 (by decide) ?_
      refine va_forget (fun q hq => by have h9 := hS.2.2 q hq; rw [← hAe] at h9; exact h9) ?_
      refine W.widen (k := 600000) (n := 7302250) (by decide) (by decide) ?_
      exact lw_ret hx hb hr hlocks dL_law_1249
set_option maxHeartbeats 8000000 in
set_option maxRecDepth 100000 in
theorem law_4 {p : Program} {l : Launch} {e : Env} {s : State} {m : MethodId} {below : List Frame} {meth : Method} {c : Code} {dC : Nat → ClassId} {dI : Nat → Nat → Nat} {b : Nat} {xs : Nat → Int32} (C0 : lw_At p s m meth c b 8 xs) {A : Nat → Prop} (hAe : (fun q : Nat => s.heap.size ≤ q) = A) {tU : Nat} (hU : xU tU A s s.heap) (cp tp lb rd bk tn td rg dr un tx un1 un2 mo m_tape m_laws m_hasLaws m_clubOf m_first m_last m_pay m_rise m_sure m_hasChoice m_isTaken m_isHurt m_dead m_usedSpare m_owner m_giver m_guarded m_drawnOf m_drawnTo m_table m_moved m_from m_to m_guard m_worths m_ringClub m_ringGives m_triedClub m_triedGives m_toldClub m_toldGives m_isOut m_purse : Nat) (k_u1 k_u2 k_tx k_laws k_hasLaws : ClassId) (fu1 fu2 fL : Nat → Int32) (ux0 : fu1 0 = 1000) (ux1 : fu1 1 = 15) (ux2 : fu1 2 = 4) (ux3 : fu1 3 = 0) (ux4 : fu1 4 = 100) (ux5 : fu1 5 = 0) (ux6 : fu1 6 = 0) (ux7 : fu1 7 = 0) (ux8 : fu2 0 = 1) (um0 : ∀ j : Nat, j < 16 → fL (176 + j) = xpl j) (hK : va_K (dC, dI) vwCl [(k_u1, .int), (k_u2, .int), (k_tx, (.object RX5)), (k_laws, .int), (k_hasLaws, .boolean)] s) (H : Heap) (locs : List Loc) (hP : va_P (dC, dI) vwCl [(cp, .inr (11, [.ref tp, .ref lb, .ref rd, .ref bk, .ref tn, .ref td, .ref rg, .ref dr])), (lb, .inr (3, [.ref un, .ref tx])), (un, .inr (5, [.ref un1, .ref un2, .int 1])), (un1, .inl (k_u1, 8, .inl fu1)), (un2, .inl (k_u2, 6, .inl fu2)), (tx, .inl (k_tx, 10, .inr (.inr (.inr (.inr (fun _ => none)))))), (mo, .inr (12, [.ref m_tape, .int 0, .int 0, .int 0, .int 0, .int 0, .int 0, .int 0, .int 0, .int (-1), .ref m_laws, .ref m_hasLaws, .int 0, .int 0, .ref m_clubOf, .ref m_first, .ref m_last, .ref m_pay, .ref m_rise, .ref m_sure, .ref m_hasChoice, .ref m_isTaken, .ref m_isHurt, .ref m_dead, .ref m_usedSpare, .ref m_owner, .ref m_giver, .ref m_guarded, .ref m_drawnOf, .ref m_drawnTo, .int 0, .int 0, .ref m_table, .int 0, .ref m_moved, .ref m_from, .ref m_to, .ref m_guard, .ref m_worths, .ref m_ringClub, .ref m_ringGives, .int 0, .ref m_triedClub, .ref m_triedGives, .int 0, .int 0, .ref m_toldClub, .ref m_toldGives, .ref m_isOut, .ref m_purse, .int 0])), (m_laws, .inl (k_laws, 192, .inl fL)), (m_hasLaws, .inl (k_hasLaws, 10, .inl (fun _ => 0)))] H) (hD : va_D A [(cp, .inr (11, [.ref tp, .ref lb, .ref rd, .ref bk, .ref tn, .ref td, .ref rg, .ref dr])), (lb, .inr (3, [.ref un, .ref tx])), (un, .inr (5, [.ref un1, .ref un2, .int 1])), (un1, .inl (k_u1, 8, .inl fu1)), (un2, .inl (k_u2, 6, .inl fu2)), (tx, .inl (k_tx, 10, .inr (.inr (.inr (.inr (fun _ => none)))))), (mo, .inr (12, [.ref m_tape, .int 0, .int 0, .int 0, .int 0, .int 0, .int 0, .int 0, .int 0, .int (-1), .ref m_laws, .ref m_hasLaws, .int 0, .int 0, .ref m_clubOf, .ref m_first, .ref m_last, .ref m_pay, .ref m_rise, .ref m_sure, .ref m_hasChoice, .ref m_isTaken, .ref m_isHurt, .ref m_dead, .ref m_usedSpare, .ref m_owner, .ref m_giver, .ref m_guarded, .ref m_drawnOf, .ref m_drawnTo, .int 0, .int 0, .ref m_table, .int 0, .ref m_moved, .ref m_from, .ref m_to, .ref m_guard, .ref m_worths, .ref m_ringClub, .ref m_ringGives, .int 0, .ref m_triedClub, .ref m_triedGives, .int 0, .int 0, .ref m_toldClub, .ref m_toldGives, .ref m_isOut, .ref m_purse, .int 0])), (m_laws, .inl (k_laws, 192, .inl fL)), (m_hasLaws, .inl (k_hasLaws, 10, .inl (fun _ => 0)))]) (hS : va_S A s.heap H locs) (ls : Array Slot) (hl : lv_has ls 4 [(3, .int 0), (2, .ref mo), (1, .ref cp), (0, .ref b)]) : W p l e room_1 s m #[Value.ref b] below meth c H locs 178 9908 (lw_Z below #[Value.ref b] s) (F0 m 304 ls []) := by
  obtain ⟨hx, hb, hr, hml, hown, hts0, hX, hbl, hlocks, hgv⟩ := id C0
  have hE := xs_E hts0
  have hts : ∀ w ∈ wsL_law, w.before #[Value.ref b] s = true := fun w h => hts0 w (wsL_law_in w h)
  have hA : ∀ q : Nat, s.heap.size ≤ q → A q := fun q h => by rw [← hAe]; exact h
  have hbA : ¬ A b := by rw [← hAe]; exact Nat.not_le.mpr hbl
  have lo0 := xi_lo (xs 0)
  have hi0 := xi_hi (xs 0)
  have lo1 := xi_lo (xs 1)
  have hi1 := xi_hi (xs 1)
  have lo2 := xi_lo (xs 2)
  have hi2 := xi_hi (xs 2)
  have lo3 := xi_lo (xs 3)
  have hi3 := xi_hi (xs 3)
  have lo4 := xi_lo (xs 4)
  have hi4 := xi_hi (xs 4)
  have lo5 := xi_lo (xs 5)
  have hi5 := xi_hi (xs 5)
  have lo6 := xi_lo (xs 6)
  have hi6 := xi_hi (xs 6)
  have lo7 := xi_lo (xs 7)
  have hi7 := xi_hi (xs 7)
  refine lv_aload_n hx hb dL_law_304 rfl (lv_at hl 2 rfl) ?_
  refine lv_aload_n hx hb dL_law_305 rfl (lv_at hl 3 rfl) ?_
  refine lv_iload_n hx hb dL_law_306 rfl (lv_at hl 0 rfl) ?_
  refine lv_iconst (v := 1) hx hb dL_law_307 (by decide) ?_
  refine lv_iadd hx hb dL_law_308 ?_
  refine xw_i (v := 1) (by decide) ?_
  refine va_sld hx hb hX hbl hbA hS (by unfold vp_in; decide) dL_law_309 ?_
  refine xw_i (v := xs 1) rfl ?_
  refine lv_aload_n hx hb dL_law_310 rfl (lv_at hl 3 rfl) ?_
  refine lv_iload_n hx hb dL_law_311 rfl (lv_at hl 0 rfl) ?_
  refine lv_iconst (v := 2) hx hb dL_law_312 (by decide) ?_
  refine lv_iadd hx hb dL_law_313 ?_
  refine xw_i (v := 2) (by decide) ?_
  refine va_sld hx hb hX hbl hbA hS (by unfold vp_in; decide) dL_law_314 ?_
  refine xw_i (v := xs 2) rfl ?_
  have hPc := hP.sub (ws' := [(cp, .inr (11, [.ref tp, .ref lb, .ref rd, .ref bk, .ref tn, .ref td, .ref rg, .ref dr])), (lb, .inr (3, [.ref un, .ref tx])), (tx, .inl (k_tx, 10, .inr (.inr (.inr (.inr (fun _ => none)))))), (un, .inr (5, [.ref un1, .ref un2, .int 1])), (un1, .inl (k_u1, 8, .inl fu1)), (un2, .inl (k_u2, 6, .inl fu2))]) [0, 1, 5, 2, 3, 4] rfl
  have hKc := hK.sub (tys' := [(k_tx, (.object RX5)), (k_u1, .int), (k_u2, .int)]) [2, 0, 1] rfl
  refine vp_callSi (W.runV (As := [.int (xs 1), .int (xs 2)]) (rest := []) ⟨hx, hb, hml, hown, hts⟩ (aX_law l dC dI ([(cp, .inr (11, [.ref tp, .ref lb, .ref rd, .ref bk, .ref tn, .ref td, .ref rg, .ref dr])), (lb, .inr (3, [.ref un, .ref tx])), (tx, .inl (k_tx, 10, .inr (.inr (.inr (.inr (fun _ => none)))))), (un, .inr (5, [.ref un1, .ref un2, .int 1])), (un1, .inl (k_u1, 8, .inl fu1)), (un2, .inl (k_u2, 6, .inl fu2))]) ([(k_tx, (.object RX5)), (k_u1, .int), (k_u2, .int)]) ux0 ux1 ux2 ux3 ux4 ux5 ux6 ux7 ux8 0 rfl 1 rfl 2 rfl 0 rfl 3 rfl 4 rfl 1 rfl 5 rfl 2 rfl (xs 1) ((xs 1).toInt) rfl (xs 2) ((xs 2).toInt) rfl) (cwV 2 hts gL_law_X11_law rfl rfl rfl (by decide +kernel) ⟨Nat.le_of_ble_eq_true rfl, Nat.le_of_ble_eq_true rfl⟩) ⟨xR_blind _ _ _ _, va_recv hKc hPc (ci := 11) (q0 := 0) rfl rfl, xR_pre _ hE hKc hPc⟩ rfl rfl hl.1 rfl (lv_room (Nat.le_of_ble_eq_true rfl)) dL_law_315 ⟨Nat.le_of_ble_eq_true rfl, Nat.le_of_ble_eq_true rfl⟩) (fun rh1 h1 => ?_)
  rcases h1 with ⟨rfl, h1⟩ | ⟨rfl, h1⟩ | ⟨rfl, h1⟩ | ⟨rfl, h1⟩ | ⟨rfl, h1⟩ | ⟨rfl, h1⟩ | ⟨rfl, h1⟩
  · skip
    refine lv_aload_n hx hb dL_law_318 rfl (lv_at hl 1 rfl) ?_
    refine lv_aload_n hx hb dL_law_319 rfl (lv_at hl 3 rfl) ?_
    refine lv_iload_n hx hb dL_law_320 rfl (lv_at hl 0 rfl) ?_
    refine lv_iconst (v := 1) hx hb dL_law_321 (by decide) ?_
    refine lv_iadd hx hb dL_law_322 ?_
    refine xw_i (v := 1) (by decide) ?_
    refine va_sld hx hb hX hbl hbA hS (by unfold vp_in; decide) dL_law_323 ?_
    refine xw_i (v := xs 1) rfl ?_
    refine lv_aload_n hx hb dL_law_324 rfl (lv_at hl 3 rfl) ?_
    refine lv_iload_n hx hb dL_law_325 rfl (lv_at hl 0 rfl) ?_
    refine lv_iconst (v := 2) hx hb dL_law_326 (by decide) ?_
    refine lv_iadd hx hb dL_law_327 ?_
    refine xw_i (v := 2) (by decide) ?_
    refine va_sld hx hb hX hbl hbA hS (by unfold vp_in; decide) dL_law_328 ?_
    refine xw_i (v := xs 2) rfl ?_
    have hPc := hP.sub (ws' := [(mo, .inr (12, [.ref m_tape, .int 0, .int 0, .int 0, .int 0, .int 0, .int 0, .int 0, .int 0, .int (-1), .ref m_laws, .ref m_hasLaws, .int 0, .int 0, .ref m_clubOf, .ref m_first, .ref m_last, .ref m_pay, .ref m_rise, .ref m_sure, .ref m_hasChoice, .ref m_isTaken, .ref m_isHurt, .ref m_dead, .ref m_usedSpare, .ref m_owner, .ref m_giver, .ref m_guarded, .ref m_drawnOf, .ref m_drawnTo, .int 0, .int 0, .ref m_table, .int 0, .ref m_moved, .ref m_from, .ref m_to, .ref m_guard, .ref m_worths, .ref m_ringClub, .ref m_ringGives, .int 0, .ref m_triedClub, .ref m_triedGives, .int 0, .int 0, .ref m_toldClub, .ref m_toldGives, .ref m_isOut, .ref m_purse, .int 0])), (m_laws, .inl (k_laws, 192, .inl fL)), (m_hasLaws, .inl (k_hasLaws, 10, .inl (fun _ => 0)))]) [6, 7, 8] rfl
    have hKc := hK.sub (tys' := [(k_laws, .int), (k_hasLaws, .boolean)]) [3, 4] rfl
    refine vp_callSi (W.runV (As := [.int (xs 1), .int (xs 2)]) (rest := [.int 1000]) ⟨hx, hb, hml, hown, hts⟩ (mX_law l dC dI ([(mo, .inr (12, [.ref m_tape, .int 0, .int 0, .int 0, .int 0, .int 0, .int 0, .int 0, .int 0, .int (-1), .ref m_laws, .ref m_hasLaws, .int 0, .int 0, .ref m_clubOf, .ref m_first, .ref m_last, .ref m_pay, .ref m_rise, .ref m_sure, .ref m_hasChoice, .ref m_isTaken, .ref m_isHurt, .ref m_dead, .ref m_usedSpare, .ref m_owner, .ref m_giver, .ref m_guarded, .ref m_drawnOf, .ref m_drawnTo, .int 0, .int 0, .ref m_table, .int 0, .ref m_moved, .ref m_from, .ref m_to, .ref m_guard, .ref m_worths, .ref m_ringClub, .ref m_ringGives, .int 0, .ref m_triedClub, .ref m_triedGives, .int 0, .int 0, .ref m_toldClub, .ref m_toldGives, .ref m_isOut, .ref m_purse, .int 0])), (m_laws, .inl (k_laws, 192, .inl fL)), (m_hasLaws, .inl (k_hasLaws, 10, .inl (fun _ => 0)))]) ([(k_laws, .int), (k_hasLaws, .boolean)]) um0 0 rfl 1 rfl 0 rfl 2 rfl 1 rfl (xs 1) ((xs 1).toInt) rfl (xs 2) ((xs 2).toInt) rfl) (cwV 2 hts gL_law_X12_law rfl rfl rfl (by decide +kernel) ⟨Nat.le_of_ble_eq_true rfl, Nat.le_of_ble_eq_true rfl⟩) ⟨xR_blind _ _ _ _, va_recv hKc hPc (ci := 12) (q0 := 0) rfl rfl, xR_pre _ hE hKc hPc⟩ rfl rfl hl.1 rfl (lv_room (Nat.le_of_ble_eq_true rfl)) dL_law_329 ⟨Nat.le_of_ble_eq_true rfl, Nat.le_of_ble_eq_true rfl⟩) (fun rh2 h2 => ?_)
    rcases h2 with ⟨rfl, h2⟩ | ⟨rfl, h2⟩ | ⟨rfl, h2⟩ | ⟨rfl, h2⟩ | ⟨rfl, h2⟩ | ⟨rfl, h2⟩ | ⟨rfl, h2⟩
    · skip
      refine lv_icmp_eq (tgt := 1242) hx hb dL_law_332 (by decide) (fun _ => ?_) (fun h => absurd (by first | rfl | (exfalso; omega)) h)
      refine lv_iinc (v := 8) (lv' := [(3, .int 8), (2, .ref mo), (1, .ref cp), (0, .ref b)]) hx hb dL_law_1242 hl (k := 0) rfl (by decide) (by decide) rfl (fun ls hl => ?_)
      refine lv_goto (tgt := 18) hx hb dL_law_1245 (by decide) ?_
      refine lv_iload_n hx hb dL_law_18 rfl (lv_at hl 0 rfl) ?_
      refine lv_aload_n hx hb dL_law_19 rfl (lv_at hl 3 rfl) ?_
      refine va_slen hx hb hX hbl hbA hS dL_law_20 ?_
      refine xw_i (v := 8) rfl ?_
      refine lv_bipush (v := 8) hx hb dL_law_21 (by decide) ?_
      refine lv_isub hx hb dL_law_23 ?_
      refine xw_i (v := 0) (by decide) ?_
      refine lv_icmp_gt (tgt := 1248) hx hb dL_law_24 (by decide) (fun _ => ?_) (fun h => absurd (by decide) h)
      refine lv_iconst (v := 1) hx hb dL_law_1248 (by decide) ?_
      refine va_forget (fun q hq => by have h9 := hS.2.2 q hq; rw [← hAe] at h9; exact h9) ?_
      refine W.widen (k := 600000) (n := 7302250) (by decide) (by decide) ?_
      exact lw_ret hx hb hr hlocks dL_law_1249
    · skip
      exact absurd h2 (by omega)
    · skip
      exact absurd h2 (by omega)
    · skip
      exact absurd h2 (by omega)
    · skip
      refine lv_icmp_eq (tgt := 1242) hx hb dL_law_332 (by decide) (fun _ => ?_) (fun h => absurd (by first | rfl | (exfalso; omega)) h)
      refine lv_iinc (v := 8) (lv' := [(3, .int 8), (2, .ref mo), (1, .ref cp), (0, .ref b)]) hx hb dL_law_1242 hl (k := 0) rfl (by decide) (by decide) rfl (fun ls hl => ?_)
      refine lv_goto (tgt := 18) hx hb dL_law_1245 (by decide) ?_
      refine lv_iload_n hx hb dL_law_18 rfl (lv_at hl 0 rfl) ?_
      refine lv_aload_n hx hb dL_law_19 rfl (lv_at hl 3 rfl) ?_
      refine va_slen hx hb hX hbl hbA hS dL_law_20 ?_
      refine xw_i (v := 8) rfl ?_
      refine lv_bipush (v := 8) hx hb dL_law_21 (by decide) ?_
      refine lv_isub hx hb dL_law_23 ?_
      refine xw_i (v := 0) (by decide) ?_
      refine lv_icmp_gt (tgt := 1248) hx hb dL_law_24 (by decide) (fun _ => ?_) (fun h => absurd (by decide) h)
      refine lv_iconst (v := 1) hx hb dL_law_1248 (by decide) ?_
      refine va_forget (fun q hq => by have h9 := hS.2.2 q hq; rw [← hAe] at h9; exact h9) ?_
      refine W.widen (k := 600000) (n := 7302250) (by decide) (by decide) ?_
      exact lw_ret hx hb hr hlocks dL_law_1249
    · skip
      refine lv_icmp_eq (tgt := 1242) hx hb dL_law_332 (by decide) (fun _ => ?_) (fun h => absurd (by first | rfl | (exfalso; omega)) h)
      refine lv_iinc (v := 8) (lv' := [(3, .int 8), (2, .ref mo), (1, .ref cp), (0, .ref b)]) hx hb dL_law_1242 hl (k := 0) rfl (by decide) (by decide) rfl (fun ls hl => ?_)
      refine lv_goto (tgt := 18) hx hb dL_law_1245 (by decide) ?_
      refine lv_iload_n hx hb dL_law_18 rfl (lv_at hl 0 rfl) ?_
      refine lv_aload_n hx hb dL_law_19 rfl (lv_at hl 3 rfl) ?_
      refine va_slen hx hb hX hbl hbA hS dL_law_20 ?_
      refine xw_i (v := 8) rfl ?_
      refine lv_bipush (v := 8) hx hb dL_law_21 (by decide) ?_
      refine lv_isub hx hb dL_law_23 ?_
      refine xw_i (v := 0) (by decide) ?_
      refine lv_icmp_gt (tgt := 1248) hx hb dL_law_24 (by decide) (fun _ => ?_) (fun h => absurd (by decide) h)
      refine lv_iconst (v := 1) hx hb dL_law_1248 (by decide) ?_
      refine va_forget (fun q hq => by have h9 := hS.2.2 q hq; rw [← hAe] at h9; exact h9) ?_
      refine W.widen (k := 600000) (n := 7302250) (by decide) (by decide) ?_
      exact lw_ret hx hb hr hlocks dL_law_1249
    · skip
      refine lv_icmp_eq (tgt := 1242) hx hb dL_law_332 (by decide) (fun _ => ?_) (fun h => absurd (by first | rfl | (exfalso; omega)) h)
      refine lv_iinc (v := 8) (lv' := [(3, .int 8), (2, .ref mo), (1, .ref cp), (0, .ref b)]) hx hb dL_law_1242 hl (k := 0) rfl (by decide) (by decide) rfl (fun ls hl => ?_)
      refine lv_goto (tgt := 18) hx hb dL_law_1245 (by decide) ?_
      refine lv_iload_n hx hb dL_law_18 rfl (lv_at hl 0 rfl) ?_
      refine lv_aload_n hx hb dL_law_19 rfl (lv_at hl 3 rfl) ?_
      refine va_slen hx hb hX hbl hbA hS dL_law_20 ?_
      refine xw_i (v := 8) rfl ?_
      refine lv_bipush (v := 8) hx hb dL_law_21 (by decide) ?_
      refine lv_isub hx hb dL_law_23 ?_
      refine xw_i (v := 0) (by decide) ?_
      refine lv_icmp_gt (tgt := 1248) hx hb dL_law_24 (by decide) (fun _ => ?_) (fun h => absurd (by decide) h)
      refine lv_iconst (v := 1) hx hb dL_law_1248 (by decide) ?_
      refine va_forget (fun q hq => by have h9 := hS.2.2 q hq; rw [← hAe] at h9; exact h9) ?_
      refine W.widen (k := 600000) (n := 7302250) (by decide) (by decide) ?_
      exact lw_ret hx hb hr hlocks dL_law_1249
  · skip
    refine lv_aload_n hx hb dL_law_318 rfl (lv_at hl 1 rfl) ?_
    refine lv_aload_n hx hb dL_law_319 rfl (lv_at hl 3 rfl) ?_
    refine lv_iload_n hx hb dL_law_320 rfl (lv_at hl 0 rfl) ?_
    refine lv_iconst (v := 1) hx hb dL_law_321 (by decide) ?_
    refine lv_iadd hx hb dL_law_322 ?_
    refine xw_i (v := 1) (by decide) ?_
    refine va_sld hx hb hX hbl hbA hS (by unfold vp_in; decide) dL_law_323 ?_
    refine xw_i (v := xs 1) rfl ?_
    refine lv_aload_n hx hb dL_law_324 rfl (lv_at hl 3 rfl) ?_
    refine lv_iload_n hx hb dL_law_325 rfl (lv_at hl 0 rfl) ?_
    refine lv_iconst (v := 2) hx hb dL_law_326 (by decide) ?_
    refine lv_iadd hx hb dL_law_327 ?_
    refine xw_i (v := 2) (by decide) ?_
    refine va_sld hx hb hX hbl hbA hS (by unfold vp_in; decide) dL_law_328 ?_
    refine xw_i (v := xs 2) rfl ?_
    have hPc := hP.sub (ws' := [(mo, .inr (12, [.ref m_tape, .int 0, .int 0, .int 0, .int 0, .int 0, .int 0, .int 0, .int 0, .int (-1), .ref m_laws, .ref m_hasLaws, .int 0, .int 0, .ref m_clubOf, .ref m_first, .ref m_last, .ref m_pay, .ref m_rise, .ref m_sure, .ref m_hasChoice, .ref m_isTaken, .ref m_isHurt, .ref m_dead, .ref m_usedSpare, .ref m_owner, .ref m_giver, .ref m_guarded, .ref m_drawnOf, .ref m_drawnTo, .int 0, .int 0, .ref m_table, .int 0, .ref m_moved, .ref m_from, .ref m_to, .ref m_guard, .ref m_worths, .ref m_ringClub, .ref m_ringGives, .int 0, .ref m_triedClub, .ref m_triedGives, .int 0, .int 0, .ref m_toldClub, .ref m_toldGives, .ref m_isOut, .ref m_purse, .int 0])), (m_laws, .inl (k_laws, 192, .inl fL)), (m_hasLaws, .inl (k_hasLaws, 10, .inl (fun _ => 0)))]) [6, 7, 8] rfl
    have hKc := hK.sub (tys' := [(k_laws, .int), (k_hasLaws, .boolean)]) [3, 4] rfl
    refine vp_callSi (W.runV (As := [.int (xs 1), .int (xs 2)]) (rest := [.int 15]) ⟨hx, hb, hml, hown, hts⟩ (mX_law l dC dI ([(mo, .inr (12, [.ref m_tape, .int 0, .int 0, .int 0, .int 0, .int 0, .int 0, .int 0, .int 0, .int (-1), .ref m_laws, .ref m_hasLaws, .int 0, .int 0, .ref m_clubOf, .ref m_first, .ref m_last, .ref m_pay, .ref m_rise, .ref m_sure, .ref m_hasChoice, .ref m_isTaken, .ref m_isHurt, .ref m_dead, .ref m_usedSpare, .ref m_owner, .ref m_giver, .ref m_guarded, .ref m_drawnOf, .ref m_drawnTo, .int 0, .int 0, .ref m_table, .int 0, .ref m_moved, .ref m_from, .ref m_to, .ref m_guard, .ref m_worths, .ref m_ringClub, .ref m_ringGives, .int 0, .ref m_triedClub, .ref m_triedGives, .int 0, .int 0, .ref m_toldClub, .ref m_toldGives, .ref m_isOut, .ref m_purse, .int 0])), (m_laws, .inl (k_laws, 192, .inl fL)), (m_hasLaws, .inl (k_hasLaws, 10, .inl (fun _ => 0)))]) ([(k_laws, .int), (k_hasLaws, .boolean)]) um0 0 rfl 1 rfl 0 rfl 2 rfl 1 rfl (xs 1) ((xs 1).toInt) rfl (xs 2) ((xs 2).toInt) rfl) (cwV 2 hts gL_law_X12_law rfl rfl rfl (by decide +kernel) ⟨Nat.le_of_ble_eq_true rfl, Nat.le_of_ble_eq_true rfl⟩) ⟨xR_blind _ _ _ _, va_recv hKc hPc (ci := 12) (q0 := 0) rfl rfl, xR_pre _ hE hKc hPc⟩ rfl rfl hl.1 rfl (lv_room (Nat.le_of_ble_eq_true rfl)) dL_law_329 ⟨Nat.le_of_ble_eq_true rfl, Nat.le_of_ble_eq_true rfl⟩) (fun rh7 h7 => ?_)
    rcases h7 with ⟨rfl, h7⟩ | ⟨rfl, h7⟩ | ⟨rfl, h7⟩ | ⟨rfl, h7⟩ | ⟨rfl, h7⟩ | ⟨rfl, h7⟩ | ⟨rfl, h7⟩
    · skip
      exact absurd h7 (by omega)
    · skip
      refine lv_icmp_eq (tgt := 1242) hx hb dL_law_332 (by decide) (fun _ => ?_) (fun h => absurd (by first | rfl | (exfalso; omega)) h)
      refine lv_iinc (v := 8) (lv' := [(3, .int 8), (2, .ref mo), (1, .ref cp), (0, .ref b)]) hx hb dL_law_1242 hl (k := 0) rfl (by decide) (by decide) rfl (fun ls hl => ?_)
      refine lv_goto (tgt := 18) hx hb dL_law_1245 (by decide) ?_
      refine lv_iload_n hx hb dL_law_18 rfl (lv_at hl 0 rfl) ?_
      refine lv_aload_n hx hb dL_law_19 rfl (lv_at hl 3 rfl) ?_
      refine va_slen hx hb hX hbl hbA hS dL_law_20 ?_
      refine xw_i (v := 8) rfl ?_
      refine lv_bipush (v := 8) hx hb dL_law_21 (by decide) ?_
      refine lv_isub hx hb dL_law_23 ?_
      refine xw_i (v := 0) (by decide) ?_
      refine lv_icmp_gt (tgt := 1248) hx hb dL_law_24 (by decide) (fun _ => ?_) (fun h => absurd (by decide) h)
      refine lv_iconst (v := 1) hx hb dL_law_1248 (by decide) ?_
      refine va_forget (fun q hq => by have h9 := hS.2.2 q hq; rw [← hAe] at h9; exact h9) ?_
      refine W.widen (k := 600000) (n := 7302250) (by decide) (by decide) ?_
      exact lw_ret hx hb hr hlocks dL_law_1249
    · skip
      exact absurd h7 (by omega)
    · skip
      exact absurd h7 (by omega)
    · skip
      refine lv_icmp_eq (tgt := 1242) hx hb dL_law_332 (by decide) (fun _ => ?_) (fun h => absurd (by first | rfl | (exfalso; omega)) h)
      refine lv_iinc (v := 8) (lv' := [(3, .int 8), (2, .ref mo), (1, .ref cp), (0, .ref b)]) hx hb dL_law_1242 hl (k := 0) rfl (by decide) (by decide) rfl (fun ls hl => ?_)
      refine lv_goto (tgt := 18) hx hb dL_law_1245 (by decide) ?_
      refine lv_iload_n hx hb dL_law_18 rfl (lv_at hl 0 rfl) ?_
      refine lv_aload_n hx hb dL_law_19 rfl (lv_at hl 3 rfl) ?_
      refine va_slen hx hb hX hbl hbA hS dL_law_20 ?_
      refine xw_i (v := 8) rfl ?_
      refine lv_bipush (v := 8) hx hb dL_law_21 (by decide) ?_
      refine lv_isub hx hb dL_law_23 ?_
      refine xw_i (v := 0) (by decide) ?_
      refine lv_icmp_gt (tgt := 1248) hx hb dL_law_24 (by decide) (fun _ => ?_) (fun h => absurd (by decide) h)
      refine lv_iconst (v := 1) hx hb dL_law_1248 (by decide) ?_
      refine va_forget (fun q hq => by have h9 := hS.2.2 q hq; rw [← hAe] at h9; exact h9) ?_
      refine W.widen (k := 600000) (n := 7302250) (by decide) (by decide) ?_
      exact lw_ret hx hb hr hlocks dL_law_1249
    · skip
      refine lv_icmp_eq (tgt := 1242) hx hb dL_law_332 (by decide) (fun _ => ?_) (fun h => absurd (by first | rfl | (exfalso; omega)) h)
      refine lv_iinc (v := 8) (lv' := [(3, .int 8), (2, .ref mo), (1, .ref cp), (0, .ref b)]) hx hb dL_law_1242 hl (k := 0) rfl (by decide) (by decide) rfl (fun ls hl => ?_)
      refine lv_goto (tgt := 18) hx hb dL_law_1245 (by decide) ?_
      refine lv_iload_n hx hb dL_law_18 rfl (lv_at hl 0 rfl) ?_
      refine lv_aload_n hx hb dL_law_19 rfl (lv_at hl 3 rfl) ?_
      refine va_slen hx hb hX hbl hbA hS dL_law_20 ?_
      refine xw_i (v := 8) rfl ?_
      refine lv_bipush (v := 8) hx hb dL_law_21 (by decide) ?_
      refine lv_isub hx hb dL_law_23 ?_
      refine xw_i (v := 0) (by decide) ?_
      refine lv_icmp_gt (tgt := 1248) hx hb dL_law_24 (by decide) (fun _ => ?_) (fun h => absurd (by decide) h)
      refine lv_iconst (v := 1) hx hb dL_law_1248 (by decide) ?_
      refine va_forget (fun q hq => by have h9 := hS.2.2 q hq; rw [← hAe] at h9; exact h9) ?_
      refine W.widen (k := 600000) (n := 7302250) (by decide) (by decide) ?_
      exact lw_ret hx hb hr hlocks dL_law_1249
    · skip
      refine lv_icmp_eq (tgt := 1242) hx hb dL_law_332 (by decide) (fun _ => ?_) (fun h => absurd (by first | rfl | (exfalso; omega)) h)
      refine lv_iinc (v := 8) (lv' := [(3, .int 8), (2, .ref mo), (1, .ref cp), (0, .ref b)]) hx hb dL_law_1242 hl (k := 0) rfl (by decide) (by decide) rfl (fun ls hl => ?_)
      refine lv_goto (tgt := 18) hx hb dL_law_1245 (by decide) ?_
      refine lv_iload_n hx hb dL_law_18 rfl (lv_at hl 0 rfl) ?_
      refine lv_aload_n hx hb dL_law_19 rfl (lv_at hl 3 rfl) ?_
      refine va_slen hx hb hX hbl hbA hS dL_law_20 ?_
      refine xw_i (v := 8) rfl ?_
      refine lv_bipush (v := 8) hx hb dL_law_21 (by decide) ?_
      refine lv_isub hx hb dL_law_23 ?_
      refine xw_i (v := 0) (by decide) ?_
      refine lv_icmp_gt (tgt := 1248) hx hb dL_law_24 (by decide) (fun _ => ?_) (fun h => absurd (by decide) h)
      refine lv_iconst (v := 1) hx hb dL_law_1248 (by decide) ?_
      refine va_forget (fun q hq => by have h9 := hS.2.2 q hq; rw [← hAe] at h9; exact h9) ?_
      refine W.widen (k := 600000) (n := 7302250) (by decide) (by decide) ?_
      exact lw_ret hx hb hr hlocks dL_law_1249
  · skip
    refine lv_aload_n hx hb dL_law_318 rfl (lv_at hl 1 rfl) ?_
    refine lv_aload_n hx hb dL_law_319 rfl (lv_at hl 3 rfl) ?_
    refine lv_iload_n hx hb dL_law_320 rfl (lv_at hl 0 rfl) ?_
    refine lv_iconst (v := 1) hx hb dL_law_321 (by decide) ?_
    refine lv_iadd hx hb dL_law_322 ?_
    refine xw_i (v := 1) (by decide) ?_
    refine va_sld hx hb hX hbl hbA hS (by unfold vp_in; decide) dL_law_323 ?_
    refine xw_i (v := xs 1) rfl ?_
    refine lv_aload_n hx hb dL_law_324 rfl (lv_at hl 3 rfl) ?_
    refine lv_iload_n hx hb dL_law_325 rfl (lv_at hl 0 rfl) ?_
    refine lv_iconst (v := 2) hx hb dL_law_326 (by decide) ?_
    refine lv_iadd hx hb dL_law_327 ?_
    refine xw_i (v := 2) (by decide) ?_
    refine va_sld hx hb hX hbl hbA hS (by unfold vp_in; decide) dL_law_328 ?_
    refine xw_i (v := xs 2) rfl ?_
    have hPc := hP.sub (ws' := [(mo, .inr (12, [.ref m_tape, .int 0, .int 0, .int 0, .int 0, .int 0, .int 0, .int 0, .int 0, .int (-1), .ref m_laws, .ref m_hasLaws, .int 0, .int 0, .ref m_clubOf, .ref m_first, .ref m_last, .ref m_pay, .ref m_rise, .ref m_sure, .ref m_hasChoice, .ref m_isTaken, .ref m_isHurt, .ref m_dead, .ref m_usedSpare, .ref m_owner, .ref m_giver, .ref m_guarded, .ref m_drawnOf, .ref m_drawnTo, .int 0, .int 0, .ref m_table, .int 0, .ref m_moved, .ref m_from, .ref m_to, .ref m_guard, .ref m_worths, .ref m_ringClub, .ref m_ringGives, .int 0, .ref m_triedClub, .ref m_triedGives, .int 0, .int 0, .ref m_toldClub, .ref m_toldGives, .ref m_isOut, .ref m_purse, .int 0])), (m_laws, .inl (k_laws, 192, .inl fL)), (m_hasLaws, .inl (k_hasLaws, 10, .inl (fun _ => 0)))]) [6, 7, 8] rfl
    have hKc := hK.sub (tys' := [(k_laws, .int), (k_hasLaws, .boolean)]) [3, 4] rfl
    refine vp_callSi (W.runV (As := [.int (xs 1), .int (xs 2)]) (rest := [.int 4]) ⟨hx, hb, hml, hown, hts⟩ (mX_law l dC dI ([(mo, .inr (12, [.ref m_tape, .int 0, .int 0, .int 0, .int 0, .int 0, .int 0, .int 0, .int 0, .int (-1), .ref m_laws, .ref m_hasLaws, .int 0, .int 0, .ref m_clubOf, .ref m_first, .ref m_last, .ref m_pay, .ref m_rise, .ref m_sure, .ref m_hasChoice, .ref m_isTaken, .ref m_isHurt, .ref m_dead, .ref m_usedSpare, .ref m_owner, .ref m_giver, .ref m_guarded, .ref m_drawnOf, .ref m_drawnTo, .int 0, .int 0, .ref m_table, .int 0, .ref m_moved, .ref m_from, .ref m_to, .ref m_guard, .ref m_worths, .ref m_ringClub, .ref m_ringGives, .int 0, .ref m_triedClub, .ref m_triedGives, .int 0, .int 0, .ref m_toldClub, .ref m_toldGives, .ref m_isOut, .ref m_purse, .int 0])), (m_laws, .inl (k_laws, 192, .inl fL)), (m_hasLaws, .inl (k_hasLaws, 10, .inl (fun _ => 0)))]) ([(k_laws, .int), (k_hasLaws, .boolean)]) um0 0 rfl 1 rfl 0 rfl 2 rfl 1 rfl (xs 1) ((xs 1).toInt) rfl (xs 2) ((xs 2).toInt) rfl) (cwV 2 hts gL_law_X12_law rfl rfl rfl (by decide +kernel) ⟨Nat.le_of_ble_eq_true rfl, Nat.le_of_ble_eq_true rfl⟩) ⟨xR_blind _ _ _ _, va_recv hKc hPc (ci := 12) (q0 := 0) rfl rfl, xR_pre _ hE hKc hPc⟩ rfl rfl hl.1 rfl (lv_room (Nat.le_of_ble_eq_true rfl)) dL_law_329 ⟨Nat.le_of_ble_eq_true rfl, Nat.le_of_ble_eq_true rfl⟩) (fun rh12 h12 => ?_)
    rcases h12 with ⟨rfl, h12⟩ | ⟨rfl, h12⟩ | ⟨rfl, h12⟩ | ⟨rfl, h12⟩ | ⟨rfl, h12⟩ | ⟨rfl, h12⟩ | ⟨rfl, h12⟩
    · skip
      exact absurd h12 (by omega)
    · skip
      exact absurd h12 (by omega)
    · skip
      refine lv_icmp_eq (tgt := 1242) hx hb dL_law_332 (by decide) (fun _ => ?_) (fun h => absurd (by first | rfl | (exfalso; omega)) h)
      refine lv_iinc (v := 8) (lv' := [(3, .int 8), (2, .ref mo), (1, .ref cp), (0, .ref b)]) hx hb dL_law_1242 hl (k := 0) rfl (by decide) (by decide) rfl (fun ls hl => ?_)
      refine lv_goto (tgt := 18) hx hb dL_law_1245 (by decide) ?_
      refine lv_iload_n hx hb dL_law_18 rfl (lv_at hl 0 rfl) ?_
      refine lv_aload_n hx hb dL_law_19 rfl (lv_at hl 3 rfl) ?_
      refine va_slen hx hb hX hbl hbA hS dL_law_20 ?_
      refine xw_i (v := 8) rfl ?_
      refine lv_bipush (v := 8) hx hb dL_law_21 (by decide) ?_
      refine lv_isub hx hb dL_law_23 ?_
      refine xw_i (v := 0) (by decide) ?_
      refine lv_icmp_gt (tgt := 1248) hx hb dL_law_24 (by decide) (fun _ => ?_) (fun h => absurd (by decide) h)
      refine lv_iconst (v := 1) hx hb dL_law_1248 (by decide) ?_
      refine va_forget (fun q hq => by have h9 := hS.2.2 q hq; rw [← hAe] at h9; exact h9) ?_
      refine W.widen (k := 600000) (n := 7302250) (by decide) (by decide) ?_
      exact lw_ret hx hb hr hlocks dL_law_1249
    · skip
      exact absurd h12 (by omega)
    · skip
      refine lv_icmp_eq (tgt := 1242) hx hb dL_law_332 (by decide) (fun _ => ?_) (fun h => absurd (by first | rfl | (exfalso; omega)) h)
      refine lv_iinc (v := 8) (lv' := [(3, .int 8), (2, .ref mo), (1, .ref cp), (0, .ref b)]) hx hb dL_law_1242 hl (k := 0) rfl (by decide) (by decide) rfl (fun ls hl => ?_)
      refine lv_goto (tgt := 18) hx hb dL_law_1245 (by decide) ?_
      refine lv_iload_n hx hb dL_law_18 rfl (lv_at hl 0 rfl) ?_
      refine lv_aload_n hx hb dL_law_19 rfl (lv_at hl 3 rfl) ?_
      refine va_slen hx hb hX hbl hbA hS dL_law_20 ?_
      refine xw_i (v := 8) rfl ?_
      refine lv_bipush (v := 8) hx hb dL_law_21 (by decide) ?_
      refine lv_isub hx hb dL_law_23 ?_
      refine xw_i (v := 0) (by decide) ?_
      refine lv_icmp_gt (tgt := 1248) hx hb dL_law_24 (by decide) (fun _ => ?_) (fun h => absurd (by decide) h)
      refine lv_iconst (v := 1) hx hb dL_law_1248 (by decide) ?_
      refine va_forget (fun q hq => by have h9 := hS.2.2 q hq; rw [← hAe] at h9; exact h9) ?_
      refine W.widen (k := 600000) (n := 7302250) (by decide) (by decide) ?_
      exact lw_ret hx hb hr hlocks dL_law_1249
    · skip
      refine lv_icmp_eq (tgt := 1242) hx hb dL_law_332 (by decide) (fun _ => ?_) (fun h => absurd (by first | rfl | (exfalso; omega)) h)
      refine lv_iinc (v := 8) (lv' := [(3, .int 8), (2, .ref mo), (1, .ref cp), (0, .ref b)]) hx hb dL_law_1242 hl (k := 0) rfl (by decide) (by decide) rfl (fun ls hl => ?_)
      refine lv_goto (tgt := 18) hx hb dL_law_1245 (by decide) ?_
      refine lv_iload_n hx hb dL_law_18 rfl (lv_at hl 0 rfl) ?_
      refine lv_aload_n hx hb dL_law_19 rfl (lv_at hl 3 rfl) ?_
      refine va_slen hx hb hX hbl hbA hS dL_law_20 ?_
      refine xw_i (v := 8) rfl ?_
      refine lv_bipush (v := 8) hx hb dL_law_21 (by decide) ?_
      refine lv_isub hx hb dL_law_23 ?_
      refine xw_i (v := 0) (by decide) ?_
      refine lv_icmp_gt (tgt := 1248) hx hb dL_law_24 (by decide) (fun _ => ?_) (fun h => absurd (by decide) h)
      refine lv_iconst (v := 1) hx hb dL_law_1248 (by decide) ?_
      refine va_forget (fun q hq => by have h9 := hS.2.2 q hq; rw [← hAe] at h9; exact h9) ?_
      refine W.widen (k := 600000) (n := 7302250) (by decide) (by decide) ?_
      exact lw_ret hx hb hr hlocks dL_law_1249
    · skip
      refine lv_icmp_eq (tgt := 1242) hx hb dL_law_332 (by decide) (fun _ => ?_) (fun h => absurd (by first | rfl | (exfalso; omega)) h)
      refine lv_iinc (v := 8) (lv' := [(3, .int 8), (2, .ref mo), (1, .ref cp), (0, .ref b)]) hx hb dL_law_1242 hl (k := 0) rfl (by decide) (by decide) rfl (fun ls hl => ?_)
      refine lv_goto (tgt := 18) hx hb dL_law_1245 (by decide) ?_
      refine lv_iload_n hx hb dL_law_18 rfl (lv_at hl 0 rfl) ?_
      refine lv_aload_n hx hb dL_law_19 rfl (lv_at hl 3 rfl) ?_
      refine va_slen hx hb hX hbl hbA hS dL_law_20 ?_
      refine xw_i (v := 8) rfl ?_
      refine lv_bipush (v := 8) hx hb dL_law_21 (by decide) ?_
      refine lv_isub hx hb dL_law_23 ?_
      refine xw_i (v := 0) (by decide) ?_
      refine lv_icmp_gt (tgt := 1248) hx hb dL_law_24 (by decide) (fun _ => ?_) (fun h => absurd (by decide) h)
      refine lv_iconst (v := 1) hx hb dL_law_1248 (by decide) ?_
      refine va_forget (fun q hq => by have h9 := hS.2.2 q hq; rw [← hAe] at h9; exact h9) ?_
      refine W.widen (k := 600000) (n := 7302250) (by decide) (by decide) ?_
      exact lw_ret hx hb hr hlocks dL_law_1249
  · skip
    refine lv_aload_n hx hb dL_law_318 rfl (lv_at hl 1 rfl) ?_
    refine lv_aload_n hx hb dL_law_319 rfl (lv_at hl 3 rfl) ?_
    refine lv_iload_n hx hb dL_law_320 rfl (lv_at hl 0 rfl) ?_
    refine lv_iconst (v := 1) hx hb dL_law_321 (by decide) ?_
    refine lv_iadd hx hb dL_law_322 ?_
    refine xw_i (v := 1) (by decide) ?_
    refine va_sld hx hb hX hbl hbA hS (by unfold vp_in; decide) dL_law_323 ?_
    refine xw_i (v := xs 1) rfl ?_
    refine lv_aload_n hx hb dL_law_324 rfl (lv_at hl 3 rfl) ?_
    refine lv_iload_n hx hb dL_law_325 rfl (lv_at hl 0 rfl) ?_
    refine lv_iconst (v := 2) hx hb dL_law_326 (by decide) ?_
    refine lv_iadd hx hb dL_law_327 ?_
    refine xw_i (v := 2) (by decide) ?_
    refine va_sld hx hb hX hbl hbA hS (by unfold vp_in; decide) dL_law_328 ?_
    refine xw_i (v := xs 2) rfl ?_
    have hPc := hP.sub (ws' := [(mo, .inr (12, [.ref m_tape, .int 0, .int 0, .int 0, .int 0, .int 0, .int 0, .int 0, .int 0, .int (-1), .ref m_laws, .ref m_hasLaws, .int 0, .int 0, .ref m_clubOf, .ref m_first, .ref m_last, .ref m_pay, .ref m_rise, .ref m_sure, .ref m_hasChoice, .ref m_isTaken, .ref m_isHurt, .ref m_dead, .ref m_usedSpare, .ref m_owner, .ref m_giver, .ref m_guarded, .ref m_drawnOf, .ref m_drawnTo, .int 0, .int 0, .ref m_table, .int 0, .ref m_moved, .ref m_from, .ref m_to, .ref m_guard, .ref m_worths, .ref m_ringClub, .ref m_ringGives, .int 0, .ref m_triedClub, .ref m_triedGives, .int 0, .int 0, .ref m_toldClub, .ref m_toldGives, .ref m_isOut, .ref m_purse, .int 0])), (m_laws, .inl (k_laws, 192, .inl fL)), (m_hasLaws, .inl (k_hasLaws, 10, .inl (fun _ => 0)))]) [6, 7, 8] rfl
    have hKc := hK.sub (tys' := [(k_laws, .int), (k_hasLaws, .boolean)]) [3, 4] rfl
    refine vp_callSi (W.runV (As := [.int (xs 1), .int (xs 2)]) (rest := [.int 100]) ⟨hx, hb, hml, hown, hts⟩ (mX_law l dC dI ([(mo, .inr (12, [.ref m_tape, .int 0, .int 0, .int 0, .int 0, .int 0, .int 0, .int 0, .int 0, .int (-1), .ref m_laws, .ref m_hasLaws, .int 0, .int 0, .ref m_clubOf, .ref m_first, .ref m_last, .ref m_pay, .ref m_rise, .ref m_sure, .ref m_hasChoice, .ref m_isTaken, .ref m_isHurt, .ref m_dead, .ref m_usedSpare, .ref m_owner, .ref m_giver, .ref m_guarded, .ref m_drawnOf, .ref m_drawnTo, .int 0, .int 0, .ref m_table, .int 0, .ref m_moved, .ref m_from, .ref m_to, .ref m_guard, .ref m_worths, .ref m_ringClub, .ref m_ringGives, .int 0, .ref m_triedClub, .ref m_triedGives, .int 0, .int 0, .ref m_toldClub, .ref m_toldGives, .ref m_isOut, .ref m_purse, .int 0])), (m_laws, .inl (k_laws, 192, .inl fL)), (m_hasLaws, .inl (k_hasLaws, 10, .inl (fun _ => 0)))]) ([(k_laws, .int), (k_hasLaws, .boolean)]) um0 0 rfl 1 rfl 0 rfl 2 rfl 1 rfl (xs 1) ((xs 1).toInt) rfl (xs 2) ((xs 2).toInt) rfl) (cwV 2 hts gL_law_X12_law rfl rfl rfl (by decide +kernel) ⟨Nat.le_of_ble_eq_true rfl, Nat.le_of_ble_eq_true rfl⟩) ⟨xR_blind _ _ _ _, va_recv hKc hPc (ci := 12) (q0 := 0) rfl rfl, xR_pre _ hE hKc hPc⟩ rfl rfl hl.1 rfl (lv_room (Nat.le_of_ble_eq_true rfl)) dL_law_329 ⟨Nat.le_of_ble_eq_true rfl, Nat.le_of_ble_eq_true rfl⟩) (fun rh17 h17 => ?_)
    rcases h17 with ⟨rfl, h17⟩ | ⟨rfl, h17⟩ | ⟨rfl, h17⟩ | ⟨rfl, h17⟩ | ⟨rfl, h17⟩ | ⟨rfl, h17⟩ | ⟨rfl, h17⟩
    · skip
      exact absurd h17 (by omega)
    · skip
      exact absurd h17 (by omega)
    · skip
      exact absurd h17 (by omega)
    · skip
      refine lv_icmp_eq (tgt := 1242) hx hb dL_law_332 (by decide) (fun _ => ?_) (fun h => absurd (by first | rfl | (exfalso; omega)) h)
      refine lv_iinc (v := 8) (lv' := [(3, .int 8), (2, .ref mo), (1, .ref cp), (0, .ref b)]) hx hb dL_law_1242 hl (k := 0) rfl (by decide) (by decide) rfl (fun ls hl => ?_)
      refine lv_goto (tgt := 18) hx hb dL_law_1245 (by decide) ?_
      refine lv_iload_n hx hb dL_law_18 rfl (lv_at hl 0 rfl) ?_
      refine lv_aload_n hx hb dL_law_19 rfl (lv_at hl 3 rfl) ?_
      refine va_slen hx hb hX hbl hbA hS dL_law_20 ?_
      refine xw_i (v := 8) rfl ?_
      refine lv_bipush (v := 8) hx hb dL_law_21 (by decide) ?_
      refine lv_isub hx hb dL_law_23 ?_
      refine xw_i (v := 0) (by decide) ?_
      refine lv_icmp_gt (tgt := 1248) hx hb dL_law_24 (by decide) (fun _ => ?_) (fun h => absurd (by decide) h)
      refine lv_iconst (v := 1) hx hb dL_law_1248 (by decide) ?_
      refine va_forget (fun q hq => by have h9 := hS.2.2 q hq; rw [← hAe] at h9; exact h9) ?_
      refine W.widen (k := 600000) (n := 7302250) (by decide) (by decide) ?_
      exact lw_ret hx hb hr hlocks dL_law_1249
    · skip
      refine lv_icmp_eq (tgt := 1242) hx hb dL_law_332 (by decide) (fun _ => ?_) (fun h => absurd (by first | rfl | (exfalso; omega)) h)
      refine lv_iinc (v := 8) (lv' := [(3, .int 8), (2, .ref mo), (1, .ref cp), (0, .ref b)]) hx hb dL_law_1242 hl (k := 0) rfl (by decide) (by decide) rfl (fun ls hl => ?_)
      refine lv_goto (tgt := 18) hx hb dL_law_1245 (by decide) ?_
      refine lv_iload_n hx hb dL_law_18 rfl (lv_at hl 0 rfl) ?_
      refine lv_aload_n hx hb dL_law_19 rfl (lv_at hl 3 rfl) ?_
      refine va_slen hx hb hX hbl hbA hS dL_law_20 ?_
      refine xw_i (v := 8) rfl ?_
      refine lv_bipush (v := 8) hx hb dL_law_21 (by decide) ?_
      refine lv_isub hx hb dL_law_23 ?_
      refine xw_i (v := 0) (by decide) ?_
      refine lv_icmp_gt (tgt := 1248) hx hb dL_law_24 (by decide) (fun _ => ?_) (fun h => absurd (by decide) h)
      refine lv_iconst (v := 1) hx hb dL_law_1248 (by decide) ?_
      refine va_forget (fun q hq => by have h9 := hS.2.2 q hq; rw [← hAe] at h9; exact h9) ?_
      refine W.widen (k := 600000) (n := 7302250) (by decide) (by decide) ?_
      exact lw_ret hx hb hr hlocks dL_law_1249
    · skip
      refine lv_icmp_eq (tgt := 1242) hx hb dL_law_332 (by decide) (fun _ => ?_) (fun h => absurd (by first | rfl | (exfalso; omega)) h)
      refine lv_iinc (v := 8) (lv' := [(3, .int 8), (2, .ref mo), (1, .ref cp), (0, .ref b)]) hx hb dL_law_1242 hl (k := 0) rfl (by decide) (by decide) rfl (fun ls hl => ?_)
      refine lv_goto (tgt := 18) hx hb dL_law_1245 (by decide) ?_
      refine lv_iload_n hx hb dL_law_18 rfl (lv_at hl 0 rfl) ?_
      refine lv_aload_n hx hb dL_law_19 rfl (lv_at hl 3 rfl) ?_
      refine va_slen hx hb hX hbl hbA hS dL_law_20 ?_
      refine xw_i (v := 8) rfl ?_
      refine lv_bipush (v := 8) hx hb dL_law_21 (by decide) ?_
      refine lv_isub hx hb dL_law_23 ?_
      refine xw_i (v := 0) (by decide) ?_
      refine lv_icmp_gt (tgt := 1248) hx hb dL_law_24 (by decide) (fun _ => ?_) (fun h => absurd (by decide) h)
      refine lv_iconst (v := 1) hx hb dL_law_1248 (by decide) ?_
      refine va_forget (fun q hq => by have h9 := hS.2.2 q hq; rw [← hAe] at h9; exact h9) ?_
      refine W.widen (k := 600000) (n := 7302250) (by decide) (by decide) ?_
      exact lw_ret hx hb hr hlocks dL_law_1249
    · skip
      refine lv_icmp_eq (tgt := 1242) hx hb dL_law_332 (by decide) (fun _ => ?_) (fun h => absurd (by first | rfl | (exfalso; omega)) h)
      refine lv_iinc (v := 8) (lv' := [(3, .int 8), (2, .ref mo), (1, .ref cp), (0, .ref b)]) hx hb dL_law_1242 hl (k := 0) rfl (by decide) (by decide) rfl (fun ls hl => ?_)
      refine lv_goto (tgt := 18) hx hb dL_law_1245 (by decide) ?_
      refine lv_iload_n hx hb dL_law_18 rfl (lv_at hl 0 rfl) ?_
      refine lv_aload_n hx hb dL_law_19 rfl (lv_at hl 3 rfl) ?_
      refine va_slen hx hb hX hbl hbA hS dL_law_20 ?_
      refine xw_i (v := 8) rfl ?_
      refine lv_bipush (v := 8) hx hb dL_law_21 (by decide) ?_
      refine lv_isub hx hb dL_law_23 ?_
      refine xw_i (v := 0) (by decide) ?_
      refine lv_icmp_gt (tgt := 1248) hx hb dL_law_24 (by decide) (fun _ => ?_) (fun h => absurd (by decide) h)
      refine lv_iconst (v := 1) hx hb dL_law_1248 (by decide) ?_
      refine va_forget (fun q hq => by have h9 := hS.2.2 q hq; rw [← hAe] at h9; exact h9) ?_
      refine W.widen (k := 600000) (n := 7302250) (by decide) (by decide) ?_
      exact lw_ret hx hb hr hlocks dL_law_1249
  · skip
    refine lv_aload_n hx hb dL_law_318 rfl (lv_at hl 1 rfl) ?_
    refine lv_aload_n hx hb dL_law_319 rfl (lv_at hl 3 rfl) ?_
    refine lv_iload_n hx hb dL_law_320 rfl (lv_at hl 0 rfl) ?_
    refine lv_iconst (v := 1) hx hb dL_law_321 (by decide) ?_
    refine lv_iadd hx hb dL_law_322 ?_
    refine xw_i (v := 1) (by decide) ?_
    refine va_sld hx hb hX hbl hbA hS (by unfold vp_in; decide) dL_law_323 ?_
    refine xw_i (v := xs 1) rfl ?_
    refine lv_aload_n hx hb dL_law_324 rfl (lv_at hl 3 rfl) ?_
    refine lv_iload_n hx hb dL_law_325 rfl (lv_at hl 0 rfl) ?_
    refine lv_iconst (v := 2) hx hb dL_law_326 (by decide) ?_
    refine lv_iadd hx hb dL_law_327 ?_
    refine xw_i (v := 2) (by decide) ?_
    refine va_sld hx hb hX hbl hbA hS (by unfold vp_in; decide) dL_law_328 ?_
    refine xw_i (v := xs 2) rfl ?_
    have hPc := hP.sub (ws' := [(mo, .inr (12, [.ref m_tape, .int 0, .int 0, .int 0, .int 0, .int 0, .int 0, .int 0, .int 0, .int (-1), .ref m_laws, .ref m_hasLaws, .int 0, .int 0, .ref m_clubOf, .ref m_first, .ref m_last, .ref m_pay, .ref m_rise, .ref m_sure, .ref m_hasChoice, .ref m_isTaken, .ref m_isHurt, .ref m_dead, .ref m_usedSpare, .ref m_owner, .ref m_giver, .ref m_guarded, .ref m_drawnOf, .ref m_drawnTo, .int 0, .int 0, .ref m_table, .int 0, .ref m_moved, .ref m_from, .ref m_to, .ref m_guard, .ref m_worths, .ref m_ringClub, .ref m_ringGives, .int 0, .ref m_triedClub, .ref m_triedGives, .int 0, .int 0, .ref m_toldClub, .ref m_toldGives, .ref m_isOut, .ref m_purse, .int 0])), (m_laws, .inl (k_laws, 192, .inl fL)), (m_hasLaws, .inl (k_hasLaws, 10, .inl (fun _ => 0)))]) [6, 7, 8] rfl
    have hKc := hK.sub (tys' := [(k_laws, .int), (k_hasLaws, .boolean)]) [3, 4] rfl
    refine vp_callSi (W.runV (As := [.int (xs 1), .int (xs 2)]) (rest := [.int 1]) ⟨hx, hb, hml, hown, hts⟩ (mX_law l dC dI ([(mo, .inr (12, [.ref m_tape, .int 0, .int 0, .int 0, .int 0, .int 0, .int 0, .int 0, .int 0, .int (-1), .ref m_laws, .ref m_hasLaws, .int 0, .int 0, .ref m_clubOf, .ref m_first, .ref m_last, .ref m_pay, .ref m_rise, .ref m_sure, .ref m_hasChoice, .ref m_isTaken, .ref m_isHurt, .ref m_dead, .ref m_usedSpare, .ref m_owner, .ref m_giver, .ref m_guarded, .ref m_drawnOf, .ref m_drawnTo, .int 0, .int 0, .ref m_table, .int 0, .ref m_moved, .ref m_from, .ref m_to, .ref m_guard, .ref m_worths, .ref m_ringClub, .ref m_ringGives, .int 0, .ref m_triedClub, .ref m_triedGives, .int 0, .int 0, .ref m_toldClub, .ref m_toldGives, .ref m_isOut, .ref m_purse, .int 0])), (m_laws, .inl (k_laws, 192, .inl fL)), (m_hasLaws, .inl (k_hasLaws, 10, .inl (fun _ => 0)))]) ([(k_laws, .int), (k_hasLaws, .boolean)]) um0 0 rfl 1 rfl 0 rfl 2 rfl 1 rfl (xs 1) ((xs 1).toInt) rfl (xs 2) ((xs 2).toInt) rfl) (cwV 2 hts gL_law_X12_law rfl rfl rfl (by decide +kernel) ⟨Nat.le_of_ble_eq_true rfl, Nat.le_of_ble_eq_true rfl⟩) ⟨xR_blind _ _ _ _, va_recv hKc hPc (ci := 12) (q0 := 0) rfl rfl, xR_pre _ hE hKc hPc⟩ rfl rfl hl.1 rfl (lv_room (Nat.le_of_ble_eq_true rfl)) dL_law_329 ⟨Nat.le_of_ble_eq_true rfl, Nat.le_of_ble_eq_true rfl⟩) (fun rh22 h22 => ?_)
    rcases h22 with ⟨rfl, h22⟩ | ⟨rfl, h22⟩ | ⟨rfl, h22⟩ | ⟨rfl, h22⟩ | ⟨rfl, h22⟩ | ⟨rfl, h22⟩ | ⟨rfl, h22⟩
    · skip
      refine lv_icmp_eq (tgt := 1242) hx hb dL_law_332 (by decide) (fun _ => ?_) (fun h => absurd (by first | rfl | (exfalso; omega)) h)
      refine lv_iinc (v := 8) (lv' := [(3, .int 8), (2, .ref mo), (1, .ref cp), (0, .ref b)]) hx hb dL_law_1242 hl (k := 0) rfl (by decide) (by decide) rfl (fun ls hl => ?_)
      refine lv_goto (tgt := 18) hx hb dL_law_1245 (by decide) ?_
      refine lv_iload_n hx hb dL_law_18 rfl (lv_at hl 0 rfl) ?_
      refine lv_aload_n hx hb dL_law_19 rfl (lv_at hl 3 rfl) ?_
      refine va_slen hx hb hX hbl hbA hS dL_law_20 ?_
      refine xw_i (v := 8) rfl ?_
      refine lv_bipush (v := 8) hx hb dL_law_21 (by decide) ?_
      refine lv_isub hx hb dL_law_23 ?_
      refine xw_i (v := 0) (by decide) ?_
      refine lv_icmp_gt (tgt := 1248) hx hb dL_law_24 (by decide) (fun _ => ?_) (fun h => absurd (by decide) h)
      refine lv_iconst (v := 1) hx hb dL_law_1248 (by decide) ?_
      refine va_forget (fun q hq => by have h9 := hS.2.2 q hq; rw [← hAe] at h9; exact h9) ?_
      refine W.widen (k := 600000) (n := 7302250) (by decide) (by decide) ?_
      exact lw_ret hx hb hr hlocks dL_law_1249
    · skip
      refine lv_icmp_eq (tgt := 1242) hx hb dL_law_332 (by decide) (fun _ => ?_) (fun h => absurd (by first | rfl | (exfalso; omega)) h)
      refine lv_iinc (v := 8) (lv' := [(3, .int 8), (2, .ref mo), (1, .ref cp), (0, .ref b)]) hx hb dL_law_1242 hl (k := 0) rfl (by decide) (by decide) rfl (fun ls hl => ?_)
      refine lv_goto (tgt := 18) hx hb dL_law_1245 (by decide) ?_
      refine lv_iload_n hx hb dL_law_18 rfl (lv_at hl 0 rfl) ?_
      refine lv_aload_n hx hb dL_law_19 rfl (lv_at hl 3 rfl) ?_
      refine va_slen hx hb hX hbl hbA hS dL_law_20 ?_
      refine xw_i (v := 8) rfl ?_
      refine lv_bipush (v := 8) hx hb dL_law_21 (by decide) ?_
      refine lv_isub hx hb dL_law_23 ?_
      refine xw_i (v := 0) (by decide) ?_
      refine lv_icmp_gt (tgt := 1248) hx hb dL_law_24 (by decide) (fun _ => ?_) (fun h => absurd (by decide) h)
      refine lv_iconst (v := 1) hx hb dL_law_1248 (by decide) ?_
      refine va_forget (fun q hq => by have h9 := hS.2.2 q hq; rw [← hAe] at h9; exact h9) ?_
      refine W.widen (k := 600000) (n := 7302250) (by decide) (by decide) ?_
      exact lw_ret hx hb hr hlocks dL_law_1249
    · skip
      refine lv_icmp_eq (tgt := 1242) hx hb dL_law_332 (by decide) (fun _ => ?_) (fun h => absurd (by first | rfl | (exfalso; omega)) h)
      refine lv_iinc (v := 8) (lv' := [(3, .int 8), (2, .ref mo), (1, .ref cp), (0, .ref b)]) hx hb dL_law_1242 hl (k := 0) rfl (by decide) (by decide) rfl (fun ls hl => ?_)
      refine lv_goto (tgt := 18) hx hb dL_law_1245 (by decide) ?_
      refine lv_iload_n hx hb dL_law_18 rfl (lv_at hl 0 rfl) ?_
      refine lv_aload_n hx hb dL_law_19 rfl (lv_at hl 3 rfl) ?_
      refine va_slen hx hb hX hbl hbA hS dL_law_20 ?_
      refine xw_i (v := 8) rfl ?_
      refine lv_bipush (v := 8) hx hb dL_law_21 (by decide) ?_
      refine lv_isub hx hb dL_law_23 ?_
      refine xw_i (v := 0) (by decide) ?_
      refine lv_icmp_gt (tgt := 1248) hx hb dL_law_24 (by decide) (fun _ => ?_) (fun h => absurd (by decide) h)
      refine lv_iconst (v := 1) hx hb dL_law_1248 (by decide) ?_
      refine va_forget (fun q hq => by have h9 := hS.2.2 q hq; rw [← hAe] at h9; exact h9) ?_
      refine W.widen (k := 600000) (n := 7302250) (by decide) (by decide) ?_
      exact lw_ret hx hb hr hlocks dL_law_1249
    · skip
      refine lv_icmp_eq (tgt := 1242) hx hb dL_law_332 (by decide) (fun _ => ?_) (fun h => absurd (by first | rfl | (exfalso; omega)) h)
      refine lv_iinc (v := 8) (lv' := [(3, .int 8), (2, .ref mo), (1, .ref cp), (0, .ref b)]) hx hb dL_law_1242 hl (k := 0) rfl (by decide) (by decide) rfl (fun ls hl => ?_)
      refine lv_goto (tgt := 18) hx hb dL_law_1245 (by decide) ?_
      refine lv_iload_n hx hb dL_law_18 rfl (lv_at hl 0 rfl) ?_
      refine lv_aload_n hx hb dL_law_19 rfl (lv_at hl 3 rfl) ?_
      refine va_slen hx hb hX hbl hbA hS dL_law_20 ?_
      refine xw_i (v := 8) rfl ?_
      refine lv_bipush (v := 8) hx hb dL_law_21 (by decide) ?_
      refine lv_isub hx hb dL_law_23 ?_
      refine xw_i (v := 0) (by decide) ?_
      refine lv_icmp_gt (tgt := 1248) hx hb dL_law_24 (by decide) (fun _ => ?_) (fun h => absurd (by decide) h)
      refine lv_iconst (v := 1) hx hb dL_law_1248 (by decide) ?_
      refine va_forget (fun q hq => by have h9 := hS.2.2 q hq; rw [← hAe] at h9; exact h9) ?_
      refine W.widen (k := 600000) (n := 7302250) (by decide) (by decide) ?_
      exact lw_ret hx hb hr hlocks dL_law_1249
    · skip
      refine lv_icmp_eq (tgt := 1242) hx hb dL_law_332 (by decide) (fun _ => ?_) (fun h => absurd (by first | rfl | (exfalso; omega)) h)
      refine lv_iinc (v := 8) (lv' := [(3, .int 8), (2, .ref mo), (1, .ref cp), (0, .ref b)]) hx hb dL_law_1242 hl (k := 0) rfl (by decide) (by decide) rfl (fun ls hl => ?_)
      refine lv_goto (tgt := 18) hx hb dL_law_1245 (by decide) ?_
      refine lv_iload_n hx hb dL_law_18 rfl (lv_at hl 0 rfl) ?_
      refine lv_aload_n hx hb dL_law_19 rfl (lv_at hl 3 rfl) ?_
      refine va_slen hx hb hX hbl hbA hS dL_law_20 ?_
      refine xw_i (v := 8) rfl ?_
      refine lv_bipush (v := 8) hx hb dL_law_21 (by decide) ?_
      refine lv_isub hx hb dL_law_23 ?_
      refine xw_i (v := 0) (by decide) ?_
      refine lv_icmp_gt (tgt := 1248) hx hb dL_law_24 (by decide) (fun _ => ?_) (fun h => absurd (by decide) h)
      refine lv_iconst (v := 1) hx hb dL_law_1248 (by decide) ?_
      refine va_forget (fun q hq => by have h9 := hS.2.2 q hq; rw [← hAe] at h9; exact h9) ?_
      refine W.widen (k := 600000) (n := 7302250) (by decide) (by decide) ?_
      exact lw_ret hx hb hr hlocks dL_law_1249
    · skip
      refine lv_icmp_eq (tgt := 1242) hx hb dL_law_332 (by decide) (fun _ => ?_) (fun h => absurd (by first | rfl | (exfalso; omega)) h)
      refine lv_iinc (v := 8) (lv' := [(3, .int 8), (2, .ref mo), (1, .ref cp), (0, .ref b)]) hx hb dL_law_1242 hl (k := 0) rfl (by decide) (by decide) rfl (fun ls hl => ?_)
      refine lv_goto (tgt := 18) hx hb dL_law_1245 (by decide) ?_
      refine lv_iload_n hx hb dL_law_18 rfl (lv_at hl 0 rfl) ?_
      refine lv_aload_n hx hb dL_law_19 rfl (lv_at hl 3 rfl) ?_
      refine va_slen hx hb hX hbl hbA hS dL_law_20 ?_
      refine xw_i (v := 8) rfl ?_
      refine lv_bipush (v := 8) hx hb dL_law_21 (by decide) ?_
      refine lv_isub hx hb dL_law_23 ?_
      refine xw_i (v := 0) (by decide) ?_
      refine lv_icmp_gt (tgt := 1248) hx hb dL_law_24 (by decide) (fun _ => ?_) (fun h => absurd (by decide) h)
      refine lv_iconst (v := 1) hx hb dL_law_1248 (by decide) ?_
      refine va_forget (fun q hq => by have h9 := hS.2.2 q hq; rw [← hAe] at h9; exact h9) ?_
      refine W.widen (k := 600000) (n := 7302250) (by decide) (by decide) ?_
      exact lw_ret hx hb hr hlocks dL_law_1249
    · skip
      refine lv_icmp_eq (tgt := 1242) hx hb dL_law_332 (by decide) (fun _ => ?_) (fun h => absurd (by first | rfl | (exfalso; omega)) h)
      refine lv_iinc (v := 8) (lv' := [(3, .int 8), (2, .ref mo), (1, .ref cp), (0, .ref b)]) hx hb dL_law_1242 hl (k := 0) rfl (by decide) (by decide) rfl (fun ls hl => ?_)
      refine lv_goto (tgt := 18) hx hb dL_law_1245 (by decide) ?_
      refine lv_iload_n hx hb dL_law_18 rfl (lv_at hl 0 rfl) ?_
      refine lv_aload_n hx hb dL_law_19 rfl (lv_at hl 3 rfl) ?_
      refine va_slen hx hb hX hbl hbA hS dL_law_20 ?_
      refine xw_i (v := 8) rfl ?_
      refine lv_bipush (v := 8) hx hb dL_law_21 (by decide) ?_
      refine lv_isub hx hb dL_law_23 ?_
      refine xw_i (v := 0) (by decide) ?_
      refine lv_icmp_gt (tgt := 1248) hx hb dL_law_24 (by decide) (fun _ => ?_) (fun h => absurd (by decide) h)
      refine lv_iconst (v := 1) hx hb dL_law_1248 (by decide) ?_
      refine va_forget (fun q hq => by have h9 := hS.2.2 q hq; rw [← hAe] at h9; exact h9) ?_
      refine W.widen (k := 600000) (n := 7302250) (by decide) (by decide) ?_
      exact lw_ret hx hb hr hlocks dL_law_1249
  · skip
    refine lv_aload_n hx hb dL_law_318 rfl (lv_at hl 1 rfl) ?_
    refine lv_aload_n hx hb dL_law_319 rfl (lv_at hl 3 rfl) ?_
    refine lv_iload_n hx hb dL_law_320 rfl (lv_at hl 0 rfl) ?_
    refine lv_iconst (v := 1) hx hb dL_law_321 (by decide) ?_
    refine lv_iadd hx hb dL_law_322 ?_
    refine xw_i (v := 1) (by decide) ?_
    refine va_sld hx hb hX hbl hbA hS (by unfold vp_in; decide) dL_law_323 ?_
    refine xw_i (v := xs 1) rfl ?_
    refine lv_aload_n hx hb dL_law_324 rfl (lv_at hl 3 rfl) ?_
    refine lv_iload_n hx hb dL_law_325 rfl (lv_at hl 0 rfl) ?_
    refine lv_iconst (v := 2) hx hb dL_law_326 (by decide) ?_
    refine lv_iadd hx hb dL_law_327 ?_
    refine xw_i (v := 2) (by decide) ?_
    refine va_sld hx hb hX hbl hbA hS (by unfold vp_in; decide) dL_law_328 ?_
    refine xw_i (v := xs 2) rfl ?_
    have hPc := hP.sub (ws' := [(mo, .inr (12, [.ref m_tape, .int 0, .int 0, .int 0, .int 0, .int 0, .int 0, .int 0, .int 0, .int (-1), .ref m_laws, .ref m_hasLaws, .int 0, .int 0, .ref m_clubOf, .ref m_first, .ref m_last, .ref m_pay, .ref m_rise, .ref m_sure, .ref m_hasChoice, .ref m_isTaken, .ref m_isHurt, .ref m_dead, .ref m_usedSpare, .ref m_owner, .ref m_giver, .ref m_guarded, .ref m_drawnOf, .ref m_drawnTo, .int 0, .int 0, .ref m_table, .int 0, .ref m_moved, .ref m_from, .ref m_to, .ref m_guard, .ref m_worths, .ref m_ringClub, .ref m_ringGives, .int 0, .ref m_triedClub, .ref m_triedGives, .int 0, .int 0, .ref m_toldClub, .ref m_toldGives, .ref m_isOut, .ref m_purse, .int 0])), (m_laws, .inl (k_laws, 192, .inl fL)), (m_hasLaws, .inl (k_hasLaws, 10, .inl (fun _ => 0)))]) [6, 7, 8] rfl
    have hKc := hK.sub (tys' := [(k_laws, .int), (k_hasLaws, .boolean)]) [3, 4] rfl
    refine vp_callSi (W.runV (As := [.int (xs 1), .int (xs 2)]) (rest := [.int 0]) ⟨hx, hb, hml, hown, hts⟩ (mX_law l dC dI ([(mo, .inr (12, [.ref m_tape, .int 0, .int 0, .int 0, .int 0, .int 0, .int 0, .int 0, .int 0, .int (-1), .ref m_laws, .ref m_hasLaws, .int 0, .int 0, .ref m_clubOf, .ref m_first, .ref m_last, .ref m_pay, .ref m_rise, .ref m_sure, .ref m_hasChoice, .ref m_isTaken, .ref m_isHurt, .ref m_dead, .ref m_usedSpare, .ref m_owner, .ref m_giver, .ref m_guarded, .ref m_drawnOf, .ref m_drawnTo, .int 0, .int 0, .ref m_table, .int 0, .ref m_moved, .ref m_from, .ref m_to, .ref m_guard, .ref m_worths, .ref m_ringClub, .ref m_ringGives, .int 0, .ref m_triedClub, .ref m_triedGives, .int 0, .int 0, .ref m_toldClub, .ref m_toldGives, .ref m_isOut, .ref m_purse, .int 0])), (m_laws, .inl (k_laws, 192, .inl fL)), (m_hasLaws, .inl (k_hasLaws, 10, .inl (fun _ => 0)))]) ([(k_laws, .int), (k_hasLaws, .boolean)]) um0 0 rfl 1 rfl 0 rfl 2 rfl 1 rfl (xs 1) ((xs 1).toInt) rfl (xs 2) ((xs 2).toInt) rfl) (cwV 2 hts gL_law_X12_law rfl rfl rfl (by decide +kernel) ⟨Nat.le_of_ble_eq_true rfl, Nat.le_of_ble_eq_true rfl⟩) ⟨xR_blind _ _ _ _, va_recv hKc hPc (ci := 12) (q0 := 0) rfl rfl, xR_pre _ hE hKc hPc⟩ rfl rfl hl.1 rfl (lv_room (Nat.le_of_ble_eq_true rfl)) dL_law_329 ⟨Nat.le_of_ble_eq_true rfl, Nat.le_of_ble_eq_true rfl⟩) (fun rh30 h30 => ?_)
    rcases h30 with ⟨rfl, h30⟩ | ⟨rfl, h30⟩ | ⟨rfl, h30⟩ | ⟨rfl, h30⟩ | ⟨rfl, h30⟩ | ⟨rfl, h30⟩ | ⟨rfl, h30⟩
    · skip
      refine lv_icmp_eq (tgt := 1242) hx hb dL_law_332 (by decide) (fun _ => ?_) (fun h => absurd (by first | rfl | (exfalso; omega)) h)
      refine lv_iinc (v := 8) (lv' := [(3, .int 8), (2, .ref mo), (1, .ref cp), (0, .ref b)]) hx hb dL_law_1242 hl (k := 0) rfl (by decide) (by decide) rfl (fun ls hl => ?_)
      refine lv_goto (tgt := 18) hx hb dL_law_1245 (by decide) ?_
      refine lv_iload_n hx hb dL_law_18 rfl (lv_at hl 0 rfl) ?_
      refine lv_aload_n hx hb dL_law_19 rfl (lv_at hl 3 rfl) ?_
      refine va_slen hx hb hX hbl hbA hS dL_law_20 ?_
      refine xw_i (v := 8) rfl ?_
      refine lv_bipush (v := 8) hx hb dL_law_21 (by decide) ?_
      refine lv_isub hx hb dL_law_23 ?_
      refine xw_i (v := 0) (by decide) ?_
      refine lv_icmp_gt (tgt := 1248) hx hb dL_law_24 (by decide) (fun _ => ?_) (fun h => absurd (by decide) h)
      refine lv_iconst (v := 1) hx hb dL_law_1248 (by decide) ?_
      refine va_forget (fun q hq => by have h9 := hS.2.2 q hq; rw [← hAe] at h9; exact h9) ?_
      refine W.widen (k := 600000) (n := 7302250) (by decide) (by decide) ?_
      exact lw_ret hx hb hr hlocks dL_law_1249
    · skip
      refine lv_icmp_eq (tgt := 1242) hx hb dL_law_332 (by decide) (fun _ => ?_) (fun h => absurd (by first | rfl | (exfalso; omega)) h)
      refine lv_iinc (v := 8) (lv' := [(3, .int 8), (2, .ref mo), (1, .ref cp), (0, .ref b)]) hx hb dL_law_1242 hl (k := 0) rfl (by decide) (by decide) rfl (fun ls hl => ?_)
      refine lv_goto (tgt := 18) hx hb dL_law_1245 (by decide) ?_
      refine lv_iload_n hx hb dL_law_18 rfl (lv_at hl 0 rfl) ?_
      refine lv_aload_n hx hb dL_law_19 rfl (lv_at hl 3 rfl) ?_
      refine va_slen hx hb hX hbl hbA hS dL_law_20 ?_
      refine xw_i (v := 8) rfl ?_
      refine lv_bipush (v := 8) hx hb dL_law_21 (by decide) ?_
      refine lv_isub hx hb dL_law_23 ?_
      refine xw_i (v := 0) (by decide) ?_
      refine lv_icmp_gt (tgt := 1248) hx hb dL_law_24 (by decide) (fun _ => ?_) (fun h => absurd (by decide) h)
      refine lv_iconst (v := 1) hx hb dL_law_1248 (by decide) ?_
      refine va_forget (fun q hq => by have h9 := hS.2.2 q hq; rw [← hAe] at h9; exact h9) ?_
      refine W.widen (k := 600000) (n := 7302250) (by decide) (by decide) ?_
      exact lw_ret hx hb hr hlocks dL_law_1249
    · skip
      refine lv_icmp_eq (tgt := 1242) hx hb dL_law_332 (by decide) (fun _ => ?_) (fun h => absurd (by first | rfl | (exfalso; omega)) h)
      refine lv_iinc (v := 8) (lv' := [(3, .int 8), (2, .ref mo), (1, .ref cp), (0, .ref b)]) hx hb dL_law_1242 hl (k := 0) rfl (by decide) (by decide) rfl (fun ls hl => ?_)
      refine lv_goto (tgt := 18) hx hb dL_law_1245 (by decide) ?_
      refine lv_iload_n hx hb dL_law_18 rfl (lv_at hl 0 rfl) ?_
      refine lv_aload_n hx hb dL_law_19 rfl (lv_at hl 3 rfl) ?_
      refine va_slen hx hb hX hbl hbA hS dL_law_20 ?_
      refine xw_i (v := 8) rfl ?_
      refine lv_bipush (v := 8) hx hb dL_law_21 (by decide) ?_
      refine lv_isub hx hb dL_law_23 ?_
      refine xw_i (v := 0) (by decide) ?_
      refine lv_icmp_gt (tgt := 1248) hx hb dL_law_24 (by decide) (fun _ => ?_) (fun h => absurd (by decide) h)
      refine lv_iconst (v := 1) hx hb dL_law_1248 (by decide) ?_
      refine va_forget (fun q hq => by have h9 := hS.2.2 q hq; rw [← hAe] at h9; exact h9) ?_
      refine W.widen (k := 600000) (n := 7302250) (by decide) (by decide) ?_
      exact lw_ret hx hb hr hlocks dL_law_1249
    · skip
      refine lv_icmp_eq (tgt := 1242) hx hb dL_law_332 (by decide) (fun _ => ?_) (fun h => absurd (by first | rfl | (exfalso; omega)) h)
      refine lv_iinc (v := 8) (lv' := [(3, .int 8), (2, .ref mo), (1, .ref cp), (0, .ref b)]) hx hb dL_law_1242 hl (k := 0) rfl (by decide) (by decide) rfl (fun ls hl => ?_)
      refine lv_goto (tgt := 18) hx hb dL_law_1245 (by decide) ?_
      refine lv_iload_n hx hb dL_law_18 rfl (lv_at hl 0 rfl) ?_
      refine lv_aload_n hx hb dL_law_19 rfl (lv_at hl 3 rfl) ?_
      refine va_slen hx hb hX hbl hbA hS dL_law_20 ?_
      refine xw_i (v := 8) rfl ?_
      refine lv_bipush (v := 8) hx hb dL_law_21 (by decide) ?_
      refine lv_isub hx hb dL_law_23 ?_
      refine xw_i (v := 0) (by decide) ?_
      refine lv_icmp_gt (tgt := 1248) hx hb dL_law_24 (by decide) (fun _ => ?_) (fun h => absurd (by decide) h)
      refine lv_iconst (v := 1) hx hb dL_law_1248 (by decide) ?_
      refine va_forget (fun q hq => by have h9 := hS.2.2 q hq; rw [← hAe] at h9; exact h9) ?_
      refine W.widen (k := 600000) (n := 7302250) (by decide) (by decide) ?_
      exact lw_ret hx hb hr hlocks dL_law_1249
    · skip
      refine lv_icmp_eq (tgt := 1242) hx hb dL_law_332 (by decide) (fun _ => ?_) (fun h => absurd (by first | rfl | (exfalso; omega)) h)
      refine lv_iinc (v := 8) (lv' := [(3, .int 8), (2, .ref mo), (1, .ref cp), (0, .ref b)]) hx hb dL_law_1242 hl (k := 0) rfl (by decide) (by decide) rfl (fun ls hl => ?_)
      refine lv_goto (tgt := 18) hx hb dL_law_1245 (by decide) ?_
      refine lv_iload_n hx hb dL_law_18 rfl (lv_at hl 0 rfl) ?_
      refine lv_aload_n hx hb dL_law_19 rfl (lv_at hl 3 rfl) ?_
      refine va_slen hx hb hX hbl hbA hS dL_law_20 ?_
      refine xw_i (v := 8) rfl ?_
      refine lv_bipush (v := 8) hx hb dL_law_21 (by decide) ?_
      refine lv_isub hx hb dL_law_23 ?_
      refine xw_i (v := 0) (by decide) ?_
      refine lv_icmp_gt (tgt := 1248) hx hb dL_law_24 (by decide) (fun _ => ?_) (fun h => absurd (by decide) h)
      refine lv_iconst (v := 1) hx hb dL_law_1248 (by decide) ?_
      refine va_forget (fun q hq => by have h9 := hS.2.2 q hq; rw [← hAe] at h9; exact h9) ?_
      refine W.widen (k := 600000) (n := 7302250) (by decide) (by decide) ?_
      exact lw_ret hx hb hr hlocks dL_law_1249
    · skip
      refine lv_icmp_eq (tgt := 1242) hx hb dL_law_332 (by decide) (fun _ => ?_) (fun h => absurd (by first | rfl | (exfalso; omega)) h)
      refine lv_iinc (v := 8) (lv' := [(3, .int 8), (2, .ref mo), (1, .ref cp), (0, .ref b)]) hx hb dL_law_1242 hl (k := 0) rfl (by decide) (by decide) rfl (fun ls hl => ?_)
      refine lv_goto (tgt := 18) hx hb dL_law_1245 (by decide) ?_
      refine lv_iload_n hx hb dL_law_18 rfl (lv_at hl 0 rfl) ?_
      refine lv_aload_n hx hb dL_law_19 rfl (lv_at hl 3 rfl) ?_
      refine va_slen hx hb hX hbl hbA hS dL_law_20 ?_
      refine xw_i (v := 8) rfl ?_
      refine lv_bipush (v := 8) hx hb dL_law_21 (by decide) ?_
      refine lv_isub hx hb dL_law_23 ?_
      refine xw_i (v := 0) (by decide) ?_
      refine lv_icmp_gt (tgt := 1248) hx hb dL_law_24 (by decide) (fun _ => ?_) (fun h => absurd (by decide) h)
      refine lv_iconst (v := 1) hx hb dL_law_1248 (by decide) ?_
      refine va_forget (fun q hq => by have h9 := hS.2.2 q hq; rw [← hAe] at h9; exact h9) ?_
      refine W.widen (k := 600000) (n := 7302250) (by decide) (by decide) ?_
      exact lw_ret hx hb hr hlocks dL_law_1249
    · skip
      refine lv_icmp_eq (tgt := 1242) hx hb dL_law_332 (by decide) (fun _ => ?_) (fun h => absurd (by first | rfl | (exfalso; omega)) h)
      refine lv_iinc (v := 8) (lv' := [(3, .int 8), (2, .ref mo), (1, .ref cp), (0, .ref b)]) hx hb dL_law_1242 hl (k := 0) rfl (by decide) (by decide) rfl (fun ls hl => ?_)
      refine lv_goto (tgt := 18) hx hb dL_law_1245 (by decide) ?_
      refine lv_iload_n hx hb dL_law_18 rfl (lv_at hl 0 rfl) ?_
      refine lv_aload_n hx hb dL_law_19 rfl (lv_at hl 3 rfl) ?_
      refine va_slen hx hb hX hbl hbA hS dL_law_20 ?_
      refine xw_i (v := 8) rfl ?_
      refine lv_bipush (v := 8) hx hb dL_law_21 (by decide) ?_
      refine lv_isub hx hb dL_law_23 ?_
      refine xw_i (v := 0) (by decide) ?_
      refine lv_icmp_gt (tgt := 1248) hx hb dL_law_24 (by decide) (fun _ => ?_) (fun h => absurd (by decide) h)
      refine lv_iconst (v := 1) hx hb dL_law_1248 (by decide) ?_
      refine va_forget (fun q hq => by have h9 := hS.2.2 q hq; rw [← hAe] at h9; exact h9) ?_
      refine W.widen (k := 600000) (n := 7302250) (by decide) (by decide) ?_
      exact lw_ret hx hb hr hlocks dL_law_1249
  · skip
    refine lv_aload_n hx hb dL_law_318 rfl (lv_at hl 1 rfl) ?_
    refine lv_aload_n hx hb dL_law_319 rfl (lv_at hl 3 rfl) ?_
    refine lv_iload_n hx hb dL_law_320 rfl (lv_at hl 0 rfl) ?_
    refine lv_iconst (v := 1) hx hb dL_law_321 (by decide) ?_
    refine lv_iadd hx hb dL_law_322 ?_
    refine xw_i (v := 1) (by decide) ?_
    refine va_sld hx hb hX hbl hbA hS (by unfold vp_in; decide) dL_law_323 ?_
    refine xw_i (v := xs 1) rfl ?_
    refine lv_aload_n hx hb dL_law_324 rfl (lv_at hl 3 rfl) ?_
    refine lv_iload_n hx hb dL_law_325 rfl (lv_at hl 0 rfl) ?_
    refine lv_iconst (v := 2) hx hb dL_law_326 (by decide) ?_
    refine lv_iadd hx hb dL_law_327 ?_
    refine xw_i (v := 2) (by decide) ?_
    refine va_sld hx hb hX hbl hbA hS (by unfold vp_in; decide) dL_law_328 ?_
    refine xw_i (v := xs 2) rfl ?_
    have hPc := hP.sub (ws' := [(mo, .inr (12, [.ref m_tape, .int 0, .int 0, .int 0, .int 0, .int 0, .int 0, .int 0, .int 0, .int (-1), .ref m_laws, .ref m_hasLaws, .int 0, .int 0, .ref m_clubOf, .ref m_first, .ref m_last, .ref m_pay, .ref m_rise, .ref m_sure, .ref m_hasChoice, .ref m_isTaken, .ref m_isHurt, .ref m_dead, .ref m_usedSpare, .ref m_owner, .ref m_giver, .ref m_guarded, .ref m_drawnOf, .ref m_drawnTo, .int 0, .int 0, .ref m_table, .int 0, .ref m_moved, .ref m_from, .ref m_to, .ref m_guard, .ref m_worths, .ref m_ringClub, .ref m_ringGives, .int 0, .ref m_triedClub, .ref m_triedGives, .int 0, .int 0, .ref m_toldClub, .ref m_toldGives, .ref m_isOut, .ref m_purse, .int 0])), (m_laws, .inl (k_laws, 192, .inl fL)), (m_hasLaws, .inl (k_hasLaws, 10, .inl (fun _ => 0)))]) [6, 7, 8] rfl
    have hKc := hK.sub (tys' := [(k_laws, .int), (k_hasLaws, .boolean)]) [3, 4] rfl
    refine vp_callSi (W.runV (As := [.int (xs 1), .int (xs 2)]) (rest := [.int (-9)]) ⟨hx, hb, hml, hown, hts⟩ (mX_law l dC dI ([(mo, .inr (12, [.ref m_tape, .int 0, .int 0, .int 0, .int 0, .int 0, .int 0, .int 0, .int 0, .int (-1), .ref m_laws, .ref m_hasLaws, .int 0, .int 0, .ref m_clubOf, .ref m_first, .ref m_last, .ref m_pay, .ref m_rise, .ref m_sure, .ref m_hasChoice, .ref m_isTaken, .ref m_isHurt, .ref m_dead, .ref m_usedSpare, .ref m_owner, .ref m_giver, .ref m_guarded, .ref m_drawnOf, .ref m_drawnTo, .int 0, .int 0, .ref m_table, .int 0, .ref m_moved, .ref m_from, .ref m_to, .ref m_guard, .ref m_worths, .ref m_ringClub, .ref m_ringGives, .int 0, .ref m_triedClub, .ref m_triedGives, .int 0, .int 0, .ref m_toldClub, .ref m_toldGives, .ref m_isOut, .ref m_purse, .int 0])), (m_laws, .inl (k_laws, 192, .inl fL)), (m_hasLaws, .inl (k_hasLaws, 10, .inl (fun _ => 0)))]) ([(k_laws, .int), (k_hasLaws, .boolean)]) um0 0 rfl 1 rfl 0 rfl 2 rfl 1 rfl (xs 1) ((xs 1).toInt) rfl (xs 2) ((xs 2).toInt) rfl) (cwV 2 hts gL_law_X12_law rfl rfl rfl (by decide +kernel) ⟨Nat.le_of_ble_eq_true rfl, Nat.le_of_ble_eq_true rfl⟩) ⟨xR_blind _ _ _ _, va_recv hKc hPc (ci := 12) (q0 := 0) rfl rfl, xR_pre _ hE hKc hPc⟩ rfl rfl hl.1 rfl (lv_room (Nat.le_of_ble_eq_true rfl)) dL_law_329 ⟨Nat.le_of_ble_eq_true rfl, Nat.le_of_ble_eq_true rfl⟩) (fun rh38 h38 => ?_)
    rcases h38 with ⟨rfl, h38⟩ | ⟨rfl, h38⟩ | ⟨rfl, h38⟩ | ⟨rfl, h38⟩ | ⟨rfl, h38⟩ | ⟨rfl, h38⟩ | ⟨rfl, h38⟩
    · skip
      refine lv_icmp_eq (tgt := 1242) hx hb dL_law_332 (by decide) (fun _ => ?_) (fun h => absurd (by first | rfl | (exfalso; omega)) h)
      refine lv_iinc (v := 8) (lv' := [(3, .int 8), (2, .ref mo), (1, .ref cp), (0, .ref b)]) hx hb dL_law_1242 hl (k := 0) rfl (by decide) (by decide) rfl (fun ls hl => ?_)
      refine lv_goto (tgt := 18) hx hb dL_law_1245 (by decide) ?_
      refine lv_iload_n hx hb dL_law_18 rfl (lv_at hl 0 rfl) ?_
      refine lv_aload_n hx hb dL_law_19 rfl (lv_at hl 3 rfl) ?_
      refine va_slen hx hb hX hbl hbA hS dL_law_20 ?_
      refine xw_i (v := 8) rfl ?_
      refine lv_bipush (v := 8) hx hb dL_law_21 (by decide) ?_
      refine lv_isub hx hb dL_law_23 ?_
      refine xw_i (v := 0) (by decide) ?_
      refine lv_icmp_gt (tgt := 1248) hx hb dL_law_24 (by decide) (fun _ => ?_) (fun h => absurd (by decide) h)
      refine lv_iconst (v := 1) hx hb dL_law_1248 (by decide) ?_
      refine va_forget (fun q hq => by have h9 := hS.2.2 q hq; rw [← hAe] at h9; exact h9) ?_
      refine W.widen (k := 600000) (n := 7302250) (by decide) (by decide) ?_
      exact lw_ret hx hb hr hlocks dL_law_1249
    · skip
      refine lv_icmp_eq (tgt := 1242) hx hb dL_law_332 (by decide) (fun _ => ?_) (fun h => absurd (by first | rfl | (exfalso; omega)) h)
      refine lv_iinc (v := 8) (lv' := [(3, .int 8), (2, .ref mo), (1, .ref cp), (0, .ref b)]) hx hb dL_law_1242 hl (k := 0) rfl (by decide) (by decide) rfl (fun ls hl => ?_)
      refine lv_goto (tgt := 18) hx hb dL_law_1245 (by decide) ?_
      refine lv_iload_n hx hb dL_law_18 rfl (lv_at hl 0 rfl) ?_
      refine lv_aload_n hx hb dL_law_19 rfl (lv_at hl 3 rfl) ?_
      refine va_slen hx hb hX hbl hbA hS dL_law_20 ?_
      refine xw_i (v := 8) rfl ?_
      refine lv_bipush (v := 8) hx hb dL_law_21 (by decide) ?_
      refine lv_isub hx hb dL_law_23 ?_
      refine xw_i (v := 0) (by decide) ?_
      refine lv_icmp_gt (tgt := 1248) hx hb dL_law_24 (by decide) (fun _ => ?_) (fun h => absurd (by decide) h)
      refine lv_iconst (v := 1) hx hb dL_law_1248 (by decide) ?_
      refine va_forget (fun q hq => by have h9 := hS.2.2 q hq; rw [← hAe] at h9; exact h9) ?_
      refine W.widen (k := 600000) (n := 7302250) (by decide) (by decide) ?_
      exact lw_ret hx hb hr hlocks dL_law_1249
    · skip
      refine lv_icmp_eq (tgt := 1242) hx hb dL_law_332 (by decide) (fun _ => ?_) (fun h => absurd (by first | rfl | (exfalso; omega)) h)
      refine lv_iinc (v := 8) (lv' := [(3, .int 8), (2, .ref mo), (1, .ref cp), (0, .ref b)]) hx hb dL_law_1242 hl (k := 0) rfl (by decide) (by decide) rfl (fun ls hl => ?_)
      refine lv_goto (tgt := 18) hx hb dL_law_1245 (by decide) ?_
      refine lv_iload_n hx hb dL_law_18 rfl (lv_at hl 0 rfl) ?_
      refine lv_aload_n hx hb dL_law_19 rfl (lv_at hl 3 rfl) ?_
      refine va_slen hx hb hX hbl hbA hS dL_law_20 ?_
      refine xw_i (v := 8) rfl ?_
      refine lv_bipush (v := 8) hx hb dL_law_21 (by decide) ?_
      refine lv_isub hx hb dL_law_23 ?_
      refine xw_i (v := 0) (by decide) ?_
      refine lv_icmp_gt (tgt := 1248) hx hb dL_law_24 (by decide) (fun _ => ?_) (fun h => absurd (by decide) h)
      refine lv_iconst (v := 1) hx hb dL_law_1248 (by decide) ?_
      refine va_forget (fun q hq => by have h9 := hS.2.2 q hq; rw [← hAe] at h9; exact h9) ?_
      refine W.widen (k := 600000) (n := 7302250) (by decide) (by decide) ?_
      exact lw_ret hx hb hr hlocks dL_law_1249
    · skip
      refine lv_icmp_eq (tgt := 1242) hx hb dL_law_332 (by decide) (fun _ => ?_) (fun h => absurd (by first | rfl | (exfalso; omega)) h)
      refine lv_iinc (v := 8) (lv' := [(3, .int 8), (2, .ref mo), (1, .ref cp), (0, .ref b)]) hx hb dL_law_1242 hl (k := 0) rfl (by decide) (by decide) rfl (fun ls hl => ?_)
      refine lv_goto (tgt := 18) hx hb dL_law_1245 (by decide) ?_
      refine lv_iload_n hx hb dL_law_18 rfl (lv_at hl 0 rfl) ?_
      refine lv_aload_n hx hb dL_law_19 rfl (lv_at hl 3 rfl) ?_
      refine va_slen hx hb hX hbl hbA hS dL_law_20 ?_
      refine xw_i (v := 8) rfl ?_
      refine lv_bipush (v := 8) hx hb dL_law_21 (by decide) ?_
      refine lv_isub hx hb dL_law_23 ?_
      refine xw_i (v := 0) (by decide) ?_
      refine lv_icmp_gt (tgt := 1248) hx hb dL_law_24 (by decide) (fun _ => ?_) (fun h => absurd (by decide) h)
      refine lv_iconst (v := 1) hx hb dL_law_1248 (by decide) ?_
      refine va_forget (fun q hq => by have h9 := hS.2.2 q hq; rw [← hAe] at h9; exact h9) ?_
      refine W.widen (k := 600000) (n := 7302250) (by decide) (by decide) ?_
      exact lw_ret hx hb hr hlocks dL_law_1249
    · skip
      refine lv_icmp_eq (tgt := 1242) hx hb dL_law_332 (by decide) (fun _ => ?_) (fun h => absurd (by first | rfl | (exfalso; omega)) h)
      refine lv_iinc (v := 8) (lv' := [(3, .int 8), (2, .ref mo), (1, .ref cp), (0, .ref b)]) hx hb dL_law_1242 hl (k := 0) rfl (by decide) (by decide) rfl (fun ls hl => ?_)
      refine lv_goto (tgt := 18) hx hb dL_law_1245 (by decide) ?_
      refine lv_iload_n hx hb dL_law_18 rfl (lv_at hl 0 rfl) ?_
      refine lv_aload_n hx hb dL_law_19 rfl (lv_at hl 3 rfl) ?_
      refine va_slen hx hb hX hbl hbA hS dL_law_20 ?_
      refine xw_i (v := 8) rfl ?_
      refine lv_bipush (v := 8) hx hb dL_law_21 (by decide) ?_
      refine lv_isub hx hb dL_law_23 ?_
      refine xw_i (v := 0) (by decide) ?_
      refine lv_icmp_gt (tgt := 1248) hx hb dL_law_24 (by decide) (fun _ => ?_) (fun h => absurd (by decide) h)
      refine lv_iconst (v := 1) hx hb dL_law_1248 (by decide) ?_
      refine va_forget (fun q hq => by have h9 := hS.2.2 q hq; rw [← hAe] at h9; exact h9) ?_
      refine W.widen (k := 600000) (n := 7302250) (by decide) (by decide) ?_
      exact lw_ret hx hb hr hlocks dL_law_1249
    · skip
      refine lv_icmp_eq (tgt := 1242) hx hb dL_law_332 (by decide) (fun _ => ?_) (fun h => absurd (by first | rfl | (exfalso; omega)) h)
      refine lv_iinc (v := 8) (lv' := [(3, .int 8), (2, .ref mo), (1, .ref cp), (0, .ref b)]) hx hb dL_law_1242 hl (k := 0) rfl (by decide) (by decide) rfl (fun ls hl => ?_)
      refine lv_goto (tgt := 18) hx hb dL_law_1245 (by decide) ?_
      refine lv_iload_n hx hb dL_law_18 rfl (lv_at hl 0 rfl) ?_
      refine lv_aload_n hx hb dL_law_19 rfl (lv_at hl 3 rfl) ?_
      refine va_slen hx hb hX hbl hbA hS dL_law_20 ?_
      refine xw_i (v := 8) rfl ?_
      refine lv_bipush (v := 8) hx hb dL_law_21 (by decide) ?_
      refine lv_isub hx hb dL_law_23 ?_
      refine xw_i (v := 0) (by decide) ?_
      refine lv_icmp_gt (tgt := 1248) hx hb dL_law_24 (by decide) (fun _ => ?_) (fun h => absurd (by decide) h)
      refine lv_iconst (v := 1) hx hb dL_law_1248 (by decide) ?_
      refine va_forget (fun q hq => by have h9 := hS.2.2 q hq; rw [← hAe] at h9; exact h9) ?_
      refine W.widen (k := 600000) (n := 7302250) (by decide) (by decide) ?_
      exact lw_ret hx hb hr hlocks dL_law_1249
    · skip
      refine lv_icmp_eq (tgt := 1242) hx hb dL_law_332 (by decide) (fun _ => ?_) (fun h => absurd (by first | rfl | (exfalso; omega)) h)
      refine lv_iinc (v := 8) (lv' := [(3, .int 8), (2, .ref mo), (1, .ref cp), (0, .ref b)]) hx hb dL_law_1242 hl (k := 0) rfl (by decide) (by decide) rfl (fun ls hl => ?_)
      refine lv_goto (tgt := 18) hx hb dL_law_1245 (by decide) ?_
      refine lv_iload_n hx hb dL_law_18 rfl (lv_at hl 0 rfl) ?_
      refine lv_aload_n hx hb dL_law_19 rfl (lv_at hl 3 rfl) ?_
      refine va_slen hx hb hX hbl hbA hS dL_law_20 ?_
      refine xw_i (v := 8) rfl ?_
      refine lv_bipush (v := 8) hx hb dL_law_21 (by decide) ?_
      refine lv_isub hx hb dL_law_23 ?_
      refine xw_i (v := 0) (by decide) ?_
      refine lv_icmp_gt (tgt := 1248) hx hb dL_law_24 (by decide) (fun _ => ?_) (fun h => absurd (by decide) h)
      refine lv_iconst (v := 1) hx hb dL_law_1248 (by decide) ?_
      refine va_forget (fun q hq => by have h9 := hS.2.2 q hq; rw [← hAe] at h9; exact h9) ?_
      refine W.widen (k := 600000) (n := 7302250) (by decide) (by decide) ?_
      exact lw_ret hx hb hr hlocks dL_law_1249
set_option maxHeartbeats 8000000 in
set_option maxRecDepth 100000 in
theorem law_5 {p : Program} {l : Launch} {e : Env} {s : State} {m : MethodId} {below : List Frame} {meth : Method} {c : Code} {dC : Nat → ClassId} {dI : Nat → Nat → Nat} {b : Nat} {xs : Nat → Int32} (C0 : lw_At p s m meth c b 8 xs) {A : Nat → Prop} (hAe : (fun q : Nat => s.heap.size ≤ q) = A) {tU : Nat} (hU : xU tU A s s.heap) (cp tp lb rd bk tn td rg dr pl de su fi ac mo m_tape m_laws m_hasLaws m_clubOf m_first m_last m_pay m_rise m_sure m_hasChoice m_isTaken m_isHurt m_dead m_usedSpare m_owner m_giver m_guarded m_drawnOf m_drawnTo m_table m_moved m_from m_to m_guard m_worths m_ringClub m_ringGives m_triedClub m_triedGives m_toldClub m_toldGives m_isOut m_purse : Nat) (k_pl k_clubOf : ClassId)   (hK : va_K (dC, dI) vwCl [(k_pl, (.object RX6)), (k_clubOf, .int)] s) (H : Heap) (locs : List Loc) (hP : va_P (dC, dI) vwCl [(cp, .inr (11, [.ref tp, .ref lb, .ref rd, .ref bk, .ref tn, .ref td, .ref rg, .ref dr])), (bk, .inr (0, [.ref lb, .ref pl, .int 0, .int 0, .ref de, .ref su, .ref fi, .int 0, .ref ac])), (pl, .inl (k_pl, 60, .inr (.inr (.inr (.inr (fun _ => none)))))), (mo, .inr (12, [.ref m_tape, .int 0, .int 0, .int 0, .int 0, .int 0, .int 0, .int 0, .int 0, .int (-1), .ref m_laws, .ref m_hasLaws, .int 0, .int 0, .ref m_clubOf, .ref m_first, .ref m_last, .ref m_pay, .ref m_rise, .ref m_sure, .ref m_hasChoice, .ref m_isTaken, .ref m_isHurt, .ref m_dead, .ref m_usedSpare, .ref m_owner, .ref m_giver, .ref m_guarded, .ref m_drawnOf, .ref m_drawnTo, .int 0, .int 0, .ref m_table, .int 0, .ref m_moved, .ref m_from, .ref m_to, .ref m_guard, .ref m_worths, .ref m_ringClub, .ref m_ringGives, .int 0, .ref m_triedClub, .ref m_triedGives, .int 0, .int 0, .ref m_toldClub, .ref m_toldGives, .ref m_isOut, .ref m_purse, .int 0])), (m_clubOf, .inl (k_clubOf, 60, .inl (fun _ => 0)))] H) (hD : va_D A [(cp, .inr (11, [.ref tp, .ref lb, .ref rd, .ref bk, .ref tn, .ref td, .ref rg, .ref dr])), (bk, .inr (0, [.ref lb, .ref pl, .int 0, .int 0, .ref de, .ref su, .ref fi, .int 0, .ref ac])), (pl, .inl (k_pl, 60, .inr (.inr (.inr (.inr (fun _ => none)))))), (mo, .inr (12, [.ref m_tape, .int 0, .int 0, .int 0, .int 0, .int 0, .int 0, .int 0, .int 0, .int (-1), .ref m_laws, .ref m_hasLaws, .int 0, .int 0, .ref m_clubOf, .ref m_first, .ref m_last, .ref m_pay, .ref m_rise, .ref m_sure, .ref m_hasChoice, .ref m_isTaken, .ref m_isHurt, .ref m_dead, .ref m_usedSpare, .ref m_owner, .ref m_giver, .ref m_guarded, .ref m_drawnOf, .ref m_drawnTo, .int 0, .int 0, .ref m_table, .int 0, .ref m_moved, .ref m_from, .ref m_to, .ref m_guard, .ref m_worths, .ref m_ringClub, .ref m_ringGives, .int 0, .ref m_triedClub, .ref m_triedGives, .int 0, .int 0, .ref m_toldClub, .ref m_toldGives, .ref m_isOut, .ref m_purse, .int 0])), (m_clubOf, .inl (k_clubOf, 60, .inl (fun _ => 0)))]) (hS : va_S A s.heap H locs) (ls : Array Slot) (hl : lv_has ls 4 [(3, .int 0), (2, .ref mo), (1, .ref cp), (0, .ref b)]) : W p l e room_1 s m #[Value.ref b] below meth c H locs 178 9908 (lw_Z below #[Value.ref b] s) (F0 m 337 ls []) := by
  obtain ⟨hx, hb, hr, hml, hown, hts0, hX, hbl, hlocks, hgv⟩ := id C0
  have hE := xs_E hts0
  have hts : ∀ w ∈ wsL_law, w.before #[Value.ref b] s = true := fun w h => hts0 w (wsL_law_in w h)
  have hA : ∀ q : Nat, s.heap.size ≤ q → A q := fun q h => by rw [← hAe]; exact h
  have hbA : ¬ A b := by rw [← hAe]; exact Nat.not_le.mpr hbl
  have lo0 := xi_lo (xs 0)
  have hi0 := xi_hi (xs 0)
  have lo1 := xi_lo (xs 1)
  have hi1 := xi_hi (xs 1)
  have lo2 := xi_lo (xs 2)
  have hi2 := xi_hi (xs 2)
  have lo3 := xi_lo (xs 3)
  have hi3 := xi_hi (xs 3)
  have lo4 := xi_lo (xs 4)
  have hi4 := xi_hi (xs 4)
  have lo5 := xi_lo (xs 5)
  have hi5 := xi_hi (xs 5)
  have lo6 := xi_lo (xs 6)
  have hi6 := xi_hi (xs 6)
  have lo7 := xi_lo (xs 7)
  have hi7 := xi_hi (xs 7)
  refine lv_aload_n hx hb dL_law_337 rfl (lv_at hl 2 rfl) ?_
  have hPc := hP.sub (ws' := [(cp, .inr (11, [.ref tp, .ref lb, .ref rd, .ref bk, .ref tn, .ref td, .ref rg, .ref dr])), (bk, .inr (0, [.ref lb, .ref pl, .int 0, .int 0, .ref de, .ref su, .ref fi, .int 0, .ref ac])), (pl, .inl (k_pl, 60, .inr (.inr (.inr (.inr (fun _ => none))))))]) [0, 1, 2] rfl
  have hDc := hD.sub (ws' := [(cp, .inr (11, [.ref tp, .ref lb, .ref rd, .ref bk, .ref tn, .ref td, .ref rg, .ref dr])), (bk, .inr (0, [.ref lb, .ref pl, .int 0, .int 0, .ref de, .ref su, .ref fi, .int 0, .ref ac])), (pl, .inl (k_pl, 60, .inr (.inr (.inr (.inr (fun _ => none))))))]) [0, 1, 2] (by decide) rfl
  have hKc := hK.sub (tys' := [(k_pl, (.object RX6))]) [0] rfl
  have hFc := va_free (wc := [(cp, .inr (11, [.ref tp, .ref lb, .ref rd, .ref bk, .ref tn, .ref td, .ref rg, .ref dr])), (bk, .inr (0, [.ref lb, .ref pl, .int 0, .int 0, .ref de, .ref su, .ref fi, .int 0, .ref ac])), (pl, .inl (k_pl, 60, .inr (.inr (.inr (.inr (fun _ => none))))))]) hD hS hA [0, 1, 2] rfl
  refine va_calli (va_runV (As := []) (rest := []) ⟨hx, hb, hml, hown, hts⟩ (aX_player l dC dI cp tp lb rd bk tn td rg dr pl de su fi ac k_pl   _) (cwV 0 hts gL_law_X11_player rfl rfl rfl (by decide +kernel) ⟨Nat.le_of_ble_eq_true rfl, Nat.le_of_ble_eq_true rfl⟩) ⟨xW_blind _ _ _ _ _, va_recv hKc hPc (ci := 11) (q0 := 0) rfl rfl, xW_pre _ hE hKc hPc hDc⟩ rfl rfl hl.1 rfl (lv_room (Nat.le_of_ble_eq_true rfl)) dL_law_338 ⟨Nat.le_of_ble_eq_true rfl, Nat.le_of_ble_eq_true rfl⟩) hS (fun q _ h => hFc q h) hFc (fun rh1 u t H1 locs ht hvm h1 hB hz1 hk1 hS => ?_)
  obtain ⟨hP, hD⟩ := va_join (wr := [(mo, .inr (12, [.ref m_tape, .int 0, .int 0, .int 0, .int 0, .int 0, .int 0, .int 0, .int 0, .int (-1), .ref m_laws, .ref m_hasLaws, .int 0, .int 0, .ref m_clubOf, .ref m_first, .ref m_last, .ref m_pay, .ref m_rise, .ref m_sure, .ref m_hasChoice, .ref m_isTaken, .ref m_isHurt, .ref m_dead, .ref m_usedSpare, .ref m_owner, .ref m_giver, .ref m_guarded, .ref m_drawnOf, .ref m_drawnTo, .int 0, .int 0, .ref m_table, .int 0, .ref m_moved, .ref m_from, .ref m_to, .ref m_guard, .ref m_worths, .ref m_ringClub, .ref m_ringGives, .int 0, .ref m_triedClub, .ref m_triedGives, .int 0, .int 0, .ref m_toldClub, .ref m_toldGives, .ref m_isOut, .ref m_purse, .int 0])), (m_clubOf, .inl (k_clubOf, 60, .inl (fun _ => 0)))]) (w1 := []) hP hD [0, 1, 2] [3, 4] rfl rfl (by decide) (by decide) hk1 hFc xz_P xz_D
  generalize H1 = H at hP hS ⊢
  replace hP : va_P (dC, dI) vwCl [(mo, .inr (12, [.ref m_tape, .int 0, .int 0, .int 0, .int 0, .int 0, .int 0, .int 0, .int 0, .int (-1), .ref m_laws, .ref m_hasLaws, .int 0, .int 0, .ref m_clubOf, .ref m_first, .ref m_last, .ref m_pay, .ref m_rise, .ref m_sure, .ref m_hasChoice, .ref m_isTaken, .ref m_isHurt, .ref m_dead, .ref m_usedSpare, .ref m_owner, .ref m_giver, .ref m_guarded, .ref m_drawnOf, .ref m_drawnTo, .int 0, .int 0, .ref m_table, .int 0, .ref m_moved, .ref m_from, .ref m_to, .ref m_guard, .ref m_worths, .ref m_ringClub, .ref m_ringGives, .int 0, .ref m_triedClub, .ref m_triedGives, .int 0, .int 0, .ref m_toldClub, .ref m_toldGives, .ref m_isOut, .ref m_purse, .int 0])), (m_clubOf, .inl (k_clubOf, 60, .inl (fun _ => 0)))] H := hP
  replace hD : va_D A [(mo, .inr (12, [.ref m_tape, .int 0, .int 0, .int 0, .int 0, .int 0, .int 0, .int 0, .int 0, .int (-1), .ref m_laws, .ref m_hasLaws, .int 0, .int 0, .ref m_clubOf, .ref m_first, .ref m_last, .ref m_pay, .ref m_rise, .ref m_sure, .ref m_hasChoice, .ref m_isTaken, .ref m_isHurt, .ref m_dead, .ref m_usedSpare, .ref m_owner, .ref m_giver, .ref m_guarded, .ref m_drawnOf, .ref m_drawnTo, .int 0, .int 0, .ref m_table, .int 0, .ref m_moved, .ref m_from, .ref m_to, .ref m_guard, .ref m_worths, .ref m_ringClub, .ref m_ringGives, .int 0, .ref m_triedClub, .ref m_triedGives, .int 0, .int 0, .ref m_toldClub, .ref m_toldGives, .ref m_isOut, .ref m_purse, .int 0])), (m_clubOf, .inl (k_clubOf, 60, .inl (fun _ => 0)))] := hD
  replace hK : va_K (dC, dI) vwCl [(k_pl, (.object RX6)), (k_clubOf, .int)] s := hK
  refine W.cs (cells' := 180) (slots' := 9925) rfl rfl ?_
  obtain ⟨rfl, h1⟩ := h1
  refine lv_aload_n hx hb dL_law_341 rfl (lv_at hl 1 rfl) ?_
  have hPc := hP.sub (ws' := [(mo, .inr (12, [.ref m_tape, .int 0, .int 0, .int 0, .int 0, .int 0, .int 0, .int 0, .int 0, .int (-1), .ref m_laws, .ref m_hasLaws, .int 0, .int 0, .ref m_clubOf, .ref m_first, .ref m_last, .ref m_pay, .ref m_rise, .ref m_sure, .ref m_hasChoice, .ref m_isTaken, .ref m_isHurt, .ref m_dead, .ref m_usedSpare, .ref m_owner, .ref m_giver, .ref m_guarded, .ref m_drawnOf, .ref m_drawnTo, .int 0, .int 0, .ref m_table, .int 0, .ref m_moved, .ref m_from, .ref m_to, .ref m_guard, .ref m_worths, .ref m_ringClub, .ref m_ringGives, .int 0, .ref m_triedClub, .ref m_triedGives, .int 0, .int 0, .ref m_toldClub, .ref m_toldGives, .ref m_isOut, .ref m_purse, .int 0])), (m_clubOf, .inl (k_clubOf, 60, .inl (fun _ => 0)))]) [0, 1] rfl
  have hDc := hD.sub (ws' := [(mo, .inr (12, [.ref m_tape, .int 0, .int 0, .int 0, .int 0, .int 0, .int 0, .int 0, .int 0, .int (-1), .ref m_laws, .ref m_hasLaws, .int 0, .int 0, .ref m_clubOf, .ref m_first, .ref m_last, .ref m_pay, .ref m_rise, .ref m_sure, .ref m_hasChoice, .ref m_isTaken, .ref m_isHurt, .ref m_dead, .ref m_usedSpare, .ref m_owner, .ref m_giver, .ref m_guarded, .ref m_drawnOf, .ref m_drawnTo, .int 0, .int 0, .ref m_table, .int 0, .ref m_moved, .ref m_from, .ref m_to, .ref m_guard, .ref m_worths, .ref m_ringClub, .ref m_ringGives, .int 0, .ref m_triedClub, .ref m_triedGives, .int 0, .int 0, .ref m_toldClub, .ref m_toldGives, .ref m_isOut, .ref m_purse, .int 0])), (m_clubOf, .inl (k_clubOf, 60, .inl (fun _ => 0)))]) [0, 1] (by decide) rfl
  have hKc := hK.sub (tys' := [(k_clubOf, .int)]) [1] rfl
  have hFc := va_free (wc := [(mo, .inr (12, [.ref m_tape, .int 0, .int 0, .int 0, .int 0, .int 0, .int 0, .int 0, .int 0, .int (-1), .ref m_laws, .ref m_hasLaws, .int 0, .int 0, .ref m_clubOf, .ref m_first, .ref m_last, .ref m_pay, .ref m_rise, .ref m_sure, .ref m_hasChoice, .ref m_isTaken, .ref m_isHurt, .ref m_dead, .ref m_usedSpare, .ref m_owner, .ref m_giver, .ref m_guarded, .ref m_drawnOf, .ref m_drawnTo, .int 0, .int 0, .ref m_table, .int 0, .ref m_moved, .ref m_from, .ref m_to, .ref m_guard, .ref m_worths, .ref m_ringClub, .ref m_ringGives, .int 0, .ref m_triedClub, .ref m_triedGives, .int 0, .int 0, .ref m_toldClub, .ref m_toldGives, .ref m_isOut, .ref m_purse, .int 0])), (m_clubOf, .inl (k_clubOf, 60, .inl (fun _ => 0)))]) hD hS hA [0, 1] rfl
  refine va_calli (va_runV (As := []) (rest := [.int 0]) ⟨hx, hb, hml, hown, hts⟩ (mX_player l dC dI mo m_tape m_laws m_hasLaws m_clubOf m_first m_last m_pay m_rise m_sure m_hasChoice m_isTaken m_isHurt m_dead m_usedSpare m_owner m_giver m_guarded m_drawnOf m_drawnTo m_table m_moved m_from m_to m_guard m_worths m_ringClub m_ringGives m_triedClub m_triedGives m_toldClub m_toldGives m_isOut m_purse k_clubOf   _) (cwV 0 hts gL_law_X12_player rfl rfl rfl (by decide +kernel) ⟨Nat.le_of_ble_eq_true rfl, Nat.le_of_ble_eq_true rfl⟩) ⟨xW_blind _ _ _ _ _, va_recv hKc hPc (ci := 12) (q0 := 0) rfl rfl, xW_pre _ hE hKc hPc hDc⟩ rfl rfl hl.1 rfl (lv_room (Nat.le_of_ble_eq_true rfl)) dL_law_342 ⟨Nat.le_of_ble_eq_true rfl, Nat.le_of_ble_eq_true rfl⟩) hS (fun q _ h => hFc q h) hFc (fun rh2 u t H1 locs ht hvm h2 hB hz1 hk1 hS => ?_)
  obtain ⟨hP, hD⟩ := va_join (wr := []) (w1 := []) hP hD [0, 1] [] rfl rfl (by decide) (by decide) hk1 hFc xz_P xz_D
  generalize H1 = H at hP hS ⊢
  replace hP : va_P (dC, dI) vwCl [] H := hP
  replace hD : va_D A [] := hD
  replace hK : va_K (dC, dI) vwCl [(k_pl, (.object RX6)), (k_clubOf, .int)] s := hK
  refine W.cs (cells' := 180) (slots' := 9925) rfl rfl ?_
  obtain ⟨rfl, h2⟩ := h2
  refine lv_icmp_eq (tgt := 1242) hx hb dL_law_345 (by decide) (fun _ => ?_) (fun h => absurd (by first | rfl | (exfalso; omega)) h)
  refine lv_iinc (v := 8) (lv' := [(3, .int 8), (2, .ref mo), (1, .ref cp), (0, .ref b)]) hx hb dL_law_1242 hl (k := 0) rfl (by decide) (by decide) rfl (fun ls hl => ?_)
  refine lv_goto (tgt := 18) hx hb dL_law_1245 (by decide) ?_
  refine lv_iload_n hx hb dL_law_18 rfl (lv_at hl 0 rfl) ?_
  refine lv_aload_n hx hb dL_law_19 rfl (lv_at hl 3 rfl) ?_
  refine va_slen hx hb hX hbl hbA hS dL_law_20 ?_
  refine xw_i (v := 8) rfl ?_
  refine lv_bipush (v := 8) hx hb dL_law_21 (by decide) ?_
  refine lv_isub hx hb dL_law_23 ?_
  refine xw_i (v := 0) (by decide) ?_
  refine lv_icmp_gt (tgt := 1248) hx hb dL_law_24 (by decide) (fun _ => ?_) (fun h => absurd (by decide) h)
  refine lv_iconst (v := 1) hx hb dL_law_1248 (by decide) ?_
  refine va_forget (fun q hq => by have h9 := hS.2.2 q hq; rw [← hAe] at h9; exact h9) ?_
  refine W.widen (k := 600000) (n := 7302250) (by decide) (by decide) ?_
  exact lw_ret hx hb hr hlocks dL_law_1249
set_option maxHeartbeats 8000000 in
set_option maxRecDepth 100000 in
theorem law_6 {p : Program} {l : Launch} {e : Env} {s : State} {m : MethodId} {below : List Frame} {meth : Method} {c : Code} {dC : Nat → ClassId} {dI : Nat → Nat → Nat} {b : Nat} {xs : Nat → Int32} (C0 : lw_At p s m meth c b 8 xs) {A : Nat → Prop} (hAe : (fun q : Nat => s.heap.size ≤ q) = A) {tU : Nat} (hU : xU tU A s s.heap) (cp tp lb rd bk tn td rg dr pl de su fi ac mo m_tape m_laws m_hasLaws m_clubOf m_first m_last m_pay m_rise m_sure m_hasChoice m_isTaken m_isHurt m_dead m_usedSpare m_owner m_giver m_guarded m_drawnOf m_drawnTo m_table m_moved m_from m_to m_guard m_worths m_ringClub m_ringGives m_triedClub m_triedGives m_toldClub m_toldGives m_isOut m_purse : Nat)    (hK : va_K (dC, dI) vwCl [] s) (H : Heap) (locs : List Loc) (hP : va_P (dC, dI) vwCl [(cp, .inr (11, [.ref tp, .ref lb, .ref rd, .ref bk, .ref tn, .ref td, .ref rg, .ref dr])), (bk, .inr (0, [.ref lb, .ref pl, .int 0, .int 0, .ref de, .ref su, .ref fi, .int 0, .ref ac])), (mo, .inr (12, [.ref m_tape, .int 0, .int 0, .int 0, .int 0, .int 0, .int 0, .int 0, .int 0, .int (-1), .ref m_laws, .ref m_hasLaws, .int 0, .int 0, .ref m_clubOf, .ref m_first, .ref m_last, .ref m_pay, .ref m_rise, .ref m_sure, .ref m_hasChoice, .ref m_isTaken, .ref m_isHurt, .ref m_dead, .ref m_usedSpare, .ref m_owner, .ref m_giver, .ref m_guarded, .ref m_drawnOf, .ref m_drawnTo, .int 0, .int 0, .ref m_table, .int 0, .ref m_moved, .ref m_from, .ref m_to, .ref m_guard, .ref m_worths, .ref m_ringClub, .ref m_ringGives, .int 0, .ref m_triedClub, .ref m_triedGives, .int 0, .int 0, .ref m_toldClub, .ref m_toldGives, .ref m_isOut, .ref m_purse, .int 0]))] H) (hD : va_D A [(cp, .inr (11, [.ref tp, .ref lb, .ref rd, .ref bk, .ref tn, .ref td, .ref rg, .ref dr])), (bk, .inr (0, [.ref lb, .ref pl, .int 0, .int 0, .ref de, .ref su, .ref fi, .int 0, .ref ac])), (mo, .inr (12, [.ref m_tape, .int 0, .int 0, .int 0, .int 0, .int 0, .int 0, .int 0, .int 0, .int (-1), .ref m_laws, .ref m_hasLaws, .int 0, .int 0, .ref m_clubOf, .ref m_first, .ref m_last, .ref m_pay, .ref m_rise, .ref m_sure, .ref m_hasChoice, .ref m_isTaken, .ref m_isHurt, .ref m_dead, .ref m_usedSpare, .ref m_owner, .ref m_giver, .ref m_guarded, .ref m_drawnOf, .ref m_drawnTo, .int 0, .int 0, .ref m_table, .int 0, .ref m_moved, .ref m_from, .ref m_to, .ref m_guard, .ref m_worths, .ref m_ringClub, .ref m_ringGives, .int 0, .ref m_triedClub, .ref m_triedGives, .int 0, .int 0, .ref m_toldClub, .ref m_toldGives, .ref m_isOut, .ref m_purse, .int 0]))]) (hS : va_S A s.heap H locs) (ls : Array Slot) (hl : lv_has ls 4 [(3, .int 0), (2, .ref mo), (1, .ref cp), (0, .ref b)]) : W p l e room_1 s m #[Value.ref b] below meth c H locs 178 9908 (lw_Z below #[Value.ref b] s) (F0 m 350 ls []) := by
  obtain ⟨hx, hb, hr, hml, hown, hts0, hX, hbl, hlocks, hgv⟩ := id C0
  have hE := xs_E hts0
  have hts : ∀ w ∈ wsL_law, w.before #[Value.ref b] s = true := fun w h => hts0 w (wsL_law_in w h)
  have hA : ∀ q : Nat, s.heap.size ≤ q → A q := fun q h => by rw [← hAe]; exact h
  have hbA : ¬ A b := by rw [← hAe]; exact Nat.not_le.mpr hbl
  have lo0 := xi_lo (xs 0)
  have hi0 := xi_hi (xs 0)
  have lo1 := xi_lo (xs 1)
  have hi1 := xi_hi (xs 1)
  have lo2 := xi_lo (xs 2)
  have hi2 := xi_hi (xs 2)
  have lo3 := xi_lo (xs 3)
  have hi3 := xi_hi (xs 3)
  have lo4 := xi_lo (xs 4)
  have hi4 := xi_hi (xs 4)
  have lo5 := xi_lo (xs 5)
  have hi5 := xi_hi (xs 5)
  have lo6 := xi_lo (xs 6)
  have hi6 := xi_hi (xs 6)
  have lo7 := xi_lo (xs 7)
  have hi7 := xi_hi (xs 7)
  refine lv_aload_n hx hb dL_law_350 rfl (lv_at hl 2 rfl) ?_
  refine lv_aload_n hx hb dL_law_351 rfl (lv_at hl 3 rfl) ?_
  refine lv_iload_n hx hb dL_law_352 rfl (lv_at hl 0 rfl) ?_
  refine lv_iconst (v := 1) hx hb dL_law_353 (by decide) ?_
  refine lv_iadd hx hb dL_law_354 ?_
  refine xw_i (v := 1) (by decide) ?_
  refine va_sld hx hb hX hbl hbA hS (by unfold vp_in; decide) dL_law_355 ?_
  refine xw_i (v := xs 1) rfl ?_
  refine lv_aload_n hx hb dL_law_356 rfl (lv_at hl 3 rfl) ?_
  refine lv_iload_n hx hb dL_law_357 rfl (lv_at hl 0 rfl) ?_
  refine lv_iconst (v := 2) hx hb dL_law_358 (by decide) ?_
  refine lv_iadd hx hb dL_law_359 ?_
  refine xw_i (v := 2) (by decide) ?_
  refine va_sld hx hb hX hbl hbA hS (by unfold vp_in; decide) dL_law_360 ?_
  refine xw_i (v := xs 2) rfl ?_
  refine lv_aload_n hx hb dL_law_361 rfl (lv_at hl 3 rfl) ?_
  refine lv_iload_n hx hb dL_law_362 rfl (lv_at hl 0 rfl) ?_
  refine lv_iconst (v := 3) hx hb dL_law_363 (by decide) ?_
  refine lv_iadd hx hb dL_law_364 ?_
  refine xw_i (v := 3) (by decide) ?_
  refine va_sld hx hb hX hbl hbA hS (by unfold vp_in; decide) dL_law_365 ?_
  refine xw_i (v := xs 3) rfl ?_
  refine lv_aload_n hx hb dL_law_366 rfl (lv_at hl 3 rfl) ?_
  refine lv_iload_n hx hb dL_law_367 rfl (lv_at hl 0 rfl) ?_
  refine lv_iconst (v := 4) hx hb dL_law_368 (by decide) ?_
  refine lv_iadd hx hb dL_law_369 ?_
  refine xw_i (v := 4) (by decide) ?_
  refine va_sld hx hb hX hbl hbA hS (by unfold vp_in; decide) dL_law_370 ?_
  refine xw_i (v := xs 4) rfl ?_
  refine lv_aload_n hx hb dL_law_371 rfl (lv_at hl 3 rfl) ?_
  refine lv_iload_n hx hb dL_law_372 rfl (lv_at hl 0 rfl) ?_
  refine lv_iconst (v := 5) hx hb dL_law_373 (by decide) ?_
  refine lv_iadd hx hb dL_law_374 ?_
  refine xw_i (v := 5) (by decide) ?_
  refine va_sld hx hb hX hbl hbA hS (by unfold vp_in; decide) dL_law_375 ?_
  refine xw_i (v := xs 5) rfl ?_
  refine lv_aload_n hx hb dL_law_376 rfl (lv_at hl 3 rfl) ?_
  refine lv_iload_n hx hb dL_law_377 rfl (lv_at hl 0 rfl) ?_
  refine lv_bipush (v := 6) hx hb dL_law_378 (by decide) ?_
  refine lv_iadd hx hb dL_law_380 ?_
  refine xw_i (v := 6) (by decide) ?_
  refine va_sld hx hb hX hbl hbA hS (by unfold vp_in; decide) dL_law_381 ?_
  refine xw_i (v := xs 6) rfl ?_
  refine lv_aload_n hx hb dL_law_382 rfl (lv_at hl 3 rfl) ?_
  refine lv_iload_n hx hb dL_law_383 rfl (lv_at hl 0 rfl) ?_
  refine lv_bipush (v := 7) hx hb dL_law_384 (by decide) ?_
  refine lv_iadd hx hb dL_law_386 ?_
  refine xw_i (v := 7) (by decide) ?_
  refine va_sld hx hb hX hbl hbA hS (by unfold vp_in; decide) dL_law_387 ?_
  refine xw_i (v := xs 7) rfl ?_
  refine lv_if_eq (tgt := 395) hx hb dL_law_388 (by decide) (fun c1 => ?_) (fun c1 => ?_)
  · have ic1 := (xi_eq c1 rfl (by decide) : (xs 7).toInt = 0)
    refine lv_iconst (v := 0) hx hb dL_law_395 (by decide) ?_
    have hPc := hP.sub (ws' := [(cp, .inr (11, [.ref tp, .ref lb, .ref rd, .ref bk, .ref tn, .ref td, .ref rg, .ref dr])), (bk, .inr (0, [.ref lb, .ref pl, .int 0, .int 0, .ref de, .ref su, .ref fi, .int 0, .ref ac]))]) [0, 1] rfl
    have hKc := hK.sub (tys' := []) [] rfl
    refine vp_callSi (W.runV (As := [.int (xs 1), .int (xs 2), .int (xs 3), .int (xs 4), .int (xs 5), .int (xs 6), .int 0]) (rest := []) ⟨hx, hb, hml, hown, hts⟩ (aX_wrong l dC dI ([(cp, .inr (11, [.ref tp, .ref lb, .ref rd, .ref bk, .ref tn, .ref td, .ref rg, .ref dr])), (bk, .inr (0, [.ref lb, .ref pl, .int 0, .int 0, .ref de, .ref su, .ref fi, .int 0, .ref ac]))]) ([]) 0 rfl 1 rfl (xs 1) ((xs 1).toInt) rfl (xs 2) ((xs 2).toInt) rfl (xs 3) ((xs 3).toInt) rfl (xs 4) ((xs 4).toInt) rfl (xs 5) ((xs 5).toInt) rfl (xs 6) ((xs 6).toInt) rfl 0 (0) (by decide)) (cwV 7 hts gL_law_X11_wrong rfl rfl rfl (by decide +kernel) ⟨Nat.le_of_ble_eq_true rfl, Nat.le_of_ble_eq_true rfl⟩) ⟨xR_blind _ _ _ _, va_recv hKc hPc (ci := 11) (q0 := 0) rfl rfl, xR_pre _ hE hKc hPc⟩ rfl rfl hl.1 rfl (lv_room (Nat.le_of_ble_eq_true rfl)) dL_law_396 ⟨Nat.le_of_ble_eq_true rfl, Nat.le_of_ble_eq_true rfl⟩) (fun rh2 h2 => ?_)
    obtain ⟨rfl, h2⟩ := h2
    refine lv_aload_n hx hb dL_law_399 rfl (lv_at hl 1 rfl) ?_
    refine lv_aload_n hx hb dL_law_400 rfl (lv_at hl 3 rfl) ?_
    refine lv_iload_n hx hb dL_law_401 rfl (lv_at hl 0 rfl) ?_
    refine lv_iconst (v := 1) hx hb dL_law_402 (by decide) ?_
    refine lv_iadd hx hb dL_law_403 ?_
    refine xw_i (v := 1) (by decide) ?_
    refine va_sld hx hb hX hbl hbA hS (by unfold vp_in; decide) dL_law_404 ?_
    refine xw_i (v := xs 1) rfl ?_
    refine lv_aload_n hx hb dL_law_405 rfl (lv_at hl 3 rfl) ?_
    refine lv_iload_n hx hb dL_law_406 rfl (lv_at hl 0 rfl) ?_
    refine lv_iconst (v := 2) hx hb dL_law_407 (by decide) ?_
    refine lv_iadd hx hb dL_law_408 ?_
    refine xw_i (v := 2) (by decide) ?_
    refine va_sld hx hb hX hbl hbA hS (by unfold vp_in; decide) dL_law_409 ?_
    refine xw_i (v := xs 2) rfl ?_
    refine lv_aload_n hx hb dL_law_410 rfl (lv_at hl 3 rfl) ?_
    refine lv_iload_n hx hb dL_law_411 rfl (lv_at hl 0 rfl) ?_
    refine lv_iconst (v := 3) hx hb dL_law_412 (by decide) ?_
    refine lv_iadd hx hb dL_law_413 ?_
    refine xw_i (v := 3) (by decide) ?_
    refine va_sld hx hb hX hbl hbA hS (by unfold vp_in; decide) dL_law_414 ?_
    refine xw_i (v := xs 3) rfl ?_
    refine lv_aload_n hx hb dL_law_415 rfl (lv_at hl 3 rfl) ?_
    refine lv_iload_n hx hb dL_law_416 rfl (lv_at hl 0 rfl) ?_
    refine lv_iconst (v := 4) hx hb dL_law_417 (by decide) ?_
    refine lv_iadd hx hb dL_law_418 ?_
    refine xw_i (v := 4) (by decide) ?_
    refine va_sld hx hb hX hbl hbA hS (by unfold vp_in; decide) dL_law_419 ?_
    refine xw_i (v := xs 4) rfl ?_
    refine lv_aload_n hx hb dL_law_420 rfl (lv_at hl 3 rfl) ?_
    refine lv_iload_n hx hb dL_law_421 rfl (lv_at hl 0 rfl) ?_
    refine lv_iconst (v := 5) hx hb dL_law_422 (by decide) ?_
    refine lv_iadd hx hb dL_law_423 ?_
    refine xw_i (v := 5) (by decide) ?_
    refine va_sld hx hb hX hbl hbA hS (by unfold vp_in; decide) dL_law_424 ?_
    refine xw_i (v := xs 5) rfl ?_
    refine lv_aload_n hx hb dL_law_425 rfl (lv_at hl 3 rfl) ?_
    refine lv_iload_n hx hb dL_law_426 rfl (lv_at hl 0 rfl) ?_
    refine lv_bipush (v := 6) hx hb dL_law_427 (by decide) ?_
    refine lv_iadd hx hb dL_law_429 ?_
    refine xw_i (v := 6) (by decide) ?_
    refine va_sld hx hb hX hbl hbA hS (by unfold vp_in; decide) dL_law_430 ?_
    refine xw_i (v := xs 6) rfl ?_
    refine lv_aload_n hx hb dL_law_431 rfl (lv_at hl 3 rfl) ?_
    refine lv_iload_n hx hb dL_law_432 rfl (lv_at hl 0 rfl) ?_
    refine lv_bipush (v := 7) hx hb dL_law_433 (by decide) ?_
    refine lv_iadd hx hb dL_law_435 ?_
    refine xw_i (v := 7) (by decide) ?_
    refine va_sld hx hb hX hbl hbA hS (by unfold vp_in; decide) dL_law_436 ?_
    refine xw_i (v := xs 7) rfl ?_
    refine lv_if_eq (tgt := 444) hx hb dL_law_437 (by decide) (fun c3 => ?_) (fun h => absurd (xi_ne h rfl (by decide) : (xs 7).toInt ≠ 0) (by omega))
    have ic3 := (xi_eq c3 rfl (by decide) : (xs 7).toInt = 0)
    refine lv_iconst (v := 0) hx hb dL_law_444 (by decide) ?_
    have hPc := hP.sub (ws' := [(mo, .inr (12, [.ref m_tape, .int 0, .int 0, .int 0, .int 0, .int 0, .int 0, .int 0, .int 0, .int (-1), .ref m_laws, .ref m_hasLaws, .int 0, .int 0, .ref m_clubOf, .ref m_first, .ref m_last, .ref m_pay, .ref m_rise, .ref m_sure, .ref m_hasChoice, .ref m_isTaken, .ref m_isHurt, .ref m_dead, .ref m_usedSpare, .ref m_owner, .ref m_giver, .ref m_guarded, .ref m_drawnOf, .ref m_drawnTo, .int 0, .int 0, .ref m_table, .int 0, .ref m_moved, .ref m_from, .ref m_to, .ref m_guard, .ref m_worths, .ref m_ringClub, .ref m_ringGives, .int 0, .ref m_triedClub, .ref m_triedGives, .int 0, .int 0, .ref m_toldClub, .ref m_toldGives, .ref m_isOut, .ref m_purse, .int 0]))]) [2] rfl
    have hKc := hK.sub (tys' := []) [] rfl
    refine vp_callSi (W.runV (As := [.int (xs 1), .int (xs 2), .int (xs 3), .int (xs 4), .int (xs 5), .int (xs 6), .int 0]) (rest := [.int (-2)]) ⟨hx, hb, hml, hown, hts⟩ (mX_wrong l dC dI ([(mo, .inr (12, [.ref m_tape, .int 0, .int 0, .int 0, .int 0, .int 0, .int 0, .int 0, .int 0, .int (-1), .ref m_laws, .ref m_hasLaws, .int 0, .int 0, .ref m_clubOf, .ref m_first, .ref m_last, .ref m_pay, .ref m_rise, .ref m_sure, .ref m_hasChoice, .ref m_isTaken, .ref m_isHurt, .ref m_dead, .ref m_usedSpare, .ref m_owner, .ref m_giver, .ref m_guarded, .ref m_drawnOf, .ref m_drawnTo, .int 0, .int 0, .ref m_table, .int 0, .ref m_moved, .ref m_from, .ref m_to, .ref m_guard, .ref m_worths, .ref m_ringClub, .ref m_ringGives, .int 0, .ref m_triedClub, .ref m_triedGives, .int 0, .int 0, .ref m_toldClub, .ref m_toldGives, .ref m_isOut, .ref m_purse, .int 0]))]) ([]) 0 rfl (xs 1) ((xs 1).toInt) rfl (xs 2) ((xs 2).toInt) rfl (xs 3) ((xs 3).toInt) rfl (xs 4) ((xs 4).toInt) rfl (xs 5) ((xs 5).toInt) rfl (xs 6) ((xs 6).toInt) rfl 0 (0) (by decide)) (cwV 7 hts gL_law_X12_wrong rfl rfl rfl (by decide +kernel) ⟨Nat.le_of_ble_eq_true rfl, Nat.le_of_ble_eq_true rfl⟩) ⟨xR_blind _ _ _ _, va_recv hKc hPc (ci := 12) (q0 := 0) rfl rfl, xR_pre _ hE hKc hPc⟩ rfl rfl hl.1 rfl (lv_room (Nat.le_of_ble_eq_true rfl)) dL_law_445 ⟨Nat.le_of_ble_eq_true rfl, Nat.le_of_ble_eq_true rfl⟩) (fun rh4 h4 => ?_)
    obtain ⟨rfl, h4⟩ := h4
    refine lv_icmp_eq (tgt := 1242) hx hb dL_law_448 (by decide) (fun _ => ?_) (fun h => absurd (by first | rfl | (exfalso; omega)) h)
    refine lv_iinc (v := 8) (lv' := [(3, .int 8), (2, .ref mo), (1, .ref cp), (0, .ref b)]) hx hb dL_law_1242 hl (k := 0) rfl (by decide) (by decide) rfl (fun ls hl => ?_)
    refine lv_goto (tgt := 18) hx hb dL_law_1245 (by decide) ?_
    refine lv_iload_n hx hb dL_law_18 rfl (lv_at hl 0 rfl) ?_
    refine lv_aload_n hx hb dL_law_19 rfl (lv_at hl 3 rfl) ?_
    refine va_slen hx hb hX hbl hbA hS dL_law_20 ?_
    refine xw_i (v := 8) rfl ?_
    refine lv_bipush (v := 8) hx hb dL_law_21 (by decide) ?_
    refine lv_isub hx hb dL_law_23 ?_
    refine xw_i (v := 0) (by decide) ?_
    refine lv_icmp_gt (tgt := 1248) hx hb dL_law_24 (by decide) (fun _ => ?_) (fun h => absurd (by decide) h)
    refine lv_iconst (v := 1) hx hb dL_law_1248 (by decide) ?_
    refine va_forget (fun q hq => by have h9 := hS.2.2 q hq; rw [← hAe] at h9; exact h9) ?_
    refine W.widen (k := 600000) (n := 7302250) (by decide) (by decide) ?_
    exact lw_ret hx hb hr hlocks dL_law_1249
  · have ic1 := (xi_ne c1 rfl (by decide) : (xs 7).toInt ≠ 0)
    refine lv_iconst (v := 1) hx hb dL_law_391 (by decide) ?_
    refine lv_goto (tgt := 396) hx hb dL_law_392 (by decide) ?_
    have hPc := hP.sub (ws' := [(cp, .inr (11, [.ref tp, .ref lb, .ref rd, .ref bk, .ref tn, .ref td, .ref rg, .ref dr])), (bk, .inr (0, [.ref lb, .ref pl, .int 0, .int 0, .ref de, .ref su, .ref fi, .int 0, .ref ac]))]) [0, 1] rfl
    have hKc := hK.sub (tys' := []) [] rfl
    refine vp_callSi (W.runV (As := [.int (xs 1), .int (xs 2), .int (xs 3), .int (xs 4), .int (xs 5), .int (xs 6), .int 1]) (rest := []) ⟨hx, hb, hml, hown, hts⟩ (aX_wrong l dC dI ([(cp, .inr (11, [.ref tp, .ref lb, .ref rd, .ref bk, .ref tn, .ref td, .ref rg, .ref dr])), (bk, .inr (0, [.ref lb, .ref pl, .int 0, .int 0, .ref de, .ref su, .ref fi, .int 0, .ref ac]))]) ([]) 0 rfl 1 rfl (xs 1) ((xs 1).toInt) rfl (xs 2) ((xs 2).toInt) rfl (xs 3) ((xs 3).toInt) rfl (xs 4) ((xs 4).toInt) rfl (xs 5) ((xs 5).toInt) rfl (xs 6) ((xs 6).toInt) rfl 1 (1) (by decide)) (cwV 7 hts gL_law_X11_wrong rfl rfl rfl (by decide +kernel) ⟨Nat.le_of_ble_eq_true rfl, Nat.le_of_ble_eq_true rfl⟩) ⟨xR_blind _ _ _ _, va_recv hKc hPc (ci := 11) (q0 := 0) rfl rfl, xR_pre _ hE hKc hPc⟩ rfl rfl hl.1 rfl (lv_room (Nat.le_of_ble_eq_true rfl)) dL_law_396 ⟨Nat.le_of_ble_eq_true rfl, Nat.le_of_ble_eq_true rfl⟩) (fun rh6 h6 => ?_)
    obtain ⟨rfl, h6⟩ := h6
    refine lv_aload_n hx hb dL_law_399 rfl (lv_at hl 1 rfl) ?_
    refine lv_aload_n hx hb dL_law_400 rfl (lv_at hl 3 rfl) ?_
    refine lv_iload_n hx hb dL_law_401 rfl (lv_at hl 0 rfl) ?_
    refine lv_iconst (v := 1) hx hb dL_law_402 (by decide) ?_
    refine lv_iadd hx hb dL_law_403 ?_
    refine xw_i (v := 1) (by decide) ?_
    refine va_sld hx hb hX hbl hbA hS (by unfold vp_in; decide) dL_law_404 ?_
    refine xw_i (v := xs 1) rfl ?_
    refine lv_aload_n hx hb dL_law_405 rfl (lv_at hl 3 rfl) ?_
    refine lv_iload_n hx hb dL_law_406 rfl (lv_at hl 0 rfl) ?_
    refine lv_iconst (v := 2) hx hb dL_law_407 (by decide) ?_
    refine lv_iadd hx hb dL_law_408 ?_
    refine xw_i (v := 2) (by decide) ?_
    refine va_sld hx hb hX hbl hbA hS (by unfold vp_in; decide) dL_law_409 ?_
    refine xw_i (v := xs 2) rfl ?_
    refine lv_aload_n hx hb dL_law_410 rfl (lv_at hl 3 rfl) ?_
    refine lv_iload_n hx hb dL_law_411 rfl (lv_at hl 0 rfl) ?_
    refine lv_iconst (v := 3) hx hb dL_law_412 (by decide) ?_
    refine lv_iadd hx hb dL_law_413 ?_
    refine xw_i (v := 3) (by decide) ?_
    refine va_sld hx hb hX hbl hbA hS (by unfold vp_in; decide) dL_law_414 ?_
    refine xw_i (v := xs 3) rfl ?_
    refine lv_aload_n hx hb dL_law_415 rfl (lv_at hl 3 rfl) ?_
    refine lv_iload_n hx hb dL_law_416 rfl (lv_at hl 0 rfl) ?_
    refine lv_iconst (v := 4) hx hb dL_law_417 (by decide) ?_
    refine lv_iadd hx hb dL_law_418 ?_
    refine xw_i (v := 4) (by decide) ?_
    refine va_sld hx hb hX hbl hbA hS (by unfold vp_in; decide) dL_law_419 ?_
    refine xw_i (v := xs 4) rfl ?_
    refine lv_aload_n hx hb dL_law_420 rfl (lv_at hl 3 rfl) ?_
    refine lv_iload_n hx hb dL_law_421 rfl (lv_at hl 0 rfl) ?_
    refine lv_iconst (v := 5) hx hb dL_law_422 (by decide) ?_
    refine lv_iadd hx hb dL_law_423 ?_
    refine xw_i (v := 5) (by decide) ?_
    refine va_sld hx hb hX hbl hbA hS (by unfold vp_in; decide) dL_law_424 ?_
    refine xw_i (v := xs 5) rfl ?_
    refine lv_aload_n hx hb dL_law_425 rfl (lv_at hl 3 rfl) ?_
    refine lv_iload_n hx hb dL_law_426 rfl (lv_at hl 0 rfl) ?_
    refine lv_bipush (v := 6) hx hb dL_law_427 (by decide) ?_
    refine lv_iadd hx hb dL_law_429 ?_
    refine xw_i (v := 6) (by decide) ?_
    refine va_sld hx hb hX hbl hbA hS (by unfold vp_in; decide) dL_law_430 ?_
    refine xw_i (v := xs 6) rfl ?_
    refine lv_aload_n hx hb dL_law_431 rfl (lv_at hl 3 rfl) ?_
    refine lv_iload_n hx hb dL_law_432 rfl (lv_at hl 0 rfl) ?_
    refine lv_bipush (v := 7) hx hb dL_law_433 (by decide) ?_
    refine lv_iadd hx hb dL_law_435 ?_
    refine xw_i (v := 7) (by decide) ?_
    refine va_sld hx hb hX hbl hbA hS (by unfold vp_in; decide) dL_law_436 ?_
    refine xw_i (v := xs 7) rfl ?_
    refine lv_if_eq (tgt := 444) hx hb dL_law_437 (by decide) (fun c7 => ?_) (fun c7 => ?_)
    · have ic7 := (xi_eq c7 rfl (by decide) : (xs 7).toInt = 0)
      refine lv_iconst (v := 0) hx hb dL_law_444 (by decide) ?_
      have hPc := hP.sub (ws' := [(mo, .inr (12, [.ref m_tape, .int 0, .int 0, .int 0, .int 0, .int 0, .int 0, .int 0, .int 0, .int (-1), .ref m_laws, .ref m_hasLaws, .int 0, .int 0, .ref m_clubOf, .ref m_first, .ref m_last, .ref m_pay, .ref m_rise, .ref m_sure, .ref m_hasChoice, .ref m_isTaken, .ref m_isHurt, .ref m_dead, .ref m_usedSpare, .ref m_owner, .ref m_giver, .ref m_guarded, .ref m_drawnOf, .ref m_drawnTo, .int 0, .int 0, .ref m_table, .int 0, .ref m_moved, .ref m_from, .ref m_to, .ref m_guard, .ref m_worths, .ref m_ringClub, .ref m_ringGives, .int 0, .ref m_triedClub, .ref m_triedGives, .int 0, .int 0, .ref m_toldClub, .ref m_toldGives, .ref m_isOut, .ref m_purse, .int 0]))]) [2] rfl
      have hKc := hK.sub (tys' := []) [] rfl
      refine vp_callSi (W.runV (As := [.int (xs 1), .int (xs 2), .int (xs 3), .int (xs 4), .int (xs 5), .int (xs 6), .int 0]) (rest := [.int (-2)]) ⟨hx, hb, hml, hown, hts⟩ (mX_wrong l dC dI ([(mo, .inr (12, [.ref m_tape, .int 0, .int 0, .int 0, .int 0, .int 0, .int 0, .int 0, .int 0, .int (-1), .ref m_laws, .ref m_hasLaws, .int 0, .int 0, .ref m_clubOf, .ref m_first, .ref m_last, .ref m_pay, .ref m_rise, .ref m_sure, .ref m_hasChoice, .ref m_isTaken, .ref m_isHurt, .ref m_dead, .ref m_usedSpare, .ref m_owner, .ref m_giver, .ref m_guarded, .ref m_drawnOf, .ref m_drawnTo, .int 0, .int 0, .ref m_table, .int 0, .ref m_moved, .ref m_from, .ref m_to, .ref m_guard, .ref m_worths, .ref m_ringClub, .ref m_ringGives, .int 0, .ref m_triedClub, .ref m_triedGives, .int 0, .int 0, .ref m_toldClub, .ref m_toldGives, .ref m_isOut, .ref m_purse, .int 0]))]) ([]) 0 rfl (xs 1) ((xs 1).toInt) rfl (xs 2) ((xs 2).toInt) rfl (xs 3) ((xs 3).toInt) rfl (xs 4) ((xs 4).toInt) rfl (xs 5) ((xs 5).toInt) rfl (xs 6) ((xs 6).toInt) rfl 0 (0) (by decide)) (cwV 7 hts gL_law_X12_wrong rfl rfl rfl (by decide +kernel) ⟨Nat.le_of_ble_eq_true rfl, Nat.le_of_ble_eq_true rfl⟩) ⟨xR_blind _ _ _ _, va_recv hKc hPc (ci := 12) (q0 := 0) rfl rfl, xR_pre _ hE hKc hPc⟩ rfl rfl hl.1 rfl (lv_room (Nat.le_of_ble_eq_true rfl)) dL_law_445 ⟨Nat.le_of_ble_eq_true rfl, Nat.le_of_ble_eq_true rfl⟩) (fun rh8 h8 => ?_)
      obtain ⟨rfl, h8⟩ := h8
      refine lv_icmp_eq (tgt := 1242) hx hb dL_law_448 (by decide) (fun _ => ?_) (fun h => absurd (by first | rfl | (exfalso; omega)) h)
      refine lv_iinc (v := 8) (lv' := [(3, .int 8), (2, .ref mo), (1, .ref cp), (0, .ref b)]) hx hb dL_law_1242 hl (k := 0) rfl (by decide) (by decide) rfl (fun ls hl => ?_)
      refine lv_goto (tgt := 18) hx hb dL_law_1245 (by decide) ?_
      refine lv_iload_n hx hb dL_law_18 rfl (lv_at hl 0 rfl) ?_
      refine lv_aload_n hx hb dL_law_19 rfl (lv_at hl 3 rfl) ?_
      refine va_slen hx hb hX hbl hbA hS dL_law_20 ?_
      refine xw_i (v := 8) rfl ?_
      refine lv_bipush (v := 8) hx hb dL_law_21 (by decide) ?_
      refine lv_isub hx hb dL_law_23 ?_
      refine xw_i (v := 0) (by decide) ?_
      refine lv_icmp_gt (tgt := 1248) hx hb dL_law_24 (by decide) (fun _ => ?_) (fun h => absurd (by decide) h)
      refine lv_iconst (v := 1) hx hb dL_law_1248 (by decide) ?_
      refine va_forget (fun q hq => by have h9 := hS.2.2 q hq; rw [← hAe] at h9; exact h9) ?_
      refine W.widen (k := 600000) (n := 7302250) (by decide) (by decide) ?_
      exact lw_ret hx hb hr hlocks dL_law_1249
    · have ic7 := (xi_ne c7 rfl (by decide) : (xs 7).toInt ≠ 0)
      refine lv_iconst (v := 1) hx hb dL_law_440 (by decide) ?_
      refine lv_goto (tgt := 445) hx hb dL_law_441 (by decide) ?_
      have hPc := hP.sub (ws' := [(mo, .inr (12, [.ref m_tape, .int 0, .int 0, .int 0, .int 0, .int 0, .int 0, .int 0, .int 0, .int (-1), .ref m_laws, .ref m_hasLaws, .int 0, .int 0, .ref m_clubOf, .ref m_first, .ref m_last, .ref m_pay, .ref m_rise, .ref m_sure, .ref m_hasChoice, .ref m_isTaken, .ref m_isHurt, .ref m_dead, .ref m_usedSpare, .ref m_owner, .ref m_giver, .ref m_guarded, .ref m_drawnOf, .ref m_drawnTo, .int 0, .int 0, .ref m_table, .int 0, .ref m_moved, .ref m_from, .ref m_to, .ref m_guard, .ref m_worths, .ref m_ringClub, .ref m_ringGives, .int 0, .ref m_triedClub, .ref m_triedGives, .int 0, .int 0, .ref m_toldClub, .ref m_toldGives, .ref m_isOut, .ref m_purse, .int 0]))]) [2] rfl
      have hKc := hK.sub (tys' := []) [] rfl
      refine vp_callSi (W.runV (As := [.int (xs 1), .int (xs 2), .int (xs 3), .int (xs 4), .int (xs 5), .int (xs 6), .int 1]) (rest := [.int (-2)]) ⟨hx, hb, hml, hown, hts⟩ (mX_wrong l dC dI ([(mo, .inr (12, [.ref m_tape, .int 0, .int 0, .int 0, .int 0, .int 0, .int 0, .int 0, .int 0, .int (-1), .ref m_laws, .ref m_hasLaws, .int 0, .int 0, .ref m_clubOf, .ref m_first, .ref m_last, .ref m_pay, .ref m_rise, .ref m_sure, .ref m_hasChoice, .ref m_isTaken, .ref m_isHurt, .ref m_dead, .ref m_usedSpare, .ref m_owner, .ref m_giver, .ref m_guarded, .ref m_drawnOf, .ref m_drawnTo, .int 0, .int 0, .ref m_table, .int 0, .ref m_moved, .ref m_from, .ref m_to, .ref m_guard, .ref m_worths, .ref m_ringClub, .ref m_ringGives, .int 0, .ref m_triedClub, .ref m_triedGives, .int 0, .int 0, .ref m_toldClub, .ref m_toldGives, .ref m_isOut, .ref m_purse, .int 0]))]) ([]) 0 rfl (xs 1) ((xs 1).toInt) rfl (xs 2) ((xs 2).toInt) rfl (xs 3) ((xs 3).toInt) rfl (xs 4) ((xs 4).toInt) rfl (xs 5) ((xs 5).toInt) rfl (xs 6) ((xs 6).toInt) rfl 1 (1) (by decide)) (cwV 7 hts gL_law_X12_wrong rfl rfl rfl (by decide +kernel) ⟨Nat.le_of_ble_eq_true rfl, Nat.le_of_ble_eq_true rfl⟩) ⟨xR_blind _ _ _ _, va_recv hKc hPc (ci := 12) (q0 := 0) rfl rfl, xR_pre _ hE hKc hPc⟩ rfl rfl hl.1 rfl (lv_room (Nat.le_of_ble_eq_true rfl)) dL_law_445 ⟨Nat.le_of_ble_eq_true rfl, Nat.le_of_ble_eq_true rfl⟩) (fun rh10 h10 => ?_)
      obtain ⟨rfl, h10⟩ := h10
      refine lv_icmp_eq (tgt := 1242) hx hb dL_law_448 (by decide) (fun _ => ?_) (fun h => absurd (by first | rfl | (exfalso; omega)) h)
      refine lv_iinc (v := 8) (lv' := [(3, .int 8), (2, .ref mo), (1, .ref cp), (0, .ref b)]) hx hb dL_law_1242 hl (k := 0) rfl (by decide) (by decide) rfl (fun ls hl => ?_)
      refine lv_goto (tgt := 18) hx hb dL_law_1245 (by decide) ?_
      refine lv_iload_n hx hb dL_law_18 rfl (lv_at hl 0 rfl) ?_
      refine lv_aload_n hx hb dL_law_19 rfl (lv_at hl 3 rfl) ?_
      refine va_slen hx hb hX hbl hbA hS dL_law_20 ?_
      refine xw_i (v := 8) rfl ?_
      refine lv_bipush (v := 8) hx hb dL_law_21 (by decide) ?_
      refine lv_isub hx hb dL_law_23 ?_
      refine xw_i (v := 0) (by decide) ?_
      refine lv_icmp_gt (tgt := 1248) hx hb dL_law_24 (by decide) (fun _ => ?_) (fun h => absurd (by decide) h)
      refine lv_iconst (v := 1) hx hb dL_law_1248 (by decide) ?_
      refine va_forget (fun q hq => by have h9 := hS.2.2 q hq; rw [← hAe] at h9; exact h9) ?_
      refine W.widen (k := 600000) (n := 7302250) (by decide) (by decide) ?_
      exact lw_ret hx hb hr hlocks dL_law_1249
set_option maxHeartbeats 8000000 in
set_option maxRecDepth 100000 in
theorem law_7 {p : Program} {l : Launch} {e : Env} {s : State} {m : MethodId} {below : List Frame} {meth : Method} {c : Code} {dC : Nat → ClassId} {dI : Nat → Nat → Nat} {b : Nat} {xs : Nat → Int32} (C0 : lw_At p s m meth c b 8 xs) {A : Nat → Prop} (hAe : (fun q : Nat => s.heap.size ≤ q) = A) {tU : Nat} (hU : xU tU A s s.heap) (cp tp lb rd bk tn td rg dr pl de su fi ac mo m_tape m_laws m_hasLaws m_clubOf m_first m_last m_pay m_rise m_sure m_hasChoice m_isTaken m_isHurt m_dead m_usedSpare m_owner m_giver m_guarded m_drawnOf m_drawnTo m_table m_moved m_from m_to m_guard m_worths m_ringClub m_ringGives m_triedClub m_triedGives m_toldClub m_toldGives m_isOut m_purse : Nat)    (hK : va_K (dC, dI) vwCl [] s) (H : Heap) (locs : List Loc) (hP : va_P (dC, dI) vwCl [(cp, .inr (11, [.ref tp, .ref lb, .ref rd, .ref bk, .ref tn, .ref td, .ref rg, .ref dr])), (bk, .inr (0, [.ref lb, .ref pl, .int 0, .int 0, .ref de, .ref su, .ref fi, .int 0, .ref ac])), (mo, .inr (12, [.ref m_tape, .int 0, .int 0, .int 0, .int 0, .int 0, .int 0, .int 0, .int 0, .int (-1), .ref m_laws, .ref m_hasLaws, .int 0, .int 0, .ref m_clubOf, .ref m_first, .ref m_last, .ref m_pay, .ref m_rise, .ref m_sure, .ref m_hasChoice, .ref m_isTaken, .ref m_isHurt, .ref m_dead, .ref m_usedSpare, .ref m_owner, .ref m_giver, .ref m_guarded, .ref m_drawnOf, .ref m_drawnTo, .int 0, .int 0, .ref m_table, .int 0, .ref m_moved, .ref m_from, .ref m_to, .ref m_guard, .ref m_worths, .ref m_ringClub, .ref m_ringGives, .int 0, .ref m_triedClub, .ref m_triedGives, .int 0, .int 0, .ref m_toldClub, .ref m_toldGives, .ref m_isOut, .ref m_purse, .int 0]))] H) (hD : va_D A [(cp, .inr (11, [.ref tp, .ref lb, .ref rd, .ref bk, .ref tn, .ref td, .ref rg, .ref dr])), (bk, .inr (0, [.ref lb, .ref pl, .int 0, .int 0, .ref de, .ref su, .ref fi, .int 0, .ref ac])), (mo, .inr (12, [.ref m_tape, .int 0, .int 0, .int 0, .int 0, .int 0, .int 0, .int 0, .int 0, .int (-1), .ref m_laws, .ref m_hasLaws, .int 0, .int 0, .ref m_clubOf, .ref m_first, .ref m_last, .ref m_pay, .ref m_rise, .ref m_sure, .ref m_hasChoice, .ref m_isTaken, .ref m_isHurt, .ref m_dead, .ref m_usedSpare, .ref m_owner, .ref m_giver, .ref m_guarded, .ref m_drawnOf, .ref m_drawnTo, .int 0, .int 0, .ref m_table, .int 0, .ref m_moved, .ref m_from, .ref m_to, .ref m_guard, .ref m_worths, .ref m_ringClub, .ref m_ringGives, .int 0, .ref m_triedClub, .ref m_triedGives, .int 0, .int 0, .ref m_toldClub, .ref m_toldGives, .ref m_isOut, .ref m_purse, .int 0]))]) (hS : va_S A s.heap H locs) (ls : Array Slot) (hl : lv_has ls 4 [(3, .int 0), (2, .ref mo), (1, .ref cp), (0, .ref b)]) : W p l e room_1 s m #[Value.ref b] below meth c H locs 178 9908 (lw_Z below #[Value.ref b] s) (F0 m 453 ls []) := by
  obtain ⟨hx, hb, hr, hml, hown, hts0, hX, hbl, hlocks, hgv⟩ := id C0
  have hE := xs_E hts0
  have hts : ∀ w ∈ wsL_law, w.before #[Value.ref b] s = true := fun w h => hts0 w (wsL_law_in w h)
  have hA : ∀ q : Nat, s.heap.size ≤ q → A q := fun q h => by rw [← hAe]; exact h
  have hbA : ¬ A b := by rw [← hAe]; exact Nat.not_le.mpr hbl
  have lo0 := xi_lo (xs 0)
  have hi0 := xi_hi (xs 0)
  have lo1 := xi_lo (xs 1)
  have hi1 := xi_hi (xs 1)
  have lo2 := xi_lo (xs 2)
  have hi2 := xi_hi (xs 2)
  have lo3 := xi_lo (xs 3)
  have hi3 := xi_hi (xs 3)
  have lo4 := xi_lo (xs 4)
  have hi4 := xi_hi (xs 4)
  have lo5 := xi_lo (xs 5)
  have hi5 := xi_hi (xs 5)
  have lo6 := xi_lo (xs 6)
  have hi6 := xi_hi (xs 6)
  have lo7 := xi_lo (xs 7)
  have hi7 := xi_hi (xs 7)
  refine lv_aload_n hx hb dL_law_453 rfl (lv_at hl 2 rfl) ?_
  refine lv_aload_n hx hb dL_law_454 rfl (lv_at hl 3 rfl) ?_
  refine lv_iload_n hx hb dL_law_455 rfl (lv_at hl 0 rfl) ?_
  refine lv_iconst (v := 1) hx hb dL_law_456 (by decide) ?_
  refine lv_iadd hx hb dL_law_457 ?_
  refine xw_i (v := 1) (by decide) ?_
  refine va_sld hx hb hX hbl hbA hS (by unfold vp_in; decide) dL_law_458 ?_
  refine xw_i (v := xs 1) rfl ?_
  refine lv_aload_n hx hb dL_law_459 rfl (lv_at hl 3 rfl) ?_
  refine lv_iload_n hx hb dL_law_460 rfl (lv_at hl 0 rfl) ?_
  refine lv_iconst (v := 2) hx hb dL_law_461 (by decide) ?_
  refine lv_iadd hx hb dL_law_462 ?_
  refine xw_i (v := 2) (by decide) ?_
  refine va_sld hx hb hX hbl hbA hS (by unfold vp_in; decide) dL_law_463 ?_
  refine xw_i (v := xs 2) rfl ?_
  refine lv_aload_n hx hb dL_law_464 rfl (lv_at hl 3 rfl) ?_
  refine lv_iload_n hx hb dL_law_465 rfl (lv_at hl 0 rfl) ?_
  refine lv_iconst (v := 3) hx hb dL_law_466 (by decide) ?_
  refine lv_iadd hx hb dL_law_467 ?_
  refine xw_i (v := 3) (by decide) ?_
  refine va_sld hx hb hX hbl hbA hS (by unfold vp_in; decide) dL_law_468 ?_
  refine xw_i (v := xs 3) rfl ?_
  refine lv_aload_n hx hb dL_law_469 rfl (lv_at hl 3 rfl) ?_
  refine lv_iload_n hx hb dL_law_470 rfl (lv_at hl 0 rfl) ?_
  refine lv_iconst (v := 4) hx hb dL_law_471 (by decide) ?_
  refine lv_iadd hx hb dL_law_472 ?_
  refine xw_i (v := 4) (by decide) ?_
  refine va_sld hx hb hX hbl hbA hS (by unfold vp_in; decide) dL_law_473 ?_
  refine xw_i (v := xs 4) rfl ?_
  refine lv_aload_n hx hb dL_law_474 rfl (lv_at hl 3 rfl) ?_
  refine lv_iload_n hx hb dL_law_475 rfl (lv_at hl 0 rfl) ?_
  refine lv_iconst (v := 5) hx hb dL_law_476 (by decide) ?_
  refine lv_iadd hx hb dL_law_477 ?_
  refine xw_i (v := 5) (by decide) ?_
  refine va_sld hx hb hX hbl hbA hS (by unfold vp_in; decide) dL_law_478 ?_
  refine xw_i (v := xs 5) rfl ?_
  refine lv_aload_n hx hb dL_law_479 rfl (lv_at hl 3 rfl) ?_
  refine lv_iload_n hx hb dL_law_480 rfl (lv_at hl 0 rfl) ?_
  refine lv_bipush (v := 6) hx hb dL_law_481 (by decide) ?_
  refine lv_iadd hx hb dL_law_483 ?_
  refine xw_i (v := 6) (by decide) ?_
  refine va_sld hx hb hX hbl hbA hS (by unfold vp_in; decide) dL_law_484 ?_
  refine xw_i (v := xs 6) rfl ?_
  refine lv_aload_n hx hb dL_law_485 rfl (lv_at hl 3 rfl) ?_
  refine lv_iload_n hx hb dL_law_486 rfl (lv_at hl 0 rfl) ?_
  refine lv_bipush (v := 7) hx hb dL_law_487 (by decide) ?_
  refine lv_iadd hx hb dL_law_489 ?_
  refine xw_i (v := 7) (by decide) ?_
  refine va_sld hx hb hX hbl hbA hS (by unfold vp_in; decide) dL_law_490 ?_
  refine xw_i (v := xs 7) rfl ?_
  refine lv_if_eq (tgt := 498) hx hb dL_law_491 (by decide) (fun c1 => ?_) (fun c1 => ?_)
  · have ic1 := (xi_eq c1 rfl (by decide) : (xs 7).toInt = 0)
    refine lv_iconst (v := 0) hx hb dL_law_498 (by decide) ?_
    have hPc := hP.sub (ws' := [(cp, .inr (11, [.ref tp, .ref lb, .ref rd, .ref bk, .ref tn, .ref td, .ref rg, .ref dr])), (bk, .inr (0, [.ref lb, .ref pl, .int 0, .int 0, .ref de, .ref su, .ref fi, .int 0, .ref ac]))]) [0, 1] rfl
    have hKc := hK.sub (tys' := []) [] rfl
    refine vp_callSi (W.runV (As := [.int (xs 1), .int (xs 2), .int (xs 3), .int (xs 4), .int (xs 5), .int (xs 6), .int 0]) (rest := []) ⟨hx, hb, hml, hown, hts⟩ (aX_sign l dC dI ([(cp, .inr (11, [.ref tp, .ref lb, .ref rd, .ref bk, .ref tn, .ref td, .ref rg, .ref dr])), (bk, .inr (0, [.ref lb, .ref pl, .int 0, .int 0, .ref de, .ref su, .ref fi, .int 0, .ref ac]))]) ([]) 0 rfl 1 rfl (xs 1) ((xs 1).toInt) rfl (xs 2) ((xs 2).toInt) rfl (xs 3) ((xs 3).toInt) rfl (xs 4) ((xs 4).toInt) rfl (xs 5) ((xs 5).toInt) rfl (xs 6) ((xs 6).toInt) rfl 0 (0) (by decide)) (cwV 7 hts gL_law_X11_sign rfl rfl rfl (by decide +kernel) ⟨Nat.le_of_ble_eq_true rfl, Nat.le_of_ble_eq_true rfl⟩) ⟨xR_blind _ _ _ _, va_recv hKc hPc (ci := 11) (q0 := 0) rfl rfl, xR_pre _ hE hKc hPc⟩ rfl rfl hl.1 rfl (lv_room (Nat.le_of_ble_eq_true rfl)) dL_law_499 ⟨Nat.le_of_ble_eq_true rfl, Nat.le_of_ble_eq_true rfl⟩) (fun rh2 h2 => ?_)
    obtain ⟨rfl, h2⟩ := h2
    refine lv_aload_n hx hb dL_law_502 rfl (lv_at hl 1 rfl) ?_
    refine lv_aload_n hx hb dL_law_503 rfl (lv_at hl 3 rfl) ?_
    refine lv_iload_n hx hb dL_law_504 rfl (lv_at hl 0 rfl) ?_
    refine lv_iconst (v := 1) hx hb dL_law_505 (by decide) ?_
    refine lv_iadd hx hb dL_law_506 ?_
    refine xw_i (v := 1) (by decide) ?_
    refine va_sld hx hb hX hbl hbA hS (by unfold vp_in; decide) dL_law_507 ?_
    refine xw_i (v := xs 1) rfl ?_
    refine lv_aload_n hx hb dL_law_508 rfl (lv_at hl 3 rfl) ?_
    refine lv_iload_n hx hb dL_law_509 rfl (lv_at hl 0 rfl) ?_
    refine lv_iconst (v := 2) hx hb dL_law_510 (by decide) ?_
    refine lv_iadd hx hb dL_law_511 ?_
    refine xw_i (v := 2) (by decide) ?_
    refine va_sld hx hb hX hbl hbA hS (by unfold vp_in; decide) dL_law_512 ?_
    refine xw_i (v := xs 2) rfl ?_
    refine lv_aload_n hx hb dL_law_513 rfl (lv_at hl 3 rfl) ?_
    refine lv_iload_n hx hb dL_law_514 rfl (lv_at hl 0 rfl) ?_
    refine lv_iconst (v := 3) hx hb dL_law_515 (by decide) ?_
    refine lv_iadd hx hb dL_law_516 ?_
    refine xw_i (v := 3) (by decide) ?_
    refine va_sld hx hb hX hbl hbA hS (by unfold vp_in; decide) dL_law_517 ?_
    refine xw_i (v := xs 3) rfl ?_
    refine lv_aload_n hx hb dL_law_518 rfl (lv_at hl 3 rfl) ?_
    refine lv_iload_n hx hb dL_law_519 rfl (lv_at hl 0 rfl) ?_
    refine lv_iconst (v := 4) hx hb dL_law_520 (by decide) ?_
    refine lv_iadd hx hb dL_law_521 ?_
    refine xw_i (v := 4) (by decide) ?_
    refine va_sld hx hb hX hbl hbA hS (by unfold vp_in; decide) dL_law_522 ?_
    refine xw_i (v := xs 4) rfl ?_
    refine lv_aload_n hx hb dL_law_523 rfl (lv_at hl 3 rfl) ?_
    refine lv_iload_n hx hb dL_law_524 rfl (lv_at hl 0 rfl) ?_
    refine lv_iconst (v := 5) hx hb dL_law_525 (by decide) ?_
    refine lv_iadd hx hb dL_law_526 ?_
    refine xw_i (v := 5) (by decide) ?_
    refine va_sld hx hb hX hbl hbA hS (by unfold vp_in; decide) dL_law_527 ?_
    refine xw_i (v := xs 5) rfl ?_
    refine lv_aload_n hx hb dL_law_528 rfl (lv_at hl 3 rfl) ?_
    refine lv_iload_n hx hb dL_law_529 rfl (lv_at hl 0 rfl) ?_
    refine lv_bipush (v := 6) hx hb dL_law_530 (by decide) ?_
    refine lv_iadd hx hb dL_law_532 ?_
    refine xw_i (v := 6) (by decide) ?_
    refine va_sld hx hb hX hbl hbA hS (by unfold vp_in; decide) dL_law_533 ?_
    refine xw_i (v := xs 6) rfl ?_
    refine lv_aload_n hx hb dL_law_534 rfl (lv_at hl 3 rfl) ?_
    refine lv_iload_n hx hb dL_law_535 rfl (lv_at hl 0 rfl) ?_
    refine lv_bipush (v := 7) hx hb dL_law_536 (by decide) ?_
    refine lv_iadd hx hb dL_law_538 ?_
    refine xw_i (v := 7) (by decide) ?_
    refine va_sld hx hb hX hbl hbA hS (by unfold vp_in; decide) dL_law_539 ?_
    refine xw_i (v := xs 7) rfl ?_
    refine lv_if_eq (tgt := 547) hx hb dL_law_540 (by decide) (fun c3 => ?_) (fun h => absurd (xi_ne h rfl (by decide) : (xs 7).toInt ≠ 0) (by omega))
    have ic3 := (xi_eq c3 rfl (by decide) : (xs 7).toInt = 0)
    refine lv_iconst (v := 0) hx hb dL_law_547 (by decide) ?_
    have hPc := hP.sub (ws' := [(mo, .inr (12, [.ref m_tape, .int 0, .int 0, .int 0, .int 0, .int 0, .int 0, .int 0, .int 0, .int (-1), .ref m_laws, .ref m_hasLaws, .int 0, .int 0, .ref m_clubOf, .ref m_first, .ref m_last, .ref m_pay, .ref m_rise, .ref m_sure, .ref m_hasChoice, .ref m_isTaken, .ref m_isHurt, .ref m_dead, .ref m_usedSpare, .ref m_owner, .ref m_giver, .ref m_guarded, .ref m_drawnOf, .ref m_drawnTo, .int 0, .int 0, .ref m_table, .int 0, .ref m_moved, .ref m_from, .ref m_to, .ref m_guard, .ref m_worths, .ref m_ringClub, .ref m_ringGives, .int 0, .ref m_triedClub, .ref m_triedGives, .int 0, .int 0, .ref m_toldClub, .ref m_toldGives, .ref m_isOut, .ref m_purse, .int 0]))]) [2] rfl
    have hKc := hK.sub (tys' := []) [] rfl
    refine vp_callSi (W.runV (As := [.int (xs 1), .int (xs 2), .int (xs 3), .int (xs 4), .int (xs 5), .int (xs 6), .int 0]) (rest := [.int (-2)]) ⟨hx, hb, hml, hown, hts⟩ (mX_sign l dC dI ([(mo, .inr (12, [.ref m_tape, .int 0, .int 0, .int 0, .int 0, .int 0, .int 0, .int 0, .int 0, .int (-1), .ref m_laws, .ref m_hasLaws, .int 0, .int 0, .ref m_clubOf, .ref m_first, .ref m_last, .ref m_pay, .ref m_rise, .ref m_sure, .ref m_hasChoice, .ref m_isTaken, .ref m_isHurt, .ref m_dead, .ref m_usedSpare, .ref m_owner, .ref m_giver, .ref m_guarded, .ref m_drawnOf, .ref m_drawnTo, .int 0, .int 0, .ref m_table, .int 0, .ref m_moved, .ref m_from, .ref m_to, .ref m_guard, .ref m_worths, .ref m_ringClub, .ref m_ringGives, .int 0, .ref m_triedClub, .ref m_triedGives, .int 0, .int 0, .ref m_toldClub, .ref m_toldGives, .ref m_isOut, .ref m_purse, .int 0]))]) ([]) 0 rfl (xs 1) ((xs 1).toInt) rfl (xs 2) ((xs 2).toInt) rfl (xs 3) ((xs 3).toInt) rfl (xs 4) ((xs 4).toInt) rfl (xs 5) ((xs 5).toInt) rfl (xs 6) ((xs 6).toInt) rfl 0 (0) (by decide)) (cwV 7 hts gL_law_X12_sign rfl rfl rfl (by decide +kernel) ⟨Nat.le_of_ble_eq_true rfl, Nat.le_of_ble_eq_true rfl⟩) ⟨xR_blind _ _ _ _, va_recv hKc hPc (ci := 12) (q0 := 0) rfl rfl, xR_pre _ hE hKc hPc⟩ rfl rfl hl.1 rfl (lv_room (Nat.le_of_ble_eq_true rfl)) dL_law_548 ⟨Nat.le_of_ble_eq_true rfl, Nat.le_of_ble_eq_true rfl⟩) (fun rh4 h4 => ?_)
    obtain ⟨rfl, h4⟩ := h4
    refine lv_icmp_eq (tgt := 1242) hx hb dL_law_551 (by decide) (fun _ => ?_) (fun h => absurd (by first | rfl | (exfalso; omega)) h)
    refine lv_iinc (v := 8) (lv' := [(3, .int 8), (2, .ref mo), (1, .ref cp), (0, .ref b)]) hx hb dL_law_1242 hl (k := 0) rfl (by decide) (by decide) rfl (fun ls hl => ?_)
    refine lv_goto (tgt := 18) hx hb dL_law_1245 (by decide) ?_
    refine lv_iload_n hx hb dL_law_18 rfl (lv_at hl 0 rfl) ?_
    refine lv_aload_n hx hb dL_law_19 rfl (lv_at hl 3 rfl) ?_
    refine va_slen hx hb hX hbl hbA hS dL_law_20 ?_
    refine xw_i (v := 8) rfl ?_
    refine lv_bipush (v := 8) hx hb dL_law_21 (by decide) ?_
    refine lv_isub hx hb dL_law_23 ?_
    refine xw_i (v := 0) (by decide) ?_
    refine lv_icmp_gt (tgt := 1248) hx hb dL_law_24 (by decide) (fun _ => ?_) (fun h => absurd (by decide) h)
    refine lv_iconst (v := 1) hx hb dL_law_1248 (by decide) ?_
    refine va_forget (fun q hq => by have h9 := hS.2.2 q hq; rw [← hAe] at h9; exact h9) ?_
    refine W.widen (k := 600000) (n := 7302250) (by decide) (by decide) ?_
    exact lw_ret hx hb hr hlocks dL_law_1249
  · have ic1 := (xi_ne c1 rfl (by decide) : (xs 7).toInt ≠ 0)
    refine lv_iconst (v := 1) hx hb dL_law_494 (by decide) ?_
    refine lv_goto (tgt := 499) hx hb dL_law_495 (by decide) ?_
    have hPc := hP.sub (ws' := [(cp, .inr (11, [.ref tp, .ref lb, .ref rd, .ref bk, .ref tn, .ref td, .ref rg, .ref dr])), (bk, .inr (0, [.ref lb, .ref pl, .int 0, .int 0, .ref de, .ref su, .ref fi, .int 0, .ref ac]))]) [0, 1] rfl
    have hKc := hK.sub (tys' := []) [] rfl
    refine vp_callSi (W.runV (As := [.int (xs 1), .int (xs 2), .int (xs 3), .int (xs 4), .int (xs 5), .int (xs 6), .int 1]) (rest := []) ⟨hx, hb, hml, hown, hts⟩ (aX_sign l dC dI ([(cp, .inr (11, [.ref tp, .ref lb, .ref rd, .ref bk, .ref tn, .ref td, .ref rg, .ref dr])), (bk, .inr (0, [.ref lb, .ref pl, .int 0, .int 0, .ref de, .ref su, .ref fi, .int 0, .ref ac]))]) ([]) 0 rfl 1 rfl (xs 1) ((xs 1).toInt) rfl (xs 2) ((xs 2).toInt) rfl (xs 3) ((xs 3).toInt) rfl (xs 4) ((xs 4).toInt) rfl (xs 5) ((xs 5).toInt) rfl (xs 6) ((xs 6).toInt) rfl 1 (1) (by decide)) (cwV 7 hts gL_law_X11_sign rfl rfl rfl (by decide +kernel) ⟨Nat.le_of_ble_eq_true rfl, Nat.le_of_ble_eq_true rfl⟩) ⟨xR_blind _ _ _ _, va_recv hKc hPc (ci := 11) (q0 := 0) rfl rfl, xR_pre _ hE hKc hPc⟩ rfl rfl hl.1 rfl (lv_room (Nat.le_of_ble_eq_true rfl)) dL_law_499 ⟨Nat.le_of_ble_eq_true rfl, Nat.le_of_ble_eq_true rfl⟩) (fun rh6 h6 => ?_)
    obtain ⟨rfl, h6⟩ := h6
    refine lv_aload_n hx hb dL_law_502 rfl (lv_at hl 1 rfl) ?_
    refine lv_aload_n hx hb dL_law_503 rfl (lv_at hl 3 rfl) ?_
    refine lv_iload_n hx hb dL_law_504 rfl (lv_at hl 0 rfl) ?_
    refine lv_iconst (v := 1) hx hb dL_law_505 (by decide) ?_
    refine lv_iadd hx hb dL_law_506 ?_
    refine xw_i (v := 1) (by decide) ?_
    refine va_sld hx hb hX hbl hbA hS (by unfold vp_in; decide) dL_law_507 ?_
    refine xw_i (v := xs 1) rfl ?_
    refine lv_aload_n hx hb dL_law_508 rfl (lv_at hl 3 rfl) ?_
    refine lv_iload_n hx hb dL_law_509 rfl (lv_at hl 0 rfl) ?_
    refine lv_iconst (v := 2) hx hb dL_law_510 (by decide) ?_
    refine lv_iadd hx hb dL_law_511 ?_
    refine xw_i (v := 2) (by decide) ?_
    refine va_sld hx hb hX hbl hbA hS (by unfold vp_in; decide) dL_law_512 ?_
    refine xw_i (v := xs 2) rfl ?_
    refine lv_aload_n hx hb dL_law_513 rfl (lv_at hl 3 rfl) ?_
    refine lv_iload_n hx hb dL_law_514 rfl (lv_at hl 0 rfl) ?_
    refine lv_iconst (v := 3) hx hb dL_law_515 (by decide) ?_
    refine lv_iadd hx hb dL_law_516 ?_
    refine xw_i (v := 3) (by decide) ?_
    refine va_sld hx hb hX hbl hbA hS (by unfold vp_in; decide) dL_law_517 ?_
    refine xw_i (v := xs 3) rfl ?_
    refine lv_aload_n hx hb dL_law_518 rfl (lv_at hl 3 rfl) ?_
    refine lv_iload_n hx hb dL_law_519 rfl (lv_at hl 0 rfl) ?_
    refine lv_iconst (v := 4) hx hb dL_law_520 (by decide) ?_
    refine lv_iadd hx hb dL_law_521 ?_
    refine xw_i (v := 4) (by decide) ?_
    refine va_sld hx hb hX hbl hbA hS (by unfold vp_in; decide) dL_law_522 ?_
    refine xw_i (v := xs 4) rfl ?_
    refine lv_aload_n hx hb dL_law_523 rfl (lv_at hl 3 rfl) ?_
    refine lv_iload_n hx hb dL_law_524 rfl (lv_at hl 0 rfl) ?_
    refine lv_iconst (v := 5) hx hb dL_law_525 (by decide) ?_
    refine lv_iadd hx hb dL_law_526 ?_
    refine xw_i (v := 5) (by decide) ?_
    refine va_sld hx hb hX hbl hbA hS (by unfold vp_in; decide) dL_law_527 ?_
    refine xw_i (v := xs 5) rfl ?_
    refine lv_aload_n hx hb dL_law_528 rfl (lv_at hl 3 rfl) ?_
    refine lv_iload_n hx hb dL_law_529 rfl (lv_at hl 0 rfl) ?_
    refine lv_bipush (v := 6) hx hb dL_law_530 (by decide) ?_
    refine lv_iadd hx hb dL_law_532 ?_
    refine xw_i (v := 6) (by decide) ?_
    refine va_sld hx hb hX hbl hbA hS (by unfold vp_in; decide) dL_law_533 ?_
    refine xw_i (v := xs 6) rfl ?_
    refine lv_aload_n hx hb dL_law_534 rfl (lv_at hl 3 rfl) ?_
    refine lv_iload_n hx hb dL_law_535 rfl (lv_at hl 0 rfl) ?_
    refine lv_bipush (v := 7) hx hb dL_law_536 (by decide) ?_
    refine lv_iadd hx hb dL_law_538 ?_
    refine xw_i (v := 7) (by decide) ?_
    refine va_sld hx hb hX hbl hbA hS (by unfold vp_in; decide) dL_law_539 ?_
    refine xw_i (v := xs 7) rfl ?_
    refine lv_if_eq (tgt := 547) hx hb dL_law_540 (by decide) (fun c7 => ?_) (fun c7 => ?_)
    · have ic7 := (xi_eq c7 rfl (by decide) : (xs 7).toInt = 0)
      refine lv_iconst (v := 0) hx hb dL_law_547 (by decide) ?_
      have hPc := hP.sub (ws' := [(mo, .inr (12, [.ref m_tape, .int 0, .int 0, .int 0, .int 0, .int 0, .int 0, .int 0, .int 0, .int (-1), .ref m_laws, .ref m_hasLaws, .int 0, .int 0, .ref m_clubOf, .ref m_first, .ref m_last, .ref m_pay, .ref m_rise, .ref m_sure, .ref m_hasChoice, .ref m_isTaken, .ref m_isHurt, .ref m_dead, .ref m_usedSpare, .ref m_owner, .ref m_giver, .ref m_guarded, .ref m_drawnOf, .ref m_drawnTo, .int 0, .int 0, .ref m_table, .int 0, .ref m_moved, .ref m_from, .ref m_to, .ref m_guard, .ref m_worths, .ref m_ringClub, .ref m_ringGives, .int 0, .ref m_triedClub, .ref m_triedGives, .int 0, .int 0, .ref m_toldClub, .ref m_toldGives, .ref m_isOut, .ref m_purse, .int 0]))]) [2] rfl
      have hKc := hK.sub (tys' := []) [] rfl
      refine vp_callSi (W.runV (As := [.int (xs 1), .int (xs 2), .int (xs 3), .int (xs 4), .int (xs 5), .int (xs 6), .int 0]) (rest := [.int (-2)]) ⟨hx, hb, hml, hown, hts⟩ (mX_sign l dC dI ([(mo, .inr (12, [.ref m_tape, .int 0, .int 0, .int 0, .int 0, .int 0, .int 0, .int 0, .int 0, .int (-1), .ref m_laws, .ref m_hasLaws, .int 0, .int 0, .ref m_clubOf, .ref m_first, .ref m_last, .ref m_pay, .ref m_rise, .ref m_sure, .ref m_hasChoice, .ref m_isTaken, .ref m_isHurt, .ref m_dead, .ref m_usedSpare, .ref m_owner, .ref m_giver, .ref m_guarded, .ref m_drawnOf, .ref m_drawnTo, .int 0, .int 0, .ref m_table, .int 0, .ref m_moved, .ref m_from, .ref m_to, .ref m_guard, .ref m_worths, .ref m_ringClub, .ref m_ringGives, .int 0, .ref m_triedClub, .ref m_triedGives, .int 0, .int 0, .ref m_toldClub, .ref m_toldGives, .ref m_isOut, .ref m_purse, .int 0]))]) ([]) 0 rfl (xs 1) ((xs 1).toInt) rfl (xs 2) ((xs 2).toInt) rfl (xs 3) ((xs 3).toInt) rfl (xs 4) ((xs 4).toInt) rfl (xs 5) ((xs 5).toInt) rfl (xs 6) ((xs 6).toInt) rfl 0 (0) (by decide)) (cwV 7 hts gL_law_X12_sign rfl rfl rfl (by decide +kernel) ⟨Nat.le_of_ble_eq_true rfl, Nat.le_of_ble_eq_true rfl⟩) ⟨xR_blind _ _ _ _, va_recv hKc hPc (ci := 12) (q0 := 0) rfl rfl, xR_pre _ hE hKc hPc⟩ rfl rfl hl.1 rfl (lv_room (Nat.le_of_ble_eq_true rfl)) dL_law_548 ⟨Nat.le_of_ble_eq_true rfl, Nat.le_of_ble_eq_true rfl⟩) (fun rh8 h8 => ?_)
      obtain ⟨rfl, h8⟩ := h8
      refine lv_icmp_eq (tgt := 1242) hx hb dL_law_551 (by decide) (fun _ => ?_) (fun h => absurd (by first | rfl | (exfalso; omega)) h)
      refine lv_iinc (v := 8) (lv' := [(3, .int 8), (2, .ref mo), (1, .ref cp), (0, .ref b)]) hx hb dL_law_1242 hl (k := 0) rfl (by decide) (by decide) rfl (fun ls hl => ?_)
      refine lv_goto (tgt := 18) hx hb dL_law_1245 (by decide) ?_
      refine lv_iload_n hx hb dL_law_18 rfl (lv_at hl 0 rfl) ?_
      refine lv_aload_n hx hb dL_law_19 rfl (lv_at hl 3 rfl) ?_
      refine va_slen hx hb hX hbl hbA hS dL_law_20 ?_
      refine xw_i (v := 8) rfl ?_
      refine lv_bipush (v := 8) hx hb dL_law_21 (by decide) ?_
      refine lv_isub hx hb dL_law_23 ?_
      refine xw_i (v := 0) (by decide) ?_
      refine lv_icmp_gt (tgt := 1248) hx hb dL_law_24 (by decide) (fun _ => ?_) (fun h => absurd (by decide) h)
      refine lv_iconst (v := 1) hx hb dL_law_1248 (by decide) ?_
      refine va_forget (fun q hq => by have h9 := hS.2.2 q hq; rw [← hAe] at h9; exact h9) ?_
      refine W.widen (k := 600000) (n := 7302250) (by decide) (by decide) ?_
      exact lw_ret hx hb hr hlocks dL_law_1249
    · have ic7 := (xi_ne c7 rfl (by decide) : (xs 7).toInt ≠ 0)
      refine lv_iconst (v := 1) hx hb dL_law_543 (by decide) ?_
      refine lv_goto (tgt := 548) hx hb dL_law_544 (by decide) ?_
      have hPc := hP.sub (ws' := [(mo, .inr (12, [.ref m_tape, .int 0, .int 0, .int 0, .int 0, .int 0, .int 0, .int 0, .int 0, .int (-1), .ref m_laws, .ref m_hasLaws, .int 0, .int 0, .ref m_clubOf, .ref m_first, .ref m_last, .ref m_pay, .ref m_rise, .ref m_sure, .ref m_hasChoice, .ref m_isTaken, .ref m_isHurt, .ref m_dead, .ref m_usedSpare, .ref m_owner, .ref m_giver, .ref m_guarded, .ref m_drawnOf, .ref m_drawnTo, .int 0, .int 0, .ref m_table, .int 0, .ref m_moved, .ref m_from, .ref m_to, .ref m_guard, .ref m_worths, .ref m_ringClub, .ref m_ringGives, .int 0, .ref m_triedClub, .ref m_triedGives, .int 0, .int 0, .ref m_toldClub, .ref m_toldGives, .ref m_isOut, .ref m_purse, .int 0]))]) [2] rfl
      have hKc := hK.sub (tys' := []) [] rfl
      refine vp_callSi (W.runV (As := [.int (xs 1), .int (xs 2), .int (xs 3), .int (xs 4), .int (xs 5), .int (xs 6), .int 1]) (rest := [.int (-2)]) ⟨hx, hb, hml, hown, hts⟩ (mX_sign l dC dI ([(mo, .inr (12, [.ref m_tape, .int 0, .int 0, .int 0, .int 0, .int 0, .int 0, .int 0, .int 0, .int (-1), .ref m_laws, .ref m_hasLaws, .int 0, .int 0, .ref m_clubOf, .ref m_first, .ref m_last, .ref m_pay, .ref m_rise, .ref m_sure, .ref m_hasChoice, .ref m_isTaken, .ref m_isHurt, .ref m_dead, .ref m_usedSpare, .ref m_owner, .ref m_giver, .ref m_guarded, .ref m_drawnOf, .ref m_drawnTo, .int 0, .int 0, .ref m_table, .int 0, .ref m_moved, .ref m_from, .ref m_to, .ref m_guard, .ref m_worths, .ref m_ringClub, .ref m_ringGives, .int 0, .ref m_triedClub, .ref m_triedGives, .int 0, .int 0, .ref m_toldClub, .ref m_toldGives, .ref m_isOut, .ref m_purse, .int 0]))]) ([]) 0 rfl (xs 1) ((xs 1).toInt) rfl (xs 2) ((xs 2).toInt) rfl (xs 3) ((xs 3).toInt) rfl (xs 4) ((xs 4).toInt) rfl (xs 5) ((xs 5).toInt) rfl (xs 6) ((xs 6).toInt) rfl 1 (1) (by decide)) (cwV 7 hts gL_law_X12_sign rfl rfl rfl (by decide +kernel) ⟨Nat.le_of_ble_eq_true rfl, Nat.le_of_ble_eq_true rfl⟩) ⟨xR_blind _ _ _ _, va_recv hKc hPc (ci := 12) (q0 := 0) rfl rfl, xR_pre _ hE hKc hPc⟩ rfl rfl hl.1 rfl (lv_room (Nat.le_of_ble_eq_true rfl)) dL_law_548 ⟨Nat.le_of_ble_eq_true rfl, Nat.le_of_ble_eq_true rfl⟩) (fun rh10 h10 => ?_)
      obtain ⟨rfl, h10⟩ := h10
      refine lv_icmp_eq (tgt := 1242) hx hb dL_law_551 (by decide) (fun _ => ?_) (fun h => absurd (by first | rfl | (exfalso; omega)) h)
      refine lv_iinc (v := 8) (lv' := [(3, .int 8), (2, .ref mo), (1, .ref cp), (0, .ref b)]) hx hb dL_law_1242 hl (k := 0) rfl (by decide) (by decide) rfl (fun ls hl => ?_)
      refine lv_goto (tgt := 18) hx hb dL_law_1245 (by decide) ?_
      refine lv_iload_n hx hb dL_law_18 rfl (lv_at hl 0 rfl) ?_
      refine lv_aload_n hx hb dL_law_19 rfl (lv_at hl 3 rfl) ?_
      refine va_slen hx hb hX hbl hbA hS dL_law_20 ?_
      refine xw_i (v := 8) rfl ?_
      refine lv_bipush (v := 8) hx hb dL_law_21 (by decide) ?_
      refine lv_isub hx hb dL_law_23 ?_
      refine xw_i (v := 0) (by decide) ?_
      refine lv_icmp_gt (tgt := 1248) hx hb dL_law_24 (by decide) (fun _ => ?_) (fun h => absurd (by decide) h)
      refine lv_iconst (v := 1) hx hb dL_law_1248 (by decide) ?_
      refine va_forget (fun q hq => by have h9 := hS.2.2 q hq; rw [← hAe] at h9; exact h9) ?_
      refine W.widen (k := 600000) (n := 7302250) (by decide) (by decide) ?_
      exact lw_ret hx hb hr hlocks dL_law_1249
