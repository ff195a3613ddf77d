set_option maxHeartbeats 4000000 in
set_option maxRecDepth 100000 in
theorem wX4_token (l : Launch) (dC : Nat → ClassId) (dI : Nat → Nat → Nat) (rd tp lr by_ : Nat)  (sz : Nat)    : Met l yX4_readToken wsX4_readToken ({ frames := 2, cells := 0, slots := 0, locals := 128 }) (va_Pc [.ref rd] (xW (dC, dI) [] [(rd, .inr (4, [.ref tp, .ref lr, .int 0, .int (-1), .int 0, .int 0, .int 0, .int 0, .int 0])), (tp, .inr (8, [.ref by_, .int 0]))] sz)) (va_Qv (fun (_ : Unit) => True) (fun (_ : Unit) t => va_P (dC, dI) vwCl [(rd, .inr (4, [.ref tp, .ref lr, .int 0, .int (-1), .int 0, .int 0, .int 0, .int 0, .int 0])), (tp, .inr (8, [.ref by_, .int 0]))] t.heap ∧ va_K (dC, dI) vwCl [] t ∧ va_D (va_A [(rd, .inr (4, [.ref tp, .ref lr, .int 0, .int (-1), .int 0, .int 0, .int 0, .int 0, .int 0])), (tp, .inr (8, [.ref by_, .int 0]))] sz) [(rd, .inr (4, [.ref tp, .ref lr, .int 0, .int (-1), .int 0, .int 0, .int 0, .int 0, .int 0])), (tp, .inr (8, [.ref by_, .int 0]))]) (va_A [(rd, .inr (4, [.ref tp, .ref lr, .int 0, .int (-1), .int 0, .int 0, .int 0, .int 0, .int 0])), (tp, .inr (8, [.ref by_, .int 0]))] sz)) 0 0 (va_A [(rd, .inr (4, [.ref tp, .ref lr, .int 0, .int (-1), .int 0, .int 0, .int 0, .int 0, .int 0])), (tp, .inr (8, [.ref by_, .int 0]))] sz) := by
  refine Met.ofW (cc := cX4_readToken) (maxL := 2) (ret := none) (by decide) rfl ?_
  intro pr_ ev_ s m args below meth cd_ s₁ B hml hv
  obtain ⟨rfl, hE, hsz, hK, hP, hD0⟩ := hv
  have hx := B.exec
  have hb := B.bytes
  have hr := B.returns
  have hts := atoms_spec (ws := wsX4_readToken) B.pre
  have hown : s.vm.findClass RX4 = some m.cls := findClass_of_methodNamed B.named
  have hlocks := B.notSynchronized
  subst hsz
  have hD := hD0.self (sz := s.heap.size)
  generalize hAe : va_A [(rd, .inr (4, [.ref tp, .ref lr, .int 0, .int (-1), .int 0, .int 0, .int 0, .int 0, .int 0])), (tp, .inr (8, [.ref by_, .int 0]))] s.heap.size = A at hD ⊢
  have hA : ∀ q : Nat, s.heap.size ≤ q → A q := fun q h => by rw [← hAe]; exact Or.inr h
  have hS : va_S A s.heap s.heap [] := va_S.rf
  have iX4 : ∀ w ∈ u_ws RX4 TX4 9, w ∈ wsX4_readToken := by decide +kernel
  have iX8 : ∀ w ∈ u_ws RX8 TX8 2, w ∈ wsX4_readToken := by decide +kernel
  have hl := lv_entry ([.ref rd]) (n := 2) (Nat.le_of_ble_eq_true rfl)
  rw [lg_entry_eq]
  generalize (lg_sl ([.ref rd]) ++ List.replicate (2 - (lg_sl ([.ref rd])).length) Slot.unset).toArray = ls at hl ⊢
  have hl : lv_has ls 2 [(0, .ref rd)] := hl
  refine lv_aload_n hx hb dX4_readToken_0 rfl (lv_at hl 0 rfl) ?_
  refine lv_aload_n hx hb dX4_readToken_1 rfl (lv_at hl 0 rfl) ?_
  refine va_get (D := (dC, dI)) (ci := 4) (v := .int 0) (C := RX4) (T := TX4) (N := 9) hx hb hts iX4 hown hK hP 0 rfl rfl 6 (by decide) (hts (.fieldLink RX4 32 "CapLeague$LawReader" "behind" "I") (by decide +kernel)) (fun _ h9 => h9) rfl dX4_readToken_2 ?_
  refine va_put (D := (dC, dI)) (ci := 4) (v := .int 0) (ty := .int) (C := RX4) (T := TX4) (N := 9) hx hb hts iX4 tyX4 tyX4_ok nmX4 hown hK hP hD hS 0 rfl rfl 5 (by decide) (hts (.fieldLink RX4 84 "CapLeague$LawReader" "place" "I") (by decide +kernel)) (fun _ h9 => h9) rfl (by decide +kernel) rfl rfl (Nat.le_of_ble_eq_true rfl) dX4_readToken_5 (fun H locs hP hD hS => ?_)
  replace hP : va_P (dC, dI) vwCl [(rd, .inr (4, [.ref tp, .ref lr, .int 0, .int (-1), .int 0, .int 0, .int 0, .int 0, .int 0])), (tp, .inr (8, [.ref by_, .int 0]))] H := hP
  replace hD : va_D A [(rd, .inr (4, [.ref tp, .ref lr, .int 0, .int (-1), .int 0, .int 0, .int 0, .int 0, .int 0])), (tp, .inr (8, [.ref by_, .int 0]))] := hD
  refine lv_aload_n hx hb dX4_readToken_8 rfl (lv_at hl 0 rfl) ?_
  refine va_get (D := (dC, dI)) (ci := 4) (v := .int 0) (C := RX4) (T := TX4) (N := 9) hx hb hts iX4 hown hK hP 0 rfl rfl 5 (by decide) (hts (.fieldLink RX4 84 "CapLeague$LawReader" "place" "I") (by decide +kernel)) (fun _ h9 => h9) rfl dX4_readToken_9 ?_
  refine lv_aload_n hx hb dX4_readToken_12 rfl (lv_at hl 0 rfl) ?_
  refine va_get (D := (dC, dI)) (ci := 4) (v := .ref tp) (C := RX4) (T := TX4) (N := 9) hx hb hts iX4 hown hK hP 0 rfl rfl 0 (by decide) (hts (.fieldLink RX4 22 "CapLeague$LawReader" "tape" "LCapLeague$Tape;") (by decide +kernel)) (fun _ h9 => h9) rfl dX4_readToken_13 ?_
  refine va_get (D := (dC, dI)) (ci := 8) (v := .int 0) (C := RX8) (T := TX8) (N := 2) hx hb hts iX8 hown hK hP 1 rfl rfl 1 (by decide) (hts (.fieldLink RX4 87 "CapLeague$Tape" "size" "I") (by decide +kernel)) (fun _ h9 => h9) rfl dX4_readToken_16 ?_
  refine lv_icmp_ge (tgt := 52) hx hb dX4_readToken_19 (by decide) (fun _ => ?_) (fun h => absurd (by decide) h)
  refine lv_aload_n hx hb dX4_readToken_52 rfl (lv_at hl 0 rfl) ?_
  refine va_get (D := (dC, dI)) (ci := 4) (v := .ref tp) (C := RX4) (T := TX4) (N := 9) hx hb hts iX4 hown hK hP 0 rfl rfl 0 (by decide) (hts (.fieldLink RX4 22 "CapLeague$LawReader" "tape" "LCapLeague$Tape;") (by decide +kernel)) (fun _ h9 => h9) rfl dX4_readToken_53 ?_
  refine lv_aload_n hx hb dX4_readToken_56 rfl (lv_at hl 0 rfl) ?_
  refine va_get (D := (dC, dI)) (ci := 4) (v := .int 0) (C := RX4) (T := TX4) (N := 9) hx hb hts iX4 hown hK hP 0 rfl rfl 5 (by decide) (hts (.fieldLink RX4 84 "CapLeague$LawReader" "place" "I") (by decide +kernel)) (fun _ h9 => h9) rfl dX4_readToken_57 ?_
  refine vp_callSi (W.runV (As := [.int 0]) (rest := []) ⟨hx, hb, hml, hown, hts⟩ (rX8_at l dC dI ([(rd, .inr (4, [.ref tp, .ref lr, .int 0, .int (-1), .int 0, .int 0, .int 0, .int 0, .int 0])), (tp, .inr (8, [.ref by_, .int 0]))]) ([]) 1 rfl 0 (0) (by decide)) (cwV 1 hts gX4_readToken_X8_at rfl rfl rfl (by decide +kernel) ⟨Nat.le_of_ble_eq_true rfl, Nat.le_of_ble_eq_true rfl⟩) ⟨xR_blind _ _ _ _, va_recv hK hP (ci := 8) (q0 := 1) rfl rfl, xR_pre _ hE hK hP⟩ rfl rfl hl.1 rfl (lv_room (Nat.le_of_ble_eq_true rfl)) dX4_readToken_60 ⟨Nat.le_of_ble_eq_true rfl, Nat.le_of_ble_eq_true rfl⟩) (fun rh2 h2 => ?_)
  obtain ⟨rfl, h2⟩ := h2
  refine lv_istore_n (lv' := [(1, .int (-1)), (0, .ref rd)]) hx hb dX4_readToken_63 rfl hl (by decide) rfl (fun ls hl => ?_)
  refine lv_iload_n hx hb dX4_readToken_64 rfl (lv_at hl 0 rfl) ?_
  refine lv_iconst (v := (-1)) hx hb dX4_readToken_65 (by decide) ?_
  refine lv_icmp_ne (tgt := 85) hx hb dX4_readToken_66 (by decide) (fun h => absurd (by decide) h) (fun _ => ?_)
  refine lv_aload_n hx hb dX4_readToken_69 rfl (lv_at hl 1 rfl) ?_
  refine lv_iconst (v := 0) hx hb dX4_readToken_70 (by decide) ?_
  refine va_put (D := (dC, dI)) (ci := 4) (v := .int 0) (ty := .int) (C := RX4) (T := TX4) (N := 9) hx hb hts iX4 tyX4 tyX4_ok nmX4 hown hK hP hD hS 0 rfl rfl 4 (by decide) (hts (.fieldLink RX4 43 "CapLeague$LawReader" "kind" "I") (by decide +kernel)) (fun _ h9 => h9) rfl (by decide +kernel) rfl rfl (Nat.le_of_ble_eq_true rfl) dX4_readToken_71 (fun H locs hP hD hS => ?_)
  replace hP : va_P (dC, dI) vwCl [(rd, .inr (4, [.ref tp, .ref lr, .int 0, .int (-1), .int 0, .int 0, .int 0, .int 0, .int 0])), (tp, .inr (8, [.ref by_, .int 0]))] H := hP
  replace hD : va_D A [(rd, .inr (4, [.ref tp, .ref lr, .int 0, .int (-1), .int 0, .int 0, .int 0, .int 0, .int 0])), (tp, .inr (8, [.ref by_, .int 0]))] := hD
  refine lv_aload_n hx hb dX4_readToken_74 rfl (lv_at hl 1 rfl) ?_
  refine lv_aload_n hx hb dX4_readToken_75 rfl (lv_at hl 1 rfl) ?_
  refine va_get (D := (dC, dI)) (ci := 4) (v := .int 0) (C := RX4) (T := TX4) (N := 9) hx hb hts iX4 hown hK hP 0 rfl rfl 5 (by decide) (hts (.fieldLink RX4 84 "CapLeague$LawReader" "place" "I") (by decide +kernel)) (fun _ h9 => h9) rfl dX4_readToken_76 ?_
  refine va_put (D := (dC, dI)) (ci := 4) (v := .int 0) (ty := .int) (C := RX4) (T := TX4) (N := 9) hx hb hts iX4 tyX4 tyX4_ok nmX4 hown hK hP hD hS 0 rfl rfl 6 (by decide) (hts (.fieldLink RX4 32 "CapLeague$LawReader" "behind" "I") (by decide +kernel)) (fun _ h9 => h9) rfl (by decide +kernel) rfl rfl (Nat.le_of_ble_eq_true rfl) dX4_readToken_79 (fun H locs hP hD hS => ?_)
  replace hP : va_P (dC, dI) vwCl [(rd, .inr (4, [.ref tp, .ref lr, .int 0, .int (-1), .int 0, .int 0, .int 0, .int 0, .int 0])), (tp, .inr (8, [.ref by_, .int 0]))] H := hP
  replace hD : va_D A [(rd, .inr (4, [.ref tp, .ref lr, .int 0, .int (-1), .int 0, .int 0, .int 0, .int 0, .int 0])), (tp, .inr (8, [.ref by_, .int 0]))] := hD
  refine lv_goto (tgt := 138) hx hb dX4_readToken_82 (by decide) ?_
  have hP9 := hP.sub (ws' := [(rd, .inr (4, [.ref tp, .ref lr, .int 0, .int (-1), .int 0, .int 0, .int 0, .int 0, .int 0])), (tp, .inr (8, [.ref by_, .int 0]))]) [0, 1] rfl
  have hD9 := hD.sub (ws' := [(rd, .inr (4, [.ref tp, .ref lr, .int 0, .int (-1), .int 0, .int 0, .int 0, .int 0, .int 0])), (tp, .inr (8, [.ref by_, .int 0]))]) [0, 1] (by decide) rfl
  have hK9 := hK.sub (tys' := []) [] rfl
  exact W.vret hx hb hr (fun t ht hW => ⟨⟨(), rfl, trivial, ⟨by rw [ht]; exact hP9, va_K.moved hW.alike hK9, hD9⟩⟩, hS.F ht⟩) hS.2.2 dX4_readToken_138
set_option maxHeartbeats 4000000 in
set_option maxRecDepth 100000 in
theorem wX4_text (l : Launch) (dC : Nat → ClassId) (dI : Nat → Nat → Nat) (rd tp lr by_ nu lo : Nat) (kn kl : ClassId) (g1 : Nat → Int32) (g2 : Nat → Int32) (sz : Nat) (tU : Nat)    : Met l yX4_readText wsX4_readText ({ frames := 3, cells := 0, slots := 0, locals := 192 }) (va_Pc [.ref rd] (xWU (dC, dI) [(kn, .int), (kl, .int)] [(rd, .inr (4, [.ref tp, .ref lr, .int 0, .int (-1), .int 0, .int 0, .int 0, .int 0, .int 0])), (tp, .inr (8, [.ref by_, .int 0])), (lr, .inr (5, [.ref nu, .ref lo, .int 1])), (nu, .inl (kn, 8, .inl g1)), (lo, .inl (kl, 6, .inl g2))] sz tU)) (va_Qi (fun r (_ : Unit) => (r = 0 ∧ True)) (fun (_ : Unit) t => ∃ (fn fl : Nat → Int32), va_P (dC, dI) vwCl [(rd, .inr (4, [.ref tp, .ref lr, .int 0, .int (-1), .int 0, .int 0, .int 0, .int 0, .int 0])), (tp, .inr (8, [.ref by_, .int 0])), (lr, .inr (5, [.ref nu, .ref lo, .int 1])), (nu, .inl (kn, 8, .inl fn)), (lo, .inl (kl, 6, .inl fl))] t.heap ∧ va_K (dC, dI) vwCl [(kn, .int), (kl, .int)] t ∧ va_D (va_A [(rd, .inr (4, [.ref tp, .ref lr, .int 0, .int (-1), .int 0, .int 0, .int 0, .int 0, .int 0])), (tp, .inr (8, [.ref by_, .int 0])), (lr, .inr (5, [.ref nu, .ref lo, .int 1])), (nu, .inl (kn, 8, .inl g1)), (lo, .inl (kl, 6, .inl g2))] sz) [(rd, .inr (4, [.ref tp, .ref lr, .int 0, .int (-1), .int 0, .int 0, .int 0, .int 0, .int 0])), (tp, .inr (8, [.ref by_, .int 0])), (lr, .inr (5, [.ref nu, .ref lo, .int 1])), (nu, .inl (kn, 8, .inl fn)), (lo, .inl (kl, 6, .inl fl))]) (va_A [(rd, .inr (4, [.ref tp, .ref lr, .int 0, .int (-1), .int 0, .int 0, .int 0, .int 0, .int 0])), (tp, .inr (8, [.ref by_, .int 0])), (lr, .inr (5, [.ref nu, .ref lo, .int 1])), (nu, .inl (kn, 8, .inl g1)), (lo, .inl (kl, 6, .inl g2))] sz)) 0 0 (va_A [(rd, .inr (4, [.ref tp, .ref lr, .int 0, .int (-1), .int 0, .int 0, .int 0, .int 0, .int 0])), (tp, .inr (8, [.ref by_, .int 0])), (lr, .inr (5, [.ref nu, .ref lo, .int 1])), (nu, .inl (kn, 8, .inl g1)), (lo, .inl (kl, 6, .inl g2))] sz) := by
  refine Met.ofW (cc := cX4_readText) (maxL := 2) (ret := (some .int)) (by decide) rfl ?_
  intro pr_ ev_ s m args below meth cd_ s₁ B hml hv
  obtain ⟨rfl, ⟨hE, hsz, hK, hP, hD0⟩, hU⟩ := hv
  have hx := B.exec
  have hb := B.bytes
  have hr := B.returns
  have hts := atoms_spec (ws := wsX4_readText) B.pre
  have hown : s.vm.findClass RX4 = some m.cls := findClass_of_methodNamed B.named
  have hlocks := B.notSynchronized
  subst hsz
  have hD := hD0.self (sz := s.heap.size)
  generalize hAe : va_A [(rd, .inr (4, [.ref tp, .ref lr, .int 0, .int (-1), .int 0, .int 0, .int 0, .int 0, .int 0])), (tp, .inr (8, [.ref by_, .int 0])), (lr, .inr (5, [.ref nu, .ref lo, .int 1])), (nu, .inl (kn, 8, .inl g1)), (lo, .inl (kl, 6, .inl g2))] s.heap.size = A at hD hU ⊢
  have hA : ∀ q : Nat, s.heap.size ≤ q → A q := fun q h => by rw [← hAe]; exact Or.inr h
  have hS : va_S A s.heap s.heap [] := va_S.rf
  have iX4 : ∀ w ∈ u_ws RX4 TX4 9, w ∈ wsX4_readText := by decide +kernel
  have hl := lv_entry ([.ref rd]) (n := 2) (Nat.le_of_ble_eq_true rfl)
  rw [lg_entry_eq]
  generalize (lg_sl ([.ref rd]) ++ List.replicate (2 - (lg_sl ([.ref rd])).length) Slot.unset).toArray = ls at hl ⊢
  have hl : lv_has ls 2 [(0, .ref rd)] := hl
  refine lv_aload_n hx hb dX4_readText_0 rfl (lv_at hl 0 rfl) ?_
  refine va_get (D := (dC, dI)) (ci := 4) (v := .ref lr) (C := RX4) (T := TX4) (N := 9) hx hb hts iX4 hown hK hP 0 rfl rfl 1 (by decide) (hts (.fieldLink RX4 12 "CapLeague$LawReader" "read" "LCapLeague$Laws;") (by decide +kernel)) (fun _ h9 => h9) rfl dX4_readText_1 ?_
  have hPc := hP.sub (ws' := [(lr, .inr (5, [.ref nu, .ref lo, .int 1])), (nu, .inl (kn, 8, .inl g1)), (lo, .inl (kl, 6, .inl g2))]) [2, 3, 4] rfl
  have hDc := hD.sub (ws' := [(lr, .inr (5, [.ref nu, .ref lo, .int 1])), (nu, .inl (kn, 8, .inl g1)), (lo, .inl (kl, 6, .inl g2))]) [2, 3, 4] (by decide) rfl
  have hKc := hK.sub (tys' := [(kn, .int), (kl, .int)]) [0, 1] rfl
  have hFc := va_free (wc := [(lr, .inr (5, [.ref nu, .ref lo, .int 1])), (nu, .inl (kn, 8, .inl g1)), (lo, .inl (kl, 6, .inl g2))]) hD hS hA [2, 3, 4] rfl
  refine va_callv (va_runV (As := []) (rest := []) ⟨hx, hb, hml, hown, hts⟩ (cX5_reset_ l dC dI lr nu lo kn kl g1 g2 1 (1) (by decide) _ tU) (cwV 0 hts gX4_readText_X5_reset rfl rfl rfl (by decide +kernel) ⟨Nat.le_of_ble_eq_true rfl, Nat.le_of_ble_eq_true rfl⟩) ⟨xWU_blind _ _ _ _ _ _, va_recv hKc hPc (ci := 5) (q0 := 0) rfl rfl, xWU_pre _ hE hKc hPc hDc hU hS hFc⟩ rfl rfl hl.1 rfl (lv_room (Nat.le_of_ble_eq_true rfl)) dX4_readText_4 ⟨Nat.le_of_ble_eq_true rfl, Nat.le_of_ble_eq_true rfl⟩) hS (fun q _ h => hFc q h) hFc (fun u t H1 locs ht hvm h1 hB hz1 hk1 hS => ?_)
  obtain ⟨fn_2, fl_3, h1_0, h1_1, h1_2, h1_3, h1_4, h1_5, h1_6, h1_7, h1_8, hP1, hK1, hD1⟩ := hB
  rw [ht] at hP1
  have hK1 := va_K.moved hvm.symm hK1
  obtain ⟨hP, hD⟩ := va_join (wr := [(rd, .inr (4, [.ref tp, .ref lr, .int 0, .int (-1), .int 0, .int 0, .int 0, .int 0, .int 0])), (tp, .inr (8, [.ref by_, .int 0]))]) (w1 := [(lr, .inr (5, [.ref nu, .ref lo, .int 1])), (nu, .inl (kn, 8, .inl fn_2)), (lo, .inl (kl, 6, .inl fl_3))]) hP hD [2, 3, 4] [0, 1] rfl rfl (by decide) (by decide) hk1 hFc hP1 hD1
  replace hK := hK.app hK1
  generalize H1 = H at hP hS ⊢
  replace hP : va_P (dC, dI) vwCl [(rd, .inr (4, [.ref tp, .ref lr, .int 0, .int (-1), .int 0, .int 0, .int 0, .int 0, .int 0])), (tp, .inr (8, [.ref by_, .int 0])), (lr, .inr (5, [.ref nu, .ref lo, .int 1])), (nu, .inl (kn, 8, .inl fn_2)), (lo, .inl (kl, 6, .inl fl_3))] H := hP
  replace hD : va_D A [(rd, .inr (4, [.ref tp, .ref lr, .int 0, .int (-1), .int 0, .int 0, .int 0, .int 0, .int 0])), (tp, .inr (8, [.ref by_, .int 0])), (lr, .inr (5, [.ref nu, .ref lo, .int 1])), (nu, .inl (kn, 8, .inl fn_2)), (lo, .inl (kl, 6, .inl fl_3))] := hD
  replace hK : va_K (dC, dI) vwCl [(kn, .int), (kl, .int), (kn, .int), (kl, .int)] s := hK
  refine W.cs (cells' := 0) (slots' := 0) rfl rfl ?_
  refine lv_aload_n hx hb dX4_readText_7 rfl (lv_at hl 0 rfl) ?_
  refine lv_iconst (v := 0) hx hb dX4_readText_8 (by decide) ?_
  refine va_put (D := (dC, dI)) (ci := 4) (v := .int 0) (ty := .int) (C := RX4) (T := TX4) (N := 9) hx hb hts iX4 tyX4 tyX4_ok nmX4 hown hK hP hD hS 0 rfl rfl 2 (by decide) (hts (.fieldLink RX4 29 "CapLeague$LawReader" "faultKind" "I") (by decide +kernel)) (fun _ h9 => h9) rfl (by decide +kernel) rfl rfl (Nat.le_of_ble_eq_true rfl) dX4_readText_9 (fun H locs hP hD hS => ?_)
  replace hP : va_P (dC, dI) vwCl [(rd, .inr (4, [.ref tp, .ref lr, .int 0, .int (-1), .int 0, .int 0, .int 0, .int 0, .int 0])), (tp, .inr (8, [.ref by_, .int 0])), (lr, .inr (5, [.ref nu, .ref lo, .int 1])), (nu, .inl (kn, 8, .inl fn_2)), (lo, .inl (kl, 6, .inl fl_3))] H := hP
  replace hD : va_D A [(rd, .inr (4, [.ref tp, .ref lr, .int 0, .int (-1), .int 0, .int 0, .int 0, .int 0, .int 0])), (tp, .inr (8, [.ref by_, .int 0])), (lr, .inr (5, [.ref nu, .ref lo, .int 1])), (nu, .inl (kn, 8, .inl fn_2)), (lo, .inl (kl, 6, .inl fl_3))] := hD
  refine lv_aload_n hx hb dX4_readText_12 rfl (lv_at hl 0 rfl) ?_
  refine lv_iconst (v := (-1)) hx hb dX4_readText_13 (by decide) ?_
  refine va_put (D := (dC, dI)) (ci := 4) (v := .int (-1)) (ty := .int) (C := RX4) (T := TX4) (N := 9) hx hb hts iX4 tyX4 tyX4_ok nmX4 hown hK hP hD hS 0 rfl rfl 3 (by decide) (hts (.fieldLink RX4 18 "CapLeague$LawReader" "faultPlace" "I") (by decide +kernel)) (fun _ h9 => h9) rfl (by decide +kernel) rfl rfl (Nat.le_of_ble_eq_true rfl) dX4_readText_14 (fun H locs hP hD hS => ?_)
  replace hP : va_P (dC, dI) vwCl [(rd, .inr (4, [.ref tp, .ref lr, .int 0, .int (-1), .int 0, .int 0, .int 0, .int 0, .int 0])), (tp, .inr (8, [.ref by_, .int 0])), (lr, .inr (5, [.ref nu, .ref lo, .int 1])), (nu, .inl (kn, 8, .inl fn_2)), (lo, .inl (kl, 6, .inl fl_3))] H := hP
  replace hD : va_D A [(rd, .inr (4, [.ref tp, .ref lr, .int 0, .int (-1), .int 0, .int 0, .int 0, .int 0, .int 0])), (tp, .inr (8, [.ref by_, .int 0])), (lr, .inr (5, [.ref nu, .ref lo, .int 1])), (nu, .inl (kn, 8, .inl fn_2)), (lo, .inl (kl, 6, .inl fl_3))] := hD
  refine lv_aload_n hx hb dX4_readText_17 rfl (lv_at hl 0 rfl) ?_
  refine lv_iconst (v := 0) hx hb dX4_readText_18 (by decide) ?_
  refine va_put (D := (dC, dI)) (ci := 4) (v := .int 0) (ty := .int) (C := RX4) (T := TX4) (N := 9) hx hb hts iX4 tyX4 tyX4_ok nmX4 hown hK hP hD hS 0 rfl rfl 6 (by decide) (hts (.fieldLink RX4 32 "CapLeague$LawReader" "behind" "I") (by decide +kernel)) (fun _ h9 => h9) rfl (by decide +kernel) rfl rfl (Nat.le_of_ble_eq_true rfl) dX4_readText_19 (fun H locs hP hD hS => ?_)
  replace hP : va_P (dC, dI) vwCl [(rd, .inr (4, [.ref tp, .ref lr, .int 0, .int (-1), .int 0, .int 0, .int 0, .int 0, .int 0])), (tp, .inr (8, [.ref by_, .int 0])), (lr, .inr (5, [.ref nu, .ref lo, .int 1])), (nu, .inl (kn, 8, .inl fn_2)), (lo, .inl (kl, 6, .inl fl_3))] H := hP
  replace hD : va_D A [(rd, .inr (4, [.ref tp, .ref lr, .int 0, .int (-1), .int 0, .int 0, .int 0, .int 0, .int 0])), (tp, .inr (8, [.ref by_, .int 0])), (lr, .inr (5, [.ref nu, .ref lo, .int 1])), (nu, .inl (kn, 8, .inl fn_2)), (lo, .inl (kl, 6, .inl fl_3))] := hD
  refine lv_aload_n hx hb dX4_readText_22 rfl (lv_at hl 0 rfl) ?_
  refine lv_iconst (v := 0) hx hb dX4_readText_23 (by decide) ?_
  refine va_put (D := (dC, dI)) (ci := 4) (v := .int 0) (ty := .int) (C := RX4) (T := TX4) (N := 9) hx hb hts iX4 tyX4 tyX4_ok nmX4 hown hK hP hD hS 0 rfl rfl 8 (by decide) (hts (.fieldLink RX4 35 "CapLeague$LawReader" "toldLines" "I") (by decide +kernel)) (fun _ h9 => h9) rfl (by decide +kernel) rfl rfl (Nat.le_of_ble_eq_true rfl) dX4_readText_24 (fun H locs hP hD hS => ?_)
  replace hP : va_P (dC, dI) vwCl [(rd, .inr (4, [.ref tp, .ref lr, .int 0, .int (-1), .int 0, .int 0, .int 0, .int 0, .int 0])), (tp, .inr (8, [.ref by_, .int 0])), (lr, .inr (5, [.ref nu, .ref lo, .int 1])), (nu, .inl (kn, 8, .inl fn_2)), (lo, .inl (kl, 6, .inl fl_3))] H := hP
  replace hD : va_D A [(rd, .inr (4, [.ref tp, .ref lr, .int 0, .int (-1), .int 0, .int 0, .int 0, .int 0, .int 0])), (tp, .inr (8, [.ref by_, .int 0])), (lr, .inr (5, [.ref nu, .ref lo, .int 1])), (nu, .inl (kn, 8, .inl fn_2)), (lo, .inl (kl, 6, .inl fl_3))] := hD
  refine lv_iconst (v := 0) hx hb dX4_readText_27 (by decide) ?_
  refine lv_istore_n (lv' := [(1, .int 0), (0, .ref rd)]) hx hb dX4_readText_28 rfl hl (by decide) rfl (fun ls hl => ?_)
  refine lv_iload_n hx hb dX4_readText_29 rfl (lv_at hl 0 rfl) ?_
  refine lv_sipush (v := 500) hx hb dX4_readText_30 (by decide) ?_
  refine lv_icmp_gt (tgt := 64) hx hb dX4_readText_33 (by decide) (fun h => absurd h (by decide)) (fun _ => ?_)
  refine lv_aload_n hx hb dX4_readText_36 rfl (lv_at hl 1 rfl) ?_
  have hPc := hP.sub (ws' := [(rd, .inr (4, [.ref tp, .ref lr, .int 0, .int (-1), .int 0, .int 0, .int 0, .int 0, .int 0])), (tp, .inr (8, [.ref by_, .int 0]))]) [0, 1] rfl
  have hDc := hD.sub (ws' := [(rd, .inr (4, [.ref tp, .ref lr, .int 0, .int (-1), .int 0, .int 0, .int 0, .int 0, .int 0])), (tp, .inr (8, [.ref by_, .int 0]))]) [0, 1] (by decide) rfl
  have hKc := hK.sub (tys' := []) [] rfl
  have hFc := va_free (wc := [(rd, .inr (4, [.ref tp, .ref lr, .int 0, .int (-1), .int 0, .int 0, .int 0, .int 0, .int 0])), (tp, .inr (8, [.ref by_, .int 0]))]) hD hS hA [0, 1] rfl
  refine va_callv (va_runV (As := []) (rest := []) ⟨hx, hb, hml, hown, hts⟩ (wX4_token l dC dI rd tp lr by_    _) (cwV 0 hts gX4_readText_X4_readToken rfl rfl rfl (by decide +kernel) ⟨Nat.le_of_ble_eq_true rfl, Nat.le_of_ble_eq_true rfl⟩) ⟨xW_blind _ _ _ _ _, va_recv hKc hPc (ci := 4) (q0 := 0) rfl rfl, xW_pre _ hE hKc hPc hDc⟩ rfl rfl hl.1 rfl (lv_room (Nat.le_of_ble_eq_true rfl)) dX4_readText_37 ⟨Nat.le_of_ble_eq_true rfl, Nat.le_of_ble_eq_true rfl⟩) hS (fun q _ h => hFc q h) hFc (fun u t H1 locs ht hvm h5 hB hz1 hk1 hS => ?_)
  obtain ⟨hP1, hK1, hD1⟩ := hB
  rw [ht] at hP1
  have hK1 := va_K.moved hvm.symm hK1
  obtain ⟨hP, hD⟩ := va_join (wr := [(lr, .inr (5, [.ref nu, .ref lo, .int 1])), (nu, .inl (kn, 8, .inl fn_2)), (lo, .inl (kl, 6, .inl fl_3))]) (w1 := [(rd, .inr (4, [.ref tp, .ref lr, .int 0, .int (-1), .int 0, .int 0, .int 0, .int 0, .int 0])), (tp, .inr (8, [.ref by_, .int 0]))]) hP hD [0, 1] [2, 3, 4] rfl rfl (by decide) (by decide) hk1 hFc hP1 hD1
  replace hK := hK.app hK1
  generalize H1 = H at hP hS ⊢
  replace hP : va_P (dC, dI) vwCl [(lr, .inr (5, [.ref nu, .ref lo, .int 1])), (nu, .inl (kn, 8, .inl fn_2)), (lo, .inl (kl, 6, .inl fl_3)), (rd, .inr (4, [.ref tp, .ref lr, .int 0, .int (-1), .int 0, .int 0, .int 0, .int 0, .int 0])), (tp, .inr (8, [.ref by_, .int 0]))] H := hP
  replace hD : va_D A [(lr, .inr (5, [.ref nu, .ref lo, .int 1])), (nu, .inl (kn, 8, .inl fn_2)), (lo, .inl (kl, 6, .inl fl_3)), (rd, .inr (4, [.ref tp, .ref lr, .int 0, .int (-1), .int 0, .int 0, .int 0, .int 0, .int 0])), (tp, .inr (8, [.ref by_, .int 0]))] := hD
  replace hK : va_K (dC, dI) vwCl [(kn, .int), (kl, .int), (kn, .int), (kl, .int)] s := hK
  refine W.cs (cells' := 0) (slots' := 0) rfl rfl ?_
  refine lv_aload_n hx hb dX4_readText_40 rfl (lv_at hl 1 rfl) ?_
  refine va_get (D := (dC, dI)) (ci := 4) (v := .int 0) (C := RX4) (T := TX4) (N := 9) hx hb hts iX4 hown hK hP 3 rfl rfl 4 (by decide) (hts (.fieldLink RX4 43 "CapLeague$LawReader" "kind" "I") (by decide +kernel)) (fun _ h9 => h9) rfl dX4_readText_41 ?_
  refine lv_if_ne (tgt := 49) hx hb dX4_readText_44 (by decide) (fun h => absurd (by decide) h) (fun _ => ?_)
  refine lv_iload_n hx hb dX4_readText_47 rfl (lv_at hl 0 rfl) ?_
  have hP9 := hP.sub (ws' := [(rd, .inr (4, [.ref tp, .ref lr, .int 0, .int (-1), .int 0, .int 0, .int 0, .int 0, .int 0])), (tp, .inr (8, [.ref by_, .int 0])), (lr, .inr (5, [.ref nu, .ref lo, .int 1])), (nu, .inl (kn, 8, .inl fn_2)), (lo, .inl (kl, 6, .inl fl_3))]) [3, 4, 0, 1, 2] rfl
  have hD9 := hD.sub (ws' := [(rd, .inr (4, [.ref tp, .ref lr, .int 0, .int (-1), .int 0, .int 0, .int 0, .int 0, .int 0])), (tp, .inr (8, [.ref by_, .int 0])), (lr, .inr (5, [.ref nu, .ref lo, .int 1])), (nu, .inl (kn, 8, .inl fn_2)), (lo, .inl (kl, 6, .inl fl_3))]) [3, 4, 0, 1, 2] (by decide) rfl
  have hK9 := hK.sub (tys' := [(kn, .int), (kl, .int)]) [0, 1] rfl
  exact W.iret (v := 0) hx hb hr (fun t ht hW => ⟨⟨0, (), rfl, by first | exact ⟨by first | rfl | exact xi_k (k := 0) (by decide) (by omega), by first | trivial | omega⟩, ⟨fn_2, fl_3, by rw [ht]; exact hP9, va_K.moved hW.alike hK9, hD9⟩⟩, hS.F ht⟩) hS.2.2 dX4_readText_48
set_option maxHeartbeats 4000000 in
set_option maxRecDepth 100000 in
theorem wX5_copy (l : Launch) (dC : Nat → ClassId) (dI : Nat → Nat → Nat) (ld lr nd od nu lo : Nat) (kd ke kn kl : ClassId) (h1 : Nat → Int32) (h2 : Nat → Int32) (g1 : Nat → Int32) (g2 : Nat → Int32) (sz : Nat)    : Met l yX5_copyFrom wsX5_copyFrom ({ frames := 2, cells := 0, slots := 0, locals := 128 }) (va_Pc [.ref ld, .ref lr] (xW (dC, dI) [(kd, .int), (ke, .int), (kn, .int), (kl, .int)] [(ld, .inr (5, [.ref nd, .ref od, .int 1])), (nd, .inl (kd, 8, .inl h1)), (od, .inl (ke, 6, .inl h2)), (lr, .inr (5, [.ref nu, .ref lo, .int 1])), (nu, .inl (kn, 8, .inl g1)), (lo, .inl (kl, 6, .inl g2))] sz)) (va_Qv (fun (_ : Unit) => True) (fun (_ : Unit) _ => True) (va_A [(ld, .inr (5, [.ref nd, .ref od, .int 1])), (nd, .inl (kd, 8, .inl h1)), (od, .inl (ke, 6, .inl h2)), (lr, .inr (5, [.ref nu, .ref lo, .int 1])), (nu, .inl (kn, 8, .inl g1)), (lo, .inl (kl, 6, .inl g2))] sz)) 0 0 (va_A [(ld, .inr (5, [.ref nd, .ref od, .int 1])), (nd, .inl (kd, 8, .inl h1)), (od, .inl (ke, 6, .inl h2)), (lr, .inr (5, [.ref nu, .ref lo, .int 1])), (nu, .inl (kn, 8, .inl g1)), (lo, .inl (kl, 6, .inl g2))] sz) := by
  refine Met.ofW (cc := cX5_copyFrom) (maxL := 2) (ret := none) (by decide) rfl ?_
  intro pr_ ev_ s m args below meth cd_ s₁ B hml hv
  obtain ⟨rfl, hE, hsz, hK, hP, hD0⟩ := hv
  have hx := B.exec
  have hb := B.bytes
  have hr := B.returns
  have hts := atoms_spec (ws := wsX5_copyFrom) B.pre
  have hown : s.vm.findClass RX5 = some m.cls := findClass_of_methodNamed B.named
  have hlocks := B.notSynchronized
  subst hsz
  have hD := hD0.self (sz := s.heap.size)
  generalize hAe : va_A [(ld, .inr (5, [.ref nd, .ref od, .int 1])), (nd, .inl (kd, 8, .inl h1)), (od, .inl (ke, 6, .inl h2)), (lr, .inr (5, [.ref nu, .ref lo, .int 1])), (nu, .inl (kn, 8, .inl g1)), (lo, .inl (kl, 6, .inl g2))] s.heap.size = A at hD ⊢
  have hA : ∀ q : Nat, s.heap.size ≤ q → A q := fun q h => by rw [← hAe]; exact Or.inr h
  have hS : va_S A s.heap s.heap [] := va_S.rf
  have iX5 : ∀ w ∈ u_ws RX5 TX5 3, w ∈ wsX5_copyFrom := by decide +kernel
  have hl := lv_entry ([.ref ld, .ref lr]) (n := 2) (Nat.le_of_ble_eq_true rfl)
  rw [lg_entry_eq]
  generalize (lg_sl ([.ref ld, .ref lr]) ++ List.replicate (2 - (lg_sl ([.ref ld, .ref lr])).length) Slot.unset).toArray = ls at hl ⊢
  have hl : lv_has ls 2 [(0, .ref ld), (1, .ref lr)] := hl
  refine lv_aload_n hx hb dX5_copyFrom_0 rfl (lv_at hl 1 rfl) ?_
  refine va_get (D := (dC, dI)) (ci := 5) (v := .ref nu) (C := RX5) (T := TX5) (N := 3) hx hb hts iX5 hown hK hP 3 rfl rfl 0 (by decide) (hts (.fieldLink RX5 9 "CapLeague$Laws" "numbers" "[I") (by decide +kernel)) (fun _ h9 => h9) rfl dX5_copyFrom_1 ?_
  refine lv_iconst (v := 0) hx hb dX5_copyFrom_4 (by decide) ?_
  refine lv_aload_n hx hb dX5_copyFrom_5 rfl (lv_at hl 0 rfl) ?_
  refine va_get (D := (dC, dI)) (ci := 5) (v := .ref nd) (C := RX5) (T := TX5) (N := 3) hx hb hts iX5 hown hK hP 0 rfl rfl 0 (by decide) (hts (.fieldLink RX5 9 "CapLeague$Laws" "numbers" "[I") (by decide +kernel)) (fun _ h9 => h9) rfl dX5_copyFrom_6 ?_
  refine lv_iconst (v := 0) hx hb dX5_copyFrom_9 (by decide) ?_
  refine lv_bipush (v := 8) hx hb dX5_copyFrom_10 (by decide) ?_
  refine va_copyi (D := (dC, dI)) hx hb (hml.trans hl.1.symm) hown (hts (.methodLink RX5 24 arraycopyName) (by decide +kernel)) (hts (.native arraycopyName) (by decide +kernel)) (hts (.static arraycopyName) (by decide +kernel)) (hts (.initialized "java/lang/System") (by decide +kernel)) hK hP hD hS 4 1 2 0 rfl rfl rfl rfl rfl (by decide) (by decide) (by decide) (by decide) (by decide) (fun _ _ => rfl) (Nat.le_of_ble_eq_true rfl) (Nat.le_of_ble_eq_true rfl) dX5_copyFrom_12 (fun H locs hP hD hS => ?_)
  obtain ⟨f1, ef1⟩ : ∃ g : Nat → Int32, g = va_cpy g1 h1 (0 : Int32).toNatClampNeg (0 : Int32).toNatClampNeg (8 : Int32).toNatClampNeg := ⟨_, rfl⟩
  replace hP : va_P (dC, dI) vwCl [(ld, .inr (5, [.ref nd, .ref od, .int 1])), (nd, .inl (kd, 8, .inl f1)), (od, .inl (ke, 6, .inl h2)), (lr, .inr (5, [.ref nu, .ref lo, .int 1])), (nu, .inl (kn, 8, .inl g1)), (lo, .inl (kl, 6, .inl g2))] H := by rw [ef1]; exact hP
  replace hD : va_D A [(ld, .inr (5, [.ref nd, .ref od, .int 1])), (nd, .inl (kd, 8, .inl f1)), (od, .inl (ke, 6, .inl h2)), (lr, .inr (5, [.ref nu, .ref lo, .int 1])), (nu, .inl (kn, 8, .inl g1)), (lo, .inl (kl, 6, .inl g2))] := by rw [ef1]; exact hD
  clear ef1
  refine lv_aload_n hx hb dX5_copyFrom_15 rfl (lv_at hl 1 rfl) ?_
  refine va_get (D := (dC, dI)) (ci := 5) (v := .ref lo) (C := RX5) (T := TX5) (N := 3) hx hb hts iX5 hown hK hP 3 rfl rfl 1 (by decide) (hts (.fieldLink RX5 15 "CapLeague$Laws" "lots" "[I") (by decide +kernel)) (fun _ h9 => h9) rfl dX5_copyFrom_16 ?_
  refine lv_iconst (v := 0) hx hb dX5_copyFrom_19 (by decide) ?_
  refine lv_aload_n hx hb dX5_copyFrom_20 rfl (lv_at hl 0 rfl) ?_
  refine va_get (D := (dC, dI)) (ci := 5) (v := .ref od) (C := RX5) (T := TX5) (N := 3) hx hb hts iX5 hown hK hP 0 rfl rfl 1 (by decide) (hts (.fieldLink RX5 15 "CapLeague$Laws" "lots" "[I") (by decide +kernel)) (fun _ h9 => h9) rfl dX5_copyFrom_21 ?_
  refine lv_iconst (v := 0) hx hb dX5_copyFrom_24 (by decide) ?_
  refine lv_bipush (v := 6) hx hb dX5_copyFrom_25 (by decide) ?_
  refine va_copyi (D := (dC, dI)) hx hb (hml.trans hl.1.symm) hown (hts (.methodLink RX5 24 arraycopyName) (by decide +kernel)) (hts (.native arraycopyName) (by decide +kernel)) (hts (.static arraycopyName) (by decide +kernel)) (hts (.initialized "java/lang/System") (by decide +kernel)) hK hP hD hS 5 2 3 1 rfl rfl rfl rfl rfl (by decide) (by decide) (by decide) (by decide) (by decide) (fun _ _ => rfl) (Nat.le_of_ble_eq_true rfl) (Nat.le_of_ble_eq_true rfl) dX5_copyFrom_27 (fun H locs hP hD hS => ?_)
  obtain ⟨f2, ef2⟩ : ∃ g : Nat → Int32, g = va_cpy g2 h2 (0 : Int32).toNatClampNeg (0 : Int32).toNatClampNeg (6 : Int32).toNatClampNeg := ⟨_, rfl⟩
  replace hP : va_P (dC, dI) vwCl [(ld, .inr (5, [.ref nd, .ref od, .int 1])), (nd, .inl (kd, 8, .inl f1)), (od, .inl (ke, 6, .inl f2)), (lr, .inr (5, [.ref nu, .ref lo, .int 1])), (nu, .inl (kn, 8, .inl g1)), (lo, .inl (kl, 6, .inl g2))] H := by rw [ef2]; exact hP
  replace hD : va_D A [(ld, .inr (5, [.ref nd, .ref od, .int 1])), (nd, .inl (kd, 8, .inl f1)), (od, .inl (ke, 6, .inl f2)), (lr, .inr (5, [.ref nu, .ref lo, .int 1])), (nu, .inl (kn, 8, .inl g1)), (lo, .inl (kl, 6, .inl g2))] := by rw [ef2]; exact hD
  clear ef2
  refine lv_aload_n hx hb dX5_copyFrom_30 rfl (lv_at hl 0 rfl) ?_
  refine lv_aload_n hx hb dX5_copyFrom_31 rfl (lv_at hl 1 rfl) ?_
  refine va_get (D := (dC, dI)) (ci := 5) (v := .int 1) (C := RX5) (T := TX5) (N := 3) hx hb hts iX5 hown hK hP 3 rfl rfl 2 (by decide) (hts (.fieldLink RX5 30 "CapLeague$Laws" "lotCount" "I") (by decide +kernel)) (fun _ h9 => h9) rfl dX5_copyFrom_32 ?_
  refine va_put (D := (dC, dI)) (ci := 5) (v := .int 1) (ty := .int) (C := RX5) (T := TX5) (N := 3) hx hb hts iX5 tyX5 tyX5_ok nmX5 hown hK hP hD hS 0 rfl rfl 2 (by decide) (hts (.fieldLink RX5 30 "CapLeague$Laws" "lotCount" "I") (by decide +kernel)) (fun _ h9 => h9) rfl (by decide +kernel) rfl rfl (Nat.le_of_ble_eq_true rfl) dX5_copyFrom_35 (fun H locs hP hD hS => ?_)
  replace hP : va_P (dC, dI) vwCl [(ld, .inr (5, [.ref nd, .ref od, .int 1])), (nd, .inl (kd, 8, .inl f1)), (od, .inl (ke, 6, .inl f2)), (lr, .inr (5, [.ref nu, .ref lo, .int 1])), (nu, .inl (kn, 8, .inl g1)), (lo, .inl (kl, 6, .inl g2))] H := hP
  replace hD : va_D A [(ld, .inr (5, [.ref nd, .ref od, .int 1])), (nd, .inl (kd, 8, .inl f1)), (od, .inl (ke, 6, .inl f2)), (lr, .inr (5, [.ref nu, .ref lo, .int 1])), (nu, .inl (kn, 8, .inl g1)), (lo, .inl (kl, 6, .inl g2))] := hD
  exact W.vret hx hb hr (fun t ht hW => ⟨⟨(), rfl, trivial, trivial⟩, hS.F ht⟩) hS.2.2 dX5_copyFrom_38
set_option maxHeartbeats 4000000 in
set_option maxRecDepth 100000 in
theorem wX3_tell (l : Launch) (dC : Nat → ClassId) (dI : Nat → Nat → Nat) (lb lr un tx nu lo : Nat) (ct kn kl : ClassId) (g1 : Nat → Int32) (g2 : Nat → Int32) (sz : Nat) (tU : Nat)  (y : Int32) (y_t : Int) (h_y : y.toInt = y_t) (h1 : 0 ≤ y_t) (h2 : y_t ≤ 9) : Met l yX3_tell wsX3_tell ({ frames := 4, cells := 3, slots := 17, locals := 256 }) (va_Pc [.ref lb, .int y, .ref lr] (xWU (dC, dI) [(ct, (.object RX5)), (kn, .int), (kl, .int)] [(lb, .inr (3, [.ref un, .ref tx])), (tx, .inl (ct, 10, .inr (.inr (.inr (.inr (fun _ => none)))))), (lr, .inr (5, [.ref nu, .ref lo, .int 1])), (nu, .inl (kn, 8, .inl g1)), (lo, .inl (kl, 6, .inl g2))] sz tU)) (va_Qv (fun (_ : Unit) => True) (fun (_ : Unit) _ => True) (va_A [(lb, .inr (3, [.ref un, .ref tx])), (tx, .inl (ct, 10, .inr (.inr (.inr (.inr (fun _ => none)))))), (lr, .inr (5, [.ref nu, .ref lo, .int 1])), (nu, .inl (kn, 8, .inl g1)), (lo, .inl (kl, 6, .inl g2))] sz)) 3 17 (va_A [(lb, .inr (3, [.ref un, .ref tx])), (tx, .inl (ct, 10, .inr (.inr (.inr (.inr (fun _ => none)))))), (lr, .inr (5, [.ref nu, .ref lo, .int 1])), (nu, .inl (kn, 8, .inl g1)), (lo, .inl (kl, 6, .inl g2))] sz) := by
  refine Met.ofW (cc := cX3_tell) (maxL := 3) (ret := none) (by decide) rfl ?_
  intro pr_ ev_ s m args below meth cd_ s₁ B hml hv
  obtain ⟨rfl, ⟨hE, hsz, hK, hP, hD0⟩, hU⟩ := hv
  have hx := B.exec
  have hb := B.bytes
  have hr := B.returns
  have hts := atoms_spec (ws := wsX3_tell) B.pre
  have hown : s.vm.findClass RX3 = some m.cls := findClass_of_methodNamed B.named
  have hlocks := B.notSynchronized
  subst hsz
  have hD := hD0.self (sz := s.heap.size)
  generalize hAe : va_A [(lb, .inr (3, [.ref un, .ref tx])), (tx, .inl (ct, 10, .inr (.inr (.inr (.inr (fun _ => none)))))), (lr, .inr (5, [.ref nu, .ref lo, .int 1])), (nu, .inl (kn, 8, .inl g1)), (lo, .inl (kl, 6, .inl g2))] s.heap.size = A at hD hU ⊢
  have hA : ∀ q : Nat, s.heap.size ≤ q → A q := fun q h => by rw [← hAe]; exact Or.inr h
  have hS : va_S A s.heap s.heap [] := va_S.rf
  have iX3 : ∀ w ∈ u_ws RX3 TX3 2, w ∈ wsX3_tell := by decide +kernel
  have iX5 : ∀ w ∈ u_ws RX5 TX5 3, w ∈ wsX3_tell := by decide +kernel
  have hl := lv_entry ([.ref lb, .int y, .ref lr]) (n := 3) (Nat.le_of_ble_eq_true rfl)
  rw [lg_entry_eq]
  generalize (lg_sl ([.ref lb, .int y, .ref lr]) ++ List.replicate (3 - (lg_sl ([.ref lb, .int y, .ref lr])).length) Slot.unset).toArray = ls at hl ⊢
  have hl : lv_has ls 3 [(0, .ref lb), (1, .int y), (2, .ref lr)] := hl
  have lo_y := xi_lo y
  have hi_y := xi_hi y
  refine lv_iload_n hx hb dX3_tell_0 rfl (lv_at hl 1 rfl) ?_
  refine vp_callSi (xr_of (va_runSN (As := [.int y]) (rest := []) ⟨hx, hb, hml, hown, hts⟩ (cX11_isYear_ l dC dI ([(lb, .inr (3, [.ref un, .ref tx])), (tx, .inl (ct, 10, .inr (.inr (.inr (.inr (fun _ => none)))))), (lr, .inr (5, [.ref nu, .ref lo, .int 1])), (nu, .inl (kn, 8, .inl g1)), (lo, .inl (kl, 6, .inl g2))]) ([(ct, (.object RX5)), (kn, .int), (kl, .int)]) y (y.toInt) rfl) (⟨va_cnB 1 hts gX3_tell_X11_isYear_n22 rfl rfl rfl (hE.link 6 rfl) (hts (.initialized RX11) (by decide +kernel)) (by decide +kernel) ⟨Nat.le_of_ble_eq_true rfl, Nat.le_of_ble_eq_true rfl⟩, hts (.static yX11_isYear) (by decide +kernel), trivial⟩) ⟨xR_blind _ _ _ _, xR_pre _ hE hK hP⟩ rfl rfl hl.1 rfl (lv_room (Nat.le_of_ble_eq_true rfl)) dX3_tell_1 ⟨Nat.le_of_ble_eq_true rfl, Nat.le_of_ble_eq_true rfl⟩)) (fun rh1 h1 => ?_)
  rcases h1 with ⟨rfl, h1⟩ | ⟨rfl, h1⟩
  · skip
    refine lv_if_ne (tgt := 8) hx hb dX3_tell_4 (by decide) (fun _ => ?_) (fun h => absurd h (by decide))
    refine lv_aload_n hx hb dX3_tell_8 rfl (lv_at hl 0 rfl) ?_
    refine va_get (D := (dC, dI)) (ci := 3) (v := .ref tx) (C := RX3) (T := TX3) (N := 2) hx hb hts iX3 hown hK hP 0 rfl rfl 1 (by decide) (hts (.fieldLink RX3 18 "CapLeague$LawBook" "texts" "[LCapLeague$Laws;") (by decide +kernel)) (fun _ h9 => h9) rfl dX3_tell_9 ?_
    refine lv_iload_n hx hb dX3_tell_12 rfl (lv_at hl 1 rfl) ?_
    refine va_aldq (D := (dC, dI)) hx hb hK hP 1 0 rfl rfl (xi_in (by omega) (by omega)) dX3_tell_13 ?_
    refine xw_v (v := .null) rfl ?_
    refine lv_ifnonnullN hx hb dX3_tell_14 ?_
    refine lv_aload_n hx hb dX3_tell_17 rfl (lv_at hl 0 rfl) ?_
    refine va_get (D := (dC, dI)) (ci := 3) (v := .ref tx) (C := RX3) (T := TX3) (N := 2) hx hb hts iX3 hown hK hP 0 rfl rfl 1 (by decide) (hts (.fieldLink RX3 18 "CapLeague$LawBook" "texts" "[LCapLeague$Laws;") (by decide +kernel)) (fun _ h9 => h9) rfl dX3_tell_18 ?_
    refine lv_iload_n hx hb dX3_tell_21 rfl (lv_at hl 1 rfl) ?_
    refine va_new (ci := 5) (fs := [.null, .null, .int 0]) (C := RX5) (T := TX5) (N := 3) hx hb hts iX5 tyX5 tyX5_ok hown (hts (.classLink RX3 9 RX5) (by decide +kernel)) (hts (.instantiable RX5 3) (by decide +kernel)) (hts (.initialized RX5) (by decide +kernel)) hK hP hD hS hA rfl (fun j hj => by rcases (show j = 0 ∨ j = 1 ∨ j = 2 by omega) with rfl | rfl | rfl <;> rfl) (Nat.le_of_ble_eq_true rfl) (Nat.le_of_ble_eq_true rfl) dX3_tell_22 (fun q3 H hP hD hS => ?_)
    replace hP : va_P (dC, dI) vwCl [(lb, .inr (3, [.ref un, .ref tx])), (tx, .inl (ct, 10, .inr (.inr (.inr (.inr (fun _ => none)))))), (lr, .inr (5, [.ref nu, .ref lo, .int 1])), (nu, .inl (kn, 8, .inl g1)), (lo, .inl (kl, 6, .inl g2)), (q3, .inr (5, [.null, .null, .int 0]))] H := hP
    replace hD : va_D A [(lb, .inr (3, [.ref un, .ref tx])), (tx, .inl (ct, 10, .inr (.inr (.inr (.inr (fun _ => none)))))), (lr, .inr (5, [.ref nu, .ref lo, .int 1])), (nu, .inl (kn, 8, .inl g1)), (lo, .inl (kl, 6, .inl g2)), (q3, .inr (5, [.null, .null, .int 0]))] := hD
    refine W.cs (cells' := 1) (slots' := 3) rfl rfl ?_
    refine lv_dup hx hb dX3_tell_25 rfl ?_
    have hPc := hP.sub (ws' := [(q3, .inr (5, [.null, .null, .int 0]))]) [5] rfl
    have hDc := hD.sub (ws' := [(q3, .inr (5, [.null, .null, .int 0]))]) [5] (by decide) rfl
    have hKc := hK.sub (tys' := []) [] rfl
    have hFc := va_free (wc := [(q3, .inr (5, [.null, .null, .int 0]))]) hD hS hA [5] rfl
    refine va_callv (va_runI (As := []) (rest := [.ref q3, .int y, .ref tx]) ⟨hx, hb, hml, hown, hts⟩ (cX5_new l dC dI q3    _ tU) (cwI 0 hts gX3_tell_X5_init rfl rfl rfl (hts (.initialized RX5) (by decide +kernel)) (hts (.methodLink RX3 11 yX5_init) (by decide +kernel)) (hts (.instanceMethod yX5_init) (by decide +kernel)) rfl (by decide +kernel) ⟨Nat.le_of_ble_eq_true rfl, Nat.le_of_ble_eq_true rfl⟩) ⟨xWU_blind _ _ _ _ _ _, xWU_pre _ hE hKc hPc hDc hU hS hFc⟩ rfl rfl hl.1 rfl (lv_room (Nat.le_of_ble_eq_true rfl)) dX3_tell_26 ⟨Nat.le_of_ble_eq_true rfl, Nat.le_of_ble_eq_true rfl⟩) hS (fun q _ h => hFc q h) hFc (fun u t H1 locs ht hvm h4 hB hz1 hk1 hS => ?_)
    obtain ⟨nu_5, lo_6, kn_7, kl_8, fn_9, fl_10, h4_0, h4_1, h4_2, h4_3, h4_4, h4_5, h4_6, h4_7, h4_8, hP1, hK1, hD1⟩ := hB
    rw [ht] at hP1
    have hK1 := va_K.moved hvm.symm hK1
    obtain ⟨hP, hD⟩ := va_join (wr := [(lb, .inr (3, [.ref un, .ref tx])), (tx, .inl (ct, 10, .inr (.inr (.inr (.inr (fun _ => none)))))), (lr, .inr (5, [.ref nu, .ref lo, .int 1])), (nu, .inl (kn, 8, .inl g1)), (lo, .inl (kl, 6, .inl g2))]) (w1 := [(q3, .inr (5, [.ref nu_5, .ref lo_6, .int 1])), (nu_5, .inl (kn_7, 8, .inl fn_9)), (lo_6, .inl (kl_8, 6, .inl fl_10))]) hP hD [5] [0, 1, 2, 3, 4] rfl rfl (by decide) (by decide) hk1 hFc hP1 hD1
    replace hK := hK.app hK1
    generalize H1 = H at hP hS ⊢
    replace hP : va_P (dC, dI) vwCl [(lb, .inr (3, [.ref un, .ref tx])), (tx, .inl (ct, 10, .inr (.inr (.inr (.inr (fun _ => none)))))), (lr, .inr (5, [.ref nu, .ref lo, .int 1])), (nu, .inl (kn, 8, .inl g1)), (lo, .inl (kl, 6, .inl g2)), (q3, .inr (5, [.ref nu_5, .ref lo_6, .int 1])), (nu_5, .inl (kn_7, 8, .inl fn_9)), (lo_6, .inl (kl_8, 6, .inl fl_10))] H := hP
    replace hD : va_D A [(lb, .inr (3, [.ref un, .ref tx])), (tx, .inl (ct, 10, .inr (.inr (.inr (.inr (fun _ => none)))))), (lr, .inr (5, [.ref nu, .ref lo, .int 1])), (nu, .inl (kn, 8, .inl g1)), (lo, .inl (kl, 6, .inl g2)), (q3, .inr (5, [.ref nu_5, .ref lo_6, .int 1])), (nu_5, .inl (kn_7, 8, .inl fn_9)), (lo_6, .inl (kl_8, 6, .inl fl_10))] := hD
    replace hK : va_K (dC, dI) vwCl [(ct, (.object RX5)), (kn, .int), (kl, .int), (kn_7, .int), (kl_8, .int)] s := hK
    refine W.cs (cells' := 3) (slots' := 17) rfl rfl ?_
    refine va_astq (D := (dC, dI)) hx hb hK hP hD hS 1 0 5 5 rfl rfl rfl rfl (xi_in (by omega) (by omega)) dX3_tell_29 (fun H locs hP hD hS => ?_)
    obtain ⟨f11, ef11⟩ : ∃ g : Nat → Option Nat, g = va_up (fun _ => none) y.toNatClampNeg (some q3) := ⟨_, rfl⟩
    replace hP : va_P (dC, dI) vwCl [(lb, .inr (3, [.ref un, .ref tx])), (tx, .inl (ct, 10, .inr (.inr (.inr (.inr f11))))), (lr, .inr (5, [.ref nu, .ref lo, .int 1])), (nu, .inl (kn, 8, .inl g1)), (lo, .inl (kl, 6, .inl g2)), (q3, .inr (5, [.ref nu_5, .ref lo_6, .int 1])), (nu_5, .inl (kn_7, 8, .inl fn_9)), (lo_6, .inl (kl_8, 6, .inl fl_10))] H := by rw [ef11]; exact hP
    replace hD : va_D A [(lb, .inr (3, [.ref un, .ref tx])), (tx, .inl (ct, 10, .inr (.inr (.inr (.inr f11))))), (lr, .inr (5, [.ref nu, .ref lo, .int 1])), (nu, .inl (kn, 8, .inl g1)), (lo, .inl (kl, 6, .inl g2)), (q3, .inr (5, [.ref nu_5, .ref lo_6, .int 1])), (nu_5, .inl (kn_7, 8, .inl fn_9)), (lo_6, .inl (kl_8, 6, .inl fl_10))] := by rw [ef11]; exact hD
    refine lv_aload_n hx hb dX3_tell_30 rfl (lv_at hl 0 rfl) ?_
    refine va_get (D := (dC, dI)) (ci := 3) (v := .ref tx) (C := RX3) (T := TX3) (N := 2) hx hb hts iX3 hown hK hP 0 rfl rfl 1 (by decide) (hts (.fieldLink RX3 18 "CapLeague$LawBook" "texts" "[LCapLeague$Laws;") (by decide +kernel)) (fun _ h9 => h9) rfl dX3_tell_31 ?_
    refine lv_iload_n hx hb dX3_tell_34 rfl (lv_at hl 1 rfl) ?_
    refine va_aldq (D := (dC, dI)) hx hb hK hP 1 0 rfl rfl (xi_in (by omega) (by omega)) dX3_tell_35 ?_
    refine xw_v (v := .ref q3) (by rw [ef11]; simp [va_up, va_rf]) ?_
    refine lv_aload_n hx hb dX3_tell_36 rfl (lv_at hl 2 rfl) ?_
    have hPc := hP.sub (ws' := [(q3, .inr (5, [.ref nu_5, .ref lo_6, .int 1])), (nu_5, .inl (kn_7, 8, .inl fn_9)), (lo_6, .inl (kl_8, 6, .inl fl_10)), (lr, .inr (5, [.ref nu, .ref lo, .int 1])), (nu, .inl (kn, 8, .inl g1)), (lo, .inl (kl, 6, .inl g2))]) [5, 6, 7, 2, 3, 4] rfl
    have hDc := hD.sub (ws' := [(q3, .inr (5, [.ref nu_5, .ref lo_6, .int 1])), (nu_5, .inl (kn_7, 8, .inl fn_9)), (lo_6, .inl (kl_8, 6, .inl fl_10)), (lr, .inr (5, [.ref nu, .ref lo, .int 1])), (nu, .inl (kn, 8, .inl g1)), (lo, .inl (kl, 6, .inl g2))]) [5, 6, 7, 2, 3, 4] (by decide) rfl
    have hKc := hK.sub (tys' := [(kn_7, .int), (kl_8, .int), (kn, .int), (kl, .int)]) [3, 4, 1, 2] rfl
    have hFc := va_free (wc := [(q3, .inr (5, [.ref nu_5, .ref lo_6, .int 1])), (nu_5, .inl (kn_7, 8, .inl fn_9)), (lo_6, .inl (kl_8, 6, .inl fl_10)), (lr, .inr (5, [.ref nu, .ref lo, .int 1])), (nu, .inl (kn, 8, .inl g1)), (lo, .inl (kl, 6, .inl g2))]) hD hS hA [5, 6, 7, 2, 3, 4] rfl
    refine va_callv (va_runV (As := [.ref lr]) (rest := []) ⟨hx, hb, hml, hown, hts⟩ (wX5_copy l dC dI q3 lr nu_5 lo_6 nu lo kn_7 kl_8 kn kl fn_9 fl_10 g1 g2  _) (cwV 1 hts gX3_tell_X5_copyFrom rfl rfl rfl (by decide +kernel) ⟨Nat.le_of_ble_eq_true rfl, Nat.le_of_ble_eq_true rfl⟩) ⟨xW_blind _ _ _ _ _, va_recv hKc hPc (ci := 5) (q0 := 0) rfl rfl, xW_pre _ hE hKc hPc hDc⟩ rfl rfl hl.1 rfl (lv_room (Nat.le_of_ble_eq_true rfl)) dX3_tell_37 ⟨Nat.le_of_ble_eq_true rfl, Nat.le_of_ble_eq_true rfl⟩) hS (fun q _ h => hFc q h) hFc (fun u t H1 locs ht hvm h12 hB hz1 hk1 hS => ?_)
    obtain ⟨hP, hD⟩ := va_join (wr := [(lb, .inr (3, [.ref un, .ref tx])), (tx, .inl (ct, 10, .inr (.inr (.inr (.inr f11)))))]) (w1 := []) hP hD [5, 6, 7, 2, 3, 4] [0, 1] rfl rfl (by decide) (by decide) hk1 hFc xz_P xz_D
    generalize H1 = H at hP hS ⊢
    replace hP : va_P (dC, dI) vwCl [(lb, .inr (3, [.ref un, .ref tx])), (tx, .inl (ct, 10, .inr (.inr (.inr (.inr f11)))))] H := hP
    replace hD : va_D A [(lb, .inr (3, [.ref un, .ref tx])), (tx, .inl (ct, 10, .inr (.inr (.inr (.inr f11)))))] := hD
    replace hK : va_K (dC, dI) vwCl [(ct, (.object RX5)), (kn, .int), (kl, .int), (kn_7, .int), (kl_8, .int)] s := hK
    refine W.cs (cells' := 3) (slots' := 17) rfl rfl ?_
    exact W.vret hx hb hr (fun t ht hW => ⟨⟨(), rfl, trivial, trivial⟩, hS.F ht⟩) hS.2.2 dX3_tell_40
  · skip
    refine lv_if_ne (tgt := 8) hx hb dX3_tell_4 (by decide) (fun h => absurd (by decide) h) (fun _ => ?_)
    refine W.widen (k := 3) (n := 17) (by decide) (by decide) ?_
    exact W.vret hx hb hr (fun t ht hW => ⟨⟨(), rfl, trivial, trivial⟩, hS.F ht⟩) hS.2.2 dX3_tell_7
set_option maxHeartbeats 4000000 in
set_option maxRecDepth 100000 in
theorem aX_laws (l : Launch) (dC : Nat → ClassId) (dI : Nat → Nat → Nat) (cp tp lb rd bk tn td rg dr pl de su fi ac lr by_ nu lo un tx : Nat) (kn kl ct : ClassId) (g1 : Nat → Int32) (g2 : Nat → Int32) (sz : Nat) (tU : Nat)  (y : Int32) (y_t : Int) (h_y : y.toInt = y_t)  : Met l yX11_laws wsX11_laws ({ frames := 5, cells := 3, slots := 17, locals := 320 }) (va_Pc [.ref cp, .int y] (xWU (dC, dI) [(kn, .int), (kl, .int), (ct, (.object RX5))] [(cp, .inr (11, [.ref tp, .ref lb, .ref rd, .ref bk, .ref tn, .ref td, .ref rg, .ref dr])), (bk, .inr (0, [.ref lb, .ref pl, .int 0, .int 0, .ref de, .ref su, .ref fi, .int 0, .ref ac])), (rd, .inr (4, [.ref tp, .ref lr, .int 0, .int (-1), .int 0, .int 0, .int 0, .int 0, .int 0])), (tp, .inr (8, [.ref by_, .int 0])), (lr, .inr (5, [.ref nu, .ref lo, .int 1])), (nu, .inl (kn, 8, .inl g1)), (lo, .inl (kl, 6, .inl g2)), (lb, .inr (3, [.ref un, .ref tx])), (tx, .inl (ct, 10, .inr (.inr (.inr (.inr (fun _ => none))))))] sz tU)) (va_Qi (fun r (_ : Unit) => (r = 0 ∧ (0 ≤ y_t ∧ y_t ≤ 9)) ∨ (r = (-2) ∧ ¬ (0 ≤ y_t ∧ y_t ≤ 9))) (fun (_ : Unit) _ => True) (va_A [(cp, .inr (11, [.ref tp, .ref lb, .ref rd, .ref bk, .ref tn, .ref td, .ref rg, .ref dr])), (bk, .inr (0, [.ref lb, .ref pl, .int 0, .int 0, .ref de, .ref su, .ref fi, .int 0, .ref ac])), (rd, .inr (4, [.ref tp, .ref lr, .int 0, .int (-1), .int 0, .int 0, .int 0, .int 0, .int 0])), (tp, .inr (8, [.ref by_, .int 0])), (lr, .inr (5, [.ref nu, .ref lo, .int 1])), (nu, .inl (kn, 8, .inl g1)), (lo, .inl (kl, 6, .inl g2)), (lb, .inr (3, [.ref un, .ref tx])), (tx, .inl (ct, 10, .inr (.inr (.inr (.inr (fun _ => none))))))] sz)) 3 17 (va_A [(cp, .inr (11, [.ref tp, .ref lb, .ref rd, .ref bk, .ref tn, .ref td, .ref rg, .ref dr])), (bk, .inr (0, [.ref lb, .ref pl, .int 0, .int 0, .ref de, .ref su, .ref fi, .int 0, .ref ac])), (rd, .inr (4, [.ref tp, .ref lr, .int 0, .int (-1), .int 0, .int 0, .int 0, .int 0, .int 0])), (tp, .inr (8, [.ref by_, .int 0])), (lr, .inr (5, [.ref nu, .ref lo, .int 1])), (nu, .inl (kn, 8, .inl g1)), (lo, .inl (kl, 6, .inl g2)), (lb, .inr (3, [.ref un, .ref tx])), (tx, .inl (ct, 10, .inr (.inr (.inr (.inr (fun _ => none))))))] sz) := by
  refine Met.ofW (cc := cX11_laws) (maxL := 3) (ret := (some .int)) (by decide) rfl ?_
  intro pr_ ev_ s m args below meth cd_ s₁ B hml hv
  obtain ⟨rfl, ⟨hE, hsz, hK, hP, hD0⟩, hU⟩ := hv
  have hx := B.exec
  have hb := B.bytes
  have hr := B.returns
  have hts := atoms_spec (ws := wsX11_laws) B.pre
  have hown : s.vm.findClass RX11 = some m.cls := findClass_of_methodNamed B.named
  have hlocks := B.notSynchronized
  subst hsz
  have hD := hD0.self (sz := s.heap.size)
  generalize hAe : va_A [(cp, .inr (11, [.ref tp, .ref lb, .ref rd, .ref bk, .ref tn, .ref td, .ref rg, .ref dr])), (bk, .inr (0, [.ref lb, .ref pl, .int 0, .int 0, .ref de, .ref su, .ref fi, .int 0, .ref ac])), (rd, .inr (4, [.ref tp, .ref lr, .int 0, .int (-1), .int 0, .int 0, .int 0, .int 0, .int 0])), (tp, .inr (8, [.ref by_, .int 0])), (lr, .inr (5, [.ref nu, .ref lo, .int 1])), (nu, .inl (kn, 8, .inl g1)), (lo, .inl (kl, 6, .inl g2)), (lb, .inr (3, [.ref un, .ref tx])), (tx, .inl (ct, 10, .inr (.inr (.inr (.inr (fun _ => none))))))] s.heap.size = A at hD hU ⊢
  have hA : ∀ q : Nat, s.heap.size ≤ q → A q := fun q h => by rw [← hAe]; exact Or.inr h
  have hS : va_S A s.heap s.heap [] := va_S.rf
  have iX11 : ∀ w ∈ u_ws RX11 TX11 8, w ∈ wsX11_laws := by decide +kernel
  have iX4 : ∀ w ∈ u_ws RX4 TX4 9, w ∈ wsX11_laws := by decide +kernel
  have iX8 : ∀ w ∈ u_ws RX8 TX8 2, w ∈ wsX11_laws := by decide +kernel
  have hl := lv_entry ([.ref cp, .int y]) (n := 3) (Nat.le_of_ble_eq_true rfl)
  rw [lg_entry_eq]
  generalize (lg_sl ([.ref cp, .int y]) ++ List.replicate (3 - (lg_sl ([.ref cp, .int y])).length) Slot.unset).toArray = ls at hl ⊢
  have hl : lv_has ls 3 [(0, .ref cp), (1, .int y)] := hl
  have lo_y := xi_lo y
  have hi_y := xi_hi y
  refine lv_aload_n hx hb dX11_laws_0 rfl (lv_at hl 0 rfl) ?_
  refine va_get (D := (dC, dI)) (ci := 11) (v := .ref bk) (C := RX11) (T := TX11) (N := 8) hx hb hts iX11 hown hK hP 0 rfl rfl 3 (by decide) (hts (.fieldLink RX11 37 "CapLeague" "books" "LCapLeague$Books;") (by decide +kernel)) (fun _ h9 => h9) rfl dX11_laws_1 ?_
  refine lv_iload_n hx hb dX11_laws_4 rfl (lv_at hl 1 rfl) ?_
  refine vp_callSi (W.runV (As := [.int y]) (rest := []) ⟨hx, hb, hml, hown, hts⟩ (cX0_now l dC dI ([(cp, .inr (11, [.ref tp, .ref lb, .ref rd, .ref bk, .ref tn, .ref td, .ref rg, .ref dr])), (bk, .inr (0, [.ref lb, .ref pl, .int 0, .int 0, .ref de, .ref su, .ref fi, .int 0, .ref ac])), (rd, .inr (4, [.ref tp, .ref lr, .int 0, .int (-1), .int 0, .int 0, .int 0, .int 0, .int 0])), (tp, .inr (8, [.ref by_, .int 0])), (lr, .inr (5, [.ref nu, .ref lo, .int 1])), (nu, .inl (kn, 8, .inl g1)), (lo, .inl (kl, 6, .inl g2)), (lb, .inr (3, [.ref un, .ref tx])), (tx, .inl (ct, 10, .inr (.inr (.inr (.inr (fun _ => none))))))]) ([(kn, .int), (kl, .int), (ct, (.object RX5))]) 1 rfl y (y.toInt) rfl) (cwV 1 hts gX11_laws_X0_isNowOrLater rfl rfl rfl (by decide +kernel) ⟨Nat.le_of_ble_eq_true rfl, Nat.le_of_ble_eq_true rfl⟩) ⟨xR_blind _ _ _ _, va_recv hK hP (ci := 0) (q0 := 1) rfl rfl, xR_pre _ hE hK hP⟩ rfl rfl hl.1 rfl (lv_room (Nat.le_of_ble_eq_true rfl)) dX11_laws_5 ⟨Nat.le_of_ble_eq_true rfl, Nat.le_of_ble_eq_true rfl⟩) (fun rh1 h1 => ?_)
  rcases h1 with ⟨rfl, h1⟩ | ⟨rfl, h1⟩
  · skip
    refine lv_if_eq (tgt := 21) hx hb dX11_laws_8 (by decide) (fun h => absurd h (by decide)) (fun _ => ?_)
    refine lv_aload_n hx hb dX11_laws_11 rfl (lv_at hl 0 rfl) ?_
    refine va_get (D := (dC, dI)) (ci := 11) (v := .ref rd) (C := RX11) (T := TX11) (N := 8) hx hb hts iX11 hown hK hP 0 rfl rfl 2 (by decide) (hts (.fieldLink RX11 28 "CapLeague" "reader" "LCapLeague$LawReader;") (by decide +kernel)) (fun _ h9 => h9) rfl dX11_laws_12 ?_
    have hPc := hP.sub (ws' := [(rd, .inr (4, [.ref tp, .ref lr, .int 0, .int (-1), .int 0, .int 0, .int 0, .int 0, .int 0])), (tp, .inr (8, [.ref by_, .int 0])), (lr, .inr (5, [.ref nu, .ref lo, .int 1])), (nu, .inl (kn, 8, .inl g1)), (lo, .inl (kl, 6, .inl g2))]) [2, 3, 4, 5, 6] rfl
    have hDc := hD.sub (ws' := [(rd, .inr (4, [.ref tp, .ref lr, .int 0, .int (-1), .int 0, .int 0, .int 0, .int 0, .int 0])), (tp, .inr (8, [.ref by_, .int 0])), (lr, .inr (5, [.ref nu, .ref lo, .int 1])), (nu, .inl (kn, 8, .inl g1)), (lo, .inl (kl, 6, .inl g2))]) [2, 3, 4, 5, 6] (by decide) rfl
    have hKc := hK.sub (tys' := [(kn, .int), (kl, .int)]) [0, 1] rfl
    have hFc := va_free (wc := [(rd, .inr (4, [.ref tp, .ref lr, .int 0, .int (-1), .int 0, .int 0, .int 0, .int 0, .int 0])), (tp, .inr (8, [.ref by_, .int 0])), (lr, .inr (5, [.ref nu, .ref lo, .int 1])), (nu, .inl (kn, 8, .inl g1)), (lo, .inl (kl, 6, .inl g2))]) hD hS hA [2, 3, 4, 5, 6] rfl
    refine va_calli (va_runV (As := []) (rest := []) ⟨hx, hb, hml, hown, hts⟩ (wX4_text l dC dI rd tp lr by_ nu lo kn kl g1 g2  _ tU) (cwV 0 hts gX11_laws_X4_readText rfl rfl rfl (by decide +kernel) ⟨Nat.le_of_ble_eq_true rfl, Nat.le_of_ble_eq_true rfl⟩) ⟨xWU_blind _ _ _ _ _ _, va_recv hKc hPc (ci := 4) (q0 := 0) rfl rfl, xWU_pre _ hE hKc hPc hDc hU hS hFc⟩ rfl rfl hl.1 rfl (lv_room (Nat.le_of_ble_eq_true rfl)) dX11_laws_15 ⟨Nat.le_of_ble_eq_true rfl, Nat.le_of_ble_eq_true rfl⟩) hS (fun q _ h => hFc q h) hFc (fun rh3 u t H1 locs ht hvm h3 hB hz1 hk1 hS => ?_)
    obtain ⟨fn_4, fl_5, hP1, hK1, hD1⟩ := hB
    rw [ht] at hP1
    have hK1 := va_K.moved hvm.symm hK1
    obtain ⟨hP, hD⟩ := va_join (wr := [(cp, .inr (11, [.ref tp, .ref lb, .ref rd, .ref bk, .ref tn, .ref td, .ref rg, .ref dr])), (bk, .inr (0, [.ref lb, .ref pl, .int 0, .int 0, .ref de, .ref su, .ref fi, .int 0, .ref ac])), (lb, .inr (3, [.ref un, .ref tx])), (tx, .inl (ct, 10, .inr (.inr (.inr (.inr (fun _ => none))))))]) (w1 := [(rd, .inr (4, [.ref tp, .ref lr, .int 0, .int (-1), .int 0, .int 0, .int 0, .int 0, .int 0])), (tp, .inr (8, [.ref by_, .int 0])), (lr, .inr (5, [.ref nu, .ref lo, .int 1])), (nu, .inl (kn, 8, .inl fn_4)), (lo, .inl (kl, 6, .inl fl_5))]) hP hD [2, 3, 4, 5, 6] [0, 1, 7, 8] rfl rfl (by decide) (by decide) hk1 hFc hP1 hD1
    replace hK := hK.app hK1
    generalize H1 = H at hP hS ⊢
    replace hP : va_P (dC, dI) vwCl [(cp, .inr (11, [.ref tp, .ref lb, .ref rd, .ref bk, .ref tn, .ref td, .ref rg, .ref dr])), (bk, .inr (0, [.ref lb, .ref pl, .int 0, .int 0, .ref de, .ref su, .ref fi, .int 0, .ref ac])), (lb, .inr (3, [.ref un, .ref tx])), (tx, .inl (ct, 10, .inr (.inr (.inr (.inr (fun _ => none)))))), (rd, .inr (4, [.ref tp, .ref lr, .int 0, .int (-1), .int 0, .int 0, .int 0, .int 0, .int 0])), (tp, .inr (8, [.ref by_, .int 0])), (lr, .inr (5, [.ref nu, .ref lo, .int 1])), (nu, .inl (kn, 8, .inl fn_4)), (lo, .inl (kl, 6, .inl fl_5))] H := hP
    replace hD : va_D A [(cp, .inr (11, [.ref tp, .ref lb, .ref rd, .ref bk, .ref tn, .ref td, .ref rg, .ref dr])), (bk, .inr (0, [.ref lb, .ref pl, .int 0, .int 0, .ref de, .ref su, .ref fi, .int 0, .ref ac])), (lb, .inr (3, [.ref un, .ref tx])), (tx, .inl (ct, 10, .inr (.inr (.inr (.inr (fun _ => none)))))), (rd, .inr (4, [.ref tp, .ref lr, .int 0, .int (-1), .int 0, .int 0, .int 0, .int 0, .int 0])), (tp, .inr (8, [.ref by_, .int 0])), (lr, .inr (5, [.ref nu, .ref lo, .int 1])), (nu, .inl (kn, 8, .inl fn_4)), (lo, .inl (kl, 6, .inl fl_5))] := hD
    replace hK : va_K (dC, dI) vwCl [(kn, .int), (kl, .int), (ct, (.object RX5)), (kn, .int), (kl, .int)] s := hK
    refine W.cs (cells' := 0) (slots' := 0) rfl rfl ?_
    obtain ⟨rfl, h3⟩ := h3
    refine lv_goto (tgt := 23) hx hb dX11_laws_18 (by decide) ?_
    refine lv_istore_n (lv' := [(2, .int 0), (0, .ref cp), (1, .int y)]) hx hb dX11_laws_23 rfl hl (by decide) rfl (fun ls hl => ?_)
    refine lv_iload_n hx hb dX11_laws_24 rfl (lv_at hl 0 rfl) ?_
    refine lv_if_lt (tgt := 43) hx hb dX11_laws_25 (by decide) (fun h => absurd h (by decide)) (fun _ => ?_)
    refine lv_aload_n hx hb dX11_laws_28 rfl (lv_at hl 1 rfl) ?_
    refine va_get (D := (dC, dI)) (ci := 11) (v := .ref lb) (C := RX11) (T := TX11) (N := 8) hx hb hts iX11 hown hK hP 0 rfl rfl 1 (by decide) (hts (.fieldLink RX11 19 "CapLeague" "lawBook" "LCapLeague$LawBook;") (by decide +kernel)) (fun _ h9 => h9) rfl dX11_laws_29 ?_
    refine lv_iload_n hx hb dX11_laws_32 rfl (lv_at hl 2 rfl) ?_
    refine lv_aload_n hx hb dX11_laws_33 rfl (lv_at hl 1 rfl) ?_
    refine va_get (D := (dC, dI)) (ci := 11) (v := .ref rd) (C := RX11) (T := TX11) (N := 8) hx hb hts iX11 hown hK hP 0 rfl rfl 2 (by decide) (hts (.fieldLink RX11 28 "CapLeague" "reader" "LCapLeague$LawReader;") (by decide +kernel)) (fun _ h9 => h9) rfl dX11_laws_34 ?_
    refine va_get (D := (dC, dI)) (ci := 4) (v := .ref lr) (C := RX4) (T := TX4) (N := 9) hx hb hts iX4 hown hK hP 4 rfl rfl 1 (by decide) (hts (.fieldLink RX11 93 "CapLeague$LawReader" "read" "LCapLeague$Laws;") (by decide +kernel)) (fun _ h9 => h9) rfl dX11_laws_37 ?_
    have hPc := hP.sub (ws' := [(lb, .inr (3, [.ref un, .ref tx])), (tx, .inl (ct, 10, .inr (.inr (.inr (.inr (fun _ => none)))))), (lr, .inr (5, [.ref nu, .ref lo, .int 1])), (nu, .inl (kn, 8, .inl fn_4)), (lo, .inl (kl, 6, .inl fl_5))]) [2, 3, 6, 7, 8] rfl
    have hDc := hD.sub (ws' := [(lb, .inr (3, [.ref un, .ref tx])), (tx, .inl (ct, 10, .inr (.inr (.inr (.inr (fun _ => none)))))), (lr, .inr (5, [.ref nu, .ref lo, .int 1])), (nu, .inl (kn, 8, .inl fn_4)), (lo, .inl (kl, 6, .inl fl_5))]) [2, 3, 6, 7, 8] (by decide) rfl
    have hKc := hK.sub (tys' := [(ct, (.object RX5)), (kn, .int), (kl, .int)]) [2, 0, 1] rfl
    have hFc := va_free (wc := [(lb, .inr (3, [.ref un, .ref tx])), (tx, .inl (ct, 10, .inr (.inr (.inr (.inr (fun _ => none)))))), (lr, .inr (5, [.ref nu, .ref lo, .int 1])), (nu, .inl (kn, 8, .inl fn_4)), (lo, .inl (kl, 6, .inl fl_5))]) hD hS hA [2, 3, 6, 7, 8] rfl
    refine va_callv (va_runV (As := [.int y, .ref lr]) (rest := []) ⟨hx, hb, hml, hown, hts⟩ (wX3_tell l dC dI lb lr un tx nu lo ct kn kl fn_4 fl_5  _ tU y (y.toInt) rfl (by omega) (by omega)) (cwV 2 hts gX11_laws_X3_tell rfl rfl rfl (by decide +kernel) ⟨Nat.le_of_ble_eq_true rfl, Nat.le_of_ble_eq_true rfl⟩) ⟨xWU_blind _ _ _ _ _ _, va_recv hKc hPc (ci := 3) (q0 := 0) rfl rfl, xWU_pre _ hE hKc hPc hDc hU hS hFc⟩ rfl rfl hl.1 rfl (lv_room (Nat.le_of_ble_eq_true rfl)) dX11_laws_40 ⟨Nat.le_of_ble_eq_true rfl, Nat.le_of_ble_eq_true rfl⟩) hS (fun q _ h => hFc q h) hFc (fun u t H1 locs ht hvm h7 hB hz1 hk1 hS => ?_)
    obtain ⟨hP, hD⟩ := va_join (wr := [(cp, .inr (11, [.ref tp, .ref lb, .ref rd, .ref bk, .ref tn, .ref td, .ref rg, .ref dr])), (bk, .inr (0, [.ref lb, .ref pl, .int 0, .int 0, .ref de, .ref su, .ref fi, .int 0, .ref ac])), (rd, .inr (4, [.ref tp, .ref lr, .int 0, .int (-1), .int 0, .int 0, .int 0, .int 0, .int 0])), (tp, .inr (8, [.ref by_, .int 0]))]) (w1 := []) hP hD [2, 3, 6, 7, 8] [0, 1, 4, 5] rfl rfl (by decide) (by decide) hk1 hFc xz_P xz_D
    generalize H1 = H at hP hS ⊢
    replace hP : va_P (dC, dI) vwCl [(cp, .inr (11, [.ref tp, .ref lb, .ref rd, .ref bk, .ref tn, .ref td, .ref rg, .ref dr])), (bk, .inr (0, [.ref lb, .ref pl, .int 0, .int 0, .ref de, .ref su, .ref fi, .int 0, .ref ac])), (rd, .inr (4, [.ref tp, .ref lr, .int 0, .int (-1), .int 0, .int 0, .int 0, .int 0, .int 0])), (tp, .inr (8, [.ref by_, .int 0]))] H := hP
    replace hD : va_D A [(cp, .inr (11, [.ref tp, .ref lb, .ref rd, .ref bk, .ref tn, .ref td, .ref rg, .ref dr])), (bk, .inr (0, [.ref lb, .ref pl, .int 0, .int 0, .ref de, .ref su, .ref fi, .int 0, .ref ac])), (rd, .inr (4, [.ref tp, .ref lr, .int 0, .int (-1), .int 0, .int 0, .int 0, .int 0, .int 0])), (tp, .inr (8, [.ref by_, .int 0]))] := hD
    replace hK : va_K (dC, dI) vwCl [(kn, .int), (kl, .int), (ct, (.object RX5)), (kn, .int), (kl, .int)] s := hK
    refine W.cs (cells' := 3) (slots' := 17) rfl rfl ?_
    refine lv_aload_n hx hb dX11_laws_43 rfl (lv_at hl 1 rfl) ?_
    refine va_get (D := (dC, dI)) (ci := 11) (v := .ref tp) (C := RX11) (T := TX11) (N := 8) hx hb hts iX11 hown hK hP 0 rfl rfl 0 (by decide) (hts (.fieldLink RX11 10 "CapLeague" "tape" "LCapLeague$Tape;") (by decide +kernel)) (fun _ h9 => h9) rfl dX11_laws_44 ?_
    refine lv_iconst (v := 0) hx hb dX11_laws_47 (by decide) ?_
    refine va_put (D := (dC, dI)) (ci := 8) (v := .int 0) (ty := .int) (C := RX8) (T := TX8) (N := 2) hx hb hts iX8 tyX8 tyX8_ok nmX8 hown hK hP hD hS 3 rfl rfl 1 (by decide) (hts (.fieldLink RX11 81 "CapLeague$Tape" "size" "I") (by decide +kernel)) (fun _ h9 => h9) rfl (by decide +kernel) rfl rfl (Nat.le_of_ble_eq_true rfl) dX11_laws_48 (fun H locs hP hD hS => ?_)
    replace hP : va_P (dC, dI) vwCl [(cp, .inr (11, [.ref tp, .ref lb, .ref rd, .ref bk, .ref tn, .ref td, .ref rg, .ref dr])), (bk, .inr (0, [.ref lb, .ref pl, .int 0, .int 0, .ref de, .ref su, .ref fi, .int 0, .ref ac])), (rd, .inr (4, [.ref tp, .ref lr, .int 0, .int (-1), .int 0, .int 0, .int 0, .int 0, .int 0])), (tp, .inr (8, [.ref by_, .int 0]))] H := hP
    replace hD : va_D A [(cp, .inr (11, [.ref tp, .ref lb, .ref rd, .ref bk, .ref tn, .ref td, .ref rg, .ref dr])), (bk, .inr (0, [.ref lb, .ref pl, .int 0, .int 0, .ref de, .ref su, .ref fi, .int 0, .ref ac])), (rd, .inr (4, [.ref tp, .ref lr, .int 0, .int (-1), .int 0, .int 0, .int 0, .int 0, .int 0])), (tp, .inr (8, [.ref by_, .int 0]))] := hD
    refine lv_iload_n hx hb dX11_laws_51 rfl (lv_at hl 0 rfl) ?_
    exact W.iret (v := 0) hx hb hr (fun t ht hW => ⟨⟨0, (), rfl, by first | exact Or.inl ⟨by first | rfl | exact xi_k (k := 0) (by decide) (by omega), by first | trivial | omega⟩ | exact Or.inr (⟨by first | rfl | exact xi_k (k := (-2)) (by decide) (by omega), by first | trivial | omega⟩), trivial⟩, hS.F ht⟩) hS.2.2 dX11_laws_52
  · skip
    refine lv_if_eq (tgt := 21) hx hb dX11_laws_8 (by decide) (fun _ => ?_) (fun h => absurd (by decide) h)
    refine lv_bipush (v := (-2)) hx hb dX11_laws_21 (by decide) ?_
    refine lv_istore_n (lv' := [(2, .int (-2)), (0, .ref cp), (1, .int y)]) hx hb dX11_laws_23 rfl hl (by decide) rfl (fun ls hl => ?_)
    refine lv_iload_n hx hb dX11_laws_24 rfl (lv_at hl 0 rfl) ?_
    refine lv_if_lt (tgt := 43) hx hb dX11_laws_25 (by decide) (fun _ => ?_) (fun h => absurd (by decide) h)
    refine lv_aload_n hx hb dX11_laws_43 rfl (lv_at hl 1 rfl) ?_
    refine va_get (D := (dC, dI)) (ci := 11) (v := .ref tp) (C := RX11) (T := TX11) (N := 8) hx hb hts iX11 hown hK hP 0 rfl rfl 0 (by decide) (hts (.fieldLink RX11 10 "CapLeague" "tape" "LCapLeague$Tape;") (by decide +kernel)) (fun _ h9 => h9) rfl dX11_laws_44 ?_
    refine lv_iconst (v := 0) hx hb dX11_laws_47 (by decide) ?_
    refine va_put (D := (dC, dI)) (ci := 8) (v := .int 0) (ty := .int) (C := RX8) (T := TX8) (N := 2) hx hb hts iX8 tyX8 tyX8_ok nmX8 hown hK hP hD hS 3 rfl rfl 1 (by decide) (hts (.fieldLink RX11 81 "CapLeague$Tape" "size" "I") (by decide +kernel)) (fun _ h9 => h9) rfl (by decide +kernel) rfl rfl (Nat.le_of_ble_eq_true rfl) dX11_laws_48 (fun H locs hP hD hS => ?_)
    replace hP : va_P (dC, dI) vwCl [(cp, .inr (11, [.ref tp, .ref lb, .ref rd, .ref bk, .ref tn, .ref td, .ref rg, .ref dr])), (bk, .inr (0, [.ref lb, .ref pl, .int 0, .int 0, .ref de, .ref su, .ref fi, .int 0, .ref ac])), (rd, .inr (4, [.ref tp, .ref lr, .int 0, .int (-1), .int 0, .int 0, .int 0, .int 0, .int 0])), (tp, .inr (8, [.ref by_, .int 0])), (lr, .inr (5, [.ref nu, .ref lo, .int 1])), (nu, .inl (kn, 8, .inl g1)), (lo, .inl (kl, 6, .inl g2)), (lb, .inr (3, [.ref un, .ref tx])), (tx, .inl (ct, 10, .inr (.inr (.inr (.inr (fun _ => none))))))] H := hP
    replace hD : va_D A [(cp, .inr (11, [.ref tp, .ref lb, .ref rd, .ref bk, .ref tn, .ref td, .ref rg, .ref dr])), (bk, .inr (0, [.ref lb, .ref pl, .int 0, .int 0, .ref de, .ref su, .ref fi, .int 0, .ref ac])), (rd, .inr (4, [.ref tp, .ref lr, .int 0, .int (-1), .int 0, .int 0, .int 0, .int 0, .int 0])), (tp, .inr (8, [.ref by_, .int 0])), (lr, .inr (5, [.ref nu, .ref lo, .int 1])), (nu, .inl (kn, 8, .inl g1)), (lo, .inl (kl, 6, .inl g2)), (lb, .inr (3, [.ref un, .ref tx])), (tx, .inl (ct, 10, .inr (.inr (.inr (.inr (fun _ => none))))))] := hD
    refine lv_iload_n hx hb dX11_laws_51 rfl (lv_at hl 0 rfl) ?_
    refine W.widen (k := 3) (n := 17) (by decide) (by decide) ?_
    exact W.iret (v := (-2)) hx hb hr (fun t ht hW => ⟨⟨(-2), (), rfl, by first | exact Or.inl ⟨by first | rfl | exact xi_k (k := 0) (by decide) (by omega), by first | trivial | omega⟩ | exact Or.inr (⟨by first | rfl | exact xi_k (k := (-2)) (by decide) (by omega), by first | trivial | omega⟩), trivial⟩, hS.F ht⟩) hS.2.2 dX11_laws_52
