set_option maxHeartbeats 4000000 in
set_option maxRecDepth 100000 in
theorem wX9_clear (l : Launch) (dC : Nat → ClassId) (dI : Nat → Nat → Nat) (td bk tn cg tt th tf to ts : Nat)  (sz : Nat)    : Met l yX9_clear wsX9_clear ({ frames := 1, cells := 0, slots := 0, locals := 64 }) (va_Pc [.ref td] (xW (dC, dI) [] [(td, .inr (9, [.ref bk, .ref tn, .ref cg, .int 0, .int 0, .ref tt, .ref th, .ref tf, .ref to, .ref ts]))] sz)) (va_Qv (fun (_ : Unit) => True) (fun (_ : Unit) t => va_P (dC, dI) vwCl [(td, .inr (9, [.ref bk, .ref tn, .ref cg, .int 0, .int 0, .ref tt, .ref th, .ref tf, .ref to, .ref ts]))] t.heap ∧ va_K (dC, dI) vwCl [] t ∧ va_D (va_A [(td, .inr (9, [.ref bk, .ref tn, .ref cg, .int 0, .int 0, .ref tt, .ref th, .ref tf, .ref to, .ref ts]))] sz) [(td, .inr (9, [.ref bk, .ref tn, .ref cg, .int 0, .int 0, .ref tt, .ref th, .ref tf, .ref to, .ref ts]))]) (va_A [(td, .inr (9, [.ref bk, .ref tn, .ref cg, .int 0, .int 0, .ref tt, .ref th, .ref tf, .ref to, .ref ts]))] sz)) 0 0 (va_A [(td, .inr (9, [.ref bk, .ref tn, .ref cg, .int 0, .int 0, .ref tt, .ref th, .ref tf, .ref to, .ref ts]))] sz) := by
  refine Met.ofW (cc := cX9_clear) (maxL := 1) (ret := none) (by decide) rfl ?_
  intro pr_ ev_ s m args below meth cd_ s₁ B hml hv
  obtain ⟨rfl, hE, hsz, hK, hP, hD0⟩ := hv
  have hx := B.exec
  have hb := B.bytes
  have hr := B.returns
  have hts := atoms_spec (ws := wsX9_clear) B.pre
  have hown : s.vm.findClass RX9 = some m.cls := findClass_of_methodNamed B.named
  have hlocks := B.notSynchronized
  subst hsz
  have hD := hD0.self (sz := s.heap.size)
  generalize hAe : va_A [(td, .inr (9, [.ref bk, .ref tn, .ref cg, .int 0, .int 0, .ref tt, .ref th, .ref tf, .ref to, .ref ts]))] s.heap.size = A at hD ⊢
  have hA : ∀ q : Nat, s.heap.size ≤ q → A q := fun q h => by rw [← hAe]; exact Or.inr h
  have hS : va_S A s.heap s.heap [] := va_S.rf
  have iX9 : ∀ w ∈ u_ws RX9 TX9 10, w ∈ wsX9_clear := by decide +kernel
  have hl := lv_entry ([.ref td]) (n := 1) (Nat.le_of_ble_eq_true rfl)
  rw [lg_entry_eq]
  generalize (lg_sl ([.ref td]) ++ List.replicate (1 - (lg_sl ([.ref td])).length) Slot.unset).toArray = ls at hl ⊢
  have hl : lv_has ls 1 [(0, .ref td)] := hl
  refine lv_aload_n hx hb dX9_clear_0 rfl (lv_at hl 0 rfl) ?_
  refine lv_iconst (v := 0) hx hb dX9_clear_1 (by decide) ?_
  refine va_put (D := (dC, dI)) (ci := 9) (v := .int 0) (ty := .int) (C := RX9) (T := TX9) (N := 10) hx hb hts iX9 tyX9 tyX9_ok nmX9 hown hK hP hD hS 0 rfl rfl 3 (by decide) (hts (.fieldLink RX9 43 "CapLeague$Trade" "size" "I") (by decide +kernel)) (fun _ h9 => h9) rfl (by decide +kernel) rfl rfl (Nat.le_of_ble_eq_true rfl) dX9_clear_2 (fun H locs hP hD hS => ?_)
  replace hP : va_P (dC, dI) vwCl [(td, .inr (9, [.ref bk, .ref tn, .ref cg, .int 0, .int 0, .ref tt, .ref th, .ref tf, .ref to, .ref ts]))] H := hP
  replace hD : va_D A [(td, .inr (9, [.ref bk, .ref tn, .ref cg, .int 0, .int 0, .ref tt, .ref th, .ref tf, .ref to, .ref ts]))] := hD
  refine lv_aload_n hx hb dX9_clear_5 rfl (lv_at hl 0 rfl) ?_
  refine lv_iconst (v := 0) hx hb dX9_clear_6 (by decide) ?_
  refine va_put (D := (dC, dI)) (ci := 9) (v := .int 0) (ty := .int) (C := RX9) (T := TX9) (N := 10) hx hb hts iX9 tyX9 tyX9_ok nmX9 hown hK hP hD hS 0 rfl rfl 4 (by decide) (hts (.fieldLink RX9 47 "CapLeague$Trade" "clubBits" "I") (by decide +kernel)) (fun _ h9 => h9) rfl (by decide +kernel) rfl rfl (Nat.le_of_ble_eq_true rfl) dX9_clear_7 (fun H locs hP hD hS => ?_)
  replace hP : va_P (dC, dI) vwCl [(td, .inr (9, [.ref bk, .ref tn, .ref cg, .int 0, .int 0, .ref tt, .ref th, .ref tf, .ref to, .ref ts]))] H := hP
  replace hD : va_D A [(td, .inr (9, [.ref bk, .ref tn, .ref cg, .int 0, .int 0, .ref tt, .ref th, .ref tf, .ref to, .ref ts]))] := hD
  have hP9 := hP.sub (ws' := [(td, .inr (9, [.ref bk, .ref tn, .ref cg, .int 0, .int 0, .ref tt, .ref th, .ref tf, .ref to, .ref ts]))]) [0] rfl
  have hD9 := hD.sub (ws' := [(td, .inr (9, [.ref bk, .ref tn, .ref cg, .int 0, .int 0, .ref tt, .ref th, .ref tf, .ref to, .ref ts]))]) [0] (by decide) rfl
  have hK9 := hK.sub (tys' := []) [] rfl
  exact W.vret hx hb hr (fun t ht hW => ⟨⟨(), rfl, trivial, ⟨by rw [ht]; exact hP9, va_K.moved hW.alike hK9, hD9⟩⟩, hS.F ht⟩) hS.2.2 dX9_clear_10
set_option maxHeartbeats 4000000 in
set_option maxRecDepth 100000 in
theorem aX_trade (l : Launch) (dC : Nat → ClassId) (dI : Nat → Nat → Nat) (cp tp lb rd bk tn td rg dr cg tt th tf to ts : Nat)  (sz : Nat)    : Met l yX11_trade wsX11_trade ({ frames := 2, cells := 0, slots := 0, locals := 128 }) (va_Pc [.ref cp] (xW (dC, dI) [] [(cp, .inr (11, [.ref tp, .ref lb, .ref rd, .ref bk, .ref tn, .ref td, .ref rg, .ref dr])), (td, .inr (9, [.ref bk, .ref tn, .ref cg, .int 0, .int 0, .ref tt, .ref th, .ref tf, .ref to, .ref ts]))] sz)) (va_Qi (fun r (_ : Unit) => (r = 1 ∧ True)) (fun (_ : Unit) _ => True) (va_A [(cp, .inr (11, [.ref tp, .ref lb, .ref rd, .ref bk, .ref tn, .ref td, .ref rg, .ref dr])), (td, .inr (9, [.ref bk, .ref tn, .ref cg, .int 0, .int 0, .ref tt, .ref th, .ref tf, .ref to, .ref ts]))] sz)) 0 0 (va_A [(cp, .inr (11, [.ref tp, .ref lb, .ref rd, .ref bk, .ref tn, .ref td, .ref rg, .ref dr])), (td, .inr (9, [.ref bk, .ref tn, .ref cg, .int 0, .int 0, .ref tt, .ref th, .ref tf, .ref to, .ref ts]))] sz) := by
  refine Met.ofW (cc := cX11_trade) (maxL := 1) (ret := (some .int)) (by decide) rfl ?_
  intro pr_ ev_ s m args below meth cd_ s₁ B hml hv
  obtain ⟨rfl, hE, hsz, hK, hP, hD0⟩ := hv
  have hx := B.exec
  have hb := B.bytes
  have hr := B.returns
  have hts := atoms_spec (ws := wsX11_trade) B.pre
  have hown : s.vm.findClass RX11 = some m.cls := findClass_of_methodNamed B.named
  have hlocks := B.notSynchronized
  subst hsz
  have hD := hD0.self (sz := s.heap.size)
  generalize hAe : va_A [(cp, .inr (11, [.ref tp, .ref lb, .ref rd, .ref bk, .ref tn, .ref td, .ref rg, .ref dr])), (td, .inr (9, [.ref bk, .ref tn, .ref cg, .int 0, .int 0, .ref tt, .ref th, .ref tf, .ref to, .ref ts]))] s.heap.size = A at hD ⊢
  have hA : ∀ q : Nat, s.heap.size ≤ q → A q := fun q h => by rw [← hAe]; exact Or.inr h
  have hS : va_S A s.heap s.heap [] := va_S.rf
  have iX11 : ∀ w ∈ u_ws RX11 TX11 8, w ∈ wsX11_trade := by decide +kernel
  have hl := lv_entry ([.ref cp]) (n := 1) (Nat.le_of_ble_eq_true rfl)
  rw [lg_entry_eq]
  generalize (lg_sl ([.ref cp]) ++ List.replicate (1 - (lg_sl ([.ref cp])).length) Slot.unset).toArray = ls at hl ⊢
  have hl : lv_has ls 1 [(0, .ref cp)] := hl
  refine lv_aload_n hx hb dX11_trade_0 rfl (lv_at hl 0 rfl) ?_
  refine va_get (D := (dC, dI)) (ci := 11) (v := .ref td) (C := RX11) (T := TX11) (N := 8) hx hb hts iX11 hown hK hP 0 rfl rfl 5 (by decide) (hts (.fieldLink RX11 53 "CapLeague" "bargain" "LCapLeague$Trade;") (by decide +kernel)) (fun _ h9 => h9) rfl dX11_trade_1 ?_
  have hPc := hP.sub (ws' := [(td, .inr (9, [.ref bk, .ref tn, .ref cg, .int 0, .int 0, .ref tt, .ref th, .ref tf, .ref to, .ref ts]))]) [1] rfl
  have hDc := hD.sub (ws' := [(td, .inr (9, [.ref bk, .ref tn, .ref cg, .int 0, .int 0, .ref tt, .ref th, .ref tf, .ref to, .ref ts]))]) [1] (by decide) rfl
  have hKc := hK.sub (tys' := []) [] rfl
  have hFc := va_free (wc := [(td, .inr (9, [.ref bk, .ref tn, .ref cg, .int 0, .int 0, .ref tt, .ref th, .ref tf, .ref to, .ref ts]))]) hD hS hA [1] rfl
  refine va_callv (va_runV (As := []) (rest := []) ⟨hx, hb, hml, hown, hts⟩ (wX9_clear l dC dI td bk tn cg tt th tf to ts    _) (cwV 0 hts gX11_trade_X9_clear rfl rfl rfl (by decide +kernel) ⟨Nat.le_of_ble_eq_true rfl, Nat.le_of_ble_eq_true rfl⟩) ⟨xW_blind _ _ _ _ _, va_recv hKc hPc (ci := 9) (q0 := 0) rfl rfl, xW_pre _ hE hKc hPc hDc⟩ rfl rfl hl.1 rfl (lv_room (Nat.le_of_ble_eq_true rfl)) dX11_trade_4 ⟨Nat.le_of_ble_eq_true rfl, Nat.le_of_ble_eq_true rfl⟩) hS (fun q _ h => hFc q h) hFc (fun u t H1 locs ht hvm h1 hB hz1 hk1 hS => ?_)
  obtain ⟨hP1, hK1, hD1⟩ := hB
  rw [ht] at hP1
  have hK1 := va_K.moved hvm.symm hK1
  obtain ⟨hP, hD⟩ := va_join (wr := [(cp, .inr (11, [.ref tp, .ref lb, .ref rd, .ref bk, .ref tn, .ref td, .ref rg, .ref dr]))]) (w1 := [(td, .inr (9, [.ref bk, .ref tn, .ref cg, .int 0, .int 0, .ref tt, .ref th, .ref tf, .ref to, .ref ts]))]) hP hD [1] [0] rfl rfl (by decide) (by decide) hk1 hFc hP1 hD1
  replace hK := hK.app hK1
  generalize H1 = H at hP hS ⊢
  replace hP : va_P (dC, dI) vwCl [(cp, .inr (11, [.ref tp, .ref lb, .ref rd, .ref bk, .ref tn, .ref td, .ref rg, .ref dr])), (td, .inr (9, [.ref bk, .ref tn, .ref cg, .int 0, .int 0, .ref tt, .ref th, .ref tf, .ref to, .ref ts]))] H := hP
  replace hD : va_D A [(cp, .inr (11, [.ref tp, .ref lb, .ref rd, .ref bk, .ref tn, .ref td, .ref rg, .ref dr])), (td, .inr (9, [.ref bk, .ref tn, .ref cg, .int 0, .int 0, .ref tt, .ref th, .ref tf, .ref to, .ref ts]))] := hD
  replace hK : va_K (dC, dI) vwCl [] s := hK
  refine W.cs (cells' := 0) (slots' := 0) rfl rfl ?_
  refine lv_iconst (v := 1) hx hb dX11_trade_7 (by decide) ?_
  exact W.iret (v := 1) hx hb hr (fun t ht hW => ⟨⟨1, (), rfl, by first | exact ⟨by first | rfl | exact xi_k (k := 1) (by decide) (by omega), by first | trivial | omega⟩, trivial⟩, hS.F ht⟩) hS.2.2 dX11_trade_8
set_option maxHeartbeats 4000000 in
set_option maxRecDepth 100000 in
theorem aX_end (l : Launch) (dC : Nat → ClassId) (dI : Nat → Nat → Nat) (cp tp lb rd bk tn td rg dr by_ : Nat)  (sz : Nat)  (q : Int32) (q_t : Int) (h_q : q.toInt = q_t)  : Met l yX11_end wsX11_end ({ frames := 1, cells := 0, slots := 0, locals := 64 }) (va_Pc [.ref cp, .int q] (xW (dC, dI) [] [(cp, .inr (11, [.ref tp, .ref lb, .ref rd, .ref bk, .ref tn, .ref td, .ref rg, .ref dr])), (tp, .inr (8, [.ref by_, .int 0]))] sz)) (va_Qi (fun r (_ : Unit) => (r = 0 ∧ q_t = 0) ∨ (r = (-1) ∧ q_t ≠ 0)) (fun (_ : Unit) _ => True) (va_A [(cp, .inr (11, [.ref tp, .ref lb, .ref rd, .ref bk, .ref tn, .ref td, .ref rg, .ref dr])), (tp, .inr (8, [.ref by_, .int 0]))] sz)) 0 0 (va_A [(cp, .inr (11, [.ref tp, .ref lb, .ref rd, .ref bk, .ref tn, .ref td, .ref rg, .ref dr])), (tp, .inr (8, [.ref by_, .int 0]))] sz) := by
  refine Met.ofW (cc := cX11_end) (maxL := 2) (ret := (some .int)) (by decide) rfl ?_
  intro pr_ ev_ s m args below meth cd_ s₁ B hml hv
  obtain ⟨rfl, hE, hsz, hK, hP, hD0⟩ := hv
  have hx := B.exec
  have hb := B.bytes
  have hr := B.returns
  have hts := atoms_spec (ws := wsX11_end) B.pre
  have hown : s.vm.findClass RX11 = some m.cls := findClass_of_methodNamed B.named
  have hlocks := B.notSynchronized
  subst hsz
  have hD := hD0.self (sz := s.heap.size)
  generalize hAe : va_A [(cp, .inr (11, [.ref tp, .ref lb, .ref rd, .ref bk, .ref tn, .ref td, .ref rg, .ref dr])), (tp, .inr (8, [.ref by_, .int 0]))] s.heap.size = A at hD ⊢
  have hA : ∀ q : Nat, s.heap.size ≤ q → A q := fun q h => by rw [← hAe]; exact Or.inr h
  have hS : va_S A s.heap s.heap [] := va_S.rf
  have iX11 : ∀ w ∈ u_ws RX11 TX11 8, w ∈ wsX11_end := by decide +kernel
  have iX8 : ∀ w ∈ u_ws RX8 TX8 2, w ∈ wsX11_end := by decide +kernel
  have hl := lv_entry ([.ref cp, .int q]) (n := 2) (Nat.le_of_ble_eq_true rfl)
  rw [lg_entry_eq]
  generalize (lg_sl ([.ref cp, .int q]) ++ List.replicate (2 - (lg_sl ([.ref cp, .int q])).length) Slot.unset).toArray = ls at hl ⊢
  have hl : lv_has ls 2 [(0, .ref cp), (1, .int q)] := hl
  have lo_q := xi_lo q
  have hi_q := xi_hi q
  refine lv_iload_n hx hb dX11_end_0 rfl (lv_at hl 1 rfl) ?_
  refine lv_if_lt (tgt := 15) hx hb dX11_end_1 (by decide) (fun c1 => ?_) (fun c1 => ?_)
  · have ic1 := (xi_lt c1 rfl (by decide) : q.toInt < 0)
    refine lv_iconst (v := (-1)) hx hb dX11_end_15 (by decide) ?_
    exact W.iret (v := (-1)) hx hb hr (fun t ht hW => ⟨⟨(-1), (), rfl, by first | exact Or.inl ⟨by first | rfl | exact xi_k (k := 0) (by decide) (by omega), by first | trivial | omega⟩ | exact Or.inr (⟨by first | rfl | exact xi_k (k := (-1)) (by decide) (by omega), by first | trivial | omega⟩), trivial⟩, hS.F ht⟩) hS.2.2 dX11_end_16
  · have ic1 := (xi_nlt c1 rfl (by decide) : 0 ≤ q.toInt)
    refine lv_iload_n hx hb dX11_end_4 rfl (lv_at hl 1 rfl) ?_
    refine lv_aload_n hx hb dX11_end_5 rfl (lv_at hl 0 rfl) ?_
    refine va_get (D := (dC, dI)) (ci := 11) (v := .ref tp) (C := RX11) (T := TX11) (N := 8) hx hb hts iX11 hown hK hP 0 rfl rfl 0 (by decide) (hts (.fieldLink RX11 10 "CapLeague" "tape" "LCapLeague$Tape;") (by decide +kernel)) (fun _ h9 => h9) rfl dX11_end_6 ?_
    refine va_get (D := (dC, dI)) (ci := 8) (v := .int 0) (C := RX8) (T := TX8) (N := 2) hx hb hts iX8 hown hK hP 1 rfl rfl 1 (by decide) (hts (.fieldLink RX11 81 "CapLeague$Tape" "size" "I") (by decide +kernel)) (fun _ h9 => h9) rfl dX11_end_9 ?_
    refine lv_icmp_le (tgt := 17) hx hb dX11_end_12 (by decide) (fun c2 => ?_) (fun c2 => ?_)
    · have ic2 := (xi_le c2 rfl (by decide) : q.toInt ≤ 0)
      refine lv_aload_n hx hb dX11_end_17 rfl (lv_at hl 0 rfl) ?_
      refine va_get (D := (dC, dI)) (ci := 11) (v := .ref tp) (C := RX11) (T := TX11) (N := 8) hx hb hts iX11 hown hK hP 0 rfl rfl 0 (by decide) (hts (.fieldLink RX11 10 "CapLeague" "tape" "LCapLeague$Tape;") (by decide +kernel)) (fun _ h9 => h9) rfl dX11_end_18 ?_
      refine lv_iload_n hx hb dX11_end_21 rfl (lv_at hl 1 rfl) ?_
      refine va_put (D := (dC, dI)) (ci := 8) (v := .int q) (ty := .int) (C := RX8) (T := TX8) (N := 2) hx hb hts iX8 tyX8 tyX8_ok nmX8 hown hK hP hD hS 1 rfl rfl 1 (by decide) (hts (.fieldLink RX11 81 "CapLeague$Tape" "size" "I") (by decide +kernel)) (fun _ h9 => h9) rfl (by decide +kernel) rfl rfl (Nat.le_of_ble_eq_true rfl) dX11_end_22 (fun H locs hP hD hS => ?_)
      replace hP : va_P (dC, dI) vwCl [(cp, .inr (11, [.ref tp, .ref lb, .ref rd, .ref bk, .ref tn, .ref td, .ref rg, .ref dr])), (tp, .inr (8, [.ref by_, .int q]))] H := hP
      replace hD : va_D A [(cp, .inr (11, [.ref tp, .ref lb, .ref rd, .ref bk, .ref tn, .ref td, .ref rg, .ref dr])), (tp, .inr (8, [.ref by_, .int q]))] := hD
      refine lv_iload_n hx hb dX11_end_25 rfl (lv_at hl 1 rfl) ?_
      exact W.iret (v := q) hx hb hr (fun t ht hW => ⟨⟨q, (), rfl, by first | exact Or.inl ⟨by first | rfl | exact xi_k (k := 0) (by decide) (by omega), by first | trivial | omega⟩ | exact Or.inr (⟨by first | rfl | exact xi_k (k := (-1)) (by decide) (by omega), by first | trivial | omega⟩), trivial⟩, hS.F ht⟩) hS.2.2 dX11_end_26
    · have ic2 := (xi_nle c2 rfl (by decide) : 0 < q.toInt)
      refine lv_iconst (v := (-1)) hx hb dX11_end_15 (by decide) ?_
      exact W.iret (v := (-1)) hx hb hr (fun t ht hW => ⟨⟨(-1), (), rfl, by first | exact Or.inl ⟨by first | rfl | exact xi_k (k := 0) (by decide) (by omega), by first | trivial | omega⟩ | exact Or.inr (⟨by first | rfl | exact xi_k (k := (-1)) (by decide) (by omega), by first | trivial | omega⟩), trivial⟩, hS.F ht⟩) hS.2.2 dX11_end_16
set_option maxHeartbeats 4000000 in
set_option maxRecDepth 100000 in
theorem wX8_append (l : Launch) (dC : Nat → ClassId) (dI : Nat → Nat → Nat) (tp by_ : Nat) (kb : ClassId) (f0 : Nat → Int32) (tz : Int32) (tz_t : Int) (h_tz : tz.toInt = tz_t) (sz : Nat)  (w_ : Int32) (w__t : Int) (h_w_ : w_.toInt = w__t) (ht0 : 0 ≤ tz_t) (ht1 : tz_t ≤ 480) : Met l yX8_append wsX8_append ({ frames := 1, cells := 0, slots := 0, locals := 64 }) (va_Pc [.ref tp, .int w_] (xW (dC, dI) [(kb, .byte)] [(tp, .inr (8, [.ref by_, .int tz])), (by_, .inl (kb, 500, .inl f0))] sz)) (va_Qv (fun (_ : Unit) => True) (fun (_ : Unit) t => ∃ (t2 : Int32) (fb : Nat → Int32), (t2.toInt = tz_t + 4) ∧ va_P (dC, dI) vwCl [(tp, .inr (8, [.ref by_, .int t2])), (by_, .inl (kb, 500, .inl fb))] t.heap ∧ va_K (dC, dI) vwCl [(kb, .byte)] t ∧ va_D (va_A [(tp, .inr (8, [.ref by_, .int tz])), (by_, .inl (kb, 500, .inl f0))] sz) [(tp, .inr (8, [.ref by_, .int t2])), (by_, .inl (kb, 500, .inl fb))]) (va_A [(tp, .inr (8, [.ref by_, .int tz])), (by_, .inl (kb, 500, .inl f0))] sz)) 0 0 (va_A [(tp, .inr (8, [.ref by_, .int tz])), (by_, .inl (kb, 500, .inl f0))] sz) := by
  refine Met.ofW (cc := cX8_append) (maxL := 3) (ret := none) (by decide) rfl ?_
  intro pr_ ev_ s m args below meth cd_ s₁ B hml hv
  obtain ⟨rfl, hE, hsz, hK, hP, hD0⟩ := hv
  have hx := B.exec
  have hb := B.bytes
  have hr := B.returns
  have hts := atoms_spec (ws := wsX8_append) B.pre
  have hown : s.vm.findClass RX8 = some m.cls := findClass_of_methodNamed B.named
  have hlocks := B.notSynchronized
  subst hsz
  have hD := hD0.self (sz := s.heap.size)
  generalize hAe : va_A [(tp, .inr (8, [.ref by_, .int tz])), (by_, .inl (kb, 500, .inl f0))] s.heap.size = A at hD ⊢
  have hA : ∀ q : Nat, s.heap.size ≤ q → A q := fun q h => by rw [← hAe]; exact Or.inr h
  have hS : va_S A s.heap s.heap [] := va_S.rf
  have iX8 : ∀ w ∈ u_ws RX8 TX8 2, w ∈ wsX8_append := by decide +kernel
  have hl := lv_entry ([.ref tp, .int w_]) (n := 3) (Nat.le_of_ble_eq_true rfl)
  rw [lg_entry_eq]
  generalize (lg_sl ([.ref tp, .int w_]) ++ List.replicate (3 - (lg_sl ([.ref tp, .int w_])).length) Slot.unset).toArray = ls at hl ⊢
  have hl : lv_has ls 3 [(0, .ref tp), (1, .int w_)] := hl
  have lo_w_ := xi_lo w_
  have hi_w_ := xi_hi w_
  refine lv_bipush (v := 24) hx hb dX8_append_0 (by decide) ?_
  refine lv_istore_n (lv' := [(2, .int 24), (0, .ref tp), (1, .int w_)]) hx hb dX8_append_2 rfl hl (by decide) rfl (fun ls hl => ?_)
  refine lv_iload_n hx hb dX8_append_3 rfl (lv_at hl 0 rfl) ?_
  refine lv_if_lt (tgt := 48) hx hb dX8_append_4 (by decide) (fun h => absurd h (by decide)) (fun _ => ?_)
  refine lv_aload_n hx hb dX8_append_7 rfl (lv_at hl 1 rfl) ?_
  refine va_get (D := (dC, dI)) (ci := 8) (v := .int tz) (C := RX8) (T := TX8) (N := 2) hx hb hts iX8 hown hK hP 0 rfl rfl 1 (by decide) (hts (.fieldLink RX8 15 "CapLeague$Tape" "size" "I") (by decide +kernel)) (fun _ h9 => h9) rfl dX8_append_8 ?_
  refine lv_aload_n hx hb dX8_append_11 rfl (lv_at hl 1 rfl) ?_
  refine va_get (D := (dC, dI)) (ci := 8) (v := .ref by_) (C := RX8) (T := TX8) (N := 2) hx hb hts iX8 hown hK hP 0 rfl rfl 0 (by decide) (hts (.fieldLink RX8 11 "CapLeague$Tape" "bytes" "[B") (by decide +kernel)) (fun _ h9 => h9) rfl dX8_append_12 ?_
  refine va_alen (D := (dC, dI)) (v := 500) hx hb hK hP 1 0 rfl rfl rfl dX8_append_15 ?_
  refine lv_icmp_ge (tgt := 48) hx hb dX8_append_16 (by decide) (fun h => absurd (xi_le h (by decide) rfl : 500 ≤ tz.toInt) (by omega)) (fun c2 => ?_)
  have ic2 := (xi_nle c2 (by decide) rfl : tz.toInt < 500)
  refine lv_aload_n hx hb dX8_append_19 rfl (lv_at hl 1 rfl) ?_
  refine va_get (D := (dC, dI)) (ci := 8) (v := .ref by_) (C := RX8) (T := TX8) (N := 2) hx hb hts iX8 hown hK hP 0 rfl rfl 0 (by decide) (hts (.fieldLink RX8 11 "CapLeague$Tape" "bytes" "[B") (by decide +kernel)) (fun _ h9 => h9) rfl dX8_append_20 ?_
  refine lv_aload_n hx hb dX8_append_23 rfl (lv_at hl 1 rfl) ?_
  refine va_get (D := (dC, dI)) (ci := 8) (v := .int tz) (C := RX8) (T := TX8) (N := 2) hx hb hts iX8 hown hK hP 0 rfl rfl 1 (by decide) (hts (.fieldLink RX8 15 "CapLeague$Tape" "size" "I") (by decide +kernel)) (fun _ h9 => h9) rfl dX8_append_24 ?_
  refine lv_iload_n hx hb dX8_append_27 rfl (lv_at hl 2 rfl) ?_
  refine lv_iload_n hx hb dX8_append_28 rfl (lv_at hl 0 rfl) ?_
  refine lv_ishr hx hb dX8_append_29 ?_
  refine lv_topi (fun v3 ev3 => ?_)
  clear ev3
  refine lv_i2b hx hb dX8_append_30 rfl ?_
  refine lv_topi (fun v4 ev4 => ?_)
  clear ev4
  refine va_bast (D := (dC, dI)) hx hb hK hP hD hS 1 0 rfl rfl (xi_in (by omega) (by omega)) dX8_append_31 (fun H locs hP hD hS => ?_)
  obtain ⟨f5, ef5⟩ : ∃ g : Nat → Int32, g = upd f0 tz.toNatClampNeg (vp_nar .byte v4) := ⟨_, rfl⟩
  replace hP : va_P (dC, dI) vwCl [(tp, .inr (8, [.ref by_, .int tz])), (by_, .inl (kb, 500, .inl f5))] H := by rw [ef5]; exact hP
  replace hD : va_D A [(tp, .inr (8, [.ref by_, .int tz])), (by_, .inl (kb, 500, .inl f5))] := by rw [ef5]; exact hD
  clear ef5
  refine lv_aload_n hx hb dX8_append_32 rfl (lv_at hl 1 rfl) ?_
  refine lv_dup hx hb dX8_append_33 rfl ?_
  refine va_get (D := (dC, dI)) (ci := 8) (v := .int tz) (C := RX8) (T := TX8) (N := 2) hx hb hts iX8 hown hK hP 0 rfl rfl 1 (by decide) (hts (.fieldLink RX8 15 "CapLeague$Tape" "size" "I") (by decide +kernel)) (fun _ h9 => h9) rfl dX8_append_34 ?_
  refine lv_iconst (v := 1) hx hb dX8_append_37 (by decide) ?_
  refine lv_iadd hx hb dX8_append_38 ?_
  refine lv_topi (fun v6 ev6 => ?_)
  have jv6 : v6.toInt = tz.toInt + 1 := xi_add ev6 rfl (by decide) (by omega) (by omega)
  refine va_put (D := (dC, dI)) (ci := 8) (v := .int v6) (ty := .int) (C := RX8) (T := TX8) (N := 2) hx hb hts iX8 tyX8 tyX8_ok nmX8 hown hK hP hD hS 0 rfl rfl 1 (by decide) (hts (.fieldLink RX8 15 "CapLeague$Tape" "size" "I") (by decide +kernel)) (fun _ h9 => h9) rfl (by decide +kernel) rfl rfl (Nat.le_of_ble_eq_true rfl) dX8_append_39 (fun H locs hP hD hS => ?_)
  replace hP : va_P (dC, dI) vwCl [(tp, .inr (8, [.ref by_, .int v6])), (by_, .inl (kb, 500, .inl f5))] H := hP
  replace hD : va_D A [(tp, .inr (8, [.ref by_, .int v6])), (by_, .inl (kb, 500, .inl f5))] := hD
  refine lv_iinc (v := 16) (lv' := [(2, .int 16), (0, .ref tp), (1, .int w_)]) hx hb dX8_append_42 hl (k := 0) rfl (by decide) (by decide) rfl (fun ls hl => ?_)
  refine lv_goto (tgt := 3) hx hb dX8_append_45 (by decide) ?_
  refine lv_iload_n hx hb dX8_append_3 rfl (lv_at hl 0 rfl) ?_
  refine lv_if_lt (tgt := 48) hx hb dX8_append_4 (by decide) (fun h => absurd h (by decide)) (fun _ => ?_)
  refine lv_aload_n hx hb dX8_append_7 rfl (lv_at hl 1 rfl) ?_
  refine va_get (D := (dC, dI)) (ci := 8) (v := .int v6) (C := RX8) (T := TX8) (N := 2) hx hb hts iX8 hown hK hP 0 rfl rfl 1 (by decide) (hts (.fieldLink RX8 15 "CapLeague$Tape" "size" "I") (by decide +kernel)) (fun _ h9 => h9) rfl dX8_append_8 ?_
  refine lv_aload_n hx hb dX8_append_11 rfl (lv_at hl 1 rfl) ?_
  refine va_get (D := (dC, dI)) (ci := 8) (v := .ref by_) (C := RX8) (T := TX8) (N := 2) hx hb hts iX8 hown hK hP 0 rfl rfl 0 (by decide) (hts (.fieldLink RX8 11 "CapLeague$Tape" "bytes" "[B") (by decide +kernel)) (fun _ h9 => h9) rfl dX8_append_12 ?_
  refine va_alen (D := (dC, dI)) (v := 500) hx hb hK hP 1 0 rfl rfl rfl dX8_append_15 ?_
  refine lv_icmp_ge (tgt := 48) hx hb dX8_append_16 (by decide) (fun h => absurd (xi_le h (by decide) rfl : 500 ≤ v6.toInt) (by omega)) (fun c8 => ?_)
  have ic8 := (xi_nle c8 (by decide) rfl : v6.toInt < 500)
  refine lv_aload_n hx hb dX8_append_19 rfl (lv_at hl 1 rfl) ?_
  refine va_get (D := (dC, dI)) (ci := 8) (v := .ref by_) (C := RX8) (T := TX8) (N := 2) hx hb hts iX8 hown hK hP 0 rfl rfl 0 (by decide) (hts (.fieldLink RX8 11 "CapLeague$Tape" "bytes" "[B") (by decide +kernel)) (fun _ h9 => h9) rfl dX8_append_20 ?_
  refine lv_aload_n hx hb dX8_append_23 rfl (lv_at hl 1 rfl) ?_
  refine va_get (D := (dC, dI)) (ci := 8) (v := .int v6) (C := RX8) (T := TX8) (N := 2) hx hb hts iX8 hown hK hP 0 rfl rfl 1 (by decide) (hts (.fieldLink RX8 15 "CapLeague$Tape" "size" "I") (by decide +kernel)) (fun _ h9 => h9) rfl dX8_append_24 ?_
  refine lv_iload_n hx hb dX8_append_27 rfl (lv_at hl 2 rfl) ?_
  refine lv_iload_n hx hb dX8_append_28 rfl (lv_at hl 0 rfl) ?_
  refine lv_ishr hx hb dX8_append_29 ?_
  refine lv_topi (fun v9 ev9 => ?_)
  clear ev9
  refine lv_i2b hx hb dX8_append_30 rfl ?_
  refine lv_topi (fun v10 ev10 => ?_)
  clear ev10
  refine va_bast (D := (dC, dI)) hx hb hK hP hD hS 1 0 rfl rfl (xi_in (by omega) (by omega)) dX8_append_31 (fun H locs hP hD hS => ?_)
  obtain ⟨f11, ef11⟩ : ∃ g : Nat → Int32, g = upd f5 v6.toNatClampNeg (vp_nar .byte v10) := ⟨_, rfl⟩
  replace hP : va_P (dC, dI) vwCl [(tp, .inr (8, [.ref by_, .int v6])), (by_, .inl (kb, 500, .inl f11))] H := by rw [ef11]; exact hP
  replace hD : va_D A [(tp, .inr (8, [.ref by_, .int v6])), (by_, .inl (kb, 500, .inl f11))] := by rw [ef11]; exact hD
  clear ef11
  refine lv_aload_n hx hb dX8_append_32 rfl (lv_at hl 1 rfl) ?_
  refine lv_dup hx hb dX8_append_33 rfl ?_
  refine va_get (D := (dC, dI)) (ci := 8) (v := .int v6) (C := RX8) (T := TX8) (N := 2) hx hb hts iX8 hown hK hP 0 rfl rfl 1 (by decide) (hts (.fieldLink RX8 15 "CapLeague$Tape" "size" "I") (by decide +kernel)) (fun _ h9 => h9) rfl dX8_append_34 ?_
  refine lv_iconst (v := 1) hx hb dX8_append_37 (by decide) ?_
  refine lv_iadd hx hb dX8_append_38 ?_
  refine lv_topi (fun v12 ev12 => ?_)
  have jv12 : v12.toInt = v6.toInt + 1 := xi_add ev12 rfl (by decide) (by omega) (by omega)
  refine va_put (D := (dC, dI)) (ci := 8) (v := .int v12) (ty := .int) (C := RX8) (T := TX8) (N := 2) hx hb hts iX8 tyX8 tyX8_ok nmX8 hown hK hP hD hS 0 rfl rfl 1 (by decide) (hts (.fieldLink RX8 15 "CapLeague$Tape" "size" "I") (by decide +kernel)) (fun _ h9 => h9) rfl (by decide +kernel) rfl rfl (Nat.le_of_ble_eq_true rfl) dX8_append_39 (fun H locs hP hD hS => ?_)
  replace hP : va_P (dC, dI) vwCl [(tp, .inr (8, [.ref by_, .int v12])), (by_, .inl (kb, 500, .inl f11))] H := hP
  replace hD : va_D A [(tp, .inr (8, [.ref by_, .int v12])), (by_, .inl (kb, 500, .inl f11))] := hD
  refine lv_iinc (v := 8) (lv' := [(2, .int 8), (0, .ref tp), (1, .int w_)]) hx hb dX8_append_42 hl (k := 0) rfl (by decide) (by decide) rfl (fun ls hl => ?_)
  refine lv_goto (tgt := 3) hx hb dX8_append_45 (by decide) ?_
  refine lv_iload_n hx hb dX8_append_3 rfl (lv_at hl 0 rfl) ?_
  refine lv_if_lt (tgt := 48) hx hb dX8_append_4 (by decide) (fun h => absurd h (by decide)) (fun _ => ?_)
  refine lv_aload_n hx hb dX8_append_7 rfl (lv_at hl 1 rfl) ?_
  refine va_get (D := (dC, dI)) (ci := 8) (v := .int v12) (C := RX8) (T := TX8) (N := 2) hx hb hts iX8 hown hK hP 0 rfl rfl 1 (by decide) (hts (.fieldLink RX8 15 "CapLeague$Tape" "size" "I") (by decide +kernel)) (fun _ h9 => h9) rfl dX8_append_8 ?_
  refine lv_aload_n hx hb dX8_append_11 rfl (lv_at hl 1 rfl) ?_
  refine va_get (D := (dC, dI)) (ci := 8) (v := .ref by_) (C := RX8) (T := TX8) (N := 2) hx hb hts iX8 hown hK hP 0 rfl rfl 0 (by decide) (hts (.fieldLink RX8 11 "CapLeague$Tape" "bytes" "[B") (by decide +kernel)) (fun _ h9 => h9) rfl dX8_append_12 ?_
  refine va_alen (D := (dC, dI)) (v := 500) hx hb hK hP 1 0 rfl rfl rfl dX8_append_15 ?_
  refine lv_icmp_ge (tgt := 48) hx hb dX8_append_16 (by decide) (fun h => absurd (xi_le h (by decide) rfl : 500 ≤ v12.toInt) (by omega)) (fun c14 => ?_)
  have ic14 := (xi_nle c14 (by decide) rfl : v12.toInt < 500)
  refine lv_aload_n hx hb dX8_append_19 rfl (lv_at hl 1 rfl) ?_
  refine va_get (D := (dC, dI)) (ci := 8) (v := .ref by_) (C := RX8) (T := TX8) (N := 2) hx hb hts iX8 hown hK hP 0 rfl rfl 0 (by decide) (hts (.fieldLink RX8 11 "CapLeague$Tape" "bytes" "[B") (by decide +kernel)) (fun _ h9 => h9) rfl dX8_append_20 ?_
  refine lv_aload_n hx hb dX8_append_23 rfl (lv_at hl 1 rfl) ?_
  refine va_get (D := (dC, dI)) (ci := 8) (v := .int v12) (C := RX8) (T := TX8) (N := 2) hx hb hts iX8 hown hK hP 0 rfl rfl 1 (by decide) (hts (.fieldLink RX8 15 "CapLeague$Tape" "size" "I") (by decide +kernel)) (fun _ h9 => h9) rfl dX8_append_24 ?_
  refine lv_iload_n hx hb dX8_append_27 rfl (lv_at hl 2 rfl) ?_
  refine lv_iload_n hx hb dX8_append_28 rfl (lv_at hl 0 rfl) ?_
  refine lv_ishr hx hb dX8_append_29 ?_
  refine lv_topi (fun v15 ev15 => ?_)
  clear ev15
  refine lv_i2b hx hb dX8_append_30 rfl ?_
  refine lv_topi (fun v16 ev16 => ?_)
  clear ev16
  refine va_bast (D := (dC, dI)) hx hb hK hP hD hS 1 0 rfl rfl (xi_in (by omega) (by omega)) dX8_append_31 (fun H locs hP hD hS => ?_)
  obtain ⟨f17, ef17⟩ : ∃ g : Nat → Int32, g = upd f11 v12.toNatClampNeg (vp_nar .byte v16) := ⟨_, rfl⟩
  replace hP : va_P (dC, dI) vwCl [(tp, .inr (8, [.ref by_, .int v12])), (by_, .inl (kb, 500, .inl f17))] H := by rw [ef17]; exact hP
  replace hD : va_D A [(tp, .inr (8, [.ref by_, .int v12])), (by_, .inl (kb, 500, .inl f17))] := by rw [ef17]; exact hD
  clear ef17
  refine lv_aload_n hx hb dX8_append_32 rfl (lv_at hl 1 rfl) ?_
  refine lv_dup hx hb dX8_append_33 rfl ?_
  refine va_get (D := (dC, dI)) (ci := 8) (v := .int v12) (C := RX8) (T := TX8) (N := 2) hx hb hts iX8 hown hK hP 0 rfl rfl 1 (by decide) (hts (.fieldLink RX8 15 "CapLeague$Tape" "size" "I") (by decide +kernel)) (fun _ h9 => h9) rfl dX8_append_34 ?_
  refine lv_iconst (v := 1) hx hb dX8_append_37 (by decide) ?_
  refine lv_iadd hx hb dX8_append_38 ?_
  refine lv_topi (fun v18 ev18 => ?_)
  have jv18 : v18.toInt = v12.toInt + 1 := xi_add ev18 rfl (by decide) (by omega) (by omega)
  refine va_put (D := (dC, dI)) (ci := 8) (v := .int v18) (ty := .int) (C := RX8) (T := TX8) (N := 2) hx hb hts iX8 tyX8 tyX8_ok nmX8 hown hK hP hD hS 0 rfl rfl 1 (by decide) (hts (.fieldLink RX8 15 "CapLeague$Tape" "size" "I") (by decide +kernel)) (fun _ h9 => h9) rfl (by decide +kernel) rfl rfl (Nat.le_of_ble_eq_true rfl) dX8_append_39 (fun H locs hP hD hS => ?_)
  replace hP : va_P (dC, dI) vwCl [(tp, .inr (8, [.ref by_, .int v18])), (by_, .inl (kb, 500, .inl f17))] H := hP
  replace hD : va_D A [(tp, .inr (8, [.ref by_, .int v18])), (by_, .inl (kb, 500, .inl f17))] := hD
  refine lv_iinc (v := 0) (lv' := [(2, .int 0), (0, .ref tp), (1, .int w_)]) hx hb dX8_append_42 hl (k := 0) rfl (by decide) (by decide) rfl (fun ls hl => ?_)
  refine lv_goto (tgt := 3) hx hb dX8_append_45 (by decide) ?_
  refine lv_iload_n hx hb dX8_append_3 rfl (lv_at hl 0 rfl) ?_
  refine lv_if_lt (tgt := 48) hx hb dX8_append_4 (by decide) (fun h => absurd h (by decide)) (fun _ => ?_)
  refine lv_aload_n hx hb dX8_append_7 rfl (lv_at hl 1 rfl) ?_
  refine va_get (D := (dC, dI)) (ci := 8) (v := .int v18) (C := RX8) (T := TX8) (N := 2) hx hb hts iX8 hown hK hP 0 rfl rfl 1 (by decide) (hts (.fieldLink RX8 15 "CapLeague$Tape" "size" "I") (by decide +kernel)) (fun _ h9 => h9) rfl dX8_append_8 ?_
  refine lv_aload_n hx hb dX8_append_11 rfl (lv_at hl 1 rfl) ?_
  refine va_get (D := (dC, dI)) (ci := 8) (v := .ref by_) (C := RX8) (T := TX8) (N := 2) hx hb hts iX8 hown hK hP 0 rfl rfl 0 (by decide) (hts (.fieldLink RX8 11 "CapLeague$Tape" "bytes" "[B") (by decide +kernel)) (fun _ h9 => h9) rfl dX8_append_12 ?_
  refine va_alen (D := (dC, dI)) (v := 500) hx hb hK hP 1 0 rfl rfl rfl dX8_append_15 ?_
  refine lv_icmp_ge (tgt := 48) hx hb dX8_append_16 (by decide) (fun h => absurd (xi_le h (by decide) rfl : 500 ≤ v18.toInt) (by omega)) (fun c20 => ?_)
  have ic20 := (xi_nle c20 (by decide) rfl : v18.toInt < 500)
  refine lv_aload_n hx hb dX8_append_19 rfl (lv_at hl 1 rfl) ?_
  refine va_get (D := (dC, dI)) (ci := 8) (v := .ref by_) (C := RX8) (T := TX8) (N := 2) hx hb hts iX8 hown hK hP 0 rfl rfl 0 (by decide) (hts (.fieldLink RX8 11 "CapLeague$Tape" "bytes" "[B") (by decide +kernel)) (fun _ h9 => h9) rfl dX8_append_20 ?_
  refine lv_aload_n hx hb dX8_append_23 rfl (lv_at hl 1 rfl) ?_
  refine va_get (D := (dC, dI)) (ci := 8) (v := .int v18) (C := RX8) (T := TX8) (N := 2) hx hb hts iX8 hown hK hP 0 rfl rfl 1 (by decide) (hts (.fieldLink RX8 15 "CapLeague$Tape" "size" "I") (by decide +kernel)) (fun _ h9 => h9) rfl dX8_append_24 ?_
  refine lv_iload_n hx hb dX8_append_27 rfl (lv_at hl 2 rfl) ?_
  refine lv_iload_n hx hb dX8_append_28 rfl (lv_at hl 0 rfl) ?_
  refine lv_ishr hx hb dX8_append_29 ?_
  refine lv_topi (fun v21 ev21 => ?_)
  clear ev21
  refine lv_i2b hx hb dX8_append_30 rfl ?_
  refine lv_topi (fun v22 ev22 => ?_)
  clear ev22
  refine va_bast (D := (dC, dI)) hx hb hK hP hD hS 1 0 rfl rfl (xi_in (by omega) (by omega)) dX8_append_31 (fun H locs hP hD hS => ?_)
  obtain ⟨f23, ef23⟩ : ∃ g : Nat → Int32, g = upd f17 v18.toNatClampNeg (vp_nar .byte v22) := ⟨_, rfl⟩
  replace hP : va_P (dC, dI) vwCl [(tp, .inr (8, [.ref by_, .int v18])), (by_, .inl (kb, 500, .inl f23))] H := by rw [ef23]; exact hP
  replace hD : va_D A [(tp, .inr (8, [.ref by_, .int v18])), (by_, .inl (kb, 500, .inl f23))] := by rw [ef23]; exact hD
  clear ef23
  refine lv_aload_n hx hb dX8_append_32 rfl (lv_at hl 1 rfl) ?_
  refine lv_dup hx hb dX8_append_33 rfl ?_
  refine va_get (D := (dC, dI)) (ci := 8) (v := .int v18) (C := RX8) (T := TX8) (N := 2) hx hb hts iX8 hown hK hP 0 rfl rfl 1 (by decide) (hts (.fieldLink RX8 15 "CapLeague$Tape" "size" "I") (by decide +kernel)) (fun _ h9 => h9) rfl dX8_append_34 ?_
  refine lv_iconst (v := 1) hx hb dX8_append_37 (by decide) ?_
  refine lv_iadd hx hb dX8_append_38 ?_
  refine lv_topi (fun v24 ev24 => ?_)
  have jv24 : v24.toInt = v18.toInt + 1 := xi_add ev24 rfl (by decide) (by omega) (by omega)
  refine va_put (D := (dC, dI)) (ci := 8) (v := .int v24) (ty := .int) (C := RX8) (T := TX8) (N := 2) hx hb hts iX8 tyX8 tyX8_ok nmX8 hown hK hP hD hS 0 rfl rfl 1 (by decide) (hts (.fieldLink RX8 15 "CapLeague$Tape" "size" "I") (by decide +kernel)) (fun _ h9 => h9) rfl (by decide +kernel) rfl rfl (Nat.le_of_ble_eq_true rfl) dX8_append_39 (fun H locs hP hD hS => ?_)
  replace hP : va_P (dC, dI) vwCl [(tp, .inr (8, [.ref by_, .int v24])), (by_, .inl (kb, 500, .inl f23))] H := hP
  replace hD : va_D A [(tp, .inr (8, [.ref by_, .int v24])), (by_, .inl (kb, 500, .inl f23))] := hD
  refine lv_iinc (v := (-8)) (lv' := [(2, .int (-8)), (0, .ref tp), (1, .int w_)]) hx hb dX8_append_42 hl (k := 0) rfl (by decide) (by decide) rfl (fun ls hl => ?_)
  refine lv_goto (tgt := 3) hx hb dX8_append_45 (by decide) ?_
  refine lv_iload_n hx hb dX8_append_3 rfl (lv_at hl 0 rfl) ?_
  refine lv_if_lt (tgt := 48) hx hb dX8_append_4 (by decide) (fun _ => ?_) (fun h => absurd (by decide) h)
  have hP9 := hP.sub (ws' := [(tp, .inr (8, [.ref by_, .int v24])), (by_, .inl (kb, 500, .inl f23))]) [0, 1] rfl
  have hD9 := hD.sub (ws' := [(tp, .inr (8, [.ref by_, .int v24])), (by_, .inl (kb, 500, .inl f23))]) [0, 1] (by decide) rfl
  have hK9 := hK.sub (tys' := [(kb, .byte)]) [0] rfl
  exact W.vret hx hb hr (fun t ht hW => ⟨⟨(), rfl, trivial, ⟨v24, f23, by omega, by rw [ht]; exact hP9, va_K.moved hW.alike hK9, hD9⟩⟩, hS.F ht⟩) hS.2.2 dX8_append_48
set_option maxHeartbeats 4000000 in
set_option maxRecDepth 100000 in
theorem aX_feed (l : Launch) (dC : Nat → ClassId) (dI : Nat → Nat → Nat) (cp tp lb rd bk tn td rg dr by_ : Nat) (kb : ClassId)  (sz : Nat)  (a : Int32) (a_t : Int) (h_a : a.toInt = a_t) (b : Int32) (b_t : Int) (h_b : b.toInt = b_t) (c : Int32) (c_t : Int) (h_c : c.toInt = c_t) (d : Int32) (d_t : Int) (h_d : d.toInt = d_t) (f : Int32) (f_t : Int) (h_f : f.toInt = f_t)  : Met l yX11_feed wsX11_feed ({ frames := 2, cells := 0, slots := 0, locals := 128 }) (va_Pc [.ref cp, .int a, .int b, .int c, .int d, .int f] (xW (dC, dI) [(kb, .byte)] [(cp, .inr (11, [.ref tp, .ref lb, .ref rd, .ref bk, .ref tn, .ref td, .ref rg, .ref dr])), (tp, .inr (8, [.ref by_, .int 0])), (by_, .inl (kb, 500, .inl (fun _ => 0)))] sz)) (va_Qi (fun r (_ : Unit) => (r = 20 ∧ True)) (fun (_ : Unit) _ => True) (va_A [(cp, .inr (11, [.ref tp, .ref lb, .ref rd, .ref bk, .ref tn, .ref td, .ref rg, .ref dr])), (tp, .inr (8, [.ref by_, .int 0])), (by_, .inl (kb, 500, .inl (fun _ => 0)))] sz)) 0 0 (va_A [(cp, .inr (11, [.ref tp, .ref lb, .ref rd, .ref bk, .ref tn, .ref td, .ref rg, .ref dr])), (tp, .inr (8, [.ref by_, .int 0])), (by_, .inl (kb, 500, .inl (fun _ => 0)))] sz) := by
  refine Met.ofW (cc := cX11_feed) (maxL := 6) (ret := (some .int)) (by decide) rfl ?_
  intro pr_ ev_ s m args below meth cd_ s₁ B hml hv
  obtain ⟨rfl, hE, hsz, hK, hP, hD0⟩ := hv
  have hx := B.exec
  have hb := B.bytes
  have hr := B.returns
  have hts := atoms_spec (ws := wsX11_feed) B.pre
  have hown : s.vm.findClass RX11 = some m.cls := findClass_of_methodNamed B.named
  have hlocks := B.notSynchronized
  subst hsz
  have hD := hD0.self (sz := s.heap.size)
  generalize hAe : va_A [(cp, .inr (11, [.ref tp, .ref lb, .ref rd, .ref bk, .ref tn, .ref td, .ref rg, .ref dr])), (tp, .inr (8, [.ref by_, .int 0])), (by_, .inl (kb, 500, .inl (fun _ => 0)))] s.heap.size = A at hD ⊢
  have hA : ∀ q : Nat, s.heap.size ≤ q → A q := fun q h => by rw [← hAe]; exact Or.inr h
  have hS : va_S A s.heap s.heap [] := va_S.rf
  have iX11 : ∀ w ∈ u_ws RX11 TX11 8, w ∈ wsX11_feed := by decide +kernel
  have iX8 : ∀ w ∈ u_ws RX8 TX8 2, w ∈ wsX11_feed := by decide +kernel
  have hl := lv_entry ([.ref cp, .int a, .int b, .int c, .int d, .int f]) (n := 6) (Nat.le_of_ble_eq_true rfl)
  rw [lg_entry_eq]
  generalize (lg_sl ([.ref cp, .int a, .int b, .int c, .int d, .int f]) ++ List.replicate (6 - (lg_sl ([.ref cp, .int a, .int b, .int c, .int d, .int f])).length) Slot.unset).toArray = ls at hl ⊢
  have hl : lv_has ls 6 [(0, .ref cp), (1, .int a), (2, .int b), (3, .int c), (4, .int d), (5, .int f)] := hl
  have lo_a := xi_lo a
  have hi_a := xi_hi a
  have lo_b := xi_lo b
  have hi_b := xi_hi b
  have lo_c := xi_lo c
  have hi_c := xi_hi c
  have lo_d := xi_lo d
  have hi_d := xi_hi d
  have lo_f := xi_lo f
  have hi_f := xi_hi f
  refine lv_aload_n hx hb dX11_feed_0 rfl (lv_at hl 0 rfl) ?_
  refine va_get (D := (dC, dI)) (ci := 11) (v := .ref tp) (C := RX11) (T := TX11) (N := 8) hx hb hts iX11 hown hK hP 0 rfl rfl 0 (by decide) (hts (.fieldLink RX11 10 "CapLeague" "tape" "LCapLeague$Tape;") (by decide +kernel)) (fun _ h9 => h9) rfl dX11_feed_1 ?_
  refine vp_callSi (W.runV (As := []) (rest := []) ⟨hx, hb, hml, hown, hts⟩ (cX8_room l dC dI ([(cp, .inr (11, [.ref tp, .ref lb, .ref rd, .ref bk, .ref tn, .ref td, .ref rg, .ref dr])), (tp, .inr (8, [.ref by_, .int 0])), (by_, .inl (kb, 500, .inl (fun _ => 0)))]) ([(kb, .byte)]) 1 rfl) (cwV 0 hts gX11_feed_X8_hasRoom rfl rfl rfl (by decide +kernel) ⟨Nat.le_of_ble_eq_true rfl, Nat.le_of_ble_eq_true rfl⟩) ⟨xR_blind _ _ _ _, va_recv hK hP (ci := 8) (q0 := 1) rfl rfl, xR_pre _ hE hK hP⟩ rfl rfl hl.1 rfl (lv_room (Nat.le_of_ble_eq_true rfl)) dX11_feed_4 ⟨Nat.le_of_ble_eq_true rfl, Nat.le_of_ble_eq_true rfl⟩) (fun rh1 h1 => ?_)
  obtain ⟨rfl, h1⟩ := h1
  refine lv_if_ne (tgt := 13) hx hb dX11_feed_7 (by decide) (fun _ => ?_) (fun h => absurd h (by decide))
  refine lv_aload_n hx hb dX11_feed_13 rfl (lv_at hl 0 rfl) ?_
  refine va_get (D := (dC, dI)) (ci := 11) (v := .ref tp) (C := RX11) (T := TX11) (N := 8) hx hb hts iX11 hown hK hP 0 rfl rfl 0 (by decide) (hts (.fieldLink RX11 10 "CapLeague" "tape" "LCapLeague$Tape;") (by decide +kernel)) (fun _ h9 => h9) rfl dX11_feed_14 ?_
  refine lv_iload_n hx hb dX11_feed_17 rfl (lv_at hl 1 rfl) ?_
  have hPc := hP.sub (ws' := [(tp, .inr (8, [.ref by_, .int 0])), (by_, .inl (kb, 500, .inl (fun _ => 0)))]) [1, 2] rfl
  have hDc := hD.sub (ws' := [(tp, .inr (8, [.ref by_, .int 0])), (by_, .inl (kb, 500, .inl (fun _ => 0)))]) [1, 2] (by decide) rfl
  have hKc := hK.sub (tys' := [(kb, .byte)]) [0] rfl
  have hFc := va_free (wc := [(tp, .inr (8, [.ref by_, .int 0])), (by_, .inl (kb, 500, .inl (fun _ => 0)))]) hD hS hA [1, 2] rfl
  refine va_callv (va_runV (As := [.int a]) (rest := []) ⟨hx, hb, hml, hown, hts⟩ (wX8_append l dC dI tp by_ kb (fun _ => 0) 0 (0) (by decide) _ a (a.toInt) rfl (by omega) (by omega)) (cwV 1 hts gX11_feed_X8_append rfl rfl rfl (by decide +kernel) ⟨Nat.le_of_ble_eq_true rfl, Nat.le_of_ble_eq_true rfl⟩) ⟨xW_blind _ _ _ _ _, va_recv hKc hPc (ci := 8) (q0 := 0) rfl rfl, xW_pre _ hE hKc hPc hDc⟩ rfl rfl hl.1 rfl (lv_room (Nat.le_of_ble_eq_true rfl)) dX11_feed_18 ⟨Nat.le_of_ble_eq_true rfl, Nat.le_of_ble_eq_true rfl⟩) hS (fun q _ h => hFc q h) hFc (fun u t H1 locs ht hvm h3 hB hz1 hk1 hS => ?_)
  obtain ⟨t_4, fb_5, h3_0, hP1, hK1, hD1⟩ := hB
  rw [ht] at hP1
  have hK1 := va_K.moved hvm.symm hK1
  obtain ⟨hP, hD⟩ := va_join (wr := [(cp, .inr (11, [.ref tp, .ref lb, .ref rd, .ref bk, .ref tn, .ref td, .ref rg, .ref dr]))]) (w1 := [(tp, .inr (8, [.ref by_, .int t_4])), (by_, .inl (kb, 500, .inl fb_5))]) hP hD [1, 2] [0] rfl rfl (by decide) (by decide) hk1 hFc hP1 hD1
  replace hK := hK.app hK1
  generalize H1 = H at hP hS ⊢
  replace hP : va_P (dC, dI) vwCl [(cp, .inr (11, [.ref tp, .ref lb, .ref rd, .ref bk, .ref tn, .ref td, .ref rg, .ref dr])), (tp, .inr (8, [.ref by_, .int t_4])), (by_, .inl (kb, 500, .inl fb_5))] H := hP
  replace hD : va_D A [(cp, .inr (11, [.ref tp, .ref lb, .ref rd, .ref bk, .ref tn, .ref td, .ref rg, .ref dr])), (tp, .inr (8, [.ref by_, .int t_4])), (by_, .inl (kb, 500, .inl fb_5))] := hD
  replace hK : va_K (dC, dI) vwCl [(kb, .byte), (kb, .byte)] s := hK
  refine W.cs (cells' := 0) (slots' := 0) rfl rfl ?_
  refine lv_aload_n hx hb dX11_feed_21 rfl (lv_at hl 0 rfl) ?_
  refine va_get (D := (dC, dI)) (ci := 11) (v := .ref tp) (C := RX11) (T := TX11) (N := 8) hx hb hts iX11 hown hK hP 0 rfl rfl 0 (by decide) (hts (.fieldLink RX11 10 "CapLeague" "tape" "LCapLeague$Tape;") (by decide +kernel)) (fun _ h9 => h9) rfl dX11_feed_22 ?_
  refine lv_iload_n hx hb dX11_feed_25 rfl (lv_at hl 2 rfl) ?_
  have hPc := hP.sub (ws' := [(tp, .inr (8, [.ref by_, .int t_4])), (by_, .inl (kb, 500, .inl fb_5))]) [1, 2] rfl
  have hDc := hD.sub (ws' := [(tp, .inr (8, [.ref by_, .int t_4])), (by_, .inl (kb, 500, .inl fb_5))]) [1, 2] (by decide) rfl
  have hKc := hK.sub (tys' := [(kb, .byte)]) [0] rfl
  have hFc := va_free (wc := [(tp, .inr (8, [.ref by_, .int t_4])), (by_, .inl (kb, 500, .inl fb_5))]) hD hS hA [1, 2] rfl
  refine va_callv (va_runV (As := [.int b]) (rest := []) ⟨hx, hb, hml, hown, hts⟩ (wX8_append l dC dI tp by_ kb fb_5 t_4 (t_4.toInt) rfl _ b (b.toInt) rfl (by omega) (by omega)) (cwV 1 hts gX11_feed_X8_append rfl rfl rfl (by decide +kernel) ⟨Nat.le_of_ble_eq_true rfl, Nat.le_of_ble_eq_true rfl⟩) ⟨xW_blind _ _ _ _ _, va_recv hKc hPc (ci := 8) (q0 := 0) rfl rfl, xW_pre _ hE hKc hPc hDc⟩ rfl rfl hl.1 rfl (lv_room (Nat.le_of_ble_eq_true rfl)) dX11_feed_26 ⟨Nat.le_of_ble_eq_true rfl, Nat.le_of_ble_eq_true rfl⟩) hS (fun q _ h => hFc q h) hFc (fun u t H1 locs ht hvm h6 hB hz1 hk1 hS => ?_)
  obtain ⟨t_7, fb_8, h6_0, hP1, hK1, hD1⟩ := hB
  rw [ht] at hP1
  have hK1 := va_K.moved hvm.symm hK1
  obtain ⟨hP, hD⟩ := va_join (wr := [(cp, .inr (11, [.ref tp, .ref lb, .ref rd, .ref bk, .ref tn, .ref td, .ref rg, .ref dr]))]) (w1 := [(tp, .inr (8, [.ref by_, .int t_7])), (by_, .inl (kb, 500, .inl fb_8))]) hP hD [1, 2] [0] rfl rfl (by decide) (by decide) hk1 hFc hP1 hD1
  replace hK := hK.app hK1
  generalize H1 = H at hP hS ⊢
  replace hP : va_P (dC, dI) vwCl [(cp, .inr (11, [.ref tp, .ref lb, .ref rd, .ref bk, .ref tn, .ref td, .ref rg, .ref dr])), (tp, .inr (8, [.ref by_, .int t_7])), (by_, .inl (kb, 500, .inl fb_8))] H := hP
  replace hD : va_D A [(cp, .inr (11, [.ref tp, .ref lb, .ref rd, .ref bk, .ref tn, .ref td, .ref rg, .ref dr])), (tp, .inr (8, [.ref by_, .int t_7])), (by_, .inl (kb, 500, .inl fb_8))] := hD
  replace hK : va_K (dC, dI) vwCl [(kb, .byte), (kb, .byte), (kb, .byte)] s := hK
  refine W.cs (cells' := 0) (slots' := 0) rfl rfl ?_
  refine lv_aload_n hx hb dX11_feed_29 rfl (lv_at hl 0 rfl) ?_
  refine va_get (D := (dC, dI)) (ci := 11) (v := .ref tp) (C := RX11) (T := TX11) (N := 8) hx hb hts iX11 hown hK hP 0 rfl rfl 0 (by decide) (hts (.fieldLink RX11 10 "CapLeague" "tape" "LCapLeague$Tape;") (by decide +kernel)) (fun _ h9 => h9) rfl dX11_feed_30 ?_
  refine lv_iload_n hx hb dX11_feed_33 rfl (lv_at hl 3 rfl) ?_
  have hPc := hP.sub (ws' := [(tp, .inr (8, [.ref by_, .int t_7])), (by_, .inl (kb, 500, .inl fb_8))]) [1, 2] rfl
  have hDc := hD.sub (ws' := [(tp, .inr (8, [.ref by_, .int t_7])), (by_, .inl (kb, 500, .inl fb_8))]) [1, 2] (by decide) rfl
  have hKc := hK.sub (tys' := [(kb, .byte)]) [0] rfl
  have hFc := va_free (wc := [(tp, .inr (8, [.ref by_, .int t_7])), (by_, .inl (kb, 500, .inl fb_8))]) hD hS hA [1, 2] rfl
  refine va_callv (va_runV (As := [.int c]) (rest := []) ⟨hx, hb, hml, hown, hts⟩ (wX8_append l dC dI tp by_ kb fb_8 t_7 (t_7.toInt) rfl _ c (c.toInt) rfl (by omega) (by omega)) (cwV 1 hts gX11_feed_X8_append rfl rfl rfl (by decide +kernel) ⟨Nat.le_of_ble_eq_true rfl, Nat.le_of_ble_eq_true rfl⟩) ⟨xW_blind _ _ _ _ _, va_recv hKc hPc (ci := 8) (q0 := 0) rfl rfl, xW_pre _ hE hKc hPc hDc⟩ rfl rfl hl.1 rfl (lv_room (Nat.le_of_ble_eq_true rfl)) dX11_feed_34 ⟨Nat.le_of_ble_eq_true rfl, Nat.le_of_ble_eq_true rfl⟩) hS (fun q _ h => hFc q h) hFc (fun u t H1 locs ht hvm h9 hB hz1 hk1 hS => ?_)
  obtain ⟨t_10, fb_11, h9_0, hP1, hK1, hD1⟩ := hB
  rw [ht] at hP1
  have hK1 := va_K.moved hvm.symm hK1
  obtain ⟨hP, hD⟩ := va_join (wr := [(cp, .inr (11, [.ref tp, .ref lb, .ref rd, .ref bk, .ref tn, .ref td, .ref rg, .ref dr]))]) (w1 := [(tp, .inr (8, [.ref by_, .int t_10])), (by_, .inl (kb, 500, .inl fb_11))]) hP hD [1, 2] [0] rfl rfl (by decide) (by decide) hk1 hFc hP1 hD1
  replace hK := hK.app hK1
  generalize H1 = H at hP hS ⊢
  replace hP : va_P (dC, dI) vwCl [(cp, .inr (11, [.ref tp, .ref lb, .ref rd, .ref bk, .ref tn, .ref td, .ref rg, .ref dr])), (tp, .inr (8, [.ref by_, .int t_10])), (by_, .inl (kb, 500, .inl fb_11))] H := hP
  replace hD : va_D A [(cp, .inr (11, [.ref tp, .ref lb, .ref rd, .ref bk, .ref tn, .ref td, .ref rg, .ref dr])), (tp, .inr (8, [.ref by_, .int t_10])), (by_, .inl (kb, 500, .inl fb_11))] := hD
  replace hK : va_K (dC, dI) vwCl [(kb, .byte), (kb, .byte), (kb, .byte), (kb, .byte)] s := hK
  refine W.cs (cells' := 0) (slots' := 0) rfl rfl ?_
  refine lv_aload_n hx hb dX11_feed_37 rfl (lv_at hl 0 rfl) ?_
  refine va_get (D := (dC, dI)) (ci := 11) (v := .ref tp) (C := RX11) (T := TX11) (N := 8) hx hb hts iX11 hown hK hP 0 rfl rfl 0 (by decide) (hts (.fieldLink RX11 10 "CapLeague" "tape" "LCapLeague$Tape;") (by decide +kernel)) (fun _ h9 => h9) rfl dX11_feed_38 ?_
  refine lv_iload hx hb dX11_feed_41 (lv_at hl 4 rfl) ?_
  have hPc := hP.sub (ws' := [(tp, .inr (8, [.ref by_, .int t_10])), (by_, .inl (kb, 500, .inl fb_11))]) [1, 2] rfl
  have hDc := hD.sub (ws' := [(tp, .inr (8, [.ref by_, .int t_10])), (by_, .inl (kb, 500, .inl fb_11))]) [1, 2] (by decide) rfl
  have hKc := hK.sub (tys' := [(kb, .byte)]) [0] rfl
  have hFc := va_free (wc := [(tp, .inr (8, [.ref by_, .int t_10])), (by_, .inl (kb, 500, .inl fb_11))]) hD hS hA [1, 2] rfl
  refine va_callv (va_runV (As := [.int d]) (rest := []) ⟨hx, hb, hml, hown, hts⟩ (wX8_append l dC dI tp by_ kb fb_11 t_10 (t_10.toInt) rfl _ d (d.toInt) rfl (by omega) (by omega)) (cwV 1 hts gX11_feed_X8_append rfl rfl rfl (by decide +kernel) ⟨Nat.le_of_ble_eq_true rfl, Nat.le_of_ble_eq_true rfl⟩) ⟨xW_blind _ _ _ _ _, va_recv hKc hPc (ci := 8) (q0 := 0) rfl rfl, xW_pre _ hE hKc hPc hDc⟩ rfl rfl hl.1 rfl (lv_room (Nat.le_of_ble_eq_true rfl)) dX11_feed_43 ⟨Nat.le_of_ble_eq_true rfl, Nat.le_of_ble_eq_true rfl⟩) hS (fun q _ h => hFc q h) hFc (fun u t H1 locs ht hvm h12 hB hz1 hk1 hS => ?_)
  obtain ⟨t_13, fb_14, h12_0, hP1, hK1, hD1⟩ := hB
  rw [ht] at hP1
  have hK1 := va_K.moved hvm.symm hK1
  obtain ⟨hP, hD⟩ := va_join (wr := [(cp, .inr (11, [.ref tp, .ref lb, .ref rd, .ref bk, .ref tn, .ref td, .ref rg, .ref dr]))]) (w1 := [(tp, .inr (8, [.ref by_, .int t_13])), (by_, .inl (kb, 500, .inl fb_14))]) hP hD [1, 2] [0] rfl rfl (by decide) (by decide) hk1 hFc hP1 hD1
  replace hK := hK.app hK1
  generalize H1 = H at hP hS ⊢
  replace hP : va_P (dC, dI) vwCl [(cp, .inr (11, [.ref tp, .ref lb, .ref rd, .ref bk, .ref tn, .ref td, .ref rg, .ref dr])), (tp, .inr (8, [.ref by_, .int t_13])), (by_, .inl (kb, 500, .inl fb_14))] H := hP
  replace hD : va_D A [(cp, .inr (11, [.ref tp, .ref lb, .ref rd, .ref bk, .ref tn, .ref td, .ref rg, .ref dr])), (tp, .inr (8, [.ref by_, .int t_13])), (by_, .inl (kb, 500, .inl fb_14))] := hD
  replace hK : va_K (dC, dI) vwCl [(kb, .byte), (kb, .byte), (kb, .byte), (kb, .byte), (kb, .byte)] s := hK
  refine W.cs (cells' := 0) (slots' := 0) rfl rfl ?_
  refine lv_aload_n hx hb dX11_feed_46 rfl (lv_at hl 0 rfl) ?_
  refine va_get (D := (dC, dI)) (ci := 11) (v := .ref tp) (C := RX11) (T := TX11) (N := 8) hx hb hts iX11 hown hK hP 0 rfl rfl 0 (by decide) (hts (.fieldLink RX11 10 "CapLeague" "tape" "LCapLeague$Tape;") (by decide +kernel)) (fun _ h9 => h9) rfl dX11_feed_47 ?_
  refine lv_iload hx hb dX11_feed_50 (lv_at hl 5 rfl) ?_
  have hPc := hP.sub (ws' := [(tp, .inr (8, [.ref by_, .int t_13])), (by_, .inl (kb, 500, .inl fb_14))]) [1, 2] rfl
  have hDc := hD.sub (ws' := [(tp, .inr (8, [.ref by_, .int t_13])), (by_, .inl (kb, 500, .inl fb_14))]) [1, 2] (by decide) rfl
  have hKc := hK.sub (tys' := [(kb, .byte)]) [0] rfl
  have hFc := va_free (wc := [(tp, .inr (8, [.ref by_, .int t_13])), (by_, .inl (kb, 500, .inl fb_14))]) hD hS hA [1, 2] rfl
  refine va_callv (va_runV (As := [.int f]) (rest := []) ⟨hx, hb, hml, hown, hts⟩ (wX8_append l dC dI tp by_ kb fb_14 t_13 (t_13.toInt) rfl _ f (f.toInt) rfl (by omega) (by omega)) (cwV 1 hts gX11_feed_X8_append rfl rfl rfl (by decide +kernel) ⟨Nat.le_of_ble_eq_true rfl, Nat.le_of_ble_eq_true rfl⟩) ⟨xW_blind _ _ _ _ _, va_recv hKc hPc (ci := 8) (q0 := 0) rfl rfl, xW_pre _ hE hKc hPc hDc⟩ rfl rfl hl.1 rfl (lv_room (Nat.le_of_ble_eq_true rfl)) dX11_feed_52 ⟨Nat.le_of_ble_eq_true rfl, Nat.le_of_ble_eq_true rfl⟩) hS (fun q _ h => hFc q h) hFc (fun u t H1 locs ht hvm h15 hB hz1 hk1 hS => ?_)
  obtain ⟨t_16, fb_17, h15_0, hP1, hK1, hD1⟩ := hB
  rw [ht] at hP1
  have hK1 := va_K.moved hvm.symm hK1
  obtain ⟨hP, hD⟩ := va_join (wr := [(cp, .inr (11, [.ref tp, .ref lb, .ref rd, .ref bk, .ref tn, .ref td, .ref rg, .ref dr]))]) (w1 := [(tp, .inr (8, [.ref by_, .int t_16])), (by_, .inl (kb, 500, .inl fb_17))]) hP hD [1, 2] [0] rfl rfl (by decide) (by decide) hk1 hFc hP1 hD1
  replace hK := hK.app hK1
  generalize H1 = H at hP hS ⊢
  replace hP : va_P (dC, dI) vwCl [(cp, .inr (11, [.ref tp, .ref lb, .ref rd, .ref bk, .ref tn, .ref td, .ref rg, .ref dr])), (tp, .inr (8, [.ref by_, .int t_16])), (by_, .inl (kb, 500, .inl fb_17))] H := hP
  replace hD : va_D A [(cp, .inr (11, [.ref tp, .ref lb, .ref rd, .ref bk, .ref tn, .ref td, .ref rg, .ref dr])), (tp, .inr (8, [.ref by_, .int t_16])), (by_, .inl (kb, 500, .inl fb_17))] := hD
  replace hK : va_K (dC, dI) vwCl [(kb, .byte), (kb, .byte), (kb, .byte), (kb, .byte), (kb, .byte), (kb, .byte)] s := hK
  refine W.cs (cells' := 0) (slots' := 0) rfl rfl ?_
  refine lv_aload_n hx hb dX11_feed_55 rfl (lv_at hl 0 rfl) ?_
  refine va_get (D := (dC, dI)) (ci := 11) (v := .ref tp) (C := RX11) (T := TX11) (N := 8) hx hb hts iX11 hown hK hP 0 rfl rfl 0 (by decide) (hts (.fieldLink RX11 10 "CapLeague" "tape" "LCapLeague$Tape;") (by decide +kernel)) (fun _ h9 => h9) rfl dX11_feed_56 ?_
  refine va_get (D := (dC, dI)) (ci := 8) (v := .int t_16) (C := RX8) (T := TX8) (N := 2) hx hb hts iX8 hown hK hP 1 rfl rfl 1 (by decide) (hts (.fieldLink RX11 81 "CapLeague$Tape" "size" "I") (by decide +kernel)) (fun _ h9 => h9) rfl dX11_feed_59 ?_
  exact W.iret (v := t_16) hx hb hr (fun t ht hW => ⟨⟨t_16, (), rfl, by first | exact ⟨by first | rfl | exact xi_k (k := 20) (by decide) (by omega), by first | trivial | omega⟩, trivial⟩, hS.F ht⟩) hS.2.2 dX11_feed_62
set_option maxHeartbeats 4000000 in
set_option maxRecDepth 100000 in
theorem rX2_isTable (l : Launch) (dC : Nat → ClassId) (dI : Nat → Nat → Nat) (ws : va_W) (tys : List (ClassId × FieldType)) {by_ tp : Nat}  (p0 : Nat) (e0 : ws[p0]? = some (tp, .inr (8, [.ref by_, .int 0])))   : Met l yX2_isTable wsX2_isTable ({ frames := 2, cells := 0, slots := 0, locals := 128 }) (va_Pc [.ref tp] (xR (dC, dI) tys ws)) (vp_Si (fun r => (r = 0 ∧ True))) 0 0 (fun _ => False) := by
  refine Met.ofW (cc := cX2_isTable) (maxL := 4) (ret := (some .boolean)) (by decide) rfl ?_
  intro pr_ ev_ s m args below meth cd_ s₁ B hml hv
  obtain ⟨rfl, hE, hK, hP⟩ := hv
  have hx := B.exec
  have hb := B.bytes
  have hr := B.returns
  have hts := atoms_spec (ws := wsX2_isTable) B.pre
  have hown : s.vm.findClass RX2 = some m.cls := findClass_of_methodNamed B.named
  have hlocks := B.notSynchronized
  have iX8 : ∀ w ∈ u_ws RX8 TX8 2, w ∈ wsX2_isTable := by decide +kernel
  have hl := lv_entry ([.ref tp]) (n := 4) (Nat.le_of_ble_eq_true rfl)
  rw [lg_entry_eq]
  generalize (lg_sl ([.ref tp]) ++ List.replicate (4 - (lg_sl ([.ref tp])).length) Slot.unset).toArray = ls at hl ⊢
  have hl : lv_has ls 4 [(0, .ref tp)] := hl
  refine lv_iconst (v := 0) hx hb dX2_isTable_0 (by decide) ?_
  refine lv_istore_n (lv' := [(1, .int 0), (0, .ref tp)]) hx hb dX2_isTable_1 rfl hl (by decide) rfl (fun ls hl => ?_)
  refine lv_iconst (v := 0) hx hb dX2_isTable_2 (by decide) ?_
  refine lv_istore_n (lv' := [(2, .int 0), (1, .int 0), (0, .ref tp)]) hx hb dX2_isTable_3 rfl hl (by decide) rfl (fun ls hl => ?_)
  refine lv_iload_n hx hb dX2_isTable_4 rfl (lv_at hl 0 rfl) ?_
  refine lv_bipush (v := 8) hx hb dX2_isTable_5 (by decide) ?_
  refine lv_icmp_ge (tgt := 38) hx hb dX2_isTable_7 (by decide) (fun h => absurd h (by decide)) (fun _ => ?_)
  refine lv_aload_n hx hb dX2_isTable_10 rfl (lv_at hl 2 rfl) ?_
  refine lv_iload_n hx hb dX2_isTable_11 rfl (lv_at hl 0 rfl) ?_
  refine vp_callSi (W.runV (As := [.int 0]) (rest := []) ⟨hx, hb, hml, hown, hts⟩ (rX8_at l dC dI ws tys p0 e0 0 (0) (by decide)) (cwV 1 hts gX2_isTable_X8_at rfl rfl rfl (by decide +kernel) ⟨Nat.le_of_ble_eq_true rfl, Nat.le_of_ble_eq_true rfl⟩) ⟨xR_blind _ _ _ _, va_recv hK hP (ci := 8) (q0 := p0) rfl e0, xR_pre _ hE hK hP⟩ rfl rfl hl.1 rfl (lv_room (Nat.le_of_ble_eq_true rfl)) dX2_isTable_12 ⟨Nat.le_of_ble_eq_true rfl, Nat.le_of_ble_eq_true rfl⟩) (fun rh2 h2 => ?_)
  obtain ⟨rfl, h2⟩ := h2
  refine lv_bipush (v := 65) hx hb dX2_isTable_15 (by decide) ?_
  refine lv_isub hx hb dX2_isTable_17 ?_
  refine xw_i (v := (-66)) (by decide) ?_
  refine lv_istore_n (lv' := [(3, .int (-66)), (2, .int 0), (1, .int 0), (0, .ref tp)]) hx hb dX2_isTable_18 rfl hl (by decide) rfl (fun ls hl => ?_)
  refine lv_iload_n hx hb dX2_isTable_19 rfl (lv_at hl 0 rfl) ?_
  refine vp_callSi (xr_of (va_runSN (As := [.int (-66)]) (rest := []) ⟨hx, hb, hml, hown, hts⟩ (cX11_isClub_ l dC dI ws tys (-66) ((-66)) (by decide)) (⟨va_cnB 1 hts gX2_isTable_X11_isClub_n41 rfl rfl rfl (hE.link 12 rfl) (hts (.initialized RX11) (by decide +kernel)) (by decide +kernel) ⟨Nat.le_of_ble_eq_true rfl, Nat.le_of_ble_eq_true rfl⟩, hts (.static yX11_isClub) (by decide +kernel), trivial⟩) ⟨xR_blind _ _ _ _, xR_pre _ hE hK hP⟩ rfl rfl hl.1 rfl (lv_room (Nat.le_of_ble_eq_true rfl)) dX2_isTable_20 ⟨Nat.le_of_ble_eq_true rfl, Nat.le_of_ble_eq_true rfl⟩)) (fun rh3 h3 => ?_)
  rcases h3 with ⟨rfl, h3⟩ | ⟨rfl, h3⟩
  · skip
    exact absurd h3 (by omega)
  · skip
    refine lv_if_eq (tgt := 32) hx hb dX2_isTable_23 (by decide) (fun _ => ?_) (fun h => absurd (by decide) h)
    refine lv_iinc (v := 1) (lv' := [(2, .int 1), (3, .int (-66)), (1, .int 0), (0, .ref tp)]) hx hb dX2_isTable_32 hl (k := 1) rfl (by decide) (by decide) rfl (fun ls hl => ?_)
    refine lv_goto (tgt := 4) hx hb dX2_isTable_35 (by decide) ?_
    refine lv_iload_n hx hb dX2_isTable_4 rfl (lv_at hl 0 rfl) ?_
    refine lv_bipush (v := 8) hx hb dX2_isTable_5 (by decide) ?_
    refine lv_icmp_ge (tgt := 38) hx hb dX2_isTable_7 (by decide) (fun h => absurd h (by decide)) (fun _ => ?_)
    refine lv_aload_n hx hb dX2_isTable_10 rfl (lv_at hl 3 rfl) ?_
    refine lv_iload_n hx hb dX2_isTable_11 rfl (lv_at hl 0 rfl) ?_
    refine vp_callSi (W.runV (As := [.int 1]) (rest := []) ⟨hx, hb, hml, hown, hts⟩ (rX8_at l dC dI ws tys p0 e0 1 (1) (by decide)) (cwV 1 hts gX2_isTable_X8_at rfl rfl rfl (by decide +kernel) ⟨Nat.le_of_ble_eq_true rfl, Nat.le_of_ble_eq_true rfl⟩) ⟨xR_blind _ _ _ _, va_recv hK hP (ci := 8) (q0 := p0) rfl e0, xR_pre _ hE hK hP⟩ rfl rfl hl.1 rfl (lv_room (Nat.le_of_ble_eq_true rfl)) dX2_isTable_12 ⟨Nat.le_of_ble_eq_true rfl, Nat.le_of_ble_eq_true rfl⟩) (fun rh6 h6 => ?_)
    obtain ⟨rfl, h6⟩ := h6
    refine lv_bipush (v := 65) hx hb dX2_isTable_15 (by decide) ?_
    refine lv_isub hx hb dX2_isTable_17 ?_
    refine xw_i (v := (-66)) (by decide) ?_
    refine lv_istore_n (lv' := [(3, .int (-66)), (2, .int 1), (1, .int 0), (0, .ref tp)]) hx hb dX2_isTable_18 rfl hl (by decide) rfl (fun ls hl => ?_)
    refine lv_iload_n hx hb dX2_isTable_19 rfl (lv_at hl 0 rfl) ?_
    refine vp_callSi (xr_of (va_runSN (As := [.int (-66)]) (rest := []) ⟨hx, hb, hml, hown, hts⟩ (cX11_isClub_ l dC dI ws tys (-66) ((-66)) (by decide)) (⟨va_cnB 1 hts gX2_isTable_X11_isClub_n41 rfl rfl rfl (hE.link 12 rfl) (hts (.initialized RX11) (by decide +kernel)) (by decide +kernel) ⟨Nat.le_of_ble_eq_true rfl, Nat.le_of_ble_eq_true rfl⟩, hts (.static yX11_isClub) (by decide +kernel), trivial⟩) ⟨xR_blind _ _ _ _, xR_pre _ hE hK hP⟩ rfl rfl hl.1 rfl (lv_room (Nat.le_of_ble_eq_true rfl)) dX2_isTable_20 ⟨Nat.le_of_ble_eq_true rfl, Nat.le_of_ble_eq_true rfl⟩)) (fun rh7 h7 => ?_)
    rcases h7 with ⟨rfl, h7⟩ | ⟨rfl, h7⟩
    · skip
      exact absurd h7 (by omega)
    · skip
      refine lv_if_eq (tgt := 32) hx hb dX2_isTable_23 (by decide) (fun _ => ?_) (fun h => absurd (by decide) h)
      refine lv_iinc (v := 2) (lv' := [(2, .int 2), (3, .int (-66)), (1, .int 0), (0, .ref tp)]) hx hb dX2_isTable_32 hl (k := 1) rfl (by decide) (by decide) rfl (fun ls hl => ?_)
      refine lv_goto (tgt := 4) hx hb dX2_isTable_35 (by decide) ?_
      refine lv_iload_n hx hb dX2_isTable_4 rfl (lv_at hl 0 rfl) ?_
      refine lv_bipush (v := 8) hx hb dX2_isTable_5 (by decide) ?_
      refine lv_icmp_ge (tgt := 38) hx hb dX2_isTable_7 (by decide) (fun h => absurd h (by decide)) (fun _ => ?_)
      refine lv_aload_n hx hb dX2_isTable_10 rfl (lv_at hl 3 rfl) ?_
      refine lv_iload_n hx hb dX2_isTable_11 rfl (lv_at hl 0 rfl) ?_
      refine vp_callSi (W.runV (As := [.int 2]) (rest := []) ⟨hx, hb, hml, hown, hts⟩ (rX8_at l dC dI ws tys p0 e0 2 (2) (by decide)) (cwV 1 hts gX2_isTable_X8_at rfl rfl rfl (by decide +kernel) ⟨Nat.le_of_ble_eq_true rfl, Nat.le_of_ble_eq_true rfl⟩) ⟨xR_blind _ _ _ _, va_recv hK hP (ci := 8) (q0 := p0) rfl e0, xR_pre _ hE hK hP⟩ rfl rfl hl.1 rfl (lv_room (Nat.le_of_ble_eq_true rfl)) dX2_isTable_12 ⟨Nat.le_of_ble_eq_true rfl, Nat.le_of_ble_eq_true rfl⟩) (fun rh10 h10 => ?_)
      obtain ⟨rfl, h10⟩ := h10
      refine lv_bipush (v := 65) hx hb dX2_isTable_15 (by decide) ?_
      refine lv_isub hx hb dX2_isTable_17 ?_
      refine xw_i (v := (-66)) (by decide) ?_
      refine lv_istore_n (lv' := [(3, .int (-66)), (2, .int 2), (1, .int 0), (0, .ref tp)]) hx hb dX2_isTable_18 rfl hl (by decide) rfl (fun ls hl => ?_)
      refine lv_iload_n hx hb dX2_isTable_19 rfl (lv_at hl 0 rfl) ?_
      refine vp_callSi (xr_of (va_runSN (As := [.int (-66)]) (rest := []) ⟨hx, hb, hml, hown, hts⟩ (cX11_isClub_ l dC dI ws tys (-66) ((-66)) (by decide)) (⟨va_cnB 1 hts gX2_isTable_X11_isClub_n41 rfl rfl rfl (hE.link 12 rfl) (hts (.initialized RX11) (by decide +kernel)) (by decide +kernel) ⟨Nat.le_of_ble_eq_true rfl, Nat.le_of_ble_eq_true rfl⟩, hts (.static yX11_isClub) (by decide +kernel), trivial⟩) ⟨xR_blind _ _ _ _, xR_pre _ hE hK hP⟩ rfl rfl hl.1 rfl (lv_room (Nat.le_of_ble_eq_true rfl)) dX2_isTable_20 ⟨Nat.le_of_ble_eq_true rfl, Nat.le_of_ble_eq_true rfl⟩)) (fun rh11 h11 => ?_)
      rcases h11 with ⟨rfl, h11⟩ | ⟨rfl, h11⟩
      · skip
        exact absurd h11 (by omega)
      · skip
        refine lv_if_eq (tgt := 32) hx hb dX2_isTable_23 (by decide) (fun _ => ?_) (fun h => absurd (by decide) h)
        refine lv_iinc (v := 3) (lv' := [(2, .int 3), (3, .int (-66)), (1, .int 0), (0, .ref tp)]) hx hb dX2_isTable_32 hl (k := 1) rfl (by decide) (by decide) rfl (fun ls hl => ?_)
        refine lv_goto (tgt := 4) hx hb dX2_isTable_35 (by decide) ?_
        refine lv_iload_n hx hb dX2_isTable_4 rfl (lv_at hl 0 rfl) ?_
        refine lv_bipush (v := 8) hx hb dX2_isTable_5 (by decide) ?_
        refine lv_icmp_ge (tgt := 38) hx hb dX2_isTable_7 (by decide) (fun h => absurd h (by decide)) (fun _ => ?_)
        refine lv_aload_n hx hb dX2_isTable_10 rfl (lv_at hl 3 rfl) ?_
        refine lv_iload_n hx hb dX2_isTable_11 rfl (lv_at hl 0 rfl) ?_
        refine vp_callSi (W.runV (As := [.int 3]) (rest := []) ⟨hx, hb, hml, hown, hts⟩ (rX8_at l dC dI ws tys p0 e0 3 (3) (by decide)) (cwV 1 hts gX2_isTable_X8_at rfl rfl rfl (by decide +kernel) ⟨Nat.le_of_ble_eq_true rfl, Nat.le_of_ble_eq_true rfl⟩) ⟨xR_blind _ _ _ _, va_recv hK hP (ci := 8) (q0 := p0) rfl e0, xR_pre _ hE hK hP⟩ rfl rfl hl.1 rfl (lv_room (Nat.le_of_ble_eq_true rfl)) dX2_isTable_12 ⟨Nat.le_of_ble_eq_true rfl, Nat.le_of_ble_eq_true rfl⟩) (fun rh14 h14 => ?_)
        obtain ⟨rfl, h14⟩ := h14
        refine lv_bipush (v := 65) hx hb dX2_isTable_15 (by decide) ?_
        refine lv_isub hx hb dX2_isTable_17 ?_
        refine xw_i (v := (-66)) (by decide) ?_
        refine lv_istore_n (lv' := [(3, .int (-66)), (2, .int 3), (1, .int 0), (0, .ref tp)]) hx hb dX2_isTable_18 rfl hl (by decide) rfl (fun ls hl => ?_)
        refine lv_iload_n hx hb dX2_isTable_19 rfl (lv_at hl 0 rfl) ?_
        refine vp_callSi (xr_of (va_runSN (As := [.int (-66)]) (rest := []) ⟨hx, hb, hml, hown, hts⟩ (cX11_isClub_ l dC dI ws tys (-66) ((-66)) (by decide)) (⟨va_cnB 1 hts gX2_isTable_X11_isClub_n41 rfl rfl rfl (hE.link 12 rfl) (hts (.initialized RX11) (by decide +kernel)) (by decide +kernel) ⟨Nat.le_of_ble_eq_true rfl, Nat.le_of_ble_eq_true rfl⟩, hts (.static yX11_isClub) (by decide +kernel), trivial⟩) ⟨xR_blind _ _ _ _, xR_pre _ hE hK hP⟩ rfl rfl hl.1 rfl (lv_room (Nat.le_of_ble_eq_true rfl)) dX2_isTable_20 ⟨Nat.le_of_ble_eq_true rfl, Nat.le_of_ble_eq_true rfl⟩)) (fun rh15 h15 => ?_)
        rcases h15 with ⟨rfl, h15⟩ | ⟨rfl, h15⟩
        · skip
          exact absurd h15 (by omega)
        · skip
          refine lv_if_eq (tgt := 32) hx hb dX2_isTable_23 (by decide) (fun _ => ?_) (fun h => absurd (by decide) h)
          refine lv_iinc (v := 4) (lv' := [(2, .int 4), (3, .int (-66)), (1, .int 0), (0, .ref tp)]) hx hb dX2_isTable_32 hl (k := 1) rfl (by decide) (by decide) rfl (fun ls hl => ?_)
          refine lv_goto (tgt := 4) hx hb dX2_isTable_35 (by decide) ?_
          refine lv_iload_n hx hb dX2_isTable_4 rfl (lv_at hl 0 rfl) ?_
          refine lv_bipush (v := 8) hx hb dX2_isTable_5 (by decide) ?_
          refine lv_icmp_ge (tgt := 38) hx hb dX2_isTable_7 (by decide) (fun h => absurd h (by decide)) (fun _ => ?_)
          refine lv_aload_n hx hb dX2_isTable_10 rfl (lv_at hl 3 rfl) ?_
          refine lv_iload_n hx hb dX2_isTable_11 rfl (lv_at hl 0 rfl) ?_
          refine vp_callSi (W.runV (As := [.int 4]) (rest := []) ⟨hx, hb, hml, hown, hts⟩ (rX8_at l dC dI ws tys p0 e0 4 (4) (by decide)) (cwV 1 hts gX2_isTable_X8_at rfl rfl rfl (by decide +kernel) ⟨Nat.le_of_ble_eq_true rfl, Nat.le_of_ble_eq_true rfl⟩) ⟨xR_blind _ _ _ _, va_recv hK hP (ci := 8) (q0 := p0) rfl e0, xR_pre _ hE hK hP⟩ rfl rfl hl.1 rfl (lv_room (Nat.le_of_ble_eq_true rfl)) dX2_isTable_12 ⟨Nat.le_of_ble_eq_true rfl, Nat.le_of_ble_eq_true rfl⟩) (fun rh18 h18 => ?_)
          obtain ⟨rfl, h18⟩ := h18
          refine lv_bipush (v := 65) hx hb dX2_isTable_15 (by decide) ?_
          refine lv_isub hx hb dX2_isTable_17 ?_
          refine xw_i (v := (-66)) (by decide) ?_
          refine lv_istore_n (lv' := [(3, .int (-66)), (2, .int 4), (1, .int 0), (0, .ref tp)]) hx hb dX2_isTable_18 rfl hl (by decide) rfl (fun ls hl => ?_)
          refine lv_iload_n hx hb dX2_isTable_19 rfl (lv_at hl 0 rfl) ?_
          refine vp_callSi (xr_of (va_runSN (As := [.int (-66)]) (rest := []) ⟨hx, hb, hml, hown, hts⟩ (cX11_isClub_ l dC dI ws tys (-66) ((-66)) (by decide)) (⟨va_cnB 1 hts gX2_isTable_X11_isClub_n41 rfl rfl rfl (hE.link 12 rfl) (hts (.initialized RX11) (by decide +kernel)) (by decide +kernel) ⟨Nat.le_of_ble_eq_true rfl, Nat.le_of_ble_eq_true rfl⟩, hts (.static yX11_isClub) (by decide +kernel), trivial⟩) ⟨xR_blind _ _ _ _, xR_pre _ hE hK hP⟩ rfl rfl hl.1 rfl (lv_room (Nat.le_of_ble_eq_true rfl)) dX2_isTable_20 ⟨Nat.le_of_ble_eq_true rfl, Nat.le_of_ble_eq_true rfl⟩)) (fun rh19 h19 => ?_)
          rcases h19 with ⟨rfl, h19⟩ | ⟨rfl, h19⟩
          · skip
            exact absurd h19 (by omega)
          · skip
            refine lv_if_eq (tgt := 32) hx hb dX2_isTable_23 (by decide) (fun _ => ?_) (fun h => absurd (by decide) h)
            refine lv_iinc (v := 5) (lv' := [(2, .int 5), (3, .int (-66)), (1, .int 0), (0, .ref tp)]) hx hb dX2_isTable_32 hl (k := 1) rfl (by decide) (by decide) rfl (fun ls hl => ?_)
            refine lv_goto (tgt := 4) hx hb dX2_isTable_35 (by decide) ?_
            refine lv_iload_n hx hb dX2_isTable_4 rfl (lv_at hl 0 rfl) ?_
            refine lv_bipush (v := 8) hx hb dX2_isTable_5 (by decide) ?_
            refine lv_icmp_ge (tgt := 38) hx hb dX2_isTable_7 (by decide) (fun h => absurd h (by decide)) (fun _ => ?_)
            refine lv_aload_n hx hb dX2_isTable_10 rfl (lv_at hl 3 rfl) ?_
            refine lv_iload_n hx hb dX2_isTable_11 rfl (lv_at hl 0 rfl) ?_
            refine vp_callSi (W.runV (As := [.int 5]) (rest := []) ⟨hx, hb, hml, hown, hts⟩ (rX8_at l dC dI ws tys p0 e0 5 (5) (by decide)) (cwV 1 hts gX2_isTable_X8_at rfl rfl rfl (by decide +kernel) ⟨Nat.le_of_ble_eq_true rfl, Nat.le_of_ble_eq_true rfl⟩) ⟨xR_blind _ _ _ _, va_recv hK hP (ci := 8) (q0 := p0) rfl e0, xR_pre _ hE hK hP⟩ rfl rfl hl.1 rfl (lv_room (Nat.le_of_ble_eq_true rfl)) dX2_isTable_12 ⟨Nat.le_of_ble_eq_true rfl, Nat.le_of_ble_eq_true rfl⟩) (fun rh22 h22 => ?_)
            obtain ⟨rfl, h22⟩ := h22
            refine lv_bipush (v := 65) hx hb dX2_isTable_15 (by decide) ?_
            refine lv_isub hx hb dX2_isTable_17 ?_
            refine xw_i (v := (-66)) (by decide) ?_
            refine lv_istore_n (lv' := [(3, .int (-66)), (2, .int 5), (1, .int 0), (0, .ref tp)]) hx hb dX2_isTable_18 rfl hl (by decide) rfl (fun ls hl => ?_)
            refine lv_iload_n hx hb dX2_isTable_19 rfl (lv_at hl 0 rfl) ?_
            refine vp_callSi (xr_of (va_runSN (As := [.int (-66)]) (rest := []) ⟨hx, hb, hml, hown, hts⟩ (cX11_isClub_ l dC dI ws tys (-66) ((-66)) (by decide)) (⟨va_cnB 1 hts gX2_isTable_X11_isClub_n41 rfl rfl rfl (hE.link 12 rfl) (hts (.initialized RX11) (by decide +kernel)) (by decide +kernel) ⟨Nat.le_of_ble_eq_true rfl, Nat.le_of_ble_eq_true rfl⟩, hts (.static yX11_isClub) (by decide +kernel), trivial⟩) ⟨xR_blind _ _ _ _, xR_pre _ hE hK hP⟩ rfl rfl hl.1 rfl (lv_room (Nat.le_of_ble_eq_true rfl)) dX2_isTable_20 ⟨Nat.le_of_ble_eq_true rfl, Nat.le_of_ble_eq_true rfl⟩)) (fun rh23 h23 => ?_)
            rcases h23 with ⟨rfl, h23⟩ | ⟨rfl, h23⟩
            · skip
              exact absurd h23 (by omega)
            · skip
              refine lv_if_eq (tgt := 32) hx hb dX2_isTable_23 (by decide) (fun _ => ?_) (fun h => absurd (by decide) h)
              refine lv_iinc (v := 6) (lv' := [(2, .int 6), (3, .int (-66)), (1, .int 0), (0, .ref tp)]) hx hb dX2_isTable_32 hl (k := 1) rfl (by decide) (by decide) rfl (fun ls hl => ?_)
              refine lv_goto (tgt := 4) hx hb dX2_isTable_35 (by decide) ?_
              refine lv_iload_n hx hb dX2_isTable_4 rfl (lv_at hl 0 rfl) ?_
              refine lv_bipush (v := 8) hx hb dX2_isTable_5 (by decide) ?_
              refine lv_icmp_ge (tgt := 38) hx hb dX2_isTable_7 (by decide) (fun h => absurd h (by decide)) (fun _ => ?_)
              refine lv_aload_n hx hb dX2_isTable_10 rfl (lv_at hl 3 rfl) ?_
              refine lv_iload_n hx hb dX2_isTable_11 rfl (lv_at hl 0 rfl) ?_
              refine vp_callSi (W.runV (As := [.int 6]) (rest := []) ⟨hx, hb, hml, hown, hts⟩ (rX8_at l dC dI ws tys p0 e0 6 (6) (by decide)) (cwV 1 hts gX2_isTable_X8_at rfl rfl rfl (by decide +kernel) ⟨Nat.le_of_ble_eq_true rfl, Nat.le_of_ble_eq_true rfl⟩) ⟨xR_blind _ _ _ _, va_recv hK hP (ci := 8) (q0 := p0) rfl e0, xR_pre _ hE hK hP⟩ rfl rfl hl.1 rfl (lv_room (Nat.le_of_ble_eq_true rfl)) dX2_isTable_12 ⟨Nat.le_of_ble_eq_true rfl, Nat.le_of_ble_eq_true rfl⟩) (fun rh26 h26 => ?_)
              obtain ⟨rfl, h26⟩ := h26
              refine lv_bipush (v := 65) hx hb dX2_isTable_15 (by decide) ?_
              refine lv_isub hx hb dX2_isTable_17 ?_
              refine xw_i (v := (-66)) (by decide) ?_
              refine lv_istore_n (lv' := [(3, .int (-66)), (2, .int 6), (1, .int 0), (0, .ref tp)]) hx hb dX2_isTable_18 rfl hl (by decide) rfl (fun ls hl => ?_)
              refine lv_iload_n hx hb dX2_isTable_19 rfl (lv_at hl 0 rfl) ?_
              refine vp_callSi (xr_of (va_runSN (As := [.int (-66)]) (rest := []) ⟨hx, hb, hml, hown, hts⟩ (cX11_isClub_ l dC dI ws tys (-66) ((-66)) (by decide)) (⟨va_cnB 1 hts gX2_isTable_X11_isClub_n41 rfl rfl rfl (hE.link 12 rfl) (hts (.initialized RX11) (by decide +kernel)) (by decide +kernel) ⟨Nat.le_of_ble_eq_true rfl, Nat.le_of_ble_eq_true rfl⟩, hts (.static yX11_isClub) (by decide +kernel), trivial⟩) ⟨xR_blind _ _ _ _, xR_pre _ hE hK hP⟩ rfl rfl hl.1 rfl (lv_room (Nat.le_of_ble_eq_true rfl)) dX2_isTable_20 ⟨Nat.le_of_ble_eq_true rfl, Nat.le_of_ble_eq_true rfl⟩)) (fun rh27 h27 => ?_)
              rcases h27 with ⟨rfl, h27⟩ | ⟨rfl, h27⟩
              · skip
                exact absurd h27 (by omega)
              · skip
                refine lv_if_eq (tgt := 32) hx hb dX2_isTable_23 (by decide) (fun _ => ?_) (fun h => absurd (by decide) h)
                refine lv_iinc (v := 7) (lv' := [(2, .int 7), (3, .int (-66)), (1, .int 0), (0, .ref tp)]) hx hb dX2_isTable_32 hl (k := 1) rfl (by decide) (by decide) rfl (fun ls hl => ?_)
                refine lv_goto (tgt := 4) hx hb dX2_isTable_35 (by decide) ?_
                refine lv_iload_n hx hb dX2_isTable_4 rfl (lv_at hl 0 rfl) ?_
                refine lv_bipush (v := 8) hx hb dX2_isTable_5 (by decide) ?_
                refine lv_icmp_ge (tgt := 38) hx hb dX2_isTable_7 (by decide) (fun h => absurd h (by decide)) (fun _ => ?_)
                refine lv_aload_n hx hb dX2_isTable_10 rfl (lv_at hl 3 rfl) ?_
                refine lv_iload_n hx hb dX2_isTable_11 rfl (lv_at hl 0 rfl) ?_
                refine vp_callSi (W.runV (As := [.int 7]) (rest := []) ⟨hx, hb, hml, hown, hts⟩ (rX8_at l dC dI ws tys p0 e0 7 (7) (by decide)) (cwV 1 hts gX2_isTable_X8_at rfl rfl rfl (by decide +kernel) ⟨Nat.le_of_ble_eq_true rfl, Nat.le_of_ble_eq_true rfl⟩) ⟨xR_blind _ _ _ _, va_recv hK hP (ci := 8) (q0 := p0) rfl e0, xR_pre _ hE hK hP⟩ rfl rfl hl.1 rfl (lv_room (Nat.le_of_ble_eq_true rfl)) dX2_isTable_12 ⟨Nat.le_of_ble_eq_true rfl, Nat.le_of_ble_eq_true rfl⟩) (fun rh30 h30 => ?_)
                obtain ⟨rfl, h30⟩ := h30
                refine lv_bipush (v := 65) hx hb dX2_isTable_15 (by decide) ?_
                refine lv_isub hx hb dX2_isTable_17 ?_
                refine xw_i (v := (-66)) (by decide) ?_
                refine lv_istore_n (lv' := [(3, .int (-66)), (2, .int 7), (1, .int 0), (0, .ref tp)]) hx hb dX2_isTable_18 rfl hl (by decide) rfl (fun ls hl => ?_)
                refine lv_iload_n hx hb dX2_isTable_19 rfl (lv_at hl 0 rfl) ?_
                refine vp_callSi (xr_of (va_runSN (As := [.int (-66)]) (rest := []) ⟨hx, hb, hml, hown, hts⟩ (cX11_isClub_ l dC dI ws tys (-66) ((-66)) (by decide)) (⟨va_cnB 1 hts gX2_isTable_X11_isClub_n41 rfl rfl rfl (hE.link 12 rfl) (hts (.initialized RX11) (by decide +kernel)) (by decide +kernel) ⟨Nat.le_of_ble_eq_true rfl, Nat.le_of_ble_eq_true rfl⟩, hts (.static yX11_isClub) (by decide +kernel), trivial⟩) ⟨xR_blind _ _ _ _, xR_pre _ hE hK hP⟩ rfl rfl hl.1 rfl (lv_room (Nat.le_of_ble_eq_true rfl)) dX2_isTable_20 ⟨Nat.le_of_ble_eq_true rfl, Nat.le_of_ble_eq_true rfl⟩)) (fun rh31 h31 => ?_)
                rcases h31 with ⟨rfl, h31⟩ | ⟨rfl, h31⟩
                · skip
                  exact absurd h31 (by omega)
                · skip
                  refine lv_if_eq (tgt := 32) hx hb dX2_isTable_23 (by decide) (fun _ => ?_) (fun h => absurd (by decide) h)
                  refine lv_iinc (v := 8) (lv' := [(2, .int 8), (3, .int (-66)), (1, .int 0), (0, .ref tp)]) hx hb dX2_isTable_32 hl (k := 1) rfl (by decide) (by decide) rfl (fun ls hl => ?_)
                  refine lv_goto (tgt := 4) hx hb dX2_isTable_35 (by decide) ?_
                  refine lv_iload_n hx hb dX2_isTable_4 rfl (lv_at hl 0 rfl) ?_
                  refine lv_bipush (v := 8) hx hb dX2_isTable_5 (by decide) ?_
                  refine lv_icmp_ge (tgt := 38) hx hb dX2_isTable_7 (by decide) (fun _ => ?_) (fun h => absurd (by decide) h)
                  refine lv_aload_n hx hb dX2_isTable_38 rfl (lv_at hl 3 rfl) ?_
                  refine va_get (D := (dC, dI)) (ci := 8) (v := .int 0) (C := RX8) (T := TX8) (N := 2) hx hb hts iX8 hown hK hP p0 e0 rfl 1 (by decide) (hts (.fieldLink RX2 44 "CapLeague$Tape" "size" "I") (by decide +kernel)) (fun _ h9 => h9) rfl dX2_isTable_39 ?_
                  refine lv_bipush (v := 8) hx hb dX2_isTable_42 (by decide) ?_
                  refine lv_icmp_ne (tgt := 60) hx hb dX2_isTable_44 (by decide) (fun _ => ?_) (fun h => absurd h (by decide))
                  refine lv_iconst (v := 0) hx hb dX2_isTable_60 (by decide) ?_
                  exact W.zret (v := 0) hx hb hr (by decide) (fun t ht hW => ⟨0, rfl, by first | exact ⟨by first | rfl | exact xi_k (k := 0) (by decide) (by omega), by first | trivial | omega⟩, ht⟩) (fun _ h => by cases h) dX2_isTable_61
set_option maxHeartbeats 4000000 in
set_option maxRecDepth 100000 in
theorem aX_table (l : Launch) (dC : Nat → ClassId) (dI : Nat → Nat → Nat) (cp tp lb rd bk tn td rg dr by_ : Nat)  (sz : Nat)    : Met l yX11_table wsX11_table ({ frames := 3, cells := 0, slots := 0, locals := 192 }) (va_Pc [.ref cp] (xW (dC, dI) [] [(cp, .inr (11, [.ref tp, .ref lb, .ref rd, .ref bk, .ref tn, .ref td, .ref rg, .ref dr])), (tp, .inr (8, [.ref by_, .int 0]))] sz)) (va_Qi (fun r (_ : Unit) => (r = (-1) ∧ True)) (fun (_ : Unit) _ => True) (va_A [(cp, .inr (11, [.ref tp, .ref lb, .ref rd, .ref bk, .ref tn, .ref td, .ref rg, .ref dr])), (tp, .inr (8, [.ref by_, .int 0]))] sz)) 0 0 (va_A [(cp, .inr (11, [.ref tp, .ref lb, .ref rd, .ref bk, .ref tn, .ref td, .ref rg, .ref dr])), (tp, .inr (8, [.ref by_, .int 0]))] sz) := by
  refine Met.ofW (cc := cX11_table) (maxL := 3) (ret := (some .int)) (by decide) rfl ?_
  intro pr_ ev_ s m args below meth cd_ s₁ B hml hv
  obtain ⟨rfl, hE, hsz, hK, hP, hD0⟩ := hv
  have hx := B.exec
  have hb := B.bytes
  have hr := B.returns
  have hts := atoms_spec (ws := wsX11_table) B.pre
  have hown : s.vm.findClass RX11 = some m.cls := findClass_of_methodNamed B.named
  have hlocks := B.notSynchronized
  subst hsz
  have hD := hD0.self (sz := s.heap.size)
  generalize hAe : va_A [(cp, .inr (11, [.ref tp, .ref lb, .ref rd, .ref bk, .ref tn, .ref td, .ref rg, .ref dr])), (tp, .inr (8, [.ref by_, .int 0]))] s.heap.size = A at hD ⊢
  have hA : ∀ q : Nat, s.heap.size ≤ q → A q := fun q h => by rw [← hAe]; exact Or.inr h
  have hS : va_S A s.heap s.heap [] := va_S.rf
  have iX11 : ∀ w ∈ u_ws RX11 TX11 8, w ∈ wsX11_table := by decide +kernel
  have iX0 : ∀ w ∈ u_ws RX0 TX0 9, w ∈ wsX11_table := by decide +kernel
  have iX8 : ∀ w ∈ u_ws RX8 TX8 2, w ∈ wsX11_table := by decide +kernel
  have hl := lv_entry ([.ref cp]) (n := 3) (Nat.le_of_ble_eq_true rfl)
  rw [lg_entry_eq]
  generalize (lg_sl ([.ref cp]) ++ List.replicate (3 - (lg_sl ([.ref cp])).length) Slot.unset).toArray = ls at hl ⊢
  have hl : lv_has ls 3 [(0, .ref cp)] := hl
  refine lv_aload_n hx hb dX11_table_0 rfl (lv_at hl 0 rfl) ?_
  refine va_get (D := (dC, dI)) (ci := 11) (v := .ref tp) (C := RX11) (T := TX11) (N := 8) hx hb hts iX11 hown hK hP 0 rfl rfl 0 (by decide) (hts (.fieldLink RX11 10 "CapLeague" "tape" "LCapLeague$Tape;") (by decide +kernel)) (fun _ h9 => h9) rfl dX11_table_1 ?_
  refine vp_callSi (W.runS (As := [.ref tp]) (rest := []) ⟨hx, hb, hml, hown, hts⟩ (rX2_isTable l dC dI ([(cp, .inr (11, [.ref tp, .ref lb, .ref rd, .ref bk, .ref tn, .ref td, .ref rg, .ref dr])), (tp, .inr (8, [.ref by_, .int 0]))]) ([]) 1 rfl) (va_cwS 1 hts gX11_table_X2_isTable rfl rfl rfl (by decide +kernel) ⟨Nat.le_of_ble_eq_true rfl, Nat.le_of_ble_eq_true rfl⟩) ⟨xR_blind _ _ _ _, xR_pre _ hE hK hP⟩ rfl rfl hl.1 rfl (lv_room (Nat.le_of_ble_eq_true rfl)) dX11_table_4 ⟨Nat.le_of_ble_eq_true rfl, Nat.le_of_ble_eq_true rfl⟩) (fun rh1 h1 => ?_)
  obtain ⟨rfl, h1⟩ := h1
  refine lv_istore_n (lv' := [(1, .int 0), (0, .ref cp)]) hx hb dX11_table_7 rfl hl (by decide) rfl (fun ls hl => ?_)
  refine lv_iconst (v := (-1)) hx hb dX11_table_8 (by decide) ?_
  refine lv_istore_n (lv' := [(2, .int (-1)), (1, .int 0), (0, .ref cp)]) hx hb dX11_table_9 rfl hl (by decide) rfl (fun ls hl => ?_)
  refine lv_iload_n hx hb dX11_table_10 rfl (lv_at hl 1 rfl) ?_
  refine lv_if_eq (tgt := 37) hx hb dX11_table_11 (by decide) (fun _ => ?_) (fun h => absurd (by decide) h)
  refine lv_iload_n hx hb dX11_table_37 rfl (lv_at hl 1 rfl) ?_
  refine lv_if_eq (tgt := 54) hx hb dX11_table_38 (by decide) (fun _ => ?_) (fun h => absurd (by decide) h)
  refine lv_aload_n hx hb dX11_table_54 rfl (lv_at hl 2 rfl) ?_
  refine va_get (D := (dC, dI)) (ci := 11) (v := .ref tp) (C := RX11) (T := TX11) (N := 8) hx hb hts iX11 hown hK hP 0 rfl rfl 0 (by decide) (hts (.fieldLink RX11 10 "CapLeague" "tape" "LCapLeague$Tape;") (by decide +kernel)) (fun _ h9 => h9) rfl dX11_table_55 ?_
  refine lv_iconst (v := 0) hx hb dX11_table_58 (by decide) ?_
  refine va_put (D := (dC, dI)) (ci := 8) (v := .int 0) (ty := .int) (C := RX8) (T := TX8) (N := 2) hx hb hts iX8 tyX8 tyX8_ok nmX8 hown hK hP hD hS 1 rfl rfl 1 (by decide) (hts (.fieldLink RX11 81 "CapLeague$Tape" "size" "I") (by decide +kernel)) (fun _ h9 => h9) rfl (by decide +kernel) rfl rfl (Nat.le_of_ble_eq_true rfl) dX11_table_59 (fun H locs hP hD hS => ?_)
  replace hP : va_P (dC, dI) vwCl [(cp, .inr (11, [.ref tp, .ref lb, .ref rd, .ref bk, .ref tn, .ref td, .ref rg, .ref dr])), (tp, .inr (8, [.ref by_, .int 0]))] H := hP
  replace hD : va_D A [(cp, .inr (11, [.ref tp, .ref lb, .ref rd, .ref bk, .ref tn, .ref td, .ref rg, .ref dr])), (tp, .inr (8, [.ref by_, .int 0]))] := hD
  refine lv_iload_n hx hb dX11_table_62 rfl (lv_at hl 0 rfl) ?_
  exact W.iret (v := (-1)) hx hb hr (fun t ht hW => ⟨⟨(-1), (), rfl, by first | exact ⟨by first | rfl | exact xi_k (k := (-1)) (by decide) (by omega), by first | trivial | omega⟩, trivial⟩, hS.F ht⟩) hS.2.2 dX11_table_63
set_option maxHeartbeats 4000000 in
set_option maxRecDepth 100000 in
theorem cX6_new (l : Launch) (dC : Nat → ClassId) (dI : Nat → Nat → Nat) (py : Nat)  (sz : Nat)    : Met l yX6_init wsX6_init ({ frames := 1, cells := 1, slots := 8, locals := 64 }) (va_Pc [.ref py] (xW (dC, dI) [] [(py, .inr (6, [.int 0, .int 0, .int 0, .int 0, .int 0, .int 0, .int 0, .int 0, .null]))] sz)) (va_Qv (fun (_ : Unit) => True) (fun (_ : Unit) t => ∃ (pw_ : Nat) (kw : ClassId), va_P (dC, dI) vwCl [(py, .inr (6, [.int (-1), .int 0, .int 0, .int 0, .int 0, .int 0, .int 0, .int 0, .ref pw_])), (pw_, .inl (kw, 8, .inl (fun _ => 0)))] t.heap ∧ va_K (dC, dI) vwCl [(kw, .int)] t ∧ va_D (va_A [(py, .inr (6, [.int 0, .int 0, .int 0, .int 0, .int 0, .int 0, .int 0, .int 0, .null]))] sz) [(py, .inr (6, [.int (-1), .int 0, .int 0, .int 0, .int 0, .int 0, .int 0, .int 0, .ref pw_])), (pw_, .inl (kw, 8, .inl (fun _ => 0)))]) (va_A [(py, .inr (6, [.int 0, .int 0, .int 0, .int 0, .int 0, .int 0, .int 0, .int 0, .null]))] sz)) 1 8 (va_A [(py, .inr (6, [.int 0, .int 0, .int 0, .int 0, .int 0, .int 0, .int 0, .int 0, .null]))] sz) := by
  refine Met.ofW (cc := cX6_init) (maxL := 1) (ret := none) (by decide) rfl ?_
  intro pr_ ev_ s m args below meth cd_ s₁ B hml hv
  obtain ⟨rfl, hE, hsz, hK, hP, hD0⟩ := hv
  have hx := B.exec
  have hb := B.bytes
  have hr := B.returns
  have hts := atoms_spec (ws := wsX6_init) B.pre
  have hown : s.vm.findClass RX6 = some m.cls := findClass_of_methodNamed B.named
  have hlocks := B.notSynchronized
  have hin : meth.name = "<init>" := (name_of_methodNamed B.named B.method).1
  subst hsz
  have hD := hD0.self (sz := s.heap.size)
  generalize hAe : va_A [(py, .inr (6, [.int 0, .int 0, .int 0, .int 0, .int 0, .int 0, .int 0, .int 0, .null]))] s.heap.size = A at hD ⊢
  have hA : ∀ q : Nat, s.heap.size ≤ q → A q := fun q h => by rw [← hAe]; exact Or.inr h
  have hS : va_S A s.heap s.heap [] := va_S.rf
  have iX6 : ∀ w ∈ u_ws RX6 TX6 9, w ∈ wsX6_init := by decide +kernel
  have hl := lv_entry ([.ref py]) (n := 1) (Nat.le_of_ble_eq_true rfl)
  rw [lg_entry_eq]
  generalize (lg_sl ([.ref py]) ++ List.replicate (1 - (lg_sl ([.ref py])).length) Slot.unset).toArray = ls at hl ⊢
  have hl : lv_has ls 1 [(0, .ref py)] := hl
  refine lv_aload_n hx hb dX6_init_0 rfl (lv_at hl 0 rfl) ?_
  refine W.objInit hx hb hown (hts (.methodLink RX6 3 objectInit) (by decide +kernel)) (hts (.instanceMethod objectInit) (by decide +kernel)) (hts (.code objectInit ⟨#[0xb1]⟩ 1 none) (List.mem_of_getElem? (i := 3) rfl)) rfl (by rw [hml]; exact hl.1) rfl dX6_init_1 (Nat.le_of_ble_eq_true rfl) (Nat.le_of_ble_eq_true rfl) ?_
  refine W.eq (g2 := F0 m 4 ls []) rfl ?_
  refine lv_aload_n hx hb dX6_init_4 rfl (lv_at hl 0 rfl) ?_
  refine lv_iconst (v := (-1)) hx hb dX6_init_5 (by decide) ?_
  refine va_put (D := (dC, dI)) (ci := 6) (v := .int (-1)) (ty := .int) (C := RX6) (T := TX6) (N := 9) hx hb hts iX6 tyX6 tyX6_ok nmX6 hown hK hP hD hS 0 rfl rfl 0 (by decide) (hts (.fieldLink RX6 9 "CapLeague$Player" "club" "I") (by decide +kernel)) (fun _ h9 => h9) rfl (by decide +kernel) rfl rfl (Nat.le_of_ble_eq_true rfl) dX6_init_6 (fun H locs hP hD hS => ?_)
  replace hP : va_P (dC, dI) vwCl [(py, .inr (6, [.int (-1), .int 0, .int 0, .int 0, .int 0, .int 0, .int 0, .int 0, .null]))] H := hP
  replace hD : va_D A [(py, .inr (6, [.int (-1), .int 0, .int 0, .int 0, .int 0, .int 0, .int 0, .int 0, .null]))] := hD
  refine lv_aload_n hx hb dX6_init_9 rfl (lv_at hl 0 rfl) ?_
  refine lv_bipush (v := 8) hx hb dX6_init_10 (by decide) ?_
  refine va_newa (atype := .int) (D := (dC, dI)) (ty := .int) (a0 := (8, .inl (fun _ => 0))) hx hb (hts (.arrayClass .int) (by decide +kernel)) rfl hK hP hD hS hA (xa_int 8) (by decide) (by decide) (by decide) (Nat.le_of_ble_eq_true rfl) (Nat.le_of_ble_eq_true rfl) dX6_init_12 (fun q1 k2 H hK hP hD hS => ?_)
  replace hK : va_K (dC, dI) vwCl [(k2, .int)] s := hK
  replace hP : va_P (dC, dI) vwCl [(py, .inr (6, [.int (-1), .int 0, .int 0, .int 0, .int 0, .int 0, .int 0, .int 0, .null])), (q1, .inl (k2, 8, .inl (fun _ => 0)))] H := hP
  replace hD : va_D A [(py, .inr (6, [.int (-1), .int 0, .int 0, .int 0, .int 0, .int 0, .int 0, .int 0, .null])), (q1, .inl (k2, 8, .inl (fun _ => 0)))] := hD
  refine W.cs (cells' := 1) (slots' := 8) rfl rfl ?_
  refine va_putF (D := (dC, dI)) (ci := 6) (v := .ref q1) (ty := tyX6 8) (C := RX6) (T := TX6) (N := 9) hx hb hts iX6 tyX6 tyX6_ok nmX6 hown hK hP hD hS 0 rfl rfl 8 (by decide) (hts (.fieldLink RX6 15 "CapLeague$Player" "worths" "[I") (by decide +kernel)) (fun _ h9 => h9) rfl hin rfl (by decide +kernel) rfl rfl (Nat.le_of_ble_eq_true rfl) dX6_init_14 (fun H locs hP hD hS => ?_)
  replace hP : va_P (dC, dI) vwCl [(py, .inr (6, [.int (-1), .int 0, .int 0, .int 0, .int 0, .int 0, .int 0, .int 0, .ref q1])), (q1, .inl (k2, 8, .inl (fun _ => 0)))] H := hP
  replace hD : va_D A [(py, .inr (6, [.int (-1), .int 0, .int 0, .int 0, .int 0, .int 0, .int 0, .int 0, .ref q1])), (q1, .inl (k2, 8, .inl (fun _ => 0)))] := hD
  have hP9 := hP.sub (ws' := [(py, .inr (6, [.int (-1), .int 0, .int 0, .int 0, .int 0, .int 0, .int 0, .int 0, .ref q1])), (q1, .inl (k2, 8, .inl (fun _ => 0)))]) [0, 1] rfl
  have hD9 := hD.sub (ws' := [(py, .inr (6, [.int (-1), .int 0, .int 0, .int 0, .int 0, .int 0, .int 0, .int 0, .ref q1])), (q1, .inl (k2, 8, .inl (fun _ => 0)))]) [0, 1] (by decide) rfl
  have hK9 := hK.sub (tys' := [(k2, .int)]) [0] rfl
  exact W.vret hx hb hr (fun t ht hW => ⟨⟨(), rfl, trivial, ⟨q1, k2, by rw [ht]; exact hP9, va_K.moved hW.alike hK9, hD9⟩⟩, hS.F ht⟩) hS.2.2 dX6_init_17
set_option maxHeartbeats 4000000 in
set_option maxRecDepth 100000 in
theorem wX0_add (l : Launch) (dC : Nat → ClassId) (dI : Nat → Nat → Nat) (bk lb pl de su fi ac : Nat) (kp : ClassId)  (sz : Nat)    : Met l yX0_addPlayer wsX0_addPlayer ({ frames := 2, cells := 2, slots := 17, locals := 128 }) (va_Pc [.ref bk] (xW (dC, dI) [(kp, (.object RX6))] [(bk, .inr (0, [.ref lb, .ref pl, .int 0, .int 0, .ref de, .ref su, .ref fi, .int 0, .ref ac])), (pl, .inl (kp, 60, .inr (.inr (.inr (.inr (fun _ => none))))))] sz)) (va_Qi (fun r (_ : Unit) => (r = 0 ∧ True)) (fun (_ : Unit) _ => True) (va_A [(bk, .inr (0, [.ref lb, .ref pl, .int 0, .int 0, .ref de, .ref su, .ref fi, .int 0, .ref ac])), (pl, .inl (kp, 60, .inr (.inr (.inr (.inr (fun _ => none))))))] sz)) 2 17 (va_A [(bk, .inr (0, [.ref lb, .ref pl, .int 0, .int 0, .ref de, .ref su, .ref fi, .int 0, .ref ac])), (pl, .inl (kp, 60, .inr (.inr (.inr (.inr (fun _ => none))))))] sz) := by
  refine Met.ofW (cc := cX0_addPlayer) (maxL := 1) (ret := (some .int)) (by decide) rfl ?_
  intro pr_ ev_ s m args below meth cd_ s₁ B hml hv
  obtain ⟨rfl, hE, hsz, hK, hP, hD0⟩ := hv
  have hx := B.exec
  have hb := B.bytes
  have hr := B.returns
  have hts := atoms_spec (ws := wsX0_addPlayer) B.pre
  have hown : s.vm.findClass RX0 = some m.cls := findClass_of_methodNamed B.named
  have hlocks := B.notSynchronized
  subst hsz
  have hD := hD0.self (sz := s.heap.size)
  generalize hAe : va_A [(bk, .inr (0, [.ref lb, .ref pl, .int 0, .int 0, .ref de, .ref su, .ref fi, .int 0, .ref ac])), (pl, .inl (kp, 60, .inr (.inr (.inr (.inr (fun _ => none))))))] s.heap.size = A at hD ⊢
  have hA : ∀ q : Nat, s.heap.size ≤ q → A q := fun q h => by rw [← hAe]; exact Or.inr h
  have hS : va_S A s.heap s.heap [] := va_S.rf
  have iX0 : ∀ w ∈ u_ws RX0 TX0 9, w ∈ wsX0_addPlayer := by decide +kernel
  have iX6 : ∀ w ∈ u_ws RX6 TX6 9, w ∈ wsX0_addPlayer := by decide +kernel
  have hl := lv_entry ([.ref bk]) (n := 1) (Nat.le_of_ble_eq_true rfl)
  rw [lg_entry_eq]
  generalize (lg_sl ([.ref bk]) ++ List.replicate (1 - (lg_sl ([.ref bk])).length) Slot.unset).toArray = ls at hl ⊢
  have hl : lv_has ls 1 [(0, .ref bk)] := hl
  refine lv_aload_n hx hb dX0_addPlayer_0 rfl (lv_at hl 0 rfl) ?_
  refine va_get (D := (dC, dI)) (ci := 0) (v := .int 0) (C := RX0) (T := TX0) (N := 9) hx hb hts iX0 hown hK hP 0 rfl rfl 2 (by decide) (hts (.fieldLink RX0 51 "CapLeague$Books" "size" "I") (by decide +kernel)) (fun _ h9 => h9) rfl dX0_addPlayer_1 ?_
  refine lv_bipush (v := 60) hx hb dX0_addPlayer_4 (by decide) ?_
  refine lv_icmp_lt (tgt := 12) hx hb dX0_addPlayer_6 (by decide) (fun _ => ?_) (fun h => absurd (by decide) h)
  refine lv_aload_n hx hb dX0_addPlayer_12 rfl (lv_at hl 0 rfl) ?_
  refine va_get (D := (dC, dI)) (ci := 0) (v := .ref pl) (C := RX0) (T := TX0) (N := 9) hx hb hts iX0 hown hK hP 0 rfl rfl 1 (by decide) (hts (.fieldLink RX0 11 "CapLeague$Books" "players" "[LCapLeague$Player;") (by decide +kernel)) (fun _ h9 => h9) rfl dX0_addPlayer_13 ?_
  refine lv_aload_n hx hb dX0_addPlayer_16 rfl (lv_at hl 0 rfl) ?_
  refine va_get (D := (dC, dI)) (ci := 0) (v := .int 0) (C := RX0) (T := TX0) (N := 9) hx hb hts iX0 hown hK hP 0 rfl rfl 2 (by decide) (hts (.fieldLink RX0 51 "CapLeague$Books" "size" "I") (by decide +kernel)) (fun _ h9 => h9) rfl dX0_addPlayer_17 ?_
  refine va_new (ci := 6) (fs := [.int 0, .int 0, .int 0, .int 0, .int 0, .int 0, .int 0, .int 0, .null]) (C := RX6) (T := TX6) (N := 9) hx hb hts iX6 tyX6 tyX6_ok hown (hts (.classLink RX0 9 RX6) (by decide +kernel)) (hts (.instantiable RX6 9) (by decide +kernel)) (hts (.initialized RX6) (by decide +kernel)) hK hP hD hS hA rfl (fun j hj => by rcases (show j = 0 ∨ j = 1 ∨ j = 2 ∨ j = 3 ∨ j = 4 ∨ j = 5 ∨ j = 6 ∨ j = 7 ∨ j = 8 by omega) with rfl | rfl | rfl | rfl | rfl | rfl | rfl | rfl | rfl <;> rfl) (Nat.le_of_ble_eq_true rfl) (Nat.le_of_ble_eq_true rfl) dX0_addPlayer_20 (fun q2 H hP hD hS => ?_)
  replace hP : va_P (dC, dI) vwCl [(bk, .inr (0, [.ref lb, .ref pl, .int 0, .int 0, .ref de, .ref su, .ref fi, .int 0, .ref ac])), (pl, .inl (kp, 60, .inr (.inr (.inr (.inr (fun _ => none)))))), (q2, .inr (6, [.int 0, .int 0, .int 0, .int 0, .int 0, .int 0, .int 0, .int 0, .null]))] H := hP
  replace hD : va_D A [(bk, .inr (0, [.ref lb, .ref pl, .int 0, .int 0, .ref de, .ref su, .ref fi, .int 0, .ref ac])), (pl, .inl (kp, 60, .inr (.inr (.inr (.inr (fun _ => none)))))), (q2, .inr (6, [.int 0, .int 0, .int 0, .int 0, .int 0, .int 0, .int 0, .int 0, .null]))] := hD
  refine W.cs (cells' := 1) (slots' := 9) rfl rfl ?_
  refine lv_dup hx hb dX0_addPlayer_23 rfl ?_
  have hPc := hP.sub (ws' := [(q2, .inr (6, [.int 0, .int 0, .int 0, .int 0, .int 0, .int 0, .int 0, .int 0, .null]))]) [2] rfl
  have hDc := hD.sub (ws' := [(q2, .inr (6, [.int 0, .int 0, .int 0, .int 0, .int 0, .int 0, .int 0, .int 0, .null]))]) [2] (by decide) rfl
  have hKc := hK.sub (tys' := []) [] rfl
  have hFc := va_free (wc := [(q2, .inr (6, [.int 0, .int 0, .int 0, .int 0, .int 0, .int 0, .int 0, .int 0, .null]))]) hD hS hA [2] rfl
  refine va_callv (va_runIN (As := []) (rest := [.ref q2, .int 0, .ref pl]) ⟨hx, hb, hml, hown, hts⟩ (cX6_new l dC dI q2    _) (⟨va_cnB 0 hts gX0_addPlayer_X6_init_n54 rfl rfl rfl (hE.link 7 rfl) (hts (.initialized RX6) (by decide +kernel)) (by decide +kernel) ⟨Nat.le_of_ble_eq_true rfl, Nat.le_of_ble_eq_true rfl⟩, rfl, hts (.instanceMethod yX6_init) (by decide +kernel)⟩) ⟨xW_blind _ _ _ _ _, xW_pre _ hE hKc hPc hDc⟩ rfl rfl hl.1 rfl (lv_room (Nat.le_of_ble_eq_true rfl)) dX0_addPlayer_24 ⟨Nat.le_of_ble_eq_true rfl, Nat.le_of_ble_eq_true rfl⟩) hS (fun q _ h => hFc q h) hFc (fun u t H1 locs ht hvm h3 hB hz1 hk1 hS => ?_)
  obtain ⟨pw__4, kw_5, hP1, hK1, hD1⟩ := hB
  rw [ht] at hP1
  have hK1 := va_K.moved hvm.symm hK1
  obtain ⟨hP, hD⟩ := va_join (wr := [(bk, .inr (0, [.ref lb, .ref pl, .int 0, .int 0, .ref de, .ref su, .ref fi, .int 0, .ref ac])), (pl, .inl (kp, 60, .inr (.inr (.inr (.inr (fun _ => none))))))]) (w1 := [(q2, .inr (6, [.int (-1), .int 0, .int 0, .int 0, .int 0, .int 0, .int 0, .int 0, .ref pw__4])), (pw__4, .inl (kw_5, 8, .inl (fun _ => 0)))]) hP hD [2] [0, 1] rfl rfl (by decide) (by decide) hk1 hFc hP1 hD1
  replace hK := hK.app hK1
  generalize H1 = H at hP hS ⊢
  replace hP : va_P (dC, dI) vwCl [(bk, .inr (0, [.ref lb, .ref pl, .int 0, .int 0, .ref de, .ref su, .ref fi, .int 0, .ref ac])), (pl, .inl (kp, 60, .inr (.inr (.inr (.inr (fun _ => none)))))), (q2, .inr (6, [.int (-1), .int 0, .int 0, .int 0, .int 0, .int 0, .int 0, .int 0, .ref pw__4])), (pw__4, .inl (kw_5, 8, .inl (fun _ => 0)))] H := hP
  replace hD : va_D A [(bk, .inr (0, [.ref lb, .ref pl, .int 0, .int 0, .ref de, .ref su, .ref fi, .int 0, .ref ac])), (pl, .inl (kp, 60, .inr (.inr (.inr (.inr (fun _ => none)))))), (q2, .inr (6, [.int (-1), .int 0, .int 0, .int 0, .int 0, .int 0, .int 0, .int 0, .ref pw__4])), (pw__4, .inl (kw_5, 8, .inl (fun _ => 0)))] := hD
  replace hK : va_K (dC, dI) vwCl [(kp, (.object RX6)), (kw_5, .int)] s := hK
  refine W.cs (cells' := 2) (slots' := 17) rfl rfl ?_
  refine va_astq (D := (dC, dI)) hx hb hK hP hD hS 1 0 2 6 rfl rfl rfl rfl (by unfold vp_in; decide) dX0_addPlayer_27 (fun H locs hP hD hS => ?_)
  obtain ⟨f6, ef6⟩ : ∃ g : Nat → Option Nat, g = va_up (fun _ => none) (0 : Int32).toNatClampNeg (some q2) := ⟨_, rfl⟩
  replace hP : va_P (dC, dI) vwCl [(bk, .inr (0, [.ref lb, .ref pl, .int 0, .int 0, .ref de, .ref su, .ref fi, .int 0, .ref ac])), (pl, .inl (kp, 60, .inr (.inr (.inr (.inr f6))))), (q2, .inr (6, [.int (-1), .int 0, .int 0, .int 0, .int 0, .int 0, .int 0, .int 0, .ref pw__4])), (pw__4, .inl (kw_5, 8, .inl (fun _ => 0)))] H := by rw [ef6]; exact hP
  replace hD : va_D A [(bk, .inr (0, [.ref lb, .ref pl, .int 0, .int 0, .ref de, .ref su, .ref fi, .int 0, .ref ac])), (pl, .inl (kp, 60, .inr (.inr (.inr (.inr f6))))), (q2, .inr (6, [.int (-1), .int 0, .int 0, .int 0, .int 0, .int 0, .int 0, .int 0, .ref pw__4])), (pw__4, .inl (kw_5, 8, .inl (fun _ => 0)))] := by rw [ef6]; exact hD
  clear ef6
  refine lv_aload_n hx hb dX0_addPlayer_28 rfl (lv_at hl 0 rfl) ?_
  refine lv_dup hx hb dX0_addPlayer_29 rfl ?_
  refine va_get (D := (dC, dI)) (ci := 0) (v := .int 0) (C := RX0) (T := TX0) (N := 9) hx hb hts iX0 hown hK hP 0 rfl rfl 2 (by decide) (hts (.fieldLink RX0 51 "CapLeague$Books" "size" "I") (by decide +kernel)) (fun _ h9 => h9) rfl dX0_addPlayer_30 ?_
  refine lv_iconst (v := 1) hx hb dX0_addPlayer_33 (by decide) ?_
  refine lv_iadd hx hb dX0_addPlayer_34 ?_
  refine xw_i (v := 1) (by decide) ?_
  refine va_put (D := (dC, dI)) (ci := 0) (v := .int 1) (ty := .int) (C := RX0) (T := TX0) (N := 9) hx hb hts iX0 tyX0 tyX0_ok nmX0 hown hK hP hD hS 0 rfl rfl 2 (by decide) (hts (.fieldLink RX0 51 "CapLeague$Books" "size" "I") (by decide +kernel)) (fun _ h9 => h9) rfl (by decide +kernel) rfl rfl (Nat.le_of_ble_eq_true rfl) dX0_addPlayer_35 (fun H locs hP hD hS => ?_)
  replace hP : va_P (dC, dI) vwCl [(bk, .inr (0, [.ref lb, .ref pl, .int 1, .int 0, .ref de, .ref su, .ref fi, .int 0, .ref ac])), (pl, .inl (kp, 60, .inr (.inr (.inr (.inr f6))))), (q2, .inr (6, [.int (-1), .int 0, .int 0, .int 0, .int 0, .int 0, .int 0, .int 0, .ref pw__4])), (pw__4, .inl (kw_5, 8, .inl (fun _ => 0)))] H := hP
  replace hD : va_D A [(bk, .inr (0, [.ref lb, .ref pl, .int 1, .int 0, .ref de, .ref su, .ref fi, .int 0, .ref ac])), (pl, .inl (kp, 60, .inr (.inr (.inr (.inr f6))))), (q2, .inr (6, [.int (-1), .int 0, .int 0, .int 0, .int 0, .int 0, .int 0, .int 0, .ref pw__4])), (pw__4, .inl (kw_5, 8, .inl (fun _ => 0)))] := hD
  refine lv_aload_n hx hb dX0_addPlayer_38 rfl (lv_at hl 0 rfl) ?_
  refine va_get (D := (dC, dI)) (ci := 0) (v := .int 1) (C := RX0) (T := TX0) (N := 9) hx hb hts iX0 hown hK hP 0 rfl rfl 2 (by decide) (hts (.fieldLink RX0 51 "CapLeague$Books" "size" "I") (by decide +kernel)) (fun _ h9 => h9) rfl dX0_addPlayer_39 ?_
  refine lv_iconst (v := 1) hx hb dX0_addPlayer_42 (by decide) ?_
  refine lv_isub hx hb dX0_addPlayer_43 ?_
  refine xw_i (v := 0) (by decide) ?_
  exact W.iret (v := 0) hx hb hr (fun t ht hW => ⟨⟨0, (), rfl, by first | exact ⟨by first | rfl | exact xi_k (k := 0) (by decide) (by omega), by first | trivial | omega⟩, trivial⟩, hS.F ht⟩) hS.2.2 dX0_addPlayer_44
set_option maxHeartbeats 4000000 in
set_option maxRecDepth 100000 in
theorem aX_player (l : Launch) (dC : Nat → ClassId) (dI : Nat → Nat → Nat) (cp tp lb rd bk tn td rg dr pl de su fi ac : Nat) (kp : ClassId)  (sz : Nat)    : Met l yX11_player wsX11_player ({ frames := 3, cells := 2, slots := 17, locals := 192 }) (va_Pc [.ref cp] (xW (dC, dI) [(kp, (.object RX6))] [(cp, .inr (11, [.ref tp, .ref lb, .ref rd, .ref bk, .ref tn, .ref td, .ref rg, .ref dr])), (bk, .inr (0, [.ref lb, .ref pl, .int 0, .int 0, .ref de, .ref su, .ref fi, .int 0, .ref ac])), (pl, .inl (kp, 60, .inr (.inr (.inr (.inr (fun _ => none))))))] sz)) (va_Qi (fun r (_ : Unit) => (r = 0 ∧ True)) (fun (_ : Unit) _ => True) (va_A [(cp, .inr (11, [.ref tp, .ref lb, .ref rd, .ref bk, .ref tn, .ref td, .ref rg, .ref dr])), (bk, .inr (0, [.ref lb, .ref pl, .int 0, .int 0, .ref de, .ref su, .ref fi, .int 0, .ref ac])), (pl, .inl (kp, 60, .inr (.inr (.inr (.inr (fun _ => none))))))] sz)) 2 17 (va_A [(cp, .inr (11, [.ref tp, .ref lb, .ref rd, .ref bk, .ref tn, .ref td, .ref rg, .ref dr])), (bk, .inr (0, [.ref lb, .ref pl, .int 0, .int 0, .ref de, .ref su, .ref fi, .int 0, .ref ac])), (pl, .inl (kp, 60, .inr (.inr (.inr (.inr (fun _ => none))))))] sz) := by
  refine Met.ofW (cc := cX11_player) (maxL := 1) (ret := (some .int)) (by decide) rfl ?_
  intro pr_ ev_ s m args below meth cd_ s₁ B hml hv
  obtain ⟨rfl, hE, hsz, hK, hP, hD0⟩ := hv
  have hx := B.exec
  have hb := B.bytes
  have hr := B.returns
  have hts := atoms_spec (ws := wsX11_player) B.pre
  have hown : s.vm.findClass RX11 = some m.cls := findClass_of_methodNamed B.named
  have hlocks := B.notSynchronized
  subst hsz
  have hD := hD0.self (sz := s.heap.size)
  generalize hAe : va_A [(cp, .inr (11, [.ref tp, .ref lb, .ref rd, .ref bk, .ref tn, .ref td, .ref rg, .ref dr])), (bk, .inr (0, [.ref lb, .ref pl, .int 0, .int 0, .ref de, .ref su, .ref fi, .int 0, .ref ac])), (pl, .inl (kp, 60, .inr (.inr (.inr (.inr (fun _ => none))))))] s.heap.size = A at hD ⊢
  have hA : ∀ q : Nat, s.heap.size ≤ q → A q := fun q h => by rw [← hAe]; exact Or.inr h
  have hS : va_S A s.heap s.heap [] := va_S.rf
  have iX11 : ∀ w ∈ u_ws RX11 TX11 8, w ∈ wsX11_player := by decide +kernel
  have hl := lv_entry ([.ref cp]) (n := 1) (Nat.le_of_ble_eq_true rfl)
  rw [lg_entry_eq]
  generalize (lg_sl ([.ref cp]) ++ List.replicate (1 - (lg_sl ([.ref cp])).length) Slot.unset).toArray = ls at hl ⊢
  have hl : lv_has ls 1 [(0, .ref cp)] := hl
  refine lv_aload_n hx hb dX11_player_0 rfl (lv_at hl 0 rfl) ?_
  refine va_get (D := (dC, dI)) (ci := 11) (v := .ref bk) (C := RX11) (T := TX11) (N := 8) hx hb hts iX11 hown hK hP 0 rfl rfl 3 (by decide) (hts (.fieldLink RX11 37 "CapLeague" "books" "LCapLeague$Books;") (by decide +kernel)) (fun _ h9 => h9) rfl dX11_player_1 ?_
  have hPc := hP.sub (ws' := [(bk, .inr (0, [.ref lb, .ref pl, .int 0, .int 0, .ref de, .ref su, .ref fi, .int 0, .ref ac])), (pl, .inl (kp, 60, .inr (.inr (.inr (.inr (fun _ => none))))))]) [1, 2] rfl
  have hDc := hD.sub (ws' := [(bk, .inr (0, [.ref lb, .ref pl, .int 0, .int 0, .ref de, .ref su, .ref fi, .int 0, .ref ac])), (pl, .inl (kp, 60, .inr (.inr (.inr (.inr (fun _ => none))))))]) [1, 2] (by decide) rfl
  have hKc := hK.sub (tys' := [(kp, (.object RX6))]) [0] rfl
  have hFc := va_free (wc := [(bk, .inr (0, [.ref lb, .ref pl, .int 0, .int 0, .ref de, .ref su, .ref fi, .int 0, .ref ac])), (pl, .inl (kp, 60, .inr (.inr (.inr (.inr (fun _ => none))))))]) hD hS hA [1, 2] rfl
  refine va_calli (va_runV (As := []) (rest := []) ⟨hx, hb, hml, hown, hts⟩ (wX0_add l dC dI bk lb pl de su fi ac kp   _) (cwV 0 hts gX11_player_X0_addPlayer rfl rfl rfl (by decide +kernel) ⟨Nat.le_of_ble_eq_true rfl, Nat.le_of_ble_eq_true rfl⟩) ⟨xW_blind _ _ _ _ _, va_recv hKc hPc (ci := 0) (q0 := 0) rfl rfl, xW_pre _ hE hKc hPc hDc⟩ rfl rfl hl.1 rfl (lv_room (Nat.le_of_ble_eq_true rfl)) dX11_player_4 ⟨Nat.le_of_ble_eq_true rfl, Nat.le_of_ble_eq_true rfl⟩) hS (fun q _ h => hFc q h) hFc (fun rh1 u t H1 locs ht hvm h1 hB hz1 hk1 hS => ?_)
  obtain ⟨hP, hD⟩ := va_join (wr := [(cp, .inr (11, [.ref tp, .ref lb, .ref rd, .ref bk, .ref tn, .ref td, .ref rg, .ref dr]))]) (w1 := []) hP hD [1, 2] [0] rfl rfl (by decide) (by decide) hk1 hFc xz_P xz_D
  generalize H1 = H at hP hS ⊢
  replace hP : va_P (dC, dI) vwCl [(cp, .inr (11, [.ref tp, .ref lb, .ref rd, .ref bk, .ref tn, .ref td, .ref rg, .ref dr]))] H := hP
  replace hD : va_D A [(cp, .inr (11, [.ref tp, .ref lb, .ref rd, .ref bk, .ref tn, .ref td, .ref rg, .ref dr]))] := hD
  replace hK : va_K (dC, dI) vwCl [(kp, (.object RX6))] s := hK
  refine W.cs (cells' := 2) (slots' := 17) rfl rfl ?_
  obtain ⟨rfl, h1⟩ := h1
  exact W.iret (v := 0) hx hb hr (fun t ht hW => ⟨⟨0, (), rfl, by first | exact ⟨by first | rfl | exact xi_k (k := 0) (by decide) (by omega), by first | trivial | omega⟩, trivial⟩, hS.F ht⟩) hS.2.2 dX11_player_7
