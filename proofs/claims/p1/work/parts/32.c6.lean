set_option maxHeartbeats 4000000 in
set_option maxRecDepth 100000 in
theorem rX10_keyOf (l : Launch) (dC : Nat → ClassId) (dI : Nat → Nat → Nat) (ws : va_W) (tys : List (ClassId × FieldType))  (a : Int32) (a_t : Int) (h_a : a.toInt = a_t) (y : Int32) (y_t : Int) (h_y : y.toInt = y_t) (h1 : 0 ≤ a_t) (h2 : a_t ≤ 7) (h3 : 0 ≤ y_t) (h4 : y_t ≤ 9) : Met l yX10_keyOf wsX10_keyOf ({ frames := 1, cells := 0, slots := 0, locals := 64 }) (va_Pc [.int a, .int y] (xR (dC, dI) tys ws)) (vp_Si (fun r => (r.toInt = a_t * 10 + y_t))) 0 0 (fun _ => False) := by
  refine Met.ofW (cc := cX10_keyOf) (maxL := 2) (ret := (some .int)) (by decide) rfl ?_
  intro pr_ ev_ s m args below meth cd_ s₁ B hml hv
  obtain ⟨rfl, hE, hK, hP⟩ := hv
  have hx := B.exec
  have hb := B.bytes
  have hr := B.returns
  have hts := atoms_spec (ws := wsX10_keyOf) B.pre
  have hown : s.vm.findClass RX10 = some m.cls := findClass_of_methodNamed B.named
  have hlocks := B.notSynchronized
  have hl := lv_entry ([.int a, .int y]) (n := 2) (Nat.le_of_ble_eq_true rfl)
  rw [lg_entry_eq]
  generalize (lg_sl ([.int a, .int y]) ++ List.replicate (2 - (lg_sl ([.int a, .int y])).length) Slot.unset).toArray = ls at hl ⊢
  have hl : lv_has ls 2 [(0, .int a), (1, .int y)] := hl
  have lo_a := xi_lo a
  have hi_a := xi_hi a
  have lo_y := xi_lo y
  have hi_y := xi_hi y
  refine lv_iload_n hx hb dX10_keyOf_0 rfl (lv_at hl 0 rfl) ?_
  refine lv_bipush (v := 10) hx hb dX10_keyOf_1 (by decide) ?_
  refine lv_imul hx hb dX10_keyOf_3 ?_
  refine lv_topi (fun v1 ev1 => ?_)
  have jv1 : v1.toInt = a.toInt * 10 := xi_mul ev1 rfl (by decide) (by omega) (by omega)
  refine lv_iload_n hx hb dX10_keyOf_4 rfl (lv_at hl 1 rfl) ?_
  refine lv_iadd hx hb dX10_keyOf_5 ?_
  refine lv_topi (fun v2 ev2 => ?_)
  have jv2 : v2.toInt = v1.toInt + y.toInt := xi_add ev2 rfl rfl (by omega) (by omega)
  exact W.iret (v := v2) hx hb hr (fun t ht hW => ⟨v2, rfl, by first | exact (by omega), ht⟩) (fun _ h => by cases h) dX10_keyOf_6
set_option maxHeartbeats 4000000 in
set_option maxRecDepth 100000 in
theorem aX_owner (l : Launch) (dC : Nat → ClassId) (dI : Nat → Nat → Nat) (ws : va_W) (tys : List (ClassId × FieldType)) {bk cp dr gi ho lb rd rg sh td tn tp wo : Nat} {kh ks : ClassId} {fh : Nat → Int32} (hh : ∀ j : Nat, j < 80 → (fh j).toInt = j / 10) (p0 : Nat) (e0 : ws[p0]? = some (cp, .inr (11, [.ref tp, .ref lb, .ref rd, .ref bk, .ref tn, .ref td, .ref rg, .ref dr]))) (p1 : Nat) (e1 : ws[p1]? = some (tn, .inr (10, [.ref ho, .ref sh, .ref gi, .ref wo]))) (p2 : Nat) (e2 : ws[p2]? = some (ho, .inl (kh, 80, .inl fh))) (t2 : Nat) (y2 : tys[t2]? = some (kh, .int)) (p3 : Nat) (e3 : ws[p3]? = some (sh, .inl (ks, 80, .inl (fun _ => 0)))) (t3 : Nat) (y3 : tys[t3]? = some (ks, .int)) (a : Int32) (a_t : Int) (h_a : a.toInt = a_t) (y : Int32) (y_t : Int) (h_y : y.toInt = y_t) (q : Int32) (q_t : Int) (h_q : q.toInt = q_t)  : Met l yX11_owner wsX11_owner ({ frames := 2, cells := 0, slots := 0, locals := 128 }) (va_Pc [.ref cp, .int a, .int y, .int q] (xR (dC, dI) tys ws)) (vp_Si (fun r => (r = a ∧ 0 ≤ a_t ∧ a_t ≤ 7 ∧ 0 ≤ y_t ∧ y_t ≤ 9 ∧ 0 ≤ q_t ∧ q_t ≤ 1 ∧ q_t = 0) ∨ (r = 0 ∧ 0 ≤ a_t ∧ a_t ≤ 7 ∧ 0 ≤ y_t ∧ y_t ≤ 9 ∧ 0 ≤ q_t ∧ q_t ≤ 1 ∧ q_t = 1) ∨ (r = (-2) ∧ ¬ (0 ≤ a_t ∧ a_t ≤ 7 ∧ 0 ≤ y_t ∧ y_t ≤ 9 ∧ 0 ≤ q_t ∧ q_t ≤ 1)))) 0 0 (fun _ => False) := by
  refine Met.ofW (cc := cX11_owner) (maxL := 5) (ret := (some .int)) (by decide) rfl ?_
  intro pr_ ev_ s m args below meth cd_ s₁ B hml hv
  obtain ⟨rfl, hE, hK, hP⟩ := hv
  have hx := B.exec
  have hb := B.bytes
  have hr := B.returns
  have hts := atoms_spec (ws := wsX11_owner) B.pre
  have hown : s.vm.findClass RX11 = some m.cls := findClass_of_methodNamed B.named
  have hlocks := B.notSynchronized
  have iX11 : ∀ w ∈ u_ws RX11 TX11 8, w ∈ wsX11_owner := by decide +kernel
  have iX10 : ∀ w ∈ u_ws RX10 TX10 4, w ∈ wsX11_owner := by decide +kernel
  have hl := lv_entry ([.ref cp, .int a, .int y, .int q]) (n := 5) (Nat.le_of_ble_eq_true rfl)
  rw [lg_entry_eq]
  generalize (lg_sl ([.ref cp, .int a, .int y, .int q]) ++ List.replicate (5 - (lg_sl ([.ref cp, .int a, .int y, .int q])).length) Slot.unset).toArray = ls at hl ⊢
  have hl : lv_has ls 5 [(0, .ref cp), (1, .int a), (2, .int y), (3, .int q)] := hl
  have lo_a := xi_lo a
  have hi_a := xi_hi a
  have lo_y := xi_lo y
  have hi_y := xi_hi y
  have lo_q := xi_lo q
  have hi_q := xi_hi q
  refine lv_iload_n hx hb dX11_owner_0 rfl (lv_at hl 1 rfl) ?_
  refine vp_callSi (W.runS (As := [.int a]) (rest := []) ⟨hx, hb, hml, hown, hts⟩ (cX11_isClub_ l dC dI ws tys a (a.toInt) rfl) (va_cwS 1 hts gX11_owner_X11_isClub rfl rfl rfl (by decide +kernel) ⟨Nat.le_of_ble_eq_true rfl, Nat.le_of_ble_eq_true rfl⟩) ⟨xR_blind _ _ _ _, xR_pre _ hE hK hP⟩ rfl rfl hl.1 rfl (lv_room (Nat.le_of_ble_eq_true rfl)) dX11_owner_1 ⟨Nat.le_of_ble_eq_true rfl, Nat.le_of_ble_eq_true rfl⟩) (fun rh1 h1 => ?_)
  rcases h1 with ⟨rfl, h1⟩ | ⟨rfl, h1⟩
  · skip
    refine lv_if_eq (tgt := 23) hx hb dX11_owner_4 (by decide) (fun h => absurd h (by decide)) (fun _ => ?_)
    refine lv_iload_n hx hb dX11_owner_7 rfl (lv_at hl 2 rfl) ?_
    refine vp_callSi (W.runS (As := [.int y]) (rest := []) ⟨hx, hb, hml, hown, hts⟩ (cX11_isYear_ l dC dI ws tys y (y.toInt) rfl) (va_cwS 1 hts gX11_owner_X11_isYear rfl rfl rfl (by decide +kernel) ⟨Nat.le_of_ble_eq_true rfl, Nat.le_of_ble_eq_true rfl⟩) ⟨xR_blind _ _ _ _, xR_pre _ hE hK hP⟩ rfl rfl hl.1 rfl (lv_room (Nat.le_of_ble_eq_true rfl)) dX11_owner_8 ⟨Nat.le_of_ble_eq_true rfl, Nat.le_of_ble_eq_true rfl⟩) (fun rh3 h3 => ?_)
    rcases h3 with ⟨rfl, h3⟩ | ⟨rfl, h3⟩
    · skip
      refine lv_if_eq (tgt := 23) hx hb dX11_owner_11 (by decide) (fun h => absurd h (by decide)) (fun _ => ?_)
      refine lv_iload_n hx hb dX11_owner_14 rfl (lv_at hl 3 rfl) ?_
      refine lv_if_lt (tgt := 23) hx hb dX11_owner_15 (by decide) (fun c5 => ?_) (fun c5 => ?_)
      · have ic5 := (xi_lt c5 rfl (by decide) : q.toInt < 0)
        refine lv_bipush (v := (-2)) hx hb dX11_owner_23 (by decide) ?_
        exact W.iret (v := (-2)) hx hb hr (fun t ht hW => ⟨(-2), rfl, by first | exact Or.inl ⟨by first | rfl | exact xi_of (by omega), by first | trivial | omega⟩ | exact Or.inr (Or.inl ⟨by first | rfl | exact xi_k (k := 0) (by decide) (by omega), by first | trivial | omega⟩) | exact Or.inr (Or.inr (⟨by first | rfl | exact xi_k (k := (-2)) (by decide) (by omega), by first | trivial | omega⟩)), ht⟩) (fun _ h => by cases h) dX11_owner_25
      · have ic5 := (xi_nlt c5 rfl (by decide) : 0 ≤ q.toInt)
        refine lv_iload_n hx hb dX11_owner_18 rfl (lv_at hl 3 rfl) ?_
        refine lv_iconst (v := 1) hx hb dX11_owner_19 (by decide) ?_
        refine lv_icmp_le (tgt := 26) hx hb dX11_owner_20 (by decide) (fun c6 => ?_) (fun c6 => ?_)
        · have ic6 := (xi_le c6 rfl (by decide) : q.toInt ≤ 1)
          refine lv_iload_n hx hb dX11_owner_26 rfl (lv_at hl 1 rfl) ?_
          refine lv_iload_n hx hb dX11_owner_27 rfl (lv_at hl 2 rfl) ?_
          refine vp_callSi (W.runS (As := [.int a, .int y]) (rest := []) ⟨hx, hb, hml, hown, hts⟩ (rX10_keyOf l dC dI ws tys a (a.toInt) rfl y (y.toInt) rfl (by omega) (by omega) (by omega) (by omega)) (va_cwS 2 hts gX11_owner_X10_keyOf rfl rfl rfl (by decide +kernel) ⟨Nat.le_of_ble_eq_true rfl, Nat.le_of_ble_eq_true rfl⟩) ⟨xR_blind _ _ _ _, xR_pre _ hE hK hP⟩ rfl rfl hl.1 rfl (lv_room (Nat.le_of_ble_eq_true rfl)) dX11_owner_28 ⟨Nat.le_of_ble_eq_true rfl, Nat.le_of_ble_eq_true rfl⟩) (fun rh7 h7 => ?_)
          refine lv_istore (lv' := [(4, .int rh7), (0, .ref cp), (1, .int a), (2, .int y), (3, .int q)]) hx hb dX11_owner_31 hl (by decide) rfl (fun ls hl => ?_)
          refine lv_iload_n hx hb dX11_owner_33 rfl (lv_at hl 4 rfl) ?_
          refine lv_if_ne (tgt := 50) hx hb dX11_owner_34 (by decide) (fun c8 => ?_) (fun c8 => ?_)
          · have ic8 := (xi_ne c8 rfl (by decide) : q.toInt ≠ 0)
            refine lv_aload_n hx hb dX11_owner_50 rfl (lv_at hl 1 rfl) ?_
            refine va_get (D := (dC, dI)) (ci := 11) (v := .ref tn) (C := RX11) (T := TX11) (N := 8) hx hb hts iX11 hown hK hP p0 e0 rfl 4 (by decide) (hts (.fieldLink RX11 44 "CapLeague" "turns" "LCapLeague$Turns;") (by decide +kernel)) (fun _ h9 => h9) rfl dX11_owner_51 ?_
            refine va_get (D := (dC, dI)) (ci := 10) (v := .ref sh) (C := RX10) (T := TX10) (N := 4) hx hb hts iX10 hown hK hP p1 e1 rfl 1 (by decide) (hts (.fieldLink RX11 216 "CapLeague$Turns" "shield" "[I") (by decide +kernel)) (fun _ h9 => h9) rfl dX11_owner_54 ?_
            refine lv_iload hx hb dX11_owner_57 (lv_at hl 0 rfl) ?_
            refine va_iald (D := (dC, dI)) hx hb hK hP p3 t3 e3 y3 (xi_in (by omega) (by omega)) dX11_owner_59 ?_
            refine xw_i (v := 0) rfl ?_
            exact W.iret (v := 0) hx hb hr (fun t ht hW => ⟨0, rfl, by first | exact Or.inl ⟨by first | rfl | exact xi_of (by omega), by first | trivial | omega⟩ | exact Or.inr (Or.inl ⟨by first | rfl | exact xi_k (k := 0) (by decide) (by omega), by first | trivial | omega⟩) | exact Or.inr (Or.inr (⟨by first | rfl | exact xi_k (k := (-2)) (by decide) (by omega), by first | trivial | omega⟩)), ht⟩) (fun _ h => by cases h) dX11_owner_60
          · have ic8 := (xi_eq c8 rfl (by decide) : q.toInt = 0)
            refine lv_aload_n hx hb dX11_owner_37 rfl (lv_at hl 1 rfl) ?_
            refine va_get (D := (dC, dI)) (ci := 11) (v := .ref tn) (C := RX11) (T := TX11) (N := 8) hx hb hts iX11 hown hK hP p0 e0 rfl 4 (by decide) (hts (.fieldLink RX11 44 "CapLeague" "turns" "LCapLeague$Turns;") (by decide +kernel)) (fun _ h9 => h9) rfl dX11_owner_38 ?_
            refine va_get (D := (dC, dI)) (ci := 10) (v := .ref ho) (C := RX10) (T := TX10) (N := 4) hx hb hts iX10 hown hK hP p1 e1 rfl 0 (by decide) (hts (.fieldLink RX11 206 "CapLeague$Turns" "holder" "[I") (by decide +kernel)) (fun _ h9 => h9) rfl dX11_owner_41 ?_
            refine lv_iload hx hb dX11_owner_44 (lv_at hl 0 rfl) ?_
            refine va_iald (D := (dC, dI)) hx hb hK hP p2 t2 e2 y2 (xi_in (by omega) (by omega)) dX11_owner_46 ?_
            refine lv_topi (fun v9 ev9 => ?_)
            have jv9 : v9.toInt = rh7.toInt / 10 := by rw [ev9]; exact xh_at hh (by omega) (by omega)
            refine lv_goto (tgt := 60) hx hb dX11_owner_47 (by decide) ?_
            exact W.iret (v := v9) hx hb hr (fun t ht hW => ⟨v9, rfl, by first | exact Or.inl ⟨by first | rfl | exact xi_of (by omega), by first | trivial | omega⟩ | exact Or.inr (Or.inl ⟨by first | rfl | exact xi_k (k := 0) (by decide) (by omega), by first | trivial | omega⟩) | exact Or.inr (Or.inr (⟨by first | rfl | exact xi_k (k := (-2)) (by decide) (by omega), by first | trivial | omega⟩)), ht⟩) (fun _ h => by cases h) dX11_owner_60
        · have ic6 := (xi_nle c6 rfl (by decide) : 1 < q.toInt)
          refine lv_bipush (v := (-2)) hx hb dX11_owner_23 (by decide) ?_
          exact W.iret (v := (-2)) hx hb hr (fun t ht hW => ⟨(-2), rfl, by first | exact Or.inl ⟨by first | rfl | exact xi_of (by omega), by first | trivial | omega⟩ | exact Or.inr (Or.inl ⟨by first | rfl | exact xi_k (k := 0) (by decide) (by omega), by first | trivial | omega⟩) | exact Or.inr (Or.inr (⟨by first | rfl | exact xi_k (k := (-2)) (by decide) (by omega), by first | trivial | omega⟩)), ht⟩) (fun _ h => by cases h) dX11_owner_25
    · skip
      refine lv_if_eq (tgt := 23) hx hb dX11_owner_11 (by decide) (fun _ => ?_) (fun h => absurd (by decide) h)
      refine lv_bipush (v := (-2)) hx hb dX11_owner_23 (by decide) ?_
      exact W.iret (v := (-2)) hx hb hr (fun t ht hW => ⟨(-2), rfl, by first | exact Or.inl ⟨by first | rfl | exact xi_of (by omega), by first | trivial | omega⟩ | exact Or.inr (Or.inl ⟨by first | rfl | exact xi_k (k := 0) (by decide) (by omega), by first | trivial | omega⟩) | exact Or.inr (Or.inr (⟨by first | rfl | exact xi_k (k := (-2)) (by decide) (by omega), by first | trivial | omega⟩)), ht⟩) (fun _ h => by cases h) dX11_owner_25
  · skip
    refine lv_if_eq (tgt := 23) hx hb dX11_owner_4 (by decide) (fun _ => ?_) (fun h => absurd (by decide) h)
    refine lv_bipush (v := (-2)) hx hb dX11_owner_23 (by decide) ?_
    exact W.iret (v := (-2)) hx hb hr (fun t ht hW => ⟨(-2), rfl, by first | exact Or.inl ⟨by first | rfl | exact xi_of (by omega), by first | trivial | omega⟩ | exact Or.inr (Or.inl ⟨by first | rfl | exact xi_k (k := 0) (by decide) (by omega), by first | trivial | omega⟩) | exact Or.inr (Or.inr (⟨by first | rfl | exact xi_k (k := (-2)) (by decide) (by omega), by first | trivial | omega⟩)), ht⟩) (fun _ h => by cases h) dX11_owner_25
set_option maxHeartbeats 4000000 in
set_option maxRecDepth 100000 in
theorem rX5_number (l : Launch) (dC : Nat → ClassId) (dI : Nat → Nat → Nat) (ws : va_W) (tys : List (ClassId × FieldType)) {lo lw nu : Nat} {cl cn : ClassId} {fn : Nat → Int32} {fl : Nat → Int32} (fh0 : fn 0 = 1000) (fh1 : fn 1 = 15) (fh2 : fn 2 = 4) (fh3 : fn 3 = 0) (fh4 : fn 4 = 100) (fh5 : fn 5 = 0) (fh6 : fn 6 = 0) (fh7 : fn 7 = 0) (fh8 : fl 0 = 1) (p0 : Nat) (e0 : ws[p0]? = some (lw, .inr (5, [.ref nu, .ref lo, .int 1]))) (p1 : Nat) (e1 : ws[p1]? = some (nu, .inl (cn, 8, .inl fn))) (t1 : Nat) (y1 : tys[t1]? = some (cn, .int)) (p2 : Nat) (e2 : ws[p2]? = some (lo, .inl (cl, 6, .inl fl))) (t2 : Nat) (y2 : tys[t2]? = some (cl, .int)) (q : Int32) (q_t : Int) (h_q : q.toInt = q_t)  : Met l yX5_number wsX5_number ({ frames := 1, cells := 0, slots := 0, locals := 64 }) (va_Pc [.ref lw, .int q] (xR (dC, dI) tys ws)) (vp_Si (fun r => (r = 1000 ∧ q_t = 0) ∨ (r = 15 ∧ q_t = 1) ∨ (r = 4 ∧ q_t = 2) ∨ (r = 100 ∧ q_t = 4) ∨ (r = 1 ∧ (q_t = 8 ∨ q_t = 10)) ∨ (r = 0 ∧ (q_t = 3 ∨ q_t = 5 ∨ q_t = 6 ∨ q_t = 7)) ∨ (r = (-9) ∧ ¬ (0 ≤ q_t ∧ q_t ≤ 10 ∧ q_t ≠ 9)))) 0 0 (fun _ => False) := by
  refine Met.ofW (cc := cX5_number) (maxL := 2) (ret := (some .int)) (by decide) rfl ?_
  intro pr_ ev_ s m args below meth cd_ s₁ B hml hv
  obtain ⟨rfl, hE, hK, hP⟩ := hv
  have hx := B.exec
  have hb := B.bytes
  have hr := B.returns
  have hts := atoms_spec (ws := wsX5_number) B.pre
  have hown : s.vm.findClass RX5 = some m.cls := findClass_of_methodNamed B.named
  have hlocks := B.notSynchronized
  have iX5 : ∀ w ∈ u_ws RX5 TX5 3, w ∈ wsX5_number := by decide +kernel
  have hl := lv_entry ([.ref lw, .int q]) (n := 2) (Nat.le_of_ble_eq_true rfl)
  rw [lg_entry_eq]
  generalize (lg_sl ([.ref lw, .int q]) ++ List.replicate (2 - (lg_sl ([.ref lw, .int q])).length) Slot.unset).toArray = ls at hl ⊢
  have hl : lv_has ls 2 [(0, .ref lw), (1, .int q)] := hl
  have lo_q := xi_lo q
  have hi_q := xi_hi q
  refine lv_iload_n hx hb dX5_number_0 rfl (lv_at hl 1 rfl) ?_
  refine lv_if_lt (tgt := 17) hx hb dX5_number_1 (by decide) (fun c1 => ?_) (fun c1 => ?_)
  · have ic1 := (xi_lt c1 rfl (by decide) : q.toInt < 0)
    refine lv_iload_n hx hb dX5_number_17 rfl (lv_at hl 1 rfl) ?_
    refine lv_bipush (v := 8) hx hb dX5_number_18 (by decide) ?_
    refine lv_icmp_ne (tgt := 28) hx hb dX5_number_20 (by decide) (fun c2 => ?_) (fun h => absurd (xi_eq h rfl (by decide) : q.toInt = 8) (by omega))
    have ic2 := (xi_ne c2 rfl (by decide) : q.toInt ≠ 8)
    refine lv_iload_n hx hb dX5_number_28 rfl (lv_at hl 1 rfl) ?_
    refine lv_bipush (v := 10) hx hb dX5_number_29 (by decide) ?_
    refine lv_icmp_lt (tgt := 57) hx hb dX5_number_31 (by decide) (fun c3 => ?_) (fun h => absurd (xi_nlt h rfl (by decide) : 10 ≤ q.toInt) (by omega))
    have ic3 := (xi_lt c3 rfl (by decide) : q.toInt < 10)
    refine lv_bipush (v := (-9)) hx hb dX5_number_57 (by decide) ?_
    exact W.iret (v := (-9)) hx hb hr (fun t ht hW => ⟨(-9), rfl, by first | exact Or.inl ⟨by first | rfl | exact xi_k (k := 1000) (by decide) (by omega), by first | trivial | omega⟩ | exact Or.inr (Or.inl ⟨by first | rfl | exact xi_k (k := 15) (by decide) (by omega), by first | trivial | omega⟩) | exact Or.inr (Or.inr (Or.inl ⟨by first | rfl | exact xi_k (k := 4) (by decide) (by omega), by first | trivial | omega⟩)) | exact Or.inr (Or.inr (Or.inr (Or.inl ⟨by first | rfl | exact xi_k (k := 100) (by decide) (by omega), by first | trivial | omega⟩))) | exact Or.inr (Or.inr (Or.inr (Or.inr (Or.inl ⟨by first | rfl | exact xi_k (k := 1) (by decide) (by omega), by first | trivial | omega⟩)))) | exact Or.inr (Or.inr (Or.inr (Or.inr (Or.inr (Or.inl ⟨by first | rfl | exact xi_k (k := 0) (by decide) (by omega), by first | trivial | omega⟩))))) | exact Or.inr (Or.inr (Or.inr (Or.inr (Or.inr (Or.inr (⟨by first | rfl | exact xi_k (k := (-9)) (by decide) (by omega), by first | trivial | omega⟩)))))), ht⟩) (fun _ h => by cases h) dX5_number_59
  · have ic1 := (xi_nlt c1 rfl (by decide) : 0 ≤ q.toInt)
    refine lv_iload_n hx hb dX5_number_4 rfl (lv_at hl 1 rfl) ?_
    refine lv_bipush (v := 8) hx hb dX5_number_5 (by decide) ?_
    refine lv_icmp_ge (tgt := 17) hx hb dX5_number_7 (by decide) (fun c4 => ?_) (fun c4 => ?_)
    · have ic4 := (xi_le c4 (by decide) rfl : 8 ≤ q.toInt)
      refine lv_iload_n hx hb dX5_number_17 rfl (lv_at hl 1 rfl) ?_
      refine lv_bipush (v := 8) hx hb dX5_number_18 (by decide) ?_
      refine lv_icmp_ne (tgt := 28) hx hb dX5_number_20 (by decide) (fun c5 => ?_) (fun c5 => ?_)
      · have ic5 := (xi_ne c5 rfl (by decide) : q.toInt ≠ 8)
        refine lv_iload_n hx hb dX5_number_28 rfl (lv_at hl 1 rfl) ?_
        refine lv_bipush (v := 10) hx hb dX5_number_29 (by decide) ?_
        refine lv_icmp_lt (tgt := 57) hx hb dX5_number_31 (by decide) (fun c6 => ?_) (fun c6 => ?_)
        · have ic6 := (xi_lt c6 rfl (by decide) : q.toInt < 10)
          refine lv_bipush (v := (-9)) hx hb dX5_number_57 (by decide) ?_
          exact W.iret (v := (-9)) hx hb hr (fun t ht hW => ⟨(-9), rfl, by first | exact Or.inl ⟨by first | rfl | exact xi_k (k := 1000) (by decide) (by omega), by first | trivial | omega⟩ | exact Or.inr (Or.inl ⟨by first | rfl | exact xi_k (k := 15) (by decide) (by omega), by first | trivial | omega⟩) | exact Or.inr (Or.inr (Or.inl ⟨by first | rfl | exact xi_k (k := 4) (by decide) (by omega), by first | trivial | omega⟩)) | exact Or.inr (Or.inr (Or.inr (Or.inl ⟨by first | rfl | exact xi_k (k := 100) (by decide) (by omega), by first | trivial | omega⟩))) | exact Or.inr (Or.inr (Or.inr (Or.inr (Or.inl ⟨by first | rfl | exact xi_k (k := 1) (by decide) (by omega), by first | trivial | omega⟩)))) | exact Or.inr (Or.inr (Or.inr (Or.inr (Or.inr (Or.inl ⟨by first | rfl | exact xi_k (k := 0) (by decide) (by omega), by first | trivial | omega⟩))))) | exact Or.inr (Or.inr (Or.inr (Or.inr (Or.inr (Or.inr (⟨by first | rfl | exact xi_k (k := (-9)) (by decide) (by omega), by first | trivial | omega⟩)))))), ht⟩) (fun _ h => by cases h) dX5_number_59
        · have ic6 := (xi_nlt c6 rfl (by decide) : 10 ≤ q.toInt)
          refine lv_iload_n hx hb dX5_number_34 rfl (lv_at hl 1 rfl) ?_
          refine lv_bipush (v := 10) hx hb dX5_number_35 (by decide) ?_
          refine lv_isub hx hb dX5_number_37 ?_
          refine lv_topi (fun v7 ev7 => ?_)
          have jv7 : v7.toInt = q.toInt - 10 := xi_sub ev7 rfl (by decide) (by omega) (by omega)
          refine lv_aload_n hx hb dX5_number_38 rfl (lv_at hl 0 rfl) ?_
          refine va_get (D := (dC, dI)) (ci := 5) (v := .int 1) (C := RX5) (T := TX5) (N := 3) hx hb hts iX5 hown hK hP p0 e0 rfl 2 (by decide) (hts (.fieldLink RX5 30 "CapLeague$Laws" "lotCount" "I") (by decide +kernel)) (fun _ h9 => h9) rfl dX5_number_39 ?_
          refine lv_icmp_ge (tgt := 57) hx hb dX5_number_42 (by decide) (fun c8 => ?_) (fun c8 => ?_)
          · have ic8 := (xi_le c8 (by decide) rfl : 1 ≤ v7.toInt)
            refine lv_bipush (v := (-9)) hx hb dX5_number_57 (by decide) ?_
            exact W.iret (v := (-9)) hx hb hr (fun t ht hW => ⟨(-9), rfl, by first | exact Or.inl ⟨by first | rfl | exact xi_k (k := 1000) (by decide) (by omega), by first | trivial | omega⟩ | exact Or.inr (Or.inl ⟨by first | rfl | exact xi_k (k := 15) (by decide) (by omega), by first | trivial | omega⟩) | exact Or.inr (Or.inr (Or.inl ⟨by first | rfl | exact xi_k (k := 4) (by decide) (by omega), by first | trivial | omega⟩)) | exact Or.inr (Or.inr (Or.inr (Or.inl ⟨by first | rfl | exact xi_k (k := 100) (by decide) (by omega), by first | trivial | omega⟩))) | exact Or.inr (Or.inr (Or.inr (Or.inr (Or.inl ⟨by first | rfl | exact xi_k (k := 1) (by decide) (by omega), by first | trivial | omega⟩)))) | exact Or.inr (Or.inr (Or.inr (Or.inr (Or.inr (Or.inl ⟨by first | rfl | exact xi_k (k := 0) (by decide) (by omega), by first | trivial | omega⟩))))) | exact Or.inr (Or.inr (Or.inr (Or.inr (Or.inr (Or.inr (⟨by first | rfl | exact xi_k (k := (-9)) (by decide) (by omega), by first | trivial | omega⟩)))))), ht⟩) (fun _ h => by cases h) dX5_number_59
          · have ic8 := (xi_nle c8 (by decide) rfl : v7.toInt < 1)
            refine lv_aload_n hx hb dX5_number_45 rfl (lv_at hl 0 rfl) ?_
            refine va_get (D := (dC, dI)) (ci := 5) (v := .ref lo) (C := RX5) (T := TX5) (N := 3) hx hb hts iX5 hown hK hP p0 e0 rfl 1 (by decide) (hts (.fieldLink RX5 15 "CapLeague$Laws" "lots" "[I") (by decide +kernel)) (fun _ h9 => h9) rfl dX5_number_46 ?_
            refine lv_iload_n hx hb dX5_number_49 rfl (lv_at hl 1 rfl) ?_
            refine lv_bipush (v := 10) hx hb dX5_number_50 (by decide) ?_
            refine lv_isub hx hb dX5_number_52 ?_
            refine lv_topi (fun v9 ev9 => ?_)
            have jv9 : v9.toInt = q.toInt - 10 := xi_sub ev9 rfl (by decide) (by omega) (by omega)
            refine va_iald (D := (dC, dI)) hx hb hK hP p2 t2 e2 y2 (xi_in (by omega) (by omega)) dX5_number_53 ?_
            rcases (show v9.toInt = 0 by omega) with c10
            · refine xw_i (v := 1) (by rw [show v9.toNatClampNeg = 0 from xi_cl c10]; exact fh8) ?_
              refine lv_goto (tgt := 59) hx hb dX5_number_54 (by decide) ?_
              exact W.iret (v := 1) hx hb hr (fun t ht hW => ⟨1, rfl, by first | exact Or.inl ⟨by first | rfl | exact xi_k (k := 1000) (by decide) (by omega), by first | trivial | omega⟩ | exact Or.inr (Or.inl ⟨by first | rfl | exact xi_k (k := 15) (by decide) (by omega), by first | trivial | omega⟩) | exact Or.inr (Or.inr (Or.inl ⟨by first | rfl | exact xi_k (k := 4) (by decide) (by omega), by first | trivial | omega⟩)) | exact Or.inr (Or.inr (Or.inr (Or.inl ⟨by first | rfl | exact xi_k (k := 100) (by decide) (by omega), by first | trivial | omega⟩))) | exact Or.inr (Or.inr (Or.inr (Or.inr (Or.inl ⟨by first | rfl | exact xi_k (k := 1) (by decide) (by omega), by first | trivial | omega⟩)))) | exact Or.inr (Or.inr (Or.inr (Or.inr (Or.inr (Or.inl ⟨by first | rfl | exact xi_k (k := 0) (by decide) (by omega), by first | trivial | omega⟩))))) | exact Or.inr (Or.inr (Or.inr (Or.inr (Or.inr (Or.inr (⟨by first | rfl | exact xi_k (k := (-9)) (by decide) (by omega), by first | trivial | omega⟩)))))), ht⟩) (fun _ h => by cases h) dX5_number_59
      · have ic5 := (xi_eq c5 rfl (by decide) : q.toInt = 8)
        refine lv_aload_n hx hb dX5_number_23 rfl (lv_at hl 0 rfl) ?_
        refine va_get (D := (dC, dI)) (ci := 5) (v := .int 1) (C := RX5) (T := TX5) (N := 3) hx hb hts iX5 hown hK hP p0 e0 rfl 2 (by decide) (hts (.fieldLink RX5 30 "CapLeague$Laws" "lotCount" "I") (by decide +kernel)) (fun _ h9 => h9) rfl dX5_number_24 ?_
        exact W.iret (v := 1) hx hb hr (fun t ht hW => ⟨1, rfl, by first | exact Or.inl ⟨by first | rfl | exact xi_k (k := 1000) (by decide) (by omega), by first | trivial | omega⟩ | exact Or.inr (Or.inl ⟨by first | rfl | exact xi_k (k := 15) (by decide) (by omega), by first | trivial | omega⟩) | exact Or.inr (Or.inr (Or.inl ⟨by first | rfl | exact xi_k (k := 4) (by decide) (by omega), by first | trivial | omega⟩)) | exact Or.inr (Or.inr (Or.inr (Or.inl ⟨by first | rfl | exact xi_k (k := 100) (by decide) (by omega), by first | trivial | omega⟩))) | exact Or.inr (Or.inr (Or.inr (Or.inr (Or.inl ⟨by first | rfl | exact xi_k (k := 1) (by decide) (by omega), by first | trivial | omega⟩)))) | exact Or.inr (Or.inr (Or.inr (Or.inr (Or.inr (Or.inl ⟨by first | rfl | exact xi_k (k := 0) (by decide) (by omega), by first | trivial | omega⟩))))) | exact Or.inr (Or.inr (Or.inr (Or.inr (Or.inr (Or.inr (⟨by first | rfl | exact xi_k (k := (-9)) (by decide) (by omega), by first | trivial | omega⟩)))))), ht⟩) (fun _ h => by cases h) dX5_number_27
    · have ic4 := (xi_nle c4 (by decide) rfl : q.toInt < 8)
      refine lv_aload_n hx hb dX5_number_10 rfl (lv_at hl 0 rfl) ?_
      refine va_get (D := (dC, dI)) (ci := 5) (v := .ref nu) (C := RX5) (T := TX5) (N := 3) hx hb hts iX5 hown hK hP p0 e0 rfl 0 (by decide) (hts (.fieldLink RX5 9 "CapLeague$Laws" "numbers" "[I") (by decide +kernel)) (fun _ h9 => h9) rfl dX5_number_11 ?_
      refine lv_iload_n hx hb dX5_number_14 rfl (lv_at hl 1 rfl) ?_
      refine va_iald (D := (dC, dI)) hx hb hK hP p1 t1 e1 y1 (xi_in (by omega) (by omega)) dX5_number_15 ?_
      rcases (show q.toInt = 0 ∨ q.toInt = 1 ∨ q.toInt = 2 ∨ q.toInt = 3 ∨ q.toInt = 4 ∨ q.toInt = 5 ∨ q.toInt = 6 ∨ q.toInt = 7 by omega) with c11 | c11 | c11 | c11 | c11 | c11 | c11 | c11
      · refine xw_i (v := 1000) (by rw [show q.toNatClampNeg = 0 from xi_cl c11]; exact fh0) ?_
        exact W.iret (v := 1000) hx hb hr (fun t ht hW => ⟨1000, rfl, by first | exact Or.inl ⟨by first | rfl | exact xi_k (k := 1000) (by decide) (by omega), by first | trivial | omega⟩ | exact Or.inr (Or.inl ⟨by first | rfl | exact xi_k (k := 15) (by decide) (by omega), by first | trivial | omega⟩) | exact Or.inr (Or.inr (Or.inl ⟨by first | rfl | exact xi_k (k := 4) (by decide) (by omega), by first | trivial | omega⟩)) | exact Or.inr (Or.inr (Or.inr (Or.inl ⟨by first | rfl | exact xi_k (k := 100) (by decide) (by omega), by first | trivial | omega⟩))) | exact Or.inr (Or.inr (Or.inr (Or.inr (Or.inl ⟨by first | rfl | exact xi_k (k := 1) (by decide) (by omega), by first | trivial | omega⟩)))) | exact Or.inr (Or.inr (Or.inr (Or.inr (Or.inr (Or.inl ⟨by first | rfl | exact xi_k (k := 0) (by decide) (by omega), by first | trivial | omega⟩))))) | exact Or.inr (Or.inr (Or.inr (Or.inr (Or.inr (Or.inr (⟨by first | rfl | exact xi_k (k := (-9)) (by decide) (by omega), by first | trivial | omega⟩)))))), ht⟩) (fun _ h => by cases h) dX5_number_16
      · refine xw_i (v := 15) (by rw [show q.toNatClampNeg = 1 from xi_cl c11]; exact fh1) ?_
        exact W.iret (v := 15) hx hb hr (fun t ht hW => ⟨15, rfl, by first | exact Or.inl ⟨by first | rfl | exact xi_k (k := 1000) (by decide) (by omega), by first | trivial | omega⟩ | exact Or.inr (Or.inl ⟨by first | rfl | exact xi_k (k := 15) (by decide) (by omega), by first | trivial | omega⟩) | exact Or.inr (Or.inr (Or.inl ⟨by first | rfl | exact xi_k (k := 4) (by decide) (by omega), by first | trivial | omega⟩)) | exact Or.inr (Or.inr (Or.inr (Or.inl ⟨by first | rfl | exact xi_k (k := 100) (by decide) (by omega), by first | trivial | omega⟩))) | exact Or.inr (Or.inr (Or.inr (Or.inr (Or.inl ⟨by first | rfl | exact xi_k (k := 1) (by decide) (by omega), by first | trivial | omega⟩)))) | exact Or.inr (Or.inr (Or.inr (Or.inr (Or.inr (Or.inl ⟨by first | rfl | exact xi_k (k := 0) (by decide) (by omega), by first | trivial | omega⟩))))) | exact Or.inr (Or.inr (Or.inr (Or.inr (Or.inr (Or.inr (⟨by first | rfl | exact xi_k (k := (-9)) (by decide) (by omega), by first | trivial | omega⟩)))))), ht⟩) (fun _ h => by cases h) dX5_number_16
      · refine xw_i (v := 4) (by rw [show q.toNatClampNeg = 2 from xi_cl c11]; exact fh2) ?_
        exact W.iret (v := 4) hx hb hr (fun t ht hW => ⟨4, rfl, by first | exact Or.inl ⟨by first | rfl | exact xi_k (k := 1000) (by decide) (by omega), by first | trivial | omega⟩ | exact Or.inr (Or.inl ⟨by first | rfl | exact xi_k (k := 15) (by decide) (by omega), by first | trivial | omega⟩) | exact Or.inr (Or.inr (Or.inl ⟨by first | rfl | exact xi_k (k := 4) (by decide) (by omega), by first | trivial | omega⟩)) | exact Or.inr (Or.inr (Or.inr (Or.inl ⟨by first | rfl | exact xi_k (k := 100) (by decide) (by omega), by first | trivial | omega⟩))) | exact Or.inr (Or.inr (Or.inr (Or.inr (Or.inl ⟨by first | rfl | exact xi_k (k := 1) (by decide) (by omega), by first | trivial | omega⟩)))) | exact Or.inr (Or.inr (Or.inr (Or.inr (Or.inr (Or.inl ⟨by first | rfl | exact xi_k (k := 0) (by decide) (by omega), by first | trivial | omega⟩))))) | exact Or.inr (Or.inr (Or.inr (Or.inr (Or.inr (Or.inr (⟨by first | rfl | exact xi_k (k := (-9)) (by decide) (by omega), by first | trivial | omega⟩)))))), ht⟩) (fun _ h => by cases h) dX5_number_16
      · refine xw_i (v := 0) (by rw [show q.toNatClampNeg = 3 from xi_cl c11]; exact fh3) ?_
        exact W.iret (v := 0) hx hb hr (fun t ht hW => ⟨0, rfl, by first | exact Or.inl ⟨by first | rfl | exact xi_k (k := 1000) (by decide) (by omega), by first | trivial | omega⟩ | exact Or.inr (Or.inl ⟨by first | rfl | exact xi_k (k := 15) (by decide) (by omega), by first | trivial | omega⟩) | exact Or.inr (Or.inr (Or.inl ⟨by first | rfl | exact xi_k (k := 4) (by decide) (by omega), by first | trivial | omega⟩)) | exact Or.inr (Or.inr (Or.inr (Or.inl ⟨by first | rfl | exact xi_k (k := 100) (by decide) (by omega), by first | trivial | omega⟩))) | exact Or.inr (Or.inr (Or.inr (Or.inr (Or.inl ⟨by first | rfl | exact xi_k (k := 1) (by decide) (by omega), by first | trivial | omega⟩)))) | exact Or.inr (Or.inr (Or.inr (Or.inr (Or.inr (Or.inl ⟨by first | rfl | exact xi_k (k := 0) (by decide) (by omega), by first | trivial | omega⟩))))) | exact Or.inr (Or.inr (Or.inr (Or.inr (Or.inr (Or.inr (⟨by first | rfl | exact xi_k (k := (-9)) (by decide) (by omega), by first | trivial | omega⟩)))))), ht⟩) (fun _ h => by cases h) dX5_number_16
      · refine xw_i (v := 100) (by rw [show q.toNatClampNeg = 4 from xi_cl c11]; exact fh4) ?_
        exact W.iret (v := 100) hx hb hr (fun t ht hW => ⟨100, rfl, by first | exact Or.inl ⟨by first | rfl | exact xi_k (k := 1000) (by decide) (by omega), by first | trivial | omega⟩ | exact Or.inr (Or.inl ⟨by first | rfl | exact xi_k (k := 15) (by decide) (by omega), by first | trivial | omega⟩) | exact Or.inr (Or.inr (Or.inl ⟨by first | rfl | exact xi_k (k := 4) (by decide) (by omega), by first | trivial | omega⟩)) | exact Or.inr (Or.inr (Or.inr (Or.inl ⟨by first | rfl | exact xi_k (k := 100) (by decide) (by omega), by first | trivial | omega⟩))) | exact Or.inr (Or.inr (Or.inr (Or.inr (Or.inl ⟨by first | rfl | exact xi_k (k := 1) (by decide) (by omega), by first | trivial | omega⟩)))) | exact Or.inr (Or.inr (Or.inr (Or.inr (Or.inr (Or.inl ⟨by first | rfl | exact xi_k (k := 0) (by decide) (by omega), by first | trivial | omega⟩))))) | exact Or.inr (Or.inr (Or.inr (Or.inr (Or.inr (Or.inr (⟨by first | rfl | exact xi_k (k := (-9)) (by decide) (by omega), by first | trivial | omega⟩)))))), ht⟩) (fun _ h => by cases h) dX5_number_16
      · refine xw_i (v := 0) (by rw [show q.toNatClampNeg = 5 from xi_cl c11]; exact fh5) ?_
        exact W.iret (v := 0) hx hb hr (fun t ht hW => ⟨0, rfl, by first | exact Or.inl ⟨by first | rfl | exact xi_k (k := 1000) (by decide) (by omega), by first | trivial | omega⟩ | exact Or.inr (Or.inl ⟨by first | rfl | exact xi_k (k := 15) (by decide) (by omega), by first | trivial | omega⟩) | exact Or.inr (Or.inr (Or.inl ⟨by first | rfl | exact xi_k (k := 4) (by decide) (by omega), by first | trivial | omega⟩)) | exact Or.inr (Or.inr (Or.inr (Or.inl ⟨by first | rfl | exact xi_k (k := 100) (by decide) (by omega), by first | trivial | omega⟩))) | exact Or.inr (Or.inr (Or.inr (Or.inr (Or.inl ⟨by first | rfl | exact xi_k (k := 1) (by decide) (by omega), by first | trivial | omega⟩)))) | exact Or.inr (Or.inr (Or.inr (Or.inr (Or.inr (Or.inl ⟨by first | rfl | exact xi_k (k := 0) (by decide) (by omega), by first | trivial | omega⟩))))) | exact Or.inr (Or.inr (Or.inr (Or.inr (Or.inr (Or.inr (⟨by first | rfl | exact xi_k (k := (-9)) (by decide) (by omega), by first | trivial | omega⟩)))))), ht⟩) (fun _ h => by cases h) dX5_number_16
      · refine xw_i (v := 0) (by rw [show q.toNatClampNeg = 6 from xi_cl c11]; exact fh6) ?_
        exact W.iret (v := 0) hx hb hr (fun t ht hW => ⟨0, rfl, by first | exact Or.inl ⟨by first | rfl | exact xi_k (k := 1000) (by decide) (by omega), by first | trivial | omega⟩ | exact Or.inr (Or.inl ⟨by first | rfl | exact xi_k (k := 15) (by decide) (by omega), by first | trivial | omega⟩) | exact Or.inr (Or.inr (Or.inl ⟨by first | rfl | exact xi_k (k := 4) (by decide) (by omega), by first | trivial | omega⟩)) | exact Or.inr (Or.inr (Or.inr (Or.inl ⟨by first | rfl | exact xi_k (k := 100) (by decide) (by omega), by first | trivial | omega⟩))) | exact Or.inr (Or.inr (Or.inr (Or.inr (Or.inl ⟨by first | rfl | exact xi_k (k := 1) (by decide) (by omega), by first | trivial | omega⟩)))) | exact Or.inr (Or.inr (Or.inr (Or.inr (Or.inr (Or.inl ⟨by first | rfl | exact xi_k (k := 0) (by decide) (by omega), by first | trivial | omega⟩))))) | exact Or.inr (Or.inr (Or.inr (Or.inr (Or.inr (Or.inr (⟨by first | rfl | exact xi_k (k := (-9)) (by decide) (by omega), by first | trivial | omega⟩)))))), ht⟩) (fun _ h => by cases h) dX5_number_16
      · refine xw_i (v := 0) (by rw [show q.toNatClampNeg = 7 from xi_cl c11]; exact fh7) ?_
        exact W.iret (v := 0) hx hb hr (fun t ht hW => ⟨0, rfl, by first | exact Or.inl ⟨by first | rfl | exact xi_k (k := 1000) (by decide) (by omega), by first | trivial | omega⟩ | exact Or.inr (Or.inl ⟨by first | rfl | exact xi_k (k := 15) (by decide) (by omega), by first | trivial | omega⟩) | exact Or.inr (Or.inr (Or.inl ⟨by first | rfl | exact xi_k (k := 4) (by decide) (by omega), by first | trivial | omega⟩)) | exact Or.inr (Or.inr (Or.inr (Or.inl ⟨by first | rfl | exact xi_k (k := 100) (by decide) (by omega), by first | trivial | omega⟩))) | exact Or.inr (Or.inr (Or.inr (Or.inr (Or.inl ⟨by first | rfl | exact xi_k (k := 1) (by decide) (by omega), by first | trivial | omega⟩)))) | exact Or.inr (Or.inr (Or.inr (Or.inr (Or.inr (Or.inl ⟨by first | rfl | exact xi_k (k := 0) (by decide) (by omega), by first | trivial | omega⟩))))) | exact Or.inr (Or.inr (Or.inr (Or.inr (Or.inr (Or.inr (⟨by first | rfl | exact xi_k (k := (-9)) (by decide) (by omega), by first | trivial | omega⟩)))))), ht⟩) (fun _ h => by cases h) dX5_number_16
set_option maxHeartbeats 4000000 in
set_option maxRecDepth 100000 in
theorem aX_law (l : Launch) (dC : Nat → ClassId) (dI : Nat → Nat → Nat) (ws : va_W) (tys : List (ClassId × FieldType)) {bk cp dr lb lo nu rd rg td tn tp tx un : Nat} {cl cn ct : ClassId} {fn : Nat → Int32} {fl : Nat → Int32} (fh0 : fn 0 = 1000) (fh1 : fn 1 = 15) (fh2 : fn 2 = 4) (fh3 : fn 3 = 0) (fh4 : fn 4 = 100) (fh5 : fn 5 = 0) (fh6 : fn 6 = 0) (fh7 : fn 7 = 0) (fh8 : fl 0 = 1) (p0 : Nat) (e0 : ws[p0]? = some (cp, .inr (11, [.ref tp, .ref lb, .ref rd, .ref bk, .ref tn, .ref td, .ref rg, .ref dr]))) (p1 : Nat) (e1 : ws[p1]? = some (lb, .inr (3, [.ref un, .ref tx]))) (p2 : Nat) (e2 : ws[p2]? = some (tx, .inl (ct, 10, .inr (.inr (.inr (.inr (fun _ => none))))))) (t2 : Nat) (y2 : tys[t2]? = some (ct, (.object "CapLeague$Laws"))) (p3 : Nat) (e3 : ws[p3]? = some (un, .inr (5, [.ref nu, .ref lo, .int 1]))) (p4 : Nat) (e4 : ws[p4]? = some (nu, .inl (cn, 8, .inl fn))) (t4 : Nat) (y4 : tys[t4]? = some (cn, .int)) (p5 : Nat) (e5 : ws[p5]? = some (lo, .inl (cl, 6, .inl fl))) (t5 : Nat) (y5 : tys[t5]? = some (cl, .int)) (y : Int32) (y_t : Int) (h_y : y.toInt = y_t) (q : Int32) (q_t : Int) (h_q : q.toInt = q_t)  : Met l yX11_law wsX11_law ({ frames := 2, cells := 0, slots := 0, locals := 128 }) (va_Pc [.ref cp, .int y, .int q] (xR (dC, dI) tys ws)) (vp_Si (fun r => (r = 1000 ∧ 0 ≤ y_t ∧ y_t ≤ 9 ∧ q_t = 0) ∨ (r = 15 ∧ 0 ≤ y_t ∧ y_t ≤ 9 ∧ q_t = 1) ∨ (r = 4 ∧ 0 ≤ y_t ∧ y_t ≤ 9 ∧ q_t = 2) ∨ (r = 100 ∧ 0 ≤ y_t ∧ y_t ≤ 9 ∧ q_t = 4) ∨ (r = 1 ∧ 0 ≤ y_t ∧ y_t ≤ 9 ∧ (q_t = 8 ∨ q_t = 10)) ∨ (r = 0 ∧ 0 ≤ y_t ∧ y_t ≤ 9 ∧ (q_t = 3 ∨ q_t = 5 ∨ q_t = 6 ∨ q_t = 7)) ∨ (r = (-9) ∧ ¬ (0 ≤ y_t ∧ y_t ≤ 9 ∧ 0 ≤ q_t ∧ q_t ≤ 10 ∧ q_t ≠ 9)))) 0 0 (fun _ => False) := by
  refine Met.ofW (cc := cX11_law) (maxL := 3) (ret := (some .int)) (by decide) rfl ?_
  intro pr_ ev_ s m args below meth cd_ s₁ B hml hv
  obtain ⟨rfl, hE, hK, hP⟩ := hv
  have hx := B.exec
  have hb := B.bytes
  have hr := B.returns
  have hts := atoms_spec (ws := wsX11_law) B.pre
  have hown : s.vm.findClass RX11 = some m.cls := findClass_of_methodNamed B.named
  have hlocks := B.notSynchronized
  have iX11 : ∀ w ∈ u_ws RX11 TX11 8, w ∈ wsX11_law := by decide +kernel
  have hl := lv_entry ([.ref cp, .int y, .int q]) (n := 3) (Nat.le_of_ble_eq_true rfl)
  rw [lg_entry_eq]
  generalize (lg_sl ([.ref cp, .int y, .int q]) ++ List.replicate (3 - (lg_sl ([.ref cp, .int y, .int q])).length) Slot.unset).toArray = ls at hl ⊢
  have hl : lv_has ls 3 [(0, .ref cp), (1, .int y), (2, .int q)] := hl
  have lo_y := xi_lo y
  have hi_y := xi_hi y
  have lo_q := xi_lo q
  have hi_q := xi_hi q
  refine lv_iload_n hx hb dX11_law_0 rfl (lv_at hl 1 rfl) ?_
  refine vp_callSi (W.runS (As := [.int y]) (rest := []) ⟨hx, hb, hml, hown, hts⟩ (cX11_isYear_ l dC dI ws tys y (y.toInt) rfl) (va_cwS 1 hts gX11_law_X11_isYear rfl rfl rfl (by decide +kernel) ⟨Nat.le_of_ble_eq_true rfl, Nat.le_of_ble_eq_true rfl⟩) ⟨xR_blind _ _ _ _, xR_pre _ hE hK hP⟩ rfl rfl hl.1 rfl (lv_room (Nat.le_of_ble_eq_true rfl)) dX11_law_1 ⟨Nat.le_of_ble_eq_true rfl, Nat.le_of_ble_eq_true rfl⟩) (fun rh1 h1 => ?_)
  rcases h1 with ⟨rfl, h1⟩ | ⟨rfl, h1⟩
  · skip
    refine lv_if_eq (tgt := 22) hx hb dX11_law_4 (by decide) (fun h => absurd h (by decide)) (fun _ => ?_)
    refine lv_aload_n hx hb dX11_law_7 rfl (lv_at hl 0 rfl) ?_
    refine va_get (D := (dC, dI)) (ci := 11) (v := .ref lb) (C := RX11) (T := TX11) (N := 8) hx hb hts iX11 hown hK hP p0 e0 rfl 1 (by decide) (hts (.fieldLink RX11 19 "CapLeague" "lawBook" "LCapLeague$LawBook;") (by decide +kernel)) (fun _ h9 => h9) rfl dX11_law_8 ?_
    refine lv_iload_n hx hb dX11_law_11 rfl (lv_at hl 1 rfl) ?_
    refine va_csq (W.runV (As := [.int y]) (rest := []) ⟨hx, hb, hml, hown, hts⟩ (cX3_of_ l dC dI ws tys p1 e1 p2 e2 t2 y2 y (y.toInt) rfl) (cwV 1 hts gX11_law_X3_of rfl rfl rfl (by decide +kernel) ⟨Nat.le_of_ble_eq_true rfl, Nat.le_of_ble_eq_true rfl⟩) ⟨xR_blind _ _ _ _, va_recv hK hP (ci := 3) (q0 := p1) rfl e1, xR_pre _ hE hK hP⟩ rfl rfl hl.1 rfl (lv_room (Nat.le_of_ble_eq_true rfl)) dX11_law_12 ⟨Nat.le_of_ble_eq_true rfl, Nat.le_of_ble_eq_true rfl⟩) (fun rh3 h3 => ?_)
    obtain ⟨rfl, h3⟩ := h3
    refine xw_v (v := .ref un) rfl ?_
    refine lv_iload_n hx hb dX11_law_15 rfl (lv_at hl 2 rfl) ?_
    refine vp_callSi (W.runV (As := [.int q]) (rest := []) ⟨hx, hb, hml, hown, hts⟩ (rX5_number l dC dI ws tys fh0 fh1 fh2 fh3 fh4 fh5 fh6 fh7 fh8 p3 e3 p4 e4 t4 y4 p5 e5 t5 y5 q (q.toInt) rfl) (cwV 1 hts gX11_law_X5_number rfl rfl rfl (by decide +kernel) ⟨Nat.le_of_ble_eq_true rfl, Nat.le_of_ble_eq_true rfl⟩) ⟨xR_blind _ _ _ _, va_recv hK hP (ci := 5) (q0 := p3) rfl e3, xR_pre _ hE hK hP⟩ rfl rfl hl.1 rfl (lv_room (Nat.le_of_ble_eq_true rfl)) dX11_law_16 ⟨Nat.le_of_ble_eq_true rfl, Nat.le_of_ble_eq_true rfl⟩) (fun rh4 h4 => ?_)
    rcases h4 with ⟨rfl, h4⟩ | ⟨rfl, h4⟩ | ⟨rfl, h4⟩ | ⟨rfl, h4⟩ | ⟨rfl, h4⟩ | ⟨rfl, h4⟩ | ⟨rfl, h4⟩
    · skip
      refine lv_goto (tgt := 24) hx hb dX11_law_19 (by decide) ?_
      exact W.iret (v := 1000) hx hb hr (fun t ht hW => ⟨1000, rfl, by first | exact Or.inl ⟨by first | rfl | exact xi_k (k := 1000) (by decide) (by omega), by first | trivial | omega⟩ | exact Or.inr (Or.inl ⟨by first | rfl | exact xi_k (k := 15) (by decide) (by omega), by first | trivial | omega⟩) | exact Or.inr (Or.inr (Or.inl ⟨by first | rfl | exact xi_k (k := 4) (by decide) (by omega), by first | trivial | omega⟩)) | exact Or.inr (Or.inr (Or.inr (Or.inl ⟨by first | rfl | exact xi_k (k := 100) (by decide) (by omega), by first | trivial | omega⟩))) | exact Or.inr (Or.inr (Or.inr (Or.inr (Or.inl ⟨by first | rfl | exact xi_k (k := 1) (by decide) (by omega), by first | trivial | omega⟩)))) | exact Or.inr (Or.inr (Or.inr (Or.inr (Or.inr (Or.inl ⟨by first | rfl | exact xi_k (k := 0) (by decide) (by omega), by first | trivial | omega⟩))))) | exact Or.inr (Or.inr (Or.inr (Or.inr (Or.inr (Or.inr (⟨by first | rfl | exact xi_k (k := (-9)) (by decide) (by omega), by first | trivial | omega⟩)))))), ht⟩) (fun _ h => by cases h) dX11_law_24
    · skip
      refine lv_goto (tgt := 24) hx hb dX11_law_19 (by decide) ?_
      exact W.iret (v := 15) hx hb hr (fun t ht hW => ⟨15, rfl, by first | exact Or.inl ⟨by first | rfl | exact xi_k (k := 1000) (by decide) (by omega), by first | trivial | omega⟩ | exact Or.inr (Or.inl ⟨by first | rfl | exact xi_k (k := 15) (by decide) (by omega), by first | trivial | omega⟩) | exact Or.inr (Or.inr (Or.inl ⟨by first | rfl | exact xi_k (k := 4) (by decide) (by omega), by first | trivial | omega⟩)) | exact Or.inr (Or.inr (Or.inr (Or.inl ⟨by first | rfl | exact xi_k (k := 100) (by decide) (by omega), by first | trivial | omega⟩))) | exact Or.inr (Or.inr (Or.inr (Or.inr (Or.inl ⟨by first | rfl | exact xi_k (k := 1) (by decide) (by omega), by first | trivial | omega⟩)))) | exact Or.inr (Or.inr (Or.inr (Or.inr (Or.inr (Or.inl ⟨by first | rfl | exact xi_k (k := 0) (by decide) (by omega), by first | trivial | omega⟩))))) | exact Or.inr (Or.inr (Or.inr (Or.inr (Or.inr (Or.inr (⟨by first | rfl | exact xi_k (k := (-9)) (by decide) (by omega), by first | trivial | omega⟩)))))), ht⟩) (fun _ h => by cases h) dX11_law_24
    · skip
      refine lv_goto (tgt := 24) hx hb dX11_law_19 (by decide) ?_
      exact W.iret (v := 4) hx hb hr (fun t ht hW => ⟨4, rfl, by first | exact Or.inl ⟨by first | rfl | exact xi_k (k := 1000) (by decide) (by omega), by first | trivial | omega⟩ | exact Or.inr (Or.inl ⟨by first | rfl | exact xi_k (k := 15) (by decide) (by omega), by first | trivial | omega⟩) | exact Or.inr (Or.inr (Or.inl ⟨by first | rfl | exact xi_k (k := 4) (by decide) (by omega), by first | trivial | omega⟩)) | exact Or.inr (Or.inr (Or.inr (Or.inl ⟨by first | rfl | exact xi_k (k := 100) (by decide) (by omega), by first | trivial | omega⟩))) | exact Or.inr (Or.inr (Or.inr (Or.inr (Or.inl ⟨by first | rfl | exact xi_k (k := 1) (by decide) (by omega), by first | trivial | omega⟩)))) | exact Or.inr (Or.inr (Or.inr (Or.inr (Or.inr (Or.inl ⟨by first | rfl | exact xi_k (k := 0) (by decide) (by omega), by first | trivial | omega⟩))))) | exact Or.inr (Or.inr (Or.inr (Or.inr (Or.inr (Or.inr (⟨by first | rfl | exact xi_k (k := (-9)) (by decide) (by omega), by first | trivial | omega⟩)))))), ht⟩) (fun _ h => by cases h) dX11_law_24
    · skip
      refine lv_goto (tgt := 24) hx hb dX11_law_19 (by decide) ?_
      exact W.iret (v := 100) hx hb hr (fun t ht hW => ⟨100, rfl, by first | exact Or.inl ⟨by first | rfl | exact xi_k (k := 1000) (by decide) (by omega), by first | trivial | omega⟩ | exact Or.inr (Or.inl ⟨by first | rfl | exact xi_k (k := 15) (by decide) (by omega), by first | trivial | omega⟩) | exact Or.inr (Or.inr (Or.inl ⟨by first | rfl | exact xi_k (k := 4) (by decide) (by omega), by first | trivial | omega⟩)) | exact Or.inr (Or.inr (Or.inr (Or.inl ⟨by first | rfl | exact xi_k (k := 100) (by decide) (by omega), by first | trivial | omega⟩))) | exact Or.inr (Or.inr (Or.inr (Or.inr (Or.inl ⟨by first | rfl | exact xi_k (k := 1) (by decide) (by omega), by first | trivial | omega⟩)))) | exact Or.inr (Or.inr (Or.inr (Or.inr (Or.inr (Or.inl ⟨by first | rfl | exact xi_k (k := 0) (by decide) (by omega), by first | trivial | omega⟩))))) | exact Or.inr (Or.inr (Or.inr (Or.inr (Or.inr (Or.inr (⟨by first | rfl | exact xi_k (k := (-9)) (by decide) (by omega), by first | trivial | omega⟩)))))), ht⟩) (fun _ h => by cases h) dX11_law_24
    · skip
      refine lv_goto (tgt := 24) hx hb dX11_law_19 (by decide) ?_
      exact W.iret (v := 1) hx hb hr (fun t ht hW => ⟨1, rfl, by first | exact Or.inl ⟨by first | rfl | exact xi_k (k := 1000) (by decide) (by omega), by first | trivial | omega⟩ | exact Or.inr (Or.inl ⟨by first | rfl | exact xi_k (k := 15) (by decide) (by omega), by first | trivial | omega⟩) | exact Or.inr (Or.inr (Or.inl ⟨by first | rfl | exact xi_k (k := 4) (by decide) (by omega), by first | trivial | omega⟩)) | exact Or.inr (Or.inr (Or.inr (Or.inl ⟨by first | rfl | exact xi_k (k := 100) (by decide) (by omega), by first | trivial | omega⟩))) | exact Or.inr (Or.inr (Or.inr (Or.inr (Or.inl ⟨by first | rfl | exact xi_k (k := 1) (by decide) (by omega), by first | trivial | omega⟩)))) | exact Or.inr (Or.inr (Or.inr (Or.inr (Or.inr (Or.inl ⟨by first | rfl | exact xi_k (k := 0) (by decide) (by omega), by first | trivial | omega⟩))))) | exact Or.inr (Or.inr (Or.inr (Or.inr (Or.inr (Or.inr (⟨by first | rfl | exact xi_k (k := (-9)) (by decide) (by omega), by first | trivial | omega⟩)))))), ht⟩) (fun _ h => by cases h) dX11_law_24
    · skip
      refine lv_goto (tgt := 24) hx hb dX11_law_19 (by decide) ?_
      exact W.iret (v := 0) hx hb hr (fun t ht hW => ⟨0, rfl, by first | exact Or.inl ⟨by first | rfl | exact xi_k (k := 1000) (by decide) (by omega), by first | trivial | omega⟩ | exact Or.inr (Or.inl ⟨by first | rfl | exact xi_k (k := 15) (by decide) (by omega), by first | trivial | omega⟩) | exact Or.inr (Or.inr (Or.inl ⟨by first | rfl | exact xi_k (k := 4) (by decide) (by omega), by first | trivial | omega⟩)) | exact Or.inr (Or.inr (Or.inr (Or.inl ⟨by first | rfl | exact xi_k (k := 100) (by decide) (by omega), by first | trivial | omega⟩))) | exact Or.inr (Or.inr (Or.inr (Or.inr (Or.inl ⟨by first | rfl | exact xi_k (k := 1) (by decide) (by omega), by first | trivial | omega⟩)))) | exact Or.inr (Or.inr (Or.inr (Or.inr (Or.inr (Or.inl ⟨by first | rfl | exact xi_k (k := 0) (by decide) (by omega), by first | trivial | omega⟩))))) | exact Or.inr (Or.inr (Or.inr (Or.inr (Or.inr (Or.inr (⟨by first | rfl | exact xi_k (k := (-9)) (by decide) (by omega), by first | trivial | omega⟩)))))), ht⟩) (fun _ h => by cases h) dX11_law_24
    · skip
      refine lv_goto (tgt := 24) hx hb dX11_law_19 (by decide) ?_
      exact W.iret (v := (-9)) hx hb hr (fun t ht hW => ⟨(-9), rfl, by first | exact Or.inl ⟨by first | rfl | exact xi_k (k := 1000) (by decide) (by omega), by first | trivial | omega⟩ | exact Or.inr (Or.inl ⟨by first | rfl | exact xi_k (k := 15) (by decide) (by omega), by first | trivial | omega⟩) | exact Or.inr (Or.inr (Or.inl ⟨by first | rfl | exact xi_k (k := 4) (by decide) (by omega), by first | trivial | omega⟩)) | exact Or.inr (Or.inr (Or.inr (Or.inl ⟨by first | rfl | exact xi_k (k := 100) (by decide) (by omega), by first | trivial | omega⟩))) | exact Or.inr (Or.inr (Or.inr (Or.inr (Or.inl ⟨by first | rfl | exact xi_k (k := 1) (by decide) (by omega), by first | trivial | omega⟩)))) | exact Or.inr (Or.inr (Or.inr (Or.inr (Or.inr (Or.inl ⟨by first | rfl | exact xi_k (k := 0) (by decide) (by omega), by first | trivial | omega⟩))))) | exact Or.inr (Or.inr (Or.inr (Or.inr (Or.inr (Or.inr (⟨by first | rfl | exact xi_k (k := (-9)) (by decide) (by omega), by first | trivial | omega⟩)))))), ht⟩) (fun _ h => by cases h) dX11_law_24
  · skip
    refine lv_if_eq (tgt := 22) hx hb dX11_law_4 (by decide) (fun _ => ?_) (fun h => absurd (by decide) h)
    refine lv_bipush (v := (-9)) hx hb dX11_law_22 (by decide) ?_
    exact W.iret (v := (-9)) hx hb hr (fun t ht hW => ⟨(-9), rfl, by first | exact Or.inl ⟨by first | rfl | exact xi_k (k := 1000) (by decide) (by omega), by first | trivial | omega⟩ | exact Or.inr (Or.inl ⟨by first | rfl | exact xi_k (k := 15) (by decide) (by omega), by first | trivial | omega⟩) | exact Or.inr (Or.inr (Or.inl ⟨by first | rfl | exact xi_k (k := 4) (by decide) (by omega), by first | trivial | omega⟩)) | exact Or.inr (Or.inr (Or.inr (Or.inl ⟨by first | rfl | exact xi_k (k := 100) (by decide) (by omega), by first | trivial | omega⟩))) | exact Or.inr (Or.inr (Or.inr (Or.inr (Or.inl ⟨by first | rfl | exact xi_k (k := 1) (by decide) (by omega), by first | trivial | omega⟩)))) | exact Or.inr (Or.inr (Or.inr (Or.inr (Or.inr (Or.inl ⟨by first | rfl | exact xi_k (k := 0) (by decide) (by omega), by first | trivial | omega⟩))))) | exact Or.inr (Or.inr (Or.inr (Or.inr (Or.inr (Or.inr (⟨by first | rfl | exact xi_k (k := (-9)) (by decide) (by omega), by first | trivial | omega⟩)))))), ht⟩) (fun _ h => by cases h) dX11_law_24
set_option maxHeartbeats 4000000 in
set_option maxRecDepth 100000 in
theorem rX0_counts (l : Launch) (dC : Nat → ClassId) (dI : Nat → Nat → Nat) (ws : va_W) (tys : List (ClassId × FieldType)) {ac bk de fi lb pl su : Nat} {kI kO : ClassId}  (p0 : Nat) (e0 : ws[p0]? = some (bk, .inr (0, [.ref lb, .ref pl, .int 0, .int 0, .ref de, .ref su, .ref fi, .int 0, .ref ac]))) (p1 : Nat) (e1 : ws[p1]? = some (de, .inl (kO, 8, .inr (.inr (.inr (.inr (fun j => if j < 8 then some (de + 1 + j) else none))))))) (t1 : Nat) (y1 : tys[t1]? = some (kO, (.array .int))) (p2 : Nat) (e2 : ws[p2]? = some ((de + 1 + 0), .inl (kI, 10, .inl (fun _ => 0)))) (t2 : Nat) (y2 : tys[t2]? = some (kI, .int)) (p3 : Nat) (e3 : ws[p3]? = some ((de + 1 + 1), .inl (kI, 10, .inl (fun _ => 0)))) (t3 : Nat) (y3 : tys[t3]? = some (kI, .int)) (p4 : Nat) (e4 : ws[p4]? = some ((de + 1 + 2), .inl (kI, 10, .inl (fun _ => 0)))) (t4 : Nat) (y4 : tys[t4]? = some (kI, .int)) (p5 : Nat) (e5 : ws[p5]? = some ((de + 1 + 3), .inl (kI, 10, .inl (fun _ => 0)))) (t5 : Nat) (y5 : tys[t5]? = some (kI, .int)) (p6 : Nat) (e6 : ws[p6]? = some ((de + 1 + 4), .inl (kI, 10, .inl (fun _ => 0)))) (t6 : Nat) (y6 : tys[t6]? = some (kI, .int)) (p7 : Nat) (e7 : ws[p7]? = some ((de + 1 + 5), .inl (kI, 10, .inl (fun _ => 0)))) (t7 : Nat) (y7 : tys[t7]? = some (kI, .int)) (p8 : Nat) (e8 : ws[p8]? = some ((de + 1 + 6), .inl (kI, 10, .inl (fun _ => 0)))) (t8 : Nat) (y8 : tys[t8]? = some (kI, .int)) (p9 : Nat) (e9 : ws[p9]? = some ((de + 1 + 7), .inl (kI, 10, .inl (fun _ => 0)))) (t9 : Nat) (y9 : tys[t9]? = some (kI, .int)) (c : Int32) (c_t : Int) (h_c : c.toInt = c_t) (y : Int32) (y_t : Int) (h_y : y.toInt = y_t)  : Met l yX0_counts wsX0_counts ({ frames := 2, cells := 0, slots := 0, locals := 128 }) (va_Pc [.ref bk, .int c, .int y] (xR (dC, dI) tys ws)) (vp_Si (fun r => (r = 0 ∧ True))) 0 0 (fun _ => False) := by
  refine Met.ofW (cc := cX0_counts) (maxL := 6) (ret := (some .int)) (by decide) rfl ?_
  intro pr_ ev_ s m args below meth cd_ s₁ B hml hv
  obtain ⟨rfl, hE, hK, hP⟩ := hv
  have hx := B.exec
  have hb := B.bytes
  have hr := B.returns
  have hts := atoms_spec (ws := wsX0_counts) B.pre
  have hown : s.vm.findClass RX0 = some m.cls := findClass_of_methodNamed B.named
  have hlocks := B.notSynchronized
  have iX0 : ∀ w ∈ u_ws RX0 TX0 9, w ∈ wsX0_counts := by decide +kernel
  have hl := lv_entry ([.ref bk, .int c, .int y]) (n := 6) (Nat.le_of_ble_eq_true rfl)
  rw [lg_entry_eq]
  generalize (lg_sl ([.ref bk, .int c, .int y]) ++ List.replicate (6 - (lg_sl ([.ref bk, .int c, .int y])).length) Slot.unset).toArray = ls at hl ⊢
  have hl : lv_has ls 6 [(0, .ref bk), (1, .int c), (2, .int y)] := hl
  have lo_c := xi_lo c
  have hi_c := xi_hi c
  have lo_y := xi_lo y
  have hi_y := xi_hi y
  refine lv_iload_n hx hb dX0_counts_0 rfl (lv_at hl 1 rfl) ?_
  refine vp_callSi (xr_of (va_runSN (As := [.int c]) (rest := []) ⟨hx, hb, hml, hown, hts⟩ (cX11_isClub_ l dC dI ws tys c (c.toInt) rfl) (⟨va_cnB 1 hts gX0_counts_X11_isClub_n79 rfl rfl rfl (hE.link 8 rfl) (hts (.initialized RX11) (by decide +kernel)) (by decide +kernel) ⟨Nat.le_of_ble_eq_true rfl, Nat.le_of_ble_eq_true rfl⟩, hts (.static yX11_isClub) (by decide +kernel), trivial⟩) ⟨xR_blind _ _ _ _, xR_pre _ hE hK hP⟩ rfl rfl hl.1 rfl (lv_room (Nat.le_of_ble_eq_true rfl)) dX0_counts_1 ⟨Nat.le_of_ble_eq_true rfl, Nat.le_of_ble_eq_true rfl⟩)) (fun rh1 h1 => ?_)
  rcases h1 with ⟨rfl, h1⟩ | ⟨rfl, h1⟩
  · skip
    refine lv_if_eq (tgt := 25) hx hb dX0_counts_4 (by decide) (fun h => absurd h (by decide)) (fun _ => ?_)
    refine lv_iload_n hx hb dX0_counts_7 rfl (lv_at hl 2 rfl) ?_
    refine vp_callSi (xr_of (va_runSN (As := [.int y]) (rest := []) ⟨hx, hb, hml, hown, hts⟩ (cX11_isYear_ l dC dI ws tys y (y.toInt) rfl) (⟨va_cnB 1 hts gX0_counts_X11_isYear_n47 rfl rfl rfl (hE.link 5 rfl) (hts (.initialized RX11) (by decide +kernel)) (by decide +kernel) ⟨Nat.le_of_ble_eq_true rfl, Nat.le_of_ble_eq_true rfl⟩, hts (.static yX11_isYear) (by decide +kernel), trivial⟩) ⟨xR_blind _ _ _ _, xR_pre _ hE hK hP⟩ rfl rfl hl.1 rfl (lv_room (Nat.le_of_ble_eq_true rfl)) dX0_counts_8 ⟨Nat.le_of_ble_eq_true rfl, Nat.le_of_ble_eq_true rfl⟩)) (fun rh3 h3 => ?_)
    rcases h3 with ⟨rfl, h3⟩ | ⟨rfl, h3⟩
    · skip
      refine lv_if_eq (tgt := 25) hx hb dX0_counts_11 (by decide) (fun h => absurd h (by decide)) (fun _ => ?_)
      refine lv_aload_n hx hb dX0_counts_14 rfl (lv_at hl 0 rfl) ?_
      refine va_get (D := (dC, dI)) (ci := 0) (v := .ref de) (C := RX0) (T := TX0) (N := 9) hx hb hts iX0 hown hK hP p0 e0 rfl 4 (by decide) (hts (.fieldLink RX0 19 "CapLeague$Books" "dead" "[[I") (by decide +kernel)) (fun _ h9 => h9) rfl dX0_counts_15 ?_
      refine lv_iload_n hx hb dX0_counts_18 rfl (lv_at hl 1 rfl) ?_
      refine xm_ald (D := (dC, dI)) hx hb hK hP p1 t1 e1 y1 (xi_in (by omega) (by omega)) dX0_counts_19 ?_
      rcases (show c.toInt = 0 ∨ c.toInt = 1 ∨ c.toInt = 2 ∨ c.toInt = 3 ∨ c.toInt = 4 ∨ c.toInt = 5 ∨ c.toInt = 6 ∨ c.toInt = 7 by omega) with c5 | c5 | c5 | c5 | c5 | c5 | c5 | c5
      · refine xw_v (v := .ref (de + 1 + 0)) (by rw [xi_cl c5]; rfl) ?_
        refine lv_iload_n hx hb dX0_counts_20 rfl (lv_at hl 2 rfl) ?_
        refine va_iald (D := (dC, dI)) hx hb hK hP p2 t2 e2 y2 (xi_in (by omega) (by omega)) dX0_counts_21 ?_
        refine xw_i (v := 0) rfl ?_
        refine lv_goto (tgt := 26) hx hb dX0_counts_22 (by decide) ?_
        refine lv_istore_n (lv' := [(3, .int 0), (0, .ref bk), (1, .int c), (2, .int y)]) hx hb dX0_counts_26 rfl hl (by decide) rfl (fun ls hl => ?_)
        refine lv_iconst (v := 0) hx hb dX0_counts_27 (by decide) ?_
        refine lv_istore (lv' := [(4, .int 0), (3, .int 0), (0, .ref bk), (1, .int c), (2, .int y)]) hx hb dX0_counts_28 hl (by decide) rfl (fun ls hl => ?_)
        refine lv_iload hx hb dX0_counts_30 (lv_at hl 0 rfl) ?_
        refine lv_aload_n hx hb dX0_counts_32 rfl (lv_at hl 2 rfl) ?_
        refine va_get (D := (dC, dI)) (ci := 0) (v := .int 0) (C := RX0) (T := TX0) (N := 9) hx hb hts iX0 hown hK hP p0 e0 rfl 2 (by decide) (hts (.fieldLink RX0 51 "CapLeague$Books" "size" "I") (by decide +kernel)) (fun _ h9 => h9) rfl dX0_counts_33 ?_
        refine lv_icmp_ge (tgt := 77) hx hb dX0_counts_36 (by decide) (fun _ => ?_) (fun h => absurd (by decide) h)
        refine lv_iload_n hx hb dX0_counts_77 rfl (lv_at hl 1 rfl) ?_
        exact W.iret (v := 0) hx hb hr (fun t ht hW => ⟨0, rfl, by first | exact ⟨by first | rfl | exact xi_k (k := 0) (by decide) (by omega), by first | trivial | omega⟩, ht⟩) (fun _ h => by cases h) dX0_counts_78
      · refine xw_v (v := .ref (de + 1 + 1)) (by rw [xi_cl c5]; rfl) ?_
        refine lv_iload_n hx hb dX0_counts_20 rfl (lv_at hl 2 rfl) ?_
        refine va_iald (D := (dC, dI)) hx hb hK hP p3 t3 e3 y3 (xi_in (by omega) (by omega)) dX0_counts_21 ?_
        refine xw_i (v := 0) rfl ?_
        refine lv_goto (tgt := 26) hx hb dX0_counts_22 (by decide) ?_
        refine lv_istore_n (lv' := [(3, .int 0), (0, .ref bk), (1, .int c), (2, .int y)]) hx hb dX0_counts_26 rfl hl (by decide) rfl (fun ls hl => ?_)
        refine lv_iconst (v := 0) hx hb dX0_counts_27 (by decide) ?_
        refine lv_istore (lv' := [(4, .int 0), (3, .int 0), (0, .ref bk), (1, .int c), (2, .int y)]) hx hb dX0_counts_28 hl (by decide) rfl (fun ls hl => ?_)
        refine lv_iload hx hb dX0_counts_30 (lv_at hl 0 rfl) ?_
        refine lv_aload_n hx hb dX0_counts_32 rfl (lv_at hl 2 rfl) ?_
        refine va_get (D := (dC, dI)) (ci := 0) (v := .int 0) (C := RX0) (T := TX0) (N := 9) hx hb hts iX0 hown hK hP p0 e0 rfl 2 (by decide) (hts (.fieldLink RX0 51 "CapLeague$Books" "size" "I") (by decide +kernel)) (fun _ h9 => h9) rfl dX0_counts_33 ?_
        refine lv_icmp_ge (tgt := 77) hx hb dX0_counts_36 (by decide) (fun _ => ?_) (fun h => absurd (by decide) h)
        refine lv_iload_n hx hb dX0_counts_77 rfl (lv_at hl 1 rfl) ?_
        exact W.iret (v := 0) hx hb hr (fun t ht hW => ⟨0, rfl, by first | exact ⟨by first | rfl | exact xi_k (k := 0) (by decide) (by omega), by first | trivial | omega⟩, ht⟩) (fun _ h => by cases h) dX0_counts_78
      · refine xw_v (v := .ref (de + 1 + 2)) (by rw [xi_cl c5]; rfl) ?_
        refine lv_iload_n hx hb dX0_counts_20 rfl (lv_at hl 2 rfl) ?_
        refine va_iald (D := (dC, dI)) hx hb hK hP p4 t4 e4 y4 (xi_in (by omega) (by omega)) dX0_counts_21 ?_
        refine xw_i (v := 0) rfl ?_
        refine lv_goto (tgt := 26) hx hb dX0_counts_22 (by decide) ?_
        refine lv_istore_n (lv' := [(3, .int 0), (0, .ref bk), (1, .int c), (2, .int y)]) hx hb dX0_counts_26 rfl hl (by decide) rfl (fun ls hl => ?_)
        refine lv_iconst (v := 0) hx hb dX0_counts_27 (by decide) ?_
        refine lv_istore (lv' := [(4, .int 0), (3, .int 0), (0, .ref bk), (1, .int c), (2, .int y)]) hx hb dX0_counts_28 hl (by decide) rfl (fun ls hl => ?_)
        refine lv_iload hx hb dX0_counts_30 (lv_at hl 0 rfl) ?_
        refine lv_aload_n hx hb dX0_counts_32 rfl (lv_at hl 2 rfl) ?_
        refine va_get (D := (dC, dI)) (ci := 0) (v := .int 0) (C := RX0) (T := TX0) (N := 9) hx hb hts iX0 hown hK hP p0 e0 rfl 2 (by decide) (hts (.fieldLink RX0 51 "CapLeague$Books" "size" "I") (by decide +kernel)) (fun _ h9 => h9) rfl dX0_counts_33 ?_
        refine lv_icmp_ge (tgt := 77) hx hb dX0_counts_36 (by decide) (fun _ => ?_) (fun h => absurd (by decide) h)
        refine lv_iload_n hx hb dX0_counts_77 rfl (lv_at hl 1 rfl) ?_
        exact W.iret (v := 0) hx hb hr (fun t ht hW => ⟨0, rfl, by first | exact ⟨by first | rfl | exact xi_k (k := 0) (by decide) (by omega), by first | trivial | omega⟩, ht⟩) (fun _ h => by cases h) dX0_counts_78
      · refine xw_v (v := .ref (de + 1 + 3)) (by rw [xi_cl c5]; rfl) ?_
        refine lv_iload_n hx hb dX0_counts_20 rfl (lv_at hl 2 rfl) ?_
        refine va_iald (D := (dC, dI)) hx hb hK hP p5 t5 e5 y5 (xi_in (by omega) (by omega)) dX0_counts_21 ?_
        refine xw_i (v := 0) rfl ?_
        refine lv_goto (tgt := 26) hx hb dX0_counts_22 (by decide) ?_
        refine lv_istore_n (lv' := [(3, .int 0), (0, .ref bk), (1, .int c), (2, .int y)]) hx hb dX0_counts_26 rfl hl (by decide) rfl (fun ls hl => ?_)
        refine lv_iconst (v := 0) hx hb dX0_counts_27 (by decide) ?_
        refine lv_istore (lv' := [(4, .int 0), (3, .int 0), (0, .ref bk), (1, .int c), (2, .int y)]) hx hb dX0_counts_28 hl (by decide) rfl (fun ls hl => ?_)
        refine lv_iload hx hb dX0_counts_30 (lv_at hl 0 rfl) ?_
        refine lv_aload_n hx hb dX0_counts_32 rfl (lv_at hl 2 rfl) ?_
        refine va_get (D := (dC, dI)) (ci := 0) (v := .int 0) (C := RX0) (T := TX0) (N := 9) hx hb hts iX0 hown hK hP p0 e0 rfl 2 (by decide) (hts (.fieldLink RX0 51 "CapLeague$Books" "size" "I") (by decide +kernel)) (fun _ h9 => h9) rfl dX0_counts_33 ?_
        refine lv_icmp_ge (tgt := 77) hx hb dX0_counts_36 (by decide) (fun _ => ?_) (fun h => absurd (by decide) h)
        refine lv_iload_n hx hb dX0_counts_77 rfl (lv_at hl 1 rfl) ?_
        exact W.iret (v := 0) hx hb hr (fun t ht hW => ⟨0, rfl, by first | exact ⟨by first | rfl | exact xi_k (k := 0) (by decide) (by omega), by first | trivial | omega⟩, ht⟩) (fun _ h => by cases h) dX0_counts_78
      · refine xw_v (v := .ref (de + 1 + 4)) (by rw [xi_cl c5]; rfl) ?_
        refine lv_iload_n hx hb dX0_counts_20 rfl (lv_at hl 2 rfl) ?_
        refine va_iald (D := (dC, dI)) hx hb hK hP p6 t6 e6 y6 (xi_in (by omega) (by omega)) dX0_counts_21 ?_
        refine xw_i (v := 0) rfl ?_
        refine lv_goto (tgt := 26) hx hb dX0_counts_22 (by decide) ?_
        refine lv_istore_n (lv' := [(3, .int 0), (0, .ref bk), (1, .int c), (2, .int y)]) hx hb dX0_counts_26 rfl hl (by decide) rfl (fun ls hl => ?_)
        refine lv_iconst (v := 0) hx hb dX0_counts_27 (by decide) ?_
        refine lv_istore (lv' := [(4, .int 0), (3, .int 0), (0, .ref bk), (1, .int c), (2, .int y)]) hx hb dX0_counts_28 hl (by decide) rfl (fun ls hl => ?_)
        refine lv_iload hx hb dX0_counts_30 (lv_at hl 0 rfl) ?_
        refine lv_aload_n hx hb dX0_counts_32 rfl (lv_at hl 2 rfl) ?_
        refine va_get (D := (dC, dI)) (ci := 0) (v := .int 0) (C := RX0) (T := TX0) (N := 9) hx hb hts iX0 hown hK hP p0 e0 rfl 2 (by decide) (hts (.fieldLink RX0 51 "CapLeague$Books" "size" "I") (by decide +kernel)) (fun _ h9 => h9) rfl dX0_counts_33 ?_
        refine lv_icmp_ge (tgt := 77) hx hb dX0_counts_36 (by decide) (fun _ => ?_) (fun h => absurd (by decide) h)
        refine lv_iload_n hx hb dX0_counts_77 rfl (lv_at hl 1 rfl) ?_
        exact W.iret (v := 0) hx hb hr (fun t ht hW => ⟨0, rfl, by first | exact ⟨by first | rfl | exact xi_k (k := 0) (by decide) (by omega), by first | trivial | omega⟩, ht⟩) (fun _ h => by cases h) dX0_counts_78
      · refine xw_v (v := .ref (de + 1 + 5)) (by rw [xi_cl c5]; rfl) ?_
        refine lv_iload_n hx hb dX0_counts_20 rfl (lv_at hl 2 rfl) ?_
        refine va_iald (D := (dC, dI)) hx hb hK hP p7 t7 e7 y7 (xi_in (by omega) (by omega)) dX0_counts_21 ?_
        refine xw_i (v := 0) rfl ?_
        refine lv_goto (tgt := 26) hx hb dX0_counts_22 (by decide) ?_
        refine lv_istore_n (lv' := [(3, .int 0), (0, .ref bk), (1, .int c), (2, .int y)]) hx hb dX0_counts_26 rfl hl (by decide) rfl (fun ls hl => ?_)
        refine lv_iconst (v := 0) hx hb dX0_counts_27 (by decide) ?_
        refine lv_istore (lv' := [(4, .int 0), (3, .int 0), (0, .ref bk), (1, .int c), (2, .int y)]) hx hb dX0_counts_28 hl (by decide) rfl (fun ls hl => ?_)
        refine lv_iload hx hb dX0_counts_30 (lv_at hl 0 rfl) ?_
        refine lv_aload_n hx hb dX0_counts_32 rfl (lv_at hl 2 rfl) ?_
        refine va_get (D := (dC, dI)) (ci := 0) (v := .int 0) (C := RX0) (T := TX0) (N := 9) hx hb hts iX0 hown hK hP p0 e0 rfl 2 (by decide) (hts (.fieldLink RX0 51 "CapLeague$Books" "size" "I") (by decide +kernel)) (fun _ h9 => h9) rfl dX0_counts_33 ?_
        refine lv_icmp_ge (tgt := 77) hx hb dX0_counts_36 (by decide) (fun _ => ?_) (fun h => absurd (by decide) h)
        refine lv_iload_n hx hb dX0_counts_77 rfl (lv_at hl 1 rfl) ?_
        exact W.iret (v := 0) hx hb hr (fun t ht hW => ⟨0, rfl, by first | exact ⟨by first | rfl | exact xi_k (k := 0) (by decide) (by omega), by first | trivial | omega⟩, ht⟩) (fun _ h => by cases h) dX0_counts_78
      · refine xw_v (v := .ref (de + 1 + 6)) (by rw [xi_cl c5]; rfl) ?_
        refine lv_iload_n hx hb dX0_counts_20 rfl (lv_at hl 2 rfl) ?_
        refine va_iald (D := (dC, dI)) hx hb hK hP p8 t8 e8 y8 (xi_in (by omega) (by omega)) dX0_counts_21 ?_
        refine xw_i (v := 0) rfl ?_
        refine lv_goto (tgt := 26) hx hb dX0_counts_22 (by decide) ?_
        refine lv_istore_n (lv' := [(3, .int 0), (0, .ref bk), (1, .int c), (2, .int y)]) hx hb dX0_counts_26 rfl hl (by decide) rfl (fun ls hl => ?_)
        refine lv_iconst (v := 0) hx hb dX0_counts_27 (by decide) ?_
        refine lv_istore (lv' := [(4, .int 0), (3, .int 0), (0, .ref bk), (1, .int c), (2, .int y)]) hx hb dX0_counts_28 hl (by decide) rfl (fun ls hl => ?_)
        refine lv_iload hx hb dX0_counts_30 (lv_at hl 0 rfl) ?_
        refine lv_aload_n hx hb dX0_counts_32 rfl (lv_at hl 2 rfl) ?_
        refine va_get (D := (dC, dI)) (ci := 0) (v := .int 0) (C := RX0) (T := TX0) (N := 9) hx hb hts iX0 hown hK hP p0 e0 rfl 2 (by decide) (hts (.fieldLink RX0 51 "CapLeague$Books" "size" "I") (by decide +kernel)) (fun _ h9 => h9) rfl dX0_counts_33 ?_
        refine lv_icmp_ge (tgt := 77) hx hb dX0_counts_36 (by decide) (fun _ => ?_) (fun h => absurd (by decide) h)
        refine lv_iload_n hx hb dX0_counts_77 rfl (lv_at hl 1 rfl) ?_
        exact W.iret (v := 0) hx hb hr (fun t ht hW => ⟨0, rfl, by first | exact ⟨by first | rfl | exact xi_k (k := 0) (by decide) (by omega), by first | trivial | omega⟩, ht⟩) (fun _ h => by cases h) dX0_counts_78
      · refine xw_v (v := .ref (de + 1 + 7)) (by rw [xi_cl c5]; rfl) ?_
        refine lv_iload_n hx hb dX0_counts_20 rfl (lv_at hl 2 rfl) ?_
        refine va_iald (D := (dC, dI)) hx hb hK hP p9 t9 e9 y9 (xi_in (by omega) (by omega)) dX0_counts_21 ?_
        refine xw_i (v := 0) rfl ?_
        refine lv_goto (tgt := 26) hx hb dX0_counts_22 (by decide) ?_
        refine lv_istore_n (lv' := [(3, .int 0), (0, .ref bk), (1, .int c), (2, .int y)]) hx hb dX0_counts_26 rfl hl (by decide) rfl (fun ls hl => ?_)
        refine lv_iconst (v := 0) hx hb dX0_counts_27 (by decide) ?_
        refine lv_istore (lv' := [(4, .int 0), (3, .int 0), (0, .ref bk), (1, .int c), (2, .int y)]) hx hb dX0_counts_28 hl (by decide) rfl (fun ls hl => ?_)
        refine lv_iload hx hb dX0_counts_30 (lv_at hl 0 rfl) ?_
        refine lv_aload_n hx hb dX0_counts_32 rfl (lv_at hl 2 rfl) ?_
        refine va_get (D := (dC, dI)) (ci := 0) (v := .int 0) (C := RX0) (T := TX0) (N := 9) hx hb hts iX0 hown hK hP p0 e0 rfl 2 (by decide) (hts (.fieldLink RX0 51 "CapLeague$Books" "size" "I") (by decide +kernel)) (fun _ h9 => h9) rfl dX0_counts_33 ?_
        refine lv_icmp_ge (tgt := 77) hx hb dX0_counts_36 (by decide) (fun _ => ?_) (fun h => absurd (by decide) h)
        refine lv_iload_n hx hb dX0_counts_77 rfl (lv_at hl 1 rfl) ?_
        exact W.iret (v := 0) hx hb hr (fun t ht hW => ⟨0, rfl, by first | exact ⟨by first | rfl | exact xi_k (k := 0) (by decide) (by omega), by first | trivial | omega⟩, ht⟩) (fun _ h => by cases h) dX0_counts_78
    · skip
      refine lv_if_eq (tgt := 25) hx hb dX0_counts_11 (by decide) (fun _ => ?_) (fun h => absurd (by decide) h)
      refine lv_iconst (v := 0) hx hb dX0_counts_25 (by decide) ?_
      refine lv_istore_n (lv' := [(3, .int 0), (0, .ref bk), (1, .int c), (2, .int y)]) hx hb dX0_counts_26 rfl hl (by decide) rfl (fun ls hl => ?_)
      refine lv_iconst (v := 0) hx hb dX0_counts_27 (by decide) ?_
      refine lv_istore (lv' := [(4, .int 0), (3, .int 0), (0, .ref bk), (1, .int c), (2, .int y)]) hx hb dX0_counts_28 hl (by decide) rfl (fun ls hl => ?_)
      refine lv_iload hx hb dX0_counts_30 (lv_at hl 0 rfl) ?_
      refine lv_aload_n hx hb dX0_counts_32 rfl (lv_at hl 2 rfl) ?_
      refine va_get (D := (dC, dI)) (ci := 0) (v := .int 0) (C := RX0) (T := TX0) (N := 9) hx hb hts iX0 hown hK hP p0 e0 rfl 2 (by decide) (hts (.fieldLink RX0 51 "CapLeague$Books" "size" "I") (by decide +kernel)) (fun _ h9 => h9) rfl dX0_counts_33 ?_
      refine lv_icmp_ge (tgt := 77) hx hb dX0_counts_36 (by decide) (fun _ => ?_) (fun h => absurd (by decide) h)
      refine lv_iload_n hx hb dX0_counts_77 rfl (lv_at hl 1 rfl) ?_
      exact W.iret (v := 0) hx hb hr (fun t ht hW => ⟨0, rfl, by first | exact ⟨by first | rfl | exact xi_k (k := 0) (by decide) (by omega), by first | trivial | omega⟩, ht⟩) (fun _ h => by cases h) dX0_counts_78
  · skip
    refine lv_if_eq (tgt := 25) hx hb dX0_counts_4 (by decide) (fun _ => ?_) (fun h => absurd (by decide) h)
    refine lv_iconst (v := 0) hx hb dX0_counts_25 (by decide) ?_
    refine lv_istore_n (lv' := [(3, .int 0), (0, .ref bk), (1, .int c), (2, .int y)]) hx hb dX0_counts_26 rfl hl (by decide) rfl (fun ls hl => ?_)
    refine lv_iconst (v := 0) hx hb dX0_counts_27 (by decide) ?_
    refine lv_istore (lv' := [(4, .int 0), (3, .int 0), (0, .ref bk), (1, .int c), (2, .int y)]) hx hb dX0_counts_28 hl (by decide) rfl (fun ls hl => ?_)
    refine lv_iload hx hb dX0_counts_30 (lv_at hl 0 rfl) ?_
    refine lv_aload_n hx hb dX0_counts_32 rfl (lv_at hl 2 rfl) ?_
    refine va_get (D := (dC, dI)) (ci := 0) (v := .int 0) (C := RX0) (T := TX0) (N := 9) hx hb hts iX0 hown hK hP p0 e0 rfl 2 (by decide) (hts (.fieldLink RX0 51 "CapLeague$Books" "size" "I") (by decide +kernel)) (fun _ h9 => h9) rfl dX0_counts_33 ?_
    refine lv_icmp_ge (tgt := 77) hx hb dX0_counts_36 (by decide) (fun _ => ?_) (fun h => absurd (by decide) h)
    refine lv_iload_n hx hb dX0_counts_77 rfl (lv_at hl 1 rfl) ?_
    exact W.iret (v := 0) hx hb hr (fun t ht hW => ⟨0, rfl, by first | exact ⟨by first | rfl | exact xi_k (k := 0) (by decide) (by omega), by first | trivial | omega⟩, ht⟩) (fun _ h => by cases h) dX0_counts_78
set_option maxHeartbeats 4000000 in
set_option maxRecDepth 100000 in
theorem aX_club (l : Launch) (dC : Nat → ClassId) (dI : Nat → Nat → Nat) (ws : va_W) (tys : List (ClassId × FieldType)) {ac bk cp de dr fi lb pl rd rg su td tn tp : Nat} {kI kO ks : ClassId}  (p0 : Nat) (e0 : ws[p0]? = some (cp, .inr (11, [.ref tp, .ref lb, .ref rd, .ref bk, .ref tn, .ref td, .ref rg, .ref dr]))) (p1 : Nat) (e1 : ws[p1]? = some (bk, .inr (0, [.ref lb, .ref pl, .int 0, .int 0, .ref de, .ref su, .ref fi, .int 0, .ref ac]))) (p2 : Nat) (e2 : ws[p2]? = some (de, .inl (kO, 8, .inr (.inr (.inr (.inr (fun j => if j < 8 then some (de + 1 + j) else none))))))) (t2 : Nat) (y2 : tys[t2]? = some (kO, (.array .int))) (p3 : Nat) (e3 : ws[p3]? = some ((de + 1 + 0), .inl (kI, 10, .inl (fun _ => 0)))) (t3 : Nat) (y3 : tys[t3]? = some (kI, .int)) (p4 : Nat) (e4 : ws[p4]? = some ((de + 1 + 1), .inl (kI, 10, .inl (fun _ => 0)))) (t4 : Nat) (y4 : tys[t4]? = some (kI, .int)) (p5 : Nat) (e5 : ws[p5]? = some ((de + 1 + 2), .inl (kI, 10, .inl (fun _ => 0)))) (t5 : Nat) (y5 : tys[t5]? = some (kI, .int)) (p6 : Nat) (e6 : ws[p6]? = some ((de + 1 + 3), .inl (kI, 10, .inl (fun _ => 0)))) (t6 : Nat) (y6 : tys[t6]? = some (kI, .int)) (p7 : Nat) (e7 : ws[p7]? = some ((de + 1 + 4), .inl (kI, 10, .inl (fun _ => 0)))) (t7 : Nat) (y7 : tys[t7]? = some (kI, .int)) (p8 : Nat) (e8 : ws[p8]? = some ((de + 1 + 5), .inl (kI, 10, .inl (fun _ => 0)))) (t8 : Nat) (y8 : tys[t8]? = some (kI, .int)) (p9 : Nat) (e9 : ws[p9]? = some ((de + 1 + 6), .inl (kI, 10, .inl (fun _ => 0)))) (t9 : Nat) (y9 : tys[t9]? = some (kI, .int)) (p10 : Nat) (e10 : ws[p10]? = some ((de + 1 + 7), .inl (kI, 10, .inl (fun _ => 0)))) (t10 : Nat) (y10 : tys[t10]? = some (kI, .int)) (p11 : Nat) (e11 : ws[p11]? = some (su, .inl (ks, 8, .inl (fun _ => 0)))) (t11 : Nat) (y11 : tys[t11]? = some (ks, .boolean)) (c : Int32) (c_t : Int) (h_c : c.toInt = c_t) (y : Int32) (y_t : Int) (h_y : y.toInt = y_t) (q : Int32) (q_t : Int) (h_q : q.toInt = q_t)  : Met l yX11_club wsX11_club ({ frames := 3, cells := 0, slots := 0, locals := 192 }) (va_Pc [.ref cp, .int c, .int y, .int q] (xR (dC, dI) tys ws)) (vp_Si (fun r => (r = 0 ∧ (0 ≤ c_t ∧ c_t ≤ 7 ∧ 0 ≤ y_t ∧ y_t ≤ 9 ∧ 0 ≤ q_t ∧ q_t ≤ 3)) ∨ (r = (-2) ∧ ¬ (0 ≤ c_t ∧ c_t ≤ 7 ∧ 0 ≤ y_t ∧ y_t ≤ 9 ∧ 0 ≤ q_t ∧ q_t ≤ 3)))) 0 0 (fun _ => False) := by
  refine Met.ofW (cc := cX11_club) (maxL := 4) (ret := (some .int)) (by decide) rfl ?_
  intro pr_ ev_ s m args below meth cd_ s₁ B hml hv
  obtain ⟨rfl, hE, hK, hP⟩ := hv
  have hx := B.exec
  have hb := B.bytes
  have hr := B.returns
  have hts := atoms_spec (ws := wsX11_club) B.pre
  have hown : s.vm.findClass RX11 = some m.cls := findClass_of_methodNamed B.named
  have hlocks := B.notSynchronized
  have iX11 : ∀ w ∈ u_ws RX11 TX11 8, w ∈ wsX11_club := by decide +kernel
  have iX0 : ∀ w ∈ u_ws RX0 TX0 9, w ∈ wsX11_club := by decide +kernel
  have hl := lv_entry ([.ref cp, .int c, .int y, .int q]) (n := 4) (Nat.le_of_ble_eq_true rfl)
  rw [lg_entry_eq]
  generalize (lg_sl ([.ref cp, .int c, .int y, .int q]) ++ List.replicate (4 - (lg_sl ([.ref cp, .int c, .int y, .int q])).length) Slot.unset).toArray = ls at hl ⊢
  have hl : lv_has ls 4 [(0, .ref cp), (1, .int c), (2, .int y), (3, .int q)] := hl
  have lo_c := xi_lo c
  have hi_c := xi_hi c
  have lo_y := xi_lo y
  have hi_y := xi_hi y
  have lo_q := xi_lo q
  have hi_q := xi_hi q
  refine lv_iload_n hx hb dX11_club_0 rfl (lv_at hl 1 rfl) ?_
  refine vp_callSi (W.runS (As := [.int c]) (rest := []) ⟨hx, hb, hml, hown, hts⟩ (cX11_isClub_ l dC dI ws tys c (c.toInt) rfl) (va_cwS 1 hts gX11_club_X11_isClub rfl rfl rfl (by decide +kernel) ⟨Nat.le_of_ble_eq_true rfl, Nat.le_of_ble_eq_true rfl⟩) ⟨xR_blind _ _ _ _, xR_pre _ hE hK hP⟩ rfl rfl hl.1 rfl (lv_room (Nat.le_of_ble_eq_true rfl)) dX11_club_1 ⟨Nat.le_of_ble_eq_true rfl, Nat.le_of_ble_eq_true rfl⟩) (fun rh1 h1 => ?_)
  rcases h1 with ⟨rfl, h1⟩ | ⟨rfl, h1⟩
  · skip
    refine lv_if_eq (tgt := 18) hx hb dX11_club_4 (by decide) (fun h => absurd h (by decide)) (fun _ => ?_)
    refine lv_aload_n hx hb dX11_club_7 rfl (lv_at hl 0 rfl) ?_
    refine va_get (D := (dC, dI)) (ci := 11) (v := .ref bk) (C := RX11) (T := TX11) (N := 8) hx hb hts iX11 hown hK hP p0 e0 rfl 3 (by decide) (hts (.fieldLink RX11 37 "CapLeague" "books" "LCapLeague$Books;") (by decide +kernel)) (fun _ h9 => h9) rfl dX11_club_8 ?_
    refine lv_iload_n hx hb dX11_club_11 rfl (lv_at hl 2 rfl) ?_
    refine vp_callSi (W.runV (As := [.int y]) (rest := []) ⟨hx, hb, hml, hown, hts⟩ (cX0_now l dC dI ws tys p1 e1 y (y.toInt) rfl) (cwV 1 hts gX11_club_X0_isNowOrLater rfl rfl rfl (by decide +kernel) ⟨Nat.le_of_ble_eq_true rfl, Nat.le_of_ble_eq_true rfl⟩) ⟨xR_blind _ _ _ _, va_recv hK hP (ci := 0) (q0 := p1) rfl e1, xR_pre _ hE hK hP⟩ rfl rfl hl.1 rfl (lv_room (Nat.le_of_ble_eq_true rfl)) dX11_club_12 ⟨Nat.le_of_ble_eq_true rfl, Nat.le_of_ble_eq_true rfl⟩) (fun rh3 h3 => ?_)
    rcases h3 with ⟨rfl, h3⟩ | ⟨rfl, h3⟩
    · skip
      refine lv_if_ne (tgt := 21) hx hb dX11_club_15 (by decide) (fun _ => ?_) (fun h => absurd h (by decide))
      refine lv_iload_n hx hb dX11_club_21 rfl (lv_at hl 3 rfl) ?_
      rcases (show (q.toInt < 0 ∨ 3 < q.toInt) ∨ q.toInt = 0 ∨ q.toInt = 1 ∨ q.toInt = 2 ∨ q.toInt = 3 by omega) with c5 | c5 | c5 | c5 | c5
      · refine lv_tableOut (tgt := 113) hx hb dX11_club_22 c5 (by decide) ?_
        refine lv_bipush (v := (-2)) hx hb dX11_club_113 (by decide) ?_
        exact W.iret (v := (-2)) hx hb hr (fun t ht hW => ⟨(-2), rfl, by first | exact Or.inl ⟨by first | rfl | exact xi_k (k := 0) (by decide) (by omega), by first | trivial | omega⟩ | exact Or.inr (⟨by first | rfl | exact xi_k (k := (-2)) (by decide) (by omega), by first | trivial | omega⟩), ht⟩) (fun _ h => by cases h) dX11_club_115
      · refine lv_tableIn (off := 30) (tgt := 52) hx hb dX11_club_22 (by omega) (by omega) (by rw [show (q.toInt - 0).toNat = 0 by omega]; rfl) (by decide) ?_
        refine lv_aload_n hx hb dX11_club_52 rfl (lv_at hl 0 rfl) ?_
        refine va_get (D := (dC, dI)) (ci := 11) (v := .ref bk) (C := RX11) (T := TX11) (N := 8) hx hb hts iX11 hown hK hP p0 e0 rfl 3 (by decide) (hts (.fieldLink RX11 37 "CapLeague" "books" "LCapLeague$Books;") (by decide +kernel)) (fun _ h9 => h9) rfl dX11_club_53 ?_
        refine lv_iload_n hx hb dX11_club_56 rfl (lv_at hl 1 rfl) ?_
        refine lv_iload_n hx hb dX11_club_57 rfl (lv_at hl 2 rfl) ?_
        refine vp_callSi (W.runV (As := [.int c, .int y]) (rest := []) ⟨hx, hb, hml, hown, hts⟩ (rX0_counts l dC dI ws tys p1 e1 p2 e2 t2 y2 p3 e3 t3 y3 p4 e4 t4 y4 p5 e5 t5 y5 p6 e6 t6 y6 p7 e7 t7 y7 p8 e8 t8 y8 p9 e9 t9 y9 p10 e10 t10 y10 c (c.toInt) rfl y (y.toInt) rfl) (cwV 2 hts gX11_club_X0_counts rfl rfl rfl (by decide +kernel) ⟨Nat.le_of_ble_eq_true rfl, Nat.le_of_ble_eq_true rfl⟩) ⟨xR_blind _ _ _ _, va_recv hK hP (ci := 0) (q0 := p1) rfl e1, xR_pre _ hE hK hP⟩ rfl rfl hl.1 rfl (lv_room (Nat.le_of_ble_eq_true rfl)) dX11_club_58 ⟨Nat.le_of_ble_eq_true rfl, Nat.le_of_ble_eq_true rfl⟩) (fun rh6 h6 => ?_)
        obtain ⟨rfl, h6⟩ := h6
        exact W.iret (v := 0) hx hb hr (fun t ht hW => ⟨0, rfl, by first | exact Or.inl ⟨by first | rfl | exact xi_k (k := 0) (by decide) (by omega), by first | trivial | omega⟩ | exact Or.inr (⟨by first | rfl | exact xi_k (k := (-2)) (by decide) (by omega), by first | trivial | omega⟩), ht⟩) (fun _ h => by cases h) dX11_club_61
      · refine lv_tableIn (off := 40) (tgt := 62) hx hb dX11_club_22 (by omega) (by omega) (by rw [show (q.toInt - 0).toNat = 1 by omega]; rfl) (by decide) ?_
        refine lv_aload_n hx hb dX11_club_62 rfl (lv_at hl 0 rfl) ?_
        refine va_get (D := (dC, dI)) (ci := 11) (v := .ref bk) (C := RX11) (T := TX11) (N := 8) hx hb hts iX11 hown hK hP p0 e0 rfl 3 (by decide) (hts (.fieldLink RX11 37 "CapLeague" "books" "LCapLeague$Books;") (by decide +kernel)) (fun _ h9 => h9) rfl dX11_club_63 ?_
        refine va_get (D := (dC, dI)) (ci := 0) (v := .ref de) (C := RX0) (T := TX0) (N := 9) hx hb hts iX0 hown hK hP p1 e1 rfl 4 (by decide) (hts (.fieldLink RX11 178 "CapLeague$Books" "dead" "[[I") (by decide +kernel)) (fun _ h9 => h9) rfl dX11_club_66 ?_
        refine lv_iload_n hx hb dX11_club_69 rfl (lv_at hl 1 rfl) ?_
        refine xm_ald (D := (dC, dI)) hx hb hK hP p2 t2 e2 y2 (xi_in (by omega) (by omega)) dX11_club_70 ?_
        rcases (show c.toInt = 0 ∨ c.toInt = 1 ∨ c.toInt = 2 ∨ c.toInt = 3 ∨ c.toInt = 4 ∨ c.toInt = 5 ∨ c.toInt = 6 ∨ c.toInt = 7 by omega) with c7 | c7 | c7 | c7 | c7 | c7 | c7 | c7
        · refine xw_v (v := .ref (de + 1 + 0)) (by rw [xi_cl c7]; rfl) ?_
          refine lv_iload_n hx hb dX11_club_71 rfl (lv_at hl 2 rfl) ?_
          refine va_iald (D := (dC, dI)) hx hb hK hP p3 t3 e3 y3 (xi_in (by omega) (by omega)) dX11_club_72 ?_
          refine xw_i (v := 0) rfl ?_
          exact W.iret (v := 0) hx hb hr (fun t ht hW => ⟨0, rfl, by first | exact Or.inl ⟨by first | rfl | exact xi_k (k := 0) (by decide) (by omega), by first | trivial | omega⟩ | exact Or.inr (⟨by first | rfl | exact xi_k (k := (-2)) (by decide) (by omega), by first | trivial | omega⟩), ht⟩) (fun _ h => by cases h) dX11_club_73
        · refine xw_v (v := .ref (de + 1 + 1)) (by rw [xi_cl c7]; rfl) ?_
          refine lv_iload_n hx hb dX11_club_71 rfl (lv_at hl 2 rfl) ?_
          refine va_iald (D := (dC, dI)) hx hb hK hP p4 t4 e4 y4 (xi_in (by omega) (by omega)) dX11_club_72 ?_
          refine xw_i (v := 0) rfl ?_
          exact W.iret (v := 0) hx hb hr (fun t ht hW => ⟨0, rfl, by first | exact Or.inl ⟨by first | rfl | exact xi_k (k := 0) (by decide) (by omega), by first | trivial | omega⟩ | exact Or.inr (⟨by first | rfl | exact xi_k (k := (-2)) (by decide) (by omega), by first | trivial | omega⟩), ht⟩) (fun _ h => by cases h) dX11_club_73
        · refine xw_v (v := .ref (de + 1 + 2)) (by rw [xi_cl c7]; rfl) ?_
          refine lv_iload_n hx hb dX11_club_71 rfl (lv_at hl 2 rfl) ?_
          refine va_iald (D := (dC, dI)) hx hb hK hP p5 t5 e5 y5 (xi_in (by omega) (by omega)) dX11_club_72 ?_
          refine xw_i (v := 0) rfl ?_
          exact W.iret (v := 0) hx hb hr (fun t ht hW => ⟨0, rfl, by first | exact Or.inl ⟨by first | rfl | exact xi_k (k := 0) (by decide) (by omega), by first | trivial | omega⟩ | exact Or.inr (⟨by first | rfl | exact xi_k (k := (-2)) (by decide) (by omega), by first | trivial | omega⟩), ht⟩) (fun _ h => by cases h) dX11_club_73
        · refine xw_v (v := .ref (de + 1 + 3)) (by rw [xi_cl c7]; rfl) ?_
          refine lv_iload_n hx hb dX11_club_71 rfl (lv_at hl 2 rfl) ?_
          refine va_iald (D := (dC, dI)) hx hb hK hP p6 t6 e6 y6 (xi_in (by omega) (by omega)) dX11_club_72 ?_
          refine xw_i (v := 0) rfl ?_
          exact W.iret (v := 0) hx hb hr (fun t ht hW => ⟨0, rfl, by first | exact Or.inl ⟨by first | rfl | exact xi_k (k := 0) (by decide) (by omega), by first | trivial | omega⟩ | exact Or.inr (⟨by first | rfl | exact xi_k (k := (-2)) (by decide) (by omega), by first | trivial | omega⟩), ht⟩) (fun _ h => by cases h) dX11_club_73
        · refine xw_v (v := .ref (de + 1 + 4)) (by rw [xi_cl c7]; rfl) ?_
          refine lv_iload_n hx hb dX11_club_71 rfl (lv_at hl 2 rfl) ?_
          refine va_iald (D := (dC, dI)) hx hb hK hP p7 t7 e7 y7 (xi_in (by omega) (by omega)) dX11_club_72 ?_
          refine xw_i (v := 0) rfl ?_
          exact W.iret (v := 0) hx hb hr (fun t ht hW => ⟨0, rfl, by first | exact Or.inl ⟨by first | rfl | exact xi_k (k := 0) (by decide) (by omega), by first | trivial | omega⟩ | exact Or.inr (⟨by first | rfl | exact xi_k (k := (-2)) (by decide) (by omega), by first | trivial | omega⟩), ht⟩) (fun _ h => by cases h) dX11_club_73
        · refine xw_v (v := .ref (de + 1 + 5)) (by rw [xi_cl c7]; rfl) ?_
          refine lv_iload_n hx hb dX11_club_71 rfl (lv_at hl 2 rfl) ?_
          refine va_iald (D := (dC, dI)) hx hb hK hP p8 t8 e8 y8 (xi_in (by omega) (by omega)) dX11_club_72 ?_
          refine xw_i (v := 0) rfl ?_
          exact W.iret (v := 0) hx hb hr (fun t ht hW => ⟨0, rfl, by first | exact Or.inl ⟨by first | rfl | exact xi_k (k := 0) (by decide) (by omega), by first | trivial | omega⟩ | exact Or.inr (⟨by first | rfl | exact xi_k (k := (-2)) (by decide) (by omega), by first | trivial | omega⟩), ht⟩) (fun _ h => by cases h) dX11_club_73
        · refine xw_v (v := .ref (de + 1 + 6)) (by rw [xi_cl c7]; rfl) ?_
          refine lv_iload_n hx hb dX11_club_71 rfl (lv_at hl 2 rfl) ?_
          refine va_iald (D := (dC, dI)) hx hb hK hP p9 t9 e9 y9 (xi_in (by omega) (by omega)) dX11_club_72 ?_
          refine xw_i (v := 0) rfl ?_
          exact W.iret (v := 0) hx hb hr (fun t ht hW => ⟨0, rfl, by first | exact Or.inl ⟨by first | rfl | exact xi_k (k := 0) (by decide) (by omega), by first | trivial | omega⟩ | exact Or.inr (⟨by first | rfl | exact xi_k (k := (-2)) (by decide) (by omega), by first | trivial | omega⟩), ht⟩) (fun _ h => by cases h) dX11_club_73
        · refine xw_v (v := .ref (de + 1 + 7)) (by rw [xi_cl c7]; rfl) ?_
          refine lv_iload_n hx hb dX11_club_71 rfl (lv_at hl 2 rfl) ?_
          refine va_iald (D := (dC, dI)) hx hb hK hP p10 t10 e10 y10 (xi_in (by omega) (by omega)) dX11_club_72 ?_
          refine xw_i (v := 0) rfl ?_
          exact W.iret (v := 0) hx hb hr (fun t ht hW => ⟨0, rfl, by first | exact Or.inl ⟨by first | rfl | exact xi_k (k := 0) (by decide) (by omega), by first | trivial | omega⟩ | exact Or.inr (⟨by first | rfl | exact xi_k (k := (-2)) (by decide) (by omega), by first | trivial | omega⟩), ht⟩) (fun _ h => by cases h) dX11_club_73
      · refine lv_tableIn (off := 52) (tgt := 74) hx hb dX11_club_22 (by omega) (by omega) (by rw [show (q.toInt - 0).toNat = 2 by omega]; rfl) (by decide) ?_
        refine lv_aload_n hx hb dX11_club_74 rfl (lv_at hl 0 rfl) ?_
        refine va_get (D := (dC, dI)) (ci := 11) (v := .ref bk) (C := RX11) (T := TX11) (N := 8) hx hb hts iX11 hown hK hP p0 e0 rfl 3 (by decide) (hts (.fieldLink RX11 37 "CapLeague" "books" "LCapLeague$Books;") (by decide +kernel)) (fun _ h9 => h9) rfl dX11_club_75 ?_
        refine lv_iload_n hx hb dX11_club_78 rfl (lv_at hl 1 rfl) ?_
        refine lv_iload_n hx hb dX11_club_79 rfl (lv_at hl 2 rfl) ?_
        refine vp_callSi (W.runV (As := [.int c, .int y]) (rest := []) ⟨hx, hb, hml, hown, hts⟩ (cX0_pin l dC dI ws tys p1 e1 c (c.toInt) rfl y (y.toInt) rfl) (cwV 2 hts gX11_club_X0_playersIn rfl rfl rfl (by decide +kernel) ⟨Nat.le_of_ble_eq_true rfl, Nat.le_of_ble_eq_true rfl⟩) ⟨xR_blind _ _ _ _, va_recv hK hP (ci := 0) (q0 := p1) rfl e1, xR_pre _ hE hK hP⟩ rfl rfl hl.1 rfl (lv_room (Nat.le_of_ble_eq_true rfl)) dX11_club_80 ⟨Nat.le_of_ble_eq_true rfl, Nat.le_of_ble_eq_true rfl⟩) (fun rh8 h8 => ?_)
        obtain ⟨rfl, h8⟩ := h8
        exact W.iret (v := 0) hx hb hr (fun t ht hW => ⟨0, rfl, by first | exact Or.inl ⟨by first | rfl | exact xi_k (k := 0) (by decide) (by omega), by first | trivial | omega⟩ | exact Or.inr (⟨by first | rfl | exact xi_k (k := (-2)) (by decide) (by omega), by first | trivial | omega⟩), ht⟩) (fun _ h => by cases h) dX11_club_83
      · refine lv_tableIn (off := 62) (tgt := 84) hx hb dX11_club_22 (by omega) (by omega) (by rw [show (q.toInt - 0).toNat = 3 by omega]; rfl) (by decide) ?_
        refine lv_iload_n hx hb dX11_club_84 rfl (lv_at hl 2 rfl) ?_
        refine lv_aload_n hx hb dX11_club_85 rfl (lv_at hl 0 rfl) ?_
        refine va_get (D := (dC, dI)) (ci := 11) (v := .ref bk) (C := RX11) (T := TX11) (N := 8) hx hb hts iX11 hown hK hP p0 e0 rfl 3 (by decide) (hts (.fieldLink RX11 37 "CapLeague" "books" "LCapLeague$Books;") (by decide +kernel)) (fun _ h9 => h9) rfl dX11_club_86 ?_
        refine va_get (D := (dC, dI)) (ci := 0) (v := .int 0) (C := RX0) (T := TX0) (N := 9) hx hb hts iX0 hown hK hP p1 e1 rfl 3 (by decide) (hts (.fieldLink RX11 142 "CapLeague$Books" "clock" "I") (by decide +kernel)) (fun _ h9 => h9) rfl dX11_club_89 ?_
        refine lv_icmp_ne (tgt := 111) hx hb dX11_club_92 (by decide) (fun c9 => ?_) (fun c9 => ?_)
        · have ic9 := (xi_ne c9 rfl (by decide) : y.toInt ≠ 0)
          refine lv_iconst (v := 0) hx hb dX11_club_111 (by decide) ?_
          exact W.iret (v := 0) hx hb hr (fun t ht hW => ⟨0, rfl, by first | exact Or.inl ⟨by first | rfl | exact xi_k (k := 0) (by decide) (by omega), by first | trivial | omega⟩ | exact Or.inr (⟨by first | rfl | exact xi_k (k := (-2)) (by decide) (by omega), by first | trivial | omega⟩), ht⟩) (fun _ h => by cases h) dX11_club_112
        · have ic9 := (xi_eq c9 rfl (by decide) : y.toInt = 0)
          refine lv_aload_n hx hb dX11_club_95 rfl (lv_at hl 0 rfl) ?_
          refine va_get (D := (dC, dI)) (ci := 11) (v := .ref bk) (C := RX11) (T := TX11) (N := 8) hx hb hts iX11 hown hK hP p0 e0 rfl 3 (by decide) (hts (.fieldLink RX11 37 "CapLeague" "books" "LCapLeague$Books;") (by decide +kernel)) (fun _ h9 => h9) rfl dX11_club_96 ?_
          refine va_get (D := (dC, dI)) (ci := 0) (v := .ref su) (C := RX0) (T := TX0) (N := 9) hx hb hts iX0 hown hK hP p1 e1 rfl 5 (by decide) (hts (.fieldLink RX11 185 "CapLeague$Books" "spareUsed" "[Z") (by decide +kernel)) (fun _ h9 => h9) rfl dX11_club_99 ?_
          refine lv_iload_n hx hb dX11_club_102 rfl (lv_at hl 1 rfl) ?_
          refine va_zald (D := (dC, dI)) hx hb hK hP p11 t11 e11 y11 (xi_in (by omega) (by omega)) dX11_club_103 ?_
          refine xw_i (v := 0) rfl ?_
          refine lv_if_eq (tgt := 111) hx hb dX11_club_104 (by decide) (fun _ => ?_) (fun h => absurd (by decide) h)
          refine lv_iconst (v := 0) hx hb dX11_club_111 (by decide) ?_
          exact W.iret (v := 0) hx hb hr (fun t ht hW => ⟨0, rfl, by first | exact Or.inl ⟨by first | rfl | exact xi_k (k := 0) (by decide) (by omega), by first | trivial | omega⟩ | exact Or.inr (⟨by first | rfl | exact xi_k (k := (-2)) (by decide) (by omega), by first | trivial | omega⟩), ht⟩) (fun _ h => by cases h) dX11_club_112
    · skip
      refine lv_if_ne (tgt := 21) hx hb dX11_club_15 (by decide) (fun h => absurd (by decide) h) (fun _ => ?_)
      refine lv_bipush (v := (-2)) hx hb dX11_club_18 (by decide) ?_
      exact W.iret (v := (-2)) hx hb hr (fun t ht hW => ⟨(-2), rfl, by first | exact Or.inl ⟨by first | rfl | exact xi_k (k := 0) (by decide) (by omega), by first | trivial | omega⟩ | exact Or.inr (⟨by first | rfl | exact xi_k (k := (-2)) (by decide) (by omega), by first | trivial | omega⟩), ht⟩) (fun _ h => by cases h) dX11_club_20
  · skip
    refine lv_if_eq (tgt := 18) hx hb dX11_club_4 (by decide) (fun _ => ?_) (fun h => absurd (by decide) h)
    refine lv_bipush (v := (-2)) hx hb dX11_club_18 (by decide) ?_
    exact W.iret (v := (-2)) hx hb hr (fun t ht hW => ⟨(-2), rfl, by first | exact Or.inl ⟨by first | rfl | exact xi_k (k := 0) (by decide) (by omega), by first | trivial | omega⟩ | exact Or.inr (⟨by first | rfl | exact xi_k (k := (-2)) (by decide) (by omega), by first | trivial | omega⟩), ht⟩) (fun _ h => by cases h) dX11_club_20
set_option maxHeartbeats 4000000 in
set_option maxRecDepth 100000 in
theorem aX_worthTurn (l : Launch) (dC : Nat → ClassId) (dI : Nat → Nat → Nat) (cp tp lb rd bk tn td rg dr ho sh gi wo : Nat) (kO kI : ClassId)  (sz : Nat)  (c : Int32) (c_t : Int) (h_c : c.toInt = c_t) (a : Int32) (a_t : Int) (h_a : a.toInt = a_t) (y : Int32) (y_t : Int) (h_y : y.toInt = y_t) (k : Int32) (k_t : Int) (h_k : k.toInt = k_t)  : Met l yX11_worthTurn wsX11_worthTurn ({ frames := 2, cells := 0, slots := 0, locals := 128 }) (va_Pc [.ref cp, .int c, .int a, .int y, .int k] (xW (dC, dI) [(kO, (.array .int)), (kI, .int), (kI, .int), (kI, .int), (kI, .int), (kI, .int), (kI, .int), (kI, .int), (kI, .int)] [(cp, .inr (11, [.ref tp, .ref lb, .ref rd, .ref bk, .ref tn, .ref td, .ref rg, .ref dr])), (tn, .inr (10, [.ref ho, .ref sh, .ref gi, .ref wo])), (wo, .inl (kO, 8, .inr (.inr (.inr (.inr (fun j => if j < 8 then some (wo + 1 + j) else none)))))), ((wo + 1 + 0), .inl (kI, 80, .inl (fun _ => 0))), ((wo + 1 + 1), .inl (kI, 80, .inl (fun _ => 0))), ((wo + 1 + 2), .inl (kI, 80, .inl (fun _ => 0))), ((wo + 1 + 3), .inl (kI, 80, .inl (fun _ => 0))), ((wo + 1 + 4), .inl (kI, 80, .inl (fun _ => 0))), ((wo + 1 + 5), .inl (kI, 80, .inl (fun _ => 0))), ((wo + 1 + 6), .inl (kI, 80, .inl (fun _ => 0))), ((wo + 1 + 7), .inl (kI, 80, .inl (fun _ => 0)))] sz)) (va_Qi (fun r (_ : Unit) => (r = 0 ∧ (0 ≤ c_t ∧ c_t ≤ 7 ∧ 0 ≤ a_t ∧ a_t ≤ 7 ∧ 0 ≤ y_t ∧ y_t ≤ 9 ∧ 0 ≤ k_t ∧ k_t ≤ 9999)) ∨ (r = (-2) ∧ ¬ (0 ≤ c_t ∧ c_t ≤ 7 ∧ 0 ≤ a_t ∧ a_t ≤ 7 ∧ 0 ≤ y_t ∧ y_t ≤ 9 ∧ 0 ≤ k_t ∧ k_t ≤ 9999))) (fun (_ : Unit) _ => True) (va_A [(cp, .inr (11, [.ref tp, .ref lb, .ref rd, .ref bk, .ref tn, .ref td, .ref rg, .ref dr])), (tn, .inr (10, [.ref ho, .ref sh, .ref gi, .ref wo])), (wo, .inl (kO, 8, .inr (.inr (.inr (.inr (fun j => if j < 8 then some (wo + 1 + j) else none)))))), ((wo + 1 + 0), .inl (kI, 80, .inl (fun _ => 0))), ((wo + 1 + 1), .inl (kI, 80, .inl (fun _ => 0))), ((wo + 1 + 2), .inl (kI, 80, .inl (fun _ => 0))), ((wo + 1 + 3), .inl (kI, 80, .inl (fun _ => 0))), ((wo + 1 + 4), .inl (kI, 80, .inl (fun _ => 0))), ((wo + 1 + 5), .inl (kI, 80, .inl (fun _ => 0))), ((wo + 1 + 6), .inl (kI, 80, .inl (fun _ => 0))), ((wo + 1 + 7), .inl (kI, 80, .inl (fun _ => 0)))] sz)) 0 0 (va_A [(cp, .inr (11, [.ref tp, .ref lb, .ref rd, .ref bk, .ref tn, .ref td, .ref rg, .ref dr])), (tn, .inr (10, [.ref ho, .ref sh, .ref gi, .ref wo])), (wo, .inl (kO, 8, .inr (.inr (.inr (.inr (fun j => if j < 8 then some (wo + 1 + j) else none)))))), ((wo + 1 + 0), .inl (kI, 80, .inl (fun _ => 0))), ((wo + 1 + 1), .inl (kI, 80, .inl (fun _ => 0))), ((wo + 1 + 2), .inl (kI, 80, .inl (fun _ => 0))), ((wo + 1 + 3), .inl (kI, 80, .inl (fun _ => 0))), ((wo + 1 + 4), .inl (kI, 80, .inl (fun _ => 0))), ((wo + 1 + 5), .inl (kI, 80, .inl (fun _ => 0))), ((wo + 1 + 6), .inl (kI, 80, .inl (fun _ => 0))), ((wo + 1 + 7), .inl (kI, 80, .inl (fun _ => 0)))] sz) := by
  refine Met.ofW (cc := cX11_worthTurn) (maxL := 7) (ret := (some .int)) (by decide) rfl ?_
  intro pr_ ev_ s m args below meth cd_ s₁ B hml hv
  obtain ⟨rfl, hE, hsz, hK, hP, hD0⟩ := hv
  have hx := B.exec
  have hb := B.bytes
  have hr := B.returns
  have hts := atoms_spec (ws := wsX11_worthTurn) B.pre
  have hown : s.vm.findClass RX11 = some m.cls := findClass_of_methodNamed B.named
  have hlocks := B.notSynchronized
  subst hsz
  have hD := hD0.self (sz := s.heap.size)
  generalize hAe : va_A [(cp, .inr (11, [.ref tp, .ref lb, .ref rd, .ref bk, .ref tn, .ref td, .ref rg, .ref dr])), (tn, .inr (10, [.ref ho, .ref sh, .ref gi, .ref wo])), (wo, .inl (kO, 8, .inr (.inr (.inr (.inr (fun j => if j < 8 then some (wo + 1 + j) else none)))))), ((wo + 1 + 0), .inl (kI, 80, .inl (fun _ => 0))), ((wo + 1 + 1), .inl (kI, 80, .inl (fun _ => 0))), ((wo + 1 + 2), .inl (kI, 80, .inl (fun _ => 0))), ((wo + 1 + 3), .inl (kI, 80, .inl (fun _ => 0))), ((wo + 1 + 4), .inl (kI, 80, .inl (fun _ => 0))), ((wo + 1 + 5), .inl (kI, 80, .inl (fun _ => 0))), ((wo + 1 + 6), .inl (kI, 80, .inl (fun _ => 0))), ((wo + 1 + 7), .inl (kI, 80, .inl (fun _ => 0)))] s.heap.size = A at hD ⊢
  have hA : ∀ q : Nat, s.heap.size ≤ q → A q := fun q h => by rw [← hAe]; exact Or.inr h
  have hS : va_S A s.heap s.heap [] := va_S.rf
  have iX11 : ∀ w ∈ u_ws RX11 TX11 8, w ∈ wsX11_worthTurn := by decide +kernel
  have iX10 : ∀ w ∈ u_ws RX10 TX10 4, w ∈ wsX11_worthTurn := by decide +kernel
  have hl := lv_entry ([.ref cp, .int c, .int a, .int y, .int k]) (n := 7) (Nat.le_of_ble_eq_true rfl)
  rw [lg_entry_eq]
  generalize (lg_sl ([.ref cp, .int c, .int a, .int y, .int k]) ++ List.replicate (7 - (lg_sl ([.ref cp, .int c, .int a, .int y, .int k])).length) Slot.unset).toArray = ls at hl ⊢
  have hl : lv_has ls 7 [(0, .ref cp), (1, .int c), (2, .int a), (3, .int y), (4, .int k)] := hl
  have lo_c := xi_lo c
  have hi_c := xi_hi c
  have lo_a := xi_lo a
  have hi_a := xi_hi a
  have lo_y := xi_lo y
  have hi_y := xi_hi y
  have lo_k := xi_lo k
  have hi_k := xi_hi k
  refine lv_iload_n hx hb dX11_worthTurn_0 rfl (lv_at hl 1 rfl) ?_
  refine vp_callSi (W.runS (As := [.int c]) (rest := []) ⟨hx, hb, hml, hown, hts⟩ (cX11_isClub_ l dC dI ([(cp, .inr (11, [.ref tp, .ref lb, .ref rd, .ref bk, .ref tn, .ref td, .ref rg, .ref dr])), (tn, .inr (10, [.ref ho, .ref sh, .ref gi, .ref wo])), (wo, .inl (kO, 8, .inr (.inr (.inr (.inr (fun j => if j < 8 then some (wo + 1 + j) else none)))))), ((wo + 1 + 0), .inl (kI, 80, .inl (fun _ => 0))), ((wo + 1 + 1), .inl (kI, 80, .inl (fun _ => 0))), ((wo + 1 + 2), .inl (kI, 80, .inl (fun _ => 0))), ((wo + 1 + 3), .inl (kI, 80, .inl (fun _ => 0))), ((wo + 1 + 4), .inl (kI, 80, .inl (fun _ => 0))), ((wo + 1 + 5), .inl (kI, 80, .inl (fun _ => 0))), ((wo + 1 + 6), .inl (kI, 80, .inl (fun _ => 0))), ((wo + 1 + 7), .inl (kI, 80, .inl (fun _ => 0)))]) ([(kO, (.array .int)), (kI, .int), (kI, .int), (kI, .int), (kI, .int), (kI, .int), (kI, .int), (kI, .int), (kI, .int)]) c (c.toInt) rfl) (va_cwS 1 hts gX11_worthTurn_X11_isClub rfl rfl rfl (by decide +kernel) ⟨Nat.le_of_ble_eq_true rfl, Nat.le_of_ble_eq_true rfl⟩) ⟨xR_blind _ _ _ _, xR_pre _ hE hK hP⟩ rfl rfl hl.1 rfl (lv_room (Nat.le_of_ble_eq_true rfl)) dX11_worthTurn_1 ⟨Nat.le_of_ble_eq_true rfl, Nat.le_of_ble_eq_true rfl⟩) (fun rh1 h1 => ?_)
  rcases h1 with ⟨rfl, h1⟩ | ⟨rfl, h1⟩
  · skip
    refine lv_if_eq (tgt := 29) hx hb dX11_worthTurn_4 (by decide) (fun h => absurd h (by decide)) (fun _ => ?_)
    refine lv_iload_n hx hb dX11_worthTurn_7 rfl (lv_at hl 2 rfl) ?_
    refine vp_callSi (W.runS (As := [.int a]) (rest := []) ⟨hx, hb, hml, hown, hts⟩ (cX11_isClub_ l dC dI ([(cp, .inr (11, [.ref tp, .ref lb, .ref rd, .ref bk, .ref tn, .ref td, .ref rg, .ref dr])), (tn, .inr (10, [.ref ho, .ref sh, .ref gi, .ref wo])), (wo, .inl (kO, 8, .inr (.inr (.inr (.inr (fun j => if j < 8 then some (wo + 1 + j) else none)))))), ((wo + 1 + 0), .inl (kI, 80, .inl (fun _ => 0))), ((wo + 1 + 1), .inl (kI, 80, .inl (fun _ => 0))), ((wo + 1 + 2), .inl (kI, 80, .inl (fun _ => 0))), ((wo + 1 + 3), .inl (kI, 80, .inl (fun _ => 0))), ((wo + 1 + 4), .inl (kI, 80, .inl (fun _ => 0))), ((wo + 1 + 5), .inl (kI, 80, .inl (fun _ => 0))), ((wo + 1 + 6), .inl (kI, 80, .inl (fun _ => 0))), ((wo + 1 + 7), .inl (kI, 80, .inl (fun _ => 0)))]) ([(kO, (.array .int)), (kI, .int), (kI, .int), (kI, .int), (kI, .int), (kI, .int), (kI, .int), (kI, .int), (kI, .int)]) a (a.toInt) rfl) (va_cwS 1 hts gX11_worthTurn_X11_isClub rfl rfl rfl (by decide +kernel) ⟨Nat.le_of_ble_eq_true rfl, Nat.le_of_ble_eq_true rfl⟩) ⟨xR_blind _ _ _ _, xR_pre _ hE hK hP⟩ rfl rfl hl.1 rfl (lv_room (Nat.le_of_ble_eq_true rfl)) dX11_worthTurn_8 ⟨Nat.le_of_ble_eq_true rfl, Nat.le_of_ble_eq_true rfl⟩) (fun rh3 h3 => ?_)
    rcases h3 with ⟨rfl, h3⟩ | ⟨rfl, h3⟩
    · skip
      refine lv_if_eq (tgt := 29) hx hb dX11_worthTurn_11 (by decide) (fun h => absurd h (by decide)) (fun _ => ?_)
      refine lv_iload_n hx hb dX11_worthTurn_14 rfl (lv_at hl 3 rfl) ?_
      refine vp_callSi (W.runS (As := [.int y]) (rest := []) ⟨hx, hb, hml, hown, hts⟩ (cX11_isYear_ l dC dI ([(cp, .inr (11, [.ref tp, .ref lb, .ref rd, .ref bk, .ref tn, .ref td, .ref rg, .ref dr])), (tn, .inr (10, [.ref ho, .ref sh, .ref gi, .ref wo])), (wo, .inl (kO, 8, .inr (.inr (.inr (.inr (fun j => if j < 8 then some (wo + 1 + j) else none)))))), ((wo + 1 + 0), .inl (kI, 80, .inl (fun _ => 0))), ((wo + 1 + 1), .inl (kI, 80, .inl (fun _ => 0))), ((wo + 1 + 2), .inl (kI, 80, .inl (fun _ => 0))), ((wo + 1 + 3), .inl (kI, 80, .inl (fun _ => 0))), ((wo + 1 + 4), .inl (kI, 80, .inl (fun _ => 0))), ((wo + 1 + 5), .inl (kI, 80, .inl (fun _ => 0))), ((wo + 1 + 6), .inl (kI, 80, .inl (fun _ => 0))), ((wo + 1 + 7), .inl (kI, 80, .inl (fun _ => 0)))]) ([(kO, (.array .int)), (kI, .int), (kI, .int), (kI, .int), (kI, .int), (kI, .int), (kI, .int), (kI, .int), (kI, .int)]) y (y.toInt) rfl) (va_cwS 1 hts gX11_worthTurn_X11_isYear rfl rfl rfl (by decide +kernel) ⟨Nat.le_of_ble_eq_true rfl, Nat.le_of_ble_eq_true rfl⟩) ⟨xR_blind _ _ _ _, xR_pre _ hE hK hP⟩ rfl rfl hl.1 rfl (lv_room (Nat.le_of_ble_eq_true rfl)) dX11_worthTurn_15 ⟨Nat.le_of_ble_eq_true rfl, Nat.le_of_ble_eq_true rfl⟩) (fun rh5 h5 => ?_)
      rcases h5 with ⟨rfl, h5⟩ | ⟨rfl, h5⟩
      · skip
        refine lv_if_eq (tgt := 29) hx hb dX11_worthTurn_18 (by decide) (fun h => absurd h (by decide)) (fun _ => ?_)
        refine lv_iload hx hb dX11_worthTurn_21 (lv_at hl 4 rfl) ?_
        refine vp_callSi (W.runS (As := [.int k]) (rest := []) ⟨hx, hb, hml, hown, hts⟩ (cX11_isWorth_ l dC dI ([(cp, .inr (11, [.ref tp, .ref lb, .ref rd, .ref bk, .ref tn, .ref td, .ref rg, .ref dr])), (tn, .inr (10, [.ref ho, .ref sh, .ref gi, .ref wo])), (wo, .inl (kO, 8, .inr (.inr (.inr (.inr (fun j => if j < 8 then some (wo + 1 + j) else none)))))), ((wo + 1 + 0), .inl (kI, 80, .inl (fun _ => 0))), ((wo + 1 + 1), .inl (kI, 80, .inl (fun _ => 0))), ((wo + 1 + 2), .inl (kI, 80, .inl (fun _ => 0))), ((wo + 1 + 3), .inl (kI, 80, .inl (fun _ => 0))), ((wo + 1 + 4), .inl (kI, 80, .inl (fun _ => 0))), ((wo + 1 + 5), .inl (kI, 80, .inl (fun _ => 0))), ((wo + 1 + 6), .inl (kI, 80, .inl (fun _ => 0))), ((wo + 1 + 7), .inl (kI, 80, .inl (fun _ => 0)))]) ([(kO, (.array .int)), (kI, .int), (kI, .int), (kI, .int), (kI, .int), (kI, .int), (kI, .int), (kI, .int), (kI, .int)]) k (k.toInt) rfl) (va_cwS 1 hts gX11_worthTurn_X11_isWorth rfl rfl rfl (by decide +kernel) ⟨Nat.le_of_ble_eq_true rfl, Nat.le_of_ble_eq_true rfl⟩) ⟨xR_blind _ _ _ _, xR_pre _ hE hK hP⟩ rfl rfl hl.1 rfl (lv_room (Nat.le_of_ble_eq_true rfl)) dX11_worthTurn_23 ⟨Nat.le_of_ble_eq_true rfl, Nat.le_of_ble_eq_true rfl⟩) (fun rh7 h7 => ?_)
        rcases h7 with ⟨rfl, h7⟩ | ⟨rfl, h7⟩
        · skip
          refine lv_if_ne (tgt := 32) hx hb dX11_worthTurn_26 (by decide) (fun _ => ?_) (fun h => absurd h (by decide))
          refine lv_iload_n hx hb dX11_worthTurn_32 rfl (lv_at hl 2 rfl) ?_
          refine lv_iload_n hx hb dX11_worthTurn_33 rfl (lv_at hl 3 rfl) ?_
          refine vp_callSi (W.runS (As := [.int a, .int y]) (rest := []) ⟨hx, hb, hml, hown, hts⟩ (rX10_keyOf l dC dI ([(cp, .inr (11, [.ref tp, .ref lb, .ref rd, .ref bk, .ref tn, .ref td, .ref rg, .ref dr])), (tn, .inr (10, [.ref ho, .ref sh, .ref gi, .ref wo])), (wo, .inl (kO, 8, .inr (.inr (.inr (.inr (fun j => if j < 8 then some (wo + 1 + j) else none)))))), ((wo + 1 + 0), .inl (kI, 80, .inl (fun _ => 0))), ((wo + 1 + 1), .inl (kI, 80, .inl (fun _ => 0))), ((wo + 1 + 2), .inl (kI, 80, .inl (fun _ => 0))), ((wo + 1 + 3), .inl (kI, 80, .inl (fun _ => 0))), ((wo + 1 + 4), .inl (kI, 80, .inl (fun _ => 0))), ((wo + 1 + 5), .inl (kI, 80, .inl (fun _ => 0))), ((wo + 1 + 6), .inl (kI, 80, .inl (fun _ => 0))), ((wo + 1 + 7), .inl (kI, 80, .inl (fun _ => 0)))]) ([(kO, (.array .int)), (kI, .int), (kI, .int), (kI, .int), (kI, .int), (kI, .int), (kI, .int), (kI, .int), (kI, .int)]) a (a.toInt) rfl y (y.toInt) rfl (by omega) (by omega) (by omega) (by omega)) (va_cwS 2 hts gX11_worthTurn_X10_keyOf rfl rfl rfl (by decide +kernel) ⟨Nat.le_of_ble_eq_true rfl, Nat.le_of_ble_eq_true rfl⟩) ⟨xR_blind _ _ _ _, xR_pre _ hE hK hP⟩ rfl rfl hl.1 rfl (lv_room (Nat.le_of_ble_eq_true rfl)) dX11_worthTurn_34 ⟨Nat.le_of_ble_eq_true rfl, Nat.le_of_ble_eq_true rfl⟩) (fun rh9 h9 => ?_)
          refine lv_istore (lv' := [(5, .int rh9), (0, .ref cp), (1, .int c), (2, .int a), (3, .int y), (4, .int k)]) hx hb dX11_worthTurn_37 hl (by decide) rfl (fun ls hl => ?_)
          refine lv_aload_n hx hb dX11_worthTurn_39 rfl (lv_at hl 1 rfl) ?_
          refine va_get (D := (dC, dI)) (ci := 11) (v := .ref tn) (C := RX11) (T := TX11) (N := 8) hx hb hts iX11 hown hK hP 0 rfl rfl 4 (by decide) (hts (.fieldLink RX11 44 "CapLeague" "turns" "LCapLeague$Turns;") (by decide +kernel)) (fun _ h9 => h9) rfl dX11_worthTurn_40 ?_
          refine va_get (D := (dC, dI)) (ci := 10) (v := .ref wo) (C := RX10) (T := TX10) (N := 4) hx hb hts iX10 hown hK hP 1 rfl rfl 3 (by decide) (hts (.fieldLink RX11 242 "CapLeague$Turns" "worths" "[[I") (by decide +kernel)) (fun _ h9 => h9) rfl dX11_worthTurn_43 ?_
          refine lv_iload_n hx hb dX11_worthTurn_46 rfl (lv_at hl 2 rfl) ?_
          refine xm_ald (D := (dC, dI)) hx hb hK hP 2 0 rfl rfl (xi_in (by omega) (by omega)) dX11_worthTurn_47 ?_
          rcases (show c.toInt = 0 ∨ c.toInt = 1 ∨ c.toInt = 2 ∨ c.toInt = 3 ∨ c.toInt = 4 ∨ c.toInt = 5 ∨ c.toInt = 6 ∨ c.toInt = 7 by omega) with c10 | c10 | c10 | c10 | c10 | c10 | c10 | c10
          · refine xw_v (v := .ref (wo + 1 + 0)) (by rw [xi_cl c10]; rfl) ?_
            refine lv_iload hx hb dX11_worthTurn_48 (lv_at hl 0 rfl) ?_
            refine va_iald (D := (dC, dI)) hx hb hK hP 3 1 rfl rfl (xi_in (by omega) (by omega)) dX11_worthTurn_50 ?_
            refine xw_i (v := 0) rfl ?_
            refine lv_istore (lv' := [(6, .int 0), (5, .int rh9), (0, .ref cp), (1, .int c), (2, .int a), (3, .int y), (4, .int k)]) hx hb dX11_worthTurn_51 hl (by decide) rfl (fun ls hl => ?_)
            refine lv_aload_n hx hb dX11_worthTurn_53 rfl (lv_at hl 2 rfl) ?_
            refine va_get (D := (dC, dI)) (ci := 11) (v := .ref tn) (C := RX11) (T := TX11) (N := 8) hx hb hts iX11 hown hK hP 0 rfl rfl 4 (by decide) (hts (.fieldLink RX11 44 "CapLeague" "turns" "LCapLeague$Turns;") (by decide +kernel)) (fun _ h9 => h9) rfl dX11_worthTurn_54 ?_
            refine va_get (D := (dC, dI)) (ci := 10) (v := .ref wo) (C := RX10) (T := TX10) (N := 4) hx hb hts iX10 hown hK hP 1 rfl rfl 3 (by decide) (hts (.fieldLink RX11 242 "CapLeague$Turns" "worths" "[[I") (by decide +kernel)) (fun _ h9 => h9) rfl dX11_worthTurn_57 ?_
            refine lv_iload_n hx hb dX11_worthTurn_60 rfl (lv_at hl 3 rfl) ?_
            refine xm_ald (D := (dC, dI)) hx hb hK hP 2 0 rfl rfl (xi_in (by omega) (by omega)) dX11_worthTurn_61 ?_
            have c11 : c.toInt = 0 := by omega
            refine xw_v (v := .ref (wo + 1 + 0)) (by rw [xi_cl c11]; rfl) ?_
            refine lv_iload hx hb dX11_worthTurn_62 (lv_at hl 1 rfl) ?_
            refine lv_iload hx hb dX11_worthTurn_64 (lv_at hl 6 rfl) ?_
            refine va_iast (D := (dC, dI)) hx hb hK hP hD hS 3 1 rfl rfl (xi_in (by omega) (by omega)) dX11_worthTurn_66 (fun H locs hP hD hS => ?_)
            obtain ⟨f12, ef12⟩ : ∃ g : Nat → Int32, g = upd (fun _ => 0) rh9.toNatClampNeg (k) := ⟨_, rfl⟩
            replace hP : va_P (dC, dI) vwCl [(cp, .inr (11, [.ref tp, .ref lb, .ref rd, .ref bk, .ref tn, .ref td, .ref rg, .ref dr])), (tn, .inr (10, [.ref ho, .ref sh, .ref gi, .ref wo])), (wo, .inl (kO, 8, .inr (.inr (.inr (.inr (fun j => if j < 8 then some (wo + 1 + j) else none)))))), ((wo + 1 + 0), .inl (kI, 80, .inl f12)), ((wo + 1 + 1), .inl (kI, 80, .inl (fun _ => 0))), ((wo + 1 + 2), .inl (kI, 80, .inl (fun _ => 0))), ((wo + 1 + 3), .inl (kI, 80, .inl (fun _ => 0))), ((wo + 1 + 4), .inl (kI, 80, .inl (fun _ => 0))), ((wo + 1 + 5), .inl (kI, 80, .inl (fun _ => 0))), ((wo + 1 + 6), .inl (kI, 80, .inl (fun _ => 0))), ((wo + 1 + 7), .inl (kI, 80, .inl (fun _ => 0)))] H := by rw [ef12]; exact hP
            replace hD : va_D A [(cp, .inr (11, [.ref tp, .ref lb, .ref rd, .ref bk, .ref tn, .ref td, .ref rg, .ref dr])), (tn, .inr (10, [.ref ho, .ref sh, .ref gi, .ref wo])), (wo, .inl (kO, 8, .inr (.inr (.inr (.inr (fun j => if j < 8 then some (wo + 1 + j) else none)))))), ((wo + 1 + 0), .inl (kI, 80, .inl f12)), ((wo + 1 + 1), .inl (kI, 80, .inl (fun _ => 0))), ((wo + 1 + 2), .inl (kI, 80, .inl (fun _ => 0))), ((wo + 1 + 3), .inl (kI, 80, .inl (fun _ => 0))), ((wo + 1 + 4), .inl (kI, 80, .inl (fun _ => 0))), ((wo + 1 + 5), .inl (kI, 80, .inl (fun _ => 0))), ((wo + 1 + 6), .inl (kI, 80, .inl (fun _ => 0))), ((wo + 1 + 7), .inl (kI, 80, .inl (fun _ => 0)))] := by rw [ef12]; exact hD
            clear ef12
            refine lv_iload hx hb dX11_worthTurn_67 (lv_at hl 0 rfl) ?_
            exact W.iret (v := 0) hx hb hr (fun t ht hW => ⟨⟨0, (), rfl, by first | exact Or.inl ⟨by first | rfl | exact xi_k (k := 0) (by decide) (by omega), by first | trivial | omega⟩ | exact Or.inr (⟨by first | rfl | exact xi_k (k := (-2)) (by decide) (by omega), by first | trivial | omega⟩), trivial⟩, hS.F ht⟩) hS.2.2 dX11_worthTurn_69
          · refine xw_v (v := .ref (wo + 1 + 1)) (by rw [xi_cl c10]; rfl) ?_
            refine lv_iload hx hb dX11_worthTurn_48 (lv_at hl 0 rfl) ?_
            refine va_iald (D := (dC, dI)) hx hb hK hP 4 1 rfl rfl (xi_in (by omega) (by omega)) dX11_worthTurn_50 ?_
            refine xw_i (v := 0) rfl ?_
            refine lv_istore (lv' := [(6, .int 0), (5, .int rh9), (0, .ref cp), (1, .int c), (2, .int a), (3, .int y), (4, .int k)]) hx hb dX11_worthTurn_51 hl (by decide) rfl (fun ls hl => ?_)
            refine lv_aload_n hx hb dX11_worthTurn_53 rfl (lv_at hl 2 rfl) ?_
            refine va_get (D := (dC, dI)) (ci := 11) (v := .ref tn) (C := RX11) (T := TX11) (N := 8) hx hb hts iX11 hown hK hP 0 rfl rfl 4 (by decide) (hts (.fieldLink RX11 44 "CapLeague" "turns" "LCapLeague$Turns;") (by decide +kernel)) (fun _ h9 => h9) rfl dX11_worthTurn_54 ?_
            refine va_get (D := (dC, dI)) (ci := 10) (v := .ref wo) (C := RX10) (T := TX10) (N := 4) hx hb hts iX10 hown hK hP 1 rfl rfl 3 (by decide) (hts (.fieldLink RX11 242 "CapLeague$Turns" "worths" "[[I") (by decide +kernel)) (fun _ h9 => h9) rfl dX11_worthTurn_57 ?_
            refine lv_iload_n hx hb dX11_worthTurn_60 rfl (lv_at hl 3 rfl) ?_
            refine xm_ald (D := (dC, dI)) hx hb hK hP 2 0 rfl rfl (xi_in (by omega) (by omega)) dX11_worthTurn_61 ?_
            have c13 : c.toInt = 1 := by omega
            refine xw_v (v := .ref (wo + 1 + 1)) (by rw [xi_cl c13]; rfl) ?_
            refine lv_iload hx hb dX11_worthTurn_62 (lv_at hl 1 rfl) ?_
            refine lv_iload hx hb dX11_worthTurn_64 (lv_at hl 6 rfl) ?_
            refine va_iast (D := (dC, dI)) hx hb hK hP hD hS 4 1 rfl rfl (xi_in (by omega) (by omega)) dX11_worthTurn_66 (fun H locs hP hD hS => ?_)
            obtain ⟨f14, ef14⟩ : ∃ g : Nat → Int32, g = upd (fun _ => 0) rh9.toNatClampNeg (k) := ⟨_, rfl⟩
            replace hP : va_P (dC, dI) vwCl [(cp, .inr (11, [.ref tp, .ref lb, .ref rd, .ref bk, .ref tn, .ref td, .ref rg, .ref dr])), (tn, .inr (10, [.ref ho, .ref sh, .ref gi, .ref wo])), (wo, .inl (kO, 8, .inr (.inr (.inr (.inr (fun j => if j < 8 then some (wo + 1 + j) else none)))))), ((wo + 1 + 0), .inl (kI, 80, .inl (fun _ => 0))), ((wo + 1 + 1), .inl (kI, 80, .inl f14)), ((wo + 1 + 2), .inl (kI, 80, .inl (fun _ => 0))), ((wo + 1 + 3), .inl (kI, 80, .inl (fun _ => 0))), ((wo + 1 + 4), .inl (kI, 80, .inl (fun _ => 0))), ((wo + 1 + 5), .inl (kI, 80, .inl (fun _ => 0))), ((wo + 1 + 6), .inl (kI, 80, .inl (fun _ => 0))), ((wo + 1 + 7), .inl (kI, 80, .inl (fun _ => 0)))] H := by rw [ef14]; exact hP
            replace hD : va_D A [(cp, .inr (11, [.ref tp, .ref lb, .ref rd, .ref bk, .ref tn, .ref td, .ref rg, .ref dr])), (tn, .inr (10, [.ref ho, .ref sh, .ref gi, .ref wo])), (wo, .inl (kO, 8, .inr (.inr (.inr (.inr (fun j => if j < 8 then some (wo + 1 + j) else none)))))), ((wo + 1 + 0), .inl (kI, 80, .inl (fun _ => 0))), ((wo + 1 + 1), .inl (kI, 80, .inl f14)), ((wo + 1 + 2), .inl (kI, 80, .inl (fun _ => 0))), ((wo + 1 + 3), .inl (kI, 80, .inl (fun _ => 0))), ((wo + 1 + 4), .inl (kI, 80, .inl (fun _ => 0))), ((wo + 1 + 5), .inl (kI, 80, .inl (fun _ => 0))), ((wo + 1 + 6), .inl (kI, 80, .inl (fun _ => 0))), ((wo + 1 + 7), .inl (kI, 80, .inl (fun _ => 0)))] := by rw [ef14]; exact hD
            clear ef14
            refine lv_iload hx hb dX11_worthTurn_67 (lv_at hl 0 rfl) ?_
            exact W.iret (v := 0) hx hb hr (fun t ht hW => ⟨⟨0, (), rfl, by first | exact Or.inl ⟨by first | rfl | exact xi_k (k := 0) (by decide) (by omega), by first | trivial | omega⟩ | exact Or.inr (⟨by first | rfl | exact xi_k (k := (-2)) (by decide) (by omega), by first | trivial | omega⟩), trivial⟩, hS.F ht⟩) hS.2.2 dX11_worthTurn_69
          · refine xw_v (v := .ref (wo + 1 + 2)) (by rw [xi_cl c10]; rfl) ?_
            refine lv_iload hx hb dX11_worthTurn_48 (lv_at hl 0 rfl) ?_
            refine va_iald (D := (dC, dI)) hx hb hK hP 5 1 rfl rfl (xi_in (by omega) (by omega)) dX11_worthTurn_50 ?_
            refine xw_i (v := 0) rfl ?_
            refine lv_istore (lv' := [(6, .int 0), (5, .int rh9), (0, .ref cp), (1, .int c), (2, .int a), (3, .int y), (4, .int k)]) hx hb dX11_worthTurn_51 hl (by decide) rfl (fun ls hl => ?_)
            refine lv_aload_n hx hb dX11_worthTurn_53 rfl (lv_at hl 2 rfl) ?_
            refine va_get (D := (dC, dI)) (ci := 11) (v := .ref tn) (C := RX11) (T := TX11) (N := 8) hx hb hts iX11 hown hK hP 0 rfl rfl 4 (by decide) (hts (.fieldLink RX11 44 "CapLeague" "turns" "LCapLeague$Turns;") (by decide +kernel)) (fun _ h9 => h9) rfl dX11_worthTurn_54 ?_
            refine va_get (D := (dC, dI)) (ci := 10) (v := .ref wo) (C := RX10) (T := TX10) (N := 4) hx hb hts iX10 hown hK hP 1 rfl rfl 3 (by decide) (hts (.fieldLink RX11 242 "CapLeague$Turns" "worths" "[[I") (by decide +kernel)) (fun _ h9 => h9) rfl dX11_worthTurn_57 ?_
            refine lv_iload_n hx hb dX11_worthTurn_60 rfl (lv_at hl 3 rfl) ?_
            refine xm_ald (D := (dC, dI)) hx hb hK hP 2 0 rfl rfl (xi_in (by omega) (by omega)) dX11_worthTurn_61 ?_
            have c15 : c.toInt = 2 := by omega
            refine xw_v (v := .ref (wo + 1 + 2)) (by rw [xi_cl c15]; rfl) ?_
            refine lv_iload hx hb dX11_worthTurn_62 (lv_at hl 1 rfl) ?_
            refine lv_iload hx hb dX11_worthTurn_64 (lv_at hl 6 rfl) ?_
            refine va_iast (D := (dC, dI)) hx hb hK hP hD hS 5 1 rfl rfl (xi_in (by omega) (by omega)) dX11_worthTurn_66 (fun H locs hP hD hS => ?_)
            obtain ⟨f16, ef16⟩ : ∃ g : Nat → Int32, g = upd (fun _ => 0) rh9.toNatClampNeg (k) := ⟨_, rfl⟩
            replace hP : va_P (dC, dI) vwCl [(cp, .inr (11, [.ref tp, .ref lb, .ref rd, .ref bk, .ref tn, .ref td, .ref rg, .ref dr])), (tn, .inr (10, [.ref ho, .ref sh, .ref gi, .ref wo])), (wo, .inl (kO, 8, .inr (.inr (.inr (.inr (fun j => if j < 8 then some (wo + 1 + j) else none)))))), ((wo + 1 + 0), .inl (kI, 80, .inl (fun _ => 0))), ((wo + 1 + 1), .inl (kI, 80, .inl (fun _ => 0))), ((wo + 1 + 2), .inl (kI, 80, .inl f16)), ((wo + 1 + 3), .inl (kI, 80, .inl (fun _ => 0))), ((wo + 1 + 4), .inl (kI, 80, .inl (fun _ => 0))), ((wo + 1 + 5), .inl (kI, 80, .inl (fun _ => 0))), ((wo + 1 + 6), .inl (kI, 80, .inl (fun _ => 0))), ((wo + 1 + 7), .inl (kI, 80, .inl (fun _ => 0)))] H := by rw [ef16]; exact hP
            replace hD : va_D A [(cp, .inr (11, [.ref tp, .ref lb, .ref rd, .ref bk, .ref tn, .ref td, .ref rg, .ref dr])), (tn, .inr (10, [.ref ho, .ref sh, .ref gi, .ref wo])), (wo, .inl (kO, 8, .inr (.inr (.inr (.inr (fun j => if j < 8 then some (wo + 1 + j) else none)))))), ((wo + 1 + 0), .inl (kI, 80, .inl (fun _ => 0))), ((wo + 1 + 1), .inl (kI, 80, .inl (fun _ => 0))), ((wo + 1 + 2), .inl (kI, 80, .inl f16)), ((wo + 1 + 3), .inl (kI, 80, .inl (fun _ => 0))), ((wo + 1 + 4), .inl (kI, 80, .inl (fun _ => 0))), ((wo + 1 + 5), .inl (kI, 80, .inl (fun _ => 0))), ((wo + 1 + 6), .inl (kI, 80, .inl (fun _ => 0))), ((wo + 1 + 7), .inl (kI, 80, .inl (fun _ => 0)))] := by rw [ef16]; exact hD
            clear ef16
            refine lv_iload hx hb dX11_worthTurn_67 (lv_at hl 0 rfl) ?_
            exact W.iret (v := 0) hx hb hr (fun t ht hW => ⟨⟨0, (), rfl, by first | exact Or.inl ⟨by first | rfl | exact xi_k (k := 0) (by decide) (by omega), by first | trivial | omega⟩ | exact Or.inr (⟨by first | rfl | exact xi_k (k := (-2)) (by decide) (by omega), by first | trivial | omega⟩), trivial⟩, hS.F ht⟩) hS.2.2 dX11_worthTurn_69
          · refine xw_v (v := .ref (wo + 1 + 3)) (by rw [xi_cl c10]; rfl) ?_
            refine lv_iload hx hb dX11_worthTurn_48 (lv_at hl 0 rfl) ?_
            refine va_iald (D := (dC, dI)) hx hb hK hP 6 1 rfl rfl (xi_in (by omega) (by omega)) dX11_worthTurn_50 ?_
            refine xw_i (v := 0) rfl ?_
            refine lv_istore (lv' := [(6, .int 0), (5, .int rh9), (0, .ref cp), (1, .int c), (2, .int a), (3, .int y), (4, .int k)]) hx hb dX11_worthTurn_51 hl (by decide) rfl (fun ls hl => ?_)
            refine lv_aload_n hx hb dX11_worthTurn_53 rfl (lv_at hl 2 rfl) ?_
            refine va_get (D := (dC, dI)) (ci := 11) (v := .ref tn) (C := RX11) (T := TX11) (N := 8) hx hb hts iX11 hown hK hP 0 rfl rfl 4 (by decide) (hts (.fieldLink RX11 44 "CapLeague" "turns" "LCapLeague$Turns;") (by decide +kernel)) (fun _ h9 => h9) rfl dX11_worthTurn_54 ?_
            refine va_get (D := (dC, dI)) (ci := 10) (v := .ref wo) (C := RX10) (T := TX10) (N := 4) hx hb hts iX10 hown hK hP 1 rfl rfl 3 (by decide) (hts (.fieldLink RX11 242 "CapLeague$Turns" "worths" "[[I") (by decide +kernel)) (fun _ h9 => h9) rfl dX11_worthTurn_57 ?_
            refine lv_iload_n hx hb dX11_worthTurn_60 rfl (lv_at hl 3 rfl) ?_
            refine xm_ald (D := (dC, dI)) hx hb hK hP 2 0 rfl rfl (xi_in (by omega) (by omega)) dX11_worthTurn_61 ?_
            have c17 : c.toInt = 3 := by omega
            refine xw_v (v := .ref (wo + 1 + 3)) (by rw [xi_cl c17]; rfl) ?_
            refine lv_iload hx hb dX11_worthTurn_62 (lv_at hl 1 rfl) ?_
            refine lv_iload hx hb dX11_worthTurn_64 (lv_at hl 6 rfl) ?_
            refine va_iast (D := (dC, dI)) hx hb hK hP hD hS 6 1 rfl rfl (xi_in (by omega) (by omega)) dX11_worthTurn_66 (fun H locs hP hD hS => ?_)
            obtain ⟨f18, ef18⟩ : ∃ g : Nat → Int32, g = upd (fun _ => 0) rh9.toNatClampNeg (k) := ⟨_, rfl⟩
            replace hP : va_P (dC, dI) vwCl [(cp, .inr (11, [.ref tp, .ref lb, .ref rd, .ref bk, .ref tn, .ref td, .ref rg, .ref dr])), (tn, .inr (10, [.ref ho, .ref sh, .ref gi, .ref wo])), (wo, .inl (kO, 8, .inr (.inr (.inr (.inr (fun j => if j < 8 then some (wo + 1 + j) else none)))))), ((wo + 1 + 0), .inl (kI, 80, .inl (fun _ => 0))), ((wo + 1 + 1), .inl (kI, 80, .inl (fun _ => 0))), ((wo + 1 + 2), .inl (kI, 80, .inl (fun _ => 0))), ((wo + 1 + 3), .inl (kI, 80, .inl f18)), ((wo + 1 + 4), .inl (kI, 80, .inl (fun _ => 0))), ((wo + 1 + 5), .inl (kI, 80, .inl (fun _ => 0))), ((wo + 1 + 6), .inl (kI, 80, .inl (fun _ => 0))), ((wo + 1 + 7), .inl (kI, 80, .inl (fun _ => 0)))] H := by rw [ef18]; exact hP
            replace hD : va_D A [(cp, .inr (11, [.ref tp, .ref lb, .ref rd, .ref bk, .ref tn, .ref td, .ref rg, .ref dr])), (tn, .inr (10, [.ref ho, .ref sh, .ref gi, .ref wo])), (wo, .inl (kO, 8, .inr (.inr (.inr (.inr (fun j => if j < 8 then some (wo + 1 + j) else none)))))), ((wo + 1 + 0), .inl (kI, 80, .inl (fun _ => 0))), ((wo + 1 + 1), .inl (kI, 80, .inl (fun _ => 0))), ((wo + 1 + 2), .inl (kI, 80, .inl (fun _ => 0))), ((wo + 1 + 3), .inl (kI, 80, .inl f18)), ((wo + 1 + 4), .inl (kI, 80, .inl (fun _ => 0))), ((wo + 1 + 5), .inl (kI, 80, .inl (fun _ => 0))), ((wo + 1 + 6), .inl (kI, 80, .inl (fun _ => 0))), ((wo + 1 + 7), .inl (kI, 80, .inl (fun _ => 0)))] := by rw [ef18]; exact hD
            clear ef18
            refine lv_iload hx hb dX11_worthTurn_67 (lv_at hl 0 rfl) ?_
            exact W.iret (v := 0) hx hb hr (fun t ht hW => ⟨⟨0, (), rfl, by first | exact Or.inl ⟨by first | rfl | exact xi_k (k := 0) (by decide) (by omega), by first | trivial | omega⟩ | exact Or.inr (⟨by first | rfl | exact xi_k (k := (-2)) (by decide) (by omega), by first | trivial | omega⟩), trivial⟩, hS.F ht⟩) hS.2.2 dX11_worthTurn_69
          · refine xw_v (v := .ref (wo + 1 + 4)) (by rw [xi_cl c10]; rfl) ?_
            refine lv_iload hx hb dX11_worthTurn_48 (lv_at hl 0 rfl) ?_
            refine va_iald (D := (dC, dI)) hx hb hK hP 7 1 rfl rfl (xi_in (by omega) (by omega)) dX11_worthTurn_50 ?_
            refine xw_i (v := 0) rfl ?_
            refine lv_istore (lv' := [(6, .int 0), (5, .int rh9), (0, .ref cp), (1, .int c), (2, .int a), (3, .int y), (4, .int k)]) hx hb dX11_worthTurn_51 hl (by decide) rfl (fun ls hl => ?_)
            refine lv_aload_n hx hb dX11_worthTurn_53 rfl (lv_at hl 2 rfl) ?_
            refine va_get (D := (dC, dI)) (ci := 11) (v := .ref tn) (C := RX11) (T := TX11) (N := 8) hx hb hts iX11 hown hK hP 0 rfl rfl 4 (by decide) (hts (.fieldLink RX11 44 "CapLeague" "turns" "LCapLeague$Turns;") (by decide +kernel)) (fun _ h9 => h9) rfl dX11_worthTurn_54 ?_
            refine va_get (D := (dC, dI)) (ci := 10) (v := .ref wo) (C := RX10) (T := TX10) (N := 4) hx hb hts iX10 hown hK hP 1 rfl rfl 3 (by decide) (hts (.fieldLink RX11 242 "CapLeague$Turns" "worths" "[[I") (by decide +kernel)) (fun _ h9 => h9) rfl dX11_worthTurn_57 ?_
            refine lv_iload_n hx hb dX11_worthTurn_60 rfl (lv_at hl 3 rfl) ?_
            refine xm_ald (D := (dC, dI)) hx hb hK hP 2 0 rfl rfl (xi_in (by omega) (by omega)) dX11_worthTurn_61 ?_
            have c19 : c.toInt = 4 := by omega
            refine xw_v (v := .ref (wo + 1 + 4)) (by rw [xi_cl c19]; rfl) ?_
            refine lv_iload hx hb dX11_worthTurn_62 (lv_at hl 1 rfl) ?_
            refine lv_iload hx hb dX11_worthTurn_64 (lv_at hl 6 rfl) ?_
            refine va_iast (D := (dC, dI)) hx hb hK hP hD hS 7 1 rfl rfl (xi_in (by omega) (by omega)) dX11_worthTurn_66 (fun H locs hP hD hS => ?_)
            obtain ⟨f20, ef20⟩ : ∃ g : Nat → Int32, g = upd (fun _ => 0) rh9.toNatClampNeg (k) := ⟨_, rfl⟩
            replace hP : va_P (dC, dI) vwCl [(cp, .inr (11, [.ref tp, .ref lb, .ref rd, .ref bk, .ref tn, .ref td, .ref rg, .ref dr])), (tn, .inr (10, [.ref ho, .ref sh, .ref gi, .ref wo])), (wo, .inl (kO, 8, .inr (.inr (.inr (.inr (fun j => if j < 8 then some (wo + 1 + j) else none)))))), ((wo + 1 + 0), .inl (kI, 80, .inl (fun _ => 0))), ((wo + 1 + 1), .inl (kI, 80, .inl (fun _ => 0))), ((wo + 1 + 2), .inl (kI, 80, .inl (fun _ => 0))), ((wo + 1 + 3), .inl (kI, 80, .inl (fun _ => 0))), ((wo + 1 + 4), .inl (kI, 80, .inl f20)), ((wo + 1 + 5), .inl (kI, 80, .inl (fun _ => 0))), ((wo + 1 + 6), .inl (kI, 80, .inl (fun _ => 0))), ((wo + 1 + 7), .inl (kI, 80, .inl (fun _ => 0)))] H := by rw [ef20]; exact hP
            replace hD : va_D A [(cp, .inr (11, [.ref tp, .ref lb, .ref rd, .ref bk, .ref tn, .ref td, .ref rg, .ref dr])), (tn, .inr (10, [.ref ho, .ref sh, .ref gi, .ref wo])), (wo, .inl (kO, 8, .inr (.inr (.inr (.inr (fun j => if j < 8 then some (wo + 1 + j) else none)))))), ((wo + 1 + 0), .inl (kI, 80, .inl (fun _ => 0))), ((wo + 1 + 1), .inl (kI, 80, .inl (fun _ => 0))), ((wo + 1 + 2), .inl (kI, 80, .inl (fun _ => 0))), ((wo + 1 + 3), .inl (kI, 80, .inl (fun _ => 0))), ((wo + 1 + 4), .inl (kI, 80, .inl f20)), ((wo + 1 + 5), .inl (kI, 80, .inl (fun _ => 0))), ((wo + 1 + 6), .inl (kI, 80, .inl (fun _ => 0))), ((wo + 1 + 7), .inl (kI, 80, .inl (fun _ => 0)))] := by rw [ef20]; exact hD
            clear ef20
            refine lv_iload hx hb dX11_worthTurn_67 (lv_at hl 0 rfl) ?_
            exact W.iret (v := 0) hx hb hr (fun t ht hW => ⟨⟨0, (), rfl, by first | exact Or.inl ⟨by first | rfl | exact xi_k (k := 0) (by decide) (by omega), by first | trivial | omega⟩ | exact Or.inr (⟨by first | rfl | exact xi_k (k := (-2)) (by decide) (by omega), by first | trivial | omega⟩), trivial⟩, hS.F ht⟩) hS.2.2 dX11_worthTurn_69
          · refine xw_v (v := .ref (wo + 1 + 5)) (by rw [xi_cl c10]; rfl) ?_
            refine lv_iload hx hb dX11_worthTurn_48 (lv_at hl 0 rfl) ?_
            refine va_iald (D := (dC, dI)) hx hb hK hP 8 1 rfl rfl (xi_in (by omega) (by omega)) dX11_worthTurn_50 ?_
            refine xw_i (v := 0) rfl ?_
            refine lv_istore (lv' := [(6, .int 0), (5, .int rh9), (0, .ref cp), (1, .int c), (2, .int a), (3, .int y), (4, .int k)]) hx hb dX11_worthTurn_51 hl (by decide) rfl (fun ls hl => ?_)
            refine lv_aload_n hx hb dX11_worthTurn_53 rfl (lv_at hl 2 rfl) ?_
            refine va_get (D := (dC, dI)) (ci := 11) (v := .ref tn) (C := RX11) (T := TX11) (N := 8) hx hb hts iX11 hown hK hP 0 rfl rfl 4 (by decide) (hts (.fieldLink RX11 44 "CapLeague" "turns" "LCapLeague$Turns;") (by decide +kernel)) (fun _ h9 => h9) rfl dX11_worthTurn_54 ?_
            refine va_get (D := (dC, dI)) (ci := 10) (v := .ref wo) (C := RX10) (T := TX10) (N := 4) hx hb hts iX10 hown hK hP 1 rfl rfl 3 (by decide) (hts (.fieldLink RX11 242 "CapLeague$Turns" "worths" "[[I") (by decide +kernel)) (fun _ h9 => h9) rfl dX11_worthTurn_57 ?_
            refine lv_iload_n hx hb dX11_worthTurn_60 rfl (lv_at hl 3 rfl) ?_
            refine xm_ald (D := (dC, dI)) hx hb hK hP 2 0 rfl rfl (xi_in (by omega) (by omega)) dX11_worthTurn_61 ?_
            have c21 : c.toInt = 5 := by omega
            refine xw_v (v := .ref (wo + 1 + 5)) (by rw [xi_cl c21]; rfl) ?_
            refine lv_iload hx hb dX11_worthTurn_62 (lv_at hl 1 rfl) ?_
            refine lv_iload hx hb dX11_worthTurn_64 (lv_at hl 6 rfl) ?_
            refine va_iast (D := (dC, dI)) hx hb hK hP hD hS 8 1 rfl rfl (xi_in (by omega) (by omega)) dX11_worthTurn_66 (fun H locs hP hD hS => ?_)
            obtain ⟨f22, ef22⟩ : ∃ g : Nat → Int32, g = upd (fun _ => 0) rh9.toNatClampNeg (k) := ⟨_, rfl⟩
            replace hP : va_P (dC, dI) vwCl [(cp, .inr (11, [.ref tp, .ref lb, .ref rd, .ref bk, .ref tn, .ref td, .ref rg, .ref dr])), (tn, .inr (10, [.ref ho, .ref sh, .ref gi, .ref wo])), (wo, .inl (kO, 8, .inr (.inr (.inr (.inr (fun j => if j < 8 then some (wo + 1 + j) else none)))))), ((wo + 1 + 0), .inl (kI, 80, .inl (fun _ => 0))), ((wo + 1 + 1), .inl (kI, 80, .inl (fun _ => 0))), ((wo + 1 + 2), .inl (kI, 80, .inl (fun _ => 0))), ((wo + 1 + 3), .inl (kI, 80, .inl (fun _ => 0))), ((wo + 1 + 4), .inl (kI, 80, .inl (fun _ => 0))), ((wo + 1 + 5), .inl (kI, 80, .inl f22)), ((wo + 1 + 6), .inl (kI, 80, .inl (fun _ => 0))), ((wo + 1 + 7), .inl (kI, 80, .inl (fun _ => 0)))] H := by rw [ef22]; exact hP
            replace hD : va_D A [(cp, .inr (11, [.ref tp, .ref lb, .ref rd, .ref bk, .ref tn, .ref td, .ref rg, .ref dr])), (tn, .inr (10, [.ref ho, .ref sh, .ref gi, .ref wo])), (wo, .inl (kO, 8, .inr (.inr (.inr (.inr (fun j => if j < 8 then some (wo + 1 + j) else none)))))), ((wo + 1 + 0), .inl (kI, 80, .inl (fun _ => 0))), ((wo + 1 + 1), .inl (kI, 80, .inl (fun _ => 0))), ((wo + 1 + 2), .inl (kI, 80, .inl (fun _ => 0))), ((wo + 1 + 3), .inl (kI, 80, .inl (fun _ => 0))), ((wo + 1 + 4), .inl (kI, 80, .inl (fun _ => 0))), ((wo + 1 + 5), .inl (kI, 80, .inl f22)), ((wo + 1 + 6), .inl (kI, 80, .inl (fun _ => 0))), ((wo + 1 + 7), .inl (kI, 80, .inl (fun _ => 0)))] := by rw [ef22]; exact hD
            clear ef22
            refine lv_iload hx hb dX11_worthTurn_67 (lv_at hl 0 rfl) ?_
            exact W.iret (v := 0) hx hb hr (fun t ht hW => ⟨⟨0, (), rfl, by first | exact Or.inl ⟨by first | rfl | exact xi_k (k := 0) (by decide) (by omega), by first | trivial | omega⟩ | exact Or.inr (⟨by first | rfl | exact xi_k (k := (-2)) (by decide) (by omega), by first | trivial | omega⟩), trivial⟩, hS.F ht⟩) hS.2.2 dX11_worthTurn_69
          · refine xw_v (v := .ref (wo + 1 + 6)) (by rw [xi_cl c10]; rfl) ?_
            refine lv_iload hx hb dX11_worthTurn_48 (lv_at hl 0 rfl) ?_
            refine va_iald (D := (dC, dI)) hx hb hK hP 9 1 rfl rfl (xi_in (by omega) (by omega)) dX11_worthTurn_50 ?_
            refine xw_i (v := 0) rfl ?_
            refine lv_istore (lv' := [(6, .int 0), (5, .int rh9), (0, .ref cp), (1, .int c), (2, .int a), (3, .int y), (4, .int k)]) hx hb dX11_worthTurn_51 hl (by decide) rfl (fun ls hl => ?_)
            refine lv_aload_n hx hb dX11_worthTurn_53 rfl (lv_at hl 2 rfl) ?_
            refine va_get (D := (dC, dI)) (ci := 11) (v := .ref tn) (C := RX11) (T := TX11) (N := 8) hx hb hts iX11 hown hK hP 0 rfl rfl 4 (by decide) (hts (.fieldLink RX11 44 "CapLeague" "turns" "LCapLeague$Turns;") (by decide +kernel)) (fun _ h9 => h9) rfl dX11_worthTurn_54 ?_
            refine va_get (D := (dC, dI)) (ci := 10) (v := .ref wo) (C := RX10) (T := TX10) (N := 4) hx hb hts iX10 hown hK hP 1 rfl rfl 3 (by decide) (hts (.fieldLink RX11 242 "CapLeague$Turns" "worths" "[[I") (by decide +kernel)) (fun _ h9 => h9) rfl dX11_worthTurn_57 ?_
            refine lv_iload_n hx hb dX11_worthTurn_60 rfl (lv_at hl 3 rfl) ?_
            refine xm_ald (D := (dC, dI)) hx hb hK hP 2 0 rfl rfl (xi_in (by omega) (by omega)) dX11_worthTurn_61 ?_
            have c23 : c.toInt = 6 := by omega
            refine xw_v (v := .ref (wo + 1 + 6)) (by rw [xi_cl c23]; rfl) ?_
            refine lv_iload hx hb dX11_worthTurn_62 (lv_at hl 1 rfl) ?_
            refine lv_iload hx hb dX11_worthTurn_64 (lv_at hl 6 rfl) ?_
            refine va_iast (D := (dC, dI)) hx hb hK hP hD hS 9 1 rfl rfl (xi_in (by omega) (by omega)) dX11_worthTurn_66 (fun H locs hP hD hS => ?_)
            obtain ⟨f24, ef24⟩ : ∃ g : Nat → Int32, g = upd (fun _ => 0) rh9.toNatClampNeg (k) := ⟨_, rfl⟩
            replace hP : va_P (dC, dI) vwCl [(cp, .inr (11, [.ref tp, .ref lb, .ref rd, .ref bk, .ref tn, .ref td, .ref rg, .ref dr])), (tn, .inr (10, [.ref ho, .ref sh, .ref gi, .ref wo])), (wo, .inl (kO, 8, .inr (.inr (.inr (.inr (fun j => if j < 8 then some (wo + 1 + j) else none)))))), ((wo + 1 + 0), .inl (kI, 80, .inl (fun _ => 0))), ((wo + 1 + 1), .inl (kI, 80, .inl (fun _ => 0))), ((wo + 1 + 2), .inl (kI, 80, .inl (fun _ => 0))), ((wo + 1 + 3), .inl (kI, 80, .inl (fun _ => 0))), ((wo + 1 + 4), .inl (kI, 80, .inl (fun _ => 0))), ((wo + 1 + 5), .inl (kI, 80, .inl (fun _ => 0))), ((wo + 1 + 6), .inl (kI, 80, .inl f24)), ((wo + 1 + 7), .inl (kI, 80, .inl (fun _ => 0)))] H := by rw [ef24]; exact hP
            replace hD : va_D A [(cp, .inr (11, [.ref tp, .ref lb, .ref rd, .ref bk, .ref tn, .ref td, .ref rg, .ref dr])), (tn, .inr (10, [.ref ho, .ref sh, .ref gi, .ref wo])), (wo, .inl (kO, 8, .inr (.inr (.inr (.inr (fun j => if j < 8 then some (wo + 1 + j) else none)))))), ((wo + 1 + 0), .inl (kI, 80, .inl (fun _ => 0))), ((wo + 1 + 1), .inl (kI, 80, .inl (fun _ => 0))), ((wo + 1 + 2), .inl (kI, 80, .inl (fun _ => 0))), ((wo + 1 + 3), .inl (kI, 80, .inl (fun _ => 0))), ((wo + 1 + 4), .inl (kI, 80, .inl (fun _ => 0))), ((wo + 1 + 5), .inl (kI, 80, .inl (fun _ => 0))), ((wo + 1 + 6), .inl (kI, 80, .inl f24)), ((wo + 1 + 7), .inl (kI, 80, .inl (fun _ => 0)))] := by rw [ef24]; exact hD
            clear ef24
            refine lv_iload hx hb dX11_worthTurn_67 (lv_at hl 0 rfl) ?_
            exact W.iret (v := 0) hx hb hr (fun t ht hW => ⟨⟨0, (), rfl, by first | exact Or.inl ⟨by first | rfl | exact xi_k (k := 0) (by decide) (by omega), by first | trivial | omega⟩ | exact Or.inr (⟨by first | rfl | exact xi_k (k := (-2)) (by decide) (by omega), by first | trivial | omega⟩), trivial⟩, hS.F ht⟩) hS.2.2 dX11_worthTurn_69
          · refine xw_v (v := .ref (wo + 1 + 7)) (by rw [xi_cl c10]; rfl) ?_
            refine lv_iload hx hb dX11_worthTurn_48 (lv_at hl 0 rfl) ?_
            refine va_iald (D := (dC, dI)) hx hb hK hP 10 1 rfl rfl (xi_in (by omega) (by omega)) dX11_worthTurn_50 ?_
            refine xw_i (v := 0) rfl ?_
            refine lv_istore (lv' := [(6, .int 0), (5, .int rh9), (0, .ref cp), (1, .int c), (2, .int a), (3, .int y), (4, .int k)]) hx hb dX11_worthTurn_51 hl (by decide) rfl (fun ls hl => ?_)
            refine lv_aload_n hx hb dX11_worthTurn_53 rfl (lv_at hl 2 rfl) ?_
            refine va_get (D := (dC, dI)) (ci := 11) (v := .ref tn) (C := RX11) (T := TX11) (N := 8) hx hb hts iX11 hown hK hP 0 rfl rfl 4 (by decide) (hts (.fieldLink RX11 44 "CapLeague" "turns" "LCapLeague$Turns;") (by decide +kernel)) (fun _ h9 => h9) rfl dX11_worthTurn_54 ?_
            refine va_get (D := (dC, dI)) (ci := 10) (v := .ref wo) (C := RX10) (T := TX10) (N := 4) hx hb hts iX10 hown hK hP 1 rfl rfl 3 (by decide) (hts (.fieldLink RX11 242 "CapLeague$Turns" "worths" "[[I") (by decide +kernel)) (fun _ h9 => h9) rfl dX11_worthTurn_57 ?_
            refine lv_iload_n hx hb dX11_worthTurn_60 rfl (lv_at hl 3 rfl) ?_
            refine xm_ald (D := (dC, dI)) hx hb hK hP 2 0 rfl rfl (xi_in (by omega) (by omega)) dX11_worthTurn_61 ?_
            have c25 : c.toInt = 7 := by omega
            refine xw_v (v := .ref (wo + 1 + 7)) (by rw [xi_cl c25]; rfl) ?_
            refine lv_iload hx hb dX11_worthTurn_62 (lv_at hl 1 rfl) ?_
            refine lv_iload hx hb dX11_worthTurn_64 (lv_at hl 6 rfl) ?_
            refine va_iast (D := (dC, dI)) hx hb hK hP hD hS 10 1 rfl rfl (xi_in (by omega) (by omega)) dX11_worthTurn_66 (fun H locs hP hD hS => ?_)
            obtain ⟨f26, ef26⟩ : ∃ g : Nat → Int32, g = upd (fun _ => 0) rh9.toNatClampNeg (k) := ⟨_, rfl⟩
            replace hP : va_P (dC, dI) vwCl [(cp, .inr (11, [.ref tp, .ref lb, .ref rd, .ref bk, .ref tn, .ref td, .ref rg, .ref dr])), (tn, .inr (10, [.ref ho, .ref sh, .ref gi, .ref wo])), (wo, .inl (kO, 8, .inr (.inr (.inr (.inr (fun j => if j < 8 then some (wo + 1 + j) else none)))))), ((wo + 1 + 0), .inl (kI, 80, .inl (fun _ => 0))), ((wo + 1 + 1), .inl (kI, 80, .inl (fun _ => 0))), ((wo + 1 + 2), .inl (kI, 80, .inl (fun _ => 0))), ((wo + 1 + 3), .inl (kI, 80, .inl (fun _ => 0))), ((wo + 1 + 4), .inl (kI, 80, .inl (fun _ => 0))), ((wo + 1 + 5), .inl (kI, 80, .inl (fun _ => 0))), ((wo + 1 + 6), .inl (kI, 80, .inl (fun _ => 0))), ((wo + 1 + 7), .inl (kI, 80, .inl f26))] H := by rw [ef26]; exact hP
            replace hD : va_D A [(cp, .inr (11, [.ref tp, .ref lb, .ref rd, .ref bk, .ref tn, .ref td, .ref rg, .ref dr])), (tn, .inr (10, [.ref ho, .ref sh, .ref gi, .ref wo])), (wo, .inl (kO, 8, .inr (.inr (.inr (.inr (fun j => if j < 8 then some (wo + 1 + j) else none)))))), ((wo + 1 + 0), .inl (kI, 80, .inl (fun _ => 0))), ((wo + 1 + 1), .inl (kI, 80, .inl (fun _ => 0))), ((wo + 1 + 2), .inl (kI, 80, .inl (fun _ => 0))), ((wo + 1 + 3), .inl (kI, 80, .inl (fun _ => 0))), ((wo + 1 + 4), .inl (kI, 80, .inl (fun _ => 0))), ((wo + 1 + 5), .inl (kI, 80, .inl (fun _ => 0))), ((wo + 1 + 6), .inl (kI, 80, .inl (fun _ => 0))), ((wo + 1 + 7), .inl (kI, 80, .inl f26))] := by rw [ef26]; exact hD
            clear ef26
            refine lv_iload hx hb dX11_worthTurn_67 (lv_at hl 0 rfl) ?_
            exact W.iret (v := 0) hx hb hr (fun t ht hW => ⟨⟨0, (), rfl, by first | exact Or.inl ⟨by first | rfl | exact xi_k (k := 0) (by decide) (by omega), by first | trivial | omega⟩ | exact Or.inr (⟨by first | rfl | exact xi_k (k := (-2)) (by decide) (by omega), by first | trivial | omega⟩), trivial⟩, hS.F ht⟩) hS.2.2 dX11_worthTurn_69
        · skip
          refine lv_if_ne (tgt := 32) hx hb dX11_worthTurn_26 (by decide) (fun h => absurd (by decide) h) (fun _ => ?_)
          refine lv_bipush (v := (-2)) hx hb dX11_worthTurn_29 (by decide) ?_
          exact W.iret (v := (-2)) hx hb hr (fun t ht hW => ⟨⟨(-2), (), rfl, by first | exact Or.inl ⟨by first | rfl | exact xi_k (k := 0) (by decide) (by omega), by first | trivial | omega⟩ | exact Or.inr (⟨by first | rfl | exact xi_k (k := (-2)) (by decide) (by omega), by first | trivial | omega⟩), trivial⟩, hS.F ht⟩) hS.2.2 dX11_worthTurn_31
      · skip
        refine lv_if_eq (tgt := 29) hx hb dX11_worthTurn_18 (by decide) (fun _ => ?_) (fun h => absurd (by decide) h)
        refine lv_bipush (v := (-2)) hx hb dX11_worthTurn_29 (by decide) ?_
        exact W.iret (v := (-2)) hx hb hr (fun t ht hW => ⟨⟨(-2), (), rfl, by first | exact Or.inl ⟨by first | rfl | exact xi_k (k := 0) (by decide) (by omega), by first | trivial | omega⟩ | exact Or.inr (⟨by first | rfl | exact xi_k (k := (-2)) (by decide) (by omega), by first | trivial | omega⟩), trivial⟩, hS.F ht⟩) hS.2.2 dX11_worthTurn_31
    · skip
      refine lv_if_eq (tgt := 29) hx hb dX11_worthTurn_11 (by decide) (fun _ => ?_) (fun h => absurd (by decide) h)
      refine lv_bipush (v := (-2)) hx hb dX11_worthTurn_29 (by decide) ?_
      exact W.iret (v := (-2)) hx hb hr (fun t ht hW => ⟨⟨(-2), (), rfl, by first | exact Or.inl ⟨by first | rfl | exact xi_k (k := 0) (by decide) (by omega), by first | trivial | omega⟩ | exact Or.inr (⟨by first | rfl | exact xi_k (k := (-2)) (by decide) (by omega), by first | trivial | omega⟩), trivial⟩, hS.F ht⟩) hS.2.2 dX11_worthTurn_31
  · skip
    refine lv_if_eq (tgt := 29) hx hb dX11_worthTurn_4 (by decide) (fun _ => ?_) (fun h => absurd (by decide) h)
    refine lv_bipush (v := (-2)) hx hb dX11_worthTurn_29 (by decide) ?_
    exact W.iret (v := (-2)) hx hb hr (fun t ht hW => ⟨⟨(-2), (), rfl, by first | exact Or.inl ⟨by first | rfl | exact xi_k (k := 0) (by decide) (by omega), by first | trivial | omega⟩ | exact Or.inr (⟨by first | rfl | exact xi_k (k := (-2)) (by decide) (by omega), by first | trivial | omega⟩), trivial⟩, hS.F ht⟩) hS.2.2 dX11_worthTurn_31
