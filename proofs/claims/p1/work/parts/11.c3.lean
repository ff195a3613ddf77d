set_option maxHeartbeats 4000000 in
set_option maxRecDepth 100000 in
theorem cX3_of_ (l : Launch) (dC : Nat → ClassId) (dI : Nat → Nat → Nat) (ws : va_W) (tys : List (ClassId × FieldType)) {lb tx un : Nat} {ct : ClassId}  (p0 : Nat) (e0 : ws[p0]? = some (lb, .inr (3, [.ref un, .ref tx]))) (p1 : Nat) (e1 : ws[p1]? = some (tx, .inl (ct, 10, .inr (.inr (.inr (.inr (fun _ => none))))))) (t1 : Nat) (y1 : tys[t1]? = some (ct, (.object "CapLeague$Laws"))) (y : Int32) (y_t : Int) (h_y : y.toInt = y_t)  : Met l yX3_of wsX3_of ({ frames := 1, cells := 0, slots := 0, locals := 64 }) (va_Pc [.ref lb, .int y] (xR (dC, dI) tys ws)) (va_Sq (fun r => (r = some un ∧ True))) 0 0 (fun _ => False) := by
  refine Met.ofW (cc := cX3_of) (maxL := 3) (ret := (some (.object "CapLeague$Laws"))) (by decide) rfl ?_
  intro pr_ ev_ s m args below meth cd_ s₁ B hml hv
  obtain ⟨rfl, hE, hK, hP⟩ := hv
  have hx := B.exec
  have hb := B.bytes
  have hr := B.returns
  have hts := atoms_spec (ws := wsX3_of) B.pre
  have hown : s.vm.findClass RX3 = some m.cls := findClass_of_methodNamed B.named
  have hlocks := B.notSynchronized
  have iX3 : ∀ w ∈ u_ws RX3 TX3 2, w ∈ wsX3_of := by decide +kernel
  have hl := lv_entry ([.ref lb, .int y]) (n := 3) (Nat.le_of_ble_eq_true rfl)
  rw [lg_entry_eq]
  generalize (lg_sl ([.ref lb, .int y]) ++ List.replicate (3 - (lg_sl ([.ref lb, .int y])).length) Slot.unset).toArray = ls at hl ⊢
  have hl : lv_has ls 3 [(0, .ref lb), (1, .int y)] := hl
  have lo_y := xi_lo y
  have hi_y := xi_hi y
  refine lv_bipush (v := 9) hx hb dX3_of_0 (by decide) ?_
  refine lv_istore_n (lv' := [(2, .int 9), (0, .ref lb), (1, .int y)]) hx hb dX3_of_2 rfl hl (by decide) rfl (fun ls hl => ?_)
  obtain ⟨v1, ev1⟩ : ∃ z : Int32, z = 9 := ⟨_, rfl⟩
  replace hl : lv_has ls 3 [(2, .int v1), (0, .ref lb), (1, .int y)] := by rw [ev1]; exact lv_sub hl [0, 1, 2] rfl
  obtain ⟨n, hn, hm⟩ : ∃ n : Nat, v1.toInt = (n : Int) + -1 ∧ n ≤ 10 := ⟨10, by rw [ev1]; decide, by decide⟩
  clear ev1
  induction n generalizing v1 ls with
  | zero =>
    refine lv_iload_n hx hb dX3_of_3 rfl (lv_at hl 0 rfl) ?_
    refine lv_if_lt (tgt := 34) hx hb dX3_of_4 (by decide) (fun c2 => ?_) (fun h => absurd (xi_nlt h rfl (by decide) : 0 ≤ v1.toInt) (by omega))
    have ic2 := (xi_lt c2 rfl (by decide) : v1.toInt < 0)
    refine lv_aload_n hx hb dX3_of_34 rfl (lv_at hl 1 rfl) ?_
    refine va_get (D := (dC, dI)) (ci := 3) (v := .ref un) (C := RX3) (T := TX3) (N := 2) hx hb hts iX3 hown hK hP p0 e0 rfl 0 (by decide) (hts (.fieldLink RX3 12 "CapLeague$LawBook" "untold" "LCapLeague$Laws;") (by decide +kernel)) (fun _ h9 => h9) rfl dX3_of_35 ?_
    exact W.aret (v := .ref un) hx hb hr (Or.inl ⟨_, rfl⟩) (Or.inr ⟨_, rfl⟩) (fun t ht hW => ⟨some un, rfl, by first | exact ⟨by first | rfl, by first | trivial | omega⟩, ht⟩) (fun _ h => by cases h) dX3_of_38
  | succ n ih_3 =>
    refine lv_iload_n hx hb dX3_of_3 rfl (lv_at hl 0 rfl) ?_
    refine lv_if_lt (tgt := 34) hx hb dX3_of_4 (by decide) (fun h => absurd (xi_lt h rfl (by decide) : v1.toInt < 0) (by omega)) (fun c3 => ?_)
    have ic3 := (xi_nlt c3 rfl (by decide) : 0 ≤ v1.toInt)
    refine lv_iload_n hx hb dX3_of_7 rfl (lv_at hl 0 rfl) ?_
    refine lv_iload_n hx hb dX3_of_8 rfl (lv_at hl 2 rfl) ?_
    refine lv_icmp_gt (tgt := 28) hx hb dX3_of_9 (by decide) (fun c4 => ?_) (fun c4 => ?_)
    · have ic4 := (xi_lt c4 rfl rfl : y.toInt < v1.toInt)
      obtain ⟨v5, ev5⟩ : ∃ z : Int32, z = v1 + (-1) := ⟨_, rfl⟩
      have jv5 : v5.toInt = v1.toInt + (-1) := xi_add ev5 rfl (by decide) (by omega) (by omega)
      refine lv_iinc (v := v5) (lv' := [(2, .int v5), (0, .ref lb), (1, .int y)]) hx hb dX3_of_28 hl (k := 0) rfl (by rw [ev5]; rfl) (by decide) rfl (fun ls hl => ?_)
      refine lv_goto (tgt := 3) hx hb dX3_of_31 (by decide) ?_
      exact ih_3 _ _ (lv_sub hl [0, 1, 2] rfl) (by omega) (by omega)
    · have ic4 := (xi_nlt c4 rfl rfl : v1.toInt ≤ y.toInt)
      refine lv_aload_n hx hb dX3_of_12 rfl (lv_at hl 1 rfl) ?_
      refine va_get (D := (dC, dI)) (ci := 3) (v := .ref tx) (C := RX3) (T := TX3) (N := 2) hx hb hts iX3 hown hK hP p0 e0 rfl 1 (by decide) (hts (.fieldLink RX3 18 "CapLeague$LawBook" "texts" "[LCapLeague$Laws;") (by decide +kernel)) (fun _ h9 => h9) rfl dX3_of_13 ?_
      refine lv_iload_n hx hb dX3_of_16 rfl (lv_at hl 0 rfl) ?_
      refine va_aldq (D := (dC, dI)) hx hb hK hP p1 t1 e1 y1 (xi_in (by omega) (by omega)) dX3_of_17 ?_
      refine xw_v (v := .null) rfl ?_
      refine lv_ifnullN (tgt := 28) hx hb dX3_of_18 (by decide) ?_
      obtain ⟨v6, ev6⟩ : ∃ z : Int32, z = v1 + (-1) := ⟨_, rfl⟩
      have jv6 : v6.toInt = v1.toInt + (-1) := xi_add ev6 rfl (by decide) (by omega) (by omega)
      refine lv_iinc (v := v6) (lv' := [(2, .int v6), (0, .ref lb), (1, .int y)]) hx hb dX3_of_28 hl (k := 0) rfl (by rw [ev6]; rfl) (by decide) rfl (fun ls hl => ?_)
      refine lv_goto (tgt := 3) hx hb dX3_of_31 (by decide) ?_
      exact ih_3 _ _ (lv_sub hl [0, 1, 2] rfl) (by omega) (by omega)
set_option maxHeartbeats 4000000 in
set_option maxRecDepth 100000 in
theorem cX0_lawsNow_ (l : Launch) (dC : Nat → ClassId) (dI : Nat → Nat → Nat) (ws : va_W) (tys : List (ClassId × FieldType)) {ac bk de fi lb pl su tx un : Nat} {ct : ClassId}  (p0 : Nat) (e0 : ws[p0]? = some (bk, .inr (0, [.ref lb, .ref pl, .int 0, .int 0, .ref de, .ref su, .ref fi, .int 0, .ref ac]))) (p1 : Nat) (e1 : ws[p1]? = some (lb, .inr (3, [.ref un, .ref tx]))) (p2 : Nat) (e2 : ws[p2]? = some (tx, .inl (ct, 10, .inr (.inr (.inr (.inr (fun _ => none))))))) (t2 : Nat) (y2 : tys[t2]? = some (ct, (.object "CapLeague$Laws")))   : Met l yX0_lawsNow wsX0_lawsNow ({ frames := 2, cells := 0, slots := 0, locals := 128 }) (va_Pc [.ref bk] (xR (dC, dI) tys ws)) (va_Sq (fun r => (r = some un ∧ True))) 0 0 (fun _ => False) := by
  refine Met.ofW (cc := cX0_lawsNow) (maxL := 1) (ret := (some (.object "CapLeague$Laws"))) (by decide) rfl ?_
  intro pr_ ev_ s m args below meth cd_ s₁ B hml hv
  obtain ⟨rfl, hE, hK, hP⟩ := hv
  have hx := B.exec
  have hb := B.bytes
  have hr := B.returns
  have hts := atoms_spec (ws := wsX0_lawsNow) B.pre
  have hown : s.vm.findClass RX0 = some m.cls := findClass_of_methodNamed B.named
  have hlocks := B.notSynchronized
  have iX0 : ∀ w ∈ u_ws RX0 TX0 9, w ∈ wsX0_lawsNow := by decide +kernel
  have hl := lv_entry ([.ref bk]) (n := 1) (Nat.le_of_ble_eq_true rfl)
  rw [lg_entry_eq]
  generalize (lg_sl ([.ref bk]) ++ List.replicate (1 - (lg_sl ([.ref bk])).length) Slot.unset).toArray = ls at hl ⊢
  have hl : lv_has ls 1 [(0, .ref bk)] := hl
  refine lv_aload_n hx hb dX0_lawsNow_0 rfl (lv_at hl 0 rfl) ?_
  refine va_get (D := (dC, dI)) (ci := 0) (v := .ref lb) (C := RX0) (T := TX0) (N := 9) hx hb hts iX0 hown hK hP p0 e0 rfl 0 (by decide) (hts (.fieldLink RX0 33 "CapLeague$Books" "lawBook" "LCapLeague$LawBook;") (by decide +kernel)) (fun _ h9 => h9) rfl dX0_lawsNow_1 ?_
  refine lv_aload_n hx hb dX0_lawsNow_4 rfl (lv_at hl 0 rfl) ?_
  refine va_get (D := (dC, dI)) (ci := 0) (v := .int 0) (C := RX0) (T := TX0) (N := 9) hx hb hts iX0 hown hK hP p0 e0 rfl 3 (by decide) (hts (.fieldLink RX0 37 "CapLeague$Books" "clock" "I") (by decide +kernel)) (fun _ h9 => h9) rfl dX0_lawsNow_5 ?_
  refine va_csq (W.runV (As := [.int 0]) (rest := []) ⟨hx, hb, hml, hown, hts⟩ (cX3_of_ l dC dI ws tys p1 e1 p2 e2 t2 y2 0 (0) (by decide)) (cwV 1 hts gX0_lawsNow_X3_of rfl rfl rfl (by decide +kernel) ⟨Nat.le_of_ble_eq_true rfl, Nat.le_of_ble_eq_true rfl⟩) ⟨xR_blind _ _ _ _, va_recv hK hP (ci := 3) (q0 := p1) rfl e1, xR_pre _ hE hK hP⟩ rfl rfl hl.1 rfl (lv_room (Nat.le_of_ble_eq_true rfl)) dX0_lawsNow_8 ⟨Nat.le_of_ble_eq_true rfl, Nat.le_of_ble_eq_true rfl⟩) (fun rh1 h1 => ?_)
  obtain ⟨rfl, h1⟩ := h1
  refine xw_v (v := .ref un) rfl ?_
  exact W.aret (v := .ref un) hx hb hr (Or.inl ⟨_, rfl⟩) (Or.inr ⟨_, rfl⟩) (fun t ht hW => ⟨some un, rfl, by first | exact ⟨by first | rfl, by first | trivial | omega⟩, ht⟩) (fun _ h => by cases h) dX0_lawsNow_11
set_option maxHeartbeats 4000000 in
set_option maxRecDepth 100000 in
theorem aX_fault (l : Launch) (dC : Nat → ClassId) (dI : Nat → Nat → Nat) (ws : va_W) (tys : List (ClassId × FieldType)) {bk cp dr lb lr rd rg td tn tp : Nat}  (p0 : Nat) (e0 : ws[p0]? = some (cp, .inr (11, [.ref tp, .ref lb, .ref rd, .ref bk, .ref tn, .ref td, .ref rg, .ref dr]))) (p1 : Nat) (e1 : ws[p1]? = some (rd, .inr (4, [.ref tp, .ref lr, .int 0, .int (-1), .int 0, .int 0, .int 0, .int 0, .int 0]))) (q : Int32) (q_t : Int) (h_q : q.toInt = q_t)  : Met l yX11_fault wsX11_fault ({ frames := 1, cells := 0, slots := 0, locals := 64 }) (va_Pc [.ref cp, .int q] (xR (dC, dI) tys ws)) (vp_Si (fun r => (r = 0 ∧ q_t = 0) ∨ (r = (-1) ∧ q_t ≠ 0))) 0 0 (fun _ => False) := by
  refine Met.ofW (cc := cX11_fault) (maxL := 2) (ret := (some .int)) (by decide) rfl ?_
  intro pr_ ev_ s m args below meth cd_ s₁ B hml hv
  obtain ⟨rfl, hE, hK, hP⟩ := hv
  have hx := B.exec
  have hb := B.bytes
  have hr := B.returns
  have hts := atoms_spec (ws := wsX11_fault) B.pre
  have hown : s.vm.findClass RX11 = some m.cls := findClass_of_methodNamed B.named
  have hlocks := B.notSynchronized
  have iX11 : ∀ w ∈ u_ws RX11 TX11 8, w ∈ wsX11_fault := by decide +kernel
  have iX4 : ∀ w ∈ u_ws RX4 TX4 9, w ∈ wsX11_fault := by decide +kernel
  have hl := lv_entry ([.ref cp, .int q]) (n := 2) (Nat.le_of_ble_eq_true rfl)
  rw [lg_entry_eq]
  generalize (lg_sl ([.ref cp, .int q]) ++ List.replicate (2 - (lg_sl ([.ref cp, .int q])).length) Slot.unset).toArray = ls at hl ⊢
  have hl : lv_has ls 2 [(0, .ref cp), (1, .int q)] := hl
  have lo_q := xi_lo q
  have hi_q := xi_hi q
  refine lv_iload_n hx hb dX11_fault_0 rfl (lv_at hl 1 rfl) ?_
  refine lv_if_ne (tgt := 12) hx hb dX11_fault_1 (by decide) (fun c1 => ?_) (fun c1 => ?_)
  · have ic1 := (xi_ne c1 rfl (by decide) : q.toInt ≠ 0)
    refine lv_iload_n hx hb dX11_fault_12 rfl (lv_at hl 1 rfl) ?_
    refine lv_iconst (v := 1) hx hb dX11_fault_13 (by decide) ?_
    refine lv_icmp_ne (tgt := 27) hx hb dX11_fault_14 (by decide) (fun c2 => ?_) (fun c2 => ?_)
    · have ic2 := (xi_ne c2 rfl (by decide) : q.toInt ≠ 1)
      refine lv_iconst (v := (-1)) hx hb dX11_fault_27 (by decide) ?_
      exact W.iret (v := (-1)) hx hb hr (fun t ht hW => ⟨(-1), rfl, by first | exact Or.inl ⟨by first | rfl | exact xi_k (k := 0) (by decide) (by omega), by first | trivial | omega⟩ | exact Or.inr (⟨by first | rfl | exact xi_k (k := (-1)) (by decide) (by omega), by first | trivial | omega⟩), ht⟩) (fun _ h => by cases h) dX11_fault_28
    · have ic2 := (xi_eq c2 rfl (by decide) : q.toInt = 1)
      refine lv_aload_n hx hb dX11_fault_17 rfl (lv_at hl 0 rfl) ?_
      refine va_get (D := (dC, dI)) (ci := 11) (v := .ref rd) (C := RX11) (T := TX11) (N := 8) hx hb hts iX11 hown hK hP p0 e0 rfl 2 (by decide) (hts (.fieldLink RX11 28 "CapLeague" "reader" "LCapLeague$LawReader;") (by decide +kernel)) (fun _ h9 => h9) rfl dX11_fault_18 ?_
      refine va_get (D := (dC, dI)) (ci := 4) (v := .int (-1)) (C := RX4) (T := TX4) (N := 9) hx hb hts iX4 hown hK hP p1 e1 rfl 3 (by decide) (hts (.fieldLink RX11 104 "CapLeague$LawReader" "faultPlace" "I") (by decide +kernel)) (fun _ h9 => h9) rfl dX11_fault_21 ?_
      refine lv_goto (tgt := 28) hx hb dX11_fault_24 (by decide) ?_
      exact W.iret (v := (-1)) hx hb hr (fun t ht hW => ⟨(-1), rfl, by first | exact Or.inl ⟨by first | rfl | exact xi_k (k := 0) (by decide) (by omega), by first | trivial | omega⟩ | exact Or.inr (⟨by first | rfl | exact xi_k (k := (-1)) (by decide) (by omega), by first | trivial | omega⟩), ht⟩) (fun _ h => by cases h) dX11_fault_28
  · have ic1 := (xi_eq c1 rfl (by decide) : q.toInt = 0)
    refine lv_aload_n hx hb dX11_fault_4 rfl (lv_at hl 0 rfl) ?_
    refine va_get (D := (dC, dI)) (ci := 11) (v := .ref rd) (C := RX11) (T := TX11) (N := 8) hx hb hts iX11 hown hK hP p0 e0 rfl 2 (by decide) (hts (.fieldLink RX11 28 "CapLeague" "reader" "LCapLeague$LawReader;") (by decide +kernel)) (fun _ h9 => h9) rfl dX11_fault_5 ?_
    refine va_get (D := (dC, dI)) (ci := 4) (v := .int 0) (C := RX4) (T := TX4) (N := 9) hx hb hts iX4 hown hK hP p1 e1 rfl 2 (by decide) (hts (.fieldLink RX11 101 "CapLeague$LawReader" "faultKind" "I") (by decide +kernel)) (fun _ h9 => h9) rfl dX11_fault_8 ?_
    exact W.iret (v := 0) hx hb hr (fun t ht hW => ⟨0, rfl, by first | exact Or.inl ⟨by first | rfl | exact xi_k (k := 0) (by decide) (by omega), by first | trivial | omega⟩ | exact Or.inr (⟨by first | rfl | exact xi_k (k := (-1)) (by decide) (by omega), by first | trivial | omega⟩), ht⟩) (fun _ h => by cases h) dX11_fault_11
set_option maxHeartbeats 4000000 in
set_option maxRecDepth 100000 in
theorem aX_wrong (l : Launch) (dC : Nat → ClassId) (dI : Nat → Nat → Nat) (ws : va_W) (tys : List (ClassId × FieldType)) {ac bk cp de dr fi lb pl rd rg su td tn tp : Nat}  (p0 : Nat) (e0 : ws[p0]? = some (cp, .inr (11, [.ref tp, .ref lb, .ref rd, .ref bk, .ref tn, .ref td, .ref rg, .ref dr]))) (p1 : Nat) (e1 : ws[p1]? = some (bk, .inr (0, [.ref lb, .ref pl, .int 0, .int 0, .ref de, .ref su, .ref fi, .int 0, .ref ac]))) (q : Int32) (q_t : Int) (h_q : q.toInt = q_t) (c : Int32) (c_t : Int) (h_c : c.toInt = c_t) (y : Int32) (y_t : Int) (h_y : y.toInt = y_t) (n : Int32) (n_t : Int) (h_n : n.toInt = n_t) (u : Int32) (u_t : Int) (h_u : u.toInt = u_t) (p_ : Int32) (p__t : Int) (h_p_ : p_.toInt = p__t) (b : Int32) (b_t : Int) (h_b : b.toInt = b_t)  : Met l yX11_wrong wsX11_wrong ({ frames := 2, cells := 0, slots := 0, locals := 128 }) (va_Pc [.ref cp, .int q, .int c, .int y, .int n, .int u, .int p_, .int b] (xR (dC, dI) tys ws)) (vp_Si (fun r => (r = (-2) ∧ True))) 0 0 (fun _ => False) := by
  refine Met.ofW (cc := cX11_wrong) (maxL := 9) (ret := (some .int)) (by decide) rfl ?_
  intro pr_ ev_ s m args below meth cd_ s₁ B hml hv
  obtain ⟨rfl, hE, hK, hP⟩ := hv
  have hx := B.exec
  have hb := B.bytes
  have hr := B.returns
  have hts := atoms_spec (ws := wsX11_wrong) B.pre
  have hown : s.vm.findClass RX11 = some m.cls := findClass_of_methodNamed B.named
  have hlocks := B.notSynchronized
  have iX11 : ∀ w ∈ u_ws RX11 TX11 8, w ∈ wsX11_wrong := by decide +kernel
  have hl := lv_entry ([.ref cp, .int q, .int c, .int y, .int n, .int u, .int p_, .int b]) (n := 9) (Nat.le_of_ble_eq_true rfl)
  rw [lg_entry_eq]
  generalize (lg_sl ([.ref cp, .int q, .int c, .int y, .int n, .int u, .int p_, .int b]) ++ List.replicate (9 - (lg_sl ([.ref cp, .int q, .int c, .int y, .int n, .int u, .int p_, .int b])).length) Slot.unset).toArray = ls at hl ⊢
  have hl : lv_has ls 9 [(0, .ref cp), (1, .int q), (2, .int c), (3, .int y), (4, .int n), (5, .int u), (6, .int p_), (7, .int b)] := hl
  have lo_q := xi_lo q
  have hi_q := xi_hi q
  have lo_c := xi_lo c
  have hi_c := xi_hi c
  have lo_y := xi_lo y
  have hi_y := xi_hi y
  have lo_n := xi_lo n
  have hi_n := xi_hi n
  have lo_u := xi_lo u
  have hi_u := xi_hi u
  have lo_p_ := xi_lo p_
  have hi_p_ := xi_hi p_
  have lo_b := xi_lo b
  have hi_b := xi_hi b
  refine lv_aload_n hx hb dX11_wrong_0 rfl (lv_at hl 0 rfl) ?_
  refine va_get (D := (dC, dI)) (ci := 11) (v := .ref bk) (C := RX11) (T := TX11) (N := 8) hx hb hts iX11 hown hK hP p0 e0 rfl 3 (by decide) (hts (.fieldLink RX11 37 "CapLeague" "books" "LCapLeague$Books;") (by decide +kernel)) (fun _ h9 => h9) rfl dX11_wrong_1 ?_
  refine lv_iload_n hx hb dX11_wrong_4 rfl (lv_at hl 1 rfl) ?_
  refine va_csq (W.runV (As := [.int q]) (rest := []) ⟨hx, hb, hml, hown, hts⟩ (cX0_pat l dC dI ws tys p1 e1 q (q.toInt) rfl) (cwV 1 hts gX11_wrong_X0_playerAt rfl rfl rfl (by decide +kernel) ⟨Nat.le_of_ble_eq_true rfl, Nat.le_of_ble_eq_true rfl⟩) ⟨xR_blind _ _ _ _, va_recv hK hP (ci := 0) (q0 := p1) rfl e1, xR_pre _ hE hK hP⟩ rfl rfl hl.1 rfl (lv_room (Nat.le_of_ble_eq_true rfl)) dX11_wrong_5 ⟨Nat.le_of_ble_eq_true rfl, Nat.le_of_ble_eq_true rfl⟩) (fun rh1 h1 => ?_)
  obtain ⟨rfl, h1⟩ := h1
  refine xw_v (v := .null) rfl ?_
  refine lv_astoreN (lv' := [(8, .null), (0, .ref cp), (1, .int q), (2, .int c), (3, .int y), (4, .int n), (5, .int u), (6, .int p_), (7, .int b)]) hx hb dX11_wrong_8 hl (by decide) rfl (fun ls hl => ?_)
  refine lv_aloadN hx hb dX11_wrong_10 (lv_at hl 0 rfl) ?_
  refine lv_ifnullN (tgt := 37) hx hb dX11_wrong_12 (by decide) ?_
  refine lv_bipush (v := (-2)) hx hb dX11_wrong_37 (by decide) ?_
  exact W.iret (v := (-2)) hx hb hr (fun t ht hW => ⟨(-2), rfl, by first | exact ⟨by first | rfl | exact xi_k (k := (-2)) (by decide) (by omega), by first | trivial | omega⟩, ht⟩) (fun _ h => by cases h) dX11_wrong_39
set_option maxHeartbeats 4000000 in
set_option maxRecDepth 100000 in
theorem aX_sign (l : Launch) (dC : Nat → ClassId) (dI : Nat → Nat → Nat) (ws : va_W) (tys : List (ClassId × FieldType)) {ac bk cp de dr fi lb pl rd rg su td tn tp : Nat}  (p0 : Nat) (e0 : ws[p0]? = some (cp, .inr (11, [.ref tp, .ref lb, .ref rd, .ref bk, .ref tn, .ref td, .ref rg, .ref dr]))) (p1 : Nat) (e1 : ws[p1]? = some (bk, .inr (0, [.ref lb, .ref pl, .int 0, .int 0, .ref de, .ref su, .ref fi, .int 0, .ref ac]))) (q : Int32) (q_t : Int) (h_q : q.toInt = q_t) (c : Int32) (c_t : Int) (h_c : c.toInt = c_t) (y : Int32) (y_t : Int) (h_y : y.toInt = y_t) (n : Int32) (n_t : Int) (h_n : n.toInt = n_t) (u : Int32) (u_t : Int) (h_u : u.toInt = u_t) (p_ : Int32) (p__t : Int) (h_p_ : p_.toInt = p__t) (b : Int32) (b_t : Int) (h_b : b.toInt = b_t)  : Met l yX11_sign wsX11_sign ({ frames := 2, cells := 0, slots := 0, locals := 128 }) (va_Pc [.ref cp, .int q, .int c, .int y, .int n, .int u, .int p_, .int b] (xR (dC, dI) tys ws)) (vp_Si (fun r => (r = (-2) ∧ True))) 0 0 (fun _ => False) := by
  refine Met.ofW (cc := cX11_sign) (maxL := 9) (ret := (some .int)) (by decide) rfl ?_
  intro pr_ ev_ s m args below meth cd_ s₁ B hml hv
  obtain ⟨rfl, hE, hK, hP⟩ := hv
  have hx := B.exec
  have hb := B.bytes
  have hr := B.returns
  have hts := atoms_spec (ws := wsX11_sign) B.pre
  have hown : s.vm.findClass RX11 = some m.cls := findClass_of_methodNamed B.named
  have hlocks := B.notSynchronized
  have iX11 : ∀ w ∈ u_ws RX11 TX11 8, w ∈ wsX11_sign := by decide +kernel
  have iX0 : ∀ w ∈ u_ws RX0 TX0 9, w ∈ wsX11_sign := by decide +kernel
  have hl := lv_entry ([.ref cp, .int q, .int c, .int y, .int n, .int u, .int p_, .int b]) (n := 9) (Nat.le_of_ble_eq_true rfl)
  rw [lg_entry_eq]
  generalize (lg_sl ([.ref cp, .int q, .int c, .int y, .int n, .int u, .int p_, .int b]) ++ List.replicate (9 - (lg_sl ([.ref cp, .int q, .int c, .int y, .int n, .int u, .int p_, .int b])).length) Slot.unset).toArray = ls at hl ⊢
  have hl : lv_has ls 9 [(0, .ref cp), (1, .int q), (2, .int c), (3, .int y), (4, .int n), (5, .int u), (6, .int p_), (7, .int b)] := hl
  have lo_q := xi_lo q
  have hi_q := xi_hi q
  have lo_c := xi_lo c
  have hi_c := xi_hi c
  have lo_y := xi_lo y
  have hi_y := xi_hi y
  have lo_n := xi_lo n
  have hi_n := xi_hi n
  have lo_u := xi_lo u
  have hi_u := xi_hi u
  have lo_p_ := xi_lo p_
  have hi_p_ := xi_hi p_
  have lo_b := xi_lo b
  have hi_b := xi_hi b
  refine lv_aload_n hx hb dX11_sign_0 rfl (lv_at hl 0 rfl) ?_
  refine va_get (D := (dC, dI)) (ci := 11) (v := .ref bk) (C := RX11) (T := TX11) (N := 8) hx hb hts iX11 hown hK hP p0 e0 rfl 3 (by decide) (hts (.fieldLink RX11 37 "CapLeague" "books" "LCapLeague$Books;") (by decide +kernel)) (fun _ h9 => h9) rfl dX11_sign_1 ?_
  refine lv_iload_n hx hb dX11_sign_4 rfl (lv_at hl 1 rfl) ?_
  refine va_csq (W.runV (As := [.int q]) (rest := []) ⟨hx, hb, hml, hown, hts⟩ (cX0_pat l dC dI ws tys p1 e1 q (q.toInt) rfl) (cwV 1 hts gX11_sign_X0_playerAt rfl rfl rfl (by decide +kernel) ⟨Nat.le_of_ble_eq_true rfl, Nat.le_of_ble_eq_true rfl⟩) ⟨xR_blind _ _ _ _, va_recv hK hP (ci := 0) (q0 := p1) rfl e1, xR_pre _ hE hK hP⟩ rfl rfl hl.1 rfl (lv_room (Nat.le_of_ble_eq_true rfl)) dX11_sign_5 ⟨Nat.le_of_ble_eq_true rfl, Nat.le_of_ble_eq_true rfl⟩) (fun rh1 h1 => ?_)
  obtain ⟨rfl, h1⟩ := h1
  refine xw_v (v := .null) rfl ?_
  refine lv_astoreN (lv' := [(8, .null), (0, .ref cp), (1, .int q), (2, .int c), (3, .int y), (4, .int n), (5, .int u), (6, .int p_), (7, .int b)]) hx hb dX11_sign_8 hl (by decide) rfl (fun ls hl => ?_)
  refine lv_aloadN hx hb dX11_sign_10 (lv_at hl 0 rfl) ?_
  refine lv_ifnullN (tgt := 37) hx hb dX11_sign_12 (by decide) ?_
  refine lv_bipush (v := (-2)) hx hb dX11_sign_37 (by decide) ?_
  exact W.iret (v := (-2)) hx hb hr (fun t ht hW => ⟨(-2), rfl, by first | exact ⟨by first | rfl | exact xi_k (k := (-2)) (by decide) (by omega), by first | trivial | omega⟩, ht⟩) (fun _ h => by cases h) dX11_sign_39
set_option maxHeartbeats 4000000 in
set_option maxRecDepth 100000 in
theorem aX_choose (l : Launch) (dC : Nat → ClassId) (dI : Nat → Nat → Nat) (ws : va_W) (tys : List (ClassId × FieldType)) {ac bk cp de dr fi lb pl rd rg su td tn tp : Nat}  (p0 : Nat) (e0 : ws[p0]? = some (cp, .inr (11, [.ref tp, .ref lb, .ref rd, .ref bk, .ref tn, .ref td, .ref rg, .ref dr]))) (p1 : Nat) (e1 : ws[p1]? = some (bk, .inr (0, [.ref lb, .ref pl, .int 0, .int 0, .ref de, .ref su, .ref fi, .int 0, .ref ac]))) (q : Int32) (q_t : Int) (h_q : q.toInt = q_t)  : Met l yX11_choose wsX11_choose ({ frames := 2, cells := 0, slots := 0, locals := 128 }) (va_Pc [.ref cp, .int q] (xR (dC, dI) tys ws)) (vp_Si (fun r => (r = (-2) ∧ True))) 0 0 (fun _ => False) := by
  refine Met.ofW (cc := cX11_choose) (maxL := 3) (ret := (some .int)) (by decide) rfl ?_
  intro pr_ ev_ s m args below meth cd_ s₁ B hml hv
  obtain ⟨rfl, hE, hK, hP⟩ := hv
  have hx := B.exec
  have hb := B.bytes
  have hr := B.returns
  have hts := atoms_spec (ws := wsX11_choose) B.pre
  have hown : s.vm.findClass RX11 = some m.cls := findClass_of_methodNamed B.named
  have hlocks := B.notSynchronized
  have iX11 : ∀ w ∈ u_ws RX11 TX11 8, w ∈ wsX11_choose := by decide +kernel
  have iX0 : ∀ w ∈ u_ws RX0 TX0 9, w ∈ wsX11_choose := by decide +kernel
  have hl := lv_entry ([.ref cp, .int q]) (n := 3) (Nat.le_of_ble_eq_true rfl)
  rw [lg_entry_eq]
  generalize (lg_sl ([.ref cp, .int q]) ++ List.replicate (3 - (lg_sl ([.ref cp, .int q])).length) Slot.unset).toArray = ls at hl ⊢
  have hl : lv_has ls 3 [(0, .ref cp), (1, .int q)] := hl
  have lo_q := xi_lo q
  have hi_q := xi_hi q
  refine lv_aload_n hx hb dX11_choose_0 rfl (lv_at hl 0 rfl) ?_
  refine va_get (D := (dC, dI)) (ci := 11) (v := .ref bk) (C := RX11) (T := TX11) (N := 8) hx hb hts iX11 hown hK hP p0 e0 rfl 3 (by decide) (hts (.fieldLink RX11 37 "CapLeague" "books" "LCapLeague$Books;") (by decide +kernel)) (fun _ h9 => h9) rfl dX11_choose_1 ?_
  refine lv_iload_n hx hb dX11_choose_4 rfl (lv_at hl 1 rfl) ?_
  refine va_csq (W.runV (As := [.int q]) (rest := []) ⟨hx, hb, hml, hown, hts⟩ (cX0_pat l dC dI ws tys p1 e1 q (q.toInt) rfl) (cwV 1 hts gX11_choose_X0_playerAt rfl rfl rfl (by decide +kernel) ⟨Nat.le_of_ble_eq_true rfl, Nat.le_of_ble_eq_true rfl⟩) ⟨xR_blind _ _ _ _, va_recv hK hP (ci := 0) (q0 := p1) rfl e1, xR_pre _ hE hK hP⟩ rfl rfl hl.1 rfl (lv_room (Nat.le_of_ble_eq_true rfl)) dX11_choose_5 ⟨Nat.le_of_ble_eq_true rfl, Nat.le_of_ble_eq_true rfl⟩) (fun rh1 h1 => ?_)
  obtain ⟨rfl, h1⟩ := h1
  refine xw_v (v := .null) rfl ?_
  refine lv_astore_nN (lv' := [(2, .null), (0, .ref cp), (1, .int q)]) hx hb dX11_choose_8 rfl hl (by decide) rfl (fun ls hl => ?_)
  refine lv_aload_nN hx hb dX11_choose_9 rfl (lv_at hl 0 rfl) ?_
  refine lv_ifnonnullN hx hb dX11_choose_10 ?_
  refine lv_bipush (v := (-2)) hx hb dX11_choose_13 (by decide) ?_
  exact W.iret (v := (-2)) hx hb hr (fun t ht hW => ⟨(-2), rfl, by first | exact ⟨by first | rfl | exact xi_k (k := (-2)) (by decide) (by omega), by first | trivial | omega⟩, ht⟩) (fun _ h => by cases h) dX11_choose_15
set_option maxHeartbeats 4000000 in
set_option maxRecDepth 100000 in
theorem aX_waive (l : Launch) (dC : Nat → ClassId) (dI : Nat → Nat → Nat) (ws : va_W) (tys : List (ClassId × FieldType)) {ac bk cp de dr fi lb pl rd rg su td tn tp : Nat}  (p0 : Nat) (e0 : ws[p0]? = some (cp, .inr (11, [.ref tp, .ref lb, .ref rd, .ref bk, .ref tn, .ref td, .ref rg, .ref dr]))) (p1 : Nat) (e1 : ws[p1]? = some (bk, .inr (0, [.ref lb, .ref pl, .int 0, .int 0, .ref de, .ref su, .ref fi, .int 0, .ref ac]))) (q : Int32) (q_t : Int) (h_q : q.toInt = q_t)  : Met l yX11_waive wsX11_waive ({ frames := 2, cells := 0, slots := 0, locals := 128 }) (va_Pc [.ref cp, .int q] (xR (dC, dI) tys ws)) (vp_Si (fun r => (r = (-2) ∧ True))) 0 0 (fun _ => False) := by
  refine Met.ofW (cc := cX11_waive) (maxL := 3) (ret := (some .int)) (by decide) rfl ?_
  intro pr_ ev_ s m args below meth cd_ s₁ B hml hv
  obtain ⟨rfl, hE, hK, hP⟩ := hv
  have hx := B.exec
  have hb := B.bytes
  have hr := B.returns
  have hts := atoms_spec (ws := wsX11_waive) B.pre
  have hown : s.vm.findClass RX11 = some m.cls := findClass_of_methodNamed B.named
  have hlocks := B.notSynchronized
  have iX11 : ∀ w ∈ u_ws RX11 TX11 8, w ∈ wsX11_waive := by decide +kernel
  have hl := lv_entry ([.ref cp, .int q]) (n := 3) (Nat.le_of_ble_eq_true rfl)
  rw [lg_entry_eq]
  generalize (lg_sl ([.ref cp, .int q]) ++ List.replicate (3 - (lg_sl ([.ref cp, .int q])).length) Slot.unset).toArray = ls at hl ⊢
  have hl : lv_has ls 3 [(0, .ref cp), (1, .int q)] := hl
  have lo_q := xi_lo q
  have hi_q := xi_hi q
  refine lv_aload_n hx hb dX11_waive_0 rfl (lv_at hl 0 rfl) ?_
  refine va_get (D := (dC, dI)) (ci := 11) (v := .ref bk) (C := RX11) (T := TX11) (N := 8) hx hb hts iX11 hown hK hP p0 e0 rfl 3 (by decide) (hts (.fieldLink RX11 37 "CapLeague" "books" "LCapLeague$Books;") (by decide +kernel)) (fun _ h9 => h9) rfl dX11_waive_1 ?_
  refine lv_iload_n hx hb dX11_waive_4 rfl (lv_at hl 1 rfl) ?_
  refine va_csq (W.runV (As := [.int q]) (rest := []) ⟨hx, hb, hml, hown, hts⟩ (cX0_pat l dC dI ws tys p1 e1 q (q.toInt) rfl) (cwV 1 hts gX11_waive_X0_playerAt rfl rfl rfl (by decide +kernel) ⟨Nat.le_of_ble_eq_true rfl, Nat.le_of_ble_eq_true rfl⟩) ⟨xR_blind _ _ _ _, va_recv hK hP (ci := 0) (q0 := p1) rfl e1, xR_pre _ hE hK hP⟩ rfl rfl hl.1 rfl (lv_room (Nat.le_of_ble_eq_true rfl)) dX11_waive_5 ⟨Nat.le_of_ble_eq_true rfl, Nat.le_of_ble_eq_true rfl⟩) (fun rh1 h1 => ?_)
  obtain ⟨rfl, h1⟩ := h1
  refine xw_v (v := .null) rfl ?_
  refine lv_astore_nN (lv' := [(2, .null), (0, .ref cp), (1, .int q)]) hx hb dX11_waive_8 rfl hl (by decide) rfl (fun ls hl => ?_)
  refine lv_aload_nN hx hb dX11_waive_9 rfl (lv_at hl 0 rfl) ?_
  refine lv_ifnonnullN hx hb dX11_waive_10 ?_
  refine lv_bipush (v := (-2)) hx hb dX11_waive_13 (by decide) ?_
  exact W.iret (v := (-2)) hx hb hr (fun t ht hW => ⟨(-2), rfl, by first | exact ⟨by first | rfl | exact xi_k (k := (-2)) (by decide) (by omega), by first | trivial | omega⟩, ht⟩) (fun _ h => by cases h) dX11_waive_15
set_option maxHeartbeats 4000000 in
set_option maxRecDepth 100000 in
theorem aX_hurt (l : Launch) (dC : Nat → ClassId) (dI : Nat → Nat → Nat) (ws : va_W) (tys : List (ClassId × FieldType)) {ac bk cp de dr fi lb pl rd rg su td tn tp : Nat}  (p0 : Nat) (e0 : ws[p0]? = some (cp, .inr (11, [.ref tp, .ref lb, .ref rd, .ref bk, .ref tn, .ref td, .ref rg, .ref dr]))) (p1 : Nat) (e1 : ws[p1]? = some (bk, .inr (0, [.ref lb, .ref pl, .int 0, .int 0, .ref de, .ref su, .ref fi, .int 0, .ref ac]))) (q : Int32) (q_t : Int) (h_q : q.toInt = q_t) (b : Int32) (b_t : Int) (h_b : b.toInt = b_t)  : Met l yX11_hurt wsX11_hurt ({ frames := 2, cells := 0, slots := 0, locals := 128 }) (va_Pc [.ref cp, .int q, .int b] (xR (dC, dI) tys ws)) (vp_Si (fun r => (r = (-2) ∧ True))) 0 0 (fun _ => False) := by
  refine Met.ofW (cc := cX11_hurt) (maxL := 5) (ret := (some .int)) (by decide) rfl ?_
  intro pr_ ev_ s m args below meth cd_ s₁ B hml hv
  obtain ⟨rfl, hE, hK, hP⟩ := hv
  have hx := B.exec
  have hb := B.bytes
  have hr := B.returns
  have hts := atoms_spec (ws := wsX11_hurt) B.pre
  have hown : s.vm.findClass RX11 = some m.cls := findClass_of_methodNamed B.named
  have hlocks := B.notSynchronized
  have iX11 : ∀ w ∈ u_ws RX11 TX11 8, w ∈ wsX11_hurt := by decide +kernel
  have hl := lv_entry ([.ref cp, .int q, .int b]) (n := 5) (Nat.le_of_ble_eq_true rfl)
  rw [lg_entry_eq]
  generalize (lg_sl ([.ref cp, .int q, .int b]) ++ List.replicate (5 - (lg_sl ([.ref cp, .int q, .int b])).length) Slot.unset).toArray = ls at hl ⊢
  have hl : lv_has ls 5 [(0, .ref cp), (1, .int q), (2, .int b)] := hl
  have lo_q := xi_lo q
  have hi_q := xi_hi q
  have lo_b := xi_lo b
  have hi_b := xi_hi b
  refine lv_aload_n hx hb dX11_hurt_0 rfl (lv_at hl 0 rfl) ?_
  refine va_get (D := (dC, dI)) (ci := 11) (v := .ref bk) (C := RX11) (T := TX11) (N := 8) hx hb hts iX11 hown hK hP p0 e0 rfl 3 (by decide) (hts (.fieldLink RX11 37 "CapLeague" "books" "LCapLeague$Books;") (by decide +kernel)) (fun _ h9 => h9) rfl dX11_hurt_1 ?_
  refine lv_iload_n hx hb dX11_hurt_4 rfl (lv_at hl 1 rfl) ?_
  refine va_csq (W.runV (As := [.int q]) (rest := []) ⟨hx, hb, hml, hown, hts⟩ (cX0_pat l dC dI ws tys p1 e1 q (q.toInt) rfl) (cwV 1 hts gX11_hurt_X0_playerAt rfl rfl rfl (by decide +kernel) ⟨Nat.le_of_ble_eq_true rfl, Nat.le_of_ble_eq_true rfl⟩) ⟨xR_blind _ _ _ _, va_recv hK hP (ci := 0) (q0 := p1) rfl e1, xR_pre _ hE hK hP⟩ rfl rfl hl.1 rfl (lv_room (Nat.le_of_ble_eq_true rfl)) dX11_hurt_5 ⟨Nat.le_of_ble_eq_true rfl, Nat.le_of_ble_eq_true rfl⟩) (fun rh1 h1 => ?_)
  obtain ⟨rfl, h1⟩ := h1
  refine xw_v (v := .null) rfl ?_
  refine lv_astore_nN (lv' := [(3, .null), (0, .ref cp), (1, .int q), (2, .int b)]) hx hb dX11_hurt_8 rfl hl (by decide) rfl (fun ls hl => ?_)
  refine lv_aload_nN hx hb dX11_hurt_9 rfl (lv_at hl 0 rfl) ?_
  refine lv_ifnonnullN hx hb dX11_hurt_10 ?_
  refine lv_bipush (v := (-2)) hx hb dX11_hurt_13 (by decide) ?_
  exact W.iret (v := (-2)) hx hb hr (fun t ht hW => ⟨(-2), rfl, by first | exact ⟨by first | rfl | exact xi_k (k := (-2)) (by decide) (by omega), by first | trivial | omega⟩, ht⟩) (fun _ h => by cases h) dX11_hurt_15
set_option maxHeartbeats 4000000 in
set_option maxRecDepth 100000 in
theorem aX_about (l : Launch) (dC : Nat → ClassId) (dI : Nat → Nat → Nat) (ws : va_W) (tys : List (ClassId × FieldType)) {ac bk cp de dr fi lb pl rd rg su td tn tp : Nat}  (p0 : Nat) (e0 : ws[p0]? = some (cp, .inr (11, [.ref tp, .ref lb, .ref rd, .ref bk, .ref tn, .ref td, .ref rg, .ref dr]))) (p1 : Nat) (e1 : ws[p1]? = some (bk, .inr (0, [.ref lb, .ref pl, .int 0, .int 0, .ref de, .ref su, .ref fi, .int 0, .ref ac]))) (q : Int32) (q_t : Int) (h_q : q.toInt = q_t) (w_ : Int32) (w__t : Int) (h_w_ : w_.toInt = w__t)  : Met l yX11_about wsX11_about ({ frames := 2, cells := 0, slots := 0, locals := 128 }) (va_Pc [.ref cp, .int q, .int w_] (xR (dC, dI) tys ws)) (vp_Si (fun r => (r = (-9) ∧ True))) 0 0 (fun _ => False) := by
  refine Met.ofW (cc := cX11_about) (maxL := 4) (ret := (some .int)) (by decide) rfl ?_
  intro pr_ ev_ s m args below meth cd_ s₁ B hml hv
  obtain ⟨rfl, hE, hK, hP⟩ := hv
  have hx := B.exec
  have hb := B.bytes
  have hr := B.returns
  have hts := atoms_spec (ws := wsX11_about) B.pre
  have hown : s.vm.findClass RX11 = some m.cls := findClass_of_methodNamed B.named
  have hlocks := B.notSynchronized
  have iX11 : ∀ w ∈ u_ws RX11 TX11 8, w ∈ wsX11_about := by decide +kernel
  have hl := lv_entry ([.ref cp, .int q, .int w_]) (n := 4) (Nat.le_of_ble_eq_true rfl)
  rw [lg_entry_eq]
  generalize (lg_sl ([.ref cp, .int q, .int w_]) ++ List.replicate (4 - (lg_sl ([.ref cp, .int q, .int w_])).length) Slot.unset).toArray = ls at hl ⊢
  have hl : lv_has ls 4 [(0, .ref cp), (1, .int q), (2, .int w_)] := hl
  have lo_q := xi_lo q
  have hi_q := xi_hi q
  have lo_w_ := xi_lo w_
  have hi_w_ := xi_hi w_
  refine lv_aload_n hx hb dX11_about_0 rfl (lv_at hl 0 rfl) ?_
  refine va_get (D := (dC, dI)) (ci := 11) (v := .ref bk) (C := RX11) (T := TX11) (N := 8) hx hb hts iX11 hown hK hP p0 e0 rfl 3 (by decide) (hts (.fieldLink RX11 37 "CapLeague" "books" "LCapLeague$Books;") (by decide +kernel)) (fun _ h9 => h9) rfl dX11_about_1 ?_
  refine lv_iload_n hx hb dX11_about_4 rfl (lv_at hl 1 rfl) ?_
  refine va_csq (W.runV (As := [.int q]) (rest := []) ⟨hx, hb, hml, hown, hts⟩ (cX0_pat l dC dI ws tys p1 e1 q (q.toInt) rfl) (cwV 1 hts gX11_about_X0_playerAt rfl rfl rfl (by decide +kernel) ⟨Nat.le_of_ble_eq_true rfl, Nat.le_of_ble_eq_true rfl⟩) ⟨xR_blind _ _ _ _, va_recv hK hP (ci := 0) (q0 := p1) rfl e1, xR_pre _ hE hK hP⟩ rfl rfl hl.1 rfl (lv_room (Nat.le_of_ble_eq_true rfl)) dX11_about_5 ⟨Nat.le_of_ble_eq_true rfl, Nat.le_of_ble_eq_true rfl⟩) (fun rh1 h1 => ?_)
  obtain ⟨rfl, h1⟩ := h1
  refine xw_v (v := .null) rfl ?_
  refine lv_astore_nN (lv' := [(3, .null), (0, .ref cp), (1, .int q), (2, .int w_)]) hx hb dX11_about_8 rfl hl (by decide) rfl (fun ls hl => ?_)
  refine lv_aload_nN hx hb dX11_about_9 rfl (lv_at hl 0 rfl) ?_
  refine lv_ifnonnullN hx hb dX11_about_10 ?_
  refine lv_bipush (v := (-9)) hx hb dX11_about_13 (by decide) ?_
  refine lv_goto (tgt := 23) hx hb dX11_about_15 (by decide) ?_
  exact W.iret (v := (-9)) hx hb hr (fun t ht hW => ⟨(-9), rfl, by first | exact ⟨by first | rfl | exact xi_k (k := (-9)) (by decide) (by omega), by first | trivial | omega⟩, ht⟩) (fun _ h => by cases h) dX11_about_23
set_option maxHeartbeats 4000000 in
set_option maxRecDepth 100000 in
theorem aX_give (l : Launch) (dC : Nat → ClassId) (dI : Nat → Nat → Nat) (ws : va_W) (tys : List (ClassId × FieldType)) {ac bk cp de dr fi lb pl rd rg su td tn tp : Nat}  (p0 : Nat) (e0 : ws[p0]? = some (cp, .inr (11, [.ref tp, .ref lb, .ref rd, .ref bk, .ref tn, .ref td, .ref rg, .ref dr]))) (p1 : Nat) (e1 : ws[p1]? = some (bk, .inr (0, [.ref lb, .ref pl, .int 0, .int 0, .ref de, .ref su, .ref fi, .int 0, .ref ac]))) (q : Int32) (q_t : Int) (h_q : q.toInt = q_t) (c : Int32) (c_t : Int) (h_c : c.toInt = c_t)  : Met l yX11_give wsX11_give ({ frames := 2, cells := 0, slots := 0, locals := 128 }) (va_Pc [.ref cp, .int q, .int c] (xR (dC, dI) tys ws)) (vp_Si (fun r => (r = (-2) ∧ True))) 0 0 (fun _ => False) := by
  refine Met.ofW (cc := cX11_give) (maxL := 4) (ret := (some .int)) (by decide) rfl ?_
  intro pr_ ev_ s m args below meth cd_ s₁ B hml hv
  obtain ⟨rfl, hE, hK, hP⟩ := hv
  have hx := B.exec
  have hb := B.bytes
  have hr := B.returns
  have hts := atoms_spec (ws := wsX11_give) B.pre
  have hown : s.vm.findClass RX11 = some m.cls := findClass_of_methodNamed B.named
  have hlocks := B.notSynchronized
  have iX11 : ∀ w ∈ u_ws RX11 TX11 8, w ∈ wsX11_give := by decide +kernel
  have hl := lv_entry ([.ref cp, .int q, .int c]) (n := 4) (Nat.le_of_ble_eq_true rfl)
  rw [lg_entry_eq]
  generalize (lg_sl ([.ref cp, .int q, .int c]) ++ List.replicate (4 - (lg_sl ([.ref cp, .int q, .int c])).length) Slot.unset).toArray = ls at hl ⊢
  have hl : lv_has ls 4 [(0, .ref cp), (1, .int q), (2, .int c)] := hl
  have lo_q := xi_lo q
  have hi_q := xi_hi q
  have lo_c := xi_lo c
  have hi_c := xi_hi c
  refine lv_aload_n hx hb dX11_give_0 rfl (lv_at hl 0 rfl) ?_
  refine va_get (D := (dC, dI)) (ci := 11) (v := .ref bk) (C := RX11) (T := TX11) (N := 8) hx hb hts iX11 hown hK hP p0 e0 rfl 3 (by decide) (hts (.fieldLink RX11 37 "CapLeague" "books" "LCapLeague$Books;") (by decide +kernel)) (fun _ h9 => h9) rfl dX11_give_1 ?_
  refine lv_iload_n hx hb dX11_give_4 rfl (lv_at hl 1 rfl) ?_
  refine va_csq (W.runV (As := [.int q]) (rest := []) ⟨hx, hb, hml, hown, hts⟩ (cX0_pat l dC dI ws tys p1 e1 q (q.toInt) rfl) (cwV 1 hts gX11_give_X0_playerAt rfl rfl rfl (by decide +kernel) ⟨Nat.le_of_ble_eq_true rfl, Nat.le_of_ble_eq_true rfl⟩) ⟨xR_blind _ _ _ _, va_recv hK hP (ci := 0) (q0 := p1) rfl e1, xR_pre _ hE hK hP⟩ rfl rfl hl.1 rfl (lv_room (Nat.le_of_ble_eq_true rfl)) dX11_give_5 ⟨Nat.le_of_ble_eq_true rfl, Nat.le_of_ble_eq_true rfl⟩) (fun rh1 h1 => ?_)
  obtain ⟨rfl, h1⟩ := h1
  refine xw_v (v := .null) rfl ?_
  refine lv_astore_nN (lv' := [(3, .null), (0, .ref cp), (1, .int q), (2, .int c)]) hx hb dX11_give_8 rfl hl (by decide) rfl (fun ls hl => ?_)
  refine lv_aload_nN hx hb dX11_give_9 rfl (lv_at hl 0 rfl) ?_
  refine lv_ifnullN (tgt := 20) hx hb dX11_give_10 (by decide) ?_
  refine lv_bipush (v := (-2)) hx hb dX11_give_20 (by decide) ?_
  exact W.iret (v := (-2)) hx hb hr (fun t ht hW => ⟨(-2), rfl, by first | exact ⟨by first | rfl | exact xi_k (k := (-2)) (by decide) (by omega), by first | trivial | omega⟩, ht⟩) (fun _ h => by cases h) dX11_give_22
set_option maxHeartbeats 4000000 in
set_option maxRecDepth 100000 in
theorem aX_check (l : Launch) (dC : Nat → ClassId) (dI : Nat → Nat → Nat) (ws : va_W) (tys : List (ClassId × FieldType)) {bk cg cp dr lb rd rg td tf th tn to tp ts tt : Nat}  (p0 : Nat) (e0 : ws[p0]? = some (cp, .inr (11, [.ref tp, .ref lb, .ref rd, .ref bk, .ref tn, .ref td, .ref rg, .ref dr]))) (p1 : Nat) (e1 : ws[p1]? = some (td, .inr (9, [.ref bk, .ref tn, .ref cg, .int 0, .int 0, .ref tt, .ref th, .ref tf, .ref to, .ref ts])))   : Met l yX11_check wsX11_check ({ frames := 2, cells := 0, slots := 0, locals := 128 }) (va_Pc [.ref cp] (xR (dC, dI) tys ws)) (vp_Si (fun r => (r = (-4) ∧ True))) 0 0 (fun _ => False) := by
  refine Met.ofW (cc := cX11_check) (maxL := 1) (ret := (some .int)) (by decide) rfl ?_
  intro pr_ ev_ s m args below meth cd_ s₁ B hml hv
  obtain ⟨rfl, hE, hK, hP⟩ := hv
  have hx := B.exec
  have hb := B.bytes
  have hr := B.returns
  have hts := atoms_spec (ws := wsX11_check) B.pre
  have hown : s.vm.findClass RX11 = some m.cls := findClass_of_methodNamed B.named
  have hlocks := B.notSynchronized
  have iX11 : ∀ w ∈ u_ws RX11 TX11 8, w ∈ wsX11_check := by decide +kernel
  have hl := lv_entry ([.ref cp]) (n := 1) (Nat.le_of_ble_eq_true rfl)
  rw [lg_entry_eq]
  generalize (lg_sl ([.ref cp]) ++ List.replicate (1 - (lg_sl ([.ref cp])).length) Slot.unset).toArray = ls at hl ⊢
  have hl : lv_has ls 1 [(0, .ref cp)] := hl
  refine lv_aload_n hx hb dX11_check_0 rfl (lv_at hl 0 rfl) ?_
  refine va_get (D := (dC, dI)) (ci := 11) (v := .ref td) (C := RX11) (T := TX11) (N := 8) hx hb hts iX11 hown hK hP p0 e0 rfl 5 (by decide) (hts (.fieldLink RX11 53 "CapLeague" "bargain" "LCapLeague$Trade;") (by decide +kernel)) (fun _ h9 => h9) rfl dX11_check_1 ?_
  refine vp_callSi (W.runV (As := []) (rest := []) ⟨hx, hb, hml, hown, hts⟩ (cX9_empty l dC dI ws tys p1 e1) (cwV 0 hts gX11_check_X9_isEmpty rfl rfl rfl (by decide +kernel) ⟨Nat.le_of_ble_eq_true rfl, Nat.le_of_ble_eq_true rfl⟩) ⟨xR_blind _ _ _ _, va_recv hK hP (ci := 9) (q0 := p1) rfl e1, xR_pre _ hE hK hP⟩ rfl rfl hl.1 rfl (lv_room (Nat.le_of_ble_eq_true rfl)) dX11_check_4 ⟨Nat.le_of_ble_eq_true rfl, Nat.le_of_ble_eq_true rfl⟩) (fun rh1 h1 => ?_)
  obtain ⟨rfl, h1⟩ := h1
  refine lv_if_eq (tgt := 15) hx hb dX11_check_7 (by decide) (fun h => absurd h (by decide)) (fun _ => ?_)
  refine lv_bipush (v := (-4)) hx hb dX11_check_10 (by decide) ?_
  refine lv_goto (tgt := 22) hx hb dX11_check_12 (by decide) ?_
  exact W.iret (v := (-4)) hx hb hr (fun t ht hW => ⟨(-4), rfl, by first | exact ⟨by first | rfl | exact xi_k (k := (-4)) (by decide) (by omega), by first | trivial | omega⟩, ht⟩) (fun _ h => by cases h) dX11_check_22
set_option maxHeartbeats 4000000 in
set_option maxRecDepth 100000 in
theorem aX_deal (l : Launch) (dC : Nat → ClassId) (dI : Nat → Nat → Nat) (ws : va_W) (tys : List (ClassId × FieldType)) {bk cg cp dr lb rd rg td tf th tn to tp ts tt : Nat}  (p0 : Nat) (e0 : ws[p0]? = some (cp, .inr (11, [.ref tp, .ref lb, .ref rd, .ref bk, .ref tn, .ref td, .ref rg, .ref dr]))) (p1 : Nat) (e1 : ws[p1]? = some (td, .inr (9, [.ref bk, .ref tn, .ref cg, .int 0, .int 0, .ref tt, .ref th, .ref tf, .ref to, .ref ts])))   : Met l yX11_deal wsX11_deal ({ frames := 2, cells := 0, slots := 0, locals := 128 }) (va_Pc [.ref cp] (xR (dC, dI) tys ws)) (vp_Si (fun r => (r = (-4) ∧ True))) 0 0 (fun _ => False) := by
  refine Met.ofW (cc := cX11_deal) (maxL := 1) (ret := (some .int)) (by decide) rfl ?_
  intro pr_ ev_ s m args below meth cd_ s₁ B hml hv
  obtain ⟨rfl, hE, hK, hP⟩ := hv
  have hx := B.exec
  have hb := B.bytes
  have hr := B.returns
  have hts := atoms_spec (ws := wsX11_deal) B.pre
  have hown : s.vm.findClass RX11 = some m.cls := findClass_of_methodNamed B.named
  have hlocks := B.notSynchronized
  have iX11 : ∀ w ∈ u_ws RX11 TX11 8, w ∈ wsX11_deal := by decide +kernel
  have hl := lv_entry ([.ref cp]) (n := 1) (Nat.le_of_ble_eq_true rfl)
  rw [lg_entry_eq]
  generalize (lg_sl ([.ref cp]) ++ List.replicate (1 - (lg_sl ([.ref cp])).length) Slot.unset).toArray = ls at hl ⊢
  have hl : lv_has ls 1 [(0, .ref cp)] := hl
  refine lv_aload_n hx hb dX11_deal_0 rfl (lv_at hl 0 rfl) ?_
  refine va_get (D := (dC, dI)) (ci := 11) (v := .ref td) (C := RX11) (T := TX11) (N := 8) hx hb hts iX11 hown hK hP p0 e0 rfl 5 (by decide) (hts (.fieldLink RX11 53 "CapLeague" "bargain" "LCapLeague$Trade;") (by decide +kernel)) (fun _ h9 => h9) rfl dX11_deal_1 ?_
  refine vp_callSi (W.runV (As := []) (rest := []) ⟨hx, hb, hml, hown, hts⟩ (cX9_empty l dC dI ws tys p1 e1) (cwV 0 hts gX11_deal_X9_isEmpty rfl rfl rfl (by decide +kernel) ⟨Nat.le_of_ble_eq_true rfl, Nat.le_of_ble_eq_true rfl⟩) ⟨xR_blind _ _ _ _, va_recv hK hP (ci := 9) (q0 := p1) rfl e1, xR_pre _ hE hK hP⟩ rfl rfl hl.1 rfl (lv_room (Nat.le_of_ble_eq_true rfl)) dX11_deal_4 ⟨Nat.le_of_ble_eq_true rfl, Nat.le_of_ble_eq_true rfl⟩) (fun rh1 h1 => ?_)
  obtain ⟨rfl, h1⟩ := h1
  refine lv_if_eq (tgt := 13) hx hb dX11_deal_7 (by decide) (fun h => absurd h (by decide)) (fun _ => ?_)
  refine lv_bipush (v := (-4)) hx hb dX11_deal_10 (by decide) ?_
  exact W.iret (v := (-4)) hx hb hr (fun t ht hW => ⟨(-4), rfl, by first | exact ⟨by first | rfl | exact xi_k (k := (-4)) (by decide) (by omega), by first | trivial | omega⟩, ht⟩) (fun _ h => by cases h) dX11_deal_12
set_option maxHeartbeats 4000000 in
set_option maxRecDepth 100000 in
theorem aX_gain (l : Launch) (dC : Nat → ClassId) (dI : Nat → Nat → Nat) (ws : va_W) (tys : List (ClassId × FieldType)) {bk cg cp dr lb rd rg td tf th tn to tp ts tt : Nat}  (p0 : Nat) (e0 : ws[p0]? = some (cp, .inr (11, [.ref tp, .ref lb, .ref rd, .ref bk, .ref tn, .ref td, .ref rg, .ref dr]))) (p1 : Nat) (e1 : ws[p1]? = some (td, .inr (9, [.ref bk, .ref tn, .ref cg, .int 0, .int 0, .ref tt, .ref th, .ref tf, .ref to, .ref ts]))) (c : Int32) (c_t : Int) (h_c : c.toInt = c_t)  : Met l yX11_gain wsX11_gain ({ frames := 2, cells := 0, slots := 0, locals := 128 }) (va_Pc [.ref cp, .int c] (xR (dC, dI) tys ws)) (vp_Si (fun r => (r = 0 ∧ 0 ≤ c_t ∧ c_t ≤ 7) ∨ (r = (-2000000000) ∧ ¬ (0 ≤ c_t ∧ c_t ≤ 7)))) 0 0 (fun _ => False) := by
  refine Met.ofW (cc := cX11_gain) (maxL := 2) (ret := (some .int)) (by decide) rfl ?_
  intro pr_ ev_ s m args below meth cd_ s₁ B hml hv
  obtain ⟨rfl, hE, hK, hP⟩ := hv
  have hx := B.exec
  have hb := B.bytes
  have hr := B.returns
  have hts := atoms_spec (ws := wsX11_gain) B.pre
  have hown : s.vm.findClass RX11 = some m.cls := findClass_of_methodNamed B.named
  have hlocks := B.notSynchronized
  have iX11 : ∀ w ∈ u_ws RX11 TX11 8, w ∈ wsX11_gain := by decide +kernel
  have hl := lv_entry ([.ref cp, .int c]) (n := 2) (Nat.le_of_ble_eq_true rfl)
  rw [lg_entry_eq]
  generalize (lg_sl ([.ref cp, .int c]) ++ List.replicate (2 - (lg_sl ([.ref cp, .int c])).length) Slot.unset).toArray = ls at hl ⊢
  have hl : lv_has ls 2 [(0, .ref cp), (1, .int c)] := hl
  have lo_c := xi_lo c
  have hi_c := xi_hi c
  refine lv_iload_n hx hb dX11_gain_0 rfl (lv_at hl 1 rfl) ?_
  refine vp_callSi (W.runS (As := [.int c]) (rest := []) ⟨hx, hb, hml, hown, hts⟩ (cX11_isClub_ l dC dI ws tys c (c.toInt) rfl) (va_cwS 1 hts gX11_gain_X11_isClub rfl rfl rfl (by decide +kernel) ⟨Nat.le_of_ble_eq_true rfl, Nat.le_of_ble_eq_true rfl⟩) ⟨xR_blind _ _ _ _, xR_pre _ hE hK hP⟩ rfl rfl hl.1 rfl (lv_room (Nat.le_of_ble_eq_true rfl)) dX11_gain_1 ⟨Nat.le_of_ble_eq_true rfl, Nat.le_of_ble_eq_true rfl⟩) (fun rh1 h1 => ?_)
  rcases h1 with ⟨rfl, h1⟩ | ⟨rfl, h1⟩
  · skip
    refine lv_if_eq (tgt := 18) hx hb dX11_gain_4 (by decide) (fun h => absurd h (by decide)) (fun _ => ?_)
    refine lv_aload_n hx hb dX11_gain_7 rfl (lv_at hl 0 rfl) ?_
    refine va_get (D := (dC, dI)) (ci := 11) (v := .ref td) (C := RX11) (T := TX11) (N := 8) hx hb hts iX11 hown hK hP p0 e0 rfl 5 (by decide) (hts (.fieldLink RX11 53 "CapLeague" "bargain" "LCapLeague$Trade;") (by decide +kernel)) (fun _ h9 => h9) rfl dX11_gain_8 ?_
    refine lv_iload_n hx hb dX11_gain_11 rfl (lv_at hl 1 rfl) ?_
    refine vp_callSi (W.runV (As := [.int c]) (rest := []) ⟨hx, hb, hml, hown, hts⟩ (cX9_gain l dC dI ws tys p1 e1 c (c.toInt) rfl) (cwV 1 hts gX11_gain_X9_gainOf rfl rfl rfl (by decide +kernel) ⟨Nat.le_of_ble_eq_true rfl, Nat.le_of_ble_eq_true rfl⟩) ⟨xR_blind _ _ _ _, va_recv hK hP (ci := 9) (q0 := p1) rfl e1, xR_pre _ hE hK hP⟩ rfl rfl hl.1 rfl (lv_room (Nat.le_of_ble_eq_true rfl)) dX11_gain_12 ⟨Nat.le_of_ble_eq_true rfl, Nat.le_of_ble_eq_true rfl⟩) (fun rh3 h3 => ?_)
    obtain ⟨rfl, h3⟩ := h3
    refine lv_goto (tgt := 20) hx hb dX11_gain_15 (by decide) ?_
    exact W.iret (v := 0) hx hb hr (fun t ht hW => ⟨0, rfl, by first | exact Or.inl ⟨by first | rfl | exact xi_k (k := 0) (by decide) (by omega), by first | trivial | omega⟩ | exact Or.inr (⟨by first | rfl | exact xi_k (k := (-2000000000)) (by decide) (by omega), by first | trivial | omega⟩), ht⟩) (fun _ h => by cases h) dX11_gain_20
  · skip
    refine lv_if_eq (tgt := 18) hx hb dX11_gain_4 (by decide) (fun _ => ?_) (fun h => absurd (by decide) h)
    refine lv_ldc (v := (-2000000000)) hx hb hown (hts (.constant RX11 232 (-2000000000)) (by decide +kernel)) dX11_gain_18 ?_
    exact W.iret (v := (-2000000000)) hx hb hr (fun t ht hW => ⟨(-2000000000), rfl, by first | exact Or.inl ⟨by first | rfl | exact xi_k (k := 0) (by decide) (by omega), by first | trivial | omega⟩ | exact Or.inr (⟨by first | rfl | exact xi_k (k := (-2000000000)) (by decide) (by omega), by first | trivial | omega⟩), ht⟩) (fun _ h => by cases h) dX11_gain_20
set_option maxHeartbeats 4000000 in
set_option maxRecDepth 100000 in
theorem aX_worth (l : Launch) (dC : Nat → ClassId) (dI : Nat → Nat → Nat) (ws : va_W) (tys : List (ClassId × FieldType)) {ac bk cp de dr fi lb pl rd rg su td tn tp : Nat}  (p0 : Nat) (e0 : ws[p0]? = some (cp, .inr (11, [.ref tp, .ref lb, .ref rd, .ref bk, .ref tn, .ref td, .ref rg, .ref dr]))) (p1 : Nat) (e1 : ws[p1]? = some (bk, .inr (0, [.ref lb, .ref pl, .int 0, .int 0, .ref de, .ref su, .ref fi, .int 0, .ref ac]))) (c : Int32) (c_t : Int) (h_c : c.toInt = c_t) (q : Int32) (q_t : Int) (h_q : q.toInt = q_t) (n : Int32) (n_t : Int) (h_n : n.toInt = n_t)  : Met l yX11_worth wsX11_worth ({ frames := 2, cells := 0, slots := 0, locals := 128 }) (va_Pc [.ref cp, .int c, .int q, .int n] (xR (dC, dI) tys ws)) (vp_Si (fun r => (r = (-2) ∧ True))) 0 0 (fun _ => False) := by
  refine Met.ofW (cc := cX11_worth) (maxL := 6) (ret := (some .int)) (by decide) rfl ?_
  intro pr_ ev_ s m args below meth cd_ s₁ B hml hv
  obtain ⟨rfl, hE, hK, hP⟩ := hv
  have hx := B.exec
  have hb := B.bytes
  have hr := B.returns
  have hts := atoms_spec (ws := wsX11_worth) B.pre
  have hown : s.vm.findClass RX11 = some m.cls := findClass_of_methodNamed B.named
  have hlocks := B.notSynchronized
  have iX11 : ∀ w ∈ u_ws RX11 TX11 8, w ∈ wsX11_worth := by decide +kernel
  have hl := lv_entry ([.ref cp, .int c, .int q, .int n]) (n := 6) (Nat.le_of_ble_eq_true rfl)
  rw [lg_entry_eq]
  generalize (lg_sl ([.ref cp, .int c, .int q, .int n]) ++ List.replicate (6 - (lg_sl ([.ref cp, .int c, .int q, .int n])).length) Slot.unset).toArray = ls at hl ⊢
  have hl : lv_has ls 6 [(0, .ref cp), (1, .int c), (2, .int q), (3, .int n)] := hl
  have lo_c := xi_lo c
  have hi_c := xi_hi c
  have lo_q := xi_lo q
  have hi_q := xi_hi q
  have lo_n := xi_lo n
  have hi_n := xi_hi n
  refine lv_aload_n hx hb dX11_worth_0 rfl (lv_at hl 0 rfl) ?_
  refine va_get (D := (dC, dI)) (ci := 11) (v := .ref bk) (C := RX11) (T := TX11) (N := 8) hx hb hts iX11 hown hK hP p0 e0 rfl 3 (by decide) (hts (.fieldLink RX11 37 "CapLeague" "books" "LCapLeague$Books;") (by decide +kernel)) (fun _ h9 => h9) rfl dX11_worth_1 ?_
  refine lv_iload_n hx hb dX11_worth_4 rfl (lv_at hl 2 rfl) ?_
  refine va_csq (W.runV (As := [.int q]) (rest := []) ⟨hx, hb, hml, hown, hts⟩ (cX0_pat l dC dI ws tys p1 e1 q (q.toInt) rfl) (cwV 1 hts gX11_worth_X0_playerAt rfl rfl rfl (by decide +kernel) ⟨Nat.le_of_ble_eq_true rfl, Nat.le_of_ble_eq_true rfl⟩) ⟨xR_blind _ _ _ _, va_recv hK hP (ci := 0) (q0 := p1) rfl e1, xR_pre _ hE hK hP⟩ rfl rfl hl.1 rfl (lv_room (Nat.le_of_ble_eq_true rfl)) dX11_worth_5 ⟨Nat.le_of_ble_eq_true rfl, Nat.le_of_ble_eq_true rfl⟩) (fun rh1 h1 => ?_)
  obtain ⟨rfl, h1⟩ := h1
  refine xw_v (v := .null) rfl ?_
  refine lv_astoreN (lv' := [(4, .null), (0, .ref cp), (1, .int c), (2, .int q), (3, .int n)]) hx hb dX11_worth_8 hl (by decide) rfl (fun ls hl => ?_)
  refine lv_aloadN hx hb dX11_worth_10 (lv_at hl 0 rfl) ?_
  refine lv_ifnullN (tgt := 29) hx hb dX11_worth_12 (by decide) ?_
  refine lv_bipush (v := (-2)) hx hb dX11_worth_29 (by decide) ?_
  exact W.iret (v := (-2)) hx hb hr (fun t ht hW => ⟨(-2), rfl, by first | exact ⟨by first | rfl | exact xi_k (k := (-2)) (by decide) (by omega), by first | trivial | omega⟩, ht⟩) (fun _ h => by cases h) dX11_worth_31
set_option maxHeartbeats 4000000 in
set_option maxRecDepth 100000 in
theorem aX_ringed (l : Launch) (dC : Nat → ClassId) (dI : Nat → Nat → Nat) (ws : va_W) (tys : List (ClassId × FieldType)) {bk co cp cr ct cw dr ga lb li pa pt pw rd rg sr td tn tp : Nat}  (p0 : Nat) (e0 : ws[p0]? = some (cp, .inr (11, [.ref tp, .ref lb, .ref rd, .ref bk, .ref tn, .ref td, .ref rg, .ref dr]))) (p1 : Nat) (e1 : ws[p1]? = some (rg, .inr (7, [.ref bk, .ref cr, .ref li, .ref sr, .ref pa, .ref co, .ref ga, .ref pt, .ref ct, .int 0, .int 0, .ref cw, .ref pw]))) (q : Int32) (q_t : Int) (h_q : q.toInt = q_t)  : Met l yX11_ringed wsX11_ringed ({ frames := 2, cells := 0, slots := 0, locals := 128 }) (va_Pc [.ref cp, .int q] (xR (dC, dI) tys ws)) (vp_Si (fun r => (r = (-1) ∧ True))) 0 0 (fun _ => False) := by
  refine Met.ofW (cc := cX11_ringed) (maxL := 2) (ret := (some .int)) (by decide) rfl ?_
  intro pr_ ev_ s m args below meth cd_ s₁ B hml hv
  obtain ⟨rfl, hE, hK, hP⟩ := hv
  have hx := B.exec
  have hb := B.bytes
  have hr := B.returns
  have hts := atoms_spec (ws := wsX11_ringed) B.pre
  have hown : s.vm.findClass RX11 = some m.cls := findClass_of_methodNamed B.named
  have hlocks := B.notSynchronized
  have iX11 : ∀ w ∈ u_ws RX11 TX11 8, w ∈ wsX11_ringed := by decide +kernel
  have hl := lv_entry ([.ref cp, .int q]) (n := 2) (Nat.le_of_ble_eq_true rfl)
  rw [lg_entry_eq]
  generalize (lg_sl ([.ref cp, .int q]) ++ List.replicate (2 - (lg_sl ([.ref cp, .int q])).length) Slot.unset).toArray = ls at hl ⊢
  have hl : lv_has ls 2 [(0, .ref cp), (1, .int q)] := hl
  have lo_q := xi_lo q
  have hi_q := xi_hi q
  refine lv_aload_n hx hb dX11_ringed_0 rfl (lv_at hl 0 rfl) ?_
  refine va_get (D := (dC, dI)) (ci := 11) (v := .ref rg) (C := RX11) (T := TX11) (N := 8) hx hb hts iX11 hown hK hP p0 e0 rfl 6 (by decide) (hts (.fieldLink RX11 62 "CapLeague" "rings" "LCapLeague$RingSearch;") (by decide +kernel)) (fun _ h9 => h9) rfl dX11_ringed_1 ?_
  refine lv_iload_n hx hb dX11_ringed_4 rfl (lv_at hl 1 rfl) ?_
  refine vp_callSi (W.runV (As := [.int q]) (rest := []) ⟨hx, hb, hml, hown, hts⟩ (rX7_fact l dC dI ws tys p1 e1 q (q.toInt) rfl) (cwV 1 hts gX11_ringed_X7_fact rfl rfl rfl (by decide +kernel) ⟨Nat.le_of_ble_eq_true rfl, Nat.le_of_ble_eq_true rfl⟩) ⟨xR_blind _ _ _ _, va_recv hK hP (ci := 7) (q0 := p1) rfl e1, xR_pre _ hE hK hP⟩ rfl rfl hl.1 rfl (lv_room (Nat.le_of_ble_eq_true rfl)) dX11_ringed_5 ⟨Nat.le_of_ble_eq_true rfl, Nat.le_of_ble_eq_true rfl⟩) (fun rh1 h1 => ?_)
  obtain ⟨rfl, h1⟩ := h1
  exact W.iret (v := (-1)) hx hb hr (fun t ht hW => ⟨(-1), rfl, by first | exact ⟨by first | rfl | exact xi_k (k := (-1)) (by decide) (by omega), by first | trivial | omega⟩, ht⟩) (fun _ h => by cases h) dX11_ringed_8
set_option maxHeartbeats 4000000 in
set_option maxRecDepth 100000 in
theorem aX_next (l : Launch) (dC : Nat → ClassId) (dI : Nat → Nat → Nat) (ws : va_W) (tys : List (ClassId × FieldType)) {ac bk cp de dn dr fi hv lb od pl ra rd rg su td tn tp : Nat} {cb : ClassId}  (p0 : Nat) (e0 : ws[p0]? = some (cp, .inr (11, [.ref tp, .ref lb, .ref rd, .ref bk, .ref tn, .ref td, .ref rg, .ref dr]))) (p1 : Nat) (e1 : ws[p1]? = some (bk, .inr (0, [.ref lb, .ref pl, .int 0, .int 0, .ref de, .ref su, .ref fi, .int 0, .ref ac]))) (p2 : Nat) (e2 : ws[p2]? = some (dr, .inr (2, [.ref ra, .int 0, .ref dn, .ref od, .ref hv, .long 0, .long 1]))) (p3 : Nat) (e3 : ws[p3]? = some (dn, .inl (cb, 10, .inl (fun _ => 0)))) (t3 : Nat) (y3 : tys[t3]? = some (cb, .boolean))   : Met l yX11_next wsX11_next ({ frames := 3, cells := 0, slots := 0, locals := 192 }) (va_Pc [.ref cp] (xR (dC, dI) tys ws)) (vp_Si (fun r => (r = (-4) ∧ True))) 0 0 (fun _ => False) := by
  refine Met.ofW (cc := cX11_next) (maxL := 1) (ret := (some .int)) (by decide) rfl ?_
  intro pr_ ev_ s m args below meth cd_ s₁ B hml hv
  obtain ⟨rfl, hE, hK, hP⟩ := hv
  have hx := B.exec
  have hb := B.bytes
  have hr := B.returns
  have hts := atoms_spec (ws := wsX11_next) B.pre
  have hown : s.vm.findClass RX11 = some m.cls := findClass_of_methodNamed B.named
  have hlocks := B.notSynchronized
  have iX11 : ∀ w ∈ u_ws RX11 TX11 8, w ∈ wsX11_next := by decide +kernel
  have iX0 : ∀ w ∈ u_ws RX0 TX0 9, w ∈ wsX11_next := by decide +kernel
  have iX2 : ∀ w ∈ u_ws RX2 TX2 7, w ∈ wsX11_next := by decide +kernel
  have hl := lv_entry ([.ref cp]) (n := 1) (Nat.le_of_ble_eq_true rfl)
  rw [lg_entry_eq]
  generalize (lg_sl ([.ref cp]) ++ List.replicate (1 - (lg_sl ([.ref cp])).length) Slot.unset).toArray = ls at hl ⊢
  have hl : lv_has ls 1 [(0, .ref cp)] := hl
  refine lv_aload_n hx hb dX11_next_0 rfl (lv_at hl 0 rfl) ?_
  refine va_get (D := (dC, dI)) (ci := 11) (v := .ref bk) (C := RX11) (T := TX11) (N := 8) hx hb hts iX11 hown hK hP p0 e0 rfl 3 (by decide) (hts (.fieldLink RX11 37 "CapLeague" "books" "LCapLeague$Books;") (by decide +kernel)) (fun _ h9 => h9) rfl dX11_next_1 ?_
  refine va_get (D := (dC, dI)) (ci := 0) (v := .int 0) (C := RX0) (T := TX0) (N := 9) hx hb hts iX0 hown hK hP p1 e1 rfl 3 (by decide) (hts (.fieldLink RX11 142 "CapLeague$Books" "clock" "I") (by decide +kernel)) (fun _ h9 => h9) rfl dX11_next_4 ?_
  refine lv_bipush (v := 9) hx hb dX11_next_7 (by decide) ?_
  refine lv_icmp_ge (tgt := 29) hx hb dX11_next_9 (by decide) (fun h => absurd h (by decide)) (fun _ => ?_)
  refine lv_aload_n hx hb dX11_next_12 rfl (lv_at hl 0 rfl) ?_
  refine va_get (D := (dC, dI)) (ci := 11) (v := .ref dr) (C := RX11) (T := TX11) (N := 8) hx hb hts iX11 hown hK hP p0 e0 rfl 7 (by decide) (hts (.fieldLink RX11 69 "CapLeague" "draft" "LCapLeague$Draft;") (by decide +kernel)) (fun _ h9 => h9) rfl dX11_next_13 ?_
  refine lv_aload_n hx hb dX11_next_16 rfl (lv_at hl 0 rfl) ?_
  refine va_get (D := (dC, dI)) (ci := 11) (v := .ref bk) (C := RX11) (T := TX11) (N := 8) hx hb hts iX11 hown hK hP p0 e0 rfl 3 (by decide) (hts (.fieldLink RX11 37 "CapLeague" "books" "LCapLeague$Books;") (by decide +kernel)) (fun _ h9 => h9) rfl dX11_next_17 ?_
  refine va_get (D := (dC, dI)) (ci := 0) (v := .int 0) (C := RX0) (T := TX0) (N := 9) hx hb hts iX0 hown hK hP p1 e1 rfl 3 (by decide) (hts (.fieldLink RX11 142 "CapLeague$Books" "clock" "I") (by decide +kernel)) (fun _ h9 => h9) rfl dX11_next_20 ?_
  refine vp_callSi (W.runV (As := [.int 0]) (rest := []) ⟨hx, hb, hml, hown, hts⟩ (cX2_drawn l dC dI ws tys p2 e2 p3 e3 t3 y3 0 (0) (by decide)) (cwV 1 hts gX11_next_X2_isDrawn rfl rfl rfl (by decide +kernel) ⟨Nat.le_of_ble_eq_true rfl, Nat.le_of_ble_eq_true rfl⟩) ⟨xR_blind _ _ _ _, va_recv hK hP (ci := 2) (q0 := p2) rfl e2, xR_pre _ hE hK hP⟩ rfl rfl hl.1 rfl (lv_room (Nat.le_of_ble_eq_true rfl)) dX11_next_23 ⟨Nat.le_of_ble_eq_true rfl, Nat.le_of_ble_eq_true rfl⟩) (fun rh2 h2 => ?_)
  obtain ⟨rfl, h2⟩ := h2
  refine lv_if_ne (tgt := 32) hx hb dX11_next_26 (by decide) (fun h => absurd (by decide) h) (fun _ => ?_)
  refine lv_bipush (v := (-4)) hx hb dX11_next_29 (by decide) ?_
  exact W.iret (v := (-4)) hx hb hr (fun t ht hW => ⟨(-4), rfl, by first | exact ⟨by first | rfl | exact xi_k (k := (-4)) (by decide) (by omega), by first | trivial | omega⟩, ht⟩) (fun _ h => by cases h) dX11_next_31
set_option maxHeartbeats 4000000 in
set_option maxRecDepth 100000 in
theorem aX_purse (l : Launch) (dC : Nat → ClassId) (dI : Nat → Nat → Nat) (ws : va_W) (tys : List (ClassId × FieldType)) {ac bk cp de dr fi lb pl rd rg su td tn tp : Nat} {cf : ClassId}  (p0 : Nat) (e0 : ws[p0]? = some (cp, .inr (11, [.ref tp, .ref lb, .ref rd, .ref bk, .ref tn, .ref td, .ref rg, .ref dr]))) (p1 : Nat) (e1 : ws[p1]? = some (bk, .inr (0, [.ref lb, .ref pl, .int 0, .int 0, .ref de, .ref su, .ref fi, .int 0, .ref ac]))) (p2 : Nat) (e2 : ws[p2]? = some (fi, .inl (cf, 8, .inl (fun _ => 0)))) (t2 : Nat) (y2 : tys[t2]? = some (cf, .int)) (c : Int32) (c_t : Int) (h_c : c.toInt = c_t)  : Met l yX11_purse wsX11_purse ({ frames := 2, cells := 0, slots := 0, locals := 128 }) (va_Pc [.ref cp, .int c] (xR (dC, dI) tys ws)) (vp_Si (fun r => (r = 0 ∧ 0 ≤ c_t ∧ c_t ≤ 7) ∨ (r = (-2000000000) ∧ ¬ (0 ≤ c_t ∧ c_t ≤ 7)))) 0 0 (fun _ => False) := by
  refine Met.ofW (cc := cX11_purse) (maxL := 2) (ret := (some .int)) (by decide) rfl ?_
  intro pr_ ev_ s m args below meth cd_ s₁ B hml hv
  obtain ⟨rfl, hE, hK, hP⟩ := hv
  have hx := B.exec
  have hb := B.bytes
  have hr := B.returns
  have hts := atoms_spec (ws := wsX11_purse) B.pre
  have hown : s.vm.findClass RX11 = some m.cls := findClass_of_methodNamed B.named
  have hlocks := B.notSynchronized
  have iX11 : ∀ w ∈ u_ws RX11 TX11 8, w ∈ wsX11_purse := by decide +kernel
  have iX0 : ∀ w ∈ u_ws RX0 TX0 9, w ∈ wsX11_purse := by decide +kernel
  have hl := lv_entry ([.ref cp, .int c]) (n := 2) (Nat.le_of_ble_eq_true rfl)
  rw [lg_entry_eq]
  generalize (lg_sl ([.ref cp, .int c]) ++ List.replicate (2 - (lg_sl ([.ref cp, .int c])).length) Slot.unset).toArray = ls at hl ⊢
  have hl : lv_has ls 2 [(0, .ref cp), (1, .int c)] := hl
  have lo_c := xi_lo c
  have hi_c := xi_hi c
  refine lv_iload_n hx hb dX11_purse_0 rfl (lv_at hl 1 rfl) ?_
  refine vp_callSi (W.runS (As := [.int c]) (rest := []) ⟨hx, hb, hml, hown, hts⟩ (cX11_isClub_ l dC dI ws tys c (c.toInt) rfl) (va_cwS 1 hts gX11_purse_X11_isClub rfl rfl rfl (by decide +kernel) ⟨Nat.le_of_ble_eq_true rfl, Nat.le_of_ble_eq_true rfl⟩) ⟨xR_blind _ _ _ _, xR_pre _ hE hK hP⟩ rfl rfl hl.1 rfl (lv_room (Nat.le_of_ble_eq_true rfl)) dX11_purse_1 ⟨Nat.le_of_ble_eq_true rfl, Nat.le_of_ble_eq_true rfl⟩) (fun rh1 h1 => ?_)
  rcases h1 with ⟨rfl, h1⟩ | ⟨rfl, h1⟩
  · skip
    refine lv_if_eq (tgt := 19) hx hb dX11_purse_4 (by decide) (fun h => absurd h (by decide)) (fun _ => ?_)
    refine lv_aload_n hx hb dX11_purse_7 rfl (lv_at hl 0 rfl) ?_
    refine va_get (D := (dC, dI)) (ci := 11) (v := .ref bk) (C := RX11) (T := TX11) (N := 8) hx hb hts iX11 hown hK hP p0 e0 rfl 3 (by decide) (hts (.fieldLink RX11 37 "CapLeague" "books" "LCapLeague$Books;") (by decide +kernel)) (fun _ h9 => h9) rfl dX11_purse_8 ?_
    refine va_get (D := (dC, dI)) (ci := 0) (v := .ref fi) (C := RX0) (T := TX0) (N := 9) hx hb hts iX0 hown hK hP p1 e1 rfl 6 (by decide) (hts (.fieldLink RX11 297 "CapLeague$Books" "fines" "[I") (by decide +kernel)) (fun _ h9 => h9) rfl dX11_purse_11 ?_
    refine lv_iload_n hx hb dX11_purse_14 rfl (lv_at hl 1 rfl) ?_
    refine va_iald (D := (dC, dI)) hx hb hK hP p2 t2 e2 y2 (xi_in (by omega) (by omega)) dX11_purse_15 ?_
    refine xw_i (v := 0) rfl ?_
    refine lv_goto (tgt := 21) hx hb dX11_purse_16 (by decide) ?_
    exact W.iret (v := 0) hx hb hr (fun t ht hW => ⟨0, rfl, by first | exact Or.inl ⟨by first | rfl | exact xi_k (k := 0) (by decide) (by omega), by first | trivial | omega⟩ | exact Or.inr (⟨by first | rfl | exact xi_k (k := (-2000000000)) (by decide) (by omega), by first | trivial | omega⟩), ht⟩) (fun _ h => by cases h) dX11_purse_21
  · skip
    refine lv_if_eq (tgt := 19) hx hb dX11_purse_4 (by decide) (fun _ => ?_) (fun h => absurd (by decide) h)
    refine lv_ldc (v := (-2000000000)) hx hb hown (hts (.constant RX11 232 (-2000000000)) (by decide +kernel)) dX11_purse_19 ?_
    exact W.iret (v := (-2000000000)) hx hb hr (fun t ht hW => ⟨(-2000000000), rfl, by first | exact Or.inl ⟨by first | rfl | exact xi_k (k := 0) (by decide) (by omega), by first | trivial | omega⟩ | exact Or.inr (⟨by first | rfl | exact xi_k (k := (-2000000000)) (by decide) (by omega), by first | trivial | omega⟩), ht⟩) (fun _ h => by cases h) dX11_purse_21
set_option maxHeartbeats 4000000 in
set_option maxRecDepth 100000 in
theorem aX_count (l : Launch) (dC : Nat → ClassId) (dI : Nat → Nat → Nat) (ws : va_W) (tys : List (ClassId × FieldType)) {ac bk by_ cg cp de dn dr fi hv lb od pl ra rd rg su td tf th tn to tp ts tt : Nat} {cb : ClassId}  (p0 : Nat) (e0 : ws[p0]? = some (cp, .inr (11, [.ref tp, .ref lb, .ref rd, .ref bk, .ref tn, .ref td, .ref rg, .ref dr]))) (p1 : Nat) (e1 : ws[p1]? = some (bk, .inr (0, [.ref lb, .ref pl, .int 0, .int 0, .ref de, .ref su, .ref fi, .int 0, .ref ac]))) (p2 : Nat) (e2 : ws[p2]? = some (td, .inr (9, [.ref bk, .ref tn, .ref cg, .int 0, .int 0, .ref tt, .ref th, .ref tf, .ref to, .ref ts]))) (p3 : Nat) (e3 : ws[p3]? = some (tp, .inr (8, [.ref by_, .int 0]))) (p4 : Nat) (e4 : ws[p4]? = some (dr, .inr (2, [.ref ra, .int 0, .ref dn, .ref od, .ref hv, .long 0, .long 1]))) (p5 : Nat) (e5 : ws[p5]? = some (dn, .inl (cb, 10, .inl (fun _ => 0)))) (t5 : Nat) (y5 : tys[t5]? = some (cb, .boolean)) (q : Int32) (q_t : Int) (h_q : q.toInt = q_t)  : Met l yX11_count wsX11_count ({ frames := 3, cells := 0, slots := 0, locals := 192 }) (va_Pc [.ref cp, .int q] (xR (dC, dI) tys ws)) (vp_Si (fun r => (r = 0 ∧ 0 ≤ q_t ∧ q_t ≤ 6) ∨ (r = (-1) ∧ ¬ (0 ≤ q_t ∧ q_t ≤ 6)))) 0 0 (fun _ => False) := by
  refine Met.ofW (cc := cX11_count) (maxL := 2) (ret := (some .int)) (by decide) rfl ?_
  intro pr_ ev_ s m args below meth cd_ s₁ B hml hv
  obtain ⟨rfl, hE, hK, hP⟩ := hv
  have hx := B.exec
  have hb := B.bytes
  have hr := B.returns
  have hts := atoms_spec (ws := wsX11_count) B.pre
  have hown : s.vm.findClass RX11 = some m.cls := findClass_of_methodNamed B.named
  have hlocks := B.notSynchronized
  have iX11 : ∀ w ∈ u_ws RX11 TX11 8, w ∈ wsX11_count := by decide +kernel
  have iX0 : ∀ w ∈ u_ws RX0 TX0 9, w ∈ wsX11_count := by decide +kernel
  have iX9 : ∀ w ∈ u_ws RX9 TX9 10, w ∈ wsX11_count := by decide +kernel
  have iX8 : ∀ w ∈ u_ws RX8 TX8 2, w ∈ wsX11_count := by decide +kernel
  have iX2 : ∀ w ∈ u_ws RX2 TX2 7, w ∈ wsX11_count := by decide +kernel
  have hl := lv_entry ([.ref cp, .int q]) (n := 2) (Nat.le_of_ble_eq_true rfl)
  rw [lg_entry_eq]
  generalize (lg_sl ([.ref cp, .int q]) ++ List.replicate (2 - (lg_sl ([.ref cp, .int q])).length) Slot.unset).toArray = ls at hl ⊢
  have hl : lv_has ls 2 [(0, .ref cp), (1, .int q)] := hl
  have lo_q := xi_lo q
  have hi_q := xi_hi q
  refine lv_iload_n hx hb dX11_count_0 rfl (lv_at hl 1 rfl) ?_
  rcases (show (q.toInt < 0 ∨ 6 < q.toInt) ∨ q.toInt = 0 ∨ q.toInt = 1 ∨ q.toInt = 2 ∨ q.toInt = 3 ∨ q.toInt = 4 ∨ q.toInt = 5 ∨ q.toInt = 6 by omega) with c1 | c1 | c1 | c1 | c1 | c1 | c1 | c1
  · refine lv_tableOut (tgt := 123) hx hb dX11_count_1 c1 (by decide) ?_
    refine lv_iconst (v := (-1)) hx hb dX11_count_123 (by decide) ?_
    exact W.iret (v := (-1)) hx hb hr (fun t ht hW => ⟨(-1), rfl, by first | exact Or.inl ⟨by first | rfl | exact xi_k (k := 0) (by decide) (by omega), by first | trivial | omega⟩ | exact Or.inr (⟨by first | rfl | exact xi_k (k := (-1)) (by decide) (by omega), by first | trivial | omega⟩), ht⟩) (fun _ h => by cases h) dX11_count_124
  · refine lv_tableIn (off := 43) (tgt := 44) hx hb dX11_count_1 (by omega) (by omega) (by rw [show (q.toInt - 0).toNat = 0 by omega]; rfl) (by decide) ?_
    refine lv_aload_n hx hb dX11_count_44 rfl (lv_at hl 0 rfl) ?_
    refine va_get (D := (dC, dI)) (ci := 11) (v := .ref bk) (C := RX11) (T := TX11) (N := 8) hx hb hts iX11 hown hK hP p0 e0 rfl 3 (by decide) (hts (.fieldLink RX11 37 "CapLeague" "books" "LCapLeague$Books;") (by decide +kernel)) (fun _ h9 => h9) rfl dX11_count_45 ?_
    refine va_get (D := (dC, dI)) (ci := 0) (v := .int 0) (C := RX0) (T := TX0) (N := 9) hx hb hts iX0 hown hK hP p1 e1 rfl 3 (by decide) (hts (.fieldLink RX11 142 "CapLeague$Books" "clock" "I") (by decide +kernel)) (fun _ h9 => h9) rfl dX11_count_48 ?_
    exact W.iret (v := 0) hx hb hr (fun t ht hW => ⟨0, rfl, by first | exact Or.inl ⟨by first | rfl | exact xi_k (k := 0) (by decide) (by omega), by first | trivial | omega⟩ | exact Or.inr (⟨by first | rfl | exact xi_k (k := (-1)) (by decide) (by omega), by first | trivial | omega⟩), ht⟩) (fun _ h => by cases h) dX11_count_51
  · refine lv_tableIn (off := 51) (tgt := 52) hx hb dX11_count_1 (by omega) (by omega) (by rw [show (q.toInt - 0).toNat = 1 by omega]; rfl) (by decide) ?_
    refine lv_aload_n hx hb dX11_count_52 rfl (lv_at hl 0 rfl) ?_
    refine va_get (D := (dC, dI)) (ci := 11) (v := .ref bk) (C := RX11) (T := TX11) (N := 8) hx hb hts iX11 hown hK hP p0 e0 rfl 3 (by decide) (hts (.fieldLink RX11 37 "CapLeague" "books" "LCapLeague$Books;") (by decide +kernel)) (fun _ h9 => h9) rfl dX11_count_53 ?_
    refine va_get (D := (dC, dI)) (ci := 0) (v := .int 0) (C := RX0) (T := TX0) (N := 9) hx hb hts iX0 hown hK hP p1 e1 rfl 2 (by decide) (hts (.fieldLink RX11 300 "CapLeague$Books" "size" "I") (by decide +kernel)) (fun _ h9 => h9) rfl dX11_count_56 ?_
    exact W.iret (v := 0) hx hb hr (fun t ht hW => ⟨0, rfl, by first | exact Or.inl ⟨by first | rfl | exact xi_k (k := 0) (by decide) (by omega), by first | trivial | omega⟩ | exact Or.inr (⟨by first | rfl | exact xi_k (k := (-1)) (by decide) (by omega), by first | trivial | omega⟩), ht⟩) (fun _ h => by cases h) dX11_count_59
  · refine lv_tableIn (off := 59) (tgt := 60) hx hb dX11_count_1 (by omega) (by omega) (by rw [show (q.toInt - 0).toNat = 2 by omega]; rfl) (by decide) ?_
    refine lv_aload_n hx hb dX11_count_60 rfl (lv_at hl 0 rfl) ?_
    refine va_get (D := (dC, dI)) (ci := 11) (v := .ref td) (C := RX11) (T := TX11) (N := 8) hx hb hts iX11 hown hK hP p0 e0 rfl 5 (by decide) (hts (.fieldLink RX11 53 "CapLeague" "bargain" "LCapLeague$Trade;") (by decide +kernel)) (fun _ h9 => h9) rfl dX11_count_61 ?_
    refine va_get (D := (dC, dI)) (ci := 9) (v := .int 0) (C := RX9) (T := TX9) (N := 10) hx hb hts iX9 hown hK hP p2 e2 rfl 3 (by decide) (hts (.fieldLink RX11 301 "CapLeague$Trade" "size" "I") (by decide +kernel)) (fun _ h9 => h9) rfl dX11_count_64 ?_
    exact W.iret (v := 0) hx hb hr (fun t ht hW => ⟨0, rfl, by first | exact Or.inl ⟨by first | rfl | exact xi_k (k := 0) (by decide) (by omega), by first | trivial | omega⟩ | exact Or.inr (⟨by first | rfl | exact xi_k (k := (-1)) (by decide) (by omega), by first | trivial | omega⟩), ht⟩) (fun _ h => by cases h) dX11_count_67
  · refine lv_tableIn (off := 67) (tgt := 68) hx hb dX11_count_1 (by omega) (by omega) (by rw [show (q.toInt - 0).toNat = 3 by omega]; rfl) (by decide) ?_
    refine lv_aload_n hx hb dX11_count_68 rfl (lv_at hl 0 rfl) ?_
    refine va_get (D := (dC, dI)) (ci := 11) (v := .ref bk) (C := RX11) (T := TX11) (N := 8) hx hb hts iX11 hown hK hP p0 e0 rfl 3 (by decide) (hts (.fieldLink RX11 37 "CapLeague" "books" "LCapLeague$Books;") (by decide +kernel)) (fun _ h9 => h9) rfl dX11_count_69 ?_
    refine va_get (D := (dC, dI)) (ci := 0) (v := .int 0) (C := RX0) (T := TX0) (N := 9) hx hb hts iX0 hown hK hP p1 e1 rfl 7 (by decide) (hts (.fieldLink RX11 302 "CapLeague$Books" "leftOver" "I") (by decide +kernel)) (fun _ h9 => h9) rfl dX11_count_72 ?_
    exact W.iret (v := 0) hx hb hr (fun t ht hW => ⟨0, rfl, by first | exact Or.inl ⟨by first | rfl | exact xi_k (k := 0) (by decide) (by omega), by first | trivial | omega⟩ | exact Or.inr (⟨by first | rfl | exact xi_k (k := (-1)) (by decide) (by omega), by first | trivial | omega⟩), ht⟩) (fun _ h => by cases h) dX11_count_75
  · refine lv_tableIn (off := 75) (tgt := 76) hx hb dX11_count_1 (by omega) (by omega) (by rw [show (q.toInt - 0).toNat = 4 by omega]; rfl) (by decide) ?_
    refine lv_aload_n hx hb dX11_count_76 rfl (lv_at hl 0 rfl) ?_
    refine va_get (D := (dC, dI)) (ci := 11) (v := .ref tp) (C := RX11) (T := TX11) (N := 8) hx hb hts iX11 hown hK hP p0 e0 rfl 0 (by decide) (hts (.fieldLink RX11 10 "CapLeague" "tape" "LCapLeague$Tape;") (by decide +kernel)) (fun _ h9 => h9) rfl dX11_count_77 ?_
    refine va_get (D := (dC, dI)) (ci := 8) (v := .int 0) (C := RX8) (T := TX8) (N := 2) hx hb hts iX8 hown hK hP p3 e3 rfl 1 (by decide) (hts (.fieldLink RX11 81 "CapLeague$Tape" "size" "I") (by decide +kernel)) (fun _ h9 => h9) rfl dX11_count_80 ?_
    exact W.iret (v := 0) hx hb hr (fun t ht hW => ⟨0, rfl, by first | exact Or.inl ⟨by first | rfl | exact xi_k (k := 0) (by decide) (by omega), by first | trivial | omega⟩ | exact Or.inr (⟨by first | rfl | exact xi_k (k := (-1)) (by decide) (by omega), by first | trivial | omega⟩), ht⟩) (fun _ h => by cases h) dX11_count_83
  · refine lv_tableIn (off := 83) (tgt := 84) hx hb dX11_count_1 (by omega) (by omega) (by rw [show (q.toInt - 0).toNat = 5 by omega]; rfl) (by decide) ?_
    refine lv_aload_n hx hb dX11_count_84 rfl (lv_at hl 0 rfl) ?_
    refine va_get (D := (dC, dI)) (ci := 11) (v := .ref dr) (C := RX11) (T := TX11) (N := 8) hx hb hts iX11 hown hK hP p0 e0 rfl 7 (by decide) (hts (.fieldLink RX11 69 "CapLeague" "draft" "LCapLeague$Draft;") (by decide +kernel)) (fun _ h9 => h9) rfl dX11_count_85 ?_
    refine va_get (D := (dC, dI)) (ci := 2) (v := .int 0) (C := RX2) (T := TX2) (N := 7) hx hb hts iX2 hown hK hP p4 e4 rfl 1 (by decide) (hts (.fieldLink RX11 257 "CapLeague$Draft" "tableTold" "Z") (by decide +kernel)) (fun _ h9 => h9) rfl dX11_count_88 ?_
    refine lv_if_eq (tgt := 98) hx hb dX11_count_91 (by decide) (fun _ => ?_) (fun h => absurd (by decide) h)
    refine lv_iconst (v := 0) hx hb dX11_count_98 (by decide) ?_
    exact W.iret (v := 0) hx hb hr (fun t ht hW => ⟨0, rfl, by first | exact Or.inl ⟨by first | rfl | exact xi_k (k := 0) (by decide) (by omega), by first | trivial | omega⟩ | exact Or.inr (⟨by first | rfl | exact xi_k (k := (-1)) (by decide) (by omega), by first | trivial | omega⟩), ht⟩) (fun _ h => by cases h) dX11_count_99
  · refine lv_tableIn (off := 99) (tgt := 100) hx hb dX11_count_1 (by omega) (by omega) (by rw [show (q.toInt - 0).toNat = 6 by omega]; rfl) (by decide) ?_
    refine lv_aload_n hx hb dX11_count_100 rfl (lv_at hl 0 rfl) ?_
    refine va_get (D := (dC, dI)) (ci := 11) (v := .ref dr) (C := RX11) (T := TX11) (N := 8) hx hb hts iX11 hown hK hP p0 e0 rfl 7 (by decide) (hts (.fieldLink RX11 69 "CapLeague" "draft" "LCapLeague$Draft;") (by decide +kernel)) (fun _ h9 => h9) rfl dX11_count_101 ?_
    refine lv_aload_n hx hb dX11_count_104 rfl (lv_at hl 0 rfl) ?_
    refine va_get (D := (dC, dI)) (ci := 11) (v := .ref bk) (C := RX11) (T := TX11) (N := 8) hx hb hts iX11 hown hK hP p0 e0 rfl 3 (by decide) (hts (.fieldLink RX11 37 "CapLeague" "books" "LCapLeague$Books;") (by decide +kernel)) (fun _ h9 => h9) rfl dX11_count_105 ?_
    refine va_get (D := (dC, dI)) (ci := 0) (v := .int 0) (C := RX0) (T := TX0) (N := 9) hx hb hts iX0 hown hK hP p1 e1 rfl 3 (by decide) (hts (.fieldLink RX11 142 "CapLeague$Books" "clock" "I") (by decide +kernel)) (fun _ h9 => h9) rfl dX11_count_108 ?_
    refine vp_callSi (W.runV (As := [.int 0]) (rest := []) ⟨hx, hb, hml, hown, hts⟩ (cX2_drawn l dC dI ws tys p4 e4 p5 e5 t5 y5 0 (0) (by decide)) (cwV 1 hts gX11_count_X2_isDrawn rfl rfl rfl (by decide +kernel) ⟨Nat.le_of_ble_eq_true rfl, Nat.le_of_ble_eq_true rfl⟩) ⟨xR_blind _ _ _ _, va_recv hK hP (ci := 2) (q0 := p4) rfl e4, xR_pre _ hE hK hP⟩ rfl rfl hl.1 rfl (lv_room (Nat.le_of_ble_eq_true rfl)) dX11_count_111 ⟨Nat.le_of_ble_eq_true rfl, Nat.le_of_ble_eq_true rfl⟩) (fun rh3 h3 => ?_)
    obtain ⟨rfl, h3⟩ := h3
    refine lv_if_eq (tgt := 121) hx hb dX11_count_114 (by decide) (fun _ => ?_) (fun h => absurd (by decide) h)
    refine lv_iconst (v := 0) hx hb dX11_count_121 (by decide) ?_
    exact W.iret (v := 0) hx hb hr (fun t ht hW => ⟨0, rfl, by first | exact Or.inl ⟨by first | rfl | exact xi_k (k := 0) (by decide) (by omega), by first | trivial | omega⟩ | exact Or.inr (⟨by first | rfl | exact xi_k (k := (-1)) (by decide) (by omega), by first | trivial | omega⟩), ht⟩) (fun _ h => by cases h) dX11_count_122
set_option maxHeartbeats 4000000 in
set_option maxRecDepth 100000 in
theorem aX_turn (l : Launch) (dC : Nat → ClassId) (dI : Nat → Nat → Nat) (ws : va_W) (tys : List (ClassId × FieldType)) {bk cp dn dr hv lb od ra rd rg td tn tp : Nat} {cb : ClassId}  (p0 : Nat) (e0 : ws[p0]? = some (cp, .inr (11, [.ref tp, .ref lb, .ref rd, .ref bk, .ref tn, .ref td, .ref rg, .ref dr]))) (p1 : Nat) (e1 : ws[p1]? = some (dr, .inr (2, [.ref ra, .int 0, .ref dn, .ref od, .ref hv, .long 0, .long 1]))) (p2 : Nat) (e2 : ws[p2]? = some (dn, .inl (cb, 10, .inl (fun _ => 0)))) (t2 : Nat) (y2 : tys[t2]? = some (cb, .boolean)) (y : Int32) (y_t : Int) (h_y : y.toInt = y_t) (i : Int32) (i_t : Int) (h_i : i.toInt = i_t) (q : Int32) (q_t : Int) (h_q : q.toInt = q_t)  : Met l yX11_turn wsX11_turn ({ frames := 3, cells := 0, slots := 0, locals := 192 }) (va_Pc [.ref cp, .int y, .int i, .int q] (xR (dC, dI) tys ws)) (vp_Si (fun r => (r = (-1) ∧ True))) 0 0 (fun _ => False) := by
  refine Met.ofW (cc := cX11_turn) (maxL := 4) (ret := (some .int)) (by decide) rfl ?_
  intro pr_ ev_ s m args below meth cd_ s₁ B hml hv
  obtain ⟨rfl, hE, hK, hP⟩ := hv
  have hx := B.exec
  have hb := B.bytes
  have hr := B.returns
  have hts := atoms_spec (ws := wsX11_turn) B.pre
  have hown : s.vm.findClass RX11 = some m.cls := findClass_of_methodNamed B.named
  have hlocks := B.notSynchronized
  have iX11 : ∀ w ∈ u_ws RX11 TX11 8, w ∈ wsX11_turn := by decide +kernel
  have iX2 : ∀ w ∈ u_ws RX2 TX2 7, w ∈ wsX11_turn := by decide +kernel
  have hl := lv_entry ([.ref cp, .int y, .int i, .int q]) (n := 4) (Nat.le_of_ble_eq_true rfl)
  rw [lg_entry_eq]
  generalize (lg_sl ([.ref cp, .int y, .int i, .int q]) ++ List.replicate (4 - (lg_sl ([.ref cp, .int y, .int i, .int q])).length) Slot.unset).toArray = ls at hl ⊢
  have hl : lv_has ls 4 [(0, .ref cp), (1, .int y), (2, .int i), (3, .int q)] := hl
  have lo_y := xi_lo y
  have hi_y := xi_hi y
  have lo_i := xi_lo i
  have hi_i := xi_hi i
  have lo_q := xi_lo q
  have hi_q := xi_hi q
  refine lv_iload_n hx hb dX11_turn_0 rfl (lv_at hl 1 rfl) ?_
  refine vp_callSi (W.runS (As := [.int y]) (rest := []) ⟨hx, hb, hml, hown, hts⟩ (cX11_isYear_ l dC dI ws tys y (y.toInt) rfl) (va_cwS 1 hts gX11_turn_X11_isYear rfl rfl rfl (by decide +kernel) ⟨Nat.le_of_ble_eq_true rfl, Nat.le_of_ble_eq_true rfl⟩) ⟨xR_blind _ _ _ _, xR_pre _ hE hK hP⟩ rfl rfl hl.1 rfl (lv_room (Nat.le_of_ble_eq_true rfl)) dX11_turn_1 ⟨Nat.le_of_ble_eq_true rfl, Nat.le_of_ble_eq_true rfl⟩) (fun rh1 h1 => ?_)
  rcases h1 with ⟨rfl, h1⟩ | ⟨rfl, h1⟩
  · skip
    refine lv_if_eq (tgt := 28) hx hb dX11_turn_4 (by decide) (fun h => absurd h (by decide)) (fun _ => ?_)
    refine lv_aload_n hx hb dX11_turn_7 rfl (lv_at hl 0 rfl) ?_
    refine va_get (D := (dC, dI)) (ci := 11) (v := .ref dr) (C := RX11) (T := TX11) (N := 8) hx hb hts iX11 hown hK hP p0 e0 rfl 7 (by decide) (hts (.fieldLink RX11 69 "CapLeague" "draft" "LCapLeague$Draft;") (by decide +kernel)) (fun _ h9 => h9) rfl dX11_turn_8 ?_
    refine lv_iload_n hx hb dX11_turn_11 rfl (lv_at hl 1 rfl) ?_
    refine vp_callSi (W.runV (As := [.int y]) (rest := []) ⟨hx, hb, hml, hown, hts⟩ (cX2_drawn l dC dI ws tys p1 e1 p2 e2 t2 y2 y (y.toInt) rfl) (cwV 1 hts gX11_turn_X2_isDrawn rfl rfl rfl (by decide +kernel) ⟨Nat.le_of_ble_eq_true rfl, Nat.le_of_ble_eq_true rfl⟩) ⟨xR_blind _ _ _ _, va_recv hK hP (ci := 2) (q0 := p1) rfl e1, xR_pre _ hE hK hP⟩ rfl rfl hl.1 rfl (lv_room (Nat.le_of_ble_eq_true rfl)) dX11_turn_12 ⟨Nat.le_of_ble_eq_true rfl, Nat.le_of_ble_eq_true rfl⟩) (fun rh3 h3 => ?_)
    obtain ⟨rfl, h3⟩ := h3
    refine lv_if_eq (tgt := 28) hx hb dX11_turn_15 (by decide) (fun _ => ?_) (fun h => absurd (by decide) h)
    refine lv_iconst (v := (-1)) hx hb dX11_turn_28 (by decide) ?_
    exact W.iret (v := (-1)) hx hb hr (fun t ht hW => ⟨(-1), rfl, by first | exact ⟨by first | rfl | exact xi_k (k := (-1)) (by decide) (by omega), by first | trivial | omega⟩, ht⟩) (fun _ h => by cases h) dX11_turn_29
  · skip
    refine lv_if_eq (tgt := 28) hx hb dX11_turn_4 (by decide) (fun _ => ?_) (fun h => absurd (by decide) h)
    refine lv_iconst (v := (-1)) hx hb dX11_turn_28 (by decide) ?_
    exact W.iret (v := (-1)) hx hb hr (fun t ht hW => ⟨(-1), rfl, by first | exact ⟨by first | rfl | exact xi_k (k := (-1)) (by decide) (by omega), by first | trivial | omega⟩, ht⟩) (fun _ h => by cases h) dX11_turn_29
set_option maxHeartbeats 4000000 in
set_option maxRecDepth 100000 in
theorem aX_chance (l : Launch) (dC : Nat → ClassId) (dI : Nat → Nat → Nat) (ws : va_W) (tys : List (ClassId × FieldType)) {bk cp dn dr hv lb od ra rd rg td tn tp : Nat}  (p0 : Nat) (e0 : ws[p0]? = some (cp, .inr (11, [.ref tp, .ref lb, .ref rd, .ref bk, .ref tn, .ref td, .ref rg, .ref dr]))) (p1 : Nat) (e1 : ws[p1]? = some (dr, .inr (2, [.ref ra, .int 0, .ref dn, .ref od, .ref hv, .long 0, .long 1]))) (c : Int32) (c_t : Int) (h_c : c.toInt = c_t) (k : Int32) (k_t : Int) (h_k : k.toInt = k_t) (q : Int32) (q_t : Int) (h_q : q.toInt = q_t)  : Met l yX11_chance wsX11_chance ({ frames := 2, cells := 0, slots := 0, locals := 128 }) (va_Pc [.ref cp, .int c, .int k, .int q] (xR (dC, dI) tys ws)) (vp_Sl (fun r => (r = (-4) ∧ (0 ≤ c_t ∧ c_t ≤ 7 ∧ 0 ≤ k_t ∧ k_t ≤ 1 ∧ 0 ≤ q_t ∧ q_t ≤ 1)) ∨ (r = (-2) ∧ ¬ (0 ≤ c_t ∧ c_t ≤ 7 ∧ 0 ≤ k_t ∧ k_t ≤ 1 ∧ 0 ≤ q_t ∧ q_t ≤ 1)))) 0 0 (fun _ => False) := by
  refine Met.ofW (cc := cX11_chance) (maxL := 4) (ret := (some .long)) (by decide) rfl ?_
  intro pr_ ev_ s m args below meth cd_ s₁ B hml hv
  obtain ⟨rfl, hE, hK, hP⟩ := hv
  have hx := B.exec
  have hb := B.bytes
  have hr := B.returns
  have hts := atoms_spec (ws := wsX11_chance) B.pre
  have hown : s.vm.findClass RX11 = some m.cls := findClass_of_methodNamed B.named
  have hlocks := B.notSynchronized
  have iX11 : ∀ w ∈ u_ws RX11 TX11 8, w ∈ wsX11_chance := by decide +kernel
  have iX2 : ∀ w ∈ u_ws RX2 TX2 7, w ∈ wsX11_chance := by decide +kernel
  have hl := lv_entry ([.ref cp, .int c, .int k, .int q]) (n := 4) (Nat.le_of_ble_eq_true rfl)
  rw [lg_entry_eq]
  generalize (lg_sl ([.ref cp, .int c, .int k, .int q]) ++ List.replicate (4 - (lg_sl ([.ref cp, .int c, .int k, .int q])).length) Slot.unset).toArray = ls at hl ⊢
  have hl : lv_has ls 4 [(0, .ref cp), (1, .int c), (2, .int k), (3, .int q)] := hl
  have lo_c := xi_lo c
  have hi_c := xi_hi c
  have lo_k := xi_lo k
  have hi_k := xi_hi k
  have lo_q := xi_lo q
  have hi_q := xi_hi q
  refine lv_iload_n hx hb dX11_chance_0 rfl (lv_at hl 1 rfl) ?_
  refine vp_callSi (W.runS (As := [.int c]) (rest := []) ⟨hx, hb, hml, hown, hts⟩ (cX11_isClub_ l dC dI ws tys c (c.toInt) rfl) (va_cwS 1 hts gX11_chance_X11_isClub rfl rfl rfl (by decide +kernel) ⟨Nat.le_of_ble_eq_true rfl, Nat.le_of_ble_eq_true rfl⟩) ⟨xR_blind _ _ _ _, xR_pre _ hE hK hP⟩ rfl rfl hl.1 rfl (lv_room (Nat.le_of_ble_eq_true rfl)) dX11_chance_1 ⟨Nat.le_of_ble_eq_true rfl, Nat.le_of_ble_eq_true rfl⟩) (fun rh1 h1 => ?_)
  rcases h1 with ⟨rfl, h1⟩ | ⟨rfl, h1⟩
  · skip
    refine lv_if_eq (tgt := 25) hx hb dX11_chance_4 (by decide) (fun h => absurd h (by decide)) (fun _ => ?_)
    refine lv_iload_n hx hb dX11_chance_7 rfl (lv_at hl 2 rfl) ?_
    refine lv_if_lt (tgt := 25) hx hb dX11_chance_8 (by decide) (fun c3 => ?_) (fun c3 => ?_)
    · have ic3 := (xi_lt c3 rfl (by decide) : k.toInt < 0)
      refine lv_ldc2 (v := (-2)) hx hb hown (hts (.constantLong RX11 255 (-2)) (by decide +kernel)) dX11_chance_25 ?_
      exact W.lret (v := (-2)) hx hb hr (fun t ht hW => ⟨(-2), rfl, by first | exact Or.inl ⟨by first | rfl, by first | trivial | omega⟩ | exact Or.inr (⟨by first | rfl, by first | trivial | omega⟩), ht⟩) (fun _ h => by cases h) dX11_chance_28
    · have ic3 := (xi_nlt c3 rfl (by decide) : 0 ≤ k.toInt)
      refine lv_iload_n hx hb dX11_chance_11 rfl (lv_at hl 2 rfl) ?_
      refine lv_iconst (v := 1) hx hb dX11_chance_12 (by decide) ?_
      refine lv_icmp_gt (tgt := 25) hx hb dX11_chance_13 (by decide) (fun c4 => ?_) (fun c4 => ?_)
      · have ic4 := (xi_lt c4 (by decide) rfl : 1 < k.toInt)
        refine lv_ldc2 (v := (-2)) hx hb hown (hts (.constantLong RX11 255 (-2)) (by decide +kernel)) dX11_chance_25 ?_
        exact W.lret (v := (-2)) hx hb hr (fun t ht hW => ⟨(-2), rfl, by first | exact Or.inl ⟨by first | rfl, by first | trivial | omega⟩ | exact Or.inr (⟨by first | rfl, by first | trivial | omega⟩), ht⟩) (fun _ h => by cases h) dX11_chance_28
      · have ic4 := (xi_nlt c4 (by decide) rfl : k.toInt ≤ 1)
        refine lv_iload_n hx hb dX11_chance_16 rfl (lv_at hl 3 rfl) ?_
        refine lv_if_lt (tgt := 25) hx hb dX11_chance_17 (by decide) (fun c5 => ?_) (fun c5 => ?_)
        · have ic5 := (xi_lt c5 rfl (by decide) : q.toInt < 0)
          refine lv_ldc2 (v := (-2)) hx hb hown (hts (.constantLong RX11 255 (-2)) (by decide +kernel)) dX11_chance_25 ?_
          exact W.lret (v := (-2)) hx hb hr (fun t ht hW => ⟨(-2), rfl, by first | exact Or.inl ⟨by first | rfl, by first | trivial | omega⟩ | exact Or.inr (⟨by first | rfl, by first | trivial | omega⟩), ht⟩) (fun _ h => by cases h) dX11_chance_28
        · have ic5 := (xi_nlt c5 rfl (by decide) : 0 ≤ q.toInt)
          refine lv_iload_n hx hb dX11_chance_20 rfl (lv_at hl 3 rfl) ?_
          refine lv_iconst (v := 1) hx hb dX11_chance_21 (by decide) ?_
          refine lv_icmp_le (tgt := 29) hx hb dX11_chance_22 (by decide) (fun c6 => ?_) (fun c6 => ?_)
          · have ic6 := (xi_le c6 rfl (by decide) : q.toInt ≤ 1)
            refine lv_aload_n hx hb dX11_chance_29 rfl (lv_at hl 0 rfl) ?_
            refine va_get (D := (dC, dI)) (ci := 11) (v := .ref dr) (C := RX11) (T := TX11) (N := 8) hx hb hts iX11 hown hK hP p0 e0 rfl 7 (by decide) (hts (.fieldLink RX11 69 "CapLeague" "draft" "LCapLeague$Draft;") (by decide +kernel)) (fun _ h9 => h9) rfl dX11_chance_30 ?_
            refine va_get (D := (dC, dI)) (ci := 2) (v := .int 0) (C := RX2) (T := TX2) (N := 7) hx hb hts iX2 hown hK hP p1 e1 rfl 1 (by decide) (hts (.fieldLink RX11 257 "CapLeague$Draft" "tableTold" "Z") (by decide +kernel)) (fun _ h9 => h9) rfl dX11_chance_33 ?_
            refine lv_if_ne (tgt := 43) hx hb dX11_chance_36 (by decide) (fun h => absurd (by decide) h) (fun _ => ?_)
            refine lv_ldc2 (v := (-4)) hx hb hown (hts (.constantLong RX11 260 (-4)) (by decide +kernel)) dX11_chance_39 ?_
            exact W.lret (v := (-4)) hx hb hr (fun t ht hW => ⟨(-4), rfl, by first | exact Or.inl ⟨by first | rfl, by first | trivial | omega⟩ | exact Or.inr (⟨by first | rfl, by first | trivial | omega⟩), ht⟩) (fun _ h => by cases h) dX11_chance_42
          · have ic6 := (xi_nle c6 rfl (by decide) : 1 < q.toInt)
            refine lv_ldc2 (v := (-2)) hx hb hown (hts (.constantLong RX11 255 (-2)) (by decide +kernel)) dX11_chance_25 ?_
            exact W.lret (v := (-2)) hx hb hr (fun t ht hW => ⟨(-2), rfl, by first | exact Or.inl ⟨by first | rfl, by first | trivial | omega⟩ | exact Or.inr (⟨by first | rfl, by first | trivial | omega⟩), ht⟩) (fun _ h => by cases h) dX11_chance_28
  · skip
    refine lv_if_eq (tgt := 25) hx hb dX11_chance_4 (by decide) (fun _ => ?_) (fun h => absurd (by decide) h)
    refine lv_ldc2 (v := (-2)) hx hb hown (hts (.constantLong RX11 255 (-2)) (by decide +kernel)) dX11_chance_25 ?_
    exact W.lret (v := (-2)) hx hb hr (fun t ht hW => ⟨(-2), rfl, by first | exact Or.inl ⟨by first | rfl, by first | trivial | omega⟩ | exact Or.inr (⟨by first | rfl, by first | trivial | omega⟩), ht⟩) (fun _ h => by cases h) dX11_chance_28
set_option maxHeartbeats 4000000 in
set_option maxRecDepth 100000 in
theorem aX_draw (l : Launch) (dC : Nat → ClassId) (dI : Nat → Nat → Nat) (ws : va_W) (tys : List (ClassId × FieldType)) {ac bk cp de dn dr fi hv lb lo nu od pl ra rd rg su td tn tp tx un : Nat} {cb ct : ClassId}  (p0 : Nat) (e0 : ws[p0]? = some (cp, .inr (11, [.ref tp, .ref lb, .ref rd, .ref bk, .ref tn, .ref td, .ref rg, .ref dr]))) (p1 : Nat) (e1 : ws[p1]? = some (bk, .inr (0, [.ref lb, .ref pl, .int 0, .int 0, .ref de, .ref su, .ref fi, .int 0, .ref ac]))) (p2 : Nat) (e2 : ws[p2]? = some (dr, .inr (2, [.ref ra, .int 0, .ref dn, .ref od, .ref hv, .long 0, .long 1]))) (p3 : Nat) (e3 : ws[p3]? = some (dn, .inl (cb, 10, .inl (fun _ => 0)))) (t3 : Nat) (y3 : tys[t3]? = some (cb, .boolean)) (p4 : Nat) (e4 : ws[p4]? = some (lb, .inr (3, [.ref un, .ref tx]))) (p5 : Nat) (e5 : ws[p5]? = some (tx, .inl (ct, 10, .inr (.inr (.inr (.inr (fun _ => none))))))) (t5 : Nat) (y5 : tys[t5]? = some (ct, (.object "CapLeague$Laws"))) (p6 : Nat) (e6 : ws[p6]? = some (un, .inr (5, [.ref nu, .ref lo, .int 1]))) (a : Int32) (a_t : Int) (h_a : a.toInt = a_t) (b : Int32) (b_t : Int) (h_b : b.toInt = b_t)  : Met l yX11_draw wsX11_draw ({ frames := 3, cells := 0, slots := 0, locals := 192 }) (va_Pc [.ref cp, .int a, .int b] (xR (dC, dI) tys ws)) (vp_Si (fun r => (r = (-4) ∧ a_t = 0 ∧ b_t = 0) ∨ (r = (-2) ∧ ¬ (a_t = 0 ∧ b_t = 0)))) 0 0 (fun _ => False) := by
  refine Met.ofW (cc := cX11_draw) (maxL := 4) (ret := (some .int)) (by decide) rfl ?_
  intro pr_ ev_ s m args below meth cd_ s₁ B hml hv
  obtain ⟨rfl, hE, hK, hP⟩ := hv
  have hx := B.exec
  have hb := B.bytes
  have hr := B.returns
  have hts := atoms_spec (ws := wsX11_draw) B.pre
  have hown : s.vm.findClass RX11 = some m.cls := findClass_of_methodNamed B.named
  have hlocks := B.notSynchronized
  have iX11 : ∀ w ∈ u_ws RX11 TX11 8, w ∈ wsX11_draw := by decide +kernel
  have iX2 : ∀ w ∈ u_ws RX2 TX2 7, w ∈ wsX11_draw := by decide +kernel
  have iX0 : ∀ w ∈ u_ws RX0 TX0 9, w ∈ wsX11_draw := by decide +kernel
  have hl := lv_entry ([.ref cp, .int a, .int b]) (n := 4) (Nat.le_of_ble_eq_true rfl)
  rw [lg_entry_eq]
  generalize (lg_sl ([.ref cp, .int a, .int b]) ++ List.replicate (4 - (lg_sl ([.ref cp, .int a, .int b])).length) Slot.unset).toArray = ls at hl ⊢
  have hl : lv_has ls 4 [(0, .ref cp), (1, .int a), (2, .int b)] := hl
  have lo_a := xi_lo a
  have hi_a := xi_hi a
  have lo_b := xi_lo b
  have hi_b := xi_hi b
  refine lv_aload_n hx hb dX11_draw_0 rfl (lv_at hl 0 rfl) ?_
  refine va_get (D := (dC, dI)) (ci := 11) (v := .ref bk) (C := RX11) (T := TX11) (N := 8) hx hb hts iX11 hown hK hP p0 e0 rfl 3 (by decide) (hts (.fieldLink RX11 37 "CapLeague" "books" "LCapLeague$Books;") (by decide +kernel)) (fun _ h9 => h9) rfl dX11_draw_1 ?_
  refine va_csq (W.runV (As := []) (rest := []) ⟨hx, hb, hml, hown, hts⟩ (cX0_lawsNow_ l dC dI ws tys p1 e1 p4 e4 p5 e5 t5 y5) (cwV 0 hts gX11_draw_X0_lawsNow rfl rfl rfl (by decide +kernel) ⟨Nat.le_of_ble_eq_true rfl, Nat.le_of_ble_eq_true rfl⟩) ⟨xR_blind _ _ _ _, va_recv hK hP (ci := 0) (q0 := p1) rfl e1, xR_pre _ hE hK hP⟩ rfl rfl hl.1 rfl (lv_room (Nat.le_of_ble_eq_true rfl)) dX11_draw_4 ⟨Nat.le_of_ble_eq_true rfl, Nat.le_of_ble_eq_true rfl⟩) (fun rh1 h1 => ?_)
  obtain ⟨rfl, h1⟩ := h1
  refine xw_v (v := .ref un) rfl ?_
  refine lv_astore_n (lv' := [(3, .ref un), (0, .ref cp), (1, .int a), (2, .int b)]) hx hb dX11_draw_7 rfl hl (by decide) rfl (fun ls hl => ?_)
  refine lv_aload_n hx hb dX11_draw_8 rfl (lv_at hl 0 rfl) ?_
  refine lv_iload_n hx hb dX11_draw_9 rfl (lv_at hl 2 rfl) ?_
  refine lv_iload_n hx hb dX11_draw_10 rfl (lv_at hl 3 rfl) ?_
  refine vp_callSi (W.runV (As := [.int a, .int b]) (rest := []) ⟨hx, hb, hml, hown, hts⟩ (cX5_areDraws_ l dC dI ws tys p6 e6 a (a.toInt) rfl b (b.toInt) rfl) (cwV 2 hts gX11_draw_X5_areDraws rfl rfl rfl (by decide +kernel) ⟨Nat.le_of_ble_eq_true rfl, Nat.le_of_ble_eq_true rfl⟩) ⟨xR_blind _ _ _ _, va_recv hK hP (ci := 5) (q0 := p6) rfl e6, xR_pre _ hE hK hP⟩ rfl rfl hl.1 rfl (lv_room (Nat.le_of_ble_eq_true rfl)) dX11_draw_11 ⟨Nat.le_of_ble_eq_true rfl, Nat.le_of_ble_eq_true rfl⟩) (fun rh2 h2 => ?_)
  rcases h2 with ⟨rfl, h2⟩ | ⟨rfl, h2⟩
  · skip
    refine lv_if_ne (tgt := 20) hx hb dX11_draw_14 (by decide) (fun _ => ?_) (fun h => absurd h (by decide))
    refine lv_aload_n hx hb dX11_draw_20 rfl (lv_at hl 1 rfl) ?_
    refine va_get (D := (dC, dI)) (ci := 11) (v := .ref dr) (C := RX11) (T := TX11) (N := 8) hx hb hts iX11 hown hK hP p0 e0 rfl 7 (by decide) (hts (.fieldLink RX11 69 "CapLeague" "draft" "LCapLeague$Draft;") (by decide +kernel)) (fun _ h9 => h9) rfl dX11_draw_21 ?_
    refine va_get (D := (dC, dI)) (ci := 2) (v := .int 0) (C := RX2) (T := TX2) (N := 7) hx hb hts iX2 hown hK hP p2 e2 rfl 1 (by decide) (hts (.fieldLink RX11 257 "CapLeague$Draft" "tableTold" "Z") (by decide +kernel)) (fun _ h9 => h9) rfl dX11_draw_24 ?_
    refine lv_if_eq (tgt := 47) hx hb dX11_draw_27 (by decide) (fun _ => ?_) (fun h => absurd (by decide) h)
    refine lv_bipush (v := (-4)) hx hb dX11_draw_47 (by decide) ?_
    exact W.iret (v := (-4)) hx hb hr (fun t ht hW => ⟨(-4), rfl, by first | exact Or.inl ⟨by first | rfl | exact xi_k (k := (-4)) (by decide) (by omega), by first | trivial | omega⟩ | exact Or.inr (⟨by first | rfl | exact xi_k (k := (-2)) (by decide) (by omega), by first | trivial | omega⟩), ht⟩) (fun _ h => by cases h) dX11_draw_49
  · skip
    refine lv_if_ne (tgt := 20) hx hb dX11_draw_14 (by decide) (fun h => absurd (by decide) h) (fun _ => ?_)
    refine lv_bipush (v := (-2)) hx hb dX11_draw_17 (by decide) ?_
    exact W.iret (v := (-2)) hx hb hr (fun t ht hW => ⟨(-2), rfl, by first | exact Or.inl ⟨by first | rfl | exact xi_k (k := (-4)) (by decide) (by omega), by first | trivial | omega⟩ | exact Or.inr (⟨by first | rfl | exact xi_k (k := (-2)) (by decide) (by omega), by first | trivial | omega⟩), ht⟩) (fun _ h => by cases h) dX11_draw_19
