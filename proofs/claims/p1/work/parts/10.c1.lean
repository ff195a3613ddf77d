set_option maxHeartbeats 4000000 in
set_option maxRecDepth 100000 in
theorem cX11_isClub_ (l : Launch) (dC : Nat → ClassId) (dI : Nat → Nat → Nat) (ws : va_W) (tys : List (ClassId × FieldType))  (c : Int32) (c_t : Int) (h_c : c.toInt = c_t)  : Met l yX11_isClub wsX11_isClub ({ frames := 1, cells := 0, slots := 0, locals := 64 }) (va_Pc [.int c] (xR (dC, dI) tys ws)) (vp_Si (fun r => (r = 1 ∧ 0 ≤ c_t ∧ c_t ≤ 7) ∨ (r = 0 ∧ ¬ (0 ≤ c_t ∧ c_t ≤ 7)))) 0 0 (fun _ => False) := by
  refine Met.ofW (cc := cX11_isClub) (maxL := 1) (ret := (some .boolean)) (by decide) rfl ?_
  intro pr_ ev_ s m args below meth cd_ s₁ B hml hv
  obtain ⟨rfl, hE, hK, hP⟩ := hv
  have hx := B.exec
  have hb := B.bytes
  have hr := B.returns
  have hts := atoms_spec (ws := wsX11_isClub) B.pre
  have hown : s.vm.findClass RX11 = some m.cls := findClass_of_methodNamed B.named
  have hlocks := B.notSynchronized
  have hl := lv_entry ([.int c]) (n := 1) (Nat.le_of_ble_eq_true rfl)
  rw [lg_entry_eq]
  generalize (lg_sl ([.int c]) ++ List.replicate (1 - (lg_sl ([.int c])).length) Slot.unset).toArray = ls at hl ⊢
  have hl : lv_has ls 1 [(0, .int c)] := hl
  have lo_c := xi_lo c
  have hi_c := xi_hi c
  refine lv_iload_n hx hb dX11_isClub_0 rfl (lv_at hl 0 rfl) ?_
  refine lv_if_lt (tgt := 14) hx hb dX11_isClub_1 (by decide) (fun c1 => ?_) (fun c1 => ?_)
  · have ic1 := (xi_lt c1 rfl (by decide) : c.toInt < 0)
    refine lv_iconst (v := 0) hx hb dX11_isClub_14 (by decide) ?_
    exact W.zret (v := 0) hx hb hr (by decide) (fun t ht hW => ⟨0, rfl, by first | exact Or.inl ⟨by first | rfl | exact xi_k (k := 1) (by decide) (by omega), by first | trivial | omega⟩ | exact Or.inr (⟨by first | rfl | exact xi_k (k := 0) (by decide) (by omega), by first | trivial | omega⟩), ht⟩) (fun _ h => by cases h) dX11_isClub_15
  · have ic1 := (xi_nlt c1 rfl (by decide) : 0 ≤ c.toInt)
    refine lv_iload_n hx hb dX11_isClub_4 rfl (lv_at hl 0 rfl) ?_
    refine lv_bipush (v := 8) hx hb dX11_isClub_5 (by decide) ?_
    refine lv_icmp_ge (tgt := 14) hx hb dX11_isClub_7 (by decide) (fun c2 => ?_) (fun c2 => ?_)
    · have ic2 := (xi_le c2 (by decide) rfl : 8 ≤ c.toInt)
      refine lv_iconst (v := 0) hx hb dX11_isClub_14 (by decide) ?_
      exact W.zret (v := 0) hx hb hr (by decide) (fun t ht hW => ⟨0, rfl, by first | exact Or.inl ⟨by first | rfl | exact xi_k (k := 1) (by decide) (by omega), by first | trivial | omega⟩ | exact Or.inr (⟨by first | rfl | exact xi_k (k := 0) (by decide) (by omega), by first | trivial | omega⟩), ht⟩) (fun _ h => by cases h) dX11_isClub_15
    · have ic2 := (xi_nle c2 (by decide) rfl : c.toInt < 8)
      refine lv_iconst (v := 1) hx hb dX11_isClub_10 (by decide) ?_
      refine lv_goto (tgt := 15) hx hb dX11_isClub_11 (by decide) ?_
      exact W.zret (v := 1) hx hb hr (by decide) (fun t ht hW => ⟨1, rfl, by first | exact Or.inl ⟨by first | rfl | exact xi_k (k := 1) (by decide) (by omega), by first | trivial | omega⟩ | exact Or.inr (⟨by first | rfl | exact xi_k (k := 0) (by decide) (by omega), by first | trivial | omega⟩), ht⟩) (fun _ h => by cases h) dX11_isClub_15
set_option maxHeartbeats 4000000 in
set_option maxRecDepth 100000 in
theorem cX11_isYear_ (l : Launch) (dC : Nat → ClassId) (dI : Nat → Nat → Nat) (ws : va_W) (tys : List (ClassId × FieldType))  (c : Int32) (c_t : Int) (h_c : c.toInt = c_t)  : Met l yX11_isYear wsX11_isYear ({ frames := 1, cells := 0, slots := 0, locals := 64 }) (va_Pc [.int c] (xR (dC, dI) tys ws)) (vp_Si (fun r => (r = 1 ∧ 0 ≤ c_t ∧ c_t ≤ 9) ∨ (r = 0 ∧ ¬ (0 ≤ c_t ∧ c_t ≤ 9)))) 0 0 (fun _ => False) := by
  refine Met.ofW (cc := cX11_isYear) (maxL := 1) (ret := (some .boolean)) (by decide) rfl ?_
  intro pr_ ev_ s m args below meth cd_ s₁ B hml hv
  obtain ⟨rfl, hE, hK, hP⟩ := hv
  have hx := B.exec
  have hb := B.bytes
  have hr := B.returns
  have hts := atoms_spec (ws := wsX11_isYear) B.pre
  have hown : s.vm.findClass RX11 = some m.cls := findClass_of_methodNamed B.named
  have hlocks := B.notSynchronized
  have hl := lv_entry ([.int c]) (n := 1) (Nat.le_of_ble_eq_true rfl)
  rw [lg_entry_eq]
  generalize (lg_sl ([.int c]) ++ List.replicate (1 - (lg_sl ([.int c])).length) Slot.unset).toArray = ls at hl ⊢
  have hl : lv_has ls 1 [(0, .int c)] := hl
  have lo_c := xi_lo c
  have hi_c := xi_hi c
  refine lv_iload_n hx hb dX11_isYear_0 rfl (lv_at hl 0 rfl) ?_
  refine lv_if_lt (tgt := 14) hx hb dX11_isYear_1 (by decide) (fun c1 => ?_) (fun c1 => ?_)
  · have ic1 := (xi_lt c1 rfl (by decide) : c.toInt < 0)
    refine lv_iconst (v := 0) hx hb dX11_isYear_14 (by decide) ?_
    exact W.zret (v := 0) hx hb hr (by decide) (fun t ht hW => ⟨0, rfl, by first | exact Or.inl ⟨by first | rfl | exact xi_k (k := 1) (by decide) (by omega), by first | trivial | omega⟩ | exact Or.inr (⟨by first | rfl | exact xi_k (k := 0) (by decide) (by omega), by first | trivial | omega⟩), ht⟩) (fun _ h => by cases h) dX11_isYear_15
  · have ic1 := (xi_nlt c1 rfl (by decide) : 0 ≤ c.toInt)
    refine lv_iload_n hx hb dX11_isYear_4 rfl (lv_at hl 0 rfl) ?_
    refine lv_bipush (v := 10) hx hb dX11_isYear_5 (by decide) ?_
    refine lv_icmp_ge (tgt := 14) hx hb dX11_isYear_7 (by decide) (fun c2 => ?_) (fun c2 => ?_)
    · have ic2 := (xi_le c2 (by decide) rfl : 10 ≤ c.toInt)
      refine lv_iconst (v := 0) hx hb dX11_isYear_14 (by decide) ?_
      exact W.zret (v := 0) hx hb hr (by decide) (fun t ht hW => ⟨0, rfl, by first | exact Or.inl ⟨by first | rfl | exact xi_k (k := 1) (by decide) (by omega), by first | trivial | omega⟩ | exact Or.inr (⟨by first | rfl | exact xi_k (k := 0) (by decide) (by omega), by first | trivial | omega⟩), ht⟩) (fun _ h => by cases h) dX11_isYear_15
    · have ic2 := (xi_nle c2 (by decide) rfl : c.toInt < 10)
      refine lv_iconst (v := 1) hx hb dX11_isYear_10 (by decide) ?_
      refine lv_goto (tgt := 15) hx hb dX11_isYear_11 (by decide) ?_
      exact W.zret (v := 1) hx hb hr (by decide) (fun t ht hW => ⟨1, rfl, by first | exact Or.inl ⟨by first | rfl | exact xi_k (k := 1) (by decide) (by omega), by first | trivial | omega⟩ | exact Or.inr (⟨by first | rfl | exact xi_k (k := 0) (by decide) (by omega), by first | trivial | omega⟩), ht⟩) (fun _ h => by cases h) dX11_isYear_15
set_option maxHeartbeats 4000000 in
set_option maxRecDepth 100000 in
theorem cX11_isWorth_ (l : Launch) (dC : Nat → ClassId) (dI : Nat → Nat → Nat) (ws : va_W) (tys : List (ClassId × FieldType))  (c : Int32) (c_t : Int) (h_c : c.toInt = c_t)  : Met l yX11_isWorth wsX11_isWorth ({ frames := 1, cells := 0, slots := 0, locals := 64 }) (va_Pc [.int c] (xR (dC, dI) tys ws)) (vp_Si (fun r => (r = 1 ∧ 0 ≤ c_t ∧ c_t ≤ 9999) ∨ (r = 0 ∧ ¬ (0 ≤ c_t ∧ c_t ≤ 9999)))) 0 0 (fun _ => False) := by
  refine Met.ofW (cc := cX11_isWorth) (maxL := 1) (ret := (some .boolean)) (by decide) rfl ?_
  intro pr_ ev_ s m args below meth cd_ s₁ B hml hv
  obtain ⟨rfl, hE, hK, hP⟩ := hv
  have hx := B.exec
  have hb := B.bytes
  have hr := B.returns
  have hts := atoms_spec (ws := wsX11_isWorth) B.pre
  have hown : s.vm.findClass RX11 = some m.cls := findClass_of_methodNamed B.named
  have hlocks := B.notSynchronized
  have hl := lv_entry ([.int c]) (n := 1) (Nat.le_of_ble_eq_true rfl)
  rw [lg_entry_eq]
  generalize (lg_sl ([.int c]) ++ List.replicate (1 - (lg_sl ([.int c])).length) Slot.unset).toArray = ls at hl ⊢
  have hl : lv_has ls 1 [(0, .int c)] := hl
  have lo_c := xi_lo c
  have hi_c := xi_hi c
  refine lv_iload_n hx hb dX11_isWorth_0 rfl (lv_at hl 0 rfl) ?_
  refine lv_if_lt (tgt := 15) hx hb dX11_isWorth_1 (by decide) (fun c1 => ?_) (fun c1 => ?_)
  · have ic1 := (xi_lt c1 rfl (by decide) : c.toInt < 0)
    refine lv_iconst (v := 0) hx hb dX11_isWorth_15 (by decide) ?_
    exact W.zret (v := 0) hx hb hr (by decide) (fun t ht hW => ⟨0, rfl, by first | exact Or.inl ⟨by first | rfl | exact xi_k (k := 1) (by decide) (by omega), by first | trivial | omega⟩ | exact Or.inr (⟨by first | rfl | exact xi_k (k := 0) (by decide) (by omega), by first | trivial | omega⟩), ht⟩) (fun _ h => by cases h) dX11_isWorth_16
  · have ic1 := (xi_nlt c1 rfl (by decide) : 0 ≤ c.toInt)
    refine lv_iload_n hx hb dX11_isWorth_4 rfl (lv_at hl 0 rfl) ?_
    refine lv_sipush (v := 9999) hx hb dX11_isWorth_5 (by decide) ?_
    refine lv_icmp_gt (tgt := 15) hx hb dX11_isWorth_8 (by decide) (fun c2 => ?_) (fun c2 => ?_)
    · have ic2 := (xi_lt c2 (by decide) rfl : 9999 < c.toInt)
      refine lv_iconst (v := 0) hx hb dX11_isWorth_15 (by decide) ?_
      exact W.zret (v := 0) hx hb hr (by decide) (fun t ht hW => ⟨0, rfl, by first | exact Or.inl ⟨by first | rfl | exact xi_k (k := 1) (by decide) (by omega), by first | trivial | omega⟩ | exact Or.inr (⟨by first | rfl | exact xi_k (k := 0) (by decide) (by omega), by first | trivial | omega⟩), ht⟩) (fun _ h => by cases h) dX11_isWorth_16
    · have ic2 := (xi_nlt c2 (by decide) rfl : c.toInt ≤ 9999)
      refine lv_iconst (v := 1) hx hb dX11_isWorth_11 (by decide) ?_
      refine lv_goto (tgt := 16) hx hb dX11_isWorth_12 (by decide) ?_
      exact W.zret (v := 1) hx hb hr (by decide) (fun t ht hW => ⟨1, rfl, by first | exact Or.inl ⟨by first | rfl | exact xi_k (k := 1) (by decide) (by omega), by first | trivial | omega⟩ | exact Or.inr (⟨by first | rfl | exact xi_k (k := 0) (by decide) (by omega), by first | trivial | omega⟩), ht⟩) (fun _ h => by cases h) dX11_isWorth_16
set_option maxHeartbeats 4000000 in
set_option maxRecDepth 100000 in
theorem cX0_now (l : Launch) (dC : Nat → ClassId) (dI : Nat → Nat → Nat) (ws : va_W) (tys : List (ClassId × FieldType)) {ac bk de fi lb pl su : Nat}  (p0 : Nat) (e0 : ws[p0]? = some (bk, .inr (0, [.ref lb, .ref pl, .int 0, .int 0, .ref de, .ref su, .ref fi, .int 0, .ref ac]))) (y : Int32) (y_t : Int) (h_y : y.toInt = y_t)  : Met l yX0_isNowOrLater wsX0_isNowOrLater ({ frames := 2, cells := 0, slots := 0, locals := 128 }) (va_Pc [.ref bk, .int y] (xR (dC, dI) tys ws)) (vp_Si (fun r => (r = 1 ∧ 0 ≤ y_t ∧ y_t ≤ 9) ∨ (r = 0 ∧ ¬ (0 ≤ y_t ∧ y_t ≤ 9)))) 0 0 (fun _ => False) := by
  refine Met.ofW (cc := cX0_isNowOrLater) (maxL := 2) (ret := (some .boolean)) (by decide) rfl ?_
  intro pr_ ev_ s m args below meth cd_ s₁ B hml hv
  obtain ⟨rfl, hE, hK, hP⟩ := hv
  have hx := B.exec
  have hb := B.bytes
  have hr := B.returns
  have hts := atoms_spec (ws := wsX0_isNowOrLater) B.pre
  have hown : s.vm.findClass RX0 = some m.cls := findClass_of_methodNamed B.named
  have hlocks := B.notSynchronized
  have iX0 : ∀ w ∈ u_ws RX0 TX0 9, w ∈ wsX0_isNowOrLater := by decide +kernel
  have hl := lv_entry ([.ref bk, .int y]) (n := 2) (Nat.le_of_ble_eq_true rfl)
  rw [lg_entry_eq]
  generalize (lg_sl ([.ref bk, .int y]) ++ List.replicate (2 - (lg_sl ([.ref bk, .int y])).length) Slot.unset).toArray = ls at hl ⊢
  have hl : lv_has ls 2 [(0, .ref bk), (1, .int y)] := hl
  have lo_y := xi_lo y
  have hi_y := xi_hi y
  refine lv_iload_n hx hb dX0_isNowOrLater_0 rfl (lv_at hl 1 rfl) ?_
  refine vp_callSi (xr_of (va_runSN (As := [.int y]) (rest := []) ⟨hx, hb, hml, hown, hts⟩ (cX11_isYear_ l dC dI ws tys y (y.toInt) rfl) (⟨va_cnB 1 hts gX0_isNowOrLater_X11_isYear_n47 rfl rfl rfl (hE.link 5 rfl) (hts (.initialized RX11) (by decide +kernel)) (by decide +kernel) ⟨Nat.le_of_ble_eq_true rfl, Nat.le_of_ble_eq_true rfl⟩, hts (.static yX11_isYear) (by decide +kernel), trivial⟩) ⟨xR_blind _ _ _ _, xR_pre _ hE hK hP⟩ rfl rfl hl.1 rfl (lv_room (Nat.le_of_ble_eq_true rfl)) dX0_isNowOrLater_1 ⟨Nat.le_of_ble_eq_true rfl, Nat.le_of_ble_eq_true rfl⟩)) (fun rh1 h1 => ?_)
  rcases h1 with ⟨rfl, h1⟩ | ⟨rfl, h1⟩
  · skip
    refine lv_if_eq (tgt := 19) hx hb dX0_isNowOrLater_4 (by decide) (fun h => absurd h (by decide)) (fun _ => ?_)
    refine lv_iload_n hx hb dX0_isNowOrLater_7 rfl (lv_at hl 1 rfl) ?_
    refine lv_aload_n hx hb dX0_isNowOrLater_8 rfl (lv_at hl 0 rfl) ?_
    refine va_get (D := (dC, dI)) (ci := 0) (v := .int 0) (C := RX0) (T := TX0) (N := 9) hx hb hts iX0 hown hK hP p0 e0 rfl 3 (by decide) (hts (.fieldLink RX0 37 "CapLeague$Books" "clock" "I") (by decide +kernel)) (fun _ h9 => h9) rfl dX0_isNowOrLater_9 ?_
    refine lv_icmp_lt (tgt := 19) hx hb dX0_isNowOrLater_12 (by decide) (fun h => absurd (xi_lt h rfl (by decide) : y.toInt < 0) (by omega)) (fun c3 => ?_)
    have ic3 := (xi_nlt c3 rfl (by decide) : 0 ≤ y.toInt)
    refine lv_iconst (v := 1) hx hb dX0_isNowOrLater_15 (by decide) ?_
    refine lv_goto (tgt := 20) hx hb dX0_isNowOrLater_16 (by decide) ?_
    exact W.zret (v := 1) hx hb hr (by decide) (fun t ht hW => ⟨1, rfl, by first | exact Or.inl ⟨by first | rfl | exact xi_k (k := 1) (by decide) (by omega), by first | trivial | omega⟩ | exact Or.inr (⟨by first | rfl | exact xi_k (k := 0) (by decide) (by omega), by first | trivial | omega⟩), ht⟩) (fun _ h => by cases h) dX0_isNowOrLater_20
  · skip
    refine lv_if_eq (tgt := 19) hx hb dX0_isNowOrLater_4 (by decide) (fun _ => ?_) (fun h => absurd (by decide) h)
    refine lv_iconst (v := 0) hx hb dX0_isNowOrLater_19 (by decide) ?_
    exact W.zret (v := 0) hx hb hr (by decide) (fun t ht hW => ⟨0, rfl, by first | exact Or.inl ⟨by first | rfl | exact xi_k (k := 1) (by decide) (by omega), by first | trivial | omega⟩ | exact Or.inr (⟨by first | rfl | exact xi_k (k := 0) (by decide) (by omega), by first | trivial | omega⟩), ht⟩) (fun _ h => by cases h) dX0_isNowOrLater_20
set_option maxHeartbeats 4000000 in
set_option maxRecDepth 100000 in
theorem cX0_pat (l : Launch) (dC : Nat → ClassId) (dI : Nat → Nat → Nat) (ws : va_W) (tys : List (ClassId × FieldType)) {ac bk de fi lb pl su : Nat}  (p0 : Nat) (e0 : ws[p0]? = some (bk, .inr (0, [.ref lb, .ref pl, .int 0, .int 0, .ref de, .ref su, .ref fi, .int 0, .ref ac]))) (q : Int32) (q_t : Int) (h_q : q.toInt = q_t)  : Met l yX0_playerAt wsX0_playerAt ({ frames := 1, cells := 0, slots := 0, locals := 64 }) (va_Pc [.ref bk, .int q] (xR (dC, dI) tys ws)) (va_Sq (fun r => (r = none ∧ True))) 0 0 (fun _ => False) := by
  refine Met.ofW (cc := cX0_playerAt) (maxL := 2) (ret := (some (.object "CapLeague$Player"))) (by decide) rfl ?_
  intro pr_ ev_ s m args below meth cd_ s₁ B hml hv
  obtain ⟨rfl, hE, hK, hP⟩ := hv
  have hx := B.exec
  have hb := B.bytes
  have hr := B.returns
  have hts := atoms_spec (ws := wsX0_playerAt) B.pre
  have hown : s.vm.findClass RX0 = some m.cls := findClass_of_methodNamed B.named
  have hlocks := B.notSynchronized
  have iX0 : ∀ w ∈ u_ws RX0 TX0 9, w ∈ wsX0_playerAt := by decide +kernel
  have hl := lv_entry ([.ref bk, .int q]) (n := 2) (Nat.le_of_ble_eq_true rfl)
  rw [lg_entry_eq]
  generalize (lg_sl ([.ref bk, .int q]) ++ List.replicate (2 - (lg_sl ([.ref bk, .int q])).length) Slot.unset).toArray = ls at hl ⊢
  have hl : lv_has ls 2 [(0, .ref bk), (1, .int q)] := hl
  have lo_q := xi_lo q
  have hi_q := xi_hi q
  refine lv_iload_n hx hb dX0_playerAt_0 rfl (lv_at hl 1 rfl) ?_
  refine lv_if_lt (tgt := 30) hx hb dX0_playerAt_1 (by decide) (fun c1 => ?_) (fun c1 => ?_)
  · have ic1 := (xi_lt c1 rfl (by decide) : q.toInt < 0)
    refine lv_null hx hb dX0_playerAt_30 ?_
    exact W.aret (v := .null) hx hb hr (Or.inl ⟨_, rfl⟩) (Or.inl rfl) (fun t ht hW => ⟨none, rfl, by first | exact ⟨by first | rfl, by first | trivial | omega⟩, ht⟩) (fun _ h => by cases h) dX0_playerAt_31
  · have ic1 := (xi_nlt c1 rfl (by decide) : 0 ≤ q.toInt)
    refine lv_iload_n hx hb dX0_playerAt_4 rfl (lv_at hl 1 rfl) ?_
    refine lv_aload_n hx hb dX0_playerAt_5 rfl (lv_at hl 0 rfl) ?_
    refine va_get (D := (dC, dI)) (ci := 0) (v := .int 0) (C := RX0) (T := TX0) (N := 9) hx hb hts iX0 hown hK hP p0 e0 rfl 2 (by decide) (hts (.fieldLink RX0 51 "CapLeague$Books" "size" "I") (by decide +kernel)) (fun _ h9 => h9) rfl dX0_playerAt_6 ?_
    refine lv_icmp_ge (tgt := 30) hx hb dX0_playerAt_9 (by decide) (fun c2 => ?_) (fun h => absurd (xi_nle h (by decide) rfl : q.toInt < 0) (by omega))
    have ic2 := (xi_le c2 (by decide) rfl : 0 ≤ q.toInt)
    refine lv_null hx hb dX0_playerAt_30 ?_
    exact W.aret (v := .null) hx hb hr (Or.inl ⟨_, rfl⟩) (Or.inl rfl) (fun t ht hW => ⟨none, rfl, by first | exact ⟨by first | rfl, by first | trivial | omega⟩, ht⟩) (fun _ h => by cases h) dX0_playerAt_31
set_option maxHeartbeats 4000000 in
set_option maxRecDepth 100000 in
theorem cX8_room (l : Launch) (dC : Nat → ClassId) (dI : Nat → Nat → Nat) (ws : va_W) (tys : List (ClassId × FieldType)) {by_ tp : Nat}  (p0 : Nat) (e0 : ws[p0]? = some (tp, .inr (8, [.ref by_, .int 0])))   : Met l yX8_hasRoom wsX8_hasRoom ({ frames := 1, cells := 0, slots := 0, locals := 64 }) (va_Pc [.ref tp] (xR (dC, dI) tys ws)) (vp_Si (fun r => (r = 1 ∧ True))) 0 0 (fun _ => False) := by
  refine Met.ofW (cc := cX8_hasRoom) (maxL := 1) (ret := (some .boolean)) (by decide) rfl ?_
  intro pr_ ev_ s m args below meth cd_ s₁ B hml hv
  obtain ⟨rfl, hE, hK, hP⟩ := hv
  have hx := B.exec
  have hb := B.bytes
  have hr := B.returns
  have hts := atoms_spec (ws := wsX8_hasRoom) B.pre
  have hown : s.vm.findClass RX8 = some m.cls := findClass_of_methodNamed B.named
  have hlocks := B.notSynchronized
  have iX8 : ∀ w ∈ u_ws RX8 TX8 2, w ∈ wsX8_hasRoom := by decide +kernel
  have hl := lv_entry ([.ref tp]) (n := 1) (Nat.le_of_ble_eq_true rfl)
  rw [lg_entry_eq]
  generalize (lg_sl ([.ref tp]) ++ List.replicate (1 - (lg_sl ([.ref tp])).length) Slot.unset).toArray = ls at hl ⊢
  have hl : lv_has ls 1 [(0, .ref tp)] := hl
  refine lv_aload_n hx hb dX8_hasRoom_0 rfl (lv_at hl 0 rfl) ?_
  refine va_get (D := (dC, dI)) (ci := 8) (v := .int 0) (C := RX8) (T := TX8) (N := 2) hx hb hts iX8 hown hK hP p0 e0 rfl 1 (by decide) (hts (.fieldLink RX8 15 "CapLeague$Tape" "size" "I") (by decide +kernel)) (fun _ h9 => h9) rfl dX8_hasRoom_1 ?_
  refine lv_bipush (v := 20) hx hb dX8_hasRoom_4 (by decide) ?_
  refine lv_iadd hx hb dX8_hasRoom_6 ?_
  refine xw_i (v := 20) (by decide) ?_
  refine lv_sipush (v := 500) hx hb dX8_hasRoom_7 (by decide) ?_
  refine lv_icmp_gt (tgt := 17) hx hb dX8_hasRoom_10 (by decide) (fun h => absurd h (by decide)) (fun _ => ?_)
  refine lv_iconst (v := 1) hx hb dX8_hasRoom_13 (by decide) ?_
  refine lv_goto (tgt := 18) hx hb dX8_hasRoom_14 (by decide) ?_
  exact W.zret (v := 1) hx hb hr (by decide) (fun t ht hW => ⟨1, rfl, by first | exact ⟨by first | rfl | exact xi_k (k := 1) (by decide) (by omega), by first | trivial | omega⟩, ht⟩) (fun _ h => by cases h) dX8_hasRoom_18
set_option maxHeartbeats 4000000 in
set_option maxRecDepth 100000 in
theorem rX8_at (l : Launch) (dC : Nat → ClassId) (dI : Nat → Nat → Nat) (ws : va_W) (tys : List (ClassId × FieldType)) {by_ tp : Nat}  (p0 : Nat) (e0 : ws[p0]? = some (tp, .inr (8, [.ref by_, .int 0]))) (q : Int32) (q_t : Int) (h_q : q.toInt = q_t)  : Met l yX8_at wsX8_at ({ frames := 1, cells := 0, slots := 0, locals := 64 }) (va_Pc [.ref tp, .int q] (xR (dC, dI) tys ws)) (vp_Si (fun r => (r = (-1) ∧ True))) 0 0 (fun _ => False) := by
  refine Met.ofW (cc := cX8_at) (maxL := 2) (ret := (some .int)) (by decide) rfl ?_
  intro pr_ ev_ s m args below meth cd_ s₁ B hml hv
  obtain ⟨rfl, hE, hK, hP⟩ := hv
  have hx := B.exec
  have hb := B.bytes
  have hr := B.returns
  have hts := atoms_spec (ws := wsX8_at) B.pre
  have hown : s.vm.findClass RX8 = some m.cls := findClass_of_methodNamed B.named
  have hlocks := B.notSynchronized
  have iX8 : ∀ w ∈ u_ws RX8 TX8 2, w ∈ wsX8_at := by decide +kernel
  have hl := lv_entry ([.ref tp, .int q]) (n := 2) (Nat.le_of_ble_eq_true rfl)
  rw [lg_entry_eq]
  generalize (lg_sl ([.ref tp, .int q]) ++ List.replicate (2 - (lg_sl ([.ref tp, .int q])).length) Slot.unset).toArray = ls at hl ⊢
  have hl : lv_has ls 2 [(0, .ref tp), (1, .int q)] := hl
  have lo_q := xi_lo q
  have hi_q := xi_hi q
  refine lv_iload_n hx hb dX8_at_0 rfl (lv_at hl 1 rfl) ?_
  refine lv_if_lt (tgt := 34) hx hb dX8_at_1 (by decide) (fun c1 => ?_) (fun c1 => ?_)
  · have ic1 := (xi_lt c1 rfl (by decide) : q.toInt < 0)
    refine lv_iconst (v := (-1)) hx hb dX8_at_34 (by decide) ?_
    exact W.iret (v := (-1)) hx hb hr (fun t ht hW => ⟨(-1), rfl, by first | exact ⟨by first | rfl | exact xi_k (k := (-1)) (by decide) (by omega), by first | trivial | omega⟩, ht⟩) (fun _ h => by cases h) dX8_at_35
  · have ic1 := (xi_nlt c1 rfl (by decide) : 0 ≤ q.toInt)
    refine lv_iload_n hx hb dX8_at_4 rfl (lv_at hl 1 rfl) ?_
    refine lv_aload_n hx hb dX8_at_5 rfl (lv_at hl 0 rfl) ?_
    refine va_get (D := (dC, dI)) (ci := 8) (v := .int 0) (C := RX8) (T := TX8) (N := 2) hx hb hts iX8 hown hK hP p0 e0 rfl 1 (by decide) (hts (.fieldLink RX8 15 "CapLeague$Tape" "size" "I") (by decide +kernel)) (fun _ h9 => h9) rfl dX8_at_6 ?_
    refine lv_icmp_ge (tgt := 34) hx hb dX8_at_9 (by decide) (fun c2 => ?_) (fun h => absurd (xi_nle h (by decide) rfl : q.toInt < 0) (by omega))
    have ic2 := (xi_le c2 (by decide) rfl : 0 ≤ q.toInt)
    refine lv_iconst (v := (-1)) hx hb dX8_at_34 (by decide) ?_
    exact W.iret (v := (-1)) hx hb hr (fun t ht hW => ⟨(-1), rfl, by first | exact ⟨by first | rfl | exact xi_k (k := (-1)) (by decide) (by omega), by first | trivial | omega⟩, ht⟩) (fun _ h => by cases h) dX8_at_35
set_option maxHeartbeats 4000000 in
set_option maxRecDepth 100000 in
theorem cX2_drawn (l : Launch) (dC : Nat → ClassId) (dI : Nat → Nat → Nat) (ws : va_W) (tys : List (ClassId × FieldType)) {dn dr hv od ra : Nat} {cb : ClassId}  (p0 : Nat) (e0 : ws[p0]? = some (dr, .inr (2, [.ref ra, .int 0, .ref dn, .ref od, .ref hv, .long 0, .long 1]))) (p1 : Nat) (e1 : ws[p1]? = some (dn, .inl (cb, 10, .inl (fun _ => 0)))) (t1 : Nat) (y1 : tys[t1]? = some (cb, .boolean)) (y : Int32) (y_t : Int) (h_y : y.toInt = y_t)  : Met l yX2_isDrawn wsX2_isDrawn ({ frames := 2, cells := 0, slots := 0, locals := 128 }) (va_Pc [.ref dr, .int y] (xR (dC, dI) tys ws)) (vp_Si (fun r => (r = 0 ∧ True))) 0 0 (fun _ => False) := by
  refine Met.ofW (cc := cX2_isDrawn) (maxL := 2) (ret := (some .boolean)) (by decide) rfl ?_
  intro pr_ ev_ s m args below meth cd_ s₁ B hml hv
  obtain ⟨rfl, hE, hK, hP⟩ := hv
  have hx := B.exec
  have hb := B.bytes
  have hr := B.returns
  have hts := atoms_spec (ws := wsX2_isDrawn) B.pre
  have hown : s.vm.findClass RX2 = some m.cls := findClass_of_methodNamed B.named
  have hlocks := B.notSynchronized
  have iX2 : ∀ w ∈ u_ws RX2 TX2 7, w ∈ wsX2_isDrawn := by decide +kernel
  have hl := lv_entry ([.ref dr, .int y]) (n := 2) (Nat.le_of_ble_eq_true rfl)
  rw [lg_entry_eq]
  generalize (lg_sl ([.ref dr, .int y]) ++ List.replicate (2 - (lg_sl ([.ref dr, .int y])).length) Slot.unset).toArray = ls at hl ⊢
  have hl : lv_has ls 2 [(0, .ref dr), (1, .int y)] := hl
  have lo_y := xi_lo y
  have hi_y := xi_hi y
  refine lv_iload_n hx hb dX2_isDrawn_0 rfl (lv_at hl 1 rfl) ?_
  refine vp_callSi (xr_of (va_runSN (As := [.int y]) (rest := []) ⟨hx, hb, hml, hown, hts⟩ (cX11_isYear_ l dC dI ws tys y (y.toInt) rfl) (⟨va_cnB 1 hts gX2_isDrawn_X11_isYear_n31 rfl rfl rfl (hE.link 10 rfl) (hts (.initialized RX11) (by decide +kernel)) (by decide +kernel) ⟨Nat.le_of_ble_eq_true rfl, Nat.le_of_ble_eq_true rfl⟩, hts (.static yX11_isYear) (by decide +kernel), trivial⟩) ⟨xR_blind _ _ _ _, xR_pre _ hE hK hP⟩ rfl rfl hl.1 rfl (lv_room (Nat.le_of_ble_eq_true rfl)) dX2_isDrawn_1 ⟨Nat.le_of_ble_eq_true rfl, Nat.le_of_ble_eq_true rfl⟩)) (fun rh1 h1 => ?_)
  rcases h1 with ⟨rfl, h1⟩ | ⟨rfl, h1⟩
  · skip
    refine lv_if_eq (tgt := 20) hx hb dX2_isDrawn_4 (by decide) (fun h => absurd h (by decide)) (fun _ => ?_)
    refine lv_aload_n hx hb dX2_isDrawn_7 rfl (lv_at hl 0 rfl) ?_
    refine va_get (D := (dC, dI)) (ci := 2) (v := .ref dn) (C := RX2) (T := TX2) (N := 7) hx hb hts iX2 hown hK hP p0 e0 rfl 2 (by decide) (hts (.fieldLink RX2 15 "CapLeague$Draft" "drawn" "[Z") (by decide +kernel)) (fun _ h9 => h9) rfl dX2_isDrawn_8 ?_
    refine lv_iload_n hx hb dX2_isDrawn_11 rfl (lv_at hl 1 rfl) ?_
    refine va_zald (D := (dC, dI)) hx hb hK hP p1 t1 e1 y1 (xi_in (by omega) (by omega)) dX2_isDrawn_12 ?_
    refine xw_i (v := 0) rfl ?_
    refine lv_if_eq (tgt := 20) hx hb dX2_isDrawn_13 (by decide) (fun _ => ?_) (fun h => absurd (by decide) h)
    refine lv_iconst (v := 0) hx hb dX2_isDrawn_20 (by decide) ?_
    exact W.zret (v := 0) hx hb hr (by decide) (fun t ht hW => ⟨0, rfl, by first | exact ⟨by first | rfl | exact xi_k (k := 0) (by decide) (by omega), by first | trivial | omega⟩, ht⟩) (fun _ h => by cases h) dX2_isDrawn_21
  · skip
    refine lv_if_eq (tgt := 20) hx hb dX2_isDrawn_4 (by decide) (fun _ => ?_) (fun h => absurd (by decide) h)
    refine lv_iconst (v := 0) hx hb dX2_isDrawn_20 (by decide) ?_
    exact W.zret (v := 0) hx hb hr (by decide) (fun t ht hW => ⟨0, rfl, by first | exact ⟨by first | rfl | exact xi_k (k := 0) (by decide) (by omega), by first | trivial | omega⟩, ht⟩) (fun _ h => by cases h) dX2_isDrawn_21
set_option maxHeartbeats 4000000 in
set_option maxRecDepth 100000 in
theorem cX9_empty (l : Launch) (dC : Nat → ClassId) (dI : Nat → Nat → Nat) (ws : va_W) (tys : List (ClassId × FieldType)) {bk cg td tf th tn to ts tt : Nat}  (p0 : Nat) (e0 : ws[p0]? = some (td, .inr (9, [.ref bk, .ref tn, .ref cg, .int 0, .int 0, .ref tt, .ref th, .ref tf, .ref to, .ref ts])))   : Met l yX9_isEmpty wsX9_isEmpty ({ frames := 1, cells := 0, slots := 0, locals := 64 }) (va_Pc [.ref td] (xR (dC, dI) tys ws)) (vp_Si (fun r => (r = 1 ∧ True))) 0 0 (fun _ => False) := by
  refine Met.ofW (cc := cX9_isEmpty) (maxL := 1) (ret := (some .boolean)) (by decide) rfl ?_
  intro pr_ ev_ s m args below meth cd_ s₁ B hml hv
  obtain ⟨rfl, hE, hK, hP⟩ := hv
  have hx := B.exec
  have hb := B.bytes
  have hr := B.returns
  have hts := atoms_spec (ws := wsX9_isEmpty) B.pre
  have hown : s.vm.findClass RX9 = some m.cls := findClass_of_methodNamed B.named
  have hlocks := B.notSynchronized
  have iX9 : ∀ w ∈ u_ws RX9 TX9 10, w ∈ wsX9_isEmpty := by decide +kernel
  have hl := lv_entry ([.ref td]) (n := 1) (Nat.le_of_ble_eq_true rfl)
  rw [lg_entry_eq]
  generalize (lg_sl ([.ref td]) ++ List.replicate (1 - (lg_sl ([.ref td])).length) Slot.unset).toArray = ls at hl ⊢
  have hl : lv_has ls 1 [(0, .ref td)] := hl
  refine lv_aload_n hx hb dX9_isEmpty_0 rfl (lv_at hl 0 rfl) ?_
  refine va_get (D := (dC, dI)) (ci := 9) (v := .int 0) (C := RX9) (T := TX9) (N := 10) hx hb hts iX9 hown hK hP p0 e0 rfl 3 (by decide) (hts (.fieldLink RX9 43 "CapLeague$Trade" "size" "I") (by decide +kernel)) (fun _ h9 => h9) rfl dX9_isEmpty_1 ?_
  refine lv_if_ne (tgt := 11) hx hb dX9_isEmpty_4 (by decide) (fun h => absurd (by decide) h) (fun _ => ?_)
  refine lv_iconst (v := 1) hx hb dX9_isEmpty_7 (by decide) ?_
  refine lv_goto (tgt := 12) hx hb dX9_isEmpty_8 (by decide) ?_
  exact W.zret (v := 1) hx hb hr (by decide) (fun t ht hW => ⟨1, rfl, by first | exact ⟨by first | rfl | exact xi_k (k := 1) (by decide) (by omega), by first | trivial | omega⟩, ht⟩) (fun _ h => by cases h) dX9_isEmpty_12
set_option maxHeartbeats 4000000 in
set_option maxRecDepth 100000 in
theorem rX9_has (l : Launch) (dC : Nat → ClassId) (dI : Nat → Nat → Nat) (ws : va_W) (tys : List (ClassId × FieldType)) {bk cg td tf th tn to ts tt : Nat}  (p0 : Nat) (e0 : ws[p0]? = some (td, .inr (9, [.ref bk, .ref tn, .ref cg, .int 0, .int 0, .ref tt, .ref th, .ref tf, .ref to, .ref ts]))) (q : Int32) (q_t : Int) (h_q : q.toInt = q_t) (b : Int32) (b_t : Int) (h_b : b.toInt = b_t)  : Met l yX9_has wsX9_has ({ frames := 1, cells := 0, slots := 0, locals := 64 }) (va_Pc [.ref td, .int q, .int b] (xR (dC, dI) tys ws)) (vp_Si (fun r => (r = 0 ∧ True))) 0 0 (fun _ => False) := by
  refine Met.ofW (cc := cX9_has) (maxL := 4) (ret := (some .boolean)) (by decide) rfl ?_
  intro pr_ ev_ s m args below meth cd_ s₁ B hml hv
  obtain ⟨rfl, hE, hK, hP⟩ := hv
  have hx := B.exec
  have hb := B.bytes
  have hr := B.returns
  have hts := atoms_spec (ws := wsX9_has) B.pre
  have hown : s.vm.findClass RX9 = some m.cls := findClass_of_methodNamed B.named
  have hlocks := B.notSynchronized
  have iX9 : ∀ w ∈ u_ws RX9 TX9 10, w ∈ wsX9_has := by decide +kernel
  have hl := lv_entry ([.ref td, .int q, .int b]) (n := 4) (Nat.le_of_ble_eq_true rfl)
  rw [lg_entry_eq]
  generalize (lg_sl ([.ref td, .int q, .int b]) ++ List.replicate (4 - (lg_sl ([.ref td, .int q, .int b])).length) Slot.unset).toArray = ls at hl ⊢
  have hl : lv_has ls 4 [(0, .ref td), (1, .int q), (2, .int b)] := hl
  have lo_q := xi_lo q
  have hi_q := xi_hi q
  have lo_b := xi_lo b
  have hi_b := xi_hi b
  refine lv_iconst (v := 0) hx hb dX9_has_0 (by decide) ?_
  refine lv_istore_n (lv' := [(3, .int 0), (0, .ref td), (1, .int q), (2, .int b)]) hx hb dX9_has_1 rfl hl (by decide) rfl (fun ls hl => ?_)
  refine lv_iload_n hx hb dX9_has_2 rfl (lv_at hl 0 rfl) ?_
  refine lv_aload_n hx hb dX9_has_3 rfl (lv_at hl 1 rfl) ?_
  refine va_get (D := (dC, dI)) (ci := 9) (v := .int 0) (C := RX9) (T := TX9) (N := 10) hx hb hts iX9 hown hK hP p0 e0 rfl 3 (by decide) (hts (.fieldLink RX9 43 "CapLeague$Trade" "size" "I") (by decide +kernel)) (fun _ h9 => h9) rfl dX9_has_4 ?_
  refine lv_icmp_ge (tgt := 38) hx hb dX9_has_7 (by decide) (fun _ => ?_) (fun h => absurd (by decide) h)
  refine lv_iconst (v := 0) hx hb dX9_has_38 (by decide) ?_
  exact W.zret (v := 0) hx hb hr (by decide) (fun t ht hW => ⟨0, rfl, by first | exact ⟨by first | rfl | exact xi_k (k := 0) (by decide) (by omega), by first | trivial | omega⟩, ht⟩) (fun _ h => by cases h) dX9_has_39
set_option maxHeartbeats 4000000 in
set_option maxRecDepth 100000 in
theorem rX9_hasTurn (l : Launch) (dC : Nat → ClassId) (dI : Nat → Nat → Nat) (ws : va_W) (tys : List (ClassId × FieldType)) {bk cg td tf th tn to ts tt : Nat}  (p0 : Nat) (e0 : ws[p0]? = some (td, .inr (9, [.ref bk, .ref tn, .ref cg, .int 0, .int 0, .ref tt, .ref th, .ref tf, .ref to, .ref ts]))) (q : Int32) (q_t : Int) (h_q : q.toInt = q_t)  : Met l yX9_hasTurn wsX9_hasTurn ({ frames := 2, cells := 0, slots := 0, locals := 128 }) (va_Pc [.ref td, .int q] (xR (dC, dI) tys ws)) (vp_Si (fun r => (r = 0 ∧ True))) 0 0 (fun _ => False) := by
  refine Met.ofW (cc := cX9_hasTurn) (maxL := 2) (ret := (some .boolean)) (by decide) rfl ?_
  intro pr_ ev_ s m args below meth cd_ s₁ B hml hv
  obtain ⟨rfl, hE, hK, hP⟩ := hv
  have hx := B.exec
  have hb := B.bytes
  have hr := B.returns
  have hts := atoms_spec (ws := wsX9_hasTurn) B.pre
  have hown : s.vm.findClass RX9 = some m.cls := findClass_of_methodNamed B.named
  have hlocks := B.notSynchronized
  have hl := lv_entry ([.ref td, .int q]) (n := 2) (Nat.le_of_ble_eq_true rfl)
  rw [lg_entry_eq]
  generalize (lg_sl ([.ref td, .int q]) ++ List.replicate (2 - (lg_sl ([.ref td, .int q])).length) Slot.unset).toArray = ls at hl ⊢
  have hl : lv_has ls 2 [(0, .ref td), (1, .int q)] := hl
  have lo_q := xi_lo q
  have hi_q := xi_hi q
  refine lv_aload_n hx hb dX9_hasTurn_0 rfl (lv_at hl 0 rfl) ?_
  refine lv_iload_n hx hb dX9_hasTurn_1 rfl (lv_at hl 1 rfl) ?_
  refine lv_iconst (v := 1) hx hb dX9_hasTurn_2 (by decide) ?_
  refine vp_callSi (W.runV (As := [.int q, .int 1]) (rest := []) ⟨hx, hb, hml, hown, hts⟩ (rX9_has l dC dI ws tys p0 e0 q (q.toInt) rfl 1 (1) (by decide)) (cwV 2 hts gX9_hasTurn_X9_has rfl rfl rfl (by decide +kernel) ⟨Nat.le_of_ble_eq_true rfl, Nat.le_of_ble_eq_true rfl⟩) ⟨xR_blind _ _ _ _, va_recv hK hP (ci := 9) (q0 := p0) rfl e0, xR_pre _ hE hK hP⟩ rfl rfl hl.1 rfl (lv_room (Nat.le_of_ble_eq_true rfl)) dX9_hasTurn_3 ⟨Nat.le_of_ble_eq_true rfl, Nat.le_of_ble_eq_true rfl⟩) (fun rh1 h1 => ?_)
  obtain ⟨rfl, h1⟩ := h1
  exact W.zret (v := 0) hx hb hr (by decide) (fun t ht hW => ⟨0, rfl, by first | exact ⟨by first | rfl | exact xi_k (k := 0) (by decide) (by omega), by first | trivial | omega⟩, ht⟩) (fun _ h => by cases h) dX9_hasTurn_6
set_option maxHeartbeats 4000000 in
set_option maxRecDepth 100000 in
theorem cX9_gain (l : Launch) (dC : Nat → ClassId) (dI : Nat → Nat → Nat) (ws : va_W) (tys : List (ClassId × FieldType)) {bk cg td tf th tn to ts tt : Nat}  (p0 : Nat) (e0 : ws[p0]? = some (td, .inr (9, [.ref bk, .ref tn, .ref cg, .int 0, .int 0, .ref tt, .ref th, .ref tf, .ref to, .ref ts]))) (c : Int32) (c_t : Int) (h_c : c.toInt = c_t)  : Met l yX9_gainOf wsX9_gainOf ({ frames := 1, cells := 0, slots := 0, locals := 64 }) (va_Pc [.ref td, .int c] (xR (dC, dI) tys ws)) (vp_Si (fun r => (r = 0 ∧ True))) 0 0 (fun _ => False) := by
  refine Met.ofW (cc := cX9_gainOf) (maxL := 4) (ret := (some .int)) (by decide) rfl ?_
  intro pr_ ev_ s m args below meth cd_ s₁ B hml hv
  obtain ⟨rfl, hE, hK, hP⟩ := hv
  have hx := B.exec
  have hb := B.bytes
  have hr := B.returns
  have hts := atoms_spec (ws := wsX9_gainOf) B.pre
  have hown : s.vm.findClass RX9 = some m.cls := findClass_of_methodNamed B.named
  have hlocks := B.notSynchronized
  have iX9 : ∀ w ∈ u_ws RX9 TX9 10, w ∈ wsX9_gainOf := by decide +kernel
  have hl := lv_entry ([.ref td, .int c]) (n := 4) (Nat.le_of_ble_eq_true rfl)
  rw [lg_entry_eq]
  generalize (lg_sl ([.ref td, .int c]) ++ List.replicate (4 - (lg_sl ([.ref td, .int c])).length) Slot.unset).toArray = ls at hl ⊢
  have hl : lv_has ls 4 [(0, .ref td), (1, .int c)] := hl
  have lo_c := xi_lo c
  have hi_c := xi_hi c
  refine lv_iconst (v := 0) hx hb dX9_gainOf_0 (by decide) ?_
  refine lv_istore_n (lv' := [(2, .int 0), (0, .ref td), (1, .int c)]) hx hb dX9_gainOf_1 rfl hl (by decide) rfl (fun ls hl => ?_)
  refine lv_iconst (v := 0) hx hb dX9_gainOf_2 (by decide) ?_
  refine lv_istore_n (lv' := [(3, .int 0), (2, .int 0), (0, .ref td), (1, .int c)]) hx hb dX9_gainOf_3 rfl hl (by decide) rfl (fun ls hl => ?_)
  refine lv_iload_n hx hb dX9_gainOf_4 rfl (lv_at hl 0 rfl) ?_
  refine lv_aload_n hx hb dX9_gainOf_5 rfl (lv_at hl 2 rfl) ?_
  refine va_get (D := (dC, dI)) (ci := 9) (v := .int 0) (C := RX9) (T := TX9) (N := 10) hx hb hts iX9 hown hK hP p0 e0 rfl 3 (by decide) (hts (.fieldLink RX9 43 "CapLeague$Trade" "size" "I") (by decide +kernel)) (fun _ h9 => h9) rfl dX9_gainOf_6 ?_
  refine lv_icmp_ge (tgt := 59) hx hb dX9_gainOf_9 (by decide) (fun _ => ?_) (fun h => absurd (by decide) h)
  refine lv_iload_n hx hb dX9_gainOf_59 rfl (lv_at hl 1 rfl) ?_
  exact W.iret (v := 0) hx hb hr (fun t ht hW => ⟨0, rfl, by first | exact ⟨by first | rfl | exact xi_k (k := 0) (by decide) (by omega), by first | trivial | omega⟩, ht⟩) (fun _ h => by cases h) dX9_gainOf_60
set_option maxHeartbeats 4000000 in
set_option maxRecDepth 100000 in
theorem rX7_fact (l : Launch) (dC : Nat → ClassId) (dI : Nat → Nat → Nat) (ws : va_W) (tys : List (ClassId × FieldType)) {bk co cr ct cw ga li pa pt pw rg sr : Nat}  (p0 : Nat) (e0 : ws[p0]? = some (rg, .inr (7, [.ref bk, .ref cr, .ref li, .ref sr, .ref pa, .ref co, .ref ga, .ref pt, .ref ct, .int 0, .int 0, .ref cw, .ref pw]))) (q : Int32) (q_t : Int) (h_q : q.toInt = q_t)  : Met l yX7_fact wsX7_fact ({ frames := 1, cells := 0, slots := 0, locals := 64 }) (va_Pc [.ref rg, .int q] (xR (dC, dI) tys ws)) (vp_Si (fun r => (r = (-1) ∧ True))) 0 0 (fun _ => False) := by
  refine Met.ofW (cc := cX7_fact) (maxL := 2) (ret := (some .int)) (by decide) rfl ?_
  intro pr_ ev_ s m args below meth cd_ s₁ B hml hv
  obtain ⟨rfl, hE, hK, hP⟩ := hv
  have hx := B.exec
  have hb := B.bytes
  have hr := B.returns
  have hts := atoms_spec (ws := wsX7_fact) B.pre
  have hown : s.vm.findClass RX7 = some m.cls := findClass_of_methodNamed B.named
  have hlocks := B.notSynchronized
  have iX7 : ∀ w ∈ u_ws RX7 TX7 13, w ∈ wsX7_fact := by decide +kernel
  have hl := lv_entry ([.ref rg, .int q]) (n := 2) (Nat.le_of_ble_eq_true rfl)
  rw [lg_entry_eq]
  generalize (lg_sl ([.ref rg, .int q]) ++ List.replicate (2 - (lg_sl ([.ref rg, .int q])).length) Slot.unset).toArray = ls at hl ⊢
  have hl : lv_has ls 2 [(0, .ref rg), (1, .int q)] := hl
  have lo_q := xi_lo q
  have hi_q := xi_hi q
  refine lv_iload_n hx hb dX7_fact_0 rfl (lv_at hl 1 rfl) ?_
  refine lv_if_ne (tgt := 20) hx hb dX7_fact_1 (by decide) (fun c1 => ?_) (fun c1 => ?_)
  · have ic1 := (xi_ne c1 rfl (by decide) : q.toInt ≠ 0)
    refine lv_iload_n hx hb dX7_fact_20 rfl (lv_at hl 1 rfl) ?_
    refine lv_iconst (v := 1) hx hb dX7_fact_21 (by decide) ?_
    refine lv_icmp_lt (tgt := 42) hx hb dX7_fact_22 (by decide) (fun c2 => ?_) (fun c2 => ?_)
    · have ic2 := (xi_lt c2 rfl (by decide) : q.toInt < 1)
      refine lv_iload_n hx hb dX7_fact_42 rfl (lv_at hl 1 rfl) ?_
      refine lv_iconst (v := 4) hx hb dX7_fact_43 (by decide) ?_
      refine lv_icmp_lt (tgt := 68) hx hb dX7_fact_44 (by decide) (fun c3 => ?_) (fun h => absurd (xi_nlt h rfl (by decide) : 4 ≤ q.toInt) (by omega))
      have ic3 := (xi_lt c3 rfl (by decide) : q.toInt < 4)
      refine lv_iconst (v := (-1)) hx hb dX7_fact_68 (by decide) ?_
      exact W.iret (v := (-1)) hx hb hr (fun t ht hW => ⟨(-1), rfl, by first | exact ⟨by first | rfl | exact xi_k (k := (-1)) (by decide) (by omega), by first | trivial | omega⟩, ht⟩) (fun _ h => by cases h) dX7_fact_69
    · have ic2 := (xi_nlt c2 rfl (by decide) : 1 ≤ q.toInt)
      refine lv_iload_n hx hb dX7_fact_25 rfl (lv_at hl 1 rfl) ?_
      refine lv_aload_n hx hb dX7_fact_26 rfl (lv_at hl 0 rfl) ?_
      refine va_get (D := (dC, dI)) (ci := 7) (v := .int 0) (C := RX7) (T := TX7) (N := 13) hx hb hts iX7 hown hK hP p0 e0 rfl 10 (by decide) (hts (.fieldLink RX7 71 "CapLeague$RingSearch" "clubsInRing" "I") (by decide +kernel)) (fun _ h9 => h9) rfl dX7_fact_27 ?_
      refine lv_icmp_gt (tgt := 42) hx hb dX7_fact_30 (by decide) (fun c4 => ?_) (fun h => absurd (xi_nlt h (by decide) rfl : q.toInt ≤ 0) (by omega))
      have ic4 := (xi_lt c4 (by decide) rfl : 0 < q.toInt)
      refine lv_iload_n hx hb dX7_fact_42 rfl (lv_at hl 1 rfl) ?_
      refine lv_iconst (v := 4) hx hb dX7_fact_43 (by decide) ?_
      refine lv_icmp_lt (tgt := 68) hx hb dX7_fact_44 (by decide) (fun c5 => ?_) (fun c5 => ?_)
      · have ic5 := (xi_lt c5 rfl (by decide) : q.toInt < 4)
        refine lv_iconst (v := (-1)) hx hb dX7_fact_68 (by decide) ?_
        exact W.iret (v := (-1)) hx hb hr (fun t ht hW => ⟨(-1), rfl, by first | exact ⟨by first | rfl | exact xi_k (k := (-1)) (by decide) (by omega), by first | trivial | omega⟩, ht⟩) (fun _ h => by cases h) dX7_fact_69
      · have ic5 := (xi_nlt c5 rfl (by decide) : 4 ≤ q.toInt)
        refine lv_iload_n hx hb dX7_fact_47 rfl (lv_at hl 1 rfl) ?_
        refine lv_iconst (v := 4) hx hb dX7_fact_48 (by decide) ?_
        refine lv_isub hx hb dX7_fact_49 ?_
        refine lv_topi (fun v6 ev6 => ?_)
        have jv6 : v6.toInt = q.toInt - 4 := xi_sub ev6 rfl (by decide) (by omega) (by omega)
        refine lv_aload_n hx hb dX7_fact_50 rfl (lv_at hl 0 rfl) ?_
        refine va_get (D := (dC, dI)) (ci := 7) (v := .int 0) (C := RX7) (T := TX7) (N := 13) hx hb hts iX7 hown hK hP p0 e0 rfl 10 (by decide) (hts (.fieldLink RX7 71 "CapLeague$RingSearch" "clubsInRing" "I") (by decide +kernel)) (fun _ h9 => h9) rfl dX7_fact_51 ?_
        refine lv_icmp_ge (tgt := 68) hx hb dX7_fact_54 (by decide) (fun c7 => ?_) (fun h => absurd (xi_nle h (by decide) rfl : v6.toInt < 0) (by omega))
        have ic7 := (xi_le c7 (by decide) rfl : 0 ≤ v6.toInt)
        refine lv_iconst (v := (-1)) hx hb dX7_fact_68 (by decide) ?_
        exact W.iret (v := (-1)) hx hb hr (fun t ht hW => ⟨(-1), rfl, by first | exact ⟨by first | rfl | exact xi_k (k := (-1)) (by decide) (by omega), by first | trivial | omega⟩, ht⟩) (fun _ h => by cases h) dX7_fact_69
  · have ic1 := (xi_eq c1 rfl (by decide) : q.toInt = 0)
    refine lv_aload_n hx hb dX7_fact_4 rfl (lv_at hl 0 rfl) ?_
    refine va_get (D := (dC, dI)) (ci := 7) (v := .int 0) (C := RX7) (T := TX7) (N := 13) hx hb hts iX7 hown hK hP p0 e0 rfl 10 (by decide) (hts (.fieldLink RX7 71 "CapLeague$RingSearch" "clubsInRing" "I") (by decide +kernel)) (fun _ h9 => h9) rfl dX7_fact_5 ?_
    refine lv_if_le (tgt := 18) hx hb dX7_fact_8 (by decide) (fun _ => ?_) (fun h => absurd (by decide) h)
    refine lv_iconst (v := (-1)) hx hb dX7_fact_18 (by decide) ?_
    exact W.iret (v := (-1)) hx hb hr (fun t ht hW => ⟨(-1), rfl, by first | exact ⟨by first | rfl | exact xi_k (k := (-1)) (by decide) (by omega), by first | trivial | omega⟩, ht⟩) (fun _ h => by cases h) dX7_fact_19
set_option maxHeartbeats 4000000 in
set_option maxRecDepth 100000 in
theorem cX5_lotClubs_ (l : Launch) (dC : Nat → ClassId) (dI : Nat → Nat → Nat) (ws : va_W) (tys : List (ClassId × FieldType)) {lo lw nu : Nat}  (p0 : Nat) (e0 : ws[p0]? = some (lw, .inr (5, [.ref nu, .ref lo, .int 1])))   : Met l yX5_lotClubs wsX5_lotClubs ({ frames := 1, cells := 0, slots := 0, locals := 64 }) (va_Pc [.ref lw] (xR (dC, dI) tys ws)) (vp_Si (fun r => (r = 0 ∧ True))) 0 0 (fun _ => False) := by
  refine Met.ofW (cc := cX5_lotClubs) (maxL := 1) (ret := (some .int)) (by decide) rfl ?_
  intro pr_ ev_ s m args below meth cd_ s₁ B hml hv
  obtain ⟨rfl, hE, hK, hP⟩ := hv
  have hx := B.exec
  have hb := B.bytes
  have hr := B.returns
  have hts := atoms_spec (ws := wsX5_lotClubs) B.pre
  have hown : s.vm.findClass RX5 = some m.cls := findClass_of_methodNamed B.named
  have hlocks := B.notSynchronized
  have iX5 : ∀ w ∈ u_ws RX5 TX5 3, w ∈ wsX5_lotClubs := by decide +kernel
  have hl := lv_entry ([.ref lw]) (n := 1) (Nat.le_of_ble_eq_true rfl)
  rw [lg_entry_eq]
  generalize (lg_sl ([.ref lw]) ++ List.replicate (1 - (lg_sl ([.ref lw])).length) Slot.unset).toArray = ls at hl ⊢
  have hl : lv_has ls 1 [(0, .ref lw)] := hl
  refine lv_aload_n hx hb dX5_lotClubs_0 rfl (lv_at hl 0 rfl) ?_
  refine va_get (D := (dC, dI)) (ci := 5) (v := .int 1) (C := RX5) (T := TX5) (N := 3) hx hb hts iX5 hown hK hP p0 e0 rfl 2 (by decide) (hts (.fieldLink RX5 30 "CapLeague$Laws" "lotCount" "I") (by decide +kernel)) (fun _ h9 => h9) rfl dX5_lotClubs_1 ?_
  refine lv_iconst (v := 2) hx hb dX5_lotClubs_4 (by decide) ?_
  refine lv_icmp_lt (tgt := 15) hx hb dX5_lotClubs_5 (by decide) (fun _ => ?_) (fun h => absurd (by decide) h)
  refine lv_iconst (v := 0) hx hb dX5_lotClubs_15 (by decide) ?_
  exact W.iret (v := 0) hx hb hr (fun t ht hW => ⟨0, rfl, by first | exact ⟨by first | rfl | exact xi_k (k := 0) (by decide) (by omega), by first | trivial | omega⟩, ht⟩) (fun _ h => by cases h) dX5_lotClubs_16
set_option maxHeartbeats 4000000 in
set_option maxRecDepth 100000 in
theorem cX5_areDraws_ (l : Launch) (dC : Nat → ClassId) (dI : Nat → Nat → Nat) (ws : va_W) (tys : List (ClassId × FieldType)) {lo lw nu : Nat}  (p0 : Nat) (e0 : ws[p0]? = some (lw, .inr (5, [.ref nu, .ref lo, .int 1]))) (a : Int32) (a_t : Int) (h_a : a.toInt = a_t) (b : Int32) (b_t : Int) (h_b : b.toInt = b_t)  : Met l yX5_areDraws wsX5_areDraws ({ frames := 2, cells := 0, slots := 0, locals := 128 }) (va_Pc [.ref lw, .int a, .int b] (xR (dC, dI) tys ws)) (vp_Si (fun r => (r = 1 ∧ a_t = 0 ∧ b_t = 0) ∨ (r = 0 ∧ ¬ (a_t = 0 ∧ b_t = 0)))) 0 0 (fun _ => False) := by
  refine Met.ofW (cc := cX5_areDraws) (maxL := 4) (ret := (some .boolean)) (by decide) rfl ?_
  intro pr_ ev_ s m args below meth cd_ s₁ B hml hv
  obtain ⟨rfl, hE, hK, hP⟩ := hv
  have hx := B.exec
  have hb := B.bytes
  have hr := B.returns
  have hts := atoms_spec (ws := wsX5_areDraws) B.pre
  have hown : s.vm.findClass RX5 = some m.cls := findClass_of_methodNamed B.named
  have hlocks := B.notSynchronized
  have hl := lv_entry ([.ref lw, .int a, .int b]) (n := 4) (Nat.le_of_ble_eq_true rfl)
  rw [lg_entry_eq]
  generalize (lg_sl ([.ref lw, .int a, .int b]) ++ List.replicate (4 - (lg_sl ([.ref lw, .int a, .int b])).length) Slot.unset).toArray = ls at hl ⊢
  have hl : lv_has ls 4 [(0, .ref lw), (1, .int a), (2, .int b)] := hl
  have lo_a := xi_lo a
  have hi_a := xi_hi a
  have lo_b := xi_lo b
  have hi_b := xi_hi b
  refine lv_aload_n hx hb dX5_areDraws_0 rfl (lv_at hl 0 rfl) ?_
  refine vp_callSi (W.runV (As := []) (rest := []) ⟨hx, hb, hml, hown, hts⟩ (cX5_lotClubs_ l dC dI ws tys p0 e0) (cwV 0 hts gX5_areDraws_X5_lotClubs rfl rfl rfl (by decide +kernel) ⟨Nat.le_of_ble_eq_true rfl, Nat.le_of_ble_eq_true rfl⟩) ⟨xR_blind _ _ _ _, va_recv hK hP (ci := 5) (q0 := p0) rfl e0, xR_pre _ hE hK hP⟩ rfl rfl hl.1 rfl (lv_room (Nat.le_of_ble_eq_true rfl)) dX5_areDraws_1 ⟨Nat.le_of_ble_eq_true rfl, Nat.le_of_ble_eq_true rfl⟩) (fun rh1 h1 => ?_)
  obtain ⟨rfl, h1⟩ := h1
  refine lv_if_ne (tgt := 21) hx hb dX5_areDraws_4 (by decide) (fun h => absurd (by decide) h) (fun _ => ?_)
  refine lv_iload_n hx hb dX5_areDraws_7 rfl (lv_at hl 1 rfl) ?_
  refine lv_if_ne (tgt := 19) hx hb dX5_areDraws_8 (by decide) (fun c3 => ?_) (fun c3 => ?_)
  · have ic3 := (xi_ne c3 rfl (by decide) : a.toInt ≠ 0)
    refine lv_iconst (v := 0) hx hb dX5_areDraws_19 (by decide) ?_
    exact W.zret (v := 0) hx hb hr (by decide) (fun t ht hW => ⟨0, rfl, by first | exact Or.inl ⟨by first | rfl | exact xi_k (k := 1) (by decide) (by omega), by first | trivial | omega⟩ | exact Or.inr (⟨by first | rfl | exact xi_k (k := 0) (by decide) (by omega), by first | trivial | omega⟩), ht⟩) (fun _ h => by cases h) dX5_areDraws_20
  · have ic3 := (xi_eq c3 rfl (by decide) : a.toInt = 0)
    refine lv_iload_n hx hb dX5_areDraws_11 rfl (lv_at hl 2 rfl) ?_
    refine lv_if_ne (tgt := 19) hx hb dX5_areDraws_12 (by decide) (fun c4 => ?_) (fun c4 => ?_)
    · have ic4 := (xi_ne c4 rfl (by decide) : b.toInt ≠ 0)
      refine lv_iconst (v := 0) hx hb dX5_areDraws_19 (by decide) ?_
      exact W.zret (v := 0) hx hb hr (by decide) (fun t ht hW => ⟨0, rfl, by first | exact Or.inl ⟨by first | rfl | exact xi_k (k := 1) (by decide) (by omega), by first | trivial | omega⟩ | exact Or.inr (⟨by first | rfl | exact xi_k (k := 0) (by decide) (by omega), by first | trivial | omega⟩), ht⟩) (fun _ h => by cases h) dX5_areDraws_20
    · have ic4 := (xi_eq c4 rfl (by decide) : b.toInt = 0)
      refine lv_iconst (v := 1) hx hb dX5_areDraws_15 (by decide) ?_
      refine lv_goto (tgt := 20) hx hb dX5_areDraws_16 (by decide) ?_
      exact W.zret (v := 1) hx hb hr (by decide) (fun t ht hW => ⟨1, rfl, by first | exact Or.inl ⟨by first | rfl | exact xi_k (k := 1) (by decide) (by omega), by first | trivial | omega⟩ | exact Or.inr (⟨by first | rfl | exact xi_k (k := 0) (by decide) (by omega), by first | trivial | omega⟩), ht⟩) (fun _ h => by cases h) dX5_areDraws_20
set_option maxHeartbeats 4000000 in
set_option maxRecDepth 100000 in
theorem cX0_pin (l : Launch) (dC : Nat → ClassId) (dI : Nat → Nat → Nat) (ws : va_W) (tys : List (ClassId × FieldType)) {ac bk de fi lb pl su : Nat}  (p0 : Nat) (e0 : ws[p0]? = some (bk, .inr (0, [.ref lb, .ref pl, .int 0, .int 0, .ref de, .ref su, .ref fi, .int 0, .ref ac]))) (c : Int32) (c_t : Int) (h_c : c.toInt = c_t) (y : Int32) (y_t : Int) (h_y : y.toInt = y_t)  : Met l yX0_playersIn wsX0_playersIn ({ frames := 2, cells := 0, slots := 0, locals := 128 }) (va_Pc [.ref bk, .int c, .int y] (xR (dC, dI) tys ws)) (vp_Si (fun r => (r = 0 ∧ True))) 0 0 (fun _ => False) := by
  refine Met.ofW (cc := cX0_playersIn) (maxL := 6) (ret := (some .int)) (by decide) rfl ?_
  intro pr_ ev_ s m args below meth cd_ s₁ B hml hv
  obtain ⟨rfl, hE, hK, hP⟩ := hv
  have hx := B.exec
  have hb := B.bytes
  have hr := B.returns
  have hts := atoms_spec (ws := wsX0_playersIn) B.pre
  have hown : s.vm.findClass RX0 = some m.cls := findClass_of_methodNamed B.named
  have hlocks := B.notSynchronized
  have iX0 : ∀ w ∈ u_ws RX0 TX0 9, w ∈ wsX0_playersIn := by decide +kernel
  have hl := lv_entry ([.ref bk, .int c, .int y]) (n := 6) (Nat.le_of_ble_eq_true rfl)
  rw [lg_entry_eq]
  generalize (lg_sl ([.ref bk, .int c, .int y]) ++ List.replicate (6 - (lg_sl ([.ref bk, .int c, .int y])).length) Slot.unset).toArray = ls at hl ⊢
  have hl : lv_has ls 6 [(0, .ref bk), (1, .int c), (2, .int y)] := hl
  have lo_c := xi_lo c
  have hi_c := xi_hi c
  have lo_y := xi_lo y
  have hi_y := xi_hi y
  refine lv_iconst (v := 0) hx hb dX0_playersIn_0 (by decide) ?_
  refine lv_istore_n (lv' := [(3, .int 0), (0, .ref bk), (1, .int c), (2, .int y)]) hx hb dX0_playersIn_1 rfl hl (by decide) rfl (fun ls hl => ?_)
  refine lv_iconst (v := 0) hx hb dX0_playersIn_2 (by decide) ?_
  refine lv_istore (lv' := [(4, .int 0), (3, .int 0), (0, .ref bk), (1, .int c), (2, .int y)]) hx hb dX0_playersIn_3 hl (by decide) rfl (fun ls hl => ?_)
  refine lv_iload hx hb dX0_playersIn_5 (lv_at hl 0 rfl) ?_
  refine lv_aload_n hx hb dX0_playersIn_7 rfl (lv_at hl 2 rfl) ?_
  refine va_get (D := (dC, dI)) (ci := 0) (v := .int 0) (C := RX0) (T := TX0) (N := 9) hx hb hts iX0 hown hK hP p0 e0 rfl 2 (by decide) (hts (.fieldLink RX0 51 "CapLeague$Books" "size" "I") (by decide +kernel)) (fun _ h9 => h9) rfl dX0_playersIn_8 ?_
  refine lv_icmp_ge (tgt := 54) hx hb dX0_playersIn_11 (by decide) (fun _ => ?_) (fun h => absurd (by decide) h)
  refine lv_iload_n hx hb dX0_playersIn_54 rfl (lv_at hl 1 rfl) ?_
  exact W.iret (v := 0) hx hb hr (fun t ht hW => ⟨0, rfl, by first | exact ⟨by first | rfl | exact xi_k (k := 0) (by decide) (by omega), by first | trivial | omega⟩, ht⟩) (fun _ h => by cases h) dX0_playersIn_55
