theorem xu_z {f : Nat → Int32} (h : ∀ j, f j = 0) (k : Nat) : ∀ j, upd f k 0 j = 0 := by
  intro j
  unfold upd
  split
  · rfl
  · exact h j
set_option maxHeartbeats 4000000 in
set_option maxRecDepth 100000 in
theorem wX7_line (l : Launch) (dC : Nat → ClassId) (dI : Nat → Nat → Nat) (rg bk cr li sr pa co ga pt ct cw pw lb pl de su fi ac : Nat) (k_sr : ClassId) (fz : Nat → Int32) (sz : Nat) (hz : ∀ j, fz j = 0)   : Met l yX7_lineUp wsX7_lineUp ({ frames := 1, cells := 0, slots := 0, locals := 64 }) (va_Pc [.ref rg] (xW (dC, dI) [(k_sr, .int)] [(rg, .inr (7, [.ref bk, .ref cr, .ref li, .ref sr, .ref pa, .ref co, .ref ga, .ref pt, .ref ct, .int 0, .int 0, .ref cw, .ref pw])), (bk, .inr (0, [.ref lb, .ref pl, .int 0, .int 0, .ref de, .ref su, .ref fi, .int 0, .ref ac])), (sr, .inl (k_sr, 9, .inl fz))] sz)) (va_Qv (fun (_ : Unit) => True) (fun (_ : Unit) t => ∃ (f2 : Nat → Int32), (∀ j, f2 j = 0) ∧ va_P (dC, dI) vwCl [(rg, .inr (7, [.ref bk, .ref cr, .ref li, .ref sr, .ref pa, .ref co, .ref ga, .ref pt, .ref ct, .int 0, .int 0, .ref cw, .ref pw])), (bk, .inr (0, [.ref lb, .ref pl, .int 0, .int 0, .ref de, .ref su, .ref fi, .int 0, .ref ac])), (sr, .inl (k_sr, 9, .inl f2))] t.heap ∧ va_K (dC, dI) vwCl [(k_sr, .int)] t ∧ va_D (va_A [(rg, .inr (7, [.ref bk, .ref cr, .ref li, .ref sr, .ref pa, .ref co, .ref ga, .ref pt, .ref ct, .int 0, .int 0, .ref cw, .ref pw])), (bk, .inr (0, [.ref lb, .ref pl, .int 0, .int 0, .ref de, .ref su, .ref fi, .int 0, .ref ac])), (sr, .inl (k_sr, 9, .inl fz))] sz) [(rg, .inr (7, [.ref bk, .ref cr, .ref li, .ref sr, .ref pa, .ref co, .ref ga, .ref pt, .ref ct, .int 0, .int 0, .ref cw, .ref pw])), (bk, .inr (0, [.ref lb, .ref pl, .int 0, .int 0, .ref de, .ref su, .ref fi, .int 0, .ref ac])), (sr, .inl (k_sr, 9, .inl f2))]) (va_A [(rg, .inr (7, [.ref bk, .ref cr, .ref li, .ref sr, .ref pa, .ref co, .ref ga, .ref pt, .ref ct, .int 0, .int 0, .ref cw, .ref pw])), (bk, .inr (0, [.ref lb, .ref pl, .int 0, .int 0, .ref de, .ref su, .ref fi, .int 0, .ref ac])), (sr, .inl (k_sr, 9, .inl fz))] sz)) 0 0 (va_A [(rg, .inr (7, [.ref bk, .ref cr, .ref li, .ref sr, .ref pa, .ref co, .ref ga, .ref pt, .ref ct, .int 0, .int 0, .ref cw, .ref pw])), (bk, .inr (0, [.ref lb, .ref pl, .int 0, .int 0, .ref de, .ref su, .ref fi, .int 0, .ref ac])), (sr, .inl (k_sr, 9, .inl fz))] sz) := by
  refine Met.ofW (cc := cX7_lineUp) (maxL := 5) (ret := none) (by decide) rfl ?_
  intro pr_ ev_ s m args below meth cd_ s₁ B hml hv
  obtain ⟨rfl, hE, hsz, hK, hP, hD0⟩ := hv
  have hx := B.exec
  have hb := B.bytes
  have hr := B.returns
  have hts := atoms_spec (ws := wsX7_lineUp) B.pre
  have hown : s.vm.findClass RX7 = some m.cls := findClass_of_methodNamed B.named
  have hlocks := B.notSynchronized
  subst hsz
  have hD := hD0.self (sz := s.heap.size)
  generalize hAe : va_A [(rg, .inr (7, [.ref bk, .ref cr, .ref li, .ref sr, .ref pa, .ref co, .ref ga, .ref pt, .ref ct, .int 0, .int 0, .ref cw, .ref pw])), (bk, .inr (0, [.ref lb, .ref pl, .int 0, .int 0, .ref de, .ref su, .ref fi, .int 0, .ref ac])), (sr, .inl (k_sr, 9, .inl fz))] s.heap.size = A at hD ⊢
  have hA : ∀ q : Nat, s.heap.size ≤ q → A q := fun q h => by rw [← hAe]; exact Or.inr h
  have hS : va_S A s.heap s.heap [] := va_S.rf
  have iX7 : ∀ w ∈ u_ws RX7 TX7 13, w ∈ wsX7_lineUp := by decide +kernel
  have iX0 : ∀ w ∈ u_ws RX0 TX0 9, w ∈ wsX7_lineUp := by decide +kernel
  have iX6 : ∀ w ∈ u_ws RX6 TX6 9, w ∈ wsX7_lineUp := by decide +kernel
  have hl := lv_entry ([.ref rg]) (n := 5) (Nat.le_of_ble_eq_true rfl)
  rw [lg_entry_eq]
  generalize (lg_sl ([.ref rg]) ++ List.replicate (5 - (lg_sl ([.ref rg])).length) Slot.unset).toArray = ls at hl ⊢
  have hl : lv_has ls 5 [(0, .ref rg)] := hl
  refine lv_iconst (v := 0) hx hb dX7_lineUp_0 (by decide) ?_
  refine lv_istore_n (lv' := [(1, .int 0), (0, .ref rg)]) hx hb dX7_lineUp_1 rfl hl (by decide) rfl (fun ls hl => ?_)
  refine lv_iconst (v := 0) hx hb dX7_lineUp_2 (by decide) ?_
  refine lv_istore_n (lv' := [(2, .int 0), (1, .int 0), (0, .ref rg)]) hx hb dX7_lineUp_3 rfl hl (by decide) rfl (fun ls hl => ?_)
  refine lv_iload_n hx hb dX7_lineUp_4 rfl (lv_at hl 0 rfl) ?_
  refine lv_bipush (v := 8) hx hb dX7_lineUp_5 (by decide) ?_
  refine lv_icmp_ge (tgt := 125) hx hb dX7_lineUp_7 (by decide) (fun h => absurd h (by decide)) (fun _ => ?_)
  refine lv_aload_n hx hb dX7_lineUp_10 rfl (lv_at hl 2 rfl) ?_
  refine va_get (D := (dC, dI)) (ci := 7) (v := .ref sr) (C := RX7) (T := TX7) (N := 13) hx hb hts iX7 hown hK hP 0 rfl rfl 3 (by decide) (hts (.fieldLink RX7 22 "CapLeague$RingSearch" "start" "[I") (by decide +kernel)) (fun _ h9 => h9) rfl dX7_lineUp_11 ?_
  refine lv_iload_n hx hb dX7_lineUp_14 rfl (lv_at hl 0 rfl) ?_
  refine lv_iload_n hx hb dX7_lineUp_15 rfl (lv_at hl 1 rfl) ?_
  refine va_iast (D := (dC, dI)) hx hb hK hP hD hS 2 0 rfl rfl (by unfold vp_in; decide) dX7_lineUp_16 (fun H locs hP hD hS => ?_)
  obtain ⟨f2, ef2⟩ : ∃ g : Nat → Int32, g = upd fz (0 : Int32).toNatClampNeg (0) := ⟨_, rfl⟩
  replace hP : va_P (dC, dI) vwCl [(rg, .inr (7, [.ref bk, .ref cr, .ref li, .ref sr, .ref pa, .ref co, .ref ga, .ref pt, .ref ct, .int 0, .int 0, .ref cw, .ref pw])), (bk, .inr (0, [.ref lb, .ref pl, .int 0, .int 0, .ref de, .ref su, .ref fi, .int 0, .ref ac])), (sr, .inl (k_sr, 9, .inl f2))] H := by rw [ef2]; exact hP
  replace hD : va_D A [(rg, .inr (7, [.ref bk, .ref cr, .ref li, .ref sr, .ref pa, .ref co, .ref ga, .ref pt, .ref ct, .int 0, .int 0, .ref cw, .ref pw])), (bk, .inr (0, [.ref lb, .ref pl, .int 0, .int 0, .ref de, .ref su, .ref fi, .int 0, .ref ac])), (sr, .inl (k_sr, 9, .inl f2))] := by rw [ef2]; exact hD
  have zf2 : ∀ j, f2 j = 0 := by rw [ef2]; exact xu_z hz _
  clear ef2
  refine lv_iconst (v := 0) hx hb dX7_lineUp_17 (by decide) ?_
  refine lv_istore_n (lv' := [(3, .int 0), (2, .int 0), (1, .int 0), (0, .ref rg)]) hx hb dX7_lineUp_18 rfl hl (by decide) rfl (fun ls hl => ?_)
  refine lv_iload_n hx hb dX7_lineUp_19 rfl (lv_at hl 0 rfl) ?_
  refine lv_aload_n hx hb dX7_lineUp_20 rfl (lv_at hl 3 rfl) ?_
  refine va_get (D := (dC, dI)) (ci := 7) (v := .ref bk) (C := RX7) (T := TX7) (N := 13) hx hb hts iX7 hown hK hP 0 rfl rfl 0 (by decide) (hts (.fieldLink RX7 48 "CapLeague$RingSearch" "books" "LCapLeague$Books;") (by decide +kernel)) (fun _ h9 => h9) rfl dX7_lineUp_21 ?_
  refine va_get (D := (dC, dI)) (ci := 0) (v := .int 0) (C := RX0) (T := TX0) (N := 9) hx hb hts iX0 hown hK hP 1 rfl rfl 2 (by decide) (hts (.fieldLink RX7 74 "CapLeague$Books" "size" "I") (by decide +kernel)) (fun _ h9 => h9) rfl dX7_lineUp_24 ?_
  refine lv_icmp_ge (tgt := 119) hx hb dX7_lineUp_27 (by decide) (fun _ => ?_) (fun h => absurd (by decide) h)
  refine lv_iinc (v := 1) (lv' := [(2, .int 1), (3, .int 0), (1, .int 0), (0, .ref rg)]) hx hb dX7_lineUp_119 hl (k := 1) rfl (by decide) (by decide) rfl (fun ls hl => ?_)
  refine lv_goto (tgt := 4) hx hb dX7_lineUp_122 (by decide) ?_
  refine lv_iload_n hx hb dX7_lineUp_4 rfl (lv_at hl 0 rfl) ?_
  refine lv_bipush (v := 8) hx hb dX7_lineUp_5 (by decide) ?_
  refine lv_icmp_ge (tgt := 125) hx hb dX7_lineUp_7 (by decide) (fun h => absurd h (by decide)) (fun _ => ?_)
  refine lv_aload_n hx hb dX7_lineUp_10 rfl (lv_at hl 3 rfl) ?_
  refine va_get (D := (dC, dI)) (ci := 7) (v := .ref sr) (C := RX7) (T := TX7) (N := 13) hx hb hts iX7 hown hK hP 0 rfl rfl 3 (by decide) (hts (.fieldLink RX7 22 "CapLeague$RingSearch" "start" "[I") (by decide +kernel)) (fun _ h9 => h9) rfl dX7_lineUp_11 ?_
  refine lv_iload_n hx hb dX7_lineUp_14 rfl (lv_at hl 0 rfl) ?_
  refine lv_iload_n hx hb dX7_lineUp_15 rfl (lv_at hl 2 rfl) ?_
  refine va_iast (D := (dC, dI)) hx hb hK hP hD hS 2 0 rfl rfl (by unfold vp_in; decide) dX7_lineUp_16 (fun H locs hP hD hS => ?_)
  obtain ⟨f5, ef5⟩ : ∃ g : Nat → Int32, g = upd f2 (1 : Int32).toNatClampNeg (0) := ⟨_, rfl⟩
  replace hP : va_P (dC, dI) vwCl [(rg, .inr (7, [.ref bk, .ref cr, .ref li, .ref sr, .ref pa, .ref co, .ref ga, .ref pt, .ref ct, .int 0, .int 0, .ref cw, .ref pw])), (bk, .inr (0, [.ref lb, .ref pl, .int 0, .int 0, .ref de, .ref su, .ref fi, .int 0, .ref ac])), (sr, .inl (k_sr, 9, .inl f5))] H := by rw [ef5]; exact hP
  replace hD : va_D A [(rg, .inr (7, [.ref bk, .ref cr, .ref li, .ref sr, .ref pa, .ref co, .ref ga, .ref pt, .ref ct, .int 0, .int 0, .ref cw, .ref pw])), (bk, .inr (0, [.ref lb, .ref pl, .int 0, .int 0, .ref de, .ref su, .ref fi, .int 0, .ref ac])), (sr, .inl (k_sr, 9, .inl f5))] := by rw [ef5]; exact hD
  have zf5 : ∀ j, f5 j = 0 := by rw [ef5]; exact xu_z zf2 _
  clear ef5
  refine lv_iconst (v := 0) hx hb dX7_lineUp_17 (by decide) ?_
  refine lv_istore_n (lv' := [(3, .int 0), (2, .int 1), (1, .int 0), (0, .ref rg)]) hx hb dX7_lineUp_18 rfl hl (by decide) rfl (fun ls hl => ?_)
  refine lv_iload_n hx hb dX7_lineUp_19 rfl (lv_at hl 0 rfl) ?_
  refine lv_aload_n hx hb dX7_lineUp_20 rfl (lv_at hl 3 rfl) ?_
  refine va_get (D := (dC, dI)) (ci := 7) (v := .ref bk) (C := RX7) (T := TX7) (N := 13) hx hb hts iX7 hown hK hP 0 rfl rfl 0 (by decide) (hts (.fieldLink RX7 48 "CapLeague$RingSearch" "books" "LCapLeague$Books;") (by decide +kernel)) (fun _ h9 => h9) rfl dX7_lineUp_21 ?_
  refine va_get (D := (dC, dI)) (ci := 0) (v := .int 0) (C := RX0) (T := TX0) (N := 9) hx hb hts iX0 hown hK hP 1 rfl rfl 2 (by decide) (hts (.fieldLink RX7 74 "CapLeague$Books" "size" "I") (by decide +kernel)) (fun _ h9 => h9) rfl dX7_lineUp_24 ?_
  refine lv_icmp_ge (tgt := 119) hx hb dX7_lineUp_27 (by decide) (fun _ => ?_) (fun h => absurd (by decide) h)
  refine lv_iinc (v := 2) (lv' := [(2, .int 2), (3, .int 0), (1, .int 0), (0, .ref rg)]) hx hb dX7_lineUp_119 hl (k := 1) rfl (by decide) (by decide) rfl (fun ls hl => ?_)
  refine lv_goto (tgt := 4) hx hb dX7_lineUp_122 (by decide) ?_
  refine lv_iload_n hx hb dX7_lineUp_4 rfl (lv_at hl 0 rfl) ?_
  refine lv_bipush (v := 8) hx hb dX7_lineUp_5 (by decide) ?_
  refine lv_icmp_ge (tgt := 125) hx hb dX7_lineUp_7 (by decide) (fun h => absurd h (by decide)) (fun _ => ?_)
  refine lv_aload_n hx hb dX7_lineUp_10 rfl (lv_at hl 3 rfl) ?_
  refine va_get (D := (dC, dI)) (ci := 7) (v := .ref sr) (C := RX7) (T := TX7) (N := 13) hx hb hts iX7 hown hK hP 0 rfl rfl 3 (by decide) (hts (.fieldLink RX7 22 "CapLeague$RingSearch" "start" "[I") (by decide +kernel)) (fun _ h9 => h9) rfl dX7_lineUp_11 ?_
  refine lv_iload_n hx hb dX7_lineUp_14 rfl (lv_at hl 0 rfl) ?_
  refine lv_iload_n hx hb dX7_lineUp_15 rfl (lv_at hl 2 rfl) ?_
  refine va_iast (D := (dC, dI)) hx hb hK hP hD hS 2 0 rfl rfl (by unfold vp_in; decide) dX7_lineUp_16 (fun H locs hP hD hS => ?_)
  obtain ⟨f8, ef8⟩ : ∃ g : Nat → Int32, g = upd f5 (2 : Int32).toNatClampNeg (0) := ⟨_, rfl⟩
  replace hP : va_P (dC, dI) vwCl [(rg, .inr (7, [.ref bk, .ref cr, .ref li, .ref sr, .ref pa, .ref co, .ref ga, .ref pt, .ref ct, .int 0, .int 0, .ref cw, .ref pw])), (bk, .inr (0, [.ref lb, .ref pl, .int 0, .int 0, .ref de, .ref su, .ref fi, .int 0, .ref ac])), (sr, .inl (k_sr, 9, .inl f8))] H := by rw [ef8]; exact hP
  replace hD : va_D A [(rg, .inr (7, [.ref bk, .ref cr, .ref li, .ref sr, .ref pa, .ref co, .ref ga, .ref pt, .ref ct, .int 0, .int 0, .ref cw, .ref pw])), (bk, .inr (0, [.ref lb, .ref pl, .int 0, .int 0, .ref de, .ref su, .ref fi, .int 0, .ref ac])), (sr, .inl (k_sr, 9, .inl f8))] := by rw [ef8]; exact hD
  have zf8 : ∀ j, f8 j = 0 := by rw [ef8]; exact xu_z zf5 _
  clear ef8
  refine lv_iconst (v := 0) hx hb dX7_lineUp_17 (by decide) ?_
  refine lv_istore_n (lv' := [(3, .int 0), (2, .int 2), (1, .int 0), (0, .ref rg)]) hx hb dX7_lineUp_18 rfl hl (by decide) rfl (fun ls hl => ?_)
  refine lv_iload_n hx hb dX7_lineUp_19 rfl (lv_at hl 0 rfl) ?_
  refine lv_aload_n hx hb dX7_lineUp_20 rfl (lv_at hl 3 rfl) ?_
  refine va_get (D := (dC, dI)) (ci := 7) (v := .ref bk) (C := RX7) (T := TX7) (N := 13) hx hb hts iX7 hown hK hP 0 rfl rfl 0 (by decide) (hts (.fieldLink RX7 48 "CapLeague$RingSearch" "books" "LCapLeague$Books;") (by decide +kernel)) (fun _ h9 => h9) rfl dX7_lineUp_21 ?_
  refine va_get (D := (dC, dI)) (ci := 0) (v := .int 0) (C := RX0) (T := TX0) (N := 9) hx hb hts iX0 hown hK hP 1 rfl rfl 2 (by decide) (hts (.fieldLink RX7 74 "CapLeague$Books" "size" "I") (by decide +kernel)) (fun _ h9 => h9) rfl dX7_lineUp_24 ?_
  refine lv_icmp_ge (tgt := 119) hx hb dX7_lineUp_27 (by decide) (fun _ => ?_) (fun h => absurd (by decide) h)
  refine lv_iinc (v := 3) (lv' := [(2, .int 3), (3, .int 0), (1, .int 0), (0, .ref rg)]) hx hb dX7_lineUp_119 hl (k := 1) rfl (by decide) (by decide) rfl (fun ls hl => ?_)
  refine lv_goto (tgt := 4) hx hb dX7_lineUp_122 (by decide) ?_
  refine lv_iload_n hx hb dX7_lineUp_4 rfl (lv_at hl 0 rfl) ?_
  refine lv_bipush (v := 8) hx hb dX7_lineUp_5 (by decide) ?_
  refine lv_icmp_ge (tgt := 125) hx hb dX7_lineUp_7 (by decide) (fun h => absurd h (by decide)) (fun _ => ?_)
  refine lv_aload_n hx hb dX7_lineUp_10 rfl (lv_at hl 3 rfl) ?_
  refine va_get (D := (dC, dI)) (ci := 7) (v := .ref sr) (C := RX7) (T := TX7) (N := 13) hx hb hts iX7 hown hK hP 0 rfl rfl 3 (by decide) (hts (.fieldLink RX7 22 "CapLeague$RingSearch" "start" "[I") (by decide +kernel)) (fun _ h9 => h9) rfl dX7_lineUp_11 ?_
  refine lv_iload_n hx hb dX7_lineUp_14 rfl (lv_at hl 0 rfl) ?_
  refine lv_iload_n hx hb dX7_lineUp_15 rfl (lv_at hl 2 rfl) ?_
  refine va_iast (D := (dC, dI)) hx hb hK hP hD hS 2 0 rfl rfl (by unfold vp_in; decide) dX7_lineUp_16 (fun H locs hP hD hS => ?_)
  obtain ⟨f11, ef11⟩ : ∃ g : Nat → Int32, g = upd f8 (3 : Int32).toNatClampNeg (0) := ⟨_, rfl⟩
  replace hP : va_P (dC, dI) vwCl [(rg, .inr (7, [.ref bk, .ref cr, .ref li, .ref sr, .ref pa, .ref co, .ref ga, .ref pt, .ref ct, .int 0, .int 0, .ref cw, .ref pw])), (bk, .inr (0, [.ref lb, .ref pl, .int 0, .int 0, .ref de, .ref su, .ref fi, .int 0, .ref ac])), (sr, .inl (k_sr, 9, .inl f11))] H := by rw [ef11]; exact hP
  replace hD : va_D A [(rg, .inr (7, [.ref bk, .ref cr, .ref li, .ref sr, .ref pa, .ref co, .ref ga, .ref pt, .ref ct, .int 0, .int 0, .ref cw, .ref pw])), (bk, .inr (0, [.ref lb, .ref pl, .int 0, .int 0, .ref de, .ref su, .ref fi, .int 0, .ref ac])), (sr, .inl (k_sr, 9, .inl f11))] := by rw [ef11]; exact hD
  have zf11 : ∀ j, f11 j = 0 := by rw [ef11]; exact xu_z zf8 _
  clear ef11
  refine lv_iconst (v := 0) hx hb dX7_lineUp_17 (by decide) ?_
  refine lv_istore_n (lv' := [(3, .int 0), (2, .int 3), (1, .int 0), (0, .ref rg)]) hx hb dX7_lineUp_18 rfl hl (by decide) rfl (fun ls hl => ?_)
  refine lv_iload_n hx hb dX7_lineUp_19 rfl (lv_at hl 0 rfl) ?_
  refine lv_aload_n hx hb dX7_lineUp_20 rfl (lv_at hl 3 rfl) ?_
  refine va_get (D := (dC, dI)) (ci := 7) (v := .ref bk) (C := RX7) (T := TX7) (N := 13) hx hb hts iX7 hown hK hP 0 rfl rfl 0 (by decide) (hts (.fieldLink RX7 48 "CapLeague$RingSearch" "books" "LCapLeague$Books;") (by decide +kernel)) (fun _ h9 => h9) rfl dX7_lineUp_21 ?_
  refine va_get (D := (dC, dI)) (ci := 0) (v := .int 0) (C := RX0) (T := TX0) (N := 9) hx hb hts iX0 hown hK hP 1 rfl rfl 2 (by decide) (hts (.fieldLink RX7 74 "CapLeague$Books" "size" "I") (by decide +kernel)) (fun _ h9 => h9) rfl dX7_lineUp_24 ?_
  refine lv_icmp_ge (tgt := 119) hx hb dX7_lineUp_27 (by decide) (fun _ => ?_) (fun h => absurd (by decide) h)
  refine lv_iinc (v := 4) (lv' := [(2, .int 4), (3, .int 0), (1, .int 0), (0, .ref rg)]) hx hb dX7_lineUp_119 hl (k := 1) rfl (by decide) (by decide) rfl (fun ls hl => ?_)
  refine lv_goto (tgt := 4) hx hb dX7_lineUp_122 (by decide) ?_
  refine lv_iload_n hx hb dX7_lineUp_4 rfl (lv_at hl 0 rfl) ?_
  refine lv_bipush (v := 8) hx hb dX7_lineUp_5 (by decide) ?_
  refine lv_icmp_ge (tgt := 125) hx hb dX7_lineUp_7 (by decide) (fun h => absurd h (by decide)) (fun _ => ?_)
  refine lv_aload_n hx hb dX7_lineUp_10 rfl (lv_at hl 3 rfl) ?_
  refine va_get (D := (dC, dI)) (ci := 7) (v := .ref sr) (C := RX7) (T := TX7) (N := 13) hx hb hts iX7 hown hK hP 0 rfl rfl 3 (by decide) (hts (.fieldLink RX7 22 "CapLeague$RingSearch" "start" "[I") (by decide +kernel)) (fun _ h9 => h9) rfl dX7_lineUp_11 ?_
  refine lv_iload_n hx hb dX7_lineUp_14 rfl (lv_at hl 0 rfl) ?_
  refine lv_iload_n hx hb dX7_lineUp_15 rfl (lv_at hl 2 rfl) ?_
  refine va_iast (D := (dC, dI)) hx hb hK hP hD hS 2 0 rfl rfl (by unfold vp_in; decide) dX7_lineUp_16 (fun H locs hP hD hS => ?_)
  obtain ⟨f14, ef14⟩ : ∃ g : Nat → Int32, g = upd f11 (4 : Int32).toNatClampNeg (0) := ⟨_, rfl⟩
  replace hP : va_P (dC, dI) vwCl [(rg, .inr (7, [.ref bk, .ref cr, .ref li, .ref sr, .ref pa, .ref co, .ref ga, .ref pt, .ref ct, .int 0, .int 0, .ref cw, .ref pw])), (bk, .inr (0, [.ref lb, .ref pl, .int 0, .int 0, .ref de, .ref su, .ref fi, .int 0, .ref ac])), (sr, .inl (k_sr, 9, .inl f14))] H := by rw [ef14]; exact hP
  replace hD : va_D A [(rg, .inr (7, [.ref bk, .ref cr, .ref li, .ref sr, .ref pa, .ref co, .ref ga, .ref pt, .ref ct, .int 0, .int 0, .ref cw, .ref pw])), (bk, .inr (0, [.ref lb, .ref pl, .int 0, .int 0, .ref de, .ref su, .ref fi, .int 0, .ref ac])), (sr, .inl (k_sr, 9, .inl f14))] := by rw [ef14]; exact hD
  have zf14 : ∀ j, f14 j = 0 := by rw [ef14]; exact xu_z zf11 _
  clear ef14
  refine lv_iconst (v := 0) hx hb dX7_lineUp_17 (by decide) ?_
  refine lv_istore_n (lv' := [(3, .int 0), (2, .int 4), (1, .int 0), (0, .ref rg)]) hx hb dX7_lineUp_18 rfl hl (by decide) rfl (fun ls hl => ?_)
  refine lv_iload_n hx hb dX7_lineUp_19 rfl (lv_at hl 0 rfl) ?_
  refine lv_aload_n hx hb dX7_lineUp_20 rfl (lv_at hl 3 rfl) ?_
  refine va_get (D := (dC, dI)) (ci := 7) (v := .ref bk) (C := RX7) (T := TX7) (N := 13) hx hb hts iX7 hown hK hP 0 rfl rfl 0 (by decide) (hts (.fieldLink RX7 48 "CapLeague$RingSearch" "books" "LCapLeague$Books;") (by decide +kernel)) (fun _ h9 => h9) rfl dX7_lineUp_21 ?_
  refine va_get (D := (dC, dI)) (ci := 0) (v := .int 0) (C := RX0) (T := TX0) (N := 9) hx hb hts iX0 hown hK hP 1 rfl rfl 2 (by decide) (hts (.fieldLink RX7 74 "CapLeague$Books" "size" "I") (by decide +kernel)) (fun _ h9 => h9) rfl dX7_lineUp_24 ?_
  refine lv_icmp_ge (tgt := 119) hx hb dX7_lineUp_27 (by decide) (fun _ => ?_) (fun h => absurd (by decide) h)
  refine lv_iinc (v := 5) (lv' := [(2, .int 5), (3, .int 0), (1, .int 0), (0, .ref rg)]) hx hb dX7_lineUp_119 hl (k := 1) rfl (by decide) (by decide) rfl (fun ls hl => ?_)
  refine lv_goto (tgt := 4) hx hb dX7_lineUp_122 (by decide) ?_
  refine lv_iload_n hx hb dX7_lineUp_4 rfl (lv_at hl 0 rfl) ?_
  refine lv_bipush (v := 8) hx hb dX7_lineUp_5 (by decide) ?_
  refine lv_icmp_ge (tgt := 125) hx hb dX7_lineUp_7 (by decide) (fun h => absurd h (by decide)) (fun _ => ?_)
  refine lv_aload_n hx hb dX7_lineUp_10 rfl (lv_at hl 3 rfl) ?_
  refine va_get (D := (dC, dI)) (ci := 7) (v := .ref sr) (C := RX7) (T := TX7) (N := 13) hx hb hts iX7 hown hK hP 0 rfl rfl 3 (by decide) (hts (.fieldLink RX7 22 "CapLeague$RingSearch" "start" "[I") (by decide +kernel)) (fun _ h9 => h9) rfl dX7_lineUp_11 ?_
  refine lv_iload_n hx hb dX7_lineUp_14 rfl (lv_at hl 0 rfl) ?_
  refine lv_iload_n hx hb dX7_lineUp_15 rfl (lv_at hl 2 rfl) ?_
  refine va_iast (D := (dC, dI)) hx hb hK hP hD hS 2 0 rfl rfl (by unfold vp_in; decide) dX7_lineUp_16 (fun H locs hP hD hS => ?_)
  obtain ⟨f17, ef17⟩ : ∃ g : Nat → Int32, g = upd f14 (5 : Int32).toNatClampNeg (0) := ⟨_, rfl⟩
  replace hP : va_P (dC, dI) vwCl [(rg, .inr (7, [.ref bk, .ref cr, .ref li, .ref sr, .ref pa, .ref co, .ref ga, .ref pt, .ref ct, .int 0, .int 0, .ref cw, .ref pw])), (bk, .inr (0, [.ref lb, .ref pl, .int 0, .int 0, .ref de, .ref su, .ref fi, .int 0, .ref ac])), (sr, .inl (k_sr, 9, .inl f17))] H := by rw [ef17]; exact hP
  replace hD : va_D A [(rg, .inr (7, [.ref bk, .ref cr, .ref li, .ref sr, .ref pa, .ref co, .ref ga, .ref pt, .ref ct, .int 0, .int 0, .ref cw, .ref pw])), (bk, .inr (0, [.ref lb, .ref pl, .int 0, .int 0, .ref de, .ref su, .ref fi, .int 0, .ref ac])), (sr, .inl (k_sr, 9, .inl f17))] := by rw [ef17]; exact hD
  have zf17 : ∀ j, f17 j = 0 := by rw [ef17]; exact xu_z zf14 _
  clear ef17
  refine lv_iconst (v := 0) hx hb dX7_lineUp_17 (by decide) ?_
  refine lv_istore_n (lv' := [(3, .int 0), (2, .int 5), (1, .int 0), (0, .ref rg)]) hx hb dX7_lineUp_18 rfl hl (by decide) rfl (fun ls hl => ?_)
  refine lv_iload_n hx hb dX7_lineUp_19 rfl (lv_at hl 0 rfl) ?_
  refine lv_aload_n hx hb dX7_lineUp_20 rfl (lv_at hl 3 rfl) ?_
  refine va_get (D := (dC, dI)) (ci := 7) (v := .ref bk) (C := RX7) (T := TX7) (N := 13) hx hb hts iX7 hown hK hP 0 rfl rfl 0 (by decide) (hts (.fieldLink RX7 48 "CapLeague$RingSearch" "books" "LCapLeague$Books;") (by decide +kernel)) (fun _ h9 => h9) rfl dX7_lineUp_21 ?_
  refine va_get (D := (dC, dI)) (ci := 0) (v := .int 0) (C := RX0) (T := TX0) (N := 9) hx hb hts iX0 hown hK hP 1 rfl rfl 2 (by decide) (hts (.fieldLink RX7 74 "CapLeague$Books" "size" "I") (by decide +kernel)) (fun _ h9 => h9) rfl dX7_lineUp_24 ?_
  refine lv_icmp_ge (tgt := 119) hx hb dX7_lineUp_27 (by decide) (fun _ => ?_) (fun h => absurd (by decide) h)
  refine lv_iinc (v := 6) (lv' := [(2, .int 6), (3, .int 0), (1, .int 0), (0, .ref rg)]) hx hb dX7_lineUp_119 hl (k := 1) rfl (by decide) (by decide) rfl (fun ls hl => ?_)
  refine lv_goto (tgt := 4) hx hb dX7_lineUp_122 (by decide) ?_
  refine lv_iload_n hx hb dX7_lineUp_4 rfl (lv_at hl 0 rfl) ?_
  refine lv_bipush (v := 8) hx hb dX7_lineUp_5 (by decide) ?_
  refine lv_icmp_ge (tgt := 125) hx hb dX7_lineUp_7 (by decide) (fun h => absurd h (by decide)) (fun _ => ?_)
  refine lv_aload_n hx hb dX7_lineUp_10 rfl (lv_at hl 3 rfl) ?_
  refine va_get (D := (dC, dI)) (ci := 7) (v := .ref sr) (C := RX7) (T := TX7) (N := 13) hx hb hts iX7 hown hK hP 0 rfl rfl 3 (by decide) (hts (.fieldLink RX7 22 "CapLeague$RingSearch" "start" "[I") (by decide +kernel)) (fun _ h9 => h9) rfl dX7_lineUp_11 ?_
  refine lv_iload_n hx hb dX7_lineUp_14 rfl (lv_at hl 0 rfl) ?_
  refine lv_iload_n hx hb dX7_lineUp_15 rfl (lv_at hl 2 rfl) ?_
  refine va_iast (D := (dC, dI)) hx hb hK hP hD hS 2 0 rfl rfl (by unfold vp_in; decide) dX7_lineUp_16 (fun H locs hP hD hS => ?_)
  obtain ⟨f20, ef20⟩ : ∃ g : Nat → Int32, g = upd f17 (6 : Int32).toNatClampNeg (0) := ⟨_, rfl⟩
  replace hP : va_P (dC, dI) vwCl [(rg, .inr (7, [.ref bk, .ref cr, .ref li, .ref sr, .ref pa, .ref co, .ref ga, .ref pt, .ref ct, .int 0, .int 0, .ref cw, .ref pw])), (bk, .inr (0, [.ref lb, .ref pl, .int 0, .int 0, .ref de, .ref su, .ref fi, .int 0, .ref ac])), (sr, .inl (k_sr, 9, .inl f20))] H := by rw [ef20]; exact hP
  replace hD : va_D A [(rg, .inr (7, [.ref bk, .ref cr, .ref li, .ref sr, .ref pa, .ref co, .ref ga, .ref pt, .ref ct, .int 0, .int 0, .ref cw, .ref pw])), (bk, .inr (0, [.ref lb, .ref pl, .int 0, .int 0, .ref de, .ref su, .ref fi, .int 0, .ref ac])), (sr, .inl (k_sr, 9, .inl f20))] := by rw [ef20]; exact hD
  have zf20 : ∀ j, f20 j = 0 := by rw [ef20]; exact xu_z zf17 _
  clear ef20
  refine lv_iconst (v := 0) hx hb dX7_lineUp_17 (by decide) ?_
  refine lv_istore_n (lv' := [(3, .int 0), (2, .int 6), (1, .int 0), (0, .ref rg)]) hx hb dX7_lineUp_18 rfl hl (by decide) rfl (fun ls hl => ?_)
  refine lv_iload_n hx hb dX7_lineUp_19 rfl (lv_at hl 0 rfl) ?_
  refine lv_aload_n hx hb dX7_lineUp_20 rfl (lv_at hl 3 rfl) ?_
  refine va_get (D := (dC, dI)) (ci := 7) (v := .ref bk) (C := RX7) (T := TX7) (N := 13) hx hb hts iX7 hown hK hP 0 rfl rfl 0 (by decide) (hts (.fieldLink RX7 48 "CapLeague$RingSearch" "books" "LCapLeague$Books;") (by decide +kernel)) (fun _ h9 => h9) rfl dX7_lineUp_21 ?_
  refine va_get (D := (dC, dI)) (ci := 0) (v := .int 0) (C := RX0) (T := TX0) (N := 9) hx hb hts iX0 hown hK hP 1 rfl rfl 2 (by decide) (hts (.fieldLink RX7 74 "CapLeague$Books" "size" "I") (by decide +kernel)) (fun _ h9 => h9) rfl dX7_lineUp_24 ?_
  refine lv_icmp_ge (tgt := 119) hx hb dX7_lineUp_27 (by decide) (fun _ => ?_) (fun h => absurd (by decide) h)
  refine lv_iinc (v := 7) (lv' := [(2, .int 7), (3, .int 0), (1, .int 0), (0, .ref rg)]) hx hb dX7_lineUp_119 hl (k := 1) rfl (by decide) (by decide) rfl (fun ls hl => ?_)
  refine lv_goto (tgt := 4) hx hb dX7_lineUp_122 (by decide) ?_
  refine lv_iload_n hx hb dX7_lineUp_4 rfl (lv_at hl 0 rfl) ?_
  refine lv_bipush (v := 8) hx hb dX7_lineUp_5 (by decide) ?_
  refine lv_icmp_ge (tgt := 125) hx hb dX7_lineUp_7 (by decide) (fun h => absurd h (by decide)) (fun _ => ?_)
  refine lv_aload_n hx hb dX7_lineUp_10 rfl (lv_at hl 3 rfl) ?_
  refine va_get (D := (dC, dI)) (ci := 7) (v := .ref sr) (C := RX7) (T := TX7) (N := 13) hx hb hts iX7 hown hK hP 0 rfl rfl 3 (by decide) (hts (.fieldLink RX7 22 "CapLeague$RingSearch" "start" "[I") (by decide +kernel)) (fun _ h9 => h9) rfl dX7_lineUp_11 ?_
  refine lv_iload_n hx hb dX7_lineUp_14 rfl (lv_at hl 0 rfl) ?_
  refine lv_iload_n hx hb dX7_lineUp_15 rfl (lv_at hl 2 rfl) ?_
  refine va_iast (D := (dC, dI)) hx hb hK hP hD hS 2 0 rfl rfl (by unfold vp_in; decide) dX7_lineUp_16 (fun H locs hP hD hS => ?_)
  obtain ⟨f23, ef23⟩ : ∃ g : Nat → Int32, g = upd f20 (7 : Int32).toNatClampNeg (0) := ⟨_, rfl⟩
  replace hP : va_P (dC, dI) vwCl [(rg, .inr (7, [.ref bk, .ref cr, .ref li, .ref sr, .ref pa, .ref co, .ref ga, .ref pt, .ref ct, .int 0, .int 0, .ref cw, .ref pw])), (bk, .inr (0, [.ref lb, .ref pl, .int 0, .int 0, .ref de, .ref su, .ref fi, .int 0, .ref ac])), (sr, .inl (k_sr, 9, .inl f23))] H := by rw [ef23]; exact hP
  replace hD : va_D A [(rg, .inr (7, [.ref bk, .ref cr, .ref li, .ref sr, .ref pa, .ref co, .ref ga, .ref pt, .ref ct, .int 0, .int 0, .ref cw, .ref pw])), (bk, .inr (0, [.ref lb, .ref pl, .int 0, .int 0, .ref de, .ref su, .ref fi, .int 0, .ref ac])), (sr, .inl (k_sr, 9, .inl f23))] := by rw [ef23]; exact hD
  have zf23 : ∀ j, f23 j = 0 := by rw [ef23]; exact xu_z zf20 _
  clear ef23
  refine lv_iconst (v := 0) hx hb dX7_lineUp_17 (by decide) ?_
  refine lv_istore_n (lv' := [(3, .int 0), (2, .int 7), (1, .int 0), (0, .ref rg)]) hx hb dX7_lineUp_18 rfl hl (by decide) rfl (fun ls hl => ?_)
  refine lv_iload_n hx hb dX7_lineUp_19 rfl (lv_at hl 0 rfl) ?_
  refine lv_aload_n hx hb dX7_lineUp_20 rfl (lv_at hl 3 rfl) ?_
  refine va_get (D := (dC, dI)) (ci := 7) (v := .ref bk) (C := RX7) (T := TX7) (N := 13) hx hb hts iX7 hown hK hP 0 rfl rfl 0 (by decide) (hts (.fieldLink RX7 48 "CapLeague$RingSearch" "books" "LCapLeague$Books;") (by decide +kernel)) (fun _ h9 => h9) rfl dX7_lineUp_21 ?_
  refine va_get (D := (dC, dI)) (ci := 0) (v := .int 0) (C := RX0) (T := TX0) (N := 9) hx hb hts iX0 hown hK hP 1 rfl rfl 2 (by decide) (hts (.fieldLink RX7 74 "CapLeague$Books" "size" "I") (by decide +kernel)) (fun _ h9 => h9) rfl dX7_lineUp_24 ?_
  refine lv_icmp_ge (tgt := 119) hx hb dX7_lineUp_27 (by decide) (fun _ => ?_) (fun h => absurd (by decide) h)
  refine lv_iinc (v := 8) (lv' := [(2, .int 8), (3, .int 0), (1, .int 0), (0, .ref rg)]) hx hb dX7_lineUp_119 hl (k := 1) rfl (by decide) (by decide) rfl (fun ls hl => ?_)
  refine lv_goto (tgt := 4) hx hb dX7_lineUp_122 (by decide) ?_
  refine lv_iload_n hx hb dX7_lineUp_4 rfl (lv_at hl 0 rfl) ?_
  refine lv_bipush (v := 8) hx hb dX7_lineUp_5 (by decide) ?_
  refine lv_icmp_ge (tgt := 125) hx hb dX7_lineUp_7 (by decide) (fun _ => ?_) (fun h => absurd (by decide) h)
  refine lv_aload_n hx hb dX7_lineUp_125 rfl (lv_at hl 3 rfl) ?_
  refine va_get (D := (dC, dI)) (ci := 7) (v := .ref sr) (C := RX7) (T := TX7) (N := 13) hx hb hts iX7 hown hK hP 0 rfl rfl 3 (by decide) (hts (.fieldLink RX7 22 "CapLeague$RingSearch" "start" "[I") (by decide +kernel)) (fun _ h9 => h9) rfl dX7_lineUp_126 ?_
  refine lv_bipush (v := 8) hx hb dX7_lineUp_129 (by decide) ?_
  refine lv_iload_n hx hb dX7_lineUp_131 rfl (lv_at hl 2 rfl) ?_
  refine va_iast (D := (dC, dI)) hx hb hK hP hD hS 2 0 rfl rfl (by unfold vp_in; decide) dX7_lineUp_132 (fun H locs hP hD hS => ?_)
  obtain ⟨f26, ef26⟩ : ∃ g : Nat → Int32, g = upd f23 (8 : Int32).toNatClampNeg (0) := ⟨_, rfl⟩
  replace hP : va_P (dC, dI) vwCl [(rg, .inr (7, [.ref bk, .ref cr, .ref li, .ref sr, .ref pa, .ref co, .ref ga, .ref pt, .ref ct, .int 0, .int 0, .ref cw, .ref pw])), (bk, .inr (0, [.ref lb, .ref pl, .int 0, .int 0, .ref de, .ref su, .ref fi, .int 0, .ref ac])), (sr, .inl (k_sr, 9, .inl f26))] H := by rw [ef26]; exact hP
  replace hD : va_D A [(rg, .inr (7, [.ref bk, .ref cr, .ref li, .ref sr, .ref pa, .ref co, .ref ga, .ref pt, .ref ct, .int 0, .int 0, .ref cw, .ref pw])), (bk, .inr (0, [.ref lb, .ref pl, .int 0, .int 0, .ref de, .ref su, .ref fi, .int 0, .ref ac])), (sr, .inl (k_sr, 9, .inl f26))] := by rw [ef26]; exact hD
  have zf26 : ∀ j, f26 j = 0 := by rw [ef26]; exact xu_z zf23 _
  clear ef26
  have hP9 := hP.sub (ws' := [(rg, .inr (7, [.ref bk, .ref cr, .ref li, .ref sr, .ref pa, .ref co, .ref ga, .ref pt, .ref ct, .int 0, .int 0, .ref cw, .ref pw])), (bk, .inr (0, [.ref lb, .ref pl, .int 0, .int 0, .ref de, .ref su, .ref fi, .int 0, .ref ac])), (sr, .inl (k_sr, 9, .inl f26))]) [0, 1, 2] rfl
  have hD9 := hD.sub (ws' := [(rg, .inr (7, [.ref bk, .ref cr, .ref li, .ref sr, .ref pa, .ref co, .ref ga, .ref pt, .ref ct, .int 0, .int 0, .ref cw, .ref pw])), (bk, .inr (0, [.ref lb, .ref pl, .int 0, .int 0, .ref de, .ref su, .ref fi, .int 0, .ref ac])), (sr, .inl (k_sr, 9, .inl f26))]) [0, 1, 2] (by decide) rfl
  have hK9 := hK.sub (tys' := [(k_sr, .int)]) [0] rfl
  exact W.vret hx hb hr (fun t ht hW => ⟨⟨(), rfl, trivial, ⟨f26, zf26, by rw [ht]; exact hP9, va_K.moved hW.alike hK9, hD9⟩⟩, hS.F ht⟩) hS.2.2 dX7_lineUp_133
set_option maxHeartbeats 4000000 in
set_option maxRecDepth 100000 in
theorem wX7_gains (l : Launch) (dC : Nat → ClassId) (dI : Nat → Nat → Nat) (rg bk cr li sr pa co ga pt ct cw pw lb pl de su fi ac un tx : Nat) (ct_ kO kI k_sr k_ct : ClassId) (fz : Nat → Int32) (gz : Nat → Int32) (sz : Nat) (hz : ∀ j, fz j = 0) (hg : ∀ j, gz j = 0) (c : Int32) (c_t : Int) (h_c : c.toInt = c_t) (h1 : 0 ≤ c_t) (h2 : c_t ≤ 7) : Met l yX7_findGains wsX7_findGains ({ frames := 4, cells := 0, slots := 0, locals := 256 }) (va_Pc [.ref rg, .int c] (xW (dC, dI) [(ct_, (.object RX5)), (kO, (.array .int)), (kI, .int), (kI, .int), (kI, .int), (kI, .int), (kI, .int), (kI, .int), (kI, .int), (kI, .int), (k_sr, .int), (k_ct, .int)] [(rg, .inr (7, [.ref bk, .ref cr, .ref li, .ref sr, .ref pa, .ref co, .ref ga, .ref pt, .ref ct, .int 0, .int 0, .ref cw, .ref pw])), (bk, .inr (0, [.ref lb, .ref pl, .int 0, .int 0, .ref de, .ref su, .ref fi, .int 0, .ref ac])), (lb, .inr (3, [.ref un, .ref tx])), (tx, .inl (ct_, 10, .inr (.inr (.inr (.inr (fun _ => none)))))), (de, .inl (kO, 8, .inr (.inr (.inr (.inr (fun j => if j < 8 then some (de + 1 + j) else none)))))), ((de + 1 + 0), .inl (kI, 10, .inl (fun _ => 0))), ((de + 1 + 1), .inl (kI, 10, .inl (fun _ => 0))), ((de + 1 + 2), .inl (kI, 10, .inl (fun _ => 0))), ((de + 1 + 3), .inl (kI, 10, .inl (fun _ => 0))), ((de + 1 + 4), .inl (kI, 10, .inl (fun _ => 0))), ((de + 1 + 5), .inl (kI, 10, .inl (fun _ => 0))), ((de + 1 + 6), .inl (kI, 10, .inl (fun _ => 0))), ((de + 1 + 7), .inl (kI, 10, .inl (fun _ => 0))), (sr, .inl (k_sr, 9, .inl fz)), (ct, .inl (k_ct, 8, .inl gz))] sz)) (va_Qv (fun (_ : Unit) => True) (fun (_ : Unit) t => ∃ (g2 : Nat → Int32), (∀ j, g2 j = 0) ∧ va_P (dC, dI) vwCl [(rg, .inr (7, [.ref bk, .ref cr, .ref li, .ref sr, .ref pa, .ref co, .ref ga, .ref pt, .ref ct, .int 0, .int 0, .ref cw, .ref pw])), (bk, .inr (0, [.ref lb, .ref pl, .int 0, .int 0, .ref de, .ref su, .ref fi, .int 0, .ref ac])), (lb, .inr (3, [.ref un, .ref tx])), (tx, .inl (ct_, 10, .inr (.inr (.inr (.inr (fun _ => none)))))), (de, .inl (kO, 8, .inr (.inr (.inr (.inr (fun j => if j < 8 then some (de + 1 + j) else none)))))), ((de + 1 + 0), .inl (kI, 10, .inl (fun _ => 0))), ((de + 1 + 1), .inl (kI, 10, .inl (fun _ => 0))), ((de + 1 + 2), .inl (kI, 10, .inl (fun _ => 0))), ((de + 1 + 3), .inl (kI, 10, .inl (fun _ => 0))), ((de + 1 + 4), .inl (kI, 10, .inl (fun _ => 0))), ((de + 1 + 5), .inl (kI, 10, .inl (fun _ => 0))), ((de + 1 + 6), .inl (kI, 10, .inl (fun _ => 0))), ((de + 1 + 7), .inl (kI, 10, .inl (fun _ => 0))), (sr, .inl (k_sr, 9, .inl fz)), (ct, .inl (k_ct, 8, .inl g2))] t.heap ∧ va_K (dC, dI) vwCl [(ct_, (.object RX5)), (kO, (.array .int)), (kI, .int), (kI, .int), (kI, .int), (kI, .int), (kI, .int), (kI, .int), (kI, .int), (kI, .int), (k_sr, .int), (k_ct, .int)] t ∧ va_D (va_A [(rg, .inr (7, [.ref bk, .ref cr, .ref li, .ref sr, .ref pa, .ref co, .ref ga, .ref pt, .ref ct, .int 0, .int 0, .ref cw, .ref pw])), (bk, .inr (0, [.ref lb, .ref pl, .int 0, .int 0, .ref de, .ref su, .ref fi, .int 0, .ref ac])), (lb, .inr (3, [.ref un, .ref tx])), (tx, .inl (ct_, 10, .inr (.inr (.inr (.inr (fun _ => none)))))), (de, .inl (kO, 8, .inr (.inr (.inr (.inr (fun j => if j < 8 then some (de + 1 + j) else none)))))), ((de + 1 + 0), .inl (kI, 10, .inl (fun _ => 0))), ((de + 1 + 1), .inl (kI, 10, .inl (fun _ => 0))), ((de + 1 + 2), .inl (kI, 10, .inl (fun _ => 0))), ((de + 1 + 3), .inl (kI, 10, .inl (fun _ => 0))), ((de + 1 + 4), .inl (kI, 10, .inl (fun _ => 0))), ((de + 1 + 5), .inl (kI, 10, .inl (fun _ => 0))), ((de + 1 + 6), .inl (kI, 10, .inl (fun _ => 0))), ((de + 1 + 7), .inl (kI, 10, .inl (fun _ => 0))), (sr, .inl (k_sr, 9, .inl fz)), (ct, .inl (k_ct, 8, .inl gz))] sz) [(rg, .inr (7, [.ref bk, .ref cr, .ref li, .ref sr, .ref pa, .ref co, .ref ga, .ref pt, .ref ct, .int 0, .int 0, .ref cw, .ref pw])), (bk, .inr (0, [.ref lb, .ref pl, .int 0, .int 0, .ref de, .ref su, .ref fi, .int 0, .ref ac])), (lb, .inr (3, [.ref un, .ref tx])), (tx, .inl (ct_, 10, .inr (.inr (.inr (.inr (fun _ => none)))))), (de, .inl (kO, 8, .inr (.inr (.inr (.inr (fun j => if j < 8 then some (de + 1 + j) else none)))))), ((de + 1 + 0), .inl (kI, 10, .inl (fun _ => 0))), ((de + 1 + 1), .inl (kI, 10, .inl (fun _ => 0))), ((de + 1 + 2), .inl (kI, 10, .inl (fun _ => 0))), ((de + 1 + 3), .inl (kI, 10, .inl (fun _ => 0))), ((de + 1 + 4), .inl (kI, 10, .inl (fun _ => 0))), ((de + 1 + 5), .inl (kI, 10, .inl (fun _ => 0))), ((de + 1 + 6), .inl (kI, 10, .inl (fun _ => 0))), ((de + 1 + 7), .inl (kI, 10, .inl (fun _ => 0))), (sr, .inl (k_sr, 9, .inl fz)), (ct, .inl (k_ct, 8, .inl g2))]) (va_A [(rg, .inr (7, [.ref bk, .ref cr, .ref li, .ref sr, .ref pa, .ref co, .ref ga, .ref pt, .ref ct, .int 0, .int 0, .ref cw, .ref pw])), (bk, .inr (0, [.ref lb, .ref pl, .int 0, .int 0, .ref de, .ref su, .ref fi, .int 0, .ref ac])), (lb, .inr (3, [.ref un, .ref tx])), (tx, .inl (ct_, 10, .inr (.inr (.inr (.inr (fun _ => none)))))), (de, .inl (kO, 8, .inr (.inr (.inr (.inr (fun j => if j < 8 then some (de + 1 + j) else none)))))), ((de + 1 + 0), .inl (kI, 10, .inl (fun _ => 0))), ((de + 1 + 1), .inl (kI, 10, .inl (fun _ => 0))), ((de + 1 + 2), .inl (kI, 10, .inl (fun _ => 0))), ((de + 1 + 3), .inl (kI, 10, .inl (fun _ => 0))), ((de + 1 + 4), .inl (kI, 10, .inl (fun _ => 0))), ((de + 1 + 5), .inl (kI, 10, .inl (fun _ => 0))), ((de + 1 + 6), .inl (kI, 10, .inl (fun _ => 0))), ((de + 1 + 7), .inl (kI, 10, .inl (fun _ => 0))), (sr, .inl (k_sr, 9, .inl fz)), (ct, .inl (k_ct, 8, .inl gz))] sz)) 0 0 (va_A [(rg, .inr (7, [.ref bk, .ref cr, .ref li, .ref sr, .ref pa, .ref co, .ref ga, .ref pt, .ref ct, .int 0, .int 0, .ref cw, .ref pw])), (bk, .inr (0, [.ref lb, .ref pl, .int 0, .int 0, .ref de, .ref su, .ref fi, .int 0, .ref ac])), (lb, .inr (3, [.ref un, .ref tx])), (tx, .inl (ct_, 10, .inr (.inr (.inr (.inr (fun _ => none)))))), (de, .inl (kO, 8, .inr (.inr (.inr (.inr (fun j => if j < 8 then some (de + 1 + j) else none)))))), ((de + 1 + 0), .inl (kI, 10, .inl (fun _ => 0))), ((de + 1 + 1), .inl (kI, 10, .inl (fun _ => 0))), ((de + 1 + 2), .inl (kI, 10, .inl (fun _ => 0))), ((de + 1 + 3), .inl (kI, 10, .inl (fun _ => 0))), ((de + 1 + 4), .inl (kI, 10, .inl (fun _ => 0))), ((de + 1 + 5), .inl (kI, 10, .inl (fun _ => 0))), ((de + 1 + 6), .inl (kI, 10, .inl (fun _ => 0))), ((de + 1 + 7), .inl (kI, 10, .inl (fun _ => 0))), (sr, .inl (k_sr, 9, .inl fz)), (ct, .inl (k_ct, 8, .inl gz))] sz) := by
  refine Met.ofW (cc := cX7_findGains) (maxL := 11) (ret := none) (by decide) rfl ?_
  intro pr_ ev_ s m args below meth cd_ s₁ B hml hv
  obtain ⟨rfl, hE, hsz, hK, hP, hD0⟩ := hv
  have hx := B.exec
  have hb := B.bytes
  have hr := B.returns
  have hts := atoms_spec (ws := wsX7_findGains) B.pre
  have hown : s.vm.findClass RX7 = some m.cls := findClass_of_methodNamed B.named
  have hlocks := B.notSynchronized
  subst hsz
  have hD := hD0.self (sz := s.heap.size)
  generalize hAe : va_A [(rg, .inr (7, [.ref bk, .ref cr, .ref li, .ref sr, .ref pa, .ref co, .ref ga, .ref pt, .ref ct, .int 0, .int 0, .ref cw, .ref pw])), (bk, .inr (0, [.ref lb, .ref pl, .int 0, .int 0, .ref de, .ref su, .ref fi, .int 0, .ref ac])), (lb, .inr (3, [.ref un, .ref tx])), (tx, .inl (ct_, 10, .inr (.inr (.inr (.inr (fun _ => none)))))), (de, .inl (kO, 8, .inr (.inr (.inr (.inr (fun j => if j < 8 then some (de + 1 + j) else none)))))), ((de + 1 + 0), .inl (kI, 10, .inl (fun _ => 0))), ((de + 1 + 1), .inl (kI, 10, .inl (fun _ => 0))), ((de + 1 + 2), .inl (kI, 10, .inl (fun _ => 0))), ((de + 1 + 3), .inl (kI, 10, .inl (fun _ => 0))), ((de + 1 + 4), .inl (kI, 10, .inl (fun _ => 0))), ((de + 1 + 5), .inl (kI, 10, .inl (fun _ => 0))), ((de + 1 + 6), .inl (kI, 10, .inl (fun _ => 0))), ((de + 1 + 7), .inl (kI, 10, .inl (fun _ => 0))), (sr, .inl (k_sr, 9, .inl fz)), (ct, .inl (k_ct, 8, .inl gz))] s.heap.size = A at hD ⊢
  have hA : ∀ q : Nat, s.heap.size ≤ q → A q := fun q h => by rw [← hAe]; exact Or.inr h
  have hS : va_S A s.heap s.heap [] := va_S.rf
  have iX7 : ∀ w ∈ u_ws RX7 TX7 13, w ∈ wsX7_findGains := by decide +kernel
  have iX0 : ∀ w ∈ u_ws RX0 TX0 9, w ∈ wsX7_findGains := by decide +kernel
  have hl := lv_entry ([.ref rg, .int c]) (n := 11) (Nat.le_of_ble_eq_true rfl)
  rw [lg_entry_eq]
  generalize (lg_sl ([.ref rg, .int c]) ++ List.replicate (11 - (lg_sl ([.ref rg, .int c])).length) Slot.unset).toArray = ls at hl ⊢
  have hl : lv_has ls 11 [(0, .ref rg), (1, .int c)] := hl
  have lo_c := xi_lo c
  have hi_c := xi_hi c
  refine lv_aload_n hx hb dX7_findGains_0 rfl (lv_at hl 0 rfl) ?_
  refine va_get (D := (dC, dI)) (ci := 7) (v := .ref bk) (C := RX7) (T := TX7) (N := 13) hx hb hts iX7 hown hK hP 0 rfl rfl 0 (by decide) (hts (.fieldLink RX7 48 "CapLeague$RingSearch" "books" "LCapLeague$Books;") (by decide +kernel)) (fun _ h9 => h9) rfl dX7_findGains_1 ?_
  refine va_csq (W.runV (As := []) (rest := []) ⟨hx, hb, hml, hown, hts⟩ (cX0_lawsNow_ l dC dI ([(rg, .inr (7, [.ref bk, .ref cr, .ref li, .ref sr, .ref pa, .ref co, .ref ga, .ref pt, .ref ct, .int 0, .int 0, .ref cw, .ref pw])), (bk, .inr (0, [.ref lb, .ref pl, .int 0, .int 0, .ref de, .ref su, .ref fi, .int 0, .ref ac])), (lb, .inr (3, [.ref un, .ref tx])), (tx, .inl (ct_, 10, .inr (.inr (.inr (.inr (fun _ => none)))))), (de, .inl (kO, 8, .inr (.inr (.inr (.inr (fun j => if j < 8 then some (de + 1 + j) else none)))))), ((de + 1 + 0), .inl (kI, 10, .inl (fun _ => 0))), ((de + 1 + 1), .inl (kI, 10, .inl (fun _ => 0))), ((de + 1 + 2), .inl (kI, 10, .inl (fun _ => 0))), ((de + 1 + 3), .inl (kI, 10, .inl (fun _ => 0))), ((de + 1 + 4), .inl (kI, 10, .inl (fun _ => 0))), ((de + 1 + 5), .inl (kI, 10, .inl (fun _ => 0))), ((de + 1 + 6), .inl (kI, 10, .inl (fun _ => 0))), ((de + 1 + 7), .inl (kI, 10, .inl (fun _ => 0))), (sr, .inl (k_sr, 9, .inl fz)), (ct, .inl (k_ct, 8, .inl gz))]) ([(ct_, (.object RX5)), (kO, (.array .int)), (kI, .int), (kI, .int), (kI, .int), (kI, .int), (kI, .int), (kI, .int), (kI, .int), (kI, .int), (k_sr, .int), (k_ct, .int)]) 1 rfl 2 rfl 3 rfl 0 rfl) (cwV 0 hts gX7_findGains_X0_lawsNow rfl rfl rfl (by decide +kernel) ⟨Nat.le_of_ble_eq_true rfl, Nat.le_of_ble_eq_true rfl⟩) ⟨xR_blind _ _ _ _, va_recv hK hP (ci := 0) (q0 := 1) rfl rfl, xR_pre _ hE hK hP⟩ rfl rfl hl.1 rfl (lv_room (Nat.le_of_ble_eq_true rfl)) dX7_findGains_4 ⟨Nat.le_of_ble_eq_true rfl, Nat.le_of_ble_eq_true rfl⟩) (fun rh1 h1 => ?_)
  obtain ⟨rfl, h1⟩ := h1
  refine xw_v (v := .ref un) rfl ?_
  refine lv_astore_n (lv' := [(2, .ref un), (0, .ref rg), (1, .int c)]) hx hb dX7_findGains_7 rfl hl (by decide) rfl (fun ls hl => ?_)
  refine lv_aload_n hx hb dX7_findGains_8 rfl (lv_at hl 1 rfl) ?_
  refine va_get (D := (dC, dI)) (ci := 7) (v := .ref sr) (C := RX7) (T := TX7) (N := 13) hx hb hts iX7 hown hK hP 0 rfl rfl 3 (by decide) (hts (.fieldLink RX7 22 "CapLeague$RingSearch" "start" "[I") (by decide +kernel)) (fun _ h9 => h9) rfl dX7_findGains_9 ?_
  refine lv_iload_n hx hb dX7_findGains_12 rfl (lv_at hl 2 rfl) ?_
  refine lv_iconst (v := 1) hx hb dX7_findGains_13 (by decide) ?_
  refine lv_iadd hx hb dX7_findGains_14 ?_
  refine lv_topi (fun v2 ev2 => ?_)
  have jv2 : v2.toInt = c.toInt + 1 := xi_add ev2 rfl (by decide) (by omega) (by omega)
  refine va_iald (D := (dC, dI)) hx hb hK hP 13 10 rfl rfl (xi_in (by omega) (by omega)) dX7_findGains_15 ?_
  refine xw_i (v := 0) (hz _) ?_
  refine lv_aload_n hx hb dX7_findGains_16 rfl (lv_at hl 1 rfl) ?_
  refine va_get (D := (dC, dI)) (ci := 7) (v := .ref sr) (C := RX7) (T := TX7) (N := 13) hx hb hts iX7 hown hK hP 0 rfl rfl 3 (by decide) (hts (.fieldLink RX7 22 "CapLeague$RingSearch" "start" "[I") (by decide +kernel)) (fun _ h9 => h9) rfl dX7_findGains_17 ?_
  refine lv_iload_n hx hb dX7_findGains_20 rfl (lv_at hl 2 rfl) ?_
  refine va_iald (D := (dC, dI)) hx hb hK hP 13 10 rfl rfl (xi_in (by omega) (by omega)) dX7_findGains_21 ?_
  refine xw_i (v := 0) (hz _) ?_
  refine lv_isub hx hb dX7_findGains_22 ?_
  refine xw_i (v := 0) (by decide) ?_
  refine lv_istore_n (lv' := [(3, .int 0), (2, .ref un), (0, .ref rg), (1, .int c)]) hx hb dX7_findGains_23 rfl hl (by decide) rfl (fun ls hl => ?_)
  refine lv_aload_n hx hb dX7_findGains_24 rfl (lv_at hl 2 rfl) ?_
  refine va_get (D := (dC, dI)) (ci := 7) (v := .ref bk) (C := RX7) (T := TX7) (N := 13) hx hb hts iX7 hown hK hP 0 rfl rfl 0 (by decide) (hts (.fieldLink RX7 48 "CapLeague$RingSearch" "books" "LCapLeague$Books;") (by decide +kernel)) (fun _ h9 => h9) rfl dX7_findGains_25 ?_
  refine lv_iload_n hx hb dX7_findGains_28 rfl (lv_at hl 3 rfl) ?_
  refine lv_aload_n hx hb dX7_findGains_29 rfl (lv_at hl 2 rfl) ?_
  refine va_get (D := (dC, dI)) (ci := 7) (v := .ref bk) (C := RX7) (T := TX7) (N := 13) hx hb hts iX7 hown hK hP 0 rfl rfl 0 (by decide) (hts (.fieldLink RX7 48 "CapLeague$RingSearch" "books" "LCapLeague$Books;") (by decide +kernel)) (fun _ h9 => h9) rfl dX7_findGains_30 ?_
  refine va_get (D := (dC, dI)) (ci := 0) (v := .int 0) (C := RX0) (T := TX0) (N := 9) hx hb hts iX0 hown hK hP 1 rfl rfl 3 (by decide) (hts (.fieldLink RX7 88 "CapLeague$Books" "clock" "I") (by decide +kernel)) (fun _ h9 => h9) rfl dX7_findGains_33 ?_
  refine vp_callSi (W.runV (As := [.int c, .int 0]) (rest := []) ⟨hx, hb, hml, hown, hts⟩ (rX0_counts l dC dI ([(rg, .inr (7, [.ref bk, .ref cr, .ref li, .ref sr, .ref pa, .ref co, .ref ga, .ref pt, .ref ct, .int 0, .int 0, .ref cw, .ref pw])), (bk, .inr (0, [.ref lb, .ref pl, .int 0, .int 0, .ref de, .ref su, .ref fi, .int 0, .ref ac])), (lb, .inr (3, [.ref un, .ref tx])), (tx, .inl (ct_, 10, .inr (.inr (.inr (.inr (fun _ => none)))))), (de, .inl (kO, 8, .inr (.inr (.inr (.inr (fun j => if j < 8 then some (de + 1 + j) else none)))))), ((de + 1 + 0), .inl (kI, 10, .inl (fun _ => 0))), ((de + 1 + 1), .inl (kI, 10, .inl (fun _ => 0))), ((de + 1 + 2), .inl (kI, 10, .inl (fun _ => 0))), ((de + 1 + 3), .inl (kI, 10, .inl (fun _ => 0))), ((de + 1 + 4), .inl (kI, 10, .inl (fun _ => 0))), ((de + 1 + 5), .inl (kI, 10, .inl (fun _ => 0))), ((de + 1 + 6), .inl (kI, 10, .inl (fun _ => 0))), ((de + 1 + 7), .inl (kI, 10, .inl (fun _ => 0))), (sr, .inl (k_sr, 9, .inl fz)), (ct, .inl (k_ct, 8, .inl gz))]) ([(ct_, (.object RX5)), (kO, (.array .int)), (kI, .int), (kI, .int), (kI, .int), (kI, .int), (kI, .int), (kI, .int), (kI, .int), (kI, .int), (k_sr, .int), (k_ct, .int)]) 1 rfl 4 rfl 1 rfl 5 rfl 2 rfl 6 rfl 2 rfl 7 rfl 2 rfl 8 rfl 2 rfl 9 rfl 2 rfl 10 rfl 2 rfl 11 rfl 2 rfl 12 rfl 2 rfl c (c.toInt) rfl 0 (0) (by decide)) (cwV 2 hts gX7_findGains_X0_counts rfl rfl rfl (by decide +kernel) ⟨Nat.le_of_ble_eq_true rfl, Nat.le_of_ble_eq_true rfl⟩) ⟨xR_blind _ _ _ _, va_recv hK hP (ci := 0) (q0 := 1) rfl rfl, xR_pre _ hE hK hP⟩ rfl rfl hl.1 rfl (lv_room (Nat.le_of_ble_eq_true rfl)) dX7_findGains_36 ⟨Nat.le_of_ble_eq_true rfl, Nat.le_of_ble_eq_true rfl⟩) (fun rh3 h3 => ?_)
  obtain ⟨rfl, h3⟩ := h3
  refine lv_istore (lv' := [(4, .int 0), (3, .int 0), (2, .ref un), (0, .ref rg), (1, .int c)]) hx hb dX7_findGains_39 hl (by decide) rfl (fun ls hl => ?_)
  refine lv_aload_n hx hb dX7_findGains_41 rfl (lv_at hl 3 rfl) ?_
  refine va_get (D := (dC, dI)) (ci := 7) (v := .ref ct) (C := RX7) (T := TX7) (N := 13) hx hb hts iX7 hown hK hP 0 rfl rfl 8 (by decide) (hts (.fieldLink RX7 39 "CapLeague$RingSearch" "clubTop" "[I") (by decide +kernel)) (fun _ h9 => h9) rfl dX7_findGains_42 ?_
  refine lv_iload_n hx hb dX7_findGains_45 rfl (lv_at hl 4 rfl) ?_
  refine lv_iconst (v := 0) hx hb dX7_findGains_46 (by decide) ?_
  refine va_iast (D := (dC, dI)) hx hb hK hP hD hS 14 11 rfl rfl (xi_in (by omega) (by omega)) dX7_findGains_47 (fun H locs hP hD hS => ?_)
  obtain ⟨f4, ef4⟩ : ∃ g : Nat → Int32, g = upd gz c.toNatClampNeg (0) := ⟨_, rfl⟩
  replace hP : va_P (dC, dI) vwCl [(rg, .inr (7, [.ref bk, .ref cr, .ref li, .ref sr, .ref pa, .ref co, .ref ga, .ref pt, .ref ct, .int 0, .int 0, .ref cw, .ref pw])), (bk, .inr (0, [.ref lb, .ref pl, .int 0, .int 0, .ref de, .ref su, .ref fi, .int 0, .ref ac])), (lb, .inr (3, [.ref un, .ref tx])), (tx, .inl (ct_, 10, .inr (.inr (.inr (.inr (fun _ => none)))))), (de, .inl (kO, 8, .inr (.inr (.inr (.inr (fun j => if j < 8 then some (de + 1 + j) else none)))))), ((de + 1 + 0), .inl (kI, 10, .inl (fun _ => 0))), ((de + 1 + 1), .inl (kI, 10, .inl (fun _ => 0))), ((de + 1 + 2), .inl (kI, 10, .inl (fun _ => 0))), ((de + 1 + 3), .inl (kI, 10, .inl (fun _ => 0))), ((de + 1 + 4), .inl (kI, 10, .inl (fun _ => 0))), ((de + 1 + 5), .inl (kI, 10, .inl (fun _ => 0))), ((de + 1 + 6), .inl (kI, 10, .inl (fun _ => 0))), ((de + 1 + 7), .inl (kI, 10, .inl (fun _ => 0))), (sr, .inl (k_sr, 9, .inl fz)), (ct, .inl (k_ct, 8, .inl f4))] H := by rw [ef4]; exact hP
  replace hD : va_D A [(rg, .inr (7, [.ref bk, .ref cr, .ref li, .ref sr, .ref pa, .ref co, .ref ga, .ref pt, .ref ct, .int 0, .int 0, .ref cw, .ref pw])), (bk, .inr (0, [.ref lb, .ref pl, .int 0, .int 0, .ref de, .ref su, .ref fi, .int 0, .ref ac])), (lb, .inr (3, [.ref un, .ref tx])), (tx, .inl (ct_, 10, .inr (.inr (.inr (.inr (fun _ => none)))))), (de, .inl (kO, 8, .inr (.inr (.inr (.inr (fun j => if j < 8 then some (de + 1 + j) else none)))))), ((de + 1 + 0), .inl (kI, 10, .inl (fun _ => 0))), ((de + 1 + 1), .inl (kI, 10, .inl (fun _ => 0))), ((de + 1 + 2), .inl (kI, 10, .inl (fun _ => 0))), ((de + 1 + 3), .inl (kI, 10, .inl (fun _ => 0))), ((de + 1 + 4), .inl (kI, 10, .inl (fun _ => 0))), ((de + 1 + 5), .inl (kI, 10, .inl (fun _ => 0))), ((de + 1 + 6), .inl (kI, 10, .inl (fun _ => 0))), ((de + 1 + 7), .inl (kI, 10, .inl (fun _ => 0))), (sr, .inl (k_sr, 9, .inl fz)), (ct, .inl (k_ct, 8, .inl f4))] := by rw [ef4]; exact hD
  have zf4 : ∀ j, f4 j = 0 := by rw [ef4]; exact xu_z hg _
  clear ef4
  refine lv_aload_n hx hb dX7_findGains_48 rfl (lv_at hl 3 rfl) ?_
  refine va_get (D := (dC, dI)) (ci := 7) (v := .ref sr) (C := RX7) (T := TX7) (N := 13) hx hb hts iX7 hown hK hP 0 rfl rfl 3 (by decide) (hts (.fieldLink RX7 22 "CapLeague$RingSearch" "start" "[I") (by decide +kernel)) (fun _ h9 => h9) rfl dX7_findGains_49 ?_
  refine lv_iload_n hx hb dX7_findGains_52 rfl (lv_at hl 4 rfl) ?_
  refine va_iald (D := (dC, dI)) hx hb hK hP 13 10 rfl rfl (xi_in (by omega) (by omega)) dX7_findGains_53 ?_
  refine xw_i (v := 0) (hz _) ?_
  refine lv_istore (lv' := [(5, .int 0), (4, .int 0), (3, .int 0), (2, .ref un), (0, .ref rg), (1, .int c)]) hx hb dX7_findGains_54 hl (by decide) rfl (fun ls hl => ?_)
  refine lv_iload hx hb dX7_findGains_56 (lv_at hl 0 rfl) ?_
  refine lv_aload_n hx hb dX7_findGains_58 rfl (lv_at hl 4 rfl) ?_
  refine va_get (D := (dC, dI)) (ci := 7) (v := .ref sr) (C := RX7) (T := TX7) (N := 13) hx hb hts iX7 hown hK hP 0 rfl rfl 3 (by decide) (hts (.fieldLink RX7 22 "CapLeague$RingSearch" "start" "[I") (by decide +kernel)) (fun _ h9 => h9) rfl dX7_findGains_59 ?_
  refine lv_iload_n hx hb dX7_findGains_62 rfl (lv_at hl 5 rfl) ?_
  refine lv_iconst (v := 1) hx hb dX7_findGains_63 (by decide) ?_
  refine lv_iadd hx hb dX7_findGains_64 ?_
  refine lv_topi (fun v5 ev5 => ?_)
  have jv5 : v5.toInt = c.toInt + 1 := xi_add ev5 rfl (by decide) (by omega) (by omega)
  refine va_iald (D := (dC, dI)) hx hb hK hP 13 10 rfl rfl (xi_in (by omega) (by omega)) dX7_findGains_65 ?_
  refine xw_i (v := 0) (hz _) ?_
  refine lv_icmp_ge (tgt := 258) hx hb dX7_findGains_66 (by decide) (fun _ => ?_) (fun h => absurd (by decide) h)
  have hP9 := hP.sub (ws' := [(rg, .inr (7, [.ref bk, .ref cr, .ref li, .ref sr, .ref pa, .ref co, .ref ga, .ref pt, .ref ct, .int 0, .int 0, .ref cw, .ref pw])), (bk, .inr (0, [.ref lb, .ref pl, .int 0, .int 0, .ref de, .ref su, .ref fi, .int 0, .ref ac])), (lb, .inr (3, [.ref un, .ref tx])), (tx, .inl (ct_, 10, .inr (.inr (.inr (.inr (fun _ => none)))))), (de, .inl (kO, 8, .inr (.inr (.inr (.inr (fun j => if j < 8 then some (de + 1 + j) else none)))))), ((de + 1 + 0), .inl (kI, 10, .inl (fun _ => 0))), ((de + 1 + 1), .inl (kI, 10, .inl (fun _ => 0))), ((de + 1 + 2), .inl (kI, 10, .inl (fun _ => 0))), ((de + 1 + 3), .inl (kI, 10, .inl (fun _ => 0))), ((de + 1 + 4), .inl (kI, 10, .inl (fun _ => 0))), ((de + 1 + 5), .inl (kI, 10, .inl (fun _ => 0))), ((de + 1 + 6), .inl (kI, 10, .inl (fun _ => 0))), ((de + 1 + 7), .inl (kI, 10, .inl (fun _ => 0))), (sr, .inl (k_sr, 9, .inl fz)), (ct, .inl (k_ct, 8, .inl f4))]) [0, 1, 2, 3, 4, 5, 6, 7, 8, 9, 10, 11, 12, 13, 14] rfl
  have hD9 := hD.sub (ws' := [(rg, .inr (7, [.ref bk, .ref cr, .ref li, .ref sr, .ref pa, .ref co, .ref ga, .ref pt, .ref ct, .int 0, .int 0, .ref cw, .ref pw])), (bk, .inr (0, [.ref lb, .ref pl, .int 0, .int 0, .ref de, .ref su, .ref fi, .int 0, .ref ac])), (lb, .inr (3, [.ref un, .ref tx])), (tx, .inl (ct_, 10, .inr (.inr (.inr (.inr (fun _ => none)))))), (de, .inl (kO, 8, .inr (.inr (.inr (.inr (fun j => if j < 8 then some (de + 1 + j) else none)))))), ((de + 1 + 0), .inl (kI, 10, .inl (fun _ => 0))), ((de + 1 + 1), .inl (kI, 10, .inl (fun _ => 0))), ((de + 1 + 2), .inl (kI, 10, .inl (fun _ => 0))), ((de + 1 + 3), .inl (kI, 10, .inl (fun _ => 0))), ((de + 1 + 4), .inl (kI, 10, .inl (fun _ => 0))), ((de + 1 + 5), .inl (kI, 10, .inl (fun _ => 0))), ((de + 1 + 6), .inl (kI, 10, .inl (fun _ => 0))), ((de + 1 + 7), .inl (kI, 10, .inl (fun _ => 0))), (sr, .inl (k_sr, 9, .inl fz)), (ct, .inl (k_ct, 8, .inl f4))]) [0, 1, 2, 3, 4, 5, 6, 7, 8, 9, 10, 11, 12, 13, 14] (by decide) rfl
  have hK9 := hK.sub (tys' := [(ct_, (.object RX5)), (kO, (.array .int)), (kI, .int), (kI, .int), (kI, .int), (kI, .int), (kI, .int), (kI, .int), (kI, .int), (kI, .int), (k_sr, .int), (k_ct, .int)]) [0, 1, 2, 2, 2, 2, 2, 2, 2, 2, 10, 11] rfl
  exact W.vret hx hb hr (fun t ht hW => ⟨⟨(), rfl, trivial, ⟨f4, zf4, by rw [ht]; exact hP9, va_K.moved hW.alike hK9, hD9⟩⟩, hS.F ht⟩) hS.2.2 dX7_findGains_258
set_option maxHeartbeats 4000000 in
set_option maxRecDepth 100000 in
theorem rX7_two (l : Launch) (dC : Nat → ClassId) (dI : Nat → Nat → Nat) (ws : va_W) (tys : List (ClassId × FieldType)) {bk co cr ct cw ga li pa pt pw rg sr : Nat} {k_sr : ClassId} {fz : Nat → Int32} (hz : ∀ j, fz j = 0) (p0 : Nat) (e0 : ws[p0]? = some (rg, .inr (7, [.ref bk, .ref cr, .ref li, .ref sr, .ref pa, .ref co, .ref ga, .ref pt, .ref ct, .int 0, .int 0, .ref cw, .ref pw]))) (p1 : Nat) (e1 : ws[p1]? = some (sr, .inl (k_sr, 9, .inl fz))) (t1 : Nat) (y1 : tys[t1]? = some (k_sr, .int)) (a : Int32) (a_t : Int) (h_a : a.toInt = a_t) (b : Int32) (b_t : Int) (h_b : b.toInt = b_t) (h1 : 0 ≤ a_t) (h2 : a_t ≤ 7) : Met l yX7_tryTwo wsX7_tryTwo ({ frames := 1, cells := 0, slots := 0, locals := 64 }) (va_Pc [.ref rg, .int a, .int b] (xR (dC, dI) tys ws)) (va_Sv (fun _ => True)) 0 0 (fun _ => False) := by
  refine Met.ofW (cc := cX7_tryTwo) (maxL := 7) (ret := none) (by decide) rfl ?_
  intro pr_ ev_ s m args below meth cd_ s₁ B hml hv
  obtain ⟨rfl, hE, hK, hP⟩ := hv
  have hx := B.exec
  have hb := B.bytes
  have hr := B.returns
  have hts := atoms_spec (ws := wsX7_tryTwo) B.pre
  have hown : s.vm.findClass RX7 = some m.cls := findClass_of_methodNamed B.named
  have hlocks := B.notSynchronized
  have iX7 : ∀ w ∈ u_ws RX7 TX7 13, w ∈ wsX7_tryTwo := by decide +kernel
  have hl := lv_entry ([.ref rg, .int a, .int b]) (n := 7) (Nat.le_of_ble_eq_true rfl)
  rw [lg_entry_eq]
  generalize (lg_sl ([.ref rg, .int a, .int b]) ++ List.replicate (7 - (lg_sl ([.ref rg, .int a, .int b])).length) Slot.unset).toArray = ls at hl ⊢
  have hl : lv_has ls 7 [(0, .ref rg), (1, .int a), (2, .int b)] := hl
  have lo_a := xi_lo a
  have hi_a := xi_hi a
  have lo_b := xi_lo b
  have hi_b := xi_hi b
  refine lv_aload_n hx hb dX7_tryTwo_0 rfl (lv_at hl 0 rfl) ?_
  refine va_get (D := (dC, dI)) (ci := 7) (v := .ref sr) (C := RX7) (T := TX7) (N := 13) hx hb hts iX7 hown hK hP p0 e0 rfl 3 (by decide) (hts (.fieldLink RX7 22 "CapLeague$RingSearch" "start" "[I") (by decide +kernel)) (fun _ h9 => h9) rfl dX7_tryTwo_1 ?_
  refine lv_iload_n hx hb dX7_tryTwo_4 rfl (lv_at hl 1 rfl) ?_
  refine va_iald (D := (dC, dI)) hx hb hK hP p1 t1 e1 y1 (xi_in (by omega) (by omega)) dX7_tryTwo_5 ?_
  refine xw_i (v := 0) (hz _) ?_
  refine lv_istore_n (lv' := [(3, .int 0), (0, .ref rg), (1, .int a), (2, .int b)]) hx hb dX7_tryTwo_6 rfl hl (by decide) rfl (fun ls hl => ?_)
  refine lv_iload_n hx hb dX7_tryTwo_7 rfl (lv_at hl 0 rfl) ?_
  refine lv_aload_n hx hb dX7_tryTwo_8 rfl (lv_at hl 1 rfl) ?_
  refine va_get (D := (dC, dI)) (ci := 7) (v := .ref sr) (C := RX7) (T := TX7) (N := 13) hx hb hts iX7 hown hK hP p0 e0 rfl 3 (by decide) (hts (.fieldLink RX7 22 "CapLeague$RingSearch" "start" "[I") (by decide +kernel)) (fun _ h9 => h9) rfl dX7_tryTwo_9 ?_
  refine lv_iload_n hx hb dX7_tryTwo_12 rfl (lv_at hl 2 rfl) ?_
  refine lv_iconst (v := 1) hx hb dX7_tryTwo_13 (by decide) ?_
  refine lv_iadd hx hb dX7_tryTwo_14 ?_
  refine lv_topi (fun v1 ev1 => ?_)
  have jv1 : v1.toInt = a.toInt + 1 := xi_add ev1 rfl (by decide) (by omega) (by omega)
  refine va_iald (D := (dC, dI)) hx hb hK hP p1 t1 e1 y1 (xi_in (by omega) (by omega)) dX7_tryTwo_15 ?_
  refine xw_i (v := 0) (hz _) ?_
  refine lv_icmp_ge (tgt := 152) hx hb dX7_tryTwo_16 (by decide) (fun _ => ?_) (fun h => absurd (by decide) h)
  exact W.vret hx hb hr (fun t ht hW => ⟨rfl, trivial, ht⟩) (fun _ h => by cases h) dX7_tryTwo_152
set_option maxHeartbeats 4000000 in
set_option maxRecDepth 100000 in
theorem rX7_three (l : Launch) (dC : Nat → ClassId) (dI : Nat → Nat → Nat) (ws : va_W) (tys : List (ClassId × FieldType)) {bk co cr ct cw ga li pa pt pw rg sr : Nat} {k_ct : ClassId} {gz : Nat → Int32} (hg : ∀ j, gz j = 0) (p0 : Nat) (e0 : ws[p0]? = some (rg, .inr (7, [.ref bk, .ref cr, .ref li, .ref sr, .ref pa, .ref co, .ref ga, .ref pt, .ref ct, .int 0, .int 0, .ref cw, .ref pw]))) (p1 : Nat) (e1 : ws[p1]? = some (ct, .inl (k_ct, 8, .inl gz))) (t1 : Nat) (y1 : tys[t1]? = some (k_ct, .int)) (a : Int32) (a_t : Int) (h_a : a.toInt = a_t) (b : Int32) (b_t : Int) (h_b : b.toInt = b_t) (c : Int32) (c_t : Int) (h_c : c.toInt = c_t) (h1 : 0 ≤ a_t) (h2 : a_t ≤ 7) (h3 : 0 ≤ b_t) (h4 : b_t ≤ 7) (h5 : 0 ≤ c_t) (h6 : c_t ≤ 7) : Met l yX7_tryThree wsX7_tryThree ({ frames := 1, cells := 0, slots := 0, locals := 64 }) (va_Pc [.ref rg, .int a, .int b, .int c] (xR (dC, dI) tys ws)) (va_Sv (fun _ => True)) 0 0 (fun _ => False) := by
  refine Met.ofW (cc := cX7_tryThree) (maxL := 7) (ret := none) (by decide) rfl ?_
  intro pr_ ev_ s m args below meth cd_ s₁ B hml hv
  obtain ⟨rfl, hE, hK, hP⟩ := hv
  have hx := B.exec
  have hb := B.bytes
  have hr := B.returns
  have hts := atoms_spec (ws := wsX7_tryThree) B.pre
  have hown : s.vm.findClass RX7 = some m.cls := findClass_of_methodNamed B.named
  have hlocks := B.notSynchronized
  have iX7 : ∀ w ∈ u_ws RX7 TX7 13, w ∈ wsX7_tryThree := by decide +kernel
  have hl := lv_entry ([.ref rg, .int a, .int b, .int c]) (n := 7) (Nat.le_of_ble_eq_true rfl)
  rw [lg_entry_eq]
  generalize (lg_sl ([.ref rg, .int a, .int b, .int c]) ++ List.replicate (7 - (lg_sl ([.ref rg, .int a, .int b, .int c])).length) Slot.unset).toArray = ls at hl ⊢
  have hl : lv_has ls 7 [(0, .ref rg), (1, .int a), (2, .int b), (3, .int c)] := hl
  have lo_a := xi_lo a
  have hi_a := xi_hi a
  have lo_b := xi_lo b
  have hi_b := xi_hi b
  have lo_c := xi_lo c
  have hi_c := xi_hi c
  refine lv_aload_n hx hb dX7_tryThree_0 rfl (lv_at hl 0 rfl) ?_
  refine va_get (D := (dC, dI)) (ci := 7) (v := .ref ct) (C := RX7) (T := TX7) (N := 13) hx hb hts iX7 hown hK hP p0 e0 rfl 8 (by decide) (hts (.fieldLink RX7 39 "CapLeague$RingSearch" "clubTop" "[I") (by decide +kernel)) (fun _ h9 => h9) rfl dX7_tryThree_1 ?_
  refine lv_iload_n hx hb dX7_tryThree_4 rfl (lv_at hl 1 rfl) ?_
  refine va_iald (D := (dC, dI)) hx hb hK hP p1 t1 e1 y1 (xi_in (by omega) (by omega)) dX7_tryThree_5 ?_
  refine xw_i (v := 0) (hg _) ?_
  refine lv_aload_n hx hb dX7_tryThree_6 rfl (lv_at hl 0 rfl) ?_
  refine va_get (D := (dC, dI)) (ci := 7) (v := .ref ct) (C := RX7) (T := TX7) (N := 13) hx hb hts iX7 hown hK hP p0 e0 rfl 8 (by decide) (hts (.fieldLink RX7 39 "CapLeague$RingSearch" "clubTop" "[I") (by decide +kernel)) (fun _ h9 => h9) rfl dX7_tryThree_7 ?_
  refine lv_iload_n hx hb dX7_tryThree_10 rfl (lv_at hl 2 rfl) ?_
  refine va_iald (D := (dC, dI)) hx hb hK hP p1 t1 e1 y1 (xi_in (by omega) (by omega)) dX7_tryThree_11 ?_
  refine xw_i (v := 0) (hg _) ?_
  refine lv_iadd hx hb dX7_tryThree_12 ?_
  refine xw_i (v := 0) (by decide) ?_
  refine lv_aload_n hx hb dX7_tryThree_13 rfl (lv_at hl 0 rfl) ?_
  refine va_get (D := (dC, dI)) (ci := 7) (v := .ref ct) (C := RX7) (T := TX7) (N := 13) hx hb hts iX7 hown hK hP p0 e0 rfl 8 (by decide) (hts (.fieldLink RX7 39 "CapLeague$RingSearch" "clubTop" "[I") (by decide +kernel)) (fun _ h9 => h9) rfl dX7_tryThree_14 ?_
  refine lv_iload_n hx hb dX7_tryThree_17 rfl (lv_at hl 3 rfl) ?_
  refine va_iald (D := (dC, dI)) hx hb hK hP p1 t1 e1 y1 (xi_in (by omega) (by omega)) dX7_tryThree_18 ?_
  refine xw_i (v := 0) (hg _) ?_
  refine lv_iadd hx hb dX7_tryThree_19 ?_
  refine xw_i (v := 0) (by decide) ?_
  refine lv_aload_n hx hb dX7_tryThree_20 rfl (lv_at hl 0 rfl) ?_
  refine va_get (D := (dC, dI)) (ci := 7) (v := .int 0) (C := RX7) (T := TX7) (N := 13) hx hb hts iX7 hown hK hP p0 e0 rfl 9 (by decide) (hts (.fieldLink RX7 59 "CapLeague$RingSearch" "best" "I") (by decide +kernel)) (fun _ h9 => h9) rfl dX7_tryThree_21 ?_
  refine lv_icmp_gt (tgt := 28) hx hb dX7_tryThree_24 (by decide) (fun h => absurd h (by decide)) (fun _ => ?_)
  exact W.vret hx hb hr (fun t ht hW => ⟨rfl, trivial, ht⟩) (fun _ h => by cases h) dX7_tryThree_27
