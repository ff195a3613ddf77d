set_option maxHeartbeats 4000000 in
set_option maxRecDepth 100000 in
theorem tX11_termsB (l : Launch) (E : tE) (X : tX) (A : Nat → Prop) (z : tZ) (I0 : tI) (L0 : tL) (a : Int32) (a_t : Int) (h_a : a.toInt = a_t) (b : Int32) (b_t : Int) (h_b : b.toInt = b_t) (c : Int32) (c_t : Int) (h_c : c.toInt = c_t) (d : Int32) (d_t : Int) (h_d : d.toInt = d_t) (f : Int32) (f_t : Int) (h_f : f.toInt = f_t) (b_f : 0 ≤ f_t ∧ f_t ≤ 1) : Met l yX11_areTerms wsX11_areTerms ({ frames := 1, cells := 0, slots := 0, locals := 64 }) (va_Pc [.int a, .int b, .int c, .int d, .int f] (h_P E X A z I0 L0)) (vp_Si (fun r => (0 ≤ r.toInt ∧ r.toInt ≤ 1) ∧ ((r.toInt = 1 ∧ (1 ≤ a_t ∧ a_t ≤ 5 ∧ 0 ≤ b_t ∧ b_t ≤ 20000 ∧ -500 ≤ c_t ∧ c_t ≤ 500 ∧ 0 ≤ d_t ∧ d_t ≤ 100 ∧ (f_t = 0 ∨ 2 ≤ a_t))) ∨ (r.toInt = 0 ∧ ¬ (1 ≤ a_t ∧ a_t ≤ 5 ∧ 0 ≤ b_t ∧ b_t ≤ 20000 ∧ -500 ≤ c_t ∧ c_t ≤ 500 ∧ 0 ≤ d_t ∧ d_t ≤ 100 ∧ (f_t = 0 ∨ 2 ≤ a_t)))))) 0 0 (fun _ => False) := by
  refine Met.ofW (cc := cX11_areTerms) (maxL := 5) (ret := (some .boolean)) (by decide) rfl ?_
  intro pr_ ev_ s m args below meth cd_ s₁ B hml hv
  obtain ⟨rfl, hE, hk, hX, hA, hK, hI, hR, hB0⟩ := hv
  have g : h_G h_so h_fk E A z I0 L0 s s.heap s.heap [] := ⟨hK, va_S.rf, hB0⟩
  have hx := B.exec
  have hb := B.bytes
  have hr := B.returns
  have hts := atoms_spec (ws := wsX11_areTerms) B.pre
  have hown : s.vm.findClass RX11 = some m.cls := findClass_of_methodNamed B.named
  have hlocks := B.notSynchronized
  have hl := lv_entry ([.int a, .int b, .int c, .int d, .int f]) (n := 5) (Nat.le_of_ble_eq_true rfl)
  rw [lg_entry_eq]
  generalize (lg_sl ([.int a, .int b, .int c, .int d, .int f]) ++ List.replicate (5 - (lg_sl ([.int a, .int b, .int c, .int d, .int f])).length) Slot.unset).toArray = ls at hl ⊢
  have hl : lv_has ls 5 [(0, .int a), (1, .int b), (2, .int c), (3, .int d), (4, .int f)] := hl
  have b_a : -2147483648 ≤ a_t ∧ a_t ≤ 2147483647 := h_a ▸ ⟨xi_lo a, Int.le_of_lt_add_one (xi_hi a)⟩
  have b_b : -2147483648 ≤ b_t ∧ b_t ≤ 2147483647 := h_b ▸ ⟨xi_lo b, Int.le_of_lt_add_one (xi_hi b)⟩
  have b_c : -2147483648 ≤ c_t ∧ c_t ≤ 2147483647 := h_c ▸ ⟨xi_lo c, Int.le_of_lt_add_one (xi_hi c)⟩
  have b_d : -2147483648 ≤ d_t ∧ d_t ≤ 2147483647 := h_d ▸ ⟨xi_lo d, Int.le_of_lt_add_one (xi_hi d)⟩
  refine lv_iload_n hx hb dX11_areTerms_0 rfl (lv_at hl 0 rfl) ?_
  refine lv_iconst (v := 1) hx hb dX11_areTerms_1 (by decide) ?_
  refine lv_icmp_lt (tgt := 59) hx hb dX11_areTerms_2 (by decide) (fun c1 => ?_) (fun c1 => ?_)
  · have ic1 := (xi_lt c1 h_a (by decide) : a_t < 1)
    refine lv_iconst (v := 0) hx hb dX11_areTerms_59 (by decide) ?_
    exact W.zret (v := 0) hx hb hr (by decide) (fun t ht hW => ⟨0, rfl, ⟨⟨(by decide), (by decide)⟩, (by have z9 : (0 : Int32).toInt = 0 := (by decide); omega)⟩, ht⟩) (fun _ h => by cases h) dX11_areTerms_60
  · have ic1 := (xi_nlt c1 h_a (by decide) : 1 ≤ a_t)
    refine lv_iload_n hx hb dX11_areTerms_5 rfl (lv_at hl 0 rfl) ?_
    refine lv_iconst (v := 5) hx hb dX11_areTerms_6 (by decide) ?_
    refine lv_icmp_gt (tgt := 59) hx hb dX11_areTerms_7 (by decide) (fun c2 => ?_) (fun c2 => ?_)
    · have ic2 := (xi_lt c2 (by decide) h_a : 5 < a_t)
      refine lv_iconst (v := 0) hx hb dX11_areTerms_59 (by decide) ?_
      exact W.zret (v := 0) hx hb hr (by decide) (fun t ht hW => ⟨0, rfl, ⟨⟨(by decide), (by decide)⟩, (by have z9 : (0 : Int32).toInt = 0 := (by decide); omega)⟩, ht⟩) (fun _ h => by cases h) dX11_areTerms_60
    · have ic2 := (xi_nlt c2 (by decide) h_a : a_t ≤ 5)
      refine lv_iload_n hx hb dX11_areTerms_10 rfl (lv_at hl 1 rfl) ?_
      refine lv_if_lt (tgt := 59) hx hb dX11_areTerms_11 (by decide) (fun c3 => ?_) (fun c3 => ?_)
      · have ic3 := (xi_lt c3 h_b (by decide) : b_t < 0)
        refine lv_iconst (v := 0) hx hb dX11_areTerms_59 (by decide) ?_
        exact W.zret (v := 0) hx hb hr (by decide) (fun t ht hW => ⟨0, rfl, ⟨⟨(by decide), (by decide)⟩, (by have z9 : (0 : Int32).toInt = 0 := (by decide); omega)⟩, ht⟩) (fun _ h => by cases h) dX11_areTerms_60
      · have ic3 := (xi_nlt c3 h_b (by decide) : 0 ≤ b_t)
        refine lv_iload_n hx hb dX11_areTerms_14 rfl (lv_at hl 1 rfl) ?_
        refine lv_sipush (v := 20000) hx hb dX11_areTerms_15 (by decide) ?_
        refine lv_icmp_gt (tgt := 59) hx hb dX11_areTerms_18 (by decide) (fun c4 => ?_) (fun c4 => ?_)
        · have ic4 := (xi_lt c4 (by decide) h_b : 20000 < b_t)
          refine lv_iconst (v := 0) hx hb dX11_areTerms_59 (by decide) ?_
          exact W.zret (v := 0) hx hb hr (by decide) (fun t ht hW => ⟨0, rfl, ⟨⟨(by decide), (by decide)⟩, (by have z9 : (0 : Int32).toInt = 0 := (by decide); omega)⟩, ht⟩) (fun _ h => by cases h) dX11_areTerms_60
        · have ic4 := (xi_nlt c4 (by decide) h_b : b_t ≤ 20000)
          refine lv_iload_n hx hb dX11_areTerms_21 rfl (lv_at hl 2 rfl) ?_
          refine lv_sipush (v := (-500)) hx hb dX11_areTerms_22 (by decide) ?_
          refine lv_icmp_lt (tgt := 59) hx hb dX11_areTerms_25 (by decide) (fun c5 => ?_) (fun c5 => ?_)
          · have ic5 := (xi_lt c5 h_c (by decide) : c_t < (-500))
            refine lv_iconst (v := 0) hx hb dX11_areTerms_59 (by decide) ?_
            exact W.zret (v := 0) hx hb hr (by decide) (fun t ht hW => ⟨0, rfl, ⟨⟨(by decide), (by decide)⟩, (by have z9 : (0 : Int32).toInt = 0 := (by decide); omega)⟩, ht⟩) (fun _ h => by cases h) dX11_areTerms_60
          · have ic5 := (xi_nlt c5 h_c (by decide) : (-500) ≤ c_t)
            refine lv_iload_n hx hb dX11_areTerms_28 rfl (lv_at hl 2 rfl) ?_
            refine lv_sipush (v := 500) hx hb dX11_areTerms_29 (by decide) ?_
            refine lv_icmp_gt (tgt := 59) hx hb dX11_areTerms_32 (by decide) (fun c6 => ?_) (fun c6 => ?_)
            · have ic6 := (xi_lt c6 (by decide) h_c : 500 < c_t)
              refine lv_iconst (v := 0) hx hb dX11_areTerms_59 (by decide) ?_
              exact W.zret (v := 0) hx hb hr (by decide) (fun t ht hW => ⟨0, rfl, ⟨⟨(by decide), (by decide)⟩, (by have z9 : (0 : Int32).toInt = 0 := (by decide); omega)⟩, ht⟩) (fun _ h => by cases h) dX11_areTerms_60
            · have ic6 := (xi_nlt c6 (by decide) h_c : c_t ≤ 500)
              refine lv_iload_n hx hb dX11_areTerms_35 rfl (lv_at hl 3 rfl) ?_
              refine lv_if_lt (tgt := 59) hx hb dX11_areTerms_36 (by decide) (fun c7 => ?_) (fun c7 => ?_)
              · have ic7 := (xi_lt c7 h_d (by decide) : d_t < 0)
                refine lv_iconst (v := 0) hx hb dX11_areTerms_59 (by decide) ?_
                exact W.zret (v := 0) hx hb hr (by decide) (fun t ht hW => ⟨0, rfl, ⟨⟨(by decide), (by decide)⟩, (by have z9 : (0 : Int32).toInt = 0 := (by decide); omega)⟩, ht⟩) (fun _ h => by cases h) dX11_areTerms_60
              · have ic7 := (xi_nlt c7 h_d (by decide) : 0 ≤ d_t)
                refine lv_iload_n hx hb dX11_areTerms_39 rfl (lv_at hl 3 rfl) ?_
                refine lv_bipush (v := 100) hx hb dX11_areTerms_40 (by decide) ?_
                refine lv_icmp_gt (tgt := 59) hx hb dX11_areTerms_42 (by decide) (fun c8 => ?_) (fun c8 => ?_)
                · have ic8 := (xi_lt c8 (by decide) h_d : 100 < d_t)
                  refine lv_iconst (v := 0) hx hb dX11_areTerms_59 (by decide) ?_
                  exact W.zret (v := 0) hx hb hr (by decide) (fun t ht hW => ⟨0, rfl, ⟨⟨(by decide), (by decide)⟩, (by have z9 : (0 : Int32).toInt = 0 := (by decide); omega)⟩, ht⟩) (fun _ h => by cases h) dX11_areTerms_60
                · have ic8 := (xi_nlt c8 (by decide) h_d : d_t ≤ 100)
                  refine lv_iload hx hb dX11_areTerms_45 (lv_at hl 4 rfl) ?_
                  refine lv_if_eq (tgt := 55) hx hb dX11_areTerms_47 (by decide) (fun c9 => ?_) (fun c9 => ?_)
                  · have ic9 := (xi_eq c9 h_f (by decide) : f_t = 0)
                    refine lv_iconst (v := 1) hx hb dX11_areTerms_55 (by decide) ?_
                    refine lv_goto (tgt := 60) hx hb dX11_areTerms_56 (by decide) ?_
                    exact W.zret (v := 1) hx hb hr (by decide) (fun t ht hW => ⟨1, rfl, ⟨⟨(by decide), (by decide)⟩, (by have z9 : (1 : Int32).toInt = 1 := (by decide); omega)⟩, ht⟩) (fun _ h => by cases h) dX11_areTerms_60
                  · have ic9 := (xi_ne c9 h_f (by decide) : f_t ≠ 0)
                    refine lv_iload_n hx hb dX11_areTerms_50 rfl (lv_at hl 0 rfl) ?_
                    refine lv_iconst (v := 2) hx hb dX11_areTerms_51 (by decide) ?_
                    refine lv_icmp_lt (tgt := 59) hx hb dX11_areTerms_52 (by decide) (fun c10 => ?_) (fun c10 => ?_)
                    · have ic10 := (xi_lt c10 h_a (by decide) : a_t < 2)
                      refine lv_iconst (v := 0) hx hb dX11_areTerms_59 (by decide) ?_
                      exact W.zret (v := 0) hx hb hr (by decide) (fun t ht hW => ⟨0, rfl, ⟨⟨(by decide), (by decide)⟩, (by have z9 : (0 : Int32).toInt = 0 := (by decide); omega)⟩, ht⟩) (fun _ h => by cases h) dX11_areTerms_60
                    · have ic10 := (xi_nlt c10 h_a (by decide) : 2 ≤ a_t)
                      refine lv_iconst (v := 1) hx hb dX11_areTerms_55 (by decide) ?_
                      refine lv_goto (tgt := 60) hx hb dX11_areTerms_56 (by decide) ?_
                      exact W.zret (v := 1) hx hb hr (by decide) (fun t ht hW => ⟨1, rfl, ⟨⟨(by decide), (by decide)⟩, (by have z9 : (1 : Int32).toInt = 1 := (by decide); omega)⟩, ht⟩) (fun _ h => by cases h) dX11_areTerms_60
set_option maxHeartbeats 4000000 in
set_option maxRecDepth 100000 in
theorem tX6_bindB (l : Launch) (E : tE) (X : tX) (A : Nat → Prop) (z : tZ) (I0 : tI) (L0 : tL) (a0 : Nat) (t_a0 : z.ty a0 = 7) (c : Int32) (c_t : Int) (h_c : c.toInt = c_t) (b_c : (-1) ≤ c_t ∧ c_t ≤ 7) (y : Int32) (y_t : Int) (h_y : y.toInt = y_t) (n : Int32) (n_t : Int) (h_n : n.toInt = n_t) (p : Int32) (p_t : Int) (h_p : p.toInt = p_t) (u : Int32) (u_t : Int) (h_u : u.toInt = u_t) (q : Int32) (q_t : Int) (h_q : q.toInt = q_t) (h : Int32) (h_t : Int) (h_h : h.toInt = h_t) (b_h : 0 ≤ h_t ∧ h_t ≤ 1) : Met l yX6_bind wsX6_bind ({ frames := 1, cells := 0, slots := 0, locals := 64 }) (va_Pc [.ref a0, .int c, .int y, .int n, .int p, .int u, .int q, .int h] (h_P E X A z I0 L0)) (va_Qv (fun (I1 : tI) => h_I z I1 ∧ h_F [(7, 0), (7, 1), (7, 2), (7, 3), (7, 4), (7, 5), (7, 6)] z I0 I1 ∧ (I1 a0 0 = c ∧ I1 a0 1 = y ∧ I1 a0 2 = y + n - 1 ∧ I1 a0 3 = p ∧ I1 a0 4 = u ∧ I1 a0 5 = q ∧ I1 a0 6 = h) ∧ (∀ b k : Nat, (b ≠ a0 ∨ k = 7) → I1 b k = I0 b k)) (fun (I1 : tI) t => h_B E A z I1 L0 t) A) 0 0 A := by
  refine Met.ofW (cc := cX6_bind) (maxL := 8) (ret := none) (by decide) rfl ?_
  intro pr_ ev_ s m args below meth cd_ s₁ B hml hv
  obtain ⟨rfl, hE, hk, hX, hA, hK, hI, hR, hB0⟩ := hv
  have g : h_G h_so h_fk E A z I0 L0 s s.heap s.heap [] := ⟨hK, va_S.rf, hB0⟩
  have hF : h_F [(7, 0), (7, 1), (7, 2), (7, 3), (7, 4), (7, 5), (7, 6)] z I0 I0 := h_F.rf
  have hx := B.exec
  have hb := B.bytes
  have hr := B.returns
  have hts := atoms_spec (ws := wsX6_bind) B.pre
  have hown : s.vm.findClass RX6 = some m.cls := findClass_of_methodNamed B.named
  have hlocks := B.notSynchronized
  have iX6 : ∀ w ∈ u_ws RX6 TX6 9, w ∈ wsX6_bind := by decide +kernel
  have hl := lv_entry ([.ref a0, .int c, .int y, .int n, .int p, .int u, .int q, .int h]) (n := 8) (Nat.le_of_ble_eq_true rfl)
  rw [lg_entry_eq]
  generalize (lg_sl ([.ref a0, .int c, .int y, .int n, .int p, .int u, .int q, .int h]) ++ List.replicate (8 - (lg_sl ([.ref a0, .int c, .int y, .int n, .int p, .int u, .int q, .int h])).length) Slot.unset).toArray = ls at hl ⊢
  have hl : lv_has ls 8 [(0, .ref a0), (1, .int c), (2, .int y), (3, .int n), (4, .int p), (5, .int u), (6, .int q), (7, .int h)] := hl
  have b_y : -2147483648 ≤ y_t ∧ y_t ≤ 2147483647 := h_y ▸ ⟨xi_lo y, Int.le_of_lt_add_one (xi_hi y)⟩
  have b_n : -2147483648 ≤ n_t ∧ n_t ≤ 2147483647 := h_n ▸ ⟨xi_lo n, Int.le_of_lt_add_one (xi_hi n)⟩
  have b_p : -2147483648 ≤ p_t ∧ p_t ≤ 2147483647 := h_p ▸ ⟨xi_lo p, Int.le_of_lt_add_one (xi_hi p)⟩
  have b_u : -2147483648 ≤ u_t ∧ u_t ≤ 2147483647 := h_u ▸ ⟨xi_lo u, Int.le_of_lt_add_one (xi_hi u)⟩
  have b_q : -2147483648 ≤ q_t ∧ q_t ≤ 2147483647 := h_q ▸ ⟨xi_lo q, Int.le_of_lt_add_one (xi_hi q)⟩
  refine lv_aload_n hx hb dX6_bind_0 rfl (lv_at hl 0 rfl) ?_
  refine lv_iload_n hx hb dX6_bind_1 rfl (lv_at hl 1 rfl) ?_
  refine h_putI (ty := .int) (v := c) hx hb hts iX6 tyX6 tyX6_ok nmX6 hown g t_a0 (by decide) so_7 rfl 0 (by decide) rfl (hts (.fieldLink RX6 9 "CapLeague$Player" "club" "I") (by decide +kernel)) rfl rfl (by decide +kernel) rfl rfl dX6_bind_2 (fun I1 H locs eI1 g => ?_)
  have hI := hI.wr eI1 t_a0 (rfl : h_bd 7 0 = ((-1), 7)) (by rw [h_c]; omega) (by rw [h_c]; omega)
  have hF := hF.wr eI1 t_a0 rfl
  refine lv_aload_n hx hb dX6_bind_5 rfl (lv_at hl 0 rfl) ?_
  refine lv_iload_n hx hb dX6_bind_6 rfl (lv_at hl 2 rfl) ?_
  refine h_putI (ty := .int) (v := y) hx hb hts iX6 tyX6 tyX6_ok nmX6 hown g t_a0 (by decide) so_7 rfl 1 (by decide) rfl (hts (.fieldLink RX6 19 "CapLeague$Player" "from" "I") (by decide +kernel)) rfl rfl (by decide +kernel) rfl rfl dX6_bind_7 (fun I2 H locs eI2 g => ?_)
  have hI := hI.wr eI2 t_a0 (rfl : h_bd 7 1 = ((-2147483648), 2147483647)) (xi_lo _) (Int.le_of_lt_add_one (xi_hi _))
  have hF := hF.wr eI2 t_a0 rfl
  refine lv_aload_n hx hb dX6_bind_10 rfl (lv_at hl 0 rfl) ?_
  refine lv_iload_n hx hb dX6_bind_11 rfl (lv_at hl 2 rfl) ?_
  refine lv_iload_n hx hb dX6_bind_12 rfl (lv_at hl 3 rfl) ?_
  refine lv_iadd hx hb dX6_bind_13 ?_
  refine lv_topi (fun v3 ev3 => ?_)
  have jv3 : -2147483648 ≤ v3.toInt ∧ v3.toInt ≤ 2147483647 := ⟨xi_lo _, Int.le_of_lt_add_one (xi_hi _)⟩
  refine lv_iconst (v := 1) hx hb dX6_bind_14 (by decide) ?_
  refine lv_isub hx hb dX6_bind_15 ?_
  refine lv_topi (fun v4 ev4 => ?_)
  have jv4 : -2147483648 ≤ v4.toInt ∧ v4.toInt ≤ 2147483647 := ⟨xi_lo _, Int.le_of_lt_add_one (xi_hi _)⟩
  refine h_putI (ty := .int) (v := v4) hx hb hts iX6 tyX6 tyX6_ok nmX6 hown g t_a0 (by decide) so_7 rfl 2 (by decide) rfl (hts (.fieldLink RX6 22 "CapLeague$Player" "last" "I") (by decide +kernel)) rfl rfl (by decide +kernel) rfl rfl dX6_bind_16 (fun I5 H locs eI5 g => ?_)
  have hI := hI.wr eI5 t_a0 (rfl : h_bd 7 2 = ((-2147483648), 2147483647)) (xi_lo _) (Int.le_of_lt_add_one (xi_hi _))
  have hF := hF.wr eI5 t_a0 rfl
  refine lv_aload_n hx hb dX6_bind_19 rfl (lv_at hl 0 rfl) ?_
  refine lv_iload hx hb dX6_bind_20 (lv_at hl 4 rfl) ?_
  refine h_putI (ty := .int) (v := p) hx hb hts iX6 tyX6 tyX6_ok nmX6 hown g t_a0 (by decide) so_7 rfl 3 (by decide) rfl (hts (.fieldLink RX6 25 "CapLeague$Player" "pay" "I") (by decide +kernel)) rfl rfl (by decide +kernel) rfl rfl dX6_bind_22 (fun I6 H locs eI6 g => ?_)
  have hI := hI.wr eI6 t_a0 (rfl : h_bd 7 3 = ((-2147483648), 2147483647)) (xi_lo _) (Int.le_of_lt_add_one (xi_hi _))
  have hF := hF.wr eI6 t_a0 rfl
  refine lv_aload_n hx hb dX6_bind_25 rfl (lv_at hl 0 rfl) ?_
  refine lv_iload hx hb dX6_bind_26 (lv_at hl 5 rfl) ?_
  refine h_putI (ty := .int) (v := u) hx hb hts iX6 tyX6 tyX6_ok nmX6 hown g t_a0 (by decide) so_7 rfl 4 (by decide) rfl (hts (.fieldLink RX6 28 "CapLeague$Player" "rise" "I") (by decide +kernel)) rfl rfl (by decide +kernel) rfl rfl dX6_bind_28 (fun I7 H locs eI7 g => ?_)
  have hI := hI.wr eI7 t_a0 (rfl : h_bd 7 4 = ((-2147483648), 2147483647)) (xi_lo _) (Int.le_of_lt_add_one (xi_hi _))
  have hF := hF.wr eI7 t_a0 rfl
  refine lv_aload_n hx hb dX6_bind_31 rfl (lv_at hl 0 rfl) ?_
  refine lv_iload hx hb dX6_bind_32 (lv_at hl 6 rfl) ?_
  refine h_putI (ty := .int) (v := q) hx hb hts iX6 tyX6 tyX6_ok nmX6 hown g t_a0 (by decide) so_7 rfl 5 (by decide) rfl (hts (.fieldLink RX6 31 "CapLeague$Player" "sure" "I") (by decide +kernel)) rfl rfl (by decide +kernel) rfl rfl dX6_bind_34 (fun I8 H locs eI8 g => ?_)
  have hI := hI.wr eI8 t_a0 (rfl : h_bd 7 5 = ((-2147483648), 2147483647)) (xi_lo _) (Int.le_of_lt_add_one (xi_hi _))
  have hF := hF.wr eI8 t_a0 rfl
  refine lv_aload_n hx hb dX6_bind_37 rfl (lv_at hl 0 rfl) ?_
  refine lv_iload hx hb dX6_bind_38 (lv_at hl 7 rfl) ?_
  refine h_putI (ty := .boolean) (v := h) hx hb hts iX6 tyX6 tyX6_ok nmX6 hown g t_a0 (by decide) so_7 rfl 6 (by decide) rfl (hts (.fieldLink RX6 34 "CapLeague$Player" "choiceOpen" "Z") (by decide +kernel)) rfl rfl (by decide +kernel) (h_nb (by rw [h_h]; omega) (by rw [h_h]; omega)).1 (h_nb (by rw [h_h]; omega) (by rw [h_h]; omega)).2 dX6_bind_40 (fun I9 H locs eI9 g => ?_)
  have hI := hI.wr eI9 t_a0 (rfl : h_bd 7 6 = (0, 1)) (by rw [h_h]; omega) (by rw [h_h]; omega)
  have hF := hF.wr eI9 t_a0 rfl
  have hS := g.2.1
  exact W.vret hx hb hr (fun t ht hW => ⟨⟨I9, rfl, ⟨hI, hF, ⟨(⟨(h_n2 eI9 (by decide)).trans ((h_n2 eI8 (by decide)).trans ((h_n2 eI7 (by decide)).trans ((h_n2 eI6 (by decide)).trans ((h_n2 eI5 (by decide)).trans ((h_n2 eI2 (by decide)).trans (h_n0 eI1)))))), (h_n2 eI9 (by decide)).trans ((h_n2 eI8 (by decide)).trans ((h_n2 eI7 (by decide)).trans ((h_n2 eI6 (by decide)).trans ((h_n2 eI5 (by decide)).trans (h_n0 eI2))))), ((h_n2 eI9 (by decide)).trans ((h_n2 eI8 (by decide)).trans ((h_n2 eI7 (by decide)).trans ((h_n2 eI6 (by decide)).trans (h_n0 eI5))))).trans (by rw [ev4, ev3]), (h_n2 eI9 (by decide)).trans ((h_n2 eI8 (by decide)).trans ((h_n2 eI7 (by decide)).trans (h_n0 eI6))), (h_n2 eI9 (by decide)).trans ((h_n2 eI8 (by decide)).trans (h_n0 eI7)), (h_n2 eI9 (by decide)).trans (h_n0 eI8), h_n0 eI9⟩), (fun b k hb => (h_nbk eI9 hb (by decide)).trans ((h_nbk eI8 hb (by decide)).trans ((h_nbk eI7 hb (by decide)).trans ((h_nbk eI6 hb (by decide)).trans ((h_nbk eI5 hb (by decide)).trans ((h_nbk eI2 hb (by decide)).trans (h_nbk eI1 hb (by decide))))))))⟩⟩, h_ret g ht⟩, hS.F ht⟩) hS.2.2 dX6_bind_43
set_option maxHeartbeats 4000000 in
set_option maxRecDepth 100000 in
theorem tX6_unbindB (l : Launch) (E : tE) (X : tX) (A : Nat → Prop) (z : tZ) (I0 : tI) (L0 : tL) (a0 : Nat) (t_a0 : z.ty a0 = 7) : Met l yX6_unbind wsX6_unbind ({ frames := 2, cells := 0, slots := 0, locals := 128 }) (va_Pc [.ref a0] (h_P E X A z I0 L0)) (va_Qv (fun (I1 : tI) => h_I z I1 ∧ h_F [(7, 0), (7, 1), (7, 2), (7, 3), (7, 4), (7, 5), (7, 6)] z I0 I1 ∧ (I1 a0 0 = -1 ∧ I1 a0 5 = 0 ∧ I1 a0 6 = 0) ∧ (∀ b k : Nat, (b ≠ a0 ∨ k = 7) → I1 b k = I0 b k)) (fun (I1 : tI) t => h_B E A z I1 L0 t) A) 0 0 A := by
  refine Met.ofW (cc := cX6_unbind) (maxL := 1) (ret := none) (by decide) rfl ?_
  intro pr_ ev_ s m args below meth cd_ s₁ B hml hv
  obtain ⟨rfl, hE, hk, hX, hA, hK, hI, hR, hB0⟩ := hv
  have g : h_G h_so h_fk E A z I0 L0 s s.heap s.heap [] := ⟨hK, va_S.rf, hB0⟩
  have hF : h_F [(7, 0), (7, 1), (7, 2), (7, 3), (7, 4), (7, 5), (7, 6)] z I0 I0 := h_F.rf
  have hx := B.exec
  have hb := B.bytes
  have hr := B.returns
  have hts := atoms_spec (ws := wsX6_unbind) B.pre
  have hown : s.vm.findClass RX6 = some m.cls := findClass_of_methodNamed B.named
  have hlocks := B.notSynchronized
  have hl := lv_entry ([.ref a0]) (n := 1) (Nat.le_of_ble_eq_true rfl)
  rw [lg_entry_eq]
  generalize (lg_sl ([.ref a0]) ++ List.replicate (1 - (lg_sl ([.ref a0])).length) Slot.unset).toArray = ls at hl ⊢
  have hl : lv_has ls 1 [(0, .ref a0)] := hl
  refine lv_aload_n hx hb dX6_unbind_0 rfl (lv_at hl 0 rfl) ?_
  refine lv_iconst (v := (-1)) hx hb dX6_unbind_1 (by decide) ?_
  refine lv_iconst (v := 0) hx hb dX6_unbind_2 (by decide) ?_
  refine lv_iconst (v := 0) hx hb dX6_unbind_3 (by decide) ?_
  refine lv_iconst (v := 0) hx hb dX6_unbind_4 (by decide) ?_
  refine lv_iconst (v := 0) hx hb dX6_unbind_5 (by decide) ?_
  refine lv_iconst (v := 0) hx hb dX6_unbind_6 (by decide) ?_
  refine lv_iconst (v := 0) hx hb dX6_unbind_7 (by decide) ?_
  refine va_callv (va_runV (As := [.int (-1), .int 0, .int 0, .int 0, .int 0, .int 0, .int 0]) (rest := []) ⟨hx, hb, hml, hown, hts⟩ (tX6_bindB l E X A z I0 L0 a0 t_a0 (-1) ((-1)) (by decide) (by omega) 0 (0) (by decide) 0 (0) (by decide) 0 (0) (by decide) 0 (0) (by decide) 0 (0) (by decide) 0 (0) (by decide) (by omega)) (cwV 7 hts gX6_unbind_X6_bind rfl rfl rfl (by decide +kernel) ⟨Nat.le_of_ble_eq_true rfl, Nat.le_of_ble_eq_true rfl⟩) ⟨h_blind _ _ _ _ _ _ _, h_recv g t_a0 (by decide) so_7 (q := (RX6, TX6, 9)) rfl, h_pre _ hE hk hX hA hI hR g⟩ rfl rfl hl.1 rfl (lv_room (Nat.le_of_ble_eq_true rfl)) dX6_unbind_8 ⟨Nat.le_of_ble_eq_true rfl, Nat.le_of_ble_eq_true rfl⟩) g.2.1 (fun q _ h => h) (fun q h => h) (fun I2 t H1 locs ht hvm h1 hB hz1 hk1 hS => ?_)
  obtain ⟨hI, fh1, h1⟩ := h1
  replace g := h_after g hB ht hS
  generalize H1 = H at g
  clear hB hk1 hz1 ht hvm hS
  have hF := hF.call fh1 rfl
  obtain ⟨h1p0, h1p1⟩ := h1
  have hS := g.2.1
  exact W.vret hx hb hr (fun t ht hW => ⟨⟨I2, rfl, ⟨hI, hF, ⟨(⟨h1p0.1, h1p0.2.2.2.2.2.1, h1p0.2.2.2.2.2.2⟩), (h1p1)⟩⟩, h_ret g ht⟩, hS.F ht⟩) hS.2.2 dX6_unbind_11
set_option maxHeartbeats 4000000 in
set_option maxRecDepth 100000 in
theorem tX9_clearB (l : Launch) (E : tE) (X : tX) (A : Nat → Prop) (z : tZ) (I0 : tI) (L0 : tL) (a0 : Nat) (t_a0 : z.ty a0 = 10) : Met l yX9_clear wsX9_clear ({ frames := 1, cells := 0, slots := 0, locals := 64 }) (va_Pc [.ref a0] (h_P E X A z I0 L0)) (va_Qv (fun (I1 : tI) => h_I z I1 ∧ h_F [(10, 3), (10, 4)] z I0 I1 ∧ (I1 a0 3 = 0 ∧ I1 a0 4 = 0)) (fun (I1 : tI) t => h_B E A z I1 L0 t) A) 0 0 A := by
  refine Met.ofW (cc := cX9_clear) (maxL := 1) (ret := none) (by decide) rfl ?_
  intro pr_ ev_ s m args below meth cd_ s₁ B hml hv
  obtain ⟨rfl, hE, hk, hX, hA, hK, hI, hR, hB0⟩ := hv
  have g : h_G h_so h_fk E A z I0 L0 s s.heap s.heap [] := ⟨hK, va_S.rf, hB0⟩
  have hF : h_F [(10, 3), (10, 4)] z I0 I0 := h_F.rf
  have hx := B.exec
  have hb := B.bytes
  have hr := B.returns
  have hts := atoms_spec (ws := wsX9_clear) B.pre
  have hown : s.vm.findClass RX9 = some m.cls := findClass_of_methodNamed B.named
  have hlocks := B.notSynchronized
  have iX9 : ∀ w ∈ u_ws RX9 TX9 10, w ∈ wsX9_clear := by decide +kernel
  have hl := lv_entry ([.ref a0]) (n := 1) (Nat.le_of_ble_eq_true rfl)
  rw [lg_entry_eq]
  generalize (lg_sl ([.ref a0]) ++ List.replicate (1 - (lg_sl ([.ref a0])).length) Slot.unset).toArray = ls at hl ⊢
  have hl : lv_has ls 1 [(0, .ref a0)] := hl
  refine lv_aload_n hx hb dX9_clear_0 rfl (lv_at hl 0 rfl) ?_
  refine lv_iconst (v := 0) hx hb dX9_clear_1 (by decide) ?_
  refine h_putI (ty := .int) (v := 0) hx hb hts iX9 tyX9 tyX9_ok nmX9 hown g t_a0 (by decide) so_10 rfl 3 (by decide) rfl (hts (.fieldLink RX9 43 "CapLeague$Trade" "size" "I") (by decide +kernel)) rfl rfl (by decide +kernel) rfl rfl dX9_clear_2 (fun I1 H locs eI1 g => ?_)
  have hI := hI.wr eI1 t_a0 (rfl : h_bd 10 3 = (0, 12)) (by decide) (by decide)
  have hF := hF.wr eI1 t_a0 rfl
  refine lv_aload_n hx hb dX9_clear_5 rfl (lv_at hl 0 rfl) ?_
  refine lv_iconst (v := 0) hx hb dX9_clear_6 (by decide) ?_
  refine h_putI (ty := .int) (v := 0) hx hb hts iX9 tyX9 tyX9_ok nmX9 hown g t_a0 (by decide) so_10 rfl 4 (by decide) rfl (hts (.fieldLink RX9 47 "CapLeague$Trade" "clubBits" "I") (by decide +kernel)) rfl rfl (by decide +kernel) rfl rfl dX9_clear_7 (fun I2 H locs eI2 g => ?_)
  have hI := hI.wr eI2 t_a0 (rfl : h_bd 10 4 = ((-2147483648), 2147483647)) (by decide) (by decide)
  have hF := hF.wr eI2 t_a0 rfl
  have hS := g.2.1
  exact W.vret hx hb hr (fun t ht hW => ⟨⟨I2, rfl, ⟨hI, hF, (⟨(h_n2 eI2 (by decide)).trans (h_n0 eI1), h_n0 eI2⟩)⟩, h_ret g ht⟩, hS.F ht⟩) hS.2.2 dX9_clear_10
set_option maxHeartbeats 4000000 in
set_option maxRecDepth 100000 in
theorem tX0_useSpareB (l : Launch) (E : tE) (X : tX) (A : Nat → Prop) (z : tZ) (I0 : tI) (L0 : tL) (a0 : Nat) (t_a0 : z.ty a0 = 1) (c : Int32) (c_t : Int) (h_c : c.toInt = c_t) (b_c : 0 ≤ c_t ∧ c_t ≤ 7) (x : Int32) (x_t : Int) (h_x : x.toInt = x_t) (u_ : Nat → Int) (hcl : ∀ b : Nat, h_of (z.R (h_ad z (h_ad z a0 0) 1)) (h_ad z (h_ad z a0 0) 0) (I0 a0 3).toInt b → h_lw I0 b (h_ad z b 0) (h_ad z b 1) u_) (hob : q_okb u_) (hnn : ∀ p : Nat, (p : Int) < (I0 a0 2).toInt → z.R (h_ad z a0 1) p ≠ none) : Met l yX0_useSpareIfAboveCap wsX0_useSpareIfAboveCap ({ frames := 6, cells := 0, slots := 0, locals := 384 }) (va_Pc [.ref a0, .int c, .int x] (h_P E X A z I0 L0)) (va_Qv (fun (I1 : tI) => h_I z I1 ∧ h_F [(105, 999)] z I0 I1 ∧ ((u_ 0 < (c_cnt z I0 a0 c_t (I0 a0 3) (u_ 6) + x).toInt ∧ I1 = h_up I0 (h_ad z a0 5) c_t.toNat 1) ∨ ((c_cnt z I0 a0 c_t (I0 a0 3) (u_ 6) + x).toInt ≤ u_ 0 ∧ I1 = I0))) (fun (I1 : tI) t => h_B E A z I1 L0 t) A) 0 0 A := by
  refine Met.ofW (cc := cX0_useSpareIfAboveCap) (maxL := 3) (ret := none) (by decide) rfl ?_
  intro pr_ ev_ s m args below meth cd_ s₁ B hml hv
  obtain ⟨rfl, hE, hk, hX, hA, hK, hI, hR, hB0⟩ := hv
  have g : h_G h_so h_fk E A z I0 L0 s s.heap s.heap [] := ⟨hK, va_S.rf, hB0⟩
  have hF : h_F [(105, 999)] z I0 I0 := h_F.rf
  have hx := B.exec
  have hb := B.bytes
  have hr := B.returns
  have hts := atoms_spec (ws := wsX0_useSpareIfAboveCap) B.pre
  have hown : s.vm.findClass RX0 = some m.cls := findClass_of_methodNamed B.named
  have hlocks := B.notSynchronized
  have iX0 : ∀ w ∈ u_ws RX0 TX0 9, w ∈ wsX0_useSpareIfAboveCap := by decide +kernel
  have hl := lv_entry ([.ref a0, .int c, .int x]) (n := 3) (Nat.le_of_ble_eq_true rfl)
  rw [lg_entry_eq]
  generalize (lg_sl ([.ref a0, .int c, .int x]) ++ List.replicate (3 - (lg_sl ([.ref a0, .int c, .int x])).length) Slot.unset).toArray = ls at hl ⊢
  have hl : lv_has ls 3 [(0, .ref a0), (1, .int c), (2, .int x)] := hl
  have b_x : -2147483648 ≤ x_t ∧ x_t ≤ 2147483647 := h_x ▸ ⟨xi_lo x, Int.le_of_lt_add_one (xi_hi x)⟩
  obtain ⟨su, rsu, tsu⟩ := hR.at a0 5 t_a0 (rfl : h_rs 1 5 = some (105, false)) (by decide)
  have asu : h_ad z a0 5 = su := h_ad.at rsu
  have kc : c.toNatClampNeg = c_t.toNat := h_keq h_c (by omega) (by omega)
  refine lv_iload_n hx hb dX0_useSpareIfAboveCap_0 rfl (lv_at hl 1 rfl) ?_
  refine vp_callSi (xr_of (va_runSN (As := [.int c]) (rest := []) ⟨hx, hb, hml, hown, hts⟩ (tX11_isClub l E X A z I0 L0 c (c_t) h_c) (⟨va_cnB 1 hts gX0_useSpareIfAboveCap_X11_isClub_n79 rfl rfl rfl (hE.link 8 rfl) (hts (.initialized RX11) (by decide +kernel)) (by decide +kernel) ⟨Nat.le_of_ble_eq_true rfl, Nat.le_of_ble_eq_true rfl⟩, hts (.static yX11_isClub) (by decide +kernel), trivial⟩) ⟨h_blind _ _ _ _ _ _ _, h_pre _ hE hk hX hA hI hR g⟩ rfl rfl hl.1 rfl (lv_room (Nat.le_of_ble_eq_true rfl)) dX0_useSpareIfAboveCap_1 ⟨Nat.le_of_ble_eq_true rfl, Nat.le_of_ble_eq_true rfl⟩)) (fun rh1 h1 => ?_)
  rcases h1 with ⟨rfl, h1⟩ | ⟨rfl, h1⟩
  · skip
    refine lv_if_eq (tgt := 23) hx hb dX0_useSpareIfAboveCap_4 (by decide) (fun _ => ?_) (fun h => absurd (by decide) h)
    have hS := g.2.1
    exact W.vret hx hb hr (fun t ht hW => ⟨⟨I0, rfl, ⟨hI, hF, (Or.inr ⟨by omega, rfl⟩)⟩, h_ret g ht⟩, hS.F ht⟩) hS.2.2 dX0_useSpareIfAboveCap_23
  · skip
    refine lv_if_eq (tgt := 23) hx hb dX0_useSpareIfAboveCap_4 (by decide) (fun h => absurd h (by decide)) (fun _ => ?_)
    refine lv_aload_n hx hb dX0_useSpareIfAboveCap_7 rfl (lv_at hl 0 rfl) ?_
    refine lv_iload_n hx hb dX0_useSpareIfAboveCap_8 rfl (lv_at hl 1 rfl) ?_
    refine lv_iload_n hx hb dX0_useSpareIfAboveCap_9 rfl (lv_at hl 2 rfl) ?_
    refine vp_callSi (W.runV (As := [.int c, .int x]) (rest := []) ⟨hx, hb, hml, hown, hts⟩ (tX0_aboveB l E X A z I0 L0 a0 t_a0 c (c_t) h_c (by omega) x (x_t) h_x (u_) (hcl) (hob) (hnn)) (cwV 2 hts gX0_useSpareIfAboveCap_X0_isAboveCap rfl rfl rfl (by decide +kernel) ⟨Nat.le_of_ble_eq_true rfl, Nat.le_of_ble_eq_true rfl⟩) ⟨h_blind _ _ _ _ _ _ _, h_recv g t_a0 (by decide) so_1 (q := (RX0, TX0, 9)) rfl, h_pre _ hE hk hX hA hI hR g⟩ rfl rfl hl.1 rfl (lv_room (Nat.le_of_ble_eq_true rfl)) dX0_useSpareIfAboveCap_10 ⟨Nat.le_of_ble_eq_true rfl, Nat.le_of_ble_eq_true rfl⟩) (fun rh4 h4 => ?_)
    obtain ⟨h4, h4p0⟩ := h4
    refine lv_if_eq (tgt := 23) hx hb dX0_useSpareIfAboveCap_13 (by decide) (fun c5 => ?_) (fun c5 => ?_)
    · have ic5 := (xi_eq c5 rfl (by decide) : rh4.toInt = 0)
      have hS := g.2.1
      exact W.vret hx hb hr (fun t ht hW => ⟨⟨I0, rfl, ⟨hI, hF, (Or.inr ⟨by omega, rfl⟩)⟩, h_ret g ht⟩, hS.F ht⟩) hS.2.2 dX0_useSpareIfAboveCap_23
    · have ic5 := (xi_ne c5 rfl (by decide) : rh4.toInt ≠ 0)
      refine lv_aload_n hx hb dX0_useSpareIfAboveCap_16 rfl (lv_at hl 0 rfl) ?_
      refine h_get (v := .ref su) hx hb hts iX0 hown g t_a0 (by decide) so_1 rfl 5 (by decide) (hts (.fieldLink RX0 22 "CapLeague$Books" "spareUsed" "[Z") (by decide +kernel)) rfl dX0_useSpareIfAboveCap_17 (by show va_rf (z.R a0 5) = _; rw [rsu]; rfl) ?_
      refine lv_iload_n hx hb dX0_useSpareIfAboveCap_20 rfl (lv_at hl 1 rfl) ?_
      refine lv_iconst (v := 1) hx hb dX0_useSpareIfAboveCap_21 (by decide) ?_
      refine h_zast hx hb g tsu (by decide) so_105 (xi_in (by rw [h_c]; omega) (by rw [h_c]; omega)) dX0_useSpareIfAboveCap_22 (fun I6 H locs eI6 g => ?_)
      rw [h_nz (by decide) (by decide)] at eI6
      have hI := hI.wr eI6 tsu (rfl : h_bd 105 _ = (0, 1)) (by decide) (by decide)
      have hF := hF.wr eI6 tsu rfl
      have hS := g.2.1
      exact W.vret hx hb hr (fun t ht hW => ⟨⟨I6, rfl, ⟨hI, hF, (Or.inl ⟨by omega, by rw [asu, ← kc]; exact eI6⟩)⟩, h_ret g ht⟩, hS.F ht⟩) hS.2.2 dX0_useSpareIfAboveCap_23
set_option maxHeartbeats 4000000 in
set_option maxRecDepth 100000 in
theorem tX11_signB (l : Launch) (E : tE) (X : tX) (A : Nat → Prop) (z : tZ) (I0 : tI) (L0 : tL) (a0 : Nat) (t_a0 : z.ty a0 = 12) (p : Int32) (p_t : Int) (h_p : p.toInt = p_t) (c : Int32) (c_t : Int) (h_c : c.toInt = c_t) (y : Int32) (y_t : Int) (h_y : y.toInt = y_t) (n : Int32) (n_t : Int) (h_n : n.toInt = n_t) (u : Int32) (u_t : Int) (h_u : u.toInt = u_t) (q : Int32) (q_t : Int) (h_q : q.toInt = q_t) (h : Int32) (h_t : Int) (h_h : h.toInt = h_t) (b_h : 0 ≤ h_t ∧ h_t ≤ 1) (u_ : Nat → Int) (hcl : ∀ b : Nat, h_of (z.R (h_ad z (h_ad z (h_ad z a0 3) 0) 1)) (h_ad z (h_ad z (h_ad z a0 3) 0) 0) (I0 (h_ad z a0 3) 3).toInt b → h_lw I0 b (h_ad z b 0) (h_ad z b 1) u_) (hob : q_okb u_) (hnn : ∀ p : Nat, (p : Int) < (I0 (h_ad z a0 3) 2).toInt → z.R (h_ad z (h_ad z a0 3) 1) p ≠ none) : Met l yX11_sign wsX11_sign ({ frames := 7, cells := 0, slots := 0, locals := 448 }) (va_Pc [.ref a0, .int p, .int c, .int y, .int n, .int u, .int q, .int h] (h_P E X A z I0 L0)) (va_Qi (fun r (I1 : tI) => h_I z I1 ∧ h_F [(105, 999), (7, 0), (7, 1), (7, 2), (7, 3), (7, 4), (7, 5), (7, 6), (10, 3), (10, 4)] z I0 I1 ∧ ((¬ (0 ≤ p_t ∧ p_t < (I0 (h_ad z a0 3) 2).toInt ∧ 0 ≤ c_t ∧ c_t ≤ 7 ∧ 1 ≤ y_t ∧ y_t ≤ 5 ∧ 0 ≤ n_t ∧ n_t ≤ 20000 ∧ -500 ≤ u_t ∧ u_t ≤ 500 ∧ 0 ≤ q_t ∧ q_t ≤ 100 ∧ (h_t = 0 ∨ 2 ≤ y_t)) ∧ r.toInt = -2 ∧ I1 = I0) ∨ ((0 ≤ p_t ∧ p_t < (I0 (h_ad z a0 3) 2).toInt ∧ 0 ≤ c_t ∧ c_t ≤ 7 ∧ 1 ≤ y_t ∧ y_t ≤ 5 ∧ 0 ≤ n_t ∧ n_t ≤ 20000 ∧ -500 ≤ u_t ∧ u_t ≤ 500 ∧ 0 ≤ q_t ∧ q_t ≤ 100 ∧ (h_t = 0 ∨ 2 ≤ y_t)) ∧ ∃ f : Int, q_flt ((I0 (h_ad z (h_ad z (h_ad z a0 3) 1) p_t.toNat) 0).toInt ≠ -1) (u_ 1 ≤ (c_many z I0 (h_ad z a0 3) c_t (I0 (h_ad z a0 3) 3)).toInt) (u_ 2 < y_t) (u_ 0 < (c_cnt z I0 (h_ad z a0 3) c_t (I0 (h_ad z a0 3) 3) (u_ 6) + n).toInt ∧ (u_ 3 < n_t ∨ (I0 (h_ad z (h_ad z a0 3) 5) c_t.toNat).toInt ≠ 0)) f ∧ ((f ≠ 0 ∧ r.toInt = 0 ∧ I1 = I0) ∨ (f = 0 ∧ r.toInt = 1 ∧ (I1 (h_ad z (h_ad z (h_ad z a0 3) 1) p_t.toNat) 0 = c ∧ I1 (h_ad z (h_ad z (h_ad z a0 3) 1) p_t.toNat) 1 = I0 (h_ad z a0 3) 3 ∧ I1 (h_ad z (h_ad z (h_ad z a0 3) 1) p_t.toNat) 2 = I0 (h_ad z a0 3) 3 + y - 1 ∧ I1 (h_ad z (h_ad z (h_ad z a0 3) 1) p_t.toNat) 3 = n ∧ I1 (h_ad z (h_ad z (h_ad z a0 3) 1) p_t.toNat) 4 = u ∧ I1 (h_ad z (h_ad z (h_ad z a0 3) 1) p_t.toNat) 5 = q ∧ I1 (h_ad z (h_ad z (h_ad z a0 3) 1) p_t.toNat) 6 = h) ∧ (∀ a k : Nat, z.ty a = 7 → (a ≠ (h_ad z (h_ad z (h_ad z a0 3) 1) p_t.toNat) ∨ k = 7) → I1 a k = I0 a k) ∧ ((u_ 0 < (c_cnt z I0 (h_ad z a0 3) c_t (I0 (h_ad z a0 3) 3) (u_ 6) + n).toInt ∧ I1 (h_ad z (h_ad z a0 3) 5) = h_up I0 (h_ad z (h_ad z a0 3) 5) c_t.toNat 1 (h_ad z (h_ad z a0 3) 5)) ∨ ((c_cnt z I0 (h_ad z a0 3) c_t (I0 (h_ad z a0 3) 3) (u_ 6) + n).toInt ≤ u_ 0 ∧ I1 (h_ad z (h_ad z a0 3) 5) = I0 (h_ad z (h_ad z a0 3) 5))) ∧ I1 (h_ad z a0 5) 3 = 0 ∧ I1 (h_ad z a0 5) 4 = 0))))) (fun (I1 : tI) t => h_B E A z I1 L0 t) A) 0 0 A := by
  refine Met.ofW (cc := cX11_sign) (maxL := 9) (ret := (some .int)) (by decide) rfl ?_
  intro pr_ ev_ s m args below meth cd_ s₁ B hml hv
  obtain ⟨rfl, hE, hk, hX, hA, hK, hI, hR, hB0⟩ := hv
  have g : h_G h_so h_fk E A z I0 L0 s s.heap s.heap [] := ⟨hK, va_S.rf, hB0⟩
  have hF : h_F [(105, 999), (7, 0), (7, 1), (7, 2), (7, 3), (7, 4), (7, 5), (7, 6), (10, 3), (10, 4)] z I0 I0 := h_F.rf
  have hx := B.exec
  have hb := B.bytes
  have hr := B.returns
  have hts := atoms_spec (ws := wsX11_sign) B.pre
  have hown : s.vm.findClass RX11 = some m.cls := findClass_of_methodNamed B.named
  have hlocks := B.notSynchronized
  have iX11 : ∀ w ∈ u_ws RX11 TX11 8, w ∈ wsX11_sign := by decide +kernel
  have iX0 : ∀ w ∈ u_ws RX0 TX0 9, w ∈ wsX11_sign := by decide +kernel
  have hl := lv_entry ([.ref a0, .int p, .int c, .int y, .int n, .int u, .int q, .int h]) (n := 9) (Nat.le_of_ble_eq_true rfl)
  rw [lg_entry_eq]
  generalize (lg_sl ([.ref a0, .int p, .int c, .int y, .int n, .int u, .int q, .int h]) ++ List.replicate (9 - (lg_sl ([.ref a0, .int p, .int c, .int y, .int n, .int u, .int q, .int h])).length) Slot.unset).toArray = ls at hl ⊢
  have hl : lv_has ls 9 [(0, .ref a0), (1, .int p), (2, .int c), (3, .int y), (4, .int n), (5, .int u), (6, .int q), (7, .int h)] := hl
  have b_p : -2147483648 ≤ p_t ∧ p_t ≤ 2147483647 := h_p ▸ ⟨xi_lo p, Int.le_of_lt_add_one (xi_hi p)⟩
  have b_c : -2147483648 ≤ c_t ∧ c_t ≤ 2147483647 := h_c ▸ ⟨xi_lo c, Int.le_of_lt_add_one (xi_hi c)⟩
  have b_y : -2147483648 ≤ y_t ∧ y_t ≤ 2147483647 := h_y ▸ ⟨xi_lo y, Int.le_of_lt_add_one (xi_hi y)⟩
  have b_n : -2147483648 ≤ n_t ∧ n_t ≤ 2147483647 := h_n ▸ ⟨xi_lo n, Int.le_of_lt_add_one (xi_hi n)⟩
  have b_u : -2147483648 ≤ u_t ∧ u_t ≤ 2147483647 := h_u ▸ ⟨xi_lo u, Int.le_of_lt_add_one (xi_hi u)⟩
  have b_q : -2147483648 ≤ q_t ∧ q_t ≤ 2147483647 := h_q ▸ ⟨xi_lo q, Int.le_of_lt_add_one (xi_hi q)⟩
  obtain ⟨bk, rbk, tbk⟩ := hR.at a0 3 t_a0 (rfl : h_rs 12 3 = some (1, false)) (by decide)
  have abk : h_ad z a0 3 = bk := h_ad.at rbk
  obtain ⟨pl, rpl, tpl⟩ := hR.at bk 1 tbk (rfl : h_rs 1 1 = some (101, false)) (by decide)
  have apl : h_ad z bk 1 = pl := h_ad.at rpl
  obtain ⟨su, rsu, tsu⟩ := hR.at bk 5 tbk (rfl : h_rs 1 5 = some (105, false)) (by decide)
  have asu : h_ad z bk 5 = su := h_ad.at rsu
  obtain ⟨bg, rbg, tbg⟩ := hR.at a0 5 t_a0 (rfl : h_rs 12 5 = some (10, false)) (by decide)
  have abg : h_ad z a0 5 = bg := h_ad.at rbg
  obtain ⟨f0_2, ef0_2⟩ : ∃ v : Int32, v = I0 bk 2 := ⟨_, rfl⟩
  have qf0_2 : (I0 bk 2).toInt = f0_2.toInt := congrArg Int32.toInt ef0_2.symm
  have jf0_2 := hI.rd bk 2 tbk ef0_2 (rfl : h_bd 1 2 = (0, 60))
  obtain ⟨f0_3, ef0_3⟩ : ∃ v : Int32, v = I0 bk 3 := ⟨_, rfl⟩
  have qf0_3 : (I0 bk 3).toInt = f0_3.toInt := congrArg Int32.toInt ef0_3.symm
  have jf0_3 := hI.rd bk 3 tbk ef0_3 (rfl : h_bd 1 3 = (0, 9))
  rw [abk] at hcl hnn
  have hnn0 := hnn
  rw [apl, qf0_2] at hnn
  refine lv_aload_n hx hb dX11_sign_0 rfl (lv_at hl 0 rfl) ?_
  refine h_get (v := .ref bk) hx hb hts iX11 hown g t_a0 (by decide) so_12 rfl 3 (by decide) (hts (.fieldLink RX11 37 "CapLeague" "books" "LCapLeague$Books;") (by decide +kernel)) rfl dX11_sign_1 (by show va_rf (z.R a0 3) = _; rw [rbk]; rfl) ?_
  refine lv_iload_n hx hb dX11_sign_4 rfl (lv_at hl 1 rfl) ?_
  refine va_csq (W.runV (As := [.int p]) (rest := []) ⟨hx, hb, hml, hown, hts⟩ (tX0_playerAtF l E X A z I0 L0 bk tbk p (p_t) h_p) (cwV 1 hts gX11_sign_X0_playerAt rfl rfl rfl (by decide +kernel) ⟨Nat.le_of_ble_eq_true rfl, Nat.le_of_ble_eq_true rfl⟩) ⟨h_blind _ _ _ _ _ _ _, h_recv g tbk (by decide) so_1 (q := (RX0, TX0, 9)) rfl, h_pre _ hE hk hX hA hI hR g⟩ rfl rfl hl.1 rfl (lv_room (Nat.le_of_ble_eq_true rfl)) dX11_sign_5 ⟨Nat.le_of_ble_eq_true rfl, Nat.le_of_ble_eq_true rfl⟩) (fun rh1 h1 => ?_)
  obtain ⟨h1, h1p0⟩ := h1
  rcases h1 with rfl | ⟨rh1, rfl, trh1⟩
  · refine xw_v (v := .null) rfl ?_
    rw [apl, qf0_2] at h1p0
    have hno : ¬ (0 ≤ p_t ∧ p_t < f0_2.toInt) := by rcases h1p0 with ⟨a1, a2, a3⟩ | ⟨a1, _⟩; exact absurd a3.symm (hnn _ (by omega)); exact a1
    refine lv_astoreN (lv' := [(8, .null), (0, .ref a0), (1, .int p), (2, .int c), (3, .int y), (4, .int n), (5, .int u), (6, .int q), (7, .int h)]) hx hb dX11_sign_8 hl (by decide) rfl (fun ls hl => ?_)
    refine lv_aloadN hx hb dX11_sign_10 (lv_at hl 0 rfl) ?_
    refine lv_ifnullN (tgt := 37) hx hb dX11_sign_12 (by decide) ?_
    refine lv_bipush (v := (-2)) hx hb dX11_sign_37 (by decide) ?_
    have hS := g.2.1
    exact W.iret (v := (-2)) hx hb hr (fun t ht hW => ⟨⟨(-2), I0, rfl, ⟨hI, hF, (by rw [abk, apl, asu, abg, qf0_2]; exact Or.inl ⟨by omega, by decide, rfl⟩)⟩, h_ret g ht⟩, hS.F ht⟩) hS.2.2 dX11_sign_39
  · refine xw_v (v := .ref rh1) rfl ?_
    rw [apl, qf0_2] at h1p0
    have rp : z.R pl p_t.toNat = some rh1 := by rcases h1p0 with ⟨a1, a2, a3⟩ | ⟨_, a2⟩; exact a3.symm; cases a2
    have hpr : 0 ≤ p_t ∧ p_t < f0_2.toInt := by rcases h1p0 with ⟨a1, a2, a3⟩ | ⟨_, a2⟩; exact ⟨a1, a2⟩; cases a2
    have ap := h_ad.at rp
    refine lv_astore (lv' := [(8, .ref rh1), (0, .ref a0), (1, .int p), (2, .int c), (3, .int y), (4, .int n), (5, .int u), (6, .int q), (7, .int h)]) hx hb dX11_sign_8 hl (by decide) rfl (fun ls hl => ?_)
    refine lv_aload hx hb dX11_sign_10 (lv_at hl 0 rfl) ?_
    refine lv_ifnull hx hb dX11_sign_12 ?_
    refine lv_iload_n hx hb dX11_sign_15 rfl (lv_at hl 3 rfl) ?_
    refine vp_callSi (W.runS (As := [.int c]) (rest := []) ⟨hx, hb, hml, hown, hts⟩ (tX11_isClub l E X A z I0 L0 c (c_t) h_c) (va_cwS 1 hts gX11_sign_X11_isClub rfl rfl rfl (by decide +kernel) ⟨Nat.le_of_ble_eq_true rfl, Nat.le_of_ble_eq_true rfl⟩) ⟨h_blind _ _ _ _ _ _ _, h_pre _ hE hk hX hA hI hR g⟩ rfl rfl hl.1 rfl (lv_room (Nat.le_of_ble_eq_true rfl)) dX11_sign_16 ⟨Nat.le_of_ble_eq_true rfl, Nat.le_of_ble_eq_true rfl⟩) (fun rh2 h2 => ?_)
    rcases h2 with ⟨rfl, h2⟩ | ⟨rfl, h2⟩
    · skip
      refine lv_if_eq (tgt := 37) hx hb dX11_sign_19 (by decide) (fun _ => ?_) (fun h => absurd (by decide) h)
      refine lv_bipush (v := (-2)) hx hb dX11_sign_37 (by decide) ?_
      have hS := g.2.1
      exact W.iret (v := (-2)) hx hb hr (fun t ht hW => ⟨⟨(-2), I0, rfl, ⟨hI, hF, (by rw [abk, apl, asu, abg, qf0_2]; exact Or.inl ⟨by omega, by decide, rfl⟩)⟩, h_ret g ht⟩, hS.F ht⟩) hS.2.2 dX11_sign_39
    · skip
      refine lv_if_eq (tgt := 37) hx hb dX11_sign_19 (by decide) (fun h => absurd h (by decide)) (fun _ => ?_)
      refine lv_iload_n hx hb dX11_sign_22 rfl (lv_at hl 4 rfl) ?_
      refine lv_iload hx hb dX11_sign_23 (lv_at hl 5 rfl) ?_
      refine lv_iload hx hb dX11_sign_25 (lv_at hl 6 rfl) ?_
      refine lv_iload hx hb dX11_sign_27 (lv_at hl 7 rfl) ?_
      refine lv_iload hx hb dX11_sign_29 (lv_at hl 8 rfl) ?_
      refine vp_callSi (W.runS (As := [.int y, .int n, .int u, .int q, .int h]) (rest := []) ⟨hx, hb, hml, hown, hts⟩ (tX11_termsB l E X A z I0 L0 y (y_t) h_y n (n_t) h_n u (u_t) h_u q (q_t) h_q h (h_t) h_h (by omega)) (va_cwS 5 hts gX11_sign_X11_areTerms rfl rfl rfl (by decide +kernel) ⟨Nat.le_of_ble_eq_true rfl, Nat.le_of_ble_eq_true rfl⟩) ⟨h_blind _ _ _ _ _ _ _, h_pre _ hE hk hX hA hI hR g⟩ rfl rfl hl.1 rfl (lv_room (Nat.le_of_ble_eq_true rfl)) dX11_sign_31 ⟨Nat.le_of_ble_eq_true rfl, Nat.le_of_ble_eq_true rfl⟩) (fun rh5 h5 => ?_)
      obtain ⟨h5, h5p0⟩ := h5
      refine lv_if_ne (tgt := 40) hx hb dX11_sign_34 (by decide) (fun c6 => ?_) (fun c6 => ?_)
      · have ic6 := (xi_ne c6 rfl (by decide) : rh5.toInt ≠ 0)
        refine lv_aload_n hx hb dX11_sign_40 rfl (lv_at hl 1 rfl) ?_
        refine h_get (v := .ref bk) hx hb hts iX11 hown g t_a0 (by decide) so_12 rfl 3 (by decide) (hts (.fieldLink RX11 37 "CapLeague" "books" "LCapLeague$Books;") (by decide +kernel)) rfl dX11_sign_41 (by show va_rf (z.R a0 3) = _; rw [rbk]; rfl) ?_
        refine lv_aload hx hb dX11_sign_44 (lv_at hl 0 rfl) ?_
        refine lv_iload_n hx hb dX11_sign_46 rfl (lv_at hl 3 rfl) ?_
        refine lv_iload_n hx hb dX11_sign_47 rfl (lv_at hl 4 rfl) ?_
        refine lv_iload hx hb dX11_sign_48 (lv_at hl 5 rfl) ?_
        refine vp_callSi (W.runV (As := [.ref rh1, .int c, .int y, .int n]) (rest := []) ⟨hx, hb, hml, hown, hts⟩ (tX0_faultsB l E X A z I0 L0 bk tbk rh1 trh1 c (c_t) h_c (by omega) y (y_t) h_y n (n_t) h_n (u_) (hcl) (hob) (hnn0)) (cwV 4 hts gX11_sign_X0_faultsOfContract rfl rfl rfl (by decide +kernel) ⟨Nat.le_of_ble_eq_true rfl, Nat.le_of_ble_eq_true rfl⟩) ⟨h_blind _ _ _ _ _ _ _, h_recv g tbk (by decide) so_1 (q := (RX0, TX0, 9)) rfl, h_pre _ hE hk hX hA hI hR g⟩ rfl rfl hl.1 rfl (lv_room (Nat.le_of_ble_eq_true rfl)) dX11_sign_50 ⟨Nat.le_of_ble_eq_true rfl, Nat.le_of_ble_eq_true rfl⟩) (fun rh7 h7 => ?_)
        obtain ⟨h7, h7p0⟩ := h7
        refine lv_if_eq (tgt := 58) hx hb dX11_sign_53 (by decide) (fun c8 => ?_) (fun c8 => ?_)
        · have ic8 := (xi_eq c8 rfl (by decide) : rh7.toInt = 0)
          refine lv_aload_n hx hb dX11_sign_58 rfl (lv_at hl 1 rfl) ?_
          refine h_get (v := .ref bk) hx hb hts iX11 hown g t_a0 (by decide) so_12 rfl 3 (by decide) (hts (.fieldLink RX11 37 "CapLeague" "books" "LCapLeague$Books;") (by decide +kernel)) rfl dX11_sign_59 (by show va_rf (z.R a0 3) = _; rw [rbk]; rfl) ?_
          refine lv_iload_n hx hb dX11_sign_62 rfl (lv_at hl 3 rfl) ?_
          refine lv_iload hx hb dX11_sign_63 (lv_at hl 5 rfl) ?_
          refine va_callv (va_runV (As := [.int c, .int n]) (rest := []) ⟨hx, hb, hml, hown, hts⟩ (tX0_useSpareB l E X A z I0 L0 bk tbk c (c_t) h_c (by omega) n (n_t) h_n (u_) (hcl) (hob) (hnn0)) (cwV 2 hts gX11_sign_X0_useSpareIfAboveCap rfl rfl rfl (by decide +kernel) ⟨Nat.le_of_ble_eq_true rfl, Nat.le_of_ble_eq_true rfl⟩) ⟨h_blind _ _ _ _ _ _ _, h_recv g tbk (by decide) so_1 (q := (RX0, TX0, 9)) rfl, h_pre _ hE hk hX hA hI hR g⟩ rfl rfl hl.1 rfl (lv_room (Nat.le_of_ble_eq_true rfl)) dX11_sign_65 ⟨Nat.le_of_ble_eq_true rfl, Nat.le_of_ble_eq_true rfl⟩) g.2.1 (fun q _ h => h) (fun q h => h) (fun I10 t H1 locs ht hvm h9 hB hz1 hk1 hS => ?_)
          obtain ⟨hI, fh9, h9⟩ := h9
          replace g := h_after g hB ht hS
          generalize H1 = H at g
          clear hB hk1 hz1 ht hvm hS
          have hF := hF.call fh9 rfl
          have h9p0 := h9
          refine lv_aload hx hb dX11_sign_68 (lv_at hl 0 rfl) ?_
          refine lv_iload_n hx hb dX11_sign_70 rfl (lv_at hl 3 rfl) ?_
          refine lv_aload_n hx hb dX11_sign_71 rfl (lv_at hl 1 rfl) ?_
          refine h_get (v := .ref bk) hx hb hts iX11 hown g t_a0 (by decide) so_12 rfl 3 (by decide) (hts (.fieldLink RX11 37 "CapLeague" "books" "LCapLeague$Books;") (by decide +kernel)) rfl dX11_sign_72 (by show va_rf (z.R a0 3) = _; rw [rbk]; rfl) ?_
          refine h_get (v := .int f0_3) hx hb hts iX0 hown g tbk (by decide) so_1 rfl 3 (by decide) (hts (.fieldLink RX11 142 "CapLeague$Books" "clock" "I") (by decide +kernel)) rfl dX11_sign_75 (congrArg Value.int ((h_F.at fh9 tbk rfl).trans (ef0_3.symm))) ?_
          refine lv_iload_n hx hb dX11_sign_78 rfl (lv_at hl 4 rfl) ?_
          refine lv_iload hx hb dX11_sign_79 (lv_at hl 5 rfl) ?_
          refine lv_iload hx hb dX11_sign_81 (lv_at hl 6 rfl) ?_
          refine lv_iload hx hb dX11_sign_83 (lv_at hl 7 rfl) ?_
          refine lv_iload hx hb dX11_sign_85 (lv_at hl 8 rfl) ?_
          refine va_callv (va_runV (As := [.int c, .int f0_3, .int y, .int n, .int u, .int q, .int h]) (rest := []) ⟨hx, hb, hml, hown, hts⟩ (tX6_bindB l E X A z I10 L0 rh1 trh1 c (c_t) h_c (by omega) f0_3 (f0_3.toInt) rfl y (y_t) h_y n (n_t) h_n u (u_t) h_u q (q_t) h_q h (h_t) h_h (by omega)) (cwV 7 hts gX11_sign_X6_bind rfl rfl rfl (by decide +kernel) ⟨Nat.le_of_ble_eq_true rfl, Nat.le_of_ble_eq_true rfl⟩) ⟨h_blind _ _ _ _ _ _ _, h_recv g trh1 (by decide) so_7 (q := (RX6, TX6, 9)) rfl, h_pre _ hE hk hX hA hI hR g⟩ rfl rfl hl.1 rfl (lv_room (Nat.le_of_ble_eq_true rfl)) dX11_sign_87 ⟨Nat.le_of_ble_eq_true rfl, Nat.le_of_ble_eq_true rfl⟩) g.2.1 (fun q _ h => h) (fun q h => h) (fun I12 t H1 locs ht hvm h11 hB hz1 hk1 hS => ?_)
          obtain ⟨hI, fh11, h11⟩ := h11
          replace g := h_after g hB ht hS
          generalize H1 = H at g
          clear hB hk1 hz1 ht hvm hS
          have hF := hF.call fh11 rfl
          obtain ⟨h11p0, h11p1⟩ := h11
          refine lv_aload_n hx hb dX11_sign_90 rfl (lv_at hl 1 rfl) ?_
          refine h_get (v := .ref bg) hx hb hts iX11 hown g t_a0 (by decide) so_12 rfl 5 (by decide) (hts (.fieldLink RX11 53 "CapLeague" "bargain" "LCapLeague$Trade;") (by decide +kernel)) rfl dX11_sign_91 (by show va_rf (z.R a0 5) = _; rw [rbg]; rfl) ?_
          refine va_callv (va_runV (As := []) (rest := []) ⟨hx, hb, hml, hown, hts⟩ (tX9_clearB l E X A z I12 L0 bg tbg) (cwV 0 hts gX11_sign_X9_clear rfl rfl rfl (by decide +kernel) ⟨Nat.le_of_ble_eq_true rfl, Nat.le_of_ble_eq_true rfl⟩) ⟨h_blind _ _ _ _ _ _ _, h_recv g tbg (by decide) so_10 (q := (RX9, TX9, 10)) rfl, h_pre _ hE hk hX hA hI hR g⟩ rfl rfl hl.1 rfl (lv_room (Nat.le_of_ble_eq_true rfl)) dX11_sign_94 ⟨Nat.le_of_ble_eq_true rfl, Nat.le_of_ble_eq_true rfl⟩) g.2.1 (fun q _ h => h) (fun q h => h) (fun I14 t H1 locs ht hvm h13 hB hz1 hk1 hS => ?_)
          obtain ⟨hI, fh13, h13⟩ := h13
          replace g := h_after g hB ht hS
          generalize H1 = H at g
          clear hB hk1 hz1 ht hvm hS
          have hF := hF.call fh13 rfl
          have h13p0 := h13
          refine lv_iconst (v := 1) hx hb dX11_sign_97 (by decide) ?_
          have hS := g.2.1
          exact W.iret (v := 1) hx hb hr (fun t ht hW => ⟨⟨1, I14, rfl, ⟨hI, hF, (by rw [abk, apl, asu, abg, qf0_2]; rw [ap]; refine Or.inr ⟨by omega, rh7.toInt, (by rw [asu] at h7p0; exact h7p0), ?_⟩; refine Or.inr ⟨by omega, by decide, ⟨(h_F.at fh13 trh1 rfl).trans h11p0.1, (h_F.at fh13 trh1 rfl).trans (h11p0.2.1.trans ef0_3), (h_F.at fh13 trh1 rfl).trans (h11p0.2.2.1.trans (by rw [ef0_3])), (h_F.at fh13 trh1 rfl).trans h11p0.2.2.2.1, (h_F.at fh13 trh1 rfl).trans h11p0.2.2.2.2.1, (h_F.at fh13 trh1 rfl).trans h11p0.2.2.2.2.2.1, (h_F.at fh13 trh1 rfl).trans h11p0.2.2.2.2.2.2⟩, fun a k ta hk => (h_F.at fh13 ta rfl).trans ((h11p1 a k hk).trans (h_F.at fh9 ta rfl)), ?_, h13p0.1, h13p0.2⟩; have e9 := (funext (fun k => (h_F.at fh13 tsu rfl).trans (h_F.at fh11 tsu rfl)) : I14 su = I10 su); rw [asu] at h9p0; rcases h9p0 with ⟨q1, q2⟩ | ⟨q1, q2⟩; exact Or.inl ⟨q1, e9.trans (by rw [q2])⟩; exact Or.inr ⟨q1, e9.trans (by rw [q2])⟩)⟩, h_ret g ht⟩, hS.F ht⟩) hS.2.2 dX11_sign_98
        · have ic8 := (xi_ne c8 rfl (by decide) : rh7.toInt ≠ 0)
          refine lv_iconst (v := 0) hx hb dX11_sign_56 (by decide) ?_
          have hS := g.2.1
          exact W.iret (v := 0) hx hb hr (fun t ht hW => ⟨⟨0, I0, rfl, ⟨hI, hF, (by rw [abk, apl, asu, abg, qf0_2]; rw [ap]; refine Or.inr ⟨by omega, rh7.toInt, (by rw [asu] at h7p0; exact h7p0), ?_⟩; exact Or.inl ⟨by omega, by decide, rfl⟩)⟩, h_ret g ht⟩, hS.F ht⟩) hS.2.2 dX11_sign_57
      · have ic6 := (xi_eq c6 rfl (by decide) : rh5.toInt = 0)
        refine lv_bipush (v := (-2)) hx hb dX11_sign_37 (by decide) ?_
        have hS := g.2.1
        exact W.iret (v := (-2)) hx hb hr (fun t ht hW => ⟨⟨(-2), I0, rfl, ⟨hI, hF, (by rw [abk, apl, asu, abg, qf0_2]; exact Or.inl ⟨by omega, by decide, rfl⟩)⟩, h_ret g ht⟩, hS.F ht⟩) hS.2.2 dX11_sign_39
set_option maxHeartbeats 4000000 in
set_option maxRecDepth 100000 in
theorem tX11_wrongB (l : Launch) (E : tE) (X : tX) (A : Nat → Prop) (z : tZ) (I0 : tI) (L0 : tL) (a0 : Nat) (t_a0 : z.ty a0 = 12) (p : Int32) (p_t : Int) (h_p : p.toInt = p_t) (c : Int32) (c_t : Int) (h_c : c.toInt = c_t) (y : Int32) (y_t : Int) (h_y : y.toInt = y_t) (n : Int32) (n_t : Int) (h_n : n.toInt = n_t) (u : Int32) (u_t : Int) (h_u : u.toInt = u_t) (q : Int32) (q_t : Int) (h_q : q.toInt = q_t) (h : Int32) (h_t : Int) (h_h : h.toInt = h_t) (b_h : 0 ≤ h_t ∧ h_t ≤ 1) (u_ : Nat → Int) (hcl : ∀ b : Nat, h_of (z.R (h_ad z (h_ad z (h_ad z a0 3) 0) 1)) (h_ad z (h_ad z (h_ad z a0 3) 0) 0) (I0 (h_ad z a0 3) 3).toInt b → h_lw I0 b (h_ad z b 0) (h_ad z b 1) u_) (hob : q_okb u_) (hnn : ∀ p : Nat, (p : Int) < (I0 (h_ad z a0 3) 2).toInt → z.R (h_ad z (h_ad z a0 3) 1) p ≠ none) : Met l yX11_wrong wsX11_wrong ({ frames := 7, cells := 0, slots := 0, locals := 448 }) (va_Pc [.ref a0, .int p, .int c, .int y, .int n, .int u, .int q, .int h] (h_P E X A z I0 L0)) (vp_Si (fun r => ((¬ (0 ≤ p_t ∧ p_t < (I0 (h_ad z a0 3) 2).toInt ∧ 0 ≤ c_t ∧ c_t ≤ 7 ∧ 1 ≤ y_t ∧ y_t ≤ 5 ∧ 0 ≤ n_t ∧ n_t ≤ 20000 ∧ -500 ≤ u_t ∧ u_t ≤ 500 ∧ 0 ≤ q_t ∧ q_t ≤ 100 ∧ (h_t = 0 ∨ 2 ≤ y_t)) ∧ r.toInt = -2) ∨ ((0 ≤ p_t ∧ p_t < (I0 (h_ad z a0 3) 2).toInt ∧ 0 ≤ c_t ∧ c_t ≤ 7 ∧ 1 ≤ y_t ∧ y_t ≤ 5 ∧ 0 ≤ n_t ∧ n_t ≤ 20000 ∧ -500 ≤ u_t ∧ u_t ≤ 500 ∧ 0 ≤ q_t ∧ q_t ≤ 100 ∧ (h_t = 0 ∨ 2 ≤ y_t)) ∧ q_flt ((I0 (h_ad z (h_ad z (h_ad z a0 3) 1) p_t.toNat) 0).toInt ≠ -1) (u_ 1 ≤ (c_many z I0 (h_ad z a0 3) c_t (I0 (h_ad z a0 3) 3)).toInt) (u_ 2 < y_t) (u_ 0 < (c_cnt z I0 (h_ad z a0 3) c_t (I0 (h_ad z a0 3) 3) (u_ 6) + n).toInt ∧ (u_ 3 < n_t ∨ (I0 (h_ad z (h_ad z a0 3) 5) c_t.toNat).toInt ≠ 0)) r.toInt)))) 0 0 (fun _ => False) := by
  refine Met.ofW (cc := cX11_wrong) (maxL := 9) (ret := (some .int)) (by decide) rfl ?_
  intro pr_ ev_ s m args below meth cd_ s₁ B hml hv
  obtain ⟨rfl, hE, hk, hX, hA, hK, hI, hR, hB0⟩ := hv
  have g : h_G h_so h_fk E A z I0 L0 s s.heap s.heap [] := ⟨hK, va_S.rf, hB0⟩
  have hx := B.exec
  have hb := B.bytes
  have hr := B.returns
  have hts := atoms_spec (ws := wsX11_wrong) B.pre
  have hown : s.vm.findClass RX11 = some m.cls := findClass_of_methodNamed B.named
  have hlocks := B.notSynchronized
  have iX11 : ∀ w ∈ u_ws RX11 TX11 8, w ∈ wsX11_wrong := by decide +kernel
  have hl := lv_entry ([.ref a0, .int p, .int c, .int y, .int n, .int u, .int q, .int h]) (n := 9) (Nat.le_of_ble_eq_true rfl)
  rw [lg_entry_eq]
  generalize (lg_sl ([.ref a0, .int p, .int c, .int y, .int n, .int u, .int q, .int h]) ++ List.replicate (9 - (lg_sl ([.ref a0, .int p, .int c, .int y, .int n, .int u, .int q, .int h])).length) Slot.unset).toArray = ls at hl ⊢
  have hl : lv_has ls 9 [(0, .ref a0), (1, .int p), (2, .int c), (3, .int y), (4, .int n), (5, .int u), (6, .int q), (7, .int h)] := hl
  have b_p : -2147483648 ≤ p_t ∧ p_t ≤ 2147483647 := h_p ▸ ⟨xi_lo p, Int.le_of_lt_add_one (xi_hi p)⟩
  have b_c : -2147483648 ≤ c_t ∧ c_t ≤ 2147483647 := h_c ▸ ⟨xi_lo c, Int.le_of_lt_add_one (xi_hi c)⟩
  have b_y : -2147483648 ≤ y_t ∧ y_t ≤ 2147483647 := h_y ▸ ⟨xi_lo y, Int.le_of_lt_add_one (xi_hi y)⟩
  have b_n : -2147483648 ≤ n_t ∧ n_t ≤ 2147483647 := h_n ▸ ⟨xi_lo n, Int.le_of_lt_add_one (xi_hi n)⟩
  have b_u : -2147483648 ≤ u_t ∧ u_t ≤ 2147483647 := h_u ▸ ⟨xi_lo u, Int.le_of_lt_add_one (xi_hi u)⟩
  have b_q : -2147483648 ≤ q_t ∧ q_t ≤ 2147483647 := h_q ▸ ⟨xi_lo q, Int.le_of_lt_add_one (xi_hi q)⟩
  obtain ⟨bk, rbk, tbk⟩ := hR.at a0 3 t_a0 (rfl : h_rs 12 3 = some (1, false)) (by decide)
  have abk : h_ad z a0 3 = bk := h_ad.at rbk
  obtain ⟨pl, rpl, tpl⟩ := hR.at bk 1 tbk (rfl : h_rs 1 1 = some (101, false)) (by decide)
  have apl : h_ad z bk 1 = pl := h_ad.at rpl
  obtain ⟨su, rsu, tsu⟩ := hR.at bk 5 tbk (rfl : h_rs 1 5 = some (105, false)) (by decide)
  have asu : h_ad z bk 5 = su := h_ad.at rsu
  obtain ⟨bg, rbg, tbg⟩ := hR.at a0 5 t_a0 (rfl : h_rs 12 5 = some (10, false)) (by decide)
  have abg : h_ad z a0 5 = bg := h_ad.at rbg
  obtain ⟨f0_2, ef0_2⟩ : ∃ v : Int32, v = I0 bk 2 := ⟨_, rfl⟩
  have qf0_2 : (I0 bk 2).toInt = f0_2.toInt := congrArg Int32.toInt ef0_2.symm
  have jf0_2 := hI.rd bk 2 tbk ef0_2 (rfl : h_bd 1 2 = (0, 60))
  obtain ⟨f0_3, ef0_3⟩ : ∃ v : Int32, v = I0 bk 3 := ⟨_, rfl⟩
  have qf0_3 : (I0 bk 3).toInt = f0_3.toInt := congrArg Int32.toInt ef0_3.symm
  have jf0_3 := hI.rd bk 3 tbk ef0_3 (rfl : h_bd 1 3 = (0, 9))
  rw [abk] at hcl hnn
  have hnn0 := hnn
  rw [apl, qf0_2] at hnn
  refine lv_aload_n hx hb dX11_wrong_0 rfl (lv_at hl 0 rfl) ?_
  refine h_get (v := .ref bk) hx hb hts iX11 hown g t_a0 (by decide) so_12 rfl 3 (by decide) (hts (.fieldLink RX11 37 "CapLeague" "books" "LCapLeague$Books;") (by decide +kernel)) rfl dX11_wrong_1 (by show va_rf (z.R a0 3) = _; rw [rbk]; rfl) ?_
  refine lv_iload_n hx hb dX11_wrong_4 rfl (lv_at hl 1 rfl) ?_
  refine va_csq (W.runV (As := [.int p]) (rest := []) ⟨hx, hb, hml, hown, hts⟩ (tX0_playerAtF l E X A z I0 L0 bk tbk p (p_t) h_p) (cwV 1 hts gX11_wrong_X0_playerAt rfl rfl rfl (by decide +kernel) ⟨Nat.le_of_ble_eq_true rfl, Nat.le_of_ble_eq_true rfl⟩) ⟨h_blind _ _ _ _ _ _ _, h_recv g tbk (by decide) so_1 (q := (RX0, TX0, 9)) rfl, h_pre _ hE hk hX hA hI hR g⟩ rfl rfl hl.1 rfl (lv_room (Nat.le_of_ble_eq_true rfl)) dX11_wrong_5 ⟨Nat.le_of_ble_eq_true rfl, Nat.le_of_ble_eq_true rfl⟩) (fun rh1 h1 => ?_)
  obtain ⟨h1, h1p0⟩ := h1
  rcases h1 with rfl | ⟨rh1, rfl, trh1⟩
  · refine xw_v (v := .null) rfl ?_
    rw [apl, qf0_2] at h1p0
    have hno : ¬ (0 ≤ p_t ∧ p_t < f0_2.toInt) := by rcases h1p0 with ⟨a1, a2, a3⟩ | ⟨a1, _⟩; exact absurd a3.symm (hnn _ (by omega)); exact a1
    refine lv_astoreN (lv' := [(8, .null), (0, .ref a0), (1, .int p), (2, .int c), (3, .int y), (4, .int n), (5, .int u), (6, .int q), (7, .int h)]) hx hb dX11_wrong_8 hl (by decide) rfl (fun ls hl => ?_)
    refine lv_aloadN hx hb dX11_wrong_10 (lv_at hl 0 rfl) ?_
    refine lv_ifnullN (tgt := 37) hx hb dX11_wrong_12 (by decide) ?_
    refine lv_bipush (v := (-2)) hx hb dX11_wrong_37 (by decide) ?_
    exact W.iret (v := (-2)) hx hb hr (fun t ht hW => ⟨(-2), rfl, (by rw [abk, apl, asu, qf0_2]; exact Or.inl ⟨by omega, by decide⟩), ht⟩) (fun _ h => by cases h) dX11_wrong_39
  · refine xw_v (v := .ref rh1) rfl ?_
    rw [apl, qf0_2] at h1p0
    have rp : z.R pl p_t.toNat = some rh1 := by rcases h1p0 with ⟨a1, a2, a3⟩ | ⟨_, a2⟩; exact a3.symm; cases a2
    have hpr : 0 ≤ p_t ∧ p_t < f0_2.toInt := by rcases h1p0 with ⟨a1, a2, a3⟩ | ⟨_, a2⟩; exact ⟨a1, a2⟩; cases a2
    have ap := h_ad.at rp
    refine lv_astore (lv' := [(8, .ref rh1), (0, .ref a0), (1, .int p), (2, .int c), (3, .int y), (4, .int n), (5, .int u), (6, .int q), (7, .int h)]) hx hb dX11_wrong_8 hl (by decide) rfl (fun ls hl => ?_)
    refine lv_aload hx hb dX11_wrong_10 (lv_at hl 0 rfl) ?_
    refine lv_ifnull hx hb dX11_wrong_12 ?_
    refine lv_iload_n hx hb dX11_wrong_15 rfl (lv_at hl 3 rfl) ?_
    refine vp_callSi (W.runS (As := [.int c]) (rest := []) ⟨hx, hb, hml, hown, hts⟩ (tX11_isClub l E X A z I0 L0 c (c_t) h_c) (va_cwS 1 hts gX11_wrong_X11_isClub rfl rfl rfl (by decide +kernel) ⟨Nat.le_of_ble_eq_true rfl, Nat.le_of_ble_eq_true rfl⟩) ⟨h_blind _ _ _ _ _ _ _, h_pre _ hE hk hX hA hI hR g⟩ rfl rfl hl.1 rfl (lv_room (Nat.le_of_ble_eq_true rfl)) dX11_wrong_16 ⟨Nat.le_of_ble_eq_true rfl, Nat.le_of_ble_eq_true rfl⟩) (fun rh2 h2 => ?_)
    rcases h2 with ⟨rfl, h2⟩ | ⟨rfl, h2⟩
    · skip
      refine lv_if_eq (tgt := 37) hx hb dX11_wrong_19 (by decide) (fun _ => ?_) (fun h => absurd (by decide) h)
      refine lv_bipush (v := (-2)) hx hb dX11_wrong_37 (by decide) ?_
      exact W.iret (v := (-2)) hx hb hr (fun t ht hW => ⟨(-2), rfl, (by rw [abk, apl, asu, qf0_2]; exact Or.inl ⟨by omega, by decide⟩), ht⟩) (fun _ h => by cases h) dX11_wrong_39
    · skip
      refine lv_if_eq (tgt := 37) hx hb dX11_wrong_19 (by decide) (fun h => absurd h (by decide)) (fun _ => ?_)
      refine lv_iload_n hx hb dX11_wrong_22 rfl (lv_at hl 4 rfl) ?_
      refine lv_iload hx hb dX11_wrong_23 (lv_at hl 5 rfl) ?_
      refine lv_iload hx hb dX11_wrong_25 (lv_at hl 6 rfl) ?_
      refine lv_iload hx hb dX11_wrong_27 (lv_at hl 7 rfl) ?_
      refine lv_iload hx hb dX11_wrong_29 (lv_at hl 8 rfl) ?_
      refine vp_callSi (W.runS (As := [.int y, .int n, .int u, .int q, .int h]) (rest := []) ⟨hx, hb, hml, hown, hts⟩ (tX11_termsB l E X A z I0 L0 y (y_t) h_y n (n_t) h_n u (u_t) h_u q (q_t) h_q h (h_t) h_h (by omega)) (va_cwS 5 hts gX11_wrong_X11_areTerms rfl rfl rfl (by decide +kernel) ⟨Nat.le_of_ble_eq_true rfl, Nat.le_of_ble_eq_true rfl⟩) ⟨h_blind _ _ _ _ _ _ _, h_pre _ hE hk hX hA hI hR g⟩ rfl rfl hl.1 rfl (lv_room (Nat.le_of_ble_eq_true rfl)) dX11_wrong_31 ⟨Nat.le_of_ble_eq_true rfl, Nat.le_of_ble_eq_true rfl⟩) (fun rh5 h5 => ?_)
      obtain ⟨h5, h5p0⟩ := h5
      refine lv_if_ne (tgt := 40) hx hb dX11_wrong_34 (by decide) (fun c6 => ?_) (fun c6 => ?_)
      · have ic6 := (xi_ne c6 rfl (by decide) : rh5.toInt ≠ 0)
        refine lv_aload_n hx hb dX11_wrong_40 rfl (lv_at hl 1 rfl) ?_
        refine h_get (v := .ref bk) hx hb hts iX11 hown g t_a0 (by decide) so_12 rfl 3 (by decide) (hts (.fieldLink RX11 37 "CapLeague" "books" "LCapLeague$Books;") (by decide +kernel)) rfl dX11_wrong_41 (by show va_rf (z.R a0 3) = _; rw [rbk]; rfl) ?_
        refine lv_aload hx hb dX11_wrong_44 (lv_at hl 0 rfl) ?_
        refine lv_iload_n hx hb dX11_wrong_46 rfl (lv_at hl 3 rfl) ?_
        refine lv_iload_n hx hb dX11_wrong_47 rfl (lv_at hl 4 rfl) ?_
        refine lv_iload hx hb dX11_wrong_48 (lv_at hl 5 rfl) ?_
        refine vp_callSi (W.runV (As := [.ref rh1, .int c, .int y, .int n]) (rest := []) ⟨hx, hb, hml, hown, hts⟩ (tX0_faultsB l E X A z I0 L0 bk tbk rh1 trh1 c (c_t) h_c (by omega) y (y_t) h_y n (n_t) h_n (u_) (hcl) (hob) (hnn0)) (cwV 4 hts gX11_wrong_X0_faultsOfContract rfl rfl rfl (by decide +kernel) ⟨Nat.le_of_ble_eq_true rfl, Nat.le_of_ble_eq_true rfl⟩) ⟨h_blind _ _ _ _ _ _ _, h_recv g tbk (by decide) so_1 (q := (RX0, TX0, 9)) rfl, h_pre _ hE hk hX hA hI hR g⟩ rfl rfl hl.1 rfl (lv_room (Nat.le_of_ble_eq_true rfl)) dX11_wrong_50 ⟨Nat.le_of_ble_eq_true rfl, Nat.le_of_ble_eq_true rfl⟩) (fun rh7 h7 => ?_)
        obtain ⟨h7, h7p0⟩ := h7
        exact W.iret (v := rh7) hx hb hr (fun t ht hW => ⟨rh7, rfl, (by rw [abk, apl, asu, qf0_2]; rw [ap]; exact Or.inr ⟨by omega, (by rw [asu] at h7p0; exact h7p0)⟩), ht⟩) (fun _ h => by cases h) dX11_wrong_53
      · have ic6 := (xi_eq c6 rfl (by decide) : rh5.toInt = 0)
        refine lv_bipush (v := (-2)) hx hb dX11_wrong_37 (by decide) ?_
        exact W.iret (v := (-2)) hx hb hr (fun t ht hW => ⟨(-2), rfl, (by rw [abk, apl, asu, qf0_2]; exact Or.inl ⟨by omega, by decide⟩), ht⟩) (fun _ h => by cases h) dX11_wrong_39

