set_option maxHeartbeats 4000000 in
set_option maxRecDepth 100000 in
theorem tX5_lotClubsF (l : Launch) (E : tE) (X : tX) (A : Nat → Prop) (z : tZ) (I0 : tI) (L0 : tL) (a0 : Nat) (t_a0 : z.ty a0 = 6) : Met l yX5_lotClubs wsX5_lotClubs ({ frames := 1, cells := 0, slots := 0, locals := 64 }) (va_Pc [.ref a0] (h_P E X A z I0 L0)) (vp_Si (fun r => (0 ≤ r.toInt ∧ r.toInt ≤ 6) ∧ (∀ u : Nat → Int, h_lw I0 a0 (h_ad z a0 0) (h_ad z a0 1) u → r.toInt = q_nl u))) 0 0 (fun _ => False) := by
  refine Met.ofW (cc := cX5_lotClubs) (maxL := 1) (ret := (some .int)) (by decide) rfl ?_
  intro pr_ ev_ s m args below meth cd_ s₁ B hml hv
  obtain ⟨rfl, hE, hk, hX, hA, hK, hI, hR, hB0⟩ := hv
  have g : h_G h_so h_fk E A z I0 L0 s s.heap s.heap [] := ⟨hK, va_S.rf, hB0⟩
  have hx := B.exec
  have hb := B.bytes
  have hr := B.returns
  have hts := atoms_spec (ws := wsX5_lotClubs) B.pre
  have hown : s.vm.findClass RX5 = some m.cls := findClass_of_methodNamed B.named
  have hlocks := B.notSynchronized
  have iX5 : ∀ w ∈ u_ws RX5 TX5 3, w ∈ wsX5_lotClubs := by decide +kernel
  have hl := lv_entry ([.ref a0]) (n := 1) (Nat.le_of_ble_eq_true rfl)
  rw [lg_entry_eq]
  generalize (lg_sl ([.ref a0]) ++ List.replicate (1 - (lg_sl ([.ref a0])).length) Slot.unset).toArray = ls at hl ⊢
  have hl : lv_has ls 1 [(0, .ref a0)] := hl
  obtain ⟨f0_2, ef0_2⟩ : ∃ v : Int32, v = I0 a0 2 := ⟨_, rfl⟩
  have qf0_2 : (I0 a0 2).toInt = f0_2.toInt := congrArg Int32.toInt ef0_2.symm
  have jf0_2 := hI.rd a0 2 t_a0 ef0_2 (rfl : h_bd 6 2 = (0, 6))
  refine lv_aload_n hx hb dX5_lotClubs_0 rfl (lv_at hl 0 rfl) ?_
  refine h_get (v := .int f0_2) hx hb hts iX5 hown g t_a0 (by decide) so_6 rfl 2 (by decide) (hts (.fieldLink RX5 30 "CapLeague$Laws" "lotCount" "I") (by decide +kernel)) rfl dX5_lotClubs_1 (congrArg Value.int (ef0_2.symm)) ?_
  refine lv_iconst (v := 2) hx hb dX5_lotClubs_4 (by decide) ?_
  refine lv_icmp_lt (tgt := 15) hx hb dX5_lotClubs_5 (by decide) (fun c1 => ?_) (fun c1 => ?_)
  · have ic1 := (xi_lt c1 rfl (by decide) : f0_2.toInt < 2)
    refine lv_iconst (v := 0) hx hb dX5_lotClubs_15 (by decide) ?_
    exact W.iret (v := 0) hx hb hr (fun t ht hW => ⟨0, rfl, ⟨⟨(by decide), (by decide)⟩, (fun u hu => by have h8 := hu.2.1; rw [qf0_2] at h8; unfold q_nl; rw [if_neg (by omega)]; decide)⟩, ht⟩) (fun _ h => by cases h) dX5_lotClubs_16
  · have ic1 := (xi_nlt c1 rfl (by decide) : 2 ≤ f0_2.toInt)
    refine lv_aload_n hx hb dX5_lotClubs_8 rfl (lv_at hl 0 rfl) ?_
    refine h_get (v := .int f0_2) hx hb hts iX5 hown g t_a0 (by decide) so_6 rfl 2 (by decide) (hts (.fieldLink RX5 30 "CapLeague$Laws" "lotCount" "I") (by decide +kernel)) rfl dX5_lotClubs_9 (congrArg Value.int (ef0_2.symm)) ?_
    refine lv_goto (tgt := 16) hx hb dX5_lotClubs_12 (by decide) ?_
    exact W.iret (v := f0_2) hx hb hr (fun t ht hW => ⟨f0_2, rfl, ⟨⟨(by omega), (by omega)⟩, (fun u hu => by have h8 := hu.2.1; rw [qf0_2] at h8; unfold q_nl; rw [if_pos (by omega)]; omega)⟩, ht⟩) (fun _ h => by cases h) dX5_lotClubs_16
set_option maxHeartbeats 4000000 in
set_option maxRecDepth 100000 in
theorem tX5_lotOfF (l : Launch) (E : tE) (X : tX) (A : Nat → Prop) (z : tZ) (I0 : tI) (L0 : tL) (a0 : Nat) (t_a0 : z.ty a0 = 6) (x : Int32) (x_t : Int) (h_x : x.toInt = x_t) (y : Int32) (y_t : Int) (h_y : y.toInt = y_t) (u_ : Nat → Int) (hu : h_lw I0 a0 (h_ad z a0 0) (h_ad z a0 1) u_) (hok : q_ok u_) : Met l yX5_lotOf wsX5_lotOf ({ frames := 2, cells := 0, slots := 0, locals := 128 }) (va_Pc [.ref a0, .int x, .int y] (h_P E X A z I0 L0)) (vp_Si (fun r => ((-1) ≤ r.toInt ∧ r.toInt ≤ 5) ∧ (r.toInt = q_lot u_ y_t (q_nl u_).toNat 0 x_t))) 0 0 (fun _ => False) := by
  refine Met.ofW (cc := cX5_lotOf) (maxL := 5) (ret := (some .int)) (by decide) rfl ?_
  intro pr_ ev_ s m args below meth cd_ s₁ B hml hv
  obtain ⟨rfl, hE, hk, hX, hA, hK, hI, hR, hB0⟩ := hv
  have g : h_G h_so h_fk E A z I0 L0 s s.heap s.heap [] := ⟨hK, va_S.rf, hB0⟩
  have hx := B.exec
  have hb := B.bytes
  have hr := B.returns
  have hts := atoms_spec (ws := wsX5_lotOf) B.pre
  have hown : s.vm.findClass RX5 = some m.cls := findClass_of_methodNamed B.named
  have hlocks := B.notSynchronized
  have iX5 : ∀ w ∈ u_ws RX5 TX5 3, w ∈ wsX5_lotOf := by decide +kernel
  have hl := lv_entry ([.ref a0, .int x, .int y]) (n := 5) (Nat.le_of_ble_eq_true rfl)
  rw [lg_entry_eq]
  generalize (lg_sl ([.ref a0, .int x, .int y]) ++ List.replicate (5 - (lg_sl ([.ref a0, .int x, .int y])).length) Slot.unset).toArray = ls at hl ⊢
  have hl : lv_has ls 5 [(0, .ref a0), (1, .int x), (2, .int y)] := hl
  have b_x : -2147483648 ≤ x_t ∧ x_t ≤ 2147483647 := h_x ▸ ⟨xi_lo x, Int.le_of_lt_add_one (xi_hi x)⟩
  have b_y : -2147483648 ≤ y_t ∧ y_t ≤ 2147483647 := h_y ▸ ⟨xi_lo y, Int.le_of_lt_add_one (xi_hi y)⟩
  obtain ⟨nu, rnu, tnu⟩ := hR.at a0 0 t_a0 (rfl : h_rs 6 0 = some (600, false)) (by decide)
  have anu : h_ad z a0 0 = nu := h_ad.at rnu
  obtain ⟨lo, rlo, tlo⟩ := hR.at a0 1 t_a0 (rfl : h_rs 6 1 = some (601, false)) (by decide)
  have alo : h_ad z a0 1 = lo := h_ad.at rlo
  have hu0 := hu
  rw [anu, alo] at hu
  have nb := q_nl_b hok
  refine lv_iconst (v := 0) hx hb dX5_lotOf_0 (by decide) ?_
  refine lv_istore_n (lv' := [(3, .int 0), (0, .ref a0), (1, .int x), (2, .int y)]) hx hb dX5_lotOf_1 rfl hl (by decide) rfl (fun ls hl => ?_)
  refine lv_iconst (v := 0) hx hb dX5_lotOf_2 (by decide) ?_
  refine lv_istore (lv' := [(4, .int 0), (3, .int 0), (0, .ref a0), (1, .int x), (2, .int y)]) hx hb dX5_lotOf_3 hl (by decide) rfl (fun ls hl => ?_)
  have loop5_0 : ∀ (n : Nat) (ls : Array Slot) (v1 v2 : Int32), lv_has ls 5 [(0, .ref a0), (1, .int x), (2, .int y), (3, .int v1), (4, .int v2)] → (0 ≤ v1.toInt ∧ v1.toInt ≤ 120) → (0 ≤ v2.toInt ∧ v2.toInt ≤ 6) → (q_lot u_ y_t (q_nl u_).toNat 0 x_t = q_lot u_ y_t (q_nl u_ - v2.toInt).toNat (v2.toInt).toNat (x_t - v1.toInt)) → (0 ≤ v1.toInt ∧ v1.toInt ≤ 20 * v2.toInt) → (7 - v2.toInt) < (n : Int) → W pr_ l ev_ (headSpec wsX5_lotOf ({ frames := 2, cells := 0, slots := 0, locals := 128 })).room s m ([.ref a0, .int x, .int y] : List Value).toArray below meth cd_ s.heap [] 0 0 (MQ below (vp_Si (fun r => ((-1) ≤ r.toInt ∧ r.toInt ≤ 5) ∧ (r.toInt = q_lot u_ y_t (q_nl u_).toNat 0 x_t))) ([.ref a0, .int x, .int y] : List Value).toArray s 0 0 (fun _ => False)) (F0 m 5 ls []) := by
    intro n
    induction n with
    | zero => intro ls v1 v2 hl jv1 jv2 hx5_0 hx5_1 hn; exact absurd hn (by omega)
    | succ n ih5 =>
      intro ls v1 v2 hl jv1 jv2 hx5_0 hx5_1 hn
      refine lv_iload hx hb dX5_lotOf_5 (lv_at hl 4 rfl) ?_
      refine lv_aload_n hx hb dX5_lotOf_7 rfl (lv_at hl 0 rfl) ?_
      refine vp_callSi (W.runV (As := []) (rest := [.int v2]) ⟨hx, hb, hml, hown, hts⟩ (tX5_lotClubsF l E X A z I0 L0 a0 t_a0) (cwV 0 hts gX5_lotOf_X5_lotClubs rfl rfl rfl (by decide +kernel) ⟨Nat.le_of_ble_eq_true rfl, Nat.le_of_ble_eq_true rfl⟩) ⟨h_blind _ _ _ _ _ _ _, h_recv g t_a0 (by decide) so_6 (q := (RX5, TX5, 3)) rfl, h_pre _ hE hk hX hA hI hR g⟩ rfl rfl hl.1 rfl (lv_room (Nat.le_of_ble_eq_true rfl)) dX5_lotOf_8 ⟨Nat.le_of_ble_eq_true rfl, Nat.le_of_ble_eq_true rfl⟩) (fun rh3 h3 => ?_)
      obtain ⟨h3, h3p0⟩ := h3
      have nl : rh3.toInt = q_nl u_ := h3p0 u_ hu0
      refine lv_icmp_ge (tgt := 44) hx hb dX5_lotOf_11 (by decide) (fun c4 => ?_) (fun c4 => ?_)
      · have ic4 := (xi_le c4 rfl rfl : rh3.toInt ≤ v2.toInt)
        refine lv_iconst (v := (-1)) hx hb dX5_lotOf_44 (by decide) ?_
        exact W.iret (v := (-1)) hx hb hr (fun t ht hW => ⟨(-1), rfl, ⟨⟨(by decide), (by decide)⟩, (by rw [hx5_0, q_lot_end (by omega)]; decide)⟩, ht⟩) (fun _ h => by cases h) dX5_lotOf_45
      · have ic4 := (xi_nle c4 rfl rfl : v2.toInt < rh3.toInt)
        refine lv_iload hx hb dX5_lotOf_14 (lv_at hl 4 rfl) ?_
        refine lv_iload_n hx hb dX5_lotOf_16 rfl (lv_at hl 2 rfl) ?_
        refine lv_icmp_eq (tgt := 38) hx hb dX5_lotOf_17 (by decide) (fun c5 => ?_) (fun c5 => ?_)
        · have ic5 := (xi_eq c5 rfl h_y : v2.toInt = y_t)
          obtain ⟨v6, ev6⟩ : ∃ z : Int32, z = v2 + 1 := ⟨_, rfl⟩
          have jv6 : v6.toInt = v2.toInt + 1 := xi_add ev6 rfl (by decide) (by omega) (by omega)
          refine lv_iinc (v := v6) (lv' := [(4, .int v6), (0, .ref a0), (1, .int x), (2, .int y), (3, .int v1)]) hx hb dX5_lotOf_38 hl (k := 4) rfl (by rw [ev6]; rfl) (by decide) rfl (fun ls hl => ?_)
          refine lv_goto (tgt := 5) hx hb dX5_lotOf_41 (by decide) ?_
          exact ih5 _ v1 v6 (lv_sub hl [1, 2, 3, 4, 0] rfl) (by omega) (by omega) (hx5_0.trans (q_lot_skip (by omega) (by omega) (by omega) (by omega))) (by omega) (by omega)
        · have ic5 := (xi_ne c5 rfl h_y : v2.toInt ≠ y_t)
          refine lv_iload_n hx hb dX5_lotOf_20 rfl (lv_at hl 3 rfl) ?_
          refine lv_aload_n hx hb dX5_lotOf_21 rfl (lv_at hl 0 rfl) ?_
          refine h_get (v := .ref lo) hx hb hts iX5 hown g t_a0 (by decide) so_6 rfl 1 (by decide) (hts (.fieldLink RX5 15 "CapLeague$Laws" "lots" "[I") (by decide +kernel)) rfl dX5_lotOf_22 (by show va_rf (z.R a0 1) = _; rw [rlo]; rfl) ?_
          refine lv_iload hx hb dX5_lotOf_25 (lv_at hl 4 rfl) ?_
          refine h_ald hx hb g tlo (by decide) so_601 (xi_in (by omega) (by omega)) dX5_lotOf_27 ?_
          refine lv_topi (fun v7 ev7 => ?_)
          have jv7 := hI.rd lo v2.toNatClampNeg tlo ev7 (rfl : h_bd 601 _ = ((-2147483648), 2147483647))
          have mv7 : v7.toInt = u_ (9 + (v2.toInt).toNat) := by rw [ev7, h_keq (i := v2) (t := v2.toInt) (k := (v2.toInt).toNat) rfl (by omega) (by omega)]; exact hu.2.2 (v2.toInt).toNat (by omega) (by omega)
          have ov7 := hok.2.2 (v2.toInt).toNat (by omega)
          rw [← mv7] at ov7
          refine lv_iadd hx hb dX5_lotOf_28 ?_
          refine lv_topi (fun v8 ev8 => ?_)
          have jv8 : v8.toInt = v1.toInt + v7.toInt := xi_add ev8 rfl rfl (by omega) (by omega)
          refine lv_istore_n (lv' := [(3, .int v8), (0, .ref a0), (1, .int x), (2, .int y), (4, .int v2)]) hx hb dX5_lotOf_29 rfl hl (by decide) rfl (fun ls hl => ?_)
          refine lv_iload_n hx hb dX5_lotOf_30 rfl (lv_at hl 2 rfl) ?_
          refine lv_iload_n hx hb dX5_lotOf_31 rfl (lv_at hl 0 rfl) ?_
          refine lv_icmp_ge (tgt := 38) hx hb dX5_lotOf_32 (by decide) (fun c9 => ?_) (fun c9 => ?_)
          · have ic9 := (xi_le c9 rfl h_x : v8.toInt ≤ x_t)
            obtain ⟨v10, ev10⟩ : ∃ z : Int32, z = v2 + 1 := ⟨_, rfl⟩
            have jv10 : v10.toInt = v2.toInt + 1 := xi_add ev10 rfl (by decide) (by omega) (by omega)
            refine lv_iinc (v := v10) (lv' := [(4, .int v10), (3, .int v8), (0, .ref a0), (1, .int x), (2, .int y)]) hx hb dX5_lotOf_38 hl (k := 4) rfl (by rw [ev10]; rfl) (by decide) rfl (fun ls hl => ?_)
            refine lv_goto (tgt := 5) hx hb dX5_lotOf_41 (by decide) ?_
            exact ih5 _ v8 v10 (lv_sub hl [2, 3, 4, 1, 0] rfl) (by omega) (by omega) (hx5_0.trans (q_lot_miss (by omega) (by omega) (by omega) (by omega) (by omega) (by omega))) (by omega) (by omega)
          · have ic9 := (xi_nle c9 rfl h_x : x_t < v8.toInt)
            refine lv_iload hx hb dX5_lotOf_35 (lv_at hl 4 rfl) ?_
            exact W.iret (v := v2) hx hb hr (fun t ht hW => ⟨v2, rfl, ⟨⟨(by omega), (by omega)⟩, (by rw [hx5_0, q_lot_hit (by omega) (by omega) (by omega) (by omega)])⟩, ht⟩) (fun _ h => by cases h) dX5_lotOf_37
  have kc11 : (0 : Int32).toInt = 0 := by decide
  have kc12 : (0 : Int32).toInt = 0 := by decide
  exact loop5_0 _ _ (0) (0) (lv_sub hl [2, 3, 4, 1, 0] rfl) ⟨by decide, by decide⟩ ⟨by decide, by decide⟩ (by rw [show (0 : Int32).toInt = 0 by decide, show q_nl u_ - 0 = q_nl u_ by omega, show x_t - 0 = x_t by omega]; rfl) (by omega) (show (7 - (0 : Int)) < (((7 - (0 : Int)).toNat + 1 : Nat) : Int) by omega)
set_option maxHeartbeats 4000000 in
set_option maxRecDepth 100000 in
theorem tX5_areDrawsF (l : Launch) (E : tE) (X : tX) (A : Nat → Prop) (z : tZ) (I0 : tI) (L0 : tL) (a0 : Nat) (t_a0 : z.ty a0 = 6) (a : Int32) (a_t : Int) (h_a : a.toInt = a_t) (b : Int32) (b_t : Int) (h_b : b.toInt = b_t) (u_ : Nat → Int) (hu : h_lw I0 a0 (h_ad z a0 0) (h_ad z a0 1) u_) (hok : q_ok u_) : Met l yX5_areDraws wsX5_areDraws ({ frames := 3, cells := 0, slots := 0, locals := 192 }) (va_Pc [.ref a0, .int a, .int b] (h_P E X A z I0 L0)) (vp_Si (fun r => (0 ≤ r.toInt ∧ r.toInt ≤ 1) ∧ ((r.toInt = 1 ∧ q_draws u_ a_t b_t) ∨ (r.toInt = 0 ∧ ¬ q_draws u_ a_t b_t)))) 0 0 (fun _ => False) := by
  refine Met.ofW (cc := cX5_areDraws) (maxL := 4) (ret := (some .boolean)) (by decide) rfl ?_
  intro pr_ ev_ s m args below meth cd_ s₁ B hml hv
  obtain ⟨rfl, hE, hk, hX, hA, hK, hI, hR, hB0⟩ := hv
  have g : h_G h_so h_fk E A z I0 L0 s s.heap s.heap [] := ⟨hK, va_S.rf, hB0⟩
  have hx := B.exec
  have hb := B.bytes
  have hr := B.returns
  have hts := atoms_spec (ws := wsX5_areDraws) B.pre
  have hown : s.vm.findClass RX5 = some m.cls := findClass_of_methodNamed B.named
  have hlocks := B.notSynchronized
  have hl := lv_entry ([.ref a0, .int a, .int b]) (n := 4) (Nat.le_of_ble_eq_true rfl)
  rw [lg_entry_eq]
  generalize (lg_sl ([.ref a0, .int a, .int b]) ++ List.replicate (4 - (lg_sl ([.ref a0, .int a, .int b])).length) Slot.unset).toArray = ls at hl ⊢
  have hl : lv_has ls 4 [(0, .ref a0), (1, .int a), (2, .int b)] := hl
  have b_a : -2147483648 ≤ a_t ∧ a_t ≤ 2147483647 := h_a ▸ ⟨xi_lo a, Int.le_of_lt_add_one (xi_hi a)⟩
  have b_b : -2147483648 ≤ b_t ∧ b_t ≤ 2147483647 := h_b ▸ ⟨xi_lo b, Int.le_of_lt_add_one (xi_hi b)⟩
  obtain ⟨nu, rnu, tnu⟩ := hR.at a0 0 t_a0 (rfl : h_rs 6 0 = some (600, false)) (by decide)
  have anu : h_ad z a0 0 = nu := h_ad.at rnu
  obtain ⟨lo, rlo, tlo⟩ := hR.at a0 1 t_a0 (rfl : h_rs 6 1 = some (601, false)) (by decide)
  have alo : h_ad z a0 1 = lo := h_ad.at rlo
  have hu0 := hu
  rw [anu, alo] at hu
  have nb := q_nl_b hok
  refine lv_aload_n hx hb dX5_areDraws_0 rfl (lv_at hl 0 rfl) ?_
  refine vp_callSi (W.runV (As := []) (rest := []) ⟨hx, hb, hml, hown, hts⟩ (tX5_lotClubsF l E X A z I0 L0 a0 t_a0) (cwV 0 hts gX5_areDraws_X5_lotClubs rfl rfl rfl (by decide +kernel) ⟨Nat.le_of_ble_eq_true rfl, Nat.le_of_ble_eq_true rfl⟩) ⟨h_blind _ _ _ _ _ _ _, h_recv g t_a0 (by decide) so_6 (q := (RX5, TX5, 3)) rfl, h_pre _ hE hk hX hA hI hR g⟩ rfl rfl hl.1 rfl (lv_room (Nat.le_of_ble_eq_true rfl)) dX5_areDraws_1 ⟨Nat.le_of_ble_eq_true rfl, Nat.le_of_ble_eq_true rfl⟩) (fun rh1 h1 => ?_)
  obtain ⟨h1, h1p0⟩ := h1
  have nl : rh1.toInt = q_nl u_ := h1p0 u_ hu0
  refine lv_if_ne (tgt := 21) hx hb dX5_areDraws_4 (by decide) (fun c2 => ?_) (fun c2 => ?_)
  · have ic2 := (xi_ne c2 rfl (by decide) : rh1.toInt ≠ 0)
    refine lv_iload_n hx hb dX5_areDraws_21 rfl (lv_at hl 1 rfl) ?_
    refine lv_if_lt (tgt := 29) hx hb dX5_areDraws_22 (by decide) (fun c3 => ?_) (fun c3 => ?_)
    · have ic3 := (xi_lt c3 h_a (by decide) : a_t < 0)
      refine lv_iconst (v := 0) hx hb dX5_areDraws_29 (by decide) ?_
      exact W.zret (v := 0) hx hb hr (by decide) (fun t ht hW => ⟨0, rfl, ⟨⟨(by decide), (by decide)⟩, (Or.inr ⟨by decide, fun h9 => by rcases h9 with q | q; omega; omega⟩)⟩, ht⟩) (fun _ h => by cases h) dX5_areDraws_30
    · have ic3 := (xi_nlt c3 h_a (by decide) : 0 ≤ a_t)
      refine lv_iload_n hx hb dX5_areDraws_25 rfl (lv_at hl 2 rfl) ?_
      refine lv_if_ge (tgt := 31) hx hb dX5_areDraws_26 (by decide) (fun c4 => ?_) (fun c4 => ?_)
      · have ic4 := (xi_le c4 (by decide) h_b : 0 ≤ b_t)
        refine lv_aload_n hx hb dX5_areDraws_31 rfl (lv_at hl 0 rfl) ?_
        refine lv_iload_n hx hb dX5_areDraws_32 rfl (lv_at hl 1 rfl) ?_
        refine lv_iconst (v := (-1)) hx hb dX5_areDraws_33 (by decide) ?_
        refine vp_callSi (W.runV (As := [.int a, .int (-1)]) (rest := []) ⟨hx, hb, hml, hown, hts⟩ (tX5_lotOfF l E X A z I0 L0 a0 t_a0 a (a_t) h_a (-1) ((-1)) (by decide) (u_) (hu0) (hok)) (cwV 2 hts gX5_areDraws_X5_lotOf rfl rfl rfl (by decide +kernel) ⟨Nat.le_of_ble_eq_true rfl, Nat.le_of_ble_eq_true rfl⟩) ⟨h_blind _ _ _ _ _ _ _, h_recv g t_a0 (by decide) so_6 (q := (RX5, TX5, 3)) rfl, h_pre _ hE hk hX hA hI hR g⟩ rfl rfl hl.1 rfl (lv_room (Nat.le_of_ble_eq_true rfl)) dX5_areDraws_34 ⟨Nat.le_of_ble_eq_true rfl, Nat.le_of_ble_eq_true rfl⟩) (fun rh5 h5 => ?_)
        obtain ⟨h5, h5p0⟩ := h5
        refine lv_istore_n (lv' := [(3, .int rh5), (0, .ref a0), (1, .int a), (2, .int b)]) hx hb dX5_areDraws_37 rfl hl (by decide) rfl (fun ls hl => ?_)
        refine lv_iload_n hx hb dX5_areDraws_38 rfl (lv_at hl 0 rfl) ?_
        refine lv_iconst (v := (-1)) hx hb dX5_areDraws_39 (by decide) ?_
        refine lv_icmp_eq (tgt := 57) hx hb dX5_areDraws_40 (by decide) (fun c6 => ?_) (fun c6 => ?_)
        · have ic6 := (xi_eq c6 rfl (by decide) : rh5.toInt = (-1))
          refine lv_iconst (v := 0) hx hb dX5_areDraws_57 (by decide) ?_
          exact W.zret (v := 0) hx hb hr (by decide) (fun t ht hW => ⟨0, rfl, ⟨⟨(by decide), (by decide)⟩, (Or.inr ⟨by decide, fun h9 => by rcases h9 with q | q; omega; exact q.2.2.2.1 (by rw [← h5p0]; omega)⟩)⟩, ht⟩) (fun _ h => by cases h) dX5_areDraws_58
        · have ic6 := (xi_ne c6 rfl (by decide) : rh5.toInt ≠ (-1))
          refine lv_aload_n hx hb dX5_areDraws_43 rfl (lv_at hl 1 rfl) ?_
          refine lv_iload_n hx hb dX5_areDraws_44 rfl (lv_at hl 3 rfl) ?_
          refine lv_iload_n hx hb dX5_areDraws_45 rfl (lv_at hl 0 rfl) ?_
          refine vp_callSi (W.runV (As := [.int b, .int rh5]) (rest := []) ⟨hx, hb, hml, hown, hts⟩ (tX5_lotOfF l E X A z I0 L0 a0 t_a0 b (b_t) h_b rh5 (rh5.toInt) rfl (u_) (hu0) (hok)) (cwV 2 hts gX5_areDraws_X5_lotOf rfl rfl rfl (by decide +kernel) ⟨Nat.le_of_ble_eq_true rfl, Nat.le_of_ble_eq_true rfl⟩) ⟨h_blind _ _ _ _ _ _ _, h_recv g t_a0 (by decide) so_6 (q := (RX5, TX5, 3)) rfl, h_pre _ hE hk hX hA hI hR g⟩ rfl rfl hl.1 rfl (lv_room (Nat.le_of_ble_eq_true rfl)) dX5_areDraws_46 ⟨Nat.le_of_ble_eq_true rfl, Nat.le_of_ble_eq_true rfl⟩) (fun rh7 h7 => ?_)
          obtain ⟨h7, h7p0⟩ := h7
          refine lv_iconst (v := (-1)) hx hb dX5_areDraws_49 (by decide) ?_
          refine lv_icmp_eq (tgt := 57) hx hb dX5_areDraws_50 (by decide) (fun c8 => ?_) (fun c8 => ?_)
          · have ic8 := (xi_eq c8 rfl (by decide) : rh7.toInt = (-1))
            refine lv_iconst (v := 0) hx hb dX5_areDraws_57 (by decide) ?_
            exact W.zret (v := 0) hx hb hr (by decide) (fun t ht hW => ⟨0, rfl, ⟨⟨(by decide), (by decide)⟩, (Or.inr ⟨by decide, fun h9 => by rcases h9 with q | q; omega; exact q.2.2.2.2 (by rw [← h5p0, ← h7p0]; omega)⟩)⟩, ht⟩) (fun _ h => by cases h) dX5_areDraws_58
          · have ic8 := (xi_ne c8 rfl (by decide) : rh7.toInt ≠ (-1))
            refine lv_iconst (v := 1) hx hb dX5_areDraws_53 (by decide) ?_
            refine lv_goto (tgt := 58) hx hb dX5_areDraws_54 (by decide) ?_
            exact W.zret (v := 1) hx hb hr (by decide) (fun t ht hW => ⟨1, rfl, ⟨⟨(by decide), (by decide)⟩, (Or.inl ⟨by decide, Or.inr ⟨by omega, by omega, by omega, by rw [← h5p0]; omega, by rw [← h5p0, ← h7p0]; omega⟩⟩)⟩, ht⟩) (fun _ h => by cases h) dX5_areDraws_58
      · have ic4 := (xi_nle c4 (by decide) h_b : b_t < 0)
        refine lv_iconst (v := 0) hx hb dX5_areDraws_29 (by decide) ?_
        exact W.zret (v := 0) hx hb hr (by decide) (fun t ht hW => ⟨0, rfl, ⟨⟨(by decide), (by decide)⟩, (Or.inr ⟨by decide, fun h9 => by rcases h9 with q | q; omega; omega⟩)⟩, ht⟩) (fun _ h => by cases h) dX5_areDraws_30
  · have ic2 := (xi_eq c2 rfl (by decide) : rh1.toInt = 0)
    refine lv_iload_n hx hb dX5_areDraws_7 rfl (lv_at hl 1 rfl) ?_
    refine lv_if_ne (tgt := 19) hx hb dX5_areDraws_8 (by decide) (fun c9 => ?_) (fun c9 => ?_)
    · have ic9 := (xi_ne c9 h_a (by decide) : a_t ≠ 0)
      refine lv_iconst (v := 0) hx hb dX5_areDraws_19 (by decide) ?_
      exact W.zret (v := 0) hx hb hr (by decide) (fun t ht hW => ⟨0, rfl, ⟨⟨(by decide), (by decide)⟩, (Or.inr ⟨by decide, fun h9 => by rcases h9 with q | q; omega; omega⟩)⟩, ht⟩) (fun _ h => by cases h) dX5_areDraws_20
    · have ic9 := (xi_eq c9 h_a (by decide) : a_t = 0)
      refine lv_iload_n hx hb dX5_areDraws_11 rfl (lv_at hl 2 rfl) ?_
      refine lv_if_ne (tgt := 19) hx hb dX5_areDraws_12 (by decide) (fun c10 => ?_) (fun c10 => ?_)
      · have ic10 := (xi_ne c10 h_b (by decide) : b_t ≠ 0)
        refine lv_iconst (v := 0) hx hb dX5_areDraws_19 (by decide) ?_
        exact W.zret (v := 0) hx hb hr (by decide) (fun t ht hW => ⟨0, rfl, ⟨⟨(by decide), (by decide)⟩, (Or.inr ⟨by decide, fun h9 => by rcases h9 with q | q; omega; omega⟩)⟩, ht⟩) (fun _ h => by cases h) dX5_areDraws_20
      · have ic10 := (xi_eq c10 h_b (by decide) : b_t = 0)
        refine lv_iconst (v := 1) hx hb dX5_areDraws_15 (by decide) ?_
        refine lv_goto (tgt := 20) hx hb dX5_areDraws_16 (by decide) ?_
        exact W.zret (v := 1) hx hb hr (by decide) (fun t ht hW => ⟨1, rfl, ⟨⟨(by decide), (by decide)⟩, (Or.inl ⟨by decide, Or.inl ⟨by omega, by omega, by omega⟩⟩)⟩, ht⟩) (fun _ h => by cases h) dX5_areDraws_20
set_option maxHeartbeats 4000000 in
set_option maxRecDepth 100000 in
theorem tX12_lotsF (l : Launch) (E : tE) (X : tX) (A : Nat → Prop) (z : tZ) (I0 : tI) (L0 : tL) (a0 : Nat) (t_a0 : z.ty a0 = 13) : Met l yX12_lots wsX12_lots ({ frames := 2, cells := 0, slots := 0, locals := 128 }) (va_Pc [.ref a0] (h_P E X A z I0 L0)) (vp_Si (fun r => (0 ≤ r.toInt ∧ r.toInt ≤ 7) ∧ (∀ u : Nat → Int, h_r12 (I0 (h_ad z a0 11)) (I0 (h_ad z a0 10)) (I0 a0 12).toInt u → q_ok u → r.toInt = q_nl u))) 0 0 (fun _ => False) := by
  refine Met.ofW (cc := cX12_lots) (maxL := 1) (ret := (some .int)) (by decide) rfl ?_
  intro pr_ ev_ s m args below meth cd_ s₁ B hml hv
  obtain ⟨rfl, hE, hk, hX, hA, hK, hI, hR, hB0⟩ := hv
  have g : h_G h_so h_fk E A z I0 L0 s s.heap s.heap [] := ⟨hK, va_S.rf, hB0⟩
  have hx := B.exec
  have hb := B.bytes
  have hr := B.returns
  have hts := atoms_spec (ws := wsX12_lots) B.pre
  have hown : s.vm.findClass RX12 = some m.cls := findClass_of_methodNamed B.named
  have hlocks := B.notSynchronized
  have iX12 : ∀ w ∈ u_ws RX12 TX12 51, w ∈ wsX12_lots := by decide +kernel
  have hl := lv_entry ([.ref a0]) (n := 1) (Nat.le_of_ble_eq_true rfl)
  rw [lg_entry_eq]
  generalize (lg_sl ([.ref a0]) ++ List.replicate (1 - (lg_sl ([.ref a0])).length) Slot.unset).toArray = ls at hl ⊢
  have hl : lv_has ls 1 [(0, .ref a0)] := hl
  obtain ⟨lw, rlw, tlw⟩ := hR.at a0 10 t_a0 (rfl : h_rs 13 10 = some (1310, false)) (by decide)
  have alw : h_ad z a0 10 = lw := h_ad.at rlw
  obtain ⟨hy, rhy, thy⟩ := hR.at a0 11 t_a0 (rfl : h_rs 13 11 = some (1311, false)) (by decide)
  have ahy : h_ad z a0 11 = hy := h_ad.at rhy
  obtain ⟨f0_12, ef0_12⟩ : ∃ v : Int32, v = I0 a0 12 := ⟨_, rfl⟩
  have qf0_12 : (I0 a0 12).toInt = f0_12.toInt := congrArg Int32.toInt ef0_12.symm
  have jf0_12 := hI.rd a0 12 t_a0 ef0_12 (rfl : h_bd 13 12 = (0, 9))
  refine lv_aload_n hx hb dX12_lots_0 rfl (lv_at hl 0 rfl) ?_
  refine lv_aload_n hx hb dX12_lots_1 rfl (lv_at hl 0 rfl) ?_
  refine h_get (v := .int f0_12) hx hb hts iX12 hown g t_a0 (by decide) so_13 rfl 12 (by decide) (hts (.fieldLink RX12 187 "CapLeagueModel" "clock" "I") (by decide +kernel)) rfl dX12_lots_2 (congrArg Value.int (ef0_12.symm)) ?_
  refine lv_bipush (v := 8) hx hb dX12_lots_5 (by decide) ?_
  refine vp_callSi (W.runV (As := [.int f0_12, .int 8]) (rest := []) ⟨hx, hb, hml, hown, hts⟩ (tX12_lawOfF l E X A z I0 L0 a0 t_a0 f0_12 (f0_12.toInt) rfl (by omega) 8 (8) (by decide) (by omega)) (cwV 2 hts gX12_lots_X12_lawOf rfl rfl rfl (by decide +kernel) ⟨Nat.le_of_ble_eq_true rfl, Nat.le_of_ble_eq_true rfl⟩) ⟨h_blind _ _ _ _ _ _ _, h_recv g t_a0 (by decide) so_13 (q := (RX12, TX12, 51)) rfl, h_pre _ hE hk hX hA hI hR g⟩ rfl rfl hl.1 rfl (lv_room (Nat.le_of_ble_eq_true rfl)) dX12_lots_7 ⟨Nat.le_of_ble_eq_true rfl, Nat.le_of_ble_eq_true rfl⟩) (fun rh1 h1 => ?_)
  obtain ⟨h1p0, h1p1, h1p2⟩ := h1
  have jrh1 : -2147483648 ≤ rh1.toInt ∧ rh1.toInt ≤ 2147483647 := ⟨xi_lo _, Int.le_of_lt_add_one (xi_hi _)⟩
  rw [alw, ahy] at h1p0
  have brh1 : 0 ≤ rh1.toInt ∧ rh1.toInt ≤ 7 := by omega
  refine lv_iconst (v := 1) hx hb dX12_lots_10 (by decide) ?_
  refine lv_icmp_ne (tgt := 18) hx hb dX12_lots_11 (by decide) (fun c2 => ?_) (fun c2 => ?_)
  · have ic2 := (xi_ne c2 rfl (by decide) : rh1.toInt ≠ 1)
    refine lv_aload_n hx hb dX12_lots_18 rfl (lv_at hl 0 rfl) ?_
    refine lv_aload_n hx hb dX12_lots_19 rfl (lv_at hl 0 rfl) ?_
    refine h_get (v := .int f0_12) hx hb hts iX12 hown g t_a0 (by decide) so_13 rfl 12 (by decide) (hts (.fieldLink RX12 187 "CapLeagueModel" "clock" "I") (by decide +kernel)) rfl dX12_lots_20 (congrArg Value.int (ef0_12.symm)) ?_
    refine lv_bipush (v := 8) hx hb dX12_lots_23 (by decide) ?_
    refine vp_callSi (W.runV (As := [.int f0_12, .int 8]) (rest := []) ⟨hx, hb, hml, hown, hts⟩ (tX12_lawOfF l E X A z I0 L0 a0 t_a0 f0_12 (f0_12.toInt) rfl (by omega) 8 (8) (by decide) (by omega)) (cwV 2 hts gX12_lots_X12_lawOf rfl rfl rfl (by decide +kernel) ⟨Nat.le_of_ble_eq_true rfl, Nat.le_of_ble_eq_true rfl⟩) ⟨h_blind _ _ _ _ _ _ _, h_recv g t_a0 (by decide) so_13 (q := (RX12, TX12, 51)) rfl, h_pre _ hE hk hX hA hI hR g⟩ rfl rfl hl.1 rfl (lv_room (Nat.le_of_ble_eq_true rfl)) dX12_lots_25 ⟨Nat.le_of_ble_eq_true rfl, Nat.le_of_ble_eq_true rfl⟩) (fun rh3 h3 => ?_)
    obtain ⟨h3p0, h3p1, h3p2⟩ := h3
    have jrh3 : -2147483648 ≤ rh3.toInt ∧ rh3.toInt ≤ 2147483647 := ⟨xi_lo _, Int.le_of_lt_add_one (xi_hi _)⟩
    rw [alw, ahy] at h3p0
    have brh3 : 0 ≤ rh3.toInt ∧ rh3.toInt ≤ 7 := by omega
    exact W.iret (v := rh3) hx hb hr (fun t ht hW => ⟨rh3, rfl, ⟨⟨(by omega), (by omega)⟩, (fun u hr hok => by rw [ahy, alw, qf0_12] at hr; have h1 := hr.at (x := 8) (by decide) h1p0; have h2 := hr.at (x := 8) (by decide) h3p0; exact q_nl_ne hok h1 (by assumption) h2)⟩, ht⟩) (fun _ h => by cases h) dX12_lots_28
  · have ic2 := (xi_eq c2 rfl (by decide) : rh1.toInt = 1)
    refine lv_iconst (v := 0) hx hb dX12_lots_14 (by decide) ?_
    refine lv_goto (tgt := 28) hx hb dX12_lots_15 (by decide) ?_
    exact W.iret (v := 0) hx hb hr (fun t ht hW => ⟨0, rfl, ⟨⟨(by decide), (by decide)⟩, (fun u hr hok => by rw [ahy, alw, qf0_12] at hr; have h1 := hr.at (x := 8) (by decide) h1p0; have nb := q_nl_b hok; have z0 : (0 : Int32).toInt = 0 := (by decide); omega)⟩, ht⟩) (fun _ h => by cases h) dX12_lots_28
set_option maxHeartbeats 4000000 in
set_option maxRecDepth 100000 in
theorem tX12_weightF (l : Launch) (E : tE) (X : tX) (A : Nat → Prop) (z : tZ) (I0 : tI) (L0 : tL) (a0 : Nat) (t_a0 : z.ty a0 = 13) (x : Int32) (x_t : Int) (h_x : x.toInt = x_t) (b_x : 0 ≤ x_t ∧ x_t ≤ 7) : Met l yX12_weight wsX12_weight ({ frames := 3, cells := 0, slots := 0, locals := 192 }) (va_Pc [.ref a0, .int x] (h_P E X A z I0 L0)) (vp_Si (fun r => (0 ≤ r.toInt ∧ r.toInt ≤ 20) ∧ (∀ u : Nat → Int, h_r12 (I0 (h_ad z a0 11)) (I0 (h_ad z a0 10)) (I0 a0 12).toInt u → q_ok u → r.toInt = if x_t < q_nl u then u (9 + x_t.toNat) else 0))) 0 0 (fun _ => False) := by
  refine Met.ofW (cc := cX12_weight) (maxL := 2) (ret := (some .int)) (by decide) rfl ?_
  intro pr_ ev_ s m args below meth cd_ s₁ B hml hv
  obtain ⟨rfl, hE, hk, hX, hA, hK, hI, hR, hB0⟩ := hv
  have g : h_G h_so h_fk E A z I0 L0 s s.heap s.heap [] := ⟨hK, va_S.rf, hB0⟩
  have hx := B.exec
  have hb := B.bytes
  have hr := B.returns
  have hts := atoms_spec (ws := wsX12_weight) B.pre
  have hown : s.vm.findClass RX12 = some m.cls := findClass_of_methodNamed B.named
  have hlocks := B.notSynchronized
  have iX12 : ∀ w ∈ u_ws RX12 TX12 51, w ∈ wsX12_weight := by decide +kernel
  have hl := lv_entry ([.ref a0, .int x]) (n := 2) (Nat.le_of_ble_eq_true rfl)
  rw [lg_entry_eq]
  generalize (lg_sl ([.ref a0, .int x]) ++ List.replicate (2 - (lg_sl ([.ref a0, .int x])).length) Slot.unset).toArray = ls at hl ⊢
  have hl : lv_has ls 2 [(0, .ref a0), (1, .int x)] := hl
  obtain ⟨lw, rlw, tlw⟩ := hR.at a0 10 t_a0 (rfl : h_rs 13 10 = some (1310, false)) (by decide)
  have alw : h_ad z a0 10 = lw := h_ad.at rlw
  obtain ⟨hy, rhy, thy⟩ := hR.at a0 11 t_a0 (rfl : h_rs 13 11 = some (1311, false)) (by decide)
  have ahy : h_ad z a0 11 = hy := h_ad.at rhy
  obtain ⟨f0_12, ef0_12⟩ : ∃ v : Int32, v = I0 a0 12 := ⟨_, rfl⟩
  have qf0_12 : (I0 a0 12).toInt = f0_12.toInt := congrArg Int32.toInt ef0_12.symm
  have jf0_12 := hI.rd a0 12 t_a0 ef0_12 (rfl : h_bd 13 12 = (0, 9))
  refine lv_iload_n hx hb dX12_weight_0 rfl (lv_at hl 1 rfl) ?_
  refine lv_aload_n hx hb dX12_weight_1 rfl (lv_at hl 0 rfl) ?_
  refine vp_callSi (W.runV (As := []) (rest := [.int x]) ⟨hx, hb, hml, hown, hts⟩ (tX12_lotsF l E X A z I0 L0 a0 t_a0) (cwV 0 hts gX12_weight_X12_lots rfl rfl rfl (by decide +kernel) ⟨Nat.le_of_ble_eq_true rfl, Nat.le_of_ble_eq_true rfl⟩) ⟨h_blind _ _ _ _ _ _ _, h_recv g t_a0 (by decide) so_13 (q := (RX12, TX12, 51)) rfl, h_pre _ hE hk hX hA hI hR g⟩ rfl rfl hl.1 rfl (lv_room (Nat.le_of_ble_eq_true rfl)) dX12_weight_2 ⟨Nat.le_of_ble_eq_true rfl, Nat.le_of_ble_eq_true rfl⟩) (fun rh1 h1 => ?_)
  obtain ⟨h1, h1p0⟩ := h1
  refine lv_icmp_ge (tgt := 23) hx hb dX12_weight_5 (by decide) (fun c2 => ?_) (fun c2 => ?_)
  · have ic2 := (xi_le c2 rfl h_x : rh1.toInt ≤ x_t)
    refine lv_iconst (v := 0) hx hb dX12_weight_23 (by decide) ?_
    exact W.iret (v := 0) hx hb hr (fun t ht hW => ⟨0, rfl, ⟨⟨(by decide), (by decide)⟩, (fun u hr hok => by have h1 := h1p0 u hr hok; rw [if_neg (by omega)]; decide)⟩, ht⟩) (fun _ h => by cases h) dX12_weight_24
  · have ic2 := (xi_nle c2 rfl h_x : x_t < rh1.toInt)
    refine lv_aload_n hx hb dX12_weight_8 rfl (lv_at hl 0 rfl) ?_
    refine lv_aload_n hx hb dX12_weight_9 rfl (lv_at hl 0 rfl) ?_
    refine h_get (v := .int f0_12) hx hb hts iX12 hown g t_a0 (by decide) so_13 rfl 12 (by decide) (hts (.fieldLink RX12 187 "CapLeagueModel" "clock" "I") (by decide +kernel)) rfl dX12_weight_10 (congrArg Value.int (ef0_12.symm)) ?_
    refine lv_bipush (v := 9) hx hb dX12_weight_13 (by decide) ?_
    refine lv_iload_n hx hb dX12_weight_15 rfl (lv_at hl 1 rfl) ?_
    refine lv_iadd hx hb dX12_weight_16 ?_
    refine lv_topi (fun v3 ev3 => ?_)
    have jv3 : v3.toInt = 9 + x_t := xi_add ev3 (by decide) h_x (by omega) (by omega)
    refine vp_callSi (W.runV (As := [.int f0_12, .int v3]) (rest := []) ⟨hx, hb, hml, hown, hts⟩ (tX12_lawOfF l E X A z I0 L0 a0 t_a0 f0_12 (f0_12.toInt) rfl (by omega) v3 (v3.toInt) rfl (by omega)) (cwV 2 hts gX12_weight_X12_lawOf rfl rfl rfl (by decide +kernel) ⟨Nat.le_of_ble_eq_true rfl, Nat.le_of_ble_eq_true rfl⟩) ⟨h_blind _ _ _ _ _ _ _, h_recv g t_a0 (by decide) so_13 (q := (RX12, TX12, 51)) rfl, h_pre _ hE hk hX hA hI hR g⟩ rfl rfl hl.1 rfl (lv_room (Nat.le_of_ble_eq_true rfl)) dX12_weight_17 ⟨Nat.le_of_ble_eq_true rfl, Nat.le_of_ble_eq_true rfl⟩) (fun rh4 h4 => ?_)
    obtain ⟨h4p0, h4p1, h4p2⟩ := h4
    have jrh4 : -2147483648 ≤ rh4.toInt ∧ rh4.toInt ≤ 2147483647 := ⟨xi_lo _, Int.le_of_lt_add_one (xi_hi _)⟩
    rw [alw, ahy] at h4p0
    have brh4 : 0 ≤ rh4.toInt ∧ rh4.toInt ≤ 20 := by omega
    refine lv_goto (tgt := 24) hx hb dX12_weight_20 (by decide) ?_
    exact W.iret (v := rh4) hx hb hr (fun t ht hW => ⟨rh4, rfl, ⟨⟨(by omega), (by omega)⟩, (fun u hr hok => by have h1 := h1p0 u hr hok; have nb := q_nl_b hok; rw [ahy, alw, qf0_12] at hr; rw [if_pos (by omega)]; have h2 := hr.at (x := 9 + x_t.toNat) (by omega) (by rw [show 9 + x_t.toNat = (v3.toInt).toNat by omega]; exact h4p0); exact h2)⟩, ht⟩) (fun _ h => by cases h) dX12_weight_24
set_option maxHeartbeats 4000000 in
set_option maxRecDepth 100000 in
theorem tX12_weightsF (l : Launch) (E : tE) (X : tX) (A : Nat → Prop) (z : tZ) (I0 : tI) (L0 : tL) (a0 : Nat) (t_a0 : z.ty a0 = 13) : Met l yX12_weights wsX12_weights ({ frames := 4, cells := 0, slots := 0, locals := 256 }) (va_Pc [.ref a0] (h_P E X A z I0 L0)) (vp_Si (fun r => (0 ≤ r.toInt ∧ r.toInt ≤ 160) ∧ (∀ u : Nat → Int, h_r12 (I0 (h_ad z a0 11)) (I0 (h_ad z a0 10)) (I0 a0 12).toInt u → q_ok u → r.toInt = q_sum u (-1) (q_nl u).toNat 0))) 0 0 (fun _ => False) := by
  refine Met.ofW (cc := cX12_weights) (maxL := 3) (ret := (some .int)) (by decide) rfl ?_
  intro pr_ ev_ s m args below meth cd_ s₁ B hml hv
  obtain ⟨rfl, hE, hk, hX, hA, hK, hI, hR, hB0⟩ := hv
  have g : h_G h_so h_fk E A z I0 L0 s s.heap s.heap [] := ⟨hK, va_S.rf, hB0⟩
  have hx := B.exec
  have hb := B.bytes
  have hr := B.returns
  have hts := atoms_spec (ws := wsX12_weights) B.pre
  have hown : s.vm.findClass RX12 = some m.cls := findClass_of_methodNamed B.named
  have hlocks := B.notSynchronized
  have hl := lv_entry ([.ref a0]) (n := 3) (Nat.le_of_ble_eq_true rfl)
  rw [lg_entry_eq]
  generalize (lg_sl ([.ref a0]) ++ List.replicate (3 - (lg_sl ([.ref a0])).length) Slot.unset).toArray = ls at hl ⊢
  have hl : lv_has ls 3 [(0, .ref a0)] := hl
  obtain ⟨lw, rlw, tlw⟩ := hR.at a0 10 t_a0 (rfl : h_rs 13 10 = some (1310, false)) (by decide)
  have alw : h_ad z a0 10 = lw := h_ad.at rlw
  obtain ⟨hy, rhy, thy⟩ := hR.at a0 11 t_a0 (rfl : h_rs 13 11 = some (1311, false)) (by decide)
  have ahy : h_ad z a0 11 = hy := h_ad.at rhy
  obtain ⟨f0_12, ef0_12⟩ : ∃ v : Int32, v = I0 a0 12 := ⟨_, rfl⟩
  have qf0_12 : (I0 a0 12).toInt = f0_12.toInt := congrArg Int32.toInt ef0_12.symm
  have jf0_12 := hI.rd a0 12 t_a0 ef0_12 (rfl : h_bd 13 12 = (0, 9))
  refine lv_iconst (v := 0) hx hb dX12_weights_0 (by decide) ?_
  refine lv_istore_n (lv' := [(1, .int 0), (0, .ref a0)]) hx hb dX12_weights_1 rfl hl (by decide) rfl (fun ls hl => ?_)
  refine lv_iconst (v := 0) hx hb dX12_weights_2 (by decide) ?_
  refine lv_istore_n (lv' := [(2, .int 0), (1, .int 0), (0, .ref a0)]) hx hb dX12_weights_3 rfl hl (by decide) rfl (fun ls hl => ?_)
  have loop4_0 : ∀ (n : Nat) (ls : Array Slot) (v1 v2 : Int32), lv_has ls 3 [(0, .ref a0), (1, .int v1), (2, .int v2)] → (0 ≤ v1.toInt ∧ v1.toInt ≤ 160) → (0 ≤ v2.toInt ∧ v2.toInt ≤ 7) → (∀ u : Nat → Int, h_r12 (I0 (h_ad z a0 11)) (I0 (h_ad z a0 10)) (I0 a0 12).toInt u → q_ok u → q_sum u (-1) (q_nl u).toNat 0 = v1.toInt + q_sum u (-1) (q_nl u - v2.toInt).toNat (v2.toInt).toNat) → (0 ≤ v1.toInt ∧ v1.toInt ≤ 20 * v2.toInt) → (8 - v2.toInt) < (n : Int) → W pr_ l ev_ (headSpec wsX12_weights ({ frames := 4, cells := 0, slots := 0, locals := 256 })).room s m ([.ref a0] : List Value).toArray below meth cd_ s.heap [] 0 0 (MQ below (vp_Si (fun r => (0 ≤ r.toInt ∧ r.toInt ≤ 160) ∧ (∀ u : Nat → Int, h_r12 (I0 (h_ad z a0 11)) (I0 (h_ad z a0 10)) (I0 a0 12).toInt u → q_ok u → r.toInt = q_sum u (-1) (q_nl u).toNat 0))) ([.ref a0] : List Value).toArray s 0 0 (fun _ => False)) (F0 m 4 ls []) := by
    intro n
    induction n with
    | zero => intro ls v1 v2 hl jv1 jv2 hx4_0 hx4_1 hn; exact absurd hn (by omega)
    | succ n ih4 =>
      intro ls v1 v2 hl jv1 jv2 hx4_0 hx4_1 hn
      refine lv_iload_n hx hb dX12_weights_4 rfl (lv_at hl 2 rfl) ?_
      refine lv_aload_n hx hb dX12_weights_5 rfl (lv_at hl 0 rfl) ?_
      refine vp_callSi (W.runV (As := []) (rest := [.int v2]) ⟨hx, hb, hml, hown, hts⟩ (tX12_lotsF l E X A z I0 L0 a0 t_a0) (cwV 0 hts gX12_weights_X12_lots rfl rfl rfl (by decide +kernel) ⟨Nat.le_of_ble_eq_true rfl, Nat.le_of_ble_eq_true rfl⟩) ⟨h_blind _ _ _ _ _ _ _, h_recv g t_a0 (by decide) so_13 (q := (RX12, TX12, 51)) rfl, h_pre _ hE hk hX hA hI hR g⟩ rfl rfl hl.1 rfl (lv_room (Nat.le_of_ble_eq_true rfl)) dX12_weights_6 ⟨Nat.le_of_ble_eq_true rfl, Nat.le_of_ble_eq_true rfl⟩) (fun rh3 h3 => ?_)
      obtain ⟨h3, h3p0⟩ := h3
      refine lv_icmp_ge (tgt := 26) hx hb dX12_weights_9 (by decide) (fun c4 => ?_) (fun c4 => ?_)
      · have ic4 := (xi_le c4 rfl rfl : rh3.toInt ≤ v2.toInt)
        refine lv_iload_n hx hb dX12_weights_26 rfl (lv_at hl 1 rfl) ?_
        exact W.iret (v := v1) hx hb hr (fun t ht hW => ⟨v1, rfl, ⟨⟨(by omega), (by omega)⟩, (fun u hr hok => by have h1 := h3p0 u hr hok; rw [hx4_0 u hr hok, q_sum_end (by omega)]; omega)⟩, ht⟩) (fun _ h => by cases h) dX12_weights_27
      · have ic4 := (xi_nle c4 rfl rfl : v2.toInt < rh3.toInt)
        refine lv_iload_n hx hb dX12_weights_12 rfl (lv_at hl 1 rfl) ?_
        refine lv_aload_n hx hb dX12_weights_13 rfl (lv_at hl 0 rfl) ?_
        refine lv_iload_n hx hb dX12_weights_14 rfl (lv_at hl 2 rfl) ?_
        refine vp_callSi (W.runV (As := [.int v2]) (rest := [.int v1]) ⟨hx, hb, hml, hown, hts⟩ (tX12_weightF l E X A z I0 L0 a0 t_a0 v2 (v2.toInt) rfl (by omega)) (cwV 1 hts gX12_weights_X12_weight rfl rfl rfl (by decide +kernel) ⟨Nat.le_of_ble_eq_true rfl, Nat.le_of_ble_eq_true rfl⟩) ⟨h_blind _ _ _ _ _ _ _, h_recv g t_a0 (by decide) so_13 (q := (RX12, TX12, 51)) rfl, h_pre _ hE hk hX hA hI hR g⟩ rfl rfl hl.1 rfl (lv_room (Nat.le_of_ble_eq_true rfl)) dX12_weights_15 ⟨Nat.le_of_ble_eq_true rfl, Nat.le_of_ble_eq_true rfl⟩) (fun rh5 h5 => ?_)
        obtain ⟨h5, h5p0⟩ := h5
        refine lv_iadd hx hb dX12_weights_18 ?_
        refine lv_topi (fun v6 ev6 => ?_)
        have jv6 : v6.toInt = v1.toInt + rh5.toInt := xi_add ev6 rfl rfl (by omega) (by omega)
        refine lv_istore_n (lv' := [(1, .int v6), (0, .ref a0), (2, .int v2)]) hx hb dX12_weights_19 rfl hl (by decide) rfl (fun ls hl => ?_)
        obtain ⟨v7, ev7⟩ : ∃ z : Int32, z = v2 + 1 := ⟨_, rfl⟩
        have jv7 : v7.toInt = v2.toInt + 1 := xi_add ev7 rfl (by decide) (by omega) (by omega)
        refine lv_iinc (v := v7) (lv' := [(2, .int v7), (1, .int v6), (0, .ref a0)]) hx hb dX12_weights_20 hl (k := 2) rfl (by rw [ev7]; rfl) (by decide) rfl (fun ls hl => ?_)
        refine lv_goto (tgt := 4) hx hb dX12_weights_23 (by decide) ?_
        exact ih4 _ v6 v7 (lv_sub hl [2, 1, 0] rfl) (by omega) (by omega) (fun u hr hok => by have h1 := h3p0 u hr hok; have h2 := h5p0 u hr hok; rw [if_pos (by omega)] at h2; rw [hx4_0 u hr hok, q_sum_go (i := v2.toInt) (i1 := v7.toInt) (by omega) (by omega) (by omega)]; omega) (by omega) (by omega)
  have kc8 : (0 : Int32).toInt = 0 := by decide
  have kc9 : (0 : Int32).toInt = 0 := by decide
  exact loop4_0 _ _ (0) (0) (lv_sub hl [2, 1, 0] rfl) ⟨by decide, by decide⟩ ⟨by decide, by decide⟩ (fun u hr hok => by rw [show (0 : Int32).toInt = 0 by decide, show q_nl u - 0 = q_nl u by omega]; show _ = 0 + q_sum u (-1) (q_nl u).toNat 0; omega) (by omega) (show (8 - (0 : Int)) < (((8 - (0 : Int)).toNat + 1 : Nat) : Int) by omega)
set_option maxHeartbeats 4000000 in
set_option maxRecDepth 100000 in
theorem tX12_drawnByF (l : Launch) (E : tE) (X : tX) (A : Nat → Prop) (z : tZ) (I0 : tI) (L0 : tL) (a0 : Nat) (t_a0 : z.ty a0 = 13) (x : Int32) (x_t : Int) (h_x : x.toInt = x_t) (b_x : 0 ≤ x_t ∧ x_t ≤ 2147483647) : Met l yX12_drawnBy wsX12_drawnBy ({ frames := 4, cells := 0, slots := 0, locals := 256 }) (va_Pc [.ref a0, .int x] (h_P E X A z I0 L0)) (vp_Si (fun r => ((-1) ≤ r.toInt ∧ r.toInt ≤ 6) ∧ (∀ (u : Nat → Int) (y : Int), h_r12 (I0 (h_ad z a0 11)) (I0 (h_ad z a0 10)) (I0 a0 12).toInt u → q_ok u → (∀ k : Nat, k < 8 → (I0 (h_ad z a0 48) k).toInt = if (k : Int) = y then 1 else 0) → r.toInt = q_lot u y (q_nl u).toNat 0 x_t))) 0 0 (fun _ => False) := by
  refine Met.ofW (cc := cX12_drawnBy) (maxL := 4) (ret := (some .int)) (by decide) rfl ?_
  intro pr_ ev_ s m args below meth cd_ s₁ B hml hv
  obtain ⟨rfl, hE, hk, hX, hA, hK, hI, hR, hB0⟩ := hv
  have g : h_G h_so h_fk E A z I0 L0 s s.heap s.heap [] := ⟨hK, va_S.rf, hB0⟩
  have hx := B.exec
  have hb := B.bytes
  have hr := B.returns
  have hts := atoms_spec (ws := wsX12_drawnBy) B.pre
  have hown : s.vm.findClass RX12 = some m.cls := findClass_of_methodNamed B.named
  have hlocks := B.notSynchronized
  have iX12 : ∀ w ∈ u_ws RX12 TX12 51, w ∈ wsX12_drawnBy := by decide +kernel
  have hl := lv_entry ([.ref a0, .int x]) (n := 4) (Nat.le_of_ble_eq_true rfl)
  rw [lg_entry_eq]
  generalize (lg_sl ([.ref a0, .int x]) ++ List.replicate (4 - (lg_sl ([.ref a0, .int x])).length) Slot.unset).toArray = ls at hl ⊢
  have hl : lv_has ls 4 [(0, .ref a0), (1, .int x)] := hl
  obtain ⟨io, rio, tio⟩ := hR.at a0 48 t_a0 (rfl : h_rs 13 48 = some (1348, false)) (by decide)
  have aio : h_ad z a0 48 = io := h_ad.at rio
  refine lv_iload_n hx hb dX12_drawnBy_0 rfl (lv_at hl 1 rfl) ?_
  refine lv_istore_n (lv' := [(2, .int x), (0, .ref a0), (1, .int x)]) hx hb dX12_drawnBy_1 rfl hl (by decide) rfl (fun ls hl => ?_)
  refine lv_iconst (v := 0) hx hb dX12_drawnBy_2 (by decide) ?_
  refine lv_istore_n (lv' := [(3, .int 0), (2, .int x), (0, .ref a0), (1, .int x)]) hx hb dX12_drawnBy_3 rfl hl (by decide) rfl (fun ls hl => ?_)
  have loop4_0 : ∀ (n : Nat) (ls : Array Slot) (v1 v2 : Int32), lv_has ls 4 [(0, .ref a0), (2, .int v1), (3, .int v2)] → ((-20) ≤ v1.toInt ∧ v1.toInt ≤ 2147483647) → (0 ≤ v2.toInt ∧ v2.toInt ≤ 7) → (∀ (u : Nat → Int) (y : Int), h_r12 (I0 (h_ad z a0 11)) (I0 (h_ad z a0 10)) (I0 a0 12).toInt u → q_ok u → (∀ k : Nat, k < 8 → (I0 io k).toInt = if (k : Int) = y then 1 else 0) → q_lot u y (q_nl u).toNat 0 x_t = q_lot u y (q_nl u - v2.toInt).toNat (v2.toInt).toNat v1.toInt) → (8 - v2.toInt) < (n : Int) → W pr_ l ev_ (headSpec wsX12_drawnBy ({ frames := 4, cells := 0, slots := 0, locals := 256 })).room s m ([.ref a0, .int x] : List Value).toArray below meth cd_ s.heap [] 0 0 (MQ below (vp_Si (fun r => ((-1) ≤ r.toInt ∧ r.toInt ≤ 6) ∧ (∀ (u : Nat → Int) (y : Int), h_r12 (I0 (h_ad z a0 11)) (I0 (h_ad z a0 10)) (I0 a0 12).toInt u → q_ok u → (∀ k : Nat, k < 8 → (I0 (h_ad z a0 48) k).toInt = if (k : Int) = y then 1 else 0) → r.toInt = q_lot u y (q_nl u).toNat 0 x_t))) ([.ref a0, .int x] : List Value).toArray s 0 0 (fun _ => False)) (F0 m 4 ls []) := by
    intro n
    induction n with
    | zero => intro ls v1 v2 hl jv1 jv2 hx4_0 hn; exact absurd hn (by omega)
    | succ n ih4 =>
      intro ls v1 v2 hl jv1 jv2 hx4_0 hn
      refine lv_iload_n hx hb dX12_drawnBy_4 rfl (lv_at hl 2 rfl) ?_
      refine lv_aload_n hx hb dX12_drawnBy_5 rfl (lv_at hl 0 rfl) ?_
      refine vp_callSi (W.runV (As := []) (rest := [.int v2]) ⟨hx, hb, hml, hown, hts⟩ (tX12_lotsF l E X A z I0 L0 a0 t_a0) (cwV 0 hts gX12_drawnBy_X12_lots rfl rfl rfl (by decide +kernel) ⟨Nat.le_of_ble_eq_true rfl, Nat.le_of_ble_eq_true rfl⟩) ⟨h_blind _ _ _ _ _ _ _, h_recv g t_a0 (by decide) so_13 (q := (RX12, TX12, 51)) rfl, h_pre _ hE hk hX hA hI hR g⟩ rfl rfl hl.1 rfl (lv_room (Nat.le_of_ble_eq_true rfl)) dX12_drawnBy_6 ⟨Nat.le_of_ble_eq_true rfl, Nat.le_of_ble_eq_true rfl⟩) (fun rh3 h3 => ?_)
      obtain ⟨h3, h3p0⟩ := h3
      refine lv_icmp_ge (tgt := 49) hx hb dX12_drawnBy_9 (by decide) (fun c4 => ?_) (fun c4 => ?_)
      · have ic4 := (xi_le c4 rfl rfl : rh3.toInt ≤ v2.toInt)
        refine lv_iconst (v := (-1)) hx hb dX12_drawnBy_49 (by decide) ?_
        exact W.iret (v := (-1)) hx hb hr (fun t ht hW => ⟨(-1), rfl, ⟨⟨(by decide), (by decide)⟩, (by rw [aio]; exact fun u y hr hok hio => by have h1 := h3p0 u hr hok; rw [hx4_0 u y hr hok hio, q_lot_end (by omega)]; decide)⟩, ht⟩) (fun _ h => by cases h) dX12_drawnBy_50
      · have ic4 := (xi_nle c4 rfl rfl : v2.toInt < rh3.toInt)
        refine lv_aload_n hx hb dX12_drawnBy_12 rfl (lv_at hl 0 rfl) ?_
        refine h_get (v := .ref io) hx hb hts iX12 hown g t_a0 (by decide) so_13 rfl 48 (by decide) (hts (.fieldLink RX12 109 "CapLeagueModel" "isOut" "[Z") (by decide +kernel)) rfl dX12_drawnBy_13 (by show va_rf (z.R a0 48) = _; rw [rio]; rfl) ?_
        refine lv_iload_n hx hb dX12_drawnBy_16 rfl (lv_at hl 2 rfl) ?_
        refine h_zald hx hb g tio (by decide) so_1348 (xi_in (by omega) (by omega)) dX12_drawnBy_17 ?_
        refine lv_topi (fun v5 ev5 => ?_)
        have jv5 := hI.rd io v2.toNatClampNeg tio ev5 (rfl : h_bd 1348 _ = (0, 1))
        have iv5 : (I0 io (v2.toInt).toNat).toInt = v5.toInt := by rw [ev5, h_keq (i := v2) (t := v2.toInt) (k := (v2.toInt).toNat) rfl (by omega) (by omega)]
        refine lv_if_eq (tgt := 24) hx hb dX12_drawnBy_18 (by decide) (fun c6 => ?_) (fun c6 => ?_)
        · have ic6 := (xi_eq c6 rfl (by decide) : v5.toInt = 0)
          refine lv_iload_n hx hb dX12_drawnBy_24 rfl (lv_at hl 1 rfl) ?_
          refine lv_aload_n hx hb dX12_drawnBy_25 rfl (lv_at hl 0 rfl) ?_
          refine lv_iload_n hx hb dX12_drawnBy_26 rfl (lv_at hl 2 rfl) ?_
          refine vp_callSi (W.runV (As := [.int v2]) (rest := [.int v1]) ⟨hx, hb, hml, hown, hts⟩ (tX12_weightF l E X A z I0 L0 a0 t_a0 v2 (v2.toInt) rfl (by omega)) (cwV 1 hts gX12_drawnBy_X12_weight rfl rfl rfl (by decide +kernel) ⟨Nat.le_of_ble_eq_true rfl, Nat.le_of_ble_eq_true rfl⟩) ⟨h_blind _ _ _ _ _ _ _, h_recv g t_a0 (by decide) so_13 (q := (RX12, TX12, 51)) rfl, h_pre _ hE hk hX hA hI hR g⟩ rfl rfl hl.1 rfl (lv_room (Nat.le_of_ble_eq_true rfl)) dX12_drawnBy_27 ⟨Nat.le_of_ble_eq_true rfl, Nat.le_of_ble_eq_true rfl⟩) (fun rh7 h7 => ?_)
          obtain ⟨h7, h7p0⟩ := h7
          refine lv_icmp_ge (tgt := 35) hx hb dX12_drawnBy_30 (by decide) (fun c8 => ?_) (fun c8 => ?_)
          · have ic8 := (xi_le c8 rfl rfl : rh7.toInt ≤ v1.toInt)
            refine lv_iload_n hx hb dX12_drawnBy_35 rfl (lv_at hl 1 rfl) ?_
            refine lv_aload_n hx hb dX12_drawnBy_36 rfl (lv_at hl 0 rfl) ?_
            refine lv_iload_n hx hb dX12_drawnBy_37 rfl (lv_at hl 2 rfl) ?_
            refine vp_callSi (W.runV (As := [.int v2]) (rest := [.int v1]) ⟨hx, hb, hml, hown, hts⟩ (tX12_weightF l E X A z I0 L0 a0 t_a0 v2 (v2.toInt) rfl (by omega)) (cwV 1 hts gX12_drawnBy_X12_weight rfl rfl rfl (by decide +kernel) ⟨Nat.le_of_ble_eq_true rfl, Nat.le_of_ble_eq_true rfl⟩) ⟨h_blind _ _ _ _ _ _ _, h_recv g t_a0 (by decide) so_13 (q := (RX12, TX12, 51)) rfl, h_pre _ hE hk hX hA hI hR g⟩ rfl rfl hl.1 rfl (lv_room (Nat.le_of_ble_eq_true rfl)) dX12_drawnBy_38 ⟨Nat.le_of_ble_eq_true rfl, Nat.le_of_ble_eq_true rfl⟩) (fun rh9 h9 => ?_)
            obtain ⟨h9, h9p0⟩ := h9
            refine lv_isub hx hb dX12_drawnBy_41 ?_
            refine lv_topi (fun v10 ev10 => ?_)
            have jv10 : v10.toInt = v1.toInt - rh9.toInt := xi_sub ev10 rfl rfl (by omega) (by omega)
            refine lv_istore_n (lv' := [(2, .int v10), (0, .ref a0), (3, .int v2)]) hx hb dX12_drawnBy_42 rfl hl (by decide) rfl (fun ls hl => ?_)
            obtain ⟨v11, ev11⟩ : ∃ z : Int32, z = v2 + 1 := ⟨_, rfl⟩
            have jv11 : v11.toInt = v2.toInt + 1 := xi_add ev11 rfl (by decide) (by omega) (by omega)
            refine lv_iinc (v := v11) (lv' := [(3, .int v11), (2, .int v10), (0, .ref a0)]) hx hb dX12_drawnBy_43 hl (k := 2) rfl (by rw [ev11]; rfl) (by decide) rfl (fun ls hl => ?_)
            refine lv_goto (tgt := 4) hx hb dX12_drawnBy_46 (by decide) ?_
            exact ih4 _ v10 v11 (lv_sub hl [2, 1, 0] rfl) (by omega) (by omega) (fun u y hr hok hio => by have h1 := h3p0 u hr hok; have hi := hio (v2.toInt).toNat (by omega); rw [iv5, show (((v2.toInt).toNat : Nat) : Int) = v2.toInt by omega] at hi; have hy : v2.toInt ≠ y := (by intro h9; rw [if_pos h9] at hi; omega); have h2 := h7p0 u hr hok; rw [if_pos (by omega)] at h2; have h3 := h9p0 u hr hok; rw [if_pos (by omega)] at h3; exact (hx4_0 u y hr hok hio).trans (q_lot_miss (by omega) (by omega) (by omega) hy (by omega) (by omega))) (by omega)
          · have ic8 := (xi_nle c8 rfl rfl : v1.toInt < rh7.toInt)
            refine lv_iload_n hx hb dX12_drawnBy_33 rfl (lv_at hl 2 rfl) ?_
            exact W.iret (v := v2) hx hb hr (fun t ht hW => ⟨v2, rfl, ⟨⟨(by omega), (by omega)⟩, (by rw [aio]; exact fun u y hr hok hio => by have h1 := h3p0 u hr hok; have hi := hio (v2.toInt).toNat (by omega); rw [iv5, show (((v2.toInt).toNat : Nat) : Int) = v2.toInt by omega] at hi; have hy : v2.toInt ≠ y := (by intro h9; rw [if_pos h9] at hi; omega); have h2 := h7p0 u hr hok; rw [if_pos (by omega)] at h2; rw [hx4_0 u y hr hok hio, q_lot_hit (by omega) (by omega) hy (by omega)])⟩, ht⟩) (fun _ h => by cases h) dX12_drawnBy_34
        · have ic6 := (xi_ne c6 rfl (by decide) : v5.toInt ≠ 0)
          refine lv_goto (tgt := 43) hx hb dX12_drawnBy_21 (by decide) ?_
          obtain ⟨v12, ev12⟩ : ∃ z : Int32, z = v2 + 1 := ⟨_, rfl⟩
          have jv12 : v12.toInt = v2.toInt + 1 := xi_add ev12 rfl (by decide) (by omega) (by omega)
          refine lv_iinc (v := v12) (lv' := [(3, .int v12), (0, .ref a0), (2, .int v1)]) hx hb dX12_drawnBy_43 hl (k := 2) rfl (by rw [ev12]; rfl) (by decide) rfl (fun ls hl => ?_)
          refine lv_goto (tgt := 4) hx hb dX12_drawnBy_46 (by decide) ?_
          exact ih4 _ v1 v12 (lv_sub hl [1, 2, 0] rfl) (by omega) (by omega) (fun u y hr hok hio => by have h1 := h3p0 u hr hok; have hi := hio (v2.toInt).toNat (by omega); rw [iv5, show (((v2.toInt).toNat : Nat) : Int) = v2.toInt by omega] at hi; have hy : v2.toInt = y := (by by_cases h9 : v2.toInt = y; exact h9; rw [if_neg h9] at hi; omega); exact (hx4_0 u y hr hok hio).trans (q_lot_skip (by omega) (by omega) (by omega) hy)) (by omega)
  have kc13 : (0 : Int32).toInt = 0 := by decide
  exact loop4_0 _ _ x (0) (lv_sub hl [2, 1, 0] rfl) (by rw [h_x]; omega) ⟨by decide, by decide⟩ (fun u y hr hok hio => by rw [show (0 : Int32).toInt = 0 by decide, show q_nl u - 0 = q_nl u by omega, h_x]; rfl) (show (8 - (0 : Int)) < (((8 - (0 : Int)).toNat + 1 : Nat) : Int) by omega)

