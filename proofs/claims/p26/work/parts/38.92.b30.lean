set_option maxHeartbeats 4000000 in
set_option maxRecDepth 100000 in
theorem tX2_rankOfB (l : Launch) (E : tE) (X : tX) (A : Nat → Prop) (z : tZ) (I0 : tI) (L0 : tL) (a0 : Nat) (t_a0 : z.ty a0 = 3) (c : Int32) (c_t : Int) (h_c : c.toInt = c_t) : Met l yX2_rankOf wsX2_rankOf ({ frames := 1, cells := 0, slots := 0, locals := 64 }) (va_Pc [.ref a0, .int c] (h_P E X A z I0 L0)) (vp_Si (fun r => ((-1) ≤ r.toInt ∧ r.toInt ≤ 7) ∧ ((r.toInt = -1 ∧ ∀ k : Nat, k < 8 → ((I0 (h_ad z a0 0)) k).toInt ≠ c_t) ∨ q_at1 (I0 (h_ad z a0 0)) c_t r.toInt))) 0 0 (fun _ => False) := by
  refine Met.ofW (cc := cX2_rankOf) (maxL := 3) (ret := (some .int)) (by decide) rfl ?_
  intro pr_ ev_ s m args below meth cd_ s₁ B hml hv
  obtain ⟨rfl, hE, hk, hX, hA, hK, hI, hR, hB0⟩ := hv
  have g : h_G h_so h_fk E A z I0 L0 s s.heap s.heap [] := ⟨hK, va_S.rf, hB0⟩
  have hx := B.exec
  have hb := B.bytes
  have hr := B.returns
  have hts := atoms_spec (ws := wsX2_rankOf) B.pre
  have hown : s.vm.findClass RX2 = some m.cls := findClass_of_methodNamed B.named
  have hlocks := B.notSynchronized
  have iX2 : ∀ w ∈ u_ws RX2 TX2 7, w ∈ wsX2_rankOf := by decide +kernel
  have hl := lv_entry ([.ref a0, .int c]) (n := 3) (Nat.le_of_ble_eq_true rfl)
  rw [lg_entry_eq]
  generalize (lg_sl ([.ref a0, .int c]) ++ List.replicate (3 - (lg_sl ([.ref a0, .int c])).length) Slot.unset).toArray = ls at hl ⊢
  have hl : lv_has ls 3 [(0, .ref a0), (1, .int c)] := hl
  have b_c : -2147483648 ≤ c_t ∧ c_t ≤ 2147483647 := h_c ▸ ⟨xi_lo c, Int.le_of_lt_add_one (xi_hi c)⟩
  obtain ⟨rk, rrk, trk⟩ := hR.at a0 0 t_a0 (rfl : h_rs 3 0 = some (300, false)) (by decide)
  have ark : h_ad z a0 0 = rk := h_ad.at rrk
  refine lv_iconst (v := 0) hx hb dX2_rankOf_0 (by decide) ?_
  refine lv_istore_n (lv' := [(2, .int 0), (0, .ref a0), (1, .int c)]) hx hb dX2_rankOf_1 rfl hl (by decide) rfl (fun ls hl => ?_)
  have loop2_0 : ∀ (n : Nat) (ls : Array Slot) (v1 : Int32), lv_has ls 3 [(0, .ref a0), (1, .int c), (2, .int v1)] → (0 ≤ v1.toInt ∧ v1.toInt ≤ 8) → (∀ k : Nat, (k : Int) < v1.toInt → (I0 rk k).toInt ≠ c_t) → (8 - v1.toInt) < (n : Int) → W pr_ l ev_ (headSpec wsX2_rankOf ({ frames := 1, cells := 0, slots := 0, locals := 64 })).room s m ([.ref a0, .int c] : List Value).toArray below meth cd_ s.heap [] 0 0 (MQ below (vp_Si (fun r => ((-1) ≤ r.toInt ∧ r.toInt ≤ 7) ∧ ((r.toInt = -1 ∧ ∀ k : Nat, k < 8 → ((I0 (h_ad z a0 0)) k).toInt ≠ c_t) ∨ q_at1 (I0 (h_ad z a0 0)) c_t r.toInt))) ([.ref a0, .int c] : List Value).toArray s 0 0 (fun _ => False)) (F0 m 2 ls []) := by
    intro n
    induction n with
    | zero => intro ls v1 hl jv1 hx2_0 hn; exact absurd hn (by omega)
    | succ n ih2 =>
      intro ls v1 hl jv1 hx2_0 hn
      refine lv_iload_n hx hb dX2_rankOf_2 rfl (lv_at hl 2 rfl) ?_
      refine lv_bipush (v := 8) hx hb dX2_rankOf_3 (by decide) ?_
      refine lv_icmp_ge (tgt := 26) hx hb dX2_rankOf_5 (by decide) (fun c2 => ?_) (fun c2 => ?_)
      · have ic2 := (xi_le c2 (by decide) rfl : 8 ≤ v1.toInt)
        refine lv_iconst (v := (-1)) hx hb dX2_rankOf_26 (by decide) ?_
        exact W.iret (v := (-1)) hx hb hr (fun t ht hW => ⟨(-1), rfl, ⟨⟨(by decide), (by decide)⟩, (Or.inl ⟨by decide, by rw [ark]; exact fun k hk => hx2_0 k (by omega)⟩)⟩, ht⟩) (fun _ h => by cases h) dX2_rankOf_27
      · have ic2 := (xi_nle c2 (by decide) rfl : v1.toInt < 8)
        refine lv_aload_n hx hb dX2_rankOf_8 rfl (lv_at hl 0 rfl) ?_
        refine h_get (v := .ref rk) hx hb hts iX2 hown g t_a0 (by decide) so_3 rfl 0 (by decide) (hts (.fieldLink RX2 9 "CapLeague$Draft" "ranks" "[I") (by decide +kernel)) rfl dX2_rankOf_9 (by show va_rf (z.R a0 0) = _; rw [rrk]; rfl) ?_
        refine lv_iload_n hx hb dX2_rankOf_12 rfl (lv_at hl 2 rfl) ?_
        refine h_ald hx hb g trk (by decide) so_300 (xi_in (by omega) (by omega)) dX2_rankOf_13 ?_
        refine lv_topi (fun v3 ev3 => ?_)
        have jv3 := hI.rd rk v1.toNatClampNeg trk ev3 (rfl : h_bd 300 _ = ((-2147483648), 2147483647))
        refine lv_iload_n hx hb dX2_rankOf_14 rfl (lv_at hl 1 rfl) ?_
        refine lv_icmp_ne (tgt := 20) hx hb dX2_rankOf_15 (by decide) (fun c4 => ?_) (fun c4 => ?_)
        · have ic4 := (xi_ne c4 rfl h_c : v3.toInt ≠ c_t)
          obtain ⟨v5, ev5⟩ : ∃ z : Int32, z = v1 + 1 := ⟨_, rfl⟩
          have jv5 : v5.toInt = v1.toInt + 1 := xi_add ev5 rfl (by decide) (by omega) (by omega)
          refine lv_iinc (v := v5) (lv' := [(2, .int v5), (0, .ref a0), (1, .int c)]) hx hb dX2_rankOf_20 hl (k := 2) rfl (by rw [ev5]; rfl) (by decide) rfl (fun ls hl => ?_)
          refine lv_goto (tgt := 2) hx hb dX2_rankOf_23 (by decide) ?_
          exact ih2 _ v5 (lv_sub hl [1, 2, 0] rfl) (by omega) (q_fst hx2_0 ev3 rfl (by omega) (by omega) (by omega)) (by omega)
        · have ic4 := (xi_eq c4 rfl h_c : v3.toInt = c_t)
          refine lv_iload_n hx hb dX2_rankOf_18 rfl (lv_at hl 2 rfl) ?_
          exact W.iret (v := v1) hx hb hr (fun t ht hW => ⟨v1, rfl, ⟨⟨(by omega), (by omega)⟩, (Or.inr ⟨by omega, by rw [ark, ← (h_keq rfl (by omega) (by omega) : v1.toNatClampNeg = v1.toInt.toNat), ← ev3]; omega, by rw [ark]; exact hx2_0⟩)⟩, ht⟩) (fun _ h => by cases h) dX2_rankOf_19
  have kc6 : (0 : Int32).toInt = 0 := by decide
  exact loop2_0 _ _ (0) (lv_sub hl [1, 2, 0] rfl) ⟨by decide, by decide⟩ (fun k hk => absurd hk (by have h9 : (0 : Int32).toInt = 0 := (by decide); omega)) (show (8 - (0 : Int)) < (((8 - (0 : Int)).toNat + 1 : Nat) : Int) by omega)
set_option maxHeartbeats 4000000 in
set_option maxRecDepth 100000 in
theorem tX2_findChanceB (l : Launch) (E : tE) (X : tX) (A : Nat → Prop) (z : tZ) (I0 : tI) (L0 : tL) (a0 : Nat) (t_a0 : z.ty a0 = 3) (c : Int32) (c_t : Int) (h_c : c.toInt = c_t) (k : Int32) (k_t : Int) (h_k : k.toInt = k_t) (n0 : Nat) (t_n0 : z.ty n0 = 6) (u_ : Nat → Int) (hu : h_lw I0 n0 (h_ad z n0 0) (h_ad z n0 1) u_) (hok : q_ok u_) (hkk : 0 ≤ k_t ∧ k_t ≤ 1) (hex : ∃ j : Nat, j < 8 ∧ ((I0 (h_ad z a0 0)) j).toInt = c_t) : Met l yX2_findChance wsX2_findChance ({ frames := 4, cells := 0, slots := 0, locals := 256 }) (va_Pc [.ref a0, .int c, .int k, .ref n0] (h_P E X A z I0 L0)) (va_Qv (fun (q1 : tI × tL) => h_I z q1.1 ∧ h_F [] z I0 q1.1 ∧ (∃ rk : Int, q_at1 (I0 (h_ad z a0 0)) c_t rk ∧ q_red (q_chN u_ rk k_t) (q_chD u_ rk k_t) (q1.2 a0 5).toInt (q1.2 a0 6).toInt)) (fun (q1 : tI × tL) t => h_B E A z q1.1 q1.2 t) A) 0 0 A := by
  refine Met.ofW (cc := cX2_findChance) (maxL := 5) (ret := none) (by decide) rfl ?_
  intro pr_ ev_ s m args below meth cd_ s₁ B hml hv
  obtain ⟨rfl, hE, hk, hX, hA, hK, hI, hR, hB0⟩ := hv
  have g : h_G h_so h_fk E A z I0 L0 s s.heap s.heap [] := ⟨hK, va_S.rf, hB0⟩
  have hF : h_F [] z I0 I0 := h_F.rf
  have hx := B.exec
  have hb := B.bytes
  have hr := B.returns
  have hts := atoms_spec (ws := wsX2_findChance) B.pre
  have hown : s.vm.findClass RX2 = some m.cls := findClass_of_methodNamed B.named
  have hlocks := B.notSynchronized
  have iX2 : ∀ w ∈ u_ws RX2 TX2 7, w ∈ wsX2_findChance := by decide +kernel
  have hl := lv_entry ([.ref a0, .int c, .int k, .ref n0]) (n := 5) (Nat.le_of_ble_eq_true rfl)
  rw [lg_entry_eq]
  generalize (lg_sl ([.ref a0, .int c, .int k, .ref n0]) ++ List.replicate (5 - (lg_sl ([.ref a0, .int c, .int k, .ref n0])).length) Slot.unset).toArray = ls at hl ⊢
  have hl : lv_has ls 5 [(0, .ref a0), (1, .int c), (2, .int k), (3, .ref n0)] := hl
  have b_c : -2147483648 ≤ c_t ∧ c_t ≤ 2147483647 := h_c ▸ ⟨xi_lo c, Int.le_of_lt_add_one (xi_hi c)⟩
  have b_k : -2147483648 ≤ k_t ∧ k_t ≤ 2147483647 := h_k ▸ ⟨xi_lo k, Int.le_of_lt_add_one (xi_hi k)⟩
  obtain ⟨rk, rrk, trk⟩ := hR.at a0 0 t_a0 (rfl : h_rs 3 0 = some (300, false)) (by decide)
  have ark : h_ad z a0 0 = rk := h_ad.at rrk
  have nb := q_nl_b hok
  rw [ark] at hex
  refine lv_aload_n hx hb dX2_findChance_0 rfl (lv_at hl 0 rfl) ?_
  refine lv_iload_n hx hb dX2_findChance_1 rfl (lv_at hl 1 rfl) ?_
  refine vp_callSi (W.runV (As := [.int c]) (rest := []) ⟨hx, hb, hml, hown, hts⟩ (tX2_rankOfB l E X A z I0 L0 a0 t_a0 c (c_t) h_c) (cwV 1 hts gX2_findChance_X2_rankOf rfl rfl rfl (by decide +kernel) ⟨Nat.le_of_ble_eq_true rfl, Nat.le_of_ble_eq_true rfl⟩) ⟨h_blind _ _ _ _ _ _ _, h_recv g t_a0 (by decide) so_3 (q := (RX2, TX2, 7)) rfl, h_pre _ hE hk hX hA hI hR g⟩ rfl rfl hl.1 rfl (lv_room (Nat.le_of_ble_eq_true rfl)) dX2_findChance_2 ⟨Nat.le_of_ble_eq_true rfl, Nat.le_of_ble_eq_true rfl⟩) (fun rh1 h1 => ?_)
  obtain ⟨h1, h1p0⟩ := h1
  rw [ark] at h1p0
  have rkf : q_at1 (I0 rk) c_t rh1.toInt := by
    rcases h1p0 with q | q
    · obtain ⟨j, j1, j2⟩ := hex
      exact absurd j2 (q.2 j j1)
    · exact q
  have brk := rkf.1
  refine lv_istore (lv' := [(4, .int rh1), (0, .ref a0), (1, .int c), (2, .int k), (3, .ref n0)]) hx hb dX2_findChance_5 hl (by decide) rfl (fun ls hl => ?_)
  refine lv_aload_n hx hb dX2_findChance_7 rfl (lv_at hl 1 rfl) ?_
  refine lv_lconst (v := 0) hx hb dX2_findChance_8 (by decide) ?_
  refine h_putL (ty := .long) (v := 0) hx hb hts iX2 tyX2 tyX2_ok nmX2 hown g t_a0 (by decide) so_3 rfl 5 (by decide) rfl (hts (.fieldLink RX2 60 "CapLeague$Draft" "chanceAbove" "J") (by decide +kernel)) rfl rfl (by decide +kernel) rfl rfl dX2_findChance_9 (fun L2 H locs eL2 g => ?_)
  have k5L2 : (L2 a0 5).toInt = 0 := by rw [eL2, h_up_eq]; decide
  refine lv_aload_n hx hb dX2_findChance_12 rfl (lv_at hl 1 rfl) ?_
  refine lv_lconst (v := 1) hx hb dX2_findChance_13 (by decide) ?_
  refine h_putL (ty := .long) (v := 1) hx hb hts iX2 tyX2 tyX2_ok nmX2 hown g t_a0 (by decide) so_3 rfl 6 (by decide) rfl (hts (.fieldLink RX2 27 "CapLeague$Draft" "chanceBelow" "J") (by decide +kernel)) rfl rfl (by decide +kernel) rfl rfl dX2_findChance_14 (fun L3 H locs eL3 g => ?_)
  have k6L3 : (L3 a0 6).toInt = 1 := by rw [eL3, h_up_eq]; decide
  have k5L3 : (L3 a0 5).toInt = 0 := by rw [eL3, h_up_at (by decide)]; exact k5L2
  refine lv_aload_n hx hb dX2_findChance_17 rfl (lv_at hl 4 rfl) ?_
  refine vp_callSi (W.runV (As := []) (rest := []) ⟨hx, hb, hml, hown, hts⟩ (tX5_lotClubsF l E X A z I0 L3 n0 t_n0) (cwV 0 hts gX2_findChance_X5_lotClubs rfl rfl rfl (by decide +kernel) ⟨Nat.le_of_ble_eq_true rfl, Nat.le_of_ble_eq_true rfl⟩) ⟨h_blind _ _ _ _ _ _ _, h_recv g t_n0 (by decide) so_6 (q := (RX5, TX5, 3)) rfl, h_pre _ hE hk hX hA hI hR g⟩ rfl rfl hl.1 rfl (lv_room (Nat.le_of_ble_eq_true rfl)) dX2_findChance_18 ⟨Nat.le_of_ble_eq_true rfl, Nat.le_of_ble_eq_true rfl⟩) (fun rh4 h4 => ?_)
  obtain ⟨h4, h4p0⟩ := h4
  have nlrh4 : rh4.toInt = q_nl u_ := h4p0 u_ hu
  refine lv_if_ne (tgt := 42) hx hb dX2_findChance_21 (by decide) (fun c5 => ?_) (fun c5 => ?_)
  · have ic5 := (xi_ne c5 rfl (by decide) : rh4.toInt ≠ 0)
    refine lv_iload hx hb dX2_findChance_42 (lv_at hl 0 rfl) ?_
    refine lv_iconst (v := (-1)) hx hb dX2_findChance_44 (by decide) ?_
    refine lv_icmp_eq (tgt := 95) hx hb dX2_findChance_45 (by decide) (fun h => absurd (xi_eq h rfl (by decide) : rh1.toInt = (-1)) (by omega)) (fun c6 => ?_)
    have ic6 := (xi_ne c6 rfl (by decide) : rh1.toInt ≠ (-1))
    refine lv_iload hx hb dX2_findChance_48 (lv_at hl 0 rfl) ?_
    refine lv_aload_n hx hb dX2_findChance_50 rfl (lv_at hl 4 rfl) ?_
    refine vp_callSi (W.runV (As := []) (rest := [.int rh1]) ⟨hx, hb, hml, hown, hts⟩ (tX5_lotClubsF l E X A z I0 L3 n0 t_n0) (cwV 0 hts gX2_findChance_X5_lotClubs rfl rfl rfl (by decide +kernel) ⟨Nat.le_of_ble_eq_true rfl, Nat.le_of_ble_eq_true rfl⟩) ⟨h_blind _ _ _ _ _ _ _, h_recv g t_n0 (by decide) so_6 (q := (RX5, TX5, 3)) rfl, h_pre _ hE hk hX hA hI hR g⟩ rfl rfl hl.1 rfl (lv_room (Nat.le_of_ble_eq_true rfl)) dX2_findChance_51 ⟨Nat.le_of_ble_eq_true rfl, Nat.le_of_ble_eq_true rfl⟩) (fun rh7 h7 => ?_)
    obtain ⟨h7, h7p0⟩ := h7
    have nlrh7 : rh7.toInt = q_nl u_ := h7p0 u_ hu
    refine lv_icmp_ge (tgt := 95) hx hb dX2_findChance_54 (by decide) (fun c8 => ?_) (fun c8 => ?_)
    · have ic8 := (xi_le c8 rfl rfl : rh7.toInt ≤ rh1.toInt)
      have hS := g.2.1
      exact W.vret hx hb hr (fun t ht hW => ⟨⟨(I0, L3), rfl, ⟨hI, hF, (⟨rh1.toInt, by rw [ark]; exact rkf, q_chx k5L3 k6L3 (by omega)⟩)⟩, h_ret g ht⟩, hS.F ht⟩) hS.2.2 dX2_findChance_95
    · have ic8 := (xi_nle c8 rfl rfl : rh1.toInt < rh7.toInt)
      refine lv_iload_n hx hb dX2_findChance_57 rfl (lv_at hl 3 rfl) ?_
      refine lv_if_ne (tgt := 84) hx hb dX2_findChance_58 (by decide) (fun c9 => ?_) (fun c9 => ?_)
      · have ic9 := (xi_ne c9 h_k (by decide) : k_t ≠ 0)
        refine lv_aload_n hx hb dX2_findChance_84 rfl (lv_at hl 1 rfl) ?_
        refine lv_iload hx hb dX2_findChance_85 (lv_at hl 0 rfl) ?_
        refine lv_aload_n hx hb dX2_findChance_87 rfl (lv_at hl 4 rfl) ?_
        refine va_callv (va_runV (As := [.int rh1, .ref n0]) (rest := []) ⟨hx, hb, hml, hown, hts⟩ (tX2_findSecondB l E X A z I0 L3 a0 t_a0 rh1 (rh1.toInt) rfl n0 t_n0 (u_) (hu) (hok) ((by omega)) (⟨by omega, by omega⟩)) (cwV 2 hts gX2_findChance_X2_findSecondChance rfl rfl rfl (by decide +kernel) ⟨Nat.le_of_ble_eq_true rfl, Nat.le_of_ble_eq_true rfl⟩) ⟨h_blind _ _ _ _ _ _ _, h_recv g t_a0 (by decide) so_3 (q := (RX2, TX2, 7)) rfl, h_pre _ hE hk hX hA hI hR g⟩ rfl rfl hl.1 rfl (lv_room (Nat.le_of_ble_eq_true rfl)) dX2_findChance_88 ⟨Nat.le_of_ble_eq_true rfl, Nat.le_of_ble_eq_true rfl⟩) g.2.1 (fun q _ h => h) (fun q h => h) (fun uh10 t H1 locs ht hvm h10 hB hz1 hk1 hS => ?_)
        obtain ⟨I11, L12⟩ := uh10
        obtain ⟨hI, fh10, h10⟩ := h10
        replace g := h_after g hB ht hS
        generalize H1 = H at g
        clear hB hk1 hz1 ht hvm hS
        have hF := hF.call fh10 rfl
        have h10p0 := h10
        have fsk : (L12 a0 5).toInt = q_cs (q_wgt u_) (q_al u_) rh1.toInt.toNat (q_nl u_).toNat * q_wgt u_ rh1.toInt.toNat ∧ (L12 a0 6).toInt = q_al u_ * q_cp (q_wgt u_) (q_al u_) rh1.toInt.toNat (q_nl u_).toNat := h10p0
        have obw := q_al_b hok (j := rh1.toInt.toNat) (by omega)
        have hpw := q_p120 (q_nl u_).toNat (by omega)
        have ct := q_ct_b hok (r := rh1.toInt.toNat) (n := (q_nl u_).toNat) (by omega) (q_nl u_).toNat (Nat.le_refl _)
        rw [q_ct_cs] at ct
        have cp := q_cp_b hok (r := rh1.toInt.toNat) (q_nl u_).toNat (by omega)
        have cN := q_mul_n (x := q_cs (q_wgt u_) (q_al u_) rh1.toInt.toNat (q_nl u_).toNat) (y := q_wgt u_ rh1.toInt.toNat) (c := 358318080000000) (d := 20) (by omega) (by omega) (by omega) (by omega)
        have cD := q_mul_b (x := q_al u_) (y := q_cp (q_wgt u_) (q_al u_) rh1.toInt.toNat (q_nl u_).toNat) (c := 120) (d := 2985984000000) (by omega) (by omega) (by omega) (by omega)
        refine lv_aload_n hx hb dX2_findChance_91 rfl (lv_at hl 1 rfl) ?_
        refine va_callv (va_runV (As := []) (rest := []) ⟨hx, hb, hml, hown, hts⟩ (tX2_cutB l E X A z I11 L12 a0 t_a0 (⟨by rw [fsk.1]; omega, by rw [fsk.1]; omega⟩) (⟨by rw [fsk.2]; omega, by rw [fsk.2]; omega⟩)) (cwV 0 hts gX2_findChance_X2_cutFraction rfl rfl rfl (by decide +kernel) ⟨Nat.le_of_ble_eq_true rfl, Nat.le_of_ble_eq_true rfl⟩) ⟨h_blind _ _ _ _ _ _ _, h_recv g t_a0 (by decide) so_3 (q := (RX2, TX2, 7)) rfl, h_pre _ hE hk hX hA hI hR g⟩ rfl rfl hl.1 rfl (lv_room (Nat.le_of_ble_eq_true rfl)) dX2_findChance_92 ⟨Nat.le_of_ble_eq_true rfl, Nat.le_of_ble_eq_true rfl⟩) g.2.1 (fun q _ h => h) (fun q h => h) (fun uh13 t H1 locs ht hvm h13 hB hz1 hk1 hS => ?_)
        obtain ⟨I14, L15⟩ := uh13
        obtain ⟨hI, fh13, h13⟩ := h13
        replace g := h_after g hB ht hS
        generalize H1 = H at g
        clear hB hk1 hz1 ht hvm hS
        have hF := hF.call fh13 rfl
        have h13p0 := h13
        have hS := g.2.1
        exact W.vret hx hb hr (fun t ht hW => ⟨⟨(I14, L15), rfl, ⟨hI, hF, (by obtain ⟨gg, g1, g2, g3, g4⟩ := h13p0; have hn := q_ch_2 (u := u_) (c := rh1.toInt) (k := k_t) (by omega) (by omega) (by omega); exact ⟨rh1.toInt, by rw [ark]; exact rkf, q_red.of (by rw [fsk.1]; omega) (by rw [fsk.2]; omega) g1 g2 g3 g4 (by rw [hn.1, hn.2, fsk.1, fsk.2])⟩)⟩, h_ret g ht⟩, hS.F ht⟩) hS.2.2 dX2_findChance_95
      · have ic9 := (xi_eq c9 h_k (by decide) : k_t = 0)
        refine lv_aload_n hx hb dX2_findChance_61 rfl (lv_at hl 1 rfl) ?_
        refine lv_aload_n hx hb dX2_findChance_62 rfl (lv_at hl 4 rfl) ?_
        refine lv_iload hx hb dX2_findChance_63 (lv_at hl 0 rfl) ?_
        refine vp_callSi (W.runV (As := [.int rh1]) (rest := [.ref a0]) ⟨hx, hb, hml, hown, hts⟩ (tX5_weightB l E X A z I0 L3 n0 t_n0 rh1 (rh1.toInt) rfl) (cwV 1 hts gX2_findChance_X5_weight rfl rfl rfl (by decide +kernel) ⟨Nat.le_of_ble_eq_true rfl, Nat.le_of_ble_eq_true rfl⟩) ⟨h_blind _ _ _ _ _ _ _, h_recv g t_n0 (by decide) so_6 (q := (RX5, TX5, 3)) rfl, h_pre _ hE hk hX hA hI hR g⟩ rfl rfl hl.1 rfl (lv_room (Nat.le_of_ble_eq_true rfl)) dX2_findChance_65 ⟨Nat.le_of_ble_eq_true rfl, Nat.le_of_ble_eq_true rfl⟩) (fun rh16 h16 => ?_)
        have h16p0 := h16
        have jrh16 : -2147483648 ≤ rh16.toInt ∧ rh16.toInt ≤ 2147483647 := ⟨xi_lo _, Int.le_of_lt_add_one (xi_hi _)⟩
        have mw : rh16.toInt = q_wgt u_ (rh1.toInt).toNat := h16p0 u_ hu (by omega) (by omega)
        have obw := q_al_b hok (j := (rh1.toInt).toNat) (by omega)
        have bw : 1 ≤ rh16.toInt ∧ rh16.toInt ≤ 20 := by omega
        refine lv_i2l hx hb dX2_findChance_68 rfl ?_
        refine lv_topl (fun v17 ev17 => ?_)
        have jv17 : v17.toInt = rh16.toInt := by rw [ev17, xi_64]
        refine h_putL (ty := .long) (v := v17) hx hb hts iX2 tyX2 tyX2_ok nmX2 hown g t_a0 (by decide) so_3 rfl 5 (by decide) rfl (hts (.fieldLink RX2 60 "CapLeague$Draft" "chanceAbove" "J") (by decide +kernel)) rfl rfl (by decide +kernel) rfl rfl dX2_findChance_69 (fun L18 H locs eL18 g => ?_)
        have k5L18 : (L18 a0 5).toInt = rh16.toInt := by rw [eL18, h_up_eq]; exact jv17
        have k6L18 : (L18 a0 6).toInt = 1 := by rw [eL18, h_up_at (by decide)]; exact k6L3
        refine lv_aload_n hx hb dX2_findChance_72 rfl (lv_at hl 1 rfl) ?_
        refine lv_aload_n hx hb dX2_findChance_73 rfl (lv_at hl 4 rfl) ?_
        refine vp_callSi (W.runV (As := []) (rest := [.ref a0]) ⟨hx, hb, hml, hown, hts⟩ (tX5_weightSumB l E X A z I0 L18 n0 t_n0 (u_) (hu) (hok) ((by omega))) (cwV 0 hts gX2_findChance_X5_weightSum rfl rfl rfl (by decide +kernel) ⟨Nat.le_of_ble_eq_true rfl, Nat.le_of_ble_eq_true rfl⟩) ⟨h_blind _ _ _ _ _ _ _, h_recv g t_n0 (by decide) so_6 (q := (RX5, TX5, 3)) rfl, h_pre _ hE hk hX hA hI hR g⟩ rfl rfl hl.1 rfl (lv_room (Nat.le_of_ble_eq_true rfl)) dX2_findChance_74 ⟨Nat.le_of_ble_eq_true rfl, Nat.le_of_ble_eq_true rfl⟩) (fun rh19 h19 => ?_)
        have h19p0 := h19
        have jrh19 : -2147483648 ≤ rh19.toInt ∧ rh19.toInt ≤ 2147483647 := ⟨xi_lo _, Int.le_of_lt_add_one (xi_hi _)⟩
        have al : rh19.toInt = q_al u_ := h19p0
        have bal : 2 ≤ rh19.toInt ∧ rh19.toInt ≤ 120 := by omega
        refine lv_i2l hx hb dX2_findChance_77 rfl ?_
        refine lv_topl (fun v20 ev20 => ?_)
        have jv20 : v20.toInt = rh19.toInt := by rw [ev20, xi_64]
        refine h_putL (ty := .long) (v := v20) hx hb hts iX2 tyX2 tyX2_ok nmX2 hown g t_a0 (by decide) so_3 rfl 6 (by decide) rfl (hts (.fieldLink RX2 27 "CapLeague$Draft" "chanceBelow" "J") (by decide +kernel)) rfl rfl (by decide +kernel) rfl rfl dX2_findChance_78 (fun L21 H locs eL21 g => ?_)
        have k6L21 : (L21 a0 6).toInt = rh19.toInt := by rw [eL21, h_up_eq]; exact jv20
        have k5L21 : (L21 a0 5).toInt = rh16.toInt := by rw [eL21, h_up_at (by decide)]; exact k5L18
        refine lv_goto (tgt := 91) hx hb dX2_findChance_81 (by decide) ?_
        refine lv_aload_n hx hb dX2_findChance_91 rfl (lv_at hl 1 rfl) ?_
        refine va_callv (va_runV (As := []) (rest := []) ⟨hx, hb, hml, hown, hts⟩ (tX2_cutB l E X A z I0 L21 a0 t_a0 (⟨by rw [k5L21]; omega, by rw [k5L21]; omega⟩) (⟨by rw [k6L21]; omega, by rw [k6L21]; omega⟩)) (cwV 0 hts gX2_findChance_X2_cutFraction rfl rfl rfl (by decide +kernel) ⟨Nat.le_of_ble_eq_true rfl, Nat.le_of_ble_eq_true rfl⟩) ⟨h_blind _ _ _ _ _ _ _, h_recv g t_a0 (by decide) so_3 (q := (RX2, TX2, 7)) rfl, h_pre _ hE hk hX hA hI hR g⟩ rfl rfl hl.1 rfl (lv_room (Nat.le_of_ble_eq_true rfl)) dX2_findChance_92 ⟨Nat.le_of_ble_eq_true rfl, Nat.le_of_ble_eq_true rfl⟩) g.2.1 (fun q _ h => h) (fun q h => h) (fun uh22 t H1 locs ht hvm h22 hB hz1 hk1 hS => ?_)
        obtain ⟨I23, L24⟩ := uh22
        obtain ⟨hI, fh22, h22⟩ := h22
        replace g := h_after g hB ht hS
        generalize H1 = H at g
        clear hB hk1 hz1 ht hvm hS
        have hF := hF.call fh22 rfl
        have h22p0 := h22
        have hS := g.2.1
        exact W.vret hx hb hr (fun t ht hW => ⟨⟨(I23, L24), rfl, ⟨hI, hF, (by obtain ⟨gg, g1, g2, g3, g4⟩ := h22p0; have hn := q_ch_1 (u := u_) (c := rh1.toInt) (k := k_t) (by omega) (by omega) (by omega); exact ⟨rh1.toInt, by rw [ark]; exact rkf, q_red.of (by rw [k5L21]; omega) (by rw [k6L21]; omega) g1 g2 g3 g4 (by rw [hn.1, hn.2, k5L21, k6L21]; rw [mw, al])⟩)⟩, h_ret g ht⟩, hS.F ht⟩) hS.2.2 dX2_findChance_95
  · have ic5 := (xi_eq c5 rfl (by decide) : rh4.toInt = 0)
    refine lv_aload_n hx hb dX2_findChance_24 rfl (lv_at hl 1 rfl) ?_
    refine lv_iload hx hb dX2_findChance_25 (lv_at hl 0 rfl) ?_
    refine lv_iload_n hx hb dX2_findChance_27 rfl (lv_at hl 3 rfl) ?_
    refine lv_icmp_ne (tgt := 35) hx hb dX2_findChance_28 (by decide) (fun c25 => ?_) (fun c25 => ?_)
    · have ic25 := (xi_ne c25 rfl h_k : rh1.toInt ≠ k_t)
      refine lv_lconst (v := 0) hx hb dX2_findChance_35 (by decide) ?_
      refine h_putL (ty := .long) (v := 0) hx hb hts iX2 tyX2 tyX2_ok nmX2 hown g t_a0 (by decide) so_3 rfl 5 (by decide) rfl (hts (.fieldLink RX2 60 "CapLeague$Draft" "chanceAbove" "J") (by decide +kernel)) rfl rfl (by decide +kernel) rfl rfl dX2_findChance_36 (fun L26 H locs eL26 g => ?_)
      have k5L26 : (L26 a0 5).toInt = 0 := by rw [eL26, h_up_eq]; decide
      have k6L26 : (L26 a0 6).toInt = 1 := by rw [eL26, h_up_at (by decide)]; exact k6L3
      refine lv_goto (tgt := 95) hx hb dX2_findChance_39 (by decide) ?_
      have hS := g.2.1
      exact W.vret hx hb hr (fun t ht hW => ⟨⟨(I0, L26), rfl, ⟨hI, hF, (⟨rh1.toInt, by rw [ark]; exact rkf, q_chx k5L26 k6L26 (by omega)⟩)⟩, h_ret g ht⟩, hS.F ht⟩) hS.2.2 dX2_findChance_95
    · have ic25 := (xi_eq c25 rfl h_k : rh1.toInt = k_t)
      refine lv_lconst (v := 1) hx hb dX2_findChance_31 (by decide) ?_
      refine lv_goto (tgt := 36) hx hb dX2_findChance_32 (by decide) ?_
      refine h_putL (ty := .long) (v := 1) hx hb hts iX2 tyX2 tyX2_ok nmX2 hown g t_a0 (by decide) so_3 rfl 5 (by decide) rfl (hts (.fieldLink RX2 60 "CapLeague$Draft" "chanceAbove" "J") (by decide +kernel)) rfl rfl (by decide +kernel) rfl rfl dX2_findChance_36 (fun L27 H locs eL27 g => ?_)
      have k5L27 : (L27 a0 5).toInt = 1 := by rw [eL27, h_up_eq]; decide
      have k6L27 : (L27 a0 6).toInt = 1 := by rw [eL27, h_up_at (by decide)]; exact k6L3
      refine lv_goto (tgt := 95) hx hb dX2_findChance_39 (by decide) ?_
      have hS := g.2.1
      exact W.vret hx hb hr (fun t ht hW => ⟨⟨(I0, L27), rfl, ⟨hI, hF, (⟨rh1.toInt, by rw [ark]; exact rkf, q_chx k5L27 k6L27 (by omega)⟩)⟩, h_ret g ht⟩, hS.F ht⟩) hS.2.2 dX2_findChance_95

