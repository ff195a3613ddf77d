theorem q_ifc {c d : Prop} [Decidable c] [Decidable d] (h : c ↔ d) (a b : Int32) : (if c then a else b) = if d then a else b := by
  by_cases hc : c
  · rw [if_pos hc, if_pos (h.mp hc)]
  · rw [if_neg hc, if_neg (fun q => hc (h.mpr q))]
set_option maxHeartbeats 4000000 in
set_option maxRecDepth 100000 in
theorem tX12_drawB (l : Launch) (E : tE) (X : tX) (A : Nat → Prop) (z : tZ) (I0 : tI) (L0 : tL) (a0 : Nat) (t_a0 : z.ty a0 = 13) (a : Int32) (a_t : Int) (h_a : a.toInt = a_t) (b : Int32) (b_t : Int) (h_b : b.toInt = b_t) (u_ : Nat → Int) (hrl : h_r12 (I0 (h_ad z a0 11)) (I0 (h_ad z a0 10)) (I0 a0 12).toInt u_) (hok : q_ok u_) : Met l yX12_draw wsX12_draw ({ frames := 5, cells := 0, slots := 0, locals := 320 }) (va_Pc [.ref a0, .int a, .int b] (h_P E X A z I0 L0)) (va_Qi (fun r (I1 : tI) => h_I z I1 ∧ h_F [(1348, 999), (1328, 999), (1325, 999), (1327, 999), (1329, 999), (13, 31), (13, 33)] z I0 I1 ∧ ((¬ q_draws u_ a_t b_t ∧ r.toInt = -2 ∧ (∀ a k : Nat, z.ty a ≠ 1348 → I1 a k = I0 a k)) ∨ (q_draws u_ a_t b_t ∧ ((I0 a0 30).toInt = 0 ∨ (I0 a0 31).toInt = 1) ∧ r.toInt = -4 ∧ (∀ a k : Nat, z.ty a ≠ 1348 → I1 a k = I0 a k)) ∨ (q_draws u_ a_t b_t ∧ (I0 a0 30).toInt = 1 ∧ (I0 a0 31).toInt = 0 ∧ r.toInt = 1 ∧ I1 a0 31 = 1 ∧ I1 a0 33 = 0 ∧ (∀ k : Nat, k < 8 → I1 (h_ad z a0 28) ((8 * (I0 a0 12).toInt.toNat) + k) = I0 (h_ad z a0 32) (q_od (q_lx u_ a_t) (q_ly u_ a_t b_t) k)) ∧ (∀ k : Nat, (k < (8 * (I0 a0 12).toInt.toNat) ∨ (8 * (I0 a0 12).toInt.toNat) + 8 ≤ k) → I1 (h_ad z a0 28) k = I0 (h_ad z a0 28) k) ∧ h_hoi I0 I1 (h_ad z a0 25) (h_ad z a0 27) (h_ad z a0 26) (h_ad z a0 29) (8 * (I0 a0 12).toInt.toNat) (fun k : Nat => I1 (h_ad z a0 28) ((8 * (I0 a0 12).toInt.toNat) + k)) (I0 a0 12).toInt 8))) (fun (I1 : tI) t => h_B E A z I1 L0 t) A) 0 0 A := by
  refine Met.ofW (cc := cX12_draw) (maxL := 6) (ret := (some .int)) (by decide) rfl ?_
  intro pr_ ev_ s m args below meth cd_ s₁ B hml hv
  obtain ⟨rfl, hE, hk, hX, hA, hK, hI, hR, hB0⟩ := hv
  have g : h_G h_so h_fk E A z I0 L0 s s.heap s.heap [] := ⟨hK, va_S.rf, hB0⟩
  have hF : h_F [(1348, 999), (1328, 999), (1325, 999), (1327, 999), (1329, 999), (13, 31), (13, 33)] z I0 I0 := h_F.rf
  have hx := B.exec
  have hb := B.bytes
  have hr := B.returns
  have hts := atoms_spec (ws := wsX12_draw) B.pre
  have hown : s.vm.findClass RX12 = some m.cls := findClass_of_methodNamed B.named
  have hlocks := B.notSynchronized
  have iX12 : ∀ w ∈ u_ws RX12 TX12 51, w ∈ wsX12_draw := by decide +kernel
  have hl := lv_entry ([.ref a0, .int a, .int b]) (n := 6) (Nat.le_of_ble_eq_true rfl)
  rw [lg_entry_eq]
  generalize (lg_sl ([.ref a0, .int a, .int b]) ++ List.replicate (6 - (lg_sl ([.ref a0, .int a, .int b])).length) Slot.unset).toArray = ls at hl ⊢
  have hl : lv_has ls 6 [(0, .ref a0), (1, .int a), (2, .int b)] := hl
  have b_a : -2147483648 ≤ a_t ∧ a_t ≤ 2147483647 := h_a ▸ ⟨xi_lo a, Int.le_of_lt_add_one (xi_hi a)⟩
  have b_b : -2147483648 ≤ b_t ∧ b_t ≤ 2147483647 := h_b ▸ ⟨xi_lo b, Int.le_of_lt_add_one (xi_hi b)⟩
  obtain ⟨lw, rlw, tlw⟩ := hR.at a0 10 t_a0 (rfl : h_rs 13 10 = some (1310, false)) (by decide)
  have alw : h_ad z a0 10 = lw := h_ad.at rlw
  obtain ⟨hy, rhy, thy⟩ := hR.at a0 11 t_a0 (rfl : h_rs 13 11 = some (1311, false)) (by decide)
  have ahy : h_ad z a0 11 = hy := h_ad.at rhy
  obtain ⟨ow, row, tow⟩ := hR.at a0 25 t_a0 (rfl : h_rs 13 25 = some (1325, false)) (by decide)
  have aow : h_ad z a0 25 = ow := h_ad.at row
  obtain ⟨gv, rgv, tgv⟩ := hR.at a0 26 t_a0 (rfl : h_rs 13 26 = some (1326, false)) (by decide)
  have agv : h_ad z a0 26 = gv := h_ad.at rgv
  obtain ⟨gu, rgu, tgu⟩ := hR.at a0 27 t_a0 (rfl : h_rs 13 27 = some (1327, false)) (by decide)
  have agu : h_ad z a0 27 = gu := h_ad.at rgu
  obtain ⟨dro, rdro, tdro⟩ := hR.at a0 28 t_a0 (rfl : h_rs 13 28 = some (1328, false)) (by decide)
  have adro : h_ad z a0 28 = dro := h_ad.at rdro
  obtain ⟨dt, rdt, tdt⟩ := hR.at a0 29 t_a0 (rfl : h_rs 13 29 = some (1329, false)) (by decide)
  have adt : h_ad z a0 29 = dt := h_ad.at rdt
  obtain ⟨tb, rtb, ttb⟩ := hR.at a0 32 t_a0 (rfl : h_rs 13 32 = some (1332, false)) (by decide)
  have atb : h_ad z a0 32 = tb := h_ad.at rtb
  obtain ⟨io, rio, tio⟩ := hR.at a0 48 t_a0 (rfl : h_rs 13 48 = some (1348, false)) (by decide)
  have aio : h_ad z a0 48 = io := h_ad.at rio
  obtain ⟨f0_12, ef0_12⟩ : ∃ v : Int32, v = I0 a0 12 := ⟨_, rfl⟩
  have qf0_12 : (I0 a0 12).toInt = f0_12.toInt := congrArg Int32.toInt ef0_12.symm
  have jf0_12 := hI.rd a0 12 t_a0 ef0_12 (rfl : h_bd 13 12 = (0, 9))
  obtain ⟨f0_30, ef0_30⟩ : ∃ v : Int32, v = I0 a0 30 := ⟨_, rfl⟩
  have qf0_30 : (I0 a0 30).toInt = f0_30.toInt := congrArg Int32.toInt ef0_30.symm
  have jf0_30 := hI.rd a0 30 t_a0 ef0_30 (rfl : h_bd 13 30 = (0, 1))
  obtain ⟨f0_31, ef0_31⟩ : ∃ v : Int32, v = I0 a0 31 := ⟨_, rfl⟩
  have qf0_31 : (I0 a0 31).toInt = f0_31.toInt := congrArg Int32.toInt ef0_31.symm
  have jf0_31 := hI.rd a0 31 t_a0 ef0_31 (rfl : h_bd 13 31 = (0, 1))
  rw [ahy, alw] at hrl
  obtain ⟨lx, elx⟩ : ∃ k : Int, k = q_lx u_ a_t := ⟨_, rfl⟩
  obtain ⟨ly, ely⟩ : ∃ k : Int, k = q_ly u_ a_t b_t := ⟨_, rfl⟩
  obtain ⟨dk, edk⟩ : ∃ k : Nat, k = 8 * f0_12.toInt.toNat := ⟨_, rfl⟩
  have nb := q_nl_b hok
  have hI0 := hI
  refine lv_iconst (v := 0) hx hb dX12_draw_0 (by decide) ?_
  refine lv_istore_n (lv' := [(3, .int 0), (0, .ref a0), (1, .int a), (2, .int b)]) hx hb dX12_draw_1 rfl hl (by decide) rfl (fun ls hl => ?_)
  have loop2_0 : ∀ (n : Nat) (I2 : tI) (H : Heap) (locs : List Loc) (ls : Array Slot) (v1 : Int32), h_G h_so h_fk E A z I2 L0 s s.heap H locs → h_I z I2 → h_F [(1348, 999), (1328, 999), (1325, 999), (1327, 999), (1329, 999), (13, 31), (13, 33)] z I0 I2 → lv_has ls 6 [(0, .ref a0), (1, .int a), (2, .int b), (3, .int v1)] → (0 ≤ v1.toInt ∧ v1.toInt ≤ 8) → h_F [(1348, 999)] z I0 I2 → (∀ k : Nat, (k : Int) < v1.toInt → I2 io k = 0) → (8 - v1.toInt) < (n : Int) → W pr_ l ev_ (headSpec wsX12_draw ({ frames := 5, cells := 0, slots := 0, locals := 320 })).room s m ([.ref a0, .int a, .int b] : List Value).toArray below meth cd_ H locs 0 0 (MQ below (va_Qi (fun r (I1 : tI) => h_I z I1 ∧ h_F [(1348, 999), (1328, 999), (1325, 999), (1327, 999), (1329, 999), (13, 31), (13, 33)] z I0 I1 ∧ ((¬ q_draws u_ a_t b_t ∧ r.toInt = -2 ∧ (∀ a k : Nat, z.ty a ≠ 1348 → I1 a k = I0 a k)) ∨ (q_draws u_ a_t b_t ∧ ((I0 a0 30).toInt = 0 ∨ (I0 a0 31).toInt = 1) ∧ r.toInt = -4 ∧ (∀ a k : Nat, z.ty a ≠ 1348 → I1 a k = I0 a k)) ∨ (q_draws u_ a_t b_t ∧ (I0 a0 30).toInt = 1 ∧ (I0 a0 31).toInt = 0 ∧ r.toInt = 1 ∧ I1 a0 31 = 1 ∧ I1 a0 33 = 0 ∧ (∀ k : Nat, k < 8 → I1 (h_ad z a0 28) ((8 * (I0 a0 12).toInt.toNat) + k) = I0 (h_ad z a0 32) (q_od (q_lx u_ a_t) (q_ly u_ a_t b_t) k)) ∧ (∀ k : Nat, (k < (8 * (I0 a0 12).toInt.toNat) ∨ (8 * (I0 a0 12).toInt.toNat) + 8 ≤ k) → I1 (h_ad z a0 28) k = I0 (h_ad z a0 28) k) ∧ h_hoi I0 I1 (h_ad z a0 25) (h_ad z a0 27) (h_ad z a0 26) (h_ad z a0 29) (8 * (I0 a0 12).toInt.toNat) (fun k : Nat => I1 (h_ad z a0 28) ((8 * (I0 a0 12).toInt.toNat) + k)) (I0 a0 12).toInt 8))) (fun (I1 : tI) t => h_B E A z I1 L0 t) A) ([.ref a0, .int a, .int b] : List Value).toArray s 0 0 A) (F0 m 2 ls []) := by
    intro n
    induction n with
    | zero => intro I2 H locs ls v1 g hI hF hl jv1 hL2 hx2_0 hn; exact absurd hn (by omega)
    | succ n ih2 =>
      intro I2 H locs ls v1 g hI hF hl jv1 hL2 hx2_0 hn
      refine lv_iload_n hx hb dX12_draw_2 rfl (lv_at hl 3 rfl) ?_
      refine lv_bipush (v := 8) hx hb dX12_draw_3 (by decide) ?_
      refine lv_icmp_ge (tgt := 21) hx hb dX12_draw_5 (by decide) (fun c3 => ?_) (fun c3 => ?_)
      · have ic3 := (xi_le c3 (by decide) rfl : 8 ≤ v1.toInt)
        refine lv_iconst (v := 0) hx hb dX12_draw_21 (by decide) ?_
        refine lv_istore_n (lv' := [(3, .int 0), (0, .ref a0), (1, .int a), (2, .int b)]) hx hb dX12_draw_22 rfl hl (by decide) rfl (fun ls hl => ?_)
        refine lv_aload_n hx hb dX12_draw_23 rfl (lv_at hl 1 rfl) ?_
        refine vp_callSi (W.runV (As := []) (rest := []) ⟨hx, hb, hml, hown, hts⟩ (tX12_lotsF l E X A z I2 L0 a0 t_a0) (cwV 0 hts gX12_draw_X12_lots rfl rfl rfl (by decide +kernel) ⟨Nat.le_of_ble_eq_true rfl, Nat.le_of_ble_eq_true rfl⟩) ⟨h_blind _ _ _ _ _ _ _, h_recv g t_a0 (by decide) so_13 (q := (RX12, TX12, 51)) rfl, h_pre _ hE hk hX hA hI hR g⟩ rfl rfl hl.1 rfl (lv_room (Nat.le_of_ble_eq_true rfl)) dX12_draw_24 ⟨Nat.le_of_ble_eq_true rfl, Nat.le_of_ble_eq_true rfl⟩) (fun rh4 h4 => ?_)
        obtain ⟨h4, h4p0⟩ := h4
        have hrh4 : h_r12 (I2 (h_ad z a0 11)) (I2 (h_ad z a0 10)) (I2 a0 12).toInt u_ := by rw [ahy, alw, show I2 hy = I0 hy from funext (fun k => hF.at thy rfl), show I2 lw = I0 lw from funext (fun k => hF.at tlw rfl), show I2 a0 12 = I0 a0 12 from hF.at t_a0 rfl]; exact hrl
        have lrh4 : rh4.toInt = q_nl u_ := h4p0 u_ hrh4 hok
        clear h4p0
        refine lv_if_ne (tgt := 41) hx hb dX12_draw_27 (by decide) (fun c5 => ?_) (fun c5 => ?_)
        · have ic5 := (xi_ne c5 rfl (by decide) : rh4.toInt ≠ 0)
          refine lv_iload_n hx hb dX12_draw_41 rfl (lv_at hl 2 rfl) ?_
          refine lv_i2l hx hb dX12_draw_42 rfl ?_
          refine lv_topl (fun v6 ev6 => ?_)
          have jv6 : v6.toInt = a_t := by rw [ev6, xi_64]; exact h_a
          refine lv_lconst (v := 0) hx hb dX12_draw_43 (by decide) ?_
          refine lv_aload_n hx hb dX12_draw_44 rfl (lv_at hl 1 rfl) ?_
          refine vp_callSi (W.runV (As := []) (rest := [.long 0, .long v6]) ⟨hx, hb, hml, hown, hts⟩ (tX12_weightsF l E X A z I2 L0 a0 t_a0) (cwV 0 hts gX12_draw_X12_weights rfl rfl rfl (by decide +kernel) ⟨Nat.le_of_ble_eq_true rfl, Nat.le_of_ble_eq_true rfl⟩) ⟨h_blind _ _ _ _ _ _ _, h_recv g t_a0 (by decide) so_13 (q := (RX12, TX12, 51)) rfl, h_pre _ hE hk hX hA hI hR g⟩ rfl rfl hl.1 rfl (lv_room (Nat.le_of_ble_eq_true rfl)) dX12_draw_45 ⟨Nat.le_of_ble_eq_true rfl, Nat.le_of_ble_eq_true rfl⟩) (fun rh7 h7 => ?_)
          obtain ⟨h7, h7p0⟩ := h7
          have hrh7 : h_r12 (I2 (h_ad z a0 11)) (I2 (h_ad z a0 10)) (I2 a0 12).toInt u_ := by rw [ahy, alw, show I2 hy = I0 hy from funext (fun k => hF.at thy rfl), show I2 lw = I0 lw from funext (fun k => hF.at tlw rfl), show I2 a0 12 = I0 a0 12 from hF.at t_a0 rfl]; exact hrl
          have lrh7 : rh7.toInt = q_sum u_ (-1) (q_nl u_).toNat 0 := h7p0 u_ hrh7 hok
          clear h7p0
          refine lv_iconst (v := 1) hx hb dX12_draw_48 (by decide) ?_
          refine lv_isub hx hb dX12_draw_49 ?_
          refine lv_topi (fun v8 ev8 => ?_)
          have jv8 : v8.toInt = rh7.toInt - 1 := xi_sub ev8 rfl (by decide) (by omega) (by omega)
          refine lv_i2l hx hb dX12_draw_50 rfl ?_
          refine lv_topl (fun v9 ev9 => ?_)
          have jv9 : v9.toInt = v8.toInt := by rw [ev9, xi_64]
          refine vp_callSi (W.runS (As := [.long v6, .long 0, .long v9]) (rest := []) ⟨hx, hb, hml, hown, hts⟩ (tX12_in l E X A z I2 L0 v6 (a_t) jv6 0 (0) (by decide) v9 (v8.toInt) jv9) (va_cwS 3 hts gX12_draw_X12_in rfl rfl rfl (by decide +kernel) ⟨Nat.le_of_ble_eq_true rfl, Nat.le_of_ble_eq_true rfl⟩) ⟨h_blind _ _ _ _ _ _ _, h_pre _ hE hk hX hA hI hR g⟩ rfl rfl hl.1 rfl (lv_room (Nat.le_of_ble_eq_true rfl)) dX12_draw_51 ⟨Nat.le_of_ble_eq_true rfl, Nat.le_of_ble_eq_true rfl⟩) (fun rh10 h10 => ?_)
          rcases h10 with ⟨rfl, h10⟩ | ⟨rfl, h10⟩
          · skip
            refine lv_if_ne (tgt := 60) hx hb dX12_draw_54 (by decide) (fun h => absurd (by decide) h) (fun _ => ?_)
            refine lv_bipush (v := (-2)) hx hb dX12_draw_57 (by decide) ?_
            have hS := g.2.1
            exact W.iret (v := (-2)) hx hb hr (fun t ht hW => ⟨⟨(-2), I2, rfl, ⟨hI, hF, (Or.inl ⟨fun q => by have h9 := (q_draws_sum hok (by omega)).mp q; omega, by decide, fun a k ta => h_F_no48 hL2 ta⟩)⟩, h_ret g ht⟩, hS.F ht⟩) hS.2.2 dX12_draw_59
          · skip
            refine lv_if_ne (tgt := 60) hx hb dX12_draw_54 (by decide) (fun _ => ?_) (fun h => absurd h (by decide))
            refine lv_iload_n hx hb dX12_draw_60 rfl (lv_at hl 3 rfl) ?_
            refine lv_i2l hx hb dX12_draw_61 rfl ?_
            refine lv_topl (fun v13 ev13 => ?_)
            have jv13 : v13.toInt = b_t := by rw [ev13, xi_64]; exact h_b
            refine lv_lconst (v := 0) hx hb dX12_draw_62 (by decide) ?_
            refine lv_aload_n hx hb dX12_draw_63 rfl (lv_at hl 1 rfl) ?_
            refine vp_callSi (W.runV (As := []) (rest := [.long 0, .long v13]) ⟨hx, hb, hml, hown, hts⟩ (tX12_weightsF l E X A z I2 L0 a0 t_a0) (cwV 0 hts gX12_draw_X12_weights rfl rfl rfl (by decide +kernel) ⟨Nat.le_of_ble_eq_true rfl, Nat.le_of_ble_eq_true rfl⟩) ⟨h_blind _ _ _ _ _ _ _, h_recv g t_a0 (by decide) so_13 (q := (RX12, TX12, 51)) rfl, h_pre _ hE hk hX hA hI hR g⟩ rfl rfl hl.1 rfl (lv_room (Nat.le_of_ble_eq_true rfl)) dX12_draw_64 ⟨Nat.le_of_ble_eq_true rfl, Nat.le_of_ble_eq_true rfl⟩) (fun rh14 h14 => ?_)
            obtain ⟨h14, h14p0⟩ := h14
            have hrh14 : h_r12 (I2 (h_ad z a0 11)) (I2 (h_ad z a0 10)) (I2 a0 12).toInt u_ := by rw [ahy, alw, show I2 hy = I0 hy from funext (fun k => hF.at thy rfl), show I2 lw = I0 lw from funext (fun k => hF.at tlw rfl), show I2 a0 12 = I0 a0 12 from hF.at t_a0 rfl]; exact hrl
            have lrh14 : rh14.toInt = q_sum u_ (-1) (q_nl u_).toNat 0 := h14p0 u_ hrh14 hok
            clear h14p0
            refine lv_aload_n hx hb dX12_draw_67 rfl (lv_at hl 1 rfl) ?_
            refine lv_aload_n hx hb dX12_draw_68 rfl (lv_at hl 1 rfl) ?_
            refine lv_iload_n hx hb dX12_draw_69 rfl (lv_at hl 2 rfl) ?_
            refine vp_callSi (W.runV (As := [.int a]) (rest := [.ref a0, .int rh14, .long 0, .long v13]) ⟨hx, hb, hml, hown, hts⟩ (tX12_drawnByF l E X A z I2 L0 a0 t_a0 a (a_t) h_a (by omega)) (cwV 1 hts gX12_draw_X12_drawnBy rfl rfl rfl (by decide +kernel) ⟨Nat.le_of_ble_eq_true rfl, Nat.le_of_ble_eq_true rfl⟩) ⟨h_blind _ _ _ _ _ _ _, h_recv g t_a0 (by decide) so_13 (q := (RX12, TX12, 51)) rfl, h_pre _ hE hk hX hA hI hR g⟩ rfl rfl hl.1 rfl (lv_room (Nat.le_of_ble_eq_true rfl)) dX12_draw_70 ⟨Nat.le_of_ble_eq_true rfl, Nat.le_of_ble_eq_true rfl⟩) (fun rh15 h15 => ?_)
            obtain ⟨h15, h15p0⟩ := h15
            have hrh15 : h_r12 (I2 (h_ad z a0 11)) (I2 (h_ad z a0 10)) (I2 a0 12).toInt u_ := by rw [ahy, alw, show I2 hy = I0 hy from funext (fun k => hF.at thy rfl), show I2 lw = I0 lw from funext (fun k => hF.at tlw rfl), show I2 a0 12 = I0 a0 12 from hF.at t_a0 rfl]; exact hrl
            have lrh15 : rh15.toInt = q_lot u_ (-1) (q_nl u_).toNat 0 a_t := h15p0 u_ (-1) hrh15 hok (by rw [aio]; exact h_io0 (fun k hk => hx2_0 k (by omega)))
            have qrh15 := q_lot_in (u := u_) (a := a_t) hok (by omega) (by omega)
            have brh15 : 0 ≤ rh15.toInt ∧ rh15.toInt ≤ 5 ∧ rh15.toInt < q_nl u_ := by omega
            clear h15p0
            refine vp_callSi (W.runV (As := [.int rh15]) (rest := [.int rh14, .long 0, .long v13]) ⟨hx, hb, hml, hown, hts⟩ (tX12_weightF l E X A z I2 L0 a0 t_a0 rh15 (rh15.toInt) rfl (by omega)) (cwV 1 hts gX12_draw_X12_weight rfl rfl rfl (by decide +kernel) ⟨Nat.le_of_ble_eq_true rfl, Nat.le_of_ble_eq_true rfl⟩) ⟨h_blind _ _ _ _ _ _ _, h_recv g t_a0 (by decide) so_13 (q := (RX12, TX12, 51)) rfl, h_pre _ hE hk hX hA hI hR g⟩ rfl rfl hl.1 rfl (lv_room (Nat.le_of_ble_eq_true rfl)) dX12_draw_73 ⟨Nat.le_of_ble_eq_true rfl, Nat.le_of_ble_eq_true rfl⟩) (fun rh16 h16 => ?_)
            obtain ⟨h16, h16p0⟩ := h16
            have hrh16 : h_r12 (I2 (h_ad z a0 11)) (I2 (h_ad z a0 10)) (I2 a0 12).toInt u_ := by rw [ahy, alw, show I2 hy = I0 hy from funext (fun k => hF.at thy rfl), show I2 lw = I0 lw from funext (fun k => hF.at tlw rfl), show I2 a0 12 = I0 a0 12 from hF.at t_a0 rfl]; exact hrl
            have lrh16 : rh16.toInt = u_ (9 + (rh15.toInt).toNat) := by have h9 := h16p0 u_ hrh16 hok; rw [if_pos (by omega)] at h9; exact h9
            have orh16 := hok.2.2 (rh15.toInt).toNat (by omega)
            rw [← lrh16] at orh16
            clear h16p0
            refine lv_isub hx hb dX12_draw_76 ?_
            refine lv_topi (fun v17 ev17 => ?_)
            have jv17 : v17.toInt = rh14.toInt - rh16.toInt := xi_sub ev17 rfl rfl (by omega) (by omega)
            refine lv_iconst (v := 1) hx hb dX12_draw_77 (by decide) ?_
            refine lv_isub hx hb dX12_draw_78 ?_
            refine lv_topi (fun v18 ev18 => ?_)
            have jv18 : v18.toInt = v17.toInt - 1 := xi_sub ev18 rfl (by decide) (by omega) (by omega)
            refine lv_i2l hx hb dX12_draw_79 rfl ?_
            refine lv_topl (fun v19 ev19 => ?_)
            have jv19 : v19.toInt = v18.toInt := by rw [ev19, xi_64]
            refine vp_callSi (W.runS (As := [.long v13, .long 0, .long v19]) (rest := []) ⟨hx, hb, hml, hown, hts⟩ (tX12_in l E X A z I2 L0 v13 (b_t) jv13 0 (0) (by decide) v19 (v18.toInt) jv19) (va_cwS 3 hts gX12_draw_X12_in rfl rfl rfl (by decide +kernel) ⟨Nat.le_of_ble_eq_true rfl, Nat.le_of_ble_eq_true rfl⟩) ⟨h_blind _ _ _ _ _ _ _, h_pre _ hE hk hX hA hI hR g⟩ rfl rfl hl.1 rfl (lv_room (Nat.le_of_ble_eq_true rfl)) dX12_draw_80 ⟨Nat.le_of_ble_eq_true rfl, Nat.le_of_ble_eq_true rfl⟩) (fun rh20 h20 => ?_)
            rcases h20 with ⟨rfl, h20⟩ | ⟨rfl, h20⟩
            · skip
              refine lv_if_ne (tgt := 89) hx hb dX12_draw_83 (by decide) (fun h => absurd (by decide) h) (fun _ => ?_)
              refine lv_bipush (v := (-2)) hx hb dX12_draw_86 (by decide) ?_
              have hS := g.2.1
              exact W.iret (v := (-2)) hx hb hr (fun t ht hW => ⟨⟨(-2), I2, rfl, ⟨hI, hF, (Or.inl ⟨fun q => by have h9 := (q_draws_sum hok (by omega)).mp q; rw [← lrh15] at h9; omega, by decide, fun a k ta => h_F_no48 hL2 ta⟩)⟩, h_ret g ht⟩, hS.F ht⟩) hS.2.2 dX12_draw_88
            · skip
              refine lv_if_ne (tgt := 89) hx hb dX12_draw_83 (by decide) (fun _ => ?_) (fun h => absurd h (by decide))
              have hdr : q_draws u_ a_t b_t := (q_draws_sum hok (by omega)).mpr ⟨by omega, by omega, by omega, by rw [← lrh15]; omega⟩
              have hq := q_lxq hok hdr
              have hlx := q_lxy hok hdr
              rw [← elx, ← ely] at hq hlx
              refine lv_aload_n hx hb dX12_draw_89 rfl (lv_at hl 1 rfl) ?_
              refine h_get (v := .int f0_30) hx hb hts iX12 hown g t_a0 (by decide) so_13 rfl 30 (by decide) (hts (.fieldLink RX12 306 "CapLeagueModel" "hasTable" "Z") (by decide +kernel)) rfl dX12_draw_90 (congrArg Value.int ((h_F.at hL2 t_a0 rfl).trans (ef0_30.symm))) ?_
              refine lv_if_eq (tgt := 103) hx hb dX12_draw_93 (by decide) (fun c23 => ?_) (fun c23 => ?_)
              · have ic23 := (xi_eq c23 rfl (by decide) : f0_30.toInt = 0)
                refine lv_bipush (v := (-4)) hx hb dX12_draw_103 (by decide) ?_
                have hS := g.2.1
                exact W.iret (v := (-4)) hx hb hr (fun t ht hW => ⟨⟨(-4), I2, rfl, ⟨hI, hF, (by rw [qf0_30, qf0_31]; exact Or.inr (Or.inl ⟨hdr, by omega, by decide, fun a k ta => h_F_no48 hL2 ta⟩))⟩, h_ret g ht⟩, hS.F ht⟩) hS.2.2 dX12_draw_105
              · have ic23 := (xi_ne c23 rfl (by decide) : f0_30.toInt ≠ 0)
                refine lv_aload_n hx hb dX12_draw_96 rfl (lv_at hl 1 rfl) ?_
                refine h_get (v := .int f0_31) hx hb hts iX12 hown g t_a0 (by decide) so_13 rfl 31 (by decide) (hts (.fieldLink RX12 264 "CapLeagueModel" "isDrawn" "Z") (by decide +kernel)) rfl dX12_draw_97 (congrArg Value.int ((h_F.at hL2 t_a0 rfl).trans (ef0_31.symm))) ?_
                refine lv_if_eq (tgt := 106) hx hb dX12_draw_100 (by decide) (fun c24 => ?_) (fun c24 => ?_)
                · have ic24 := (xi_eq c24 rfl (by decide) : f0_31.toInt = 0)
                  refine lv_aload_n hx hb dX12_draw_106 rfl (lv_at hl 1 rfl) ?_
                  refine vp_callSi (W.runV (As := []) (rest := []) ⟨hx, hb, hml, hown, hts⟩ (tX12_lotsF l E X A z I2 L0 a0 t_a0) (cwV 0 hts gX12_draw_X12_lots rfl rfl rfl (by decide +kernel) ⟨Nat.le_of_ble_eq_true rfl, Nat.le_of_ble_eq_true rfl⟩) ⟨h_blind _ _ _ _ _ _ _, h_recv g t_a0 (by decide) so_13 (q := (RX12, TX12, 51)) rfl, h_pre _ hE hk hX hA hI hR g⟩ rfl rfl hl.1 rfl (lv_room (Nat.le_of_ble_eq_true rfl)) dX12_draw_107 ⟨Nat.le_of_ble_eq_true rfl, Nat.le_of_ble_eq_true rfl⟩) (fun rh25 h25 => ?_)
                  obtain ⟨h25, h25p0⟩ := h25
                  have hrh25 : h_r12 (I2 (h_ad z a0 11)) (I2 (h_ad z a0 10)) (I2 a0 12).toInt u_ := by rw [ahy, alw, show I2 hy = I0 hy from funext (fun k => hF.at thy rfl), show I2 lw = I0 lw from funext (fun k => hF.at tlw rfl), show I2 a0 12 = I0 a0 12 from hF.at t_a0 rfl]; exact hrl
                  have lrh25 : rh25.toInt = q_nl u_ := h25p0 u_ hrh25 hok
                  clear h25p0
                  refine lv_if_le (tgt := 185) hx hb dX12_draw_110 (by decide) (fun c26 => ?_) (fun c26 => ?_)
                  · have ic26 := (xi_le c26 rfl (by decide) : rh25.toInt ≤ 0)
                    exfalso; omega
                  · have ic26 := (xi_nle c26 rfl (by decide) : 0 < rh25.toInt)
                    refine lv_aload_n hx hb dX12_draw_113 rfl (lv_at hl 1 rfl) ?_
                    refine lv_iload_n hx hb dX12_draw_114 rfl (lv_at hl 2 rfl) ?_
                    refine vp_callSi (W.runV (As := [.int a]) (rest := []) ⟨hx, hb, hml, hown, hts⟩ (tX12_drawnByF l E X A z I2 L0 a0 t_a0 a (a_t) h_a (by omega)) (cwV 1 hts gX12_draw_X12_drawnBy rfl rfl rfl (by decide +kernel) ⟨Nat.le_of_ble_eq_true rfl, Nat.le_of_ble_eq_true rfl⟩) ⟨h_blind _ _ _ _ _ _ _, h_recv g t_a0 (by decide) so_13 (q := (RX12, TX12, 51)) rfl, h_pre _ hE hk hX hA hI hR g⟩ rfl rfl hl.1 rfl (lv_room (Nat.le_of_ble_eq_true rfl)) dX12_draw_115 ⟨Nat.le_of_ble_eq_true rfl, Nat.le_of_ble_eq_true rfl⟩) (fun rh27 h27 => ?_)
                    obtain ⟨h27, h27p0⟩ := h27
                    have hrh27 : h_r12 (I2 (h_ad z a0 11)) (I2 (h_ad z a0 10)) (I2 a0 12).toInt u_ := by rw [ahy, alw, show I2 hy = I0 hy from funext (fun k => hF.at thy rfl), show I2 lw = I0 lw from funext (fun k => hF.at tlw rfl), show I2 a0 12 = I0 a0 12 from hF.at t_a0 rfl]; exact hrl
                    have ex : rh27.toInt = lx := by rw [elx]; exact h27p0 u_ (-1) hrh27 hok (by rw [aio]; exact h_io0 (fun k hk => hx2_0 k (by omega)))
                    have brh27 : 0 ≤ rh27.toInt ∧ rh27.toInt ≤ 5 := by rcases hlx with q | q; omega; omega
                    have kx : rh27.toNatClampNeg = rh27.toInt.toNat := h_keq rfl (by omega) (by omega)
                    clear h27p0
                    refine lv_istore (lv' := [(4, .int rh27), (3, .int 0), (0, .ref a0), (1, .int a), (2, .int b)]) hx hb dX12_draw_118 hl (by decide) rfl (fun ls hl => ?_)
                    refine lv_aload_n hx hb dX12_draw_120 rfl (lv_at hl 2 rfl) ?_
                    refine h_get (v := .ref io) hx hb hts iX12 hown g t_a0 (by decide) so_13 rfl 48 (by decide) (hts (.fieldLink RX12 109 "CapLeagueModel" "isOut" "[Z") (by decide +kernel)) rfl dX12_draw_121 (by show va_rf (z.R a0 48) = _; rw [rio]; rfl) ?_
                    refine lv_iload hx hb dX12_draw_124 (lv_at hl 0 rfl) ?_
                    refine lv_iconst (v := 1) hx hb dX12_draw_126 (by decide) ?_
                    refine h_zast hx hb g tio (by decide) so_1348 (xi_in (by omega) (by omega)) dX12_draw_127 (fun I28 H locs eI28 g => ?_)
                    rw [h_nz (by decide) (by decide)] at eI28
                    have hI := hI.wr eI28 tio (rfl : h_bd 1348 _ = (0, 1)) (by decide) (by decide)
                    have hF := hF.wr eI28 tio rfl
                    refine lv_aload_n hx hb dX12_draw_128 rfl (lv_at hl 2 rfl) ?_
                    refine lv_iload_n hx hb dX12_draw_129 rfl (lv_at hl 4 rfl) ?_
                    refine vp_callSi (W.runV (As := [.int b]) (rest := []) ⟨hx, hb, hml, hown, hts⟩ (tX12_drawnByF l E X A z I28 L0 a0 t_a0 b (b_t) h_b (by omega)) (cwV 1 hts gX12_draw_X12_drawnBy rfl rfl rfl (by decide +kernel) ⟨Nat.le_of_ble_eq_true rfl, Nat.le_of_ble_eq_true rfl⟩) ⟨h_blind _ _ _ _ _ _ _, h_recv g t_a0 (by decide) so_13 (q := (RX12, TX12, 51)) rfl, h_pre _ hE hk hX hA hI hR g⟩ rfl rfl hl.1 rfl (lv_room (Nat.le_of_ble_eq_true rfl)) dX12_draw_130 ⟨Nat.le_of_ble_eq_true rfl, Nat.le_of_ble_eq_true rfl⟩) (fun rh29 h29 => ?_)
                    obtain ⟨h29, h29p0⟩ := h29
                    have hrh29 : h_r12 (I28 (h_ad z a0 11)) (I28 (h_ad z a0 10)) (I28 a0 12).toInt u_ := by rw [ahy, alw, show I28 hy = I0 hy from funext (fun k => hF.at thy rfl), show I28 lw = I0 lw from funext (fun k => hF.at tlw rfl), show I28 a0 12 = I0 a0 12 from hF.at t_a0 rfl]; exact hrl
                    have ey : rh29.toInt = ly := by rcases hlx with q | q; omega; rw [q.2.2.2.2]; exact h29p0 u_ lx hrh29 hok (by rw [aio]; exact h_io1 (fun k hk => hx2_0 k (by omega)) (h_wif eI28 kx) (by omega))
                    have brh29 : 0 ≤ rh29.toInt ∧ rh29.toInt ≤ 5 := by rcases hlx with q | q; omega; omega
                    have ky : rh29.toNatClampNeg = rh29.toInt.toNat := h_keq rfl (by omega) (by omega)
                    clear h29p0
                    refine lv_istore (lv' := [(5, .int rh29), (4, .int rh27), (3, .int 0), (0, .ref a0), (1, .int a), (2, .int b)]) hx hb dX12_draw_133 hl (by decide) rfl (fun ls hl => ?_)
                    refine lv_aload_n hx hb dX12_draw_135 rfl (lv_at hl 3 rfl) ?_
                    refine h_get (v := .ref io) hx hb hts iX12 hown g t_a0 (by decide) so_13 rfl 48 (by decide) (hts (.fieldLink RX12 109 "CapLeagueModel" "isOut" "[Z") (by decide +kernel)) rfl dX12_draw_136 (by show va_rf (z.R a0 48) = _; rw [rio]; rfl) ?_
                    refine lv_iload hx hb dX12_draw_139 (lv_at hl 0 rfl) ?_
                    refine lv_iconst (v := 1) hx hb dX12_draw_141 (by decide) ?_
                    refine h_zast hx hb g tio (by decide) so_1348 (xi_in (by omega) (by omega)) dX12_draw_142 (fun I30 H locs eI30 g => ?_)
                    rw [h_nz (by decide) (by decide)] at eI30
                    have hI := hI.wr eI30 tio (rfl : h_bd 1348 _ = (0, 1)) (by decide) (by decide)
                    have hF := hF.wr eI30 tio rfl
                    refine lv_aload_n hx hb dX12_draw_143 rfl (lv_at hl 3 rfl) ?_
                    refine h_get (v := .ref dro) hx hb hts iX12 hown g t_a0 (by decide) so_13 rfl 28 (by decide) (hts (.fieldLink RX12 67 "CapLeagueModel" "drawnOf" "[I") (by decide +kernel)) rfl dX12_draw_144 (by show va_rf (z.R a0 28) = _; rw [rdro]; rfl) ?_
                    refine lv_bipush (v := 8) hx hb dX12_draw_147 (by decide) ?_
                    refine lv_aload_n hx hb dX12_draw_149 rfl (lv_at hl 3 rfl) ?_
                    refine h_get (v := .int f0_12) hx hb hts iX12 hown g t_a0 (by decide) so_13 rfl 12 (by decide) (hts (.fieldLink RX12 187 "CapLeagueModel" "clock" "I") (by decide +kernel)) rfl dX12_draw_150 (congrArg Value.int ((h_n1 eI30 t_a0 tio (by decide)).trans ((h_n1 eI28 t_a0 tio (by decide)).trans ((h_F.at hL2 t_a0 rfl).trans (ef0_12.symm))))) ?_
                    refine lv_imul hx hb dX12_draw_153 ?_
                    refine lv_topi (fun v31 ev31 => ?_)
                    have jv31 : v31.toInt = 8 * f0_12.toInt := xi_mul ev31 (by decide) rfl (by omega) (by omega)
                    refine lv_aload_n hx hb dX12_draw_154 rfl (lv_at hl 3 rfl) ?_
                    refine h_get (v := .ref tb) hx hb hts iX12 hown g t_a0 (by decide) so_13 rfl 32 (by decide) (hts (.fieldLink RX12 73 "CapLeagueModel" "table" "[I") (by decide +kernel)) rfl dX12_draw_155 (by show va_rf (z.R a0 32) = _; rw [rtb]; rfl) ?_
                    refine lv_iload hx hb dX12_draw_158 (lv_at hl 1 rfl) ?_
                    refine h_ald hx hb g ttb (by decide) so_1332 (xi_in (by omega) (by omega)) dX12_draw_160 ?_
                    refine lv_topi (fun v32 ev32 => ?_)
                    have jv32 := hI.rd tb rh27.toNatClampNeg ttb ev32 (rfl : h_bd 1332 _ = (0, 7))
                    have gv32 : I0 tb (rh27.toInt).toNat = v32 := by rw [← (h_keq rfl (by omega) (by omega) : rh27.toNatClampNeg = (rh27.toInt).toNat), ev32]; exact (hF.at ttb rfl).symm
                    refine h_ast hx hb g tdro (by decide) so_1328 (xi_in (by omega) (by omega)) dX12_draw_161 (fun I33 H locs eI33 g => ?_)
                    have hI := hI.wr eI33 tdro (rfl : h_bd 1328 _ = ((-1), 7)) (by omega) (by omega)
                    have hF := hF.wr eI33 tdro rfl
                    refine lv_aload_n hx hb dX12_draw_162 rfl (lv_at hl 3 rfl) ?_
                    refine h_get (v := .ref dro) hx hb hts iX12 hown g t_a0 (by decide) so_13 rfl 28 (by decide) (hts (.fieldLink RX12 67 "CapLeagueModel" "drawnOf" "[I") (by decide +kernel)) rfl dX12_draw_163 (by show va_rf (z.R a0 28) = _; rw [rdro]; rfl) ?_
                    refine lv_bipush (v := 8) hx hb dX12_draw_166 (by decide) ?_
                    refine lv_aload_n hx hb dX12_draw_168 rfl (lv_at hl 3 rfl) ?_
                    refine h_get (v := .int f0_12) hx hb hts iX12 hown g t_a0 (by decide) so_13 rfl 12 (by decide) (hts (.fieldLink RX12 187 "CapLeagueModel" "clock" "I") (by decide +kernel)) rfl dX12_draw_169 (congrArg Value.int ((h_n1 eI33 t_a0 tdro (by decide)).trans ((h_n1 eI30 t_a0 tio (by decide)).trans ((h_n1 eI28 t_a0 tio (by decide)).trans ((h_F.at hL2 t_a0 rfl).trans (ef0_12.symm)))))) ?_
                    refine lv_imul hx hb dX12_draw_172 ?_
                    refine xw_i (v := v31) ev31.symm ?_
                    refine lv_iconst (v := 1) hx hb dX12_draw_173 (by decide) ?_
                    refine lv_iadd hx hb dX12_draw_174 ?_
                    refine lv_topi (fun v34 ev34 => ?_)
                    have jv34 : v34.toInt = v31.toInt + 1 := xi_add ev34 rfl (by decide) (by omega) (by omega)
                    refine lv_aload_n hx hb dX12_draw_175 rfl (lv_at hl 3 rfl) ?_
                    refine h_get (v := .ref tb) hx hb hts iX12 hown g t_a0 (by decide) so_13 rfl 32 (by decide) (hts (.fieldLink RX12 73 "CapLeagueModel" "table" "[I") (by decide +kernel)) rfl dX12_draw_176 (by show va_rf (z.R a0 32) = _; rw [rtb]; rfl) ?_
                    refine lv_iload hx hb dX12_draw_179 (lv_at hl 0 rfl) ?_
                    refine h_ald hx hb g ttb (by decide) so_1332 (xi_in (by omega) (by omega)) dX12_draw_181 ?_
                    refine lv_topi (fun v35 ev35 => ?_)
                    have jv35 := hI.rd tb rh29.toNatClampNeg ttb ev35 (rfl : h_bd 1332 _ = (0, 7))
                    have gv35 : I0 tb (rh29.toInt).toNat = v35 := by rw [← (h_keq rfl (by omega) (by omega) : rh29.toNatClampNeg = (rh29.toInt).toNat), ev35]; exact (hF.at ttb rfl).symm
                    refine h_ast hx hb g tdro (by decide) so_1328 (xi_in (by omega) (by omega)) dX12_draw_182 (fun I36 H locs eI36 g => ?_)
                    have hI := hI.wr eI36 tdro (rfl : h_bd 1328 _ = ((-1), 7)) (by omega) (by omega)
                    have hF := hF.wr eI36 tdro rfl
                    refine lv_iconst (v := 2) hx hb dX12_draw_183 (by decide) ?_
                    refine lv_istore_n (lv' := [(3, .int 2), (5, .int rh29), (4, .int rh27), (0, .ref a0), (1, .int a), (2, .int b)]) hx hb dX12_draw_184 rfl hl (by decide) rfl (fun ls hl => ?_)
                    refine lv_iconst (v := 0) hx hb dX12_draw_185 (by decide) ?_
                    refine lv_istore (lv' := [(4, .int 0), (3, .int 2), (5, .int rh29), (0, .ref a0), (1, .int a), (2, .int b)]) hx hb dX12_draw_186 hl (by decide) rfl (fun ls hl => ?_)
                    have loop188_1 : ∀ (n : Nat) (I39 : tI) (H : Heap) (locs : List Loc) (ls : Array Slot) (v37 v38 : Int32), h_G h_so h_fk E A z I39 L0 s s.heap H locs → h_I z I39 → h_F [(1348, 999), (1328, 999), (1325, 999), (1327, 999), (1329, 999), (13, 31), (13, 33)] z I0 I39 → lv_has ls 6 [(0, .ref a0), (3, .int v37), (4, .int v38)] → (0 ≤ v37.toInt ∧ v37.toInt ≤ 8) → (0 ≤ v38.toInt ∧ v38.toInt ≤ 8) → h_F [(1328, 999)] z I36 I39 → ((v37.toInt).toNat = q_fl lx ly (v38.toInt).toNat) → (q_oi (fun k => I39 dro (dk + k)) (I0 tb) lx ly (v37.toInt).toNat) → (∀ k : Nat, (k < dk ∨ dk + 8 ≤ k) → I39 dro k = I0 dro k) → (∀ k : Nat, k < 8 → (I39 io k).toInt = if (k : Int) = lx ∨ (k : Int) = ly then 1 else 0) → (8 - v38.toInt) < (n : Int) → W pr_ l ev_ (headSpec wsX12_draw ({ frames := 5, cells := 0, slots := 0, locals := 320 })).room s m ([.ref a0, .int a, .int b] : List Value).toArray below meth cd_ H locs 0 0 (MQ below (va_Qi (fun r (I1 : tI) => h_I z I1 ∧ h_F [(1348, 999), (1328, 999), (1325, 999), (1327, 999), (1329, 999), (13, 31), (13, 33)] z I0 I1 ∧ ((¬ q_draws u_ a_t b_t ∧ r.toInt = -2 ∧ (∀ a k : Nat, z.ty a ≠ 1348 → I1 a k = I0 a k)) ∨ (q_draws u_ a_t b_t ∧ ((I0 a0 30).toInt = 0 ∨ (I0 a0 31).toInt = 1) ∧ r.toInt = -4 ∧ (∀ a k : Nat, z.ty a ≠ 1348 → I1 a k = I0 a k)) ∨ (q_draws u_ a_t b_t ∧ (I0 a0 30).toInt = 1 ∧ (I0 a0 31).toInt = 0 ∧ r.toInt = 1 ∧ I1 a0 31 = 1 ∧ I1 a0 33 = 0 ∧ (∀ k : Nat, k < 8 → I1 (h_ad z a0 28) ((8 * (I0 a0 12).toInt.toNat) + k) = I0 (h_ad z a0 32) (q_od (q_lx u_ a_t) (q_ly u_ a_t b_t) k)) ∧ (∀ k : Nat, (k < (8 * (I0 a0 12).toInt.toNat) ∨ (8 * (I0 a0 12).toInt.toNat) + 8 ≤ k) → I1 (h_ad z a0 28) k = I0 (h_ad z a0 28) k) ∧ h_hoi I0 I1 (h_ad z a0 25) (h_ad z a0 27) (h_ad z a0 26) (h_ad z a0 29) (8 * (I0 a0 12).toInt.toNat) (fun k : Nat => I1 (h_ad z a0 28) ((8 * (I0 a0 12).toInt.toNat) + k)) (I0 a0 12).toInt 8))) (fun (I1 : tI) t => h_B E A z I1 L0 t) A) ([.ref a0, .int a, .int b] : List Value).toArray s 0 0 A) (F0 m 188 ls []) := by
                      intro n
                      induction n with
                      | zero => intro I39 H locs ls v37 v38 g hI hF hl jv37 jv38 hL188 hx188_0 hx188_1 hx188_2 hx188_3 hn; exact absurd hn (by omega)
                      | succ n ih188 =>
                        intro I39 H locs ls v37 v38 g hI hF hl jv37 jv38 hL188 hx188_0 hx188_1 hx188_2 hx188_3 hn
                        refine lv_iload hx hb dX12_draw_188 (lv_at hl 2 rfl) ?_
                        refine lv_bipush (v := 8) hx hb dX12_draw_190 (by decide) ?_
                        refine lv_icmp_ge (tgt := 238) hx hb dX12_draw_192 (by decide) (fun c40 => ?_) (fun c40 => ?_)
                        · have ic40 := (xi_le c40 (by decide) rfl : 8 ≤ v38.toInt)
                          have n8 : v37.toInt.toNat = 8 := by rw [hx188_0, show v38.toInt.toNat = 8 by omega]; exact q_fl8 hq
                          rw [n8] at hx188_1
                          obtain ⟨oo, eoo⟩ : ∃ f : Nat → Int32, f = fun k : Nat => I39 dro (dk + k) := ⟨_, rfl⟩
                          have hoo : ∀ k : Nat, k < 8 → oo k = I0 tb (q_od lx ly k) := by rw [eoo]; exact fun k hk => hx188_1 k hk
                          have hob8 : ∀ k : Nat, k < 8 → 0 ≤ (oo k).toInt ∧ (oo k).toInt ≤ 7 := fun k hk => by rw [hoo k hk]; exact hI0.rd tb _ ttb rfl (rfl : h_bd 1332 _ = (0, 7))
                          refine lv_iconst (v := 0) hx hb dX12_draw_238 (by decide) ?_
                          refine lv_istore (lv' := [(4, .int 0), (0, .ref a0), (3, .int v37)]) hx hb dX12_draw_239 hl (by decide) rfl (fun ls hl => ?_)
                          have loop241_2 : ∀ (n : Nat) (I42 : tI) (H : Heap) (locs : List Loc) (ls : Array Slot) (v41 : Int32), h_G h_so h_fk E A z I42 L0 s s.heap H locs → h_I z I42 → h_F [(1348, 999), (1328, 999), (1325, 999), (1327, 999), (1329, 999), (13, 31), (13, 33)] z I0 I42 → lv_has ls 6 [(0, .ref a0), (4, .int v41)] → (0 ≤ v41.toInt ∧ v41.toInt ≤ 8) → h_F [(1325, 999), (1327, 999), (1329, 999)] z I39 I42 → (h_hoi I0 I42 ow gu gv dt dk oo f0_12.toInt (v41.toInt).toNat) → (8 - v41.toInt) < (n : Int) → W pr_ l ev_ (headSpec wsX12_draw ({ frames := 5, cells := 0, slots := 0, locals := 320 })).room s m ([.ref a0, .int a, .int b] : List Value).toArray below meth cd_ H locs 0 0 (MQ below (va_Qi (fun r (I1 : tI) => h_I z I1 ∧ h_F [(1348, 999), (1328, 999), (1325, 999), (1327, 999), (1329, 999), (13, 31), (13, 33)] z I0 I1 ∧ ((¬ q_draws u_ a_t b_t ∧ r.toInt = -2 ∧ (∀ a k : Nat, z.ty a ≠ 1348 → I1 a k = I0 a k)) ∨ (q_draws u_ a_t b_t ∧ ((I0 a0 30).toInt = 0 ∨ (I0 a0 31).toInt = 1) ∧ r.toInt = -4 ∧ (∀ a k : Nat, z.ty a ≠ 1348 → I1 a k = I0 a k)) ∨ (q_draws u_ a_t b_t ∧ (I0 a0 30).toInt = 1 ∧ (I0 a0 31).toInt = 0 ∧ r.toInt = 1 ∧ I1 a0 31 = 1 ∧ I1 a0 33 = 0 ∧ (∀ k : Nat, k < 8 → I1 (h_ad z a0 28) ((8 * (I0 a0 12).toInt.toNat) + k) = I0 (h_ad z a0 32) (q_od (q_lx u_ a_t) (q_ly u_ a_t b_t) k)) ∧ (∀ k : Nat, (k < (8 * (I0 a0 12).toInt.toNat) ∨ (8 * (I0 a0 12).toInt.toNat) + 8 ≤ k) → I1 (h_ad z a0 28) k = I0 (h_ad z a0 28) k) ∧ h_hoi I0 I1 (h_ad z a0 25) (h_ad z a0 27) (h_ad z a0 26) (h_ad z a0 29) (8 * (I0 a0 12).toInt.toNat) (fun k : Nat => I1 (h_ad z a0 28) ((8 * (I0 a0 12).toInt.toNat) + k)) (I0 a0 12).toInt 8))) (fun (I1 : tI) t => h_B E A z I1 L0 t) A) ([.ref a0, .int a, .int b] : List Value).toArray s 0 0 A) (F0 m 241 ls []) := by
                            intro n
                            induction n with
                            | zero => intro I42 H locs ls v41 g hI hF hl jv41 hL241 hx241_0 hn; exact absurd hn (by omega)
                            | succ n ih241 =>
                              intro I42 H locs ls v41 g hI hF hl jv41 hL241 hx241_0 hn
                              refine lv_iload hx hb dX12_draw_241 (lv_at hl 1 rfl) ?_
                              refine lv_bipush (v := 8) hx hb dX12_draw_243 (by decide) ?_
                              refine lv_icmp_ge (tgt := 335) hx hb dX12_draw_245 (by decide) (fun c43 => ?_) (fun c43 => ?_)
                              · have ic43 := (xi_le c43 (by decide) rfl : 8 ≤ v41.toInt)
                                refine lv_aload_n hx hb dX12_draw_335 rfl (lv_at hl 0 rfl) ?_
                                refine lv_iconst (v := 1) hx hb dX12_draw_336 (by decide) ?_
                                refine h_putI (ty := .boolean) (v := 1) hx hb hts iX12 tyX12 tyX12_ok nmX12 hown g t_a0 (by decide) so_13 rfl 31 (by decide) rfl (hts (.fieldLink RX12 264 "CapLeagueModel" "isDrawn" "Z") (by decide +kernel)) rfl rfl (by decide +kernel) (by decide) (by decide) dX12_draw_337 (fun I44 H locs eI44 g => ?_)
                                have hI := hI.wr eI44 t_a0 (rfl : h_bd 13 31 = (0, 1)) (by decide) (by decide)
                                have hF := hF.wr eI44 t_a0 rfl
                                refine lv_aload_n hx hb dX12_draw_340 rfl (lv_at hl 0 rfl) ?_
                                refine lv_iconst (v := 0) hx hb dX12_draw_341 (by decide) ?_
                                refine h_putI (ty := .int) (v := 0) hx hb hts iX12 tyX12 tyX12_ok nmX12 hown g t_a0 (by decide) so_13 rfl 33 (by decide) rfl (hts (.fieldLink RX12 247 "CapLeagueModel" "moves" "I") (by decide +kernel)) rfl rfl (by decide +kernel) rfl rfl dX12_draw_342 (fun I45 H locs eI45 g => ?_)
                                have hI := hI.wr eI45 t_a0 (rfl : h_bd 13 33 = (0, 12)) (by decide) (by decide)
                                have hF := hF.wr eI45 t_a0 rfl
                                refine lv_iconst (v := 1) hx hb dX12_draw_345 (by decide) ?_
                                have hS := g.2.1
                                exact W.iret (v := 1) hx hb hr (fun t ht hW => ⟨⟨1, I45, rfl, ⟨hI, hF, (by rw [qf0_30, qf0_31, ← ef0_12, adro, atb, aow, agu, agv, adt, ← elx, ← ely, ← edk]; have eo : (fun k : Nat => I45 dro (dk + k)) = oo := (by rw [eoo]; exact funext (fun j => by have h9 : ∀ k : Nat, I45 dro k = I39 dro k := (fun k => (((h_n1 eI45 tdro t_a0 (by decide)).trans (h_n1 eI44 tdro t_a0 (by decide))).trans (h_F.at hL241 tdro rfl) : I45 dro k = I39 dro k)); exact h9 _)); rw [eo]; have h9 := hx241_0; rw [show v41.toInt.toNat = 8 by omega] at h9; exact Or.inr (Or.inr ⟨hdr, by omega, by omega, by decide, (h_n2 eI45 (by decide)).trans (h_n0 eI44), h_n0 eI45, (fun k hk => (congrFun eo k).trans (hoo k hk)), (fun k hk => (((h_n1 eI45 tdro t_a0 (by decide)).trans (h_n1 eI44 tdro t_a0 (by decide))).trans (h_F.at hL241 tdro rfl) : I45 dro k = I39 dro k).trans (hx188_2 k hk)), h9.c (fun k => ((h_n1 eI45 tow t_a0 (by decide)).trans (h_n1 eI44 tow t_a0 (by decide)))) (fun k => ((h_n1 eI45 tgu t_a0 (by decide)).trans (h_n1 eI44 tgu t_a0 (by decide)))) (fun k => ((h_n1 eI45 tdt t_a0 (by decide)).trans (h_n1 eI44 tdt t_a0 (by decide))))⟩))⟩, h_ret g ht⟩, hS.F ht⟩) hS.2.2 dX12_draw_346
                              · have ic43 := (xi_nle c43 (by decide) rfl : v41.toInt < 8)
                                refine lv_bipush (v := 10) hx hb dX12_draw_248 (by decide) ?_
                                refine lv_aload_n hx hb dX12_draw_250 rfl (lv_at hl 0 rfl) ?_
                                refine h_get (v := .ref dro) hx hb hts iX12 hown g t_a0 (by decide) so_13 rfl 28 (by decide) (hts (.fieldLink RX12 67 "CapLeagueModel" "drawnOf" "[I") (by decide +kernel)) rfl dX12_draw_251 (by show va_rf (z.R a0 28) = _; rw [rdro]; rfl) ?_
                                refine lv_bipush (v := 8) hx hb dX12_draw_254 (by decide) ?_
                                refine lv_aload_n hx hb dX12_draw_256 rfl (lv_at hl 0 rfl) ?_
                                refine h_get (v := .int f0_12) hx hb hts iX12 hown g t_a0 (by decide) so_13 rfl 12 (by decide) (hts (.fieldLink RX12 187 "CapLeagueModel" "clock" "I") (by decide +kernel)) rfl dX12_draw_257 (congrArg Value.int ((h_F.at hL241 t_a0 rfl).trans ((h_F.at hL188 t_a0 rfl).trans ((h_n1 eI36 t_a0 tdro (by decide)).trans ((h_n1 eI33 t_a0 tdro (by decide)).trans ((h_n1 eI30 t_a0 tio (by decide)).trans ((h_n1 eI28 t_a0 tio (by decide)).trans ((h_F.at hL2 t_a0 rfl).trans (ef0_12.symm))))))))) ?_
                                refine lv_imul hx hb dX12_draw_260 ?_
                                refine xw_i (v := v31) ev31.symm ?_
                                refine lv_iload hx hb dX12_draw_261 (lv_at hl 1 rfl) ?_
                                refine lv_iadd hx hb dX12_draw_263 ?_
                                refine lv_topi (fun v46 ev46 => ?_)
                                have jv46 : v46.toInt = v31.toInt + v41.toInt := xi_add ev46 rfl rfl (by omega) (by omega)
                                refine h_ald hx hb g tdro (by decide) so_1328 (xi_in (by omega) (by omega)) dX12_draw_264 ?_
                                refine lv_topi (fun v47 ev47 => ?_)
                                have jv47 := hI.rd dro v46.toNatClampNeg tdro ev47 (rfl : h_bd 1328 _ = ((-1), 7))
                                have gv47 : oo v41.toInt.toNat = v47 := by rw [eoo]; show I39 dro (dk + v41.toInt.toNat) = v47; rw [← (h_keq (k := dk + v41.toInt.toNat) rfl (by omega) (by omega) : v46.toNatClampNeg = dk + v41.toInt.toNat), ev47]; exact (h_F.at hL241 tdro rfl).symm
                                have mv47 := hob8 v41.toInt.toNat (by omega)
                                rw [gv47] at mv47
                                refine lv_imul hx hb dX12_draw_265 ?_
                                refine lv_topi (fun v48 ev48 => ?_)
                                have jv48 : v48.toInt = 10 * v47.toInt := xi_mul ev48 (by decide) rfl (by omega) (by omega)
                                refine lv_aload_n hx hb dX12_draw_266 rfl (lv_at hl 0 rfl) ?_
                                refine h_get (v := .int f0_12) hx hb hts iX12 hown g t_a0 (by decide) so_13 rfl 12 (by decide) (hts (.fieldLink RX12 187 "CapLeagueModel" "clock" "I") (by decide +kernel)) rfl dX12_draw_267 (congrArg Value.int ((h_F.at hL241 t_a0 rfl).trans ((h_F.at hL188 t_a0 rfl).trans ((h_n1 eI36 t_a0 tdro (by decide)).trans ((h_n1 eI33 t_a0 tdro (by decide)).trans ((h_n1 eI30 t_a0 tio (by decide)).trans ((h_n1 eI28 t_a0 tio (by decide)).trans ((h_F.at hL2 t_a0 rfl).trans (ef0_12.symm))))))))) ?_
                                refine lv_iadd hx hb dX12_draw_270 ?_
                                refine lv_topi (fun v49 ev49 => ?_)
                                have jv49 : v49.toInt = v48.toInt + f0_12.toInt := xi_add ev49 rfl rfl (by omega) (by omega)
                                refine lv_istore (lv' := [(5, .int v49), (0, .ref a0), (4, .int v41)]) hx hb dX12_draw_271 hl (by decide) rfl (fun ls hl => ?_)
                                have kt : v49.toNatClampNeg = (v49.toInt).toNat := h_keq rfl (by omega) (by omega)
                                have kq : (v49.toInt).toNat = q_ky oo f0_12.toInt v41.toInt.toNat := by unfold q_ky; rw [gv47]; omega
                                refine lv_iload hx hb dX12_draw_273 (lv_at hl 2 rfl) ?_
                                refine lv_aload_n hx hb dX12_draw_275 rfl (lv_at hl 1 rfl) ?_
                                refine h_get (v := .ref gu) hx hb hts iX12 hown g t_a0 (by decide) so_13 rfl 27 (by decide) (hts (.fieldLink RX12 64 "CapLeagueModel" "guarded" "[I") (by decide +kernel)) rfl dX12_draw_276 (by show va_rf (z.R a0 27) = _; rw [rgu]; rfl) ?_
                                refine lv_iload hx hb dX12_draw_279 (lv_at hl 0 rfl) ?_
                                refine h_ald hx hb g tgu (by decide) so_1327 (xi_in (by omega) (by omega)) dX12_draw_281 ?_
                                refine lv_topi (fun v50 ev50 => ?_)
                                have jv50 := hI.rd gu v49.toNatClampNeg tgu ev50 (rfl : h_bd 1327 _ = ((-2147483648), 2147483647))
                                refine lv_icmp_ge (tgt := 307) hx hb dX12_draw_282 (by decide) (fun c51 => ?_) (fun c51 => ?_)
                                · have ic51 := (xi_le c51 rfl rfl : v50.toInt ≤ v41.toInt)
                                  refine lv_aload_n hx hb dX12_draw_307 rfl (lv_at hl 1 rfl) ?_
                                  refine h_get (v := .ref dt) hx hb hts iX12 hown g t_a0 (by decide) so_13 rfl 29 (by decide) (hts (.fieldLink RX12 70 "CapLeagueModel" "drawnTo" "[I") (by decide +kernel)) rfl dX12_draw_308 (by show va_rf (z.R a0 29) = _; rw [rdt]; rfl) ?_
                                  refine lv_bipush (v := 8) hx hb dX12_draw_311 (by decide) ?_
                                  refine lv_aload_n hx hb dX12_draw_313 rfl (lv_at hl 1 rfl) ?_
                                  refine h_get (v := .int f0_12) hx hb hts iX12 hown g t_a0 (by decide) so_13 rfl 12 (by decide) (hts (.fieldLink RX12 187 "CapLeagueModel" "clock" "I") (by decide +kernel)) rfl dX12_draw_314 (congrArg Value.int ((h_F.at hL241 t_a0 rfl).trans ((h_F.at hL188 t_a0 rfl).trans ((h_n1 eI36 t_a0 tdro (by decide)).trans ((h_n1 eI33 t_a0 tdro (by decide)).trans ((h_n1 eI30 t_a0 tio (by decide)).trans ((h_n1 eI28 t_a0 tio (by decide)).trans ((h_F.at hL2 t_a0 rfl).trans (ef0_12.symm))))))))) ?_
                                  refine lv_imul hx hb dX12_draw_317 ?_
                                  refine xw_i (v := v31) ev31.symm ?_
                                  refine lv_iload hx hb dX12_draw_318 (lv_at hl 2 rfl) ?_
                                  refine lv_iadd hx hb dX12_draw_320 ?_
                                  refine xw_i (v := v46) ev46.symm ?_
                                  refine lv_aload_n hx hb dX12_draw_321 rfl (lv_at hl 1 rfl) ?_
                                  refine h_get (v := .ref ow) hx hb hts iX12 hown g t_a0 (by decide) so_13 rfl 25 (by decide) (hts (.fieldLink RX12 58 "CapLeagueModel" "owner" "[I") (by decide +kernel)) rfl dX12_draw_322 (by show va_rf (z.R a0 25) = _; rw [row]; rfl) ?_
                                  refine lv_iload hx hb dX12_draw_325 (lv_at hl 0 rfl) ?_
                                  refine h_ald hx hb g tow (by decide) so_1325 (xi_in (by omega) (by omega)) dX12_draw_327 ?_
                                  refine lv_topi (fun v52 ev52 => ?_)
                                  have jv52 := hI.rd ow v49.toNatClampNeg tow ev52 (rfl : h_bd 1325 _ = ((-2147483648), 2147483647))
                                  refine h_ast hx hb g tdt (by decide) so_1329 (xi_in (by omega) (by omega)) dX12_draw_328 (fun I53 H locs eI53 g => ?_)
                                  have hI := hI.wr eI53 tdt (rfl : h_bd 1329 _ = ((-2147483648), 2147483647)) (xi_lo _) (Int.le_of_lt_add_one (xi_hi _))
                                  have hF := hF.wr eI53 tdt rfl
                                  obtain ⟨v54, ev54⟩ : ∃ z : Int32, z = v41 + 1 := ⟨_, rfl⟩
                                  have jv54 : v54.toInt = v41.toInt + 1 := xi_add ev54 rfl (by decide) (by omega) (by omega)
                                  refine lv_iinc (v := v54) (lv' := [(4, .int v54), (5, .int v49), (0, .ref a0)]) hx hb dX12_draw_329 hl (k := 2) rfl (by rw [ev54]; rfl) (by decide) rfl (fun ls hl => ?_)
                                  refine lv_goto (tgt := 241) hx hb dX12_draw_332 (by decide) ?_
                                  exact ih241 I53 _ _ _ v54 g hI hF (lv_sub hl [2, 0] rfl) (by omega) (h_F.wr (h_F.call (h_F.rf : h_F [(1325, 999), (1327, 999), (1329, 999)] z I39 I39) hL241 rfl) eI53 tdt rfl) (h_hoi.s (w := v52) hx241_0 (by omega : (v54.toInt).toNat = v41.toInt.toNat + 1) kq (Or.inr ⟨by rw [show I42 gu (v49.toInt).toNat = v50 by rw [← kt]; exact ev50.symm]; omega, fun j => h_n1 eI53 tow tdt (by decide), fun j => h_n1 eI53 tgu tdt (by decide)⟩) (by rw [← kt]; exact ((h_n1 eI53 tow tdt (by decide)).trans (ev52.symm)).symm) (fun k => (h_wif eI53 (h_keq (k := dk + v41.toInt.toNat) rfl (by omega) (by omega)) k).trans (by rw [show I42 dt k = I42 dt k from rfl]))) (by omega)
                                · have ic51 := (xi_nle c51 rfl rfl : v41.toInt < v50.toInt)
                                  refine lv_aload_n hx hb dX12_draw_285 rfl (lv_at hl 1 rfl) ?_
                                  refine h_get (v := .ref ow) hx hb hts iX12 hown g t_a0 (by decide) so_13 rfl 25 (by decide) (hts (.fieldLink RX12 58 "CapLeagueModel" "owner" "[I") (by decide +kernel)) rfl dX12_draw_286 (by show va_rf (z.R a0 25) = _; rw [row]; rfl) ?_
                                  refine lv_iload hx hb dX12_draw_289 (lv_at hl 0 rfl) ?_
                                  refine lv_aload_n hx hb dX12_draw_291 rfl (lv_at hl 1 rfl) ?_
                                  refine h_get (v := .ref gv) hx hb hts iX12 hown g t_a0 (by decide) so_13 rfl 26 (by decide) (hts (.fieldLink RX12 61 "CapLeagueModel" "giver" "[I") (by decide +kernel)) rfl dX12_draw_292 (by show va_rf (z.R a0 26) = _; rw [rgv]; rfl) ?_
                                  refine lv_iload hx hb dX12_draw_295 (lv_at hl 0 rfl) ?_
                                  refine h_ald hx hb g tgv (by decide) so_1326 (xi_in (by omega) (by omega)) dX12_draw_297 ?_
                                  refine lv_topi (fun v55 ev55 => ?_)
                                  have jv55 := hI.rd gv v49.toNatClampNeg tgv ev55 (rfl : h_bd 1326 _ = ((-2147483648), 2147483647))
                                  have gvx : I0 gv (v49.toInt).toNat = v55 := by rw [← kt, ev55]; exact (hF.at tgv rfl).symm
                                  refine h_ast hx hb g tow (by decide) so_1325 (xi_in (by omega) (by omega)) dX12_draw_298 (fun I56 H locs eI56 g => ?_)
                                  have hI := hI.wr eI56 tow (rfl : h_bd 1325 _ = ((-2147483648), 2147483647)) (xi_lo _) (Int.le_of_lt_add_one (xi_hi _))
                                  have hF := hF.wr eI56 tow rfl
                                  refine lv_aload_n hx hb dX12_draw_299 rfl (lv_at hl 1 rfl) ?_
                                  refine h_get (v := .ref gu) hx hb hts iX12 hown g t_a0 (by decide) so_13 rfl 27 (by decide) (hts (.fieldLink RX12 64 "CapLeagueModel" "guarded" "[I") (by decide +kernel)) rfl dX12_draw_300 (by show va_rf (z.R a0 27) = _; rw [rgu]; rfl) ?_
                                  refine lv_iload hx hb dX12_draw_303 (lv_at hl 0 rfl) ?_
                                  refine lv_iconst (v := 0) hx hb dX12_draw_305 (by decide) ?_
                                  refine h_ast hx hb g tgu (by decide) so_1327 (xi_in (by omega) (by omega)) dX12_draw_306 (fun I57 H locs eI57 g => ?_)
                                  have hI := hI.wr eI57 tgu (rfl : h_bd 1327 _ = ((-2147483648), 2147483647)) (by decide) (by decide)
                                  have hF := hF.wr eI57 tgu rfl
                                  refine lv_aload_n hx hb dX12_draw_307 rfl (lv_at hl 1 rfl) ?_
                                  refine h_get (v := .ref dt) hx hb hts iX12 hown g t_a0 (by decide) so_13 rfl 29 (by decide) (hts (.fieldLink RX12 70 "CapLeagueModel" "drawnTo" "[I") (by decide +kernel)) rfl dX12_draw_308 (by show va_rf (z.R a0 29) = _; rw [rdt]; rfl) ?_
                                  refine lv_bipush (v := 8) hx hb dX12_draw_311 (by decide) ?_
                                  refine lv_aload_n hx hb dX12_draw_313 rfl (lv_at hl 1 rfl) ?_
                                  refine h_get (v := .int f0_12) hx hb hts iX12 hown g t_a0 (by decide) so_13 rfl 12 (by decide) (hts (.fieldLink RX12 187 "CapLeagueModel" "clock" "I") (by decide +kernel)) rfl dX12_draw_314 (congrArg Value.int ((h_n1 eI57 t_a0 tgu (by decide)).trans ((h_n1 eI56 t_a0 tow (by decide)).trans ((h_F.at hL241 t_a0 rfl).trans ((h_F.at hL188 t_a0 rfl).trans ((h_n1 eI36 t_a0 tdro (by decide)).trans ((h_n1 eI33 t_a0 tdro (by decide)).trans ((h_n1 eI30 t_a0 tio (by decide)).trans ((h_n1 eI28 t_a0 tio (by decide)).trans ((h_F.at hL2 t_a0 rfl).trans (ef0_12.symm))))))))))) ?_
                                  refine lv_imul hx hb dX12_draw_317 ?_
                                  refine xw_i (v := v31) ev31.symm ?_
                                  refine lv_iload hx hb dX12_draw_318 (lv_at hl 2 rfl) ?_
                                  refine lv_iadd hx hb dX12_draw_320 ?_
                                  refine xw_i (v := v46) ev46.symm ?_
                                  refine lv_aload_n hx hb dX12_draw_321 rfl (lv_at hl 1 rfl) ?_
                                  refine h_get (v := .ref ow) hx hb hts iX12 hown g t_a0 (by decide) so_13 rfl 25 (by decide) (hts (.fieldLink RX12 58 "CapLeagueModel" "owner" "[I") (by decide +kernel)) rfl dX12_draw_322 (by show va_rf (z.R a0 25) = _; rw [row]; rfl) ?_
                                  refine lv_iload hx hb dX12_draw_325 (lv_at hl 0 rfl) ?_
                                  refine h_ald hx hb g tow (by decide) so_1325 (xi_in (by omega) (by omega)) dX12_draw_327 ?_
                                  refine xw_i ((h_n1 eI57 tow tgu (by decide)).trans (h_n0 eI56)) ?_
                                  refine h_ast hx hb g tdt (by decide) so_1329 (xi_in (by omega) (by omega)) dX12_draw_328 (fun I58 H locs eI58 g => ?_)
                                  have hI := hI.wr eI58 tdt (rfl : h_bd 1329 _ = ((-2147483648), 2147483647)) (xi_lo _) (Int.le_of_lt_add_one (xi_hi _))
                                  have hF := hF.wr eI58 tdt rfl
                                  obtain ⟨v59, ev59⟩ : ∃ z : Int32, z = v41 + 1 := ⟨_, rfl⟩
                                  have jv59 : v59.toInt = v41.toInt + 1 := xi_add ev59 rfl (by decide) (by omega) (by omega)
                                  refine lv_iinc (v := v59) (lv' := [(4, .int v59), (5, .int v49), (0, .ref a0)]) hx hb dX12_draw_329 hl (k := 2) rfl (by rw [ev59]; rfl) (by decide) rfl (fun ls hl => ?_)
                                  refine lv_goto (tgt := 241) hx hb dX12_draw_332 (by decide) ?_
                                  exact ih241 I58 _ _ _ v59 g hI hF (lv_sub hl [2, 0] rfl) (by omega) (h_F.wr (h_F.wr (h_F.wr (h_F.call (h_F.rf : h_F [(1325, 999), (1327, 999), (1329, 999)] z I39 I39) hL241 rfl) eI56 tow rfl) eI57 tgu rfl) eI58 tdt rfl) (h_hoi.s (w := v55) hx241_0 (by omega : (v59.toInt).toNat = v41.toInt.toNat + 1) kq (Or.inl ⟨by rw [show I42 gu (v49.toInt).toNat = v50 by rw [← kt]; exact ev50.symm]; omega, by rw [gvx]; exact fun j => (h_n1 eI58 tow tdt (by decide)).trans ((h_n1 eI57 tow tgu (by decide)).trans (h_wif eI56 kt j)), fun j => (h_n1 eI58 tgu tdt (by decide)).trans ((h_wif eI57 kt j).trans (by rw [h_n1 eI56 tgu tow (by decide)]))⟩) (by rw [← kt]; exact ((h_n1 eI58 tow tdt (by decide)).trans ((h_n1 eI57 tow tgu (by decide)).trans (h_n0 eI56))).symm) (fun k => (h_wif eI58 (h_keq (k := dk + v41.toInt.toNat) rfl (by omega) (by omega)) k).trans (by rw [show I57 dt k = I42 dt k from (h_n1 eI57 tdt tgu (by decide)).trans (h_n1 eI56 tdt tow (by decide))]))) (by omega)
                          have kc60 : (0 : Int32).toInt = 0 := by decide
                          exact loop241_2 _ I39 _ _ _ (0) g hI hF (lv_sub hl [1, 0] rfl) ⟨by decide, by decide⟩ (h_F.rf : h_F [(1325, 999), (1327, 999), (1329, 999)] z I39 I39) (h_hoi.z (fun k => (h_F.at hL188 tow rfl).trans ((h_n1 eI36 tow tdro (by decide)).trans ((h_n1 eI33 tow tdro (by decide)).trans ((h_n1 eI30 tow tio (by decide)).trans ((h_n1 eI28 tow tio (by decide)).trans (h_F.at hL2 tow rfl)))))) (fun k => (h_F.at hL188 tgu rfl).trans ((h_n1 eI36 tgu tdro (by decide)).trans ((h_n1 eI33 tgu tdro (by decide)).trans ((h_n1 eI30 tgu tio (by decide)).trans ((h_n1 eI28 tgu tio (by decide)).trans (h_F.at hL2 tgu rfl)))))) (fun k => (h_F.at hL188 tdt rfl).trans ((h_n1 eI36 tdt tdro (by decide)).trans ((h_n1 eI33 tdt tdro (by decide)).trans ((h_n1 eI30 tdt tio (by decide)).trans ((h_n1 eI28 tdt tio (by decide)).trans (h_F.at hL2 tdt rfl))))))) (show (8 - (0 : Int)) < (((8 - (0 : Int)).toNat + 1 : Nat) : Int) by omega)
                        · have ic40 := (xi_nle c40 (by decide) rfl : v38.toInt < 8)
                          refine lv_aload_n hx hb dX12_draw_195 rfl (lv_at hl 0 rfl) ?_
                          refine h_get (v := .ref io) hx hb hts iX12 hown g t_a0 (by decide) so_13 rfl 48 (by decide) (hts (.fieldLink RX12 109 "CapLeagueModel" "isOut" "[Z") (by decide +kernel)) rfl dX12_draw_196 (by show va_rf (z.R a0 48) = _; rw [rio]; rfl) ?_
                          refine lv_iload hx hb dX12_draw_199 (lv_at hl 2 rfl) ?_
                          refine h_zald hx hb g tio (by decide) so_1348 (xi_in (by omega) (by omega)) dX12_draw_201 ?_
                          refine lv_topi (fun v61 ev61 => ?_)
                          have jv61 := hI.rd io v38.toNatClampNeg tio ev61 (rfl : h_bd 1348 _ = (0, 1))
                          have ho := hx188_3 v38.toInt.toNat (by omega)
                          rw [show I39 io v38.toInt.toNat = v61 by rw [ev61, (h_keq rfl (by omega) (by omega) : v38.toNatClampNeg = v38.toInt.toNat)], show ((v38.toInt.toNat : Nat) : Int) = v38.toInt by omega] at ho
                          refine lv_if_eq (tgt := 208) hx hb dX12_draw_202 (by decide) (fun c62 => ?_) (fun c62 => ?_)
                          · have ic62 := (xi_eq c62 rfl (by decide) : v61.toInt = 0)
                            have hne : v38.toInt ≠ lx ∧ v38.toInt ≠ ly := by refine ⟨fun h9 => ?_, fun h9 => ?_⟩; (rw [if_pos (Or.inl h9)] at ho; omega); (rw [if_pos (Or.inr h9)] at ho; omega)
                            have hl8 := (q_fln (i := v38.toInt.toNat) hq (by omega) (by omega) (by omega)).2.2
                            refine lv_aload_n hx hb dX12_draw_208 rfl (lv_at hl 0 rfl) ?_
                            refine h_get (v := .ref dro) hx hb hts iX12 hown g t_a0 (by decide) so_13 rfl 28 (by decide) (hts (.fieldLink RX12 67 "CapLeagueModel" "drawnOf" "[I") (by decide +kernel)) rfl dX12_draw_209 (by show va_rf (z.R a0 28) = _; rw [rdro]; rfl) ?_
                            refine lv_bipush (v := 8) hx hb dX12_draw_212 (by decide) ?_
                            refine lv_aload_n hx hb dX12_draw_214 rfl (lv_at hl 0 rfl) ?_
                            refine h_get (v := .int f0_12) hx hb hts iX12 hown g t_a0 (by decide) so_13 rfl 12 (by decide) (hts (.fieldLink RX12 187 "CapLeagueModel" "clock" "I") (by decide +kernel)) rfl dX12_draw_215 (congrArg Value.int ((h_F.at hL188 t_a0 rfl).trans ((h_n1 eI36 t_a0 tdro (by decide)).trans ((h_n1 eI33 t_a0 tdro (by decide)).trans ((h_n1 eI30 t_a0 tio (by decide)).trans ((h_n1 eI28 t_a0 tio (by decide)).trans ((h_F.at hL2 t_a0 rfl).trans (ef0_12.symm)))))))) ?_
                            refine lv_imul hx hb dX12_draw_218 ?_
                            refine xw_i (v := v31) ev31.symm ?_
                            refine lv_iload_n hx hb dX12_draw_219 rfl (lv_at hl 1 rfl) ?_
                            refine lv_iadd hx hb dX12_draw_220 ?_
                            refine lv_topi (fun v63 ev63 => ?_)
                            have jv63 : v63.toInt = v31.toInt + v37.toInt := xi_add ev63 rfl rfl (by omega) (by omega)
                            refine lv_aload_n hx hb dX12_draw_221 rfl (lv_at hl 0 rfl) ?_
                            refine h_get (v := .ref tb) hx hb hts iX12 hown g t_a0 (by decide) so_13 rfl 32 (by decide) (hts (.fieldLink RX12 73 "CapLeagueModel" "table" "[I") (by decide +kernel)) rfl dX12_draw_222 (by show va_rf (z.R a0 32) = _; rw [rtb]; rfl) ?_
                            refine lv_iload hx hb dX12_draw_225 (lv_at hl 2 rfl) ?_
                            refine h_ald hx hb g ttb (by decide) so_1332 (xi_in (by omega) (by omega)) dX12_draw_227 ?_
                            refine lv_topi (fun v64 ev64 => ?_)
                            have jv64 := hI.rd tb v38.toNatClampNeg ttb ev64 (rfl : h_bd 1332 _ = (0, 7))
                            have gv64 : I0 tb (v38.toInt).toNat = v64 := by rw [← (h_keq rfl (by omega) (by omega) : v38.toNatClampNeg = (v38.toInt).toNat), ev64]; exact (hF.at ttb rfl).symm
                            refine h_ast hx hb g tdro (by decide) so_1328 (xi_in (by omega) (by omega)) dX12_draw_228 (fun I65 H locs eI65 g => ?_)
                            have hI := hI.wr eI65 tdro (rfl : h_bd 1328 _ = ((-1), 7)) (by omega) (by omega)
                            have hF := hF.wr eI65 tdro rfl
                            obtain ⟨v66, ev66⟩ : ∃ z : Int32, z = v37 + 1 := ⟨_, rfl⟩
                            have jv66 : v66.toInt = v37.toInt + 1 := xi_add ev66 rfl (by decide) (by omega) (by omega)
                            refine lv_iinc (v := v66) (lv' := [(3, .int v66), (0, .ref a0), (4, .int v38)]) hx hb dX12_draw_229 hl (k := 1) rfl (by rw [ev66]; rfl) (by decide) rfl (fun ls hl => ?_)
                            obtain ⟨v67, ev67⟩ : ∃ z : Int32, z = v38 + 1 := ⟨_, rfl⟩
                            have jv67 : v67.toInt = v38.toInt + 1 := xi_add ev67 rfl (by decide) (by omega) (by omega)
                            refine lv_iinc (v := v67) (lv' := [(4, .int v67), (3, .int v66), (0, .ref a0)]) hx hb dX12_draw_232 hl (k := 2) rfl (by rw [ev67]; rfl) (by decide) rfl (fun ls hl => ?_)
                            refine lv_goto (tgt := 188) hx hb dX12_draw_235 (by decide) ?_
                            have wd := h_wif eI65 (h_keq (k := dk + v37.toInt.toNat) rfl (by omega) (by omega))
                            have oiw := q_oi_w (f := fun k => I39 dro (dk + k)) (f1 := fun k => I65 dro (dk + k)) hx188_1 hx188_0 (by omega) hq (by omega) (by omega) gv64.symm (fun k => (wd (dk + k)).trans (q_ifc (by omega) _ _))
                            exact ih188 I65 _ _ _ v66 v67 g hI hF (lv_sub hl [2, 1, 0] rfl) (by omega) (by omega) (h_F.wr (h_F.call (h_F.rf : h_F [(1328, 999)] z I36 I36) hL188 rfl) eI65 tdro rfl) (by rw [show (v66.toInt).toNat = v37.toInt.toNat + 1 by omega, show (v67.toInt).toNat = v38.toInt.toNat + 1 by omega]; exact oiw.2) (by rw [show (v66.toInt).toNat = v37.toInt.toNat + 1 by omega]; exact oiw.1) (fun k hk => (wd k).trans ((if_neg (by omega)).trans (hx188_2 k hk))) (fun k hk => by rw [show I65 io k = I39 io k from h_n1 eI65 tio tdro (by decide)]; exact hx188_3 k hk) (by omega)
                          · have ic62 := (xi_ne c62 rfl (by decide) : v61.toInt ≠ 0)
                            have hin : v38.toInt = lx ∨ v38.toInt = ly := Classical.byContradiction (fun h9 => by rw [if_neg h9] at ho; omega)
                            refine lv_goto (tgt := 232) hx hb dX12_draw_205 (by decide) ?_
                            obtain ⟨v68, ev68⟩ : ∃ z : Int32, z = v38 + 1 := ⟨_, rfl⟩
                            have jv68 : v68.toInt = v38.toInt + 1 := xi_add ev68 rfl (by decide) (by omega) (by omega)
                            refine lv_iinc (v := v68) (lv' := [(4, .int v68), (0, .ref a0), (3, .int v37)]) hx hb dX12_draw_232 hl (k := 2) rfl (by rw [ev68]; rfl) (by decide) rfl (fun ls hl => ?_)
                            refine lv_goto (tgt := 188) hx hb dX12_draw_235 (by decide) ?_
                            exact ih188 I39 _ _ _ v37 v68 g hI hF (lv_sub hl [1, 2, 0] rfl) (by omega) (by omega) (h_F.call (h_F.rf : h_F [(1328, 999)] z I36 I36) hL188 rfl) (by rw [show (v68.toInt).toNat = v38.toInt.toNat + 1 by omega, q_flx hq (by omega) (by omega)]; exact hx188_0) (hx188_1) (hx188_2) (hx188_3) (by omega)
                    have kc69 : (2 : Int32).toInt = 2 := by decide
                    have kc70 : (0 : Int32).toInt = 0 := by decide
                    have wd0 := h_wif eI33 (h_keq (k := dk + 0) rfl (by omega) (by omega))
                    have wd1 := h_wif eI36 (h_keq (k := dk + 1) rfl (by omega) (by omega))
                    have oi2 := q_oi_2 (f := fun k => I36 dro (dk + k)) (r := I0 tb) (x := lx) (y := ly) (by omega) (by omega) (by omega) ((wd1 (dk + 0)).trans ((if_neg (by omega)).trans ((wd0 (dk + 0)).trans ((if_pos rfl).trans (by rw [← ex]; exact gv32.symm))))) ((wd1 (dk + 1)).trans ((if_pos rfl).trans (by rw [← ey]; exact gv35.symm)))
                    exact loop188_1 _ I36 _ _ _ (2) (0) g hI hF (lv_sub hl [3, 1, 0] rfl) ⟨by decide, by decide⟩ ⟨by decide, by decide⟩ (h_F.rf : h_F [(1328, 999)] z I36 I36) (oi2.2) (oi2.1) (fun k hk => (wd1 k).trans ((if_neg (by omega)).trans ((wd0 k).trans ((if_neg (by omega)).trans ((h_n1 eI30 tdro tio (by decide)).trans ((h_n1 eI28 tdro tio (by decide)).trans (h_F.at hL2 tdro rfl))))))) (fun k hk => by rw [show I36 io k = I30 io k from (h_n1 eI36 tio tdro (by decide)).trans (h_n1 eI33 tio tdro (by decide))]; exact h_io2 (fun k hk => hx2_0 k (by omega)) (h_wif eI28 kx) (by omega) (h_wif eI30 ky) (by omega) k hk) (show (8 - (0 : Int)) < (((8 - (0 : Int)).toNat + 1 : Nat) : Int) by omega)
                · have ic24 := (xi_ne c24 rfl (by decide) : f0_31.toInt ≠ 0)
                  refine lv_bipush (v := (-4)) hx hb dX12_draw_103 (by decide) ?_
                  have hS := g.2.1
                  exact W.iret (v := (-4)) hx hb hr (fun t ht hW => ⟨⟨(-4), I2, rfl, ⟨hI, hF, (by rw [qf0_30, qf0_31]; exact Or.inr (Or.inl ⟨hdr, by omega, by decide, fun a k ta => h_F_no48 hL2 ta⟩))⟩, h_ret g ht⟩, hS.F ht⟩) hS.2.2 dX12_draw_105
        · have ic5 := (xi_eq c5 rfl (by decide) : rh4.toInt = 0)
          refine lv_iload_n hx hb dX12_draw_30 rfl (lv_at hl 2 rfl) ?_
          refine lv_if_ne (tgt := 38) hx hb dX12_draw_31 (by decide) (fun c71 => ?_) (fun c71 => ?_)
          · have ic71 := (xi_ne c71 h_a (by decide) : a_t ≠ 0)
            refine lv_bipush (v := (-2)) hx hb dX12_draw_38 (by decide) ?_
            have hS := g.2.1
            exact W.iret (v := (-2)) hx hb hr (fun t ht hW => ⟨⟨(-2), I2, rfl, ⟨hI, hF, (Or.inl ⟨fun q => by rcases q with q | q; omega; omega, by decide, fun a k ta => h_F_no48 hL2 ta⟩)⟩, h_ret g ht⟩, hS.F ht⟩) hS.2.2 dX12_draw_40
          · have ic71 := (xi_eq c71 h_a (by decide) : a_t = 0)
            refine lv_iload_n hx hb dX12_draw_34 rfl (lv_at hl 3 rfl) ?_
            refine lv_if_eq (tgt := 89) hx hb dX12_draw_35 (by decide) (fun c72 => ?_) (fun c72 => ?_)
            · have ic72 := (xi_eq c72 h_b (by decide) : b_t = 0)
              have hdr : q_draws u_ a_t b_t := Or.inl ⟨by omega, by omega, by omega⟩
              have hq := q_lxq hok hdr
              have hlx := q_lxy hok hdr
              rw [← elx, ← ely] at hq hlx
              refine lv_aload_n hx hb dX12_draw_89 rfl (lv_at hl 1 rfl) ?_
              refine h_get (v := .int f0_30) hx hb hts iX12 hown g t_a0 (by decide) so_13 rfl 30 (by decide) (hts (.fieldLink RX12 306 "CapLeagueModel" "hasTable" "Z") (by decide +kernel)) rfl dX12_draw_90 (congrArg Value.int ((h_F.at hL2 t_a0 rfl).trans (ef0_30.symm))) ?_
              refine lv_if_eq (tgt := 103) hx hb dX12_draw_93 (by decide) (fun c73 => ?_) (fun c73 => ?_)
              · have ic73 := (xi_eq c73 rfl (by decide) : f0_30.toInt = 0)
                refine lv_bipush (v := (-4)) hx hb dX12_draw_103 (by decide) ?_
                have hS := g.2.1
                exact W.iret (v := (-4)) hx hb hr (fun t ht hW => ⟨⟨(-4), I2, rfl, ⟨hI, hF, (by rw [qf0_30, qf0_31]; exact Or.inr (Or.inl ⟨hdr, by omega, by decide, fun a k ta => h_F_no48 hL2 ta⟩))⟩, h_ret g ht⟩, hS.F ht⟩) hS.2.2 dX12_draw_105
              · have ic73 := (xi_ne c73 rfl (by decide) : f0_30.toInt ≠ 0)
                refine lv_aload_n hx hb dX12_draw_96 rfl (lv_at hl 1 rfl) ?_
                refine h_get (v := .int f0_31) hx hb hts iX12 hown g t_a0 (by decide) so_13 rfl 31 (by decide) (hts (.fieldLink RX12 264 "CapLeagueModel" "isDrawn" "Z") (by decide +kernel)) rfl dX12_draw_97 (congrArg Value.int ((h_F.at hL2 t_a0 rfl).trans (ef0_31.symm))) ?_
                refine lv_if_eq (tgt := 106) hx hb dX12_draw_100 (by decide) (fun c74 => ?_) (fun c74 => ?_)
                · have ic74 := (xi_eq c74 rfl (by decide) : f0_31.toInt = 0)
                  refine lv_aload_n hx hb dX12_draw_106 rfl (lv_at hl 1 rfl) ?_
                  refine vp_callSi (W.runV (As := []) (rest := []) ⟨hx, hb, hml, hown, hts⟩ (tX12_lotsF l E X A z I2 L0 a0 t_a0) (cwV 0 hts gX12_draw_X12_lots rfl rfl rfl (by decide +kernel) ⟨Nat.le_of_ble_eq_true rfl, Nat.le_of_ble_eq_true rfl⟩) ⟨h_blind _ _ _ _ _ _ _, h_recv g t_a0 (by decide) so_13 (q := (RX12, TX12, 51)) rfl, h_pre _ hE hk hX hA hI hR g⟩ rfl rfl hl.1 rfl (lv_room (Nat.le_of_ble_eq_true rfl)) dX12_draw_107 ⟨Nat.le_of_ble_eq_true rfl, Nat.le_of_ble_eq_true rfl⟩) (fun rh75 h75 => ?_)
                  obtain ⟨h75, h75p0⟩ := h75
                  have hrh75 : h_r12 (I2 (h_ad z a0 11)) (I2 (h_ad z a0 10)) (I2 a0 12).toInt u_ := by rw [ahy, alw, show I2 hy = I0 hy from funext (fun k => hF.at thy rfl), show I2 lw = I0 lw from funext (fun k => hF.at tlw rfl), show I2 a0 12 = I0 a0 12 from hF.at t_a0 rfl]; exact hrl
                  have lrh75 : rh75.toInt = q_nl u_ := h75p0 u_ hrh75 hok
                  clear h75p0
                  refine lv_if_le (tgt := 185) hx hb dX12_draw_110 (by decide) (fun c76 => ?_) (fun c76 => ?_)
                  · have ic76 := (xi_le c76 rfl (by decide) : rh75.toInt ≤ 0)
                    refine lv_iconst (v := 0) hx hb dX12_draw_185 (by decide) ?_
                    refine lv_istore (lv' := [(4, .int 0), (3, .int 0), (0, .ref a0), (1, .int a), (2, .int b)]) hx hb dX12_draw_186 hl (by decide) rfl (fun ls hl => ?_)
                    have loop188_3 : ∀ (n : Nat) (I79 : tI) (H : Heap) (locs : List Loc) (ls : Array Slot) (v77 v78 : Int32), h_G h_so h_fk E A z I79 L0 s s.heap H locs → h_I z I79 → h_F [(1348, 999), (1328, 999), (1325, 999), (1327, 999), (1329, 999), (13, 31), (13, 33)] z I0 I79 → lv_has ls 6 [(0, .ref a0), (3, .int v77), (4, .int v78)] → (0 ≤ v77.toInt ∧ v77.toInt ≤ 8) → (0 ≤ v78.toInt ∧ v78.toInt ≤ 8) → h_F [(1328, 999)] z I2 I79 → ((v77.toInt).toNat = q_fl lx ly (v78.toInt).toNat) → (q_oi (fun k => I79 dro (dk + k)) (I0 tb) lx ly (v77.toInt).toNat) → (∀ k : Nat, (k < dk ∨ dk + 8 ≤ k) → I79 dro k = I0 dro k) → (∀ k : Nat, k < 8 → (I79 io k).toInt = if (k : Int) = lx ∨ (k : Int) = ly then 1 else 0) → (8 - v78.toInt) < (n : Int) → W pr_ l ev_ (headSpec wsX12_draw ({ frames := 5, cells := 0, slots := 0, locals := 320 })).room s m ([.ref a0, .int a, .int b] : List Value).toArray below meth cd_ H locs 0 0 (MQ below (va_Qi (fun r (I1 : tI) => h_I z I1 ∧ h_F [(1348, 999), (1328, 999), (1325, 999), (1327, 999), (1329, 999), (13, 31), (13, 33)] z I0 I1 ∧ ((¬ q_draws u_ a_t b_t ∧ r.toInt = -2 ∧ (∀ a k : Nat, z.ty a ≠ 1348 → I1 a k = I0 a k)) ∨ (q_draws u_ a_t b_t ∧ ((I0 a0 30).toInt = 0 ∨ (I0 a0 31).toInt = 1) ∧ r.toInt = -4 ∧ (∀ a k : Nat, z.ty a ≠ 1348 → I1 a k = I0 a k)) ∨ (q_draws u_ a_t b_t ∧ (I0 a0 30).toInt = 1 ∧ (I0 a0 31).toInt = 0 ∧ r.toInt = 1 ∧ I1 a0 31 = 1 ∧ I1 a0 33 = 0 ∧ (∀ k : Nat, k < 8 → I1 (h_ad z a0 28) ((8 * (I0 a0 12).toInt.toNat) + k) = I0 (h_ad z a0 32) (q_od (q_lx u_ a_t) (q_ly u_ a_t b_t) k)) ∧ (∀ k : Nat, (k < (8 * (I0 a0 12).toInt.toNat) ∨ (8 * (I0 a0 12).toInt.toNat) + 8 ≤ k) → I1 (h_ad z a0 28) k = I0 (h_ad z a0 28) k) ∧ h_hoi I0 I1 (h_ad z a0 25) (h_ad z a0 27) (h_ad z a0 26) (h_ad z a0 29) (8 * (I0 a0 12).toInt.toNat) (fun k : Nat => I1 (h_ad z a0 28) ((8 * (I0 a0 12).toInt.toNat) + k)) (I0 a0 12).toInt 8))) (fun (I1 : tI) t => h_B E A z I1 L0 t) A) ([.ref a0, .int a, .int b] : List Value).toArray s 0 0 A) (F0 m 188 ls []) := by
                      intro n
                      induction n with
                      | zero => intro I79 H locs ls v77 v78 g hI hF hl jv77 jv78 hL188 hx188_0 hx188_1 hx188_2 hx188_3 hn; exact absurd hn (by omega)
                      | succ n ih188 =>
                        intro I79 H locs ls v77 v78 g hI hF hl jv77 jv78 hL188 hx188_0 hx188_1 hx188_2 hx188_3 hn
                        refine lv_iload hx hb dX12_draw_188 (lv_at hl 2 rfl) ?_
                        refine lv_bipush (v := 8) hx hb dX12_draw_190 (by decide) ?_
                        refine lv_icmp_ge (tgt := 238) hx hb dX12_draw_192 (by decide) (fun c80 => ?_) (fun c80 => ?_)
                        · have ic80 := (xi_le c80 (by decide) rfl : 8 ≤ v78.toInt)
                          have n8 : v77.toInt.toNat = 8 := by rw [hx188_0, show v78.toInt.toNat = 8 by omega]; exact q_fl8 hq
                          rw [n8] at hx188_1
                          obtain ⟨oo, eoo⟩ : ∃ f : Nat → Int32, f = fun k : Nat => I79 dro (dk + k) := ⟨_, rfl⟩
                          have hoo : ∀ k : Nat, k < 8 → oo k = I0 tb (q_od lx ly k) := by rw [eoo]; exact fun k hk => hx188_1 k hk
                          have hob8 : ∀ k : Nat, k < 8 → 0 ≤ (oo k).toInt ∧ (oo k).toInt ≤ 7 := fun k hk => by rw [hoo k hk]; exact hI0.rd tb _ ttb rfl (rfl : h_bd 1332 _ = (0, 7))
                          refine lv_iconst (v := 0) hx hb dX12_draw_238 (by decide) ?_
                          refine lv_istore (lv' := [(4, .int 0), (0, .ref a0), (3, .int v77)]) hx hb dX12_draw_239 hl (by decide) rfl (fun ls hl => ?_)
                          have loop241_4 : ∀ (n : Nat) (I82 : tI) (H : Heap) (locs : List Loc) (ls : Array Slot) (v81 : Int32), h_G h_so h_fk E A z I82 L0 s s.heap H locs → h_I z I82 → h_F [(1348, 999), (1328, 999), (1325, 999), (1327, 999), (1329, 999), (13, 31), (13, 33)] z I0 I82 → lv_has ls 6 [(0, .ref a0), (4, .int v81)] → (0 ≤ v81.toInt ∧ v81.toInt ≤ 8) → h_F [(1325, 999), (1327, 999), (1329, 999)] z I79 I82 → (h_hoi I0 I82 ow gu gv dt dk oo f0_12.toInt (v81.toInt).toNat) → (8 - v81.toInt) < (n : Int) → W pr_ l ev_ (headSpec wsX12_draw ({ frames := 5, cells := 0, slots := 0, locals := 320 })).room s m ([.ref a0, .int a, .int b] : List Value).toArray below meth cd_ H locs 0 0 (MQ below (va_Qi (fun r (I1 : tI) => h_I z I1 ∧ h_F [(1348, 999), (1328, 999), (1325, 999), (1327, 999), (1329, 999), (13, 31), (13, 33)] z I0 I1 ∧ ((¬ q_draws u_ a_t b_t ∧ r.toInt = -2 ∧ (∀ a k : Nat, z.ty a ≠ 1348 → I1 a k = I0 a k)) ∨ (q_draws u_ a_t b_t ∧ ((I0 a0 30).toInt = 0 ∨ (I0 a0 31).toInt = 1) ∧ r.toInt = -4 ∧ (∀ a k : Nat, z.ty a ≠ 1348 → I1 a k = I0 a k)) ∨ (q_draws u_ a_t b_t ∧ (I0 a0 30).toInt = 1 ∧ (I0 a0 31).toInt = 0 ∧ r.toInt = 1 ∧ I1 a0 31 = 1 ∧ I1 a0 33 = 0 ∧ (∀ k : Nat, k < 8 → I1 (h_ad z a0 28) ((8 * (I0 a0 12).toInt.toNat) + k) = I0 (h_ad z a0 32) (q_od (q_lx u_ a_t) (q_ly u_ a_t b_t) k)) ∧ (∀ k : Nat, (k < (8 * (I0 a0 12).toInt.toNat) ∨ (8 * (I0 a0 12).toInt.toNat) + 8 ≤ k) → I1 (h_ad z a0 28) k = I0 (h_ad z a0 28) k) ∧ h_hoi I0 I1 (h_ad z a0 25) (h_ad z a0 27) (h_ad z a0 26) (h_ad z a0 29) (8 * (I0 a0 12).toInt.toNat) (fun k : Nat => I1 (h_ad z a0 28) ((8 * (I0 a0 12).toInt.toNat) + k)) (I0 a0 12).toInt 8))) (fun (I1 : tI) t => h_B E A z I1 L0 t) A) ([.ref a0, .int a, .int b] : List Value).toArray s 0 0 A) (F0 m 241 ls []) := by
                            intro n
                            induction n with
                            | zero => intro I82 H locs ls v81 g hI hF hl jv81 hL241 hx241_0 hn; exact absurd hn (by omega)
                            | succ n ih241 =>
                              intro I82 H locs ls v81 g hI hF hl jv81 hL241 hx241_0 hn
                              refine lv_iload hx hb dX12_draw_241 (lv_at hl 1 rfl) ?_
                              refine lv_bipush (v := 8) hx hb dX12_draw_243 (by decide) ?_
                              refine lv_icmp_ge (tgt := 335) hx hb dX12_draw_245 (by decide) (fun c83 => ?_) (fun c83 => ?_)
                              · have ic83 := (xi_le c83 (by decide) rfl : 8 ≤ v81.toInt)
                                refine lv_aload_n hx hb dX12_draw_335 rfl (lv_at hl 0 rfl) ?_
                                refine lv_iconst (v := 1) hx hb dX12_draw_336 (by decide) ?_
                                refine h_putI (ty := .boolean) (v := 1) hx hb hts iX12 tyX12 tyX12_ok nmX12 hown g t_a0 (by decide) so_13 rfl 31 (by decide) rfl (hts (.fieldLink RX12 264 "CapLeagueModel" "isDrawn" "Z") (by decide +kernel)) rfl rfl (by decide +kernel) (by decide) (by decide) dX12_draw_337 (fun I84 H locs eI84 g => ?_)
                                have hI := hI.wr eI84 t_a0 (rfl : h_bd 13 31 = (0, 1)) (by decide) (by decide)
                                have hF := hF.wr eI84 t_a0 rfl
                                refine lv_aload_n hx hb dX12_draw_340 rfl (lv_at hl 0 rfl) ?_
                                refine lv_iconst (v := 0) hx hb dX12_draw_341 (by decide) ?_
                                refine h_putI (ty := .int) (v := 0) hx hb hts iX12 tyX12 tyX12_ok nmX12 hown g t_a0 (by decide) so_13 rfl 33 (by decide) rfl (hts (.fieldLink RX12 247 "CapLeagueModel" "moves" "I") (by decide +kernel)) rfl rfl (by decide +kernel) rfl rfl dX12_draw_342 (fun I85 H locs eI85 g => ?_)
                                have hI := hI.wr eI85 t_a0 (rfl : h_bd 13 33 = (0, 12)) (by decide) (by decide)
                                have hF := hF.wr eI85 t_a0 rfl
                                refine lv_iconst (v := 1) hx hb dX12_draw_345 (by decide) ?_
                                have hS := g.2.1
                                exact W.iret (v := 1) hx hb hr (fun t ht hW => ⟨⟨1, I85, rfl, ⟨hI, hF, (by rw [qf0_30, qf0_31, ← ef0_12, adro, atb, aow, agu, agv, adt, ← elx, ← ely, ← edk]; have eo : (fun k : Nat => I85 dro (dk + k)) = oo := (by rw [eoo]; exact funext (fun j => by have h9 : ∀ k : Nat, I85 dro k = I79 dro k := (fun k => (((h_n1 eI85 tdro t_a0 (by decide)).trans (h_n1 eI84 tdro t_a0 (by decide))).trans (h_F.at hL241 tdro rfl) : I85 dro k = I79 dro k)); exact h9 _)); rw [eo]; have h9 := hx241_0; rw [show v81.toInt.toNat = 8 by omega] at h9; exact Or.inr (Or.inr ⟨hdr, by omega, by omega, by decide, (h_n2 eI85 (by decide)).trans (h_n0 eI84), h_n0 eI85, (fun k hk => (congrFun eo k).trans (hoo k hk)), (fun k hk => (((h_n1 eI85 tdro t_a0 (by decide)).trans (h_n1 eI84 tdro t_a0 (by decide))).trans (h_F.at hL241 tdro rfl) : I85 dro k = I79 dro k).trans (hx188_2 k hk)), h9.c (fun k => ((h_n1 eI85 tow t_a0 (by decide)).trans (h_n1 eI84 tow t_a0 (by decide)))) (fun k => ((h_n1 eI85 tgu t_a0 (by decide)).trans (h_n1 eI84 tgu t_a0 (by decide)))) (fun k => ((h_n1 eI85 tdt t_a0 (by decide)).trans (h_n1 eI84 tdt t_a0 (by decide))))⟩))⟩, h_ret g ht⟩, hS.F ht⟩) hS.2.2 dX12_draw_346
                              · have ic83 := (xi_nle c83 (by decide) rfl : v81.toInt < 8)
                                refine lv_bipush (v := 10) hx hb dX12_draw_248 (by decide) ?_
                                refine lv_aload_n hx hb dX12_draw_250 rfl (lv_at hl 0 rfl) ?_
                                refine h_get (v := .ref dro) hx hb hts iX12 hown g t_a0 (by decide) so_13 rfl 28 (by decide) (hts (.fieldLink RX12 67 "CapLeagueModel" "drawnOf" "[I") (by decide +kernel)) rfl dX12_draw_251 (by show va_rf (z.R a0 28) = _; rw [rdro]; rfl) ?_
                                refine lv_bipush (v := 8) hx hb dX12_draw_254 (by decide) ?_
                                refine lv_aload_n hx hb dX12_draw_256 rfl (lv_at hl 0 rfl) ?_
                                refine h_get (v := .int f0_12) hx hb hts iX12 hown g t_a0 (by decide) so_13 rfl 12 (by decide) (hts (.fieldLink RX12 187 "CapLeagueModel" "clock" "I") (by decide +kernel)) rfl dX12_draw_257 (congrArg Value.int ((h_F.at hL241 t_a0 rfl).trans ((h_F.at hL188 t_a0 rfl).trans ((h_F.at hL2 t_a0 rfl).trans (ef0_12.symm))))) ?_
                                refine lv_imul hx hb dX12_draw_260 ?_
                                refine lv_topi (fun v86 ev86 => ?_)
                                have jv86 : v86.toInt = 8 * f0_12.toInt := xi_mul ev86 (by decide) rfl (by omega) (by omega)
                                refine lv_iload hx hb dX12_draw_261 (lv_at hl 1 rfl) ?_
                                refine lv_iadd hx hb dX12_draw_263 ?_
                                refine lv_topi (fun v87 ev87 => ?_)
                                have jv87 : v87.toInt = v86.toInt + v81.toInt := xi_add ev87 rfl rfl (by omega) (by omega)
                                refine h_ald hx hb g tdro (by decide) so_1328 (xi_in (by omega) (by omega)) dX12_draw_264 ?_
                                refine lv_topi (fun v88 ev88 => ?_)
                                have jv88 := hI.rd dro v87.toNatClampNeg tdro ev88 (rfl : h_bd 1328 _ = ((-1), 7))
                                have gv88 : oo v81.toInt.toNat = v88 := by rw [eoo]; show I79 dro (dk + v81.toInt.toNat) = v88; rw [← (h_keq (k := dk + v81.toInt.toNat) rfl (by omega) (by omega) : v87.toNatClampNeg = dk + v81.toInt.toNat), ev88]; exact (h_F.at hL241 tdro rfl).symm
                                have mv88 := hob8 v81.toInt.toNat (by omega)
                                rw [gv88] at mv88
                                refine lv_imul hx hb dX12_draw_265 ?_
                                refine lv_topi (fun v89 ev89 => ?_)
                                have jv89 : v89.toInt = 10 * v88.toInt := xi_mul ev89 (by decide) rfl (by omega) (by omega)
                                refine lv_aload_n hx hb dX12_draw_266 rfl (lv_at hl 0 rfl) ?_
                                refine h_get (v := .int f0_12) hx hb hts iX12 hown g t_a0 (by decide) so_13 rfl 12 (by decide) (hts (.fieldLink RX12 187 "CapLeagueModel" "clock" "I") (by decide +kernel)) rfl dX12_draw_267 (congrArg Value.int ((h_F.at hL241 t_a0 rfl).trans ((h_F.at hL188 t_a0 rfl).trans ((h_F.at hL2 t_a0 rfl).trans (ef0_12.symm))))) ?_
                                refine lv_iadd hx hb dX12_draw_270 ?_
                                refine lv_topi (fun v90 ev90 => ?_)
                                have jv90 : v90.toInt = v89.toInt + f0_12.toInt := xi_add ev90 rfl rfl (by omega) (by omega)
                                refine lv_istore (lv' := [(5, .int v90), (0, .ref a0), (4, .int v81)]) hx hb dX12_draw_271 hl (by decide) rfl (fun ls hl => ?_)
                                have kt : v90.toNatClampNeg = (v90.toInt).toNat := h_keq rfl (by omega) (by omega)
                                have kq : (v90.toInt).toNat = q_ky oo f0_12.toInt v81.toInt.toNat := by unfold q_ky; rw [gv88]; omega
                                refine lv_iload hx hb dX12_draw_273 (lv_at hl 2 rfl) ?_
                                refine lv_aload_n hx hb dX12_draw_275 rfl (lv_at hl 1 rfl) ?_
                                refine h_get (v := .ref gu) hx hb hts iX12 hown g t_a0 (by decide) so_13 rfl 27 (by decide) (hts (.fieldLink RX12 64 "CapLeagueModel" "guarded" "[I") (by decide +kernel)) rfl dX12_draw_276 (by show va_rf (z.R a0 27) = _; rw [rgu]; rfl) ?_
                                refine lv_iload hx hb dX12_draw_279 (lv_at hl 0 rfl) ?_
                                refine h_ald hx hb g tgu (by decide) so_1327 (xi_in (by omega) (by omega)) dX12_draw_281 ?_
                                refine lv_topi (fun v91 ev91 => ?_)
                                have jv91 := hI.rd gu v90.toNatClampNeg tgu ev91 (rfl : h_bd 1327 _ = ((-2147483648), 2147483647))
                                refine lv_icmp_ge (tgt := 307) hx hb dX12_draw_282 (by decide) (fun c92 => ?_) (fun c92 => ?_)
                                · have ic92 := (xi_le c92 rfl rfl : v91.toInt ≤ v81.toInt)
                                  refine lv_aload_n hx hb dX12_draw_307 rfl (lv_at hl 1 rfl) ?_
                                  refine h_get (v := .ref dt) hx hb hts iX12 hown g t_a0 (by decide) so_13 rfl 29 (by decide) (hts (.fieldLink RX12 70 "CapLeagueModel" "drawnTo" "[I") (by decide +kernel)) rfl dX12_draw_308 (by show va_rf (z.R a0 29) = _; rw [rdt]; rfl) ?_
                                  refine lv_bipush (v := 8) hx hb dX12_draw_311 (by decide) ?_
                                  refine lv_aload_n hx hb dX12_draw_313 rfl (lv_at hl 1 rfl) ?_
                                  refine h_get (v := .int f0_12) hx hb hts iX12 hown g t_a0 (by decide) so_13 rfl 12 (by decide) (hts (.fieldLink RX12 187 "CapLeagueModel" "clock" "I") (by decide +kernel)) rfl dX12_draw_314 (congrArg Value.int ((h_F.at hL241 t_a0 rfl).trans ((h_F.at hL188 t_a0 rfl).trans ((h_F.at hL2 t_a0 rfl).trans (ef0_12.symm))))) ?_
                                  refine lv_imul hx hb dX12_draw_317 ?_
                                  refine xw_i (v := v86) ev86.symm ?_
                                  refine lv_iload hx hb dX12_draw_318 (lv_at hl 2 rfl) ?_
                                  refine lv_iadd hx hb dX12_draw_320 ?_
                                  refine xw_i (v := v87) ev87.symm ?_
                                  refine lv_aload_n hx hb dX12_draw_321 rfl (lv_at hl 1 rfl) ?_
                                  refine h_get (v := .ref ow) hx hb hts iX12 hown g t_a0 (by decide) so_13 rfl 25 (by decide) (hts (.fieldLink RX12 58 "CapLeagueModel" "owner" "[I") (by decide +kernel)) rfl dX12_draw_322 (by show va_rf (z.R a0 25) = _; rw [row]; rfl) ?_
                                  refine lv_iload hx hb dX12_draw_325 (lv_at hl 0 rfl) ?_
                                  refine h_ald hx hb g tow (by decide) so_1325 (xi_in (by omega) (by omega)) dX12_draw_327 ?_
                                  refine lv_topi (fun v93 ev93 => ?_)
                                  have jv93 := hI.rd ow v90.toNatClampNeg tow ev93 (rfl : h_bd 1325 _ = ((-2147483648), 2147483647))
                                  refine h_ast hx hb g tdt (by decide) so_1329 (xi_in (by omega) (by omega)) dX12_draw_328 (fun I94 H locs eI94 g => ?_)
                                  have hI := hI.wr eI94 tdt (rfl : h_bd 1329 _ = ((-2147483648), 2147483647)) (xi_lo _) (Int.le_of_lt_add_one (xi_hi _))
                                  have hF := hF.wr eI94 tdt rfl
                                  obtain ⟨v95, ev95⟩ : ∃ z : Int32, z = v81 + 1 := ⟨_, rfl⟩
                                  have jv95 : v95.toInt = v81.toInt + 1 := xi_add ev95 rfl (by decide) (by omega) (by omega)
                                  refine lv_iinc (v := v95) (lv' := [(4, .int v95), (5, .int v90), (0, .ref a0)]) hx hb dX12_draw_329 hl (k := 2) rfl (by rw [ev95]; rfl) (by decide) rfl (fun ls hl => ?_)
                                  refine lv_goto (tgt := 241) hx hb dX12_draw_332 (by decide) ?_
                                  exact ih241 I94 _ _ _ v95 g hI hF (lv_sub hl [2, 0] rfl) (by omega) (h_F.wr (h_F.call (h_F.rf : h_F [(1325, 999), (1327, 999), (1329, 999)] z I79 I79) hL241 rfl) eI94 tdt rfl) (h_hoi.s (w := v93) hx241_0 (by omega : (v95.toInt).toNat = v81.toInt.toNat + 1) kq (Or.inr ⟨by rw [show I82 gu (v90.toInt).toNat = v91 by rw [← kt]; exact ev91.symm]; omega, fun j => h_n1 eI94 tow tdt (by decide), fun j => h_n1 eI94 tgu tdt (by decide)⟩) (by rw [← kt]; exact ((h_n1 eI94 tow tdt (by decide)).trans (ev93.symm)).symm) (fun k => (h_wif eI94 (h_keq (k := dk + v81.toInt.toNat) rfl (by omega) (by omega)) k).trans (by rw [show I82 dt k = I82 dt k from rfl]))) (by omega)
                                · have ic92 := (xi_nle c92 rfl rfl : v81.toInt < v91.toInt)
                                  refine lv_aload_n hx hb dX12_draw_285 rfl (lv_at hl 1 rfl) ?_
                                  refine h_get (v := .ref ow) hx hb hts iX12 hown g t_a0 (by decide) so_13 rfl 25 (by decide) (hts (.fieldLink RX12 58 "CapLeagueModel" "owner" "[I") (by decide +kernel)) rfl dX12_draw_286 (by show va_rf (z.R a0 25) = _; rw [row]; rfl) ?_
                                  refine lv_iload hx hb dX12_draw_289 (lv_at hl 0 rfl) ?_
                                  refine lv_aload_n hx hb dX12_draw_291 rfl (lv_at hl 1 rfl) ?_
                                  refine h_get (v := .ref gv) hx hb hts iX12 hown g t_a0 (by decide) so_13 rfl 26 (by decide) (hts (.fieldLink RX12 61 "CapLeagueModel" "giver" "[I") (by decide +kernel)) rfl dX12_draw_292 (by show va_rf (z.R a0 26) = _; rw [rgv]; rfl) ?_
                                  refine lv_iload hx hb dX12_draw_295 (lv_at hl 0 rfl) ?_
                                  refine h_ald hx hb g tgv (by decide) so_1326 (xi_in (by omega) (by omega)) dX12_draw_297 ?_
                                  refine lv_topi (fun v96 ev96 => ?_)
                                  have jv96 := hI.rd gv v90.toNatClampNeg tgv ev96 (rfl : h_bd 1326 _ = ((-2147483648), 2147483647))
                                  have gvx : I0 gv (v90.toInt).toNat = v96 := by rw [← kt, ev96]; exact (hF.at tgv rfl).symm
                                  refine h_ast hx hb g tow (by decide) so_1325 (xi_in (by omega) (by omega)) dX12_draw_298 (fun I97 H locs eI97 g => ?_)
                                  have hI := hI.wr eI97 tow (rfl : h_bd 1325 _ = ((-2147483648), 2147483647)) (xi_lo _) (Int.le_of_lt_add_one (xi_hi _))
                                  have hF := hF.wr eI97 tow rfl
                                  refine lv_aload_n hx hb dX12_draw_299 rfl (lv_at hl 1 rfl) ?_
                                  refine h_get (v := .ref gu) hx hb hts iX12 hown g t_a0 (by decide) so_13 rfl 27 (by decide) (hts (.fieldLink RX12 64 "CapLeagueModel" "guarded" "[I") (by decide +kernel)) rfl dX12_draw_300 (by show va_rf (z.R a0 27) = _; rw [rgu]; rfl) ?_
                                  refine lv_iload hx hb dX12_draw_303 (lv_at hl 0 rfl) ?_
                                  refine lv_iconst (v := 0) hx hb dX12_draw_305 (by decide) ?_
                                  refine h_ast hx hb g tgu (by decide) so_1327 (xi_in (by omega) (by omega)) dX12_draw_306 (fun I98 H locs eI98 g => ?_)
                                  have hI := hI.wr eI98 tgu (rfl : h_bd 1327 _ = ((-2147483648), 2147483647)) (by decide) (by decide)
                                  have hF := hF.wr eI98 tgu rfl
                                  refine lv_aload_n hx hb dX12_draw_307 rfl (lv_at hl 1 rfl) ?_
                                  refine h_get (v := .ref dt) hx hb hts iX12 hown g t_a0 (by decide) so_13 rfl 29 (by decide) (hts (.fieldLink RX12 70 "CapLeagueModel" "drawnTo" "[I") (by decide +kernel)) rfl dX12_draw_308 (by show va_rf (z.R a0 29) = _; rw [rdt]; rfl) ?_
                                  refine lv_bipush (v := 8) hx hb dX12_draw_311 (by decide) ?_
                                  refine lv_aload_n hx hb dX12_draw_313 rfl (lv_at hl 1 rfl) ?_
                                  refine h_get (v := .int f0_12) hx hb hts iX12 hown g t_a0 (by decide) so_13 rfl 12 (by decide) (hts (.fieldLink RX12 187 "CapLeagueModel" "clock" "I") (by decide +kernel)) rfl dX12_draw_314 (congrArg Value.int ((h_n1 eI98 t_a0 tgu (by decide)).trans ((h_n1 eI97 t_a0 tow (by decide)).trans ((h_F.at hL241 t_a0 rfl).trans ((h_F.at hL188 t_a0 rfl).trans ((h_F.at hL2 t_a0 rfl).trans (ef0_12.symm))))))) ?_
                                  refine lv_imul hx hb dX12_draw_317 ?_
                                  refine xw_i (v := v86) ev86.symm ?_
                                  refine lv_iload hx hb dX12_draw_318 (lv_at hl 2 rfl) ?_
                                  refine lv_iadd hx hb dX12_draw_320 ?_
                                  refine xw_i (v := v87) ev87.symm ?_
                                  refine lv_aload_n hx hb dX12_draw_321 rfl (lv_at hl 1 rfl) ?_
                                  refine h_get (v := .ref ow) hx hb hts iX12 hown g t_a0 (by decide) so_13 rfl 25 (by decide) (hts (.fieldLink RX12 58 "CapLeagueModel" "owner" "[I") (by decide +kernel)) rfl dX12_draw_322 (by show va_rf (z.R a0 25) = _; rw [row]; rfl) ?_
                                  refine lv_iload hx hb dX12_draw_325 (lv_at hl 0 rfl) ?_
                                  refine h_ald hx hb g tow (by decide) so_1325 (xi_in (by omega) (by omega)) dX12_draw_327 ?_
                                  refine xw_i ((h_n1 eI98 tow tgu (by decide)).trans (h_n0 eI97)) ?_
                                  refine h_ast hx hb g tdt (by decide) so_1329 (xi_in (by omega) (by omega)) dX12_draw_328 (fun I99 H locs eI99 g => ?_)
                                  have hI := hI.wr eI99 tdt (rfl : h_bd 1329 _ = ((-2147483648), 2147483647)) (xi_lo _) (Int.le_of_lt_add_one (xi_hi _))
                                  have hF := hF.wr eI99 tdt rfl
                                  obtain ⟨v100, ev100⟩ : ∃ z : Int32, z = v81 + 1 := ⟨_, rfl⟩
                                  have jv100 : v100.toInt = v81.toInt + 1 := xi_add ev100 rfl (by decide) (by omega) (by omega)
                                  refine lv_iinc (v := v100) (lv' := [(4, .int v100), (5, .int v90), (0, .ref a0)]) hx hb dX12_draw_329 hl (k := 2) rfl (by rw [ev100]; rfl) (by decide) rfl (fun ls hl => ?_)
                                  refine lv_goto (tgt := 241) hx hb dX12_draw_332 (by decide) ?_
                                  exact ih241 I99 _ _ _ v100 g hI hF (lv_sub hl [2, 0] rfl) (by omega) (h_F.wr (h_F.wr (h_F.wr (h_F.call (h_F.rf : h_F [(1325, 999), (1327, 999), (1329, 999)] z I79 I79) hL241 rfl) eI97 tow rfl) eI98 tgu rfl) eI99 tdt rfl) (h_hoi.s (w := v96) hx241_0 (by omega : (v100.toInt).toNat = v81.toInt.toNat + 1) kq (Or.inl ⟨by rw [show I82 gu (v90.toInt).toNat = v91 by rw [← kt]; exact ev91.symm]; omega, by rw [gvx]; exact fun j => (h_n1 eI99 tow tdt (by decide)).trans ((h_n1 eI98 tow tgu (by decide)).trans (h_wif eI97 kt j)), fun j => (h_n1 eI99 tgu tdt (by decide)).trans ((h_wif eI98 kt j).trans (by rw [h_n1 eI97 tgu tow (by decide)]))⟩) (by rw [← kt]; exact ((h_n1 eI99 tow tdt (by decide)).trans ((h_n1 eI98 tow tgu (by decide)).trans (h_n0 eI97))).symm) (fun k => (h_wif eI99 (h_keq (k := dk + v81.toInt.toNat) rfl (by omega) (by omega)) k).trans (by rw [show I98 dt k = I82 dt k from (h_n1 eI98 tdt tgu (by decide)).trans (h_n1 eI97 tdt tow (by decide))]))) (by omega)
                          have kc101 : (0 : Int32).toInt = 0 := by decide
                          exact loop241_4 _ I79 _ _ _ (0) g hI hF (lv_sub hl [1, 0] rfl) ⟨by decide, by decide⟩ (h_F.rf : h_F [(1325, 999), (1327, 999), (1329, 999)] z I79 I79) (h_hoi.z (fun k => (h_F.at hL188 tow rfl).trans (h_F.at hL2 tow rfl)) (fun k => (h_F.at hL188 tgu rfl).trans (h_F.at hL2 tgu rfl)) (fun k => (h_F.at hL188 tdt rfl).trans (h_F.at hL2 tdt rfl))) (show (8 - (0 : Int)) < (((8 - (0 : Int)).toNat + 1 : Nat) : Int) by omega)
                        · have ic80 := (xi_nle c80 (by decide) rfl : v78.toInt < 8)
                          refine lv_aload_n hx hb dX12_draw_195 rfl (lv_at hl 0 rfl) ?_
                          refine h_get (v := .ref io) hx hb hts iX12 hown g t_a0 (by decide) so_13 rfl 48 (by decide) (hts (.fieldLink RX12 109 "CapLeagueModel" "isOut" "[Z") (by decide +kernel)) rfl dX12_draw_196 (by show va_rf (z.R a0 48) = _; rw [rio]; rfl) ?_
                          refine lv_iload hx hb dX12_draw_199 (lv_at hl 2 rfl) ?_
                          refine h_zald hx hb g tio (by decide) so_1348 (xi_in (by omega) (by omega)) dX12_draw_201 ?_
                          refine lv_topi (fun v102 ev102 => ?_)
                          have jv102 := hI.rd io v78.toNatClampNeg tio ev102 (rfl : h_bd 1348 _ = (0, 1))
                          have ho := hx188_3 v78.toInt.toNat (by omega)
                          rw [show I79 io v78.toInt.toNat = v102 by rw [ev102, (h_keq rfl (by omega) (by omega) : v78.toNatClampNeg = v78.toInt.toNat)], show ((v78.toInt.toNat : Nat) : Int) = v78.toInt by omega] at ho
                          refine lv_if_eq (tgt := 208) hx hb dX12_draw_202 (by decide) (fun c103 => ?_) (fun c103 => ?_)
                          · have ic103 := (xi_eq c103 rfl (by decide) : v102.toInt = 0)
                            have hne : v78.toInt ≠ lx ∧ v78.toInt ≠ ly := by refine ⟨fun h9 => ?_, fun h9 => ?_⟩; (rw [if_pos (Or.inl h9)] at ho; omega); (rw [if_pos (Or.inr h9)] at ho; omega)
                            have hl8 := (q_fln (i := v78.toInt.toNat) hq (by omega) (by omega) (by omega)).2.2
                            refine lv_aload_n hx hb dX12_draw_208 rfl (lv_at hl 0 rfl) ?_
                            refine h_get (v := .ref dro) hx hb hts iX12 hown g t_a0 (by decide) so_13 rfl 28 (by decide) (hts (.fieldLink RX12 67 "CapLeagueModel" "drawnOf" "[I") (by decide +kernel)) rfl dX12_draw_209 (by show va_rf (z.R a0 28) = _; rw [rdro]; rfl) ?_
                            refine lv_bipush (v := 8) hx hb dX12_draw_212 (by decide) ?_
                            refine lv_aload_n hx hb dX12_draw_214 rfl (lv_at hl 0 rfl) ?_
                            refine h_get (v := .int f0_12) hx hb hts iX12 hown g t_a0 (by decide) so_13 rfl 12 (by decide) (hts (.fieldLink RX12 187 "CapLeagueModel" "clock" "I") (by decide +kernel)) rfl dX12_draw_215 (congrArg Value.int ((h_F.at hL188 t_a0 rfl).trans ((h_F.at hL2 t_a0 rfl).trans (ef0_12.symm)))) ?_
                            refine lv_imul hx hb dX12_draw_218 ?_
                            refine lv_topi (fun v104 ev104 => ?_)
                            have jv104 : v104.toInt = 8 * f0_12.toInt := xi_mul ev104 (by decide) rfl (by omega) (by omega)
                            refine lv_iload_n hx hb dX12_draw_219 rfl (lv_at hl 1 rfl) ?_
                            refine lv_iadd hx hb dX12_draw_220 ?_
                            refine lv_topi (fun v105 ev105 => ?_)
                            have jv105 : v105.toInt = v104.toInt + v77.toInt := xi_add ev105 rfl rfl (by omega) (by omega)
                            refine lv_aload_n hx hb dX12_draw_221 rfl (lv_at hl 0 rfl) ?_
                            refine h_get (v := .ref tb) hx hb hts iX12 hown g t_a0 (by decide) so_13 rfl 32 (by decide) (hts (.fieldLink RX12 73 "CapLeagueModel" "table" "[I") (by decide +kernel)) rfl dX12_draw_222 (by show va_rf (z.R a0 32) = _; rw [rtb]; rfl) ?_
                            refine lv_iload hx hb dX12_draw_225 (lv_at hl 2 rfl) ?_
                            refine h_ald hx hb g ttb (by decide) so_1332 (xi_in (by omega) (by omega)) dX12_draw_227 ?_
                            refine lv_topi (fun v106 ev106 => ?_)
                            have jv106 := hI.rd tb v78.toNatClampNeg ttb ev106 (rfl : h_bd 1332 _ = (0, 7))
                            have gv106 : I0 tb (v78.toInt).toNat = v106 := by rw [← (h_keq rfl (by omega) (by omega) : v78.toNatClampNeg = (v78.toInt).toNat), ev106]; exact (hF.at ttb rfl).symm
                            refine h_ast hx hb g tdro (by decide) so_1328 (xi_in (by omega) (by omega)) dX12_draw_228 (fun I107 H locs eI107 g => ?_)
                            have hI := hI.wr eI107 tdro (rfl : h_bd 1328 _ = ((-1), 7)) (by omega) (by omega)
                            have hF := hF.wr eI107 tdro rfl
                            obtain ⟨v108, ev108⟩ : ∃ z : Int32, z = v77 + 1 := ⟨_, rfl⟩
                            have jv108 : v108.toInt = v77.toInt + 1 := xi_add ev108 rfl (by decide) (by omega) (by omega)
                            refine lv_iinc (v := v108) (lv' := [(3, .int v108), (0, .ref a0), (4, .int v78)]) hx hb dX12_draw_229 hl (k := 1) rfl (by rw [ev108]; rfl) (by decide) rfl (fun ls hl => ?_)
                            obtain ⟨v109, ev109⟩ : ∃ z : Int32, z = v78 + 1 := ⟨_, rfl⟩
                            have jv109 : v109.toInt = v78.toInt + 1 := xi_add ev109 rfl (by decide) (by omega) (by omega)
                            refine lv_iinc (v := v109) (lv' := [(4, .int v109), (3, .int v108), (0, .ref a0)]) hx hb dX12_draw_232 hl (k := 2) rfl (by rw [ev109]; rfl) (by decide) rfl (fun ls hl => ?_)
                            refine lv_goto (tgt := 188) hx hb dX12_draw_235 (by decide) ?_
                            have wd := h_wif eI107 (h_keq (k := dk + v77.toInt.toNat) rfl (by omega) (by omega))
                            have oiw := q_oi_w (f := fun k => I79 dro (dk + k)) (f1 := fun k => I107 dro (dk + k)) hx188_1 hx188_0 (by omega) hq (by omega) (by omega) gv106.symm (fun k => (wd (dk + k)).trans (q_ifc (by omega) _ _))
                            exact ih188 I107 _ _ _ v108 v109 g hI hF (lv_sub hl [2, 1, 0] rfl) (by omega) (by omega) (h_F.wr (h_F.call (h_F.rf : h_F [(1328, 999)] z I2 I2) hL188 rfl) eI107 tdro rfl) (by rw [show (v108.toInt).toNat = v77.toInt.toNat + 1 by omega, show (v109.toInt).toNat = v78.toInt.toNat + 1 by omega]; exact oiw.2) (by rw [show (v108.toInt).toNat = v77.toInt.toNat + 1 by omega]; exact oiw.1) (fun k hk => (wd k).trans ((if_neg (by omega)).trans (hx188_2 k hk))) (fun k hk => by rw [show I107 io k = I79 io k from h_n1 eI107 tio tdro (by decide)]; exact hx188_3 k hk) (by omega)
                          · have ic103 := (xi_ne c103 rfl (by decide) : v102.toInt ≠ 0)
                            have hin : v78.toInt = lx ∨ v78.toInt = ly := Classical.byContradiction (fun h9 => by rw [if_neg h9] at ho; omega)
                            refine lv_goto (tgt := 232) hx hb dX12_draw_205 (by decide) ?_
                            obtain ⟨v110, ev110⟩ : ∃ z : Int32, z = v78 + 1 := ⟨_, rfl⟩
                            have jv110 : v110.toInt = v78.toInt + 1 := xi_add ev110 rfl (by decide) (by omega) (by omega)
                            refine lv_iinc (v := v110) (lv' := [(4, .int v110), (0, .ref a0), (3, .int v77)]) hx hb dX12_draw_232 hl (k := 2) rfl (by rw [ev110]; rfl) (by decide) rfl (fun ls hl => ?_)
                            refine lv_goto (tgt := 188) hx hb dX12_draw_235 (by decide) ?_
                            exact ih188 I79 _ _ _ v77 v110 g hI hF (lv_sub hl [1, 2, 0] rfl) (by omega) (by omega) (h_F.call (h_F.rf : h_F [(1328, 999)] z I2 I2) hL188 rfl) (by rw [show (v110.toInt).toNat = v78.toInt.toNat + 1 by omega, q_flx hq (by omega) (by omega)]; exact hx188_0) (hx188_1) (hx188_2) (hx188_3) (by omega)
                    have kc111 : (0 : Int32).toInt = 0 := by decide
                    have kc112 : (0 : Int32).toInt = 0 := by decide
                    exact loop188_3 _ I2 _ _ _ (0) (0) g hI hF (lv_sub hl [2, 1, 0] rfl) ⟨by decide, by decide⟩ ⟨by decide, by decide⟩ (h_F.rf : h_F [(1328, 999)] z I2 I2) (by unfold q_fl; rw [if_pos (by omega)]) (fun k hk => absurd hk (by have h9 : ((0 : Int32).toInt).toNat = 0 := (by decide); omega)) (fun k _ => h_F.at hL2 tdro rfl) (h_io3 (fun k hk => hx2_0 k (by omega)) (by omega) (by omega)) (show (8 - (0 : Int)) < (((8 - (0 : Int)).toNat + 1 : Nat) : Int) by omega)
                  · have ic76 := (xi_nle c76 rfl (by decide) : 0 < rh75.toInt)
                    exfalso; omega
                · have ic74 := (xi_ne c74 rfl (by decide) : f0_31.toInt ≠ 0)
                  refine lv_bipush (v := (-4)) hx hb dX12_draw_103 (by decide) ?_
                  have hS := g.2.1
                  exact W.iret (v := (-4)) hx hb hr (fun t ht hW => ⟨⟨(-4), I2, rfl, ⟨hI, hF, (by rw [qf0_30, qf0_31]; exact Or.inr (Or.inl ⟨hdr, by omega, by decide, fun a k ta => h_F_no48 hL2 ta⟩))⟩, h_ret g ht⟩, hS.F ht⟩) hS.2.2 dX12_draw_105
            · have ic72 := (xi_ne c72 h_b (by decide) : b_t ≠ 0)
              refine lv_bipush (v := (-2)) hx hb dX12_draw_38 (by decide) ?_
              have hS := g.2.1
              exact W.iret (v := (-2)) hx hb hr (fun t ht hW => ⟨⟨(-2), I2, rfl, ⟨hI, hF, (Or.inl ⟨fun q => by rcases q with q | q; omega; omega, by decide, fun a k ta => h_F_no48 hL2 ta⟩)⟩, h_ret g ht⟩, hS.F ht⟩) hS.2.2 dX12_draw_40
      · have ic3 := (xi_nle c3 (by decide) rfl : v1.toInt < 8)
        refine lv_aload_n hx hb dX12_draw_8 rfl (lv_at hl 0 rfl) ?_
        refine h_get (v := .ref io) hx hb hts iX12 hown g t_a0 (by decide) so_13 rfl 48 (by decide) (hts (.fieldLink RX12 109 "CapLeagueModel" "isOut" "[Z") (by decide +kernel)) rfl dX12_draw_9 (by show va_rf (z.R a0 48) = _; rw [rio]; rfl) ?_
        refine lv_iload_n hx hb dX12_draw_12 rfl (lv_at hl 3 rfl) ?_
        refine lv_iconst (v := 0) hx hb dX12_draw_13 (by decide) ?_
        refine h_zast hx hb g tio (by decide) so_1348 (xi_in (by omega) (by omega)) dX12_draw_14 (fun I113 H locs eI113 g => ?_)
        rw [h_nz (by decide) (by decide)] at eI113
        have hI := hI.wr eI113 tio (rfl : h_bd 1348 _ = (0, 1)) (by decide) (by decide)
        have hF := hF.wr eI113 tio rfl
        obtain ⟨v114, ev114⟩ : ∃ z : Int32, z = v1 + 1 := ⟨_, rfl⟩
        have jv114 : v114.toInt = v1.toInt + 1 := xi_add ev114 rfl (by decide) (by omega) (by omega)
        refine lv_iinc (v := v114) (lv' := [(3, .int v114), (0, .ref a0), (1, .int a), (2, .int b)]) hx hb dX12_draw_15 hl (k := 3) rfl (by rw [ev114]; rfl) (by decide) rfl (fun ls hl => ?_)
        refine lv_goto (tgt := 2) hx hb dX12_draw_18 (by decide) ?_
        exact ih2 I113 _ _ _ v114 g hI hF (lv_sub hl [1, 2, 3, 0] rfl) (by omega) (h_F.wr (h_F.call (h_F.rf : h_F [(1348, 999)] z I0 I0) hL2 rfl) eI113 tio rfl) (fun k hk => by by_cases hqv : (k : Int) < v1.toInt; exact (h_n2 eI113 (by rw [(h_keq rfl (by omega) (by omega) : v1.toNatClampNeg = v1.toInt.toNat)]; omega)).trans (hx2_0 k hqv); rw [show k = v1.toInt.toNat by omega, ← (h_keq rfl (by omega) (by omega) : v1.toNatClampNeg = v1.toInt.toNat)]; exact h_n0 eI113) (by omega)
  have kc115 : (0 : Int32).toInt = 0 := by decide
  exact loop2_0 _ I0 _ _ _ (0) g hI hF (lv_sub hl [1, 2, 3, 0] rfl) ⟨by decide, by decide⟩ (h_F.rf : h_F [(1348, 999)] z I0 I0) (fun k hk => absurd hk (by omega)) (show (8 - (0 : Int)) < (((8 - (0 : Int)).toNat + 1 : Nat) : Int) by omega)

