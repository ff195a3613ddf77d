set_option maxHeartbeats 4000000 in
set_option maxRecDepth 100000 in
theorem tX12_drawX (l : Launch) (E : tE) (X : tX) (A : Nat → Prop) (z : tZ) (I0 : tI) (L0 : tL) (a0 : Nat) (t_a0 : z.ty a0 = 13) (a : Int32) (a_t : Int) (h_a : a.toInt = a_t) (b : Int32) (b_t : Int) (h_b : b.toInt = b_t) : Met l yX12_draw wsX12_draw ({ frames := 5, cells := 0, slots := 0, locals := 320 }) (va_Pc [.ref a0, .int a, .int b] (h_P E X A z I0 L0)) (va_Qi (fun r (I1 : tI) => h_I z I1 ∧ h_F [(1348, 999), (1328, 999), (1325, 999), (1327, 999), (1329, 999), (13, 31), (13, 33)] z I0 I1 ∧ (∀ u : Nat → Int, h_r12 (I0 (h_ad z a0 11)) (I0 (h_ad z a0 10)) (I0 a0 12).toInt u → q_ok u → (¬ q_draws u a_t b_t ∧ r.toInt = -2 ∧ I1 a0 31 = I0 a0 31) ∨ (q_draws u a_t b_t ∧ ((I0 a0 30).toInt = 0 ∨ (I0 a0 31).toInt = 1) ∧ r.toInt = -4 ∧ I1 a0 31 = I0 a0 31) ∨ (q_draws u a_t b_t ∧ (I0 a0 30).toInt = 1 ∧ (I0 a0 31).toInt = 0 ∧ r.toInt = 1 ∧ I1 a0 31 = 1))) (fun (I1 : tI) t => h_B E A z I1 L0 t) A) 0 0 A := by
  refine Met.ofW (cc := cX12_draw) (maxL := 6) (ret := (some .int)) (by decide) rfl ?_
  intro pr_ ev_ s m args below meth cd_ s₁ B hml hv
  obtain ⟨rfl, hE, hk, hX, hA, hK, hI, hR, hB0⟩ := hv
  have g : h_G h_so h_fk E A z I0 L0 s s.heap s.heap [] := ⟨hK, va_S.rf, hB0⟩
  have hF : h_F [(1348, 999), (1328, 999), (1325, 999), (1327, 999), (1329, 999), (13, 31), (13, 33)] z I0 I0 := h_F.rf
  have hx := B.exec
  have hb := B.bytes
  have hr := B.returns
  have hts := atoms_spec (ws := wsX12_draw) B.pre
  have hown : s.vm.findClass RX12 = some m.cls := findClass_of_methodNamed B.named
  have hlocks := B.notSynchronized
  have iX12 : ∀ w ∈ u_ws RX12 TX12 51, w ∈ wsX12_draw := by decide +kernel
  have hl := lv_entry ([.ref a0, .int a, .int b]) (n := 6) (Nat.le_of_ble_eq_true rfl)
  rw [lg_entry_eq]
  generalize (lg_sl ([.ref a0, .int a, .int b]) ++ List.replicate (6 - (lg_sl ([.ref a0, .int a, .int b])).length) Slot.unset).toArray = ls at hl ⊢
  have hl : lv_has ls 6 [(0, .ref a0), (1, .int a), (2, .int b)] := hl
  have b_a : -2147483648 ≤ a_t ∧ a_t ≤ 2147483647 := h_a ▸ ⟨xi_lo a, Int.le_of_lt_add_one (xi_hi a)⟩
  have b_b : -2147483648 ≤ b_t ∧ b_t ≤ 2147483647 := h_b ▸ ⟨xi_lo b, Int.le_of_lt_add_one (xi_hi b)⟩
  obtain ⟨lw, rlw, tlw⟩ := hR.at a0 10 t_a0 (rfl : h_rs 13 10 = some (1310, false)) (by decide)
  have alw : h_ad z a0 10 = lw := h_ad.at rlw
  obtain ⟨hw, rhw, thw⟩ := hR.at a0 11 t_a0 (rfl : h_rs 13 11 = some (1311, false)) (by decide)
  have ahw : h_ad z a0 11 = hw := h_ad.at rhw
  obtain ⟨ot, rot, tot⟩ := hR.at a0 48 t_a0 (rfl : h_rs 13 48 = some (1348, false)) (by decide)
  have aot : h_ad z a0 48 = ot := h_ad.at rot
  obtain ⟨dr, rdr, tdr⟩ := hR.at a0 28 t_a0 (rfl : h_rs 13 28 = some (1328, false)) (by decide)
  have adr : h_ad z a0 28 = dr := h_ad.at rdr
  obtain ⟨f0_12, ef0_12⟩ : ∃ v : Int32, v = I0 a0 12 := ⟨_, rfl⟩
  have qf0_12 : (I0 a0 12).toInt = f0_12.toInt := congrArg Int32.toInt ef0_12.symm
  have jf0_12 := hI.rd a0 12 t_a0 ef0_12 (rfl : h_bd 13 12 = (0, 9))
  obtain ⟨f0_30, ef0_30⟩ : ∃ v : Int32, v = I0 a0 30 := ⟨_, rfl⟩
  have qf0_30 : (I0 a0 30).toInt = f0_30.toInt := congrArg Int32.toInt ef0_30.symm
  have jf0_30 := hI.rd a0 30 t_a0 ef0_30 (rfl : h_bd 13 30 = (0, 1))
  obtain ⟨f0_31, ef0_31⟩ : ∃ v : Int32, v = I0 a0 31 := ⟨_, rfl⟩
  have qf0_31 : (I0 a0 31).toInt = f0_31.toInt := congrArg Int32.toInt ef0_31.symm
  have jf0_31 := hI.rd a0 31 t_a0 ef0_31 (rfl : h_bd 13 31 = (0, 1))
  have hlb : ∀ q, _ := fun q => h_lt0_b (q := q) hI tlw
  have hwb : ∀ q i, _ := fun q i => h_wt_b (q := q) hI tlw i
  obtain ⟨q, hq⟩ := h_blk.ex (I0 hw) (I0 a0 12).toNatClampNeg
  have hlb := hlb q
  have hwb := hwb q
  have hcy : ((I0 a0 12).toNatClampNeg : Int) = (I0 a0 12).toInt := h_cl rfl (by rw [qf0_12]; omega)
  refine lv_iconst (v := 0) hx hb dX12_draw_0 (by decide) ?_
  refine lv_istore_n (lv' := [(3, .int 0), (0, .ref a0), (1, .int a), (2, .int b)]) hx hb dX12_draw_1 rfl hl (by decide) rfl (fun ls hl => ?_)
  have loop2_0 : ∀ (n : Nat) (I2 : tI) (H : Heap) (locs : List Loc) (ls : Array Slot) (v1 : Int32), h_G h_so h_fk E A z I2 L0 s s.heap H locs → h_I z I2 → h_F [(1348, 999), (1328, 999), (1325, 999), (1327, 999), (1329, 999), (13, 31), (13, 33)] z I0 I2 → lv_has ls 6 [(0, .ref a0), (1, .int a), (2, .int b), (3, .int v1)] → (0 ≤ v1.toInt ∧ v1.toInt ≤ 8) → h_F [(1348, 999)] z I0 I2 → (∀ k : Nat, (k : Int) < v1.toInt → I2 ot k = 0) → (8 - v1.toInt) < (n : Int) → W pr_ l ev_ (headSpec wsX12_draw ({ frames := 5, cells := 0, slots := 0, locals := 320 })).room s m ([.ref a0, .int a, .int b] : List Value).toArray below meth cd_ H locs 0 0 (MQ below (va_Qi (fun r (I1 : tI) => h_I z I1 ∧ h_F [(1348, 999), (1328, 999), (1325, 999), (1327, 999), (1329, 999), (13, 31), (13, 33)] z I0 I1 ∧ (∀ u : Nat → Int, h_r12 (I0 (h_ad z a0 11)) (I0 (h_ad z a0 10)) (I0 a0 12).toInt u → q_ok u → (¬ q_draws u a_t b_t ∧ r.toInt = -2 ∧ I1 a0 31 = I0 a0 31) ∨ (q_draws u a_t b_t ∧ ((I0 a0 30).toInt = 0 ∨ (I0 a0 31).toInt = 1) ∧ r.toInt = -4 ∧ I1 a0 31 = I0 a0 31) ∨ (q_draws u a_t b_t ∧ (I0 a0 30).toInt = 1 ∧ (I0 a0 31).toInt = 0 ∧ r.toInt = 1 ∧ I1 a0 31 = 1))) (fun (I1 : tI) t => h_B E A z I1 L0 t) A) ([.ref a0, .int a, .int b] : List Value).toArray s 0 0 A) (F0 m 2 ls []) := by
    intro n
    induction n with
    | zero => intro I2 H locs ls v1 g hI hF hl jv1 hL2 hx2_0 hn; exact absurd hn (by omega)
    | succ n ih2 =>
      intro I2 H locs ls v1 g hI hF hl jv1 hL2 hx2_0 hn
      refine lv_iload_n hx hb dX12_draw_2 rfl (lv_at hl 3 rfl) ?_
      refine lv_bipush (v := 8) hx hb dX12_draw_3 (by decide) ?_
      refine lv_icmp_ge (tgt := 21) hx hb dX12_draw_5 (by decide) (fun c3 => ?_) (fun c3 => ?_)
      · have ic3 := (xi_le c3 (by decide) rfl : 8 ≤ v1.toInt)
        refine lv_iconst (v := 0) hx hb dX12_draw_21 (by decide) ?_
        refine lv_istore_n (lv' := [(3, .int 0), (0, .ref a0), (1, .int a), (2, .int b)]) hx hb dX12_draw_22 rfl hl (by decide) rfl (fun ls hl => ?_)
        refine lv_aload_n hx hb dX12_draw_23 rfl (lv_at hl 1 rfl) ?_
        refine vp_callSi (W.runV (As := []) (rest := []) ⟨hx, hb, hml, hown, hts⟩ (tX12_lotsC l E X A z I2 L0 a0 t_a0 (q) (by rw [ahw, show I2 hw = I0 hw from funext (fun k => hF.at thw rfl), show I2 a0 12 = I0 a0 12 from hF.at t_a0 rfl]; exact hq)) (cwV 0 hts gX12_draw_X12_lots rfl rfl rfl (by decide +kernel) ⟨Nat.le_of_ble_eq_true rfl, Nat.le_of_ble_eq_true rfl⟩) ⟨h_blind _ _ _ _ _ _ _, h_recv g t_a0 (by decide) so_13 (q := (RX12, TX12, 51)) rfl, h_pre _ hE hk hX hA hI hR g⟩ rfl rfl hl.1 rfl (lv_room (Nat.le_of_ble_eq_true rfl)) dX12_draw_24 ⟨Nat.le_of_ble_eq_true rfl, Nat.le_of_ble_eq_true rfl⟩) (fun rh4 h4 => ?_)
        obtain ⟨h4, h4p0⟩ := h4
        rw [alw, show I2 lw = I0 lw from funext (fun k => hF.at tlw rfl)] at h4p0
        refine lv_if_ne (tgt := 41) hx hb dX12_draw_27 (by decide) (fun c5 => ?_) (fun c5 => ?_)
        · have ic5 := (xi_ne c5 rfl (by decide) : rh4.toInt ≠ 0)
          refine lv_iload_n hx hb dX12_draw_41 rfl (lv_at hl 2 rfl) ?_
          refine lv_i2l hx hb dX12_draw_42 rfl ?_
          refine lv_topl (fun v6 ev6 => ?_)
          have jv6 : v6.toInt = a_t := by rw [ev6, xi_64]; exact h_a
          refine lv_lconst (v := 0) hx hb dX12_draw_43 (by decide) ?_
          refine lv_aload_n hx hb dX12_draw_44 rfl (lv_at hl 1 rfl) ?_
          refine vp_callSi (W.runV (As := []) (rest := [.long 0, .long v6]) ⟨hx, hb, hml, hown, hts⟩ (tX12_weightsC l E X A z I2 L0 a0 t_a0 (q) (by rw [ahw, show I2 hw = I0 hw from funext (fun k => hF.at thw rfl), show I2 a0 12 = I0 a0 12 from hF.at t_a0 rfl]; exact hq)) (cwV 0 hts gX12_draw_X12_weights rfl rfl rfl (by decide +kernel) ⟨Nat.le_of_ble_eq_true rfl, Nat.le_of_ble_eq_true rfl⟩) ⟨h_blind _ _ _ _ _ _ _, h_recv g t_a0 (by decide) so_13 (q := (RX12, TX12, 51)) rfl, h_pre _ hE hk hX hA hI hR g⟩ rfl rfl hl.1 rfl (lv_room (Nat.le_of_ble_eq_true rfl)) dX12_draw_45 ⟨Nat.le_of_ble_eq_true rfl, Nat.le_of_ble_eq_true rfl⟩) (fun rh7 h7 => ?_)
          obtain ⟨h7, h7p0⟩ := h7
          rw [alw, show I2 lw = I0 lw from funext (fun k => hF.at tlw rfl)] at h7p0
          refine lv_iconst (v := 1) hx hb dX12_draw_48 (by decide) ?_
          refine lv_isub hx hb dX12_draw_49 ?_
          refine lv_topi (fun v8 ev8 => ?_)
          have jv8 : v8.toInt = rh7.toInt - 1 := xi_sub ev8 rfl (by decide) (by omega) (by omega)
          refine lv_i2l hx hb dX12_draw_50 rfl ?_
          refine lv_topl (fun v9 ev9 => ?_)
          have jv9 : v9.toInt = v8.toInt := by rw [ev9, xi_64]
          refine vp_callSi (W.runS (As := [.long v6, .long 0, .long v9]) (rest := []) ⟨hx, hb, hml, hown, hts⟩ (tX12_in l E X A z I2 L0 v6 (a_t) jv6 0 (0) (by decide) v9 (v8.toInt) jv9) (va_cwS 3 hts gX12_draw_X12_in rfl rfl rfl (by decide +kernel) ⟨Nat.le_of_ble_eq_true rfl, Nat.le_of_ble_eq_true rfl⟩) ⟨h_blind _ _ _ _ _ _ _, h_pre _ hE hk hX hA hI hR g⟩ rfl rfl hl.1 rfl (lv_room (Nat.le_of_ble_eq_true rfl)) dX12_draw_51 ⟨Nat.le_of_ble_eq_true rfl, Nat.le_of_ble_eq_true rfl⟩) (fun rh10 h10 => ?_)
          rcases h10 with ⟨rfl, h10⟩ | ⟨rfl, h10⟩
          · skip
            refine lv_if_ne (tgt := 60) hx hb dX12_draw_54 (by decide) (fun h => absurd (by decide) h) (fun _ => ?_)
            refine lv_bipush (v := (-2)) hx hb dX12_draw_57 (by decide) ?_
            have hS := g.2.1
            exact W.iret (v := (-2)) hx hb hr (fun t ht hW => ⟨⟨(-2), I2, rfl, ⟨hI, hF, (fun u hr hok => by rw [ahw, alw] at hr; have z9 : ((-2) : Int32).toInt = (-2) := (by decide); have dd := h_drA (a := a_t) (b := b_t) (S := rh7.toInt) hr hok hq hcy (by rw [← h4p0]; omega) h7p0 (by omega); exact Or.inl ⟨dd, z9, ((h_F.at hL2 t_a0 rfl).trans (ef0_31.symm)).trans ef0_31⟩)⟩, h_ret g ht⟩, hS.F ht⟩) hS.2.2 dX12_draw_59
          · skip
            refine lv_if_ne (tgt := 60) hx hb dX12_draw_54 (by decide) (fun _ => ?_) (fun h => absurd h (by decide))
            refine lv_iload_n hx hb dX12_draw_60 rfl (lv_at hl 3 rfl) ?_
            refine lv_i2l hx hb dX12_draw_61 rfl ?_
            refine lv_topl (fun v13 ev13 => ?_)
            have jv13 : v13.toInt = b_t := by rw [ev13, xi_64]; exact h_b
            refine lv_lconst (v := 0) hx hb dX12_draw_62 (by decide) ?_
            refine lv_aload_n hx hb dX12_draw_63 rfl (lv_at hl 1 rfl) ?_
            refine vp_callSi (W.runV (As := []) (rest := [.long 0, .long v13]) ⟨hx, hb, hml, hown, hts⟩ (tX12_weightsC l E X A z I2 L0 a0 t_a0 (q) (by rw [ahw, show I2 hw = I0 hw from funext (fun k => hF.at thw rfl), show I2 a0 12 = I0 a0 12 from hF.at t_a0 rfl]; exact hq)) (cwV 0 hts gX12_draw_X12_weights rfl rfl rfl (by decide +kernel) ⟨Nat.le_of_ble_eq_true rfl, Nat.le_of_ble_eq_true rfl⟩) ⟨h_blind _ _ _ _ _ _ _, h_recv g t_a0 (by decide) so_13 (q := (RX12, TX12, 51)) rfl, h_pre _ hE hk hX hA hI hR g⟩ rfl rfl hl.1 rfl (lv_room (Nat.le_of_ble_eq_true rfl)) dX12_draw_64 ⟨Nat.le_of_ble_eq_true rfl, Nat.le_of_ble_eq_true rfl⟩) (fun rh14 h14 => ?_)
            obtain ⟨h14, h14p0⟩ := h14
            rw [alw, show I2 lw = I0 lw from funext (fun k => hF.at tlw rfl)] at h14p0
            refine lv_aload_n hx hb dX12_draw_67 rfl (lv_at hl 1 rfl) ?_
            refine lv_aload_n hx hb dX12_draw_68 rfl (lv_at hl 1 rfl) ?_
            refine lv_iload_n hx hb dX12_draw_69 rfl (lv_at hl 2 rfl) ?_
            refine vp_callSi (W.runV (As := [.int a]) (rest := [.ref a0, .int rh14, .long 0, .long v13]) ⟨hx, hb, hml, hown, hts⟩ (tX12_drawnByC l E X A z I2 L0 a0 t_a0 a (a_t) h_a (by omega) (q) (by rw [ahw, show I2 hw = I0 hw from funext (fun k => hF.at thw rfl), show I2 a0 12 = I0 a0 12 from hF.at t_a0 rfl]; exact hq) (by rw [alw, aot, show I2 lw = I0 lw from funext (fun k => hF.at tlw rfl), h_sum_congr (v := h_wt (I0 lw) q) (fun i hi => h_wo_is (hx2_0 i (by omega)))]; omega)) (cwV 1 hts gX12_draw_X12_drawnBy rfl rfl rfl (by decide +kernel) ⟨Nat.le_of_ble_eq_true rfl, Nat.le_of_ble_eq_true rfl⟩) ⟨h_blind _ _ _ _ _ _ _, h_recv g t_a0 (by decide) so_13 (q := (RX12, TX12, 51)) rfl, h_pre _ hE hk hX hA hI hR g⟩ rfl rfl hl.1 rfl (lv_room (Nat.le_of_ble_eq_true rfl)) dX12_draw_70 ⟨Nat.le_of_ble_eq_true rfl, Nat.le_of_ble_eq_true rfl⟩) (fun rh15 h15 => ?_)
            obtain ⟨h15, h15p0, h15p1, h15p2⟩ := h15
            rw [alw, show I2 lw = I0 lw from funext (fun k => hF.at tlw rfl)] at h15p0
            rw [aot] at h15p1
            rw [alw, aot, show I2 lw = I0 lw from funext (fun k => hF.at tlw rfl)] at h15p2
            refine vp_callSi (W.runV (As := [.int rh15]) (rest := [.int rh14, .long 0, .long v13]) ⟨hx, hb, hml, hown, hts⟩ (tX12_weightC l E X A z I2 L0 a0 t_a0 rh15 (rh15.toInt) rfl (by omega) (q) (by rw [ahw, show I2 hw = I0 hw from funext (fun k => hF.at thw rfl), show I2 a0 12 = I0 a0 12 from hF.at t_a0 rfl]; exact hq)) (cwV 1 hts gX12_draw_X12_weight rfl rfl rfl (by decide +kernel) ⟨Nat.le_of_ble_eq_true rfl, Nat.le_of_ble_eq_true rfl⟩) ⟨h_blind _ _ _ _ _ _ _, h_recv g t_a0 (by decide) so_13 (q := (RX12, TX12, 51)) rfl, h_pre _ hE hk hX hA hI hR g⟩ rfl rfl hl.1 rfl (lv_room (Nat.le_of_ble_eq_true rfl)) dX12_draw_73 ⟨Nat.le_of_ble_eq_true rfl, Nat.le_of_ble_eq_true rfl⟩) (fun rh16 h16 => ?_)
            obtain ⟨h16, h16p0⟩ := h16
            rw [alw, show I2 lw = I0 lw from funext (fun k => hF.at tlw rfl)] at h16p0
            refine lv_isub hx hb dX12_draw_76 ?_
            refine lv_topi (fun v17 ev17 => ?_)
            have jv17 : v17.toInt = rh14.toInt - rh16.toInt := xi_sub ev17 rfl rfl (by omega) (by omega)
            refine lv_iconst (v := 1) hx hb dX12_draw_77 (by decide) ?_
            refine lv_isub hx hb dX12_draw_78 ?_
            refine lv_topi (fun v18 ev18 => ?_)
            have jv18 : v18.toInt = v17.toInt - 1 := xi_sub ev18 rfl (by decide) (by omega) (by omega)
            refine lv_i2l hx hb dX12_draw_79 rfl ?_
            refine lv_topl (fun v19 ev19 => ?_)
            have jv19 : v19.toInt = v18.toInt := by rw [ev19, xi_64]
            refine vp_callSi (W.runS (As := [.long v13, .long 0, .long v19]) (rest := []) ⟨hx, hb, hml, hown, hts⟩ (tX12_in l E X A z I2 L0 v13 (b_t) jv13 0 (0) (by decide) v19 (v18.toInt) jv19) (va_cwS 3 hts gX12_draw_X12_in rfl rfl rfl (by decide +kernel) ⟨Nat.le_of_ble_eq_true rfl, Nat.le_of_ble_eq_true rfl⟩) ⟨h_blind _ _ _ _ _ _ _, h_pre _ hE hk hX hA hI hR g⟩ rfl rfl hl.1 rfl (lv_room (Nat.le_of_ble_eq_true rfl)) dX12_draw_80 ⟨Nat.le_of_ble_eq_true rfl, Nat.le_of_ble_eq_true rfl⟩) (fun rh20 h20 => ?_)
            rcases h20 with ⟨rfl, h20⟩ | ⟨rfl, h20⟩
            · skip
              refine lv_if_ne (tgt := 89) hx hb dX12_draw_83 (by decide) (fun h => absurd (by decide) h) (fun _ => ?_)
              refine lv_bipush (v := (-2)) hx hb dX12_draw_86 (by decide) ?_
              have hS := g.2.1
              exact W.iret (v := (-2)) hx hb hr (fun t ht hW => ⟨⟨(-2), I2, rfl, ⟨hI, hF, (fun u hr hok => by rw [ahw, alw] at hr; have z9 : ((-2) : Int32).toInt = (-2) := (by decide); have dd := h_drB (a := a_t) (b := b_t) (S := rh7.toInt) (V := rh16.toInt) (x := rh15.toInt.toNat) hr hok hq hcy (by rw [← h4p0]; omega) h7p0 (by omega) (fun i hi => h_wo_is (hx2_0 i (by omega))) h15p2 (by omega) (by rw [h16p0]); exact Or.inl ⟨(fun h9 => absurd (dd.mp h9) (by omega)), z9, ((h_F.at hL2 t_a0 rfl).trans (ef0_31.symm)).trans ef0_31⟩)⟩, h_ret g ht⟩, hS.F ht⟩) hS.2.2 dX12_draw_88
            · skip
              refine lv_if_ne (tgt := 89) hx hb dX12_draw_83 (by decide) (fun _ => ?_) (fun h => absurd h (by decide))
              refine lv_aload_n hx hb dX12_draw_89 rfl (lv_at hl 1 rfl) ?_
              refine h_get (v := .int f0_30) hx hb hts iX12 hown g t_a0 (by decide) so_13 rfl 30 (by decide) (hts (.fieldLink RX12 306 "CapLeagueModel" "hasTable" "Z") (by decide +kernel)) rfl dX12_draw_90 (congrArg Value.int ((h_F.at hL2 t_a0 rfl).trans (ef0_30.symm))) ?_
              refine lv_if_eq (tgt := 103) hx hb dX12_draw_93 (by decide) (fun c23 => ?_) (fun c23 => ?_)
              · have ic23 := (xi_eq c23 rfl (by decide) : f0_30.toInt = 0)
                refine lv_bipush (v := (-4)) hx hb dX12_draw_103 (by decide) ?_
                have hS := g.2.1
                exact W.iret (v := (-4)) hx hb hr (fun t ht hW => ⟨⟨(-4), I2, rfl, ⟨hI, hF, (fun u hr hok => by rw [ahw, alw] at hr; have z9 : ((-4) : Int32).toInt = (-4) := (by decide); have dd := h_drB (a := a_t) (b := b_t) (S := rh7.toInt) (V := rh16.toInt) (x := rh15.toInt.toNat) hr hok hq hcy (by rw [← h4p0]; omega) h7p0 (by omega) (fun i hi => h_wo_is (hx2_0 i (by omega))) h15p2 (by omega) (by rw [h16p0]); exact Or.inr (Or.inl ⟨(dd.mpr (by omega)), by rw [qf0_30, qf0_31]; omega, z9, ((h_F.at hL2 t_a0 rfl).trans (ef0_31.symm)).trans ef0_31⟩))⟩, h_ret g ht⟩, hS.F ht⟩) hS.2.2 dX12_draw_105
              · have ic23 := (xi_ne c23 rfl (by decide) : f0_30.toInt ≠ 0)
                refine lv_aload_n hx hb dX12_draw_96 rfl (lv_at hl 1 rfl) ?_
                refine h_get (v := .int f0_31) hx hb hts iX12 hown g t_a0 (by decide) so_13 rfl 31 (by decide) (hts (.fieldLink RX12 264 "CapLeagueModel" "isDrawn" "Z") (by decide +kernel)) rfl dX12_draw_97 (congrArg Value.int ((h_F.at hL2 t_a0 rfl).trans (ef0_31.symm))) ?_
                refine lv_if_eq (tgt := 106) hx hb dX12_draw_100 (by decide) (fun c24 => ?_) (fun c24 => ?_)
                · have ic24 := (xi_eq c24 rfl (by decide) : f0_31.toInt = 0)
                  refine lv_aload_n hx hb dX12_draw_106 rfl (lv_at hl 1 rfl) ?_
                  refine vp_callSi (W.runV (As := []) (rest := []) ⟨hx, hb, hml, hown, hts⟩ (tX12_lotsC l E X A z I2 L0 a0 t_a0 (q) (by rw [ahw, show I2 hw = I0 hw from funext (fun k => hF.at thw rfl), show I2 a0 12 = I0 a0 12 from hF.at t_a0 rfl]; exact hq)) (cwV 0 hts gX12_draw_X12_lots rfl rfl rfl (by decide +kernel) ⟨Nat.le_of_ble_eq_true rfl, Nat.le_of_ble_eq_true rfl⟩) ⟨h_blind _ _ _ _ _ _ _, h_recv g t_a0 (by decide) so_13 (q := (RX12, TX12, 51)) rfl, h_pre _ hE hk hX hA hI hR g⟩ rfl rfl hl.1 rfl (lv_room (Nat.le_of_ble_eq_true rfl)) dX12_draw_107 ⟨Nat.le_of_ble_eq_true rfl, Nat.le_of_ble_eq_true rfl⟩) (fun rh25 h25 => ?_)
                  obtain ⟨h25, h25p0⟩ := h25
                  rw [alw, show I2 lw = I0 lw from funext (fun k => hF.at tlw rfl)] at h25p0
                  refine lv_if_le (tgt := 185) hx hb dX12_draw_110 (by decide) (fun c26 => ?_) (fun c26 => ?_)
                  · have ic26 := (xi_le c26 rfl (by decide) : rh25.toInt ≤ 0)
                    exfalso
                    omega
                  · have ic26 := (xi_nle c26 rfl (by decide) : 0 < rh25.toInt)
                    refine lv_aload_n hx hb dX12_draw_113 rfl (lv_at hl 1 rfl) ?_
                    refine lv_iload_n hx hb dX12_draw_114 rfl (lv_at hl 2 rfl) ?_
                    refine vp_callSi (W.runV (As := [.int a]) (rest := []) ⟨hx, hb, hml, hown, hts⟩ (tX12_drawnByC l E X A z I2 L0 a0 t_a0 a (a_t) h_a (by omega) (q) (by rw [ahw, show I2 hw = I0 hw from funext (fun k => hF.at thw rfl), show I2 a0 12 = I0 a0 12 from hF.at t_a0 rfl]; exact hq) (by rw [alw, aot, show I2 lw = I0 lw from funext (fun k => hF.at tlw rfl), h_sum_congr (v := h_wt (I0 lw) q) (fun i hi => h_wo_is (hx2_0 i (by omega)))]; omega)) (cwV 1 hts gX12_draw_X12_drawnBy rfl rfl rfl (by decide +kernel) ⟨Nat.le_of_ble_eq_true rfl, Nat.le_of_ble_eq_true rfl⟩) ⟨h_blind _ _ _ _ _ _ _, h_recv g t_a0 (by decide) so_13 (q := (RX12, TX12, 51)) rfl, h_pre _ hE hk hX hA hI hR g⟩ rfl rfl hl.1 rfl (lv_room (Nat.le_of_ble_eq_true rfl)) dX12_draw_115 ⟨Nat.le_of_ble_eq_true rfl, Nat.le_of_ble_eq_true rfl⟩) (fun rh27 h27 => ?_)
                    obtain ⟨h27, h27p0, h27p1, h27p2⟩ := h27
                    rw [alw, show I2 lw = I0 lw from funext (fun k => hF.at tlw rfl)] at h27p0
                    rw [aot] at h27p1
                    rw [alw, aot, show I2 lw = I0 lw from funext (fun k => hF.at tlw rfl)] at h27p2
                    have exx : rh27.toInt.toNat = rh15.toInt.toNat := h_hit.one (n := (h_lt0 (I0 lw) q).toNat) (fun i hi => by rw [h_wo_is (hx2_0 i (by omega))]; exact (hwb i).1) h27p2 h15p2 (by omega) (by omega)
                    have ewx : h_wt (I0 lw) q rh27.toInt.toNat = h_wt (I0 lw) q rh15.toInt.toNat := by rw [exx]
                    refine lv_istore (lv' := [(4, .int rh27), (3, .int 0), (0, .ref a0), (1, .int a), (2, .int b)]) hx hb dX12_draw_118 hl (by decide) rfl (fun ls hl => ?_)
                    refine lv_aload_n hx hb dX12_draw_120 rfl (lv_at hl 2 rfl) ?_
                    refine h_get (v := .ref ot) hx hb hts iX12 hown g t_a0 (by decide) so_13 rfl 48 (by decide) (hts (.fieldLink RX12 109 "CapLeagueModel" "isOut" "[Z") (by decide +kernel)) rfl dX12_draw_121 (by show va_rf (z.R a0 48) = _; rw [rot]; rfl) ?_
                    refine lv_iload hx hb dX12_draw_124 (lv_at hl 0 rfl) ?_
                    refine lv_iconst (v := 1) hx hb dX12_draw_126 (by decide) ?_
                    refine h_zast hx hb g tot (by decide) so_1348 (xi_in (by omega) (by omega)) dX12_draw_127 (fun I28 H locs eI28 g => ?_)
                    rw [h_nz (by decide) (by decide)] at eI28
                    have hI := hI.wr eI28 tot (rfl : h_bd 1348 _ = (0, 1)) (by decide) (by decide)
                    have hF := hF.wr eI28 tot rfl
                    refine lv_aload_n hx hb dX12_draw_128 rfl (lv_at hl 2 rfl) ?_
                    refine lv_iload_n hx hb dX12_draw_129 rfl (lv_at hl 4 rfl) ?_
                    refine vp_callSi (W.runV (As := [.int b]) (rest := []) ⟨hx, hb, hml, hown, hts⟩ (tX12_drawnByC l E X A z I28 L0 a0 t_a0 b (b_t) h_b (by omega) (q) (by rw [ahw, show I28 hw = I0 hw from funext (fun k => hF.at thw rfl), show I28 a0 12 = I0 a0 12 from hF.at t_a0 rfl]; exact hq) (by rw [alw, aot, show I28 lw = I0 lw from funext (fun k => hF.at tlw rfl), h_sum_out (w := h_wt (I0 lw) q) (x := rh27.toInt.toNat) (by omega) (fun i hi hne => h_wo_is (by rw [h_n2 eI28 (h_kne (i := rh27) rfl (by omega) (by omega))]; exact hx2_0 i (by omega))) (h_wo_no (by rw [show rh27.toInt.toNat = rh27.toNatClampNeg from rfl, h_n0 eI28]; decide))]; omega)) (cwV 1 hts gX12_draw_X12_drawnBy rfl rfl rfl (by decide +kernel) ⟨Nat.le_of_ble_eq_true rfl, Nat.le_of_ble_eq_true rfl⟩) ⟨h_blind _ _ _ _ _ _ _, h_recv g t_a0 (by decide) so_13 (q := (RX12, TX12, 51)) rfl, h_pre _ hE hk hX hA hI hR g⟩ rfl rfl hl.1 rfl (lv_room (Nat.le_of_ble_eq_true rfl)) dX12_draw_130 ⟨Nat.le_of_ble_eq_true rfl, Nat.le_of_ble_eq_true rfl⟩) (fun rh29 h29 => ?_)
                    obtain ⟨h29, h29p0, h29p1, h29p2⟩ := h29
                    rw [alw, show I28 lw = I0 lw from funext (fun k => hF.at tlw rfl)] at h29p0
                    rw [aot] at h29p1
                    rw [alw, aot, show I28 lw = I0 lw from funext (fun k => hF.at tlw rfl)] at h29p2
                    have nxy : rh29.toInt ≠ rh27.toInt := by
                      intro hxy
                      rw [show rh29.toInt.toNat = rh27.toNatClampNeg from by rw [hxy]; rfl, h_n0 eI28] at h29p1
                      exact absurd h29p1 (by decide)
                    refine lv_istore (lv' := [(5, .int rh29), (4, .int rh27), (3, .int 0), (0, .ref a0), (1, .int a), (2, .int b)]) hx hb dX12_draw_133 hl (by decide) rfl (fun ls hl => ?_)
                    refine lv_aload_n hx hb dX12_draw_135 rfl (lv_at hl 3 rfl) ?_
                    refine h_get (v := .ref ot) hx hb hts iX12 hown g t_a0 (by decide) so_13 rfl 48 (by decide) (hts (.fieldLink RX12 109 "CapLeagueModel" "isOut" "[Z") (by decide +kernel)) rfl dX12_draw_136 (by show va_rf (z.R a0 48) = _; rw [rot]; rfl) ?_
                    refine lv_iload hx hb dX12_draw_139 (lv_at hl 0 rfl) ?_
                    refine lv_iconst (v := 1) hx hb dX12_draw_141 (by decide) ?_
                    refine h_zast hx hb g tot (by decide) so_1348 (xi_in (by omega) (by omega)) dX12_draw_142 (fun I30 H locs eI30 g => ?_)
                    rw [h_nz (by decide) (by decide)] at eI30
                    have hI := hI.wr eI30 tot (rfl : h_bd 1348 _ = (0, 1)) (by decide) (by decide)
                    have hF := hF.wr eI30 tot rfl
                    refine lv_aload_n hx hb dX12_draw_143 rfl (lv_at hl 3 rfl) ?_
                    refine h_get (v := .ref dr) hx hb hts iX12 hown g t_a0 (by decide) so_13 rfl 28 (by decide) (hts (.fieldLink RX12 67 "CapLeagueModel" "drawnOf" "[I") (by decide +kernel)) rfl dX12_draw_144 (by show va_rf (z.R a0 28) = _; rw [rdr]; rfl) ?_
                    refine lv_bipush (v := 8) hx hb dX12_draw_147 (by decide) ?_
                    refine lv_aload_n hx hb dX12_draw_149 rfl (lv_at hl 3 rfl) ?_
                    refine h_get (v := .int f0_12) hx hb hts iX12 hown g t_a0 (by decide) so_13 rfl 12 (by decide) (hts (.fieldLink RX12 187 "CapLeagueModel" "clock" "I") (by decide +kernel)) rfl dX12_draw_150 (congrArg Value.int ((h_n1 eI30 t_a0 tot (by decide)).trans ((h_n1 eI28 t_a0 tot (by decide)).trans ((h_F.at hL2 t_a0 rfl).trans (ef0_12.symm))))) ?_
                    refine lv_imul hx hb dX12_draw_153 ?_
                    refine lv_topi (fun v31 ev31 => ?_)
                    have jv31 : v31.toInt = 8 * f0_12.toInt := xi_mul ev31 (by decide) rfl (by omega) (by omega)
                    refine lv_aload_n hx hb dX12_draw_154 rfl (lv_at hl 3 rfl) ?_
                    obtain ⟨b32, rb32, tb32⟩ := hR.at a0 32 t_a0 (rfl : h_rs 13 32 = some (1332, false)) (by decide)
                    refine h_get (v := .ref b32) hx hb hts iX12 hown g t_a0 (by decide) so_13 rfl 32 (by decide) (hts (.fieldLink RX12 73 "CapLeagueModel" "table" "[I") (by decide +kernel)) rfl dX12_draw_155 (by show va_rf (z.R a0 32) = _; rw [rb32]; rfl) ?_
                    refine lv_iload hx hb dX12_draw_158 (lv_at hl 1 rfl) ?_
                    refine h_ald hx hb g tb32 (by decide) so_1332 (xi_in (by omega) (by omega)) dX12_draw_160 ?_
                    refine lv_topi (fun v33 ev33 => ?_)
                    have jv33 := hI.rd b32 rh27.toNatClampNeg tb32 ev33 (rfl : h_bd 1332 _ = (0, 7))
                    refine h_ast hx hb g tdr (by decide) so_1328 (xi_in (by omega) (by omega)) dX12_draw_161 (fun I34 H locs eI34 g => ?_)
                    have hI := hI.wr eI34 tdr (rfl : h_bd 1328 _ = ((-1), 7)) (by omega) (by omega)
                    have hF := hF.wr eI34 tdr rfl
                    refine lv_aload_n hx hb dX12_draw_162 rfl (lv_at hl 3 rfl) ?_
                    refine h_get (v := .ref dr) hx hb hts iX12 hown g t_a0 (by decide) so_13 rfl 28 (by decide) (hts (.fieldLink RX12 67 "CapLeagueModel" "drawnOf" "[I") (by decide +kernel)) rfl dX12_draw_163 (by show va_rf (z.R a0 28) = _; rw [rdr]; rfl) ?_
                    refine lv_bipush (v := 8) hx hb dX12_draw_166 (by decide) ?_
                    refine lv_aload_n hx hb dX12_draw_168 rfl (lv_at hl 3 rfl) ?_
                    refine h_get (v := .int f0_12) hx hb hts iX12 hown g t_a0 (by decide) so_13 rfl 12 (by decide) (hts (.fieldLink RX12 187 "CapLeagueModel" "clock" "I") (by decide +kernel)) rfl dX12_draw_169 (congrArg Value.int ((h_n1 eI34 t_a0 tdr (by decide)).trans ((h_n1 eI30 t_a0 tot (by decide)).trans ((h_n1 eI28 t_a0 tot (by decide)).trans ((h_F.at hL2 t_a0 rfl).trans (ef0_12.symm)))))) ?_
                    refine lv_imul hx hb dX12_draw_172 ?_
                    refine xw_i (v := v31) ev31.symm ?_
                    refine lv_iconst (v := 1) hx hb dX12_draw_173 (by decide) ?_
                    refine lv_iadd hx hb dX12_draw_174 ?_
                    refine lv_topi (fun v35 ev35 => ?_)
                    have jv35 : v35.toInt = v31.toInt + 1 := xi_add ev35 rfl (by decide) (by omega) (by omega)
                    refine lv_aload_n hx hb dX12_draw_175 rfl (lv_at hl 3 rfl) ?_
                    refine h_get (v := .ref b32) hx hb hts iX12 hown g t_a0 (by decide) so_13 rfl 32 (by decide) (hts (.fieldLink RX12 73 "CapLeagueModel" "table" "[I") (by decide +kernel)) rfl dX12_draw_176 (by show va_rf (z.R a0 32) = _; rw [rb32]; rfl) ?_
                    refine lv_iload hx hb dX12_draw_179 (lv_at hl 0 rfl) ?_
                    refine h_ald hx hb g tb32 (by decide) so_1332 (xi_in (by omega) (by omega)) dX12_draw_181 ?_
                    refine lv_topi (fun v36 ev36 => ?_)
                    have jv36 := hI.rd b32 rh29.toNatClampNeg tb32 ev36 (rfl : h_bd 1332 _ = (0, 7))
                    refine h_ast hx hb g tdr (by decide) so_1328 (xi_in (by omega) (by omega)) dX12_draw_182 (fun I37 H locs eI37 g => ?_)
                    have hI := hI.wr eI37 tdr (rfl : h_bd 1328 _ = ((-1), 7)) (by omega) (by omega)
                    have hF := hF.wr eI37 tdr rfl
                    refine lv_iconst (v := 2) hx hb dX12_draw_183 (by decide) ?_
                    refine lv_istore_n (lv' := [(3, .int 2), (5, .int rh29), (4, .int rh27), (0, .ref a0), (1, .int a), (2, .int b)]) hx hb dX12_draw_184 rfl hl (by decide) rfl (fun ls hl => ?_)
                    have hout : ∀ i : Int32, 0 ≤ i.toInt → i.toInt < 8 → ((I37 ot i.toNatClampNeg).toInt = 1 ∧ (i.toInt = rh27.toInt ∨ i.toInt = rh29.toInt)) ∨ ((I37 ot i.toNatClampNeg).toInt = 0 ∧ i.toInt ≠ rh27.toInt ∧ i.toInt ≠ rh29.toInt) := fun i h1 h2 => by rw [(h_n1 eI37 tot tdr (by decide)).trans (h_n1 eI34 tot tdr (by decide))]; exact h_out2 eI28 eI30 (fun k hk => hx2_0 k (by omega)) (by omega) (by omega) i h1 h2
                    refine lv_iconst (v := 0) hx hb dX12_draw_185 (by decide) ?_
                    refine lv_istore (lv' := [(4, .int 0), (3, .int 2), (5, .int rh29), (0, .ref a0), (1, .int a), (2, .int b)]) hx hb dX12_draw_186 hl (by decide) rfl (fun ls hl => ?_)
                    have loop188_1 : ∀ (n : Nat) (I40 : tI) (H : Heap) (locs : List Loc) (ls : Array Slot) (v38 v39 : Int32), h_G h_so h_fk E A z I40 L0 s s.heap H locs → h_I z I40 → h_F [(1348, 999), (1328, 999), (1325, 999), (1327, 999), (1329, 999), (13, 31), (13, 33)] z I0 I40 → lv_has ls 6 [(0, .ref a0), (3, .int v38), (4, .int v39)] → (0 ≤ v38.toInt ∧ v38.toInt ≤ 8) → (0 ≤ v39.toInt ∧ v39.toInt ≤ 8) → h_F [(1328, 999)] z I37 I40 → ((rh27.toInt < v39.toInt ∧ rh29.toInt < v39.toInt ∧ v38.toInt = v39.toInt) ∨ (rh27.toInt < v39.toInt ∧ v39.toInt ≤ rh29.toInt ∧ v38.toInt = v39.toInt + 1) ∨ (v39.toInt ≤ rh27.toInt ∧ rh29.toInt < v39.toInt ∧ v38.toInt = v39.toInt + 1) ∨ (v39.toInt ≤ rh27.toInt ∧ v39.toInt ≤ rh29.toInt ∧ v38.toInt = v39.toInt + 2)) → (∀ k : Nat, (k : Int) < v38.toInt → 0 ≤ (I40 dr (8 * f0_12.toInt.toNat + k)).toInt) → (8 - v39.toInt) < (n : Int) → W pr_ l ev_ (headSpec wsX12_draw ({ frames := 5, cells := 0, slots := 0, locals := 320 })).room s m ([.ref a0, .int a, .int b] : List Value).toArray below meth cd_ H locs 0 0 (MQ below (va_Qi (fun r (I1 : tI) => h_I z I1 ∧ h_F [(1348, 999), (1328, 999), (1325, 999), (1327, 999), (1329, 999), (13, 31), (13, 33)] z I0 I1 ∧ (∀ u : Nat → Int, h_r12 (I0 (h_ad z a0 11)) (I0 (h_ad z a0 10)) (I0 a0 12).toInt u → q_ok u → (¬ q_draws u a_t b_t ∧ r.toInt = -2 ∧ I1 a0 31 = I0 a0 31) ∨ (q_draws u a_t b_t ∧ ((I0 a0 30).toInt = 0 ∨ (I0 a0 31).toInt = 1) ∧ r.toInt = -4 ∧ I1 a0 31 = I0 a0 31) ∨ (q_draws u a_t b_t ∧ (I0 a0 30).toInt = 1 ∧ (I0 a0 31).toInt = 0 ∧ r.toInt = 1 ∧ I1 a0 31 = 1))) (fun (I1 : tI) t => h_B E A z I1 L0 t) A) ([.ref a0, .int a, .int b] : List Value).toArray s 0 0 A) (F0 m 188 ls []) := by
                      intro n
                      induction n with
                      | zero => intro I40 H locs ls v38 v39 g hI hF hl jv38 jv39 hL188 hx188_0 hx188_1 hn; exact absurd hn (by omega)
                      | succ n ih188 =>
                        intro I40 H locs ls v38 v39 g hI hF hl jv38 jv39 hL188 hx188_0 hx188_1 hn
                        refine lv_iload hx hb dX12_draw_188 (lv_at hl 2 rfl) ?_
                        refine lv_bipush (v := 8) hx hb dX12_draw_190 (by decide) ?_
                        refine lv_icmp_ge (tgt := 238) hx hb dX12_draw_192 (by decide) (fun c41 => ?_) (fun c41 => ?_)
                        · have ic41 := (xi_le c41 (by decide) rfl : 8 ≤ v39.toInt)
                          refine lv_iconst (v := 0) hx hb dX12_draw_238 (by decide) ?_
                          refine lv_istore (lv' := [(4, .int 0), (0, .ref a0), (3, .int v38)]) hx hb dX12_draw_239 hl (by decide) rfl (fun ls hl => ?_)
                          have loop241_2 : ∀ (n : Nat) (I43 : tI) (H : Heap) (locs : List Loc) (ls : Array Slot) (v42 : Int32), h_G h_so h_fk E A z I43 L0 s s.heap H locs → h_I z I43 → h_F [(1348, 999), (1328, 999), (1325, 999), (1327, 999), (1329, 999), (13, 31), (13, 33)] z I0 I43 → lv_has ls 6 [(0, .ref a0), (4, .int v42)] → (0 ≤ v42.toInt ∧ v42.toInt ≤ 8) → h_F [(1325, 999), (1327, 999), (1329, 999)] z I40 I43 → (8 - v42.toInt) < (n : Int) → W pr_ l ev_ (headSpec wsX12_draw ({ frames := 5, cells := 0, slots := 0, locals := 320 })).room s m ([.ref a0, .int a, .int b] : List Value).toArray below meth cd_ H locs 0 0 (MQ below (va_Qi (fun r (I1 : tI) => h_I z I1 ∧ h_F [(1348, 999), (1328, 999), (1325, 999), (1327, 999), (1329, 999), (13, 31), (13, 33)] z I0 I1 ∧ (∀ u : Nat → Int, h_r12 (I0 (h_ad z a0 11)) (I0 (h_ad z a0 10)) (I0 a0 12).toInt u → q_ok u → (¬ q_draws u a_t b_t ∧ r.toInt = -2 ∧ I1 a0 31 = I0 a0 31) ∨ (q_draws u a_t b_t ∧ ((I0 a0 30).toInt = 0 ∨ (I0 a0 31).toInt = 1) ∧ r.toInt = -4 ∧ I1 a0 31 = I0 a0 31) ∨ (q_draws u a_t b_t ∧ (I0 a0 30).toInt = 1 ∧ (I0 a0 31).toInt = 0 ∧ r.toInt = 1 ∧ I1 a0 31 = 1))) (fun (I1 : tI) t => h_B E A z I1 L0 t) A) ([.ref a0, .int a, .int b] : List Value).toArray s 0 0 A) (F0 m 241 ls []) := by
                            intro n
                            induction n with
                            | zero => intro I43 H locs ls v42 g hI hF hl jv42 hL241 hn; exact absurd hn (by omega)
                            | succ n ih241 =>
                              intro I43 H locs ls v42 g hI hF hl jv42 hL241 hn
                              refine lv_iload hx hb dX12_draw_241 (lv_at hl 1 rfl) ?_
                              refine lv_bipush (v := 8) hx hb dX12_draw_243 (by decide) ?_
                              refine lv_icmp_ge (tgt := 335) hx hb dX12_draw_245 (by decide) (fun c44 => ?_) (fun c44 => ?_)
                              · have ic44 := (xi_le c44 (by decide) rfl : 8 ≤ v42.toInt)
                                refine lv_aload_n hx hb dX12_draw_335 rfl (lv_at hl 0 rfl) ?_
                                refine lv_iconst (v := 1) hx hb dX12_draw_336 (by decide) ?_
                                refine h_putI (ty := .boolean) (v := 1) hx hb hts iX12 tyX12 tyX12_ok nmX12 hown g t_a0 (by decide) so_13 rfl 31 (by decide) rfl (hts (.fieldLink RX12 264 "CapLeagueModel" "isDrawn" "Z") (by decide +kernel)) rfl rfl (by decide +kernel) (by decide) (by decide) dX12_draw_337 (fun I45 H locs eI45 g => ?_)
                                have hI := hI.wr eI45 t_a0 (rfl : h_bd 13 31 = (0, 1)) (by decide) (by decide)
                                have hF := hF.wr eI45 t_a0 rfl
                                refine lv_aload_n hx hb dX12_draw_340 rfl (lv_at hl 0 rfl) ?_
                                refine lv_iconst (v := 0) hx hb dX12_draw_341 (by decide) ?_
                                refine h_putI (ty := .int) (v := 0) hx hb hts iX12 tyX12 tyX12_ok nmX12 hown g t_a0 (by decide) so_13 rfl 33 (by decide) rfl (hts (.fieldLink RX12 247 "CapLeagueModel" "moves" "I") (by decide +kernel)) rfl rfl (by decide +kernel) rfl rfl dX12_draw_342 (fun I46 H locs eI46 g => ?_)
                                have hI := hI.wr eI46 t_a0 (rfl : h_bd 13 33 = (0, 12)) (by decide) (by decide)
                                have hF := hF.wr eI46 t_a0 rfl
                                refine lv_iconst (v := 1) hx hb dX12_draw_345 (by decide) ?_
                                have hS := g.2.1
                                exact W.iret (v := 1) hx hb hr (fun t ht hW => ⟨⟨1, I46, rfl, ⟨hI, hF, (fun u hr hok => by rw [ahw, alw] at hr; have z9 : (1 : Int32).toInt = 1 := (by decide); have dd := h_drB (a := a_t) (b := b_t) (S := rh7.toInt) (V := rh16.toInt) (x := rh15.toInt.toNat) hr hok hq hcy (by rw [← h4p0]; omega) h7p0 (by omega) (fun i hi => h_wo_is (hx2_0 i (by omega))) h15p2 (by omega) (by rw [h16p0]); exact Or.inr (Or.inr ⟨(dd.mpr (by omega)), by rw [qf0_30]; omega, by rw [qf0_31]; omega, z9, (h_n2 eI46 (by decide)).trans (h_n0 eI45)⟩))⟩, h_ret g ht⟩, hS.F ht⟩) hS.2.2 dX12_draw_346
                              · have ic44 := (xi_nle c44 (by decide) rfl : v42.toInt < 8)
                                refine lv_bipush (v := 10) hx hb dX12_draw_248 (by decide) ?_
                                refine lv_aload_n hx hb dX12_draw_250 rfl (lv_at hl 0 rfl) ?_
                                refine h_get (v := .ref dr) hx hb hts iX12 hown g t_a0 (by decide) so_13 rfl 28 (by decide) (hts (.fieldLink RX12 67 "CapLeagueModel" "drawnOf" "[I") (by decide +kernel)) rfl dX12_draw_251 (by show va_rf (z.R a0 28) = _; rw [rdr]; rfl) ?_
                                refine lv_bipush (v := 8) hx hb dX12_draw_254 (by decide) ?_
                                refine lv_aload_n hx hb dX12_draw_256 rfl (lv_at hl 0 rfl) ?_
                                refine h_get (v := .int f0_12) hx hb hts iX12 hown g t_a0 (by decide) so_13 rfl 12 (by decide) (hts (.fieldLink RX12 187 "CapLeagueModel" "clock" "I") (by decide +kernel)) rfl dX12_draw_257 (congrArg Value.int ((h_F.at hL241 t_a0 rfl).trans ((h_F.at hL188 t_a0 rfl).trans ((h_n1 eI37 t_a0 tdr (by decide)).trans ((h_n1 eI34 t_a0 tdr (by decide)).trans ((h_n1 eI30 t_a0 tot (by decide)).trans ((h_n1 eI28 t_a0 tot (by decide)).trans ((h_F.at hL2 t_a0 rfl).trans (ef0_12.symm))))))))) ?_
                                refine lv_imul hx hb dX12_draw_260 ?_
                                refine xw_i (v := v31) ev31.symm ?_
                                refine lv_iload hx hb dX12_draw_261 (lv_at hl 1 rfl) ?_
                                refine lv_iadd hx hb dX12_draw_263 ?_
                                refine lv_topi (fun v47 ev47 => ?_)
                                have jv47 : v47.toInt = v31.toInt + v42.toInt := xi_add ev47 rfl rfl (by omega) (by omega)
                                refine h_ald hx hb g tdr (by decide) so_1328 (xi_in (by omega) (by omega)) dX12_draw_264 ?_
                                refine lv_topi (fun v48 ev48 => ?_)
                                have jv48 := hI.rd dr v47.toNatClampNeg tdr ev48 (rfl : h_bd 1328 _ = ((-1), 7))
                                have mv48 : 0 ≤ v48.toInt := by rw [ev48, h_F.at hL241 tdr rfl, h_keq (k := 8 * f0_12.toInt.toNat + v42.toInt.toNat) (i := v47) rfl (by omega) (by omega)]; exact hx188_1 _ (by omega)
                                refine lv_imul hx hb dX12_draw_265 ?_
                                refine lv_topi (fun v49 ev49 => ?_)
                                have jv49 : v49.toInt = 10 * v48.toInt := xi_mul ev49 (by decide) rfl (by omega) (by omega)
                                refine lv_aload_n hx hb dX12_draw_266 rfl (lv_at hl 0 rfl) ?_
                                refine h_get (v := .int f0_12) hx hb hts iX12 hown g t_a0 (by decide) so_13 rfl 12 (by decide) (hts (.fieldLink RX12 187 "CapLeagueModel" "clock" "I") (by decide +kernel)) rfl dX12_draw_267 (congrArg Value.int ((h_F.at hL241 t_a0 rfl).trans ((h_F.at hL188 t_a0 rfl).trans ((h_n1 eI37 t_a0 tdr (by decide)).trans ((h_n1 eI34 t_a0 tdr (by decide)).trans ((h_n1 eI30 t_a0 tot (by decide)).trans ((h_n1 eI28 t_a0 tot (by decide)).trans ((h_F.at hL2 t_a0 rfl).trans (ef0_12.symm))))))))) ?_
                                refine lv_iadd hx hb dX12_draw_270 ?_
                                refine lv_topi (fun v50 ev50 => ?_)
                                have jv50 : v50.toInt = v49.toInt + f0_12.toInt := xi_add ev50 rfl rfl (by omega) (by omega)
                                refine lv_istore (lv' := [(5, .int v50), (0, .ref a0), (4, .int v42)]) hx hb dX12_draw_271 hl (by decide) rfl (fun ls hl => ?_)
                                refine lv_iload hx hb dX12_draw_273 (lv_at hl 2 rfl) ?_
                                refine lv_aload_n hx hb dX12_draw_275 rfl (lv_at hl 1 rfl) ?_
                                obtain ⟨b51, rb51, tb51⟩ := hR.at a0 27 t_a0 (rfl : h_rs 13 27 = some (1327, false)) (by decide)
                                refine h_get (v := .ref b51) hx hb hts iX12 hown g t_a0 (by decide) so_13 rfl 27 (by decide) (hts (.fieldLink RX12 64 "CapLeagueModel" "guarded" "[I") (by decide +kernel)) rfl dX12_draw_276 (by show va_rf (z.R a0 27) = _; rw [rb51]; rfl) ?_
                                refine lv_iload hx hb dX12_draw_279 (lv_at hl 0 rfl) ?_
                                refine h_ald hx hb g tb51 (by decide) so_1327 (xi_in (by omega) (by omega)) dX12_draw_281 ?_
                                refine lv_topi (fun v52 ev52 => ?_)
                                have jv52 := hI.rd b51 v50.toNatClampNeg tb51 ev52 (rfl : h_bd 1327 _ = ((-2147483648), 2147483647))
                                refine lv_icmp_ge (tgt := 307) hx hb dX12_draw_282 (by decide) (fun c53 => ?_) (fun c53 => ?_)
                                · have ic53 := (xi_le c53 rfl rfl : v52.toInt ≤ v42.toInt)
                                  refine lv_aload_n hx hb dX12_draw_307 rfl (lv_at hl 1 rfl) ?_
                                  obtain ⟨b54, rb54, tb54⟩ := hR.at a0 29 t_a0 (rfl : h_rs 13 29 = some (1329, false)) (by decide)
                                  refine h_get (v := .ref b54) hx hb hts iX12 hown g t_a0 (by decide) so_13 rfl 29 (by decide) (hts (.fieldLink RX12 70 "CapLeagueModel" "drawnTo" "[I") (by decide +kernel)) rfl dX12_draw_308 (by show va_rf (z.R a0 29) = _; rw [rb54]; rfl) ?_
                                  refine lv_bipush (v := 8) hx hb dX12_draw_311 (by decide) ?_
                                  refine lv_aload_n hx hb dX12_draw_313 rfl (lv_at hl 1 rfl) ?_
                                  refine h_get (v := .int f0_12) hx hb hts iX12 hown g t_a0 (by decide) so_13 rfl 12 (by decide) (hts (.fieldLink RX12 187 "CapLeagueModel" "clock" "I") (by decide +kernel)) rfl dX12_draw_314 (congrArg Value.int ((h_F.at hL241 t_a0 rfl).trans ((h_F.at hL188 t_a0 rfl).trans ((h_n1 eI37 t_a0 tdr (by decide)).trans ((h_n1 eI34 t_a0 tdr (by decide)).trans ((h_n1 eI30 t_a0 tot (by decide)).trans ((h_n1 eI28 t_a0 tot (by decide)).trans ((h_F.at hL2 t_a0 rfl).trans (ef0_12.symm))))))))) ?_
                                  refine lv_imul hx hb dX12_draw_317 ?_
                                  refine xw_i (v := v31) ev31.symm ?_
                                  refine lv_iload hx hb dX12_draw_318 (lv_at hl 2 rfl) ?_
                                  refine lv_iadd hx hb dX12_draw_320 ?_
                                  refine xw_i (v := v47) ev47.symm ?_
                                  refine lv_aload_n hx hb dX12_draw_321 rfl (lv_at hl 1 rfl) ?_
                                  obtain ⟨b55, rb55, tb55⟩ := hR.at a0 25 t_a0 (rfl : h_rs 13 25 = some (1325, false)) (by decide)
                                  refine h_get (v := .ref b55) hx hb hts iX12 hown g t_a0 (by decide) so_13 rfl 25 (by decide) (hts (.fieldLink RX12 58 "CapLeagueModel" "owner" "[I") (by decide +kernel)) rfl dX12_draw_322 (by show va_rf (z.R a0 25) = _; rw [rb55]; rfl) ?_
                                  refine lv_iload hx hb dX12_draw_325 (lv_at hl 0 rfl) ?_
                                  refine h_ald hx hb g tb55 (by decide) so_1325 (xi_in (by omega) (by omega)) dX12_draw_327 ?_
                                  refine lv_topi (fun v56 ev56 => ?_)
                                  have jv56 := hI.rd b55 v50.toNatClampNeg tb55 ev56 (rfl : h_bd 1325 _ = ((-2147483648), 2147483647))
                                  refine h_ast hx hb g tb54 (by decide) so_1329 (xi_in (by omega) (by omega)) dX12_draw_328 (fun I57 H locs eI57 g => ?_)
                                  have hI := hI.wr eI57 tb54 (rfl : h_bd 1329 _ = ((-2147483648), 2147483647)) (xi_lo _) (Int.le_of_lt_add_one (xi_hi _))
                                  have hF := hF.wr eI57 tb54 rfl
                                  obtain ⟨v58, ev58⟩ : ∃ z : Int32, z = v42 + 1 := ⟨_, rfl⟩
                                  have jv58 : v58.toInt = v42.toInt + 1 := xi_add ev58 rfl (by decide) (by omega) (by omega)
                                  refine lv_iinc (v := v58) (lv' := [(4, .int v58), (5, .int v50), (0, .ref a0)]) hx hb dX12_draw_329 hl (k := 2) rfl (by rw [ev58]; rfl) (by decide) rfl (fun ls hl => ?_)
                                  refine lv_goto (tgt := 241) hx hb dX12_draw_332 (by decide) ?_
                                  exact ih241 I57 _ _ _ v58 g hI hF (lv_sub hl [2, 0] rfl) (by omega) (h_F.wr (h_F.call (h_F.rf : h_F [(1325, 999), (1327, 999), (1329, 999)] z I40 I40) hL241 rfl) eI57 tb54 rfl) (by omega)
                                · have ic53 := (xi_nle c53 rfl rfl : v42.toInt < v52.toInt)
                                  refine lv_aload_n hx hb dX12_draw_285 rfl (lv_at hl 1 rfl) ?_
                                  obtain ⟨b59, rb59, tb59⟩ := hR.at a0 25 t_a0 (rfl : h_rs 13 25 = some (1325, false)) (by decide)
                                  refine h_get (v := .ref b59) hx hb hts iX12 hown g t_a0 (by decide) so_13 rfl 25 (by decide) (hts (.fieldLink RX12 58 "CapLeagueModel" "owner" "[I") (by decide +kernel)) rfl dX12_draw_286 (by show va_rf (z.R a0 25) = _; rw [rb59]; rfl) ?_
                                  refine lv_iload hx hb dX12_draw_289 (lv_at hl 0 rfl) ?_
                                  refine lv_aload_n hx hb dX12_draw_291 rfl (lv_at hl 1 rfl) ?_
                                  obtain ⟨b60, rb60, tb60⟩ := hR.at a0 26 t_a0 (rfl : h_rs 13 26 = some (1326, false)) (by decide)
                                  refine h_get (v := .ref b60) hx hb hts iX12 hown g t_a0 (by decide) so_13 rfl 26 (by decide) (hts (.fieldLink RX12 61 "CapLeagueModel" "giver" "[I") (by decide +kernel)) rfl dX12_draw_292 (by show va_rf (z.R a0 26) = _; rw [rb60]; rfl) ?_
                                  refine lv_iload hx hb dX12_draw_295 (lv_at hl 0 rfl) ?_
                                  refine h_ald hx hb g tb60 (by decide) so_1326 (xi_in (by omega) (by omega)) dX12_draw_297 ?_
                                  refine lv_topi (fun v61 ev61 => ?_)
                                  have jv61 := hI.rd b60 v50.toNatClampNeg tb60 ev61 (rfl : h_bd 1326 _ = ((-2147483648), 2147483647))
                                  refine h_ast hx hb g tb59 (by decide) so_1325 (xi_in (by omega) (by omega)) dX12_draw_298 (fun I62 H locs eI62 g => ?_)
                                  have hI := hI.wr eI62 tb59 (rfl : h_bd 1325 _ = ((-2147483648), 2147483647)) (xi_lo _) (Int.le_of_lt_add_one (xi_hi _))
                                  have hF := hF.wr eI62 tb59 rfl
                                  refine lv_aload_n hx hb dX12_draw_299 rfl (lv_at hl 1 rfl) ?_
                                  refine h_get (v := .ref b51) hx hb hts iX12 hown g t_a0 (by decide) so_13 rfl 27 (by decide) (hts (.fieldLink RX12 64 "CapLeagueModel" "guarded" "[I") (by decide +kernel)) rfl dX12_draw_300 (by show va_rf (z.R a0 27) = _; rw [rb51]; rfl) ?_
                                  refine lv_iload hx hb dX12_draw_303 (lv_at hl 0 rfl) ?_
                                  refine lv_iconst (v := 0) hx hb dX12_draw_305 (by decide) ?_
                                  refine h_ast hx hb g tb51 (by decide) so_1327 (xi_in (by omega) (by omega)) dX12_draw_306 (fun I63 H locs eI63 g => ?_)
                                  have hI := hI.wr eI63 tb51 (rfl : h_bd 1327 _ = ((-2147483648), 2147483647)) (by decide) (by decide)
                                  have hF := hF.wr eI63 tb51 rfl
                                  refine lv_aload_n hx hb dX12_draw_307 rfl (lv_at hl 1 rfl) ?_
                                  obtain ⟨b64, rb64, tb64⟩ := hR.at a0 29 t_a0 (rfl : h_rs 13 29 = some (1329, false)) (by decide)
                                  refine h_get (v := .ref b64) hx hb hts iX12 hown g t_a0 (by decide) so_13 rfl 29 (by decide) (hts (.fieldLink RX12 70 "CapLeagueModel" "drawnTo" "[I") (by decide +kernel)) rfl dX12_draw_308 (by show va_rf (z.R a0 29) = _; rw [rb64]; rfl) ?_
                                  refine lv_bipush (v := 8) hx hb dX12_draw_311 (by decide) ?_
                                  refine lv_aload_n hx hb dX12_draw_313 rfl (lv_at hl 1 rfl) ?_
                                  refine h_get (v := .int f0_12) hx hb hts iX12 hown g t_a0 (by decide) so_13 rfl 12 (by decide) (hts (.fieldLink RX12 187 "CapLeagueModel" "clock" "I") (by decide +kernel)) rfl dX12_draw_314 (congrArg Value.int ((h_n1 eI63 t_a0 tb51 (by decide)).trans ((h_n1 eI62 t_a0 tb59 (by decide)).trans ((h_F.at hL241 t_a0 rfl).trans ((h_F.at hL188 t_a0 rfl).trans ((h_n1 eI37 t_a0 tdr (by decide)).trans ((h_n1 eI34 t_a0 tdr (by decide)).trans ((h_n1 eI30 t_a0 tot (by decide)).trans ((h_n1 eI28 t_a0 tot (by decide)).trans ((h_F.at hL2 t_a0 rfl).trans (ef0_12.symm))))))))))) ?_
                                  refine lv_imul hx hb dX12_draw_317 ?_
                                  refine xw_i (v := v31) ev31.symm ?_
                                  refine lv_iload hx hb dX12_draw_318 (lv_at hl 2 rfl) ?_
                                  refine lv_iadd hx hb dX12_draw_320 ?_
                                  refine xw_i (v := v47) ev47.symm ?_
                                  refine lv_aload_n hx hb dX12_draw_321 rfl (lv_at hl 1 rfl) ?_
                                  refine h_get (v := .ref b59) hx hb hts iX12 hown g t_a0 (by decide) so_13 rfl 25 (by decide) (hts (.fieldLink RX12 58 "CapLeagueModel" "owner" "[I") (by decide +kernel)) rfl dX12_draw_322 (by show va_rf (z.R a0 25) = _; rw [rb59]; rfl) ?_
                                  refine lv_iload hx hb dX12_draw_325 (lv_at hl 0 rfl) ?_
                                  refine h_ald hx hb g tb59 (by decide) so_1325 (xi_in (by omega) (by omega)) dX12_draw_327 ?_
                                  refine xw_i ((h_n1 eI63 tb59 tb51 (by decide)).trans (h_n0 eI62)) ?_
                                  refine h_ast hx hb g tb64 (by decide) so_1329 (xi_in (by omega) (by omega)) dX12_draw_328 (fun I65 H locs eI65 g => ?_)
                                  have hI := hI.wr eI65 tb64 (rfl : h_bd 1329 _ = ((-2147483648), 2147483647)) (xi_lo _) (Int.le_of_lt_add_one (xi_hi _))
                                  have hF := hF.wr eI65 tb64 rfl
                                  obtain ⟨v66, ev66⟩ : ∃ z : Int32, z = v42 + 1 := ⟨_, rfl⟩
                                  have jv66 : v66.toInt = v42.toInt + 1 := xi_add ev66 rfl (by decide) (by omega) (by omega)
                                  refine lv_iinc (v := v66) (lv' := [(4, .int v66), (5, .int v50), (0, .ref a0)]) hx hb dX12_draw_329 hl (k := 2) rfl (by rw [ev66]; rfl) (by decide) rfl (fun ls hl => ?_)
                                  refine lv_goto (tgt := 241) hx hb dX12_draw_332 (by decide) ?_
                                  exact ih241 I65 _ _ _ v66 g hI hF (lv_sub hl [2, 0] rfl) (by omega) (h_F.wr (h_F.wr (h_F.wr (h_F.call (h_F.rf : h_F [(1325, 999), (1327, 999), (1329, 999)] z I40 I40) hL241 rfl) eI62 tb59 rfl) eI63 tb51 rfl) eI65 tb64 rfl) (by omega)
                          exact loop241_2 _ I40 _ _ _ (0) g hI hF (lv_sub hl [1, 0] rfl) ⟨by decide, by decide⟩ (h_F.rf : h_F [(1325, 999), (1327, 999), (1329, 999)] z I40 I40) (show (8 - (0 : Int)) < (((8 - (0 : Int)).toNat + 1 : Nat) : Int) by omega)
                        · have ic41 := (xi_nle c41 (by decide) rfl : v39.toInt < 8)
                          refine lv_aload_n hx hb dX12_draw_195 rfl (lv_at hl 0 rfl) ?_
                          refine h_get (v := .ref ot) hx hb hts iX12 hown g t_a0 (by decide) so_13 rfl 48 (by decide) (hts (.fieldLink RX12 109 "CapLeagueModel" "isOut" "[Z") (by decide +kernel)) rfl dX12_draw_196 (by show va_rf (z.R a0 48) = _; rw [rot]; rfl) ?_
                          refine lv_iload hx hb dX12_draw_199 (lv_at hl 2 rfl) ?_
                          refine h_zald hx hb g tot (by decide) so_1348 (xi_in (by omega) (by omega)) dX12_draw_201 ?_
                          refine lv_topi (fun v67 ev67 => ?_)
                          have jv67 := hI.rd ot v39.toNatClampNeg tot ev67 (rfl : h_bd 1348 _ = (0, 1))
                          have ho := hout v39 (by omega) (by omega)
                          rw [← h_F.at hL188 tot rfl, ← ev67] at ho
                          refine lv_if_eq (tgt := 208) hx hb dX12_draw_202 (by decide) (fun c68 => ?_) (fun c68 => ?_)
                          · have ic68 := (xi_eq c68 rfl (by decide) : v67.toInt = 0)
                            refine lv_aload_n hx hb dX12_draw_208 rfl (lv_at hl 0 rfl) ?_
                            refine h_get (v := .ref dr) hx hb hts iX12 hown g t_a0 (by decide) so_13 rfl 28 (by decide) (hts (.fieldLink RX12 67 "CapLeagueModel" "drawnOf" "[I") (by decide +kernel)) rfl dX12_draw_209 (by show va_rf (z.R a0 28) = _; rw [rdr]; rfl) ?_
                            refine lv_bipush (v := 8) hx hb dX12_draw_212 (by decide) ?_
                            refine lv_aload_n hx hb dX12_draw_214 rfl (lv_at hl 0 rfl) ?_
                            refine h_get (v := .int f0_12) hx hb hts iX12 hown g t_a0 (by decide) so_13 rfl 12 (by decide) (hts (.fieldLink RX12 187 "CapLeagueModel" "clock" "I") (by decide +kernel)) rfl dX12_draw_215 (congrArg Value.int ((h_F.at hL188 t_a0 rfl).trans ((h_n1 eI37 t_a0 tdr (by decide)).trans ((h_n1 eI34 t_a0 tdr (by decide)).trans ((h_n1 eI30 t_a0 tot (by decide)).trans ((h_n1 eI28 t_a0 tot (by decide)).trans ((h_F.at hL2 t_a0 rfl).trans (ef0_12.symm)))))))) ?_
                            refine lv_imul hx hb dX12_draw_218 ?_
                            refine xw_i (v := v31) ev31.symm ?_
                            refine lv_iload_n hx hb dX12_draw_219 rfl (lv_at hl 1 rfl) ?_
                            refine lv_iadd hx hb dX12_draw_220 ?_
                            refine lv_topi (fun v69 ev69 => ?_)
                            have jv69 : v69.toInt = v31.toInt + v38.toInt := xi_add ev69 rfl rfl (by omega) (by omega)
                            refine lv_aload_n hx hb dX12_draw_221 rfl (lv_at hl 0 rfl) ?_
                            refine h_get (v := .ref b32) hx hb hts iX12 hown g t_a0 (by decide) so_13 rfl 32 (by decide) (hts (.fieldLink RX12 73 "CapLeagueModel" "table" "[I") (by decide +kernel)) rfl dX12_draw_222 (by show va_rf (z.R a0 32) = _; rw [rb32]; rfl) ?_
                            refine lv_iload hx hb dX12_draw_225 (lv_at hl 2 rfl) ?_
                            refine h_ald hx hb g tb32 (by decide) so_1332 (xi_in (by omega) (by omega)) dX12_draw_227 ?_
                            refine lv_topi (fun v70 ev70 => ?_)
                            have jv70 := hI.rd b32 v39.toNatClampNeg tb32 ev70 (rfl : h_bd 1332 _ = (0, 7))
                            refine h_ast hx hb g tdr (by decide) so_1328 (xi_in (by omega) (by omega)) dX12_draw_228 (fun I71 H locs eI71 g => ?_)
                            have hI := hI.wr eI71 tdr (rfl : h_bd 1328 _ = ((-1), 7)) (by omega) (by omega)
                            have hF := hF.wr eI71 tdr rfl
                            obtain ⟨v72, ev72⟩ : ∃ z : Int32, z = v38 + 1 := ⟨_, rfl⟩
                            have jv72 : v72.toInt = v38.toInt + 1 := xi_add ev72 rfl (by decide) (by omega) (by omega)
                            refine lv_iinc (v := v72) (lv' := [(3, .int v72), (0, .ref a0), (4, .int v39)]) hx hb dX12_draw_229 hl (k := 1) rfl (by rw [ev72]; rfl) (by decide) rfl (fun ls hl => ?_)
                            obtain ⟨v73, ev73⟩ : ∃ z : Int32, z = v39 + 1 := ⟨_, rfl⟩
                            have jv73 : v73.toInt = v39.toInt + 1 := xi_add ev73 rfl (by decide) (by omega) (by omega)
                            refine lv_iinc (v := v73) (lv' := [(4, .int v73), (3, .int v72), (0, .ref a0)]) hx hb dX12_draw_232 hl (k := 2) rfl (by rw [ev73]; rfl) (by decide) rfl (fun ls hl => ?_)
                            refine lv_goto (tgt := 188) hx hb dX12_draw_235 (by decide) ?_
                            exact ih188 I71 _ _ _ v72 v73 g hI hF (lv_sub hl [2, 1, 0] rfl) (by omega) (by omega) (h_F.wr (h_F.call (h_F.rf : h_F [(1328, 999)] z I37 I37) hL188 rfl) eI71 tdr rfl) (by omega) (fun k hk => by
                                by_cases ek : (k : Int) = v38.toInt
                                · rw [← h_keq (k := 8 * f0_12.toInt.toNat + k) (i := v69) rfl (by omega) (by omega), h_n0 eI71]
                                  omega
                                · rw [h_n2 eI71 (h_kne (i := v69) rfl (by omega) (by omega))]
                                  exact hx188_1 k (by omega)) (by omega)
                          · have ic68 := (xi_ne c68 rfl (by decide) : v67.toInt ≠ 0)
                            refine lv_goto (tgt := 232) hx hb dX12_draw_205 (by decide) ?_
                            obtain ⟨v74, ev74⟩ : ∃ z : Int32, z = v39 + 1 := ⟨_, rfl⟩
                            have jv74 : v74.toInt = v39.toInt + 1 := xi_add ev74 rfl (by decide) (by omega) (by omega)
                            refine lv_iinc (v := v74) (lv' := [(4, .int v74), (0, .ref a0), (3, .int v38)]) hx hb dX12_draw_232 hl (k := 2) rfl (by rw [ev74]; rfl) (by decide) rfl (fun ls hl => ?_)
                            refine lv_goto (tgt := 188) hx hb dX12_draw_235 (by decide) ?_
                            exact ih188 I40 _ _ _ v38 v74 g hI hF (lv_sub hl [1, 2, 0] rfl) (by omega) (by omega) (h_F.call (h_F.rf : h_F [(1328, 999)] z I37 I37) hL188 rfl) (by omega) (hx188_1) (by omega)
                    have kc75 : (2 : Int32).toInt = 2 := by decide
                    have kc76 : (0 : Int32).toInt = 0 := by decide
                    exact loop188_1 _ I37 _ _ _ (2) (0) g hI hF (lv_sub hl [3, 1, 0] rfl) ⟨by decide, by decide⟩ ⟨by decide, by decide⟩ (h_F.rf : h_F [(1328, 999)] z I37 I37) (by omega) (fun k hk => by
                        by_cases ek : (k : Int) = 1
                        · rw [← h_keq (k := 8 * f0_12.toInt.toNat + k) (i := v35) rfl (by omega) (by omega), h_n0 eI37]
                          omega
                        · rw [h_n2 eI37 (h_kne (i := v35) rfl (by omega) (by omega)), ← h_keq (k := 8 * f0_12.toInt.toNat + k) (i := v31) rfl (by omega) (by omega), h_n0 eI34]
                          omega) (show (8 - (0 : Int)) < (((8 - (0 : Int)).toNat + 1 : Nat) : Int) by omega)
                · have ic24 := (xi_ne c24 rfl (by decide) : f0_31.toInt ≠ 0)
                  refine lv_bipush (v := (-4)) hx hb dX12_draw_103 (by decide) ?_
                  have hS := g.2.1
                  exact W.iret (v := (-4)) hx hb hr (fun t ht hW => ⟨⟨(-4), I2, rfl, ⟨hI, hF, (fun u hr hok => by rw [ahw, alw] at hr; have z9 : ((-4) : Int32).toInt = (-4) := (by decide); have dd := h_drB (a := a_t) (b := b_t) (S := rh7.toInt) (V := rh16.toInt) (x := rh15.toInt.toNat) hr hok hq hcy (by rw [← h4p0]; omega) h7p0 (by omega) (fun i hi => h_wo_is (hx2_0 i (by omega))) h15p2 (by omega) (by rw [h16p0]); exact Or.inr (Or.inl ⟨(dd.mpr (by omega)), by rw [qf0_30, qf0_31]; omega, z9, ((h_F.at hL2 t_a0 rfl).trans (ef0_31.symm)).trans ef0_31⟩))⟩, h_ret g ht⟩, hS.F ht⟩) hS.2.2 dX12_draw_105
        · have ic5 := (xi_eq c5 rfl (by decide) : rh4.toInt = 0)
          refine lv_iload_n hx hb dX12_draw_30 rfl (lv_at hl 2 rfl) ?_
          refine lv_if_ne (tgt := 38) hx hb dX12_draw_31 (by decide) (fun c77 => ?_) (fun c77 => ?_)
          · have ic77 := (xi_ne c77 h_a (by decide) : a_t ≠ 0)
            refine lv_bipush (v := (-2)) hx hb dX12_draw_38 (by decide) ?_
            have hS := g.2.1
            exact W.iret (v := (-2)) hx hb hr (fun t ht hW => ⟨⟨(-2), I2, rfl, ⟨hI, hF, (fun u hr hok => by rw [ahw, alw] at hr; have z9 : ((-2) : Int32).toInt = (-2) := (by decide); have dd := h_dr0 (a := a_t) (b := b_t) hr hok hq hcy (by rw [← h4p0]; omega); exact Or.inl ⟨(fun h9 => absurd (dd.mp h9) (by omega)), z9, ((h_F.at hL2 t_a0 rfl).trans (ef0_31.symm)).trans ef0_31⟩)⟩, h_ret g ht⟩, hS.F ht⟩) hS.2.2 dX12_draw_40
          · have ic77 := (xi_eq c77 h_a (by decide) : a_t = 0)
            refine lv_iload_n hx hb dX12_draw_34 rfl (lv_at hl 3 rfl) ?_
            refine lv_if_eq (tgt := 89) hx hb dX12_draw_35 (by decide) (fun c78 => ?_) (fun c78 => ?_)
            · have ic78 := (xi_eq c78 h_b (by decide) : b_t = 0)
              refine lv_aload_n hx hb dX12_draw_89 rfl (lv_at hl 1 rfl) ?_
              refine h_get (v := .int f0_30) hx hb hts iX12 hown g t_a0 (by decide) so_13 rfl 30 (by decide) (hts (.fieldLink RX12 306 "CapLeagueModel" "hasTable" "Z") (by decide +kernel)) rfl dX12_draw_90 (congrArg Value.int ((h_F.at hL2 t_a0 rfl).trans (ef0_30.symm))) ?_
              refine lv_if_eq (tgt := 103) hx hb dX12_draw_93 (by decide) (fun c79 => ?_) (fun c79 => ?_)
              · have ic79 := (xi_eq c79 rfl (by decide) : f0_30.toInt = 0)
                refine lv_bipush (v := (-4)) hx hb dX12_draw_103 (by decide) ?_
                have hS := g.2.1
                exact W.iret (v := (-4)) hx hb hr (fun t ht hW => ⟨⟨(-4), I2, rfl, ⟨hI, hF, (fun u hr hok => by rw [ahw, alw] at hr; have z9 : ((-4) : Int32).toInt = (-4) := (by decide); have dd := h_dr0 (a := a_t) (b := b_t) hr hok hq hcy (by rw [← h4p0]; omega); exact Or.inr (Or.inl ⟨(dd.mpr (by omega)), by rw [qf0_30, qf0_31]; omega, z9, ((h_F.at hL2 t_a0 rfl).trans (ef0_31.symm)).trans ef0_31⟩))⟩, h_ret g ht⟩, hS.F ht⟩) hS.2.2 dX12_draw_105
              · have ic79 := (xi_ne c79 rfl (by decide) : f0_30.toInt ≠ 0)
                refine lv_aload_n hx hb dX12_draw_96 rfl (lv_at hl 1 rfl) ?_
                refine h_get (v := .int f0_31) hx hb hts iX12 hown g t_a0 (by decide) so_13 rfl 31 (by decide) (hts (.fieldLink RX12 264 "CapLeagueModel" "isDrawn" "Z") (by decide +kernel)) rfl dX12_draw_97 (congrArg Value.int ((h_F.at hL2 t_a0 rfl).trans (ef0_31.symm))) ?_
                refine lv_if_eq (tgt := 106) hx hb dX12_draw_100 (by decide) (fun c80 => ?_) (fun c80 => ?_)
                · have ic80 := (xi_eq c80 rfl (by decide) : f0_31.toInt = 0)
                  refine lv_aload_n hx hb dX12_draw_106 rfl (lv_at hl 1 rfl) ?_
                  refine vp_callSi (W.runV (As := []) (rest := []) ⟨hx, hb, hml, hown, hts⟩ (tX12_lotsC l E X A z I2 L0 a0 t_a0 (q) (by rw [ahw, show I2 hw = I0 hw from funext (fun k => hF.at thw rfl), show I2 a0 12 = I0 a0 12 from hF.at t_a0 rfl]; exact hq)) (cwV 0 hts gX12_draw_X12_lots rfl rfl rfl (by decide +kernel) ⟨Nat.le_of_ble_eq_true rfl, Nat.le_of_ble_eq_true rfl⟩) ⟨h_blind _ _ _ _ _ _ _, h_recv g t_a0 (by decide) so_13 (q := (RX12, TX12, 51)) rfl, h_pre _ hE hk hX hA hI hR g⟩ rfl rfl hl.1 rfl (lv_room (Nat.le_of_ble_eq_true rfl)) dX12_draw_107 ⟨Nat.le_of_ble_eq_true rfl, Nat.le_of_ble_eq_true rfl⟩) (fun rh81 h81 => ?_)
                  obtain ⟨h81, h81p0⟩ := h81
                  rw [alw, show I2 lw = I0 lw from funext (fun k => hF.at tlw rfl)] at h81p0
                  refine lv_if_le (tgt := 185) hx hb dX12_draw_110 (by decide) (fun c82 => ?_) (fun c82 => ?_)
                  · have ic82 := (xi_le c82 rfl (by decide) : rh81.toInt ≤ 0)
                    have hout : ∀ i : Int32, 0 ≤ i.toInt → i.toInt < 8 → (I2 ot i.toNatClampNeg).toInt = 0 := fun i h1 h2 => by rw [hx2_0 i.toNatClampNeg (by have := h_cl (i := i) rfl h1; omega)]; decide
                    refine lv_iconst (v := 0) hx hb dX12_draw_185 (by decide) ?_
                    refine lv_istore (lv' := [(4, .int 0), (3, .int 0), (0, .ref a0), (1, .int a), (2, .int b)]) hx hb dX12_draw_186 hl (by decide) rfl (fun ls hl => ?_)
                    have loop188_3 : ∀ (n : Nat) (I85 : tI) (H : Heap) (locs : List Loc) (ls : Array Slot) (v83 v84 : Int32), h_G h_so h_fk E A z I85 L0 s s.heap H locs → h_I z I85 → h_F [(1348, 999), (1328, 999), (1325, 999), (1327, 999), (1329, 999), (13, 31), (13, 33)] z I0 I85 → lv_has ls 6 [(0, .ref a0), (3, .int v83), (4, .int v84)] → (0 ≤ v83.toInt ∧ v83.toInt ≤ 8) → (0 ≤ v84.toInt ∧ v84.toInt ≤ 8) → h_F [(1328, 999)] z I2 I85 → (v83.toInt = v84.toInt) → (∀ k : Nat, (k : Int) < v83.toInt → 0 ≤ (I85 dr (8 * f0_12.toInt.toNat + k)).toInt) → (8 - v84.toInt) < (n : Int) → W pr_ l ev_ (headSpec wsX12_draw ({ frames := 5, cells := 0, slots := 0, locals := 320 })).room s m ([.ref a0, .int a, .int b] : List Value).toArray below meth cd_ H locs 0 0 (MQ below (va_Qi (fun r (I1 : tI) => h_I z I1 ∧ h_F [(1348, 999), (1328, 999), (1325, 999), (1327, 999), (1329, 999), (13, 31), (13, 33)] z I0 I1 ∧ (∀ u : Nat → Int, h_r12 (I0 (h_ad z a0 11)) (I0 (h_ad z a0 10)) (I0 a0 12).toInt u → q_ok u → (¬ q_draws u a_t b_t ∧ r.toInt = -2 ∧ I1 a0 31 = I0 a0 31) ∨ (q_draws u a_t b_t ∧ ((I0 a0 30).toInt = 0 ∨ (I0 a0 31).toInt = 1) ∧ r.toInt = -4 ∧ I1 a0 31 = I0 a0 31) ∨ (q_draws u a_t b_t ∧ (I0 a0 30).toInt = 1 ∧ (I0 a0 31).toInt = 0 ∧ r.toInt = 1 ∧ I1 a0 31 = 1))) (fun (I1 : tI) t => h_B E A z I1 L0 t) A) ([.ref a0, .int a, .int b] : List Value).toArray s 0 0 A) (F0 m 188 ls []) := by
                      intro n
                      induction n with
                      | zero => intro I85 H locs ls v83 v84 g hI hF hl jv83 jv84 hL188 hx188_0 hx188_1 hn; exact absurd hn (by omega)
                      | succ n ih188 =>
                        intro I85 H locs ls v83 v84 g hI hF hl jv83 jv84 hL188 hx188_0 hx188_1 hn
                        refine lv_iload hx hb dX12_draw_188 (lv_at hl 2 rfl) ?_
                        refine lv_bipush (v := 8) hx hb dX12_draw_190 (by decide) ?_
                        refine lv_icmp_ge (tgt := 238) hx hb dX12_draw_192 (by decide) (fun c86 => ?_) (fun c86 => ?_)
                        · have ic86 := (xi_le c86 (by decide) rfl : 8 ≤ v84.toInt)
                          refine lv_iconst (v := 0) hx hb dX12_draw_238 (by decide) ?_
                          refine lv_istore (lv' := [(4, .int 0), (0, .ref a0), (3, .int v83)]) hx hb dX12_draw_239 hl (by decide) rfl (fun ls hl => ?_)
                          have loop241_4 : ∀ (n : Nat) (I88 : tI) (H : Heap) (locs : List Loc) (ls : Array Slot) (v87 : Int32), h_G h_so h_fk E A z I88 L0 s s.heap H locs → h_I z I88 → h_F [(1348, 999), (1328, 999), (1325, 999), (1327, 999), (1329, 999), (13, 31), (13, 33)] z I0 I88 → lv_has ls 6 [(0, .ref a0), (4, .int v87)] → (0 ≤ v87.toInt ∧ v87.toInt ≤ 8) → h_F [(1325, 999), (1327, 999), (1329, 999)] z I85 I88 → (8 - v87.toInt) < (n : Int) → W pr_ l ev_ (headSpec wsX12_draw ({ frames := 5, cells := 0, slots := 0, locals := 320 })).room s m ([.ref a0, .int a, .int b] : List Value).toArray below meth cd_ H locs 0 0 (MQ below (va_Qi (fun r (I1 : tI) => h_I z I1 ∧ h_F [(1348, 999), (1328, 999), (1325, 999), (1327, 999), (1329, 999), (13, 31), (13, 33)] z I0 I1 ∧ (∀ u : Nat → Int, h_r12 (I0 (h_ad z a0 11)) (I0 (h_ad z a0 10)) (I0 a0 12).toInt u → q_ok u → (¬ q_draws u a_t b_t ∧ r.toInt = -2 ∧ I1 a0 31 = I0 a0 31) ∨ (q_draws u a_t b_t ∧ ((I0 a0 30).toInt = 0 ∨ (I0 a0 31).toInt = 1) ∧ r.toInt = -4 ∧ I1 a0 31 = I0 a0 31) ∨ (q_draws u a_t b_t ∧ (I0 a0 30).toInt = 1 ∧ (I0 a0 31).toInt = 0 ∧ r.toInt = 1 ∧ I1 a0 31 = 1))) (fun (I1 : tI) t => h_B E A z I1 L0 t) A) ([.ref a0, .int a, .int b] : List Value).toArray s 0 0 A) (F0 m 241 ls []) := by
                            intro n
                            induction n with
                            | zero => intro I88 H locs ls v87 g hI hF hl jv87 hL241 hn; exact absurd hn (by omega)
                            | succ n ih241 =>
                              intro I88 H locs ls v87 g hI hF hl jv87 hL241 hn
                              refine lv_iload hx hb dX12_draw_241 (lv_at hl 1 rfl) ?_
                              refine lv_bipush (v := 8) hx hb dX12_draw_243 (by decide) ?_
                              refine lv_icmp_ge (tgt := 335) hx hb dX12_draw_245 (by decide) (fun c89 => ?_) (fun c89 => ?_)
                              · have ic89 := (xi_le c89 (by decide) rfl : 8 ≤ v87.toInt)
                                refine lv_aload_n hx hb dX12_draw_335 rfl (lv_at hl 0 rfl) ?_
                                refine lv_iconst (v := 1) hx hb dX12_draw_336 (by decide) ?_
                                refine h_putI (ty := .boolean) (v := 1) hx hb hts iX12 tyX12 tyX12_ok nmX12 hown g t_a0 (by decide) so_13 rfl 31 (by decide) rfl (hts (.fieldLink RX12 264 "CapLeagueModel" "isDrawn" "Z") (by decide +kernel)) rfl rfl (by decide +kernel) (by decide) (by decide) dX12_draw_337 (fun I90 H locs eI90 g => ?_)
                                have hI := hI.wr eI90 t_a0 (rfl : h_bd 13 31 = (0, 1)) (by decide) (by decide)
                                have hF := hF.wr eI90 t_a0 rfl
                                refine lv_aload_n hx hb dX12_draw_340 rfl (lv_at hl 0 rfl) ?_
                                refine lv_iconst (v := 0) hx hb dX12_draw_341 (by decide) ?_
                                refine h_putI (ty := .int) (v := 0) hx hb hts iX12 tyX12 tyX12_ok nmX12 hown g t_a0 (by decide) so_13 rfl 33 (by decide) rfl (hts (.fieldLink RX12 247 "CapLeagueModel" "moves" "I") (by decide +kernel)) rfl rfl (by decide +kernel) rfl rfl dX12_draw_342 (fun I91 H locs eI91 g => ?_)
                                have hI := hI.wr eI91 t_a0 (rfl : h_bd 13 33 = (0, 12)) (by decide) (by decide)
                                have hF := hF.wr eI91 t_a0 rfl
                                refine lv_iconst (v := 1) hx hb dX12_draw_345 (by decide) ?_
                                have hS := g.2.1
                                exact W.iret (v := 1) hx hb hr (fun t ht hW => ⟨⟨1, I91, rfl, ⟨hI, hF, (fun u hr hok => by rw [ahw, alw] at hr; have z9 : (1 : Int32).toInt = 1 := (by decide); have dd := h_dr0 (a := a_t) (b := b_t) hr hok hq hcy (by rw [← h4p0]; omega); exact Or.inr (Or.inr ⟨(dd.mpr (by omega)), by rw [qf0_30]; omega, by rw [qf0_31]; omega, z9, (h_n2 eI91 (by decide)).trans (h_n0 eI90)⟩))⟩, h_ret g ht⟩, hS.F ht⟩) hS.2.2 dX12_draw_346
                              · have ic89 := (xi_nle c89 (by decide) rfl : v87.toInt < 8)
                                refine lv_bipush (v := 10) hx hb dX12_draw_248 (by decide) ?_
                                refine lv_aload_n hx hb dX12_draw_250 rfl (lv_at hl 0 rfl) ?_
                                refine h_get (v := .ref dr) hx hb hts iX12 hown g t_a0 (by decide) so_13 rfl 28 (by decide) (hts (.fieldLink RX12 67 "CapLeagueModel" "drawnOf" "[I") (by decide +kernel)) rfl dX12_draw_251 (by show va_rf (z.R a0 28) = _; rw [rdr]; rfl) ?_
                                refine lv_bipush (v := 8) hx hb dX12_draw_254 (by decide) ?_
                                refine lv_aload_n hx hb dX12_draw_256 rfl (lv_at hl 0 rfl) ?_
                                refine h_get (v := .int f0_12) hx hb hts iX12 hown g t_a0 (by decide) so_13 rfl 12 (by decide) (hts (.fieldLink RX12 187 "CapLeagueModel" "clock" "I") (by decide +kernel)) rfl dX12_draw_257 (congrArg Value.int ((h_F.at hL241 t_a0 rfl).trans ((h_F.at hL188 t_a0 rfl).trans ((h_F.at hL2 t_a0 rfl).trans (ef0_12.symm))))) ?_
                                refine lv_imul hx hb dX12_draw_260 ?_
                                refine lv_topi (fun v92 ev92 => ?_)
                                have jv92 : v92.toInt = 8 * f0_12.toInt := xi_mul ev92 (by decide) rfl (by omega) (by omega)
                                refine lv_iload hx hb dX12_draw_261 (lv_at hl 1 rfl) ?_
                                refine lv_iadd hx hb dX12_draw_263 ?_
                                refine lv_topi (fun v93 ev93 => ?_)
                                have jv93 : v93.toInt = v92.toInt + v87.toInt := xi_add ev93 rfl rfl (by omega) (by omega)
                                refine h_ald hx hb g tdr (by decide) so_1328 (xi_in (by omega) (by omega)) dX12_draw_264 ?_
                                refine lv_topi (fun v94 ev94 => ?_)
                                have jv94 := hI.rd dr v93.toNatClampNeg tdr ev94 (rfl : h_bd 1328 _ = ((-1), 7))
                                have mv94 : 0 ≤ v94.toInt := by rw [ev94, h_F.at hL241 tdr rfl, h_keq (k := 8 * f0_12.toInt.toNat + v87.toInt.toNat) (i := v93) rfl (by omega) (by omega)]; exact hx188_1 _ (by omega)
                                refine lv_imul hx hb dX12_draw_265 ?_
                                refine lv_topi (fun v95 ev95 => ?_)
                                have jv95 : v95.toInt = 10 * v94.toInt := xi_mul ev95 (by decide) rfl (by omega) (by omega)
                                refine lv_aload_n hx hb dX12_draw_266 rfl (lv_at hl 0 rfl) ?_
                                refine h_get (v := .int f0_12) hx hb hts iX12 hown g t_a0 (by decide) so_13 rfl 12 (by decide) (hts (.fieldLink RX12 187 "CapLeagueModel" "clock" "I") (by decide +kernel)) rfl dX12_draw_267 (congrArg Value.int ((h_F.at hL241 t_a0 rfl).trans ((h_F.at hL188 t_a0 rfl).trans ((h_F.at hL2 t_a0 rfl).trans (ef0_12.symm))))) ?_
                                refine lv_iadd hx hb dX12_draw_270 ?_
                                refine lv_topi (fun v96 ev96 => ?_)
                                have jv96 : v96.toInt = v95.toInt + f0_12.toInt := xi_add ev96 rfl rfl (by omega) (by omega)
                                refine lv_istore (lv' := [(5, .int v96), (0, .ref a0), (4, .int v87)]) hx hb dX12_draw_271 hl (by decide) rfl (fun ls hl => ?_)
                                refine lv_iload hx hb dX12_draw_273 (lv_at hl 2 rfl) ?_
                                refine lv_aload_n hx hb dX12_draw_275 rfl (lv_at hl 1 rfl) ?_
                                obtain ⟨b97, rb97, tb97⟩ := hR.at a0 27 t_a0 (rfl : h_rs 13 27 = some (1327, false)) (by decide)
                                refine h_get (v := .ref b97) hx hb hts iX12 hown g t_a0 (by decide) so_13 rfl 27 (by decide) (hts (.fieldLink RX12 64 "CapLeagueModel" "guarded" "[I") (by decide +kernel)) rfl dX12_draw_276 (by show va_rf (z.R a0 27) = _; rw [rb97]; rfl) ?_
                                refine lv_iload hx hb dX12_draw_279 (lv_at hl 0 rfl) ?_
                                refine h_ald hx hb g tb97 (by decide) so_1327 (xi_in (by omega) (by omega)) dX12_draw_281 ?_
                                refine lv_topi (fun v98 ev98 => ?_)
                                have jv98 := hI.rd b97 v96.toNatClampNeg tb97 ev98 (rfl : h_bd 1327 _ = ((-2147483648), 2147483647))
                                refine lv_icmp_ge (tgt := 307) hx hb dX12_draw_282 (by decide) (fun c99 => ?_) (fun c99 => ?_)
                                · have ic99 := (xi_le c99 rfl rfl : v98.toInt ≤ v87.toInt)
                                  refine lv_aload_n hx hb dX12_draw_307 rfl (lv_at hl 1 rfl) ?_
                                  obtain ⟨b100, rb100, tb100⟩ := hR.at a0 29 t_a0 (rfl : h_rs 13 29 = some (1329, false)) (by decide)
                                  refine h_get (v := .ref b100) hx hb hts iX12 hown g t_a0 (by decide) so_13 rfl 29 (by decide) (hts (.fieldLink RX12 70 "CapLeagueModel" "drawnTo" "[I") (by decide +kernel)) rfl dX12_draw_308 (by show va_rf (z.R a0 29) = _; rw [rb100]; rfl) ?_
                                  refine lv_bipush (v := 8) hx hb dX12_draw_311 (by decide) ?_
                                  refine lv_aload_n hx hb dX12_draw_313 rfl (lv_at hl 1 rfl) ?_
                                  refine h_get (v := .int f0_12) hx hb hts iX12 hown g t_a0 (by decide) so_13 rfl 12 (by decide) (hts (.fieldLink RX12 187 "CapLeagueModel" "clock" "I") (by decide +kernel)) rfl dX12_draw_314 (congrArg Value.int ((h_F.at hL241 t_a0 rfl).trans ((h_F.at hL188 t_a0 rfl).trans ((h_F.at hL2 t_a0 rfl).trans (ef0_12.symm))))) ?_
                                  refine lv_imul hx hb dX12_draw_317 ?_
                                  refine xw_i (v := v92) ev92.symm ?_
                                  refine lv_iload hx hb dX12_draw_318 (lv_at hl 2 rfl) ?_
                                  refine lv_iadd hx hb dX12_draw_320 ?_
                                  refine xw_i (v := v93) ev93.symm ?_
                                  refine lv_aload_n hx hb dX12_draw_321 rfl (lv_at hl 1 rfl) ?_
                                  obtain ⟨b101, rb101, tb101⟩ := hR.at a0 25 t_a0 (rfl : h_rs 13 25 = some (1325, false)) (by decide)
                                  refine h_get (v := .ref b101) hx hb hts iX12 hown g t_a0 (by decide) so_13 rfl 25 (by decide) (hts (.fieldLink RX12 58 "CapLeagueModel" "owner" "[I") (by decide +kernel)) rfl dX12_draw_322 (by show va_rf (z.R a0 25) = _; rw [rb101]; rfl) ?_
                                  refine lv_iload hx hb dX12_draw_325 (lv_at hl 0 rfl) ?_
                                  refine h_ald hx hb g tb101 (by decide) so_1325 (xi_in (by omega) (by omega)) dX12_draw_327 ?_
                                  refine lv_topi (fun v102 ev102 => ?_)
                                  have jv102 := hI.rd b101 v96.toNatClampNeg tb101 ev102 (rfl : h_bd 1325 _ = ((-2147483648), 2147483647))
                                  refine h_ast hx hb g tb100 (by decide) so_1329 (xi_in (by omega) (by omega)) dX12_draw_328 (fun I103 H locs eI103 g => ?_)
                                  have hI := hI.wr eI103 tb100 (rfl : h_bd 1329 _ = ((-2147483648), 2147483647)) (xi_lo _) (Int.le_of_lt_add_one (xi_hi _))
                                  have hF := hF.wr eI103 tb100 rfl
                                  obtain ⟨v104, ev104⟩ : ∃ z : Int32, z = v87 + 1 := ⟨_, rfl⟩
                                  have jv104 : v104.toInt = v87.toInt + 1 := xi_add ev104 rfl (by decide) (by omega) (by omega)
                                  refine lv_iinc (v := v104) (lv' := [(4, .int v104), (5, .int v96), (0, .ref a0)]) hx hb dX12_draw_329 hl (k := 2) rfl (by rw [ev104]; rfl) (by decide) rfl (fun ls hl => ?_)
                                  refine lv_goto (tgt := 241) hx hb dX12_draw_332 (by decide) ?_
                                  exact ih241 I103 _ _ _ v104 g hI hF (lv_sub hl [2, 0] rfl) (by omega) (h_F.wr (h_F.call (h_F.rf : h_F [(1325, 999), (1327, 999), (1329, 999)] z I85 I85) hL241 rfl) eI103 tb100 rfl) (by omega)
                                · have ic99 := (xi_nle c99 rfl rfl : v87.toInt < v98.toInt)
                                  refine lv_aload_n hx hb dX12_draw_285 rfl (lv_at hl 1 rfl) ?_
                                  obtain ⟨b105, rb105, tb105⟩ := hR.at a0 25 t_a0 (rfl : h_rs 13 25 = some (1325, false)) (by decide)
                                  refine h_get (v := .ref b105) hx hb hts iX12 hown g t_a0 (by decide) so_13 rfl 25 (by decide) (hts (.fieldLink RX12 58 "CapLeagueModel" "owner" "[I") (by decide +kernel)) rfl dX12_draw_286 (by show va_rf (z.R a0 25) = _; rw [rb105]; rfl) ?_
                                  refine lv_iload hx hb dX12_draw_289 (lv_at hl 0 rfl) ?_
                                  refine lv_aload_n hx hb dX12_draw_291 rfl (lv_at hl 1 rfl) ?_
                                  obtain ⟨b106, rb106, tb106⟩ := hR.at a0 26 t_a0 (rfl : h_rs 13 26 = some (1326, false)) (by decide)
                                  refine h_get (v := .ref b106) hx hb hts iX12 hown g t_a0 (by decide) so_13 rfl 26 (by decide) (hts (.fieldLink RX12 61 "CapLeagueModel" "giver" "[I") (by decide +kernel)) rfl dX12_draw_292 (by show va_rf (z.R a0 26) = _; rw [rb106]; rfl) ?_
                                  refine lv_iload hx hb dX12_draw_295 (lv_at hl 0 rfl) ?_
                                  refine h_ald hx hb g tb106 (by decide) so_1326 (xi_in (by omega) (by omega)) dX12_draw_297 ?_
                                  refine lv_topi (fun v107 ev107 => ?_)
                                  have jv107 := hI.rd b106 v96.toNatClampNeg tb106 ev107 (rfl : h_bd 1326 _ = ((-2147483648), 2147483647))
                                  refine h_ast hx hb g tb105 (by decide) so_1325 (xi_in (by omega) (by omega)) dX12_draw_298 (fun I108 H locs eI108 g => ?_)
                                  have hI := hI.wr eI108 tb105 (rfl : h_bd 1325 _ = ((-2147483648), 2147483647)) (xi_lo _) (Int.le_of_lt_add_one (xi_hi _))
                                  have hF := hF.wr eI108 tb105 rfl
                                  refine lv_aload_n hx hb dX12_draw_299 rfl (lv_at hl 1 rfl) ?_
                                  refine h_get (v := .ref b97) hx hb hts iX12 hown g t_a0 (by decide) so_13 rfl 27 (by decide) (hts (.fieldLink RX12 64 "CapLeagueModel" "guarded" "[I") (by decide +kernel)) rfl dX12_draw_300 (by show va_rf (z.R a0 27) = _; rw [rb97]; rfl) ?_
                                  refine lv_iload hx hb dX12_draw_303 (lv_at hl 0 rfl) ?_
                                  refine lv_iconst (v := 0) hx hb dX12_draw_305 (by decide) ?_
                                  refine h_ast hx hb g tb97 (by decide) so_1327 (xi_in (by omega) (by omega)) dX12_draw_306 (fun I109 H locs eI109 g => ?_)
                                  have hI := hI.wr eI109 tb97 (rfl : h_bd 1327 _ = ((-2147483648), 2147483647)) (by decide) (by decide)
                                  have hF := hF.wr eI109 tb97 rfl
                                  refine lv_aload_n hx hb dX12_draw_307 rfl (lv_at hl 1 rfl) ?_
                                  obtain ⟨b110, rb110, tb110⟩ := hR.at a0 29 t_a0 (rfl : h_rs 13 29 = some (1329, false)) (by decide)
                                  refine h_get (v := .ref b110) hx hb hts iX12 hown g t_a0 (by decide) so_13 rfl 29 (by decide) (hts (.fieldLink RX12 70 "CapLeagueModel" "drawnTo" "[I") (by decide +kernel)) rfl dX12_draw_308 (by show va_rf (z.R a0 29) = _; rw [rb110]; rfl) ?_
                                  refine lv_bipush (v := 8) hx hb dX12_draw_311 (by decide) ?_
                                  refine lv_aload_n hx hb dX12_draw_313 rfl (lv_at hl 1 rfl) ?_
                                  refine h_get (v := .int f0_12) hx hb hts iX12 hown g t_a0 (by decide) so_13 rfl 12 (by decide) (hts (.fieldLink RX12 187 "CapLeagueModel" "clock" "I") (by decide +kernel)) rfl dX12_draw_314 (congrArg Value.int ((h_n1 eI109 t_a0 tb97 (by decide)).trans ((h_n1 eI108 t_a0 tb105 (by decide)).trans ((h_F.at hL241 t_a0 rfl).trans ((h_F.at hL188 t_a0 rfl).trans ((h_F.at hL2 t_a0 rfl).trans (ef0_12.symm))))))) ?_
                                  refine lv_imul hx hb dX12_draw_317 ?_
                                  refine xw_i (v := v92) ev92.symm ?_
                                  refine lv_iload hx hb dX12_draw_318 (lv_at hl 2 rfl) ?_
                                  refine lv_iadd hx hb dX12_draw_320 ?_
                                  refine xw_i (v := v93) ev93.symm ?_
                                  refine lv_aload_n hx hb dX12_draw_321 rfl (lv_at hl 1 rfl) ?_
                                  refine h_get (v := .ref b105) hx hb hts iX12 hown g t_a0 (by decide) so_13 rfl 25 (by decide) (hts (.fieldLink RX12 58 "CapLeagueModel" "owner" "[I") (by decide +kernel)) rfl dX12_draw_322 (by show va_rf (z.R a0 25) = _; rw [rb105]; rfl) ?_
                                  refine lv_iload hx hb dX12_draw_325 (lv_at hl 0 rfl) ?_
                                  refine h_ald hx hb g tb105 (by decide) so_1325 (xi_in (by omega) (by omega)) dX12_draw_327 ?_
                                  refine xw_i ((h_n1 eI109 tb105 tb97 (by decide)).trans (h_n0 eI108)) ?_
                                  refine h_ast hx hb g tb110 (by decide) so_1329 (xi_in (by omega) (by omega)) dX12_draw_328 (fun I111 H locs eI111 g => ?_)
                                  have hI := hI.wr eI111 tb110 (rfl : h_bd 1329 _ = ((-2147483648), 2147483647)) (xi_lo _) (Int.le_of_lt_add_one (xi_hi _))
                                  have hF := hF.wr eI111 tb110 rfl
                                  obtain ⟨v112, ev112⟩ : ∃ z : Int32, z = v87 + 1 := ⟨_, rfl⟩
                                  have jv112 : v112.toInt = v87.toInt + 1 := xi_add ev112 rfl (by decide) (by omega) (by omega)
                                  refine lv_iinc (v := v112) (lv' := [(4, .int v112), (5, .int v96), (0, .ref a0)]) hx hb dX12_draw_329 hl (k := 2) rfl (by rw [ev112]; rfl) (by decide) rfl (fun ls hl => ?_)
                                  refine lv_goto (tgt := 241) hx hb dX12_draw_332 (by decide) ?_
                                  exact ih241 I111 _ _ _ v112 g hI hF (lv_sub hl [2, 0] rfl) (by omega) (h_F.wr (h_F.wr (h_F.wr (h_F.call (h_F.rf : h_F [(1325, 999), (1327, 999), (1329, 999)] z I85 I85) hL241 rfl) eI108 tb105 rfl) eI109 tb97 rfl) eI111 tb110 rfl) (by omega)
                          exact loop241_4 _ I85 _ _ _ (0) g hI hF (lv_sub hl [1, 0] rfl) ⟨by decide, by decide⟩ (h_F.rf : h_F [(1325, 999), (1327, 999), (1329, 999)] z I85 I85) (show (8 - (0 : Int)) < (((8 - (0 : Int)).toNat + 1 : Nat) : Int) by omega)
                        · have ic86 := (xi_nle c86 (by decide) rfl : v84.toInt < 8)
                          refine lv_aload_n hx hb dX12_draw_195 rfl (lv_at hl 0 rfl) ?_
                          refine h_get (v := .ref ot) hx hb hts iX12 hown g t_a0 (by decide) so_13 rfl 48 (by decide) (hts (.fieldLink RX12 109 "CapLeagueModel" "isOut" "[Z") (by decide +kernel)) rfl dX12_draw_196 (by show va_rf (z.R a0 48) = _; rw [rot]; rfl) ?_
                          refine lv_iload hx hb dX12_draw_199 (lv_at hl 2 rfl) ?_
                          refine h_zald hx hb g tot (by decide) so_1348 (xi_in (by omega) (by omega)) dX12_draw_201 ?_
                          refine lv_topi (fun v113 ev113 => ?_)
                          have jv113 := hI.rd ot v84.toNatClampNeg tot ev113 (rfl : h_bd 1348 _ = (0, 1))
                          have ho := hout v84 (by omega) (by omega)
                          rw [← h_F.at hL188 tot rfl, ← ev113] at ho
                          refine lv_if_eq (tgt := 208) hx hb dX12_draw_202 (by decide) (fun c114 => ?_) (fun c114 => ?_)
                          · have ic114 := (xi_eq c114 rfl (by decide) : v113.toInt = 0)
                            refine lv_aload_n hx hb dX12_draw_208 rfl (lv_at hl 0 rfl) ?_
                            refine h_get (v := .ref dr) hx hb hts iX12 hown g t_a0 (by decide) so_13 rfl 28 (by decide) (hts (.fieldLink RX12 67 "CapLeagueModel" "drawnOf" "[I") (by decide +kernel)) rfl dX12_draw_209 (by show va_rf (z.R a0 28) = _; rw [rdr]; rfl) ?_
                            refine lv_bipush (v := 8) hx hb dX12_draw_212 (by decide) ?_
                            refine lv_aload_n hx hb dX12_draw_214 rfl (lv_at hl 0 rfl) ?_
                            refine h_get (v := .int f0_12) hx hb hts iX12 hown g t_a0 (by decide) so_13 rfl 12 (by decide) (hts (.fieldLink RX12 187 "CapLeagueModel" "clock" "I") (by decide +kernel)) rfl dX12_draw_215 (congrArg Value.int ((h_F.at hL188 t_a0 rfl).trans ((h_F.at hL2 t_a0 rfl).trans (ef0_12.symm)))) ?_
                            refine lv_imul hx hb dX12_draw_218 ?_
                            refine lv_topi (fun v115 ev115 => ?_)
                            have jv115 : v115.toInt = 8 * f0_12.toInt := xi_mul ev115 (by decide) rfl (by omega) (by omega)
                            refine lv_iload_n hx hb dX12_draw_219 rfl (lv_at hl 1 rfl) ?_
                            refine lv_iadd hx hb dX12_draw_220 ?_
                            refine lv_topi (fun v116 ev116 => ?_)
                            have jv116 : v116.toInt = v115.toInt + v83.toInt := xi_add ev116 rfl rfl (by omega) (by omega)
                            refine lv_aload_n hx hb dX12_draw_221 rfl (lv_at hl 0 rfl) ?_
                            obtain ⟨b117, rb117, tb117⟩ := hR.at a0 32 t_a0 (rfl : h_rs 13 32 = some (1332, false)) (by decide)
                            refine h_get (v := .ref b117) hx hb hts iX12 hown g t_a0 (by decide) so_13 rfl 32 (by decide) (hts (.fieldLink RX12 73 "CapLeagueModel" "table" "[I") (by decide +kernel)) rfl dX12_draw_222 (by show va_rf (z.R a0 32) = _; rw [rb117]; rfl) ?_
                            refine lv_iload hx hb dX12_draw_225 (lv_at hl 2 rfl) ?_
                            refine h_ald hx hb g tb117 (by decide) so_1332 (xi_in (by omega) (by omega)) dX12_draw_227 ?_
                            refine lv_topi (fun v118 ev118 => ?_)
                            have jv118 := hI.rd b117 v84.toNatClampNeg tb117 ev118 (rfl : h_bd 1332 _ = (0, 7))
                            refine h_ast hx hb g tdr (by decide) so_1328 (xi_in (by omega) (by omega)) dX12_draw_228 (fun I119 H locs eI119 g => ?_)
                            have hI := hI.wr eI119 tdr (rfl : h_bd 1328 _ = ((-1), 7)) (by omega) (by omega)
                            have hF := hF.wr eI119 tdr rfl
                            obtain ⟨v120, ev120⟩ : ∃ z : Int32, z = v83 + 1 := ⟨_, rfl⟩
                            have jv120 : v120.toInt = v83.toInt + 1 := xi_add ev120 rfl (by decide) (by omega) (by omega)
                            refine lv_iinc (v := v120) (lv' := [(3, .int v120), (0, .ref a0), (4, .int v84)]) hx hb dX12_draw_229 hl (k := 1) rfl (by rw [ev120]; rfl) (by decide) rfl (fun ls hl => ?_)
                            obtain ⟨v121, ev121⟩ : ∃ z : Int32, z = v84 + 1 := ⟨_, rfl⟩
                            have jv121 : v121.toInt = v84.toInt + 1 := xi_add ev121 rfl (by decide) (by omega) (by omega)
                            refine lv_iinc (v := v121) (lv' := [(4, .int v121), (3, .int v120), (0, .ref a0)]) hx hb dX12_draw_232 hl (k := 2) rfl (by rw [ev121]; rfl) (by decide) rfl (fun ls hl => ?_)
                            refine lv_goto (tgt := 188) hx hb dX12_draw_235 (by decide) ?_
                            exact ih188 I119 _ _ _ v120 v121 g hI hF (lv_sub hl [2, 1, 0] rfl) (by omega) (by omega) (h_F.wr (h_F.call (h_F.rf : h_F [(1328, 999)] z I2 I2) hL188 rfl) eI119 tdr rfl) (by omega) (fun k hk => by
                                by_cases ek : (k : Int) = v83.toInt
                                · rw [← h_keq (k := 8 * f0_12.toInt.toNat + k) (i := v116) rfl (by omega) (by omega), h_n0 eI119]
                                  omega
                                · rw [h_n2 eI119 (h_kne (i := v116) rfl (by omega) (by omega))]
                                  exact hx188_1 k (by omega)) (by omega)
                          · have ic114 := (xi_ne c114 rfl (by decide) : v113.toInt ≠ 0)
                            refine lv_goto (tgt := 232) hx hb dX12_draw_205 (by decide) ?_
                            obtain ⟨v122, ev122⟩ : ∃ z : Int32, z = v84 + 1 := ⟨_, rfl⟩
                            have jv122 : v122.toInt = v84.toInt + 1 := xi_add ev122 rfl (by decide) (by omega) (by omega)
                            refine lv_iinc (v := v122) (lv' := [(4, .int v122), (0, .ref a0), (3, .int v83)]) hx hb dX12_draw_232 hl (k := 2) rfl (by rw [ev122]; rfl) (by decide) rfl (fun ls hl => ?_)
                            refine lv_goto (tgt := 188) hx hb dX12_draw_235 (by decide) ?_
                            exact ih188 I85 _ _ _ v83 v122 g hI hF (lv_sub hl [1, 2, 0] rfl) (by omega) (by omega) (h_F.call (h_F.rf : h_F [(1328, 999)] z I2 I2) hL188 rfl) (by omega) (hx188_1) (by omega)
                    have kc123 : (0 : Int32).toInt = 0 := by decide
                    have kc124 : (0 : Int32).toInt = 0 := by decide
                    exact loop188_3 _ I2 _ _ _ (0) (0) g hI hF (lv_sub hl [2, 1, 0] rfl) ⟨by decide, by decide⟩ ⟨by decide, by decide⟩ (h_F.rf : h_F [(1328, 999)] z I2 I2) (by omega) (fun k hk => absurd hk (by omega)) (show (8 - (0 : Int)) < (((8 - (0 : Int)).toNat + 1 : Nat) : Int) by omega)
                  · have ic82 := (xi_nle c82 rfl (by decide) : 0 < rh81.toInt)
                    exfalso
                    omega
                · have ic80 := (xi_ne c80 rfl (by decide) : f0_31.toInt ≠ 0)
                  refine lv_bipush (v := (-4)) hx hb dX12_draw_103 (by decide) ?_
                  have hS := g.2.1
                  exact W.iret (v := (-4)) hx hb hr (fun t ht hW => ⟨⟨(-4), I2, rfl, ⟨hI, hF, (fun u hr hok => by rw [ahw, alw] at hr; have z9 : ((-4) : Int32).toInt = (-4) := (by decide); have dd := h_dr0 (a := a_t) (b := b_t) hr hok hq hcy (by rw [← h4p0]; omega); exact Or.inr (Or.inl ⟨(dd.mpr (by omega)), by rw [qf0_30, qf0_31]; omega, z9, ((h_F.at hL2 t_a0 rfl).trans (ef0_31.symm)).trans ef0_31⟩))⟩, h_ret g ht⟩, hS.F ht⟩) hS.2.2 dX12_draw_105
            · have ic78 := (xi_ne c78 h_b (by decide) : b_t ≠ 0)
              refine lv_bipush (v := (-2)) hx hb dX12_draw_38 (by decide) ?_
              have hS := g.2.1
              exact W.iret (v := (-2)) hx hb hr (fun t ht hW => ⟨⟨(-2), I2, rfl, ⟨hI, hF, (fun u hr hok => by rw [ahw, alw] at hr; have z9 : ((-2) : Int32).toInt = (-2) := (by decide); have dd := h_dr0 (a := a_t) (b := b_t) hr hok hq hcy (by rw [← h4p0]; omega); exact Or.inl ⟨(fun h9 => absurd (dd.mp h9) (by omega)), z9, ((h_F.at hL2 t_a0 rfl).trans (ef0_31.symm)).trans ef0_31⟩)⟩, h_ret g ht⟩, hS.F ht⟩) hS.2.2 dX12_draw_40
      · have ic3 := (xi_nle c3 (by decide) rfl : v1.toInt < 8)
        refine lv_aload_n hx hb dX12_draw_8 rfl (lv_at hl 0 rfl) ?_
        refine h_get (v := .ref ot) hx hb hts iX12 hown g t_a0 (by decide) so_13 rfl 48 (by decide) (hts (.fieldLink RX12 109 "CapLeagueModel" "isOut" "[Z") (by decide +kernel)) rfl dX12_draw_9 (by show va_rf (z.R a0 48) = _; rw [rot]; rfl) ?_
        refine lv_iload_n hx hb dX12_draw_12 rfl (lv_at hl 3 rfl) ?_
        refine lv_iconst (v := 0) hx hb dX12_draw_13 (by decide) ?_
        refine h_zast hx hb g tot (by decide) so_1348 (xi_in (by omega) (by omega)) dX12_draw_14 (fun I125 H locs eI125 g => ?_)
        rw [h_nz (by decide) (by decide)] at eI125
        have hI := hI.wr eI125 tot (rfl : h_bd 1348 _ = (0, 1)) (by decide) (by decide)
        have hF := hF.wr eI125 tot rfl
        obtain ⟨v126, ev126⟩ : ∃ z : Int32, z = v1 + 1 := ⟨_, rfl⟩
        have jv126 : v126.toInt = v1.toInt + 1 := xi_add ev126 rfl (by decide) (by omega) (by omega)
        refine lv_iinc (v := v126) (lv' := [(3, .int v126), (0, .ref a0), (1, .int a), (2, .int b)]) hx hb dX12_draw_15 hl (k := 3) rfl (by rw [ev126]; rfl) (by decide) rfl (fun ls hl => ?_)
        refine lv_goto (tgt := 2) hx hb dX12_draw_18 (by decide) ?_
        exact ih2 I125 _ _ _ v126 g hI hF (lv_sub hl [1, 2, 3, 0] rfl) (by omega) (h_F.wr (h_F.call (h_F.rf : h_F [(1348, 999)] z I0 I0) hL2 rfl) eI125 tot rfl) (fun k hk => by
            by_cases ek : (k : Int) = v1.toInt
            · rw [← h_keq (k := k) (i := v1) rfl (by omega) ek, h_n0 eI125]
            · rw [h_n2 eI125 (h_kne (t := v1.toInt) rfl (by omega) ek)]
              exact hx2_0 k (by omega)) (by omega)
  have kc127 : (0 : Int32).toInt = 0 := by decide
  exact loop2_0 _ I0 _ _ _ (0) g hI hF (lv_sub hl [1, 2, 3, 0] rfl) ⟨by decide, by decide⟩ (h_F.rf : h_F [(1348, 999)] z I0 I0) (fun k hk => absurd hk (by omega)) (show (8 - (0 : Int)) < (((8 - (0 : Int)).toNat + 1 : Nat) : Int) by omega)
set_option maxHeartbeats 4000000 in
set_option maxRecDepth 100000 in
theorem tX12_nextX (l : Launch) (E : tE) (X : tX) (A : Nat → Prop) (z : tZ) (I0 : tI) (L0 : tL) (a0 : Nat) (t_a0 : z.ty a0 = 13) : Met l yX12_next wsX12_next ({ frames := 5, cells := 0, slots := 0, locals := 320 }) (va_Pc [.ref a0] (h_P E X A z I0 L0)) (va_Qi (fun r (I1 : tI) => h_I z I1 ∧ h_F [(1349, 999), (13, 50), (13, 12), (1322, 999), (1314, 999), (1324, 999), (13, 30), (13, 31), (13, 33)] z I0 I1 ∧ ((I1 a0 30).toInt = 1 → (I0 a0 30).toInt = 1) ∧ (((9 ≤ (I0 a0 12).toInt ∨ (I0 a0 31).toInt = 0) ∧ r.toInt = -4 ∧ I1 a0 12 = I0 a0 12 ∧ I1 a0 30 = I0 a0 30 ∧ I1 a0 31 = I0 a0 31) ∨ ((I0 a0 12).toInt ≤ 8 ∧ (I0 a0 31).toInt = 1 ∧ r.toInt = (I0 a0 12).toInt + 1 ∧ (I1 a0 12).toInt = (I0 a0 12).toInt + 1 ∧ I1 a0 30 = 0 ∧ I1 a0 31 = 0))) (fun (I1 : tI) t => h_B E A z I1 L0 t) A) 0 0 A := by
  refine Met.ofW (cc := cX12_next) (maxL := 6) (ret := (some .int)) (by decide) rfl ?_
  intro pr_ ev_ s m args below meth cd_ s₁ B hml hv
  obtain ⟨rfl, hE, hk, hX, hA, hK, hI, hR, hB0⟩ := hv
  have g : h_G h_so h_fk E A z I0 L0 s s.heap s.heap [] := ⟨hK, va_S.rf, hB0⟩
  have hF : h_F [(1349, 999), (13, 50), (13, 12), (1322, 999), (1314, 999), (1324, 999), (13, 30), (13, 31), (13, 33)] z I0 I0 := h_F.rf
  have hx := B.exec
  have hb := B.bytes
  have hr := B.returns
  have hts := atoms_spec (ws := wsX12_next) B.pre
  have hown : s.vm.findClass RX12 = some m.cls := findClass_of_methodNamed B.named
  have hlocks := B.notSynchronized
  have iX12 : ∀ w ∈ u_ws RX12 TX12 51, w ∈ wsX12_next := by decide +kernel
  have hl := lv_entry ([.ref a0]) (n := 6) (Nat.le_of_ble_eq_true rfl)
  rw [lg_entry_eq]
  generalize (lg_sl ([.ref a0]) ++ List.replicate (6 - (lg_sl ([.ref a0])).length) Slot.unset).toArray = ls at hl ⊢
  have hl : lv_has ls 6 [(0, .ref a0)] := hl
  obtain ⟨f0_30, ef0_30⟩ : ∃ v : Int32, v = I0 a0 30 := ⟨_, rfl⟩
  have qf0_30 : (I0 a0 30).toInt = f0_30.toInt := congrArg Int32.toInt ef0_30.symm
  have jf0_30 := hI.rd a0 30 t_a0 ef0_30 (rfl : h_bd 13 30 = (0, 1))
  obtain ⟨f0_31, ef0_31⟩ : ∃ v : Int32, v = I0 a0 31 := ⟨_, rfl⟩
  have qf0_31 : (I0 a0 31).toInt = f0_31.toInt := congrArg Int32.toInt ef0_31.symm
  have jf0_31 := hI.rd a0 31 t_a0 ef0_31 (rfl : h_bd 13 31 = (0, 1))
  obtain ⟨f0_12, ef0_12⟩ : ∃ v : Int32, v = I0 a0 12 := ⟨_, rfl⟩
  have qf0_12 : (I0 a0 12).toInt = f0_12.toInt := congrArg Int32.toInt ef0_12.symm
  have jf0_12 := hI.rd a0 12 t_a0 ef0_12 (rfl : h_bd 13 12 = (0, 9))
  refine lv_aload_n hx hb dX12_next_0 rfl (lv_at hl 0 rfl) ?_
  refine h_get (v := .int f0_12) hx hb hts iX12 hown g t_a0 (by decide) so_13 rfl 12 (by decide) (hts (.fieldLink RX12 187 "CapLeagueModel" "clock" "I") (by decide +kernel)) rfl dX12_next_1 (congrArg Value.int (ef0_12.symm)) ?_
  refine lv_bipush (v := 9) hx hb dX12_next_4 (by decide) ?_
  refine lv_icmp_eq (tgt := 16) hx hb dX12_next_6 (by decide) (fun c1 => ?_) (fun c1 => ?_)
  · have ic1 := (xi_eq c1 rfl (by decide) : f0_12.toInt = 9)
    refine lv_bipush (v := (-4)) hx hb dX12_next_16 (by decide) ?_
    have hS := g.2.1
    exact W.iret (v := (-4)) hx hb hr (fun t ht hW => ⟨⟨(-4), I0, rfl, ⟨hI, hF, ⟨(by have qr : ((-4) : Int32).toInt = (-4) := (by decide); omega), (by rw [qf0_12, qf0_31]; exact Or.inl ⟨by omega, by decide, rfl, rfl, rfl⟩)⟩⟩, h_ret g ht⟩, hS.F ht⟩) hS.2.2 dX12_next_18
  · have ic1 := (xi_ne c1 rfl (by decide) : f0_12.toInt ≠ 9)
    refine lv_aload_n hx hb dX12_next_9 rfl (lv_at hl 0 rfl) ?_
    refine h_get (v := .int f0_31) hx hb hts iX12 hown g t_a0 (by decide) so_13 rfl 31 (by decide) (hts (.fieldLink RX12 264 "CapLeagueModel" "isDrawn" "Z") (by decide +kernel)) rfl dX12_next_10 (congrArg Value.int (ef0_31.symm)) ?_
    refine lv_if_ne (tgt := 19) hx hb dX12_next_13 (by decide) (fun c2 => ?_) (fun c2 => ?_)
    · have ic2 := (xi_ne c2 rfl (by decide) : f0_31.toInt ≠ 0)
      refine lv_iconst (v := 0) hx hb dX12_next_19 (by decide) ?_
      refine lv_istore_n (lv' := [(1, .int 0), (0, .ref a0)]) hx hb dX12_next_20 rfl hl (by decide) rfl (fun ls hl => ?_)
      refine lv_iconst (v := 0) hx hb dX12_next_21 (by decide) ?_
      refine lv_istore_n (lv' := [(2, .int 0), (1, .int 0), (0, .ref a0)]) hx hb dX12_next_22 rfl hl (by decide) rfl (fun ls hl => ?_)
      refine lv_iconst (v := 0) hx hb dX12_next_23 (by decide) ?_
      refine lv_istore_n (lv' := [(3, .int 0), (2, .int 0), (1, .int 0), (0, .ref a0)]) hx hb dX12_next_24 rfl hl (by decide) rfl (fun ls hl => ?_)
      have loop25_0 : ∀ (n : Nat) (I6 : tI) (H : Heap) (locs : List Loc) (ls : Array Slot) (v3 v4 v5 : Int32), h_G h_so h_fk E A z I6 L0 s s.heap H locs → h_I z I6 → h_F [(1349, 999), (13, 50), (13, 12), (1322, 999), (1314, 999), (1324, 999), (13, 30), (13, 31), (13, 33)] z I0 I6 → lv_has ls 6 [(0, .ref a0), (1, .int v3), (2, .int v4), (3, .int v5)] → ((-2147483648) ≤ v3.toInt ∧ v3.toInt ≤ 2147483647) → ((-2147483648) ≤ v4.toInt ∧ v4.toInt ≤ 2147483647) → (0 ≤ v5.toInt ∧ v5.toInt ≤ 8) → h_F [(1349, 999)] z I0 I6 → (8 - v5.toInt) < (n : Int) → W pr_ l ev_ (headSpec wsX12_next ({ frames := 5, cells := 0, slots := 0, locals := 320 })).room s m ([.ref a0] : List Value).toArray below meth cd_ H locs 0 0 (MQ below (va_Qi (fun r (I1 : tI) => h_I z I1 ∧ h_F [(1349, 999), (13, 50), (13, 12), (1322, 999), (1314, 999), (1324, 999), (13, 30), (13, 31), (13, 33)] z I0 I1 ∧ ((I1 a0 30).toInt = 1 → (I0 a0 30).toInt = 1) ∧ (((9 ≤ (I0 a0 12).toInt ∨ (I0 a0 31).toInt = 0) ∧ r.toInt = -4 ∧ I1 a0 12 = I0 a0 12 ∧ I1 a0 30 = I0 a0 30 ∧ I1 a0 31 = I0 a0 31) ∨ ((I0 a0 12).toInt ≤ 8 ∧ (I0 a0 31).toInt = 1 ∧ r.toInt = (I0 a0 12).toInt + 1 ∧ (I1 a0 12).toInt = (I0 a0 12).toInt + 1 ∧ I1 a0 30 = 0 ∧ I1 a0 31 = 0))) (fun (I1 : tI) t => h_B E A z I1 L0 t) A) ([.ref a0] : List Value).toArray s 0 0 A) (F0 m 25 ls []) := by
        intro n
        induction n with
        | zero => intro I6 H locs ls v3 v4 v5 g hI hF hl jv3 jv4 jv5 hL25 hn; exact absurd hn (by omega)
        | succ n ih25 =>
          intro I6 H locs ls v3 v4 v5 g hI hF hl jv3 jv4 jv5 hL25 hn
          refine lv_iload_n hx hb dX12_next_25 rfl (lv_at hl 3 rfl) ?_
          refine lv_bipush (v := 8) hx hb dX12_next_26 (by decide) ?_
          refine lv_icmp_ge (tgt := 106) hx hb dX12_next_28 (by decide) (fun c7 => ?_) (fun c7 => ?_)
          · have ic7 := (xi_le c7 (by decide) rfl : 8 ≤ v5.toInt)
            refine lv_bipush (v := 8) hx hb dX12_next_106 (by decide) ?_
            refine lv_iload_n hx hb dX12_next_108 rfl (lv_at hl 2 rfl) ?_
            refine vp_callSi (W.runS (As := [.int v4]) (rest := [.int 8]) ⟨hx, hb, hml, hown, hts⟩ (tX12_bits l E X A z I6 L0 v4 (v4.toInt) rfl) (va_cwS 1 hts gX12_next_X12_bits rfl rfl rfl (by decide +kernel) ⟨Nat.le_of_ble_eq_true rfl, Nat.le_of_ble_eq_true rfl⟩) ⟨h_blind _ _ _ _ _ _ _, h_pre _ hE hk hX hA hI hR g⟩ rfl rfl hl.1 rfl (lv_room (Nat.le_of_ble_eq_true rfl)) dX12_next_109 ⟨Nat.le_of_ble_eq_true rfl, Nat.le_of_ble_eq_true rfl⟩) (fun rh8 h8 => ?_)
            have jrh8 : -2147483648 ≤ rh8.toInt ∧ rh8.toInt ≤ 2147483647 := ⟨xi_lo _, Int.le_of_lt_add_one (xi_hi _)⟩
            refine lv_isub hx hb dX12_next_112 ?_
            refine lv_topi (fun v9 ev9 => ?_)
            have jv9 : -2147483648 ≤ v9.toInt ∧ v9.toInt ≤ 2147483647 := ⟨xi_lo _, Int.le_of_lt_add_one (xi_hi _)⟩
            refine lv_istore_n (lv' := [(3, .int v9), (0, .ref a0), (1, .int v3), (2, .int v4)]) hx hb dX12_next_113 rfl hl (by decide) rfl (fun ls hl => ?_)
            refine lv_iload_n hx hb dX12_next_114 rfl (lv_at hl 0 rfl) ?_
            refine lv_if_ne (tgt := 122) hx hb dX12_next_115 (by decide) (fun c10 => ?_) (fun c10 => ?_)
            · have ic10 := (xi_ne c10 rfl (by decide) : v9.toInt ≠ 0)
              refine lv_iload_n hx hb dX12_next_122 rfl (lv_at hl 2 rfl) ?_
              refine lv_iload_n hx hb dX12_next_123 rfl (lv_at hl 0 rfl) ?_
              refine lv_idiv hx hb dX12_next_124 (h_ne0 (by omega)) ?_
              refine lv_topi (fun v11 ev11 => ?_)
              have jv11 : -2147483648 ≤ v11.toInt ∧ v11.toInt ≤ 2147483647 := ⟨xi_lo _, Int.le_of_lt_add_one (xi_hi _)⟩
              refine lv_istore (lv' := [(4, .int v11), (3, .int v9), (0, .ref a0), (1, .int v3), (2, .int v4)]) hx hb dX12_next_125 hl (by decide) rfl (fun ls hl => ?_)
              refine lv_iconst (v := 0) hx hb dX12_next_127 (by decide) ?_
              refine lv_istore (lv' := [(5, .int 0), (4, .int v11), (3, .int v9), (0, .ref a0), (1, .int v3), (2, .int v4)]) hx hb dX12_next_128 hl (by decide) rfl (fun ls hl => ?_)
              have loop130_1 : ∀ (n : Nat) (I13 : tI) (H : Heap) (locs : List Loc) (ls : Array Slot) (v12 : Int32), h_G h_so h_fk E A z I13 L0 s s.heap H locs → h_I z I13 → h_F [(1349, 999), (13, 50), (13, 12), (1322, 999), (1314, 999), (1324, 999), (13, 30), (13, 31), (13, 33)] z I0 I13 → lv_has ls 6 [(0, .ref a0), (1, .int v3), (2, .int v4), (3, .int v9), (4, .int v11), (5, .int v12)] → (0 ≤ v12.toInt ∧ v12.toInt ≤ 8) → h_F [(1349, 999)] z I6 I13 → (8 - v12.toInt) < (n : Int) → W pr_ l ev_ (headSpec wsX12_next ({ frames := 5, cells := 0, slots := 0, locals := 320 })).room s m ([.ref a0] : List Value).toArray below meth cd_ H locs 0 0 (MQ below (va_Qi (fun r (I1 : tI) => h_I z I1 ∧ h_F [(1349, 999), (13, 50), (13, 12), (1322, 999), (1314, 999), (1324, 999), (13, 30), (13, 31), (13, 33)] z I0 I1 ∧ ((I1 a0 30).toInt = 1 → (I0 a0 30).toInt = 1) ∧ (((9 ≤ (I0 a0 12).toInt ∨ (I0 a0 31).toInt = 0) ∧ r.toInt = -4 ∧ I1 a0 12 = I0 a0 12 ∧ I1 a0 30 = I0 a0 30 ∧ I1 a0 31 = I0 a0 31) ∨ ((I0 a0 12).toInt ≤ 8 ∧ (I0 a0 31).toInt = 1 ∧ r.toInt = (I0 a0 12).toInt + 1 ∧ (I1 a0 12).toInt = (I0 a0 12).toInt + 1 ∧ I1 a0 30 = 0 ∧ I1 a0 31 = 0))) (fun (I1 : tI) t => h_B E A z I1 L0 t) A) ([.ref a0] : List Value).toArray s 0 0 A) (F0 m 130 ls []) := by
                intro n
                induction n with
                | zero => intro I13 H locs ls v12 g hI hF hl jv12 hL130 hn; exact absurd hn (by omega)
                | succ n ih130 =>
                  intro I13 H locs ls v12 g hI hF hl jv12 hL130 hn
                  refine lv_iload hx hb dX12_next_130 (lv_at hl 5 rfl) ?_
                  refine lv_bipush (v := 8) hx hb dX12_next_132 (by decide) ?_
                  refine lv_icmp_ge (tgt := 169) hx hb dX12_next_134 (by decide) (fun c14 => ?_) (fun c14 => ?_)
                  · have ic14 := (xi_le c14 (by decide) rfl : 8 ≤ v12.toInt)
                    refine lv_aload_n hx hb dX12_next_169 rfl (lv_at hl 0 rfl) ?_
                    refine lv_dup hx hb dX12_next_170 rfl ?_
                    refine h_get (v := .int (I13 a0 50)) hx hb hts iX12 hown g t_a0 (by decide) so_13 rfl 50 (by decide) (hts (.fieldLink RX12 329 "CapLeagueModel" "league" "I") (by decide +kernel)) rfl dX12_next_171 rfl ?_
                    refine lv_topi (fun v15 ev15 => ?_)
                    have jv15 := hI.rd a0 50 t_a0 ev15 (rfl : h_bd 13 50 = ((-2147483648), 2147483647))
                    refine lv_iload_n hx hb dX12_next_174 rfl (lv_at hl 1 rfl) ?_
                    refine lv_iload hx hb dX12_next_175 (lv_at hl 4 rfl) ?_
                    refine lv_iload_n hx hb dX12_next_177 rfl (lv_at hl 3 rfl) ?_
                    refine lv_imul hx hb dX12_next_178 ?_
                    refine lv_topi (fun v16 ev16 => ?_)
                    have jv16 : -2147483648 ≤ v16.toInt ∧ v16.toInt ≤ 2147483647 := ⟨xi_lo _, Int.le_of_lt_add_one (xi_hi _)⟩
                    refine lv_isub hx hb dX12_next_179 ?_
                    refine lv_topi (fun v17 ev17 => ?_)
                    have jv17 : -2147483648 ≤ v17.toInt ∧ v17.toInt ≤ 2147483647 := ⟨xi_lo _, Int.le_of_lt_add_one (xi_hi _)⟩
                    refine lv_iadd hx hb dX12_next_180 ?_
                    refine lv_topi (fun v18 ev18 => ?_)
                    have jv18 : -2147483648 ≤ v18.toInt ∧ v18.toInt ≤ 2147483647 := ⟨xi_lo _, Int.le_of_lt_add_one (xi_hi _)⟩
                    refine h_putI (ty := .int) (v := v18) hx hb hts iX12 tyX12 tyX12_ok nmX12 hown g t_a0 (by decide) so_13 rfl 50 (by decide) rfl (hts (.fieldLink RX12 329 "CapLeagueModel" "league" "I") (by decide +kernel)) rfl rfl (by decide +kernel) rfl rfl dX12_next_181 (fun I19 H locs eI19 g => ?_)
                    have hI := hI.wr eI19 t_a0 (rfl : h_bd 13 50 = ((-2147483648), 2147483647)) (xi_lo _) (Int.le_of_lt_add_one (xi_hi _))
                    have hF := hF.wr eI19 t_a0 rfl
                    refine lv_aload_n hx hb dX12_next_184 rfl (lv_at hl 0 rfl) ?_
                    refine lv_dup hx hb dX12_next_185 rfl ?_
                    refine h_get (v := .int f0_12) hx hb hts iX12 hown g t_a0 (by decide) so_13 rfl 12 (by decide) (hts (.fieldLink RX12 187 "CapLeagueModel" "clock" "I") (by decide +kernel)) rfl dX12_next_186 (congrArg Value.int ((h_n2 eI19 (by decide)).trans ((h_F.at hL130 t_a0 rfl).trans ((h_F.at hL25 t_a0 rfl).trans (ef0_12.symm))))) ?_
                    refine lv_iconst (v := 1) hx hb dX12_next_189 (by decide) ?_
                    refine lv_iadd hx hb dX12_next_190 ?_
                    refine lv_topi (fun v20 ev20 => ?_)
                    have jv20 : v20.toInt = f0_12.toInt + 1 := xi_add ev20 rfl (by decide) (by omega) (by omega)
                    refine h_putI (ty := .int) (v := v20) hx hb hts iX12 tyX12 tyX12_ok nmX12 hown g t_a0 (by decide) so_13 rfl 12 (by decide) rfl (hts (.fieldLink RX12 187 "CapLeagueModel" "clock" "I") (by decide +kernel)) rfl rfl (by decide +kernel) rfl rfl dX12_next_191 (fun I21 H locs eI21 g => ?_)
                    have hI := hI.wr eI21 t_a0 (rfl : h_bd 13 12 = (0, 9)) (by omega) (by omega)
                    have hF := hF.wr eI21 t_a0 rfl
                    refine lv_iconst (v := 0) hx hb dX12_next_194 (by decide) ?_
                    refine lv_istore (lv' := [(5, .int 0), (0, .ref a0), (1, .int v3), (2, .int v4), (3, .int v9), (4, .int v11)]) hx hb dX12_next_195 hl (by decide) rfl (fun ls hl => ?_)
                    have loop197_2 : ∀ (n : Nat) (I23 : tI) (H : Heap) (locs : List Loc) (ls : Array Slot) (v22 : Int32), h_G h_so h_fk E A z I23 L0 s s.heap H locs → h_I z I23 → h_F [(1349, 999), (13, 50), (13, 12), (1322, 999), (1314, 999), (1324, 999), (13, 30), (13, 31), (13, 33)] z I0 I23 → lv_has ls 6 [(0, .ref a0), (5, .int v22)] → (0 ≤ v22.toInt ∧ v22.toInt ≤ 60) → h_F [(1322, 999), (1314, 999)] z I21 I23 → (60 - v22.toInt) < (n : Int) → W pr_ l ev_ (headSpec wsX12_next ({ frames := 5, cells := 0, slots := 0, locals := 320 })).room s m ([.ref a0] : List Value).toArray below meth cd_ H locs 0 0 (MQ below (va_Qi (fun r (I1 : tI) => h_I z I1 ∧ h_F [(1349, 999), (13, 50), (13, 12), (1322, 999), (1314, 999), (1324, 999), (13, 30), (13, 31), (13, 33)] z I0 I1 ∧ ((I1 a0 30).toInt = 1 → (I0 a0 30).toInt = 1) ∧ (((9 ≤ (I0 a0 12).toInt ∨ (I0 a0 31).toInt = 0) ∧ r.toInt = -4 ∧ I1 a0 12 = I0 a0 12 ∧ I1 a0 30 = I0 a0 30 ∧ I1 a0 31 = I0 a0 31) ∨ ((I0 a0 12).toInt ≤ 8 ∧ (I0 a0 31).toInt = 1 ∧ r.toInt = (I0 a0 12).toInt + 1 ∧ (I1 a0 12).toInt = (I0 a0 12).toInt + 1 ∧ I1 a0 30 = 0 ∧ I1 a0 31 = 0))) (fun (I1 : tI) t => h_B E A z I1 L0 t) A) ([.ref a0] : List Value).toArray s 0 0 A) (F0 m 197 ls []) := by
                      intro n
                      induction n with
                      | zero => intro I23 H locs ls v22 g hI hF hl jv22 hL197 hn; exact absurd hn (by omega)
                      | succ n ih197 =>
                        intro I23 H locs ls v22 g hI hF hl jv22 hL197 hn
                        refine lv_iload hx hb dX12_next_197 (lv_at hl 1 rfl) ?_
                        refine lv_aload_n hx hb dX12_next_199 rfl (lv_at hl 0 rfl) ?_
                        refine h_get (v := .int (I23 a0 13)) hx hb hts iX12 hown g t_a0 (by decide) so_13 rfl 13 (by decide) (hts (.fieldLink RX12 202 "CapLeagueModel" "players" "I") (by decide +kernel)) rfl dX12_next_200 rfl ?_
                        refine lv_topi (fun v24 ev24 => ?_)
                        have jv24 := hI.rd a0 13 t_a0 ev24 (rfl : h_bd 13 13 = (0, 60))
                        refine lv_icmp_ge (tgt := 252) hx hb dX12_next_203 (by decide) (fun c25 => ?_) (fun c25 => ?_)
                        · have ic25 := (xi_le c25 rfl rfl : v24.toInt ≤ v22.toInt)
                          refine lv_iconst (v := 0) hx hb dX12_next_252 (by decide) ?_
                          refine lv_istore (lv' := [(5, .int 0), (0, .ref a0)]) hx hb dX12_next_253 hl (by decide) rfl (fun ls hl => ?_)
                          have loop255_3 : ∀ (n : Nat) (I27 : tI) (H : Heap) (locs : List Loc) (ls : Array Slot) (v26 : Int32), h_G h_so h_fk E A z I27 L0 s s.heap H locs → h_I z I27 → h_F [(1349, 999), (13, 50), (13, 12), (1322, 999), (1314, 999), (1324, 999), (13, 30), (13, 31), (13, 33)] z I0 I27 → lv_has ls 6 [(0, .ref a0), (5, .int v26)] → (0 ≤ v26.toInt ∧ v26.toInt ≤ 8) → h_F [(1324, 999)] z I23 I27 → (8 - v26.toInt) < (n : Int) → W pr_ l ev_ (headSpec wsX12_next ({ frames := 5, cells := 0, slots := 0, locals := 320 })).room s m ([.ref a0] : List Value).toArray below meth cd_ H locs 0 0 (MQ below (va_Qi (fun r (I1 : tI) => h_I z I1 ∧ h_F [(1349, 999), (13, 50), (13, 12), (1322, 999), (1314, 999), (1324, 999), (13, 30), (13, 31), (13, 33)] z I0 I1 ∧ ((I1 a0 30).toInt = 1 → (I0 a0 30).toInt = 1) ∧ (((9 ≤ (I0 a0 12).toInt ∨ (I0 a0 31).toInt = 0) ∧ r.toInt = -4 ∧ I1 a0 12 = I0 a0 12 ∧ I1 a0 30 = I0 a0 30 ∧ I1 a0 31 = I0 a0 31) ∨ ((I0 a0 12).toInt ≤ 8 ∧ (I0 a0 31).toInt = 1 ∧ r.toInt = (I0 a0 12).toInt + 1 ∧ (I1 a0 12).toInt = (I0 a0 12).toInt + 1 ∧ I1 a0 30 = 0 ∧ I1 a0 31 = 0))) (fun (I1 : tI) t => h_B E A z I1 L0 t) A) ([.ref a0] : List Value).toArray s 0 0 A) (F0 m 255 ls []) := by
                            intro n
                            induction n with
                            | zero => intro I27 H locs ls v26 g hI hF hl jv26 hL255 hn; exact absurd hn (by omega)
                            | succ n ih255 =>
                              intro I27 H locs ls v26 g hI hF hl jv26 hL255 hn
                              refine lv_iload hx hb dX12_next_255 (lv_at hl 1 rfl) ?_
                              refine lv_bipush (v := 8) hx hb dX12_next_257 (by decide) ?_
                              refine lv_icmp_ge (tgt := 276) hx hb dX12_next_259 (by decide) (fun c28 => ?_) (fun c28 => ?_)
                              · have ic28 := (xi_le c28 (by decide) rfl : 8 ≤ v26.toInt)
                                refine lv_aload_n hx hb dX12_next_276 rfl (lv_at hl 0 rfl) ?_
                                refine lv_iconst (v := 0) hx hb dX12_next_277 (by decide) ?_
                                refine h_putI (ty := .boolean) (v := 0) hx hb hts iX12 tyX12 tyX12_ok nmX12 hown g t_a0 (by decide) so_13 rfl 30 (by decide) rfl (hts (.fieldLink RX12 306 "CapLeagueModel" "hasTable" "Z") (by decide +kernel)) rfl rfl (by decide +kernel) (by decide) (by decide) dX12_next_278 (fun I29 H locs eI29 g => ?_)
                                have hI := hI.wr eI29 t_a0 (rfl : h_bd 13 30 = (0, 1)) (by decide) (by decide)
                                have hF := hF.wr eI29 t_a0 rfl
                                refine lv_aload_n hx hb dX12_next_281 rfl (lv_at hl 0 rfl) ?_
                                refine lv_iconst (v := 0) hx hb dX12_next_282 (by decide) ?_
                                refine h_putI (ty := .boolean) (v := 0) hx hb hts iX12 tyX12 tyX12_ok nmX12 hown g t_a0 (by decide) so_13 rfl 31 (by decide) rfl (hts (.fieldLink RX12 264 "CapLeagueModel" "isDrawn" "Z") (by decide +kernel)) rfl rfl (by decide +kernel) (by decide) (by decide) dX12_next_283 (fun I30 H locs eI30 g => ?_)
                                have hI := hI.wr eI30 t_a0 (rfl : h_bd 13 31 = (0, 1)) (by decide) (by decide)
                                have hF := hF.wr eI30 t_a0 rfl
                                refine lv_aload_n hx hb dX12_next_286 rfl (lv_at hl 0 rfl) ?_
                                refine lv_iconst (v := 0) hx hb dX12_next_287 (by decide) ?_
                                refine h_putI (ty := .int) (v := 0) hx hb hts iX12 tyX12 tyX12_ok nmX12 hown g t_a0 (by decide) so_13 rfl 33 (by decide) rfl (hts (.fieldLink RX12 247 "CapLeagueModel" "moves" "I") (by decide +kernel)) rfl rfl (by decide +kernel) rfl rfl dX12_next_288 (fun I31 H locs eI31 g => ?_)
                                have hI := hI.wr eI31 t_a0 (rfl : h_bd 13 33 = (0, 12)) (by decide) (by decide)
                                have hF := hF.wr eI31 t_a0 rfl
                                refine lv_aload_n hx hb dX12_next_291 rfl (lv_at hl 0 rfl) ?_
                                refine h_get (v := .int v20) hx hb hts iX12 hown g t_a0 (by decide) so_13 rfl 12 (by decide) (hts (.fieldLink RX12 187 "CapLeagueModel" "clock" "I") (by decide +kernel)) rfl dX12_next_292 (congrArg Value.int ((h_n2 eI31 (by decide)).trans ((h_n2 eI30 (by decide)).trans ((h_n2 eI29 (by decide)).trans ((h_F.at hL255 t_a0 rfl).trans ((h_F.at hL197 t_a0 rfl).trans (h_n0 eI21))))))) ?_
                                have hS := g.2.1
                                exact W.iret (v := v20) hx hb hr (fun t ht hW => ⟨⟨v20, I31, rfl, ⟨hI, hF, ⟨(by have q1_30 : (I31 a0 30).toInt = 0 := (congrArg Int32.toInt ((h_n2 eI31 (by decide)).trans ((h_n2 eI30 (by decide)).trans (h_n0 eI29)))).trans (by decide); omega), (by rw [qf0_12, qf0_31]; exact Or.inr ⟨by omega, by omega, by omega, by rw [show I31 a0 12 = v20 from (h_n2 eI31 (by decide)).trans ((h_n2 eI30 (by decide)).trans ((h_n2 eI29 (by decide)).trans ((h_F.at hL255 t_a0 rfl).trans ((h_F.at hL197 t_a0 rfl).trans (h_n0 eI21)))))]; omega, (h_n2 eI31 (by decide)).trans ((h_n2 eI30 (by decide)).trans (h_n0 eI29)), (h_n2 eI31 (by decide)).trans (h_n0 eI30)⟩)⟩⟩, h_ret g ht⟩, hS.F ht⟩) hS.2.2 dX12_next_295
                              · have ic28 := (xi_nle c28 (by decide) rfl : v26.toInt < 8)
                                refine lv_aload_n hx hb dX12_next_262 rfl (lv_at hl 0 rfl) ?_
                                obtain ⟨b32, rb32, tb32⟩ := hR.at a0 24 t_a0 (rfl : h_rs 13 24 = some (1324, false)) (by decide)
                                refine h_get (v := .ref b32) hx hb hts iX12 hown g t_a0 (by decide) so_13 rfl 24 (by decide) (hts (.fieldLink RX12 55 "CapLeagueModel" "usedSpare" "[Z") (by decide +kernel)) rfl dX12_next_263 (by show va_rf (z.R a0 24) = _; rw [rb32]; rfl) ?_
                                refine lv_iload hx hb dX12_next_266 (lv_at hl 1 rfl) ?_
                                refine lv_iconst (v := 0) hx hb dX12_next_268 (by decide) ?_
                                refine h_zast hx hb g tb32 (by decide) so_1324 (xi_in (by omega) (by omega)) dX12_next_269 (fun I33 H locs eI33 g => ?_)
                                rw [h_nz (by decide) (by decide)] at eI33
                                have hI := hI.wr eI33 tb32 (rfl : h_bd 1324 _ = (0, 1)) (by decide) (by decide)
                                have hF := hF.wr eI33 tb32 rfl
                                obtain ⟨v34, ev34⟩ : ∃ z : Int32, z = v26 + 1 := ⟨_, rfl⟩
                                have jv34 : v34.toInt = v26.toInt + 1 := xi_add ev34 rfl (by decide) (by omega) (by omega)
                                refine lv_iinc (v := v34) (lv' := [(5, .int v34), (0, .ref a0)]) hx hb dX12_next_270 hl (k := 1) rfl (by rw [ev34]; rfl) (by decide) rfl (fun ls hl => ?_)
                                refine lv_goto (tgt := 255) hx hb dX12_next_273 (by decide) ?_
                                exact ih255 I33 _ _ _ v34 g hI hF (lv_sub hl [1, 0] rfl) (by omega) (h_F.wr (h_F.call (h_F.rf : h_F [(1324, 999)] z I23 I23) hL255 rfl) eI33 tb32 rfl) (by omega)
                          exact loop255_3 _ I23 _ _ _ (0) g hI hF (lv_sub hl [1, 0] rfl) ⟨by decide, by decide⟩ (h_F.rf : h_F [(1324, 999)] z I23 I23) (show (8 - (0 : Int)) < (((8 - (0 : Int)).toNat + 1 : Nat) : Int) by omega)
                        · have ic25 := (xi_nle c25 rfl rfl : v22.toInt < v24.toInt)
                          refine lv_aload_n hx hb dX12_next_206 rfl (lv_at hl 0 rfl) ?_
                          obtain ⟨b35, rb35, tb35⟩ := hR.at a0 22 t_a0 (rfl : h_rs 13 22 = some (1322, false)) (by decide)
                          refine h_get (v := .ref b35) hx hb hts iX12 hown g t_a0 (by decide) so_13 rfl 22 (by decide) (hts (.fieldLink RX12 49 "CapLeagueModel" "isHurt" "[Z") (by decide +kernel)) rfl dX12_next_207 (by show va_rf (z.R a0 22) = _; rw [rb35]; rfl) ?_
                          refine lv_iload hx hb dX12_next_210 (lv_at hl 1 rfl) ?_
                          refine lv_iconst (v := 0) hx hb dX12_next_212 (by decide) ?_
                          refine h_zast hx hb g tb35 (by decide) so_1322 (xi_in (by omega) (by omega)) dX12_next_213 (fun I36 H locs eI36 g => ?_)
                          rw [h_nz (by decide) (by decide)] at eI36
                          have hI := hI.wr eI36 tb35 (rfl : h_bd 1322 _ = (0, 1)) (by decide) (by decide)
                          have hF := hF.wr eI36 tb35 rfl
                          refine lv_aload_n hx hb dX12_next_214 rfl (lv_at hl 0 rfl) ?_
                          obtain ⟨b37, rb37, tb37⟩ := hR.at a0 14 t_a0 (rfl : h_rs 13 14 = some (1314, false)) (by decide)
                          refine h_get (v := .ref b37) hx hb hts iX12 hown g t_a0 (by decide) so_13 rfl 14 (by decide) (hts (.fieldLink RX12 25 "CapLeagueModel" "clubOf" "[I") (by decide +kernel)) rfl dX12_next_215 (by show va_rf (z.R a0 14) = _; rw [rb37]; rfl) ?_
                          refine lv_iload hx hb dX12_next_218 (lv_at hl 1 rfl) ?_
                          refine h_ald hx hb g tb37 (by decide) so_1314 (xi_in (by omega) (by omega)) dX12_next_220 ?_
                          refine lv_topi (fun v38 ev38 => ?_)
                          have jv38 := hI.rd b37 v22.toNatClampNeg tb37 ev38 (rfl : h_bd 1314 _ = ((-1), 7))
                          refine lv_iconst (v := (-1)) hx hb dX12_next_221 (by decide) ?_
                          refine lv_icmp_eq (tgt := 246) hx hb dX12_next_222 (by decide) (fun c39 => ?_) (fun c39 => ?_)
                          · have ic39 := (xi_eq c39 rfl (by decide) : v38.toInt = (-1))
                            obtain ⟨v40, ev40⟩ : ∃ z : Int32, z = v22 + 1 := ⟨_, rfl⟩
                            have jv40 : v40.toInt = v22.toInt + 1 := xi_add ev40 rfl (by decide) (by omega) (by omega)
                            refine lv_iinc (v := v40) (lv' := [(5, .int v40), (0, .ref a0)]) hx hb dX12_next_246 hl (k := 1) rfl (by rw [ev40]; rfl) (by decide) rfl (fun ls hl => ?_)
                            refine lv_goto (tgt := 197) hx hb dX12_next_249 (by decide) ?_
                            exact ih197 I36 _ _ _ v40 g hI hF (lv_sub hl [1, 0] rfl) (by omega) (h_F.wr (h_F.call (h_F.rf : h_F [(1322, 999), (1314, 999)] z I21 I21) hL197 rfl) eI36 tb35 rfl) (by omega)
                          · have ic39 := (xi_ne c39 rfl (by decide) : v38.toInt ≠ (-1))
                            refine lv_aload_n hx hb dX12_next_225 rfl (lv_at hl 0 rfl) ?_
                            refine lv_iload hx hb dX12_next_226 (lv_at hl 1 rfl) ?_
                            refine lv_aload_n hx hb dX12_next_228 rfl (lv_at hl 0 rfl) ?_
                            refine h_get (v := .int v20) hx hb hts iX12 hown g t_a0 (by decide) so_13 rfl 12 (by decide) (hts (.fieldLink RX12 187 "CapLeagueModel" "clock" "I") (by decide +kernel)) rfl dX12_next_229 (congrArg Value.int ((h_n1 eI36 t_a0 tb35 (by decide)).trans ((h_F.at hL197 t_a0 rfl).trans (h_n0 eI21)))) ?_
                            refine vp_callSi (W.runV (As := [.int v22, .int v20]) (rest := []) ⟨hx, hb, hml, hown, hts⟩ (tX12_isUnder l E X A z I36 L0 a0 t_a0 v22 (v22.toInt) rfl (by omega) v20 (v20.toInt) rfl) (cwV 2 hts gX12_next_X12_isUnder rfl rfl rfl (by decide +kernel) ⟨Nat.le_of_ble_eq_true rfl, Nat.le_of_ble_eq_true rfl⟩) ⟨h_blind _ _ _ _ _ _ _, h_recv g t_a0 (by decide) so_13 (q := (RX12, TX12, 51)) rfl, h_pre _ hE hk hX hA hI hR g⟩ rfl rfl hl.1 rfl (lv_room (Nat.le_of_ble_eq_true rfl)) dX12_next_232 ⟨Nat.le_of_ble_eq_true rfl, Nat.le_of_ble_eq_true rfl⟩) (fun rh41 h41 => ?_)
                            refine lv_if_ne (tgt := 246) hx hb dX12_next_235 (by decide) (fun c42 => ?_) (fun c42 => ?_)
                            · have ic42 := (xi_ne c42 rfl (by decide) : rh41.toInt ≠ 0)
                              obtain ⟨v43, ev43⟩ : ∃ z : Int32, z = v22 + 1 := ⟨_, rfl⟩
                              have jv43 : v43.toInt = v22.toInt + 1 := xi_add ev43 rfl (by decide) (by omega) (by omega)
                              refine lv_iinc (v := v43) (lv' := [(5, .int v43), (0, .ref a0)]) hx hb dX12_next_246 hl (k := 1) rfl (by rw [ev43]; rfl) (by decide) rfl (fun ls hl => ?_)
                              refine lv_goto (tgt := 197) hx hb dX12_next_249 (by decide) ?_
                              exact ih197 I36 _ _ _ v43 g hI hF (lv_sub hl [1, 0] rfl) (by omega) (h_F.wr (h_F.call (h_F.rf : h_F [(1322, 999), (1314, 999)] z I21 I21) hL197 rfl) eI36 tb35 rfl) (by omega)
                            · have ic42 := (xi_eq c42 rfl (by decide) : rh41.toInt = 0)
                              refine lv_aload_n hx hb dX12_next_238 rfl (lv_at hl 0 rfl) ?_
                              refine h_get (v := .ref b37) hx hb hts iX12 hown g t_a0 (by decide) so_13 rfl 14 (by decide) (hts (.fieldLink RX12 25 "CapLeagueModel" "clubOf" "[I") (by decide +kernel)) rfl dX12_next_239 (by show va_rf (z.R a0 14) = _; rw [rb37]; rfl) ?_
                              refine lv_iload hx hb dX12_next_242 (lv_at hl 1 rfl) ?_
                              refine lv_iconst (v := (-1)) hx hb dX12_next_244 (by decide) ?_
                              refine h_ast hx hb g tb37 (by decide) so_1314 (xi_in (by omega) (by omega)) dX12_next_245 (fun I44 H locs eI44 g => ?_)
                              have hI := hI.wr eI44 tb37 (rfl : h_bd 1314 _ = ((-1), 7)) (by decide) (by decide)
                              have hF := hF.wr eI44 tb37 rfl
                              obtain ⟨v45, ev45⟩ : ∃ z : Int32, z = v22 + 1 := ⟨_, rfl⟩
                              have jv45 : v45.toInt = v22.toInt + 1 := xi_add ev45 rfl (by decide) (by omega) (by omega)
                              refine lv_iinc (v := v45) (lv' := [(5, .int v45), (0, .ref a0)]) hx hb dX12_next_246 hl (k := 1) rfl (by rw [ev45]; rfl) (by decide) rfl (fun ls hl => ?_)
                              refine lv_goto (tgt := 197) hx hb dX12_next_249 (by decide) ?_
                              exact ih197 I44 _ _ _ v45 g hI hF (lv_sub hl [1, 0] rfl) (by omega) (h_F.wr (h_F.wr (h_F.call (h_F.rf : h_F [(1322, 999), (1314, 999)] z I21 I21) hL197 rfl) eI36 tb35 rfl) eI44 tb37 rfl) (by omega)
                    exact loop197_2 _ I21 _ _ _ (0) g hI hF (lv_sub hl [1, 0] rfl) ⟨by decide, by decide⟩ (h_F.rf : h_F [(1322, 999), (1314, 999)] z I21 I21) (show (60 - (0 : Int)) < (((60 - (0 : Int)).toNat + 1 : Nat) : Int) by omega)
                  · have ic14 := (xi_nle c14 (by decide) rfl : v12.toInt < 8)
                    refine lv_aload_n hx hb dX12_next_137 rfl (lv_at hl 0 rfl) ?_
                    obtain ⟨b46, rb46, tb46⟩ := hR.at a0 49 t_a0 (rfl : h_rs 13 49 = some (1349, false)) (by decide)
                    refine h_get (v := .ref b46) hx hb hts iX12 hown g t_a0 (by decide) so_13 rfl 49 (by decide) (hts (.fieldLink RX12 112 "CapLeagueModel" "purse" "[I") (by decide +kernel)) rfl dX12_next_138 (by show va_rf (z.R a0 49) = _; rw [rb46]; rfl) ?_
                    refine lv_iload hx hb dX12_next_141 (lv_at hl 5 rfl) ?_
                    refine lv_dup2_11 hx hb dX12_next_143 rfl rfl ?_
                    refine h_ald hx hb g tb46 (by decide) so_1349 (xi_in (by omega) (by omega)) dX12_next_144 ?_
                    refine lv_topi (fun v47 ev47 => ?_)
                    have jv47 := hI.rd b46 v12.toNatClampNeg tb46 ev47 (rfl : h_bd 1349 _ = ((-2147483648), 2147483647))
                    refine lv_iload_n hx hb dX12_next_145 rfl (lv_at hl 2 rfl) ?_
                    refine lv_iload hx hb dX12_next_146 (lv_at hl 5 rfl) ?_
                    refine lv_ishr hx hb dX12_next_148 ?_
                    refine lv_topi (fun v48 ev48 => ?_)
                    have jv48 : -2147483648 ≤ v48.toInt ∧ v48.toInt ≤ 2147483647 := ⟨xi_lo _, Int.le_of_lt_add_one (xi_hi _)⟩
                    refine lv_iconst (v := 1) hx hb dX12_next_149 (by decide) ?_
                    refine lv_iand hx hb dX12_next_150 ?_
                    refine lv_topi (fun v49 ev49 => ?_)
                    have jv49 : 0 ≤ v49.toInt ∧ v49.toInt ≤ 1 := h_andn 1 (by decide) ev49
                    refine lv_iconst (v := 1) hx hb dX12_next_151 (by decide) ?_
                    refine lv_icmp_ne (tgt := 159) hx hb dX12_next_152 (by decide) (fun c50 => ?_) (fun c50 => ?_)
                    · have ic50 := (xi_ne c50 rfl (by decide) : v49.toInt ≠ 1)
                      refine lv_iload hx hb dX12_next_159 (lv_at hl 4 rfl) ?_
                      refine lv_isub hx hb dX12_next_161 ?_
                      refine lv_topi (fun v51 ev51 => ?_)
                      have jv51 : -2147483648 ≤ v51.toInt ∧ v51.toInt ≤ 2147483647 := ⟨xi_lo _, Int.le_of_lt_add_one (xi_hi _)⟩
                      refine h_ast hx hb g tb46 (by decide) so_1349 (xi_in (by omega) (by omega)) dX12_next_162 (fun I52 H locs eI52 g => ?_)
                      have hI := hI.wr eI52 tb46 (rfl : h_bd 1349 _ = ((-2147483648), 2147483647)) (xi_lo _) (Int.le_of_lt_add_one (xi_hi _))
                      have hF := hF.wr eI52 tb46 rfl
                      obtain ⟨v53, ev53⟩ : ∃ z : Int32, z = v12 + 1 := ⟨_, rfl⟩
                      have jv53 : v53.toInt = v12.toInt + 1 := xi_add ev53 rfl (by decide) (by omega) (by omega)
                      refine lv_iinc (v := v53) (lv' := [(5, .int v53), (0, .ref a0), (1, .int v3), (2, .int v4), (3, .int v9), (4, .int v11)]) hx hb dX12_next_163 hl (k := 5) rfl (by rw [ev53]; rfl) (by decide) rfl (fun ls hl => ?_)
                      refine lv_goto (tgt := 130) hx hb dX12_next_166 (by decide) ?_
                      exact ih130 I52 _ _ _ v53 g hI hF (lv_sub hl [1, 2, 3, 4, 5, 0] rfl) (by omega) (h_F.wr (h_F.call (h_F.rf : h_F [(1349, 999)] z I6 I6) hL130 rfl) eI52 tb46 rfl) (by omega)
                    · have ic50 := (xi_eq c50 rfl (by decide) : v49.toInt = 1)
                      refine lv_iconst (v := 0) hx hb dX12_next_155 (by decide) ?_
                      refine lv_goto (tgt := 161) hx hb dX12_next_156 (by decide) ?_
                      refine lv_isub hx hb dX12_next_161 ?_
                      refine lv_topi (fun v54 ev54 => ?_)
                      have jv54 : v54.toInt = v47.toInt - 0 := xi_sub ev54 rfl (by decide) (by omega) (by omega)
                      refine h_ast hx hb g tb46 (by decide) so_1349 (xi_in (by omega) (by omega)) dX12_next_162 (fun I55 H locs eI55 g => ?_)
                      have hI := hI.wr eI55 tb46 (rfl : h_bd 1349 _ = ((-2147483648), 2147483647)) (xi_lo _) (Int.le_of_lt_add_one (xi_hi _))
                      have hF := hF.wr eI55 tb46 rfl
                      obtain ⟨v56, ev56⟩ : ∃ z : Int32, z = v12 + 1 := ⟨_, rfl⟩
                      have jv56 : v56.toInt = v12.toInt + 1 := xi_add ev56 rfl (by decide) (by omega) (by omega)
                      refine lv_iinc (v := v56) (lv' := [(5, .int v56), (0, .ref a0), (1, .int v3), (2, .int v4), (3, .int v9), (4, .int v11)]) hx hb dX12_next_163 hl (k := 5) rfl (by rw [ev56]; rfl) (by decide) rfl (fun ls hl => ?_)
                      refine lv_goto (tgt := 130) hx hb dX12_next_166 (by decide) ?_
                      exact ih130 I55 _ _ _ v56 g hI hF (lv_sub hl [1, 2, 3, 4, 5, 0] rfl) (by omega) (h_F.wr (h_F.call (h_F.rf : h_F [(1349, 999)] z I6 I6) hL130 rfl) eI55 tb46 rfl) (by omega)
              exact loop130_1 _ I6 _ _ _ (0) g hI hF (lv_sub hl [3, 4, 5, 2, 1, 0] rfl) ⟨by decide, by decide⟩ (h_F.rf : h_F [(1349, 999)] z I6 I6) (show (8 - (0 : Int)) < (((8 - (0 : Int)).toNat + 1 : Nat) : Int) by omega)
            · have ic10 := (xi_eq c10 rfl (by decide) : v9.toInt = 0)
              refine lv_iconst (v := 0) hx hb dX12_next_118 (by decide) ?_
              refine lv_goto (tgt := 125) hx hb dX12_next_119 (by decide) ?_
              refine lv_istore (lv' := [(4, .int 0), (3, .int v9), (0, .ref a0), (1, .int v3), (2, .int v4)]) hx hb dX12_next_125 hl (by decide) rfl (fun ls hl => ?_)
              refine lv_iconst (v := 0) hx hb dX12_next_127 (by decide) ?_
              refine lv_istore (lv' := [(5, .int 0), (4, .int 0), (3, .int v9), (0, .ref a0), (1, .int v3), (2, .int v4)]) hx hb dX12_next_128 hl (by decide) rfl (fun ls hl => ?_)
              have loop130_4 : ∀ (n : Nat) (I58 : tI) (H : Heap) (locs : List Loc) (ls : Array Slot) (v57 : Int32), h_G h_so h_fk E A z I58 L0 s s.heap H locs → h_I z I58 → h_F [(1349, 999), (13, 50), (13, 12), (1322, 999), (1314, 999), (1324, 999), (13, 30), (13, 31), (13, 33)] z I0 I58 → lv_has ls 6 [(0, .ref a0), (1, .int v3), (2, .int v4), (3, .int v9), (4, .int 0), (5, .int v57)] → (0 ≤ v57.toInt ∧ v57.toInt ≤ 8) → h_F [(1349, 999)] z I6 I58 → (8 - v57.toInt) < (n : Int) → W pr_ l ev_ (headSpec wsX12_next ({ frames := 5, cells := 0, slots := 0, locals := 320 })).room s m ([.ref a0] : List Value).toArray below meth cd_ H locs 0 0 (MQ below (va_Qi (fun r (I1 : tI) => h_I z I1 ∧ h_F [(1349, 999), (13, 50), (13, 12), (1322, 999), (1314, 999), (1324, 999), (13, 30), (13, 31), (13, 33)] z I0 I1 ∧ ((I1 a0 30).toInt = 1 → (I0 a0 30).toInt = 1) ∧ (((9 ≤ (I0 a0 12).toInt ∨ (I0 a0 31).toInt = 0) ∧ r.toInt = -4 ∧ I1 a0 12 = I0 a0 12 ∧ I1 a0 30 = I0 a0 30 ∧ I1 a0 31 = I0 a0 31) ∨ ((I0 a0 12).toInt ≤ 8 ∧ (I0 a0 31).toInt = 1 ∧ r.toInt = (I0 a0 12).toInt + 1 ∧ (I1 a0 12).toInt = (I0 a0 12).toInt + 1 ∧ I1 a0 30 = 0 ∧ I1 a0 31 = 0))) (fun (I1 : tI) t => h_B E A z I1 L0 t) A) ([.ref a0] : List Value).toArray s 0 0 A) (F0 m 130 ls []) := by
                intro n
                induction n with
                | zero => intro I58 H locs ls v57 g hI hF hl jv57 hL130 hn; exact absurd hn (by omega)
                | succ n ih130 =>
                  intro I58 H locs ls v57 g hI hF hl jv57 hL130 hn
                  refine lv_iload hx hb dX12_next_130 (lv_at hl 5 rfl) ?_
                  refine lv_bipush (v := 8) hx hb dX12_next_132 (by decide) ?_
                  refine lv_icmp_ge (tgt := 169) hx hb dX12_next_134 (by decide) (fun c59 => ?_) (fun c59 => ?_)
                  · have ic59 := (xi_le c59 (by decide) rfl : 8 ≤ v57.toInt)
                    refine lv_aload_n hx hb dX12_next_169 rfl (lv_at hl 0 rfl) ?_
                    refine lv_dup hx hb dX12_next_170 rfl ?_
                    refine h_get (v := .int (I58 a0 50)) hx hb hts iX12 hown g t_a0 (by decide) so_13 rfl 50 (by decide) (hts (.fieldLink RX12 329 "CapLeagueModel" "league" "I") (by decide +kernel)) rfl dX12_next_171 rfl ?_
                    refine lv_topi (fun v60 ev60 => ?_)
                    have jv60 := hI.rd a0 50 t_a0 ev60 (rfl : h_bd 13 50 = ((-2147483648), 2147483647))
                    refine lv_iload_n hx hb dX12_next_174 rfl (lv_at hl 1 rfl) ?_
                    refine lv_iload hx hb dX12_next_175 (lv_at hl 4 rfl) ?_
                    refine lv_iload_n hx hb dX12_next_177 rfl (lv_at hl 3 rfl) ?_
                    refine lv_imul hx hb dX12_next_178 ?_
                    refine lv_topi (fun v61 ev61 => ?_)
                    have jv61 : v61.toInt = 0 * v9.toInt := xi_mul ev61 (by decide) rfl (by omega) (by omega)
                    refine lv_isub hx hb dX12_next_179 ?_
                    refine lv_topi (fun v62 ev62 => ?_)
                    have jv62 : v62.toInt = v3.toInt - v61.toInt := xi_sub ev62 rfl rfl (by omega) (by omega)
                    refine lv_iadd hx hb dX12_next_180 ?_
                    refine lv_topi (fun v63 ev63 => ?_)
                    have jv63 : -2147483648 ≤ v63.toInt ∧ v63.toInt ≤ 2147483647 := ⟨xi_lo _, Int.le_of_lt_add_one (xi_hi _)⟩
                    refine h_putI (ty := .int) (v := v63) hx hb hts iX12 tyX12 tyX12_ok nmX12 hown g t_a0 (by decide) so_13 rfl 50 (by decide) rfl (hts (.fieldLink RX12 329 "CapLeagueModel" "league" "I") (by decide +kernel)) rfl rfl (by decide +kernel) rfl rfl dX12_next_181 (fun I64 H locs eI64 g => ?_)
                    have hI := hI.wr eI64 t_a0 (rfl : h_bd 13 50 = ((-2147483648), 2147483647)) (xi_lo _) (Int.le_of_lt_add_one (xi_hi _))
                    have hF := hF.wr eI64 t_a0 rfl
                    refine lv_aload_n hx hb dX12_next_184 rfl (lv_at hl 0 rfl) ?_
                    refine lv_dup hx hb dX12_next_185 rfl ?_
                    refine h_get (v := .int f0_12) hx hb hts iX12 hown g t_a0 (by decide) so_13 rfl 12 (by decide) (hts (.fieldLink RX12 187 "CapLeagueModel" "clock" "I") (by decide +kernel)) rfl dX12_next_186 (congrArg Value.int ((h_n2 eI64 (by decide)).trans ((h_F.at hL130 t_a0 rfl).trans ((h_F.at hL25 t_a0 rfl).trans (ef0_12.symm))))) ?_
                    refine lv_iconst (v := 1) hx hb dX12_next_189 (by decide) ?_
                    refine lv_iadd hx hb dX12_next_190 ?_
                    refine lv_topi (fun v65 ev65 => ?_)
                    have jv65 : v65.toInt = f0_12.toInt + 1 := xi_add ev65 rfl (by decide) (by omega) (by omega)
                    refine h_putI (ty := .int) (v := v65) hx hb hts iX12 tyX12 tyX12_ok nmX12 hown g t_a0 (by decide) so_13 rfl 12 (by decide) rfl (hts (.fieldLink RX12 187 "CapLeagueModel" "clock" "I") (by decide +kernel)) rfl rfl (by decide +kernel) rfl rfl dX12_next_191 (fun I66 H locs eI66 g => ?_)
                    have hI := hI.wr eI66 t_a0 (rfl : h_bd 13 12 = (0, 9)) (by omega) (by omega)
                    have hF := hF.wr eI66 t_a0 rfl
                    refine lv_iconst (v := 0) hx hb dX12_next_194 (by decide) ?_
                    refine lv_istore (lv' := [(5, .int 0), (0, .ref a0), (1, .int v3), (2, .int v4), (3, .int v9), (4, .int 0)]) hx hb dX12_next_195 hl (by decide) rfl (fun ls hl => ?_)
                    have loop197_5 : ∀ (n : Nat) (I68 : tI) (H : Heap) (locs : List Loc) (ls : Array Slot) (v67 : Int32), h_G h_so h_fk E A z I68 L0 s s.heap H locs → h_I z I68 → h_F [(1349, 999), (13, 50), (13, 12), (1322, 999), (1314, 999), (1324, 999), (13, 30), (13, 31), (13, 33)] z I0 I68 → lv_has ls 6 [(0, .ref a0), (5, .int v67)] → (0 ≤ v67.toInt ∧ v67.toInt ≤ 60) → h_F [(1322, 999), (1314, 999)] z I66 I68 → (60 - v67.toInt) < (n : Int) → W pr_ l ev_ (headSpec wsX12_next ({ frames := 5, cells := 0, slots := 0, locals := 320 })).room s m ([.ref a0] : List Value).toArray below meth cd_ H locs 0 0 (MQ below (va_Qi (fun r (I1 : tI) => h_I z I1 ∧ h_F [(1349, 999), (13, 50), (13, 12), (1322, 999), (1314, 999), (1324, 999), (13, 30), (13, 31), (13, 33)] z I0 I1 ∧ ((I1 a0 30).toInt = 1 → (I0 a0 30).toInt = 1) ∧ (((9 ≤ (I0 a0 12).toInt ∨ (I0 a0 31).toInt = 0) ∧ r.toInt = -4 ∧ I1 a0 12 = I0 a0 12 ∧ I1 a0 30 = I0 a0 30 ∧ I1 a0 31 = I0 a0 31) ∨ ((I0 a0 12).toInt ≤ 8 ∧ (I0 a0 31).toInt = 1 ∧ r.toInt = (I0 a0 12).toInt + 1 ∧ (I1 a0 12).toInt = (I0 a0 12).toInt + 1 ∧ I1 a0 30 = 0 ∧ I1 a0 31 = 0))) (fun (I1 : tI) t => h_B E A z I1 L0 t) A) ([.ref a0] : List Value).toArray s 0 0 A) (F0 m 197 ls []) := by
                      intro n
                      induction n with
                      | zero => intro I68 H locs ls v67 g hI hF hl jv67 hL197 hn; exact absurd hn (by omega)
                      | succ n ih197 =>
                        intro I68 H locs ls v67 g hI hF hl jv67 hL197 hn
                        refine lv_iload hx hb dX12_next_197 (lv_at hl 1 rfl) ?_
                        refine lv_aload_n hx hb dX12_next_199 rfl (lv_at hl 0 rfl) ?_
                        refine h_get (v := .int (I68 a0 13)) hx hb hts iX12 hown g t_a0 (by decide) so_13 rfl 13 (by decide) (hts (.fieldLink RX12 202 "CapLeagueModel" "players" "I") (by decide +kernel)) rfl dX12_next_200 rfl ?_
                        refine lv_topi (fun v69 ev69 => ?_)
                        have jv69 := hI.rd a0 13 t_a0 ev69 (rfl : h_bd 13 13 = (0, 60))
                        refine lv_icmp_ge (tgt := 252) hx hb dX12_next_203 (by decide) (fun c70 => ?_) (fun c70 => ?_)
                        · have ic70 := (xi_le c70 rfl rfl : v69.toInt ≤ v67.toInt)
                          refine lv_iconst (v := 0) hx hb dX12_next_252 (by decide) ?_
                          refine lv_istore (lv' := [(5, .int 0), (0, .ref a0)]) hx hb dX12_next_253 hl (by decide) rfl (fun ls hl => ?_)
                          have loop255_6 : ∀ (n : Nat) (I72 : tI) (H : Heap) (locs : List Loc) (ls : Array Slot) (v71 : Int32), h_G h_so h_fk E A z I72 L0 s s.heap H locs → h_I z I72 → h_F [(1349, 999), (13, 50), (13, 12), (1322, 999), (1314, 999), (1324, 999), (13, 30), (13, 31), (13, 33)] z I0 I72 → lv_has ls 6 [(0, .ref a0), (5, .int v71)] → (0 ≤ v71.toInt ∧ v71.toInt ≤ 8) → h_F [(1324, 999)] z I68 I72 → (8 - v71.toInt) < (n : Int) → W pr_ l ev_ (headSpec wsX12_next ({ frames := 5, cells := 0, slots := 0, locals := 320 })).room s m ([.ref a0] : List Value).toArray below meth cd_ H locs 0 0 (MQ below (va_Qi (fun r (I1 : tI) => h_I z I1 ∧ h_F [(1349, 999), (13, 50), (13, 12), (1322, 999), (1314, 999), (1324, 999), (13, 30), (13, 31), (13, 33)] z I0 I1 ∧ ((I1 a0 30).toInt = 1 → (I0 a0 30).toInt = 1) ∧ (((9 ≤ (I0 a0 12).toInt ∨ (I0 a0 31).toInt = 0) ∧ r.toInt = -4 ∧ I1 a0 12 = I0 a0 12 ∧ I1 a0 30 = I0 a0 30 ∧ I1 a0 31 = I0 a0 31) ∨ ((I0 a0 12).toInt ≤ 8 ∧ (I0 a0 31).toInt = 1 ∧ r.toInt = (I0 a0 12).toInt + 1 ∧ (I1 a0 12).toInt = (I0 a0 12).toInt + 1 ∧ I1 a0 30 = 0 ∧ I1 a0 31 = 0))) (fun (I1 : tI) t => h_B E A z I1 L0 t) A) ([.ref a0] : List Value).toArray s 0 0 A) (F0 m 255 ls []) := by
                            intro n
                            induction n with
                            | zero => intro I72 H locs ls v71 g hI hF hl jv71 hL255 hn; exact absurd hn (by omega)
                            | succ n ih255 =>
                              intro I72 H locs ls v71 g hI hF hl jv71 hL255 hn
                              refine lv_iload hx hb dX12_next_255 (lv_at hl 1 rfl) ?_
                              refine lv_bipush (v := 8) hx hb dX12_next_257 (by decide) ?_
                              refine lv_icmp_ge (tgt := 276) hx hb dX12_next_259 (by decide) (fun c73 => ?_) (fun c73 => ?_)
                              · have ic73 := (xi_le c73 (by decide) rfl : 8 ≤ v71.toInt)
                                refine lv_aload_n hx hb dX12_next_276 rfl (lv_at hl 0 rfl) ?_
                                refine lv_iconst (v := 0) hx hb dX12_next_277 (by decide) ?_
                                refine h_putI (ty := .boolean) (v := 0) hx hb hts iX12 tyX12 tyX12_ok nmX12 hown g t_a0 (by decide) so_13 rfl 30 (by decide) rfl (hts (.fieldLink RX12 306 "CapLeagueModel" "hasTable" "Z") (by decide +kernel)) rfl rfl (by decide +kernel) (by decide) (by decide) dX12_next_278 (fun I74 H locs eI74 g => ?_)
                                have hI := hI.wr eI74 t_a0 (rfl : h_bd 13 30 = (0, 1)) (by decide) (by decide)
                                have hF := hF.wr eI74 t_a0 rfl
                                refine lv_aload_n hx hb dX12_next_281 rfl (lv_at hl 0 rfl) ?_
                                refine lv_iconst (v := 0) hx hb dX12_next_282 (by decide) ?_
                                refine h_putI (ty := .boolean) (v := 0) hx hb hts iX12 tyX12 tyX12_ok nmX12 hown g t_a0 (by decide) so_13 rfl 31 (by decide) rfl (hts (.fieldLink RX12 264 "CapLeagueModel" "isDrawn" "Z") (by decide +kernel)) rfl rfl (by decide +kernel) (by decide) (by decide) dX12_next_283 (fun I75 H locs eI75 g => ?_)
                                have hI := hI.wr eI75 t_a0 (rfl : h_bd 13 31 = (0, 1)) (by decide) (by decide)
                                have hF := hF.wr eI75 t_a0 rfl
                                refine lv_aload_n hx hb dX12_next_286 rfl (lv_at hl 0 rfl) ?_
                                refine lv_iconst (v := 0) hx hb dX12_next_287 (by decide) ?_
                                refine h_putI (ty := .int) (v := 0) hx hb hts iX12 tyX12 tyX12_ok nmX12 hown g t_a0 (by decide) so_13 rfl 33 (by decide) rfl (hts (.fieldLink RX12 247 "CapLeagueModel" "moves" "I") (by decide +kernel)) rfl rfl (by decide +kernel) rfl rfl dX12_next_288 (fun I76 H locs eI76 g => ?_)
                                have hI := hI.wr eI76 t_a0 (rfl : h_bd 13 33 = (0, 12)) (by decide) (by decide)
                                have hF := hF.wr eI76 t_a0 rfl
                                refine lv_aload_n hx hb dX12_next_291 rfl (lv_at hl 0 rfl) ?_
                                refine h_get (v := .int v65) hx hb hts iX12 hown g t_a0 (by decide) so_13 rfl 12 (by decide) (hts (.fieldLink RX12 187 "CapLeagueModel" "clock" "I") (by decide +kernel)) rfl dX12_next_292 (congrArg Value.int ((h_n2 eI76 (by decide)).trans ((h_n2 eI75 (by decide)).trans ((h_n2 eI74 (by decide)).trans ((h_F.at hL255 t_a0 rfl).trans ((h_F.at hL197 t_a0 rfl).trans (h_n0 eI66))))))) ?_
                                have hS := g.2.1
                                exact W.iret (v := v65) hx hb hr (fun t ht hW => ⟨⟨v65, I76, rfl, ⟨hI, hF, ⟨(by have q1_30 : (I76 a0 30).toInt = 0 := (congrArg Int32.toInt ((h_n2 eI76 (by decide)).trans ((h_n2 eI75 (by decide)).trans (h_n0 eI74)))).trans (by decide); omega), (by rw [qf0_12, qf0_31]; exact Or.inr ⟨by omega, by omega, by omega, by rw [show I76 a0 12 = v65 from (h_n2 eI76 (by decide)).trans ((h_n2 eI75 (by decide)).trans ((h_n2 eI74 (by decide)).trans ((h_F.at hL255 t_a0 rfl).trans ((h_F.at hL197 t_a0 rfl).trans (h_n0 eI66)))))]; omega, (h_n2 eI76 (by decide)).trans ((h_n2 eI75 (by decide)).trans (h_n0 eI74)), (h_n2 eI76 (by decide)).trans (h_n0 eI75)⟩)⟩⟩, h_ret g ht⟩, hS.F ht⟩) hS.2.2 dX12_next_295
                              · have ic73 := (xi_nle c73 (by decide) rfl : v71.toInt < 8)
                                refine lv_aload_n hx hb dX12_next_262 rfl (lv_at hl 0 rfl) ?_
                                obtain ⟨b77, rb77, tb77⟩ := hR.at a0 24 t_a0 (rfl : h_rs 13 24 = some (1324, false)) (by decide)
                                refine h_get (v := .ref b77) hx hb hts iX12 hown g t_a0 (by decide) so_13 rfl 24 (by decide) (hts (.fieldLink RX12 55 "CapLeagueModel" "usedSpare" "[Z") (by decide +kernel)) rfl dX12_next_263 (by show va_rf (z.R a0 24) = _; rw [rb77]; rfl) ?_
                                refine lv_iload hx hb dX12_next_266 (lv_at hl 1 rfl) ?_
                                refine lv_iconst (v := 0) hx hb dX12_next_268 (by decide) ?_
                                refine h_zast hx hb g tb77 (by decide) so_1324 (xi_in (by omega) (by omega)) dX12_next_269 (fun I78 H locs eI78 g => ?_)
                                rw [h_nz (by decide) (by decide)] at eI78
                                have hI := hI.wr eI78 tb77 (rfl : h_bd 1324 _ = (0, 1)) (by decide) (by decide)
                                have hF := hF.wr eI78 tb77 rfl
                                obtain ⟨v79, ev79⟩ : ∃ z : Int32, z = v71 + 1 := ⟨_, rfl⟩
                                have jv79 : v79.toInt = v71.toInt + 1 := xi_add ev79 rfl (by decide) (by omega) (by omega)
                                refine lv_iinc (v := v79) (lv' := [(5, .int v79), (0, .ref a0)]) hx hb dX12_next_270 hl (k := 1) rfl (by rw [ev79]; rfl) (by decide) rfl (fun ls hl => ?_)
                                refine lv_goto (tgt := 255) hx hb dX12_next_273 (by decide) ?_
                                exact ih255 I78 _ _ _ v79 g hI hF (lv_sub hl [1, 0] rfl) (by omega) (h_F.wr (h_F.call (h_F.rf : h_F [(1324, 999)] z I68 I68) hL255 rfl) eI78 tb77 rfl) (by omega)
                          exact loop255_6 _ I68 _ _ _ (0) g hI hF (lv_sub hl [1, 0] rfl) ⟨by decide, by decide⟩ (h_F.rf : h_F [(1324, 999)] z I68 I68) (show (8 - (0 : Int)) < (((8 - (0 : Int)).toNat + 1 : Nat) : Int) by omega)
                        · have ic70 := (xi_nle c70 rfl rfl : v67.toInt < v69.toInt)
                          refine lv_aload_n hx hb dX12_next_206 rfl (lv_at hl 0 rfl) ?_
                          obtain ⟨b80, rb80, tb80⟩ := hR.at a0 22 t_a0 (rfl : h_rs 13 22 = some (1322, false)) (by decide)
                          refine h_get (v := .ref b80) hx hb hts iX12 hown g t_a0 (by decide) so_13 rfl 22 (by decide) (hts (.fieldLink RX12 49 "CapLeagueModel" "isHurt" "[Z") (by decide +kernel)) rfl dX12_next_207 (by show va_rf (z.R a0 22) = _; rw [rb80]; rfl) ?_
                          refine lv_iload hx hb dX12_next_210 (lv_at hl 1 rfl) ?_
                          refine lv_iconst (v := 0) hx hb dX12_next_212 (by decide) ?_
                          refine h_zast hx hb g tb80 (by decide) so_1322 (xi_in (by omega) (by omega)) dX12_next_213 (fun I81 H locs eI81 g => ?_)
                          rw [h_nz (by decide) (by decide)] at eI81
                          have hI := hI.wr eI81 tb80 (rfl : h_bd 1322 _ = (0, 1)) (by decide) (by decide)
                          have hF := hF.wr eI81 tb80 rfl
                          refine lv_aload_n hx hb dX12_next_214 rfl (lv_at hl 0 rfl) ?_
                          obtain ⟨b82, rb82, tb82⟩ := hR.at a0 14 t_a0 (rfl : h_rs 13 14 = some (1314, false)) (by decide)
                          refine h_get (v := .ref b82) hx hb hts iX12 hown g t_a0 (by decide) so_13 rfl 14 (by decide) (hts (.fieldLink RX12 25 "CapLeagueModel" "clubOf" "[I") (by decide +kernel)) rfl dX12_next_215 (by show va_rf (z.R a0 14) = _; rw [rb82]; rfl) ?_
                          refine lv_iload hx hb dX12_next_218 (lv_at hl 1 rfl) ?_
                          refine h_ald hx hb g tb82 (by decide) so_1314 (xi_in (by omega) (by omega)) dX12_next_220 ?_
                          refine lv_topi (fun v83 ev83 => ?_)
                          have jv83 := hI.rd b82 v67.toNatClampNeg tb82 ev83 (rfl : h_bd 1314 _ = ((-1), 7))
                          refine lv_iconst (v := (-1)) hx hb dX12_next_221 (by decide) ?_
                          refine lv_icmp_eq (tgt := 246) hx hb dX12_next_222 (by decide) (fun c84 => ?_) (fun c84 => ?_)
                          · have ic84 := (xi_eq c84 rfl (by decide) : v83.toInt = (-1))
                            obtain ⟨v85, ev85⟩ : ∃ z : Int32, z = v67 + 1 := ⟨_, rfl⟩
                            have jv85 : v85.toInt = v67.toInt + 1 := xi_add ev85 rfl (by decide) (by omega) (by omega)
                            refine lv_iinc (v := v85) (lv' := [(5, .int v85), (0, .ref a0)]) hx hb dX12_next_246 hl (k := 1) rfl (by rw [ev85]; rfl) (by decide) rfl (fun ls hl => ?_)
                            refine lv_goto (tgt := 197) hx hb dX12_next_249 (by decide) ?_
                            exact ih197 I81 _ _ _ v85 g hI hF (lv_sub hl [1, 0] rfl) (by omega) (h_F.wr (h_F.call (h_F.rf : h_F [(1322, 999), (1314, 999)] z I66 I66) hL197 rfl) eI81 tb80 rfl) (by omega)
                          · have ic84 := (xi_ne c84 rfl (by decide) : v83.toInt ≠ (-1))
                            refine lv_aload_n hx hb dX12_next_225 rfl (lv_at hl 0 rfl) ?_
                            refine lv_iload hx hb dX12_next_226 (lv_at hl 1 rfl) ?_
                            refine lv_aload_n hx hb dX12_next_228 rfl (lv_at hl 0 rfl) ?_
                            refine h_get (v := .int v65) hx hb hts iX12 hown g t_a0 (by decide) so_13 rfl 12 (by decide) (hts (.fieldLink RX12 187 "CapLeagueModel" "clock" "I") (by decide +kernel)) rfl dX12_next_229 (congrArg Value.int ((h_n1 eI81 t_a0 tb80 (by decide)).trans ((h_F.at hL197 t_a0 rfl).trans (h_n0 eI66)))) ?_
                            refine vp_callSi (W.runV (As := [.int v67, .int v65]) (rest := []) ⟨hx, hb, hml, hown, hts⟩ (tX12_isUnder l E X A z I81 L0 a0 t_a0 v67 (v67.toInt) rfl (by omega) v65 (v65.toInt) rfl) (cwV 2 hts gX12_next_X12_isUnder rfl rfl rfl (by decide +kernel) ⟨Nat.le_of_ble_eq_true rfl, Nat.le_of_ble_eq_true rfl⟩) ⟨h_blind _ _ _ _ _ _ _, h_recv g t_a0 (by decide) so_13 (q := (RX12, TX12, 51)) rfl, h_pre _ hE hk hX hA hI hR g⟩ rfl rfl hl.1 rfl (lv_room (Nat.le_of_ble_eq_true rfl)) dX12_next_232 ⟨Nat.le_of_ble_eq_true rfl, Nat.le_of_ble_eq_true rfl⟩) (fun rh86 h86 => ?_)
                            refine lv_if_ne (tgt := 246) hx hb dX12_next_235 (by decide) (fun c87 => ?_) (fun c87 => ?_)
                            · have ic87 := (xi_ne c87 rfl (by decide) : rh86.toInt ≠ 0)
                              obtain ⟨v88, ev88⟩ : ∃ z : Int32, z = v67 + 1 := ⟨_, rfl⟩
                              have jv88 : v88.toInt = v67.toInt + 1 := xi_add ev88 rfl (by decide) (by omega) (by omega)
                              refine lv_iinc (v := v88) (lv' := [(5, .int v88), (0, .ref a0)]) hx hb dX12_next_246 hl (k := 1) rfl (by rw [ev88]; rfl) (by decide) rfl (fun ls hl => ?_)
                              refine lv_goto (tgt := 197) hx hb dX12_next_249 (by decide) ?_
                              exact ih197 I81 _ _ _ v88 g hI hF (lv_sub hl [1, 0] rfl) (by omega) (h_F.wr (h_F.call (h_F.rf : h_F [(1322, 999), (1314, 999)] z I66 I66) hL197 rfl) eI81 tb80 rfl) (by omega)
                            · have ic87 := (xi_eq c87 rfl (by decide) : rh86.toInt = 0)
                              refine lv_aload_n hx hb dX12_next_238 rfl (lv_at hl 0 rfl) ?_
                              refine h_get (v := .ref b82) hx hb hts iX12 hown g t_a0 (by decide) so_13 rfl 14 (by decide) (hts (.fieldLink RX12 25 "CapLeagueModel" "clubOf" "[I") (by decide +kernel)) rfl dX12_next_239 (by show va_rf (z.R a0 14) = _; rw [rb82]; rfl) ?_
                              refine lv_iload hx hb dX12_next_242 (lv_at hl 1 rfl) ?_
                              refine lv_iconst (v := (-1)) hx hb dX12_next_244 (by decide) ?_
                              refine h_ast hx hb g tb82 (by decide) so_1314 (xi_in (by omega) (by omega)) dX12_next_245 (fun I89 H locs eI89 g => ?_)
                              have hI := hI.wr eI89 tb82 (rfl : h_bd 1314 _ = ((-1), 7)) (by decide) (by decide)
                              have hF := hF.wr eI89 tb82 rfl
                              obtain ⟨v90, ev90⟩ : ∃ z : Int32, z = v67 + 1 := ⟨_, rfl⟩
                              have jv90 : v90.toInt = v67.toInt + 1 := xi_add ev90 rfl (by decide) (by omega) (by omega)
                              refine lv_iinc (v := v90) (lv' := [(5, .int v90), (0, .ref a0)]) hx hb dX12_next_246 hl (k := 1) rfl (by rw [ev90]; rfl) (by decide) rfl (fun ls hl => ?_)
                              refine lv_goto (tgt := 197) hx hb dX12_next_249 (by decide) ?_
                              exact ih197 I89 _ _ _ v90 g hI hF (lv_sub hl [1, 0] rfl) (by omega) (h_F.wr (h_F.wr (h_F.call (h_F.rf : h_F [(1322, 999), (1314, 999)] z I66 I66) hL197 rfl) eI81 tb80 rfl) eI89 tb82 rfl) (by omega)
                    exact loop197_5 _ I66 _ _ _ (0) g hI hF (lv_sub hl [1, 0] rfl) ⟨by decide, by decide⟩ (h_F.rf : h_F [(1322, 999), (1314, 999)] z I66 I66) (show (60 - (0 : Int)) < (((60 - (0 : Int)).toNat + 1 : Nat) : Int) by omega)
                  · have ic59 := (xi_nle c59 (by decide) rfl : v57.toInt < 8)
                    refine lv_aload_n hx hb dX12_next_137 rfl (lv_at hl 0 rfl) ?_
                    obtain ⟨b91, rb91, tb91⟩ := hR.at a0 49 t_a0 (rfl : h_rs 13 49 = some (1349, false)) (by decide)
                    refine h_get (v := .ref b91) hx hb hts iX12 hown g t_a0 (by decide) so_13 rfl 49 (by decide) (hts (.fieldLink RX12 112 "CapLeagueModel" "purse" "[I") (by decide +kernel)) rfl dX12_next_138 (by show va_rf (z.R a0 49) = _; rw [rb91]; rfl) ?_
                    refine lv_iload hx hb dX12_next_141 (lv_at hl 5 rfl) ?_
                    refine lv_dup2_11 hx hb dX12_next_143 rfl rfl ?_
                    refine h_ald hx hb g tb91 (by decide) so_1349 (xi_in (by omega) (by omega)) dX12_next_144 ?_
                    refine lv_topi (fun v92 ev92 => ?_)
                    have jv92 := hI.rd b91 v57.toNatClampNeg tb91 ev92 (rfl : h_bd 1349 _ = ((-2147483648), 2147483647))
                    refine lv_iload_n hx hb dX12_next_145 rfl (lv_at hl 2 rfl) ?_
                    refine lv_iload hx hb dX12_next_146 (lv_at hl 5 rfl) ?_
                    refine lv_ishr hx hb dX12_next_148 ?_
                    refine lv_topi (fun v93 ev93 => ?_)
                    have jv93 : -2147483648 ≤ v93.toInt ∧ v93.toInt ≤ 2147483647 := ⟨xi_lo _, Int.le_of_lt_add_one (xi_hi _)⟩
                    refine lv_iconst (v := 1) hx hb dX12_next_149 (by decide) ?_
                    refine lv_iand hx hb dX12_next_150 ?_
                    refine lv_topi (fun v94 ev94 => ?_)
                    have jv94 : 0 ≤ v94.toInt ∧ v94.toInt ≤ 1 := h_andn 1 (by decide) ev94
                    refine lv_iconst (v := 1) hx hb dX12_next_151 (by decide) ?_
                    refine lv_icmp_ne (tgt := 159) hx hb dX12_next_152 (by decide) (fun c95 => ?_) (fun c95 => ?_)
                    · have ic95 := (xi_ne c95 rfl (by decide) : v94.toInt ≠ 1)
                      refine lv_iload hx hb dX12_next_159 (lv_at hl 4 rfl) ?_
                      refine lv_isub hx hb dX12_next_161 ?_
                      refine lv_topi (fun v96 ev96 => ?_)
                      have jv96 : v96.toInt = v92.toInt - 0 := xi_sub ev96 rfl (by decide) (by omega) (by omega)
                      refine h_ast hx hb g tb91 (by decide) so_1349 (xi_in (by omega) (by omega)) dX12_next_162 (fun I97 H locs eI97 g => ?_)
                      have hI := hI.wr eI97 tb91 (rfl : h_bd 1349 _ = ((-2147483648), 2147483647)) (xi_lo _) (Int.le_of_lt_add_one (xi_hi _))
                      have hF := hF.wr eI97 tb91 rfl
                      obtain ⟨v98, ev98⟩ : ∃ z : Int32, z = v57 + 1 := ⟨_, rfl⟩
                      have jv98 : v98.toInt = v57.toInt + 1 := xi_add ev98 rfl (by decide) (by omega) (by omega)
                      refine lv_iinc (v := v98) (lv' := [(5, .int v98), (0, .ref a0), (1, .int v3), (2, .int v4), (3, .int v9), (4, .int 0)]) hx hb dX12_next_163 hl (k := 5) rfl (by rw [ev98]; rfl) (by decide) rfl (fun ls hl => ?_)
                      refine lv_goto (tgt := 130) hx hb dX12_next_166 (by decide) ?_
                      exact ih130 I97 _ _ _ v98 g hI hF (lv_sub hl [1, 2, 3, 4, 5, 0] rfl) (by omega) (h_F.wr (h_F.call (h_F.rf : h_F [(1349, 999)] z I6 I6) hL130 rfl) eI97 tb91 rfl) (by omega)
                    · have ic95 := (xi_eq c95 rfl (by decide) : v94.toInt = 1)
                      refine lv_iconst (v := 0) hx hb dX12_next_155 (by decide) ?_
                      refine lv_goto (tgt := 161) hx hb dX12_next_156 (by decide) ?_
                      refine lv_isub hx hb dX12_next_161 ?_
                      refine lv_topi (fun v99 ev99 => ?_)
                      have jv99 : v99.toInt = v92.toInt - 0 := xi_sub ev99 rfl (by decide) (by omega) (by omega)
                      refine h_ast hx hb g tb91 (by decide) so_1349 (xi_in (by omega) (by omega)) dX12_next_162 (fun I100 H locs eI100 g => ?_)
                      have hI := hI.wr eI100 tb91 (rfl : h_bd 1349 _ = ((-2147483648), 2147483647)) (xi_lo _) (Int.le_of_lt_add_one (xi_hi _))
                      have hF := hF.wr eI100 tb91 rfl
                      obtain ⟨v101, ev101⟩ : ∃ z : Int32, z = v57 + 1 := ⟨_, rfl⟩
                      have jv101 : v101.toInt = v57.toInt + 1 := xi_add ev101 rfl (by decide) (by omega) (by omega)
                      refine lv_iinc (v := v101) (lv' := [(5, .int v101), (0, .ref a0), (1, .int v3), (2, .int v4), (3, .int v9), (4, .int 0)]) hx hb dX12_next_163 hl (k := 5) rfl (by rw [ev101]; rfl) (by decide) rfl (fun ls hl => ?_)
                      refine lv_goto (tgt := 130) hx hb dX12_next_166 (by decide) ?_
                      exact ih130 I100 _ _ _ v101 g hI hF (lv_sub hl [1, 2, 3, 4, 5, 0] rfl) (by omega) (h_F.wr (h_F.call (h_F.rf : h_F [(1349, 999)] z I6 I6) hL130 rfl) eI100 tb91 rfl) (by omega)
              exact loop130_4 _ I6 _ _ _ (0) g hI hF (lv_sub hl [3, 4, 5, 2, 1, 0] rfl) ⟨by decide, by decide⟩ (h_F.rf : h_F [(1349, 999)] z I6 I6) (show (8 - (0 : Int)) < (((8 - (0 : Int)).toNat + 1 : Nat) : Int) by omega)
          · have ic7 := (xi_nle c7 (by decide) rfl : v5.toInt < 8)
            refine lv_aload_n hx hb dX12_next_31 rfl (lv_at hl 0 rfl) ?_
            refine lv_iload_n hx hb dX12_next_32 rfl (lv_at hl 3 rfl) ?_
            refine lv_aload_n hx hb dX12_next_33 rfl (lv_at hl 0 rfl) ?_
            refine h_get (v := .int f0_12) hx hb hts iX12 hown g t_a0 (by decide) so_13 rfl 12 (by decide) (hts (.fieldLink RX12 187 "CapLeagueModel" "clock" "I") (by decide +kernel)) rfl dX12_next_34 (congrArg Value.int ((h_F.at hL25 t_a0 rfl).trans (ef0_12.symm))) ?_
            refine vp_callSi (W.runV (As := [.int v5, .int f0_12]) (rest := []) ⟨hx, hb, hml, hown, hts⟩ (tX12_counts l E X A z I6 L0 a0 t_a0 v5 (v5.toInt) rfl (by omega) f0_12 (f0_12.toInt) rfl (by omega)) (cwV 2 hts gX12_next_X12_counts rfl rfl rfl (by decide +kernel) ⟨Nat.le_of_ble_eq_true rfl, Nat.le_of_ble_eq_true rfl⟩) ⟨h_blind _ _ _ _ _ _ _, h_recv g t_a0 (by decide) so_13 (q := (RX12, TX12, 51)) rfl, h_pre _ hE hk hX hA hI hR g⟩ rfl rfl hl.1 rfl (lv_room (Nat.le_of_ble_eq_true rfl)) dX12_next_37 ⟨Nat.le_of_ble_eq_true rfl, Nat.le_of_ble_eq_true rfl⟩) (fun rh102 h102 => ?_)
            have jrh102 : -2147483648 ≤ rh102.toInt ∧ rh102.toInt ≤ 2147483647 := ⟨xi_lo _, Int.le_of_lt_add_one (xi_hi _)⟩
            refine lv_aload_n hx hb dX12_next_40 rfl (lv_at hl 0 rfl) ?_
            refine lv_aload_n hx hb dX12_next_41 rfl (lv_at hl 0 rfl) ?_
            refine h_get (v := .int f0_12) hx hb hts iX12 hown g t_a0 (by decide) so_13 rfl 12 (by decide) (hts (.fieldLink RX12 187 "CapLeagueModel" "clock" "I") (by decide +kernel)) rfl dX12_next_42 (congrArg Value.int ((h_F.at hL25 t_a0 rfl).trans (ef0_12.symm))) ?_
            refine lv_iconst (v := 0) hx hb dX12_next_45 (by decide) ?_
            refine vp_callSi (W.runV (As := [.int f0_12, .int 0]) (rest := [.int rh102]) ⟨hx, hb, hml, hown, hts⟩ (tX12_lawOf l E X A z I6 L0 a0 t_a0 f0_12 (f0_12.toInt) rfl (by omega) 0 (0) (by decide) (by omega)) (cwV 2 hts gX12_next_X12_lawOf rfl rfl rfl (by decide +kernel) ⟨Nat.le_of_ble_eq_true rfl, Nat.le_of_ble_eq_true rfl⟩) ⟨h_blind _ _ _ _ _ _ _, h_recv g t_a0 (by decide) so_13 (q := (RX12, TX12, 51)) rfl, h_pre _ hE hk hX hA hI hR g⟩ rfl rfl hl.1 rfl (lv_room (Nat.le_of_ble_eq_true rfl)) dX12_next_46 ⟨Nat.le_of_ble_eq_true rfl, Nat.le_of_ble_eq_true rfl⟩) (fun rh103 h103 => ?_)
            have jrh103 : -2147483648 ≤ rh103.toInt ∧ rh103.toInt ≤ 2147483647 := ⟨xi_lo _, Int.le_of_lt_add_one (xi_hi _)⟩
            refine lv_isub hx hb dX12_next_49 ?_
            refine lv_topi (fun v104 ev104 => ?_)
            have jv104 : -2147483648 ≤ v104.toInt ∧ v104.toInt ≤ 2147483647 := ⟨xi_lo _, Int.le_of_lt_add_one (xi_hi _)⟩
            refine lv_istore (lv' := [(4, .int v104), (0, .ref a0), (1, .int v3), (2, .int v4), (3, .int v5)]) hx hb dX12_next_50 hl (by decide) rfl (fun ls hl => ?_)
            refine lv_iload hx hb dX12_next_52 (lv_at hl 0 rfl) ?_
            refine lv_if_gt (tgt := 60) hx hb dX12_next_54 (by decide) (fun c105 => ?_) (fun c105 => ?_)
            · have ic105 := (xi_lt c105 (by decide) rfl : 0 < v104.toInt)
              refine lv_iload_n hx hb dX12_next_60 rfl (lv_at hl 3 rfl) ?_
              refine lv_iconst (v := 1) hx hb dX12_next_61 (by decide) ?_
              refine lv_iload_n hx hb dX12_next_62 rfl (lv_at hl 4 rfl) ?_
              refine lv_ishl hx hb dX12_next_63 ?_
              refine lv_topi (fun v106 ev106 => ?_)
              have jv106 : -2147483648 ≤ v106.toInt ∧ v106.toInt ≤ 2147483647 := ⟨xi_lo _, Int.le_of_lt_add_one (xi_hi _)⟩
              refine lv_ior hx hb dX12_next_64 ?_
              refine lv_topi (fun v107 ev107 => ?_)
              have jv107 : -2147483648 ≤ v107.toInt ∧ v107.toInt ≤ 2147483647 := ⟨xi_lo _, Int.le_of_lt_add_one (xi_hi _)⟩
              refine lv_istore_n (lv' := [(2, .int v107), (4, .int v104), (0, .ref a0), (1, .int v3), (3, .int v5)]) hx hb dX12_next_65 rfl hl (by decide) rfl (fun ls hl => ?_)
              refine lv_iload hx hb dX12_next_66 (lv_at hl 1 rfl) ?_
              refine lv_aload_n hx hb dX12_next_68 rfl (lv_at hl 2 rfl) ?_
              refine lv_aload_n hx hb dX12_next_69 rfl (lv_at hl 2 rfl) ?_
              refine h_get (v := .int f0_12) hx hb hts iX12 hown g t_a0 (by decide) so_13 rfl 12 (by decide) (hts (.fieldLink RX12 187 "CapLeagueModel" "clock" "I") (by decide +kernel)) rfl dX12_next_70 (congrArg Value.int ((h_F.at hL25 t_a0 rfl).trans (ef0_12.symm))) ?_
              refine lv_bipush (v := 7) hx hb dX12_next_73 (by decide) ?_
              refine vp_callSi (W.runV (As := [.int f0_12, .int 7]) (rest := [.int v104]) ⟨hx, hb, hml, hown, hts⟩ (tX12_lawOf l E X A z I6 L0 a0 t_a0 f0_12 (f0_12.toInt) rfl (by omega) 7 (7) (by decide) (by omega)) (cwV 2 hts gX12_next_X12_lawOf rfl rfl rfl (by decide +kernel) ⟨Nat.le_of_ble_eq_true rfl, Nat.le_of_ble_eq_true rfl⟩) ⟨h_blind _ _ _ _ _ _ _, h_recv g t_a0 (by decide) so_13 (q := (RX12, TX12, 51)) rfl, h_pre _ hE hk hX hA hI hR g⟩ rfl rfl hl.1 rfl (lv_room (Nat.le_of_ble_eq_true rfl)) dX12_next_75 ⟨Nat.le_of_ble_eq_true rfl, Nat.le_of_ble_eq_true rfl⟩) (fun rh108 h108 => ?_)
              have jrh108 : -2147483648 ≤ rh108.toInt ∧ rh108.toInt ≤ 2147483647 := ⟨xi_lo _, Int.le_of_lt_add_one (xi_hi _)⟩
              refine lv_imul hx hb dX12_next_78 ?_
              refine lv_topi (fun v109 ev109 => ?_)
              have jv109 : -2147483648 ≤ v109.toInt ∧ v109.toInt ≤ 2147483647 := ⟨xi_lo _, Int.le_of_lt_add_one (xi_hi _)⟩
              refine lv_bipush (v := 100) hx hb dX12_next_79 (by decide) ?_
              refine lv_idiv hx hb dX12_next_81 (by decide) ?_
              refine lv_topi (fun v110 ev110 => ?_)
              have jv110 : -2147483648 ≤ v110.toInt ∧ v110.toInt ≤ 2147483647 := ⟨xi_lo _, Int.le_of_lt_add_one (xi_hi _)⟩
              refine lv_istore (lv' := [(5, .int v110), (2, .int v107), (4, .int v104), (0, .ref a0), (1, .int v3), (3, .int v5)]) hx hb dX12_next_82 hl (by decide) rfl (fun ls hl => ?_)
              refine lv_aload_n hx hb dX12_next_84 rfl (lv_at hl 3 rfl) ?_
              obtain ⟨b111, rb111, tb111⟩ := hR.at a0 49 t_a0 (rfl : h_rs 13 49 = some (1349, false)) (by decide)
              refine h_get (v := .ref b111) hx hb hts iX12 hown g t_a0 (by decide) so_13 rfl 49 (by decide) (hts (.fieldLink RX12 112 "CapLeagueModel" "purse" "[I") (by decide +kernel)) rfl dX12_next_85 (by show va_rf (z.R a0 49) = _; rw [rb111]; rfl) ?_
              refine lv_iload_n hx hb dX12_next_88 rfl (lv_at hl 5 rfl) ?_
              refine lv_dup2_11 hx hb dX12_next_89 rfl rfl ?_
              refine h_ald hx hb g tb111 (by decide) so_1349 (xi_in (by omega) (by omega)) dX12_next_90 ?_
              refine lv_topi (fun v112 ev112 => ?_)
              have jv112 := hI.rd b111 v5.toNatClampNeg tb111 ev112 (rfl : h_bd 1349 _ = ((-2147483648), 2147483647))
              refine lv_iload hx hb dX12_next_91 (lv_at hl 0 rfl) ?_
              refine lv_iadd hx hb dX12_next_93 ?_
              refine lv_topi (fun v113 ev113 => ?_)
              have jv113 : -2147483648 ≤ v113.toInt ∧ v113.toInt ≤ 2147483647 := ⟨xi_lo _, Int.le_of_lt_add_one (xi_hi _)⟩
              refine h_ast hx hb g tb111 (by decide) so_1349 (xi_in (by omega) (by omega)) dX12_next_94 (fun I114 H locs eI114 g => ?_)
              have hI := hI.wr eI114 tb111 (rfl : h_bd 1349 _ = ((-2147483648), 2147483647)) (xi_lo _) (Int.le_of_lt_add_one (xi_hi _))
              have hF := hF.wr eI114 tb111 rfl
              refine lv_iload_n hx hb dX12_next_95 rfl (lv_at hl 4 rfl) ?_
              refine lv_iload hx hb dX12_next_96 (lv_at hl 0 rfl) ?_
              refine lv_iadd hx hb dX12_next_98 ?_
              refine lv_topi (fun v115 ev115 => ?_)
              have jv115 : -2147483648 ≤ v115.toInt ∧ v115.toInt ≤ 2147483647 := ⟨xi_lo _, Int.le_of_lt_add_one (xi_hi _)⟩
              refine lv_istore_n (lv' := [(1, .int v115), (5, .int v110), (2, .int v107), (4, .int v104), (0, .ref a0), (3, .int v5)]) hx hb dX12_next_99 rfl hl (by decide) rfl (fun ls hl => ?_)
              obtain ⟨v116, ev116⟩ : ∃ z : Int32, z = v5 + 1 := ⟨_, rfl⟩
              have jv116 : v116.toInt = v5.toInt + 1 := xi_add ev116 rfl (by decide) (by omega) (by omega)
              refine lv_iinc (v := v116) (lv' := [(3, .int v116), (1, .int v115), (5, .int v110), (2, .int v107), (4, .int v104), (0, .ref a0)]) hx hb dX12_next_100 hl (k := 5) rfl (by rw [ev116]; rfl) (by decide) rfl (fun ls hl => ?_)
              refine lv_goto (tgt := 25) hx hb dX12_next_103 (by decide) ?_
              exact ih25 I114 _ _ _ v115 v107 v116 g hI hF (lv_sub hl [5, 1, 3, 0] rfl) (by omega) (by omega) (by omega) (h_F.wr (h_F.call (h_F.rf : h_F [(1349, 999)] z I0 I0) hL25 rfl) eI114 tb111 rfl) (by omega)
            · have ic105 := (xi_nlt c105 (by decide) rfl : v104.toInt ≤ 0)
              refine lv_goto (tgt := 100) hx hb dX12_next_57 (by decide) ?_
              obtain ⟨v117, ev117⟩ : ∃ z : Int32, z = v5 + 1 := ⟨_, rfl⟩
              have jv117 : v117.toInt = v5.toInt + 1 := xi_add ev117 rfl (by decide) (by omega) (by omega)
              refine lv_iinc (v := v117) (lv' := [(3, .int v117), (4, .int v104), (0, .ref a0), (1, .int v3), (2, .int v4)]) hx hb dX12_next_100 hl (k := 4) rfl (by rw [ev117]; rfl) (by decide) rfl (fun ls hl => ?_)
              refine lv_goto (tgt := 25) hx hb dX12_next_103 (by decide) ?_
              exact ih25 I6 _ _ _ v3 v4 v117 g hI hF (lv_sub hl [2, 3, 4, 0] rfl) (by omega) (by omega) (by omega) (h_F.call (h_F.rf : h_F [(1349, 999)] z I0 I0) hL25 rfl) (by omega)
      exact loop25_0 _ I0 _ _ _ (0) (0) (0) g hI hF (lv_sub hl [3, 2, 1, 0] rfl) ⟨by decide, by decide⟩ ⟨by decide, by decide⟩ ⟨by decide, by decide⟩ (h_F.rf : h_F [(1349, 999)] z I0 I0) (show (8 - (0 : Int)) < (((8 - (0 : Int)).toNat + 1 : Nat) : Int) by omega)
    · have ic2 := (xi_eq c2 rfl (by decide) : f0_31.toInt = 0)
      refine lv_bipush (v := (-4)) hx hb dX12_next_16 (by decide) ?_
      have hS := g.2.1
      exact W.iret (v := (-4)) hx hb hr (fun t ht hW => ⟨⟨(-4), I0, rfl, ⟨hI, hF, ⟨(by have qr : ((-4) : Int32).toInt = (-4) := (by decide); omega), (by rw [qf0_12, qf0_31]; exact Or.inl ⟨by omega, by decide, rfl, rfl, rfl⟩)⟩⟩, h_ret g ht⟩, hS.F ht⟩) hS.2.2 dX12_next_18
set_option maxHeartbeats 4000000 in
set_option maxRecDepth 100000 in
theorem tX12_lawX (l : Launch) (E : tE) (X : tX) (A : Nat → Prop) (z : tZ) (I0 : tI) (L0 : tL) (a0 : Nat) (t_a0 : z.ty a0 = 13) (y : Int32) (y_t : Int) (h_y : y.toInt = y_t) (x : Int32) (x_t : Int) (h_x : x.toInt = x_t) : Met l yX12_law wsX12_law ({ frames := 2, cells := 0, slots := 0, locals := 128 }) (va_Pc [.ref a0, .int y, .int x] (h_P E X A z I0 L0)) (vp_Si (fun r => (∀ u : Nat → Int, h_r12 (I0 (h_ad z a0 11)) (I0 (h_ad z a0 10)) y_t u → q_ok u → (0 ≤ y_t ∧ y_t ≤ 9 ∧ r.toInt = q_num u x_t) ∨ (¬ (0 ≤ y_t ∧ y_t ≤ 9) ∧ r.toInt = -9)) ∧ ((0 ≤ y_t ∧ y_t ≤ 9) ∨ r.toInt = -9))) 0 0 (fun _ => False) := by
  refine Met.ofW (cc := cX12_law) (maxL := 3) (ret := (some .int)) (by decide) rfl ?_
  intro pr_ ev_ s m args below meth cd_ s₁ B hml hv
  obtain ⟨rfl, hE, hk, hX, hA, hK, hI, hR, hB0⟩ := hv
  have g : h_G h_so h_fk E A z I0 L0 s s.heap s.heap [] := ⟨hK, va_S.rf, hB0⟩
  have hx := B.exec
  have hb := B.bytes
  have hr := B.returns
  have hts := atoms_spec (ws := wsX12_law) B.pre
  have hown : s.vm.findClass RX12 = some m.cls := findClass_of_methodNamed B.named
  have hlocks := B.notSynchronized
  have hl := lv_entry ([.ref a0, .int y, .int x]) (n := 3) (Nat.le_of_ble_eq_true rfl)
  rw [lg_entry_eq]
  generalize (lg_sl ([.ref a0, .int y, .int x]) ++ List.replicate (3 - (lg_sl ([.ref a0, .int y, .int x])).length) Slot.unset).toArray = ls at hl ⊢
  have hl : lv_has ls 3 [(0, .ref a0), (1, .int y), (2, .int x)] := hl
  have b_y : -2147483648 ≤ y_t ∧ y_t ≤ 2147483647 := h_y ▸ ⟨xi_lo y, Int.le_of_lt_add_one (xi_hi y)⟩
  have b_x : -2147483648 ≤ x_t ∧ x_t ≤ 2147483647 := h_x ▸ ⟨xi_lo x, Int.le_of_lt_add_one (xi_hi x)⟩
  obtain ⟨lw, rlw, tlw⟩ := hR.at a0 10 t_a0 (rfl : h_rs 13 10 = some (1310, false)) (by decide)
  have alw : h_ad z a0 10 = lw := h_ad.at rlw
  obtain ⟨hy, rhy, thy⟩ := hR.at a0 11 t_a0 (rfl : h_rs 13 11 = some (1311, false)) (by decide)
  have ahy : h_ad z a0 11 = hy := h_ad.at rhy
  refine lv_iload_n hx hb dX12_law_0 rfl (lv_at hl 1 rfl) ?_
  refine lv_i2l hx hb dX12_law_1 rfl ?_
  refine lv_topl (fun v1 ev1 => ?_)
  have jv1 : v1.toInt = y_t := by rw [ev1, xi_64]; exact h_y
  refine lv_lconst (v := 0) hx hb dX12_law_2 (by decide) ?_
  refine lv_ldc2 (v := 9) hx hb hown (hts (.constantLong RX12 190 (9)) (by decide +kernel)) dX12_law_3 ?_
  refine vp_callSi (W.runS (As := [.long v1, .long 0, .long 9]) (rest := []) ⟨hx, hb, hml, hown, hts⟩ (tX12_in l E X A z I0 L0 v1 (y_t) jv1 0 (0) (by decide) 9 (9) (by decide)) (va_cwS 3 hts gX12_law_X12_in rfl rfl rfl (by decide +kernel) ⟨Nat.le_of_ble_eq_true rfl, Nat.le_of_ble_eq_true rfl⟩) ⟨h_blind _ _ _ _ _ _ _, h_pre _ hE hk hX hA hI hR g⟩ rfl rfl hl.1 rfl (lv_room (Nat.le_of_ble_eq_true rfl)) dX12_law_6 ⟨Nat.le_of_ble_eq_true rfl, Nat.le_of_ble_eq_true rfl⟩) (fun rh2 h2 => ?_)
  rcases h2 with ⟨rfl, h2⟩ | ⟨rfl, h2⟩
  · skip
    refine lv_if_ne (tgt := 15) hx hb dX12_law_9 (by decide) (fun h => absurd (by decide) h) (fun _ => ?_)
    refine lv_bipush (v := (-9)) hx hb dX12_law_12 (by decide) ?_
    exact W.iret (v := (-9)) hx hb hr (fun t ht hW => ⟨(-9), rfl, ⟨(fun u hr hok => Or.inr ⟨by omega, by decide⟩), (Or.inr (by decide))⟩, ht⟩) (fun _ h => by cases h) dX12_law_14
  · skip
    refine lv_if_ne (tgt := 15) hx hb dX12_law_9 (by decide) (fun _ => ?_) (fun h => absurd h (by decide))
    refine lv_iload_n hx hb dX12_law_15 rfl (lv_at hl 2 rfl) ?_
    refine lv_i2l hx hb dX12_law_16 rfl ?_
    refine lv_topl (fun v5 ev5 => ?_)
    have jv5 : v5.toInt = x_t := by rw [ev5, xi_64]; exact h_x
    refine lv_lconst (v := 0) hx hb dX12_law_17 (by decide) ?_
    refine lv_ldc2 (v := 8) hx hb hown (hts (.constantLong RX12 195 (8)) (by decide +kernel)) dX12_law_18 ?_
    refine vp_callSi (W.runS (As := [.long v5, .long 0, .long 8]) (rest := []) ⟨hx, hb, hml, hown, hts⟩ (tX12_in l E X A z I0 L0 v5 (x_t) jv5 0 (0) (by decide) 8 (8) (by decide)) (va_cwS 3 hts gX12_law_X12_in rfl rfl rfl (by decide +kernel) ⟨Nat.le_of_ble_eq_true rfl, Nat.le_of_ble_eq_true rfl⟩) ⟨h_blind _ _ _ _ _ _ _, h_pre _ hE hk hX hA hI hR g⟩ rfl rfl hl.1 rfl (lv_room (Nat.le_of_ble_eq_true rfl)) dX12_law_21 ⟨Nat.le_of_ble_eq_true rfl, Nat.le_of_ble_eq_true rfl⟩) (fun rh6 h6 => ?_)
    rcases h6 with ⟨rfl, h6⟩ | ⟨rfl, h6⟩
    · skip
      refine lv_if_eq (tgt := 34) hx hb dX12_law_24 (by decide) (fun _ => ?_) (fun h => absurd (by decide) h)
      refine lv_iload_n hx hb dX12_law_34 rfl (lv_at hl 2 rfl) ?_
      refine lv_i2l hx hb dX12_law_35 rfl ?_
      refine lv_topl (fun v8 ev8 => ?_)
      have jv8 : v8.toInt = x_t := by rw [ev8, xi_64]; exact h_x
      refine lv_ldc2 (v := 10) hx hb hown (hts (.constantLong RX12 200 (10)) (by decide +kernel)) dX12_law_36 ?_
      refine lv_bipush (v := 9) hx hb dX12_law_39 (by decide) ?_
      refine lv_aload_n hx hb dX12_law_41 rfl (lv_at hl 0 rfl) ?_
      refine lv_iload_n hx hb dX12_law_42 rfl (lv_at hl 1 rfl) ?_
      refine lv_bipush (v := 8) hx hb dX12_law_43 (by decide) ?_
      refine vp_callSi (W.runV (As := [.int y, .int 8]) (rest := [.int 9, .long 10, .long v8]) ⟨hx, hb, hml, hown, hts⟩ (tX12_lawOfF l E X A z I0 L0 a0 t_a0 y (y_t) h_y (by omega) 8 (8) (by decide) (by omega)) (cwV 2 hts gX12_law_X12_lawOf rfl rfl rfl (by decide +kernel) ⟨Nat.le_of_ble_eq_true rfl, Nat.le_of_ble_eq_true rfl⟩) ⟨h_blind _ _ _ _ _ _ _, h_recv g t_a0 (by decide) so_13 (q := (RX12, TX12, 51)) rfl, h_pre _ hE hk hX hA hI hR g⟩ rfl rfl hl.1 rfl (lv_room (Nat.le_of_ble_eq_true rfl)) dX12_law_45 ⟨Nat.le_of_ble_eq_true rfl, Nat.le_of_ble_eq_true rfl⟩) (fun rh9 h9 => ?_)
      obtain ⟨h9p0, h9p1, h9p2⟩ := h9
      have jrh9 : -2147483648 ≤ rh9.toInt ∧ rh9.toInt ≤ 2147483647 := ⟨xi_lo _, Int.le_of_lt_add_one (xi_hi _)⟩
      rw [alw, ahy] at h9p0
      have brh9 : 0 ≤ rh9.toInt ∧ rh9.toInt ≤ 7 := by omega
      refine lv_iadd hx hb dX12_law_48 ?_
      refine lv_topi (fun v10 ev10 => ?_)
      have jv10 : v10.toInt = 9 + rh9.toInt := xi_add ev10 (by decide) rfl (by omega) (by omega)
      refine lv_i2l hx hb dX12_law_49 rfl ?_
      refine lv_topl (fun v11 ev11 => ?_)
      have jv11 : v11.toInt = v10.toInt := by rw [ev11, xi_64]
      refine vp_callSi (W.runS (As := [.long v8, .long 10, .long v11]) (rest := []) ⟨hx, hb, hml, hown, hts⟩ (tX12_in l E X A z I0 L0 v8 (x_t) jv8 10 (10) (by decide) v11 (v10.toInt) jv11) (va_cwS 3 hts gX12_law_X12_in rfl rfl rfl (by decide +kernel) ⟨Nat.le_of_ble_eq_true rfl, Nat.le_of_ble_eq_true rfl⟩) ⟨h_blind _ _ _ _ _ _ _, h_pre _ hE hk hX hA hI hR g⟩ rfl rfl hl.1 rfl (lv_room (Nat.le_of_ble_eq_true rfl)) dX12_law_50 ⟨Nat.le_of_ble_eq_true rfl, Nat.le_of_ble_eq_true rfl⟩) (fun rh12 h12 => ?_)
      rcases h12 with ⟨rfl, h12⟩ | ⟨rfl, h12⟩
      · skip
        refine lv_if_eq (tgt := 67) hx hb dX12_law_53 (by decide) (fun _ => ?_) (fun h => absurd (by decide) h)
        refine lv_bipush (v := (-9)) hx hb dX12_law_67 (by decide) ?_
        exact W.iret (v := (-9)) hx hb hr (fun t ht hW => ⟨(-9), rfl, ⟨(fun u hr hok => by rw [ahy, alw] at hr; have grh9 := hr.at (x := 8) (by decide) h9p0; exact Or.inl ⟨by omega, by omega, by unfold q_num; rw [if_neg (by omega), if_neg (by omega)]; decide⟩), (Or.inr (by decide))⟩, ht⟩) (fun _ h => by cases h) dX12_law_69
      · skip
        refine lv_if_eq (tgt := 67) hx hb dX12_law_53 (by decide) (fun h => absurd h (by decide)) (fun _ => ?_)
        refine lv_aload_n hx hb dX12_law_56 rfl (lv_at hl 0 rfl) ?_
        refine lv_iload_n hx hb dX12_law_57 rfl (lv_at hl 1 rfl) ?_
        refine lv_iload_n hx hb dX12_law_58 rfl (lv_at hl 2 rfl) ?_
        refine lv_iconst (v := 1) hx hb dX12_law_59 (by decide) ?_
        refine lv_isub hx hb dX12_law_60 ?_
        refine lv_topi (fun v15 ev15 => ?_)
        have jv15 : v15.toInt = x_t - 1 := xi_sub ev15 h_x (by decide) (by omega) (by omega)
        refine vp_callSi (W.runV (As := [.int y, .int v15]) (rest := []) ⟨hx, hb, hml, hown, hts⟩ (tX12_lawOfF l E X A z I0 L0 a0 t_a0 y (y_t) h_y (by omega) v15 (v15.toInt) rfl (by omega)) (cwV 2 hts gX12_law_X12_lawOf rfl rfl rfl (by decide +kernel) ⟨Nat.le_of_ble_eq_true rfl, Nat.le_of_ble_eq_true rfl⟩) ⟨h_blind _ _ _ _ _ _ _, h_recv g t_a0 (by decide) so_13 (q := (RX12, TX12, 51)) rfl, h_pre _ hE hk hX hA hI hR g⟩ rfl rfl hl.1 rfl (lv_room (Nat.le_of_ble_eq_true rfl)) dX12_law_61 ⟨Nat.le_of_ble_eq_true rfl, Nat.le_of_ble_eq_true rfl⟩) (fun rh16 h16 => ?_)
        obtain ⟨h16p0, h16p1, h16p2⟩ := h16
        have jrh16 : -2147483648 ≤ rh16.toInt ∧ rh16.toInt ≤ 2147483647 := ⟨xi_lo _, Int.le_of_lt_add_one (xi_hi _)⟩
        rw [alw, ahy] at h16p0
        refine lv_goto (tgt := 69) hx hb dX12_law_64 (by decide) ?_
        exact W.iret (v := rh16) hx hb hr (fun t ht hW => ⟨rh16, rfl, ⟨(fun u hr hok => by rw [ahy, alw] at hr; have grh9 := hr.at (x := 8) (by decide) h9p0; have e9 : (v15.toInt).toNat = 9 + (x_t - 10).toNat := (by omega); have nb := hok.2.1; have g2 := hr.at (x := 9 + (x_t - 10).toNat) (by omega) (by rw [← e9]; exact h16p0); exact Or.inl ⟨by omega, by omega, by unfold q_num; rw [if_neg (by omega), if_pos (by omega)]; exact g2⟩), (Or.inl ⟨by omega, by omega⟩)⟩, ht⟩) (fun _ h => by cases h) dX12_law_69
    · skip
      refine lv_if_eq (tgt := 34) hx hb dX12_law_24 (by decide) (fun h => absurd h (by decide)) (fun _ => ?_)
      refine lv_aload_n hx hb dX12_law_27 rfl (lv_at hl 0 rfl) ?_
      refine lv_iload_n hx hb dX12_law_28 rfl (lv_at hl 1 rfl) ?_
      refine lv_iload_n hx hb dX12_law_29 rfl (lv_at hl 2 rfl) ?_
      refine vp_callSi (W.runV (As := [.int y, .int x]) (rest := []) ⟨hx, hb, hml, hown, hts⟩ (tX12_lawOfF l E X A z I0 L0 a0 t_a0 y (y_t) h_y (by omega) x (x_t) h_x (by omega)) (cwV 2 hts gX12_law_X12_lawOf rfl rfl rfl (by decide +kernel) ⟨Nat.le_of_ble_eq_true rfl, Nat.le_of_ble_eq_true rfl⟩) ⟨h_blind _ _ _ _ _ _ _, h_recv g t_a0 (by decide) so_13 (q := (RX12, TX12, 51)) rfl, h_pre _ hE hk hX hA hI hR g⟩ rfl rfl hl.1 rfl (lv_room (Nat.le_of_ble_eq_true rfl)) dX12_law_30 ⟨Nat.le_of_ble_eq_true rfl, Nat.le_of_ble_eq_true rfl⟩) (fun rh18 h18 => ?_)
      obtain ⟨h18p0, h18p1, h18p2⟩ := h18
      have jrh18 : -2147483648 ≤ rh18.toInt ∧ rh18.toInt ≤ 2147483647 := ⟨xi_lo _, Int.le_of_lt_add_one (xi_hi _)⟩
      rw [alw, ahy] at h18p0
      exact W.iret (v := rh18) hx hb hr (fun t ht hW => ⟨rh18, rfl, ⟨(fun u hr hok => by rw [ahy, alw] at hr; have grh18 := hr.at (x := x_t.toNat) (by omega) h18p0; exact Or.inl ⟨by omega, by omega, by unfold q_num; rw [if_pos (by omega)]; exact grh18⟩), (Or.inl ⟨by omega, by omega⟩)⟩, ht⟩) (fun _ h => by cases h) dX12_law_33
set_option maxHeartbeats 4000000 in
set_option maxRecDepth 100000 in
theorem tX11_lawX (l : Launch) (E : tE) (X : tX) (A : Nat → Prop) (z : tZ) (I0 : tI) (L0 : tL) (a0 : Nat) (t_a0 : z.ty a0 = 12) (y : Int32) (y_t : Int) (h_y : y.toInt = y_t) (x : Int32) (x_t : Int) (h_x : x.toInt = x_t) (u_ : Nat → Int) (hcl : ∀ b : Nat, h_of (z.R (h_ad z (h_ad z a0 1) 1)) (h_ad z (h_ad z a0 1) 0) y_t b → h_lw I0 b (h_ad z b 0) (h_ad z b 1) u_) : Met l yX11_law wsX11_law ({ frames := 2, cells := 0, slots := 0, locals := 128 }) (va_Pc [.ref a0, .int y, .int x] (h_P E X A z I0 L0)) (vp_Si (fun r => ((0 ≤ y_t ∧ y_t ≤ 9 ∧ r.toInt = q_num u_ x_t) ∨ (¬ (0 ≤ y_t ∧ y_t ≤ 9) ∧ r.toInt = -9)))) 0 0 (fun _ => False) := by
  refine Met.ofW (cc := cX11_law) (maxL := 3) (ret := (some .int)) (by decide) rfl ?_
  intro pr_ ev_ s m args below meth cd_ s₁ B hml hv
  obtain ⟨rfl, hE, hk, hX, hA, hK, hI, hR, hB0⟩ := hv
  have g : h_G h_so h_fk E A z I0 L0 s s.heap s.heap [] := ⟨hK, va_S.rf, hB0⟩
  have hx := B.exec
  have hb := B.bytes
  have hr := B.returns
  have hts := atoms_spec (ws := wsX11_law) B.pre
  have hown : s.vm.findClass RX11 = some m.cls := findClass_of_methodNamed B.named
  have hlocks := B.notSynchronized
  have iX11 : ∀ w ∈ u_ws RX11 TX11 8, w ∈ wsX11_law := by decide +kernel
  have hl := lv_entry ([.ref a0, .int y, .int x]) (n := 3) (Nat.le_of_ble_eq_true rfl)
  rw [lg_entry_eq]
  generalize (lg_sl ([.ref a0, .int y, .int x]) ++ List.replicate (3 - (lg_sl ([.ref a0, .int y, .int x])).length) Slot.unset).toArray = ls at hl ⊢
  have hl : lv_has ls 3 [(0, .ref a0), (1, .int y), (2, .int x)] := hl
  have b_y : -2147483648 ≤ y_t ∧ y_t ≤ 2147483647 := h_y ▸ ⟨xi_lo y, Int.le_of_lt_add_one (xi_hi y)⟩
  have b_x : -2147483648 ≤ x_t ∧ x_t ≤ 2147483647 := h_x ▸ ⟨xi_lo x, Int.le_of_lt_add_one (xi_hi x)⟩
  obtain ⟨lb, rlb, tlb⟩ := hR.at a0 1 t_a0 (rfl : h_rs 12 1 = some (4, false)) (by decide)
  have alb : h_ad z a0 1 = lb := h_ad.at rlb
  obtain ⟨un, run, tun⟩ := hR.at lb 0 tlb (rfl : h_rs 4 0 = some (6, false)) (by decide)
  have aun : h_ad z lb 0 = un := h_ad.at run
  obtain ⟨tx, rtx, ttx⟩ := hR.at lb 1 tlb (rfl : h_rs 4 1 = some (401, false)) (by decide)
  have atx : h_ad z lb 1 = tx := h_ad.at rtx
  rw [alb, aun, atx] at hcl
  refine lv_iload_n hx hb dX11_law_0 rfl (lv_at hl 1 rfl) ?_
  refine vp_callSi (W.runS (As := [.int y]) (rest := []) ⟨hx, hb, hml, hown, hts⟩ (tX11_isYear l E X A z I0 L0 y (y_t) h_y) (va_cwS 1 hts gX11_law_X11_isYear rfl rfl rfl (by decide +kernel) ⟨Nat.le_of_ble_eq_true rfl, Nat.le_of_ble_eq_true rfl⟩) ⟨h_blind _ _ _ _ _ _ _, h_pre _ hE hk hX hA hI hR g⟩ rfl rfl hl.1 rfl (lv_room (Nat.le_of_ble_eq_true rfl)) dX11_law_1 ⟨Nat.le_of_ble_eq_true rfl, Nat.le_of_ble_eq_true rfl⟩) (fun rh1 h1 => ?_)
  rcases h1 with ⟨rfl, h1⟩ | ⟨rfl, h1⟩
  · skip
    refine lv_if_eq (tgt := 22) hx hb dX11_law_4 (by decide) (fun _ => ?_) (fun h => absurd (by decide) h)
    refine lv_bipush (v := (-9)) hx hb dX11_law_22 (by decide) ?_
    exact W.iret (v := (-9)) hx hb hr (fun t ht hW => ⟨(-9), rfl, (Or.inr ⟨by omega, by decide⟩), ht⟩) (fun _ h => by cases h) dX11_law_24
  · skip
    refine lv_if_eq (tgt := 22) hx hb dX11_law_4 (by decide) (fun h => absurd h (by decide)) (fun _ => ?_)
    refine lv_aload_n hx hb dX11_law_7 rfl (lv_at hl 0 rfl) ?_
    refine h_get (v := .ref lb) hx hb hts iX11 hown g t_a0 (by decide) so_12 rfl 1 (by decide) (hts (.fieldLink RX11 19 "CapLeague" "lawBook" "LCapLeague$LawBook;") (by decide +kernel)) rfl dX11_law_8 (by show va_rf (z.R a0 1) = _; rw [rlb]; rfl) ?_
    refine lv_iload_n hx hb dX11_law_11 rfl (lv_at hl 1 rfl) ?_
    refine va_csq (W.runV (As := [.int y]) (rest := []) ⟨hx, hb, hml, hown, hts⟩ (tX3_ofF l E X A z I0 L0 lb tlb y (y_t) h_y) (cwV 1 hts gX11_law_X3_of rfl rfl rfl (by decide +kernel) ⟨Nat.le_of_ble_eq_true rfl, Nat.le_of_ble_eq_true rfl⟩) ⟨h_blind _ _ _ _ _ _ _, h_recv g tlb (by decide) so_4 (q := (RX3, TX3, 2)) rfl, h_pre _ hE hk hX hA hI hR g⟩ rfl rfl hl.1 rfl (lv_room (Nat.le_of_ble_eq_true rfl)) dX11_law_12 ⟨Nat.le_of_ble_eq_true rfl, Nat.le_of_ble_eq_true rfl⟩) (fun rh4 h4 => ?_)
    obtain ⟨h4, h4p0⟩ := h4
    obtain ⟨rh4, rfl, trh4⟩ := h4
    refine xw_v (v := .ref rh4) rfl ?_
    rw [aun, atx] at h4p0
    obtain ⟨bb, ebb, hof⟩ := h4p0
    cases ebb
    have hlb := hcl _ hof
    refine lv_iload_n hx hb dX11_law_15 rfl (lv_at hl 2 rfl) ?_
    refine vp_callSi (W.runV (As := [.int x]) (rest := []) ⟨hx, hb, hml, hown, hts⟩ (tX5_numberF l E X A z I0 L0 rh4 trh4 x (x_t) h_x (u_) (hlb)) (cwV 1 hts gX11_law_X5_number rfl rfl rfl (by decide +kernel) ⟨Nat.le_of_ble_eq_true rfl, Nat.le_of_ble_eq_true rfl⟩) ⟨h_blind _ _ _ _ _ _ _, h_recv g trh4 (by decide) so_6 (q := (RX5, TX5, 3)) rfl, h_pre _ hE hk hX hA hI hR g⟩ rfl rfl hl.1 rfl (lv_room (Nat.le_of_ble_eq_true rfl)) dX11_law_16 ⟨Nat.le_of_ble_eq_true rfl, Nat.le_of_ble_eq_true rfl⟩) (fun rh5 h5 => ?_)
    have h5p0 := h5
    have jrh5 : -2147483648 ≤ rh5.toInt ∧ rh5.toInt ≤ 2147483647 := ⟨xi_lo _, Int.le_of_lt_add_one (xi_hi _)⟩
    refine lv_goto (tgt := 24) hx hb dX11_law_19 (by decide) ?_
    exact W.iret (v := rh5) hx hb hr (fun t ht hW => ⟨rh5, rfl, (Or.inl ⟨by omega, by omega, h5p0⟩), ht⟩) (fun _ h => by cases h) dX11_law_24
set_option maxHeartbeats 4000000 in
set_option maxRecDepth 100000 in
theorem tX12_faultX (l : Launch) (E : tE) (X : tX) (A : Nat → Prop) (z : tZ) (I0 : tI) (L0 : tL) (a0 : Nat) (t_a0 : z.ty a0 = 13) (x : Int32) (x_t : Int) (h_x : x.toInt = x_t) : Met l yX12_fault wsX12_fault ({ frames := 1, cells := 0, slots := 0, locals := 64 }) (va_Pc [.ref a0, .int x] (h_P E X A z I0 L0)) (vp_Si (fun r => ((x_t = 0 ∧ r = I0 a0 8) ∨ (x_t = 1 ∧ r = I0 a0 9) ∨ (x_t ≠ 0 ∧ x_t ≠ 1 ∧ r = -1)))) 0 0 (fun _ => False) := by
  refine Met.ofW (cc := cX12_fault) (maxL := 2) (ret := (some .int)) (by decide) rfl ?_
  intro pr_ ev_ s m args below meth cd_ s₁ B hml hv
  obtain ⟨rfl, hE, hk, hX, hA, hK, hI, hR, hB0⟩ := hv
  have g : h_G h_so h_fk E A z I0 L0 s s.heap s.heap [] := ⟨hK, va_S.rf, hB0⟩
  have hx := B.exec
  have hb := B.bytes
  have hr := B.returns
  have hts := atoms_spec (ws := wsX12_fault) B.pre
  have hown : s.vm.findClass RX12 = some m.cls := findClass_of_methodNamed B.named
  have hlocks := B.notSynchronized
  have iX12 : ∀ w ∈ u_ws RX12 TX12 51, w ∈ wsX12_fault := by decide +kernel
  have hl := lv_entry ([.ref a0, .int x]) (n := 2) (Nat.le_of_ble_eq_true rfl)
  rw [lg_entry_eq]
  generalize (lg_sl ([.ref a0, .int x]) ++ List.replicate (2 - (lg_sl ([.ref a0, .int x])).length) Slot.unset).toArray = ls at hl ⊢
  have hl : lv_has ls 2 [(0, .ref a0), (1, .int x)] := hl
  have b_x : -2147483648 ≤ x_t ∧ x_t ≤ 2147483647 := h_x ▸ ⟨xi_lo x, Int.le_of_lt_add_one (xi_hi x)⟩
  obtain ⟨f0_8, ef0_8⟩ : ∃ v : Int32, v = I0 a0 8 := ⟨_, rfl⟩
  have qf0_8 : (I0 a0 8).toInt = f0_8.toInt := congrArg Int32.toInt ef0_8.symm
  have jf0_8 := hI.rd a0 8 t_a0 ef0_8 (rfl : h_bd 13 8 = ((-2147483648), 2147483647))
  obtain ⟨f0_9, ef0_9⟩ : ∃ v : Int32, v = I0 a0 9 := ⟨_, rfl⟩
  have qf0_9 : (I0 a0 9).toInt = f0_9.toInt := congrArg Int32.toInt ef0_9.symm
  have jf0_9 := hI.rd a0 9 t_a0 ef0_9 (rfl : h_bd 13 9 = ((-2147483648), 2147483647))
  refine lv_iload_n hx hb dX12_fault_0 rfl (lv_at hl 1 rfl) ?_
  refine lv_if_ne (tgt := 11) hx hb dX12_fault_1 (by decide) (fun c1 => ?_) (fun c1 => ?_)
  · have ic1 := (xi_ne c1 h_x (by decide) : x_t ≠ 0)
    refine lv_iload_n hx hb dX12_fault_11 rfl (lv_at hl 1 rfl) ?_
    refine lv_iconst (v := 1) hx hb dX12_fault_12 (by decide) ?_
    refine lv_icmp_ne (tgt := 23) hx hb dX12_fault_13 (by decide) (fun c2 => ?_) (fun c2 => ?_)
    · have ic2 := (xi_ne c2 h_x (by decide) : x_t ≠ 1)
      refine lv_iconst (v := (-1)) hx hb dX12_fault_23 (by decide) ?_
      exact W.iret (v := (-1)) hx hb hr (fun t ht hW => ⟨(-1), rfl, (by exact Or.inr (Or.inr ⟨by omega, by omega, rfl⟩)), ht⟩) (fun _ h => by cases h) dX12_fault_24
    · have ic2 := (xi_eq c2 h_x (by decide) : x_t = 1)
      refine lv_aload_n hx hb dX12_fault_16 rfl (lv_at hl 0 rfl) ?_
      refine h_get (v := .int f0_9) hx hb hts iX12 hown g t_a0 (by decide) so_13 rfl 9 (by decide) (hts (.fieldLink RX12 13 "CapLeagueModel" "faultPlace" "I") (by decide +kernel)) rfl dX12_fault_17 (congrArg Value.int (ef0_9.symm)) ?_
      refine lv_goto (tgt := 24) hx hb dX12_fault_20 (by decide) ?_
      exact W.iret (v := f0_9) hx hb hr (fun t ht hW => ⟨f0_9, rfl, (by exact Or.inr (Or.inl ⟨by omega, ef0_9⟩)), ht⟩) (fun _ h => by cases h) dX12_fault_24
  · have ic1 := (xi_eq c1 h_x (by decide) : x_t = 0)
    refine lv_aload_n hx hb dX12_fault_4 rfl (lv_at hl 0 rfl) ?_
    refine h_get (v := .int f0_8) hx hb hts iX12 hown g t_a0 (by decide) so_13 rfl 8 (by decide) (hts (.fieldLink RX12 166 "CapLeagueModel" "faultKind" "I") (by decide +kernel)) rfl dX12_fault_5 (congrArg Value.int (ef0_8.symm)) ?_
    refine lv_goto (tgt := 24) hx hb dX12_fault_8 (by decide) ?_
    exact W.iret (v := f0_8) hx hb hr (fun t ht hW => ⟨f0_8, rfl, (by exact Or.inl ⟨by omega, ef0_8⟩), ht⟩) (fun _ h => by cases h) dX12_fault_24
set_option maxHeartbeats 4000000 in
set_option maxRecDepth 100000 in
theorem tX11_faultX (l : Launch) (E : tE) (X : tX) (A : Nat → Prop) (z : tZ) (I0 : tI) (L0 : tL) (a0 : Nat) (t_a0 : z.ty a0 = 12) (x : Int32) (x_t : Int) (h_x : x.toInt = x_t) : Met l yX11_fault wsX11_fault ({ frames := 1, cells := 0, slots := 0, locals := 64 }) (va_Pc [.ref a0, .int x] (h_P E X A z I0 L0)) (vp_Si (fun r => ((x_t = 0 ∧ r = I0 (h_ad z a0 2) 2) ∨ (x_t = 1 ∧ r = I0 (h_ad z a0 2) 3) ∨ (x_t ≠ 0 ∧ x_t ≠ 1 ∧ r = -1)))) 0 0 (fun _ => False) := by
  refine Met.ofW (cc := cX11_fault) (maxL := 2) (ret := (some .int)) (by decide) rfl ?_
  intro pr_ ev_ s m args below meth cd_ s₁ B hml hv
  obtain ⟨rfl, hE, hk, hX, hA, hK, hI, hR, hB0⟩ := hv
  have g : h_G h_so h_fk E A z I0 L0 s s.heap s.heap [] := ⟨hK, va_S.rf, hB0⟩
  have hx := B.exec
  have hb := B.bytes
  have hr := B.returns
  have hts := atoms_spec (ws := wsX11_fault) B.pre
  have hown : s.vm.findClass RX11 = some m.cls := findClass_of_methodNamed B.named
  have hlocks := B.notSynchronized
  have iX11 : ∀ w ∈ u_ws RX11 TX11 8, w ∈ wsX11_fault := by decide +kernel
  have iX4 : ∀ w ∈ u_ws RX4 TX4 9, w ∈ wsX11_fault := by decide +kernel
  have hl := lv_entry ([.ref a0, .int x]) (n := 2) (Nat.le_of_ble_eq_true rfl)
  rw [lg_entry_eq]
  generalize (lg_sl ([.ref a0, .int x]) ++ List.replicate (2 - (lg_sl ([.ref a0, .int x])).length) Slot.unset).toArray = ls at hl ⊢
  have hl : lv_has ls 2 [(0, .ref a0), (1, .int x)] := hl
  have b_x : -2147483648 ≤ x_t ∧ x_t ≤ 2147483647 := h_x ▸ ⟨xi_lo x, Int.le_of_lt_add_one (xi_hi x)⟩
  obtain ⟨rd, rrd, trd⟩ := hR.at a0 2 t_a0 (rfl : h_rs 12 2 = some (5, false)) (by decide)
  have ard : h_ad z a0 2 = rd := h_ad.at rrd
  obtain ⟨f0_2, ef0_2⟩ : ∃ v : Int32, v = I0 rd 2 := ⟨_, rfl⟩
  have qf0_2 : (I0 rd 2).toInt = f0_2.toInt := congrArg Int32.toInt ef0_2.symm
  have jf0_2 := hI.rd rd 2 trd ef0_2 (rfl : h_bd 5 2 = ((-2147483648), 2147483647))
  obtain ⟨f0_3, ef0_3⟩ : ∃ v : Int32, v = I0 rd 3 := ⟨_, rfl⟩
  have qf0_3 : (I0 rd 3).toInt = f0_3.toInt := congrArg Int32.toInt ef0_3.symm
  have jf0_3 := hI.rd rd 3 trd ef0_3 (rfl : h_bd 5 3 = ((-2147483648), 2147483647))
  refine lv_iload_n hx hb dX11_fault_0 rfl (lv_at hl 1 rfl) ?_
  refine lv_if_ne (tgt := 12) hx hb dX11_fault_1 (by decide) (fun c1 => ?_) (fun c1 => ?_)
  · have ic1 := (xi_ne c1 h_x (by decide) : x_t ≠ 0)
    refine lv_iload_n hx hb dX11_fault_12 rfl (lv_at hl 1 rfl) ?_
    refine lv_iconst (v := 1) hx hb dX11_fault_13 (by decide) ?_
    refine lv_icmp_ne (tgt := 27) hx hb dX11_fault_14 (by decide) (fun c2 => ?_) (fun c2 => ?_)
    · have ic2 := (xi_ne c2 h_x (by decide) : x_t ≠ 1)
      refine lv_iconst (v := (-1)) hx hb dX11_fault_27 (by decide) ?_
      exact W.iret (v := (-1)) hx hb hr (fun t ht hW => ⟨(-1), rfl, (by rw [ard]; exact Or.inr (Or.inr ⟨by omega, by omega, rfl⟩)), ht⟩) (fun _ h => by cases h) dX11_fault_28
    · have ic2 := (xi_eq c2 h_x (by decide) : x_t = 1)
      refine lv_aload_n hx hb dX11_fault_17 rfl (lv_at hl 0 rfl) ?_
      refine h_get (v := .ref rd) hx hb hts iX11 hown g t_a0 (by decide) so_12 rfl 2 (by decide) (hts (.fieldLink RX11 28 "CapLeague" "reader" "LCapLeague$LawReader;") (by decide +kernel)) rfl dX11_fault_18 (by show va_rf (z.R a0 2) = _; rw [rrd]; rfl) ?_
      refine h_get (v := .int f0_3) hx hb hts iX4 hown g trd (by decide) so_5 rfl 3 (by decide) (hts (.fieldLink RX11 104 "CapLeague$LawReader" "faultPlace" "I") (by decide +kernel)) rfl dX11_fault_21 (congrArg Value.int (ef0_3.symm)) ?_
      refine lv_goto (tgt := 28) hx hb dX11_fault_24 (by decide) ?_
      exact W.iret (v := f0_3) hx hb hr (fun t ht hW => ⟨f0_3, rfl, (by rw [ard]; exact Or.inr (Or.inl ⟨by omega, ef0_3⟩)), ht⟩) (fun _ h => by cases h) dX11_fault_28
  · have ic1 := (xi_eq c1 h_x (by decide) : x_t = 0)
    refine lv_aload_n hx hb dX11_fault_4 rfl (lv_at hl 0 rfl) ?_
    refine h_get (v := .ref rd) hx hb hts iX11 hown g t_a0 (by decide) so_12 rfl 2 (by decide) (hts (.fieldLink RX11 28 "CapLeague" "reader" "LCapLeague$LawReader;") (by decide +kernel)) rfl dX11_fault_5 (by show va_rf (z.R a0 2) = _; rw [rrd]; rfl) ?_
    refine h_get (v := .int f0_2) hx hb hts iX4 hown g trd (by decide) so_5 rfl 2 (by decide) (hts (.fieldLink RX11 101 "CapLeague$LawReader" "faultKind" "I") (by decide +kernel)) rfl dX11_fault_8 (congrArg Value.int (ef0_2.symm)) ?_
    exact W.iret (v := f0_2) hx hb hr (fun t ht hW => ⟨f0_2, rfl, (by rw [ard]; exact Or.inl ⟨by omega, ef0_2⟩), ht⟩) (fun _ h => by cases h) dX11_fault_11
set_option maxHeartbeats 4000000 in
set_option maxRecDepth 100000 in
theorem tX11_endX (l : Launch) (E : tE) (X : tX) (A : Nat → Prop) (z : tZ) (I0 : tI) (L0 : tL) (a0 : Nat) (t_a0 : z.ty a0 = 12) (n : Int32) (n_t : Int) (h_n : n.toInt = n_t) : Met l yX11_end wsX11_end ({ frames := 1, cells := 0, slots := 0, locals := 64 }) (va_Pc [.ref a0, .int n] (h_P E X A z I0 L0)) (va_Qi (fun r (I1 : tI) => h_I z I1 ∧ h_F [(9, 1)] z I0 I1 ∧ ((0 ≤ n_t ∧ n_t ≤ (I0 (h_ad z a0 0) 1).toInt ∧ r.toInt = n_t ∧ (I1 (h_ad z a0 0) 1).toInt = n_t) ∨ ((n_t < 0 ∨ (I0 (h_ad z a0 0) 1).toInt < n_t) ∧ r.toInt = -1 ∧ (I1 (h_ad z a0 0) 1).toInt = (I0 (h_ad z a0 0) 1).toInt))) (fun (I1 : tI) t => h_B E A z I1 L0 t) A) 0 0 A := by
  refine Met.ofW (cc := cX11_end) (maxL := 2) (ret := (some .int)) (by decide) rfl ?_
  intro pr_ ev_ s m args below meth cd_ s₁ B hml hv
  obtain ⟨rfl, hE, hk, hX, hA, hK, hI, hR, hB0⟩ := hv
  have g : h_G h_so h_fk E A z I0 L0 s s.heap s.heap [] := ⟨hK, va_S.rf, hB0⟩
  have hF : h_F [(9, 1)] z I0 I0 := h_F.rf
  have hx := B.exec
  have hb := B.bytes
  have hr := B.returns
  have hts := atoms_spec (ws := wsX11_end) B.pre
  have hown : s.vm.findClass RX11 = some m.cls := findClass_of_methodNamed B.named
  have hlocks := B.notSynchronized
  have iX11 : ∀ w ∈ u_ws RX11 TX11 8, w ∈ wsX11_end := by decide +kernel
  have iX8 : ∀ w ∈ u_ws RX8 TX8 2, w ∈ wsX11_end := by decide +kernel
  have hl := lv_entry ([.ref a0, .int n]) (n := 2) (Nat.le_of_ble_eq_true rfl)
  rw [lg_entry_eq]
  generalize (lg_sl ([.ref a0, .int n]) ++ List.replicate (2 - (lg_sl ([.ref a0, .int n])).length) Slot.unset).toArray = ls at hl ⊢
  have hl : lv_has ls 2 [(0, .ref a0), (1, .int n)] := hl
  have b_n : -2147483648 ≤ n_t ∧ n_t ≤ 2147483647 := h_n ▸ ⟨xi_lo n, Int.le_of_lt_add_one (xi_hi n)⟩
  obtain ⟨tp, rtp, ttp⟩ := hR.at a0 0 t_a0 (rfl : h_rs 12 0 = some (9, false)) (by decide)
  have atp : h_ad z a0 0 = tp := h_ad.at rtp
  obtain ⟨f0_1, ef0_1⟩ : ∃ v : Int32, v = I0 tp 1 := ⟨_, rfl⟩
  have qf0_1 : (I0 tp 1).toInt = f0_1.toInt := congrArg Int32.toInt ef0_1.symm
  have jf0_1 := hI.rd tp 1 ttp ef0_1 (rfl : h_bd 9 1 = (0, 500))
  refine lv_iload_n hx hb dX11_end_0 rfl (lv_at hl 1 rfl) ?_
  refine lv_if_lt (tgt := 15) hx hb dX11_end_1 (by decide) (fun c1 => ?_) (fun c1 => ?_)
  · have ic1 := (xi_lt c1 h_n (by decide) : n_t < 0)
    refine lv_iconst (v := (-1)) hx hb dX11_end_15 (by decide) ?_
    have hS := g.2.1
    exact W.iret (v := (-1)) hx hb hr (fun t ht hW => ⟨⟨(-1), I0, rfl, ⟨hI, hF, (by rw [atp]; have qr : ((-1) : Int32).toInt = (-1) := (by decide); omega)⟩, h_ret g ht⟩, hS.F ht⟩) hS.2.2 dX11_end_16
  · have ic1 := (xi_nlt c1 h_n (by decide) : 0 ≤ n_t)
    refine lv_iload_n hx hb dX11_end_4 rfl (lv_at hl 1 rfl) ?_
    refine lv_aload_n hx hb dX11_end_5 rfl (lv_at hl 0 rfl) ?_
    refine h_get (v := .ref tp) hx hb hts iX11 hown g t_a0 (by decide) so_12 rfl 0 (by decide) (hts (.fieldLink RX11 10 "CapLeague" "tape" "LCapLeague$Tape;") (by decide +kernel)) rfl dX11_end_6 (by show va_rf (z.R a0 0) = _; rw [rtp]; rfl) ?_
    refine h_get (v := .int f0_1) hx hb hts iX8 hown g ttp (by decide) so_9 rfl 1 (by decide) (hts (.fieldLink RX11 81 "CapLeague$Tape" "size" "I") (by decide +kernel)) rfl dX11_end_9 (congrArg Value.int (ef0_1.symm)) ?_
    refine lv_icmp_le (tgt := 17) hx hb dX11_end_12 (by decide) (fun c2 => ?_) (fun c2 => ?_)
    · have ic2 := (xi_le c2 h_n rfl : n_t ≤ f0_1.toInt)
      refine lv_aload_n hx hb dX11_end_17 rfl (lv_at hl 0 rfl) ?_
      refine h_get (v := .ref tp) hx hb hts iX11 hown g t_a0 (by decide) so_12 rfl 0 (by decide) (hts (.fieldLink RX11 10 "CapLeague" "tape" "LCapLeague$Tape;") (by decide +kernel)) rfl dX11_end_18 (by show va_rf (z.R a0 0) = _; rw [rtp]; rfl) ?_
      refine lv_iload_n hx hb dX11_end_21 rfl (lv_at hl 1 rfl) ?_
      refine h_putI (ty := .int) (v := n) hx hb hts iX8 tyX8 tyX8_ok nmX8 hown g ttp (by decide) so_9 rfl 1 (by decide) rfl (hts (.fieldLink RX11 81 "CapLeague$Tape" "size" "I") (by decide +kernel)) rfl rfl (by decide +kernel) rfl rfl dX11_end_22 (fun I3 H locs eI3 g => ?_)
      have hI := hI.wr eI3 ttp (rfl : h_bd 9 1 = (0, 500)) (by rw [h_n]; omega) (by rw [h_n]; omega)
      have hF := hF.wr eI3 ttp rfl
      refine lv_iload_n hx hb dX11_end_25 rfl (lv_at hl 1 rfl) ?_
      have hS := g.2.1
      exact W.iret (v := n) hx hb hr (fun t ht hW => ⟨⟨n, I3, rfl, ⟨hI, hF, (by rw [atp]; have q1_ : (I3 tp 1).toInt = n_t := (congrArg Int32.toInt (h_n0 eI3)).trans h_n; omega)⟩, h_ret g ht⟩, hS.F ht⟩) hS.2.2 dX11_end_26
    · have ic2 := (xi_nle c2 h_n rfl : f0_1.toInt < n_t)
      refine lv_iconst (v := (-1)) hx hb dX11_end_15 (by decide) ?_
      have hS := g.2.1
      exact W.iret (v := (-1)) hx hb hr (fun t ht hW => ⟨⟨(-1), I0, rfl, ⟨hI, hF, (by rw [atp]; have qr : ((-1) : Int32).toInt = (-1) := (by decide); omega)⟩, h_ret g ht⟩, hS.F ht⟩) hS.2.2 dX11_end_16
set_option maxHeartbeats 4000000 in
set_option maxRecDepth 100000 in
theorem tX12_endX (l : Launch) (E : tE) (X : tX) (A : Nat → Prop) (z : tZ) (I0 : tI) (L0 : tL) (a0 : Nat) (t_a0 : z.ty a0 = 13) (n : Int32) (n_t : Int) (h_n : n.toInt = n_t) : Met l yX12_end wsX12_end ({ frames := 1, cells := 0, slots := 0, locals := 64 }) (va_Pc [.ref a0, .int n] (h_P E X A z I0 L0)) (va_Qi (fun r (I1 : tI) => h_I z I1 ∧ h_F [(13, 1)] z I0 I1 ∧ ((0 ≤ n_t ∧ n_t ≤ (I0 a0 1).toInt ∧ r.toInt = n_t ∧ (I1 a0 1).toInt = n_t) ∨ ((n_t < 0 ∨ (I0 a0 1).toInt < n_t) ∧ r.toInt = -1 ∧ (I1 a0 1).toInt = (I0 a0 1).toInt))) (fun (I1 : tI) t => h_B E A z I1 L0 t) A) 0 0 A := by
  refine Met.ofW (cc := cX12_end) (maxL := 2) (ret := (some .int)) (by decide) rfl ?_
  intro pr_ ev_ s m args below meth cd_ s₁ B hml hv
  obtain ⟨rfl, hE, hk, hX, hA, hK, hI, hR, hB0⟩ := hv
  have g : h_G h_so h_fk E A z I0 L0 s s.heap s.heap [] := ⟨hK, va_S.rf, hB0⟩
  have hF : h_F [(13, 1)] z I0 I0 := h_F.rf
  have hx := B.exec
  have hb := B.bytes
  have hr := B.returns
  have hts := atoms_spec (ws := wsX12_end) B.pre
  have hown : s.vm.findClass RX12 = some m.cls := findClass_of_methodNamed B.named
  have hlocks := B.notSynchronized
  have iX12 : ∀ w ∈ u_ws RX12 TX12 51, w ∈ wsX12_end := by decide +kernel
  have hl := lv_entry ([.ref a0, .int n]) (n := 2) (Nat.le_of_ble_eq_true rfl)
  rw [lg_entry_eq]
  generalize (lg_sl ([.ref a0, .int n]) ++ List.replicate (2 - (lg_sl ([.ref a0, .int n])).length) Slot.unset).toArray = ls at hl ⊢
  have hl : lv_has ls 2 [(0, .ref a0), (1, .int n)] := hl
  have b_n : -2147483648 ≤ n_t ∧ n_t ≤ 2147483647 := h_n ▸ ⟨xi_lo n, Int.le_of_lt_add_one (xi_hi n)⟩
  obtain ⟨f0_1, ef0_1⟩ : ∃ v : Int32, v = I0 a0 1 := ⟨_, rfl⟩
  have qf0_1 : (I0 a0 1).toInt = f0_1.toInt := congrArg Int32.toInt ef0_1.symm
  have jf0_1 := hI.rd a0 1 t_a0 ef0_1 (rfl : h_bd 13 1 = (0, 500))
  refine lv_iload_n hx hb dX12_end_0 rfl (lv_at hl 1 rfl) ?_
  refine lv_if_lt (tgt := 12) hx hb dX12_end_1 (by decide) (fun c1 => ?_) (fun c1 => ?_)
  · have ic1 := (xi_lt c1 h_n (by decide) : n_t < 0)
    refine lv_iconst (v := (-1)) hx hb dX12_end_12 (by decide) ?_
    have hS := g.2.1
    exact W.iret (v := (-1)) hx hb hr (fun t ht hW => ⟨⟨(-1), I0, rfl, ⟨hI, hF, (by have qr : ((-1) : Int32).toInt = (-1) := (by decide); omega)⟩, h_ret g ht⟩, hS.F ht⟩) hS.2.2 dX12_end_13
  · have ic1 := (xi_nlt c1 h_n (by decide) : 0 ≤ n_t)
    refine lv_iload_n hx hb dX12_end_4 rfl (lv_at hl 1 rfl) ?_
    refine lv_aload_n hx hb dX12_end_5 rfl (lv_at hl 0 rfl) ?_
    refine h_get (v := .int f0_1) hx hb hts iX12 hown g t_a0 (by decide) so_13 rfl 1 (by decide) (hts (.fieldLink RX12 119 "CapLeagueModel" "taped" "I") (by decide +kernel)) rfl dX12_end_6 (congrArg Value.int (ef0_1.symm)) ?_
    refine lv_icmp_le (tgt := 14) hx hb dX12_end_9 (by decide) (fun c2 => ?_) (fun c2 => ?_)
    · have ic2 := (xi_le c2 h_n rfl : n_t ≤ f0_1.toInt)
      refine lv_aload_n hx hb dX12_end_14 rfl (lv_at hl 0 rfl) ?_
      refine lv_iload_n hx hb dX12_end_15 rfl (lv_at hl 1 rfl) ?_
      refine h_putI (ty := .int) (v := n) hx hb hts iX12 tyX12 tyX12_ok nmX12 hown g t_a0 (by decide) so_13 rfl 1 (by decide) rfl (hts (.fieldLink RX12 119 "CapLeagueModel" "taped" "I") (by decide +kernel)) rfl rfl (by decide +kernel) rfl rfl dX12_end_16 (fun I3 H locs eI3 g => ?_)
      have hI := hI.wr eI3 t_a0 (rfl : h_bd 13 1 = (0, 500)) (by rw [h_n]; omega) (by rw [h_n]; omega)
      have hF := hF.wr eI3 t_a0 rfl
      refine lv_iload_n hx hb dX12_end_19 rfl (lv_at hl 1 rfl) ?_
      have hS := g.2.1
      exact W.iret (v := n) hx hb hr (fun t ht hW => ⟨⟨n, I3, rfl, ⟨hI, hF, (by have q1_ : (I3 a0 1).toInt = n_t := (congrArg Int32.toInt (h_n0 eI3)).trans h_n; omega)⟩, h_ret g ht⟩, hS.F ht⟩) hS.2.2 dX12_end_20
    · have ic2 := (xi_nle c2 h_n rfl : f0_1.toInt < n_t)
      refine lv_iconst (v := (-1)) hx hb dX12_end_12 (by decide) ?_
      have hS := g.2.1
      exact W.iret (v := (-1)) hx hb hr (fun t ht hW => ⟨⟨(-1), I0, rfl, ⟨hI, hF, (by have qr : ((-1) : Int32).toInt = (-1) := (by decide); omega)⟩, h_ret g ht⟩, hS.F ht⟩) hS.2.2 dX12_end_13
set_option maxHeartbeats 4000000 in
set_option maxRecDepth 100000 in
theorem tX0_isNowX (l : Launch) (E : tE) (X : tX) (A : Nat → Prop) (z : tZ) (I0 : tI) (L0 : tL) (a0 : Nat) (t_a0 : z.ty a0 = 1) (y : Int32) (y_t : Int) (h_y : y.toInt = y_t) : Met l yX0_isNowOrLater wsX0_isNowOrLater ({ frames := 2, cells := 0, slots := 0, locals := 128 }) (va_Pc [.ref a0, .int y] (h_P E X A z I0 L0)) (vp_Si (fun r => (0 ≤ r.toInt ∧ r.toInt ≤ 1) ∧ ((r.toInt = 1 ∧ (I0 a0 3).toInt ≤ y_t ∧ 0 ≤ y_t ∧ y_t ≤ 9) ∨ (r.toInt = 0 ∧ ¬ ((I0 a0 3).toInt ≤ y_t ∧ y_t ≤ 9))))) 0 0 (fun _ => False) := by
  refine Met.ofW (cc := cX0_isNowOrLater) (maxL := 2) (ret := (some .boolean)) (by decide) rfl ?_
  intro pr_ ev_ s m args below meth cd_ s₁ B hml hv
  obtain ⟨rfl, hE, hk, hX, hA, hK, hI, hR, hB0⟩ := hv
  have g : h_G h_so h_fk E A z I0 L0 s s.heap s.heap [] := ⟨hK, va_S.rf, hB0⟩
  have hx := B.exec
  have hb := B.bytes
  have hr := B.returns
  have hts := atoms_spec (ws := wsX0_isNowOrLater) B.pre
  have hown : s.vm.findClass RX0 = some m.cls := findClass_of_methodNamed B.named
  have hlocks := B.notSynchronized
  have iX0 : ∀ w ∈ u_ws RX0 TX0 9, w ∈ wsX0_isNowOrLater := by decide +kernel
  have hl := lv_entry ([.ref a0, .int y]) (n := 2) (Nat.le_of_ble_eq_true rfl)
  rw [lg_entry_eq]
  generalize (lg_sl ([.ref a0, .int y]) ++ List.replicate (2 - (lg_sl ([.ref a0, .int y])).length) Slot.unset).toArray = ls at hl ⊢
  have hl : lv_has ls 2 [(0, .ref a0), (1, .int y)] := hl
  have b_y : -2147483648 ≤ y_t ∧ y_t ≤ 2147483647 := h_y ▸ ⟨xi_lo y, Int.le_of_lt_add_one (xi_hi y)⟩
  obtain ⟨f0_3, ef0_3⟩ : ∃ v : Int32, v = I0 a0 3 := ⟨_, rfl⟩
  have qf0_3 : (I0 a0 3).toInt = f0_3.toInt := congrArg Int32.toInt ef0_3.symm
  have jf0_3 := hI.rd a0 3 t_a0 ef0_3 (rfl : h_bd 1 3 = (0, 9))
  refine lv_iload_n hx hb dX0_isNowOrLater_0 rfl (lv_at hl 1 rfl) ?_
  refine vp_callSi (xr_of (va_runSN (As := [.int y]) (rest := []) ⟨hx, hb, hml, hown, hts⟩ (tX11_isYear l E X A z I0 L0 y (y_t) h_y) (⟨va_cnB 1 hts gX0_isNowOrLater_X11_isYear_n47 rfl rfl rfl (hE.link 5 rfl) (hts (.initialized RX11) (by decide +kernel)) (by decide +kernel) ⟨Nat.le_of_ble_eq_true rfl, Nat.le_of_ble_eq_true rfl⟩, hts (.static yX11_isYear) (by decide +kernel), trivial⟩) ⟨h_blind _ _ _ _ _ _ _, h_pre _ hE hk hX hA hI hR g⟩ rfl rfl hl.1 rfl (lv_room (Nat.le_of_ble_eq_true rfl)) dX0_isNowOrLater_1 ⟨Nat.le_of_ble_eq_true rfl, Nat.le_of_ble_eq_true rfl⟩)) (fun rh1 h1 => ?_)
  rcases h1 with ⟨rfl, h1⟩ | ⟨rfl, h1⟩
  · skip
    refine lv_if_eq (tgt := 19) hx hb dX0_isNowOrLater_4 (by decide) (fun _ => ?_) (fun h => absurd (by decide) h)
    refine lv_iconst (v := 0) hx hb dX0_isNowOrLater_19 (by decide) ?_
    exact W.zret (v := 0) hx hb hr (by decide) (fun t ht hW => ⟨0, rfl, ⟨⟨(by decide), (by decide)⟩, (by have qr : (0 : Int32).toInt = 0 := (by decide); omega)⟩, ht⟩) (fun _ h => by cases h) dX0_isNowOrLater_20
  · skip
    refine lv_if_eq (tgt := 19) hx hb dX0_isNowOrLater_4 (by decide) (fun h => absurd h (by decide)) (fun _ => ?_)
    refine lv_iload_n hx hb dX0_isNowOrLater_7 rfl (lv_at hl 1 rfl) ?_
    refine lv_aload_n hx hb dX0_isNowOrLater_8 rfl (lv_at hl 0 rfl) ?_
    refine h_get (v := .int f0_3) hx hb hts iX0 hown g t_a0 (by decide) so_1 rfl 3 (by decide) (hts (.fieldLink RX0 37 "CapLeague$Books" "clock" "I") (by decide +kernel)) rfl dX0_isNowOrLater_9 (congrArg Value.int (ef0_3.symm)) ?_
    refine lv_icmp_lt (tgt := 19) hx hb dX0_isNowOrLater_12 (by decide) (fun c4 => ?_) (fun c4 => ?_)
    · have ic4 := (xi_lt c4 h_y rfl : y_t < f0_3.toInt)
      refine lv_iconst (v := 0) hx hb dX0_isNowOrLater_19 (by decide) ?_
      exact W.zret (v := 0) hx hb hr (by decide) (fun t ht hW => ⟨0, rfl, ⟨⟨(by decide), (by decide)⟩, (by have qr : (0 : Int32).toInt = 0 := (by decide); omega)⟩, ht⟩) (fun _ h => by cases h) dX0_isNowOrLater_20
    · have ic4 := (xi_nlt c4 h_y rfl : f0_3.toInt ≤ y_t)
      refine lv_iconst (v := 1) hx hb dX0_isNowOrLater_15 (by decide) ?_
      refine lv_goto (tgt := 20) hx hb dX0_isNowOrLater_16 (by decide) ?_
      exact W.zret (v := 1) hx hb hr (by decide) (fun t ht hW => ⟨1, rfl, ⟨⟨(by decide), (by decide)⟩, (by have qr : (1 : Int32).toInt = 1 := (by decide); omega)⟩, ht⟩) (fun _ h => by cases h) dX0_isNowOrLater_20
