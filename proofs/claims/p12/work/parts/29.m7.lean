set_option maxHeartbeats 4000000 in
set_option maxRecDepth 100000 in
theorem tX12_draw (l : Launch) (E : tE) (X : tX) (A : Nat → Prop) (z : tZ) (I0 : tI) (L0 : tL) (a0 : Nat) (t_a0 : z.ty a0 = 13) (a : Int32) (a_t : Int) (h_a : a.toInt = a_t) (b : Int32) (b_t : Int) (h_b : b.toInt = b_t) : Met l yX12_draw wsX12_draw ({ frames := 5, cells := 0, slots := 0, locals := 320 }) (va_Pc [.ref a0, .int a, .int b] (h_P E X A z I0 L0)) (va_Qi (fun r (I1 : tI) => h_I z I1 ∧ h_F [(1348, 999), (1328, 999), (1325, 999), (1327, 999), (1329, 999), (13, 31), (13, 33)] z I0 I1 ∧ True) (fun (I1 : tI) t => h_B E A z I1 L0 t) A) 0 0 A := by
  refine Met.ofW (cc := cX12_draw) (maxL := 6) (ret := (some .int)) (by decide) rfl ?_
  intro pr_ ev_ s m args below meth cd_ s₁ B hml hv
  obtain ⟨rfl, hE, hk, hX, hA, hK, hI, hR, hB0⟩ := hv
  have g : h_G h_so h_fk E A z I0 L0 s s.heap s.heap [] := ⟨hK, va_S.rf, hB0⟩
  have hF : h_F [(1348, 999), (1328, 999), (1325, 999), (1327, 999), (1329, 999), (13, 31), (13, 33)] z I0 I0 := h_F.rf
  have hx := B.exec
  have hb := B.bytes
  have hr := B.returns
  have hts := atoms_spec (ws := wsX12_draw) B.pre
  have hown : s.vm.findClass RX12 = some m.cls := findClass_of_methodNamed B.named
  have hlocks := B.notSynchronized
  have iX12 : ∀ w ∈ u_ws RX12 TX12 51, w ∈ wsX12_draw := by decide +kernel
  have hl := lv_entry ([.ref a0, .int a, .int b]) (n := 6) (Nat.le_of_ble_eq_true rfl)
  rw [lg_entry_eq]
  generalize (lg_sl ([.ref a0, .int a, .int b]) ++ List.replicate (6 - (lg_sl ([.ref a0, .int a, .int b])).length) Slot.unset).toArray = ls at hl ⊢
  have hl : lv_has ls 6 [(0, .ref a0), (1, .int a), (2, .int b)] := hl
  have b_a : -2147483648 ≤ a_t ∧ a_t ≤ 2147483647 := h_a ▸ ⟨xi_lo a, Int.le_of_lt_add_one (xi_hi a)⟩
  have b_b : -2147483648 ≤ b_t ∧ b_t ≤ 2147483647 := h_b ▸ ⟨xi_lo b, Int.le_of_lt_add_one (xi_hi b)⟩
  obtain ⟨lw, rlw, tlw⟩ := hR.at a0 10 t_a0 (rfl : h_rs 13 10 = some (1310, false)) (by decide)
  have alw : h_ad z a0 10 = lw := h_ad.at rlw
  obtain ⟨hw, rhw, thw⟩ := hR.at a0 11 t_a0 (rfl : h_rs 13 11 = some (1311, false)) (by decide)
  have ahw : h_ad z a0 11 = hw := h_ad.at rhw
  obtain ⟨ot, rot, tot⟩ := hR.at a0 48 t_a0 (rfl : h_rs 13 48 = some (1348, false)) (by decide)
  have aot : h_ad z a0 48 = ot := h_ad.at rot
  obtain ⟨dr, rdr, tdr⟩ := hR.at a0 28 t_a0 (rfl : h_rs 13 28 = some (1328, false)) (by decide)
  have adr : h_ad z a0 28 = dr := h_ad.at rdr
  obtain ⟨f0_12, ef0_12⟩ : ∃ v : Int32, v = I0 a0 12 := ⟨_, rfl⟩
  have qf0_12 : (I0 a0 12).toInt = f0_12.toInt := congrArg Int32.toInt ef0_12.symm
  have jf0_12 := hI.rd a0 12 t_a0 ef0_12 (rfl : h_bd 13 12 = (0, 9))
  obtain ⟨f0_30, ef0_30⟩ : ∃ v : Int32, v = I0 a0 30 := ⟨_, rfl⟩
  have qf0_30 : (I0 a0 30).toInt = f0_30.toInt := congrArg Int32.toInt ef0_30.symm
  have jf0_30 := hI.rd a0 30 t_a0 ef0_30 (rfl : h_bd 13 30 = (0, 1))
  obtain ⟨f0_31, ef0_31⟩ : ∃ v : Int32, v = I0 a0 31 := ⟨_, rfl⟩
  have qf0_31 : (I0 a0 31).toInt = f0_31.toInt := congrArg Int32.toInt ef0_31.symm
  have jf0_31 := hI.rd a0 31 t_a0 ef0_31 (rfl : h_bd 13 31 = (0, 1))
  have hlb : ∀ q, _ := fun q => h_lt0_b (q := q) hI tlw
  have hwb : ∀ q i, _ := fun q i => h_wt_b (q := q) hI tlw i
  obtain ⟨q, hq⟩ := h_blk.ex (I0 hw) (I0 a0 12).toNatClampNeg
  have hlb := hlb q
  have hwb := hwb q
  refine lv_iconst (v := 0) hx hb dX12_draw_0 (by decide) ?_
  refine lv_istore_n (lv' := [(3, .int 0), (0, .ref a0), (1, .int a), (2, .int b)]) hx hb dX12_draw_1 rfl hl (by decide) rfl (fun ls hl => ?_)
  have loop2_0 : ∀ (n : Nat) (I2 : tI) (H : Heap) (locs : List Loc) (ls : Array Slot) (v1 : Int32), h_G h_so h_fk E A z I2 L0 s s.heap H locs → h_I z I2 → h_F [(1348, 999), (1328, 999), (1325, 999), (1327, 999), (1329, 999), (13, 31), (13, 33)] z I0 I2 → lv_has ls 6 [(0, .ref a0), (1, .int a), (2, .int b), (3, .int v1)] → (0 ≤ v1.toInt ∧ v1.toInt ≤ 8) → (∀ k : Nat, (k : Int) < v1.toInt → I2 ot k = 0) → (8 - v1.toInt) < (n : Int) → W pr_ l ev_ (headSpec wsX12_draw ({ frames := 5, cells := 0, slots := 0, locals := 320 })).room s m ([.ref a0, .int a, .int b] : List Value).toArray below meth cd_ H locs 0 0 (MQ below (va_Qi (fun r (I1 : tI) => h_I z I1 ∧ h_F [(1348, 999), (1328, 999), (1325, 999), (1327, 999), (1329, 999), (13, 31), (13, 33)] z I0 I1 ∧ True) (fun (I1 : tI) t => h_B E A z I1 L0 t) A) ([.ref a0, .int a, .int b] : List Value).toArray s 0 0 A) (F0 m 2 ls []) := by
    intro n
    induction n with
    | zero => intro I2 H locs ls v1 g hI hF hl jv1 hx2_0 hn; exact absurd hn (by omega)
    | succ n ih2 =>
      intro I2 H locs ls v1 g hI hF hl jv1 hx2_0 hn
      have hF2 := hF
      refine lv_iload_n hx hb dX12_draw_2 rfl (lv_at hl 3 rfl) ?_
      refine lv_bipush (v := 8) hx hb dX12_draw_3 (by decide) ?_
      refine lv_icmp_ge (tgt := 21) hx hb dX12_draw_5 (by decide) (fun c3 => ?_) (fun c3 => ?_)
      · have ic3 := (xi_le c3 (by decide) rfl : 8 ≤ v1.toInt)
        refine lv_iconst (v := 0) hx hb dX12_draw_21 (by decide) ?_
        refine lv_istore_n (lv' := [(3, .int 0), (0, .ref a0), (1, .int a), (2, .int b)]) hx hb dX12_draw_22 rfl hl (by decide) rfl (fun ls hl => ?_)
        refine lv_aload_n hx hb dX12_draw_23 rfl (lv_at hl 1 rfl) ?_
        refine vp_callSi (W.runV (As := []) (rest := []) ⟨hx, hb, hml, hown, hts⟩ (tX12_lotsC l E X A z I2 L0 a0 t_a0 (q) (by rw [ahw, show I2 hw = I0 hw from funext (fun k => hF.at thw rfl), show I2 a0 12 = I0 a0 12 from hF.at t_a0 rfl]; exact hq)) (cwV 0 hts gX12_draw_X12_lots rfl rfl rfl (by decide +kernel) ⟨Nat.le_of_ble_eq_true rfl, Nat.le_of_ble_eq_true rfl⟩) ⟨h_blind _ _ _ _ _ _ _, h_recv g t_a0 (by decide) so_13 (q := (RX12, TX12, 51)) rfl, h_pre _ hE hk hX hA hI hR g⟩ rfl rfl hl.1 rfl (lv_room (Nat.le_of_ble_eq_true rfl)) dX12_draw_24 ⟨Nat.le_of_ble_eq_true rfl, Nat.le_of_ble_eq_true rfl⟩) (fun rh4 h4 => ?_)
        obtain ⟨h4, h4p0⟩ := h4
        rw [alw, show I2 lw = I0 lw from funext (fun k => hF.at tlw rfl)] at h4p0
        refine lv_if_ne (tgt := 41) hx hb dX12_draw_27 (by decide) (fun c5 => ?_) (fun c5 => ?_)
        · have ic5 := (xi_ne c5 rfl (by decide) : rh4.toInt ≠ 0)
          refine lv_iload_n hx hb dX12_draw_41 rfl (lv_at hl 2 rfl) ?_
          refine lv_i2l hx hb dX12_draw_42 rfl ?_
          refine lv_topl (fun v6 ev6 => ?_)
          have jv6 : v6.toInt = a_t := by rw [ev6, xi_64]; exact h_a
          refine lv_lconst (v := 0) hx hb dX12_draw_43 (by decide) ?_
          refine lv_aload_n hx hb dX12_draw_44 rfl (lv_at hl 1 rfl) ?_
          refine vp_callSi (W.runV (As := []) (rest := [.long 0, .long v6]) ⟨hx, hb, hml, hown, hts⟩ (tX12_weightsC l E X A z I2 L0 a0 t_a0 (q) (by rw [ahw, show I2 hw = I0 hw from funext (fun k => hF.at thw rfl), show I2 a0 12 = I0 a0 12 from hF.at t_a0 rfl]; exact hq)) (cwV 0 hts gX12_draw_X12_weights rfl rfl rfl (by decide +kernel) ⟨Nat.le_of_ble_eq_true rfl, Nat.le_of_ble_eq_true rfl⟩) ⟨h_blind _ _ _ _ _ _ _, h_recv g t_a0 (by decide) so_13 (q := (RX12, TX12, 51)) rfl, h_pre _ hE hk hX hA hI hR g⟩ rfl rfl hl.1 rfl (lv_room (Nat.le_of_ble_eq_true rfl)) dX12_draw_45 ⟨Nat.le_of_ble_eq_true rfl, Nat.le_of_ble_eq_true rfl⟩) (fun rh7 h7 => ?_)
          obtain ⟨h7, h7p0⟩ := h7
          rw [alw, show I2 lw = I0 lw from funext (fun k => hF.at tlw rfl)] at h7p0
          refine lv_iconst (v := 1) hx hb dX12_draw_48 (by decide) ?_
          refine lv_isub hx hb dX12_draw_49 ?_
          refine lv_topi (fun v8 ev8 => ?_)
          have jv8 : v8.toInt = rh7.toInt - 1 := xi_sub ev8 rfl (by decide) (by omega) (by omega)
          refine lv_i2l hx hb dX12_draw_50 rfl ?_
          refine lv_topl (fun v9 ev9 => ?_)
          have jv9 : v9.toInt = v8.toInt := by rw [ev9, xi_64]
          refine vp_callSi (W.runS (As := [.long v6, .long 0, .long v9]) (rest := []) ⟨hx, hb, hml, hown, hts⟩ (tX12_in l E X A z I2 L0 v6 (a_t) jv6 0 (0) (by decide) v9 (v8.toInt) jv9) (va_cwS 3 hts gX12_draw_X12_in rfl rfl rfl (by decide +kernel) ⟨Nat.le_of_ble_eq_true rfl, Nat.le_of_ble_eq_true rfl⟩) ⟨h_blind _ _ _ _ _ _ _, h_pre _ hE hk hX hA hI hR g⟩ rfl rfl hl.1 rfl (lv_room (Nat.le_of_ble_eq_true rfl)) dX12_draw_51 ⟨Nat.le_of_ble_eq_true rfl, Nat.le_of_ble_eq_true rfl⟩) (fun rh10 h10 => ?_)
          rcases h10 with ⟨rfl, h10⟩ | ⟨rfl, h10⟩
          · skip
            refine lv_if_ne (tgt := 60) hx hb dX12_draw_54 (by decide) (fun h => absurd (by decide) h) (fun _ => ?_)
            refine lv_bipush (v := (-2)) hx hb dX12_draw_57 (by decide) ?_
            have hS := g.2.1
            exact W.iret (v := (-2)) hx hb hr (fun t ht hW => ⟨⟨(-2), I2, rfl, ⟨hI, hF, trivial⟩, h_ret g ht⟩, hS.F ht⟩) hS.2.2 dX12_draw_59
          · skip
            refine lv_if_ne (tgt := 60) hx hb dX12_draw_54 (by decide) (fun _ => ?_) (fun h => absurd h (by decide))
            refine lv_iload_n hx hb dX12_draw_60 rfl (lv_at hl 3 rfl) ?_
            refine lv_i2l hx hb dX12_draw_61 rfl ?_
            refine lv_topl (fun v13 ev13 => ?_)
            have jv13 : v13.toInt = b_t := by rw [ev13, xi_64]; exact h_b
            refine lv_lconst (v := 0) hx hb dX12_draw_62 (by decide) ?_
            refine lv_aload_n hx hb dX12_draw_63 rfl (lv_at hl 1 rfl) ?_
            refine vp_callSi (W.runV (As := []) (rest := [.long 0, .long v13]) ⟨hx, hb, hml, hown, hts⟩ (tX12_weightsC l E X A z I2 L0 a0 t_a0 (q) (by rw [ahw, show I2 hw = I0 hw from funext (fun k => hF.at thw rfl), show I2 a0 12 = I0 a0 12 from hF.at t_a0 rfl]; exact hq)) (cwV 0 hts gX12_draw_X12_weights rfl rfl rfl (by decide +kernel) ⟨Nat.le_of_ble_eq_true rfl, Nat.le_of_ble_eq_true rfl⟩) ⟨h_blind _ _ _ _ _ _ _, h_recv g t_a0 (by decide) so_13 (q := (RX12, TX12, 51)) rfl, h_pre _ hE hk hX hA hI hR g⟩ rfl rfl hl.1 rfl (lv_room (Nat.le_of_ble_eq_true rfl)) dX12_draw_64 ⟨Nat.le_of_ble_eq_true rfl, Nat.le_of_ble_eq_true rfl⟩) (fun rh14 h14 => ?_)
            obtain ⟨h14, h14p0⟩ := h14
            rw [alw, show I2 lw = I0 lw from funext (fun k => hF.at tlw rfl)] at h14p0
            refine lv_aload_n hx hb dX12_draw_67 rfl (lv_at hl 1 rfl) ?_
            refine lv_aload_n hx hb dX12_draw_68 rfl (lv_at hl 1 rfl) ?_
            refine lv_iload_n hx hb dX12_draw_69 rfl (lv_at hl 2 rfl) ?_
            refine vp_callSi (W.runV (As := [.int a]) (rest := [.ref a0, .int rh14, .long 0, .long v13]) ⟨hx, hb, hml, hown, hts⟩ (tX12_drawnByC l E X A z I2 L0 a0 t_a0 a (a_t) h_a (by omega) (q) (by rw [ahw, show I2 hw = I0 hw from funext (fun k => hF.at thw rfl), show I2 a0 12 = I0 a0 12 from hF.at t_a0 rfl]; exact hq) (by rw [alw, aot, show I2 lw = I0 lw from funext (fun k => hF.at tlw rfl), h_sum_congr (v := h_wt (I0 lw) q) (fun i hi => h_wo_is (hx2_0 i (by omega)))]; omega)) (cwV 1 hts gX12_draw_X12_drawnBy rfl rfl rfl (by decide +kernel) ⟨Nat.le_of_ble_eq_true rfl, Nat.le_of_ble_eq_true rfl⟩) ⟨h_blind _ _ _ _ _ _ _, h_recv g t_a0 (by decide) so_13 (q := (RX12, TX12, 51)) rfl, h_pre _ hE hk hX hA hI hR g⟩ rfl rfl hl.1 rfl (lv_room (Nat.le_of_ble_eq_true rfl)) dX12_draw_70 ⟨Nat.le_of_ble_eq_true rfl, Nat.le_of_ble_eq_true rfl⟩) (fun rh15 h15 => ?_)
            obtain ⟨h15, h15p0, h15p1, h15p2⟩ := h15
            rw [alw, show I2 lw = I0 lw from funext (fun k => hF.at tlw rfl)] at h15p0
            rw [aot] at h15p1
            rw [alw, aot, show I2 lw = I0 lw from funext (fun k => hF.at tlw rfl)] at h15p2
            refine vp_callSi (W.runV (As := [.int rh15]) (rest := [.int rh14, .long 0, .long v13]) ⟨hx, hb, hml, hown, hts⟩ (tX12_weightC l E X A z I2 L0 a0 t_a0 rh15 (rh15.toInt) rfl (by omega) (q) (by rw [ahw, show I2 hw = I0 hw from funext (fun k => hF.at thw rfl), show I2 a0 12 = I0 a0 12 from hF.at t_a0 rfl]; exact hq)) (cwV 1 hts gX12_draw_X12_weight rfl rfl rfl (by decide +kernel) ⟨Nat.le_of_ble_eq_true rfl, Nat.le_of_ble_eq_true rfl⟩) ⟨h_blind _ _ _ _ _ _ _, h_recv g t_a0 (by decide) so_13 (q := (RX12, TX12, 51)) rfl, h_pre _ hE hk hX hA hI hR g⟩ rfl rfl hl.1 rfl (lv_room (Nat.le_of_ble_eq_true rfl)) dX12_draw_73 ⟨Nat.le_of_ble_eq_true rfl, Nat.le_of_ble_eq_true rfl⟩) (fun rh16 h16 => ?_)
            obtain ⟨h16, h16p0⟩ := h16
            rw [alw, show I2 lw = I0 lw from funext (fun k => hF.at tlw rfl)] at h16p0
            refine lv_isub hx hb dX12_draw_76 ?_
            refine lv_topi (fun v17 ev17 => ?_)
            have jv17 : v17.toInt = rh14.toInt - rh16.toInt := xi_sub ev17 rfl rfl (by omega) (by omega)
            refine lv_iconst (v := 1) hx hb dX12_draw_77 (by decide) ?_
            refine lv_isub hx hb dX12_draw_78 ?_
            refine lv_topi (fun v18 ev18 => ?_)
            have jv18 : v18.toInt = v17.toInt - 1 := xi_sub ev18 rfl (by decide) (by omega) (by omega)
            refine lv_i2l hx hb dX12_draw_79 rfl ?_
            refine lv_topl (fun v19 ev19 => ?_)
            have jv19 : v19.toInt = v18.toInt := by rw [ev19, xi_64]
            refine vp_callSi (W.runS (As := [.long v13, .long 0, .long v19]) (rest := []) ⟨hx, hb, hml, hown, hts⟩ (tX12_in l E X A z I2 L0 v13 (b_t) jv13 0 (0) (by decide) v19 (v18.toInt) jv19) (va_cwS 3 hts gX12_draw_X12_in rfl rfl rfl (by decide +kernel) ⟨Nat.le_of_ble_eq_true rfl, Nat.le_of_ble_eq_true rfl⟩) ⟨h_blind _ _ _ _ _ _ _, h_pre _ hE hk hX hA hI hR g⟩ rfl rfl hl.1 rfl (lv_room (Nat.le_of_ble_eq_true rfl)) dX12_draw_80 ⟨Nat.le_of_ble_eq_true rfl, Nat.le_of_ble_eq_true rfl⟩) (fun rh20 h20 => ?_)
            rcases h20 with ⟨rfl, h20⟩ | ⟨rfl, h20⟩
            · skip
              refine lv_if_ne (tgt := 89) hx hb dX12_draw_83 (by decide) (fun h => absurd (by decide) h) (fun _ => ?_)
              refine lv_bipush (v := (-2)) hx hb dX12_draw_86 (by decide) ?_
              have hS := g.2.1
              exact W.iret (v := (-2)) hx hb hr (fun t ht hW => ⟨⟨(-2), I2, rfl, ⟨hI, hF, trivial⟩, h_ret g ht⟩, hS.F ht⟩) hS.2.2 dX12_draw_88
            · skip
              refine lv_if_ne (tgt := 89) hx hb dX12_draw_83 (by decide) (fun _ => ?_) (fun h => absurd h (by decide))
              refine lv_aload_n hx hb dX12_draw_89 rfl (lv_at hl 1 rfl) ?_
              refine h_get (v := .int f0_30) hx hb hts iX12 hown g t_a0 (by decide) so_13 rfl 30 (by decide) (hts (.fieldLink RX12 306 "CapLeagueModel" "hasTable" "Z") (by decide +kernel)) rfl dX12_draw_90 (congrArg Value.int ((h_F.at hF2 t_a0 rfl).trans (ef0_30.symm))) ?_
              refine lv_if_eq (tgt := 103) hx hb dX12_draw_93 (by decide) (fun c23 => ?_) (fun c23 => ?_)
              · have ic23 := (xi_eq c23 rfl (by decide) : f0_30.toInt = 0)
                refine lv_bipush (v := (-4)) hx hb dX12_draw_103 (by decide) ?_
                have hS := g.2.1
                exact W.iret (v := (-4)) hx hb hr (fun t ht hW => ⟨⟨(-4), I2, rfl, ⟨hI, hF, trivial⟩, h_ret g ht⟩, hS.F ht⟩) hS.2.2 dX12_draw_105
              · have ic23 := (xi_ne c23 rfl (by decide) : f0_30.toInt ≠ 0)
                refine lv_aload_n hx hb dX12_draw_96 rfl (lv_at hl 1 rfl) ?_
                refine h_get (v := .int (I2 a0 31)) hx hb hts iX12 hown g t_a0 (by decide) so_13 rfl 31 (by decide) (hts (.fieldLink RX12 264 "CapLeagueModel" "isDrawn" "Z") (by decide +kernel)) rfl dX12_draw_97 rfl ?_
                refine lv_topi (fun v24 ev24 => ?_)
                have jv24 := hI.rd a0 31 t_a0 ev24 (rfl : h_bd 13 31 = (0, 1))
                refine lv_if_eq (tgt := 106) hx hb dX12_draw_100 (by decide) (fun c25 => ?_) (fun c25 => ?_)
                · have ic25 := (xi_eq c25 rfl (by decide) : v24.toInt = 0)
                  refine lv_aload_n hx hb dX12_draw_106 rfl (lv_at hl 1 rfl) ?_
                  refine vp_callSi (W.runV (As := []) (rest := []) ⟨hx, hb, hml, hown, hts⟩ (tX12_lotsC l E X A z I2 L0 a0 t_a0 (q) (by rw [ahw, show I2 hw = I0 hw from funext (fun k => hF.at thw rfl), show I2 a0 12 = I0 a0 12 from hF.at t_a0 rfl]; exact hq)) (cwV 0 hts gX12_draw_X12_lots rfl rfl rfl (by decide +kernel) ⟨Nat.le_of_ble_eq_true rfl, Nat.le_of_ble_eq_true rfl⟩) ⟨h_blind _ _ _ _ _ _ _, h_recv g t_a0 (by decide) so_13 (q := (RX12, TX12, 51)) rfl, h_pre _ hE hk hX hA hI hR g⟩ rfl rfl hl.1 rfl (lv_room (Nat.le_of_ble_eq_true rfl)) dX12_draw_107 ⟨Nat.le_of_ble_eq_true rfl, Nat.le_of_ble_eq_true rfl⟩) (fun rh26 h26 => ?_)
                  obtain ⟨h26, h26p0⟩ := h26
                  rw [alw, show I2 lw = I0 lw from funext (fun k => hF.at tlw rfl)] at h26p0
                  refine lv_if_le (tgt := 185) hx hb dX12_draw_110 (by decide) (fun c27 => ?_) (fun c27 => ?_)
                  · have ic27 := (xi_le c27 rfl (by decide) : rh26.toInt ≤ 0)
                    exfalso
                    omega
                  · have ic27 := (xi_nle c27 rfl (by decide) : 0 < rh26.toInt)
                    refine lv_aload_n hx hb dX12_draw_113 rfl (lv_at hl 1 rfl) ?_
                    refine lv_iload_n hx hb dX12_draw_114 rfl (lv_at hl 2 rfl) ?_
                    refine vp_callSi (W.runV (As := [.int a]) (rest := []) ⟨hx, hb, hml, hown, hts⟩ (tX12_drawnByC l E X A z I2 L0 a0 t_a0 a (a_t) h_a (by omega) (q) (by rw [ahw, show I2 hw = I0 hw from funext (fun k => hF.at thw rfl), show I2 a0 12 = I0 a0 12 from hF.at t_a0 rfl]; exact hq) (by rw [alw, aot, show I2 lw = I0 lw from funext (fun k => hF.at tlw rfl), h_sum_congr (v := h_wt (I0 lw) q) (fun i hi => h_wo_is (hx2_0 i (by omega)))]; omega)) (cwV 1 hts gX12_draw_X12_drawnBy rfl rfl rfl (by decide +kernel) ⟨Nat.le_of_ble_eq_true rfl, Nat.le_of_ble_eq_true rfl⟩) ⟨h_blind _ _ _ _ _ _ _, h_recv g t_a0 (by decide) so_13 (q := (RX12, TX12, 51)) rfl, h_pre _ hE hk hX hA hI hR g⟩ rfl rfl hl.1 rfl (lv_room (Nat.le_of_ble_eq_true rfl)) dX12_draw_115 ⟨Nat.le_of_ble_eq_true rfl, Nat.le_of_ble_eq_true rfl⟩) (fun rh28 h28 => ?_)
                    obtain ⟨h28, h28p0, h28p1, h28p2⟩ := h28
                    rw [alw, show I2 lw = I0 lw from funext (fun k => hF.at tlw rfl)] at h28p0
                    rw [aot] at h28p1
                    rw [alw, aot, show I2 lw = I0 lw from funext (fun k => hF.at tlw rfl)] at h28p2
                    have exx : rh28.toInt.toNat = rh15.toInt.toNat := h_hit.one (n := (h_lt0 (I0 lw) q).toNat) (fun i hi => by rw [h_wo_is (hx2_0 i (by omega))]; exact (hwb i).1) h28p2 h15p2 (by omega) (by omega)
                    have ewx : h_wt (I0 lw) q rh28.toInt.toNat = h_wt (I0 lw) q rh15.toInt.toNat := by rw [exx]
                    refine lv_istore (lv' := [(4, .int rh28), (3, .int 0), (0, .ref a0), (1, .int a), (2, .int b)]) hx hb dX12_draw_118 hl (by decide) rfl (fun ls hl => ?_)
                    refine lv_aload_n hx hb dX12_draw_120 rfl (lv_at hl 2 rfl) ?_
                    refine h_get (v := .ref ot) hx hb hts iX12 hown g t_a0 (by decide) so_13 rfl 48 (by decide) (hts (.fieldLink RX12 109 "CapLeagueModel" "isOut" "[Z") (by decide +kernel)) rfl dX12_draw_121 (by show va_rf (z.R a0 48) = _; rw [rot]; rfl) ?_
                    refine lv_iload hx hb dX12_draw_124 (lv_at hl 0 rfl) ?_
                    refine lv_iconst (v := 1) hx hb dX12_draw_126 (by decide) ?_
                    refine h_zast hx hb g tot (by decide) so_1348 (xi_in (by omega) (by omega)) dX12_draw_127 (fun I29 H locs eI29 g => ?_)
                    rw [h_nz (by decide) (by decide)] at eI29
                    have hI := hI.wr eI29 tot (rfl : h_bd 1348 _ = (0, 1)) (by decide) (by decide)
                    have hF := hF.wr eI29 tot rfl
                    refine lv_aload_n hx hb dX12_draw_128 rfl (lv_at hl 2 rfl) ?_
                    refine lv_iload_n hx hb dX12_draw_129 rfl (lv_at hl 4 rfl) ?_
                    refine vp_callSi (W.runV (As := [.int b]) (rest := []) ⟨hx, hb, hml, hown, hts⟩ (tX12_drawnByC l E X A z I29 L0 a0 t_a0 b (b_t) h_b (by omega) (q) (by rw [ahw, show I29 hw = I0 hw from funext (fun k => hF.at thw rfl), show I29 a0 12 = I0 a0 12 from hF.at t_a0 rfl]; exact hq) (by rw [alw, aot, show I29 lw = I0 lw from funext (fun k => hF.at tlw rfl), h_sum_out (w := h_wt (I0 lw) q) (x := rh28.toInt.toNat) (by omega) (fun i hi hne => h_wo_is (by rw [h_n2 eI29 (h_kne (i := rh28) rfl (by omega) (by omega))]; exact hx2_0 i (by omega))) (h_wo_no (by rw [show rh28.toInt.toNat = rh28.toNatClampNeg from rfl, h_n0 eI29]; decide))]; omega)) (cwV 1 hts gX12_draw_X12_drawnBy rfl rfl rfl (by decide +kernel) ⟨Nat.le_of_ble_eq_true rfl, Nat.le_of_ble_eq_true rfl⟩) ⟨h_blind _ _ _ _ _ _ _, h_recv g t_a0 (by decide) so_13 (q := (RX12, TX12, 51)) rfl, h_pre _ hE hk hX hA hI hR g⟩ rfl rfl hl.1 rfl (lv_room (Nat.le_of_ble_eq_true rfl)) dX12_draw_130 ⟨Nat.le_of_ble_eq_true rfl, Nat.le_of_ble_eq_true rfl⟩) (fun rh30 h30 => ?_)
                    obtain ⟨h30, h30p0, h30p1, h30p2⟩ := h30
                    rw [alw, show I29 lw = I0 lw from funext (fun k => hF.at tlw rfl)] at h30p0
                    rw [aot] at h30p1
                    rw [alw, aot, show I29 lw = I0 lw from funext (fun k => hF.at tlw rfl)] at h30p2
                    have nxy : rh30.toInt ≠ rh28.toInt := by
                      intro hxy
                      rw [show rh30.toInt.toNat = rh28.toNatClampNeg from by rw [hxy]; rfl, h_n0 eI29] at h30p1
                      exact absurd h30p1 (by decide)
                    refine lv_istore (lv' := [(5, .int rh30), (4, .int rh28), (3, .int 0), (0, .ref a0), (1, .int a), (2, .int b)]) hx hb dX12_draw_133 hl (by decide) rfl (fun ls hl => ?_)
                    refine lv_aload_n hx hb dX12_draw_135 rfl (lv_at hl 3 rfl) ?_
                    refine h_get (v := .ref ot) hx hb hts iX12 hown g t_a0 (by decide) so_13 rfl 48 (by decide) (hts (.fieldLink RX12 109 "CapLeagueModel" "isOut" "[Z") (by decide +kernel)) rfl dX12_draw_136 (by show va_rf (z.R a0 48) = _; rw [rot]; rfl) ?_
                    refine lv_iload hx hb dX12_draw_139 (lv_at hl 0 rfl) ?_
                    refine lv_iconst (v := 1) hx hb dX12_draw_141 (by decide) ?_
                    refine h_zast hx hb g tot (by decide) so_1348 (xi_in (by omega) (by omega)) dX12_draw_142 (fun I31 H locs eI31 g => ?_)
                    rw [h_nz (by decide) (by decide)] at eI31
                    have hI := hI.wr eI31 tot (rfl : h_bd 1348 _ = (0, 1)) (by decide) (by decide)
                    have hF := hF.wr eI31 tot rfl
                    refine lv_aload_n hx hb dX12_draw_143 rfl (lv_at hl 3 rfl) ?_
                    refine h_get (v := .ref dr) hx hb hts iX12 hown g t_a0 (by decide) so_13 rfl 28 (by decide) (hts (.fieldLink RX12 67 "CapLeagueModel" "drawnOf" "[I") (by decide +kernel)) rfl dX12_draw_144 (by show va_rf (z.R a0 28) = _; rw [rdr]; rfl) ?_
                    refine lv_bipush (v := 8) hx hb dX12_draw_147 (by decide) ?_
                    refine lv_aload_n hx hb dX12_draw_149 rfl (lv_at hl 3 rfl) ?_
                    refine h_get (v := .int f0_12) hx hb hts iX12 hown g t_a0 (by decide) so_13 rfl 12 (by decide) (hts (.fieldLink RX12 187 "CapLeagueModel" "clock" "I") (by decide +kernel)) rfl dX12_draw_150 (congrArg Value.int ((h_n1 eI31 t_a0 tot (by decide)).trans ((h_n1 eI29 t_a0 tot (by decide)).trans ((h_F.at hF2 t_a0 rfl).trans (ef0_12.symm))))) ?_
                    refine lv_imul hx hb dX12_draw_153 ?_
                    refine lv_topi (fun v32 ev32 => ?_)
                    have jv32 : v32.toInt = 8 * f0_12.toInt := xi_mul ev32 (by decide) rfl (by omega) (by omega)
                    refine lv_aload_n hx hb dX12_draw_154 rfl (lv_at hl 3 rfl) ?_
                    obtain ⟨b33, rb33, tb33⟩ := hR.at a0 32 t_a0 (rfl : h_rs 13 32 = some (1332, false)) (by decide)
                    refine h_get (v := .ref b33) hx hb hts iX12 hown g t_a0 (by decide) so_13 rfl 32 (by decide) (hts (.fieldLink RX12 73 "CapLeagueModel" "table" "[I") (by decide +kernel)) rfl dX12_draw_155 (by show va_rf (z.R a0 32) = _; rw [rb33]; rfl) ?_
                    refine lv_iload hx hb dX12_draw_158 (lv_at hl 1 rfl) ?_
                    refine h_ald hx hb g tb33 (by decide) so_1332 (xi_in (by omega) (by omega)) dX12_draw_160 ?_
                    refine lv_topi (fun v34 ev34 => ?_)
                    have jv34 := hI.rd b33 rh28.toNatClampNeg tb33 ev34 (rfl : h_bd 1332 _ = (0, 7))
                    refine h_ast hx hb g tdr (by decide) so_1328 (xi_in (by omega) (by omega)) dX12_draw_161 (fun I35 H locs eI35 g => ?_)
                    have hI := hI.wr eI35 tdr (rfl : h_bd 1328 _ = ((-1), 7)) (by omega) (by omega)
                    have hF := hF.wr eI35 tdr rfl
                    refine lv_aload_n hx hb dX12_draw_162 rfl (lv_at hl 3 rfl) ?_
                    refine h_get (v := .ref dr) hx hb hts iX12 hown g t_a0 (by decide) so_13 rfl 28 (by decide) (hts (.fieldLink RX12 67 "CapLeagueModel" "drawnOf" "[I") (by decide +kernel)) rfl dX12_draw_163 (by show va_rf (z.R a0 28) = _; rw [rdr]; rfl) ?_
                    refine lv_bipush (v := 8) hx hb dX12_draw_166 (by decide) ?_
                    refine lv_aload_n hx hb dX12_draw_168 rfl (lv_at hl 3 rfl) ?_
                    refine h_get (v := .int f0_12) hx hb hts iX12 hown g t_a0 (by decide) so_13 rfl 12 (by decide) (hts (.fieldLink RX12 187 "CapLeagueModel" "clock" "I") (by decide +kernel)) rfl dX12_draw_169 (congrArg Value.int ((h_n1 eI35 t_a0 tdr (by decide)).trans ((h_n1 eI31 t_a0 tot (by decide)).trans ((h_n1 eI29 t_a0 tot (by decide)).trans ((h_F.at hF2 t_a0 rfl).trans (ef0_12.symm)))))) ?_
                    refine lv_imul hx hb dX12_draw_172 ?_
                    refine xw_i (v := v32) ev32.symm ?_
                    refine lv_iconst (v := 1) hx hb dX12_draw_173 (by decide) ?_
                    refine lv_iadd hx hb dX12_draw_174 ?_
                    refine lv_topi (fun v36 ev36 => ?_)
                    have jv36 : v36.toInt = v32.toInt + 1 := xi_add ev36 rfl (by decide) (by omega) (by omega)
                    refine lv_aload_n hx hb dX12_draw_175 rfl (lv_at hl 3 rfl) ?_
                    refine h_get (v := .ref b33) hx hb hts iX12 hown g t_a0 (by decide) so_13 rfl 32 (by decide) (hts (.fieldLink RX12 73 "CapLeagueModel" "table" "[I") (by decide +kernel)) rfl dX12_draw_176 (by show va_rf (z.R a0 32) = _; rw [rb33]; rfl) ?_
                    refine lv_iload hx hb dX12_draw_179 (lv_at hl 0 rfl) ?_
                    refine h_ald hx hb g tb33 (by decide) so_1332 (xi_in (by omega) (by omega)) dX12_draw_181 ?_
                    refine lv_topi (fun v37 ev37 => ?_)
                    have jv37 := hI.rd b33 rh30.toNatClampNeg tb33 ev37 (rfl : h_bd 1332 _ = (0, 7))
                    refine h_ast hx hb g tdr (by decide) so_1328 (xi_in (by omega) (by omega)) dX12_draw_182 (fun I38 H locs eI38 g => ?_)
                    have hI := hI.wr eI38 tdr (rfl : h_bd 1328 _ = ((-1), 7)) (by omega) (by omega)
                    have hF := hF.wr eI38 tdr rfl
                    refine lv_iconst (v := 2) hx hb dX12_draw_183 (by decide) ?_
                    refine lv_istore_n (lv' := [(3, .int 2), (5, .int rh30), (4, .int rh28), (0, .ref a0), (1, .int a), (2, .int b)]) hx hb dX12_draw_184 rfl hl (by decide) rfl (fun ls hl => ?_)
                    have hout : ∀ i : Int32, 0 ≤ i.toInt → i.toInt < 8 → ((I38 ot i.toNatClampNeg).toInt = 1 ∧ (i.toInt = rh28.toInt ∨ i.toInt = rh30.toInt)) ∨ ((I38 ot i.toNatClampNeg).toInt = 0 ∧ i.toInt ≠ rh28.toInt ∧ i.toInt ≠ rh30.toInt) := fun i h1 h2 => by rw [(h_n1 eI38 tot tdr (by decide)).trans (h_n1 eI35 tot tdr (by decide))]; exact h_out2 eI29 eI31 (fun k hk => hx2_0 k (by omega)) (by omega) (by omega) i h1 h2
                    refine lv_iconst (v := 0) hx hb dX12_draw_185 (by decide) ?_
                    refine lv_istore (lv' := [(4, .int 0), (3, .int 2), (5, .int rh30), (0, .ref a0), (1, .int a), (2, .int b)]) hx hb dX12_draw_186 hl (by decide) rfl (fun ls hl => ?_)
                    have loop188_1 : ∀ (n : Nat) (I41 : tI) (H : Heap) (locs : List Loc) (ls : Array Slot) (v39 v40 : Int32), h_G h_so h_fk E A z I41 L0 s s.heap H locs → h_I z I41 → h_F [(1348, 999), (1328, 999), (1325, 999), (1327, 999), (1329, 999), (13, 31), (13, 33)] z I0 I41 → lv_has ls 6 [(0, .ref a0), (3, .int v39), (4, .int v40)] → (0 ≤ v39.toInt ∧ v39.toInt ≤ 8) → (0 ≤ v40.toInt ∧ v40.toInt ≤ 8) → h_F [(1328, 999)] z I38 I41 → ((rh28.toInt < v40.toInt ∧ rh30.toInt < v40.toInt ∧ v39.toInt = v40.toInt) ∨ (rh28.toInt < v40.toInt ∧ v40.toInt ≤ rh30.toInt ∧ v39.toInt = v40.toInt + 1) ∨ (v40.toInt ≤ rh28.toInt ∧ rh30.toInt < v40.toInt ∧ v39.toInt = v40.toInt + 1) ∨ (v40.toInt ≤ rh28.toInt ∧ v40.toInt ≤ rh30.toInt ∧ v39.toInt = v40.toInt + 2)) → (∀ k : Nat, (k : Int) < v39.toInt → 0 ≤ (I41 dr (8 * f0_12.toInt.toNat + k)).toInt) → (8 - v40.toInt) < (n : Int) → W pr_ l ev_ (headSpec wsX12_draw ({ frames := 5, cells := 0, slots := 0, locals := 320 })).room s m ([.ref a0, .int a, .int b] : List Value).toArray below meth cd_ H locs 0 0 (MQ below (va_Qi (fun r (I1 : tI) => h_I z I1 ∧ h_F [(1348, 999), (1328, 999), (1325, 999), (1327, 999), (1329, 999), (13, 31), (13, 33)] z I0 I1 ∧ True) (fun (I1 : tI) t => h_B E A z I1 L0 t) A) ([.ref a0, .int a, .int b] : List Value).toArray s 0 0 A) (F0 m 188 ls []) := by
                      intro n
                      induction n with
                      | zero => intro I41 H locs ls v39 v40 g hI hF hl jv39 jv40 hL188 hx188_0 hx188_1 hn; exact absurd hn (by omega)
                      | succ n ih188 =>
                        intro I41 H locs ls v39 v40 g hI hF hl jv39 jv40 hL188 hx188_0 hx188_1 hn
                        refine lv_iload hx hb dX12_draw_188 (lv_at hl 2 rfl) ?_
                        refine lv_bipush (v := 8) hx hb dX12_draw_190 (by decide) ?_
                        refine lv_icmp_ge (tgt := 238) hx hb dX12_draw_192 (by decide) (fun c42 => ?_) (fun c42 => ?_)
                        · have ic42 := (xi_le c42 (by decide) rfl : 8 ≤ v40.toInt)
                          refine lv_iconst (v := 0) hx hb dX12_draw_238 (by decide) ?_
                          refine lv_istore (lv' := [(4, .int 0), (0, .ref a0), (3, .int v39)]) hx hb dX12_draw_239 hl (by decide) rfl (fun ls hl => ?_)
                          have loop241_2 : ∀ (n : Nat) (I44 : tI) (H : Heap) (locs : List Loc) (ls : Array Slot) (v43 : Int32), h_G h_so h_fk E A z I44 L0 s s.heap H locs → h_I z I44 → h_F [(1348, 999), (1328, 999), (1325, 999), (1327, 999), (1329, 999), (13, 31), (13, 33)] z I0 I44 → lv_has ls 6 [(0, .ref a0), (4, .int v43)] → (0 ≤ v43.toInt ∧ v43.toInt ≤ 8) → h_F [(1325, 999), (1327, 999), (1329, 999)] z I41 I44 → (8 - v43.toInt) < (n : Int) → W pr_ l ev_ (headSpec wsX12_draw ({ frames := 5, cells := 0, slots := 0, locals := 320 })).room s m ([.ref a0, .int a, .int b] : List Value).toArray below meth cd_ H locs 0 0 (MQ below (va_Qi (fun r (I1 : tI) => h_I z I1 ∧ h_F [(1348, 999), (1328, 999), (1325, 999), (1327, 999), (1329, 999), (13, 31), (13, 33)] z I0 I1 ∧ True) (fun (I1 : tI) t => h_B E A z I1 L0 t) A) ([.ref a0, .int a, .int b] : List Value).toArray s 0 0 A) (F0 m 241 ls []) := by
                            intro n
                            induction n with
                            | zero => intro I44 H locs ls v43 g hI hF hl jv43 hL241 hn; exact absurd hn (by omega)
                            | succ n ih241 =>
                              intro I44 H locs ls v43 g hI hF hl jv43 hL241 hn
                              refine lv_iload hx hb dX12_draw_241 (lv_at hl 1 rfl) ?_
                              refine lv_bipush (v := 8) hx hb dX12_draw_243 (by decide) ?_
                              refine lv_icmp_ge (tgt := 335) hx hb dX12_draw_245 (by decide) (fun c45 => ?_) (fun c45 => ?_)
                              · have ic45 := (xi_le c45 (by decide) rfl : 8 ≤ v43.toInt)
                                refine lv_aload_n hx hb dX12_draw_335 rfl (lv_at hl 0 rfl) ?_
                                refine lv_iconst (v := 1) hx hb dX12_draw_336 (by decide) ?_
                                refine h_putI (ty := .boolean) (v := 1) hx hb hts iX12 tyX12 tyX12_ok nmX12 hown g t_a0 (by decide) so_13 rfl 31 (by decide) rfl (hts (.fieldLink RX12 264 "CapLeagueModel" "isDrawn" "Z") (by decide +kernel)) rfl rfl (by decide +kernel) (by decide) (by decide) dX12_draw_337 (fun I46 H locs eI46 g => ?_)
                                have hI := hI.wr eI46 t_a0 (rfl : h_bd 13 31 = (0, 1)) (by decide) (by decide)
                                have hF := hF.wr eI46 t_a0 rfl
                                refine lv_aload_n hx hb dX12_draw_340 rfl (lv_at hl 0 rfl) ?_
                                refine lv_iconst (v := 0) hx hb dX12_draw_341 (by decide) ?_
                                refine h_putI (ty := .int) (v := 0) hx hb hts iX12 tyX12 tyX12_ok nmX12 hown g t_a0 (by decide) so_13 rfl 33 (by decide) rfl (hts (.fieldLink RX12 247 "CapLeagueModel" "moves" "I") (by decide +kernel)) rfl rfl (by decide +kernel) rfl rfl dX12_draw_342 (fun I47 H locs eI47 g => ?_)
                                have hI := hI.wr eI47 t_a0 (rfl : h_bd 13 33 = (0, 12)) (by decide) (by decide)
                                have hF := hF.wr eI47 t_a0 rfl
                                refine lv_iconst (v := 1) hx hb dX12_draw_345 (by decide) ?_
                                have hS := g.2.1
                                exact W.iret (v := 1) hx hb hr (fun t ht hW => ⟨⟨1, I47, rfl, ⟨hI, hF, trivial⟩, h_ret g ht⟩, hS.F ht⟩) hS.2.2 dX12_draw_346
                              · have ic45 := (xi_nle c45 (by decide) rfl : v43.toInt < 8)
                                refine lv_bipush (v := 10) hx hb dX12_draw_248 (by decide) ?_
                                refine lv_aload_n hx hb dX12_draw_250 rfl (lv_at hl 0 rfl) ?_
                                refine h_get (v := .ref dr) hx hb hts iX12 hown g t_a0 (by decide) so_13 rfl 28 (by decide) (hts (.fieldLink RX12 67 "CapLeagueModel" "drawnOf" "[I") (by decide +kernel)) rfl dX12_draw_251 (by show va_rf (z.R a0 28) = _; rw [rdr]; rfl) ?_
                                refine lv_bipush (v := 8) hx hb dX12_draw_254 (by decide) ?_
                                refine lv_aload_n hx hb dX12_draw_256 rfl (lv_at hl 0 rfl) ?_
                                refine h_get (v := .int f0_12) hx hb hts iX12 hown g t_a0 (by decide) so_13 rfl 12 (by decide) (hts (.fieldLink RX12 187 "CapLeagueModel" "clock" "I") (by decide +kernel)) rfl dX12_draw_257 (congrArg Value.int ((h_F.at hL241 t_a0 rfl).trans ((h_F.at hL188 t_a0 rfl).trans ((h_n1 eI38 t_a0 tdr (by decide)).trans ((h_n1 eI35 t_a0 tdr (by decide)).trans ((h_n1 eI31 t_a0 tot (by decide)).trans ((h_n1 eI29 t_a0 tot (by decide)).trans ((h_F.at hF2 t_a0 rfl).trans (ef0_12.symm))))))))) ?_
                                refine lv_imul hx hb dX12_draw_260 ?_
                                refine xw_i (v := v32) ev32.symm ?_
                                refine lv_iload hx hb dX12_draw_261 (lv_at hl 1 rfl) ?_
                                refine lv_iadd hx hb dX12_draw_263 ?_
                                refine lv_topi (fun v48 ev48 => ?_)
                                have jv48 : v48.toInt = v32.toInt + v43.toInt := xi_add ev48 rfl rfl (by omega) (by omega)
                                refine h_ald hx hb g tdr (by decide) so_1328 (xi_in (by omega) (by omega)) dX12_draw_264 ?_
                                refine lv_topi (fun v49 ev49 => ?_)
                                have jv49 := hI.rd dr v48.toNatClampNeg tdr ev49 (rfl : h_bd 1328 _ = ((-1), 7))
                                have mv49 : 0 ≤ v49.toInt := by rw [ev49, h_F.at hL241 tdr rfl, h_keq (k := 8 * f0_12.toInt.toNat + v43.toInt.toNat) (i := v48) rfl (by omega) (by omega)]; exact hx188_1 _ (by omega)
                                refine lv_imul hx hb dX12_draw_265 ?_
                                refine lv_topi (fun v50 ev50 => ?_)
                                have jv50 : v50.toInt = 10 * v49.toInt := xi_mul ev50 (by decide) rfl (by omega) (by omega)
                                refine lv_aload_n hx hb dX12_draw_266 rfl (lv_at hl 0 rfl) ?_
                                refine h_get (v := .int f0_12) hx hb hts iX12 hown g t_a0 (by decide) so_13 rfl 12 (by decide) (hts (.fieldLink RX12 187 "CapLeagueModel" "clock" "I") (by decide +kernel)) rfl dX12_draw_267 (congrArg Value.int ((h_F.at hL241 t_a0 rfl).trans ((h_F.at hL188 t_a0 rfl).trans ((h_n1 eI38 t_a0 tdr (by decide)).trans ((h_n1 eI35 t_a0 tdr (by decide)).trans ((h_n1 eI31 t_a0 tot (by decide)).trans ((h_n1 eI29 t_a0 tot (by decide)).trans ((h_F.at hF2 t_a0 rfl).trans (ef0_12.symm))))))))) ?_
                                refine lv_iadd hx hb dX12_draw_270 ?_
                                refine lv_topi (fun v51 ev51 => ?_)
                                have jv51 : v51.toInt = v50.toInt + f0_12.toInt := xi_add ev51 rfl rfl (by omega) (by omega)
                                refine lv_istore (lv' := [(5, .int v51), (0, .ref a0), (4, .int v43)]) hx hb dX12_draw_271 hl (by decide) rfl (fun ls hl => ?_)
                                refine lv_iload hx hb dX12_draw_273 (lv_at hl 2 rfl) ?_
                                refine lv_aload_n hx hb dX12_draw_275 rfl (lv_at hl 1 rfl) ?_
                                obtain ⟨b52, rb52, tb52⟩ := hR.at a0 27 t_a0 (rfl : h_rs 13 27 = some (1327, false)) (by decide)
                                refine h_get (v := .ref b52) hx hb hts iX12 hown g t_a0 (by decide) so_13 rfl 27 (by decide) (hts (.fieldLink RX12 64 "CapLeagueModel" "guarded" "[I") (by decide +kernel)) rfl dX12_draw_276 (by show va_rf (z.R a0 27) = _; rw [rb52]; rfl) ?_
                                refine lv_iload hx hb dX12_draw_279 (lv_at hl 0 rfl) ?_
                                refine h_ald hx hb g tb52 (by decide) so_1327 (xi_in (by omega) (by omega)) dX12_draw_281 ?_
                                refine lv_topi (fun v53 ev53 => ?_)
                                have jv53 := hI.rd b52 v51.toNatClampNeg tb52 ev53 (rfl : h_bd 1327 _ = ((-2147483648), 2147483647))
                                refine lv_icmp_ge (tgt := 307) hx hb dX12_draw_282 (by decide) (fun c54 => ?_) (fun c54 => ?_)
                                · have ic54 := (xi_le c54 rfl rfl : v53.toInt ≤ v43.toInt)
                                  refine lv_aload_n hx hb dX12_draw_307 rfl (lv_at hl 1 rfl) ?_
                                  obtain ⟨b55, rb55, tb55⟩ := hR.at a0 29 t_a0 (rfl : h_rs 13 29 = some (1329, false)) (by decide)
                                  refine h_get (v := .ref b55) hx hb hts iX12 hown g t_a0 (by decide) so_13 rfl 29 (by decide) (hts (.fieldLink RX12 70 "CapLeagueModel" "drawnTo" "[I") (by decide +kernel)) rfl dX12_draw_308 (by show va_rf (z.R a0 29) = _; rw [rb55]; rfl) ?_
                                  refine lv_bipush (v := 8) hx hb dX12_draw_311 (by decide) ?_
                                  refine lv_aload_n hx hb dX12_draw_313 rfl (lv_at hl 1 rfl) ?_
                                  refine h_get (v := .int f0_12) hx hb hts iX12 hown g t_a0 (by decide) so_13 rfl 12 (by decide) (hts (.fieldLink RX12 187 "CapLeagueModel" "clock" "I") (by decide +kernel)) rfl dX12_draw_314 (congrArg Value.int ((h_F.at hL241 t_a0 rfl).trans ((h_F.at hL188 t_a0 rfl).trans ((h_n1 eI38 t_a0 tdr (by decide)).trans ((h_n1 eI35 t_a0 tdr (by decide)).trans ((h_n1 eI31 t_a0 tot (by decide)).trans ((h_n1 eI29 t_a0 tot (by decide)).trans ((h_F.at hF2 t_a0 rfl).trans (ef0_12.symm))))))))) ?_
                                  refine lv_imul hx hb dX12_draw_317 ?_
                                  refine xw_i (v := v32) ev32.symm ?_
                                  refine lv_iload hx hb dX12_draw_318 (lv_at hl 2 rfl) ?_
                                  refine lv_iadd hx hb dX12_draw_320 ?_
                                  refine xw_i (v := v48) ev48.symm ?_
                                  refine lv_aload_n hx hb dX12_draw_321 rfl (lv_at hl 1 rfl) ?_
                                  obtain ⟨b56, rb56, tb56⟩ := hR.at a0 25 t_a0 (rfl : h_rs 13 25 = some (1325, false)) (by decide)
                                  refine h_get (v := .ref b56) hx hb hts iX12 hown g t_a0 (by decide) so_13 rfl 25 (by decide) (hts (.fieldLink RX12 58 "CapLeagueModel" "owner" "[I") (by decide +kernel)) rfl dX12_draw_322 (by show va_rf (z.R a0 25) = _; rw [rb56]; rfl) ?_
                                  refine lv_iload hx hb dX12_draw_325 (lv_at hl 0 rfl) ?_
                                  refine h_ald hx hb g tb56 (by decide) so_1325 (xi_in (by omega) (by omega)) dX12_draw_327 ?_
                                  refine lv_topi (fun v57 ev57 => ?_)
                                  have jv57 := hI.rd b56 v51.toNatClampNeg tb56 ev57 (rfl : h_bd 1325 _ = ((-2147483648), 2147483647))
                                  refine h_ast hx hb g tb55 (by decide) so_1329 (xi_in (by omega) (by omega)) dX12_draw_328 (fun I58 H locs eI58 g => ?_)
                                  have hI := hI.wr eI58 tb55 (rfl : h_bd 1329 _ = ((-2147483648), 2147483647)) (xi_lo _) (Int.le_of_lt_add_one (xi_hi _))
                                  have hF := hF.wr eI58 tb55 rfl
                                  obtain ⟨v59, ev59⟩ : ∃ z : Int32, z = v43 + 1 := ⟨_, rfl⟩
                                  have jv59 : v59.toInt = v43.toInt + 1 := xi_add ev59 rfl (by decide) (by omega) (by omega)
                                  refine lv_iinc (v := v59) (lv' := [(4, .int v59), (5, .int v51), (0, .ref a0)]) hx hb dX12_draw_329 hl (k := 2) rfl (by rw [ev59]; rfl) (by decide) rfl (fun ls hl => ?_)
                                  refine lv_goto (tgt := 241) hx hb dX12_draw_332 (by decide) ?_
                                  exact ih241 I58 _ _ _ v59 g hI hF (lv_sub hl [2, 0] rfl) (by omega) (h_F.wr (h_F.call (h_F.rf : h_F [(1325, 999), (1327, 999), (1329, 999)] z I41 I41) hL241 rfl) eI58 tb55 rfl) (by omega)
                                · have ic54 := (xi_nle c54 rfl rfl : v43.toInt < v53.toInt)
                                  refine lv_aload_n hx hb dX12_draw_285 rfl (lv_at hl 1 rfl) ?_
                                  obtain ⟨b60, rb60, tb60⟩ := hR.at a0 25 t_a0 (rfl : h_rs 13 25 = some (1325, false)) (by decide)
                                  refine h_get (v := .ref b60) hx hb hts iX12 hown g t_a0 (by decide) so_13 rfl 25 (by decide) (hts (.fieldLink RX12 58 "CapLeagueModel" "owner" "[I") (by decide +kernel)) rfl dX12_draw_286 (by show va_rf (z.R a0 25) = _; rw [rb60]; rfl) ?_
                                  refine lv_iload hx hb dX12_draw_289 (lv_at hl 0 rfl) ?_
                                  refine lv_aload_n hx hb dX12_draw_291 rfl (lv_at hl 1 rfl) ?_
                                  obtain ⟨b61, rb61, tb61⟩ := hR.at a0 26 t_a0 (rfl : h_rs 13 26 = some (1326, false)) (by decide)
                                  refine h_get (v := .ref b61) hx hb hts iX12 hown g t_a0 (by decide) so_13 rfl 26 (by decide) (hts (.fieldLink RX12 61 "CapLeagueModel" "giver" "[I") (by decide +kernel)) rfl dX12_draw_292 (by show va_rf (z.R a0 26) = _; rw [rb61]; rfl) ?_
                                  refine lv_iload hx hb dX12_draw_295 (lv_at hl 0 rfl) ?_
                                  refine h_ald hx hb g tb61 (by decide) so_1326 (xi_in (by omega) (by omega)) dX12_draw_297 ?_
                                  refine lv_topi (fun v62 ev62 => ?_)
                                  have jv62 := hI.rd b61 v51.toNatClampNeg tb61 ev62 (rfl : h_bd 1326 _ = ((-2147483648), 2147483647))
                                  refine h_ast hx hb g tb60 (by decide) so_1325 (xi_in (by omega) (by omega)) dX12_draw_298 (fun I63 H locs eI63 g => ?_)
                                  have hI := hI.wr eI63 tb60 (rfl : h_bd 1325 _ = ((-2147483648), 2147483647)) (xi_lo _) (Int.le_of_lt_add_one (xi_hi _))
                                  have hF := hF.wr eI63 tb60 rfl
                                  refine lv_aload_n hx hb dX12_draw_299 rfl (lv_at hl 1 rfl) ?_
                                  refine h_get (v := .ref b52) hx hb hts iX12 hown g t_a0 (by decide) so_13 rfl 27 (by decide) (hts (.fieldLink RX12 64 "CapLeagueModel" "guarded" "[I") (by decide +kernel)) rfl dX12_draw_300 (by show va_rf (z.R a0 27) = _; rw [rb52]; rfl) ?_
                                  refine lv_iload hx hb dX12_draw_303 (lv_at hl 0 rfl) ?_
                                  refine lv_iconst (v := 0) hx hb dX12_draw_305 (by decide) ?_
                                  refine h_ast hx hb g tb52 (by decide) so_1327 (xi_in (by omega) (by omega)) dX12_draw_306 (fun I64 H locs eI64 g => ?_)
                                  have hI := hI.wr eI64 tb52 (rfl : h_bd 1327 _ = ((-2147483648), 2147483647)) (by decide) (by decide)
                                  have hF := hF.wr eI64 tb52 rfl
                                  refine lv_aload_n hx hb dX12_draw_307 rfl (lv_at hl 1 rfl) ?_
                                  obtain ⟨b65, rb65, tb65⟩ := hR.at a0 29 t_a0 (rfl : h_rs 13 29 = some (1329, false)) (by decide)
                                  refine h_get (v := .ref b65) hx hb hts iX12 hown g t_a0 (by decide) so_13 rfl 29 (by decide) (hts (.fieldLink RX12 70 "CapLeagueModel" "drawnTo" "[I") (by decide +kernel)) rfl dX12_draw_308 (by show va_rf (z.R a0 29) = _; rw [rb65]; rfl) ?_
                                  refine lv_bipush (v := 8) hx hb dX12_draw_311 (by decide) ?_
                                  refine lv_aload_n hx hb dX12_draw_313 rfl (lv_at hl 1 rfl) ?_
                                  refine h_get (v := .int f0_12) hx hb hts iX12 hown g t_a0 (by decide) so_13 rfl 12 (by decide) (hts (.fieldLink RX12 187 "CapLeagueModel" "clock" "I") (by decide +kernel)) rfl dX12_draw_314 (congrArg Value.int ((h_n1 eI64 t_a0 tb52 (by decide)).trans ((h_n1 eI63 t_a0 tb60 (by decide)).trans ((h_F.at hL241 t_a0 rfl).trans ((h_F.at hL188 t_a0 rfl).trans ((h_n1 eI38 t_a0 tdr (by decide)).trans ((h_n1 eI35 t_a0 tdr (by decide)).trans ((h_n1 eI31 t_a0 tot (by decide)).trans ((h_n1 eI29 t_a0 tot (by decide)).trans ((h_F.at hF2 t_a0 rfl).trans (ef0_12.symm))))))))))) ?_
                                  refine lv_imul hx hb dX12_draw_317 ?_
                                  refine xw_i (v := v32) ev32.symm ?_
                                  refine lv_iload hx hb dX12_draw_318 (lv_at hl 2 rfl) ?_
                                  refine lv_iadd hx hb dX12_draw_320 ?_
                                  refine xw_i (v := v48) ev48.symm ?_
                                  refine lv_aload_n hx hb dX12_draw_321 rfl (lv_at hl 1 rfl) ?_
                                  refine h_get (v := .ref b60) hx hb hts iX12 hown g t_a0 (by decide) so_13 rfl 25 (by decide) (hts (.fieldLink RX12 58 "CapLeagueModel" "owner" "[I") (by decide +kernel)) rfl dX12_draw_322 (by show va_rf (z.R a0 25) = _; rw [rb60]; rfl) ?_
                                  refine lv_iload hx hb dX12_draw_325 (lv_at hl 0 rfl) ?_
                                  refine h_ald hx hb g tb60 (by decide) so_1325 (xi_in (by omega) (by omega)) dX12_draw_327 ?_
                                  refine xw_i ((h_n1 eI64 tb60 tb52 (by decide)).trans (h_n0 eI63)) ?_
                                  refine h_ast hx hb g tb65 (by decide) so_1329 (xi_in (by omega) (by omega)) dX12_draw_328 (fun I66 H locs eI66 g => ?_)
                                  have hI := hI.wr eI66 tb65 (rfl : h_bd 1329 _ = ((-2147483648), 2147483647)) (xi_lo _) (Int.le_of_lt_add_one (xi_hi _))
                                  have hF := hF.wr eI66 tb65 rfl
                                  obtain ⟨v67, ev67⟩ : ∃ z : Int32, z = v43 + 1 := ⟨_, rfl⟩
                                  have jv67 : v67.toInt = v43.toInt + 1 := xi_add ev67 rfl (by decide) (by omega) (by omega)
                                  refine lv_iinc (v := v67) (lv' := [(4, .int v67), (5, .int v51), (0, .ref a0)]) hx hb dX12_draw_329 hl (k := 2) rfl (by rw [ev67]; rfl) (by decide) rfl (fun ls hl => ?_)
                                  refine lv_goto (tgt := 241) hx hb dX12_draw_332 (by decide) ?_
                                  exact ih241 I66 _ _ _ v67 g hI hF (lv_sub hl [2, 0] rfl) (by omega) (h_F.wr (h_F.wr (h_F.wr (h_F.call (h_F.rf : h_F [(1325, 999), (1327, 999), (1329, 999)] z I41 I41) hL241 rfl) eI63 tb60 rfl) eI64 tb52 rfl) eI66 tb65 rfl) (by omega)
                          exact loop241_2 _ I41 _ _ _ (0) g hI hF (lv_sub hl [1, 0] rfl) ⟨by decide, by decide⟩ (h_F.rf : h_F [(1325, 999), (1327, 999), (1329, 999)] z I41 I41) (show (8 - (0 : Int)) < (((8 - (0 : Int)).toNat + 1 : Nat) : Int) by omega)
                        · have ic42 := (xi_nle c42 (by decide) rfl : v40.toInt < 8)
                          refine lv_aload_n hx hb dX12_draw_195 rfl (lv_at hl 0 rfl) ?_
                          refine h_get (v := .ref ot) hx hb hts iX12 hown g t_a0 (by decide) so_13 rfl 48 (by decide) (hts (.fieldLink RX12 109 "CapLeagueModel" "isOut" "[Z") (by decide +kernel)) rfl dX12_draw_196 (by show va_rf (z.R a0 48) = _; rw [rot]; rfl) ?_
                          refine lv_iload hx hb dX12_draw_199 (lv_at hl 2 rfl) ?_
                          refine h_zald hx hb g tot (by decide) so_1348 (xi_in (by omega) (by omega)) dX12_draw_201 ?_
                          refine lv_topi (fun v68 ev68 => ?_)
                          have jv68 := hI.rd ot v40.toNatClampNeg tot ev68 (rfl : h_bd 1348 _ = (0, 1))
                          have ho := hout v40 (by omega) (by omega)
                          rw [← h_F.at hL188 tot rfl, ← ev68] at ho
                          refine lv_if_eq (tgt := 208) hx hb dX12_draw_202 (by decide) (fun c69 => ?_) (fun c69 => ?_)
                          · have ic69 := (xi_eq c69 rfl (by decide) : v68.toInt = 0)
                            refine lv_aload_n hx hb dX12_draw_208 rfl (lv_at hl 0 rfl) ?_
                            refine h_get (v := .ref dr) hx hb hts iX12 hown g t_a0 (by decide) so_13 rfl 28 (by decide) (hts (.fieldLink RX12 67 "CapLeagueModel" "drawnOf" "[I") (by decide +kernel)) rfl dX12_draw_209 (by show va_rf (z.R a0 28) = _; rw [rdr]; rfl) ?_
                            refine lv_bipush (v := 8) hx hb dX12_draw_212 (by decide) ?_
                            refine lv_aload_n hx hb dX12_draw_214 rfl (lv_at hl 0 rfl) ?_
                            refine h_get (v := .int f0_12) hx hb hts iX12 hown g t_a0 (by decide) so_13 rfl 12 (by decide) (hts (.fieldLink RX12 187 "CapLeagueModel" "clock" "I") (by decide +kernel)) rfl dX12_draw_215 (congrArg Value.int ((h_F.at hL188 t_a0 rfl).trans ((h_n1 eI38 t_a0 tdr (by decide)).trans ((h_n1 eI35 t_a0 tdr (by decide)).trans ((h_n1 eI31 t_a0 tot (by decide)).trans ((h_n1 eI29 t_a0 tot (by decide)).trans ((h_F.at hF2 t_a0 rfl).trans (ef0_12.symm)))))))) ?_
                            refine lv_imul hx hb dX12_draw_218 ?_
                            refine xw_i (v := v32) ev32.symm ?_
                            refine lv_iload_n hx hb dX12_draw_219 rfl (lv_at hl 1 rfl) ?_
                            refine lv_iadd hx hb dX12_draw_220 ?_
                            refine lv_topi (fun v70 ev70 => ?_)
                            have jv70 : v70.toInt = v32.toInt + v39.toInt := xi_add ev70 rfl rfl (by omega) (by omega)
                            refine lv_aload_n hx hb dX12_draw_221 rfl (lv_at hl 0 rfl) ?_
                            refine h_get (v := .ref b33) hx hb hts iX12 hown g t_a0 (by decide) so_13 rfl 32 (by decide) (hts (.fieldLink RX12 73 "CapLeagueModel" "table" "[I") (by decide +kernel)) rfl dX12_draw_222 (by show va_rf (z.R a0 32) = _; rw [rb33]; rfl) ?_
                            refine lv_iload hx hb dX12_draw_225 (lv_at hl 2 rfl) ?_
                            refine h_ald hx hb g tb33 (by decide) so_1332 (xi_in (by omega) (by omega)) dX12_draw_227 ?_
                            refine lv_topi (fun v71 ev71 => ?_)
                            have jv71 := hI.rd b33 v40.toNatClampNeg tb33 ev71 (rfl : h_bd 1332 _ = (0, 7))
                            refine h_ast hx hb g tdr (by decide) so_1328 (xi_in (by omega) (by omega)) dX12_draw_228 (fun I72 H locs eI72 g => ?_)
                            have hI := hI.wr eI72 tdr (rfl : h_bd 1328 _ = ((-1), 7)) (by omega) (by omega)
                            have hF := hF.wr eI72 tdr rfl
                            obtain ⟨v73, ev73⟩ : ∃ z : Int32, z = v39 + 1 := ⟨_, rfl⟩
                            have jv73 : v73.toInt = v39.toInt + 1 := xi_add ev73 rfl (by decide) (by omega) (by omega)
                            refine lv_iinc (v := v73) (lv' := [(3, .int v73), (0, .ref a0), (4, .int v40)]) hx hb dX12_draw_229 hl (k := 1) rfl (by rw [ev73]; rfl) (by decide) rfl (fun ls hl => ?_)
                            obtain ⟨v74, ev74⟩ : ∃ z : Int32, z = v40 + 1 := ⟨_, rfl⟩
                            have jv74 : v74.toInt = v40.toInt + 1 := xi_add ev74 rfl (by decide) (by omega) (by omega)
                            refine lv_iinc (v := v74) (lv' := [(4, .int v74), (3, .int v73), (0, .ref a0)]) hx hb dX12_draw_232 hl (k := 2) rfl (by rw [ev74]; rfl) (by decide) rfl (fun ls hl => ?_)
                            refine lv_goto (tgt := 188) hx hb dX12_draw_235 (by decide) ?_
                            exact ih188 I72 _ _ _ v73 v74 g hI hF (lv_sub hl [2, 1, 0] rfl) (by omega) (by omega) (h_F.wr (h_F.call (h_F.rf : h_F [(1328, 999)] z I38 I38) hL188 rfl) eI72 tdr rfl) (by omega) (fun k hk => by
                                by_cases ek : (k : Int) = v39.toInt
                                · rw [← h_keq (k := 8 * f0_12.toInt.toNat + k) (i := v70) rfl (by omega) (by omega), h_n0 eI72]
                                  omega
                                · rw [h_n2 eI72 (h_kne (i := v70) rfl (by omega) (by omega))]
                                  exact hx188_1 k (by omega)) (by omega)
                          · have ic69 := (xi_ne c69 rfl (by decide) : v68.toInt ≠ 0)
                            refine lv_goto (tgt := 232) hx hb dX12_draw_205 (by decide) ?_
                            obtain ⟨v75, ev75⟩ : ∃ z : Int32, z = v40 + 1 := ⟨_, rfl⟩
                            have jv75 : v75.toInt = v40.toInt + 1 := xi_add ev75 rfl (by decide) (by omega) (by omega)
                            refine lv_iinc (v := v75) (lv' := [(4, .int v75), (0, .ref a0), (3, .int v39)]) hx hb dX12_draw_232 hl (k := 2) rfl (by rw [ev75]; rfl) (by decide) rfl (fun ls hl => ?_)
                            refine lv_goto (tgt := 188) hx hb dX12_draw_235 (by decide) ?_
                            exact ih188 I41 _ _ _ v39 v75 g hI hF (lv_sub hl [1, 2, 0] rfl) (by omega) (by omega) (h_F.call (h_F.rf : h_F [(1328, 999)] z I38 I38) hL188 rfl) (by omega) (hx188_1) (by omega)
                    have kc76 : (2 : Int32).toInt = 2 := by decide
                    have kc77 : (0 : Int32).toInt = 0 := by decide
                    exact loop188_1 _ I38 _ _ _ (2) (0) g hI hF (lv_sub hl [3, 1, 0] rfl) ⟨by decide, by decide⟩ ⟨by decide, by decide⟩ (h_F.rf : h_F [(1328, 999)] z I38 I38) (by omega) (fun k hk => by
                        by_cases ek : (k : Int) = 1
                        · rw [← h_keq (k := 8 * f0_12.toInt.toNat + k) (i := v36) rfl (by omega) (by omega), h_n0 eI38]
                          omega
                        · rw [h_n2 eI38 (h_kne (i := v36) rfl (by omega) (by omega)), ← h_keq (k := 8 * f0_12.toInt.toNat + k) (i := v32) rfl (by omega) (by omega), h_n0 eI35]
                          omega) (show (8 - (0 : Int)) < (((8 - (0 : Int)).toNat + 1 : Nat) : Int) by omega)
                · have ic25 := (xi_ne c25 rfl (by decide) : v24.toInt ≠ 0)
                  refine lv_bipush (v := (-4)) hx hb dX12_draw_103 (by decide) ?_
                  have hS := g.2.1
                  exact W.iret (v := (-4)) hx hb hr (fun t ht hW => ⟨⟨(-4), I2, rfl, ⟨hI, hF, trivial⟩, h_ret g ht⟩, hS.F ht⟩) hS.2.2 dX12_draw_105
        · have ic5 := (xi_eq c5 rfl (by decide) : rh4.toInt = 0)
          refine lv_iload_n hx hb dX12_draw_30 rfl (lv_at hl 2 rfl) ?_
          refine lv_if_ne (tgt := 38) hx hb dX12_draw_31 (by decide) (fun c78 => ?_) (fun c78 => ?_)
          · have ic78 := (xi_ne c78 h_a (by decide) : a_t ≠ 0)
            refine lv_bipush (v := (-2)) hx hb dX12_draw_38 (by decide) ?_
            have hS := g.2.1
            exact W.iret (v := (-2)) hx hb hr (fun t ht hW => ⟨⟨(-2), I2, rfl, ⟨hI, hF, trivial⟩, h_ret g ht⟩, hS.F ht⟩) hS.2.2 dX12_draw_40
          · have ic78 := (xi_eq c78 h_a (by decide) : a_t = 0)
            refine lv_iload_n hx hb dX12_draw_34 rfl (lv_at hl 3 rfl) ?_
            refine lv_if_eq (tgt := 89) hx hb dX12_draw_35 (by decide) (fun c79 => ?_) (fun c79 => ?_)
            · have ic79 := (xi_eq c79 h_b (by decide) : b_t = 0)
              refine lv_aload_n hx hb dX12_draw_89 rfl (lv_at hl 1 rfl) ?_
              refine h_get (v := .int f0_30) hx hb hts iX12 hown g t_a0 (by decide) so_13 rfl 30 (by decide) (hts (.fieldLink RX12 306 "CapLeagueModel" "hasTable" "Z") (by decide +kernel)) rfl dX12_draw_90 (congrArg Value.int ((h_F.at hF2 t_a0 rfl).trans (ef0_30.symm))) ?_
              refine lv_if_eq (tgt := 103) hx hb dX12_draw_93 (by decide) (fun c80 => ?_) (fun c80 => ?_)
              · have ic80 := (xi_eq c80 rfl (by decide) : f0_30.toInt = 0)
                refine lv_bipush (v := (-4)) hx hb dX12_draw_103 (by decide) ?_
                have hS := g.2.1
                exact W.iret (v := (-4)) hx hb hr (fun t ht hW => ⟨⟨(-4), I2, rfl, ⟨hI, hF, trivial⟩, h_ret g ht⟩, hS.F ht⟩) hS.2.2 dX12_draw_105
              · have ic80 := (xi_ne c80 rfl (by decide) : f0_30.toInt ≠ 0)
                refine lv_aload_n hx hb dX12_draw_96 rfl (lv_at hl 1 rfl) ?_
                refine h_get (v := .int (I2 a0 31)) hx hb hts iX12 hown g t_a0 (by decide) so_13 rfl 31 (by decide) (hts (.fieldLink RX12 264 "CapLeagueModel" "isDrawn" "Z") (by decide +kernel)) rfl dX12_draw_97 rfl ?_
                refine lv_topi (fun v81 ev81 => ?_)
                have jv81 := hI.rd a0 31 t_a0 ev81 (rfl : h_bd 13 31 = (0, 1))
                refine lv_if_eq (tgt := 106) hx hb dX12_draw_100 (by decide) (fun c82 => ?_) (fun c82 => ?_)
                · have ic82 := (xi_eq c82 rfl (by decide) : v81.toInt = 0)
                  refine lv_aload_n hx hb dX12_draw_106 rfl (lv_at hl 1 rfl) ?_
                  refine vp_callSi (W.runV (As := []) (rest := []) ⟨hx, hb, hml, hown, hts⟩ (tX12_lotsC l E X A z I2 L0 a0 t_a0 (q) (by rw [ahw, show I2 hw = I0 hw from funext (fun k => hF.at thw rfl), show I2 a0 12 = I0 a0 12 from hF.at t_a0 rfl]; exact hq)) (cwV 0 hts gX12_draw_X12_lots rfl rfl rfl (by decide +kernel) ⟨Nat.le_of_ble_eq_true rfl, Nat.le_of_ble_eq_true rfl⟩) ⟨h_blind _ _ _ _ _ _ _, h_recv g t_a0 (by decide) so_13 (q := (RX12, TX12, 51)) rfl, h_pre _ hE hk hX hA hI hR g⟩ rfl rfl hl.1 rfl (lv_room (Nat.le_of_ble_eq_true rfl)) dX12_draw_107 ⟨Nat.le_of_ble_eq_true rfl, Nat.le_of_ble_eq_true rfl⟩) (fun rh83 h83 => ?_)
                  obtain ⟨h83, h83p0⟩ := h83
                  rw [alw, show I2 lw = I0 lw from funext (fun k => hF.at tlw rfl)] at h83p0
                  refine lv_if_le (tgt := 185) hx hb dX12_draw_110 (by decide) (fun c84 => ?_) (fun c84 => ?_)
                  · have ic84 := (xi_le c84 rfl (by decide) : rh83.toInt ≤ 0)
                    have hout : ∀ i : Int32, 0 ≤ i.toInt → i.toInt < 8 → (I2 ot i.toNatClampNeg).toInt = 0 := fun i h1 h2 => by rw [hx2_0 i.toNatClampNeg (by have := h_cl (i := i) rfl h1; omega)]; decide
                    refine lv_iconst (v := 0) hx hb dX12_draw_185 (by decide) ?_
                    refine lv_istore (lv' := [(4, .int 0), (3, .int 0), (0, .ref a0), (1, .int a), (2, .int b)]) hx hb dX12_draw_186 hl (by decide) rfl (fun ls hl => ?_)
                    have loop188_3 : ∀ (n : Nat) (I87 : tI) (H : Heap) (locs : List Loc) (ls : Array Slot) (v85 v86 : Int32), h_G h_so h_fk E A z I87 L0 s s.heap H locs → h_I z I87 → h_F [(1348, 999), (1328, 999), (1325, 999), (1327, 999), (1329, 999), (13, 31), (13, 33)] z I0 I87 → lv_has ls 6 [(0, .ref a0), (3, .int v85), (4, .int v86)] → (0 ≤ v85.toInt ∧ v85.toInt ≤ 8) → (0 ≤ v86.toInt ∧ v86.toInt ≤ 8) → h_F [(1328, 999)] z I2 I87 → (v85.toInt = v86.toInt) → (∀ k : Nat, (k : Int) < v85.toInt → 0 ≤ (I87 dr (8 * f0_12.toInt.toNat + k)).toInt) → (8 - v86.toInt) < (n : Int) → W pr_ l ev_ (headSpec wsX12_draw ({ frames := 5, cells := 0, slots := 0, locals := 320 })).room s m ([.ref a0, .int a, .int b] : List Value).toArray below meth cd_ H locs 0 0 (MQ below (va_Qi (fun r (I1 : tI) => h_I z I1 ∧ h_F [(1348, 999), (1328, 999), (1325, 999), (1327, 999), (1329, 999), (13, 31), (13, 33)] z I0 I1 ∧ True) (fun (I1 : tI) t => h_B E A z I1 L0 t) A) ([.ref a0, .int a, .int b] : List Value).toArray s 0 0 A) (F0 m 188 ls []) := by
                      intro n
                      induction n with
                      | zero => intro I87 H locs ls v85 v86 g hI hF hl jv85 jv86 hL188 hx188_0 hx188_1 hn; exact absurd hn (by omega)
                      | succ n ih188 =>
                        intro I87 H locs ls v85 v86 g hI hF hl jv85 jv86 hL188 hx188_0 hx188_1 hn
                        refine lv_iload hx hb dX12_draw_188 (lv_at hl 2 rfl) ?_
                        refine lv_bipush (v := 8) hx hb dX12_draw_190 (by decide) ?_
                        refine lv_icmp_ge (tgt := 238) hx hb dX12_draw_192 (by decide) (fun c88 => ?_) (fun c88 => ?_)
                        · have ic88 := (xi_le c88 (by decide) rfl : 8 ≤ v86.toInt)
                          refine lv_iconst (v := 0) hx hb dX12_draw_238 (by decide) ?_
                          refine lv_istore (lv' := [(4, .int 0), (0, .ref a0), (3, .int v85)]) hx hb dX12_draw_239 hl (by decide) rfl (fun ls hl => ?_)
                          have loop241_4 : ∀ (n : Nat) (I90 : tI) (H : Heap) (locs : List Loc) (ls : Array Slot) (v89 : Int32), h_G h_so h_fk E A z I90 L0 s s.heap H locs → h_I z I90 → h_F [(1348, 999), (1328, 999), (1325, 999), (1327, 999), (1329, 999), (13, 31), (13, 33)] z I0 I90 → lv_has ls 6 [(0, .ref a0), (4, .int v89)] → (0 ≤ v89.toInt ∧ v89.toInt ≤ 8) → h_F [(1325, 999), (1327, 999), (1329, 999)] z I87 I90 → (8 - v89.toInt) < (n : Int) → W pr_ l ev_ (headSpec wsX12_draw ({ frames := 5, cells := 0, slots := 0, locals := 320 })).room s m ([.ref a0, .int a, .int b] : List Value).toArray below meth cd_ H locs 0 0 (MQ below (va_Qi (fun r (I1 : tI) => h_I z I1 ∧ h_F [(1348, 999), (1328, 999), (1325, 999), (1327, 999), (1329, 999), (13, 31), (13, 33)] z I0 I1 ∧ True) (fun (I1 : tI) t => h_B E A z I1 L0 t) A) ([.ref a0, .int a, .int b] : List Value).toArray s 0 0 A) (F0 m 241 ls []) := by
                            intro n
                            induction n with
                            | zero => intro I90 H locs ls v89 g hI hF hl jv89 hL241 hn; exact absurd hn (by omega)
                            | succ n ih241 =>
                              intro I90 H locs ls v89 g hI hF hl jv89 hL241 hn
                              refine lv_iload hx hb dX12_draw_241 (lv_at hl 1 rfl) ?_
                              refine lv_bipush (v := 8) hx hb dX12_draw_243 (by decide) ?_
                              refine lv_icmp_ge (tgt := 335) hx hb dX12_draw_245 (by decide) (fun c91 => ?_) (fun c91 => ?_)
                              · have ic91 := (xi_le c91 (by decide) rfl : 8 ≤ v89.toInt)
                                refine lv_aload_n hx hb dX12_draw_335 rfl (lv_at hl 0 rfl) ?_
                                refine lv_iconst (v := 1) hx hb dX12_draw_336 (by decide) ?_
                                refine h_putI (ty := .boolean) (v := 1) hx hb hts iX12 tyX12 tyX12_ok nmX12 hown g t_a0 (by decide) so_13 rfl 31 (by decide) rfl (hts (.fieldLink RX12 264 "CapLeagueModel" "isDrawn" "Z") (by decide +kernel)) rfl rfl (by decide +kernel) (by decide) (by decide) dX12_draw_337 (fun I92 H locs eI92 g => ?_)
                                have hI := hI.wr eI92 t_a0 (rfl : h_bd 13 31 = (0, 1)) (by decide) (by decide)
                                have hF := hF.wr eI92 t_a0 rfl
                                refine lv_aload_n hx hb dX12_draw_340 rfl (lv_at hl 0 rfl) ?_
                                refine lv_iconst (v := 0) hx hb dX12_draw_341 (by decide) ?_
                                refine h_putI (ty := .int) (v := 0) hx hb hts iX12 tyX12 tyX12_ok nmX12 hown g t_a0 (by decide) so_13 rfl 33 (by decide) rfl (hts (.fieldLink RX12 247 "CapLeagueModel" "moves" "I") (by decide +kernel)) rfl rfl (by decide +kernel) rfl rfl dX12_draw_342 (fun I93 H locs eI93 g => ?_)
                                have hI := hI.wr eI93 t_a0 (rfl : h_bd 13 33 = (0, 12)) (by decide) (by decide)
                                have hF := hF.wr eI93 t_a0 rfl
                                refine lv_iconst (v := 1) hx hb dX12_draw_345 (by decide) ?_
                                have hS := g.2.1
                                exact W.iret (v := 1) hx hb hr (fun t ht hW => ⟨⟨1, I93, rfl, ⟨hI, hF, trivial⟩, h_ret g ht⟩, hS.F ht⟩) hS.2.2 dX12_draw_346
                              · have ic91 := (xi_nle c91 (by decide) rfl : v89.toInt < 8)
                                refine lv_bipush (v := 10) hx hb dX12_draw_248 (by decide) ?_
                                refine lv_aload_n hx hb dX12_draw_250 rfl (lv_at hl 0 rfl) ?_
                                refine h_get (v := .ref dr) hx hb hts iX12 hown g t_a0 (by decide) so_13 rfl 28 (by decide) (hts (.fieldLink RX12 67 "CapLeagueModel" "drawnOf" "[I") (by decide +kernel)) rfl dX12_draw_251 (by show va_rf (z.R a0 28) = _; rw [rdr]; rfl) ?_
                                refine lv_bipush (v := 8) hx hb dX12_draw_254 (by decide) ?_
                                refine lv_aload_n hx hb dX12_draw_256 rfl (lv_at hl 0 rfl) ?_
                                refine h_get (v := .int f0_12) hx hb hts iX12 hown g t_a0 (by decide) so_13 rfl 12 (by decide) (hts (.fieldLink RX12 187 "CapLeagueModel" "clock" "I") (by decide +kernel)) rfl dX12_draw_257 (congrArg Value.int ((h_F.at hL241 t_a0 rfl).trans ((h_F.at hL188 t_a0 rfl).trans ((h_F.at hF2 t_a0 rfl).trans (ef0_12.symm))))) ?_
                                refine lv_imul hx hb dX12_draw_260 ?_
                                refine lv_topi (fun v94 ev94 => ?_)
                                have jv94 : v94.toInt = 8 * f0_12.toInt := xi_mul ev94 (by decide) rfl (by omega) (by omega)
                                refine lv_iload hx hb dX12_draw_261 (lv_at hl 1 rfl) ?_
                                refine lv_iadd hx hb dX12_draw_263 ?_
                                refine lv_topi (fun v95 ev95 => ?_)
                                have jv95 : v95.toInt = v94.toInt + v89.toInt := xi_add ev95 rfl rfl (by omega) (by omega)
                                refine h_ald hx hb g tdr (by decide) so_1328 (xi_in (by omega) (by omega)) dX12_draw_264 ?_
                                refine lv_topi (fun v96 ev96 => ?_)
                                have jv96 := hI.rd dr v95.toNatClampNeg tdr ev96 (rfl : h_bd 1328 _ = ((-1), 7))
                                have mv96 : 0 ≤ v96.toInt := by rw [ev96, h_F.at hL241 tdr rfl, h_keq (k := 8 * f0_12.toInt.toNat + v89.toInt.toNat) (i := v95) rfl (by omega) (by omega)]; exact hx188_1 _ (by omega)
                                refine lv_imul hx hb dX12_draw_265 ?_
                                refine lv_topi (fun v97 ev97 => ?_)
                                have jv97 : v97.toInt = 10 * v96.toInt := xi_mul ev97 (by decide) rfl (by omega) (by omega)
                                refine lv_aload_n hx hb dX12_draw_266 rfl (lv_at hl 0 rfl) ?_
                                refine h_get (v := .int f0_12) hx hb hts iX12 hown g t_a0 (by decide) so_13 rfl 12 (by decide) (hts (.fieldLink RX12 187 "CapLeagueModel" "clock" "I") (by decide +kernel)) rfl dX12_draw_267 (congrArg Value.int ((h_F.at hL241 t_a0 rfl).trans ((h_F.at hL188 t_a0 rfl).trans ((h_F.at hF2 t_a0 rfl).trans (ef0_12.symm))))) ?_
                                refine lv_iadd hx hb dX12_draw_270 ?_
                                refine lv_topi (fun v98 ev98 => ?_)
                                have jv98 : v98.toInt = v97.toInt + f0_12.toInt := xi_add ev98 rfl rfl (by omega) (by omega)
                                refine lv_istore (lv' := [(5, .int v98), (0, .ref a0), (4, .int v89)]) hx hb dX12_draw_271 hl (by decide) rfl (fun ls hl => ?_)
                                refine lv_iload hx hb dX12_draw_273 (lv_at hl 2 rfl) ?_
                                refine lv_aload_n hx hb dX12_draw_275 rfl (lv_at hl 1 rfl) ?_
                                obtain ⟨b99, rb99, tb99⟩ := hR.at a0 27 t_a0 (rfl : h_rs 13 27 = some (1327, false)) (by decide)
                                refine h_get (v := .ref b99) hx hb hts iX12 hown g t_a0 (by decide) so_13 rfl 27 (by decide) (hts (.fieldLink RX12 64 "CapLeagueModel" "guarded" "[I") (by decide +kernel)) rfl dX12_draw_276 (by show va_rf (z.R a0 27) = _; rw [rb99]; rfl) ?_
                                refine lv_iload hx hb dX12_draw_279 (lv_at hl 0 rfl) ?_
                                refine h_ald hx hb g tb99 (by decide) so_1327 (xi_in (by omega) (by omega)) dX12_draw_281 ?_
                                refine lv_topi (fun v100 ev100 => ?_)
                                have jv100 := hI.rd b99 v98.toNatClampNeg tb99 ev100 (rfl : h_bd 1327 _ = ((-2147483648), 2147483647))
                                refine lv_icmp_ge (tgt := 307) hx hb dX12_draw_282 (by decide) (fun c101 => ?_) (fun c101 => ?_)
                                · have ic101 := (xi_le c101 rfl rfl : v100.toInt ≤ v89.toInt)
                                  refine lv_aload_n hx hb dX12_draw_307 rfl (lv_at hl 1 rfl) ?_
                                  obtain ⟨b102, rb102, tb102⟩ := hR.at a0 29 t_a0 (rfl : h_rs 13 29 = some (1329, false)) (by decide)
                                  refine h_get (v := .ref b102) hx hb hts iX12 hown g t_a0 (by decide) so_13 rfl 29 (by decide) (hts (.fieldLink RX12 70 "CapLeagueModel" "drawnTo" "[I") (by decide +kernel)) rfl dX12_draw_308 (by show va_rf (z.R a0 29) = _; rw [rb102]; rfl) ?_
                                  refine lv_bipush (v := 8) hx hb dX12_draw_311 (by decide) ?_
                                  refine lv_aload_n hx hb dX12_draw_313 rfl (lv_at hl 1 rfl) ?_
                                  refine h_get (v := .int f0_12) hx hb hts iX12 hown g t_a0 (by decide) so_13 rfl 12 (by decide) (hts (.fieldLink RX12 187 "CapLeagueModel" "clock" "I") (by decide +kernel)) rfl dX12_draw_314 (congrArg Value.int ((h_F.at hL241 t_a0 rfl).trans ((h_F.at hL188 t_a0 rfl).trans ((h_F.at hF2 t_a0 rfl).trans (ef0_12.symm))))) ?_
                                  refine lv_imul hx hb dX12_draw_317 ?_
                                  refine xw_i (v := v94) ev94.symm ?_
                                  refine lv_iload hx hb dX12_draw_318 (lv_at hl 2 rfl) ?_
                                  refine lv_iadd hx hb dX12_draw_320 ?_
                                  refine xw_i (v := v95) ev95.symm ?_
                                  refine lv_aload_n hx hb dX12_draw_321 rfl (lv_at hl 1 rfl) ?_
                                  obtain ⟨b103, rb103, tb103⟩ := hR.at a0 25 t_a0 (rfl : h_rs 13 25 = some (1325, false)) (by decide)
                                  refine h_get (v := .ref b103) hx hb hts iX12 hown g t_a0 (by decide) so_13 rfl 25 (by decide) (hts (.fieldLink RX12 58 "CapLeagueModel" "owner" "[I") (by decide +kernel)) rfl dX12_draw_322 (by show va_rf (z.R a0 25) = _; rw [rb103]; rfl) ?_
                                  refine lv_iload hx hb dX12_draw_325 (lv_at hl 0 rfl) ?_
                                  refine h_ald hx hb g tb103 (by decide) so_1325 (xi_in (by omega) (by omega)) dX12_draw_327 ?_
                                  refine lv_topi (fun v104 ev104 => ?_)
                                  have jv104 := hI.rd b103 v98.toNatClampNeg tb103 ev104 (rfl : h_bd 1325 _ = ((-2147483648), 2147483647))
                                  refine h_ast hx hb g tb102 (by decide) so_1329 (xi_in (by omega) (by omega)) dX12_draw_328 (fun I105 H locs eI105 g => ?_)
                                  have hI := hI.wr eI105 tb102 (rfl : h_bd 1329 _ = ((-2147483648), 2147483647)) (xi_lo _) (Int.le_of_lt_add_one (xi_hi _))
                                  have hF := hF.wr eI105 tb102 rfl
                                  obtain ⟨v106, ev106⟩ : ∃ z : Int32, z = v89 + 1 := ⟨_, rfl⟩
                                  have jv106 : v106.toInt = v89.toInt + 1 := xi_add ev106 rfl (by decide) (by omega) (by omega)
                                  refine lv_iinc (v := v106) (lv' := [(4, .int v106), (5, .int v98), (0, .ref a0)]) hx hb dX12_draw_329 hl (k := 2) rfl (by rw [ev106]; rfl) (by decide) rfl (fun ls hl => ?_)
                                  refine lv_goto (tgt := 241) hx hb dX12_draw_332 (by decide) ?_
                                  exact ih241 I105 _ _ _ v106 g hI hF (lv_sub hl [2, 0] rfl) (by omega) (h_F.wr (h_F.call (h_F.rf : h_F [(1325, 999), (1327, 999), (1329, 999)] z I87 I87) hL241 rfl) eI105 tb102 rfl) (by omega)
                                · have ic101 := (xi_nle c101 rfl rfl : v89.toInt < v100.toInt)
                                  refine lv_aload_n hx hb dX12_draw_285 rfl (lv_at hl 1 rfl) ?_
                                  obtain ⟨b107, rb107, tb107⟩ := hR.at a0 25 t_a0 (rfl : h_rs 13 25 = some (1325, false)) (by decide)
                                  refine h_get (v := .ref b107) hx hb hts iX12 hown g t_a0 (by decide) so_13 rfl 25 (by decide) (hts (.fieldLink RX12 58 "CapLeagueModel" "owner" "[I") (by decide +kernel)) rfl dX12_draw_286 (by show va_rf (z.R a0 25) = _; rw [rb107]; rfl) ?_
                                  refine lv_iload hx hb dX12_draw_289 (lv_at hl 0 rfl) ?_
                                  refine lv_aload_n hx hb dX12_draw_291 rfl (lv_at hl 1 rfl) ?_
                                  obtain ⟨b108, rb108, tb108⟩ := hR.at a0 26 t_a0 (rfl : h_rs 13 26 = some (1326, false)) (by decide)
                                  refine h_get (v := .ref b108) hx hb hts iX12 hown g t_a0 (by decide) so_13 rfl 26 (by decide) (hts (.fieldLink RX12 61 "CapLeagueModel" "giver" "[I") (by decide +kernel)) rfl dX12_draw_292 (by show va_rf (z.R a0 26) = _; rw [rb108]; rfl) ?_
                                  refine lv_iload hx hb dX12_draw_295 (lv_at hl 0 rfl) ?_
                                  refine h_ald hx hb g tb108 (by decide) so_1326 (xi_in (by omega) (by omega)) dX12_draw_297 ?_
                                  refine lv_topi (fun v109 ev109 => ?_)
                                  have jv109 := hI.rd b108 v98.toNatClampNeg tb108 ev109 (rfl : h_bd 1326 _ = ((-2147483648), 2147483647))
                                  refine h_ast hx hb g tb107 (by decide) so_1325 (xi_in (by omega) (by omega)) dX12_draw_298 (fun I110 H locs eI110 g => ?_)
                                  have hI := hI.wr eI110 tb107 (rfl : h_bd 1325 _ = ((-2147483648), 2147483647)) (xi_lo _) (Int.le_of_lt_add_one (xi_hi _))
                                  have hF := hF.wr eI110 tb107 rfl
                                  refine lv_aload_n hx hb dX12_draw_299 rfl (lv_at hl 1 rfl) ?_
                                  refine h_get (v := .ref b99) hx hb hts iX12 hown g t_a0 (by decide) so_13 rfl 27 (by decide) (hts (.fieldLink RX12 64 "CapLeagueModel" "guarded" "[I") (by decide +kernel)) rfl dX12_draw_300 (by show va_rf (z.R a0 27) = _; rw [rb99]; rfl) ?_
                                  refine lv_iload hx hb dX12_draw_303 (lv_at hl 0 rfl) ?_
                                  refine lv_iconst (v := 0) hx hb dX12_draw_305 (by decide) ?_
                                  refine h_ast hx hb g tb99 (by decide) so_1327 (xi_in (by omega) (by omega)) dX12_draw_306 (fun I111 H locs eI111 g => ?_)
                                  have hI := hI.wr eI111 tb99 (rfl : h_bd 1327 _ = ((-2147483648), 2147483647)) (by decide) (by decide)
                                  have hF := hF.wr eI111 tb99 rfl
                                  refine lv_aload_n hx hb dX12_draw_307 rfl (lv_at hl 1 rfl) ?_
                                  obtain ⟨b112, rb112, tb112⟩ := hR.at a0 29 t_a0 (rfl : h_rs 13 29 = some (1329, false)) (by decide)
                                  refine h_get (v := .ref b112) hx hb hts iX12 hown g t_a0 (by decide) so_13 rfl 29 (by decide) (hts (.fieldLink RX12 70 "CapLeagueModel" "drawnTo" "[I") (by decide +kernel)) rfl dX12_draw_308 (by show va_rf (z.R a0 29) = _; rw [rb112]; rfl) ?_
                                  refine lv_bipush (v := 8) hx hb dX12_draw_311 (by decide) ?_
                                  refine lv_aload_n hx hb dX12_draw_313 rfl (lv_at hl 1 rfl) ?_
                                  refine h_get (v := .int f0_12) hx hb hts iX12 hown g t_a0 (by decide) so_13 rfl 12 (by decide) (hts (.fieldLink RX12 187 "CapLeagueModel" "clock" "I") (by decide +kernel)) rfl dX12_draw_314 (congrArg Value.int ((h_n1 eI111 t_a0 tb99 (by decide)).trans ((h_n1 eI110 t_a0 tb107 (by decide)).trans ((h_F.at hL241 t_a0 rfl).trans ((h_F.at hL188 t_a0 rfl).trans ((h_F.at hF2 t_a0 rfl).trans (ef0_12.symm))))))) ?_
                                  refine lv_imul hx hb dX12_draw_317 ?_
                                  refine xw_i (v := v94) ev94.symm ?_
                                  refine lv_iload hx hb dX12_draw_318 (lv_at hl 2 rfl) ?_
                                  refine lv_iadd hx hb dX12_draw_320 ?_
                                  refine xw_i (v := v95) ev95.symm ?_
                                  refine lv_aload_n hx hb dX12_draw_321 rfl (lv_at hl 1 rfl) ?_
                                  refine h_get (v := .ref b107) hx hb hts iX12 hown g t_a0 (by decide) so_13 rfl 25 (by decide) (hts (.fieldLink RX12 58 "CapLeagueModel" "owner" "[I") (by decide +kernel)) rfl dX12_draw_322 (by show va_rf (z.R a0 25) = _; rw [rb107]; rfl) ?_
                                  refine lv_iload hx hb dX12_draw_325 (lv_at hl 0 rfl) ?_
                                  refine h_ald hx hb g tb107 (by decide) so_1325 (xi_in (by omega) (by omega)) dX12_draw_327 ?_
                                  refine xw_i ((h_n1 eI111 tb107 tb99 (by decide)).trans (h_n0 eI110)) ?_
                                  refine h_ast hx hb g tb112 (by decide) so_1329 (xi_in (by omega) (by omega)) dX12_draw_328 (fun I113 H locs eI113 g => ?_)
                                  have hI := hI.wr eI113 tb112 (rfl : h_bd 1329 _ = ((-2147483648), 2147483647)) (xi_lo _) (Int.le_of_lt_add_one (xi_hi _))
                                  have hF := hF.wr eI113 tb112 rfl
                                  obtain ⟨v114, ev114⟩ : ∃ z : Int32, z = v89 + 1 := ⟨_, rfl⟩
                                  have jv114 : v114.toInt = v89.toInt + 1 := xi_add ev114 rfl (by decide) (by omega) (by omega)
                                  refine lv_iinc (v := v114) (lv' := [(4, .int v114), (5, .int v98), (0, .ref a0)]) hx hb dX12_draw_329 hl (k := 2) rfl (by rw [ev114]; rfl) (by decide) rfl (fun ls hl => ?_)
                                  refine lv_goto (tgt := 241) hx hb dX12_draw_332 (by decide) ?_
                                  exact ih241 I113 _ _ _ v114 g hI hF (lv_sub hl [2, 0] rfl) (by omega) (h_F.wr (h_F.wr (h_F.wr (h_F.call (h_F.rf : h_F [(1325, 999), (1327, 999), (1329, 999)] z I87 I87) hL241 rfl) eI110 tb107 rfl) eI111 tb99 rfl) eI113 tb112 rfl) (by omega)
                          exact loop241_4 _ I87 _ _ _ (0) g hI hF (lv_sub hl [1, 0] rfl) ⟨by decide, by decide⟩ (h_F.rf : h_F [(1325, 999), (1327, 999), (1329, 999)] z I87 I87) (show (8 - (0 : Int)) < (((8 - (0 : Int)).toNat + 1 : Nat) : Int) by omega)
                        · have ic88 := (xi_nle c88 (by decide) rfl : v86.toInt < 8)
                          refine lv_aload_n hx hb dX12_draw_195 rfl (lv_at hl 0 rfl) ?_
                          refine h_get (v := .ref ot) hx hb hts iX12 hown g t_a0 (by decide) so_13 rfl 48 (by decide) (hts (.fieldLink RX12 109 "CapLeagueModel" "isOut" "[Z") (by decide +kernel)) rfl dX12_draw_196 (by show va_rf (z.R a0 48) = _; rw [rot]; rfl) ?_
                          refine lv_iload hx hb dX12_draw_199 (lv_at hl 2 rfl) ?_
                          refine h_zald hx hb g tot (by decide) so_1348 (xi_in (by omega) (by omega)) dX12_draw_201 ?_
                          refine lv_topi (fun v115 ev115 => ?_)
                          have jv115 := hI.rd ot v86.toNatClampNeg tot ev115 (rfl : h_bd 1348 _ = (0, 1))
                          have ho := hout v86 (by omega) (by omega)
                          rw [← h_F.at hL188 tot rfl, ← ev115] at ho
                          refine lv_if_eq (tgt := 208) hx hb dX12_draw_202 (by decide) (fun c116 => ?_) (fun c116 => ?_)
                          · have ic116 := (xi_eq c116 rfl (by decide) : v115.toInt = 0)
                            refine lv_aload_n hx hb dX12_draw_208 rfl (lv_at hl 0 rfl) ?_
                            refine h_get (v := .ref dr) hx hb hts iX12 hown g t_a0 (by decide) so_13 rfl 28 (by decide) (hts (.fieldLink RX12 67 "CapLeagueModel" "drawnOf" "[I") (by decide +kernel)) rfl dX12_draw_209 (by show va_rf (z.R a0 28) = _; rw [rdr]; rfl) ?_
                            refine lv_bipush (v := 8) hx hb dX12_draw_212 (by decide) ?_
                            refine lv_aload_n hx hb dX12_draw_214 rfl (lv_at hl 0 rfl) ?_
                            refine h_get (v := .int f0_12) hx hb hts iX12 hown g t_a0 (by decide) so_13 rfl 12 (by decide) (hts (.fieldLink RX12 187 "CapLeagueModel" "clock" "I") (by decide +kernel)) rfl dX12_draw_215 (congrArg Value.int ((h_F.at hL188 t_a0 rfl).trans ((h_F.at hF2 t_a0 rfl).trans (ef0_12.symm)))) ?_
                            refine lv_imul hx hb dX12_draw_218 ?_
                            refine lv_topi (fun v117 ev117 => ?_)
                            have jv117 : v117.toInt = 8 * f0_12.toInt := xi_mul ev117 (by decide) rfl (by omega) (by omega)
                            refine lv_iload_n hx hb dX12_draw_219 rfl (lv_at hl 1 rfl) ?_
                            refine lv_iadd hx hb dX12_draw_220 ?_
                            refine lv_topi (fun v118 ev118 => ?_)
                            have jv118 : v118.toInt = v117.toInt + v85.toInt := xi_add ev118 rfl rfl (by omega) (by omega)
                            refine lv_aload_n hx hb dX12_draw_221 rfl (lv_at hl 0 rfl) ?_
                            obtain ⟨b119, rb119, tb119⟩ := hR.at a0 32 t_a0 (rfl : h_rs 13 32 = some (1332, false)) (by decide)
                            refine h_get (v := .ref b119) hx hb hts iX12 hown g t_a0 (by decide) so_13 rfl 32 (by decide) (hts (.fieldLink RX12 73 "CapLeagueModel" "table" "[I") (by decide +kernel)) rfl dX12_draw_222 (by show va_rf (z.R a0 32) = _; rw [rb119]; rfl) ?_
                            refine lv_iload hx hb dX12_draw_225 (lv_at hl 2 rfl) ?_
                            refine h_ald hx hb g tb119 (by decide) so_1332 (xi_in (by omega) (by omega)) dX12_draw_227 ?_
                            refine lv_topi (fun v120 ev120 => ?_)
                            have jv120 := hI.rd b119 v86.toNatClampNeg tb119 ev120 (rfl : h_bd 1332 _ = (0, 7))
                            refine h_ast hx hb g tdr (by decide) so_1328 (xi_in (by omega) (by omega)) dX12_draw_228 (fun I121 H locs eI121 g => ?_)
                            have hI := hI.wr eI121 tdr (rfl : h_bd 1328 _ = ((-1), 7)) (by omega) (by omega)
                            have hF := hF.wr eI121 tdr rfl
                            obtain ⟨v122, ev122⟩ : ∃ z : Int32, z = v85 + 1 := ⟨_, rfl⟩
                            have jv122 : v122.toInt = v85.toInt + 1 := xi_add ev122 rfl (by decide) (by omega) (by omega)
                            refine lv_iinc (v := v122) (lv' := [(3, .int v122), (0, .ref a0), (4, .int v86)]) hx hb dX12_draw_229 hl (k := 1) rfl (by rw [ev122]; rfl) (by decide) rfl (fun ls hl => ?_)
                            obtain ⟨v123, ev123⟩ : ∃ z : Int32, z = v86 + 1 := ⟨_, rfl⟩
                            have jv123 : v123.toInt = v86.toInt + 1 := xi_add ev123 rfl (by decide) (by omega) (by omega)
                            refine lv_iinc (v := v123) (lv' := [(4, .int v123), (3, .int v122), (0, .ref a0)]) hx hb dX12_draw_232 hl (k := 2) rfl (by rw [ev123]; rfl) (by decide) rfl (fun ls hl => ?_)
                            refine lv_goto (tgt := 188) hx hb dX12_draw_235 (by decide) ?_
                            exact ih188 I121 _ _ _ v122 v123 g hI hF (lv_sub hl [2, 1, 0] rfl) (by omega) (by omega) (h_F.wr (h_F.call (h_F.rf : h_F [(1328, 999)] z I2 I2) hL188 rfl) eI121 tdr rfl) (by omega) (fun k hk => by
                                by_cases ek : (k : Int) = v85.toInt
                                · rw [← h_keq (k := 8 * f0_12.toInt.toNat + k) (i := v118) rfl (by omega) (by omega), h_n0 eI121]
                                  omega
                                · rw [h_n2 eI121 (h_kne (i := v118) rfl (by omega) (by omega))]
                                  exact hx188_1 k (by omega)) (by omega)
                          · have ic116 := (xi_ne c116 rfl (by decide) : v115.toInt ≠ 0)
                            refine lv_goto (tgt := 232) hx hb dX12_draw_205 (by decide) ?_
                            obtain ⟨v124, ev124⟩ : ∃ z : Int32, z = v86 + 1 := ⟨_, rfl⟩
                            have jv124 : v124.toInt = v86.toInt + 1 := xi_add ev124 rfl (by decide) (by omega) (by omega)
                            refine lv_iinc (v := v124) (lv' := [(4, .int v124), (0, .ref a0), (3, .int v85)]) hx hb dX12_draw_232 hl (k := 2) rfl (by rw [ev124]; rfl) (by decide) rfl (fun ls hl => ?_)
                            refine lv_goto (tgt := 188) hx hb dX12_draw_235 (by decide) ?_
                            exact ih188 I87 _ _ _ v85 v124 g hI hF (lv_sub hl [1, 2, 0] rfl) (by omega) (by omega) (h_F.call (h_F.rf : h_F [(1328, 999)] z I2 I2) hL188 rfl) (by omega) (hx188_1) (by omega)
                    have kc125 : (0 : Int32).toInt = 0 := by decide
                    have kc126 : (0 : Int32).toInt = 0 := by decide
                    exact loop188_3 _ I2 _ _ _ (0) (0) g hI hF (lv_sub hl [2, 1, 0] rfl) ⟨by decide, by decide⟩ ⟨by decide, by decide⟩ (h_F.rf : h_F [(1328, 999)] z I2 I2) (by omega) (fun k hk => absurd hk (by omega)) (show (8 - (0 : Int)) < (((8 - (0 : Int)).toNat + 1 : Nat) : Int) by omega)
                  · have ic84 := (xi_nle c84 rfl (by decide) : 0 < rh83.toInt)
                    exfalso
                    omega
                · have ic82 := (xi_ne c82 rfl (by decide) : v81.toInt ≠ 0)
                  refine lv_bipush (v := (-4)) hx hb dX12_draw_103 (by decide) ?_
                  have hS := g.2.1
                  exact W.iret (v := (-4)) hx hb hr (fun t ht hW => ⟨⟨(-4), I2, rfl, ⟨hI, hF, trivial⟩, h_ret g ht⟩, hS.F ht⟩) hS.2.2 dX12_draw_105
            · have ic79 := (xi_ne c79 h_b (by decide) : b_t ≠ 0)
              refine lv_bipush (v := (-2)) hx hb dX12_draw_38 (by decide) ?_
              have hS := g.2.1
              exact W.iret (v := (-2)) hx hb hr (fun t ht hW => ⟨⟨(-2), I2, rfl, ⟨hI, hF, trivial⟩, h_ret g ht⟩, hS.F ht⟩) hS.2.2 dX12_draw_40
      · have ic3 := (xi_nle c3 (by decide) rfl : v1.toInt < 8)
        refine lv_aload_n hx hb dX12_draw_8 rfl (lv_at hl 0 rfl) ?_
        refine h_get (v := .ref ot) hx hb hts iX12 hown g t_a0 (by decide) so_13 rfl 48 (by decide) (hts (.fieldLink RX12 109 "CapLeagueModel" "isOut" "[Z") (by decide +kernel)) rfl dX12_draw_9 (by show va_rf (z.R a0 48) = _; rw [rot]; rfl) ?_
        refine lv_iload_n hx hb dX12_draw_12 rfl (lv_at hl 3 rfl) ?_
        refine lv_iconst (v := 0) hx hb dX12_draw_13 (by decide) ?_
        refine h_zast hx hb g tot (by decide) so_1348 (xi_in (by omega) (by omega)) dX12_draw_14 (fun I127 H locs eI127 g => ?_)
        rw [h_nz (by decide) (by decide)] at eI127
        have hI := hI.wr eI127 tot (rfl : h_bd 1348 _ = (0, 1)) (by decide) (by decide)
        have hF := hF.wr eI127 tot rfl
        obtain ⟨v128, ev128⟩ : ∃ z : Int32, z = v1 + 1 := ⟨_, rfl⟩
        have jv128 : v128.toInt = v1.toInt + 1 := xi_add ev128 rfl (by decide) (by omega) (by omega)
        refine lv_iinc (v := v128) (lv' := [(3, .int v128), (0, .ref a0), (1, .int a), (2, .int b)]) hx hb dX12_draw_15 hl (k := 3) rfl (by rw [ev128]; rfl) (by decide) rfl (fun ls hl => ?_)
        refine lv_goto (tgt := 2) hx hb dX12_draw_18 (by decide) ?_
        exact ih2 I127 _ _ _ v128 g hI hF (lv_sub hl [1, 2, 3, 0] rfl) (by omega) (fun k hk => by
            by_cases ek : (k : Int) = v1.toInt
            · rw [← h_keq (k := k) (i := v1) rfl (by omega) ek, h_n0 eI127]
            · rw [h_n2 eI127 (h_kne (t := v1.toInt) rfl (by omega) ek)]
              exact hx2_0 k (by omega)) (by omega)
  have kc129 : (0 : Int32).toInt = 0 := by decide
  exact loop2_0 _ I0 _ _ _ (0) g hI hF (lv_sub hl [1, 2, 3, 0] rfl) ⟨by decide, by decide⟩ (fun k hk => absurd hk (by omega)) (show (8 - (0 : Int)) < (((8 - (0 : Int)).toNat + 1 : Nat) : Int) by omega)
