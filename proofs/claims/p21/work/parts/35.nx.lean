set_option maxHeartbeats 4000000 in
set_option maxRecDepth 100000 in
theorem tX12_nextJ (l : Launch) (E : tE) (X : tX) (A : Nat → Prop) (z : tZ) (I0 : tI) (L0 : tL) (a0 : Nat) (t_a0 : z.ty a0 = 13) : Met l yX12_next wsX12_next ({ frames := 5, cells := 0, slots := 0, locals := 320 }) (va_Pc [.ref a0] (h_P E X A z I0 L0)) (va_Qi (fun r (I1 : tI) => h_I z I1 ∧ h_F [(1349, 999), (13, 50), (13, 12), (1322, 999), (1314, 999), (1324, 999), (13, 30), (13, 31), (13, 33)] z I0 I1 ∧ ((I1 a0 30).toInt = 1 → (I0 a0 30).toInt = 1)) (fun (I1 : tI) t => h_B E A z I1 L0 t) A) 0 0 A := by
  refine Met.ofW (cc := cX12_next) (maxL := 6) (ret := (some .int)) (by decide) rfl ?_
  intro pr_ ev_ s m args below meth cd_ s₁ B hml hv
  obtain ⟨rfl, hE, hk, hX, hA, hK, hI, hR, hB0⟩ := hv
  have g : h_G h_so h_fk E A z I0 L0 s s.heap s.heap [] := ⟨hK, va_S.rf, hB0⟩
  have hF : h_F [(1349, 999), (13, 50), (13, 12), (1322, 999), (1314, 999), (1324, 999), (13, 30), (13, 31), (13, 33)] z I0 I0 := h_F.rf
  have hx := B.exec
  have hb := B.bytes
  have hr := B.returns
  have hts := atoms_spec (ws := wsX12_next) B.pre
  have hown : s.vm.findClass RX12 = some m.cls := findClass_of_methodNamed B.named
  have hlocks := B.notSynchronized
  have iX12 : ∀ w ∈ u_ws RX12 TX12 51, w ∈ wsX12_next := by decide +kernel
  have hl := lv_entry ([.ref a0]) (n := 6) (Nat.le_of_ble_eq_true rfl)
  rw [lg_entry_eq]
  generalize (lg_sl ([.ref a0]) ++ List.replicate (6 - (lg_sl ([.ref a0])).length) Slot.unset).toArray = ls at hl ⊢
  have hl : lv_has ls 6 [(0, .ref a0)] := hl
  obtain ⟨f0_30, ef0_30⟩ : ∃ v : Int32, v = I0 a0 30 := ⟨_, rfl⟩
  have qf0_30 : (I0 a0 30).toInt = f0_30.toInt := congrArg Int32.toInt ef0_30.symm
  have jf0_30 := hI.rd a0 30 t_a0 ef0_30 (rfl : h_bd 13 30 = (0, 1))
  refine lv_aload_n hx hb dX12_next_0 rfl (lv_at hl 0 rfl) ?_
  refine h_get (v := .int (I0 a0 12)) hx hb hts iX12 hown g t_a0 (by decide) so_13 rfl 12 (by decide) (hts (.fieldLink RX12 187 "CapLeagueModel" "clock" "I") (by decide +kernel)) rfl dX12_next_1 rfl ?_
  refine lv_topi (fun v1 ev1 => ?_)
  have jv1 := hI.rd a0 12 t_a0 ev1 (rfl : h_bd 13 12 = (0, 9))
  refine lv_bipush (v := 9) hx hb dX12_next_4 (by decide) ?_
  refine lv_icmp_eq (tgt := 16) hx hb dX12_next_6 (by decide) (fun c2 => ?_) (fun c2 => ?_)
  · have ic2 := (xi_eq c2 rfl (by decide) : v1.toInt = 9)
    refine lv_bipush (v := (-4)) hx hb dX12_next_16 (by decide) ?_
    have hS := g.2.1
    exact W.iret (v := (-4)) hx hb hr (fun t ht hW => ⟨⟨(-4), I0, rfl, ⟨hI, hF, (by have qr : ((-4) : Int32).toInt = (-4) := (by decide); omega)⟩, h_ret g ht⟩, hS.F ht⟩) hS.2.2 dX12_next_18
  · have ic2 := (xi_ne c2 rfl (by decide) : v1.toInt ≠ 9)
    refine lv_aload_n hx hb dX12_next_9 rfl (lv_at hl 0 rfl) ?_
    refine h_get (v := .int (I0 a0 31)) hx hb hts iX12 hown g t_a0 (by decide) so_13 rfl 31 (by decide) (hts (.fieldLink RX12 264 "CapLeagueModel" "isDrawn" "Z") (by decide +kernel)) rfl dX12_next_10 rfl ?_
    refine lv_topi (fun v3 ev3 => ?_)
    have jv3 := hI.rd a0 31 t_a0 ev3 (rfl : h_bd 13 31 = (0, 1))
    refine lv_if_ne (tgt := 19) hx hb dX12_next_13 (by decide) (fun c4 => ?_) (fun c4 => ?_)
    · have ic4 := (xi_ne c4 rfl (by decide) : v3.toInt ≠ 0)
      refine lv_iconst (v := 0) hx hb dX12_next_19 (by decide) ?_
      refine lv_istore_n (lv' := [(1, .int 0), (0, .ref a0)]) hx hb dX12_next_20 rfl hl (by decide) rfl (fun ls hl => ?_)
      refine lv_iconst (v := 0) hx hb dX12_next_21 (by decide) ?_
      refine lv_istore_n (lv' := [(2, .int 0), (1, .int 0), (0, .ref a0)]) hx hb dX12_next_22 rfl hl (by decide) rfl (fun ls hl => ?_)
      refine lv_iconst (v := 0) hx hb dX12_next_23 (by decide) ?_
      refine lv_istore_n (lv' := [(3, .int 0), (2, .int 0), (1, .int 0), (0, .ref a0)]) hx hb dX12_next_24 rfl hl (by decide) rfl (fun ls hl => ?_)
      have loop25_0 : ∀ (n : Nat) (I8 : tI) (H : Heap) (locs : List Loc) (ls : Array Slot) (v5 v6 v7 : Int32), h_G h_so h_fk E A z I8 L0 s s.heap H locs → h_I z I8 → h_F [(1349, 999), (13, 50), (13, 12), (1322, 999), (1314, 999), (1324, 999), (13, 30), (13, 31), (13, 33)] z I0 I8 → lv_has ls 6 [(0, .ref a0), (1, .int v5), (2, .int v6), (3, .int v7)] → ((-2147483648) ≤ v5.toInt ∧ v5.toInt ≤ 2147483647) → ((-2147483648) ≤ v6.toInt ∧ v6.toInt ≤ 2147483647) → (0 ≤ v7.toInt ∧ v7.toInt ≤ 8) → h_F [(1349, 999)] z I0 I8 → (8 - v7.toInt) < (n : Int) → W pr_ l ev_ (headSpec wsX12_next ({ frames := 5, cells := 0, slots := 0, locals := 320 })).room s m ([.ref a0] : List Value).toArray below meth cd_ H locs 0 0 (MQ below (va_Qi (fun r (I1 : tI) => h_I z I1 ∧ h_F [(1349, 999), (13, 50), (13, 12), (1322, 999), (1314, 999), (1324, 999), (13, 30), (13, 31), (13, 33)] z I0 I1 ∧ ((I1 a0 30).toInt = 1 → (I0 a0 30).toInt = 1)) (fun (I1 : tI) t => h_B E A z I1 L0 t) A) ([.ref a0] : List Value).toArray s 0 0 A) (F0 m 25 ls []) := by
        intro n
        induction n with
        | zero => intro I8 H locs ls v5 v6 v7 g hI hF hl jv5 jv6 jv7 hL25 hn; exact absurd hn (by omega)
        | succ n ih25 =>
          intro I8 H locs ls v5 v6 v7 g hI hF hl jv5 jv6 jv7 hL25 hn
          refine lv_iload_n hx hb dX12_next_25 rfl (lv_at hl 3 rfl) ?_
          refine lv_bipush (v := 8) hx hb dX12_next_26 (by decide) ?_
          refine lv_icmp_ge (tgt := 106) hx hb dX12_next_28 (by decide) (fun c9 => ?_) (fun c9 => ?_)
          · have ic9 := (xi_le c9 (by decide) rfl : 8 ≤ v7.toInt)
            refine lv_bipush (v := 8) hx hb dX12_next_106 (by decide) ?_
            refine lv_iload_n hx hb dX12_next_108 rfl (lv_at hl 2 rfl) ?_
            refine vp_callSi (W.runS (As := [.int v6]) (rest := [.int 8]) ⟨hx, hb, hml, hown, hts⟩ (tX12_bits l E X A z I8 L0 v6 (v6.toInt) rfl) (va_cwS 1 hts gX12_next_X12_bits rfl rfl rfl (by decide +kernel) ⟨Nat.le_of_ble_eq_true rfl, Nat.le_of_ble_eq_true rfl⟩) ⟨h_blind _ _ _ _ _ _ _, h_pre _ hE hk hX hA hI hR g⟩ rfl rfl hl.1 rfl (lv_room (Nat.le_of_ble_eq_true rfl)) dX12_next_109 ⟨Nat.le_of_ble_eq_true rfl, Nat.le_of_ble_eq_true rfl⟩) (fun rh10 h10 => ?_)
            have jrh10 : -2147483648 ≤ rh10.toInt ∧ rh10.toInt ≤ 2147483647 := ⟨xi_lo _, Int.le_of_lt_add_one (xi_hi _)⟩
            refine lv_isub hx hb dX12_next_112 ?_
            refine lv_topi (fun v11 ev11 => ?_)
            have jv11 : -2147483648 ≤ v11.toInt ∧ v11.toInt ≤ 2147483647 := ⟨xi_lo _, Int.le_of_lt_add_one (xi_hi _)⟩
            refine lv_istore_n (lv' := [(3, .int v11), (0, .ref a0), (1, .int v5), (2, .int v6)]) hx hb dX12_next_113 rfl hl (by decide) rfl (fun ls hl => ?_)
            refine lv_iload_n hx hb dX12_next_114 rfl (lv_at hl 0 rfl) ?_
            refine lv_if_ne (tgt := 122) hx hb dX12_next_115 (by decide) (fun c12 => ?_) (fun c12 => ?_)
            · have ic12 := (xi_ne c12 rfl (by decide) : v11.toInt ≠ 0)
              refine lv_iload_n hx hb dX12_next_122 rfl (lv_at hl 2 rfl) ?_
              refine lv_iload_n hx hb dX12_next_123 rfl (lv_at hl 0 rfl) ?_
              refine lv_idiv hx hb dX12_next_124 (h_ne0 (by omega)) ?_
              refine lv_topi (fun v13 ev13 => ?_)
              have jv13 : -2147483648 ≤ v13.toInt ∧ v13.toInt ≤ 2147483647 := ⟨xi_lo _, Int.le_of_lt_add_one (xi_hi _)⟩
              refine lv_istore (lv' := [(4, .int v13), (3, .int v11), (0, .ref a0), (1, .int v5), (2, .int v6)]) hx hb dX12_next_125 hl (by decide) rfl (fun ls hl => ?_)
              refine lv_iconst (v := 0) hx hb dX12_next_127 (by decide) ?_
              refine lv_istore (lv' := [(5, .int 0), (4, .int v13), (3, .int v11), (0, .ref a0), (1, .int v5), (2, .int v6)]) hx hb dX12_next_128 hl (by decide) rfl (fun ls hl => ?_)
              have loop130_1 : ∀ (n : Nat) (I15 : tI) (H : Heap) (locs : List Loc) (ls : Array Slot) (v14 : Int32), h_G h_so h_fk E A z I15 L0 s s.heap H locs → h_I z I15 → h_F [(1349, 999), (13, 50), (13, 12), (1322, 999), (1314, 999), (1324, 999), (13, 30), (13, 31), (13, 33)] z I0 I15 → lv_has ls 6 [(0, .ref a0), (1, .int v5), (2, .int v6), (3, .int v11), (4, .int v13), (5, .int v14)] → (0 ≤ v14.toInt ∧ v14.toInt ≤ 8) → h_F [(1349, 999)] z I8 I15 → (8 - v14.toInt) < (n : Int) → W pr_ l ev_ (headSpec wsX12_next ({ frames := 5, cells := 0, slots := 0, locals := 320 })).room s m ([.ref a0] : List Value).toArray below meth cd_ H locs 0 0 (MQ below (va_Qi (fun r (I1 : tI) => h_I z I1 ∧ h_F [(1349, 999), (13, 50), (13, 12), (1322, 999), (1314, 999), (1324, 999), (13, 30), (13, 31), (13, 33)] z I0 I1 ∧ ((I1 a0 30).toInt = 1 → (I0 a0 30).toInt = 1)) (fun (I1 : tI) t => h_B E A z I1 L0 t) A) ([.ref a0] : List Value).toArray s 0 0 A) (F0 m 130 ls []) := by
                intro n
                induction n with
                | zero => intro I15 H locs ls v14 g hI hF hl jv14 hL130 hn; exact absurd hn (by omega)
                | succ n ih130 =>
                  intro I15 H locs ls v14 g hI hF hl jv14 hL130 hn
                  refine lv_iload hx hb dX12_next_130 (lv_at hl 5 rfl) ?_
                  refine lv_bipush (v := 8) hx hb dX12_next_132 (by decide) ?_
                  refine lv_icmp_ge (tgt := 169) hx hb dX12_next_134 (by decide) (fun c16 => ?_) (fun c16 => ?_)
                  · have ic16 := (xi_le c16 (by decide) rfl : 8 ≤ v14.toInt)
                    refine lv_aload_n hx hb dX12_next_169 rfl (lv_at hl 0 rfl) ?_
                    refine lv_dup hx hb dX12_next_170 rfl ?_
                    refine h_get (v := .int (I15 a0 50)) hx hb hts iX12 hown g t_a0 (by decide) so_13 rfl 50 (by decide) (hts (.fieldLink RX12 329 "CapLeagueModel" "league" "I") (by decide +kernel)) rfl dX12_next_171 rfl ?_
                    refine lv_topi (fun v17 ev17 => ?_)
                    have jv17 := hI.rd a0 50 t_a0 ev17 (rfl : h_bd 13 50 = ((-2147483648), 2147483647))
                    refine lv_iload_n hx hb dX12_next_174 rfl (lv_at hl 1 rfl) ?_
                    refine lv_iload hx hb dX12_next_175 (lv_at hl 4 rfl) ?_
                    refine lv_iload_n hx hb dX12_next_177 rfl (lv_at hl 3 rfl) ?_
                    refine lv_imul hx hb dX12_next_178 ?_
                    refine lv_topi (fun v18 ev18 => ?_)
                    have jv18 : -2147483648 ≤ v18.toInt ∧ v18.toInt ≤ 2147483647 := ⟨xi_lo _, Int.le_of_lt_add_one (xi_hi _)⟩
                    refine lv_isub hx hb dX12_next_179 ?_
                    refine lv_topi (fun v19 ev19 => ?_)
                    have jv19 : -2147483648 ≤ v19.toInt ∧ v19.toInt ≤ 2147483647 := ⟨xi_lo _, Int.le_of_lt_add_one (xi_hi _)⟩
                    refine lv_iadd hx hb dX12_next_180 ?_
                    refine lv_topi (fun v20 ev20 => ?_)
                    have jv20 : -2147483648 ≤ v20.toInt ∧ v20.toInt ≤ 2147483647 := ⟨xi_lo _, Int.le_of_lt_add_one (xi_hi _)⟩
                    refine h_putI (ty := .int) (v := v20) hx hb hts iX12 tyX12 tyX12_ok nmX12 hown g t_a0 (by decide) so_13 rfl 50 (by decide) rfl (hts (.fieldLink RX12 329 "CapLeagueModel" "league" "I") (by decide +kernel)) rfl rfl (by decide +kernel) rfl rfl dX12_next_181 (fun I21 H locs eI21 g => ?_)
                    have hI := hI.wr eI21 t_a0 (rfl : h_bd 13 50 = ((-2147483648), 2147483647)) (xi_lo _) (Int.le_of_lt_add_one (xi_hi _))
                    have hF := hF.wr eI21 t_a0 rfl
                    refine lv_aload_n hx hb dX12_next_184 rfl (lv_at hl 0 rfl) ?_
                    refine lv_dup hx hb dX12_next_185 rfl ?_
                    refine h_get (v := .int v1) hx hb hts iX12 hown g t_a0 (by decide) so_13 rfl 12 (by decide) (hts (.fieldLink RX12 187 "CapLeagueModel" "clock" "I") (by decide +kernel)) rfl dX12_next_186 (congrArg Value.int ((h_n2 eI21 (by decide)).trans ((h_F.at hL130 t_a0 rfl).trans ((h_F.at hL25 t_a0 rfl).trans (ev1.symm))))) ?_
                    refine lv_iconst (v := 1) hx hb dX12_next_189 (by decide) ?_
                    refine lv_iadd hx hb dX12_next_190 ?_
                    refine lv_topi (fun v22 ev22 => ?_)
                    have jv22 : v22.toInt = v1.toInt + 1 := xi_add ev22 rfl (by decide) (by omega) (by omega)
                    refine h_putI (ty := .int) (v := v22) hx hb hts iX12 tyX12 tyX12_ok nmX12 hown g t_a0 (by decide) so_13 rfl 12 (by decide) rfl (hts (.fieldLink RX12 187 "CapLeagueModel" "clock" "I") (by decide +kernel)) rfl rfl (by decide +kernel) rfl rfl dX12_next_191 (fun I23 H locs eI23 g => ?_)
                    have hI := hI.wr eI23 t_a0 (rfl : h_bd 13 12 = (0, 9)) (by omega) (by omega)
                    have hF := hF.wr eI23 t_a0 rfl
                    refine lv_iconst (v := 0) hx hb dX12_next_194 (by decide) ?_
                    refine lv_istore (lv' := [(5, .int 0), (0, .ref a0), (1, .int v5), (2, .int v6), (3, .int v11), (4, .int v13)]) hx hb dX12_next_195 hl (by decide) rfl (fun ls hl => ?_)
                    have loop197_2 : ∀ (n : Nat) (I25 : tI) (H : Heap) (locs : List Loc) (ls : Array Slot) (v24 : Int32), h_G h_so h_fk E A z I25 L0 s s.heap H locs → h_I z I25 → h_F [(1349, 999), (13, 50), (13, 12), (1322, 999), (1314, 999), (1324, 999), (13, 30), (13, 31), (13, 33)] z I0 I25 → lv_has ls 6 [(0, .ref a0), (5, .int v24)] → (0 ≤ v24.toInt ∧ v24.toInt ≤ 60) → (60 - v24.toInt) < (n : Int) → W pr_ l ev_ (headSpec wsX12_next ({ frames := 5, cells := 0, slots := 0, locals := 320 })).room s m ([.ref a0] : List Value).toArray below meth cd_ H locs 0 0 (MQ below (va_Qi (fun r (I1 : tI) => h_I z I1 ∧ h_F [(1349, 999), (13, 50), (13, 12), (1322, 999), (1314, 999), (1324, 999), (13, 30), (13, 31), (13, 33)] z I0 I1 ∧ ((I1 a0 30).toInt = 1 → (I0 a0 30).toInt = 1)) (fun (I1 : tI) t => h_B E A z I1 L0 t) A) ([.ref a0] : List Value).toArray s 0 0 A) (F0 m 197 ls []) := by
                      intro n
                      induction n with
                      | zero => intro I25 H locs ls v24 g hI hF hl jv24 hn; exact absurd hn (by omega)
                      | succ n ih197 =>
                        intro I25 H locs ls v24 g hI hF hl jv24 hn
                        refine lv_iload hx hb dX12_next_197 (lv_at hl 1 rfl) ?_
                        refine lv_aload_n hx hb dX12_next_199 rfl (lv_at hl 0 rfl) ?_
                        refine h_get (v := .int (I25 a0 13)) hx hb hts iX12 hown g t_a0 (by decide) so_13 rfl 13 (by decide) (hts (.fieldLink RX12 202 "CapLeagueModel" "players" "I") (by decide +kernel)) rfl dX12_next_200 rfl ?_
                        refine lv_topi (fun v26 ev26 => ?_)
                        have jv26 := hI.rd a0 13 t_a0 ev26 (rfl : h_bd 13 13 = (0, 60))
                        refine lv_icmp_ge (tgt := 252) hx hb dX12_next_203 (by decide) (fun c27 => ?_) (fun c27 => ?_)
                        · have ic27 := (xi_le c27 rfl rfl : v26.toInt ≤ v24.toInt)
                          refine lv_iconst (v := 0) hx hb dX12_next_252 (by decide) ?_
                          refine lv_istore (lv' := [(5, .int 0), (0, .ref a0)]) hx hb dX12_next_253 hl (by decide) rfl (fun ls hl => ?_)
                          have loop255_3 : ∀ (n : Nat) (I29 : tI) (H : Heap) (locs : List Loc) (ls : Array Slot) (v28 : Int32), h_G h_so h_fk E A z I29 L0 s s.heap H locs → h_I z I29 → h_F [(1349, 999), (13, 50), (13, 12), (1322, 999), (1314, 999), (1324, 999), (13, 30), (13, 31), (13, 33)] z I0 I29 → lv_has ls 6 [(0, .ref a0), (5, .int v28)] → (0 ≤ v28.toInt ∧ v28.toInt ≤ 8) → (8 - v28.toInt) < (n : Int) → W pr_ l ev_ (headSpec wsX12_next ({ frames := 5, cells := 0, slots := 0, locals := 320 })).room s m ([.ref a0] : List Value).toArray below meth cd_ H locs 0 0 (MQ below (va_Qi (fun r (I1 : tI) => h_I z I1 ∧ h_F [(1349, 999), (13, 50), (13, 12), (1322, 999), (1314, 999), (1324, 999), (13, 30), (13, 31), (13, 33)] z I0 I1 ∧ ((I1 a0 30).toInt = 1 → (I0 a0 30).toInt = 1)) (fun (I1 : tI) t => h_B E A z I1 L0 t) A) ([.ref a0] : List Value).toArray s 0 0 A) (F0 m 255 ls []) := by
                            intro n
                            induction n with
                            | zero => intro I29 H locs ls v28 g hI hF hl jv28 hn; exact absurd hn (by omega)
                            | succ n ih255 =>
                              intro I29 H locs ls v28 g hI hF hl jv28 hn
                              refine lv_iload hx hb dX12_next_255 (lv_at hl 1 rfl) ?_
                              refine lv_bipush (v := 8) hx hb dX12_next_257 (by decide) ?_
                              refine lv_icmp_ge (tgt := 276) hx hb dX12_next_259 (by decide) (fun c30 => ?_) (fun c30 => ?_)
                              · have ic30 := (xi_le c30 (by decide) rfl : 8 ≤ v28.toInt)
                                refine lv_aload_n hx hb dX12_next_276 rfl (lv_at hl 0 rfl) ?_
                                refine lv_iconst (v := 0) hx hb dX12_next_277 (by decide) ?_
                                refine h_putI (ty := .boolean) (v := 0) hx hb hts iX12 tyX12 tyX12_ok nmX12 hown g t_a0 (by decide) so_13 rfl 30 (by decide) rfl (hts (.fieldLink RX12 306 "CapLeagueModel" "hasTable" "Z") (by decide +kernel)) rfl rfl (by decide +kernel) (by decide) (by decide) dX12_next_278 (fun I31 H locs eI31 g => ?_)
                                have hI := hI.wr eI31 t_a0 (rfl : h_bd 13 30 = (0, 1)) (by decide) (by decide)
                                have hF := hF.wr eI31 t_a0 rfl
                                refine lv_aload_n hx hb dX12_next_281 rfl (lv_at hl 0 rfl) ?_
                                refine lv_iconst (v := 0) hx hb dX12_next_282 (by decide) ?_
                                refine h_putI (ty := .boolean) (v := 0) hx hb hts iX12 tyX12 tyX12_ok nmX12 hown g t_a0 (by decide) so_13 rfl 31 (by decide) rfl (hts (.fieldLink RX12 264 "CapLeagueModel" "isDrawn" "Z") (by decide +kernel)) rfl rfl (by decide +kernel) (by decide) (by decide) dX12_next_283 (fun I32 H locs eI32 g => ?_)
                                have hI := hI.wr eI32 t_a0 (rfl : h_bd 13 31 = (0, 1)) (by decide) (by decide)
                                have hF := hF.wr eI32 t_a0 rfl
                                refine lv_aload_n hx hb dX12_next_286 rfl (lv_at hl 0 rfl) ?_
                                refine lv_iconst (v := 0) hx hb dX12_next_287 (by decide) ?_
                                refine h_putI (ty := .int) (v := 0) hx hb hts iX12 tyX12 tyX12_ok nmX12 hown g t_a0 (by decide) so_13 rfl 33 (by decide) rfl (hts (.fieldLink RX12 247 "CapLeagueModel" "moves" "I") (by decide +kernel)) rfl rfl (by decide +kernel) rfl rfl dX12_next_288 (fun I33 H locs eI33 g => ?_)
                                have hI := hI.wr eI33 t_a0 (rfl : h_bd 13 33 = (0, 12)) (by decide) (by decide)
                                have hF := hF.wr eI33 t_a0 rfl
                                refine lv_aload_n hx hb dX12_next_291 rfl (lv_at hl 0 rfl) ?_
                                refine h_get (v := .int (I33 a0 12)) hx hb hts iX12 hown g t_a0 (by decide) so_13 rfl 12 (by decide) (hts (.fieldLink RX12 187 "CapLeagueModel" "clock" "I") (by decide +kernel)) rfl dX12_next_292 rfl ?_
                                refine lv_topi (fun v34 ev34 => ?_)
                                have jv34 := hI.rd a0 12 t_a0 ev34 (rfl : h_bd 13 12 = (0, 9))
                                have hS := g.2.1
                                exact W.iret (v := v34) hx hb hr (fun t ht hW => ⟨⟨v34, I33, rfl, ⟨hI, hF, (by have q1_30 : (I33 a0 30).toInt = 0 := (congrArg Int32.toInt ((h_n2 eI33 (by decide)).trans ((h_n2 eI32 (by decide)).trans (h_n0 eI31)))).trans (by decide); omega)⟩, h_ret g ht⟩, hS.F ht⟩) hS.2.2 dX12_next_295
                              · have ic30 := (xi_nle c30 (by decide) rfl : v28.toInt < 8)
                                refine lv_aload_n hx hb dX12_next_262 rfl (lv_at hl 0 rfl) ?_
                                obtain ⟨b35, rb35, tb35⟩ := hR.at a0 24 t_a0 (rfl : h_rs 13 24 = some (1324, false)) (by decide)
                                refine h_get (v := .ref b35) hx hb hts iX12 hown g t_a0 (by decide) so_13 rfl 24 (by decide) (hts (.fieldLink RX12 55 "CapLeagueModel" "usedSpare" "[Z") (by decide +kernel)) rfl dX12_next_263 (by show va_rf (z.R a0 24) = _; rw [rb35]; rfl) ?_
                                refine lv_iload hx hb dX12_next_266 (lv_at hl 1 rfl) ?_
                                refine lv_iconst (v := 0) hx hb dX12_next_268 (by decide) ?_
                                refine h_zast hx hb g tb35 (by decide) so_1324 (xi_in (by omega) (by omega)) dX12_next_269 (fun I36 H locs eI36 g => ?_)
                                rw [h_nz (by decide) (by decide)] at eI36
                                have hI := hI.wr eI36 tb35 (rfl : h_bd 1324 _ = (0, 1)) (by decide) (by decide)
                                have hF := hF.wr eI36 tb35 rfl
                                obtain ⟨v37, ev37⟩ : ∃ z : Int32, z = v28 + 1 := ⟨_, rfl⟩
                                have jv37 : v37.toInt = v28.toInt + 1 := xi_add ev37 rfl (by decide) (by omega) (by omega)
                                refine lv_iinc (v := v37) (lv' := [(5, .int v37), (0, .ref a0)]) hx hb dX12_next_270 hl (k := 1) rfl (by rw [ev37]; rfl) (by decide) rfl (fun ls hl => ?_)
                                refine lv_goto (tgt := 255) hx hb dX12_next_273 (by decide) ?_
                                exact ih255 I36 _ _ _ v37 g hI hF (lv_sub hl [1, 0] rfl) (by omega) (by omega)
                          exact loop255_3 _ I25 _ _ _ (0) g hI hF (lv_sub hl [1, 0] rfl) ⟨by decide, by decide⟩ (show (8 - (0 : Int)) < (((8 - (0 : Int)).toNat + 1 : Nat) : Int) by omega)
                        · have ic27 := (xi_nle c27 rfl rfl : v24.toInt < v26.toInt)
                          refine lv_aload_n hx hb dX12_next_206 rfl (lv_at hl 0 rfl) ?_
                          obtain ⟨b38, rb38, tb38⟩ := hR.at a0 22 t_a0 (rfl : h_rs 13 22 = some (1322, false)) (by decide)
                          refine h_get (v := .ref b38) hx hb hts iX12 hown g t_a0 (by decide) so_13 rfl 22 (by decide) (hts (.fieldLink RX12 49 "CapLeagueModel" "isHurt" "[Z") (by decide +kernel)) rfl dX12_next_207 (by show va_rf (z.R a0 22) = _; rw [rb38]; rfl) ?_
                          refine lv_iload hx hb dX12_next_210 (lv_at hl 1 rfl) ?_
                          refine lv_iconst (v := 0) hx hb dX12_next_212 (by decide) ?_
                          refine h_zast hx hb g tb38 (by decide) so_1322 (xi_in (by omega) (by omega)) dX12_next_213 (fun I39 H locs eI39 g => ?_)
                          rw [h_nz (by decide) (by decide)] at eI39
                          have hI := hI.wr eI39 tb38 (rfl : h_bd 1322 _ = (0, 1)) (by decide) (by decide)
                          have hF := hF.wr eI39 tb38 rfl
                          refine lv_aload_n hx hb dX12_next_214 rfl (lv_at hl 0 rfl) ?_
                          obtain ⟨b40, rb40, tb40⟩ := hR.at a0 14 t_a0 (rfl : h_rs 13 14 = some (1314, false)) (by decide)
                          refine h_get (v := .ref b40) hx hb hts iX12 hown g t_a0 (by decide) so_13 rfl 14 (by decide) (hts (.fieldLink RX12 25 "CapLeagueModel" "clubOf" "[I") (by decide +kernel)) rfl dX12_next_215 (by show va_rf (z.R a0 14) = _; rw [rb40]; rfl) ?_
                          refine lv_iload hx hb dX12_next_218 (lv_at hl 1 rfl) ?_
                          refine h_ald hx hb g tb40 (by decide) so_1314 (xi_in (by omega) (by omega)) dX12_next_220 ?_
                          refine lv_topi (fun v41 ev41 => ?_)
                          have jv41 := hI.rd b40 v24.toNatClampNeg tb40 ev41 (rfl : h_bd 1314 _ = ((-1), 7))
                          refine lv_iconst (v := (-1)) hx hb dX12_next_221 (by decide) ?_
                          refine lv_icmp_eq (tgt := 246) hx hb dX12_next_222 (by decide) (fun c42 => ?_) (fun c42 => ?_)
                          · have ic42 := (xi_eq c42 rfl (by decide) : v41.toInt = (-1))
                            obtain ⟨v43, ev43⟩ : ∃ z : Int32, z = v24 + 1 := ⟨_, rfl⟩
                            have jv43 : v43.toInt = v24.toInt + 1 := xi_add ev43 rfl (by decide) (by omega) (by omega)
                            refine lv_iinc (v := v43) (lv' := [(5, .int v43), (0, .ref a0)]) hx hb dX12_next_246 hl (k := 1) rfl (by rw [ev43]; rfl) (by decide) rfl (fun ls hl => ?_)
                            refine lv_goto (tgt := 197) hx hb dX12_next_249 (by decide) ?_
                            exact ih197 I39 _ _ _ v43 g hI hF (lv_sub hl [1, 0] rfl) (by omega) (by omega)
                          · have ic42 := (xi_ne c42 rfl (by decide) : v41.toInt ≠ (-1))
                            refine lv_aload_n hx hb dX12_next_225 rfl (lv_at hl 0 rfl) ?_
                            refine lv_iload hx hb dX12_next_226 (lv_at hl 1 rfl) ?_
                            refine lv_aload_n hx hb dX12_next_228 rfl (lv_at hl 0 rfl) ?_
                            refine h_get (v := .int (I39 a0 12)) hx hb hts iX12 hown g t_a0 (by decide) so_13 rfl 12 (by decide) (hts (.fieldLink RX12 187 "CapLeagueModel" "clock" "I") (by decide +kernel)) rfl dX12_next_229 rfl ?_
                            refine lv_topi (fun v44 ev44 => ?_)
                            have jv44 := hI.rd a0 12 t_a0 ev44 (rfl : h_bd 13 12 = (0, 9))
                            refine vp_callSi (W.runV (As := [.int v24, .int v44]) (rest := []) ⟨hx, hb, hml, hown, hts⟩ (tX12_isUnder l E X A z I39 L0 a0 t_a0 v24 (v24.toInt) rfl (by omega) v44 (v44.toInt) rfl) (cwV 2 hts gX12_next_X12_isUnder rfl rfl rfl (by decide +kernel) ⟨Nat.le_of_ble_eq_true rfl, Nat.le_of_ble_eq_true rfl⟩) ⟨h_blind _ _ _ _ _ _ _, h_recv g t_a0 (by decide) so_13 (q := (RX12, TX12, 51)) rfl, h_pre _ hE hk hX hA hI hR g⟩ rfl rfl hl.1 rfl (lv_room (Nat.le_of_ble_eq_true rfl)) dX12_next_232 ⟨Nat.le_of_ble_eq_true rfl, Nat.le_of_ble_eq_true rfl⟩) (fun rh45 h45 => ?_)
                            refine lv_if_ne (tgt := 246) hx hb dX12_next_235 (by decide) (fun c46 => ?_) (fun c46 => ?_)
                            · have ic46 := (xi_ne c46 rfl (by decide) : rh45.toInt ≠ 0)
                              obtain ⟨v47, ev47⟩ : ∃ z : Int32, z = v24 + 1 := ⟨_, rfl⟩
                              have jv47 : v47.toInt = v24.toInt + 1 := xi_add ev47 rfl (by decide) (by omega) (by omega)
                              refine lv_iinc (v := v47) (lv' := [(5, .int v47), (0, .ref a0)]) hx hb dX12_next_246 hl (k := 1) rfl (by rw [ev47]; rfl) (by decide) rfl (fun ls hl => ?_)
                              refine lv_goto (tgt := 197) hx hb dX12_next_249 (by decide) ?_
                              exact ih197 I39 _ _ _ v47 g hI hF (lv_sub hl [1, 0] rfl) (by omega) (by omega)
                            · have ic46 := (xi_eq c46 rfl (by decide) : rh45.toInt = 0)
                              refine lv_aload_n hx hb dX12_next_238 rfl (lv_at hl 0 rfl) ?_
                              refine h_get (v := .ref b40) hx hb hts iX12 hown g t_a0 (by decide) so_13 rfl 14 (by decide) (hts (.fieldLink RX12 25 "CapLeagueModel" "clubOf" "[I") (by decide +kernel)) rfl dX12_next_239 (by show va_rf (z.R a0 14) = _; rw [rb40]; rfl) ?_
                              refine lv_iload hx hb dX12_next_242 (lv_at hl 1 rfl) ?_
                              refine lv_iconst (v := (-1)) hx hb dX12_next_244 (by decide) ?_
                              refine h_ast hx hb g tb40 (by decide) so_1314 (xi_in (by omega) (by omega)) dX12_next_245 (fun I48 H locs eI48 g => ?_)
                              have hI := hI.wr eI48 tb40 (rfl : h_bd 1314 _ = ((-1), 7)) (by decide) (by decide)
                              have hF := hF.wr eI48 tb40 rfl
                              obtain ⟨v49, ev49⟩ : ∃ z : Int32, z = v24 + 1 := ⟨_, rfl⟩
                              have jv49 : v49.toInt = v24.toInt + 1 := xi_add ev49 rfl (by decide) (by omega) (by omega)
                              refine lv_iinc (v := v49) (lv' := [(5, .int v49), (0, .ref a0)]) hx hb dX12_next_246 hl (k := 1) rfl (by rw [ev49]; rfl) (by decide) rfl (fun ls hl => ?_)
                              refine lv_goto (tgt := 197) hx hb dX12_next_249 (by decide) ?_
                              exact ih197 I48 _ _ _ v49 g hI hF (lv_sub hl [1, 0] rfl) (by omega) (by omega)
                    exact loop197_2 _ I23 _ _ _ (0) g hI hF (lv_sub hl [1, 0] rfl) ⟨by decide, by decide⟩ (show (60 - (0 : Int)) < (((60 - (0 : Int)).toNat + 1 : Nat) : Int) by omega)
                  · have ic16 := (xi_nle c16 (by decide) rfl : v14.toInt < 8)
                    refine lv_aload_n hx hb dX12_next_137 rfl (lv_at hl 0 rfl) ?_
                    obtain ⟨b50, rb50, tb50⟩ := hR.at a0 49 t_a0 (rfl : h_rs 13 49 = some (1349, false)) (by decide)
                    refine h_get (v := .ref b50) hx hb hts iX12 hown g t_a0 (by decide) so_13 rfl 49 (by decide) (hts (.fieldLink RX12 112 "CapLeagueModel" "purse" "[I") (by decide +kernel)) rfl dX12_next_138 (by show va_rf (z.R a0 49) = _; rw [rb50]; rfl) ?_
                    refine lv_iload hx hb dX12_next_141 (lv_at hl 5 rfl) ?_
                    refine lv_dup2_11 hx hb dX12_next_143 rfl rfl ?_
                    refine h_ald hx hb g tb50 (by decide) so_1349 (xi_in (by omega) (by omega)) dX12_next_144 ?_
                    refine lv_topi (fun v51 ev51 => ?_)
                    have jv51 := hI.rd b50 v14.toNatClampNeg tb50 ev51 (rfl : h_bd 1349 _ = ((-2147483648), 2147483647))
                    refine lv_iload_n hx hb dX12_next_145 rfl (lv_at hl 2 rfl) ?_
                    refine lv_iload hx hb dX12_next_146 (lv_at hl 5 rfl) ?_
                    refine lv_ishr hx hb dX12_next_148 ?_
                    refine lv_topi (fun v52 ev52 => ?_)
                    have jv52 : -2147483648 ≤ v52.toInt ∧ v52.toInt ≤ 2147483647 := ⟨xi_lo _, Int.le_of_lt_add_one (xi_hi _)⟩
                    refine lv_iconst (v := 1) hx hb dX12_next_149 (by decide) ?_
                    refine lv_iand hx hb dX12_next_150 ?_
                    refine lv_topi (fun v53 ev53 => ?_)
                    have jv53 : 0 ≤ v53.toInt ∧ v53.toInt ≤ 1 := h_andn 1 (by decide) ev53
                    refine lv_iconst (v := 1) hx hb dX12_next_151 (by decide) ?_
                    refine lv_icmp_ne (tgt := 159) hx hb dX12_next_152 (by decide) (fun c54 => ?_) (fun c54 => ?_)
                    · have ic54 := (xi_ne c54 rfl (by decide) : v53.toInt ≠ 1)
                      refine lv_iload hx hb dX12_next_159 (lv_at hl 4 rfl) ?_
                      refine lv_isub hx hb dX12_next_161 ?_
                      refine lv_topi (fun v55 ev55 => ?_)
                      have jv55 : -2147483648 ≤ v55.toInt ∧ v55.toInt ≤ 2147483647 := ⟨xi_lo _, Int.le_of_lt_add_one (xi_hi _)⟩
                      refine h_ast hx hb g tb50 (by decide) so_1349 (xi_in (by omega) (by omega)) dX12_next_162 (fun I56 H locs eI56 g => ?_)
                      have hI := hI.wr eI56 tb50 (rfl : h_bd 1349 _ = ((-2147483648), 2147483647)) (xi_lo _) (Int.le_of_lt_add_one (xi_hi _))
                      have hF := hF.wr eI56 tb50 rfl
                      obtain ⟨v57, ev57⟩ : ∃ z : Int32, z = v14 + 1 := ⟨_, rfl⟩
                      have jv57 : v57.toInt = v14.toInt + 1 := xi_add ev57 rfl (by decide) (by omega) (by omega)
                      refine lv_iinc (v := v57) (lv' := [(5, .int v57), (0, .ref a0), (1, .int v5), (2, .int v6), (3, .int v11), (4, .int v13)]) hx hb dX12_next_163 hl (k := 5) rfl (by rw [ev57]; rfl) (by decide) rfl (fun ls hl => ?_)
                      refine lv_goto (tgt := 130) hx hb dX12_next_166 (by decide) ?_
                      exact ih130 I56 _ _ _ v57 g hI hF (lv_sub hl [1, 2, 3, 4, 5, 0] rfl) (by omega) (h_F.wr (h_F.call (h_F.rf : h_F [(1349, 999)] z I8 I8) hL130 rfl) eI56 tb50 rfl) (by omega)
                    · have ic54 := (xi_eq c54 rfl (by decide) : v53.toInt = 1)
                      refine lv_iconst (v := 0) hx hb dX12_next_155 (by decide) ?_
                      refine lv_goto (tgt := 161) hx hb dX12_next_156 (by decide) ?_
                      refine lv_isub hx hb dX12_next_161 ?_
                      refine lv_topi (fun v58 ev58 => ?_)
                      have jv58 : v58.toInt = v51.toInt - 0 := xi_sub ev58 rfl (by decide) (by omega) (by omega)
                      refine h_ast hx hb g tb50 (by decide) so_1349 (xi_in (by omega) (by omega)) dX12_next_162 (fun I59 H locs eI59 g => ?_)
                      have hI := hI.wr eI59 tb50 (rfl : h_bd 1349 _ = ((-2147483648), 2147483647)) (xi_lo _) (Int.le_of_lt_add_one (xi_hi _))
                      have hF := hF.wr eI59 tb50 rfl
                      obtain ⟨v60, ev60⟩ : ∃ z : Int32, z = v14 + 1 := ⟨_, rfl⟩
                      have jv60 : v60.toInt = v14.toInt + 1 := xi_add ev60 rfl (by decide) (by omega) (by omega)
                      refine lv_iinc (v := v60) (lv' := [(5, .int v60), (0, .ref a0), (1, .int v5), (2, .int v6), (3, .int v11), (4, .int v13)]) hx hb dX12_next_163 hl (k := 5) rfl (by rw [ev60]; rfl) (by decide) rfl (fun ls hl => ?_)
                      refine lv_goto (tgt := 130) hx hb dX12_next_166 (by decide) ?_
                      exact ih130 I59 _ _ _ v60 g hI hF (lv_sub hl [1, 2, 3, 4, 5, 0] rfl) (by omega) (h_F.wr (h_F.call (h_F.rf : h_F [(1349, 999)] z I8 I8) hL130 rfl) eI59 tb50 rfl) (by omega)
              exact loop130_1 _ I8 _ _ _ (0) g hI hF (lv_sub hl [3, 4, 5, 2, 1, 0] rfl) ⟨by decide, by decide⟩ (h_F.rf : h_F [(1349, 999)] z I8 I8) (show (8 - (0 : Int)) < (((8 - (0 : Int)).toNat + 1 : Nat) : Int) by omega)
            · have ic12 := (xi_eq c12 rfl (by decide) : v11.toInt = 0)
              refine lv_iconst (v := 0) hx hb dX12_next_118 (by decide) ?_
              refine lv_goto (tgt := 125) hx hb dX12_next_119 (by decide) ?_
              refine lv_istore (lv' := [(4, .int 0), (3, .int v11), (0, .ref a0), (1, .int v5), (2, .int v6)]) hx hb dX12_next_125 hl (by decide) rfl (fun ls hl => ?_)
              refine lv_iconst (v := 0) hx hb dX12_next_127 (by decide) ?_
              refine lv_istore (lv' := [(5, .int 0), (4, .int 0), (3, .int v11), (0, .ref a0), (1, .int v5), (2, .int v6)]) hx hb dX12_next_128 hl (by decide) rfl (fun ls hl => ?_)
              have loop130_4 : ∀ (n : Nat) (I62 : tI) (H : Heap) (locs : List Loc) (ls : Array Slot) (v61 : Int32), h_G h_so h_fk E A z I62 L0 s s.heap H locs → h_I z I62 → h_F [(1349, 999), (13, 50), (13, 12), (1322, 999), (1314, 999), (1324, 999), (13, 30), (13, 31), (13, 33)] z I0 I62 → lv_has ls 6 [(0, .ref a0), (1, .int v5), (2, .int v6), (3, .int v11), (4, .int 0), (5, .int v61)] → (0 ≤ v61.toInt ∧ v61.toInt ≤ 8) → h_F [(1349, 999)] z I8 I62 → (8 - v61.toInt) < (n : Int) → W pr_ l ev_ (headSpec wsX12_next ({ frames := 5, cells := 0, slots := 0, locals := 320 })).room s m ([.ref a0] : List Value).toArray below meth cd_ H locs 0 0 (MQ below (va_Qi (fun r (I1 : tI) => h_I z I1 ∧ h_F [(1349, 999), (13, 50), (13, 12), (1322, 999), (1314, 999), (1324, 999), (13, 30), (13, 31), (13, 33)] z I0 I1 ∧ ((I1 a0 30).toInt = 1 → (I0 a0 30).toInt = 1)) (fun (I1 : tI) t => h_B E A z I1 L0 t) A) ([.ref a0] : List Value).toArray s 0 0 A) (F0 m 130 ls []) := by
                intro n
                induction n with
                | zero => intro I62 H locs ls v61 g hI hF hl jv61 hL130 hn; exact absurd hn (by omega)
                | succ n ih130 =>
                  intro I62 H locs ls v61 g hI hF hl jv61 hL130 hn
                  refine lv_iload hx hb dX12_next_130 (lv_at hl 5 rfl) ?_
                  refine lv_bipush (v := 8) hx hb dX12_next_132 (by decide) ?_
                  refine lv_icmp_ge (tgt := 169) hx hb dX12_next_134 (by decide) (fun c63 => ?_) (fun c63 => ?_)
                  · have ic63 := (xi_le c63 (by decide) rfl : 8 ≤ v61.toInt)
                    refine lv_aload_n hx hb dX12_next_169 rfl (lv_at hl 0 rfl) ?_
                    refine lv_dup hx hb dX12_next_170 rfl ?_
                    refine h_get (v := .int (I62 a0 50)) hx hb hts iX12 hown g t_a0 (by decide) so_13 rfl 50 (by decide) (hts (.fieldLink RX12 329 "CapLeagueModel" "league" "I") (by decide +kernel)) rfl dX12_next_171 rfl ?_
                    refine lv_topi (fun v64 ev64 => ?_)
                    have jv64 := hI.rd a0 50 t_a0 ev64 (rfl : h_bd 13 50 = ((-2147483648), 2147483647))
                    refine lv_iload_n hx hb dX12_next_174 rfl (lv_at hl 1 rfl) ?_
                    refine lv_iload hx hb dX12_next_175 (lv_at hl 4 rfl) ?_
                    refine lv_iload_n hx hb dX12_next_177 rfl (lv_at hl 3 rfl) ?_
                    refine lv_imul hx hb dX12_next_178 ?_
                    refine lv_topi (fun v65 ev65 => ?_)
                    have jv65 : v65.toInt = 0 * v11.toInt := xi_mul ev65 (by decide) rfl (by omega) (by omega)
                    refine lv_isub hx hb dX12_next_179 ?_
                    refine lv_topi (fun v66 ev66 => ?_)
                    have jv66 : v66.toInt = v5.toInt - v65.toInt := xi_sub ev66 rfl rfl (by omega) (by omega)
                    refine lv_iadd hx hb dX12_next_180 ?_
                    refine lv_topi (fun v67 ev67 => ?_)
                    have jv67 : -2147483648 ≤ v67.toInt ∧ v67.toInt ≤ 2147483647 := ⟨xi_lo _, Int.le_of_lt_add_one (xi_hi _)⟩
                    refine h_putI (ty := .int) (v := v67) hx hb hts iX12 tyX12 tyX12_ok nmX12 hown g t_a0 (by decide) so_13 rfl 50 (by decide) rfl (hts (.fieldLink RX12 329 "CapLeagueModel" "league" "I") (by decide +kernel)) rfl rfl (by decide +kernel) rfl rfl dX12_next_181 (fun I68 H locs eI68 g => ?_)
                    have hI := hI.wr eI68 t_a0 (rfl : h_bd 13 50 = ((-2147483648), 2147483647)) (xi_lo _) (Int.le_of_lt_add_one (xi_hi _))
                    have hF := hF.wr eI68 t_a0 rfl
                    refine lv_aload_n hx hb dX12_next_184 rfl (lv_at hl 0 rfl) ?_
                    refine lv_dup hx hb dX12_next_185 rfl ?_
                    refine h_get (v := .int v1) hx hb hts iX12 hown g t_a0 (by decide) so_13 rfl 12 (by decide) (hts (.fieldLink RX12 187 "CapLeagueModel" "clock" "I") (by decide +kernel)) rfl dX12_next_186 (congrArg Value.int ((h_n2 eI68 (by decide)).trans ((h_F.at hL130 t_a0 rfl).trans ((h_F.at hL25 t_a0 rfl).trans (ev1.symm))))) ?_
                    refine lv_iconst (v := 1) hx hb dX12_next_189 (by decide) ?_
                    refine lv_iadd hx hb dX12_next_190 ?_
                    refine lv_topi (fun v69 ev69 => ?_)
                    have jv69 : v69.toInt = v1.toInt + 1 := xi_add ev69 rfl (by decide) (by omega) (by omega)
                    refine h_putI (ty := .int) (v := v69) hx hb hts iX12 tyX12 tyX12_ok nmX12 hown g t_a0 (by decide) so_13 rfl 12 (by decide) rfl (hts (.fieldLink RX12 187 "CapLeagueModel" "clock" "I") (by decide +kernel)) rfl rfl (by decide +kernel) rfl rfl dX12_next_191 (fun I70 H locs eI70 g => ?_)
                    have hI := hI.wr eI70 t_a0 (rfl : h_bd 13 12 = (0, 9)) (by omega) (by omega)
                    have hF := hF.wr eI70 t_a0 rfl
                    refine lv_iconst (v := 0) hx hb dX12_next_194 (by decide) ?_
                    refine lv_istore (lv' := [(5, .int 0), (0, .ref a0), (1, .int v5), (2, .int v6), (3, .int v11), (4, .int 0)]) hx hb dX12_next_195 hl (by decide) rfl (fun ls hl => ?_)
                    have loop197_5 : ∀ (n : Nat) (I72 : tI) (H : Heap) (locs : List Loc) (ls : Array Slot) (v71 : Int32), h_G h_so h_fk E A z I72 L0 s s.heap H locs → h_I z I72 → h_F [(1349, 999), (13, 50), (13, 12), (1322, 999), (1314, 999), (1324, 999), (13, 30), (13, 31), (13, 33)] z I0 I72 → lv_has ls 6 [(0, .ref a0), (5, .int v71)] → (0 ≤ v71.toInt ∧ v71.toInt ≤ 60) → (60 - v71.toInt) < (n : Int) → W pr_ l ev_ (headSpec wsX12_next ({ frames := 5, cells := 0, slots := 0, locals := 320 })).room s m ([.ref a0] : List Value).toArray below meth cd_ H locs 0 0 (MQ below (va_Qi (fun r (I1 : tI) => h_I z I1 ∧ h_F [(1349, 999), (13, 50), (13, 12), (1322, 999), (1314, 999), (1324, 999), (13, 30), (13, 31), (13, 33)] z I0 I1 ∧ ((I1 a0 30).toInt = 1 → (I0 a0 30).toInt = 1)) (fun (I1 : tI) t => h_B E A z I1 L0 t) A) ([.ref a0] : List Value).toArray s 0 0 A) (F0 m 197 ls []) := by
                      intro n
                      induction n with
                      | zero => intro I72 H locs ls v71 g hI hF hl jv71 hn; exact absurd hn (by omega)
                      | succ n ih197 =>
                        intro I72 H locs ls v71 g hI hF hl jv71 hn
                        refine lv_iload hx hb dX12_next_197 (lv_at hl 1 rfl) ?_
                        refine lv_aload_n hx hb dX12_next_199 rfl (lv_at hl 0 rfl) ?_
                        refine h_get (v := .int (I72 a0 13)) hx hb hts iX12 hown g t_a0 (by decide) so_13 rfl 13 (by decide) (hts (.fieldLink RX12 202 "CapLeagueModel" "players" "I") (by decide +kernel)) rfl dX12_next_200 rfl ?_
                        refine lv_topi (fun v73 ev73 => ?_)
                        have jv73 := hI.rd a0 13 t_a0 ev73 (rfl : h_bd 13 13 = (0, 60))
                        refine lv_icmp_ge (tgt := 252) hx hb dX12_next_203 (by decide) (fun c74 => ?_) (fun c74 => ?_)
                        · have ic74 := (xi_le c74 rfl rfl : v73.toInt ≤ v71.toInt)
                          refine lv_iconst (v := 0) hx hb dX12_next_252 (by decide) ?_
                          refine lv_istore (lv' := [(5, .int 0), (0, .ref a0)]) hx hb dX12_next_253 hl (by decide) rfl (fun ls hl => ?_)
                          have loop255_6 : ∀ (n : Nat) (I76 : tI) (H : Heap) (locs : List Loc) (ls : Array Slot) (v75 : Int32), h_G h_so h_fk E A z I76 L0 s s.heap H locs → h_I z I76 → h_F [(1349, 999), (13, 50), (13, 12), (1322, 999), (1314, 999), (1324, 999), (13, 30), (13, 31), (13, 33)] z I0 I76 → lv_has ls 6 [(0, .ref a0), (5, .int v75)] → (0 ≤ v75.toInt ∧ v75.toInt ≤ 8) → (8 - v75.toInt) < (n : Int) → W pr_ l ev_ (headSpec wsX12_next ({ frames := 5, cells := 0, slots := 0, locals := 320 })).room s m ([.ref a0] : List Value).toArray below meth cd_ H locs 0 0 (MQ below (va_Qi (fun r (I1 : tI) => h_I z I1 ∧ h_F [(1349, 999), (13, 50), (13, 12), (1322, 999), (1314, 999), (1324, 999), (13, 30), (13, 31), (13, 33)] z I0 I1 ∧ ((I1 a0 30).toInt = 1 → (I0 a0 30).toInt = 1)) (fun (I1 : tI) t => h_B E A z I1 L0 t) A) ([.ref a0] : List Value).toArray s 0 0 A) (F0 m 255 ls []) := by
                            intro n
                            induction n with
                            | zero => intro I76 H locs ls v75 g hI hF hl jv75 hn; exact absurd hn (by omega)
                            | succ n ih255 =>
                              intro I76 H locs ls v75 g hI hF hl jv75 hn
                              refine lv_iload hx hb dX12_next_255 (lv_at hl 1 rfl) ?_
                              refine lv_bipush (v := 8) hx hb dX12_next_257 (by decide) ?_
                              refine lv_icmp_ge (tgt := 276) hx hb dX12_next_259 (by decide) (fun c77 => ?_) (fun c77 => ?_)
                              · have ic77 := (xi_le c77 (by decide) rfl : 8 ≤ v75.toInt)
                                refine lv_aload_n hx hb dX12_next_276 rfl (lv_at hl 0 rfl) ?_
                                refine lv_iconst (v := 0) hx hb dX12_next_277 (by decide) ?_
                                refine h_putI (ty := .boolean) (v := 0) hx hb hts iX12 tyX12 tyX12_ok nmX12 hown g t_a0 (by decide) so_13 rfl 30 (by decide) rfl (hts (.fieldLink RX12 306 "CapLeagueModel" "hasTable" "Z") (by decide +kernel)) rfl rfl (by decide +kernel) (by decide) (by decide) dX12_next_278 (fun I78 H locs eI78 g => ?_)
                                have hI := hI.wr eI78 t_a0 (rfl : h_bd 13 30 = (0, 1)) (by decide) (by decide)
                                have hF := hF.wr eI78 t_a0 rfl
                                refine lv_aload_n hx hb dX12_next_281 rfl (lv_at hl 0 rfl) ?_
                                refine lv_iconst (v := 0) hx hb dX12_next_282 (by decide) ?_
                                refine h_putI (ty := .boolean) (v := 0) hx hb hts iX12 tyX12 tyX12_ok nmX12 hown g t_a0 (by decide) so_13 rfl 31 (by decide) rfl (hts (.fieldLink RX12 264 "CapLeagueModel" "isDrawn" "Z") (by decide +kernel)) rfl rfl (by decide +kernel) (by decide) (by decide) dX12_next_283 (fun I79 H locs eI79 g => ?_)
                                have hI := hI.wr eI79 t_a0 (rfl : h_bd 13 31 = (0, 1)) (by decide) (by decide)
                                have hF := hF.wr eI79 t_a0 rfl
                                refine lv_aload_n hx hb dX12_next_286 rfl (lv_at hl 0 rfl) ?_
                                refine lv_iconst (v := 0) hx hb dX12_next_287 (by decide) ?_
                                refine h_putI (ty := .int) (v := 0) hx hb hts iX12 tyX12 tyX12_ok nmX12 hown g t_a0 (by decide) so_13 rfl 33 (by decide) rfl (hts (.fieldLink RX12 247 "CapLeagueModel" "moves" "I") (by decide +kernel)) rfl rfl (by decide +kernel) rfl rfl dX12_next_288 (fun I80 H locs eI80 g => ?_)
                                have hI := hI.wr eI80 t_a0 (rfl : h_bd 13 33 = (0, 12)) (by decide) (by decide)
                                have hF := hF.wr eI80 t_a0 rfl
                                refine lv_aload_n hx hb dX12_next_291 rfl (lv_at hl 0 rfl) ?_
                                refine h_get (v := .int (I80 a0 12)) hx hb hts iX12 hown g t_a0 (by decide) so_13 rfl 12 (by decide) (hts (.fieldLink RX12 187 "CapLeagueModel" "clock" "I") (by decide +kernel)) rfl dX12_next_292 rfl ?_
                                refine lv_topi (fun v81 ev81 => ?_)
                                have jv81 := hI.rd a0 12 t_a0 ev81 (rfl : h_bd 13 12 = (0, 9))
                                have hS := g.2.1
                                exact W.iret (v := v81) hx hb hr (fun t ht hW => ⟨⟨v81, I80, rfl, ⟨hI, hF, (by have q1_30 : (I80 a0 30).toInt = 0 := (congrArg Int32.toInt ((h_n2 eI80 (by decide)).trans ((h_n2 eI79 (by decide)).trans (h_n0 eI78)))).trans (by decide); omega)⟩, h_ret g ht⟩, hS.F ht⟩) hS.2.2 dX12_next_295
                              · have ic77 := (xi_nle c77 (by decide) rfl : v75.toInt < 8)
                                refine lv_aload_n hx hb dX12_next_262 rfl (lv_at hl 0 rfl) ?_
                                obtain ⟨b82, rb82, tb82⟩ := hR.at a0 24 t_a0 (rfl : h_rs 13 24 = some (1324, false)) (by decide)
                                refine h_get (v := .ref b82) hx hb hts iX12 hown g t_a0 (by decide) so_13 rfl 24 (by decide) (hts (.fieldLink RX12 55 "CapLeagueModel" "usedSpare" "[Z") (by decide +kernel)) rfl dX12_next_263 (by show va_rf (z.R a0 24) = _; rw [rb82]; rfl) ?_
                                refine lv_iload hx hb dX12_next_266 (lv_at hl 1 rfl) ?_
                                refine lv_iconst (v := 0) hx hb dX12_next_268 (by decide) ?_
                                refine h_zast hx hb g tb82 (by decide) so_1324 (xi_in (by omega) (by omega)) dX12_next_269 (fun I83 H locs eI83 g => ?_)
                                rw [h_nz (by decide) (by decide)] at eI83
                                have hI := hI.wr eI83 tb82 (rfl : h_bd 1324 _ = (0, 1)) (by decide) (by decide)
                                have hF := hF.wr eI83 tb82 rfl
                                obtain ⟨v84, ev84⟩ : ∃ z : Int32, z = v75 + 1 := ⟨_, rfl⟩
                                have jv84 : v84.toInt = v75.toInt + 1 := xi_add ev84 rfl (by decide) (by omega) (by omega)
                                refine lv_iinc (v := v84) (lv' := [(5, .int v84), (0, .ref a0)]) hx hb dX12_next_270 hl (k := 1) rfl (by rw [ev84]; rfl) (by decide) rfl (fun ls hl => ?_)
                                refine lv_goto (tgt := 255) hx hb dX12_next_273 (by decide) ?_
                                exact ih255 I83 _ _ _ v84 g hI hF (lv_sub hl [1, 0] rfl) (by omega) (by omega)
                          exact loop255_6 _ I72 _ _ _ (0) g hI hF (lv_sub hl [1, 0] rfl) ⟨by decide, by decide⟩ (show (8 - (0 : Int)) < (((8 - (0 : Int)).toNat + 1 : Nat) : Int) by omega)
                        · have ic74 := (xi_nle c74 rfl rfl : v71.toInt < v73.toInt)
                          refine lv_aload_n hx hb dX12_next_206 rfl (lv_at hl 0 rfl) ?_
                          obtain ⟨b85, rb85, tb85⟩ := hR.at a0 22 t_a0 (rfl : h_rs 13 22 = some (1322, false)) (by decide)
                          refine h_get (v := .ref b85) hx hb hts iX12 hown g t_a0 (by decide) so_13 rfl 22 (by decide) (hts (.fieldLink RX12 49 "CapLeagueModel" "isHurt" "[Z") (by decide +kernel)) rfl dX12_next_207 (by show va_rf (z.R a0 22) = _; rw [rb85]; rfl) ?_
                          refine lv_iload hx hb dX12_next_210 (lv_at hl 1 rfl) ?_
                          refine lv_iconst (v := 0) hx hb dX12_next_212 (by decide) ?_
                          refine h_zast hx hb g tb85 (by decide) so_1322 (xi_in (by omega) (by omega)) dX12_next_213 (fun I86 H locs eI86 g => ?_)
                          rw [h_nz (by decide) (by decide)] at eI86
                          have hI := hI.wr eI86 tb85 (rfl : h_bd 1322 _ = (0, 1)) (by decide) (by decide)
                          have hF := hF.wr eI86 tb85 rfl
                          refine lv_aload_n hx hb dX12_next_214 rfl (lv_at hl 0 rfl) ?_
                          obtain ⟨b87, rb87, tb87⟩ := hR.at a0 14 t_a0 (rfl : h_rs 13 14 = some (1314, false)) (by decide)
                          refine h_get (v := .ref b87) hx hb hts iX12 hown g t_a0 (by decide) so_13 rfl 14 (by decide) (hts (.fieldLink RX12 25 "CapLeagueModel" "clubOf" "[I") (by decide +kernel)) rfl dX12_next_215 (by show va_rf (z.R a0 14) = _; rw [rb87]; rfl) ?_
                          refine lv_iload hx hb dX12_next_218 (lv_at hl 1 rfl) ?_
                          refine h_ald hx hb g tb87 (by decide) so_1314 (xi_in (by omega) (by omega)) dX12_next_220 ?_
                          refine lv_topi (fun v88 ev88 => ?_)
                          have jv88 := hI.rd b87 v71.toNatClampNeg tb87 ev88 (rfl : h_bd 1314 _ = ((-1), 7))
                          refine lv_iconst (v := (-1)) hx hb dX12_next_221 (by decide) ?_
                          refine lv_icmp_eq (tgt := 246) hx hb dX12_next_222 (by decide) (fun c89 => ?_) (fun c89 => ?_)
                          · have ic89 := (xi_eq c89 rfl (by decide) : v88.toInt = (-1))
                            obtain ⟨v90, ev90⟩ : ∃ z : Int32, z = v71 + 1 := ⟨_, rfl⟩
                            have jv90 : v90.toInt = v71.toInt + 1 := xi_add ev90 rfl (by decide) (by omega) (by omega)
                            refine lv_iinc (v := v90) (lv' := [(5, .int v90), (0, .ref a0)]) hx hb dX12_next_246 hl (k := 1) rfl (by rw [ev90]; rfl) (by decide) rfl (fun ls hl => ?_)
                            refine lv_goto (tgt := 197) hx hb dX12_next_249 (by decide) ?_
                            exact ih197 I86 _ _ _ v90 g hI hF (lv_sub hl [1, 0] rfl) (by omega) (by omega)
                          · have ic89 := (xi_ne c89 rfl (by decide) : v88.toInt ≠ (-1))
                            refine lv_aload_n hx hb dX12_next_225 rfl (lv_at hl 0 rfl) ?_
                            refine lv_iload hx hb dX12_next_226 (lv_at hl 1 rfl) ?_
                            refine lv_aload_n hx hb dX12_next_228 rfl (lv_at hl 0 rfl) ?_
                            refine h_get (v := .int (I86 a0 12)) hx hb hts iX12 hown g t_a0 (by decide) so_13 rfl 12 (by decide) (hts (.fieldLink RX12 187 "CapLeagueModel" "clock" "I") (by decide +kernel)) rfl dX12_next_229 rfl ?_
                            refine lv_topi (fun v91 ev91 => ?_)
                            have jv91 := hI.rd a0 12 t_a0 ev91 (rfl : h_bd 13 12 = (0, 9))
                            refine vp_callSi (W.runV (As := [.int v71, .int v91]) (rest := []) ⟨hx, hb, hml, hown, hts⟩ (tX12_isUnder l E X A z I86 L0 a0 t_a0 v71 (v71.toInt) rfl (by omega) v91 (v91.toInt) rfl) (cwV 2 hts gX12_next_X12_isUnder rfl rfl rfl (by decide +kernel) ⟨Nat.le_of_ble_eq_true rfl, Nat.le_of_ble_eq_true rfl⟩) ⟨h_blind _ _ _ _ _ _ _, h_recv g t_a0 (by decide) so_13 (q := (RX12, TX12, 51)) rfl, h_pre _ hE hk hX hA hI hR g⟩ rfl rfl hl.1 rfl (lv_room (Nat.le_of_ble_eq_true rfl)) dX12_next_232 ⟨Nat.le_of_ble_eq_true rfl, Nat.le_of_ble_eq_true rfl⟩) (fun rh92 h92 => ?_)
                            refine lv_if_ne (tgt := 246) hx hb dX12_next_235 (by decide) (fun c93 => ?_) (fun c93 => ?_)
                            · have ic93 := (xi_ne c93 rfl (by decide) : rh92.toInt ≠ 0)
                              obtain ⟨v94, ev94⟩ : ∃ z : Int32, z = v71 + 1 := ⟨_, rfl⟩
                              have jv94 : v94.toInt = v71.toInt + 1 := xi_add ev94 rfl (by decide) (by omega) (by omega)
                              refine lv_iinc (v := v94) (lv' := [(5, .int v94), (0, .ref a0)]) hx hb dX12_next_246 hl (k := 1) rfl (by rw [ev94]; rfl) (by decide) rfl (fun ls hl => ?_)
                              refine lv_goto (tgt := 197) hx hb dX12_next_249 (by decide) ?_
                              exact ih197 I86 _ _ _ v94 g hI hF (lv_sub hl [1, 0] rfl) (by omega) (by omega)
                            · have ic93 := (xi_eq c93 rfl (by decide) : rh92.toInt = 0)
                              refine lv_aload_n hx hb dX12_next_238 rfl (lv_at hl 0 rfl) ?_
                              refine h_get (v := .ref b87) hx hb hts iX12 hown g t_a0 (by decide) so_13 rfl 14 (by decide) (hts (.fieldLink RX12 25 "CapLeagueModel" "clubOf" "[I") (by decide +kernel)) rfl dX12_next_239 (by show va_rf (z.R a0 14) = _; rw [rb87]; rfl) ?_
                              refine lv_iload hx hb dX12_next_242 (lv_at hl 1 rfl) ?_
                              refine lv_iconst (v := (-1)) hx hb dX12_next_244 (by decide) ?_
                              refine h_ast hx hb g tb87 (by decide) so_1314 (xi_in (by omega) (by omega)) dX12_next_245 (fun I95 H locs eI95 g => ?_)
                              have hI := hI.wr eI95 tb87 (rfl : h_bd 1314 _ = ((-1), 7)) (by decide) (by decide)
                              have hF := hF.wr eI95 tb87 rfl
                              obtain ⟨v96, ev96⟩ : ∃ z : Int32, z = v71 + 1 := ⟨_, rfl⟩
                              have jv96 : v96.toInt = v71.toInt + 1 := xi_add ev96 rfl (by decide) (by omega) (by omega)
                              refine lv_iinc (v := v96) (lv' := [(5, .int v96), (0, .ref a0)]) hx hb dX12_next_246 hl (k := 1) rfl (by rw [ev96]; rfl) (by decide) rfl (fun ls hl => ?_)
                              refine lv_goto (tgt := 197) hx hb dX12_next_249 (by decide) ?_
                              exact ih197 I95 _ _ _ v96 g hI hF (lv_sub hl [1, 0] rfl) (by omega) (by omega)
                    exact loop197_5 _ I70 _ _ _ (0) g hI hF (lv_sub hl [1, 0] rfl) ⟨by decide, by decide⟩ (show (60 - (0 : Int)) < (((60 - (0 : Int)).toNat + 1 : Nat) : Int) by omega)
                  · have ic63 := (xi_nle c63 (by decide) rfl : v61.toInt < 8)
                    refine lv_aload_n hx hb dX12_next_137 rfl (lv_at hl 0 rfl) ?_
                    obtain ⟨b97, rb97, tb97⟩ := hR.at a0 49 t_a0 (rfl : h_rs 13 49 = some (1349, false)) (by decide)
                    refine h_get (v := .ref b97) hx hb hts iX12 hown g t_a0 (by decide) so_13 rfl 49 (by decide) (hts (.fieldLink RX12 112 "CapLeagueModel" "purse" "[I") (by decide +kernel)) rfl dX12_next_138 (by show va_rf (z.R a0 49) = _; rw [rb97]; rfl) ?_
                    refine lv_iload hx hb dX12_next_141 (lv_at hl 5 rfl) ?_
                    refine lv_dup2_11 hx hb dX12_next_143 rfl rfl ?_
                    refine h_ald hx hb g tb97 (by decide) so_1349 (xi_in (by omega) (by omega)) dX12_next_144 ?_
                    refine lv_topi (fun v98 ev98 => ?_)
                    have jv98 := hI.rd b97 v61.toNatClampNeg tb97 ev98 (rfl : h_bd 1349 _ = ((-2147483648), 2147483647))
                    refine lv_iload_n hx hb dX12_next_145 rfl (lv_at hl 2 rfl) ?_
                    refine lv_iload hx hb dX12_next_146 (lv_at hl 5 rfl) ?_
                    refine lv_ishr hx hb dX12_next_148 ?_
                    refine lv_topi (fun v99 ev99 => ?_)
                    have jv99 : -2147483648 ≤ v99.toInt ∧ v99.toInt ≤ 2147483647 := ⟨xi_lo _, Int.le_of_lt_add_one (xi_hi _)⟩
                    refine lv_iconst (v := 1) hx hb dX12_next_149 (by decide) ?_
                    refine lv_iand hx hb dX12_next_150 ?_
                    refine lv_topi (fun v100 ev100 => ?_)
                    have jv100 : 0 ≤ v100.toInt ∧ v100.toInt ≤ 1 := h_andn 1 (by decide) ev100
                    refine lv_iconst (v := 1) hx hb dX12_next_151 (by decide) ?_
                    refine lv_icmp_ne (tgt := 159) hx hb dX12_next_152 (by decide) (fun c101 => ?_) (fun c101 => ?_)
                    · have ic101 := (xi_ne c101 rfl (by decide) : v100.toInt ≠ 1)
                      refine lv_iload hx hb dX12_next_159 (lv_at hl 4 rfl) ?_
                      refine lv_isub hx hb dX12_next_161 ?_
                      refine lv_topi (fun v102 ev102 => ?_)
                      have jv102 : v102.toInt = v98.toInt - 0 := xi_sub ev102 rfl (by decide) (by omega) (by omega)
                      refine h_ast hx hb g tb97 (by decide) so_1349 (xi_in (by omega) (by omega)) dX12_next_162 (fun I103 H locs eI103 g => ?_)
                      have hI := hI.wr eI103 tb97 (rfl : h_bd 1349 _ = ((-2147483648), 2147483647)) (xi_lo _) (Int.le_of_lt_add_one (xi_hi _))
                      have hF := hF.wr eI103 tb97 rfl
                      obtain ⟨v104, ev104⟩ : ∃ z : Int32, z = v61 + 1 := ⟨_, rfl⟩
                      have jv104 : v104.toInt = v61.toInt + 1 := xi_add ev104 rfl (by decide) (by omega) (by omega)
                      refine lv_iinc (v := v104) (lv' := [(5, .int v104), (0, .ref a0), (1, .int v5), (2, .int v6), (3, .int v11), (4, .int 0)]) hx hb dX12_next_163 hl (k := 5) rfl (by rw [ev104]; rfl) (by decide) rfl (fun ls hl => ?_)
                      refine lv_goto (tgt := 130) hx hb dX12_next_166 (by decide) ?_
                      exact ih130 I103 _ _ _ v104 g hI hF (lv_sub hl [1, 2, 3, 4, 5, 0] rfl) (by omega) (h_F.wr (h_F.call (h_F.rf : h_F [(1349, 999)] z I8 I8) hL130 rfl) eI103 tb97 rfl) (by omega)
                    · have ic101 := (xi_eq c101 rfl (by decide) : v100.toInt = 1)
                      refine lv_iconst (v := 0) hx hb dX12_next_155 (by decide) ?_
                      refine lv_goto (tgt := 161) hx hb dX12_next_156 (by decide) ?_
                      refine lv_isub hx hb dX12_next_161 ?_
                      refine lv_topi (fun v105 ev105 => ?_)
                      have jv105 : v105.toInt = v98.toInt - 0 := xi_sub ev105 rfl (by decide) (by omega) (by omega)
                      refine h_ast hx hb g tb97 (by decide) so_1349 (xi_in (by omega) (by omega)) dX12_next_162 (fun I106 H locs eI106 g => ?_)
                      have hI := hI.wr eI106 tb97 (rfl : h_bd 1349 _ = ((-2147483648), 2147483647)) (xi_lo _) (Int.le_of_lt_add_one (xi_hi _))
                      have hF := hF.wr eI106 tb97 rfl
                      obtain ⟨v107, ev107⟩ : ∃ z : Int32, z = v61 + 1 := ⟨_, rfl⟩
                      have jv107 : v107.toInt = v61.toInt + 1 := xi_add ev107 rfl (by decide) (by omega) (by omega)
                      refine lv_iinc (v := v107) (lv' := [(5, .int v107), (0, .ref a0), (1, .int v5), (2, .int v6), (3, .int v11), (4, .int 0)]) hx hb dX12_next_163 hl (k := 5) rfl (by rw [ev107]; rfl) (by decide) rfl (fun ls hl => ?_)
                      refine lv_goto (tgt := 130) hx hb dX12_next_166 (by decide) ?_
                      exact ih130 I106 _ _ _ v107 g hI hF (lv_sub hl [1, 2, 3, 4, 5, 0] rfl) (by omega) (h_F.wr (h_F.call (h_F.rf : h_F [(1349, 999)] z I8 I8) hL130 rfl) eI106 tb97 rfl) (by omega)
              exact loop130_4 _ I8 _ _ _ (0) g hI hF (lv_sub hl [3, 4, 5, 2, 1, 0] rfl) ⟨by decide, by decide⟩ (h_F.rf : h_F [(1349, 999)] z I8 I8) (show (8 - (0 : Int)) < (((8 - (0 : Int)).toNat + 1 : Nat) : Int) by omega)
          · have ic9 := (xi_nle c9 (by decide) rfl : v7.toInt < 8)
            refine lv_aload_n hx hb dX12_next_31 rfl (lv_at hl 0 rfl) ?_
            refine lv_iload_n hx hb dX12_next_32 rfl (lv_at hl 3 rfl) ?_
            refine lv_aload_n hx hb dX12_next_33 rfl (lv_at hl 0 rfl) ?_
            refine h_get (v := .int v1) hx hb hts iX12 hown g t_a0 (by decide) so_13 rfl 12 (by decide) (hts (.fieldLink RX12 187 "CapLeagueModel" "clock" "I") (by decide +kernel)) rfl dX12_next_34 (congrArg Value.int ((h_F.at hL25 t_a0 rfl).trans (ev1.symm))) ?_
            refine vp_callSi (W.runV (As := [.int v7, .int v1]) (rest := []) ⟨hx, hb, hml, hown, hts⟩ (tX12_counts l E X A z I8 L0 a0 t_a0 v7 (v7.toInt) rfl (by omega) v1 (v1.toInt) rfl (by omega)) (cwV 2 hts gX12_next_X12_counts rfl rfl rfl (by decide +kernel) ⟨Nat.le_of_ble_eq_true rfl, Nat.le_of_ble_eq_true rfl⟩) ⟨h_blind _ _ _ _ _ _ _, h_recv g t_a0 (by decide) so_13 (q := (RX12, TX12, 51)) rfl, h_pre _ hE hk hX hA hI hR g⟩ rfl rfl hl.1 rfl (lv_room (Nat.le_of_ble_eq_true rfl)) dX12_next_37 ⟨Nat.le_of_ble_eq_true rfl, Nat.le_of_ble_eq_true rfl⟩) (fun rh108 h108 => ?_)
            have jrh108 : -2147483648 ≤ rh108.toInt ∧ rh108.toInt ≤ 2147483647 := ⟨xi_lo _, Int.le_of_lt_add_one (xi_hi _)⟩
            refine lv_aload_n hx hb dX12_next_40 rfl (lv_at hl 0 rfl) ?_
            refine lv_aload_n hx hb dX12_next_41 rfl (lv_at hl 0 rfl) ?_
            refine h_get (v := .int v1) hx hb hts iX12 hown g t_a0 (by decide) so_13 rfl 12 (by decide) (hts (.fieldLink RX12 187 "CapLeagueModel" "clock" "I") (by decide +kernel)) rfl dX12_next_42 (congrArg Value.int ((h_F.at hL25 t_a0 rfl).trans (ev1.symm))) ?_
            refine lv_iconst (v := 0) hx hb dX12_next_45 (by decide) ?_
            refine vp_callSi (W.runV (As := [.int v1, .int 0]) (rest := [.int rh108]) ⟨hx, hb, hml, hown, hts⟩ (tX12_lawOf l E X A z I8 L0 a0 t_a0 v1 (v1.toInt) rfl (by omega) 0 (0) (by decide) (by omega)) (cwV 2 hts gX12_next_X12_lawOf rfl rfl rfl (by decide +kernel) ⟨Nat.le_of_ble_eq_true rfl, Nat.le_of_ble_eq_true rfl⟩) ⟨h_blind _ _ _ _ _ _ _, h_recv g t_a0 (by decide) so_13 (q := (RX12, TX12, 51)) rfl, h_pre _ hE hk hX hA hI hR g⟩ rfl rfl hl.1 rfl (lv_room (Nat.le_of_ble_eq_true rfl)) dX12_next_46 ⟨Nat.le_of_ble_eq_true rfl, Nat.le_of_ble_eq_true rfl⟩) (fun rh109 h109 => ?_)
            have jrh109 : -2147483648 ≤ rh109.toInt ∧ rh109.toInt ≤ 2147483647 := ⟨xi_lo _, Int.le_of_lt_add_one (xi_hi _)⟩
            refine lv_isub hx hb dX12_next_49 ?_
            refine lv_topi (fun v110 ev110 => ?_)
            have jv110 : -2147483648 ≤ v110.toInt ∧ v110.toInt ≤ 2147483647 := ⟨xi_lo _, Int.le_of_lt_add_one (xi_hi _)⟩
            refine lv_istore (lv' := [(4, .int v110), (0, .ref a0), (1, .int v5), (2, .int v6), (3, .int v7)]) hx hb dX12_next_50 hl (by decide) rfl (fun ls hl => ?_)
            refine lv_iload hx hb dX12_next_52 (lv_at hl 0 rfl) ?_
            refine lv_if_gt (tgt := 60) hx hb dX12_next_54 (by decide) (fun c111 => ?_) (fun c111 => ?_)
            · have ic111 := (xi_lt c111 (by decide) rfl : 0 < v110.toInt)
              refine lv_iload_n hx hb dX12_next_60 rfl (lv_at hl 3 rfl) ?_
              refine lv_iconst (v := 1) hx hb dX12_next_61 (by decide) ?_
              refine lv_iload_n hx hb dX12_next_62 rfl (lv_at hl 4 rfl) ?_
              refine lv_ishl hx hb dX12_next_63 ?_
              refine lv_topi (fun v112 ev112 => ?_)
              have jv112 : -2147483648 ≤ v112.toInt ∧ v112.toInt ≤ 2147483647 := ⟨xi_lo _, Int.le_of_lt_add_one (xi_hi _)⟩
              refine lv_ior hx hb dX12_next_64 ?_
              refine lv_topi (fun v113 ev113 => ?_)
              have jv113 : -2147483648 ≤ v113.toInt ∧ v113.toInt ≤ 2147483647 := ⟨xi_lo _, Int.le_of_lt_add_one (xi_hi _)⟩
              refine lv_istore_n (lv' := [(2, .int v113), (4, .int v110), (0, .ref a0), (1, .int v5), (3, .int v7)]) hx hb dX12_next_65 rfl hl (by decide) rfl (fun ls hl => ?_)
              refine lv_iload hx hb dX12_next_66 (lv_at hl 1 rfl) ?_
              refine lv_aload_n hx hb dX12_next_68 rfl (lv_at hl 2 rfl) ?_
              refine lv_aload_n hx hb dX12_next_69 rfl (lv_at hl 2 rfl) ?_
              refine h_get (v := .int v1) hx hb hts iX12 hown g t_a0 (by decide) so_13 rfl 12 (by decide) (hts (.fieldLink RX12 187 "CapLeagueModel" "clock" "I") (by decide +kernel)) rfl dX12_next_70 (congrArg Value.int ((h_F.at hL25 t_a0 rfl).trans (ev1.symm))) ?_
              refine lv_bipush (v := 7) hx hb dX12_next_73 (by decide) ?_
              refine vp_callSi (W.runV (As := [.int v1, .int 7]) (rest := [.int v110]) ⟨hx, hb, hml, hown, hts⟩ (tX12_lawOf l E X A z I8 L0 a0 t_a0 v1 (v1.toInt) rfl (by omega) 7 (7) (by decide) (by omega)) (cwV 2 hts gX12_next_X12_lawOf rfl rfl rfl (by decide +kernel) ⟨Nat.le_of_ble_eq_true rfl, Nat.le_of_ble_eq_true rfl⟩) ⟨h_blind _ _ _ _ _ _ _, h_recv g t_a0 (by decide) so_13 (q := (RX12, TX12, 51)) rfl, h_pre _ hE hk hX hA hI hR g⟩ rfl rfl hl.1 rfl (lv_room (Nat.le_of_ble_eq_true rfl)) dX12_next_75 ⟨Nat.le_of_ble_eq_true rfl, Nat.le_of_ble_eq_true rfl⟩) (fun rh114 h114 => ?_)
              have jrh114 : -2147483648 ≤ rh114.toInt ∧ rh114.toInt ≤ 2147483647 := ⟨xi_lo _, Int.le_of_lt_add_one (xi_hi _)⟩
              refine lv_imul hx hb dX12_next_78 ?_
              refine lv_topi (fun v115 ev115 => ?_)
              have jv115 : -2147483648 ≤ v115.toInt ∧ v115.toInt ≤ 2147483647 := ⟨xi_lo _, Int.le_of_lt_add_one (xi_hi _)⟩
              refine lv_bipush (v := 100) hx hb dX12_next_79 (by decide) ?_
              refine lv_idiv hx hb dX12_next_81 (by decide) ?_
              refine lv_topi (fun v116 ev116 => ?_)
              have jv116 : -2147483648 ≤ v116.toInt ∧ v116.toInt ≤ 2147483647 := ⟨xi_lo _, Int.le_of_lt_add_one (xi_hi _)⟩
              refine lv_istore (lv' := [(5, .int v116), (2, .int v113), (4, .int v110), (0, .ref a0), (1, .int v5), (3, .int v7)]) hx hb dX12_next_82 hl (by decide) rfl (fun ls hl => ?_)
              refine lv_aload_n hx hb dX12_next_84 rfl (lv_at hl 3 rfl) ?_
              obtain ⟨b117, rb117, tb117⟩ := hR.at a0 49 t_a0 (rfl : h_rs 13 49 = some (1349, false)) (by decide)
              refine h_get (v := .ref b117) hx hb hts iX12 hown g t_a0 (by decide) so_13 rfl 49 (by decide) (hts (.fieldLink RX12 112 "CapLeagueModel" "purse" "[I") (by decide +kernel)) rfl dX12_next_85 (by show va_rf (z.R a0 49) = _; rw [rb117]; rfl) ?_
              refine lv_iload_n hx hb dX12_next_88 rfl (lv_at hl 5 rfl) ?_
              refine lv_dup2_11 hx hb dX12_next_89 rfl rfl ?_
              refine h_ald hx hb g tb117 (by decide) so_1349 (xi_in (by omega) (by omega)) dX12_next_90 ?_
              refine lv_topi (fun v118 ev118 => ?_)
              have jv118 := hI.rd b117 v7.toNatClampNeg tb117 ev118 (rfl : h_bd 1349 _ = ((-2147483648), 2147483647))
              refine lv_iload hx hb dX12_next_91 (lv_at hl 0 rfl) ?_
              refine lv_iadd hx hb dX12_next_93 ?_
              refine lv_topi (fun v119 ev119 => ?_)
              have jv119 : -2147483648 ≤ v119.toInt ∧ v119.toInt ≤ 2147483647 := ⟨xi_lo _, Int.le_of_lt_add_one (xi_hi _)⟩
              refine h_ast hx hb g tb117 (by decide) so_1349 (xi_in (by omega) (by omega)) dX12_next_94 (fun I120 H locs eI120 g => ?_)
              have hI := hI.wr eI120 tb117 (rfl : h_bd 1349 _ = ((-2147483648), 2147483647)) (xi_lo _) (Int.le_of_lt_add_one (xi_hi _))
              have hF := hF.wr eI120 tb117 rfl
              refine lv_iload_n hx hb dX12_next_95 rfl (lv_at hl 4 rfl) ?_
              refine lv_iload hx hb dX12_next_96 (lv_at hl 0 rfl) ?_
              refine lv_iadd hx hb dX12_next_98 ?_
              refine lv_topi (fun v121 ev121 => ?_)
              have jv121 : -2147483648 ≤ v121.toInt ∧ v121.toInt ≤ 2147483647 := ⟨xi_lo _, Int.le_of_lt_add_one (xi_hi _)⟩
              refine lv_istore_n (lv' := [(1, .int v121), (5, .int v116), (2, .int v113), (4, .int v110), (0, .ref a0), (3, .int v7)]) hx hb dX12_next_99 rfl hl (by decide) rfl (fun ls hl => ?_)
              obtain ⟨v122, ev122⟩ : ∃ z : Int32, z = v7 + 1 := ⟨_, rfl⟩
              have jv122 : v122.toInt = v7.toInt + 1 := xi_add ev122 rfl (by decide) (by omega) (by omega)
              refine lv_iinc (v := v122) (lv' := [(3, .int v122), (1, .int v121), (5, .int v116), (2, .int v113), (4, .int v110), (0, .ref a0)]) hx hb dX12_next_100 hl (k := 5) rfl (by rw [ev122]; rfl) (by decide) rfl (fun ls hl => ?_)
              refine lv_goto (tgt := 25) hx hb dX12_next_103 (by decide) ?_
              exact ih25 I120 _ _ _ v121 v113 v122 g hI hF (lv_sub hl [5, 1, 3, 0] rfl) (by omega) (by omega) (by omega) (h_F.wr (h_F.call (h_F.rf : h_F [(1349, 999)] z I0 I0) hL25 rfl) eI120 tb117 rfl) (by omega)
            · have ic111 := (xi_nlt c111 (by decide) rfl : v110.toInt ≤ 0)
              refine lv_goto (tgt := 100) hx hb dX12_next_57 (by decide) ?_
              obtain ⟨v123, ev123⟩ : ∃ z : Int32, z = v7 + 1 := ⟨_, rfl⟩
              have jv123 : v123.toInt = v7.toInt + 1 := xi_add ev123 rfl (by decide) (by omega) (by omega)
              refine lv_iinc (v := v123) (lv' := [(3, .int v123), (4, .int v110), (0, .ref a0), (1, .int v5), (2, .int v6)]) hx hb dX12_next_100 hl (k := 4) rfl (by rw [ev123]; rfl) (by decide) rfl (fun ls hl => ?_)
              refine lv_goto (tgt := 25) hx hb dX12_next_103 (by decide) ?_
              exact ih25 I8 _ _ _ v5 v6 v123 g hI hF (lv_sub hl [2, 3, 4, 0] rfl) (by omega) (by omega) (by omega) (h_F.call (h_F.rf : h_F [(1349, 999)] z I0 I0) hL25 rfl) (by omega)
      exact loop25_0 _ I0 _ _ _ (0) (0) (0) g hI hF (lv_sub hl [3, 2, 1, 0] rfl) ⟨by decide, by decide⟩ ⟨by decide, by decide⟩ ⟨by decide, by decide⟩ (h_F.rf : h_F [(1349, 999)] z I0 I0) (show (8 - (0 : Int)) < (((8 - (0 : Int)).toNat + 1 : Nat) : Int) by omega)
    · have ic4 := (xi_eq c4 rfl (by decide) : v3.toInt = 0)
      refine lv_bipush (v := (-4)) hx hb dX12_next_16 (by decide) ?_
      have hS := g.2.1
      exact W.iret (v := (-4)) hx hb hr (fun t ht hW => ⟨⟨(-4), I0, rfl, ⟨hI, hF, (by have qr : ((-4) : Int32).toInt = (-4) := (by decide); omega)⟩, h_ret g ht⟩, hS.F ht⟩) hS.2.2 dX12_next_18
