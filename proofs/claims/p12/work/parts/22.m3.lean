set_option maxHeartbeats 4000000 in
set_option maxRecDepth 100000 in
theorem tX12_feed (l : Launch) (E : tE) (X : tX) (A : Nat → Prop) (z : tZ) (I0 : tI) (L0 : tL) (a0 : Nat) (t_a0 : z.ty a0 = 13) (a : Int32) (a_t : Int) (h_a : a.toInt = a_t) (b : Int32) (b_t : Int) (h_b : b.toInt = b_t) (c : Int32) (c_t : Int) (h_c : c.toInt = c_t) (d : Int32) (d_t : Int) (h_d : d.toInt = d_t) (f : Int32) (f_t : Int) (h_f : f.toInt = f_t) : Met l yX12_feed wsX12_feed ({ frames := 1, cells := 0, slots := 0, locals := 64 }) (va_Pc [.ref a0, .int a, .int b, .int c, .int d, .int f] (h_P E X A z I0 L0)) (va_Qi (fun r (I1 : tI) => h_I z I1 ∧ h_F [(1300, 999), (13, 1)] z I0 I1 ∧ True) (fun (I1 : tI) t => h_B E A z I1 L0 t) A) 0 0 A := by
  refine Met.ofW (cc := cX12_feed) (maxL := 9) (ret := (some .int)) (by decide) rfl ?_
  intro pr_ ev_ s m args below meth cd_ s₁ B hml hv
  obtain ⟨rfl, hE, hk, hX, hA, hK, hI, hR, hB0⟩ := hv
  have g : h_G h_so h_fk E A z I0 L0 s s.heap s.heap [] := ⟨hK, va_S.rf, hB0⟩
  have hF : h_F [(1300, 999), (13, 1)] z I0 I0 := h_F.rf
  have hx := B.exec
  have hb := B.bytes
  have hr := B.returns
  have hts := atoms_spec (ws := wsX12_feed) B.pre
  have hown : s.vm.findClass RX12 = some m.cls := findClass_of_methodNamed B.named
  have hlocks := B.notSynchronized
  have iX12 : ∀ w ∈ u_ws RX12 TX12 51, w ∈ wsX12_feed := by decide +kernel
  have hl := lv_entry ([.ref a0, .int a, .int b, .int c, .int d, .int f]) (n := 9) (Nat.le_of_ble_eq_true rfl)
  rw [lg_entry_eq]
  generalize (lg_sl ([.ref a0, .int a, .int b, .int c, .int d, .int f]) ++ List.replicate (9 - (lg_sl ([.ref a0, .int a, .int b, .int c, .int d, .int f])).length) Slot.unset).toArray = ls at hl ⊢
  have hl : lv_has ls 9 [(0, .ref a0), (1, .int a), (2, .int b), (3, .int c), (4, .int d), (5, .int f)] := hl
  have b_a : -2147483648 ≤ a_t ∧ a_t ≤ 2147483647 := h_a ▸ ⟨xi_lo a, Int.le_of_lt_add_one (xi_hi a)⟩
  have b_b : -2147483648 ≤ b_t ∧ b_t ≤ 2147483647 := h_b ▸ ⟨xi_lo b, Int.le_of_lt_add_one (xi_hi b)⟩
  have b_c : -2147483648 ≤ c_t ∧ c_t ≤ 2147483647 := h_c ▸ ⟨xi_lo c, Int.le_of_lt_add_one (xi_hi c)⟩
  have b_d : -2147483648 ≤ d_t ∧ d_t ≤ 2147483647 := h_d ▸ ⟨xi_lo d, Int.le_of_lt_add_one (xi_hi d)⟩
  have b_f : -2147483648 ≤ f_t ∧ f_t ≤ 2147483647 := h_f ▸ ⟨xi_lo f, Int.le_of_lt_add_one (xi_hi f)⟩
  obtain ⟨f0_1, ef0_1⟩ : ∃ v : Int32, v = I0 a0 1 := ⟨_, rfl⟩
  have qf0_1 : (I0 a0 1).toInt = f0_1.toInt := congrArg Int32.toInt ef0_1.symm
  have jf0_1 := hI.rd a0 1 t_a0 ef0_1 (rfl : h_bd 13 1 = (0, 500))
  refine lv_aload_n hx hb dX12_feed_0 rfl (lv_at hl 0 rfl) ?_
  refine h_get (v := .int f0_1) hx hb hts iX12 hown g t_a0 (by decide) so_13 rfl 1 (by decide) (hts (.fieldLink RX12 119 "CapLeagueModel" "taped" "I") (by decide +kernel)) rfl dX12_feed_1 (congrArg Value.int (ef0_1.symm)) ?_
  refine lv_bipush (v := 20) hx hb dX12_feed_4 (by decide) ?_
  refine lv_iadd hx hb dX12_feed_6 ?_
  refine lv_topi (fun v1 ev1 => ?_)
  have jv1 : v1.toInt = f0_1.toInt + 20 := xi_add ev1 rfl (by decide) (by omega) (by omega)
  refine lv_sipush (v := 500) hx hb dX12_feed_7 (by decide) ?_
  refine lv_icmp_le (tgt := 16) hx hb dX12_feed_10 (by decide) (fun c2 => ?_) (fun c2 => ?_)
  · have ic2 := (xi_le c2 rfl (by decide) : v1.toInt ≤ 500)
    refine lv_iconst (v := 0) hx hb dX12_feed_16 (by decide) ?_
    refine lv_istore (lv' := [(6, .int 0), (0, .ref a0), (1, .int a), (2, .int b), (3, .int c), (4, .int d), (5, .int f)]) hx hb dX12_feed_17 hl (by decide) rfl (fun ls hl => ?_)
    have loop19_0 : ∀ (n : Nat) (I4 : tI) (H : Heap) (locs : List Loc) (ls : Array Slot) (v3 : Int32), h_G h_so h_fk E A z I4 L0 s s.heap H locs → h_I z I4 → h_F [(1300, 999), (13, 1)] z I0 I4 → lv_has ls 9 [(0, .ref a0), (1, .int a), (2, .int b), (3, .int c), (4, .int d), (5, .int f), (6, .int v3)] → (0 ≤ v3.toInt ∧ v3.toInt ≤ 5) → ((I4 a0 1).toInt + 4 * (5 - v3.toInt) ≤ 500) → (5 - v3.toInt) < (n : Int) → W pr_ l ev_ (headSpec wsX12_feed ({ frames := 1, cells := 0, slots := 0, locals := 64 })).room s m ([.ref a0, .int a, .int b, .int c, .int d, .int f] : List Value).toArray below meth cd_ H locs 0 0 (MQ below (va_Qi (fun r (I1 : tI) => h_I z I1 ∧ h_F [(1300, 999), (13, 1)] z I0 I1 ∧ True) (fun (I1 : tI) t => h_B E A z I1 L0 t) A) ([.ref a0, .int a, .int b, .int c, .int d, .int f] : List Value).toArray s 0 0 A) (F0 m 19 ls []) := by
      intro n
      induction n with
      | zero => intro I4 H locs ls v3 g hI hF hl jv3 hx19_0 hn; exact absurd hn (by omega)
      | succ n ih19 =>
        intro I4 H locs ls v3 g hI hF hl jv3 hx19_0 hn
        obtain ⟨v5, ev5⟩ : ∃ v : Int32, v = I4 a0 1 := ⟨_, rfl⟩
        rw [← ev5] at hx19_0
        have jv5 := hI.rd a0 1 t_a0 ev5 (rfl : h_bd 13 1 = (0, 500))
        refine lv_iload hx hb dX12_feed_19 (lv_at hl 6 rfl) ?_
        refine lv_iconst (v := 5) hx hb dX12_feed_21 (by decide) ?_
        refine lv_icmp_ge (tgt := 115) hx hb dX12_feed_22 (by decide) (fun c6 => ?_) (fun c6 => ?_)
        · have ic6 := (xi_le c6 (by decide) rfl : 5 ≤ v3.toInt)
          refine lv_aload_n hx hb dX12_feed_115 rfl (lv_at hl 0 rfl) ?_
          refine h_get (v := .int v5) hx hb hts iX12 hown g t_a0 (by decide) so_13 rfl 1 (by decide) (hts (.fieldLink RX12 119 "CapLeagueModel" "taped" "I") (by decide +kernel)) rfl dX12_feed_116 (congrArg Value.int (ev5.symm)) ?_
          have hS := g.2.1
          exact W.iret (v := v5) hx hb hr (fun t ht hW => ⟨⟨v5, I4, rfl, ⟨hI, hF, trivial⟩, h_ret g ht⟩, hS.F ht⟩) hS.2.2 dX12_feed_119
        · have ic6 := (xi_nle c6 (by decide) rfl : v3.toInt < 5)
          refine lv_iload hx hb dX12_feed_25 (lv_at hl 6 rfl) ?_
          refine lv_if_ne (tgt := 34) hx hb dX12_feed_27 (by decide) (fun c7 => ?_) (fun c7 => ?_)
          · have ic7 := (xi_ne c7 rfl (by decide) : v3.toInt ≠ 0)
            refine lv_iload hx hb dX12_feed_34 (lv_at hl 6 rfl) ?_
            refine lv_iconst (v := 1) hx hb dX12_feed_36 (by decide) ?_
            refine lv_icmp_ne (tgt := 44) hx hb dX12_feed_37 (by decide) (fun c8 => ?_) (fun c8 => ?_)
            · have ic8 := (xi_ne c8 rfl (by decide) : v3.toInt ≠ 1)
              refine lv_iload hx hb dX12_feed_44 (lv_at hl 6 rfl) ?_
              refine lv_iconst (v := 2) hx hb dX12_feed_46 (by decide) ?_
              refine lv_icmp_ne (tgt := 54) hx hb dX12_feed_47 (by decide) (fun c9 => ?_) (fun c9 => ?_)
              · have ic9 := (xi_ne c9 rfl (by decide) : v3.toInt ≠ 2)
                refine lv_iload hx hb dX12_feed_54 (lv_at hl 6 rfl) ?_
                refine lv_iconst (v := 3) hx hb dX12_feed_56 (by decide) ?_
                refine lv_icmp_ne (tgt := 65) hx hb dX12_feed_57 (by decide) (fun c10 => ?_) (fun c10 => ?_)
                · have ic10 := (xi_ne c10 rfl (by decide) : v3.toInt ≠ 3)
                  refine lv_iload hx hb dX12_feed_65 (lv_at hl 5 rfl) ?_
                  refine lv_istore (lv' := [(7, .int f), (0, .ref a0), (1, .int a), (2, .int b), (3, .int c), (4, .int d), (5, .int f), (6, .int v3)]) hx hb dX12_feed_67 hl (by decide) rfl (fun ls hl => ?_)
                  refine lv_bipush (v := 24) hx hb dX12_feed_69 (by decide) ?_
                  refine lv_istore (lv' := [(8, .int 24), (7, .int f), (0, .ref a0), (1, .int a), (2, .int b), (3, .int c), (4, .int d), (5, .int f), (6, .int v3)]) hx hb dX12_feed_71 hl (by decide) rfl (fun ls hl => ?_)
                  have loop73_1 : ∀ (n : Nat) (I12 : tI) (H : Heap) (locs : List Loc) (ls : Array Slot) (v11 : Int32), h_G h_so h_fk E A z I12 L0 s s.heap H locs → h_I z I12 → h_F [(1300, 999), (13, 1)] z I0 I12 → lv_has ls 9 [(0, .ref a0), (1, .int a), (2, .int b), (3, .int c), (4, .int d), (5, .int f), (6, .int v3), (7, .int f), (8, .int v11)] → ((-8) ≤ v11.toInt ∧ v11.toInt ≤ 24) → (8 * (I12 a0 1).toInt + 32 * (5 - v3.toInt) ≤ 4000 + 24 - v11.toInt) → (v11.toInt + 8) < (n : Int) → W pr_ l ev_ (headSpec wsX12_feed ({ frames := 1, cells := 0, slots := 0, locals := 64 })).room s m ([.ref a0, .int a, .int b, .int c, .int d, .int f] : List Value).toArray below meth cd_ H locs 0 0 (MQ below (va_Qi (fun r (I1 : tI) => h_I z I1 ∧ h_F [(1300, 999), (13, 1)] z I0 I1 ∧ True) (fun (I1 : tI) t => h_B E A z I1 L0 t) A) ([.ref a0, .int a, .int b, .int c, .int d, .int f] : List Value).toArray s 0 0 A) (F0 m 73 ls []) := by
                    intro n
                    induction n with
                    | zero => intro I12 H locs ls v11 g hI hF hl jv11 hx73_0 hn; exact absurd hn (by omega)
                    | succ n ih73 =>
                      intro I12 H locs ls v11 g hI hF hl jv11 hx73_0 hn
                      obtain ⟨v13, ev13⟩ : ∃ v : Int32, v = I12 a0 1 := ⟨_, rfl⟩
                      rw [← ev13] at hx73_0
                      have jv13 := hI.rd a0 1 t_a0 ev13 (rfl : h_bd 13 1 = (0, 500))
                      refine lv_iload hx hb dX12_feed_73 (lv_at hl 8 rfl) ?_
                      refine lv_if_lt (tgt := 109) hx hb dX12_feed_75 (by decide) (fun c14 => ?_) (fun c14 => ?_)
                      · have ic14 := (xi_lt c14 rfl (by decide) : v11.toInt < 0)
                        obtain ⟨v15, ev15⟩ : ∃ z : Int32, z = v3 + 1 := ⟨_, rfl⟩
                        have jv15 : v15.toInt = v3.toInt + 1 := xi_add ev15 rfl (by decide) (by omega) (by omega)
                        refine lv_iinc (v := v15) (lv' := [(6, .int v15), (0, .ref a0), (1, .int a), (2, .int b), (3, .int c), (4, .int d), (5, .int f), (7, .int f), (8, .int v11)]) hx hb dX12_feed_109 hl (k := 6) rfl (by rw [ev15]; rfl) (by decide) rfl (fun ls hl => ?_)
                        refine lv_goto (tgt := 19) hx hb dX12_feed_112 (by decide) ?_
                        have k16 : (I12 a0 1).toInt = v13.toInt := (congrArg Int32.toInt (ev13.symm)).trans rfl
                        exact ih19 I12 _ _ _ v15 g hI hF (lv_sub hl [1, 2, 3, 4, 5, 6, 0] rfl) (by omega) (by omega) (by omega)
                      · have ic14 := (xi_nlt c14 rfl (by decide) : 0 ≤ v11.toInt)
                        refine lv_aload_n hx hb dX12_feed_78 rfl (lv_at hl 0 rfl) ?_
                        obtain ⟨b17, rb17, tb17⟩ := hR.at a0 0 t_a0 (rfl : h_rs 13 0 = some (1300, false)) (by decide)
                        refine h_get (v := .ref b17) hx hb hts iX12 hown g t_a0 (by decide) so_13 rfl 0 (by decide) (hts (.fieldLink RX12 7 "CapLeagueModel" "tape" "[B") (by decide +kernel)) rfl dX12_feed_79 (by show va_rf (z.R a0 0) = _; rw [rb17]; rfl) ?_
                        refine lv_aload_n hx hb dX12_feed_82 rfl (lv_at hl 0 rfl) ?_
                        refine h_get (v := .int v13) hx hb hts iX12 hown g t_a0 (by decide) so_13 rfl 1 (by decide) (hts (.fieldLink RX12 119 "CapLeagueModel" "taped" "I") (by decide +kernel)) rfl dX12_feed_83 (congrArg Value.int (ev13.symm)) ?_
                        refine lv_iload hx hb dX12_feed_86 (lv_at hl 7 rfl) ?_
                        refine lv_iload hx hb dX12_feed_88 (lv_at hl 8 rfl) ?_
                        refine lv_ishr hx hb dX12_feed_90 ?_
                        refine lv_topi (fun v18 ev18 => ?_)
                        have jv18 : -2147483648 ≤ v18.toInt ∧ v18.toInt ≤ 2147483647 := ⟨xi_lo _, Int.le_of_lt_add_one (xi_hi _)⟩
                        refine lv_i2b hx hb dX12_feed_91 rfl ?_
                        refine lv_topi (fun v19 ev19 => ?_)
                        have jv19 : -2147483648 ≤ v19.toInt ∧ v19.toInt ≤ 2147483647 := ⟨xi_lo _, Int.le_of_lt_add_one (xi_hi _)⟩
                        refine h_bast hx hb g tb17 (by decide) so_1300 (xi_in (by omega) (by omega)) dX12_feed_92 (fun I20 H locs eI20 g => ?_)
                        have hI := hI.wr eI20 tb17 (rfl : h_bd 1300 _ = (-128, 127)) (h_ny _).1 (h_ny _).2
                        have hF := hF.wr eI20 tb17 rfl
                        refine lv_aload_n hx hb dX12_feed_93 rfl (lv_at hl 0 rfl) ?_
                        refine lv_dup hx hb dX12_feed_94 rfl ?_
                        refine h_get (v := .int v13) hx hb hts iX12 hown g t_a0 (by decide) so_13 rfl 1 (by decide) (hts (.fieldLink RX12 119 "CapLeagueModel" "taped" "I") (by decide +kernel)) rfl dX12_feed_95 (congrArg Value.int ((h_n1 eI20 t_a0 tb17 (by decide)).trans (ev13.symm))) ?_
                        refine lv_iconst (v := 1) hx hb dX12_feed_98 (by decide) ?_
                        refine lv_iadd hx hb dX12_feed_99 ?_
                        refine lv_topi (fun v21 ev21 => ?_)
                        have jv21 : v21.toInt = v13.toInt + 1 := xi_add ev21 rfl (by decide) (by omega) (by omega)
                        refine h_putI (ty := .int) (v := v21) hx hb hts iX12 tyX12 tyX12_ok nmX12 hown g t_a0 (by decide) so_13 rfl 1 (by decide) rfl (hts (.fieldLink RX12 119 "CapLeagueModel" "taped" "I") (by decide +kernel)) rfl rfl (by decide +kernel) rfl rfl dX12_feed_100 (fun I22 H locs eI22 g => ?_)
                        have hI := hI.wr eI22 t_a0 (rfl : h_bd 13 1 = (0, 500)) (by omega) (by omega)
                        have hF := hF.wr eI22 t_a0 rfl
                        obtain ⟨v23, ev23⟩ : ∃ z : Int32, z = v11 + (-8) := ⟨_, rfl⟩
                        have jv23 : v23.toInt = v11.toInt + (-8) := xi_add ev23 rfl (by decide) (by omega) (by omega)
                        refine lv_iinc (v := v23) (lv' := [(8, .int v23), (0, .ref a0), (1, .int a), (2, .int b), (3, .int c), (4, .int d), (5, .int f), (6, .int v3), (7, .int f)]) hx hb dX12_feed_103 hl (k := 8) rfl (by rw [ev23]; rfl) (by decide) rfl (fun ls hl => ?_)
                        refine lv_goto (tgt := 73) hx hb dX12_feed_106 (by decide) ?_
                        have k24 : (I22 a0 1).toInt = v21.toInt := (congrArg Int32.toInt (h_n0 eI22)).trans rfl
                        exact ih73 I22 _ _ _ v23 g hI hF (lv_sub hl [1, 2, 3, 4, 5, 6, 7, 8, 0] rfl) (by omega) (by omega) (by omega)
                  have kc25 : (24 : Int32).toInt = 24 := by decide
                  have k26 : (I4 a0 1).toInt = v5.toInt := (congrArg Int32.toInt (ev5.symm)).trans rfl
                  exact loop73_1 _ I4 _ _ _ (24) g hI hF (lv_sub hl [2, 3, 4, 5, 6, 7, 8, 1, 0] rfl) ⟨by decide, by decide⟩ (by omega) (show ((24 : Int) + 8) < ((((24 : Int) + 8).toNat + 1 : Nat) : Int) by omega)
                · have ic10 := (xi_eq c10 rfl (by decide) : v3.toInt = 3)
                  refine lv_iload hx hb dX12_feed_60 (lv_at hl 4 rfl) ?_
                  refine lv_goto (tgt := 67) hx hb dX12_feed_62 (by decide) ?_
                  refine lv_istore (lv' := [(7, .int d), (0, .ref a0), (1, .int a), (2, .int b), (3, .int c), (4, .int d), (5, .int f), (6, .int v3)]) hx hb dX12_feed_67 hl (by decide) rfl (fun ls hl => ?_)
                  refine lv_bipush (v := 24) hx hb dX12_feed_69 (by decide) ?_
                  refine lv_istore (lv' := [(8, .int 24), (7, .int d), (0, .ref a0), (1, .int a), (2, .int b), (3, .int c), (4, .int d), (5, .int f), (6, .int v3)]) hx hb dX12_feed_71 hl (by decide) rfl (fun ls hl => ?_)
                  have loop73_2 : ∀ (n : Nat) (I28 : tI) (H : Heap) (locs : List Loc) (ls : Array Slot) (v27 : Int32), h_G h_so h_fk E A z I28 L0 s s.heap H locs → h_I z I28 → h_F [(1300, 999), (13, 1)] z I0 I28 → lv_has ls 9 [(0, .ref a0), (1, .int a), (2, .int b), (3, .int c), (4, .int d), (5, .int f), (6, .int v3), (7, .int d), (8, .int v27)] → ((-8) ≤ v27.toInt ∧ v27.toInt ≤ 24) → (8 * (I28 a0 1).toInt + 32 * (5 - v3.toInt) ≤ 4000 + 24 - v27.toInt) → (v27.toInt + 8) < (n : Int) → W pr_ l ev_ (headSpec wsX12_feed ({ frames := 1, cells := 0, slots := 0, locals := 64 })).room s m ([.ref a0, .int a, .int b, .int c, .int d, .int f] : List Value).toArray below meth cd_ H locs 0 0 (MQ below (va_Qi (fun r (I1 : tI) => h_I z I1 ∧ h_F [(1300, 999), (13, 1)] z I0 I1 ∧ True) (fun (I1 : tI) t => h_B E A z I1 L0 t) A) ([.ref a0, .int a, .int b, .int c, .int d, .int f] : List Value).toArray s 0 0 A) (F0 m 73 ls []) := by
                    intro n
                    induction n with
                    | zero => intro I28 H locs ls v27 g hI hF hl jv27 hx73_0 hn; exact absurd hn (by omega)
                    | succ n ih73 =>
                      intro I28 H locs ls v27 g hI hF hl jv27 hx73_0 hn
                      obtain ⟨v29, ev29⟩ : ∃ v : Int32, v = I28 a0 1 := ⟨_, rfl⟩
                      rw [← ev29] at hx73_0
                      have jv29 := hI.rd a0 1 t_a0 ev29 (rfl : h_bd 13 1 = (0, 500))
                      refine lv_iload hx hb dX12_feed_73 (lv_at hl 8 rfl) ?_
                      refine lv_if_lt (tgt := 109) hx hb dX12_feed_75 (by decide) (fun c30 => ?_) (fun c30 => ?_)
                      · have ic30 := (xi_lt c30 rfl (by decide) : v27.toInt < 0)
                        obtain ⟨v31, ev31⟩ : ∃ z : Int32, z = v3 + 1 := ⟨_, rfl⟩
                        have jv31 : v31.toInt = v3.toInt + 1 := xi_add ev31 rfl (by decide) (by omega) (by omega)
                        refine lv_iinc (v := v31) (lv' := [(6, .int v31), (0, .ref a0), (1, .int a), (2, .int b), (3, .int c), (4, .int d), (5, .int f), (7, .int d), (8, .int v27)]) hx hb dX12_feed_109 hl (k := 6) rfl (by rw [ev31]; rfl) (by decide) rfl (fun ls hl => ?_)
                        refine lv_goto (tgt := 19) hx hb dX12_feed_112 (by decide) ?_
                        have k32 : (I28 a0 1).toInt = v29.toInt := (congrArg Int32.toInt (ev29.symm)).trans rfl
                        exact ih19 I28 _ _ _ v31 g hI hF (lv_sub hl [1, 2, 3, 4, 5, 6, 0] rfl) (by omega) (by omega) (by omega)
                      · have ic30 := (xi_nlt c30 rfl (by decide) : 0 ≤ v27.toInt)
                        refine lv_aload_n hx hb dX12_feed_78 rfl (lv_at hl 0 rfl) ?_
                        obtain ⟨b33, rb33, tb33⟩ := hR.at a0 0 t_a0 (rfl : h_rs 13 0 = some (1300, false)) (by decide)
                        refine h_get (v := .ref b33) hx hb hts iX12 hown g t_a0 (by decide) so_13 rfl 0 (by decide) (hts (.fieldLink RX12 7 "CapLeagueModel" "tape" "[B") (by decide +kernel)) rfl dX12_feed_79 (by show va_rf (z.R a0 0) = _; rw [rb33]; rfl) ?_
                        refine lv_aload_n hx hb dX12_feed_82 rfl (lv_at hl 0 rfl) ?_
                        refine h_get (v := .int v29) hx hb hts iX12 hown g t_a0 (by decide) so_13 rfl 1 (by decide) (hts (.fieldLink RX12 119 "CapLeagueModel" "taped" "I") (by decide +kernel)) rfl dX12_feed_83 (congrArg Value.int (ev29.symm)) ?_
                        refine lv_iload hx hb dX12_feed_86 (lv_at hl 7 rfl) ?_
                        refine lv_iload hx hb dX12_feed_88 (lv_at hl 8 rfl) ?_
                        refine lv_ishr hx hb dX12_feed_90 ?_
                        refine lv_topi (fun v34 ev34 => ?_)
                        have jv34 : -2147483648 ≤ v34.toInt ∧ v34.toInt ≤ 2147483647 := ⟨xi_lo _, Int.le_of_lt_add_one (xi_hi _)⟩
                        refine lv_i2b hx hb dX12_feed_91 rfl ?_
                        refine lv_topi (fun v35 ev35 => ?_)
                        have jv35 : -2147483648 ≤ v35.toInt ∧ v35.toInt ≤ 2147483647 := ⟨xi_lo _, Int.le_of_lt_add_one (xi_hi _)⟩
                        refine h_bast hx hb g tb33 (by decide) so_1300 (xi_in (by omega) (by omega)) dX12_feed_92 (fun I36 H locs eI36 g => ?_)
                        have hI := hI.wr eI36 tb33 (rfl : h_bd 1300 _ = (-128, 127)) (h_ny _).1 (h_ny _).2
                        have hF := hF.wr eI36 tb33 rfl
                        refine lv_aload_n hx hb dX12_feed_93 rfl (lv_at hl 0 rfl) ?_
                        refine lv_dup hx hb dX12_feed_94 rfl ?_
                        refine h_get (v := .int v29) hx hb hts iX12 hown g t_a0 (by decide) so_13 rfl 1 (by decide) (hts (.fieldLink RX12 119 "CapLeagueModel" "taped" "I") (by decide +kernel)) rfl dX12_feed_95 (congrArg Value.int ((h_n1 eI36 t_a0 tb33 (by decide)).trans (ev29.symm))) ?_
                        refine lv_iconst (v := 1) hx hb dX12_feed_98 (by decide) ?_
                        refine lv_iadd hx hb dX12_feed_99 ?_
                        refine lv_topi (fun v37 ev37 => ?_)
                        have jv37 : v37.toInt = v29.toInt + 1 := xi_add ev37 rfl (by decide) (by omega) (by omega)
                        refine h_putI (ty := .int) (v := v37) hx hb hts iX12 tyX12 tyX12_ok nmX12 hown g t_a0 (by decide) so_13 rfl 1 (by decide) rfl (hts (.fieldLink RX12 119 "CapLeagueModel" "taped" "I") (by decide +kernel)) rfl rfl (by decide +kernel) rfl rfl dX12_feed_100 (fun I38 H locs eI38 g => ?_)
                        have hI := hI.wr eI38 t_a0 (rfl : h_bd 13 1 = (0, 500)) (by omega) (by omega)
                        have hF := hF.wr eI38 t_a0 rfl
                        obtain ⟨v39, ev39⟩ : ∃ z : Int32, z = v27 + (-8) := ⟨_, rfl⟩
                        have jv39 : v39.toInt = v27.toInt + (-8) := xi_add ev39 rfl (by decide) (by omega) (by omega)
                        refine lv_iinc (v := v39) (lv' := [(8, .int v39), (0, .ref a0), (1, .int a), (2, .int b), (3, .int c), (4, .int d), (5, .int f), (6, .int v3), (7, .int d)]) hx hb dX12_feed_103 hl (k := 8) rfl (by rw [ev39]; rfl) (by decide) rfl (fun ls hl => ?_)
                        refine lv_goto (tgt := 73) hx hb dX12_feed_106 (by decide) ?_
                        have k40 : (I38 a0 1).toInt = v37.toInt := (congrArg Int32.toInt (h_n0 eI38)).trans rfl
                        exact ih73 I38 _ _ _ v39 g hI hF (lv_sub hl [1, 2, 3, 4, 5, 6, 7, 8, 0] rfl) (by omega) (by omega) (by omega)
                  have kc41 : (24 : Int32).toInt = 24 := by decide
                  have k42 : (I4 a0 1).toInt = v5.toInt := (congrArg Int32.toInt (ev5.symm)).trans rfl
                  exact loop73_2 _ I4 _ _ _ (24) g hI hF (lv_sub hl [2, 3, 4, 5, 6, 7, 8, 1, 0] rfl) ⟨by decide, by decide⟩ (by omega) (show ((24 : Int) + 8) < ((((24 : Int) + 8).toNat + 1 : Nat) : Int) by omega)
              · have ic9 := (xi_eq c9 rfl (by decide) : v3.toInt = 2)
                refine lv_iload_n hx hb dX12_feed_50 rfl (lv_at hl 3 rfl) ?_
                refine lv_goto (tgt := 67) hx hb dX12_feed_51 (by decide) ?_
                refine lv_istore (lv' := [(7, .int c), (0, .ref a0), (1, .int a), (2, .int b), (3, .int c), (4, .int d), (5, .int f), (6, .int v3)]) hx hb dX12_feed_67 hl (by decide) rfl (fun ls hl => ?_)
                refine lv_bipush (v := 24) hx hb dX12_feed_69 (by decide) ?_
                refine lv_istore (lv' := [(8, .int 24), (7, .int c), (0, .ref a0), (1, .int a), (2, .int b), (3, .int c), (4, .int d), (5, .int f), (6, .int v3)]) hx hb dX12_feed_71 hl (by decide) rfl (fun ls hl => ?_)
                have loop73_3 : ∀ (n : Nat) (I44 : tI) (H : Heap) (locs : List Loc) (ls : Array Slot) (v43 : Int32), h_G h_so h_fk E A z I44 L0 s s.heap H locs → h_I z I44 → h_F [(1300, 999), (13, 1)] z I0 I44 → lv_has ls 9 [(0, .ref a0), (1, .int a), (2, .int b), (3, .int c), (4, .int d), (5, .int f), (6, .int v3), (7, .int c), (8, .int v43)] → ((-8) ≤ v43.toInt ∧ v43.toInt ≤ 24) → (8 * (I44 a0 1).toInt + 32 * (5 - v3.toInt) ≤ 4000 + 24 - v43.toInt) → (v43.toInt + 8) < (n : Int) → W pr_ l ev_ (headSpec wsX12_feed ({ frames := 1, cells := 0, slots := 0, locals := 64 })).room s m ([.ref a0, .int a, .int b, .int c, .int d, .int f] : List Value).toArray below meth cd_ H locs 0 0 (MQ below (va_Qi (fun r (I1 : tI) => h_I z I1 ∧ h_F [(1300, 999), (13, 1)] z I0 I1 ∧ True) (fun (I1 : tI) t => h_B E A z I1 L0 t) A) ([.ref a0, .int a, .int b, .int c, .int d, .int f] : List Value).toArray s 0 0 A) (F0 m 73 ls []) := by
                  intro n
                  induction n with
                  | zero => intro I44 H locs ls v43 g hI hF hl jv43 hx73_0 hn; exact absurd hn (by omega)
                  | succ n ih73 =>
                    intro I44 H locs ls v43 g hI hF hl jv43 hx73_0 hn
                    obtain ⟨v45, ev45⟩ : ∃ v : Int32, v = I44 a0 1 := ⟨_, rfl⟩
                    rw [← ev45] at hx73_0
                    have jv45 := hI.rd a0 1 t_a0 ev45 (rfl : h_bd 13 1 = (0, 500))
                    refine lv_iload hx hb dX12_feed_73 (lv_at hl 8 rfl) ?_
                    refine lv_if_lt (tgt := 109) hx hb dX12_feed_75 (by decide) (fun c46 => ?_) (fun c46 => ?_)
                    · have ic46 := (xi_lt c46 rfl (by decide) : v43.toInt < 0)
                      obtain ⟨v47, ev47⟩ : ∃ z : Int32, z = v3 + 1 := ⟨_, rfl⟩
                      have jv47 : v47.toInt = v3.toInt + 1 := xi_add ev47 rfl (by decide) (by omega) (by omega)
                      refine lv_iinc (v := v47) (lv' := [(6, .int v47), (0, .ref a0), (1, .int a), (2, .int b), (3, .int c), (4, .int d), (5, .int f), (7, .int c), (8, .int v43)]) hx hb dX12_feed_109 hl (k := 6) rfl (by rw [ev47]; rfl) (by decide) rfl (fun ls hl => ?_)
                      refine lv_goto (tgt := 19) hx hb dX12_feed_112 (by decide) ?_
                      have k48 : (I44 a0 1).toInt = v45.toInt := (congrArg Int32.toInt (ev45.symm)).trans rfl
                      exact ih19 I44 _ _ _ v47 g hI hF (lv_sub hl [1, 2, 3, 4, 5, 6, 0] rfl) (by omega) (by omega) (by omega)
                    · have ic46 := (xi_nlt c46 rfl (by decide) : 0 ≤ v43.toInt)
                      refine lv_aload_n hx hb dX12_feed_78 rfl (lv_at hl 0 rfl) ?_
                      obtain ⟨b49, rb49, tb49⟩ := hR.at a0 0 t_a0 (rfl : h_rs 13 0 = some (1300, false)) (by decide)
                      refine h_get (v := .ref b49) hx hb hts iX12 hown g t_a0 (by decide) so_13 rfl 0 (by decide) (hts (.fieldLink RX12 7 "CapLeagueModel" "tape" "[B") (by decide +kernel)) rfl dX12_feed_79 (by show va_rf (z.R a0 0) = _; rw [rb49]; rfl) ?_
                      refine lv_aload_n hx hb dX12_feed_82 rfl (lv_at hl 0 rfl) ?_
                      refine h_get (v := .int v45) hx hb hts iX12 hown g t_a0 (by decide) so_13 rfl 1 (by decide) (hts (.fieldLink RX12 119 "CapLeagueModel" "taped" "I") (by decide +kernel)) rfl dX12_feed_83 (congrArg Value.int (ev45.symm)) ?_
                      refine lv_iload hx hb dX12_feed_86 (lv_at hl 7 rfl) ?_
                      refine lv_iload hx hb dX12_feed_88 (lv_at hl 8 rfl) ?_
                      refine lv_ishr hx hb dX12_feed_90 ?_
                      refine lv_topi (fun v50 ev50 => ?_)
                      have jv50 : -2147483648 ≤ v50.toInt ∧ v50.toInt ≤ 2147483647 := ⟨xi_lo _, Int.le_of_lt_add_one (xi_hi _)⟩
                      refine lv_i2b hx hb dX12_feed_91 rfl ?_
                      refine lv_topi (fun v51 ev51 => ?_)
                      have jv51 : -2147483648 ≤ v51.toInt ∧ v51.toInt ≤ 2147483647 := ⟨xi_lo _, Int.le_of_lt_add_one (xi_hi _)⟩
                      refine h_bast hx hb g tb49 (by decide) so_1300 (xi_in (by omega) (by omega)) dX12_feed_92 (fun I52 H locs eI52 g => ?_)
                      have hI := hI.wr eI52 tb49 (rfl : h_bd 1300 _ = (-128, 127)) (h_ny _).1 (h_ny _).2
                      have hF := hF.wr eI52 tb49 rfl
                      refine lv_aload_n hx hb dX12_feed_93 rfl (lv_at hl 0 rfl) ?_
                      refine lv_dup hx hb dX12_feed_94 rfl ?_
                      refine h_get (v := .int v45) hx hb hts iX12 hown g t_a0 (by decide) so_13 rfl 1 (by decide) (hts (.fieldLink RX12 119 "CapLeagueModel" "taped" "I") (by decide +kernel)) rfl dX12_feed_95 (congrArg Value.int ((h_n1 eI52 t_a0 tb49 (by decide)).trans (ev45.symm))) ?_
                      refine lv_iconst (v := 1) hx hb dX12_feed_98 (by decide) ?_
                      refine lv_iadd hx hb dX12_feed_99 ?_
                      refine lv_topi (fun v53 ev53 => ?_)
                      have jv53 : v53.toInt = v45.toInt + 1 := xi_add ev53 rfl (by decide) (by omega) (by omega)
                      refine h_putI (ty := .int) (v := v53) hx hb hts iX12 tyX12 tyX12_ok nmX12 hown g t_a0 (by decide) so_13 rfl 1 (by decide) rfl (hts (.fieldLink RX12 119 "CapLeagueModel" "taped" "I") (by decide +kernel)) rfl rfl (by decide +kernel) rfl rfl dX12_feed_100 (fun I54 H locs eI54 g => ?_)
                      have hI := hI.wr eI54 t_a0 (rfl : h_bd 13 1 = (0, 500)) (by omega) (by omega)
                      have hF := hF.wr eI54 t_a0 rfl
                      obtain ⟨v55, ev55⟩ : ∃ z : Int32, z = v43 + (-8) := ⟨_, rfl⟩
                      have jv55 : v55.toInt = v43.toInt + (-8) := xi_add ev55 rfl (by decide) (by omega) (by omega)
                      refine lv_iinc (v := v55) (lv' := [(8, .int v55), (0, .ref a0), (1, .int a), (2, .int b), (3, .int c), (4, .int d), (5, .int f), (6, .int v3), (7, .int c)]) hx hb dX12_feed_103 hl (k := 8) rfl (by rw [ev55]; rfl) (by decide) rfl (fun ls hl => ?_)
                      refine lv_goto (tgt := 73) hx hb dX12_feed_106 (by decide) ?_
                      have k56 : (I54 a0 1).toInt = v53.toInt := (congrArg Int32.toInt (h_n0 eI54)).trans rfl
                      exact ih73 I54 _ _ _ v55 g hI hF (lv_sub hl [1, 2, 3, 4, 5, 6, 7, 8, 0] rfl) (by omega) (by omega) (by omega)
                have kc57 : (24 : Int32).toInt = 24 := by decide
                have k58 : (I4 a0 1).toInt = v5.toInt := (congrArg Int32.toInt (ev5.symm)).trans rfl
                exact loop73_3 _ I4 _ _ _ (24) g hI hF (lv_sub hl [2, 3, 4, 5, 6, 7, 8, 1, 0] rfl) ⟨by decide, by decide⟩ (by omega) (show ((24 : Int) + 8) < ((((24 : Int) + 8).toNat + 1 : Nat) : Int) by omega)
            · have ic8 := (xi_eq c8 rfl (by decide) : v3.toInt = 1)
              refine lv_iload_n hx hb dX12_feed_40 rfl (lv_at hl 2 rfl) ?_
              refine lv_goto (tgt := 67) hx hb dX12_feed_41 (by decide) ?_
              refine lv_istore (lv' := [(7, .int b), (0, .ref a0), (1, .int a), (2, .int b), (3, .int c), (4, .int d), (5, .int f), (6, .int v3)]) hx hb dX12_feed_67 hl (by decide) rfl (fun ls hl => ?_)
              refine lv_bipush (v := 24) hx hb dX12_feed_69 (by decide) ?_
              refine lv_istore (lv' := [(8, .int 24), (7, .int b), (0, .ref a0), (1, .int a), (2, .int b), (3, .int c), (4, .int d), (5, .int f), (6, .int v3)]) hx hb dX12_feed_71 hl (by decide) rfl (fun ls hl => ?_)
              have loop73_4 : ∀ (n : Nat) (I60 : tI) (H : Heap) (locs : List Loc) (ls : Array Slot) (v59 : Int32), h_G h_so h_fk E A z I60 L0 s s.heap H locs → h_I z I60 → h_F [(1300, 999), (13, 1)] z I0 I60 → lv_has ls 9 [(0, .ref a0), (1, .int a), (2, .int b), (3, .int c), (4, .int d), (5, .int f), (6, .int v3), (7, .int b), (8, .int v59)] → ((-8) ≤ v59.toInt ∧ v59.toInt ≤ 24) → (8 * (I60 a0 1).toInt + 32 * (5 - v3.toInt) ≤ 4000 + 24 - v59.toInt) → (v59.toInt + 8) < (n : Int) → W pr_ l ev_ (headSpec wsX12_feed ({ frames := 1, cells := 0, slots := 0, locals := 64 })).room s m ([.ref a0, .int a, .int b, .int c, .int d, .int f] : List Value).toArray below meth cd_ H locs 0 0 (MQ below (va_Qi (fun r (I1 : tI) => h_I z I1 ∧ h_F [(1300, 999), (13, 1)] z I0 I1 ∧ True) (fun (I1 : tI) t => h_B E A z I1 L0 t) A) ([.ref a0, .int a, .int b, .int c, .int d, .int f] : List Value).toArray s 0 0 A) (F0 m 73 ls []) := by
                intro n
                induction n with
                | zero => intro I60 H locs ls v59 g hI hF hl jv59 hx73_0 hn; exact absurd hn (by omega)
                | succ n ih73 =>
                  intro I60 H locs ls v59 g hI hF hl jv59 hx73_0 hn
                  obtain ⟨v61, ev61⟩ : ∃ v : Int32, v = I60 a0 1 := ⟨_, rfl⟩
                  rw [← ev61] at hx73_0
                  have jv61 := hI.rd a0 1 t_a0 ev61 (rfl : h_bd 13 1 = (0, 500))
                  refine lv_iload hx hb dX12_feed_73 (lv_at hl 8 rfl) ?_
                  refine lv_if_lt (tgt := 109) hx hb dX12_feed_75 (by decide) (fun c62 => ?_) (fun c62 => ?_)
                  · have ic62 := (xi_lt c62 rfl (by decide) : v59.toInt < 0)
                    obtain ⟨v63, ev63⟩ : ∃ z : Int32, z = v3 + 1 := ⟨_, rfl⟩
                    have jv63 : v63.toInt = v3.toInt + 1 := xi_add ev63 rfl (by decide) (by omega) (by omega)
                    refine lv_iinc (v := v63) (lv' := [(6, .int v63), (0, .ref a0), (1, .int a), (2, .int b), (3, .int c), (4, .int d), (5, .int f), (7, .int b), (8, .int v59)]) hx hb dX12_feed_109 hl (k := 6) rfl (by rw [ev63]; rfl) (by decide) rfl (fun ls hl => ?_)
                    refine lv_goto (tgt := 19) hx hb dX12_feed_112 (by decide) ?_
                    have k64 : (I60 a0 1).toInt = v61.toInt := (congrArg Int32.toInt (ev61.symm)).trans rfl
                    exact ih19 I60 _ _ _ v63 g hI hF (lv_sub hl [1, 2, 3, 4, 5, 6, 0] rfl) (by omega) (by omega) (by omega)
                  · have ic62 := (xi_nlt c62 rfl (by decide) : 0 ≤ v59.toInt)
                    refine lv_aload_n hx hb dX12_feed_78 rfl (lv_at hl 0 rfl) ?_
                    obtain ⟨b65, rb65, tb65⟩ := hR.at a0 0 t_a0 (rfl : h_rs 13 0 = some (1300, false)) (by decide)
                    refine h_get (v := .ref b65) hx hb hts iX12 hown g t_a0 (by decide) so_13 rfl 0 (by decide) (hts (.fieldLink RX12 7 "CapLeagueModel" "tape" "[B") (by decide +kernel)) rfl dX12_feed_79 (by show va_rf (z.R a0 0) = _; rw [rb65]; rfl) ?_
                    refine lv_aload_n hx hb dX12_feed_82 rfl (lv_at hl 0 rfl) ?_
                    refine h_get (v := .int v61) hx hb hts iX12 hown g t_a0 (by decide) so_13 rfl 1 (by decide) (hts (.fieldLink RX12 119 "CapLeagueModel" "taped" "I") (by decide +kernel)) rfl dX12_feed_83 (congrArg Value.int (ev61.symm)) ?_
                    refine lv_iload hx hb dX12_feed_86 (lv_at hl 7 rfl) ?_
                    refine lv_iload hx hb dX12_feed_88 (lv_at hl 8 rfl) ?_
                    refine lv_ishr hx hb dX12_feed_90 ?_
                    refine lv_topi (fun v66 ev66 => ?_)
                    have jv66 : -2147483648 ≤ v66.toInt ∧ v66.toInt ≤ 2147483647 := ⟨xi_lo _, Int.le_of_lt_add_one (xi_hi _)⟩
                    refine lv_i2b hx hb dX12_feed_91 rfl ?_
                    refine lv_topi (fun v67 ev67 => ?_)
                    have jv67 : -2147483648 ≤ v67.toInt ∧ v67.toInt ≤ 2147483647 := ⟨xi_lo _, Int.le_of_lt_add_one (xi_hi _)⟩
                    refine h_bast hx hb g tb65 (by decide) so_1300 (xi_in (by omega) (by omega)) dX12_feed_92 (fun I68 H locs eI68 g => ?_)
                    have hI := hI.wr eI68 tb65 (rfl : h_bd 1300 _ = (-128, 127)) (h_ny _).1 (h_ny _).2
                    have hF := hF.wr eI68 tb65 rfl
                    refine lv_aload_n hx hb dX12_feed_93 rfl (lv_at hl 0 rfl) ?_
                    refine lv_dup hx hb dX12_feed_94 rfl ?_
                    refine h_get (v := .int v61) hx hb hts iX12 hown g t_a0 (by decide) so_13 rfl 1 (by decide) (hts (.fieldLink RX12 119 "CapLeagueModel" "taped" "I") (by decide +kernel)) rfl dX12_feed_95 (congrArg Value.int ((h_n1 eI68 t_a0 tb65 (by decide)).trans (ev61.symm))) ?_
                    refine lv_iconst (v := 1) hx hb dX12_feed_98 (by decide) ?_
                    refine lv_iadd hx hb dX12_feed_99 ?_
                    refine lv_topi (fun v69 ev69 => ?_)
                    have jv69 : v69.toInt = v61.toInt + 1 := xi_add ev69 rfl (by decide) (by omega) (by omega)
                    refine h_putI (ty := .int) (v := v69) hx hb hts iX12 tyX12 tyX12_ok nmX12 hown g t_a0 (by decide) so_13 rfl 1 (by decide) rfl (hts (.fieldLink RX12 119 "CapLeagueModel" "taped" "I") (by decide +kernel)) rfl rfl (by decide +kernel) rfl rfl dX12_feed_100 (fun I70 H locs eI70 g => ?_)
                    have hI := hI.wr eI70 t_a0 (rfl : h_bd 13 1 = (0, 500)) (by omega) (by omega)
                    have hF := hF.wr eI70 t_a0 rfl
                    obtain ⟨v71, ev71⟩ : ∃ z : Int32, z = v59 + (-8) := ⟨_, rfl⟩
                    have jv71 : v71.toInt = v59.toInt + (-8) := xi_add ev71 rfl (by decide) (by omega) (by omega)
                    refine lv_iinc (v := v71) (lv' := [(8, .int v71), (0, .ref a0), (1, .int a), (2, .int b), (3, .int c), (4, .int d), (5, .int f), (6, .int v3), (7, .int b)]) hx hb dX12_feed_103 hl (k := 8) rfl (by rw [ev71]; rfl) (by decide) rfl (fun ls hl => ?_)
                    refine lv_goto (tgt := 73) hx hb dX12_feed_106 (by decide) ?_
                    have k72 : (I70 a0 1).toInt = v69.toInt := (congrArg Int32.toInt (h_n0 eI70)).trans rfl
                    exact ih73 I70 _ _ _ v71 g hI hF (lv_sub hl [1, 2, 3, 4, 5, 6, 7, 8, 0] rfl) (by omega) (by omega) (by omega)
              have kc73 : (24 : Int32).toInt = 24 := by decide
              have k74 : (I4 a0 1).toInt = v5.toInt := (congrArg Int32.toInt (ev5.symm)).trans rfl
              exact loop73_4 _ I4 _ _ _ (24) g hI hF (lv_sub hl [2, 3, 4, 5, 6, 7, 8, 1, 0] rfl) ⟨by decide, by decide⟩ (by omega) (show ((24 : Int) + 8) < ((((24 : Int) + 8).toNat + 1 : Nat) : Int) by omega)
          · have ic7 := (xi_eq c7 rfl (by decide) : v3.toInt = 0)
            refine lv_iload_n hx hb dX12_feed_30 rfl (lv_at hl 1 rfl) ?_
            refine lv_goto (tgt := 67) hx hb dX12_feed_31 (by decide) ?_
            refine lv_istore (lv' := [(7, .int a), (0, .ref a0), (1, .int a), (2, .int b), (3, .int c), (4, .int d), (5, .int f), (6, .int v3)]) hx hb dX12_feed_67 hl (by decide) rfl (fun ls hl => ?_)
            refine lv_bipush (v := 24) hx hb dX12_feed_69 (by decide) ?_
            refine lv_istore (lv' := [(8, .int 24), (7, .int a), (0, .ref a0), (1, .int a), (2, .int b), (3, .int c), (4, .int d), (5, .int f), (6, .int v3)]) hx hb dX12_feed_71 hl (by decide) rfl (fun ls hl => ?_)
            have loop73_5 : ∀ (n : Nat) (I76 : tI) (H : Heap) (locs : List Loc) (ls : Array Slot) (v75 : Int32), h_G h_so h_fk E A z I76 L0 s s.heap H locs → h_I z I76 → h_F [(1300, 999), (13, 1)] z I0 I76 → lv_has ls 9 [(0, .ref a0), (1, .int a), (2, .int b), (3, .int c), (4, .int d), (5, .int f), (6, .int v3), (7, .int a), (8, .int v75)] → ((-8) ≤ v75.toInt ∧ v75.toInt ≤ 24) → (8 * (I76 a0 1).toInt + 32 * (5 - v3.toInt) ≤ 4000 + 24 - v75.toInt) → (v75.toInt + 8) < (n : Int) → W pr_ l ev_ (headSpec wsX12_feed ({ frames := 1, cells := 0, slots := 0, locals := 64 })).room s m ([.ref a0, .int a, .int b, .int c, .int d, .int f] : List Value).toArray below meth cd_ H locs 0 0 (MQ below (va_Qi (fun r (I1 : tI) => h_I z I1 ∧ h_F [(1300, 999), (13, 1)] z I0 I1 ∧ True) (fun (I1 : tI) t => h_B E A z I1 L0 t) A) ([.ref a0, .int a, .int b, .int c, .int d, .int f] : List Value).toArray s 0 0 A) (F0 m 73 ls []) := by
              intro n
              induction n with
              | zero => intro I76 H locs ls v75 g hI hF hl jv75 hx73_0 hn; exact absurd hn (by omega)
              | succ n ih73 =>
                intro I76 H locs ls v75 g hI hF hl jv75 hx73_0 hn
                obtain ⟨v77, ev77⟩ : ∃ v : Int32, v = I76 a0 1 := ⟨_, rfl⟩
                rw [← ev77] at hx73_0
                have jv77 := hI.rd a0 1 t_a0 ev77 (rfl : h_bd 13 1 = (0, 500))
                refine lv_iload hx hb dX12_feed_73 (lv_at hl 8 rfl) ?_
                refine lv_if_lt (tgt := 109) hx hb dX12_feed_75 (by decide) (fun c78 => ?_) (fun c78 => ?_)
                · have ic78 := (xi_lt c78 rfl (by decide) : v75.toInt < 0)
                  obtain ⟨v79, ev79⟩ : ∃ z : Int32, z = v3 + 1 := ⟨_, rfl⟩
                  have jv79 : v79.toInt = v3.toInt + 1 := xi_add ev79 rfl (by decide) (by omega) (by omega)
                  refine lv_iinc (v := v79) (lv' := [(6, .int v79), (0, .ref a0), (1, .int a), (2, .int b), (3, .int c), (4, .int d), (5, .int f), (7, .int a), (8, .int v75)]) hx hb dX12_feed_109 hl (k := 6) rfl (by rw [ev79]; rfl) (by decide) rfl (fun ls hl => ?_)
                  refine lv_goto (tgt := 19) hx hb dX12_feed_112 (by decide) ?_
                  have k80 : (I76 a0 1).toInt = v77.toInt := (congrArg Int32.toInt (ev77.symm)).trans rfl
                  exact ih19 I76 _ _ _ v79 g hI hF (lv_sub hl [1, 2, 3, 4, 5, 6, 0] rfl) (by omega) (by omega) (by omega)
                · have ic78 := (xi_nlt c78 rfl (by decide) : 0 ≤ v75.toInt)
                  refine lv_aload_n hx hb dX12_feed_78 rfl (lv_at hl 0 rfl) ?_
                  obtain ⟨b81, rb81, tb81⟩ := hR.at a0 0 t_a0 (rfl : h_rs 13 0 = some (1300, false)) (by decide)
                  refine h_get (v := .ref b81) hx hb hts iX12 hown g t_a0 (by decide) so_13 rfl 0 (by decide) (hts (.fieldLink RX12 7 "CapLeagueModel" "tape" "[B") (by decide +kernel)) rfl dX12_feed_79 (by show va_rf (z.R a0 0) = _; rw [rb81]; rfl) ?_
                  refine lv_aload_n hx hb dX12_feed_82 rfl (lv_at hl 0 rfl) ?_
                  refine h_get (v := .int v77) hx hb hts iX12 hown g t_a0 (by decide) so_13 rfl 1 (by decide) (hts (.fieldLink RX12 119 "CapLeagueModel" "taped" "I") (by decide +kernel)) rfl dX12_feed_83 (congrArg Value.int (ev77.symm)) ?_
                  refine lv_iload hx hb dX12_feed_86 (lv_at hl 7 rfl) ?_
                  refine lv_iload hx hb dX12_feed_88 (lv_at hl 8 rfl) ?_
                  refine lv_ishr hx hb dX12_feed_90 ?_
                  refine lv_topi (fun v82 ev82 => ?_)
                  have jv82 : -2147483648 ≤ v82.toInt ∧ v82.toInt ≤ 2147483647 := ⟨xi_lo _, Int.le_of_lt_add_one (xi_hi _)⟩
                  refine lv_i2b hx hb dX12_feed_91 rfl ?_
                  refine lv_topi (fun v83 ev83 => ?_)
                  have jv83 : -2147483648 ≤ v83.toInt ∧ v83.toInt ≤ 2147483647 := ⟨xi_lo _, Int.le_of_lt_add_one (xi_hi _)⟩
                  refine h_bast hx hb g tb81 (by decide) so_1300 (xi_in (by omega) (by omega)) dX12_feed_92 (fun I84 H locs eI84 g => ?_)
                  have hI := hI.wr eI84 tb81 (rfl : h_bd 1300 _ = (-128, 127)) (h_ny _).1 (h_ny _).2
                  have hF := hF.wr eI84 tb81 rfl
                  refine lv_aload_n hx hb dX12_feed_93 rfl (lv_at hl 0 rfl) ?_
                  refine lv_dup hx hb dX12_feed_94 rfl ?_
                  refine h_get (v := .int v77) hx hb hts iX12 hown g t_a0 (by decide) so_13 rfl 1 (by decide) (hts (.fieldLink RX12 119 "CapLeagueModel" "taped" "I") (by decide +kernel)) rfl dX12_feed_95 (congrArg Value.int ((h_n1 eI84 t_a0 tb81 (by decide)).trans (ev77.symm))) ?_
                  refine lv_iconst (v := 1) hx hb dX12_feed_98 (by decide) ?_
                  refine lv_iadd hx hb dX12_feed_99 ?_
                  refine lv_topi (fun v85 ev85 => ?_)
                  have jv85 : v85.toInt = v77.toInt + 1 := xi_add ev85 rfl (by decide) (by omega) (by omega)
                  refine h_putI (ty := .int) (v := v85) hx hb hts iX12 tyX12 tyX12_ok nmX12 hown g t_a0 (by decide) so_13 rfl 1 (by decide) rfl (hts (.fieldLink RX12 119 "CapLeagueModel" "taped" "I") (by decide +kernel)) rfl rfl (by decide +kernel) rfl rfl dX12_feed_100 (fun I86 H locs eI86 g => ?_)
                  have hI := hI.wr eI86 t_a0 (rfl : h_bd 13 1 = (0, 500)) (by omega) (by omega)
                  have hF := hF.wr eI86 t_a0 rfl
                  obtain ⟨v87, ev87⟩ : ∃ z : Int32, z = v75 + (-8) := ⟨_, rfl⟩
                  have jv87 : v87.toInt = v75.toInt + (-8) := xi_add ev87 rfl (by decide) (by omega) (by omega)
                  refine lv_iinc (v := v87) (lv' := [(8, .int v87), (0, .ref a0), (1, .int a), (2, .int b), (3, .int c), (4, .int d), (5, .int f), (6, .int v3), (7, .int a)]) hx hb dX12_feed_103 hl (k := 8) rfl (by rw [ev87]; rfl) (by decide) rfl (fun ls hl => ?_)
                  refine lv_goto (tgt := 73) hx hb dX12_feed_106 (by decide) ?_
                  have k88 : (I86 a0 1).toInt = v85.toInt := (congrArg Int32.toInt (h_n0 eI86)).trans rfl
                  exact ih73 I86 _ _ _ v87 g hI hF (lv_sub hl [1, 2, 3, 4, 5, 6, 7, 8, 0] rfl) (by omega) (by omega) (by omega)
            have kc89 : (24 : Int32).toInt = 24 := by decide
            have k90 : (I4 a0 1).toInt = v5.toInt := (congrArg Int32.toInt (ev5.symm)).trans rfl
            exact loop73_5 _ I4 _ _ _ (24) g hI hF (lv_sub hl [2, 3, 4, 5, 6, 7, 8, 1, 0] rfl) ⟨by decide, by decide⟩ (by omega) (show ((24 : Int) + 8) < ((((24 : Int) + 8).toNat + 1 : Nat) : Int) by omega)
    have kc91 : (0 : Int32).toInt = 0 := by decide
    have k92 : (I0 a0 1).toInt = f0_1.toInt := (congrArg Int32.toInt (ef0_1.symm)).trans rfl
    exact loop19_0 _ I0 _ _ _ (0) g hI hF (lv_sub hl [1, 2, 3, 4, 5, 6, 0] rfl) ⟨by decide, by decide⟩ (by omega) (show (5 - (0 : Int)) < (((5 - (0 : Int)).toNat + 1 : Nat) : Int) by omega)
  · have ic2 := (xi_nle c2 rfl (by decide) : 500 < v1.toInt)
    refine lv_bipush (v := (-3)) hx hb dX12_feed_13 (by decide) ?_
    have hS := g.2.1
    exact W.iret (v := (-3)) hx hb hr (fun t ht hW => ⟨⟨(-3), I0, rfl, ⟨hI, hF, trivial⟩, h_ret g ht⟩, hS.F ht⟩) hS.2.2 dX12_feed_15
set_option maxHeartbeats 4000000 in
set_option maxRecDepth 100000 in
theorem tX12_see (l : Launch) (E : tE) (X : tX) (A : Nat → Prop) (z : tZ) (I0 : tI) (L0 : tL) (a0 : Nat) (t_a0 : z.ty a0 = 13) (x : Int32) (x_t : Int) (h_x : x.toInt = x_t) (b_x : 0 ≤ x_t ∧ x_t ≤ 2147483647) : Met l yX12_see wsX12_see ({ frames := 1, cells := 0, slots := 0, locals := 64 }) (va_Pc [.ref a0, .int x] (h_P E X A z I0 L0)) (vp_Si (fun r => ((-1) ≤ r.toInt ∧ r.toInt ≤ 255) ∧ (r.toInt = -1 ∨ x_t < 500))) 0 0 (fun _ => False) := by
  refine Met.ofW (cc := cX12_see) (maxL := 2) (ret := (some .int)) (by decide) rfl ?_
  intro pr_ ev_ s m args below meth cd_ s₁ B hml hv
  obtain ⟨rfl, hE, hk, hX, hA, hK, hI, hR, hB0⟩ := hv
  have g : h_G h_so h_fk E A z I0 L0 s s.heap s.heap [] := ⟨hK, va_S.rf, hB0⟩
  have hx := B.exec
  have hb := B.bytes
  have hr := B.returns
  have hts := atoms_spec (ws := wsX12_see) B.pre
  have hown : s.vm.findClass RX12 = some m.cls := findClass_of_methodNamed B.named
  have hlocks := B.notSynchronized
  have iX12 : ∀ w ∈ u_ws RX12 TX12 51, w ∈ wsX12_see := by decide +kernel
  have hl := lv_entry ([.ref a0, .int x]) (n := 2) (Nat.le_of_ble_eq_true rfl)
  rw [lg_entry_eq]
  generalize (lg_sl ([.ref a0, .int x]) ++ List.replicate (2 - (lg_sl ([.ref a0, .int x])).length) Slot.unset).toArray = ls at hl ⊢
  have hl : lv_has ls 2 [(0, .ref a0), (1, .int x)] := hl
  refine lv_iload_n hx hb dX12_see_0 rfl (lv_at hl 1 rfl) ?_
  refine lv_aload_n hx hb dX12_see_1 rfl (lv_at hl 0 rfl) ?_
  refine h_get (v := .int (I0 a0 2)) hx hb hts iX12 hown g t_a0 (by decide) so_13 rfl 2 (by decide) (hts (.fieldLink RX12 122 "CapLeagueModel" "size" "I") (by decide +kernel)) rfl dX12_see_2 rfl ?_
  refine lv_topi (fun v1 ev1 => ?_)
  have jv1 := hI.rd a0 2 t_a0 ev1 (rfl : h_bd 13 2 = (0, 500))
  refine lv_icmp_ge (tgt := 21) hx hb dX12_see_5 (by decide) (fun c2 => ?_) (fun c2 => ?_)
  · have ic2 := (xi_le c2 rfl h_x : v1.toInt ≤ x_t)
    refine lv_iconst (v := (-1)) hx hb dX12_see_21 (by decide) ?_
    exact W.iret (v := (-1)) hx hb hr (fun t ht hW => ⟨(-1), rfl, ⟨⟨(by decide), (by decide)⟩, (by left; decide)⟩, ht⟩) (fun _ h => by cases h) dX12_see_22
  · have ic2 := (xi_nle c2 rfl h_x : x_t < v1.toInt)
    refine lv_aload_n hx hb dX12_see_8 rfl (lv_at hl 0 rfl) ?_
    obtain ⟨b3, rb3, tb3⟩ := hR.at a0 0 t_a0 (rfl : h_rs 13 0 = some (1300, false)) (by decide)
    refine h_get (v := .ref b3) hx hb hts iX12 hown g t_a0 (by decide) so_13 rfl 0 (by decide) (hts (.fieldLink RX12 7 "CapLeagueModel" "tape" "[B") (by decide +kernel)) rfl dX12_see_9 (by show va_rf (z.R a0 0) = _; rw [rb3]; rfl) ?_
    refine lv_iload_n hx hb dX12_see_12 rfl (lv_at hl 1 rfl) ?_
    refine h_bald hx hb g tb3 (by decide) so_1300 (xi_in (by rw [h_x]; omega) (by rw [h_x]; omega)) dX12_see_13 ?_
    refine lv_topi (fun v4 ev4 => ?_)
    have jv4 := hI.rd b3 x.toNatClampNeg tb3 ev4 (rfl : h_bd 1300 _ = ((-128), 127))
    refine lv_sipush (v := 255) hx hb dX12_see_14 (by decide) ?_
    refine lv_iand hx hb dX12_see_17 ?_
    refine lv_topi (fun v5 ev5 => ?_)
    have jv5 : 0 ≤ v5.toInt ∧ v5.toInt ≤ 255 := h_andn 255 (by decide) ev5
    refine lv_goto (tgt := 22) hx hb dX12_see_18 (by decide) ?_
    exact W.iret (v := v5) hx hb hr (fun t ht hW => ⟨v5, rfl, ⟨⟨(by omega), (by omega)⟩, (by right; omega)⟩, ht⟩) (fun _ h => by cases h) dX12_see_22
set_option maxHeartbeats 4000000 in
set_option maxRecDepth 100000 in
theorem tX12_keyAt (l : Launch) (E : tE) (X : tX) (A : Nat → Prop) (z : tZ) (I0 : tI) (L0 : tL) (a0 : Nat) (t_a0 : z.ty a0 = 13) (p : Int32) (p_t : Int) (h_p : p.toInt = p_t) (b_p : 0 ≤ p_t ∧ p_t ≤ 500) (w : Int32) (w_t : Int) (h_w : w.toInt = w_t) (b_w : 1 ≤ w_t ∧ w_t ≤ 500) : Met l yX12_keyAt wsX12_keyAt ({ frames := 5, cells := 0, slots := 0, locals := 320 }) (va_Pc [.ref a0, .int p, .int w] (h_P E X A z I0 L0)) (vp_Si (fun r => ((-1) ≤ r.toInt ∧ r.toInt ≤ 60))) 0 0 (fun _ => False) := by
  refine Met.ofW (cc := cX12_keyAt) (maxL := 8) (ret := (some .int)) (by decide) rfl ?_
  intro pr_ ev_ s m args below meth cd_ s₁ B hml hv
  obtain ⟨rfl, hE, hk, hX, hA, hK, hI, hR, hB0⟩ := hv
  have g : h_G h_so h_fk E A z I0 L0 s s.heap s.heap [] := ⟨hK, va_S.rf, hB0⟩
  have hx := B.exec
  have hb := B.bytes
  have hr := B.returns
  have hts := atoms_spec (ws := wsX12_keyAt) B.pre
  have hown : s.vm.findClass RX12 = some m.cls := findClass_of_methodNamed B.named
  have hlocks := B.notSynchronized
  have hl := lv_entry ([.ref a0, .int p, .int w]) (n := 8) (Nat.le_of_ble_eq_true rfl)
  rw [lg_entry_eq]
  generalize (lg_sl ([.ref a0, .int p, .int w]) ++ List.replicate (8 - (lg_sl ([.ref a0, .int p, .int w])).length) Slot.unset).toArray = ls at hl ⊢
  have hl : lv_has ls 8 [(0, .ref a0), (1, .int p), (2, .int w)] := hl
  refine lv_iconst (v := 0) hx hb dX12_keyAt_0 (by decide) ?_
  refine lv_istore_n (lv' := [(3, .int 0), (0, .ref a0), (1, .int p), (2, .int w)]) hx hb dX12_keyAt_1 rfl hl (by decide) rfl (fun ls hl => ?_)
  refine lv_iconst (v := 0) hx hb dX12_keyAt_2 (by decide) ?_
  refine lv_istore (lv' := [(4, .int 0), (3, .int 0), (0, .ref a0), (1, .int p), (2, .int w)]) hx hb dX12_keyAt_3 hl (by decide) rfl (fun ls hl => ?_)
  refine lv_iconst (v := 0) hx hb dX12_keyAt_5 (by decide) ?_
  refine lv_istore (lv' := [(5, .int 0), (4, .int 0), (3, .int 0), (0, .ref a0), (1, .int p), (2, .int w)]) hx hb dX12_keyAt_6 hl (by decide) rfl (fun ls hl => ?_)
  have loop8_0 : ∀ (n : Nat) (ls : Array Slot) (v1 v2 v3 : Int32), lv_has ls 8 [(0, .ref a0), (1, .int p), (2, .int w), (3, .int v1), (4, .int v2), (5, .int v3)] → (0 ≤ v1.toInt ∧ v1.toInt ≤ 43) → (0 ≤ v2.toInt ∧ v2.toInt ≤ 43) → (0 ≤ v3.toInt ∧ v3.toInt ≤ 43) → (v1.toInt ≤ v3.toInt) → (v2.toInt ≤ v3.toInt) → (43 - v3.toInt) < (n : Int) → W pr_ l ev_ (headSpec wsX12_keyAt ({ frames := 5, cells := 0, slots := 0, locals := 320 })).room s m ([.ref a0, .int p, .int w] : List Value).toArray below meth cd_ s.heap [] 0 0 (MQ below (vp_Si (fun r => ((-1) ≤ r.toInt ∧ r.toInt ≤ 60))) ([.ref a0, .int p, .int w] : List Value).toArray s 0 0 (fun _ => False)) (F0 m 8 ls []) := by
    intro n
    induction n with
    | zero => intro ls v1 v2 v3 hl jv1 jv2 jv3 hx8_0 hx8_1 hn; exact absurd hn (by omega)
    | succ n ih8 =>
      intro ls v1 v2 v3 hl jv1 jv2 jv3 hx8_0 hx8_1 hn
      refine lv_iload hx hb dX12_keyAt_8 (lv_at hl 5 rfl) ?_
      refine va_ldcS (tx := "cap roster years spare match hurt tax lots ") (q := X.adK 9) hx hb hown (hk.1 9 (RX12, 125, "cap roster years spare match hurt tax lots ") h_str_9) dX12_keyAt_10 ?_
      refine vp_callSi (W.runV (As := []) (rest := [.int v3]) ⟨hx, hb, hml, hown, hts⟩ (tJ0_length_8abf5 l E X A z I0 L0 9 (by decide)) (cwV 0 hts gX12_keyAt_J0_length_8abf5 rfl rfl rfl (by decide +kernel) ⟨Nat.le_of_ble_eq_true rfl, Nat.le_of_ble_eq_true rfl⟩) ⟨h_blind _ _ _ _ _ _ _, vk_recv hX.2.2.2.2.2 (by decide) g.2.1, h_pre _ hE hk hX hA hI hR g⟩ rfl rfl hl.1 rfl (lv_room (Nat.le_of_ble_eq_true rfl)) dX12_keyAt_12 ⟨Nat.le_of_ble_eq_true rfl, Nat.le_of_ble_eq_true rfl⟩) (fun rh4 h4 => ?_)
      have h4p0 := h4
      have jrh4 : -2147483648 ≤ rh4.toInt ∧ rh4.toInt ≤ 2147483647 := ⟨xi_lo _, Int.le_of_lt_add_one (xi_hi _)⟩
      have krh4 := h_slen 9
      have rh4q : rh4.toInt = (h_len10.getD 9 0 : Int) := h4p0
      refine lv_icmp_ge (tgt := 119) hx hb dX12_keyAt_15 (by decide) (fun c5 => ?_) (fun c5 => ?_)
      · have ic5 := (xi_le c5 rfl rfl : rh4.toInt ≤ v3.toInt)
        refine lv_iconst (v := (-1)) hx hb dX12_keyAt_119 (by decide) ?_
        exact W.iret (v := (-1)) hx hb hr (fun t ht hW => ⟨(-1), rfl, ⟨(by decide), (by decide)⟩, ht⟩) (fun _ h => by cases h) dX12_keyAt_120
      · have ic5 := (xi_nle c5 rfl rfl : v3.toInt < rh4.toInt)
        refine va_ldcS (tx := "cap roster years spare match hurt tax lots ") (q := X.adK 9) hx hb hown (hk.1 9 (RX12, 125, "cap roster years spare match hurt tax lots ") h_str_9) dX12_keyAt_18 ?_
        refine lv_iload hx hb dX12_keyAt_20 (lv_at hl 5 rfl) ?_
        refine vp_callSi (W.runV (As := [.int v3]) (rest := []) ⟨hx, hb, hml, hown, hts⟩ (tJ0_charAt_5068e l E X A z I0 L0 9 (by decide) v3 (v3.toInt) rfl (by omega) (by omega)) (cwV 1 hts gX12_keyAt_J0_charAt_5068e rfl rfl rfl (by decide +kernel) ⟨Nat.le_of_ble_eq_true rfl, Nat.le_of_ble_eq_true rfl⟩) ⟨h_blind _ _ _ _ _ _ _, vk_recv hX.2.2.2.2.2 (by decide) g.2.1, h_pre _ hE hk hX hA hI hR g⟩ rfl rfl hl.1 rfl (lv_room (Nat.le_of_ble_eq_true rfl)) dX12_keyAt_22 ⟨Nat.le_of_ble_eq_true rfl, Nat.le_of_ble_eq_true rfl⟩) (fun rh6 h6 => ?_)
        refine lv_bipush (v := 32) hx hb dX12_keyAt_25 (by decide) ?_
        refine lv_icmp_eq (tgt := 33) hx hb dX12_keyAt_27 (by decide) (fun c7 => ?_) (fun c7 => ?_)
        · have ic7 := (xi_eq c7 rfl (by decide) : rh6.toInt = 32)
          refine lv_iload hx hb dX12_keyAt_33 (lv_at hl 5 rfl) ?_
          refine lv_iload hx hb dX12_keyAt_35 (lv_at hl 4 rfl) ?_
          refine lv_isub hx hb dX12_keyAt_37 ?_
          refine lv_topi (fun v8 ev8 => ?_)
          have jv8 : v8.toInt = v3.toInt - v2.toInt := xi_sub ev8 rfl rfl (by omega) (by omega)
          refine lv_iload_n hx hb dX12_keyAt_38 rfl (lv_at hl 2 rfl) ?_
          refine lv_icmp_ne (tgt := 46) hx hb dX12_keyAt_39 (by decide) (fun c9 => ?_) (fun c9 => ?_)
          · have ic9 := (xi_ne c9 rfl h_w : v8.toInt ≠ w_t)
            refine lv_iconst (v := 0) hx hb dX12_keyAt_46 (by decide) ?_
            refine lv_istore (lv' := [(6, .int 0), (0, .ref a0), (1, .int p), (2, .int w), (3, .int v1), (4, .int v2), (5, .int v3)]) hx hb dX12_keyAt_47 hl (by decide) rfl (fun ls hl => ?_)
            refine lv_iconst (v := 0) hx hb dX12_keyAt_49 (by decide) ?_
            refine lv_istore (lv' := [(7, .int 0), (6, .int 0), (0, .ref a0), (1, .int p), (2, .int w), (3, .int v1), (4, .int v2), (5, .int v3)]) hx hb dX12_keyAt_50 hl (by decide) rfl (fun ls hl => ?_)
            have loop52_1 : ∀ (n : Nat) (ls : Array Slot) (v10 v11 : Int32), lv_has ls 8 [(0, .ref a0), (1, .int p), (2, .int w), (3, .int v1), (4, .int v2), (5, .int v3), (6, .int v10), (7, .int v11)] → (0 ≤ v10.toInt ∧ v10.toInt ≤ 1) → (0 ≤ v11.toInt ∧ v11.toInt ≤ 500) → (v10.toInt = 0 ∨ w_t = v3.toInt - v2.toInt) → (501 - v11.toInt) < (n : Int) → W pr_ l ev_ (headSpec wsX12_keyAt ({ frames := 5, cells := 0, slots := 0, locals := 320 })).room s m ([.ref a0, .int p, .int w] : List Value).toArray below meth cd_ s.heap [] 0 0 (MQ below (vp_Si (fun r => ((-1) ≤ r.toInt ∧ r.toInt ≤ 60))) ([.ref a0, .int p, .int w] : List Value).toArray s 0 0 (fun _ => False)) (F0 m 52 ls []) := by
              intro n
              induction n with
              | zero => intro ls v10 v11 hl jv10 jv11 hx52_0 hn; exact absurd hn (by omega)
              | succ n ih52 =>
                intro ls v10 v11 hl jv10 jv11 hx52_0 hn
                refine lv_iload hx hb dX12_keyAt_52 (lv_at hl 7 rfl) ?_
                refine lv_iload_n hx hb dX12_keyAt_54 rfl (lv_at hl 2 rfl) ?_
                refine lv_icmp_ge (tgt := 97) hx hb dX12_keyAt_55 (by decide) (fun c12 => ?_) (fun c12 => ?_)
                · have ic12 := (xi_le c12 h_w rfl : w_t ≤ v11.toInt)
                  refine lv_iload hx hb dX12_keyAt_97 (lv_at hl 6 rfl) ?_
                  refine lv_if_eq (tgt := 104) hx hb dX12_keyAt_99 (by decide) (fun c13 => ?_) (fun c13 => ?_)
                  · have ic13 := (xi_eq c13 rfl (by decide) : v10.toInt = 0)
                    obtain ⟨v14, ev14⟩ : ∃ z : Int32, z = v1 + 1 := ⟨_, rfl⟩
                    have jv14 : v14.toInt = v1.toInt + 1 := xi_add ev14 rfl (by decide) (by omega) (by omega)
                    refine lv_iinc (v := v14) (lv' := [(3, .int v14), (0, .ref a0), (1, .int p), (2, .int w), (4, .int v2), (5, .int v3), (6, .int v10), (7, .int v11)]) hx hb dX12_keyAt_104 hl (k := 3) rfl (by rw [ev14]; rfl) (by decide) rfl (fun ls hl => ?_)
                    refine lv_iload hx hb dX12_keyAt_107 (lv_at hl 5 rfl) ?_
                    refine lv_iconst (v := 1) hx hb dX12_keyAt_109 (by decide) ?_
                    refine lv_iadd hx hb dX12_keyAt_110 ?_
                    refine lv_topi (fun v15 ev15 => ?_)
                    have jv15 : v15.toInt = v3.toInt + 1 := xi_add ev15 rfl (by decide) (by omega) (by omega)
                    refine lv_istore (lv' := [(4, .int v15), (3, .int v14), (0, .ref a0), (1, .int p), (2, .int w), (5, .int v3), (6, .int v10), (7, .int v11)]) hx hb dX12_keyAt_111 hl (by decide) rfl (fun ls hl => ?_)
                    obtain ⟨v16, ev16⟩ : ∃ z : Int32, z = v3 + 1 := ⟨_, rfl⟩
                    have jv16 : v16.toInt = v3.toInt + 1 := xi_add ev16 rfl (by decide) (by omega) (by omega)
                    refine lv_iinc (v := v16) (lv' := [(5, .int v16), (4, .int v15), (3, .int v14), (0, .ref a0), (1, .int p), (2, .int w), (6, .int v10), (7, .int v11)]) hx hb dX12_keyAt_113 hl (k := 5) rfl (by rw [ev16]; rfl) (by decide) rfl (fun ls hl => ?_)
                    refine lv_goto (tgt := 8) hx hb dX12_keyAt_116 (by decide) ?_
                    exact ih8 _ v14 v15 v16 (lv_sub hl [3, 4, 5, 2, 1, 0] rfl) (by omega) (by omega) (by omega) (by omega) (by omega) (by omega)
                  · have ic13 := (xi_ne c13 rfl (by decide) : v10.toInt ≠ 0)
                    refine lv_iload_n hx hb dX12_keyAt_102 rfl (lv_at hl 3 rfl) ?_
                    exact W.iret (v := v1) hx hb hr (fun t ht hW => ⟨v1, rfl, ⟨(by omega), (by omega)⟩, ht⟩) (fun _ h => by cases h) dX12_keyAt_103
                · have ic12 := (xi_nle c12 h_w rfl : v11.toInt < w_t)
                  refine lv_iload hx hb dX12_keyAt_58 (lv_at hl 6 rfl) ?_
                  refine lv_if_eq (tgt := 97) hx hb dX12_keyAt_60 (by decide) (fun c17 => ?_) (fun c17 => ?_)
                  · have ic17 := (xi_eq c17 rfl (by decide) : v10.toInt = 0)
                    refine lv_iload hx hb dX12_keyAt_97 (lv_at hl 6 rfl) ?_
                    refine lv_if_eq (tgt := 104) hx hb dX12_keyAt_99 (by decide) (fun c18 => ?_) (fun h => absurd (xi_ne h rfl (by decide) : v10.toInt ≠ 0) (by omega))
                    have ic18 := (xi_eq c18 rfl (by decide) : v10.toInt = 0)
                    obtain ⟨v19, ev19⟩ : ∃ z : Int32, z = v1 + 1 := ⟨_, rfl⟩
                    have jv19 : v19.toInt = v1.toInt + 1 := xi_add ev19 rfl (by decide) (by omega) (by omega)
                    refine lv_iinc (v := v19) (lv' := [(3, .int v19), (0, .ref a0), (1, .int p), (2, .int w), (4, .int v2), (5, .int v3), (6, .int v10), (7, .int v11)]) hx hb dX12_keyAt_104 hl (k := 3) rfl (by rw [ev19]; rfl) (by decide) rfl (fun ls hl => ?_)
                    refine lv_iload hx hb dX12_keyAt_107 (lv_at hl 5 rfl) ?_
                    refine lv_iconst (v := 1) hx hb dX12_keyAt_109 (by decide) ?_
                    refine lv_iadd hx hb dX12_keyAt_110 ?_
                    refine lv_topi (fun v20 ev20 => ?_)
                    have jv20 : v20.toInt = v3.toInt + 1 := xi_add ev20 rfl (by decide) (by omega) (by omega)
                    refine lv_istore (lv' := [(4, .int v20), (3, .int v19), (0, .ref a0), (1, .int p), (2, .int w), (5, .int v3), (6, .int v10), (7, .int v11)]) hx hb dX12_keyAt_111 hl (by decide) rfl (fun ls hl => ?_)
                    obtain ⟨v21, ev21⟩ : ∃ z : Int32, z = v3 + 1 := ⟨_, rfl⟩
                    have jv21 : v21.toInt = v3.toInt + 1 := xi_add ev21 rfl (by decide) (by omega) (by omega)
                    refine lv_iinc (v := v21) (lv' := [(5, .int v21), (4, .int v20), (3, .int v19), (0, .ref a0), (1, .int p), (2, .int w), (6, .int v10), (7, .int v11)]) hx hb dX12_keyAt_113 hl (k := 5) rfl (by rw [ev21]; rfl) (by decide) rfl (fun ls hl => ?_)
                    refine lv_goto (tgt := 8) hx hb dX12_keyAt_116 (by decide) ?_
                    exact ih8 _ v19 v20 v21 (lv_sub hl [3, 4, 5, 2, 1, 0] rfl) (by omega) (by omega) (by omega) (by omega) (by omega) (by omega)
                  · have ic17 := (xi_ne c17 rfl (by decide) : v10.toInt ≠ 0)
                    refine va_ldcS (tx := "cap roster years spare match hurt tax lots ") (q := X.adK 9) hx hb hown (hk.1 9 (RX12, 125, "cap roster years spare match hurt tax lots ") h_str_9) dX12_keyAt_63 ?_
                    refine lv_iload hx hb dX12_keyAt_65 (lv_at hl 4 rfl) ?_
                    refine lv_iload hx hb dX12_keyAt_67 (lv_at hl 7 rfl) ?_
                    refine lv_iadd hx hb dX12_keyAt_69 ?_
                    refine lv_topi (fun v22 ev22 => ?_)
                    have jv22 : v22.toInt = v2.toInt + v11.toInt := xi_add ev22 rfl rfl (by omega) (by omega)
                    refine vp_callSi (W.runV (As := [.int v22]) (rest := []) ⟨hx, hb, hml, hown, hts⟩ (tJ0_charAt_5068e l E X A z I0 L0 9 (by decide) v22 (v22.toInt) rfl (by omega) (by omega)) (cwV 1 hts gX12_keyAt_J0_charAt_5068e rfl rfl rfl (by decide +kernel) ⟨Nat.le_of_ble_eq_true rfl, Nat.le_of_ble_eq_true rfl⟩) ⟨h_blind _ _ _ _ _ _ _, vk_recv hX.2.2.2.2.2 (by decide) g.2.1, h_pre _ hE hk hX hA hI hR g⟩ rfl rfl hl.1 rfl (lv_room (Nat.le_of_ble_eq_true rfl)) dX12_keyAt_70 ⟨Nat.le_of_ble_eq_true rfl, Nat.le_of_ble_eq_true rfl⟩) (fun rh23 h23 => ?_)
                    refine lv_aload_n hx hb dX12_keyAt_73 rfl (lv_at hl 0 rfl) ?_
                    refine lv_iload_n hx hb dX12_keyAt_74 rfl (lv_at hl 1 rfl) ?_
                    refine lv_iload hx hb dX12_keyAt_75 (lv_at hl 7 rfl) ?_
                    refine lv_iadd hx hb dX12_keyAt_77 ?_
                    refine lv_topi (fun v24 ev24 => ?_)
                    have jv24 : v24.toInt = p_t + v11.toInt := xi_add ev24 h_p rfl (by omega) (by omega)
                    refine vp_callSi (W.runV (As := [.int v24]) (rest := [.int rh23]) ⟨hx, hb, hml, hown, hts⟩ (tX12_see l E X A z I0 L0 a0 t_a0 v24 (v24.toInt) rfl (by omega)) (cwV 1 hts gX12_keyAt_X12_see rfl rfl rfl (by decide +kernel) ⟨Nat.le_of_ble_eq_true rfl, Nat.le_of_ble_eq_true rfl⟩) ⟨h_blind _ _ _ _ _ _ _, h_recv g t_a0 (by decide) so_13 (q := (RX12, TX12, 51)) rfl, h_pre _ hE hk hX hA hI hR g⟩ rfl rfl hl.1 rfl (lv_room (Nat.le_of_ble_eq_true rfl)) dX12_keyAt_78 ⟨Nat.le_of_ble_eq_true rfl, Nat.le_of_ble_eq_true rfl⟩) (fun rh25 h25 => ?_)
                    obtain ⟨h25, h25p0⟩ := h25
                    refine lv_icmp_ne (tgt := 88) hx hb dX12_keyAt_81 (by decide) (fun c26 => ?_) (fun c26 => ?_)
                    · have ic26 := (xi_ne c26 rfl rfl : rh23.toInt ≠ rh25.toInt)
                      refine lv_iconst (v := 0) hx hb dX12_keyAt_88 (by decide) ?_
                      refine lv_istore (lv' := [(6, .int 0), (0, .ref a0), (1, .int p), (2, .int w), (3, .int v1), (4, .int v2), (5, .int v3), (7, .int v11)]) hx hb dX12_keyAt_89 hl (by decide) rfl (fun ls hl => ?_)
                      obtain ⟨v27, ev27⟩ : ∃ z : Int32, z = v11 + 1 := ⟨_, rfl⟩
                      have jv27 : v27.toInt = v11.toInt + 1 := xi_add ev27 rfl (by decide) (by omega) (by omega)
                      refine lv_iinc (v := v27) (lv' := [(7, .int v27), (6, .int 0), (0, .ref a0), (1, .int p), (2, .int w), (3, .int v1), (4, .int v2), (5, .int v3)]) hx hb dX12_keyAt_91 hl (k := 7) rfl (by rw [ev27]; rfl) (by decide) rfl (fun ls hl => ?_)
                      refine lv_goto (tgt := 52) hx hb dX12_keyAt_94 (by decide) ?_
                      have kc28 : (0 : Int32).toInt = 0 := by decide
                      exact ih52 _ (0) v27 (lv_sub hl [2, 3, 4, 5, 6, 7, 1, 0] rfl) ⟨by decide, by decide⟩ (by omega) (by omega) (by omega)
                    · have ic26 := (xi_eq c26 rfl rfl : rh23.toInt = rh25.toInt)
                      refine lv_iconst (v := 1) hx hb dX12_keyAt_84 (by decide) ?_
                      refine lv_goto (tgt := 89) hx hb dX12_keyAt_85 (by decide) ?_
                      refine lv_istore (lv' := [(6, .int 1), (0, .ref a0), (1, .int p), (2, .int w), (3, .int v1), (4, .int v2), (5, .int v3), (7, .int v11)]) hx hb dX12_keyAt_89 hl (by decide) rfl (fun ls hl => ?_)
                      obtain ⟨v29, ev29⟩ : ∃ z : Int32, z = v11 + 1 := ⟨_, rfl⟩
                      have jv29 : v29.toInt = v11.toInt + 1 := xi_add ev29 rfl (by decide) (by omega) (by omega)
                      refine lv_iinc (v := v29) (lv' := [(7, .int v29), (6, .int 1), (0, .ref a0), (1, .int p), (2, .int w), (3, .int v1), (4, .int v2), (5, .int v3)]) hx hb dX12_keyAt_91 hl (k := 7) rfl (by rw [ev29]; rfl) (by decide) rfl (fun ls hl => ?_)
                      refine lv_goto (tgt := 52) hx hb dX12_keyAt_94 (by decide) ?_
                      have kc30 : (1 : Int32).toInt = 1 := by decide
                      exact ih52 _ (1) v29 (lv_sub hl [2, 3, 4, 5, 6, 7, 1, 0] rfl) ⟨by decide, by decide⟩ (by omega) (by omega) (by omega)
            have kc31 : (0 : Int32).toInt = 0 := by decide
            have kc32 : (0 : Int32).toInt = 0 := by decide
            exact loop52_1 _ _ (0) (0) (lv_sub hl [2, 3, 4, 5, 6, 7, 1, 0] rfl) ⟨by decide, by decide⟩ ⟨by decide, by decide⟩ (by omega) (show (501 - (0 : Int)) < (((501 - (0 : Int)).toNat + 1 : Nat) : Int) by omega)
          · have ic9 := (xi_eq c9 rfl h_w : v8.toInt = w_t)
            refine lv_iconst (v := 1) hx hb dX12_keyAt_42 (by decide) ?_
            refine lv_goto (tgt := 47) hx hb dX12_keyAt_43 (by decide) ?_
            refine lv_istore (lv' := [(6, .int 1), (0, .ref a0), (1, .int p), (2, .int w), (3, .int v1), (4, .int v2), (5, .int v3)]) hx hb dX12_keyAt_47 hl (by decide) rfl (fun ls hl => ?_)
            refine lv_iconst (v := 0) hx hb dX12_keyAt_49 (by decide) ?_
            refine lv_istore (lv' := [(7, .int 0), (6, .int 1), (0, .ref a0), (1, .int p), (2, .int w), (3, .int v1), (4, .int v2), (5, .int v3)]) hx hb dX12_keyAt_50 hl (by decide) rfl (fun ls hl => ?_)
            have loop52_2 : ∀ (n : Nat) (ls : Array Slot) (v33 v34 : Int32), lv_has ls 8 [(0, .ref a0), (1, .int p), (2, .int w), (3, .int v1), (4, .int v2), (5, .int v3), (6, .int v33), (7, .int v34)] → (0 ≤ v33.toInt ∧ v33.toInt ≤ 1) → (0 ≤ v34.toInt ∧ v34.toInt ≤ 500) → (v33.toInt = 0 ∨ w_t = v3.toInt - v2.toInt) → (501 - v34.toInt) < (n : Int) → W pr_ l ev_ (headSpec wsX12_keyAt ({ frames := 5, cells := 0, slots := 0, locals := 320 })).room s m ([.ref a0, .int p, .int w] : List Value).toArray below meth cd_ s.heap [] 0 0 (MQ below (vp_Si (fun r => ((-1) ≤ r.toInt ∧ r.toInt ≤ 60))) ([.ref a0, .int p, .int w] : List Value).toArray s 0 0 (fun _ => False)) (F0 m 52 ls []) := by
              intro n
              induction n with
              | zero => intro ls v33 v34 hl jv33 jv34 hx52_0 hn; exact absurd hn (by omega)
              | succ n ih52 =>
                intro ls v33 v34 hl jv33 jv34 hx52_0 hn
                refine lv_iload hx hb dX12_keyAt_52 (lv_at hl 7 rfl) ?_
                refine lv_iload_n hx hb dX12_keyAt_54 rfl (lv_at hl 2 rfl) ?_
                refine lv_icmp_ge (tgt := 97) hx hb dX12_keyAt_55 (by decide) (fun c35 => ?_) (fun c35 => ?_)
                · have ic35 := (xi_le c35 h_w rfl : w_t ≤ v34.toInt)
                  refine lv_iload hx hb dX12_keyAt_97 (lv_at hl 6 rfl) ?_
                  refine lv_if_eq (tgt := 104) hx hb dX12_keyAt_99 (by decide) (fun c36 => ?_) (fun c36 => ?_)
                  · have ic36 := (xi_eq c36 rfl (by decide) : v33.toInt = 0)
                    obtain ⟨v37, ev37⟩ : ∃ z : Int32, z = v1 + 1 := ⟨_, rfl⟩
                    have jv37 : v37.toInt = v1.toInt + 1 := xi_add ev37 rfl (by decide) (by omega) (by omega)
                    refine lv_iinc (v := v37) (lv' := [(3, .int v37), (0, .ref a0), (1, .int p), (2, .int w), (4, .int v2), (5, .int v3), (6, .int v33), (7, .int v34)]) hx hb dX12_keyAt_104 hl (k := 3) rfl (by rw [ev37]; rfl) (by decide) rfl (fun ls hl => ?_)
                    refine lv_iload hx hb dX12_keyAt_107 (lv_at hl 5 rfl) ?_
                    refine lv_iconst (v := 1) hx hb dX12_keyAt_109 (by decide) ?_
                    refine lv_iadd hx hb dX12_keyAt_110 ?_
                    refine lv_topi (fun v38 ev38 => ?_)
                    have jv38 : v38.toInt = v3.toInt + 1 := xi_add ev38 rfl (by decide) (by omega) (by omega)
                    refine lv_istore (lv' := [(4, .int v38), (3, .int v37), (0, .ref a0), (1, .int p), (2, .int w), (5, .int v3), (6, .int v33), (7, .int v34)]) hx hb dX12_keyAt_111 hl (by decide) rfl (fun ls hl => ?_)
                    obtain ⟨v39, ev39⟩ : ∃ z : Int32, z = v3 + 1 := ⟨_, rfl⟩
                    have jv39 : v39.toInt = v3.toInt + 1 := xi_add ev39 rfl (by decide) (by omega) (by omega)
                    refine lv_iinc (v := v39) (lv' := [(5, .int v39), (4, .int v38), (3, .int v37), (0, .ref a0), (1, .int p), (2, .int w), (6, .int v33), (7, .int v34)]) hx hb dX12_keyAt_113 hl (k := 5) rfl (by rw [ev39]; rfl) (by decide) rfl (fun ls hl => ?_)
                    refine lv_goto (tgt := 8) hx hb dX12_keyAt_116 (by decide) ?_
                    exact ih8 _ v37 v38 v39 (lv_sub hl [3, 4, 5, 2, 1, 0] rfl) (by omega) (by omega) (by omega) (by omega) (by omega) (by omega)
                  · have ic36 := (xi_ne c36 rfl (by decide) : v33.toInt ≠ 0)
                    refine lv_iload_n hx hb dX12_keyAt_102 rfl (lv_at hl 3 rfl) ?_
                    exact W.iret (v := v1) hx hb hr (fun t ht hW => ⟨v1, rfl, ⟨(by omega), (by omega)⟩, ht⟩) (fun _ h => by cases h) dX12_keyAt_103
                · have ic35 := (xi_nle c35 h_w rfl : v34.toInt < w_t)
                  refine lv_iload hx hb dX12_keyAt_58 (lv_at hl 6 rfl) ?_
                  refine lv_if_eq (tgt := 97) hx hb dX12_keyAt_60 (by decide) (fun c40 => ?_) (fun c40 => ?_)
                  · have ic40 := (xi_eq c40 rfl (by decide) : v33.toInt = 0)
                    refine lv_iload hx hb dX12_keyAt_97 (lv_at hl 6 rfl) ?_
                    refine lv_if_eq (tgt := 104) hx hb dX12_keyAt_99 (by decide) (fun c41 => ?_) (fun h => absurd (xi_ne h rfl (by decide) : v33.toInt ≠ 0) (by omega))
                    have ic41 := (xi_eq c41 rfl (by decide) : v33.toInt = 0)
                    obtain ⟨v42, ev42⟩ : ∃ z : Int32, z = v1 + 1 := ⟨_, rfl⟩
                    have jv42 : v42.toInt = v1.toInt + 1 := xi_add ev42 rfl (by decide) (by omega) (by omega)
                    refine lv_iinc (v := v42) (lv' := [(3, .int v42), (0, .ref a0), (1, .int p), (2, .int w), (4, .int v2), (5, .int v3), (6, .int v33), (7, .int v34)]) hx hb dX12_keyAt_104 hl (k := 3) rfl (by rw [ev42]; rfl) (by decide) rfl (fun ls hl => ?_)
                    refine lv_iload hx hb dX12_keyAt_107 (lv_at hl 5 rfl) ?_
                    refine lv_iconst (v := 1) hx hb dX12_keyAt_109 (by decide) ?_
                    refine lv_iadd hx hb dX12_keyAt_110 ?_
                    refine lv_topi (fun v43 ev43 => ?_)
                    have jv43 : v43.toInt = v3.toInt + 1 := xi_add ev43 rfl (by decide) (by omega) (by omega)
                    refine lv_istore (lv' := [(4, .int v43), (3, .int v42), (0, .ref a0), (1, .int p), (2, .int w), (5, .int v3), (6, .int v33), (7, .int v34)]) hx hb dX12_keyAt_111 hl (by decide) rfl (fun ls hl => ?_)
                    obtain ⟨v44, ev44⟩ : ∃ z : Int32, z = v3 + 1 := ⟨_, rfl⟩
                    have jv44 : v44.toInt = v3.toInt + 1 := xi_add ev44 rfl (by decide) (by omega) (by omega)
                    refine lv_iinc (v := v44) (lv' := [(5, .int v44), (4, .int v43), (3, .int v42), (0, .ref a0), (1, .int p), (2, .int w), (6, .int v33), (7, .int v34)]) hx hb dX12_keyAt_113 hl (k := 5) rfl (by rw [ev44]; rfl) (by decide) rfl (fun ls hl => ?_)
                    refine lv_goto (tgt := 8) hx hb dX12_keyAt_116 (by decide) ?_
                    exact ih8 _ v42 v43 v44 (lv_sub hl [3, 4, 5, 2, 1, 0] rfl) (by omega) (by omega) (by omega) (by omega) (by omega) (by omega)
                  · have ic40 := (xi_ne c40 rfl (by decide) : v33.toInt ≠ 0)
                    refine va_ldcS (tx := "cap roster years spare match hurt tax lots ") (q := X.adK 9) hx hb hown (hk.1 9 (RX12, 125, "cap roster years spare match hurt tax lots ") h_str_9) dX12_keyAt_63 ?_
                    refine lv_iload hx hb dX12_keyAt_65 (lv_at hl 4 rfl) ?_
                    refine lv_iload hx hb dX12_keyAt_67 (lv_at hl 7 rfl) ?_
                    refine lv_iadd hx hb dX12_keyAt_69 ?_
                    refine lv_topi (fun v45 ev45 => ?_)
                    have jv45 : v45.toInt = v2.toInt + v34.toInt := xi_add ev45 rfl rfl (by omega) (by omega)
                    refine vp_callSi (W.runV (As := [.int v45]) (rest := []) ⟨hx, hb, hml, hown, hts⟩ (tJ0_charAt_5068e l E X A z I0 L0 9 (by decide) v45 (v45.toInt) rfl (by omega) (by omega)) (cwV 1 hts gX12_keyAt_J0_charAt_5068e rfl rfl rfl (by decide +kernel) ⟨Nat.le_of_ble_eq_true rfl, Nat.le_of_ble_eq_true rfl⟩) ⟨h_blind _ _ _ _ _ _ _, vk_recv hX.2.2.2.2.2 (by decide) g.2.1, h_pre _ hE hk hX hA hI hR g⟩ rfl rfl hl.1 rfl (lv_room (Nat.le_of_ble_eq_true rfl)) dX12_keyAt_70 ⟨Nat.le_of_ble_eq_true rfl, Nat.le_of_ble_eq_true rfl⟩) (fun rh46 h46 => ?_)
                    refine lv_aload_n hx hb dX12_keyAt_73 rfl (lv_at hl 0 rfl) ?_
                    refine lv_iload_n hx hb dX12_keyAt_74 rfl (lv_at hl 1 rfl) ?_
                    refine lv_iload hx hb dX12_keyAt_75 (lv_at hl 7 rfl) ?_
                    refine lv_iadd hx hb dX12_keyAt_77 ?_
                    refine lv_topi (fun v47 ev47 => ?_)
                    have jv47 : v47.toInt = p_t + v34.toInt := xi_add ev47 h_p rfl (by omega) (by omega)
                    refine vp_callSi (W.runV (As := [.int v47]) (rest := [.int rh46]) ⟨hx, hb, hml, hown, hts⟩ (tX12_see l E X A z I0 L0 a0 t_a0 v47 (v47.toInt) rfl (by omega)) (cwV 1 hts gX12_keyAt_X12_see rfl rfl rfl (by decide +kernel) ⟨Nat.le_of_ble_eq_true rfl, Nat.le_of_ble_eq_true rfl⟩) ⟨h_blind _ _ _ _ _ _ _, h_recv g t_a0 (by decide) so_13 (q := (RX12, TX12, 51)) rfl, h_pre _ hE hk hX hA hI hR g⟩ rfl rfl hl.1 rfl (lv_room (Nat.le_of_ble_eq_true rfl)) dX12_keyAt_78 ⟨Nat.le_of_ble_eq_true rfl, Nat.le_of_ble_eq_true rfl⟩) (fun rh48 h48 => ?_)
                    obtain ⟨h48, h48p0⟩ := h48
                    refine lv_icmp_ne (tgt := 88) hx hb dX12_keyAt_81 (by decide) (fun c49 => ?_) (fun c49 => ?_)
                    · have ic49 := (xi_ne c49 rfl rfl : rh46.toInt ≠ rh48.toInt)
                      refine lv_iconst (v := 0) hx hb dX12_keyAt_88 (by decide) ?_
                      refine lv_istore (lv' := [(6, .int 0), (0, .ref a0), (1, .int p), (2, .int w), (3, .int v1), (4, .int v2), (5, .int v3), (7, .int v34)]) hx hb dX12_keyAt_89 hl (by decide) rfl (fun ls hl => ?_)
                      obtain ⟨v50, ev50⟩ : ∃ z : Int32, z = v34 + 1 := ⟨_, rfl⟩
                      have jv50 : v50.toInt = v34.toInt + 1 := xi_add ev50 rfl (by decide) (by omega) (by omega)
                      refine lv_iinc (v := v50) (lv' := [(7, .int v50), (6, .int 0), (0, .ref a0), (1, .int p), (2, .int w), (3, .int v1), (4, .int v2), (5, .int v3)]) hx hb dX12_keyAt_91 hl (k := 7) rfl (by rw [ev50]; rfl) (by decide) rfl (fun ls hl => ?_)
                      refine lv_goto (tgt := 52) hx hb dX12_keyAt_94 (by decide) ?_
                      have kc51 : (0 : Int32).toInt = 0 := by decide
                      exact ih52 _ (0) v50 (lv_sub hl [2, 3, 4, 5, 6, 7, 1, 0] rfl) ⟨by decide, by decide⟩ (by omega) (by omega) (by omega)
                    · have ic49 := (xi_eq c49 rfl rfl : rh46.toInt = rh48.toInt)
                      refine lv_iconst (v := 1) hx hb dX12_keyAt_84 (by decide) ?_
                      refine lv_goto (tgt := 89) hx hb dX12_keyAt_85 (by decide) ?_
                      refine lv_istore (lv' := [(6, .int 1), (0, .ref a0), (1, .int p), (2, .int w), (3, .int v1), (4, .int v2), (5, .int v3), (7, .int v34)]) hx hb dX12_keyAt_89 hl (by decide) rfl (fun ls hl => ?_)
                      obtain ⟨v52, ev52⟩ : ∃ z : Int32, z = v34 + 1 := ⟨_, rfl⟩
                      have jv52 : v52.toInt = v34.toInt + 1 := xi_add ev52 rfl (by decide) (by omega) (by omega)
                      refine lv_iinc (v := v52) (lv' := [(7, .int v52), (6, .int 1), (0, .ref a0), (1, .int p), (2, .int w), (3, .int v1), (4, .int v2), (5, .int v3)]) hx hb dX12_keyAt_91 hl (k := 7) rfl (by rw [ev52]; rfl) (by decide) rfl (fun ls hl => ?_)
                      refine lv_goto (tgt := 52) hx hb dX12_keyAt_94 (by decide) ?_
                      have kc53 : (1 : Int32).toInt = 1 := by decide
                      exact ih52 _ (1) v52 (lv_sub hl [2, 3, 4, 5, 6, 7, 1, 0] rfl) ⟨by decide, by decide⟩ (by omega) (by omega) (by omega)
            have kc54 : (1 : Int32).toInt = 1 := by decide
            have kc55 : (0 : Int32).toInt = 0 := by decide
            exact loop52_2 _ _ (1) (0) (lv_sub hl [2, 3, 4, 5, 6, 7, 1, 0] rfl) ⟨by decide, by decide⟩ ⟨by decide, by decide⟩ (by omega) (show (501 - (0 : Int)) < (((501 - (0 : Int)).toNat + 1 : Nat) : Int) by omega)
        · have ic7 := (xi_ne c7 rfl (by decide) : rh6.toInt ≠ 32)
          refine lv_goto (tgt := 113) hx hb dX12_keyAt_30 (by decide) ?_
          obtain ⟨v56, ev56⟩ : ∃ z : Int32, z = v3 + 1 := ⟨_, rfl⟩
          have jv56 : v56.toInt = v3.toInt + 1 := xi_add ev56 rfl (by decide) (by omega) (by omega)
          refine lv_iinc (v := v56) (lv' := [(5, .int v56), (0, .ref a0), (1, .int p), (2, .int w), (3, .int v1), (4, .int v2)]) hx hb dX12_keyAt_113 hl (k := 5) rfl (by rw [ev56]; rfl) (by decide) rfl (fun ls hl => ?_)
          refine lv_goto (tgt := 8) hx hb dX12_keyAt_116 (by decide) ?_
          exact ih8 _ v1 v2 v56 (lv_sub hl [1, 2, 3, 4, 5, 0] rfl) (by omega) (by omega) (by omega) (by omega) (by omega) (by omega)
  have kc57 : (0 : Int32).toInt = 0 := by decide
  have kc58 : (0 : Int32).toInt = 0 := by decide
  have kc59 : (0 : Int32).toInt = 0 := by decide
  exact loop8_0 _ _ (0) (0) (0) (lv_sub hl [3, 4, 5, 2, 1, 0] rfl) ⟨by decide, by decide⟩ ⟨by decide, by decide⟩ ⟨by decide, by decide⟩ (by omega) (by omega) (show (43 - (0 : Int)) < (((43 - (0 : Int)).toNat + 1 : Nat) : Int) by omega)
set_option maxHeartbeats 4000000 in
set_option maxRecDepth 100000 in
theorem tX12_scan (l : Launch) (E : tE) (X : tX) (A : Nat → Prop) (z : tZ) (I0 : tI) (L0 : tL) (a0 : Nat) (t_a0 : z.ty a0 = 13) : Met l yX12_scan wsX12_scan ({ frames := 6, cells := 0, slots := 0, locals := 384 }) (va_Pc [.ref a0] (h_P E X A z I0 L0)) (va_Qv (fun (I1 : tI) => h_I z I1 ∧ h_F [(13, 5), (13, 3), (13, 4), (13, 7), (13, 6)] z I0 I1 ∧ ((I1 a0 3).toInt = 1 → 0 ≤ (I1 a0 4).toInt) ∧ ((I0 a0 6).toInt ≤ (I1 a0 6).toInt) ∧ ((I1 a0 3).toInt = 4 ∨ (I0 a0 6).toInt < (I1 a0 6).toInt)) (fun (I1 : tI) t => h_B E A z I1 L0 t) A) 0 0 A := by
  refine Met.ofW (cc := cX12_scan) (maxL := 4) (ret := none) (by decide) rfl ?_
  intro pr_ ev_ s m args below meth cd_ s₁ B hml hv
  obtain ⟨rfl, hE, hk, hX, hA, hK, hI, hR, hB0⟩ := hv
  have g : h_G h_so h_fk E A z I0 L0 s s.heap s.heap [] := ⟨hK, va_S.rf, hB0⟩
  have hF : h_F [(13, 5), (13, 3), (13, 4), (13, 7), (13, 6)] z I0 I0 := h_F.rf
  have hx := B.exec
  have hb := B.bytes
  have hr := B.returns
  have hts := atoms_spec (ws := wsX12_scan) B.pre
  have hown : s.vm.findClass RX12 = some m.cls := findClass_of_methodNamed B.named
  have hlocks := B.notSynchronized
  have iX12 : ∀ w ∈ u_ws RX12 TX12 51, w ∈ wsX12_scan := by decide +kernel
  have hl := lv_entry ([.ref a0]) (n := 4) (Nat.le_of_ble_eq_true rfl)
  rw [lg_entry_eq]
  generalize (lg_sl ([.ref a0]) ++ List.replicate (4 - (lg_sl ([.ref a0])).length) Slot.unset).toArray = ls at hl ⊢
  have hl : lv_has ls 4 [(0, .ref a0)] := hl
  obtain ⟨f0_6, ef0_6⟩ : ∃ v : Int32, v = I0 a0 6 := ⟨_, rfl⟩
  have qf0_6 : (I0 a0 6).toInt = f0_6.toInt := congrArg Int32.toInt ef0_6.symm
  have jf0_6 := hI.rd a0 6 t_a0 ef0_6 (rfl : h_bd 13 6 = (0, 500))
  refine lv_aload_n hx hb dX12_scan_0 rfl (lv_at hl 0 rfl) ?_
  refine h_get (v := .int f0_6) hx hb hts iX12 hown g t_a0 (by decide) so_13 rfl 6 (by decide) (hts (.fieldLink RX12 140 "CapLeagueModel" "end" "I") (by decide +kernel)) rfl dX12_scan_1 (congrArg Value.int (ef0_6.symm)) ?_
  refine lv_istore_n (lv' := [(1, .int f0_6), (0, .ref a0)]) hx hb dX12_scan_4 rfl hl (by decide) rfl (fun ls hl => ?_)
  have loop5_0 : ∀ (n : Nat) (I2 : tI) (H : Heap) (locs : List Loc) (ls : Array Slot) (v1 : Int32), h_G h_so h_fk E A z I2 L0 s s.heap H locs → h_I z I2 → h_F [(13, 5), (13, 3), (13, 4), (13, 7), (13, 6)] z I0 I2 → lv_has ls 4 [(0, .ref a0), (1, .int v1)] → (0 ≤ v1.toInt ∧ v1.toInt ≤ 500) → ((I0 a0 6).toInt ≤ v1.toInt) → (501 - v1.toInt) < (n : Int) → W pr_ l ev_ (headSpec wsX12_scan ({ frames := 6, cells := 0, slots := 0, locals := 384 })).room s m ([.ref a0] : List Value).toArray below meth cd_ H locs 0 0 (MQ below (va_Qv (fun (I1 : tI) => h_I z I1 ∧ h_F [(13, 5), (13, 3), (13, 4), (13, 7), (13, 6)] z I0 I1 ∧ ((I1 a0 3).toInt = 1 → 0 ≤ (I1 a0 4).toInt) ∧ ((I0 a0 6).toInt ≤ (I1 a0 6).toInt) ∧ ((I1 a0 3).toInt = 4 ∨ (I0 a0 6).toInt < (I1 a0 6).toInt)) (fun (I1 : tI) t => h_B E A z I1 L0 t) A) ([.ref a0] : List Value).toArray s 0 0 A) (F0 m 5 ls []) := by
    intro n
    induction n with
    | zero => intro I2 H locs ls v1 g hI hF hl jv1 hx5_0 hn; exact absurd hn (by omega)
    | succ n ih5 =>
      intro I2 H locs ls v1 g hI hF hl jv1 hx5_0 hn
      refine lv_aload_n hx hb dX12_scan_5 rfl (lv_at hl 0 rfl) ?_
      refine lv_iload_n hx hb dX12_scan_6 rfl (lv_at hl 1 rfl) ?_
      refine vp_callSi (W.runV (As := [.int v1]) (rest := []) ⟨hx, hb, hml, hown, hts⟩ (tX12_see l E X A z I2 L0 a0 t_a0 v1 (v1.toInt) rfl (by omega)) (cwV 1 hts gX12_scan_X12_see rfl rfl rfl (by decide +kernel) ⟨Nat.le_of_ble_eq_true rfl, Nat.le_of_ble_eq_true rfl⟩) ⟨h_blind _ _ _ _ _ _ _, h_recv g t_a0 (by decide) so_13 (q := (RX12, TX12, 51)) rfl, h_pre _ hE hk hX hA hI hR g⟩ rfl rfl hl.1 rfl (lv_room (Nat.le_of_ble_eq_true rfl)) dX12_scan_7 ⟨Nat.le_of_ble_eq_true rfl, Nat.le_of_ble_eq_true rfl⟩) (fun rh3 h3 => ?_)
      obtain ⟨h3, h3p0⟩ := h3
      refine lv_bipush (v := 32) hx hb dX12_scan_10 (by decide) ?_
      refine lv_icmp_eq (tgt := 25) hx hb dX12_scan_12 (by decide) (fun c4 => ?_) (fun c4 => ?_)
      · have ic4 := (xi_eq c4 rfl (by decide) : rh3.toInt = 32)
        obtain ⟨v5, ev5⟩ : ∃ z : Int32, z = v1 + 1 := ⟨_, rfl⟩
        have jv5 : v5.toInt = v1.toInt + 1 := xi_add ev5 rfl (by decide) (by omega) (by omega)
        refine lv_iinc (v := v5) (lv' := [(1, .int v5), (0, .ref a0)]) hx hb dX12_scan_25 hl (k := 1) rfl (by rw [ev5]; rfl) (by decide) rfl (fun ls hl => ?_)
        refine lv_goto (tgt := 5) hx hb dX12_scan_28 (by decide) ?_
        exact ih5 I2 _ _ _ v5 g hI hF (lv_sub hl [1, 0] rfl) (by omega) (by omega) (by omega)
      · have ic4 := (xi_ne c4 rfl (by decide) : rh3.toInt ≠ 32)
        refine lv_aload_n hx hb dX12_scan_15 rfl (lv_at hl 0 rfl) ?_
        refine lv_iload_n hx hb dX12_scan_16 rfl (lv_at hl 1 rfl) ?_
        refine vp_callSi (W.runV (As := [.int v1]) (rest := []) ⟨hx, hb, hml, hown, hts⟩ (tX12_see l E X A z I2 L0 a0 t_a0 v1 (v1.toInt) rfl (by omega)) (cwV 1 hts gX12_scan_X12_see rfl rfl rfl (by decide +kernel) ⟨Nat.le_of_ble_eq_true rfl, Nat.le_of_ble_eq_true rfl⟩) ⟨h_blind _ _ _ _ _ _ _, h_recv g t_a0 (by decide) so_13 (q := (RX12, TX12, 51)) rfl, h_pre _ hE hk hX hA hI hR g⟩ rfl rfl hl.1 rfl (lv_room (Nat.le_of_ble_eq_true rfl)) dX12_scan_17 ⟨Nat.le_of_ble_eq_true rfl, Nat.le_of_ble_eq_true rfl⟩) (fun rh6 h6 => ?_)
        obtain ⟨h6, h6p0⟩ := h6
        refine lv_bipush (v := 10) hx hb dX12_scan_20 (by decide) ?_
        refine lv_icmp_ne (tgt := 31) hx hb dX12_scan_22 (by decide) (fun c7 => ?_) (fun c7 => ?_)
        · have ic7 := (xi_ne c7 rfl (by decide) : rh6.toInt ≠ 10)
          refine lv_aload_n hx hb dX12_scan_31 rfl (lv_at hl 0 rfl) ?_
          refine lv_iload_n hx hb dX12_scan_32 rfl (lv_at hl 1 rfl) ?_
          refine h_putI (ty := .int) (v := v1) hx hb hts iX12 tyX12 tyX12_ok nmX12 hown g t_a0 (by decide) so_13 rfl 5 (by decide) rfl (hts (.fieldLink RX12 143 "CapLeagueModel" "at" "I") (by decide +kernel)) rfl rfl (by decide +kernel) rfl rfl dX12_scan_33 (fun I8 H locs eI8 g => ?_)
          have hI := hI.wr eI8 t_a0 (rfl : h_bd 13 5 = ((-2147483648), 2147483647)) (xi_lo _) (Int.le_of_lt_add_one (xi_hi _))
          have hF := hF.wr eI8 t_a0 rfl
          refine lv_aload_n hx hb dX12_scan_36 rfl (lv_at hl 0 rfl) ?_
          refine lv_iload_n hx hb dX12_scan_37 rfl (lv_at hl 1 rfl) ?_
          refine vp_callSi (W.runV (As := [.int v1]) (rest := []) ⟨hx, hb, hml, hown, hts⟩ (tX12_see l E X A z I8 L0 a0 t_a0 v1 (v1.toInt) rfl (by omega)) (cwV 1 hts gX12_scan_X12_see rfl rfl rfl (by decide +kernel) ⟨Nat.le_of_ble_eq_true rfl, Nat.le_of_ble_eq_true rfl⟩) ⟨h_blind _ _ _ _ _ _ _, h_recv g t_a0 (by decide) so_13 (q := (RX12, TX12, 51)) rfl, h_pre _ hE hk hX hA hI hR g⟩ rfl rfl hl.1 rfl (lv_room (Nat.le_of_ble_eq_true rfl)) dX12_scan_38 ⟨Nat.le_of_ble_eq_true rfl, Nat.le_of_ble_eq_true rfl⟩) (fun rh9 h9 => ?_)
          obtain ⟨h9, h9p0⟩ := h9
          refine lv_istore_n (lv' := [(2, .int rh9), (0, .ref a0), (1, .int v1)]) hx hb dX12_scan_41 rfl hl (by decide) rfl (fun ls hl => ?_)
          refine lv_iload_n hx hb dX12_scan_42 rfl (lv_at hl 2 rfl) ?_
          refine lv_iconst (v := 1) hx hb dX12_scan_43 (by decide) ?_
          refine lv_iadd hx hb dX12_scan_44 ?_
          refine lv_topi (fun v10 ev10 => ?_)
          have jv10 : v10.toInt = v1.toInt + 1 := xi_add ev10 rfl (by decide) (by omega) (by omega)
          refine lv_istore_n (lv' := [(3, .int v10), (2, .int rh9), (0, .ref a0), (1, .int v1)]) hx hb dX12_scan_45 rfl hl (by decide) rfl (fun ls hl => ?_)
          refine lv_iload_n hx hb dX12_scan_46 rfl (lv_at hl 1 rfl) ?_
          refine lv_iconst (v := (-1)) hx hb dX12_scan_47 (by decide) ?_
          refine lv_icmp_ne (tgt := 61) hx hb dX12_scan_48 (by decide) (fun c11 => ?_) (fun c11 => ?_)
          · have ic11 := (xi_ne c11 rfl (by decide) : rh9.toInt ≠ (-1))
            refine lv_iload_n hx hb dX12_scan_61 rfl (lv_at hl 1 rfl) ?_
            refine vp_callSi (W.runS (As := [.int rh9]) (rest := []) ⟨hx, hb, hml, hown, hts⟩ (tX12_isSmall l E X A z I8 L0 rh9 (rh9.toInt) rfl) (va_cwS 1 hts gX12_scan_X12_isSmall rfl rfl rfl (by decide +kernel) ⟨Nat.le_of_ble_eq_true rfl, Nat.le_of_ble_eq_true rfl⟩) ⟨h_blind _ _ _ _ _ _ _, h_pre _ hE hk hX hA hI hR g⟩ rfl rfl hl.1 rfl (lv_room (Nat.le_of_ble_eq_true rfl)) dX12_scan_62 ⟨Nat.le_of_ble_eq_true rfl, Nat.le_of_ble_eq_true rfl⟩) (fun rh12 h12 => ?_)
            rcases h12 with ⟨rfl, h12⟩ | ⟨rfl, h12⟩
            · skip
              refine lv_if_eq (tgt := 117) hx hb dX12_scan_65 (by decide) (fun _ => ?_) (fun h => absurd (by decide) h)
              refine lv_iload_n hx hb dX12_scan_117 rfl (lv_at hl 1 rfl) ?_
              refine vp_callSi (W.runS (As := [.int rh9]) (rest := []) ⟨hx, hb, hml, hown, hts⟩ (tX12_isDigit l E X A z I8 L0 rh9 (rh9.toInt) rfl) (va_cwS 1 hts gX12_scan_X12_isDigit rfl rfl rfl (by decide +kernel) ⟨Nat.le_of_ble_eq_true rfl, Nat.le_of_ble_eq_true rfl⟩) ⟨h_blind _ _ _ _ _ _ _, h_pre _ hE hk hX hA hI hR g⟩ rfl rfl hl.1 rfl (lv_room (Nat.le_of_ble_eq_true rfl)) dX12_scan_118 ⟨Nat.le_of_ble_eq_true rfl, Nat.le_of_ble_eq_true rfl⟩) (fun rh14 h14 => ?_)
              rcases h14 with ⟨rfl, h14⟩ | ⟨rfl, h14⟩
              · skip
                refine lv_if_eq (tgt := 202) hx hb dX12_scan_121 (by decide) (fun _ => ?_) (fun h => absurd (by decide) h)
                refine lv_aload_n hx hb dX12_scan_202 rfl (lv_at hl 2 rfl) ?_
                refine lv_iload_n hx hb dX12_scan_203 rfl (lv_at hl 1 rfl) ?_
                refine lv_bipush (v := 59) hx hb dX12_scan_204 (by decide) ?_
                refine lv_icmp_ne (tgt := 213) hx hb dX12_scan_206 (by decide) (fun c16 => ?_) (fun c16 => ?_)
                · have ic16 := (xi_ne c16 rfl (by decide) : rh9.toInt ≠ 59)
                  refine lv_iconst (v := 0) hx hb dX12_scan_213 (by decide) ?_
                  refine h_putI (ty := .int) (v := 0) hx hb hts iX12 tyX12 tyX12_ok nmX12 hown g t_a0 (by decide) so_13 rfl 3 (by decide) rfl (hts (.fieldLink RX12 146 "CapLeagueModel" "sort" "I") (by decide +kernel)) rfl rfl (by decide +kernel) rfl rfl dX12_scan_214 (fun I17 H locs eI17 g => ?_)
                  have hI := hI.wr eI17 t_a0 (rfl : h_bd 13 3 = ((-2147483648), 2147483647)) (by decide) (by decide)
                  have hF := hF.wr eI17 t_a0 rfl
                  refine lv_aload_n hx hb dX12_scan_217 rfl (lv_at hl 2 rfl) ?_
                  refine lv_iload_n hx hb dX12_scan_218 rfl (lv_at hl 0 rfl) ?_
                  refine h_putI (ty := .int) (v := v10) hx hb hts iX12 tyX12 tyX12_ok nmX12 hown g t_a0 (by decide) so_13 rfl 6 (by decide) rfl (hts (.fieldLink RX12 140 "CapLeagueModel" "end" "I") (by decide +kernel)) rfl rfl (by decide +kernel) rfl rfl dX12_scan_219 (fun I18 H locs eI18 g => ?_)
                  have hI := hI.wr eI18 t_a0 (rfl : h_bd 13 6 = (0, 500)) (by omega) (by omega)
                  have hF := hF.wr eI18 t_a0 rfl
                  have hS := g.2.1
                  exact W.vret hx hb hr (fun t ht hW => ⟨⟨I18, rfl, ⟨hI, hF, ⟨(by have q1_3 : (I18 a0 3).toInt = 0 := (congrArg Int32.toInt ((h_n2 eI18 (by decide)).trans (h_n0 eI17))).trans (by decide); omega), (by have q1_6 : (I18 a0 6).toInt = v10.toInt := (congrArg Int32.toInt (h_n0 eI18)).trans rfl; omega), (by have q1_3 : (I18 a0 3).toInt = 0 := (congrArg Int32.toInt ((h_n2 eI18 (by decide)).trans (h_n0 eI17))).trans (by decide); have q1_6 : (I18 a0 6).toInt = v10.toInt := (congrArg Int32.toInt (h_n0 eI18)).trans rfl; omega)⟩⟩, h_ret g ht⟩, hS.F ht⟩) hS.2.2 dX12_scan_222
                · have ic16 := (xi_eq c16 rfl (by decide) : rh9.toInt = 59)
                  refine lv_iconst (v := 3) hx hb dX12_scan_209 (by decide) ?_
                  refine lv_goto (tgt := 214) hx hb dX12_scan_210 (by decide) ?_
                  refine h_putI (ty := .int) (v := 3) hx hb hts iX12 tyX12 tyX12_ok nmX12 hown g t_a0 (by decide) so_13 rfl 3 (by decide) rfl (hts (.fieldLink RX12 146 "CapLeagueModel" "sort" "I") (by decide +kernel)) rfl rfl (by decide +kernel) rfl rfl dX12_scan_214 (fun I19 H locs eI19 g => ?_)
                  have hI := hI.wr eI19 t_a0 (rfl : h_bd 13 3 = ((-2147483648), 2147483647)) (by decide) (by decide)
                  have hF := hF.wr eI19 t_a0 rfl
                  refine lv_aload_n hx hb dX12_scan_217 rfl (lv_at hl 2 rfl) ?_
                  refine lv_iload_n hx hb dX12_scan_218 rfl (lv_at hl 0 rfl) ?_
                  refine h_putI (ty := .int) (v := v10) hx hb hts iX12 tyX12 tyX12_ok nmX12 hown g t_a0 (by decide) so_13 rfl 6 (by decide) rfl (hts (.fieldLink RX12 140 "CapLeagueModel" "end" "I") (by decide +kernel)) rfl rfl (by decide +kernel) rfl rfl dX12_scan_219 (fun I20 H locs eI20 g => ?_)
                  have hI := hI.wr eI20 t_a0 (rfl : h_bd 13 6 = (0, 500)) (by omega) (by omega)
                  have hF := hF.wr eI20 t_a0 rfl
                  have hS := g.2.1
                  exact W.vret hx hb hr (fun t ht hW => ⟨⟨I20, rfl, ⟨hI, hF, ⟨(by have q1_3 : (I20 a0 3).toInt = 3 := (congrArg Int32.toInt ((h_n2 eI20 (by decide)).trans (h_n0 eI19))).trans (by decide); omega), (by have q1_6 : (I20 a0 6).toInt = v10.toInt := (congrArg Int32.toInt (h_n0 eI20)).trans rfl; omega), (by have q1_3 : (I20 a0 3).toInt = 3 := (congrArg Int32.toInt ((h_n2 eI20 (by decide)).trans (h_n0 eI19))).trans (by decide); have q1_6 : (I20 a0 6).toInt = v10.toInt := (congrArg Int32.toInt (h_n0 eI20)).trans rfl; omega)⟩⟩, h_ret g ht⟩, hS.F ht⟩) hS.2.2 dX12_scan_222
              · skip
                refine lv_if_eq (tgt := 202) hx hb dX12_scan_121 (by decide) (fun h => absurd h (by decide)) (fun _ => ?_)
                refine lv_aload_n hx hb dX12_scan_124 rfl (lv_at hl 2 rfl) ?_
                refine lv_iload_n hx hb dX12_scan_125 rfl (lv_at hl 1 rfl) ?_
                refine lv_bipush (v := 48) hx hb dX12_scan_126 (by decide) ?_
                refine lv_isub hx hb dX12_scan_128 ?_
                refine lv_topi (fun v22 ev22 => ?_)
                have jv22 : v22.toInt = rh9.toInt - 48 := xi_sub ev22 rfl (by decide) (by omega) (by omega)
                refine h_putI (ty := .int) (v := v22) hx hb hts iX12 tyX12 tyX12_ok nmX12 hown g t_a0 (by decide) so_13 rfl 7 (by decide) rfl (hts (.fieldLink RX12 163 "CapLeagueModel" "worth" "I") (by decide +kernel)) rfl rfl (by decide +kernel) rfl rfl dX12_scan_129 (fun I23 H locs eI23 g => ?_)
                have hI := hI.wr eI23 t_a0 (rfl : h_bd 13 7 = ((-2147483648), 2147483647)) (xi_lo _) (Int.le_of_lt_add_one (xi_hi _))
                have hF := hF.wr eI23 t_a0 rfl
                have loop132_1 : ∀ (n : Nat) (I25 : tI) (H : Heap) (locs : List Loc) (ls : Array Slot) (v24 : Int32), h_G h_so h_fk E A z I25 L0 s s.heap H locs → h_I z I25 → h_F [(13, 5), (13, 3), (13, 4), (13, 7), (13, 6)] z I0 I25 → lv_has ls 4 [(0, .ref a0), (1, .int v1), (3, .int v24)] → (1 ≤ v24.toInt ∧ v24.toInt ≤ 500) → h_F [(13, 7)] z I23 I25 → (v1.toInt < v24.toInt) → (502 - v24.toInt) < (n : Int) → W pr_ l ev_ (headSpec wsX12_scan ({ frames := 6, cells := 0, slots := 0, locals := 384 })).room s m ([.ref a0] : List Value).toArray below meth cd_ H locs 0 0 (MQ below (va_Qv (fun (I1 : tI) => h_I z I1 ∧ h_F [(13, 5), (13, 3), (13, 4), (13, 7), (13, 6)] z I0 I1 ∧ ((I1 a0 3).toInt = 1 → 0 ≤ (I1 a0 4).toInt) ∧ ((I0 a0 6).toInt ≤ (I1 a0 6).toInt) ∧ ((I1 a0 3).toInt = 4 ∨ (I0 a0 6).toInt < (I1 a0 6).toInt)) (fun (I1 : tI) t => h_B E A z I1 L0 t) A) ([.ref a0] : List Value).toArray s 0 0 A) (F0 m 132 ls []) := by
                  intro n
                  induction n with
                  | zero => intro I25 H locs ls v24 g hI hF hl jv24 hL132 hx132_0 hn; exact absurd hn (by omega)
                  | succ n ih132 =>
                    intro I25 H locs ls v24 g hI hF hl jv24 hL132 hx132_0 hn
                    refine lv_aload_n hx hb dX12_scan_132 rfl (lv_at hl 0 rfl) ?_
                    refine lv_iload_n hx hb dX12_scan_133 rfl (lv_at hl 2 rfl) ?_
                    refine vp_callSi (W.runV (As := [.int v24]) (rest := []) ⟨hx, hb, hml, hown, hts⟩ (tX12_see l E X A z I25 L0 a0 t_a0 v24 (v24.toInt) rfl (by omega)) (cwV 1 hts gX12_scan_X12_see rfl rfl rfl (by decide +kernel) ⟨Nat.le_of_ble_eq_true rfl, Nat.le_of_ble_eq_true rfl⟩) ⟨h_blind _ _ _ _ _ _ _, h_recv g t_a0 (by decide) so_13 (q := (RX12, TX12, 51)) rfl, h_pre _ hE hk hX hA hI hR g⟩ rfl rfl hl.1 rfl (lv_room (Nat.le_of_ble_eq_true rfl)) dX12_scan_134 ⟨Nat.le_of_ble_eq_true rfl, Nat.le_of_ble_eq_true rfl⟩) (fun rh26 h26 => ?_)
                    obtain ⟨h26, h26p0⟩ := h26
                    refine vp_callSi (W.runS (As := [.int rh26]) (rest := []) ⟨hx, hb, hml, hown, hts⟩ (tX12_isDigit l E X A z I25 L0 rh26 (rh26.toInt) rfl) (va_cwS 1 hts gX12_scan_X12_isDigit rfl rfl rfl (by decide +kernel) ⟨Nat.le_of_ble_eq_true rfl, Nat.le_of_ble_eq_true rfl⟩) ⟨h_blind _ _ _ _ _ _ _, h_pre _ hE hk hX hA hI hR g⟩ rfl rfl hl.1 rfl (lv_room (Nat.le_of_ble_eq_true rfl)) dX12_scan_137 ⟨Nat.le_of_ble_eq_true rfl, Nat.le_of_ble_eq_true rfl⟩) (fun rh27 h27 => ?_)
                    rcases h27 with ⟨rfl, h27⟩ | ⟨rfl, h27⟩
                    · skip
                      refine lv_if_eq (tgt := 183) hx hb dX12_scan_140 (by decide) (fun _ => ?_) (fun h => absurd (by decide) h)
                      refine lv_aload_n hx hb dX12_scan_183 rfl (lv_at hl 0 rfl) ?_
                      refine lv_iload_n hx hb dX12_scan_184 rfl (lv_at hl 2 rfl) ?_
                      refine lv_iload_n hx hb dX12_scan_185 rfl (lv_at hl 1 rfl) ?_
                      refine lv_isub hx hb dX12_scan_186 ?_
                      refine lv_topi (fun v29 ev29 => ?_)
                      have jv29 : v29.toInt = v24.toInt - v1.toInt := xi_sub ev29 rfl rfl (by omega) (by omega)
                      refine lv_iconst (v := 5) hx hb dX12_scan_187 (by decide) ?_
                      refine lv_icmp_le (tgt := 195) hx hb dX12_scan_188 (by decide) (fun c30 => ?_) (fun c30 => ?_)
                      · have ic30 := (xi_le c30 rfl (by decide) : v29.toInt ≤ 5)
                        refine lv_iconst (v := 2) hx hb dX12_scan_195 (by decide) ?_
                        refine h_putI (ty := .int) (v := 2) hx hb hts iX12 tyX12 tyX12_ok nmX12 hown g t_a0 (by decide) so_13 rfl 3 (by decide) rfl (hts (.fieldLink RX12 146 "CapLeagueModel" "sort" "I") (by decide +kernel)) rfl rfl (by decide +kernel) rfl rfl dX12_scan_196 (fun I31 H locs eI31 g => ?_)
                        have hI := hI.wr eI31 t_a0 (rfl : h_bd 13 3 = ((-2147483648), 2147483647)) (by decide) (by decide)
                        have hF := hF.wr eI31 t_a0 rfl
                        refine lv_goto (tgt := 217) hx hb dX12_scan_199 (by decide) ?_
                        refine lv_aload_n hx hb dX12_scan_217 rfl (lv_at hl 0 rfl) ?_
                        refine lv_iload_n hx hb dX12_scan_218 rfl (lv_at hl 2 rfl) ?_
                        refine h_putI (ty := .int) (v := v24) hx hb hts iX12 tyX12 tyX12_ok nmX12 hown g t_a0 (by decide) so_13 rfl 6 (by decide) rfl (hts (.fieldLink RX12 140 "CapLeagueModel" "end" "I") (by decide +kernel)) rfl rfl (by decide +kernel) rfl rfl dX12_scan_219 (fun I32 H locs eI32 g => ?_)
                        have hI := hI.wr eI32 t_a0 (rfl : h_bd 13 6 = (0, 500)) (by omega) (by omega)
                        have hF := hF.wr eI32 t_a0 rfl
                        have hS := g.2.1
                        exact W.vret hx hb hr (fun t ht hW => ⟨⟨I32, rfl, ⟨hI, hF, ⟨(by have q1_3 : (I32 a0 3).toInt = 2 := (congrArg Int32.toInt ((h_n2 eI32 (by decide)).trans (h_n0 eI31))).trans (by decide); omega), (by have q1_6 : (I32 a0 6).toInt = v24.toInt := (congrArg Int32.toInt (h_n0 eI32)).trans rfl; omega), (by have q1_3 : (I32 a0 3).toInt = 2 := (congrArg Int32.toInt ((h_n2 eI32 (by decide)).trans (h_n0 eI31))).trans (by decide); have q1_6 : (I32 a0 6).toInt = v24.toInt := (congrArg Int32.toInt (h_n0 eI32)).trans rfl; omega)⟩⟩, h_ret g ht⟩, hS.F ht⟩) hS.2.2 dX12_scan_222
                      · have ic30 := (xi_nle c30 rfl (by decide) : 5 < v29.toInt)
                        refine lv_iconst (v := 0) hx hb dX12_scan_191 (by decide) ?_
                        refine lv_goto (tgt := 196) hx hb dX12_scan_192 (by decide) ?_
                        refine h_putI (ty := .int) (v := 0) hx hb hts iX12 tyX12 tyX12_ok nmX12 hown g t_a0 (by decide) so_13 rfl 3 (by decide) rfl (hts (.fieldLink RX12 146 "CapLeagueModel" "sort" "I") (by decide +kernel)) rfl rfl (by decide +kernel) rfl rfl dX12_scan_196 (fun I33 H locs eI33 g => ?_)
                        have hI := hI.wr eI33 t_a0 (rfl : h_bd 13 3 = ((-2147483648), 2147483647)) (by decide) (by decide)
                        have hF := hF.wr eI33 t_a0 rfl
                        refine lv_goto (tgt := 217) hx hb dX12_scan_199 (by decide) ?_
                        refine lv_aload_n hx hb dX12_scan_217 rfl (lv_at hl 0 rfl) ?_
                        refine lv_iload_n hx hb dX12_scan_218 rfl (lv_at hl 2 rfl) ?_
                        refine h_putI (ty := .int) (v := v24) hx hb hts iX12 tyX12 tyX12_ok nmX12 hown g t_a0 (by decide) so_13 rfl 6 (by decide) rfl (hts (.fieldLink RX12 140 "CapLeagueModel" "end" "I") (by decide +kernel)) rfl rfl (by decide +kernel) rfl rfl dX12_scan_219 (fun I34 H locs eI34 g => ?_)
                        have hI := hI.wr eI34 t_a0 (rfl : h_bd 13 6 = (0, 500)) (by omega) (by omega)
                        have hF := hF.wr eI34 t_a0 rfl
                        have hS := g.2.1
                        exact W.vret hx hb hr (fun t ht hW => ⟨⟨I34, rfl, ⟨hI, hF, ⟨(by have q1_3 : (I34 a0 3).toInt = 0 := (congrArg Int32.toInt ((h_n2 eI34 (by decide)).trans (h_n0 eI33))).trans (by decide); omega), (by have q1_6 : (I34 a0 6).toInt = v24.toInt := (congrArg Int32.toInt (h_n0 eI34)).trans rfl; omega), (by have q1_3 : (I34 a0 3).toInt = 0 := (congrArg Int32.toInt ((h_n2 eI34 (by decide)).trans (h_n0 eI33))).trans (by decide); have q1_6 : (I34 a0 6).toInt = v24.toInt := (congrArg Int32.toInt (h_n0 eI34)).trans rfl; omega)⟩⟩, h_ret g ht⟩, hS.F ht⟩) hS.2.2 dX12_scan_222
                    · skip
                      refine lv_if_eq (tgt := 183) hx hb dX12_scan_140 (by decide) (fun h => absurd h (by decide)) (fun _ => ?_)
                      refine lv_aload_n hx hb dX12_scan_143 rfl (lv_at hl 0 rfl) ?_
                      refine lv_iload_n hx hb dX12_scan_144 rfl (lv_at hl 2 rfl) ?_
                      refine lv_iload_n hx hb dX12_scan_145 rfl (lv_at hl 1 rfl) ?_
                      refine lv_isub hx hb dX12_scan_146 ?_
                      refine lv_topi (fun v36 ev36 => ?_)
                      have jv36 : v36.toInt = v24.toInt - v1.toInt := xi_sub ev36 rfl rfl (by omega) (by omega)
                      refine lv_iconst (v := 5) hx hb dX12_scan_147 (by decide) ?_
                      refine lv_icmp_ge (tgt := 170) hx hb dX12_scan_148 (by decide) (fun c37 => ?_) (fun c37 => ?_)
                      · have ic37 := (xi_le c37 (by decide) rfl : 5 ≤ v36.toInt)
                        refine lv_aload_n hx hb dX12_scan_170 rfl (lv_at hl 0 rfl) ?_
                        refine h_get (v := .int (I25 a0 7)) hx hb hts iX12 hown g t_a0 (by decide) so_13 rfl 7 (by decide) (hts (.fieldLink RX12 163 "CapLeagueModel" "worth" "I") (by decide +kernel)) rfl dX12_scan_171 rfl ?_
                        refine lv_topi (fun v38 ev38 => ?_)
                        have jv38 := hI.rd a0 7 t_a0 ev38 (rfl : h_bd 13 7 = ((-2147483648), 2147483647))
                        refine h_putI (ty := .int) (v := v38) hx hb hts iX12 tyX12 tyX12_ok nmX12 hown g t_a0 (by decide) so_13 rfl 7 (by decide) rfl (hts (.fieldLink RX12 163 "CapLeagueModel" "worth" "I") (by decide +kernel)) rfl rfl (by decide +kernel) rfl rfl dX12_scan_174 (fun I39 H locs eI39 g => ?_)
                        have hI := hI.wr eI39 t_a0 (rfl : h_bd 13 7 = ((-2147483648), 2147483647)) (xi_lo _) (Int.le_of_lt_add_one (xi_hi _))
                        have hF := hF.wr eI39 t_a0 rfl
                        obtain ⟨v40, ev40⟩ : ∃ z : Int32, z = v24 + 1 := ⟨_, rfl⟩
                        have jv40 : v40.toInt = v24.toInt + 1 := xi_add ev40 rfl (by decide) (by omega) (by omega)
                        refine lv_iinc (v := v40) (lv' := [(3, .int v40), (0, .ref a0), (1, .int v1)]) hx hb dX12_scan_177 hl (k := 2) rfl (by rw [ev40]; rfl) (by decide) rfl (fun ls hl => ?_)
                        refine lv_goto (tgt := 132) hx hb dX12_scan_180 (by decide) ?_
                        exact ih132 I39 _ _ _ v40 g hI hF (lv_sub hl [1, 2, 0] rfl) (by omega) (h_F.wr (h_F.call (h_F.rf : h_F [(13, 7)] z I23 I23) hL132 rfl) eI39 t_a0 rfl) (by omega) (by omega)
                      · have ic37 := (xi_nle c37 (by decide) rfl : v36.toInt < 5)
                        refine lv_bipush (v := 10) hx hb dX12_scan_151 (by decide) ?_
                        refine lv_aload_n hx hb dX12_scan_153 rfl (lv_at hl 0 rfl) ?_
                        refine h_get (v := .int (I25 a0 7)) hx hb hts iX12 hown g t_a0 (by decide) so_13 rfl 7 (by decide) (hts (.fieldLink RX12 163 "CapLeagueModel" "worth" "I") (by decide +kernel)) rfl dX12_scan_154 rfl ?_
                        refine lv_topi (fun v41 ev41 => ?_)
                        have jv41 := hI.rd a0 7 t_a0 ev41 (rfl : h_bd 13 7 = ((-2147483648), 2147483647))
                        refine lv_imul hx hb dX12_scan_157 ?_
                        refine lv_topi (fun v42 ev42 => ?_)
                        have jv42 : -2147483648 ≤ v42.toInt ∧ v42.toInt ≤ 2147483647 := ⟨xi_lo _, Int.le_of_lt_add_one (xi_hi _)⟩
                        refine lv_aload_n hx hb dX12_scan_158 rfl (lv_at hl 0 rfl) ?_
                        refine lv_iload_n hx hb dX12_scan_159 rfl (lv_at hl 2 rfl) ?_
                        refine vp_callSi (W.runV (As := [.int v24]) (rest := [.int v42, .ref a0]) ⟨hx, hb, hml, hown, hts⟩ (tX12_see l E X A z I25 L0 a0 t_a0 v24 (v24.toInt) rfl (by omega)) (cwV 1 hts gX12_scan_X12_see rfl rfl rfl (by decide +kernel) ⟨Nat.le_of_ble_eq_true rfl, Nat.le_of_ble_eq_true rfl⟩) ⟨h_blind _ _ _ _ _ _ _, h_recv g t_a0 (by decide) so_13 (q := (RX12, TX12, 51)) rfl, h_pre _ hE hk hX hA hI hR g⟩ rfl rfl hl.1 rfl (lv_room (Nat.le_of_ble_eq_true rfl)) dX12_scan_160 ⟨Nat.le_of_ble_eq_true rfl, Nat.le_of_ble_eq_true rfl⟩) (fun rh43 h43 => ?_)
                        obtain ⟨h43, h43p0⟩ := h43
                        refine lv_iadd hx hb dX12_scan_163 ?_
                        refine lv_topi (fun v44 ev44 => ?_)
                        have jv44 : -2147483648 ≤ v44.toInt ∧ v44.toInt ≤ 2147483647 := ⟨xi_lo _, Int.le_of_lt_add_one (xi_hi _)⟩
                        refine lv_bipush (v := 48) hx hb dX12_scan_164 (by decide) ?_
                        refine lv_isub hx hb dX12_scan_166 ?_
                        refine lv_topi (fun v45 ev45 => ?_)
                        have jv45 : -2147483648 ≤ v45.toInt ∧ v45.toInt ≤ 2147483647 := ⟨xi_lo _, Int.le_of_lt_add_one (xi_hi _)⟩
                        refine lv_goto (tgt := 174) hx hb dX12_scan_167 (by decide) ?_
                        refine h_putI (ty := .int) (v := v45) hx hb hts iX12 tyX12 tyX12_ok nmX12 hown g t_a0 (by decide) so_13 rfl 7 (by decide) rfl (hts (.fieldLink RX12 163 "CapLeagueModel" "worth" "I") (by decide +kernel)) rfl rfl (by decide +kernel) rfl rfl dX12_scan_174 (fun I46 H locs eI46 g => ?_)
                        have hI := hI.wr eI46 t_a0 (rfl : h_bd 13 7 = ((-2147483648), 2147483647)) (xi_lo _) (Int.le_of_lt_add_one (xi_hi _))
                        have hF := hF.wr eI46 t_a0 rfl
                        obtain ⟨v47, ev47⟩ : ∃ z : Int32, z = v24 + 1 := ⟨_, rfl⟩
                        have jv47 : v47.toInt = v24.toInt + 1 := xi_add ev47 rfl (by decide) (by omega) (by omega)
                        refine lv_iinc (v := v47) (lv' := [(3, .int v47), (0, .ref a0), (1, .int v1)]) hx hb dX12_scan_177 hl (k := 2) rfl (by rw [ev47]; rfl) (by decide) rfl (fun ls hl => ?_)
                        refine lv_goto (tgt := 132) hx hb dX12_scan_180 (by decide) ?_
                        exact ih132 I46 _ _ _ v47 g hI hF (lv_sub hl [1, 2, 0] rfl) (by omega) (h_F.wr (h_F.call (h_F.rf : h_F [(13, 7)] z I23 I23) hL132 rfl) eI46 t_a0 rfl) (by omega) (by omega)
                exact loop132_1 _ I23 _ _ _ v10 g hI hF (lv_sub hl [2, 3, 0] rfl) (by omega) (h_F.rf : h_F [(13, 7)] z I23 I23) (by omega) (show (502 - v10.toInt) < (((502 - v10.toInt).toNat + 1 : Nat) : Int) by omega)
            · skip
              refine lv_if_eq (tgt := 117) hx hb dX12_scan_65 (by decide) (fun h => absurd h (by decide)) (fun _ => ?_)
              have loop68_2 : ∀ (n : Nat) (I50 : tI) (H : Heap) (locs : List Loc) (ls : Array Slot) (v49 : Int32), h_G h_so h_fk E A z I50 L0 s s.heap H locs → h_I z I50 → h_F [(13, 5), (13, 3), (13, 4), (13, 7), (13, 6)] z I0 I50 → lv_has ls 4 [(0, .ref a0), (1, .int v1), (3, .int v49)] → (1 ≤ v49.toInt ∧ v49.toInt ≤ 500) → (v1.toInt < v49.toInt) → (502 - v49.toInt) < (n : Int) → W pr_ l ev_ (headSpec wsX12_scan ({ frames := 6, cells := 0, slots := 0, locals := 384 })).room s m ([.ref a0] : List Value).toArray below meth cd_ H locs 0 0 (MQ below (va_Qv (fun (I1 : tI) => h_I z I1 ∧ h_F [(13, 5), (13, 3), (13, 4), (13, 7), (13, 6)] z I0 I1 ∧ ((I1 a0 3).toInt = 1 → 0 ≤ (I1 a0 4).toInt) ∧ ((I0 a0 6).toInt ≤ (I1 a0 6).toInt) ∧ ((I1 a0 3).toInt = 4 ∨ (I0 a0 6).toInt < (I1 a0 6).toInt)) (fun (I1 : tI) t => h_B E A z I1 L0 t) A) ([.ref a0] : List Value).toArray s 0 0 A) (F0 m 68 ls []) := by
                intro n
                induction n with
                | zero => intro I50 H locs ls v49 g hI hF hl jv49 hx68_0 hn; exact absurd hn (by omega)
                | succ n ih68 =>
                  intro I50 H locs ls v49 g hI hF hl jv49 hx68_0 hn
                  refine lv_aload_n hx hb dX12_scan_68 rfl (lv_at hl 0 rfl) ?_
                  refine lv_iload_n hx hb dX12_scan_69 rfl (lv_at hl 2 rfl) ?_
                  refine vp_callSi (W.runV (As := [.int v49]) (rest := []) ⟨hx, hb, hml, hown, hts⟩ (tX12_see l E X A z I50 L0 a0 t_a0 v49 (v49.toInt) rfl (by omega)) (cwV 1 hts gX12_scan_X12_see rfl rfl rfl (by decide +kernel) ⟨Nat.le_of_ble_eq_true rfl, Nat.le_of_ble_eq_true rfl⟩) ⟨h_blind _ _ _ _ _ _ _, h_recv g t_a0 (by decide) so_13 (q := (RX12, TX12, 51)) rfl, h_pre _ hE hk hX hA hI hR g⟩ rfl rfl hl.1 rfl (lv_room (Nat.le_of_ble_eq_true rfl)) dX12_scan_70 ⟨Nat.le_of_ble_eq_true rfl, Nat.le_of_ble_eq_true rfl⟩) (fun rh51 h51 => ?_)
                  obtain ⟨h51, h51p0⟩ := h51
                  refine vp_callSi (W.runS (As := [.int rh51]) (rest := []) ⟨hx, hb, hml, hown, hts⟩ (tX12_isSmall l E X A z I50 L0 rh51 (rh51.toInt) rfl) (va_cwS 1 hts gX12_scan_X12_isSmall rfl rfl rfl (by decide +kernel) ⟨Nat.le_of_ble_eq_true rfl, Nat.le_of_ble_eq_true rfl⟩) ⟨h_blind _ _ _ _ _ _ _, h_pre _ hE hk hX hA hI hR g⟩ rfl rfl hl.1 rfl (lv_room (Nat.le_of_ble_eq_true rfl)) dX12_scan_73 ⟨Nat.le_of_ble_eq_true rfl, Nat.le_of_ble_eq_true rfl⟩) (fun rh52 h52 => ?_)
                  rcases h52 with ⟨rfl, h52⟩ | ⟨rfl, h52⟩
                  · skip
                    refine lv_if_eq (tgt := 85) hx hb dX12_scan_76 (by decide) (fun _ => ?_) (fun h => absurd (by decide) h)
                    refine lv_aload_n hx hb dX12_scan_85 rfl (lv_at hl 0 rfl) ?_
                    refine lv_aload_n hx hb dX12_scan_86 rfl (lv_at hl 0 rfl) ?_
                    refine lv_iload_n hx hb dX12_scan_87 rfl (lv_at hl 1 rfl) ?_
                    refine lv_iload_n hx hb dX12_scan_88 rfl (lv_at hl 2 rfl) ?_
                    refine lv_iload_n hx hb dX12_scan_89 rfl (lv_at hl 1 rfl) ?_
                    refine lv_isub hx hb dX12_scan_90 ?_
                    refine lv_topi (fun v54 ev54 => ?_)
                    have jv54 : v54.toInt = v49.toInt - v1.toInt := xi_sub ev54 rfl rfl (by omega) (by omega)
                    refine vp_callSi (W.runV (As := [.int v1, .int v54]) (rest := [.ref a0]) ⟨hx, hb, hml, hown, hts⟩ (tX12_keyAt l E X A z I50 L0 a0 t_a0 v1 (v1.toInt) rfl (by omega) v54 (v54.toInt) rfl (by omega)) (cwV 2 hts gX12_scan_X12_keyAt rfl rfl rfl (by decide +kernel) ⟨Nat.le_of_ble_eq_true rfl, Nat.le_of_ble_eq_true rfl⟩) ⟨h_blind _ _ _ _ _ _ _, h_recv g t_a0 (by decide) so_13 (q := (RX12, TX12, 51)) rfl, h_pre _ hE hk hX hA hI hR g⟩ rfl rfl hl.1 rfl (lv_room (Nat.le_of_ble_eq_true rfl)) dX12_scan_91 ⟨Nat.le_of_ble_eq_true rfl, Nat.le_of_ble_eq_true rfl⟩) (fun rh55 h55 => ?_)
                    refine h_putI (ty := .int) (v := rh55) hx hb hts iX12 tyX12 tyX12_ok nmX12 hown g t_a0 (by decide) so_13 rfl 4 (by decide) rfl (hts (.fieldLink RX12 157 "CapLeagueModel" "what" "I") (by decide +kernel)) rfl rfl (by decide +kernel) rfl rfl dX12_scan_94 (fun I56 H locs eI56 g => ?_)
                    have hI := hI.wr eI56 t_a0 (rfl : h_bd 13 4 = ((-1), 60)) (by omega) (by omega)
                    have hF := hF.wr eI56 t_a0 rfl
                    refine lv_aload_n hx hb dX12_scan_97 rfl (lv_at hl 0 rfl) ?_
                    refine lv_aload_n hx hb dX12_scan_98 rfl (lv_at hl 0 rfl) ?_
                    refine h_get (v := .int rh55) hx hb hts iX12 hown g t_a0 (by decide) so_13 rfl 4 (by decide) (hts (.fieldLink RX12 157 "CapLeagueModel" "what" "I") (by decide +kernel)) rfl dX12_scan_99 (congrArg Value.int (h_n0 eI56)) ?_
                    refine lv_iconst (v := (-1)) hx hb dX12_scan_102 (by decide) ?_
                    refine lv_icmp_ne (tgt := 110) hx hb dX12_scan_103 (by decide) (fun c57 => ?_) (fun c57 => ?_)
                    · have ic57 := (xi_ne c57 rfl (by decide) : rh55.toInt ≠ (-1))
                      refine lv_iconst (v := 1) hx hb dX12_scan_110 (by decide) ?_
                      refine h_putI (ty := .int) (v := 1) hx hb hts iX12 tyX12 tyX12_ok nmX12 hown g t_a0 (by decide) so_13 rfl 3 (by decide) rfl (hts (.fieldLink RX12 146 "CapLeagueModel" "sort" "I") (by decide +kernel)) rfl rfl (by decide +kernel) rfl rfl dX12_scan_111 (fun I58 H locs eI58 g => ?_)
                      have hI := hI.wr eI58 t_a0 (rfl : h_bd 13 3 = ((-2147483648), 2147483647)) (by decide) (by decide)
                      have hF := hF.wr eI58 t_a0 rfl
                      refine lv_goto (tgt := 217) hx hb dX12_scan_114 (by decide) ?_
                      refine lv_aload_n hx hb dX12_scan_217 rfl (lv_at hl 0 rfl) ?_
                      refine lv_iload_n hx hb dX12_scan_218 rfl (lv_at hl 2 rfl) ?_
                      refine h_putI (ty := .int) (v := v49) hx hb hts iX12 tyX12 tyX12_ok nmX12 hown g t_a0 (by decide) so_13 rfl 6 (by decide) rfl (hts (.fieldLink RX12 140 "CapLeagueModel" "end" "I") (by decide +kernel)) rfl rfl (by decide +kernel) rfl rfl dX12_scan_219 (fun I59 H locs eI59 g => ?_)
                      have hI := hI.wr eI59 t_a0 (rfl : h_bd 13 6 = (0, 500)) (by omega) (by omega)
                      have hF := hF.wr eI59 t_a0 rfl
                      have hS := g.2.1
                      exact W.vret hx hb hr (fun t ht hW => ⟨⟨I59, rfl, ⟨hI, hF, ⟨(by have q1_3 : (I59 a0 3).toInt = 1 := (congrArg Int32.toInt ((h_n2 eI59 (by decide)).trans (h_n0 eI58))).trans (by decide); have q1_4 : (I59 a0 4).toInt = rh55.toInt := (congrArg Int32.toInt ((h_n2 eI59 (by decide)).trans ((h_n2 eI58 (by decide)).trans (h_n0 eI56)))).trans rfl; omega), (by have q1_6 : (I59 a0 6).toInt = v49.toInt := (congrArg Int32.toInt (h_n0 eI59)).trans rfl; omega), (by have q1_3 : (I59 a0 3).toInt = 1 := (congrArg Int32.toInt ((h_n2 eI59 (by decide)).trans (h_n0 eI58))).trans (by decide); have q1_6 : (I59 a0 6).toInt = v49.toInt := (congrArg Int32.toInt (h_n0 eI59)).trans rfl; omega)⟩⟩, h_ret g ht⟩, hS.F ht⟩) hS.2.2 dX12_scan_222
                    · have ic57 := (xi_eq c57 rfl (by decide) : rh55.toInt = (-1))
                      refine lv_iconst (v := 0) hx hb dX12_scan_106 (by decide) ?_
                      refine lv_goto (tgt := 111) hx hb dX12_scan_107 (by decide) ?_
                      refine h_putI (ty := .int) (v := 0) hx hb hts iX12 tyX12 tyX12_ok nmX12 hown g t_a0 (by decide) so_13 rfl 3 (by decide) rfl (hts (.fieldLink RX12 146 "CapLeagueModel" "sort" "I") (by decide +kernel)) rfl rfl (by decide +kernel) rfl rfl dX12_scan_111 (fun I60 H locs eI60 g => ?_)
                      have hI := hI.wr eI60 t_a0 (rfl : h_bd 13 3 = ((-2147483648), 2147483647)) (by decide) (by decide)
                      have hF := hF.wr eI60 t_a0 rfl
                      refine lv_goto (tgt := 217) hx hb dX12_scan_114 (by decide) ?_
                      refine lv_aload_n hx hb dX12_scan_217 rfl (lv_at hl 0 rfl) ?_
                      refine lv_iload_n hx hb dX12_scan_218 rfl (lv_at hl 2 rfl) ?_
                      refine h_putI (ty := .int) (v := v49) hx hb hts iX12 tyX12 tyX12_ok nmX12 hown g t_a0 (by decide) so_13 rfl 6 (by decide) rfl (hts (.fieldLink RX12 140 "CapLeagueModel" "end" "I") (by decide +kernel)) rfl rfl (by decide +kernel) rfl rfl dX12_scan_219 (fun I61 H locs eI61 g => ?_)
                      have hI := hI.wr eI61 t_a0 (rfl : h_bd 13 6 = (0, 500)) (by omega) (by omega)
                      have hF := hF.wr eI61 t_a0 rfl
                      have hS := g.2.1
                      exact W.vret hx hb hr (fun t ht hW => ⟨⟨I61, rfl, ⟨hI, hF, ⟨(by have q1_3 : (I61 a0 3).toInt = 0 := (congrArg Int32.toInt ((h_n2 eI61 (by decide)).trans (h_n0 eI60))).trans (by decide); have q1_4 : (I61 a0 4).toInt = rh55.toInt := (congrArg Int32.toInt ((h_n2 eI61 (by decide)).trans ((h_n2 eI60 (by decide)).trans (h_n0 eI56)))).trans rfl; omega), (by have q1_6 : (I61 a0 6).toInt = v49.toInt := (congrArg Int32.toInt (h_n0 eI61)).trans rfl; omega), (by have q1_3 : (I61 a0 3).toInt = 0 := (congrArg Int32.toInt ((h_n2 eI61 (by decide)).trans (h_n0 eI60))).trans (by decide); have q1_6 : (I61 a0 6).toInt = v49.toInt := (congrArg Int32.toInt (h_n0 eI61)).trans rfl; omega)⟩⟩, h_ret g ht⟩, hS.F ht⟩) hS.2.2 dX12_scan_222
                  · skip
                    refine lv_if_eq (tgt := 85) hx hb dX12_scan_76 (by decide) (fun h => absurd h (by decide)) (fun _ => ?_)
                    obtain ⟨v63, ev63⟩ : ∃ z : Int32, z = v49 + 1 := ⟨_, rfl⟩
                    have jv63 : v63.toInt = v49.toInt + 1 := xi_add ev63 rfl (by decide) (by omega) (by omega)
                    refine lv_iinc (v := v63) (lv' := [(3, .int v63), (0, .ref a0), (1, .int v1)]) hx hb dX12_scan_79 hl (k := 2) rfl (by rw [ev63]; rfl) (by decide) rfl (fun ls hl => ?_)
                    refine lv_goto (tgt := 68) hx hb dX12_scan_82 (by decide) ?_
                    exact ih68 I50 _ _ _ v63 g hI hF (lv_sub hl [1, 2, 0] rfl) (by omega) (by omega) (by omega)
              exact loop68_2 _ I8 _ _ _ v10 g hI hF (lv_sub hl [2, 3, 0] rfl) (by omega) (by omega) (show (502 - v10.toInt) < (((502 - v10.toInt).toNat + 1 : Nat) : Int) by omega)
          · have ic11 := (xi_eq c11 rfl (by decide) : rh9.toInt = (-1))
            refine lv_aload_n hx hb dX12_scan_51 rfl (lv_at hl 2 rfl) ?_
            refine lv_iconst (v := 4) hx hb dX12_scan_52 (by decide) ?_
            refine h_putI (ty := .int) (v := 4) hx hb hts iX12 tyX12 tyX12_ok nmX12 hown g t_a0 (by decide) so_13 rfl 3 (by decide) rfl (hts (.fieldLink RX12 146 "CapLeagueModel" "sort" "I") (by decide +kernel)) rfl rfl (by decide +kernel) rfl rfl dX12_scan_53 (fun I64 H locs eI64 g => ?_)
            have hI := hI.wr eI64 t_a0 (rfl : h_bd 13 3 = ((-2147483648), 2147483647)) (by decide) (by decide)
            have hF := hF.wr eI64 t_a0 rfl
            refine lv_iload_n hx hb dX12_scan_56 rfl (lv_at hl 3 rfl) ?_
            refine lv_istore_n (lv' := [(3, .int v1), (2, .int rh9), (0, .ref a0), (1, .int v1)]) hx hb dX12_scan_57 rfl hl (by decide) rfl (fun ls hl => ?_)
            refine lv_goto (tgt := 217) hx hb dX12_scan_58 (by decide) ?_
            refine lv_aload_n hx hb dX12_scan_217 rfl (lv_at hl 2 rfl) ?_
            refine lv_iload_n hx hb dX12_scan_218 rfl (lv_at hl 0 rfl) ?_
            refine h_putI (ty := .int) (v := v1) hx hb hts iX12 tyX12 tyX12_ok nmX12 hown g t_a0 (by decide) so_13 rfl 6 (by decide) rfl (hts (.fieldLink RX12 140 "CapLeagueModel" "end" "I") (by decide +kernel)) rfl rfl (by decide +kernel) rfl rfl dX12_scan_219 (fun I65 H locs eI65 g => ?_)
            have hI := hI.wr eI65 t_a0 (rfl : h_bd 13 6 = (0, 500)) (by omega) (by omega)
            have hF := hF.wr eI65 t_a0 rfl
            have hS := g.2.1
            exact W.vret hx hb hr (fun t ht hW => ⟨⟨I65, rfl, ⟨hI, hF, ⟨(by have q1_3 : (I65 a0 3).toInt = 4 := (congrArg Int32.toInt ((h_n2 eI65 (by decide)).trans (h_n0 eI64))).trans (by decide); omega), (by have q1_6 : (I65 a0 6).toInt = v1.toInt := (congrArg Int32.toInt (h_n0 eI65)).trans rfl; omega), (by have q1_3 : (I65 a0 3).toInt = 4 := (congrArg Int32.toInt ((h_n2 eI65 (by decide)).trans (h_n0 eI64))).trans (by decide); have q1_6 : (I65 a0 6).toInt = v1.toInt := (congrArg Int32.toInt (h_n0 eI65)).trans rfl; omega)⟩⟩, h_ret g ht⟩, hS.F ht⟩) hS.2.2 dX12_scan_222
        · have ic7 := (xi_eq c7 rfl (by decide) : rh6.toInt = 10)
          obtain ⟨v66, ev66⟩ : ∃ z : Int32, z = v1 + 1 := ⟨_, rfl⟩
          have jv66 : v66.toInt = v1.toInt + 1 := xi_add ev66 rfl (by decide) (by omega) (by omega)
          refine lv_iinc (v := v66) (lv' := [(1, .int v66), (0, .ref a0)]) hx hb dX12_scan_25 hl (k := 1) rfl (by rw [ev66]; rfl) (by decide) rfl (fun ls hl => ?_)
          refine lv_goto (tgt := 5) hx hb dX12_scan_28 (by decide) ?_
          exact ih5 I2 _ _ _ v66 g hI hF (lv_sub hl [1, 0] rfl) (by omega) (by omega) (by omega)
  exact loop5_0 _ I0 _ _ _ f0_6 g hI hF (lv_sub hl [1, 0] rfl) (by omega) (by omega) (show (501 - f0_6.toInt) < (((501 - f0_6.toInt).toNat + 1 : Nat) : Int) by omega)
set_option maxHeartbeats 4000000 in
set_option maxRecDepth 100000 in
theorem tX12_fails (l : Launch) (E : tE) (X : tX) (A : Nat → Prop) (z : tZ) (I0 : tI) (L0 : tL) (a0 : Nat) (t_a0 : z.ty a0 = 13) (k : Int32) (k_t : Int) (h_k : k.toInt = k_t) : Met l yX12_fails wsX12_fails ({ frames := 1, cells := 0, slots := 0, locals := 64 }) (va_Pc [.ref a0, .int k] (h_P E X A z I0 L0)) (va_Qi (fun r (I1 : tI) => h_I z I1 ∧ h_F [(13, 8), (13, 9)] z I0 I1 ∧ (0 ≤ r.toInt ∧ r.toInt ≤ 0)) (fun (I1 : tI) t => h_B E A z I1 L0 t) A) 0 0 A := by
  refine Met.ofW (cc := cX12_fails) (maxL := 2) (ret := (some .boolean)) (by decide) rfl ?_
  intro pr_ ev_ s m args below meth cd_ s₁ B hml hv
  obtain ⟨rfl, hE, hk, hX, hA, hK, hI, hR, hB0⟩ := hv
  have g : h_G h_so h_fk E A z I0 L0 s s.heap s.heap [] := ⟨hK, va_S.rf, hB0⟩
  have hF : h_F [(13, 8), (13, 9)] z I0 I0 := h_F.rf
  have hx := B.exec
  have hb := B.bytes
  have hr := B.returns
  have hts := atoms_spec (ws := wsX12_fails) B.pre
  have hown : s.vm.findClass RX12 = some m.cls := findClass_of_methodNamed B.named
  have hlocks := B.notSynchronized
  have iX12 : ∀ w ∈ u_ws RX12 TX12 51, w ∈ wsX12_fails := by decide +kernel
  have hl := lv_entry ([.ref a0, .int k]) (n := 2) (Nat.le_of_ble_eq_true rfl)
  rw [lg_entry_eq]
  generalize (lg_sl ([.ref a0, .int k]) ++ List.replicate (2 - (lg_sl ([.ref a0, .int k])).length) Slot.unset).toArray = ls at hl ⊢
  have hl : lv_has ls 2 [(0, .ref a0), (1, .int k)] := hl
  have b_k : -2147483648 ≤ k_t ∧ k_t ≤ 2147483647 := h_k ▸ ⟨xi_lo k, Int.le_of_lt_add_one (xi_hi k)⟩
  refine lv_aload_n hx hb dX12_fails_0 rfl (lv_at hl 0 rfl) ?_
  refine lv_iload_n hx hb dX12_fails_1 rfl (lv_at hl 1 rfl) ?_
  refine h_putI (ty := .int) (v := k) hx hb hts iX12 tyX12 tyX12_ok nmX12 hown g t_a0 (by decide) so_13 rfl 8 (by decide) rfl (hts (.fieldLink RX12 166 "CapLeagueModel" "faultKind" "I") (by decide +kernel)) rfl rfl (by decide +kernel) rfl rfl dX12_fails_2 (fun I1 H locs eI1 g => ?_)
  have hI := hI.wr eI1 t_a0 (rfl : h_bd 13 8 = ((-2147483648), 2147483647)) (xi_lo _) (Int.le_of_lt_add_one (xi_hi _))
  have hF := hF.wr eI1 t_a0 rfl
  refine lv_aload_n hx hb dX12_fails_5 rfl (lv_at hl 0 rfl) ?_
  refine lv_aload_n hx hb dX12_fails_6 rfl (lv_at hl 0 rfl) ?_
  refine h_get (v := .int (I1 a0 5)) hx hb hts iX12 hown g t_a0 (by decide) so_13 rfl 5 (by decide) (hts (.fieldLink RX12 143 "CapLeagueModel" "at" "I") (by decide +kernel)) rfl dX12_fails_7 rfl ?_
  refine lv_topi (fun v2 ev2 => ?_)
  have jv2 := hI.rd a0 5 t_a0 ev2 (rfl : h_bd 13 5 = ((-2147483648), 2147483647))
  refine h_putI (ty := .int) (v := v2) hx hb hts iX12 tyX12 tyX12_ok nmX12 hown g t_a0 (by decide) so_13 rfl 9 (by decide) rfl (hts (.fieldLink RX12 13 "CapLeagueModel" "faultPlace" "I") (by decide +kernel)) rfl rfl (by decide +kernel) rfl rfl dX12_fails_10 (fun I3 H locs eI3 g => ?_)
  have hI := hI.wr eI3 t_a0 (rfl : h_bd 13 9 = ((-2147483648), 2147483647)) (xi_lo _) (Int.le_of_lt_add_one (xi_hi _))
  have hF := hF.wr eI3 t_a0 rfl
  refine lv_iconst (v := 0) hx hb dX12_fails_13 (by decide) ?_
  have hS := g.2.1
  exact W.zret (v := 0) hx hb hr (by decide) (fun t ht hW => ⟨⟨0, I3, rfl, ⟨hI, hF, ⟨(by decide), (by decide)⟩⟩, h_ret g ht⟩, hS.F ht⟩) hS.2.2 dX12_fails_14
set_option maxHeartbeats 4000000 in
set_option maxRecDepth 100000 in
theorem tX12_plainP (l : Launch) (E : tE) (X : tX) (A : Nat → Prop) (z : tZ) (I0 : tI) (L0 : tL) (k : Int32) (k_t : Int) (h_k : k.toInt = k_t) : Met l yX12_plain wsX12_plain ({ frames := 1, cells := 0, slots := 0, locals := 64 }) (va_Pc [.int k] (h_P E X A z I0 L0)) (vp_Si (fun r => (k_t ≠ 8 ∨ r.toInt = 1) ∧ (k_t ≠ 9 ∨ r.toInt = 1) ∧ (k_t < 8 ∨ (0 ≤ r.toInt ∧ r.toInt ≤ 1)))) 0 0 (fun _ => False) := by
  refine Met.ofW (cc := cX12_plain) (maxL := 1) (ret := (some .int)) (by decide) rfl ?_
  intro pr_ ev_ s m args below meth cd_ s₁ B hml hv
  obtain ⟨rfl, hE, hk, hX, hA, hK, hI, hR, hB0⟩ := hv
  have g : h_G h_so h_fk E A z I0 L0 s s.heap s.heap [] := ⟨hK, va_S.rf, hB0⟩
  have hx := B.exec
  have hb := B.bytes
  have hr := B.returns
  have hts := atoms_spec (ws := wsX12_plain) B.pre
  have hown : s.vm.findClass RX12 = some m.cls := findClass_of_methodNamed B.named
  have hlocks := B.notSynchronized
  have hl := lv_entry ([.int k]) (n := 1) (Nat.le_of_ble_eq_true rfl)
  rw [lg_entry_eq]
  generalize (lg_sl ([.int k]) ++ List.replicate (1 - (lg_sl ([.int k])).length) Slot.unset).toArray = ls at hl ⊢
  have hl : lv_has ls 1 [(0, .int k)] := hl
  have b_k : -2147483648 ≤ k_t ∧ k_t ≤ 2147483647 := h_k ▸ ⟨xi_lo k, Int.le_of_lt_add_one (xi_hi k)⟩
  refine lv_iload_n hx hb dX12_plain_0 rfl (lv_at hl 0 rfl) ?_
  have qc1 : k.toInt = k_t := h_k
  rcases (show (k.toInt < 0 ∨ 9 < k.toInt) ∨ k.toInt = 0 ∨ k.toInt = 1 ∨ k.toInt = 2 ∨ k.toInt = 3 ∨ k.toInt = 4 ∨ k.toInt = 5 ∨ k.toInt = 6 ∨ k.toInt = 7 ∨ k.toInt = 8 ∨ k.toInt = 9 by omega) with c1 | c1 | c1 | c1 | c1 | c1 | c1 | c1 | c1 | c1 | c1
  · refine lv_tableOut (tgt := 72) hx hb dX12_plain_1 c1 (by decide) ?_
    refine lv_iconst (v := 0) hx hb dX12_plain_72 (by decide) ?_
    exact W.iret (v := 0) hx hb hr (fun t ht hW => ⟨0, rfl, ⟨(by have qr : (0 : Int32).toInt = 0 := (by decide); omega), (by have qr : (0 : Int32).toInt = 0 := (by decide); omega), (by have qr : (0 : Int32).toInt = 0 := (by decide); omega)⟩, ht⟩) (fun _ h => by cases h) dX12_plain_73
  · refine lv_tableIn (off := 55) (tgt := 56) hx hb dX12_plain_1 (by omega) (by omega) (by rw [show (k.toInt - 0).toNat = 0 by omega]; rfl) (by decide) ?_
    refine lv_sipush (v := 1000) hx hb dX12_plain_56 (by decide) ?_
    exact W.iret (v := 1000) hx hb hr (fun t ht hW => ⟨1000, rfl, ⟨(by have qr : (1000 : Int32).toInt = 1000 := (by decide); omega), (by have qr : (1000 : Int32).toInt = 1000 := (by decide); omega), (by have qr : (1000 : Int32).toInt = 1000 := (by decide); omega)⟩, ht⟩) (fun _ h => by cases h) dX12_plain_59
  · refine lv_tableIn (off := 59) (tgt := 60) hx hb dX12_plain_1 (by omega) (by omega) (by rw [show (k.toInt - 0).toNat = 1 by omega]; rfl) (by decide) ?_
    refine lv_bipush (v := 15) hx hb dX12_plain_60 (by decide) ?_
    exact W.iret (v := 15) hx hb hr (fun t ht hW => ⟨15, rfl, ⟨(by have qr : (15 : Int32).toInt = 15 := (by decide); omega), (by have qr : (15 : Int32).toInt = 15 := (by decide); omega), (by have qr : (15 : Int32).toInt = 15 := (by decide); omega)⟩, ht⟩) (fun _ h => by cases h) dX12_plain_62
  · refine lv_tableIn (off := 62) (tgt := 63) hx hb dX12_plain_1 (by omega) (by omega) (by rw [show (k.toInt - 0).toNat = 2 by omega]; rfl) (by decide) ?_
    refine lv_iconst (v := 4) hx hb dX12_plain_63 (by decide) ?_
    exact W.iret (v := 4) hx hb hr (fun t ht hW => ⟨4, rfl, ⟨(by have qr : (4 : Int32).toInt = 4 := (by decide); omega), (by have qr : (4 : Int32).toInt = 4 := (by decide); omega), (by have qr : (4 : Int32).toInt = 4 := (by decide); omega)⟩, ht⟩) (fun _ h => by cases h) dX12_plain_64
  · refine lv_tableIn (off := 71) (tgt := 72) hx hb dX12_plain_1 (by omega) (by omega) (by rw [show (k.toInt - 0).toNat = 3 by omega]; rfl) (by decide) ?_
    refine lv_iconst (v := 0) hx hb dX12_plain_72 (by decide) ?_
    exact W.iret (v := 0) hx hb hr (fun t ht hW => ⟨0, rfl, ⟨(by have qr : (0 : Int32).toInt = 0 := (by decide); omega), (by have qr : (0 : Int32).toInt = 0 := (by decide); omega), (by have qr : (0 : Int32).toInt = 0 := (by decide); omega)⟩, ht⟩) (fun _ h => by cases h) dX12_plain_73
  · refine lv_tableIn (off := 64) (tgt := 65) hx hb dX12_plain_1 (by omega) (by omega) (by rw [show (k.toInt - 0).toNat = 4 by omega]; rfl) (by decide) ?_
    refine lv_bipush (v := 100) hx hb dX12_plain_65 (by decide) ?_
    exact W.iret (v := 100) hx hb hr (fun t ht hW => ⟨100, rfl, ⟨(by have qr : (100 : Int32).toInt = 100 := (by decide); omega), (by have qr : (100 : Int32).toInt = 100 := (by decide); omega), (by have qr : (100 : Int32).toInt = 100 := (by decide); omega)⟩, ht⟩) (fun _ h => by cases h) dX12_plain_67
  · refine lv_tableIn (off := 71) (tgt := 72) hx hb dX12_plain_1 (by omega) (by omega) (by rw [show (k.toInt - 0).toNat = 5 by omega]; rfl) (by decide) ?_
    refine lv_iconst (v := 0) hx hb dX12_plain_72 (by decide) ?_
    exact W.iret (v := 0) hx hb hr (fun t ht hW => ⟨0, rfl, ⟨(by have qr : (0 : Int32).toInt = 0 := (by decide); omega), (by have qr : (0 : Int32).toInt = 0 := (by decide); omega), (by have qr : (0 : Int32).toInt = 0 := (by decide); omega)⟩, ht⟩) (fun _ h => by cases h) dX12_plain_73
  · refine lv_tableIn (off := 71) (tgt := 72) hx hb dX12_plain_1 (by omega) (by omega) (by rw [show (k.toInt - 0).toNat = 6 by omega]; rfl) (by decide) ?_
    refine lv_iconst (v := 0) hx hb dX12_plain_72 (by decide) ?_
    exact W.iret (v := 0) hx hb hr (fun t ht hW => ⟨0, rfl, ⟨(by have qr : (0 : Int32).toInt = 0 := (by decide); omega), (by have qr : (0 : Int32).toInt = 0 := (by decide); omega), (by have qr : (0 : Int32).toInt = 0 := (by decide); omega)⟩, ht⟩) (fun _ h => by cases h) dX12_plain_73
  · refine lv_tableIn (off := 71) (tgt := 72) hx hb dX12_plain_1 (by omega) (by omega) (by rw [show (k.toInt - 0).toNat = 7 by omega]; rfl) (by decide) ?_
    refine lv_iconst (v := 0) hx hb dX12_plain_72 (by decide) ?_
    exact W.iret (v := 0) hx hb hr (fun t ht hW => ⟨0, rfl, ⟨(by have qr : (0 : Int32).toInt = 0 := (by decide); omega), (by have qr : (0 : Int32).toInt = 0 := (by decide); omega), (by have qr : (0 : Int32).toInt = 0 := (by decide); omega)⟩, ht⟩) (fun _ h => by cases h) dX12_plain_73
  · refine lv_tableIn (off := 67) (tgt := 68) hx hb dX12_plain_1 (by omega) (by omega) (by rw [show (k.toInt - 0).toNat = 8 by omega]; rfl) (by decide) ?_
    refine lv_iconst (v := 1) hx hb dX12_plain_68 (by decide) ?_
    exact W.iret (v := 1) hx hb hr (fun t ht hW => ⟨1, rfl, ⟨(by have qr : (1 : Int32).toInt = 1 := (by decide); omega), (by have qr : (1 : Int32).toInt = 1 := (by decide); omega), (by have qr : (1 : Int32).toInt = 1 := (by decide); omega)⟩, ht⟩) (fun _ h => by cases h) dX12_plain_69
  · refine lv_tableIn (off := 69) (tgt := 70) hx hb dX12_plain_1 (by omega) (by omega) (by rw [show (k.toInt - 0).toNat = 9 by omega]; rfl) (by decide) ?_
    refine lv_iconst (v := 1) hx hb dX12_plain_70 (by decide) ?_
    exact W.iret (v := 1) hx hb hr (fun t ht hW => ⟨1, rfl, ⟨(by have qr : (1 : Int32).toInt = 1 := (by decide); omega), (by have qr : (1 : Int32).toInt = 1 := (by decide); omega), (by have qr : (1 : Int32).toInt = 1 := (by decide); omega)⟩, ht⟩) (fun _ h => by cases h) dX12_plain_71
