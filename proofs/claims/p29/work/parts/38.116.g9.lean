set_option maxHeartbeats 4000000 in
set_option maxRecDepth 100000 in
theorem tX8_appendX (l : Launch) (E : tE) (X : tX) (A : Nat → Prop) (z : tZ) (I0 : tI) (L0 : tL) (a0 : Nat) (t_a0 : z.ty a0 = 9) (x : Int32) (x_t : Int) (h_x : x.toInt = x_t) (hs : (I0 a0 1).toInt ≤ 496) : Met l yX8_append wsX8_append ({ frames := 1, cells := 0, slots := 0, locals := 64 }) (va_Pc [.ref a0, .int x] (h_P E X A z I0 L0)) (va_Qv (fun (I1 : tI) => h_I z I1 ∧ h_F [(900, 999), (9, 1)] z I0 I1 ∧ ((I1 a0 1).toInt = (I0 a0 1).toInt + 4) ∧ (I1 (h_ad z a0 0) = q_part (I0 (h_ad z a0 0)) (I0 a0 1).toInt x 4)) (fun (I1 : tI) t => h_B E A z I1 L0 t) A) 0 0 A := by
  refine Met.ofW (cc := cX8_append) (maxL := 3) (ret := none) (by decide) rfl ?_
  intro pr_ ev_ s m args below meth cd_ s₁ B hml hv
  obtain ⟨rfl, hE, hk, hX, hA, hK, hI, hR, hB0⟩ := hv
  have g : h_G h_so h_fk E A z I0 L0 s s.heap s.heap [] := ⟨hK, va_S.rf, hB0⟩
  have hF : h_F [(900, 999), (9, 1)] z I0 I0 := h_F.rf
  have hx := B.exec
  have hb := B.bytes
  have hr := B.returns
  have hts := atoms_spec (ws := wsX8_append) B.pre
  have hown : s.vm.findClass RX8 = some m.cls := findClass_of_methodNamed B.named
  have hlocks := B.notSynchronized
  have iX8 : ∀ w ∈ u_ws RX8 TX8 2, w ∈ wsX8_append := by decide +kernel
  have hl := lv_entry ([.ref a0, .int x]) (n := 3) (Nat.le_of_ble_eq_true rfl)
  rw [lg_entry_eq]
  generalize (lg_sl ([.ref a0, .int x]) ++ List.replicate (3 - (lg_sl ([.ref a0, .int x])).length) Slot.unset).toArray = ls at hl ⊢
  have hl : lv_has ls 3 [(0, .ref a0), (1, .int x)] := hl
  have b_x : -2147483648 ≤ x_t ∧ x_t ≤ 2147483647 := h_x ▸ ⟨xi_lo x, Int.le_of_lt_add_one (xi_hi x)⟩
  obtain ⟨bt, rbt, tbt⟩ := hR.at a0 0 t_a0 (rfl : h_rs 9 0 = some (900, false)) (by decide)
  have abt : h_ad z a0 0 = bt := h_ad.at rbt
  obtain ⟨f0_1, ef0_1⟩ : ∃ v : Int32, v = I0 a0 1 := ⟨_, rfl⟩
  have qf0_1 : (I0 a0 1).toInt = f0_1.toInt := congrArg Int32.toInt ef0_1.symm
  have jf0_1 := hI.rd a0 1 t_a0 ef0_1 (rfl : h_bd 9 1 = (0, 500))
  rw [qf0_1] at hs
  refine lv_bipush (v := 24) hx hb dX8_append_0 (by decide) ?_
  refine lv_istore_n (lv' := [(2, .int 24), (0, .ref a0), (1, .int x)]) hx hb dX8_append_2 rfl hl (by decide) rfl (fun ls hl => ?_)
  have loop3_0 : ∀ (n : Nat) (I2 : tI) (H : Heap) (locs : List Loc) (ls : Array Slot) (v1 : Int32), h_G h_so h_fk E A z I2 L0 s s.heap H locs → h_I z I2 → h_F [(900, 999), (9, 1)] z I0 I2 → lv_has ls 3 [(0, .ref a0), (1, .int x), (2, .int v1)] → ((-8) ≤ v1.toInt ∧ v1.toInt ≤ 24) → (8 * (I2 a0 1).toInt = 8 * f0_1.toInt + 24 - v1.toInt) → (v1.toInt % 8 = 0 ∧ v1.toInt ≤ 24 ∧ -8 ≤ v1.toInt) → (I2 bt = q_part (I0 bt) f0_1.toInt x ((24 - v1.toInt) / 8)) → (v1.toInt + 8) < (n : Int) → W pr_ l ev_ (headSpec wsX8_append ({ frames := 1, cells := 0, slots := 0, locals := 64 })).room s m ([.ref a0, .int x] : List Value).toArray below meth cd_ H locs 0 0 (MQ below (va_Qv (fun (I1 : tI) => h_I z I1 ∧ h_F [(900, 999), (9, 1)] z I0 I1 ∧ ((I1 a0 1).toInt = (I0 a0 1).toInt + 4) ∧ (I1 (h_ad z a0 0) = q_part (I0 (h_ad z a0 0)) (I0 a0 1).toInt x 4)) (fun (I1 : tI) t => h_B E A z I1 L0 t) A) ([.ref a0, .int x] : List Value).toArray s 0 0 A) (F0 m 3 ls []) := by
    intro n
    induction n with
    | zero => intro I2 H locs ls v1 g hI hF hl jv1 hx3_0 hx3_1 hx3_2 hn; exact absurd hn (by omega)
    | succ n ih3 =>
      intro I2 H locs ls v1 g hI hF hl jv1 hx3_0 hx3_1 hx3_2 hn
      obtain ⟨v3, ev3⟩ : ∃ v : Int32, v = I2 a0 1 := ⟨_, rfl⟩
      rw [← ev3] at hx3_0
      have jv3 := hI.rd a0 1 t_a0 ev3 (rfl : h_bd 9 1 = (0, 500))
      refine lv_iload_n hx hb dX8_append_3 rfl (lv_at hl 2 rfl) ?_
      refine lv_if_lt (tgt := 48) hx hb dX8_append_4 (by decide) (fun c4 => ?_) (fun c4 => ?_)
      · have ic4 := (xi_lt c4 rfl (by decide) : v1.toInt < 0)
        have hS := g.2.1
        exact W.vret hx hb hr (fun t ht hW => ⟨⟨I2, rfl, ⟨hI, hF, ⟨(by rw [qf0_1, show I2 a0 1 = v3 from ev3.symm]; omega), (by rw [abt, qf0_1, hx3_2]; congr 1; omega)⟩⟩, h_ret g ht⟩, hS.F ht⟩) hS.2.2 dX8_append_48
      · have ic4 := (xi_nlt c4 rfl (by decide) : 0 ≤ v1.toInt)
        refine lv_aload_n hx hb dX8_append_7 rfl (lv_at hl 0 rfl) ?_
        refine h_get (v := .int v3) hx hb hts iX8 hown g t_a0 (by decide) so_9 rfl 1 (by decide) (hts (.fieldLink RX8 15 "CapLeague$Tape" "size" "I") (by decide +kernel)) rfl dX8_append_8 (congrArg Value.int (ev3.symm)) ?_
        refine lv_aload_n hx hb dX8_append_11 rfl (lv_at hl 0 rfl) ?_
        refine h_get (v := .ref bt) hx hb hts iX8 hown g t_a0 (by decide) so_9 rfl 0 (by decide) (hts (.fieldLink RX8 11 "CapLeague$Tape" "bytes" "[B") (by decide +kernel)) rfl dX8_append_12 (by show va_rf (z.R a0 0) = _; rw [rbt]; rfl) ?_
        refine h_alen (v := 500) hx hb g tbt (by decide) (Or.inr (Or.inr (Or.inl so_900))) rfl dX8_append_15 ?_
        refine lv_icmp_ge (tgt := 48) hx hb dX8_append_16 (by decide) (fun c5 => ?_) (fun c5 => ?_)
        · have ic5 := (xi_le c5 (by decide) rfl : 500 ≤ v3.toInt)
          have hS := g.2.1
          exact W.vret hx hb hr (fun t ht hW => ⟨⟨I2, rfl, ⟨hI, hF, ⟨(by rw [qf0_1, show I2 a0 1 = v3 from ev3.symm]; omega), (by rw [abt, qf0_1, hx3_2]; congr 1; omega)⟩⟩, h_ret g ht⟩, hS.F ht⟩) hS.2.2 dX8_append_48
        · have ic5 := (xi_nle c5 (by decide) rfl : v3.toInt < 500)
          refine lv_aload_n hx hb dX8_append_19 rfl (lv_at hl 0 rfl) ?_
          refine h_get (v := .ref bt) hx hb hts iX8 hown g t_a0 (by decide) so_9 rfl 0 (by decide) (hts (.fieldLink RX8 11 "CapLeague$Tape" "bytes" "[B") (by decide +kernel)) rfl dX8_append_20 (by show va_rf (z.R a0 0) = _; rw [rbt]; rfl) ?_
          refine lv_aload_n hx hb dX8_append_23 rfl (lv_at hl 0 rfl) ?_
          refine h_get (v := .int v3) hx hb hts iX8 hown g t_a0 (by decide) so_9 rfl 1 (by decide) (hts (.fieldLink RX8 15 "CapLeague$Tape" "size" "I") (by decide +kernel)) rfl dX8_append_24 (congrArg Value.int (ev3.symm)) ?_
          refine lv_iload_n hx hb dX8_append_27 rfl (lv_at hl 1 rfl) ?_
          refine lv_iload_n hx hb dX8_append_28 rfl (lv_at hl 2 rfl) ?_
          refine lv_ishr hx hb dX8_append_29 ?_
          refine lv_topi (fun v6 ev6 => ?_)
          refine lv_i2b hx hb dX8_append_30 rfl ?_
          refine lv_topi (fun v7 ev7 => ?_)
          have jv7 : -2147483648 ≤ v7.toInt ∧ v7.toInt ≤ 2147483647 := ⟨xi_lo _, Int.le_of_lt_add_one (xi_hi _)⟩
          refine h_bast hx hb g tbt (by decide) so_900 (xi_in (by omega) (by omega)) dX8_append_31 (fun I8 H locs eI8 g => ?_)
          have hI := hI.wr eI8 tbt (rfl : h_bd 900 _ = (-128, 127)) (h_ny _).1 (h_ny _).2
          have hF := hF.wr eI8 tbt rfl
          refine lv_aload_n hx hb dX8_append_32 rfl (lv_at hl 0 rfl) ?_
          refine lv_dup hx hb dX8_append_33 rfl ?_
          refine h_get (v := .int v3) hx hb hts iX8 hown g t_a0 (by decide) so_9 rfl 1 (by decide) (hts (.fieldLink RX8 15 "CapLeague$Tape" "size" "I") (by decide +kernel)) rfl dX8_append_34 (congrArg Value.int ((h_n1 eI8 t_a0 tbt (by decide)).trans (ev3.symm))) ?_
          refine lv_iconst (v := 1) hx hb dX8_append_37 (by decide) ?_
          refine lv_iadd hx hb dX8_append_38 ?_
          refine lv_topi (fun v9 ev9 => ?_)
          have jv9 : v9.toInt = v3.toInt + 1 := xi_add ev9 rfl (by decide) (by omega) (by omega)
          refine h_putI (ty := .int) (v := v9) hx hb hts iX8 tyX8 tyX8_ok nmX8 hown g t_a0 (by decide) so_9 rfl 1 (by decide) rfl (hts (.fieldLink RX8 15 "CapLeague$Tape" "size" "I") (by decide +kernel)) rfl rfl (by decide +kernel) rfl rfl dX8_append_39 (fun I10 H locs eI10 g => ?_)
          have hI := hI.wr eI10 t_a0 (rfl : h_bd 9 1 = (0, 500)) (by omega) (by omega)
          have hF := hF.wr eI10 t_a0 rfl
          obtain ⟨v11, ev11⟩ : ∃ z : Int32, z = v1 + (-8) := ⟨_, rfl⟩
          have jv11 : v11.toInt = v1.toInt + (-8) := xi_add ev11 rfl (by decide) (by omega) (by omega)
          refine lv_iinc (v := v11) (lv' := [(2, .int v11), (0, .ref a0), (1, .int x)]) hx hb dX8_append_42 hl (k := 2) rfl (by rw [ev11]; rfl) (by decide) rfl (fun ls hl => ?_)
          refine lv_goto (tgt := 3) hx hb dX8_append_45 (by decide) ?_
          have k12 : (I10 a0 1).toInt = v9.toInt := (congrArg Int32.toInt (h_n0 eI10)).trans rfl
          exact ih3 I10 _ _ _ v11 g hI hF (lv_sub hl [1, 2, 0] rfl) (by omega) (by omega) (by omega) ((funext (fun k => h_n1 eI10 tbt t_a0 (by decide))).trans (q_partS (f := I0 bt) (n := f0_1.toInt) (j := (24 - v1.toInt) / 8) (t := v1.toInt) hx3_2 eI8 (by omega) (by omega) (by omega) rfl (by omega) ev6 ev7 (by omega))) (by omega)
  have kc13 : (24 : Int32).toInt = 24 := by decide
  have k14 : (I0 a0 1).toInt = f0_1.toInt := (congrArg Int32.toInt (ef0_1.symm)).trans rfl
  exact loop3_0 _ I0 _ _ _ (24) g hI hF (lv_sub hl [1, 2, 0] rfl) ⟨by decide, by decide⟩ (by omega) (by omega) ((q_part0 (by decide)).symm) (show ((24 : Int) + 8) < ((((24 : Int) + 8).toNat + 1 : Nat) : Int) by omega)
set_option maxHeartbeats 4000000 in
set_option maxRecDepth 100000 in
theorem tX8_hasRoomX (l : Launch) (E : tE) (X : tX) (A : Nat → Prop) (z : tZ) (I0 : tI) (L0 : tL) (a0 : Nat) (t_a0 : z.ty a0 = 9) : Met l yX8_hasRoom wsX8_hasRoom ({ frames := 1, cells := 0, slots := 0, locals := 64 }) (va_Pc [.ref a0] (h_P E X A z I0 L0)) (vp_Si (fun r => (0 ≤ r.toInt ∧ r.toInt ≤ 1) ∧ ((r.toInt = 0 ∧ 480 < (I0 a0 1).toInt) ∨ (r.toInt = 1 ∧ (I0 a0 1).toInt ≤ 480)))) 0 0 (fun _ => False) := by
  refine Met.ofW (cc := cX8_hasRoom) (maxL := 1) (ret := (some .boolean)) (by decide) rfl ?_
  intro pr_ ev_ s m args below meth cd_ s₁ B hml hv
  obtain ⟨rfl, hE, hk, hX, hA, hK, hI, hR, hB0⟩ := hv
  have g : h_G h_so h_fk E A z I0 L0 s s.heap s.heap [] := ⟨hK, va_S.rf, hB0⟩
  have hx := B.exec
  have hb := B.bytes
  have hr := B.returns
  have hts := atoms_spec (ws := wsX8_hasRoom) B.pre
  have hown : s.vm.findClass RX8 = some m.cls := findClass_of_methodNamed B.named
  have hlocks := B.notSynchronized
  have iX8 : ∀ w ∈ u_ws RX8 TX8 2, w ∈ wsX8_hasRoom := by decide +kernel
  have hl := lv_entry ([.ref a0]) (n := 1) (Nat.le_of_ble_eq_true rfl)
  rw [lg_entry_eq]
  generalize (lg_sl ([.ref a0]) ++ List.replicate (1 - (lg_sl ([.ref a0])).length) Slot.unset).toArray = ls at hl ⊢
  have hl : lv_has ls 1 [(0, .ref a0)] := hl
  obtain ⟨f0_1, ef0_1⟩ : ∃ v : Int32, v = I0 a0 1 := ⟨_, rfl⟩
  have qf0_1 : (I0 a0 1).toInt = f0_1.toInt := congrArg Int32.toInt ef0_1.symm
  have jf0_1 := hI.rd a0 1 t_a0 ef0_1 (rfl : h_bd 9 1 = (0, 500))
  refine lv_aload_n hx hb dX8_hasRoom_0 rfl (lv_at hl 0 rfl) ?_
  refine h_get (v := .int f0_1) hx hb hts iX8 hown g t_a0 (by decide) so_9 rfl 1 (by decide) (hts (.fieldLink RX8 15 "CapLeague$Tape" "size" "I") (by decide +kernel)) rfl dX8_hasRoom_1 (congrArg Value.int (ef0_1.symm)) ?_
  refine lv_bipush (v := 20) hx hb dX8_hasRoom_4 (by decide) ?_
  refine lv_iadd hx hb dX8_hasRoom_6 ?_
  refine lv_topi (fun v1 ev1 => ?_)
  have jv1 : v1.toInt = f0_1.toInt + 20 := xi_add ev1 rfl (by decide) (by omega) (by omega)
  refine lv_sipush (v := 500) hx hb dX8_hasRoom_7 (by decide) ?_
  refine lv_icmp_gt (tgt := 17) hx hb dX8_hasRoom_10 (by decide) (fun c2 => ?_) (fun c2 => ?_)
  · have ic2 := (xi_lt c2 (by decide) rfl : 500 < v1.toInt)
    refine lv_iconst (v := 0) hx hb dX8_hasRoom_17 (by decide) ?_
    exact W.zret (v := 0) hx hb hr (by decide) (fun t ht hW => ⟨0, rfl, ⟨⟨(by decide), (by decide)⟩, (by have qr : (0 : Int32).toInt = 0 := (by decide); omega)⟩, ht⟩) (fun _ h => by cases h) dX8_hasRoom_18
  · have ic2 := (xi_nlt c2 (by decide) rfl : v1.toInt ≤ 500)
    refine lv_iconst (v := 1) hx hb dX8_hasRoom_13 (by decide) ?_
    refine lv_goto (tgt := 18) hx hb dX8_hasRoom_14 (by decide) ?_
    exact W.zret (v := 1) hx hb hr (by decide) (fun t ht hW => ⟨1, rfl, ⟨⟨(by decide), (by decide)⟩, (by have qr : (1 : Int32).toInt = 1 := (by decide); omega)⟩, ht⟩) (fun _ h => by cases h) dX8_hasRoom_18
set_option maxHeartbeats 4000000 in
set_option maxRecDepth 100000 in
theorem tX11_feedX (l : Launch) (E : tE) (X : tX) (A : Nat → Prop) (z : tZ) (I0 : tI) (L0 : tL) (a0 : Nat) (t_a0 : z.ty a0 = 12) (a : Int32) (a_t : Int) (h_a : a.toInt = a_t) (b : Int32) (b_t : Int) (h_b : b.toInt = b_t) (c : Int32) (c_t : Int) (h_c : c.toInt = c_t) (d : Int32) (d_t : Int) (h_d : d.toInt = d_t) (f : Int32) (f_t : Int) (h_f : f.toInt = f_t) : Met l yX11_feed wsX11_feed ({ frames := 2, cells := 0, slots := 0, locals := 128 }) (va_Pc [.ref a0, .int a, .int b, .int c, .int d, .int f] (h_P E X A z I0 L0)) (va_Qi (fun r (I1 : tI) => h_I z I1 ∧ h_F [(900, 999), (9, 1)] z I0 I1 ∧ (((I0 (h_ad z a0 0) 1).toInt ≤ 480 ∧ r.toInt = (I0 (h_ad z a0 0) 1).toInt + 20 ∧ (I1 (h_ad z a0 0) 1).toInt = (I0 (h_ad z a0 0) 1).toInt + 20 ∧ I1 (h_ad z (h_ad z a0 0) 0) = q_feed (I0 (h_ad z (h_ad z a0 0) 0)) (I0 (h_ad z a0 0) 1).toInt [a, b, c, d, f]) ∨ (480 < (I0 (h_ad z a0 0) 1).toInt ∧ r.toInt = -3 ∧ (I1 (h_ad z a0 0) 1).toInt = (I0 (h_ad z a0 0) 1).toInt ∧ I1 (h_ad z (h_ad z a0 0) 0) = I0 (h_ad z (h_ad z a0 0) 0)))) (fun (I1 : tI) t => h_B E A z I1 L0 t) A) 0 0 A := by
  refine Met.ofW (cc := cX11_feed) (maxL := 6) (ret := (some .int)) (by decide) rfl ?_
  intro pr_ ev_ s m args below meth cd_ s₁ B hml hv
  obtain ⟨rfl, hE, hk, hX, hA, hK, hI, hR, hB0⟩ := hv
  have g : h_G h_so h_fk E A z I0 L0 s s.heap s.heap [] := ⟨hK, va_S.rf, hB0⟩
  have hF : h_F [(900, 999), (9, 1)] z I0 I0 := h_F.rf
  have hx := B.exec
  have hb := B.bytes
  have hr := B.returns
  have hts := atoms_spec (ws := wsX11_feed) B.pre
  have hown : s.vm.findClass RX11 = some m.cls := findClass_of_methodNamed B.named
  have hlocks := B.notSynchronized
  have iX11 : ∀ w ∈ u_ws RX11 TX11 8, w ∈ wsX11_feed := by decide +kernel
  have iX8 : ∀ w ∈ u_ws RX8 TX8 2, w ∈ wsX11_feed := by decide +kernel
  have hl := lv_entry ([.ref a0, .int a, .int b, .int c, .int d, .int f]) (n := 6) (Nat.le_of_ble_eq_true rfl)
  rw [lg_entry_eq]
  generalize (lg_sl ([.ref a0, .int a, .int b, .int c, .int d, .int f]) ++ List.replicate (6 - (lg_sl ([.ref a0, .int a, .int b, .int c, .int d, .int f])).length) Slot.unset).toArray = ls at hl ⊢
  have hl : lv_has ls 6 [(0, .ref a0), (1, .int a), (2, .int b), (3, .int c), (4, .int d), (5, .int f)] := hl
  have b_a : -2147483648 ≤ a_t ∧ a_t ≤ 2147483647 := h_a ▸ ⟨xi_lo a, Int.le_of_lt_add_one (xi_hi a)⟩
  have b_b : -2147483648 ≤ b_t ∧ b_t ≤ 2147483647 := h_b ▸ ⟨xi_lo b, Int.le_of_lt_add_one (xi_hi b)⟩
  have b_c : -2147483648 ≤ c_t ∧ c_t ≤ 2147483647 := h_c ▸ ⟨xi_lo c, Int.le_of_lt_add_one (xi_hi c)⟩
  have b_d : -2147483648 ≤ d_t ∧ d_t ≤ 2147483647 := h_d ▸ ⟨xi_lo d, Int.le_of_lt_add_one (xi_hi d)⟩
  have b_f : -2147483648 ≤ f_t ∧ f_t ≤ 2147483647 := h_f ▸ ⟨xi_lo f, Int.le_of_lt_add_one (xi_hi f)⟩
  obtain ⟨tp, rtp, ttp⟩ := hR.at a0 0 t_a0 (rfl : h_rs 12 0 = some (9, false)) (by decide)
  have atp : h_ad z a0 0 = tp := h_ad.at rtp
  obtain ⟨bt, rbt, tbt⟩ := hR.at tp 0 ttp (rfl : h_rs 9 0 = some (900, false)) (by decide)
  have abt : h_ad z tp 0 = bt := h_ad.at rbt
  obtain ⟨f0_1, ef0_1⟩ : ∃ v : Int32, v = I0 tp 1 := ⟨_, rfl⟩
  have qf0_1 : (I0 tp 1).toInt = f0_1.toInt := congrArg Int32.toInt ef0_1.symm
  have jf0_1 := hI.rd tp 1 ttp ef0_1 (rfl : h_bd 9 1 = (0, 500))
  refine lv_aload_n hx hb dX11_feed_0 rfl (lv_at hl 0 rfl) ?_
  refine h_get (v := .ref tp) hx hb hts iX11 hown g t_a0 (by decide) so_12 rfl 0 (by decide) (hts (.fieldLink RX11 10 "CapLeague" "tape" "LCapLeague$Tape;") (by decide +kernel)) rfl dX11_feed_1 (by show va_rf (z.R a0 0) = _; rw [rtp]; rfl) ?_
  refine vp_callSi (W.runV (As := []) (rest := []) ⟨hx, hb, hml, hown, hts⟩ (tX8_hasRoomX l E X A z I0 L0 tp ttp) (cwV 0 hts gX11_feed_X8_hasRoom rfl rfl rfl (by decide +kernel) ⟨Nat.le_of_ble_eq_true rfl, Nat.le_of_ble_eq_true rfl⟩) ⟨h_blind _ _ _ _ _ _ _, h_recv g ttp (by decide) so_9 (q := (RX8, TX8, 2)) rfl, h_pre _ hE hk hX hA hI hR g⟩ rfl rfl hl.1 rfl (lv_room (Nat.le_of_ble_eq_true rfl)) dX11_feed_4 ⟨Nat.le_of_ble_eq_true rfl, Nat.le_of_ble_eq_true rfl⟩) (fun rh1 h1 => ?_)
  obtain ⟨h1, h1p0⟩ := h1
  rw [show I0 tp 1 = f0_1 from ef0_1.symm] at h1p0
  refine lv_if_ne (tgt := 13) hx hb dX11_feed_7 (by decide) (fun c2 => ?_) (fun c2 => ?_)
  · have ic2 := (xi_ne c2 rfl (by decide) : rh1.toInt ≠ 0)
    refine lv_aload_n hx hb dX11_feed_13 rfl (lv_at hl 0 rfl) ?_
    refine h_get (v := .ref tp) hx hb hts iX11 hown g t_a0 (by decide) so_12 rfl 0 (by decide) (hts (.fieldLink RX11 10 "CapLeague" "tape" "LCapLeague$Tape;") (by decide +kernel)) rfl dX11_feed_14 (by show va_rf (z.R a0 0) = _; rw [rtp]; rfl) ?_
    refine lv_iload_n hx hb dX11_feed_17 rfl (lv_at hl 1 rfl) ?_
    refine va_callv (va_runV (As := [.int a]) (rest := []) ⟨hx, hb, hml, hown, hts⟩ (tX8_appendX l E X A z I0 L0 tp ttp a (a_t) h_a (by rw [show I0 tp 1 = f0_1 from ef0_1.symm]; omega)) (cwV 1 hts gX11_feed_X8_append rfl rfl rfl (by decide +kernel) ⟨Nat.le_of_ble_eq_true rfl, Nat.le_of_ble_eq_true rfl⟩) ⟨h_blind _ _ _ _ _ _ _, h_recv g ttp (by decide) so_9 (q := (RX8, TX8, 2)) rfl, h_pre _ hE hk hX hA hI hR g⟩ rfl rfl hl.1 rfl (lv_room (Nat.le_of_ble_eq_true rfl)) dX11_feed_18 ⟨Nat.le_of_ble_eq_true rfl, Nat.le_of_ble_eq_true rfl⟩) g.2.1 (fun q _ h => h) (fun q h => h) (fun I4 t H1 locs ht hvm h3 hB hz1 hk1 hS => ?_)
    obtain ⟨hI, fh3, h3⟩ := h3
    replace g := h_after g hB ht hS
    generalize H1 = H at g
    clear hB hk1 hz1 ht hvm hS
    have hF := hF.call fh3 rfl
    obtain ⟨h3p0, h3p1⟩ := h3
    rw [abt, show I0 tp 1 = f0_1 from ef0_1.symm] at h3p1
    rw [show I0 tp 1 = f0_1 from ef0_1.symm] at h3p0
    obtain ⟨v5, ev5⟩ : ∃ v : Int32, v = I4 tp 1 := ⟨_, rfl⟩
    rw [← ev5] at h3p0
    have jv5 := hI.rd tp 1 ttp ev5 (rfl : h_bd 9 1 = (0, 500))
    have rw1 : I4 bt = (q_part (I0 bt) (f0_1.toInt) a 4) := by rw [h3p1, show f0_1.toInt = f0_1.toInt by omega]
    refine lv_aload_n hx hb dX11_feed_21 rfl (lv_at hl 0 rfl) ?_
    refine h_get (v := .ref tp) hx hb hts iX11 hown g t_a0 (by decide) so_12 rfl 0 (by decide) (hts (.fieldLink RX11 10 "CapLeague" "tape" "LCapLeague$Tape;") (by decide +kernel)) rfl dX11_feed_22 (by show va_rf (z.R a0 0) = _; rw [rtp]; rfl) ?_
    refine lv_iload_n hx hb dX11_feed_25 rfl (lv_at hl 2 rfl) ?_
    refine va_callv (va_runV (As := [.int b]) (rest := []) ⟨hx, hb, hml, hown, hts⟩ (tX8_appendX l E X A z I4 L0 tp ttp b (b_t) h_b (by rw [show I4 tp 1 = v5 from ev5.symm]; omega)) (cwV 1 hts gX11_feed_X8_append rfl rfl rfl (by decide +kernel) ⟨Nat.le_of_ble_eq_true rfl, Nat.le_of_ble_eq_true rfl⟩) ⟨h_blind _ _ _ _ _ _ _, h_recv g ttp (by decide) so_9 (q := (RX8, TX8, 2)) rfl, h_pre _ hE hk hX hA hI hR g⟩ rfl rfl hl.1 rfl (lv_room (Nat.le_of_ble_eq_true rfl)) dX11_feed_26 ⟨Nat.le_of_ble_eq_true rfl, Nat.le_of_ble_eq_true rfl⟩) g.2.1 (fun q _ h => h) (fun q h => h) (fun I7 t H1 locs ht hvm h6 hB hz1 hk1 hS => ?_)
    obtain ⟨hI, fh6, h6⟩ := h6
    replace g := h_after g hB ht hS
    generalize H1 = H at g
    clear hB hk1 hz1 ht hvm hS
    have hF := hF.call fh6 rfl
    obtain ⟨h6p0, h6p1⟩ := h6
    rw [abt, show I4 tp 1 = v5 from ev5.symm] at h6p1
    rw [show I4 tp 1 = v5 from ev5.symm] at h6p0
    obtain ⟨v8, ev8⟩ : ∃ v : Int32, v = I7 tp 1 := ⟨_, rfl⟩
    rw [← ev8] at h6p0
    have jv8 := hI.rd tp 1 ttp ev8 (rfl : h_bd 9 1 = (0, 500))
    have rw2 : I7 bt = (q_part (q_part (I0 bt) (f0_1.toInt) a 4) (f0_1.toInt + 4) b 4) := by rw [h6p1, rw1, show v5.toInt = f0_1.toInt + 4 by omega]
    refine lv_aload_n hx hb dX11_feed_29 rfl (lv_at hl 0 rfl) ?_
    refine h_get (v := .ref tp) hx hb hts iX11 hown g t_a0 (by decide) so_12 rfl 0 (by decide) (hts (.fieldLink RX11 10 "CapLeague" "tape" "LCapLeague$Tape;") (by decide +kernel)) rfl dX11_feed_30 (by show va_rf (z.R a0 0) = _; rw [rtp]; rfl) ?_
    refine lv_iload_n hx hb dX11_feed_33 rfl (lv_at hl 3 rfl) ?_
    refine va_callv (va_runV (As := [.int c]) (rest := []) ⟨hx, hb, hml, hown, hts⟩ (tX8_appendX l E X A z I7 L0 tp ttp c (c_t) h_c (by rw [show I7 tp 1 = v8 from ev8.symm]; omega)) (cwV 1 hts gX11_feed_X8_append rfl rfl rfl (by decide +kernel) ⟨Nat.le_of_ble_eq_true rfl, Nat.le_of_ble_eq_true rfl⟩) ⟨h_blind _ _ _ _ _ _ _, h_recv g ttp (by decide) so_9 (q := (RX8, TX8, 2)) rfl, h_pre _ hE hk hX hA hI hR g⟩ rfl rfl hl.1 rfl (lv_room (Nat.le_of_ble_eq_true rfl)) dX11_feed_34 ⟨Nat.le_of_ble_eq_true rfl, Nat.le_of_ble_eq_true rfl⟩) g.2.1 (fun q _ h => h) (fun q h => h) (fun I10 t H1 locs ht hvm h9 hB hz1 hk1 hS => ?_)
    obtain ⟨hI, fh9, h9⟩ := h9
    replace g := h_after g hB ht hS
    generalize H1 = H at g
    clear hB hk1 hz1 ht hvm hS
    have hF := hF.call fh9 rfl
    obtain ⟨h9p0, h9p1⟩ := h9
    rw [abt, show I7 tp 1 = v8 from ev8.symm] at h9p1
    rw [show I7 tp 1 = v8 from ev8.symm] at h9p0
    obtain ⟨v11, ev11⟩ : ∃ v : Int32, v = I10 tp 1 := ⟨_, rfl⟩
    rw [← ev11] at h9p0
    have jv11 := hI.rd tp 1 ttp ev11 (rfl : h_bd 9 1 = (0, 500))
    have rw3 : I10 bt = (q_part (q_part (q_part (I0 bt) (f0_1.toInt) a 4) (f0_1.toInt + 4) b 4) (f0_1.toInt + 4 + 4) c 4) := by rw [h9p1, rw2, show v8.toInt = f0_1.toInt + 4 + 4 by omega]
    refine lv_aload_n hx hb dX11_feed_37 rfl (lv_at hl 0 rfl) ?_
    refine h_get (v := .ref tp) hx hb hts iX11 hown g t_a0 (by decide) so_12 rfl 0 (by decide) (hts (.fieldLink RX11 10 "CapLeague" "tape" "LCapLeague$Tape;") (by decide +kernel)) rfl dX11_feed_38 (by show va_rf (z.R a0 0) = _; rw [rtp]; rfl) ?_
    refine lv_iload hx hb dX11_feed_41 (lv_at hl 4 rfl) ?_
    refine va_callv (va_runV (As := [.int d]) (rest := []) ⟨hx, hb, hml, hown, hts⟩ (tX8_appendX l E X A z I10 L0 tp ttp d (d_t) h_d (by rw [show I10 tp 1 = v11 from ev11.symm]; omega)) (cwV 1 hts gX11_feed_X8_append rfl rfl rfl (by decide +kernel) ⟨Nat.le_of_ble_eq_true rfl, Nat.le_of_ble_eq_true rfl⟩) ⟨h_blind _ _ _ _ _ _ _, h_recv g ttp (by decide) so_9 (q := (RX8, TX8, 2)) rfl, h_pre _ hE hk hX hA hI hR g⟩ rfl rfl hl.1 rfl (lv_room (Nat.le_of_ble_eq_true rfl)) dX11_feed_43 ⟨Nat.le_of_ble_eq_true rfl, Nat.le_of_ble_eq_true rfl⟩) g.2.1 (fun q _ h => h) (fun q h => h) (fun I13 t H1 locs ht hvm h12 hB hz1 hk1 hS => ?_)
    obtain ⟨hI, fh12, h12⟩ := h12
    replace g := h_after g hB ht hS
    generalize H1 = H at g
    clear hB hk1 hz1 ht hvm hS
    have hF := hF.call fh12 rfl
    obtain ⟨h12p0, h12p1⟩ := h12
    rw [abt, show I10 tp 1 = v11 from ev11.symm] at h12p1
    rw [show I10 tp 1 = v11 from ev11.symm] at h12p0
    obtain ⟨v14, ev14⟩ : ∃ v : Int32, v = I13 tp 1 := ⟨_, rfl⟩
    rw [← ev14] at h12p0
    have jv14 := hI.rd tp 1 ttp ev14 (rfl : h_bd 9 1 = (0, 500))
    have rw4 : I13 bt = (q_part (q_part (q_part (q_part (I0 bt) (f0_1.toInt) a 4) (f0_1.toInt + 4) b 4) (f0_1.toInt + 4 + 4) c 4) (f0_1.toInt + 4 + 4 + 4) d 4) := by rw [h12p1, rw3, show v11.toInt = f0_1.toInt + 4 + 4 + 4 by omega]
    refine lv_aload_n hx hb dX11_feed_46 rfl (lv_at hl 0 rfl) ?_
    refine h_get (v := .ref tp) hx hb hts iX11 hown g t_a0 (by decide) so_12 rfl 0 (by decide) (hts (.fieldLink RX11 10 "CapLeague" "tape" "LCapLeague$Tape;") (by decide +kernel)) rfl dX11_feed_47 (by show va_rf (z.R a0 0) = _; rw [rtp]; rfl) ?_
    refine lv_iload hx hb dX11_feed_50 (lv_at hl 5 rfl) ?_
    refine va_callv (va_runV (As := [.int f]) (rest := []) ⟨hx, hb, hml, hown, hts⟩ (tX8_appendX l E X A z I13 L0 tp ttp f (f_t) h_f (by rw [show I13 tp 1 = v14 from ev14.symm]; omega)) (cwV 1 hts gX11_feed_X8_append rfl rfl rfl (by decide +kernel) ⟨Nat.le_of_ble_eq_true rfl, Nat.le_of_ble_eq_true rfl⟩) ⟨h_blind _ _ _ _ _ _ _, h_recv g ttp (by decide) so_9 (q := (RX8, TX8, 2)) rfl, h_pre _ hE hk hX hA hI hR g⟩ rfl rfl hl.1 rfl (lv_room (Nat.le_of_ble_eq_true rfl)) dX11_feed_52 ⟨Nat.le_of_ble_eq_true rfl, Nat.le_of_ble_eq_true rfl⟩) g.2.1 (fun q _ h => h) (fun q h => h) (fun I16 t H1 locs ht hvm h15 hB hz1 hk1 hS => ?_)
    obtain ⟨hI, fh15, h15⟩ := h15
    replace g := h_after g hB ht hS
    generalize H1 = H at g
    clear hB hk1 hz1 ht hvm hS
    have hF := hF.call fh15 rfl
    obtain ⟨h15p0, h15p1⟩ := h15
    rw [abt, show I13 tp 1 = v14 from ev14.symm] at h15p1
    rw [show I13 tp 1 = v14 from ev14.symm] at h15p0
    obtain ⟨v17, ev17⟩ : ∃ v : Int32, v = I16 tp 1 := ⟨_, rfl⟩
    rw [← ev17] at h15p0
    have jv17 := hI.rd tp 1 ttp ev17 (rfl : h_bd 9 1 = (0, 500))
    have rw5 : I16 bt = (q_part (q_part (q_part (q_part (q_part (I0 bt) (f0_1.toInt) a 4) (f0_1.toInt + 4) b 4) (f0_1.toInt + 4 + 4) c 4) (f0_1.toInt + 4 + 4 + 4) d 4) (f0_1.toInt + 4 + 4 + 4 + 4) f 4) := by rw [h15p1, rw4, show v14.toInt = f0_1.toInt + 4 + 4 + 4 + 4 by omega]
    refine lv_aload_n hx hb dX11_feed_55 rfl (lv_at hl 0 rfl) ?_
    refine h_get (v := .ref tp) hx hb hts iX11 hown g t_a0 (by decide) so_12 rfl 0 (by decide) (hts (.fieldLink RX11 10 "CapLeague" "tape" "LCapLeague$Tape;") (by decide +kernel)) rfl dX11_feed_56 (by show va_rf (z.R a0 0) = _; rw [rtp]; rfl) ?_
    refine h_get (v := .int v17) hx hb hts iX8 hown g ttp (by decide) so_9 rfl 1 (by decide) (hts (.fieldLink RX11 81 "CapLeague$Tape" "size" "I") (by decide +kernel)) rfl dX11_feed_59 (congrArg Value.int (ev17.symm)) ?_
    have hS := g.2.1
    exact W.iret (v := v17) hx hb hr (fun t ht hW => ⟨⟨v17, I16, rfl, ⟨hI, hF, (by rw [atp, abt, qf0_1]; exact Or.inl ⟨by omega, by omega, by rw [show I16 tp 1 = v17 from ev17.symm]; omega, by rw [rw5]; rfl⟩)⟩, h_ret g ht⟩, hS.F ht⟩) hS.2.2 dX11_feed_62
  · have ic2 := (xi_eq c2 rfl (by decide) : rh1.toInt = 0)
    refine lv_bipush (v := (-3)) hx hb dX11_feed_10 (by decide) ?_
    have hS := g.2.1
    exact W.iret (v := (-3)) hx hb hr (fun t ht hW => ⟨⟨(-3), I0, rfl, ⟨hI, hF, (by rw [atp, abt, qf0_1]; exact Or.inr ⟨by omega, by decide, rfl, rfl⟩)⟩, h_ret g ht⟩, hS.F ht⟩) hS.2.2 dX11_feed_12
set_option maxHeartbeats 4000000 in
set_option maxRecDepth 100000 in
theorem tX12_feedX (l : Launch) (E : tE) (X : tX) (A : Nat → Prop) (z : tZ) (I0 : tI) (L0 : tL) (a0 : Nat) (t_a0 : z.ty a0 = 13) (a : Int32) (a_t : Int) (h_a : a.toInt = a_t) (b : Int32) (b_t : Int) (h_b : b.toInt = b_t) (c : Int32) (c_t : Int) (h_c : c.toInt = c_t) (d : Int32) (d_t : Int) (h_d : d.toInt = d_t) (f : Int32) (f_t : Int) (h_f : f.toInt = f_t) : Met l yX12_feed wsX12_feed ({ frames := 1, cells := 0, slots := 0, locals := 64 }) (va_Pc [.ref a0, .int a, .int b, .int c, .int d, .int f] (h_P E X A z I0 L0)) (va_Qi (fun r (I1 : tI) => h_I z I1 ∧ h_F [(1300, 999), (13, 1)] z I0 I1 ∧ (((I0 a0 1).toInt ≤ 480 ∧ r.toInt = (I0 a0 1).toInt + 20 ∧ (I1 a0 1).toInt = (I0 a0 1).toInt + 20 ∧ I1 (h_ad z a0 0) = q_feed (I0 (h_ad z a0 0)) (I0 a0 1).toInt [a, b, c, d, f]) ∨ (480 < (I0 a0 1).toInt ∧ r.toInt = -3 ∧ (I1 a0 1).toInt = (I0 a0 1).toInt ∧ I1 (h_ad z a0 0) = I0 (h_ad z a0 0)))) (fun (I1 : tI) t => h_B E A z I1 L0 t) A) 0 0 A := by
  refine Met.ofW (cc := cX12_feed) (maxL := 9) (ret := (some .int)) (by decide) rfl ?_
  intro pr_ ev_ s m args below meth cd_ s₁ B hml hv
  obtain ⟨rfl, hE, hk, hX, hA, hK, hI, hR, hB0⟩ := hv
  have g : h_G h_so h_fk E A z I0 L0 s s.heap s.heap [] := ⟨hK, va_S.rf, hB0⟩
  have hF : h_F [(1300, 999), (13, 1)] z I0 I0 := h_F.rf
  have hx := B.exec
  have hb := B.bytes
  have hr := B.returns
  have hts := atoms_spec (ws := wsX12_feed) B.pre
  have hown : s.vm.findClass RX12 = some m.cls := findClass_of_methodNamed B.named
  have hlocks := B.notSynchronized
  have iX12 : ∀ w ∈ u_ws RX12 TX12 51, w ∈ wsX12_feed := by decide +kernel
  have hl := lv_entry ([.ref a0, .int a, .int b, .int c, .int d, .int f]) (n := 9) (Nat.le_of_ble_eq_true rfl)
  rw [lg_entry_eq]
  generalize (lg_sl ([.ref a0, .int a, .int b, .int c, .int d, .int f]) ++ List.replicate (9 - (lg_sl ([.ref a0, .int a, .int b, .int c, .int d, .int f])).length) Slot.unset).toArray = ls at hl ⊢
  have hl : lv_has ls 9 [(0, .ref a0), (1, .int a), (2, .int b), (3, .int c), (4, .int d), (5, .int f)] := hl
  have b_a : -2147483648 ≤ a_t ∧ a_t ≤ 2147483647 := h_a ▸ ⟨xi_lo a, Int.le_of_lt_add_one (xi_hi a)⟩
  have b_b : -2147483648 ≤ b_t ∧ b_t ≤ 2147483647 := h_b ▸ ⟨xi_lo b, Int.le_of_lt_add_one (xi_hi b)⟩
  have b_c : -2147483648 ≤ c_t ∧ c_t ≤ 2147483647 := h_c ▸ ⟨xi_lo c, Int.le_of_lt_add_one (xi_hi c)⟩
  have b_d : -2147483648 ≤ d_t ∧ d_t ≤ 2147483647 := h_d ▸ ⟨xi_lo d, Int.le_of_lt_add_one (xi_hi d)⟩
  have b_f : -2147483648 ≤ f_t ∧ f_t ≤ 2147483647 := h_f ▸ ⟨xi_lo f, Int.le_of_lt_add_one (xi_hi f)⟩
  obtain ⟨bt, rbt, tbt⟩ := hR.at a0 0 t_a0 (rfl : h_rs 13 0 = some (1300, false)) (by decide)
  have abt : h_ad z a0 0 = bt := h_ad.at rbt
  obtain ⟨f0_1, ef0_1⟩ : ∃ v : Int32, v = I0 a0 1 := ⟨_, rfl⟩
  have qf0_1 : (I0 a0 1).toInt = f0_1.toInt := congrArg Int32.toInt ef0_1.symm
  have jf0_1 := hI.rd a0 1 t_a0 ef0_1 (rfl : h_bd 13 1 = (0, 500))
  obtain ⟨fr, efr⟩ : ∃ f : Nat → Int32, f = I0 bt := ⟨_, rfl⟩
  refine lv_aload_n hx hb dX12_feed_0 rfl (lv_at hl 0 rfl) ?_
  refine h_get (v := .int f0_1) hx hb hts iX12 hown g t_a0 (by decide) so_13 rfl 1 (by decide) (hts (.fieldLink RX12 119 "CapLeagueModel" "taped" "I") (by decide +kernel)) rfl dX12_feed_1 (congrArg Value.int (ef0_1.symm)) ?_
  refine lv_bipush (v := 20) hx hb dX12_feed_4 (by decide) ?_
  refine lv_iadd hx hb dX12_feed_6 ?_
  refine lv_topi (fun v1 ev1 => ?_)
  have jv1 : v1.toInt = f0_1.toInt + 20 := xi_add ev1 rfl (by decide) (by omega) (by omega)
  refine lv_sipush (v := 500) hx hb dX12_feed_7 (by decide) ?_
  refine lv_icmp_le (tgt := 16) hx hb dX12_feed_10 (by decide) (fun c2 => ?_) (fun c2 => ?_)
  · have ic2 := (xi_le c2 rfl (by decide) : v1.toInt ≤ 500)
    have hro : I0 bt = fr := efr.symm
    refine lv_iconst (v := 0) hx hb dX12_feed_16 (by decide) ?_
    refine lv_istore (lv' := [(6, .int 0), (0, .ref a0), (1, .int a), (2, .int b), (3, .int c), (4, .int d), (5, .int f)]) hx hb dX12_feed_17 hl (by decide) rfl (fun ls hl => ?_)
    have loop19_0 : ∀ (n : Nat) (I4 : tI) (H : Heap) (locs : List Loc) (ls : Array Slot) (v3 : Int32) (F5 : Nat → Int32), h_G h_so h_fk E A z I4 L0 s s.heap H locs → h_I z I4 → h_F [(1300, 999), (13, 1)] z I0 I4 → lv_has ls 9 [(0, .ref a0), (1, .int a), (2, .int b), (3, .int c), (4, .int d), (5, .int f), (6, .int v3)] → (0 ≤ v3.toInt ∧ v3.toInt ≤ 5) → ((I4 a0 1).toInt = f0_1.toInt + 4 * v3.toInt) → (q_feed fr f0_1.toInt [a, b, c, d, f] = q_feed F5 (f0_1.toInt + 4 * v3.toInt) ([a, b, c, d, f].drop (v3.toInt).toNat)) → (I4 bt = F5) → (5 - v3.toInt) < (n : Int) → W pr_ l ev_ (headSpec wsX12_feed ({ frames := 1, cells := 0, slots := 0, locals := 64 })).room s m ([.ref a0, .int a, .int b, .int c, .int d, .int f] : List Value).toArray below meth cd_ H locs 0 0 (MQ below (va_Qi (fun r (I1 : tI) => h_I z I1 ∧ h_F [(1300, 999), (13, 1)] z I0 I1 ∧ (((I0 a0 1).toInt ≤ 480 ∧ r.toInt = (I0 a0 1).toInt + 20 ∧ (I1 a0 1).toInt = (I0 a0 1).toInt + 20 ∧ I1 (h_ad z a0 0) = q_feed (I0 (h_ad z a0 0)) (I0 a0 1).toInt [a, b, c, d, f]) ∨ (480 < (I0 a0 1).toInt ∧ r.toInt = -3 ∧ (I1 a0 1).toInt = (I0 a0 1).toInt ∧ I1 (h_ad z a0 0) = I0 (h_ad z a0 0)))) (fun (I1 : tI) t => h_B E A z I1 L0 t) A) ([.ref a0, .int a, .int b, .int c, .int d, .int f] : List Value).toArray s 0 0 A) (F0 m 19 ls []) := by
      intro n
      induction n with
      | zero => intro I4 H locs ls v3 F5 g hI hF hl jv3 hx19_0 hx19_1 hro hn; exact absurd hn (by omega)
      | succ n ih19 =>
        intro I4 H locs ls v3 F5 g hI hF hl jv3 hx19_0 hx19_1 hro hn
        obtain ⟨v6, ev6⟩ : ∃ v : Int32, v = I4 a0 1 := ⟨_, rfl⟩
        rw [← ev6] at hx19_0
        have jv6 := hI.rd a0 1 t_a0 ev6 (rfl : h_bd 13 1 = (0, 500))
        refine lv_iload hx hb dX12_feed_19 (lv_at hl 6 rfl) ?_
        refine lv_iconst (v := 5) hx hb dX12_feed_21 (by decide) ?_
        refine lv_icmp_ge (tgt := 115) hx hb dX12_feed_22 (by decide) (fun c7 => ?_) (fun c7 => ?_)
        · have ic7 := (xi_le c7 (by decide) rfl : 5 ≤ v3.toInt)
          refine lv_aload_n hx hb dX12_feed_115 rfl (lv_at hl 0 rfl) ?_
          refine h_get (v := .int v6) hx hb hts iX12 hown g t_a0 (by decide) so_13 rfl 1 (by decide) (hts (.fieldLink RX12 119 "CapLeagueModel" "taped" "I") (by decide +kernel)) rfl dX12_feed_116 (congrArg Value.int (ev6.symm)) ?_
          have hS := g.2.1
          exact W.iret (v := v6) hx hb hr (fun t ht hW => ⟨⟨v6, I4, rfl, ⟨hI, hF, (by rw [abt, qf0_1]; exact Or.inl ⟨by omega, by omega, by rw [show I4 a0 1 = v6 from ev6.symm]; omega, by rw [hro, ← efr, hx19_1, show (v3.toInt).toNat = 5 by omega]; rfl⟩)⟩, h_ret g ht⟩, hS.F ht⟩) hS.2.2 dX12_feed_119
        · have ic7 := (xi_nle c7 (by decide) rfl : v3.toInt < 5)
          refine lv_iload hx hb dX12_feed_25 (lv_at hl 6 rfl) ?_
          refine lv_if_ne (tgt := 34) hx hb dX12_feed_27 (by decide) (fun c8 => ?_) (fun c8 => ?_)
          · have ic8 := (xi_ne c8 rfl (by decide) : v3.toInt ≠ 0)
            refine lv_iload hx hb dX12_feed_34 (lv_at hl 6 rfl) ?_
            refine lv_iconst (v := 1) hx hb dX12_feed_36 (by decide) ?_
            refine lv_icmp_ne (tgt := 44) hx hb dX12_feed_37 (by decide) (fun c9 => ?_) (fun c9 => ?_)
            · have ic9 := (xi_ne c9 rfl (by decide) : v3.toInt ≠ 1)
              refine lv_iload hx hb dX12_feed_44 (lv_at hl 6 rfl) ?_
              refine lv_iconst (v := 2) hx hb dX12_feed_46 (by decide) ?_
              refine lv_icmp_ne (tgt := 54) hx hb dX12_feed_47 (by decide) (fun c10 => ?_) (fun c10 => ?_)
              · have ic10 := (xi_ne c10 rfl (by decide) : v3.toInt ≠ 2)
                refine lv_iload hx hb dX12_feed_54 (lv_at hl 6 rfl) ?_
                refine lv_iconst (v := 3) hx hb dX12_feed_56 (by decide) ?_
                refine lv_icmp_ne (tgt := 65) hx hb dX12_feed_57 (by decide) (fun c11 => ?_) (fun c11 => ?_)
                · have ic11 := (xi_ne c11 rfl (by decide) : v3.toInt ≠ 3)
                  refine lv_iload hx hb dX12_feed_65 (lv_at hl 5 rfl) ?_
                  refine lv_istore (lv' := [(7, .int f), (0, .ref a0), (1, .int a), (2, .int b), (3, .int c), (4, .int d), (5, .int f), (6, .int v3)]) hx hb dX12_feed_67 hl (by decide) rfl (fun ls hl => ?_)
                  refine lv_bipush (v := 24) hx hb dX12_feed_69 (by decide) ?_
                  refine lv_istore (lv' := [(8, .int 24), (7, .int f), (0, .ref a0), (1, .int a), (2, .int b), (3, .int c), (4, .int d), (5, .int f), (6, .int v3)]) hx hb dX12_feed_71 hl (by decide) rfl (fun ls hl => ?_)
                  have loop73_1 : ∀ (n : Nat) (I13 : tI) (H : Heap) (locs : List Loc) (ls : Array Slot) (v12 : Int32), h_G h_so h_fk E A z I13 L0 s s.heap H locs → h_I z I13 → h_F [(1300, 999), (13, 1)] z I0 I13 → lv_has ls 9 [(0, .ref a0), (1, .int a), (2, .int b), (3, .int c), (4, .int d), (5, .int f), (6, .int v3), (7, .int f), (8, .int v12)] → ((-8) ≤ v12.toInt ∧ v12.toInt ≤ 24) → (8 * (I13 a0 1).toInt = 8 * (f0_1.toInt + 4 * v3.toInt) + 24 - v12.toInt) → (v12.toInt % 8 = 0 ∧ v12.toInt ≤ 24 ∧ -8 ≤ v12.toInt) → (I13 bt = q_part F5 (f0_1.toInt + 4 * v3.toInt) f ((24 - v12.toInt) / 8)) → (v12.toInt + 8) < (n : Int) → W pr_ l ev_ (headSpec wsX12_feed ({ frames := 1, cells := 0, slots := 0, locals := 64 })).room s m ([.ref a0, .int a, .int b, .int c, .int d, .int f] : List Value).toArray below meth cd_ H locs 0 0 (MQ below (va_Qi (fun r (I1 : tI) => h_I z I1 ∧ h_F [(1300, 999), (13, 1)] z I0 I1 ∧ (((I0 a0 1).toInt ≤ 480 ∧ r.toInt = (I0 a0 1).toInt + 20 ∧ (I1 a0 1).toInt = (I0 a0 1).toInt + 20 ∧ I1 (h_ad z a0 0) = q_feed (I0 (h_ad z a0 0)) (I0 a0 1).toInt [a, b, c, d, f]) ∨ (480 < (I0 a0 1).toInt ∧ r.toInt = -3 ∧ (I1 a0 1).toInt = (I0 a0 1).toInt ∧ I1 (h_ad z a0 0) = I0 (h_ad z a0 0)))) (fun (I1 : tI) t => h_B E A z I1 L0 t) A) ([.ref a0, .int a, .int b, .int c, .int d, .int f] : List Value).toArray s 0 0 A) (F0 m 73 ls []) := by
                    intro n
                    induction n with
                    | zero => intro I13 H locs ls v12 g hI hF hl jv12 hx73_0 hx73_1 hx73_2 hn; exact absurd hn (by omega)
                    | succ n ih73 =>
                      intro I13 H locs ls v12 g hI hF hl jv12 hx73_0 hx73_1 hx73_2 hn
                      obtain ⟨v14, ev14⟩ : ∃ v : Int32, v = I13 a0 1 := ⟨_, rfl⟩
                      rw [← ev14] at hx73_0
                      have jv14 := hI.rd a0 1 t_a0 ev14 (rfl : h_bd 13 1 = (0, 500))
                      refine lv_iload hx hb dX12_feed_73 (lv_at hl 8 rfl) ?_
                      refine lv_if_lt (tgt := 109) hx hb dX12_feed_75 (by decide) (fun c15 => ?_) (fun c15 => ?_)
                      · have ic15 := (xi_lt c15 rfl (by decide) : v12.toInt < 0)
                        have hro : I13 bt = (q_part F5 (f0_1.toInt + 4 * v3.toInt) f 4) := by rw [hx73_2]; congr 1; omega
                        obtain ⟨v16, ev16⟩ : ∃ z : Int32, z = v3 + 1 := ⟨_, rfl⟩
                        have jv16 : v16.toInt = v3.toInt + 1 := xi_add ev16 rfl (by decide) (by omega) (by omega)
                        refine lv_iinc (v := v16) (lv' := [(6, .int v16), (0, .ref a0), (1, .int a), (2, .int b), (3, .int c), (4, .int d), (5, .int f), (7, .int f), (8, .int v12)]) hx hb dX12_feed_109 hl (k := 6) rfl (by rw [ev16]; rfl) (by decide) rfl (fun ls hl => ?_)
                        refine lv_goto (tgt := 19) hx hb dX12_feed_112 (by decide) ?_
                        have k17 : (I13 a0 1).toInt = v14.toInt := (congrArg Int32.toInt (ev14.symm)).trans rfl
                        have o19s : q_feed F5 (f0_1.toInt + 4 * v3.toInt) ([a, b, c, d, f].drop (v3.toInt).toNat) = q_feed (q_part F5 (f0_1.toInt + 4 * v3.toInt) f 4) (f0_1.toInt + 4 * v16.toInt) ([a, b, c, d, f].drop (v16.toInt).toNat) := by rw [show (v3.toInt).toNat = 4 by omega, show (v16.toInt).toNat = 5 by omega, show f0_1.toInt + 4 * v16.toInt = f0_1.toInt + 4 * v3.toInt + 4 by omega]; rfl
                        exact ih19 I13 _ _ _ v16 ((q_part F5 (f0_1.toInt + 4 * v3.toInt) f 4)) g hI hF (lv_sub hl [1, 2, 3, 4, 5, 6, 0] rfl) (by omega) (by omega) (hx19_1.trans o19s) hro (by omega)
                      · have ic15 := (xi_nlt c15 rfl (by decide) : 0 ≤ v12.toInt)
                        refine lv_aload_n hx hb dX12_feed_78 rfl (lv_at hl 0 rfl) ?_
                        refine h_get (v := .ref bt) hx hb hts iX12 hown g t_a0 (by decide) so_13 rfl 0 (by decide) (hts (.fieldLink RX12 7 "CapLeagueModel" "tape" "[B") (by decide +kernel)) rfl dX12_feed_79 (by show va_rf (z.R a0 0) = _; rw [rbt]; rfl) ?_
                        refine lv_aload_n hx hb dX12_feed_82 rfl (lv_at hl 0 rfl) ?_
                        refine h_get (v := .int v14) hx hb hts iX12 hown g t_a0 (by decide) so_13 rfl 1 (by decide) (hts (.fieldLink RX12 119 "CapLeagueModel" "taped" "I") (by decide +kernel)) rfl dX12_feed_83 (congrArg Value.int (ev14.symm)) ?_
                        refine lv_iload hx hb dX12_feed_86 (lv_at hl 7 rfl) ?_
                        refine lv_iload hx hb dX12_feed_88 (lv_at hl 8 rfl) ?_
                        refine lv_ishr hx hb dX12_feed_90 ?_
                        refine lv_topi (fun v18 ev18 => ?_)
                        refine lv_i2b hx hb dX12_feed_91 rfl ?_
                        refine lv_topi (fun v19 ev19 => ?_)
                        have jv19 : -2147483648 ≤ v19.toInt ∧ v19.toInt ≤ 2147483647 := ⟨xi_lo _, Int.le_of_lt_add_one (xi_hi _)⟩
                        refine h_bast hx hb g tbt (by decide) so_1300 (xi_in (by omega) (by omega)) dX12_feed_92 (fun I20 H locs eI20 g => ?_)
                        have hI := hI.wr eI20 tbt (rfl : h_bd 1300 _ = (-128, 127)) (h_ny _).1 (h_ny _).2
                        have hF := hF.wr eI20 tbt rfl
                        refine lv_aload_n hx hb dX12_feed_93 rfl (lv_at hl 0 rfl) ?_
                        refine lv_dup hx hb dX12_feed_94 rfl ?_
                        refine h_get (v := .int v14) hx hb hts iX12 hown g t_a0 (by decide) so_13 rfl 1 (by decide) (hts (.fieldLink RX12 119 "CapLeagueModel" "taped" "I") (by decide +kernel)) rfl dX12_feed_95 (congrArg Value.int ((h_n1 eI20 t_a0 tbt (by decide)).trans (ev14.symm))) ?_
                        refine lv_iconst (v := 1) hx hb dX12_feed_98 (by decide) ?_
                        refine lv_iadd hx hb dX12_feed_99 ?_
                        refine lv_topi (fun v21 ev21 => ?_)
                        have jv21 : v21.toInt = v14.toInt + 1 := xi_add ev21 rfl (by decide) (by omega) (by omega)
                        refine h_putI (ty := .int) (v := v21) hx hb hts iX12 tyX12 tyX12_ok nmX12 hown g t_a0 (by decide) so_13 rfl 1 (by decide) rfl (hts (.fieldLink RX12 119 "CapLeagueModel" "taped" "I") (by decide +kernel)) rfl rfl (by decide +kernel) rfl rfl dX12_feed_100 (fun I22 H locs eI22 g => ?_)
                        have hI := hI.wr eI22 t_a0 (rfl : h_bd 13 1 = (0, 500)) (by omega) (by omega)
                        have hF := hF.wr eI22 t_a0 rfl
                        obtain ⟨v23, ev23⟩ : ∃ z : Int32, z = v12 + (-8) := ⟨_, rfl⟩
                        have jv23 : v23.toInt = v12.toInt + (-8) := xi_add ev23 rfl (by decide) (by omega) (by omega)
                        refine lv_iinc (v := v23) (lv' := [(8, .int v23), (0, .ref a0), (1, .int a), (2, .int b), (3, .int c), (4, .int d), (5, .int f), (6, .int v3), (7, .int f)]) hx hb dX12_feed_103 hl (k := 8) rfl (by rw [ev23]; rfl) (by decide) rfl (fun ls hl => ?_)
                        refine lv_goto (tgt := 73) hx hb dX12_feed_106 (by decide) ?_
                        have k24 : (I22 a0 1).toInt = v21.toInt := (congrArg Int32.toInt (h_n0 eI22)).trans rfl
                        exact ih73 I22 _ _ _ v23 g hI hF (lv_sub hl [1, 2, 3, 4, 5, 6, 7, 8, 0] rfl) (by omega) (by omega) (by omega) ((funext (fun k => h_n1 eI22 tbt t_a0 (by decide))).trans (q_partS (f := F5) (n := f0_1.toInt + 4 * v3.toInt) (j := (24 - v12.toInt) / 8) (t := v12.toInt) hx73_2 eI20 (by omega) (by omega) (by omega) rfl (by omega) ev18 ev19 (by omega))) (by omega)
                  have kc25 : (24 : Int32).toInt = 24 := by decide
                  have k26 : (I4 a0 1).toInt = v6.toInt := (congrArg Int32.toInt (ev6.symm)).trans rfl
                  exact loop73_1 _ I4 _ _ _ (24) g hI hF (lv_sub hl [2, 3, 4, 5, 6, 7, 8, 1, 0] rfl) ⟨by decide, by decide⟩ (by omega) (by omega) (hro.trans (q_part0 (by decide)).symm) (show ((24 : Int) + 8) < ((((24 : Int) + 8).toNat + 1 : Nat) : Int) by omega)
                · have ic11 := (xi_eq c11 rfl (by decide) : v3.toInt = 3)
                  refine lv_iload hx hb dX12_feed_60 (lv_at hl 4 rfl) ?_
                  refine lv_goto (tgt := 67) hx hb dX12_feed_62 (by decide) ?_
                  refine lv_istore (lv' := [(7, .int d), (0, .ref a0), (1, .int a), (2, .int b), (3, .int c), (4, .int d), (5, .int f), (6, .int v3)]) hx hb dX12_feed_67 hl (by decide) rfl (fun ls hl => ?_)
                  refine lv_bipush (v := 24) hx hb dX12_feed_69 (by decide) ?_
                  refine lv_istore (lv' := [(8, .int 24), (7, .int d), (0, .ref a0), (1, .int a), (2, .int b), (3, .int c), (4, .int d), (5, .int f), (6, .int v3)]) hx hb dX12_feed_71 hl (by decide) rfl (fun ls hl => ?_)
                  have loop73_2 : ∀ (n : Nat) (I28 : tI) (H : Heap) (locs : List Loc) (ls : Array Slot) (v27 : Int32), h_G h_so h_fk E A z I28 L0 s s.heap H locs → h_I z I28 → h_F [(1300, 999), (13, 1)] z I0 I28 → lv_has ls 9 [(0, .ref a0), (1, .int a), (2, .int b), (3, .int c), (4, .int d), (5, .int f), (6, .int v3), (7, .int d), (8, .int v27)] → ((-8) ≤ v27.toInt ∧ v27.toInt ≤ 24) → (8 * (I28 a0 1).toInt = 8 * (f0_1.toInt + 4 * v3.toInt) + 24 - v27.toInt) → (v27.toInt % 8 = 0 ∧ v27.toInt ≤ 24 ∧ -8 ≤ v27.toInt) → (I28 bt = q_part F5 (f0_1.toInt + 4 * v3.toInt) d ((24 - v27.toInt) / 8)) → (v27.toInt + 8) < (n : Int) → W pr_ l ev_ (headSpec wsX12_feed ({ frames := 1, cells := 0, slots := 0, locals := 64 })).room s m ([.ref a0, .int a, .int b, .int c, .int d, .int f] : List Value).toArray below meth cd_ H locs 0 0 (MQ below (va_Qi (fun r (I1 : tI) => h_I z I1 ∧ h_F [(1300, 999), (13, 1)] z I0 I1 ∧ (((I0 a0 1).toInt ≤ 480 ∧ r.toInt = (I0 a0 1).toInt + 20 ∧ (I1 a0 1).toInt = (I0 a0 1).toInt + 20 ∧ I1 (h_ad z a0 0) = q_feed (I0 (h_ad z a0 0)) (I0 a0 1).toInt [a, b, c, d, f]) ∨ (480 < (I0 a0 1).toInt ∧ r.toInt = -3 ∧ (I1 a0 1).toInt = (I0 a0 1).toInt ∧ I1 (h_ad z a0 0) = I0 (h_ad z a0 0)))) (fun (I1 : tI) t => h_B E A z I1 L0 t) A) ([.ref a0, .int a, .int b, .int c, .int d, .int f] : List Value).toArray s 0 0 A) (F0 m 73 ls []) := by
                    intro n
                    induction n with
                    | zero => intro I28 H locs ls v27 g hI hF hl jv27 hx73_0 hx73_1 hx73_2 hn; exact absurd hn (by omega)
                    | succ n ih73 =>
                      intro I28 H locs ls v27 g hI hF hl jv27 hx73_0 hx73_1 hx73_2 hn
                      obtain ⟨v29, ev29⟩ : ∃ v : Int32, v = I28 a0 1 := ⟨_, rfl⟩
                      rw [← ev29] at hx73_0
                      have jv29 := hI.rd a0 1 t_a0 ev29 (rfl : h_bd 13 1 = (0, 500))
                      refine lv_iload hx hb dX12_feed_73 (lv_at hl 8 rfl) ?_
                      refine lv_if_lt (tgt := 109) hx hb dX12_feed_75 (by decide) (fun c30 => ?_) (fun c30 => ?_)
                      · have ic30 := (xi_lt c30 rfl (by decide) : v27.toInt < 0)
                        have hro : I28 bt = (q_part F5 (f0_1.toInt + 4 * v3.toInt) d 4) := by rw [hx73_2]; congr 1; omega
                        obtain ⟨v31, ev31⟩ : ∃ z : Int32, z = v3 + 1 := ⟨_, rfl⟩
                        have jv31 : v31.toInt = v3.toInt + 1 := xi_add ev31 rfl (by decide) (by omega) (by omega)
                        refine lv_iinc (v := v31) (lv' := [(6, .int v31), (0, .ref a0), (1, .int a), (2, .int b), (3, .int c), (4, .int d), (5, .int f), (7, .int d), (8, .int v27)]) hx hb dX12_feed_109 hl (k := 6) rfl (by rw [ev31]; rfl) (by decide) rfl (fun ls hl => ?_)
                        refine lv_goto (tgt := 19) hx hb dX12_feed_112 (by decide) ?_
                        have k32 : (I28 a0 1).toInt = v29.toInt := (congrArg Int32.toInt (ev29.symm)).trans rfl
                        have o19s : q_feed F5 (f0_1.toInt + 4 * v3.toInt) ([a, b, c, d, f].drop (v3.toInt).toNat) = q_feed (q_part F5 (f0_1.toInt + 4 * v3.toInt) d 4) (f0_1.toInt + 4 * v31.toInt) ([a, b, c, d, f].drop (v31.toInt).toNat) := by rw [show (v3.toInt).toNat = 3 by omega, show (v31.toInt).toNat = 4 by omega, show f0_1.toInt + 4 * v31.toInt = f0_1.toInt + 4 * v3.toInt + 4 by omega]; rfl
                        exact ih19 I28 _ _ _ v31 ((q_part F5 (f0_1.toInt + 4 * v3.toInt) d 4)) g hI hF (lv_sub hl [1, 2, 3, 4, 5, 6, 0] rfl) (by omega) (by omega) (hx19_1.trans o19s) hro (by omega)
                      · have ic30 := (xi_nlt c30 rfl (by decide) : 0 ≤ v27.toInt)
                        refine lv_aload_n hx hb dX12_feed_78 rfl (lv_at hl 0 rfl) ?_
                        refine h_get (v := .ref bt) hx hb hts iX12 hown g t_a0 (by decide) so_13 rfl 0 (by decide) (hts (.fieldLink RX12 7 "CapLeagueModel" "tape" "[B") (by decide +kernel)) rfl dX12_feed_79 (by show va_rf (z.R a0 0) = _; rw [rbt]; rfl) ?_
                        refine lv_aload_n hx hb dX12_feed_82 rfl (lv_at hl 0 rfl) ?_
                        refine h_get (v := .int v29) hx hb hts iX12 hown g t_a0 (by decide) so_13 rfl 1 (by decide) (hts (.fieldLink RX12 119 "CapLeagueModel" "taped" "I") (by decide +kernel)) rfl dX12_feed_83 (congrArg Value.int (ev29.symm)) ?_
                        refine lv_iload hx hb dX12_feed_86 (lv_at hl 7 rfl) ?_
                        refine lv_iload hx hb dX12_feed_88 (lv_at hl 8 rfl) ?_
                        refine lv_ishr hx hb dX12_feed_90 ?_
                        refine lv_topi (fun v33 ev33 => ?_)
                        refine lv_i2b hx hb dX12_feed_91 rfl ?_
                        refine lv_topi (fun v34 ev34 => ?_)
                        have jv34 : -2147483648 ≤ v34.toInt ∧ v34.toInt ≤ 2147483647 := ⟨xi_lo _, Int.le_of_lt_add_one (xi_hi _)⟩
                        refine h_bast hx hb g tbt (by decide) so_1300 (xi_in (by omega) (by omega)) dX12_feed_92 (fun I35 H locs eI35 g => ?_)
                        have hI := hI.wr eI35 tbt (rfl : h_bd 1300 _ = (-128, 127)) (h_ny _).1 (h_ny _).2
                        have hF := hF.wr eI35 tbt rfl
                        refine lv_aload_n hx hb dX12_feed_93 rfl (lv_at hl 0 rfl) ?_
                        refine lv_dup hx hb dX12_feed_94 rfl ?_
                        refine h_get (v := .int v29) hx hb hts iX12 hown g t_a0 (by decide) so_13 rfl 1 (by decide) (hts (.fieldLink RX12 119 "CapLeagueModel" "taped" "I") (by decide +kernel)) rfl dX12_feed_95 (congrArg Value.int ((h_n1 eI35 t_a0 tbt (by decide)).trans (ev29.symm))) ?_
                        refine lv_iconst (v := 1) hx hb dX12_feed_98 (by decide) ?_
                        refine lv_iadd hx hb dX12_feed_99 ?_
                        refine lv_topi (fun v36 ev36 => ?_)
                        have jv36 : v36.toInt = v29.toInt + 1 := xi_add ev36 rfl (by decide) (by omega) (by omega)
                        refine h_putI (ty := .int) (v := v36) hx hb hts iX12 tyX12 tyX12_ok nmX12 hown g t_a0 (by decide) so_13 rfl 1 (by decide) rfl (hts (.fieldLink RX12 119 "CapLeagueModel" "taped" "I") (by decide +kernel)) rfl rfl (by decide +kernel) rfl rfl dX12_feed_100 (fun I37 H locs eI37 g => ?_)
                        have hI := hI.wr eI37 t_a0 (rfl : h_bd 13 1 = (0, 500)) (by omega) (by omega)
                        have hF := hF.wr eI37 t_a0 rfl
                        obtain ⟨v38, ev38⟩ : ∃ z : Int32, z = v27 + (-8) := ⟨_, rfl⟩
                        have jv38 : v38.toInt = v27.toInt + (-8) := xi_add ev38 rfl (by decide) (by omega) (by omega)
                        refine lv_iinc (v := v38) (lv' := [(8, .int v38), (0, .ref a0), (1, .int a), (2, .int b), (3, .int c), (4, .int d), (5, .int f), (6, .int v3), (7, .int d)]) hx hb dX12_feed_103 hl (k := 8) rfl (by rw [ev38]; rfl) (by decide) rfl (fun ls hl => ?_)
                        refine lv_goto (tgt := 73) hx hb dX12_feed_106 (by decide) ?_
                        have k39 : (I37 a0 1).toInt = v36.toInt := (congrArg Int32.toInt (h_n0 eI37)).trans rfl
                        exact ih73 I37 _ _ _ v38 g hI hF (lv_sub hl [1, 2, 3, 4, 5, 6, 7, 8, 0] rfl) (by omega) (by omega) (by omega) ((funext (fun k => h_n1 eI37 tbt t_a0 (by decide))).trans (q_partS (f := F5) (n := f0_1.toInt + 4 * v3.toInt) (j := (24 - v27.toInt) / 8) (t := v27.toInt) hx73_2 eI35 (by omega) (by omega) (by omega) rfl (by omega) ev33 ev34 (by omega))) (by omega)
                  have kc40 : (24 : Int32).toInt = 24 := by decide
                  have k41 : (I4 a0 1).toInt = v6.toInt := (congrArg Int32.toInt (ev6.symm)).trans rfl
                  exact loop73_2 _ I4 _ _ _ (24) g hI hF (lv_sub hl [2, 3, 4, 5, 6, 7, 8, 1, 0] rfl) ⟨by decide, by decide⟩ (by omega) (by omega) (hro.trans (q_part0 (by decide)).symm) (show ((24 : Int) + 8) < ((((24 : Int) + 8).toNat + 1 : Nat) : Int) by omega)
              · have ic10 := (xi_eq c10 rfl (by decide) : v3.toInt = 2)
                refine lv_iload_n hx hb dX12_feed_50 rfl (lv_at hl 3 rfl) ?_
                refine lv_goto (tgt := 67) hx hb dX12_feed_51 (by decide) ?_
                refine lv_istore (lv' := [(7, .int c), (0, .ref a0), (1, .int a), (2, .int b), (3, .int c), (4, .int d), (5, .int f), (6, .int v3)]) hx hb dX12_feed_67 hl (by decide) rfl (fun ls hl => ?_)
                refine lv_bipush (v := 24) hx hb dX12_feed_69 (by decide) ?_
                refine lv_istore (lv' := [(8, .int 24), (7, .int c), (0, .ref a0), (1, .int a), (2, .int b), (3, .int c), (4, .int d), (5, .int f), (6, .int v3)]) hx hb dX12_feed_71 hl (by decide) rfl (fun ls hl => ?_)
                have loop73_3 : ∀ (n : Nat) (I43 : tI) (H : Heap) (locs : List Loc) (ls : Array Slot) (v42 : Int32), h_G h_so h_fk E A z I43 L0 s s.heap H locs → h_I z I43 → h_F [(1300, 999), (13, 1)] z I0 I43 → lv_has ls 9 [(0, .ref a0), (1, .int a), (2, .int b), (3, .int c), (4, .int d), (5, .int f), (6, .int v3), (7, .int c), (8, .int v42)] → ((-8) ≤ v42.toInt ∧ v42.toInt ≤ 24) → (8 * (I43 a0 1).toInt = 8 * (f0_1.toInt + 4 * v3.toInt) + 24 - v42.toInt) → (v42.toInt % 8 = 0 ∧ v42.toInt ≤ 24 ∧ -8 ≤ v42.toInt) → (I43 bt = q_part F5 (f0_1.toInt + 4 * v3.toInt) c ((24 - v42.toInt) / 8)) → (v42.toInt + 8) < (n : Int) → W pr_ l ev_ (headSpec wsX12_feed ({ frames := 1, cells := 0, slots := 0, locals := 64 })).room s m ([.ref a0, .int a, .int b, .int c, .int d, .int f] : List Value).toArray below meth cd_ H locs 0 0 (MQ below (va_Qi (fun r (I1 : tI) => h_I z I1 ∧ h_F [(1300, 999), (13, 1)] z I0 I1 ∧ (((I0 a0 1).toInt ≤ 480 ∧ r.toInt = (I0 a0 1).toInt + 20 ∧ (I1 a0 1).toInt = (I0 a0 1).toInt + 20 ∧ I1 (h_ad z a0 0) = q_feed (I0 (h_ad z a0 0)) (I0 a0 1).toInt [a, b, c, d, f]) ∨ (480 < (I0 a0 1).toInt ∧ r.toInt = -3 ∧ (I1 a0 1).toInt = (I0 a0 1).toInt ∧ I1 (h_ad z a0 0) = I0 (h_ad z a0 0)))) (fun (I1 : tI) t => h_B E A z I1 L0 t) A) ([.ref a0, .int a, .int b, .int c, .int d, .int f] : List Value).toArray s 0 0 A) (F0 m 73 ls []) := by
                  intro n
                  induction n with
                  | zero => intro I43 H locs ls v42 g hI hF hl jv42 hx73_0 hx73_1 hx73_2 hn; exact absurd hn (by omega)
                  | succ n ih73 =>
                    intro I43 H locs ls v42 g hI hF hl jv42 hx73_0 hx73_1 hx73_2 hn
                    obtain ⟨v44, ev44⟩ : ∃ v : Int32, v = I43 a0 1 := ⟨_, rfl⟩
                    rw [← ev44] at hx73_0
                    have jv44 := hI.rd a0 1 t_a0 ev44 (rfl : h_bd 13 1 = (0, 500))
                    refine lv_iload hx hb dX12_feed_73 (lv_at hl 8 rfl) ?_
                    refine lv_if_lt (tgt := 109) hx hb dX12_feed_75 (by decide) (fun c45 => ?_) (fun c45 => ?_)
                    · have ic45 := (xi_lt c45 rfl (by decide) : v42.toInt < 0)
                      have hro : I43 bt = (q_part F5 (f0_1.toInt + 4 * v3.toInt) c 4) := by rw [hx73_2]; congr 1; omega
                      obtain ⟨v46, ev46⟩ : ∃ z : Int32, z = v3 + 1 := ⟨_, rfl⟩
                      have jv46 : v46.toInt = v3.toInt + 1 := xi_add ev46 rfl (by decide) (by omega) (by omega)
                      refine lv_iinc (v := v46) (lv' := [(6, .int v46), (0, .ref a0), (1, .int a), (2, .int b), (3, .int c), (4, .int d), (5, .int f), (7, .int c), (8, .int v42)]) hx hb dX12_feed_109 hl (k := 6) rfl (by rw [ev46]; rfl) (by decide) rfl (fun ls hl => ?_)
                      refine lv_goto (tgt := 19) hx hb dX12_feed_112 (by decide) ?_
                      have k47 : (I43 a0 1).toInt = v44.toInt := (congrArg Int32.toInt (ev44.symm)).trans rfl
                      have o19s : q_feed F5 (f0_1.toInt + 4 * v3.toInt) ([a, b, c, d, f].drop (v3.toInt).toNat) = q_feed (q_part F5 (f0_1.toInt + 4 * v3.toInt) c 4) (f0_1.toInt + 4 * v46.toInt) ([a, b, c, d, f].drop (v46.toInt).toNat) := by rw [show (v3.toInt).toNat = 2 by omega, show (v46.toInt).toNat = 3 by omega, show f0_1.toInt + 4 * v46.toInt = f0_1.toInt + 4 * v3.toInt + 4 by omega]; rfl
                      exact ih19 I43 _ _ _ v46 ((q_part F5 (f0_1.toInt + 4 * v3.toInt) c 4)) g hI hF (lv_sub hl [1, 2, 3, 4, 5, 6, 0] rfl) (by omega) (by omega) (hx19_1.trans o19s) hro (by omega)
                    · have ic45 := (xi_nlt c45 rfl (by decide) : 0 ≤ v42.toInt)
                      refine lv_aload_n hx hb dX12_feed_78 rfl (lv_at hl 0 rfl) ?_
                      refine h_get (v := .ref bt) hx hb hts iX12 hown g t_a0 (by decide) so_13 rfl 0 (by decide) (hts (.fieldLink RX12 7 "CapLeagueModel" "tape" "[B") (by decide +kernel)) rfl dX12_feed_79 (by show va_rf (z.R a0 0) = _; rw [rbt]; rfl) ?_
                      refine lv_aload_n hx hb dX12_feed_82 rfl (lv_at hl 0 rfl) ?_
                      refine h_get (v := .int v44) hx hb hts iX12 hown g t_a0 (by decide) so_13 rfl 1 (by decide) (hts (.fieldLink RX12 119 "CapLeagueModel" "taped" "I") (by decide +kernel)) rfl dX12_feed_83 (congrArg Value.int (ev44.symm)) ?_
                      refine lv_iload hx hb dX12_feed_86 (lv_at hl 7 rfl) ?_
                      refine lv_iload hx hb dX12_feed_88 (lv_at hl 8 rfl) ?_
                      refine lv_ishr hx hb dX12_feed_90 ?_
                      refine lv_topi (fun v48 ev48 => ?_)
                      refine lv_i2b hx hb dX12_feed_91 rfl ?_
                      refine lv_topi (fun v49 ev49 => ?_)
                      have jv49 : -2147483648 ≤ v49.toInt ∧ v49.toInt ≤ 2147483647 := ⟨xi_lo _, Int.le_of_lt_add_one (xi_hi _)⟩
                      refine h_bast hx hb g tbt (by decide) so_1300 (xi_in (by omega) (by omega)) dX12_feed_92 (fun I50 H locs eI50 g => ?_)
                      have hI := hI.wr eI50 tbt (rfl : h_bd 1300 _ = (-128, 127)) (h_ny _).1 (h_ny _).2
                      have hF := hF.wr eI50 tbt rfl
                      refine lv_aload_n hx hb dX12_feed_93 rfl (lv_at hl 0 rfl) ?_
                      refine lv_dup hx hb dX12_feed_94 rfl ?_
                      refine h_get (v := .int v44) hx hb hts iX12 hown g t_a0 (by decide) so_13 rfl 1 (by decide) (hts (.fieldLink RX12 119 "CapLeagueModel" "taped" "I") (by decide +kernel)) rfl dX12_feed_95 (congrArg Value.int ((h_n1 eI50 t_a0 tbt (by decide)).trans (ev44.symm))) ?_
                      refine lv_iconst (v := 1) hx hb dX12_feed_98 (by decide) ?_
                      refine lv_iadd hx hb dX12_feed_99 ?_
                      refine lv_topi (fun v51 ev51 => ?_)
                      have jv51 : v51.toInt = v44.toInt + 1 := xi_add ev51 rfl (by decide) (by omega) (by omega)
                      refine h_putI (ty := .int) (v := v51) hx hb hts iX12 tyX12 tyX12_ok nmX12 hown g t_a0 (by decide) so_13 rfl 1 (by decide) rfl (hts (.fieldLink RX12 119 "CapLeagueModel" "taped" "I") (by decide +kernel)) rfl rfl (by decide +kernel) rfl rfl dX12_feed_100 (fun I52 H locs eI52 g => ?_)
                      have hI := hI.wr eI52 t_a0 (rfl : h_bd 13 1 = (0, 500)) (by omega) (by omega)
                      have hF := hF.wr eI52 t_a0 rfl
                      obtain ⟨v53, ev53⟩ : ∃ z : Int32, z = v42 + (-8) := ⟨_, rfl⟩
                      have jv53 : v53.toInt = v42.toInt + (-8) := xi_add ev53 rfl (by decide) (by omega) (by omega)
                      refine lv_iinc (v := v53) (lv' := [(8, .int v53), (0, .ref a0), (1, .int a), (2, .int b), (3, .int c), (4, .int d), (5, .int f), (6, .int v3), (7, .int c)]) hx hb dX12_feed_103 hl (k := 8) rfl (by rw [ev53]; rfl) (by decide) rfl (fun ls hl => ?_)
                      refine lv_goto (tgt := 73) hx hb dX12_feed_106 (by decide) ?_
                      have k54 : (I52 a0 1).toInt = v51.toInt := (congrArg Int32.toInt (h_n0 eI52)).trans rfl
                      exact ih73 I52 _ _ _ v53 g hI hF (lv_sub hl [1, 2, 3, 4, 5, 6, 7, 8, 0] rfl) (by omega) (by omega) (by omega) ((funext (fun k => h_n1 eI52 tbt t_a0 (by decide))).trans (q_partS (f := F5) (n := f0_1.toInt + 4 * v3.toInt) (j := (24 - v42.toInt) / 8) (t := v42.toInt) hx73_2 eI50 (by omega) (by omega) (by omega) rfl (by omega) ev48 ev49 (by omega))) (by omega)
                have kc55 : (24 : Int32).toInt = 24 := by decide
                have k56 : (I4 a0 1).toInt = v6.toInt := (congrArg Int32.toInt (ev6.symm)).trans rfl
                exact loop73_3 _ I4 _ _ _ (24) g hI hF (lv_sub hl [2, 3, 4, 5, 6, 7, 8, 1, 0] rfl) ⟨by decide, by decide⟩ (by omega) (by omega) (hro.trans (q_part0 (by decide)).symm) (show ((24 : Int) + 8) < ((((24 : Int) + 8).toNat + 1 : Nat) : Int) by omega)
            · have ic9 := (xi_eq c9 rfl (by decide) : v3.toInt = 1)
              refine lv_iload_n hx hb dX12_feed_40 rfl (lv_at hl 2 rfl) ?_
              refine lv_goto (tgt := 67) hx hb dX12_feed_41 (by decide) ?_
              refine lv_istore (lv' := [(7, .int b), (0, .ref a0), (1, .int a), (2, .int b), (3, .int c), (4, .int d), (5, .int f), (6, .int v3)]) hx hb dX12_feed_67 hl (by decide) rfl (fun ls hl => ?_)
              refine lv_bipush (v := 24) hx hb dX12_feed_69 (by decide) ?_
              refine lv_istore (lv' := [(8, .int 24), (7, .int b), (0, .ref a0), (1, .int a), (2, .int b), (3, .int c), (4, .int d), (5, .int f), (6, .int v3)]) hx hb dX12_feed_71 hl (by decide) rfl (fun ls hl => ?_)
              have loop73_4 : ∀ (n : Nat) (I58 : tI) (H : Heap) (locs : List Loc) (ls : Array Slot) (v57 : Int32), h_G h_so h_fk E A z I58 L0 s s.heap H locs → h_I z I58 → h_F [(1300, 999), (13, 1)] z I0 I58 → lv_has ls 9 [(0, .ref a0), (1, .int a), (2, .int b), (3, .int c), (4, .int d), (5, .int f), (6, .int v3), (7, .int b), (8, .int v57)] → ((-8) ≤ v57.toInt ∧ v57.toInt ≤ 24) → (8 * (I58 a0 1).toInt = 8 * (f0_1.toInt + 4 * v3.toInt) + 24 - v57.toInt) → (v57.toInt % 8 = 0 ∧ v57.toInt ≤ 24 ∧ -8 ≤ v57.toInt) → (I58 bt = q_part F5 (f0_1.toInt + 4 * v3.toInt) b ((24 - v57.toInt) / 8)) → (v57.toInt + 8) < (n : Int) → W pr_ l ev_ (headSpec wsX12_feed ({ frames := 1, cells := 0, slots := 0, locals := 64 })).room s m ([.ref a0, .int a, .int b, .int c, .int d, .int f] : List Value).toArray below meth cd_ H locs 0 0 (MQ below (va_Qi (fun r (I1 : tI) => h_I z I1 ∧ h_F [(1300, 999), (13, 1)] z I0 I1 ∧ (((I0 a0 1).toInt ≤ 480 ∧ r.toInt = (I0 a0 1).toInt + 20 ∧ (I1 a0 1).toInt = (I0 a0 1).toInt + 20 ∧ I1 (h_ad z a0 0) = q_feed (I0 (h_ad z a0 0)) (I0 a0 1).toInt [a, b, c, d, f]) ∨ (480 < (I0 a0 1).toInt ∧ r.toInt = -3 ∧ (I1 a0 1).toInt = (I0 a0 1).toInt ∧ I1 (h_ad z a0 0) = I0 (h_ad z a0 0)))) (fun (I1 : tI) t => h_B E A z I1 L0 t) A) ([.ref a0, .int a, .int b, .int c, .int d, .int f] : List Value).toArray s 0 0 A) (F0 m 73 ls []) := by
                intro n
                induction n with
                | zero => intro I58 H locs ls v57 g hI hF hl jv57 hx73_0 hx73_1 hx73_2 hn; exact absurd hn (by omega)
                | succ n ih73 =>
                  intro I58 H locs ls v57 g hI hF hl jv57 hx73_0 hx73_1 hx73_2 hn
                  obtain ⟨v59, ev59⟩ : ∃ v : Int32, v = I58 a0 1 := ⟨_, rfl⟩
                  rw [← ev59] at hx73_0
                  have jv59 := hI.rd a0 1 t_a0 ev59 (rfl : h_bd 13 1 = (0, 500))
                  refine lv_iload hx hb dX12_feed_73 (lv_at hl 8 rfl) ?_
                  refine lv_if_lt (tgt := 109) hx hb dX12_feed_75 (by decide) (fun c60 => ?_) (fun c60 => ?_)
                  · have ic60 := (xi_lt c60 rfl (by decide) : v57.toInt < 0)
                    have hro : I58 bt = (q_part F5 (f0_1.toInt + 4 * v3.toInt) b 4) := by rw [hx73_2]; congr 1; omega
                    obtain ⟨v61, ev61⟩ : ∃ z : Int32, z = v3 + 1 := ⟨_, rfl⟩
                    have jv61 : v61.toInt = v3.toInt + 1 := xi_add ev61 rfl (by decide) (by omega) (by omega)
                    refine lv_iinc (v := v61) (lv' := [(6, .int v61), (0, .ref a0), (1, .int a), (2, .int b), (3, .int c), (4, .int d), (5, .int f), (7, .int b), (8, .int v57)]) hx hb dX12_feed_109 hl (k := 6) rfl (by rw [ev61]; rfl) (by decide) rfl (fun ls hl => ?_)
                    refine lv_goto (tgt := 19) hx hb dX12_feed_112 (by decide) ?_
                    have k62 : (I58 a0 1).toInt = v59.toInt := (congrArg Int32.toInt (ev59.symm)).trans rfl
                    have o19s : q_feed F5 (f0_1.toInt + 4 * v3.toInt) ([a, b, c, d, f].drop (v3.toInt).toNat) = q_feed (q_part F5 (f0_1.toInt + 4 * v3.toInt) b 4) (f0_1.toInt + 4 * v61.toInt) ([a, b, c, d, f].drop (v61.toInt).toNat) := by rw [show (v3.toInt).toNat = 1 by omega, show (v61.toInt).toNat = 2 by omega, show f0_1.toInt + 4 * v61.toInt = f0_1.toInt + 4 * v3.toInt + 4 by omega]; rfl
                    exact ih19 I58 _ _ _ v61 ((q_part F5 (f0_1.toInt + 4 * v3.toInt) b 4)) g hI hF (lv_sub hl [1, 2, 3, 4, 5, 6, 0] rfl) (by omega) (by omega) (hx19_1.trans o19s) hro (by omega)
                  · have ic60 := (xi_nlt c60 rfl (by decide) : 0 ≤ v57.toInt)
                    refine lv_aload_n hx hb dX12_feed_78 rfl (lv_at hl 0 rfl) ?_
                    refine h_get (v := .ref bt) hx hb hts iX12 hown g t_a0 (by decide) so_13 rfl 0 (by decide) (hts (.fieldLink RX12 7 "CapLeagueModel" "tape" "[B") (by decide +kernel)) rfl dX12_feed_79 (by show va_rf (z.R a0 0) = _; rw [rbt]; rfl) ?_
                    refine lv_aload_n hx hb dX12_feed_82 rfl (lv_at hl 0 rfl) ?_
                    refine h_get (v := .int v59) hx hb hts iX12 hown g t_a0 (by decide) so_13 rfl 1 (by decide) (hts (.fieldLink RX12 119 "CapLeagueModel" "taped" "I") (by decide +kernel)) rfl dX12_feed_83 (congrArg Value.int (ev59.symm)) ?_
                    refine lv_iload hx hb dX12_feed_86 (lv_at hl 7 rfl) ?_
                    refine lv_iload hx hb dX12_feed_88 (lv_at hl 8 rfl) ?_
                    refine lv_ishr hx hb dX12_feed_90 ?_
                    refine lv_topi (fun v63 ev63 => ?_)
                    refine lv_i2b hx hb dX12_feed_91 rfl ?_
                    refine lv_topi (fun v64 ev64 => ?_)
                    have jv64 : -2147483648 ≤ v64.toInt ∧ v64.toInt ≤ 2147483647 := ⟨xi_lo _, Int.le_of_lt_add_one (xi_hi _)⟩
                    refine h_bast hx hb g tbt (by decide) so_1300 (xi_in (by omega) (by omega)) dX12_feed_92 (fun I65 H locs eI65 g => ?_)
                    have hI := hI.wr eI65 tbt (rfl : h_bd 1300 _ = (-128, 127)) (h_ny _).1 (h_ny _).2
                    have hF := hF.wr eI65 tbt rfl
                    refine lv_aload_n hx hb dX12_feed_93 rfl (lv_at hl 0 rfl) ?_
                    refine lv_dup hx hb dX12_feed_94 rfl ?_
                    refine h_get (v := .int v59) hx hb hts iX12 hown g t_a0 (by decide) so_13 rfl 1 (by decide) (hts (.fieldLink RX12 119 "CapLeagueModel" "taped" "I") (by decide +kernel)) rfl dX12_feed_95 (congrArg Value.int ((h_n1 eI65 t_a0 tbt (by decide)).trans (ev59.symm))) ?_
                    refine lv_iconst (v := 1) hx hb dX12_feed_98 (by decide) ?_
                    refine lv_iadd hx hb dX12_feed_99 ?_
                    refine lv_topi (fun v66 ev66 => ?_)
                    have jv66 : v66.toInt = v59.toInt + 1 := xi_add ev66 rfl (by decide) (by omega) (by omega)
                    refine h_putI (ty := .int) (v := v66) hx hb hts iX12 tyX12 tyX12_ok nmX12 hown g t_a0 (by decide) so_13 rfl 1 (by decide) rfl (hts (.fieldLink RX12 119 "CapLeagueModel" "taped" "I") (by decide +kernel)) rfl rfl (by decide +kernel) rfl rfl dX12_feed_100 (fun I67 H locs eI67 g => ?_)
                    have hI := hI.wr eI67 t_a0 (rfl : h_bd 13 1 = (0, 500)) (by omega) (by omega)
                    have hF := hF.wr eI67 t_a0 rfl
                    obtain ⟨v68, ev68⟩ : ∃ z : Int32, z = v57 + (-8) := ⟨_, rfl⟩
                    have jv68 : v68.toInt = v57.toInt + (-8) := xi_add ev68 rfl (by decide) (by omega) (by omega)
                    refine lv_iinc (v := v68) (lv' := [(8, .int v68), (0, .ref a0), (1, .int a), (2, .int b), (3, .int c), (4, .int d), (5, .int f), (6, .int v3), (7, .int b)]) hx hb dX12_feed_103 hl (k := 8) rfl (by rw [ev68]; rfl) (by decide) rfl (fun ls hl => ?_)
                    refine lv_goto (tgt := 73) hx hb dX12_feed_106 (by decide) ?_
                    have k69 : (I67 a0 1).toInt = v66.toInt := (congrArg Int32.toInt (h_n0 eI67)).trans rfl
                    exact ih73 I67 _ _ _ v68 g hI hF (lv_sub hl [1, 2, 3, 4, 5, 6, 7, 8, 0] rfl) (by omega) (by omega) (by omega) ((funext (fun k => h_n1 eI67 tbt t_a0 (by decide))).trans (q_partS (f := F5) (n := f0_1.toInt + 4 * v3.toInt) (j := (24 - v57.toInt) / 8) (t := v57.toInt) hx73_2 eI65 (by omega) (by omega) (by omega) rfl (by omega) ev63 ev64 (by omega))) (by omega)
              have kc70 : (24 : Int32).toInt = 24 := by decide
              have k71 : (I4 a0 1).toInt = v6.toInt := (congrArg Int32.toInt (ev6.symm)).trans rfl
              exact loop73_4 _ I4 _ _ _ (24) g hI hF (lv_sub hl [2, 3, 4, 5, 6, 7, 8, 1, 0] rfl) ⟨by decide, by decide⟩ (by omega) (by omega) (hro.trans (q_part0 (by decide)).symm) (show ((24 : Int) + 8) < ((((24 : Int) + 8).toNat + 1 : Nat) : Int) by omega)
          · have ic8 := (xi_eq c8 rfl (by decide) : v3.toInt = 0)
            refine lv_iload_n hx hb dX12_feed_30 rfl (lv_at hl 1 rfl) ?_
            refine lv_goto (tgt := 67) hx hb dX12_feed_31 (by decide) ?_
            refine lv_istore (lv' := [(7, .int a), (0, .ref a0), (1, .int a), (2, .int b), (3, .int c), (4, .int d), (5, .int f), (6, .int v3)]) hx hb dX12_feed_67 hl (by decide) rfl (fun ls hl => ?_)
            refine lv_bipush (v := 24) hx hb dX12_feed_69 (by decide) ?_
            refine lv_istore (lv' := [(8, .int 24), (7, .int a), (0, .ref a0), (1, .int a), (2, .int b), (3, .int c), (4, .int d), (5, .int f), (6, .int v3)]) hx hb dX12_feed_71 hl (by decide) rfl (fun ls hl => ?_)
            have loop73_5 : ∀ (n : Nat) (I73 : tI) (H : Heap) (locs : List Loc) (ls : Array Slot) (v72 : Int32), h_G h_so h_fk E A z I73 L0 s s.heap H locs → h_I z I73 → h_F [(1300, 999), (13, 1)] z I0 I73 → lv_has ls 9 [(0, .ref a0), (1, .int a), (2, .int b), (3, .int c), (4, .int d), (5, .int f), (6, .int v3), (7, .int a), (8, .int v72)] → ((-8) ≤ v72.toInt ∧ v72.toInt ≤ 24) → (8 * (I73 a0 1).toInt = 8 * (f0_1.toInt + 4 * v3.toInt) + 24 - v72.toInt) → (v72.toInt % 8 = 0 ∧ v72.toInt ≤ 24 ∧ -8 ≤ v72.toInt) → (I73 bt = q_part F5 (f0_1.toInt + 4 * v3.toInt) a ((24 - v72.toInt) / 8)) → (v72.toInt + 8) < (n : Int) → W pr_ l ev_ (headSpec wsX12_feed ({ frames := 1, cells := 0, slots := 0, locals := 64 })).room s m ([.ref a0, .int a, .int b, .int c, .int d, .int f] : List Value).toArray below meth cd_ H locs 0 0 (MQ below (va_Qi (fun r (I1 : tI) => h_I z I1 ∧ h_F [(1300, 999), (13, 1)] z I0 I1 ∧ (((I0 a0 1).toInt ≤ 480 ∧ r.toInt = (I0 a0 1).toInt + 20 ∧ (I1 a0 1).toInt = (I0 a0 1).toInt + 20 ∧ I1 (h_ad z a0 0) = q_feed (I0 (h_ad z a0 0)) (I0 a0 1).toInt [a, b, c, d, f]) ∨ (480 < (I0 a0 1).toInt ∧ r.toInt = -3 ∧ (I1 a0 1).toInt = (I0 a0 1).toInt ∧ I1 (h_ad z a0 0) = I0 (h_ad z a0 0)))) (fun (I1 : tI) t => h_B E A z I1 L0 t) A) ([.ref a0, .int a, .int b, .int c, .int d, .int f] : List Value).toArray s 0 0 A) (F0 m 73 ls []) := by
              intro n
              induction n with
              | zero => intro I73 H locs ls v72 g hI hF hl jv72 hx73_0 hx73_1 hx73_2 hn; exact absurd hn (by omega)
              | succ n ih73 =>
                intro I73 H locs ls v72 g hI hF hl jv72 hx73_0 hx73_1 hx73_2 hn
                obtain ⟨v74, ev74⟩ : ∃ v : Int32, v = I73 a0 1 := ⟨_, rfl⟩
                rw [← ev74] at hx73_0
                have jv74 := hI.rd a0 1 t_a0 ev74 (rfl : h_bd 13 1 = (0, 500))
                refine lv_iload hx hb dX12_feed_73 (lv_at hl 8 rfl) ?_
                refine lv_if_lt (tgt := 109) hx hb dX12_feed_75 (by decide) (fun c75 => ?_) (fun c75 => ?_)
                · have ic75 := (xi_lt c75 rfl (by decide) : v72.toInt < 0)
                  have hro : I73 bt = (q_part F5 (f0_1.toInt + 4 * v3.toInt) a 4) := by rw [hx73_2]; congr 1; omega
                  obtain ⟨v76, ev76⟩ : ∃ z : Int32, z = v3 + 1 := ⟨_, rfl⟩
                  have jv76 : v76.toInt = v3.toInt + 1 := xi_add ev76 rfl (by decide) (by omega) (by omega)
                  refine lv_iinc (v := v76) (lv' := [(6, .int v76), (0, .ref a0), (1, .int a), (2, .int b), (3, .int c), (4, .int d), (5, .int f), (7, .int a), (8, .int v72)]) hx hb dX12_feed_109 hl (k := 6) rfl (by rw [ev76]; rfl) (by decide) rfl (fun ls hl => ?_)
                  refine lv_goto (tgt := 19) hx hb dX12_feed_112 (by decide) ?_
                  have k77 : (I73 a0 1).toInt = v74.toInt := (congrArg Int32.toInt (ev74.symm)).trans rfl
                  have o19s : q_feed F5 (f0_1.toInt + 4 * v3.toInt) ([a, b, c, d, f].drop (v3.toInt).toNat) = q_feed (q_part F5 (f0_1.toInt + 4 * v3.toInt) a 4) (f0_1.toInt + 4 * v76.toInt) ([a, b, c, d, f].drop (v76.toInt).toNat) := by rw [show (v3.toInt).toNat = 0 by omega, show (v76.toInt).toNat = 1 by omega, show f0_1.toInt + 4 * v76.toInt = f0_1.toInt + 4 * v3.toInt + 4 by omega]; rfl
                  exact ih19 I73 _ _ _ v76 ((q_part F5 (f0_1.toInt + 4 * v3.toInt) a 4)) g hI hF (lv_sub hl [1, 2, 3, 4, 5, 6, 0] rfl) (by omega) (by omega) (hx19_1.trans o19s) hro (by omega)
                · have ic75 := (xi_nlt c75 rfl (by decide) : 0 ≤ v72.toInt)
                  refine lv_aload_n hx hb dX12_feed_78 rfl (lv_at hl 0 rfl) ?_
                  refine h_get (v := .ref bt) hx hb hts iX12 hown g t_a0 (by decide) so_13 rfl 0 (by decide) (hts (.fieldLink RX12 7 "CapLeagueModel" "tape" "[B") (by decide +kernel)) rfl dX12_feed_79 (by show va_rf (z.R a0 0) = _; rw [rbt]; rfl) ?_
                  refine lv_aload_n hx hb dX12_feed_82 rfl (lv_at hl 0 rfl) ?_
                  refine h_get (v := .int v74) hx hb hts iX12 hown g t_a0 (by decide) so_13 rfl 1 (by decide) (hts (.fieldLink RX12 119 "CapLeagueModel" "taped" "I") (by decide +kernel)) rfl dX12_feed_83 (congrArg Value.int (ev74.symm)) ?_
                  refine lv_iload hx hb dX12_feed_86 (lv_at hl 7 rfl) ?_
                  refine lv_iload hx hb dX12_feed_88 (lv_at hl 8 rfl) ?_
                  refine lv_ishr hx hb dX12_feed_90 ?_
                  refine lv_topi (fun v78 ev78 => ?_)
                  refine lv_i2b hx hb dX12_feed_91 rfl ?_
                  refine lv_topi (fun v79 ev79 => ?_)
                  have jv79 : -2147483648 ≤ v79.toInt ∧ v79.toInt ≤ 2147483647 := ⟨xi_lo _, Int.le_of_lt_add_one (xi_hi _)⟩
                  refine h_bast hx hb g tbt (by decide) so_1300 (xi_in (by omega) (by omega)) dX12_feed_92 (fun I80 H locs eI80 g => ?_)
                  have hI := hI.wr eI80 tbt (rfl : h_bd 1300 _ = (-128, 127)) (h_ny _).1 (h_ny _).2
                  have hF := hF.wr eI80 tbt rfl
                  refine lv_aload_n hx hb dX12_feed_93 rfl (lv_at hl 0 rfl) ?_
                  refine lv_dup hx hb dX12_feed_94 rfl ?_
                  refine h_get (v := .int v74) hx hb hts iX12 hown g t_a0 (by decide) so_13 rfl 1 (by decide) (hts (.fieldLink RX12 119 "CapLeagueModel" "taped" "I") (by decide +kernel)) rfl dX12_feed_95 (congrArg Value.int ((h_n1 eI80 t_a0 tbt (by decide)).trans (ev74.symm))) ?_
                  refine lv_iconst (v := 1) hx hb dX12_feed_98 (by decide) ?_
                  refine lv_iadd hx hb dX12_feed_99 ?_
                  refine lv_topi (fun v81 ev81 => ?_)
                  have jv81 : v81.toInt = v74.toInt + 1 := xi_add ev81 rfl (by decide) (by omega) (by omega)
                  refine h_putI (ty := .int) (v := v81) hx hb hts iX12 tyX12 tyX12_ok nmX12 hown g t_a0 (by decide) so_13 rfl 1 (by decide) rfl (hts (.fieldLink RX12 119 "CapLeagueModel" "taped" "I") (by decide +kernel)) rfl rfl (by decide +kernel) rfl rfl dX12_feed_100 (fun I82 H locs eI82 g => ?_)
                  have hI := hI.wr eI82 t_a0 (rfl : h_bd 13 1 = (0, 500)) (by omega) (by omega)
                  have hF := hF.wr eI82 t_a0 rfl
                  obtain ⟨v83, ev83⟩ : ∃ z : Int32, z = v72 + (-8) := ⟨_, rfl⟩
                  have jv83 : v83.toInt = v72.toInt + (-8) := xi_add ev83 rfl (by decide) (by omega) (by omega)
                  refine lv_iinc (v := v83) (lv' := [(8, .int v83), (0, .ref a0), (1, .int a), (2, .int b), (3, .int c), (4, .int d), (5, .int f), (6, .int v3), (7, .int a)]) hx hb dX12_feed_103 hl (k := 8) rfl (by rw [ev83]; rfl) (by decide) rfl (fun ls hl => ?_)
                  refine lv_goto (tgt := 73) hx hb dX12_feed_106 (by decide) ?_
                  have k84 : (I82 a0 1).toInt = v81.toInt := (congrArg Int32.toInt (h_n0 eI82)).trans rfl
                  exact ih73 I82 _ _ _ v83 g hI hF (lv_sub hl [1, 2, 3, 4, 5, 6, 7, 8, 0] rfl) (by omega) (by omega) (by omega) ((funext (fun k => h_n1 eI82 tbt t_a0 (by decide))).trans (q_partS (f := F5) (n := f0_1.toInt + 4 * v3.toInt) (j := (24 - v72.toInt) / 8) (t := v72.toInt) hx73_2 eI80 (by omega) (by omega) (by omega) rfl (by omega) ev78 ev79 (by omega))) (by omega)
            have kc85 : (24 : Int32).toInt = 24 := by decide
            have k86 : (I4 a0 1).toInt = v6.toInt := (congrArg Int32.toInt (ev6.symm)).trans rfl
            exact loop73_5 _ I4 _ _ _ (24) g hI hF (lv_sub hl [2, 3, 4, 5, 6, 7, 8, 1, 0] rfl) ⟨by decide, by decide⟩ (by omega) (by omega) (hro.trans (q_part0 (by decide)).symm) (show ((24 : Int) + 8) < ((((24 : Int) + 8).toNat + 1 : Nat) : Int) by omega)
    have kc87 : (0 : Int32).toInt = 0 := by decide
    have k88 : (I0 a0 1).toInt = f0_1.toInt := (congrArg Int32.toInt (ef0_1.symm)).trans rfl
    have o19_0 : q_feed fr f0_1.toInt [a, b, c, d, f] = q_feed fr (f0_1.toInt + 4 * (0 : Int32).toInt) ([a, b, c, d, f].drop ((0 : Int32).toInt).toNat) := by rw [show (0 : Int32).toInt = 0 by decide, show f0_1.toInt + 4 * 0 = f0_1.toInt by omega]; rfl
    exact loop19_0 _ I0 _ _ _ (0) (fr) g hI hF (lv_sub hl [1, 2, 3, 4, 5, 6, 0] rfl) ⟨by decide, by decide⟩ (by omega) (o19_0) hro (show (5 - (0 : Int)) < (((5 - (0 : Int)).toNat + 1 : Nat) : Int) by omega)
  · have ic2 := (xi_nle c2 rfl (by decide) : 500 < v1.toInt)
    refine lv_bipush (v := (-3)) hx hb dX12_feed_13 (by decide) ?_
    have hS := g.2.1
    exact W.iret (v := (-3)) hx hb hr (fun t ht hW => ⟨⟨(-3), I0, rfl, ⟨hI, hF, (by rw [abt, qf0_1]; exact Or.inr ⟨by omega, by decide, rfl, rfl⟩)⟩, h_ret g ht⟩, hS.F ht⟩) hS.2.2 dX12_feed_15

