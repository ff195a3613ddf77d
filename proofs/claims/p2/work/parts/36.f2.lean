set_option maxHeartbeats 4000000 in
set_option maxRecDepth 100000 in
theorem tX8_hasRoomF (l : Launch) (E : tE) (X : tX) (A : Nat → Prop) (z : tZ) (I0 : tI) (L0 : tL) (a0 : Nat) (t_a0 : z.ty a0 = 9) : Met l yX8_hasRoom wsX8_hasRoom ({ frames := 1, cells := 0, slots := 0, locals := 64 }) (va_Pc [.ref a0] (h_P E X A z I0 L0)) (vp_Si (fun r => (0 ≤ r.toInt ∧ r.toInt ≤ 1) ∧ ((r.toInt = 0 ∧ 480 < (I0 a0 1).toInt) ∨ (r.toInt = 1 ∧ (I0 a0 1).toInt ≤ 480)))) 0 0 (fun _ => False) := by
  refine Met.ofW (cc := cX8_hasRoom) (maxL := 1) (ret := (some .boolean)) (by decide) rfl ?_
  intro pr_ ev_ s m args below meth cd_ s₁ B hml hv
  obtain ⟨rfl, hE, hk, hX, hA, hK, hI, hR, hB0⟩ := hv
  have g : h_G h_so h_fk E A z I0 L0 s s.heap s.heap [] := ⟨hK, va_S.rf, hB0⟩
  have hx := B.exec
  have hb := B.bytes
  have hr := B.returns
  have hts := atoms_spec (ws := wsX8_hasRoom) B.pre
  have hown : s.vm.findClass RX8 = some m.cls := findClass_of_methodNamed B.named
  have hlocks := B.notSynchronized
  have iX8 : ∀ w ∈ u_ws RX8 TX8 2, w ∈ wsX8_hasRoom := by decide +kernel
  have hl := lv_entry ([.ref a0]) (n := 1) (Nat.le_of_ble_eq_true rfl)
  rw [lg_entry_eq]
  generalize (lg_sl ([.ref a0]) ++ List.replicate (1 - (lg_sl ([.ref a0])).length) Slot.unset).toArray = ls at hl ⊢
  have hl : lv_has ls 1 [(0, .ref a0)] := hl
  obtain ⟨f0_1, ef0_1⟩ : ∃ v : Int32, v = I0 a0 1 := ⟨_, rfl⟩
  have qf0_1 : (I0 a0 1).toInt = f0_1.toInt := congrArg Int32.toInt ef0_1.symm
  have jf0_1 := hI.rd a0 1 t_a0 ef0_1 (rfl : h_bd 9 1 = (0, 500))
  refine lv_aload_n hx hb dX8_hasRoom_0 rfl (lv_at hl 0 rfl) ?_
  refine h_get (v := .int f0_1) hx hb hts iX8 hown g t_a0 (by decide) so_9 rfl 1 (by decide) (hts (.fieldLink RX8 15 "CapLeague$Tape" "size" "I") (by decide +kernel)) rfl dX8_hasRoom_1 (congrArg Value.int (ef0_1.symm)) ?_
  refine lv_bipush (v := 20) hx hb dX8_hasRoom_4 (by decide) ?_
  refine lv_iadd hx hb dX8_hasRoom_6 ?_
  refine lv_topi (fun v1 ev1 => ?_)
  have jv1 : v1.toInt = f0_1.toInt + 20 := xi_add ev1 rfl (by decide) (by omega) (by omega)
  refine lv_sipush (v := 500) hx hb dX8_hasRoom_7 (by decide) ?_
  refine lv_icmp_gt (tgt := 17) hx hb dX8_hasRoom_10 (by decide) (fun c2 => ?_) (fun c2 => ?_)
  · have ic2 := (xi_lt c2 (by decide) rfl : 500 < v1.toInt)
    refine lv_iconst (v := 0) hx hb dX8_hasRoom_17 (by decide) ?_
    exact W.zret (v := 0) hx hb hr (by decide) (fun t ht hW => ⟨0, rfl, ⟨⟨(by decide), (by decide)⟩, (by have qr : (0 : Int32).toInt = 0 := (by decide); omega)⟩, ht⟩) (fun _ h => by cases h) dX8_hasRoom_18
  · have ic2 := (xi_nlt c2 (by decide) rfl : v1.toInt ≤ 500)
    refine lv_iconst (v := 1) hx hb dX8_hasRoom_13 (by decide) ?_
    refine lv_goto (tgt := 18) hx hb dX8_hasRoom_14 (by decide) ?_
    exact W.zret (v := 1) hx hb hr (by decide) (fun t ht hW => ⟨1, rfl, ⟨⟨(by decide), (by decide)⟩, (by have qr : (1 : Int32).toInt = 1 := (by decide); omega)⟩, ht⟩) (fun _ h => by cases h) dX8_hasRoom_18
set_option maxHeartbeats 4000000 in
set_option maxRecDepth 100000 in
theorem tX8_appendF (l : Launch) (E : tE) (X : tX) (A : Nat → Prop) (z : tZ) (I0 : tI) (L0 : tL) (a0 : Nat) (t_a0 : z.ty a0 = 9) (x : Int32) (x_t : Int) (h_x : x.toInt = x_t) (hs : (I0 a0 1).toInt ≤ 496) : Met l yX8_append wsX8_append ({ frames := 1, cells := 0, slots := 0, locals := 64 }) (va_Pc [.ref a0, .int x] (h_P E X A z I0 L0)) (va_Qv (fun (I1 : tI) => h_I z I1 ∧ h_F [(900, 999), (9, 1)] z I0 I1 ∧ ((I1 a0 1).toInt = (I0 a0 1).toInt + 4)) (fun (I1 : tI) t => h_B E A z I1 L0 t) A) 0 0 A := by
  refine Met.ofW (cc := cX8_append) (maxL := 3) (ret := none) (by decide) rfl ?_
  intro pr_ ev_ s m args below meth cd_ s₁ B hml hv
  obtain ⟨rfl, hE, hk, hX, hA, hK, hI, hR, hB0⟩ := hv
  have g : h_G h_so h_fk E A z I0 L0 s s.heap s.heap [] := ⟨hK, va_S.rf, hB0⟩
  have hF : h_F [(900, 999), (9, 1)] z I0 I0 := h_F.rf
  have hx := B.exec
  have hb := B.bytes
  have hr := B.returns
  have hts := atoms_spec (ws := wsX8_append) B.pre
  have hown : s.vm.findClass RX8 = some m.cls := findClass_of_methodNamed B.named
  have hlocks := B.notSynchronized
  have iX8 : ∀ w ∈ u_ws RX8 TX8 2, w ∈ wsX8_append := by decide +kernel
  have hl := lv_entry ([.ref a0, .int x]) (n := 3) (Nat.le_of_ble_eq_true rfl)
  rw [lg_entry_eq]
  generalize (lg_sl ([.ref a0, .int x]) ++ List.replicate (3 - (lg_sl ([.ref a0, .int x])).length) Slot.unset).toArray = ls at hl ⊢
  have hl : lv_has ls 3 [(0, .ref a0), (1, .int x)] := hl
  have b_x : -2147483648 ≤ x_t ∧ x_t ≤ 2147483647 := h_x ▸ ⟨xi_lo x, Int.le_of_lt_add_one (xi_hi x)⟩
  obtain ⟨f0_1, ef0_1⟩ : ∃ v : Int32, v = I0 a0 1 := ⟨_, rfl⟩
  have qf0_1 : (I0 a0 1).toInt = f0_1.toInt := congrArg Int32.toInt ef0_1.symm
  have jf0_1 := hI.rd a0 1 t_a0 ef0_1 (rfl : h_bd 9 1 = (0, 500))
  refine lv_bipush (v := 24) hx hb dX8_append_0 (by decide) ?_
  refine lv_istore_n (lv' := [(2, .int 24), (0, .ref a0), (1, .int x)]) hx hb dX8_append_2 rfl hl (by decide) rfl (fun ls hl => ?_)
  have loop3_0 : ∀ (n : Nat) (I2 : tI) (H : Heap) (locs : List Loc) (ls : Array Slot) (v1 : Int32), h_G h_so h_fk E A z I2 L0 s s.heap H locs → h_I z I2 → h_F [(900, 999), (9, 1)] z I0 I2 → lv_has ls 3 [(0, .ref a0), (1, .int x), (2, .int v1)] → ((-8) ≤ v1.toInt ∧ v1.toInt ≤ 24) → (8 * (I2 a0 1).toInt = 8 * (I0 a0 1).toInt + 24 - v1.toInt) → (v1.toInt % 8 = 0) → (v1.toInt + 8) < (n : Int) → W pr_ l ev_ (headSpec wsX8_append ({ frames := 1, cells := 0, slots := 0, locals := 64 })).room s m ([.ref a0, .int x] : List Value).toArray below meth cd_ H locs 0 0 (MQ below (va_Qv (fun (I1 : tI) => h_I z I1 ∧ h_F [(900, 999), (9, 1)] z I0 I1 ∧ ((I1 a0 1).toInt = (I0 a0 1).toInt + 4)) (fun (I1 : tI) t => h_B E A z I1 L0 t) A) ([.ref a0, .int x] : List Value).toArray s 0 0 A) (F0 m 3 ls []) := by
    intro n
    induction n with
    | zero => intro I2 H locs ls v1 g hI hF hl jv1 hx3_0 hx3_1 hn; exact absurd hn (by omega)
    | succ n ih3 =>
      intro I2 H locs ls v1 g hI hF hl jv1 hx3_0 hx3_1 hn
      obtain ⟨v3, ev3⟩ : ∃ v : Int32, v = I2 a0 1 := ⟨_, rfl⟩
      rw [← ev3] at hx3_0
      have jv3 := hI.rd a0 1 t_a0 ev3 (rfl : h_bd 9 1 = (0, 500))
      refine lv_iload_n hx hb dX8_append_3 rfl (lv_at hl 2 rfl) ?_
      refine lv_if_lt (tgt := 48) hx hb dX8_append_4 (by decide) (fun c4 => ?_) (fun c4 => ?_)
      · have ic4 := (xi_lt c4 rfl (by decide) : v1.toInt < 0)
        have hS := g.2.1
        exact W.vret hx hb hr (fun t ht hW => ⟨⟨I2, rfl, ⟨hI, hF, (by have q1_ : (I2 a0 1).toInt = v3.toInt := (congrArg Int32.toInt (ev3.symm)).trans rfl; omega)⟩, h_ret g ht⟩, hS.F ht⟩) hS.2.2 dX8_append_48
      · have ic4 := (xi_nlt c4 rfl (by decide) : 0 ≤ v1.toInt)
        refine lv_aload_n hx hb dX8_append_7 rfl (lv_at hl 0 rfl) ?_
        refine h_get (v := .int v3) hx hb hts iX8 hown g t_a0 (by decide) so_9 rfl 1 (by decide) (hts (.fieldLink RX8 15 "CapLeague$Tape" "size" "I") (by decide +kernel)) rfl dX8_append_8 (congrArg Value.int (ev3.symm)) ?_
        refine lv_aload_n hx hb dX8_append_11 rfl (lv_at hl 0 rfl) ?_
        obtain ⟨b5, rb5, tb5⟩ := hR.at a0 0 t_a0 (rfl : h_rs 9 0 = some (900, false)) (by decide)
        refine h_get (v := .ref b5) hx hb hts iX8 hown g t_a0 (by decide) so_9 rfl 0 (by decide) (hts (.fieldLink RX8 11 "CapLeague$Tape" "bytes" "[B") (by decide +kernel)) rfl dX8_append_12 (by show va_rf (z.R a0 0) = _; rw [rb5]; rfl) ?_
        refine h_alen (v := 500) hx hb g tb5 (by decide) (Or.inr (Or.inr (Or.inl so_900))) rfl dX8_append_15 ?_
        refine lv_icmp_ge (tgt := 48) hx hb dX8_append_16 (by decide) (fun c6 => ?_) (fun c6 => ?_)
        · have ic6 := (xi_le c6 (by decide) rfl : 500 ≤ v3.toInt)
          have hS := g.2.1
          exact W.vret hx hb hr (fun t ht hW => ⟨⟨I2, rfl, ⟨hI, hF, (by have q1_ : (I2 a0 1).toInt = v3.toInt := (congrArg Int32.toInt (ev3.symm)).trans rfl; omega)⟩, h_ret g ht⟩, hS.F ht⟩) hS.2.2 dX8_append_48
        · have ic6 := (xi_nle c6 (by decide) rfl : v3.toInt < 500)
          refine lv_aload_n hx hb dX8_append_19 rfl (lv_at hl 0 rfl) ?_
          refine h_get (v := .ref b5) hx hb hts iX8 hown g t_a0 (by decide) so_9 rfl 0 (by decide) (hts (.fieldLink RX8 11 "CapLeague$Tape" "bytes" "[B") (by decide +kernel)) rfl dX8_append_20 (by show va_rf (z.R a0 0) = _; rw [rb5]; rfl) ?_
          refine lv_aload_n hx hb dX8_append_23 rfl (lv_at hl 0 rfl) ?_
          refine h_get (v := .int v3) hx hb hts iX8 hown g t_a0 (by decide) so_9 rfl 1 (by decide) (hts (.fieldLink RX8 15 "CapLeague$Tape" "size" "I") (by decide +kernel)) rfl dX8_append_24 (congrArg Value.int (ev3.symm)) ?_
          refine lv_iload_n hx hb dX8_append_27 rfl (lv_at hl 1 rfl) ?_
          refine lv_iload_n hx hb dX8_append_28 rfl (lv_at hl 2 rfl) ?_
          refine lv_ishr hx hb dX8_append_29 ?_
          refine lv_topi (fun v7 ev7 => ?_)
          have jv7 : -2147483648 ≤ v7.toInt ∧ v7.toInt ≤ 2147483647 := ⟨xi_lo _, Int.le_of_lt_add_one (xi_hi _)⟩
          refine lv_i2b hx hb dX8_append_30 rfl ?_
          refine lv_topi (fun v8 ev8 => ?_)
          have jv8 : -2147483648 ≤ v8.toInt ∧ v8.toInt ≤ 2147483647 := ⟨xi_lo _, Int.le_of_lt_add_one (xi_hi _)⟩
          refine h_bast hx hb g tb5 (by decide) so_900 (xi_in (by omega) (by omega)) dX8_append_31 (fun I9 H locs eI9 g => ?_)
          have hI := hI.wr eI9 tb5 (rfl : h_bd 900 _ = (-128, 127)) (h_ny _).1 (h_ny _).2
          have hF := hF.wr eI9 tb5 rfl
          refine lv_aload_n hx hb dX8_append_32 rfl (lv_at hl 0 rfl) ?_
          refine lv_dup hx hb dX8_append_33 rfl ?_
          refine h_get (v := .int v3) hx hb hts iX8 hown g t_a0 (by decide) so_9 rfl 1 (by decide) (hts (.fieldLink RX8 15 "CapLeague$Tape" "size" "I") (by decide +kernel)) rfl dX8_append_34 (congrArg Value.int ((h_n1 eI9 t_a0 tb5 (by decide)).trans (ev3.symm))) ?_
          refine lv_iconst (v := 1) hx hb dX8_append_37 (by decide) ?_
          refine lv_iadd hx hb dX8_append_38 ?_
          refine lv_topi (fun v10 ev10 => ?_)
          have jv10 : v10.toInt = v3.toInt + 1 := xi_add ev10 rfl (by decide) (by omega) (by omega)
          refine h_putI (ty := .int) (v := v10) hx hb hts iX8 tyX8 tyX8_ok nmX8 hown g t_a0 (by decide) so_9 rfl 1 (by decide) rfl (hts (.fieldLink RX8 15 "CapLeague$Tape" "size" "I") (by decide +kernel)) rfl rfl (by decide +kernel) rfl rfl dX8_append_39 (fun I11 H locs eI11 g => ?_)
          have hI := hI.wr eI11 t_a0 (rfl : h_bd 9 1 = (0, 500)) (by omega) (by omega)
          have hF := hF.wr eI11 t_a0 rfl
          obtain ⟨v12, ev12⟩ : ∃ z : Int32, z = v1 + (-8) := ⟨_, rfl⟩
          have jv12 : v12.toInt = v1.toInt + (-8) := xi_add ev12 rfl (by decide) (by omega) (by omega)
          refine lv_iinc (v := v12) (lv' := [(2, .int v12), (0, .ref a0), (1, .int x)]) hx hb dX8_append_42 hl (k := 2) rfl (by rw [ev12]; rfl) (by decide) rfl (fun ls hl => ?_)
          refine lv_goto (tgt := 3) hx hb dX8_append_45 (by decide) ?_
          have k13 : (I11 a0 1).toInt = v10.toInt := (congrArg Int32.toInt (h_n0 eI11)).trans rfl
          exact ih3 I11 _ _ _ v12 g hI hF (lv_sub hl [1, 2, 0] rfl) (by omega) (by omega) (by omega) (by omega)
  have kc14 : (24 : Int32).toInt = 24 := by decide
  have k15 : (I0 a0 1).toInt = f0_1.toInt := (congrArg Int32.toInt (ef0_1.symm)).trans rfl
  exact loop3_0 _ I0 _ _ _ (24) g hI hF (lv_sub hl [1, 2, 0] rfl) ⟨by decide, by decide⟩ (by omega) (by omega) (show ((24 : Int) + 8) < ((((24 : Int) + 8).toNat + 1 : Nat) : Int) by omega)
set_option maxHeartbeats 4000000 in
set_option maxRecDepth 100000 in
theorem tX11_feedF (l : Launch) (E : tE) (X : tX) (A : Nat → Prop) (z : tZ) (I0 : tI) (L0 : tL) (a0 : Nat) (t_a0 : z.ty a0 = 12) (a : Int32) (a_t : Int) (h_a : a.toInt = a_t) (b : Int32) (b_t : Int) (h_b : b.toInt = b_t) (c : Int32) (c_t : Int) (h_c : c.toInt = c_t) (d : Int32) (d_t : Int) (h_d : d.toInt = d_t) (f : Int32) (f_t : Int) (h_f : f.toInt = f_t) : Met l yX11_feed wsX11_feed ({ frames := 2, cells := 0, slots := 0, locals := 128 }) (va_Pc [.ref a0, .int a, .int b, .int c, .int d, .int f] (h_P E X A z I0 L0)) (va_Qi (fun r (I1 : tI) => h_I z I1 ∧ h_F [(900, 999), (9, 1)] z I0 I1 ∧ (((I0 (h_ad z a0 0) 1).toInt ≤ 480 ∧ r.toInt = (I0 (h_ad z a0 0) 1).toInt + 20 ∧ (I1 (h_ad z a0 0) 1).toInt = (I0 (h_ad z a0 0) 1).toInt + 20) ∨ (480 < (I0 (h_ad z a0 0) 1).toInt ∧ r.toInt = -3 ∧ (I1 (h_ad z a0 0) 1).toInt = (I0 (h_ad z a0 0) 1).toInt))) (fun (I1 : tI) t => h_B E A z I1 L0 t) A) 0 0 A := by
  refine Met.ofW (cc := cX11_feed) (maxL := 6) (ret := (some .int)) (by decide) rfl ?_
  intro pr_ ev_ s m args below meth cd_ s₁ B hml hv
  obtain ⟨rfl, hE, hk, hX, hA, hK, hI, hR, hB0⟩ := hv
  have g : h_G h_so h_fk E A z I0 L0 s s.heap s.heap [] := ⟨hK, va_S.rf, hB0⟩
  have hF : h_F [(900, 999), (9, 1)] z I0 I0 := h_F.rf
  have hx := B.exec
  have hb := B.bytes
  have hr := B.returns
  have hts := atoms_spec (ws := wsX11_feed) B.pre
  have hown : s.vm.findClass RX11 = some m.cls := findClass_of_methodNamed B.named
  have hlocks := B.notSynchronized
  have iX11 : ∀ w ∈ u_ws RX11 TX11 8, w ∈ wsX11_feed := by decide +kernel
  have iX8 : ∀ w ∈ u_ws RX8 TX8 2, w ∈ wsX11_feed := by decide +kernel
  have hl := lv_entry ([.ref a0, .int a, .int b, .int c, .int d, .int f]) (n := 6) (Nat.le_of_ble_eq_true rfl)
  rw [lg_entry_eq]
  generalize (lg_sl ([.ref a0, .int a, .int b, .int c, .int d, .int f]) ++ List.replicate (6 - (lg_sl ([.ref a0, .int a, .int b, .int c, .int d, .int f])).length) Slot.unset).toArray = ls at hl ⊢
  have hl : lv_has ls 6 [(0, .ref a0), (1, .int a), (2, .int b), (3, .int c), (4, .int d), (5, .int f)] := hl
  have b_a : -2147483648 ≤ a_t ∧ a_t ≤ 2147483647 := h_a ▸ ⟨xi_lo a, Int.le_of_lt_add_one (xi_hi a)⟩
  have b_b : -2147483648 ≤ b_t ∧ b_t ≤ 2147483647 := h_b ▸ ⟨xi_lo b, Int.le_of_lt_add_one (xi_hi b)⟩
  have b_c : -2147483648 ≤ c_t ∧ c_t ≤ 2147483647 := h_c ▸ ⟨xi_lo c, Int.le_of_lt_add_one (xi_hi c)⟩
  have b_d : -2147483648 ≤ d_t ∧ d_t ≤ 2147483647 := h_d ▸ ⟨xi_lo d, Int.le_of_lt_add_one (xi_hi d)⟩
  have b_f : -2147483648 ≤ f_t ∧ f_t ≤ 2147483647 := h_f ▸ ⟨xi_lo f, Int.le_of_lt_add_one (xi_hi f)⟩
  obtain ⟨tp, rtp, ttp⟩ := hR.at a0 0 t_a0 (rfl : h_rs 12 0 = some (9, false)) (by decide)
  have atp : h_ad z a0 0 = tp := h_ad.at rtp
  obtain ⟨f0_1, ef0_1⟩ : ∃ v : Int32, v = I0 tp 1 := ⟨_, rfl⟩
  have qf0_1 : (I0 tp 1).toInt = f0_1.toInt := congrArg Int32.toInt ef0_1.symm
  have jf0_1 := hI.rd tp 1 ttp ef0_1 (rfl : h_bd 9 1 = (0, 500))
  refine lv_aload_n hx hb dX11_feed_0 rfl (lv_at hl 0 rfl) ?_
  refine h_get (v := .ref tp) hx hb hts iX11 hown g t_a0 (by decide) so_12 rfl 0 (by decide) (hts (.fieldLink RX11 10 "CapLeague" "tape" "LCapLeague$Tape;") (by decide +kernel)) rfl dX11_feed_1 (by show va_rf (z.R a0 0) = _; rw [rtp]; rfl) ?_
  refine vp_callSi (W.runV (As := []) (rest := []) ⟨hx, hb, hml, hown, hts⟩ (tX8_hasRoomF l E X A z I0 L0 tp ttp) (cwV 0 hts gX11_feed_X8_hasRoom rfl rfl rfl (by decide +kernel) ⟨Nat.le_of_ble_eq_true rfl, Nat.le_of_ble_eq_true rfl⟩) ⟨h_blind _ _ _ _ _ _ _, h_recv g ttp (by decide) so_9 (q := (RX8, TX8, 2)) rfl, h_pre _ hE hk hX hA hI hR g⟩ rfl rfl hl.1 rfl (lv_room (Nat.le_of_ble_eq_true rfl)) dX11_feed_4 ⟨Nat.le_of_ble_eq_true rfl, Nat.le_of_ble_eq_true rfl⟩) (fun rh1 h1 => ?_)
  obtain ⟨h1, h1p0⟩ := h1
  rw [show I0 tp 1 = f0_1 from ef0_1.symm] at h1p0
  refine lv_if_ne (tgt := 13) hx hb dX11_feed_7 (by decide) (fun c2 => ?_) (fun c2 => ?_)
  · have ic2 := (xi_ne c2 rfl (by decide) : rh1.toInt ≠ 0)
    refine lv_aload_n hx hb dX11_feed_13 rfl (lv_at hl 0 rfl) ?_
    refine h_get (v := .ref tp) hx hb hts iX11 hown g t_a0 (by decide) so_12 rfl 0 (by decide) (hts (.fieldLink RX11 10 "CapLeague" "tape" "LCapLeague$Tape;") (by decide +kernel)) rfl dX11_feed_14 (by show va_rf (z.R a0 0) = _; rw [rtp]; rfl) ?_
    refine lv_iload_n hx hb dX11_feed_17 rfl (lv_at hl 1 rfl) ?_
    refine va_callv (va_runV (As := [.int a]) (rest := []) ⟨hx, hb, hml, hown, hts⟩ (tX8_appendF l E X A z I0 L0 tp ttp a (a_t) h_a (by rw [ef0_1.symm]; omega)) (cwV 1 hts gX11_feed_X8_append rfl rfl rfl (by decide +kernel) ⟨Nat.le_of_ble_eq_true rfl, Nat.le_of_ble_eq_true rfl⟩) ⟨h_blind _ _ _ _ _ _ _, h_recv g ttp (by decide) so_9 (q := (RX8, TX8, 2)) rfl, h_pre _ hE hk hX hA hI hR g⟩ rfl rfl hl.1 rfl (lv_room (Nat.le_of_ble_eq_true rfl)) dX11_feed_18 ⟨Nat.le_of_ble_eq_true rfl, Nat.le_of_ble_eq_true rfl⟩) g.2.1 (fun q _ h => h) (fun q h => h) (fun I4 t H1 locs ht hvm h3 hB hz1 hk1 hS => ?_)
    obtain ⟨hI, fh3, h3⟩ := h3
    replace g := h_after g hB ht hS
    generalize H1 = H at g
    clear hB hk1 hz1 ht hvm hS
    have hF := hF.call fh3 rfl
    have h3p0 := h3
    rw [show I0 tp 1 = f0_1 from ef0_1.symm] at h3p0
    obtain ⟨v5, ev5⟩ : ∃ v : Int32, v = I4 tp 1 := ⟨_, rfl⟩
    rw [← ev5] at h3p0
    have jv5 := hI.rd tp 1 ttp ev5 (rfl : h_bd 9 1 = (0, 500))
    refine lv_aload_n hx hb dX11_feed_21 rfl (lv_at hl 0 rfl) ?_
    refine h_get (v := .ref tp) hx hb hts iX11 hown g t_a0 (by decide) so_12 rfl 0 (by decide) (hts (.fieldLink RX11 10 "CapLeague" "tape" "LCapLeague$Tape;") (by decide +kernel)) rfl dX11_feed_22 (by show va_rf (z.R a0 0) = _; rw [rtp]; rfl) ?_
    refine lv_iload_n hx hb dX11_feed_25 rfl (lv_at hl 2 rfl) ?_
    refine va_callv (va_runV (As := [.int b]) (rest := []) ⟨hx, hb, hml, hown, hts⟩ (tX8_appendF l E X A z I4 L0 tp ttp b (b_t) h_b (by rw [ev5.symm]; omega)) (cwV 1 hts gX11_feed_X8_append rfl rfl rfl (by decide +kernel) ⟨Nat.le_of_ble_eq_true rfl, Nat.le_of_ble_eq_true rfl⟩) ⟨h_blind _ _ _ _ _ _ _, h_recv g ttp (by decide) so_9 (q := (RX8, TX8, 2)) rfl, h_pre _ hE hk hX hA hI hR g⟩ rfl rfl hl.1 rfl (lv_room (Nat.le_of_ble_eq_true rfl)) dX11_feed_26 ⟨Nat.le_of_ble_eq_true rfl, Nat.le_of_ble_eq_true rfl⟩) g.2.1 (fun q _ h => h) (fun q h => h) (fun I7 t H1 locs ht hvm h6 hB hz1 hk1 hS => ?_)
    obtain ⟨hI, fh6, h6⟩ := h6
    replace g := h_after g hB ht hS
    generalize H1 = H at g
    clear hB hk1 hz1 ht hvm hS
    have hF := hF.call fh6 rfl
    have h6p0 := h6
    rw [show I4 tp 1 = v5 from ev5.symm] at h6p0
    obtain ⟨v8, ev8⟩ : ∃ v : Int32, v = I7 tp 1 := ⟨_, rfl⟩
    rw [← ev8] at h6p0
    have jv8 := hI.rd tp 1 ttp ev8 (rfl : h_bd 9 1 = (0, 500))
    refine lv_aload_n hx hb dX11_feed_29 rfl (lv_at hl 0 rfl) ?_
    refine h_get (v := .ref tp) hx hb hts iX11 hown g t_a0 (by decide) so_12 rfl 0 (by decide) (hts (.fieldLink RX11 10 "CapLeague" "tape" "LCapLeague$Tape;") (by decide +kernel)) rfl dX11_feed_30 (by show va_rf (z.R a0 0) = _; rw [rtp]; rfl) ?_
    refine lv_iload_n hx hb dX11_feed_33 rfl (lv_at hl 3 rfl) ?_
    refine va_callv (va_runV (As := [.int c]) (rest := []) ⟨hx, hb, hml, hown, hts⟩ (tX8_appendF l E X A z I7 L0 tp ttp c (c_t) h_c (by rw [ev8.symm]; omega)) (cwV 1 hts gX11_feed_X8_append rfl rfl rfl (by decide +kernel) ⟨Nat.le_of_ble_eq_true rfl, Nat.le_of_ble_eq_true rfl⟩) ⟨h_blind _ _ _ _ _ _ _, h_recv g ttp (by decide) so_9 (q := (RX8, TX8, 2)) rfl, h_pre _ hE hk hX hA hI hR g⟩ rfl rfl hl.1 rfl (lv_room (Nat.le_of_ble_eq_true rfl)) dX11_feed_34 ⟨Nat.le_of_ble_eq_true rfl, Nat.le_of_ble_eq_true rfl⟩) g.2.1 (fun q _ h => h) (fun q h => h) (fun I10 t H1 locs ht hvm h9 hB hz1 hk1 hS => ?_)
    obtain ⟨hI, fh9, h9⟩ := h9
    replace g := h_after g hB ht hS
    generalize H1 = H at g
    clear hB hk1 hz1 ht hvm hS
    have hF := hF.call fh9 rfl
    have h9p0 := h9
    rw [show I7 tp 1 = v8 from ev8.symm] at h9p0
    obtain ⟨v11, ev11⟩ : ∃ v : Int32, v = I10 tp 1 := ⟨_, rfl⟩
    rw [← ev11] at h9p0
    have jv11 := hI.rd tp 1 ttp ev11 (rfl : h_bd 9 1 = (0, 500))
    refine lv_aload_n hx hb dX11_feed_37 rfl (lv_at hl 0 rfl) ?_
    refine h_get (v := .ref tp) hx hb hts iX11 hown g t_a0 (by decide) so_12 rfl 0 (by decide) (hts (.fieldLink RX11 10 "CapLeague" "tape" "LCapLeague$Tape;") (by decide +kernel)) rfl dX11_feed_38 (by show va_rf (z.R a0 0) = _; rw [rtp]; rfl) ?_
    refine lv_iload hx hb dX11_feed_41 (lv_at hl 4 rfl) ?_
    refine va_callv (va_runV (As := [.int d]) (rest := []) ⟨hx, hb, hml, hown, hts⟩ (tX8_appendF l E X A z I10 L0 tp ttp d (d_t) h_d (by rw [ev11.symm]; omega)) (cwV 1 hts gX11_feed_X8_append rfl rfl rfl (by decide +kernel) ⟨Nat.le_of_ble_eq_true rfl, Nat.le_of_ble_eq_true rfl⟩) ⟨h_blind _ _ _ _ _ _ _, h_recv g ttp (by decide) so_9 (q := (RX8, TX8, 2)) rfl, h_pre _ hE hk hX hA hI hR g⟩ rfl rfl hl.1 rfl (lv_room (Nat.le_of_ble_eq_true rfl)) dX11_feed_43 ⟨Nat.le_of_ble_eq_true rfl, Nat.le_of_ble_eq_true rfl⟩) g.2.1 (fun q _ h => h) (fun q h => h) (fun I13 t H1 locs ht hvm h12 hB hz1 hk1 hS => ?_)
    obtain ⟨hI, fh12, h12⟩ := h12
    replace g := h_after g hB ht hS
    generalize H1 = H at g
    clear hB hk1 hz1 ht hvm hS
    have hF := hF.call fh12 rfl
    have h12p0 := h12
    rw [show I10 tp 1 = v11 from ev11.symm] at h12p0
    obtain ⟨v14, ev14⟩ : ∃ v : Int32, v = I13 tp 1 := ⟨_, rfl⟩
    rw [← ev14] at h12p0
    have jv14 := hI.rd tp 1 ttp ev14 (rfl : h_bd 9 1 = (0, 500))
    refine lv_aload_n hx hb dX11_feed_46 rfl (lv_at hl 0 rfl) ?_
    refine h_get (v := .ref tp) hx hb hts iX11 hown g t_a0 (by decide) so_12 rfl 0 (by decide) (hts (.fieldLink RX11 10 "CapLeague" "tape" "LCapLeague$Tape;") (by decide +kernel)) rfl dX11_feed_47 (by show va_rf (z.R a0 0) = _; rw [rtp]; rfl) ?_
    refine lv_iload hx hb dX11_feed_50 (lv_at hl 5 rfl) ?_
    refine va_callv (va_runV (As := [.int f]) (rest := []) ⟨hx, hb, hml, hown, hts⟩ (tX8_appendF l E X A z I13 L0 tp ttp f (f_t) h_f (by rw [ev14.symm]; omega)) (cwV 1 hts gX11_feed_X8_append rfl rfl rfl (by decide +kernel) ⟨Nat.le_of_ble_eq_true rfl, Nat.le_of_ble_eq_true rfl⟩) ⟨h_blind _ _ _ _ _ _ _, h_recv g ttp (by decide) so_9 (q := (RX8, TX8, 2)) rfl, h_pre _ hE hk hX hA hI hR g⟩ rfl rfl hl.1 rfl (lv_room (Nat.le_of_ble_eq_true rfl)) dX11_feed_52 ⟨Nat.le_of_ble_eq_true rfl, Nat.le_of_ble_eq_true rfl⟩) g.2.1 (fun q _ h => h) (fun q h => h) (fun I16 t H1 locs ht hvm h15 hB hz1 hk1 hS => ?_)
    obtain ⟨hI, fh15, h15⟩ := h15
    replace g := h_after g hB ht hS
    generalize H1 = H at g
    clear hB hk1 hz1 ht hvm hS
    have hF := hF.call fh15 rfl
    have h15p0 := h15
    rw [show I13 tp 1 = v14 from ev14.symm] at h15p0
    obtain ⟨v17, ev17⟩ : ∃ v : Int32, v = I16 tp 1 := ⟨_, rfl⟩
    rw [← ev17] at h15p0
    have jv17 := hI.rd tp 1 ttp ev17 (rfl : h_bd 9 1 = (0, 500))
    refine lv_aload_n hx hb dX11_feed_55 rfl (lv_at hl 0 rfl) ?_
    refine h_get (v := .ref tp) hx hb hts iX11 hown g t_a0 (by decide) so_12 rfl 0 (by decide) (hts (.fieldLink RX11 10 "CapLeague" "tape" "LCapLeague$Tape;") (by decide +kernel)) rfl dX11_feed_56 (by show va_rf (z.R a0 0) = _; rw [rtp]; rfl) ?_
    refine h_get (v := .int v17) hx hb hts iX8 hown g ttp (by decide) so_9 rfl 1 (by decide) (hts (.fieldLink RX11 81 "CapLeague$Tape" "size" "I") (by decide +kernel)) rfl dX11_feed_59 (congrArg Value.int (ev17.symm)) ?_
    have hS := g.2.1
    exact W.iret (v := v17) hx hb hr (fun t ht hW => ⟨⟨v17, I16, rfl, ⟨hI, hF, (by rw [atp]; have q1_ : (I16 tp 1).toInt = v17.toInt := (congrArg Int32.toInt (ev17.symm)).trans rfl; omega)⟩, h_ret g ht⟩, hS.F ht⟩) hS.2.2 dX11_feed_62
  · have ic2 := (xi_eq c2 rfl (by decide) : rh1.toInt = 0)
    refine lv_bipush (v := (-3)) hx hb dX11_feed_10 (by decide) ?_
    have hS := g.2.1
    exact W.iret (v := (-3)) hx hb hr (fun t ht hW => ⟨⟨(-3), I0, rfl, ⟨hI, hF, (by rw [atp]; have qr : ((-3) : Int32).toInt = (-3) := (by decide); omega)⟩, h_ret g ht⟩, hS.F ht⟩) hS.2.2 dX11_feed_12
set_option maxHeartbeats 4000000 in
set_option maxRecDepth 100000 in
theorem tX11_endF (l : Launch) (E : tE) (X : tX) (A : Nat → Prop) (z : tZ) (I0 : tI) (L0 : tL) (a0 : Nat) (t_a0 : z.ty a0 = 12) (n : Int32) (n_t : Int) (h_n : n.toInt = n_t) : Met l yX11_end wsX11_end ({ frames := 1, cells := 0, slots := 0, locals := 64 }) (va_Pc [.ref a0, .int n] (h_P E X A z I0 L0)) (va_Qi (fun r (I1 : tI) => h_I z I1 ∧ h_F [(9, 1)] z I0 I1 ∧ ((0 ≤ n_t ∧ n_t ≤ (I0 (h_ad z a0 0) 1).toInt ∧ r.toInt = n_t ∧ (I1 (h_ad z a0 0) 1).toInt = n_t) ∨ ((n_t < 0 ∨ (I0 (h_ad z a0 0) 1).toInt < n_t) ∧ r.toInt = -1 ∧ (I1 (h_ad z a0 0) 1).toInt = (I0 (h_ad z a0 0) 1).toInt))) (fun (I1 : tI) t => h_B E A z I1 L0 t) A) 0 0 A := by
  refine Met.ofW (cc := cX11_end) (maxL := 2) (ret := (some .int)) (by decide) rfl ?_
  intro pr_ ev_ s m args below meth cd_ s₁ B hml hv
  obtain ⟨rfl, hE, hk, hX, hA, hK, hI, hR, hB0⟩ := hv
  have g : h_G h_so h_fk E A z I0 L0 s s.heap s.heap [] := ⟨hK, va_S.rf, hB0⟩
  have hF : h_F [(9, 1)] z I0 I0 := h_F.rf
  have hx := B.exec
  have hb := B.bytes
  have hr := B.returns
  have hts := atoms_spec (ws := wsX11_end) B.pre
  have hown : s.vm.findClass RX11 = some m.cls := findClass_of_methodNamed B.named
  have hlocks := B.notSynchronized
  have iX11 : ∀ w ∈ u_ws RX11 TX11 8, w ∈ wsX11_end := by decide +kernel
  have iX8 : ∀ w ∈ u_ws RX8 TX8 2, w ∈ wsX11_end := by decide +kernel
  have hl := lv_entry ([.ref a0, .int n]) (n := 2) (Nat.le_of_ble_eq_true rfl)
  rw [lg_entry_eq]
  generalize (lg_sl ([.ref a0, .int n]) ++ List.replicate (2 - (lg_sl ([.ref a0, .int n])).length) Slot.unset).toArray = ls at hl ⊢
  have hl : lv_has ls 2 [(0, .ref a0), (1, .int n)] := hl
  have b_n : -2147483648 ≤ n_t ∧ n_t ≤ 2147483647 := h_n ▸ ⟨xi_lo n, Int.le_of_lt_add_one (xi_hi n)⟩
  obtain ⟨tp, rtp, ttp⟩ := hR.at a0 0 t_a0 (rfl : h_rs 12 0 = some (9, false)) (by decide)
  have atp : h_ad z a0 0 = tp := h_ad.at rtp
  obtain ⟨f0_1, ef0_1⟩ : ∃ v : Int32, v = I0 tp 1 := ⟨_, rfl⟩
  have qf0_1 : (I0 tp 1).toInt = f0_1.toInt := congrArg Int32.toInt ef0_1.symm
  have jf0_1 := hI.rd tp 1 ttp ef0_1 (rfl : h_bd 9 1 = (0, 500))
  refine lv_iload_n hx hb dX11_end_0 rfl (lv_at hl 1 rfl) ?_
  refine lv_if_lt (tgt := 15) hx hb dX11_end_1 (by decide) (fun c1 => ?_) (fun c1 => ?_)
  · have ic1 := (xi_lt c1 h_n (by decide) : n_t < 0)
    refine lv_iconst (v := (-1)) hx hb dX11_end_15 (by decide) ?_
    have hS := g.2.1
    exact W.iret (v := (-1)) hx hb hr (fun t ht hW => ⟨⟨(-1), I0, rfl, ⟨hI, hF, (by rw [atp]; have qr : ((-1) : Int32).toInt = (-1) := (by decide); omega)⟩, h_ret g ht⟩, hS.F ht⟩) hS.2.2 dX11_end_16
  · have ic1 := (xi_nlt c1 h_n (by decide) : 0 ≤ n_t)
    refine lv_iload_n hx hb dX11_end_4 rfl (lv_at hl 1 rfl) ?_
    refine lv_aload_n hx hb dX11_end_5 rfl (lv_at hl 0 rfl) ?_
    refine h_get (v := .ref tp) hx hb hts iX11 hown g t_a0 (by decide) so_12 rfl 0 (by decide) (hts (.fieldLink RX11 10 "CapLeague" "tape" "LCapLeague$Tape;") (by decide +kernel)) rfl dX11_end_6 (by show va_rf (z.R a0 0) = _; rw [rtp]; rfl) ?_
    refine h_get (v := .int f0_1) hx hb hts iX8 hown g ttp (by decide) so_9 rfl 1 (by decide) (hts (.fieldLink RX11 81 "CapLeague$Tape" "size" "I") (by decide +kernel)) rfl dX11_end_9 (congrArg Value.int (ef0_1.symm)) ?_
    refine lv_icmp_le (tgt := 17) hx hb dX11_end_12 (by decide) (fun c2 => ?_) (fun c2 => ?_)
    · have ic2 := (xi_le c2 h_n rfl : n_t ≤ f0_1.toInt)
      refine lv_aload_n hx hb dX11_end_17 rfl (lv_at hl 0 rfl) ?_
      refine h_get (v := .ref tp) hx hb hts iX11 hown g t_a0 (by decide) so_12 rfl 0 (by decide) (hts (.fieldLink RX11 10 "CapLeague" "tape" "LCapLeague$Tape;") (by decide +kernel)) rfl dX11_end_18 (by show va_rf (z.R a0 0) = _; rw [rtp]; rfl) ?_
      refine lv_iload_n hx hb dX11_end_21 rfl (lv_at hl 1 rfl) ?_
      refine h_putI (ty := .int) (v := n) hx hb hts iX8 tyX8 tyX8_ok nmX8 hown g ttp (by decide) so_9 rfl 1 (by decide) rfl (hts (.fieldLink RX11 81 "CapLeague$Tape" "size" "I") (by decide +kernel)) rfl rfl (by decide +kernel) rfl rfl dX11_end_22 (fun I3 H locs eI3 g => ?_)
      have hI := hI.wr eI3 ttp (rfl : h_bd 9 1 = (0, 500)) (by rw [h_n]; omega) (by rw [h_n]; omega)
      have hF := hF.wr eI3 ttp rfl
      refine lv_iload_n hx hb dX11_end_25 rfl (lv_at hl 1 rfl) ?_
      have hS := g.2.1
      exact W.iret (v := n) hx hb hr (fun t ht hW => ⟨⟨n, I3, rfl, ⟨hI, hF, (by rw [atp]; have q1_ : (I3 tp 1).toInt = n_t := (congrArg Int32.toInt (h_n0 eI3)).trans h_n; omega)⟩, h_ret g ht⟩, hS.F ht⟩) hS.2.2 dX11_end_26
    · have ic2 := (xi_nle c2 h_n rfl : f0_1.toInt < n_t)
      refine lv_iconst (v := (-1)) hx hb dX11_end_15 (by decide) ?_
      have hS := g.2.1
      exact W.iret (v := (-1)) hx hb hr (fun t ht hW => ⟨⟨(-1), I0, rfl, ⟨hI, hF, (by rw [atp]; have qr : ((-1) : Int32).toInt = (-1) := (by decide); omega)⟩, h_ret g ht⟩, hS.F ht⟩) hS.2.2 dX11_end_16
set_option maxHeartbeats 4000000 in
set_option maxRecDepth 100000 in
theorem tX11_tableF (l : Launch) (E : tE) (X : tX) (A : Nat → Prop) (z : tZ) (I0 : tI) (L0 : tL) (a0 : Nat) (t_a0 : z.ty a0 = 12) : Met l yX11_table wsX11_table ({ frames := 3, cells := 0, slots := 0, locals := 192 }) (va_Pc [.ref a0] (h_P E X A z I0 L0)) (va_Qi (fun r (I1 : tI) => h_I z I1 ∧ h_F [(300, 999), (3, 1), (9, 1)] z I0 I1 ∧ ((I1 (h_ad z a0 0) 1).toInt = 0)) (fun (I1 : tI) t => h_B E A z I1 L0 t) A) 0 0 A := by
  refine Met.ofW (cc := cX11_table) (maxL := 3) (ret := (some .int)) (by decide) rfl ?_
  intro pr_ ev_ s m args below meth cd_ s₁ B hml hv
  obtain ⟨rfl, hE, hk, hX, hA, hK, hI, hR, hB0⟩ := hv
  have g : h_G h_so h_fk E A z I0 L0 s s.heap s.heap [] := ⟨hK, va_S.rf, hB0⟩
  have hF : h_F [(300, 999), (3, 1), (9, 1)] z I0 I0 := h_F.rf
  have hx := B.exec
  have hb := B.bytes
  have hr := B.returns
  have hts := atoms_spec (ws := wsX11_table) B.pre
  have hown : s.vm.findClass RX11 = some m.cls := findClass_of_methodNamed B.named
  have hlocks := B.notSynchronized
  have iX11 : ∀ w ∈ u_ws RX11 TX11 8, w ∈ wsX11_table := by decide +kernel
  have iX0 : ∀ w ∈ u_ws RX0 TX0 9, w ∈ wsX11_table := by decide +kernel
  have iX8 : ∀ w ∈ u_ws RX8 TX8 2, w ∈ wsX11_table := by decide +kernel
  have hl := lv_entry ([.ref a0]) (n := 3) (Nat.le_of_ble_eq_true rfl)
  rw [lg_entry_eq]
  generalize (lg_sl ([.ref a0]) ++ List.replicate (3 - (lg_sl ([.ref a0])).length) Slot.unset).toArray = ls at hl ⊢
  have hl : lv_has ls 3 [(0, .ref a0)] := hl
  obtain ⟨tp, rtp, ttp⟩ := hR.at a0 0 t_a0 (rfl : h_rs 12 0 = some (9, false)) (by decide)
  have atp : h_ad z a0 0 = tp := h_ad.at rtp
  obtain ⟨f0_1, ef0_1⟩ : ∃ v : Int32, v = I0 tp 1 := ⟨_, rfl⟩
  have qf0_1 : (I0 tp 1).toInt = f0_1.toInt := congrArg Int32.toInt ef0_1.symm
  have jf0_1 := hI.rd tp 1 ttp ef0_1 (rfl : h_bd 9 1 = (0, 500))
  refine lv_aload_n hx hb dX11_table_0 rfl (lv_at hl 0 rfl) ?_
  refine h_get (v := .ref tp) hx hb hts iX11 hown g t_a0 (by decide) so_12 rfl 0 (by decide) (hts (.fieldLink RX11 10 "CapLeague" "tape" "LCapLeague$Tape;") (by decide +kernel)) rfl dX11_table_1 (by show va_rf (z.R a0 0) = _; rw [rtp]; rfl) ?_
  refine vp_callSi (W.runS (As := [.ref tp]) (rest := []) ⟨hx, hb, hml, hown, hts⟩ (tX2_isTable l E X A z I0 L0 tp ttp) (va_cwS 1 hts gX11_table_X2_isTable rfl rfl rfl (by decide +kernel) ⟨Nat.le_of_ble_eq_true rfl, Nat.le_of_ble_eq_true rfl⟩) ⟨h_blind _ _ _ _ _ _ _, h_pre _ hE hk hX hA hI hR g⟩ rfl rfl hl.1 rfl (lv_room (Nat.le_of_ble_eq_true rfl)) dX11_table_4 ⟨Nat.le_of_ble_eq_true rfl, Nat.le_of_ble_eq_true rfl⟩) (fun rh1 h1 => ?_)
  refine lv_istore_n (lv' := [(1, .int rh1), (0, .ref a0)]) hx hb dX11_table_7 rfl hl (by decide) rfl (fun ls hl => ?_)
  refine lv_iconst (v := (-1)) hx hb dX11_table_8 (by decide) ?_
  refine lv_istore_n (lv' := [(2, .int (-1)), (1, .int rh1), (0, .ref a0)]) hx hb dX11_table_9 rfl hl (by decide) rfl (fun ls hl => ?_)
  refine lv_iload_n hx hb dX11_table_10 rfl (lv_at hl 1 rfl) ?_
  refine lv_if_eq (tgt := 37) hx hb dX11_table_11 (by decide) (fun c2 => ?_) (fun c2 => ?_)
  · have ic2 := (xi_eq c2 rfl (by decide) : rh1.toInt = 0)
    refine lv_iload_n hx hb dX11_table_37 rfl (lv_at hl 1 rfl) ?_
    refine lv_if_eq (tgt := 54) hx hb dX11_table_38 (by decide) (fun c3 => ?_) (fun h => absurd (xi_ne h rfl (by decide) : rh1.toInt ≠ 0) (by omega))
    have ic3 := (xi_eq c3 rfl (by decide) : rh1.toInt = 0)
    refine lv_aload_n hx hb dX11_table_54 rfl (lv_at hl 2 rfl) ?_
    refine h_get (v := .ref tp) hx hb hts iX11 hown g t_a0 (by decide) so_12 rfl 0 (by decide) (hts (.fieldLink RX11 10 "CapLeague" "tape" "LCapLeague$Tape;") (by decide +kernel)) rfl dX11_table_55 (by show va_rf (z.R a0 0) = _; rw [rtp]; rfl) ?_
    refine lv_iconst (v := 0) hx hb dX11_table_58 (by decide) ?_
    refine h_putI (ty := .int) (v := 0) hx hb hts iX8 tyX8 tyX8_ok nmX8 hown g ttp (by decide) so_9 rfl 1 (by decide) rfl (hts (.fieldLink RX11 81 "CapLeague$Tape" "size" "I") (by decide +kernel)) rfl rfl (by decide +kernel) rfl rfl dX11_table_59 (fun I4 H locs eI4 g => ?_)
    have hI := hI.wr eI4 ttp (rfl : h_bd 9 1 = (0, 500)) (by decide) (by decide)
    have hF := hF.wr eI4 ttp rfl
    refine lv_iload_n hx hb dX11_table_62 rfl (lv_at hl 0 rfl) ?_
    have hS := g.2.1
    exact W.iret (v := (-1)) hx hb hr (fun t ht hW => ⟨⟨(-1), I4, rfl, ⟨hI, hF, (by rw [atp]; have qr : ((-1) : Int32).toInt = (-1) := (by decide); have q1_ : (I4 tp 1).toInt = 0 := (congrArg Int32.toInt (h_n0 eI4)).trans (by decide); omega)⟩, h_ret g ht⟩, hS.F ht⟩) hS.2.2 dX11_table_63
  · have ic2 := (xi_ne c2 rfl (by decide) : rh1.toInt ≠ 0)
    refine lv_aload_n hx hb dX11_table_14 rfl (lv_at hl 2 rfl) ?_
    obtain ⟨b5, rb5, tb5⟩ := hR.at a0 7 t_a0 (rfl : h_rs 12 7 = some (3, false)) (by decide)
    refine h_get (v := .ref b5) hx hb hts iX11 hown g t_a0 (by decide) so_12 rfl 7 (by decide) (hts (.fieldLink RX11 69 "CapLeague" "draft" "LCapLeague$Draft;") (by decide +kernel)) rfl dX11_table_15 (by show va_rf (z.R a0 7) = _; rw [rb5]; rfl) ?_
    refine lv_aload_n hx hb dX11_table_18 rfl (lv_at hl 2 rfl) ?_
    obtain ⟨b6, rb6, tb6⟩ := hR.at a0 3 t_a0 (rfl : h_rs 12 3 = some (1, false)) (by decide)
    refine h_get (v := .ref b6) hx hb hts iX11 hown g t_a0 (by decide) so_12 rfl 3 (by decide) (hts (.fieldLink RX11 37 "CapLeague" "books" "LCapLeague$Books;") (by decide +kernel)) rfl dX11_table_19 (by show va_rf (z.R a0 3) = _; rw [rb6]; rfl) ?_
    refine h_get (v := .int (I0 b6 3)) hx hb hts iX0 hown g tb6 (by decide) so_1 rfl 3 (by decide) (hts (.fieldLink RX11 142 "CapLeague$Books" "clock" "I") (by decide +kernel)) rfl dX11_table_22 rfl ?_
    refine lv_topi (fun v7 ev7 => ?_)
    have jv7 := hI.rd b6 3 tb6 ev7 (rfl : h_bd 1 3 = (0, 9))
    refine vp_callSi (W.runV (As := [.int v7]) (rest := []) ⟨hx, hb, hml, hown, hts⟩ (tX2_isDrawn l E X A z I0 L0 b5 tb5 v7 (v7.toInt) rfl) (cwV 1 hts gX11_table_X2_isDrawn rfl rfl rfl (by decide +kernel) ⟨Nat.le_of_ble_eq_true rfl, Nat.le_of_ble_eq_true rfl⟩) ⟨h_blind _ _ _ _ _ _ _, h_recv g tb5 (by decide) so_3 (q := (RX2, TX2, 7)) rfl, h_pre _ hE hk hX hA hI hR g⟩ rfl rfl hl.1 rfl (lv_room (Nat.le_of_ble_eq_true rfl)) dX11_table_25 ⟨Nat.le_of_ble_eq_true rfl, Nat.le_of_ble_eq_true rfl⟩) (fun rh8 h8 => ?_)
    refine lv_if_eq (tgt := 37) hx hb dX11_table_28 (by decide) (fun c9 => ?_) (fun c9 => ?_)
    · have ic9 := (xi_eq c9 rfl (by decide) : rh8.toInt = 0)
      refine lv_iload_n hx hb dX11_table_37 rfl (lv_at hl 1 rfl) ?_
      refine lv_if_eq (tgt := 54) hx hb dX11_table_38 (by decide) (fun h => absurd (xi_eq h rfl (by decide) : rh1.toInt = 0) (by omega)) (fun c10 => ?_)
      have ic10 := (xi_ne c10 rfl (by decide) : rh1.toInt ≠ 0)
      refine lv_aload_n hx hb dX11_table_41 rfl (lv_at hl 2 rfl) ?_
      refine h_get (v := .ref b5) hx hb hts iX11 hown g t_a0 (by decide) so_12 rfl 7 (by decide) (hts (.fieldLink RX11 69 "CapLeague" "draft" "LCapLeague$Draft;") (by decide +kernel)) rfl dX11_table_42 (by show va_rf (z.R a0 7) = _; rw [rb5]; rfl) ?_
      refine lv_aload_n hx hb dX11_table_45 rfl (lv_at hl 2 rfl) ?_
      refine h_get (v := .ref tp) hx hb hts iX11 hown g t_a0 (by decide) so_12 rfl 0 (by decide) (hts (.fieldLink RX11 10 "CapLeague" "tape" "LCapLeague$Tape;") (by decide +kernel)) rfl dX11_table_46 (by show va_rf (z.R a0 0) = _; rw [rtp]; rfl) ?_
      refine va_callv (va_runV (As := [.ref tp]) (rest := []) ⟨hx, hb, hml, hown, hts⟩ (tX2_tellTable l E X A z I0 L0 b5 tb5 tp ttp) (cwV 1 hts gX11_table_X2_tellTable rfl rfl rfl (by decide +kernel) ⟨Nat.le_of_ble_eq_true rfl, Nat.le_of_ble_eq_true rfl⟩) ⟨h_blind _ _ _ _ _ _ _, h_recv g tb5 (by decide) so_3 (q := (RX2, TX2, 7)) rfl, h_pre _ hE hk hX hA hI hR g⟩ rfl rfl hl.1 rfl (lv_room (Nat.le_of_ble_eq_true rfl)) dX11_table_49 ⟨Nat.le_of_ble_eq_true rfl, Nat.le_of_ble_eq_true rfl⟩) g.2.1 (fun q _ h => h) (fun q h => h) (fun I12 t H1 locs ht hvm h11 hB hz1 hk1 hS => ?_)
      obtain ⟨hI, fh11, h11⟩ := h11
      replace g := h_after g hB ht hS
      generalize H1 = H at g
      clear hB hk1 hz1 ht hvm hS
      have hF := hF.call fh11 rfl
      refine lv_iconst (v := 1) hx hb dX11_table_52 (by decide) ?_
      refine lv_istore_n (lv' := [(2, .int 1), (1, .int rh1), (0, .ref a0)]) hx hb dX11_table_53 rfl hl (by decide) rfl (fun ls hl => ?_)
      refine lv_aload_n hx hb dX11_table_54 rfl (lv_at hl 2 rfl) ?_
      refine h_get (v := .ref tp) hx hb hts iX11 hown g t_a0 (by decide) so_12 rfl 0 (by decide) (hts (.fieldLink RX11 10 "CapLeague" "tape" "LCapLeague$Tape;") (by decide +kernel)) rfl dX11_table_55 (by show va_rf (z.R a0 0) = _; rw [rtp]; rfl) ?_
      refine lv_iconst (v := 0) hx hb dX11_table_58 (by decide) ?_
      refine h_putI (ty := .int) (v := 0) hx hb hts iX8 tyX8 tyX8_ok nmX8 hown g ttp (by decide) so_9 rfl 1 (by decide) rfl (hts (.fieldLink RX11 81 "CapLeague$Tape" "size" "I") (by decide +kernel)) rfl rfl (by decide +kernel) rfl rfl dX11_table_59 (fun I13 H locs eI13 g => ?_)
      have hI := hI.wr eI13 ttp (rfl : h_bd 9 1 = (0, 500)) (by decide) (by decide)
      have hF := hF.wr eI13 ttp rfl
      refine lv_iload_n hx hb dX11_table_62 rfl (lv_at hl 0 rfl) ?_
      have hS := g.2.1
      exact W.iret (v := 1) hx hb hr (fun t ht hW => ⟨⟨1, I13, rfl, ⟨hI, hF, (by rw [atp]; have qr : (1 : Int32).toInt = 1 := (by decide); have q1_ : (I13 tp 1).toInt = 0 := (congrArg Int32.toInt (h_n0 eI13)).trans (by decide); omega)⟩, h_ret g ht⟩, hS.F ht⟩) hS.2.2 dX11_table_63
    · have ic9 := (xi_ne c9 rfl (by decide) : rh8.toInt ≠ 0)
      refine lv_bipush (v := (-4)) hx hb dX11_table_31 (by decide) ?_
      refine lv_istore_n (lv' := [(2, .int (-4)), (1, .int rh1), (0, .ref a0)]) hx hb dX11_table_33 rfl hl (by decide) rfl (fun ls hl => ?_)
      refine lv_goto (tgt := 54) hx hb dX11_table_34 (by decide) ?_
      refine lv_aload_n hx hb dX11_table_54 rfl (lv_at hl 2 rfl) ?_
      refine h_get (v := .ref tp) hx hb hts iX11 hown g t_a0 (by decide) so_12 rfl 0 (by decide) (hts (.fieldLink RX11 10 "CapLeague" "tape" "LCapLeague$Tape;") (by decide +kernel)) rfl dX11_table_55 (by show va_rf (z.R a0 0) = _; rw [rtp]; rfl) ?_
      refine lv_iconst (v := 0) hx hb dX11_table_58 (by decide) ?_
      refine h_putI (ty := .int) (v := 0) hx hb hts iX8 tyX8 tyX8_ok nmX8 hown g ttp (by decide) so_9 rfl 1 (by decide) rfl (hts (.fieldLink RX11 81 "CapLeague$Tape" "size" "I") (by decide +kernel)) rfl rfl (by decide +kernel) rfl rfl dX11_table_59 (fun I14 H locs eI14 g => ?_)
      have hI := hI.wr eI14 ttp (rfl : h_bd 9 1 = (0, 500)) (by decide) (by decide)
      have hF := hF.wr eI14 ttp rfl
      refine lv_iload_n hx hb dX11_table_62 rfl (lv_at hl 0 rfl) ?_
      have hS := g.2.1
      exact W.iret (v := (-4)) hx hb hr (fun t ht hW => ⟨⟨(-4), I14, rfl, ⟨hI, hF, (by rw [atp]; have qr : ((-4) : Int32).toInt = (-4) := (by decide); have q1_ : (I14 tp 1).toInt = 0 := (congrArg Int32.toInt (h_n0 eI14)).trans (by decide); omega)⟩, h_ret g ht⟩, hS.F ht⟩) hS.2.2 dX11_table_63
set_option maxHeartbeats 4000000 in
set_option maxRecDepth 100000 in
theorem tX12_feedF (l : Launch) (E : tE) (X : tX) (A : Nat → Prop) (z : tZ) (I0 : tI) (L0 : tL) (a0 : Nat) (t_a0 : z.ty a0 = 13) (a : Int32) (a_t : Int) (h_a : a.toInt = a_t) (b : Int32) (b_t : Int) (h_b : b.toInt = b_t) (c : Int32) (c_t : Int) (h_c : c.toInt = c_t) (d : Int32) (d_t : Int) (h_d : d.toInt = d_t) (f : Int32) (f_t : Int) (h_f : f.toInt = f_t) : Met l yX12_feed wsX12_feed ({ frames := 1, cells := 0, slots := 0, locals := 64 }) (va_Pc [.ref a0, .int a, .int b, .int c, .int d, .int f] (h_P E X A z I0 L0)) (va_Qi (fun r (I1 : tI) => h_I z I1 ∧ h_F [(1300, 999), (13, 1)] z I0 I1 ∧ (((I0 a0 1).toInt ≤ 480 ∧ r.toInt = (I0 a0 1).toInt + 20 ∧ (I1 a0 1).toInt = (I0 a0 1).toInt + 20) ∨ (480 < (I0 a0 1).toInt ∧ r.toInt = -3 ∧ (I1 a0 1).toInt = (I0 a0 1).toInt))) (fun (I1 : tI) t => h_B E A z I1 L0 t) A) 0 0 A := by
  refine Met.ofW (cc := cX12_feed) (maxL := 9) (ret := (some .int)) (by decide) rfl ?_
  intro pr_ ev_ s m args below meth cd_ s₁ B hml hv
  obtain ⟨rfl, hE, hk, hX, hA, hK, hI, hR, hB0⟩ := hv
  have g : h_G h_so h_fk E A z I0 L0 s s.heap s.heap [] := ⟨hK, va_S.rf, hB0⟩
  have hF : h_F [(1300, 999), (13, 1)] z I0 I0 := h_F.rf
  have hx := B.exec
  have hb := B.bytes
  have hr := B.returns
  have hts := atoms_spec (ws := wsX12_feed) B.pre
  have hown : s.vm.findClass RX12 = some m.cls := findClass_of_methodNamed B.named
  have hlocks := B.notSynchronized
  have iX12 : ∀ w ∈ u_ws RX12 TX12 51, w ∈ wsX12_feed := by decide +kernel
  have hl := lv_entry ([.ref a0, .int a, .int b, .int c, .int d, .int f]) (n := 9) (Nat.le_of_ble_eq_true rfl)
  rw [lg_entry_eq]
  generalize (lg_sl ([.ref a0, .int a, .int b, .int c, .int d, .int f]) ++ List.replicate (9 - (lg_sl ([.ref a0, .int a, .int b, .int c, .int d, .int f])).length) Slot.unset).toArray = ls at hl ⊢
  have hl : lv_has ls 9 [(0, .ref a0), (1, .int a), (2, .int b), (3, .int c), (4, .int d), (5, .int f)] := hl
  have b_a : -2147483648 ≤ a_t ∧ a_t ≤ 2147483647 := h_a ▸ ⟨xi_lo a, Int.le_of_lt_add_one (xi_hi a)⟩
  have b_b : -2147483648 ≤ b_t ∧ b_t ≤ 2147483647 := h_b ▸ ⟨xi_lo b, Int.le_of_lt_add_one (xi_hi b)⟩
  have b_c : -2147483648 ≤ c_t ∧ c_t ≤ 2147483647 := h_c ▸ ⟨xi_lo c, Int.le_of_lt_add_one (xi_hi c)⟩
  have b_d : -2147483648 ≤ d_t ∧ d_t ≤ 2147483647 := h_d ▸ ⟨xi_lo d, Int.le_of_lt_add_one (xi_hi d)⟩
  have b_f : -2147483648 ≤ f_t ∧ f_t ≤ 2147483647 := h_f ▸ ⟨xi_lo f, Int.le_of_lt_add_one (xi_hi f)⟩
  obtain ⟨f0_1, ef0_1⟩ : ∃ v : Int32, v = I0 a0 1 := ⟨_, rfl⟩
  have qf0_1 : (I0 a0 1).toInt = f0_1.toInt := congrArg Int32.toInt ef0_1.symm
  have jf0_1 := hI.rd a0 1 t_a0 ef0_1 (rfl : h_bd 13 1 = (0, 500))
  refine lv_aload_n hx hb dX12_feed_0 rfl (lv_at hl 0 rfl) ?_
  refine h_get (v := .int f0_1) hx hb hts iX12 hown g t_a0 (by decide) so_13 rfl 1 (by decide) (hts (.fieldLink RX12 119 "CapLeagueModel" "taped" "I") (by decide +kernel)) rfl dX12_feed_1 (congrArg Value.int (ef0_1.symm)) ?_
  refine lv_bipush (v := 20) hx hb dX12_feed_4 (by decide) ?_
  refine lv_iadd hx hb dX12_feed_6 ?_
  refine lv_topi (fun v1 ev1 => ?_)
  have jv1 : v1.toInt = f0_1.toInt + 20 := xi_add ev1 rfl (by decide) (by omega) (by omega)
  refine lv_sipush (v := 500) hx hb dX12_feed_7 (by decide) ?_
  refine lv_icmp_le (tgt := 16) hx hb dX12_feed_10 (by decide) (fun c2 => ?_) (fun c2 => ?_)
  · have ic2 := (xi_le c2 rfl (by decide) : v1.toInt ≤ 500)
    refine lv_iconst (v := 0) hx hb dX12_feed_16 (by decide) ?_
    refine lv_istore (lv' := [(6, .int 0), (0, .ref a0), (1, .int a), (2, .int b), (3, .int c), (4, .int d), (5, .int f)]) hx hb dX12_feed_17 hl (by decide) rfl (fun ls hl => ?_)
    have loop19_0 : ∀ (n : Nat) (I4 : tI) (H : Heap) (locs : List Loc) (ls : Array Slot) (v3 : Int32), h_G h_so h_fk E A z I4 L0 s s.heap H locs → h_I z I4 → h_F [(1300, 999), (13, 1)] z I0 I4 → lv_has ls 9 [(0, .ref a0), (1, .int a), (2, .int b), (3, .int c), (4, .int d), (5, .int f), (6, .int v3)] → (0 ≤ v3.toInt ∧ v3.toInt ≤ 5) → ((I4 a0 1).toInt + 4 * (5 - v3.toInt) = (I0 a0 1).toInt + 20) → (5 - v3.toInt) < (n : Int) → W pr_ l ev_ (headSpec wsX12_feed ({ frames := 1, cells := 0, slots := 0, locals := 64 })).room s m ([.ref a0, .int a, .int b, .int c, .int d, .int f] : List Value).toArray below meth cd_ H locs 0 0 (MQ below (va_Qi (fun r (I1 : tI) => h_I z I1 ∧ h_F [(1300, 999), (13, 1)] z I0 I1 ∧ (((I0 a0 1).toInt ≤ 480 ∧ r.toInt = (I0 a0 1).toInt + 20 ∧ (I1 a0 1).toInt = (I0 a0 1).toInt + 20) ∨ (480 < (I0 a0 1).toInt ∧ r.toInt = -3 ∧ (I1 a0 1).toInt = (I0 a0 1).toInt))) (fun (I1 : tI) t => h_B E A z I1 L0 t) A) ([.ref a0, .int a, .int b, .int c, .int d, .int f] : List Value).toArray s 0 0 A) (F0 m 19 ls []) := by
      intro n
      induction n with
      | zero => intro I4 H locs ls v3 g hI hF hl jv3 hx19_0 hn; exact absurd hn (by omega)
      | succ n ih19 =>
        intro I4 H locs ls v3 g hI hF hl jv3 hx19_0 hn
        obtain ⟨v5, ev5⟩ : ∃ v : Int32, v = I4 a0 1 := ⟨_, rfl⟩
        rw [← ev5] at hx19_0
        have jv5 := hI.rd a0 1 t_a0 ev5 (rfl : h_bd 13 1 = (0, 500))
        refine lv_iload hx hb dX12_feed_19 (lv_at hl 6 rfl) ?_
        refine lv_iconst (v := 5) hx hb dX12_feed_21 (by decide) ?_
        refine lv_icmp_ge (tgt := 115) hx hb dX12_feed_22 (by decide) (fun c6 => ?_) (fun c6 => ?_)
        · have ic6 := (xi_le c6 (by decide) rfl : 5 ≤ v3.toInt)
          refine lv_aload_n hx hb dX12_feed_115 rfl (lv_at hl 0 rfl) ?_
          refine h_get (v := .int v5) hx hb hts iX12 hown g t_a0 (by decide) so_13 rfl 1 (by decide) (hts (.fieldLink RX12 119 "CapLeagueModel" "taped" "I") (by decide +kernel)) rfl dX12_feed_116 (congrArg Value.int (ev5.symm)) ?_
          have hS := g.2.1
          exact W.iret (v := v5) hx hb hr (fun t ht hW => ⟨⟨v5, I4, rfl, ⟨hI, hF, (by have q1_ : (I4 a0 1).toInt = v5.toInt := (congrArg Int32.toInt (ev5.symm)).trans rfl; omega)⟩, h_ret g ht⟩, hS.F ht⟩) hS.2.2 dX12_feed_119
        · have ic6 := (xi_nle c6 (by decide) rfl : v3.toInt < 5)
          refine lv_iload hx hb dX12_feed_25 (lv_at hl 6 rfl) ?_
          refine lv_if_ne (tgt := 34) hx hb dX12_feed_27 (by decide) (fun c7 => ?_) (fun c7 => ?_)
          · have ic7 := (xi_ne c7 rfl (by decide) : v3.toInt ≠ 0)
            refine lv_iload hx hb dX12_feed_34 (lv_at hl 6 rfl) ?_
            refine lv_iconst (v := 1) hx hb dX12_feed_36 (by decide) ?_
            refine lv_icmp_ne (tgt := 44) hx hb dX12_feed_37 (by decide) (fun c8 => ?_) (fun c8 => ?_)
            · have ic8 := (xi_ne c8 rfl (by decide) : v3.toInt ≠ 1)
              refine lv_iload hx hb dX12_feed_44 (lv_at hl 6 rfl) ?_
              refine lv_iconst (v := 2) hx hb dX12_feed_46 (by decide) ?_
              refine lv_icmp_ne (tgt := 54) hx hb dX12_feed_47 (by decide) (fun c9 => ?_) (fun c9 => ?_)
              · have ic9 := (xi_ne c9 rfl (by decide) : v3.toInt ≠ 2)
                refine lv_iload hx hb dX12_feed_54 (lv_at hl 6 rfl) ?_
                refine lv_iconst (v := 3) hx hb dX12_feed_56 (by decide) ?_
                refine lv_icmp_ne (tgt := 65) hx hb dX12_feed_57 (by decide) (fun c10 => ?_) (fun c10 => ?_)
                · have ic10 := (xi_ne c10 rfl (by decide) : v3.toInt ≠ 3)
                  refine lv_iload hx hb dX12_feed_65 (lv_at hl 5 rfl) ?_
                  refine lv_istore (lv' := [(7, .int f), (0, .ref a0), (1, .int a), (2, .int b), (3, .int c), (4, .int d), (5, .int f), (6, .int v3)]) hx hb dX12_feed_67 hl (by decide) rfl (fun ls hl => ?_)
                  refine lv_bipush (v := 24) hx hb dX12_feed_69 (by decide) ?_
                  refine lv_istore (lv' := [(8, .int 24), (7, .int f), (0, .ref a0), (1, .int a), (2, .int b), (3, .int c), (4, .int d), (5, .int f), (6, .int v3)]) hx hb dX12_feed_71 hl (by decide) rfl (fun ls hl => ?_)
                  have loop73_1 : ∀ (n : Nat) (I12 : tI) (H : Heap) (locs : List Loc) (ls : Array Slot) (v11 : Int32), h_G h_so h_fk E A z I12 L0 s s.heap H locs → h_I z I12 → h_F [(1300, 999), (13, 1)] z I0 I12 → lv_has ls 9 [(0, .ref a0), (1, .int a), (2, .int b), (3, .int c), (4, .int d), (5, .int f), (6, .int v3), (7, .int f), (8, .int v11)] → ((-8) ≤ v11.toInt ∧ v11.toInt ≤ 24) → (8 * (I12 a0 1).toInt + 32 * (5 - v3.toInt) = 8 * (I0 a0 1).toInt + 160 + 24 - v11.toInt) → (v11.toInt % 8 = 0) → (v11.toInt + 8) < (n : Int) → W pr_ l ev_ (headSpec wsX12_feed ({ frames := 1, cells := 0, slots := 0, locals := 64 })).room s m ([.ref a0, .int a, .int b, .int c, .int d, .int f] : List Value).toArray below meth cd_ H locs 0 0 (MQ below (va_Qi (fun r (I1 : tI) => h_I z I1 ∧ h_F [(1300, 999), (13, 1)] z I0 I1 ∧ (((I0 a0 1).toInt ≤ 480 ∧ r.toInt = (I0 a0 1).toInt + 20 ∧ (I1 a0 1).toInt = (I0 a0 1).toInt + 20) ∨ (480 < (I0 a0 1).toInt ∧ r.toInt = -3 ∧ (I1 a0 1).toInt = (I0 a0 1).toInt))) (fun (I1 : tI) t => h_B E A z I1 L0 t) A) ([.ref a0, .int a, .int b, .int c, .int d, .int f] : List Value).toArray s 0 0 A) (F0 m 73 ls []) := by
                    intro n
                    induction n with
                    | zero => intro I12 H locs ls v11 g hI hF hl jv11 hx73_0 hx73_1 hn; exact absurd hn (by omega)
                    | succ n ih73 =>
                      intro I12 H locs ls v11 g hI hF hl jv11 hx73_0 hx73_1 hn
                      obtain ⟨v13, ev13⟩ : ∃ v : Int32, v = I12 a0 1 := ⟨_, rfl⟩
                      rw [← ev13] at hx73_0
                      have jv13 := hI.rd a0 1 t_a0 ev13 (rfl : h_bd 13 1 = (0, 500))
                      refine lv_iload hx hb dX12_feed_73 (lv_at hl 8 rfl) ?_
                      refine lv_if_lt (tgt := 109) hx hb dX12_feed_75 (by decide) (fun c14 => ?_) (fun c14 => ?_)
                      · have ic14 := (xi_lt c14 rfl (by decide) : v11.toInt < 0)
                        obtain ⟨v15, ev15⟩ : ∃ z : Int32, z = v3 + 1 := ⟨_, rfl⟩
                        have jv15 : v15.toInt = v3.toInt + 1 := xi_add ev15 rfl (by decide) (by omega) (by omega)
                        refine lv_iinc (v := v15) (lv' := [(6, .int v15), (0, .ref a0), (1, .int a), (2, .int b), (3, .int c), (4, .int d), (5, .int f), (7, .int f), (8, .int v11)]) hx hb dX12_feed_109 hl (k := 6) rfl (by rw [ev15]; rfl) (by decide) rfl (fun ls hl => ?_)
                        refine lv_goto (tgt := 19) hx hb dX12_feed_112 (by decide) ?_
                        have k16 : (I12 a0 1).toInt = v13.toInt := (congrArg Int32.toInt (ev13.symm)).trans rfl
                        exact ih19 I12 _ _ _ v15 g hI hF (lv_sub hl [1, 2, 3, 4, 5, 6, 0] rfl) (by omega) (by omega) (by omega)
                      · have ic14 := (xi_nlt c14 rfl (by decide) : 0 ≤ v11.toInt)
                        refine lv_aload_n hx hb dX12_feed_78 rfl (lv_at hl 0 rfl) ?_
                        obtain ⟨b17, rb17, tb17⟩ := hR.at a0 0 t_a0 (rfl : h_rs 13 0 = some (1300, false)) (by decide)
                        refine h_get (v := .ref b17) hx hb hts iX12 hown g t_a0 (by decide) so_13 rfl 0 (by decide) (hts (.fieldLink RX12 7 "CapLeagueModel" "tape" "[B") (by decide +kernel)) rfl dX12_feed_79 (by show va_rf (z.R a0 0) = _; rw [rb17]; rfl) ?_
                        refine lv_aload_n hx hb dX12_feed_82 rfl (lv_at hl 0 rfl) ?_
                        refine h_get (v := .int v13) hx hb hts iX12 hown g t_a0 (by decide) so_13 rfl 1 (by decide) (hts (.fieldLink RX12 119 "CapLeagueModel" "taped" "I") (by decide +kernel)) rfl dX12_feed_83 (congrArg Value.int (ev13.symm)) ?_
                        refine lv_iload hx hb dX12_feed_86 (lv_at hl 7 rfl) ?_
                        refine lv_iload hx hb dX12_feed_88 (lv_at hl 8 rfl) ?_
                        refine lv_ishr hx hb dX12_feed_90 ?_
                        refine lv_topi (fun v18 ev18 => ?_)
                        have jv18 : -2147483648 ≤ v18.toInt ∧ v18.toInt ≤ 2147483647 := ⟨xi_lo _, Int.le_of_lt_add_one (xi_hi _)⟩
                        refine lv_i2b hx hb dX12_feed_91 rfl ?_
                        refine lv_topi (fun v19 ev19 => ?_)
                        have jv19 : -2147483648 ≤ v19.toInt ∧ v19.toInt ≤ 2147483647 := ⟨xi_lo _, Int.le_of_lt_add_one (xi_hi _)⟩
                        refine h_bast hx hb g tb17 (by decide) so_1300 (xi_in (by omega) (by omega)) dX12_feed_92 (fun I20 H locs eI20 g => ?_)
                        have hI := hI.wr eI20 tb17 (rfl : h_bd 1300 _ = (-128, 127)) (h_ny _).1 (h_ny _).2
                        have hF := hF.wr eI20 tb17 rfl
                        refine lv_aload_n hx hb dX12_feed_93 rfl (lv_at hl 0 rfl) ?_
                        refine lv_dup hx hb dX12_feed_94 rfl ?_
                        refine h_get (v := .int v13) hx hb hts iX12 hown g t_a0 (by decide) so_13 rfl 1 (by decide) (hts (.fieldLink RX12 119 "CapLeagueModel" "taped" "I") (by decide +kernel)) rfl dX12_feed_95 (congrArg Value.int ((h_n1 eI20 t_a0 tb17 (by decide)).trans (ev13.symm))) ?_
                        refine lv_iconst (v := 1) hx hb dX12_feed_98 (by decide) ?_
                        refine lv_iadd hx hb dX12_feed_99 ?_
                        refine lv_topi (fun v21 ev21 => ?_)
                        have jv21 : v21.toInt = v13.toInt + 1 := xi_add ev21 rfl (by decide) (by omega) (by omega)
                        refine h_putI (ty := .int) (v := v21) hx hb hts iX12 tyX12 tyX12_ok nmX12 hown g t_a0 (by decide) so_13 rfl 1 (by decide) rfl (hts (.fieldLink RX12 119 "CapLeagueModel" "taped" "I") (by decide +kernel)) rfl rfl (by decide +kernel) rfl rfl dX12_feed_100 (fun I22 H locs eI22 g => ?_)
                        have hI := hI.wr eI22 t_a0 (rfl : h_bd 13 1 = (0, 500)) (by omega) (by omega)
                        have hF := hF.wr eI22 t_a0 rfl
                        obtain ⟨v23, ev23⟩ : ∃ z : Int32, z = v11 + (-8) := ⟨_, rfl⟩
                        have jv23 : v23.toInt = v11.toInt + (-8) := xi_add ev23 rfl (by decide) (by omega) (by omega)
                        refine lv_iinc (v := v23) (lv' := [(8, .int v23), (0, .ref a0), (1, .int a), (2, .int b), (3, .int c), (4, .int d), (5, .int f), (6, .int v3), (7, .int f)]) hx hb dX12_feed_103 hl (k := 8) rfl (by rw [ev23]; rfl) (by decide) rfl (fun ls hl => ?_)
                        refine lv_goto (tgt := 73) hx hb dX12_feed_106 (by decide) ?_
                        have k24 : (I22 a0 1).toInt = v21.toInt := (congrArg Int32.toInt (h_n0 eI22)).trans rfl
                        exact ih73 I22 _ _ _ v23 g hI hF (lv_sub hl [1, 2, 3, 4, 5, 6, 7, 8, 0] rfl) (by omega) (by omega) (by omega) (by omega)
                  have kc25 : (24 : Int32).toInt = 24 := by decide
                  have k26 : (I4 a0 1).toInt = v5.toInt := (congrArg Int32.toInt (ev5.symm)).trans rfl
                  exact loop73_1 _ I4 _ _ _ (24) g hI hF (lv_sub hl [2, 3, 4, 5, 6, 7, 8, 1, 0] rfl) ⟨by decide, by decide⟩ (by omega) (by omega) (show ((24 : Int) + 8) < ((((24 : Int) + 8).toNat + 1 : Nat) : Int) by omega)
                · have ic10 := (xi_eq c10 rfl (by decide) : v3.toInt = 3)
                  refine lv_iload hx hb dX12_feed_60 (lv_at hl 4 rfl) ?_
                  refine lv_goto (tgt := 67) hx hb dX12_feed_62 (by decide) ?_
                  refine lv_istore (lv' := [(7, .int d), (0, .ref a0), (1, .int a), (2, .int b), (3, .int c), (4, .int d), (5, .int f), (6, .int v3)]) hx hb dX12_feed_67 hl (by decide) rfl (fun ls hl => ?_)
                  refine lv_bipush (v := 24) hx hb dX12_feed_69 (by decide) ?_
                  refine lv_istore (lv' := [(8, .int 24), (7, .int d), (0, .ref a0), (1, .int a), (2, .int b), (3, .int c), (4, .int d), (5, .int f), (6, .int v3)]) hx hb dX12_feed_71 hl (by decide) rfl (fun ls hl => ?_)
                  have loop73_2 : ∀ (n : Nat) (I28 : tI) (H : Heap) (locs : List Loc) (ls : Array Slot) (v27 : Int32), h_G h_so h_fk E A z I28 L0 s s.heap H locs → h_I z I28 → h_F [(1300, 999), (13, 1)] z I0 I28 → lv_has ls 9 [(0, .ref a0), (1, .int a), (2, .int b), (3, .int c), (4, .int d), (5, .int f), (6, .int v3), (7, .int d), (8, .int v27)] → ((-8) ≤ v27.toInt ∧ v27.toInt ≤ 24) → (8 * (I28 a0 1).toInt + 32 * (5 - v3.toInt) = 8 * (I0 a0 1).toInt + 160 + 24 - v27.toInt) → (v27.toInt % 8 = 0) → (v27.toInt + 8) < (n : Int) → W pr_ l ev_ (headSpec wsX12_feed ({ frames := 1, cells := 0, slots := 0, locals := 64 })).room s m ([.ref a0, .int a, .int b, .int c, .int d, .int f] : List Value).toArray below meth cd_ H locs 0 0 (MQ below (va_Qi (fun r (I1 : tI) => h_I z I1 ∧ h_F [(1300, 999), (13, 1)] z I0 I1 ∧ (((I0 a0 1).toInt ≤ 480 ∧ r.toInt = (I0 a0 1).toInt + 20 ∧ (I1 a0 1).toInt = (I0 a0 1).toInt + 20) ∨ (480 < (I0 a0 1).toInt ∧ r.toInt = -3 ∧ (I1 a0 1).toInt = (I0 a0 1).toInt))) (fun (I1 : tI) t => h_B E A z I1 L0 t) A) ([.ref a0, .int a, .int b, .int c, .int d, .int f] : List Value).toArray s 0 0 A) (F0 m 73 ls []) := by
                    intro n
                    induction n with
                    | zero => intro I28 H locs ls v27 g hI hF hl jv27 hx73_0 hx73_1 hn; exact absurd hn (by omega)
                    | succ n ih73 =>
                      intro I28 H locs ls v27 g hI hF hl jv27 hx73_0 hx73_1 hn
                      obtain ⟨v29, ev29⟩ : ∃ v : Int32, v = I28 a0 1 := ⟨_, rfl⟩
                      rw [← ev29] at hx73_0
                      have jv29 := hI.rd a0 1 t_a0 ev29 (rfl : h_bd 13 1 = (0, 500))
                      refine lv_iload hx hb dX12_feed_73 (lv_at hl 8 rfl) ?_
                      refine lv_if_lt (tgt := 109) hx hb dX12_feed_75 (by decide) (fun c30 => ?_) (fun c30 => ?_)
                      · have ic30 := (xi_lt c30 rfl (by decide) : v27.toInt < 0)
                        obtain ⟨v31, ev31⟩ : ∃ z : Int32, z = v3 + 1 := ⟨_, rfl⟩
                        have jv31 : v31.toInt = v3.toInt + 1 := xi_add ev31 rfl (by decide) (by omega) (by omega)
                        refine lv_iinc (v := v31) (lv' := [(6, .int v31), (0, .ref a0), (1, .int a), (2, .int b), (3, .int c), (4, .int d), (5, .int f), (7, .int d), (8, .int v27)]) hx hb dX12_feed_109 hl (k := 6) rfl (by rw [ev31]; rfl) (by decide) rfl (fun ls hl => ?_)
                        refine lv_goto (tgt := 19) hx hb dX12_feed_112 (by decide) ?_
                        have k32 : (I28 a0 1).toInt = v29.toInt := (congrArg Int32.toInt (ev29.symm)).trans rfl
                        exact ih19 I28 _ _ _ v31 g hI hF (lv_sub hl [1, 2, 3, 4, 5, 6, 0] rfl) (by omega) (by omega) (by omega)
                      · have ic30 := (xi_nlt c30 rfl (by decide) : 0 ≤ v27.toInt)
                        refine lv_aload_n hx hb dX12_feed_78 rfl (lv_at hl 0 rfl) ?_
                        obtain ⟨b33, rb33, tb33⟩ := hR.at a0 0 t_a0 (rfl : h_rs 13 0 = some (1300, false)) (by decide)
                        refine h_get (v := .ref b33) hx hb hts iX12 hown g t_a0 (by decide) so_13 rfl 0 (by decide) (hts (.fieldLink RX12 7 "CapLeagueModel" "tape" "[B") (by decide +kernel)) rfl dX12_feed_79 (by show va_rf (z.R a0 0) = _; rw [rb33]; rfl) ?_
                        refine lv_aload_n hx hb dX12_feed_82 rfl (lv_at hl 0 rfl) ?_
                        refine h_get (v := .int v29) hx hb hts iX12 hown g t_a0 (by decide) so_13 rfl 1 (by decide) (hts (.fieldLink RX12 119 "CapLeagueModel" "taped" "I") (by decide +kernel)) rfl dX12_feed_83 (congrArg Value.int (ev29.symm)) ?_
                        refine lv_iload hx hb dX12_feed_86 (lv_at hl 7 rfl) ?_
                        refine lv_iload hx hb dX12_feed_88 (lv_at hl 8 rfl) ?_
                        refine lv_ishr hx hb dX12_feed_90 ?_
                        refine lv_topi (fun v34 ev34 => ?_)
                        have jv34 : -2147483648 ≤ v34.toInt ∧ v34.toInt ≤ 2147483647 := ⟨xi_lo _, Int.le_of_lt_add_one (xi_hi _)⟩
                        refine lv_i2b hx hb dX12_feed_91 rfl ?_
                        refine lv_topi (fun v35 ev35 => ?_)
                        have jv35 : -2147483648 ≤ v35.toInt ∧ v35.toInt ≤ 2147483647 := ⟨xi_lo _, Int.le_of_lt_add_one (xi_hi _)⟩
                        refine h_bast hx hb g tb33 (by decide) so_1300 (xi_in (by omega) (by omega)) dX12_feed_92 (fun I36 H locs eI36 g => ?_)
                        have hI := hI.wr eI36 tb33 (rfl : h_bd 1300 _ = (-128, 127)) (h_ny _).1 (h_ny _).2
                        have hF := hF.wr eI36 tb33 rfl
                        refine lv_aload_n hx hb dX12_feed_93 rfl (lv_at hl 0 rfl) ?_
                        refine lv_dup hx hb dX12_feed_94 rfl ?_
                        refine h_get (v := .int v29) hx hb hts iX12 hown g t_a0 (by decide) so_13 rfl 1 (by decide) (hts (.fieldLink RX12 119 "CapLeagueModel" "taped" "I") (by decide +kernel)) rfl dX12_feed_95 (congrArg Value.int ((h_n1 eI36 t_a0 tb33 (by decide)).trans (ev29.symm))) ?_
                        refine lv_iconst (v := 1) hx hb dX12_feed_98 (by decide) ?_
                        refine lv_iadd hx hb dX12_feed_99 ?_
                        refine lv_topi (fun v37 ev37 => ?_)
                        have jv37 : v37.toInt = v29.toInt + 1 := xi_add ev37 rfl (by decide) (by omega) (by omega)
                        refine h_putI (ty := .int) (v := v37) hx hb hts iX12 tyX12 tyX12_ok nmX12 hown g t_a0 (by decide) so_13 rfl 1 (by decide) rfl (hts (.fieldLink RX12 119 "CapLeagueModel" "taped" "I") (by decide +kernel)) rfl rfl (by decide +kernel) rfl rfl dX12_feed_100 (fun I38 H locs eI38 g => ?_)
                        have hI := hI.wr eI38 t_a0 (rfl : h_bd 13 1 = (0, 500)) (by omega) (by omega)
                        have hF := hF.wr eI38 t_a0 rfl
                        obtain ⟨v39, ev39⟩ : ∃ z : Int32, z = v27 + (-8) := ⟨_, rfl⟩
                        have jv39 : v39.toInt = v27.toInt + (-8) := xi_add ev39 rfl (by decide) (by omega) (by omega)
                        refine lv_iinc (v := v39) (lv' := [(8, .int v39), (0, .ref a0), (1, .int a), (2, .int b), (3, .int c), (4, .int d), (5, .int f), (6, .int v3), (7, .int d)]) hx hb dX12_feed_103 hl (k := 8) rfl (by rw [ev39]; rfl) (by decide) rfl (fun ls hl => ?_)
                        refine lv_goto (tgt := 73) hx hb dX12_feed_106 (by decide) ?_
                        have k40 : (I38 a0 1).toInt = v37.toInt := (congrArg Int32.toInt (h_n0 eI38)).trans rfl
                        exact ih73 I38 _ _ _ v39 g hI hF (lv_sub hl [1, 2, 3, 4, 5, 6, 7, 8, 0] rfl) (by omega) (by omega) (by omega) (by omega)
                  have kc41 : (24 : Int32).toInt = 24 := by decide
                  have k42 : (I4 a0 1).toInt = v5.toInt := (congrArg Int32.toInt (ev5.symm)).trans rfl
                  exact loop73_2 _ I4 _ _ _ (24) g hI hF (lv_sub hl [2, 3, 4, 5, 6, 7, 8, 1, 0] rfl) ⟨by decide, by decide⟩ (by omega) (by omega) (show ((24 : Int) + 8) < ((((24 : Int) + 8).toNat + 1 : Nat) : Int) by omega)
              · have ic9 := (xi_eq c9 rfl (by decide) : v3.toInt = 2)
                refine lv_iload_n hx hb dX12_feed_50 rfl (lv_at hl 3 rfl) ?_
                refine lv_goto (tgt := 67) hx hb dX12_feed_51 (by decide) ?_
                refine lv_istore (lv' := [(7, .int c), (0, .ref a0), (1, .int a), (2, .int b), (3, .int c), (4, .int d), (5, .int f), (6, .int v3)]) hx hb dX12_feed_67 hl (by decide) rfl (fun ls hl => ?_)
                refine lv_bipush (v := 24) hx hb dX12_feed_69 (by decide) ?_
                refine lv_istore (lv' := [(8, .int 24), (7, .int c), (0, .ref a0), (1, .int a), (2, .int b), (3, .int c), (4, .int d), (5, .int f), (6, .int v3)]) hx hb dX12_feed_71 hl (by decide) rfl (fun ls hl => ?_)
                have loop73_3 : ∀ (n : Nat) (I44 : tI) (H : Heap) (locs : List Loc) (ls : Array Slot) (v43 : Int32), h_G h_so h_fk E A z I44 L0 s s.heap H locs → h_I z I44 → h_F [(1300, 999), (13, 1)] z I0 I44 → lv_has ls 9 [(0, .ref a0), (1, .int a), (2, .int b), (3, .int c), (4, .int d), (5, .int f), (6, .int v3), (7, .int c), (8, .int v43)] → ((-8) ≤ v43.toInt ∧ v43.toInt ≤ 24) → (8 * (I44 a0 1).toInt + 32 * (5 - v3.toInt) = 8 * (I0 a0 1).toInt + 160 + 24 - v43.toInt) → (v43.toInt % 8 = 0) → (v43.toInt + 8) < (n : Int) → W pr_ l ev_ (headSpec wsX12_feed ({ frames := 1, cells := 0, slots := 0, locals := 64 })).room s m ([.ref a0, .int a, .int b, .int c, .int d, .int f] : List Value).toArray below meth cd_ H locs 0 0 (MQ below (va_Qi (fun r (I1 : tI) => h_I z I1 ∧ h_F [(1300, 999), (13, 1)] z I0 I1 ∧ (((I0 a0 1).toInt ≤ 480 ∧ r.toInt = (I0 a0 1).toInt + 20 ∧ (I1 a0 1).toInt = (I0 a0 1).toInt + 20) ∨ (480 < (I0 a0 1).toInt ∧ r.toInt = -3 ∧ (I1 a0 1).toInt = (I0 a0 1).toInt))) (fun (I1 : tI) t => h_B E A z I1 L0 t) A) ([.ref a0, .int a, .int b, .int c, .int d, .int f] : List Value).toArray s 0 0 A) (F0 m 73 ls []) := by
                  intro n
                  induction n with
                  | zero => intro I44 H locs ls v43 g hI hF hl jv43 hx73_0 hx73_1 hn; exact absurd hn (by omega)
                  | succ n ih73 =>
                    intro I44 H locs ls v43 g hI hF hl jv43 hx73_0 hx73_1 hn
                    obtain ⟨v45, ev45⟩ : ∃ v : Int32, v = I44 a0 1 := ⟨_, rfl⟩
                    rw [← ev45] at hx73_0
                    have jv45 := hI.rd a0 1 t_a0 ev45 (rfl : h_bd 13 1 = (0, 500))
                    refine lv_iload hx hb dX12_feed_73 (lv_at hl 8 rfl) ?_
                    refine lv_if_lt (tgt := 109) hx hb dX12_feed_75 (by decide) (fun c46 => ?_) (fun c46 => ?_)
                    · have ic46 := (xi_lt c46 rfl (by decide) : v43.toInt < 0)
                      obtain ⟨v47, ev47⟩ : ∃ z : Int32, z = v3 + 1 := ⟨_, rfl⟩
                      have jv47 : v47.toInt = v3.toInt + 1 := xi_add ev47 rfl (by decide) (by omega) (by omega)
                      refine lv_iinc (v := v47) (lv' := [(6, .int v47), (0, .ref a0), (1, .int a), (2, .int b), (3, .int c), (4, .int d), (5, .int f), (7, .int c), (8, .int v43)]) hx hb dX12_feed_109 hl (k := 6) rfl (by rw [ev47]; rfl) (by decide) rfl (fun ls hl => ?_)
                      refine lv_goto (tgt := 19) hx hb dX12_feed_112 (by decide) ?_
                      have k48 : (I44 a0 1).toInt = v45.toInt := (congrArg Int32.toInt (ev45.symm)).trans rfl
                      exact ih19 I44 _ _ _ v47 g hI hF (lv_sub hl [1, 2, 3, 4, 5, 6, 0] rfl) (by omega) (by omega) (by omega)
                    · have ic46 := (xi_nlt c46 rfl (by decide) : 0 ≤ v43.toInt)
                      refine lv_aload_n hx hb dX12_feed_78 rfl (lv_at hl 0 rfl) ?_
                      obtain ⟨b49, rb49, tb49⟩ := hR.at a0 0 t_a0 (rfl : h_rs 13 0 = some (1300, false)) (by decide)
                      refine h_get (v := .ref b49) hx hb hts iX12 hown g t_a0 (by decide) so_13 rfl 0 (by decide) (hts (.fieldLink RX12 7 "CapLeagueModel" "tape" "[B") (by decide +kernel)) rfl dX12_feed_79 (by show va_rf (z.R a0 0) = _; rw [rb49]; rfl) ?_
                      refine lv_aload_n hx hb dX12_feed_82 rfl (lv_at hl 0 rfl) ?_
                      refine h_get (v := .int v45) hx hb hts iX12 hown g t_a0 (by decide) so_13 rfl 1 (by decide) (hts (.fieldLink RX12 119 "CapLeagueModel" "taped" "I") (by decide +kernel)) rfl dX12_feed_83 (congrArg Value.int (ev45.symm)) ?_
                      refine lv_iload hx hb dX12_feed_86 (lv_at hl 7 rfl) ?_
                      refine lv_iload hx hb dX12_feed_88 (lv_at hl 8 rfl) ?_
                      refine lv_ishr hx hb dX12_feed_90 ?_
                      refine lv_topi (fun v50 ev50 => ?_)
                      have jv50 : -2147483648 ≤ v50.toInt ∧ v50.toInt ≤ 2147483647 := ⟨xi_lo _, Int.le_of_lt_add_one (xi_hi _)⟩
                      refine lv_i2b hx hb dX12_feed_91 rfl ?_
                      refine lv_topi (fun v51 ev51 => ?_)
                      have jv51 : -2147483648 ≤ v51.toInt ∧ v51.toInt ≤ 2147483647 := ⟨xi_lo _, Int.le_of_lt_add_one (xi_hi _)⟩
                      refine h_bast hx hb g tb49 (by decide) so_1300 (xi_in (by omega) (by omega)) dX12_feed_92 (fun I52 H locs eI52 g => ?_)
                      have hI := hI.wr eI52 tb49 (rfl : h_bd 1300 _ = (-128, 127)) (h_ny _).1 (h_ny _).2
                      have hF := hF.wr eI52 tb49 rfl
                      refine lv_aload_n hx hb dX12_feed_93 rfl (lv_at hl 0 rfl) ?_
                      refine lv_dup hx hb dX12_feed_94 rfl ?_
                      refine h_get (v := .int v45) hx hb hts iX12 hown g t_a0 (by decide) so_13 rfl 1 (by decide) (hts (.fieldLink RX12 119 "CapLeagueModel" "taped" "I") (by decide +kernel)) rfl dX12_feed_95 (congrArg Value.int ((h_n1 eI52 t_a0 tb49 (by decide)).trans (ev45.symm))) ?_
                      refine lv_iconst (v := 1) hx hb dX12_feed_98 (by decide) ?_
                      refine lv_iadd hx hb dX12_feed_99 ?_
                      refine lv_topi (fun v53 ev53 => ?_)
                      have jv53 : v53.toInt = v45.toInt + 1 := xi_add ev53 rfl (by decide) (by omega) (by omega)
                      refine h_putI (ty := .int) (v := v53) hx hb hts iX12 tyX12 tyX12_ok nmX12 hown g t_a0 (by decide) so_13 rfl 1 (by decide) rfl (hts (.fieldLink RX12 119 "CapLeagueModel" "taped" "I") (by decide +kernel)) rfl rfl (by decide +kernel) rfl rfl dX12_feed_100 (fun I54 H locs eI54 g => ?_)
                      have hI := hI.wr eI54 t_a0 (rfl : h_bd 13 1 = (0, 500)) (by omega) (by omega)
                      have hF := hF.wr eI54 t_a0 rfl
                      obtain ⟨v55, ev55⟩ : ∃ z : Int32, z = v43 + (-8) := ⟨_, rfl⟩
                      have jv55 : v55.toInt = v43.toInt + (-8) := xi_add ev55 rfl (by decide) (by omega) (by omega)
                      refine lv_iinc (v := v55) (lv' := [(8, .int v55), (0, .ref a0), (1, .int a), (2, .int b), (3, .int c), (4, .int d), (5, .int f), (6, .int v3), (7, .int c)]) hx hb dX12_feed_103 hl (k := 8) rfl (by rw [ev55]; rfl) (by decide) rfl (fun ls hl => ?_)
                      refine lv_goto (tgt := 73) hx hb dX12_feed_106 (by decide) ?_
                      have k56 : (I54 a0 1).toInt = v53.toInt := (congrArg Int32.toInt (h_n0 eI54)).trans rfl
                      exact ih73 I54 _ _ _ v55 g hI hF (lv_sub hl [1, 2, 3, 4, 5, 6, 7, 8, 0] rfl) (by omega) (by omega) (by omega) (by omega)
                have kc57 : (24 : Int32).toInt = 24 := by decide
                have k58 : (I4 a0 1).toInt = v5.toInt := (congrArg Int32.toInt (ev5.symm)).trans rfl
                exact loop73_3 _ I4 _ _ _ (24) g hI hF (lv_sub hl [2, 3, 4, 5, 6, 7, 8, 1, 0] rfl) ⟨by decide, by decide⟩ (by omega) (by omega) (show ((24 : Int) + 8) < ((((24 : Int) + 8).toNat + 1 : Nat) : Int) by omega)
            · have ic8 := (xi_eq c8 rfl (by decide) : v3.toInt = 1)
              refine lv_iload_n hx hb dX12_feed_40 rfl (lv_at hl 2 rfl) ?_
              refine lv_goto (tgt := 67) hx hb dX12_feed_41 (by decide) ?_
              refine lv_istore (lv' := [(7, .int b), (0, .ref a0), (1, .int a), (2, .int b), (3, .int c), (4, .int d), (5, .int f), (6, .int v3)]) hx hb dX12_feed_67 hl (by decide) rfl (fun ls hl => ?_)
              refine lv_bipush (v := 24) hx hb dX12_feed_69 (by decide) ?_
              refine lv_istore (lv' := [(8, .int 24), (7, .int b), (0, .ref a0), (1, .int a), (2, .int b), (3, .int c), (4, .int d), (5, .int f), (6, .int v3)]) hx hb dX12_feed_71 hl (by decide) rfl (fun ls hl => ?_)
              have loop73_4 : ∀ (n : Nat) (I60 : tI) (H : Heap) (locs : List Loc) (ls : Array Slot) (v59 : Int32), h_G h_so h_fk E A z I60 L0 s s.heap H locs → h_I z I60 → h_F [(1300, 999), (13, 1)] z I0 I60 → lv_has ls 9 [(0, .ref a0), (1, .int a), (2, .int b), (3, .int c), (4, .int d), (5, .int f), (6, .int v3), (7, .int b), (8, .int v59)] → ((-8) ≤ v59.toInt ∧ v59.toInt ≤ 24) → (8 * (I60 a0 1).toInt + 32 * (5 - v3.toInt) = 8 * (I0 a0 1).toInt + 160 + 24 - v59.toInt) → (v59.toInt % 8 = 0) → (v59.toInt + 8) < (n : Int) → W pr_ l ev_ (headSpec wsX12_feed ({ frames := 1, cells := 0, slots := 0, locals := 64 })).room s m ([.ref a0, .int a, .int b, .int c, .int d, .int f] : List Value).toArray below meth cd_ H locs 0 0 (MQ below (va_Qi (fun r (I1 : tI) => h_I z I1 ∧ h_F [(1300, 999), (13, 1)] z I0 I1 ∧ (((I0 a0 1).toInt ≤ 480 ∧ r.toInt = (I0 a0 1).toInt + 20 ∧ (I1 a0 1).toInt = (I0 a0 1).toInt + 20) ∨ (480 < (I0 a0 1).toInt ∧ r.toInt = -3 ∧ (I1 a0 1).toInt = (I0 a0 1).toInt))) (fun (I1 : tI) t => h_B E A z I1 L0 t) A) ([.ref a0, .int a, .int b, .int c, .int d, .int f] : List Value).toArray s 0 0 A) (F0 m 73 ls []) := by
                intro n
                induction n with
                | zero => intro I60 H locs ls v59 g hI hF hl jv59 hx73_0 hx73_1 hn; exact absurd hn (by omega)
                | succ n ih73 =>
                  intro I60 H locs ls v59 g hI hF hl jv59 hx73_0 hx73_1 hn
                  obtain ⟨v61, ev61⟩ : ∃ v : Int32, v = I60 a0 1 := ⟨_, rfl⟩
                  rw [← ev61] at hx73_0
                  have jv61 := hI.rd a0 1 t_a0 ev61 (rfl : h_bd 13 1 = (0, 500))
                  refine lv_iload hx hb dX12_feed_73 (lv_at hl 8 rfl) ?_
                  refine lv_if_lt (tgt := 109) hx hb dX12_feed_75 (by decide) (fun c62 => ?_) (fun c62 => ?_)
                  · have ic62 := (xi_lt c62 rfl (by decide) : v59.toInt < 0)
                    obtain ⟨v63, ev63⟩ : ∃ z : Int32, z = v3 + 1 := ⟨_, rfl⟩
                    have jv63 : v63.toInt = v3.toInt + 1 := xi_add ev63 rfl (by decide) (by omega) (by omega)
                    refine lv_iinc (v := v63) (lv' := [(6, .int v63), (0, .ref a0), (1, .int a), (2, .int b), (3, .int c), (4, .int d), (5, .int f), (7, .int b), (8, .int v59)]) hx hb dX12_feed_109 hl (k := 6) rfl (by rw [ev63]; rfl) (by decide) rfl (fun ls hl => ?_)
                    refine lv_goto (tgt := 19) hx hb dX12_feed_112 (by decide) ?_
                    have k64 : (I60 a0 1).toInt = v61.toInt := (congrArg Int32.toInt (ev61.symm)).trans rfl
                    exact ih19 I60 _ _ _ v63 g hI hF (lv_sub hl [1, 2, 3, 4, 5, 6, 0] rfl) (by omega) (by omega) (by omega)
                  · have ic62 := (xi_nlt c62 rfl (by decide) : 0 ≤ v59.toInt)
                    refine lv_aload_n hx hb dX12_feed_78 rfl (lv_at hl 0 rfl) ?_
                    obtain ⟨b65, rb65, tb65⟩ := hR.at a0 0 t_a0 (rfl : h_rs 13 0 = some (1300, false)) (by decide)
                    refine h_get (v := .ref b65) hx hb hts iX12 hown g t_a0 (by decide) so_13 rfl 0 (by decide) (hts (.fieldLink RX12 7 "CapLeagueModel" "tape" "[B") (by decide +kernel)) rfl dX12_feed_79 (by show va_rf (z.R a0 0) = _; rw [rb65]; rfl) ?_
                    refine lv_aload_n hx hb dX12_feed_82 rfl (lv_at hl 0 rfl) ?_
                    refine h_get (v := .int v61) hx hb hts iX12 hown g t_a0 (by decide) so_13 rfl 1 (by decide) (hts (.fieldLink RX12 119 "CapLeagueModel" "taped" "I") (by decide +kernel)) rfl dX12_feed_83 (congrArg Value.int (ev61.symm)) ?_
                    refine lv_iload hx hb dX12_feed_86 (lv_at hl 7 rfl) ?_
                    refine lv_iload hx hb dX12_feed_88 (lv_at hl 8 rfl) ?_
                    refine lv_ishr hx hb dX12_feed_90 ?_
                    refine lv_topi (fun v66 ev66 => ?_)
                    have jv66 : -2147483648 ≤ v66.toInt ∧ v66.toInt ≤ 2147483647 := ⟨xi_lo _, Int.le_of_lt_add_one (xi_hi _)⟩
                    refine lv_i2b hx hb dX12_feed_91 rfl ?_
                    refine lv_topi (fun v67 ev67 => ?_)
                    have jv67 : -2147483648 ≤ v67.toInt ∧ v67.toInt ≤ 2147483647 := ⟨xi_lo _, Int.le_of_lt_add_one (xi_hi _)⟩
                    refine h_bast hx hb g tb65 (by decide) so_1300 (xi_in (by omega) (by omega)) dX12_feed_92 (fun I68 H locs eI68 g => ?_)
                    have hI := hI.wr eI68 tb65 (rfl : h_bd 1300 _ = (-128, 127)) (h_ny _).1 (h_ny _).2
                    have hF := hF.wr eI68 tb65 rfl
                    refine lv_aload_n hx hb dX12_feed_93 rfl (lv_at hl 0 rfl) ?_
                    refine lv_dup hx hb dX12_feed_94 rfl ?_
                    refine h_get (v := .int v61) hx hb hts iX12 hown g t_a0 (by decide) so_13 rfl 1 (by decide) (hts (.fieldLink RX12 119 "CapLeagueModel" "taped" "I") (by decide +kernel)) rfl dX12_feed_95 (congrArg Value.int ((h_n1 eI68 t_a0 tb65 (by decide)).trans (ev61.symm))) ?_
                    refine lv_iconst (v := 1) hx hb dX12_feed_98 (by decide) ?_
                    refine lv_iadd hx hb dX12_feed_99 ?_
                    refine lv_topi (fun v69 ev69 => ?_)
                    have jv69 : v69.toInt = v61.toInt + 1 := xi_add ev69 rfl (by decide) (by omega) (by omega)
                    refine h_putI (ty := .int) (v := v69) hx hb hts iX12 tyX12 tyX12_ok nmX12 hown g t_a0 (by decide) so_13 rfl 1 (by decide) rfl (hts (.fieldLink RX12 119 "CapLeagueModel" "taped" "I") (by decide +kernel)) rfl rfl (by decide +kernel) rfl rfl dX12_feed_100 (fun I70 H locs eI70 g => ?_)
                    have hI := hI.wr eI70 t_a0 (rfl : h_bd 13 1 = (0, 500)) (by omega) (by omega)
                    have hF := hF.wr eI70 t_a0 rfl
                    obtain ⟨v71, ev71⟩ : ∃ z : Int32, z = v59 + (-8) := ⟨_, rfl⟩
                    have jv71 : v71.toInt = v59.toInt + (-8) := xi_add ev71 rfl (by decide) (by omega) (by omega)
                    refine lv_iinc (v := v71) (lv' := [(8, .int v71), (0, .ref a0), (1, .int a), (2, .int b), (3, .int c), (4, .int d), (5, .int f), (6, .int v3), (7, .int b)]) hx hb dX12_feed_103 hl (k := 8) rfl (by rw [ev71]; rfl) (by decide) rfl (fun ls hl => ?_)
                    refine lv_goto (tgt := 73) hx hb dX12_feed_106 (by decide) ?_
                    have k72 : (I70 a0 1).toInt = v69.toInt := (congrArg Int32.toInt (h_n0 eI70)).trans rfl
                    exact ih73 I70 _ _ _ v71 g hI hF (lv_sub hl [1, 2, 3, 4, 5, 6, 7, 8, 0] rfl) (by omega) (by omega) (by omega) (by omega)
              have kc73 : (24 : Int32).toInt = 24 := by decide
              have k74 : (I4 a0 1).toInt = v5.toInt := (congrArg Int32.toInt (ev5.symm)).trans rfl
              exact loop73_4 _ I4 _ _ _ (24) g hI hF (lv_sub hl [2, 3, 4, 5, 6, 7, 8, 1, 0] rfl) ⟨by decide, by decide⟩ (by omega) (by omega) (show ((24 : Int) + 8) < ((((24 : Int) + 8).toNat + 1 : Nat) : Int) by omega)
          · have ic7 := (xi_eq c7 rfl (by decide) : v3.toInt = 0)
            refine lv_iload_n hx hb dX12_feed_30 rfl (lv_at hl 1 rfl) ?_
            refine lv_goto (tgt := 67) hx hb dX12_feed_31 (by decide) ?_
            refine lv_istore (lv' := [(7, .int a), (0, .ref a0), (1, .int a), (2, .int b), (3, .int c), (4, .int d), (5, .int f), (6, .int v3)]) hx hb dX12_feed_67 hl (by decide) rfl (fun ls hl => ?_)
            refine lv_bipush (v := 24) hx hb dX12_feed_69 (by decide) ?_
            refine lv_istore (lv' := [(8, .int 24), (7, .int a), (0, .ref a0), (1, .int a), (2, .int b), (3, .int c), (4, .int d), (5, .int f), (6, .int v3)]) hx hb dX12_feed_71 hl (by decide) rfl (fun ls hl => ?_)
            have loop73_5 : ∀ (n : Nat) (I76 : tI) (H : Heap) (locs : List Loc) (ls : Array Slot) (v75 : Int32), h_G h_so h_fk E A z I76 L0 s s.heap H locs → h_I z I76 → h_F [(1300, 999), (13, 1)] z I0 I76 → lv_has ls 9 [(0, .ref a0), (1, .int a), (2, .int b), (3, .int c), (4, .int d), (5, .int f), (6, .int v3), (7, .int a), (8, .int v75)] → ((-8) ≤ v75.toInt ∧ v75.toInt ≤ 24) → (8 * (I76 a0 1).toInt + 32 * (5 - v3.toInt) = 8 * (I0 a0 1).toInt + 160 + 24 - v75.toInt) → (v75.toInt % 8 = 0) → (v75.toInt + 8) < (n : Int) → W pr_ l ev_ (headSpec wsX12_feed ({ frames := 1, cells := 0, slots := 0, locals := 64 })).room s m ([.ref a0, .int a, .int b, .int c, .int d, .int f] : List Value).toArray below meth cd_ H locs 0 0 (MQ below (va_Qi (fun r (I1 : tI) => h_I z I1 ∧ h_F [(1300, 999), (13, 1)] z I0 I1 ∧ (((I0 a0 1).toInt ≤ 480 ∧ r.toInt = (I0 a0 1).toInt + 20 ∧ (I1 a0 1).toInt = (I0 a0 1).toInt + 20) ∨ (480 < (I0 a0 1).toInt ∧ r.toInt = -3 ∧ (I1 a0 1).toInt = (I0 a0 1).toInt))) (fun (I1 : tI) t => h_B E A z I1 L0 t) A) ([.ref a0, .int a, .int b, .int c, .int d, .int f] : List Value).toArray s 0 0 A) (F0 m 73 ls []) := by
              intro n
              induction n with
              | zero => intro I76 H locs ls v75 g hI hF hl jv75 hx73_0 hx73_1 hn; exact absurd hn (by omega)
              | succ n ih73 =>
                intro I76 H locs ls v75 g hI hF hl jv75 hx73_0 hx73_1 hn
                obtain ⟨v77, ev77⟩ : ∃ v : Int32, v = I76 a0 1 := ⟨_, rfl⟩
                rw [← ev77] at hx73_0
                have jv77 := hI.rd a0 1 t_a0 ev77 (rfl : h_bd 13 1 = (0, 500))
                refine lv_iload hx hb dX12_feed_73 (lv_at hl 8 rfl) ?_
                refine lv_if_lt (tgt := 109) hx hb dX12_feed_75 (by decide) (fun c78 => ?_) (fun c78 => ?_)
                · have ic78 := (xi_lt c78 rfl (by decide) : v75.toInt < 0)
                  obtain ⟨v79, ev79⟩ : ∃ z : Int32, z = v3 + 1 := ⟨_, rfl⟩
                  have jv79 : v79.toInt = v3.toInt + 1 := xi_add ev79 rfl (by decide) (by omega) (by omega)
                  refine lv_iinc (v := v79) (lv' := [(6, .int v79), (0, .ref a0), (1, .int a), (2, .int b), (3, .int c), (4, .int d), (5, .int f), (7, .int a), (8, .int v75)]) hx hb dX12_feed_109 hl (k := 6) rfl (by rw [ev79]; rfl) (by decide) rfl (fun ls hl => ?_)
                  refine lv_goto (tgt := 19) hx hb dX12_feed_112 (by decide) ?_
                  have k80 : (I76 a0 1).toInt = v77.toInt := (congrArg Int32.toInt (ev77.symm)).trans rfl
                  exact ih19 I76 _ _ _ v79 g hI hF (lv_sub hl [1, 2, 3, 4, 5, 6, 0] rfl) (by omega) (by omega) (by omega)
                · have ic78 := (xi_nlt c78 rfl (by decide) : 0 ≤ v75.toInt)
                  refine lv_aload_n hx hb dX12_feed_78 rfl (lv_at hl 0 rfl) ?_
                  obtain ⟨b81, rb81, tb81⟩ := hR.at a0 0 t_a0 (rfl : h_rs 13 0 = some (1300, false)) (by decide)
                  refine h_get (v := .ref b81) hx hb hts iX12 hown g t_a0 (by decide) so_13 rfl 0 (by decide) (hts (.fieldLink RX12 7 "CapLeagueModel" "tape" "[B") (by decide +kernel)) rfl dX12_feed_79 (by show va_rf (z.R a0 0) = _; rw [rb81]; rfl) ?_
                  refine lv_aload_n hx hb dX12_feed_82 rfl (lv_at hl 0 rfl) ?_
                  refine h_get (v := .int v77) hx hb hts iX12 hown g t_a0 (by decide) so_13 rfl 1 (by decide) (hts (.fieldLink RX12 119 "CapLeagueModel" "taped" "I") (by decide +kernel)) rfl dX12_feed_83 (congrArg Value.int (ev77.symm)) ?_
                  refine lv_iload hx hb dX12_feed_86 (lv_at hl 7 rfl) ?_
                  refine lv_iload hx hb dX12_feed_88 (lv_at hl 8 rfl) ?_
                  refine lv_ishr hx hb dX12_feed_90 ?_
                  refine lv_topi (fun v82 ev82 => ?_)
                  have jv82 : -2147483648 ≤ v82.toInt ∧ v82.toInt ≤ 2147483647 := ⟨xi_lo _, Int.le_of_lt_add_one (xi_hi _)⟩
                  refine lv_i2b hx hb dX12_feed_91 rfl ?_
                  refine lv_topi (fun v83 ev83 => ?_)
                  have jv83 : -2147483648 ≤ v83.toInt ∧ v83.toInt ≤ 2147483647 := ⟨xi_lo _, Int.le_of_lt_add_one (xi_hi _)⟩
                  refine h_bast hx hb g tb81 (by decide) so_1300 (xi_in (by omega) (by omega)) dX12_feed_92 (fun I84 H locs eI84 g => ?_)
                  have hI := hI.wr eI84 tb81 (rfl : h_bd 1300 _ = (-128, 127)) (h_ny _).1 (h_ny _).2
                  have hF := hF.wr eI84 tb81 rfl
                  refine lv_aload_n hx hb dX12_feed_93 rfl (lv_at hl 0 rfl) ?_
                  refine lv_dup hx hb dX12_feed_94 rfl ?_
                  refine h_get (v := .int v77) hx hb hts iX12 hown g t_a0 (by decide) so_13 rfl 1 (by decide) (hts (.fieldLink RX12 119 "CapLeagueModel" "taped" "I") (by decide +kernel)) rfl dX12_feed_95 (congrArg Value.int ((h_n1 eI84 t_a0 tb81 (by decide)).trans (ev77.symm))) ?_
                  refine lv_iconst (v := 1) hx hb dX12_feed_98 (by decide) ?_
                  refine lv_iadd hx hb dX12_feed_99 ?_
                  refine lv_topi (fun v85 ev85 => ?_)
                  have jv85 : v85.toInt = v77.toInt + 1 := xi_add ev85 rfl (by decide) (by omega) (by omega)
                  refine h_putI (ty := .int) (v := v85) hx hb hts iX12 tyX12 tyX12_ok nmX12 hown g t_a0 (by decide) so_13 rfl 1 (by decide) rfl (hts (.fieldLink RX12 119 "CapLeagueModel" "taped" "I") (by decide +kernel)) rfl rfl (by decide +kernel) rfl rfl dX12_feed_100 (fun I86 H locs eI86 g => ?_)
                  have hI := hI.wr eI86 t_a0 (rfl : h_bd 13 1 = (0, 500)) (by omega) (by omega)
                  have hF := hF.wr eI86 t_a0 rfl
                  obtain ⟨v87, ev87⟩ : ∃ z : Int32, z = v75 + (-8) := ⟨_, rfl⟩
                  have jv87 : v87.toInt = v75.toInt + (-8) := xi_add ev87 rfl (by decide) (by omega) (by omega)
                  refine lv_iinc (v := v87) (lv' := [(8, .int v87), (0, .ref a0), (1, .int a), (2, .int b), (3, .int c), (4, .int d), (5, .int f), (6, .int v3), (7, .int a)]) hx hb dX12_feed_103 hl (k := 8) rfl (by rw [ev87]; rfl) (by decide) rfl (fun ls hl => ?_)
                  refine lv_goto (tgt := 73) hx hb dX12_feed_106 (by decide) ?_
                  have k88 : (I86 a0 1).toInt = v85.toInt := (congrArg Int32.toInt (h_n0 eI86)).trans rfl
                  exact ih73 I86 _ _ _ v87 g hI hF (lv_sub hl [1, 2, 3, 4, 5, 6, 7, 8, 0] rfl) (by omega) (by omega) (by omega) (by omega)
            have kc89 : (24 : Int32).toInt = 24 := by decide
            have k90 : (I4 a0 1).toInt = v5.toInt := (congrArg Int32.toInt (ev5.symm)).trans rfl
            exact loop73_5 _ I4 _ _ _ (24) g hI hF (lv_sub hl [2, 3, 4, 5, 6, 7, 8, 1, 0] rfl) ⟨by decide, by decide⟩ (by omega) (by omega) (show ((24 : Int) + 8) < ((((24 : Int) + 8).toNat + 1 : Nat) : Int) by omega)
    have kc91 : (0 : Int32).toInt = 0 := by decide
    have k92 : (I0 a0 1).toInt = f0_1.toInt := (congrArg Int32.toInt (ef0_1.symm)).trans rfl
    exact loop19_0 _ I0 _ _ _ (0) g hI hF (lv_sub hl [1, 2, 3, 4, 5, 6, 0] rfl) ⟨by decide, by decide⟩ (by omega) (show (5 - (0 : Int)) < (((5 - (0 : Int)).toNat + 1 : Nat) : Int) by omega)
  · have ic2 := (xi_nle c2 rfl (by decide) : 500 < v1.toInt)
    refine lv_bipush (v := (-3)) hx hb dX12_feed_13 (by decide) ?_
    have hS := g.2.1
    exact W.iret (v := (-3)) hx hb hr (fun t ht hW => ⟨⟨(-3), I0, rfl, ⟨hI, hF, (by have qr : ((-3) : Int32).toInt = (-3) := (by decide); omega)⟩, h_ret g ht⟩, hS.F ht⟩) hS.2.2 dX12_feed_15
set_option maxHeartbeats 4000000 in
set_option maxRecDepth 100000 in
theorem tX12_endF (l : Launch) (E : tE) (X : tX) (A : Nat → Prop) (z : tZ) (I0 : tI) (L0 : tL) (a0 : Nat) (t_a0 : z.ty a0 = 13) (n : Int32) (n_t : Int) (h_n : n.toInt = n_t) : Met l yX12_end wsX12_end ({ frames := 1, cells := 0, slots := 0, locals := 64 }) (va_Pc [.ref a0, .int n] (h_P E X A z I0 L0)) (va_Qi (fun r (I1 : tI) => h_I z I1 ∧ h_F [(13, 1)] z I0 I1 ∧ ((0 ≤ n_t ∧ n_t ≤ (I0 a0 1).toInt ∧ r.toInt = n_t ∧ (I1 a0 1).toInt = n_t) ∨ ((n_t < 0 ∨ (I0 a0 1).toInt < n_t) ∧ r.toInt = -1 ∧ (I1 a0 1).toInt = (I0 a0 1).toInt))) (fun (I1 : tI) t => h_B E A z I1 L0 t) A) 0 0 A := by
  refine Met.ofW (cc := cX12_end) (maxL := 2) (ret := (some .int)) (by decide) rfl ?_
  intro pr_ ev_ s m args below meth cd_ s₁ B hml hv
  obtain ⟨rfl, hE, hk, hX, hA, hK, hI, hR, hB0⟩ := hv
  have g : h_G h_so h_fk E A z I0 L0 s s.heap s.heap [] := ⟨hK, va_S.rf, hB0⟩
  have hF : h_F [(13, 1)] z I0 I0 := h_F.rf
  have hx := B.exec
  have hb := B.bytes
  have hr := B.returns
  have hts := atoms_spec (ws := wsX12_end) B.pre
  have hown : s.vm.findClass RX12 = some m.cls := findClass_of_methodNamed B.named
  have hlocks := B.notSynchronized
  have iX12 : ∀ w ∈ u_ws RX12 TX12 51, w ∈ wsX12_end := by decide +kernel
  have hl := lv_entry ([.ref a0, .int n]) (n := 2) (Nat.le_of_ble_eq_true rfl)
  rw [lg_entry_eq]
  generalize (lg_sl ([.ref a0, .int n]) ++ List.replicate (2 - (lg_sl ([.ref a0, .int n])).length) Slot.unset).toArray = ls at hl ⊢
  have hl : lv_has ls 2 [(0, .ref a0), (1, .int n)] := hl
  have b_n : -2147483648 ≤ n_t ∧ n_t ≤ 2147483647 := h_n ▸ ⟨xi_lo n, Int.le_of_lt_add_one (xi_hi n)⟩
  obtain ⟨f0_1, ef0_1⟩ : ∃ v : Int32, v = I0 a0 1 := ⟨_, rfl⟩
  have qf0_1 : (I0 a0 1).toInt = f0_1.toInt := congrArg Int32.toInt ef0_1.symm
  have jf0_1 := hI.rd a0 1 t_a0 ef0_1 (rfl : h_bd 13 1 = (0, 500))
  refine lv_iload_n hx hb dX12_end_0 rfl (lv_at hl 1 rfl) ?_
  refine lv_if_lt (tgt := 12) hx hb dX12_end_1 (by decide) (fun c1 => ?_) (fun c1 => ?_)
  · have ic1 := (xi_lt c1 h_n (by decide) : n_t < 0)
    refine lv_iconst (v := (-1)) hx hb dX12_end_12 (by decide) ?_
    have hS := g.2.1
    exact W.iret (v := (-1)) hx hb hr (fun t ht hW => ⟨⟨(-1), I0, rfl, ⟨hI, hF, (by have qr : ((-1) : Int32).toInt = (-1) := (by decide); omega)⟩, h_ret g ht⟩, hS.F ht⟩) hS.2.2 dX12_end_13
  · have ic1 := (xi_nlt c1 h_n (by decide) : 0 ≤ n_t)
    refine lv_iload_n hx hb dX12_end_4 rfl (lv_at hl 1 rfl) ?_
    refine lv_aload_n hx hb dX12_end_5 rfl (lv_at hl 0 rfl) ?_
    refine h_get (v := .int f0_1) hx hb hts iX12 hown g t_a0 (by decide) so_13 rfl 1 (by decide) (hts (.fieldLink RX12 119 "CapLeagueModel" "taped" "I") (by decide +kernel)) rfl dX12_end_6 (congrArg Value.int (ef0_1.symm)) ?_
    refine lv_icmp_le (tgt := 14) hx hb dX12_end_9 (by decide) (fun c2 => ?_) (fun c2 => ?_)
    · have ic2 := (xi_le c2 h_n rfl : n_t ≤ f0_1.toInt)
      refine lv_aload_n hx hb dX12_end_14 rfl (lv_at hl 0 rfl) ?_
      refine lv_iload_n hx hb dX12_end_15 rfl (lv_at hl 1 rfl) ?_
      refine h_putI (ty := .int) (v := n) hx hb hts iX12 tyX12 tyX12_ok nmX12 hown g t_a0 (by decide) so_13 rfl 1 (by decide) rfl (hts (.fieldLink RX12 119 "CapLeagueModel" "taped" "I") (by decide +kernel)) rfl rfl (by decide +kernel) rfl rfl dX12_end_16 (fun I3 H locs eI3 g => ?_)
      have hI := hI.wr eI3 t_a0 (rfl : h_bd 13 1 = (0, 500)) (by rw [h_n]; omega) (by rw [h_n]; omega)
      have hF := hF.wr eI3 t_a0 rfl
      refine lv_iload_n hx hb dX12_end_19 rfl (lv_at hl 1 rfl) ?_
      have hS := g.2.1
      exact W.iret (v := n) hx hb hr (fun t ht hW => ⟨⟨n, I3, rfl, ⟨hI, hF, (by have q1_ : (I3 a0 1).toInt = n_t := (congrArg Int32.toInt (h_n0 eI3)).trans h_n; omega)⟩, h_ret g ht⟩, hS.F ht⟩) hS.2.2 dX12_end_20
    · have ic2 := (xi_nle c2 h_n rfl : f0_1.toInt < n_t)
      refine lv_iconst (v := (-1)) hx hb dX12_end_12 (by decide) ?_
      have hS := g.2.1
      exact W.iret (v := (-1)) hx hb hr (fun t ht hW => ⟨⟨(-1), I0, rfl, ⟨hI, hF, (by have qr : ((-1) : Int32).toInt = (-1) := (by decide); omega)⟩, h_ret g ht⟩, hS.F ht⟩) hS.2.2 dX12_end_13
set_option maxHeartbeats 4000000 in
set_option maxRecDepth 100000 in
theorem tX12_lawsF (l : Launch) (E : tE) (X : tX) (A : Nat → Prop) (z : tZ) (I0 : tI) (L0 : tL) (a0 : Nat) (t_a0 : z.ty a0 = 13) (y : Int32) (y_t : Int) (h_y : y.toInt = y_t) (hJ : h_J1 (I0 (h_ad z a0 10))) : Met l yX12_laws wsX12_laws ({ frames := 9, cells := 0, slots := 0, locals := 576 }) (va_Pc [.ref a0, .int y] (h_P E X A z I0 L0)) (va_Qi (fun r (I1 : tI) => h_I z I1 ∧ h_F [(13, 5), (13, 3), (13, 4), (13, 7), (13, 6), (13, 8), (13, 9), (1310, 999), (13, 2), (13, 1), (1311, 999)] z I0 I1 ∧ (h_J1 (I1 (h_ad z a0 10))) ∧ ((I1 a0 1).toInt = 0)) (fun (I1 : tI) t => h_B E A z I1 L0 t) A) 0 0 A := by
  refine Met.ofW (cc := cX12_laws) (maxL := 5) (ret := (some .int)) (by decide) rfl ?_
  intro pr_ ev_ s m args below meth cd_ s₁ B hml hv
  obtain ⟨rfl, hE, hk, hX, hA, hK, hI, hR, hB0⟩ := hv
  have g : h_G h_so h_fk E A z I0 L0 s s.heap s.heap [] := ⟨hK, va_S.rf, hB0⟩
  have hF : h_F [(13, 5), (13, 3), (13, 4), (13, 7), (13, 6), (13, 8), (13, 9), (1310, 999), (13, 2), (13, 1), (1311, 999)] z I0 I0 := h_F.rf
  have hx := B.exec
  have hb := B.bytes
  have hr := B.returns
  have hts := atoms_spec (ws := wsX12_laws) B.pre
  have hown : s.vm.findClass RX12 = some m.cls := findClass_of_methodNamed B.named
  have hlocks := B.notSynchronized
  have iX12 : ∀ w ∈ u_ws RX12 TX12 51, w ∈ wsX12_laws := by decide +kernel
  have hl := lv_entry ([.ref a0, .int y]) (n := 5) (Nat.le_of_ble_eq_true rfl)
  rw [lg_entry_eq]
  generalize (lg_sl ([.ref a0, .int y]) ++ List.replicate (5 - (lg_sl ([.ref a0, .int y])).length) Slot.unset).toArray = ls at hl ⊢
  have hl : lv_has ls 5 [(0, .ref a0), (1, .int y)] := hl
  have b_y : -2147483648 ≤ y_t ∧ y_t ≤ 2147483647 := h_y ▸ ⟨xi_lo y, Int.le_of_lt_add_one (xi_hi y)⟩
  obtain ⟨lw, rlw, tlw⟩ := hR.at a0 10 t_a0 (rfl : h_rs 13 10 = some (1310, false)) (by decide)
  have alw : h_ad z a0 10 = lw := h_ad.at rlw
  obtain ⟨f0_12, ef0_12⟩ : ∃ v : Int32, v = I0 a0 12 := ⟨_, rfl⟩
  have qf0_12 : (I0 a0 12).toInt = f0_12.toInt := congrArg Int32.toInt ef0_12.symm
  have jf0_12 := hI.rd a0 12 t_a0 ef0_12 (rfl : h_bd 13 12 = (0, 9))
  rw [alw] at hJ
  refine lv_aload_n hx hb dX12_laws_0 rfl (lv_at hl 0 rfl) ?_
  refine lv_aload_n hx hb dX12_laws_1 rfl (lv_at hl 0 rfl) ?_
  refine h_get (v := .int (I0 a0 1)) hx hb hts iX12 hown g t_a0 (by decide) so_13 rfl 1 (by decide) (hts (.fieldLink RX12 119 "CapLeagueModel" "taped" "I") (by decide +kernel)) rfl dX12_laws_2 rfl ?_
  refine lv_topi (fun v1 ev1 => ?_)
  have jv1 := hI.rd a0 1 t_a0 ev1 (rfl : h_bd 13 1 = (0, 500))
  refine h_putI (ty := .int) (v := v1) hx hb hts iX12 tyX12 tyX12_ok nmX12 hown g t_a0 (by decide) so_13 rfl 2 (by decide) rfl (hts (.fieldLink RX12 122 "CapLeagueModel" "size" "I") (by decide +kernel)) rfl rfl (by decide +kernel) rfl rfl dX12_laws_5 (fun I2 H locs eI2 g => ?_)
  have hI := hI.wr eI2 t_a0 (rfl : h_bd 13 2 = (0, 500)) (by omega) (by omega)
  have hF := hF.wr eI2 t_a0 rfl
  refine lv_aload_n hx hb dX12_laws_8 rfl (lv_at hl 0 rfl) ?_
  refine lv_iconst (v := 0) hx hb dX12_laws_9 (by decide) ?_
  refine h_putI (ty := .int) (v := 0) hx hb hts iX12 tyX12 tyX12_ok nmX12 hown g t_a0 (by decide) so_13 rfl 1 (by decide) rfl (hts (.fieldLink RX12 119 "CapLeagueModel" "taped" "I") (by decide +kernel)) rfl rfl (by decide +kernel) rfl rfl dX12_laws_10 (fun I3 H locs eI3 g => ?_)
  have hI := hI.wr eI3 t_a0 (rfl : h_bd 13 1 = (0, 500)) (by decide) (by decide)
  have hF := hF.wr eI3 t_a0 rfl
  refine lv_iload_n hx hb dX12_laws_13 rfl (lv_at hl 1 rfl) ?_
  refine lv_i2l hx hb dX12_laws_14 rfl ?_
  refine lv_topl (fun v4 ev4 => ?_)
  have jv4 : v4.toInt = y_t := by rw [ev4, xi_64]; exact h_y
  refine lv_aload_n hx hb dX12_laws_15 rfl (lv_at hl 0 rfl) ?_
  refine h_get (v := .int f0_12) hx hb hts iX12 hown g t_a0 (by decide) so_13 rfl 12 (by decide) (hts (.fieldLink RX12 187 "CapLeagueModel" "clock" "I") (by decide +kernel)) rfl dX12_laws_16 (congrArg Value.int ((h_n2 eI3 (by decide)).trans ((h_n2 eI2 (by decide)).trans (ef0_12.symm)))) ?_
  refine lv_i2l hx hb dX12_laws_19 rfl ?_
  refine lv_topl (fun v5 ev5 => ?_)
  have jv5 : v5.toInt = f0_12.toInt := by rw [ev5, xi_64]
  refine lv_ldc2 (v := 9) hx hb hown (hts (.constantLong RX12 190 (9)) (by decide +kernel)) dX12_laws_20 ?_
  refine vp_callSi (W.runS (As := [.long v4, .long v5, .long 9]) (rest := []) ⟨hx, hb, hml, hown, hts⟩ (tX12_in l E X A z I3 L0 v4 (y_t) jv4 v5 (f0_12.toInt) jv5 9 (9) (by decide)) (va_cwS 3 hts gX12_laws_X12_in rfl rfl rfl (by decide +kernel) ⟨Nat.le_of_ble_eq_true rfl, Nat.le_of_ble_eq_true rfl⟩) ⟨h_blind _ _ _ _ _ _ _, h_pre _ hE hk hX hA hI hR g⟩ rfl rfl hl.1 rfl (lv_room (Nat.le_of_ble_eq_true rfl)) dX12_laws_23 ⟨Nat.le_of_ble_eq_true rfl, Nat.le_of_ble_eq_true rfl⟩) (fun rh6 h6 => ?_)
  rcases h6 with ⟨rfl, h6⟩ | ⟨rfl, h6⟩
  · skip
    refine lv_if_ne (tgt := 32) hx hb dX12_laws_26 (by decide) (fun h => absurd (by decide) h) (fun _ => ?_)
    refine lv_bipush (v := (-2)) hx hb dX12_laws_29 (by decide) ?_
    have hS := g.2.1
    exact W.iret (v := (-2)) hx hb hr (fun t ht hW => ⟨⟨(-2), I3, rfl, ⟨hI, hF, ⟨(by rw [alw]; exact h_J1_out hJ (fun k hk => (h_n1 eI3 tlw t_a0 (by decide)).trans (h_n1 eI2 tlw t_a0 (by decide)))), (by have qr : ((-2) : Int32).toInt = (-2) := (by decide); have q1_ : (I3 a0 1).toInt = 0 := (congrArg Int32.toInt (h_n0 eI3)).trans (by decide); omega)⟩⟩, h_ret g ht⟩, hS.F ht⟩) hS.2.2 dX12_laws_31
  · skip
    refine lv_if_ne (tgt := 32) hx hb dX12_laws_26 (by decide) (fun _ => ?_) (fun h => absurd h (by decide))
    refine lv_aload_n hx hb dX12_laws_32 rfl (lv_at hl 0 rfl) ?_
    refine lv_iconst (v := 0) hx hb dX12_laws_33 (by decide) ?_
    refine h_putI (ty := .int) (v := 0) hx hb hts iX12 tyX12 tyX12_ok nmX12 hown g t_a0 (by decide) so_13 rfl 8 (by decide) rfl (hts (.fieldLink RX12 166 "CapLeagueModel" "faultKind" "I") (by decide +kernel)) rfl rfl (by decide +kernel) rfl rfl dX12_laws_34 (fun I9 H locs eI9 g => ?_)
    have hI := hI.wr eI9 t_a0 (rfl : h_bd 13 8 = ((-2147483648), 2147483647)) (by decide) (by decide)
    have hF := hF.wr eI9 t_a0 rfl
    refine lv_aload_n hx hb dX12_laws_37 rfl (lv_at hl 0 rfl) ?_
    refine lv_iconst (v := (-1)) hx hb dX12_laws_38 (by decide) ?_
    refine h_putI (ty := .int) (v := (-1)) hx hb hts iX12 tyX12 tyX12_ok nmX12 hown g t_a0 (by decide) so_13 rfl 9 (by decide) rfl (hts (.fieldLink RX12 13 "CapLeagueModel" "faultPlace" "I") (by decide +kernel)) rfl rfl (by decide +kernel) rfl rfl dX12_laws_39 (fun I10 H locs eI10 g => ?_)
    have hI := hI.wr eI10 t_a0 (rfl : h_bd 13 9 = ((-2147483648), 2147483647)) (by decide) (by decide)
    have hF := hF.wr eI10 t_a0 rfl
    refine lv_iconst (v := 0) hx hb dX12_laws_42 (by decide) ?_
    refine lv_istore_n (lv' := [(2, .int 0), (0, .ref a0), (1, .int y)]) hx hb dX12_laws_43 rfl hl (by decide) rfl (fun ls hl => ?_)
    have loop44_0 : ∀ (n : Nat) (I12 : tI) (H : Heap) (locs : List Loc) (ls : Array Slot) (v11 : Int32), h_G h_so h_fk E A z I12 L0 s s.heap H locs → h_I z I12 → h_F [(13, 5), (13, 3), (13, 4), (13, 7), (13, 6), (13, 8), (13, 9), (1310, 999), (13, 2), (13, 1), (1311, 999)] z I0 I12 → lv_has ls 5 [(0, .ref a0), (1, .int y), (2, .int v11)] → (0 ≤ v11.toInt ∧ v11.toInt ≤ 16) → (8 < v11.toInt → (I12 lw 168).toInt = 1) → (9 < v11.toInt → (I12 lw 169).toInt = 1) → (∀ k : Nat, (k < 160 ∨ 176 ≤ k) → I12 lw k = I0 lw k) → ((I12 a0 1).toInt = 0) → (16 - v11.toInt) < (n : Int) → W pr_ l ev_ (headSpec wsX12_laws ({ frames := 9, cells := 0, slots := 0, locals := 576 })).room s m ([.ref a0, .int y] : List Value).toArray below meth cd_ H locs 0 0 (MQ below (va_Qi (fun r (I1 : tI) => h_I z I1 ∧ h_F [(13, 5), (13, 3), (13, 4), (13, 7), (13, 6), (13, 8), (13, 9), (1310, 999), (13, 2), (13, 1), (1311, 999)] z I0 I1 ∧ (h_J1 (I1 (h_ad z a0 10))) ∧ ((I1 a0 1).toInt = 0)) (fun (I1 : tI) t => h_B E A z I1 L0 t) A) ([.ref a0, .int y] : List Value).toArray s 0 0 A) (F0 m 44 ls []) := by
      intro n
      induction n with
      | zero => intro I12 H locs ls v11 g hI hF hl jv11 hx44_0 hx44_1 hx44_2 hk0_1 hn; exact absurd hn (by omega)
      | succ n ih44 =>
        intro I12 H locs ls v11 g hI hF hl jv11 hx44_0 hx44_1 hx44_2 hk0_1 hn
        obtain ⟨v13, ev13⟩ : ∃ v : Int32, v = I12 a0 1 := ⟨_, rfl⟩
        rw [← ev13] at hk0_1
        refine lv_iload_n hx hb dX12_laws_44 rfl (lv_at hl 2 rfl) ?_
        refine lv_bipush (v := 16) hx hb dX12_laws_45 (by decide) ?_
        refine lv_icmp_ge (tgt := 70) hx hb dX12_laws_47 (by decide) (fun c14 => ?_) (fun c14 => ?_)
        · have ic14 := (xi_le c14 (by decide) rfl : 16 ≤ v11.toInt)
          refine lv_aload_n hx hb dX12_laws_70 rfl (lv_at hl 0 rfl) ?_
          refine lv_iconst (v := 0) hx hb dX12_laws_71 (by decide) ?_
          refine h_putI (ty := .int) (v := 0) hx hb hts iX12 tyX12 tyX12_ok nmX12 hown g t_a0 (by decide) so_13 rfl 6 (by decide) rfl (hts (.fieldLink RX12 140 "CapLeagueModel" "end" "I") (by decide +kernel)) rfl rfl (by decide +kernel) rfl rfl dX12_laws_72 (fun I15 H locs eI15 g => ?_)
          have hI := hI.wr eI15 t_a0 (rfl : h_bd 13 6 = (0, 500)) (by decide) (by decide)
          have hF := hF.wr eI15 t_a0 rfl
          refine lv_aload_n hx hb dX12_laws_75 rfl (lv_at hl 0 rfl) ?_
          refine va_callv (va_runV (As := []) (rest := []) ⟨hx, hb, hml, hown, hts⟩ (tX12_scan l E X A z I15 L0 a0 t_a0) (cwV 0 hts gX12_laws_X12_scan rfl rfl rfl (by decide +kernel) ⟨Nat.le_of_ble_eq_true rfl, Nat.le_of_ble_eq_true rfl⟩) ⟨h_blind _ _ _ _ _ _ _, h_recv g t_a0 (by decide) so_13 (q := (RX12, TX12, 51)) rfl, h_pre _ hE hk hX hA hI hR g⟩ rfl rfl hl.1 rfl (lv_room (Nat.le_of_ble_eq_true rfl)) dX12_laws_76 ⟨Nat.le_of_ble_eq_true rfl, Nat.le_of_ble_eq_true rfl⟩) g.2.1 (fun q _ h => h) (fun q h => h) (fun I17 t H1 locs ht hvm h16 hB hz1 hk1 hS => ?_)
          obtain ⟨hI, fh16, h16⟩ := h16
          replace g := h_after g hB ht hS
          generalize H1 = H at g
          clear hB hk1 hz1 ht hvm hS
          have hF := hF.call fh16 rfl
          obtain ⟨h16p0, h16p1, h16p2⟩ := h16
          rw [show I15 a0 6 = 0 from h_n0 eI15] at h16p1
          rw [show (0 : Int32).toInt = 0 by decide] at h16p1
          rw [show I15 a0 6 = 0 from h_n0 eI15] at h16p2
          rw [show (0 : Int32).toInt = 0 by decide] at h16p2
          obtain ⟨v18, ev18⟩ : ∃ v : Int32, v = I17 a0 3 := ⟨_, rfl⟩
          have jv18 := hI.rd a0 3 t_a0 ev18 (rfl : h_bd 13 3 = ((-2147483648), 2147483647))
          rw [← ev18] at h16p0
          rw [← ev18] at h16p2
          obtain ⟨v19, ev19⟩ : ∃ v : Int32, v = I17 a0 4 := ⟨_, rfl⟩
          have jv19 := hI.rd a0 4 t_a0 ev19 (rfl : h_bd 13 4 = ((-1), 60))
          rw [← ev19] at h16p0
          obtain ⟨v20, ev20⟩ : ∃ v : Int32, v = I17 a0 6 := ⟨_, rfl⟩
          have jv20 := hI.rd a0 6 t_a0 ev20 (rfl : h_bd 13 6 = (0, 500))
          rw [← ev20] at h16p1
          rw [← ev20] at h16p2
          refine lv_iconst (v := 0) hx hb dX12_laws_79 (by decide) ?_
          refine lv_istore_n (lv' := [(2, .int 0), (0, .ref a0), (1, .int y)]) hx hb dX12_laws_80 rfl hl (by decide) rfl (fun ls hl => ?_)
          refine lv_iconst (v := 0) hx hb dX12_laws_81 (by decide) ?_
          refine lv_istore_n (lv' := [(3, .int 0), (2, .int 0), (0, .ref a0), (1, .int y)]) hx hb dX12_laws_82 rfl hl (by decide) rfl (fun ls hl => ?_)
          have loop83_1 : ∀ (n : Nat) (I23 : tI) (H : Heap) (locs : List Loc) (ls : Array Slot) (v21 v22 : Int32), h_G h_so h_fk E A z I23 L0 s s.heap H locs → h_I z I23 → h_F [(13, 5), (13, 3), (13, 4), (13, 7), (13, 6), (13, 8), (13, 9), (1310, 999), (13, 2), (13, 1), (1311, 999)] z I0 I23 → lv_has ls 5 [(0, .ref a0), (1, .int y), (2, .int v21), (3, .int v22)] → ((-2147483648) ≤ v21.toInt ∧ v21.toInt ≤ 2147483647) → ((-2147483648) ≤ v22.toInt ∧ v22.toInt ≤ 2147483647) → ((I23 a0 3).toInt = 1 → 0 ≤ (I23 a0 4).toInt) → (h_ok (I23 lw) 10) → (∀ k : Nat, (k < 160 ∨ 176 ≤ k) → I23 lw k = I0 lw k) → ((I23 a0 1).toInt = 0) → (((501 - (I23 a0 6).toInt).toNat : Int)) < (n : Int) → W pr_ l ev_ (headSpec wsX12_laws ({ frames := 9, cells := 0, slots := 0, locals := 576 })).room s m ([.ref a0, .int y] : List Value).toArray below meth cd_ H locs 0 0 (MQ below (va_Qi (fun r (I1 : tI) => h_I z I1 ∧ h_F [(13, 5), (13, 3), (13, 4), (13, 7), (13, 6), (13, 8), (13, 9), (1310, 999), (13, 2), (13, 1), (1311, 999)] z I0 I1 ∧ (h_J1 (I1 (h_ad z a0 10))) ∧ ((I1 a0 1).toInt = 0)) (fun (I1 : tI) t => h_B E A z I1 L0 t) A) ([.ref a0, .int y] : List Value).toArray s 0 0 A) (F0 m 83 ls []) := by
            intro n
            induction n with
            | zero => intro I23 H locs ls v21 v22 g hI hF hl jv21 jv22 hx83_0 hx83_1 hx83_2 hk0_1 hn; exact absurd hn (by omega)
            | succ n ih83 =>
              intro I23 H locs ls v21 v22 g hI hF hl jv21 jv22 hx83_0 hx83_1 hx83_2 hk0_1 hn
              obtain ⟨v24, ev24⟩ : ∃ v : Int32, v = I23 a0 3 := ⟨_, rfl⟩
              rw [← ev24] at hx83_0
              have jv24 := hI.rd a0 3 t_a0 ev24 (rfl : h_bd 13 3 = ((-2147483648), 2147483647))
              obtain ⟨v25, ev25⟩ : ∃ v : Int32, v = I23 a0 4 := ⟨_, rfl⟩
              rw [← ev25] at hx83_0
              have jv25 := hI.rd a0 4 t_a0 ev25 (rfl : h_bd 13 4 = ((-1), 60))
              obtain ⟨v26, ev26⟩ : ∃ v : Int32, v = I23 a0 6 := ⟨_, rfl⟩
              rw [← ev26] at hn
              have jv26 := hI.rd a0 6 t_a0 ev26 (rfl : h_bd 13 6 = (0, 500))
              obtain ⟨v27, ev27⟩ : ∃ v : Int32, v = I23 a0 1 := ⟨_, rfl⟩
              rw [← ev27] at hk0_1
              refine lv_aload_n hx hb dX12_laws_83 rfl (lv_at hl 0 rfl) ?_
              refine h_get (v := .int v24) hx hb hts iX12 hown g t_a0 (by decide) so_13 rfl 3 (by decide) (hts (.fieldLink RX12 146 "CapLeagueModel" "sort" "I") (by decide +kernel)) rfl dX12_laws_84 (congrArg Value.int (ev24.symm)) ?_
              refine lv_iconst (v := 4) hx hb dX12_laws_87 (by decide) ?_
              refine lv_icmp_eq (tgt := 132) hx hb dX12_laws_88 (by decide) (fun c28 => ?_) (fun c28 => ?_)
              · have ic28 := (xi_eq c28 rfl (by decide) : v24.toInt = 4)
                refine lv_iconst (v := 0) hx hb dX12_laws_132 (by decide) ?_
                refine lv_istore (lv' := [(4, .int 0), (0, .ref a0), (1, .int y), (2, .int v21), (3, .int v22)]) hx hb dX12_laws_133 hl (by decide) rfl (fun ls hl => ?_)
                have loop135_2 : ∀ (n : Nat) (I30 : tI) (H : Heap) (locs : List Loc) (ls : Array Slot) (v29 : Int32), h_G h_so h_fk E A z I30 L0 s s.heap H locs → h_I z I30 → h_F [(13, 5), (13, 3), (13, 4), (13, 7), (13, 6), (13, 8), (13, 9), (1310, 999), (13, 2), (13, 1), (1311, 999)] z I0 I30 → lv_has ls 5 [(0, .ref a0), (1, .int y), (3, .int v22), (4, .int v29)] → (0 ≤ v29.toInt ∧ v29.toInt ≤ 16) → (∀ j : Nat, (j : Int) < v29.toInt → I30 lw (16 * y_t.toNat + j) = I30 lw (160 + j)) → (∀ k : Nat, (k < 160 ∨ 176 ≤ k) → (k < 16 * y_t.toNat ∨ 16 * y_t.toNat + 16 ≤ k) → I30 lw k = I0 lw k) → (h_ok (I30 lw) 10) → ((I30 a0 1).toInt = 0) → (16 - v29.toInt) < (n : Int) → W pr_ l ev_ (headSpec wsX12_laws ({ frames := 9, cells := 0, slots := 0, locals := 576 })).room s m ([.ref a0, .int y] : List Value).toArray below meth cd_ H locs 0 0 (MQ below (va_Qi (fun r (I1 : tI) => h_I z I1 ∧ h_F [(13, 5), (13, 3), (13, 4), (13, 7), (13, 6), (13, 8), (13, 9), (1310, 999), (13, 2), (13, 1), (1311, 999)] z I0 I1 ∧ (h_J1 (I1 (h_ad z a0 10))) ∧ ((I1 a0 1).toInt = 0)) (fun (I1 : tI) t => h_B E A z I1 L0 t) A) ([.ref a0, .int y] : List Value).toArray s 0 0 A) (F0 m 135 ls []) := by
                  intro n
                  induction n with
                  | zero => intro I30 H locs ls v29 g hI hF hl jv29 hx135_0 hx135_1 hx135_2 hk0_1 hn; exact absurd hn (by omega)
                  | succ n ih135 =>
                    intro I30 H locs ls v29 g hI hF hl jv29 hx135_0 hx135_1 hx135_2 hk0_1 hn
                    obtain ⟨v31, ev31⟩ : ∃ v : Int32, v = I30 a0 1 := ⟨_, rfl⟩
                    rw [← ev31] at hk0_1
                    refine lv_iload hx hb dX12_laws_135 (lv_at hl 3 rfl) ?_
                    refine lv_bipush (v := 16) hx hb dX12_laws_137 (by decide) ?_
                    refine lv_icmp_ge (tgt := 171) hx hb dX12_laws_139 (by decide) (fun c32 => ?_) (fun c32 => ?_)
                    · have ic32 := (xi_le c32 (by decide) rfl : 16 ≤ v29.toInt)
                      refine lv_aload_n hx hb dX12_laws_171 rfl (lv_at hl 0 rfl) ?_
                      obtain ⟨b33, rb33, tb33⟩ := hR.at a0 11 t_a0 (rfl : h_rs 13 11 = some (1311, false)) (by decide)
                      refine h_get (v := .ref b33) hx hb hts iX12 hown g t_a0 (by decide) so_13 rfl 11 (by decide) (hts (.fieldLink RX12 21 "CapLeagueModel" "hasLaws" "[Z") (by decide +kernel)) rfl dX12_laws_172 (by show va_rf (z.R a0 11) = _; rw [rb33]; rfl) ?_
                      refine lv_iload_n hx hb dX12_laws_175 rfl (lv_at hl 1 rfl) ?_
                      refine lv_iconst (v := 1) hx hb dX12_laws_176 (by decide) ?_
                      refine h_zast hx hb g tb33 (by decide) so_1311 (xi_in (by rw [h_y]; omega) (by rw [h_y]; omega)) dX12_laws_177 (fun I34 H locs eI34 g => ?_)
                      rw [h_nz (by decide) (by decide)] at eI34
                      have hI := hI.wr eI34 tb33 (rfl : h_bd 1311 _ = (0, 1)) (by decide) (by decide)
                      have hF := hF.wr eI34 tb33 rfl
                      refine lv_iload_n hx hb dX12_laws_178 rfl (lv_at hl 2 rfl) ?_
                      have hS := g.2.1
                      exact W.iret (v := v22) hx hb hr (fun t ht hW => ⟨⟨v22, I34, rfl, ⟨hI, hF, ⟨(by rw [alw]; exact h_J1_new (y0 := y_t.toNat) hJ (by omega) (h_ok_same hx135_2 (fun k _ _ => h_n1 eI34 tlw tb33 (by decide))) (fun j hj => (h_n1 eI34 tlw tb33 (by decide)).trans ((hx135_0 j (by omega)).trans (h_n1 eI34 tlw tb33 (by decide)).symm)) (fun k hk hk2 => (h_n1 eI34 tlw tb33 (by decide)).trans (hx135_1 k hk hk2))), (by have q1_ : (I34 a0 1).toInt = v31.toInt := (congrArg Int32.toInt ((h_n1 eI34 t_a0 tb33 (by decide)).trans (ev31.symm))).trans rfl; omega)⟩⟩, h_ret g ht⟩, hS.F ht⟩) hS.2.2 dX12_laws_179
                    · have ic32 := (xi_nle c32 (by decide) rfl : v29.toInt < 16)
                      refine lv_aload_n hx hb dX12_laws_142 rfl (lv_at hl 0 rfl) ?_
                      refine h_get (v := .ref lw) hx hb hts iX12 hown g t_a0 (by decide) so_13 rfl 10 (by decide) (hts (.fieldLink RX12 17 "CapLeagueModel" "laws" "[I") (by decide +kernel)) rfl dX12_laws_143 (by show va_rf (z.R a0 10) = _; rw [rlw]; rfl) ?_
                      refine lv_bipush (v := 16) hx hb dX12_laws_146 (by decide) ?_
                      refine lv_iload_n hx hb dX12_laws_148 rfl (lv_at hl 1 rfl) ?_
                      refine lv_imul hx hb dX12_laws_149 ?_
                      refine lv_topi (fun v35 ev35 => ?_)
                      have jv35 : v35.toInt = 16 * y_t := xi_mul ev35 (by decide) h_y (by omega) (by omega)
                      refine lv_iload hx hb dX12_laws_150 (lv_at hl 3 rfl) ?_
                      refine lv_iadd hx hb dX12_laws_152 ?_
                      refine lv_topi (fun v36 ev36 => ?_)
                      have jv36 : v36.toInt = v35.toInt + v29.toInt := xi_add ev36 rfl rfl (by omega) (by omega)
                      refine lv_aload_n hx hb dX12_laws_153 rfl (lv_at hl 0 rfl) ?_
                      refine h_get (v := .ref lw) hx hb hts iX12 hown g t_a0 (by decide) so_13 rfl 10 (by decide) (hts (.fieldLink RX12 17 "CapLeagueModel" "laws" "[I") (by decide +kernel)) rfl dX12_laws_154 (by show va_rf (z.R a0 10) = _; rw [rlw]; rfl) ?_
                      refine lv_sipush (v := 160) hx hb dX12_laws_157 (by decide) ?_
                      refine lv_iload hx hb dX12_laws_160 (lv_at hl 3 rfl) ?_
                      refine lv_iadd hx hb dX12_laws_162 ?_
                      refine lv_topi (fun v37 ev37 => ?_)
                      have jv37 : v37.toInt = 160 + v29.toInt := xi_add ev37 (by decide) rfl (by omega) (by omega)
                      refine h_ald hx hb g tlw (by decide) so_1310 (xi_in (by omega) (by omega)) dX12_laws_163 ?_
                      refine lv_topi (fun v38 ev38 => ?_)
                      have kv38 := h_lwr hI tlw (k := v37.toInt) rfl ev38 (by omega)
                      have jv38 : -2147483648 ≤ v38.toInt ∧ v38.toInt ≤ 2147483647 := ⟨xi_lo _, Int.le_of_lt_add_one (xi_hi _)⟩
                      refine h_ast hx hb g tlw (by decide) so_1310 (xi_in (by omega) (by omega)) dX12_laws_164 (fun I39 H locs eI39 g => ?_)
                      have hI := h_lww hI eI39 tlw (k := v36.toInt) rfl (by omega) (by omega) (by omega)
                      have hF := hF.wr eI39 tlw rfl
                      obtain ⟨v40, ev40⟩ : ∃ z : Int32, z = v29 + 1 := ⟨_, rfl⟩
                      have jv40 : v40.toInt = v29.toInt + 1 := xi_add ev40 rfl (by decide) (by omega) (by omega)
                      refine lv_iinc (v := v40) (lv' := [(4, .int v40), (0, .ref a0), (1, .int y), (3, .int v22)]) hx hb dX12_laws_165 hl (k := 3) rfl (by rw [ev40]; rfl) (by decide) rfl (fun ls hl => ?_)
                      refine lv_goto (tgt := 135) hx hb dX12_laws_168 (by decide) ?_
                      exact ih135 I39 _ _ _ v40 g hI hF (lv_sub hl [1, 2, 3, 0] rfl) (by omega) (h_cp eI39 (show v36.toInt = 16 * y_t + v29.toInt from by omega) (by omega) (show v37.toInt = 160 + v29.toInt from by omega) (by omega) (by omega) ev38 hx135_0 (by omega)) (fun k hk hk2 => (h_n2 eI39 (h_kne (t := v36.toInt) rfl (by omega) (by omega))).trans (hx135_1 k hk hk2)) (h_ok_same (f := I30 lw) (hx135_2) (fun k hk1 hk2 => h_n2 eI39 (h_kne (t := v36.toInt) rfl (by omega) (by omega)))) (by rw [(h_n1 eI39 t_a0 tlw (by decide)).trans (ev31.symm)]; omega) (by omega)
                have kc41 : (0 : Int32).toInt = 0 := by decide
                exact loop135_2 _ I23 _ _ _ (0) g hI hF (lv_sub hl [1, 2, 4, 0] rfl) ⟨by decide, by decide⟩ (fun j hj => absurd hj (by omega)) (fun k hk hk2 => hx83_2 k (by omega)) (hx83_1) (by rw [ev27.symm]; omega) (show (16 - (0 : Int)) < (((16 - (0 : Int)).toNat + 1 : Nat) : Int) by omega)
              · have ic28 := (xi_ne c28 rfl (by decide) : v24.toInt ≠ 4)
                refine lv_aload_n hx hb dX12_laws_91 rfl (lv_at hl 0 rfl) ?_
                refine h_get (v := .int v24) hx hb hts iX12 hown g t_a0 (by decide) so_13 rfl 3 (by decide) (hts (.fieldLink RX12 146 "CapLeagueModel" "sort" "I") (by decide +kernel)) rfl dX12_laws_92 (congrArg Value.int (ev24.symm)) ?_
                refine lv_iconst (v := 1) hx hb dX12_laws_95 (by decide) ?_
                refine lv_icmp_ne (tgt := 108) hx hb dX12_laws_96 (by decide) (fun c42 => ?_) (fun c42 => ?_)
                · have ic42 := (xi_ne c42 rfl (by decide) : v24.toInt ≠ 1)
                  refine lv_iconst (v := 0) hx hb dX12_laws_108 (by decide) ?_
                  refine lv_istore (lv' := [(4, .int 0), (0, .ref a0), (1, .int y), (2, .int v21), (3, .int v22)]) hx hb dX12_laws_109 hl (by decide) rfl (fun ls hl => ?_)
                  refine lv_aload_n hx hb dX12_laws_111 rfl (lv_at hl 1 rfl) ?_
                  refine lv_iload_n hx hb dX12_laws_112 rfl (lv_at hl 3 rfl) ?_
                  refine va_calli (va_runV (As := [.int v21]) (rest := []) ⟨hx, hb, hml, hown, hts⟩ (tX12_readLine l E X A z I23 L0 a0 t_a0 v21 (v21.toInt) rfl (by rw [ev24.symm, ev25.symm]; omega) (by rw [alw]; exact hx83_1)) (cwV 1 hts gX12_laws_X12_readLine rfl rfl rfl (by decide +kernel) ⟨Nat.le_of_ble_eq_true rfl, Nat.le_of_ble_eq_true rfl⟩) ⟨h_blind _ _ _ _ _ _ _, h_recv g t_a0 (by decide) so_13 (q := (RX12, TX12, 51)) rfl, h_pre _ hE hk hX hA hI hR g⟩ rfl rfl hl.1 rfl (lv_room (Nat.le_of_ble_eq_true rfl)) dX12_laws_113 ⟨Nat.le_of_ble_eq_true rfl, Nat.le_of_ble_eq_true rfl⟩) g.2.1 (fun q _ h => h) (fun q h => h) (fun rh43 I44 t H1 locs ht hvm h43 hB hz1 hk1 hS => ?_)
                  obtain ⟨hI, fh43, h43⟩ := h43
                  replace g := h_after g hB ht hS
                  generalize H1 = H at g
                  clear hB hk1 hz1 ht hvm hS
                  have hF := hF.call fh43 rfl
                  obtain ⟨h43, h43p0, h43p1, h43p2, h43p3⟩ := h43
                  rw [alw] at h43p2
                  rw [alw] at h43p3
                  rw [show I23 a0 6 = v26 from ev26.symm] at h43p0
                  obtain ⟨v45, ev45⟩ : ∃ v : Int32, v = I44 a0 3 := ⟨_, rfl⟩
                  have jv45 := hI.rd a0 3 t_a0 ev45 (rfl : h_bd 13 3 = ((-2147483648), 2147483647))
                  rw [← ev45] at h43p1
                  obtain ⟨v46, ev46⟩ : ∃ v : Int32, v = I44 a0 4 := ⟨_, rfl⟩
                  have jv46 := hI.rd a0 4 t_a0 ev46 (rfl : h_bd 13 4 = ((-1), 60))
                  rw [← ev46] at h43p1
                  obtain ⟨v47, ev47⟩ : ∃ v : Int32, v = I44 a0 6 := ⟨_, rfl⟩
                  have jv47 := hI.rd a0 6 t_a0 ev47 (rfl : h_bd 13 6 = (0, 500))
                  rw [← ev47] at h43p0
                  refine lv_if_ne (tgt := 121) hx hb dX12_laws_116 (by decide) (fun c48 => ?_) (fun c48 => ?_)
                  · have ic48 := (xi_ne c48 rfl (by decide) : rh43.toInt ≠ 0)
                    refine lv_iload_n hx hb dX12_laws_121 rfl (lv_at hl 3 rfl) ?_
                    refine lv_iload hx hb dX12_laws_122 (lv_at hl 0 rfl) ?_
                    refine lv_ior hx hb dX12_laws_124 ?_
                    refine lv_topi (fun v49 ev49 => ?_)
                    have jv49 : -2147483648 ≤ v49.toInt ∧ v49.toInt ≤ 2147483647 := ⟨xi_lo _, Int.le_of_lt_add_one (xi_hi _)⟩
                    refine lv_istore_n (lv' := [(2, .int v49), (4, .int 0), (0, .ref a0), (1, .int y), (3, .int v22)]) hx hb dX12_laws_125 rfl hl (by decide) rfl (fun ls hl => ?_)
                    obtain ⟨v50, ev50⟩ : ∃ z : Int32, z = v22 + 1 := ⟨_, rfl⟩
                    have jv50 : -2147483648 ≤ v50.toInt ∧ v50.toInt ≤ 2147483647 := ⟨xi_lo _, Int.le_of_lt_add_one (xi_hi _)⟩
                    refine lv_iinc (v := v50) (lv' := [(3, .int v50), (2, .int v49), (4, .int 0), (0, .ref a0), (1, .int y)]) hx hb dX12_laws_126 hl (k := 4) rfl (by rw [ev50]; rfl) (by decide) rfl (fun ls hl => ?_)
                    refine lv_goto (tgt := 83) hx hb dX12_laws_129 (by decide) ?_
                    have k51 : (I44 a0 3).toInt = v45.toInt := (congrArg Int32.toInt (ev45.symm)).trans rfl
                    have k52 : (I44 a0 4).toInt = v46.toInt := (congrArg Int32.toInt (ev46.symm)).trans rfl
                    have k53 : (I44 a0 6).toInt = v47.toInt := (congrArg Int32.toInt (ev47.symm)).trans rfl
                    exact ih83 I44 _ _ _ v49 v50 g hI hF (lv_sub hl [3, 4, 1, 0] rfl) (by omega) (by omega) (by omega) ((h43p2).resolve_left (by omega)) (fun k hk => (h43p3 k (by omega)).trans (hx83_2 k (by omega))) (by rw [(h_F.at fh43 t_a0 rfl).trans (ev27.symm)]; omega) (by omega)
                  · have ic48 := (xi_eq c48 rfl (by decide) : rh43.toInt = 0)
                    refine lv_iconst (v := (-1)) hx hb dX12_laws_119 (by decide) ?_
                    have hS := g.2.1
                    exact W.iret (v := (-1)) hx hb hr (fun t ht hW => ⟨⟨(-1), I44, rfl, ⟨hI, hF, ⟨(by rw [alw]; exact h_J1_out hJ (fun k hk => (h43p3 k (by omega)).trans (hx83_2 k (by omega)))), (by have qr : ((-1) : Int32).toInt = (-1) := (by decide); have q1_ : (I44 a0 1).toInt = v27.toInt := (congrArg Int32.toInt ((h_F.at fh43 t_a0 rfl).trans (ev27.symm))).trans rfl; omega)⟩⟩, h_ret g ht⟩, hS.F ht⟩) hS.2.2 dX12_laws_120
                · have ic42 := (xi_eq c42 rfl (by decide) : v24.toInt = 1)
                  refine lv_iconst (v := 1) hx hb dX12_laws_99 (by decide) ?_
                  refine lv_aload_n hx hb dX12_laws_100 rfl (lv_at hl 0 rfl) ?_
                  refine h_get (v := .int v25) hx hb hts iX12 hown g t_a0 (by decide) so_13 rfl 4 (by decide) (hts (.fieldLink RX12 157 "CapLeagueModel" "what" "I") (by decide +kernel)) rfl dX12_laws_101 (congrArg Value.int (ev25.symm)) ?_
                  refine lv_ishl hx hb dX12_laws_104 ?_
                  refine lv_topi (fun v54 ev54 => ?_)
                  have jv54 : -2147483648 ≤ v54.toInt ∧ v54.toInt ≤ 2147483647 := ⟨xi_lo _, Int.le_of_lt_add_one (xi_hi _)⟩
                  refine lv_goto (tgt := 109) hx hb dX12_laws_105 (by decide) ?_
                  refine lv_istore (lv' := [(4, .int v54), (0, .ref a0), (1, .int y), (2, .int v21), (3, .int v22)]) hx hb dX12_laws_109 hl (by decide) rfl (fun ls hl => ?_)
                  refine lv_aload_n hx hb dX12_laws_111 rfl (lv_at hl 1 rfl) ?_
                  refine lv_iload_n hx hb dX12_laws_112 rfl (lv_at hl 3 rfl) ?_
                  refine va_calli (va_runV (As := [.int v21]) (rest := []) ⟨hx, hb, hml, hown, hts⟩ (tX12_readLine l E X A z I23 L0 a0 t_a0 v21 (v21.toInt) rfl (by rw [ev24.symm, ev25.symm]; omega) (by rw [alw]; exact hx83_1)) (cwV 1 hts gX12_laws_X12_readLine rfl rfl rfl (by decide +kernel) ⟨Nat.le_of_ble_eq_true rfl, Nat.le_of_ble_eq_true rfl⟩) ⟨h_blind _ _ _ _ _ _ _, h_recv g t_a0 (by decide) so_13 (q := (RX12, TX12, 51)) rfl, h_pre _ hE hk hX hA hI hR g⟩ rfl rfl hl.1 rfl (lv_room (Nat.le_of_ble_eq_true rfl)) dX12_laws_113 ⟨Nat.le_of_ble_eq_true rfl, Nat.le_of_ble_eq_true rfl⟩) g.2.1 (fun q _ h => h) (fun q h => h) (fun rh55 I56 t H1 locs ht hvm h55 hB hz1 hk1 hS => ?_)
                  obtain ⟨hI, fh55, h55⟩ := h55
                  replace g := h_after g hB ht hS
                  generalize H1 = H at g
                  clear hB hk1 hz1 ht hvm hS
                  have hF := hF.call fh55 rfl
                  obtain ⟨h55, h55p0, h55p1, h55p2, h55p3⟩ := h55
                  rw [alw] at h55p2
                  rw [alw] at h55p3
                  rw [show I23 a0 6 = v26 from ev26.symm] at h55p0
                  obtain ⟨v57, ev57⟩ : ∃ v : Int32, v = I56 a0 3 := ⟨_, rfl⟩
                  have jv57 := hI.rd a0 3 t_a0 ev57 (rfl : h_bd 13 3 = ((-2147483648), 2147483647))
                  rw [← ev57] at h55p1
                  obtain ⟨v58, ev58⟩ : ∃ v : Int32, v = I56 a0 4 := ⟨_, rfl⟩
                  have jv58 := hI.rd a0 4 t_a0 ev58 (rfl : h_bd 13 4 = ((-1), 60))
                  rw [← ev58] at h55p1
                  obtain ⟨v59, ev59⟩ : ∃ v : Int32, v = I56 a0 6 := ⟨_, rfl⟩
                  have jv59 := hI.rd a0 6 t_a0 ev59 (rfl : h_bd 13 6 = (0, 500))
                  rw [← ev59] at h55p0
                  refine lv_if_ne (tgt := 121) hx hb dX12_laws_116 (by decide) (fun c60 => ?_) (fun c60 => ?_)
                  · have ic60 := (xi_ne c60 rfl (by decide) : rh55.toInt ≠ 0)
                    refine lv_iload_n hx hb dX12_laws_121 rfl (lv_at hl 3 rfl) ?_
                    refine lv_iload hx hb dX12_laws_122 (lv_at hl 0 rfl) ?_
                    refine lv_ior hx hb dX12_laws_124 ?_
                    refine lv_topi (fun v61 ev61 => ?_)
                    have jv61 : -2147483648 ≤ v61.toInt ∧ v61.toInt ≤ 2147483647 := ⟨xi_lo _, Int.le_of_lt_add_one (xi_hi _)⟩
                    refine lv_istore_n (lv' := [(2, .int v61), (4, .int v54), (0, .ref a0), (1, .int y), (3, .int v22)]) hx hb dX12_laws_125 rfl hl (by decide) rfl (fun ls hl => ?_)
                    obtain ⟨v62, ev62⟩ : ∃ z : Int32, z = v22 + 1 := ⟨_, rfl⟩
                    have jv62 : -2147483648 ≤ v62.toInt ∧ v62.toInt ≤ 2147483647 := ⟨xi_lo _, Int.le_of_lt_add_one (xi_hi _)⟩
                    refine lv_iinc (v := v62) (lv' := [(3, .int v62), (2, .int v61), (4, .int v54), (0, .ref a0), (1, .int y)]) hx hb dX12_laws_126 hl (k := 4) rfl (by rw [ev62]; rfl) (by decide) rfl (fun ls hl => ?_)
                    refine lv_goto (tgt := 83) hx hb dX12_laws_129 (by decide) ?_
                    have k63 : (I56 a0 3).toInt = v57.toInt := (congrArg Int32.toInt (ev57.symm)).trans rfl
                    have k64 : (I56 a0 4).toInt = v58.toInt := (congrArg Int32.toInt (ev58.symm)).trans rfl
                    have k65 : (I56 a0 6).toInt = v59.toInt := (congrArg Int32.toInt (ev59.symm)).trans rfl
                    exact ih83 I56 _ _ _ v61 v62 g hI hF (lv_sub hl [3, 4, 1, 0] rfl) (by omega) (by omega) (by omega) ((h55p2).resolve_left (by omega)) (fun k hk => (h55p3 k (by omega)).trans (hx83_2 k (by omega))) (by rw [(h_F.at fh55 t_a0 rfl).trans (ev27.symm)]; omega) (by omega)
                  · have ic60 := (xi_eq c60 rfl (by decide) : rh55.toInt = 0)
                    refine lv_iconst (v := (-1)) hx hb dX12_laws_119 (by decide) ?_
                    have hS := g.2.1
                    exact W.iret (v := (-1)) hx hb hr (fun t ht hW => ⟨⟨(-1), I56, rfl, ⟨hI, hF, ⟨(by rw [alw]; exact h_J1_out hJ (fun k hk => (h55p3 k (by omega)).trans (hx83_2 k (by omega)))), (by have qr : ((-1) : Int32).toInt = (-1) := (by decide); have q1_ : (I56 a0 1).toInt = v27.toInt := (congrArg Int32.toInt ((h_F.at fh55 t_a0 rfl).trans (ev27.symm))).trans rfl; omega)⟩⟩, h_ret g ht⟩, hS.F ht⟩) hS.2.2 dX12_laws_120
          have kc66 : (0 : Int32).toInt = 0 := by decide
          have kc67 : (0 : Int32).toInt = 0 := by decide
          have k68 : (I17 a0 3).toInt = v18.toInt := (congrArg Int32.toInt (ev18.symm)).trans rfl
          have k69 : (I17 a0 4).toInt = v19.toInt := (congrArg Int32.toInt (ev19.symm)).trans rfl
          have k70 : (I17 a0 6).toInt = v20.toInt := (congrArg Int32.toInt (ev20.symm)).trans rfl
          exact loop83_1 _ I17 _ _ _ (0) (0) g hI hF (lv_sub hl [2, 3, 1, 0] rfl) ⟨by decide, by decide⟩ ⟨by decide, by decide⟩ (by omega) (h_ok_same (f := I15 lw) (h_ok_same (f := I12 lw) (h_ok_one (hx44_0 (by omega)) (hx44_1 (by omega))) (fun k hk1 hk2 => h_n1 eI15 tlw t_a0 (by decide))) (fun k hk1 hk2 => h_F.at fh16 tlw rfl)) (fun k hk => (h_F.at fh16 tlw rfl).trans ((h_n1 eI15 tlw t_a0 (by decide)).trans (hx44_2 k (by omega)))) (by rw [(h_F.at fh16 t_a0 rfl).trans ((h_n2 eI15 (by decide)).trans (ev13.symm))]; omega) (show (((501 - (I17 a0 6).toInt).toNat : Int)) < (((((501 - (I17 a0 6).toInt).toNat : Int)).toNat + 1 : Nat) : Int) by omega)
        · have ic14 := (xi_nle c14 (by decide) rfl : v11.toInt < 16)
          refine lv_aload_n hx hb dX12_laws_50 rfl (lv_at hl 0 rfl) ?_
          refine h_get (v := .ref lw) hx hb hts iX12 hown g t_a0 (by decide) so_13 rfl 10 (by decide) (hts (.fieldLink RX12 17 "CapLeagueModel" "laws" "[I") (by decide +kernel)) rfl dX12_laws_51 (by show va_rf (z.R a0 10) = _; rw [rlw]; rfl) ?_
          refine lv_sipush (v := 160) hx hb dX12_laws_54 (by decide) ?_
          refine lv_iload_n hx hb dX12_laws_57 rfl (lv_at hl 2 rfl) ?_
          refine lv_iadd hx hb dX12_laws_58 ?_
          refine lv_topi (fun v71 ev71 => ?_)
          have jv71 : v71.toInt = 160 + v11.toInt := xi_add ev71 (by decide) rfl (by omega) (by omega)
          refine lv_iload_n hx hb dX12_laws_59 rfl (lv_at hl 2 rfl) ?_
          refine vp_callSi (W.runS (As := [.int v11]) (rest := [.int v71, .ref lw]) ⟨hx, hb, hml, hown, hts⟩ (tX12_plainP l E X A z I12 L0 v11 (v11.toInt) rfl) (va_cwS 1 hts gX12_laws_X12_plain rfl rfl rfl (by decide +kernel) ⟨Nat.le_of_ble_eq_true rfl, Nat.le_of_ble_eq_true rfl⟩) ⟨h_blind _ _ _ _ _ _ _, h_pre _ hE hk hX hA hI hR g⟩ rfl rfl hl.1 rfl (lv_room (Nat.le_of_ble_eq_true rfl)) dX12_laws_60 ⟨Nat.le_of_ble_eq_true rfl, Nat.le_of_ble_eq_true rfl⟩) (fun rh72 h72 => ?_)
          obtain ⟨h72p0, h72p1, h72p2⟩ := h72
          have jrh72 : -2147483648 ≤ rh72.toInt ∧ rh72.toInt ≤ 2147483647 := ⟨xi_lo _, Int.le_of_lt_add_one (xi_hi _)⟩
          refine h_ast hx hb g tlw (by decide) so_1310 (xi_in (by omega) (by omega)) dX12_laws_63 (fun I73 H locs eI73 g => ?_)
          have hI := h_lww hI eI73 tlw (k := v71.toInt) rfl (by omega) (by omega) (by omega)
          have hF := hF.wr eI73 tlw rfl
          obtain ⟨v74, ev74⟩ : ∃ z : Int32, z = v11 + 1 := ⟨_, rfl⟩
          have jv74 : v74.toInt = v11.toInt + 1 := xi_add ev74 rfl (by decide) (by omega) (by omega)
          refine lv_iinc (v := v74) (lv' := [(2, .int v74), (0, .ref a0), (1, .int y)]) hx hb dX12_laws_64 hl (k := 2) rfl (by rw [ev74]; rfl) (by decide) rfl (fun ls hl => ?_)
          refine lv_goto (tgt := 44) hx hb dX12_laws_67 (by decide) ?_
          exact ih44 I73 _ _ _ v74 g hI hF (lv_sub hl [1, 2, 0] rfl) (by omega) (h_pl eI73 (show v71.toInt = 160 + v11.toInt from by omega) (by omega) (by decide) hx44_0 (by omega) (by omega)) (h_pl eI73 (show v71.toInt = 160 + v11.toInt from by omega) (by omega) (by decide) hx44_1 (by omega) (by omega)) (fun k hk => (h_n2 eI73 (h_kne (t := v71.toInt) rfl (by omega) (by omega))).trans (hx44_2 k (by omega))) (by rw [(h_n1 eI73 t_a0 tlw (by decide)).trans (ev13.symm)]; omega) (by omega)
    have kc75 : (0 : Int32).toInt = 0 := by decide
    exact loop44_0 _ I10 _ _ _ (0) g hI hF (lv_sub hl [1, 2, 0] rfl) ⟨by decide, by decide⟩ (fun h => absurd h (by decide)) (fun h => absurd h (by decide)) (fun k hk => (h_n1 eI10 tlw t_a0 (by decide)).trans ((h_n1 eI9 tlw t_a0 (by decide)).trans ((h_n1 eI3 tlw t_a0 (by decide)).trans (h_n1 eI2 tlw t_a0 (by decide))))) (by rw [(h_n2 eI10 (by decide)).trans ((h_n2 eI9 (by decide)).trans (h_n0 eI3))]; decide) (show (16 - (0 : Int)) < (((16 - (0 : Int)).toNat + 1 : Nat) : Int) by omega)
set_option maxHeartbeats 4000000 in
set_option maxRecDepth 100000 in
theorem tX12_tableF (l : Launch) (E : tE) (X : tX) (A : Nat → Prop) (z : tZ) (I0 : tI) (L0 : tL) (a0 : Nat) (t_a0 : z.ty a0 = 13) (hJ2 : (I0 a0 30).toInt = 1 → ∀ c : Int, 0 ≤ c → c ≤ 7 → ∃ k : Nat, k < 8 ∧ (I0 (h_ad z a0 32) k).toInt = c) : Met l yX12_table wsX12_table ({ frames := 2, cells := 0, slots := 0, locals := 128 }) (va_Pc [.ref a0] (h_P E X A z I0 L0)) (va_Qi (fun r (I1 : tI) => h_I z I1 ∧ h_F [(13, 1), (1332, 999), (13, 30)] z I0 I1 ∧ ((I1 a0 30).toInt = 1 → ∀ c : Int, 0 ≤ c → c ≤ 7 → ∃ k : Nat, k < 8 ∧ (I1 (h_ad z a0 32) k).toInt = c) ∧ ((I1 a0 1).toInt = 0)) (fun (I1 : tI) t => h_B E A z I1 L0 t) A) 0 0 A := by
  refine Met.ofW (cc := cX12_table) (maxL := 4) (ret := (some .int)) (by decide) rfl ?_
  intro pr_ ev_ s m args below meth cd_ s₁ B hml hv
  obtain ⟨rfl, hE, hk, hX, hA, hK, hI, hR, hB0⟩ := hv
  have g : h_G h_so h_fk E A z I0 L0 s s.heap s.heap [] := ⟨hK, va_S.rf, hB0⟩
  have hF : h_F [(13, 1), (1332, 999), (13, 30)] z I0 I0 := h_F.rf
  have hx := B.exec
  have hb := B.bytes
  have hr := B.returns
  have hts := atoms_spec (ws := wsX12_table) B.pre
  have hown : s.vm.findClass RX12 = some m.cls := findClass_of_methodNamed B.named
  have hlocks := B.notSynchronized
  have iX12 : ∀ w ∈ u_ws RX12 TX12 51, w ∈ wsX12_table := by decide +kernel
  have hl := lv_entry ([.ref a0]) (n := 4) (Nat.le_of_ble_eq_true rfl)
  rw [lg_entry_eq]
  generalize (lg_sl ([.ref a0]) ++ List.replicate (4 - (lg_sl ([.ref a0])).length) Slot.unset).toArray = ls at hl ⊢
  have hl : lv_has ls 4 [(0, .ref a0)] := hl
  obtain ⟨tp, rtp, ttp⟩ := hR.at a0 0 t_a0 (rfl : h_rs 13 0 = some (1300, false)) (by decide)
  have atp : h_ad z a0 0 = tp := h_ad.at rtp
  obtain ⟨tb, rtb, ttb⟩ := hR.at a0 32 t_a0 (rfl : h_rs 13 32 = some (1332, false)) (by decide)
  have atb : h_ad z a0 32 = tb := h_ad.at rtb
  obtain ⟨f0_1, ef0_1⟩ : ∃ v : Int32, v = I0 a0 1 := ⟨_, rfl⟩
  have qf0_1 : (I0 a0 1).toInt = f0_1.toInt := congrArg Int32.toInt ef0_1.symm
  have jf0_1 := hI.rd a0 1 t_a0 ef0_1 (rfl : h_bd 13 1 = (0, 500))
  obtain ⟨f0_30, ef0_30⟩ : ∃ v : Int32, v = I0 a0 30 := ⟨_, rfl⟩
  have qf0_30 : (I0 a0 30).toInt = f0_30.toInt := congrArg Int32.toInt ef0_30.symm
  have jf0_30 := hI.rd a0 30 t_a0 ef0_30 (rfl : h_bd 13 30 = (0, 1))
  obtain ⟨f0_31, ef0_31⟩ : ∃ v : Int32, v = I0 a0 31 := ⟨_, rfl⟩
  have qf0_31 : (I0 a0 31).toInt = f0_31.toInt := congrArg Int32.toInt ef0_31.symm
  have jf0_31 := hI.rd a0 31 t_a0 ef0_31 (rfl : h_bd 13 31 = (0, 1))
  rw [atb] at hJ2
  refine lv_aload_n hx hb dX12_table_0 rfl (lv_at hl 0 rfl) ?_
  refine h_get (v := .int f0_1) hx hb hts iX12 hown g t_a0 (by decide) so_13 rfl 1 (by decide) (hts (.fieldLink RX12 119 "CapLeagueModel" "taped" "I") (by decide +kernel)) rfl dX12_table_1 (congrArg Value.int (ef0_1.symm)) ?_
  refine lv_istore_n (lv' := [(1, .int f0_1), (0, .ref a0)]) hx hb dX12_table_4 rfl hl (by decide) rfl (fun ls hl => ?_)
  refine lv_aload_n hx hb dX12_table_5 rfl (lv_at hl 1 rfl) ?_
  refine lv_iconst (v := 0) hx hb dX12_table_6 (by decide) ?_
  refine h_putI (ty := .int) (v := 0) hx hb hts iX12 tyX12 tyX12_ok nmX12 hown g t_a0 (by decide) so_13 rfl 1 (by decide) rfl (hts (.fieldLink RX12 119 "CapLeagueModel" "taped" "I") (by decide +kernel)) rfl rfl (by decide +kernel) rfl rfl dX12_table_7 (fun I1 H locs eI1 g => ?_)
  have hI := hI.wr eI1 t_a0 (rfl : h_bd 13 1 = (0, 500)) (by decide) (by decide)
  have hF := hF.wr eI1 t_a0 rfl
  refine lv_aload_n hx hb dX12_table_10 rfl (lv_at hl 1 rfl) ?_
  refine h_get (v := .int f0_31) hx hb hts iX12 hown g t_a0 (by decide) so_13 rfl 31 (by decide) (hts (.fieldLink RX12 264 "CapLeagueModel" "isDrawn" "Z") (by decide +kernel)) rfl dX12_table_11 (congrArg Value.int ((h_n2 eI1 (by decide)).trans (ef0_31.symm))) ?_
  refine lv_if_eq (tgt := 20) hx hb dX12_table_14 (by decide) (fun c2 => ?_) (fun c2 => ?_)
  · have ic2 := (xi_eq c2 rfl (by decide) : f0_31.toInt = 0)
    refine lv_iconst (v := 0) hx hb dX12_table_20 (by decide) ?_
    refine lv_istore_n (lv' := [(2, .int 0), (1, .int f0_1), (0, .ref a0)]) hx hb dX12_table_21 rfl hl (by decide) rfl (fun ls hl => ?_)
    refine lv_iconst (v := 0) hx hb dX12_table_22 (by decide) ?_
    refine lv_istore_n (lv' := [(3, .int 0), (2, .int 0), (1, .int f0_1), (0, .ref a0)]) hx hb dX12_table_23 rfl hl (by decide) rfl (fun ls hl => ?_)
    have loop24_0 : ∀ (n : Nat) (I5 : tI) (H : Heap) (locs : List Loc) (ls : Array Slot) (v3 v4 : Int32), h_G h_so h_fk E A z I5 L0 s s.heap H locs → h_I z I5 → h_F [(13, 1), (1332, 999), (13, 30)] z I0 I5 → lv_has ls 4 [(0, .ref a0), (1, .int f0_1), (2, .int v3), (3, .int v4)] → (0 ≤ v3.toInt ∧ v3.toInt ≤ 255) → (0 ≤ v4.toInt ∧ v4.toInt ≤ 8) → h_F [] z I1 I5 → (h_tbI (I0 tp) v3.toInt v4.toInt) → ((I5 a0 1).toInt = 0) → (8 - v4.toInt) < (n : Int) → W pr_ l ev_ (headSpec wsX12_table ({ frames := 2, cells := 0, slots := 0, locals := 128 })).room s m ([.ref a0] : List Value).toArray below meth cd_ H locs 0 0 (MQ below (va_Qi (fun r (I1 : tI) => h_I z I1 ∧ h_F [(13, 1), (1332, 999), (13, 30)] z I0 I1 ∧ ((I1 a0 30).toInt = 1 → ∀ c : Int, 0 ≤ c → c ≤ 7 → ∃ k : Nat, k < 8 ∧ (I1 (h_ad z a0 32) k).toInt = c) ∧ ((I1 a0 1).toInt = 0)) (fun (I1 : tI) t => h_B E A z I1 L0 t) A) ([.ref a0] : List Value).toArray s 0 0 A) (F0 m 24 ls []) := by
      intro n
      induction n with
      | zero => intro I5 H locs ls v3 v4 g hI hF hl jv3 jv4 hL24 hx24_0 hk0_1 hn; exact absurd hn (by omega)
      | succ n ih24 =>
        intro I5 H locs ls v3 v4 g hI hF hl jv3 jv4 hL24 hx24_0 hk0_1 hn
        obtain ⟨v6, ev6⟩ : ∃ v : Int32, v = I5 a0 1 := ⟨_, rfl⟩
        rw [← ev6] at hk0_1
        refine lv_iload_n hx hb dX12_table_24 rfl (lv_at hl 3 rfl) ?_
        refine lv_iload_n hx hb dX12_table_25 rfl (lv_at hl 1 rfl) ?_
        refine lv_icmp_ge (tgt := 74) hx hb dX12_table_26 (by decide) (fun c7 => ?_) (fun c7 => ?_)
        · have ic7 := (xi_le c7 rfl rfl : f0_1.toInt ≤ v4.toInt)
          refine lv_iload_n hx hb dX12_table_74 rfl (lv_at hl 1 rfl) ?_
          refine lv_bipush (v := 8) hx hb dX12_table_75 (by decide) ?_
          refine lv_icmp_ne (tgt := 87) hx hb dX12_table_77 (by decide) (fun c8 => ?_) (fun c8 => ?_)
          · have ic8 := (xi_ne c8 rfl (by decide) : f0_1.toInt ≠ 8)
            refine lv_iconst (v := (-1)) hx hb dX12_table_87 (by decide) ?_
            have hS := g.2.1
            exact W.iret (v := (-1)) hx hb hr (fun t ht hW => ⟨⟨(-1), I5, rfl, ⟨hI, hF, ⟨(by rw [atb]; intro h1 c h0 h7; rw [(h_F.at hL24 t_a0 rfl).trans (h_n2 eI1 (by decide))] at h1; obtain ⟨k, hk, hv⟩ := hJ2 h1 c h0 h7; exact ⟨k, hk, by rw [(h_F.at hL24 ttb rfl).trans (h_n1 eI1 ttb t_a0 (by decide))]; exact hv⟩), (by have qr : ((-1) : Int32).toInt = (-1) := (by decide); have q1_ : (I5 a0 1).toInt = v6.toInt := (congrArg Int32.toInt (ev6.symm)).trans rfl; omega)⟩⟩, h_ret g ht⟩, hS.F ht⟩) hS.2.2 dX12_table_88
          · have ic8 := (xi_eq c8 rfl (by decide) : f0_1.toInt = 8)
            refine lv_iload_n hx hb dX12_table_80 rfl (lv_at hl 2 rfl) ?_
            refine lv_sipush (v := 255) hx hb dX12_table_81 (by decide) ?_
            refine lv_icmp_eq (tgt := 89) hx hb dX12_table_84 (by decide) (fun c9 => ?_) (fun c9 => ?_)
            · have ic9 := (xi_eq c9 rfl (by decide) : v3.toInt = 255)
              obtain ⟨hin, hsu⟩ := hx24_0.all (by omega) (by omega)
              refine lv_iconst (v := 0) hx hb dX12_table_89 (by decide) ?_
              refine lv_istore_n (lv' := [(3, .int 0), (0, .ref a0), (1, .int f0_1), (2, .int v3)]) hx hb dX12_table_90 rfl hl (by decide) rfl (fun ls hl => ?_)
              have loop91_1 : ∀ (n : Nat) (I11 : tI) (H : Heap) (locs : List Loc) (ls : Array Slot) (v10 : Int32), h_G h_so h_fk E A z I11 L0 s s.heap H locs → h_I z I11 → h_F [(13, 1), (1332, 999), (13, 30)] z I0 I11 → lv_has ls 4 [(0, .ref a0), (3, .int v10)] → (0 ≤ v10.toInt ∧ v10.toInt ≤ 8) → h_F [(1332, 999)] z I5 I11 → (∀ k : Nat, (k : Int) < v10.toInt → (I11 tb k).toInt = (I0 tp k).toInt - 65) → ((I11 a0 1).toInt = 0) → (8 - v10.toInt) < (n : Int) → W pr_ l ev_ (headSpec wsX12_table ({ frames := 2, cells := 0, slots := 0, locals := 128 })).room s m ([.ref a0] : List Value).toArray below meth cd_ H locs 0 0 (MQ below (va_Qi (fun r (I1 : tI) => h_I z I1 ∧ h_F [(13, 1), (1332, 999), (13, 30)] z I0 I1 ∧ ((I1 a0 30).toInt = 1 → ∀ c : Int, 0 ≤ c → c ≤ 7 → ∃ k : Nat, k < 8 ∧ (I1 (h_ad z a0 32) k).toInt = c) ∧ ((I1 a0 1).toInt = 0)) (fun (I1 : tI) t => h_B E A z I1 L0 t) A) ([.ref a0] : List Value).toArray s 0 0 A) (F0 m 91 ls []) := by
                intro n
                induction n with
                | zero => intro I11 H locs ls v10 g hI hF hl jv10 hL91 hx91_0 hk0_1 hn; exact absurd hn (by omega)
                | succ n ih91 =>
                  intro I11 H locs ls v10 g hI hF hl jv10 hL91 hx91_0 hk0_1 hn
                  obtain ⟨v12, ev12⟩ : ∃ v : Int32, v = I11 a0 1 := ⟨_, rfl⟩
                  rw [← ev12] at hk0_1
                  refine lv_iload_n hx hb dX12_table_91 rfl (lv_at hl 1 rfl) ?_
                  refine lv_bipush (v := 8) hx hb dX12_table_92 (by decide) ?_
                  refine lv_icmp_ge (tgt := 118) hx hb dX12_table_94 (by decide) (fun c13 => ?_) (fun c13 => ?_)
                  · have ic13 := (xi_le c13 (by decide) rfl : 8 ≤ v10.toInt)
                    refine lv_aload_n hx hb dX12_table_118 rfl (lv_at hl 0 rfl) ?_
                    refine lv_iconst (v := 1) hx hb dX12_table_119 (by decide) ?_
                    refine h_putI (ty := .boolean) (v := 1) hx hb hts iX12 tyX12 tyX12_ok nmX12 hown g t_a0 (by decide) so_13 rfl 30 (by decide) rfl (hts (.fieldLink RX12 306 "CapLeagueModel" "hasTable" "Z") (by decide +kernel)) rfl rfl (by decide +kernel) (by decide) (by decide) dX12_table_120 (fun I14 H locs eI14 g => ?_)
                    have hI := hI.wr eI14 t_a0 (rfl : h_bd 13 30 = (0, 1)) (by decide) (by decide)
                    have hF := hF.wr eI14 t_a0 rfl
                    refine lv_iconst (v := 1) hx hb dX12_table_123 (by decide) ?_
                    have hS := g.2.1
                    exact W.iret (v := 1) hx hb hr (fun t ht hW => ⟨⟨1, I14, rfl, ⟨hI, hF, ⟨(by rw [atb]; intro _ c h0 h7; obtain ⟨k, hk, hv⟩ := hsu c.toNat (by omega); refine ⟨k, hk, ?_⟩; rw [h_n1 eI14 ttb t_a0 (by decide), hx91_0 k (by omega), hv]; omega), (by have qr : (1 : Int32).toInt = 1 := (by decide); have q1_ : (I14 a0 1).toInt = v12.toInt := (congrArg Int32.toInt ((h_n2 eI14 (by decide)).trans (ev12.symm))).trans rfl; omega)⟩⟩, h_ret g ht⟩, hS.F ht⟩) hS.2.2 dX12_table_124
                  · have ic13 := (xi_nle c13 (by decide) rfl : v10.toInt < 8)
                    refine lv_aload_n hx hb dX12_table_97 rfl (lv_at hl 0 rfl) ?_
                    refine h_get (v := .ref tb) hx hb hts iX12 hown g t_a0 (by decide) so_13 rfl 32 (by decide) (hts (.fieldLink RX12 73 "CapLeagueModel" "table" "[I") (by decide +kernel)) rfl dX12_table_98 (by show va_rf (z.R a0 32) = _; rw [rtb]; rfl) ?_
                    refine lv_iload_n hx hb dX12_table_101 rfl (lv_at hl 1 rfl) ?_
                    refine lv_aload_n hx hb dX12_table_102 rfl (lv_at hl 0 rfl) ?_
                    refine h_get (v := .ref tp) hx hb hts iX12 hown g t_a0 (by decide) so_13 rfl 0 (by decide) (hts (.fieldLink RX12 7 "CapLeagueModel" "tape" "[B") (by decide +kernel)) rfl dX12_table_103 (by show va_rf (z.R a0 0) = _; rw [rtp]; rfl) ?_
                    refine lv_iload_n hx hb dX12_table_106 rfl (lv_at hl 1 rfl) ?_
                    refine h_bald hx hb g ttp (by decide) so_1300 (xi_in (by omega) (by omega)) dX12_table_107 ?_
                    refine lv_topi (fun v15 ev15 => ?_)
                    have jv15 := hI.rd tp v10.toNatClampNeg ttp ev15 (rfl : h_bd 1300 _ = ((-128), 127))
                    have ov15 : (I0 tp (v10.toInt).toNat).toInt = v15.toInt := by rw [ev15, hF.at ttp rfl]; rfl
                    have mv15 : 65 ≤ v15.toInt ∧ v15.toInt ≤ 72 := by have := hin (v10.toInt).toNat (by omega); omega
                    refine lv_bipush (v := 65) hx hb dX12_table_108 (by decide) ?_
                    refine lv_isub hx hb dX12_table_110 ?_
                    refine lv_topi (fun v16 ev16 => ?_)
                    have jv16 : v16.toInt = v15.toInt - 65 := xi_sub ev16 rfl (by decide) (by omega) (by omega)
                    refine h_ast hx hb g ttb (by decide) so_1332 (xi_in (by omega) (by omega)) dX12_table_111 (fun I17 H locs eI17 g => ?_)
                    have hI := hI.wr eI17 ttb (rfl : h_bd 1332 _ = (0, 7)) (by omega) (by omega)
                    have hF := hF.wr eI17 ttb rfl
                    obtain ⟨v18, ev18⟩ : ∃ z : Int32, z = v10 + 1 := ⟨_, rfl⟩
                    have jv18 : v18.toInt = v10.toInt + 1 := xi_add ev18 rfl (by decide) (by omega) (by omega)
                    refine lv_iinc (v := v18) (lv' := [(3, .int v18), (0, .ref a0)]) hx hb dX12_table_112 hl (k := 1) rfl (by rw [ev18]; rfl) (by decide) rfl (fun ls hl => ?_)
                    refine lv_goto (tgt := 91) hx hb dX12_table_115 (by decide) ?_
                    exact ih91 I17 _ _ _ v18 g hI hF (lv_sub hl [1, 0] rfl) (by omega) (h_F.wr (h_F.call (h_F.rf : h_F [(1332, 999)] z I5 I5) hL91 rfl) eI17 ttb rfl) (fun k hk => by
                        by_cases ek : (k : Int) = v10.toInt
                        · rw [← h_keq (k := k) (i := v10) rfl (by omega) ek, h_n0 eI17]
                          exact (show v16.toInt = _ from by rw [show (I0 tp v10.toNatClampNeg).toInt = v15.toInt from ov15]; omega)
                        · rw [h_n2 eI17 (h_kne (t := v10.toInt) rfl (by omega) ek)]
                          exact hx91_0 k (by omega)) (by rw [(h_n1 eI17 t_a0 ttb (by decide)).trans (ev12.symm)]; omega) (by omega)
              have kc19 : (0 : Int32).toInt = 0 := by decide
              exact loop91_1 _ I5 _ _ _ (0) g hI hF (lv_sub hl [1, 0] rfl) ⟨by decide, by decide⟩ (h_F.rf : h_F [(1332, 999)] z I5 I5) (fun k hk => absurd hk (by omega)) (by rw [ev6.symm]; omega) (show (8 - (0 : Int)) < (((8 - (0 : Int)).toNat + 1 : Nat) : Int) by omega)
            · have ic9 := (xi_ne c9 rfl (by decide) : v3.toInt ≠ 255)
              refine lv_iconst (v := (-1)) hx hb dX12_table_87 (by decide) ?_
              have hS := g.2.1
              exact W.iret (v := (-1)) hx hb hr (fun t ht hW => ⟨⟨(-1), I5, rfl, ⟨hI, hF, ⟨(by rw [atb]; intro h1 c h0 h7; rw [(h_F.at hL24 t_a0 rfl).trans (h_n2 eI1 (by decide))] at h1; obtain ⟨k, hk, hv⟩ := hJ2 h1 c h0 h7; exact ⟨k, hk, by rw [(h_F.at hL24 ttb rfl).trans (h_n1 eI1 ttb t_a0 (by decide))]; exact hv⟩), (by have qr : ((-1) : Int32).toInt = (-1) := (by decide); have q1_ : (I5 a0 1).toInt = v6.toInt := (congrArg Int32.toInt (ev6.symm)).trans rfl; omega)⟩⟩, h_ret g ht⟩, hS.F ht⟩) hS.2.2 dX12_table_88
        · have ic7 := (xi_nle c7 rfl rfl : v4.toInt < f0_1.toInt)
          refine lv_iload_n hx hb dX12_table_29 rfl (lv_at hl 1 rfl) ?_
          refine lv_bipush (v := 8) hx hb dX12_table_30 (by decide) ?_
          refine lv_icmp_ne (tgt := 74) hx hb dX12_table_32 (by decide) (fun c20 => ?_) (fun c20 => ?_)
          · have ic20 := (xi_ne c20 rfl (by decide) : f0_1.toInt ≠ 8)
            refine lv_iload_n hx hb dX12_table_74 rfl (lv_at hl 1 rfl) ?_
            refine lv_bipush (v := 8) hx hb dX12_table_75 (by decide) ?_
            refine lv_icmp_ne (tgt := 87) hx hb dX12_table_77 (by decide) (fun c21 => ?_) (fun c21 => ?_)
            · have ic21 := (xi_ne c21 rfl (by decide) : f0_1.toInt ≠ 8)
              refine lv_iconst (v := (-1)) hx hb dX12_table_87 (by decide) ?_
              have hS := g.2.1
              exact W.iret (v := (-1)) hx hb hr (fun t ht hW => ⟨⟨(-1), I5, rfl, ⟨hI, hF, ⟨(by rw [atb]; intro h1 c h0 h7; rw [(h_F.at hL24 t_a0 rfl).trans (h_n2 eI1 (by decide))] at h1; obtain ⟨k, hk, hv⟩ := hJ2 h1 c h0 h7; exact ⟨k, hk, by rw [(h_F.at hL24 ttb rfl).trans (h_n1 eI1 ttb t_a0 (by decide))]; exact hv⟩), (by have qr : ((-1) : Int32).toInt = (-1) := (by decide); have q1_ : (I5 a0 1).toInt = v6.toInt := (congrArg Int32.toInt (ev6.symm)).trans rfl; omega)⟩⟩, h_ret g ht⟩, hS.F ht⟩) hS.2.2 dX12_table_88
            · have ic21 := (xi_eq c21 rfl (by decide) : f0_1.toInt = 8)
              refine lv_iload_n hx hb dX12_table_80 rfl (lv_at hl 2 rfl) ?_
              refine lv_sipush (v := 255) hx hb dX12_table_81 (by decide) ?_
              refine lv_icmp_eq (tgt := 89) hx hb dX12_table_84 (by decide) (fun c22 => ?_) (fun c22 => ?_)
              · have ic22 := (xi_eq c22 rfl (by decide) : v3.toInt = 255)
                obtain ⟨hin, hsu⟩ := hx24_0.all (by omega) (by omega)
                refine lv_iconst (v := 0) hx hb dX12_table_89 (by decide) ?_
                refine lv_istore_n (lv' := [(3, .int 0), (0, .ref a0), (1, .int f0_1), (2, .int v3)]) hx hb dX12_table_90 rfl hl (by decide) rfl (fun ls hl => ?_)
                have loop91_2 : ∀ (n : Nat) (I24 : tI) (H : Heap) (locs : List Loc) (ls : Array Slot) (v23 : Int32), h_G h_so h_fk E A z I24 L0 s s.heap H locs → h_I z I24 → h_F [(13, 1), (1332, 999), (13, 30)] z I0 I24 → lv_has ls 4 [(0, .ref a0), (3, .int v23)] → (0 ≤ v23.toInt ∧ v23.toInt ≤ 8) → h_F [(1332, 999)] z I5 I24 → (∀ k : Nat, (k : Int) < v23.toInt → (I24 tb k).toInt = (I0 tp k).toInt - 65) → ((I24 a0 1).toInt = 0) → (8 - v23.toInt) < (n : Int) → W pr_ l ev_ (headSpec wsX12_table ({ frames := 2, cells := 0, slots := 0, locals := 128 })).room s m ([.ref a0] : List Value).toArray below meth cd_ H locs 0 0 (MQ below (va_Qi (fun r (I1 : tI) => h_I z I1 ∧ h_F [(13, 1), (1332, 999), (13, 30)] z I0 I1 ∧ ((I1 a0 30).toInt = 1 → ∀ c : Int, 0 ≤ c → c ≤ 7 → ∃ k : Nat, k < 8 ∧ (I1 (h_ad z a0 32) k).toInt = c) ∧ ((I1 a0 1).toInt = 0)) (fun (I1 : tI) t => h_B E A z I1 L0 t) A) ([.ref a0] : List Value).toArray s 0 0 A) (F0 m 91 ls []) := by
                  intro n
                  induction n with
                  | zero => intro I24 H locs ls v23 g hI hF hl jv23 hL91 hx91_0 hk0_1 hn; exact absurd hn (by omega)
                  | succ n ih91 =>
                    intro I24 H locs ls v23 g hI hF hl jv23 hL91 hx91_0 hk0_1 hn
                    obtain ⟨v25, ev25⟩ : ∃ v : Int32, v = I24 a0 1 := ⟨_, rfl⟩
                    rw [← ev25] at hk0_1
                    refine lv_iload_n hx hb dX12_table_91 rfl (lv_at hl 1 rfl) ?_
                    refine lv_bipush (v := 8) hx hb dX12_table_92 (by decide) ?_
                    refine lv_icmp_ge (tgt := 118) hx hb dX12_table_94 (by decide) (fun c26 => ?_) (fun c26 => ?_)
                    · have ic26 := (xi_le c26 (by decide) rfl : 8 ≤ v23.toInt)
                      refine lv_aload_n hx hb dX12_table_118 rfl (lv_at hl 0 rfl) ?_
                      refine lv_iconst (v := 1) hx hb dX12_table_119 (by decide) ?_
                      refine h_putI (ty := .boolean) (v := 1) hx hb hts iX12 tyX12 tyX12_ok nmX12 hown g t_a0 (by decide) so_13 rfl 30 (by decide) rfl (hts (.fieldLink RX12 306 "CapLeagueModel" "hasTable" "Z") (by decide +kernel)) rfl rfl (by decide +kernel) (by decide) (by decide) dX12_table_120 (fun I27 H locs eI27 g => ?_)
                      have hI := hI.wr eI27 t_a0 (rfl : h_bd 13 30 = (0, 1)) (by decide) (by decide)
                      have hF := hF.wr eI27 t_a0 rfl
                      refine lv_iconst (v := 1) hx hb dX12_table_123 (by decide) ?_
                      have hS := g.2.1
                      exact W.iret (v := 1) hx hb hr (fun t ht hW => ⟨⟨1, I27, rfl, ⟨hI, hF, ⟨(by rw [atb]; intro _ c h0 h7; obtain ⟨k, hk, hv⟩ := hsu c.toNat (by omega); refine ⟨k, hk, ?_⟩; rw [h_n1 eI27 ttb t_a0 (by decide), hx91_0 k (by omega), hv]; omega), (by have qr : (1 : Int32).toInt = 1 := (by decide); have q1_ : (I27 a0 1).toInt = v25.toInt := (congrArg Int32.toInt ((h_n2 eI27 (by decide)).trans (ev25.symm))).trans rfl; omega)⟩⟩, h_ret g ht⟩, hS.F ht⟩) hS.2.2 dX12_table_124
                    · have ic26 := (xi_nle c26 (by decide) rfl : v23.toInt < 8)
                      refine lv_aload_n hx hb dX12_table_97 rfl (lv_at hl 0 rfl) ?_
                      refine h_get (v := .ref tb) hx hb hts iX12 hown g t_a0 (by decide) so_13 rfl 32 (by decide) (hts (.fieldLink RX12 73 "CapLeagueModel" "table" "[I") (by decide +kernel)) rfl dX12_table_98 (by show va_rf (z.R a0 32) = _; rw [rtb]; rfl) ?_
                      refine lv_iload_n hx hb dX12_table_101 rfl (lv_at hl 1 rfl) ?_
                      refine lv_aload_n hx hb dX12_table_102 rfl (lv_at hl 0 rfl) ?_
                      refine h_get (v := .ref tp) hx hb hts iX12 hown g t_a0 (by decide) so_13 rfl 0 (by decide) (hts (.fieldLink RX12 7 "CapLeagueModel" "tape" "[B") (by decide +kernel)) rfl dX12_table_103 (by show va_rf (z.R a0 0) = _; rw [rtp]; rfl) ?_
                      refine lv_iload_n hx hb dX12_table_106 rfl (lv_at hl 1 rfl) ?_
                      refine h_bald hx hb g ttp (by decide) so_1300 (xi_in (by omega) (by omega)) dX12_table_107 ?_
                      refine lv_topi (fun v28 ev28 => ?_)
                      have jv28 := hI.rd tp v23.toNatClampNeg ttp ev28 (rfl : h_bd 1300 _ = ((-128), 127))
                      have ov28 : (I0 tp (v23.toInt).toNat).toInt = v28.toInt := by rw [ev28, hF.at ttp rfl]; rfl
                      have mv28 : 65 ≤ v28.toInt ∧ v28.toInt ≤ 72 := by have := hin (v23.toInt).toNat (by omega); omega
                      refine lv_bipush (v := 65) hx hb dX12_table_108 (by decide) ?_
                      refine lv_isub hx hb dX12_table_110 ?_
                      refine lv_topi (fun v29 ev29 => ?_)
                      have jv29 : v29.toInt = v28.toInt - 65 := xi_sub ev29 rfl (by decide) (by omega) (by omega)
                      refine h_ast hx hb g ttb (by decide) so_1332 (xi_in (by omega) (by omega)) dX12_table_111 (fun I30 H locs eI30 g => ?_)
                      have hI := hI.wr eI30 ttb (rfl : h_bd 1332 _ = (0, 7)) (by omega) (by omega)
                      have hF := hF.wr eI30 ttb rfl
                      obtain ⟨v31, ev31⟩ : ∃ z : Int32, z = v23 + 1 := ⟨_, rfl⟩
                      have jv31 : v31.toInt = v23.toInt + 1 := xi_add ev31 rfl (by decide) (by omega) (by omega)
                      refine lv_iinc (v := v31) (lv' := [(3, .int v31), (0, .ref a0)]) hx hb dX12_table_112 hl (k := 1) rfl (by rw [ev31]; rfl) (by decide) rfl (fun ls hl => ?_)
                      refine lv_goto (tgt := 91) hx hb dX12_table_115 (by decide) ?_
                      exact ih91 I30 _ _ _ v31 g hI hF (lv_sub hl [1, 0] rfl) (by omega) (h_F.wr (h_F.call (h_F.rf : h_F [(1332, 999)] z I5 I5) hL91 rfl) eI30 ttb rfl) (fun k hk => by
                          by_cases ek : (k : Int) = v23.toInt
                          · rw [← h_keq (k := k) (i := v23) rfl (by omega) ek, h_n0 eI30]
                            exact (show v29.toInt = _ from by rw [show (I0 tp v23.toNatClampNeg).toInt = v28.toInt from ov28]; omega)
                          · rw [h_n2 eI30 (h_kne (t := v23.toInt) rfl (by omega) ek)]
                            exact hx91_0 k (by omega)) (by rw [(h_n1 eI30 t_a0 ttb (by decide)).trans (ev25.symm)]; omega) (by omega)
                have kc32 : (0 : Int32).toInt = 0 := by decide
                exact loop91_2 _ I5 _ _ _ (0) g hI hF (lv_sub hl [1, 0] rfl) ⟨by decide, by decide⟩ (h_F.rf : h_F [(1332, 999)] z I5 I5) (fun k hk => absurd hk (by omega)) (by rw [ev6.symm]; omega) (show (8 - (0 : Int)) < (((8 - (0 : Int)).toNat + 1 : Nat) : Int) by omega)
              · have ic22 := (xi_ne c22 rfl (by decide) : v3.toInt ≠ 255)
                refine lv_iconst (v := (-1)) hx hb dX12_table_87 (by decide) ?_
                have hS := g.2.1
                exact W.iret (v := (-1)) hx hb hr (fun t ht hW => ⟨⟨(-1), I5, rfl, ⟨hI, hF, ⟨(by rw [atb]; intro h1 c h0 h7; rw [(h_F.at hL24 t_a0 rfl).trans (h_n2 eI1 (by decide))] at h1; obtain ⟨k, hk, hv⟩ := hJ2 h1 c h0 h7; exact ⟨k, hk, by rw [(h_F.at hL24 ttb rfl).trans (h_n1 eI1 ttb t_a0 (by decide))]; exact hv⟩), (by have qr : ((-1) : Int32).toInt = (-1) := (by decide); have q1_ : (I5 a0 1).toInt = v6.toInt := (congrArg Int32.toInt (ev6.symm)).trans rfl; omega)⟩⟩, h_ret g ht⟩, hS.F ht⟩) hS.2.2 dX12_table_88
          · have ic20 := (xi_eq c20 rfl (by decide) : f0_1.toInt = 8)
            refine lv_aload_n hx hb dX12_table_35 rfl (lv_at hl 0 rfl) ?_
            refine h_get (v := .ref tp) hx hb hts iX12 hown g t_a0 (by decide) so_13 rfl 0 (by decide) (hts (.fieldLink RX12 7 "CapLeagueModel" "tape" "[B") (by decide +kernel)) rfl dX12_table_36 (by show va_rf (z.R a0 0) = _; rw [rtp]; rfl) ?_
            refine lv_iload_n hx hb dX12_table_39 rfl (lv_at hl 3 rfl) ?_
            refine h_bald hx hb g ttp (by decide) so_1300 (xi_in (by omega) (by omega)) dX12_table_40 ?_
            refine lv_topi (fun v33 ev33 => ?_)
            have jv33 := hI.rd tp v4.toNatClampNeg ttp ev33 (rfl : h_bd 1300 _ = ((-128), 127))
            have ov33 : (I0 tp (v4.toInt).toNat).toInt = v33.toInt := by rw [ev33, hF.at ttp rfl]; rfl
            refine lv_i2l hx hb dX12_table_41 rfl ?_
            refine lv_topl (fun v34 ev34 => ?_)
            have jv34 : v34.toInt = v33.toInt := by rw [ev34, xi_64]
            refine lv_ldc2 (v := 65) hx hb hown (hts (.constantLong RX12 302 (65)) (by decide +kernel)) dX12_table_42 ?_
            refine lv_ldc2 (v := 72) hx hb hown (hts (.constantLong RX12 304 (72)) (by decide +kernel)) dX12_table_45 ?_
            refine vp_callSi (W.runS (As := [.long v34, .long 65, .long 72]) (rest := []) ⟨hx, hb, hml, hown, hts⟩ (tX12_in l E X A z I5 L0 v34 (v33.toInt) jv34 65 (65) (by decide) 72 (72) (by decide)) (va_cwS 3 hts gX12_table_X12_in rfl rfl rfl (by decide +kernel) ⟨Nat.le_of_ble_eq_true rfl, Nat.le_of_ble_eq_true rfl⟩) ⟨h_blind _ _ _ _ _ _ _, h_pre _ hE hk hX hA hI hR g⟩ rfl rfl hl.1 rfl (lv_room (Nat.le_of_ble_eq_true rfl)) dX12_table_48 ⟨Nat.le_of_ble_eq_true rfl, Nat.le_of_ble_eq_true rfl⟩) (fun rh35 h35 => ?_)
            rcases h35 with ⟨rfl, h35⟩ | ⟨rfl, h35⟩
            · skip
              refine lv_if_eq (tgt := 68) hx hb dX12_table_51 (by decide) (fun _ => ?_) (fun h => absurd (by decide) h)
              obtain ⟨v37, ev37⟩ : ∃ z : Int32, z = v4 + 1 := ⟨_, rfl⟩
              have jv37 : v37.toInt = v4.toInt + 1 := xi_add ev37 rfl (by decide) (by omega) (by omega)
              refine lv_iinc (v := v37) (lv' := [(3, .int v37), (0, .ref a0), (1, .int f0_1), (2, .int v3)]) hx hb dX12_table_68 hl (k := 3) rfl (by rw [ev37]; rfl) (by decide) rfl (fun ls hl => ?_)
              refine lv_goto (tgt := 24) hx hb dX12_table_71 (by decide) ?_
              exact ih24 I5 _ _ _ v3 v37 g hI hF (lv_sub hl [1, 2, 3, 0] rfl) (by omega) (by omega) (h_F.call (h_F.rf : h_F [] z I1 I1) hL24 rfl) (by rw [show v37.toInt = v4.toInt + 1 from by omega]; exact hx24_0.skip) (by rw [ev6.symm]; omega) (by omega)
            · skip
              refine lv_if_eq (tgt := 68) hx hb dX12_table_51 (by decide) (fun h => absurd h (by decide)) (fun _ => ?_)
              refine lv_iload_n hx hb dX12_table_54 rfl (lv_at hl 2 rfl) ?_
              refine lv_iconst (v := 1) hx hb dX12_table_55 (by decide) ?_
              refine lv_aload_n hx hb dX12_table_56 rfl (lv_at hl 0 rfl) ?_
              refine h_get (v := .ref tp) hx hb hts iX12 hown g t_a0 (by decide) so_13 rfl 0 (by decide) (hts (.fieldLink RX12 7 "CapLeagueModel" "tape" "[B") (by decide +kernel)) rfl dX12_table_57 (by show va_rf (z.R a0 0) = _; rw [rtp]; rfl) ?_
              refine lv_iload_n hx hb dX12_table_60 rfl (lv_at hl 3 rfl) ?_
              refine h_bald hx hb g ttp (by decide) so_1300 (xi_in (by omega) (by omega)) dX12_table_61 ?_
              refine xw_i (ev33.symm) ?_
              refine lv_bipush (v := 65) hx hb dX12_table_62 (by decide) ?_
              refine lv_isub hx hb dX12_table_64 ?_
              refine lv_topi (fun v39 ev39 => ?_)
              have jv39 : v39.toInt = v33.toInt - 65 := xi_sub ev39 rfl (by decide) (by omega) (by omega)
              refine lv_ishl hx hb dX12_table_65 ?_
              refine lv_topi (fun v40 ev40 => ?_)
              refine lv_ior hx hb dX12_table_66 ?_
              refine lv_topi (fun v41 ev41 => ?_)
              have tv41 := h_orb (by omega) (by omega) (by omega) (by omega) ev40 ev41
              have jv41 : 0 ≤ v41.toInt ∧ v41.toInt ≤ 255 := ⟨tv41.1, tv41.2.1⟩
              refine lv_istore_n (lv' := [(2, .int v41), (0, .ref a0), (1, .int f0_1), (3, .int v4)]) hx hb dX12_table_67 rfl hl (by decide) rfl (fun ls hl => ?_)
              obtain ⟨v42, ev42⟩ : ∃ z : Int32, z = v4 + 1 := ⟨_, rfl⟩
              have jv42 : v42.toInt = v4.toInt + 1 := xi_add ev42 rfl (by decide) (by omega) (by omega)
              refine lv_iinc (v := v42) (lv' := [(3, .int v42), (2, .int v41), (0, .ref a0), (1, .int f0_1)]) hx hb dX12_table_68 hl (k := 3) rfl (by rw [ev42]; rfl) (by decide) rfl (fun ls hl => ?_)
              refine lv_goto (tgt := 24) hx hb dX12_table_71 (by decide) ?_
              exact ih24 I5 _ _ _ v41 v42 g hI hF (lv_sub hl [2, 3, 1, 0] rfl) (by omega) (by omega) (h_F.call (h_F.rf : h_F [] z I1 I1) hL24 rfl) (by rw [show v42.toInt = v4.toInt + 1 from by omega]; exact h_tbI.push hx24_0 (by omega) (by omega) (by omega) (by omega) (show _ = v33.toInt from ov33) (by omega) (by omega) (by rw [show v33.toInt - 65 = v39.toInt from by omega]; exact tv41.2.2)) (by rw [ev6.symm]; omega) (by omega)
    have kc43 : (0 : Int32).toInt = 0 := by decide
    have kc44 : (0 : Int32).toInt = 0 := by decide
    exact loop24_0 _ I1 _ _ _ (0) (0) g hI hF (lv_sub hl [3, 2, 1, 0] rfl) ⟨by decide, by decide⟩ ⟨by decide, by decide⟩ (h_F.rf : h_F [] z I1 I1) (by rw [show ((0 : Int32).toInt) = 0 by decide]; exact h_tbI.zero _) (by rw [h_n0 eI1]; decide) (show (8 - (0 : Int)) < (((8 - (0 : Int)).toNat + 1 : Nat) : Int) by omega)
  · have ic2 := (xi_ne c2 rfl (by decide) : f0_31.toInt ≠ 0)
    refine lv_bipush (v := (-4)) hx hb dX12_table_17 (by decide) ?_
    have hS := g.2.1
    exact W.iret (v := (-4)) hx hb hr (fun t ht hW => ⟨⟨(-4), I1, rfl, ⟨hI, hF, ⟨(by rw [atb]; intro h1 c h0 h7; rw [h_n2 eI1 (by decide)] at h1; obtain ⟨k, hk, hv⟩ := hJ2 h1 c h0 h7; exact ⟨k, hk, by rw [h_n1 eI1 ttb t_a0 (by decide)]; exact hv⟩), (by have qr : ((-4) : Int32).toInt = (-4) := (by decide); have q1_ : (I1 a0 1).toInt = 0 := (congrArg Int32.toInt (h_n0 eI1)).trans (by decide); omega)⟩⟩, h_ret g ht⟩, hS.F ht⟩) hS.2.2 dX12_table_19
set_option maxHeartbeats 4000000 in
set_option maxRecDepth 100000 in
theorem zX11_lawsF (l : Launch) (E : tE) (X : tX) (A : Nat → Prop) (z0 : tZ) (J0 : tI) (K0 : tL) (a0 : Nat) (t_a0 : z0.ty a0 = 12) (y : Int32) (y_t : Int) (h_y : y.toInt = y_t) : Met l yX11_laws wsX11_laws ({ frames := 9, cells := 3, slots := 17, locals := 576 }) (va_Pc [.ref a0, .int y] (h_P E X A z0 J0 K0)) (va_Qi (fun r (q1 : tZ × tI × tL) => h_I q1.1 q1.2.1 ∧ h_R q1.1 ∧ h_X [(5, 4), (5, 5), (5, 6), (5, 7), (5, 2), (5, 3), (600, 999), (601, 999), (6, 2), (5, 8), (9, 1)] [401] none z0 J0 K0 q1.1 q1.2.1 q1.2.2 ∧ ((q1.2.1 (h_ad z0 a0 0) 1).toInt = 0)) (fun (q1 : tZ × tI × tL) t => h_B E A q1.1 q1.2.1 q1.2.2 t) A) 3 17 A := by
  refine Met.ofW (cc := cX11_laws) (maxL := 3) (ret := (some .int)) (by decide) rfl ?_
  intro pr_ ev_ s m args below meth cd_ s₁ B hml hv
  obtain ⟨rfl, hE, hk, hX, hA, hK, hI, hR, hB0⟩ := hv
  obtain ⟨z, ez0⟩ : ∃ z : tZ, z = z0 := ⟨_, rfl⟩
  obtain ⟨I0, eJ0⟩ : ∃ I0 : tI, I0 = J0 := ⟨_, rfl⟩
  obtain ⟨L0, eK0⟩ : ∃ L0 : tL, L0 = K0 := ⟨_, rfl⟩
  rw [← ez0, ← eJ0] at hI
  rw [← ez0] at hR t_a0
  rw [← ez0, ← eJ0, ← eK0] at hB0
  have g : h_G h_so h_fk E A z I0 L0 s s.heap s.heap [] := ⟨hK, va_S.rf, hB0⟩
  have hF : h_F [(5, 4), (5, 5), (5, 6), (5, 7), (5, 2), (5, 3), (600, 999), (601, 999), (6, 2), (5, 8), (9, 1)] z I0 I0 := h_F.rf
  have hx := B.exec
  have hb := B.bytes
  have hr := B.returns
  have hts := atoms_spec (ws := wsX11_laws) B.pre
  have hown : s.vm.findClass RX11 = some m.cls := findClass_of_methodNamed B.named
  have hlocks := B.notSynchronized
  have iX11 : ∀ w ∈ u_ws RX11 TX11 8, w ∈ wsX11_laws := by decide +kernel
  have iX4 : ∀ w ∈ u_ws RX4 TX4 9, w ∈ wsX11_laws := by decide +kernel
  have iX8 : ∀ w ∈ u_ws RX8 TX8 2, w ∈ wsX11_laws := by decide +kernel
  have hl := lv_entry ([.ref a0, .int y]) (n := 3) (Nat.le_of_ble_eq_true rfl)
  rw [lg_entry_eq]
  generalize (lg_sl ([.ref a0, .int y]) ++ List.replicate (3 - (lg_sl ([.ref a0, .int y])).length) Slot.unset).toArray = ls at hl ⊢
  have hl : lv_has ls 3 [(0, .ref a0), (1, .int y)] := hl
  have b_y : -2147483648 ≤ y_t ∧ y_t ≤ 2147483647 := h_y ▸ ⟨xi_lo y, Int.le_of_lt_add_one (xi_hi y)⟩
  have hZ : h_X [(5, 4), (5, 5), (5, 6), (5, 7), (5, 2), (5, 3), (600, 999), (601, 999), (6, 2), (5, 8), (9, 1)] [401] none z0 J0 K0 z I0 L0 := by rw [ez0, eJ0, eK0]; exact h_X.rf
  obtain ⟨tp, rtp, ttp⟩ := hR.at a0 0 t_a0 (rfl : h_rs 12 0 = some (9, false)) (by decide)
  have atp : h_ad z0 a0 0 = tp := by rw [← ez0]; exact h_ad.at rtp
  refine lv_aload_n hx hb dX11_laws_0 rfl (lv_at hl 0 rfl) ?_
  obtain ⟨b1, rb1, tb1⟩ := hR.at a0 3 t_a0 (rfl : h_rs 12 3 = some (1, false)) (by decide)
  refine h_get (v := .ref b1) hx hb hts iX11 hown g t_a0 (by decide) so_12 rfl 3 (by decide) (hts (.fieldLink RX11 37 "CapLeague" "books" "LCapLeague$Books;") (by decide +kernel)) rfl dX11_laws_1 (by show va_rf (z.R a0 3) = _; rw [rb1]; rfl) ?_
  refine lv_iload_n hx hb dX11_laws_4 rfl (lv_at hl 1 rfl) ?_
  refine vp_callSi (W.runV (As := [.int y]) (rest := []) ⟨hx, hb, hml, hown, hts⟩ (tX0_isNowOrLater l E X A z I0 L0 b1 tb1 y (y_t) h_y) (cwV 1 hts gX11_laws_X0_isNowOrLater rfl rfl rfl (by decide +kernel) ⟨Nat.le_of_ble_eq_true rfl, Nat.le_of_ble_eq_true rfl⟩) ⟨h_blind _ _ _ _ _ _ _, h_recv g tb1 (by decide) so_1 (q := (RX0, TX0, 9)) rfl, h_pre _ hE hk hX hA hI hR g⟩ rfl rfl hl.1 rfl (lv_room (Nat.le_of_ble_eq_true rfl)) dX11_laws_5 ⟨Nat.le_of_ble_eq_true rfl, Nat.le_of_ble_eq_true rfl⟩) (fun rh2 h2 => ?_)
  rcases h2 with ⟨rfl, h2⟩ | ⟨rfl, h2⟩
  · skip
    refine lv_if_eq (tgt := 21) hx hb dX11_laws_8 (by decide) (fun _ => ?_) (fun h => absurd (by decide) h)
    refine lv_bipush (v := (-2)) hx hb dX11_laws_21 (by decide) ?_
    refine lv_istore_n (lv' := [(2, .int (-2)), (0, .ref a0), (1, .int y)]) hx hb dX11_laws_23 rfl hl (by decide) rfl (fun ls hl => ?_)
    refine lv_iload_n hx hb dX11_laws_24 rfl (lv_at hl 0 rfl) ?_
    refine lv_if_lt (tgt := 43) hx hb dX11_laws_25 (by decide) (fun _ => ?_) (fun h => absurd (by decide) h)
    refine lv_aload_n hx hb dX11_laws_43 rfl (lv_at hl 1 rfl) ?_
    refine h_get (v := .ref tp) hx hb hts iX11 hown g t_a0 (by decide) so_12 rfl 0 (by decide) (hts (.fieldLink RX11 10 "CapLeague" "tape" "LCapLeague$Tape;") (by decide +kernel)) rfl dX11_laws_44 (by show va_rf (z.R a0 0) = _; rw [rtp]; rfl) ?_
    refine lv_iconst (v := 0) hx hb dX11_laws_47 (by decide) ?_
    refine h_putI (ty := .int) (v := 0) hx hb hts iX8 tyX8 tyX8_ok nmX8 hown g ttp (by decide) so_9 rfl 1 (by decide) rfl (hts (.fieldLink RX11 81 "CapLeague$Tape" "size" "I") (by decide +kernel)) rfl rfl (by decide +kernel) rfl rfl dX11_laws_48 (fun I5 H locs eI5 g => ?_)
    have hI := hI.wr eI5 ttp (rfl : h_bd 9 1 = (0, 500)) (by decide) (by decide)
    have hF := hF.wr eI5 ttp rfl
    refine lv_iload_n hx hb dX11_laws_51 rfl (lv_at hl 0 rfl) ?_
    refine W.widen (k := 3) (n := 17) (by decide) (by decide) ?_
    have hZ := hZ.tcall hF rfl
    have hS := g.2.1
    exact W.iret (v := (-2)) hx hb hr (fun t ht hW => ⟨⟨(-2), (z, I5, L0), rfl, ⟨hI, hR, hZ, (by show (I5 (h_ad z0 a0 0) 1).toInt = 0; rw [atp, h_n0 eI5]; decide)⟩, h_ret g ht⟩, hS.F ht⟩) hS.2.2 dX11_laws_52
  · skip
    refine lv_if_eq (tgt := 21) hx hb dX11_laws_8 (by decide) (fun h => absurd h (by decide)) (fun _ => ?_)
    refine lv_aload_n hx hb dX11_laws_11 rfl (lv_at hl 0 rfl) ?_
    obtain ⟨b7, rb7, tb7⟩ := hR.at a0 2 t_a0 (rfl : h_rs 12 2 = some (5, false)) (by decide)
    refine h_get (v := .ref b7) hx hb hts iX11 hown g t_a0 (by decide) so_12 rfl 2 (by decide) (hts (.fieldLink RX11 28 "CapLeague" "reader" "LCapLeague$LawReader;") (by decide +kernel)) rfl dX11_laws_12 (by show va_rf (z.R a0 2) = _; rw [rb7]; rfl) ?_
    refine va_calli (va_runV (As := []) (rest := []) ⟨hx, hb, hml, hown, hts⟩ (tX4_readText l E X A z I0 L0 b7 tb7) (cwV 0 hts gX11_laws_X4_readText rfl rfl rfl (by decide +kernel) ⟨Nat.le_of_ble_eq_true rfl, Nat.le_of_ble_eq_true rfl⟩) ⟨h_blind _ _ _ _ _ _ _, h_recv g tb7 (by decide) so_5 (q := (RX4, TX4, 9)) rfl, h_pre _ hE hk hX hA hI hR g⟩ rfl rfl hl.1 rfl (lv_room (Nat.le_of_ble_eq_true rfl)) dX11_laws_15 ⟨Nat.le_of_ble_eq_true rfl, Nat.le_of_ble_eq_true rfl⟩) g.2.1 (fun q _ h => h) (fun q h => h) (fun rh8 I9 t H1 locs ht hvm h8 hB hz1 hk1 hS => ?_)
    obtain ⟨hI, fh8, h8⟩ := h8
    replace g := h_after g hB ht hS
    generalize H1 = H at g
    clear hB hk1 hz1 ht hvm hS
    have hF := hF.call fh8 rfl
    refine lv_goto (tgt := 23) hx hb dX11_laws_18 (by decide) ?_
    refine lv_istore_n (lv' := [(2, .int rh8), (0, .ref a0), (1, .int y)]) hx hb dX11_laws_23 rfl hl (by decide) rfl (fun ls hl => ?_)
    refine lv_iload_n hx hb dX11_laws_24 rfl (lv_at hl 0 rfl) ?_
    refine lv_if_lt (tgt := 43) hx hb dX11_laws_25 (by decide) (fun c10 => ?_) (fun c10 => ?_)
    · have ic10 := (xi_lt c10 rfl (by decide) : rh8.toInt < 0)
      refine lv_aload_n hx hb dX11_laws_43 rfl (lv_at hl 1 rfl) ?_
      refine h_get (v := .ref tp) hx hb hts iX11 hown g t_a0 (by decide) so_12 rfl 0 (by decide) (hts (.fieldLink RX11 10 "CapLeague" "tape" "LCapLeague$Tape;") (by decide +kernel)) rfl dX11_laws_44 (by show va_rf (z.R a0 0) = _; rw [rtp]; rfl) ?_
      refine lv_iconst (v := 0) hx hb dX11_laws_47 (by decide) ?_
      refine h_putI (ty := .int) (v := 0) hx hb hts iX8 tyX8 tyX8_ok nmX8 hown g ttp (by decide) so_9 rfl 1 (by decide) rfl (hts (.fieldLink RX11 81 "CapLeague$Tape" "size" "I") (by decide +kernel)) rfl rfl (by decide +kernel) rfl rfl dX11_laws_48 (fun I11 H locs eI11 g => ?_)
      have hI := hI.wr eI11 ttp (rfl : h_bd 9 1 = (0, 500)) (by decide) (by decide)
      have hF := hF.wr eI11 ttp rfl
      refine lv_iload_n hx hb dX11_laws_51 rfl (lv_at hl 0 rfl) ?_
      refine W.widen (k := 3) (n := 17) (by decide) (by decide) ?_
      have hZ := hZ.tcall hF rfl
      have hS := g.2.1
      exact W.iret (v := rh8) hx hb hr (fun t ht hW => ⟨⟨rh8, (z, I11, L0), rfl, ⟨hI, hR, hZ, (by show (I11 (h_ad z0 a0 0) 1).toInt = 0; rw [atp, h_n0 eI11]; decide)⟩, h_ret g ht⟩, hS.F ht⟩) hS.2.2 dX11_laws_52
    · have ic10 := (xi_nlt c10 rfl (by decide) : 0 ≤ rh8.toInt)
      refine lv_aload_n hx hb dX11_laws_28 rfl (lv_at hl 1 rfl) ?_
      obtain ⟨b12, rb12, tb12⟩ := hR.at a0 1 t_a0 (rfl : h_rs 12 1 = some (4, false)) (by decide)
      refine h_get (v := .ref b12) hx hb hts iX11 hown g t_a0 (by decide) so_12 rfl 1 (by decide) (hts (.fieldLink RX11 19 "CapLeague" "lawBook" "LCapLeague$LawBook;") (by decide +kernel)) rfl dX11_laws_29 (by show va_rf (z.R a0 1) = _; rw [rb12]; rfl) ?_
      refine lv_iload_n hx hb dX11_laws_32 rfl (lv_at hl 2 rfl) ?_
      refine lv_aload_n hx hb dX11_laws_33 rfl (lv_at hl 1 rfl) ?_
      refine h_get (v := .ref b7) hx hb hts iX11 hown g t_a0 (by decide) so_12 rfl 2 (by decide) (hts (.fieldLink RX11 28 "CapLeague" "reader" "LCapLeague$LawReader;") (by decide +kernel)) rfl dX11_laws_34 (by show va_rf (z.R a0 2) = _; rw [rb7]; rfl) ?_
      obtain ⟨b13, rb13, tb13⟩ := hR.at b7 1 tb7 (rfl : h_rs 5 1 = some (6, false)) (by decide)
      refine h_get (v := .ref b13) hx hb hts iX4 hown g tb7 (by decide) so_5 rfl 1 (by decide) (hts (.fieldLink RX11 93 "CapLeague$LawReader" "read" "LCapLeague$Laws;") (by decide +kernel)) rfl dX11_laws_37 (by show va_rf (z.R b7 1) = _; rw [rb13]; rfl) ?_
      have hZ := hZ.tcall hF rfl
      refine va_callv (va_runV (As := [.int y, .ref b13]) (rest := []) ⟨hx, hb, hml, hown, hts⟩ (zX3_tell l E X A z I9 L0 b12 tb12 y (y_t) h_y b13 tb13) (cwV 2 hts gX11_laws_X3_tell rfl rfl rfl (by decide +kernel) ⟨Nat.le_of_ble_eq_true rfl, Nat.le_of_ble_eq_true rfl⟩) ⟨h_blind _ _ _ _ _ _ _, h_recv g tb12 (by decide) so_4 (q := (RX3, TX3, 2)) rfl, h_pre _ hE hk hX hA hI hR g⟩ rfl rfl hl.1 rfl (lv_room (Nat.le_of_ble_eq_true rfl)) dX11_laws_40 ⟨Nat.le_of_ble_eq_true rfl, Nat.le_of_ble_eq_true rfl⟩) g.2.1 (fun q _ h => h) (fun q h => h) (fun u t H1 locs ht hvm h14 hB hz1 hk1 hS => ?_)
      obtain ⟨z, I0, L15⟩ := u
      obtain ⟨hI, hR, xh14, h14⟩ := h14
      have hI : h_I z I0 := hI
      have hR : h_R z := hR
      have hB : h_B E A z I0 L15 t := hB
      have xh14 : h_X [(600, 999), (601, 999), (6, 2)] [401] none _ _ _ z I0 L15 := xh14
      have hZ := hZ.call xh14 rfl (fun t h9 => h9) (fun b hb => by cases hb)
      have rtp := xh14.R t_a0 (by decide) (fun h9 => by cases h9) rfl rtp
      have rb1 := xh14.R t_a0 (by decide) (fun h9 => by cases h9) rfl rb1
      have rb7 := xh14.R t_a0 (by decide) (fun h9 => by cases h9) rfl rb7
      have rb12 := xh14.R t_a0 (by decide) (fun h9 => by cases h9) rfl rb12
      have rb13 := xh14.R tb7 (by decide) (fun h9 => by cases h9) rfl rb13
      have t_a0 := xh14.ty t_a0 (by decide) (fun h9 => by cases h9)
      have ttp := xh14.ty ttp (by decide) (fun h9 => by cases h9)
      have tb1 := xh14.ty tb1 (by decide) (fun h9 => by cases h9)
      have tb7 := xh14.ty tb7 (by decide) (fun h9 => by cases h9)
      have tb12 := xh14.ty tb12 (by decide) (fun h9 => by cases h9)
      have tb13 := xh14.ty tb13 (by decide) (fun h9 => by cases h9)
      replace g := h_after g hB ht hS
      generalize H1 = H at g
      clear hB hk1 hz1 ht hvm hS
      have hF : h_F [(5, 4), (5, 5), (5, 6), (5, 7), (5, 2), (5, 3), (600, 999), (601, 999), (6, 2), (5, 8), (9, 1)] z I0 I0 := h_F.rf
      refine W.cs (cells' := 3) (slots' := 17) rfl rfl ?_
      refine lv_aload_n hx hb dX11_laws_43 rfl (lv_at hl 1 rfl) ?_
      refine h_get (v := .ref tp) hx hb hts iX11 hown g t_a0 (by decide) so_12 rfl 0 (by decide) (hts (.fieldLink RX11 10 "CapLeague" "tape" "LCapLeague$Tape;") (by decide +kernel)) rfl dX11_laws_44 (by show va_rf (z.R a0 0) = _; rw [rtp]; rfl) ?_
      refine lv_iconst (v := 0) hx hb dX11_laws_47 (by decide) ?_
      refine h_putI (ty := .int) (v := 0) hx hb hts iX8 tyX8 tyX8_ok nmX8 hown g ttp (by decide) so_9 rfl 1 (by decide) rfl (hts (.fieldLink RX11 81 "CapLeague$Tape" "size" "I") (by decide +kernel)) rfl rfl (by decide +kernel) rfl rfl dX11_laws_48 (fun I16 H locs eI16 g => ?_)
      have hI := hI.wr eI16 ttp (rfl : h_bd 9 1 = (0, 500)) (by decide) (by decide)
      have hF := hF.wr eI16 ttp rfl
      refine lv_iload_n hx hb dX11_laws_51 rfl (lv_at hl 0 rfl) ?_
      have hZ := hZ.tcall hF rfl
      have hS := g.2.1
      exact W.iret (v := rh8) hx hb hr (fun t ht hW => ⟨⟨rh8, (z, I16, L15), rfl, ⟨hI, hR, hZ, (by show (I16 (h_ad z0 a0 0) 1).toInt = 0; rw [atp, h_n0 eI16]; decide)⟩, h_ret g ht⟩, hS.F ht⟩) hS.2.2 dX11_laws_52
