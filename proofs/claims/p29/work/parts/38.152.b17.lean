set_option maxHeartbeats 4000000 in
set_option maxRecDepth 100000 in
theorem tX12_isMovedB (l : Launch) (E : tE) (X : tX) (A : Nat → Prop) (z : tZ) (I0 : tI) (L0 : tL) (a0 : Nat) (t_a0 : z.ty a0 = 13) (x : Int32) (x_t : Int) (h_x : x.toInt = x_t) : Met l yX12_isMoved wsX12_isMoved ({ frames := 1, cells := 0, slots := 0, locals := 64 }) (va_Pc [.ref a0, .int x] (h_P E X A z I0 L0)) (vp_Si (fun r => (0 ≤ r.toInt ∧ r.toInt ≤ 1) ∧ ((r.toInt = 1 ∧ (m_has I0 (h_ad z a0 34) (I0 a0 33).toInt (x_t))) ∨ (r.toInt = 0 ∧ ¬ (m_has I0 (h_ad z a0 34) (I0 a0 33).toInt (x_t)))))) 0 0 (fun _ => False) := by
  refine Met.ofW (cc := cX12_isMoved) (maxL := 3) (ret := (some .boolean)) (by decide) rfl ?_
  intro pr_ ev_ s m args below meth cd_ s₁ B hml hv
  obtain ⟨rfl, hE, hk, hX, hA, hK, hI, hR, hB0⟩ := hv
  have g : h_G h_so h_fk E A z I0 L0 s s.heap s.heap [] := ⟨hK, va_S.rf, hB0⟩
  have hx := B.exec
  have hb := B.bytes
  have hr := B.returns
  have hts := atoms_spec (ws := wsX12_isMoved) B.pre
  have hown : s.vm.findClass RX12 = some m.cls := findClass_of_methodNamed B.named
  have hlocks := B.notSynchronized
  have iX12 : ∀ w ∈ u_ws RX12 TX12 51, w ∈ wsX12_isMoved := by decide +kernel
  have hl := lv_entry ([.ref a0, .int x]) (n := 3) (Nat.le_of_ble_eq_true rfl)
  rw [lg_entry_eq]
  generalize (lg_sl ([.ref a0, .int x]) ++ List.replicate (3 - (lg_sl ([.ref a0, .int x])).length) Slot.unset).toArray = ls at hl ⊢
  have hl : lv_has ls 3 [(0, .ref a0), (1, .int x)] := hl
  have b_x : -2147483648 ≤ x_t ∧ x_t ≤ 2147483647 := h_x ▸ ⟨xi_lo x, Int.le_of_lt_add_one (xi_hi x)⟩
  obtain ⟨md, rmd, tmd⟩ := hR.at a0 34 t_a0 (rfl : h_rs 13 34 = some (1334, false)) (by decide)
  have amd : h_ad z a0 34 = md := h_ad.at rmd
  obtain ⟨f0_33, ef0_33⟩ : ∃ v : Int32, v = I0 a0 33 := ⟨_, rfl⟩
  have qf0_33 : (I0 a0 33).toInt = f0_33.toInt := congrArg Int32.toInt ef0_33.symm
  have jf0_33 := hI.rd a0 33 t_a0 ef0_33 (rfl : h_bd 13 33 = (0, 12))
  refine lv_iconst (v := 0) hx hb dX12_isMoved_0 (by decide) ?_
  refine lv_istore_n (lv' := [(2, .int 0), (0, .ref a0), (1, .int x)]) hx hb dX12_isMoved_1 rfl hl (by decide) rfl (fun ls hl => ?_)
  have loop2_0 : ∀ (n : Nat) (ls : Array Slot) (v1 : Int32), lv_has ls 3 [(0, .ref a0), (1, .int x), (2, .int v1)] → (0 ≤ v1.toInt ∧ v1.toInt ≤ 12) → (∀ i : Nat, (i : Int) < v1.toInt → ¬ (I0 md i).toInt = x_t) → (12 - v1.toInt) < (n : Int) → W pr_ l ev_ (headSpec wsX12_isMoved ({ frames := 1, cells := 0, slots := 0, locals := 64 })).room s m ([.ref a0, .int x] : List Value).toArray below meth cd_ s.heap [] 0 0 (MQ below (vp_Si (fun r => (0 ≤ r.toInt ∧ r.toInt ≤ 1) ∧ ((r.toInt = 1 ∧ (m_has I0 (h_ad z a0 34) (I0 a0 33).toInt (x_t))) ∨ (r.toInt = 0 ∧ ¬ (m_has I0 (h_ad z a0 34) (I0 a0 33).toInt (x_t)))))) ([.ref a0, .int x] : List Value).toArray s 0 0 (fun _ => False)) (F0 m 2 ls []) := by
    intro n
    induction n with
    | zero => intro ls v1 hl jv1 hx2_0 hn; exact absurd hn (by omega)
    | succ n ih2 =>
      intro ls v1 hl jv1 hx2_0 hn
      have kv : v1.toNatClampNeg = v1.toInt.toNat := h_keq rfl (by omega) (by omega)
      refine lv_iload_n hx hb dX12_isMoved_2 rfl (lv_at hl 2 rfl) ?_
      refine lv_aload_n hx hb dX12_isMoved_3 rfl (lv_at hl 0 rfl) ?_
      refine h_get (v := .int f0_33) hx hb hts iX12 hown g t_a0 (by decide) so_13 rfl 33 (by decide) (hts (.fieldLink RX12 247 "CapLeagueModel" "moves" "I") (by decide +kernel)) rfl dX12_isMoved_4 (congrArg Value.int (ef0_33.symm)) ?_
      refine lv_icmp_ge (tgt := 28) hx hb dX12_isMoved_7 (by decide) (fun c2 => ?_) (fun c2 => ?_)
      · have ic2 := (xi_le c2 rfl rfl : f0_33.toInt ≤ v1.toInt)
        refine lv_iconst (v := 0) hx hb dX12_isMoved_28 (by decide) ?_
        exact W.zret (v := 0) hx hb hr (by decide) (fun t ht hW => ⟨0, rfl, ⟨⟨(by decide), (by decide)⟩, (by rw [amd, ← ef0_33]; unfold m_has; have z9 : (0 : Int32).toInt = 0 := (by decide); exact Or.inr ⟨z9, fun q => by obtain ⟨i, h1, h2⟩ := q; exact hx2_0 i (by omega) h2⟩)⟩, ht⟩) (fun _ h => by cases h) dX12_isMoved_29
      · have ic2 := (xi_nle c2 rfl rfl : v1.toInt < f0_33.toInt)
        refine lv_aload_n hx hb dX12_isMoved_10 rfl (lv_at hl 0 rfl) ?_
        refine h_get (v := .ref md) hx hb hts iX12 hown g t_a0 (by decide) so_13 rfl 34 (by decide) (hts (.fieldLink RX12 76 "CapLeagueModel" "moved" "[I") (by decide +kernel)) rfl dX12_isMoved_11 (by show va_rf (z.R a0 34) = _; rw [rmd]; rfl) ?_
        refine lv_iload_n hx hb dX12_isMoved_14 rfl (lv_at hl 2 rfl) ?_
        refine h_ald hx hb g tmd (by decide) so_1334 (xi_in (by omega) (by omega)) dX12_isMoved_15 ?_
        refine lv_topi (fun v3 ev3 => ?_)
        have jv3 := hI.rd md v1.toNatClampNeg tmd ev3 (rfl : h_bd 1334 _ = (0, 139))
        refine lv_iload_n hx hb dX12_isMoved_16 rfl (lv_at hl 1 rfl) ?_
        refine lv_icmp_ne (tgt := 22) hx hb dX12_isMoved_17 (by decide) (fun c4 => ?_) (fun c4 => ?_)
        · have ic4 := (xi_ne c4 rfl h_x : v3.toInt ≠ x_t)
          obtain ⟨v5, ev5⟩ : ∃ z : Int32, z = v1 + 1 := ⟨_, rfl⟩
          have jv5 : v5.toInt = v1.toInt + 1 := xi_add ev5 rfl (by decide) (by omega) (by omega)
          refine lv_iinc (v := v5) (lv' := [(2, .int v5), (0, .ref a0), (1, .int x)]) hx hb dX12_isMoved_22 hl (k := 2) rfl (by rw [ev5]; rfl) (by decide) rfl (fun ls hl => ?_)
          refine lv_goto (tgt := 2) hx hb dX12_isMoved_25 (by decide) ?_
          exact ih2 _ v5 (lv_sub hl [1, 2, 0] rfl) (by omega) (q_nomore hx2_0 (by omega) (fun q => absurd q (by rw [← kv, ev3.symm]; omega)) (by omega)) (by omega)
        · have ic4 := (xi_eq c4 rfl h_x : v3.toInt = x_t)
          refine lv_iconst (v := 1) hx hb dX12_isMoved_20 (by decide) ?_
          exact W.zret (v := 1) hx hb hr (by decide) (fun t ht hW => ⟨1, rfl, ⟨⟨(by decide), (by decide)⟩, (by rw [amd, ← ef0_33]; unfold m_has; have z9 : (1 : Int32).toInt = 1 := (by decide); exact Or.inl ⟨z9, v1.toInt.toNat, by omega, by rw [← kv, ev3.symm]; omega⟩)⟩, ht⟩) (fun _ h => by cases h) dX12_isMoved_21
  have kc6 : (0 : Int32).toInt = 0 := by decide
  exact loop2_0 _ _ (0) (lv_sub hl [1, 2, 0] rfl) ⟨by decide, by decide⟩ (fun i hi => absurd hi (by omega)) (show (12 - (0 : Int)) < (((12 - (0 : Int)).toNat + 1 : Nat) : Int) by omega)
set_option maxHeartbeats 4000000 in
set_option maxRecDepth 100000 in
theorem tX12_clubsOfB (l : Launch) (E : tE) (X : tX) (A : Nat → Prop) (z : tZ) (I0 : tI) (L0 : tL) (a0 : Nat) (t_a0 : z.ty a0 = 13) : Met l yX12_clubsOf wsX12_clubsOf ({ frames := 1, cells := 0, slots := 0, locals := 64 }) (va_Pc [.ref a0] (h_P E X A z I0 L0)) (vp_Si (fun r => (r = (q_cb (I0 (h_ad z a0 35)) (I0 (h_ad z a0 36)) (I0 a0 33).toInt.toNat)))) 0 0 (fun _ => False) := by
  refine Met.ofW (cc := cX12_clubsOf) (maxL := 3) (ret := (some .int)) (by decide) rfl ?_
  intro pr_ ev_ s m args below meth cd_ s₁ B hml hv
  obtain ⟨rfl, hE, hk, hX, hA, hK, hI, hR, hB0⟩ := hv
  have g : h_G h_so h_fk E A z I0 L0 s s.heap s.heap [] := ⟨hK, va_S.rf, hB0⟩
  have hx := B.exec
  have hb := B.bytes
  have hr := B.returns
  have hts := atoms_spec (ws := wsX12_clubsOf) B.pre
  have hown : s.vm.findClass RX12 = some m.cls := findClass_of_methodNamed B.named
  have hlocks := B.notSynchronized
  have iX12 : ∀ w ∈ u_ws RX12 TX12 51, w ∈ wsX12_clubsOf := by decide +kernel
  have hl := lv_entry ([.ref a0]) (n := 3) (Nat.le_of_ble_eq_true rfl)
  rw [lg_entry_eq]
  generalize (lg_sl ([.ref a0]) ++ List.replicate (3 - (lg_sl ([.ref a0])).length) Slot.unset).toArray = ls at hl ⊢
  have hl : lv_has ls 3 [(0, .ref a0)] := hl
  obtain ⟨mf, rmf, tmf⟩ := hR.at a0 35 t_a0 (rfl : h_rs 13 35 = some (1335, false)) (by decide)
  have amf : h_ad z a0 35 = mf := h_ad.at rmf
  obtain ⟨mt, rmt, tmt⟩ := hR.at a0 36 t_a0 (rfl : h_rs 13 36 = some (1336, false)) (by decide)
  have amt : h_ad z a0 36 = mt := h_ad.at rmt
  obtain ⟨f0_33, ef0_33⟩ : ∃ v : Int32, v = I0 a0 33 := ⟨_, rfl⟩
  have qf0_33 : (I0 a0 33).toInt = f0_33.toInt := congrArg Int32.toInt ef0_33.symm
  have jf0_33 := hI.rd a0 33 t_a0 ef0_33 (rfl : h_bd 13 33 = (0, 12))
  refine lv_iconst (v := 0) hx hb dX12_clubsOf_0 (by decide) ?_
  refine lv_istore_n (lv' := [(1, .int 0), (0, .ref a0)]) hx hb dX12_clubsOf_1 rfl hl (by decide) rfl (fun ls hl => ?_)
  refine lv_iconst (v := 0) hx hb dX12_clubsOf_2 (by decide) ?_
  refine lv_istore_n (lv' := [(2, .int 0), (1, .int 0), (0, .ref a0)]) hx hb dX12_clubsOf_3 rfl hl (by decide) rfl (fun ls hl => ?_)
  have loop4_0 : ∀ (n : Nat) (ls : Array Slot) (v1 v2 : Int32), lv_has ls 3 [(0, .ref a0), (1, .int v1), (2, .int v2)] → ((-2147483648) ≤ v1.toInt ∧ v1.toInt ≤ 2147483647) → (0 ≤ v2.toInt ∧ v2.toInt ≤ 12) → (v1 = q_cb (I0 mf) (I0 mt) (v2.toInt).toNat) → (v2.toInt ≤ f0_33.toInt) → (12 - v2.toInt) < (n : Int) → W pr_ l ev_ (headSpec wsX12_clubsOf ({ frames := 1, cells := 0, slots := 0, locals := 64 })).room s m ([.ref a0] : List Value).toArray below meth cd_ s.heap [] 0 0 (MQ below (vp_Si (fun r => (r = (q_cb (I0 (h_ad z a0 35)) (I0 (h_ad z a0 36)) (I0 a0 33).toInt.toNat)))) ([.ref a0] : List Value).toArray s 0 0 (fun _ => False)) (F0 m 4 ls []) := by
    intro n
    induction n with
    | zero => intro ls v1 v2 hl jv1 jv2 hx4_0 hx4_1 hn; exact absurd hn (by omega)
    | succ n ih4 =>
      intro ls v1 v2 hl jv1 jv2 hx4_0 hx4_1 hn
      have kv : v2.toNatClampNeg = v2.toInt.toNat := h_keq rfl (by omega) (by omega)
      refine lv_iload_n hx hb dX12_clubsOf_4 rfl (lv_at hl 2 rfl) ?_
      refine lv_aload_n hx hb dX12_clubsOf_5 rfl (lv_at hl 0 rfl) ?_
      refine h_get (v := .int f0_33) hx hb hts iX12 hown g t_a0 (by decide) so_13 rfl 33 (by decide) (hts (.fieldLink RX12 247 "CapLeagueModel" "moves" "I") (by decide +kernel)) rfl dX12_clubsOf_6 (congrArg Value.int (ef0_33.symm)) ?_
      refine lv_icmp_ge (tgt := 38) hx hb dX12_clubsOf_9 (by decide) (fun c3 => ?_) (fun c3 => ?_)
      · have ic3 := (xi_le c3 rfl rfl : f0_33.toInt ≤ v2.toInt)
        refine lv_iload_n hx hb dX12_clubsOf_38 rfl (lv_at hl 1 rfl) ?_
        exact W.iret (v := v1) hx hb hr (fun t ht hW => ⟨v1, rfl, (by rw [amf, amt, ← ef0_33, show f0_33.toInt.toNat = v2.toInt.toNat by omega]; exact hx4_0), ht⟩) (fun _ h => by cases h) dX12_clubsOf_39
      · have ic3 := (xi_nle c3 rfl rfl : v2.toInt < f0_33.toInt)
        refine lv_iload_n hx hb dX12_clubsOf_12 rfl (lv_at hl 1 rfl) ?_
        refine lv_iconst (v := 1) hx hb dX12_clubsOf_13 (by decide) ?_
        refine lv_aload_n hx hb dX12_clubsOf_14 rfl (lv_at hl 0 rfl) ?_
        refine h_get (v := .ref mf) hx hb hts iX12 hown g t_a0 (by decide) so_13 rfl 35 (by decide) (hts (.fieldLink RX12 79 "CapLeagueModel" "from" "[I") (by decide +kernel)) rfl dX12_clubsOf_15 (by show va_rf (z.R a0 35) = _; rw [rmf]; rfl) ?_
        refine lv_iload_n hx hb dX12_clubsOf_18 rfl (lv_at hl 2 rfl) ?_
        refine h_ald hx hb g tmf (by decide) so_1335 (xi_in (by omega) (by omega)) dX12_clubsOf_19 ?_
        refine lv_topi (fun v4 ev4 => ?_)
        have jv4 := hI.rd mf v2.toNatClampNeg tmf ev4 (rfl : h_bd 1335 _ = ((-2147483648), 2147483647))
        refine lv_ishl hx hb dX12_clubsOf_20 ?_
        refine lv_topi (fun v5 ev5 => ?_)
        have jv5 : -2147483648 ≤ v5.toInt ∧ v5.toInt ≤ 2147483647 := ⟨xi_lo _, Int.le_of_lt_add_one (xi_hi _)⟩
        refine lv_iconst (v := 1) hx hb dX12_clubsOf_21 (by decide) ?_
        refine lv_aload_n hx hb dX12_clubsOf_22 rfl (lv_at hl 0 rfl) ?_
        refine h_get (v := .ref mt) hx hb hts iX12 hown g t_a0 (by decide) so_13 rfl 36 (by decide) (hts (.fieldLink RX12 82 "CapLeagueModel" "to" "[I") (by decide +kernel)) rfl dX12_clubsOf_23 (by show va_rf (z.R a0 36) = _; rw [rmt]; rfl) ?_
        refine lv_iload_n hx hb dX12_clubsOf_26 rfl (lv_at hl 2 rfl) ?_
        refine h_ald hx hb g tmt (by decide) so_1336 (xi_in (by omega) (by omega)) dX12_clubsOf_27 ?_
        refine lv_topi (fun v6 ev6 => ?_)
        have jv6 := hI.rd mt v2.toNatClampNeg tmt ev6 (rfl : h_bd 1336 _ = (0, 7))
        refine lv_ishl hx hb dX12_clubsOf_28 ?_
        refine lv_topi (fun v7 ev7 => ?_)
        have jv7 : -2147483648 ≤ v7.toInt ∧ v7.toInt ≤ 2147483647 := ⟨xi_lo _, Int.le_of_lt_add_one (xi_hi _)⟩
        refine lv_ior hx hb dX12_clubsOf_29 ?_
        refine lv_topi (fun v8 ev8 => ?_)
        have jv8 : -2147483648 ≤ v8.toInt ∧ v8.toInt ≤ 2147483647 := ⟨xi_lo _, Int.le_of_lt_add_one (xi_hi _)⟩
        refine lv_ior hx hb dX12_clubsOf_30 ?_
        refine lv_topi (fun v9 ev9 => ?_)
        have jv9 : -2147483648 ≤ v9.toInt ∧ v9.toInt ≤ 2147483647 := ⟨xi_lo _, Int.le_of_lt_add_one (xi_hi _)⟩
        refine lv_istore_n (lv' := [(1, .int v9), (0, .ref a0), (2, .int v2)]) hx hb dX12_clubsOf_31 rfl hl (by decide) rfl (fun ls hl => ?_)
        obtain ⟨v10, ev10⟩ : ∃ z : Int32, z = v2 + 1 := ⟨_, rfl⟩
        have jv10 : v10.toInt = v2.toInt + 1 := xi_add ev10 rfl (by decide) (by omega) (by omega)
        refine lv_iinc (v := v10) (lv' := [(2, .int v10), (1, .int v9), (0, .ref a0)]) hx hb dX12_clubsOf_32 hl (k := 2) rfl (by rw [ev10]; rfl) (by decide) rfl (fun ls hl => ?_)
        refine lv_goto (tgt := 4) hx hb dX12_clubsOf_35 (by decide) ?_
        exact ih4 _ v9 v10 (lv_sub hl [2, 1, 0] rfl) (by omega) (by omega) (by rw [show (v10.toInt).toNat = v2.toInt.toNat + 1 by omega]; exact q_cb_s hx4_0 (by rw [← kv, ev4.symm]; exact ev5) (by rw [← kv, ev6.symm]; exact ev7) ev8 ev9) (by omega) (by omega)
  have kc11 : (0 : Int32).toInt = 0 := by decide
  have kc12 : (0 : Int32).toInt = 0 := by decide
  exact loop4_0 _ _ (0) (0) (lv_sub hl [2, 1, 0] rfl) ⟨by decide, by decide⟩ ⟨by decide, by decide⟩ (rfl) (by omega) (show (12 - (0 : Int)) < (((12 - (0 : Int)).toNat + 1 : Nat) : Int) by omega)
set_option maxHeartbeats 4000000 in
set_option maxRecDepth 100000 in
theorem tX12_bitsB (l : Launch) (E : tE) (X : tX) (A : Nat → Prop) (z : tZ) (I0 : tI) (L0 : tL) (x : Int32) (x_t : Int) (h_x : x.toInt = x_t) (b_x : 0 ≤ x_t ∧ x_t ≤ 255) : Met l yX12_bits wsX12_bits ({ frames := 1, cells := 0, slots := 0, locals := 64 }) (va_Pc [.int x] (h_P E X A z I0 L0)) (vp_Si (fun r => (r.toInt = q_pop x_t.toNat))) 0 0 (fun _ => False) := by
  refine Met.ofW (cc := cX12_bits) (maxL := 3) (ret := (some .int)) (by decide) rfl ?_
  intro pr_ ev_ s m args below meth cd_ s₁ B hml hv
  obtain ⟨rfl, hE, hk, hX, hA, hK, hI, hR, hB0⟩ := hv
  have g : h_G h_so h_fk E A z I0 L0 s s.heap s.heap [] := ⟨hK, va_S.rf, hB0⟩
  have hx := B.exec
  have hb := B.bytes
  have hr := B.returns
  have hts := atoms_spec (ws := wsX12_bits) B.pre
  have hown : s.vm.findClass RX12 = some m.cls := findClass_of_methodNamed B.named
  have hlocks := B.notSynchronized
  have hl := lv_entry ([.int x]) (n := 3) (Nat.le_of_ble_eq_true rfl)
  rw [lg_entry_eq]
  generalize (lg_sl ([.int x]) ++ List.replicate (3 - (lg_sl ([.int x])).length) Slot.unset).toArray = ls at hl ⊢
  have hl : lv_has ls 3 [(0, .int x)] := hl
  have hp8 := q_pop_8 x_t.toNat
  refine lv_iconst (v := 0) hx hb dX12_bits_0 (by decide) ?_
  refine lv_istore_n (lv' := [(1, .int 0), (0, .int x)]) hx hb dX12_bits_1 rfl hl (by decide) rfl (fun ls hl => ?_)
  refine lv_iload_n hx hb dX12_bits_2 rfl (lv_at hl 1 rfl) ?_
  refine lv_istore_n (lv' := [(2, .int x), (1, .int 0), (0, .int x)]) hx hb dX12_bits_3 rfl hl (by decide) rfl (fun ls hl => ?_)
  have loop4_0 : ∀ (n : Nat) (ls : Array Slot) (v1 v2 : Int32), lv_has ls 3 [(1, .int v1), (2, .int v2)] → (0 ≤ v1.toInt ∧ v1.toInt ≤ 8) → (0 ≤ v2.toInt ∧ v2.toInt ≤ 255) → (v1.toInt + (q_pop (v2.toInt).toNat : Int) = q_pop x_t.toNat) → (0 ≤ v1.toInt) → (v2.toInt + 1) < (n : Int) → W pr_ l ev_ (headSpec wsX12_bits ({ frames := 1, cells := 0, slots := 0, locals := 64 })).room s m ([.int x] : List Value).toArray below meth cd_ s.heap [] 0 0 (MQ below (vp_Si (fun r => (r.toInt = q_pop x_t.toNat))) ([.int x] : List Value).toArray s 0 0 (fun _ => False)) (F0 m 4 ls []) := by
    intro n
    induction n with
    | zero => intro ls v1 v2 hl jv1 jv2 hx4_0 hx4_1 hn; exact absurd hn (by omega)
    | succ n ih4 =>
      intro ls v1 v2 hl jv1 jv2 hx4_0 hx4_1 hn
      refine lv_iload_n hx hb dX12_bits_4 rfl (lv_at hl 1 rfl) ?_
      refine lv_if_eq (tgt := 20) hx hb dX12_bits_5 (by decide) (fun c3 => ?_) (fun c3 => ?_)
      · have ic3 := (xi_eq c3 rfl (by decide) : v2.toInt = 0)
        refine lv_iload_n hx hb dX12_bits_20 rfl (lv_at hl 0 rfl) ?_
        exact W.iret (v := v1) hx hb hr (fun t ht hW => ⟨v1, rfl, (by have h8 := hx4_0; rw [show v2.toInt = 0 by omega] at h8; have h7 : q_pop (0 : Int).toNat = 0 := q_pop_0; omega), ht⟩) (fun _ h => by cases h) dX12_bits_21
      · have ic3 := (xi_ne c3 rfl (by decide) : v2.toInt ≠ 0)
        obtain ⟨v4, ev4⟩ : ∃ z : Int32, z = v1 + 1 := ⟨_, rfl⟩
        have jv4 : v4.toInt = v1.toInt + 1 := xi_add ev4 rfl (by decide) (by omega) (by omega)
        refine lv_iinc (v := v4) (lv' := [(1, .int v4), (2, .int v2)]) hx hb dX12_bits_8 hl (k := 0) rfl (by rw [ev4]; rfl) (by decide) rfl (fun ls hl => ?_)
        refine lv_iload_n hx hb dX12_bits_11 rfl (lv_at hl 1 rfl) ?_
        refine lv_iload_n hx hb dX12_bits_12 rfl (lv_at hl 1 rfl) ?_
        refine lv_iconst (v := 1) hx hb dX12_bits_13 (by decide) ?_
        refine lv_isub hx hb dX12_bits_14 ?_
        refine lv_topi (fun v5 ev5 => ?_)
        have jv5 : v5.toInt = v2.toInt - 1 := xi_sub ev5 rfl (by decide) (by omega) (by omega)
        refine lv_iand hx hb dX12_bits_15 ?_
        refine lv_topi (fun v6 ev6 => ?_)
        have dv6 := q_pop_dn (by omega) (by omega) ev5 ev6
        have jv6 : 0 ≤ v6.toInt ∧ v6.toInt ≤ 255 := ⟨dv6.1, by have := dv6.2.1; omega⟩
        refine lv_istore_n (lv' := [(2, .int v6), (1, .int v4)]) hx hb dX12_bits_16 rfl hl (by decide) rfl (fun ls hl => ?_)
        refine lv_goto (tgt := 4) hx hb dX12_bits_17 (by decide) ?_
        exact ih4 _ v4 v6 (lv_sub hl [1, 0] rfl) (by omega) (by omega) (by have h8 := dv6.2.2; omega) (by omega) (by omega)
  have kc7 : (0 : Int32).toInt = 0 := by decide
  exact loop4_0 _ _ (0) x (lv_sub hl [1, 0] rfl) ⟨by decide, by decide⟩ (by rw [h_x]; omega) (by rw [h_x]; omega) (by omega) (show (x.toInt + 1) < (((x.toInt + 1).toNat + 1 : Nat) : Int) by omega)
set_option maxHeartbeats 4000000 in
set_option maxRecDepth 100000 in
theorem tX12_addB (l : Launch) (E : tE) (X : tX) (A : Nat → Prop) (z : tZ) (I0 : tI) (L0 : tL) (a0 : Nat) (t_a0 : z.ty a0 = 13) (x : Int32) (x_t : Int) (h_x : x.toInt = x_t) (b_x : 0 ≤ x_t ∧ x_t ≤ 139) (a : Int32) (a_t : Int) (h_a : a.toInt = a_t) (b_a : 0 ≤ a_t ∧ a_t ≤ 7) (b : Int32) (b_t : Int) (h_b : b.toInt = b_t) (b_b : 0 ≤ b_t ∧ b_t ≤ 7) (k : Int32) (k_t : Int) (h_k : k.toInt = k_t) (hft : ∀ i : Nat, (i : Int) < (I0 a0 33).toInt → (0 ≤ (I0 (h_ad z a0 35) i).toInt ∧ (I0 (h_ad z a0 35) i).toInt ≤ 7) ∧ 0 ≤ (I0 (h_ad z a0 36) i).toInt ∧ (I0 (h_ad z a0 36) i).toInt ≤ 7) : Met l yX12_add wsX12_add ({ frames := 2, cells := 0, slots := 0, locals := 128 }) (va_Pc [.ref a0, .int x, .int a, .int b, .int k] (h_P E X A z I0 L0)) (va_Qi (fun r (I1 : tI) => h_I z I1 ∧ h_F [(1334, 999), (1335, 999), (1336, 999), (1337, 999), (13, 33)] z I0 I1 ∧ ((((m_has I0 (h_ad z a0 34) (I0 a0 33).toInt (x_t)) ∨ ¬ q_jn (q_cb (I0 (h_ad z a0 35)) (I0 (h_ad z a0 36)) (I0 a0 33).toInt.toNat) a b) ∧ r.toInt = -4 ∧ I1 = I0) ∨ (¬ ((m_has I0 (h_ad z a0 34) (I0 a0 33).toInt (x_t)) ∨ ¬ q_jn (q_cb (I0 (h_ad z a0 35)) (I0 (h_ad z a0 36)) (I0 a0 33).toInt.toNat) a b) ∧ (((I0 a0 33).toInt = 12 ∧ r.toInt = -3 ∧ I1 = I0) ∨ ((I0 a0 33).toInt < 12 ∧ r.toInt = (I0 a0 33).toInt + 1 ∧ (I1 a0 33).toInt = (I0 a0 33).toInt + 1 ∧ (∀ j : Nat, I1 (h_ad z a0 34) j = if j = (I0 a0 33).toInt.toNat then x else I0 (h_ad z a0 34) j) ∧ (∀ j : Nat, I1 (h_ad z a0 35) j = if j = (I0 a0 33).toInt.toNat then a else I0 (h_ad z a0 35) j) ∧ (∀ j : Nat, I1 (h_ad z a0 36) j = if j = (I0 a0 33).toInt.toNat then b else I0 (h_ad z a0 36) j) ∧ (∀ j : Nat, I1 (h_ad z a0 37) j = if j = (I0 a0 33).toInt.toNat then k else I0 (h_ad z a0 37) j)))))) (fun (I1 : tI) t => h_B E A z I1 L0 t) A) 0 0 A := by
  refine Met.ofW (cc := cX12_add) (maxL := 5) (ret := (some .int)) (by decide) rfl ?_
  intro pr_ ev_ s m args below meth cd_ s₁ B hml hv
  obtain ⟨rfl, hE, hk, hX, hA, hK, hI, hR, hB0⟩ := hv
  have g : h_G h_so h_fk E A z I0 L0 s s.heap s.heap [] := ⟨hK, va_S.rf, hB0⟩
  have hF : h_F [(1334, 999), (1335, 999), (1336, 999), (1337, 999), (13, 33)] z I0 I0 := h_F.rf
  have hx := B.exec
  have hb := B.bytes
  have hr := B.returns
  have hts := atoms_spec (ws := wsX12_add) B.pre
  have hown : s.vm.findClass RX12 = some m.cls := findClass_of_methodNamed B.named
  have hlocks := B.notSynchronized
  have iX12 : ∀ w ∈ u_ws RX12 TX12 51, w ∈ wsX12_add := by decide +kernel
  have hl := lv_entry ([.ref a0, .int x, .int a, .int b, .int k]) (n := 5) (Nat.le_of_ble_eq_true rfl)
  rw [lg_entry_eq]
  generalize (lg_sl ([.ref a0, .int x, .int a, .int b, .int k]) ++ List.replicate (5 - (lg_sl ([.ref a0, .int x, .int a, .int b, .int k])).length) Slot.unset).toArray = ls at hl ⊢
  have hl : lv_has ls 5 [(0, .ref a0), (1, .int x), (2, .int a), (3, .int b), (4, .int k)] := hl
  have b_k : -2147483648 ≤ k_t ∧ k_t ≤ 2147483647 := h_k ▸ ⟨xi_lo k, Int.le_of_lt_add_one (xi_hi k)⟩
  obtain ⟨md, rmd, tmd⟩ := hR.at a0 34 t_a0 (rfl : h_rs 13 34 = some (1334, false)) (by decide)
  have amd : h_ad z a0 34 = md := h_ad.at rmd
  obtain ⟨mf, rmf, tmf⟩ := hR.at a0 35 t_a0 (rfl : h_rs 13 35 = some (1335, false)) (by decide)
  have amf : h_ad z a0 35 = mf := h_ad.at rmf
  obtain ⟨mt, rmt, tmt⟩ := hR.at a0 36 t_a0 (rfl : h_rs 13 36 = some (1336, false)) (by decide)
  have amt : h_ad z a0 36 = mt := h_ad.at rmt
  obtain ⟨mg, rmg, tmg⟩ := hR.at a0 37 t_a0 (rfl : h_rs 13 37 = some (1337, false)) (by decide)
  have amg : h_ad z a0 37 = mg := h_ad.at rmg
  obtain ⟨f0_33, ef0_33⟩ : ∃ v : Int32, v = I0 a0 33 := ⟨_, rfl⟩
  have qf0_33 : (I0 a0 33).toInt = f0_33.toInt := congrArg Int32.toInt ef0_33.symm
  have jf0_33 := hI.rd a0 33 t_a0 ef0_33 (rfl : h_bd 13 33 = (0, 12))
  rw [amf, amt, ← ef0_33] at hft
  have kn : f0_33.toNatClampNeg = f0_33.toInt.toNat := h_keq rfl (by omega) (by omega)
  have ka : 0 ≤ a.toInt ∧ a.toInt ≤ 7 := by rw [h_a]; exact b_a
  have kb : 0 ≤ b.toInt ∧ b.toInt ≤ 7 := by rw [h_b]; exact b_b
  refine lv_aload_n hx hb dX12_add_0 rfl (lv_at hl 0 rfl) ?_
  refine lv_iload_n hx hb dX12_add_1 rfl (lv_at hl 1 rfl) ?_
  refine vp_callSi (W.runV (As := [.int x]) (rest := []) ⟨hx, hb, hml, hown, hts⟩ (tX12_isMovedB l E X A z I0 L0 a0 t_a0 x (x_t) h_x) (cwV 1 hts gX12_add_X12_isMoved rfl rfl rfl (by decide +kernel) ⟨Nat.le_of_ble_eq_true rfl, Nat.le_of_ble_eq_true rfl⟩) ⟨h_blind _ _ _ _ _ _ _, h_recv g t_a0 (by decide) so_13 (q := (RX12, TX12, 51)) rfl, h_pre _ hE hk hX hA hI hR g⟩ rfl rfl hl.1 rfl (lv_room (Nat.le_of_ble_eq_true rfl)) dX12_add_2 ⟨Nat.le_of_ble_eq_true rfl, Nat.le_of_ble_eq_true rfl⟩) (fun rh1 h1 => ?_)
  obtain ⟨h1, h1p0⟩ := h1
  rw [amd, ← ef0_33] at h1p0
  refine lv_if_ne (tgt := 27) hx hb dX12_add_5 (by decide) (fun c2 => ?_) (fun c2 => ?_)
  · have ic2 := (xi_ne c2 rfl (by decide) : rh1.toInt ≠ 0)
    refine lv_bipush (v := (-4)) hx hb dX12_add_27 (by decide) ?_
    have hS := g.2.1
    exact W.iret (v := (-4)) hx hb hr (fun t ht hW => ⟨⟨(-4), I0, rfl, ⟨hI, hF, (by rw [amd, amf, amt, amg, ← ef0_33]; exact Or.inl ⟨Or.inl (by rcases h1p0 with q | q; exact q.2; omega), by decide, rfl⟩)⟩, h_ret g ht⟩, hS.F ht⟩) hS.2.2 dX12_add_29
  · have ic2 := (xi_eq c2 rfl (by decide) : rh1.toInt = 0)
    refine lv_aload_n hx hb dX12_add_8 rfl (lv_at hl 0 rfl) ?_
    refine vp_callSi (W.runV (As := []) (rest := []) ⟨hx, hb, hml, hown, hts⟩ (tX12_clubsOfB l E X A z I0 L0 a0 t_a0) (cwV 0 hts gX12_add_X12_clubsOf rfl rfl rfl (by decide +kernel) ⟨Nat.le_of_ble_eq_true rfl, Nat.le_of_ble_eq_true rfl⟩) ⟨h_blind _ _ _ _ _ _ _, h_recv g t_a0 (by decide) so_13 (q := (RX12, TX12, 51)) rfl, h_pre _ hE hk hX hA hI hR g⟩ rfl rfl hl.1 rfl (lv_room (Nat.le_of_ble_eq_true rfl)) dX12_add_9 ⟨Nat.le_of_ble_eq_true rfl, Nat.le_of_ble_eq_true rfl⟩) (fun rh3 h3 => ?_)
    have h3p0 := h3
    have jrh3 : -2147483648 ≤ rh3.toInt ∧ rh3.toInt ≤ 2147483647 := ⟨xi_lo _, Int.le_of_lt_add_one (xi_hi _)⟩
    rw [amf, amt, ← ef0_33] at h3p0
    have cb0 : 0 ≤ rh3.toInt ∧ rh3.toInt ≤ 255 := by rw [h3p0]; exact q_cb_lt _ (fun i hi => hft i (by omega))
    refine lv_iconst (v := 1) hx hb dX12_add_12 (by decide) ?_
    refine lv_iload_n hx hb dX12_add_13 rfl (lv_at hl 2 rfl) ?_
    refine lv_ishl hx hb dX12_add_14 ?_
    refine lv_topi (fun v4 ev4 => ?_)
    have jv4 : -2147483648 ≤ v4.toInt ∧ v4.toInt ≤ 2147483647 := ⟨xi_lo _, Int.le_of_lt_add_one (xi_hi _)⟩
    refine lv_ior hx hb dX12_add_15 ?_
    refine lv_topi (fun v5 ev5 => ?_)
    have jv5 : 0 ≤ v5.toInt ∧ v5.toInt ≤ 255 := q_or1 cb0 ka ev4 ev5
    refine lv_iconst (v := 1) hx hb dX12_add_16 (by decide) ?_
    refine lv_iload_n hx hb dX12_add_17 rfl (lv_at hl 3 rfl) ?_
    refine lv_ishl hx hb dX12_add_18 ?_
    refine lv_topi (fun v6 ev6 => ?_)
    have jv6 : -2147483648 ≤ v6.toInt ∧ v6.toInt ≤ 2147483647 := ⟨xi_lo _, Int.le_of_lt_add_one (xi_hi _)⟩
    refine lv_ior hx hb dX12_add_19 ?_
    refine lv_topi (fun v7 ev7 => ?_)
    have jv7 : 0 ≤ v7.toInt ∧ v7.toInt ≤ 255 := q_or1 jv5 kb ev6 ev7
    refine vp_callSi (W.runS (As := [.int v7]) (rest := []) ⟨hx, hb, hml, hown, hts⟩ (tX12_bitsB l E X A z I0 L0 v7 (v7.toInt) rfl (by omega)) (va_cwS 1 hts gX12_add_X12_bits rfl rfl rfl (by decide +kernel) ⟨Nat.le_of_ble_eq_true rfl, Nat.le_of_ble_eq_true rfl⟩) ⟨h_blind _ _ _ _ _ _ _, h_pre _ hE hk hX hA hI hR g⟩ rfl rfl hl.1 rfl (lv_room (Nat.le_of_ble_eq_true rfl)) dX12_add_20 ⟨Nat.le_of_ble_eq_true rfl, Nat.le_of_ble_eq_true rfl⟩) (fun rh8 h8 => ?_)
    have h8p0 := h8
    have jrh8 : -2147483648 ≤ rh8.toInt ∧ rh8.toInt ≤ 2147483647 := ⟨xi_lo _, Int.le_of_lt_add_one (xi_hi _)⟩
    refine lv_iconst (v := 4) hx hb dX12_add_23 (by decide) ?_
    refine lv_icmp_le (tgt := 30) hx hb dX12_add_24 (by decide) (fun c9 => ?_) (fun c9 => ?_)
    · have ic9 := (xi_le c9 rfl (by decide) : rh8.toInt ≤ 4)
      refine lv_aload_n hx hb dX12_add_30 rfl (lv_at hl 0 rfl) ?_
      refine h_get (v := .int f0_33) hx hb hts iX12 hown g t_a0 (by decide) so_13 rfl 33 (by decide) (hts (.fieldLink RX12 247 "CapLeagueModel" "moves" "I") (by decide +kernel)) rfl dX12_add_31 (congrArg Value.int (ef0_33.symm)) ?_
      refine lv_bipush (v := 12) hx hb dX12_add_34 (by decide) ?_
      refine lv_icmp_ne (tgt := 42) hx hb dX12_add_36 (by decide) (fun c10 => ?_) (fun c10 => ?_)
      · have ic10 := (xi_ne c10 rfl (by decide) : f0_33.toInt ≠ 12)
        refine lv_aload_n hx hb dX12_add_42 rfl (lv_at hl 0 rfl) ?_
        refine h_get (v := .ref md) hx hb hts iX12 hown g t_a0 (by decide) so_13 rfl 34 (by decide) (hts (.fieldLink RX12 76 "CapLeagueModel" "moved" "[I") (by decide +kernel)) rfl dX12_add_43 (by show va_rf (z.R a0 34) = _; rw [rmd]; rfl) ?_
        refine lv_aload_n hx hb dX12_add_46 rfl (lv_at hl 0 rfl) ?_
        refine h_get (v := .int f0_33) hx hb hts iX12 hown g t_a0 (by decide) so_13 rfl 33 (by decide) (hts (.fieldLink RX12 247 "CapLeagueModel" "moves" "I") (by decide +kernel)) rfl dX12_add_47 (congrArg Value.int (ef0_33.symm)) ?_
        refine lv_iload_n hx hb dX12_add_50 rfl (lv_at hl 1 rfl) ?_
        refine h_ast hx hb g tmd (by decide) so_1334 (xi_in (by omega) (by omega)) dX12_add_51 (fun I11 H locs eI11 g => ?_)
        have hI := hI.wr eI11 tmd (rfl : h_bd 1334 _ = (0, 139)) (by rw [h_x]; omega) (by rw [h_x]; omega)
        have hF := hF.wr eI11 tmd rfl
        refine lv_aload_n hx hb dX12_add_52 rfl (lv_at hl 0 rfl) ?_
        refine h_get (v := .ref mf) hx hb hts iX12 hown g t_a0 (by decide) so_13 rfl 35 (by decide) (hts (.fieldLink RX12 79 "CapLeagueModel" "from" "[I") (by decide +kernel)) rfl dX12_add_53 (by show va_rf (z.R a0 35) = _; rw [rmf]; rfl) ?_
        refine lv_aload_n hx hb dX12_add_56 rfl (lv_at hl 0 rfl) ?_
        refine h_get (v := .int f0_33) hx hb hts iX12 hown g t_a0 (by decide) so_13 rfl 33 (by decide) (hts (.fieldLink RX12 247 "CapLeagueModel" "moves" "I") (by decide +kernel)) rfl dX12_add_57 (congrArg Value.int ((h_n1 eI11 t_a0 tmd (by decide)).trans (ef0_33.symm))) ?_
        refine lv_iload_n hx hb dX12_add_60 rfl (lv_at hl 2 rfl) ?_
        refine h_ast hx hb g tmf (by decide) so_1335 (xi_in (by omega) (by omega)) dX12_add_61 (fun I12 H locs eI12 g => ?_)
        have hI := hI.wr eI12 tmf (rfl : h_bd 1335 _ = ((-2147483648), 2147483647)) (xi_lo _) (Int.le_of_lt_add_one (xi_hi _))
        have hF := hF.wr eI12 tmf rfl
        refine lv_aload_n hx hb dX12_add_62 rfl (lv_at hl 0 rfl) ?_
        refine h_get (v := .ref mt) hx hb hts iX12 hown g t_a0 (by decide) so_13 rfl 36 (by decide) (hts (.fieldLink RX12 82 "CapLeagueModel" "to" "[I") (by decide +kernel)) rfl dX12_add_63 (by show va_rf (z.R a0 36) = _; rw [rmt]; rfl) ?_
        refine lv_aload_n hx hb dX12_add_66 rfl (lv_at hl 0 rfl) ?_
        refine h_get (v := .int f0_33) hx hb hts iX12 hown g t_a0 (by decide) so_13 rfl 33 (by decide) (hts (.fieldLink RX12 247 "CapLeagueModel" "moves" "I") (by decide +kernel)) rfl dX12_add_67 (congrArg Value.int ((h_n1 eI12 t_a0 tmf (by decide)).trans ((h_n1 eI11 t_a0 tmd (by decide)).trans (ef0_33.symm)))) ?_
        refine lv_iload_n hx hb dX12_add_70 rfl (lv_at hl 3 rfl) ?_
        refine h_ast hx hb g tmt (by decide) so_1336 (xi_in (by omega) (by omega)) dX12_add_71 (fun I13 H locs eI13 g => ?_)
        have hI := hI.wr eI13 tmt (rfl : h_bd 1336 _ = (0, 7)) (by rw [h_b]; omega) (by rw [h_b]; omega)
        have hF := hF.wr eI13 tmt rfl
        refine lv_aload_n hx hb dX12_add_72 rfl (lv_at hl 0 rfl) ?_
        refine h_get (v := .ref mg) hx hb hts iX12 hown g t_a0 (by decide) so_13 rfl 37 (by decide) (hts (.fieldLink RX12 85 "CapLeagueModel" "guard" "[I") (by decide +kernel)) rfl dX12_add_73 (by show va_rf (z.R a0 37) = _; rw [rmg]; rfl) ?_
        refine lv_aload_n hx hb dX12_add_76 rfl (lv_at hl 0 rfl) ?_
        refine h_get (v := .int f0_33) hx hb hts iX12 hown g t_a0 (by decide) so_13 rfl 33 (by decide) (hts (.fieldLink RX12 247 "CapLeagueModel" "moves" "I") (by decide +kernel)) rfl dX12_add_77 (congrArg Value.int ((h_n1 eI13 t_a0 tmt (by decide)).trans ((h_n1 eI12 t_a0 tmf (by decide)).trans ((h_n1 eI11 t_a0 tmd (by decide)).trans (ef0_33.symm))))) ?_
        refine lv_iload hx hb dX12_add_80 (lv_at hl 4 rfl) ?_
        refine h_ast hx hb g tmg (by decide) so_1337 (xi_in (by omega) (by omega)) dX12_add_82 (fun I14 H locs eI14 g => ?_)
        have hI := hI.wr eI14 tmg (rfl : h_bd 1337 _ = ((-2147483648), 2147483647)) (xi_lo _) (Int.le_of_lt_add_one (xi_hi _))
        have hF := hF.wr eI14 tmg rfl
        refine lv_aload_n hx hb dX12_add_83 rfl (lv_at hl 0 rfl) ?_
        refine lv_dup hx hb dX12_add_84 rfl ?_
        refine h_get (v := .int f0_33) hx hb hts iX12 hown g t_a0 (by decide) so_13 rfl 33 (by decide) (hts (.fieldLink RX12 247 "CapLeagueModel" "moves" "I") (by decide +kernel)) rfl dX12_add_85 (congrArg Value.int ((h_n1 eI14 t_a0 tmg (by decide)).trans ((h_n1 eI13 t_a0 tmt (by decide)).trans ((h_n1 eI12 t_a0 tmf (by decide)).trans ((h_n1 eI11 t_a0 tmd (by decide)).trans (ef0_33.symm)))))) ?_
        refine lv_iconst (v := 1) hx hb dX12_add_88 (by decide) ?_
        refine lv_iadd hx hb dX12_add_89 ?_
        refine lv_topi (fun v15 ev15 => ?_)
        have jv15 : v15.toInt = f0_33.toInt + 1 := xi_add ev15 rfl (by decide) (by omega) (by omega)
        refine h_putI (ty := .int) (v := v15) hx hb hts iX12 tyX12 tyX12_ok nmX12 hown g t_a0 (by decide) so_13 rfl 33 (by decide) rfl (hts (.fieldLink RX12 247 "CapLeagueModel" "moves" "I") (by decide +kernel)) rfl rfl (by decide +kernel) rfl rfl dX12_add_90 (fun I16 H locs eI16 g => ?_)
        have hI := hI.wr eI16 t_a0 (rfl : h_bd 13 33 = (0, 12)) (by omega) (by omega)
        have hF := hF.wr eI16 t_a0 rfl
        refine lv_aload_n hx hb dX12_add_93 rfl (lv_at hl 0 rfl) ?_
        refine h_get (v := .int v15) hx hb hts iX12 hown g t_a0 (by decide) so_13 rfl 33 (by decide) (hts (.fieldLink RX12 247 "CapLeagueModel" "moves" "I") (by decide +kernel)) rfl dX12_add_94 (congrArg Value.int (h_n0 eI16)) ?_
        have hS := g.2.1
        exact W.iret (v := v15) hx hb hr (fun t ht hW => ⟨⟨v15, I16, rfl, ⟨hI, hF, (by rw [amd, amf, amt, amg, ← ef0_33]; unfold q_jn; have ej : (q_pop (((q_cb (I0 mf) (I0 mt) f0_33.toInt.toNat) ||| q_sh a) ||| q_sh b).toInt.toNat : Int) = rh8.toInt := (by unfold q_sh; rw [← h3p0, ← ev4, ← ev5, ← ev6, ← ev7]; exact h8p0.symm); exact Or.inr ⟨fun q => by rcases q with q | q; (rcases h1p0 with a | a; omega; exact a.2 q); omega, Or.inr ⟨by omega, by omega, by rw [show I16 a0 33 = v15 from h_n0 eI16]; omega, fun j => (h_n1 eI16 tmd t_a0 (by decide)).trans ((h_n1 eI14 tmd tmg (by decide)).trans ((h_n1 eI13 tmd tmt (by decide)).trans ((h_n1 eI12 tmd tmf (by decide)).trans (h_wif eI11 kn j)))), fun j => (h_n1 eI16 tmf t_a0 (by decide)).trans ((h_n1 eI14 tmf tmg (by decide)).trans ((h_n1 eI13 tmf tmt (by decide)).trans ((h_wif eI12 kn j).trans (by rw [h_n1 eI11 tmf tmd (by decide)])))), fun j => (h_n1 eI16 tmt t_a0 (by decide)).trans ((h_n1 eI14 tmt tmg (by decide)).trans ((h_wif eI13 kn j).trans (by rw [(h_n1 eI12 tmt tmf (by decide)).trans (h_n1 eI11 tmt tmd (by decide))]))), fun j => (h_n1 eI16 tmg t_a0 (by decide)).trans ((h_wif eI14 kn j).trans (by rw [(h_n1 eI13 tmg tmt (by decide)).trans ((h_n1 eI12 tmg tmf (by decide)).trans (h_n1 eI11 tmg tmd (by decide)))]))⟩⟩)⟩, h_ret g ht⟩, hS.F ht⟩) hS.2.2 dX12_add_97
      · have ic10 := (xi_eq c10 rfl (by decide) : f0_33.toInt = 12)
        refine lv_bipush (v := (-3)) hx hb dX12_add_39 (by decide) ?_
        have hS := g.2.1
        exact W.iret (v := (-3)) hx hb hr (fun t ht hW => ⟨⟨(-3), I0, rfl, ⟨hI, hF, (by rw [amd, amf, amt, amg, ← ef0_33]; unfold q_jn; have ej : (q_pop (((q_cb (I0 mf) (I0 mt) f0_33.toInt.toNat) ||| q_sh a) ||| q_sh b).toInt.toNat : Int) = rh8.toInt := (by unfold q_sh; rw [← h3p0, ← ev4, ← ev5, ← ev6, ← ev7]; exact h8p0.symm); exact Or.inr ⟨fun q => by rcases q with q | q; (rcases h1p0 with a | a; omega; exact a.2 q); omega, Or.inl ⟨by omega, by decide, rfl⟩⟩)⟩, h_ret g ht⟩, hS.F ht⟩) hS.2.2 dX12_add_41
    · have ic9 := (xi_nle c9 rfl (by decide) : 4 < rh8.toInt)
      refine lv_bipush (v := (-4)) hx hb dX12_add_27 (by decide) ?_
      have hS := g.2.1
      exact W.iret (v := (-4)) hx hb hr (fun t ht hW => ⟨⟨(-4), I0, rfl, ⟨hI, hF, (by rw [amd, amf, amt, amg, ← ef0_33]; unfold q_jn; have ej : (q_pop (((q_cb (I0 mf) (I0 mt) f0_33.toInt.toNat) ||| q_sh a) ||| q_sh b).toInt.toNat : Int) = rh8.toInt := (by unfold q_sh; rw [← h3p0, ← ev4, ← ev5, ← ev6, ← ev7]; exact h8p0.symm); exact Or.inl ⟨Or.inr (by omega), by decide, rfl⟩)⟩, h_ret g ht⟩, hS.F ht⟩) hS.2.2 dX12_add_29
set_option maxHeartbeats 4000000 in
set_option maxRecDepth 100000 in
theorem tX12_giveB (l : Launch) (E : tE) (X : tX) (A : Nat → Prop) (z : tZ) (I0 : tI) (L0 : tL) (a0 : Nat) (t_a0 : z.ty a0 = 13) (p : Int32) (p_t : Int) (h_p : p.toInt = p_t) (c : Int32) (c_t : Int) (h_c : c.toInt = c_t) (hft : ∀ i : Nat, (i : Int) < (I0 a0 33).toInt → (0 ≤ (I0 (h_ad z a0 35) i).toInt ∧ (I0 (h_ad z a0 35) i).toInt ≤ 7) ∧ 0 ≤ (I0 (h_ad z a0 36) i).toInt ∧ (I0 (h_ad z a0 36) i).toInt ≤ 7) : Met l yX12_give wsX12_give ({ frames := 3, cells := 0, slots := 0, locals := 192 }) (va_Pc [.ref a0, .int p, .int c] (h_P E X A z I0 L0)) (va_Qi (fun r (I1 : tI) => h_I z I1 ∧ h_F [(1334, 999), (1335, 999), (1336, 999), (1337, 999), (13, 33)] z I0 I1 ∧ ((¬ ((0 ≤ p_t ∧ p_t < (I0 a0 13).toInt) ∧ 0 ≤ c_t ∧ c_t ≤ 7) ∧ r.toInt = -2 ∧ I1 = I0) ∨ (((0 ≤ p_t ∧ p_t < (I0 a0 13).toInt) ∧ 0 ≤ c_t ∧ c_t ≤ 7) ∧ ((I0 (h_ad z a0 14) p_t.toNat).toInt = -1 ∨ (I0 (h_ad z a0 14) p_t.toNat).toInt = c_t) ∧ r.toInt = -4 ∧ I1 = I0) ∨ (((0 ≤ p_t ∧ p_t < (I0 a0 13).toInt) ∧ 0 ≤ c_t ∧ c_t ≤ 7) ∧ ¬ ((I0 (h_ad z a0 14) p_t.toNat).toInt = -1 ∨ (I0 (h_ad z a0 14) p_t.toNat).toInt = c_t) ∧ ((((m_has I0 (h_ad z a0 34) (I0 a0 33).toInt (p_t)) ∨ ¬ q_jn (q_cb (I0 (h_ad z a0 35)) (I0 (h_ad z a0 36)) (I0 a0 33).toInt.toNat) (I0 (h_ad z a0 14) p_t.toNat) c) ∧ r.toInt = -4 ∧ I1 = I0) ∨ (¬ ((m_has I0 (h_ad z a0 34) (I0 a0 33).toInt (p_t)) ∨ ¬ q_jn (q_cb (I0 (h_ad z a0 35)) (I0 (h_ad z a0 36)) (I0 a0 33).toInt.toNat) (I0 (h_ad z a0 14) p_t.toNat) c) ∧ (((I0 a0 33).toInt = 12 ∧ r.toInt = -3 ∧ I1 = I0) ∨ ((I0 a0 33).toInt < 12 ∧ r.toInt = (I0 a0 33).toInt + 1 ∧ (I1 a0 33).toInt = (I0 a0 33).toInt + 1 ∧ (∀ j : Nat, I1 (h_ad z a0 34) j = if j = (I0 a0 33).toInt.toNat then p else I0 (h_ad z a0 34) j) ∧ (∀ j : Nat, I1 (h_ad z a0 35) j = if j = (I0 a0 33).toInt.toNat then (I0 (h_ad z a0 14) p_t.toNat) else I0 (h_ad z a0 35) j) ∧ (∀ j : Nat, I1 (h_ad z a0 36) j = if j = (I0 a0 33).toInt.toNat then c else I0 (h_ad z a0 36) j) ∧ (∀ j : Nat, I1 (h_ad z a0 37) j = if j = (I0 a0 33).toInt.toNat then 0 else I0 (h_ad z a0 37) j)))))))) (fun (I1 : tI) t => h_B E A z I1 L0 t) A) 0 0 A := by
  refine Met.ofW (cc := cX12_give) (maxL := 3) (ret := (some .int)) (by decide) rfl ?_
  intro pr_ ev_ s m args below meth cd_ s₁ B hml hv
  obtain ⟨rfl, hE, hk, hX, hA, hK, hI, hR, hB0⟩ := hv
  have g : h_G h_so h_fk E A z I0 L0 s s.heap s.heap [] := ⟨hK, va_S.rf, hB0⟩
  have hF : h_F [(1334, 999), (1335, 999), (1336, 999), (1337, 999), (13, 33)] z I0 I0 := h_F.rf
  have hx := B.exec
  have hb := B.bytes
  have hr := B.returns
  have hts := atoms_spec (ws := wsX12_give) B.pre
  have hown : s.vm.findClass RX12 = some m.cls := findClass_of_methodNamed B.named
  have hlocks := B.notSynchronized
  have iX12 : ∀ w ∈ u_ws RX12 TX12 51, w ∈ wsX12_give := by decide +kernel
  have hl := lv_entry ([.ref a0, .int p, .int c]) (n := 3) (Nat.le_of_ble_eq_true rfl)
  rw [lg_entry_eq]
  generalize (lg_sl ([.ref a0, .int p, .int c]) ++ List.replicate (3 - (lg_sl ([.ref a0, .int p, .int c])).length) Slot.unset).toArray = ls at hl ⊢
  have hl : lv_has ls 3 [(0, .ref a0), (1, .int p), (2, .int c)] := hl
  have b_p : -2147483648 ≤ p_t ∧ p_t ≤ 2147483647 := h_p ▸ ⟨xi_lo p, Int.le_of_lt_add_one (xi_hi p)⟩
  have b_c : -2147483648 ≤ c_t ∧ c_t ≤ 2147483647 := h_c ▸ ⟨xi_lo c, Int.le_of_lt_add_one (xi_hi c)⟩
  obtain ⟨cb, rcb, tcb⟩ := hR.at a0 14 t_a0 (rfl : h_rs 13 14 = some (1314, false)) (by decide)
  have acb : h_ad z a0 14 = cb := h_ad.at rcb
  obtain ⟨xcb, excb⟩ : ∃ v : Int32, v = I0 cb p.toNatClampNeg := ⟨_, rfl⟩
  have jxcb := hI.rd cb p.toNatClampNeg tcb excb (rfl : h_bd 1314 _ = ((-1), 7))
  obtain ⟨f0_13, ef0_13⟩ : ∃ v : Int32, v = I0 a0 13 := ⟨_, rfl⟩
  have qf0_13 : (I0 a0 13).toInt = f0_13.toInt := congrArg Int32.toInt ef0_13.symm
  have jf0_13 := hI.rd a0 13 t_a0 ef0_13 (rfl : h_bd 13 13 = (0, 60))
  obtain ⟨f0_33, ef0_33⟩ : ∃ v : Int32, v = I0 a0 33 := ⟨_, rfl⟩
  have qf0_33 : (I0 a0 33).toInt = f0_33.toInt := congrArg Int32.toInt ef0_33.symm
  have jf0_33 := hI.rd a0 33 t_a0 ef0_33 (rfl : h_bd 13 33 = (0, 12))
  refine lv_aload_n hx hb dX12_give_0 rfl (lv_at hl 0 rfl) ?_
  refine lv_iload_n hx hb dX12_give_1 rfl (lv_at hl 1 rfl) ?_
  refine vp_callSi (W.runV (As := [.int p]) (rest := []) ⟨hx, hb, hml, hown, hts⟩ (tX12_isPlayerF l E X A z I0 L0 a0 t_a0 p (p_t) h_p) (cwV 1 hts gX12_give_X12_isPlayer rfl rfl rfl (by decide +kernel) ⟨Nat.le_of_ble_eq_true rfl, Nat.le_of_ble_eq_true rfl⟩) ⟨h_blind _ _ _ _ _ _ _, h_recv g t_a0 (by decide) so_13 (q := (RX12, TX12, 51)) rfl, h_pre _ hE hk hX hA hI hR g⟩ rfl rfl hl.1 rfl (lv_room (Nat.le_of_ble_eq_true rfl)) dX12_give_2 ⟨Nat.le_of_ble_eq_true rfl, Nat.le_of_ble_eq_true rfl⟩) (fun rh1 h1 => ?_)
  rcases h1 with ⟨rfl, h1⟩ | ⟨rfl, h1⟩
  · skip
    refine lv_if_eq (tgt := 15) hx hb dX12_give_5 (by decide) (fun _ => ?_) (fun h => absurd (by decide) h)
    refine lv_bipush (v := (-2)) hx hb dX12_give_15 (by decide) ?_
    have hS := g.2.1
    exact W.iret (v := (-2)) hx hb hr (fun t ht hW => ⟨⟨(-2), I0, rfl, ⟨hI, hF, (Or.inl ⟨fun q => by omega, by decide, rfl⟩)⟩, h_ret g ht⟩, hS.F ht⟩) hS.2.2 dX12_give_17
  · skip
    have kp : p.toNatClampNeg = p_t.toNat := h_keq h_p (by omega) (by omega)
    refine lv_if_eq (tgt := 15) hx hb dX12_give_5 (by decide) (fun h => absurd h (by decide)) (fun _ => ?_)
    refine lv_iload_n hx hb dX12_give_8 rfl (lv_at hl 2 rfl) ?_
    refine vp_callSi (W.runS (As := [.int c]) (rest := []) ⟨hx, hb, hml, hown, hts⟩ (tX12_isClub l E X A z I0 L0 c (c_t) h_c) (va_cwS 1 hts gX12_give_X12_isClub rfl rfl rfl (by decide +kernel) ⟨Nat.le_of_ble_eq_true rfl, Nat.le_of_ble_eq_true rfl⟩) ⟨h_blind _ _ _ _ _ _ _, h_pre _ hE hk hX hA hI hR g⟩ rfl rfl hl.1 rfl (lv_room (Nat.le_of_ble_eq_true rfl)) dX12_give_9 ⟨Nat.le_of_ble_eq_true rfl, Nat.le_of_ble_eq_true rfl⟩) (fun rh4 h4 => ?_)
    rcases h4 with ⟨rfl, h4⟩ | ⟨rfl, h4⟩
    · skip
      refine lv_if_ne (tgt := 18) hx hb dX12_give_12 (by decide) (fun h => absurd (by decide) h) (fun _ => ?_)
      refine lv_bipush (v := (-2)) hx hb dX12_give_15 (by decide) ?_
      have hS := g.2.1
      exact W.iret (v := (-2)) hx hb hr (fun t ht hW => ⟨⟨(-2), I0, rfl, ⟨hI, hF, (Or.inl ⟨fun q => by omega, by decide, rfl⟩)⟩, h_ret g ht⟩, hS.F ht⟩) hS.2.2 dX12_give_17
    · skip
      refine lv_if_ne (tgt := 18) hx hb dX12_give_12 (by decide) (fun _ => ?_) (fun h => absurd h (by decide))
      refine lv_aload_n hx hb dX12_give_18 rfl (lv_at hl 0 rfl) ?_
      refine h_get (v := .ref cb) hx hb hts iX12 hown g t_a0 (by decide) so_13 rfl 14 (by decide) (hts (.fieldLink RX12 25 "CapLeagueModel" "clubOf" "[I") (by decide +kernel)) rfl dX12_give_19 (by show va_rf (z.R a0 14) = _; rw [rcb]; rfl) ?_
      refine lv_iload_n hx hb dX12_give_22 rfl (lv_at hl 1 rfl) ?_
      refine h_ald hx hb g tcb (by decide) so_1314 (xi_in (by rw [h_p]; omega) (by rw [h_p]; omega)) dX12_give_23 ?_
      refine xw_i (excb.symm) ?_
      refine lv_iconst (v := (-1)) hx hb dX12_give_24 (by decide) ?_
      refine lv_icmp_eq (tgt := 38) hx hb dX12_give_25 (by decide) (fun c7 => ?_) (fun c7 => ?_)
      · have ic7 := (xi_eq c7 rfl (by decide) : xcb.toInt = (-1))
        refine lv_bipush (v := (-4)) hx hb dX12_give_38 (by decide) ?_
        have hS := g.2.1
        exact W.iret (v := (-4)) hx hb hr (fun t ht hW => ⟨⟨(-4), I0, rfl, ⟨hI, hF, (by rw [acb, ← kp, ← excb]; exact Or.inr (Or.inl ⟨⟨⟨by omega, by omega⟩, by omega, by omega⟩, by omega, by decide, rfl⟩))⟩, h_ret g ht⟩, hS.F ht⟩) hS.2.2 dX12_give_40
      · have ic7 := (xi_ne c7 rfl (by decide) : xcb.toInt ≠ (-1))
        refine lv_aload_n hx hb dX12_give_28 rfl (lv_at hl 0 rfl) ?_
        refine h_get (v := .ref cb) hx hb hts iX12 hown g t_a0 (by decide) so_13 rfl 14 (by decide) (hts (.fieldLink RX12 25 "CapLeagueModel" "clubOf" "[I") (by decide +kernel)) rfl dX12_give_29 (by show va_rf (z.R a0 14) = _; rw [rcb]; rfl) ?_
        refine lv_iload_n hx hb dX12_give_32 rfl (lv_at hl 1 rfl) ?_
        refine h_ald hx hb g tcb (by decide) so_1314 (xi_in (by rw [h_p]; omega) (by rw [h_p]; omega)) dX12_give_33 ?_
        refine xw_i (excb.symm) ?_
        refine lv_iload_n hx hb dX12_give_34 rfl (lv_at hl 2 rfl) ?_
        refine lv_icmp_ne (tgt := 41) hx hb dX12_give_35 (by decide) (fun c8 => ?_) (fun c8 => ?_)
        · have ic8 := (xi_ne c8 rfl h_c : xcb.toInt ≠ c_t)
          have hx0 : 0 ≤ xcb.toInt ∧ xcb.toInt ≤ 7 := by omega
          refine lv_aload_n hx hb dX12_give_41 rfl (lv_at hl 0 rfl) ?_
          refine lv_iload_n hx hb dX12_give_42 rfl (lv_at hl 1 rfl) ?_
          refine lv_aload_n hx hb dX12_give_43 rfl (lv_at hl 0 rfl) ?_
          refine h_get (v := .ref cb) hx hb hts iX12 hown g t_a0 (by decide) so_13 rfl 14 (by decide) (hts (.fieldLink RX12 25 "CapLeagueModel" "clubOf" "[I") (by decide +kernel)) rfl dX12_give_44 (by show va_rf (z.R a0 14) = _; rw [rcb]; rfl) ?_
          refine lv_iload_n hx hb dX12_give_47 rfl (lv_at hl 1 rfl) ?_
          refine h_ald hx hb g tcb (by decide) so_1314 (xi_in (by rw [h_p]; omega) (by rw [h_p]; omega)) dX12_give_48 ?_
          refine xw_i (excb.symm) ?_
          refine lv_iload_n hx hb dX12_give_49 rfl (lv_at hl 2 rfl) ?_
          refine lv_iconst (v := 0) hx hb dX12_give_50 (by decide) ?_
          refine va_calli (va_runV (As := [.int p, .int xcb, .int c, .int 0]) (rest := []) ⟨hx, hb, hml, hown, hts⟩ (tX12_addB l E X A z I0 L0 a0 t_a0 p (p_t) h_p (by omega) xcb (xcb.toInt) rfl (by omega) c (c_t) h_c (by omega) 0 (0) (by decide) (hft)) (cwV 4 hts gX12_give_X12_add rfl rfl rfl (by decide +kernel) ⟨Nat.le_of_ble_eq_true rfl, Nat.le_of_ble_eq_true rfl⟩) ⟨h_blind _ _ _ _ _ _ _, h_recv g t_a0 (by decide) so_13 (q := (RX12, TX12, 51)) rfl, h_pre _ hE hk hX hA hI hR g⟩ rfl rfl hl.1 rfl (lv_room (Nat.le_of_ble_eq_true rfl)) dX12_give_51 ⟨Nat.le_of_ble_eq_true rfl, Nat.le_of_ble_eq_true rfl⟩) g.2.1 (fun q _ h => h) (fun q h => h) (fun rh9 I10 t H1 locs ht hvm h9 hB hz1 hk1 hS => ?_)
          obtain ⟨hI, fh9, h9⟩ := h9
          replace g := h_after g hB ht hS
          generalize H1 = H at g
          clear hB hk1 hz1 ht hvm hS
          have hF := hF.call fh9 rfl
          have h9p0 := h9
          have jrh9 : -2147483648 ≤ rh9.toInt ∧ rh9.toInt ≤ 2147483647 := ⟨xi_lo _, Int.le_of_lt_add_one (xi_hi _)⟩
          have hS := g.2.1
          exact W.iret (v := rh9) hx hb hr (fun t ht hW => ⟨⟨rh9, I10, rfl, ⟨hI, hF, (by rw [acb, ← kp, ← excb]; exact Or.inr (Or.inr ⟨⟨⟨by omega, by omega⟩, by omega, by omega⟩, by omega, h9p0⟩))⟩, h_ret g ht⟩, hS.F ht⟩) hS.2.2 dX12_give_54
        · have ic8 := (xi_eq c8 rfl h_c : xcb.toInt = c_t)
          refine lv_bipush (v := (-4)) hx hb dX12_give_38 (by decide) ?_
          have hS := g.2.1
          exact W.iret (v := (-4)) hx hb hr (fun t ht hW => ⟨⟨(-4), I0, rfl, ⟨hI, hF, (by rw [acb, ← kp, ← excb]; exact Or.inr (Or.inl ⟨⟨⟨by omega, by omega⟩, by omega, by omega⟩, by omega, by decide, rfl⟩))⟩, h_ret g ht⟩, hS.F ht⟩) hS.2.2 dX12_give_40
set_option maxHeartbeats 4000000 in
set_option maxRecDepth 100000 in
theorem tX12_giveTurnB (l : Launch) (E : tE) (X : tX) (A : Nat → Prop) (z : tZ) (I0 : tI) (L0 : tL) (a0 : Nat) (t_a0 : z.ty a0 = 13) (o : Int32) (o_t : Int) (h_o : o.toInt = o_t) (y : Int32) (y_t : Int) (h_y : y.toInt = y_t) (c : Int32) (c_t : Int) (h_c : c.toInt = c_t) (k : Int32) (k_t : Int) (h_k : k.toInt = k_t) (hft : ∀ i : Nat, (i : Int) < (I0 a0 33).toInt → (0 ≤ (I0 (h_ad z a0 35) i).toInt ∧ (I0 (h_ad z a0 35) i).toInt ≤ 7) ∧ 0 ≤ (I0 (h_ad z a0 36) i).toInt ∧ (I0 (h_ad z a0 36) i).toInt ≤ 7) (hho : ∀ k : Nat, k < 80 → 0 ≤ (I0 (h_ad z a0 25) k).toInt ∧ (I0 (h_ad z a0 25) k).toInt ≤ 7) : Met l yX12_giveTurn wsX12_giveTurn ({ frames := 3, cells := 0, slots := 0, locals := 192 }) (va_Pc [.ref a0, .int o, .int y, .int c, .int k] (h_P E X A z I0 L0)) (va_Qi (fun r (I1 : tI) => h_I z I1 ∧ h_F [(1334, 999), (1335, 999), (1336, 999), (1337, 999), (13, 33)] z I0 I1 ∧ ((¬ (0 ≤ o_t ∧ o_t ≤ 7 ∧ (I0 a0 12).toInt ≤ y_t ∧ y_t ≤ 9 ∧ 0 ≤ c_t ∧ c_t ≤ 7 ∧ 0 ≤ k_t ∧ k_t ≤ 8) ∧ r.toInt = -2 ∧ I1 = I0) ∨ ((0 ≤ o_t ∧ o_t ≤ 7 ∧ (I0 a0 12).toInt ≤ y_t ∧ y_t ≤ 9 ∧ 0 ≤ c_t ∧ c_t ≤ 7 ∧ 0 ≤ k_t ∧ k_t ≤ 8) ∧ ((I0 (h_ad z a0 25) (10 * o_t + y_t).toNat).toInt = c_t ∨ (y_t = (I0 a0 12).toInt ∧ (I0 a0 31).toInt ≠ 0) ∨ 0 < (I0 (h_ad z a0 27) (10 * o_t + y_t).toNat).toInt) ∧ r.toInt = -4 ∧ I1 = I0) ∨ ((0 ≤ o_t ∧ o_t ≤ 7 ∧ (I0 a0 12).toInt ≤ y_t ∧ y_t ≤ 9 ∧ 0 ≤ c_t ∧ c_t ≤ 7 ∧ 0 ≤ k_t ∧ k_t ≤ 8) ∧ ¬ ((I0 (h_ad z a0 25) (10 * o_t + y_t).toNat).toInt = c_t ∨ (y_t = (I0 a0 12).toInt ∧ (I0 a0 31).toInt ≠ 0) ∨ 0 < (I0 (h_ad z a0 27) (10 * o_t + y_t).toNat).toInt) ∧ ∃ w : Int32, w.toInt = 60 + 10 * o_t + y_t ∧ ((((m_has I0 (h_ad z a0 34) (I0 a0 33).toInt (60 + 10 * o_t + y_t)) ∨ ¬ q_jn (q_cb (I0 (h_ad z a0 35)) (I0 (h_ad z a0 36)) (I0 a0 33).toInt.toNat) (I0 (h_ad z a0 25) (10 * o_t + y_t).toNat) c) ∧ r.toInt = -4 ∧ I1 = I0) ∨ (¬ ((m_has I0 (h_ad z a0 34) (I0 a0 33).toInt (60 + 10 * o_t + y_t)) ∨ ¬ q_jn (q_cb (I0 (h_ad z a0 35)) (I0 (h_ad z a0 36)) (I0 a0 33).toInt.toNat) (I0 (h_ad z a0 25) (10 * o_t + y_t).toNat) c) ∧ (((I0 a0 33).toInt = 12 ∧ r.toInt = -3 ∧ I1 = I0) ∨ ((I0 a0 33).toInt < 12 ∧ r.toInt = (I0 a0 33).toInt + 1 ∧ (I1 a0 33).toInt = (I0 a0 33).toInt + 1 ∧ (∀ j : Nat, I1 (h_ad z a0 34) j = if j = (I0 a0 33).toInt.toNat then w else I0 (h_ad z a0 34) j) ∧ (∀ j : Nat, I1 (h_ad z a0 35) j = if j = (I0 a0 33).toInt.toNat then (I0 (h_ad z a0 25) (10 * o_t + y_t).toNat) else I0 (h_ad z a0 35) j) ∧ (∀ j : Nat, I1 (h_ad z a0 36) j = if j = (I0 a0 33).toInt.toNat then c else I0 (h_ad z a0 36) j) ∧ (∀ j : Nat, I1 (h_ad z a0 37) j = if j = (I0 a0 33).toInt.toNat then k else I0 (h_ad z a0 37) j)))))))) (fun (I1 : tI) t => h_B E A z I1 L0 t) A) 0 0 A := by
  refine Met.ofW (cc := cX12_giveTurn) (maxL := 6) (ret := (some .int)) (by decide) rfl ?_
  intro pr_ ev_ s m args below meth cd_ s₁ B hml hv
  obtain ⟨rfl, hE, hk, hX, hA, hK, hI, hR, hB0⟩ := hv
  have g : h_G h_so h_fk E A z I0 L0 s s.heap s.heap [] := ⟨hK, va_S.rf, hB0⟩
  have hF : h_F [(1334, 999), (1335, 999), (1336, 999), (1337, 999), (13, 33)] z I0 I0 := h_F.rf
  have hx := B.exec
  have hb := B.bytes
  have hr := B.returns
  have hts := atoms_spec (ws := wsX12_giveTurn) B.pre
  have hown : s.vm.findClass RX12 = some m.cls := findClass_of_methodNamed B.named
  have hlocks := B.notSynchronized
  have iX12 : ∀ w ∈ u_ws RX12 TX12 51, w ∈ wsX12_giveTurn := by decide +kernel
  have hl := lv_entry ([.ref a0, .int o, .int y, .int c, .int k]) (n := 6) (Nat.le_of_ble_eq_true rfl)
  rw [lg_entry_eq]
  generalize (lg_sl ([.ref a0, .int o, .int y, .int c, .int k]) ++ List.replicate (6 - (lg_sl ([.ref a0, .int o, .int y, .int c, .int k])).length) Slot.unset).toArray = ls at hl ⊢
  have hl : lv_has ls 6 [(0, .ref a0), (1, .int o), (2, .int y), (3, .int c), (4, .int k)] := hl
  have b_o : -2147483648 ≤ o_t ∧ o_t ≤ 2147483647 := h_o ▸ ⟨xi_lo o, Int.le_of_lt_add_one (xi_hi o)⟩
  have b_y : -2147483648 ≤ y_t ∧ y_t ≤ 2147483647 := h_y ▸ ⟨xi_lo y, Int.le_of_lt_add_one (xi_hi y)⟩
  have b_c : -2147483648 ≤ c_t ∧ c_t ≤ 2147483647 := h_c ▸ ⟨xi_lo c, Int.le_of_lt_add_one (xi_hi c)⟩
  have b_k : -2147483648 ≤ k_t ∧ k_t ≤ 2147483647 := h_k ▸ ⟨xi_lo k, Int.le_of_lt_add_one (xi_hi k)⟩
  obtain ⟨ow, row, tow⟩ := hR.at a0 25 t_a0 (rfl : h_rs 13 25 = some (1325, false)) (by decide)
  have aow : h_ad z a0 25 = ow := h_ad.at row
  obtain ⟨gu, rgu, tgu⟩ := hR.at a0 27 t_a0 (rfl : h_rs 13 27 = some (1327, false)) (by decide)
  have agu : h_ad z a0 27 = gu := h_ad.at rgu
  obtain ⟨f0_12, ef0_12⟩ : ∃ v : Int32, v = I0 a0 12 := ⟨_, rfl⟩
  have qf0_12 : (I0 a0 12).toInt = f0_12.toInt := congrArg Int32.toInt ef0_12.symm
  have jf0_12 := hI.rd a0 12 t_a0 ef0_12 (rfl : h_bd 13 12 = (0, 9))
  obtain ⟨f0_31, ef0_31⟩ : ∃ v : Int32, v = I0 a0 31 := ⟨_, rfl⟩
  have qf0_31 : (I0 a0 31).toInt = f0_31.toInt := congrArg Int32.toInt ef0_31.symm
  have jf0_31 := hI.rd a0 31 t_a0 ef0_31 (rfl : h_bd 13 31 = (0, 1))
  obtain ⟨f0_33, ef0_33⟩ : ∃ v : Int32, v = I0 a0 33 := ⟨_, rfl⟩
  have qf0_33 : (I0 a0 33).toInt = f0_33.toInt := congrArg Int32.toInt ef0_33.symm
  have jf0_33 := hI.rd a0 33 t_a0 ef0_33 (rfl : h_bd 13 33 = (0, 12))
  rw [aow] at hho
  refine lv_iload_n hx hb dX12_giveTurn_0 rfl (lv_at hl 1 rfl) ?_
  refine vp_callSi (W.runS (As := [.int o]) (rest := []) ⟨hx, hb, hml, hown, hts⟩ (tX12_isClub l E X A z I0 L0 o (o_t) h_o) (va_cwS 1 hts gX12_giveTurn_X12_isClub rfl rfl rfl (by decide +kernel) ⟨Nat.le_of_ble_eq_true rfl, Nat.le_of_ble_eq_true rfl⟩) ⟨h_blind _ _ _ _ _ _ _, h_pre _ hE hk hX hA hI hR g⟩ rfl rfl hl.1 rfl (lv_room (Nat.le_of_ble_eq_true rfl)) dX12_giveTurn_1 ⟨Nat.le_of_ble_eq_true rfl, Nat.le_of_ble_eq_true rfl⟩) (fun rh1 h1 => ?_)
  rcases h1 with ⟨rfl, h1⟩ | ⟨rfl, h1⟩
  · skip
    refine lv_if_eq (tgt := 43) hx hb dX12_giveTurn_4 (by decide) (fun _ => ?_) (fun h => absurd (by decide) h)
    refine lv_bipush (v := (-2)) hx hb dX12_giveTurn_43 (by decide) ?_
    have hS := g.2.1
    exact W.iret (v := (-2)) hx hb hr (fun t ht hW => ⟨⟨(-2), I0, rfl, ⟨hI, hF, (by rw [aow, agu, qf0_12, qf0_31]; exact Or.inl ⟨by omega, by decide, rfl⟩)⟩, h_ret g ht⟩, hS.F ht⟩) hS.2.2 dX12_giveTurn_45
  · skip
    refine lv_if_eq (tgt := 43) hx hb dX12_giveTurn_4 (by decide) (fun h => absurd h (by decide)) (fun _ => ?_)
    refine lv_iload_n hx hb dX12_giveTurn_7 rfl (lv_at hl 2 rfl) ?_
    refine lv_i2l hx hb dX12_giveTurn_8 rfl ?_
    refine lv_topl (fun v4 ev4 => ?_)
    have jv4 : v4.toInt = y_t := by rw [ev4, xi_64]; exact h_y
    refine lv_aload_n hx hb dX12_giveTurn_9 rfl (lv_at hl 0 rfl) ?_
    refine h_get (v := .int f0_12) hx hb hts iX12 hown g t_a0 (by decide) so_13 rfl 12 (by decide) (hts (.fieldLink RX12 187 "CapLeagueModel" "clock" "I") (by decide +kernel)) rfl dX12_giveTurn_10 (congrArg Value.int (ef0_12.symm)) ?_
    refine lv_i2l hx hb dX12_giveTurn_13 rfl ?_
    refine lv_topl (fun v5 ev5 => ?_)
    have jv5 : v5.toInt = f0_12.toInt := by rw [ev5, xi_64]
    refine lv_ldc2 (v := 9) hx hb hown (hts (.constantLong RX12 190 (9)) (by decide +kernel)) dX12_giveTurn_14 ?_
    refine vp_callSi (W.runS (As := [.long v4, .long v5, .long 9]) (rest := []) ⟨hx, hb, hml, hown, hts⟩ (tX12_in l E X A z I0 L0 v4 (y_t) jv4 v5 (f0_12.toInt) jv5 9 (9) (by decide)) (va_cwS 3 hts gX12_giveTurn_X12_in rfl rfl rfl (by decide +kernel) ⟨Nat.le_of_ble_eq_true rfl, Nat.le_of_ble_eq_true rfl⟩) ⟨h_blind _ _ _ _ _ _ _, h_pre _ hE hk hX hA hI hR g⟩ rfl rfl hl.1 rfl (lv_room (Nat.le_of_ble_eq_true rfl)) dX12_giveTurn_17 ⟨Nat.le_of_ble_eq_true rfl, Nat.le_of_ble_eq_true rfl⟩) (fun rh6 h6 => ?_)
    rcases h6 with ⟨rfl, h6⟩ | ⟨rfl, h6⟩
    · skip
      refine lv_if_eq (tgt := 43) hx hb dX12_giveTurn_20 (by decide) (fun _ => ?_) (fun h => absurd (by decide) h)
      refine lv_bipush (v := (-2)) hx hb dX12_giveTurn_43 (by decide) ?_
      have hS := g.2.1
      exact W.iret (v := (-2)) hx hb hr (fun t ht hW => ⟨⟨(-2), I0, rfl, ⟨hI, hF, (by rw [aow, agu, qf0_12, qf0_31]; exact Or.inl ⟨by omega, by decide, rfl⟩)⟩, h_ret g ht⟩, hS.F ht⟩) hS.2.2 dX12_giveTurn_45
    · skip
      refine lv_if_eq (tgt := 43) hx hb dX12_giveTurn_20 (by decide) (fun h => absurd h (by decide)) (fun _ => ?_)
      refine lv_iload_n hx hb dX12_giveTurn_23 rfl (lv_at hl 3 rfl) ?_
      refine vp_callSi (W.runS (As := [.int c]) (rest := []) ⟨hx, hb, hml, hown, hts⟩ (tX12_isClub l E X A z I0 L0 c (c_t) h_c) (va_cwS 1 hts gX12_giveTurn_X12_isClub rfl rfl rfl (by decide +kernel) ⟨Nat.le_of_ble_eq_true rfl, Nat.le_of_ble_eq_true rfl⟩) ⟨h_blind _ _ _ _ _ _ _, h_pre _ hE hk hX hA hI hR g⟩ rfl rfl hl.1 rfl (lv_room (Nat.le_of_ble_eq_true rfl)) dX12_giveTurn_24 ⟨Nat.le_of_ble_eq_true rfl, Nat.le_of_ble_eq_true rfl⟩) (fun rh9 h9 => ?_)
      rcases h9 with ⟨rfl, h9⟩ | ⟨rfl, h9⟩
      · skip
        refine lv_if_eq (tgt := 43) hx hb dX12_giveTurn_27 (by decide) (fun _ => ?_) (fun h => absurd (by decide) h)
        refine lv_bipush (v := (-2)) hx hb dX12_giveTurn_43 (by decide) ?_
        have hS := g.2.1
        exact W.iret (v := (-2)) hx hb hr (fun t ht hW => ⟨⟨(-2), I0, rfl, ⟨hI, hF, (by rw [aow, agu, qf0_12, qf0_31]; exact Or.inl ⟨by omega, by decide, rfl⟩)⟩, h_ret g ht⟩, hS.F ht⟩) hS.2.2 dX12_giveTurn_45
      · skip
        refine lv_if_eq (tgt := 43) hx hb dX12_giveTurn_27 (by decide) (fun h => absurd h (by decide)) (fun _ => ?_)
        refine lv_iload hx hb dX12_giveTurn_30 (lv_at hl 4 rfl) ?_
        refine lv_i2l hx hb dX12_giveTurn_32 rfl ?_
        refine lv_topl (fun v12 ev12 => ?_)
        have jv12 : v12.toInt = k_t := by rw [ev12, xi_64]; exact h_k
        refine lv_lconst (v := 0) hx hb dX12_giveTurn_33 (by decide) ?_
        refine lv_ldc2 (v := 8) hx hb hown (hts (.constantLong RX12 195 (8)) (by decide +kernel)) dX12_giveTurn_34 ?_
        refine vp_callSi (W.runS (As := [.long v12, .long 0, .long 8]) (rest := []) ⟨hx, hb, hml, hown, hts⟩ (tX12_in l E X A z I0 L0 v12 (k_t) jv12 0 (0) (by decide) 8 (8) (by decide)) (va_cwS 3 hts gX12_giveTurn_X12_in rfl rfl rfl (by decide +kernel) ⟨Nat.le_of_ble_eq_true rfl, Nat.le_of_ble_eq_true rfl⟩) ⟨h_blind _ _ _ _ _ _ _, h_pre _ hE hk hX hA hI hR g⟩ rfl rfl hl.1 rfl (lv_room (Nat.le_of_ble_eq_true rfl)) dX12_giveTurn_37 ⟨Nat.le_of_ble_eq_true rfl, Nat.le_of_ble_eq_true rfl⟩) (fun rh13 h13 => ?_)
        rcases h13 with ⟨rfl, h13⟩ | ⟨rfl, h13⟩
        · skip
          refine lv_if_ne (tgt := 46) hx hb dX12_giveTurn_40 (by decide) (fun h => absurd (by decide) h) (fun _ => ?_)
          refine lv_bipush (v := (-2)) hx hb dX12_giveTurn_43 (by decide) ?_
          have hS := g.2.1
          exact W.iret (v := (-2)) hx hb hr (fun t ht hW => ⟨⟨(-2), I0, rfl, ⟨hI, hF, (by rw [aow, agu, qf0_12, qf0_31]; exact Or.inl ⟨by omega, by decide, rfl⟩)⟩, h_ret g ht⟩, hS.F ht⟩) hS.2.2 dX12_giveTurn_45
        · skip
          refine lv_if_ne (tgt := 46) hx hb dX12_giveTurn_40 (by decide) (fun _ => ?_) (fun h => absurd h (by decide))
          refine lv_bipush (v := 10) hx hb dX12_giveTurn_46 (by decide) ?_
          refine lv_iload_n hx hb dX12_giveTurn_48 rfl (lv_at hl 1 rfl) ?_
          refine lv_imul hx hb dX12_giveTurn_49 ?_
          refine lv_topi (fun v16 ev16 => ?_)
          have jv16 : v16.toInt = 10 * o_t := xi_mul ev16 (by decide) h_o (by omega) (by omega)
          refine lv_iload_n hx hb dX12_giveTurn_50 rfl (lv_at hl 2 rfl) ?_
          refine lv_iadd hx hb dX12_giveTurn_51 ?_
          refine lv_topi (fun v17 ev17 => ?_)
          have jv17 : v17.toInt = v16.toInt + y_t := xi_add ev17 rfl h_y (by omega) (by omega)
          refine lv_istore (lv' := [(5, .int v17), (0, .ref a0), (1, .int o), (2, .int y), (3, .int c), (4, .int k)]) hx hb dX12_giveTurn_52 hl (by decide) rfl (fun ls hl => ?_)
          refine lv_aload_n hx hb dX12_giveTurn_54 rfl (lv_at hl 1 rfl) ?_
          refine h_get (v := .ref ow) hx hb hts iX12 hown g t_a0 (by decide) so_13 rfl 25 (by decide) (hts (.fieldLink RX12 58 "CapLeagueModel" "owner" "[I") (by decide +kernel)) rfl dX12_giveTurn_55 (by show va_rf (z.R a0 25) = _; rw [row]; rfl) ?_
          refine lv_iload hx hb dX12_giveTurn_58 (lv_at hl 0 rfl) ?_
          refine h_ald hx hb g tow (by decide) so_1325 (xi_in (by omega) (by omega)) dX12_giveTurn_60 ?_
          refine lv_topi (fun v18 ev18 => ?_)
          have jv18 := hI.rd ow v17.toNatClampNeg tow ev18 (rfl : h_bd 1325 _ = ((-2147483648), 2147483647))
          have kk : v17.toNatClampNeg = (10 * o_t + y_t).toNat := h_keq (t := v17.toInt) rfl (by omega) (by omega)
          have ek : I0 ow (10 * o_t + y_t).toNat = v18 := by rw [← kk]; exact ev18.symm
          have mh : 0 ≤ v18.toInt ∧ v18.toInt ≤ 7 := by rw [← ek]; exact hho _ (by omega)
          refine lv_iload_n hx hb dX12_giveTurn_61 rfl (lv_at hl 4 rfl) ?_
          refine lv_icmp_eq (tgt := 90) hx hb dX12_giveTurn_62 (by decide) (fun c19 => ?_) (fun c19 => ?_)
          · have ic19 := (xi_eq c19 rfl h_c : v18.toInt = c_t)
            refine lv_bipush (v := (-4)) hx hb dX12_giveTurn_90 (by decide) ?_
            have hS := g.2.1
            exact W.iret (v := (-4)) hx hb hr (fun t ht hW => ⟨⟨(-4), I0, rfl, ⟨hI, hF, (by rw [aow, agu, qf0_12, qf0_31]; rw [ek]; exact Or.inr (Or.inl ⟨⟨by omega, by omega, by omega, by omega, by omega, by omega, by omega, by omega⟩, Or.inl (by omega), by decide, rfl⟩))⟩, h_ret g ht⟩, hS.F ht⟩) hS.2.2 dX12_giveTurn_92
          · have ic19 := (xi_ne c19 rfl h_c : v18.toInt ≠ c_t)
            refine lv_iload_n hx hb dX12_giveTurn_65 rfl (lv_at hl 3 rfl) ?_
            refine lv_aload_n hx hb dX12_giveTurn_66 rfl (lv_at hl 1 rfl) ?_
            refine h_get (v := .int f0_12) hx hb hts iX12 hown g t_a0 (by decide) so_13 rfl 12 (by decide) (hts (.fieldLink RX12 187 "CapLeagueModel" "clock" "I") (by decide +kernel)) rfl dX12_giveTurn_67 (congrArg Value.int (ef0_12.symm)) ?_
            refine lv_icmp_ne (tgt := 80) hx hb dX12_giveTurn_70 (by decide) (fun c20 => ?_) (fun c20 => ?_)
            · have ic20 := (xi_ne c20 h_y rfl : y_t ≠ f0_12.toInt)
              refine lv_aload_n hx hb dX12_giveTurn_80 rfl (lv_at hl 1 rfl) ?_
              refine h_get (v := .ref gu) hx hb hts iX12 hown g t_a0 (by decide) so_13 rfl 27 (by decide) (hts (.fieldLink RX12 64 "CapLeagueModel" "guarded" "[I") (by decide +kernel)) rfl dX12_giveTurn_81 (by show va_rf (z.R a0 27) = _; rw [rgu]; rfl) ?_
              refine lv_iload hx hb dX12_giveTurn_84 (lv_at hl 0 rfl) ?_
              refine h_ald hx hb g tgu (by decide) so_1327 (xi_in (by omega) (by omega)) dX12_giveTurn_86 ?_
              refine lv_topi (fun v21 ev21 => ?_)
              have jv21 := hI.rd gu v17.toNatClampNeg tgu ev21 (rfl : h_bd 1327 _ = ((-2147483648), 2147483647))
              have es : I0 gu (10 * o_t + y_t).toNat = v21 := by rw [← kk]; exact ev21.symm
              refine lv_if_le (tgt := 93) hx hb dX12_giveTurn_87 (by decide) (fun c22 => ?_) (fun c22 => ?_)
              · have ic22 := (xi_le c22 rfl (by decide) : v21.toInt ≤ 0)
                refine lv_aload_n hx hb dX12_giveTurn_93 rfl (lv_at hl 1 rfl) ?_
                refine lv_bipush (v := 60) hx hb dX12_giveTurn_94 (by decide) ?_
                refine lv_iload hx hb dX12_giveTurn_96 (lv_at hl 0 rfl) ?_
                refine lv_iadd hx hb dX12_giveTurn_98 ?_
                refine lv_topi (fun v23 ev23 => ?_)
                have jv23 : v23.toInt = 60 + v17.toInt := xi_add ev23 (by decide) rfl (by omega) (by omega)
                refine lv_aload_n hx hb dX12_giveTurn_99 rfl (lv_at hl 1 rfl) ?_
                refine h_get (v := .ref ow) hx hb hts iX12 hown g t_a0 (by decide) so_13 rfl 25 (by decide) (hts (.fieldLink RX12 58 "CapLeagueModel" "owner" "[I") (by decide +kernel)) rfl dX12_giveTurn_100 (by show va_rf (z.R a0 25) = _; rw [row]; rfl) ?_
                refine lv_iload hx hb dX12_giveTurn_103 (lv_at hl 0 rfl) ?_
                refine h_ald hx hb g tow (by decide) so_1325 (xi_in (by omega) (by omega)) dX12_giveTurn_105 ?_
                refine xw_i (ev18.symm) ?_
                refine lv_iload_n hx hb dX12_giveTurn_106 rfl (lv_at hl 4 rfl) ?_
                refine lv_iload hx hb dX12_giveTurn_107 (lv_at hl 5 rfl) ?_
                refine va_calli (va_runV (As := [.int v23, .int v18, .int c, .int k]) (rest := []) ⟨hx, hb, hml, hown, hts⟩ (tX12_addB l E X A z I0 L0 a0 t_a0 v23 (v23.toInt) rfl (by omega) v18 (v18.toInt) rfl (by omega) c (c_t) h_c (by omega) k (k_t) h_k (hft)) (cwV 4 hts gX12_giveTurn_X12_add rfl rfl rfl (by decide +kernel) ⟨Nat.le_of_ble_eq_true rfl, Nat.le_of_ble_eq_true rfl⟩) ⟨h_blind _ _ _ _ _ _ _, h_recv g t_a0 (by decide) so_13 (q := (RX12, TX12, 51)) rfl, h_pre _ hE hk hX hA hI hR g⟩ rfl rfl hl.1 rfl (lv_room (Nat.le_of_ble_eq_true rfl)) dX12_giveTurn_109 ⟨Nat.le_of_ble_eq_true rfl, Nat.le_of_ble_eq_true rfl⟩) g.2.1 (fun q _ h => h) (fun q h => h) (fun rh24 I25 t H1 locs ht hvm h24 hB hz1 hk1 hS => ?_)
                obtain ⟨hI, fh24, h24⟩ := h24
                replace g := h_after g hB ht hS
                generalize H1 = H at g
                clear hB hk1 hz1 ht hvm hS
                have hF := hF.call fh24 rfl
                have h24p0 := h24
                have jrh24 : -2147483648 ≤ rh24.toInt ∧ rh24.toInt ≤ 2147483647 := ⟨xi_lo _, Int.le_of_lt_add_one (xi_hi _)⟩
                rw [show (v23.toInt) = 60 + 10 * o_t + y_t by omega] at h24p0
                have hS := g.2.1
                exact W.iret (v := rh24) hx hb hr (fun t ht hW => ⟨⟨rh24, I25, rfl, ⟨hI, hF, (by rw [aow, agu, qf0_12, qf0_31]; rw [ek]; rw [es]; exact Or.inr (Or.inr ⟨⟨by omega, by omega, by omega, by omega, by omega, by omega, by omega, by omega⟩, by omega, v23, by omega, h24p0⟩))⟩, h_ret g ht⟩, hS.F ht⟩) hS.2.2 dX12_giveTurn_112
              · have ic22 := (xi_nle c22 rfl (by decide) : 0 < v21.toInt)
                refine lv_bipush (v := (-4)) hx hb dX12_giveTurn_90 (by decide) ?_
                have hS := g.2.1
                exact W.iret (v := (-4)) hx hb hr (fun t ht hW => ⟨⟨(-4), I0, rfl, ⟨hI, hF, (by rw [aow, agu, qf0_12, qf0_31]; rw [ek]; rw [es]; exact Or.inr (Or.inl ⟨⟨by omega, by omega, by omega, by omega, by omega, by omega, by omega, by omega⟩, by omega, by decide, rfl⟩))⟩, h_ret g ht⟩, hS.F ht⟩) hS.2.2 dX12_giveTurn_92
            · have ic20 := (xi_eq c20 h_y rfl : y_t = f0_12.toInt)
              refine lv_aload_n hx hb dX12_giveTurn_73 rfl (lv_at hl 1 rfl) ?_
              refine h_get (v := .int f0_31) hx hb hts iX12 hown g t_a0 (by decide) so_13 rfl 31 (by decide) (hts (.fieldLink RX12 264 "CapLeagueModel" "isDrawn" "Z") (by decide +kernel)) rfl dX12_giveTurn_74 (congrArg Value.int (ef0_31.symm)) ?_
              refine lv_if_ne (tgt := 90) hx hb dX12_giveTurn_77 (by decide) (fun c26 => ?_) (fun c26 => ?_)
              · have ic26 := (xi_ne c26 rfl (by decide) : f0_31.toInt ≠ 0)
                refine lv_bipush (v := (-4)) hx hb dX12_giveTurn_90 (by decide) ?_
                have hS := g.2.1
                exact W.iret (v := (-4)) hx hb hr (fun t ht hW => ⟨⟨(-4), I0, rfl, ⟨hI, hF, (by rw [aow, agu, qf0_12, qf0_31]; rw [ek]; exact Or.inr (Or.inl ⟨⟨by omega, by omega, by omega, by omega, by omega, by omega, by omega, by omega⟩, Or.inr (Or.inl ⟨by omega, by omega⟩), by decide, rfl⟩))⟩, h_ret g ht⟩, hS.F ht⟩) hS.2.2 dX12_giveTurn_92
              · have ic26 := (xi_eq c26 rfl (by decide) : f0_31.toInt = 0)
                refine lv_aload_n hx hb dX12_giveTurn_80 rfl (lv_at hl 1 rfl) ?_
                refine h_get (v := .ref gu) hx hb hts iX12 hown g t_a0 (by decide) so_13 rfl 27 (by decide) (hts (.fieldLink RX12 64 "CapLeagueModel" "guarded" "[I") (by decide +kernel)) rfl dX12_giveTurn_81 (by show va_rf (z.R a0 27) = _; rw [rgu]; rfl) ?_
                refine lv_iload hx hb dX12_giveTurn_84 (lv_at hl 0 rfl) ?_
                refine h_ald hx hb g tgu (by decide) so_1327 (xi_in (by omega) (by omega)) dX12_giveTurn_86 ?_
                refine lv_topi (fun v27 ev27 => ?_)
                have jv27 := hI.rd gu v17.toNatClampNeg tgu ev27 (rfl : h_bd 1327 _ = ((-2147483648), 2147483647))
                have es : I0 gu (10 * o_t + y_t).toNat = v27 := by rw [← kk]; exact ev27.symm
                refine lv_if_le (tgt := 93) hx hb dX12_giveTurn_87 (by decide) (fun c28 => ?_) (fun c28 => ?_)
                · have ic28 := (xi_le c28 rfl (by decide) : v27.toInt ≤ 0)
                  refine lv_aload_n hx hb dX12_giveTurn_93 rfl (lv_at hl 1 rfl) ?_
                  refine lv_bipush (v := 60) hx hb dX12_giveTurn_94 (by decide) ?_
                  refine lv_iload hx hb dX12_giveTurn_96 (lv_at hl 0 rfl) ?_
                  refine lv_iadd hx hb dX12_giveTurn_98 ?_
                  refine lv_topi (fun v29 ev29 => ?_)
                  have jv29 : v29.toInt = 60 + v17.toInt := xi_add ev29 (by decide) rfl (by omega) (by omega)
                  refine lv_aload_n hx hb dX12_giveTurn_99 rfl (lv_at hl 1 rfl) ?_
                  refine h_get (v := .ref ow) hx hb hts iX12 hown g t_a0 (by decide) so_13 rfl 25 (by decide) (hts (.fieldLink RX12 58 "CapLeagueModel" "owner" "[I") (by decide +kernel)) rfl dX12_giveTurn_100 (by show va_rf (z.R a0 25) = _; rw [row]; rfl) ?_
                  refine lv_iload hx hb dX12_giveTurn_103 (lv_at hl 0 rfl) ?_
                  refine h_ald hx hb g tow (by decide) so_1325 (xi_in (by omega) (by omega)) dX12_giveTurn_105 ?_
                  refine xw_i (ev18.symm) ?_
                  refine lv_iload_n hx hb dX12_giveTurn_106 rfl (lv_at hl 4 rfl) ?_
                  refine lv_iload hx hb dX12_giveTurn_107 (lv_at hl 5 rfl) ?_
                  refine va_calli (va_runV (As := [.int v29, .int v18, .int c, .int k]) (rest := []) ⟨hx, hb, hml, hown, hts⟩ (tX12_addB l E X A z I0 L0 a0 t_a0 v29 (v29.toInt) rfl (by omega) v18 (v18.toInt) rfl (by omega) c (c_t) h_c (by omega) k (k_t) h_k (hft)) (cwV 4 hts gX12_giveTurn_X12_add rfl rfl rfl (by decide +kernel) ⟨Nat.le_of_ble_eq_true rfl, Nat.le_of_ble_eq_true rfl⟩) ⟨h_blind _ _ _ _ _ _ _, h_recv g t_a0 (by decide) so_13 (q := (RX12, TX12, 51)) rfl, h_pre _ hE hk hX hA hI hR g⟩ rfl rfl hl.1 rfl (lv_room (Nat.le_of_ble_eq_true rfl)) dX12_giveTurn_109 ⟨Nat.le_of_ble_eq_true rfl, Nat.le_of_ble_eq_true rfl⟩) g.2.1 (fun q _ h => h) (fun q h => h) (fun rh30 I31 t H1 locs ht hvm h30 hB hz1 hk1 hS => ?_)
                  obtain ⟨hI, fh30, h30⟩ := h30
                  replace g := h_after g hB ht hS
                  generalize H1 = H at g
                  clear hB hk1 hz1 ht hvm hS
                  have hF := hF.call fh30 rfl
                  have h30p0 := h30
                  have jrh30 : -2147483648 ≤ rh30.toInt ∧ rh30.toInt ≤ 2147483647 := ⟨xi_lo _, Int.le_of_lt_add_one (xi_hi _)⟩
                  rw [show (v29.toInt) = 60 + 10 * o_t + y_t by omega] at h30p0
                  have hS := g.2.1
                  exact W.iret (v := rh30) hx hb hr (fun t ht hW => ⟨⟨rh30, I31, rfl, ⟨hI, hF, (by rw [aow, agu, qf0_12, qf0_31]; rw [ek]; rw [es]; exact Or.inr (Or.inr ⟨⟨by omega, by omega, by omega, by omega, by omega, by omega, by omega, by omega⟩, by omega, v29, by omega, h30p0⟩))⟩, h_ret g ht⟩, hS.F ht⟩) hS.2.2 dX12_giveTurn_112
                · have ic28 := (xi_nle c28 rfl (by decide) : 0 < v27.toInt)
                  refine lv_bipush (v := (-4)) hx hb dX12_giveTurn_90 (by decide) ?_
                  have hS := g.2.1
                  exact W.iret (v := (-4)) hx hb hr (fun t ht hW => ⟨⟨(-4), I0, rfl, ⟨hI, hF, (by rw [aow, agu, qf0_12, qf0_31]; rw [ek]; rw [es]; exact Or.inr (Or.inl ⟨⟨by omega, by omega, by omega, by omega, by omega, by omega, by omega, by omega⟩, by omega, by decide, rfl⟩))⟩, h_ret g ht⟩, hS.F ht⟩) hS.2.2 dX12_giveTurn_92

