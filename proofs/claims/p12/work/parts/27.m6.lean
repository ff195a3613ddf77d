set_option maxHeartbeats 4000000 in
set_option maxRecDepth 100000 in
theorem tX12_drawnByC (l : Launch) (E : tE) (X : tX) (A : Nat → Prop) (z : tZ) (I0 : tI) (L0 : tL) (a0 : Nat) (t_a0 : z.ty a0 = 13) (x : Int32) (x_t : Int) (h_x : x.toInt = x_t) (b_x : 0 ≤ x_t ∧ x_t ≤ 2147483647) (q : Nat) (hq : h_blk (I0 (h_ad z a0 11)) (I0 a0 12).toNatClampNeg q) (hx1 : x_t < h_sum (h_wo (I0 (h_ad z a0 10)) q (I0 (h_ad z a0 48))) (h_lt0 (I0 (h_ad z a0 10)) q).toNat) : Met l yX12_drawnBy wsX12_drawnBy ({ frames := 4, cells := 0, slots := 0, locals := 256 }) (va_Pc [.ref a0, .int x] (h_P E X A z I0 L0)) (vp_Si (fun r => (0 ≤ r.toInt ∧ r.toInt ≤ 6) ∧ (r.toInt < h_lt0 (I0 (h_ad z a0 10)) q) ∧ (I0 (h_ad z a0 48) r.toInt.toNat = 0) ∧ (h_hit (h_wo (I0 (h_ad z a0 10)) q (I0 (h_ad z a0 48))) x_t r.toInt.toNat))) 0 0 (fun _ => False) := by
  refine Met.ofW (cc := cX12_drawnBy) (maxL := 4) (ret := (some .int)) (by decide) rfl ?_
  intro pr_ ev_ s m args below meth cd_ s₁ B hml hv
  obtain ⟨rfl, hE, hk, hX, hA, hK, hI, hR, hB0⟩ := hv
  have g : h_G h_so h_fk E A z I0 L0 s s.heap s.heap [] := ⟨hK, va_S.rf, hB0⟩
  have hx := B.exec
  have hb := B.bytes
  have hr := B.returns
  have hts := atoms_spec (ws := wsX12_drawnBy) B.pre
  have hown : s.vm.findClass RX12 = some m.cls := findClass_of_methodNamed B.named
  have hlocks := B.notSynchronized
  have iX12 : ∀ w ∈ u_ws RX12 TX12 51, w ∈ wsX12_drawnBy := by decide +kernel
  have hl := lv_entry ([.ref a0, .int x]) (n := 4) (Nat.le_of_ble_eq_true rfl)
  rw [lg_entry_eq]
  generalize (lg_sl ([.ref a0, .int x]) ++ List.replicate (4 - (lg_sl ([.ref a0, .int x])).length) Slot.unset).toArray = ls at hl ⊢
  have hl : lv_has ls 4 [(0, .ref a0), (1, .int x)] := hl
  obtain ⟨lw, rlw, tlw⟩ := hR.at a0 10 t_a0 (rfl : h_rs 13 10 = some (1310, false)) (by decide)
  have alw : h_ad z a0 10 = lw := h_ad.at rlw
  obtain ⟨ot, rot, tot⟩ := hR.at a0 48 t_a0 (rfl : h_rs 13 48 = some (1348, false)) (by decide)
  have aot : h_ad z a0 48 = ot := h_ad.at rot
  obtain ⟨f0_12, ef0_12⟩ : ∃ v : Int32, v = I0 a0 12 := ⟨_, rfl⟩
  have qf0_12 : (I0 a0 12).toInt = f0_12.toInt := congrArg Int32.toInt ef0_12.symm
  have jf0_12 := hI.rd a0 12 t_a0 ef0_12 (rfl : h_bd 13 12 = (0, 9))
  rw [alw, aot] at hx1
  have hlb := h_lt0_b (q := q) hI tlw
  refine lv_iload_n hx hb dX12_drawnBy_0 rfl (lv_at hl 1 rfl) ?_
  refine lv_istore_n (lv' := [(2, .int x), (0, .ref a0), (1, .int x)]) hx hb dX12_drawnBy_1 rfl hl (by decide) rfl (fun ls hl => ?_)
  refine lv_iconst (v := 0) hx hb dX12_drawnBy_2 (by decide) ?_
  refine lv_istore_n (lv' := [(3, .int 0), (2, .int x), (0, .ref a0), (1, .int x)]) hx hb dX12_drawnBy_3 rfl hl (by decide) rfl (fun ls hl => ?_)
  have loop4_0 : ∀ (n : Nat) (ls : Array Slot) (v1 v2 : Int32), lv_has ls 4 [(0, .ref a0), (2, .int v1), (3, .int v2)] → (0 ≤ v1.toInt ∧ v1.toInt ≤ 2147483647) → (0 ≤ v2.toInt ∧ v2.toInt ≤ 7) → (v1.toInt = x_t - h_sum (h_wo (I0 lw) q (I0 ot)) (v2.toInt).toNat) → (0 ≤ v1.toInt) → (v2.toInt ≤ h_lt0 (I0 lw) q) → (7 - v2.toInt) < (n : Int) → W pr_ l ev_ (headSpec wsX12_drawnBy ({ frames := 4, cells := 0, slots := 0, locals := 256 })).room s m ([.ref a0, .int x] : List Value).toArray below meth cd_ s.heap [] 0 0 (MQ below (vp_Si (fun r => (0 ≤ r.toInt ∧ r.toInt ≤ 6) ∧ (r.toInt < h_lt0 (I0 (h_ad z a0 10)) q) ∧ (I0 (h_ad z a0 48) r.toInt.toNat = 0) ∧ (h_hit (h_wo (I0 (h_ad z a0 10)) q (I0 (h_ad z a0 48))) x_t r.toInt.toNat))) ([.ref a0, .int x] : List Value).toArray s 0 0 (fun _ => False)) (F0 m 4 ls []) := by
    intro n
    induction n with
    | zero => intro ls v1 v2 hl jv1 jv2 hx4_0 hx4_1 hx4_2 hn; exact absurd hn (by omega)
    | succ n ih4 =>
      intro ls v1 v2 hl jv1 jv2 hx4_0 hx4_1 hx4_2 hn
      refine lv_iload_n hx hb dX12_drawnBy_4 rfl (lv_at hl 2 rfl) ?_
      refine lv_aload_n hx hb dX12_drawnBy_5 rfl (lv_at hl 0 rfl) ?_
      refine vp_callSi (W.runV (As := []) (rest := [.int v2]) ⟨hx, hb, hml, hown, hts⟩ (tX12_lotsC l E X A z I0 L0 a0 t_a0 (q) (hq)) (cwV 0 hts gX12_drawnBy_X12_lots rfl rfl rfl (by decide +kernel) ⟨Nat.le_of_ble_eq_true rfl, Nat.le_of_ble_eq_true rfl⟩) ⟨h_blind _ _ _ _ _ _ _, h_recv g t_a0 (by decide) so_13 (q := (RX12, TX12, 51)) rfl, h_pre _ hE hk hX hA hI hR g⟩ rfl rfl hl.1 rfl (lv_room (Nat.le_of_ble_eq_true rfl)) dX12_drawnBy_6 ⟨Nat.le_of_ble_eq_true rfl, Nat.le_of_ble_eq_true rfl⟩) (fun rh3 h3 => ?_)
      obtain ⟨h3, h3p0⟩ := h3
      rw [alw] at h3p0
      refine lv_icmp_ge (tgt := 49) hx hb dX12_drawnBy_9 (by decide) (fun c4 => ?_) (fun c4 => ?_)
      · have ic4 := (xi_le c4 rfl rfl : rh3.toInt ≤ v2.toInt)
        exfalso
        rw [show h_lt0 (I0 lw) q = v2.toInt from by omega] at hx1
        omega
      · have ic4 := (xi_nle c4 rfl rfl : v2.toInt < rh3.toInt)
        refine lv_aload_n hx hb dX12_drawnBy_12 rfl (lv_at hl 0 rfl) ?_
        refine h_get (v := .ref ot) hx hb hts iX12 hown g t_a0 (by decide) so_13 rfl 48 (by decide) (hts (.fieldLink RX12 109 "CapLeagueModel" "isOut" "[Z") (by decide +kernel)) rfl dX12_drawnBy_13 (by show va_rf (z.R a0 48) = _; rw [rot]; rfl) ?_
        refine lv_iload_n hx hb dX12_drawnBy_16 rfl (lv_at hl 2 rfl) ?_
        refine h_zald hx hb g tot (by decide) so_1348 (xi_in (by omega) (by omega)) dX12_drawnBy_17 ?_
        refine lv_topi (fun v5 ev5 => ?_)
        have jv5 := hI.rd ot v2.toNatClampNeg tot ev5 (rfl : h_bd 1348 _ = (0, 1))
        have ov5 : I0 ot (v2.toInt).toNat = v5 := ev5.symm
        refine lv_if_eq (tgt := 24) hx hb dX12_drawnBy_18 (by decide) (fun c6 => ?_) (fun c6 => ?_)
        · have ic6 := (xi_eq c6 rfl (by decide) : v5.toInt = 0)
          refine lv_iload_n hx hb dX12_drawnBy_24 rfl (lv_at hl 1 rfl) ?_
          refine lv_aload_n hx hb dX12_drawnBy_25 rfl (lv_at hl 0 rfl) ?_
          refine lv_iload_n hx hb dX12_drawnBy_26 rfl (lv_at hl 2 rfl) ?_
          refine vp_callSi (W.runV (As := [.int v2]) (rest := [.int v1]) ⟨hx, hb, hml, hown, hts⟩ (tX12_weightC l E X A z I0 L0 a0 t_a0 v2 (v2.toInt) rfl (by omega) (q) (hq)) (cwV 1 hts gX12_drawnBy_X12_weight rfl rfl rfl (by decide +kernel) ⟨Nat.le_of_ble_eq_true rfl, Nat.le_of_ble_eq_true rfl⟩) ⟨h_blind _ _ _ _ _ _ _, h_recv g t_a0 (by decide) so_13 (q := (RX12, TX12, 51)) rfl, h_pre _ hE hk hX hA hI hR g⟩ rfl rfl hl.1 rfl (lv_room (Nat.le_of_ble_eq_true rfl)) dX12_drawnBy_27 ⟨Nat.le_of_ble_eq_true rfl, Nat.le_of_ble_eq_true rfl⟩) (fun rh7 h7 => ?_)
          obtain ⟨h7, h7p0⟩ := h7
          rw [alw] at h7p0
          refine lv_icmp_ge (tgt := 35) hx hb dX12_drawnBy_30 (by decide) (fun c8 => ?_) (fun c8 => ?_)
          · have ic8 := (xi_le c8 rfl rfl : rh7.toInt ≤ v1.toInt)
            refine lv_iload_n hx hb dX12_drawnBy_35 rfl (lv_at hl 1 rfl) ?_
            refine lv_aload_n hx hb dX12_drawnBy_36 rfl (lv_at hl 0 rfl) ?_
            refine lv_iload_n hx hb dX12_drawnBy_37 rfl (lv_at hl 2 rfl) ?_
            refine vp_callSi (W.runV (As := [.int v2]) (rest := [.int v1]) ⟨hx, hb, hml, hown, hts⟩ (tX12_weightC l E X A z I0 L0 a0 t_a0 v2 (v2.toInt) rfl (by omega) (q) (hq)) (cwV 1 hts gX12_drawnBy_X12_weight rfl rfl rfl (by decide +kernel) ⟨Nat.le_of_ble_eq_true rfl, Nat.le_of_ble_eq_true rfl⟩) ⟨h_blind _ _ _ _ _ _ _, h_recv g t_a0 (by decide) so_13 (q := (RX12, TX12, 51)) rfl, h_pre _ hE hk hX hA hI hR g⟩ rfl rfl hl.1 rfl (lv_room (Nat.le_of_ble_eq_true rfl)) dX12_drawnBy_38 ⟨Nat.le_of_ble_eq_true rfl, Nat.le_of_ble_eq_true rfl⟩) (fun rh9 h9 => ?_)
            obtain ⟨h9, h9p0⟩ := h9
            rw [alw] at h9p0
            refine lv_isub hx hb dX12_drawnBy_41 ?_
            refine lv_topi (fun v10 ev10 => ?_)
            have jv10 : v10.toInt = v1.toInt - rh9.toInt := xi_sub ev10 rfl rfl (by omega) (by omega)
            refine lv_istore_n (lv' := [(2, .int v10), (0, .ref a0), (3, .int v2)]) hx hb dX12_drawnBy_42 rfl hl (by decide) rfl (fun ls hl => ?_)
            obtain ⟨v11, ev11⟩ : ∃ z : Int32, z = v2 + 1 := ⟨_, rfl⟩
            have jv11 : v11.toInt = v2.toInt + 1 := xi_add ev11 rfl (by decide) (by omega) (by omega)
            refine lv_iinc (v := v11) (lv' := [(3, .int v11), (2, .int v10), (0, .ref a0)]) hx hb dX12_drawnBy_43 hl (k := 2) rfl (by rw [ev11]; rfl) (by decide) rfl (fun ls hl => ?_)
            refine lv_goto (tgt := 4) hx hb dX12_drawnBy_46 (by decide) ?_
            exact ih4 _ v10 v11 (lv_sub hl [2, 1, 0] rfl) (by omega) (by omega) (by rw [show (v11.toInt).toNat = (v2.toInt).toNat + 1 from by omega]; show _ = x_t - (h_sum _ _ + h_wo (I0 lw) q (I0 ot) (v2.toInt).toNat); rw [h_wo_is (by rw [ov5]; exact h_k (k := 0) (by omega) (by decide))]; omega) (by omega) (by omega) (by omega)
          · have ic8 := (xi_nle c8 rfl rfl : v1.toInt < rh7.toInt)
            refine lv_iload_n hx hb dX12_drawnBy_33 rfl (lv_at hl 2 rfl) ?_
            exact W.iret (v := v2) hx hb hr (fun t ht hW => ⟨v2, rfl, ⟨⟨(by omega), (by omega)⟩, (by rw [alw]; omega), (by rw [aot, ov5]; exact h_k (k := 0) (by omega) (by decide)), (by rw [alw, aot]; refine ⟨by omega, ?_⟩; show _ < h_sum _ _ + h_wo (I0 lw) q (I0 ot) (v2.toInt).toNat; rw [h_wo_is (by rw [ov5]; exact h_k (k := 0) (by omega) (by decide))]; omega)⟩, ht⟩) (fun _ h => by cases h) dX12_drawnBy_34
        · have ic6 := (xi_ne c6 rfl (by decide) : v5.toInt ≠ 0)
          refine lv_goto (tgt := 43) hx hb dX12_drawnBy_21 (by decide) ?_
          obtain ⟨v12, ev12⟩ : ∃ z : Int32, z = v2 + 1 := ⟨_, rfl⟩
          have jv12 : v12.toInt = v2.toInt + 1 := xi_add ev12 rfl (by decide) (by omega) (by omega)
          refine lv_iinc (v := v12) (lv' := [(3, .int v12), (0, .ref a0), (2, .int v1)]) hx hb dX12_drawnBy_43 hl (k := 2) rfl (by rw [ev12]; rfl) (by decide) rfl (fun ls hl => ?_)
          refine lv_goto (tgt := 4) hx hb dX12_drawnBy_46 (by decide) ?_
          exact ih4 _ v1 v12 (lv_sub hl [1, 2, 0] rfl) (by omega) (by omega) (by rw [show (v12.toInt).toNat = (v2.toInt).toNat + 1 from by omega]; show _ = x_t - (h_sum _ _ + h_wo (I0 lw) q (I0 ot) (v2.toInt).toNat); rw [h_wo_no (by rw [ov5]; exact h_ne0 (by omega))]; omega) (by omega) (by omega) (by omega)
  have kc13 : (0 : Int32).toInt = 0 := by decide
  exact loop4_0 _ _ x (0) (lv_sub hl [2, 1, 0] rfl) (by rw [h_x]; omega) ⟨by decide, by decide⟩ (by rw [show ((0 : Int32).toInt).toNat = 0 by decide]; show _ = x_t - 0; omega) (by omega) (by omega) (show (7 - (0 : Int)) < (((7 - (0 : Int)).toNat + 1 : Nat) : Int) by omega)
set_option maxHeartbeats 4000000 in
set_option maxRecDepth 100000 in
theorem tX12_table (l : Launch) (E : tE) (X : tX) (A : Nat → Prop) (z : tZ) (I0 : tI) (L0 : tL) (a0 : Nat) (t_a0 : z.ty a0 = 13) (hJ2 : (I0 a0 30).toInt = 1 → ∀ c : Int, 0 ≤ c → c ≤ 7 → ∃ k : Nat, k < 8 ∧ (I0 (h_ad z a0 32) k).toInt = c) : Met l yX12_table wsX12_table ({ frames := 2, cells := 0, slots := 0, locals := 128 }) (va_Pc [.ref a0] (h_P E X A z I0 L0)) (va_Qi (fun r (I1 : tI) => h_I z I1 ∧ h_F [(13, 1), (1332, 999), (13, 30)] z I0 I1 ∧ ((I1 a0 30).toInt = 1 → ∀ c : Int, 0 ≤ c → c ≤ 7 → ∃ k : Nat, k < 8 ∧ (I1 (h_ad z a0 32) k).toInt = c)) (fun (I1 : tI) t => h_B E A z I1 L0 t) A) 0 0 A := by
  refine Met.ofW (cc := cX12_table) (maxL := 4) (ret := (some .int)) (by decide) rfl ?_
  intro pr_ ev_ s m args below meth cd_ s₁ B hml hv
  obtain ⟨rfl, hE, hk, hX, hA, hK, hI, hR, hB0⟩ := hv
  have g : h_G h_so h_fk E A z I0 L0 s s.heap s.heap [] := ⟨hK, va_S.rf, hB0⟩
  have hF : h_F [(13, 1), (1332, 999), (13, 30)] z I0 I0 := h_F.rf
  have hx := B.exec
  have hb := B.bytes
  have hr := B.returns
  have hts := atoms_spec (ws := wsX12_table) B.pre
  have hown : s.vm.findClass RX12 = some m.cls := findClass_of_methodNamed B.named
  have hlocks := B.notSynchronized
  have iX12 : ∀ w ∈ u_ws RX12 TX12 51, w ∈ wsX12_table := by decide +kernel
  have hl := lv_entry ([.ref a0]) (n := 4) (Nat.le_of_ble_eq_true rfl)
  rw [lg_entry_eq]
  generalize (lg_sl ([.ref a0]) ++ List.replicate (4 - (lg_sl ([.ref a0])).length) Slot.unset).toArray = ls at hl ⊢
  have hl : lv_has ls 4 [(0, .ref a0)] := hl
  obtain ⟨tp, rtp, ttp⟩ := hR.at a0 0 t_a0 (rfl : h_rs 13 0 = some (1300, false)) (by decide)
  have atp : h_ad z a0 0 = tp := h_ad.at rtp
  obtain ⟨tb, rtb, ttb⟩ := hR.at a0 32 t_a0 (rfl : h_rs 13 32 = some (1332, false)) (by decide)
  have atb : h_ad z a0 32 = tb := h_ad.at rtb
  obtain ⟨f0_1, ef0_1⟩ : ∃ v : Int32, v = I0 a0 1 := ⟨_, rfl⟩
  have qf0_1 : (I0 a0 1).toInt = f0_1.toInt := congrArg Int32.toInt ef0_1.symm
  have jf0_1 := hI.rd a0 1 t_a0 ef0_1 (rfl : h_bd 13 1 = (0, 500))
  obtain ⟨f0_30, ef0_30⟩ : ∃ v : Int32, v = I0 a0 30 := ⟨_, rfl⟩
  have qf0_30 : (I0 a0 30).toInt = f0_30.toInt := congrArg Int32.toInt ef0_30.symm
  have jf0_30 := hI.rd a0 30 t_a0 ef0_30 (rfl : h_bd 13 30 = (0, 1))
  obtain ⟨f0_31, ef0_31⟩ : ∃ v : Int32, v = I0 a0 31 := ⟨_, rfl⟩
  have qf0_31 : (I0 a0 31).toInt = f0_31.toInt := congrArg Int32.toInt ef0_31.symm
  have jf0_31 := hI.rd a0 31 t_a0 ef0_31 (rfl : h_bd 13 31 = (0, 1))
  rw [atb] at hJ2
  refine lv_aload_n hx hb dX12_table_0 rfl (lv_at hl 0 rfl) ?_
  refine h_get (v := .int f0_1) hx hb hts iX12 hown g t_a0 (by decide) so_13 rfl 1 (by decide) (hts (.fieldLink RX12 119 "CapLeagueModel" "taped" "I") (by decide +kernel)) rfl dX12_table_1 (congrArg Value.int (ef0_1.symm)) ?_
  refine lv_istore_n (lv' := [(1, .int f0_1), (0, .ref a0)]) hx hb dX12_table_4 rfl hl (by decide) rfl (fun ls hl => ?_)
  refine lv_aload_n hx hb dX12_table_5 rfl (lv_at hl 1 rfl) ?_
  refine lv_iconst (v := 0) hx hb dX12_table_6 (by decide) ?_
  refine h_putI (ty := .int) (v := 0) hx hb hts iX12 tyX12 tyX12_ok nmX12 hown g t_a0 (by decide) so_13 rfl 1 (by decide) rfl (hts (.fieldLink RX12 119 "CapLeagueModel" "taped" "I") (by decide +kernel)) rfl rfl (by decide +kernel) rfl rfl dX12_table_7 (fun I1 H locs eI1 g => ?_)
  have hI := hI.wr eI1 t_a0 (rfl : h_bd 13 1 = (0, 500)) (by decide) (by decide)
  have hF := hF.wr eI1 t_a0 rfl
  refine lv_aload_n hx hb dX12_table_10 rfl (lv_at hl 1 rfl) ?_
  refine h_get (v := .int f0_31) hx hb hts iX12 hown g t_a0 (by decide) so_13 rfl 31 (by decide) (hts (.fieldLink RX12 264 "CapLeagueModel" "isDrawn" "Z") (by decide +kernel)) rfl dX12_table_11 (congrArg Value.int ((h_n2 eI1 (by decide)).trans (ef0_31.symm))) ?_
  refine lv_if_eq (tgt := 20) hx hb dX12_table_14 (by decide) (fun c2 => ?_) (fun c2 => ?_)
  · have ic2 := (xi_eq c2 rfl (by decide) : f0_31.toInt = 0)
    refine lv_iconst (v := 0) hx hb dX12_table_20 (by decide) ?_
    refine lv_istore_n (lv' := [(2, .int 0), (1, .int f0_1), (0, .ref a0)]) hx hb dX12_table_21 rfl hl (by decide) rfl (fun ls hl => ?_)
    refine lv_iconst (v := 0) hx hb dX12_table_22 (by decide) ?_
    refine lv_istore_n (lv' := [(3, .int 0), (2, .int 0), (1, .int f0_1), (0, .ref a0)]) hx hb dX12_table_23 rfl hl (by decide) rfl (fun ls hl => ?_)
    have loop24_0 : ∀ (n : Nat) (I5 : tI) (H : Heap) (locs : List Loc) (ls : Array Slot) (v3 v4 : Int32), h_G h_so h_fk E A z I5 L0 s s.heap H locs → h_I z I5 → h_F [(13, 1), (1332, 999), (13, 30)] z I0 I5 → lv_has ls 4 [(0, .ref a0), (1, .int f0_1), (2, .int v3), (3, .int v4)] → (0 ≤ v3.toInt ∧ v3.toInt ≤ 255) → (0 ≤ v4.toInt ∧ v4.toInt ≤ 8) → h_F [] z I1 I5 → (h_tbI (I0 tp) v3.toInt v4.toInt) → (8 - v4.toInt) < (n : Int) → W pr_ l ev_ (headSpec wsX12_table ({ frames := 2, cells := 0, slots := 0, locals := 128 })).room s m ([.ref a0] : List Value).toArray below meth cd_ H locs 0 0 (MQ below (va_Qi (fun r (I1 : tI) => h_I z I1 ∧ h_F [(13, 1), (1332, 999), (13, 30)] z I0 I1 ∧ ((I1 a0 30).toInt = 1 → ∀ c : Int, 0 ≤ c → c ≤ 7 → ∃ k : Nat, k < 8 ∧ (I1 (h_ad z a0 32) k).toInt = c)) (fun (I1 : tI) t => h_B E A z I1 L0 t) A) ([.ref a0] : List Value).toArray s 0 0 A) (F0 m 24 ls []) := by
      intro n
      induction n with
      | zero => intro I5 H locs ls v3 v4 g hI hF hl jv3 jv4 hL24 hx24_0 hn; exact absurd hn (by omega)
      | succ n ih24 =>
        intro I5 H locs ls v3 v4 g hI hF hl jv3 jv4 hL24 hx24_0 hn
        refine lv_iload_n hx hb dX12_table_24 rfl (lv_at hl 3 rfl) ?_
        refine lv_iload_n hx hb dX12_table_25 rfl (lv_at hl 1 rfl) ?_
        refine lv_icmp_ge (tgt := 74) hx hb dX12_table_26 (by decide) (fun c6 => ?_) (fun c6 => ?_)
        · have ic6 := (xi_le c6 rfl rfl : f0_1.toInt ≤ v4.toInt)
          refine lv_iload_n hx hb dX12_table_74 rfl (lv_at hl 1 rfl) ?_
          refine lv_bipush (v := 8) hx hb dX12_table_75 (by decide) ?_
          refine lv_icmp_ne (tgt := 87) hx hb dX12_table_77 (by decide) (fun c7 => ?_) (fun c7 => ?_)
          · have ic7 := (xi_ne c7 rfl (by decide) : f0_1.toInt ≠ 8)
            refine lv_iconst (v := (-1)) hx hb dX12_table_87 (by decide) ?_
            have hS := g.2.1
            exact W.iret (v := (-1)) hx hb hr (fun t ht hW => ⟨⟨(-1), I5, rfl, ⟨hI, hF, (by rw [atb]; intro h1 c h0 h7; rw [(h_F.at hL24 t_a0 rfl).trans (h_n2 eI1 (by decide))] at h1; obtain ⟨k, hk, hv⟩ := hJ2 h1 c h0 h7; exact ⟨k, hk, by rw [(h_F.at hL24 ttb rfl).trans (h_n1 eI1 ttb t_a0 (by decide))]; exact hv⟩)⟩, h_ret g ht⟩, hS.F ht⟩) hS.2.2 dX12_table_88
          · have ic7 := (xi_eq c7 rfl (by decide) : f0_1.toInt = 8)
            refine lv_iload_n hx hb dX12_table_80 rfl (lv_at hl 2 rfl) ?_
            refine lv_sipush (v := 255) hx hb dX12_table_81 (by decide) ?_
            refine lv_icmp_eq (tgt := 89) hx hb dX12_table_84 (by decide) (fun c8 => ?_) (fun c8 => ?_)
            · have ic8 := (xi_eq c8 rfl (by decide) : v3.toInt = 255)
              obtain ⟨hin, hsu⟩ := hx24_0.all (by omega) (by omega)
              refine lv_iconst (v := 0) hx hb dX12_table_89 (by decide) ?_
              refine lv_istore_n (lv' := [(3, .int 0), (0, .ref a0), (1, .int f0_1), (2, .int v3)]) hx hb dX12_table_90 rfl hl (by decide) rfl (fun ls hl => ?_)
              have loop91_1 : ∀ (n : Nat) (I10 : tI) (H : Heap) (locs : List Loc) (ls : Array Slot) (v9 : Int32), h_G h_so h_fk E A z I10 L0 s s.heap H locs → h_I z I10 → h_F [(13, 1), (1332, 999), (13, 30)] z I0 I10 → lv_has ls 4 [(0, .ref a0), (3, .int v9)] → (0 ≤ v9.toInt ∧ v9.toInt ≤ 8) → h_F [(1332, 999)] z I5 I10 → (∀ k : Nat, (k : Int) < v9.toInt → (I10 tb k).toInt = (I0 tp k).toInt - 65) → (8 - v9.toInt) < (n : Int) → W pr_ l ev_ (headSpec wsX12_table ({ frames := 2, cells := 0, slots := 0, locals := 128 })).room s m ([.ref a0] : List Value).toArray below meth cd_ H locs 0 0 (MQ below (va_Qi (fun r (I1 : tI) => h_I z I1 ∧ h_F [(13, 1), (1332, 999), (13, 30)] z I0 I1 ∧ ((I1 a0 30).toInt = 1 → ∀ c : Int, 0 ≤ c → c ≤ 7 → ∃ k : Nat, k < 8 ∧ (I1 (h_ad z a0 32) k).toInt = c)) (fun (I1 : tI) t => h_B E A z I1 L0 t) A) ([.ref a0] : List Value).toArray s 0 0 A) (F0 m 91 ls []) := by
                intro n
                induction n with
                | zero => intro I10 H locs ls v9 g hI hF hl jv9 hL91 hx91_0 hn; exact absurd hn (by omega)
                | succ n ih91 =>
                  intro I10 H locs ls v9 g hI hF hl jv9 hL91 hx91_0 hn
                  refine lv_iload_n hx hb dX12_table_91 rfl (lv_at hl 1 rfl) ?_
                  refine lv_bipush (v := 8) hx hb dX12_table_92 (by decide) ?_
                  refine lv_icmp_ge (tgt := 118) hx hb dX12_table_94 (by decide) (fun c11 => ?_) (fun c11 => ?_)
                  · have ic11 := (xi_le c11 (by decide) rfl : 8 ≤ v9.toInt)
                    refine lv_aload_n hx hb dX12_table_118 rfl (lv_at hl 0 rfl) ?_
                    refine lv_iconst (v := 1) hx hb dX12_table_119 (by decide) ?_
                    refine h_putI (ty := .boolean) (v := 1) hx hb hts iX12 tyX12 tyX12_ok nmX12 hown g t_a0 (by decide) so_13 rfl 30 (by decide) rfl (hts (.fieldLink RX12 306 "CapLeagueModel" "hasTable" "Z") (by decide +kernel)) rfl rfl (by decide +kernel) (by decide) (by decide) dX12_table_120 (fun I12 H locs eI12 g => ?_)
                    have hI := hI.wr eI12 t_a0 (rfl : h_bd 13 30 = (0, 1)) (by decide) (by decide)
                    have hF := hF.wr eI12 t_a0 rfl
                    refine lv_iconst (v := 1) hx hb dX12_table_123 (by decide) ?_
                    have hS := g.2.1
                    exact W.iret (v := 1) hx hb hr (fun t ht hW => ⟨⟨1, I12, rfl, ⟨hI, hF, (by rw [atb]; intro _ c h0 h7; obtain ⟨k, hk, hv⟩ := hsu c.toNat (by omega); refine ⟨k, hk, ?_⟩; rw [h_n1 eI12 ttb t_a0 (by decide), hx91_0 k (by omega), hv]; omega)⟩, h_ret g ht⟩, hS.F ht⟩) hS.2.2 dX12_table_124
                  · have ic11 := (xi_nle c11 (by decide) rfl : v9.toInt < 8)
                    refine lv_aload_n hx hb dX12_table_97 rfl (lv_at hl 0 rfl) ?_
                    refine h_get (v := .ref tb) hx hb hts iX12 hown g t_a0 (by decide) so_13 rfl 32 (by decide) (hts (.fieldLink RX12 73 "CapLeagueModel" "table" "[I") (by decide +kernel)) rfl dX12_table_98 (by show va_rf (z.R a0 32) = _; rw [rtb]; rfl) ?_
                    refine lv_iload_n hx hb dX12_table_101 rfl (lv_at hl 1 rfl) ?_
                    refine lv_aload_n hx hb dX12_table_102 rfl (lv_at hl 0 rfl) ?_
                    refine h_get (v := .ref tp) hx hb hts iX12 hown g t_a0 (by decide) so_13 rfl 0 (by decide) (hts (.fieldLink RX12 7 "CapLeagueModel" "tape" "[B") (by decide +kernel)) rfl dX12_table_103 (by show va_rf (z.R a0 0) = _; rw [rtp]; rfl) ?_
                    refine lv_iload_n hx hb dX12_table_106 rfl (lv_at hl 1 rfl) ?_
                    refine h_bald hx hb g ttp (by decide) so_1300 (xi_in (by omega) (by omega)) dX12_table_107 ?_
                    refine lv_topi (fun v13 ev13 => ?_)
                    have jv13 := hI.rd tp v9.toNatClampNeg ttp ev13 (rfl : h_bd 1300 _ = ((-128), 127))
                    have ov13 : (I0 tp (v9.toInt).toNat).toInt = v13.toInt := by rw [ev13, hF.at ttp rfl]; rfl
                    have mv13 : 65 ≤ v13.toInt ∧ v13.toInt ≤ 72 := by have := hin (v9.toInt).toNat (by omega); omega
                    refine lv_bipush (v := 65) hx hb dX12_table_108 (by decide) ?_
                    refine lv_isub hx hb dX12_table_110 ?_
                    refine lv_topi (fun v14 ev14 => ?_)
                    have jv14 : v14.toInt = v13.toInt - 65 := xi_sub ev14 rfl (by decide) (by omega) (by omega)
                    refine h_ast hx hb g ttb (by decide) so_1332 (xi_in (by omega) (by omega)) dX12_table_111 (fun I15 H locs eI15 g => ?_)
                    have hI := hI.wr eI15 ttb (rfl : h_bd 1332 _ = (0, 7)) (by omega) (by omega)
                    have hF := hF.wr eI15 ttb rfl
                    obtain ⟨v16, ev16⟩ : ∃ z : Int32, z = v9 + 1 := ⟨_, rfl⟩
                    have jv16 : v16.toInt = v9.toInt + 1 := xi_add ev16 rfl (by decide) (by omega) (by omega)
                    refine lv_iinc (v := v16) (lv' := [(3, .int v16), (0, .ref a0)]) hx hb dX12_table_112 hl (k := 1) rfl (by rw [ev16]; rfl) (by decide) rfl (fun ls hl => ?_)
                    refine lv_goto (tgt := 91) hx hb dX12_table_115 (by decide) ?_
                    exact ih91 I15 _ _ _ v16 g hI hF (lv_sub hl [1, 0] rfl) (by omega) (h_F.wr (h_F.call (h_F.rf : h_F [(1332, 999)] z I5 I5) hL91 rfl) eI15 ttb rfl) (fun k hk => by
                        by_cases ek : (k : Int) = v9.toInt
                        · rw [← h_keq (k := k) (i := v9) rfl (by omega) ek, h_n0 eI15]
                          exact (show v14.toInt = _ from by rw [show (I0 tp v9.toNatClampNeg).toInt = v13.toInt from ov13]; omega)
                        · rw [h_n2 eI15 (h_kne (t := v9.toInt) rfl (by omega) ek)]
                          exact hx91_0 k (by omega)) (by omega)
              have kc17 : (0 : Int32).toInt = 0 := by decide
              exact loop91_1 _ I5 _ _ _ (0) g hI hF (lv_sub hl [1, 0] rfl) ⟨by decide, by decide⟩ (h_F.rf : h_F [(1332, 999)] z I5 I5) (fun k hk => absurd hk (by omega)) (show (8 - (0 : Int)) < (((8 - (0 : Int)).toNat + 1 : Nat) : Int) by omega)
            · have ic8 := (xi_ne c8 rfl (by decide) : v3.toInt ≠ 255)
              refine lv_iconst (v := (-1)) hx hb dX12_table_87 (by decide) ?_
              have hS := g.2.1
              exact W.iret (v := (-1)) hx hb hr (fun t ht hW => ⟨⟨(-1), I5, rfl, ⟨hI, hF, (by rw [atb]; intro h1 c h0 h7; rw [(h_F.at hL24 t_a0 rfl).trans (h_n2 eI1 (by decide))] at h1; obtain ⟨k, hk, hv⟩ := hJ2 h1 c h0 h7; exact ⟨k, hk, by rw [(h_F.at hL24 ttb rfl).trans (h_n1 eI1 ttb t_a0 (by decide))]; exact hv⟩)⟩, h_ret g ht⟩, hS.F ht⟩) hS.2.2 dX12_table_88
        · have ic6 := (xi_nle c6 rfl rfl : v4.toInt < f0_1.toInt)
          refine lv_iload_n hx hb dX12_table_29 rfl (lv_at hl 1 rfl) ?_
          refine lv_bipush (v := 8) hx hb dX12_table_30 (by decide) ?_
          refine lv_icmp_ne (tgt := 74) hx hb dX12_table_32 (by decide) (fun c18 => ?_) (fun c18 => ?_)
          · have ic18 := (xi_ne c18 rfl (by decide) : f0_1.toInt ≠ 8)
            refine lv_iload_n hx hb dX12_table_74 rfl (lv_at hl 1 rfl) ?_
            refine lv_bipush (v := 8) hx hb dX12_table_75 (by decide) ?_
            refine lv_icmp_ne (tgt := 87) hx hb dX12_table_77 (by decide) (fun c19 => ?_) (fun c19 => ?_)
            · have ic19 := (xi_ne c19 rfl (by decide) : f0_1.toInt ≠ 8)
              refine lv_iconst (v := (-1)) hx hb dX12_table_87 (by decide) ?_
              have hS := g.2.1
              exact W.iret (v := (-1)) hx hb hr (fun t ht hW => ⟨⟨(-1), I5, rfl, ⟨hI, hF, (by rw [atb]; intro h1 c h0 h7; rw [(h_F.at hL24 t_a0 rfl).trans (h_n2 eI1 (by decide))] at h1; obtain ⟨k, hk, hv⟩ := hJ2 h1 c h0 h7; exact ⟨k, hk, by rw [(h_F.at hL24 ttb rfl).trans (h_n1 eI1 ttb t_a0 (by decide))]; exact hv⟩)⟩, h_ret g ht⟩, hS.F ht⟩) hS.2.2 dX12_table_88
            · have ic19 := (xi_eq c19 rfl (by decide) : f0_1.toInt = 8)
              refine lv_iload_n hx hb dX12_table_80 rfl (lv_at hl 2 rfl) ?_
              refine lv_sipush (v := 255) hx hb dX12_table_81 (by decide) ?_
              refine lv_icmp_eq (tgt := 89) hx hb dX12_table_84 (by decide) (fun c20 => ?_) (fun c20 => ?_)
              · have ic20 := (xi_eq c20 rfl (by decide) : v3.toInt = 255)
                obtain ⟨hin, hsu⟩ := hx24_0.all (by omega) (by omega)
                refine lv_iconst (v := 0) hx hb dX12_table_89 (by decide) ?_
                refine lv_istore_n (lv' := [(3, .int 0), (0, .ref a0), (1, .int f0_1), (2, .int v3)]) hx hb dX12_table_90 rfl hl (by decide) rfl (fun ls hl => ?_)
                have loop91_2 : ∀ (n : Nat) (I22 : tI) (H : Heap) (locs : List Loc) (ls : Array Slot) (v21 : Int32), h_G h_so h_fk E A z I22 L0 s s.heap H locs → h_I z I22 → h_F [(13, 1), (1332, 999), (13, 30)] z I0 I22 → lv_has ls 4 [(0, .ref a0), (3, .int v21)] → (0 ≤ v21.toInt ∧ v21.toInt ≤ 8) → h_F [(1332, 999)] z I5 I22 → (∀ k : Nat, (k : Int) < v21.toInt → (I22 tb k).toInt = (I0 tp k).toInt - 65) → (8 - v21.toInt) < (n : Int) → W pr_ l ev_ (headSpec wsX12_table ({ frames := 2, cells := 0, slots := 0, locals := 128 })).room s m ([.ref a0] : List Value).toArray below meth cd_ H locs 0 0 (MQ below (va_Qi (fun r (I1 : tI) => h_I z I1 ∧ h_F [(13, 1), (1332, 999), (13, 30)] z I0 I1 ∧ ((I1 a0 30).toInt = 1 → ∀ c : Int, 0 ≤ c → c ≤ 7 → ∃ k : Nat, k < 8 ∧ (I1 (h_ad z a0 32) k).toInt = c)) (fun (I1 : tI) t => h_B E A z I1 L0 t) A) ([.ref a0] : List Value).toArray s 0 0 A) (F0 m 91 ls []) := by
                  intro n
                  induction n with
                  | zero => intro I22 H locs ls v21 g hI hF hl jv21 hL91 hx91_0 hn; exact absurd hn (by omega)
                  | succ n ih91 =>
                    intro I22 H locs ls v21 g hI hF hl jv21 hL91 hx91_0 hn
                    refine lv_iload_n hx hb dX12_table_91 rfl (lv_at hl 1 rfl) ?_
                    refine lv_bipush (v := 8) hx hb dX12_table_92 (by decide) ?_
                    refine lv_icmp_ge (tgt := 118) hx hb dX12_table_94 (by decide) (fun c23 => ?_) (fun c23 => ?_)
                    · have ic23 := (xi_le c23 (by decide) rfl : 8 ≤ v21.toInt)
                      refine lv_aload_n hx hb dX12_table_118 rfl (lv_at hl 0 rfl) ?_
                      refine lv_iconst (v := 1) hx hb dX12_table_119 (by decide) ?_
                      refine h_putI (ty := .boolean) (v := 1) hx hb hts iX12 tyX12 tyX12_ok nmX12 hown g t_a0 (by decide) so_13 rfl 30 (by decide) rfl (hts (.fieldLink RX12 306 "CapLeagueModel" "hasTable" "Z") (by decide +kernel)) rfl rfl (by decide +kernel) (by decide) (by decide) dX12_table_120 (fun I24 H locs eI24 g => ?_)
                      have hI := hI.wr eI24 t_a0 (rfl : h_bd 13 30 = (0, 1)) (by decide) (by decide)
                      have hF := hF.wr eI24 t_a0 rfl
                      refine lv_iconst (v := 1) hx hb dX12_table_123 (by decide) ?_
                      have hS := g.2.1
                      exact W.iret (v := 1) hx hb hr (fun t ht hW => ⟨⟨1, I24, rfl, ⟨hI, hF, (by rw [atb]; intro _ c h0 h7; obtain ⟨k, hk, hv⟩ := hsu c.toNat (by omega); refine ⟨k, hk, ?_⟩; rw [h_n1 eI24 ttb t_a0 (by decide), hx91_0 k (by omega), hv]; omega)⟩, h_ret g ht⟩, hS.F ht⟩) hS.2.2 dX12_table_124
                    · have ic23 := (xi_nle c23 (by decide) rfl : v21.toInt < 8)
                      refine lv_aload_n hx hb dX12_table_97 rfl (lv_at hl 0 rfl) ?_
                      refine h_get (v := .ref tb) hx hb hts iX12 hown g t_a0 (by decide) so_13 rfl 32 (by decide) (hts (.fieldLink RX12 73 "CapLeagueModel" "table" "[I") (by decide +kernel)) rfl dX12_table_98 (by show va_rf (z.R a0 32) = _; rw [rtb]; rfl) ?_
                      refine lv_iload_n hx hb dX12_table_101 rfl (lv_at hl 1 rfl) ?_
                      refine lv_aload_n hx hb dX12_table_102 rfl (lv_at hl 0 rfl) ?_
                      refine h_get (v := .ref tp) hx hb hts iX12 hown g t_a0 (by decide) so_13 rfl 0 (by decide) (hts (.fieldLink RX12 7 "CapLeagueModel" "tape" "[B") (by decide +kernel)) rfl dX12_table_103 (by show va_rf (z.R a0 0) = _; rw [rtp]; rfl) ?_
                      refine lv_iload_n hx hb dX12_table_106 rfl (lv_at hl 1 rfl) ?_
                      refine h_bald hx hb g ttp (by decide) so_1300 (xi_in (by omega) (by omega)) dX12_table_107 ?_
                      refine lv_topi (fun v25 ev25 => ?_)
                      have jv25 := hI.rd tp v21.toNatClampNeg ttp ev25 (rfl : h_bd 1300 _ = ((-128), 127))
                      have ov25 : (I0 tp (v21.toInt).toNat).toInt = v25.toInt := by rw [ev25, hF.at ttp rfl]; rfl
                      have mv25 : 65 ≤ v25.toInt ∧ v25.toInt ≤ 72 := by have := hin (v21.toInt).toNat (by omega); omega
                      refine lv_bipush (v := 65) hx hb dX12_table_108 (by decide) ?_
                      refine lv_isub hx hb dX12_table_110 ?_
                      refine lv_topi (fun v26 ev26 => ?_)
                      have jv26 : v26.toInt = v25.toInt - 65 := xi_sub ev26 rfl (by decide) (by omega) (by omega)
                      refine h_ast hx hb g ttb (by decide) so_1332 (xi_in (by omega) (by omega)) dX12_table_111 (fun I27 H locs eI27 g => ?_)
                      have hI := hI.wr eI27 ttb (rfl : h_bd 1332 _ = (0, 7)) (by omega) (by omega)
                      have hF := hF.wr eI27 ttb rfl
                      obtain ⟨v28, ev28⟩ : ∃ z : Int32, z = v21 + 1 := ⟨_, rfl⟩
                      have jv28 : v28.toInt = v21.toInt + 1 := xi_add ev28 rfl (by decide) (by omega) (by omega)
                      refine lv_iinc (v := v28) (lv' := [(3, .int v28), (0, .ref a0)]) hx hb dX12_table_112 hl (k := 1) rfl (by rw [ev28]; rfl) (by decide) rfl (fun ls hl => ?_)
                      refine lv_goto (tgt := 91) hx hb dX12_table_115 (by decide) ?_
                      exact ih91 I27 _ _ _ v28 g hI hF (lv_sub hl [1, 0] rfl) (by omega) (h_F.wr (h_F.call (h_F.rf : h_F [(1332, 999)] z I5 I5) hL91 rfl) eI27 ttb rfl) (fun k hk => by
                          by_cases ek : (k : Int) = v21.toInt
                          · rw [← h_keq (k := k) (i := v21) rfl (by omega) ek, h_n0 eI27]
                            exact (show v26.toInt = _ from by rw [show (I0 tp v21.toNatClampNeg).toInt = v25.toInt from ov25]; omega)
                          · rw [h_n2 eI27 (h_kne (t := v21.toInt) rfl (by omega) ek)]
                            exact hx91_0 k (by omega)) (by omega)
                have kc29 : (0 : Int32).toInt = 0 := by decide
                exact loop91_2 _ I5 _ _ _ (0) g hI hF (lv_sub hl [1, 0] rfl) ⟨by decide, by decide⟩ (h_F.rf : h_F [(1332, 999)] z I5 I5) (fun k hk => absurd hk (by omega)) (show (8 - (0 : Int)) < (((8 - (0 : Int)).toNat + 1 : Nat) : Int) by omega)
              · have ic20 := (xi_ne c20 rfl (by decide) : v3.toInt ≠ 255)
                refine lv_iconst (v := (-1)) hx hb dX12_table_87 (by decide) ?_
                have hS := g.2.1
                exact W.iret (v := (-1)) hx hb hr (fun t ht hW => ⟨⟨(-1), I5, rfl, ⟨hI, hF, (by rw [atb]; intro h1 c h0 h7; rw [(h_F.at hL24 t_a0 rfl).trans (h_n2 eI1 (by decide))] at h1; obtain ⟨k, hk, hv⟩ := hJ2 h1 c h0 h7; exact ⟨k, hk, by rw [(h_F.at hL24 ttb rfl).trans (h_n1 eI1 ttb t_a0 (by decide))]; exact hv⟩)⟩, h_ret g ht⟩, hS.F ht⟩) hS.2.2 dX12_table_88
          · have ic18 := (xi_eq c18 rfl (by decide) : f0_1.toInt = 8)
            refine lv_aload_n hx hb dX12_table_35 rfl (lv_at hl 0 rfl) ?_
            refine h_get (v := .ref tp) hx hb hts iX12 hown g t_a0 (by decide) so_13 rfl 0 (by decide) (hts (.fieldLink RX12 7 "CapLeagueModel" "tape" "[B") (by decide +kernel)) rfl dX12_table_36 (by show va_rf (z.R a0 0) = _; rw [rtp]; rfl) ?_
            refine lv_iload_n hx hb dX12_table_39 rfl (lv_at hl 3 rfl) ?_
            refine h_bald hx hb g ttp (by decide) so_1300 (xi_in (by omega) (by omega)) dX12_table_40 ?_
            refine lv_topi (fun v30 ev30 => ?_)
            have jv30 := hI.rd tp v4.toNatClampNeg ttp ev30 (rfl : h_bd 1300 _ = ((-128), 127))
            have ov30 : (I0 tp (v4.toInt).toNat).toInt = v30.toInt := by rw [ev30, hF.at ttp rfl]; rfl
            refine lv_i2l hx hb dX12_table_41 rfl ?_
            refine lv_topl (fun v31 ev31 => ?_)
            have jv31 : v31.toInt = v30.toInt := by rw [ev31, xi_64]
            refine lv_ldc2 (v := 65) hx hb hown (hts (.constantLong RX12 302 (65)) (by decide +kernel)) dX12_table_42 ?_
            refine lv_ldc2 (v := 72) hx hb hown (hts (.constantLong RX12 304 (72)) (by decide +kernel)) dX12_table_45 ?_
            refine vp_callSi (W.runS (As := [.long v31, .long 65, .long 72]) (rest := []) ⟨hx, hb, hml, hown, hts⟩ (tX12_in l E X A z I5 L0 v31 (v30.toInt) jv31 65 (65) (by decide) 72 (72) (by decide)) (va_cwS 3 hts gX12_table_X12_in rfl rfl rfl (by decide +kernel) ⟨Nat.le_of_ble_eq_true rfl, Nat.le_of_ble_eq_true rfl⟩) ⟨h_blind _ _ _ _ _ _ _, h_pre _ hE hk hX hA hI hR g⟩ rfl rfl hl.1 rfl (lv_room (Nat.le_of_ble_eq_true rfl)) dX12_table_48 ⟨Nat.le_of_ble_eq_true rfl, Nat.le_of_ble_eq_true rfl⟩) (fun rh32 h32 => ?_)
            rcases h32 with ⟨rfl, h32⟩ | ⟨rfl, h32⟩
            · skip
              refine lv_if_eq (tgt := 68) hx hb dX12_table_51 (by decide) (fun _ => ?_) (fun h => absurd (by decide) h)
              obtain ⟨v34, ev34⟩ : ∃ z : Int32, z = v4 + 1 := ⟨_, rfl⟩
              have jv34 : v34.toInt = v4.toInt + 1 := xi_add ev34 rfl (by decide) (by omega) (by omega)
              refine lv_iinc (v := v34) (lv' := [(3, .int v34), (0, .ref a0), (1, .int f0_1), (2, .int v3)]) hx hb dX12_table_68 hl (k := 3) rfl (by rw [ev34]; rfl) (by decide) rfl (fun ls hl => ?_)
              refine lv_goto (tgt := 24) hx hb dX12_table_71 (by decide) ?_
              exact ih24 I5 _ _ _ v3 v34 g hI hF (lv_sub hl [1, 2, 3, 0] rfl) (by omega) (by omega) (h_F.call (h_F.rf : h_F [] z I1 I1) hL24 rfl) (by rw [show v34.toInt = v4.toInt + 1 from by omega]; exact hx24_0.skip) (by omega)
            · skip
              refine lv_if_eq (tgt := 68) hx hb dX12_table_51 (by decide) (fun h => absurd h (by decide)) (fun _ => ?_)
              refine lv_iload_n hx hb dX12_table_54 rfl (lv_at hl 2 rfl) ?_
              refine lv_iconst (v := 1) hx hb dX12_table_55 (by decide) ?_
              refine lv_aload_n hx hb dX12_table_56 rfl (lv_at hl 0 rfl) ?_
              refine h_get (v := .ref tp) hx hb hts iX12 hown g t_a0 (by decide) so_13 rfl 0 (by decide) (hts (.fieldLink RX12 7 "CapLeagueModel" "tape" "[B") (by decide +kernel)) rfl dX12_table_57 (by show va_rf (z.R a0 0) = _; rw [rtp]; rfl) ?_
              refine lv_iload_n hx hb dX12_table_60 rfl (lv_at hl 3 rfl) ?_
              refine h_bald hx hb g ttp (by decide) so_1300 (xi_in (by omega) (by omega)) dX12_table_61 ?_
              refine xw_i (ev30.symm) ?_
              refine lv_bipush (v := 65) hx hb dX12_table_62 (by decide) ?_
              refine lv_isub hx hb dX12_table_64 ?_
              refine lv_topi (fun v36 ev36 => ?_)
              have jv36 : v36.toInt = v30.toInt - 65 := xi_sub ev36 rfl (by decide) (by omega) (by omega)
              refine lv_ishl hx hb dX12_table_65 ?_
              refine lv_topi (fun v37 ev37 => ?_)
              refine lv_ior hx hb dX12_table_66 ?_
              refine lv_topi (fun v38 ev38 => ?_)
              have tv38 := h_orb (by omega) (by omega) (by omega) (by omega) ev37 ev38
              have jv38 : 0 ≤ v38.toInt ∧ v38.toInt ≤ 255 := ⟨tv38.1, tv38.2.1⟩
              refine lv_istore_n (lv' := [(2, .int v38), (0, .ref a0), (1, .int f0_1), (3, .int v4)]) hx hb dX12_table_67 rfl hl (by decide) rfl (fun ls hl => ?_)
              obtain ⟨v39, ev39⟩ : ∃ z : Int32, z = v4 + 1 := ⟨_, rfl⟩
              have jv39 : v39.toInt = v4.toInt + 1 := xi_add ev39 rfl (by decide) (by omega) (by omega)
              refine lv_iinc (v := v39) (lv' := [(3, .int v39), (2, .int v38), (0, .ref a0), (1, .int f0_1)]) hx hb dX12_table_68 hl (k := 3) rfl (by rw [ev39]; rfl) (by decide) rfl (fun ls hl => ?_)
              refine lv_goto (tgt := 24) hx hb dX12_table_71 (by decide) ?_
              exact ih24 I5 _ _ _ v38 v39 g hI hF (lv_sub hl [2, 3, 1, 0] rfl) (by omega) (by omega) (h_F.call (h_F.rf : h_F [] z I1 I1) hL24 rfl) (by rw [show v39.toInt = v4.toInt + 1 from by omega]; exact h_tbI.push hx24_0 (by omega) (by omega) (by omega) (by omega) (show _ = v30.toInt from ov30) (by omega) (by omega) (by rw [show v30.toInt - 65 = v36.toInt from by omega]; exact tv38.2.2)) (by omega)
    have kc40 : (0 : Int32).toInt = 0 := by decide
    have kc41 : (0 : Int32).toInt = 0 := by decide
    exact loop24_0 _ I1 _ _ _ (0) (0) g hI hF (lv_sub hl [3, 2, 1, 0] rfl) ⟨by decide, by decide⟩ ⟨by decide, by decide⟩ (h_F.rf : h_F [] z I1 I1) (by rw [show ((0 : Int32).toInt) = 0 by decide]; exact h_tbI.zero _) (show (8 - (0 : Int)) < (((8 - (0 : Int)).toNat + 1 : Nat) : Int) by omega)
  · have ic2 := (xi_ne c2 rfl (by decide) : f0_31.toInt ≠ 0)
    refine lv_bipush (v := (-4)) hx hb dX12_table_17 (by decide) ?_
    have hS := g.2.1
    exact W.iret (v := (-4)) hx hb hr (fun t ht hW => ⟨⟨(-4), I1, rfl, ⟨hI, hF, (by rw [atb]; intro h1 c h0 h7; rw [h_n2 eI1 (by decide)] at h1; obtain ⟨k, hk, hv⟩ := hJ2 h1 c h0 h7; exact ⟨k, hk, by rw [h_n1 eI1 ttb t_a0 (by decide)]; exact hv⟩)⟩, h_ret g ht⟩, hS.F ht⟩) hS.2.2 dX12_table_19
