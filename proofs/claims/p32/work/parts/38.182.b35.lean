set_option maxHeartbeats 4000000 in
set_option maxRecDepth 100000 in
theorem tX12_nextC (l : Launch) (E : tE) (X : tX) (A : Nat → Prop) (z : tZ) (I0 : tI) (L0 : tL) (a0 : Nat) (t_a0 : z.ty a0 = 13) (u_ : Nat → Int) (hrl : h_r12 (I0 (h_ad z a0 11)) (I0 (h_ad z a0 10)) (I0 a0 12).toInt u_) (hob : q_okb u_) (hpb : ∀ p : Nat, (p : Int) < (I0 a0 13).toInt → (q_pay (I0 (h_ad z a0 14) p) (I0 (h_ad z a0 15) p) (I0 (h_ad z a0 16) p) (I0 (h_ad z a0 17) p) (I0 (h_ad z a0 18) p) (I0 a0 12)).toInt ≤ 1000000) (hcn : ∀ c : Nat, c < 8 → 0 ≤ (m_cnt z I0 a0 (c : Int) (I0 a0 12) (u_ 6)).toInt ∧ (m_cnt z I0 a0 (c : Int) (I0 a0 12) (u_ 6)).toInt ≤ 7100000) : Met l yX12_next wsX12_next ({ frames := 5, cells := 0, slots := 0, locals := 320 }) (va_Pc [.ref a0] (h_P E X A z I0 L0)) (va_Qi (fun r (I1 : tI) => h_I z I1 ∧ h_F [(1349, 999), (13, 50), (13, 12), (1322, 999), (1314, 999), (1324, 999), (13, 30), (13, 31), (13, 33)] z I0 I1 ∧ ((I1 a0 30).toInt = 1 → (I0 a0 30).toInt = 1) ∧ (((9 ≤ (I0 a0 12).toInt ∨ (I0 a0 31).toInt = 0) ∧ r.toInt = -4 ∧ I1 = I0) ∨ ((I0 a0 12).toInt ≤ 8 ∧ (I0 a0 31).toInt = 1 ∧ r.toInt = (I0 a0 12).toInt + 1 ∧ (I1 a0 12).toInt = (I0 a0 12).toInt + 1 ∧ I1 a0 30 = 0 ∧ I1 a0 31 = 0 ∧ I1 a0 33 = 0 ∧ (∀ q : Nat, (q : Int) < (I0 a0 13).toInt → m_nx I0 I1 (h_ad z a0 14) (h_ad z a0 15) (h_ad z a0 16) (h_ad z a0 20) (h_ad z a0 21) (h_ad z a0 22) q (I1 a0 12)) ∧ (∀ q : Nat, (I0 a0 13).toInt ≤ (q : Int) → I1 (h_ad z a0 22) q = I0 (h_ad z a0 22) q ∧ I1 (h_ad z a0 14) q = I0 (h_ad z a0 14) q) ∧ ∀ k : Nat, k < 8 → I1 (h_ad z a0 24) k = 0)) ∧ (((I0 a0 12).toInt ≤ 8 → (I0 a0 31).toInt = 1 → ((∀ k : Nat, k < 8 → I1 (h_ad z a0 49) k = q_fnd (I0 (h_ad z a0 49)) (m_ab z I0 a0 u_) (q_fin (m_ab z I0 a0 u_) (u_ 7)) k) ∧ I1 a0 50 = q_lft (I0 a0 50) (m_ab z I0 a0 u_) (q_fin (m_ab z I0 a0 u_) (u_ 7)))))) (fun (I1 : tI) t => h_B E A z I1 L0 t) A) 0 0 A := by
  refine Met.ofW (cc := cX12_next) (maxL := 6) (ret := (some .int)) (by decide) rfl ?_
  intro pr_ ev_ s m args below meth cd_ s₁ B hml hv
  obtain ⟨rfl, hE, hk, hX, hA, hK, hI, hR, hB0⟩ := hv
  have g : h_G h_so h_fk E A z I0 L0 s s.heap s.heap [] := ⟨hK, va_S.rf, hB0⟩
  have hF : h_F [(1349, 999), (13, 50), (13, 12), (1322, 999), (1314, 999), (1324, 999), (13, 30), (13, 31), (13, 33)] z I0 I0 := h_F.rf
  have hx := B.exec
  have hb := B.bytes
  have hr := B.returns
  have hts := atoms_spec (ws := wsX12_next) B.pre
  have hown : s.vm.findClass RX12 = some m.cls := findClass_of_methodNamed B.named
  have hlocks := B.notSynchronized
  have iX12 : ∀ w ∈ u_ws RX12 TX12 51, w ∈ wsX12_next := by decide +kernel
  have hl := lv_entry ([.ref a0]) (n := 6) (Nat.le_of_ble_eq_true rfl)
  rw [lg_entry_eq]
  generalize (lg_sl ([.ref a0]) ++ List.replicate (6 - (lg_sl ([.ref a0])).length) Slot.unset).toArray = ls at hl ⊢
  have hl : lv_has ls 6 [(0, .ref a0)] := hl
  have hpb0 := hpb
  have hrl0 := hrl
  obtain ⟨cb, rcb, tcb⟩ := hR.at a0 14 t_a0 (rfl : h_rs 13 14 = some (1314, false)) (by decide)
  have acb : h_ad z a0 14 = cb := h_ad.at rcb
  obtain ⟨fi, rfi, tfi⟩ := hR.at a0 15 t_a0 (rfl : h_rs 13 15 = some (1315, false)) (by decide)
  have afi : h_ad z a0 15 = fi := h_ad.at rfi
  obtain ⟨la, rla, tla⟩ := hR.at a0 16 t_a0 (rfl : h_rs 13 16 = some (1316, false)) (by decide)
  have ala : h_ad z a0 16 = la := h_ad.at rla
  obtain ⟨hc, rhc, thc⟩ := hR.at a0 20 t_a0 (rfl : h_rs 13 20 = some (1320, false)) (by decide)
  have ahc : h_ad z a0 20 = hc := h_ad.at rhc
  obtain ⟨it, rit, tit⟩ := hR.at a0 21 t_a0 (rfl : h_rs 13 21 = some (1321, false)) (by decide)
  have ait : h_ad z a0 21 = it := h_ad.at rit
  obtain ⟨hu, rhu, thu⟩ := hR.at a0 22 t_a0 (rfl : h_rs 13 22 = some (1322, false)) (by decide)
  have ahu : h_ad z a0 22 = hu := h_ad.at rhu
  obtain ⟨us, rus, tus⟩ := hR.at a0 24 t_a0 (rfl : h_rs 13 24 = some (1324, false)) (by decide)
  have aus : h_ad z a0 24 = us := h_ad.at rus
  obtain ⟨pu, rpu, tpu⟩ := hR.at a0 49 t_a0 (rfl : h_rs 13 49 = some (1349, false)) (by decide)
  have apu : h_ad z a0 49 = pu := h_ad.at rpu
  obtain ⟨lw, rlw, tlw⟩ := hR.at a0 10 t_a0 (rfl : h_rs 13 10 = some (1310, false)) (by decide)
  have alw : h_ad z a0 10 = lw := h_ad.at rlw
  obtain ⟨hy, rhy, thy⟩ := hR.at a0 11 t_a0 (rfl : h_rs 13 11 = some (1311, false)) (by decide)
  have ahy : h_ad z a0 11 = hy := h_ad.at rhy
  obtain ⟨pa, rpa, tpa⟩ := hR.at a0 17 t_a0 (rfl : h_rs 13 17 = some (1317, false)) (by decide)
  have apa : h_ad z a0 17 = pa := h_ad.at rpa
  obtain ⟨ri, rri, tri⟩ := hR.at a0 18 t_a0 (rfl : h_rs 13 18 = some (1318, false)) (by decide)
  have ari : h_ad z a0 18 = ri := h_ad.at rri
  obtain ⟨f0_12, ef0_12⟩ : ∃ v : Int32, v = I0 a0 12 := ⟨_, rfl⟩
  have qf0_12 : (I0 a0 12).toInt = f0_12.toInt := congrArg Int32.toInt ef0_12.symm
  have jf0_12 := hI.rd a0 12 t_a0 ef0_12 (rfl : h_bd 13 12 = (0, 9))
  obtain ⟨f0_13, ef0_13⟩ : ∃ v : Int32, v = I0 a0 13 := ⟨_, rfl⟩
  have qf0_13 : (I0 a0 13).toInt = f0_13.toInt := congrArg Int32.toInt ef0_13.symm
  have jf0_13 := hI.rd a0 13 t_a0 ef0_13 (rfl : h_bd 13 13 = (0, 60))
  obtain ⟨f0_30, ef0_30⟩ : ∃ v : Int32, v = I0 a0 30 := ⟨_, rfl⟩
  have qf0_30 : (I0 a0 30).toInt = f0_30.toInt := congrArg Int32.toInt ef0_30.symm
  have jf0_30 := hI.rd a0 30 t_a0 ef0_30 (rfl : h_bd 13 30 = (0, 1))
  obtain ⟨f0_31, ef0_31⟩ : ∃ v : Int32, v = I0 a0 31 := ⟨_, rfl⟩
  have qf0_31 : (I0 a0 31).toInt = f0_31.toInt := congrArg Int32.toInt ef0_31.symm
  have jf0_31 := hI.rd a0 31 t_a0 ef0_31 (rfl : h_bd 13 31 = (0, 1))
  obtain ⟨f0_50, ef0_50⟩ : ∃ v : Int32, v = I0 a0 50 := ⟨_, rfl⟩
  have qf0_50 : (I0 a0 50).toInt = f0_50.toInt := congrArg Int32.toInt ef0_50.symm
  have jf0_50 := hI.rd a0 50 t_a0 ef0_50 (rfl : h_bd 13 50 = ((-2147483648), 2147483647))
  rw [ahy, alw, qf0_12] at hrl
  rw [acb, afi, ala, apa, ari, qf0_13, ← ef0_12] at hpb
  obtain ⟨AA, eAA⟩ : ∃ g : Nat → Int32, g = m_ab z I0 a0 u_ := ⟨_, rfl⟩
  obtain ⟨FF, eFF⟩ : ∃ g : Nat → Int32, g = q_fin (m_ab z I0 a0 u_) (u_ 7) := ⟨_, rfl⟩
  refine lv_aload_n hx hb dX12_next_0 rfl (lv_at hl 0 rfl) ?_
  refine h_get (v := .int f0_12) hx hb hts iX12 hown g t_a0 (by decide) so_13 rfl 12 (by decide) (hts (.fieldLink RX12 187 "CapLeagueModel" "clock" "I") (by decide +kernel)) rfl dX12_next_1 (congrArg Value.int (ef0_12.symm)) ?_
  refine lv_bipush (v := 9) hx hb dX12_next_4 (by decide) ?_
  refine lv_icmp_eq (tgt := 16) hx hb dX12_next_6 (by decide) (fun c1 => ?_) (fun c1 => ?_)
  · have ic1 := (xi_eq c1 rfl (by decide) : f0_12.toInt = 9)
    refine lv_bipush (v := (-4)) hx hb dX12_next_16 (by decide) ?_
    have hS := g.2.1
    exact W.iret (v := (-4)) hx hb hr (fun t ht hW => ⟨⟨(-4), I0, rfl, ⟨hI, hF, ⟨(by have qr : ((-4) : Int32).toInt = (-4) := (by decide); omega), (by rw [qf0_12, qf0_31, ← ef0_13, acb, afi, ala, ahc, ait, ahu, aus]; exact Or.inl ⟨by omega, by decide, rfl⟩), (fun c1 c2 => by exfalso; rw [qf0_12] at c1; rw [qf0_31] at c2; omega)⟩⟩, h_ret g ht⟩, hS.F ht⟩) hS.2.2 dX12_next_18
  · have ic1 := (xi_ne c1 rfl (by decide) : f0_12.toInt ≠ 9)
    refine lv_aload_n hx hb dX12_next_9 rfl (lv_at hl 0 rfl) ?_
    refine h_get (v := .int f0_31) hx hb hts iX12 hown g t_a0 (by decide) so_13 rfl 31 (by decide) (hts (.fieldLink RX12 264 "CapLeagueModel" "isDrawn" "Z") (by decide +kernel)) rfl dX12_next_10 (congrArg Value.int (ef0_31.symm)) ?_
    refine lv_if_ne (tgt := 19) hx hb dX12_next_13 (by decide) (fun c2 => ?_) (fun c2 => ?_)
    · have ic2 := (xi_ne c2 rfl (by decide) : f0_31.toInt ≠ 0)
      refine lv_iconst (v := 0) hx hb dX12_next_19 (by decide) ?_
      refine lv_istore_n (lv' := [(1, .int 0), (0, .ref a0)]) hx hb dX12_next_20 rfl hl (by decide) rfl (fun ls hl => ?_)
      refine lv_iconst (v := 0) hx hb dX12_next_21 (by decide) ?_
      refine lv_istore_n (lv' := [(2, .int 0), (1, .int 0), (0, .ref a0)]) hx hb dX12_next_22 rfl hl (by decide) rfl (fun ls hl => ?_)
      refine lv_iconst (v := 0) hx hb dX12_next_23 (by decide) ?_
      refine lv_istore_n (lv' := [(3, .int 0), (2, .int 0), (1, .int 0), (0, .ref a0)]) hx hb dX12_next_24 rfl hl (by decide) rfl (fun ls hl => ?_)
      have loop25_0 : ∀ (n : Nat) (I6 : tI) (H : Heap) (locs : List Loc) (ls : Array Slot) (v3 v4 v5 : Int32), h_G h_so h_fk E A z I6 L0 s s.heap H locs → h_I z I6 → h_F [(1349, 999), (13, 50), (13, 12), (1322, 999), (1314, 999), (1324, 999), (13, 30), (13, 31), (13, 33)] z I0 I6 → lv_has ls 6 [(0, .ref a0), (1, .int v3), (2, .int v4), (3, .int v5)] → ((-2147483648) ≤ v3.toInt ∧ v3.toInt ≤ 2147483647) → (0 ≤ v4.toInt ∧ v4.toInt ≤ 255) → (0 ≤ v5.toInt ∧ v5.toInt ≤ 8) → h_F [(1349, 999)] z I0 I6 → (v3 = q_sums 0 FF (v5.toInt).toNat) → (q_abv v4 AA (v5.toInt).toNat) → (∀ k : Nat, I6 pu k = if (k : Int) < v5.toInt then I0 pu k + FF k else I0 pu k) → (8 - v5.toInt) < (n : Int) → W pr_ l ev_ (headSpec wsX12_next ({ frames := 5, cells := 0, slots := 0, locals := 320 })).room s m ([.ref a0] : List Value).toArray below meth cd_ H locs 0 0 (MQ below (va_Qi (fun r (I1 : tI) => h_I z I1 ∧ h_F [(1349, 999), (13, 50), (13, 12), (1322, 999), (1314, 999), (1324, 999), (13, 30), (13, 31), (13, 33)] z I0 I1 ∧ ((I1 a0 30).toInt = 1 → (I0 a0 30).toInt = 1) ∧ (((9 ≤ (I0 a0 12).toInt ∨ (I0 a0 31).toInt = 0) ∧ r.toInt = -4 ∧ I1 = I0) ∨ ((I0 a0 12).toInt ≤ 8 ∧ (I0 a0 31).toInt = 1 ∧ r.toInt = (I0 a0 12).toInt + 1 ∧ (I1 a0 12).toInt = (I0 a0 12).toInt + 1 ∧ I1 a0 30 = 0 ∧ I1 a0 31 = 0 ∧ I1 a0 33 = 0 ∧ (∀ q : Nat, (q : Int) < (I0 a0 13).toInt → m_nx I0 I1 (h_ad z a0 14) (h_ad z a0 15) (h_ad z a0 16) (h_ad z a0 20) (h_ad z a0 21) (h_ad z a0 22) q (I1 a0 12)) ∧ (∀ q : Nat, (I0 a0 13).toInt ≤ (q : Int) → I1 (h_ad z a0 22) q = I0 (h_ad z a0 22) q ∧ I1 (h_ad z a0 14) q = I0 (h_ad z a0 14) q) ∧ ∀ k : Nat, k < 8 → I1 (h_ad z a0 24) k = 0)) ∧ (((I0 a0 12).toInt ≤ 8 → (I0 a0 31).toInt = 1 → ((∀ k : Nat, k < 8 → I1 (h_ad z a0 49) k = q_fnd (I0 (h_ad z a0 49)) (m_ab z I0 a0 u_) (q_fin (m_ab z I0 a0 u_) (u_ 7)) k) ∧ I1 a0 50 = q_lft (I0 a0 50) (m_ab z I0 a0 u_) (q_fin (m_ab z I0 a0 u_) (u_ 7)))))) (fun (I1 : tI) t => h_B E A z I1 L0 t) A) ([.ref a0] : List Value).toArray s 0 0 A) (F0 m 25 ls []) := by
        intro n
        induction n with
        | zero => intro I6 H locs ls v3 v4 v5 g hI hF hl jv3 jv4 jv5 hL25 hx25_0 hx25_1 hx25_2 hn; exact absurd hn (by omega)
        | succ n ih25 =>
          intro I6 H locs ls v3 v4 v5 g hI hF hl jv3 jv4 jv5 hL25 hx25_0 hx25_1 hx25_2 hn
          have kv : v5.toNatClampNeg = v5.toInt.toNat := h_keq rfl (by omega) (by omega)
          refine lv_iload_n hx hb dX12_next_25 rfl (lv_at hl 3 rfl) ?_
          refine lv_bipush (v := 8) hx hb dX12_next_26 (by decide) ?_
          refine lv_icmp_ge (tgt := 106) hx hb dX12_next_28 (by decide) (fun c7 => ?_) (fun c7 => ?_)
          · have ic7 := (xi_le c7 (by decide) rfl : 8 ≤ v5.toInt)
            have k8 : v5.toInt.toNat = 8 := by omega
            rw [k8] at hx25_0 hx25_1
            refine lv_bipush (v := 8) hx hb dX12_next_106 (by decide) ?_
            refine lv_iload_n hx hb dX12_next_108 rfl (lv_at hl 2 rfl) ?_
            refine vp_callSi (W.runS (As := [.int v4]) (rest := [.int 8]) ⟨hx, hb, hml, hown, hts⟩ (tX12_bitsB l E X A z I6 L0 v4 (v4.toInt) rfl (by omega)) (va_cwS 1 hts gX12_next_X12_bits rfl rfl rfl (by decide +kernel) ⟨Nat.le_of_ble_eq_true rfl, Nat.le_of_ble_eq_true rfl⟩) ⟨h_blind _ _ _ _ _ _ _, h_pre _ hE hk hX hA hI hR g⟩ rfl rfl hl.1 rfl (lv_room (Nat.le_of_ble_eq_true rfl)) dX12_next_109 ⟨Nat.le_of_ble_eq_true rfl, Nat.le_of_ble_eq_true rfl⟩) (fun rh8 h8 => ?_)
            have h8p0 := h8
            have jrh8 : -2147483648 ≤ rh8.toInt ∧ rh8.toInt ≤ 2147483647 := ⟨xi_lo _, Int.le_of_lt_add_one (xi_hi _)⟩
            have hp8 := q_pop_8 v4.toInt.toNat
            have brh8 : 0 ≤ rh8.toInt ∧ rh8.toInt ≤ 8 := by omega
            have ab3 := hx25_1.2.2.1
            refine lv_isub hx hb dX12_next_112 ?_
            refine lv_topi (fun v9 ev9 => ?_)
            have jv9 : v9.toInt = 8 - rh8.toInt := xi_sub ev9 (by decide) rfl (by omega) (by omega)
            have oE : v9.toInt = q_nz AA 8 := by omega
            refine lv_istore_n (lv' := [(3, .int v9), (0, .ref a0), (1, .int v3), (2, .int v4)]) hx hb dX12_next_113 rfl hl (by decide) rfl (fun ls hl => ?_)
            refine lv_iload_n hx hb dX12_next_114 rfl (lv_at hl 0 rfl) ?_
            refine lv_if_ne (tgt := 122) hx hb dX12_next_115 (by decide) (fun c10 => ?_) (fun c10 => ?_)
            · have ic10 := (xi_ne c10 rfl (by decide) : v9.toInt ≠ 0)
              refine lv_iload_n hx hb dX12_next_122 rfl (lv_at hl 2 rfl) ?_
              refine lv_iload_n hx hb dX12_next_123 rfl (lv_at hl 0 rfl) ?_
              refine lv_idiv hx hb dX12_next_124 (h_ne0 (by omega)) ?_
              refine lv_topi (fun v11 ev11 => ?_)
              have jv11 : -2147483648 ≤ v11.toInt ∧ v11.toInt ≤ 2147483647 := ⟨xi_lo _, Int.le_of_lt_add_one (xi_hi _)⟩
              have shE : v11 = q_shr AA FF := q_shr_is hx25_0 oE (by omega) ev11
              refine lv_istore (lv' := [(4, .int v11), (3, .int v9), (0, .ref a0), (1, .int v3), (2, .int v4)]) hx hb dX12_next_125 hl (by decide) rfl (fun ls hl => ?_)
              refine lv_iconst (v := 0) hx hb dX12_next_127 (by decide) ?_
              refine lv_istore (lv' := [(5, .int 0), (4, .int v11), (3, .int v9), (0, .ref a0), (1, .int v3), (2, .int v4)]) hx hb dX12_next_128 hl (by decide) rfl (fun ls hl => ?_)
              have loop130_1 : ∀ (n : Nat) (I13 : tI) (H : Heap) (locs : List Loc) (ls : Array Slot) (v12 : Int32), h_G h_so h_fk E A z I13 L0 s s.heap H locs → h_I z I13 → h_F [(1349, 999), (13, 50), (13, 12), (1322, 999), (1314, 999), (1324, 999), (13, 30), (13, 31), (13, 33)] z I0 I13 → lv_has ls 6 [(0, .ref a0), (1, .int v3), (2, .int v4), (3, .int v9), (4, .int v11), (5, .int v12)] → (0 ≤ v12.toInt ∧ v12.toInt ≤ 8) → h_F [(1349, 999)] z I6 I13 → (∀ k : Nat, k < 8 → I13 pu k = if (k : Int) < v12.toInt then q_fnd (I0 pu) AA FF k else I0 pu k + FF k) → (8 - v12.toInt) < (n : Int) → W pr_ l ev_ (headSpec wsX12_next ({ frames := 5, cells := 0, slots := 0, locals := 320 })).room s m ([.ref a0] : List Value).toArray below meth cd_ H locs 0 0 (MQ below (va_Qi (fun r (I1 : tI) => h_I z I1 ∧ h_F [(1349, 999), (13, 50), (13, 12), (1322, 999), (1314, 999), (1324, 999), (13, 30), (13, 31), (13, 33)] z I0 I1 ∧ ((I1 a0 30).toInt = 1 → (I0 a0 30).toInt = 1) ∧ (((9 ≤ (I0 a0 12).toInt ∨ (I0 a0 31).toInt = 0) ∧ r.toInt = -4 ∧ I1 = I0) ∨ ((I0 a0 12).toInt ≤ 8 ∧ (I0 a0 31).toInt = 1 ∧ r.toInt = (I0 a0 12).toInt + 1 ∧ (I1 a0 12).toInt = (I0 a0 12).toInt + 1 ∧ I1 a0 30 = 0 ∧ I1 a0 31 = 0 ∧ I1 a0 33 = 0 ∧ (∀ q : Nat, (q : Int) < (I0 a0 13).toInt → m_nx I0 I1 (h_ad z a0 14) (h_ad z a0 15) (h_ad z a0 16) (h_ad z a0 20) (h_ad z a0 21) (h_ad z a0 22) q (I1 a0 12)) ∧ (∀ q : Nat, (I0 a0 13).toInt ≤ (q : Int) → I1 (h_ad z a0 22) q = I0 (h_ad z a0 22) q ∧ I1 (h_ad z a0 14) q = I0 (h_ad z a0 14) q) ∧ ∀ k : Nat, k < 8 → I1 (h_ad z a0 24) k = 0)) ∧ (((I0 a0 12).toInt ≤ 8 → (I0 a0 31).toInt = 1 → ((∀ k : Nat, k < 8 → I1 (h_ad z a0 49) k = q_fnd (I0 (h_ad z a0 49)) (m_ab z I0 a0 u_) (q_fin (m_ab z I0 a0 u_) (u_ 7)) k) ∧ I1 a0 50 = q_lft (I0 a0 50) (m_ab z I0 a0 u_) (q_fin (m_ab z I0 a0 u_) (u_ 7)))))) (fun (I1 : tI) t => h_B E A z I1 L0 t) A) ([.ref a0] : List Value).toArray s 0 0 A) (F0 m 130 ls []) := by
                intro n
                induction n with
                | zero => intro I13 H locs ls v12 g hI hF hl jv12 hL130 hx130_0 hn; exact absurd hn (by omega)
                | succ n ih130 =>
                  intro I13 H locs ls v12 g hI hF hl jv12 hL130 hx130_0 hn
                  have kw : v12.toNatClampNeg = v12.toInt.toNat := h_keq rfl (by omega) (by omega)
                  refine lv_iload hx hb dX12_next_130 (lv_at hl 5 rfl) ?_
                  refine lv_bipush (v := 8) hx hb dX12_next_132 (by decide) ?_
                  refine lv_icmp_ge (tgt := 169) hx hb dX12_next_134 (by decide) (fun c14 => ?_) (fun c14 => ?_)
                  · have ic14 := (xi_le c14 (by decide) rfl : 8 ≤ v12.toInt)
                    refine lv_aload_n hx hb dX12_next_169 rfl (lv_at hl 0 rfl) ?_
                    refine lv_dup hx hb dX12_next_170 rfl ?_
                    refine h_get (v := .int f0_50) hx hb hts iX12 hown g t_a0 (by decide) so_13 rfl 50 (by decide) (hts (.fieldLink RX12 329 "CapLeagueModel" "league" "I") (by decide +kernel)) rfl dX12_next_171 (congrArg Value.int ((h_F.at hL130 t_a0 rfl).trans ((h_F.at hL25 t_a0 rfl).trans (ef0_50.symm)))) ?_
                    refine lv_iload_n hx hb dX12_next_174 rfl (lv_at hl 1 rfl) ?_
                    refine lv_iload hx hb dX12_next_175 (lv_at hl 4 rfl) ?_
                    refine lv_iload_n hx hb dX12_next_177 rfl (lv_at hl 3 rfl) ?_
                    refine lv_imul hx hb dX12_next_178 ?_
                    refine lv_topi (fun v15 ev15 => ?_)
                    have jv15 : -2147483648 ≤ v15.toInt ∧ v15.toInt ≤ 2147483647 := ⟨xi_lo _, Int.le_of_lt_add_one (xi_hi _)⟩
                    refine lv_isub hx hb dX12_next_179 ?_
                    refine lv_topi (fun v16 ev16 => ?_)
                    have jv16 : -2147483648 ≤ v16.toInt ∧ v16.toInt ≤ 2147483647 := ⟨xi_lo _, Int.le_of_lt_add_one (xi_hi _)⟩
                    refine lv_iadd hx hb dX12_next_180 ?_
                    refine lv_topi (fun v17 ev17 => ?_)
                    have jv17 : -2147483648 ≤ v17.toInt ∧ v17.toInt ≤ 2147483647 := ⟨xi_lo _, Int.le_of_lt_add_one (xi_hi _)⟩
                    refine h_putI (ty := .int) (v := v17) hx hb hts iX12 tyX12 tyX12_ok nmX12 hown g t_a0 (by decide) so_13 rfl 50 (by decide) rfl (hts (.fieldLink RX12 329 "CapLeagueModel" "league" "I") (by decide +kernel)) rfl rfl (by decide +kernel) rfl rfl dX12_next_181 (fun I18 H locs eI18 g => ?_)
                    have hI := hI.wr eI18 t_a0 (rfl : h_bd 13 50 = ((-2147483648), 2147483647)) (xi_lo _) (Int.le_of_lt_add_one (xi_hi _))
                    have hF := hF.wr eI18 t_a0 rfl
                    have fnP : (∀ k : Nat, k < 8 → I18 pu k = q_fnd (I0 pu) AA FF k) ∧ I18 a0 50 = q_lft f0_50 AA FF := ⟨fun k k8 => (h_n1 eI18 tpu t_a0 (by decide)).trans ((hx130_0 k k8).trans (if_pos (by omega))), (h_n0 eI18).trans (q_lft_is hx25_0 shE oE ev15 ev16 ev17)⟩
                    refine lv_aload_n hx hb dX12_next_184 rfl (lv_at hl 0 rfl) ?_
                    refine lv_dup hx hb dX12_next_185 rfl ?_
                    refine h_get (v := .int f0_12) hx hb hts iX12 hown g t_a0 (by decide) so_13 rfl 12 (by decide) (hts (.fieldLink RX12 187 "CapLeagueModel" "clock" "I") (by decide +kernel)) rfl dX12_next_186 (congrArg Value.int ((h_n2 eI18 (by decide)).trans ((h_F.at hL130 t_a0 rfl).trans ((h_F.at hL25 t_a0 rfl).trans (ef0_12.symm))))) ?_
                    refine lv_iconst (v := 1) hx hb dX12_next_189 (by decide) ?_
                    refine lv_iadd hx hb dX12_next_190 ?_
                    refine lv_topi (fun v19 ev19 => ?_)
                    have jv19 : v19.toInt = f0_12.toInt + 1 := xi_add ev19 rfl (by decide) (by omega) (by omega)
                    refine h_putI (ty := .int) (v := v19) hx hb hts iX12 tyX12 tyX12_ok nmX12 hown g t_a0 (by decide) so_13 rfl 12 (by decide) rfl (hts (.fieldLink RX12 187 "CapLeagueModel" "clock" "I") (by decide +kernel)) rfl rfl (by decide +kernel) rfl rfl dX12_next_191 (fun I20 H locs eI20 g => ?_)
                    have hI := hI.wr eI20 t_a0 (rfl : h_bd 13 12 = (0, 9)) (by omega) (by omega)
                    have hF := hF.wr eI20 t_a0 rfl
                    obtain ⟨ck, eck⟩ : ∃ x : Int32, x = v19 := ⟨_, rfl⟩
                    refine lv_iconst (v := 0) hx hb dX12_next_194 (by decide) ?_
                    refine lv_istore (lv' := [(5, .int 0), (0, .ref a0), (1, .int v3), (2, .int v4), (3, .int v9), (4, .int v11)]) hx hb dX12_next_195 hl (by decide) rfl (fun ls hl => ?_)
                    have loop197_2 : ∀ (n : Nat) (I22 : tI) (H : Heap) (locs : List Loc) (ls : Array Slot) (v21 : Int32), h_G h_so h_fk E A z I22 L0 s s.heap H locs → h_I z I22 → h_F [(1349, 999), (13, 50), (13, 12), (1322, 999), (1314, 999), (1324, 999), (13, 30), (13, 31), (13, 33)] z I0 I22 → lv_has ls 6 [(0, .ref a0), (5, .int v21)] → (0 ≤ v21.toInt ∧ v21.toInt ≤ 60) → h_F [(1322, 999), (1314, 999)] z I20 I22 → (∀ q : Nat, (q : Int) < v21.toInt → m_nx I0 I22 cb fi la hc it hu q ck) → (∀ q : Nat, v21.toInt ≤ (q : Int) → I22 hu q = I0 hu q ∧ I22 cb q = I0 cb q) → (v21.toInt ≤ f0_13.toInt) → (60 - v21.toInt) < (n : Int) → W pr_ l ev_ (headSpec wsX12_next ({ frames := 5, cells := 0, slots := 0, locals := 320 })).room s m ([.ref a0] : List Value).toArray below meth cd_ H locs 0 0 (MQ below (va_Qi (fun r (I1 : tI) => h_I z I1 ∧ h_F [(1349, 999), (13, 50), (13, 12), (1322, 999), (1314, 999), (1324, 999), (13, 30), (13, 31), (13, 33)] z I0 I1 ∧ ((I1 a0 30).toInt = 1 → (I0 a0 30).toInt = 1) ∧ (((9 ≤ (I0 a0 12).toInt ∨ (I0 a0 31).toInt = 0) ∧ r.toInt = -4 ∧ I1 = I0) ∨ ((I0 a0 12).toInt ≤ 8 ∧ (I0 a0 31).toInt = 1 ∧ r.toInt = (I0 a0 12).toInt + 1 ∧ (I1 a0 12).toInt = (I0 a0 12).toInt + 1 ∧ I1 a0 30 = 0 ∧ I1 a0 31 = 0 ∧ I1 a0 33 = 0 ∧ (∀ q : Nat, (q : Int) < (I0 a0 13).toInt → m_nx I0 I1 (h_ad z a0 14) (h_ad z a0 15) (h_ad z a0 16) (h_ad z a0 20) (h_ad z a0 21) (h_ad z a0 22) q (I1 a0 12)) ∧ (∀ q : Nat, (I0 a0 13).toInt ≤ (q : Int) → I1 (h_ad z a0 22) q = I0 (h_ad z a0 22) q ∧ I1 (h_ad z a0 14) q = I0 (h_ad z a0 14) q) ∧ ∀ k : Nat, k < 8 → I1 (h_ad z a0 24) k = 0)) ∧ (((I0 a0 12).toInt ≤ 8 → (I0 a0 31).toInt = 1 → ((∀ k : Nat, k < 8 → I1 (h_ad z a0 49) k = q_fnd (I0 (h_ad z a0 49)) (m_ab z I0 a0 u_) (q_fin (m_ab z I0 a0 u_) (u_ 7)) k) ∧ I1 a0 50 = q_lft (I0 a0 50) (m_ab z I0 a0 u_) (q_fin (m_ab z I0 a0 u_) (u_ 7)))))) (fun (I1 : tI) t => h_B E A z I1 L0 t) A) ([.ref a0] : List Value).toArray s 0 0 A) (F0 m 197 ls []) := by
                      intro n
                      induction n with
                      | zero => intro I22 H locs ls v21 g hI hF hl jv21 hL197 hx197_0 hx197_1 hx197_2 hn; exact absurd hn (by omega)
                      | succ n ih197 =>
                        intro I22 H locs ls v21 g hI hF hl jv21 hL197 hx197_0 hx197_1 hx197_2 hn
                        refine lv_iload hx hb dX12_next_197 (lv_at hl 1 rfl) ?_
                        refine lv_aload_n hx hb dX12_next_199 rfl (lv_at hl 0 rfl) ?_
                        refine h_get (v := .int f0_13) hx hb hts iX12 hown g t_a0 (by decide) so_13 rfl 13 (by decide) (hts (.fieldLink RX12 202 "CapLeagueModel" "players" "I") (by decide +kernel)) rfl dX12_next_200 (congrArg Value.int ((h_F.at hL197 t_a0 rfl).trans ((h_n2 eI20 (by decide)).trans ((h_n2 eI18 (by decide)).trans ((h_F.at hL130 t_a0 rfl).trans ((h_F.at hL25 t_a0 rfl).trans (ef0_13.symm))))))) ?_
                        refine lv_icmp_ge (tgt := 252) hx hb dX12_next_203 (by decide) (fun c23 => ?_) (fun c23 => ?_)
                        · have ic23 := (xi_le c23 rfl rfl : f0_13.toInt ≤ v21.toInt)
                          refine lv_iconst (v := 0) hx hb dX12_next_252 (by decide) ?_
                          refine lv_istore (lv' := [(5, .int 0), (0, .ref a0)]) hx hb dX12_next_253 hl (by decide) rfl (fun ls hl => ?_)
                          have loop255_3 : ∀ (n : Nat) (I25 : tI) (H : Heap) (locs : List Loc) (ls : Array Slot) (v24 : Int32), h_G h_so h_fk E A z I25 L0 s s.heap H locs → h_I z I25 → h_F [(1349, 999), (13, 50), (13, 12), (1322, 999), (1314, 999), (1324, 999), (13, 30), (13, 31), (13, 33)] z I0 I25 → lv_has ls 6 [(0, .ref a0), (5, .int v24)] → (0 ≤ v24.toInt ∧ v24.toInt ≤ 8) → h_F [(1324, 999)] z I22 I25 → (∀ q : Nat, (q : Int) < v24.toInt → I25 us q = 0) → (8 - v24.toInt) < (n : Int) → W pr_ l ev_ (headSpec wsX12_next ({ frames := 5, cells := 0, slots := 0, locals := 320 })).room s m ([.ref a0] : List Value).toArray below meth cd_ H locs 0 0 (MQ below (va_Qi (fun r (I1 : tI) => h_I z I1 ∧ h_F [(1349, 999), (13, 50), (13, 12), (1322, 999), (1314, 999), (1324, 999), (13, 30), (13, 31), (13, 33)] z I0 I1 ∧ ((I1 a0 30).toInt = 1 → (I0 a0 30).toInt = 1) ∧ (((9 ≤ (I0 a0 12).toInt ∨ (I0 a0 31).toInt = 0) ∧ r.toInt = -4 ∧ I1 = I0) ∨ ((I0 a0 12).toInt ≤ 8 ∧ (I0 a0 31).toInt = 1 ∧ r.toInt = (I0 a0 12).toInt + 1 ∧ (I1 a0 12).toInt = (I0 a0 12).toInt + 1 ∧ I1 a0 30 = 0 ∧ I1 a0 31 = 0 ∧ I1 a0 33 = 0 ∧ (∀ q : Nat, (q : Int) < (I0 a0 13).toInt → m_nx I0 I1 (h_ad z a0 14) (h_ad z a0 15) (h_ad z a0 16) (h_ad z a0 20) (h_ad z a0 21) (h_ad z a0 22) q (I1 a0 12)) ∧ (∀ q : Nat, (I0 a0 13).toInt ≤ (q : Int) → I1 (h_ad z a0 22) q = I0 (h_ad z a0 22) q ∧ I1 (h_ad z a0 14) q = I0 (h_ad z a0 14) q) ∧ ∀ k : Nat, k < 8 → I1 (h_ad z a0 24) k = 0)) ∧ (((I0 a0 12).toInt ≤ 8 → (I0 a0 31).toInt = 1 → ((∀ k : Nat, k < 8 → I1 (h_ad z a0 49) k = q_fnd (I0 (h_ad z a0 49)) (m_ab z I0 a0 u_) (q_fin (m_ab z I0 a0 u_) (u_ 7)) k) ∧ I1 a0 50 = q_lft (I0 a0 50) (m_ab z I0 a0 u_) (q_fin (m_ab z I0 a0 u_) (u_ 7)))))) (fun (I1 : tI) t => h_B E A z I1 L0 t) A) ([.ref a0] : List Value).toArray s 0 0 A) (F0 m 255 ls []) := by
                            intro n
                            induction n with
                            | zero => intro I25 H locs ls v24 g hI hF hl jv24 hL255 hx255_0 hn; exact absurd hn (by omega)
                            | succ n ih255 =>
                              intro I25 H locs ls v24 g hI hF hl jv24 hL255 hx255_0 hn
                              refine lv_iload hx hb dX12_next_255 (lv_at hl 1 rfl) ?_
                              refine lv_bipush (v := 8) hx hb dX12_next_257 (by decide) ?_
                              refine lv_icmp_ge (tgt := 276) hx hb dX12_next_259 (by decide) (fun c26 => ?_) (fun c26 => ?_)
                              · have ic26 := (xi_le c26 (by decide) rfl : 8 ≤ v24.toInt)
                                refine lv_aload_n hx hb dX12_next_276 rfl (lv_at hl 0 rfl) ?_
                                refine lv_iconst (v := 0) hx hb dX12_next_277 (by decide) ?_
                                refine h_putI (ty := .boolean) (v := 0) hx hb hts iX12 tyX12 tyX12_ok nmX12 hown g t_a0 (by decide) so_13 rfl 30 (by decide) rfl (hts (.fieldLink RX12 306 "CapLeagueModel" "hasTable" "Z") (by decide +kernel)) rfl rfl (by decide +kernel) (by decide) (by decide) dX12_next_278 (fun I27 H locs eI27 g => ?_)
                                have hI := hI.wr eI27 t_a0 (rfl : h_bd 13 30 = (0, 1)) (by decide) (by decide)
                                have hF := hF.wr eI27 t_a0 rfl
                                refine lv_aload_n hx hb dX12_next_281 rfl (lv_at hl 0 rfl) ?_
                                refine lv_iconst (v := 0) hx hb dX12_next_282 (by decide) ?_
                                refine h_putI (ty := .boolean) (v := 0) hx hb hts iX12 tyX12 tyX12_ok nmX12 hown g t_a0 (by decide) so_13 rfl 31 (by decide) rfl (hts (.fieldLink RX12 264 "CapLeagueModel" "isDrawn" "Z") (by decide +kernel)) rfl rfl (by decide +kernel) (by decide) (by decide) dX12_next_283 (fun I28 H locs eI28 g => ?_)
                                have hI := hI.wr eI28 t_a0 (rfl : h_bd 13 31 = (0, 1)) (by decide) (by decide)
                                have hF := hF.wr eI28 t_a0 rfl
                                refine lv_aload_n hx hb dX12_next_286 rfl (lv_at hl 0 rfl) ?_
                                refine lv_iconst (v := 0) hx hb dX12_next_287 (by decide) ?_
                                refine h_putI (ty := .int) (v := 0) hx hb hts iX12 tyX12 tyX12_ok nmX12 hown g t_a0 (by decide) so_13 rfl 33 (by decide) rfl (hts (.fieldLink RX12 247 "CapLeagueModel" "moves" "I") (by decide +kernel)) rfl rfl (by decide +kernel) rfl rfl dX12_next_288 (fun I29 H locs eI29 g => ?_)
                                have hI := hI.wr eI29 t_a0 (rfl : h_bd 13 33 = (0, 12)) (by decide) (by decide)
                                have hF := hF.wr eI29 t_a0 rfl
                                refine lv_aload_n hx hb dX12_next_291 rfl (lv_at hl 0 rfl) ?_
                                refine h_get (v := .int v19) hx hb hts iX12 hown g t_a0 (by decide) so_13 rfl 12 (by decide) (hts (.fieldLink RX12 187 "CapLeagueModel" "clock" "I") (by decide +kernel)) rfl dX12_next_292 (congrArg Value.int ((h_n2 eI29 (by decide)).trans ((h_n2 eI28 (by decide)).trans ((h_n2 eI27 (by decide)).trans ((h_F.at hL255 t_a0 rfl).trans ((h_F.at hL197 t_a0 rfl).trans (h_n0 eI20))))))) ?_
                                have hS := g.2.1
                                exact W.iret (v := v19) hx hb hr (fun t ht hW => ⟨⟨v19, I29, rfl, ⟨hI, hF, ⟨(by have q1_30 : (I29 a0 30).toInt = 0 := (congrArg Int32.toInt ((h_n2 eI29 (by decide)).trans ((h_n2 eI28 (by decide)).trans (h_n0 eI27)))).trans (by decide); omega), (by rw [qf0_12, qf0_31, ← ef0_13, acb, afi, ala, ahc, ait, ahu, aus]; rw [show I29 a0 12 = v19 from (h_n2 eI29 (by decide)).trans ((h_n2 eI28 (by decide)).trans ((h_n2 eI27 (by decide)).trans ((h_F.at hL255 t_a0 rfl).trans ((h_F.at hL197 t_a0 rfl).trans (h_n0 eI20))))), ← eck]; exact Or.inr ⟨by omega, by omega, by rw [eck]; omega, by rw [eck]; omega, (h_n2 eI29 (by decide)).trans ((h_n2 eI28 (by decide)).trans (h_n0 eI27)), (h_n2 eI29 (by decide)).trans (h_n0 eI28), h_n0 eI29, (fun q hq => (hx197_0 q (by omega)).c ((h_n1 eI29 thu t_a0 (by decide)).trans ((h_n1 eI28 thu t_a0 (by decide)).trans ((h_n1 eI27 thu t_a0 (by decide)).trans (h_F.at hL255 thu rfl)))) ((h_n1 eI29 tcb t_a0 (by decide)).trans ((h_n1 eI28 tcb t_a0 (by decide)).trans ((h_n1 eI27 tcb t_a0 (by decide)).trans (h_F.at hL255 tcb rfl))))), (fun q hq => ⟨((h_n1 eI29 thu t_a0 (by decide)).trans ((h_n1 eI28 thu t_a0 (by decide)).trans ((h_n1 eI27 thu t_a0 (by decide)).trans (h_F.at hL255 thu rfl)))).trans (hx197_1 q (by omega)).1, ((h_n1 eI29 tcb t_a0 (by decide)).trans ((h_n1 eI28 tcb t_a0 (by decide)).trans ((h_n1 eI27 tcb t_a0 (by decide)).trans (h_F.at hL255 tcb rfl)))).trans (hx197_1 q (by omega)).2⟩), fun k hk => ((h_n1 eI29 tus t_a0 (by decide)).trans ((h_n1 eI28 tus t_a0 (by decide)).trans (h_n1 eI27 tus t_a0 (by decide)))).trans (hx255_0 k (by omega))⟩), (fun c1 c2 => by rw [apu, ← ef0_50, ← eFF, ← eAA]; exact ⟨fun k k8 => ((h_n1 eI29 tpu t_a0 (by decide)).trans ((h_n1 eI28 tpu t_a0 (by decide)).trans ((h_n1 eI27 tpu t_a0 (by decide)).trans ((h_F.at hL255 tpu rfl).trans ((h_F.at hL197 tpu rfl).trans (h_n1 eI20 tpu t_a0 (by decide))))))).trans (fnP.1 k k8), ((h_n2 eI29 (by decide)).trans ((h_n2 eI28 (by decide)).trans ((h_n2 eI27 (by decide)).trans ((h_F.at hL255 t_a0 rfl).trans ((h_F.at hL197 t_a0 rfl).trans (h_n2 eI20 (by decide))))))).trans fnP.2⟩)⟩⟩, h_ret g ht⟩, hS.F ht⟩) hS.2.2 dX12_next_295
                              · have ic26 := (xi_nle c26 (by decide) rfl : v24.toInt < 8)
                                refine lv_aload_n hx hb dX12_next_262 rfl (lv_at hl 0 rfl) ?_
                                refine h_get (v := .ref us) hx hb hts iX12 hown g t_a0 (by decide) so_13 rfl 24 (by decide) (hts (.fieldLink RX12 55 "CapLeagueModel" "usedSpare" "[Z") (by decide +kernel)) rfl dX12_next_263 (by show va_rf (z.R a0 24) = _; rw [rus]; rfl) ?_
                                refine lv_iload hx hb dX12_next_266 (lv_at hl 1 rfl) ?_
                                refine lv_iconst (v := 0) hx hb dX12_next_268 (by decide) ?_
                                refine h_zast hx hb g tus (by decide) so_1324 (xi_in (by omega) (by omega)) dX12_next_269 (fun I30 H locs eI30 g => ?_)
                                rw [h_nz (by decide) (by decide)] at eI30
                                have hI := hI.wr eI30 tus (rfl : h_bd 1324 _ = (0, 1)) (by decide) (by decide)
                                have hF := hF.wr eI30 tus rfl
                                obtain ⟨v31, ev31⟩ : ∃ z : Int32, z = v24 + 1 := ⟨_, rfl⟩
                                have jv31 : v31.toInt = v24.toInt + 1 := xi_add ev31 rfl (by decide) (by omega) (by omega)
                                refine lv_iinc (v := v31) (lv' := [(5, .int v31), (0, .ref a0)]) hx hb dX12_next_270 hl (k := 1) rfl (by rw [ev31]; rfl) (by decide) rfl (fun ls hl => ?_)
                                refine lv_goto (tgt := 255) hx hb dX12_next_273 (by decide) ?_
                                exact ih255 I30 _ _ _ v31 g hI hF (lv_sub hl [1, 0] rfl) (by omega) (h_F.wr (h_F.call (h_F.rf : h_F [(1324, 999)] z I22 I22) hL255 rfl) eI30 tus rfl) (fun q hq => by by_cases hqv : (q : Int) < v24.toInt; exact (h_n2 eI30 (by rw [(h_keq rfl (by omega) (by omega) : v24.toNatClampNeg = v24.toInt.toNat)]; omega)).trans (hx255_0 q hqv); rw [show q = v24.toInt.toNat by omega, ← (h_keq rfl (by omega) (by omega) : v24.toNatClampNeg = v24.toInt.toNat)]; exact h_n0 eI30) (by omega)
                          have kc32 : (0 : Int32).toInt = 0 := by decide
                          exact loop255_3 _ I22 _ _ _ (0) g hI hF (lv_sub hl [1, 0] rfl) ⟨by decide, by decide⟩ (h_F.rf : h_F [(1324, 999)] z I22 I22) (fun q hq => absurd hq (by omega)) (show (8 - (0 : Int)) < (((8 - (0 : Int)).toNat + 1 : Nat) : Int) by omega)
                        · have ic23 := (xi_nle c23 rfl rfl : v21.toInt < f0_13.toInt)
                          refine lv_aload_n hx hb dX12_next_206 rfl (lv_at hl 0 rfl) ?_
                          refine h_get (v := .ref hu) hx hb hts iX12 hown g t_a0 (by decide) so_13 rfl 22 (by decide) (hts (.fieldLink RX12 49 "CapLeagueModel" "isHurt" "[Z") (by decide +kernel)) rfl dX12_next_207 (by show va_rf (z.R a0 22) = _; rw [rhu]; rfl) ?_
                          refine lv_iload hx hb dX12_next_210 (lv_at hl 1 rfl) ?_
                          refine lv_iconst (v := 0) hx hb dX12_next_212 (by decide) ?_
                          refine h_zast hx hb g thu (by decide) so_1322 (xi_in (by omega) (by omega)) dX12_next_213 (fun I33 H locs eI33 g => ?_)
                          rw [h_nz (by decide) (by decide)] at eI33
                          have hI := hI.wr eI33 thu (rfl : h_bd 1322 _ = (0, 1)) (by decide) (by decide)
                          have hF := hF.wr eI33 thu rfl
                          refine lv_aload_n hx hb dX12_next_214 rfl (lv_at hl 0 rfl) ?_
                          refine h_get (v := .ref cb) hx hb hts iX12 hown g t_a0 (by decide) so_13 rfl 14 (by decide) (hts (.fieldLink RX12 25 "CapLeagueModel" "clubOf" "[I") (by decide +kernel)) rfl dX12_next_215 (by show va_rf (z.R a0 14) = _; rw [rcb]; rfl) ?_
                          refine lv_iload hx hb dX12_next_218 (lv_at hl 1 rfl) ?_
                          refine h_ald hx hb g tcb (by decide) so_1314 (xi_in (by omega) (by omega)) dX12_next_220 ?_
                          refine lv_topi (fun v34 ev34 => ?_)
                          have jv34 := hI.rd cb v21.toNatClampNeg tcb ev34 (rfl : h_bd 1314 _ = ((-1), 7))
                          have kv : v21.toNatClampNeg = v21.toInt.toNat := h_keq rfl (by omega) (by omega)
                          have gv34 : I0 cb v21.toInt.toNat = v34 := by rw [← kv, ev34]; exact ((h_n1 eI33 tcb thu (by decide)).trans (hx197_1 _ (by rw [kv]; omega)).2).symm
                          refine lv_iconst (v := (-1)) hx hb dX12_next_221 (by decide) ?_
                          refine lv_icmp_eq (tgt := 246) hx hb dX12_next_222 (by decide) (fun c35 => ?_) (fun c35 => ?_)
                          · have ic35 := (xi_eq c35 rfl (by decide) : v34.toInt = (-1))
                            obtain ⟨v36, ev36⟩ : ∃ z : Int32, z = v21 + 1 := ⟨_, rfl⟩
                            have jv36 : v36.toInt = v21.toInt + 1 := xi_add ev36 rfl (by decide) (by omega) (by omega)
                            refine lv_iinc (v := v36) (lv' := [(5, .int v36), (0, .ref a0)]) hx hb dX12_next_246 hl (k := 1) rfl (by rw [ev36]; rfl) (by decide) rfl (fun ls hl => ?_)
                            refine lv_goto (tgt := 197) hx hb dX12_next_249 (by decide) ?_
                            exact ih197 I33 _ _ _ v36 g hI hF (lv_sub hl [1, 0] rfl) (by omega) (h_F.wr (h_F.call (h_F.rf : h_F [(1322, 999), (1314, 999)] z I20 I20) hL197 rfl) eI33 thu rfl) (m_nx_A (v := v21.toInt.toNat) hx197_0 (by omega) (by omega : v36.toInt = v21.toInt + 1) (hx197_1 _ (by omega)).2 (fun j => h_wif eI33 kv j) (Or.inr ⟨Or.inl (by rw [gv34]; omega), fun j => h_n1 eI33 tcb thu (by decide)⟩)) (m_nx_B (v := v21.toInt.toNat) hx197_1 (by omega) (by omega : v36.toInt = v21.toInt + 1) (fun j => h_wif eI33 kv j) (Or.inr (fun j => h_n1 eI33 tcb thu (by decide)))) (by omega) (by omega)
                          · have ic35 := (xi_ne c35 rfl (by decide) : v34.toInt ≠ (-1))
                            refine lv_aload_n hx hb dX12_next_225 rfl (lv_at hl 0 rfl) ?_
                            refine lv_iload hx hb dX12_next_226 (lv_at hl 1 rfl) ?_
                            refine lv_aload_n hx hb dX12_next_228 rfl (lv_at hl 0 rfl) ?_
                            refine h_get (v := .int v19) hx hb hts iX12 hown g t_a0 (by decide) so_13 rfl 12 (by decide) (hts (.fieldLink RX12 187 "CapLeagueModel" "clock" "I") (by decide +kernel)) rfl dX12_next_229 (congrArg Value.int ((h_n1 eI33 t_a0 thu (by decide)).trans ((h_F.at hL197 t_a0 rfl).trans (h_n0 eI20)))) ?_
                            refine vp_callSi (W.runV (As := [.int v21, .int v19]) (rest := []) ⟨hx, hb, hml, hown, hts⟩ (tX12_isUnderB l E X A z I33 L0 a0 t_a0 v21 (v21.toInt) rfl (by omega) v19 (v19.toInt) rfl) (cwV 2 hts gX12_next_X12_isUnder rfl rfl rfl (by decide +kernel) ⟨Nat.le_of_ble_eq_true rfl, Nat.le_of_ble_eq_true rfl⟩) ⟨h_blind _ _ _ _ _ _ _, h_recv g t_a0 (by decide) so_13 (q := (RX12, TX12, 51)) rfl, h_pre _ hE hk hX hA hI hR g⟩ rfl rfl hl.1 rfl (lv_room (Nat.le_of_ble_eq_true rfl)) dX12_next_232 ⟨Nat.le_of_ble_eq_true rfl, Nat.le_of_ble_eq_true rfl⟩) (fun rh37 h37 => ?_)
                            obtain ⟨h37, h37p0⟩ := h37
                            rw [acb, afi, ala, ahc, ait, show I33 fi v21.toInt.toNat = I0 fi v21.toInt.toNat from hF.at tfi rfl, show I33 la v21.toInt.toNat = I0 la v21.toInt.toNat from hF.at tla rfl, show I33 hc v21.toInt.toNat = I0 hc v21.toInt.toNat from hF.at thc rfl, show I33 it v21.toInt.toNat = I0 it v21.toInt.toNat from hF.at tit rfl, show I33 cb v21.toInt.toNat = I0 cb v21.toInt.toNat from (h_n1 eI33 tcb thu (by decide)).trans (hx197_1 _ (by omega)).2] at h37p0
                            rw [← eck] at h37p0
                            refine lv_if_ne (tgt := 246) hx hb dX12_next_235 (by decide) (fun c38 => ?_) (fun c38 => ?_)
                            · have ic38 := (xi_ne c38 rfl (by decide) : rh37.toInt ≠ 0)
                              obtain ⟨v39, ev39⟩ : ∃ z : Int32, z = v21 + 1 := ⟨_, rfl⟩
                              have jv39 : v39.toInt = v21.toInt + 1 := xi_add ev39 rfl (by decide) (by omega) (by omega)
                              refine lv_iinc (v := v39) (lv' := [(5, .int v39), (0, .ref a0)]) hx hb dX12_next_246 hl (k := 1) rfl (by rw [ev39]; rfl) (by decide) rfl (fun ls hl => ?_)
                              refine lv_goto (tgt := 197) hx hb dX12_next_249 (by decide) ?_
                              exact ih197 I33 _ _ _ v39 g hI hF (lv_sub hl [1, 0] rfl) (by omega) (h_F.wr (h_F.call (h_F.rf : h_F [(1322, 999), (1314, 999)] z I20 I20) hL197 rfl) eI33 thu rfl) (m_nx_A (v := v21.toInt.toNat) hx197_0 (by omega) (by omega : v39.toInt = v21.toInt + 1) (hx197_1 _ (by omega)).2 (fun j => h_wif eI33 kv j) (Or.inr ⟨Or.inr (by rcases h37p0 with q | q; exact q.2; exact absurd q.1 (by omega)), fun j => h_n1 eI33 tcb thu (by decide)⟩)) (m_nx_B (v := v21.toInt.toNat) hx197_1 (by omega) (by omega : v39.toInt = v21.toInt + 1) (fun j => h_wif eI33 kv j) (Or.inr (fun j => h_n1 eI33 tcb thu (by decide)))) (by omega) (by omega)
                            · have ic38 := (xi_eq c38 rfl (by decide) : rh37.toInt = 0)
                              refine lv_aload_n hx hb dX12_next_238 rfl (lv_at hl 0 rfl) ?_
                              refine h_get (v := .ref cb) hx hb hts iX12 hown g t_a0 (by decide) so_13 rfl 14 (by decide) (hts (.fieldLink RX12 25 "CapLeagueModel" "clubOf" "[I") (by decide +kernel)) rfl dX12_next_239 (by show va_rf (z.R a0 14) = _; rw [rcb]; rfl) ?_
                              refine lv_iload hx hb dX12_next_242 (lv_at hl 1 rfl) ?_
                              refine lv_iconst (v := (-1)) hx hb dX12_next_244 (by decide) ?_
                              refine h_ast hx hb g tcb (by decide) so_1314 (xi_in (by omega) (by omega)) dX12_next_245 (fun I40 H locs eI40 g => ?_)
                              have hI := hI.wr eI40 tcb (rfl : h_bd 1314 _ = ((-1), 7)) (by decide) (by decide)
                              have hF := hF.wr eI40 tcb rfl
                              obtain ⟨v41, ev41⟩ : ∃ z : Int32, z = v21 + 1 := ⟨_, rfl⟩
                              have jv41 : v41.toInt = v21.toInt + 1 := xi_add ev41 rfl (by decide) (by omega) (by omega)
                              refine lv_iinc (v := v41) (lv' := [(5, .int v41), (0, .ref a0)]) hx hb dX12_next_246 hl (k := 1) rfl (by rw [ev41]; rfl) (by decide) rfl (fun ls hl => ?_)
                              refine lv_goto (tgt := 197) hx hb dX12_next_249 (by decide) ?_
                              exact ih197 I40 _ _ _ v41 g hI hF (lv_sub hl [1, 0] rfl) (by omega) (h_F.wr (h_F.wr (h_F.call (h_F.rf : h_F [(1322, 999), (1314, 999)] z I20 I20) hL197 rfl) eI33 thu rfl) eI40 tcb rfl) (m_nx_A (v := v21.toInt.toNat) hx197_0 (by omega) (by omega : v41.toInt = v21.toInt + 1) (hx197_1 _ (by omega)).2 (fun j => (h_n1 eI40 thu tcb (by decide)).trans (h_wif eI33 kv j)) (Or.inl ⟨by rw [gv34]; omega, (by rcases h37p0 with q | q; exact absurd q.1 (by omega); exact q.2), fun j => (h_wif eI40 kv j).trans (by rw [h_n1 eI33 tcb thu (by decide)])⟩)) (m_nx_B (v := v21.toInt.toNat) hx197_1 (by omega) (by omega : v41.toInt = v21.toInt + 1) (fun j => (h_n1 eI40 thu tcb (by decide)).trans (h_wif eI33 kv j)) (Or.inl (fun j => (h_wif eI40 kv j).trans (by rw [h_n1 eI33 tcb thu (by decide)])))) (by omega) (by omega)
                    have kc42 : (0 : Int32).toInt = 0 := by decide
                    exact loop197_2 _ I20 _ _ _ (0) g hI hF (lv_sub hl [1, 0] rfl) ⟨by decide, by decide⟩ (h_F.rf : h_F [(1322, 999), (1314, 999)] z I20 I20) (fun q hq => absurd hq (by omega)) (fun q _ => ⟨(h_n1 eI20 thu t_a0 (by decide)).trans ((h_n1 eI18 thu t_a0 (by decide)).trans ((h_F.at hL130 thu rfl).trans (h_F.at hL25 thu rfl))), (h_n1 eI20 tcb t_a0 (by decide)).trans ((h_n1 eI18 tcb t_a0 (by decide)).trans ((h_F.at hL130 tcb rfl).trans (h_F.at hL25 tcb rfl)))⟩) (by omega) (show (60 - (0 : Int)) < (((60 - (0 : Int)).toNat + 1 : Nat) : Int) by omega)
                  · have ic14 := (xi_nle c14 (by decide) rfl : v12.toInt < 8)
                    refine lv_aload_n hx hb dX12_next_137 rfl (lv_at hl 0 rfl) ?_
                    refine h_get (v := .ref pu) hx hb hts iX12 hown g t_a0 (by decide) so_13 rfl 49 (by decide) (hts (.fieldLink RX12 112 "CapLeagueModel" "purse" "[I") (by decide +kernel)) rfl dX12_next_138 (by show va_rf (z.R a0 49) = _; rw [rpu]; rfl) ?_
                    refine lv_iload hx hb dX12_next_141 (lv_at hl 5 rfl) ?_
                    refine lv_dup2_11 hx hb dX12_next_143 rfl rfl ?_
                    refine h_ald hx hb g tpu (by decide) so_1349 (xi_in (by omega) (by omega)) dX12_next_144 ?_
                    refine lv_topi (fun v43 ev43 => ?_)
                    have jv43 := hI.rd pu v12.toNatClampNeg tpu ev43 (rfl : h_bd 1349 _ = ((-2147483648), 2147483647))
                    refine lv_iload_n hx hb dX12_next_145 rfl (lv_at hl 2 rfl) ?_
                    refine lv_iload hx hb dX12_next_146 (lv_at hl 5 rfl) ?_
                    refine lv_ishr hx hb dX12_next_148 ?_
                    refine lv_topi (fun v44 ev44 => ?_)
                    have jv44 : -2147483648 ≤ v44.toInt ∧ v44.toInt ≤ 2147483647 := ⟨xi_lo _, Int.le_of_lt_add_one (xi_hi _)⟩
                    refine lv_iconst (v := 1) hx hb dX12_next_149 (by decide) ?_
                    refine lv_iand hx hb dX12_next_150 ?_
                    refine lv_topi (fun v45 ev45 => ?_)
                    have jv45 : 0 ≤ v45.toInt ∧ v45.toInt ≤ 1 := h_andn 1 (by decide) ev45
                    have bt := q_btm (x := v4) (c := v12) (hx25_1.b (by omega)) (by omega) ev44 ev45
                    have ba := hx25_1.2.2.2 v12.toInt.toNat (by omega)
                    refine lv_iconst (v := 1) hx hb dX12_next_151 (by decide) ?_
                    refine lv_icmp_ne (tgt := 159) hx hb dX12_next_152 (by decide) (fun c46 => ?_) (fun c46 => ?_)
                    · have ic46 := (xi_ne c46 rfl (by decide) : v45.toInt ≠ 1)
                      refine lv_iload hx hb dX12_next_159 (lv_at hl 4 rfl) ?_
                      refine lv_isub hx hb dX12_next_161 ?_
                      refine lv_topi (fun v47 ev47 => ?_)
                      have jv47 : -2147483648 ≤ v47.toInt ∧ v47.toInt ≤ 2147483647 := ⟨xi_lo _, Int.le_of_lt_add_one (xi_hi _)⟩
                      refine h_ast hx hb g tpu (by decide) so_1349 (xi_in (by omega) (by omega)) dX12_next_162 (fun I48 H locs eI48 g => ?_)
                      have hI := hI.wr eI48 tpu (rfl : h_bd 1349 _ = ((-2147483648), 2147483647)) (xi_lo _) (Int.le_of_lt_add_one (xi_hi _))
                      have hF := hF.wr eI48 tpu rfl
                      obtain ⟨v49, ev49⟩ : ∃ z : Int32, z = v12 + 1 := ⟨_, rfl⟩
                      have jv49 : v49.toInt = v12.toInt + 1 := xi_add ev49 rfl (by decide) (by omega) (by omega)
                      refine lv_iinc (v := v49) (lv' := [(5, .int v49), (0, .ref a0), (1, .int v3), (2, .int v4), (3, .int v9), (4, .int v11)]) hx hb dX12_next_163 hl (k := 5) rfl (by rw [ev49]; rfl) (by decide) rfl (fun ls hl => ?_)
                      refine lv_goto (tgt := 130) hx hb dX12_next_166 (by decide) ?_
                      exact ih130 I48 _ _ _ v49 g hI hF (lv_sub hl [1, 2, 3, 4, 5, 0] rfl) (by omega) (h_F.wr (h_F.call (h_F.rf : h_F [(1349, 999)] z I6 I6) hL130 rfl) eI48 tpu rfl) (q_fi_t (v := v12.toInt.toNat) hx130_0 (by omega) (by omega : v49.toInt = v12.toInt + 1) (by omega) (fun j => h_wif eI48 kw j) (by rw [if_pos (ba.mp (bt.mp (by omega))), ← shE, show I13 pu v12.toInt.toNat = v43 by rw [← kw]; exact ev43.symm]; exact ev47)) (by omega)
                    · have ic46 := (xi_eq c46 rfl (by decide) : v45.toInt = 1)
                      refine lv_iconst (v := 0) hx hb dX12_next_155 (by decide) ?_
                      refine lv_goto (tgt := 161) hx hb dX12_next_156 (by decide) ?_
                      refine lv_isub hx hb dX12_next_161 ?_
                      refine lv_topi (fun v50 ev50 => ?_)
                      have jv50 : v50.toInt = v43.toInt - 0 := xi_sub ev50 rfl (by decide) (by omega) (by omega)
                      refine h_ast hx hb g tpu (by decide) so_1349 (xi_in (by omega) (by omega)) dX12_next_162 (fun I51 H locs eI51 g => ?_)
                      have hI := hI.wr eI51 tpu (rfl : h_bd 1349 _ = ((-2147483648), 2147483647)) (xi_lo _) (Int.le_of_lt_add_one (xi_hi _))
                      have hF := hF.wr eI51 tpu rfl
                      obtain ⟨v52, ev52⟩ : ∃ z : Int32, z = v12 + 1 := ⟨_, rfl⟩
                      have jv52 : v52.toInt = v12.toInt + 1 := xi_add ev52 rfl (by decide) (by omega) (by omega)
                      refine lv_iinc (v := v52) (lv' := [(5, .int v52), (0, .ref a0), (1, .int v3), (2, .int v4), (3, .int v9), (4, .int v11)]) hx hb dX12_next_163 hl (k := 5) rfl (by rw [ev52]; rfl) (by decide) rfl (fun ls hl => ?_)
                      refine lv_goto (tgt := 130) hx hb dX12_next_166 (by decide) ?_
                      exact ih130 I51 _ _ _ v52 g hI hF (lv_sub hl [1, 2, 3, 4, 5, 0] rfl) (by omega) (h_F.wr (h_F.call (h_F.rf : h_F [(1349, 999)] z I6 I6) hL130 rfl) eI51 tpu rfl) (q_fi_t (v := v12.toInt.toNat) hx130_0 (by omega) (by omega : v52.toInt = v12.toInt + 1) (by omega) (fun j => h_wif eI51 kw j) (by rw [if_neg (fun q => absurd (bt.mpr (ba.mpr q)) (by omega)), show I13 pu v12.toInt.toNat = v43 by rw [← kw]; exact ev43.symm]; exact ev50)) (by omega)
              have kc53 : (0 : Int32).toInt = 0 := by decide
              exact loop130_1 _ I6 _ _ _ (0) g hI hF (lv_sub hl [3, 4, 5, 2, 1, 0] rfl) ⟨by decide, by decide⟩ (h_F.rf : h_F [(1349, 999)] z I6 I6) (fun k k8 => (hx25_2 k).trans ((if_pos (by omega)).trans (if_neg (by omega)).symm)) (show (8 - (0 : Int)) < (((8 - (0 : Int)).toNat + 1 : Nat) : Int) by omega)
            · have ic10 := (xi_eq c10 rfl (by decide) : v9.toInt = 0)
              refine lv_iconst (v := 0) hx hb dX12_next_118 (by decide) ?_
              refine lv_goto (tgt := 125) hx hb dX12_next_119 (by decide) ?_
              have shE : (0 : Int32) = q_shr AA FF := q_shr_no (by omega)
              refine lv_istore (lv' := [(4, .int 0), (3, .int v9), (0, .ref a0), (1, .int v3), (2, .int v4)]) hx hb dX12_next_125 hl (by decide) rfl (fun ls hl => ?_)
              refine lv_iconst (v := 0) hx hb dX12_next_127 (by decide) ?_
              refine lv_istore (lv' := [(5, .int 0), (4, .int 0), (3, .int v9), (0, .ref a0), (1, .int v3), (2, .int v4)]) hx hb dX12_next_128 hl (by decide) rfl (fun ls hl => ?_)
              have loop130_4 : ∀ (n : Nat) (I55 : tI) (H : Heap) (locs : List Loc) (ls : Array Slot) (v54 : Int32), h_G h_so h_fk E A z I55 L0 s s.heap H locs → h_I z I55 → h_F [(1349, 999), (13, 50), (13, 12), (1322, 999), (1314, 999), (1324, 999), (13, 30), (13, 31), (13, 33)] z I0 I55 → lv_has ls 6 [(0, .ref a0), (1, .int v3), (2, .int v4), (3, .int v9), (4, .int 0), (5, .int v54)] → (0 ≤ v54.toInt ∧ v54.toInt ≤ 8) → h_F [(1349, 999)] z I6 I55 → (∀ k : Nat, k < 8 → I55 pu k = if (k : Int) < v54.toInt then q_fnd (I0 pu) AA FF k else I0 pu k + FF k) → (8 - v54.toInt) < (n : Int) → W pr_ l ev_ (headSpec wsX12_next ({ frames := 5, cells := 0, slots := 0, locals := 320 })).room s m ([.ref a0] : List Value).toArray below meth cd_ H locs 0 0 (MQ below (va_Qi (fun r (I1 : tI) => h_I z I1 ∧ h_F [(1349, 999), (13, 50), (13, 12), (1322, 999), (1314, 999), (1324, 999), (13, 30), (13, 31), (13, 33)] z I0 I1 ∧ ((I1 a0 30).toInt = 1 → (I0 a0 30).toInt = 1) ∧ (((9 ≤ (I0 a0 12).toInt ∨ (I0 a0 31).toInt = 0) ∧ r.toInt = -4 ∧ I1 = I0) ∨ ((I0 a0 12).toInt ≤ 8 ∧ (I0 a0 31).toInt = 1 ∧ r.toInt = (I0 a0 12).toInt + 1 ∧ (I1 a0 12).toInt = (I0 a0 12).toInt + 1 ∧ I1 a0 30 = 0 ∧ I1 a0 31 = 0 ∧ I1 a0 33 = 0 ∧ (∀ q : Nat, (q : Int) < (I0 a0 13).toInt → m_nx I0 I1 (h_ad z a0 14) (h_ad z a0 15) (h_ad z a0 16) (h_ad z a0 20) (h_ad z a0 21) (h_ad z a0 22) q (I1 a0 12)) ∧ (∀ q : Nat, (I0 a0 13).toInt ≤ (q : Int) → I1 (h_ad z a0 22) q = I0 (h_ad z a0 22) q ∧ I1 (h_ad z a0 14) q = I0 (h_ad z a0 14) q) ∧ ∀ k : Nat, k < 8 → I1 (h_ad z a0 24) k = 0)) ∧ (((I0 a0 12).toInt ≤ 8 → (I0 a0 31).toInt = 1 → ((∀ k : Nat, k < 8 → I1 (h_ad z a0 49) k = q_fnd (I0 (h_ad z a0 49)) (m_ab z I0 a0 u_) (q_fin (m_ab z I0 a0 u_) (u_ 7)) k) ∧ I1 a0 50 = q_lft (I0 a0 50) (m_ab z I0 a0 u_) (q_fin (m_ab z I0 a0 u_) (u_ 7)))))) (fun (I1 : tI) t => h_B E A z I1 L0 t) A) ([.ref a0] : List Value).toArray s 0 0 A) (F0 m 130 ls []) := by
                intro n
                induction n with
                | zero => intro I55 H locs ls v54 g hI hF hl jv54 hL130 hx130_0 hn; exact absurd hn (by omega)
                | succ n ih130 =>
                  intro I55 H locs ls v54 g hI hF hl jv54 hL130 hx130_0 hn
                  have kw : v54.toNatClampNeg = v54.toInt.toNat := h_keq rfl (by omega) (by omega)
                  refine lv_iload hx hb dX12_next_130 (lv_at hl 5 rfl) ?_
                  refine lv_bipush (v := 8) hx hb dX12_next_132 (by decide) ?_
                  refine lv_icmp_ge (tgt := 169) hx hb dX12_next_134 (by decide) (fun c56 => ?_) (fun c56 => ?_)
                  · have ic56 := (xi_le c56 (by decide) rfl : 8 ≤ v54.toInt)
                    refine lv_aload_n hx hb dX12_next_169 rfl (lv_at hl 0 rfl) ?_
                    refine lv_dup hx hb dX12_next_170 rfl ?_
                    refine h_get (v := .int f0_50) hx hb hts iX12 hown g t_a0 (by decide) so_13 rfl 50 (by decide) (hts (.fieldLink RX12 329 "CapLeagueModel" "league" "I") (by decide +kernel)) rfl dX12_next_171 (congrArg Value.int ((h_F.at hL130 t_a0 rfl).trans ((h_F.at hL25 t_a0 rfl).trans (ef0_50.symm)))) ?_
                    refine lv_iload_n hx hb dX12_next_174 rfl (lv_at hl 1 rfl) ?_
                    refine lv_iload hx hb dX12_next_175 (lv_at hl 4 rfl) ?_
                    refine lv_iload_n hx hb dX12_next_177 rfl (lv_at hl 3 rfl) ?_
                    refine lv_imul hx hb dX12_next_178 ?_
                    refine lv_topi (fun v57 ev57 => ?_)
                    have jv57 : v57.toInt = 0 * v9.toInt := xi_mul ev57 (by decide) rfl (by omega) (by omega)
                    refine lv_isub hx hb dX12_next_179 ?_
                    refine lv_topi (fun v58 ev58 => ?_)
                    have jv58 : v58.toInt = v3.toInt - v57.toInt := xi_sub ev58 rfl rfl (by omega) (by omega)
                    refine lv_iadd hx hb dX12_next_180 ?_
                    refine lv_topi (fun v59 ev59 => ?_)
                    have jv59 : -2147483648 ≤ v59.toInt ∧ v59.toInt ≤ 2147483647 := ⟨xi_lo _, Int.le_of_lt_add_one (xi_hi _)⟩
                    refine h_putI (ty := .int) (v := v59) hx hb hts iX12 tyX12 tyX12_ok nmX12 hown g t_a0 (by decide) so_13 rfl 50 (by decide) rfl (hts (.fieldLink RX12 329 "CapLeagueModel" "league" "I") (by decide +kernel)) rfl rfl (by decide +kernel) rfl rfl dX12_next_181 (fun I60 H locs eI60 g => ?_)
                    have hI := hI.wr eI60 t_a0 (rfl : h_bd 13 50 = ((-2147483648), 2147483647)) (xi_lo _) (Int.le_of_lt_add_one (xi_hi _))
                    have hF := hF.wr eI60 t_a0 rfl
                    have fnP : (∀ k : Nat, k < 8 → I60 pu k = q_fnd (I0 pu) AA FF k) ∧ I60 a0 50 = q_lft f0_50 AA FF := ⟨fun k k8 => (h_n1 eI60 tpu t_a0 (by decide)).trans ((hx130_0 k k8).trans (if_pos (by omega))), (h_n0 eI60).trans (q_lft_is hx25_0 shE oE ev57 ev58 ev59)⟩
                    refine lv_aload_n hx hb dX12_next_184 rfl (lv_at hl 0 rfl) ?_
                    refine lv_dup hx hb dX12_next_185 rfl ?_
                    refine h_get (v := .int f0_12) hx hb hts iX12 hown g t_a0 (by decide) so_13 rfl 12 (by decide) (hts (.fieldLink RX12 187 "CapLeagueModel" "clock" "I") (by decide +kernel)) rfl dX12_next_186 (congrArg Value.int ((h_n2 eI60 (by decide)).trans ((h_F.at hL130 t_a0 rfl).trans ((h_F.at hL25 t_a0 rfl).trans (ef0_12.symm))))) ?_
                    refine lv_iconst (v := 1) hx hb dX12_next_189 (by decide) ?_
                    refine lv_iadd hx hb dX12_next_190 ?_
                    refine lv_topi (fun v61 ev61 => ?_)
                    have jv61 : v61.toInt = f0_12.toInt + 1 := xi_add ev61 rfl (by decide) (by omega) (by omega)
                    refine h_putI (ty := .int) (v := v61) hx hb hts iX12 tyX12 tyX12_ok nmX12 hown g t_a0 (by decide) so_13 rfl 12 (by decide) rfl (hts (.fieldLink RX12 187 "CapLeagueModel" "clock" "I") (by decide +kernel)) rfl rfl (by decide +kernel) rfl rfl dX12_next_191 (fun I62 H locs eI62 g => ?_)
                    have hI := hI.wr eI62 t_a0 (rfl : h_bd 13 12 = (0, 9)) (by omega) (by omega)
                    have hF := hF.wr eI62 t_a0 rfl
                    obtain ⟨ck, eck⟩ : ∃ x : Int32, x = v61 := ⟨_, rfl⟩
                    refine lv_iconst (v := 0) hx hb dX12_next_194 (by decide) ?_
                    refine lv_istore (lv' := [(5, .int 0), (0, .ref a0), (1, .int v3), (2, .int v4), (3, .int v9), (4, .int 0)]) hx hb dX12_next_195 hl (by decide) rfl (fun ls hl => ?_)
                    have loop197_5 : ∀ (n : Nat) (I64 : tI) (H : Heap) (locs : List Loc) (ls : Array Slot) (v63 : Int32), h_G h_so h_fk E A z I64 L0 s s.heap H locs → h_I z I64 → h_F [(1349, 999), (13, 50), (13, 12), (1322, 999), (1314, 999), (1324, 999), (13, 30), (13, 31), (13, 33)] z I0 I64 → lv_has ls 6 [(0, .ref a0), (5, .int v63)] → (0 ≤ v63.toInt ∧ v63.toInt ≤ 60) → h_F [(1322, 999), (1314, 999)] z I62 I64 → (∀ q : Nat, (q : Int) < v63.toInt → m_nx I0 I64 cb fi la hc it hu q ck) → (∀ q : Nat, v63.toInt ≤ (q : Int) → I64 hu q = I0 hu q ∧ I64 cb q = I0 cb q) → (v63.toInt ≤ f0_13.toInt) → (60 - v63.toInt) < (n : Int) → W pr_ l ev_ (headSpec wsX12_next ({ frames := 5, cells := 0, slots := 0, locals := 320 })).room s m ([.ref a0] : List Value).toArray below meth cd_ H locs 0 0 (MQ below (va_Qi (fun r (I1 : tI) => h_I z I1 ∧ h_F [(1349, 999), (13, 50), (13, 12), (1322, 999), (1314, 999), (1324, 999), (13, 30), (13, 31), (13, 33)] z I0 I1 ∧ ((I1 a0 30).toInt = 1 → (I0 a0 30).toInt = 1) ∧ (((9 ≤ (I0 a0 12).toInt ∨ (I0 a0 31).toInt = 0) ∧ r.toInt = -4 ∧ I1 = I0) ∨ ((I0 a0 12).toInt ≤ 8 ∧ (I0 a0 31).toInt = 1 ∧ r.toInt = (I0 a0 12).toInt + 1 ∧ (I1 a0 12).toInt = (I0 a0 12).toInt + 1 ∧ I1 a0 30 = 0 ∧ I1 a0 31 = 0 ∧ I1 a0 33 = 0 ∧ (∀ q : Nat, (q : Int) < (I0 a0 13).toInt → m_nx I0 I1 (h_ad z a0 14) (h_ad z a0 15) (h_ad z a0 16) (h_ad z a0 20) (h_ad z a0 21) (h_ad z a0 22) q (I1 a0 12)) ∧ (∀ q : Nat, (I0 a0 13).toInt ≤ (q : Int) → I1 (h_ad z a0 22) q = I0 (h_ad z a0 22) q ∧ I1 (h_ad z a0 14) q = I0 (h_ad z a0 14) q) ∧ ∀ k : Nat, k < 8 → I1 (h_ad z a0 24) k = 0)) ∧ (((I0 a0 12).toInt ≤ 8 → (I0 a0 31).toInt = 1 → ((∀ k : Nat, k < 8 → I1 (h_ad z a0 49) k = q_fnd (I0 (h_ad z a0 49)) (m_ab z I0 a0 u_) (q_fin (m_ab z I0 a0 u_) (u_ 7)) k) ∧ I1 a0 50 = q_lft (I0 a0 50) (m_ab z I0 a0 u_) (q_fin (m_ab z I0 a0 u_) (u_ 7)))))) (fun (I1 : tI) t => h_B E A z I1 L0 t) A) ([.ref a0] : List Value).toArray s 0 0 A) (F0 m 197 ls []) := by
                      intro n
                      induction n with
                      | zero => intro I64 H locs ls v63 g hI hF hl jv63 hL197 hx197_0 hx197_1 hx197_2 hn; exact absurd hn (by omega)
                      | succ n ih197 =>
                        intro I64 H locs ls v63 g hI hF hl jv63 hL197 hx197_0 hx197_1 hx197_2 hn
                        refine lv_iload hx hb dX12_next_197 (lv_at hl 1 rfl) ?_
                        refine lv_aload_n hx hb dX12_next_199 rfl (lv_at hl 0 rfl) ?_
                        refine h_get (v := .int f0_13) hx hb hts iX12 hown g t_a0 (by decide) so_13 rfl 13 (by decide) (hts (.fieldLink RX12 202 "CapLeagueModel" "players" "I") (by decide +kernel)) rfl dX12_next_200 (congrArg Value.int ((h_F.at hL197 t_a0 rfl).trans ((h_n2 eI62 (by decide)).trans ((h_n2 eI60 (by decide)).trans ((h_F.at hL130 t_a0 rfl).trans ((h_F.at hL25 t_a0 rfl).trans (ef0_13.symm))))))) ?_
                        refine lv_icmp_ge (tgt := 252) hx hb dX12_next_203 (by decide) (fun c65 => ?_) (fun c65 => ?_)
                        · have ic65 := (xi_le c65 rfl rfl : f0_13.toInt ≤ v63.toInt)
                          refine lv_iconst (v := 0) hx hb dX12_next_252 (by decide) ?_
                          refine lv_istore (lv' := [(5, .int 0), (0, .ref a0)]) hx hb dX12_next_253 hl (by decide) rfl (fun ls hl => ?_)
                          have loop255_6 : ∀ (n : Nat) (I67 : tI) (H : Heap) (locs : List Loc) (ls : Array Slot) (v66 : Int32), h_G h_so h_fk E A z I67 L0 s s.heap H locs → h_I z I67 → h_F [(1349, 999), (13, 50), (13, 12), (1322, 999), (1314, 999), (1324, 999), (13, 30), (13, 31), (13, 33)] z I0 I67 → lv_has ls 6 [(0, .ref a0), (5, .int v66)] → (0 ≤ v66.toInt ∧ v66.toInt ≤ 8) → h_F [(1324, 999)] z I64 I67 → (∀ q : Nat, (q : Int) < v66.toInt → I67 us q = 0) → (8 - v66.toInt) < (n : Int) → W pr_ l ev_ (headSpec wsX12_next ({ frames := 5, cells := 0, slots := 0, locals := 320 })).room s m ([.ref a0] : List Value).toArray below meth cd_ H locs 0 0 (MQ below (va_Qi (fun r (I1 : tI) => h_I z I1 ∧ h_F [(1349, 999), (13, 50), (13, 12), (1322, 999), (1314, 999), (1324, 999), (13, 30), (13, 31), (13, 33)] z I0 I1 ∧ ((I1 a0 30).toInt = 1 → (I0 a0 30).toInt = 1) ∧ (((9 ≤ (I0 a0 12).toInt ∨ (I0 a0 31).toInt = 0) ∧ r.toInt = -4 ∧ I1 = I0) ∨ ((I0 a0 12).toInt ≤ 8 ∧ (I0 a0 31).toInt = 1 ∧ r.toInt = (I0 a0 12).toInt + 1 ∧ (I1 a0 12).toInt = (I0 a0 12).toInt + 1 ∧ I1 a0 30 = 0 ∧ I1 a0 31 = 0 ∧ I1 a0 33 = 0 ∧ (∀ q : Nat, (q : Int) < (I0 a0 13).toInt → m_nx I0 I1 (h_ad z a0 14) (h_ad z a0 15) (h_ad z a0 16) (h_ad z a0 20) (h_ad z a0 21) (h_ad z a0 22) q (I1 a0 12)) ∧ (∀ q : Nat, (I0 a0 13).toInt ≤ (q : Int) → I1 (h_ad z a0 22) q = I0 (h_ad z a0 22) q ∧ I1 (h_ad z a0 14) q = I0 (h_ad z a0 14) q) ∧ ∀ k : Nat, k < 8 → I1 (h_ad z a0 24) k = 0)) ∧ (((I0 a0 12).toInt ≤ 8 → (I0 a0 31).toInt = 1 → ((∀ k : Nat, k < 8 → I1 (h_ad z a0 49) k = q_fnd (I0 (h_ad z a0 49)) (m_ab z I0 a0 u_) (q_fin (m_ab z I0 a0 u_) (u_ 7)) k) ∧ I1 a0 50 = q_lft (I0 a0 50) (m_ab z I0 a0 u_) (q_fin (m_ab z I0 a0 u_) (u_ 7)))))) (fun (I1 : tI) t => h_B E A z I1 L0 t) A) ([.ref a0] : List Value).toArray s 0 0 A) (F0 m 255 ls []) := by
                            intro n
                            induction n with
                            | zero => intro I67 H locs ls v66 g hI hF hl jv66 hL255 hx255_0 hn; exact absurd hn (by omega)
                            | succ n ih255 =>
                              intro I67 H locs ls v66 g hI hF hl jv66 hL255 hx255_0 hn
                              refine lv_iload hx hb dX12_next_255 (lv_at hl 1 rfl) ?_
                              refine lv_bipush (v := 8) hx hb dX12_next_257 (by decide) ?_
                              refine lv_icmp_ge (tgt := 276) hx hb dX12_next_259 (by decide) (fun c68 => ?_) (fun c68 => ?_)
                              · have ic68 := (xi_le c68 (by decide) rfl : 8 ≤ v66.toInt)
                                refine lv_aload_n hx hb dX12_next_276 rfl (lv_at hl 0 rfl) ?_
                                refine lv_iconst (v := 0) hx hb dX12_next_277 (by decide) ?_
                                refine h_putI (ty := .boolean) (v := 0) hx hb hts iX12 tyX12 tyX12_ok nmX12 hown g t_a0 (by decide) so_13 rfl 30 (by decide) rfl (hts (.fieldLink RX12 306 "CapLeagueModel" "hasTable" "Z") (by decide +kernel)) rfl rfl (by decide +kernel) (by decide) (by decide) dX12_next_278 (fun I69 H locs eI69 g => ?_)
                                have hI := hI.wr eI69 t_a0 (rfl : h_bd 13 30 = (0, 1)) (by decide) (by decide)
                                have hF := hF.wr eI69 t_a0 rfl
                                refine lv_aload_n hx hb dX12_next_281 rfl (lv_at hl 0 rfl) ?_
                                refine lv_iconst (v := 0) hx hb dX12_next_282 (by decide) ?_
                                refine h_putI (ty := .boolean) (v := 0) hx hb hts iX12 tyX12 tyX12_ok nmX12 hown g t_a0 (by decide) so_13 rfl 31 (by decide) rfl (hts (.fieldLink RX12 264 "CapLeagueModel" "isDrawn" "Z") (by decide +kernel)) rfl rfl (by decide +kernel) (by decide) (by decide) dX12_next_283 (fun I70 H locs eI70 g => ?_)
                                have hI := hI.wr eI70 t_a0 (rfl : h_bd 13 31 = (0, 1)) (by decide) (by decide)
                                have hF := hF.wr eI70 t_a0 rfl
                                refine lv_aload_n hx hb dX12_next_286 rfl (lv_at hl 0 rfl) ?_
                                refine lv_iconst (v := 0) hx hb dX12_next_287 (by decide) ?_
                                refine h_putI (ty := .int) (v := 0) hx hb hts iX12 tyX12 tyX12_ok nmX12 hown g t_a0 (by decide) so_13 rfl 33 (by decide) rfl (hts (.fieldLink RX12 247 "CapLeagueModel" "moves" "I") (by decide +kernel)) rfl rfl (by decide +kernel) rfl rfl dX12_next_288 (fun I71 H locs eI71 g => ?_)
                                have hI := hI.wr eI71 t_a0 (rfl : h_bd 13 33 = (0, 12)) (by decide) (by decide)
                                have hF := hF.wr eI71 t_a0 rfl
                                refine lv_aload_n hx hb dX12_next_291 rfl (lv_at hl 0 rfl) ?_
                                refine h_get (v := .int v61) hx hb hts iX12 hown g t_a0 (by decide) so_13 rfl 12 (by decide) (hts (.fieldLink RX12 187 "CapLeagueModel" "clock" "I") (by decide +kernel)) rfl dX12_next_292 (congrArg Value.int ((h_n2 eI71 (by decide)).trans ((h_n2 eI70 (by decide)).trans ((h_n2 eI69 (by decide)).trans ((h_F.at hL255 t_a0 rfl).trans ((h_F.at hL197 t_a0 rfl).trans (h_n0 eI62))))))) ?_
                                have hS := g.2.1
                                exact W.iret (v := v61) hx hb hr (fun t ht hW => ⟨⟨v61, I71, rfl, ⟨hI, hF, ⟨(by have q1_30 : (I71 a0 30).toInt = 0 := (congrArg Int32.toInt ((h_n2 eI71 (by decide)).trans ((h_n2 eI70 (by decide)).trans (h_n0 eI69)))).trans (by decide); omega), (by rw [qf0_12, qf0_31, ← ef0_13, acb, afi, ala, ahc, ait, ahu, aus]; rw [show I71 a0 12 = v61 from (h_n2 eI71 (by decide)).trans ((h_n2 eI70 (by decide)).trans ((h_n2 eI69 (by decide)).trans ((h_F.at hL255 t_a0 rfl).trans ((h_F.at hL197 t_a0 rfl).trans (h_n0 eI62))))), ← eck]; exact Or.inr ⟨by omega, by omega, by rw [eck]; omega, by rw [eck]; omega, (h_n2 eI71 (by decide)).trans ((h_n2 eI70 (by decide)).trans (h_n0 eI69)), (h_n2 eI71 (by decide)).trans (h_n0 eI70), h_n0 eI71, (fun q hq => (hx197_0 q (by omega)).c ((h_n1 eI71 thu t_a0 (by decide)).trans ((h_n1 eI70 thu t_a0 (by decide)).trans ((h_n1 eI69 thu t_a0 (by decide)).trans (h_F.at hL255 thu rfl)))) ((h_n1 eI71 tcb t_a0 (by decide)).trans ((h_n1 eI70 tcb t_a0 (by decide)).trans ((h_n1 eI69 tcb t_a0 (by decide)).trans (h_F.at hL255 tcb rfl))))), (fun q hq => ⟨((h_n1 eI71 thu t_a0 (by decide)).trans ((h_n1 eI70 thu t_a0 (by decide)).trans ((h_n1 eI69 thu t_a0 (by decide)).trans (h_F.at hL255 thu rfl)))).trans (hx197_1 q (by omega)).1, ((h_n1 eI71 tcb t_a0 (by decide)).trans ((h_n1 eI70 tcb t_a0 (by decide)).trans ((h_n1 eI69 tcb t_a0 (by decide)).trans (h_F.at hL255 tcb rfl)))).trans (hx197_1 q (by omega)).2⟩), fun k hk => ((h_n1 eI71 tus t_a0 (by decide)).trans ((h_n1 eI70 tus t_a0 (by decide)).trans (h_n1 eI69 tus t_a0 (by decide)))).trans (hx255_0 k (by omega))⟩), (fun c1 c2 => by rw [apu, ← ef0_50, ← eFF, ← eAA]; exact ⟨fun k k8 => ((h_n1 eI71 tpu t_a0 (by decide)).trans ((h_n1 eI70 tpu t_a0 (by decide)).trans ((h_n1 eI69 tpu t_a0 (by decide)).trans ((h_F.at hL255 tpu rfl).trans ((h_F.at hL197 tpu rfl).trans (h_n1 eI62 tpu t_a0 (by decide))))))).trans (fnP.1 k k8), ((h_n2 eI71 (by decide)).trans ((h_n2 eI70 (by decide)).trans ((h_n2 eI69 (by decide)).trans ((h_F.at hL255 t_a0 rfl).trans ((h_F.at hL197 t_a0 rfl).trans (h_n2 eI62 (by decide))))))).trans fnP.2⟩)⟩⟩, h_ret g ht⟩, hS.F ht⟩) hS.2.2 dX12_next_295
                              · have ic68 := (xi_nle c68 (by decide) rfl : v66.toInt < 8)
                                refine lv_aload_n hx hb dX12_next_262 rfl (lv_at hl 0 rfl) ?_
                                refine h_get (v := .ref us) hx hb hts iX12 hown g t_a0 (by decide) so_13 rfl 24 (by decide) (hts (.fieldLink RX12 55 "CapLeagueModel" "usedSpare" "[Z") (by decide +kernel)) rfl dX12_next_263 (by show va_rf (z.R a0 24) = _; rw [rus]; rfl) ?_
                                refine lv_iload hx hb dX12_next_266 (lv_at hl 1 rfl) ?_
                                refine lv_iconst (v := 0) hx hb dX12_next_268 (by decide) ?_
                                refine h_zast hx hb g tus (by decide) so_1324 (xi_in (by omega) (by omega)) dX12_next_269 (fun I72 H locs eI72 g => ?_)
                                rw [h_nz (by decide) (by decide)] at eI72
                                have hI := hI.wr eI72 tus (rfl : h_bd 1324 _ = (0, 1)) (by decide) (by decide)
                                have hF := hF.wr eI72 tus rfl
                                obtain ⟨v73, ev73⟩ : ∃ z : Int32, z = v66 + 1 := ⟨_, rfl⟩
                                have jv73 : v73.toInt = v66.toInt + 1 := xi_add ev73 rfl (by decide) (by omega) (by omega)
                                refine lv_iinc (v := v73) (lv' := [(5, .int v73), (0, .ref a0)]) hx hb dX12_next_270 hl (k := 1) rfl (by rw [ev73]; rfl) (by decide) rfl (fun ls hl => ?_)
                                refine lv_goto (tgt := 255) hx hb dX12_next_273 (by decide) ?_
                                exact ih255 I72 _ _ _ v73 g hI hF (lv_sub hl [1, 0] rfl) (by omega) (h_F.wr (h_F.call (h_F.rf : h_F [(1324, 999)] z I64 I64) hL255 rfl) eI72 tus rfl) (fun q hq => by by_cases hqv : (q : Int) < v66.toInt; exact (h_n2 eI72 (by rw [(h_keq rfl (by omega) (by omega) : v66.toNatClampNeg = v66.toInt.toNat)]; omega)).trans (hx255_0 q hqv); rw [show q = v66.toInt.toNat by omega, ← (h_keq rfl (by omega) (by omega) : v66.toNatClampNeg = v66.toInt.toNat)]; exact h_n0 eI72) (by omega)
                          have kc74 : (0 : Int32).toInt = 0 := by decide
                          exact loop255_6 _ I64 _ _ _ (0) g hI hF (lv_sub hl [1, 0] rfl) ⟨by decide, by decide⟩ (h_F.rf : h_F [(1324, 999)] z I64 I64) (fun q hq => absurd hq (by omega)) (show (8 - (0 : Int)) < (((8 - (0 : Int)).toNat + 1 : Nat) : Int) by omega)
                        · have ic65 := (xi_nle c65 rfl rfl : v63.toInt < f0_13.toInt)
                          refine lv_aload_n hx hb dX12_next_206 rfl (lv_at hl 0 rfl) ?_
                          refine h_get (v := .ref hu) hx hb hts iX12 hown g t_a0 (by decide) so_13 rfl 22 (by decide) (hts (.fieldLink RX12 49 "CapLeagueModel" "isHurt" "[Z") (by decide +kernel)) rfl dX12_next_207 (by show va_rf (z.R a0 22) = _; rw [rhu]; rfl) ?_
                          refine lv_iload hx hb dX12_next_210 (lv_at hl 1 rfl) ?_
                          refine lv_iconst (v := 0) hx hb dX12_next_212 (by decide) ?_
                          refine h_zast hx hb g thu (by decide) so_1322 (xi_in (by omega) (by omega)) dX12_next_213 (fun I75 H locs eI75 g => ?_)
                          rw [h_nz (by decide) (by decide)] at eI75
                          have hI := hI.wr eI75 thu (rfl : h_bd 1322 _ = (0, 1)) (by decide) (by decide)
                          have hF := hF.wr eI75 thu rfl
                          refine lv_aload_n hx hb dX12_next_214 rfl (lv_at hl 0 rfl) ?_
                          refine h_get (v := .ref cb) hx hb hts iX12 hown g t_a0 (by decide) so_13 rfl 14 (by decide) (hts (.fieldLink RX12 25 "CapLeagueModel" "clubOf" "[I") (by decide +kernel)) rfl dX12_next_215 (by show va_rf (z.R a0 14) = _; rw [rcb]; rfl) ?_
                          refine lv_iload hx hb dX12_next_218 (lv_at hl 1 rfl) ?_
                          refine h_ald hx hb g tcb (by decide) so_1314 (xi_in (by omega) (by omega)) dX12_next_220 ?_
                          refine lv_topi (fun v76 ev76 => ?_)
                          have jv76 := hI.rd cb v63.toNatClampNeg tcb ev76 (rfl : h_bd 1314 _ = ((-1), 7))
                          have kv : v63.toNatClampNeg = v63.toInt.toNat := h_keq rfl (by omega) (by omega)
                          have gv76 : I0 cb v63.toInt.toNat = v76 := by rw [← kv, ev76]; exact ((h_n1 eI75 tcb thu (by decide)).trans (hx197_1 _ (by rw [kv]; omega)).2).symm
                          refine lv_iconst (v := (-1)) hx hb dX12_next_221 (by decide) ?_
                          refine lv_icmp_eq (tgt := 246) hx hb dX12_next_222 (by decide) (fun c77 => ?_) (fun c77 => ?_)
                          · have ic77 := (xi_eq c77 rfl (by decide) : v76.toInt = (-1))
                            obtain ⟨v78, ev78⟩ : ∃ z : Int32, z = v63 + 1 := ⟨_, rfl⟩
                            have jv78 : v78.toInt = v63.toInt + 1 := xi_add ev78 rfl (by decide) (by omega) (by omega)
                            refine lv_iinc (v := v78) (lv' := [(5, .int v78), (0, .ref a0)]) hx hb dX12_next_246 hl (k := 1) rfl (by rw [ev78]; rfl) (by decide) rfl (fun ls hl => ?_)
                            refine lv_goto (tgt := 197) hx hb dX12_next_249 (by decide) ?_
                            exact ih197 I75 _ _ _ v78 g hI hF (lv_sub hl [1, 0] rfl) (by omega) (h_F.wr (h_F.call (h_F.rf : h_F [(1322, 999), (1314, 999)] z I62 I62) hL197 rfl) eI75 thu rfl) (m_nx_A (v := v63.toInt.toNat) hx197_0 (by omega) (by omega : v78.toInt = v63.toInt + 1) (hx197_1 _ (by omega)).2 (fun j => h_wif eI75 kv j) (Or.inr ⟨Or.inl (by rw [gv76]; omega), fun j => h_n1 eI75 tcb thu (by decide)⟩)) (m_nx_B (v := v63.toInt.toNat) hx197_1 (by omega) (by omega : v78.toInt = v63.toInt + 1) (fun j => h_wif eI75 kv j) (Or.inr (fun j => h_n1 eI75 tcb thu (by decide)))) (by omega) (by omega)
                          · have ic77 := (xi_ne c77 rfl (by decide) : v76.toInt ≠ (-1))
                            refine lv_aload_n hx hb dX12_next_225 rfl (lv_at hl 0 rfl) ?_
                            refine lv_iload hx hb dX12_next_226 (lv_at hl 1 rfl) ?_
                            refine lv_aload_n hx hb dX12_next_228 rfl (lv_at hl 0 rfl) ?_
                            refine h_get (v := .int v61) hx hb hts iX12 hown g t_a0 (by decide) so_13 rfl 12 (by decide) (hts (.fieldLink RX12 187 "CapLeagueModel" "clock" "I") (by decide +kernel)) rfl dX12_next_229 (congrArg Value.int ((h_n1 eI75 t_a0 thu (by decide)).trans ((h_F.at hL197 t_a0 rfl).trans (h_n0 eI62)))) ?_
                            refine vp_callSi (W.runV (As := [.int v63, .int v61]) (rest := []) ⟨hx, hb, hml, hown, hts⟩ (tX12_isUnderB l E X A z I75 L0 a0 t_a0 v63 (v63.toInt) rfl (by omega) v61 (v61.toInt) rfl) (cwV 2 hts gX12_next_X12_isUnder rfl rfl rfl (by decide +kernel) ⟨Nat.le_of_ble_eq_true rfl, Nat.le_of_ble_eq_true rfl⟩) ⟨h_blind _ _ _ _ _ _ _, h_recv g t_a0 (by decide) so_13 (q := (RX12, TX12, 51)) rfl, h_pre _ hE hk hX hA hI hR g⟩ rfl rfl hl.1 rfl (lv_room (Nat.le_of_ble_eq_true rfl)) dX12_next_232 ⟨Nat.le_of_ble_eq_true rfl, Nat.le_of_ble_eq_true rfl⟩) (fun rh79 h79 => ?_)
                            obtain ⟨h79, h79p0⟩ := h79
                            rw [acb, afi, ala, ahc, ait, show I75 fi v63.toInt.toNat = I0 fi v63.toInt.toNat from hF.at tfi rfl, show I75 la v63.toInt.toNat = I0 la v63.toInt.toNat from hF.at tla rfl, show I75 hc v63.toInt.toNat = I0 hc v63.toInt.toNat from hF.at thc rfl, show I75 it v63.toInt.toNat = I0 it v63.toInt.toNat from hF.at tit rfl, show I75 cb v63.toInt.toNat = I0 cb v63.toInt.toNat from (h_n1 eI75 tcb thu (by decide)).trans (hx197_1 _ (by omega)).2] at h79p0
                            rw [← eck] at h79p0
                            refine lv_if_ne (tgt := 246) hx hb dX12_next_235 (by decide) (fun c80 => ?_) (fun c80 => ?_)
                            · have ic80 := (xi_ne c80 rfl (by decide) : rh79.toInt ≠ 0)
                              obtain ⟨v81, ev81⟩ : ∃ z : Int32, z = v63 + 1 := ⟨_, rfl⟩
                              have jv81 : v81.toInt = v63.toInt + 1 := xi_add ev81 rfl (by decide) (by omega) (by omega)
                              refine lv_iinc (v := v81) (lv' := [(5, .int v81), (0, .ref a0)]) hx hb dX12_next_246 hl (k := 1) rfl (by rw [ev81]; rfl) (by decide) rfl (fun ls hl => ?_)
                              refine lv_goto (tgt := 197) hx hb dX12_next_249 (by decide) ?_
                              exact ih197 I75 _ _ _ v81 g hI hF (lv_sub hl [1, 0] rfl) (by omega) (h_F.wr (h_F.call (h_F.rf : h_F [(1322, 999), (1314, 999)] z I62 I62) hL197 rfl) eI75 thu rfl) (m_nx_A (v := v63.toInt.toNat) hx197_0 (by omega) (by omega : v81.toInt = v63.toInt + 1) (hx197_1 _ (by omega)).2 (fun j => h_wif eI75 kv j) (Or.inr ⟨Or.inr (by rcases h79p0 with q | q; exact q.2; exact absurd q.1 (by omega)), fun j => h_n1 eI75 tcb thu (by decide)⟩)) (m_nx_B (v := v63.toInt.toNat) hx197_1 (by omega) (by omega : v81.toInt = v63.toInt + 1) (fun j => h_wif eI75 kv j) (Or.inr (fun j => h_n1 eI75 tcb thu (by decide)))) (by omega) (by omega)
                            · have ic80 := (xi_eq c80 rfl (by decide) : rh79.toInt = 0)
                              refine lv_aload_n hx hb dX12_next_238 rfl (lv_at hl 0 rfl) ?_
                              refine h_get (v := .ref cb) hx hb hts iX12 hown g t_a0 (by decide) so_13 rfl 14 (by decide) (hts (.fieldLink RX12 25 "CapLeagueModel" "clubOf" "[I") (by decide +kernel)) rfl dX12_next_239 (by show va_rf (z.R a0 14) = _; rw [rcb]; rfl) ?_
                              refine lv_iload hx hb dX12_next_242 (lv_at hl 1 rfl) ?_
                              refine lv_iconst (v := (-1)) hx hb dX12_next_244 (by decide) ?_
                              refine h_ast hx hb g tcb (by decide) so_1314 (xi_in (by omega) (by omega)) dX12_next_245 (fun I82 H locs eI82 g => ?_)
                              have hI := hI.wr eI82 tcb (rfl : h_bd 1314 _ = ((-1), 7)) (by decide) (by decide)
                              have hF := hF.wr eI82 tcb rfl
                              obtain ⟨v83, ev83⟩ : ∃ z : Int32, z = v63 + 1 := ⟨_, rfl⟩
                              have jv83 : v83.toInt = v63.toInt + 1 := xi_add ev83 rfl (by decide) (by omega) (by omega)
                              refine lv_iinc (v := v83) (lv' := [(5, .int v83), (0, .ref a0)]) hx hb dX12_next_246 hl (k := 1) rfl (by rw [ev83]; rfl) (by decide) rfl (fun ls hl => ?_)
                              refine lv_goto (tgt := 197) hx hb dX12_next_249 (by decide) ?_
                              exact ih197 I82 _ _ _ v83 g hI hF (lv_sub hl [1, 0] rfl) (by omega) (h_F.wr (h_F.wr (h_F.call (h_F.rf : h_F [(1322, 999), (1314, 999)] z I62 I62) hL197 rfl) eI75 thu rfl) eI82 tcb rfl) (m_nx_A (v := v63.toInt.toNat) hx197_0 (by omega) (by omega : v83.toInt = v63.toInt + 1) (hx197_1 _ (by omega)).2 (fun j => (h_n1 eI82 thu tcb (by decide)).trans (h_wif eI75 kv j)) (Or.inl ⟨by rw [gv76]; omega, (by rcases h79p0 with q | q; exact absurd q.1 (by omega); exact q.2), fun j => (h_wif eI82 kv j).trans (by rw [h_n1 eI75 tcb thu (by decide)])⟩)) (m_nx_B (v := v63.toInt.toNat) hx197_1 (by omega) (by omega : v83.toInt = v63.toInt + 1) (fun j => (h_n1 eI82 thu tcb (by decide)).trans (h_wif eI75 kv j)) (Or.inl (fun j => (h_wif eI82 kv j).trans (by rw [h_n1 eI75 tcb thu (by decide)])))) (by omega) (by omega)
                    have kc84 : (0 : Int32).toInt = 0 := by decide
                    exact loop197_5 _ I62 _ _ _ (0) g hI hF (lv_sub hl [1, 0] rfl) ⟨by decide, by decide⟩ (h_F.rf : h_F [(1322, 999), (1314, 999)] z I62 I62) (fun q hq => absurd hq (by omega)) (fun q _ => ⟨(h_n1 eI62 thu t_a0 (by decide)).trans ((h_n1 eI60 thu t_a0 (by decide)).trans ((h_F.at hL130 thu rfl).trans (h_F.at hL25 thu rfl))), (h_n1 eI62 tcb t_a0 (by decide)).trans ((h_n1 eI60 tcb t_a0 (by decide)).trans ((h_F.at hL130 tcb rfl).trans (h_F.at hL25 tcb rfl)))⟩) (by omega) (show (60 - (0 : Int)) < (((60 - (0 : Int)).toNat + 1 : Nat) : Int) by omega)
                  · have ic56 := (xi_nle c56 (by decide) rfl : v54.toInt < 8)
                    refine lv_aload_n hx hb dX12_next_137 rfl (lv_at hl 0 rfl) ?_
                    refine h_get (v := .ref pu) hx hb hts iX12 hown g t_a0 (by decide) so_13 rfl 49 (by decide) (hts (.fieldLink RX12 112 "CapLeagueModel" "purse" "[I") (by decide +kernel)) rfl dX12_next_138 (by show va_rf (z.R a0 49) = _; rw [rpu]; rfl) ?_
                    refine lv_iload hx hb dX12_next_141 (lv_at hl 5 rfl) ?_
                    refine lv_dup2_11 hx hb dX12_next_143 rfl rfl ?_
                    refine h_ald hx hb g tpu (by decide) so_1349 (xi_in (by omega) (by omega)) dX12_next_144 ?_
                    refine lv_topi (fun v85 ev85 => ?_)
                    have jv85 := hI.rd pu v54.toNatClampNeg tpu ev85 (rfl : h_bd 1349 _ = ((-2147483648), 2147483647))
                    refine lv_iload_n hx hb dX12_next_145 rfl (lv_at hl 2 rfl) ?_
                    refine lv_iload hx hb dX12_next_146 (lv_at hl 5 rfl) ?_
                    refine lv_ishr hx hb dX12_next_148 ?_
                    refine lv_topi (fun v86 ev86 => ?_)
                    have jv86 : -2147483648 ≤ v86.toInt ∧ v86.toInt ≤ 2147483647 := ⟨xi_lo _, Int.le_of_lt_add_one (xi_hi _)⟩
                    refine lv_iconst (v := 1) hx hb dX12_next_149 (by decide) ?_
                    refine lv_iand hx hb dX12_next_150 ?_
                    refine lv_topi (fun v87 ev87 => ?_)
                    have jv87 : 0 ≤ v87.toInt ∧ v87.toInt ≤ 1 := h_andn 1 (by decide) ev87
                    have bt := q_btm (x := v4) (c := v54) (hx25_1.b (by omega)) (by omega) ev86 ev87
                    have ba := hx25_1.2.2.2 v54.toInt.toNat (by omega)
                    refine lv_iconst (v := 1) hx hb dX12_next_151 (by decide) ?_
                    refine lv_icmp_ne (tgt := 159) hx hb dX12_next_152 (by decide) (fun c88 => ?_) (fun c88 => ?_)
                    · have ic88 := (xi_ne c88 rfl (by decide) : v87.toInt ≠ 1)
                      refine lv_iload hx hb dX12_next_159 (lv_at hl 4 rfl) ?_
                      refine lv_isub hx hb dX12_next_161 ?_
                      refine lv_topi (fun v89 ev89 => ?_)
                      have jv89 : v89.toInt = v85.toInt - 0 := xi_sub ev89 rfl (by decide) (by omega) (by omega)
                      refine h_ast hx hb g tpu (by decide) so_1349 (xi_in (by omega) (by omega)) dX12_next_162 (fun I90 H locs eI90 g => ?_)
                      have hI := hI.wr eI90 tpu (rfl : h_bd 1349 _ = ((-2147483648), 2147483647)) (xi_lo _) (Int.le_of_lt_add_one (xi_hi _))
                      have hF := hF.wr eI90 tpu rfl
                      obtain ⟨v91, ev91⟩ : ∃ z : Int32, z = v54 + 1 := ⟨_, rfl⟩
                      have jv91 : v91.toInt = v54.toInt + 1 := xi_add ev91 rfl (by decide) (by omega) (by omega)
                      refine lv_iinc (v := v91) (lv' := [(5, .int v91), (0, .ref a0), (1, .int v3), (2, .int v4), (3, .int v9), (4, .int 0)]) hx hb dX12_next_163 hl (k := 5) rfl (by rw [ev91]; rfl) (by decide) rfl (fun ls hl => ?_)
                      refine lv_goto (tgt := 130) hx hb dX12_next_166 (by decide) ?_
                      exact ih130 I90 _ _ _ v91 g hI hF (lv_sub hl [1, 2, 3, 4, 5, 0] rfl) (by omega) (h_F.wr (h_F.call (h_F.rf : h_F [(1349, 999)] z I6 I6) hL130 rfl) eI90 tpu rfl) (q_fi_t (v := v54.toInt.toNat) hx130_0 (by omega) (by omega : v91.toInt = v54.toInt + 1) (by omega) (fun j => h_wif eI90 kw j) (by rw [if_pos (ba.mp (bt.mp (by omega))), ← shE, show I55 pu v54.toInt.toNat = v85 by rw [← kw]; exact ev85.symm]; exact ev89)) (by omega)
                    · have ic88 := (xi_eq c88 rfl (by decide) : v87.toInt = 1)
                      refine lv_iconst (v := 0) hx hb dX12_next_155 (by decide) ?_
                      refine lv_goto (tgt := 161) hx hb dX12_next_156 (by decide) ?_
                      refine lv_isub hx hb dX12_next_161 ?_
                      refine lv_topi (fun v92 ev92 => ?_)
                      have jv92 : v92.toInt = v85.toInt - 0 := xi_sub ev92 rfl (by decide) (by omega) (by omega)
                      refine h_ast hx hb g tpu (by decide) so_1349 (xi_in (by omega) (by omega)) dX12_next_162 (fun I93 H locs eI93 g => ?_)
                      have hI := hI.wr eI93 tpu (rfl : h_bd 1349 _ = ((-2147483648), 2147483647)) (xi_lo _) (Int.le_of_lt_add_one (xi_hi _))
                      have hF := hF.wr eI93 tpu rfl
                      obtain ⟨v94, ev94⟩ : ∃ z : Int32, z = v54 + 1 := ⟨_, rfl⟩
                      have jv94 : v94.toInt = v54.toInt + 1 := xi_add ev94 rfl (by decide) (by omega) (by omega)
                      refine lv_iinc (v := v94) (lv' := [(5, .int v94), (0, .ref a0), (1, .int v3), (2, .int v4), (3, .int v9), (4, .int 0)]) hx hb dX12_next_163 hl (k := 5) rfl (by rw [ev94]; rfl) (by decide) rfl (fun ls hl => ?_)
                      refine lv_goto (tgt := 130) hx hb dX12_next_166 (by decide) ?_
                      exact ih130 I93 _ _ _ v94 g hI hF (lv_sub hl [1, 2, 3, 4, 5, 0] rfl) (by omega) (h_F.wr (h_F.call (h_F.rf : h_F [(1349, 999)] z I6 I6) hL130 rfl) eI93 tpu rfl) (q_fi_t (v := v54.toInt.toNat) hx130_0 (by omega) (by omega : v94.toInt = v54.toInt + 1) (by omega) (fun j => h_wif eI93 kw j) (by rw [if_neg (fun q => absurd (bt.mpr (ba.mpr q)) (by omega)), show I55 pu v54.toInt.toNat = v85 by rw [← kw]; exact ev85.symm]; exact ev92)) (by omega)
              have kc95 : (0 : Int32).toInt = 0 := by decide
              exact loop130_4 _ I6 _ _ _ (0) g hI hF (lv_sub hl [3, 4, 5, 2, 1, 0] rfl) ⟨by decide, by decide⟩ (h_F.rf : h_F [(1349, 999)] z I6 I6) (fun k k8 => (hx25_2 k).trans ((if_pos (by omega)).trans (if_neg (by omega)).symm)) (show (8 - (0 : Int)) < (((8 - (0 : Int)).toNat + 1 : Nat) : Int) by omega)
          · have ic7 := (xi_nle c7 (by decide) rfl : v5.toInt < 8)
            refine lv_aload_n hx hb dX12_next_31 rfl (lv_at hl 0 rfl) ?_
            refine lv_iload_n hx hb dX12_next_32 rfl (lv_at hl 3 rfl) ?_
            refine lv_aload_n hx hb dX12_next_33 rfl (lv_at hl 0 rfl) ?_
            refine h_get (v := .int f0_12) hx hb hts iX12 hown g t_a0 (by decide) so_13 rfl 12 (by decide) (hts (.fieldLink RX12 187 "CapLeagueModel" "clock" "I") (by decide +kernel)) rfl dX12_next_34 (congrArg Value.int ((h_F.at hL25 t_a0 rfl).trans (ef0_12.symm))) ?_
            refine vp_callSi (W.runV (As := [.int v5, .int f0_12]) (rest := []) ⟨hx, hb, hml, hown, hts⟩ (tX12_countsB l E X A z I6 L0 a0 t_a0 v5 (v5.toInt) rfl (by omega) f0_12 (f0_12.toInt) rfl (by omega) (u_) (by rw [ahy, alw, show I6 hy = I0 hy from funext (fun k => h_F.at (h_F.call (h_F.rf : h_F [(1349, 999)] z I0 I0) hL25 rfl) thy rfl), show I6 lw = I0 lw from funext (fun k => h_F.at (h_F.call (h_F.rf : h_F [(1349, 999)] z I0 I0) hL25 rfl) tlw rfl), show I6 a0 12 = f0_12 from (h_F.at hL25 t_a0 rfl).trans (ef0_12.symm)]; exact hrl) (hob) (by rw [acb, afi, ala, apa, ari, show I6 cb = I0 cb from funext (fun k => h_F.at (h_F.call (h_F.rf : h_F [(1349, 999)] z I0 I0) hL25 rfl) tcb rfl), show I6 fi = I0 fi from funext (fun k => h_F.at (h_F.call (h_F.rf : h_F [(1349, 999)] z I0 I0) hL25 rfl) tfi rfl), show I6 la = I0 la from funext (fun k => h_F.at (h_F.call (h_F.rf : h_F [(1349, 999)] z I0 I0) hL25 rfl) tla rfl), show I6 pa = I0 pa from funext (fun k => h_F.at (h_F.call (h_F.rf : h_F [(1349, 999)] z I0 I0) hL25 rfl) tpa rfl), show I6 ri = I0 ri from funext (fun k => h_F.at (h_F.call (h_F.rf : h_F [(1349, 999)] z I0 I0) hL25 rfl) tri rfl), show I6 a0 13 = f0_13 from (h_F.at hL25 t_a0 rfl).trans (ef0_13.symm)]; exact hpb)) (cwV 2 hts gX12_next_X12_counts rfl rfl rfl (by decide +kernel) ⟨Nat.le_of_ble_eq_true rfl, Nat.le_of_ble_eq_true rfl⟩) ⟨h_blind _ _ _ _ _ _ _, h_recv g t_a0 (by decide) so_13 (q := (RX12, TX12, 51)) rfl, h_pre _ hE hk hX hA hI hR g⟩ rfl rfl hl.1 rfl (lv_room (Nat.le_of_ble_eq_true rfl)) dX12_next_37 ⟨Nat.le_of_ble_eq_true rfl, Nat.le_of_ble_eq_true rfl⟩) (fun rh96 h96 => ?_)
            have h96p0 := h96
            have jrh96 : -2147483648 ≤ rh96.toInt ∧ rh96.toInt ≤ 2147483647 := ⟨xi_lo _, Int.le_of_lt_add_one (xi_hi _)⟩
            rw [m_cnt_F hR t_a0 (h_F.call (h_F.rf : h_F [(1349, 999)] z I0 I0) hL25 rfl) rfl rfl (h_F.m1 (by decide))] at h96p0
            have hc9 := hcn v5.toInt.toNat (by omega)
            rw [show ((v5.toInt.toNat : Nat) : Int) = v5.toInt by omega, ← ef0_12, ← h96p0] at hc9
            refine lv_aload_n hx hb dX12_next_40 rfl (lv_at hl 0 rfl) ?_
            refine lv_aload_n hx hb dX12_next_41 rfl (lv_at hl 0 rfl) ?_
            refine h_get (v := .int f0_12) hx hb hts iX12 hown g t_a0 (by decide) so_13 rfl 12 (by decide) (hts (.fieldLink RX12 187 "CapLeagueModel" "clock" "I") (by decide +kernel)) rfl dX12_next_42 (congrArg Value.int ((h_F.at hL25 t_a0 rfl).trans (ef0_12.symm))) ?_
            refine lv_iconst (v := 0) hx hb dX12_next_45 (by decide) ?_
            refine vp_callSi (W.runV (As := [.int f0_12, .int 0]) (rest := [.int rh96]) ⟨hx, hb, hml, hown, hts⟩ (tX12_lawOfF l E X A z I6 L0 a0 t_a0 f0_12 (f0_12.toInt) rfl (by omega) 0 (0) (by decide) (by omega)) (cwV 2 hts gX12_next_X12_lawOf rfl rfl rfl (by decide +kernel) ⟨Nat.le_of_ble_eq_true rfl, Nat.le_of_ble_eq_true rfl⟩) ⟨h_blind _ _ _ _ _ _ _, h_recv g t_a0 (by decide) so_13 (q := (RX12, TX12, 51)) rfl, h_pre _ hE hk hX hA hI hR g⟩ rfl rfl hl.1 rfl (lv_room (Nat.le_of_ble_eq_true rfl)) dX12_next_46 ⟨Nat.le_of_ble_eq_true rfl, Nat.le_of_ble_eq_true rfl⟩) (fun rh97 h97 => ?_)
            obtain ⟨h97p0, h97p1, h97p2⟩ := h97
            have jrh97 : -2147483648 ≤ rh97.toInt ∧ rh97.toInt ≤ 2147483647 := ⟨xi_lo _, Int.le_of_lt_add_one (xi_hi _)⟩
            rw [alw, ahy, show I6 lw = I0 lw from funext (fun k => h_F.at (h_F.call (h_F.rf : h_F [(1349, 999)] z I0 I0) hL25 rfl) tlw rfl), show I6 hy = I0 hy from funext (fun k => h_F.at (h_F.call (h_F.rf : h_F [(1349, 999)] z I0 I0) hL25 rfl) thy rfl)] at h97p0
            have grh97 : rh97.toInt = u_ 0 := hrl.at (x := 0) (by decide) h97p0
            clear h97p0
            have hb0 := hob.1
            have nbrh97 : 1 ≤ rh97.toInt ∧ rh97.toInt ≤ 50000 := by omega
            refine lv_isub hx hb dX12_next_49 ?_
            refine lv_topi (fun v98 ev98 => ?_)
            have jv98 : v98.toInt = rh96.toInt - rh97.toInt := xi_sub ev98 rfl rfl (by omega) (by omega)
            refine lv_istore (lv' := [(4, .int v98), (0, .ref a0), (1, .int v3), (2, .int v4), (3, .int v5)]) hx hb dX12_next_50 hl (by decide) rfl (fun ls hl => ?_)
            refine lv_iload hx hb dX12_next_52 (lv_at hl 0 rfl) ?_
            refine lv_if_gt (tgt := 60) hx hb dX12_next_54 (by decide) (fun c99 => ?_) (fun c99 => ?_)
            · have ic99 := (xi_lt c99 (by decide) rfl : 0 < v98.toInt)
              have eA : AA v5.toInt.toNat = v98 := by rw [eAA]; unfold m_ab; rw [show ((v5.toInt.toNat : Nat) : Int) = v5.toInt by omega, ← ef0_12, ← h96p0]; exact (q_mo_of (by omega) (by omega) (by omega)).symm
              have m9 : 0 < v98.toInt ∧ v98.toInt ≤ 7100000 := by omega
              refine lv_iload_n hx hb dX12_next_60 rfl (lv_at hl 3 rfl) ?_
              refine lv_iconst (v := 1) hx hb dX12_next_61 (by decide) ?_
              refine lv_iload_n hx hb dX12_next_62 rfl (lv_at hl 4 rfl) ?_
              refine lv_ishl hx hb dX12_next_63 ?_
              refine lv_topi (fun v100 ev100 => ?_)
              have jv100 : -2147483648 ≤ v100.toInt ∧ v100.toInt ≤ 2147483647 := ⟨xi_lo _, Int.le_of_lt_add_one (xi_hi _)⟩
              refine lv_ior hx hb dX12_next_64 ?_
              refine lv_topi (fun v101 ev101 => ?_)
              have ab9 := hx25_1.y (n1 := v5.toInt.toNat + 1) (by omega) rfl (by omega) ev100 ev101 (by rw [eA]; omega)
              have jv101 := ab9.b (by omega)
              refine lv_istore_n (lv' := [(2, .int v101), (4, .int v98), (0, .ref a0), (1, .int v3), (3, .int v5)]) hx hb dX12_next_65 rfl hl (by decide) rfl (fun ls hl => ?_)
              refine lv_iload hx hb dX12_next_66 (lv_at hl 1 rfl) ?_
              refine lv_aload_n hx hb dX12_next_68 rfl (lv_at hl 2 rfl) ?_
              refine lv_aload_n hx hb dX12_next_69 rfl (lv_at hl 2 rfl) ?_
              refine h_get (v := .int f0_12) hx hb hts iX12 hown g t_a0 (by decide) so_13 rfl 12 (by decide) (hts (.fieldLink RX12 187 "CapLeagueModel" "clock" "I") (by decide +kernel)) rfl dX12_next_70 (congrArg Value.int ((h_F.at hL25 t_a0 rfl).trans (ef0_12.symm))) ?_
              refine lv_bipush (v := 7) hx hb dX12_next_73 (by decide) ?_
              refine vp_callSi (W.runV (As := [.int f0_12, .int 7]) (rest := [.int v98]) ⟨hx, hb, hml, hown, hts⟩ (tX12_lawOfF l E X A z I6 L0 a0 t_a0 f0_12 (f0_12.toInt) rfl (by omega) 7 (7) (by decide) (by omega)) (cwV 2 hts gX12_next_X12_lawOf rfl rfl rfl (by decide +kernel) ⟨Nat.le_of_ble_eq_true rfl, Nat.le_of_ble_eq_true rfl⟩) ⟨h_blind _ _ _ _ _ _ _, h_recv g t_a0 (by decide) so_13 (q := (RX12, TX12, 51)) rfl, h_pre _ hE hk hX hA hI hR g⟩ rfl rfl hl.1 rfl (lv_room (Nat.le_of_ble_eq_true rfl)) dX12_next_75 ⟨Nat.le_of_ble_eq_true rfl, Nat.le_of_ble_eq_true rfl⟩) (fun rh102 h102 => ?_)
              obtain ⟨h102p0, h102p1, h102p2⟩ := h102
              have jrh102 : -2147483648 ≤ rh102.toInt ∧ rh102.toInt ≤ 2147483647 := ⟨xi_lo _, Int.le_of_lt_add_one (xi_hi _)⟩
              rw [alw, ahy, show I6 lw = I0 lw from funext (fun k => h_F.at (h_F.call (h_F.rf : h_F [(1349, 999)] z I0 I0) hL25 rfl) tlw rfl), show I6 hy = I0 hy from funext (fun k => h_F.at (h_F.call (h_F.rf : h_F [(1349, 999)] z I0 I0) hL25 rfl) thy rfl)] at h102p0
              have grh102 : rh102.toInt = u_ 7 := hrl.at (x := 7) (by decide) h102p0
              clear h102p0
              have hb7 := hob.2.2.2.2.2.2.2
              have nbrh102 : 0 ≤ rh102.toInt ∧ rh102.toInt ≤ 300 := by omega
              refine lv_imul hx hb dX12_next_78 ?_
              refine lv_topi (fun v103 ev103 => ?_)
              have jv103 : -2147483648 ≤ v103.toInt ∧ v103.toInt ≤ 2147483647 := ⟨xi_lo _, Int.le_of_lt_add_one (xi_hi _)⟩
              refine lv_bipush (v := 100) hx hb dX12_next_79 (by decide) ?_
              refine lv_idiv hx hb dX12_next_81 (by decide) ?_
              refine lv_topi (fun v104 ev104 => ?_)
              have jv104 : -2147483648 ≤ v104.toInt ∧ v104.toInt ≤ 2147483647 := ⟨xi_lo _, Int.le_of_lt_add_one (xi_hi _)⟩
              have eF : FF v5.toInt.toNat = v104 := by rw [eFF]; unfold q_fin; rw [← eAA, eA]; exact (q_hun33 ev103 ev104 grh102 (by omega) m9.2 hb7.1 hb7.2).symm
              refine lv_istore (lv' := [(5, .int v104), (2, .int v101), (4, .int v98), (0, .ref a0), (1, .int v3), (3, .int v5)]) hx hb dX12_next_82 hl (by decide) rfl (fun ls hl => ?_)
              refine lv_aload_n hx hb dX12_next_84 rfl (lv_at hl 3 rfl) ?_
              refine h_get (v := .ref pu) hx hb hts iX12 hown g t_a0 (by decide) so_13 rfl 49 (by decide) (hts (.fieldLink RX12 112 "CapLeagueModel" "purse" "[I") (by decide +kernel)) rfl dX12_next_85 (by show va_rf (z.R a0 49) = _; rw [rpu]; rfl) ?_
              refine lv_iload_n hx hb dX12_next_88 rfl (lv_at hl 5 rfl) ?_
              refine lv_dup2_11 hx hb dX12_next_89 rfl rfl ?_
              refine h_ald hx hb g tpu (by decide) so_1349 (xi_in (by omega) (by omega)) dX12_next_90 ?_
              refine lv_topi (fun v105 ev105 => ?_)
              have jv105 := hI.rd pu v5.toNatClampNeg tpu ev105 (rfl : h_bd 1349 _ = ((-2147483648), 2147483647))
              refine lv_iload hx hb dX12_next_91 (lv_at hl 0 rfl) ?_
              refine lv_iadd hx hb dX12_next_93 ?_
              refine lv_topi (fun v106 ev106 => ?_)
              have jv106 : -2147483648 ≤ v106.toInt ∧ v106.toInt ≤ 2147483647 := ⟨xi_lo _, Int.le_of_lt_add_one (xi_hi _)⟩
              refine h_ast hx hb g tpu (by decide) so_1349 (xi_in (by omega) (by omega)) dX12_next_94 (fun I107 H locs eI107 g => ?_)
              have hI := hI.wr eI107 tpu (rfl : h_bd 1349 _ = ((-2147483648), 2147483647)) (xi_lo _) (Int.le_of_lt_add_one (xi_hi _))
              have hF := hF.wr eI107 tpu rfl
              refine lv_iload_n hx hb dX12_next_95 rfl (lv_at hl 4 rfl) ?_
              refine lv_iload hx hb dX12_next_96 (lv_at hl 0 rfl) ?_
              refine lv_iadd hx hb dX12_next_98 ?_
              refine lv_topi (fun v108 ev108 => ?_)
              have jv108 : -2147483648 ≤ v108.toInt ∧ v108.toInt ≤ 2147483647 := ⟨xi_lo _, Int.le_of_lt_add_one (xi_hi _)⟩
              refine lv_istore_n (lv' := [(1, .int v108), (5, .int v104), (2, .int v101), (4, .int v98), (0, .ref a0), (3, .int v5)]) hx hb dX12_next_99 rfl hl (by decide) rfl (fun ls hl => ?_)
              obtain ⟨v109, ev109⟩ : ∃ z : Int32, z = v5 + 1 := ⟨_, rfl⟩
              have jv109 : v109.toInt = v5.toInt + 1 := xi_add ev109 rfl (by decide) (by omega) (by omega)
              refine lv_iinc (v := v109) (lv' := [(3, .int v109), (1, .int v108), (5, .int v104), (2, .int v101), (4, .int v98), (0, .ref a0)]) hx hb dX12_next_100 hl (k := 5) rfl (by rw [ev109]; rfl) (by decide) rfl (fun ls hl => ?_)
              refine lv_goto (tgt := 25) hx hb dX12_next_103 (by decide) ?_
              exact ih25 I107 _ _ _ v108 v101 v109 g hI hF (lv_sub hl [5, 1, 3, 0] rfl) (by omega) (by omega) (by omega) (h_F.wr (h_F.call (h_F.rf : h_F [(1349, 999)] z I0 I0) hL25 rfl) eI107 tpu rfl) (by rw [show (v109.toInt).toNat = v5.toInt.toNat + 1 by omega]; exact q_sums_s hx25_0 (by rw [eF]; exact ev108)) (by rw [show (v109.toInt).toNat = v5.toInt.toNat + 1 by omega]; exact ab9) (q_fi_s (v := v5.toInt.toNat) hx25_2 (by omega) (by omega : v109.toInt = v5.toInt + 1) (fun j => h_wif eI107 kv j) (by rw [eF, show I6 pu v5.toInt.toNat = v105 by rw [← kv]; exact ev105.symm]; exact ev106)) (by omega)
            · have ic99 := (xi_nlt c99 (by decide) rfl : v98.toInt ≤ 0)
              have eA : AA v5.toInt.toNat = 0 := by rw [eAA]; unfold m_ab; rw [show ((v5.toInt.toNat : Nat) : Int) = v5.toInt by omega, ← ef0_12, ← h96p0]; exact (q_mo_of (by have z0 : (0 : Int32).toInt = 0 := (by decide); omega) (by have z0 : (0 : Int32).toInt = 0 := (by decide); omega) (by have z0 : (0 : Int32).toInt = 0 := (by decide); omega)).symm
              have eF : FF v5.toInt.toNat = 0 := by rw [eFF]; unfold q_fin; rw [← eAA, eA]; exact q_hun_0 _
              refine lv_goto (tgt := 100) hx hb dX12_next_57 (by decide) ?_
              obtain ⟨v110, ev110⟩ : ∃ z : Int32, z = v5 + 1 := ⟨_, rfl⟩
              have jv110 : v110.toInt = v5.toInt + 1 := xi_add ev110 rfl (by decide) (by omega) (by omega)
              refine lv_iinc (v := v110) (lv' := [(3, .int v110), (4, .int v98), (0, .ref a0), (1, .int v3), (2, .int v4)]) hx hb dX12_next_100 hl (k := 4) rfl (by rw [ev110]; rfl) (by decide) rfl (fun ls hl => ?_)
              refine lv_goto (tgt := 25) hx hb dX12_next_103 (by decide) ?_
              exact ih25 I6 _ _ _ v3 v4 v110 g hI hF (lv_sub hl [2, 3, 4, 0] rfl) (by omega) (by omega) (by omega) (h_F.call (h_F.rf : h_F [(1349, 999)] z I0 I0) hL25 rfl) (by rw [show (v110.toInt).toNat = v5.toInt.toNat + 1 by omega]; exact q_sums_s hx25_0 (by rw [eF]; exact (Int32.add_zero _).symm)) (hx25_1.n (by omega : (v110.toInt).toNat = v5.toInt.toNat + 1) (by rw [eA]; decide)) (q_fi_n (v := v5.toInt.toNat) hx25_2 (by omega) (by omega : v110.toInt = v5.toInt + 1) (fun k => rfl) eF) (by omega)
      have kc111 : (0 : Int32).toInt = 0 := by decide
      have kc112 : (0 : Int32).toInt = 0 := by decide
      have kc113 : (0 : Int32).toInt = 0 := by decide
      exact loop25_0 _ I0 _ _ _ (0) (0) (0) g hI hF (lv_sub hl [3, 2, 1, 0] rfl) ⟨by decide, by decide⟩ ⟨by decide, by decide⟩ ⟨by decide, by decide⟩ (h_F.rf : h_F [(1349, 999)] z I0 I0) (rfl) (q_abv.z) (fun k => (if_neg (by omega)).symm) (show (8 - (0 : Int)) < (((8 - (0 : Int)).toNat + 1 : Nat) : Int) by omega)
    · have ic2 := (xi_eq c2 rfl (by decide) : f0_31.toInt = 0)
      refine lv_bipush (v := (-4)) hx hb dX12_next_16 (by decide) ?_
      have hS := g.2.1
      exact W.iret (v := (-4)) hx hb hr (fun t ht hW => ⟨⟨(-4), I0, rfl, ⟨hI, hF, ⟨(by have qr : ((-4) : Int32).toInt = (-4) := (by decide); omega), (by rw [qf0_12, qf0_31, ← ef0_13, acb, afi, ala, ahc, ait, ahu, aus]; exact Or.inl ⟨by omega, by decide, rfl⟩), (fun c1 c2 => by exfalso; rw [qf0_12] at c1; rw [qf0_31] at c2; omega)⟩⟩, h_ret g ht⟩, hS.F ht⟩) hS.2.2 dX12_next_18

