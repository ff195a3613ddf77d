set_option maxHeartbeats 4000000 in
set_option maxRecDepth 100000 in
theorem tX12_givers22R (l : Launch) (E : tE) (X : tX) (A : Nat → Prop) (z : tZ) (I0 : tI) (L0 : tL) (a0 : Nat) (t_a0 : z.ty a0 = 13) (u_ : Nat → Int) (hmp : m_pre z I0 a0 u_) (hg : ∀ i : Nat, i < 2 → (I0 (h_ad z a0 43) i).toInt < (I0 a0 13).toInt) (s_ : tS) (hs : m_rs z I0 a0 s_) : Met l yX12_givers wsX12_givers ({ frames := 7, cells := 0, slots := 0, locals := 448 }) (va_Pc [.ref a0, .int 2, .int 2] (h_P E X A z I0 L0)) (va_Qv (fun (I1 : tI) => h_I z I1 ∧ h_F [(13, 44), (13, 45), (1339, 999), (1340, 999)] z I0 I1 ∧ (m_rs z I1 a0 (r_st2 (m_G z I0 a0 u_) (I0 (h_ad z a0 42) 0).toInt (I0 (h_ad z a0 42) 1).toInt (I0 (h_ad z a0 43) 0).toInt.toNat (I0 (h_ad z a0 43) 1).toInt.toNat s_))) (fun (I1 : tI) t => h_B E A z I1 L0 t) A) 0 0 A := by
  refine Met.ofW (cc := cX12_givers) (maxL := 4) (ret := none) (by decide) rfl ?_
  intro pr_ ev_ s m args below meth cd_ s₁ B hml hv
  obtain ⟨rfl, hE, hk, hX, hA, hK, hI, hR, hB0⟩ := hv
  have g : h_G h_so h_fk E A z I0 L0 s s.heap s.heap [] := ⟨hK, va_S.rf, hB0⟩
  have hF : h_F [(13, 44), (13, 45), (1339, 999), (1340, 999)] z I0 I0 := h_F.rf
  have hx := B.exec
  have hb := B.bytes
  have hr := B.returns
  have hts := atoms_spec (ws := wsX12_givers) B.pre
  have hown : s.vm.findClass RX12 = some m.cls := findClass_of_methodNamed B.named
  have hlocks := B.notSynchronized
  have iX12 : ∀ w ∈ u_ws RX12 TX12 51, w ∈ wsX12_givers := by decide +kernel
  have hl := lv_entry ([.ref a0, .int 2, .int 2]) (n := 4) (Nat.le_of_ble_eq_true rfl)
  rw [lg_entry_eq]
  generalize (lg_sl ([.ref a0, .int 2, .int 2]) ++ List.replicate (4 - (lg_sl ([.ref a0, .int 2, .int 2])).length) Slot.unset).toArray = ls at hl ⊢
  have hl : lv_has ls 4 [(0, .ref a0), (1, .int 2), (2, .int 2)] := hl
  refine lv_iload_n hx hb dX12_givers_0 rfl (lv_at hl 1 rfl) ?_
  refine lv_iload_n hx hb dX12_givers_1 rfl (lv_at hl 2 rfl) ?_
  refine lv_icmp_ne (tgt := 11) hx hb dX12_givers_2 (by decide) (fun h => absurd (by decide) h) (fun _ => ?_)
  refine lv_aload_n hx hb dX12_givers_5 rfl (lv_at hl 0 rfl) ?_
  refine lv_iload_n hx hb dX12_givers_6 rfl (lv_at hl 2 rfl) ?_
  refine va_callv (va_runV (As := [.int 2]) (rest := []) ⟨hx, hb, hml, hown, hts⟩ (tX12_tryRing2R l E X A z I0 L0 a0 t_a0 (u_) (hmp) (hg) (s_) (hs)) (cwV 1 hts gX12_givers_X12_tryRing rfl rfl rfl (by decide +kernel) ⟨Nat.le_of_ble_eq_true rfl, Nat.le_of_ble_eq_true rfl⟩) ⟨h_blind _ _ _ _ _ _ _, h_recv g t_a0 (by decide) so_13 (q := (RX12, TX12, 51)) rfl, h_pre _ hE hk hX hA hI hR g⟩ rfl rfl hl.1 rfl (lv_room (Nat.le_of_ble_eq_true rfl)) dX12_givers_7 ⟨Nat.le_of_ble_eq_true rfl, Nat.le_of_ble_eq_true rfl⟩) g.2.1 (fun q _ h => h) (fun q h => h) (fun I3 t H1 locs ht hvm h2 hB hz1 hk1 hS => ?_)
  obtain ⟨hI, fh2, h2⟩ := h2
  replace g := h_after g hB ht hS
  generalize H1 = H at g
  clear hB hk1 hz1 ht hvm hS
  have hF := hF.call fh2 rfl
  have h2p0 := h2
  have hS := g.2.1
  exact W.vret hx hb hr (fun t ht hW => ⟨⟨I3, rfl, ⟨hI, hF, (h2p0)⟩, h_ret g ht⟩, hS.F ht⟩) hS.2.2 dX12_givers_10
set_option maxHeartbeats 4000000 in
set_option maxRecDepth 100000 in
theorem tX12_givers21R (l : Launch) (E : tE) (X : tX) (A : Nat → Prop) (z : tZ) (I0 : tI) (L0 : tL) (a0 : Nat) (t_a0 : z.ty a0 = 13) (u_ : Nat → Int) (hmp : m_pre z I0 a0 u_) (hg : ∀ i : Nat, i < 1 → (I0 (h_ad z a0 43) i).toInt < (I0 a0 13).toInt) (s_ : tS) (hs : m_rs z I0 a0 s_) : Met l yX12_givers wsX12_givers ({ frames := 8, cells := 0, slots := 0, locals := 512 }) (va_Pc [.ref a0, .int 1, .int 2] (h_P E X A z I0 L0)) (va_Qv (fun (I1 : tI) => h_I z I1 ∧ h_F [(13, 44), (13, 45), (1339, 999), (1340, 999), (1343, 999)] z I0 I1 ∧ (m_rs z I1 a0 (r_fp (q_mc (I0 (h_ad z a0 14)) (I0 (h_ad z a0 42) 1).toInt) (fun (s : tS) (x1 : Nat) => (r_st2 (m_G z I0 a0 u_) (I0 (h_ad z a0 42) 0).toInt (I0 (h_ad z a0 42) 1).toInt (I0 (h_ad z a0 43) 0).toInt.toNat x1 s)) s_ (I0 a0 13).toInt.toNat)) ∧ (∀ k : Nat, k < 1 → I1 (h_ad z a0 43) k = I0 (h_ad z a0 43) k)) (fun (I1 : tI) t => h_B E A z I1 L0 t) A) 0 0 A := by
  refine Met.ofW (cc := cX12_givers) (maxL := 4) (ret := none) (by decide) rfl ?_
  intro pr_ ev_ s m args below meth cd_ s₁ B hml hv
  obtain ⟨rfl, hE, hk, hX, hA, hK, hI, hR, hB0⟩ := hv
  have g : h_G h_so h_fk E A z I0 L0 s s.heap s.heap [] := ⟨hK, va_S.rf, hB0⟩
  have hF : h_F [(13, 44), (13, 45), (1339, 999), (1340, 999), (1343, 999)] z I0 I0 := h_F.rf
  have hx := B.exec
  have hb := B.bytes
  have hr := B.returns
  have hts := atoms_spec (ws := wsX12_givers) B.pre
  have hown : s.vm.findClass RX12 = some m.cls := findClass_of_methodNamed B.named
  have hlocks := B.notSynchronized
  have iX12 : ∀ w ∈ u_ws RX12 TX12 51, w ∈ wsX12_givers := by decide +kernel
  have hl := lv_entry ([.ref a0, .int 1, .int 2]) (n := 4) (Nat.le_of_ble_eq_true rfl)
  rw [lg_entry_eq]
  generalize (lg_sl ([.ref a0, .int 1, .int 2]) ++ List.replicate (4 - (lg_sl ([.ref a0, .int 1, .int 2])).length) Slot.unset).toArray = ls at hl ⊢
  have hl : lv_has ls 4 [(0, .ref a0), (1, .int 1), (2, .int 2)] := hl
  obtain ⟨tc, rtc, ttc⟩ := hR.at a0 42 t_a0 (rfl : h_rs 13 42 = some (1342, false)) (by decide)
  have atc : h_ad z a0 42 = tc := h_ad.at rtc
  obtain ⟨tg, rtg, ttg⟩ := hR.at a0 43 t_a0 (rfl : h_rs 13 43 = some (1343, false)) (by decide)
  have atg : h_ad z a0 43 = tg := h_ad.at rtg
  obtain ⟨cb, rcb, tcb⟩ := hR.at a0 14 t_a0 (rfl : h_rs 13 14 = some (1314, false)) (by decide)
  have acb : h_ad z a0 14 = cb := h_ad.at rcb
  obtain ⟨f0_12, ef0_12⟩ : ∃ v : Int32, v = I0 a0 12 := ⟨_, rfl⟩
  have qf0_12 : (I0 a0 12).toInt = f0_12.toInt := congrArg Int32.toInt ef0_12.symm
  have jf0_12 := hI.rd a0 12 t_a0 ef0_12 (rfl : h_bd 13 12 = (0, 9))
  obtain ⟨f0_13, ef0_13⟩ : ∃ v : Int32, v = I0 a0 13 := ⟨_, rfl⟩
  have qf0_13 : (I0 a0 13).toInt = f0_13.toInt := congrArg Int32.toInt ef0_13.symm
  have jf0_13 := hI.rd a0 13 t_a0 ef0_13 (rfl : h_bd 13 13 = (0, 60))
  obtain ⟨hr0, hob, hpb, hwb, hun⟩ := id hmp
  rw [qf0_13] at hg
  rw [atg] at hg
  obtain ⟨c0, ec0⟩ : ∃ v : Int32, v = I0 tc 0 := ⟨_, rfl⟩
  have ekc0 : I0 tc (0 : Int32).toNatClampNeg = c0 := by rw [show (0 : Int32).toNatClampNeg = 0 by decide]; exact ec0.symm
  have jc0 := hI.rd tc 0 ttc ec0 (rfl : h_bd 1342 _ = (0, 7))
  obtain ⟨c1, ec1⟩ : ∃ v : Int32, v = I0 tc 1 := ⟨_, rfl⟩
  have ekc1 : I0 tc (1 : Int32).toNatClampNeg = c1 := by rw [show (1 : Int32).toNatClampNeg = 1 by decide]; exact ec1.symm
  have jc1 := hI.rd tc 1 ttc ec1 (rfl : h_bd 1342 _ = (0, 7))
  obtain ⟨g0, eg0⟩ : ∃ v : Int32, v = I0 tg 0 := ⟨_, rfl⟩
  have ekg0 : I0 tg (0 : Int32).toNatClampNeg = g0 := by rw [show (0 : Int32).toNatClampNeg = 0 by decide]; exact eg0.symm
  have jg0 := hI.rd tg 0 ttg eg0 (rfl : h_bd 1343 _ = (0, 59))
  obtain ⟨MG, eMG⟩ : ∃ f : Int → Nat → Nat → Int, f = m_G z I0 a0 u_ := ⟨_, rfl⟩
  refine lv_iload_n hx hb dX12_givers_0 rfl (lv_at hl 1 rfl) ?_
  refine lv_iload_n hx hb dX12_givers_1 rfl (lv_at hl 2 rfl) ?_
  refine lv_icmp_ne (tgt := 11) hx hb dX12_givers_2 (by decide) (fun _ => ?_) (fun h => absurd h (by decide))
  refine lv_iconst (v := 0) hx hb dX12_givers_11 (by decide) ?_
  refine lv_istore_n (lv' := [(3, .int 0), (0, .ref a0), (1, .int 1), (2, .int 2)]) hx hb dX12_givers_12 rfl hl (by decide) rfl (fun ls hl => ?_)
  have loop13_0 : ∀ (n : Nat) (I3 : tI) (H : Heap) (locs : List Loc) (ls : Array Slot) (v2 : Int32), h_G h_so h_fk E A z I3 L0 s s.heap H locs → h_I z I3 → h_F [(13, 44), (13, 45), (1339, 999), (1340, 999), (1343, 999)] z I0 I3 → lv_has ls 4 [(0, .ref a0), (1, .int 1), (2, .int 2), (3, .int v2)] → (0 ≤ v2.toInt ∧ v2.toInt ≤ 60) → h_F [(13, 44), (13, 45), (1339, 999), (1340, 999), (1343, 999)] z I0 I3 → (m_rs z I3 a0 (r_fp (q_mc (I0 cb) c1.toInt) (fun (s : tS) (x1 : Nat) => (r_st2 MG c0.toInt c1.toInt g0.toInt.toNat x1 s)) s_ (v2.toInt).toNat)) → (v2.toInt ≤ f0_13.toInt) → (I3 tg (0 : Int32).toNatClampNeg = g0) → (60 - v2.toInt) < (n : Int) → W pr_ l ev_ (headSpec wsX12_givers ({ frames := 8, cells := 0, slots := 0, locals := 512 })).room s m ([.ref a0, .int 1, .int 2] : List Value).toArray below meth cd_ H locs 0 0 (MQ below (va_Qv (fun (I1 : tI) => h_I z I1 ∧ h_F [(13, 44), (13, 45), (1339, 999), (1340, 999), (1343, 999)] z I0 I1 ∧ (m_rs z I1 a0 (r_fp (q_mc (I0 (h_ad z a0 14)) (I0 (h_ad z a0 42) 1).toInt) (fun (s : tS) (x1 : Nat) => (r_st2 (m_G z I0 a0 u_) (I0 (h_ad z a0 42) 0).toInt (I0 (h_ad z a0 42) 1).toInt (I0 (h_ad z a0 43) 0).toInt.toNat x1 s)) s_ (I0 a0 13).toInt.toNat)) ∧ (∀ k : Nat, k < 1 → I1 (h_ad z a0 43) k = I0 (h_ad z a0 43) k)) (fun (I1 : tI) t => h_B E A z I1 L0 t) A) ([.ref a0, .int 1, .int 2] : List Value).toArray s 0 0 A) (F0 m 13 ls []) := by
    intro n
    induction n with
    | zero => intro I3 H locs ls v2 g hI hF hl jv2 hL13 hx13_0 hx13_1 hx13_2 hn; exact absurd hn (by omega)
    | succ n ih13 =>
      intro I3 H locs ls v2 g hI hF hl jv2 hL13 hx13_0 hx13_1 hx13_2 hn
      have kv : v2.toNatClampNeg = v2.toInt.toNat := h_keq rfl (by omega) (by omega)
      refine lv_iload_n hx hb dX12_givers_13 rfl (lv_at hl 3 rfl) ?_
      refine lv_aload_n hx hb dX12_givers_14 rfl (lv_at hl 0 rfl) ?_
      refine h_get (v := .int f0_13) hx hb hts iX12 hown g t_a0 (by decide) so_13 rfl 13 (by decide) (hts (.fieldLink RX12 202 "CapLeagueModel" "players" "I") (by decide +kernel)) rfl dX12_givers_15 (congrArg Value.int ((h_F.at hL13 t_a0 rfl).trans (ef0_13.symm))) ?_
      refine lv_icmp_ge (tgt := 72) hx hb dX12_givers_18 (by decide) (fun c4 => ?_) (fun c4 => ?_)
      · have ic4 := (xi_le c4 rfl rfl : f0_13.toInt ≤ v2.toInt)
        have hS := g.2.1
        exact W.vret hx hb hr (fun t ht hW => ⟨⟨I3, rfl, ⟨hI, hF, ⟨(by rw [acb, atc, atg, ← ec0, ← ec1, ← eg0, ← ef0_13, ← eMG]; have h9 := hx13_0; rw [show (v2.toInt).toNat = f0_13.toInt.toNat by omega] at h9; exact h9), (fun k hk => by rw [atg]; rcases (show k = 0 by omega) with rfl; exact (by rw [← eg0]; have h9 := hx13_2; rw [show (0 : Int32).toNatClampNeg = 0 by decide] at h9; exact h9))⟩⟩, h_ret g ht⟩, hS.F ht⟩) hS.2.2 dX12_givers_72
      · have ic4 := (xi_nle c4 rfl rfl : v2.toInt < f0_13.toInt)
        refine lv_aload_n hx hb dX12_givers_21 rfl (lv_at hl 0 rfl) ?_
        refine h_get (v := .ref cb) hx hb hts iX12 hown g t_a0 (by decide) so_13 rfl 14 (by decide) (hts (.fieldLink RX12 25 "CapLeagueModel" "clubOf" "[I") (by decide +kernel)) rfl dX12_givers_22 (by show va_rf (z.R a0 14) = _; rw [rcb]; rfl) ?_
        refine lv_iload_n hx hb dX12_givers_25 rfl (lv_at hl 3 rfl) ?_
        refine h_ald hx hb g tcb (by decide) so_1314 (xi_in (by omega) (by omega)) dX12_givers_26 ?_
        refine lv_topi (fun v5 ev5 => ?_)
        have jv5 := hI.rd cb v2.toNatClampNeg tcb ev5 (rfl : h_bd 1314 _ = ((-1), 7))
        have gv5 : I0 cb v2.toInt.toNat = v5 := by rw [← kv, ev5]; exact (hF.at tcb rfl).symm
        refine lv_aload_n hx hb dX12_givers_27 rfl (lv_at hl 0 rfl) ?_
        refine h_get (v := .ref tc) hx hb hts iX12 hown g t_a0 (by decide) so_13 rfl 42 (by decide) (hts (.fieldLink RX12 97 "CapLeagueModel" "triedClub" "[I") (by decide +kernel)) rfl dX12_givers_28 (by show va_rf (z.R a0 42) = _; rw [rtc]; rfl) ?_
        refine lv_iload_n hx hb dX12_givers_31 rfl (lv_at hl 1 rfl) ?_
        refine h_ald hx hb g ttc (by decide) so_1342 (by unfold vp_in; decide) dX12_givers_32 ?_
        refine xw_i ((h_F.at hL13 ttc rfl).trans (ekc1)) ?_
        refine lv_icmp_ne (tgt := 66) hx hb dX12_givers_33 (by decide) (fun c6 => ?_) (fun c6 => ?_)
        · have ic6 := (xi_ne c6 rfl rfl : v5.toInt ≠ c1.toInt)
          obtain ⟨v7, ev7⟩ : ∃ z : Int32, z = v2 + 1 := ⟨_, rfl⟩
          have jv7 : v7.toInt = v2.toInt + 1 := xi_add ev7 rfl (by decide) (by omega) (by omega)
          refine lv_iinc (v := v7) (lv' := [(3, .int v7), (0, .ref a0), (1, .int 1), (2, .int 2)]) hx hb dX12_givers_66 hl (k := 3) rfl (by rw [ev7]; rfl) (by decide) rfl (fun ls hl => ?_)
          refine lv_goto (tgt := 13) hx hb dX12_givers_69 (by decide) ?_
          exact ih13 I3 _ _ _ v7 g hI hF (lv_sub hl [1, 2, 3, 0] rfl) (by omega) (h_F.call (h_F.rf : h_F [(13, 44), (13, 45), (1339, 999), (1340, 999), (1343, 999)] z I0 I0) hL13 rfl) (by rw [show (v7.toInt).toNat = v2.toInt.toNat + 1 by omega, r_fp_n (q_mc_n (by rw [gv5]; omega))]; exact hx13_0) (by omega) (hx13_2) (by omega)
        · have ic6 := (xi_eq c6 rfl rfl : v5.toInt = c1.toInt)
          refine lv_aload_n hx hb dX12_givers_36 rfl (lv_at hl 0 rfl) ?_
          refine lv_iload_n hx hb dX12_givers_37 rfl (lv_at hl 3 rfl) ?_
          refine lv_aload_n hx hb dX12_givers_38 rfl (lv_at hl 0 rfl) ?_
          refine h_get (v := .int f0_12) hx hb hts iX12 hown g t_a0 (by decide) so_13 rfl 12 (by decide) (hts (.fieldLink RX12 187 "CapLeagueModel" "clock" "I") (by decide +kernel)) rfl dX12_givers_39 (congrArg Value.int ((h_F.at hL13 t_a0 rfl).trans (ef0_12.symm))) ?_
          refine vp_callSi (W.runV (As := [.int v2, .int f0_12]) (rest := []) ⟨hx, hb, hml, hown, hts⟩ (tX12_isUnderB l E X A z I3 L0 a0 t_a0 v2 (v2.toInt) rfl (by omega) f0_12 (f0_12.toInt) rfl) (cwV 2 hts gX12_givers_X12_isUnder rfl rfl rfl (by decide +kernel) ⟨Nat.le_of_ble_eq_true rfl, Nat.le_of_ble_eq_true rfl⟩) ⟨h_blind _ _ _ _ _ _ _, h_recv g t_a0 (by decide) so_13 (q := (RX12, TX12, 51)) rfl, h_pre _ hE hk hX hA hI hR g⟩ rfl rfl hl.1 rfl (lv_room (Nat.le_of_ble_eq_true rfl)) dX12_givers_42 ⟨Nat.le_of_ble_eq_true rfl, Nat.le_of_ble_eq_true rfl⟩) (fun rh8 h8 => ?_)
          obtain ⟨h8, h8p0⟩ := h8
          refine lv_if_ne (tgt := 51) hx hb dX12_givers_45 (by decide) (fun c9 => ?_) (fun c9 => ?_)
          · have ic9 := (xi_ne c9 rfl (by decide) : rh8.toInt ≠ 0)
            refine lv_aload_n hx hb dX12_givers_51 rfl (lv_at hl 0 rfl) ?_
            refine h_get (v := .ref tg) hx hb hts iX12 hown g t_a0 (by decide) so_13 rfl 43 (by decide) (hts (.fieldLink RX12 100 "CapLeagueModel" "triedGives" "[I") (by decide +kernel)) rfl dX12_givers_52 (by show va_rf (z.R a0 43) = _; rw [rtg]; rfl) ?_
            refine lv_iload_n hx hb dX12_givers_55 rfl (lv_at hl 1 rfl) ?_
            refine lv_iload_n hx hb dX12_givers_56 rfl (lv_at hl 3 rfl) ?_
            refine h_ast hx hb g ttg (by decide) so_1343 (by unfold vp_in; decide) dX12_givers_57 (fun I10 H locs eI10 g => ?_)
            have hI := hI.wr eI10 ttg (rfl : h_bd 1343 _ = (0, 59)) (by omega) (by omega)
            have hF := hF.wr eI10 ttg rfl
            refine lv_aload_n hx hb dX12_givers_58 rfl (lv_at hl 0 rfl) ?_
            refine lv_iload_n hx hb dX12_givers_59 rfl (lv_at hl 1 rfl) ?_
            refine lv_iconst (v := 1) hx hb dX12_givers_60 (by decide) ?_
            refine lv_iadd hx hb dX12_givers_61 ?_
            refine xw_i (v := 2) (by decide) ?_
            refine lv_iload_n hx hb dX12_givers_62 rfl (lv_at hl 2 rfl) ?_
            refine va_callv (va_runV (As := [.int 2, .int 2]) (rest := []) ⟨hx, hb, hml, hown, hts⟩ (tX12_givers22R l E X A z I10 L0 a0 t_a0 (u_) (hmp.F hR t_a0 (h_F.wr (h_F.call (h_F.rf : h_F [(13, 44), (13, 45), (1339, 999), (1340, 999), (1343, 999)] z I0 I0) hL13 rfl) eI10 ttg rfl) (by decide)) (fun i hi => by rcases (show i = 0 ∨ i = 1 by omega) with rfl | rfl; exact (by rw [show I10 a0 13 = f0_13 from (h_n1 eI10 t_a0 ttg (by decide)).trans ((h_F.at hL13 t_a0 rfl).trans (ef0_13.symm)), atg]; have h9 := (h_n2 eI10 (by decide)).trans (hx13_2); rw [show (0 : Int32).toNatClampNeg = 0 by decide] at h9; rw [h9]; exact (by rw [eg0]; exact hg 0 (by decide))); exact (by rw [show I10 a0 13 = f0_13 from (h_n1 eI10 t_a0 ttg (by decide)).trans ((h_F.at hL13 t_a0 rfl).trans (ef0_13.symm)), atg]; have h9 := h_n0 eI10; rw [show (1 : Int32).toNatClampNeg = 1 by decide] at h9; rw [h9]; omega)) (r_fp (q_mc (I0 cb) c1.toInt) (fun (s : tS) (x1 : Nat) => (r_st2 MG c0.toInt c1.toInt g0.toInt.toNat x1 s)) s_ v2.toInt.toNat) (hx13_0.F hR t_a0 (h_F.wr (h_F.rf : h_F [(1343, 999)] z I3 I3) eI10 ttg rfl) rfl rfl (fun _ => rfl) (fun _ => rfl))) (cwV 2 hts gX12_givers_X12_givers rfl rfl rfl (by decide +kernel) ⟨Nat.le_of_ble_eq_true rfl, Nat.le_of_ble_eq_true rfl⟩) ⟨h_blind _ _ _ _ _ _ _, h_recv g t_a0 (by decide) so_13 (q := (RX12, TX12, 51)) rfl, h_pre _ hE hk hX hA hI hR g⟩ rfl rfl hl.1 rfl (lv_room (Nat.le_of_ble_eq_true rfl)) dX12_givers_63 ⟨Nat.le_of_ble_eq_true rfl, Nat.le_of_ble_eq_true rfl⟩) g.2.1 (fun q _ h => h) (fun q h => h) (fun I12 t H1 locs ht hvm h11 hB hz1 hk1 hS => ?_)
            obtain ⟨hI, fh11, h11⟩ := h11
            replace g := h_after g hB ht hS
            generalize H1 = H at g
            clear hB hk1 hz1 ht hvm hS
            have hF := hF.call fh11 rfl
            have h11p0 := h11
            rw [m_G_F hR t_a0 (h_F.wr (h_F.call (h_F.rf : h_F [(13, 44), (13, 45), (1339, 999), (1340, 999), (1343, 999)] z I0 I0) hL13 rfl) eI10 ttg rfl) (by decide) u_, ← eMG, atc, atg, show I10 tc 0 = c0 from (by have h9 := (h_n1 eI10 ttc ttg (by decide)).trans ((h_F.at hL13 ttc rfl).trans (ekc0)); rw [show (0 : Int32).toNatClampNeg = 0 by decide] at h9; exact h9), show I10 tc 1 = c1 from (by have h9 := (h_n1 eI10 ttc ttg (by decide)).trans ((h_F.at hL13 ttc rfl).trans (ekc1)); rw [show (1 : Int32).toNatClampNeg = 1 by decide] at h9; exact h9), show I10 tg 0 = g0 from (by have h9 := (h_n2 eI10 (by decide)).trans (hx13_2); rw [show (0 : Int32).toNatClampNeg = 0 by decide] at h9; exact h9), show I10 tg 1 = v2 from (by have h9 := h_n0 eI10; rw [show (1 : Int32).toNatClampNeg = 1 by decide] at h9; exact h9)] at h11p0
            obtain ⟨v13, ev13⟩ : ∃ z : Int32, z = v2 + 1 := ⟨_, rfl⟩
            have jv13 : v13.toInt = v2.toInt + 1 := xi_add ev13 rfl (by decide) (by omega) (by omega)
            refine lv_iinc (v := v13) (lv' := [(3, .int v13), (0, .ref a0), (1, .int 1), (2, .int 2)]) hx hb dX12_givers_66 hl (k := 3) rfl (by rw [ev13]; rfl) (by decide) rfl (fun ls hl => ?_)
            refine lv_goto (tgt := 13) hx hb dX12_givers_69 (by decide) ?_
            exact ih13 I12 _ _ _ v13 g hI hF (lv_sub hl [1, 2, 3, 0] rfl) (by omega) (h_F.call (h_F.wr (h_F.call (h_F.rf : h_F [(13, 44), (13, 45), (1339, 999), (1340, 999), (1343, 999)] z I0 I0) hL13 rfl) eI10 ttg rfl) fh11 rfl) (by rw [show (v13.toInt).toNat = v2.toInt.toNat + 1 by omega, r_fp_y (q_mc_y (by rw [gv5]; omega))]; exact h11p0) (by omega) ((h_F.at fh11 ttg rfl).trans ((h_n2 eI10 (by decide)).trans (hx13_2))) (by omega)
          · have ic9 := (xi_eq c9 rfl (by decide) : rh8.toInt = 0)
            have hu9 := hun v2.toInt.toNat (by rw [qf0_13]; omega) (by rw [acb, gv5]; omega)
            rcases h8p0 with q | q; exact absurd q.1 (by omega); exact absurd (by rw [show I3 (h_ad z a0 14) = I0 (h_ad z a0 14) from m_F hR t_a0 hF (by decide) 14 1314 rfl (by decide) (by decide) (by decide), show I3 (h_ad z a0 15) = I0 (h_ad z a0 15) from m_F hR t_a0 hF (by decide) 15 1315 rfl (by decide) (by decide) (by decide), show I3 (h_ad z a0 16) = I0 (h_ad z a0 16) from m_F hR t_a0 hF (by decide) 16 1316 rfl (by decide) (by decide) (by decide), show I3 (h_ad z a0 20) = I0 (h_ad z a0 20) from m_F hR t_a0 hF (by decide) 20 1320 rfl (by decide) (by decide) (by decide), show I3 (h_ad z a0 21) = I0 (h_ad z a0 21) from m_F hR t_a0 hF (by decide) 21 1321 rfl (by decide) (by decide) (by decide)]; rw [ef0_12]; exact hu9) q.2
  have kc14 : (0 : Int32).toInt = 0 := by decide
  exact loop13_0 _ I0 _ _ _ (0) g hI hF (lv_sub hl [1, 2, 3, 0] rfl) ⟨by decide, by decide⟩ (h_F.rf : h_F [(13, 44), (13, 45), (1339, 999), (1340, 999), (1343, 999)] z I0 I0) (hs) (by omega) (ekg0) (show (60 - (0 : Int)) < (((60 - (0 : Int)).toNat + 1 : Nat) : Int) by omega)
set_option maxHeartbeats 4000000 in
set_option maxRecDepth 100000 in
theorem tX12_givers20R (l : Launch) (E : tE) (X : tX) (A : Nat → Prop) (z : tZ) (I0 : tI) (L0 : tL) (a0 : Nat) (t_a0 : z.ty a0 = 13) (u_ : Nat → Int) (hmp : m_pre z I0 a0 u_) (hg : ∀ i : Nat, i < 0 → (I0 (h_ad z a0 43) i).toInt < (I0 a0 13).toInt) (s_ : tS) (hs : m_rs z I0 a0 s_) : Met l yX12_givers wsX12_givers ({ frames := 9, cells := 0, slots := 0, locals := 576 }) (va_Pc [.ref a0, .int 0, .int 2] (h_P E X A z I0 L0)) (va_Qv (fun (I1 : tI) => h_I z I1 ∧ h_F [(13, 44), (13, 45), (1339, 999), (1340, 999), (1343, 999)] z I0 I1 ∧ (m_rs z I1 a0 (r_fp (q_mc (I0 (h_ad z a0 14)) (I0 (h_ad z a0 42) 0).toInt) (fun (s : tS) (x0 : Nat) => (r_fp (q_mc (I0 (h_ad z a0 14)) (I0 (h_ad z a0 42) 1).toInt) (fun (s : tS) (x1 : Nat) => (r_st2 (m_G z I0 a0 u_) (I0 (h_ad z a0 42) 0).toInt (I0 (h_ad z a0 42) 1).toInt x0 x1 s)) s (I0 a0 13).toInt.toNat)) s_ (I0 a0 13).toInt.toNat)) ∧ (∀ k : Nat, k < 0 → I1 (h_ad z a0 43) k = I0 (h_ad z a0 43) k)) (fun (I1 : tI) t => h_B E A z I1 L0 t) A) 0 0 A := by
  refine Met.ofW (cc := cX12_givers) (maxL := 4) (ret := none) (by decide) rfl ?_
  intro pr_ ev_ s m args below meth cd_ s₁ B hml hv
  obtain ⟨rfl, hE, hk, hX, hA, hK, hI, hR, hB0⟩ := hv
  have g : h_G h_so h_fk E A z I0 L0 s s.heap s.heap [] := ⟨hK, va_S.rf, hB0⟩
  have hF : h_F [(13, 44), (13, 45), (1339, 999), (1340, 999), (1343, 999)] z I0 I0 := h_F.rf
  have hx := B.exec
  have hb := B.bytes
  have hr := B.returns
  have hts := atoms_spec (ws := wsX12_givers) B.pre
  have hown : s.vm.findClass RX12 = some m.cls := findClass_of_methodNamed B.named
  have hlocks := B.notSynchronized
  have iX12 : ∀ w ∈ u_ws RX12 TX12 51, w ∈ wsX12_givers := by decide +kernel
  have hl := lv_entry ([.ref a0, .int 0, .int 2]) (n := 4) (Nat.le_of_ble_eq_true rfl)
  rw [lg_entry_eq]
  generalize (lg_sl ([.ref a0, .int 0, .int 2]) ++ List.replicate (4 - (lg_sl ([.ref a0, .int 0, .int 2])).length) Slot.unset).toArray = ls at hl ⊢
  have hl : lv_has ls 4 [(0, .ref a0), (1, .int 0), (2, .int 2)] := hl
  obtain ⟨tc, rtc, ttc⟩ := hR.at a0 42 t_a0 (rfl : h_rs 13 42 = some (1342, false)) (by decide)
  have atc : h_ad z a0 42 = tc := h_ad.at rtc
  obtain ⟨tg, rtg, ttg⟩ := hR.at a0 43 t_a0 (rfl : h_rs 13 43 = some (1343, false)) (by decide)
  have atg : h_ad z a0 43 = tg := h_ad.at rtg
  obtain ⟨cb, rcb, tcb⟩ := hR.at a0 14 t_a0 (rfl : h_rs 13 14 = some (1314, false)) (by decide)
  have acb : h_ad z a0 14 = cb := h_ad.at rcb
  obtain ⟨f0_12, ef0_12⟩ : ∃ v : Int32, v = I0 a0 12 := ⟨_, rfl⟩
  have qf0_12 : (I0 a0 12).toInt = f0_12.toInt := congrArg Int32.toInt ef0_12.symm
  have jf0_12 := hI.rd a0 12 t_a0 ef0_12 (rfl : h_bd 13 12 = (0, 9))
  obtain ⟨f0_13, ef0_13⟩ : ∃ v : Int32, v = I0 a0 13 := ⟨_, rfl⟩
  have qf0_13 : (I0 a0 13).toInt = f0_13.toInt := congrArg Int32.toInt ef0_13.symm
  have jf0_13 := hI.rd a0 13 t_a0 ef0_13 (rfl : h_bd 13 13 = (0, 60))
  obtain ⟨hr0, hob, hpb, hwb, hun⟩ := id hmp
  rw [qf0_13] at hg
  rw [atg] at hg
  obtain ⟨c0, ec0⟩ : ∃ v : Int32, v = I0 tc 0 := ⟨_, rfl⟩
  have ekc0 : I0 tc (0 : Int32).toNatClampNeg = c0 := by rw [show (0 : Int32).toNatClampNeg = 0 by decide]; exact ec0.symm
  have jc0 := hI.rd tc 0 ttc ec0 (rfl : h_bd 1342 _ = (0, 7))
  obtain ⟨c1, ec1⟩ : ∃ v : Int32, v = I0 tc 1 := ⟨_, rfl⟩
  have ekc1 : I0 tc (1 : Int32).toNatClampNeg = c1 := by rw [show (1 : Int32).toNatClampNeg = 1 by decide]; exact ec1.symm
  have jc1 := hI.rd tc 1 ttc ec1 (rfl : h_bd 1342 _ = (0, 7))
  obtain ⟨MG, eMG⟩ : ∃ f : Int → Nat → Nat → Int, f = m_G z I0 a0 u_ := ⟨_, rfl⟩
  refine lv_iload_n hx hb dX12_givers_0 rfl (lv_at hl 1 rfl) ?_
  refine lv_iload_n hx hb dX12_givers_1 rfl (lv_at hl 2 rfl) ?_
  refine lv_icmp_ne (tgt := 11) hx hb dX12_givers_2 (by decide) (fun _ => ?_) (fun h => absurd h (by decide))
  refine lv_iconst (v := 0) hx hb dX12_givers_11 (by decide) ?_
  refine lv_istore_n (lv' := [(3, .int 0), (0, .ref a0), (1, .int 0), (2, .int 2)]) hx hb dX12_givers_12 rfl hl (by decide) rfl (fun ls hl => ?_)
  have loop13_0 : ∀ (n : Nat) (I3 : tI) (H : Heap) (locs : List Loc) (ls : Array Slot) (v2 : Int32), h_G h_so h_fk E A z I3 L0 s s.heap H locs → h_I z I3 → h_F [(13, 44), (13, 45), (1339, 999), (1340, 999), (1343, 999)] z I0 I3 → lv_has ls 4 [(0, .ref a0), (1, .int 0), (2, .int 2), (3, .int v2)] → (0 ≤ v2.toInt ∧ v2.toInt ≤ 60) → h_F [(13, 44), (13, 45), (1339, 999), (1340, 999), (1343, 999)] z I0 I3 → (m_rs z I3 a0 (r_fp (q_mc (I0 cb) c0.toInt) (fun (s : tS) (x0 : Nat) => (r_fp (q_mc (I0 cb) c1.toInt) (fun (s : tS) (x1 : Nat) => (r_st2 MG c0.toInt c1.toInt x0 x1 s)) s f0_13.toInt.toNat)) s_ (v2.toInt).toNat)) → (v2.toInt ≤ f0_13.toInt) → (60 - v2.toInt) < (n : Int) → W pr_ l ev_ (headSpec wsX12_givers ({ frames := 9, cells := 0, slots := 0, locals := 576 })).room s m ([.ref a0, .int 0, .int 2] : List Value).toArray below meth cd_ H locs 0 0 (MQ below (va_Qv (fun (I1 : tI) => h_I z I1 ∧ h_F [(13, 44), (13, 45), (1339, 999), (1340, 999), (1343, 999)] z I0 I1 ∧ (m_rs z I1 a0 (r_fp (q_mc (I0 (h_ad z a0 14)) (I0 (h_ad z a0 42) 0).toInt) (fun (s : tS) (x0 : Nat) => (r_fp (q_mc (I0 (h_ad z a0 14)) (I0 (h_ad z a0 42) 1).toInt) (fun (s : tS) (x1 : Nat) => (r_st2 (m_G z I0 a0 u_) (I0 (h_ad z a0 42) 0).toInt (I0 (h_ad z a0 42) 1).toInt x0 x1 s)) s (I0 a0 13).toInt.toNat)) s_ (I0 a0 13).toInt.toNat)) ∧ (∀ k : Nat, k < 0 → I1 (h_ad z a0 43) k = I0 (h_ad z a0 43) k)) (fun (I1 : tI) t => h_B E A z I1 L0 t) A) ([.ref a0, .int 0, .int 2] : List Value).toArray s 0 0 A) (F0 m 13 ls []) := by
    intro n
    induction n with
    | zero => intro I3 H locs ls v2 g hI hF hl jv2 hL13 hx13_0 hx13_1 hn; exact absurd hn (by omega)
    | succ n ih13 =>
      intro I3 H locs ls v2 g hI hF hl jv2 hL13 hx13_0 hx13_1 hn
      have kv : v2.toNatClampNeg = v2.toInt.toNat := h_keq rfl (by omega) (by omega)
      refine lv_iload_n hx hb dX12_givers_13 rfl (lv_at hl 3 rfl) ?_
      refine lv_aload_n hx hb dX12_givers_14 rfl (lv_at hl 0 rfl) ?_
      refine h_get (v := .int f0_13) hx hb hts iX12 hown g t_a0 (by decide) so_13 rfl 13 (by decide) (hts (.fieldLink RX12 202 "CapLeagueModel" "players" "I") (by decide +kernel)) rfl dX12_givers_15 (congrArg Value.int ((h_F.at hL13 t_a0 rfl).trans (ef0_13.symm))) ?_
      refine lv_icmp_ge (tgt := 72) hx hb dX12_givers_18 (by decide) (fun c4 => ?_) (fun c4 => ?_)
      · have ic4 := (xi_le c4 rfl rfl : f0_13.toInt ≤ v2.toInt)
        have hS := g.2.1
        exact W.vret hx hb hr (fun t ht hW => ⟨⟨I3, rfl, ⟨hI, hF, ⟨(by rw [acb, atc, ← ec0, ← ec1, ← ef0_13, ← eMG]; have h9 := hx13_0; rw [show (v2.toInt).toNat = f0_13.toInt.toNat by omega] at h9; exact h9), (fun k hk => absurd hk (Nat.not_lt_zero k))⟩⟩, h_ret g ht⟩, hS.F ht⟩) hS.2.2 dX12_givers_72
      · have ic4 := (xi_nle c4 rfl rfl : v2.toInt < f0_13.toInt)
        refine lv_aload_n hx hb dX12_givers_21 rfl (lv_at hl 0 rfl) ?_
        refine h_get (v := .ref cb) hx hb hts iX12 hown g t_a0 (by decide) so_13 rfl 14 (by decide) (hts (.fieldLink RX12 25 "CapLeagueModel" "clubOf" "[I") (by decide +kernel)) rfl dX12_givers_22 (by show va_rf (z.R a0 14) = _; rw [rcb]; rfl) ?_
        refine lv_iload_n hx hb dX12_givers_25 rfl (lv_at hl 3 rfl) ?_
        refine h_ald hx hb g tcb (by decide) so_1314 (xi_in (by omega) (by omega)) dX12_givers_26 ?_
        refine lv_topi (fun v5 ev5 => ?_)
        have jv5 := hI.rd cb v2.toNatClampNeg tcb ev5 (rfl : h_bd 1314 _ = ((-1), 7))
        have gv5 : I0 cb v2.toInt.toNat = v5 := by rw [← kv, ev5]; exact (hF.at tcb rfl).symm
        refine lv_aload_n hx hb dX12_givers_27 rfl (lv_at hl 0 rfl) ?_
        refine h_get (v := .ref tc) hx hb hts iX12 hown g t_a0 (by decide) so_13 rfl 42 (by decide) (hts (.fieldLink RX12 97 "CapLeagueModel" "triedClub" "[I") (by decide +kernel)) rfl dX12_givers_28 (by show va_rf (z.R a0 42) = _; rw [rtc]; rfl) ?_
        refine lv_iload_n hx hb dX12_givers_31 rfl (lv_at hl 1 rfl) ?_
        refine h_ald hx hb g ttc (by decide) so_1342 (by unfold vp_in; decide) dX12_givers_32 ?_
        refine xw_i ((h_F.at hL13 ttc rfl).trans (ekc0)) ?_
        refine lv_icmp_ne (tgt := 66) hx hb dX12_givers_33 (by decide) (fun c6 => ?_) (fun c6 => ?_)
        · have ic6 := (xi_ne c6 rfl rfl : v5.toInt ≠ c0.toInt)
          obtain ⟨v7, ev7⟩ : ∃ z : Int32, z = v2 + 1 := ⟨_, rfl⟩
          have jv7 : v7.toInt = v2.toInt + 1 := xi_add ev7 rfl (by decide) (by omega) (by omega)
          refine lv_iinc (v := v7) (lv' := [(3, .int v7), (0, .ref a0), (1, .int 0), (2, .int 2)]) hx hb dX12_givers_66 hl (k := 3) rfl (by rw [ev7]; rfl) (by decide) rfl (fun ls hl => ?_)
          refine lv_goto (tgt := 13) hx hb dX12_givers_69 (by decide) ?_
          exact ih13 I3 _ _ _ v7 g hI hF (lv_sub hl [1, 2, 3, 0] rfl) (by omega) (h_F.call (h_F.rf : h_F [(13, 44), (13, 45), (1339, 999), (1340, 999), (1343, 999)] z I0 I0) hL13 rfl) (by rw [show (v7.toInt).toNat = v2.toInt.toNat + 1 by omega, r_fp_n (q_mc_n (by rw [gv5]; omega))]; exact hx13_0) (by omega) (by omega)
        · have ic6 := (xi_eq c6 rfl rfl : v5.toInt = c0.toInt)
          refine lv_aload_n hx hb dX12_givers_36 rfl (lv_at hl 0 rfl) ?_
          refine lv_iload_n hx hb dX12_givers_37 rfl (lv_at hl 3 rfl) ?_
          refine lv_aload_n hx hb dX12_givers_38 rfl (lv_at hl 0 rfl) ?_
          refine h_get (v := .int f0_12) hx hb hts iX12 hown g t_a0 (by decide) so_13 rfl 12 (by decide) (hts (.fieldLink RX12 187 "CapLeagueModel" "clock" "I") (by decide +kernel)) rfl dX12_givers_39 (congrArg Value.int ((h_F.at hL13 t_a0 rfl).trans (ef0_12.symm))) ?_
          refine vp_callSi (W.runV (As := [.int v2, .int f0_12]) (rest := []) ⟨hx, hb, hml, hown, hts⟩ (tX12_isUnderB l E X A z I3 L0 a0 t_a0 v2 (v2.toInt) rfl (by omega) f0_12 (f0_12.toInt) rfl) (cwV 2 hts gX12_givers_X12_isUnder rfl rfl rfl (by decide +kernel) ⟨Nat.le_of_ble_eq_true rfl, Nat.le_of_ble_eq_true rfl⟩) ⟨h_blind _ _ _ _ _ _ _, h_recv g t_a0 (by decide) so_13 (q := (RX12, TX12, 51)) rfl, h_pre _ hE hk hX hA hI hR g⟩ rfl rfl hl.1 rfl (lv_room (Nat.le_of_ble_eq_true rfl)) dX12_givers_42 ⟨Nat.le_of_ble_eq_true rfl, Nat.le_of_ble_eq_true rfl⟩) (fun rh8 h8 => ?_)
          obtain ⟨h8, h8p0⟩ := h8
          refine lv_if_ne (tgt := 51) hx hb dX12_givers_45 (by decide) (fun c9 => ?_) (fun c9 => ?_)
          · have ic9 := (xi_ne c9 rfl (by decide) : rh8.toInt ≠ 0)
            refine lv_aload_n hx hb dX12_givers_51 rfl (lv_at hl 0 rfl) ?_
            refine h_get (v := .ref tg) hx hb hts iX12 hown g t_a0 (by decide) so_13 rfl 43 (by decide) (hts (.fieldLink RX12 100 "CapLeagueModel" "triedGives" "[I") (by decide +kernel)) rfl dX12_givers_52 (by show va_rf (z.R a0 43) = _; rw [rtg]; rfl) ?_
            refine lv_iload_n hx hb dX12_givers_55 rfl (lv_at hl 1 rfl) ?_
            refine lv_iload_n hx hb dX12_givers_56 rfl (lv_at hl 3 rfl) ?_
            refine h_ast hx hb g ttg (by decide) so_1343 (by unfold vp_in; decide) dX12_givers_57 (fun I10 H locs eI10 g => ?_)
            have hI := hI.wr eI10 ttg (rfl : h_bd 1343 _ = (0, 59)) (by omega) (by omega)
            have hF := hF.wr eI10 ttg rfl
            refine lv_aload_n hx hb dX12_givers_58 rfl (lv_at hl 0 rfl) ?_
            refine lv_iload_n hx hb dX12_givers_59 rfl (lv_at hl 1 rfl) ?_
            refine lv_iconst (v := 1) hx hb dX12_givers_60 (by decide) ?_
            refine lv_iadd hx hb dX12_givers_61 ?_
            refine xw_i (v := 1) (by decide) ?_
            refine lv_iload_n hx hb dX12_givers_62 rfl (lv_at hl 2 rfl) ?_
            refine va_callv (va_runV (As := [.int 1, .int 2]) (rest := []) ⟨hx, hb, hml, hown, hts⟩ (tX12_givers21R l E X A z I10 L0 a0 t_a0 (u_) (hmp.F hR t_a0 (h_F.wr (h_F.call (h_F.rf : h_F [(13, 44), (13, 45), (1339, 999), (1340, 999), (1343, 999)] z I0 I0) hL13 rfl) eI10 ttg rfl) (by decide)) (fun i hi => by rcases (show i = 0 by omega) with rfl; exact (by rw [show I10 a0 13 = f0_13 from (h_n1 eI10 t_a0 ttg (by decide)).trans ((h_F.at hL13 t_a0 rfl).trans (ef0_13.symm)), atg]; have h9 := h_n0 eI10; rw [show (0 : Int32).toNatClampNeg = 0 by decide] at h9; rw [h9]; omega)) (r_fp (q_mc (I0 cb) c0.toInt) (fun (s : tS) (x0 : Nat) => (r_fp (q_mc (I0 cb) c1.toInt) (fun (s : tS) (x1 : Nat) => (r_st2 MG c0.toInt c1.toInt x0 x1 s)) s f0_13.toInt.toNat)) s_ v2.toInt.toNat) (hx13_0.F hR t_a0 (h_F.wr (h_F.rf : h_F [(1343, 999)] z I3 I3) eI10 ttg rfl) rfl rfl (fun _ => rfl) (fun _ => rfl))) (cwV 2 hts gX12_givers_X12_givers rfl rfl rfl (by decide +kernel) ⟨Nat.le_of_ble_eq_true rfl, Nat.le_of_ble_eq_true rfl⟩) ⟨h_blind _ _ _ _ _ _ _, h_recv g t_a0 (by decide) so_13 (q := (RX12, TX12, 51)) rfl, h_pre _ hE hk hX hA hI hR g⟩ rfl rfl hl.1 rfl (lv_room (Nat.le_of_ble_eq_true rfl)) dX12_givers_63 ⟨Nat.le_of_ble_eq_true rfl, Nat.le_of_ble_eq_true rfl⟩) g.2.1 (fun q _ h => h) (fun q h => h) (fun I12 t H1 locs ht hvm h11 hB hz1 hk1 hS => ?_)
            obtain ⟨hI, fh11, h11⟩ := h11
            replace g := h_after g hB ht hS
            generalize H1 = H at g
            clear hB hk1 hz1 ht hvm hS
            have hF := hF.call fh11 rfl
            obtain ⟨h11p0, h11p1⟩ := h11
            rw [m_G_F hR t_a0 (h_F.wr (h_F.call (h_F.rf : h_F [(13, 44), (13, 45), (1339, 999), (1340, 999), (1343, 999)] z I0 I0) hL13 rfl) eI10 ttg rfl) (by decide) u_, ← eMG, show I10 (h_ad z a0 14) = I0 (h_ad z a0 14) from m_F hR t_a0 (h_F.wr (h_F.call (h_F.rf : h_F [(13, 44), (13, 45), (1339, 999), (1340, 999), (1343, 999)] z I0 I0) hL13 rfl) eI10 ttg rfl) (by decide) 14 1314 rfl (by decide) (by decide) (by decide), acb, show I10 a0 13 = f0_13 from (h_n1 eI10 t_a0 ttg (by decide)).trans ((h_F.at hL13 t_a0 rfl).trans (ef0_13.symm)), atc, atg, show I10 tc 0 = c0 from (by have h9 := (h_n1 eI10 ttc ttg (by decide)).trans ((h_F.at hL13 ttc rfl).trans (ekc0)); rw [show (0 : Int32).toNatClampNeg = 0 by decide] at h9; exact h9), show I10 tc 1 = c1 from (by have h9 := (h_n1 eI10 ttc ttg (by decide)).trans ((h_F.at hL13 ttc rfl).trans (ekc1)); rw [show (1 : Int32).toNatClampNeg = 1 by decide] at h9; exact h9), show I10 tg 0 = v2 from (by have h9 := h_n0 eI10; rw [show (0 : Int32).toNatClampNeg = 0 by decide] at h9; exact h9)] at h11p0
            obtain ⟨v13, ev13⟩ : ∃ z : Int32, z = v2 + 1 := ⟨_, rfl⟩
            have jv13 : v13.toInt = v2.toInt + 1 := xi_add ev13 rfl (by decide) (by omega) (by omega)
            refine lv_iinc (v := v13) (lv' := [(3, .int v13), (0, .ref a0), (1, .int 0), (2, .int 2)]) hx hb dX12_givers_66 hl (k := 3) rfl (by rw [ev13]; rfl) (by decide) rfl (fun ls hl => ?_)
            refine lv_goto (tgt := 13) hx hb dX12_givers_69 (by decide) ?_
            exact ih13 I12 _ _ _ v13 g hI hF (lv_sub hl [1, 2, 3, 0] rfl) (by omega) (h_F.call (h_F.wr (h_F.call (h_F.rf : h_F [(13, 44), (13, 45), (1339, 999), (1340, 999), (1343, 999)] z I0 I0) hL13 rfl) eI10 ttg rfl) fh11 rfl) (by rw [show (v13.toInt).toNat = v2.toInt.toNat + 1 by omega, r_fp_y (q_mc_y (by rw [gv5]; omega))]; exact h11p0) (by omega) (by omega)
          · have ic9 := (xi_eq c9 rfl (by decide) : rh8.toInt = 0)
            have hu9 := hun v2.toInt.toNat (by rw [qf0_13]; omega) (by rw [acb, gv5]; omega)
            rcases h8p0 with q | q; exact absurd q.1 (by omega); exact absurd (by rw [show I3 (h_ad z a0 14) = I0 (h_ad z a0 14) from m_F hR t_a0 hF (by decide) 14 1314 rfl (by decide) (by decide) (by decide), show I3 (h_ad z a0 15) = I0 (h_ad z a0 15) from m_F hR t_a0 hF (by decide) 15 1315 rfl (by decide) (by decide) (by decide), show I3 (h_ad z a0 16) = I0 (h_ad z a0 16) from m_F hR t_a0 hF (by decide) 16 1316 rfl (by decide) (by decide) (by decide), show I3 (h_ad z a0 20) = I0 (h_ad z a0 20) from m_F hR t_a0 hF (by decide) 20 1320 rfl (by decide) (by decide) (by decide), show I3 (h_ad z a0 21) = I0 (h_ad z a0 21) from m_F hR t_a0 hF (by decide) 21 1321 rfl (by decide) (by decide) (by decide)]; rw [ef0_12]; exact hu9) q.2
  have kc14 : (0 : Int32).toInt = 0 := by decide
  exact loop13_0 _ I0 _ _ _ (0) g hI hF (lv_sub hl [1, 2, 3, 0] rfl) ⟨by decide, by decide⟩ (h_F.rf : h_F [(13, 44), (13, 45), (1339, 999), (1340, 999), (1343, 999)] z I0 I0) (hs) (by omega) (show (60 - (0 : Int)) < (((60 - (0 : Int)).toNat + 1 : Nat) : Int) by omega)
set_option maxHeartbeats 4000000 in
set_option maxRecDepth 100000 in
theorem tX12_givers33R (l : Launch) (E : tE) (X : tX) (A : Nat → Prop) (z : tZ) (I0 : tI) (L0 : tL) (a0 : Nat) (t_a0 : z.ty a0 = 13) (u_ : Nat → Int) (hmp : m_pre z I0 a0 u_) (hg : ∀ i : Nat, i < 3 → (I0 (h_ad z a0 43) i).toInt < (I0 a0 13).toInt) (s_ : tS) (hs : m_rs z I0 a0 s_) : Met l yX12_givers wsX12_givers ({ frames := 7, cells := 0, slots := 0, locals := 448 }) (va_Pc [.ref a0, .int 3, .int 3] (h_P E X A z I0 L0)) (va_Qv (fun (I1 : tI) => h_I z I1 ∧ h_F [(13, 44), (13, 45), (1339, 999), (1340, 999)] z I0 I1 ∧ (m_rs z I1 a0 (r_st3 (m_G z I0 a0 u_) (I0 (h_ad z a0 42) 0).toInt (I0 (h_ad z a0 42) 1).toInt (I0 (h_ad z a0 42) 2).toInt (I0 (h_ad z a0 43) 0).toInt.toNat (I0 (h_ad z a0 43) 1).toInt.toNat (I0 (h_ad z a0 43) 2).toInt.toNat s_))) (fun (I1 : tI) t => h_B E A z I1 L0 t) A) 0 0 A := by
  refine Met.ofW (cc := cX12_givers) (maxL := 4) (ret := none) (by decide) rfl ?_
  intro pr_ ev_ s m args below meth cd_ s₁ B hml hv
  obtain ⟨rfl, hE, hk, hX, hA, hK, hI, hR, hB0⟩ := hv
  have g : h_G h_so h_fk E A z I0 L0 s s.heap s.heap [] := ⟨hK, va_S.rf, hB0⟩
  have hF : h_F [(13, 44), (13, 45), (1339, 999), (1340, 999)] z I0 I0 := h_F.rf
  have hx := B.exec
  have hb := B.bytes
  have hr := B.returns
  have hts := atoms_spec (ws := wsX12_givers) B.pre
  have hown : s.vm.findClass RX12 = some m.cls := findClass_of_methodNamed B.named
  have hlocks := B.notSynchronized
  have iX12 : ∀ w ∈ u_ws RX12 TX12 51, w ∈ wsX12_givers := by decide +kernel
  have hl := lv_entry ([.ref a0, .int 3, .int 3]) (n := 4) (Nat.le_of_ble_eq_true rfl)
  rw [lg_entry_eq]
  generalize (lg_sl ([.ref a0, .int 3, .int 3]) ++ List.replicate (4 - (lg_sl ([.ref a0, .int 3, .int 3])).length) Slot.unset).toArray = ls at hl ⊢
  have hl : lv_has ls 4 [(0, .ref a0), (1, .int 3), (2, .int 3)] := hl
  refine lv_iload_n hx hb dX12_givers_0 rfl (lv_at hl 1 rfl) ?_
  refine lv_iload_n hx hb dX12_givers_1 rfl (lv_at hl 2 rfl) ?_
  refine lv_icmp_ne (tgt := 11) hx hb dX12_givers_2 (by decide) (fun h => absurd (by decide) h) (fun _ => ?_)
  refine lv_aload_n hx hb dX12_givers_5 rfl (lv_at hl 0 rfl) ?_
  refine lv_iload_n hx hb dX12_givers_6 rfl (lv_at hl 2 rfl) ?_
  refine va_callv (va_runV (As := [.int 3]) (rest := []) ⟨hx, hb, hml, hown, hts⟩ (tX12_tryRing3R l E X A z I0 L0 a0 t_a0 (u_) (hmp) (hg) (s_) (hs)) (cwV 1 hts gX12_givers_X12_tryRing rfl rfl rfl (by decide +kernel) ⟨Nat.le_of_ble_eq_true rfl, Nat.le_of_ble_eq_true rfl⟩) ⟨h_blind _ _ _ _ _ _ _, h_recv g t_a0 (by decide) so_13 (q := (RX12, TX12, 51)) rfl, h_pre _ hE hk hX hA hI hR g⟩ rfl rfl hl.1 rfl (lv_room (Nat.le_of_ble_eq_true rfl)) dX12_givers_7 ⟨Nat.le_of_ble_eq_true rfl, Nat.le_of_ble_eq_true rfl⟩) g.2.1 (fun q _ h => h) (fun q h => h) (fun I3 t H1 locs ht hvm h2 hB hz1 hk1 hS => ?_)
  obtain ⟨hI, fh2, h2⟩ := h2
  replace g := h_after g hB ht hS
  generalize H1 = H at g
  clear hB hk1 hz1 ht hvm hS
  have hF := hF.call fh2 rfl
  have h2p0 := h2
  have hS := g.2.1
  exact W.vret hx hb hr (fun t ht hW => ⟨⟨I3, rfl, ⟨hI, hF, (h2p0)⟩, h_ret g ht⟩, hS.F ht⟩) hS.2.2 dX12_givers_10
set_option maxHeartbeats 4000000 in
set_option maxRecDepth 100000 in
theorem tX12_givers32R (l : Launch) (E : tE) (X : tX) (A : Nat → Prop) (z : tZ) (I0 : tI) (L0 : tL) (a0 : Nat) (t_a0 : z.ty a0 = 13) (u_ : Nat → Int) (hmp : m_pre z I0 a0 u_) (hg : ∀ i : Nat, i < 2 → (I0 (h_ad z a0 43) i).toInt < (I0 a0 13).toInt) (s_ : tS) (hs : m_rs z I0 a0 s_) : Met l yX12_givers wsX12_givers ({ frames := 8, cells := 0, slots := 0, locals := 512 }) (va_Pc [.ref a0, .int 2, .int 3] (h_P E X A z I0 L0)) (va_Qv (fun (I1 : tI) => h_I z I1 ∧ h_F [(13, 44), (13, 45), (1339, 999), (1340, 999), (1343, 999)] z I0 I1 ∧ (m_rs z I1 a0 (r_fp (q_mc (I0 (h_ad z a0 14)) (I0 (h_ad z a0 42) 2).toInt) (fun (s : tS) (x2 : Nat) => (r_st3 (m_G z I0 a0 u_) (I0 (h_ad z a0 42) 0).toInt (I0 (h_ad z a0 42) 1).toInt (I0 (h_ad z a0 42) 2).toInt (I0 (h_ad z a0 43) 0).toInt.toNat (I0 (h_ad z a0 43) 1).toInt.toNat x2 s)) s_ (I0 a0 13).toInt.toNat)) ∧ (∀ k : Nat, k < 2 → I1 (h_ad z a0 43) k = I0 (h_ad z a0 43) k)) (fun (I1 : tI) t => h_B E A z I1 L0 t) A) 0 0 A := by
  refine Met.ofW (cc := cX12_givers) (maxL := 4) (ret := none) (by decide) rfl ?_
  intro pr_ ev_ s m args below meth cd_ s₁ B hml hv
  obtain ⟨rfl, hE, hk, hX, hA, hK, hI, hR, hB0⟩ := hv
  have g : h_G h_so h_fk E A z I0 L0 s s.heap s.heap [] := ⟨hK, va_S.rf, hB0⟩
  have hF : h_F [(13, 44), (13, 45), (1339, 999), (1340, 999), (1343, 999)] z I0 I0 := h_F.rf
  have hx := B.exec
  have hb := B.bytes
  have hr := B.returns
  have hts := atoms_spec (ws := wsX12_givers) B.pre
  have hown : s.vm.findClass RX12 = some m.cls := findClass_of_methodNamed B.named
  have hlocks := B.notSynchronized
  have iX12 : ∀ w ∈ u_ws RX12 TX12 51, w ∈ wsX12_givers := by decide +kernel
  have hl := lv_entry ([.ref a0, .int 2, .int 3]) (n := 4) (Nat.le_of_ble_eq_true rfl)
  rw [lg_entry_eq]
  generalize (lg_sl ([.ref a0, .int 2, .int 3]) ++ List.replicate (4 - (lg_sl ([.ref a0, .int 2, .int 3])).length) Slot.unset).toArray = ls at hl ⊢
  have hl : lv_has ls 4 [(0, .ref a0), (1, .int 2), (2, .int 3)] := hl
  obtain ⟨tc, rtc, ttc⟩ := hR.at a0 42 t_a0 (rfl : h_rs 13 42 = some (1342, false)) (by decide)
  have atc : h_ad z a0 42 = tc := h_ad.at rtc
  obtain ⟨tg, rtg, ttg⟩ := hR.at a0 43 t_a0 (rfl : h_rs 13 43 = some (1343, false)) (by decide)
  have atg : h_ad z a0 43 = tg := h_ad.at rtg
  obtain ⟨cb, rcb, tcb⟩ := hR.at a0 14 t_a0 (rfl : h_rs 13 14 = some (1314, false)) (by decide)
  have acb : h_ad z a0 14 = cb := h_ad.at rcb
  obtain ⟨f0_12, ef0_12⟩ : ∃ v : Int32, v = I0 a0 12 := ⟨_, rfl⟩
  have qf0_12 : (I0 a0 12).toInt = f0_12.toInt := congrArg Int32.toInt ef0_12.symm
  have jf0_12 := hI.rd a0 12 t_a0 ef0_12 (rfl : h_bd 13 12 = (0, 9))
  obtain ⟨f0_13, ef0_13⟩ : ∃ v : Int32, v = I0 a0 13 := ⟨_, rfl⟩
  have qf0_13 : (I0 a0 13).toInt = f0_13.toInt := congrArg Int32.toInt ef0_13.symm
  have jf0_13 := hI.rd a0 13 t_a0 ef0_13 (rfl : h_bd 13 13 = (0, 60))
  obtain ⟨hr0, hob, hpb, hwb, hun⟩ := id hmp
  rw [qf0_13] at hg
  rw [atg] at hg
  obtain ⟨c0, ec0⟩ : ∃ v : Int32, v = I0 tc 0 := ⟨_, rfl⟩
  have ekc0 : I0 tc (0 : Int32).toNatClampNeg = c0 := by rw [show (0 : Int32).toNatClampNeg = 0 by decide]; exact ec0.symm
  have jc0 := hI.rd tc 0 ttc ec0 (rfl : h_bd 1342 _ = (0, 7))
  obtain ⟨c1, ec1⟩ : ∃ v : Int32, v = I0 tc 1 := ⟨_, rfl⟩
  have ekc1 : I0 tc (1 : Int32).toNatClampNeg = c1 := by rw [show (1 : Int32).toNatClampNeg = 1 by decide]; exact ec1.symm
  have jc1 := hI.rd tc 1 ttc ec1 (rfl : h_bd 1342 _ = (0, 7))
  obtain ⟨c2, ec2⟩ : ∃ v : Int32, v = I0 tc 2 := ⟨_, rfl⟩
  have ekc2 : I0 tc (2 : Int32).toNatClampNeg = c2 := by rw [show (2 : Int32).toNatClampNeg = 2 by decide]; exact ec2.symm
  have jc2 := hI.rd tc 2 ttc ec2 (rfl : h_bd 1342 _ = (0, 7))
  obtain ⟨g0, eg0⟩ : ∃ v : Int32, v = I0 tg 0 := ⟨_, rfl⟩
  have ekg0 : I0 tg (0 : Int32).toNatClampNeg = g0 := by rw [show (0 : Int32).toNatClampNeg = 0 by decide]; exact eg0.symm
  have jg0 := hI.rd tg 0 ttg eg0 (rfl : h_bd 1343 _ = (0, 59))
  obtain ⟨g1, eg1⟩ : ∃ v : Int32, v = I0 tg 1 := ⟨_, rfl⟩
  have ekg1 : I0 tg (1 : Int32).toNatClampNeg = g1 := by rw [show (1 : Int32).toNatClampNeg = 1 by decide]; exact eg1.symm
  have jg1 := hI.rd tg 1 ttg eg1 (rfl : h_bd 1343 _ = (0, 59))
  obtain ⟨MG, eMG⟩ : ∃ f : Int → Nat → Nat → Int, f = m_G z I0 a0 u_ := ⟨_, rfl⟩
  refine lv_iload_n hx hb dX12_givers_0 rfl (lv_at hl 1 rfl) ?_
  refine lv_iload_n hx hb dX12_givers_1 rfl (lv_at hl 2 rfl) ?_
  refine lv_icmp_ne (tgt := 11) hx hb dX12_givers_2 (by decide) (fun _ => ?_) (fun h => absurd h (by decide))
  refine lv_iconst (v := 0) hx hb dX12_givers_11 (by decide) ?_
  refine lv_istore_n (lv' := [(3, .int 0), (0, .ref a0), (1, .int 2), (2, .int 3)]) hx hb dX12_givers_12 rfl hl (by decide) rfl (fun ls hl => ?_)
  have loop13_0 : ∀ (n : Nat) (I3 : tI) (H : Heap) (locs : List Loc) (ls : Array Slot) (v2 : Int32), h_G h_so h_fk E A z I3 L0 s s.heap H locs → h_I z I3 → h_F [(13, 44), (13, 45), (1339, 999), (1340, 999), (1343, 999)] z I0 I3 → lv_has ls 4 [(0, .ref a0), (1, .int 2), (2, .int 3), (3, .int v2)] → (0 ≤ v2.toInt ∧ v2.toInt ≤ 60) → h_F [(13, 44), (13, 45), (1339, 999), (1340, 999), (1343, 999)] z I0 I3 → (m_rs z I3 a0 (r_fp (q_mc (I0 cb) c2.toInt) (fun (s : tS) (x2 : Nat) => (r_st3 MG c0.toInt c1.toInt c2.toInt g0.toInt.toNat g1.toInt.toNat x2 s)) s_ (v2.toInt).toNat)) → (v2.toInt ≤ f0_13.toInt) → (I3 tg (0 : Int32).toNatClampNeg = g0) → (I3 tg (1 : Int32).toNatClampNeg = g1) → (60 - v2.toInt) < (n : Int) → W pr_ l ev_ (headSpec wsX12_givers ({ frames := 8, cells := 0, slots := 0, locals := 512 })).room s m ([.ref a0, .int 2, .int 3] : List Value).toArray below meth cd_ H locs 0 0 (MQ below (va_Qv (fun (I1 : tI) => h_I z I1 ∧ h_F [(13, 44), (13, 45), (1339, 999), (1340, 999), (1343, 999)] z I0 I1 ∧ (m_rs z I1 a0 (r_fp (q_mc (I0 (h_ad z a0 14)) (I0 (h_ad z a0 42) 2).toInt) (fun (s : tS) (x2 : Nat) => (r_st3 (m_G z I0 a0 u_) (I0 (h_ad z a0 42) 0).toInt (I0 (h_ad z a0 42) 1).toInt (I0 (h_ad z a0 42) 2).toInt (I0 (h_ad z a0 43) 0).toInt.toNat (I0 (h_ad z a0 43) 1).toInt.toNat x2 s)) s_ (I0 a0 13).toInt.toNat)) ∧ (∀ k : Nat, k < 2 → I1 (h_ad z a0 43) k = I0 (h_ad z a0 43) k)) (fun (I1 : tI) t => h_B E A z I1 L0 t) A) ([.ref a0, .int 2, .int 3] : List Value).toArray s 0 0 A) (F0 m 13 ls []) := by
    intro n
    induction n with
    | zero => intro I3 H locs ls v2 g hI hF hl jv2 hL13 hx13_0 hx13_1 hx13_2 hx13_3 hn; exact absurd hn (by omega)
    | succ n ih13 =>
      intro I3 H locs ls v2 g hI hF hl jv2 hL13 hx13_0 hx13_1 hx13_2 hx13_3 hn
      have kv : v2.toNatClampNeg = v2.toInt.toNat := h_keq rfl (by omega) (by omega)
      refine lv_iload_n hx hb dX12_givers_13 rfl (lv_at hl 3 rfl) ?_
      refine lv_aload_n hx hb dX12_givers_14 rfl (lv_at hl 0 rfl) ?_
      refine h_get (v := .int f0_13) hx hb hts iX12 hown g t_a0 (by decide) so_13 rfl 13 (by decide) (hts (.fieldLink RX12 202 "CapLeagueModel" "players" "I") (by decide +kernel)) rfl dX12_givers_15 (congrArg Value.int ((h_F.at hL13 t_a0 rfl).trans (ef0_13.symm))) ?_
      refine lv_icmp_ge (tgt := 72) hx hb dX12_givers_18 (by decide) (fun c4 => ?_) (fun c4 => ?_)
      · have ic4 := (xi_le c4 rfl rfl : f0_13.toInt ≤ v2.toInt)
        have hS := g.2.1
        exact W.vret hx hb hr (fun t ht hW => ⟨⟨I3, rfl, ⟨hI, hF, ⟨(by rw [acb, atc, atg, ← ec0, ← ec1, ← ec2, ← eg0, ← eg1, ← ef0_13, ← eMG]; have h9 := hx13_0; rw [show (v2.toInt).toNat = f0_13.toInt.toNat by omega] at h9; exact h9), (fun k hk => by rw [atg]; rcases (show k = 0 ∨ k = 1 by omega) with rfl | rfl; exact (by rw [← eg0]; have h9 := hx13_2; rw [show (0 : Int32).toNatClampNeg = 0 by decide] at h9; exact h9); exact (by rw [← eg1]; have h9 := hx13_3; rw [show (1 : Int32).toNatClampNeg = 1 by decide] at h9; exact h9))⟩⟩, h_ret g ht⟩, hS.F ht⟩) hS.2.2 dX12_givers_72
      · have ic4 := (xi_nle c4 rfl rfl : v2.toInt < f0_13.toInt)
        refine lv_aload_n hx hb dX12_givers_21 rfl (lv_at hl 0 rfl) ?_
        refine h_get (v := .ref cb) hx hb hts iX12 hown g t_a0 (by decide) so_13 rfl 14 (by decide) (hts (.fieldLink RX12 25 "CapLeagueModel" "clubOf" "[I") (by decide +kernel)) rfl dX12_givers_22 (by show va_rf (z.R a0 14) = _; rw [rcb]; rfl) ?_
        refine lv_iload_n hx hb dX12_givers_25 rfl (lv_at hl 3 rfl) ?_
        refine h_ald hx hb g tcb (by decide) so_1314 (xi_in (by omega) (by omega)) dX12_givers_26 ?_
        refine lv_topi (fun v5 ev5 => ?_)
        have jv5 := hI.rd cb v2.toNatClampNeg tcb ev5 (rfl : h_bd 1314 _ = ((-1), 7))
        have gv5 : I0 cb v2.toInt.toNat = v5 := by rw [← kv, ev5]; exact (hF.at tcb rfl).symm
        refine lv_aload_n hx hb dX12_givers_27 rfl (lv_at hl 0 rfl) ?_
        refine h_get (v := .ref tc) hx hb hts iX12 hown g t_a0 (by decide) so_13 rfl 42 (by decide) (hts (.fieldLink RX12 97 "CapLeagueModel" "triedClub" "[I") (by decide +kernel)) rfl dX12_givers_28 (by show va_rf (z.R a0 42) = _; rw [rtc]; rfl) ?_
        refine lv_iload_n hx hb dX12_givers_31 rfl (lv_at hl 1 rfl) ?_
        refine h_ald hx hb g ttc (by decide) so_1342 (by unfold vp_in; decide) dX12_givers_32 ?_
        refine xw_i ((h_F.at hL13 ttc rfl).trans (ekc2)) ?_
        refine lv_icmp_ne (tgt := 66) hx hb dX12_givers_33 (by decide) (fun c6 => ?_) (fun c6 => ?_)
        · have ic6 := (xi_ne c6 rfl rfl : v5.toInt ≠ c2.toInt)
          obtain ⟨v7, ev7⟩ : ∃ z : Int32, z = v2 + 1 := ⟨_, rfl⟩
          have jv7 : v7.toInt = v2.toInt + 1 := xi_add ev7 rfl (by decide) (by omega) (by omega)
          refine lv_iinc (v := v7) (lv' := [(3, .int v7), (0, .ref a0), (1, .int 2), (2, .int 3)]) hx hb dX12_givers_66 hl (k := 3) rfl (by rw [ev7]; rfl) (by decide) rfl (fun ls hl => ?_)
          refine lv_goto (tgt := 13) hx hb dX12_givers_69 (by decide) ?_
          exact ih13 I3 _ _ _ v7 g hI hF (lv_sub hl [1, 2, 3, 0] rfl) (by omega) (h_F.call (h_F.rf : h_F [(13, 44), (13, 45), (1339, 999), (1340, 999), (1343, 999)] z I0 I0) hL13 rfl) (by rw [show (v7.toInt).toNat = v2.toInt.toNat + 1 by omega, r_fp_n (q_mc_n (by rw [gv5]; omega))]; exact hx13_0) (by omega) (hx13_2) (hx13_3) (by omega)
        · have ic6 := (xi_eq c6 rfl rfl : v5.toInt = c2.toInt)
          refine lv_aload_n hx hb dX12_givers_36 rfl (lv_at hl 0 rfl) ?_
          refine lv_iload_n hx hb dX12_givers_37 rfl (lv_at hl 3 rfl) ?_
          refine lv_aload_n hx hb dX12_givers_38 rfl (lv_at hl 0 rfl) ?_
          refine h_get (v := .int f0_12) hx hb hts iX12 hown g t_a0 (by decide) so_13 rfl 12 (by decide) (hts (.fieldLink RX12 187 "CapLeagueModel" "clock" "I") (by decide +kernel)) rfl dX12_givers_39 (congrArg Value.int ((h_F.at hL13 t_a0 rfl).trans (ef0_12.symm))) ?_
          refine vp_callSi (W.runV (As := [.int v2, .int f0_12]) (rest := []) ⟨hx, hb, hml, hown, hts⟩ (tX12_isUnderB l E X A z I3 L0 a0 t_a0 v2 (v2.toInt) rfl (by omega) f0_12 (f0_12.toInt) rfl) (cwV 2 hts gX12_givers_X12_isUnder rfl rfl rfl (by decide +kernel) ⟨Nat.le_of_ble_eq_true rfl, Nat.le_of_ble_eq_true rfl⟩) ⟨h_blind _ _ _ _ _ _ _, h_recv g t_a0 (by decide) so_13 (q := (RX12, TX12, 51)) rfl, h_pre _ hE hk hX hA hI hR g⟩ rfl rfl hl.1 rfl (lv_room (Nat.le_of_ble_eq_true rfl)) dX12_givers_42 ⟨Nat.le_of_ble_eq_true rfl, Nat.le_of_ble_eq_true rfl⟩) (fun rh8 h8 => ?_)
          obtain ⟨h8, h8p0⟩ := h8
          refine lv_if_ne (tgt := 51) hx hb dX12_givers_45 (by decide) (fun c9 => ?_) (fun c9 => ?_)
          · have ic9 := (xi_ne c9 rfl (by decide) : rh8.toInt ≠ 0)
            refine lv_aload_n hx hb dX12_givers_51 rfl (lv_at hl 0 rfl) ?_
            refine h_get (v := .ref tg) hx hb hts iX12 hown g t_a0 (by decide) so_13 rfl 43 (by decide) (hts (.fieldLink RX12 100 "CapLeagueModel" "triedGives" "[I") (by decide +kernel)) rfl dX12_givers_52 (by show va_rf (z.R a0 43) = _; rw [rtg]; rfl) ?_
            refine lv_iload_n hx hb dX12_givers_55 rfl (lv_at hl 1 rfl) ?_
            refine lv_iload_n hx hb dX12_givers_56 rfl (lv_at hl 3 rfl) ?_
            refine h_ast hx hb g ttg (by decide) so_1343 (by unfold vp_in; decide) dX12_givers_57 (fun I10 H locs eI10 g => ?_)
            have hI := hI.wr eI10 ttg (rfl : h_bd 1343 _ = (0, 59)) (by omega) (by omega)
            have hF := hF.wr eI10 ttg rfl
            refine lv_aload_n hx hb dX12_givers_58 rfl (lv_at hl 0 rfl) ?_
            refine lv_iload_n hx hb dX12_givers_59 rfl (lv_at hl 1 rfl) ?_
            refine lv_iconst (v := 1) hx hb dX12_givers_60 (by decide) ?_
            refine lv_iadd hx hb dX12_givers_61 ?_
            refine xw_i (v := 3) (by decide) ?_
            refine lv_iload_n hx hb dX12_givers_62 rfl (lv_at hl 2 rfl) ?_
            refine va_callv (va_runV (As := [.int 3, .int 3]) (rest := []) ⟨hx, hb, hml, hown, hts⟩ (tX12_givers33R l E X A z I10 L0 a0 t_a0 (u_) (hmp.F hR t_a0 (h_F.wr (h_F.call (h_F.rf : h_F [(13, 44), (13, 45), (1339, 999), (1340, 999), (1343, 999)] z I0 I0) hL13 rfl) eI10 ttg rfl) (by decide)) (fun i hi => by rcases (show i = 0 ∨ i = 1 ∨ i = 2 by omega) with rfl | rfl | rfl; exact (by rw [show I10 a0 13 = f0_13 from (h_n1 eI10 t_a0 ttg (by decide)).trans ((h_F.at hL13 t_a0 rfl).trans (ef0_13.symm)), atg]; have h9 := (h_n2 eI10 (by decide)).trans (hx13_2); rw [show (0 : Int32).toNatClampNeg = 0 by decide] at h9; rw [h9]; exact (by rw [eg0]; exact hg 0 (by decide))); exact (by rw [show I10 a0 13 = f0_13 from (h_n1 eI10 t_a0 ttg (by decide)).trans ((h_F.at hL13 t_a0 rfl).trans (ef0_13.symm)), atg]; have h9 := (h_n2 eI10 (by decide)).trans (hx13_3); rw [show (1 : Int32).toNatClampNeg = 1 by decide] at h9; rw [h9]; exact (by rw [eg1]; exact hg 1 (by decide))); exact (by rw [show I10 a0 13 = f0_13 from (h_n1 eI10 t_a0 ttg (by decide)).trans ((h_F.at hL13 t_a0 rfl).trans (ef0_13.symm)), atg]; have h9 := h_n0 eI10; rw [show (2 : Int32).toNatClampNeg = 2 by decide] at h9; rw [h9]; omega)) (r_fp (q_mc (I0 cb) c2.toInt) (fun (s : tS) (x2 : Nat) => (r_st3 MG c0.toInt c1.toInt c2.toInt g0.toInt.toNat g1.toInt.toNat x2 s)) s_ v2.toInt.toNat) (hx13_0.F hR t_a0 (h_F.wr (h_F.rf : h_F [(1343, 999)] z I3 I3) eI10 ttg rfl) rfl rfl (fun _ => rfl) (fun _ => rfl))) (cwV 2 hts gX12_givers_X12_givers rfl rfl rfl (by decide +kernel) ⟨Nat.le_of_ble_eq_true rfl, Nat.le_of_ble_eq_true rfl⟩) ⟨h_blind _ _ _ _ _ _ _, h_recv g t_a0 (by decide) so_13 (q := (RX12, TX12, 51)) rfl, h_pre _ hE hk hX hA hI hR g⟩ rfl rfl hl.1 rfl (lv_room (Nat.le_of_ble_eq_true rfl)) dX12_givers_63 ⟨Nat.le_of_ble_eq_true rfl, Nat.le_of_ble_eq_true rfl⟩) g.2.1 (fun q _ h => h) (fun q h => h) (fun I12 t H1 locs ht hvm h11 hB hz1 hk1 hS => ?_)
            obtain ⟨hI, fh11, h11⟩ := h11
            replace g := h_after g hB ht hS
            generalize H1 = H at g
            clear hB hk1 hz1 ht hvm hS
            have hF := hF.call fh11 rfl
            have h11p0 := h11
            rw [m_G_F hR t_a0 (h_F.wr (h_F.call (h_F.rf : h_F [(13, 44), (13, 45), (1339, 999), (1340, 999), (1343, 999)] z I0 I0) hL13 rfl) eI10 ttg rfl) (by decide) u_, ← eMG, atc, atg, show I10 tc 0 = c0 from (by have h9 := (h_n1 eI10 ttc ttg (by decide)).trans ((h_F.at hL13 ttc rfl).trans (ekc0)); rw [show (0 : Int32).toNatClampNeg = 0 by decide] at h9; exact h9), show I10 tc 1 = c1 from (by have h9 := (h_n1 eI10 ttc ttg (by decide)).trans ((h_F.at hL13 ttc rfl).trans (ekc1)); rw [show (1 : Int32).toNatClampNeg = 1 by decide] at h9; exact h9), show I10 tc 2 = c2 from (by have h9 := (h_n1 eI10 ttc ttg (by decide)).trans ((h_F.at hL13 ttc rfl).trans (ekc2)); rw [show (2 : Int32).toNatClampNeg = 2 by decide] at h9; exact h9), show I10 tg 0 = g0 from (by have h9 := (h_n2 eI10 (by decide)).trans (hx13_2); rw [show (0 : Int32).toNatClampNeg = 0 by decide] at h9; exact h9), show I10 tg 1 = g1 from (by have h9 := (h_n2 eI10 (by decide)).trans (hx13_3); rw [show (1 : Int32).toNatClampNeg = 1 by decide] at h9; exact h9), show I10 tg 2 = v2 from (by have h9 := h_n0 eI10; rw [show (2 : Int32).toNatClampNeg = 2 by decide] at h9; exact h9)] at h11p0
            obtain ⟨v13, ev13⟩ : ∃ z : Int32, z = v2 + 1 := ⟨_, rfl⟩
            have jv13 : v13.toInt = v2.toInt + 1 := xi_add ev13 rfl (by decide) (by omega) (by omega)
            refine lv_iinc (v := v13) (lv' := [(3, .int v13), (0, .ref a0), (1, .int 2), (2, .int 3)]) hx hb dX12_givers_66 hl (k := 3) rfl (by rw [ev13]; rfl) (by decide) rfl (fun ls hl => ?_)
            refine lv_goto (tgt := 13) hx hb dX12_givers_69 (by decide) ?_
            exact ih13 I12 _ _ _ v13 g hI hF (lv_sub hl [1, 2, 3, 0] rfl) (by omega) (h_F.call (h_F.wr (h_F.call (h_F.rf : h_F [(13, 44), (13, 45), (1339, 999), (1340, 999), (1343, 999)] z I0 I0) hL13 rfl) eI10 ttg rfl) fh11 rfl) (by rw [show (v13.toInt).toNat = v2.toInt.toNat + 1 by omega, r_fp_y (q_mc_y (by rw [gv5]; omega))]; exact h11p0) (by omega) ((h_F.at fh11 ttg rfl).trans ((h_n2 eI10 (by decide)).trans (hx13_2))) ((h_F.at fh11 ttg rfl).trans ((h_n2 eI10 (by decide)).trans (hx13_3))) (by omega)
          · have ic9 := (xi_eq c9 rfl (by decide) : rh8.toInt = 0)
            have hu9 := hun v2.toInt.toNat (by rw [qf0_13]; omega) (by rw [acb, gv5]; omega)
            rcases h8p0 with q | q; exact absurd q.1 (by omega); exact absurd (by rw [show I3 (h_ad z a0 14) = I0 (h_ad z a0 14) from m_F hR t_a0 hF (by decide) 14 1314 rfl (by decide) (by decide) (by decide), show I3 (h_ad z a0 15) = I0 (h_ad z a0 15) from m_F hR t_a0 hF (by decide) 15 1315 rfl (by decide) (by decide) (by decide), show I3 (h_ad z a0 16) = I0 (h_ad z a0 16) from m_F hR t_a0 hF (by decide) 16 1316 rfl (by decide) (by decide) (by decide), show I3 (h_ad z a0 20) = I0 (h_ad z a0 20) from m_F hR t_a0 hF (by decide) 20 1320 rfl (by decide) (by decide) (by decide), show I3 (h_ad z a0 21) = I0 (h_ad z a0 21) from m_F hR t_a0 hF (by decide) 21 1321 rfl (by decide) (by decide) (by decide)]; rw [ef0_12]; exact hu9) q.2
  have kc14 : (0 : Int32).toInt = 0 := by decide
  exact loop13_0 _ I0 _ _ _ (0) g hI hF (lv_sub hl [1, 2, 3, 0] rfl) ⟨by decide, by decide⟩ (h_F.rf : h_F [(13, 44), (13, 45), (1339, 999), (1340, 999), (1343, 999)] z I0 I0) (hs) (by omega) (ekg0) (ekg1) (show (60 - (0 : Int)) < (((60 - (0 : Int)).toNat + 1 : Nat) : Int) by omega)
set_option maxHeartbeats 4000000 in
set_option maxRecDepth 100000 in
theorem tX12_givers31R (l : Launch) (E : tE) (X : tX) (A : Nat → Prop) (z : tZ) (I0 : tI) (L0 : tL) (a0 : Nat) (t_a0 : z.ty a0 = 13) (u_ : Nat → Int) (hmp : m_pre z I0 a0 u_) (hg : ∀ i : Nat, i < 1 → (I0 (h_ad z a0 43) i).toInt < (I0 a0 13).toInt) (s_ : tS) (hs : m_rs z I0 a0 s_) : Met l yX12_givers wsX12_givers ({ frames := 9, cells := 0, slots := 0, locals := 576 }) (va_Pc [.ref a0, .int 1, .int 3] (h_P E X A z I0 L0)) (va_Qv (fun (I1 : tI) => h_I z I1 ∧ h_F [(13, 44), (13, 45), (1339, 999), (1340, 999), (1343, 999)] z I0 I1 ∧ (m_rs z I1 a0 (r_fp (q_mc (I0 (h_ad z a0 14)) (I0 (h_ad z a0 42) 1).toInt) (fun (s : tS) (x1 : Nat) => (r_fp (q_mc (I0 (h_ad z a0 14)) (I0 (h_ad z a0 42) 2).toInt) (fun (s : tS) (x2 : Nat) => (r_st3 (m_G z I0 a0 u_) (I0 (h_ad z a0 42) 0).toInt (I0 (h_ad z a0 42) 1).toInt (I0 (h_ad z a0 42) 2).toInt (I0 (h_ad z a0 43) 0).toInt.toNat x1 x2 s)) s (I0 a0 13).toInt.toNat)) s_ (I0 a0 13).toInt.toNat)) ∧ (∀ k : Nat, k < 1 → I1 (h_ad z a0 43) k = I0 (h_ad z a0 43) k)) (fun (I1 : tI) t => h_B E A z I1 L0 t) A) 0 0 A := by
  refine Met.ofW (cc := cX12_givers) (maxL := 4) (ret := none) (by decide) rfl ?_
  intro pr_ ev_ s m args below meth cd_ s₁ B hml hv
  obtain ⟨rfl, hE, hk, hX, hA, hK, hI, hR, hB0⟩ := hv
  have g : h_G h_so h_fk E A z I0 L0 s s.heap s.heap [] := ⟨hK, va_S.rf, hB0⟩
  have hF : h_F [(13, 44), (13, 45), (1339, 999), (1340, 999), (1343, 999)] z I0 I0 := h_F.rf
  have hx := B.exec
  have hb := B.bytes
  have hr := B.returns
  have hts := atoms_spec (ws := wsX12_givers) B.pre
  have hown : s.vm.findClass RX12 = some m.cls := findClass_of_methodNamed B.named
  have hlocks := B.notSynchronized
  have iX12 : ∀ w ∈ u_ws RX12 TX12 51, w ∈ wsX12_givers := by decide +kernel
  have hl := lv_entry ([.ref a0, .int 1, .int 3]) (n := 4) (Nat.le_of_ble_eq_true rfl)
  rw [lg_entry_eq]
  generalize (lg_sl ([.ref a0, .int 1, .int 3]) ++ List.replicate (4 - (lg_sl ([.ref a0, .int 1, .int 3])).length) Slot.unset).toArray = ls at hl ⊢
  have hl : lv_has ls 4 [(0, .ref a0), (1, .int 1), (2, .int 3)] := hl
  obtain ⟨tc, rtc, ttc⟩ := hR.at a0 42 t_a0 (rfl : h_rs 13 42 = some (1342, false)) (by decide)
  have atc : h_ad z a0 42 = tc := h_ad.at rtc
  obtain ⟨tg, rtg, ttg⟩ := hR.at a0 43 t_a0 (rfl : h_rs 13 43 = some (1343, false)) (by decide)
  have atg : h_ad z a0 43 = tg := h_ad.at rtg
  obtain ⟨cb, rcb, tcb⟩ := hR.at a0 14 t_a0 (rfl : h_rs 13 14 = some (1314, false)) (by decide)
  have acb : h_ad z a0 14 = cb := h_ad.at rcb
  obtain ⟨f0_12, ef0_12⟩ : ∃ v : Int32, v = I0 a0 12 := ⟨_, rfl⟩
  have qf0_12 : (I0 a0 12).toInt = f0_12.toInt := congrArg Int32.toInt ef0_12.symm
  have jf0_12 := hI.rd a0 12 t_a0 ef0_12 (rfl : h_bd 13 12 = (0, 9))
  obtain ⟨f0_13, ef0_13⟩ : ∃ v : Int32, v = I0 a0 13 := ⟨_, rfl⟩
  have qf0_13 : (I0 a0 13).toInt = f0_13.toInt := congrArg Int32.toInt ef0_13.symm
  have jf0_13 := hI.rd a0 13 t_a0 ef0_13 (rfl : h_bd 13 13 = (0, 60))
  obtain ⟨hr0, hob, hpb, hwb, hun⟩ := id hmp
  rw [qf0_13] at hg
  rw [atg] at hg
  obtain ⟨c0, ec0⟩ : ∃ v : Int32, v = I0 tc 0 := ⟨_, rfl⟩
  have ekc0 : I0 tc (0 : Int32).toNatClampNeg = c0 := by rw [show (0 : Int32).toNatClampNeg = 0 by decide]; exact ec0.symm
  have jc0 := hI.rd tc 0 ttc ec0 (rfl : h_bd 1342 _ = (0, 7))
  obtain ⟨c1, ec1⟩ : ∃ v : Int32, v = I0 tc 1 := ⟨_, rfl⟩
  have ekc1 : I0 tc (1 : Int32).toNatClampNeg = c1 := by rw [show (1 : Int32).toNatClampNeg = 1 by decide]; exact ec1.symm
  have jc1 := hI.rd tc 1 ttc ec1 (rfl : h_bd 1342 _ = (0, 7))
  obtain ⟨c2, ec2⟩ : ∃ v : Int32, v = I0 tc 2 := ⟨_, rfl⟩
  have ekc2 : I0 tc (2 : Int32).toNatClampNeg = c2 := by rw [show (2 : Int32).toNatClampNeg = 2 by decide]; exact ec2.symm
  have jc2 := hI.rd tc 2 ttc ec2 (rfl : h_bd 1342 _ = (0, 7))
  obtain ⟨g0, eg0⟩ : ∃ v : Int32, v = I0 tg 0 := ⟨_, rfl⟩
  have ekg0 : I0 tg (0 : Int32).toNatClampNeg = g0 := by rw [show (0 : Int32).toNatClampNeg = 0 by decide]; exact eg0.symm
  have jg0 := hI.rd tg 0 ttg eg0 (rfl : h_bd 1343 _ = (0, 59))
  obtain ⟨MG, eMG⟩ : ∃ f : Int → Nat → Nat → Int, f = m_G z I0 a0 u_ := ⟨_, rfl⟩
  refine lv_iload_n hx hb dX12_givers_0 rfl (lv_at hl 1 rfl) ?_
  refine lv_iload_n hx hb dX12_givers_1 rfl (lv_at hl 2 rfl) ?_
  refine lv_icmp_ne (tgt := 11) hx hb dX12_givers_2 (by decide) (fun _ => ?_) (fun h => absurd h (by decide))
  refine lv_iconst (v := 0) hx hb dX12_givers_11 (by decide) ?_
  refine lv_istore_n (lv' := [(3, .int 0), (0, .ref a0), (1, .int 1), (2, .int 3)]) hx hb dX12_givers_12 rfl hl (by decide) rfl (fun ls hl => ?_)
  have loop13_0 : ∀ (n : Nat) (I3 : tI) (H : Heap) (locs : List Loc) (ls : Array Slot) (v2 : Int32), h_G h_so h_fk E A z I3 L0 s s.heap H locs → h_I z I3 → h_F [(13, 44), (13, 45), (1339, 999), (1340, 999), (1343, 999)] z I0 I3 → lv_has ls 4 [(0, .ref a0), (1, .int 1), (2, .int 3), (3, .int v2)] → (0 ≤ v2.toInt ∧ v2.toInt ≤ 60) → h_F [(13, 44), (13, 45), (1339, 999), (1340, 999), (1343, 999)] z I0 I3 → (m_rs z I3 a0 (r_fp (q_mc (I0 cb) c1.toInt) (fun (s : tS) (x1 : Nat) => (r_fp (q_mc (I0 cb) c2.toInt) (fun (s : tS) (x2 : Nat) => (r_st3 MG c0.toInt c1.toInt c2.toInt g0.toInt.toNat x1 x2 s)) s f0_13.toInt.toNat)) s_ (v2.toInt).toNat)) → (v2.toInt ≤ f0_13.toInt) → (I3 tg (0 : Int32).toNatClampNeg = g0) → (60 - v2.toInt) < (n : Int) → W pr_ l ev_ (headSpec wsX12_givers ({ frames := 9, cells := 0, slots := 0, locals := 576 })).room s m ([.ref a0, .int 1, .int 3] : List Value).toArray below meth cd_ H locs 0 0 (MQ below (va_Qv (fun (I1 : tI) => h_I z I1 ∧ h_F [(13, 44), (13, 45), (1339, 999), (1340, 999), (1343, 999)] z I0 I1 ∧ (m_rs z I1 a0 (r_fp (q_mc (I0 (h_ad z a0 14)) (I0 (h_ad z a0 42) 1).toInt) (fun (s : tS) (x1 : Nat) => (r_fp (q_mc (I0 (h_ad z a0 14)) (I0 (h_ad z a0 42) 2).toInt) (fun (s : tS) (x2 : Nat) => (r_st3 (m_G z I0 a0 u_) (I0 (h_ad z a0 42) 0).toInt (I0 (h_ad z a0 42) 1).toInt (I0 (h_ad z a0 42) 2).toInt (I0 (h_ad z a0 43) 0).toInt.toNat x1 x2 s)) s (I0 a0 13).toInt.toNat)) s_ (I0 a0 13).toInt.toNat)) ∧ (∀ k : Nat, k < 1 → I1 (h_ad z a0 43) k = I0 (h_ad z a0 43) k)) (fun (I1 : tI) t => h_B E A z I1 L0 t) A) ([.ref a0, .int 1, .int 3] : List Value).toArray s 0 0 A) (F0 m 13 ls []) := by
    intro n
    induction n with
    | zero => intro I3 H locs ls v2 g hI hF hl jv2 hL13 hx13_0 hx13_1 hx13_2 hn; exact absurd hn (by omega)
    | succ n ih13 =>
      intro I3 H locs ls v2 g hI hF hl jv2 hL13 hx13_0 hx13_1 hx13_2 hn
      have kv : v2.toNatClampNeg = v2.toInt.toNat := h_keq rfl (by omega) (by omega)
      refine lv_iload_n hx hb dX12_givers_13 rfl (lv_at hl 3 rfl) ?_
      refine lv_aload_n hx hb dX12_givers_14 rfl (lv_at hl 0 rfl) ?_
      refine h_get (v := .int f0_13) hx hb hts iX12 hown g t_a0 (by decide) so_13 rfl 13 (by decide) (hts (.fieldLink RX12 202 "CapLeagueModel" "players" "I") (by decide +kernel)) rfl dX12_givers_15 (congrArg Value.int ((h_F.at hL13 t_a0 rfl).trans (ef0_13.symm))) ?_
      refine lv_icmp_ge (tgt := 72) hx hb dX12_givers_18 (by decide) (fun c4 => ?_) (fun c4 => ?_)
      · have ic4 := (xi_le c4 rfl rfl : f0_13.toInt ≤ v2.toInt)
        have hS := g.2.1
        exact W.vret hx hb hr (fun t ht hW => ⟨⟨I3, rfl, ⟨hI, hF, ⟨(by rw [acb, atc, atg, ← ec0, ← ec1, ← ec2, ← eg0, ← ef0_13, ← eMG]; have h9 := hx13_0; rw [show (v2.toInt).toNat = f0_13.toInt.toNat by omega] at h9; exact h9), (fun k hk => by rw [atg]; rcases (show k = 0 by omega) with rfl; exact (by rw [← eg0]; have h9 := hx13_2; rw [show (0 : Int32).toNatClampNeg = 0 by decide] at h9; exact h9))⟩⟩, h_ret g ht⟩, hS.F ht⟩) hS.2.2 dX12_givers_72
      · have ic4 := (xi_nle c4 rfl rfl : v2.toInt < f0_13.toInt)
        refine lv_aload_n hx hb dX12_givers_21 rfl (lv_at hl 0 rfl) ?_
        refine h_get (v := .ref cb) hx hb hts iX12 hown g t_a0 (by decide) so_13 rfl 14 (by decide) (hts (.fieldLink RX12 25 "CapLeagueModel" "clubOf" "[I") (by decide +kernel)) rfl dX12_givers_22 (by show va_rf (z.R a0 14) = _; rw [rcb]; rfl) ?_
        refine lv_iload_n hx hb dX12_givers_25 rfl (lv_at hl 3 rfl) ?_
        refine h_ald hx hb g tcb (by decide) so_1314 (xi_in (by omega) (by omega)) dX12_givers_26 ?_
        refine lv_topi (fun v5 ev5 => ?_)
        have jv5 := hI.rd cb v2.toNatClampNeg tcb ev5 (rfl : h_bd 1314 _ = ((-1), 7))
        have gv5 : I0 cb v2.toInt.toNat = v5 := by rw [← kv, ev5]; exact (hF.at tcb rfl).symm
        refine lv_aload_n hx hb dX12_givers_27 rfl (lv_at hl 0 rfl) ?_
        refine h_get (v := .ref tc) hx hb hts iX12 hown g t_a0 (by decide) so_13 rfl 42 (by decide) (hts (.fieldLink RX12 97 "CapLeagueModel" "triedClub" "[I") (by decide +kernel)) rfl dX12_givers_28 (by show va_rf (z.R a0 42) = _; rw [rtc]; rfl) ?_
        refine lv_iload_n hx hb dX12_givers_31 rfl (lv_at hl 1 rfl) ?_
        refine h_ald hx hb g ttc (by decide) so_1342 (by unfold vp_in; decide) dX12_givers_32 ?_
        refine xw_i ((h_F.at hL13 ttc rfl).trans (ekc1)) ?_
        refine lv_icmp_ne (tgt := 66) hx hb dX12_givers_33 (by decide) (fun c6 => ?_) (fun c6 => ?_)
        · have ic6 := (xi_ne c6 rfl rfl : v5.toInt ≠ c1.toInt)
          obtain ⟨v7, ev7⟩ : ∃ z : Int32, z = v2 + 1 := ⟨_, rfl⟩
          have jv7 : v7.toInt = v2.toInt + 1 := xi_add ev7 rfl (by decide) (by omega) (by omega)
          refine lv_iinc (v := v7) (lv' := [(3, .int v7), (0, .ref a0), (1, .int 1), (2, .int 3)]) hx hb dX12_givers_66 hl (k := 3) rfl (by rw [ev7]; rfl) (by decide) rfl (fun ls hl => ?_)
          refine lv_goto (tgt := 13) hx hb dX12_givers_69 (by decide) ?_
          exact ih13 I3 _ _ _ v7 g hI hF (lv_sub hl [1, 2, 3, 0] rfl) (by omega) (h_F.call (h_F.rf : h_F [(13, 44), (13, 45), (1339, 999), (1340, 999), (1343, 999)] z I0 I0) hL13 rfl) (by rw [show (v7.toInt).toNat = v2.toInt.toNat + 1 by omega, r_fp_n (q_mc_n (by rw [gv5]; omega))]; exact hx13_0) (by omega) (hx13_2) (by omega)
        · have ic6 := (xi_eq c6 rfl rfl : v5.toInt = c1.toInt)
          refine lv_aload_n hx hb dX12_givers_36 rfl (lv_at hl 0 rfl) ?_
          refine lv_iload_n hx hb dX12_givers_37 rfl (lv_at hl 3 rfl) ?_
          refine lv_aload_n hx hb dX12_givers_38 rfl (lv_at hl 0 rfl) ?_
          refine h_get (v := .int f0_12) hx hb hts iX12 hown g t_a0 (by decide) so_13 rfl 12 (by decide) (hts (.fieldLink RX12 187 "CapLeagueModel" "clock" "I") (by decide +kernel)) rfl dX12_givers_39 (congrArg Value.int ((h_F.at hL13 t_a0 rfl).trans (ef0_12.symm))) ?_
          refine vp_callSi (W.runV (As := [.int v2, .int f0_12]) (rest := []) ⟨hx, hb, hml, hown, hts⟩ (tX12_isUnderB l E X A z I3 L0 a0 t_a0 v2 (v2.toInt) rfl (by omega) f0_12 (f0_12.toInt) rfl) (cwV 2 hts gX12_givers_X12_isUnder rfl rfl rfl (by decide +kernel) ⟨Nat.le_of_ble_eq_true rfl, Nat.le_of_ble_eq_true rfl⟩) ⟨h_blind _ _ _ _ _ _ _, h_recv g t_a0 (by decide) so_13 (q := (RX12, TX12, 51)) rfl, h_pre _ hE hk hX hA hI hR g⟩ rfl rfl hl.1 rfl (lv_room (Nat.le_of_ble_eq_true rfl)) dX12_givers_42 ⟨Nat.le_of_ble_eq_true rfl, Nat.le_of_ble_eq_true rfl⟩) (fun rh8 h8 => ?_)
          obtain ⟨h8, h8p0⟩ := h8
          refine lv_if_ne (tgt := 51) hx hb dX12_givers_45 (by decide) (fun c9 => ?_) (fun c9 => ?_)
          · have ic9 := (xi_ne c9 rfl (by decide) : rh8.toInt ≠ 0)
            refine lv_aload_n hx hb dX12_givers_51 rfl (lv_at hl 0 rfl) ?_
            refine h_get (v := .ref tg) hx hb hts iX12 hown g t_a0 (by decide) so_13 rfl 43 (by decide) (hts (.fieldLink RX12 100 "CapLeagueModel" "triedGives" "[I") (by decide +kernel)) rfl dX12_givers_52 (by show va_rf (z.R a0 43) = _; rw [rtg]; rfl) ?_
            refine lv_iload_n hx hb dX12_givers_55 rfl (lv_at hl 1 rfl) ?_
            refine lv_iload_n hx hb dX12_givers_56 rfl (lv_at hl 3 rfl) ?_
            refine h_ast hx hb g ttg (by decide) so_1343 (by unfold vp_in; decide) dX12_givers_57 (fun I10 H locs eI10 g => ?_)
            have hI := hI.wr eI10 ttg (rfl : h_bd 1343 _ = (0, 59)) (by omega) (by omega)
            have hF := hF.wr eI10 ttg rfl
            refine lv_aload_n hx hb dX12_givers_58 rfl (lv_at hl 0 rfl) ?_
            refine lv_iload_n hx hb dX12_givers_59 rfl (lv_at hl 1 rfl) ?_
            refine lv_iconst (v := 1) hx hb dX12_givers_60 (by decide) ?_
            refine lv_iadd hx hb dX12_givers_61 ?_
            refine xw_i (v := 2) (by decide) ?_
            refine lv_iload_n hx hb dX12_givers_62 rfl (lv_at hl 2 rfl) ?_
            refine va_callv (va_runV (As := [.int 2, .int 3]) (rest := []) ⟨hx, hb, hml, hown, hts⟩ (tX12_givers32R l E X A z I10 L0 a0 t_a0 (u_) (hmp.F hR t_a0 (h_F.wr (h_F.call (h_F.rf : h_F [(13, 44), (13, 45), (1339, 999), (1340, 999), (1343, 999)] z I0 I0) hL13 rfl) eI10 ttg rfl) (by decide)) (fun i hi => by rcases (show i = 0 ∨ i = 1 by omega) with rfl | rfl; exact (by rw [show I10 a0 13 = f0_13 from (h_n1 eI10 t_a0 ttg (by decide)).trans ((h_F.at hL13 t_a0 rfl).trans (ef0_13.symm)), atg]; have h9 := (h_n2 eI10 (by decide)).trans (hx13_2); rw [show (0 : Int32).toNatClampNeg = 0 by decide] at h9; rw [h9]; exact (by rw [eg0]; exact hg 0 (by decide))); exact (by rw [show I10 a0 13 = f0_13 from (h_n1 eI10 t_a0 ttg (by decide)).trans ((h_F.at hL13 t_a0 rfl).trans (ef0_13.symm)), atg]; have h9 := h_n0 eI10; rw [show (1 : Int32).toNatClampNeg = 1 by decide] at h9; rw [h9]; omega)) (r_fp (q_mc (I0 cb) c1.toInt) (fun (s : tS) (x1 : Nat) => (r_fp (q_mc (I0 cb) c2.toInt) (fun (s : tS) (x2 : Nat) => (r_st3 MG c0.toInt c1.toInt c2.toInt g0.toInt.toNat x1 x2 s)) s f0_13.toInt.toNat)) s_ v2.toInt.toNat) (hx13_0.F hR t_a0 (h_F.wr (h_F.rf : h_F [(1343, 999)] z I3 I3) eI10 ttg rfl) rfl rfl (fun _ => rfl) (fun _ => rfl))) (cwV 2 hts gX12_givers_X12_givers rfl rfl rfl (by decide +kernel) ⟨Nat.le_of_ble_eq_true rfl, Nat.le_of_ble_eq_true rfl⟩) ⟨h_blind _ _ _ _ _ _ _, h_recv g t_a0 (by decide) so_13 (q := (RX12, TX12, 51)) rfl, h_pre _ hE hk hX hA hI hR g⟩ rfl rfl hl.1 rfl (lv_room (Nat.le_of_ble_eq_true rfl)) dX12_givers_63 ⟨Nat.le_of_ble_eq_true rfl, Nat.le_of_ble_eq_true rfl⟩) g.2.1 (fun q _ h => h) (fun q h => h) (fun I12 t H1 locs ht hvm h11 hB hz1 hk1 hS => ?_)
            obtain ⟨hI, fh11, h11⟩ := h11
            replace g := h_after g hB ht hS
            generalize H1 = H at g
            clear hB hk1 hz1 ht hvm hS
            have hF := hF.call fh11 rfl
            obtain ⟨h11p0, h11p1⟩ := h11
            rw [m_G_F hR t_a0 (h_F.wr (h_F.call (h_F.rf : h_F [(13, 44), (13, 45), (1339, 999), (1340, 999), (1343, 999)] z I0 I0) hL13 rfl) eI10 ttg rfl) (by decide) u_, ← eMG, show I10 (h_ad z a0 14) = I0 (h_ad z a0 14) from m_F hR t_a0 (h_F.wr (h_F.call (h_F.rf : h_F [(13, 44), (13, 45), (1339, 999), (1340, 999), (1343, 999)] z I0 I0) hL13 rfl) eI10 ttg rfl) (by decide) 14 1314 rfl (by decide) (by decide) (by decide), acb, show I10 a0 13 = f0_13 from (h_n1 eI10 t_a0 ttg (by decide)).trans ((h_F.at hL13 t_a0 rfl).trans (ef0_13.symm)), atc, atg, show I10 tc 0 = c0 from (by have h9 := (h_n1 eI10 ttc ttg (by decide)).trans ((h_F.at hL13 ttc rfl).trans (ekc0)); rw [show (0 : Int32).toNatClampNeg = 0 by decide] at h9; exact h9), show I10 tc 1 = c1 from (by have h9 := (h_n1 eI10 ttc ttg (by decide)).trans ((h_F.at hL13 ttc rfl).trans (ekc1)); rw [show (1 : Int32).toNatClampNeg = 1 by decide] at h9; exact h9), show I10 tc 2 = c2 from (by have h9 := (h_n1 eI10 ttc ttg (by decide)).trans ((h_F.at hL13 ttc rfl).trans (ekc2)); rw [show (2 : Int32).toNatClampNeg = 2 by decide] at h9; exact h9), show I10 tg 0 = g0 from (by have h9 := (h_n2 eI10 (by decide)).trans (hx13_2); rw [show (0 : Int32).toNatClampNeg = 0 by decide] at h9; exact h9), show I10 tg 1 = v2 from (by have h9 := h_n0 eI10; rw [show (1 : Int32).toNatClampNeg = 1 by decide] at h9; exact h9)] at h11p0
            obtain ⟨v13, ev13⟩ : ∃ z : Int32, z = v2 + 1 := ⟨_, rfl⟩
            have jv13 : v13.toInt = v2.toInt + 1 := xi_add ev13 rfl (by decide) (by omega) (by omega)
            refine lv_iinc (v := v13) (lv' := [(3, .int v13), (0, .ref a0), (1, .int 1), (2, .int 3)]) hx hb dX12_givers_66 hl (k := 3) rfl (by rw [ev13]; rfl) (by decide) rfl (fun ls hl => ?_)
            refine lv_goto (tgt := 13) hx hb dX12_givers_69 (by decide) ?_
            exact ih13 I12 _ _ _ v13 g hI hF (lv_sub hl [1, 2, 3, 0] rfl) (by omega) (h_F.call (h_F.wr (h_F.call (h_F.rf : h_F [(13, 44), (13, 45), (1339, 999), (1340, 999), (1343, 999)] z I0 I0) hL13 rfl) eI10 ttg rfl) fh11 rfl) (by rw [show (v13.toInt).toNat = v2.toInt.toNat + 1 by omega, r_fp_y (q_mc_y (by rw [gv5]; omega))]; exact h11p0) (by omega) ((by have h9 := h11p1 0 (by decide); rw [atg] at h9; have h8 := (h_n2 eI10 (by decide)).trans (hx13_2); rw [show (0 : Int32).toNatClampNeg = 0 by decide] at h8 ⊢; exact h9.trans h8)) (by omega)
          · have ic9 := (xi_eq c9 rfl (by decide) : rh8.toInt = 0)
            have hu9 := hun v2.toInt.toNat (by rw [qf0_13]; omega) (by rw [acb, gv5]; omega)
            rcases h8p0 with q | q; exact absurd q.1 (by omega); exact absurd (by rw [show I3 (h_ad z a0 14) = I0 (h_ad z a0 14) from m_F hR t_a0 hF (by decide) 14 1314 rfl (by decide) (by decide) (by decide), show I3 (h_ad z a0 15) = I0 (h_ad z a0 15) from m_F hR t_a0 hF (by decide) 15 1315 rfl (by decide) (by decide) (by decide), show I3 (h_ad z a0 16) = I0 (h_ad z a0 16) from m_F hR t_a0 hF (by decide) 16 1316 rfl (by decide) (by decide) (by decide), show I3 (h_ad z a0 20) = I0 (h_ad z a0 20) from m_F hR t_a0 hF (by decide) 20 1320 rfl (by decide) (by decide) (by decide), show I3 (h_ad z a0 21) = I0 (h_ad z a0 21) from m_F hR t_a0 hF (by decide) 21 1321 rfl (by decide) (by decide) (by decide)]; rw [ef0_12]; exact hu9) q.2
  have kc14 : (0 : Int32).toInt = 0 := by decide
  exact loop13_0 _ I0 _ _ _ (0) g hI hF (lv_sub hl [1, 2, 3, 0] rfl) ⟨by decide, by decide⟩ (h_F.rf : h_F [(13, 44), (13, 45), (1339, 999), (1340, 999), (1343, 999)] z I0 I0) (hs) (by omega) (ekg0) (show (60 - (0 : Int)) < (((60 - (0 : Int)).toNat + 1 : Nat) : Int) by omega)
set_option maxHeartbeats 4000000 in
set_option maxRecDepth 100000 in
theorem tX12_givers30R (l : Launch) (E : tE) (X : tX) (A : Nat → Prop) (z : tZ) (I0 : tI) (L0 : tL) (a0 : Nat) (t_a0 : z.ty a0 = 13) (u_ : Nat → Int) (hmp : m_pre z I0 a0 u_) (hg : ∀ i : Nat, i < 0 → (I0 (h_ad z a0 43) i).toInt < (I0 a0 13).toInt) (s_ : tS) (hs : m_rs z I0 a0 s_) : Met l yX12_givers wsX12_givers ({ frames := 10, cells := 0, slots := 0, locals := 640 }) (va_Pc [.ref a0, .int 0, .int 3] (h_P E X A z I0 L0)) (va_Qv (fun (I1 : tI) => h_I z I1 ∧ h_F [(13, 44), (13, 45), (1339, 999), (1340, 999), (1343, 999)] z I0 I1 ∧ (m_rs z I1 a0 (r_fp (q_mc (I0 (h_ad z a0 14)) (I0 (h_ad z a0 42) 0).toInt) (fun (s : tS) (x0 : Nat) => (r_fp (q_mc (I0 (h_ad z a0 14)) (I0 (h_ad z a0 42) 1).toInt) (fun (s : tS) (x1 : Nat) => (r_fp (q_mc (I0 (h_ad z a0 14)) (I0 (h_ad z a0 42) 2).toInt) (fun (s : tS) (x2 : Nat) => (r_st3 (m_G z I0 a0 u_) (I0 (h_ad z a0 42) 0).toInt (I0 (h_ad z a0 42) 1).toInt (I0 (h_ad z a0 42) 2).toInt x0 x1 x2 s)) s (I0 a0 13).toInt.toNat)) s (I0 a0 13).toInt.toNat)) s_ (I0 a0 13).toInt.toNat)) ∧ (∀ k : Nat, k < 0 → I1 (h_ad z a0 43) k = I0 (h_ad z a0 43) k)) (fun (I1 : tI) t => h_B E A z I1 L0 t) A) 0 0 A := by
  refine Met.ofW (cc := cX12_givers) (maxL := 4) (ret := none) (by decide) rfl ?_
  intro pr_ ev_ s m args below meth cd_ s₁ B hml hv
  obtain ⟨rfl, hE, hk, hX, hA, hK, hI, hR, hB0⟩ := hv
  have g : h_G h_so h_fk E A z I0 L0 s s.heap s.heap [] := ⟨hK, va_S.rf, hB0⟩
  have hF : h_F [(13, 44), (13, 45), (1339, 999), (1340, 999), (1343, 999)] z I0 I0 := h_F.rf
  have hx := B.exec
  have hb := B.bytes
  have hr := B.returns
  have hts := atoms_spec (ws := wsX12_givers) B.pre
  have hown : s.vm.findClass RX12 = some m.cls := findClass_of_methodNamed B.named
  have hlocks := B.notSynchronized
  have iX12 : ∀ w ∈ u_ws RX12 TX12 51, w ∈ wsX12_givers := by decide +kernel
  have hl := lv_entry ([.ref a0, .int 0, .int 3]) (n := 4) (Nat.le_of_ble_eq_true rfl)
  rw [lg_entry_eq]
  generalize (lg_sl ([.ref a0, .int 0, .int 3]) ++ List.replicate (4 - (lg_sl ([.ref a0, .int 0, .int 3])).length) Slot.unset).toArray = ls at hl ⊢
  have hl : lv_has ls 4 [(0, .ref a0), (1, .int 0), (2, .int 3)] := hl
  obtain ⟨tc, rtc, ttc⟩ := hR.at a0 42 t_a0 (rfl : h_rs 13 42 = some (1342, false)) (by decide)
  have atc : h_ad z a0 42 = tc := h_ad.at rtc
  obtain ⟨tg, rtg, ttg⟩ := hR.at a0 43 t_a0 (rfl : h_rs 13 43 = some (1343, false)) (by decide)
  have atg : h_ad z a0 43 = tg := h_ad.at rtg
  obtain ⟨cb, rcb, tcb⟩ := hR.at a0 14 t_a0 (rfl : h_rs 13 14 = some (1314, false)) (by decide)
  have acb : h_ad z a0 14 = cb := h_ad.at rcb
  obtain ⟨f0_12, ef0_12⟩ : ∃ v : Int32, v = I0 a0 12 := ⟨_, rfl⟩
  have qf0_12 : (I0 a0 12).toInt = f0_12.toInt := congrArg Int32.toInt ef0_12.symm
  have jf0_12 := hI.rd a0 12 t_a0 ef0_12 (rfl : h_bd 13 12 = (0, 9))
  obtain ⟨f0_13, ef0_13⟩ : ∃ v : Int32, v = I0 a0 13 := ⟨_, rfl⟩
  have qf0_13 : (I0 a0 13).toInt = f0_13.toInt := congrArg Int32.toInt ef0_13.symm
  have jf0_13 := hI.rd a0 13 t_a0 ef0_13 (rfl : h_bd 13 13 = (0, 60))
  obtain ⟨hr0, hob, hpb, hwb, hun⟩ := id hmp
  rw [qf0_13] at hg
  rw [atg] at hg
  obtain ⟨c0, ec0⟩ : ∃ v : Int32, v = I0 tc 0 := ⟨_, rfl⟩
  have ekc0 : I0 tc (0 : Int32).toNatClampNeg = c0 := by rw [show (0 : Int32).toNatClampNeg = 0 by decide]; exact ec0.symm
  have jc0 := hI.rd tc 0 ttc ec0 (rfl : h_bd 1342 _ = (0, 7))
  obtain ⟨c1, ec1⟩ : ∃ v : Int32, v = I0 tc 1 := ⟨_, rfl⟩
  have ekc1 : I0 tc (1 : Int32).toNatClampNeg = c1 := by rw [show (1 : Int32).toNatClampNeg = 1 by decide]; exact ec1.symm
  have jc1 := hI.rd tc 1 ttc ec1 (rfl : h_bd 1342 _ = (0, 7))
  obtain ⟨c2, ec2⟩ : ∃ v : Int32, v = I0 tc 2 := ⟨_, rfl⟩
  have ekc2 : I0 tc (2 : Int32).toNatClampNeg = c2 := by rw [show (2 : Int32).toNatClampNeg = 2 by decide]; exact ec2.symm
  have jc2 := hI.rd tc 2 ttc ec2 (rfl : h_bd 1342 _ = (0, 7))
  obtain ⟨MG, eMG⟩ : ∃ f : Int → Nat → Nat → Int, f = m_G z I0 a0 u_ := ⟨_, rfl⟩
  refine lv_iload_n hx hb dX12_givers_0 rfl (lv_at hl 1 rfl) ?_
  refine lv_iload_n hx hb dX12_givers_1 rfl (lv_at hl 2 rfl) ?_
  refine lv_icmp_ne (tgt := 11) hx hb dX12_givers_2 (by decide) (fun _ => ?_) (fun h => absurd h (by decide))
  refine lv_iconst (v := 0) hx hb dX12_givers_11 (by decide) ?_
  refine lv_istore_n (lv' := [(3, .int 0), (0, .ref a0), (1, .int 0), (2, .int 3)]) hx hb dX12_givers_12 rfl hl (by decide) rfl (fun ls hl => ?_)
  have loop13_0 : ∀ (n : Nat) (I3 : tI) (H : Heap) (locs : List Loc) (ls : Array Slot) (v2 : Int32), h_G h_so h_fk E A z I3 L0 s s.heap H locs → h_I z I3 → h_F [(13, 44), (13, 45), (1339, 999), (1340, 999), (1343, 999)] z I0 I3 → lv_has ls 4 [(0, .ref a0), (1, .int 0), (2, .int 3), (3, .int v2)] → (0 ≤ v2.toInt ∧ v2.toInt ≤ 60) → h_F [(13, 44), (13, 45), (1339, 999), (1340, 999), (1343, 999)] z I0 I3 → (m_rs z I3 a0 (r_fp (q_mc (I0 cb) c0.toInt) (fun (s : tS) (x0 : Nat) => (r_fp (q_mc (I0 cb) c1.toInt) (fun (s : tS) (x1 : Nat) => (r_fp (q_mc (I0 cb) c2.toInt) (fun (s : tS) (x2 : Nat) => (r_st3 MG c0.toInt c1.toInt c2.toInt x0 x1 x2 s)) s f0_13.toInt.toNat)) s f0_13.toInt.toNat)) s_ (v2.toInt).toNat)) → (v2.toInt ≤ f0_13.toInt) → (60 - v2.toInt) < (n : Int) → W pr_ l ev_ (headSpec wsX12_givers ({ frames := 10, cells := 0, slots := 0, locals := 640 })).room s m ([.ref a0, .int 0, .int 3] : List Value).toArray below meth cd_ H locs 0 0 (MQ below (va_Qv (fun (I1 : tI) => h_I z I1 ∧ h_F [(13, 44), (13, 45), (1339, 999), (1340, 999), (1343, 999)] z I0 I1 ∧ (m_rs z I1 a0 (r_fp (q_mc (I0 (h_ad z a0 14)) (I0 (h_ad z a0 42) 0).toInt) (fun (s : tS) (x0 : Nat) => (r_fp (q_mc (I0 (h_ad z a0 14)) (I0 (h_ad z a0 42) 1).toInt) (fun (s : tS) (x1 : Nat) => (r_fp (q_mc (I0 (h_ad z a0 14)) (I0 (h_ad z a0 42) 2).toInt) (fun (s : tS) (x2 : Nat) => (r_st3 (m_G z I0 a0 u_) (I0 (h_ad z a0 42) 0).toInt (I0 (h_ad z a0 42) 1).toInt (I0 (h_ad z a0 42) 2).toInt x0 x1 x2 s)) s (I0 a0 13).toInt.toNat)) s (I0 a0 13).toInt.toNat)) s_ (I0 a0 13).toInt.toNat)) ∧ (∀ k : Nat, k < 0 → I1 (h_ad z a0 43) k = I0 (h_ad z a0 43) k)) (fun (I1 : tI) t => h_B E A z I1 L0 t) A) ([.ref a0, .int 0, .int 3] : List Value).toArray s 0 0 A) (F0 m 13 ls []) := by
    intro n
    induction n with
    | zero => intro I3 H locs ls v2 g hI hF hl jv2 hL13 hx13_0 hx13_1 hn; exact absurd hn (by omega)
    | succ n ih13 =>
      intro I3 H locs ls v2 g hI hF hl jv2 hL13 hx13_0 hx13_1 hn
      have kv : v2.toNatClampNeg = v2.toInt.toNat := h_keq rfl (by omega) (by omega)
      refine lv_iload_n hx hb dX12_givers_13 rfl (lv_at hl 3 rfl) ?_
      refine lv_aload_n hx hb dX12_givers_14 rfl (lv_at hl 0 rfl) ?_
      refine h_get (v := .int f0_13) hx hb hts iX12 hown g t_a0 (by decide) so_13 rfl 13 (by decide) (hts (.fieldLink RX12 202 "CapLeagueModel" "players" "I") (by decide +kernel)) rfl dX12_givers_15 (congrArg Value.int ((h_F.at hL13 t_a0 rfl).trans (ef0_13.symm))) ?_
      refine lv_icmp_ge (tgt := 72) hx hb dX12_givers_18 (by decide) (fun c4 => ?_) (fun c4 => ?_)
      · have ic4 := (xi_le c4 rfl rfl : f0_13.toInt ≤ v2.toInt)
        have hS := g.2.1
        exact W.vret hx hb hr (fun t ht hW => ⟨⟨I3, rfl, ⟨hI, hF, ⟨(by rw [acb, atc, ← ec0, ← ec1, ← ec2, ← ef0_13, ← eMG]; have h9 := hx13_0; rw [show (v2.toInt).toNat = f0_13.toInt.toNat by omega] at h9; exact h9), (fun k hk => absurd hk (Nat.not_lt_zero k))⟩⟩, h_ret g ht⟩, hS.F ht⟩) hS.2.2 dX12_givers_72
      · have ic4 := (xi_nle c4 rfl rfl : v2.toInt < f0_13.toInt)
        refine lv_aload_n hx hb dX12_givers_21 rfl (lv_at hl 0 rfl) ?_
        refine h_get (v := .ref cb) hx hb hts iX12 hown g t_a0 (by decide) so_13 rfl 14 (by decide) (hts (.fieldLink RX12 25 "CapLeagueModel" "clubOf" "[I") (by decide +kernel)) rfl dX12_givers_22 (by show va_rf (z.R a0 14) = _; rw [rcb]; rfl) ?_
        refine lv_iload_n hx hb dX12_givers_25 rfl (lv_at hl 3 rfl) ?_
        refine h_ald hx hb g tcb (by decide) so_1314 (xi_in (by omega) (by omega)) dX12_givers_26 ?_
        refine lv_topi (fun v5 ev5 => ?_)
        have jv5 := hI.rd cb v2.toNatClampNeg tcb ev5 (rfl : h_bd 1314 _ = ((-1), 7))
        have gv5 : I0 cb v2.toInt.toNat = v5 := by rw [← kv, ev5]; exact (hF.at tcb rfl).symm
        refine lv_aload_n hx hb dX12_givers_27 rfl (lv_at hl 0 rfl) ?_
        refine h_get (v := .ref tc) hx hb hts iX12 hown g t_a0 (by decide) so_13 rfl 42 (by decide) (hts (.fieldLink RX12 97 "CapLeagueModel" "triedClub" "[I") (by decide +kernel)) rfl dX12_givers_28 (by show va_rf (z.R a0 42) = _; rw [rtc]; rfl) ?_
        refine lv_iload_n hx hb dX12_givers_31 rfl (lv_at hl 1 rfl) ?_
        refine h_ald hx hb g ttc (by decide) so_1342 (by unfold vp_in; decide) dX12_givers_32 ?_
        refine xw_i ((h_F.at hL13 ttc rfl).trans (ekc0)) ?_
        refine lv_icmp_ne (tgt := 66) hx hb dX12_givers_33 (by decide) (fun c6 => ?_) (fun c6 => ?_)
        · have ic6 := (xi_ne c6 rfl rfl : v5.toInt ≠ c0.toInt)
          obtain ⟨v7, ev7⟩ : ∃ z : Int32, z = v2 + 1 := ⟨_, rfl⟩
          have jv7 : v7.toInt = v2.toInt + 1 := xi_add ev7 rfl (by decide) (by omega) (by omega)
          refine lv_iinc (v := v7) (lv' := [(3, .int v7), (0, .ref a0), (1, .int 0), (2, .int 3)]) hx hb dX12_givers_66 hl (k := 3) rfl (by rw [ev7]; rfl) (by decide) rfl (fun ls hl => ?_)
          refine lv_goto (tgt := 13) hx hb dX12_givers_69 (by decide) ?_
          exact ih13 I3 _ _ _ v7 g hI hF (lv_sub hl [1, 2, 3, 0] rfl) (by omega) (h_F.call (h_F.rf : h_F [(13, 44), (13, 45), (1339, 999), (1340, 999), (1343, 999)] z I0 I0) hL13 rfl) (by rw [show (v7.toInt).toNat = v2.toInt.toNat + 1 by omega, r_fp_n (q_mc_n (by rw [gv5]; omega))]; exact hx13_0) (by omega) (by omega)
        · have ic6 := (xi_eq c6 rfl rfl : v5.toInt = c0.toInt)
          refine lv_aload_n hx hb dX12_givers_36 rfl (lv_at hl 0 rfl) ?_
          refine lv_iload_n hx hb dX12_givers_37 rfl (lv_at hl 3 rfl) ?_
          refine lv_aload_n hx hb dX12_givers_38 rfl (lv_at hl 0 rfl) ?_
          refine h_get (v := .int f0_12) hx hb hts iX12 hown g t_a0 (by decide) so_13 rfl 12 (by decide) (hts (.fieldLink RX12 187 "CapLeagueModel" "clock" "I") (by decide +kernel)) rfl dX12_givers_39 (congrArg Value.int ((h_F.at hL13 t_a0 rfl).trans (ef0_12.symm))) ?_
          refine vp_callSi (W.runV (As := [.int v2, .int f0_12]) (rest := []) ⟨hx, hb, hml, hown, hts⟩ (tX12_isUnderB l E X A z I3 L0 a0 t_a0 v2 (v2.toInt) rfl (by omega) f0_12 (f0_12.toInt) rfl) (cwV 2 hts gX12_givers_X12_isUnder rfl rfl rfl (by decide +kernel) ⟨Nat.le_of_ble_eq_true rfl, Nat.le_of_ble_eq_true rfl⟩) ⟨h_blind _ _ _ _ _ _ _, h_recv g t_a0 (by decide) so_13 (q := (RX12, TX12, 51)) rfl, h_pre _ hE hk hX hA hI hR g⟩ rfl rfl hl.1 rfl (lv_room (Nat.le_of_ble_eq_true rfl)) dX12_givers_42 ⟨Nat.le_of_ble_eq_true rfl, Nat.le_of_ble_eq_true rfl⟩) (fun rh8 h8 => ?_)
          obtain ⟨h8, h8p0⟩ := h8
          refine lv_if_ne (tgt := 51) hx hb dX12_givers_45 (by decide) (fun c9 => ?_) (fun c9 => ?_)
          · have ic9 := (xi_ne c9 rfl (by decide) : rh8.toInt ≠ 0)
            refine lv_aload_n hx hb dX12_givers_51 rfl (lv_at hl 0 rfl) ?_
            refine h_get (v := .ref tg) hx hb hts iX12 hown g t_a0 (by decide) so_13 rfl 43 (by decide) (hts (.fieldLink RX12 100 "CapLeagueModel" "triedGives" "[I") (by decide +kernel)) rfl dX12_givers_52 (by show va_rf (z.R a0 43) = _; rw [rtg]; rfl) ?_
            refine lv_iload_n hx hb dX12_givers_55 rfl (lv_at hl 1 rfl) ?_
            refine lv_iload_n hx hb dX12_givers_56 rfl (lv_at hl 3 rfl) ?_
            refine h_ast hx hb g ttg (by decide) so_1343 (by unfold vp_in; decide) dX12_givers_57 (fun I10 H locs eI10 g => ?_)
            have hI := hI.wr eI10 ttg (rfl : h_bd 1343 _ = (0, 59)) (by omega) (by omega)
            have hF := hF.wr eI10 ttg rfl
            refine lv_aload_n hx hb dX12_givers_58 rfl (lv_at hl 0 rfl) ?_
            refine lv_iload_n hx hb dX12_givers_59 rfl (lv_at hl 1 rfl) ?_
            refine lv_iconst (v := 1) hx hb dX12_givers_60 (by decide) ?_
            refine lv_iadd hx hb dX12_givers_61 ?_
            refine xw_i (v := 1) (by decide) ?_
            refine lv_iload_n hx hb dX12_givers_62 rfl (lv_at hl 2 rfl) ?_
            refine va_callv (va_runV (As := [.int 1, .int 3]) (rest := []) ⟨hx, hb, hml, hown, hts⟩ (tX12_givers31R l E X A z I10 L0 a0 t_a0 (u_) (hmp.F hR t_a0 (h_F.wr (h_F.call (h_F.rf : h_F [(13, 44), (13, 45), (1339, 999), (1340, 999), (1343, 999)] z I0 I0) hL13 rfl) eI10 ttg rfl) (by decide)) (fun i hi => by rcases (show i = 0 by omega) with rfl; exact (by rw [show I10 a0 13 = f0_13 from (h_n1 eI10 t_a0 ttg (by decide)).trans ((h_F.at hL13 t_a0 rfl).trans (ef0_13.symm)), atg]; have h9 := h_n0 eI10; rw [show (0 : Int32).toNatClampNeg = 0 by decide] at h9; rw [h9]; omega)) (r_fp (q_mc (I0 cb) c0.toInt) (fun (s : tS) (x0 : Nat) => (r_fp (q_mc (I0 cb) c1.toInt) (fun (s : tS) (x1 : Nat) => (r_fp (q_mc (I0 cb) c2.toInt) (fun (s : tS) (x2 : Nat) => (r_st3 MG c0.toInt c1.toInt c2.toInt x0 x1 x2 s)) s f0_13.toInt.toNat)) s f0_13.toInt.toNat)) s_ v2.toInt.toNat) (hx13_0.F hR t_a0 (h_F.wr (h_F.rf : h_F [(1343, 999)] z I3 I3) eI10 ttg rfl) rfl rfl (fun _ => rfl) (fun _ => rfl))) (cwV 2 hts gX12_givers_X12_givers rfl rfl rfl (by decide +kernel) ⟨Nat.le_of_ble_eq_true rfl, Nat.le_of_ble_eq_true rfl⟩) ⟨h_blind _ _ _ _ _ _ _, h_recv g t_a0 (by decide) so_13 (q := (RX12, TX12, 51)) rfl, h_pre _ hE hk hX hA hI hR g⟩ rfl rfl hl.1 rfl (lv_room (Nat.le_of_ble_eq_true rfl)) dX12_givers_63 ⟨Nat.le_of_ble_eq_true rfl, Nat.le_of_ble_eq_true rfl⟩) g.2.1 (fun q _ h => h) (fun q h => h) (fun I12 t H1 locs ht hvm h11 hB hz1 hk1 hS => ?_)
            obtain ⟨hI, fh11, h11⟩ := h11
            replace g := h_after g hB ht hS
            generalize H1 = H at g
            clear hB hk1 hz1 ht hvm hS
            have hF := hF.call fh11 rfl
            obtain ⟨h11p0, h11p1⟩ := h11
            rw [m_G_F hR t_a0 (h_F.wr (h_F.call (h_F.rf : h_F [(13, 44), (13, 45), (1339, 999), (1340, 999), (1343, 999)] z I0 I0) hL13 rfl) eI10 ttg rfl) (by decide) u_, ← eMG, show I10 (h_ad z a0 14) = I0 (h_ad z a0 14) from m_F hR t_a0 (h_F.wr (h_F.call (h_F.rf : h_F [(13, 44), (13, 45), (1339, 999), (1340, 999), (1343, 999)] z I0 I0) hL13 rfl) eI10 ttg rfl) (by decide) 14 1314 rfl (by decide) (by decide) (by decide), acb, show I10 a0 13 = f0_13 from (h_n1 eI10 t_a0 ttg (by decide)).trans ((h_F.at hL13 t_a0 rfl).trans (ef0_13.symm)), atc, atg, show I10 tc 0 = c0 from (by have h9 := (h_n1 eI10 ttc ttg (by decide)).trans ((h_F.at hL13 ttc rfl).trans (ekc0)); rw [show (0 : Int32).toNatClampNeg = 0 by decide] at h9; exact h9), show I10 tc 1 = c1 from (by have h9 := (h_n1 eI10 ttc ttg (by decide)).trans ((h_F.at hL13 ttc rfl).trans (ekc1)); rw [show (1 : Int32).toNatClampNeg = 1 by decide] at h9; exact h9), show I10 tc 2 = c2 from (by have h9 := (h_n1 eI10 ttc ttg (by decide)).trans ((h_F.at hL13 ttc rfl).trans (ekc2)); rw [show (2 : Int32).toNatClampNeg = 2 by decide] at h9; exact h9), show I10 tg 0 = v2 from (by have h9 := h_n0 eI10; rw [show (0 : Int32).toNatClampNeg = 0 by decide] at h9; exact h9)] at h11p0
            obtain ⟨v13, ev13⟩ : ∃ z : Int32, z = v2 + 1 := ⟨_, rfl⟩
            have jv13 : v13.toInt = v2.toInt + 1 := xi_add ev13 rfl (by decide) (by omega) (by omega)
            refine lv_iinc (v := v13) (lv' := [(3, .int v13), (0, .ref a0), (1, .int 0), (2, .int 3)]) hx hb dX12_givers_66 hl (k := 3) rfl (by rw [ev13]; rfl) (by decide) rfl (fun ls hl => ?_)
            refine lv_goto (tgt := 13) hx hb dX12_givers_69 (by decide) ?_
            exact ih13 I12 _ _ _ v13 g hI hF (lv_sub hl [1, 2, 3, 0] rfl) (by omega) (h_F.call (h_F.wr (h_F.call (h_F.rf : h_F [(13, 44), (13, 45), (1339, 999), (1340, 999), (1343, 999)] z I0 I0) hL13 rfl) eI10 ttg rfl) fh11 rfl) (by rw [show (v13.toInt).toNat = v2.toInt.toNat + 1 by omega, r_fp_y (q_mc_y (by rw [gv5]; omega))]; exact h11p0) (by omega) (by omega)
          · have ic9 := (xi_eq c9 rfl (by decide) : rh8.toInt = 0)
            have hu9 := hun v2.toInt.toNat (by rw [qf0_13]; omega) (by rw [acb, gv5]; omega)
            rcases h8p0 with q | q; exact absurd q.1 (by omega); exact absurd (by rw [show I3 (h_ad z a0 14) = I0 (h_ad z a0 14) from m_F hR t_a0 hF (by decide) 14 1314 rfl (by decide) (by decide) (by decide), show I3 (h_ad z a0 15) = I0 (h_ad z a0 15) from m_F hR t_a0 hF (by decide) 15 1315 rfl (by decide) (by decide) (by decide), show I3 (h_ad z a0 16) = I0 (h_ad z a0 16) from m_F hR t_a0 hF (by decide) 16 1316 rfl (by decide) (by decide) (by decide), show I3 (h_ad z a0 20) = I0 (h_ad z a0 20) from m_F hR t_a0 hF (by decide) 20 1320 rfl (by decide) (by decide) (by decide), show I3 (h_ad z a0 21) = I0 (h_ad z a0 21) from m_F hR t_a0 hF (by decide) 21 1321 rfl (by decide) (by decide) (by decide)]; rw [ef0_12]; exact hu9) q.2
  have kc14 : (0 : Int32).toInt = 0 := by decide
  exact loop13_0 _ I0 _ _ _ (0) g hI hF (lv_sub hl [1, 2, 3, 0] rfl) ⟨by decide, by decide⟩ (h_F.rf : h_F [(13, 44), (13, 45), (1339, 999), (1340, 999), (1343, 999)] z I0 I0) (hs) (by omega) (show (60 - (0 : Int)) < (((60 - (0 : Int)).toNat + 1 : Nat) : Int) by omega)

