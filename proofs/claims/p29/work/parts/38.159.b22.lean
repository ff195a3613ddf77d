set_option maxHeartbeats 4000000 in
set_option maxRecDepth 100000 in
theorem tX12_dealB (l : Launch) (E : tE) (X : tX) (A : Nat → Prop) (z : tZ) (I0 : tI) (L0 : tL) (a0 : Nat) (t_a0 : z.ty a0 = 13) (u_ : Nat → Int) (hrl : h_r12 (I0 (h_ad z a0 11)) (I0 (h_ad z a0 10)) (I0 a0 12).toInt u_) (hob : q_okb u_) (hpb : ∀ p : Nat, (p : Int) < (I0 a0 13).toInt → 0 ≤ (q_pay (I0 (h_ad z a0 14) p) (I0 (h_ad z a0 15) p) (I0 (h_ad z a0 16) p) (I0 (h_ad z a0 17) p) (I0 (h_ad z a0 18) p) (I0 a0 12)).toInt ∧ (q_pay (I0 (h_ad z a0 14) p) (I0 (h_ad z a0 15) p) (I0 (h_ad z a0 16) p) (I0 (h_ad z a0 17) p) (I0 (h_ad z a0 18) p) (I0 a0 12)).toInt ≤ 30000) (hft : ∀ i : Nat, (i : Int) < (I0 a0 33).toInt → (0 ≤ (I0 (h_ad z a0 35) i).toInt ∧ (I0 (h_ad z a0 35) i).toInt ≤ 7) ∧ 0 ≤ (I0 (h_ad z a0 36) i).toInt ∧ (I0 (h_ad z a0 36) i).toInt ≤ 7) (hne : ∀ i : Nat, (i : Int) < (I0 a0 33).toInt → (I0 (h_ad z a0 35) i).toInt ≠ (I0 (h_ad z a0 36) i).toInt) (hmm : ∀ i : Nat, (i : Int) < (I0 a0 33).toInt → (I0 (h_ad z a0 34) i).toInt < 60 → 0 ≤ (I0 (h_ad z a0 34) i).toInt ∧ (I0 (h_ad z a0 34) i).toInt < (I0 a0 13).toInt) : Met l yX12_deal wsX12_deal ({ frames := 6, cells := 0, slots := 0, locals := 384 }) (va_Pc [.ref a0] (h_P E X A z I0 L0)) (va_Qi (fun r (I1 : tI) => h_I z I1 ∧ h_F [(1314, 999), (1325, 999), (1327, 999), (1326, 999), (13, 33)] z I0 I1 ∧ (((I0 a0 33).toInt = 0 ∧ r.toInt = -4 ∧ I1 = I0) ∨ ((I0 a0 33).toInt ≠ 0 ∧ q_ff (m_ft z I0 a0 u_) 8 ≠ 0 ∧ r.toInt = 0 ∧ I1 = I0) ∨ ((I0 a0 33).toInt ≠ 0 ∧ q_ff (m_ft z I0 a0 u_) 8 = 0 ∧ r = I0 a0 33 ∧ h_mdo I0 I1 (h_ad z a0 14) (h_ad z a0 36) (fun i : Nat => (I0 (h_ad z a0 34) i).toInt) (I0 a0 33).toInt.toNat ∧ h_tdm I0 I1 (h_ad z a0 25) (h_ad z a0 27) (h_ad z a0 26) (h_ad z a0 36) (h_ad z a0 37) (h_ad z a0 35) (fun i : Nat => (I0 (h_ad z a0 34) i).toInt) (I0 a0 33).toInt.toNat ∧ I1 a0 33 = 0))) (fun (I1 : tI) t => h_B E A z I1 L0 t) A) 0 0 A := by
  refine Met.ofW (cc := cX12_deal) (maxL := 3) (ret := (some .int)) (by decide) rfl ?_
  intro pr_ ev_ s m args below meth cd_ s₁ B hml hv
  obtain ⟨rfl, hE, hk, hX, hA, hK, hI, hR, hB0⟩ := hv
  have g : h_G h_so h_fk E A z I0 L0 s s.heap s.heap [] := ⟨hK, va_S.rf, hB0⟩
  have hF : h_F [(1314, 999), (1325, 999), (1327, 999), (1326, 999), (13, 33)] z I0 I0 := h_F.rf
  have hx := B.exec
  have hb := B.bytes
  have hr := B.returns
  have hts := atoms_spec (ws := wsX12_deal) B.pre
  have hown : s.vm.findClass RX12 = some m.cls := findClass_of_methodNamed B.named
  have hlocks := B.notSynchronized
  have iX12 : ∀ w ∈ u_ws RX12 TX12 51, w ∈ wsX12_deal := by decide +kernel
  have hl := lv_entry ([.ref a0]) (n := 3) (Nat.le_of_ble_eq_true rfl)
  rw [lg_entry_eq]
  generalize (lg_sl ([.ref a0]) ++ List.replicate (3 - (lg_sl ([.ref a0])).length) Slot.unset).toArray = ls at hl ⊢
  have hl : lv_has ls 3 [(0, .ref a0)] := hl
  obtain ⟨cb, rcb, tcb⟩ := hR.at a0 14 t_a0 (rfl : h_rs 13 14 = some (1314, false)) (by decide)
  have acb : h_ad z a0 14 = cb := h_ad.at rcb
  obtain ⟨ow, row, tow⟩ := hR.at a0 25 t_a0 (rfl : h_rs 13 25 = some (1325, false)) (by decide)
  have aow : h_ad z a0 25 = ow := h_ad.at row
  obtain ⟨gv, rgv, tgv⟩ := hR.at a0 26 t_a0 (rfl : h_rs 13 26 = some (1326, false)) (by decide)
  have agv : h_ad z a0 26 = gv := h_ad.at rgv
  obtain ⟨gu, rgu, tgu⟩ := hR.at a0 27 t_a0 (rfl : h_rs 13 27 = some (1327, false)) (by decide)
  have agu : h_ad z a0 27 = gu := h_ad.at rgu
  obtain ⟨md, rmd, tmd⟩ := hR.at a0 34 t_a0 (rfl : h_rs 13 34 = some (1334, false)) (by decide)
  have amd : h_ad z a0 34 = md := h_ad.at rmd
  obtain ⟨mf, rmf, tmf⟩ := hR.at a0 35 t_a0 (rfl : h_rs 13 35 = some (1335, false)) (by decide)
  have amf : h_ad z a0 35 = mf := h_ad.at rmf
  obtain ⟨mt, rmt, tmt⟩ := hR.at a0 36 t_a0 (rfl : h_rs 13 36 = some (1336, false)) (by decide)
  have amt : h_ad z a0 36 = mt := h_ad.at rmt
  obtain ⟨mg, rmg, tmg⟩ := hR.at a0 37 t_a0 (rfl : h_rs 13 37 = some (1337, false)) (by decide)
  have amg : h_ad z a0 37 = mg := h_ad.at rmg
  obtain ⟨f0_33, ef0_33⟩ : ∃ v : Int32, v = I0 a0 33 := ⟨_, rfl⟩
  have qf0_33 : (I0 a0 33).toInt = f0_33.toInt := congrArg Int32.toInt ef0_33.symm
  have jf0_33 := hI.rd a0 33 t_a0 ef0_33 (rfl : h_bd 13 33 = (0, 12))
  obtain ⟨cd, ecd⟩ : ∃ g : Nat → Int, g = fun i : Nat => (I0 md i).toInt := ⟨_, rfl⟩
  refine lv_aload_n hx hb dX12_deal_0 rfl (lv_at hl 0 rfl) ?_
  refine h_get (v := .int f0_33) hx hb hts iX12 hown g t_a0 (by decide) so_13 rfl 33 (by decide) (hts (.fieldLink RX12 247 "CapLeagueModel" "moves" "I") (by decide +kernel)) rfl dX12_deal_1 (congrArg Value.int (ef0_33.symm)) ?_
  refine lv_if_ne (tgt := 10) hx hb dX12_deal_4 (by decide) (fun c1 => ?_) (fun c1 => ?_)
  · have ic1 := (xi_ne c1 rfl (by decide) : f0_33.toInt ≠ 0)
    refine lv_aload_n hx hb dX12_deal_10 rfl (lv_at hl 0 rfl) ?_
    refine vp_callSi (W.runV (As := []) (rest := []) ⟨hx, hb, hml, hown, hts⟩ (tX12_wrongTB l E X A z I0 L0 a0 t_a0 (u_) (hrl) (hob) (hpb) (hft) (hne) (hmm)) (cwV 0 hts gX12_deal_X12_wrongTrade rfl rfl rfl (by decide +kernel) ⟨Nat.le_of_ble_eq_true rfl, Nat.le_of_ble_eq_true rfl⟩) ⟨h_blind _ _ _ _ _ _ _, h_recv g t_a0 (by decide) so_13 (q := (RX12, TX12, 51)) rfl, h_pre _ hE hk hX hA hI hR g⟩ rfl rfl hl.1 rfl (lv_room (Nat.le_of_ble_eq_true rfl)) dX12_deal_11 ⟨Nat.le_of_ble_eq_true rfl, Nat.le_of_ble_eq_true rfl⟩) (fun rh2 h2 => ?_)
    obtain ⟨h2, h2p0⟩ := h2
    refine lv_if_eq (tgt := 19) hx hb dX12_deal_14 (by decide) (fun c3 => ?_) (fun c3 => ?_)
    · have ic3 := (xi_eq c3 rfl (by decide) : rh2.toInt = 0)
      refine lv_iconst (v := 0) hx hb dX12_deal_19 (by decide) ?_
      refine lv_istore_n (lv' := [(1, .int 0), (0, .ref a0)]) hx hb dX12_deal_20 rfl hl (by decide) rfl (fun ls hl => ?_)
      have loop21_0 : ∀ (n : Nat) (I5 : tI) (H : Heap) (locs : List Loc) (ls : Array Slot) (v4 : Int32), h_G h_so h_fk E A z I5 L0 s s.heap H locs → h_I z I5 → h_F [(1314, 999), (1325, 999), (1327, 999), (1326, 999), (13, 33)] z I0 I5 → lv_has ls 3 [(0, .ref a0), (1, .int v4)] → (0 ≤ v4.toInt ∧ v4.toInt ≤ 12) → h_F [(1314, 999), (1325, 999), (1327, 999), (1326, 999)] z I0 I5 → (h_mdo I0 I5 cb mt cd (v4.toInt).toNat) → (h_tdm I0 I5 ow gu gv mt mg mf cd (v4.toInt).toNat) → (v4.toInt ≤ f0_33.toInt) → (12 - v4.toInt) < (n : Int) → W pr_ l ev_ (headSpec wsX12_deal ({ frames := 6, cells := 0, slots := 0, locals := 384 })).room s m ([.ref a0] : List Value).toArray below meth cd_ H locs 0 0 (MQ below (va_Qi (fun r (I1 : tI) => h_I z I1 ∧ h_F [(1314, 999), (1325, 999), (1327, 999), (1326, 999), (13, 33)] z I0 I1 ∧ (((I0 a0 33).toInt = 0 ∧ r.toInt = -4 ∧ I1 = I0) ∨ ((I0 a0 33).toInt ≠ 0 ∧ q_ff (m_ft z I0 a0 u_) 8 ≠ 0 ∧ r.toInt = 0 ∧ I1 = I0) ∨ ((I0 a0 33).toInt ≠ 0 ∧ q_ff (m_ft z I0 a0 u_) 8 = 0 ∧ r = I0 a0 33 ∧ h_mdo I0 I1 (h_ad z a0 14) (h_ad z a0 36) (fun i : Nat => (I0 (h_ad z a0 34) i).toInt) (I0 a0 33).toInt.toNat ∧ h_tdm I0 I1 (h_ad z a0 25) (h_ad z a0 27) (h_ad z a0 26) (h_ad z a0 36) (h_ad z a0 37) (h_ad z a0 35) (fun i : Nat => (I0 (h_ad z a0 34) i).toInt) (I0 a0 33).toInt.toNat ∧ I1 a0 33 = 0))) (fun (I1 : tI) t => h_B E A z I1 L0 t) A) ([.ref a0] : List Value).toArray s 0 0 A) (F0 m 21 ls []) := by
        intro n
        induction n with
        | zero => intro I5 H locs ls v4 g hI hF hl jv4 hL21 hx21_0 hx21_1 hx21_2 hn; exact absurd hn (by omega)
        | succ n ih21 =>
          intro I5 H locs ls v4 g hI hF hl jv4 hL21 hx21_0 hx21_1 hx21_2 hn
          have kv : v4.toNatClampNeg = v4.toInt.toNat := h_keq rfl (by omega) (by omega)
          refine lv_iload_n hx hb dX12_deal_21 rfl (lv_at hl 1 rfl) ?_
          refine lv_aload_n hx hb dX12_deal_22 rfl (lv_at hl 0 rfl) ?_
          refine h_get (v := .int f0_33) hx hb hts iX12 hown g t_a0 (by decide) so_13 rfl 33 (by decide) (hts (.fieldLink RX12 247 "CapLeagueModel" "moves" "I") (by decide +kernel)) rfl dX12_deal_23 (congrArg Value.int ((h_F.at hL21 t_a0 rfl).trans (ef0_33.symm))) ?_
          refine lv_icmp_ge (tgt := 112) hx hb dX12_deal_26 (by decide) (fun c6 => ?_) (fun c6 => ?_)
          · have ic6 := (xi_le c6 rfl rfl : f0_33.toInt ≤ v4.toInt)
            refine lv_aload_n hx hb dX12_deal_112 rfl (lv_at hl 0 rfl) ?_
            refine h_get (v := .int f0_33) hx hb hts iX12 hown g t_a0 (by decide) so_13 rfl 33 (by decide) (hts (.fieldLink RX12 247 "CapLeagueModel" "moves" "I") (by decide +kernel)) rfl dX12_deal_113 (congrArg Value.int ((h_F.at hL21 t_a0 rfl).trans (ef0_33.symm))) ?_
            refine lv_istore_n (lv' := [(1, .int f0_33), (0, .ref a0)]) hx hb dX12_deal_116 rfl hl (by decide) rfl (fun ls hl => ?_)
            refine lv_aload_n hx hb dX12_deal_117 rfl (lv_at hl 1 rfl) ?_
            refine lv_iconst (v := 0) hx hb dX12_deal_118 (by decide) ?_
            refine h_putI (ty := .int) (v := 0) hx hb hts iX12 tyX12 tyX12_ok nmX12 hown g t_a0 (by decide) so_13 rfl 33 (by decide) rfl (hts (.fieldLink RX12 247 "CapLeagueModel" "moves" "I") (by decide +kernel)) rfl rfl (by decide +kernel) rfl rfl dX12_deal_119 (fun I7 H locs eI7 g => ?_)
            have hI := hI.wr eI7 t_a0 (rfl : h_bd 13 33 = (0, 12)) (by decide) (by decide)
            have hF := hF.wr eI7 t_a0 rfl
            refine lv_iload_n hx hb dX12_deal_122 rfl (lv_at hl 0 rfl) ?_
            have hS := g.2.1
            exact W.iret (v := f0_33) hx hb hr (fun t ht hW => ⟨⟨f0_33, I7, rfl, ⟨hI, hF, (by rw [← ef0_33, acb, aow, agv, agu, amd, amf, amt, amg, ← ecd, show f0_33.toInt.toNat = v4.toInt.toNat by omega]; exact Or.inr (Or.inr ⟨by omega, by rw [← h2p0]; omega, rfl, hx21_0.c (fun k => h_n1 eI7 tcb t_a0 (by decide)), hx21_1.c (fun k => h_n1 eI7 tow t_a0 (by decide)) (fun k => h_n1 eI7 tgu t_a0 (by decide)) (fun k => h_n1 eI7 tgv t_a0 (by decide)), h_n0 eI7⟩))⟩, h_ret g ht⟩, hS.F ht⟩) hS.2.2 dX12_deal_123
          · have ic6 := (xi_nle c6 rfl rfl : v4.toInt < f0_33.toInt)
            refine lv_aload_n hx hb dX12_deal_29 rfl (lv_at hl 0 rfl) ?_
            refine h_get (v := .ref md) hx hb hts iX12 hown g t_a0 (by decide) so_13 rfl 34 (by decide) (hts (.fieldLink RX12 76 "CapLeagueModel" "moved" "[I") (by decide +kernel)) rfl dX12_deal_30 (by show va_rf (z.R a0 34) = _; rw [rmd]; rfl) ?_
            refine lv_iload_n hx hb dX12_deal_33 rfl (lv_at hl 1 rfl) ?_
            refine h_ald hx hb g tmd (by decide) so_1334 (xi_in (by omega) (by omega)) dX12_deal_34 ?_
            refine lv_topi (fun v8 ev8 => ?_)
            have jv8 := hI.rd md v4.toNatClampNeg tmd ev8 (rfl : h_bd 1334 _ = (0, 139))
            have gv8 : I0 md v4.toInt.toNat = v8 := by rw [← kv, ev8]; exact (hF.at tmd rfl).symm
            refine lv_bipush (v := 60) hx hb dX12_deal_35 (by decide) ?_
            refine lv_icmp_ge (tgt := 60) hx hb dX12_deal_37 (by decide) (fun c9 => ?_) (fun c9 => ?_)
            · have ic9 := (xi_le c9 (by decide) rfl : 60 ≤ v8.toInt)
              refine lv_aload_n hx hb dX12_deal_60 rfl (lv_at hl 0 rfl) ?_
              refine h_get (v := .ref md) hx hb hts iX12 hown g t_a0 (by decide) so_13 rfl 34 (by decide) (hts (.fieldLink RX12 76 "CapLeagueModel" "moved" "[I") (by decide +kernel)) rfl dX12_deal_61 (by show va_rf (z.R a0 34) = _; rw [rmd]; rfl) ?_
              refine lv_iload_n hx hb dX12_deal_64 rfl (lv_at hl 1 rfl) ?_
              refine h_ald hx hb g tmd (by decide) so_1334 (xi_in (by omega) (by omega)) dX12_deal_65 ?_
              refine xw_i (ev8.symm) ?_
              refine lv_bipush (v := 60) hx hb dX12_deal_66 (by decide) ?_
              refine lv_isub hx hb dX12_deal_68 ?_
              refine lv_topi (fun v10 ev10 => ?_)
              have jv10 : v10.toInt = v8.toInt - 60 := xi_sub ev10 rfl (by decide) (by omega) (by omega)
              refine lv_istore_n (lv' := [(2, .int v10), (0, .ref a0), (1, .int v4)]) hx hb dX12_deal_69 rfl hl (by decide) rfl (fun ls hl => ?_)
              have kn : v10.toNatClampNeg = v10.toInt.toNat := h_keq rfl (by omega) (by omega)
              have hcd : cd v4.toInt.toNat = v8.toInt := by rw [ecd]; show (I0 md v4.toInt.toNat).toInt = _; rw [gv8]
              refine lv_aload_n hx hb dX12_deal_70 rfl (lv_at hl 1 rfl) ?_
              refine h_get (v := .ref ow) hx hb hts iX12 hown g t_a0 (by decide) so_13 rfl 25 (by decide) (hts (.fieldLink RX12 58 "CapLeagueModel" "owner" "[I") (by decide +kernel)) rfl dX12_deal_71 (by show va_rf (z.R a0 25) = _; rw [row]; rfl) ?_
              refine lv_iload_n hx hb dX12_deal_74 rfl (lv_at hl 0 rfl) ?_
              refine lv_aload_n hx hb dX12_deal_75 rfl (lv_at hl 1 rfl) ?_
              refine h_get (v := .ref mt) hx hb hts iX12 hown g t_a0 (by decide) so_13 rfl 36 (by decide) (hts (.fieldLink RX12 82 "CapLeagueModel" "to" "[I") (by decide +kernel)) rfl dX12_deal_76 (by show va_rf (z.R a0 36) = _; rw [rmt]; rfl) ?_
              refine lv_iload_n hx hb dX12_deal_79 rfl (lv_at hl 2 rfl) ?_
              refine h_ald hx hb g tmt (by decide) so_1336 (xi_in (by omega) (by omega)) dX12_deal_80 ?_
              refine lv_topi (fun v11 ev11 => ?_)
              have jv11 := hI.rd mt v4.toNatClampNeg tmt ev11 (rfl : h_bd 1336 _ = (0, 7))
              have gv11 : I0 mt v4.toInt.toNat = v11 := by rw [← kv, ev11]; exact (hF.at tmt rfl).symm
              refine h_ast hx hb g tow (by decide) so_1325 (xi_in (by omega) (by omega)) dX12_deal_81 (fun I12 H locs eI12 g => ?_)
              have hI := hI.wr eI12 tow (rfl : h_bd 1325 _ = ((-2147483648), 2147483647)) (xi_lo _) (Int.le_of_lt_add_one (xi_hi _))
              have hF := hF.wr eI12 tow rfl
              refine lv_aload_n hx hb dX12_deal_82 rfl (lv_at hl 1 rfl) ?_
              refine h_get (v := .ref gu) hx hb hts iX12 hown g t_a0 (by decide) so_13 rfl 27 (by decide) (hts (.fieldLink RX12 64 "CapLeagueModel" "guarded" "[I") (by decide +kernel)) rfl dX12_deal_83 (by show va_rf (z.R a0 27) = _; rw [rgu]; rfl) ?_
              refine lv_iload_n hx hb dX12_deal_86 rfl (lv_at hl 0 rfl) ?_
              refine lv_aload_n hx hb dX12_deal_87 rfl (lv_at hl 1 rfl) ?_
              refine h_get (v := .ref mg) hx hb hts iX12 hown g t_a0 (by decide) so_13 rfl 37 (by decide) (hts (.fieldLink RX12 85 "CapLeagueModel" "guard" "[I") (by decide +kernel)) rfl dX12_deal_88 (by show va_rf (z.R a0 37) = _; rw [rmg]; rfl) ?_
              refine lv_iload_n hx hb dX12_deal_91 rfl (lv_at hl 2 rfl) ?_
              refine h_ald hx hb g tmg (by decide) so_1337 (xi_in (by omega) (by omega)) dX12_deal_92 ?_
              refine lv_topi (fun v13 ev13 => ?_)
              have jv13 := hI.rd mg v4.toNatClampNeg tmg ev13 (rfl : h_bd 1337 _ = ((-2147483648), 2147483647))
              have gv13 : I0 mg v4.toInt.toNat = v13 := by rw [← kv, ev13]; exact (hF.at tmg rfl).symm
              refine h_ast hx hb g tgu (by decide) so_1327 (xi_in (by omega) (by omega)) dX12_deal_93 (fun I14 H locs eI14 g => ?_)
              have hI := hI.wr eI14 tgu (rfl : h_bd 1327 _ = ((-2147483648), 2147483647)) (xi_lo _) (Int.le_of_lt_add_one (xi_hi _))
              have hF := hF.wr eI14 tgu rfl
              refine lv_aload_n hx hb dX12_deal_94 rfl (lv_at hl 1 rfl) ?_
              refine h_get (v := .ref gv) hx hb hts iX12 hown g t_a0 (by decide) so_13 rfl 26 (by decide) (hts (.fieldLink RX12 61 "CapLeagueModel" "giver" "[I") (by decide +kernel)) rfl dX12_deal_95 (by show va_rf (z.R a0 26) = _; rw [rgv]; rfl) ?_
              refine lv_iload_n hx hb dX12_deal_98 rfl (lv_at hl 0 rfl) ?_
              refine lv_aload_n hx hb dX12_deal_99 rfl (lv_at hl 1 rfl) ?_
              refine h_get (v := .ref mf) hx hb hts iX12 hown g t_a0 (by decide) so_13 rfl 35 (by decide) (hts (.fieldLink RX12 79 "CapLeagueModel" "from" "[I") (by decide +kernel)) rfl dX12_deal_100 (by show va_rf (z.R a0 35) = _; rw [rmf]; rfl) ?_
              refine lv_iload_n hx hb dX12_deal_103 rfl (lv_at hl 2 rfl) ?_
              refine h_ald hx hb g tmf (by decide) so_1335 (xi_in (by omega) (by omega)) dX12_deal_104 ?_
              refine lv_topi (fun v15 ev15 => ?_)
              have jv15 := hI.rd mf v4.toNatClampNeg tmf ev15 (rfl : h_bd 1335 _ = ((-2147483648), 2147483647))
              have gv15 : I0 mf v4.toInt.toNat = v15 := by rw [← kv, ev15]; exact (hF.at tmf rfl).symm
              refine h_ast hx hb g tgv (by decide) so_1326 (xi_in (by omega) (by omega)) dX12_deal_105 (fun I16 H locs eI16 g => ?_)
              have hI := hI.wr eI16 tgv (rfl : h_bd 1326 _ = ((-2147483648), 2147483647)) (xi_lo _) (Int.le_of_lt_add_one (xi_hi _))
              have hF := hF.wr eI16 tgv rfl
              obtain ⟨v17, ev17⟩ : ∃ z : Int32, z = v4 + 1 := ⟨_, rfl⟩
              have jv17 : v17.toInt = v4.toInt + 1 := xi_add ev17 rfl (by decide) (by omega) (by omega)
              refine lv_iinc (v := v17) (lv' := [(1, .int v17), (2, .int v10), (0, .ref a0)]) hx hb dX12_deal_106 hl (k := 2) rfl (by rw [ev17]; rfl) (by decide) rfl (fun ls hl => ?_)
              refine lv_goto (tgt := 21) hx hb dX12_deal_109 (by decide) ?_
              exact ih21 I16 _ _ _ v17 g hI hF (lv_sub hl [2, 0] rfl) (by omega) (h_F.wr (h_F.wr (h_F.wr (h_F.call (h_F.rf : h_F [(1314, 999), (1325, 999), (1327, 999), (1326, 999)] z I0 I0) hL21 rfl) eI12 tow rfl) eI14 tgu rfl) eI16 tgv rfl) (h_mdo.n hx21_0 (by omega : (v17.toInt).toNat = v4.toInt.toNat + 1) (by omega) (fun j => (h_n1 eI16 tcb tgv (by decide)).trans ((h_n1 eI14 tcb tgu (by decide)).trans (h_n1 eI12 tcb tow (by decide))))) (h_tdm.y hx21_1 (by omega : (v17.toInt).toNat = v4.toInt.toNat + 1) (show cd v4.toInt.toNat = 60 + ((v10.toInt.toNat : Nat) : Int) by omega) gv11.symm gv13.symm gv15.symm (fun j => (h_n1 eI16 tow tgv (by decide)).trans ((h_n1 eI14 tow tgu (by decide)).trans (h_wif eI12 kn j))) (fun j => (h_n1 eI16 tgu tgv (by decide)).trans ((h_wif eI14 kn j).trans (by rw [h_n1 eI12 tgu tow (by decide)]))) (fun j => (h_wif eI16 kn j).trans (by rw [(h_n1 eI14 tgv tgu (by decide)).trans (h_n1 eI12 tgv tow (by decide))]))) (by omega) (by omega)
            · have ic9 := (xi_nle c9 (by decide) rfl : v8.toInt < 60)
              have kn : v8.toNatClampNeg = v8.toInt.toNat := h_keq rfl (by omega) (by omega)
              have hcd : cd v4.toInt.toNat = v8.toInt := by rw [ecd]; show (I0 md v4.toInt.toNat).toInt = _; rw [gv8]
              refine lv_aload_n hx hb dX12_deal_40 rfl (lv_at hl 0 rfl) ?_
              refine h_get (v := .ref cb) hx hb hts iX12 hown g t_a0 (by decide) so_13 rfl 14 (by decide) (hts (.fieldLink RX12 25 "CapLeagueModel" "clubOf" "[I") (by decide +kernel)) rfl dX12_deal_41 (by show va_rf (z.R a0 14) = _; rw [rcb]; rfl) ?_
              refine lv_aload_n hx hb dX12_deal_44 rfl (lv_at hl 0 rfl) ?_
              refine h_get (v := .ref md) hx hb hts iX12 hown g t_a0 (by decide) so_13 rfl 34 (by decide) (hts (.fieldLink RX12 76 "CapLeagueModel" "moved" "[I") (by decide +kernel)) rfl dX12_deal_45 (by show va_rf (z.R a0 34) = _; rw [rmd]; rfl) ?_
              refine lv_iload_n hx hb dX12_deal_48 rfl (lv_at hl 1 rfl) ?_
              refine h_ald hx hb g tmd (by decide) so_1334 (xi_in (by omega) (by omega)) dX12_deal_49 ?_
              refine xw_i (ev8.symm) ?_
              refine lv_aload_n hx hb dX12_deal_50 rfl (lv_at hl 0 rfl) ?_
              refine h_get (v := .ref mt) hx hb hts iX12 hown g t_a0 (by decide) so_13 rfl 36 (by decide) (hts (.fieldLink RX12 82 "CapLeagueModel" "to" "[I") (by decide +kernel)) rfl dX12_deal_51 (by show va_rf (z.R a0 36) = _; rw [rmt]; rfl) ?_
              refine lv_iload_n hx hb dX12_deal_54 rfl (lv_at hl 1 rfl) ?_
              refine h_ald hx hb g tmt (by decide) so_1336 (xi_in (by omega) (by omega)) dX12_deal_55 ?_
              refine lv_topi (fun v18 ev18 => ?_)
              have jv18 := hI.rd mt v4.toNatClampNeg tmt ev18 (rfl : h_bd 1336 _ = (0, 7))
              have gv18 : I0 mt v4.toInt.toNat = v18 := by rw [← kv, ev18]; exact (hF.at tmt rfl).symm
              refine h_ast hx hb g tcb (by decide) so_1314 (xi_in (by omega) (by omega)) dX12_deal_56 (fun I19 H locs eI19 g => ?_)
              have hI := hI.wr eI19 tcb (rfl : h_bd 1314 _ = ((-1), 7)) (by omega) (by omega)
              have hF := hF.wr eI19 tcb rfl
              refine lv_goto (tgt := 106) hx hb dX12_deal_57 (by decide) ?_
              obtain ⟨v20, ev20⟩ : ∃ z : Int32, z = v4 + 1 := ⟨_, rfl⟩
              have jv20 : v20.toInt = v4.toInt + 1 := xi_add ev20 rfl (by decide) (by omega) (by omega)
              refine lv_iinc (v := v20) (lv' := [(1, .int v20), (0, .ref a0)]) hx hb dX12_deal_106 hl (k := 1) rfl (by rw [ev20]; rfl) (by decide) rfl (fun ls hl => ?_)
              refine lv_goto (tgt := 21) hx hb dX12_deal_109 (by decide) ?_
              exact ih21 I19 _ _ _ v20 g hI hF (lv_sub hl [1, 0] rfl) (by omega) (h_F.wr (h_F.call (h_F.rf : h_F [(1314, 999), (1325, 999), (1327, 999), (1326, 999)] z I0 I0) hL21 rfl) eI19 tcb rfl) (h_mdo.y hx21_0 (by omega : (v20.toInt).toNat = v4.toInt.toNat + 1) (show cd v4.toInt.toNat = ((v8.toInt.toNat : Nat) : Int) by omega) gv18.symm (fun j => h_wif eI19 kn j)) (h_tdm.n hx21_1 (by omega : (v20.toInt).toNat = v4.toInt.toNat + 1) (by omega) (fun j => h_n1 eI19 tow tcb (by decide)) (fun j => h_n1 eI19 tgu tcb (by decide)) (fun j => h_n1 eI19 tgv tcb (by decide))) (by omega) (by omega)
      have kc21 : (0 : Int32).toInt = 0 := by decide
      exact loop21_0 _ I0 _ _ _ (0) g hI hF (lv_sub hl [1, 0] rfl) ⟨by decide, by decide⟩ (h_F.rf : h_F [(1314, 999), (1325, 999), (1327, 999), (1326, 999)] z I0 I0) (fun p hp => rfl) (fun k hk => ⟨rfl, rfl, rfl⟩) (by omega) (show (12 - (0 : Int)) < (((12 - (0 : Int)).toNat + 1 : Nat) : Int) by omega)
    · have ic3 := (xi_ne c3 rfl (by decide) : rh2.toInt ≠ 0)
      refine lv_iconst (v := 0) hx hb dX12_deal_17 (by decide) ?_
      have hS := g.2.1
      exact W.iret (v := 0) hx hb hr (fun t ht hW => ⟨⟨0, I0, rfl, ⟨hI, hF, (by rw [← ef0_33]; exact Or.inr (Or.inl ⟨by omega, by rw [← h2p0]; omega, by decide, rfl⟩))⟩, h_ret g ht⟩, hS.F ht⟩) hS.2.2 dX12_deal_18
  · have ic1 := (xi_eq c1 rfl (by decide) : f0_33.toInt = 0)
    refine lv_bipush (v := (-4)) hx hb dX12_deal_7 (by decide) ?_
    have hS := g.2.1
    exact W.iret (v := (-4)) hx hb hr (fun t ht hW => ⟨⟨(-4), I0, rfl, ⟨hI, hF, (by rw [← ef0_33]; exact Or.inl ⟨by omega, by decide, rfl⟩)⟩, h_ret g ht⟩, hS.F ht⟩) hS.2.2 dX12_deal_9

