set_option maxHeartbeats 4000000 in
set_option maxRecDepth 100000 in
theorem tX7_tryTwoR (l : Launch) (E : tE) (X : tX) (A : Nat → Prop) (z : tZ) (I0 : tI) (L0 : tL) (a0 : Nat) (t_a0 : z.ty a0 = 8) (a : Int32) (a_t : Int) (h_a : a.toInt = a_t) (b_a : 0 ≤ a_t ∧ a_t ≤ 7) (b : Int32) (b_t : Int) (h_b : b.toInt = b_t) (b_b : 0 ≤ b_t ∧ b_t ≤ 7) (J_ : tI) (n_ : Nat) (CB : Nat → Int32) (GG : Int → Nat → Nat → Int) (s_ : tS) (hgr : c_gr z I0 a0 n_ CB GG) (hs : c_rs z J_ I0 a0 s_) (hne : a_t ≠ b_t) : Met l yX7_tryTwo wsX7_tryTwo ({ frames := 2, cells := 0, slots := 0, locals := 128 }) (va_Pc [.ref a0, .int a, .int b] (h_P E X A z I0 L0)) (va_Qv (fun (I1 : tI) => h_I z I1 ∧ h_F [(8, 10), (811, 999), (812, 999), (8, 9)] z I0 I1 ∧ (c_rs z J_ I1 a0 (r_two GG CB n_ a_t b_t s_))) (fun (I1 : tI) t => h_B E A z I1 L0 t) A) 0 0 A := by
  refine Met.ofW (cc := cX7_tryTwo) (maxL := 7) (ret := none) (by decide) rfl ?_
  intro pr_ ev_ s m args below meth cd_ s₁ B hml hv
  obtain ⟨rfl, hE, hk, hX, hA, hK, hI, hR, hB0⟩ := hv
  have g : h_G h_so h_fk E A z I0 L0 s s.heap s.heap [] := ⟨hK, va_S.rf, hB0⟩
  have hF : h_F [(8, 10), (811, 999), (812, 999), (8, 9)] z I0 I0 := h_F.rf
  have hx := B.exec
  have hb := B.bytes
  have hr := B.returns
  have hts := atoms_spec (ws := wsX7_tryTwo) B.pre
  have hown : s.vm.findClass RX7 = some m.cls := findClass_of_methodNamed B.named
  have hlocks := B.notSynchronized
  have iX7 : ∀ w ∈ u_ws RX7 TX7 13, w ∈ wsX7_tryTwo := by decide +kernel
  have hl := lv_entry ([.ref a0, .int a, .int b]) (n := 7) (Nat.le_of_ble_eq_true rfl)
  rw [lg_entry_eq]
  generalize (lg_sl ([.ref a0, .int a, .int b]) ++ List.replicate (7 - (lg_sl ([.ref a0, .int a, .int b])).length) Slot.unset).toArray = ls at hl ⊢
  have hl : lv_has ls 7 [(0, .ref a0), (1, .int a), (2, .int b)] := hl
  obtain ⟨ln, rln, tln⟩ := hR.at a0 2 t_a0 (rfl : h_rs 8 2 = some (802, false)) (by decide)
  have aln : h_ad z a0 2 = ln := h_ad.at rln
  obtain ⟨st, rst, tst⟩ := hR.at a0 3 t_a0 (rfl : h_rs 8 3 = some (803, false)) (by decide)
  have ast : h_ad z a0 3 = st := h_ad.at rst
  obtain ⟨gn, rgn, tgn⟩ := hR.at a0 6 t_a0 (rfl : h_rs 8 6 = some (806, false)) (by decide)
  have agn : h_ad z a0 6 = gn := h_ad.at rgn
  obtain ⟨pt, rpt, tpt⟩ := hR.at a0 7 t_a0 (rfl : h_rs 8 7 = some (807, false)) (by decide)
  have apt : h_ad z a0 7 = pt := h_ad.at rpt
  obtain ⟨ct, rct, tct⟩ := hR.at a0 8 t_a0 (rfl : h_rs 8 8 = some (808, false)) (by decide)
  have act : h_ad z a0 8 = ct := h_ad.at rct
  obtain ⟨cr, rcr, tcr⟩ := hR.at a0 11 t_a0 (rfl : h_rs 8 11 = some (811, false)) (by decide)
  have acr : h_ad z a0 11 = cr := h_ad.at rcr
  obtain ⟨pr, rpr, tpr⟩ := hR.at a0 12 t_a0 (rfl : h_rs 8 12 = some (812, false)) (by decide)
  have apr : h_ad z a0 12 = pr := h_ad.at rpr
  have hgr0 := hgr
  unfold c_gr at hgr
  rw [ast, aln, agn, apt, act] at hgr
  obtain ⟨n60, hst, hln, hgp, hct⟩ := hgr
  have sb := fun c : Nat => q_sp_n (cb := CB) c n_
  have ca : ((a_t.toNat : Nat) : Int) = a_t := by omega
  have ka : a.toNatClampNeg = a_t.toNat := h_keq h_a (by omega) (by omega)
  have sp_a := q_sp_m (cb := CB) (n := n_) (show a_t.toNat + 1 ≤ 8 by omega)
  have sb_a := sb 8
  have sd_a : q_sp CB n_ (a_t.toNat + 1) = q_sp CB n_ a_t.toNat + q_ct (q_mc CB ((a_t.toNat : Nat) : Int)) n_ := rfl
  rw [ca] at sd_a
  have cb : ((b_t.toNat : Nat) : Int) = b_t := by omega
  have kb : b.toNatClampNeg = b_t.toNat := h_keq h_b (by omega) (by omega)
  have sp_b := q_sp_m (cb := CB) (n := n_) (show b_t.toNat + 1 ≤ 8 by omega)
  have sb_b := sb 8
  have sd_b : q_sp CB n_ (b_t.toNat + 1) = q_sp CB n_ b_t.toNat + q_ct (q_mc CB ((b_t.toNat : Nat) : Int)) n_ := rfl
  rw [cb] at sd_b
  have hI0 := hI
  refine lv_aload_n hx hb dX7_tryTwo_0 rfl (lv_at hl 0 rfl) ?_
  refine h_get (v := .ref st) hx hb hts iX7 hown g t_a0 (by decide) so_8 rfl 3 (by decide) (hts (.fieldLink RX7 22 "CapLeague$RingSearch" "start" "[I") (by decide +kernel)) rfl dX7_tryTwo_1 (by show va_rf (z.R a0 3) = _; rw [rst]; rfl) ?_
  refine lv_iload_n hx hb dX7_tryTwo_4 rfl (lv_at hl 1 rfl) ?_
  refine h_ald hx hb g tst (by decide) so_803 (xi_in (by rw [h_a]; omega) (by rw [h_a]; omega)) dX7_tryTwo_5 ?_
  refine lv_topi (fun v1 ev1 => ?_)
  have jv1 := hI.rd st a.toNatClampNeg tst ev1 (rfl : h_bd 803 _ = (0, 60))
  have st_v1 : v1.toInt = ((q_sp CB n_ a_t.toNat : Nat) : Int) := by rw [← hst a_t.toNat (by omega), ← ka, ev1]
  refine lv_istore_n (lv' := [(3, .int v1), (0, .ref a0), (1, .int a), (2, .int b)]) hx hb dX7_tryTwo_6 rfl hl (by decide) rfl (fun ls hl => ?_)
  have loop7_0 : ∀ (n : Nat) (I3 : tI) (H : Heap) (locs : List Loc) (ls : Array Slot) (v2 : Int32), h_G h_so h_fk E A z I3 L0 s s.heap H locs → h_I z I3 → h_F [(8, 10), (811, 999), (812, 999), (8, 9)] z I0 I3 → lv_has ls 7 [(0, .ref a0), (1, .int a), (2, .int b), (3, .int v2)] → (0 ≤ v2.toInt ∧ v2.toInt ≤ 60) → h_F [(8, 10), (811, 999), (812, 999), (8, 9)] z I0 I3 → (r_lp z J_ I3 a0 (q_mc CB a_t) (fun (s : tS) (p : Nat) => r_fp (q_mc CB b_t) (fun (s : tS) (q : Nat) => r_st2 GG a_t b_t p q s) s n_) s_ n_ (((v2.toInt).toNat) - q_sp CB n_ a_t.toNat)) → (((q_sp CB n_ a_t.toNat : Nat) : Int) ≤ v2.toInt) → (v2.toInt ≤ ((q_sp CB n_ (a_t.toNat + 1) : Nat) : Int)) → (60 - v2.toInt) < (n : Int) → W pr_ l ev_ (headSpec wsX7_tryTwo ({ frames := 2, cells := 0, slots := 0, locals := 128 })).room s m ([.ref a0, .int a, .int b] : List Value).toArray below meth cd_ H locs 0 0 (MQ below (va_Qv (fun (I1 : tI) => h_I z I1 ∧ h_F [(8, 10), (811, 999), (812, 999), (8, 9)] z I0 I1 ∧ (c_rs z J_ I1 a0 (r_two GG CB n_ a_t b_t s_))) (fun (I1 : tI) t => h_B E A z I1 L0 t) A) ([.ref a0, .int a, .int b] : List Value).toArray s 0 0 A) (F0 m 7 ls []) := by
    intro n
    induction n with
    | zero => intro I3 H locs ls v2 g hI hF hl jv2 hL7 hx7_0 hx7_1 hx7_2 hn; exact absurd hn (by omega)
    | succ n ih7 =>
      intro I3 H locs ls v2 g hI hF hl jv2 hL7 hx7_0 hx7_1 hx7_2 hn
      obtain ⟨t7, ta7, tb7⟩ := hx7_0
      refine lv_iload_n hx hb dX7_tryTwo_7 rfl (lv_at hl 3 rfl) ?_
      refine lv_aload_n hx hb dX7_tryTwo_8 rfl (lv_at hl 0 rfl) ?_
      refine h_get (v := .ref st) hx hb hts iX7 hown g t_a0 (by decide) so_8 rfl 3 (by decide) (hts (.fieldLink RX7 22 "CapLeague$RingSearch" "start" "[I") (by decide +kernel)) rfl dX7_tryTwo_9 (by show va_rf (z.R a0 3) = _; rw [rst]; rfl) ?_
      refine lv_iload_n hx hb dX7_tryTwo_12 rfl (lv_at hl 1 rfl) ?_
      refine lv_iconst (v := 1) hx hb dX7_tryTwo_13 (by decide) ?_
      refine lv_iadd hx hb dX7_tryTwo_14 ?_
      refine lv_topi (fun v4 ev4 => ?_)
      have jv4 : v4.toInt = a_t + 1 := xi_add ev4 h_a (by decide) (by omega) (by omega)
      refine h_ald hx hb g tst (by decide) so_803 (xi_in (by omega) (by omega)) dX7_tryTwo_15 ?_
      refine lv_topi (fun v5 ev5 => ?_)
      have jv5 := hI.rd st v4.toNatClampNeg tst ev5 (rfl : h_bd 803 _ = (0, 60))
      have st_v5 : v5.toInt = ((q_sp CB n_ (a_t.toNat + 1) : Nat) : Int) := by rw [← hst (a_t.toNat + 1) (by omega), ← (h_keq (i := v4) (t := v4.toInt) (k := a_t.toNat + 1) rfl (by omega) (by omega) : v4.toNatClampNeg = a_t.toNat + 1), ev5]; exact congrArg Int32.toInt (h_F.at hL7 tst rfl)
      refine lv_icmp_ge (tgt := 152) hx hb dX7_tryTwo_16 (by decide) (fun c6 => ?_) (fun c6 => ?_)
      · have ic6 := (xi_le c6 rfl rfl : v5.toInt ≤ v2.toInt)
        have hS := g.2.1
        exact W.vret hx hb hr (fun t ht hW => ⟨⟨I3, rfl, ⟨hI, hF, (by show c_rs z J_ I3 a0 (r_two GG CB n_ a_t b_t s_); unfold r_two; rw [← ta7.e (by omega)]; exact tb7)⟩, h_ret g ht⟩, hS.F ht⟩) hS.2.2 dX7_tryTwo_152
      · have ic6 := (xi_nle c6 rfl rfl : v2.toInt < v5.toInt)
        obtain ⟨pv, epv⟩ : ∃ x : Int32, x = I0 ln v2.toNatClampNeg := ⟨_, rfl⟩
        have jpv := hI0.rd ln _ tln epv (rfl : h_bd 802 _ = (0, 59))
        have ki_pv : v2.toNatClampNeg = v2.toInt.toNat := h_keq rfl (by omega) (by omega)
        obtain ⟨p0, hp_pv, hP0, hk_pv⟩ := q_ct_ex (P := q_mc CB a_t) (k := v2.toInt.toNat - q_sp CB n_ a_t.toNat) (n := n_) (by omega)
        have hc_pv := q_mc_i hP0
        have l0 := hln a_t.toNat p0 (by omega) hp_pv (by rw [ca]; exact hc_pv)
        rw [ca, show q_sp CB n_ a_t.toNat + q_ct (q_mc CB a_t) p0 = v2.toInt.toNat by omega, ← ki_pv, ← epv] at l0
        have ep0 : p0 = pv.toInt.toNat := by omega
        subst ep0
        have kp_pv : pv.toNatClampNeg = pv.toInt.toNat := h_keq rfl (by omega) (by omega)
        have hc_pv9 : (CB pv.toInt.toNat).toInt = ((a_t.toNat : Nat) : Int) := by rw [ca]; exact hc_pv
        have gp_pv := hgp a_t.toNat pv.toInt.toNat (by omega) hp_pv hc_pv9
        have ct_pv := hct a_t.toNat (by omega)
        rw [ca] at gp_pv
        obtain ⟨⟨gg_pv, gl_pv, gh_pv⟩, gt_pv⟩ := gp_pv
        refine lv_aload_n hx hb dX7_tryTwo_19 rfl (lv_at hl 0 rfl) ?_
        refine h_get (v := .ref st) hx hb hts iX7 hown g t_a0 (by decide) so_8 rfl 3 (by decide) (hts (.fieldLink RX7 22 "CapLeague$RingSearch" "start" "[I") (by decide +kernel)) rfl dX7_tryTwo_20 (by show va_rf (z.R a0 3) = _; rw [rst]; rfl) ?_
        refine lv_iload_n hx hb dX7_tryTwo_23 rfl (lv_at hl 2 rfl) ?_
        refine h_ald hx hb g tst (by decide) so_803 (xi_in (by rw [h_b]; omega) (by rw [h_b]; omega)) dX7_tryTwo_24 ?_
        refine lv_topi (fun v7 ev7 => ?_)
        have jv7 := hI.rd st b.toNatClampNeg tst ev7 (rfl : h_bd 803 _ = (0, 60))
        have st_v7 : v7.toInt = ((q_sp CB n_ b_t.toNat : Nat) : Int) := by rw [← hst b_t.toNat (by omega), ← kb, ev7]; exact congrArg Int32.toInt (h_F.at hL7 tst rfl)
        refine lv_istore (lv' := [(4, .int v7), (0, .ref a0), (1, .int a), (2, .int b), (3, .int v2)]) hx hb dX7_tryTwo_25 hl (by decide) rfl (fun ls hl => ?_)
        have loop27_1 : ∀ (n : Nat) (I9 : tI) (H : Heap) (locs : List Loc) (ls : Array Slot) (v8 : Int32), h_G h_so h_fk E A z I9 L0 s s.heap H locs → h_I z I9 → h_F [(8, 10), (811, 999), (812, 999), (8, 9)] z I0 I9 → lv_has ls 7 [(0, .ref a0), (1, .int a), (2, .int b), (3, .int v2), (4, .int v8)] → (0 ≤ v8.toInt ∧ v8.toInt ≤ 60) → h_F [(8, 10), (811, 999), (812, 999), (8, 9)] z I3 I9 → (r_lp z J_ I9 a0 (q_mc CB b_t) (fun (s : tS) (q : Nat) => r_st2 GG a_t b_t pv.toInt.toNat q s) t7 n_ (((v8.toInt).toNat) - q_sp CB n_ b_t.toNat)) → (((q_sp CB n_ b_t.toNat : Nat) : Int) ≤ v8.toInt) → (v8.toInt ≤ ((q_sp CB n_ (b_t.toNat + 1) : Nat) : Int)) → (60 - v8.toInt) < (n : Int) → W pr_ l ev_ (headSpec wsX7_tryTwo ({ frames := 2, cells := 0, slots := 0, locals := 128 })).room s m ([.ref a0, .int a, .int b] : List Value).toArray below meth cd_ H locs 0 0 (MQ below (va_Qv (fun (I1 : tI) => h_I z I1 ∧ h_F [(8, 10), (811, 999), (812, 999), (8, 9)] z I0 I1 ∧ (c_rs z J_ I1 a0 (r_two GG CB n_ a_t b_t s_))) (fun (I1 : tI) t => h_B E A z I1 L0 t) A) ([.ref a0, .int a, .int b] : List Value).toArray s 0 0 A) (F0 m 27 ls []) := by
          intro n
          induction n with
          | zero => intro I9 H locs ls v8 g hI hF hl jv8 hL27 hx27_0 hx27_1 hx27_2 hn; exact absurd hn (by omega)
          | succ n ih27 =>
            intro I9 H locs ls v8 g hI hF hl jv8 hL27 hx27_0 hx27_1 hx27_2 hn
            obtain ⟨t27, ta27, tb27⟩ := hx27_0
            refine lv_iload hx hb dX7_tryTwo_27 (lv_at hl 4 rfl) ?_
            refine lv_aload_n hx hb dX7_tryTwo_29 rfl (lv_at hl 0 rfl) ?_
            refine h_get (v := .ref st) hx hb hts iX7 hown g t_a0 (by decide) so_8 rfl 3 (by decide) (hts (.fieldLink RX7 22 "CapLeague$RingSearch" "start" "[I") (by decide +kernel)) rfl dX7_tryTwo_30 (by show va_rf (z.R a0 3) = _; rw [rst]; rfl) ?_
            refine lv_iload_n hx hb dX7_tryTwo_33 rfl (lv_at hl 2 rfl) ?_
            refine lv_iconst (v := 1) hx hb dX7_tryTwo_34 (by decide) ?_
            refine lv_iadd hx hb dX7_tryTwo_35 ?_
            refine lv_topi (fun v10 ev10 => ?_)
            have jv10 : v10.toInt = b_t + 1 := xi_add ev10 h_b (by decide) (by omega) (by omega)
            refine h_ald hx hb g tst (by decide) so_803 (xi_in (by omega) (by omega)) dX7_tryTwo_36 ?_
            refine lv_topi (fun v11 ev11 => ?_)
            have jv11 := hI.rd st v10.toNatClampNeg tst ev11 (rfl : h_bd 803 _ = (0, 60))
            have st_v11 : v11.toInt = ((q_sp CB n_ (b_t.toNat + 1) : Nat) : Int) := by rw [← hst (b_t.toNat + 1) (by omega), ← (h_keq (i := v10) (t := v10.toInt) (k := b_t.toNat + 1) rfl (by omega) (by omega) : v10.toNatClampNeg = b_t.toNat + 1), ev11]; exact congrArg Int32.toInt ((h_F.at hL27 tst rfl).trans (h_F.at hL7 tst rfl))
            refine lv_icmp_ge (tgt := 146) hx hb dX7_tryTwo_37 (by decide) (fun c12 => ?_) (fun c12 => ?_)
            · have ic12 := (xi_le c12 rfl rfl : v11.toInt ≤ v8.toInt)
              obtain ⟨v13, ev13⟩ : ∃ z : Int32, z = v2 + 1 := ⟨_, rfl⟩
              have jv13 : v13.toInt = v2.toInt + 1 := xi_add ev13 rfl (by decide) (by omega) (by omega)
              refine lv_iinc (v := v13) (lv' := [(3, .int v13), (0, .ref a0), (1, .int a), (2, .int b), (4, .int v8)]) hx hb dX7_tryTwo_146 hl (k := 3) rfl (by rw [ev13]; rfl) (by decide) rfl (fun ls hl => ?_)
              refine lv_goto (tgt := 7) hx hb dX7_tryTwo_149 (by decide) ?_
              exact ih7 I9 _ _ _ v13 g hI hF (lv_sub hl [1, 2, 3, 0] rfl) (by omega) (h_F.call (h_F.call (h_F.rf : h_F [(8, 10), (811, 999), (812, 999), (8, 9)] z I0 I0) hL7 rfl) hL27 rfl) (⟨(r_fp (q_mc CB b_t) (fun (s : tS) (q : Nat) => r_st2 GG a_t b_t pv.toInt.toNat q s) t7 n_), by rw [show ((v13.toInt).toNat - q_sp CB n_ a_t.toNat) = ((v2.toInt).toNat - q_sp CB n_ a_t.toNat) + 1 by omega]; exact ta7.s hp_pv (q_mc_y hc_pv) hk_pv, by rw [← ta27.e (by omega)]; exact tb27⟩) (by omega) (by omega) (by omega)
            · have ic12 := (xi_nle c12 rfl rfl : v8.toInt < v11.toInt)
              obtain ⟨qv, eqv⟩ : ∃ x : Int32, x = I0 ln v8.toNatClampNeg := ⟨_, rfl⟩
              have jqv := hI0.rd ln _ tln eqv (rfl : h_bd 802 _ = (0, 59))
              have ki_qv : v8.toNatClampNeg = v8.toInt.toNat := h_keq rfl (by omega) (by omega)
              obtain ⟨p0, hp_qv, hP0, hk_qv⟩ := q_ct_ex (P := q_mc CB b_t) (k := v8.toInt.toNat - q_sp CB n_ b_t.toNat) (n := n_) (by omega)
              have hc_qv := q_mc_i hP0
              have l0 := hln b_t.toNat p0 (by omega) hp_qv (by rw [cb]; exact hc_qv)
              rw [cb, show q_sp CB n_ b_t.toNat + q_ct (q_mc CB b_t) p0 = v8.toInt.toNat by omega, ← ki_qv, ← eqv] at l0
              have ep0 : p0 = qv.toInt.toNat := by omega
              subst ep0
              have kp_qv : qv.toNatClampNeg = qv.toInt.toNat := h_keq rfl (by omega) (by omega)
              have hc_qv9 : (CB qv.toInt.toNat).toInt = ((b_t.toNat : Nat) : Int) := by rw [cb]; exact hc_qv
              have gp_qv := hgp b_t.toNat qv.toInt.toNat (by omega) hp_qv hc_qv9
              have ct_qv := hct b_t.toNat (by omega)
              rw [cb] at gp_qv
              obtain ⟨⟨gg_qv, gl_qv, gh_qv⟩, gt_qv⟩ := gp_qv
              refine lv_aload_n hx hb dX7_tryTwo_40 rfl (lv_at hl 0 rfl) ?_
              refine h_get (v := .ref gn) hx hb hts iX7 hown g t_a0 (by decide) so_8 rfl 6 (by decide) (hts (.fieldLink RX7 33 "CapLeague$RingSearch" "gains" "[[I") (by decide +kernel)) rfl dX7_tryTwo_41 (by show va_rf (z.R a0 6) = _; rw [rgn]; rfl) ?_
              refine lv_aload_n hx hb dX7_tryTwo_44 rfl (lv_at hl 0 rfl) ?_
              refine h_get (v := .ref ln) hx hb hts iX7 hown g t_a0 (by decide) so_8 rfl 2 (by decide) (hts (.fieldLink RX7 18 "CapLeague$RingSearch" "line" "[I") (by decide +kernel)) rfl dX7_tryTwo_45 (by show va_rf (z.R a0 2) = _; rw [rln]; rfl) ?_
              refine lv_iload_n hx hb dX7_tryTwo_48 rfl (lv_at hl 3 rfl) ?_
              refine h_ald hx hb g tln (by decide) so_802 (xi_in (by omega) (by omega)) dX7_tryTwo_49 ?_
              refine xw_i ((h_F.at hL27 tln rfl).trans ((h_F.at hL7 tln rfl).trans (epv.symm))) ?_
              obtain ⟨b14, rb14, tb14⟩ := hR.at gn pv.toNatClampNeg tgn (rfl : h_rs 806 _ = some (856, false)) (by rw [so_806]; exact h_lt (n := 60) (xi_in (by omega) (by omega)))
              refine h_aldA (v := .ref b14) hx hb g tgn (by decide) so_806 (xi_in (by omega) (by omega)) dX7_tryTwo_50 (by rw [rb14]; rfl) ?_
              have ar_b14 : h_ad z gn pv.toInt.toNat = b14 := by rw [← kp_pv]; exact h_ad.at rb14
              refine lv_aload_n hx hb dX7_tryTwo_51 rfl (lv_at hl 0 rfl) ?_
              refine h_get (v := .ref ln) hx hb hts iX7 hown g t_a0 (by decide) so_8 rfl 2 (by decide) (hts (.fieldLink RX7 18 "CapLeague$RingSearch" "line" "[I") (by decide +kernel)) rfl dX7_tryTwo_52 (by show va_rf (z.R a0 2) = _; rw [rln]; rfl) ?_
              refine lv_iload hx hb dX7_tryTwo_55 (lv_at hl 4 rfl) ?_
              refine h_ald hx hb g tln (by decide) so_802 (xi_in (by omega) (by omega)) dX7_tryTwo_57 ?_
              refine xw_i ((h_F.at hL27 tln rfl).trans ((h_F.at hL7 tln rfl).trans (eqv.symm))) ?_
              refine h_ald hx hb g tb14 (by decide) so_856 (xi_in (by omega) (by omega)) dX7_tryTwo_58 ?_
              refine lv_topi (fun v15 ev15 => ?_)
              have jv15 := hI.rd b14 qv.toNatClampNeg tb14 ev15 (rfl : h_bd 856 _ = ((-2147483648), 2147483647))
              have gE_v15 := gg_pv qv.toInt.toNat hp_qv (by rw [hc_qv]; omega) (by rw [hc_qv]; omega)
              rw [show I0 (h_ad z gn pv.toInt.toNat) qv.toInt.toNat = v15 by rw [ar_b14, ← kp_qv, ev15]; exact ((h_F.at hL27 tb14 rfl).trans (h_F.at hL7 tb14 rfl)).symm] at gE_v15
              have nb_v15 : v15.toInt ≤ 9999 := by omega
              refine lv_istore (lv' := [(5, .int v15), (0, .ref a0), (1, .int a), (2, .int b), (3, .int v2), (4, .int v8)]) hx hb dX7_tryTwo_59 hl (by decide) rfl (fun ls hl => ?_)
              refine lv_aload_n hx hb dX7_tryTwo_61 rfl (lv_at hl 1 rfl) ?_
              refine h_get (v := .ref gn) hx hb hts iX7 hown g t_a0 (by decide) so_8 rfl 6 (by decide) (hts (.fieldLink RX7 33 "CapLeague$RingSearch" "gains" "[[I") (by decide +kernel)) rfl dX7_tryTwo_62 (by show va_rf (z.R a0 6) = _; rw [rgn]; rfl) ?_
              refine lv_aload_n hx hb dX7_tryTwo_65 rfl (lv_at hl 1 rfl) ?_
              refine h_get (v := .ref ln) hx hb hts iX7 hown g t_a0 (by decide) so_8 rfl 2 (by decide) (hts (.fieldLink RX7 18 "CapLeague$RingSearch" "line" "[I") (by decide +kernel)) rfl dX7_tryTwo_66 (by show va_rf (z.R a0 2) = _; rw [rln]; rfl) ?_
              refine lv_iload hx hb dX7_tryTwo_69 (lv_at hl 5 rfl) ?_
              refine h_ald hx hb g tln (by decide) so_802 (xi_in (by omega) (by omega)) dX7_tryTwo_71 ?_
              refine xw_i ((h_F.at hL27 tln rfl).trans ((h_F.at hL7 tln rfl).trans (eqv.symm))) ?_
              obtain ⟨b16, rb16, tb16⟩ := hR.at gn qv.toNatClampNeg tgn (rfl : h_rs 806 _ = some (856, false)) (by rw [so_806]; exact h_lt (n := 60) (xi_in (by omega) (by omega)))
              refine h_aldA (v := .ref b16) hx hb g tgn (by decide) so_806 (xi_in (by omega) (by omega)) dX7_tryTwo_72 (by rw [rb16]; rfl) ?_
              have ar_b16 : h_ad z gn qv.toInt.toNat = b16 := by rw [← kp_qv]; exact h_ad.at rb16
              refine lv_aload_n hx hb dX7_tryTwo_73 rfl (lv_at hl 1 rfl) ?_
              refine h_get (v := .ref ln) hx hb hts iX7 hown g t_a0 (by decide) so_8 rfl 2 (by decide) (hts (.fieldLink RX7 18 "CapLeague$RingSearch" "line" "[I") (by decide +kernel)) rfl dX7_tryTwo_74 (by show va_rf (z.R a0 2) = _; rw [rln]; rfl) ?_
              refine lv_iload_n hx hb dX7_tryTwo_77 rfl (lv_at hl 4 rfl) ?_
              refine h_ald hx hb g tln (by decide) so_802 (xi_in (by omega) (by omega)) dX7_tryTwo_78 ?_
              refine xw_i ((h_F.at hL27 tln rfl).trans ((h_F.at hL7 tln rfl).trans (epv.symm))) ?_
              refine h_ald hx hb g tb16 (by decide) so_856 (xi_in (by omega) (by omega)) dX7_tryTwo_79 ?_
              refine lv_topi (fun v17 ev17 => ?_)
              have jv17 := hI.rd b16 pv.toNatClampNeg tb16 ev17 (rfl : h_bd 856 _ = ((-2147483648), 2147483647))
              have gE_v17 := gg_qv pv.toInt.toNat hp_pv (by rw [hc_pv]; omega) (by rw [hc_pv]; omega)
              rw [show I0 (h_ad z gn qv.toInt.toNat) pv.toInt.toNat = v17 by rw [ar_b16, ← kp_pv, ev17]; exact ((h_F.at hL27 tb16 rfl).trans (h_F.at hL7 tb16 rfl)).symm] at gE_v17
              have nb_v17 : v17.toInt ≤ 9999 := by omega
              refine lv_istore (lv' := [(6, .int v17), (5, .int v15), (0, .ref a0), (1, .int a), (2, .int b), (3, .int v2), (4, .int v8)]) hx hb dX7_tryTwo_80 hl (by decide) rfl (fun ls hl => ?_)
              refine lv_iload hx hb dX7_tryTwo_82 (lv_at hl 1 rfl) ?_
              refine lv_if_le (tgt := 140) hx hb dX7_tryTwo_84 (by decide) (fun c18 => ?_) (fun c18 => ?_)
              · have ic18 := (xi_le c18 rfl (by decide) : v15.toInt ≤ 0)
                obtain ⟨v19, ev19⟩ : ∃ z : Int32, z = v8 + 1 := ⟨_, rfl⟩
                have jv19 : v19.toInt = v8.toInt + 1 := xi_add ev19 rfl (by decide) (by omega) (by omega)
                refine lv_iinc (v := v19) (lv' := [(4, .int v19), (6, .int v17), (5, .int v15), (0, .ref a0), (1, .int a), (2, .int b), (3, .int v2)]) hx hb dX7_tryTwo_140 hl (k := 6) rfl (by rw [ev19]; rfl) (by decide) rfl (fun ls hl => ?_)
                refine lv_goto (tgt := 27) hx hb dX7_tryTwo_143 (by decide) ?_
                exact ih27 I9 _ _ _ v19 g hI hF (lv_sub hl [3, 4, 5, 6, 0] rfl) (by omega) (h_F.call (h_F.rf : h_F [(8, 10), (811, 999), (812, 999), (8, 9)] z I3 I3) hL27 rfl) (⟨(r_st2 GG a_t b_t pv.toInt.toNat qv.toInt.toNat t27), by rw [show ((v19.toInt).toNat - q_sp CB n_ b_t.toNat) = ((v8.toInt).toNat - q_sp CB n_ b_t.toNat) + 1 by omega]; exact ta27.s hp_qv (q_mc_y hc_qv) hk_qv, by rw [show (r_st2 GG a_t b_t pv.toInt.toNat qv.toInt.toNat t27) = t27 from r_st2_n (by omega)]; exact tb27⟩) (by omega) (by omega) (by omega)
              · have ic18 := (xi_nle c18 rfl (by decide) : 0 < v15.toInt)
                refine lv_iload hx hb dX7_tryTwo_87 (lv_at hl 0 rfl) ?_
                refine lv_if_le (tgt := 140) hx hb dX7_tryTwo_89 (by decide) (fun c20 => ?_) (fun c20 => ?_)
                · have ic20 := (xi_le c20 rfl (by decide) : v17.toInt ≤ 0)
                  obtain ⟨v21, ev21⟩ : ∃ z : Int32, z = v8 + 1 := ⟨_, rfl⟩
                  have jv21 : v21.toInt = v8.toInt + 1 := xi_add ev21 rfl (by decide) (by omega) (by omega)
                  refine lv_iinc (v := v21) (lv' := [(4, .int v21), (6, .int v17), (5, .int v15), (0, .ref a0), (1, .int a), (2, .int b), (3, .int v2)]) hx hb dX7_tryTwo_140 hl (k := 6) rfl (by rw [ev21]; rfl) (by decide) rfl (fun ls hl => ?_)
                  refine lv_goto (tgt := 27) hx hb dX7_tryTwo_143 (by decide) ?_
                  exact ih27 I9 _ _ _ v21 g hI hF (lv_sub hl [3, 4, 5, 6, 0] rfl) (by omega) (h_F.call (h_F.rf : h_F [(8, 10), (811, 999), (812, 999), (8, 9)] z I3 I3) hL27 rfl) (⟨(r_st2 GG a_t b_t pv.toInt.toNat qv.toInt.toNat t27), by rw [show ((v21.toInt).toNat - q_sp CB n_ b_t.toNat) = ((v8.toInt).toNat - q_sp CB n_ b_t.toNat) + 1 by omega]; exact ta27.s hp_qv (q_mc_y hc_qv) hk_qv, by rw [show (r_st2 GG a_t b_t pv.toInt.toNat qv.toInt.toNat t27) = t27 from r_st2_n (by omega)]; exact tb27⟩) (by omega) (by omega) (by omega)
                · have ic20 := (xi_nle c20 rfl (by decide) : 0 < v17.toInt)
                  refine lv_iload hx hb dX7_tryTwo_92 (lv_at hl 1 rfl) ?_
                  refine lv_iload hx hb dX7_tryTwo_94 (lv_at hl 0 rfl) ?_
                  refine lv_iadd hx hb dX7_tryTwo_96 ?_
                  refine lv_topi (fun v22 ev22 => ?_)
                  have jv22 : v22.toInt = v15.toInt + v17.toInt := xi_add ev22 rfl rfl (by omega) (by omega)
                  refine lv_aload_n hx hb dX7_tryTwo_97 rfl (lv_at hl 2 rfl) ?_
                  refine h_get (v := .int (I9 a0 9)) hx hb hts iX7 hown g t_a0 (by decide) so_8 rfl 9 (by decide) (hts (.fieldLink RX7 59 "CapLeague$RingSearch" "best" "I") (by decide +kernel)) rfl dX7_tryTwo_98 rfl ?_
                  refine lv_topi (fun v23 ev23 => ?_)
                  have jv23 := hI.rd a0 9 t_a0 ev23 (rfl : h_bd 8 9 = ((-2147483648), 2147483647))
                  have bst : v23.toInt = t27.1 := by rw [ev23]; exact tb27.1
                  refine lv_icmp_le (tgt := 140) hx hb dX7_tryTwo_101 (by decide) (fun c24 => ?_) (fun c24 => ?_)
                  · have ic24 := (xi_le c24 rfl rfl : v22.toInt ≤ v23.toInt)
                    obtain ⟨v25, ev25⟩ : ∃ z : Int32, z = v8 + 1 := ⟨_, rfl⟩
                    have jv25 : v25.toInt = v8.toInt + 1 := xi_add ev25 rfl (by decide) (by omega) (by omega)
                    refine lv_iinc (v := v25) (lv' := [(4, .int v25), (6, .int v17), (5, .int v15), (0, .ref a0), (1, .int a), (2, .int b), (3, .int v2)]) hx hb dX7_tryTwo_140 hl (k := 6) rfl (by rw [ev25]; rfl) (by decide) rfl (fun ls hl => ?_)
                    refine lv_goto (tgt := 27) hx hb dX7_tryTwo_143 (by decide) ?_
                    exact ih27 I9 _ _ _ v25 g hI hF (lv_sub hl [3, 4, 5, 6, 0] rfl) (by omega) (h_F.call (h_F.rf : h_F [(8, 10), (811, 999), (812, 999), (8, 9)] z I3 I3) hL27 rfl) (⟨(r_st2 GG a_t b_t pv.toInt.toNat qv.toInt.toNat t27), by rw [show ((v25.toInt).toNat - q_sp CB n_ b_t.toNat) = ((v8.toInt).toNat - q_sp CB n_ b_t.toNat) + 1 by omega]; exact ta27.s hp_qv (q_mc_y hc_qv) hk_qv, by rw [show (r_st2 GG a_t b_t pv.toInt.toNat qv.toInt.toNat t27) = t27 from r_st2_n (by omega)]; exact tb27⟩) (by omega) (by omega) (by omega)
                  · have ic24 := (xi_nle c24 rfl rfl : v23.toInt < v22.toInt)
                    refine lv_aload_n hx hb dX7_tryTwo_104 rfl (lv_at hl 2 rfl) ?_
                    refine lv_iload hx hb dX7_tryTwo_105 (lv_at hl 1 rfl) ?_
                    refine lv_iload hx hb dX7_tryTwo_107 (lv_at hl 0 rfl) ?_
                    refine lv_iadd hx hb dX7_tryTwo_109 ?_
                    refine xw_i (v := v22) ev22.symm ?_
                    refine h_putI (ty := .int) (v := v22) hx hb hts iX7 tyX7 tyX7_ok nmX7 hown g t_a0 (by decide) so_8 rfl 9 (by decide) rfl (hts (.fieldLink RX7 59 "CapLeague$RingSearch" "best" "I") (by decide +kernel)) rfl rfl (by decide +kernel) rfl rfl dX7_tryTwo_110 (fun I26 H locs eI26 g => ?_)
                    have hI := hI.wr eI26 t_a0 (rfl : h_bd 8 9 = ((-2147483648), 2147483647)) (xi_lo _) (Int.le_of_lt_add_one (xi_hi _))
                    have hF := hF.wr eI26 t_a0 rfl
                    refine lv_aload_n hx hb dX7_tryTwo_113 rfl (lv_at hl 2 rfl) ?_
                    refine lv_iconst (v := 2) hx hb dX7_tryTwo_114 (by decide) ?_
                    refine lv_iconst (v := 0) hx hb dX7_tryTwo_115 (by decide) ?_
                    refine lv_iload_n hx hb dX7_tryTwo_116 rfl (lv_at hl 3 rfl) ?_
                    refine lv_aload_n hx hb dX7_tryTwo_117 rfl (lv_at hl 2 rfl) ?_
                    refine h_get (v := .ref ln) hx hb hts iX7 hown g t_a0 (by decide) so_8 rfl 2 (by decide) (hts (.fieldLink RX7 18 "CapLeague$RingSearch" "line" "[I") (by decide +kernel)) rfl dX7_tryTwo_118 (by show va_rf (z.R a0 2) = _; rw [rln]; rfl) ?_
                    refine lv_iload_n hx hb dX7_tryTwo_121 rfl (lv_at hl 5 rfl) ?_
                    refine h_ald hx hb g tln (by decide) so_802 (xi_in (by omega) (by omega)) dX7_tryTwo_122 ?_
                    refine xw_i ((h_n1 eI26 tln t_a0 (by decide)).trans ((h_F.at hL27 tln rfl).trans ((h_F.at hL7 tln rfl).trans (epv.symm)))) ?_
                    refine va_callv (va_runV (As := [.int 2, .int 0, .int a, .int pv]) (rest := []) ⟨hx, hb, hml, hown, hts⟩ (tX7_keepR l E X A z I26 L0 a0 t_a0 2 (2) (by decide) (by omega) 0 (0) (by decide) (by omega) a (a_t) h_a pv (pv.toInt) rfl) (cwV 4 hts gX7_tryTwo_X7_keep rfl rfl rfl (by decide +kernel) ⟨Nat.le_of_ble_eq_true rfl, Nat.le_of_ble_eq_true rfl⟩) ⟨h_blind _ _ _ _ _ _ _, h_recv g t_a0 (by decide) so_8 (q := (RX7, TX7, 13)) rfl, h_pre _ hE hk hX hA hI hR g⟩ rfl rfl hl.1 rfl (lv_room (Nat.le_of_ble_eq_true rfl)) dX7_tryTwo_123 ⟨Nat.le_of_ble_eq_true rfl, Nat.le_of_ble_eq_true rfl⟩) g.2.1 (fun q _ h => h) (fun q h => h) (fun I28 t H1 locs ht hvm h27 hB hz1 hk1 hS => ?_)
                    obtain ⟨hI, fh27, h27⟩ := h27
                    replace g := h_after g hB ht hS
                    generalize H1 = H at g
                    clear hB hk1 hz1 ht hvm hS
                    have hF := hF.call fh27 rfl
                    obtain ⟨h27p0, h27p1⟩ := h27
                    refine lv_aload_n hx hb dX7_tryTwo_126 rfl (lv_at hl 2 rfl) ?_
                    refine lv_iconst (v := 2) hx hb dX7_tryTwo_127 (by decide) ?_
                    refine lv_iconst (v := 1) hx hb dX7_tryTwo_128 (by decide) ?_
                    refine lv_iload_n hx hb dX7_tryTwo_129 rfl (lv_at hl 4 rfl) ?_
                    refine lv_aload_n hx hb dX7_tryTwo_130 rfl (lv_at hl 2 rfl) ?_
                    refine h_get (v := .ref ln) hx hb hts iX7 hown g t_a0 (by decide) so_8 rfl 2 (by decide) (hts (.fieldLink RX7 18 "CapLeague$RingSearch" "line" "[I") (by decide +kernel)) rfl dX7_tryTwo_131 (by show va_rf (z.R a0 2) = _; rw [rln]; rfl) ?_
                    refine lv_iload hx hb dX7_tryTwo_134 (lv_at hl 6 rfl) ?_
                    refine h_ald hx hb g tln (by decide) so_802 (xi_in (by omega) (by omega)) dX7_tryTwo_136 ?_
                    refine xw_i ((h_F.at fh27 tln rfl).trans ((h_n1 eI26 tln t_a0 (by decide)).trans ((h_F.at hL27 tln rfl).trans ((h_F.at hL7 tln rfl).trans (eqv.symm))))) ?_
                    refine va_callv (va_runV (As := [.int 2, .int 1, .int b, .int qv]) (rest := []) ⟨hx, hb, hml, hown, hts⟩ (tX7_keepR l E X A z I28 L0 a0 t_a0 2 (2) (by decide) (by omega) 1 (1) (by decide) (by omega) b (b_t) h_b qv (qv.toInt) rfl) (cwV 4 hts gX7_tryTwo_X7_keep rfl rfl rfl (by decide +kernel) ⟨Nat.le_of_ble_eq_true rfl, Nat.le_of_ble_eq_true rfl⟩) ⟨h_blind _ _ _ _ _ _ _, h_recv g t_a0 (by decide) so_8 (q := (RX7, TX7, 13)) rfl, h_pre _ hE hk hX hA hI hR g⟩ rfl rfl hl.1 rfl (lv_room (Nat.le_of_ble_eq_true rfl)) dX7_tryTwo_137 ⟨Nat.le_of_ble_eq_true rfl, Nat.le_of_ble_eq_true rfl⟩) g.2.1 (fun q _ h => h) (fun q h => h) (fun I30 t H1 locs ht hvm h29 hB hz1 hk1 hS => ?_)
                    obtain ⟨hI, fh29, h29⟩ := h29
                    replace g := h_after g hB ht hS
                    generalize H1 = H at g
                    clear hB hk1 hz1 ht hvm hS
                    have hF := hF.call fh29 rfl
                    obtain ⟨h29p0, h29p1⟩ := h29
                    obtain ⟨v31, ev31⟩ : ∃ z : Int32, z = v8 + 1 := ⟨_, rfl⟩
                    have jv31 : v31.toInt = v8.toInt + 1 := xi_add ev31 rfl (by decide) (by omega) (by omega)
                    refine lv_iinc (v := v31) (lv' := [(4, .int v31), (6, .int v17), (5, .int v15), (0, .ref a0), (1, .int a), (2, .int b), (3, .int v2)]) hx hb dX7_tryTwo_140 hl (k := 6) rfl (by rw [ev31]; rfl) (by decide) rfl (fun ls hl => ?_)
                    refine lv_goto (tgt := 27) hx hb dX7_tryTwo_143 (by decide) ?_
                    exact ih27 I30 _ _ _ v31 g hI hF (lv_sub hl [3, 4, 5, 6, 0] rfl) (by omega) (h_F.call (h_F.call (h_F.wr (h_F.call (h_F.rf : h_F [(8, 10), (811, 999), (812, 999), (8, 9)] z I3 I3) hL27 rfl) eI26 t_a0 rfl) fh27 rfl) fh29 rfl) (⟨(r_st2 GG a_t b_t pv.toInt.toNat qv.toInt.toNat t27), by rw [show ((v31.toInt).toNat - q_sp CB n_ b_t.toNat) = ((v8.toInt).toNat - q_sp CB n_ b_t.toNat) + 1 by omega]; exact ta27.s hp_qv (q_mc_y hc_qv) hk_qv, by rw [show (r_st2 GG a_t b_t pv.toInt.toNat qv.toInt.toNat t27) = _ from r_st2_y gE_v15.1.symm gE_v17.1.symm (by omega) (by omega) (by omega)]; exact c_rs_2 (by rw [(h_F.at fh29 t_a0 rfl).trans ((h_F.at fh27 t_a0 rfl).trans (h_n0 eI26))]; omega) (by rw [h29p0]; decide) (by rw [h29p1.1, if_neg (by decide)]; rw [h27p1.1, if_pos (by decide)]; exact h_a) (by rw [h29p1.2, if_neg (by decide)]; rw [h27p1.2, if_pos (by decide)]; omega) (by rw [h29p1.1, if_pos (by decide)]; exact h_b) (by rw [h29p1.2, if_pos (by decide)]; omega)⟩) (by omega) (by omega) (by omega)
        exact loop27_1 _ I3 _ _ _ v7 g hI hF (lv_sub hl [1, 2, 3, 4, 0] rfl) (by omega) (h_F.rf : h_F [(8, 10), (811, 999), (812, 999), (8, 9)] z I3 I3) (⟨t7, by rw [show ((v7.toInt).toNat - q_sp CB n_ b_t.toNat) = 0 by omega]; exact r_at.z, tb7⟩) (by omega) (by omega) (show (60 - v7.toInt) < (((60 - v7.toInt).toNat + 1 : Nat) : Int) by omega)
  exact loop7_0 _ I0 _ _ _ v1 g hI hF (lv_sub hl [1, 2, 3, 0] rfl) (by omega) (h_F.rf : h_F [(8, 10), (811, 999), (812, 999), (8, 9)] z I0 I0) (⟨s_, by rw [show ((v1.toInt).toNat - q_sp CB n_ a_t.toNat) = 0 by omega]; exact r_at.z, hs⟩) (by omega) (by omega) (show (60 - v1.toInt) < (((60 - v1.toInt).toNat + 1 : Nat) : Int) by omega)
set_option maxHeartbeats 4000000 in
set_option maxRecDepth 100000 in
theorem tX7_tryThirdR (l : Launch) (E : tE) (X : tX) (A : Nat → Prop) (z : tZ) (I0 : tI) (L0 : tL) (a0 : Nat) (t_a0 : z.ty a0 = 8) (c : Int32) (c_t : Int) (h_c : c.toInt = c_t) (b_c : 0 ≤ c_t ∧ c_t ≤ 7) (a : Int32) (a_t : Int) (h_a : a.toInt = a_t) (b_a : 0 ≤ a_t ∧ a_t ≤ 7) (p : Int32) (p_t : Int) (h_p : p.toInt = p_t) (b_p : 0 ≤ p_t ∧ p_t ≤ 59) (b : Int32) (b_t : Int) (h_b : b.toInt = b_t) (b_b : 0 ≤ b_t ∧ b_t ≤ 7) (q : Int32) (q_t : Int) (h_q : q.toInt = q_t) (b_q : 0 ≤ q_t ∧ q_t ≤ 59) (J_ : tI) (n_ : Nat) (CB : Nat → Int32) (GG : Int → Nat → Nat → Int) (s_ : tS) (hgr : c_gr z I0 a0 n_ CB GG) (hs : c_rs z J_ I0 a0 s_) (hne : a_t ≠ b_t ∧ a_t ≠ c_t ∧ b_t ≠ c_t) (hmp : p_t.toNat < n_ ∧ (CB p_t.toNat).toInt = a_t) (hmq : q_t.toNat < n_ ∧ (CB q_t.toNat).toInt = b_t) (hgq : 0 < GG b_t q_t.toNat p_t.toNat) : Met l yX7_tryThird wsX7_tryThird ({ frames := 2, cells := 0, slots := 0, locals := 128 }) (va_Pc [.ref a0, .int c, .int a, .int p, .int b, .int q] (h_P E X A z I0 L0)) (va_Qv (fun (I1 : tI) => h_I z I1 ∧ h_F [(8, 10), (811, 999), (812, 999), (8, 9)] z I0 I1 ∧ (c_rs z J_ I1 a0 (r_fp (q_mc CB c_t) (fun (s : tS) (r : Nat) => r_st3 GG a_t b_t c_t p_t.toNat q_t.toNat r s) s_ n_))) (fun (I1 : tI) t => h_B E A z I1 L0 t) A) 0 0 A := by
  refine Met.ofW (cc := cX7_tryThird) (maxL := 10) (ret := none) (by decide) rfl ?_
  intro pr_ ev_ s m args below meth cd_ s₁ B hml hv
  obtain ⟨rfl, hE, hk, hX, hA, hK, hI, hR, hB0⟩ := hv
  have g : h_G h_so h_fk E A z I0 L0 s s.heap s.heap [] := ⟨hK, va_S.rf, hB0⟩
  have hF : h_F [(8, 10), (811, 999), (812, 999), (8, 9)] z I0 I0 := h_F.rf
  have hx := B.exec
  have hb := B.bytes
  have hr := B.returns
  have hts := atoms_spec (ws := wsX7_tryThird) B.pre
  have hown : s.vm.findClass RX7 = some m.cls := findClass_of_methodNamed B.named
  have hlocks := B.notSynchronized
  have iX7 : ∀ w ∈ u_ws RX7 TX7 13, w ∈ wsX7_tryThird := by decide +kernel
  have hl := lv_entry ([.ref a0, .int c, .int a, .int p, .int b, .int q]) (n := 10) (Nat.le_of_ble_eq_true rfl)
  rw [lg_entry_eq]
  generalize (lg_sl ([.ref a0, .int c, .int a, .int p, .int b, .int q]) ++ List.replicate (10 - (lg_sl ([.ref a0, .int c, .int a, .int p, .int b, .int q])).length) Slot.unset).toArray = ls at hl ⊢
  have hl : lv_has ls 10 [(0, .ref a0), (1, .int c), (2, .int a), (3, .int p), (4, .int b), (5, .int q)] := hl
  obtain ⟨ln, rln, tln⟩ := hR.at a0 2 t_a0 (rfl : h_rs 8 2 = some (802, false)) (by decide)
  have aln : h_ad z a0 2 = ln := h_ad.at rln
  obtain ⟨st, rst, tst⟩ := hR.at a0 3 t_a0 (rfl : h_rs 8 3 = some (803, false)) (by decide)
  have ast : h_ad z a0 3 = st := h_ad.at rst
  obtain ⟨gn, rgn, tgn⟩ := hR.at a0 6 t_a0 (rfl : h_rs 8 6 = some (806, false)) (by decide)
  have agn : h_ad z a0 6 = gn := h_ad.at rgn
  obtain ⟨pt, rpt, tpt⟩ := hR.at a0 7 t_a0 (rfl : h_rs 8 7 = some (807, false)) (by decide)
  have apt : h_ad z a0 7 = pt := h_ad.at rpt
  obtain ⟨ct, rct, tct⟩ := hR.at a0 8 t_a0 (rfl : h_rs 8 8 = some (808, false)) (by decide)
  have act : h_ad z a0 8 = ct := h_ad.at rct
  obtain ⟨cr, rcr, tcr⟩ := hR.at a0 11 t_a0 (rfl : h_rs 8 11 = some (811, false)) (by decide)
  have acr : h_ad z a0 11 = cr := h_ad.at rcr
  obtain ⟨pr, rpr, tpr⟩ := hR.at a0 12 t_a0 (rfl : h_rs 8 12 = some (812, false)) (by decide)
  have apr : h_ad z a0 12 = pr := h_ad.at rpr
  have hgr0 := hgr
  unfold c_gr at hgr
  rw [ast, aln, agn, apt, act] at hgr
  obtain ⟨n60, hst, hln, hgp, hct⟩ := hgr
  have sb := fun c : Nat => q_sp_n (cb := CB) c n_
  have cc : ((c_t.toNat : Nat) : Int) = c_t := by omega
  have kc : c.toNatClampNeg = c_t.toNat := h_keq h_c (by omega) (by omega)
  have sp_c := q_sp_m (cb := CB) (n := n_) (show c_t.toNat + 1 ≤ 8 by omega)
  have sb_c := sb 8
  have sd_c : q_sp CB n_ (c_t.toNat + 1) = q_sp CB n_ c_t.toNat + q_ct (q_mc CB ((c_t.toNat : Nat) : Int)) n_ := rfl
  rw [cc] at sd_c
  have ca : ((a_t.toNat : Nat) : Int) = a_t := by omega
  have ka : a.toNatClampNeg = a_t.toNat := h_keq h_a (by omega) (by omega)
  have sp_a := q_sp_m (cb := CB) (n := n_) (show a_t.toNat + 1 ≤ 8 by omega)
  have sb_a := sb 8
  have sd_a : q_sp CB n_ (a_t.toNat + 1) = q_sp CB n_ a_t.toNat + q_ct (q_mc CB ((a_t.toNat : Nat) : Int)) n_ := rfl
  rw [ca] at sd_a
  have cb : ((b_t.toNat : Nat) : Int) = b_t := by omega
  have kb : b.toNatClampNeg = b_t.toNat := h_keq h_b (by omega) (by omega)
  have sp_b := q_sp_m (cb := CB) (n := n_) (show b_t.toNat + 1 ≤ 8 by omega)
  have sb_b := sb 8
  have sd_b : q_sp CB n_ (b_t.toNat + 1) = q_sp CB n_ b_t.toNat + q_ct (q_mc CB ((b_t.toNat : Nat) : Int)) n_ := rfl
  rw [cb] at sd_b
  have hI0 := hI
  have kp_p : p.toNatClampNeg = p_t.toNat := h_keq h_p (by omega) (by omega)
  obtain ⟨hp_p, hc_p⟩ := hmp
  have gp_p := hgp a_t.toNat p_t.toNat (by omega) hp_p (by rw [ca]; exact hc_p)
  rw [ca] at gp_p
  obtain ⟨⟨gg_p, gl_p, gh_p⟩, gt_p⟩ := gp_p
  have kp_q : q.toNatClampNeg = q_t.toNat := h_keq h_q (by omega) (by omega)
  obtain ⟨hp_q, hc_q⟩ := hmq
  have gp_q := hgp b_t.toNat q_t.toNat (by omega) hp_q (by rw [cb]; exact hc_q)
  rw [cb] at gp_q
  obtain ⟨⟨gg_q, gl_q, gh_q⟩, gt_q⟩ := gp_q
  refine lv_aload_n hx hb dX7_tryThird_0 rfl (lv_at hl 0 rfl) ?_
  refine h_get (v := .ref gn) hx hb hts iX7 hown g t_a0 (by decide) so_8 rfl 6 (by decide) (hts (.fieldLink RX7 33 "CapLeague$RingSearch" "gains" "[[I") (by decide +kernel)) rfl dX7_tryThird_1 (by show va_rf (z.R a0 6) = _; rw [rgn]; rfl) ?_
  refine lv_iload hx hb dX7_tryThird_4 (lv_at hl 5 rfl) ?_
  obtain ⟨b1, rb1, tb1⟩ := hR.at gn q.toNatClampNeg tgn (rfl : h_rs 806 _ = some (856, false)) (by rw [so_806]; exact h_lt (n := 60) (xi_in (by rw [h_q]; omega) (by rw [h_q]; omega)))
  refine h_aldA (v := .ref b1) hx hb g tgn (by decide) so_806 (xi_in (by rw [h_q]; omega) (by rw [h_q]; omega)) dX7_tryThird_6 (by rw [rb1]; rfl) ?_
  have ar_b1 : h_ad z gn q_t.toNat = b1 := by rw [← kp_q]; exact h_ad.at rb1
  refine lv_iload_n hx hb dX7_tryThird_7 rfl (lv_at hl 3 rfl) ?_
  refine h_ald hx hb g tb1 (by decide) so_856 (xi_in (by rw [h_p]; omega) (by rw [h_p]; omega)) dX7_tryThird_8 ?_
  refine lv_topi (fun v2 ev2 => ?_)
  have jv2 := hI.rd b1 p.toNatClampNeg tb1 ev2 (rfl : h_bd 856 _ = ((-2147483648), 2147483647))
  have gE_v2 := gg_q p_t.toNat hp_p (by rw [hc_p]; omega) (by rw [hc_p]; omega)
  rw [show I0 (h_ad z gn q_t.toNat) p_t.toNat = v2 by rw [ar_b1, ← kp_p, ev2]; rfl] at gE_v2
  have nb_v2 : v2.toInt ≤ 9999 := by omega
  refine lv_istore (lv' := [(6, .int v2), (0, .ref a0), (1, .int c), (2, .int a), (3, .int p), (4, .int b), (5, .int q)]) hx hb dX7_tryThird_9 hl (by decide) rfl (fun ls hl => ?_)
  refine lv_aload_n hx hb dX7_tryThird_11 rfl (lv_at hl 1 rfl) ?_
  refine h_get (v := .ref st) hx hb hts iX7 hown g t_a0 (by decide) so_8 rfl 3 (by decide) (hts (.fieldLink RX7 22 "CapLeague$RingSearch" "start" "[I") (by decide +kernel)) rfl dX7_tryThird_12 (by show va_rf (z.R a0 3) = _; rw [rst]; rfl) ?_
  refine lv_iload_n hx hb dX7_tryThird_15 rfl (lv_at hl 2 rfl) ?_
  refine h_ald hx hb g tst (by decide) so_803 (xi_in (by rw [h_c]; omega) (by rw [h_c]; omega)) dX7_tryThird_16 ?_
  refine lv_topi (fun v3 ev3 => ?_)
  have jv3 := hI.rd st c.toNatClampNeg tst ev3 (rfl : h_bd 803 _ = (0, 60))
  have st_v3 : v3.toInt = ((q_sp CB n_ c_t.toNat : Nat) : Int) := by rw [← hst c_t.toNat (by omega), ← kc, ev3]
  refine lv_istore (lv' := [(7, .int v3), (6, .int v2), (0, .ref a0), (1, .int c), (2, .int a), (3, .int p), (4, .int b), (5, .int q)]) hx hb dX7_tryThird_17 hl (by decide) rfl (fun ls hl => ?_)
  have loop19_0 : ∀ (n : Nat) (I5 : tI) (H : Heap) (locs : List Loc) (ls : Array Slot) (v4 : Int32), h_G h_so h_fk E A z I5 L0 s s.heap H locs → h_I z I5 → h_F [(8, 10), (811, 999), (812, 999), (8, 9)] z I0 I5 → lv_has ls 10 [(0, .ref a0), (1, .int c), (2, .int a), (3, .int p), (4, .int b), (5, .int q), (6, .int v2), (7, .int v4)] → (0 ≤ v4.toInt ∧ v4.toInt ≤ 60) → h_F [(8, 10), (811, 999), (812, 999), (8, 9)] z I0 I5 → (r_lp z J_ I5 a0 (q_mc CB c_t) (fun (s : tS) (r : Nat) => r_st3 GG a_t b_t c_t p_t.toNat q_t.toNat r s) s_ n_ (((v4.toInt).toNat) - q_sp CB n_ c_t.toNat)) → (((q_sp CB n_ c_t.toNat : Nat) : Int) ≤ v4.toInt) → (v4.toInt ≤ ((q_sp CB n_ (c_t.toNat + 1) : Nat) : Int)) → (60 - v4.toInt) < (n : Int) → W pr_ l ev_ (headSpec wsX7_tryThird ({ frames := 2, cells := 0, slots := 0, locals := 128 })).room s m ([.ref a0, .int c, .int a, .int p, .int b, .int q] : List Value).toArray below meth cd_ H locs 0 0 (MQ below (va_Qv (fun (I1 : tI) => h_I z I1 ∧ h_F [(8, 10), (811, 999), (812, 999), (8, 9)] z I0 I1 ∧ (c_rs z J_ I1 a0 (r_fp (q_mc CB c_t) (fun (s : tS) (r : Nat) => r_st3 GG a_t b_t c_t p_t.toNat q_t.toNat r s) s_ n_))) (fun (I1 : tI) t => h_B E A z I1 L0 t) A) ([.ref a0, .int c, .int a, .int p, .int b, .int q] : List Value).toArray s 0 0 A) (F0 m 19 ls []) := by
    intro n
    induction n with
    | zero => intro I5 H locs ls v4 g hI hF hl jv4 hL19 hx19_0 hx19_1 hx19_2 hn; exact absurd hn (by omega)
    | succ n ih19 =>
      intro I5 H locs ls v4 g hI hF hl jv4 hL19 hx19_0 hx19_1 hx19_2 hn
      obtain ⟨t19, ta19, tb19⟩ := hx19_0
      refine lv_iload hx hb dX7_tryThird_19 (lv_at hl 7 rfl) ?_
      refine lv_aload_n hx hb dX7_tryThird_21 rfl (lv_at hl 0 rfl) ?_
      refine h_get (v := .ref st) hx hb hts iX7 hown g t_a0 (by decide) so_8 rfl 3 (by decide) (hts (.fieldLink RX7 22 "CapLeague$RingSearch" "start" "[I") (by decide +kernel)) rfl dX7_tryThird_22 (by show va_rf (z.R a0 3) = _; rw [rst]; rfl) ?_
      refine lv_iload_n hx hb dX7_tryThird_25 rfl (lv_at hl 1 rfl) ?_
      refine lv_iconst (v := 1) hx hb dX7_tryThird_26 (by decide) ?_
      refine lv_iadd hx hb dX7_tryThird_27 ?_
      refine lv_topi (fun v6 ev6 => ?_)
      have jv6 : v6.toInt = c_t + 1 := xi_add ev6 h_c (by decide) (by omega) (by omega)
      refine h_ald hx hb g tst (by decide) so_803 (xi_in (by omega) (by omega)) dX7_tryThird_28 ?_
      refine lv_topi (fun v7 ev7 => ?_)
      have jv7 := hI.rd st v6.toNatClampNeg tst ev7 (rfl : h_bd 803 _ = (0, 60))
      have st_v7 : v7.toInt = ((q_sp CB n_ (c_t.toNat + 1) : Nat) : Int) := by rw [← hst (c_t.toNat + 1) (by omega), ← (h_keq (i := v6) (t := v6.toInt) (k := c_t.toNat + 1) rfl (by omega) (by omega) : v6.toNatClampNeg = c_t.toNat + 1), ev7]; exact congrArg Int32.toInt (h_F.at hL19 tst rfl)
      refine lv_icmp_ge (tgt := 140) hx hb dX7_tryThird_29 (by decide) (fun c8 => ?_) (fun c8 => ?_)
      · have ic8 := (xi_le c8 rfl rfl : v7.toInt ≤ v4.toInt)
        have hS := g.2.1
        exact W.vret hx hb hr (fun t ht hW => ⟨⟨I5, rfl, ⟨hI, hF, (by show c_rs z J_ I5 a0 (r_fp (q_mc CB c_t) (fun (s : tS) (r : Nat) => r_st3 GG a_t b_t c_t p_t.toNat q_t.toNat r s) s_ n_); rw [← ta19.e (by omega)]; exact tb19)⟩, h_ret g ht⟩, hS.F ht⟩) hS.2.2 dX7_tryThird_140
      · have ic8 := (xi_nle c8 rfl rfl : v4.toInt < v7.toInt)
        obtain ⟨rv, erv⟩ : ∃ x : Int32, x = I0 ln v4.toNatClampNeg := ⟨_, rfl⟩
        have jrv := hI0.rd ln _ tln erv (rfl : h_bd 802 _ = (0, 59))
        have ki_rv : v4.toNatClampNeg = v4.toInt.toNat := h_keq rfl (by omega) (by omega)
        obtain ⟨p0, hp_rv, hP0, hk_rv⟩ := q_ct_ex (P := q_mc CB c_t) (k := v4.toInt.toNat - q_sp CB n_ c_t.toNat) (n := n_) (by omega)
        have hc_rv := q_mc_i hP0
        have l0 := hln c_t.toNat p0 (by omega) hp_rv (by rw [cc]; exact hc_rv)
        rw [cc, show q_sp CB n_ c_t.toNat + q_ct (q_mc CB c_t) p0 = v4.toInt.toNat by omega, ← ki_rv, ← erv] at l0
        have ep0 : p0 = rv.toInt.toNat := by omega
        subst ep0
        have kp_rv : rv.toNatClampNeg = rv.toInt.toNat := h_keq rfl (by omega) (by omega)
        have hc_rv9 : (CB rv.toInt.toNat).toInt = ((c_t.toNat : Nat) : Int) := by rw [cc]; exact hc_rv
        have gp_rv := hgp c_t.toNat rv.toInt.toNat (by omega) hp_rv hc_rv9
        have ct_rv := hct c_t.toNat (by omega)
        rw [cc] at gp_rv
        obtain ⟨⟨gg_rv, gl_rv, gh_rv⟩, gt_rv⟩ := gp_rv
        refine lv_aload_n hx hb dX7_tryThird_32 rfl (lv_at hl 0 rfl) ?_
        refine h_get (v := .ref gn) hx hb hts iX7 hown g t_a0 (by decide) so_8 rfl 6 (by decide) (hts (.fieldLink RX7 33 "CapLeague$RingSearch" "gains" "[[I") (by decide +kernel)) rfl dX7_tryThird_33 (by show va_rf (z.R a0 6) = _; rw [rgn]; rfl) ?_
        refine lv_iload_n hx hb dX7_tryThird_36 rfl (lv_at hl 3 rfl) ?_
        obtain ⟨b9, rb9, tb9⟩ := hR.at gn p.toNatClampNeg tgn (rfl : h_rs 806 _ = some (856, false)) (by rw [so_806]; exact h_lt (n := 60) (xi_in (by rw [h_p]; omega) (by rw [h_p]; omega)))
        refine h_aldA (v := .ref b9) hx hb g tgn (by decide) so_806 (xi_in (by rw [h_p]; omega) (by rw [h_p]; omega)) dX7_tryThird_37 (by rw [rb9]; rfl) ?_
        have ar_b9 : h_ad z gn p_t.toNat = b9 := by rw [← kp_p]; exact h_ad.at rb9
        refine lv_aload_n hx hb dX7_tryThird_38 rfl (lv_at hl 0 rfl) ?_
        refine h_get (v := .ref ln) hx hb hts iX7 hown g t_a0 (by decide) so_8 rfl 2 (by decide) (hts (.fieldLink RX7 18 "CapLeague$RingSearch" "line" "[I") (by decide +kernel)) rfl dX7_tryThird_39 (by show va_rf (z.R a0 2) = _; rw [rln]; rfl) ?_
        refine lv_iload hx hb dX7_tryThird_42 (lv_at hl 7 rfl) ?_
        refine h_ald hx hb g tln (by decide) so_802 (xi_in (by omega) (by omega)) dX7_tryThird_44 ?_
        refine xw_i ((h_F.at hL19 tln rfl).trans (erv.symm)) ?_
        refine h_ald hx hb g tb9 (by decide) so_856 (xi_in (by omega) (by omega)) dX7_tryThird_45 ?_
        refine lv_topi (fun v10 ev10 => ?_)
        have jv10 := hI.rd b9 rv.toNatClampNeg tb9 ev10 (rfl : h_bd 856 _ = ((-2147483648), 2147483647))
        have gE_v10 := gg_p rv.toInt.toNat hp_rv (by rw [hc_rv]; omega) (by rw [hc_rv]; omega)
        rw [show I0 (h_ad z gn p_t.toNat) rv.toInt.toNat = v10 by rw [ar_b9, ← kp_rv, ev10]; exact (h_F.at hL19 tb9 rfl).symm] at gE_v10
        have nb_v10 : v10.toInt ≤ 9999 := by omega
        refine lv_istore (lv' := [(8, .int v10), (0, .ref a0), (1, .int c), (2, .int a), (3, .int p), (4, .int b), (5, .int q), (6, .int v2), (7, .int v4)]) hx hb dX7_tryThird_46 hl (by decide) rfl (fun ls hl => ?_)
        refine lv_aload_n hx hb dX7_tryThird_48 rfl (lv_at hl 1 rfl) ?_
        refine h_get (v := .ref gn) hx hb hts iX7 hown g t_a0 (by decide) so_8 rfl 6 (by decide) (hts (.fieldLink RX7 33 "CapLeague$RingSearch" "gains" "[[I") (by decide +kernel)) rfl dX7_tryThird_49 (by show va_rf (z.R a0 6) = _; rw [rgn]; rfl) ?_
        refine lv_aload_n hx hb dX7_tryThird_52 rfl (lv_at hl 1 rfl) ?_
        refine h_get (v := .ref ln) hx hb hts iX7 hown g t_a0 (by decide) so_8 rfl 2 (by decide) (hts (.fieldLink RX7 18 "CapLeague$RingSearch" "line" "[I") (by decide +kernel)) rfl dX7_tryThird_53 (by show va_rf (z.R a0 2) = _; rw [rln]; rfl) ?_
        refine lv_iload hx hb dX7_tryThird_56 (lv_at hl 8 rfl) ?_
        refine h_ald hx hb g tln (by decide) so_802 (xi_in (by omega) (by omega)) dX7_tryThird_58 ?_
        refine xw_i ((h_F.at hL19 tln rfl).trans (erv.symm)) ?_
        obtain ⟨b11, rb11, tb11⟩ := hR.at gn rv.toNatClampNeg tgn (rfl : h_rs 806 _ = some (856, false)) (by rw [so_806]; exact h_lt (n := 60) (xi_in (by omega) (by omega)))
        refine h_aldA (v := .ref b11) hx hb g tgn (by decide) so_806 (xi_in (by omega) (by omega)) dX7_tryThird_59 (by rw [rb11]; rfl) ?_
        have ar_b11 : h_ad z gn rv.toInt.toNat = b11 := by rw [← kp_rv]; exact h_ad.at rb11
        refine lv_iload hx hb dX7_tryThird_60 (lv_at hl 6 rfl) ?_
        refine h_ald hx hb g tb11 (by decide) so_856 (xi_in (by rw [h_q]; omega) (by rw [h_q]; omega)) dX7_tryThird_62 ?_
        refine lv_topi (fun v12 ev12 => ?_)
        have jv12 := hI.rd b11 q.toNatClampNeg tb11 ev12 (rfl : h_bd 856 _ = ((-2147483648), 2147483647))
        have gE_v12 := gg_rv q_t.toNat hp_q (by rw [hc_q]; omega) (by rw [hc_q]; omega)
        rw [show I0 (h_ad z gn rv.toInt.toNat) q_t.toNat = v12 by rw [ar_b11, ← kp_q, ev12]; exact (h_F.at hL19 tb11 rfl).symm] at gE_v12
        have nb_v12 : v12.toInt ≤ 9999 := by omega
        refine lv_istore (lv' := [(9, .int v12), (8, .int v10), (0, .ref a0), (1, .int c), (2, .int a), (3, .int p), (4, .int b), (5, .int q), (6, .int v2), (7, .int v4)]) hx hb dX7_tryThird_63 hl (by decide) rfl (fun ls hl => ?_)
        refine lv_iload hx hb dX7_tryThird_65 (lv_at hl 1 rfl) ?_
        refine lv_if_le (tgt := 134) hx hb dX7_tryThird_67 (by decide) (fun c13 => ?_) (fun c13 => ?_)
        · have ic13 := (xi_le c13 rfl (by decide) : v10.toInt ≤ 0)
          obtain ⟨v14, ev14⟩ : ∃ z : Int32, z = v4 + 1 := ⟨_, rfl⟩
          have jv14 : v14.toInt = v4.toInt + 1 := xi_add ev14 rfl (by decide) (by omega) (by omega)
          refine lv_iinc (v := v14) (lv' := [(7, .int v14), (9, .int v12), (8, .int v10), (0, .ref a0), (1, .int c), (2, .int a), (3, .int p), (4, .int b), (5, .int q), (6, .int v2)]) hx hb dX7_tryThird_134 hl (k := 9) rfl (by rw [ev14]; rfl) (by decide) rfl (fun ls hl => ?_)
          refine lv_goto (tgt := 19) hx hb dX7_tryThird_137 (by decide) ?_
          exact ih19 I5 _ _ _ v14 g hI hF (lv_sub hl [3, 4, 5, 6, 7, 8, 9, 0] rfl) (by omega) (h_F.call (h_F.rf : h_F [(8, 10), (811, 999), (812, 999), (8, 9)] z I0 I0) hL19 rfl) (⟨(r_st3 GG a_t b_t c_t p_t.toNat q_t.toNat rv.toInt.toNat t19), by rw [show ((v14.toInt).toNat - q_sp CB n_ c_t.toNat) = ((v4.toInt).toNat - q_sp CB n_ c_t.toNat) + 1 by omega]; exact ta19.s hp_rv (q_mc_y hc_rv) hk_rv, by rw [show (r_st3 GG a_t b_t c_t p_t.toNat q_t.toNat rv.toInt.toNat t19) = t19 from r_st3_n (by omega)]; exact tb19⟩) (by omega) (by omega) (by omega)
        · have ic13 := (xi_nle c13 rfl (by decide) : 0 < v10.toInt)
          refine lv_iload hx hb dX7_tryThird_70 (lv_at hl 0 rfl) ?_
          refine lv_if_le (tgt := 134) hx hb dX7_tryThird_72 (by decide) (fun c15 => ?_) (fun c15 => ?_)
          · have ic15 := (xi_le c15 rfl (by decide) : v12.toInt ≤ 0)
            obtain ⟨v16, ev16⟩ : ∃ z : Int32, z = v4 + 1 := ⟨_, rfl⟩
            have jv16 : v16.toInt = v4.toInt + 1 := xi_add ev16 rfl (by decide) (by omega) (by omega)
            refine lv_iinc (v := v16) (lv' := [(7, .int v16), (9, .int v12), (8, .int v10), (0, .ref a0), (1, .int c), (2, .int a), (3, .int p), (4, .int b), (5, .int q), (6, .int v2)]) hx hb dX7_tryThird_134 hl (k := 9) rfl (by rw [ev16]; rfl) (by decide) rfl (fun ls hl => ?_)
            refine lv_goto (tgt := 19) hx hb dX7_tryThird_137 (by decide) ?_
            exact ih19 I5 _ _ _ v16 g hI hF (lv_sub hl [3, 4, 5, 6, 7, 8, 9, 0] rfl) (by omega) (h_F.call (h_F.rf : h_F [(8, 10), (811, 999), (812, 999), (8, 9)] z I0 I0) hL19 rfl) (⟨(r_st3 GG a_t b_t c_t p_t.toNat q_t.toNat rv.toInt.toNat t19), by rw [show ((v16.toInt).toNat - q_sp CB n_ c_t.toNat) = ((v4.toInt).toNat - q_sp CB n_ c_t.toNat) + 1 by omega]; exact ta19.s hp_rv (q_mc_y hc_rv) hk_rv, by rw [show (r_st3 GG a_t b_t c_t p_t.toNat q_t.toNat rv.toInt.toNat t19) = t19 from r_st3_n (by omega)]; exact tb19⟩) (by omega) (by omega) (by omega)
          · have ic15 := (xi_nle c15 rfl (by decide) : 0 < v12.toInt)
            refine lv_iload hx hb dX7_tryThird_75 (lv_at hl 1 rfl) ?_
            refine lv_iload hx hb dX7_tryThird_77 (lv_at hl 8 rfl) ?_
            refine lv_iadd hx hb dX7_tryThird_79 ?_
            refine lv_topi (fun v17 ev17 => ?_)
            have jv17 : v17.toInt = v10.toInt + v2.toInt := xi_add ev17 rfl rfl (by omega) (by omega)
            refine lv_iload hx hb dX7_tryThird_80 (lv_at hl 0 rfl) ?_
            refine lv_iadd hx hb dX7_tryThird_82 ?_
            refine lv_topi (fun v18 ev18 => ?_)
            have jv18 : v18.toInt = v17.toInt + v12.toInt := xi_add ev18 rfl rfl (by omega) (by omega)
            refine lv_aload_n hx hb dX7_tryThird_83 rfl (lv_at hl 2 rfl) ?_
            refine h_get (v := .int (I5 a0 9)) hx hb hts iX7 hown g t_a0 (by decide) so_8 rfl 9 (by decide) (hts (.fieldLink RX7 59 "CapLeague$RingSearch" "best" "I") (by decide +kernel)) rfl dX7_tryThird_84 rfl ?_
            refine lv_topi (fun v19 ev19 => ?_)
            have jv19 := hI.rd a0 9 t_a0 ev19 (rfl : h_bd 8 9 = ((-2147483648), 2147483647))
            have bst : v19.toInt = t19.1 := by rw [ev19]; exact tb19.1
            refine lv_icmp_le (tgt := 134) hx hb dX7_tryThird_87 (by decide) (fun c20 => ?_) (fun c20 => ?_)
            · have ic20 := (xi_le c20 rfl rfl : v18.toInt ≤ v19.toInt)
              obtain ⟨v21, ev21⟩ : ∃ z : Int32, z = v4 + 1 := ⟨_, rfl⟩
              have jv21 : v21.toInt = v4.toInt + 1 := xi_add ev21 rfl (by decide) (by omega) (by omega)
              refine lv_iinc (v := v21) (lv' := [(7, .int v21), (9, .int v12), (8, .int v10), (0, .ref a0), (1, .int c), (2, .int a), (3, .int p), (4, .int b), (5, .int q), (6, .int v2)]) hx hb dX7_tryThird_134 hl (k := 9) rfl (by rw [ev21]; rfl) (by decide) rfl (fun ls hl => ?_)
              refine lv_goto (tgt := 19) hx hb dX7_tryThird_137 (by decide) ?_
              exact ih19 I5 _ _ _ v21 g hI hF (lv_sub hl [3, 4, 5, 6, 7, 8, 9, 0] rfl) (by omega) (h_F.call (h_F.rf : h_F [(8, 10), (811, 999), (812, 999), (8, 9)] z I0 I0) hL19 rfl) (⟨(r_st3 GG a_t b_t c_t p_t.toNat q_t.toNat rv.toInt.toNat t19), by rw [show ((v21.toInt).toNat - q_sp CB n_ c_t.toNat) = ((v4.toInt).toNat - q_sp CB n_ c_t.toNat) + 1 by omega]; exact ta19.s hp_rv (q_mc_y hc_rv) hk_rv, by rw [show (r_st3 GG a_t b_t c_t p_t.toNat q_t.toNat rv.toInt.toNat t19) = t19 from r_st3_n (by omega)]; exact tb19⟩) (by omega) (by omega) (by omega)
            · have ic20 := (xi_nle c20 rfl rfl : v19.toInt < v18.toInt)
              refine lv_aload_n hx hb dX7_tryThird_90 rfl (lv_at hl 2 rfl) ?_
              refine lv_iload hx hb dX7_tryThird_91 (lv_at hl 1 rfl) ?_
              refine lv_iload hx hb dX7_tryThird_93 (lv_at hl 8 rfl) ?_
              refine lv_iadd hx hb dX7_tryThird_95 ?_
              refine xw_i (v := v17) ev17.symm ?_
              refine lv_iload hx hb dX7_tryThird_96 (lv_at hl 0 rfl) ?_
              refine lv_iadd hx hb dX7_tryThird_98 ?_
              refine xw_i (v := v18) ev18.symm ?_
              refine h_putI (ty := .int) (v := v18) hx hb hts iX7 tyX7 tyX7_ok nmX7 hown g t_a0 (by decide) so_8 rfl 9 (by decide) rfl (hts (.fieldLink RX7 59 "CapLeague$RingSearch" "best" "I") (by decide +kernel)) rfl rfl (by decide +kernel) rfl rfl dX7_tryThird_99 (fun I22 H locs eI22 g => ?_)
              have hI := hI.wr eI22 t_a0 (rfl : h_bd 8 9 = ((-2147483648), 2147483647)) (xi_lo _) (Int.le_of_lt_add_one (xi_hi _))
              have hF := hF.wr eI22 t_a0 rfl
              refine lv_aload_n hx hb dX7_tryThird_102 rfl (lv_at hl 2 rfl) ?_
              refine lv_iconst (v := 3) hx hb dX7_tryThird_103 (by decide) ?_
              refine lv_iconst (v := 0) hx hb dX7_tryThird_104 (by decide) ?_
              refine lv_iload_n hx hb dX7_tryThird_105 rfl (lv_at hl 4 rfl) ?_
              refine lv_iload_n hx hb dX7_tryThird_106 rfl (lv_at hl 5 rfl) ?_
              refine va_callv (va_runV (As := [.int 3, .int 0, .int a, .int p]) (rest := []) ⟨hx, hb, hml, hown, hts⟩ (tX7_keepR l E X A z I22 L0 a0 t_a0 3 (3) (by decide) (by omega) 0 (0) (by decide) (by omega) a (a_t) h_a p (p_t) h_p) (cwV 4 hts gX7_tryThird_X7_keep rfl rfl rfl (by decide +kernel) ⟨Nat.le_of_ble_eq_true rfl, Nat.le_of_ble_eq_true rfl⟩) ⟨h_blind _ _ _ _ _ _ _, h_recv g t_a0 (by decide) so_8 (q := (RX7, TX7, 13)) rfl, h_pre _ hE hk hX hA hI hR g⟩ rfl rfl hl.1 rfl (lv_room (Nat.le_of_ble_eq_true rfl)) dX7_tryThird_107 ⟨Nat.le_of_ble_eq_true rfl, Nat.le_of_ble_eq_true rfl⟩) g.2.1 (fun q _ h => h) (fun q h => h) (fun I24 t H1 locs ht hvm h23 hB hz1 hk1 hS => ?_)
              obtain ⟨hI, fh23, h23⟩ := h23
              replace g := h_after g hB ht hS
              generalize H1 = H at g
              clear hB hk1 hz1 ht hvm hS
              have hF := hF.call fh23 rfl
              obtain ⟨h23p0, h23p1⟩ := h23
              refine lv_aload_n hx hb dX7_tryThird_110 rfl (lv_at hl 2 rfl) ?_
              refine lv_iconst (v := 3) hx hb dX7_tryThird_111 (by decide) ?_
              refine lv_iconst (v := 1) hx hb dX7_tryThird_112 (by decide) ?_
              refine lv_iload hx hb dX7_tryThird_113 (lv_at hl 6 rfl) ?_
              refine lv_iload hx hb dX7_tryThird_115 (lv_at hl 7 rfl) ?_
              refine va_callv (va_runV (As := [.int 3, .int 1, .int b, .int q]) (rest := []) ⟨hx, hb, hml, hown, hts⟩ (tX7_keepR l E X A z I24 L0 a0 t_a0 3 (3) (by decide) (by omega) 1 (1) (by decide) (by omega) b (b_t) h_b q (q_t) h_q) (cwV 4 hts gX7_tryThird_X7_keep rfl rfl rfl (by decide +kernel) ⟨Nat.le_of_ble_eq_true rfl, Nat.le_of_ble_eq_true rfl⟩) ⟨h_blind _ _ _ _ _ _ _, h_recv g t_a0 (by decide) so_8 (q := (RX7, TX7, 13)) rfl, h_pre _ hE hk hX hA hI hR g⟩ rfl rfl hl.1 rfl (lv_room (Nat.le_of_ble_eq_true rfl)) dX7_tryThird_117 ⟨Nat.le_of_ble_eq_true rfl, Nat.le_of_ble_eq_true rfl⟩) g.2.1 (fun q _ h => h) (fun q h => h) (fun I26 t H1 locs ht hvm h25 hB hz1 hk1 hS => ?_)
              obtain ⟨hI, fh25, h25⟩ := h25
              replace g := h_after g hB ht hS
              generalize H1 = H at g
              clear hB hk1 hz1 ht hvm hS
              have hF := hF.call fh25 rfl
              obtain ⟨h25p0, h25p1⟩ := h25
              refine lv_aload_n hx hb dX7_tryThird_120 rfl (lv_at hl 2 rfl) ?_
              refine lv_iconst (v := 3) hx hb dX7_tryThird_121 (by decide) ?_
              refine lv_iconst (v := 2) hx hb dX7_tryThird_122 (by decide) ?_
              refine lv_iload_n hx hb dX7_tryThird_123 rfl (lv_at hl 3 rfl) ?_
              refine lv_aload_n hx hb dX7_tryThird_124 rfl (lv_at hl 2 rfl) ?_
              refine h_get (v := .ref ln) hx hb hts iX7 hown g t_a0 (by decide) so_8 rfl 2 (by decide) (hts (.fieldLink RX7 18 "CapLeague$RingSearch" "line" "[I") (by decide +kernel)) rfl dX7_tryThird_125 (by show va_rf (z.R a0 2) = _; rw [rln]; rfl) ?_
              refine lv_iload hx hb dX7_tryThird_128 (lv_at hl 9 rfl) ?_
              refine h_ald hx hb g tln (by decide) so_802 (xi_in (by omega) (by omega)) dX7_tryThird_130 ?_
              refine xw_i ((h_F.at fh25 tln rfl).trans ((h_F.at fh23 tln rfl).trans ((h_n1 eI22 tln t_a0 (by decide)).trans ((h_F.at hL19 tln rfl).trans (erv.symm))))) ?_
              refine va_callv (va_runV (As := [.int 3, .int 2, .int c, .int rv]) (rest := []) ⟨hx, hb, hml, hown, hts⟩ (tX7_keepR l E X A z I26 L0 a0 t_a0 3 (3) (by decide) (by omega) 2 (2) (by decide) (by omega) c (c_t) h_c rv (rv.toInt) rfl) (cwV 4 hts gX7_tryThird_X7_keep rfl rfl rfl (by decide +kernel) ⟨Nat.le_of_ble_eq_true rfl, Nat.le_of_ble_eq_true rfl⟩) ⟨h_blind _ _ _ _ _ _ _, h_recv g t_a0 (by decide) so_8 (q := (RX7, TX7, 13)) rfl, h_pre _ hE hk hX hA hI hR g⟩ rfl rfl hl.1 rfl (lv_room (Nat.le_of_ble_eq_true rfl)) dX7_tryThird_131 ⟨Nat.le_of_ble_eq_true rfl, Nat.le_of_ble_eq_true rfl⟩) g.2.1 (fun q _ h => h) (fun q h => h) (fun I28 t H1 locs ht hvm h27 hB hz1 hk1 hS => ?_)
              obtain ⟨hI, fh27, h27⟩ := h27
              replace g := h_after g hB ht hS
              generalize H1 = H at g
              clear hB hk1 hz1 ht hvm hS
              have hF := hF.call fh27 rfl
              obtain ⟨h27p0, h27p1⟩ := h27
              obtain ⟨v29, ev29⟩ : ∃ z : Int32, z = v4 + 1 := ⟨_, rfl⟩
              have jv29 : v29.toInt = v4.toInt + 1 := xi_add ev29 rfl (by decide) (by omega) (by omega)
              refine lv_iinc (v := v29) (lv' := [(7, .int v29), (9, .int v12), (8, .int v10), (0, .ref a0), (1, .int c), (2, .int a), (3, .int p), (4, .int b), (5, .int q), (6, .int v2)]) hx hb dX7_tryThird_134 hl (k := 9) rfl (by rw [ev29]; rfl) (by decide) rfl (fun ls hl => ?_)
              refine lv_goto (tgt := 19) hx hb dX7_tryThird_137 (by decide) ?_
              exact ih19 I28 _ _ _ v29 g hI hF (lv_sub hl [3, 4, 5, 6, 7, 8, 9, 0] rfl) (by omega) (h_F.call (h_F.call (h_F.call (h_F.wr (h_F.call (h_F.rf : h_F [(8, 10), (811, 999), (812, 999), (8, 9)] z I0 I0) hL19 rfl) eI22 t_a0 rfl) fh23 rfl) fh25 rfl) fh27 rfl) (⟨(r_st3 GG a_t b_t c_t p_t.toNat q_t.toNat rv.toInt.toNat t19), by rw [show ((v29.toInt).toNat - q_sp CB n_ c_t.toNat) = ((v4.toInt).toNat - q_sp CB n_ c_t.toNat) + 1 by omega]; exact ta19.s hp_rv (q_mc_y hc_rv) hk_rv, by rw [show (r_st3 GG a_t b_t c_t p_t.toNat q_t.toNat rv.toInt.toNat t19) = _ from r_st3_y gE_v10.1.symm gE_v2.1.symm gE_v12.1.symm (by omega) (by omega) (by omega) (by omega)]; exact c_rs_3 (by rw [(h_F.at fh27 t_a0 rfl).trans ((h_F.at fh25 t_a0 rfl).trans ((h_F.at fh23 t_a0 rfl).trans (h_n0 eI22)))]; omega) (by rw [h27p0]; decide) (by rw [h27p1.1, if_neg (by decide)]; rw [h25p1.1, if_neg (by decide)]; rw [h23p1.1, if_pos (by decide)]; exact h_a) (by rw [h27p1.2, if_neg (by decide)]; rw [h25p1.2, if_neg (by decide)]; rw [h23p1.2, if_pos (by decide)]; omega) (by rw [h27p1.1, if_neg (by decide)]; rw [h25p1.1, if_pos (by decide)]; exact h_b) (by rw [h27p1.2, if_neg (by decide)]; rw [h25p1.2, if_pos (by decide)]; omega) (by rw [h27p1.1, if_pos (by decide)]; exact h_c) (by rw [h27p1.2, if_pos (by decide)]; omega)⟩) (by omega) (by omega) (by omega)
  exact loop19_0 _ I0 _ _ _ v3 g hI hF (lv_sub hl [2, 3, 4, 5, 6, 7, 1, 0] rfl) (by omega) (h_F.rf : h_F [(8, 10), (811, 999), (812, 999), (8, 9)] z I0 I0) (⟨s_, by rw [show ((v3.toInt).toNat - q_sp CB n_ c_t.toNat) = 0 by omega]; exact r_at.z, hs⟩) (by omega) (by omega) (show (60 - v3.toInt) < (((60 - v3.toInt).toNat + 1 : Nat) : Int) by omega)
set_option maxHeartbeats 4000000 in
set_option maxRecDepth 100000 in
theorem tX7_tryThreeR (l : Launch) (E : tE) (X : tX) (A : Nat → Prop) (z : tZ) (I0 : tI) (L0 : tL) (a0 : Nat) (t_a0 : z.ty a0 = 8) (a : Int32) (a_t : Int) (h_a : a.toInt = a_t) (b_a : 0 ≤ a_t ∧ a_t ≤ 7) (b : Int32) (b_t : Int) (h_b : b.toInt = b_t) (b_b : 0 ≤ b_t ∧ b_t ≤ 7) (c : Int32) (c_t : Int) (h_c : c.toInt = c_t) (b_c : 0 ≤ c_t ∧ c_t ≤ 7) (J_ : tI) (n_ : Nat) (CB : Nat → Int32) (GG : Int → Nat → Nat → Int) (s_ : tS) (hgr : c_gr z I0 a0 n_ CB GG) (hs : c_rs z J_ I0 a0 s_) (hne : a_t ≠ b_t ∧ a_t ≠ c_t ∧ b_t ≠ c_t) : Met l yX7_tryThree wsX7_tryThree ({ frames := 3, cells := 0, slots := 0, locals := 192 }) (va_Pc [.ref a0, .int a, .int b, .int c] (h_P E X A z I0 L0)) (va_Qv (fun (I1 : tI) => h_I z I1 ∧ h_F [(8, 10), (811, 999), (812, 999), (8, 9)] z I0 I1 ∧ (c_rs z J_ I1 a0 (r_thr GG CB n_ a_t b_t c_t s_))) (fun (I1 : tI) t => h_B E A z I1 L0 t) A) 0 0 A := by
  refine Met.ofW (cc := cX7_tryThree) (maxL := 7) (ret := none) (by decide) rfl ?_
  intro pr_ ev_ s m args below meth cd_ s₁ B hml hv
  obtain ⟨rfl, hE, hk, hX, hA, hK, hI, hR, hB0⟩ := hv
  have g : h_G h_so h_fk E A z I0 L0 s s.heap s.heap [] := ⟨hK, va_S.rf, hB0⟩
  have hF : h_F [(8, 10), (811, 999), (812, 999), (8, 9)] z I0 I0 := h_F.rf
  have hx := B.exec
  have hb := B.bytes
  have hr := B.returns
  have hts := atoms_spec (ws := wsX7_tryThree) B.pre
  have hown : s.vm.findClass RX7 = some m.cls := findClass_of_methodNamed B.named
  have hlocks := B.notSynchronized
  have iX7 : ∀ w ∈ u_ws RX7 TX7 13, w ∈ wsX7_tryThree := by decide +kernel
  have hl := lv_entry ([.ref a0, .int a, .int b, .int c]) (n := 7) (Nat.le_of_ble_eq_true rfl)
  rw [lg_entry_eq]
  generalize (lg_sl ([.ref a0, .int a, .int b, .int c]) ++ List.replicate (7 - (lg_sl ([.ref a0, .int a, .int b, .int c])).length) Slot.unset).toArray = ls at hl ⊢
  have hl : lv_has ls 7 [(0, .ref a0), (1, .int a), (2, .int b), (3, .int c)] := hl
  obtain ⟨ln, rln, tln⟩ := hR.at a0 2 t_a0 (rfl : h_rs 8 2 = some (802, false)) (by decide)
  have aln : h_ad z a0 2 = ln := h_ad.at rln
  obtain ⟨st, rst, tst⟩ := hR.at a0 3 t_a0 (rfl : h_rs 8 3 = some (803, false)) (by decide)
  have ast : h_ad z a0 3 = st := h_ad.at rst
  obtain ⟨gn, rgn, tgn⟩ := hR.at a0 6 t_a0 (rfl : h_rs 8 6 = some (806, false)) (by decide)
  have agn : h_ad z a0 6 = gn := h_ad.at rgn
  obtain ⟨pt, rpt, tpt⟩ := hR.at a0 7 t_a0 (rfl : h_rs 8 7 = some (807, false)) (by decide)
  have apt : h_ad z a0 7 = pt := h_ad.at rpt
  obtain ⟨ct, rct, tct⟩ := hR.at a0 8 t_a0 (rfl : h_rs 8 8 = some (808, false)) (by decide)
  have act : h_ad z a0 8 = ct := h_ad.at rct
  obtain ⟨cr, rcr, tcr⟩ := hR.at a0 11 t_a0 (rfl : h_rs 8 11 = some (811, false)) (by decide)
  have acr : h_ad z a0 11 = cr := h_ad.at rcr
  obtain ⟨pr, rpr, tpr⟩ := hR.at a0 12 t_a0 (rfl : h_rs 8 12 = some (812, false)) (by decide)
  have apr : h_ad z a0 12 = pr := h_ad.at rpr
  have hgr0 := hgr
  unfold c_gr at hgr
  rw [ast, aln, agn, apt, act] at hgr
  obtain ⟨n60, hst, hln, hgp, hct⟩ := hgr
  have sb := fun c : Nat => q_sp_n (cb := CB) c n_
  have ca : ((a_t.toNat : Nat) : Int) = a_t := by omega
  have ka : a.toNatClampNeg = a_t.toNat := h_keq h_a (by omega) (by omega)
  have sp_a := q_sp_m (cb := CB) (n := n_) (show a_t.toNat + 1 ≤ 8 by omega)
  have sb_a := sb 8
  have sd_a : q_sp CB n_ (a_t.toNat + 1) = q_sp CB n_ a_t.toNat + q_ct (q_mc CB ((a_t.toNat : Nat) : Int)) n_ := rfl
  rw [ca] at sd_a
  have cb : ((b_t.toNat : Nat) : Int) = b_t := by omega
  have kb : b.toNatClampNeg = b_t.toNat := h_keq h_b (by omega) (by omega)
  have sp_b := q_sp_m (cb := CB) (n := n_) (show b_t.toNat + 1 ≤ 8 by omega)
  have sb_b := sb 8
  have sd_b : q_sp CB n_ (b_t.toNat + 1) = q_sp CB n_ b_t.toNat + q_ct (q_mc CB ((b_t.toNat : Nat) : Int)) n_ := rfl
  rw [cb] at sd_b
  have cc : ((c_t.toNat : Nat) : Int) = c_t := by omega
  have kc : c.toNatClampNeg = c_t.toNat := h_keq h_c (by omega) (by omega)
  have sp_c := q_sp_m (cb := CB) (n := n_) (show c_t.toNat + 1 ≤ 8 by omega)
  have sb_c := sb 8
  have sd_c : q_sp CB n_ (c_t.toNat + 1) = q_sp CB n_ c_t.toNat + q_ct (q_mc CB ((c_t.toNat : Nat) : Int)) n_ := rfl
  rw [cc] at sd_c
  have hI0 := hI
  refine lv_aload_n hx hb dX7_tryThree_0 rfl (lv_at hl 0 rfl) ?_
  refine h_get (v := .ref ct) hx hb hts iX7 hown g t_a0 (by decide) so_8 rfl 8 (by decide) (hts (.fieldLink RX7 39 "CapLeague$RingSearch" "clubTop" "[I") (by decide +kernel)) rfl dX7_tryThree_1 (by show va_rf (z.R a0 8) = _; rw [rct]; rfl) ?_
  refine lv_iload_n hx hb dX7_tryThree_4 rfl (lv_at hl 1 rfl) ?_
  refine h_ald hx hb g tct (by decide) so_808 (xi_in (by rw [h_a]; omega) (by rw [h_a]; omega)) dX7_tryThree_5 ?_
  refine lv_topi (fun v1 ev1 => ?_)
  have jv1 := hI.rd ct a.toNatClampNeg tct ev1 (rfl : h_bd 808 _ = ((-2147483648), 2147483647))
  have cE_a : I0 ct a_t.toNat = v1 := by rw [← ka, ev1]; rfl
  have cb_a : 0 ≤ v1.toInt ∧ v1.toInt ≤ 9999 := by rw [← cE_a]; exact hct a_t.toNat (by omega)
  refine lv_aload_n hx hb dX7_tryThree_6 rfl (lv_at hl 0 rfl) ?_
  refine h_get (v := .ref ct) hx hb hts iX7 hown g t_a0 (by decide) so_8 rfl 8 (by decide) (hts (.fieldLink RX7 39 "CapLeague$RingSearch" "clubTop" "[I") (by decide +kernel)) rfl dX7_tryThree_7 (by show va_rf (z.R a0 8) = _; rw [rct]; rfl) ?_
  refine lv_iload_n hx hb dX7_tryThree_10 rfl (lv_at hl 2 rfl) ?_
  refine h_ald hx hb g tct (by decide) so_808 (xi_in (by rw [h_b]; omega) (by rw [h_b]; omega)) dX7_tryThree_11 ?_
  refine lv_topi (fun v2 ev2 => ?_)
  have jv2 := hI.rd ct b.toNatClampNeg tct ev2 (rfl : h_bd 808 _ = ((-2147483648), 2147483647))
  have cE_b : I0 ct b_t.toNat = v2 := by rw [← kb, ev2]; rfl
  have cb_b : 0 ≤ v2.toInt ∧ v2.toInt ≤ 9999 := by rw [← cE_b]; exact hct b_t.toNat (by omega)
  refine lv_iadd hx hb dX7_tryThree_12 ?_
  refine lv_topi (fun v3 ev3 => ?_)
  have jv3 : v3.toInt = v1.toInt + v2.toInt := xi_add ev3 rfl rfl (by omega) (by omega)
  refine lv_aload_n hx hb dX7_tryThree_13 rfl (lv_at hl 0 rfl) ?_
  refine h_get (v := .ref ct) hx hb hts iX7 hown g t_a0 (by decide) so_8 rfl 8 (by decide) (hts (.fieldLink RX7 39 "CapLeague$RingSearch" "clubTop" "[I") (by decide +kernel)) rfl dX7_tryThree_14 (by show va_rf (z.R a0 8) = _; rw [rct]; rfl) ?_
  refine lv_iload_n hx hb dX7_tryThree_17 rfl (lv_at hl 3 rfl) ?_
  refine h_ald hx hb g tct (by decide) so_808 (xi_in (by rw [h_c]; omega) (by rw [h_c]; omega)) dX7_tryThree_18 ?_
  refine lv_topi (fun v4 ev4 => ?_)
  have jv4 := hI.rd ct c.toNatClampNeg tct ev4 (rfl : h_bd 808 _ = ((-2147483648), 2147483647))
  have cE_c : I0 ct c_t.toNat = v4 := by rw [← kc, ev4]; rfl
  have cb_c : 0 ≤ v4.toInt ∧ v4.toInt ≤ 9999 := by rw [← cE_c]; exact hct c_t.toNat (by omega)
  refine lv_iadd hx hb dX7_tryThree_19 ?_
  refine lv_topi (fun v5 ev5 => ?_)
  have jv5 : v5.toInt = v3.toInt + v4.toInt := xi_add ev5 rfl rfl (by omega) (by omega)
  refine lv_aload_n hx hb dX7_tryThree_20 rfl (lv_at hl 0 rfl) ?_
  refine h_get (v := .int (I0 a0 9)) hx hb hts iX7 hown g t_a0 (by decide) so_8 rfl 9 (by decide) (hts (.fieldLink RX7 59 "CapLeague$RingSearch" "best" "I") (by decide +kernel)) rfl dX7_tryThree_21 rfl ?_
  refine lv_topi (fun v6 ev6 => ?_)
  have jv6 := hI.rd a0 9 t_a0 ev6 (rfl : h_bd 8 9 = ((-2147483648), 2147483647))
  have bst : v6.toInt = s_.1 := by rw [ev6]; exact hs.1
  refine lv_icmp_gt (tgt := 28) hx hb dX7_tryThree_24 (by decide) (fun c7 => ?_) (fun c7 => ?_)
  · have ic7 := (xi_lt c7 rfl rfl : v6.toInt < v5.toInt)
    refine lv_aload_n hx hb dX7_tryThree_28 rfl (lv_at hl 0 rfl) ?_
    refine h_get (v := .ref st) hx hb hts iX7 hown g t_a0 (by decide) so_8 rfl 3 (by decide) (hts (.fieldLink RX7 22 "CapLeague$RingSearch" "start" "[I") (by decide +kernel)) rfl dX7_tryThree_29 (by show va_rf (z.R a0 3) = _; rw [rst]; rfl) ?_
    refine lv_iload_n hx hb dX7_tryThree_32 rfl (lv_at hl 1 rfl) ?_
    refine h_ald hx hb g tst (by decide) so_803 (xi_in (by rw [h_a]; omega) (by rw [h_a]; omega)) dX7_tryThree_33 ?_
    refine lv_topi (fun v8 ev8 => ?_)
    have jv8 := hI.rd st a.toNatClampNeg tst ev8 (rfl : h_bd 803 _ = (0, 60))
    have st_v8 : v8.toInt = ((q_sp CB n_ a_t.toNat : Nat) : Int) := by rw [← hst a_t.toNat (by omega), ← ka, ev8]
    refine lv_istore (lv' := [(4, .int v8), (0, .ref a0), (1, .int a), (2, .int b), (3, .int c)]) hx hb dX7_tryThree_34 hl (by decide) rfl (fun ls hl => ?_)
    have loop36_0 : ∀ (n : Nat) (I10 : tI) (H : Heap) (locs : List Loc) (ls : Array Slot) (v9 : Int32), h_G h_so h_fk E A z I10 L0 s s.heap H locs → h_I z I10 → h_F [(8, 10), (811, 999), (812, 999), (8, 9)] z I0 I10 → lv_has ls 7 [(0, .ref a0), (1, .int a), (2, .int b), (3, .int c), (4, .int v9)] → (0 ≤ v9.toInt ∧ v9.toInt ≤ 60) → h_F [(8, 10), (811, 999), (812, 999), (8, 9)] z I0 I10 → (r_lp z J_ I10 a0 (q_mc CB a_t) (fun (s : tS) (p : Nat) => r_fp (q_mc CB b_t) (fun (s : tS) (q : Nat) => r_fp (q_mc CB c_t) (fun (s : tS) (r : Nat) => r_st3 GG a_t b_t c_t p q r s) s n_) s n_) s_ n_ (((v9.toInt).toNat) - q_sp CB n_ a_t.toNat)) → (((q_sp CB n_ a_t.toNat : Nat) : Int) ≤ v9.toInt) → (v9.toInt ≤ ((q_sp CB n_ (a_t.toNat + 1) : Nat) : Int)) → (60 - v9.toInt) < (n : Int) → W pr_ l ev_ (headSpec wsX7_tryThree ({ frames := 3, cells := 0, slots := 0, locals := 192 })).room s m ([.ref a0, .int a, .int b, .int c] : List Value).toArray below meth cd_ H locs 0 0 (MQ below (va_Qv (fun (I1 : tI) => h_I z I1 ∧ h_F [(8, 10), (811, 999), (812, 999), (8, 9)] z I0 I1 ∧ (c_rs z J_ I1 a0 (r_thr GG CB n_ a_t b_t c_t s_))) (fun (I1 : tI) t => h_B E A z I1 L0 t) A) ([.ref a0, .int a, .int b, .int c] : List Value).toArray s 0 0 A) (F0 m 36 ls []) := by
      intro n
      induction n with
      | zero => intro I10 H locs ls v9 g hI hF hl jv9 hL36 hx36_0 hx36_1 hx36_2 hn; exact absurd hn (by omega)
      | succ n ih36 =>
        intro I10 H locs ls v9 g hI hF hl jv9 hL36 hx36_0 hx36_1 hx36_2 hn
        obtain ⟨t36, ta36, tb36⟩ := hx36_0
        refine lv_iload hx hb dX7_tryThree_36 (lv_at hl 4 rfl) ?_
        refine lv_aload_n hx hb dX7_tryThree_38 rfl (lv_at hl 0 rfl) ?_
        refine h_get (v := .ref st) hx hb hts iX7 hown g t_a0 (by decide) so_8 rfl 3 (by decide) (hts (.fieldLink RX7 22 "CapLeague$RingSearch" "start" "[I") (by decide +kernel)) rfl dX7_tryThree_39 (by show va_rf (z.R a0 3) = _; rw [rst]; rfl) ?_
        refine lv_iload_n hx hb dX7_tryThree_42 rfl (lv_at hl 1 rfl) ?_
        refine lv_iconst (v := 1) hx hb dX7_tryThree_43 (by decide) ?_
        refine lv_iadd hx hb dX7_tryThree_44 ?_
        refine lv_topi (fun v11 ev11 => ?_)
        have jv11 : v11.toInt = a_t + 1 := xi_add ev11 h_a (by decide) (by omega) (by omega)
        refine h_ald hx hb g tst (by decide) so_803 (xi_in (by omega) (by omega)) dX7_tryThree_45 ?_
        refine lv_topi (fun v12 ev12 => ?_)
        have jv12 := hI.rd st v11.toNatClampNeg tst ev12 (rfl : h_bd 803 _ = (0, 60))
        have st_v12 : v12.toInt = ((q_sp CB n_ (a_t.toNat + 1) : Nat) : Int) := by rw [← hst (a_t.toNat + 1) (by omega), ← (h_keq (i := v11) (t := v11.toInt) (k := a_t.toNat + 1) rfl (by omega) (by omega) : v11.toNatClampNeg = a_t.toNat + 1), ev12]; exact congrArg Int32.toInt (h_F.at hL36 tst rfl)
        refine lv_icmp_ge (tgt := 159) hx hb dX7_tryThree_46 (by decide) (fun c13 => ?_) (fun c13 => ?_)
        · have ic13 := (xi_le c13 rfl rfl : v12.toInt ≤ v9.toInt)
          have hS := g.2.1
          exact W.vret hx hb hr (fun t ht hW => ⟨⟨I10, rfl, ⟨hI, hF, (by show c_rs z J_ I10 a0 (r_thr GG CB n_ a_t b_t c_t s_); unfold r_thr; rw [← ta36.e (by omega)]; exact tb36)⟩, h_ret g ht⟩, hS.F ht⟩) hS.2.2 dX7_tryThree_159
        · have ic13 := (xi_nle c13 rfl rfl : v9.toInt < v12.toInt)
          obtain ⟨pv, epv⟩ : ∃ x : Int32, x = I0 ln v9.toNatClampNeg := ⟨_, rfl⟩
          have jpv := hI0.rd ln _ tln epv (rfl : h_bd 802 _ = (0, 59))
          have ki_pv : v9.toNatClampNeg = v9.toInt.toNat := h_keq rfl (by omega) (by omega)
          obtain ⟨p0, hp_pv, hP0, hk_pv⟩ := q_ct_ex (P := q_mc CB a_t) (k := v9.toInt.toNat - q_sp CB n_ a_t.toNat) (n := n_) (by omega)
          have hc_pv := q_mc_i hP0
          have l0 := hln a_t.toNat p0 (by omega) hp_pv (by rw [ca]; exact hc_pv)
          rw [ca, show q_sp CB n_ a_t.toNat + q_ct (q_mc CB a_t) p0 = v9.toInt.toNat by omega, ← ki_pv, ← epv] at l0
          have ep0 : p0 = pv.toInt.toNat := by omega
          subst ep0
          have kp_pv : pv.toNatClampNeg = pv.toInt.toNat := h_keq rfl (by omega) (by omega)
          have hc_pv9 : (CB pv.toInt.toNat).toInt = ((a_t.toNat : Nat) : Int) := by rw [ca]; exact hc_pv
          have gp_pv := hgp a_t.toNat pv.toInt.toNat (by omega) hp_pv hc_pv9
          have ct_pv := hct a_t.toNat (by omega)
          rw [ca] at gp_pv
          obtain ⟨⟨gg_pv, gl_pv, gh_pv⟩, gt_pv⟩ := gp_pv
          refine lv_aload_n hx hb dX7_tryThree_49 rfl (lv_at hl 0 rfl) ?_
          refine h_get (v := .ref st) hx hb hts iX7 hown g t_a0 (by decide) so_8 rfl 3 (by decide) (hts (.fieldLink RX7 22 "CapLeague$RingSearch" "start" "[I") (by decide +kernel)) rfl dX7_tryThree_50 (by show va_rf (z.R a0 3) = _; rw [rst]; rfl) ?_
          refine lv_iload_n hx hb dX7_tryThree_53 rfl (lv_at hl 2 rfl) ?_
          refine h_ald hx hb g tst (by decide) so_803 (xi_in (by rw [h_b]; omega) (by rw [h_b]; omega)) dX7_tryThree_54 ?_
          refine lv_topi (fun v14 ev14 => ?_)
          have jv14 := hI.rd st b.toNatClampNeg tst ev14 (rfl : h_bd 803 _ = (0, 60))
          have st_v14 : v14.toInt = ((q_sp CB n_ b_t.toNat : Nat) : Int) := by rw [← hst b_t.toNat (by omega), ← kb, ev14]; exact congrArg Int32.toInt (h_F.at hL36 tst rfl)
          refine lv_istore (lv' := [(5, .int v14), (0, .ref a0), (1, .int a), (2, .int b), (3, .int c), (4, .int v9)]) hx hb dX7_tryThree_55 hl (by decide) rfl (fun ls hl => ?_)
          have loop57_1 : ∀ (n : Nat) (I16 : tI) (H : Heap) (locs : List Loc) (ls : Array Slot) (v15 : Int32), h_G h_so h_fk E A z I16 L0 s s.heap H locs → h_I z I16 → h_F [(8, 10), (811, 999), (812, 999), (8, 9)] z I0 I16 → lv_has ls 7 [(0, .ref a0), (1, .int a), (2, .int b), (3, .int c), (4, .int v9), (5, .int v15)] → (0 ≤ v15.toInt ∧ v15.toInt ≤ 60) → h_F [(8, 10), (811, 999), (812, 999), (8, 9)] z I10 I16 → (r_lp z J_ I16 a0 (q_mc CB b_t) (fun (s : tS) (q : Nat) => r_fp (q_mc CB c_t) (fun (s : tS) (r : Nat) => r_st3 GG a_t b_t c_t pv.toInt.toNat q r s) s n_) t36 n_ (((v15.toInt).toNat) - q_sp CB n_ b_t.toNat)) → (((q_sp CB n_ b_t.toNat : Nat) : Int) ≤ v15.toInt) → (v15.toInt ≤ ((q_sp CB n_ (b_t.toNat + 1) : Nat) : Int)) → (60 - v15.toInt) < (n : Int) → W pr_ l ev_ (headSpec wsX7_tryThree ({ frames := 3, cells := 0, slots := 0, locals := 192 })).room s m ([.ref a0, .int a, .int b, .int c] : List Value).toArray below meth cd_ H locs 0 0 (MQ below (va_Qv (fun (I1 : tI) => h_I z I1 ∧ h_F [(8, 10), (811, 999), (812, 999), (8, 9)] z I0 I1 ∧ (c_rs z J_ I1 a0 (r_thr GG CB n_ a_t b_t c_t s_))) (fun (I1 : tI) t => h_B E A z I1 L0 t) A) ([.ref a0, .int a, .int b, .int c] : List Value).toArray s 0 0 A) (F0 m 57 ls []) := by
            intro n
            induction n with
            | zero => intro I16 H locs ls v15 g hI hF hl jv15 hL57 hx57_0 hx57_1 hx57_2 hn; exact absurd hn (by omega)
            | succ n ih57 =>
              intro I16 H locs ls v15 g hI hF hl jv15 hL57 hx57_0 hx57_1 hx57_2 hn
              obtain ⟨t57, ta57, tb57⟩ := hx57_0
              refine lv_iload hx hb dX7_tryThree_57 (lv_at hl 5 rfl) ?_
              refine lv_aload_n hx hb dX7_tryThree_59 rfl (lv_at hl 0 rfl) ?_
              refine h_get (v := .ref st) hx hb hts iX7 hown g t_a0 (by decide) so_8 rfl 3 (by decide) (hts (.fieldLink RX7 22 "CapLeague$RingSearch" "start" "[I") (by decide +kernel)) rfl dX7_tryThree_60 (by show va_rf (z.R a0 3) = _; rw [rst]; rfl) ?_
              refine lv_iload_n hx hb dX7_tryThree_63 rfl (lv_at hl 2 rfl) ?_
              refine lv_iconst (v := 1) hx hb dX7_tryThree_64 (by decide) ?_
              refine lv_iadd hx hb dX7_tryThree_65 ?_
              refine lv_topi (fun v17 ev17 => ?_)
              have jv17 : v17.toInt = b_t + 1 := xi_add ev17 h_b (by decide) (by omega) (by omega)
              refine h_ald hx hb g tst (by decide) so_803 (xi_in (by omega) (by omega)) dX7_tryThree_66 ?_
              refine lv_topi (fun v18 ev18 => ?_)
              have jv18 := hI.rd st v17.toNatClampNeg tst ev18 (rfl : h_bd 803 _ = (0, 60))
              have st_v18 : v18.toInt = ((q_sp CB n_ (b_t.toNat + 1) : Nat) : Int) := by rw [← hst (b_t.toNat + 1) (by omega), ← (h_keq (i := v17) (t := v17.toInt) (k := b_t.toNat + 1) rfl (by omega) (by omega) : v17.toNatClampNeg = b_t.toNat + 1), ev18]; exact congrArg Int32.toInt ((h_F.at hL57 tst rfl).trans (h_F.at hL36 tst rfl))
              refine lv_icmp_ge (tgt := 153) hx hb dX7_tryThree_67 (by decide) (fun c19 => ?_) (fun c19 => ?_)
              · have ic19 := (xi_le c19 rfl rfl : v18.toInt ≤ v15.toInt)
                obtain ⟨v20, ev20⟩ : ∃ z : Int32, z = v9 + 1 := ⟨_, rfl⟩
                have jv20 : v20.toInt = v9.toInt + 1 := xi_add ev20 rfl (by decide) (by omega) (by omega)
                refine lv_iinc (v := v20) (lv' := [(4, .int v20), (0, .ref a0), (1, .int a), (2, .int b), (3, .int c), (5, .int v15)]) hx hb dX7_tryThree_153 hl (k := 4) rfl (by rw [ev20]; rfl) (by decide) rfl (fun ls hl => ?_)
                refine lv_goto (tgt := 36) hx hb dX7_tryThree_156 (by decide) ?_
                exact ih36 I16 _ _ _ v20 g hI hF (lv_sub hl [1, 2, 3, 4, 0] rfl) (by omega) (h_F.call (h_F.call (h_F.rf : h_F [(8, 10), (811, 999), (812, 999), (8, 9)] z I0 I0) hL36 rfl) hL57 rfl) (⟨(r_fp (q_mc CB b_t) (fun (s : tS) (q : Nat) => r_fp (q_mc CB c_t) (fun (s : tS) (r : Nat) => r_st3 GG a_t b_t c_t pv.toInt.toNat q r s) s n_) t36 n_), by rw [show ((v20.toInt).toNat - q_sp CB n_ a_t.toNat) = ((v9.toInt).toNat - q_sp CB n_ a_t.toNat) + 1 by omega]; exact ta36.s hp_pv (q_mc_y hc_pv) hk_pv, by rw [← ta57.e (by omega)]; exact tb57⟩) (by omega) (by omega) (by omega)
              · have ic19 := (xi_nle c19 rfl rfl : v15.toInt < v18.toInt)
                obtain ⟨qv, eqv⟩ : ∃ x : Int32, x = I0 ln v15.toNatClampNeg := ⟨_, rfl⟩
                have jqv := hI0.rd ln _ tln eqv (rfl : h_bd 802 _ = (0, 59))
                have ki_qv : v15.toNatClampNeg = v15.toInt.toNat := h_keq rfl (by omega) (by omega)
                obtain ⟨p0, hp_qv, hP0, hk_qv⟩ := q_ct_ex (P := q_mc CB b_t) (k := v15.toInt.toNat - q_sp CB n_ b_t.toNat) (n := n_) (by omega)
                have hc_qv := q_mc_i hP0
                have l0 := hln b_t.toNat p0 (by omega) hp_qv (by rw [cb]; exact hc_qv)
                rw [cb, show q_sp CB n_ b_t.toNat + q_ct (q_mc CB b_t) p0 = v15.toInt.toNat by omega, ← ki_qv, ← eqv] at l0
                have ep0 : p0 = qv.toInt.toNat := by omega
                subst ep0
                have kp_qv : qv.toNatClampNeg = qv.toInt.toNat := h_keq rfl (by omega) (by omega)
                have hc_qv9 : (CB qv.toInt.toNat).toInt = ((b_t.toNat : Nat) : Int) := by rw [cb]; exact hc_qv
                have gp_qv := hgp b_t.toNat qv.toInt.toNat (by omega) hp_qv hc_qv9
                have ct_qv := hct b_t.toNat (by omega)
                rw [cb] at gp_qv
                obtain ⟨⟨gg_qv, gl_qv, gh_qv⟩, gt_qv⟩ := gp_qv
                refine lv_aload_n hx hb dX7_tryThree_70 rfl (lv_at hl 0 rfl) ?_
                refine h_get (v := .ref gn) hx hb hts iX7 hown g t_a0 (by decide) so_8 rfl 6 (by decide) (hts (.fieldLink RX7 33 "CapLeague$RingSearch" "gains" "[[I") (by decide +kernel)) rfl dX7_tryThree_71 (by show va_rf (z.R a0 6) = _; rw [rgn]; rfl) ?_
                refine lv_aload_n hx hb dX7_tryThree_74 rfl (lv_at hl 0 rfl) ?_
                refine h_get (v := .ref ln) hx hb hts iX7 hown g t_a0 (by decide) so_8 rfl 2 (by decide) (hts (.fieldLink RX7 18 "CapLeague$RingSearch" "line" "[I") (by decide +kernel)) rfl dX7_tryThree_75 (by show va_rf (z.R a0 2) = _; rw [rln]; rfl) ?_
                refine lv_iload hx hb dX7_tryThree_78 (lv_at hl 5 rfl) ?_
                refine h_ald hx hb g tln (by decide) so_802 (xi_in (by omega) (by omega)) dX7_tryThree_80 ?_
                refine xw_i ((h_F.at hL57 tln rfl).trans ((h_F.at hL36 tln rfl).trans (eqv.symm))) ?_
                obtain ⟨b21, rb21, tb21⟩ := hR.at gn qv.toNatClampNeg tgn (rfl : h_rs 806 _ = some (856, false)) (by rw [so_806]; exact h_lt (n := 60) (xi_in (by omega) (by omega)))
                refine h_aldA (v := .ref b21) hx hb g tgn (by decide) so_806 (xi_in (by omega) (by omega)) dX7_tryThree_81 (by rw [rb21]; rfl) ?_
                have ar_b21 : h_ad z gn qv.toInt.toNat = b21 := by rw [← kp_qv]; exact h_ad.at rb21
                refine lv_aload_n hx hb dX7_tryThree_82 rfl (lv_at hl 0 rfl) ?_
                refine h_get (v := .ref ln) hx hb hts iX7 hown g t_a0 (by decide) so_8 rfl 2 (by decide) (hts (.fieldLink RX7 18 "CapLeague$RingSearch" "line" "[I") (by decide +kernel)) rfl dX7_tryThree_83 (by show va_rf (z.R a0 2) = _; rw [rln]; rfl) ?_
                refine lv_iload hx hb dX7_tryThree_86 (lv_at hl 4 rfl) ?_
                refine h_ald hx hb g tln (by decide) so_802 (xi_in (by omega) (by omega)) dX7_tryThree_88 ?_
                refine xw_i ((h_F.at hL57 tln rfl).trans ((h_F.at hL36 tln rfl).trans (epv.symm))) ?_
                refine h_ald hx hb g tb21 (by decide) so_856 (xi_in (by omega) (by omega)) dX7_tryThree_89 ?_
                refine lv_topi (fun v22 ev22 => ?_)
                have jv22 := hI.rd b21 pv.toNatClampNeg tb21 ev22 (rfl : h_bd 856 _ = ((-2147483648), 2147483647))
                have gE_v22 := gg_qv pv.toInt.toNat hp_pv (by rw [hc_pv]; omega) (by rw [hc_pv]; omega)
                rw [show I0 (h_ad z gn qv.toInt.toNat) pv.toInt.toNat = v22 by rw [ar_b21, ← kp_pv, ev22]; exact ((h_F.at hL57 tb21 rfl).trans (h_F.at hL36 tb21 rfl)).symm] at gE_v22
                have nb_v22 : v22.toInt ≤ 9999 := by omega
                refine lv_istore (lv' := [(6, .int v22), (0, .ref a0), (1, .int a), (2, .int b), (3, .int c), (4, .int v9), (5, .int v15)]) hx hb dX7_tryThree_90 hl (by decide) rfl (fun ls hl => ?_)
                refine lv_iload hx hb dX7_tryThree_92 (lv_at hl 0 rfl) ?_
                refine lv_if_le (tgt := 147) hx hb dX7_tryThree_94 (by decide) (fun c23 => ?_) (fun c23 => ?_)
                · have ic23 := (xi_le c23 rfl (by decide) : v22.toInt ≤ 0)
                  obtain ⟨v24, ev24⟩ : ∃ z : Int32, z = v15 + 1 := ⟨_, rfl⟩
                  have jv24 : v24.toInt = v15.toInt + 1 := xi_add ev24 rfl (by decide) (by omega) (by omega)
                  refine lv_iinc (v := v24) (lv' := [(5, .int v24), (6, .int v22), (0, .ref a0), (1, .int a), (2, .int b), (3, .int c), (4, .int v9)]) hx hb dX7_tryThree_147 hl (k := 6) rfl (by rw [ev24]; rfl) (by decide) rfl (fun ls hl => ?_)
                  refine lv_goto (tgt := 57) hx hb dX7_tryThree_150 (by decide) ?_
                  exact ih57 I16 _ _ _ v24 g hI hF (lv_sub hl [2, 3, 4, 5, 6, 0] rfl) (by omega) (h_F.call (h_F.rf : h_F [(8, 10), (811, 999), (812, 999), (8, 9)] z I10 I10) hL57 rfl) (⟨(r_fp (q_mc CB c_t) (fun (s : tS) (r : Nat) => r_st3 GG a_t b_t c_t pv.toInt.toNat qv.toInt.toNat r s) t57 n_), by rw [show ((v24.toInt).toNat - q_sp CB n_ b_t.toNat) = ((v15.toInt).toNat - q_sp CB n_ b_t.toNat) + 1 by omega]; exact ta57.s hp_qv (q_mc_y hc_qv) hk_qv, by rw [show (r_fp (q_mc CB c_t) (fun (s : tS) (r : Nat) => r_st3 GG a_t b_t c_t pv.toInt.toNat qv.toInt.toNat r s) t57 n_) = t57 from r_st3_no (Or.inl (by omega))]; exact tb57⟩) (by omega) (by omega) (by omega)
                · have ic23 := (xi_nle c23 rfl (by decide) : 0 < v22.toInt)
                  refine lv_iload hx hb dX7_tryThree_97 (lv_at hl 0 rfl) ?_
                  refine lv_aload_n hx hb dX7_tryThree_99 rfl (lv_at hl 1 rfl) ?_
                  refine h_get (v := .ref pt) hx hb hts iX7 hown g t_a0 (by decide) so_8 rfl 7 (by decide) (hts (.fieldLink RX7 36 "CapLeague$RingSearch" "playerTop" "[I") (by decide +kernel)) rfl dX7_tryThree_100 (by show va_rf (z.R a0 7) = _; rw [rpt]; rfl) ?_
                  refine lv_aload_n hx hb dX7_tryThree_103 rfl (lv_at hl 1 rfl) ?_
                  refine h_get (v := .ref ln) hx hb hts iX7 hown g t_a0 (by decide) so_8 rfl 2 (by decide) (hts (.fieldLink RX7 18 "CapLeague$RingSearch" "line" "[I") (by decide +kernel)) rfl dX7_tryThree_104 (by show va_rf (z.R a0 2) = _; rw [rln]; rfl) ?_
                  refine lv_iload hx hb dX7_tryThree_107 (lv_at hl 5 rfl) ?_
                  refine h_ald hx hb g tln (by decide) so_802 (xi_in (by omega) (by omega)) dX7_tryThree_109 ?_
                  refine xw_i ((h_F.at hL57 tln rfl).trans ((h_F.at hL36 tln rfl).trans (epv.symm))) ?_
                  refine h_ald hx hb g tpt (by decide) so_807 (xi_in (by omega) (by omega)) dX7_tryThree_110 ?_
                  refine lv_topi (fun v25 ev25 => ?_)
                  have jv25 := hI.rd pt pv.toNatClampNeg tpt ev25 (rfl : h_bd 807 _ = ((-2147483648), 2147483647))
                  have pE : I0 pt pv.toInt.toNat = v25 := by rw [← kp_pv, ev25]; exact ((h_F.at hL57 tpt rfl).trans (h_F.at hL36 tpt rfl)).symm
                  have pb9 : 0 ≤ v25.toInt ∧ v25.toInt ≤ 9999 := by rw [← pE]; exact ⟨gl_pv, gh_pv⟩
                  refine lv_iadd hx hb dX7_tryThree_111 ?_
                  refine lv_topi (fun v26 ev26 => ?_)
                  have jv26 : v26.toInt = v22.toInt + v25.toInt := xi_add ev26 rfl rfl (by omega) (by omega)
                  refine lv_aload_n hx hb dX7_tryThree_112 rfl (lv_at hl 1 rfl) ?_
                  refine h_get (v := .ref ct) hx hb hts iX7 hown g t_a0 (by decide) so_8 rfl 8 (by decide) (hts (.fieldLink RX7 39 "CapLeague$RingSearch" "clubTop" "[I") (by decide +kernel)) rfl dX7_tryThree_113 (by show va_rf (z.R a0 8) = _; rw [rct]; rfl) ?_
                  refine lv_iload_n hx hb dX7_tryThree_116 rfl (lv_at hl 4 rfl) ?_
                  refine h_ald hx hb g tct (by decide) so_808 (xi_in (by rw [h_c]; omega) (by rw [h_c]; omega)) dX7_tryThree_117 ?_
                  refine xw_i ((h_F.at hL57 tct rfl).trans ((h_F.at hL36 tct rfl).trans (ev4.symm))) ?_
                  refine lv_iadd hx hb dX7_tryThree_118 ?_
                  refine lv_topi (fun v27 ev27 => ?_)
                  have jv27 : v27.toInt = v26.toInt + v4.toInt := xi_add ev27 rfl rfl (by omega) (by omega)
                  refine lv_aload_n hx hb dX7_tryThree_119 rfl (lv_at hl 1 rfl) ?_
                  refine h_get (v := .int (I16 a0 9)) hx hb hts iX7 hown g t_a0 (by decide) so_8 rfl 9 (by decide) (hts (.fieldLink RX7 59 "CapLeague$RingSearch" "best" "I") (by decide +kernel)) rfl dX7_tryThree_120 rfl ?_
                  refine lv_topi (fun v28 ev28 => ?_)
                  have jv28 := hI.rd a0 9 t_a0 ev28 (rfl : h_bd 8 9 = ((-2147483648), 2147483647))
                  have bst : v28.toInt = t57.1 := by rw [ev28]; exact tb57.1
                  refine lv_icmp_le (tgt := 147) hx hb dX7_tryThree_123 (by decide) (fun c29 => ?_) (fun c29 => ?_)
                  · have ic29 := (xi_le c29 rfl rfl : v27.toInt ≤ v28.toInt)
                    obtain ⟨v30, ev30⟩ : ∃ z : Int32, z = v15 + 1 := ⟨_, rfl⟩
                    have jv30 : v30.toInt = v15.toInt + 1 := xi_add ev30 rfl (by decide) (by omega) (by omega)
                    refine lv_iinc (v := v30) (lv' := [(5, .int v30), (6, .int v22), (0, .ref a0), (1, .int a), (2, .int b), (3, .int c), (4, .int v9)]) hx hb dX7_tryThree_147 hl (k := 6) rfl (by rw [ev30]; rfl) (by decide) rfl (fun ls hl => ?_)
                    refine lv_goto (tgt := 57) hx hb dX7_tryThree_150 (by decide) ?_
                    exact ih57 I16 _ _ _ v30 g hI hF (lv_sub hl [2, 3, 4, 5, 6, 0] rfl) (by omega) (h_F.call (h_F.rf : h_F [(8, 10), (811, 999), (812, 999), (8, 9)] z I10 I10) hL57 rfl) (⟨(r_fp (q_mc CB c_t) (fun (s : tS) (r : Nat) => r_st3 GG a_t b_t c_t pv.toInt.toNat qv.toInt.toNat r s) t57 n_), by rw [show ((v30.toInt).toNat - q_sp CB n_ b_t.toNat) = ((v15.toInt).toNat - q_sp CB n_ b_t.toNat) + 1 by omega]; exact ta57.s hp_qv (q_mc_y hc_qv) hk_qv, by rw [show (r_fp (q_mc CB c_t) (fun (s : tS) (r : Nat) => r_st3 GG a_t b_t c_t pv.toInt.toNat qv.toInt.toNat r s) t57 n_) = t57 from r_st3_no (Or.inr (fun r hr h3 => by have t1 := hgr0.top (c := a_t) (d := c_t) (by omega) (by omega) (by omega) hp_pv hr hc_pv h3; have t2 := hgr0.top (c := c_t) (d := b_t) (by omega) (by omega) (by omega) hr hp_qv h3 hc_qv; rw [apt, act] at t1 t2; rw [pE] at t1; rw [cE_c] at t2; omega))]; exact tb57⟩) (by omega) (by omega) (by omega)
                  · have ic29 := (xi_nle c29 rfl rfl : v28.toInt < v27.toInt)
                    refine lv_aload_n hx hb dX7_tryThree_126 rfl (lv_at hl 1 rfl) ?_
                    refine lv_iload_n hx hb dX7_tryThree_127 rfl (lv_at hl 4 rfl) ?_
                    refine lv_iload_n hx hb dX7_tryThree_128 rfl (lv_at hl 2 rfl) ?_
                    refine lv_aload_n hx hb dX7_tryThree_129 rfl (lv_at hl 1 rfl) ?_
                    refine h_get (v := .ref ln) hx hb hts iX7 hown g t_a0 (by decide) so_8 rfl 2 (by decide) (hts (.fieldLink RX7 18 "CapLeague$RingSearch" "line" "[I") (by decide +kernel)) rfl dX7_tryThree_130 (by show va_rf (z.R a0 2) = _; rw [rln]; rfl) ?_
                    refine lv_iload hx hb dX7_tryThree_133 (lv_at hl 5 rfl) ?_
                    refine h_ald hx hb g tln (by decide) so_802 (xi_in (by omega) (by omega)) dX7_tryThree_135 ?_
                    refine xw_i ((h_F.at hL57 tln rfl).trans ((h_F.at hL36 tln rfl).trans (epv.symm))) ?_
                    refine lv_iload_n hx hb dX7_tryThree_136 rfl (lv_at hl 3 rfl) ?_
                    refine lv_aload_n hx hb dX7_tryThree_137 rfl (lv_at hl 1 rfl) ?_
                    refine h_get (v := .ref ln) hx hb hts iX7 hown g t_a0 (by decide) so_8 rfl 2 (by decide) (hts (.fieldLink RX7 18 "CapLeague$RingSearch" "line" "[I") (by decide +kernel)) rfl dX7_tryThree_138 (by show va_rf (z.R a0 2) = _; rw [rln]; rfl) ?_
                    refine lv_iload hx hb dX7_tryThree_141 (lv_at hl 6 rfl) ?_
                    refine h_ald hx hb g tln (by decide) so_802 (xi_in (by omega) (by omega)) dX7_tryThree_143 ?_
                    refine xw_i ((h_F.at hL57 tln rfl).trans ((h_F.at hL36 tln rfl).trans (eqv.symm))) ?_
                    refine va_callv (va_runV (As := [.int c, .int a, .int pv, .int b, .int qv]) (rest := []) ⟨hx, hb, hml, hown, hts⟩ (tX7_tryThirdR l E X A z I16 L0 a0 t_a0 c (c_t) h_c (by omega) a (a_t) h_a (by omega) pv (pv.toInt) rfl (by omega) b (b_t) h_b (by omega) qv (qv.toInt) rfl (by omega) (J_) (n_) (CB) (GG) (t57) (hgr0.F hR t_a0 (h_F.call (h_F.call (h_F.rf : h_F [(8, 10), (811, 999), (812, 999), (8, 9)] z I0 I0) hL36 rfl) hL57 rfl) (fun _ => rfl) (fun _ => rfl) (fun _ => rfl) (fun _ => rfl) (fun _ => rfl)) (tb57) (hne) (⟨hp_pv, hc_pv⟩) (⟨hp_qv, hc_qv⟩) (by rw [← gE_v22]; omega)) (cwV 5 hts gX7_tryThree_X7_tryThird rfl rfl rfl (by decide +kernel) ⟨Nat.le_of_ble_eq_true rfl, Nat.le_of_ble_eq_true rfl⟩) ⟨h_blind _ _ _ _ _ _ _, h_recv g t_a0 (by decide) so_8 (q := (RX7, TX7, 13)) rfl, h_pre _ hE hk hX hA hI hR g⟩ rfl rfl hl.1 rfl (lv_room (Nat.le_of_ble_eq_true rfl)) dX7_tryThree_144 ⟨Nat.le_of_ble_eq_true rfl, Nat.le_of_ble_eq_true rfl⟩) g.2.1 (fun q _ h => h) (fun q h => h) (fun I32 t H1 locs ht hvm h31 hB hz1 hk1 hS => ?_)
                    obtain ⟨hI, fh31, h31⟩ := h31
                    replace g := h_after g hB ht hS
                    generalize H1 = H at g
                    clear hB hk1 hz1 ht hvm hS
                    have hF := hF.call fh31 rfl
                    have h31p0 := h31
                    obtain ⟨v33, ev33⟩ : ∃ z : Int32, z = v15 + 1 := ⟨_, rfl⟩
                    have jv33 : v33.toInt = v15.toInt + 1 := xi_add ev33 rfl (by decide) (by omega) (by omega)
                    refine lv_iinc (v := v33) (lv' := [(5, .int v33), (6, .int v22), (0, .ref a0), (1, .int a), (2, .int b), (3, .int c), (4, .int v9)]) hx hb dX7_tryThree_147 hl (k := 6) rfl (by rw [ev33]; rfl) (by decide) rfl (fun ls hl => ?_)
                    refine lv_goto (tgt := 57) hx hb dX7_tryThree_150 (by decide) ?_
                    exact ih57 I32 _ _ _ v33 g hI hF (lv_sub hl [2, 3, 4, 5, 6, 0] rfl) (by omega) (h_F.call (h_F.call (h_F.rf : h_F [(8, 10), (811, 999), (812, 999), (8, 9)] z I10 I10) hL57 rfl) fh31 rfl) (⟨(r_fp (q_mc CB c_t) (fun (s : tS) (r : Nat) => r_st3 GG a_t b_t c_t pv.toInt.toNat qv.toInt.toNat r s) t57 n_), by rw [show ((v33.toInt).toNat - q_sp CB n_ b_t.toNat) = ((v15.toInt).toNat - q_sp CB n_ b_t.toNat) + 1 by omega]; exact ta57.s hp_qv (q_mc_y hc_qv) hk_qv, by exact h31p0⟩) (by omega) (by omega) (by omega)
          exact loop57_1 _ I10 _ _ _ v14 g hI hF (lv_sub hl [1, 2, 3, 4, 5, 0] rfl) (by omega) (h_F.rf : h_F [(8, 10), (811, 999), (812, 999), (8, 9)] z I10 I10) (⟨t36, by rw [show ((v14.toInt).toNat - q_sp CB n_ b_t.toNat) = 0 by omega]; exact r_at.z, tb36⟩) (by omega) (by omega) (show (60 - v14.toInt) < (((60 - v14.toInt).toNat + 1 : Nat) : Int) by omega)
    exact loop36_0 _ I0 _ _ _ v8 g hI hF (lv_sub hl [1, 2, 3, 4, 0] rfl) (by omega) (h_F.rf : h_F [(8, 10), (811, 999), (812, 999), (8, 9)] z I0 I0) (⟨s_, by rw [show ((v8.toInt).toNat - q_sp CB n_ a_t.toNat) = 0 by omega]; exact r_at.z, hs⟩) (by omega) (by omega) (show (60 - v8.toInt) < (((60 - v8.toInt).toNat + 1 : Nat) : Int) by omega)
  · have ic7 := (xi_nlt c7 rfl rfl : v5.toInt ≤ v6.toInt)
    have hS := g.2.1
    exact W.vret hx hb hr (fun t ht hW => ⟨⟨I0, rfl, ⟨hI, hF, (by show c_rs z J_ I0 a0 (r_thr GG CB n_ a_t b_t c_t s_); rw [show r_thr GG CB n_ a_t b_t c_t s_ = s_ from r_thr_no (fun p q r hp hq hr h1 h2 h3 => by have t1 := hgr0.top (c := a_t) (d := c_t) (by omega) (by omega) (by omega) hp hr h1 h3; have t2 := hgr0.top (c := b_t) (d := a_t) (by omega) (by omega) (by omega) hq hp h2 h1; have t3 := hgr0.top (c := c_t) (d := b_t) (by omega) (by omega) (by omega) hr hq h3 h2; rw [apt, act] at t1 t2 t3; rw [cE_a] at t1; rw [cE_b] at t2; rw [cE_c] at t3; omega)]; exact hs)⟩, h_ret g ht⟩, hS.F ht⟩) hS.2.2 dX7_tryThree_27
