set_option maxHeartbeats 4000000 in
set_option maxRecDepth 100000 in
theorem tX7_tryTwoR (l : Launch) (E : tE) (X : tX) (A : Nat → Prop) (z : tZ) (I0 : tI) (L0 : tL) (a0 : Nat) (t_a0 : z.ty a0 = 8) (a : Int32) (a_t : Int) (h_a : a.toInt = a_t) (b_a : 0 ≤ a_t ∧ a_t ≤ 7) (b : Int32) (b_t : Int) (h_b : b.toInt = b_t) (b_b : 0 ≤ b_t ∧ b_t ≤ 7) (J_ : tI) (n_ : Nat) (CB : Nat → Int32) (GG : Int → Nat → Nat → Int) (s_ : tS) (hgr : c_gr z I0 a0 n_ CB GG) (hs : c_rs z J_ I0 a0 s_) (hne : a_t ≠ b_t) : Met l yX7_tryTwo wsX7_tryTwo ({ frames := 2, cells := 0, slots := 0, locals := 128 }) (va_Pc [.ref a0, .int a, .int b] (h_P E X A z I0 L0)) (va_Qv (fun (I1 : tI) => h_I z I1 ∧ h_F [(8, 10), (811, 999), (812, 999), (8, 9)] z I0 I1 ∧ (c_rs z J_ I1 a0 (r_two GG CB n_ a_t b_t s_))) (fun (I1 : tI) t => h_B E A z I1 L0 t) A) 0 0 A := by
  refine Met.ofW (cc := cX7_tryTwo) (maxL := 7) (ret := none) (by decide) rfl ?_
  intro pr_ ev_ s m args below meth cd_ s₁ B hml hv
  obtain ⟨rfl, hE, hk, hX, hA, hK, hI, hR, hB0⟩ := hv
  have g : h_G h_so h_fk E A z I0 L0 s s.heap s.heap [] := ⟨hK, va_S.rf, hB0⟩
  have hF : h_F [(8, 10), (811, 999), (812, 999), (8, 9)] z I0 I0 := h_F.rf
  have hx := B.exec
  have hb := B.bytes
  have hr := B.returns
  have hts := atoms_spec (ws := wsX7_tryTwo) B.pre
  have hown : s.vm.findClass RX7 = some m.cls := findClass_of_methodNamed B.named
  have hlocks := B.notSynchronized
  have iX7 : ∀ w ∈ u_ws RX7 TX7 13, w ∈ wsX7_tryTwo := by decide +kernel
  have hl := lv_entry ([.ref a0, .int a, .int b]) (n := 7) (Nat.le_of_ble_eq_true rfl)
  rw [lg_entry_eq]
  generalize (lg_sl ([.ref a0, .int a, .int b]) ++ List.replicate (7 - (lg_sl ([.ref a0, .int a, .int b])).length) Slot.unset).toArray = ls at hl ⊢
  have hl : lv_has ls 7 [(0, .ref a0), (1, .int a), (2, .int b)] := hl
  obtain ⟨ln, rln, tln⟩ := hR.at a0 2 t_a0 (rfl : h_rs 8 2 = some (802, false)) (by decide)
  have aln : h_ad z a0 2 = ln := h_ad.at rln
  obtain ⟨st, rst, tst⟩ := hR.at a0 3 t_a0 (rfl : h_rs 8 3 = some (803, false)) (by decide)
  have ast : h_ad z a0 3 = st := h_ad.at rst
  obtain ⟨gn, rgn, tgn⟩ := hR.at a0 6 t_a0 (rfl : h_rs 8 6 = some (806, false)) (by decide)
  have agn : h_ad z a0 6 = gn := h_ad.at rgn
  obtain ⟨pt, rpt, tpt⟩ := hR.at a0 7 t_a0 (rfl : h_rs 8 7 = some (807, false)) (by decide)
  have apt : h_ad z a0 7 = pt := h_ad.at rpt
  obtain ⟨ct, rct, tct⟩ := hR.at a0 8 t_a0 (rfl : h_rs 8 8 = some (808, false)) (by decide)
  have act : h_ad z a0 8 = ct := h_ad.at rct
  obtain ⟨cr, rcr, tcr⟩ := hR.at a0 11 t_a0 (rfl : h_rs 8 11 = some (811, false)) (by decide)
  have acr : h_ad z a0 11 = cr := h_ad.at rcr
  obtain ⟨pr, rpr, tpr⟩ := hR.at a0 12 t_a0 (rfl : h_rs 8 12 = some (812, false)) (by decide)
  have apr : h_ad z a0 12 = pr := h_ad.at rpr
  have hgr0 := hgr
  unfold c_gr at hgr
  rw [ast, aln, agn, apt, act] at hgr
  obtain ⟨n60, hst, hln, hgp, hct⟩ := hgr
  have sb := fun c : Nat => q_sp_n (cb := CB) c n_
  have ca : ((a_t.toNat : Nat) : Int) = a_t := by omega
  have ka : a.toNatClampNeg = a_t.toNat := h_keq h_a b_a.1 ca
  have sp_a := q_sp_m (cb := CB) (n := n_) (show a_t.toNat + 1 ≤ 8 by omega)
  have sb_a := sb 8
  have sd_a : q_sp CB n_ (a_t.toNat + 1) = q_sp CB n_ a_t.toNat + q_ct (q_mc CB ((a_t.toNat : Nat) : Int)) n_ := rfl
  rw [ca] at sd_a
  have cb : ((b_t.toNat : Nat) : Int) = b_t := by omega
  have kb : b.toNatClampNeg = b_t.toNat := h_keq h_b b_b.1 cb
  have sp_b := q_sp_m (cb := CB) (n := n_) (show b_t.toNat + 1 ≤ 8 by omega)
  have sb_b := sb 8
  have sd_b : q_sp CB n_ (b_t.toNat + 1) = q_sp CB n_ b_t.toNat + q_ct (q_mc CB ((b_t.toNat : Nat) : Int)) n_ := rfl
  rw [cb] at sd_b
  have hI0 := hI
  refine lv_aload_n hx hb dX7_tryTwo_0 rfl (lv_at hl 0 rfl) ?_
  refine h_get (v := .ref st) hx hb hts iX7 hown g t_a0 (by decide) so_8 rfl 3 (by decide) (hts (.fieldLink RX7 22 "CapLeague$RingSearch" "start" "[I") (by decide +kernel)) rfl dX7_tryTwo_1 (by show va_rf (z.R a0 3) = _; rw [rst]; rfl) ?_
  refine lv_iload_n hx hb dX7_tryTwo_4 rfl (lv_at hl 1 rfl) ?_
  refine h_ald hx hb g tst (by decide) so_803 (xi_in (by rw [h_a]; omega) (by rw [h_a]; omega)) dX7_tryTwo_5 ?_
  refine lv_topi (fun v1 ev1 => ?_)
  have jv1 := hI.rd st a.toNatClampNeg tst ev1 (rfl : h_bd 803 _ = (0, 60))
  have st_v1 : v1.toInt = ((q_sp CB n_ a_t.toNat : Nat) : Int) := by rw [← hst a_t.toNat (by omega), ← ka, ev1]
  refine lv_istore_n (lv' := [(3, .int v1), (0, .ref a0), (1, .int a), (2, .int b)]) hx hb dX7_tryTwo_6 rfl hl (by decide) rfl (fun ls hl => ?_)
  have loop7_0 : ∀ (n : Nat) (I3 : tI) (H : Heap) (locs : List Loc) (ls : Array Slot) (v2 : Int32), h_G h_so h_fk E A z I3 L0 s s.heap H locs → h_I z I3 → h_F [(8, 10), (811, 999), (812, 999), (8, 9)] z I0 I3 → lv_has ls 7 [(0, .ref a0), (1, .int a), (2, .int b), (3, .int v2)] → (0 ≤ v2.toInt ∧ v2.toInt ≤ 60) → h_F [(8, 10), (811, 999), (812, 999), (8, 9)] z I0 I3 → (r_lp z J_ I3 a0 (q_mc CB a_t) (fun (s : tS) (p : Nat) => r_fp (q_mc CB b_t) (fun (s : tS) (q : Nat) => r_st2 GG a_t b_t p q s) s n_) s_ n_ (((v2.toInt).toNat) - q_sp CB n_ a_t.toNat)) → (((q_sp CB n_ a_t.toNat : Nat) : Int) ≤ v2.toInt) → (v2.toInt ≤ ((q_sp CB n_ (a_t.toNat + 1) : Nat) : Int)) → (60 - v2.toInt) < (n : Int) → W pr_ l ev_ (headSpec wsX7_tryTwo ({ frames := 2, cells := 0, slots := 0, locals := 128 })).room s m ([.ref a0, .int a, .int b] : List Value).toArray below meth cd_ H locs 0 0 (MQ below (va_Qv (fun (I1 : tI) => h_I z I1 ∧ h_F [(8, 10), (811, 999), (812, 999), (8, 9)] z I0 I1 ∧ (c_rs z J_ I1 a0 (r_two GG CB n_ a_t b_t s_))) (fun (I1 : tI) t => h_B E A z I1 L0 t) A) ([.ref a0, .int a, .int b] : List Value).toArray s 0 0 A) (F0 m 7 ls []) := by
    intro n
    induction n with
    | zero => intro I3 H locs ls v2 g hI hF hl jv2 hL7 hx7_0 hx7_1 hx7_2 hn; exact absurd hn (by omega)
    | succ n ih7 =>
      intro I3 H locs ls v2 g hI hF hl jv2 hL7 hx7_0 hx7_1 hx7_2 hn
      obtain ⟨t7, ta7, tb7⟩ := hx7_0
      refine lv_iload_n hx hb dX7_tryTwo_7 rfl (lv_at hl 3 rfl) ?_
      refine lv_aload_n hx hb dX7_tryTwo_8 rfl (lv_at hl 0 rfl) ?_
      refine h_get (v := .ref st) hx hb hts iX7 hown g t_a0 (by decide) so_8 rfl 3 (by decide) (hts (.fieldLink RX7 22 "CapLeague$RingSearch" "start" "[I") (by decide +kernel)) rfl dX7_tryTwo_9 (by show va_rf (z.R a0 3) = _; rw [rst]; rfl) ?_
      refine lv_iload_n hx hb dX7_tryTwo_12 rfl (lv_at hl 1 rfl) ?_
      refine lv_iconst (v := 1) hx hb dX7_tryTwo_13 (by decide) ?_
      refine lv_iadd hx hb dX7_tryTwo_14 ?_
      refine lv_topi (fun v4 ev4 => ?_)
      have jv4 : v4.toInt = a_t + 1 := xi_add ev4 h_a (by decide) (by omega) (by omega)
      refine h_ald hx hb g tst (by decide) so_803 (xi_in (by omega) (by omega)) dX7_tryTwo_15 ?_
      refine lv_topi (fun v5 ev5 => ?_)
      have jv5 := hI.rd st v4.toNatClampNeg tst ev5 (rfl : h_bd 803 _ = (0, 60))
      have st_v5 : v5.toInt = ((q_sp CB n_ (a_t.toNat + 1) : Nat) : Int) := by rw [← hst (a_t.toNat + 1) (by omega), ← (h_keq (i := v4) (t := v4.toInt) (k := a_t.toNat + 1) rfl (by omega) (by omega) : v4.toNatClampNeg = a_t.toNat + 1), ev5]; exact congrArg Int32.toInt (h_F.at hL7 tst rfl)
      refine lv_icmp_ge (tgt := 152) hx hb dX7_tryTwo_16 (by decide) (fun c6 => ?_) (fun c6 => ?_)
      · have ic6 := (xi_le c6 rfl rfl : v5.toInt ≤ v2.toInt)
        have hS := g.2.1
        exact W.vret hx hb hr (fun t ht hW => ⟨⟨I3, rfl, ⟨hI, hF, (by show c_rs z J_ I3 a0 (r_two GG CB n_ a_t b_t s_); unfold r_two; rw [← ta7.e (kx_n (by omega) (by omega))]; exact tb7)⟩, h_ret g ht⟩, hS.F ht⟩) hS.2.2 dX7_tryTwo_152
      · have ic6 := (xi_nle c6 rfl rfl : v2.toInt < v5.toInt)
        obtain ⟨pv, epv⟩ : ∃ x : Int32, x = I0 ln v2.toNatClampNeg := ⟨_, rfl⟩
        have jpv := hI0.rd ln _ tln epv (rfl : h_bd 802 _ = (0, 59))
        have ki_pv : v2.toNatClampNeg = v2.toInt.toNat := h_keq rfl (by omega) (Int.toNat_of_nonneg (by omega))
        obtain ⟨p0, hp_pv, hP0, hk_pv⟩ := q_ct_ex (P := q_mc CB a_t) (k := v2.toInt.toNat - q_sp CB n_ a_t.toNat) (n := n_) (kx_lt hx7_1 (by omega))
        have hc_pv := q_mc_i hP0
        have l0 := hln a_t.toNat p0 (by omega) hp_pv (by rw [ca]; exact hc_pv)
        rw [ca, show q_sp CB n_ a_t.toNat + q_ct (q_mc CB a_t) p0 = v2.toInt.toNat from kx_e hk_pv hx7_1, ← ki_pv, ← epv] at l0
        have ep0 : p0 = pv.toInt.toNat := kx_p l0
        subst ep0
        replace hk_pv : r_kq (q_ct (q_mc CB a_t) pv.toInt.toNat) (v2.toInt.toNat - q_sp CB n_ a_t.toNat) := hk_pv
        have tn_pv : ((pv.toInt.toNat : Nat) : Int) = pv.toInt := Int.toNat_of_nonneg jpv.1
        have kp_pv : pv.toNatClampNeg = pv.toInt.toNat := h_keq rfl jpv.1 tn_pv
        have hc_pv9 : (CB pv.toInt.toNat).toInt = ((a_t.toNat : Nat) : Int) := by rw [ca]; exact hc_pv
        have gp_pv := hgp a_t.toNat pv.toInt.toNat (by omega) hp_pv hc_pv9
        have ct_pv := hct a_t.toNat (by omega)
        rw [ca] at gp_pv
        obtain ⟨⟨gg_pv, gl_pv, gh_pv⟩, gt_pv⟩ := gp_pv
        refine lv_aload_n hx hb dX7_tryTwo_19 rfl (lv_at hl 0 rfl) ?_
        refine h_get (v := .ref st) hx hb hts iX7 hown g t_a0 (by decide) so_8 rfl 3 (by decide) (hts (.fieldLink RX7 22 "CapLeague$RingSearch" "start" "[I") (by decide +kernel)) rfl dX7_tryTwo_20 (by show va_rf (z.R a0 3) = _; rw [rst]; rfl) ?_
        refine lv_iload_n hx hb dX7_tryTwo_23 rfl (lv_at hl 2 rfl) ?_
        refine h_ald hx hb g tst (by decide) so_803 (xi_in (by rw [h_b]; omega) (by rw [h_b]; omega)) dX7_tryTwo_24 ?_
        refine lv_topi (fun v7 ev7 => ?_)
        have jv7 := hI.rd st b.toNatClampNeg tst ev7 (rfl : h_bd 803 _ = (0, 60))
        have st_v7 : v7.toInt = ((q_sp CB n_ b_t.toNat : Nat) : Int) := by rw [← hst b_t.toNat (by omega), ← kb, ev7]; exact congrArg Int32.toInt (h_F.at hL7 tst rfl)
        refine lv_istore (lv' := [(4, .int v7), (0, .ref a0), (1, .int a), (2, .int b), (3, .int v2)]) hx hb dX7_tryTwo_25 hl (by decide) rfl (fun ls hl => ?_)
        have loop27_1 : ∀ (n : Nat) (I9 : tI) (H : Heap) (locs : List Loc) (ls : Array Slot) (v8 : Int32), h_G h_so h_fk E A z I9 L0 s s.heap H locs → h_I z I9 → h_F [(8, 10), (811, 999), (812, 999), (8, 9)] z I0 I9 → lv_has ls 7 [(0, .ref a0), (1, .int a), (2, .int b), (3, .int v2), (4, .int v8)] → (0 ≤ v8.toInt ∧ v8.toInt ≤ 60) → h_F [(8, 10), (811, 999), (812, 999), (8, 9)] z I3 I9 → (r_lp z J_ I9 a0 (q_mc CB b_t) (fun (s : tS) (q : Nat) => r_st2 GG a_t b_t pv.toInt.toNat q s) t7 n_ (((v8.toInt).toNat) - q_sp CB n_ b_t.toNat)) → (((q_sp CB n_ b_t.toNat : Nat) : Int) ≤ v8.toInt) → (v8.toInt ≤ ((q_sp CB n_ (b_t.toNat + 1) : Nat) : Int)) → (60 - v8.toInt) < (n : Int) → W pr_ l ev_ (headSpec wsX7_tryTwo ({ frames := 2, cells := 0, slots := 0, locals := 128 })).room s m ([.ref a0, .int a, .int b] : List Value).toArray below meth cd_ H locs 0 0 (MQ below (va_Qv (fun (I1 : tI) => h_I z I1 ∧ h_F [(8, 10), (811, 999), (812, 999), (8, 9)] z I0 I1 ∧ (c_rs z J_ I1 a0 (r_two GG CB n_ a_t b_t s_))) (fun (I1 : tI) t => h_B E A z I1 L0 t) A) ([.ref a0, .int a, .int b] : List Value).toArray s 0 0 A) (F0 m 27 ls []) := by
          intro n
          induction n with
          | zero => intro I9 H locs ls v8 g hI hF hl jv8 hL27 hx27_0 hx27_1 hx27_2 hn; exact absurd hn (by omega)
          | succ n ih27 =>
            intro I9 H locs ls v8 g hI hF hl jv8 hL27 hx27_0 hx27_1 hx27_2 hn
            obtain ⟨t27, ta27, tb27⟩ := hx27_0
            refine lv_iload hx hb dX7_tryTwo_27 (lv_at hl 4 rfl) ?_
            refine lv_aload_n hx hb dX7_tryTwo_29 rfl (lv_at hl 0 rfl) ?_
            refine h_get (v := .ref st) hx hb hts iX7 hown g t_a0 (by decide) so_8 rfl 3 (by decide) (hts (.fieldLink RX7 22 "CapLeague$RingSearch" "start" "[I") (by decide +kernel)) rfl dX7_tryTwo_30 (by show va_rf (z.R a0 3) = _; rw [rst]; rfl) ?_
            refine lv_iload_n hx hb dX7_tryTwo_33 rfl (lv_at hl 2 rfl) ?_
            refine lv_iconst (v := 1) hx hb dX7_tryTwo_34 (by decide) ?_
            refine lv_iadd hx hb dX7_tryTwo_35 ?_
            refine lv_topi (fun v10 ev10 => ?_)
            have jv10 : v10.toInt = b_t + 1 := xi_add ev10 h_b (by decide) (by omega) (by omega)
            refine h_ald hx hb g tst (by decide) so_803 (xi_in (by omega) (by omega)) dX7_tryTwo_36 ?_
            refine lv_topi (fun v11 ev11 => ?_)
            have jv11 := hI.rd st v10.toNatClampNeg tst ev11 (rfl : h_bd 803 _ = (0, 60))
            have st_v11 : v11.toInt = ((q_sp CB n_ (b_t.toNat + 1) : Nat) : Int) := by rw [← hst (b_t.toNat + 1) (by omega), ← (h_keq (i := v10) (t := v10.toInt) (k := b_t.toNat + 1) rfl (by omega) (by omega) : v10.toNatClampNeg = b_t.toNat + 1), ev11]; exact congrArg Int32.toInt ((h_F.at hL27 tst rfl).trans (h_F.at hL7 tst rfl))
            refine lv_icmp_ge (tgt := 146) hx hb dX7_tryTwo_37 (by decide) (fun c12 => ?_) (fun c12 => ?_)
            · have ic12 := (xi_le c12 rfl rfl : v11.toInt ≤ v8.toInt)
              obtain ⟨v13, ev13⟩ : ∃ z : Int32, z = v2 + 1 := ⟨_, rfl⟩
              have jv13 : v13.toInt = v2.toInt + 1 := xi_add ev13 rfl (by decide) (by omega) (by omega)
              refine lv_iinc (v := v13) (lv' := [(3, .int v13), (0, .ref a0), (1, .int a), (2, .int b), (4, .int v8)]) hx hb dX7_tryTwo_146 hl (k := 3) rfl (by rw [ev13]; rfl) (by decide) rfl (fun ls hl => ?_)
              refine lv_goto (tgt := 7) hx hb dX7_tryTwo_149 (by decide) ?_
              exact ih7 I9 _ _ _ v13 g hI hF (lv_sub hl [1, 2, 3, 0] rfl) (by omega) (h_F.call (h_F.call (h_F.rf : h_F [(8, 10), (811, 999), (812, 999), (8, 9)] z I0 I0) hL7 rfl) hL27 rfl) (⟨(r_fp (q_mc CB b_t) (fun (s : tS) (q : Nat) => r_st2 GG a_t b_t pv.toInt.toNat q s) t7 n_), by rw [show ((v13.toInt).toNat - q_sp CB n_ a_t.toNat) = ((v2.toInt).toNat - q_sp CB n_ a_t.toNat) + 1 from kx_s jv13 hx7_1]; exact ta7.s hp_pv (q_mc_y hc_pv) hk_pv, by rw [← ta27.e (kx_n (by omega) (by omega))]; exact tb27⟩) (by omega) (by omega) (by omega)
            · have ic12 := (xi_nle c12 rfl rfl : v8.toInt < v11.toInt)
              obtain ⟨qv, eqv⟩ : ∃ x : Int32, x = I0 ln v8.toNatClampNeg := ⟨_, rfl⟩
              have jqv := hI0.rd ln _ tln eqv (rfl : h_bd 802 _ = (0, 59))
              have ki_qv : v8.toNatClampNeg = v8.toInt.toNat := h_keq rfl (by omega) (Int.toNat_of_nonneg (by omega))
              obtain ⟨p0, hp_qv, hP0, hk_qv⟩ := q_ct_ex (P := q_mc CB b_t) (k := v8.toInt.toNat - q_sp CB n_ b_t.toNat) (n := n_) (kx_lt hx27_1 (by omega))
              have hc_qv := q_mc_i hP0
              have l0 := hln b_t.toNat p0 (by omega) hp_qv (by rw [cb]; exact hc_qv)
              rw [cb, show q_sp CB n_ b_t.toNat + q_ct (q_mc CB b_t) p0 = v8.toInt.toNat from kx_e hk_qv hx27_1, ← ki_qv, ← eqv] at l0
              have ep0 : p0 = qv.toInt.toNat := kx_p l0
              subst ep0
              replace hk_qv : r_kq (q_ct (q_mc CB b_t) qv.toInt.toNat) (v8.toInt.toNat - q_sp CB n_ b_t.toNat) := hk_qv
              have tn_qv : ((qv.toInt.toNat : Nat) : Int) = qv.toInt := Int.toNat_of_nonneg jqv.1
              have kp_qv : qv.toNatClampNeg = qv.toInt.toNat := h_keq rfl jqv.1 tn_qv
              have hc_qv9 : (CB qv.toInt.toNat).toInt = ((b_t.toNat : Nat) : Int) := by rw [cb]; exact hc_qv
              have gp_qv := hgp b_t.toNat qv.toInt.toNat (by omega) hp_qv hc_qv9
              have ct_qv := hct b_t.toNat (by omega)
              rw [cb] at gp_qv
              obtain ⟨⟨gg_qv, gl_qv, gh_qv⟩, gt_qv⟩ := gp_qv
              refine lv_aload_n hx hb dX7_tryTwo_40 rfl (lv_at hl 0 rfl) ?_
              refine h_get (v := .ref gn) hx hb hts iX7 hown g t_a0 (by decide) so_8 rfl 6 (by decide) (hts (.fieldLink RX7 33 "CapLeague$RingSearch" "gains" "[[I") (by decide +kernel)) rfl dX7_tryTwo_41 (by show va_rf (z.R a0 6) = _; rw [rgn]; rfl) ?_
              refine lv_aload_n hx hb dX7_tryTwo_44 rfl (lv_at hl 0 rfl) ?_
              refine h_get (v := .ref ln) hx hb hts iX7 hown g t_a0 (by decide) so_8 rfl 2 (by decide) (hts (.fieldLink RX7 18 "CapLeague$RingSearch" "line" "[I") (by decide +kernel)) rfl dX7_tryTwo_45 (by show va_rf (z.R a0 2) = _; rw [rln]; rfl) ?_
              refine lv_iload_n hx hb dX7_tryTwo_48 rfl (lv_at hl 3 rfl) ?_
              refine h_ald hx hb g tln (by decide) so_802 (xi_in (by omega) (by omega)) dX7_tryTwo_49 ?_
              refine xw_i ((h_F.at hL27 tln rfl).trans ((h_F.at hL7 tln rfl).trans (epv.symm))) ?_
              obtain ⟨b14, rb14, tb14⟩ := hR.at gn pv.toNatClampNeg tgn (rfl : h_rs 806 _ = some (856, false)) (by rw [so_806]; exact h_lt (n := 60) (xi_in (by omega) (by omega)))
              refine h_aldA (v := .ref b14) hx hb g tgn (by decide) so_806 (xi_in (by omega) (by omega)) dX7_tryTwo_50 (by rw [rb14]; rfl) ?_
              have ar_b14 : h_ad z gn pv.toInt.toNat = b14 := by rw [← kp_pv]; exact h_ad.at rb14
              refine lv_aload_n hx hb dX7_tryTwo_51 rfl (lv_at hl 0 rfl) ?_
              refine h_get (v := .ref ln) hx hb hts iX7 hown g t_a0 (by decide) so_8 rfl 2 (by decide) (hts (.fieldLink RX7 18 "CapLeague$RingSearch" "line" "[I") (by decide +kernel)) rfl dX7_tryTwo_52 (by show va_rf (z.R a0 2) = _; rw [rln]; rfl) ?_
              refine lv_iload hx hb dX7_tryTwo_55 (lv_at hl 4 rfl) ?_
              refine h_ald hx hb g tln (by decide) so_802 (xi_in (by omega) (by omega)) dX7_tryTwo_57 ?_
              refine xw_i ((h_F.at hL27 tln rfl).trans ((h_F.at hL7 tln rfl).trans (eqv.symm))) ?_
              refine h_ald hx hb g tb14 (by decide) so_856 (xi_in (by omega) (by omega)) dX7_tryTwo_58 ?_
              refine lv_topi (fun v15 ev15 => ?_)
              have jv15 := hI.rd b14 qv.toNatClampNeg tb14 ev15 (rfl : h_bd 856 _ = ((-2147483648), 2147483647))
              have gE_v15 := gg_pv qv.toInt.toNat hp_qv (by rw [hc_qv]; omega) (by rw [hc_qv]; omega)
              rw [show I0 (h_ad z gn pv.toInt.toNat) qv.toInt.toNat = v15 by rw [ar_b14, ← kp_qv, ev15]; exact ((h_F.at hL27 tb14 rfl).trans (h_F.at hL7 tb14 rfl)).symm] at gE_v15
              have nb_v15 : v15.toInt ≤ 9999 := by omega
              refine lv_istore (lv' := [(5, .int v15), (0, .ref a0), (1, .int a), (2, .int b), (3, .int v2), (4, .int v8)]) hx hb dX7_tryTwo_59 hl (by decide) rfl (fun ls hl => ?_)
              refine lv_aload_n hx hb dX7_tryTwo_61 rfl (lv_at hl 1 rfl) ?_
              refine h_get (v := .ref gn) hx hb hts iX7 hown g t_a0 (by decide) so_8 rfl 6 (by decide) (hts (.fieldLink RX7 33 "CapLeague$RingSearch" "gains" "[[I") (by decide +kernel)) rfl dX7_tryTwo_62 (by show va_rf (z.R a0 6) = _; rw [rgn]; rfl) ?_
              refine lv_aload_n hx hb dX7_tryTwo_65 rfl (lv_at hl 1 rfl) ?_
              refine h_get (v := .ref ln) hx hb hts iX7 hown g t_a0 (by decide) so_8 rfl 2 (by decide) (hts (.fieldLink RX7 18 "CapLeague$RingSearch" "line" "[I") (by decide +kernel)) rfl dX7_tryTwo_66 (by show va_rf (z.R a0 2) = _; rw [rln]; rfl) ?_
              refine lv_iload hx hb dX7_tryTwo_69 (lv_at hl 5 rfl) ?_
              refine h_ald hx hb g tln (by decide) so_802 (xi_in (by omega) (by omega)) dX7_tryTwo_71 ?_
              refine xw_i ((h_F.at hL27 tln rfl).trans ((h_F.at hL7 tln rfl).trans (eqv.symm))) ?_
              obtain ⟨b16, rb16, tb16⟩ := hR.at gn qv.toNatClampNeg tgn (rfl : h_rs 806 _ = some (856, false)) (by rw [so_806]; exact h_lt (n := 60) (xi_in (by omega) (by omega)))
              refine h_aldA (v := .ref b16) hx hb g tgn (by decide) so_806 (xi_in (by omega) (by omega)) dX7_tryTwo_72 (by rw [rb16]; rfl) ?_
              have ar_b16 : h_ad z gn qv.toInt.toNat = b16 := by rw [← kp_qv]; exact h_ad.at rb16
              refine lv_aload_n hx hb dX7_tryTwo_73 rfl (lv_at hl 1 rfl) ?_
              refine h_get (v := .ref ln) hx hb hts iX7 hown g t_a0 (by decide) so_8 rfl 2 (by decide) (hts (.fieldLink RX7 18 "CapLeague$RingSearch" "line" "[I") (by decide +kernel)) rfl dX7_tryTwo_74 (by show va_rf (z.R a0 2) = _; rw [rln]; rfl) ?_
              refine lv_iload_n hx hb dX7_tryTwo_77 rfl (lv_at hl 4 rfl) ?_
              refine h_ald hx hb g tln (by decide) so_802 (xi_in (by omega) (by omega)) dX7_tryTwo_78 ?_
              refine xw_i ((h_F.at hL27 tln rfl).trans ((h_F.at hL7 tln rfl).trans (epv.symm))) ?_
              refine h_ald hx hb g tb16 (by decide) so_856 (xi_in (by omega) (by omega)) dX7_tryTwo_79 ?_
              refine lv_topi (fun v17 ev17 => ?_)
              have jv17 := hI.rd b16 pv.toNatClampNeg tb16 ev17 (rfl : h_bd 856 _ = ((-2147483648), 2147483647))
              have gE_v17 := gg_qv pv.toInt.toNat hp_pv (by rw [hc_pv]; omega) (by rw [hc_pv]; omega)
              rw [show I0 (h_ad z gn qv.toInt.toNat) pv.toInt.toNat = v17 by rw [ar_b16, ← kp_pv, ev17]; exact ((h_F.at hL27 tb16 rfl).trans (h_F.at hL7 tb16 rfl)).symm] at gE_v17
              have nb_v17 : v17.toInt ≤ 9999 := by omega
              refine lv_istore (lv' := [(6, .int v17), (5, .int v15), (0, .ref a0), (1, .int a), (2, .int b), (3, .int v2), (4, .int v8)]) hx hb dX7_tryTwo_80 hl (by decide) rfl (fun ls hl => ?_)
              refine lv_iload hx hb dX7_tryTwo_82 (lv_at hl 1 rfl) ?_
              refine lv_if_le (tgt := 140) hx hb dX7_tryTwo_84 (by decide) (fun c18 => ?_) (fun c18 => ?_)
              · have ic18 := (xi_le c18 rfl (by decide) : v15.toInt ≤ 0)
                obtain ⟨v19, ev19⟩ : ∃ z : Int32, z = v8 + 1 := ⟨_, rfl⟩
                have jv19 : v19.toInt = v8.toInt + 1 := xi_add ev19 rfl (by decide) (by omega) (by omega)
                refine lv_iinc (v := v19) (lv' := [(4, .int v19), (6, .int v17), (5, .int v15), (0, .ref a0), (1, .int a), (2, .int b), (3, .int v2)]) hx hb dX7_tryTwo_140 hl (k := 6) rfl (by rw [ev19]; rfl) (by decide) rfl (fun ls hl => ?_)
                refine lv_goto (tgt := 27) hx hb dX7_tryTwo_143 (by decide) ?_
                exact ih27 I9 _ _ _ v19 g hI hF (lv_sub hl [3, 4, 5, 6, 0] rfl) (by omega) (h_F.call (h_F.rf : h_F [(8, 10), (811, 999), (812, 999), (8, 9)] z I3 I3) hL27 rfl) (⟨(r_st2 GG a_t b_t pv.toInt.toNat qv.toInt.toNat t27), by rw [show ((v19.toInt).toNat - q_sp CB n_ b_t.toNat) = ((v8.toInt).toNat - q_sp CB n_ b_t.toNat) + 1 from kx_s jv19 hx27_1]; exact ta27.s hp_qv (q_mc_y hc_qv) hk_qv, by rw [show (r_st2 GG a_t b_t pv.toInt.toNat qv.toInt.toNat t27) = t27 from r_st2_n (by omega)]; exact tb27⟩) (by omega) (by omega) (by omega)
              · have ic18 := (xi_nle c18 rfl (by decide) : 0 < v15.toInt)
                refine lv_iload hx hb dX7_tryTwo_87 (lv_at hl 0 rfl) ?_
                refine lv_if_le (tgt := 140) hx hb dX7_tryTwo_89 (by decide) (fun c20 => ?_) (fun c20 => ?_)
                · have ic20 := (xi_le c20 rfl (by decide) : v17.toInt ≤ 0)
                  obtain ⟨v21, ev21⟩ : ∃ z : Int32, z = v8 + 1 := ⟨_, rfl⟩
                  have jv21 : v21.toInt = v8.toInt + 1 := xi_add ev21 rfl (by decide) (by omega) (by omega)
                  refine lv_iinc (v := v21) (lv' := [(4, .int v21), (6, .int v17), (5, .int v15), (0, .ref a0), (1, .int a), (2, .int b), (3, .int v2)]) hx hb dX7_tryTwo_140 hl (k := 6) rfl (by rw [ev21]; rfl) (by decide) rfl (fun ls hl => ?_)
                  refine lv_goto (tgt := 27) hx hb dX7_tryTwo_143 (by decide) ?_
                  exact ih27 I9 _ _ _ v21 g hI hF (lv_sub hl [3, 4, 5, 6, 0] rfl) (by omega) (h_F.call (h_F.rf : h_F [(8, 10), (811, 999), (812, 999), (8, 9)] z I3 I3) hL27 rfl) (⟨(r_st2 GG a_t b_t pv.toInt.toNat qv.toInt.toNat t27), by rw [show ((v21.toInt).toNat - q_sp CB n_ b_t.toNat) = ((v8.toInt).toNat - q_sp CB n_ b_t.toNat) + 1 from kx_s jv21 hx27_1]; exact ta27.s hp_qv (q_mc_y hc_qv) hk_qv, by rw [show (r_st2 GG a_t b_t pv.toInt.toNat qv.toInt.toNat t27) = t27 from r_st2_n (by omega)]; exact tb27⟩) (by omega) (by omega) (by omega)
                · have ic20 := (xi_nle c20 rfl (by decide) : 0 < v17.toInt)
                  refine lv_iload hx hb dX7_tryTwo_92 (lv_at hl 1 rfl) ?_
                  refine lv_iload hx hb dX7_tryTwo_94 (lv_at hl 0 rfl) ?_
                  refine lv_iadd hx hb dX7_tryTwo_96 ?_
                  refine lv_topi (fun v22 ev22 => ?_)
                  have jv22 : v22.toInt = v15.toInt + v17.toInt := xi_add ev22 rfl rfl (by omega) (by omega)
                  refine lv_aload_n hx hb dX7_tryTwo_97 rfl (lv_at hl 2 rfl) ?_
                  refine h_get (v := .int (I9 a0 9)) hx hb hts iX7 hown g t_a0 (by decide) so_8 rfl 9 (by decide) (hts (.fieldLink RX7 59 "CapLeague$RingSearch" "best" "I") (by decide +kernel)) rfl dX7_tryTwo_98 rfl ?_
                  refine lv_topi (fun v23 ev23 => ?_)
                  have jv23 := hI.rd a0 9 t_a0 ev23 (rfl : h_bd 8 9 = ((-2147483648), 2147483647))
                  have bst : v23.toInt = t27.1 := by rw [ev23]; exact tb27.1
                  refine lv_icmp_le (tgt := 140) hx hb dX7_tryTwo_101 (by decide) (fun c24 => ?_) (fun c24 => ?_)
                  · have ic24 := (xi_le c24 rfl rfl : v22.toInt ≤ v23.toInt)
                    obtain ⟨v25, ev25⟩ : ∃ z : Int32, z = v8 + 1 := ⟨_, rfl⟩
                    have jv25 : v25.toInt = v8.toInt + 1 := xi_add ev25 rfl (by decide) (by omega) (by omega)
                    refine lv_iinc (v := v25) (lv' := [(4, .int v25), (6, .int v17), (5, .int v15), (0, .ref a0), (1, .int a), (2, .int b), (3, .int v2)]) hx hb dX7_tryTwo_140 hl (k := 6) rfl (by rw [ev25]; rfl) (by decide) rfl (fun ls hl => ?_)
                    refine lv_goto (tgt := 27) hx hb dX7_tryTwo_143 (by decide) ?_
                    exact ih27 I9 _ _ _ v25 g hI hF (lv_sub hl [3, 4, 5, 6, 0] rfl) (by omega) (h_F.call (h_F.rf : h_F [(8, 10), (811, 999), (812, 999), (8, 9)] z I3 I3) hL27 rfl) (⟨(r_st2 GG a_t b_t pv.toInt.toNat qv.toInt.toNat t27), by rw [show ((v25.toInt).toNat - q_sp CB n_ b_t.toNat) = ((v8.toInt).toNat - q_sp CB n_ b_t.toNat) + 1 from kx_s jv25 hx27_1]; exact ta27.s hp_qv (q_mc_y hc_qv) hk_qv, by rw [show (r_st2 GG a_t b_t pv.toInt.toNat qv.toInt.toNat t27) = t27 from r_st2_n (by omega)]; exact tb27⟩) (by omega) (by omega) (by omega)
                  · have ic24 := (xi_nle c24 rfl rfl : v23.toInt < v22.toInt)
                    refine lv_aload_n hx hb dX7_tryTwo_104 rfl (lv_at hl 2 rfl) ?_
                    refine lv_iload hx hb dX7_tryTwo_105 (lv_at hl 1 rfl) ?_
                    refine lv_iload hx hb dX7_tryTwo_107 (lv_at hl 0 rfl) ?_
                    refine lv_iadd hx hb dX7_tryTwo_109 ?_
                    refine xw_i (v := v22) ev22.symm ?_
                    refine h_putI (ty := .int) (v := v22) hx hb hts iX7 tyX7 tyX7_ok nmX7 hown g t_a0 (by decide) so_8 rfl 9 (by decide) rfl (hts (.fieldLink RX7 59 "CapLeague$RingSearch" "best" "I") (by decide +kernel)) rfl rfl (by decide +kernel) rfl rfl dX7_tryTwo_110 (fun I26 H locs eI26 g => ?_)
                    have hI := hI.wr eI26 t_a0 (rfl : h_bd 8 9 = ((-2147483648), 2147483647)) (xi_lo _) (Int.le_of_lt_add_one (xi_hi _))
                    have hF := hF.wr eI26 t_a0 rfl
                    refine lv_aload_n hx hb dX7_tryTwo_113 rfl (lv_at hl 2 rfl) ?_
                    refine lv_iconst (v := 2) hx hb dX7_tryTwo_114 (by decide) ?_
                    refine lv_iconst (v := 0) hx hb dX7_tryTwo_115 (by decide) ?_
                    refine lv_iload_n hx hb dX7_tryTwo_116 rfl (lv_at hl 3 rfl) ?_
                    refine lv_aload_n hx hb dX7_tryTwo_117 rfl (lv_at hl 2 rfl) ?_
                    refine h_get (v := .ref ln) hx hb hts iX7 hown g t_a0 (by decide) so_8 rfl 2 (by decide) (hts (.fieldLink RX7 18 "CapLeague$RingSearch" "line" "[I") (by decide +kernel)) rfl dX7_tryTwo_118 (by show va_rf (z.R a0 2) = _; rw [rln]; rfl) ?_
                    refine lv_iload_n hx hb dX7_tryTwo_121 rfl (lv_at hl 5 rfl) ?_
                    refine h_ald hx hb g tln (by decide) so_802 (xi_in (by omega) (by omega)) dX7_tryTwo_122 ?_
                    refine xw_i ((h_n1 eI26 tln t_a0 (by decide)).trans ((h_F.at hL27 tln rfl).trans ((h_F.at hL7 tln rfl).trans (epv.symm)))) ?_
                    refine va_callv (va_runV (As := [.int 2, .int 0, .int a, .int pv]) (rest := []) ⟨hx, hb, hml, hown, hts⟩ (tX7_keepR l E X A z I26 L0 a0 t_a0 2 (2) (by decide) (by omega) 0 (0) (by decide) (by omega) a (a_t) h_a pv (pv.toInt) rfl) (cwV 4 hts gX7_tryTwo_X7_keep rfl rfl rfl (by decide +kernel) ⟨Nat.le_of_ble_eq_true rfl, Nat.le_of_ble_eq_true rfl⟩) ⟨h_blind _ _ _ _ _ _ _, h_recv g t_a0 (by decide) so_8 (q := (RX7, TX7, 13)) rfl, h_pre _ hE hk hX hA hI hR g⟩ rfl rfl hl.1 rfl (lv_room (Nat.le_of_ble_eq_true rfl)) dX7_tryTwo_123 ⟨Nat.le_of_ble_eq_true rfl, Nat.le_of_ble_eq_true rfl⟩) g.2.1 (fun q _ h => h) (fun q h => h) (fun I28 t H1 locs ht hvm h27 hB hz1 hk1 hS => ?_)
                    obtain ⟨hI, fh27, h27⟩ := h27
                    replace g := h_after g hB ht hS
                    generalize H1 = H at g
                    clear hB hk1 hz1 ht hvm hS
                    have hF := hF.call fh27 rfl
                    obtain ⟨h27p0, h27p1⟩ := h27
                    refine lv_aload_n hx hb dX7_tryTwo_126 rfl (lv_at hl 2 rfl) ?_
                    refine lv_iconst (v := 2) hx hb dX7_tryTwo_127 (by decide) ?_
                    refine lv_iconst (v := 1) hx hb dX7_tryTwo_128 (by decide) ?_
                    refine lv_iload_n hx hb dX7_tryTwo_129 rfl (lv_at hl 4 rfl) ?_
                    refine lv_aload_n hx hb dX7_tryTwo_130 rfl (lv_at hl 2 rfl) ?_
                    refine h_get (v := .ref ln) hx hb hts iX7 hown g t_a0 (by decide) so_8 rfl 2 (by decide) (hts (.fieldLink RX7 18 "CapLeague$RingSearch" "line" "[I") (by decide +kernel)) rfl dX7_tryTwo_131 (by show va_rf (z.R a0 2) = _; rw [rln]; rfl) ?_
                    refine lv_iload hx hb dX7_tryTwo_134 (lv_at hl 6 rfl) ?_
                    refine h_ald hx hb g tln (by decide) so_802 (xi_in (by omega) (by omega)) dX7_tryTwo_136 ?_
                    refine xw_i ((h_F.at fh27 tln rfl).trans ((h_n1 eI26 tln t_a0 (by decide)).trans ((h_F.at hL27 tln rfl).trans ((h_F.at hL7 tln rfl).trans (eqv.symm))))) ?_
                    refine va_callv (va_runV (As := [.int 2, .int 1, .int b, .int qv]) (rest := []) ⟨hx, hb, hml, hown, hts⟩ (tX7_keepR l E X A z I28 L0 a0 t_a0 2 (2) (by decide) (by omega) 1 (1) (by decide) (by omega) b (b_t) h_b qv (qv.toInt) rfl) (cwV 4 hts gX7_tryTwo_X7_keep rfl rfl rfl (by decide +kernel) ⟨Nat.le_of_ble_eq_true rfl, Nat.le_of_ble_eq_true rfl⟩) ⟨h_blind _ _ _ _ _ _ _, h_recv g t_a0 (by decide) so_8 (q := (RX7, TX7, 13)) rfl, h_pre _ hE hk hX hA hI hR g⟩ rfl rfl hl.1 rfl (lv_room (Nat.le_of_ble_eq_true rfl)) dX7_tryTwo_137 ⟨Nat.le_of_ble_eq_true rfl, Nat.le_of_ble_eq_true rfl⟩) g.2.1 (fun q _ h => h) (fun q h => h) (fun I30 t H1 locs ht hvm h29 hB hz1 hk1 hS => ?_)
                    obtain ⟨hI, fh29, h29⟩ := h29
                    replace g := h_after g hB ht hS
                    generalize H1 = H at g
                    clear hB hk1 hz1 ht hvm hS
                    have hF := hF.call fh29 rfl
                    obtain ⟨h29p0, h29p1⟩ := h29
                    obtain ⟨v31, ev31⟩ : ∃ z : Int32, z = v8 + 1 := ⟨_, rfl⟩
                    have jv31 : v31.toInt = v8.toInt + 1 := xi_add ev31 rfl (by decide) (by omega) (by omega)
                    refine lv_iinc (v := v31) (lv' := [(4, .int v31), (6, .int v17), (5, .int v15), (0, .ref a0), (1, .int a), (2, .int b), (3, .int v2)]) hx hb dX7_tryTwo_140 hl (k := 6) rfl (by rw [ev31]; rfl) (by decide) rfl (fun ls hl => ?_)
                    refine lv_goto (tgt := 27) hx hb dX7_tryTwo_143 (by decide) ?_
                    exact ih27 I30 _ _ _ v31 g hI hF (lv_sub hl [3, 4, 5, 6, 0] rfl) (by omega) (h_F.call (h_F.call (h_F.wr (h_F.call (h_F.rf : h_F [(8, 10), (811, 999), (812, 999), (8, 9)] z I3 I3) hL27 rfl) eI26 t_a0 rfl) fh27 rfl) fh29 rfl) (⟨(r_st2 GG a_t b_t pv.toInt.toNat qv.toInt.toNat t27), by rw [show ((v31.toInt).toNat - q_sp CB n_ b_t.toNat) = ((v8.toInt).toNat - q_sp CB n_ b_t.toNat) + 1 from kx_s jv31 hx27_1]; exact ta27.s hp_qv (q_mc_y hc_qv) hk_qv, by rw [show (r_st2 GG a_t b_t pv.toInt.toNat qv.toInt.toNat t27) = _ from r_st2_y gE_v15.1.symm gE_v17.1.symm (by omega) (by omega) (by omega)]; exact c_rs_2 (by rw [(h_F.at fh29 t_a0 rfl).trans ((h_F.at fh27 t_a0 rfl).trans (h_n0 eI26))]; omega) (by rw [h29p0]; decide) (by rw [h29p1.1, if_neg (by decide)]; rw [h27p1.1, if_pos (by decide)]; exact h_a) (by rw [h29p1.2, if_neg (by decide)]; rw [h27p1.2, if_pos (by decide)]; omega) (by rw [h29p1.1, if_pos (by decide)]; exact h_b) (by rw [h29p1.2, if_pos (by decide)]; omega)⟩) (by omega) (by omega) (by omega)
        exact loop27_1 _ I3 _ _ _ v7 g hI hF (lv_sub hl [1, 2, 3, 4, 0] rfl) (by omega) (h_F.rf : h_F [(8, 10), (811, 999), (812, 999), (8, 9)] z I3 I3) (⟨t7, by rw [show ((v7.toInt).toNat - q_sp CB n_ b_t.toNat) = 0 from kx_z st_v7]; exact r_at.z, tb7⟩) (by omega) (by omega) (show (60 - v7.toInt) < (((60 - v7.toInt).toNat + 1 : Nat) : Int) by omega)
  exact loop7_0 _ I0 _ _ _ v1 g hI hF (lv_sub hl [1, 2, 3, 0] rfl) (by omega) (h_F.rf : h_F [(8, 10), (811, 999), (812, 999), (8, 9)] z I0 I0) (⟨s_, by rw [show ((v1.toInt).toNat - q_sp CB n_ a_t.toNat) = 0 from kx_z st_v1]; exact r_at.z, hs⟩) (by omega) (by omega) (show (60 - v1.toInt) < (((60 - v1.toInt).toNat + 1 : Nat) : Int) by omega)

