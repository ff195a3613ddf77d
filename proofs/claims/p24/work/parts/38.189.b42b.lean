set_option maxHeartbeats 4000000 in
set_option maxRecDepth 100000 in
theorem tX7_tryThirdR (l : Launch) (E : tE) (X : tX) (A : Nat → Prop) (z : tZ) (I0 : tI) (L0 : tL) (a0 : Nat) (t_a0 : z.ty a0 = 8) (c : Int32) (c_t : Int) (h_c : c.toInt = c_t) (b_c : 0 ≤ c_t ∧ c_t ≤ 7) (a : Int32) (a_t : Int) (h_a : a.toInt = a_t) (b_a : 0 ≤ a_t ∧ a_t ≤ 7) (p : Int32) (p_t : Int) (h_p : p.toInt = p_t) (b_p : 0 ≤ p_t ∧ p_t ≤ 59) (b : Int32) (b_t : Int) (h_b : b.toInt = b_t) (b_b : 0 ≤ b_t ∧ b_t ≤ 7) (q : Int32) (q_t : Int) (h_q : q.toInt = q_t) (b_q : 0 ≤ q_t ∧ q_t ≤ 59) (J_ : tI) (n_ : Nat) (CB : Nat → Int32) (GG : Int → Nat → Nat → Int) (s_ : tS) (hgr : c_gr z I0 a0 n_ CB GG) (hs : c_rs z J_ I0 a0 s_) (hne : a_t ≠ b_t ∧ a_t ≠ c_t ∧ b_t ≠ c_t) (hmp : p_t.toNat < n_ ∧ (CB p_t.toNat).toInt = a_t) (hmq : q_t.toNat < n_ ∧ (CB q_t.toNat).toInt = b_t) (hgq : 0 < GG b_t q_t.toNat p_t.toNat) : Met l yX7_tryThird wsX7_tryThird ({ frames := 2, cells := 0, slots := 0, locals := 128 }) (va_Pc [.ref a0, .int c, .int a, .int p, .int b, .int q] (h_P E X A z I0 L0)) (va_Qv (fun (I1 : tI) => h_I z I1 ∧ h_F [(8, 10), (811, 999), (812, 999), (8, 9)] z I0 I1 ∧ (c_rs z J_ I1 a0 (r_fp (q_mc CB c_t) (fun (s : tS) (r : Nat) => r_st3 GG a_t b_t c_t p_t.toNat q_t.toNat r s) s_ n_))) (fun (I1 : tI) t => h_B E A z I1 L0 t) A) 0 0 A := by
  refine Met.ofW (cc := cX7_tryThird) (maxL := 10) (ret := none) (by decide) rfl ?_
  intro pr_ ev_ s m args below meth cd_ s₁ B hml hv
  obtain ⟨rfl, hE, hk, hX, hA, hK, hI, hR, hB0⟩ := hv
  have g : h_G h_so h_fk E A z I0 L0 s s.heap s.heap [] := ⟨hK, va_S.rf, hB0⟩
  have hF : h_F [(8, 10), (811, 999), (812, 999), (8, 9)] z I0 I0 := h_F.rf
  have hx := B.exec
  have hb := B.bytes
  have hr := B.returns
  have hts := atoms_spec (ws := wsX7_tryThird) B.pre
  have hown : s.vm.findClass RX7 = some m.cls := findClass_of_methodNamed B.named
  have hlocks := B.notSynchronized
  have iX7 : ∀ w ∈ u_ws RX7 TX7 13, w ∈ wsX7_tryThird := by decide +kernel
  have hl := lv_entry ([.ref a0, .int c, .int a, .int p, .int b, .int q]) (n := 10) (Nat.le_of_ble_eq_true rfl)
  rw [lg_entry_eq]
  generalize (lg_sl ([.ref a0, .int c, .int a, .int p, .int b, .int q]) ++ List.replicate (10 - (lg_sl ([.ref a0, .int c, .int a, .int p, .int b, .int q])).length) Slot.unset).toArray = ls at hl ⊢
  have hl : lv_has ls 10 [(0, .ref a0), (1, .int c), (2, .int a), (3, .int p), (4, .int b), (5, .int q)] := hl
  obtain ⟨ln, rln, tln⟩ := hR.at a0 2 t_a0 (rfl : h_rs 8 2 = some (802, false)) (by decide)
  have aln : h_ad z a0 2 = ln := h_ad.at rln
  obtain ⟨st, rst, tst⟩ := hR.at a0 3 t_a0 (rfl : h_rs 8 3 = some (803, false)) (by decide)
  have ast : h_ad z a0 3 = st := h_ad.at rst
  obtain ⟨gn, rgn, tgn⟩ := hR.at a0 6 t_a0 (rfl : h_rs 8 6 = some (806, false)) (by decide)
  have agn : h_ad z a0 6 = gn := h_ad.at rgn
  obtain ⟨pt, rpt, tpt⟩ := hR.at a0 7 t_a0 (rfl : h_rs 8 7 = some (807, false)) (by decide)
  have apt : h_ad z a0 7 = pt := h_ad.at rpt
  obtain ⟨ct, rct, tct⟩ := hR.at a0 8 t_a0 (rfl : h_rs 8 8 = some (808, false)) (by decide)
  have act : h_ad z a0 8 = ct := h_ad.at rct
  obtain ⟨cr, rcr, tcr⟩ := hR.at a0 11 t_a0 (rfl : h_rs 8 11 = some (811, false)) (by decide)
  have acr : h_ad z a0 11 = cr := h_ad.at rcr
  obtain ⟨pr, rpr, tpr⟩ := hR.at a0 12 t_a0 (rfl : h_rs 8 12 = some (812, false)) (by decide)
  have apr : h_ad z a0 12 = pr := h_ad.at rpr
  have hgr0 := hgr
  unfold c_gr at hgr
  rw [ast, aln, agn, apt, act] at hgr
  obtain ⟨n60, hst, hln, hgp, hct⟩ := hgr
  have sb := fun c : Nat => q_sp_n (cb := CB) c n_
  have cc : ((c_t.toNat : Nat) : Int) = c_t := by omega
  have kc : c.toNatClampNeg = c_t.toNat := h_keq h_c b_c.1 cc
  have sp_c := q_sp_m (cb := CB) (n := n_) (show c_t.toNat + 1 ≤ 8 by omega)
  have sb_c := sb 8
  have sd_c : q_sp CB n_ (c_t.toNat + 1) = q_sp CB n_ c_t.toNat + q_ct (q_mc CB ((c_t.toNat : Nat) : Int)) n_ := rfl
  rw [cc] at sd_c
  have ca : ((a_t.toNat : Nat) : Int) = a_t := by omega
  have ka : a.toNatClampNeg = a_t.toNat := h_keq h_a b_a.1 ca
  have sp_a := q_sp_m (cb := CB) (n := n_) (show a_t.toNat + 1 ≤ 8 by omega)
  have sb_a := sb 8
  have sd_a : q_sp CB n_ (a_t.toNat + 1) = q_sp CB n_ a_t.toNat + q_ct (q_mc CB ((a_t.toNat : Nat) : Int)) n_ := rfl
  rw [ca] at sd_a
  have cb : ((b_t.toNat : Nat) : Int) = b_t := by omega
  have kb : b.toNatClampNeg = b_t.toNat := h_keq h_b b_b.1 cb
  have sp_b := q_sp_m (cb := CB) (n := n_) (show b_t.toNat + 1 ≤ 8 by omega)
  have sb_b := sb 8
  have sd_b : q_sp CB n_ (b_t.toNat + 1) = q_sp CB n_ b_t.toNat + q_ct (q_mc CB ((b_t.toNat : Nat) : Int)) n_ := rfl
  rw [cb] at sd_b
  have hI0 := hI
  have kp_p : p.toNatClampNeg = p_t.toNat := h_keq h_p (by omega) (by omega)
  obtain ⟨hp_p, hc_p⟩ := hmp
  have gp_p := hgp a_t.toNat p_t.toNat (by omega) hp_p (by rw [ca]; exact hc_p)
  rw [ca] at gp_p
  obtain ⟨⟨gg_p, gl_p, gh_p⟩, gt_p⟩ := gp_p
  have kp_q : q.toNatClampNeg = q_t.toNat := h_keq h_q (by omega) (by omega)
  obtain ⟨hp_q, hc_q⟩ := hmq
  have gp_q := hgp b_t.toNat q_t.toNat (by omega) hp_q (by rw [cb]; exact hc_q)
  rw [cb] at gp_q
  obtain ⟨⟨gg_q, gl_q, gh_q⟩, gt_q⟩ := gp_q
  refine lv_aload_n hx hb dX7_tryThird_0 rfl (lv_at hl 0 rfl) ?_
  refine h_get (v := .ref gn) hx hb hts iX7 hown g t_a0 (by decide) so_8 rfl 6 (by decide) (hts (.fieldLink RX7 33 "CapLeague$RingSearch" "gains" "[[I") (by decide +kernel)) rfl dX7_tryThird_1 (by show va_rf (z.R a0 6) = _; rw [rgn]; rfl) ?_
  refine lv_iload hx hb dX7_tryThird_4 (lv_at hl 5 rfl) ?_
  obtain ⟨b1, rb1, tb1⟩ := hR.at gn q.toNatClampNeg tgn (rfl : h_rs 806 _ = some (856, false)) (by rw [so_806]; exact h_lt (n := 60) (xi_in (by rw [h_q]; omega) (by rw [h_q]; omega)))
  refine h_aldA (v := .ref b1) hx hb g tgn (by decide) so_806 (xi_in (by rw [h_q]; omega) (by rw [h_q]; omega)) dX7_tryThird_6 (by rw [rb1]; rfl) ?_
  have ar_b1 : h_ad z gn q_t.toNat = b1 := by rw [← kp_q]; exact h_ad.at rb1
  refine lv_iload_n hx hb dX7_tryThird_7 rfl (lv_at hl 3 rfl) ?_
  refine h_ald hx hb g tb1 (by decide) so_856 (xi_in (by rw [h_p]; omega) (by rw [h_p]; omega)) dX7_tryThird_8 ?_
  refine lv_topi (fun v2 ev2 => ?_)
  have jv2 := hI.rd b1 p.toNatClampNeg tb1 ev2 (rfl : h_bd 856 _ = ((-2147483648), 2147483647))
  have gE_v2 := gg_q p_t.toNat hp_p (by rw [hc_p]; omega) (by rw [hc_p]; omega)
  rw [show I0 (h_ad z gn q_t.toNat) p_t.toNat = v2 by rw [ar_b1, ← kp_p, ev2]] at gE_v2
  have nb_v2 : v2.toInt ≤ 9999 := by omega
  refine lv_istore (lv' := [(6, .int v2), (0, .ref a0), (1, .int c), (2, .int a), (3, .int p), (4, .int b), (5, .int q)]) hx hb dX7_tryThird_9 hl (by decide) rfl (fun ls hl => ?_)
  refine lv_aload_n hx hb dX7_tryThird_11 rfl (lv_at hl 1 rfl) ?_
  refine h_get (v := .ref st) hx hb hts iX7 hown g t_a0 (by decide) so_8 rfl 3 (by decide) (hts (.fieldLink RX7 22 "CapLeague$RingSearch" "start" "[I") (by decide +kernel)) rfl dX7_tryThird_12 (by show va_rf (z.R a0 3) = _; rw [rst]; rfl) ?_
  refine lv_iload_n hx hb dX7_tryThird_15 rfl (lv_at hl 2 rfl) ?_
  refine h_ald hx hb g tst (by decide) so_803 (xi_in (by rw [h_c]; omega) (by rw [h_c]; omega)) dX7_tryThird_16 ?_
  refine lv_topi (fun v3 ev3 => ?_)
  have jv3 := hI.rd st c.toNatClampNeg tst ev3 (rfl : h_bd 803 _ = (0, 60))
  have st_v3 : v3.toInt = ((q_sp CB n_ c_t.toNat : Nat) : Int) := by rw [← hst c_t.toNat (by omega), ← kc, ev3]
  refine lv_istore (lv' := [(7, .int v3), (6, .int v2), (0, .ref a0), (1, .int c), (2, .int a), (3, .int p), (4, .int b), (5, .int q)]) hx hb dX7_tryThird_17 hl (by decide) rfl (fun ls hl => ?_)
  have loop19_0 : ∀ (n : Nat) (I5 : tI) (H : Heap) (locs : List Loc) (ls : Array Slot) (v4 : Int32), h_G h_so h_fk E A z I5 L0 s s.heap H locs → h_I z I5 → h_F [(8, 10), (811, 999), (812, 999), (8, 9)] z I0 I5 → lv_has ls 10 [(0, .ref a0), (1, .int c), (2, .int a), (3, .int p), (4, .int b), (5, .int q), (6, .int v2), (7, .int v4)] → (0 ≤ v4.toInt ∧ v4.toInt ≤ 60) → h_F [(8, 10), (811, 999), (812, 999), (8, 9)] z I0 I5 → (r_lp z J_ I5 a0 (q_mc CB c_t) (fun (s : tS) (r : Nat) => r_st3 GG a_t b_t c_t p_t.toNat q_t.toNat r s) s_ n_ (((v4.toInt).toNat) - q_sp CB n_ c_t.toNat)) → (((q_sp CB n_ c_t.toNat : Nat) : Int) ≤ v4.toInt) → (v4.toInt ≤ ((q_sp CB n_ (c_t.toNat + 1) : Nat) : Int)) → (60 - v4.toInt) < (n : Int) → W pr_ l ev_ (headSpec wsX7_tryThird ({ frames := 2, cells := 0, slots := 0, locals := 128 })).room s m ([.ref a0, .int c, .int a, .int p, .int b, .int q] : List Value).toArray below meth cd_ H locs 0 0 (MQ below (va_Qv (fun (I1 : tI) => h_I z I1 ∧ h_F [(8, 10), (811, 999), (812, 999), (8, 9)] z I0 I1 ∧ (c_rs z J_ I1 a0 (r_fp (q_mc CB c_t) (fun (s : tS) (r : Nat) => r_st3 GG a_t b_t c_t p_t.toNat q_t.toNat r s) s_ n_))) (fun (I1 : tI) t => h_B E A z I1 L0 t) A) ([.ref a0, .int c, .int a, .int p, .int b, .int q] : List Value).toArray s 0 0 A) (F0 m 19 ls []) := by
    intro n
    induction n with
    | zero => intro I5 H locs ls v4 g hI hF hl jv4 hL19 hx19_0 hx19_1 hx19_2 hn; exact absurd hn (by omega)
    | succ n ih19 =>
      intro I5 H locs ls v4 g hI hF hl jv4 hL19 hx19_0 hx19_1 hx19_2 hn
      obtain ⟨t19, ta19, tb19⟩ := hx19_0
      refine lv_iload hx hb dX7_tryThird_19 (lv_at hl 7 rfl) ?_
      refine lv_aload_n hx hb dX7_tryThird_21 rfl (lv_at hl 0 rfl) ?_
      refine h_get (v := .ref st) hx hb hts iX7 hown g t_a0 (by decide) so_8 rfl 3 (by decide) (hts (.fieldLink RX7 22 "CapLeague$RingSearch" "start" "[I") (by decide +kernel)) rfl dX7_tryThird_22 (by show va_rf (z.R a0 3) = _; rw [rst]; rfl) ?_
      refine lv_iload_n hx hb dX7_tryThird_25 rfl (lv_at hl 1 rfl) ?_
      refine lv_iconst (v := 1) hx hb dX7_tryThird_26 (by decide) ?_
      refine lv_iadd hx hb dX7_tryThird_27 ?_
      refine lv_topi (fun v6 ev6 => ?_)
      have jv6 : v6.toInt = c_t + 1 := xi_add ev6 h_c (by decide) (by omega) (by omega)
      refine h_ald hx hb g tst (by decide) so_803 (xi_in (by omega) (by omega)) dX7_tryThird_28 ?_
      refine lv_topi (fun v7 ev7 => ?_)
      have jv7 := hI.rd st v6.toNatClampNeg tst ev7 (rfl : h_bd 803 _ = (0, 60))
      have st_v7 : v7.toInt = ((q_sp CB n_ (c_t.toNat + 1) : Nat) : Int) := by rw [← hst (c_t.toNat + 1) (by omega), ← (h_keq (i := v6) (t := v6.toInt) (k := c_t.toNat + 1) rfl (by omega) (by omega) : v6.toNatClampNeg = c_t.toNat + 1), ev7]; exact congrArg Int32.toInt (h_F.at hL19 tst rfl)
      refine lv_icmp_ge (tgt := 140) hx hb dX7_tryThird_29 (by decide) (fun c8 => ?_) (fun c8 => ?_)
      · have ic8 := (xi_le c8 rfl rfl : v7.toInt ≤ v4.toInt)
        have hS := g.2.1
        exact W.vret hx hb hr (fun t ht hW => ⟨⟨I5, rfl, ⟨hI, hF, (by show c_rs z J_ I5 a0 (r_fp (q_mc CB c_t) (fun (s : tS) (r : Nat) => r_st3 GG a_t b_t c_t p_t.toNat q_t.toNat r s) s_ n_); rw [← ta19.e (kx_n (by omega) (by omega))]; exact tb19)⟩, h_ret g ht⟩, hS.F ht⟩) hS.2.2 dX7_tryThird_140
      · have ic8 := (xi_nle c8 rfl rfl : v4.toInt < v7.toInt)
        obtain ⟨rv, erv⟩ : ∃ x : Int32, x = I0 ln v4.toNatClampNeg := ⟨_, rfl⟩
        have jrv := hI0.rd ln _ tln erv (rfl : h_bd 802 _ = (0, 59))
        have ki_rv : v4.toNatClampNeg = v4.toInt.toNat := h_keq rfl (by omega) (Int.toNat_of_nonneg (by omega))
        obtain ⟨p0, hp_rv, hP0, hk_rv⟩ := q_ct_ex (P := q_mc CB c_t) (k := v4.toInt.toNat - q_sp CB n_ c_t.toNat) (n := n_) (kx_lt hx19_1 (by omega))
        have hc_rv := q_mc_i hP0
        have l0 := hln c_t.toNat p0 (by omega) hp_rv (by rw [cc]; exact hc_rv)
        rw [cc, show q_sp CB n_ c_t.toNat + q_ct (q_mc CB c_t) p0 = v4.toInt.toNat from kx_e hk_rv hx19_1, ← ki_rv, ← erv] at l0
        have ep0 : p0 = rv.toInt.toNat := kx_p l0
        subst ep0
        replace hk_rv : r_kq (q_ct (q_mc CB c_t) rv.toInt.toNat) (v4.toInt.toNat - q_sp CB n_ c_t.toNat) := hk_rv
        have tn_rv : ((rv.toInt.toNat : Nat) : Int) = rv.toInt := Int.toNat_of_nonneg jrv.1
        have kp_rv : rv.toNatClampNeg = rv.toInt.toNat := h_keq rfl jrv.1 tn_rv
        have hc_rv9 : (CB rv.toInt.toNat).toInt = ((c_t.toNat : Nat) : Int) := by rw [cc]; exact hc_rv
        have gp_rv := hgp c_t.toNat rv.toInt.toNat (by omega) hp_rv hc_rv9
        have ct_rv := hct c_t.toNat (by omega)
        rw [cc] at gp_rv
        obtain ⟨⟨gg_rv, gl_rv, gh_rv⟩, gt_rv⟩ := gp_rv
        refine lv_aload_n hx hb dX7_tryThird_32 rfl (lv_at hl 0 rfl) ?_
        refine h_get (v := .ref gn) hx hb hts iX7 hown g t_a0 (by decide) so_8 rfl 6 (by decide) (hts (.fieldLink RX7 33 "CapLeague$RingSearch" "gains" "[[I") (by decide +kernel)) rfl dX7_tryThird_33 (by show va_rf (z.R a0 6) = _; rw [rgn]; rfl) ?_
        refine lv_iload_n hx hb dX7_tryThird_36 rfl (lv_at hl 3 rfl) ?_
        obtain ⟨b9, rb9, tb9⟩ := hR.at gn p.toNatClampNeg tgn (rfl : h_rs 806 _ = some (856, false)) (by rw [so_806]; exact h_lt (n := 60) (xi_in (by rw [h_p]; omega) (by rw [h_p]; omega)))
        refine h_aldA (v := .ref b9) hx hb g tgn (by decide) so_806 (xi_in (by rw [h_p]; omega) (by rw [h_p]; omega)) dX7_tryThird_37 (by rw [rb9]; rfl) ?_
        have ar_b9 : h_ad z gn p_t.toNat = b9 := by rw [← kp_p]; exact h_ad.at rb9
        refine lv_aload_n hx hb dX7_tryThird_38 rfl (lv_at hl 0 rfl) ?_
        refine h_get (v := .ref ln) hx hb hts iX7 hown g t_a0 (by decide) so_8 rfl 2 (by decide) (hts (.fieldLink RX7 18 "CapLeague$RingSearch" "line" "[I") (by decide +kernel)) rfl dX7_tryThird_39 (by show va_rf (z.R a0 2) = _; rw [rln]; rfl) ?_
        refine lv_iload hx hb dX7_tryThird_42 (lv_at hl 7 rfl) ?_
        refine h_ald hx hb g tln (by decide) so_802 (xi_in (by omega) (by omega)) dX7_tryThird_44 ?_
        refine xw_i ((h_F.at hL19 tln rfl).trans (erv.symm)) ?_
        refine h_ald hx hb g tb9 (by decide) so_856 (xi_in (by omega) (by omega)) dX7_tryThird_45 ?_
        refine lv_topi (fun v10 ev10 => ?_)
        have jv10 := hI.rd b9 rv.toNatClampNeg tb9 ev10 (rfl : h_bd 856 _ = ((-2147483648), 2147483647))
        have gE_v10 := gg_p rv.toInt.toNat hp_rv (by rw [hc_rv]; omega) (by rw [hc_rv]; omega)
        rw [show I0 (h_ad z gn p_t.toNat) rv.toInt.toNat = v10 by rw [ar_b9, ← kp_rv, ev10]; exact (h_F.at hL19 tb9 rfl).symm] at gE_v10
        have nb_v10 : v10.toInt ≤ 9999 := by omega
        refine lv_istore (lv' := [(8, .int v10), (0, .ref a0), (1, .int c), (2, .int a), (3, .int p), (4, .int b), (5, .int q), (6, .int v2), (7, .int v4)]) hx hb dX7_tryThird_46 hl (by decide) rfl (fun ls hl => ?_)
        refine lv_aload_n hx hb dX7_tryThird_48 rfl (lv_at hl 1 rfl) ?_
        refine h_get (v := .ref gn) hx hb hts iX7 hown g t_a0 (by decide) so_8 rfl 6 (by decide) (hts (.fieldLink RX7 33 "CapLeague$RingSearch" "gains" "[[I") (by decide +kernel)) rfl dX7_tryThird_49 (by show va_rf (z.R a0 6) = _; rw [rgn]; rfl) ?_
        refine lv_aload_n hx hb dX7_tryThird_52 rfl (lv_at hl 1 rfl) ?_
        refine h_get (v := .ref ln) hx hb hts iX7 hown g t_a0 (by decide) so_8 rfl 2 (by decide) (hts (.fieldLink RX7 18 "CapLeague$RingSearch" "line" "[I") (by decide +kernel)) rfl dX7_tryThird_53 (by show va_rf (z.R a0 2) = _; rw [rln]; rfl) ?_
        refine lv_iload hx hb dX7_tryThird_56 (lv_at hl 8 rfl) ?_
        refine h_ald hx hb g tln (by decide) so_802 (xi_in (by omega) (by omega)) dX7_tryThird_58 ?_
        refine xw_i ((h_F.at hL19 tln rfl).trans (erv.symm)) ?_
        obtain ⟨b11, rb11, tb11⟩ := hR.at gn rv.toNatClampNeg tgn (rfl : h_rs 806 _ = some (856, false)) (by rw [so_806]; exact h_lt (n := 60) (xi_in (by omega) (by omega)))
        refine h_aldA (v := .ref b11) hx hb g tgn (by decide) so_806 (xi_in (by omega) (by omega)) dX7_tryThird_59 (by rw [rb11]; rfl) ?_
        have ar_b11 : h_ad z gn rv.toInt.toNat = b11 := by rw [← kp_rv]; exact h_ad.at rb11
        refine lv_iload hx hb dX7_tryThird_60 (lv_at hl 6 rfl) ?_
        refine h_ald hx hb g tb11 (by decide) so_856 (xi_in (by rw [h_q]; omega) (by rw [h_q]; omega)) dX7_tryThird_62 ?_
        refine lv_topi (fun v12 ev12 => ?_)
        have jv12 := hI.rd b11 q.toNatClampNeg tb11 ev12 (rfl : h_bd 856 _ = ((-2147483648), 2147483647))
        have gE_v12 := gg_rv q_t.toNat hp_q (by rw [hc_q]; omega) (by rw [hc_q]; omega)
        rw [show I0 (h_ad z gn rv.toInt.toNat) q_t.toNat = v12 by rw [ar_b11, ← kp_q, ev12]; exact (h_F.at hL19 tb11 rfl).symm] at gE_v12
        have nb_v12 : v12.toInt ≤ 9999 := by omega
        refine lv_istore (lv' := [(9, .int v12), (8, .int v10), (0, .ref a0), (1, .int c), (2, .int a), (3, .int p), (4, .int b), (5, .int q), (6, .int v2), (7, .int v4)]) hx hb dX7_tryThird_63 hl (by decide) rfl (fun ls hl => ?_)
        refine lv_iload hx hb dX7_tryThird_65 (lv_at hl 1 rfl) ?_
        refine lv_if_le (tgt := 134) hx hb dX7_tryThird_67 (by decide) (fun c13 => ?_) (fun c13 => ?_)
        · have ic13 := (xi_le c13 rfl (by decide) : v10.toInt ≤ 0)
          obtain ⟨v14, ev14⟩ : ∃ z : Int32, z = v4 + 1 := ⟨_, rfl⟩
          have jv14 : v14.toInt = v4.toInt + 1 := xi_add ev14 rfl (by decide) (by omega) (by omega)
          refine lv_iinc (v := v14) (lv' := [(7, .int v14), (9, .int v12), (8, .int v10), (0, .ref a0), (1, .int c), (2, .int a), (3, .int p), (4, .int b), (5, .int q), (6, .int v2)]) hx hb dX7_tryThird_134 hl (k := 9) rfl (by rw [ev14]; rfl) (by decide) rfl (fun ls hl => ?_)
          refine lv_goto (tgt := 19) hx hb dX7_tryThird_137 (by decide) ?_
          exact ih19 I5 _ _ _ v14 g hI hF (lv_sub hl [3, 4, 5, 6, 7, 8, 9, 0] rfl) (by omega) (h_F.call (h_F.rf : h_F [(8, 10), (811, 999), (812, 999), (8, 9)] z I0 I0) hL19 rfl) (⟨(r_st3 GG a_t b_t c_t p_t.toNat q_t.toNat rv.toInt.toNat t19), by rw [show ((v14.toInt).toNat - q_sp CB n_ c_t.toNat) = ((v4.toInt).toNat - q_sp CB n_ c_t.toNat) + 1 from kx_s jv14 hx19_1]; exact ta19.s hp_rv (q_mc_y hc_rv) hk_rv, by rw [show (r_st3 GG a_t b_t c_t p_t.toNat q_t.toNat rv.toInt.toNat t19) = t19 from r_st3_n (by omega)]; exact tb19⟩) (by omega) (by omega) (by omega)
        · have ic13 := (xi_nle c13 rfl (by decide) : 0 < v10.toInt)
          refine lv_iload hx hb dX7_tryThird_70 (lv_at hl 0 rfl) ?_
          refine lv_if_le (tgt := 134) hx hb dX7_tryThird_72 (by decide) (fun c15 => ?_) (fun c15 => ?_)
          · have ic15 := (xi_le c15 rfl (by decide) : v12.toInt ≤ 0)
            obtain ⟨v16, ev16⟩ : ∃ z : Int32, z = v4 + 1 := ⟨_, rfl⟩
            have jv16 : v16.toInt = v4.toInt + 1 := xi_add ev16 rfl (by decide) (by omega) (by omega)
            refine lv_iinc (v := v16) (lv' := [(7, .int v16), (9, .int v12), (8, .int v10), (0, .ref a0), (1, .int c), (2, .int a), (3, .int p), (4, .int b), (5, .int q), (6, .int v2)]) hx hb dX7_tryThird_134 hl (k := 9) rfl (by rw [ev16]; rfl) (by decide) rfl (fun ls hl => ?_)
            refine lv_goto (tgt := 19) hx hb dX7_tryThird_137 (by decide) ?_
            exact ih19 I5 _ _ _ v16 g hI hF (lv_sub hl [3, 4, 5, 6, 7, 8, 9, 0] rfl) (by omega) (h_F.call (h_F.rf : h_F [(8, 10), (811, 999), (812, 999), (8, 9)] z I0 I0) hL19 rfl) (⟨(r_st3 GG a_t b_t c_t p_t.toNat q_t.toNat rv.toInt.toNat t19), by rw [show ((v16.toInt).toNat - q_sp CB n_ c_t.toNat) = ((v4.toInt).toNat - q_sp CB n_ c_t.toNat) + 1 from kx_s jv16 hx19_1]; exact ta19.s hp_rv (q_mc_y hc_rv) hk_rv, by rw [show (r_st3 GG a_t b_t c_t p_t.toNat q_t.toNat rv.toInt.toNat t19) = t19 from r_st3_n (by omega)]; exact tb19⟩) (by omega) (by omega) (by omega)
          · have ic15 := (xi_nle c15 rfl (by decide) : 0 < v12.toInt)
            refine lv_iload hx hb dX7_tryThird_75 (lv_at hl 1 rfl) ?_
            refine lv_iload hx hb dX7_tryThird_77 (lv_at hl 8 rfl) ?_
            refine lv_iadd hx hb dX7_tryThird_79 ?_
            refine lv_topi (fun v17 ev17 => ?_)
            have jv17 : v17.toInt = v10.toInt + v2.toInt := xi_add ev17 rfl rfl (by omega) (by omega)
            refine lv_iload hx hb dX7_tryThird_80 (lv_at hl 0 rfl) ?_
            refine lv_iadd hx hb dX7_tryThird_82 ?_
            refine lv_topi (fun v18 ev18 => ?_)
            have jv18 : v18.toInt = v17.toInt + v12.toInt := xi_add ev18 rfl rfl (by omega) (by omega)
            refine lv_aload_n hx hb dX7_tryThird_83 rfl (lv_at hl 2 rfl) ?_
            refine h_get (v := .int (I5 a0 9)) hx hb hts iX7 hown g t_a0 (by decide) so_8 rfl 9 (by decide) (hts (.fieldLink RX7 59 "CapLeague$RingSearch" "best" "I") (by decide +kernel)) rfl dX7_tryThird_84 rfl ?_
            refine lv_topi (fun v19 ev19 => ?_)
            have jv19 := hI.rd a0 9 t_a0 ev19 (rfl : h_bd 8 9 = ((-2147483648), 2147483647))
            have bst : v19.toInt = t19.1 := by rw [ev19]; exact tb19.1
            refine lv_icmp_le (tgt := 134) hx hb dX7_tryThird_87 (by decide) (fun c20 => ?_) (fun c20 => ?_)
            · have ic20 := (xi_le c20 rfl rfl : v18.toInt ≤ v19.toInt)
              obtain ⟨v21, ev21⟩ : ∃ z : Int32, z = v4 + 1 := ⟨_, rfl⟩
              have jv21 : v21.toInt = v4.toInt + 1 := xi_add ev21 rfl (by decide) (by omega) (by omega)
              refine lv_iinc (v := v21) (lv' := [(7, .int v21), (9, .int v12), (8, .int v10), (0, .ref a0), (1, .int c), (2, .int a), (3, .int p), (4, .int b), (5, .int q), (6, .int v2)]) hx hb dX7_tryThird_134 hl (k := 9) rfl (by rw [ev21]; rfl) (by decide) rfl (fun ls hl => ?_)
              refine lv_goto (tgt := 19) hx hb dX7_tryThird_137 (by decide) ?_
              exact ih19 I5 _ _ _ v21 g hI hF (lv_sub hl [3, 4, 5, 6, 7, 8, 9, 0] rfl) (by omega) (h_F.call (h_F.rf : h_F [(8, 10), (811, 999), (812, 999), (8, 9)] z I0 I0) hL19 rfl) (⟨(r_st3 GG a_t b_t c_t p_t.toNat q_t.toNat rv.toInt.toNat t19), by rw [show ((v21.toInt).toNat - q_sp CB n_ c_t.toNat) = ((v4.toInt).toNat - q_sp CB n_ c_t.toNat) + 1 from kx_s jv21 hx19_1]; exact ta19.s hp_rv (q_mc_y hc_rv) hk_rv, by rw [show (r_st3 GG a_t b_t c_t p_t.toNat q_t.toNat rv.toInt.toNat t19) = t19 from r_st3_n (by omega)]; exact tb19⟩) (by omega) (by omega) (by omega)
            · have ic20 := (xi_nle c20 rfl rfl : v19.toInt < v18.toInt)
              refine lv_aload_n hx hb dX7_tryThird_90 rfl (lv_at hl 2 rfl) ?_
              refine lv_iload hx hb dX7_tryThird_91 (lv_at hl 1 rfl) ?_
              refine lv_iload hx hb dX7_tryThird_93 (lv_at hl 8 rfl) ?_
              refine lv_iadd hx hb dX7_tryThird_95 ?_
              refine xw_i (v := v17) ev17.symm ?_
              refine lv_iload hx hb dX7_tryThird_96 (lv_at hl 0 rfl) ?_
              refine lv_iadd hx hb dX7_tryThird_98 ?_
              refine xw_i (v := v18) ev18.symm ?_
              refine h_putI (ty := .int) (v := v18) hx hb hts iX7 tyX7 tyX7_ok nmX7 hown g t_a0 (by decide) so_8 rfl 9 (by decide) rfl (hts (.fieldLink RX7 59 "CapLeague$RingSearch" "best" "I") (by decide +kernel)) rfl rfl (by decide +kernel) rfl rfl dX7_tryThird_99 (fun I22 H locs eI22 g => ?_)
              have hI := hI.wr eI22 t_a0 (rfl : h_bd 8 9 = ((-2147483648), 2147483647)) (xi_lo _) (Int.le_of_lt_add_one (xi_hi _))
              have hF := hF.wr eI22 t_a0 rfl
              refine lv_aload_n hx hb dX7_tryThird_102 rfl (lv_at hl 2 rfl) ?_
              refine lv_iconst (v := 3) hx hb dX7_tryThird_103 (by decide) ?_
              refine lv_iconst (v := 0) hx hb dX7_tryThird_104 (by decide) ?_
              refine lv_iload_n hx hb dX7_tryThird_105 rfl (lv_at hl 4 rfl) ?_
              refine lv_iload_n hx hb dX7_tryThird_106 rfl (lv_at hl 5 rfl) ?_
              refine va_callv (va_runV (As := [.int 3, .int 0, .int a, .int p]) (rest := []) ⟨hx, hb, hml, hown, hts⟩ (tX7_keepR l E X A z I22 L0 a0 t_a0 3 (3) (by decide) (by omega) 0 (0) (by decide) (by omega) a (a_t) h_a p (p_t) h_p) (cwV 4 hts gX7_tryThird_X7_keep rfl rfl rfl (by decide +kernel) ⟨Nat.le_of_ble_eq_true rfl, Nat.le_of_ble_eq_true rfl⟩) ⟨h_blind _ _ _ _ _ _ _, h_recv g t_a0 (by decide) so_8 (q := (RX7, TX7, 13)) rfl, h_pre _ hE hk hX hA hI hR g⟩ rfl rfl hl.1 rfl (lv_room (Nat.le_of_ble_eq_true rfl)) dX7_tryThird_107 ⟨Nat.le_of_ble_eq_true rfl, Nat.le_of_ble_eq_true rfl⟩) g.2.1 (fun q _ h => h) (fun q h => h) (fun I24 t H1 locs ht hvm h23 hB hz1 hk1 hS => ?_)
              obtain ⟨hI, fh23, h23⟩ := h23
              replace g := h_after g hB ht hS
              generalize H1 = H at g
              clear hB hk1 hz1 ht hvm hS
              have hF := hF.call fh23 rfl
              obtain ⟨h23p0, h23p1⟩ := h23
              refine lv_aload_n hx hb dX7_tryThird_110 rfl (lv_at hl 2 rfl) ?_
              refine lv_iconst (v := 3) hx hb dX7_tryThird_111 (by decide) ?_
              refine lv_iconst (v := 1) hx hb dX7_tryThird_112 (by decide) ?_
              refine lv_iload hx hb dX7_tryThird_113 (lv_at hl 6 rfl) ?_
              refine lv_iload hx hb dX7_tryThird_115 (lv_at hl 7 rfl) ?_
              refine va_callv (va_runV (As := [.int 3, .int 1, .int b, .int q]) (rest := []) ⟨hx, hb, hml, hown, hts⟩ (tX7_keepR l E X A z I24 L0 a0 t_a0 3 (3) (by decide) (by omega) 1 (1) (by decide) (by omega) b (b_t) h_b q (q_t) h_q) (cwV 4 hts gX7_tryThird_X7_keep rfl rfl rfl (by decide +kernel) ⟨Nat.le_of_ble_eq_true rfl, Nat.le_of_ble_eq_true rfl⟩) ⟨h_blind _ _ _ _ _ _ _, h_recv g t_a0 (by decide) so_8 (q := (RX7, TX7, 13)) rfl, h_pre _ hE hk hX hA hI hR g⟩ rfl rfl hl.1 rfl (lv_room (Nat.le_of_ble_eq_true rfl)) dX7_tryThird_117 ⟨Nat.le_of_ble_eq_true rfl, Nat.le_of_ble_eq_true rfl⟩) g.2.1 (fun q _ h => h) (fun q h => h) (fun I26 t H1 locs ht hvm h25 hB hz1 hk1 hS => ?_)
              obtain ⟨hI, fh25, h25⟩ := h25
              replace g := h_after g hB ht hS
              generalize H1 = H at g
              clear hB hk1 hz1 ht hvm hS
              have hF := hF.call fh25 rfl
              obtain ⟨h25p0, h25p1⟩ := h25
              refine lv_aload_n hx hb dX7_tryThird_120 rfl (lv_at hl 2 rfl) ?_
              refine lv_iconst (v := 3) hx hb dX7_tryThird_121 (by decide) ?_
              refine lv_iconst (v := 2) hx hb dX7_tryThird_122 (by decide) ?_
              refine lv_iload_n hx hb dX7_tryThird_123 rfl (lv_at hl 3 rfl) ?_
              refine lv_aload_n hx hb dX7_tryThird_124 rfl (lv_at hl 2 rfl) ?_
              refine h_get (v := .ref ln) hx hb hts iX7 hown g t_a0 (by decide) so_8 rfl 2 (by decide) (hts (.fieldLink RX7 18 "CapLeague$RingSearch" "line" "[I") (by decide +kernel)) rfl dX7_tryThird_125 (by show va_rf (z.R a0 2) = _; rw [rln]; rfl) ?_
              refine lv_iload hx hb dX7_tryThird_128 (lv_at hl 9 rfl) ?_
              refine h_ald hx hb g tln (by decide) so_802 (xi_in (by omega) (by omega)) dX7_tryThird_130 ?_
              refine xw_i ((h_F.at fh25 tln rfl).trans ((h_F.at fh23 tln rfl).trans ((h_n1 eI22 tln t_a0 (by decide)).trans ((h_F.at hL19 tln rfl).trans (erv.symm))))) ?_
              refine va_callv (va_runV (As := [.int 3, .int 2, .int c, .int rv]) (rest := []) ⟨hx, hb, hml, hown, hts⟩ (tX7_keepR l E X A z I26 L0 a0 t_a0 3 (3) (by decide) (by omega) 2 (2) (by decide) (by omega) c (c_t) h_c rv (rv.toInt) rfl) (cwV 4 hts gX7_tryThird_X7_keep rfl rfl rfl (by decide +kernel) ⟨Nat.le_of_ble_eq_true rfl, Nat.le_of_ble_eq_true rfl⟩) ⟨h_blind _ _ _ _ _ _ _, h_recv g t_a0 (by decide) so_8 (q := (RX7, TX7, 13)) rfl, h_pre _ hE hk hX hA hI hR g⟩ rfl rfl hl.1 rfl (lv_room (Nat.le_of_ble_eq_true rfl)) dX7_tryThird_131 ⟨Nat.le_of_ble_eq_true rfl, Nat.le_of_ble_eq_true rfl⟩) g.2.1 (fun q _ h => h) (fun q h => h) (fun I28 t H1 locs ht hvm h27 hB hz1 hk1 hS => ?_)
              obtain ⟨hI, fh27, h27⟩ := h27
              replace g := h_after g hB ht hS
              generalize H1 = H at g
              clear hB hk1 hz1 ht hvm hS
              have hF := hF.call fh27 rfl
              obtain ⟨h27p0, h27p1⟩ := h27
              obtain ⟨v29, ev29⟩ : ∃ z : Int32, z = v4 + 1 := ⟨_, rfl⟩
              have jv29 : v29.toInt = v4.toInt + 1 := xi_add ev29 rfl (by decide) (by omega) (by omega)
              refine lv_iinc (v := v29) (lv' := [(7, .int v29), (9, .int v12), (8, .int v10), (0, .ref a0), (1, .int c), (2, .int a), (3, .int p), (4, .int b), (5, .int q), (6, .int v2)]) hx hb dX7_tryThird_134 hl (k := 9) rfl (by rw [ev29]; rfl) (by decide) rfl (fun ls hl => ?_)
              refine lv_goto (tgt := 19) hx hb dX7_tryThird_137 (by decide) ?_
              exact ih19 I28 _ _ _ v29 g hI hF (lv_sub hl [3, 4, 5, 6, 7, 8, 9, 0] rfl) (by omega) (h_F.call (h_F.call (h_F.call (h_F.wr (h_F.call (h_F.rf : h_F [(8, 10), (811, 999), (812, 999), (8, 9)] z I0 I0) hL19 rfl) eI22 t_a0 rfl) fh23 rfl) fh25 rfl) fh27 rfl) (⟨(r_st3 GG a_t b_t c_t p_t.toNat q_t.toNat rv.toInt.toNat t19), by rw [show ((v29.toInt).toNat - q_sp CB n_ c_t.toNat) = ((v4.toInt).toNat - q_sp CB n_ c_t.toNat) + 1 from kx_s jv29 hx19_1]; exact ta19.s hp_rv (q_mc_y hc_rv) hk_rv, by rw [show (r_st3 GG a_t b_t c_t p_t.toNat q_t.toNat rv.toInt.toNat t19) = _ from r_st3_y gE_v10.1.symm gE_v2.1.symm gE_v12.1.symm (by omega) (by omega) (by omega) (by omega)]; exact c_rs_3 (by rw [(h_F.at fh27 t_a0 rfl).trans ((h_F.at fh25 t_a0 rfl).trans ((h_F.at fh23 t_a0 rfl).trans (h_n0 eI22)))]; omega) (by rw [h27p0]; decide) (by rw [h27p1.1, if_neg (by decide)]; rw [h25p1.1, if_neg (by decide)]; rw [h23p1.1, if_pos (by decide)]; exact h_a) (by rw [h27p1.2, if_neg (by decide)]; rw [h25p1.2, if_neg (by decide)]; rw [h23p1.2, if_pos (by decide)]; omega) (by rw [h27p1.1, if_neg (by decide)]; rw [h25p1.1, if_pos (by decide)]; exact h_b) (by rw [h27p1.2, if_neg (by decide)]; rw [h25p1.2, if_pos (by decide)]; omega) (by rw [h27p1.1, if_pos (by decide)]; exact h_c) (by rw [h27p1.2, if_pos (by decide)]; omega)⟩) (by omega) (by omega) (by omega)
  exact loop19_0 _ I0 _ _ _ v3 g hI hF (lv_sub hl [2, 3, 4, 5, 6, 7, 1, 0] rfl) (by omega) (h_F.rf : h_F [(8, 10), (811, 999), (812, 999), (8, 9)] z I0 I0) (⟨s_, by rw [show ((v3.toInt).toNat - q_sp CB n_ c_t.toNat) = 0 from kx_z st_v3]; exact r_at.z, hs⟩) (by omega) (by omega) (show (60 - v3.toInt) < (((60 - v3.toInt).toNat + 1 : Nat) : Int) by omega)

