set_option maxHeartbeats 4000000 in
set_option maxRecDepth 100000 in
theorem tX7_tryThreeR (l : Launch) (E : tE) (X : tX) (A : Nat → Prop) (z : tZ) (I0 : tI) (L0 : tL) (a0 : Nat) (t_a0 : z.ty a0 = 8) (a : Int32) (a_t : Int) (h_a : a.toInt = a_t) (b_a : 0 ≤ a_t ∧ a_t ≤ 7) (b : Int32) (b_t : Int) (h_b : b.toInt = b_t) (b_b : 0 ≤ b_t ∧ b_t ≤ 7) (c : Int32) (c_t : Int) (h_c : c.toInt = c_t) (b_c : 0 ≤ c_t ∧ c_t ≤ 7) (J_ : tI) (n_ : Nat) (CB : Nat → Int32) (GG : Int → Nat → Nat → Int) (s_ : tS) (hgr : c_gr z I0 a0 n_ CB GG) (hs : c_rs z J_ I0 a0 s_) (hne : a_t ≠ b_t ∧ a_t ≠ c_t ∧ b_t ≠ c_t) : Met l yX7_tryThree wsX7_tryThree ({ frames := 3, cells := 0, slots := 0, locals := 192 }) (va_Pc [.ref a0, .int a, .int b, .int c] (h_P E X A z I0 L0)) (va_Qv (fun (I1 : tI) => h_I z I1 ∧ h_F [(8, 10), (811, 999), (812, 999), (8, 9)] z I0 I1 ∧ (c_rs z J_ I1 a0 (r_thr GG CB n_ a_t b_t c_t s_))) (fun (I1 : tI) t => h_B E A z I1 L0 t) A) 0 0 A := by
  refine Met.ofW (cc := cX7_tryThree) (maxL := 7) (ret := none) (by decide) rfl ?_
  intro pr_ ev_ s m args below meth cd_ s₁ B hml hv
  obtain ⟨rfl, hE, hk, hX, hA, hK, hI, hR, hB0⟩ := hv
  have g : h_G h_so h_fk E A z I0 L0 s s.heap s.heap [] := ⟨hK, va_S.rf, hB0⟩
  have hF : h_F [(8, 10), (811, 999), (812, 999), (8, 9)] z I0 I0 := h_F.rf
  have hx := B.exec
  have hb := B.bytes
  have hr := B.returns
  have hts := atoms_spec (ws := wsX7_tryThree) B.pre
  have hown : s.vm.findClass RX7 = some m.cls := findClass_of_methodNamed B.named
  have hlocks := B.notSynchronized
  have iX7 : ∀ w ∈ u_ws RX7 TX7 13, w ∈ wsX7_tryThree := by decide +kernel
  have hl := lv_entry ([.ref a0, .int a, .int b, .int c]) (n := 7) (Nat.le_of_ble_eq_true rfl)
  rw [lg_entry_eq]
  generalize (lg_sl ([.ref a0, .int a, .int b, .int c]) ++ List.replicate (7 - (lg_sl ([.ref a0, .int a, .int b, .int c])).length) Slot.unset).toArray = ls at hl ⊢
  have hl : lv_has ls 7 [(0, .ref a0), (1, .int a), (2, .int b), (3, .int c)] := hl
  obtain ⟨ln, rln, tln⟩ := hR.at a0 2 t_a0 (rfl : h_rs 8 2 = some (802, false)) (by decide)
  have aln : h_ad z a0 2 = ln := h_ad.at rln
  obtain ⟨st, rst, tst⟩ := hR.at a0 3 t_a0 (rfl : h_rs 8 3 = some (803, false)) (by decide)
  have ast : h_ad z a0 3 = st := h_ad.at rst
  obtain ⟨gn, rgn, tgn⟩ := hR.at a0 6 t_a0 (rfl : h_rs 8 6 = some (806, false)) (by decide)
  have agn : h_ad z a0 6 = gn := h_ad.at rgn
  obtain ⟨pt, rpt, tpt⟩ := hR.at a0 7 t_a0 (rfl : h_rs 8 7 = some (807, false)) (by decide)
  have apt : h_ad z a0 7 = pt := h_ad.at rpt
  obtain ⟨ct, rct, tct⟩ := hR.at a0 8 t_a0 (rfl : h_rs 8 8 = some (808, false)) (by decide)
  have act : h_ad z a0 8 = ct := h_ad.at rct
  obtain ⟨cr, rcr, tcr⟩ := hR.at a0 11 t_a0 (rfl : h_rs 8 11 = some (811, false)) (by decide)
  have acr : h_ad z a0 11 = cr := h_ad.at rcr
  obtain ⟨pr, rpr, tpr⟩ := hR.at a0 12 t_a0 (rfl : h_rs 8 12 = some (812, false)) (by decide)
  have apr : h_ad z a0 12 = pr := h_ad.at rpr
  have hgr0 := hgr
  unfold c_gr at hgr
  rw [ast, aln, agn, apt, act] at hgr
  obtain ⟨n60, hst, hln, hgp, hct⟩ := hgr
  have sb := fun c : Nat => q_sp_n (cb := CB) c n_
  have ca : ((a_t.toNat : Nat) : Int) = a_t := by omega
  have ka : a.toNatClampNeg = a_t.toNat := h_keq h_a b_a.1 ca
  have sp_a := q_sp_m (cb := CB) (n := n_) (show a_t.toNat + 1 ≤ 8 by omega)
  have sb_a := sb 8
  have sd_a : q_sp CB n_ (a_t.toNat + 1) = q_sp CB n_ a_t.toNat + q_ct (q_mc CB ((a_t.toNat : Nat) : Int)) n_ := rfl
  rw [ca] at sd_a
  have cb : ((b_t.toNat : Nat) : Int) = b_t := by omega
  have kb : b.toNatClampNeg = b_t.toNat := h_keq h_b b_b.1 cb
  have sp_b := q_sp_m (cb := CB) (n := n_) (show b_t.toNat + 1 ≤ 8 by omega)
  have sb_b := sb 8
  have sd_b : q_sp CB n_ (b_t.toNat + 1) = q_sp CB n_ b_t.toNat + q_ct (q_mc CB ((b_t.toNat : Nat) : Int)) n_ := rfl
  rw [cb] at sd_b
  have cc : ((c_t.toNat : Nat) : Int) = c_t := by omega
  have kc : c.toNatClampNeg = c_t.toNat := h_keq h_c b_c.1 cc
  have sp_c := q_sp_m (cb := CB) (n := n_) (show c_t.toNat + 1 ≤ 8 by omega)
  have sb_c := sb 8
  have sd_c : q_sp CB n_ (c_t.toNat + 1) = q_sp CB n_ c_t.toNat + q_ct (q_mc CB ((c_t.toNat : Nat) : Int)) n_ := rfl
  rw [cc] at sd_c
  have hI0 := hI
  refine lv_aload_n hx hb dX7_tryThree_0 rfl (lv_at hl 0 rfl) ?_
  refine h_get (v := .ref ct) hx hb hts iX7 hown g t_a0 (by decide) so_8 rfl 8 (by decide) (hts (.fieldLink RX7 39 "CapLeague$RingSearch" "clubTop" "[I") (by decide +kernel)) rfl dX7_tryThree_1 (by show va_rf (z.R a0 8) = _; rw [rct]; rfl) ?_
  refine lv_iload_n hx hb dX7_tryThree_4 rfl (lv_at hl 1 rfl) ?_
  refine h_ald hx hb g tct (by decide) so_808 (xi_in (by rw [h_a]; omega) (by rw [h_a]; omega)) dX7_tryThree_5 ?_
  refine lv_topi (fun v1 ev1 => ?_)
  have jv1 := hI.rd ct a.toNatClampNeg tct ev1 (rfl : h_bd 808 _ = ((-2147483648), 2147483647))
  have cE_a : I0 ct a_t.toNat = v1 := by rw [← ka, ev1]
  have cb_a : 0 ≤ v1.toInt ∧ v1.toInt ≤ 9999 := by rw [← cE_a]; exact hct a_t.toNat (by omega)
  refine lv_aload_n hx hb dX7_tryThree_6 rfl (lv_at hl 0 rfl) ?_
  refine h_get (v := .ref ct) hx hb hts iX7 hown g t_a0 (by decide) so_8 rfl 8 (by decide) (hts (.fieldLink RX7 39 "CapLeague$RingSearch" "clubTop" "[I") (by decide +kernel)) rfl dX7_tryThree_7 (by show va_rf (z.R a0 8) = _; rw [rct]; rfl) ?_
  refine lv_iload_n hx hb dX7_tryThree_10 rfl (lv_at hl 2 rfl) ?_
  refine h_ald hx hb g tct (by decide) so_808 (xi_in (by rw [h_b]; omega) (by rw [h_b]; omega)) dX7_tryThree_11 ?_
  refine lv_topi (fun v2 ev2 => ?_)
  have jv2 := hI.rd ct b.toNatClampNeg tct ev2 (rfl : h_bd 808 _ = ((-2147483648), 2147483647))
  have cE_b : I0 ct b_t.toNat = v2 := by rw [← kb, ev2]
  have cb_b : 0 ≤ v2.toInt ∧ v2.toInt ≤ 9999 := by rw [← cE_b]; exact hct b_t.toNat (by omega)
  refine lv_iadd hx hb dX7_tryThree_12 ?_
  refine lv_topi (fun v3 ev3 => ?_)
  have jv3 : v3.toInt = v1.toInt + v2.toInt := xi_add ev3 rfl rfl (by omega) (by omega)
  refine lv_aload_n hx hb dX7_tryThree_13 rfl (lv_at hl 0 rfl) ?_
  refine h_get (v := .ref ct) hx hb hts iX7 hown g t_a0 (by decide) so_8 rfl 8 (by decide) (hts (.fieldLink RX7 39 "CapLeague$RingSearch" "clubTop" "[I") (by decide +kernel)) rfl dX7_tryThree_14 (by show va_rf (z.R a0 8) = _; rw [rct]; rfl) ?_
  refine lv_iload_n hx hb dX7_tryThree_17 rfl (lv_at hl 3 rfl) ?_
  refine h_ald hx hb g tct (by decide) so_808 (xi_in (by rw [h_c]; omega) (by rw [h_c]; omega)) dX7_tryThree_18 ?_
  refine lv_topi (fun v4 ev4 => ?_)
  have jv4 := hI.rd ct c.toNatClampNeg tct ev4 (rfl : h_bd 808 _ = ((-2147483648), 2147483647))
  have cE_c : I0 ct c_t.toNat = v4 := by rw [← kc, ev4]
  have cb_c : 0 ≤ v4.toInt ∧ v4.toInt ≤ 9999 := by rw [← cE_c]; exact hct c_t.toNat (by omega)
  refine lv_iadd hx hb dX7_tryThree_19 ?_
  refine lv_topi (fun v5 ev5 => ?_)
  have jv5 : v5.toInt = v3.toInt + v4.toInt := xi_add ev5 rfl rfl (by omega) (by omega)
  refine lv_aload_n hx hb dX7_tryThree_20 rfl (lv_at hl 0 rfl) ?_
  refine h_get (v := .int (I0 a0 9)) hx hb hts iX7 hown g t_a0 (by decide) so_8 rfl 9 (by decide) (hts (.fieldLink RX7 59 "CapLeague$RingSearch" "best" "I") (by decide +kernel)) rfl dX7_tryThree_21 rfl ?_
  refine lv_topi (fun v6 ev6 => ?_)
  have jv6 := hI.rd a0 9 t_a0 ev6 (rfl : h_bd 8 9 = ((-2147483648), 2147483647))
  have bst : v6.toInt = s_.1 := by rw [ev6]; exact hs.1
  refine lv_icmp_gt (tgt := 28) hx hb dX7_tryThree_24 (by decide) (fun c7 => ?_) (fun c7 => ?_)
  · have ic7 := (xi_lt c7 rfl rfl : v6.toInt < v5.toInt)
    refine lv_aload_n hx hb dX7_tryThree_28 rfl (lv_at hl 0 rfl) ?_
    refine h_get (v := .ref st) hx hb hts iX7 hown g t_a0 (by decide) so_8 rfl 3 (by decide) (hts (.fieldLink RX7 22 "CapLeague$RingSearch" "start" "[I") (by decide +kernel)) rfl dX7_tryThree_29 (by show va_rf (z.R a0 3) = _; rw [rst]; rfl) ?_
    refine lv_iload_n hx hb dX7_tryThree_32 rfl (lv_at hl 1 rfl) ?_
    refine h_ald hx hb g tst (by decide) so_803 (xi_in (by rw [h_a]; omega) (by rw [h_a]; omega)) dX7_tryThree_33 ?_
    refine lv_topi (fun v8 ev8 => ?_)
    have jv8 := hI.rd st a.toNatClampNeg tst ev8 (rfl : h_bd 803 _ = (0, 60))
    have st_v8 : v8.toInt = ((q_sp CB n_ a_t.toNat : Nat) : Int) := by rw [← hst a_t.toNat (by omega), ← ka, ev8]
    refine lv_istore (lv' := [(4, .int v8), (0, .ref a0), (1, .int a), (2, .int b), (3, .int c)]) hx hb dX7_tryThree_34 hl (by decide) rfl (fun ls hl => ?_)
    have loop36_0 : ∀ (n : Nat) (I10 : tI) (H : Heap) (locs : List Loc) (ls : Array Slot) (v9 : Int32), h_G h_so h_fk E A z I10 L0 s s.heap H locs → h_I z I10 → h_F [(8, 10), (811, 999), (812, 999), (8, 9)] z I0 I10 → lv_has ls 7 [(0, .ref a0), (1, .int a), (2, .int b), (3, .int c), (4, .int v9)] → (0 ≤ v9.toInt ∧ v9.toInt ≤ 60) → h_F [(8, 10), (811, 999), (812, 999), (8, 9)] z I0 I10 → (r_lp z J_ I10 a0 (q_mc CB a_t) (fun (s : tS) (p : Nat) => r_fp (q_mc CB b_t) (fun (s : tS) (q : Nat) => r_fp (q_mc CB c_t) (fun (s : tS) (r : Nat) => r_st3 GG a_t b_t c_t p q r s) s n_) s n_) s_ n_ (((v9.toInt).toNat) - q_sp CB n_ a_t.toNat)) → (((q_sp CB n_ a_t.toNat : Nat) : Int) ≤ v9.toInt) → (v9.toInt ≤ ((q_sp CB n_ (a_t.toNat + 1) : Nat) : Int)) → (60 - v9.toInt) < (n : Int) → W pr_ l ev_ (headSpec wsX7_tryThree ({ frames := 3, cells := 0, slots := 0, locals := 192 })).room s m ([.ref a0, .int a, .int b, .int c] : List Value).toArray below meth cd_ H locs 0 0 (MQ below (va_Qv (fun (I1 : tI) => h_I z I1 ∧ h_F [(8, 10), (811, 999), (812, 999), (8, 9)] z I0 I1 ∧ (c_rs z J_ I1 a0 (r_thr GG CB n_ a_t b_t c_t s_))) (fun (I1 : tI) t => h_B E A z I1 L0 t) A) ([.ref a0, .int a, .int b, .int c] : List Value).toArray s 0 0 A) (F0 m 36 ls []) := by
      intro n
      induction n with
      | zero => intro I10 H locs ls v9 g hI hF hl jv9 hL36 hx36_0 hx36_1 hx36_2 hn; exact absurd hn (by omega)
      | succ n ih36 =>
        intro I10 H locs ls v9 g hI hF hl jv9 hL36 hx36_0 hx36_1 hx36_2 hn
        obtain ⟨t36, ta36, tb36⟩ := hx36_0
        refine lv_iload hx hb dX7_tryThree_36 (lv_at hl 4 rfl) ?_
        refine lv_aload_n hx hb dX7_tryThree_38 rfl (lv_at hl 0 rfl) ?_
        refine h_get (v := .ref st) hx hb hts iX7 hown g t_a0 (by decide) so_8 rfl 3 (by decide) (hts (.fieldLink RX7 22 "CapLeague$RingSearch" "start" "[I") (by decide +kernel)) rfl dX7_tryThree_39 (by show va_rf (z.R a0 3) = _; rw [rst]; rfl) ?_
        refine lv_iload_n hx hb dX7_tryThree_42 rfl (lv_at hl 1 rfl) ?_
        refine lv_iconst (v := 1) hx hb dX7_tryThree_43 (by decide) ?_
        refine lv_iadd hx hb dX7_tryThree_44 ?_
        refine lv_topi (fun v11 ev11 => ?_)
        have jv11 : v11.toInt = a_t + 1 := xi_add ev11 h_a (by decide) (by omega) (by omega)
        refine h_ald hx hb g tst (by decide) so_803 (xi_in (by omega) (by omega)) dX7_tryThree_45 ?_
        refine lv_topi (fun v12 ev12 => ?_)
        have jv12 := hI.rd st v11.toNatClampNeg tst ev12 (rfl : h_bd 803 _ = (0, 60))
        have st_v12 : v12.toInt = ((q_sp CB n_ (a_t.toNat + 1) : Nat) : Int) := by rw [← hst (a_t.toNat + 1) (by omega), ← (h_keq (i := v11) (t := v11.toInt) (k := a_t.toNat + 1) rfl (by omega) (by omega) : v11.toNatClampNeg = a_t.toNat + 1), ev12]; exact congrArg Int32.toInt (h_F.at hL36 tst rfl)
        refine lv_icmp_ge (tgt := 159) hx hb dX7_tryThree_46 (by decide) (fun c13 => ?_) (fun c13 => ?_)
        · have ic13 := (xi_le c13 rfl rfl : v12.toInt ≤ v9.toInt)
          have hS := g.2.1
          exact W.vret hx hb hr (fun t ht hW => ⟨⟨I10, rfl, ⟨hI, hF, (by show c_rs z J_ I10 a0 (r_thr GG CB n_ a_t b_t c_t s_); unfold r_thr; rw [← ta36.e (kx_n (by omega) (by omega))]; exact tb36)⟩, h_ret g ht⟩, hS.F ht⟩) hS.2.2 dX7_tryThree_159
        · have ic13 := (xi_nle c13 rfl rfl : v9.toInt < v12.toInt)
          obtain ⟨pv, epv⟩ : ∃ x : Int32, x = I0 ln v9.toNatClampNeg := ⟨_, rfl⟩
          have jpv := hI0.rd ln _ tln epv (rfl : h_bd 802 _ = (0, 59))
          have ki_pv : v9.toNatClampNeg = v9.toInt.toNat := h_keq rfl (by omega) (Int.toNat_of_nonneg (by omega))
          obtain ⟨p0, hp_pv, hP0, hk_pv⟩ := q_ct_ex (P := q_mc CB a_t) (k := v9.toInt.toNat - q_sp CB n_ a_t.toNat) (n := n_) (kx_lt hx36_1 (by omega))
          have hc_pv := q_mc_i hP0
          have l0 := hln a_t.toNat p0 (by omega) hp_pv (by rw [ca]; exact hc_pv)
          rw [ca, show q_sp CB n_ a_t.toNat + q_ct (q_mc CB a_t) p0 = v9.toInt.toNat from kx_e hk_pv hx36_1, ← ki_pv, ← epv] at l0
          have ep0 : p0 = pv.toInt.toNat := kx_p l0
          subst ep0
          replace hk_pv : r_kq (q_ct (q_mc CB a_t) pv.toInt.toNat) (v9.toInt.toNat - q_sp CB n_ a_t.toNat) := hk_pv
          have tn_pv : ((pv.toInt.toNat : Nat) : Int) = pv.toInt := Int.toNat_of_nonneg jpv.1
          have kp_pv : pv.toNatClampNeg = pv.toInt.toNat := h_keq rfl jpv.1 tn_pv
          have hc_pv9 : (CB pv.toInt.toNat).toInt = ((a_t.toNat : Nat) : Int) := by rw [ca]; exact hc_pv
          have gp_pv := hgp a_t.toNat pv.toInt.toNat (by omega) hp_pv hc_pv9
          have ct_pv := hct a_t.toNat (by omega)
          rw [ca] at gp_pv
          obtain ⟨⟨gg_pv, gl_pv, gh_pv⟩, gt_pv⟩ := gp_pv
          refine lv_aload_n hx hb dX7_tryThree_49 rfl (lv_at hl 0 rfl) ?_
          refine h_get (v := .ref st) hx hb hts iX7 hown g t_a0 (by decide) so_8 rfl 3 (by decide) (hts (.fieldLink RX7 22 "CapLeague$RingSearch" "start" "[I") (by decide +kernel)) rfl dX7_tryThree_50 (by show va_rf (z.R a0 3) = _; rw [rst]; rfl) ?_
          refine lv_iload_n hx hb dX7_tryThree_53 rfl (lv_at hl 2 rfl) ?_
          refine h_ald hx hb g tst (by decide) so_803 (xi_in (by rw [h_b]; omega) (by rw [h_b]; omega)) dX7_tryThree_54 ?_
          refine lv_topi (fun v14 ev14 => ?_)
          have jv14 := hI.rd st b.toNatClampNeg tst ev14 (rfl : h_bd 803 _ = (0, 60))
          have st_v14 : v14.toInt = ((q_sp CB n_ b_t.toNat : Nat) : Int) := by rw [← hst b_t.toNat (by omega), ← kb, ev14]; exact congrArg Int32.toInt (h_F.at hL36 tst rfl)
          refine lv_istore (lv' := [(5, .int v14), (0, .ref a0), (1, .int a), (2, .int b), (3, .int c), (4, .int v9)]) hx hb dX7_tryThree_55 hl (by decide) rfl (fun ls hl => ?_)
          have loop57_1 : ∀ (n : Nat) (I16 : tI) (H : Heap) (locs : List Loc) (ls : Array Slot) (v15 : Int32), h_G h_so h_fk E A z I16 L0 s s.heap H locs → h_I z I16 → h_F [(8, 10), (811, 999), (812, 999), (8, 9)] z I0 I16 → lv_has ls 7 [(0, .ref a0), (1, .int a), (2, .int b), (3, .int c), (4, .int v9), (5, .int v15)] → (0 ≤ v15.toInt ∧ v15.toInt ≤ 60) → h_F [(8, 10), (811, 999), (812, 999), (8, 9)] z I10 I16 → (r_lp z J_ I16 a0 (q_mc CB b_t) (fun (s : tS) (q : Nat) => r_fp (q_mc CB c_t) (fun (s : tS) (r : Nat) => r_st3 GG a_t b_t c_t pv.toInt.toNat q r s) s n_) t36 n_ (((v15.toInt).toNat) - q_sp CB n_ b_t.toNat)) → (((q_sp CB n_ b_t.toNat : Nat) : Int) ≤ v15.toInt) → (v15.toInt ≤ ((q_sp CB n_ (b_t.toNat + 1) : Nat) : Int)) → (60 - v15.toInt) < (n : Int) → W pr_ l ev_ (headSpec wsX7_tryThree ({ frames := 3, cells := 0, slots := 0, locals := 192 })).room s m ([.ref a0, .int a, .int b, .int c] : List Value).toArray below meth cd_ H locs 0 0 (MQ below (va_Qv (fun (I1 : tI) => h_I z I1 ∧ h_F [(8, 10), (811, 999), (812, 999), (8, 9)] z I0 I1 ∧ (c_rs z J_ I1 a0 (r_thr GG CB n_ a_t b_t c_t s_))) (fun (I1 : tI) t => h_B E A z I1 L0 t) A) ([.ref a0, .int a, .int b, .int c] : List Value).toArray s 0 0 A) (F0 m 57 ls []) := by
            intro n
            induction n with
            | zero => intro I16 H locs ls v15 g hI hF hl jv15 hL57 hx57_0 hx57_1 hx57_2 hn; exact absurd hn (by omega)
            | succ n ih57 =>
              intro I16 H locs ls v15 g hI hF hl jv15 hL57 hx57_0 hx57_1 hx57_2 hn
              obtain ⟨t57, ta57, tb57⟩ := hx57_0
              refine lv_iload hx hb dX7_tryThree_57 (lv_at hl 5 rfl) ?_
              refine lv_aload_n hx hb dX7_tryThree_59 rfl (lv_at hl 0 rfl) ?_
              refine h_get (v := .ref st) hx hb hts iX7 hown g t_a0 (by decide) so_8 rfl 3 (by decide) (hts (.fieldLink RX7 22 "CapLeague$RingSearch" "start" "[I") (by decide +kernel)) rfl dX7_tryThree_60 (by show va_rf (z.R a0 3) = _; rw [rst]; rfl) ?_
              refine lv_iload_n hx hb dX7_tryThree_63 rfl (lv_at hl 2 rfl) ?_
              refine lv_iconst (v := 1) hx hb dX7_tryThree_64 (by decide) ?_
              refine lv_iadd hx hb dX7_tryThree_65 ?_
              refine lv_topi (fun v17 ev17 => ?_)
              have jv17 : v17.toInt = b_t + 1 := xi_add ev17 h_b (by decide) (by omega) (by omega)
              refine h_ald hx hb g tst (by decide) so_803 (xi_in (by omega) (by omega)) dX7_tryThree_66 ?_
              refine lv_topi (fun v18 ev18 => ?_)
              have jv18 := hI.rd st v17.toNatClampNeg tst ev18 (rfl : h_bd 803 _ = (0, 60))
              have st_v18 : v18.toInt = ((q_sp CB n_ (b_t.toNat + 1) : Nat) : Int) := by rw [← hst (b_t.toNat + 1) (by omega), ← (h_keq (i := v17) (t := v17.toInt) (k := b_t.toNat + 1) rfl (by omega) (by omega) : v17.toNatClampNeg = b_t.toNat + 1), ev18]; exact congrArg Int32.toInt ((h_F.at hL57 tst rfl).trans (h_F.at hL36 tst rfl))
              refine lv_icmp_ge (tgt := 153) hx hb dX7_tryThree_67 (by decide) (fun c19 => ?_) (fun c19 => ?_)
              · have ic19 := (xi_le c19 rfl rfl : v18.toInt ≤ v15.toInt)
                obtain ⟨v20, ev20⟩ : ∃ z : Int32, z = v9 + 1 := ⟨_, rfl⟩
                have jv20 : v20.toInt = v9.toInt + 1 := xi_add ev20 rfl (by decide) (by omega) (by omega)
                refine lv_iinc (v := v20) (lv' := [(4, .int v20), (0, .ref a0), (1, .int a), (2, .int b), (3, .int c), (5, .int v15)]) hx hb dX7_tryThree_153 hl (k := 4) rfl (by rw [ev20]; rfl) (by decide) rfl (fun ls hl => ?_)
                refine lv_goto (tgt := 36) hx hb dX7_tryThree_156 (by decide) ?_
                exact ih36 I16 _ _ _ v20 g hI hF (lv_sub hl [1, 2, 3, 4, 0] rfl) (by omega) (h_F.call (h_F.call (h_F.rf : h_F [(8, 10), (811, 999), (812, 999), (8, 9)] z I0 I0) hL36 rfl) hL57 rfl) (⟨(r_fp (q_mc CB b_t) (fun (s : tS) (q : Nat) => r_fp (q_mc CB c_t) (fun (s : tS) (r : Nat) => r_st3 GG a_t b_t c_t pv.toInt.toNat q r s) s n_) t36 n_), by rw [show ((v20.toInt).toNat - q_sp CB n_ a_t.toNat) = ((v9.toInt).toNat - q_sp CB n_ a_t.toNat) + 1 from kx_s jv20 hx36_1]; exact ta36.s hp_pv (q_mc_y hc_pv) hk_pv, by rw [← ta57.e (kx_n (by omega) (by omega))]; exact tb57⟩) (by omega) (by omega) (by omega)
              · have ic19 := (xi_nle c19 rfl rfl : v15.toInt < v18.toInt)
                obtain ⟨qv, eqv⟩ : ∃ x : Int32, x = I0 ln v15.toNatClampNeg := ⟨_, rfl⟩
                have jqv := hI0.rd ln _ tln eqv (rfl : h_bd 802 _ = (0, 59))
                have ki_qv : v15.toNatClampNeg = v15.toInt.toNat := h_keq rfl (by omega) (Int.toNat_of_nonneg (by omega))
                obtain ⟨p0, hp_qv, hP0, hk_qv⟩ := q_ct_ex (P := q_mc CB b_t) (k := v15.toInt.toNat - q_sp CB n_ b_t.toNat) (n := n_) (kx_lt hx57_1 (by omega))
                have hc_qv := q_mc_i hP0
                have l0 := hln b_t.toNat p0 (by omega) hp_qv (by rw [cb]; exact hc_qv)
                rw [cb, show q_sp CB n_ b_t.toNat + q_ct (q_mc CB b_t) p0 = v15.toInt.toNat from kx_e hk_qv hx57_1, ← ki_qv, ← eqv] at l0
                have ep0 : p0 = qv.toInt.toNat := kx_p l0
                subst ep0
                replace hk_qv : r_kq (q_ct (q_mc CB b_t) qv.toInt.toNat) (v15.toInt.toNat - q_sp CB n_ b_t.toNat) := hk_qv
                have tn_qv : ((qv.toInt.toNat : Nat) : Int) = qv.toInt := Int.toNat_of_nonneg jqv.1
                have kp_qv : qv.toNatClampNeg = qv.toInt.toNat := h_keq rfl jqv.1 tn_qv
                have hc_qv9 : (CB qv.toInt.toNat).toInt = ((b_t.toNat : Nat) : Int) := by rw [cb]; exact hc_qv
                have gp_qv := hgp b_t.toNat qv.toInt.toNat (by omega) hp_qv hc_qv9
                have ct_qv := hct b_t.toNat (by omega)
                rw [cb] at gp_qv
                obtain ⟨⟨gg_qv, gl_qv, gh_qv⟩, gt_qv⟩ := gp_qv
                refine lv_aload_n hx hb dX7_tryThree_70 rfl (lv_at hl 0 rfl) ?_
                refine h_get (v := .ref gn) hx hb hts iX7 hown g t_a0 (by decide) so_8 rfl 6 (by decide) (hts (.fieldLink RX7 33 "CapLeague$RingSearch" "gains" "[[I") (by decide +kernel)) rfl dX7_tryThree_71 (by show va_rf (z.R a0 6) = _; rw [rgn]; rfl) ?_
                refine lv_aload_n hx hb dX7_tryThree_74 rfl (lv_at hl 0 rfl) ?_
                refine h_get (v := .ref ln) hx hb hts iX7 hown g t_a0 (by decide) so_8 rfl 2 (by decide) (hts (.fieldLink RX7 18 "CapLeague$RingSearch" "line" "[I") (by decide +kernel)) rfl dX7_tryThree_75 (by show va_rf (z.R a0 2) = _; rw [rln]; rfl) ?_
                refine lv_iload hx hb dX7_tryThree_78 (lv_at hl 5 rfl) ?_
                refine h_ald hx hb g tln (by decide) so_802 (xi_in (by omega) (by omega)) dX7_tryThree_80 ?_
                refine xw_i ((h_F.at hL57 tln rfl).trans ((h_F.at hL36 tln rfl).trans (eqv.symm))) ?_
                obtain ⟨b21, rb21, tb21⟩ := hR.at gn qv.toNatClampNeg tgn (rfl : h_rs 806 _ = some (856, false)) (by rw [so_806]; exact h_lt (n := 60) (xi_in (by omega) (by omega)))
                refine h_aldA (v := .ref b21) hx hb g tgn (by decide) so_806 (xi_in (by omega) (by omega)) dX7_tryThree_81 (by rw [rb21]; rfl) ?_
                have ar_b21 : h_ad z gn qv.toInt.toNat = b21 := by rw [← kp_qv]; exact h_ad.at rb21
                refine lv_aload_n hx hb dX7_tryThree_82 rfl (lv_at hl 0 rfl) ?_
                refine h_get (v := .ref ln) hx hb hts iX7 hown g t_a0 (by decide) so_8 rfl 2 (by decide) (hts (.fieldLink RX7 18 "CapLeague$RingSearch" "line" "[I") (by decide +kernel)) rfl dX7_tryThree_83 (by show va_rf (z.R a0 2) = _; rw [rln]; rfl) ?_
                refine lv_iload hx hb dX7_tryThree_86 (lv_at hl 4 rfl) ?_
                refine h_ald hx hb g tln (by decide) so_802 (xi_in (by omega) (by omega)) dX7_tryThree_88 ?_
                refine xw_i ((h_F.at hL57 tln rfl).trans ((h_F.at hL36 tln rfl).trans (epv.symm))) ?_
                refine h_ald hx hb g tb21 (by decide) so_856 (xi_in (by omega) (by omega)) dX7_tryThree_89 ?_
                refine lv_topi (fun v22 ev22 => ?_)
                have jv22 := hI.rd b21 pv.toNatClampNeg tb21 ev22 (rfl : h_bd 856 _ = ((-2147483648), 2147483647))
                have gE_v22 := gg_qv pv.toInt.toNat hp_pv (by rw [hc_pv]; omega) (by rw [hc_pv]; omega)
                rw [show I0 (h_ad z gn qv.toInt.toNat) pv.toInt.toNat = v22 by rw [ar_b21, ← kp_pv, ev22]; exact ((h_F.at hL57 tb21 rfl).trans (h_F.at hL36 tb21 rfl)).symm] at gE_v22
                have nb_v22 : v22.toInt ≤ 9999 := by omega
                refine lv_istore (lv' := [(6, .int v22), (0, .ref a0), (1, .int a), (2, .int b), (3, .int c), (4, .int v9), (5, .int v15)]) hx hb dX7_tryThree_90 hl (by decide) rfl (fun ls hl => ?_)
                refine lv_iload hx hb dX7_tryThree_92 (lv_at hl 0 rfl) ?_
                refine lv_if_le (tgt := 147) hx hb dX7_tryThree_94 (by decide) (fun c23 => ?_) (fun c23 => ?_)
                · have ic23 := (xi_le c23 rfl (by decide) : v22.toInt ≤ 0)
                  obtain ⟨v24, ev24⟩ : ∃ z : Int32, z = v15 + 1 := ⟨_, rfl⟩
                  have jv24 : v24.toInt = v15.toInt + 1 := xi_add ev24 rfl (by decide) (by omega) (by omega)
                  refine lv_iinc (v := v24) (lv' := [(5, .int v24), (6, .int v22), (0, .ref a0), (1, .int a), (2, .int b), (3, .int c), (4, .int v9)]) hx hb dX7_tryThree_147 hl (k := 6) rfl (by rw [ev24]; rfl) (by decide) rfl (fun ls hl => ?_)
                  refine lv_goto (tgt := 57) hx hb dX7_tryThree_150 (by decide) ?_
                  exact ih57 I16 _ _ _ v24 g hI hF (lv_sub hl [2, 3, 4, 5, 6, 0] rfl) (by omega) (h_F.call (h_F.rf : h_F [(8, 10), (811, 999), (812, 999), (8, 9)] z I10 I10) hL57 rfl) (⟨(r_fp (q_mc CB c_t) (fun (s : tS) (r : Nat) => r_st3 GG a_t b_t c_t pv.toInt.toNat qv.toInt.toNat r s) t57 n_), by rw [show ((v24.toInt).toNat - q_sp CB n_ b_t.toNat) = ((v15.toInt).toNat - q_sp CB n_ b_t.toNat) + 1 from kx_s jv24 hx57_1]; exact ta57.s hp_qv (q_mc_y hc_qv) hk_qv, by rw [show (r_fp (q_mc CB c_t) (fun (s : tS) (r : Nat) => r_st3 GG a_t b_t c_t pv.toInt.toNat qv.toInt.toNat r s) t57 n_) = t57 from r_st3_no (Or.inl (by omega))]; exact tb57⟩) (by omega) (by omega) (by omega)
                · have ic23 := (xi_nle c23 rfl (by decide) : 0 < v22.toInt)
                  refine lv_iload hx hb dX7_tryThree_97 (lv_at hl 0 rfl) ?_
                  refine lv_aload_n hx hb dX7_tryThree_99 rfl (lv_at hl 1 rfl) ?_
                  refine h_get (v := .ref pt) hx hb hts iX7 hown g t_a0 (by decide) so_8 rfl 7 (by decide) (hts (.fieldLink RX7 36 "CapLeague$RingSearch" "playerTop" "[I") (by decide +kernel)) rfl dX7_tryThree_100 (by show va_rf (z.R a0 7) = _; rw [rpt]; rfl) ?_
                  refine lv_aload_n hx hb dX7_tryThree_103 rfl (lv_at hl 1 rfl) ?_
                  refine h_get (v := .ref ln) hx hb hts iX7 hown g t_a0 (by decide) so_8 rfl 2 (by decide) (hts (.fieldLink RX7 18 "CapLeague$RingSearch" "line" "[I") (by decide +kernel)) rfl dX7_tryThree_104 (by show va_rf (z.R a0 2) = _; rw [rln]; rfl) ?_
                  refine lv_iload hx hb dX7_tryThree_107 (lv_at hl 5 rfl) ?_
                  refine h_ald hx hb g tln (by decide) so_802 (xi_in (by omega) (by omega)) dX7_tryThree_109 ?_
                  refine xw_i ((h_F.at hL57 tln rfl).trans ((h_F.at hL36 tln rfl).trans (epv.symm))) ?_
                  refine h_ald hx hb g tpt (by decide) so_807 (xi_in (by omega) (by omega)) dX7_tryThree_110 ?_
                  refine lv_topi (fun v25 ev25 => ?_)
                  have jv25 := hI.rd pt pv.toNatClampNeg tpt ev25 (rfl : h_bd 807 _ = ((-2147483648), 2147483647))
                  have pE : I0 pt pv.toInt.toNat = v25 := by rw [← kp_pv, ev25]; exact ((h_F.at hL57 tpt rfl).trans (h_F.at hL36 tpt rfl)).symm
                  have pb9 : 0 ≤ v25.toInt ∧ v25.toInt ≤ 9999 := by rw [← pE]; exact ⟨gl_pv, gh_pv⟩
                  refine lv_iadd hx hb dX7_tryThree_111 ?_
                  refine lv_topi (fun v26 ev26 => ?_)
                  have jv26 : v26.toInt = v22.toInt + v25.toInt := xi_add ev26 rfl rfl (by omega) (by omega)
                  refine lv_aload_n hx hb dX7_tryThree_112 rfl (lv_at hl 1 rfl) ?_
                  refine h_get (v := .ref ct) hx hb hts iX7 hown g t_a0 (by decide) so_8 rfl 8 (by decide) (hts (.fieldLink RX7 39 "CapLeague$RingSearch" "clubTop" "[I") (by decide +kernel)) rfl dX7_tryThree_113 (by show va_rf (z.R a0 8) = _; rw [rct]; rfl) ?_
                  refine lv_iload_n hx hb dX7_tryThree_116 rfl (lv_at hl 4 rfl) ?_
                  refine h_ald hx hb g tct (by decide) so_808 (xi_in (by rw [h_c]; omega) (by rw [h_c]; omega)) dX7_tryThree_117 ?_
                  refine xw_i ((h_F.at hL57 tct rfl).trans ((h_F.at hL36 tct rfl).trans (ev4.symm))) ?_
                  refine lv_iadd hx hb dX7_tryThree_118 ?_
                  refine lv_topi (fun v27 ev27 => ?_)
                  have jv27 : v27.toInt = v26.toInt + v4.toInt := xi_add ev27 rfl rfl (by omega) (by omega)
                  refine lv_aload_n hx hb dX7_tryThree_119 rfl (lv_at hl 1 rfl) ?_
                  refine h_get (v := .int (I16 a0 9)) hx hb hts iX7 hown g t_a0 (by decide) so_8 rfl 9 (by decide) (hts (.fieldLink RX7 59 "CapLeague$RingSearch" "best" "I") (by decide +kernel)) rfl dX7_tryThree_120 rfl ?_
                  refine lv_topi (fun v28 ev28 => ?_)
                  have jv28 := hI.rd a0 9 t_a0 ev28 (rfl : h_bd 8 9 = ((-2147483648), 2147483647))
                  have bst : v28.toInt = t57.1 := by rw [ev28]; exact tb57.1
                  refine lv_icmp_le (tgt := 147) hx hb dX7_tryThree_123 (by decide) (fun c29 => ?_) (fun c29 => ?_)
                  · have ic29 := (xi_le c29 rfl rfl : v27.toInt ≤ v28.toInt)
                    obtain ⟨v30, ev30⟩ : ∃ z : Int32, z = v15 + 1 := ⟨_, rfl⟩
                    have jv30 : v30.toInt = v15.toInt + 1 := xi_add ev30 rfl (by decide) (by omega) (by omega)
                    refine lv_iinc (v := v30) (lv' := [(5, .int v30), (6, .int v22), (0, .ref a0), (1, .int a), (2, .int b), (3, .int c), (4, .int v9)]) hx hb dX7_tryThree_147 hl (k := 6) rfl (by rw [ev30]; rfl) (by decide) rfl (fun ls hl => ?_)
                    refine lv_goto (tgt := 57) hx hb dX7_tryThree_150 (by decide) ?_
                    exact ih57 I16 _ _ _ v30 g hI hF (lv_sub hl [2, 3, 4, 5, 6, 0] rfl) (by omega) (h_F.call (h_F.rf : h_F [(8, 10), (811, 999), (812, 999), (8, 9)] z I10 I10) hL57 rfl) (⟨(r_fp (q_mc CB c_t) (fun (s : tS) (r : Nat) => r_st3 GG a_t b_t c_t pv.toInt.toNat qv.toInt.toNat r s) t57 n_), by rw [show ((v30.toInt).toNat - q_sp CB n_ b_t.toNat) = ((v15.toInt).toNat - q_sp CB n_ b_t.toNat) + 1 from kx_s jv30 hx57_1]; exact ta57.s hp_qv (q_mc_y hc_qv) hk_qv, by rw [show (r_fp (q_mc CB c_t) (fun (s : tS) (r : Nat) => r_st3 GG a_t b_t c_t pv.toInt.toNat qv.toInt.toNat r s) t57 n_) = t57 from r_st3_no (Or.inr (fun r hr h3 => by have t1 := hgr0.top (c := a_t) (d := c_t) (by omega) (by omega) (by omega) hp_pv hr hc_pv h3; have t2 := hgr0.top (c := c_t) (d := b_t) (by omega) (by omega) (by omega) hr hp_qv h3 hc_qv; rw [apt, act] at t1 t2; rw [pE] at t1; rw [cE_c] at t2; omega))]; exact tb57⟩) (by omega) (by omega) (by omega)
                  · have ic29 := (xi_nle c29 rfl rfl : v28.toInt < v27.toInt)
                    refine lv_aload_n hx hb dX7_tryThree_126 rfl (lv_at hl 1 rfl) ?_
                    refine lv_iload_n hx hb dX7_tryThree_127 rfl (lv_at hl 4 rfl) ?_
                    refine lv_iload_n hx hb dX7_tryThree_128 rfl (lv_at hl 2 rfl) ?_
                    refine lv_aload_n hx hb dX7_tryThree_129 rfl (lv_at hl 1 rfl) ?_
                    refine h_get (v := .ref ln) hx hb hts iX7 hown g t_a0 (by decide) so_8 rfl 2 (by decide) (hts (.fieldLink RX7 18 "CapLeague$RingSearch" "line" "[I") (by decide +kernel)) rfl dX7_tryThree_130 (by show va_rf (z.R a0 2) = _; rw [rln]; rfl) ?_
                    refine lv_iload hx hb dX7_tryThree_133 (lv_at hl 5 rfl) ?_
                    refine h_ald hx hb g tln (by decide) so_802 (xi_in (by omega) (by omega)) dX7_tryThree_135 ?_
                    refine xw_i ((h_F.at hL57 tln rfl).trans ((h_F.at hL36 tln rfl).trans (epv.symm))) ?_
                    refine lv_iload_n hx hb dX7_tryThree_136 rfl (lv_at hl 3 rfl) ?_
                    refine lv_aload_n hx hb dX7_tryThree_137 rfl (lv_at hl 1 rfl) ?_
                    refine h_get (v := .ref ln) hx hb hts iX7 hown g t_a0 (by decide) so_8 rfl 2 (by decide) (hts (.fieldLink RX7 18 "CapLeague$RingSearch" "line" "[I") (by decide +kernel)) rfl dX7_tryThree_138 (by show va_rf (z.R a0 2) = _; rw [rln]; rfl) ?_
                    refine lv_iload hx hb dX7_tryThree_141 (lv_at hl 6 rfl) ?_
                    refine h_ald hx hb g tln (by decide) so_802 (xi_in (by omega) (by omega)) dX7_tryThree_143 ?_
                    refine xw_i ((h_F.at hL57 tln rfl).trans ((h_F.at hL36 tln rfl).trans (eqv.symm))) ?_
                    refine va_callv (va_runV (As := [.int c, .int a, .int pv, .int b, .int qv]) (rest := []) ⟨hx, hb, hml, hown, hts⟩ (tX7_tryThirdR l E X A z I16 L0 a0 t_a0 c (c_t) h_c (by omega) a (a_t) h_a (by omega) pv (pv.toInt) rfl (by omega) b (b_t) h_b (by omega) qv (qv.toInt) rfl (by omega) (J_) (n_) (CB) (GG) (t57) (hgr0.F hR t_a0 (h_F.call (h_F.call (h_F.rf : h_F [(8, 10), (811, 999), (812, 999), (8, 9)] z I0 I0) hL36 rfl) hL57 rfl) (fun _ => rfl) (fun _ => rfl) (fun _ => rfl) (fun _ => rfl) (fun _ => rfl)) (tb57) (hne) (⟨hp_pv, hc_pv⟩) (⟨hp_qv, hc_qv⟩) (by rw [← gE_v22.1]; omega)) (cwV 5 hts gX7_tryThree_X7_tryThird rfl rfl rfl (by decide +kernel) ⟨Nat.le_of_ble_eq_true rfl, Nat.le_of_ble_eq_true rfl⟩) ⟨h_blind _ _ _ _ _ _ _, h_recv g t_a0 (by decide) so_8 (q := (RX7, TX7, 13)) rfl, h_pre _ hE hk hX hA hI hR g⟩ rfl rfl hl.1 rfl (lv_room (Nat.le_of_ble_eq_true rfl)) dX7_tryThree_144 ⟨Nat.le_of_ble_eq_true rfl, Nat.le_of_ble_eq_true rfl⟩) g.2.1 (fun q _ h => h) (fun q h => h) (fun I32 t H1 locs ht hvm h31 hB hz1 hk1 hS => ?_)
                    obtain ⟨hI, fh31, h31⟩ := h31
                    replace g := h_after g hB ht hS
                    generalize H1 = H at g
                    clear hB hk1 hz1 ht hvm hS
                    have hF := hF.call fh31 rfl
                    have h31p0 := h31
                    obtain ⟨v33, ev33⟩ : ∃ z : Int32, z = v15 + 1 := ⟨_, rfl⟩
                    have jv33 : v33.toInt = v15.toInt + 1 := xi_add ev33 rfl (by decide) (by omega) (by omega)
                    refine lv_iinc (v := v33) (lv' := [(5, .int v33), (6, .int v22), (0, .ref a0), (1, .int a), (2, .int b), (3, .int c), (4, .int v9)]) hx hb dX7_tryThree_147 hl (k := 6) rfl (by rw [ev33]; rfl) (by decide) rfl (fun ls hl => ?_)
                    refine lv_goto (tgt := 57) hx hb dX7_tryThree_150 (by decide) ?_
                    exact ih57 I32 _ _ _ v33 g hI hF (lv_sub hl [2, 3, 4, 5, 6, 0] rfl) (by omega) (h_F.call (h_F.call (h_F.rf : h_F [(8, 10), (811, 999), (812, 999), (8, 9)] z I10 I10) hL57 rfl) fh31 rfl) (⟨(r_fp (q_mc CB c_t) (fun (s : tS) (r : Nat) => r_st3 GG a_t b_t c_t pv.toInt.toNat qv.toInt.toNat r s) t57 n_), by rw [show ((v33.toInt).toNat - q_sp CB n_ b_t.toNat) = ((v15.toInt).toNat - q_sp CB n_ b_t.toNat) + 1 from kx_s jv33 hx57_1]; exact ta57.s hp_qv (q_mc_y hc_qv) hk_qv, by exact h31p0⟩) (by omega) (by omega) (by omega)
          exact loop57_1 _ I10 _ _ _ v14 g hI hF (lv_sub hl [1, 2, 3, 4, 5, 0] rfl) (by omega) (h_F.rf : h_F [(8, 10), (811, 999), (812, 999), (8, 9)] z I10 I10) (⟨t36, by rw [show ((v14.toInt).toNat - q_sp CB n_ b_t.toNat) = 0 from kx_z st_v14]; exact r_at.z, tb36⟩) (by omega) (by omega) (show (60 - v14.toInt) < (((60 - v14.toInt).toNat + 1 : Nat) : Int) by omega)
    exact loop36_0 _ I0 _ _ _ v8 g hI hF (lv_sub hl [1, 2, 3, 4, 0] rfl) (by omega) (h_F.rf : h_F [(8, 10), (811, 999), (812, 999), (8, 9)] z I0 I0) (⟨s_, by rw [show ((v8.toInt).toNat - q_sp CB n_ a_t.toNat) = 0 from kx_z st_v8]; exact r_at.z, hs⟩) (by omega) (by omega) (show (60 - v8.toInt) < (((60 - v8.toInt).toNat + 1 : Nat) : Int) by omega)
  · have ic7 := (xi_nlt c7 rfl rfl : v5.toInt ≤ v6.toInt)
    have hS := g.2.1
    exact W.vret hx hb hr (fun t ht hW => ⟨⟨I0, rfl, ⟨hI, hF, (by show c_rs z J_ I0 a0 (r_thr GG CB n_ a_t b_t c_t s_); rw [show r_thr GG CB n_ a_t b_t c_t s_ = s_ from r_thr_no (fun p q r hp hq hr h1 h2 h3 => by have t1 := hgr0.top (c := a_t) (d := c_t) (by omega) (by omega) (by omega) hp hr h1 h3; have t2 := hgr0.top (c := b_t) (d := a_t) (by omega) (by omega) (by omega) hq hp h2 h1; have t3 := hgr0.top (c := c_t) (d := b_t) (by omega) (by omega) (by omega) hr hq h3 h2; rw [apt, act] at t1 t2 t3; rw [cE_a] at t1; rw [cE_b] at t2; rw [cE_c] at t3; omega)]; exact hs)⟩, h_ret g ht⟩, hS.F ht⟩) hS.2.2 dX7_tryThree_27

