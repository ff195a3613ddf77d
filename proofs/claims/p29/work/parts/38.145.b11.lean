set_option maxHeartbeats 4000000 in
set_option maxRecDepth 100000 in
theorem tX0_releaseB (l : Launch) (E : tE) (X : tX) (A : Nat → Prop) (z : tZ) (I0 : tI) (L0 : tL) (a0 : Nat) (t_a0 : z.ty a0 = 1) (p0 : Nat) (t_p0 : z.ty p0 = 7) (hsg : (I0 p0 0).toInt ≠ -1) (hsu : 0 ≤ (I0 p0 5).toInt ∧ (I0 p0 5).toInt ≤ 100) : Met l yX0_release wsX0_release ({ frames := 3, cells := 0, slots := 0, locals := 192 }) (va_Pc [.ref a0, .ref p0] (h_P E X A z I0 L0)) (va_Qi (fun r (I1 : tI) => h_I z I1 ∧ h_F [(154, 999), (7, 0), (7, 1), (7, 2), (7, 3), (7, 4), (7, 5), (7, 6)] z I0 I1 ∧ (r = q_rel (I0 a0 3).toInt.toNat (q_prt (I0 p0 0) (I0 p0 1) (I0 p0 2) (I0 p0 3) (I0 p0 4) (I0 p0 5) (I0 p0 6)) (10 - (I0 a0 3).toInt.toNat)) ∧ (∀ k : Nat, I1 (h_ad z (h_ad z a0 4) (I0 p0 0).toInt.toNat) k = q_dea (I0 a0 3).toInt.toNat 10 (q_prt (I0 p0 0) (I0 p0 1) (I0 p0 2) (I0 p0 3) (I0 p0 4) (I0 p0 5) (I0 p0 6)) (I0 (h_ad z (h_ad z a0 4) (I0 p0 0).toInt.toNat)) k) ∧ (I1 p0 0 = -1 ∧ I1 p0 5 = 0 ∧ I1 p0 6 = 0) ∧ (∀ a k : Nat, a ≠ (h_ad z (h_ad z a0 4) (I0 p0 0).toInt.toNat) → (a ≠ p0 ∨ k = 7) → I1 a k = I0 a k)) (fun (I1 : tI) t => h_B E A z I1 L0 t) A) 0 0 A := by
  refine Met.ofW (cc := cX0_release) (maxL := 5) (ret := (some .int)) (by decide) rfl ?_
  intro pr_ ev_ s m args below meth cd_ s₁ B hml hv
  obtain ⟨rfl, hE, hk, hX, hA, hK, hI, hR, hB0⟩ := hv
  have g : h_G h_so h_fk E A z I0 L0 s s.heap s.heap [] := ⟨hK, va_S.rf, hB0⟩
  have hF : h_F [(154, 999), (7, 0), (7, 1), (7, 2), (7, 3), (7, 4), (7, 5), (7, 6)] z I0 I0 := h_F.rf
  have hx := B.exec
  have hb := B.bytes
  have hr := B.returns
  have hts := atoms_spec (ws := wsX0_release) B.pre
  have hown : s.vm.findClass RX0 = some m.cls := findClass_of_methodNamed B.named
  have hlocks := B.notSynchronized
  have iX0 : ∀ w ∈ u_ws RX0 TX0 9, w ∈ wsX0_release := by decide +kernel
  have iX6 : ∀ w ∈ u_ws RX6 TX6 9, w ∈ wsX0_release := by decide +kernel
  have hl := lv_entry ([.ref a0, .ref p0]) (n := 5) (Nat.le_of_ble_eq_true rfl)
  rw [lg_entry_eq]
  generalize (lg_sl ([.ref a0, .ref p0]) ++ List.replicate (5 - (lg_sl ([.ref a0, .ref p0])).length) Slot.unset).toArray = ls at hl ⊢
  have hl : lv_has ls 5 [(0, .ref a0), (1, .ref p0)] := hl
  obtain ⟨dd, rdd, tdd⟩ := hR.at a0 4 t_a0 (rfl : h_rs 1 4 = some (104, false)) (by decide)
  have add : h_ad z a0 4 = dd := h_ad.at rdd
  obtain ⟨f0_3, ef0_3⟩ : ∃ v : Int32, v = I0 a0 3 := ⟨_, rfl⟩
  have qf0_3 : (I0 a0 3).toInt = f0_3.toInt := congrArg Int32.toInt ef0_3.symm
  have jf0_3 := hI.rd a0 3 t_a0 ef0_3 (rfl : h_bd 1 3 = (0, 9))
  have tp0 := t_p0
  obtain ⟨g_0, eg_0⟩ : ∃ v : Int32, v = I0 p0 0 := ⟨_, rfl⟩
  have qg_0 : (I0 p0 0).toInt = g_0.toInt := congrArg Int32.toInt eg_0.symm
  have jg_0 := hI.rd p0 0 tp0 eg_0 (rfl : h_bd 7 0 = ((-1), 7))
  obtain ⟨g_1, eg_1⟩ : ∃ v : Int32, v = I0 p0 1 := ⟨_, rfl⟩
  have qg_1 : (I0 p0 1).toInt = g_1.toInt := congrArg Int32.toInt eg_1.symm
  have jg_1 := hI.rd p0 1 tp0 eg_1 (rfl : h_bd 7 1 = ((-2147483648), 2147483647))
  obtain ⟨g_2, eg_2⟩ : ∃ v : Int32, v = I0 p0 2 := ⟨_, rfl⟩
  have qg_2 : (I0 p0 2).toInt = g_2.toInt := congrArg Int32.toInt eg_2.symm
  have jg_2 := hI.rd p0 2 tp0 eg_2 (rfl : h_bd 7 2 = ((-2147483648), 2147483647))
  obtain ⟨g_3, eg_3⟩ : ∃ v : Int32, v = I0 p0 3 := ⟨_, rfl⟩
  have qg_3 : (I0 p0 3).toInt = g_3.toInt := congrArg Int32.toInt eg_3.symm
  have jg_3 := hI.rd p0 3 tp0 eg_3 (rfl : h_bd 7 3 = ((-2147483648), 2147483647))
  obtain ⟨g_4, eg_4⟩ : ∃ v : Int32, v = I0 p0 4 := ⟨_, rfl⟩
  have qg_4 : (I0 p0 4).toInt = g_4.toInt := congrArg Int32.toInt eg_4.symm
  have jg_4 := hI.rd p0 4 tp0 eg_4 (rfl : h_bd 7 4 = ((-2147483648), 2147483647))
  obtain ⟨g_5, eg_5⟩ : ∃ v : Int32, v = I0 p0 5 := ⟨_, rfl⟩
  have qg_5 : (I0 p0 5).toInt = g_5.toInt := congrArg Int32.toInt eg_5.symm
  have jg_5 := hI.rd p0 5 tp0 eg_5 (rfl : h_bd 7 5 = ((-2147483648), 2147483647))
  obtain ⟨g_6, eg_6⟩ : ∃ v : Int32, v = I0 p0 6 := ⟨_, rfl⟩
  have qg_6 : (I0 p0 6).toInt = g_6.toInt := congrArg Int32.toInt eg_6.symm
  have jg_6 := hI.rd p0 6 tp0 eg_6 (rfl : h_bd 7 6 = (0, 1))
  obtain ⟨g_7, eg_7⟩ : ∃ v : Int32, v = I0 p0 7 := ⟨_, rfl⟩
  have qg_7 : (I0 p0 7).toInt = g_7.toInt := congrArg Int32.toInt eg_7.symm
  have jg_7 := hI.rd p0 7 tp0 eg_7 (rfl : h_bd 7 7 = (0, 1))
  rw [← eg_0] at hsg
  rw [← eg_5] at hsu
  have hg0 : 0 ≤ g_0.toInt ∧ g_0.toInt ≤ 7 := by omega
  obtain ⟨ro, rro, tro⟩ := hR.at dd g_0.toInt.toNat tdd (rfl : h_rs 104 _ = some (154, false)) (by rw [so_104]; show _ < 8; omega)
  have kg : g_0.toNatClampNeg = g_0.toInt.toNat := h_keq rfl (by omega) (by omega)
  obtain ⟨F, eF⟩ : ∃ f : Nat → Int32, f = (q_prt g_0 g_1 g_2 g_3 g_4 g_5 g_6) := ⟨_, rfl⟩
  refine lv_iconst (v := 0) hx hb dX0_release_0 (by decide) ?_
  refine lv_istore_n (lv' := [(2, .int 0), (0, .ref a0), (1, .ref p0)]) hx hb dX0_release_1 rfl hl (by decide) rfl (fun ls hl => ?_)
  refine lv_aload_n hx hb dX0_release_2 rfl (lv_at hl 1 rfl) ?_
  refine h_get (v := .int f0_3) hx hb hts iX0 hown g t_a0 (by decide) so_1 rfl 3 (by decide) (hts (.fieldLink RX0 37 "CapLeague$Books" "clock" "I") (by decide +kernel)) rfl dX0_release_3 (congrArg Value.int (ef0_3.symm)) ?_
  refine lv_istore_n (lv' := [(3, .int f0_3), (2, .int 0), (0, .ref a0), (1, .ref p0)]) hx hb dX0_release_6 rfl hl (by decide) rfl (fun ls hl => ?_)
  have loop7_0 : ∀ (n : Nat) (I3 : tI) (H : Heap) (locs : List Loc) (ls : Array Slot) (v1 v2 : Int32), h_G h_so h_fk E A z I3 L0 s s.heap H locs → h_I z I3 → h_F [(154, 999), (7, 0), (7, 1), (7, 2), (7, 3), (7, 4), (7, 5), (7, 6)] z I0 I3 → lv_has ls 5 [(0, .ref a0), (1, .ref p0), (2, .int v1), (3, .int v2)] → ((-2147483648) ≤ v1.toInt ∧ v1.toInt ≤ 2147483647) → (0 ≤ v2.toInt ∧ v2.toInt ≤ 10) → h_F [(154, 999)] z I0 I3 → (v1 = q_rel f0_3.toInt.toNat F ((v2.toInt).toNat - f0_3.toInt.toNat)) → (∀ k : Nat, I3 ro k = q_dea f0_3.toInt.toNat (v2.toInt).toNat F (I0 ro) k) → (∀ a k : Nat, a ≠ ro → I3 a k = I0 a k) → (f0_3.toInt ≤ v2.toInt) → (10 - v2.toInt) < (n : Int) → W pr_ l ev_ (headSpec wsX0_release ({ frames := 3, cells := 0, slots := 0, locals := 192 })).room s m ([.ref a0, .ref p0] : List Value).toArray below meth cd_ H locs 0 0 (MQ below (va_Qi (fun r (I1 : tI) => h_I z I1 ∧ h_F [(154, 999), (7, 0), (7, 1), (7, 2), (7, 3), (7, 4), (7, 5), (7, 6)] z I0 I1 ∧ (r = q_rel (I0 a0 3).toInt.toNat (q_prt (I0 p0 0) (I0 p0 1) (I0 p0 2) (I0 p0 3) (I0 p0 4) (I0 p0 5) (I0 p0 6)) (10 - (I0 a0 3).toInt.toNat)) ∧ (∀ k : Nat, I1 (h_ad z (h_ad z a0 4) (I0 p0 0).toInt.toNat) k = q_dea (I0 a0 3).toInt.toNat 10 (q_prt (I0 p0 0) (I0 p0 1) (I0 p0 2) (I0 p0 3) (I0 p0 4) (I0 p0 5) (I0 p0 6)) (I0 (h_ad z (h_ad z a0 4) (I0 p0 0).toInt.toNat)) k) ∧ (I1 p0 0 = -1 ∧ I1 p0 5 = 0 ∧ I1 p0 6 = 0) ∧ (∀ a k : Nat, a ≠ (h_ad z (h_ad z a0 4) (I0 p0 0).toInt.toNat) → (a ≠ p0 ∨ k = 7) → I1 a k = I0 a k)) (fun (I1 : tI) t => h_B E A z I1 L0 t) A) ([.ref a0, .ref p0] : List Value).toArray s 0 0 A) (F0 m 7 ls []) := by
    intro n
    induction n with
    | zero => intro I3 H locs ls v1 v2 g hI hF hl jv1 jv2 hL7 hx7_0 hx7_1 hx7_2 hx7_3 hn; exact absurd hn (by omega)
    | succ n ih7 =>
      intro I3 H locs ls v1 v2 g hI hF hl jv1 jv2 hL7 hx7_0 hx7_1 hx7_2 hx7_3 hn
      have kv : v2.toNatClampNeg = v2.toInt.toNat := h_keq rfl (by omega) (by omega)
      have eF1 : F v2.toInt.toNat = if q_und g_0 g_1 g_2 g_6 v2 then q_hun (q_pay g_0 g_1 g_2 g_3 g_4 v2) g_5.toInt else 0 := by rw [eF]; unfold q_prt; rw [q_of (by omega)]
      refine lv_iload_n hx hb dX0_release_7 rfl (lv_at hl 3 rfl) ?_
      refine lv_bipush (v := 10) hx hb dX0_release_8 (by decide) ?_
      refine lv_icmp_ge (tgt := 72) hx hb dX0_release_10 (by decide) (fun c4 => ?_) (fun c4 => ?_)
      · have ic4 := (xi_le c4 (by decide) rfl : 10 ≤ v2.toInt)
        refine lv_aload_n hx hb dX0_release_72 rfl (lv_at hl 1 rfl) ?_
        refine va_callv (va_runV (As := []) (rest := []) ⟨hx, hb, hml, hown, hts⟩ (tX6_unbindB l E X A z I3 L0 p0 t_p0) (cwV 0 hts gX0_release_X6_unbind rfl rfl rfl (by decide +kernel) ⟨Nat.le_of_ble_eq_true rfl, Nat.le_of_ble_eq_true rfl⟩) ⟨h_blind _ _ _ _ _ _ _, h_recv g t_p0 (by decide) so_7 (q := (RX6, TX6, 9)) rfl, h_pre _ hE hk hX hA hI hR g⟩ rfl rfl hl.1 rfl (lv_room (Nat.le_of_ble_eq_true rfl)) dX0_release_73 ⟨Nat.le_of_ble_eq_true rfl, Nat.le_of_ble_eq_true rfl⟩) g.2.1 (fun q _ h => h) (fun q h => h) (fun I6 t H1 locs ht hvm h5 hB hz1 hk1 hS => ?_)
        obtain ⟨hI, fh5, h5⟩ := h5
        replace g := h_after g hB ht hS
        generalize H1 = H at g
        clear hB hk1 hz1 ht hvm hS
        have hF := hF.call fh5 rfl
        obtain ⟨h5p0, h5p1⟩ := h5
        refine lv_iload_n hx hb dX0_release_76 rfl (lv_at hl 2 rfl) ?_
        have hS := g.2.1
        exact W.iret (v := v1) hx hb hr (fun t ht hW => ⟨⟨v1, I6, rfl, ⟨hI, hF, ⟨(by rw [← eg_0, ← eg_1, ← eg_2, ← eg_3, ← eg_4, ← eg_5, ← eg_6, ← ef0_3, ← eF]; have h9 := hx7_0; rw [show v2.toInt.toNat = 10 by omega] at h9; exact h9), (by rw [← eg_0, ← eg_1, ← eg_2, ← eg_3, ← eg_4, ← eg_5, ← eg_6, ← ef0_3, ← eF, add, h_ad.at rro]; intro k; have h9 := hx7_1 k; rw [show v2.toInt.toNat = 10 by omega] at h9; exact (h_F.at fh5 tro rfl).trans h9), (h5p0), (by rw [← eg_0, add, h_ad.at rro]; exact fun a k h1 h2 => (h5p1 a k h2).trans (hx7_2 a k h1))⟩⟩, h_ret g ht⟩, hS.F ht⟩) hS.2.2 dX0_release_77
      · have ic4 := (xi_nle c4 (by decide) rfl : v2.toInt < 10)
        refine lv_aload_n hx hb dX0_release_13 rfl (lv_at hl 1 rfl) ?_
        refine h_get (v := .int g_0) hx hb hts iX6 hown g t_p0 (by decide) so_7 rfl 0 (by decide) (hts (.fieldLink RX0 86 "CapLeague$Player" "club" "I") (by decide +kernel)) rfl dX0_release_14 (congrArg Value.int ((h_F.at hL7 t_p0 rfl).trans (eg_0.symm))) ?_
        refine vp_callSi (xr_of (va_runSN (As := [.int g_0]) (rest := []) ⟨hx, hb, hml, hown, hts⟩ (tX11_isClub l E X A z I3 L0 g_0 (g_0.toInt) rfl) (⟨va_cnB 1 hts gX0_release_X11_isClub_n79 rfl rfl rfl (hE.link 8 rfl) (hts (.initialized RX11) (by decide +kernel)) (by decide +kernel) ⟨Nat.le_of_ble_eq_true rfl, Nat.le_of_ble_eq_true rfl⟩, hts (.static yX11_isClub) (by decide +kernel), trivial⟩) ⟨h_blind _ _ _ _ _ _ _, h_pre _ hE hk hX hA hI hR g⟩ rfl rfl hl.1 rfl (lv_room (Nat.le_of_ble_eq_true rfl)) dX0_release_17 ⟨Nat.le_of_ble_eq_true rfl, Nat.le_of_ble_eq_true rfl⟩)) (fun rh7 h7 => ?_)
        rcases h7 with ⟨rfl, h7⟩ | ⟨rfl, h7⟩
        · skip
          refine lv_if_eq (tgt := 72) hx hb dX0_release_20 (by decide) (fun _ => ?_) (fun h => absurd (by decide) h)
          exact absurd hg0 (by omega)
        · skip
          refine lv_if_eq (tgt := 72) hx hb dX0_release_20 (by decide) (fun h => absurd h (by decide)) (fun _ => ?_)
          refine lv_aload_n hx hb dX0_release_23 rfl (lv_at hl 1 rfl) ?_
          refine lv_iload_n hx hb dX0_release_24 rfl (lv_at hl 3 rfl) ?_
          refine vp_callSi (W.runV (As := [.int v2]) (rest := []) ⟨hx, hb, hml, hown, hts⟩ (tX6_isBoundB l E X A z I3 L0 p0 t_p0 v2 (v2.toInt) rfl) (cwV 1 hts gX0_release_X6_isBoundIn rfl rfl rfl (by decide +kernel) ⟨Nat.le_of_ble_eq_true rfl, Nat.le_of_ble_eq_true rfl⟩) ⟨h_blind _ _ _ _ _ _ _, h_recv g t_p0 (by decide) so_7 (q := (RX6, TX6, 9)) rfl, h_pre _ hE hk hX hA hI hR g⟩ rfl rfl hl.1 rfl (lv_room (Nat.le_of_ble_eq_true rfl)) dX0_release_25 ⟨Nat.le_of_ble_eq_true rfl, Nat.le_of_ble_eq_true rfl⟩) (fun rh10 h10 => ?_)
          obtain ⟨h10, h10p0⟩ := h10
          rw [show I3 p0 0 = g_0 from (h_F.at hL7 tp0 rfl).trans (eg_0.symm), show I3 p0 1 = g_1 from (h_F.at hL7 tp0 rfl).trans (eg_1.symm), show I3 p0 2 = g_2 from (h_F.at hL7 tp0 rfl).trans (eg_2.symm), show I3 p0 6 = g_6 from (h_F.at hL7 tp0 rfl).trans (eg_6.symm)] at h10p0
          refine lv_if_eq (tgt := 66) hx hb dX0_release_28 (by decide) (fun c11 => ?_) (fun c11 => ?_)
          · have ic11 := (xi_eq c11 rfl (by decide) : rh10.toInt = 0)
            obtain ⟨v12, ev12⟩ : ∃ z : Int32, z = v2 + 1 := ⟨_, rfl⟩
            have jv12 : v12.toInt = v2.toInt + 1 := xi_add ev12 rfl (by decide) (by omega) (by omega)
            refine lv_iinc (v := v12) (lv' := [(3, .int v12), (0, .ref a0), (1, .ref p0), (2, .int v1)]) hx hb dX0_release_66 hl (k := 3) rfl (by rw [ev12]; rfl) (by decide) rfl (fun ls hl => ?_)
            refine lv_goto (tgt := 7) hx hb dX0_release_69 (by decide) ?_
            exact ih7 I3 _ _ _ v1 v12 g hI hF (lv_sub hl [1, 2, 3, 0] rfl) (by omega) (by omega) (h_F.call (h_F.rf : h_F [(154, 999)] z I0 I0) hL7 rfl) (q_rel_s hx7_0 (by omega) (by omega : v12.toInt.toNat = v2.toInt.toNat + 1) (by rw [eF1, if_neg (by rcases h10p0 with q | q; exact absurd q.1 (by omega); exact q.2)]; exact (Int32.add_zero _).symm)) (q_dea_s (A := I3 ro) (B := I3 ro) hx7_1 (by omega) (by omega : v12.toInt.toNat = v2.toInt.toNat + 1) (fun k _ => rfl) (by rw [eF1, if_neg (by rcases h10p0 with q | q; exact absurd q.1 (by omega); exact q.2)]; exact (Int32.add_zero _).symm)) (hx7_2) (by omega) (by omega)
          · have ic11 := (xi_ne c11 rfl (by decide) : rh10.toInt ≠ 0)
            refine lv_aload_n hx hb dX0_release_31 rfl (lv_at hl 1 rfl) ?_
            refine lv_iload_n hx hb dX0_release_32 rfl (lv_at hl 3 rfl) ?_
            refine vp_callSi (W.runV (As := [.int v2]) (rest := []) ⟨hx, hb, hml, hown, hts⟩ (tX6_payInB l E X A z I3 L0 p0 t_p0 v2 (v2.toInt) rfl) (cwV 1 hts gX0_release_X6_payIn rfl rfl rfl (by decide +kernel) ⟨Nat.le_of_ble_eq_true rfl, Nat.le_of_ble_eq_true rfl⟩) ⟨h_blind _ _ _ _ _ _ _, h_recv g t_p0 (by decide) so_7 (q := (RX6, TX6, 9)) rfl, h_pre _ hE hk hX hA hI hR g⟩ rfl rfl hl.1 rfl (lv_room (Nat.le_of_ble_eq_true rfl)) dX0_release_33 ⟨Nat.le_of_ble_eq_true rfl, Nat.le_of_ble_eq_true rfl⟩) (fun rh13 h13 => ?_)
            have h13p0 := h13
            have jrh13 : -2147483648 ≤ rh13.toInt ∧ rh13.toInt ≤ 2147483647 := ⟨xi_lo _, Int.le_of_lt_add_one (xi_hi _)⟩
            rw [show I3 p0 0 = g_0 from (h_F.at hL7 tp0 rfl).trans (eg_0.symm), show I3 p0 1 = g_1 from (h_F.at hL7 tp0 rfl).trans (eg_1.symm), show I3 p0 2 = g_2 from (h_F.at hL7 tp0 rfl).trans (eg_2.symm), show I3 p0 3 = g_3 from (h_F.at hL7 tp0 rfl).trans (eg_3.symm), show I3 p0 4 = g_4 from (h_F.at hL7 tp0 rfl).trans (eg_4.symm)] at h13p0
            have py0 : 0 ≤ rh13.toInt := by rw [h13p0]; exact q_pay_0 _ _ _ _ _ _
            refine lv_aload_n hx hb dX0_release_36 rfl (lv_at hl 1 rfl) ?_
            refine h_get (v := .int g_5) hx hb hts iX6 hown g t_p0 (by decide) so_7 rfl 5 (by decide) (hts (.fieldLink RX0 110 "CapLeague$Player" "sure" "I") (by decide +kernel)) rfl dX0_release_37 (congrArg Value.int ((h_F.at hL7 t_p0 rfl).trans (eg_5.symm))) ?_
            refine vp_callSi (xr_of (va_runSN (As := [.int rh13, .int g_5]) (rest := []) ⟨hx, hb, hml, hown, hts⟩ (tX11_hunB l E X A z I3 L0 rh13 (rh13.toInt) rfl g_5 (g_5.toInt) rfl) (⟨va_cnB 2 hts gX0_release_X11_hundredths_n75 rfl rfl rfl (hE.link 9 rfl) (hts (.initialized RX11) (by decide +kernel)) (by decide +kernel) ⟨Nat.le_of_ble_eq_true rfl, Nat.le_of_ble_eq_true rfl⟩, hts (.static yX11_hundredths) (by decide +kernel), trivial⟩) ⟨h_blind _ _ _ _ _ _ _, h_pre _ hE hk hX hA hI hR g⟩ rfl rfl hl.1 rfl (lv_room (Nat.le_of_ble_eq_true rfl)) dX0_release_40 ⟨Nat.le_of_ble_eq_true rfl, Nat.le_of_ble_eq_true rfl⟩)) (fun rh14 h14 => ?_)
            have h14p0 := h14
            have jrh14 : -2147483648 ≤ rh14.toInt ∧ rh14.toInt ≤ 2147483647 := ⟨xi_lo _, Int.le_of_lt_add_one (xi_hi _)⟩
            have hm := q_mulb py0 (show rh13.toInt ≤ 2147483647 by omega) hsu.1 hsu.2
            have hp9 := q_ofi (h14p0 py0 (by omega) (by omega))
            have ep : F v2.toInt.toNat = rh14 := by rw [eF1, if_pos (by rcases h10p0 with q | q; exact q.2; exact absurd q.1 (by omega)), ← h13p0, hp9]; rfl
            refine lv_istore (lv' := [(4, .int rh14), (0, .ref a0), (1, .ref p0), (2, .int v1), (3, .int v2)]) hx hb dX0_release_43 hl (by decide) rfl (fun ls hl => ?_)
            refine lv_aload_n hx hb dX0_release_45 rfl (lv_at hl 1 rfl) ?_
            refine h_get (v := .ref dd) hx hb hts iX0 hown g t_a0 (by decide) so_1 rfl 4 (by decide) (hts (.fieldLink RX0 19 "CapLeague$Books" "dead" "[[I") (by decide +kernel)) rfl dX0_release_46 (by show va_rf (z.R a0 4) = _; rw [rdd]; rfl) ?_
            refine lv_aload_n hx hb dX0_release_49 rfl (lv_at hl 2 rfl) ?_
            refine h_get (v := .int g_0) hx hb hts iX6 hown g t_p0 (by decide) so_7 rfl 0 (by decide) (hts (.fieldLink RX0 86 "CapLeague$Player" "club" "I") (by decide +kernel)) rfl dX0_release_50 (congrArg Value.int ((h_F.at hL7 t_p0 rfl).trans (eg_0.symm))) ?_
            obtain ⟨b15, rb15, tb15⟩ := hR.at dd g_0.toNatClampNeg tdd (rfl : h_rs 104 _ = some (154, false)) (by rw [so_104]; exact h_lt (n := 8) (xi_in (by omega) (by omega)))
            refine h_aldA (v := .ref b15) hx hb g tdd (by decide) so_104 (xi_in (by omega) (by omega)) dX0_release_53 (by rw [rb15]; rfl) ?_
            refine lv_iload_n hx hb dX0_release_54 rfl (lv_at hl 4 rfl) ?_
            refine lv_dup2_11 hx hb dX0_release_55 rfl rfl ?_
            refine h_ald hx hb g tb15 (by decide) so_154 (xi_in (by omega) (by omega)) dX0_release_56 ?_
            refine lv_topi (fun v16 ev16 => ?_)
            have jv16 := hI.rd b15 v2.toNatClampNeg tb15 ev16 (rfl : h_bd 154 _ = ((-2147483648), 2147483647))
            refine lv_iload hx hb dX0_release_57 (lv_at hl 0 rfl) ?_
            refine lv_iadd hx hb dX0_release_59 ?_
            refine lv_topi (fun v17 ev17 => ?_)
            have jv17 : -2147483648 ≤ v17.toInt ∧ v17.toInt ≤ 2147483647 := ⟨xi_lo _, Int.le_of_lt_add_one (xi_hi _)⟩
            refine h_ast hx hb g tb15 (by decide) so_154 (xi_in (by omega) (by omega)) dX0_release_60 (fun I18 H locs eI18 g => ?_)
            have hI := hI.wr eI18 tb15 (rfl : h_bd 154 _ = ((-2147483648), 2147483647)) (xi_lo _) (Int.le_of_lt_add_one (xi_hi _))
            have hF := hF.wr eI18 tb15 rfl
            have eb : b15 = ro := by rw [← kg, rb15] at rro; exact Option.some.inj rro
            refine lv_iload_n hx hb dX0_release_61 rfl (lv_at hl 3 rfl) ?_
            refine lv_iload hx hb dX0_release_62 (lv_at hl 0 rfl) ?_
            refine lv_iadd hx hb dX0_release_64 ?_
            refine lv_topi (fun v19 ev19 => ?_)
            have jv19 : -2147483648 ≤ v19.toInt ∧ v19.toInt ≤ 2147483647 := ⟨xi_lo _, Int.le_of_lt_add_one (xi_hi _)⟩
            refine lv_istore_n (lv' := [(2, .int v19), (4, .int rh14), (0, .ref a0), (1, .ref p0), (3, .int v2)]) hx hb dX0_release_65 rfl hl (by decide) rfl (fun ls hl => ?_)
            obtain ⟨v20, ev20⟩ : ∃ z : Int32, z = v2 + 1 := ⟨_, rfl⟩
            have jv20 : v20.toInt = v2.toInt + 1 := xi_add ev20 rfl (by decide) (by omega) (by omega)
            refine lv_iinc (v := v20) (lv' := [(3, .int v20), (2, .int v19), (4, .int rh14), (0, .ref a0), (1, .ref p0)]) hx hb dX0_release_66 hl (k := 4) rfl (by rw [ev20]; rfl) (by decide) rfl (fun ls hl => ?_)
            refine lv_goto (tgt := 7) hx hb dX0_release_69 (by decide) ?_
            exact ih7 I18 _ _ _ v19 v20 g hI hF (lv_sub hl [3, 4, 1, 0] rfl) (by omega) (by omega) (h_F.wr (h_F.call (h_F.rf : h_F [(154, 999)] z I0 I0) hL7 rfl) eI18 tb15 rfl) (q_rel_s hx7_0 (by omega) (by omega : v20.toInt.toNat = v2.toInt.toNat + 1) (by rw [ep]; exact ev19)) (q_dea_s (A := I3 ro) (B := I18 ro) hx7_1 (by omega) (by omega : v20.toInt.toNat = v2.toInt.toNat + 1) (fun k hk => by rw [eb, kv] at eI18; exact h_n2 eI18 hk) (by rw [ep]; rw [eb, kv] at eI18; have ex9 := ev16.symm; rw [eb, kv] at ex9; rw [ex9, ← ev17]; exact h_n0 eI18)) (fun a k ha => (h_upb eI18 (by rw [eb]; exact ha)).trans (hx7_2 a k ha)) (by omega) (by omega)
  have kc21 : (0 : Int32).toInt = 0 := by decide
  exact loop7_0 _ I0 _ _ _ (0) f0_3 g hI hF (lv_sub hl [2, 3, 1, 0] rfl) ⟨by decide, by decide⟩ (by omega) (h_F.rf : h_F [(154, 999)] z I0 I0) (by rw [Nat.sub_self]; rfl) (fun k => q_dea_0 k) (fun a k _ => rfl) (by omega) (show (10 - f0_3.toInt) < (((10 - f0_3.toInt).toNat + 1 : Nat) : Int) by omega)

