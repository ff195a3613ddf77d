set_option maxHeartbeats 4000000 in
set_option maxRecDepth 100000 in
theorem tX12_readLineF (l : Launch) (E : tE) (X : tX) (A : Nat → Prop) (z : tZ) (I0 : tI) (L0 : tL) (a0 : Nat) (t_a0 : z.ty a0 = 13) (x : Int32) (x_t : Int) (h_x : x.toInt = x_t) (u_ : Nat → Int) (hru : h_ru I0 (h_ad z a0 10) u_) (T_ : Int → Bool) (hto : h_tld x T_) (p_ : Int) (htk : h_tk (q_at (I0 (h_ad z a0 0)) (I0 a0 2).toInt) I0 a0 p_) : Met l yX12_readLine wsX12_readLine ({ frames := 8, cells := 0, slots := 0, locals := 512 }) (va_Pc [.ref a0, .int x] (h_P E X A z I0 L0)) (va_Qi (fun r (I1 : tI) => h_I z I1 ∧ h_F [(13, 5), (13, 3), (13, 4), (13, 7), (13, 6), (13, 8), (13, 9), (1310, 999)] z I0 I1 ∧ (0 ≤ r.toInt ∧ r.toInt ≤ 1) ∧ ((r.toInt = 1 ∧ (q_line (q_at (I0 (h_ad z a0 0)) (I0 a0 2).toInt) p_ T_ u_).1 = 0 ∧ h_ru I1 (h_ad z a0 10) (q_line (q_at (I0 (h_ad z a0 0)) (I0 a0 2).toInt) p_ T_ u_).2.2.2 ∧ h_tk (q_at (I0 (h_ad z a0 0)) (I0 a0 2).toInt) I1 a0 (q_line (q_at (I0 (h_ad z a0 0)) (I0 a0 2).toInt) p_ T_ u_).2.2.1 ∧ I1 a0 8 = I0 a0 8 ∧ I1 a0 9 = I0 a0 9 ∧ p_ < (q_line (q_at (I0 (h_ad z a0 0)) (I0 a0 2).toInt) p_ T_ u_).2.2.1) ∨ (r.toInt = 0 ∧ (q_line (q_at (I0 (h_ad z a0 0)) (I0 a0 2).toInt) p_ T_ u_).1 ≠ 0 ∧ (I1 a0 8).toInt = (q_line (q_at (I0 (h_ad z a0 0)) (I0 a0 2).toInt) p_ T_ u_).1 ∧ (I1 a0 9).toInt = (q_line (q_at (I0 (h_ad z a0 0)) (I0 a0 2).toInt) p_ T_ u_).2.1)) ∧ (∀ k : Nat, (k < 160 ∨ 176 ≤ k) → I1 (h_ad z a0 10) k = I0 (h_ad z a0 10) k)) (fun (I1 : tI) t => h_B E A z I1 L0 t) A) 0 0 A := by
  refine Met.ofW (cc := cX12_readLine) (maxL := 5) (ret := (some .boolean)) (by decide) rfl ?_
  intro pr_ ev_ s m args below meth cd_ s₁ B hml hv
  obtain ⟨rfl, hE, hk, hX, hA, hK, hI, hR, hB0⟩ := hv
  have g : h_G h_so h_fk E A z I0 L0 s s.heap s.heap [] := ⟨hK, va_S.rf, hB0⟩
  have hF : h_F [(13, 5), (13, 3), (13, 4), (13, 7), (13, 6), (13, 8), (13, 9), (1310, 999)] z I0 I0 := h_F.rf
  have hx := B.exec
  have hb := B.bytes
  have hr := B.returns
  have hts := atoms_spec (ws := wsX12_readLine) B.pre
  have hown : s.vm.findClass RX12 = some m.cls := findClass_of_methodNamed B.named
  have hlocks := B.notSynchronized
  have iX12 : ∀ w ∈ u_ws RX12 TX12 51, w ∈ wsX12_readLine := by decide +kernel
  have hl := lv_entry ([.ref a0, .int x]) (n := 5) (Nat.le_of_ble_eq_true rfl)
  rw [lg_entry_eq]
  generalize (lg_sl ([.ref a0, .int x]) ++ List.replicate (5 - (lg_sl ([.ref a0, .int x])).length) Slot.unset).toArray = ls at hl ⊢
  have hl : lv_has ls 5 [(0, .ref a0), (1, .int x)] := hl
  have b_x : -2147483648 ≤ x_t ∧ x_t ≤ 2147483647 := h_x ▸ ⟨xi_lo x, Int.le_of_lt_add_one (xi_hi x)⟩
  obtain ⟨bt, rbt, tbt⟩ := hR.at a0 0 t_a0 (rfl : h_rs 13 0 = some (1300, false)) (by decide)
  have abt : h_ad z a0 0 = bt := h_ad.at rbt
  obtain ⟨lw, rlw, tlw⟩ := hR.at a0 10 t_a0 (rfl : h_rs 13 10 = some (1310, false)) (by decide)
  have alw : h_ad z a0 10 = lw := h_ad.at rlw
  obtain ⟨n_2, en_2⟩ : ∃ v : Int32, v = I0 a0 2 := ⟨_, rfl⟩
  have qn_2 : (I0 a0 2).toInt = n_2.toInt := congrArg Int32.toInt en_2.symm
  have jn_2 := hI.rd a0 2 t_a0 en_2 (rfl : h_bd 13 2 = (0, 500))
  obtain ⟨gb, egb⟩ : ∃ g : Int → Int, g = q_at (I0 bt) (I0 a0 2).toInt := ⟨_, rfl⟩
  rw [abt, ← egb] at htk
  rw [alw] at hru
  have htc := htk
  have hrv := hru.rv
  have h168 : (I0 lw 168).toInt = u_ 8 := hru 8 (by decide)
  have hf : I0 a0 8 = I0 a0 8 ∧ I0 a0 9 = I0 a0 9 := ⟨rfl, rfl⟩
  have hrw : ∀ k : Nat, (k < 160 ∨ 176 ≤ k) → I0 lw k = I0 lw k := fun _ _ => rfl
  refine lv_aload_n hx hb dX12_readLine_0 rfl (lv_at hl 0 rfl) ?_
  refine h_get (v := .int (I0 a0 3)) hx hb hts iX12 hown g t_a0 (by decide) so_13 rfl 3 (by decide) (hts (.fieldLink RX12 146 "CapLeagueModel" "sort" "I") (by decide +kernel)) rfl dX12_readLine_1 rfl ?_
  refine lv_topi (fun v1 ev1 => ?_)
  have jv1 := hI.rd a0 3 t_a0 ev1 (rfl : h_bd 13 3 = ((-2147483648), 2147483647))
  have hu := htc
  unfold h_tk h_sc at hu
  rw [← ev1] at hu
  refine lv_iconst (v := 1) hx hb dX12_readLine_4 (by decide) ?_
  refine lv_icmp_eq (tgt := 14) hx hb dX12_readLine_5 (by decide) (fun c2 => ?_) (fun c2 => ?_)
  · have ic2 := (xi_eq c2 rfl (by decide) : v1.toInt = 1)
    refine lv_aload_n hx hb dX12_readLine_14 rfl (lv_at hl 0 rfl) ?_
    refine h_get (v := .int (I0 a0 4)) hx hb hts iX12 hown g t_a0 (by decide) so_13 rfl 4 (by decide) (hts (.fieldLink RX12 157 "CapLeagueModel" "what" "I") (by decide +kernel)) rfl dX12_readLine_15 rfl ?_
    refine lv_topi (fun v3 ev3 => ?_)
    have jv3 := hI.rd a0 4 t_a0 ev3 (rfl : h_bd 13 4 = ((-1), 60))
    rw [← ev3] at hu
    have w07 : 0 ≤ v3.toInt ∧ v3.toInt ≤ 7 ∧ v3.toInt = q_w gb p_ ∧ q_k gb p_ = 1 := by omega
    refine lv_istore_n (lv' := [(2, .int v3), (0, .ref a0), (1, .int x)]) hx hb dX12_readLine_18 rfl hl (by decide) rfl (fun ls hl => ?_)
    refine lv_iload_n hx hb dX12_readLine_19 rfl (lv_at hl 2 rfl) ?_
    refine lv_iload_n hx hb dX12_readLine_20 rfl (lv_at hl 0 rfl) ?_
    refine lv_ishr hx hb dX12_readLine_21 ?_
    refine lv_topi (fun v4 ev4 => ?_)
    have jv4 : -2147483648 ≤ v4.toInt ∧ v4.toInt ≤ 2147483647 := ⟨xi_lo _, Int.le_of_lt_add_one (xi_hi _)⟩
    refine lv_iconst (v := 1) hx hb dX12_readLine_22 (by decide) ?_
    refine lv_iand hx hb dX12_readLine_23 ?_
    refine lv_topi (fun v5 ev5 => ?_)
    have jv5 : -2147483648 ≤ v5.toInt ∧ v5.toInt ≤ 2147483647 := ⟨xi_lo _, Int.le_of_lt_add_one (xi_hi _)⟩
    have tg := hto.get (w := v3.toInt) w07.1 w07.2.1 rfl ev4 ev5
    refine lv_iconst (v := 1) hx hb dX12_readLine_24 (by decide) ?_
    refine lv_icmp_ne (tgt := 34) hx hb dX12_readLine_25 (by decide) (fun c6 => ?_) (fun c6 => ?_)
    · have ic6 := (xi_ne c6 rfl (by decide) : v5.toInt ≠ 1)
      have tf : T_ v3.toInt = false := by rcases tg with q | q; exact absurd q.1 (by omega); exact q.2
      have hFo := hF
      refine lv_aload_n hx hb dX12_readLine_34 rfl (lv_at hl 1 rfl) ?_
      refine va_callv (va_runV (As := []) (rest := []) ⟨hx, hb, hml, hown, hts⟩ (tX12_scanF l E X A z I0 L0 a0 t_a0) (cwV 0 hts gX12_readLine_X12_scan rfl rfl rfl (by decide +kernel) ⟨Nat.le_of_ble_eq_true rfl, Nat.le_of_ble_eq_true rfl⟩) ⟨h_blind _ _ _ _ _ _ _, h_recv g t_a0 (by decide) so_13 (q := (RX12, TX12, 51)) rfl, h_pre _ hE hk hX hA hI hR g⟩ rfl rfl hl.1 rfl (lv_room (Nat.le_of_ble_eq_true rfl)) dX12_readLine_35 ⟨Nat.le_of_ble_eq_true rfl, Nat.le_of_ble_eq_true rfl⟩) g.2.1 (fun q _ h => h) (fun q h => h) (fun I8 t H1 locs ht hvm h7 hB hz1 hk1 hS => ?_)
      obtain ⟨hI, fh7, h7⟩ := h7
      replace g := h_after g hB ht hS
      generalize H1 = H at g
      clear hB hk1 hz1 ht hvm hS
      have hF := hF.call fh7 rfl
      have h7p0 := h7
      have h168 : (I8 lw 168).toInt = (u_ 8) := by rw [fh7.at tlw rfl]; exact h168
      have hrv : h_rv I8 lw u_ := hrv.c (fun k _ => fh7.at tlw rfl)
      have hf : I8 a0 8 = I0 a0 8 ∧ I8 a0 9 = I0 a0 9 := ⟨(fh7.at t_a0 rfl).trans hf.1, (fh7.at t_a0 rfl).trans hf.2⟩
      have hrw : ∀ k : Nat, (k < 160 ∨ 176 ≤ k) → I8 lw k = I0 lw k := fun k hk => (fh7.at tlw rfl).trans (hrw k hk)
      rw [abt, ← egb, htc.2.1] at h7p0
      have htc : h_tk gb I8 a0 (q_e gb p_) := h7p0
      have hv := htc
      unfold h_tk at hv
      refine lv_iload_n hx hb dX12_readLine_38 rfl (lv_at hl 0 rfl) ?_
      refine lv_iconst (v := 4) hx hb dX12_readLine_39 (by decide) ?_
      refine lv_icmp_ge (tgt := 66) hx hb dX12_readLine_40 (by decide) (fun c9 => ?_) (fun c9 => ?_)
      · have ic9 := (xi_le c9 (by decide) rfl : 4 ≤ v3.toInt)
        refine lv_iload_n hx hb dX12_readLine_66 rfl (lv_at hl 0 rfl) ?_
        refine lv_iconst (v := 4) hx hb dX12_readLine_67 (by decide) ?_
        refine lv_icmp_ne (tgt := 106) hx hb dX12_readLine_68 (by decide) (fun c10 => ?_) (fun c10 => ?_)
        · have ic10 := (xi_ne c10 rfl (by decide) : v3.toInt ≠ 4)
          refine lv_iload_n hx hb dX12_readLine_106 rfl (lv_at hl 0 rfl) ?_
          refine lv_bipush (v := 7) hx hb dX12_readLine_107 (by decide) ?_
          refine lv_icmp_ge (tgt := 130) hx hb dX12_readLine_109 (by decide) (fun c11 => ?_) (fun c11 => ?_)
          · have ic11 := (xi_le c11 (by decide) rfl : 7 ≤ v3.toInt)
            have eq7 : q_line gb p_ T_ u_ = q_lt gb 6 0 (q_e gb p_) u_ := q_line_l w07.2.2.2 (by omega) (by rw [← w07.2.2.1]; exact tf)
            refine lv_aload_n hx hb dX12_readLine_130 rfl (lv_at hl 1 rfl) ?_
            refine h_get (v := .ref lw) hx hb hts iX12 hown g t_a0 (by decide) so_13 rfl 10 (by decide) (hts (.fieldLink RX12 17 "CapLeagueModel" "laws" "[I") (by decide +kernel)) rfl dX12_readLine_131 (by show va_rf (z.R a0 10) = _; rw [rlw]; rfl) ?_
            refine lv_sipush (v := 168) hx hb dX12_readLine_134 (by decide) ?_
            refine lv_iconst (v := 0) hx hb dX12_readLine_137 (by decide) ?_
            refine h_ast hx hb g tlw (by decide) so_1310 (by unfold vp_in; decide) dX12_readLine_138 (fun I12 H locs eI12 g => ?_)
            have hI := h_lww hI eI12 tlw (k := 168) (by decide) (by omega) (by rw [show (0 : Int32).toInt = 0 by decide]; omega) (by rw [show (0 : Int32).toInt = 0 by decide]; omega)
            have hF := hF.wr eI12 tlw rfl
            have h168 : (I12 lw 168).toInt = 0 := by rw [show I12 lw 168 = 0 from h_n0 eI12]; decide
            have hrv : h_rv I12 lw u_ := hrv.c (fun k hk => h_n2 eI12 hk)
            have hf : I12 a0 8 = I0 a0 8 ∧ I12 a0 9 = I0 a0 9 := ⟨(h_n1 eI12 t_a0 tlw (by decide)).trans hf.1, (h_n1 eI12 t_a0 tlw (by decide)).trans hf.2⟩
            have hrw : ∀ k : Nat, (k < 160 ∨ 176 ≤ k) → I12 lw k = I0 lw k := fun k hk => (h_n2 eI12 (show k ≠ 168 by omega)).trans (hrw k hk)
            have htc : h_tk gb I12 a0 (q_e gb p_) := htc.c (h_n1 eI12 t_a0 tlw (by decide)) (h_n1 eI12 t_a0 tlw (by decide)) (h_n1 eI12 t_a0 tlw (by decide)) (h_n1 eI12 t_a0 tlw (by decide)) (h_n1 eI12 t_a0 tlw (by decide))
            have loop139_0 : ∀ (n : Nat) (I13 : tI) (H : Heap) (locs : List Loc) (ls : Array Slot) (N14 : Int) (u15 : Nat → Int) (P16 : Int), h_G h_so h_fk E A z I13 L0 s s.heap H locs → h_I z I13 → h_F [(13, 5), (13, 3), (13, 4), (13, 7), (13, 6), (13, 8), (13, 9), (1310, 999)] z I0 I13 → lv_has ls 5 [(0, .ref a0)] → (q_line gb p_ T_ u_ = q_lt gb (6 - N14).toNat (N14).toNat P16 u15) → (0 ≤ N14 ∧ N14 ≤ 6) → (N14 = 0 ∨ u15 8 = N14) → (N14 = 0 ∨ (I13 a0 3).toInt = 2) → (p_ < P16 ∧ P16 ≤ 500) → ((I13 lw 168).toInt = N14) → (h_rv I13 lw u15) → (I13 a0 8 = I0 a0 8 ∧ I13 a0 9 = I0 a0 9) → (∀ k : Nat, (k < 160 ∨ 176 ≤ k) → I13 lw k = I0 lw k) → (h_tk gb I13 a0 P16) → (501 - P16) < (n : Int) → W pr_ l ev_ (headSpec wsX12_readLine ({ frames := 8, cells := 0, slots := 0, locals := 512 })).room s m ([.ref a0, .int x] : List Value).toArray below meth cd_ H locs 0 0 (MQ below (va_Qi (fun r (I1 : tI) => h_I z I1 ∧ h_F [(13, 5), (13, 3), (13, 4), (13, 7), (13, 6), (13, 8), (13, 9), (1310, 999)] z I0 I1 ∧ (0 ≤ r.toInt ∧ r.toInt ≤ 1) ∧ ((r.toInt = 1 ∧ (q_line (q_at (I0 (h_ad z a0 0)) (I0 a0 2).toInt) p_ T_ u_).1 = 0 ∧ h_ru I1 (h_ad z a0 10) (q_line (q_at (I0 (h_ad z a0 0)) (I0 a0 2).toInt) p_ T_ u_).2.2.2 ∧ h_tk (q_at (I0 (h_ad z a0 0)) (I0 a0 2).toInt) I1 a0 (q_line (q_at (I0 (h_ad z a0 0)) (I0 a0 2).toInt) p_ T_ u_).2.2.1 ∧ I1 a0 8 = I0 a0 8 ∧ I1 a0 9 = I0 a0 9 ∧ p_ < (q_line (q_at (I0 (h_ad z a0 0)) (I0 a0 2).toInt) p_ T_ u_).2.2.1) ∨ (r.toInt = 0 ∧ (q_line (q_at (I0 (h_ad z a0 0)) (I0 a0 2).toInt) p_ T_ u_).1 ≠ 0 ∧ (I1 a0 8).toInt = (q_line (q_at (I0 (h_ad z a0 0)) (I0 a0 2).toInt) p_ T_ u_).1 ∧ (I1 a0 9).toInt = (q_line (q_at (I0 (h_ad z a0 0)) (I0 a0 2).toInt) p_ T_ u_).2.1)) ∧ (∀ k : Nat, (k < 160 ∨ 176 ≤ k) → I1 (h_ad z a0 10) k = I0 (h_ad z a0 10) k)) (fun (I1 : tI) t => h_B E A z I1 L0 t) A) ([.ref a0, .int x] : List Value).toArray s 0 0 A) (F0 m 139 ls []) := by
              intro n
              induction n with
              | zero => intro I13 H locs ls N14 u15 P16 g hI hF hl hx139_0 hx139_1 hx139_2 hx139_3 hx139_4 h168 hrv hf hrw htc hn; exact absurd hn (by omega)
              | succ n ih139 =>
                intro I13 H locs ls N14 u15 P16 g hI hF hl hx139_0 hx139_1 hx139_2 hx139_3 hx139_4 h168 hrv hf hrw htc hn
                refine lv_aload_n hx hb dX12_readLine_139 rfl (lv_at hl 0 rfl) ?_
                refine h_get (v := .ref lw) hx hb hts iX12 hown g t_a0 (by decide) so_13 rfl 10 (by decide) (hts (.fieldLink RX12 17 "CapLeagueModel" "laws" "[I") (by decide +kernel)) rfl dX12_readLine_140 (by show va_rf (z.R a0 10) = _; rw [rlw]; rfl) ?_
                refine lv_sipush (v := 168) hx hb dX12_readLine_143 (by decide) ?_
                refine h_ald hx hb g tlw (by decide) so_1310 (by unfold vp_in; decide) dX12_readLine_146 ?_
                refine lv_topi (fun v17 ev17 => ?_)
                have kv17 := h_lwr hI tlw (k := 168) (by decide) ev17 (by omega)
                have jv17 : -2147483648 ≤ v17.toInt ∧ v17.toInt ≤ 2147483647 := ⟨xi_lo _, Int.le_of_lt_add_one (xi_hi _)⟩
                have mv17 : 0 ≤ v17.toInt ∧ v17.toInt ≤ 7 := by omega
                have n168 : v17.toInt = N14 := by rw [ev17]; exact h168
                have hFo := hF
                rw [← n168] at hx139_0 hx139_1 hx139_2 hx139_3
                refine lv_istore (lv' := [(4, .int v17), (0, .ref a0)]) hx hb dX12_readLine_147 hl (by decide) rfl (fun ls hl => ?_)
                refine lv_aload_n hx hb dX12_readLine_149 rfl (lv_at hl 1 rfl) ?_
                refine h_get (v := .int (I13 a0 3)) hx hb hts iX12 hown g t_a0 (by decide) so_13 rfl 3 (by decide) (hts (.fieldLink RX12 146 "CapLeagueModel" "sort" "I") (by decide +kernel)) rfl dX12_readLine_150 rfl ?_
                refine lv_topi (fun v18 ev18 => ?_)
                have jv18 := hI.rd a0 3 t_a0 ev18 (rfl : h_bd 13 3 = ((-2147483648), 2147483647))
                have hu := htc
                unfold h_tk h_sc at hu
                rw [← ev18] at hu
                rw [← ev18] at hx139_3
                refine lv_iconst (v := 2) hx hb dX12_readLine_153 (by decide) ?_
                refine lv_icmp_ne (tgt := 170) hx hb dX12_readLine_154 (by decide) (fun c19 => ?_) (fun c19 => ?_)
                · have ic19 := (xi_ne c19 rfl (by decide) : v18.toInt ≠ 2)
                  refine lv_aload_n hx hb dX12_readLine_170 rfl (lv_at hl 1 rfl) ?_
                  refine lv_bipush (v := 9) hx hb dX12_readLine_171 (by decide) ?_
                  refine lv_iload hx hb dX12_readLine_173 (lv_at hl 0 rfl) ?_
                  refine lv_iadd hx hb dX12_readLine_175 ?_
                  refine lv_topi (fun v20 ev20 => ?_)
                  have jv20 : v20.toInt = 9 + v17.toInt := xi_add ev20 (by decide) rfl (by omega) (by omega)
                  refine lv_iconst (v := 1) hx hb dX12_readLine_176 (by decide) ?_
                  refine lv_bipush (v := 20) hx hb dX12_readLine_177 (by decide) ?_
                  refine va_calli (va_runV (As := [.int v20, .int 1, .int 20]) (rest := []) ⟨hx, hb, hml, hown, hts⟩ (tX12_numberF9 l E X A z I13 L0 a0 t_a0 v20 (v20.toInt) rfl (by omega) 1 (1) (by decide) (by omega) 20 (20) (by decide) (by omega) (P16) (by rw [abt, show I13 bt = I0 bt from funext (fun k => hF.at tbt rfl), show I13 a0 2 = I0 a0 2 from hF.at t_a0 rfl, ← egb]; exact htc)) (cwV 3 hts gX12_readLine_X12_number rfl rfl rfl (by decide +kernel) ⟨Nat.le_of_ble_eq_true rfl, Nat.le_of_ble_eq_true rfl⟩) ⟨h_blind _ _ _ _ _ _ _, h_recv g t_a0 (by decide) so_13 (q := (RX12, TX12, 51)) rfl, h_pre _ hE hk hX hA hI hR g⟩ rfl rfl hl.1 rfl (lv_room (Nat.le_of_ble_eq_true rfl)) dX12_readLine_179 ⟨Nat.le_of_ble_eq_true rfl, Nat.le_of_ble_eq_true rfl⟩) g.2.1 (fun q _ h => h) (fun q h => h) (fun rh21 I22 t H1 locs ht hvm h21 hB hz1 hk1 hS => ?_)
                  obtain ⟨hI, fh21, h21⟩ := h21
                  replace g := h_after g hB ht hS
                  generalize H1 = H at g
                  clear hB hk1 hz1 ht hvm hS
                  have hF := hF.call fh21 rfl
                  obtain ⟨h21, h21p0, h21p1⟩ := h21
                  rw [alw] at h21p1
                  have h168 : (I22 lw 168).toInt = N14 := by rw [h21p1 168 (by omega)]; exact h168
                  have hrw : ∀ k : Nat, (k < 160 ∨ 176 ≤ k) → I22 lw k = I0 lw k := fun k hk => (h21p1 k (by omega)).trans (hrw k hk)
                  rw [abt, show I13 bt = I0 bt from funext (fun k => hFo.at tbt rfl), show I13 a0 2 = I0 a0 2 from hFo.at t_a0 rfl, ← egb, alw] at h21p0
                  refine lv_istore_n (lv' := [(3, .int rh21), (4, .int v17), (0, .ref a0)]) hx hb dX12_readLine_182 rfl hl (by decide) rfl (fun ls hl => ?_)
                  refine lv_aload_n hx hb dX12_readLine_183 rfl (lv_at hl 2 rfl) ?_
                  refine h_get (v := .ref lw) hx hb hts iX12 hown g t_a0 (by decide) so_13 rfl 10 (by decide) (hts (.fieldLink RX12 17 "CapLeagueModel" "laws" "[I") (by decide +kernel)) rfl dX12_readLine_184 (by show va_rf (z.R a0 10) = _; rw [rlw]; rfl) ?_
                  refine lv_sipush (v := 168) hx hb dX12_readLine_187 (by decide) ?_
                  refine lv_iload hx hb dX12_readLine_190 (lv_at hl 1 rfl) ?_
                  refine lv_iconst (v := 1) hx hb dX12_readLine_192 (by decide) ?_
                  refine lv_iadd hx hb dX12_readLine_193 ?_
                  refine lv_topi (fun v23 ev23 => ?_)
                  have jv23 : v23.toInt = v17.toInt + 1 := xi_add ev23 rfl (by decide) (by omega) (by omega)
                  refine h_ast hx hb g tlw (by decide) so_1310 (by unfold vp_in; decide) dX12_readLine_194 (fun I24 H locs eI24 g => ?_)
                  have hI := h_lww hI eI24 tlw (k := 168) (by decide) (by omega) (by omega) (by omega)
                  have hF := hF.wr eI24 tlw rfl
                  have h168 : (I24 lw 168).toInt = v23.toInt := by rw [show I24 lw 168 = v23 from h_n0 eI24]
                  have hrw : ∀ k : Nat, (k < 160 ∨ 176 ≤ k) → I24 lw k = I0 lw k := fun k hk => (h_n2 eI24 (show k ≠ 168 by omega)).trans (hrw k hk)
                  refine lv_iload_n hx hb dX12_readLine_195 rfl (lv_at hl 0 rfl) ?_
                  refine lv_if_eq (tgt := 207) hx hb dX12_readLine_196 (by decide) (fun c25 => ?_) (fun c25 => ?_)
                  · have ic25 := (xi_eq c25 rfl (by decide) : rh21.toInt = 0)
                    refine lv_iload_n hx hb dX12_readLine_207 rfl (lv_at hl 0 rfl) ?_
                    refine lv_if_ne (tgt := 213) hx hb dX12_readLine_208 (by decide) (fun h => absurd (xi_ne h rfl (by decide) : rh21.toInt ≠ 0) (by omega)) (fun c26 => ?_)
                    have ic26 := (xi_eq c26 rfl (by decide) : rh21.toInt = 0)
                    have nf : (q_k gb P16 ≠ 2 ∧ (I22 a0 8).toInt = 1 ∧ (I22 a0 9).toInt = q_a gb P16) ∨ (q_k gb P16 = 2 ∧ (q_v gb P16 < 1 ∨ 20 < q_v gb P16) ∧ (I22 a0 8).toInt = 2 ∧ (I22 a0 9).toInt = q_a gb P16) := by rcases h21p0 with q | q | q; exact absurd q.1 (by omega); exact Or.inl q.2; exact Or.inr q.2
                    refine lv_iconst (v := 0) hx hb dX12_readLine_211 (by decide) ?_
                    have hS := g.2.1
                    exact W.zret (v := 0) hx hb hr (by decide) (fun t ht hW => ⟨⟨0, I24, rfl, ⟨hI, hF, ⟨⟨(by decide), (by decide)⟩, (by rw [abt, ← egb, alw]; rw [show I24 a0 8 = I22 a0 8 from h_n1 eI24 t_a0 tlw (by decide), show I24 a0 9 = I22 a0 9 from h_n1 eI24 t_a0 tlw (by decide)]; rcases nf with ⟨n1, n2, n3⟩ | ⟨n1, n2, n3, n4⟩; have R : q_line gb p_ T_ u_ = (1, q_a gb P16, P16, u15) := hx139_0.trans (q_lt_f1 (by omega) (by omega) (by omega) (by omega)); rw [R]; exact Or.inr ⟨by decide, (by show (1 : Int) ≠ 0; decide), n2, n3⟩; have R : q_line gb p_ T_ u_ = (2, q_a gb P16, P16, u15) := hx139_0.trans (q_lt_f2 (by omega) (by omega) (by omega) (by omega)); rw [R]; exact Or.inr ⟨by decide, (by show (2 : Int) ≠ 0; decide), n3, n4⟩), (by rw [alw]; exact hrw)⟩⟩, h_ret g ht⟩, hS.F ht⟩) hS.2.2 dX12_readLine_212
                  · have ic25 := (xi_ne c25 rfl (by decide) : rh21.toInt ≠ 0)
                    obtain ⟨n2, n3, n4, n5, n6, n7, n8⟩ : q_k gb P16 = 2 ∧ 1 ≤ q_v gb P16 ∧ q_v gb P16 ≤ 20 ∧ (I22 lw (160 + v20.toInt).toNat).toInt = q_v gb P16 ∧ h_tk gb I22 a0 (q_e gb P16) ∧ I22 a0 8 = I13 a0 8 ∧ I22 a0 9 = I13 a0 9 := by rcases h21p0 with q | q | q; exact q.2; exact absurd q.1 (by omega); exact absurd q.1 (by omega)
                    have hf : I22 a0 8 = I0 a0 8 ∧ I22 a0 9 = I0 a0 9 := ⟨n7.trans hf.1, n8.trans hf.2⟩
                    have htc := n6
                    have hw := n6
                    unfold h_tk at hw
                    have hrv : h_rv I22 lw (q_up u15 (v20.toInt).toNat (q_v gb P16)) := hrv.put (by omega) n5 h21p1
                    have hf : I24 a0 8 = I0 a0 8 ∧ I24 a0 9 = I0 a0 9 := ⟨(h_n1 eI24 t_a0 tlw (by decide)).trans hf.1, (h_n1 eI24 t_a0 tlw (by decide)).trans hf.2⟩
                    have htc : h_tk gb I24 a0 (q_e gb P16) := htc.c (h_n1 eI24 t_a0 tlw (by decide)) (h_n1 eI24 t_a0 tlw (by decide)) (h_n1 eI24 t_a0 tlw (by decide)) (h_n1 eI24 t_a0 tlw (by decide)) (h_n1 eI24 t_a0 tlw (by decide))
                    have hrv : h_rv I24 lw (q_up u15 (v20.toInt).toNat (q_v gb P16)) := hrv.c (fun k hk => h_n2 eI24 hk)
                    rw [show (v20.toInt).toNat = 9 + (v17.toInt).toNat by omega] at hrv
                    have hrv := hrv.up8 (v := (((v17.toInt).toNat : Nat) : Int) + 1)
                    have eqL := hx139_0.trans (q_lt_ok (i := v17.toInt) (i1 := v23.toInt) (by omega) (by omega) (by omega) n2 rfl (by omega) (by omega) rfl)
                    refine lv_aload_n hx hb dX12_readLine_199 rfl (lv_at hl 2 rfl) ?_
                    refine h_get (v := .int (I24 a0 3)) hx hb hts iX12 hown g t_a0 (by decide) so_13 rfl 3 (by decide) (hts (.fieldLink RX12 146 "CapLeagueModel" "sort" "I") (by decide +kernel)) rfl dX12_readLine_200 rfl ?_
                    refine lv_topi (fun v27 ev27 => ?_)
                    have jv27 := hI.rd a0 3 t_a0 ev27 (rfl : h_bd 13 3 = ((-2147483648), 2147483647))
                    have hu := htc
                    unfold h_tk h_sc at hu
                    rw [← ev27] at hu
                    refine lv_iconst (v := 2) hx hb dX12_readLine_203 (by decide) ?_
                    refine lv_icmp_eq (tgt := 139) hx hb dX12_readLine_204 (by decide) (fun c28 => ?_) (fun c28 => ?_)
                    · have ic28 := (xi_eq c28 rfl (by decide) : v27.toInt = 2)
                      exact ih139 I24 _ _ _ (v23.toInt) ((q_up (q_up u15 (9 + (v17.toInt).toNat) (q_v gb P16)) 8 ((((v17.toInt).toNat : Nat) : Int) + 1))) ((q_e gb P16)) g hI hF (lv_sub hl [2] rfl) (eqL) (by omega) (Or.inr (by rw [q_up_eq]; omega)) (Or.inr (by rw [show I24 a0 3 = v27 from ev27.symm]; omega)) (by have hq := htc; unfold h_tk at hq; omega) h168 hrv hf hrw htc (by omega)
                    · have ic28 := (xi_ne c28 rfl (by decide) : v27.toInt ≠ 2)
                      refine lv_iload_n hx hb dX12_readLine_207 rfl (lv_at hl 0 rfl) ?_
                      refine lv_if_ne (tgt := 213) hx hb dX12_readLine_208 (by decide) (fun c29 => ?_) (fun h => absurd (xi_eq h rfl (by decide) : rh21.toInt = 0) (by omega))
                      have ic29 := (xi_ne c29 rfl (by decide) : rh21.toInt ≠ 0)
                      have hFo := hF
                      refine lv_aload_n hx hb dX12_readLine_213 rfl (lv_at hl 2 rfl) ?_
                      refine h_get (v := .int v27) hx hb hts iX12 hown g t_a0 (by decide) so_13 rfl 3 (by decide) (hts (.fieldLink RX12 146 "CapLeagueModel" "sort" "I") (by decide +kernel)) rfl dX12_readLine_214 (congrArg Value.int (ev27.symm)) ?_
                      refine lv_iconst (v := 3) hx hb dX12_readLine_217 (by decide) ?_
                      refine lv_icmp_eq (tgt := 227) hx hb dX12_readLine_218 (by decide) (fun c30 => ?_) (fun c30 => ?_)
                      · have ic30 := (xi_eq c30 rfl (by decide) : v27.toInt = 3)
                        refine lv_aload_n hx hb dX12_readLine_227 rfl (lv_at hl 2 rfl) ?_
                        refine va_callv (va_runV (As := []) (rest := []) ⟨hx, hb, hml, hown, hts⟩ (tX12_scanF l E X A z I24 L0 a0 t_a0) (cwV 0 hts gX12_readLine_X12_scan rfl rfl rfl (by decide +kernel) ⟨Nat.le_of_ble_eq_true rfl, Nat.le_of_ble_eq_true rfl⟩) ⟨h_blind _ _ _ _ _ _ _, h_recv g t_a0 (by decide) so_13 (q := (RX12, TX12, 51)) rfl, h_pre _ hE hk hX hA hI hR g⟩ rfl rfl hl.1 rfl (lv_room (Nat.le_of_ble_eq_true rfl)) dX12_readLine_228 ⟨Nat.le_of_ble_eq_true rfl, Nat.le_of_ble_eq_true rfl⟩) g.2.1 (fun q _ h => h) (fun q h => h) (fun I32 t H1 locs ht hvm h31 hB hz1 hk1 hS => ?_)
                        obtain ⟨hI, fh31, h31⟩ := h31
                        replace g := h_after g hB ht hS
                        generalize H1 = H at g
                        clear hB hk1 hz1 ht hvm hS
                        have hF := hF.call fh31 rfl
                        have h31p0 := h31
                        have h168 : (I32 lw 168).toInt = v23.toInt := by rw [fh31.at tlw rfl]; exact h168
                        have hrv : h_rv I32 lw (q_up (q_up u15 (9 + (v17.toInt).toNat) (q_v gb P16)) 8 ((((v17.toInt).toNat : Nat) : Int) + 1)) := hrv.c (fun k _ => fh31.at tlw rfl)
                        have hf : I32 a0 8 = I0 a0 8 ∧ I32 a0 9 = I0 a0 9 := ⟨(fh31.at t_a0 rfl).trans hf.1, (fh31.at t_a0 rfl).trans hf.2⟩
                        have hrw : ∀ k : Nat, (k < 160 ∨ 176 ≤ k) → I32 lw k = I0 lw k := fun k hk => (fh31.at tlw rfl).trans (hrw k hk)
                        rw [abt, show I24 bt = I0 bt from funext (fun k => hFo.at tbt rfl), show I24 a0 2 = I0 a0 2 from hFo.at t_a0 rfl, ← egb, htc.2.1] at h31p0
                        have htc : h_tk gb I32 a0 (q_e gb (q_e gb P16)) := h31p0
                        have hv := htc
                        unfold h_tk at hv
                        refine lv_iconst (v := 1) hx hb dX12_readLine_231 (by decide) ?_
                        have hS := g.2.1
                        exact W.zret (v := 1) hx hb hr (by decide) (fun t ht hW => ⟨⟨1, I32, rfl, ⟨hI, hF, ⟨⟨(by decide), (by decide)⟩, (by rw [abt, ← egb, alw]; have R : q_line gb p_ T_ u_ = (0, 0, q_e gb (q_e gb P16), (q_up (q_up u15 (9 + (v17.toInt).toNat) (q_v gb P16)) 8 ((((v17.toInt).toNat : Nat) : Int) + 1))) := eqL.trans (q_lt_m (by omega) (by omega) (by omega)); rw [R]; exact Or.inl ⟨by decide, rfl, hrv.ru (by rw [h168, q_up_eq]; omega), htc, hf.1, hf.2, (by show p_ < q_e gb (q_e gb P16); omega)⟩), (by rw [alw]; exact hrw)⟩⟩, h_ret g ht⟩, hS.F ht⟩) hS.2.2 dX12_readLine_232
                      · have ic30 := (xi_ne c30 rfl (by decide) : v27.toInt ≠ 3)
                        refine lv_aload_n hx hb dX12_readLine_221 rfl (lv_at hl 2 rfl) ?_
                        refine lv_iconst (v := 1) hx hb dX12_readLine_222 (by decide) ?_
                        refine va_calli (va_runV (As := [.int 1]) (rest := []) ⟨hx, hb, hml, hown, hts⟩ (tX12_failsF l E X A z I24 L0 a0 t_a0 1 (1) (by decide)) (cwV 1 hts gX12_readLine_X12_fails rfl rfl rfl (by decide +kernel) ⟨Nat.le_of_ble_eq_true rfl, Nat.le_of_ble_eq_true rfl⟩) ⟨h_blind _ _ _ _ _ _ _, h_recv g t_a0 (by decide) so_13 (q := (RX12, TX12, 51)) rfl, h_pre _ hE hk hX hA hI hR g⟩ rfl rfl hl.1 rfl (lv_room (Nat.le_of_ble_eq_true rfl)) dX12_readLine_223 ⟨Nat.le_of_ble_eq_true rfl, Nat.le_of_ble_eq_true rfl⟩) g.2.1 (fun q _ h => h) (fun q h => h) (fun rh33 I34 t H1 locs ht hvm h33 hB hz1 hk1 hS => ?_)
                        obtain ⟨hI, fh33, h33⟩ := h33
                        replace g := h_after g hB ht hS
                        generalize H1 = H at g
                        clear hB hk1 hz1 ht hvm hS
                        have hF := hF.call fh33 rfl
                        obtain ⟨h33, h33p0⟩ := h33
                        have h168 : (I34 lw 168).toInt = v23.toInt := by rw [fh33.at tlw rfl]; exact h168
                        have hrv : h_rv I34 lw (q_up (q_up u15 (9 + (v17.toInt).toNat) (q_v gb P16)) 8 ((((v17.toInt).toNat : Nat) : Int) + 1)) := hrv.c (fun k _ => fh33.at tlw rfl)
                        have hrw : ∀ k : Nat, (k < 160 ∨ 176 ≤ k) → I34 lw k = I0 lw k := fun k hk => (fh33.at tlw rfl).trans (hrw k hk)
                        have hS := g.2.1
                        exact W.zret (v := rh33) hx hb hr (h_nb (by omega) (by omega)).1 (fun t ht hW => ⟨⟨rh33, I34, rfl, ⟨hI, hF, ⟨⟨(by omega), (by omega)⟩, (by rw [abt, ← egb, alw]; have R : q_line gb p_ T_ u_ = (1, q_a gb (q_e gb P16), (q_e gb P16), (q_up (q_up u15 (9 + (v17.toInt).toNat) (q_v gb P16)) 8 ((((v17.toInt).toNat : Nat) : Int) + 1))) := eqL.trans (q_lt_f1 (by omega) (by omega) (by omega) (by omega)); rw [R]; exact Or.inr ⟨by omega, (by show (1 : Int) ≠ 0; decide), (by rw [h33p0.1]; exact (by decide : (1 : Int32).toInt = 1)), (by show (I34 a0 9).toInt = q_a gb (q_e gb P16); rw [h33p0.2]; exact htc.1)⟩), (by rw [alw]; exact hrw)⟩⟩, h_ret g ht⟩, hS.F ht⟩) hS.2.2 dX12_readLine_226
                · have ic19 := (xi_eq c19 rfl (by decide) : v18.toInt = 2)
                  refine lv_iload hx hb dX12_readLine_157 (lv_at hl 0 rfl) ?_
                  refine lv_bipush (v := 6) hx hb dX12_readLine_159 (by decide) ?_
                  refine lv_icmp_ne (tgt := 170) hx hb dX12_readLine_161 (by decide) (fun c35 => ?_) (fun c35 => ?_)
                  · have ic35 := (xi_ne c35 rfl (by decide) : v17.toInt ≠ 6)
                    refine lv_aload_n hx hb dX12_readLine_170 rfl (lv_at hl 1 rfl) ?_
                    refine lv_bipush (v := 9) hx hb dX12_readLine_171 (by decide) ?_
                    refine lv_iload hx hb dX12_readLine_173 (lv_at hl 0 rfl) ?_
                    refine lv_iadd hx hb dX12_readLine_175 ?_
                    refine lv_topi (fun v36 ev36 => ?_)
                    have jv36 : v36.toInt = 9 + v17.toInt := xi_add ev36 (by decide) rfl (by omega) (by omega)
                    refine lv_iconst (v := 1) hx hb dX12_readLine_176 (by decide) ?_
                    refine lv_bipush (v := 20) hx hb dX12_readLine_177 (by decide) ?_
                    refine va_calli (va_runV (As := [.int v36, .int 1, .int 20]) (rest := []) ⟨hx, hb, hml, hown, hts⟩ (tX12_numberF9 l E X A z I13 L0 a0 t_a0 v36 (v36.toInt) rfl (by omega) 1 (1) (by decide) (by omega) 20 (20) (by decide) (by omega) (P16) (by rw [abt, show I13 bt = I0 bt from funext (fun k => hF.at tbt rfl), show I13 a0 2 = I0 a0 2 from hF.at t_a0 rfl, ← egb]; exact htc)) (cwV 3 hts gX12_readLine_X12_number rfl rfl rfl (by decide +kernel) ⟨Nat.le_of_ble_eq_true rfl, Nat.le_of_ble_eq_true rfl⟩) ⟨h_blind _ _ _ _ _ _ _, h_recv g t_a0 (by decide) so_13 (q := (RX12, TX12, 51)) rfl, h_pre _ hE hk hX hA hI hR g⟩ rfl rfl hl.1 rfl (lv_room (Nat.le_of_ble_eq_true rfl)) dX12_readLine_179 ⟨Nat.le_of_ble_eq_true rfl, Nat.le_of_ble_eq_true rfl⟩) g.2.1 (fun q _ h => h) (fun q h => h) (fun rh37 I38 t H1 locs ht hvm h37 hB hz1 hk1 hS => ?_)
                    obtain ⟨hI, fh37, h37⟩ := h37
                    replace g := h_after g hB ht hS
                    generalize H1 = H at g
                    clear hB hk1 hz1 ht hvm hS
                    have hF := hF.call fh37 rfl
                    obtain ⟨h37, h37p0, h37p1⟩ := h37
                    rw [alw] at h37p1
                    have h168 : (I38 lw 168).toInt = N14 := by rw [h37p1 168 (by omega)]; exact h168
                    have hrw : ∀ k : Nat, (k < 160 ∨ 176 ≤ k) → I38 lw k = I0 lw k := fun k hk => (h37p1 k (by omega)).trans (hrw k hk)
                    rw [abt, show I13 bt = I0 bt from funext (fun k => hFo.at tbt rfl), show I13 a0 2 = I0 a0 2 from hFo.at t_a0 rfl, ← egb, alw] at h37p0
                    refine lv_istore_n (lv' := [(3, .int rh37), (4, .int v17), (0, .ref a0)]) hx hb dX12_readLine_182 rfl hl (by decide) rfl (fun ls hl => ?_)
                    refine lv_aload_n hx hb dX12_readLine_183 rfl (lv_at hl 2 rfl) ?_
                    refine h_get (v := .ref lw) hx hb hts iX12 hown g t_a0 (by decide) so_13 rfl 10 (by decide) (hts (.fieldLink RX12 17 "CapLeagueModel" "laws" "[I") (by decide +kernel)) rfl dX12_readLine_184 (by show va_rf (z.R a0 10) = _; rw [rlw]; rfl) ?_
                    refine lv_sipush (v := 168) hx hb dX12_readLine_187 (by decide) ?_
                    refine lv_iload hx hb dX12_readLine_190 (lv_at hl 1 rfl) ?_
                    refine lv_iconst (v := 1) hx hb dX12_readLine_192 (by decide) ?_
                    refine lv_iadd hx hb dX12_readLine_193 ?_
                    refine lv_topi (fun v39 ev39 => ?_)
                    have jv39 : v39.toInt = v17.toInt + 1 := xi_add ev39 rfl (by decide) (by omega) (by omega)
                    refine h_ast hx hb g tlw (by decide) so_1310 (by unfold vp_in; decide) dX12_readLine_194 (fun I40 H locs eI40 g => ?_)
                    have hI := h_lww hI eI40 tlw (k := 168) (by decide) (by omega) (by omega) (by omega)
                    have hF := hF.wr eI40 tlw rfl
                    have h168 : (I40 lw 168).toInt = v39.toInt := by rw [show I40 lw 168 = v39 from h_n0 eI40]
                    have hrw : ∀ k : Nat, (k < 160 ∨ 176 ≤ k) → I40 lw k = I0 lw k := fun k hk => (h_n2 eI40 (show k ≠ 168 by omega)).trans (hrw k hk)
                    refine lv_iload_n hx hb dX12_readLine_195 rfl (lv_at hl 0 rfl) ?_
                    refine lv_if_eq (tgt := 207) hx hb dX12_readLine_196 (by decide) (fun c41 => ?_) (fun c41 => ?_)
                    · have ic41 := (xi_eq c41 rfl (by decide) : rh37.toInt = 0)
                      refine lv_iload_n hx hb dX12_readLine_207 rfl (lv_at hl 0 rfl) ?_
                      refine lv_if_ne (tgt := 213) hx hb dX12_readLine_208 (by decide) (fun h => absurd (xi_ne h rfl (by decide) : rh37.toInt ≠ 0) (by omega)) (fun c42 => ?_)
                      have ic42 := (xi_eq c42 rfl (by decide) : rh37.toInt = 0)
                      have nf : (q_k gb P16 ≠ 2 ∧ (I38 a0 8).toInt = 1 ∧ (I38 a0 9).toInt = q_a gb P16) ∨ (q_k gb P16 = 2 ∧ (q_v gb P16 < 1 ∨ 20 < q_v gb P16) ∧ (I38 a0 8).toInt = 2 ∧ (I38 a0 9).toInt = q_a gb P16) := by rcases h37p0 with q | q | q; exact absurd q.1 (by omega); exact Or.inl q.2; exact Or.inr q.2
                      refine lv_iconst (v := 0) hx hb dX12_readLine_211 (by decide) ?_
                      have hS := g.2.1
                      exact W.zret (v := 0) hx hb hr (by decide) (fun t ht hW => ⟨⟨0, I40, rfl, ⟨hI, hF, ⟨⟨(by decide), (by decide)⟩, (by rw [abt, ← egb, alw]; rw [show I40 a0 8 = I38 a0 8 from h_n1 eI40 t_a0 tlw (by decide), show I40 a0 9 = I38 a0 9 from h_n1 eI40 t_a0 tlw (by decide)]; rcases nf with ⟨n1, n2, n3⟩ | ⟨n1, n2, n3, n4⟩; have R : q_line gb p_ T_ u_ = (1, q_a gb P16, P16, u15) := hx139_0.trans (q_lt_f1 (by omega) (by omega) (by omega) (by omega)); rw [R]; exact Or.inr ⟨by decide, (by show (1 : Int) ≠ 0; decide), n2, n3⟩; have R : q_line gb p_ T_ u_ = (2, q_a gb P16, P16, u15) := hx139_0.trans (q_lt_f2 (by omega) (by omega) (by omega) (by omega)); rw [R]; exact Or.inr ⟨by decide, (by show (2 : Int) ≠ 0; decide), n3, n4⟩), (by rw [alw]; exact hrw)⟩⟩, h_ret g ht⟩, hS.F ht⟩) hS.2.2 dX12_readLine_212
                    · have ic41 := (xi_ne c41 rfl (by decide) : rh37.toInt ≠ 0)
                      obtain ⟨n2, n3, n4, n5, n6, n7, n8⟩ : q_k gb P16 = 2 ∧ 1 ≤ q_v gb P16 ∧ q_v gb P16 ≤ 20 ∧ (I38 lw (160 + v36.toInt).toNat).toInt = q_v gb P16 ∧ h_tk gb I38 a0 (q_e gb P16) ∧ I38 a0 8 = I13 a0 8 ∧ I38 a0 9 = I13 a0 9 := by rcases h37p0 with q | q | q; exact q.2; exact absurd q.1 (by omega); exact absurd q.1 (by omega)
                      have hf : I38 a0 8 = I0 a0 8 ∧ I38 a0 9 = I0 a0 9 := ⟨n7.trans hf.1, n8.trans hf.2⟩
                      have htc := n6
                      have hw := n6
                      unfold h_tk at hw
                      have hrv : h_rv I38 lw (q_up u15 (v36.toInt).toNat (q_v gb P16)) := hrv.put (by omega) n5 h37p1
                      have hf : I40 a0 8 = I0 a0 8 ∧ I40 a0 9 = I0 a0 9 := ⟨(h_n1 eI40 t_a0 tlw (by decide)).trans hf.1, (h_n1 eI40 t_a0 tlw (by decide)).trans hf.2⟩
                      have htc : h_tk gb I40 a0 (q_e gb P16) := htc.c (h_n1 eI40 t_a0 tlw (by decide)) (h_n1 eI40 t_a0 tlw (by decide)) (h_n1 eI40 t_a0 tlw (by decide)) (h_n1 eI40 t_a0 tlw (by decide)) (h_n1 eI40 t_a0 tlw (by decide))
                      have hrv : h_rv I40 lw (q_up u15 (v36.toInt).toNat (q_v gb P16)) := hrv.c (fun k hk => h_n2 eI40 hk)
                      rw [show (v36.toInt).toNat = 9 + (v17.toInt).toNat by omega] at hrv
                      have hrv := hrv.up8 (v := (((v17.toInt).toNat : Nat) : Int) + 1)
                      have eqL := hx139_0.trans (q_lt_ok (i := v17.toInt) (i1 := v39.toInt) (by omega) (by omega) (by omega) n2 rfl (by omega) (by omega) rfl)
                      refine lv_aload_n hx hb dX12_readLine_199 rfl (lv_at hl 2 rfl) ?_
                      refine h_get (v := .int (I40 a0 3)) hx hb hts iX12 hown g t_a0 (by decide) so_13 rfl 3 (by decide) (hts (.fieldLink RX12 146 "CapLeagueModel" "sort" "I") (by decide +kernel)) rfl dX12_readLine_200 rfl ?_
                      refine lv_topi (fun v43 ev43 => ?_)
                      have jv43 := hI.rd a0 3 t_a0 ev43 (rfl : h_bd 13 3 = ((-2147483648), 2147483647))
                      have hu := htc
                      unfold h_tk h_sc at hu
                      rw [← ev43] at hu
                      refine lv_iconst (v := 2) hx hb dX12_readLine_203 (by decide) ?_
                      refine lv_icmp_eq (tgt := 139) hx hb dX12_readLine_204 (by decide) (fun c44 => ?_) (fun c44 => ?_)
                      · have ic44 := (xi_eq c44 rfl (by decide) : v43.toInt = 2)
                        exact ih139 I40 _ _ _ (v39.toInt) ((q_up (q_up u15 (9 + (v17.toInt).toNat) (q_v gb P16)) 8 ((((v17.toInt).toNat : Nat) : Int) + 1))) ((q_e gb P16)) g hI hF (lv_sub hl [2] rfl) (eqL) (by omega) (Or.inr (by rw [q_up_eq]; omega)) (Or.inr (by rw [show I40 a0 3 = v43 from ev43.symm]; omega)) (by have hq := htc; unfold h_tk at hq; omega) h168 hrv hf hrw htc (by omega)
                      · have ic44 := (xi_ne c44 rfl (by decide) : v43.toInt ≠ 2)
                        refine lv_iload_n hx hb dX12_readLine_207 rfl (lv_at hl 0 rfl) ?_
                        refine lv_if_ne (tgt := 213) hx hb dX12_readLine_208 (by decide) (fun c45 => ?_) (fun h => absurd (xi_eq h rfl (by decide) : rh37.toInt = 0) (by omega))
                        have ic45 := (xi_ne c45 rfl (by decide) : rh37.toInt ≠ 0)
                        have hFo := hF
                        refine lv_aload_n hx hb dX12_readLine_213 rfl (lv_at hl 2 rfl) ?_
                        refine h_get (v := .int v43) hx hb hts iX12 hown g t_a0 (by decide) so_13 rfl 3 (by decide) (hts (.fieldLink RX12 146 "CapLeagueModel" "sort" "I") (by decide +kernel)) rfl dX12_readLine_214 (congrArg Value.int (ev43.symm)) ?_
                        refine lv_iconst (v := 3) hx hb dX12_readLine_217 (by decide) ?_
                        refine lv_icmp_eq (tgt := 227) hx hb dX12_readLine_218 (by decide) (fun c46 => ?_) (fun c46 => ?_)
                        · have ic46 := (xi_eq c46 rfl (by decide) : v43.toInt = 3)
                          refine lv_aload_n hx hb dX12_readLine_227 rfl (lv_at hl 2 rfl) ?_
                          refine va_callv (va_runV (As := []) (rest := []) ⟨hx, hb, hml, hown, hts⟩ (tX12_scanF l E X A z I40 L0 a0 t_a0) (cwV 0 hts gX12_readLine_X12_scan rfl rfl rfl (by decide +kernel) ⟨Nat.le_of_ble_eq_true rfl, Nat.le_of_ble_eq_true rfl⟩) ⟨h_blind _ _ _ _ _ _ _, h_recv g t_a0 (by decide) so_13 (q := (RX12, TX12, 51)) rfl, h_pre _ hE hk hX hA hI hR g⟩ rfl rfl hl.1 rfl (lv_room (Nat.le_of_ble_eq_true rfl)) dX12_readLine_228 ⟨Nat.le_of_ble_eq_true rfl, Nat.le_of_ble_eq_true rfl⟩) g.2.1 (fun q _ h => h) (fun q h => h) (fun I48 t H1 locs ht hvm h47 hB hz1 hk1 hS => ?_)
                          obtain ⟨hI, fh47, h47⟩ := h47
                          replace g := h_after g hB ht hS
                          generalize H1 = H at g
                          clear hB hk1 hz1 ht hvm hS
                          have hF := hF.call fh47 rfl
                          have h47p0 := h47
                          have h168 : (I48 lw 168).toInt = v39.toInt := by rw [fh47.at tlw rfl]; exact h168
                          have hrv : h_rv I48 lw (q_up (q_up u15 (9 + (v17.toInt).toNat) (q_v gb P16)) 8 ((((v17.toInt).toNat : Nat) : Int) + 1)) := hrv.c (fun k _ => fh47.at tlw rfl)
                          have hf : I48 a0 8 = I0 a0 8 ∧ I48 a0 9 = I0 a0 9 := ⟨(fh47.at t_a0 rfl).trans hf.1, (fh47.at t_a0 rfl).trans hf.2⟩
                          have hrw : ∀ k : Nat, (k < 160 ∨ 176 ≤ k) → I48 lw k = I0 lw k := fun k hk => (fh47.at tlw rfl).trans (hrw k hk)
                          rw [abt, show I40 bt = I0 bt from funext (fun k => hFo.at tbt rfl), show I40 a0 2 = I0 a0 2 from hFo.at t_a0 rfl, ← egb, htc.2.1] at h47p0
                          have htc : h_tk gb I48 a0 (q_e gb (q_e gb P16)) := h47p0
                          have hv := htc
                          unfold h_tk at hv
                          refine lv_iconst (v := 1) hx hb dX12_readLine_231 (by decide) ?_
                          have hS := g.2.1
                          exact W.zret (v := 1) hx hb hr (by decide) (fun t ht hW => ⟨⟨1, I48, rfl, ⟨hI, hF, ⟨⟨(by decide), (by decide)⟩, (by rw [abt, ← egb, alw]; have R : q_line gb p_ T_ u_ = (0, 0, q_e gb (q_e gb P16), (q_up (q_up u15 (9 + (v17.toInt).toNat) (q_v gb P16)) 8 ((((v17.toInt).toNat : Nat) : Int) + 1))) := eqL.trans (q_lt_m (by omega) (by omega) (by omega)); rw [R]; exact Or.inl ⟨by decide, rfl, hrv.ru (by rw [h168, q_up_eq]; omega), htc, hf.1, hf.2, (by show p_ < q_e gb (q_e gb P16); omega)⟩), (by rw [alw]; exact hrw)⟩⟩, h_ret g ht⟩, hS.F ht⟩) hS.2.2 dX12_readLine_232
                        · have ic46 := (xi_ne c46 rfl (by decide) : v43.toInt ≠ 3)
                          refine lv_aload_n hx hb dX12_readLine_221 rfl (lv_at hl 2 rfl) ?_
                          refine lv_iconst (v := 1) hx hb dX12_readLine_222 (by decide) ?_
                          refine va_calli (va_runV (As := [.int 1]) (rest := []) ⟨hx, hb, hml, hown, hts⟩ (tX12_failsF l E X A z I40 L0 a0 t_a0 1 (1) (by decide)) (cwV 1 hts gX12_readLine_X12_fails rfl rfl rfl (by decide +kernel) ⟨Nat.le_of_ble_eq_true rfl, Nat.le_of_ble_eq_true rfl⟩) ⟨h_blind _ _ _ _ _ _ _, h_recv g t_a0 (by decide) so_13 (q := (RX12, TX12, 51)) rfl, h_pre _ hE hk hX hA hI hR g⟩ rfl rfl hl.1 rfl (lv_room (Nat.le_of_ble_eq_true rfl)) dX12_readLine_223 ⟨Nat.le_of_ble_eq_true rfl, Nat.le_of_ble_eq_true rfl⟩) g.2.1 (fun q _ h => h) (fun q h => h) (fun rh49 I50 t H1 locs ht hvm h49 hB hz1 hk1 hS => ?_)
                          obtain ⟨hI, fh49, h49⟩ := h49
                          replace g := h_after g hB ht hS
                          generalize H1 = H at g
                          clear hB hk1 hz1 ht hvm hS
                          have hF := hF.call fh49 rfl
                          obtain ⟨h49, h49p0⟩ := h49
                          have h168 : (I50 lw 168).toInt = v39.toInt := by rw [fh49.at tlw rfl]; exact h168
                          have hrv : h_rv I50 lw (q_up (q_up u15 (9 + (v17.toInt).toNat) (q_v gb P16)) 8 ((((v17.toInt).toNat : Nat) : Int) + 1)) := hrv.c (fun k _ => fh49.at tlw rfl)
                          have hrw : ∀ k : Nat, (k < 160 ∨ 176 ≤ k) → I50 lw k = I0 lw k := fun k hk => (fh49.at tlw rfl).trans (hrw k hk)
                          have hS := g.2.1
                          exact W.zret (v := rh49) hx hb hr (h_nb (by omega) (by omega)).1 (fun t ht hW => ⟨⟨rh49, I50, rfl, ⟨hI, hF, ⟨⟨(by omega), (by omega)⟩, (by rw [abt, ← egb, alw]; have R : q_line gb p_ T_ u_ = (1, q_a gb (q_e gb P16), (q_e gb P16), (q_up (q_up u15 (9 + (v17.toInt).toNat) (q_v gb P16)) 8 ((((v17.toInt).toNat : Nat) : Int) + 1))) := eqL.trans (q_lt_f1 (by omega) (by omega) (by omega) (by omega)); rw [R]; exact Or.inr ⟨by omega, (by show (1 : Int) ≠ 0; decide), (by rw [h49p0.1]; exact (by decide : (1 : Int32).toInt = 1)), (by show (I50 a0 9).toInt = q_a gb (q_e gb P16); rw [h49p0.2]; exact htc.1)⟩), (by rw [alw]; exact hrw)⟩⟩, h_ret g ht⟩, hS.F ht⟩) hS.2.2 dX12_readLine_226
                  · have ic35 := (xi_eq c35 rfl (by decide) : v17.toInt = 6)
                    refine lv_aload_n hx hb dX12_readLine_164 rfl (lv_at hl 1 rfl) ?_
                    refine lv_iconst (v := 1) hx hb dX12_readLine_165 (by decide) ?_
                    refine va_calli (va_runV (As := [.int 1]) (rest := []) ⟨hx, hb, hml, hown, hts⟩ (tX12_failsF l E X A z I13 L0 a0 t_a0 1 (1) (by decide)) (cwV 1 hts gX12_readLine_X12_fails rfl rfl rfl (by decide +kernel) ⟨Nat.le_of_ble_eq_true rfl, Nat.le_of_ble_eq_true rfl⟩) ⟨h_blind _ _ _ _ _ _ _, h_recv g t_a0 (by decide) so_13 (q := (RX12, TX12, 51)) rfl, h_pre _ hE hk hX hA hI hR g⟩ rfl rfl hl.1 rfl (lv_room (Nat.le_of_ble_eq_true rfl)) dX12_readLine_166 ⟨Nat.le_of_ble_eq_true rfl, Nat.le_of_ble_eq_true rfl⟩) g.2.1 (fun q _ h => h) (fun q h => h) (fun rh51 I52 t H1 locs ht hvm h51 hB hz1 hk1 hS => ?_)
                    obtain ⟨hI, fh51, h51⟩ := h51
                    replace g := h_after g hB ht hS
                    generalize H1 = H at g
                    clear hB hk1 hz1 ht hvm hS
                    have hF := hF.call fh51 rfl
                    obtain ⟨h51, h51p0⟩ := h51
                    have h168 : (I52 lw 168).toInt = N14 := by rw [fh51.at tlw rfl]; exact h168
                    have hrv : h_rv I52 lw u15 := hrv.c (fun k _ => fh51.at tlw rfl)
                    have hrw : ∀ k : Nat, (k < 160 ∨ 176 ≤ k) → I52 lw k = I0 lw k := fun k hk => (fh51.at tlw rfl).trans (hrw k hk)
                    have hS := g.2.1
                    exact W.zret (v := rh51) hx hb hr (h_nb (by omega) (by omega)).1 (fun t ht hW => ⟨⟨rh51, I52, rfl, ⟨hI, hF, ⟨⟨(by omega), (by omega)⟩, (by rw [abt, ← egb, alw]; have R : q_line gb p_ T_ u_ = (1, q_a gb P16, P16, u15) := hx139_0.trans (q_lt_f6 (by omega) (by omega)); rw [R]; exact Or.inr ⟨by omega, (by show (1 : Int) ≠ 0; decide), (by rw [h51p0.1]; exact (by decide : (1 : Int32).toInt = 1)), (by show (I52 a0 9).toInt = q_a gb P16; rw [h51p0.2]; exact htc.1)⟩), (by rw [alw]; exact hrw)⟩⟩, h_ret g ht⟩, hS.F ht⟩) hS.2.2 dX12_readLine_169
            exact loop139_0 _ I12 _ _ _ (0) (u_) ((q_e gb p_)) g hI hF (lv_sub hl [1] rfl) (by rw [show ((6 : Int) - 0).toNat = 6 by decide, show (0 : Int).toNat = 0 by decide]; exact eq7) (⟨by decide, by decide⟩) (Or.inl rfl) (Or.inl rfl) (by have hq := htk; unfold h_tk at hq; have hq2 := htc; unfold h_tk at hq2; omega) h168 hrv hf hrw htc (show (501 - (q_e gb p_)) < (((501 - (q_e gb p_)).toNat + 1 : Nat) : Int) by omega)
          · have ic11 := (xi_nle c11 (by decide) rfl : v3.toInt < 7)
            refine lv_aload_n hx hb dX12_readLine_112 rfl (lv_at hl 1 rfl) ?_
            refine lv_iload_n hx hb dX12_readLine_113 rfl (lv_at hl 0 rfl) ?_
            refine lv_iconst (v := 1) hx hb dX12_readLine_114 (by decide) ?_
            refine lv_iadd hx hb dX12_readLine_115 ?_
            refine lv_topi (fun v53 ev53 => ?_)
            have jv53 : v53.toInt = v3.toInt + 1 := xi_add ev53 rfl (by decide) (by omega) (by omega)
            have eq0 : q_line gb p_ T_ u_ = q_ns gb (q_ln v3.toInt) (q_e gb p_) u_ := by rw [w07.2.2.1]; exact q_line_w w07.2.2.2 (by omega) (by omega) (by rw [← w07.2.2.1]; exact tf)
            rw [q_ln_b (w := v3.toInt) (y := v53.toInt) (by omega) (by omega) (by omega)] at eq0
            have hFo := hF
            refine lv_iconst (v := 0) hx hb dX12_readLine_116 (by decide) ?_
            refine lv_iload_n hx hb dX12_readLine_117 rfl (lv_at hl 0 rfl) ?_
            refine lv_iconst (v := 1) hx hb dX12_readLine_118 (by decide) ?_
            refine lv_iadd hx hb dX12_readLine_119 ?_
            refine xw_i (v := v53) ev53.symm ?_
            refine vp_callSi (W.runS (As := [.int v53]) (rest := [.int 0, .int v53, .ref a0]) ⟨hx, hb, hml, hown, hts⟩ (tX12_highF l E X A z I8 L0 v53 (v53.toInt) rfl) (va_cwS 1 hts gX12_readLine_X12_high rfl rfl rfl (by decide +kernel) ⟨Nat.le_of_ble_eq_true rfl, Nat.le_of_ble_eq_true rfl⟩) ⟨h_blind _ _ _ _ _ _ _, h_pre _ hE hk hX hA hI hR g⟩ rfl rfl hl.1 rfl (lv_room (Nat.le_of_ble_eq_true rfl)) dX12_readLine_120 ⟨Nat.le_of_ble_eq_true rfl, Nat.le_of_ble_eq_true rfl⟩) (fun rh54 h54 => ?_)
            have h54p0 := h54
            have jrh54 : -2147483648 ≤ rh54.toInt ∧ rh54.toInt ≤ 2147483647 := ⟨xi_lo _, Int.le_of_lt_add_one (xi_hi _)⟩
            refine va_calli (va_runV (As := [.int v53, .int 0, .int rh54]) (rest := []) ⟨hx, hb, hml, hown, hts⟩ (tX12_numberF7 l E X A z I8 L0 a0 t_a0 v53 (v53.toInt) rfl (by omega) 0 (0) (by decide) rh54 (rh54.toInt) rfl ((q_e gb p_)) (by rw [abt, show I8 bt = I0 bt from funext (fun k => hF.at tbt rfl), show I8 a0 2 = I0 a0 2 from hF.at t_a0 rfl, ← egb]; exact htc)) (cwV 3 hts gX12_readLine_X12_number rfl rfl rfl (by decide +kernel) ⟨Nat.le_of_ble_eq_true rfl, Nat.le_of_ble_eq_true rfl⟩) ⟨h_blind _ _ _ _ _ _ _, h_recv g t_a0 (by decide) so_13 (q := (RX12, TX12, 51)) rfl, h_pre _ hE hk hX hA hI hR g⟩ rfl rfl hl.1 rfl (lv_room (Nat.le_of_ble_eq_true rfl)) dX12_readLine_123 ⟨Nat.le_of_ble_eq_true rfl, Nat.le_of_ble_eq_true rfl⟩) g.2.1 (fun q _ h => h) (fun q h => h) (fun rh55 I56 t H1 locs ht hvm h55 hB hz1 hk1 hS => ?_)
            obtain ⟨hI, fh55, h55⟩ := h55
            replace g := h_after g hB ht hS
            generalize H1 = H at g
            clear hB hk1 hz1 ht hvm hS
            have hF := hF.call fh55 rfl
            obtain ⟨h55, h55p0, h55p1⟩ := h55
            rw [alw] at h55p1
            have h168 : (I56 lw 168).toInt = (u_ 8) := by rw [h55p1 168 (by omega)]; exact h168
            have hrw : ∀ k : Nat, (k < 160 ∨ 176 ≤ k) → I56 lw k = I0 lw k := fun k hk => (h55p1 k (by omega)).trans (hrw k hk)
            rw [abt, show I8 bt = I0 bt from funext (fun k => hFo.at tbt rfl), show I8 a0 2 = I0 a0 2 from hFo.at t_a0 rfl, ← egb, alw] at h55p0
            refine lv_istore_n (lv' := [(3, .int rh55), (2, .int v3), (0, .ref a0), (1, .int x)]) hx hb dX12_readLine_126 rfl hl (by decide) rfl (fun ls hl => ?_)
            refine lv_goto (tgt := 207) hx hb dX12_readLine_127 (by decide) ?_
            refine lv_iload_n hx hb dX12_readLine_207 rfl (lv_at hl 0 rfl) ?_
            refine lv_if_ne (tgt := 213) hx hb dX12_readLine_208 (by decide) (fun c57 => ?_) (fun c57 => ?_)
            · have ic57 := (xi_ne c57 rfl (by decide) : rh55.toInt ≠ 0)
              obtain ⟨n2, n3, n4, n5, n6, n7, n8⟩ : q_k gb (q_e gb p_) = 2 ∧ 0 ≤ q_v gb (q_e gb p_) ∧ q_v gb (q_e gb p_) ≤ rh54.toInt ∧ (I56 lw (160 + v53.toInt).toNat).toInt = q_v gb (q_e gb p_) ∧ h_tk gb I56 a0 (q_e gb (q_e gb p_)) ∧ I56 a0 8 = I8 a0 8 ∧ I56 a0 9 = I8 a0 9 := by rcases h55p0 with q | q | q; exact q.2; exact absurd q.1 (by omega); exact absurd q.1 (by omega)
              have hf : I56 a0 8 = I0 a0 8 ∧ I56 a0 9 = I0 a0 9 := ⟨n7.trans hf.1, n8.trans hf.2⟩
              have htc := n6
              have hw := n6
              unfold h_tk at hw
              have hrv : h_rv I56 lw (q_up u_ (v53.toInt).toNat (q_v gb (q_e gb p_))) := hrv.put (by omega) n5 h55p1
              have eq0 := eq0.trans (q_ns_k n2 (by omega) (by omega))
              have hFo := hF
              refine lv_aload_n hx hb dX12_readLine_213 rfl (lv_at hl 2 rfl) ?_
              refine h_get (v := .int (I56 a0 3)) hx hb hts iX12 hown g t_a0 (by decide) so_13 rfl 3 (by decide) (hts (.fieldLink RX12 146 "CapLeagueModel" "sort" "I") (by decide +kernel)) rfl dX12_readLine_214 rfl ?_
              refine lv_topi (fun v58 ev58 => ?_)
              have jv58 := hI.rd a0 3 t_a0 ev58 (rfl : h_bd 13 3 = ((-2147483648), 2147483647))
              have hu := htc
              unfold h_tk h_sc at hu
              rw [← ev58] at hu
              refine lv_iconst (v := 3) hx hb dX12_readLine_217 (by decide) ?_
              refine lv_icmp_eq (tgt := 227) hx hb dX12_readLine_218 (by decide) (fun c59 => ?_) (fun c59 => ?_)
              · have ic59 := (xi_eq c59 rfl (by decide) : v58.toInt = 3)
                refine lv_aload_n hx hb dX12_readLine_227 rfl (lv_at hl 2 rfl) ?_
                refine va_callv (va_runV (As := []) (rest := []) ⟨hx, hb, hml, hown, hts⟩ (tX12_scanF l E X A z I56 L0 a0 t_a0) (cwV 0 hts gX12_readLine_X12_scan rfl rfl rfl (by decide +kernel) ⟨Nat.le_of_ble_eq_true rfl, Nat.le_of_ble_eq_true rfl⟩) ⟨h_blind _ _ _ _ _ _ _, h_recv g t_a0 (by decide) so_13 (q := (RX12, TX12, 51)) rfl, h_pre _ hE hk hX hA hI hR g⟩ rfl rfl hl.1 rfl (lv_room (Nat.le_of_ble_eq_true rfl)) dX12_readLine_228 ⟨Nat.le_of_ble_eq_true rfl, Nat.le_of_ble_eq_true rfl⟩) g.2.1 (fun q _ h => h) (fun q h => h) (fun I61 t H1 locs ht hvm h60 hB hz1 hk1 hS => ?_)
                obtain ⟨hI, fh60, h60⟩ := h60
                replace g := h_after g hB ht hS
                generalize H1 = H at g
                clear hB hk1 hz1 ht hvm hS
                have hF := hF.call fh60 rfl
                have h60p0 := h60
                have h168 : (I61 lw 168).toInt = (u_ 8) := by rw [fh60.at tlw rfl]; exact h168
                have hrv : h_rv I61 lw (q_up u_ (v53.toInt).toNat (q_v gb (q_e gb p_))) := hrv.c (fun k _ => fh60.at tlw rfl)
                have hf : I61 a0 8 = I0 a0 8 ∧ I61 a0 9 = I0 a0 9 := ⟨(fh60.at t_a0 rfl).trans hf.1, (fh60.at t_a0 rfl).trans hf.2⟩
                have hrw : ∀ k : Nat, (k < 160 ∨ 176 ≤ k) → I61 lw k = I0 lw k := fun k hk => (fh60.at tlw rfl).trans (hrw k hk)
                rw [abt, show I56 bt = I0 bt from funext (fun k => hFo.at tbt rfl), show I56 a0 2 = I0 a0 2 from hFo.at t_a0 rfl, ← egb, htc.2.1] at h60p0
                have htc : h_tk gb I61 a0 (q_e gb (q_e gb (q_e gb p_))) := h60p0
                have hv := htc
                unfold h_tk at hv
                refine lv_iconst (v := 1) hx hb dX12_readLine_231 (by decide) ?_
                have hS := g.2.1
                exact W.zret (v := 1) hx hb hr (by decide) (fun t ht hW => ⟨⟨1, I61, rfl, ⟨hI, hF, ⟨⟨(by decide), (by decide)⟩, (by rw [abt, ← egb, alw]; have R : q_line gb p_ T_ u_ = (0, 0, q_e gb (q_e gb (q_e gb p_)), (q_up u_ (v53.toInt).toNat (q_v gb (q_e gb p_)))) := eq0.trans (q_ns_e (by omega)); rw [R]; exact Or.inl ⟨by decide, rfl, hrv.ru (by rw [h168, q_up_ne (by omega)]), htc, hf.1, hf.2, (by show p_ < q_e gb (q_e gb (q_e gb p_)); omega)⟩), (by rw [alw]; exact hrw)⟩⟩, h_ret g ht⟩, hS.F ht⟩) hS.2.2 dX12_readLine_232
              · have ic59 := (xi_ne c59 rfl (by decide) : v58.toInt ≠ 3)
                refine lv_aload_n hx hb dX12_readLine_221 rfl (lv_at hl 2 rfl) ?_
                refine lv_iconst (v := 1) hx hb dX12_readLine_222 (by decide) ?_
                refine va_calli (va_runV (As := [.int 1]) (rest := []) ⟨hx, hb, hml, hown, hts⟩ (tX12_failsF l E X A z I56 L0 a0 t_a0 1 (1) (by decide)) (cwV 1 hts gX12_readLine_X12_fails rfl rfl rfl (by decide +kernel) ⟨Nat.le_of_ble_eq_true rfl, Nat.le_of_ble_eq_true rfl⟩) ⟨h_blind _ _ _ _ _ _ _, h_recv g t_a0 (by decide) so_13 (q := (RX12, TX12, 51)) rfl, h_pre _ hE hk hX hA hI hR g⟩ rfl rfl hl.1 rfl (lv_room (Nat.le_of_ble_eq_true rfl)) dX12_readLine_223 ⟨Nat.le_of_ble_eq_true rfl, Nat.le_of_ble_eq_true rfl⟩) g.2.1 (fun q _ h => h) (fun q h => h) (fun rh62 I63 t H1 locs ht hvm h62 hB hz1 hk1 hS => ?_)
                obtain ⟨hI, fh62, h62⟩ := h62
                replace g := h_after g hB ht hS
                generalize H1 = H at g
                clear hB hk1 hz1 ht hvm hS
                have hF := hF.call fh62 rfl
                obtain ⟨h62, h62p0⟩ := h62
                have h168 : (I63 lw 168).toInt = (u_ 8) := by rw [fh62.at tlw rfl]; exact h168
                have hrv : h_rv I63 lw (q_up u_ (v53.toInt).toNat (q_v gb (q_e gb p_))) := hrv.c (fun k _ => fh62.at tlw rfl)
                have hrw : ∀ k : Nat, (k < 160 ∨ 176 ≤ k) → I63 lw k = I0 lw k := fun k hk => (fh62.at tlw rfl).trans (hrw k hk)
                have hS := g.2.1
                exact W.zret (v := rh62) hx hb hr (h_nb (by omega) (by omega)).1 (fun t ht hW => ⟨⟨rh62, I63, rfl, ⟨hI, hF, ⟨⟨(by omega), (by omega)⟩, (by rw [abt, ← egb, alw]; have R : q_line gb p_ T_ u_ = (1, q_a gb (q_e gb (q_e gb p_)), (q_e gb (q_e gb p_)), (q_up u_ (v53.toInt).toNat (q_v gb (q_e gb p_)))) := eq0.trans (q_ns_n (by omega)); rw [R]; exact Or.inr ⟨by omega, (by show (1 : Int) ≠ 0; decide), (by rw [h62p0.1]; exact (by decide : (1 : Int32).toInt = 1)), (by show (I63 a0 9).toInt = q_a gb (q_e gb (q_e gb p_)); rw [h62p0.2]; exact htc.1)⟩), (by rw [alw]; exact hrw)⟩⟩, h_ret g ht⟩, hS.F ht⟩) hS.2.2 dX12_readLine_226
            · have ic57 := (xi_eq c57 rfl (by decide) : rh55.toInt = 0)
              have nf : (q_k gb (q_e gb p_) ≠ 2 ∧ (I56 a0 8).toInt = 1 ∧ (I56 a0 9).toInt = q_a gb (q_e gb p_)) ∨ (q_k gb (q_e gb p_) = 2 ∧ (q_v gb (q_e gb p_) < 0 ∨ rh54.toInt < q_v gb (q_e gb p_)) ∧ (I56 a0 8).toInt = 2 ∧ (I56 a0 9).toInt = q_a gb (q_e gb p_)) := by rcases h55p0 with q | q | q; exact absurd q.1 (by omega); exact Or.inl q.2; exact Or.inr q.2
              refine lv_iconst (v := 0) hx hb dX12_readLine_211 (by decide) ?_
              have hS := g.2.1
              exact W.zret (v := 0) hx hb hr (by decide) (fun t ht hW => ⟨⟨0, I56, rfl, ⟨hI, hF, ⟨⟨(by decide), (by decide)⟩, (by rw [abt, ← egb, alw]; rcases nf with ⟨n1, n2, n3⟩ | ⟨n1, n2, n3, n4⟩; have R : q_line gb p_ T_ u_ = (1, q_a gb (q_e gb p_), (q_e gb p_), u_) := eq0.trans (q_ns_g1 (by omega)); rw [R]; exact Or.inr ⟨by decide, (by show (1 : Int) ≠ 0; decide), n2, n3⟩; have R : q_line gb p_ T_ u_ = (2, q_a gb (q_e gb p_), (q_e gb p_), u_) := eq0.trans (q_ns_g2 (by omega) (by omega)); rw [R]; exact Or.inr ⟨by decide, (by show (2 : Int) ≠ 0; decide), n3, n4⟩), (by rw [alw]; exact hrw)⟩⟩, h_ret g ht⟩, hS.F ht⟩) hS.2.2 dX12_readLine_212
        · have ic10 := (xi_eq c10 rfl (by decide) : v3.toInt = 4)
          have eq0 : q_line gb p_ T_ u_ = q_ns gb (q_ln v3.toInt) (q_e gb p_) u_ := by rw [w07.2.2.1]; exact q_line_w w07.2.2.2 (by omega) (by omega) (by rw [← w07.2.2.1]; exact tf)
          rw [q_ln_4 (by omega)] at eq0
          have hFo := hF
          refine lv_aload_n hx hb dX12_readLine_71 rfl (lv_at hl 1 rfl) ?_
          refine lv_iconst (v := 4) hx hb dX12_readLine_72 (by decide) ?_
          refine lv_iconst (v := 0) hx hb dX12_readLine_73 (by decide) ?_
          refine lv_iconst (v := 4) hx hb dX12_readLine_74 (by decide) ?_
          refine vp_callSi (W.runS (As := [.int 4]) (rest := [.int 0, .int 4, .ref a0]) ⟨hx, hb, hml, hown, hts⟩ (tX12_highF l E X A z I8 L0 4 (4) (by decide)) (va_cwS 1 hts gX12_readLine_X12_high rfl rfl rfl (by decide +kernel) ⟨Nat.le_of_ble_eq_true rfl, Nat.le_of_ble_eq_true rfl⟩) ⟨h_blind _ _ _ _ _ _ _, h_pre _ hE hk hX hA hI hR g⟩ rfl rfl hl.1 rfl (lv_room (Nat.le_of_ble_eq_true rfl)) dX12_readLine_75 ⟨Nat.le_of_ble_eq_true rfl, Nat.le_of_ble_eq_true rfl⟩) (fun rh64 h64 => ?_)
          have h64p0 := h64
          have jrh64 : -2147483648 ≤ rh64.toInt ∧ rh64.toInt ≤ 2147483647 := ⟨xi_lo _, Int.le_of_lt_add_one (xi_hi _)⟩
          refine va_calli (va_runV (As := [.int 4, .int 0, .int rh64]) (rest := []) ⟨hx, hb, hml, hown, hts⟩ (tX12_numberF7 l E X A z I8 L0 a0 t_a0 4 (4) (by decide) (by omega) 0 (0) (by decide) rh64 (rh64.toInt) rfl ((q_e gb p_)) (by rw [abt, show I8 bt = I0 bt from funext (fun k => hF.at tbt rfl), show I8 a0 2 = I0 a0 2 from hF.at t_a0 rfl, ← egb]; exact htc)) (cwV 3 hts gX12_readLine_X12_number rfl rfl rfl (by decide +kernel) ⟨Nat.le_of_ble_eq_true rfl, Nat.le_of_ble_eq_true rfl⟩) ⟨h_blind _ _ _ _ _ _ _, h_recv g t_a0 (by decide) so_13 (q := (RX12, TX12, 51)) rfl, h_pre _ hE hk hX hA hI hR g⟩ rfl rfl hl.1 rfl (lv_room (Nat.le_of_ble_eq_true rfl)) dX12_readLine_78 ⟨Nat.le_of_ble_eq_true rfl, Nat.le_of_ble_eq_true rfl⟩) g.2.1 (fun q _ h => h) (fun q h => h) (fun rh65 I66 t H1 locs ht hvm h65 hB hz1 hk1 hS => ?_)
          obtain ⟨hI, fh65, h65⟩ := h65
          replace g := h_after g hB ht hS
          generalize H1 = H at g
          clear hB hk1 hz1 ht hvm hS
          have hF := hF.call fh65 rfl
          obtain ⟨h65, h65p0, h65p1⟩ := h65
          rw [alw] at h65p1
          have h168 : (I66 lw 168).toInt = (u_ 8) := by rw [h65p1 168 (by omega)]; exact h168
          have hrw : ∀ k : Nat, (k < 160 ∨ 176 ≤ k) → I66 lw k = I0 lw k := fun k hk => (h65p1 k (by omega)).trans (hrw k hk)
          rw [abt, show I8 bt = I0 bt from funext (fun k => hFo.at tbt rfl), show I8 a0 2 = I0 a0 2 from hFo.at t_a0 rfl, ← egb, alw] at h65p0
          refine lv_if_eq (tgt := 101) hx hb dX12_readLine_81 (by decide) (fun c67 => ?_) (fun c67 => ?_)
          · have ic67 := (xi_eq c67 rfl (by decide) : rh65.toInt = 0)
            have nf : (q_k gb (q_e gb p_) ≠ 2 ∧ (I66 a0 8).toInt = 1 ∧ (I66 a0 9).toInt = q_a gb (q_e gb p_)) ∨ (q_k gb (q_e gb p_) = 2 ∧ (q_v gb (q_e gb p_) < 0 ∨ rh64.toInt < q_v gb (q_e gb p_)) ∧ (I66 a0 8).toInt = 2 ∧ (I66 a0 9).toInt = q_a gb (q_e gb p_)) := by rcases h65p0 with q | q | q; exact absurd q.1 (by omega); exact Or.inl q.2; exact Or.inr q.2
            refine lv_iconst (v := 0) hx hb dX12_readLine_101 (by decide) ?_
            refine lv_istore_n (lv' := [(3, .int 0), (2, .int v3), (0, .ref a0), (1, .int x)]) hx hb dX12_readLine_102 rfl hl (by decide) rfl (fun ls hl => ?_)
            refine lv_goto (tgt := 207) hx hb dX12_readLine_103 (by decide) ?_
            refine lv_iload_n hx hb dX12_readLine_207 rfl (lv_at hl 0 rfl) ?_
            refine lv_if_ne (tgt := 213) hx hb dX12_readLine_208 (by decide) (fun h => absurd (by decide) h) (fun _ => ?_)
            refine lv_iconst (v := 0) hx hb dX12_readLine_211 (by decide) ?_
            have hS := g.2.1
            exact W.zret (v := 0) hx hb hr (by decide) (fun t ht hW => ⟨⟨0, I66, rfl, ⟨hI, hF, ⟨⟨(by decide), (by decide)⟩, (by rw [abt, ← egb, alw]; rcases nf with ⟨n1, n2, n3⟩ | ⟨n1, n2, n3, n4⟩; have R : q_line gb p_ T_ u_ = (1, q_a gb (q_e gb p_), (q_e gb p_), u_) := eq0.trans (q_ns_g1 (by omega)); rw [R]; exact Or.inr ⟨by decide, (by show (1 : Int) ≠ 0; decide), n2, n3⟩; have R : q_line gb p_ T_ u_ = (2, q_a gb (q_e gb p_), (q_e gb p_), u_) := eq0.trans (q_ns_g2 (by omega) (by omega)); rw [R]; exact Or.inr ⟨by decide, (by show (2 : Int) ≠ 0; decide), n3, n4⟩), (by rw [alw]; exact hrw)⟩⟩, h_ret g ht⟩, hS.F ht⟩) hS.2.2 dX12_readLine_212
          · have ic67 := (xi_ne c67 rfl (by decide) : rh65.toInt ≠ 0)
            obtain ⟨n2, n3, n4, n5, n6, n7, n8⟩ : q_k gb (q_e gb p_) = 2 ∧ 0 ≤ q_v gb (q_e gb p_) ∧ q_v gb (q_e gb p_) ≤ rh64.toInt ∧ (I66 lw (160 + (4 : Int)).toNat).toInt = q_v gb (q_e gb p_) ∧ h_tk gb I66 a0 (q_e gb (q_e gb p_)) ∧ I66 a0 8 = I8 a0 8 ∧ I66 a0 9 = I8 a0 9 := by rcases h65p0 with q | q | q; exact q.2; exact absurd q.1 (by omega); exact absurd q.1 (by omega)
            have hf : I66 a0 8 = I0 a0 8 ∧ I66 a0 9 = I0 a0 9 := ⟨n7.trans hf.1, n8.trans hf.2⟩
            have htc := n6
            have hw := n6
            unfold h_tk at hw
            have hrv : h_rv I66 lw (q_up u_ ((4 : Int)).toNat (q_v gb (q_e gb p_))) := hrv.put (by omega) n5 h65p1
            have eq0 := eq0.trans (q_ns_k n2 (by omega) (by omega))
            have hFo := hF
            refine lv_aload_n hx hb dX12_readLine_84 rfl (lv_at hl 1 rfl) ?_
            refine lv_iconst (v := 5) hx hb dX12_readLine_85 (by decide) ?_
            refine lv_iconst (v := 0) hx hb dX12_readLine_86 (by decide) ?_
            refine lv_iconst (v := 5) hx hb dX12_readLine_87 (by decide) ?_
            refine vp_callSi (W.runS (As := [.int 5]) (rest := [.int 0, .int 5, .ref a0]) ⟨hx, hb, hml, hown, hts⟩ (tX12_highF l E X A z I66 L0 5 (5) (by decide)) (va_cwS 1 hts gX12_readLine_X12_high rfl rfl rfl (by decide +kernel) ⟨Nat.le_of_ble_eq_true rfl, Nat.le_of_ble_eq_true rfl⟩) ⟨h_blind _ _ _ _ _ _ _, h_pre _ hE hk hX hA hI hR g⟩ rfl rfl hl.1 rfl (lv_room (Nat.le_of_ble_eq_true rfl)) dX12_readLine_88 ⟨Nat.le_of_ble_eq_true rfl, Nat.le_of_ble_eq_true rfl⟩) (fun rh69 h69 => ?_)
            have h69p0 := h69
            have jrh69 : -2147483648 ≤ rh69.toInt ∧ rh69.toInt ≤ 2147483647 := ⟨xi_lo _, Int.le_of_lt_add_one (xi_hi _)⟩
            refine va_calli (va_runV (As := [.int 5, .int 0, .int rh69]) (rest := []) ⟨hx, hb, hml, hown, hts⟩ (tX12_numberF7 l E X A z I66 L0 a0 t_a0 5 (5) (by decide) (by omega) 0 (0) (by decide) rh69 (rh69.toInt) rfl ((q_e gb (q_e gb p_))) (by rw [abt, show I66 bt = I0 bt from funext (fun k => hF.at tbt rfl), show I66 a0 2 = I0 a0 2 from hF.at t_a0 rfl, ← egb]; exact htc)) (cwV 3 hts gX12_readLine_X12_number rfl rfl rfl (by decide +kernel) ⟨Nat.le_of_ble_eq_true rfl, Nat.le_of_ble_eq_true rfl⟩) ⟨h_blind _ _ _ _ _ _ _, h_recv g t_a0 (by decide) so_13 (q := (RX12, TX12, 51)) rfl, h_pre _ hE hk hX hA hI hR g⟩ rfl rfl hl.1 rfl (lv_room (Nat.le_of_ble_eq_true rfl)) dX12_readLine_91 ⟨Nat.le_of_ble_eq_true rfl, Nat.le_of_ble_eq_true rfl⟩) g.2.1 (fun q _ h => h) (fun q h => h) (fun rh70 I71 t H1 locs ht hvm h70 hB hz1 hk1 hS => ?_)
            obtain ⟨hI, fh70, h70⟩ := h70
            replace g := h_after g hB ht hS
            generalize H1 = H at g
            clear hB hk1 hz1 ht hvm hS
            have hF := hF.call fh70 rfl
            obtain ⟨h70, h70p0, h70p1⟩ := h70
            rw [alw] at h70p1
            have h168 : (I71 lw 168).toInt = (u_ 8) := by rw [h70p1 168 (by omega)]; exact h168
            have hrw : ∀ k : Nat, (k < 160 ∨ 176 ≤ k) → I71 lw k = I0 lw k := fun k hk => (h70p1 k (by omega)).trans (hrw k hk)
            rw [abt, show I66 bt = I0 bt from funext (fun k => hFo.at tbt rfl), show I66 a0 2 = I0 a0 2 from hFo.at t_a0 rfl, ← egb, alw] at h70p0
            refine lv_if_eq (tgt := 101) hx hb dX12_readLine_94 (by decide) (fun c72 => ?_) (fun c72 => ?_)
            · have ic72 := (xi_eq c72 rfl (by decide) : rh70.toInt = 0)
              have nf : (q_k gb (q_e gb (q_e gb p_)) ≠ 2 ∧ (I71 a0 8).toInt = 1 ∧ (I71 a0 9).toInt = q_a gb (q_e gb (q_e gb p_))) ∨ (q_k gb (q_e gb (q_e gb p_)) = 2 ∧ (q_v gb (q_e gb (q_e gb p_)) < 0 ∨ rh69.toInt < q_v gb (q_e gb (q_e gb p_))) ∧ (I71 a0 8).toInt = 2 ∧ (I71 a0 9).toInt = q_a gb (q_e gb (q_e gb p_))) := by rcases h70p0 with q | q | q; exact absurd q.1 (by omega); exact Or.inl q.2; exact Or.inr q.2
              refine lv_iconst (v := 0) hx hb dX12_readLine_101 (by decide) ?_
              refine lv_istore_n (lv' := [(3, .int 0), (2, .int v3), (0, .ref a0), (1, .int x)]) hx hb dX12_readLine_102 rfl hl (by decide) rfl (fun ls hl => ?_)
              refine lv_goto (tgt := 207) hx hb dX12_readLine_103 (by decide) ?_
              refine lv_iload_n hx hb dX12_readLine_207 rfl (lv_at hl 0 rfl) ?_
              refine lv_if_ne (tgt := 213) hx hb dX12_readLine_208 (by decide) (fun h => absurd (by decide) h) (fun _ => ?_)
              refine lv_iconst (v := 0) hx hb dX12_readLine_211 (by decide) ?_
              have hS := g.2.1
              exact W.zret (v := 0) hx hb hr (by decide) (fun t ht hW => ⟨⟨0, I71, rfl, ⟨hI, hF, ⟨⟨(by decide), (by decide)⟩, (by rw [abt, ← egb, alw]; rcases nf with ⟨n1, n2, n3⟩ | ⟨n1, n2, n3, n4⟩; have R : q_line gb p_ T_ u_ = (1, q_a gb (q_e gb (q_e gb p_)), (q_e gb (q_e gb p_)), (q_up u_ ((4 : Int)).toNat (q_v gb (q_e gb p_)))) := eq0.trans (q_ns_g1 (by omega)); rw [R]; exact Or.inr ⟨by decide, (by show (1 : Int) ≠ 0; decide), n2, n3⟩; have R : q_line gb p_ T_ u_ = (2, q_a gb (q_e gb (q_e gb p_)), (q_e gb (q_e gb p_)), (q_up u_ ((4 : Int)).toNat (q_v gb (q_e gb p_)))) := eq0.trans (q_ns_g2 (by omega) (by omega)); rw [R]; exact Or.inr ⟨by decide, (by show (2 : Int) ≠ 0; decide), n3, n4⟩), (by rw [alw]; exact hrw)⟩⟩, h_ret g ht⟩, hS.F ht⟩) hS.2.2 dX12_readLine_212
            · have ic72 := (xi_ne c72 rfl (by decide) : rh70.toInt ≠ 0)
              obtain ⟨n2, n3, n4, n5, n6, n7, n8⟩ : q_k gb (q_e gb (q_e gb p_)) = 2 ∧ 0 ≤ q_v gb (q_e gb (q_e gb p_)) ∧ q_v gb (q_e gb (q_e gb p_)) ≤ rh69.toInt ∧ (I71 lw (160 + (5 : Int)).toNat).toInt = q_v gb (q_e gb (q_e gb p_)) ∧ h_tk gb I71 a0 (q_e gb (q_e gb (q_e gb p_))) ∧ I71 a0 8 = I66 a0 8 ∧ I71 a0 9 = I66 a0 9 := by rcases h70p0 with q | q | q; exact q.2; exact absurd q.1 (by omega); exact absurd q.1 (by omega)
              have hf : I71 a0 8 = I0 a0 8 ∧ I71 a0 9 = I0 a0 9 := ⟨n7.trans hf.1, n8.trans hf.2⟩
              have htc := n6
              have hw := n6
              unfold h_tk at hw
              have hrv : h_rv I71 lw (q_up (q_up u_ ((4 : Int)).toNat (q_v gb (q_e gb p_))) ((5 : Int)).toNat (q_v gb (q_e gb (q_e gb p_)))) := hrv.put (by omega) n5 h70p1
              have eq0 := eq0.trans (q_ns_k n2 (by omega) (by omega))
              refine lv_iconst (v := 1) hx hb dX12_readLine_97 (by decide) ?_
              refine lv_goto (tgt := 102) hx hb dX12_readLine_98 (by decide) ?_
              refine lv_istore_n (lv' := [(3, .int 1), (2, .int v3), (0, .ref a0), (1, .int x)]) hx hb dX12_readLine_102 rfl hl (by decide) rfl (fun ls hl => ?_)
              refine lv_goto (tgt := 207) hx hb dX12_readLine_103 (by decide) ?_
              refine lv_iload_n hx hb dX12_readLine_207 rfl (lv_at hl 0 rfl) ?_
              refine lv_if_ne (tgt := 213) hx hb dX12_readLine_208 (by decide) (fun _ => ?_) (fun h => absurd h (by decide))
              have hFo := hF
              refine lv_aload_n hx hb dX12_readLine_213 rfl (lv_at hl 2 rfl) ?_
              refine h_get (v := .int (I71 a0 3)) hx hb hts iX12 hown g t_a0 (by decide) so_13 rfl 3 (by decide) (hts (.fieldLink RX12 146 "CapLeagueModel" "sort" "I") (by decide +kernel)) rfl dX12_readLine_214 rfl ?_
              refine lv_topi (fun v75 ev75 => ?_)
              have jv75 := hI.rd a0 3 t_a0 ev75 (rfl : h_bd 13 3 = ((-2147483648), 2147483647))
              have hu := htc
              unfold h_tk h_sc at hu
              rw [← ev75] at hu
              refine lv_iconst (v := 3) hx hb dX12_readLine_217 (by decide) ?_
              refine lv_icmp_eq (tgt := 227) hx hb dX12_readLine_218 (by decide) (fun c76 => ?_) (fun c76 => ?_)
              · have ic76 := (xi_eq c76 rfl (by decide) : v75.toInt = 3)
                refine lv_aload_n hx hb dX12_readLine_227 rfl (lv_at hl 2 rfl) ?_
                refine va_callv (va_runV (As := []) (rest := []) ⟨hx, hb, hml, hown, hts⟩ (tX12_scanF l E X A z I71 L0 a0 t_a0) (cwV 0 hts gX12_readLine_X12_scan rfl rfl rfl (by decide +kernel) ⟨Nat.le_of_ble_eq_true rfl, Nat.le_of_ble_eq_true rfl⟩) ⟨h_blind _ _ _ _ _ _ _, h_recv g t_a0 (by decide) so_13 (q := (RX12, TX12, 51)) rfl, h_pre _ hE hk hX hA hI hR g⟩ rfl rfl hl.1 rfl (lv_room (Nat.le_of_ble_eq_true rfl)) dX12_readLine_228 ⟨Nat.le_of_ble_eq_true rfl, Nat.le_of_ble_eq_true rfl⟩) g.2.1 (fun q _ h => h) (fun q h => h) (fun I78 t H1 locs ht hvm h77 hB hz1 hk1 hS => ?_)
                obtain ⟨hI, fh77, h77⟩ := h77
                replace g := h_after g hB ht hS
                generalize H1 = H at g
                clear hB hk1 hz1 ht hvm hS
                have hF := hF.call fh77 rfl
                have h77p0 := h77
                have h168 : (I78 lw 168).toInt = (u_ 8) := by rw [fh77.at tlw rfl]; exact h168
                have hrv : h_rv I78 lw (q_up (q_up u_ ((4 : Int)).toNat (q_v gb (q_e gb p_))) ((5 : Int)).toNat (q_v gb (q_e gb (q_e gb p_)))) := hrv.c (fun k _ => fh77.at tlw rfl)
                have hf : I78 a0 8 = I0 a0 8 ∧ I78 a0 9 = I0 a0 9 := ⟨(fh77.at t_a0 rfl).trans hf.1, (fh77.at t_a0 rfl).trans hf.2⟩
                have hrw : ∀ k : Nat, (k < 160 ∨ 176 ≤ k) → I78 lw k = I0 lw k := fun k hk => (fh77.at tlw rfl).trans (hrw k hk)
                rw [abt, show I71 bt = I0 bt from funext (fun k => hFo.at tbt rfl), show I71 a0 2 = I0 a0 2 from hFo.at t_a0 rfl, ← egb, htc.2.1] at h77p0
                have htc : h_tk gb I78 a0 (q_e gb (q_e gb (q_e gb (q_e gb p_)))) := h77p0
                have hv := htc
                unfold h_tk at hv
                refine lv_iconst (v := 1) hx hb dX12_readLine_231 (by decide) ?_
                have hS := g.2.1
                exact W.zret (v := 1) hx hb hr (by decide) (fun t ht hW => ⟨⟨1, I78, rfl, ⟨hI, hF, ⟨⟨(by decide), (by decide)⟩, (by rw [abt, ← egb, alw]; have R : q_line gb p_ T_ u_ = (0, 0, q_e gb (q_e gb (q_e gb (q_e gb p_))), (q_up (q_up u_ ((4 : Int)).toNat (q_v gb (q_e gb p_))) ((5 : Int)).toNat (q_v gb (q_e gb (q_e gb p_))))) := eq0.trans (q_ns_e (by omega)); rw [R]; exact Or.inl ⟨by decide, rfl, hrv.ru (by rw [h168, q_up_ne (by omega), q_up_ne (by omega)]), htc, hf.1, hf.2, (by show p_ < q_e gb (q_e gb (q_e gb (q_e gb p_))); omega)⟩), (by rw [alw]; exact hrw)⟩⟩, h_ret g ht⟩, hS.F ht⟩) hS.2.2 dX12_readLine_232
              · have ic76 := (xi_ne c76 rfl (by decide) : v75.toInt ≠ 3)
                refine lv_aload_n hx hb dX12_readLine_221 rfl (lv_at hl 2 rfl) ?_
                refine lv_iconst (v := 1) hx hb dX12_readLine_222 (by decide) ?_
                refine va_calli (va_runV (As := [.int 1]) (rest := []) ⟨hx, hb, hml, hown, hts⟩ (tX12_failsF l E X A z I71 L0 a0 t_a0 1 (1) (by decide)) (cwV 1 hts gX12_readLine_X12_fails rfl rfl rfl (by decide +kernel) ⟨Nat.le_of_ble_eq_true rfl, Nat.le_of_ble_eq_true rfl⟩) ⟨h_blind _ _ _ _ _ _ _, h_recv g t_a0 (by decide) so_13 (q := (RX12, TX12, 51)) rfl, h_pre _ hE hk hX hA hI hR g⟩ rfl rfl hl.1 rfl (lv_room (Nat.le_of_ble_eq_true rfl)) dX12_readLine_223 ⟨Nat.le_of_ble_eq_true rfl, Nat.le_of_ble_eq_true rfl⟩) g.2.1 (fun q _ h => h) (fun q h => h) (fun rh79 I80 t H1 locs ht hvm h79 hB hz1 hk1 hS => ?_)
                obtain ⟨hI, fh79, h79⟩ := h79
                replace g := h_after g hB ht hS
                generalize H1 = H at g
                clear hB hk1 hz1 ht hvm hS
                have hF := hF.call fh79 rfl
                obtain ⟨h79, h79p0⟩ := h79
                have h168 : (I80 lw 168).toInt = (u_ 8) := by rw [fh79.at tlw rfl]; exact h168
                have hrv : h_rv I80 lw (q_up (q_up u_ ((4 : Int)).toNat (q_v gb (q_e gb p_))) ((5 : Int)).toNat (q_v gb (q_e gb (q_e gb p_)))) := hrv.c (fun k _ => fh79.at tlw rfl)
                have hrw : ∀ k : Nat, (k < 160 ∨ 176 ≤ k) → I80 lw k = I0 lw k := fun k hk => (fh79.at tlw rfl).trans (hrw k hk)
                have hS := g.2.1
                exact W.zret (v := rh79) hx hb hr (h_nb (by omega) (by omega)).1 (fun t ht hW => ⟨⟨rh79, I80, rfl, ⟨hI, hF, ⟨⟨(by omega), (by omega)⟩, (by rw [abt, ← egb, alw]; have R : q_line gb p_ T_ u_ = (1, q_a gb (q_e gb (q_e gb (q_e gb p_))), (q_e gb (q_e gb (q_e gb p_))), (q_up (q_up u_ ((4 : Int)).toNat (q_v gb (q_e gb p_))) ((5 : Int)).toNat (q_v gb (q_e gb (q_e gb p_))))) := eq0.trans (q_ns_n (by omega)); rw [R]; exact Or.inr ⟨by omega, (by show (1 : Int) ≠ 0; decide), (by rw [h79p0.1]; exact (by decide : (1 : Int32).toInt = 1)), (by show (I80 a0 9).toInt = q_a gb (q_e gb (q_e gb (q_e gb p_))); rw [h79p0.2]; exact htc.1)⟩), (by rw [alw]; exact hrw)⟩⟩, h_ret g ht⟩, hS.F ht⟩) hS.2.2 dX12_readLine_226
      · have ic9 := (xi_nle c9 (by decide) rfl : v3.toInt < 4)
        refine lv_aload_n hx hb dX12_readLine_43 rfl (lv_at hl 1 rfl) ?_
        refine lv_iload_n hx hb dX12_readLine_44 rfl (lv_at hl 0 rfl) ?_
        refine lv_iload_n hx hb dX12_readLine_45 rfl (lv_at hl 0 rfl) ?_
        refine lv_iconst (v := 3) hx hb dX12_readLine_46 (by decide) ?_
        refine lv_icmp_ge (tgt := 54) hx hb dX12_readLine_47 (by decide) (fun c81 => ?_) (fun c81 => ?_)
        · have ic81 := (xi_le c81 (by decide) rfl : 3 ≤ v3.toInt)
          refine lv_iconst (v := 0) hx hb dX12_readLine_54 (by decide) ?_
          have eq0 : q_line gb p_ T_ u_ = q_ns gb (q_ln v3.toInt) (q_e gb p_) u_ := by rw [w07.2.2.1]; exact q_line_w w07.2.2.2 (by omega) (by omega) (by rw [← w07.2.2.1]; exact tf)
          rw [q_ln_a (w := v3.toInt) (by omega) (by omega), if_neg (by omega)] at eq0
          have hFo := hF
          refine lv_iload_n hx hb dX12_readLine_55 rfl (lv_at hl 0 rfl) ?_
          refine vp_callSi (W.runS (As := [.int v3]) (rest := [.int 0, .int v3, .ref a0]) ⟨hx, hb, hml, hown, hts⟩ (tX12_highF l E X A z I8 L0 v3 (v3.toInt) rfl) (va_cwS 1 hts gX12_readLine_X12_high rfl rfl rfl (by decide +kernel) ⟨Nat.le_of_ble_eq_true rfl, Nat.le_of_ble_eq_true rfl⟩) ⟨h_blind _ _ _ _ _ _ _, h_pre _ hE hk hX hA hI hR g⟩ rfl rfl hl.1 rfl (lv_room (Nat.le_of_ble_eq_true rfl)) dX12_readLine_56 ⟨Nat.le_of_ble_eq_true rfl, Nat.le_of_ble_eq_true rfl⟩) (fun rh82 h82 => ?_)
          have h82p0 := h82
          have jrh82 : -2147483648 ≤ rh82.toInt ∧ rh82.toInt ≤ 2147483647 := ⟨xi_lo _, Int.le_of_lt_add_one (xi_hi _)⟩
          refine va_calli (va_runV (As := [.int v3, .int 0, .int rh82]) (rest := []) ⟨hx, hb, hml, hown, hts⟩ (tX12_numberF7 l E X A z I8 L0 a0 t_a0 v3 (v3.toInt) rfl (by omega) 0 (0) (by decide) rh82 (rh82.toInt) rfl ((q_e gb p_)) (by rw [abt, show I8 bt = I0 bt from funext (fun k => hF.at tbt rfl), show I8 a0 2 = I0 a0 2 from hF.at t_a0 rfl, ← egb]; exact htc)) (cwV 3 hts gX12_readLine_X12_number rfl rfl rfl (by decide +kernel) ⟨Nat.le_of_ble_eq_true rfl, Nat.le_of_ble_eq_true rfl⟩) ⟨h_blind _ _ _ _ _ _ _, h_recv g t_a0 (by decide) so_13 (q := (RX12, TX12, 51)) rfl, h_pre _ hE hk hX hA hI hR g⟩ rfl rfl hl.1 rfl (lv_room (Nat.le_of_ble_eq_true rfl)) dX12_readLine_59 ⟨Nat.le_of_ble_eq_true rfl, Nat.le_of_ble_eq_true rfl⟩) g.2.1 (fun q _ h => h) (fun q h => h) (fun rh83 I84 t H1 locs ht hvm h83 hB hz1 hk1 hS => ?_)
          obtain ⟨hI, fh83, h83⟩ := h83
          replace g := h_after g hB ht hS
          generalize H1 = H at g
          clear hB hk1 hz1 ht hvm hS
          have hF := hF.call fh83 rfl
          obtain ⟨h83, h83p0, h83p1⟩ := h83
          rw [alw] at h83p1
          have h168 : (I84 lw 168).toInt = (u_ 8) := by rw [h83p1 168 (by omega)]; exact h168
          have hrw : ∀ k : Nat, (k < 160 ∨ 176 ≤ k) → I84 lw k = I0 lw k := fun k hk => (h83p1 k (by omega)).trans (hrw k hk)
          rw [abt, show I8 bt = I0 bt from funext (fun k => hFo.at tbt rfl), show I8 a0 2 = I0 a0 2 from hFo.at t_a0 rfl, ← egb, alw] at h83p0
          refine lv_istore_n (lv' := [(3, .int rh83), (2, .int v3), (0, .ref a0), (1, .int x)]) hx hb dX12_readLine_62 rfl hl (by decide) rfl (fun ls hl => ?_)
          refine lv_goto (tgt := 207) hx hb dX12_readLine_63 (by decide) ?_
          refine lv_iload_n hx hb dX12_readLine_207 rfl (lv_at hl 0 rfl) ?_
          refine lv_if_ne (tgt := 213) hx hb dX12_readLine_208 (by decide) (fun c85 => ?_) (fun c85 => ?_)
          · have ic85 := (xi_ne c85 rfl (by decide) : rh83.toInt ≠ 0)
            obtain ⟨n2, n3, n4, n5, n6, n7, n8⟩ : q_k gb (q_e gb p_) = 2 ∧ 0 ≤ q_v gb (q_e gb p_) ∧ q_v gb (q_e gb p_) ≤ rh82.toInt ∧ (I84 lw (160 + v3.toInt).toNat).toInt = q_v gb (q_e gb p_) ∧ h_tk gb I84 a0 (q_e gb (q_e gb p_)) ∧ I84 a0 8 = I8 a0 8 ∧ I84 a0 9 = I8 a0 9 := by rcases h83p0 with q | q | q; exact q.2; exact absurd q.1 (by omega); exact absurd q.1 (by omega)
            have hf : I84 a0 8 = I0 a0 8 ∧ I84 a0 9 = I0 a0 9 := ⟨n7.trans hf.1, n8.trans hf.2⟩
            have htc := n6
            have hw := n6
            unfold h_tk at hw
            have hrv : h_rv I84 lw (q_up u_ (v3.toInt).toNat (q_v gb (q_e gb p_))) := hrv.put (by omega) n5 h83p1
            have eq0 := eq0.trans (q_ns_k n2 (by omega) (by omega))
            have hFo := hF
            refine lv_aload_n hx hb dX12_readLine_213 rfl (lv_at hl 2 rfl) ?_
            refine h_get (v := .int (I84 a0 3)) hx hb hts iX12 hown g t_a0 (by decide) so_13 rfl 3 (by decide) (hts (.fieldLink RX12 146 "CapLeagueModel" "sort" "I") (by decide +kernel)) rfl dX12_readLine_214 rfl ?_
            refine lv_topi (fun v86 ev86 => ?_)
            have jv86 := hI.rd a0 3 t_a0 ev86 (rfl : h_bd 13 3 = ((-2147483648), 2147483647))
            have hu := htc
            unfold h_tk h_sc at hu
            rw [← ev86] at hu
            refine lv_iconst (v := 3) hx hb dX12_readLine_217 (by decide) ?_
            refine lv_icmp_eq (tgt := 227) hx hb dX12_readLine_218 (by decide) (fun c87 => ?_) (fun c87 => ?_)
            · have ic87 := (xi_eq c87 rfl (by decide) : v86.toInt = 3)
              refine lv_aload_n hx hb dX12_readLine_227 rfl (lv_at hl 2 rfl) ?_
              refine va_callv (va_runV (As := []) (rest := []) ⟨hx, hb, hml, hown, hts⟩ (tX12_scanF l E X A z I84 L0 a0 t_a0) (cwV 0 hts gX12_readLine_X12_scan rfl rfl rfl (by decide +kernel) ⟨Nat.le_of_ble_eq_true rfl, Nat.le_of_ble_eq_true rfl⟩) ⟨h_blind _ _ _ _ _ _ _, h_recv g t_a0 (by decide) so_13 (q := (RX12, TX12, 51)) rfl, h_pre _ hE hk hX hA hI hR g⟩ rfl rfl hl.1 rfl (lv_room (Nat.le_of_ble_eq_true rfl)) dX12_readLine_228 ⟨Nat.le_of_ble_eq_true rfl, Nat.le_of_ble_eq_true rfl⟩) g.2.1 (fun q _ h => h) (fun q h => h) (fun I89 t H1 locs ht hvm h88 hB hz1 hk1 hS => ?_)
              obtain ⟨hI, fh88, h88⟩ := h88
              replace g := h_after g hB ht hS
              generalize H1 = H at g
              clear hB hk1 hz1 ht hvm hS
              have hF := hF.call fh88 rfl
              have h88p0 := h88
              have h168 : (I89 lw 168).toInt = (u_ 8) := by rw [fh88.at tlw rfl]; exact h168
              have hrv : h_rv I89 lw (q_up u_ (v3.toInt).toNat (q_v gb (q_e gb p_))) := hrv.c (fun k _ => fh88.at tlw rfl)
              have hf : I89 a0 8 = I0 a0 8 ∧ I89 a0 9 = I0 a0 9 := ⟨(fh88.at t_a0 rfl).trans hf.1, (fh88.at t_a0 rfl).trans hf.2⟩
              have hrw : ∀ k : Nat, (k < 160 ∨ 176 ≤ k) → I89 lw k = I0 lw k := fun k hk => (fh88.at tlw rfl).trans (hrw k hk)
              rw [abt, show I84 bt = I0 bt from funext (fun k => hFo.at tbt rfl), show I84 a0 2 = I0 a0 2 from hFo.at t_a0 rfl, ← egb, htc.2.1] at h88p0
              have htc : h_tk gb I89 a0 (q_e gb (q_e gb (q_e gb p_))) := h88p0
              have hv := htc
              unfold h_tk at hv
              refine lv_iconst (v := 1) hx hb dX12_readLine_231 (by decide) ?_
              have hS := g.2.1
              exact W.zret (v := 1) hx hb hr (by decide) (fun t ht hW => ⟨⟨1, I89, rfl, ⟨hI, hF, ⟨⟨(by decide), (by decide)⟩, (by rw [abt, ← egb, alw]; have R : q_line gb p_ T_ u_ = (0, 0, q_e gb (q_e gb (q_e gb p_)), (q_up u_ (v3.toInt).toNat (q_v gb (q_e gb p_)))) := eq0.trans (q_ns_e (by omega)); rw [R]; exact Or.inl ⟨by decide, rfl, hrv.ru (by rw [h168, q_up_ne (by omega)]), htc, hf.1, hf.2, (by show p_ < q_e gb (q_e gb (q_e gb p_)); omega)⟩), (by rw [alw]; exact hrw)⟩⟩, h_ret g ht⟩, hS.F ht⟩) hS.2.2 dX12_readLine_232
            · have ic87 := (xi_ne c87 rfl (by decide) : v86.toInt ≠ 3)
              refine lv_aload_n hx hb dX12_readLine_221 rfl (lv_at hl 2 rfl) ?_
              refine lv_iconst (v := 1) hx hb dX12_readLine_222 (by decide) ?_
              refine va_calli (va_runV (As := [.int 1]) (rest := []) ⟨hx, hb, hml, hown, hts⟩ (tX12_failsF l E X A z I84 L0 a0 t_a0 1 (1) (by decide)) (cwV 1 hts gX12_readLine_X12_fails rfl rfl rfl (by decide +kernel) ⟨Nat.le_of_ble_eq_true rfl, Nat.le_of_ble_eq_true rfl⟩) ⟨h_blind _ _ _ _ _ _ _, h_recv g t_a0 (by decide) so_13 (q := (RX12, TX12, 51)) rfl, h_pre _ hE hk hX hA hI hR g⟩ rfl rfl hl.1 rfl (lv_room (Nat.le_of_ble_eq_true rfl)) dX12_readLine_223 ⟨Nat.le_of_ble_eq_true rfl, Nat.le_of_ble_eq_true rfl⟩) g.2.1 (fun q _ h => h) (fun q h => h) (fun rh90 I91 t H1 locs ht hvm h90 hB hz1 hk1 hS => ?_)
              obtain ⟨hI, fh90, h90⟩ := h90
              replace g := h_after g hB ht hS
              generalize H1 = H at g
              clear hB hk1 hz1 ht hvm hS
              have hF := hF.call fh90 rfl
              obtain ⟨h90, h90p0⟩ := h90
              have h168 : (I91 lw 168).toInt = (u_ 8) := by rw [fh90.at tlw rfl]; exact h168
              have hrv : h_rv I91 lw (q_up u_ (v3.toInt).toNat (q_v gb (q_e gb p_))) := hrv.c (fun k _ => fh90.at tlw rfl)
              have hrw : ∀ k : Nat, (k < 160 ∨ 176 ≤ k) → I91 lw k = I0 lw k := fun k hk => (fh90.at tlw rfl).trans (hrw k hk)
              have hS := g.2.1
              exact W.zret (v := rh90) hx hb hr (h_nb (by omega) (by omega)).1 (fun t ht hW => ⟨⟨rh90, I91, rfl, ⟨hI, hF, ⟨⟨(by omega), (by omega)⟩, (by rw [abt, ← egb, alw]; have R : q_line gb p_ T_ u_ = (1, q_a gb (q_e gb (q_e gb p_)), (q_e gb (q_e gb p_)), (q_up u_ (v3.toInt).toNat (q_v gb (q_e gb p_)))) := eq0.trans (q_ns_n (by omega)); rw [R]; exact Or.inr ⟨by omega, (by show (1 : Int) ≠ 0; decide), (by rw [h90p0.1]; exact (by decide : (1 : Int32).toInt = 1)), (by show (I91 a0 9).toInt = q_a gb (q_e gb (q_e gb p_)); rw [h90p0.2]; exact htc.1)⟩), (by rw [alw]; exact hrw)⟩⟩, h_ret g ht⟩, hS.F ht⟩) hS.2.2 dX12_readLine_226
          · have ic85 := (xi_eq c85 rfl (by decide) : rh83.toInt = 0)
            have nf : (q_k gb (q_e gb p_) ≠ 2 ∧ (I84 a0 8).toInt = 1 ∧ (I84 a0 9).toInt = q_a gb (q_e gb p_)) ∨ (q_k gb (q_e gb p_) = 2 ∧ (q_v gb (q_e gb p_) < 0 ∨ rh82.toInt < q_v gb (q_e gb p_)) ∧ (I84 a0 8).toInt = 2 ∧ (I84 a0 9).toInt = q_a gb (q_e gb p_)) := by rcases h83p0 with q | q | q; exact absurd q.1 (by omega); exact Or.inl q.2; exact Or.inr q.2
            refine lv_iconst (v := 0) hx hb dX12_readLine_211 (by decide) ?_
            have hS := g.2.1
            exact W.zret (v := 0) hx hb hr (by decide) (fun t ht hW => ⟨⟨0, I84, rfl, ⟨hI, hF, ⟨⟨(by decide), (by decide)⟩, (by rw [abt, ← egb, alw]; rcases nf with ⟨n1, n2, n3⟩ | ⟨n1, n2, n3, n4⟩; have R : q_line gb p_ T_ u_ = (1, q_a gb (q_e gb p_), (q_e gb p_), u_) := eq0.trans (q_ns_g1 (by omega)); rw [R]; exact Or.inr ⟨by decide, (by show (1 : Int) ≠ 0; decide), n2, n3⟩; have R : q_line gb p_ T_ u_ = (2, q_a gb (q_e gb p_), (q_e gb p_), u_) := eq0.trans (q_ns_g2 (by omega) (by omega)); rw [R]; exact Or.inr ⟨by decide, (by show (2 : Int) ≠ 0; decide), n3, n4⟩), (by rw [alw]; exact hrw)⟩⟩, h_ret g ht⟩, hS.F ht⟩) hS.2.2 dX12_readLine_212
        · have ic81 := (xi_nle c81 (by decide) rfl : v3.toInt < 3)
          refine lv_iconst (v := 1) hx hb dX12_readLine_50 (by decide) ?_
          refine lv_goto (tgt := 55) hx hb dX12_readLine_51 (by decide) ?_
          have eq0 : q_line gb p_ T_ u_ = q_ns gb (q_ln v3.toInt) (q_e gb p_) u_ := by rw [w07.2.2.1]; exact q_line_w w07.2.2.2 (by omega) (by omega) (by rw [← w07.2.2.1]; exact tf)
          rw [q_ln_a (w := v3.toInt) (by omega) (by omega), if_pos (by omega)] at eq0
          have hFo := hF
          refine lv_iload_n hx hb dX12_readLine_55 rfl (lv_at hl 0 rfl) ?_
          refine vp_callSi (W.runS (As := [.int v3]) (rest := [.int 1, .int v3, .ref a0]) ⟨hx, hb, hml, hown, hts⟩ (tX12_highF l E X A z I8 L0 v3 (v3.toInt) rfl) (va_cwS 1 hts gX12_readLine_X12_high rfl rfl rfl (by decide +kernel) ⟨Nat.le_of_ble_eq_true rfl, Nat.le_of_ble_eq_true rfl⟩) ⟨h_blind _ _ _ _ _ _ _, h_pre _ hE hk hX hA hI hR g⟩ rfl rfl hl.1 rfl (lv_room (Nat.le_of_ble_eq_true rfl)) dX12_readLine_56 ⟨Nat.le_of_ble_eq_true rfl, Nat.le_of_ble_eq_true rfl⟩) (fun rh92 h92 => ?_)
          have h92p0 := h92
          have jrh92 : -2147483648 ≤ rh92.toInt ∧ rh92.toInt ≤ 2147483647 := ⟨xi_lo _, Int.le_of_lt_add_one (xi_hi _)⟩
          refine va_calli (va_runV (As := [.int v3, .int 1, .int rh92]) (rest := []) ⟨hx, hb, hml, hown, hts⟩ (tX12_numberF7 l E X A z I8 L0 a0 t_a0 v3 (v3.toInt) rfl (by omega) 1 (1) (by decide) rh92 (rh92.toInt) rfl ((q_e gb p_)) (by rw [abt, show I8 bt = I0 bt from funext (fun k => hF.at tbt rfl), show I8 a0 2 = I0 a0 2 from hF.at t_a0 rfl, ← egb]; exact htc)) (cwV 3 hts gX12_readLine_X12_number rfl rfl rfl (by decide +kernel) ⟨Nat.le_of_ble_eq_true rfl, Nat.le_of_ble_eq_true rfl⟩) ⟨h_blind _ _ _ _ _ _ _, h_recv g t_a0 (by decide) so_13 (q := (RX12, TX12, 51)) rfl, h_pre _ hE hk hX hA hI hR g⟩ rfl rfl hl.1 rfl (lv_room (Nat.le_of_ble_eq_true rfl)) dX12_readLine_59 ⟨Nat.le_of_ble_eq_true rfl, Nat.le_of_ble_eq_true rfl⟩) g.2.1 (fun q _ h => h) (fun q h => h) (fun rh93 I94 t H1 locs ht hvm h93 hB hz1 hk1 hS => ?_)
          obtain ⟨hI, fh93, h93⟩ := h93
          replace g := h_after g hB ht hS
          generalize H1 = H at g
          clear hB hk1 hz1 ht hvm hS
          have hF := hF.call fh93 rfl
          obtain ⟨h93, h93p0, h93p1⟩ := h93
          rw [alw] at h93p1
          have h168 : (I94 lw 168).toInt = (u_ 8) := by rw [h93p1 168 (by omega)]; exact h168
          have hrw : ∀ k : Nat, (k < 160 ∨ 176 ≤ k) → I94 lw k = I0 lw k := fun k hk => (h93p1 k (by omega)).trans (hrw k hk)
          rw [abt, show I8 bt = I0 bt from funext (fun k => hFo.at tbt rfl), show I8 a0 2 = I0 a0 2 from hFo.at t_a0 rfl, ← egb, alw] at h93p0
          refine lv_istore_n (lv' := [(3, .int rh93), (2, .int v3), (0, .ref a0), (1, .int x)]) hx hb dX12_readLine_62 rfl hl (by decide) rfl (fun ls hl => ?_)
          refine lv_goto (tgt := 207) hx hb dX12_readLine_63 (by decide) ?_
          refine lv_iload_n hx hb dX12_readLine_207 rfl (lv_at hl 0 rfl) ?_
          refine lv_if_ne (tgt := 213) hx hb dX12_readLine_208 (by decide) (fun c95 => ?_) (fun c95 => ?_)
          · have ic95 := (xi_ne c95 rfl (by decide) : rh93.toInt ≠ 0)
            obtain ⟨n2, n3, n4, n5, n6, n7, n8⟩ : q_k gb (q_e gb p_) = 2 ∧ 1 ≤ q_v gb (q_e gb p_) ∧ q_v gb (q_e gb p_) ≤ rh92.toInt ∧ (I94 lw (160 + v3.toInt).toNat).toInt = q_v gb (q_e gb p_) ∧ h_tk gb I94 a0 (q_e gb (q_e gb p_)) ∧ I94 a0 8 = I8 a0 8 ∧ I94 a0 9 = I8 a0 9 := by rcases h93p0 with q | q | q; exact q.2; exact absurd q.1 (by omega); exact absurd q.1 (by omega)
            have hf : I94 a0 8 = I0 a0 8 ∧ I94 a0 9 = I0 a0 9 := ⟨n7.trans hf.1, n8.trans hf.2⟩
            have htc := n6
            have hw := n6
            unfold h_tk at hw
            have hrv : h_rv I94 lw (q_up u_ (v3.toInt).toNat (q_v gb (q_e gb p_))) := hrv.put (by omega) n5 h93p1
            have eq0 := eq0.trans (q_ns_k n2 (by omega) (by omega))
            have hFo := hF
            refine lv_aload_n hx hb dX12_readLine_213 rfl (lv_at hl 2 rfl) ?_
            refine h_get (v := .int (I94 a0 3)) hx hb hts iX12 hown g t_a0 (by decide) so_13 rfl 3 (by decide) (hts (.fieldLink RX12 146 "CapLeagueModel" "sort" "I") (by decide +kernel)) rfl dX12_readLine_214 rfl ?_
            refine lv_topi (fun v96 ev96 => ?_)
            have jv96 := hI.rd a0 3 t_a0 ev96 (rfl : h_bd 13 3 = ((-2147483648), 2147483647))
            have hu := htc
            unfold h_tk h_sc at hu
            rw [← ev96] at hu
            refine lv_iconst (v := 3) hx hb dX12_readLine_217 (by decide) ?_
            refine lv_icmp_eq (tgt := 227) hx hb dX12_readLine_218 (by decide) (fun c97 => ?_) (fun c97 => ?_)
            · have ic97 := (xi_eq c97 rfl (by decide) : v96.toInt = 3)
              refine lv_aload_n hx hb dX12_readLine_227 rfl (lv_at hl 2 rfl) ?_
              refine va_callv (va_runV (As := []) (rest := []) ⟨hx, hb, hml, hown, hts⟩ (tX12_scanF l E X A z I94 L0 a0 t_a0) (cwV 0 hts gX12_readLine_X12_scan rfl rfl rfl (by decide +kernel) ⟨Nat.le_of_ble_eq_true rfl, Nat.le_of_ble_eq_true rfl⟩) ⟨h_blind _ _ _ _ _ _ _, h_recv g t_a0 (by decide) so_13 (q := (RX12, TX12, 51)) rfl, h_pre _ hE hk hX hA hI hR g⟩ rfl rfl hl.1 rfl (lv_room (Nat.le_of_ble_eq_true rfl)) dX12_readLine_228 ⟨Nat.le_of_ble_eq_true rfl, Nat.le_of_ble_eq_true rfl⟩) g.2.1 (fun q _ h => h) (fun q h => h) (fun I99 t H1 locs ht hvm h98 hB hz1 hk1 hS => ?_)
              obtain ⟨hI, fh98, h98⟩ := h98
              replace g := h_after g hB ht hS
              generalize H1 = H at g
              clear hB hk1 hz1 ht hvm hS
              have hF := hF.call fh98 rfl
              have h98p0 := h98
              have h168 : (I99 lw 168).toInt = (u_ 8) := by rw [fh98.at tlw rfl]; exact h168
              have hrv : h_rv I99 lw (q_up u_ (v3.toInt).toNat (q_v gb (q_e gb p_))) := hrv.c (fun k _ => fh98.at tlw rfl)
              have hf : I99 a0 8 = I0 a0 8 ∧ I99 a0 9 = I0 a0 9 := ⟨(fh98.at t_a0 rfl).trans hf.1, (fh98.at t_a0 rfl).trans hf.2⟩
              have hrw : ∀ k : Nat, (k < 160 ∨ 176 ≤ k) → I99 lw k = I0 lw k := fun k hk => (fh98.at tlw rfl).trans (hrw k hk)
              rw [abt, show I94 bt = I0 bt from funext (fun k => hFo.at tbt rfl), show I94 a0 2 = I0 a0 2 from hFo.at t_a0 rfl, ← egb, htc.2.1] at h98p0
              have htc : h_tk gb I99 a0 (q_e gb (q_e gb (q_e gb p_))) := h98p0
              have hv := htc
              unfold h_tk at hv
              refine lv_iconst (v := 1) hx hb dX12_readLine_231 (by decide) ?_
              have hS := g.2.1
              exact W.zret (v := 1) hx hb hr (by decide) (fun t ht hW => ⟨⟨1, I99, rfl, ⟨hI, hF, ⟨⟨(by decide), (by decide)⟩, (by rw [abt, ← egb, alw]; have R : q_line gb p_ T_ u_ = (0, 0, q_e gb (q_e gb (q_e gb p_)), (q_up u_ (v3.toInt).toNat (q_v gb (q_e gb p_)))) := eq0.trans (q_ns_e (by omega)); rw [R]; exact Or.inl ⟨by decide, rfl, hrv.ru (by rw [h168, q_up_ne (by omega)]), htc, hf.1, hf.2, (by show p_ < q_e gb (q_e gb (q_e gb p_)); omega)⟩), (by rw [alw]; exact hrw)⟩⟩, h_ret g ht⟩, hS.F ht⟩) hS.2.2 dX12_readLine_232
            · have ic97 := (xi_ne c97 rfl (by decide) : v96.toInt ≠ 3)
              refine lv_aload_n hx hb dX12_readLine_221 rfl (lv_at hl 2 rfl) ?_
              refine lv_iconst (v := 1) hx hb dX12_readLine_222 (by decide) ?_
              refine va_calli (va_runV (As := [.int 1]) (rest := []) ⟨hx, hb, hml, hown, hts⟩ (tX12_failsF l E X A z I94 L0 a0 t_a0 1 (1) (by decide)) (cwV 1 hts gX12_readLine_X12_fails rfl rfl rfl (by decide +kernel) ⟨Nat.le_of_ble_eq_true rfl, Nat.le_of_ble_eq_true rfl⟩) ⟨h_blind _ _ _ _ _ _ _, h_recv g t_a0 (by decide) so_13 (q := (RX12, TX12, 51)) rfl, h_pre _ hE hk hX hA hI hR g⟩ rfl rfl hl.1 rfl (lv_room (Nat.le_of_ble_eq_true rfl)) dX12_readLine_223 ⟨Nat.le_of_ble_eq_true rfl, Nat.le_of_ble_eq_true rfl⟩) g.2.1 (fun q _ h => h) (fun q h => h) (fun rh100 I101 t H1 locs ht hvm h100 hB hz1 hk1 hS => ?_)
              obtain ⟨hI, fh100, h100⟩ := h100
              replace g := h_after g hB ht hS
              generalize H1 = H at g
              clear hB hk1 hz1 ht hvm hS
              have hF := hF.call fh100 rfl
              obtain ⟨h100, h100p0⟩ := h100
              have h168 : (I101 lw 168).toInt = (u_ 8) := by rw [fh100.at tlw rfl]; exact h168
              have hrv : h_rv I101 lw (q_up u_ (v3.toInt).toNat (q_v gb (q_e gb p_))) := hrv.c (fun k _ => fh100.at tlw rfl)
              have hrw : ∀ k : Nat, (k < 160 ∨ 176 ≤ k) → I101 lw k = I0 lw k := fun k hk => (fh100.at tlw rfl).trans (hrw k hk)
              have hS := g.2.1
              exact W.zret (v := rh100) hx hb hr (h_nb (by omega) (by omega)).1 (fun t ht hW => ⟨⟨rh100, I101, rfl, ⟨hI, hF, ⟨⟨(by omega), (by omega)⟩, (by rw [abt, ← egb, alw]; have R : q_line gb p_ T_ u_ = (1, q_a gb (q_e gb (q_e gb p_)), (q_e gb (q_e gb p_)), (q_up u_ (v3.toInt).toNat (q_v gb (q_e gb p_)))) := eq0.trans (q_ns_n (by omega)); rw [R]; exact Or.inr ⟨by omega, (by show (1 : Int) ≠ 0; decide), (by rw [h100p0.1]; exact (by decide : (1 : Int32).toInt = 1)), (by show (I101 a0 9).toInt = q_a gb (q_e gb (q_e gb p_)); rw [h100p0.2]; exact htc.1)⟩), (by rw [alw]; exact hrw)⟩⟩, h_ret g ht⟩, hS.F ht⟩) hS.2.2 dX12_readLine_226
          · have ic95 := (xi_eq c95 rfl (by decide) : rh93.toInt = 0)
            have nf : (q_k gb (q_e gb p_) ≠ 2 ∧ (I94 a0 8).toInt = 1 ∧ (I94 a0 9).toInt = q_a gb (q_e gb p_)) ∨ (q_k gb (q_e gb p_) = 2 ∧ (q_v gb (q_e gb p_) < 1 ∨ rh92.toInt < q_v gb (q_e gb p_)) ∧ (I94 a0 8).toInt = 2 ∧ (I94 a0 9).toInt = q_a gb (q_e gb p_)) := by rcases h93p0 with q | q | q; exact absurd q.1 (by omega); exact Or.inl q.2; exact Or.inr q.2
            refine lv_iconst (v := 0) hx hb dX12_readLine_211 (by decide) ?_
            have hS := g.2.1
            exact W.zret (v := 0) hx hb hr (by decide) (fun t ht hW => ⟨⟨0, I94, rfl, ⟨hI, hF, ⟨⟨(by decide), (by decide)⟩, (by rw [abt, ← egb, alw]; rcases nf with ⟨n1, n2, n3⟩ | ⟨n1, n2, n3, n4⟩; have R : q_line gb p_ T_ u_ = (1, q_a gb (q_e gb p_), (q_e gb p_), u_) := eq0.trans (q_ns_g1 (by omega)); rw [R]; exact Or.inr ⟨by decide, (by show (1 : Int) ≠ 0; decide), n2, n3⟩; have R : q_line gb p_ T_ u_ = (2, q_a gb (q_e gb p_), (q_e gb p_), u_) := eq0.trans (q_ns_g2 (by omega) (by omega)); rw [R]; exact Or.inr ⟨by decide, (by show (2 : Int) ≠ 0; decide), n3, n4⟩), (by rw [alw]; exact hrw)⟩⟩, h_ret g ht⟩, hS.F ht⟩) hS.2.2 dX12_readLine_212
    · have ic6 := (xi_eq c6 rfl (by decide) : v5.toInt = 1)
      refine lv_aload_n hx hb dX12_readLine_28 rfl (lv_at hl 1 rfl) ?_
      refine lv_iconst (v := 3) hx hb dX12_readLine_29 (by decide) ?_
      refine va_calli (va_runV (As := [.int 3]) (rest := []) ⟨hx, hb, hml, hown, hts⟩ (tX12_failsF l E X A z I0 L0 a0 t_a0 3 (3) (by decide)) (cwV 1 hts gX12_readLine_X12_fails rfl rfl rfl (by decide +kernel) ⟨Nat.le_of_ble_eq_true rfl, Nat.le_of_ble_eq_true rfl⟩) ⟨h_blind _ _ _ _ _ _ _, h_recv g t_a0 (by decide) so_13 (q := (RX12, TX12, 51)) rfl, h_pre _ hE hk hX hA hI hR g⟩ rfl rfl hl.1 rfl (lv_room (Nat.le_of_ble_eq_true rfl)) dX12_readLine_30 ⟨Nat.le_of_ble_eq_true rfl, Nat.le_of_ble_eq_true rfl⟩) g.2.1 (fun q _ h => h) (fun q h => h) (fun rh102 I103 t H1 locs ht hvm h102 hB hz1 hk1 hS => ?_)
      obtain ⟨hI, fh102, h102⟩ := h102
      replace g := h_after g hB ht hS
      generalize H1 = H at g
      clear hB hk1 hz1 ht hvm hS
      have hF := hF.call fh102 rfl
      obtain ⟨h102, h102p0⟩ := h102
      have h168 : (I103 lw 168).toInt = (u_ 8) := by rw [fh102.at tlw rfl]; exact h168
      have hrv : h_rv I103 lw u_ := hrv.c (fun k _ => fh102.at tlw rfl)
      have hrw : ∀ k : Nat, (k < 160 ∨ 176 ≤ k) → I103 lw k = I0 lw k := fun k hk => (fh102.at tlw rfl).trans (hrw k hk)
      have hS := g.2.1
      exact W.zret (v := rh102) hx hb hr (h_nb (by omega) (by omega)).1 (fun t ht hW => ⟨⟨rh102, I103, rfl, ⟨hI, hF, ⟨⟨(by omega), (by omega)⟩, (by rw [abt, ← egb, alw]; have R : q_line gb p_ T_ u_ = (3, q_a gb p_, p_, u_) := q_line_f3 w07.2.2.2 (by omega) (by rw [← w07.2.2.1]; rcases tg with q | q; exact q.2; exact absurd (by omega) q.1); rw [R]; exact Or.inr ⟨by omega, (by show (3 : Int) ≠ 0; decide), (by rw [h102p0.1]; exact (by decide : (3 : Int32).toInt = 3)), (by show (I103 a0 9).toInt = q_a gb p_; rw [h102p0.2]; exact htc.1)⟩), (by rw [alw]; exact hrw)⟩⟩, h_ret g ht⟩, hS.F ht⟩) hS.2.2 dX12_readLine_33
  · have ic2 := (xi_ne c2 rfl (by decide) : v1.toInt ≠ 1)
    refine lv_aload_n hx hb dX12_readLine_8 rfl (lv_at hl 0 rfl) ?_
    refine lv_iconst (v := 1) hx hb dX12_readLine_9 (by decide) ?_
    refine va_calli (va_runV (As := [.int 1]) (rest := []) ⟨hx, hb, hml, hown, hts⟩ (tX12_failsF l E X A z I0 L0 a0 t_a0 1 (1) (by decide)) (cwV 1 hts gX12_readLine_X12_fails rfl rfl rfl (by decide +kernel) ⟨Nat.le_of_ble_eq_true rfl, Nat.le_of_ble_eq_true rfl⟩) ⟨h_blind _ _ _ _ _ _ _, h_recv g t_a0 (by decide) so_13 (q := (RX12, TX12, 51)) rfl, h_pre _ hE hk hX hA hI hR g⟩ rfl rfl hl.1 rfl (lv_room (Nat.le_of_ble_eq_true rfl)) dX12_readLine_10 ⟨Nat.le_of_ble_eq_true rfl, Nat.le_of_ble_eq_true rfl⟩) g.2.1 (fun q _ h => h) (fun q h => h) (fun rh104 I105 t H1 locs ht hvm h104 hB hz1 hk1 hS => ?_)
    obtain ⟨hI, fh104, h104⟩ := h104
    replace g := h_after g hB ht hS
    generalize H1 = H at g
    clear hB hk1 hz1 ht hvm hS
    have hF := hF.call fh104 rfl
    obtain ⟨h104, h104p0⟩ := h104
    have h168 : (I105 lw 168).toInt = (u_ 8) := by rw [fh104.at tlw rfl]; exact h168
    have hrv : h_rv I105 lw u_ := hrv.c (fun k _ => fh104.at tlw rfl)
    have hrw : ∀ k : Nat, (k < 160 ∨ 176 ≤ k) → I105 lw k = I0 lw k := fun k hk => (fh104.at tlw rfl).trans (hrw k hk)
    have hS := g.2.1
    exact W.zret (v := rh104) hx hb hr (h_nb (by omega) (by omega)).1 (fun t ht hW => ⟨⟨rh104, I105, rfl, ⟨hI, hF, ⟨⟨(by omega), (by omega)⟩, (by rw [abt, ← egb, alw]; have R : q_line gb p_ T_ u_ = (1, q_a gb p_, p_, u_) := q_line_f1 (by omega); rw [R]; exact Or.inr ⟨by omega, (by show (1 : Int) ≠ 0; decide), (by rw [h104p0.1]; exact (by decide : (1 : Int32).toInt = 1)), (by show (I105 a0 9).toInt = q_a gb p_; rw [h104p0.2]; exact htc.1)⟩), (by rw [alw]; exact hrw)⟩⟩, h_ret g ht⟩, hS.F ht⟩) hS.2.2 dX12_readLine_13

