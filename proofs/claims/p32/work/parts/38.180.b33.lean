set_option maxHeartbeats 4000000 in
set_option maxRecDepth 100000 in
theorem tX0_shareFinesB (l : Launch) (E : tE) (X : tX) (A : Nat → Prop) (z : tZ) (I0 : tI) (L0 : tL) (a0 : Nat) (t_a0 : z.ty a0 = 1) (u_ : Nat → Int) (hcl : ∀ b : Nat, h_of (z.R (h_ad z (h_ad z a0 0) 1)) (h_ad z (h_ad z a0 0) 0) (I0 a0 3).toInt b → h_lw I0 b (h_ad z b 0) (h_ad z b 1) u_) (hob : q_okb u_) (hnn : ∀ p : Nat, (p : Int) < (I0 a0 2).toInt → z.R (h_ad z a0 1) p ≠ none) (hcm : ∀ c : Nat, c < 8 → 0 ≤ (c_cnt z I0 a0 (c : Int) (I0 a0 3) (u_ 6)).toInt ∧ (c_cnt z I0 a0 (c : Int) (I0 a0 3) (u_ 6)).toInt ≤ 7100000) : Met l yX0_shareFines wsX0_shareFines ({ frames := 5, cells := 0, slots := 0, locals := 320 }) (va_Pc [.ref a0] (h_P E X A z I0 L0)) (va_Qv (fun (I1 : tI) => h_I z I1 ∧ h_F [(108, 999), (106, 999), (1, 7)] z I0 I1 ∧ ((∀ k : Nat, k < 8 → I1 (h_ad z a0 6) k = q_fnd (I0 (h_ad z a0 6)) (c_ab z I0 a0 u_) (q_fin (c_ab z I0 a0 u_) (u_ 7)) k) ∧ I1 a0 7 = q_lft (I0 a0 7) (c_ab z I0 a0 u_) (q_fin (c_ab z I0 a0 u_) (u_ 7)))) (fun (I1 : tI) t => h_B E A z I1 L0 t) A) 0 0 A := by
  refine Met.ofW (cc := cX0_shareFines) (maxL := 5) (ret := none) (by decide) rfl ?_
  intro pr_ ev_ s m args below meth cd_ s₁ B hml hv
  obtain ⟨rfl, hE, hk, hX, hA, hK, hI, hR, hB0⟩ := hv
  have g : h_G h_so h_fk E A z I0 L0 s s.heap s.heap [] := ⟨hK, va_S.rf, hB0⟩
  have hF : h_F [(108, 999), (106, 999), (1, 7)] z I0 I0 := h_F.rf
  have hx := B.exec
  have hb := B.bytes
  have hr := B.returns
  have hts := atoms_spec (ws := wsX0_shareFines) B.pre
  have hown : s.vm.findClass RX0 = some m.cls := findClass_of_methodNamed B.named
  have hlocks := B.notSynchronized
  have iX0 : ∀ w ∈ u_ws RX0 TX0 9, w ∈ wsX0_shareFines := by decide +kernel
  have hl := lv_entry ([.ref a0]) (n := 5) (Nat.le_of_ble_eq_true rfl)
  rw [lg_entry_eq]
  generalize (lg_sl ([.ref a0]) ++ List.replicate (5 - (lg_sl ([.ref a0])).length) Slot.unset).toArray = ls at hl ⊢
  have hl : lv_has ls 5 [(0, .ref a0)] := hl
  obtain ⟨lb, rlb, tlb⟩ := hR.at a0 0 t_a0 (rfl : h_rs 1 0 = some (4, false)) (by decide)
  have alb : h_ad z a0 0 = lb := h_ad.at rlb
  obtain ⟨un, run, tun⟩ := hR.at lb 0 tlb (rfl : h_rs 4 0 = some (6, false)) (by decide)
  have aun : h_ad z lb 0 = un := h_ad.at run
  obtain ⟨tx, rtx, ttx⟩ := hR.at lb 1 tlb (rfl : h_rs 4 1 = some (401, false)) (by decide)
  have atx : h_ad z lb 1 = tx := h_ad.at rtx
  obtain ⟨pl, rpl, tpl⟩ := hR.at a0 1 t_a0 (rfl : h_rs 1 1 = some (101, false)) (by decide)
  have apl : h_ad z a0 1 = pl := h_ad.at rpl
  obtain ⟨fi, rfi, tfi⟩ := hR.at a0 6 t_a0 (rfl : h_rs 1 6 = some (106, false)) (by decide)
  have afi : h_ad z a0 6 = fi := h_ad.at rfi
  obtain ⟨ab, rab, tab⟩ := hR.at a0 8 t_a0 (rfl : h_rs 1 8 = some (108, false)) (by decide)
  have aab : h_ad z a0 8 = ab := h_ad.at rab
  obtain ⟨f0_3, ef0_3⟩ : ∃ v : Int32, v = I0 a0 3 := ⟨_, rfl⟩
  have qf0_3 : (I0 a0 3).toInt = f0_3.toInt := congrArg Int32.toInt ef0_3.symm
  have jf0_3 := hI.rd a0 3 t_a0 ef0_3 (rfl : h_bd 1 3 = (0, 9))
  obtain ⟨f0_2, ef0_2⟩ : ∃ v : Int32, v = I0 a0 2 := ⟨_, rfl⟩
  have qf0_2 : (I0 a0 2).toInt = f0_2.toInt := congrArg Int32.toInt ef0_2.symm
  have jf0_2 := hI.rd a0 2 t_a0 ef0_2 (rfl : h_bd 1 2 = (0, 60))
  obtain ⟨f0_7, ef0_7⟩ : ∃ v : Int32, v = I0 a0 7 := ⟨_, rfl⟩
  have qf0_7 : (I0 a0 7).toInt = f0_7.toInt := congrArg Int32.toInt ef0_7.symm
  have jf0_7 := hI.rd a0 7 t_a0 ef0_7 (rfl : h_bd 1 7 = ((-2147483648), 2147483647))
  have hcl0 := hcl
  rw [alb, aun, atx, qf0_3] at hcl
  have hnn0 := hnn
  rw [apl, qf0_2] at hnn
  obtain ⟨AA, eAA⟩ : ∃ g : Nat → Int32, g = c_ab z I0 a0 u_ := ⟨_, rfl⟩
  obtain ⟨FF, eFF⟩ : ∃ g : Nat → Int32, g = q_fin (c_ab z I0 a0 u_) (u_ 7) := ⟨_, rfl⟩
  refine lv_iconst (v := 0) hx hb dX0_shareFines_0 (by decide) ?_
  refine lv_istore_n (lv' := [(1, .int 0), (0, .ref a0)]) hx hb dX0_shareFines_1 rfl hl (by decide) rfl (fun ls hl => ?_)
  refine lv_iconst (v := 0) hx hb dX0_shareFines_2 (by decide) ?_
  refine lv_istore_n (lv' := [(2, .int 0), (1, .int 0), (0, .ref a0)]) hx hb dX0_shareFines_3 rfl hl (by decide) rfl (fun ls hl => ?_)
  refine lv_iconst (v := 0) hx hb dX0_shareFines_4 (by decide) ?_
  refine lv_istore_n (lv' := [(3, .int 0), (2, .int 0), (1, .int 0), (0, .ref a0)]) hx hb dX0_shareFines_5 rfl hl (by decide) rfl (fun ls hl => ?_)
  have loop6_0 : ∀ (n : Nat) (I4 : tI) (H : Heap) (locs : List Loc) (ls : Array Slot) (v1 v2 v3 : Int32), h_G h_so h_fk E A z I4 L0 s s.heap H locs → h_I z I4 → h_F [(108, 999), (106, 999), (1, 7)] z I0 I4 → lv_has ls 5 [(0, .ref a0), (1, .int v1), (2, .int v2), (3, .int v3)] → ((-2147483648) ≤ v1.toInt ∧ v1.toInt ≤ 2147483647) → (0 ≤ v2.toInt ∧ v2.toInt ≤ 8) → (0 ≤ v3.toInt ∧ v3.toInt ≤ 8) → h_F [(108, 999), (106, 999)] z I0 I4 → (v1 = q_sums 0 FF (v3.toInt).toNat) → (v2.toInt = q_nz AA (v3.toInt).toNat) → (∀ k : Nat, (k : Int) < v3.toInt → I4 ab k = AA k) → (∀ k : Nat, I4 fi k = if (k : Int) < v3.toInt then I0 fi k + FF k else I0 fi k) → (8 - v3.toInt) < (n : Int) → W pr_ l ev_ (headSpec wsX0_shareFines ({ frames := 5, cells := 0, slots := 0, locals := 320 })).room s m ([.ref a0] : List Value).toArray below meth cd_ H locs 0 0 (MQ below (va_Qv (fun (I1 : tI) => h_I z I1 ∧ h_F [(108, 999), (106, 999), (1, 7)] z I0 I1 ∧ ((∀ k : Nat, k < 8 → I1 (h_ad z a0 6) k = q_fnd (I0 (h_ad z a0 6)) (c_ab z I0 a0 u_) (q_fin (c_ab z I0 a0 u_) (u_ 7)) k) ∧ I1 a0 7 = q_lft (I0 a0 7) (c_ab z I0 a0 u_) (q_fin (c_ab z I0 a0 u_) (u_ 7)))) (fun (I1 : tI) t => h_B E A z I1 L0 t) A) ([.ref a0] : List Value).toArray s 0 0 A) (F0 m 6 ls []) := by
    intro n
    induction n with
    | zero => intro I4 H locs ls v1 v2 v3 g hI hF hl jv1 jv2 jv3 hL6 hx6_0 hx6_1 hx6_2 hx6_3 hn; exact absurd hn (by omega)
    | succ n ih6 =>
      intro I4 H locs ls v1 v2 v3 g hI hF hl jv1 jv2 jv3 hL6 hx6_0 hx6_1 hx6_2 hx6_3 hn
      have kv : v3.toNatClampNeg = v3.toInt.toNat := h_keq rfl (by omega) (by omega)
      have nzb := q_nz_b AA v3.toInt.toNat
      refine lv_iload_n hx hb dX0_shareFines_6 rfl (lv_at hl 3 rfl) ?_
      refine lv_bipush (v := 8) hx hb dX0_shareFines_7 (by decide) ?_
      refine lv_icmp_ge (tgt := 99) hx hb dX0_shareFines_9 (by decide) (fun c5 => ?_) (fun c5 => ?_)
      · have ic5 := (xi_le c5 (by decide) rfl : 8 ≤ v3.toInt)
        have k8 : v3.toInt.toNat = 8 := by omega
        rw [k8] at hx6_0 hx6_1
        refine lv_iload_n hx hb dX0_shareFines_99 rfl (lv_at hl 2 rfl) ?_
        refine lv_if_le (tgt := 109) hx hb dX0_shareFines_100 (by decide) (fun c6 => ?_) (fun c6 => ?_)
        · have ic6 := (xi_le c6 rfl (by decide) : v2.toInt ≤ 0)
          refine lv_iconst (v := 0) hx hb dX0_shareFines_109 (by decide) ?_
          have shE : (0 : Int32) = q_shr AA FF := q_shr_no (by omega)
          refine lv_istore_n (lv' := [(3, .int 0), (0, .ref a0), (1, .int v1), (2, .int v2)]) hx hb dX0_shareFines_110 rfl hl (by decide) rfl (fun ls hl => ?_)
          refine lv_iconst (v := 0) hx hb dX0_shareFines_111 (by decide) ?_
          refine lv_istore (lv' := [(4, .int 0), (3, .int 0), (0, .ref a0), (1, .int v1), (2, .int v2)]) hx hb dX0_shareFines_112 hl (by decide) rfl (fun ls hl => ?_)
          have loop114_1 : ∀ (n : Nat) (I8 : tI) (H : Heap) (locs : List Loc) (ls : Array Slot) (v7 : Int32), h_G h_so h_fk E A z I8 L0 s s.heap H locs → h_I z I8 → h_F [(108, 999), (106, 999), (1, 7)] z I0 I8 → lv_has ls 5 [(0, .ref a0), (1, .int v1), (2, .int v2), (3, .int 0), (4, .int v7)] → (0 ≤ v7.toInt ∧ v7.toInt ≤ 8) → h_F [(106, 999)] z I4 I8 → (∀ k : Nat, k < 8 → I8 fi k = if (k : Int) < v7.toInt then q_fnd (I0 fi) AA FF k else I0 fi k + FF k) → (8 - v7.toInt) < (n : Int) → W pr_ l ev_ (headSpec wsX0_shareFines ({ frames := 5, cells := 0, slots := 0, locals := 320 })).room s m ([.ref a0] : List Value).toArray below meth cd_ H locs 0 0 (MQ below (va_Qv (fun (I1 : tI) => h_I z I1 ∧ h_F [(108, 999), (106, 999), (1, 7)] z I0 I1 ∧ ((∀ k : Nat, k < 8 → I1 (h_ad z a0 6) k = q_fnd (I0 (h_ad z a0 6)) (c_ab z I0 a0 u_) (q_fin (c_ab z I0 a0 u_) (u_ 7)) k) ∧ I1 a0 7 = q_lft (I0 a0 7) (c_ab z I0 a0 u_) (q_fin (c_ab z I0 a0 u_) (u_ 7)))) (fun (I1 : tI) t => h_B E A z I1 L0 t) A) ([.ref a0] : List Value).toArray s 0 0 A) (F0 m 114 ls []) := by
            intro n
            induction n with
            | zero => intro I8 H locs ls v7 g hI hF hl jv7 hL114 hx114_0 hn; exact absurd hn (by omega)
            | succ n ih114 =>
              intro I8 H locs ls v7 g hI hF hl jv7 hL114 hx114_0 hn
              have kw : v7.toNatClampNeg = v7.toInt.toNat := h_keq rfl (by omega) (by omega)
              refine lv_iload hx hb dX0_shareFines_114 (lv_at hl 4 rfl) ?_
              refine lv_bipush (v := 8) hx hb dX0_shareFines_116 (by decide) ?_
              refine lv_icmp_ge (tgt := 148) hx hb dX0_shareFines_118 (by decide) (fun c9 => ?_) (fun c9 => ?_)
              · have ic9 := (xi_le c9 (by decide) rfl : 8 ≤ v7.toInt)
                refine lv_aload_n hx hb dX0_shareFines_148 rfl (lv_at hl 0 rfl) ?_
                refine lv_dup hx hb dX0_shareFines_149 rfl ?_
                refine h_get (v := .int f0_7) hx hb hts iX0 hown g t_a0 (by decide) so_1 rfl 7 (by decide) (hts (.fieldLink RX0 128 "CapLeague$Books" "leftOver" "I") (by decide +kernel)) rfl dX0_shareFines_150 (congrArg Value.int ((h_F.at hL114 t_a0 rfl).trans ((h_F.at hL6 t_a0 rfl).trans (ef0_7.symm)))) ?_
                refine lv_iload_n hx hb dX0_shareFines_153 rfl (lv_at hl 1 rfl) ?_
                refine lv_iload_n hx hb dX0_shareFines_154 rfl (lv_at hl 3 rfl) ?_
                refine lv_iload_n hx hb dX0_shareFines_155 rfl (lv_at hl 2 rfl) ?_
                refine lv_imul hx hb dX0_shareFines_156 ?_
                refine lv_topi (fun v10 ev10 => ?_)
                have jv10 : v10.toInt = 0 * v2.toInt := xi_mul ev10 (by decide) rfl (by omega) (by omega)
                refine lv_isub hx hb dX0_shareFines_157 ?_
                refine lv_topi (fun v11 ev11 => ?_)
                have jv11 : v11.toInt = v1.toInt - v10.toInt := xi_sub ev11 rfl rfl (by omega) (by omega)
                refine lv_iadd hx hb dX0_shareFines_158 ?_
                refine lv_topi (fun v12 ev12 => ?_)
                have jv12 : -2147483648 ≤ v12.toInt ∧ v12.toInt ≤ 2147483647 := ⟨xi_lo _, Int.le_of_lt_add_one (xi_hi _)⟩
                refine h_putI (ty := .int) (v := v12) hx hb hts iX0 tyX0 tyX0_ok nmX0 hown g t_a0 (by decide) so_1 rfl 7 (by decide) rfl (hts (.fieldLink RX0 128 "CapLeague$Books" "leftOver" "I") (by decide +kernel)) rfl rfl (by decide +kernel) rfl rfl dX0_shareFines_159 (fun I13 H locs eI13 g => ?_)
                have hI := hI.wr eI13 t_a0 (rfl : h_bd 1 7 = ((-2147483648), 2147483647)) (xi_lo _) (Int.le_of_lt_add_one (xi_hi _))
                have hF := hF.wr eI13 t_a0 rfl
                have hS := g.2.1
                exact W.vret hx hb hr (fun t ht hW => ⟨⟨I13, rfl, ⟨hI, hF, (by rw [afi, ← ef0_7, ← eFF, ← eAA]; exact ⟨fun k k8 => (h_n1 eI13 tfi t_a0 (by decide)).trans ((hx114_0 k k8).trans (if_pos (by omega))), (h_n0 eI13).trans (q_lft_is hx6_0 shE hx6_1 ev10 ev11 ev12)⟩)⟩, h_ret g ht⟩, hS.F ht⟩) hS.2.2 dX0_shareFines_162
              · have ic9 := (xi_nle c9 (by decide) rfl : v7.toInt < 8)
                refine lv_aload_n hx hb dX0_shareFines_121 rfl (lv_at hl 0 rfl) ?_
                refine h_get (v := .ref ab) hx hb hts iX0 hown g t_a0 (by decide) so_1 rfl 8 (by decide) (hts (.fieldLink RX0 30 "CapLeague$Books" "aboveCap" "[I") (by decide +kernel)) rfl dX0_shareFines_122 (by show va_rf (z.R a0 8) = _; rw [rab]; rfl) ?_
                refine lv_iload hx hb dX0_shareFines_125 (lv_at hl 4 rfl) ?_
                refine h_ald hx hb g tab (by decide) so_108 (xi_in (by omega) (by omega)) dX0_shareFines_127 ?_
                refine lv_topi (fun v14 ev14 => ?_)
                have jv14 := hI.rd ab v7.toNatClampNeg tab ev14 (rfl : h_bd 108 _ = ((-2147483648), 2147483647))
                have eA4 : AA v7.toInt.toNat = v14 := by rw [← hx6_2 v7.toInt.toNat (by omega), ← kw, ev14]; exact (h_F.at hL114 tab rfl).symm
                refine lv_if_ne (tgt := 142) hx hb dX0_shareFines_128 (by decide) (fun c15 => ?_) (fun c15 => ?_)
                · have ic15 := (xi_ne c15 rfl (by decide) : v14.toInt ≠ 0)
                  obtain ⟨v16, ev16⟩ : ∃ z : Int32, z = v7 + 1 := ⟨_, rfl⟩
                  have jv16 : v16.toInt = v7.toInt + 1 := xi_add ev16 rfl (by decide) (by omega) (by omega)
                  refine lv_iinc (v := v16) (lv' := [(4, .int v16), (0, .ref a0), (1, .int v1), (2, .int v2), (3, .int 0)]) hx hb dX0_shareFines_142 hl (k := 4) rfl (by rw [ev16]; rfl) (by decide) rfl (fun ls hl => ?_)
                  refine lv_goto (tgt := 114) hx hb dX0_shareFines_145 (by decide) ?_
                  exact ih114 I8 _ _ _ v16 g hI hF (lv_sub hl [1, 2, 3, 4, 0] rfl) (by omega) (h_F.call (h_F.rf : h_F [(106, 999)] z I4 I4) hL114 rfl) (q_fi_u (v := v7.toInt.toNat) hx114_0 (by omega) (by omega : v16.toInt = v7.toInt + 1) (fun k => rfl) (by rw [eA4]; omega)) (by omega)
                · have ic15 := (xi_eq c15 rfl (by decide) : v14.toInt = 0)
                  refine lv_aload_n hx hb dX0_shareFines_131 rfl (lv_at hl 0 rfl) ?_
                  refine h_get (v := .ref fi) hx hb hts iX0 hown g t_a0 (by decide) so_1 rfl 6 (by decide) (hts (.fieldLink RX0 26 "CapLeague$Books" "fines" "[I") (by decide +kernel)) rfl dX0_shareFines_132 (by show va_rf (z.R a0 6) = _; rw [rfi]; rfl) ?_
                  refine lv_iload hx hb dX0_shareFines_135 (lv_at hl 4 rfl) ?_
                  refine lv_dup2_11 hx hb dX0_shareFines_137 rfl rfl ?_
                  refine h_ald hx hb g tfi (by decide) so_106 (xi_in (by omega) (by omega)) dX0_shareFines_138 ?_
                  refine lv_topi (fun v17 ev17 => ?_)
                  have jv17 := hI.rd fi v7.toNatClampNeg tfi ev17 (rfl : h_bd 106 _ = ((-2147483648), 2147483647))
                  refine lv_iload_n hx hb dX0_shareFines_139 rfl (lv_at hl 3 rfl) ?_
                  refine lv_isub hx hb dX0_shareFines_140 ?_
                  refine lv_topi (fun v18 ev18 => ?_)
                  have jv18 : v18.toInt = v17.toInt - 0 := xi_sub ev18 rfl (by decide) (by omega) (by omega)
                  refine h_ast hx hb g tfi (by decide) so_106 (xi_in (by omega) (by omega)) dX0_shareFines_141 (fun I19 H locs eI19 g => ?_)
                  have hI := hI.wr eI19 tfi (rfl : h_bd 106 _ = ((-2147483648), 2147483647)) (xi_lo _) (Int.le_of_lt_add_one (xi_hi _))
                  have hF := hF.wr eI19 tfi rfl
                  obtain ⟨v20, ev20⟩ : ∃ z : Int32, z = v7 + 1 := ⟨_, rfl⟩
                  have jv20 : v20.toInt = v7.toInt + 1 := xi_add ev20 rfl (by decide) (by omega) (by omega)
                  refine lv_iinc (v := v20) (lv' := [(4, .int v20), (0, .ref a0), (1, .int v1), (2, .int v2), (3, .int 0)]) hx hb dX0_shareFines_142 hl (k := 4) rfl (by rw [ev20]; rfl) (by decide) rfl (fun ls hl => ?_)
                  refine lv_goto (tgt := 114) hx hb dX0_shareFines_145 (by decide) ?_
                  exact ih114 I19 _ _ _ v20 g hI hF (lv_sub hl [1, 2, 3, 4, 0] rfl) (by omega) (h_F.wr (h_F.call (h_F.rf : h_F [(106, 999)] z I4 I4) hL114 rfl) eI19 tfi rfl) (q_fi_t (v := v7.toInt.toNat) hx114_0 (by omega) (by omega : v20.toInt = v7.toInt + 1) (by omega) (fun j => h_wif eI19 kw j) (by rw [eA4, if_pos (by omega), ← shE, show I8 fi v7.toInt.toNat = v17 by rw [← kw]; exact ev17.symm]; exact ev18)) (by omega)
          have kc21 : (0 : Int32).toInt = 0 := by decide
          exact loop114_1 _ I4 _ _ _ (0) g hI hF (lv_sub hl [2, 3, 4, 1, 0] rfl) ⟨by decide, by decide⟩ (h_F.rf : h_F [(106, 999)] z I4 I4) (fun k k8 => (hx6_3 k).trans ((if_pos (by omega)).trans (if_neg (by omega)).symm)) (show (8 - (0 : Int)) < (((8 - (0 : Int)).toNat + 1 : Nat) : Int) by omega)
        · have ic6 := (xi_nle c6 rfl (by decide) : 0 < v2.toInt)
          refine lv_iload_n hx hb dX0_shareFines_103 rfl (lv_at hl 1 rfl) ?_
          refine lv_iload_n hx hb dX0_shareFines_104 rfl (lv_at hl 2 rfl) ?_
          refine lv_idiv hx hb dX0_shareFines_105 (h_ne0 (by omega)) ?_
          refine lv_topi (fun v22 ev22 => ?_)
          have jv22 : -2147483648 ≤ v22.toInt ∧ v22.toInt ≤ 2147483647 := ⟨xi_lo _, Int.le_of_lt_add_one (xi_hi _)⟩
          refine lv_goto (tgt := 110) hx hb dX0_shareFines_106 (by decide) ?_
          have shE : v22 = q_shr AA FF := q_shr_is hx6_0 hx6_1 (by omega) ev22
          refine lv_istore_n (lv' := [(3, .int v22), (0, .ref a0), (1, .int v1), (2, .int v2)]) hx hb dX0_shareFines_110 rfl hl (by decide) rfl (fun ls hl => ?_)
          refine lv_iconst (v := 0) hx hb dX0_shareFines_111 (by decide) ?_
          refine lv_istore (lv' := [(4, .int 0), (3, .int v22), (0, .ref a0), (1, .int v1), (2, .int v2)]) hx hb dX0_shareFines_112 hl (by decide) rfl (fun ls hl => ?_)
          have loop114_2 : ∀ (n : Nat) (I24 : tI) (H : Heap) (locs : List Loc) (ls : Array Slot) (v23 : Int32), h_G h_so h_fk E A z I24 L0 s s.heap H locs → h_I z I24 → h_F [(108, 999), (106, 999), (1, 7)] z I0 I24 → lv_has ls 5 [(0, .ref a0), (1, .int v1), (2, .int v2), (3, .int v22), (4, .int v23)] → (0 ≤ v23.toInt ∧ v23.toInt ≤ 8) → h_F [(106, 999)] z I4 I24 → (∀ k : Nat, k < 8 → I24 fi k = if (k : Int) < v23.toInt then q_fnd (I0 fi) AA FF k else I0 fi k + FF k) → (8 - v23.toInt) < (n : Int) → W pr_ l ev_ (headSpec wsX0_shareFines ({ frames := 5, cells := 0, slots := 0, locals := 320 })).room s m ([.ref a0] : List Value).toArray below meth cd_ H locs 0 0 (MQ below (va_Qv (fun (I1 : tI) => h_I z I1 ∧ h_F [(108, 999), (106, 999), (1, 7)] z I0 I1 ∧ ((∀ k : Nat, k < 8 → I1 (h_ad z a0 6) k = q_fnd (I0 (h_ad z a0 6)) (c_ab z I0 a0 u_) (q_fin (c_ab z I0 a0 u_) (u_ 7)) k) ∧ I1 a0 7 = q_lft (I0 a0 7) (c_ab z I0 a0 u_) (q_fin (c_ab z I0 a0 u_) (u_ 7)))) (fun (I1 : tI) t => h_B E A z I1 L0 t) A) ([.ref a0] : List Value).toArray s 0 0 A) (F0 m 114 ls []) := by
            intro n
            induction n with
            | zero => intro I24 H locs ls v23 g hI hF hl jv23 hL114 hx114_0 hn; exact absurd hn (by omega)
            | succ n ih114 =>
              intro I24 H locs ls v23 g hI hF hl jv23 hL114 hx114_0 hn
              have kw : v23.toNatClampNeg = v23.toInt.toNat := h_keq rfl (by omega) (by omega)
              refine lv_iload hx hb dX0_shareFines_114 (lv_at hl 4 rfl) ?_
              refine lv_bipush (v := 8) hx hb dX0_shareFines_116 (by decide) ?_
              refine lv_icmp_ge (tgt := 148) hx hb dX0_shareFines_118 (by decide) (fun c25 => ?_) (fun c25 => ?_)
              · have ic25 := (xi_le c25 (by decide) rfl : 8 ≤ v23.toInt)
                refine lv_aload_n hx hb dX0_shareFines_148 rfl (lv_at hl 0 rfl) ?_
                refine lv_dup hx hb dX0_shareFines_149 rfl ?_
                refine h_get (v := .int f0_7) hx hb hts iX0 hown g t_a0 (by decide) so_1 rfl 7 (by decide) (hts (.fieldLink RX0 128 "CapLeague$Books" "leftOver" "I") (by decide +kernel)) rfl dX0_shareFines_150 (congrArg Value.int ((h_F.at hL114 t_a0 rfl).trans ((h_F.at hL6 t_a0 rfl).trans (ef0_7.symm)))) ?_
                refine lv_iload_n hx hb dX0_shareFines_153 rfl (lv_at hl 1 rfl) ?_
                refine lv_iload_n hx hb dX0_shareFines_154 rfl (lv_at hl 3 rfl) ?_
                refine lv_iload_n hx hb dX0_shareFines_155 rfl (lv_at hl 2 rfl) ?_
                refine lv_imul hx hb dX0_shareFines_156 ?_
                refine lv_topi (fun v26 ev26 => ?_)
                have jv26 : -2147483648 ≤ v26.toInt ∧ v26.toInt ≤ 2147483647 := ⟨xi_lo _, Int.le_of_lt_add_one (xi_hi _)⟩
                refine lv_isub hx hb dX0_shareFines_157 ?_
                refine lv_topi (fun v27 ev27 => ?_)
                have jv27 : -2147483648 ≤ v27.toInt ∧ v27.toInt ≤ 2147483647 := ⟨xi_lo _, Int.le_of_lt_add_one (xi_hi _)⟩
                refine lv_iadd hx hb dX0_shareFines_158 ?_
                refine lv_topi (fun v28 ev28 => ?_)
                have jv28 : -2147483648 ≤ v28.toInt ∧ v28.toInt ≤ 2147483647 := ⟨xi_lo _, Int.le_of_lt_add_one (xi_hi _)⟩
                refine h_putI (ty := .int) (v := v28) hx hb hts iX0 tyX0 tyX0_ok nmX0 hown g t_a0 (by decide) so_1 rfl 7 (by decide) rfl (hts (.fieldLink RX0 128 "CapLeague$Books" "leftOver" "I") (by decide +kernel)) rfl rfl (by decide +kernel) rfl rfl dX0_shareFines_159 (fun I29 H locs eI29 g => ?_)
                have hI := hI.wr eI29 t_a0 (rfl : h_bd 1 7 = ((-2147483648), 2147483647)) (xi_lo _) (Int.le_of_lt_add_one (xi_hi _))
                have hF := hF.wr eI29 t_a0 rfl
                have hS := g.2.1
                exact W.vret hx hb hr (fun t ht hW => ⟨⟨I29, rfl, ⟨hI, hF, (by rw [afi, ← ef0_7, ← eFF, ← eAA]; exact ⟨fun k k8 => (h_n1 eI29 tfi t_a0 (by decide)).trans ((hx114_0 k k8).trans (if_pos (by omega))), (h_n0 eI29).trans (q_lft_is hx6_0 shE hx6_1 ev26 ev27 ev28)⟩)⟩, h_ret g ht⟩, hS.F ht⟩) hS.2.2 dX0_shareFines_162
              · have ic25 := (xi_nle c25 (by decide) rfl : v23.toInt < 8)
                refine lv_aload_n hx hb dX0_shareFines_121 rfl (lv_at hl 0 rfl) ?_
                refine h_get (v := .ref ab) hx hb hts iX0 hown g t_a0 (by decide) so_1 rfl 8 (by decide) (hts (.fieldLink RX0 30 "CapLeague$Books" "aboveCap" "[I") (by decide +kernel)) rfl dX0_shareFines_122 (by show va_rf (z.R a0 8) = _; rw [rab]; rfl) ?_
                refine lv_iload hx hb dX0_shareFines_125 (lv_at hl 4 rfl) ?_
                refine h_ald hx hb g tab (by decide) so_108 (xi_in (by omega) (by omega)) dX0_shareFines_127 ?_
                refine lv_topi (fun v30 ev30 => ?_)
                have jv30 := hI.rd ab v23.toNatClampNeg tab ev30 (rfl : h_bd 108 _ = ((-2147483648), 2147483647))
                have eA4 : AA v23.toInt.toNat = v30 := by rw [← hx6_2 v23.toInt.toNat (by omega), ← kw, ev30]; exact (h_F.at hL114 tab rfl).symm
                refine lv_if_ne (tgt := 142) hx hb dX0_shareFines_128 (by decide) (fun c31 => ?_) (fun c31 => ?_)
                · have ic31 := (xi_ne c31 rfl (by decide) : v30.toInt ≠ 0)
                  obtain ⟨v32, ev32⟩ : ∃ z : Int32, z = v23 + 1 := ⟨_, rfl⟩
                  have jv32 : v32.toInt = v23.toInt + 1 := xi_add ev32 rfl (by decide) (by omega) (by omega)
                  refine lv_iinc (v := v32) (lv' := [(4, .int v32), (0, .ref a0), (1, .int v1), (2, .int v2), (3, .int v22)]) hx hb dX0_shareFines_142 hl (k := 4) rfl (by rw [ev32]; rfl) (by decide) rfl (fun ls hl => ?_)
                  refine lv_goto (tgt := 114) hx hb dX0_shareFines_145 (by decide) ?_
                  exact ih114 I24 _ _ _ v32 g hI hF (lv_sub hl [1, 2, 3, 4, 0] rfl) (by omega) (h_F.call (h_F.rf : h_F [(106, 999)] z I4 I4) hL114 rfl) (q_fi_u (v := v23.toInt.toNat) hx114_0 (by omega) (by omega : v32.toInt = v23.toInt + 1) (fun k => rfl) (by rw [eA4]; omega)) (by omega)
                · have ic31 := (xi_eq c31 rfl (by decide) : v30.toInt = 0)
                  refine lv_aload_n hx hb dX0_shareFines_131 rfl (lv_at hl 0 rfl) ?_
                  refine h_get (v := .ref fi) hx hb hts iX0 hown g t_a0 (by decide) so_1 rfl 6 (by decide) (hts (.fieldLink RX0 26 "CapLeague$Books" "fines" "[I") (by decide +kernel)) rfl dX0_shareFines_132 (by show va_rf (z.R a0 6) = _; rw [rfi]; rfl) ?_
                  refine lv_iload hx hb dX0_shareFines_135 (lv_at hl 4 rfl) ?_
                  refine lv_dup2_11 hx hb dX0_shareFines_137 rfl rfl ?_
                  refine h_ald hx hb g tfi (by decide) so_106 (xi_in (by omega) (by omega)) dX0_shareFines_138 ?_
                  refine lv_topi (fun v33 ev33 => ?_)
                  have jv33 := hI.rd fi v23.toNatClampNeg tfi ev33 (rfl : h_bd 106 _ = ((-2147483648), 2147483647))
                  refine lv_iload_n hx hb dX0_shareFines_139 rfl (lv_at hl 3 rfl) ?_
                  refine lv_isub hx hb dX0_shareFines_140 ?_
                  refine lv_topi (fun v34 ev34 => ?_)
                  have jv34 : -2147483648 ≤ v34.toInt ∧ v34.toInt ≤ 2147483647 := ⟨xi_lo _, Int.le_of_lt_add_one (xi_hi _)⟩
                  refine h_ast hx hb g tfi (by decide) so_106 (xi_in (by omega) (by omega)) dX0_shareFines_141 (fun I35 H locs eI35 g => ?_)
                  have hI := hI.wr eI35 tfi (rfl : h_bd 106 _ = ((-2147483648), 2147483647)) (xi_lo _) (Int.le_of_lt_add_one (xi_hi _))
                  have hF := hF.wr eI35 tfi rfl
                  obtain ⟨v36, ev36⟩ : ∃ z : Int32, z = v23 + 1 := ⟨_, rfl⟩
                  have jv36 : v36.toInt = v23.toInt + 1 := xi_add ev36 rfl (by decide) (by omega) (by omega)
                  refine lv_iinc (v := v36) (lv' := [(4, .int v36), (0, .ref a0), (1, .int v1), (2, .int v2), (3, .int v22)]) hx hb dX0_shareFines_142 hl (k := 4) rfl (by rw [ev36]; rfl) (by decide) rfl (fun ls hl => ?_)
                  refine lv_goto (tgt := 114) hx hb dX0_shareFines_145 (by decide) ?_
                  exact ih114 I35 _ _ _ v36 g hI hF (lv_sub hl [1, 2, 3, 4, 0] rfl) (by omega) (h_F.wr (h_F.call (h_F.rf : h_F [(106, 999)] z I4 I4) hL114 rfl) eI35 tfi rfl) (q_fi_t (v := v23.toInt.toNat) hx114_0 (by omega) (by omega : v36.toInt = v23.toInt + 1) (by omega) (fun j => h_wif eI35 kw j) (by rw [eA4, if_pos (by omega), ← shE, show I24 fi v23.toInt.toNat = v33 by rw [← kw]; exact ev33.symm]; exact ev34)) (by omega)
          have kc37 : (0 : Int32).toInt = 0 := by decide
          exact loop114_2 _ I4 _ _ _ (0) g hI hF (lv_sub hl [2, 3, 4, 1, 0] rfl) ⟨by decide, by decide⟩ (h_F.rf : h_F [(106, 999)] z I4 I4) (fun k k8 => (hx6_3 k).trans ((if_pos (by omega)).trans (if_neg (by omega)).symm)) (show (8 - (0 : Int)) < (((8 - (0 : Int)).toNat + 1 : Nat) : Int) by omega)
      · have ic5 := (xi_nle c5 (by decide) rfl : v3.toInt < 8)
        refine lv_aload_n hx hb dX0_shareFines_12 rfl (lv_at hl 0 rfl) ?_
        refine h_get (v := .ref ab) hx hb hts iX0 hown g t_a0 (by decide) so_1 rfl 8 (by decide) (hts (.fieldLink RX0 30 "CapLeague$Books" "aboveCap" "[I") (by decide +kernel)) rfl dX0_shareFines_13 (by show va_rf (z.R a0 8) = _; rw [rab]; rfl) ?_
        refine lv_iload_n hx hb dX0_shareFines_16 rfl (lv_at hl 3 rfl) ?_
        refine lv_iconst (v := 0) hx hb dX0_shareFines_17 (by decide) ?_
        refine lv_aload_n hx hb dX0_shareFines_18 rfl (lv_at hl 0 rfl) ?_
        refine lv_iload_n hx hb dX0_shareFines_19 rfl (lv_at hl 3 rfl) ?_
        refine lv_aload_n hx hb dX0_shareFines_20 rfl (lv_at hl 0 rfl) ?_
        refine h_get (v := .int f0_3) hx hb hts iX0 hown g t_a0 (by decide) so_1 rfl 3 (by decide) (hts (.fieldLink RX0 37 "CapLeague$Books" "clock" "I") (by decide +kernel)) rfl dX0_shareFines_21 (congrArg Value.int ((h_F.at hL6 t_a0 rfl).trans (ef0_3.symm))) ?_
        refine vp_callSi (W.runV (As := [.int v3, .int f0_3]) (rest := [.int 0, .int v3, .ref ab]) ⟨hx, hb, hml, hown, hts⟩ (tX0_countsB l E X A z I4 L0 a0 t_a0 v3 (v3.toInt) rfl (by omega) f0_3 (f0_3.toInt) rfl (by omega) (u_) (by rw [alb, aun, atx, show I4 a0 3 = f0_3 from (h_F.at hL6 t_a0 rfl).trans (ef0_3.symm)]; exact h_lwF hR (h_F.call (h_F.rf : h_F [(108, 999), (106, 999)] z I0 I0) hL6 rfl) (fun _ => rfl) (fun _ => rfl) (fun _ => rfl) ttx tun hcl) (hob) (by rw [apl, show I4 a0 2 = f0_2 from (h_F.at hL6 t_a0 rfl).trans (ef0_2.symm)]; exact hnn)) (cwV 2 hts gX0_shareFines_X0_counts rfl rfl rfl (by decide +kernel) ⟨Nat.le_of_ble_eq_true rfl, Nat.le_of_ble_eq_true rfl⟩) ⟨h_blind _ _ _ _ _ _ _, h_recv g t_a0 (by decide) so_1 (q := (RX0, TX0, 9)) rfl, h_pre _ hE hk hX hA hI hR g⟩ rfl rfl hl.1 rfl (lv_room (Nat.le_of_ble_eq_true rfl)) dX0_shareFines_24 ⟨Nat.le_of_ble_eq_true rfl, Nat.le_of_ble_eq_true rfl⟩) (fun rh38 h38 => ?_)
        have h38p0 := h38
        have jrh38 : -2147483648 ≤ rh38.toInt ∧ rh38.toInt ≤ 2147483647 := ⟨xi_lo _, Int.le_of_lt_add_one (xi_hi _)⟩
        rw [c_cnt_F hR (h_F.call (h_F.rf : h_F [(108, 999), (106, 999)] z I0 I0) hL6 rfl) t_a0 apl tpl (fun k => by cases k <;> rfl) (fun _ => rfl) (fun _ => rfl) (show (I0 a0 2).toInt = f0_2.toInt by rw [← ef0_2]) (by omega) hnn (by omega)] at h38p0
        have hc9 := hcm v3.toInt.toNat (by omega)
        rw [show ((v3.toInt.toNat : Nat) : Int) = v3.toInt by omega, ← ef0_3, ← h38p0] at hc9
        refine lv_aload_n hx hb dX0_shareFines_27 rfl (lv_at hl 0 rfl) ?_
        refine va_csq (W.runV (As := []) (rest := [.int rh38, .int 0, .int v3, .ref ab]) ⟨hx, hb, hml, hown, hts⟩ (tX0_lawsNowF l E X A z I4 L0 a0 t_a0) (cwV 0 hts gX0_shareFines_X0_lawsNow rfl rfl rfl (by decide +kernel) ⟨Nat.le_of_ble_eq_true rfl, Nat.le_of_ble_eq_true rfl⟩) ⟨h_blind _ _ _ _ _ _ _, h_recv g t_a0 (by decide) so_1 (q := (RX0, TX0, 9)) rfl, h_pre _ hE hk hX hA hI hR g⟩ rfl rfl hl.1 rfl (lv_room (Nat.le_of_ble_eq_true rfl)) dX0_shareFines_28 ⟨Nat.le_of_ble_eq_true rfl, Nat.le_of_ble_eq_true rfl⟩) (fun rh39 h39 => ?_)
        obtain ⟨h39, h39p0⟩ := h39
        obtain ⟨rh39, rfl, trh39⟩ := h39
        refine xw_v (v := .ref rh39) rfl ?_
        rw [alb, aun, atx, show I4 a0 3 = f0_3 from (h_F.at hL6 t_a0 rfl).trans (ef0_3.symm)] at h39p0
        obtain ⟨bb, ebb, hof⟩ := h39p0
        cases ebb
        have hlb := h_lwF hR (h_F.call (h_F.rf : h_F [(108, 999), (106, 999)] z I0 I0) hL6 rfl) (fun _ => rfl) (fun _ => rfl) (fun _ => rfl) ttx tun hcl _ hof
        refine lv_iconst (v := 0) hx hb dX0_shareFines_31 (by decide) ?_
        refine vp_callSi (W.runV (As := [.int 0]) (rest := [.int rh38, .int 0, .int v3, .ref ab]) ⟨hx, hb, hml, hown, hts⟩ (tX5_numberF l E X A z I4 L0 rh39 trh39 0 (0) (by decide) (u_) (hlb)) (cwV 1 hts gX0_shareFines_X5_number rfl rfl rfl (by decide +kernel) ⟨Nat.le_of_ble_eq_true rfl, Nat.le_of_ble_eq_true rfl⟩) ⟨h_blind _ _ _ _ _ _ _, h_recv g trh39 (by decide) so_6 (q := (RX5, TX5, 3)) rfl, h_pre _ hE hk hX hA hI hR g⟩ rfl rfl hl.1 rfl (lv_room (Nat.le_of_ble_eq_true rfl)) dX0_shareFines_32 ⟨Nat.le_of_ble_eq_true rfl, Nat.le_of_ble_eq_true rfl⟩) (fun rh40 h40 => ?_)
        have h40p0 := h40
        have jrh40 : -2147483648 ≤ rh40.toInt ∧ rh40.toInt ≤ 2147483647 := ⟨xi_lo _, Int.le_of_lt_add_one (xi_hi _)⟩
        rw [q_num_at (u := u_) (x := 0) (n := 0) rfl (by decide)] at h40p0
        have hb0 := hob.1
        have nbrh40 : 1 ≤ rh40.toInt ∧ rh40.toInt ≤ 50000 := by omega
        refine lv_isub hx hb dX0_shareFines_35 ?_
        refine lv_topi (fun v41 ev41 => ?_)
        have jv41 : v41.toInt = rh38.toInt - rh40.toInt := xi_sub ev41 rfl rfl (by omega) (by omega)
        refine va_mmax hx hb (hml.trans hl.1.symm) hown (hts (.methodLink RX0 123 Lib.Math.max.name) (by decide +kernel)) (hts (.static Lib.Math.max.name) (by decide +kernel)) (hts (.initialized "java/lang/Math") (by decide +kernel)) (hts (.code Lib.Math.max.name Lib.Math.max.code 2 (some .int)) (by decide +kernel)) (Nat.le_of_ble_eq_true rfl) (Nat.le_of_ble_eq_true rfl) (Nat.le_of_ble_eq_true rfl) (Nat.le_of_ble_eq_true rfl) dX0_shareFines_36 ?_
        refine lv_topi (fun v42 ev42 => ?_)
        have jv42 := h_max (a := 0) (b := v41.toInt) ev42 (by decide) rfl
        refine h_ast hx hb g tab (by decide) so_108 (xi_in (by omega) (by omega)) dX0_shareFines_39 (fun I43 H locs eI43 g => ?_)
        have hI := hI.wr eI43 tab (rfl : h_bd 108 _ = ((-2147483648), 2147483647)) (xi_lo _) (Int.le_of_lt_add_one (xi_hi _))
        have hF := hF.wr eI43 tab rfl
        have eA : AA v3.toInt.toNat = v42 := by rw [eAA]; unfold c_ab; rw [show ((v3.toInt.toNat : Nat) : Int) = v3.toInt by omega, ← ef0_3, ← h38p0]; exact (q_mo_of (by omega) (by omega) (by omega)).symm
        have m9 : 0 ≤ v42.toInt ∧ v42.toInt ≤ 7100000 := by omega
        refine lv_aload_n hx hb dX0_shareFines_40 rfl (lv_at hl 0 rfl) ?_
        refine h_get (v := .ref ab) hx hb hts iX0 hown g t_a0 (by decide) so_1 rfl 8 (by decide) (hts (.fieldLink RX0 30 "CapLeague$Books" "aboveCap" "[I") (by decide +kernel)) rfl dX0_shareFines_41 (by show va_rf (z.R a0 8) = _; rw [rab]; rfl) ?_
        refine lv_iload_n hx hb dX0_shareFines_44 rfl (lv_at hl 3 rfl) ?_
        refine h_ald hx hb g tab (by decide) so_108 (xi_in (by omega) (by omega)) dX0_shareFines_45 ?_
        refine xw_i (h_n0 eI43) ?_
        refine lv_aload_n hx hb dX0_shareFines_46 rfl (lv_at hl 0 rfl) ?_
        refine va_csq (W.runV (As := []) (rest := [.int v42]) ⟨hx, hb, hml, hown, hts⟩ (tX0_lawsNowF l E X A z I43 L0 a0 t_a0) (cwV 0 hts gX0_shareFines_X0_lawsNow rfl rfl rfl (by decide +kernel) ⟨Nat.le_of_ble_eq_true rfl, Nat.le_of_ble_eq_true rfl⟩) ⟨h_blind _ _ _ _ _ _ _, h_recv g t_a0 (by decide) so_1 (q := (RX0, TX0, 9)) rfl, h_pre _ hE hk hX hA hI hR g⟩ rfl rfl hl.1 rfl (lv_room (Nat.le_of_ble_eq_true rfl)) dX0_shareFines_47 ⟨Nat.le_of_ble_eq_true rfl, Nat.le_of_ble_eq_true rfl⟩) (fun rh44 h44 => ?_)
        obtain ⟨h44, h44p0⟩ := h44
        obtain ⟨rh44, rfl, trh44⟩ := h44
        refine xw_v (v := .ref rh44) rfl ?_
        rw [alb, aun, atx, show I43 a0 3 = f0_3 from (h_n1 eI43 t_a0 tab (by decide)).trans ((h_F.at hL6 t_a0 rfl).trans (ef0_3.symm))] at h44p0
        obtain ⟨bb, ebb, hof⟩ := h44p0
        cases ebb
        have hlb := h_lwF hR (h_F.wr (h_F.call (h_F.rf : h_F [(108, 999), (106, 999)] z I0 I0) hL6 rfl) eI43 tab rfl) (fun _ => rfl) (fun _ => rfl) (fun _ => rfl) ttx tun hcl _ hof
        refine lv_bipush (v := 7) hx hb dX0_shareFines_50 (by decide) ?_
        refine vp_callSi (W.runV (As := [.int 7]) (rest := [.int v42]) ⟨hx, hb, hml, hown, hts⟩ (tX5_numberF l E X A z I43 L0 rh44 trh44 7 (7) (by decide) (u_) (hlb)) (cwV 1 hts gX0_shareFines_X5_number rfl rfl rfl (by decide +kernel) ⟨Nat.le_of_ble_eq_true rfl, Nat.le_of_ble_eq_true rfl⟩) ⟨h_blind _ _ _ _ _ _ _, h_recv g trh44 (by decide) so_6 (q := (RX5, TX5, 3)) rfl, h_pre _ hE hk hX hA hI hR g⟩ rfl rfl hl.1 rfl (lv_room (Nat.le_of_ble_eq_true rfl)) dX0_shareFines_52 ⟨Nat.le_of_ble_eq_true rfl, Nat.le_of_ble_eq_true rfl⟩) (fun rh45 h45 => ?_)
        have h45p0 := h45
        have jrh45 : -2147483648 ≤ rh45.toInt ∧ rh45.toInt ≤ 2147483647 := ⟨xi_lo _, Int.le_of_lt_add_one (xi_hi _)⟩
        rw [q_num_at (u := u_) (x := 7) (n := 7) rfl (by decide)] at h45p0
        have hb7 := hob.2.2.2.2.2.2.2
        have nbrh45 : 0 ≤ rh45.toInt ∧ rh45.toInt ≤ 300 := by omega
        refine vp_callSi (xr_of (va_runSN (As := [.int v42, .int rh45]) (rest := []) ⟨hx, hb, hml, hown, hts⟩ (tX11_hunB l E X A z I43 L0 v42 (v42.toInt) rfl rh45 (rh45.toInt) rfl) (⟨va_cnB 2 hts gX0_shareFines_X11_hundredths_n75 rfl rfl rfl (hE.link 9 rfl) (hts (.initialized RX11) (by decide +kernel)) (by decide +kernel) ⟨Nat.le_of_ble_eq_true rfl, Nat.le_of_ble_eq_true rfl⟩, hts (.static yX11_hundredths) (by decide +kernel), trivial⟩) ⟨h_blind _ _ _ _ _ _ _, h_pre _ hE hk hX hA hI hR g⟩ rfl rfl hl.1 rfl (lv_room (Nat.le_of_ble_eq_true rfl)) dX0_shareFines_55 ⟨Nat.le_of_ble_eq_true rfl, Nat.le_of_ble_eq_true rfl⟩)) (fun rh46 h46 => ?_)
        have h46p0 := h46
        have jrh46 : -2147483648 ≤ rh46.toInt ∧ rh46.toInt ≤ 2147483647 := ⟨xi_lo _, Int.le_of_lt_add_one (xi_hi _)⟩
        have eF : FF v3.toInt.toNat = rh46 := by rw [eFF]; unfold q_fin; rw [← eAA, eA]; exact (q_hunc h46p0 h45p0 m9.1 m9.2 hb7.1 hb7.2).symm
        refine lv_istore (lv' := [(4, .int rh46), (0, .ref a0), (1, .int v1), (2, .int v2), (3, .int v3)]) hx hb dX0_shareFines_58 hl (by decide) rfl (fun ls hl => ?_)
        refine lv_aload_n hx hb dX0_shareFines_60 rfl (lv_at hl 1 rfl) ?_
        refine h_get (v := .ref fi) hx hb hts iX0 hown g t_a0 (by decide) so_1 rfl 6 (by decide) (hts (.fieldLink RX0 26 "CapLeague$Books" "fines" "[I") (by decide +kernel)) rfl dX0_shareFines_61 (by show va_rf (z.R a0 6) = _; rw [rfi]; rfl) ?_
        refine lv_iload_n hx hb dX0_shareFines_64 rfl (lv_at hl 4 rfl) ?_
        refine lv_dup2_11 hx hb dX0_shareFines_65 rfl rfl ?_
        refine h_ald hx hb g tfi (by decide) so_106 (xi_in (by omega) (by omega)) dX0_shareFines_66 ?_
        refine lv_topi (fun v47 ev47 => ?_)
        have jv47 := hI.rd fi v3.toNatClampNeg tfi ev47 (rfl : h_bd 106 _ = ((-2147483648), 2147483647))
        refine lv_iload hx hb dX0_shareFines_67 (lv_at hl 0 rfl) ?_
        refine lv_iadd hx hb dX0_shareFines_69 ?_
        refine lv_topi (fun v48 ev48 => ?_)
        have jv48 : -2147483648 ≤ v48.toInt ∧ v48.toInt ≤ 2147483647 := ⟨xi_lo _, Int.le_of_lt_add_one (xi_hi _)⟩
        refine h_ast hx hb g tfi (by decide) so_106 (xi_in (by omega) (by omega)) dX0_shareFines_70 (fun I49 H locs eI49 g => ?_)
        have hI := hI.wr eI49 tfi (rfl : h_bd 106 _ = ((-2147483648), 2147483647)) (xi_lo _) (Int.le_of_lt_add_one (xi_hi _))
        have hF := hF.wr eI49 tfi rfl
        refine lv_iload_n hx hb dX0_shareFines_71 rfl (lv_at hl 2 rfl) ?_
        refine lv_iload hx hb dX0_shareFines_72 (lv_at hl 0 rfl) ?_
        refine lv_iadd hx hb dX0_shareFines_74 ?_
        refine lv_topi (fun v50 ev50 => ?_)
        have jv50 : -2147483648 ≤ v50.toInt ∧ v50.toInt ≤ 2147483647 := ⟨xi_lo _, Int.le_of_lt_add_one (xi_hi _)⟩
        refine lv_istore_n (lv' := [(1, .int v50), (4, .int rh46), (0, .ref a0), (2, .int v2), (3, .int v3)]) hx hb dX0_shareFines_75 rfl hl (by decide) rfl (fun ls hl => ?_)
        refine lv_iload_n hx hb dX0_shareFines_76 rfl (lv_at hl 3 rfl) ?_
        refine lv_aload_n hx hb dX0_shareFines_77 rfl (lv_at hl 2 rfl) ?_
        refine h_get (v := .ref ab) hx hb hts iX0 hown g t_a0 (by decide) so_1 rfl 8 (by decide) (hts (.fieldLink RX0 30 "CapLeague$Books" "aboveCap" "[I") (by decide +kernel)) rfl dX0_shareFines_78 (by show va_rf (z.R a0 8) = _; rw [rab]; rfl) ?_
        refine lv_iload_n hx hb dX0_shareFines_81 rfl (lv_at hl 4 rfl) ?_
        refine h_ald hx hb g tab (by decide) so_108 (xi_in (by omega) (by omega)) dX0_shareFines_82 ?_
        refine xw_i ((h_n1 eI49 tab tfi (by decide)).trans (h_n0 eI43)) ?_
        refine lv_if_ne (tgt := 90) hx hb dX0_shareFines_83 (by decide) (fun c51 => ?_) (fun c51 => ?_)
        · have ic51 := (xi_ne c51 rfl (by decide) : v42.toInt ≠ 0)
          refine lv_iconst (v := 0) hx hb dX0_shareFines_90 (by decide) ?_
          refine lv_iadd hx hb dX0_shareFines_91 ?_
          refine lv_topi (fun v52 ev52 => ?_)
          have jv52 : v52.toInt = v2.toInt + 0 := xi_add ev52 rfl (by decide) (by omega) (by omega)
          refine lv_istore_n (lv' := [(2, .int v52), (1, .int v50), (4, .int rh46), (0, .ref a0), (3, .int v3)]) hx hb dX0_shareFines_92 rfl hl (by decide) rfl (fun ls hl => ?_)
          obtain ⟨v53, ev53⟩ : ∃ z : Int32, z = v3 + 1 := ⟨_, rfl⟩
          have jv53 : v53.toInt = v3.toInt + 1 := xi_add ev53 rfl (by decide) (by omega) (by omega)
          refine lv_iinc (v := v53) (lv' := [(3, .int v53), (2, .int v52), (1, .int v50), (4, .int rh46), (0, .ref a0)]) hx hb dX0_shareFines_93 hl (k := 4) rfl (by rw [ev53]; rfl) (by decide) rfl (fun ls hl => ?_)
          refine lv_goto (tgt := 6) hx hb dX0_shareFines_96 (by decide) ?_
          exact ih6 I49 _ _ _ v50 v52 v53 g hI hF (lv_sub hl [4, 2, 1, 0] rfl) (by omega) (by omega) (by omega) (h_F.wr (h_F.wr (h_F.call (h_F.rf : h_F [(108, 999), (106, 999)] z I0 I0) hL6 rfl) eI43 tab rfl) eI49 tfi rfl) (by rw [show (v53.toInt).toNat = v3.toInt.toNat + 1 by omega]; exact q_sums_s hx6_0 (by rw [eF]; exact ev50)) (q_nz_0 hx6_1 (by omega : (v53.toInt).toNat = v3.toInt.toNat + 1) (by rw [eA]; omega) (by omega)) (q_ab_s (v := v3.toInt.toNat) hx6_2 (by omega) (by omega : v53.toInt = v3.toInt + 1) (fun j => (h_n1 eI49 tab tfi (by decide)).trans (h_wif eI43 kv j)) eA) (q_fi_s (v := v3.toInt.toNat) hx6_3 (by omega) (by omega : v53.toInt = v3.toInt + 1) (fun j => (h_wif eI49 kv j).trans (by rw [h_n1 eI43 tfi tab (by decide)])) (by rw [eF, show I4 fi v3.toInt.toNat = v47 by rw [← kv, ev47]; exact (h_n1 eI43 tfi tab (by decide)).symm]; exact ev48)) (by omega)
        · have ic51 := (xi_eq c51 rfl (by decide) : v42.toInt = 0)
          refine lv_iconst (v := 1) hx hb dX0_shareFines_86 (by decide) ?_
          refine lv_goto (tgt := 91) hx hb dX0_shareFines_87 (by decide) ?_
          refine lv_iadd hx hb dX0_shareFines_91 ?_
          refine lv_topi (fun v54 ev54 => ?_)
          have jv54 : v54.toInt = v2.toInt + 1 := xi_add ev54 rfl (by decide) (by omega) (by omega)
          refine lv_istore_n (lv' := [(2, .int v54), (1, .int v50), (4, .int rh46), (0, .ref a0), (3, .int v3)]) hx hb dX0_shareFines_92 rfl hl (by decide) rfl (fun ls hl => ?_)
          obtain ⟨v55, ev55⟩ : ∃ z : Int32, z = v3 + 1 := ⟨_, rfl⟩
          have jv55 : v55.toInt = v3.toInt + 1 := xi_add ev55 rfl (by decide) (by omega) (by omega)
          refine lv_iinc (v := v55) (lv' := [(3, .int v55), (2, .int v54), (1, .int v50), (4, .int rh46), (0, .ref a0)]) hx hb dX0_shareFines_93 hl (k := 4) rfl (by rw [ev55]; rfl) (by decide) rfl (fun ls hl => ?_)
          refine lv_goto (tgt := 6) hx hb dX0_shareFines_96 (by decide) ?_
          exact ih6 I49 _ _ _ v50 v54 v55 g hI hF (lv_sub hl [4, 2, 1, 0] rfl) (by omega) (by omega) (by omega) (h_F.wr (h_F.wr (h_F.call (h_F.rf : h_F [(108, 999), (106, 999)] z I0 I0) hL6 rfl) eI43 tab rfl) eI49 tfi rfl) (by rw [show (v55.toInt).toNat = v3.toInt.toNat + 1 by omega]; exact q_sums_s hx6_0 (by rw [eF]; exact ev50)) (q_nz_1 hx6_1 (by omega : (v55.toInt).toNat = v3.toInt.toNat + 1) (by rw [eA]; omega) (by omega)) (q_ab_s (v := v3.toInt.toNat) hx6_2 (by omega) (by omega : v55.toInt = v3.toInt + 1) (fun j => (h_n1 eI49 tab tfi (by decide)).trans (h_wif eI43 kv j)) eA) (q_fi_s (v := v3.toInt.toNat) hx6_3 (by omega) (by omega : v55.toInt = v3.toInt + 1) (fun j => (h_wif eI49 kv j).trans (by rw [h_n1 eI43 tfi tab (by decide)])) (by rw [eF, show I4 fi v3.toInt.toNat = v47 by rw [← kv, ev47]; exact (h_n1 eI43 tfi tab (by decide)).symm]; exact ev48)) (by omega)
  have kc56 : (0 : Int32).toInt = 0 := by decide
  have kc57 : (0 : Int32).toInt = 0 := by decide
  have kc58 : (0 : Int32).toInt = 0 := by decide
  exact loop6_0 _ I0 _ _ _ (0) (0) (0) g hI hF (lv_sub hl [3, 2, 1, 0] rfl) ⟨by decide, by decide⟩ ⟨by decide, by decide⟩ ⟨by decide, by decide⟩ (h_F.rf : h_F [(108, 999), (106, 999)] z I0 I0) (rfl) (by show (0 : Int32).toInt = 0; decide) (fun k hk => absurd hk (by omega)) (fun k => (if_neg (by omega)).symm) (show (8 - (0 : Int)) < (((8 - (0 : Int)).toNat + 1 : Nat) : Int) by omega)

