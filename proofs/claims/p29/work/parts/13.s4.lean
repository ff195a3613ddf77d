set_option maxHeartbeats 4000000 in
set_option maxRecDepth 100000 in
theorem tX7_fact (l : Launch) (E : tE) (X : tX) (A : Nat → Prop) (z : tZ) (I0 : tI) (L0 : tL) (a0 : Nat) (t_a0 : z.ty a0 = 8) (x : Int32) (x_t : Int) (h_x : x.toInt = x_t) : Met l yX7_fact wsX7_fact ({ frames := 1, cells := 0, slots := 0, locals := 64 }) (va_Pc [.ref a0, .int x] (h_P E X A z I0 L0)) (vp_Si (fun r => True)) 0 0 (fun _ => False) := by
  refine Met.ofW (cc := cX7_fact) (maxL := 2) (ret := (some .int)) (by decide) rfl ?_
  intro pr_ ev_ s m args below meth cd_ s₁ B hml hv
  obtain ⟨rfl, hE, hk, hX, hA, hK, hI, hR, hB0⟩ := hv
  have g : h_G h_so h_fk E A z I0 L0 s s.heap s.heap [] := ⟨hK, va_S.rf, hB0⟩
  have hx := B.exec
  have hb := B.bytes
  have hr := B.returns
  have hts := atoms_spec (ws := wsX7_fact) B.pre
  have hown : s.vm.findClass RX7 = some m.cls := findClass_of_methodNamed B.named
  have hlocks := B.notSynchronized
  have iX7 : ∀ w ∈ u_ws RX7 TX7 13, w ∈ wsX7_fact := by decide +kernel
  have hl := lv_entry ([.ref a0, .int x]) (n := 2) (Nat.le_of_ble_eq_true rfl)
  rw [lg_entry_eq]
  generalize (lg_sl ([.ref a0, .int x]) ++ List.replicate (2 - (lg_sl ([.ref a0, .int x])).length) Slot.unset).toArray = ls at hl ⊢
  have hl : lv_has ls 2 [(0, .ref a0), (1, .int x)] := hl
  have b_x : -2147483648 ≤ x_t ∧ x_t ≤ 2147483647 := h_x ▸ ⟨xi_lo x, Int.le_of_lt_add_one (xi_hi x)⟩
  refine lv_iload_n hx hb dX7_fact_0 rfl (lv_at hl 1 rfl) ?_
  refine lv_if_ne (tgt := 20) hx hb dX7_fact_1 (by decide) (fun c1 => ?_) (fun c1 => ?_)
  · have ic1 := (xi_ne c1 h_x (by decide) : x_t ≠ 0)
    refine lv_iload_n hx hb dX7_fact_20 rfl (lv_at hl 1 rfl) ?_
    refine lv_iconst (v := 1) hx hb dX7_fact_21 (by decide) ?_
    refine lv_icmp_lt (tgt := 42) hx hb dX7_fact_22 (by decide) (fun c2 => ?_) (fun c2 => ?_)
    · have ic2 := (xi_lt c2 h_x (by decide) : x_t < 1)
      refine lv_iload_n hx hb dX7_fact_42 rfl (lv_at hl 1 rfl) ?_
      refine lv_iconst (v := 4) hx hb dX7_fact_43 (by decide) ?_
      refine lv_icmp_lt (tgt := 68) hx hb dX7_fact_44 (by decide) (fun c3 => ?_) (fun h => absurd (xi_nlt h h_x (by decide) : 4 ≤ x_t) (by omega))
      have ic3 := (xi_lt c3 h_x (by decide) : x_t < 4)
      refine lv_iconst (v := (-1)) hx hb dX7_fact_68 (by decide) ?_
      exact W.iret (v := (-1)) hx hb hr (fun t ht hW => ⟨(-1), rfl, trivial, ht⟩) (fun _ h => by cases h) dX7_fact_69
    · have ic2 := (xi_nlt c2 h_x (by decide) : 1 ≤ x_t)
      refine lv_iload_n hx hb dX7_fact_25 rfl (lv_at hl 1 rfl) ?_
      refine lv_aload_n hx hb dX7_fact_26 rfl (lv_at hl 0 rfl) ?_
      refine h_get (v := .int (I0 a0 10)) hx hb hts iX7 hown g t_a0 (by decide) so_8 rfl 10 (by decide) (hts (.fieldLink RX7 71 "CapLeague$RingSearch" "clubsInRing" "I") (by decide +kernel)) rfl dX7_fact_27 rfl ?_
      refine lv_topi (fun v4 ev4 => ?_)
      have jv4 := hI.rd a0 10 t_a0 ev4 (rfl : h_bd 8 10 = (0, 3))
      refine lv_icmp_gt (tgt := 42) hx hb dX7_fact_30 (by decide) (fun c5 => ?_) (fun c5 => ?_)
      · have ic5 := (xi_lt c5 rfl h_x : v4.toInt < x_t)
        refine lv_iload_n hx hb dX7_fact_42 rfl (lv_at hl 1 rfl) ?_
        refine lv_iconst (v := 4) hx hb dX7_fact_43 (by decide) ?_
        refine lv_icmp_lt (tgt := 68) hx hb dX7_fact_44 (by decide) (fun c6 => ?_) (fun c6 => ?_)
        · have ic6 := (xi_lt c6 h_x (by decide) : x_t < 4)
          refine lv_iconst (v := (-1)) hx hb dX7_fact_68 (by decide) ?_
          exact W.iret (v := (-1)) hx hb hr (fun t ht hW => ⟨(-1), rfl, trivial, ht⟩) (fun _ h => by cases h) dX7_fact_69
        · have ic6 := (xi_nlt c6 h_x (by decide) : 4 ≤ x_t)
          refine lv_iload_n hx hb dX7_fact_47 rfl (lv_at hl 1 rfl) ?_
          refine lv_iconst (v := 4) hx hb dX7_fact_48 (by decide) ?_
          refine lv_isub hx hb dX7_fact_49 ?_
          refine lv_topi (fun v7 ev7 => ?_)
          have jv7 : v7.toInt = x_t - 4 := xi_sub ev7 h_x (by decide) (by omega) (by omega)
          refine lv_aload_n hx hb dX7_fact_50 rfl (lv_at hl 0 rfl) ?_
          refine h_get (v := .int v4) hx hb hts iX7 hown g t_a0 (by decide) so_8 rfl 10 (by decide) (hts (.fieldLink RX7 71 "CapLeague$RingSearch" "clubsInRing" "I") (by decide +kernel)) rfl dX7_fact_51 (congrArg Value.int (ev4.symm)) ?_
          refine lv_icmp_ge (tgt := 68) hx hb dX7_fact_54 (by decide) (fun c8 => ?_) (fun c8 => ?_)
          · have ic8 := (xi_le c8 rfl rfl : v4.toInt ≤ v7.toInt)
            refine lv_iconst (v := (-1)) hx hb dX7_fact_68 (by decide) ?_
            exact W.iret (v := (-1)) hx hb hr (fun t ht hW => ⟨(-1), rfl, trivial, ht⟩) (fun _ h => by cases h) dX7_fact_69
          · have ic8 := (xi_nle c8 rfl rfl : v7.toInt < v4.toInt)
            refine lv_aload_n hx hb dX7_fact_57 rfl (lv_at hl 0 rfl) ?_
            obtain ⟨b9, rb9, tb9⟩ := hR.at a0 12 t_a0 (rfl : h_rs 8 12 = some (812, false)) (by decide)
            refine h_get (v := .ref b9) hx hb hts iX7 hown g t_a0 (by decide) so_8 rfl 12 (by decide) (hts (.fieldLink RX7 45 "CapLeague$RingSearch" "playerRow" "[I") (by decide +kernel)) rfl dX7_fact_58 (by show va_rf (z.R a0 12) = _; rw [rb9]; rfl) ?_
            refine lv_iload_n hx hb dX7_fact_61 rfl (lv_at hl 1 rfl) ?_
            refine lv_iconst (v := 4) hx hb dX7_fact_62 (by decide) ?_
            refine lv_isub hx hb dX7_fact_63 ?_
            refine xw_i (v := v7) ev7.symm ?_
            refine h_ald hx hb g tb9 (by decide) so_812 (xi_in (by omega) (by omega)) dX7_fact_64 ?_
            refine lv_topi (fun v10 ev10 => ?_)
            have jv10 := hI.rd b9 v7.toNatClampNeg tb9 ev10 (rfl : h_bd 812 _ = ((-2147483648), 2147483647))
            refine lv_goto (tgt := 69) hx hb dX7_fact_65 (by decide) ?_
            exact W.iret (v := v10) hx hb hr (fun t ht hW => ⟨v10, rfl, trivial, ht⟩) (fun _ h => by cases h) dX7_fact_69
      · have ic5 := (xi_nlt c5 rfl h_x : x_t ≤ v4.toInt)
        refine lv_aload_n hx hb dX7_fact_33 rfl (lv_at hl 0 rfl) ?_
        obtain ⟨b11, rb11, tb11⟩ := hR.at a0 11 t_a0 (rfl : h_rs 8 11 = some (811, false)) (by decide)
        refine h_get (v := .ref b11) hx hb hts iX7 hown g t_a0 (by decide) so_8 rfl 11 (by decide) (hts (.fieldLink RX7 42 "CapLeague$RingSearch" "clubRow" "[I") (by decide +kernel)) rfl dX7_fact_34 (by show va_rf (z.R a0 11) = _; rw [rb11]; rfl) ?_
        refine lv_iload_n hx hb dX7_fact_37 rfl (lv_at hl 1 rfl) ?_
        refine lv_iconst (v := 1) hx hb dX7_fact_38 (by decide) ?_
        refine lv_isub hx hb dX7_fact_39 ?_
        refine lv_topi (fun v12 ev12 => ?_)
        have jv12 : v12.toInt = x_t - 1 := xi_sub ev12 h_x (by decide) (by omega) (by omega)
        refine h_ald hx hb g tb11 (by decide) so_811 (xi_in (by omega) (by omega)) dX7_fact_40 ?_
        refine lv_topi (fun v13 ev13 => ?_)
        have jv13 := hI.rd b11 v12.toNatClampNeg tb11 ev13 (rfl : h_bd 811 _ = ((-2147483648), 2147483647))
        exact W.iret (v := v13) hx hb hr (fun t ht hW => ⟨v13, rfl, trivial, ht⟩) (fun _ h => by cases h) dX7_fact_41
  · have ic1 := (xi_eq c1 h_x (by decide) : x_t = 0)
    refine lv_aload_n hx hb dX7_fact_4 rfl (lv_at hl 0 rfl) ?_
    refine h_get (v := .int (I0 a0 10)) hx hb hts iX7 hown g t_a0 (by decide) so_8 rfl 10 (by decide) (hts (.fieldLink RX7 71 "CapLeague$RingSearch" "clubsInRing" "I") (by decide +kernel)) rfl dX7_fact_5 rfl ?_
    refine lv_topi (fun v14 ev14 => ?_)
    have jv14 := hI.rd a0 10 t_a0 ev14 (rfl : h_bd 8 10 = (0, 3))
    refine lv_if_le (tgt := 18) hx hb dX7_fact_8 (by decide) (fun c15 => ?_) (fun c15 => ?_)
    · have ic15 := (xi_le c15 rfl (by decide) : v14.toInt ≤ 0)
      refine lv_iconst (v := (-1)) hx hb dX7_fact_18 (by decide) ?_
      exact W.iret (v := (-1)) hx hb hr (fun t ht hW => ⟨(-1), rfl, trivial, ht⟩) (fun _ h => by cases h) dX7_fact_19
    · have ic15 := (xi_nle c15 rfl (by decide) : 0 < v14.toInt)
      refine lv_aload_n hx hb dX7_fact_11 rfl (lv_at hl 0 rfl) ?_
      refine h_get (v := .int v14) hx hb hts iX7 hown g t_a0 (by decide) so_8 rfl 10 (by decide) (hts (.fieldLink RX7 71 "CapLeague$RingSearch" "clubsInRing" "I") (by decide +kernel)) rfl dX7_fact_12 (congrArg Value.int (ev14.symm)) ?_
      refine lv_goto (tgt := 19) hx hb dX7_fact_15 (by decide) ?_
      exact W.iret (v := v14) hx hb hr (fun t ht hW => ⟨v14, rfl, trivial, ht⟩) (fun _ h => by cases h) dX7_fact_19
set_option maxHeartbeats 4000000 in
set_option maxRecDepth 100000 in
theorem tX7_lineUp (l : Launch) (E : tE) (X : tX) (A : Nat → Prop) (z : tZ) (I0 : tI) (L0 : tL) (a0 : Nat) (t_a0 : z.ty a0 = 8) : Met l yX7_lineUp wsX7_lineUp ({ frames := 4, cells := 0, slots := 0, locals := 256 }) (va_Pc [.ref a0] (h_P E X A z I0 L0)) (va_Qv (fun (I1 : tI) => h_I z I1 ∧ h_F [(803, 999), (802, 999), (804, 999), (805, 999)] z I0 I1 ∧ True) (fun (I1 : tI) t => h_B E A z I1 L0 t) A) 0 0 A := by
  refine Met.ofW (cc := cX7_lineUp) (maxL := 5) (ret := none) (by decide) rfl ?_
  intro pr_ ev_ s m args below meth cd_ s₁ B hml hv
  obtain ⟨rfl, hE, hk, hX, hA, hK, hI, hR, hB0⟩ := hv
  have g : h_G h_so h_fk E A z I0 L0 s s.heap s.heap [] := ⟨hK, va_S.rf, hB0⟩
  have hF : h_F [(803, 999), (802, 999), (804, 999), (805, 999)] z I0 I0 := h_F.rf
  have hx := B.exec
  have hb := B.bytes
  have hr := B.returns
  have hts := atoms_spec (ws := wsX7_lineUp) B.pre
  have hown : s.vm.findClass RX7 = some m.cls := findClass_of_methodNamed B.named
  have hlocks := B.notSynchronized
  have iX7 : ∀ w ∈ u_ws RX7 TX7 13, w ∈ wsX7_lineUp := by decide +kernel
  have iX0 : ∀ w ∈ u_ws RX0 TX0 9, w ∈ wsX7_lineUp := by decide +kernel
  have iX6 : ∀ w ∈ u_ws RX6 TX6 9, w ∈ wsX7_lineUp := by decide +kernel
  have hl := lv_entry ([.ref a0]) (n := 5) (Nat.le_of_ble_eq_true rfl)
  rw [lg_entry_eq]
  generalize (lg_sl ([.ref a0]) ++ List.replicate (5 - (lg_sl ([.ref a0])).length) Slot.unset).toArray = ls at hl ⊢
  have hl : lv_has ls 5 [(0, .ref a0)] := hl
  refine lv_iconst (v := 0) hx hb dX7_lineUp_0 (by decide) ?_
  refine lv_istore_n (lv' := [(1, .int 0), (0, .ref a0)]) hx hb dX7_lineUp_1 rfl hl (by decide) rfl (fun ls hl => ?_)
  refine lv_iconst (v := 0) hx hb dX7_lineUp_2 (by decide) ?_
  refine lv_istore_n (lv' := [(2, .int 0), (1, .int 0), (0, .ref a0)]) hx hb dX7_lineUp_3 rfl hl (by decide) rfl (fun ls hl => ?_)
  have loop4_0 : ∀ (n : Nat) (I3 : tI) (H : Heap) (locs : List Loc) (ls : Array Slot) (v1 v2 : Int32), h_G h_so h_fk E A z I3 L0 s s.heap H locs → h_I z I3 → h_F [(803, 999), (802, 999), (804, 999), (805, 999)] z I0 I3 → lv_has ls 5 [(0, .ref a0), (1, .int v1), (2, .int v2)] → (0 ≤ v1.toInt ∧ v1.toInt ≤ 60) → (0 ≤ v2.toInt ∧ v2.toInt ≤ 8) → (8 - v2.toInt) < (n : Int) → W pr_ l ev_ (headSpec wsX7_lineUp ({ frames := 4, cells := 0, slots := 0, locals := 256 })).room s m ([.ref a0] : List Value).toArray below meth cd_ H locs 0 0 (MQ below (va_Qv (fun (I1 : tI) => h_I z I1 ∧ h_F [(803, 999), (802, 999), (804, 999), (805, 999)] z I0 I1 ∧ True) (fun (I1 : tI) t => h_B E A z I1 L0 t) A) ([.ref a0] : List Value).toArray s 0 0 A) (F0 m 4 ls []) := by
    intro n
    induction n with
    | zero => intro I3 H locs ls v1 v2 g hI hF hl jv1 jv2 hn; exact absurd hn (by omega)
    | succ n ih4 =>
      intro I3 H locs ls v1 v2 g hI hF hl jv1 jv2 hn
      refine lv_iload_n hx hb dX7_lineUp_4 rfl (lv_at hl 2 rfl) ?_
      refine lv_bipush (v := 8) hx hb dX7_lineUp_5 (by decide) ?_
      refine lv_icmp_ge (tgt := 125) hx hb dX7_lineUp_7 (by decide) (fun c4 => ?_) (fun c4 => ?_)
      · have ic4 := (xi_le c4 (by decide) rfl : 8 ≤ v2.toInt)
        refine lv_aload_n hx hb dX7_lineUp_125 rfl (lv_at hl 0 rfl) ?_
        obtain ⟨b5, rb5, tb5⟩ := hR.at a0 3 t_a0 (rfl : h_rs 8 3 = some (803, false)) (by decide)
        refine h_get (v := .ref b5) hx hb hts iX7 hown g t_a0 (by decide) so_8 rfl 3 (by decide) (hts (.fieldLink RX7 22 "CapLeague$RingSearch" "start" "[I") (by decide +kernel)) rfl dX7_lineUp_126 (by show va_rf (z.R a0 3) = _; rw [rb5]; rfl) ?_
        refine lv_bipush (v := 8) hx hb dX7_lineUp_129 (by decide) ?_
        refine lv_iload_n hx hb dX7_lineUp_131 rfl (lv_at hl 1 rfl) ?_
        refine h_ast hx hb g tb5 (by decide) so_803 (by unfold vp_in; decide) dX7_lineUp_132 (fun I6 H locs eI6 g => ?_)
        have hI := hI.wr eI6 tb5 (rfl : h_bd 803 _ = (0, 60)) (by omega) (by omega)
        have hF := hF.wr eI6 tb5 rfl
        have hS := g.2.1
        exact W.vret hx hb hr (fun t ht hW => ⟨⟨I6, rfl, ⟨hI, hF, trivial⟩, h_ret g ht⟩, hS.F ht⟩) hS.2.2 dX7_lineUp_133
      · have ic4 := (xi_nle c4 (by decide) rfl : v2.toInt < 8)
        refine lv_aload_n hx hb dX7_lineUp_10 rfl (lv_at hl 0 rfl) ?_
        obtain ⟨b7, rb7, tb7⟩ := hR.at a0 3 t_a0 (rfl : h_rs 8 3 = some (803, false)) (by decide)
        refine h_get (v := .ref b7) hx hb hts iX7 hown g t_a0 (by decide) so_8 rfl 3 (by decide) (hts (.fieldLink RX7 22 "CapLeague$RingSearch" "start" "[I") (by decide +kernel)) rfl dX7_lineUp_11 (by show va_rf (z.R a0 3) = _; rw [rb7]; rfl) ?_
        refine lv_iload_n hx hb dX7_lineUp_14 rfl (lv_at hl 2 rfl) ?_
        refine lv_iload_n hx hb dX7_lineUp_15 rfl (lv_at hl 1 rfl) ?_
        refine h_ast hx hb g tb7 (by decide) so_803 (xi_in (by omega) (by omega)) dX7_lineUp_16 (fun I8 H locs eI8 g => ?_)
        have hI := hI.wr eI8 tb7 (rfl : h_bd 803 _ = (0, 60)) (by omega) (by omega)
        have hF := hF.wr eI8 tb7 rfl
        refine lv_iconst (v := 0) hx hb dX7_lineUp_17 (by decide) ?_
        refine lv_istore_n (lv' := [(3, .int 0), (0, .ref a0), (1, .int v1), (2, .int v2)]) hx hb dX7_lineUp_18 rfl hl (by decide) rfl (fun ls hl => ?_)
        have loop19_1 : ∀ (n : Nat) (I11 : tI) (H : Heap) (locs : List Loc) (ls : Array Slot) (v9 v10 : Int32), h_G h_so h_fk E A z I11 L0 s s.heap H locs → h_I z I11 → h_F [(803, 999), (802, 999), (804, 999), (805, 999)] z I0 I11 → lv_has ls 5 [(0, .ref a0), (1, .int v9), (2, .int v2), (3, .int v10)] → (0 ≤ v9.toInt ∧ v9.toInt ≤ 60) → (0 ≤ v10.toInt ∧ v10.toInt ≤ 60) → (60 - v10.toInt) < (n : Int) → W pr_ l ev_ (headSpec wsX7_lineUp ({ frames := 4, cells := 0, slots := 0, locals := 256 })).room s m ([.ref a0] : List Value).toArray below meth cd_ H locs 0 0 (MQ below (va_Qv (fun (I1 : tI) => h_I z I1 ∧ h_F [(803, 999), (802, 999), (804, 999), (805, 999)] z I0 I1 ∧ True) (fun (I1 : tI) t => h_B E A z I1 L0 t) A) ([.ref a0] : List Value).toArray s 0 0 A) (F0 m 19 ls []) := by
          intro n
          induction n with
          | zero => intro I11 H locs ls v9 v10 g hI hF hl jv9 jv10 hn; exact absurd hn (by omega)
          | succ n ih19 =>
            intro I11 H locs ls v9 v10 g hI hF hl jv9 jv10 hn
            refine lv_iload_n hx hb dX7_lineUp_19 rfl (lv_at hl 3 rfl) ?_
            refine lv_aload_n hx hb dX7_lineUp_20 rfl (lv_at hl 0 rfl) ?_
            obtain ⟨b12, rb12, tb12⟩ := hR.at a0 0 t_a0 (rfl : h_rs 8 0 = some (1, false)) (by decide)
            refine h_get (v := .ref b12) hx hb hts iX7 hown g t_a0 (by decide) so_8 rfl 0 (by decide) (hts (.fieldLink RX7 48 "CapLeague$RingSearch" "books" "LCapLeague$Books;") (by decide +kernel)) rfl dX7_lineUp_21 (by show va_rf (z.R a0 0) = _; rw [rb12]; rfl) ?_
            refine h_get (v := .int (I11 b12 2)) hx hb hts iX0 hown g tb12 (by decide) so_1 rfl 2 (by decide) (hts (.fieldLink RX7 74 "CapLeague$Books" "size" "I") (by decide +kernel)) rfl dX7_lineUp_24 rfl ?_
            refine lv_topi (fun v13 ev13 => ?_)
            have jv13 := hI.rd b12 2 tb12 ev13 (rfl : h_bd 1 2 = (0, 60))
            refine lv_icmp_ge (tgt := 119) hx hb dX7_lineUp_27 (by decide) (fun c14 => ?_) (fun c14 => ?_)
            · have ic14 := (xi_le c14 rfl rfl : v13.toInt ≤ v10.toInt)
              obtain ⟨v15, ev15⟩ : ∃ z : Int32, z = v2 + 1 := ⟨_, rfl⟩
              have jv15 : v15.toInt = v2.toInt + 1 := xi_add ev15 rfl (by decide) (by omega) (by omega)
              refine lv_iinc (v := v15) (lv' := [(2, .int v15), (0, .ref a0), (1, .int v9), (3, .int v10)]) hx hb dX7_lineUp_119 hl (k := 2) rfl (by rw [ev15]; rfl) (by decide) rfl (fun ls hl => ?_)
              refine lv_goto (tgt := 4) hx hb dX7_lineUp_122 (by decide) ?_
              exact ih4 I11 _ _ _ v9 v15 g hI hF (lv_sub hl [1, 2, 0] rfl) (by omega) (by omega) (by omega)
            · have ic14 := (xi_nle c14 rfl rfl : v10.toInt < v13.toInt)
              refine lv_aload_n hx hb dX7_lineUp_30 rfl (lv_at hl 0 rfl) ?_
              refine h_get (v := .ref b12) hx hb hts iX7 hown g t_a0 (by decide) so_8 rfl 0 (by decide) (hts (.fieldLink RX7 48 "CapLeague$RingSearch" "books" "LCapLeague$Books;") (by decide +kernel)) rfl dX7_lineUp_31 (by show va_rf (z.R a0 0) = _; rw [rb12]; rfl) ?_
              refine lv_iload_n hx hb dX7_lineUp_34 rfl (lv_at hl 3 rfl) ?_
              refine va_csq (W.runV (As := [.int v10]) (rest := []) ⟨hx, hb, hml, hown, hts⟩ (tX0_playerAt l E X A z I11 L0 b12 tb12 v10 (v10.toInt) rfl) (cwV 1 hts gX7_lineUp_X0_playerAt rfl rfl rfl (by decide +kernel) ⟨Nat.le_of_ble_eq_true rfl, Nat.le_of_ble_eq_true rfl⟩) ⟨h_blind _ _ _ _ _ _ _, h_recv g tb12 (by decide) so_1 (q := (RX0, TX0, 9)) rfl, h_pre _ hE hk hX hA hI hR g⟩ rfl rfl hl.1 rfl (lv_room (Nat.le_of_ble_eq_true rfl)) dX7_lineUp_35 ⟨Nat.le_of_ble_eq_true rfl, Nat.le_of_ble_eq_true rfl⟩) (fun rh16 h16 => ?_)
              rcases h16 with rfl | ⟨rh16, rfl, trh16⟩
              · refine xw_v (v := .null) rfl ?_
                refine lv_astoreN (lv' := [(4, .null), (0, .ref a0), (1, .int v9), (2, .int v2), (3, .int v10)]) hx hb dX7_lineUp_38 hl (by decide) rfl (fun ls hl => ?_)
                refine lv_aloadN hx hb dX7_lineUp_40 (lv_at hl 0 rfl) ?_
                refine lv_ifnullN (tgt := 113) hx hb dX7_lineUp_42 (by decide) ?_
                obtain ⟨v17, ev17⟩ : ∃ z : Int32, z = v10 + 1 := ⟨_, rfl⟩
                have jv17 : v17.toInt = v10.toInt + 1 := xi_add ev17 rfl (by decide) (by omega) (by omega)
                refine lv_iinc (v := v17) (lv' := [(3, .int v17), (4, .null), (0, .ref a0), (1, .int v9), (2, .int v2)]) hx hb dX7_lineUp_113 hl (k := 4) rfl (by rw [ev17]; rfl) (by decide) rfl (fun ls hl => ?_)
                refine lv_goto (tgt := 19) hx hb dX7_lineUp_116 (by decide) ?_
                exact ih19 I11 _ _ _ v9 v17 g hI hF (lv_sub hl [2, 3, 4, 0] rfl) (by omega) (by omega) (by omega)
              · refine xw_v (v := .ref rh16) rfl ?_
                refine lv_astore (lv' := [(4, .ref rh16), (0, .ref a0), (1, .int v9), (2, .int v2), (3, .int v10)]) hx hb dX7_lineUp_38 hl (by decide) rfl (fun ls hl => ?_)
                refine lv_aload hx hb dX7_lineUp_40 (lv_at hl 0 rfl) ?_
                refine lv_ifnull hx hb dX7_lineUp_42 ?_
                refine lv_aload hx hb dX7_lineUp_45 (lv_at hl 0 rfl) ?_
                refine h_get (v := .int (I11 rh16 0)) hx hb hts iX6 hown g trh16 (by decide) so_7 rfl 0 (by decide) (hts (.fieldLink RX7 83 "CapLeague$Player" "club" "I") (by decide +kernel)) rfl dX7_lineUp_47 rfl ?_
                refine lv_topi (fun v18 ev18 => ?_)
                have jv18 := hI.rd rh16 0 trh16 ev18 (rfl : h_bd 7 0 = ((-1), 7))
                refine lv_iload_n hx hb dX7_lineUp_50 rfl (lv_at hl 3 rfl) ?_
                refine lv_icmp_ne (tgt := 113) hx hb dX7_lineUp_51 (by decide) (fun c19 => ?_) (fun c19 => ?_)
                · have ic19 := (xi_ne c19 rfl rfl : v18.toInt ≠ v2.toInt)
                  obtain ⟨v20, ev20⟩ : ∃ z : Int32, z = v10 + 1 := ⟨_, rfl⟩
                  have jv20 : v20.toInt = v10.toInt + 1 := xi_add ev20 rfl (by decide) (by omega) (by omega)
                  refine lv_iinc (v := v20) (lv' := [(3, .int v20), (4, .ref rh16), (0, .ref a0), (1, .int v9), (2, .int v2)]) hx hb dX7_lineUp_113 hl (k := 4) rfl (by rw [ev20]; rfl) (by decide) rfl (fun ls hl => ?_)
                  refine lv_goto (tgt := 19) hx hb dX7_lineUp_116 (by decide) ?_
                  exact ih19 I11 _ _ _ v9 v20 g hI hF (lv_sub hl [2, 3, 4, 0] rfl) (by omega) (by omega) (by omega)
                · have ic19 := (xi_eq c19 rfl rfl : v18.toInt = v2.toInt)
                  refine lv_iload_n hx hb dX7_lineUp_54 rfl (lv_at hl 2 rfl) ?_
                  refine lv_aload_n hx hb dX7_lineUp_55 rfl (lv_at hl 1 rfl) ?_
                  obtain ⟨b21, rb21, tb21⟩ := hR.at a0 2 t_a0 (rfl : h_rs 8 2 = some (802, false)) (by decide)
                  refine h_get (v := .ref b21) hx hb hts iX7 hown g t_a0 (by decide) so_8 rfl 2 (by decide) (hts (.fieldLink RX7 18 "CapLeague$RingSearch" "line" "[I") (by decide +kernel)) rfl dX7_lineUp_56 (by show va_rf (z.R a0 2) = _; rw [rb21]; rfl) ?_
                  refine h_alen (v := 60) hx hb g tb21 (by decide) (Or.inl so_802) rfl dX7_lineUp_59 ?_
                  refine lv_icmp_ge (tgt := 113) hx hb dX7_lineUp_60 (by decide) (fun c22 => ?_) (fun c22 => ?_)
                  · have ic22 := (xi_le c22 (by decide) rfl : 60 ≤ v9.toInt)
                    obtain ⟨v23, ev23⟩ : ∃ z : Int32, z = v10 + 1 := ⟨_, rfl⟩
                    have jv23 : v23.toInt = v10.toInt + 1 := xi_add ev23 rfl (by decide) (by omega) (by omega)
                    refine lv_iinc (v := v23) (lv' := [(3, .int v23), (4, .ref rh16), (0, .ref a0), (1, .int v9), (2, .int v2)]) hx hb dX7_lineUp_113 hl (k := 4) rfl (by rw [ev23]; rfl) (by decide) rfl (fun ls hl => ?_)
                    refine lv_goto (tgt := 19) hx hb dX7_lineUp_116 (by decide) ?_
                    exact ih19 I11 _ _ _ v9 v23 g hI hF (lv_sub hl [2, 3, 4, 0] rfl) (by omega) (by omega) (by omega)
                  · have ic22 := (xi_nle c22 (by decide) rfl : v9.toInt < 60)
                    refine lv_aload_n hx hb dX7_lineUp_63 rfl (lv_at hl 1 rfl) ?_
                    refine h_get (v := .ref b21) hx hb hts iX7 hown g t_a0 (by decide) so_8 rfl 2 (by decide) (hts (.fieldLink RX7 18 "CapLeague$RingSearch" "line" "[I") (by decide +kernel)) rfl dX7_lineUp_64 (by show va_rf (z.R a0 2) = _; rw [rb21]; rfl) ?_
                    refine lv_iload_n hx hb dX7_lineUp_67 rfl (lv_at hl 2 rfl) ?_
                    refine lv_iload_n hx hb dX7_lineUp_68 rfl (lv_at hl 4 rfl) ?_
                    refine h_ast hx hb g tb21 (by decide) so_802 (xi_in (by omega) (by omega)) dX7_lineUp_69 (fun I24 H locs eI24 g => ?_)
                    have hI := hI.wr eI24 tb21 (rfl : h_bd 802 _ = (0, 59)) (by omega) (by omega)
                    have hF := hF.wr eI24 tb21 rfl
                    refine lv_aload_n hx hb dX7_lineUp_70 rfl (lv_at hl 1 rfl) ?_
                    obtain ⟨b25, rb25, tb25⟩ := hR.at a0 4 t_a0 (rfl : h_rs 8 4 = some (804, false)) (by decide)
                    refine h_get (v := .ref b25) hx hb hts iX7 hown g t_a0 (by decide) so_8 rfl 4 (by decide) (hts (.fieldLink RX7 25 "CapLeague$RingSearch" "pays" "[I") (by decide +kernel)) rfl dX7_lineUp_71 (by show va_rf (z.R a0 4) = _; rw [rb25]; rfl) ?_
                    refine lv_iload_n hx hb dX7_lineUp_74 rfl (lv_at hl 4 rfl) ?_
                    refine lv_aload hx hb dX7_lineUp_75 (lv_at hl 0 rfl) ?_
                    refine lv_aload_n hx hb dX7_lineUp_77 rfl (lv_at hl 1 rfl) ?_
                    refine h_get (v := .ref b12) hx hb hts iX7 hown g t_a0 (by decide) so_8 rfl 0 (by decide) (hts (.fieldLink RX7 48 "CapLeague$RingSearch" "books" "LCapLeague$Books;") (by decide +kernel)) rfl dX7_lineUp_78 (by show va_rf (z.R a0 0) = _; rw [rb12]; rfl) ?_
                    refine h_get (v := .int (I24 b12 3)) hx hb hts iX0 hown g tb12 (by decide) so_1 rfl 3 (by decide) (hts (.fieldLink RX7 88 "CapLeague$Books" "clock" "I") (by decide +kernel)) rfl dX7_lineUp_81 rfl ?_
                    refine lv_topi (fun v26 ev26 => ?_)
                    have jv26 := hI.rd b12 3 tb12 ev26 (rfl : h_bd 1 3 = (0, 9))
                    refine vp_callSi (W.runV (As := [.int v26]) (rest := [.int v10, .ref b25]) ⟨hx, hb, hml, hown, hts⟩ (tX6_payIn l E X A z I24 L0 rh16 trh16 v26 (v26.toInt) rfl) (cwV 1 hts gX7_lineUp_X6_payIn rfl rfl rfl (by decide +kernel) ⟨Nat.le_of_ble_eq_true rfl, Nat.le_of_ble_eq_true rfl⟩) ⟨h_blind _ _ _ _ _ _ _, h_recv g trh16 (by decide) so_7 (q := (RX6, TX6, 9)) rfl, h_pre _ hE hk hX hA hI hR g⟩ rfl rfl hl.1 rfl (lv_room (Nat.le_of_ble_eq_true rfl)) dX7_lineUp_84 ⟨Nat.le_of_ble_eq_true rfl, Nat.le_of_ble_eq_true rfl⟩) (fun rh27 h27 => ?_)
                    have jrh27 : -2147483648 ≤ rh27.toInt ∧ rh27.toInt ≤ 2147483647 := ⟨xi_lo _, Int.le_of_lt_add_one (xi_hi _)⟩
                    refine h_ast hx hb g tb25 (by decide) so_804 (xi_in (by omega) (by omega)) dX7_lineUp_87 (fun I28 H locs eI28 g => ?_)
                    have hI := hI.wr eI28 tb25 (rfl : h_bd 804 _ = ((-2147483648), 2147483647)) (xi_lo _) (Int.le_of_lt_add_one (xi_hi _))
                    have hF := hF.wr eI28 tb25 rfl
                    refine lv_aload_n hx hb dX7_lineUp_88 rfl (lv_at hl 1 rfl) ?_
                    obtain ⟨b29, rb29, tb29⟩ := hR.at a0 5 t_a0 (rfl : h_rs 8 5 = some (805, false)) (by decide)
                    refine h_get (v := .ref b29) hx hb hts iX7 hown g t_a0 (by decide) so_8 rfl 5 (by decide) (hts (.fieldLink RX7 28 "CapLeague$RingSearch" "counts" "[I") (by decide +kernel)) rfl dX7_lineUp_89 (by show va_rf (z.R a0 5) = _; rw [rb29]; rfl) ?_
                    refine lv_iload_n hx hb dX7_lineUp_92 rfl (lv_at hl 4 rfl) ?_
                    refine lv_aload_n hx hb dX7_lineUp_93 rfl (lv_at hl 1 rfl) ?_
                    refine h_get (v := .ref b12) hx hb hts iX7 hown g t_a0 (by decide) so_8 rfl 0 (by decide) (hts (.fieldLink RX7 48 "CapLeague$RingSearch" "books" "LCapLeague$Books;") (by decide +kernel)) rfl dX7_lineUp_94 (by show va_rf (z.R a0 0) = _; rw [rb12]; rfl) ?_
                    refine lv_aload hx hb dX7_lineUp_97 (lv_at hl 0 rfl) ?_
                    refine lv_aload_n hx hb dX7_lineUp_99 rfl (lv_at hl 1 rfl) ?_
                    refine h_get (v := .ref b12) hx hb hts iX7 hown g t_a0 (by decide) so_8 rfl 0 (by decide) (hts (.fieldLink RX7 48 "CapLeague$RingSearch" "books" "LCapLeague$Books;") (by decide +kernel)) rfl dX7_lineUp_100 (by show va_rf (z.R a0 0) = _; rw [rb12]; rfl) ?_
                    refine h_get (v := .int v26) hx hb hts iX0 hown g tb12 (by decide) so_1 rfl 3 (by decide) (hts (.fieldLink RX7 88 "CapLeague$Books" "clock" "I") (by decide +kernel)) rfl dX7_lineUp_103 (congrArg Value.int ((h_n1 eI28 tb12 tb25 (by decide)).trans (ev26.symm))) ?_
                    refine vp_callSi (W.runV (As := [.ref rh16, .int v26]) (rest := [.int v10, .ref b29]) ⟨hx, hb, hml, hown, hts⟩ (tX0_countOf l E X A z I28 L0 b12 tb12 rh16 trh16 v26 (v26.toInt) rfl) (cwV 2 hts gX7_lineUp_X0_countOf rfl rfl rfl (by decide +kernel) ⟨Nat.le_of_ble_eq_true rfl, Nat.le_of_ble_eq_true rfl⟩) ⟨h_blind _ _ _ _ _ _ _, h_recv g tb12 (by decide) so_1 (q := (RX0, TX0, 9)) rfl, h_pre _ hE hk hX hA hI hR g⟩ rfl rfl hl.1 rfl (lv_room (Nat.le_of_ble_eq_true rfl)) dX7_lineUp_106 ⟨Nat.le_of_ble_eq_true rfl, Nat.le_of_ble_eq_true rfl⟩) (fun rh30 h30 => ?_)
                    have jrh30 : -2147483648 ≤ rh30.toInt ∧ rh30.toInt ≤ 2147483647 := ⟨xi_lo _, Int.le_of_lt_add_one (xi_hi _)⟩
                    refine h_ast hx hb g tb29 (by decide) so_805 (xi_in (by omega) (by omega)) dX7_lineUp_109 (fun I31 H locs eI31 g => ?_)
                    have hI := hI.wr eI31 tb29 (rfl : h_bd 805 _ = ((-2147483648), 2147483647)) (xi_lo _) (Int.le_of_lt_add_one (xi_hi _))
                    have hF := hF.wr eI31 tb29 rfl
                    obtain ⟨v32, ev32⟩ : ∃ z : Int32, z = v9 + 1 := ⟨_, rfl⟩
                    have jv32 : v32.toInt = v9.toInt + 1 := xi_add ev32 rfl (by decide) (by omega) (by omega)
                    refine lv_iinc (v := v32) (lv' := [(1, .int v32), (4, .ref rh16), (0, .ref a0), (2, .int v2), (3, .int v10)]) hx hb dX7_lineUp_110 hl (k := 2) rfl (by rw [ev32]; rfl) (by decide) rfl (fun ls hl => ?_)
                    obtain ⟨v33, ev33⟩ : ∃ z : Int32, z = v10 + 1 := ⟨_, rfl⟩
                    have jv33 : v33.toInt = v10.toInt + 1 := xi_add ev33 rfl (by decide) (by omega) (by omega)
                    refine lv_iinc (v := v33) (lv' := [(3, .int v33), (1, .int v32), (4, .ref rh16), (0, .ref a0), (2, .int v2)]) hx hb dX7_lineUp_113 hl (k := 4) rfl (by rw [ev33]; rfl) (by decide) rfl (fun ls hl => ?_)
                    refine lv_goto (tgt := 19) hx hb dX7_lineUp_116 (by decide) ?_
                    exact ih19 I31 _ _ _ v32 v33 g hI hF (lv_sub hl [3, 1, 4, 0] rfl) (by omega) (by omega) (by omega)
        exact loop19_1 _ I8 _ _ _ v1 (0) g hI hF (lv_sub hl [1, 2, 3, 0] rfl) (by omega) ⟨by decide, by decide⟩ (show (60 - (0 : Int)) < (((60 - (0 : Int)).toNat + 1 : Nat) : Int) by omega)
  exact loop4_0 _ I0 _ _ _ (0) (0) g hI hF (lv_sub hl [2, 1, 0] rfl) ⟨by decide, by decide⟩ ⟨by decide, by decide⟩ (show (8 - (0 : Int)) < (((8 - (0 : Int)).toNat + 1 : Nat) : Int) by omega)
set_option maxHeartbeats 4000000 in
set_option maxRecDepth 100000 in
theorem tX7_worthMore (l : Launch) (E : tE) (X : tX) (A : Nat → Prop) (z : tZ) (I0 : tI) (L0 : tL) (a0 : Nat) (t_a0 : z.ty a0 = 8) (c : Int32) (c_t : Int) (h_c : c.toInt = c_t) (b_c : 0 ≤ c_t ∧ c_t ≤ 7) (x : Int32) (x_t : Int) (h_x : x.toInt = x_t) (y : Int32) (y_t : Int) (h_y : y.toInt = y_t) : Met l yX7_worthMore wsX7_worthMore ({ frames := 2, cells := 0, slots := 0, locals := 128 }) (va_Pc [.ref a0, .int c, .int x, .int y] (h_P E X A z I0 L0)) (vp_Si (fun r => True)) 0 0 (fun _ => False) := by
  refine Met.ofW (cc := cX7_worthMore) (maxL := 6) (ret := (some .int)) (by decide) rfl ?_
  intro pr_ ev_ s m args below meth cd_ s₁ B hml hv
  obtain ⟨rfl, hE, hk, hX, hA, hK, hI, hR, hB0⟩ := hv
  have g : h_G h_so h_fk E A z I0 L0 s s.heap s.heap [] := ⟨hK, va_S.rf, hB0⟩
  have hx := B.exec
  have hb := B.bytes
  have hr := B.returns
  have hts := atoms_spec (ws := wsX7_worthMore) B.pre
  have hown : s.vm.findClass RX7 = some m.cls := findClass_of_methodNamed B.named
  have hlocks := B.notSynchronized
  have iX7 : ∀ w ∈ u_ws RX7 TX7 13, w ∈ wsX7_worthMore := by decide +kernel
  have iX6 : ∀ w ∈ u_ws RX6 TX6 9, w ∈ wsX7_worthMore := by decide +kernel
  have hl := lv_entry ([.ref a0, .int c, .int x, .int y]) (n := 6) (Nat.le_of_ble_eq_true rfl)
  rw [lg_entry_eq]
  generalize (lg_sl ([.ref a0, .int c, .int x, .int y]) ++ List.replicate (6 - (lg_sl ([.ref a0, .int c, .int x, .int y])).length) Slot.unset).toArray = ls at hl ⊢
  have hl : lv_has ls 6 [(0, .ref a0), (1, .int c), (2, .int x), (3, .int y)] := hl
  have b_x : -2147483648 ≤ x_t ∧ x_t ≤ 2147483647 := h_x ▸ ⟨xi_lo x, Int.le_of_lt_add_one (xi_hi x)⟩
  have b_y : -2147483648 ≤ y_t ∧ y_t ≤ 2147483647 := h_y ▸ ⟨xi_lo y, Int.le_of_lt_add_one (xi_hi y)⟩
  refine lv_aload_n hx hb dX7_worthMore_0 rfl (lv_at hl 0 rfl) ?_
  obtain ⟨b1, rb1, tb1⟩ := hR.at a0 0 t_a0 (rfl : h_rs 8 0 = some (1, false)) (by decide)
  refine h_get (v := .ref b1) hx hb hts iX7 hown g t_a0 (by decide) so_8 rfl 0 (by decide) (hts (.fieldLink RX7 48 "CapLeague$RingSearch" "books" "LCapLeague$Books;") (by decide +kernel)) rfl dX7_worthMore_1 (by show va_rf (z.R a0 0) = _; rw [rb1]; rfl) ?_
  refine lv_iload_n hx hb dX7_worthMore_4 rfl (lv_at hl 2 rfl) ?_
  refine va_csq (W.runV (As := [.int x]) (rest := []) ⟨hx, hb, hml, hown, hts⟩ (tX0_playerAt l E X A z I0 L0 b1 tb1 x (x_t) h_x) (cwV 1 hts gX7_worthMore_X0_playerAt rfl rfl rfl (by decide +kernel) ⟨Nat.le_of_ble_eq_true rfl, Nat.le_of_ble_eq_true rfl⟩) ⟨h_blind _ _ _ _ _ _ _, h_recv g tb1 (by decide) so_1 (q := (RX0, TX0, 9)) rfl, h_pre _ hE hk hX hA hI hR g⟩ rfl rfl hl.1 rfl (lv_room (Nat.le_of_ble_eq_true rfl)) dX7_worthMore_5 ⟨Nat.le_of_ble_eq_true rfl, Nat.le_of_ble_eq_true rfl⟩) (fun rh2 h2 => ?_)
  rcases h2 with rfl | ⟨rh2, rfl, trh2⟩
  · refine xw_v (v := .null) rfl ?_
    refine lv_astoreN (lv' := [(4, .null), (0, .ref a0), (1, .int c), (2, .int x), (3, .int y)]) hx hb dX7_worthMore_8 hl (by decide) rfl (fun ls hl => ?_)
    refine lv_aload_n hx hb dX7_worthMore_10 rfl (lv_at hl 1 rfl) ?_
    refine h_get (v := .ref b1) hx hb hts iX7 hown g t_a0 (by decide) so_8 rfl 0 (by decide) (hts (.fieldLink RX7 48 "CapLeague$RingSearch" "books" "LCapLeague$Books;") (by decide +kernel)) rfl dX7_worthMore_11 (by show va_rf (z.R a0 0) = _; rw [rb1]; rfl) ?_
    refine lv_iload_n hx hb dX7_worthMore_14 rfl (lv_at hl 4 rfl) ?_
    refine va_csq (W.runV (As := [.int y]) (rest := []) ⟨hx, hb, hml, hown, hts⟩ (tX0_playerAt l E X A z I0 L0 b1 tb1 y (y_t) h_y) (cwV 1 hts gX7_worthMore_X0_playerAt rfl rfl rfl (by decide +kernel) ⟨Nat.le_of_ble_eq_true rfl, Nat.le_of_ble_eq_true rfl⟩) ⟨h_blind _ _ _ _ _ _ _, h_recv g tb1 (by decide) so_1 (q := (RX0, TX0, 9)) rfl, h_pre _ hE hk hX hA hI hR g⟩ rfl rfl hl.1 rfl (lv_room (Nat.le_of_ble_eq_true rfl)) dX7_worthMore_15 ⟨Nat.le_of_ble_eq_true rfl, Nat.le_of_ble_eq_true rfl⟩) (fun rh3 h3 => ?_)
    rcases h3 with rfl | ⟨rh3, rfl, trh3⟩
    · refine xw_v (v := .null) rfl ?_
      refine lv_astoreN (lv' := [(5, .null), (4, .null), (0, .ref a0), (1, .int c), (2, .int x), (3, .int y)]) hx hb dX7_worthMore_18 hl (by decide) rfl (fun ls hl => ?_)
      refine lv_aloadN hx hb dX7_worthMore_20 (lv_at hl 1 rfl) ?_
      refine lv_ifnullN (tgt := 30) hx hb dX7_worthMore_22 (by decide) ?_
      refine lv_iconst (v := 0) hx hb dX7_worthMore_30 (by decide) ?_
      refine lv_goto (tgt := 49) hx hb dX7_worthMore_31 (by decide) ?_
      exact W.iret (v := 0) hx hb hr (fun t ht hW => ⟨0, rfl, trivial, ht⟩) (fun _ h => by cases h) dX7_worthMore_49
    · refine xw_v (v := .ref rh3) rfl ?_
      refine lv_astore (lv' := [(5, .ref rh3), (4, .null), (0, .ref a0), (1, .int c), (2, .int x), (3, .int y)]) hx hb dX7_worthMore_18 hl (by decide) rfl (fun ls hl => ?_)
      refine lv_aloadN hx hb dX7_worthMore_20 (lv_at hl 1 rfl) ?_
      refine lv_ifnullN (tgt := 30) hx hb dX7_worthMore_22 (by decide) ?_
      refine lv_iconst (v := 0) hx hb dX7_worthMore_30 (by decide) ?_
      refine lv_goto (tgt := 49) hx hb dX7_worthMore_31 (by decide) ?_
      exact W.iret (v := 0) hx hb hr (fun t ht hW => ⟨0, rfl, trivial, ht⟩) (fun _ h => by cases h) dX7_worthMore_49
  · refine xw_v (v := .ref rh2) rfl ?_
    refine lv_astore (lv' := [(4, .ref rh2), (0, .ref a0), (1, .int c), (2, .int x), (3, .int y)]) hx hb dX7_worthMore_8 hl (by decide) rfl (fun ls hl => ?_)
    refine lv_aload_n hx hb dX7_worthMore_10 rfl (lv_at hl 1 rfl) ?_
    refine h_get (v := .ref b1) hx hb hts iX7 hown g t_a0 (by decide) so_8 rfl 0 (by decide) (hts (.fieldLink RX7 48 "CapLeague$RingSearch" "books" "LCapLeague$Books;") (by decide +kernel)) rfl dX7_worthMore_11 (by show va_rf (z.R a0 0) = _; rw [rb1]; rfl) ?_
    refine lv_iload_n hx hb dX7_worthMore_14 rfl (lv_at hl 4 rfl) ?_
    refine va_csq (W.runV (As := [.int y]) (rest := []) ⟨hx, hb, hml, hown, hts⟩ (tX0_playerAt l E X A z I0 L0 b1 tb1 y (y_t) h_y) (cwV 1 hts gX7_worthMore_X0_playerAt rfl rfl rfl (by decide +kernel) ⟨Nat.le_of_ble_eq_true rfl, Nat.le_of_ble_eq_true rfl⟩) ⟨h_blind _ _ _ _ _ _ _, h_recv g tb1 (by decide) so_1 (q := (RX0, TX0, 9)) rfl, h_pre _ hE hk hX hA hI hR g⟩ rfl rfl hl.1 rfl (lv_room (Nat.le_of_ble_eq_true rfl)) dX7_worthMore_15 ⟨Nat.le_of_ble_eq_true rfl, Nat.le_of_ble_eq_true rfl⟩) (fun rh4 h4 => ?_)
    rcases h4 with rfl | ⟨rh4, rfl, trh4⟩
    · refine xw_v (v := .null) rfl ?_
      refine lv_astoreN (lv' := [(5, .null), (4, .ref rh2), (0, .ref a0), (1, .int c), (2, .int x), (3, .int y)]) hx hb dX7_worthMore_18 hl (by decide) rfl (fun ls hl => ?_)
      refine lv_aload hx hb dX7_worthMore_20 (lv_at hl 1 rfl) ?_
      refine lv_ifnull hx hb dX7_worthMore_22 ?_
      refine lv_aloadN hx hb dX7_worthMore_25 (lv_at hl 0 rfl) ?_
      refine lv_ifnonnullN hx hb dX7_worthMore_27 ?_
      refine lv_iconst (v := 0) hx hb dX7_worthMore_30 (by decide) ?_
      refine lv_goto (tgt := 49) hx hb dX7_worthMore_31 (by decide) ?_
      exact W.iret (v := 0) hx hb hr (fun t ht hW => ⟨0, rfl, trivial, ht⟩) (fun _ h => by cases h) dX7_worthMore_49
    · refine xw_v (v := .ref rh4) rfl ?_
      refine lv_astore (lv' := [(5, .ref rh4), (4, .ref rh2), (0, .ref a0), (1, .int c), (2, .int x), (3, .int y)]) hx hb dX7_worthMore_18 hl (by decide) rfl (fun ls hl => ?_)
      refine lv_aload hx hb dX7_worthMore_20 (lv_at hl 1 rfl) ?_
      refine lv_ifnull hx hb dX7_worthMore_22 ?_
      refine lv_aload hx hb dX7_worthMore_25 (lv_at hl 0 rfl) ?_
      refine lv_ifnonnull (tgt := 34) hx hb dX7_worthMore_27 (by decide) ?_
      refine lv_aload hx hb dX7_worthMore_34 (lv_at hl 0 rfl) ?_
      obtain ⟨b5, rb5, tb5⟩ := hR.at rh4 8 trh4 (rfl : h_rs 7 8 = some (708, false)) (by decide)
      refine h_get (v := .ref b5) hx hb hts iX6 hown g trh4 (by decide) so_7 rfl 8 (by decide) (hts (.fieldLink RX7 119 "CapLeague$Player" "worths" "[I") (by decide +kernel)) rfl dX7_worthMore_36 (by show va_rf (z.R rh4 8) = _; rw [rb5]; rfl) ?_
      refine lv_iload_n hx hb dX7_worthMore_39 rfl (lv_at hl 3 rfl) ?_
      refine h_ald hx hb g tb5 (by decide) so_708 (xi_in (by rw [h_c]; omega) (by rw [h_c]; omega)) dX7_worthMore_40 ?_
      refine lv_topi (fun v6 ev6 => ?_)
      have jv6 := hI.rd b5 c.toNatClampNeg tb5 ev6 (rfl : h_bd 708 _ = ((-2147483648), 2147483647))
      refine lv_aload hx hb dX7_worthMore_41 (lv_at hl 1 rfl) ?_
      obtain ⟨b7, rb7, tb7⟩ := hR.at rh2 8 trh2 (rfl : h_rs 7 8 = some (708, false)) (by decide)
      refine h_get (v := .ref b7) hx hb hts iX6 hown g trh2 (by decide) so_7 rfl 8 (by decide) (hts (.fieldLink RX7 119 "CapLeague$Player" "worths" "[I") (by decide +kernel)) rfl dX7_worthMore_43 (by show va_rf (z.R rh2 8) = _; rw [rb7]; rfl) ?_
      refine lv_iload_n hx hb dX7_worthMore_46 rfl (lv_at hl 3 rfl) ?_
      refine h_ald hx hb g tb7 (by decide) so_708 (xi_in (by rw [h_c]; omega) (by rw [h_c]; omega)) dX7_worthMore_47 ?_
      refine lv_topi (fun v8 ev8 => ?_)
      have jv8 := hI.rd b7 c.toNatClampNeg tb7 ev8 (rfl : h_bd 708 _ = ((-2147483648), 2147483647))
      refine lv_isub hx hb dX7_worthMore_48 ?_
      refine lv_topi (fun v9 ev9 => ?_)
      have jv9 : -2147483648 ≤ v9.toInt ∧ v9.toInt ≤ 2147483647 := ⟨xi_lo _, Int.le_of_lt_add_one (xi_hi _)⟩
      exact W.iret (v := v9) hx hb hr (fun t ht hW => ⟨v9, rfl, trivial, ht⟩) (fun _ h => by cases h) dX7_worthMore_49
set_option maxHeartbeats 4000000 in
set_option maxRecDepth 100000 in
theorem tX7_isLegal (l : Launch) (E : tE) (X : tX) (A : Nat → Prop) (z : tZ) (I0 : tI) (L0 : tL) (a0 : Nat) (t_a0 : z.ty a0 = 8) (x : Int32) (x_t : Int) (h_x : x.toInt = x_t) (b_x : 0 ≤ x_t ∧ x_t ≤ 59) (y : Int32) (y_t : Int) (h_y : y.toInt = y_t) (b_y : 0 ≤ y_t ∧ y_t ≤ 59) (p : Int32) (p_t : Int) (h_p : p.toInt = p_t) (c : Int32) (c_t : Int) (h_c : c.toInt = c_t) (n0 : Nat) (t_n0 : z.ty n0 = 6) : Met l yX7_isLegal wsX7_isLegal ({ frames := 3, cells := 0, slots := 0, locals := 192 }) (va_Pc [.ref a0, .int x, .int y, .int p, .int c, .ref n0] (h_P E X A z I0 L0)) (va_Qi (fun r (I1 : tI) => h_I z I1 ∧ h_F [(2, 0), (2, 1), (2, 2), (2, 3)] z I0 I1 ∧ (0 ≤ r.toInt ∧ r.toInt ≤ 1)) (fun (I1 : tI) t => h_B E A z I1 L0 t) A) 0 0 A := by
  refine Met.ofW (cc := cX7_isLegal) (maxL := 6) (ret := (some .boolean)) (by decide) rfl ?_
  intro pr_ ev_ s m args below meth cd_ s₁ B hml hv
  obtain ⟨rfl, hE, hk, hX, hA, hK, hI, hR, hB0⟩ := hv
  have g : h_G h_so h_fk E A z I0 L0 s s.heap s.heap [] := ⟨hK, va_S.rf, hB0⟩
  have hF : h_F [(2, 0), (2, 1), (2, 2), (2, 3)] z I0 I0 := h_F.rf
  have hx := B.exec
  have hb := B.bytes
  have hr := B.returns
  have hts := atoms_spec (ws := wsX7_isLegal) B.pre
  have hown : s.vm.findClass RX7 = some m.cls := findClass_of_methodNamed B.named
  have hlocks := B.notSynchronized
  have iX7 : ∀ w ∈ u_ws RX7 TX7 13, w ∈ wsX7_isLegal := by decide +kernel
  have hl := lv_entry ([.ref a0, .int x, .int y, .int p, .int c, .ref n0]) (n := 6) (Nat.le_of_ble_eq_true rfl)
  rw [lg_entry_eq]
  generalize (lg_sl ([.ref a0, .int x, .int y, .int p, .int c, .ref n0]) ++ List.replicate (6 - (lg_sl ([.ref a0, .int x, .int y, .int p, .int c, .ref n0])).length) Slot.unset).toArray = ls at hl ⊢
  have hl : lv_has ls 6 [(0, .ref a0), (1, .int x), (2, .int y), (3, .int p), (4, .int c), (5, .ref n0)] := hl
  have b_p : -2147483648 ≤ p_t ∧ p_t ≤ 2147483647 := h_p ▸ ⟨xi_lo p, Int.le_of_lt_add_one (xi_hi p)⟩
  have b_c : -2147483648 ≤ c_t ∧ c_t ≤ 2147483647 := h_c ▸ ⟨xi_lo c, Int.le_of_lt_add_one (xi_hi c)⟩
  refine lv_aload_n hx hb dX7_isLegal_0 rfl (lv_at hl 0 rfl) ?_
  obtain ⟨b1, rb1, tb1⟩ := hR.at a0 1 t_a0 (rfl : h_rs 8 1 = some (2, false)) (by decide)
  refine h_get (v := .ref b1) hx hb hts iX7 hown g t_a0 (by decide) so_8 rfl 1 (by decide) (hts (.fieldLink RX7 12 "CapLeague$RingSearch" "change" "LCapLeague$Change;") (by decide +kernel)) rfl dX7_isLegal_1 (by show va_rf (z.R a0 1) = _; rw [rb1]; rfl) ?_
  refine va_callv (va_runV (As := []) (rest := []) ⟨hx, hb, hml, hown, hts⟩ (tX1_clear l E X A z I0 L0 b1 tb1) (cwV 0 hts gX7_isLegal_X1_clear rfl rfl rfl (by decide +kernel) ⟨Nat.le_of_ble_eq_true rfl, Nat.le_of_ble_eq_true rfl⟩) ⟨h_blind _ _ _ _ _ _ _, h_recv g tb1 (by decide) so_2 (q := (RX1, TX1, 4)) rfl, h_pre _ hE hk hX hA hI hR g⟩ rfl rfl hl.1 rfl (lv_room (Nat.le_of_ble_eq_true rfl)) dX7_isLegal_4 ⟨Nat.le_of_ble_eq_true rfl, Nat.le_of_ble_eq_true rfl⟩) g.2.1 (fun q _ h => h) (fun q h => h) (fun I3 t H1 locs ht hvm h2 hB hz1 hk1 hS => ?_)
  obtain ⟨hI, fh2, h2⟩ := h2
  replace g := h_after g hB ht hS
  generalize H1 = H at g
  clear hB hk1 hz1 ht hvm hS
  have hF := hF.call fh2 rfl
  refine lv_aload_n hx hb dX7_isLegal_7 rfl (lv_at hl 0 rfl) ?_
  refine h_get (v := .ref b1) hx hb hts iX7 hown g t_a0 (by decide) so_8 rfl 1 (by decide) (hts (.fieldLink RX7 12 "CapLeague$RingSearch" "change" "LCapLeague$Change;") (by decide +kernel)) rfl dX7_isLegal_8 (by show va_rf (z.R a0 1) = _; rw [rb1]; rfl) ?_
  refine lv_aload_n hx hb dX7_isLegal_11 rfl (lv_at hl 0 rfl) ?_
  obtain ⟨b4, rb4, tb4⟩ := hR.at a0 4 t_a0 (rfl : h_rs 8 4 = some (804, false)) (by decide)
  refine h_get (v := .ref b4) hx hb hts iX7 hown g t_a0 (by decide) so_8 rfl 4 (by decide) (hts (.fieldLink RX7 25 "CapLeague$RingSearch" "pays" "[I") (by decide +kernel)) rfl dX7_isLegal_12 (by show va_rf (z.R a0 4) = _; rw [rb4]; rfl) ?_
  refine lv_iload_n hx hb dX7_isLegal_15 rfl (lv_at hl 1 rfl) ?_
  refine h_ald hx hb g tb4 (by decide) so_804 (xi_in (by rw [h_x]; omega) (by rw [h_x]; omega)) dX7_isLegal_16 ?_
  refine lv_topi (fun v5 ev5 => ?_)
  have jv5 := hI.rd b4 x.toNatClampNeg tb4 ev5 (rfl : h_bd 804 _ = ((-2147483648), 2147483647))
  refine lv_aload_n hx hb dX7_isLegal_17 rfl (lv_at hl 0 rfl) ?_
  obtain ⟨b6, rb6, tb6⟩ := hR.at a0 5 t_a0 (rfl : h_rs 8 5 = some (805, false)) (by decide)
  refine h_get (v := .ref b6) hx hb hts iX7 hown g t_a0 (by decide) so_8 rfl 5 (by decide) (hts (.fieldLink RX7 28 "CapLeague$RingSearch" "counts" "[I") (by decide +kernel)) rfl dX7_isLegal_18 (by show va_rf (z.R a0 5) = _; rw [rb6]; rfl) ?_
  refine lv_iload_n hx hb dX7_isLegal_21 rfl (lv_at hl 1 rfl) ?_
  refine h_ald hx hb g tb6 (by decide) so_805 (xi_in (by rw [h_x]; omega) (by rw [h_x]; omega)) dX7_isLegal_22 ?_
  refine lv_topi (fun v7 ev7 => ?_)
  have jv7 := hI.rd b6 x.toNatClampNeg tb6 ev7 (rfl : h_bd 805 _ = ((-2147483648), 2147483647))
  refine va_callv (va_runV (As := [.int v5, .int v7]) (rest := []) ⟨hx, hb, hml, hown, hts⟩ (tX1_goes l E X A z I3 L0 b1 tb1 v5 (v5.toInt) rfl v7 (v7.toInt) rfl) (cwV 2 hts gX7_isLegal_X1_goes rfl rfl rfl (by decide +kernel) ⟨Nat.le_of_ble_eq_true rfl, Nat.le_of_ble_eq_true rfl⟩) ⟨h_blind _ _ _ _ _ _ _, h_recv g tb1 (by decide) so_2 (q := (RX1, TX1, 4)) rfl, h_pre _ hE hk hX hA hI hR g⟩ rfl rfl hl.1 rfl (lv_room (Nat.le_of_ble_eq_true rfl)) dX7_isLegal_23 ⟨Nat.le_of_ble_eq_true rfl, Nat.le_of_ble_eq_true rfl⟩) g.2.1 (fun q _ h => h) (fun q h => h) (fun I9 t H1 locs ht hvm h8 hB hz1 hk1 hS => ?_)
  obtain ⟨hI, fh8, h8⟩ := h8
  replace g := h_after g hB ht hS
  generalize H1 = H at g
  clear hB hk1 hz1 ht hvm hS
  have hF := hF.call fh8 rfl
  refine lv_aload_n hx hb dX7_isLegal_26 rfl (lv_at hl 0 rfl) ?_
  refine h_get (v := .ref b1) hx hb hts iX7 hown g t_a0 (by decide) so_8 rfl 1 (by decide) (hts (.fieldLink RX7 12 "CapLeague$RingSearch" "change" "LCapLeague$Change;") (by decide +kernel)) rfl dX7_isLegal_27 (by show va_rf (z.R a0 1) = _; rw [rb1]; rfl) ?_
  refine lv_aload_n hx hb dX7_isLegal_30 rfl (lv_at hl 0 rfl) ?_
  refine h_get (v := .ref b4) hx hb hts iX7 hown g t_a0 (by decide) so_8 rfl 4 (by decide) (hts (.fieldLink RX7 25 "CapLeague$RingSearch" "pays" "[I") (by decide +kernel)) rfl dX7_isLegal_31 (by show va_rf (z.R a0 4) = _; rw [rb4]; rfl) ?_
  refine lv_iload_n hx hb dX7_isLegal_34 rfl (lv_at hl 2 rfl) ?_
  refine h_ald hx hb g tb4 (by decide) so_804 (xi_in (by rw [h_y]; omega) (by rw [h_y]; omega)) dX7_isLegal_35 ?_
  refine lv_topi (fun v10 ev10 => ?_)
  have jv10 := hI.rd b4 y.toNatClampNeg tb4 ev10 (rfl : h_bd 804 _ = ((-2147483648), 2147483647))
  refine lv_aload_n hx hb dX7_isLegal_36 rfl (lv_at hl 0 rfl) ?_
  refine h_get (v := .ref b6) hx hb hts iX7 hown g t_a0 (by decide) so_8 rfl 5 (by decide) (hts (.fieldLink RX7 28 "CapLeague$RingSearch" "counts" "[I") (by decide +kernel)) rfl dX7_isLegal_37 (by show va_rf (z.R a0 5) = _; rw [rb6]; rfl) ?_
  refine lv_iload_n hx hb dX7_isLegal_40 rfl (lv_at hl 2 rfl) ?_
  refine h_ald hx hb g tb6 (by decide) so_805 (xi_in (by rw [h_y]; omega) (by rw [h_y]; omega)) dX7_isLegal_41 ?_
  refine lv_topi (fun v11 ev11 => ?_)
  have jv11 := hI.rd b6 y.toNatClampNeg tb6 ev11 (rfl : h_bd 805 _ = ((-2147483648), 2147483647))
  refine va_callv (va_runV (As := [.int v10, .int v11]) (rest := []) ⟨hx, hb, hml, hown, hts⟩ (tX1_comes l E X A z I9 L0 b1 tb1 v10 (v10.toInt) rfl v11 (v11.toInt) rfl) (cwV 2 hts gX7_isLegal_X1_comes rfl rfl rfl (by decide +kernel) ⟨Nat.le_of_ble_eq_true rfl, Nat.le_of_ble_eq_true rfl⟩) ⟨h_blind _ _ _ _ _ _ _, h_recv g tb1 (by decide) so_2 (q := (RX1, TX1, 4)) rfl, h_pre _ hE hk hX hA hI hR g⟩ rfl rfl hl.1 rfl (lv_room (Nat.le_of_ble_eq_true rfl)) dX7_isLegal_42 ⟨Nat.le_of_ble_eq_true rfl, Nat.le_of_ble_eq_true rfl⟩) g.2.1 (fun q _ h => h) (fun q h => h) (fun I13 t H1 locs ht hvm h12 hB hz1 hk1 hS => ?_)
  obtain ⟨hI, fh12, h12⟩ := h12
  replace g := h_after g hB ht hS
  generalize H1 = H at g
  clear hB hk1 hz1 ht hvm hS
  have hF := hF.call fh12 rfl
  refine lv_aload_n hx hb dX7_isLegal_45 rfl (lv_at hl 0 rfl) ?_
  refine h_get (v := .ref b1) hx hb hts iX7 hown g t_a0 (by decide) so_8 rfl 1 (by decide) (hts (.fieldLink RX7 12 "CapLeague$RingSearch" "change" "LCapLeague$Change;") (by decide +kernel)) rfl dX7_isLegal_46 (by show va_rf (z.R a0 1) = _; rw [rb1]; rfl) ?_
  refine lv_iload_n hx hb dX7_isLegal_49 rfl (lv_at hl 3 rfl) ?_
  refine lv_iload hx hb dX7_isLegal_50 (lv_at hl 4 rfl) ?_
  refine lv_aload hx hb dX7_isLegal_52 (lv_at hl 5 rfl) ?_
  refine vp_callSi (W.runV (As := [.int p, .int c, .ref n0]) (rest := []) ⟨hx, hb, hml, hown, hts⟩ (tX1_faultFor l E X A z I13 L0 b1 tb1 p (p_t) h_p c (c_t) h_c n0 t_n0) (cwV 3 hts gX7_isLegal_X1_faultFor rfl rfl rfl (by decide +kernel) ⟨Nat.le_of_ble_eq_true rfl, Nat.le_of_ble_eq_true rfl⟩) ⟨h_blind _ _ _ _ _ _ _, h_recv g tb1 (by decide) so_2 (q := (RX1, TX1, 4)) rfl, h_pre _ hE hk hX hA hI hR g⟩ rfl rfl hl.1 rfl (lv_room (Nat.le_of_ble_eq_true rfl)) dX7_isLegal_54 ⟨Nat.le_of_ble_eq_true rfl, Nat.le_of_ble_eq_true rfl⟩) (fun rh14 h14 => ?_)
  have jrh14 : -2147483648 ≤ rh14.toInt ∧ rh14.toInt ≤ 2147483647 := ⟨xi_lo _, Int.le_of_lt_add_one (xi_hi _)⟩
  refine lv_if_ne (tgt := 64) hx hb dX7_isLegal_57 (by decide) (fun c15 => ?_) (fun c15 => ?_)
  · have ic15 := (xi_ne c15 rfl (by decide) : rh14.toInt ≠ 0)
    refine lv_iconst (v := 0) hx hb dX7_isLegal_64 (by decide) ?_
    have hS := g.2.1
    exact W.zret (v := 0) hx hb hr (by decide) (fun t ht hW => ⟨⟨0, I13, rfl, ⟨hI, hF, ⟨(by decide), (by decide)⟩⟩, h_ret g ht⟩, hS.F ht⟩) hS.2.2 dX7_isLegal_65
  · have ic15 := (xi_eq c15 rfl (by decide) : rh14.toInt = 0)
    refine lv_iconst (v := 1) hx hb dX7_isLegal_60 (by decide) ?_
    refine lv_goto (tgt := 65) hx hb dX7_isLegal_61 (by decide) ?_
    have hS := g.2.1
    exact W.zret (v := 1) hx hb hr (by decide) (fun t ht hW => ⟨⟨1, I13, rfl, ⟨hI, hF, ⟨(by decide), (by decide)⟩⟩, h_ret g ht⟩, hS.F ht⟩) hS.2.2 dX7_isLegal_65
set_option maxHeartbeats 4000000 in
set_option maxRecDepth 100000 in
theorem tX7_findGains (l : Launch) (E : tE) (X : tX) (A : Nat → Prop) (z : tZ) (I0 : tI) (L0 : tL) (a0 : Nat) (t_a0 : z.ty a0 = 8) (c : Int32) (c_t : Int) (h_c : c.toInt = c_t) (b_c : 0 ≤ c_t ∧ c_t ≤ 7) : Met l yX7_findGains wsX7_findGains ({ frames := 5, cells := 0, slots := 0, locals := 320 }) (va_Pc [.ref a0, .int c] (h_P E X A z I0 L0)) (va_Qv (fun (I1 : tI) => h_I z I1 ∧ h_F [(2, 0), (2, 1), (2, 2), (2, 3), (808, 999), (807, 999), (856, 999)] z I0 I1 ∧ True) (fun (I1 : tI) t => h_B E A z I1 L0 t) A) 0 0 A := by
  refine Met.ofW (cc := cX7_findGains) (maxL := 11) (ret := none) (by decide) rfl ?_
  intro pr_ ev_ s m args below meth cd_ s₁ B hml hv
  obtain ⟨rfl, hE, hk, hX, hA, hK, hI, hR, hB0⟩ := hv
  have g : h_G h_so h_fk E A z I0 L0 s s.heap s.heap [] := ⟨hK, va_S.rf, hB0⟩
  have hF : h_F [(2, 0), (2, 1), (2, 2), (2, 3), (808, 999), (807, 999), (856, 999)] z I0 I0 := h_F.rf
  have hx := B.exec
  have hb := B.bytes
  have hr := B.returns
  have hts := atoms_spec (ws := wsX7_findGains) B.pre
  have hown : s.vm.findClass RX7 = some m.cls := findClass_of_methodNamed B.named
  have hlocks := B.notSynchronized
  have iX7 : ∀ w ∈ u_ws RX7 TX7 13, w ∈ wsX7_findGains := by decide +kernel
  have iX0 : ∀ w ∈ u_ws RX0 TX0 9, w ∈ wsX7_findGains := by decide +kernel
  have hl := lv_entry ([.ref a0, .int c]) (n := 11) (Nat.le_of_ble_eq_true rfl)
  rw [lg_entry_eq]
  generalize (lg_sl ([.ref a0, .int c]) ++ List.replicate (11 - (lg_sl ([.ref a0, .int c])).length) Slot.unset).toArray = ls at hl ⊢
  have hl : lv_has ls 11 [(0, .ref a0), (1, .int c)] := hl
  refine lv_aload_n hx hb dX7_findGains_0 rfl (lv_at hl 0 rfl) ?_
  obtain ⟨b1, rb1, tb1⟩ := hR.at a0 0 t_a0 (rfl : h_rs 8 0 = some (1, false)) (by decide)
  refine h_get (v := .ref b1) hx hb hts iX7 hown g t_a0 (by decide) so_8 rfl 0 (by decide) (hts (.fieldLink RX7 48 "CapLeague$RingSearch" "books" "LCapLeague$Books;") (by decide +kernel)) rfl dX7_findGains_1 (by show va_rf (z.R a0 0) = _; rw [rb1]; rfl) ?_
  refine va_csq (W.runV (As := []) (rest := []) ⟨hx, hb, hml, hown, hts⟩ (tX0_lawsNow l E X A z I0 L0 b1 tb1) (cwV 0 hts gX7_findGains_X0_lawsNow rfl rfl rfl (by decide +kernel) ⟨Nat.le_of_ble_eq_true rfl, Nat.le_of_ble_eq_true rfl⟩) ⟨h_blind _ _ _ _ _ _ _, h_recv g tb1 (by decide) so_1 (q := (RX0, TX0, 9)) rfl, h_pre _ hE hk hX hA hI hR g⟩ rfl rfl hl.1 rfl (lv_room (Nat.le_of_ble_eq_true rfl)) dX7_findGains_4 ⟨Nat.le_of_ble_eq_true rfl, Nat.le_of_ble_eq_true rfl⟩) (fun rh2 h2 => ?_)
  obtain ⟨rh2, rfl, trh2⟩ := h2
  refine xw_v (v := .ref rh2) rfl ?_
  refine lv_astore_n (lv' := [(2, .ref rh2), (0, .ref a0), (1, .int c)]) hx hb dX7_findGains_7 rfl hl (by decide) rfl (fun ls hl => ?_)
  refine lv_aload_n hx hb dX7_findGains_8 rfl (lv_at hl 1 rfl) ?_
  obtain ⟨b3, rb3, tb3⟩ := hR.at a0 3 t_a0 (rfl : h_rs 8 3 = some (803, false)) (by decide)
  refine h_get (v := .ref b3) hx hb hts iX7 hown g t_a0 (by decide) so_8 rfl 3 (by decide) (hts (.fieldLink RX7 22 "CapLeague$RingSearch" "start" "[I") (by decide +kernel)) rfl dX7_findGains_9 (by show va_rf (z.R a0 3) = _; rw [rb3]; rfl) ?_
  refine lv_iload_n hx hb dX7_findGains_12 rfl (lv_at hl 2 rfl) ?_
  refine lv_iconst (v := 1) hx hb dX7_findGains_13 (by decide) ?_
  refine lv_iadd hx hb dX7_findGains_14 ?_
  refine lv_topi (fun v4 ev4 => ?_)
  have jv4 : v4.toInt = c_t + 1 := xi_add ev4 h_c (by decide) (by omega) (by omega)
  refine h_ald hx hb g tb3 (by decide) so_803 (xi_in (by omega) (by omega)) dX7_findGains_15 ?_
  refine lv_topi (fun v5 ev5 => ?_)
  have jv5 := hI.rd b3 v4.toNatClampNeg tb3 ev5 (rfl : h_bd 803 _ = (0, 60))
  refine lv_aload_n hx hb dX7_findGains_16 rfl (lv_at hl 1 rfl) ?_
  refine h_get (v := .ref b3) hx hb hts iX7 hown g t_a0 (by decide) so_8 rfl 3 (by decide) (hts (.fieldLink RX7 22 "CapLeague$RingSearch" "start" "[I") (by decide +kernel)) rfl dX7_findGains_17 (by show va_rf (z.R a0 3) = _; rw [rb3]; rfl) ?_
  refine lv_iload_n hx hb dX7_findGains_20 rfl (lv_at hl 2 rfl) ?_
  refine h_ald hx hb g tb3 (by decide) so_803 (xi_in (by rw [h_c]; omega) (by rw [h_c]; omega)) dX7_findGains_21 ?_
  refine lv_topi (fun v6 ev6 => ?_)
  have jv6 := hI.rd b3 c.toNatClampNeg tb3 ev6 (rfl : h_bd 803 _ = (0, 60))
  refine lv_isub hx hb dX7_findGains_22 ?_
  refine lv_topi (fun v7 ev7 => ?_)
  have jv7 : v7.toInt = v5.toInt - v6.toInt := xi_sub ev7 rfl rfl (by omega) (by omega)
  refine lv_istore_n (lv' := [(3, .int v7), (2, .ref rh2), (0, .ref a0), (1, .int c)]) hx hb dX7_findGains_23 rfl hl (by decide) rfl (fun ls hl => ?_)
  refine lv_aload_n hx hb dX7_findGains_24 rfl (lv_at hl 2 rfl) ?_
  refine h_get (v := .ref b1) hx hb hts iX7 hown g t_a0 (by decide) so_8 rfl 0 (by decide) (hts (.fieldLink RX7 48 "CapLeague$RingSearch" "books" "LCapLeague$Books;") (by decide +kernel)) rfl dX7_findGains_25 (by show va_rf (z.R a0 0) = _; rw [rb1]; rfl) ?_
  refine lv_iload_n hx hb dX7_findGains_28 rfl (lv_at hl 3 rfl) ?_
  refine lv_aload_n hx hb dX7_findGains_29 rfl (lv_at hl 2 rfl) ?_
  refine h_get (v := .ref b1) hx hb hts iX7 hown g t_a0 (by decide) so_8 rfl 0 (by decide) (hts (.fieldLink RX7 48 "CapLeague$RingSearch" "books" "LCapLeague$Books;") (by decide +kernel)) rfl dX7_findGains_30 (by show va_rf (z.R a0 0) = _; rw [rb1]; rfl) ?_
  refine h_get (v := .int (I0 b1 3)) hx hb hts iX0 hown g tb1 (by decide) so_1 rfl 3 (by decide) (hts (.fieldLink RX7 88 "CapLeague$Books" "clock" "I") (by decide +kernel)) rfl dX7_findGains_33 rfl ?_
  refine lv_topi (fun v8 ev8 => ?_)
  have jv8 := hI.rd b1 3 tb1 ev8 (rfl : h_bd 1 3 = (0, 9))
  refine vp_callSi (W.runV (As := [.int c, .int v8]) (rest := []) ⟨hx, hb, hml, hown, hts⟩ (tX0_counts l E X A z I0 L0 b1 tb1 c (c_t) h_c v8 (v8.toInt) rfl) (cwV 2 hts gX7_findGains_X0_counts rfl rfl rfl (by decide +kernel) ⟨Nat.le_of_ble_eq_true rfl, Nat.le_of_ble_eq_true rfl⟩) ⟨h_blind _ _ _ _ _ _ _, h_recv g tb1 (by decide) so_1 (q := (RX0, TX0, 9)) rfl, h_pre _ hE hk hX hA hI hR g⟩ rfl rfl hl.1 rfl (lv_room (Nat.le_of_ble_eq_true rfl)) dX7_findGains_36 ⟨Nat.le_of_ble_eq_true rfl, Nat.le_of_ble_eq_true rfl⟩) (fun rh9 h9 => ?_)
  have jrh9 : -2147483648 ≤ rh9.toInt ∧ rh9.toInt ≤ 2147483647 := ⟨xi_lo _, Int.le_of_lt_add_one (xi_hi _)⟩
  refine lv_istore (lv' := [(4, .int rh9), (3, .int v7), (2, .ref rh2), (0, .ref a0), (1, .int c)]) hx hb dX7_findGains_39 hl (by decide) rfl (fun ls hl => ?_)
  refine lv_aload_n hx hb dX7_findGains_41 rfl (lv_at hl 3 rfl) ?_
  obtain ⟨b10, rb10, tb10⟩ := hR.at a0 8 t_a0 (rfl : h_rs 8 8 = some (808, false)) (by decide)
  refine h_get (v := .ref b10) hx hb hts iX7 hown g t_a0 (by decide) so_8 rfl 8 (by decide) (hts (.fieldLink RX7 39 "CapLeague$RingSearch" "clubTop" "[I") (by decide +kernel)) rfl dX7_findGains_42 (by show va_rf (z.R a0 8) = _; rw [rb10]; rfl) ?_
  refine lv_iload_n hx hb dX7_findGains_45 rfl (lv_at hl 4 rfl) ?_
  refine lv_iconst (v := 0) hx hb dX7_findGains_46 (by decide) ?_
  refine h_ast hx hb g tb10 (by decide) so_808 (xi_in (by rw [h_c]; omega) (by rw [h_c]; omega)) dX7_findGains_47 (fun I11 H locs eI11 g => ?_)
  have hI := hI.wr eI11 tb10 (rfl : h_bd 808 _ = ((-2147483648), 2147483647)) (by decide) (by decide)
  have hF := hF.wr eI11 tb10 rfl
  refine lv_aload_n hx hb dX7_findGains_48 rfl (lv_at hl 3 rfl) ?_
  refine h_get (v := .ref b3) hx hb hts iX7 hown g t_a0 (by decide) so_8 rfl 3 (by decide) (hts (.fieldLink RX7 22 "CapLeague$RingSearch" "start" "[I") (by decide +kernel)) rfl dX7_findGains_49 (by show va_rf (z.R a0 3) = _; rw [rb3]; rfl) ?_
  refine lv_iload_n hx hb dX7_findGains_52 rfl (lv_at hl 4 rfl) ?_
  refine h_ald hx hb g tb3 (by decide) so_803 (xi_in (by rw [h_c]; omega) (by rw [h_c]; omega)) dX7_findGains_53 ?_
  refine xw_i ((h_n1 eI11 tb3 tb10 (by decide)).trans (ev6.symm)) ?_
  refine lv_istore (lv' := [(5, .int v6), (4, .int rh9), (3, .int v7), (2, .ref rh2), (0, .ref a0), (1, .int c)]) hx hb dX7_findGains_54 hl (by decide) rfl (fun ls hl => ?_)
  have loop56_0 : ∀ (n : Nat) (I13 : tI) (H : Heap) (locs : List Loc) (ls : Array Slot) (v12 : Int32), h_G h_so h_fk E A z I13 L0 s s.heap H locs → h_I z I13 → h_F [(2, 0), (2, 1), (2, 2), (2, 3), (808, 999), (807, 999), (856, 999)] z I0 I13 → lv_has ls 11 [(0, .ref a0), (1, .int c), (2, .ref rh2), (3, .int v7), (4, .int rh9), (5, .int v12)] → (0 ≤ v12.toInt ∧ v12.toInt ≤ 60) → (60 - v12.toInt) < (n : Int) → W pr_ l ev_ (headSpec wsX7_findGains ({ frames := 5, cells := 0, slots := 0, locals := 320 })).room s m ([.ref a0, .int c] : List Value).toArray below meth cd_ H locs 0 0 (MQ below (va_Qv (fun (I1 : tI) => h_I z I1 ∧ h_F [(2, 0), (2, 1), (2, 2), (2, 3), (808, 999), (807, 999), (856, 999)] z I0 I1 ∧ True) (fun (I1 : tI) t => h_B E A z I1 L0 t) A) ([.ref a0, .int c] : List Value).toArray s 0 0 A) (F0 m 56 ls []) := by
    intro n
    induction n with
    | zero => intro I13 H locs ls v12 g hI hF hl jv12 hn; exact absurd hn (by omega)
    | succ n ih56 =>
      intro I13 H locs ls v12 g hI hF hl jv12 hn
      refine lv_iload hx hb dX7_findGains_56 (lv_at hl 5 rfl) ?_
      refine lv_aload_n hx hb dX7_findGains_58 rfl (lv_at hl 0 rfl) ?_
      refine h_get (v := .ref b3) hx hb hts iX7 hown g t_a0 (by decide) so_8 rfl 3 (by decide) (hts (.fieldLink RX7 22 "CapLeague$RingSearch" "start" "[I") (by decide +kernel)) rfl dX7_findGains_59 (by show va_rf (z.R a0 3) = _; rw [rb3]; rfl) ?_
      refine lv_iload_n hx hb dX7_findGains_62 rfl (lv_at hl 1 rfl) ?_
      refine lv_iconst (v := 1) hx hb dX7_findGains_63 (by decide) ?_
      refine lv_iadd hx hb dX7_findGains_64 ?_
      refine xw_i (v := v4) ev4.symm ?_
      refine h_ald hx hb g tb3 (by decide) so_803 (xi_in (by omega) (by omega)) dX7_findGains_65 ?_
      refine xw_i ((h_F.at hF tb3 rfl).trans (ev5.symm)) ?_
      refine lv_icmp_ge (tgt := 258) hx hb dX7_findGains_66 (by decide) (fun c14 => ?_) (fun c14 => ?_)
      · have ic14 := (xi_le c14 rfl rfl : v5.toInt ≤ v12.toInt)
        have hS := g.2.1
        exact W.vret hx hb hr (fun t ht hW => ⟨⟨I13, rfl, ⟨hI, hF, trivial⟩, h_ret g ht⟩, hS.F ht⟩) hS.2.2 dX7_findGains_258
      · have ic14 := (xi_nle c14 rfl rfl : v12.toInt < v5.toInt)
        refine lv_aload_n hx hb dX7_findGains_69 rfl (lv_at hl 0 rfl) ?_
        obtain ⟨b15, rb15, tb15⟩ := hR.at a0 2 t_a0 (rfl : h_rs 8 2 = some (802, false)) (by decide)
        refine h_get (v := .ref b15) hx hb hts iX7 hown g t_a0 (by decide) so_8 rfl 2 (by decide) (hts (.fieldLink RX7 18 "CapLeague$RingSearch" "line" "[I") (by decide +kernel)) rfl dX7_findGains_70 (by show va_rf (z.R a0 2) = _; rw [rb15]; rfl) ?_
        refine lv_iload hx hb dX7_findGains_73 (lv_at hl 5 rfl) ?_
        refine h_ald hx hb g tb15 (by decide) so_802 (xi_in (by omega) (by omega)) dX7_findGains_75 ?_
        refine lv_topi (fun v16 ev16 => ?_)
        have jv16 := hI.rd b15 v12.toNatClampNeg tb15 ev16 (rfl : h_bd 802 _ = (0, 59))
        refine lv_istore (lv' := [(6, .int v16), (0, .ref a0), (1, .int c), (2, .ref rh2), (3, .int v7), (4, .int rh9), (5, .int v12)]) hx hb dX7_findGains_76 hl (by decide) rfl (fun ls hl => ?_)
        refine lv_aload_n hx hb dX7_findGains_78 rfl (lv_at hl 1 rfl) ?_
        obtain ⟨b17, rb17, tb17⟩ := hR.at a0 7 t_a0 (rfl : h_rs 8 7 = some (807, false)) (by decide)
        refine h_get (v := .ref b17) hx hb hts iX7 hown g t_a0 (by decide) so_8 rfl 7 (by decide) (hts (.fieldLink RX7 36 "CapLeague$RingSearch" "playerTop" "[I") (by decide +kernel)) rfl dX7_findGains_79 (by show va_rf (z.R a0 7) = _; rw [rb17]; rfl) ?_
        refine lv_iload hx hb dX7_findGains_82 (lv_at hl 0 rfl) ?_
        refine lv_iconst (v := 0) hx hb dX7_findGains_84 (by decide) ?_
        refine h_ast hx hb g tb17 (by decide) so_807 (xi_in (by omega) (by omega)) dX7_findGains_85 (fun I18 H locs eI18 g => ?_)
        have hI := hI.wr eI18 tb17 (rfl : h_bd 807 _ = ((-2147483648), 2147483647)) (by decide) (by decide)
        have hF := hF.wr eI18 tb17 rfl
        refine lv_iconst (v := 0) hx hb dX7_findGains_86 (by decide) ?_
        refine lv_istore (lv' := [(7, .int 0), (6, .int v16), (0, .ref a0), (1, .int c), (2, .ref rh2), (3, .int v7), (4, .int rh9), (5, .int v12)]) hx hb dX7_findGains_87 hl (by decide) rfl (fun ls hl => ?_)
        have loop89_1 : ∀ (n : Nat) (I20 : tI) (H : Heap) (locs : List Loc) (ls : Array Slot) (v19 : Int32), h_G h_so h_fk E A z I20 L0 s s.heap H locs → h_I z I20 → h_F [(2, 0), (2, 1), (2, 2), (2, 3), (808, 999), (807, 999), (856, 999)] z I0 I20 → lv_has ls 11 [(0, .ref a0), (1, .int c), (2, .ref rh2), (3, .int v7), (4, .int rh9), (5, .int v12), (6, .int v16), (7, .int v19)] → (0 ≤ v19.toInt ∧ v19.toInt ≤ 60) → (60 - v19.toInt) < (n : Int) → W pr_ l ev_ (headSpec wsX7_findGains ({ frames := 5, cells := 0, slots := 0, locals := 320 })).room s m ([.ref a0, .int c] : List Value).toArray below meth cd_ H locs 0 0 (MQ below (va_Qv (fun (I1 : tI) => h_I z I1 ∧ h_F [(2, 0), (2, 1), (2, 2), (2, 3), (808, 999), (807, 999), (856, 999)] z I0 I1 ∧ True) (fun (I1 : tI) t => h_B E A z I1 L0 t) A) ([.ref a0, .int c] : List Value).toArray s 0 0 A) (F0 m 89 ls []) := by
          intro n
          induction n with
          | zero => intro I20 H locs ls v19 g hI hF hl jv19 hn; exact absurd hn (by omega)
          | succ n ih89 =>
            intro I20 H locs ls v19 g hI hF hl jv19 hn
            refine lv_iload hx hb dX7_findGains_89 (lv_at hl 7 rfl) ?_
            refine lv_aload_n hx hb dX7_findGains_91 rfl (lv_at hl 0 rfl) ?_
            refine h_get (v := .ref b3) hx hb hts iX7 hown g t_a0 (by decide) so_8 rfl 3 (by decide) (hts (.fieldLink RX7 22 "CapLeague$RingSearch" "start" "[I") (by decide +kernel)) rfl dX7_findGains_92 (by show va_rf (z.R a0 3) = _; rw [rb3]; rfl) ?_
            refine lv_bipush (v := 8) hx hb dX7_findGains_95 (by decide) ?_
            refine h_ald hx hb g tb3 (by decide) so_803 (by unfold vp_in; decide) dX7_findGains_97 ?_
            refine lv_topi (fun v21 ev21 => ?_)
            have jv21 := hI.rd b3 (8 : Int32).toNatClampNeg tb3 ev21 (rfl : h_bd 803 _ = (0, 60))
            refine lv_icmp_ge (tgt := 230) hx hb dX7_findGains_98 (by decide) (fun c22 => ?_) (fun c22 => ?_)
            · have ic22 := (xi_le c22 rfl rfl : v21.toInt ≤ v19.toInt)
              refine lv_aload_n hx hb dX7_findGains_230 rfl (lv_at hl 0 rfl) ?_
              refine h_get (v := .ref b10) hx hb hts iX7 hown g t_a0 (by decide) so_8 rfl 8 (by decide) (hts (.fieldLink RX7 39 "CapLeague$RingSearch" "clubTop" "[I") (by decide +kernel)) rfl dX7_findGains_231 (by show va_rf (z.R a0 8) = _; rw [rb10]; rfl) ?_
              refine lv_iload_n hx hb dX7_findGains_234 rfl (lv_at hl 1 rfl) ?_
              refine lv_aload_n hx hb dX7_findGains_235 rfl (lv_at hl 0 rfl) ?_
              refine h_get (v := .ref b10) hx hb hts iX7 hown g t_a0 (by decide) so_8 rfl 8 (by decide) (hts (.fieldLink RX7 39 "CapLeague$RingSearch" "clubTop" "[I") (by decide +kernel)) rfl dX7_findGains_236 (by show va_rf (z.R a0 8) = _; rw [rb10]; rfl) ?_
              refine lv_iload_n hx hb dX7_findGains_239 rfl (lv_at hl 1 rfl) ?_
              refine h_ald hx hb g tb10 (by decide) so_808 (xi_in (by rw [h_c]; omega) (by rw [h_c]; omega)) dX7_findGains_240 ?_
              refine lv_topi (fun v23 ev23 => ?_)
              have jv23 := hI.rd b10 c.toNatClampNeg tb10 ev23 (rfl : h_bd 808 _ = ((-2147483648), 2147483647))
              refine lv_aload_n hx hb dX7_findGains_241 rfl (lv_at hl 0 rfl) ?_
              refine h_get (v := .ref b17) hx hb hts iX7 hown g t_a0 (by decide) so_8 rfl 7 (by decide) (hts (.fieldLink RX7 36 "CapLeague$RingSearch" "playerTop" "[I") (by decide +kernel)) rfl dX7_findGains_242 (by show va_rf (z.R a0 7) = _; rw [rb17]; rfl) ?_
              refine lv_iload hx hb dX7_findGains_245 (lv_at hl 6 rfl) ?_
              refine h_ald hx hb g tb17 (by decide) so_807 (xi_in (by omega) (by omega)) dX7_findGains_247 ?_
              refine lv_topi (fun v24 ev24 => ?_)
              have jv24 := hI.rd b17 v16.toNatClampNeg tb17 ev24 (rfl : h_bd 807 _ = ((-2147483648), 2147483647))
              refine va_mmax hx hb (hml.trans hl.1.symm) hown (hts (.methodLink RX7 114 Lib.Math.max.name) (by decide +kernel)) (hts (.static Lib.Math.max.name) (by decide +kernel)) (hts (.initialized "java/lang/Math") (by decide +kernel)) (hts (.code Lib.Math.max.name Lib.Math.max.code 2 (some .int)) (by decide +kernel)) (Nat.le_of_ble_eq_true rfl) (Nat.le_of_ble_eq_true rfl) (Nat.le_of_ble_eq_true rfl) (Nat.le_of_ble_eq_true rfl) dX7_findGains_248 ?_
              refine lv_topi (fun v25 ev25 => ?_)
              have jv25 := h_max (a := v23.toInt) (b := v24.toInt) ev25 rfl rfl
              refine h_ast hx hb g tb10 (by decide) so_808 (xi_in (by rw [h_c]; omega) (by rw [h_c]; omega)) dX7_findGains_251 (fun I26 H locs eI26 g => ?_)
              have hI := hI.wr eI26 tb10 (rfl : h_bd 808 _ = ((-2147483648), 2147483647)) (xi_lo _) (Int.le_of_lt_add_one (xi_hi _))
              have hF := hF.wr eI26 tb10 rfl
              obtain ⟨v27, ev27⟩ : ∃ z : Int32, z = v12 + 1 := ⟨_, rfl⟩
              have jv27 : v27.toInt = v12.toInt + 1 := xi_add ev27 rfl (by decide) (by omega) (by omega)
              refine lv_iinc (v := v27) (lv' := [(5, .int v27), (0, .ref a0), (1, .int c), (2, .ref rh2), (3, .int v7), (4, .int rh9), (6, .int v16), (7, .int v19)]) hx hb dX7_findGains_252 hl (k := 5) rfl (by rw [ev27]; rfl) (by decide) rfl (fun ls hl => ?_)
              refine lv_goto (tgt := 56) hx hb dX7_findGains_255 (by decide) ?_
              exact ih56 I26 _ _ _ v27 g hI hF (lv_sub hl [1, 2, 3, 4, 5, 0] rfl) (by omega) (by omega)
            · have ic22 := (xi_nle c22 rfl rfl : v19.toInt < v21.toInt)
              refine lv_aload_n hx hb dX7_findGains_101 rfl (lv_at hl 0 rfl) ?_
              refine h_get (v := .ref b15) hx hb hts iX7 hown g t_a0 (by decide) so_8 rfl 2 (by decide) (hts (.fieldLink RX7 18 "CapLeague$RingSearch" "line" "[I") (by decide +kernel)) rfl dX7_findGains_102 (by show va_rf (z.R a0 2) = _; rw [rb15]; rfl) ?_
              refine lv_iload hx hb dX7_findGains_105 (lv_at hl 7 rfl) ?_
              refine h_ald hx hb g tb15 (by decide) so_802 (xi_in (by omega) (by omega)) dX7_findGains_107 ?_
              refine lv_topi (fun v28 ev28 => ?_)
              have jv28 := hI.rd b15 v19.toNatClampNeg tb15 ev28 (rfl : h_bd 802 _ = (0, 59))
              refine lv_istore (lv' := [(8, .int v28), (0, .ref a0), (1, .int c), (2, .ref rh2), (3, .int v7), (4, .int rh9), (5, .int v12), (6, .int v16), (7, .int v19)]) hx hb dX7_findGains_108 hl (by decide) rfl (fun ls hl => ?_)
              refine lv_iload hx hb dX7_findGains_110 (lv_at hl 8 rfl) ?_
              refine lv_aload_n hx hb dX7_findGains_112 rfl (lv_at hl 1 rfl) ?_
              refine h_get (v := .ref b3) hx hb hts iX7 hown g t_a0 (by decide) so_8 rfl 3 (by decide) (hts (.fieldLink RX7 22 "CapLeague$RingSearch" "start" "[I") (by decide +kernel)) rfl dX7_findGains_113 (by show va_rf (z.R a0 3) = _; rw [rb3]; rfl) ?_
              refine lv_iload_n hx hb dX7_findGains_116 rfl (lv_at hl 2 rfl) ?_
              refine h_ald hx hb g tb3 (by decide) so_803 (xi_in (by rw [h_c]; omega) (by rw [h_c]; omega)) dX7_findGains_117 ?_
              refine xw_i ((h_F.at hF tb3 rfl).trans (ev6.symm)) ?_
              refine lv_icmp_lt (tgt := 134) hx hb dX7_findGains_118 (by decide) (fun c29 => ?_) (fun c29 => ?_)
              · have ic29 := (xi_lt c29 rfl rfl : v19.toInt < v6.toInt)
                refine lv_iconst (v := 1) hx hb dX7_findGains_134 (by decide) ?_
                refine lv_goto (tgt := 139) hx hb dX7_findGains_135 (by decide) ?_
                refine lv_istore (lv' := [(9, .int 1), (8, .int v28), (0, .ref a0), (1, .int c), (2, .ref rh2), (3, .int v7), (4, .int rh9), (5, .int v12), (6, .int v16), (7, .int v19)]) hx hb dX7_findGains_139 hl (by decide) rfl (fun ls hl => ?_)
                refine lv_iload hx hb dX7_findGains_141 (lv_at hl 0 rfl) ?_
                refine lv_if_eq (tgt := 158) hx hb dX7_findGains_143 (by decide) (fun h => absurd h (by decide)) (fun _ => ?_)
                refine lv_aload_n hx hb dX7_findGains_146 rfl (lv_at hl 2 rfl) ?_
                refine lv_iload_n hx hb dX7_findGains_147 rfl (lv_at hl 3 rfl) ?_
                refine lv_iload hx hb dX7_findGains_148 (lv_at hl 8 rfl) ?_
                refine lv_iload hx hb dX7_findGains_150 (lv_at hl 1 rfl) ?_
                refine vp_callSi (W.runV (As := [.int c, .int v16, .int v28]) (rest := []) ⟨hx, hb, hml, hown, hts⟩ (tX7_worthMore l E X A z I20 L0 a0 t_a0 c (c_t) h_c (by omega) v16 (v16.toInt) rfl v28 (v28.toInt) rfl) (cwV 3 hts gX7_findGains_X7_worthMore rfl rfl rfl (by decide +kernel) ⟨Nat.le_of_ble_eq_true rfl, Nat.le_of_ble_eq_true rfl⟩) ⟨h_blind _ _ _ _ _ _ _, h_recv g t_a0 (by decide) so_8 (q := (RX7, TX7, 13)) rfl, h_pre _ hE hk hX hA hI hR g⟩ rfl rfl hl.1 rfl (lv_room (Nat.le_of_ble_eq_true rfl)) dX7_findGains_152 ⟨Nat.le_of_ble_eq_true rfl, Nat.le_of_ble_eq_true rfl⟩) (fun rh31 h31 => ?_)
                have jrh31 : -2147483648 ≤ rh31.toInt ∧ rh31.toInt ≤ 2147483647 := ⟨xi_lo _, Int.le_of_lt_add_one (xi_hi _)⟩
                refine lv_goto (tgt := 159) hx hb dX7_findGains_155 (by decide) ?_
                refine lv_istore (lv' := [(10, .int rh31), (9, .int 1), (8, .int v28), (0, .ref a0), (1, .int c), (2, .ref rh2), (3, .int v7), (4, .int rh9), (5, .int v12), (6, .int v16), (7, .int v19)]) hx hb dX7_findGains_159 hl (by decide) rfl (fun ls hl => ?_)
                refine lv_aload_n hx hb dX7_findGains_161 rfl (lv_at hl 3 rfl) ?_
                obtain ⟨b32, rb32, tb32⟩ := hR.at a0 6 t_a0 (rfl : h_rs 8 6 = some (806, false)) (by decide)
                refine h_get (v := .ref b32) hx hb hts iX7 hown g t_a0 (by decide) so_8 rfl 6 (by decide) (hts (.fieldLink RX7 33 "CapLeague$RingSearch" "gains" "[[I") (by decide +kernel)) rfl dX7_findGains_162 (by show va_rf (z.R a0 6) = _; rw [rb32]; rfl) ?_
                refine lv_iload hx hb dX7_findGains_165 (lv_at hl 9 rfl) ?_
                obtain ⟨b33, rb33, tb33⟩ := hR.at b32 v16.toNatClampNeg tb32 (rfl : h_rs 806 _ = some (856, false)) (by rw [so_806]; exact h_lt (n := 60) (xi_in (by omega) (by omega)))
                refine h_aldA (v := .ref b33) hx hb g tb32 (by decide) so_806 (xi_in (by omega) (by omega)) dX7_findGains_167 (by rw [rb33]; rfl) ?_
                refine lv_iload hx hb dX7_findGains_168 (lv_at hl 2 rfl) ?_
                refine lv_iload hx hb dX7_findGains_170 (lv_at hl 0 rfl) ?_
                refine lv_if_le (tgt := 195) hx hb dX7_findGains_172 (by decide) (fun c34 => ?_) (fun c34 => ?_)
                · have ic34 := (xi_le c34 rfl (by decide) : rh31.toInt ≤ 0)
                  refine lv_iconst (v := 0) hx hb dX7_findGains_195 (by decide) ?_
                  refine h_ast hx hb g tb33 (by decide) so_856 (xi_in (by omega) (by omega)) dX7_findGains_196 (fun I35 H locs eI35 g => ?_)
                  have hI := hI.wr eI35 tb33 (rfl : h_bd 856 _ = ((-2147483648), 2147483647)) (by decide) (by decide)
                  have hF := hF.wr eI35 tb33 rfl
                  refine lv_aload_n hx hb dX7_findGains_197 rfl (lv_at hl 3 rfl) ?_
                  refine h_get (v := .ref b17) hx hb hts iX7 hown g t_a0 (by decide) so_8 rfl 7 (by decide) (hts (.fieldLink RX7 36 "CapLeague$RingSearch" "playerTop" "[I") (by decide +kernel)) rfl dX7_findGains_198 (by show va_rf (z.R a0 7) = _; rw [rb17]; rfl) ?_
                  refine lv_iload hx hb dX7_findGains_201 (lv_at hl 9 rfl) ?_
                  refine lv_aload_n hx hb dX7_findGains_203 rfl (lv_at hl 3 rfl) ?_
                  refine h_get (v := .ref b17) hx hb hts iX7 hown g t_a0 (by decide) so_8 rfl 7 (by decide) (hts (.fieldLink RX7 36 "CapLeague$RingSearch" "playerTop" "[I") (by decide +kernel)) rfl dX7_findGains_204 (by show va_rf (z.R a0 7) = _; rw [rb17]; rfl) ?_
                  refine lv_iload hx hb dX7_findGains_207 (lv_at hl 9 rfl) ?_
                  refine h_ald hx hb g tb17 (by decide) so_807 (xi_in (by omega) (by omega)) dX7_findGains_209 ?_
                  refine lv_topi (fun v36 ev36 => ?_)
                  have jv36 := hI.rd b17 v16.toNatClampNeg tb17 ev36 (rfl : h_bd 807 _ = ((-2147483648), 2147483647))
                  refine lv_aload_n hx hb dX7_findGains_210 rfl (lv_at hl 3 rfl) ?_
                  refine h_get (v := .ref b32) hx hb hts iX7 hown g t_a0 (by decide) so_8 rfl 6 (by decide) (hts (.fieldLink RX7 33 "CapLeague$RingSearch" "gains" "[[I") (by decide +kernel)) rfl dX7_findGains_211 (by show va_rf (z.R a0 6) = _; rw [rb32]; rfl) ?_
                  refine lv_iload hx hb dX7_findGains_214 (lv_at hl 9 rfl) ?_
                  obtain ⟨b37, rb37, tb37⟩ := hR.at b32 v16.toNatClampNeg tb32 (rfl : h_rs 806 _ = some (856, false)) (by rw [so_806]; exact h_lt (n := 60) (xi_in (by omega) (by omega)))
                  refine h_aldA (v := .ref b37) hx hb g tb32 (by decide) so_806 (xi_in (by omega) (by omega)) dX7_findGains_216 (by rw [rb37]; rfl) ?_
                  refine lv_iload hx hb dX7_findGains_217 (lv_at hl 2 rfl) ?_
                  refine h_ald hx hb g tb37 (by decide) so_856 (xi_in (by omega) (by omega)) dX7_findGains_219 ?_
                  refine lv_topi (fun v38 ev38 => ?_)
                  have jv38 := hI.rd b37 v28.toNatClampNeg tb37 ev38 (rfl : h_bd 856 _ = ((-2147483648), 2147483647))
                  refine va_mmax hx hb (hml.trans hl.1.symm) hown (hts (.methodLink RX7 114 Lib.Math.max.name) (by decide +kernel)) (hts (.static Lib.Math.max.name) (by decide +kernel)) (hts (.initialized "java/lang/Math") (by decide +kernel)) (hts (.code Lib.Math.max.name Lib.Math.max.code 2 (some .int)) (by decide +kernel)) (Nat.le_of_ble_eq_true rfl) (Nat.le_of_ble_eq_true rfl) (Nat.le_of_ble_eq_true rfl) (Nat.le_of_ble_eq_true rfl) dX7_findGains_220 ?_
                  refine lv_topi (fun v39 ev39 => ?_)
                  have jv39 := h_max (a := v36.toInt) (b := v38.toInt) ev39 rfl rfl
                  refine h_ast hx hb g tb17 (by decide) so_807 (xi_in (by omega) (by omega)) dX7_findGains_223 (fun I40 H locs eI40 g => ?_)
                  have hI := hI.wr eI40 tb17 (rfl : h_bd 807 _ = ((-2147483648), 2147483647)) (xi_lo _) (Int.le_of_lt_add_one (xi_hi _))
                  have hF := hF.wr eI40 tb17 rfl
                  obtain ⟨v41, ev41⟩ : ∃ z : Int32, z = v19 + 1 := ⟨_, rfl⟩
                  have jv41 : v41.toInt = v19.toInt + 1 := xi_add ev41 rfl (by decide) (by omega) (by omega)
                  refine lv_iinc (v := v41) (lv' := [(7, .int v41), (10, .int rh31), (9, .int 1), (8, .int v28), (0, .ref a0), (1, .int c), (2, .ref rh2), (3, .int v7), (4, .int rh9), (5, .int v12), (6, .int v16)]) hx hb dX7_findGains_224 hl (k := 10) rfl (by rw [ev41]; rfl) (by decide) rfl (fun ls hl => ?_)
                  refine lv_goto (tgt := 89) hx hb dX7_findGains_227 (by decide) ?_
                  exact ih89 I40 _ _ _ v41 g hI hF (lv_sub hl [4, 5, 6, 7, 8, 9, 10, 0] rfl) (by omega) (by omega)
                · have ic34 := (xi_nle c34 rfl (by decide) : 0 < rh31.toInt)
                  refine lv_aload_n hx hb dX7_findGains_175 rfl (lv_at hl 3 rfl) ?_
                  refine lv_iload hx hb dX7_findGains_176 (lv_at hl 9 rfl) ?_
                  refine lv_iload hx hb dX7_findGains_178 (lv_at hl 2 rfl) ?_
                  refine lv_iload_n hx hb dX7_findGains_180 rfl (lv_at hl 6 rfl) ?_
                  refine lv_iload hx hb dX7_findGains_181 (lv_at hl 7 rfl) ?_
                  refine lv_aload_n hx hb dX7_findGains_183 rfl (lv_at hl 5 rfl) ?_
                  refine va_calli (va_runV (As := [.int v16, .int v28, .int v7, .int rh9, .ref rh2]) (rest := [.int v28, .ref b33]) ⟨hx, hb, hml, hown, hts⟩ (tX7_isLegal l E X A z I20 L0 a0 t_a0 v16 (v16.toInt) rfl (by omega) v28 (v28.toInt) rfl (by omega) v7 (v7.toInt) rfl rh9 (rh9.toInt) rfl rh2 trh2) (cwV 5 hts gX7_findGains_X7_isLegal rfl rfl rfl (by decide +kernel) ⟨Nat.le_of_ble_eq_true rfl, Nat.le_of_ble_eq_true rfl⟩) ⟨h_blind _ _ _ _ _ _ _, h_recv g t_a0 (by decide) so_8 (q := (RX7, TX7, 13)) rfl, h_pre _ hE hk hX hA hI hR g⟩ rfl rfl hl.1 rfl (lv_room (Nat.le_of_ble_eq_true rfl)) dX7_findGains_184 ⟨Nat.le_of_ble_eq_true rfl, Nat.le_of_ble_eq_true rfl⟩) g.2.1 (fun q _ h => h) (fun q h => h) (fun rh42 I43 t H1 locs ht hvm h42 hB hz1 hk1 hS => ?_)
                  obtain ⟨hI, fh42, h42⟩ := h42
                  replace g := h_after g hB ht hS
                  generalize H1 = H at g
                  clear hB hk1 hz1 ht hvm hS
                  have hF := hF.call fh42 rfl
                  refine lv_if_eq (tgt := 195) hx hb dX7_findGains_187 (by decide) (fun c44 => ?_) (fun c44 => ?_)
                  · have ic44 := (xi_eq c44 rfl (by decide) : rh42.toInt = 0)
                    refine lv_iconst (v := 0) hx hb dX7_findGains_195 (by decide) ?_
                    refine h_ast hx hb g tb33 (by decide) so_856 (xi_in (by omega) (by omega)) dX7_findGains_196 (fun I45 H locs eI45 g => ?_)
                    have hI := hI.wr eI45 tb33 (rfl : h_bd 856 _ = ((-2147483648), 2147483647)) (by decide) (by decide)
                    have hF := hF.wr eI45 tb33 rfl
                    refine lv_aload_n hx hb dX7_findGains_197 rfl (lv_at hl 3 rfl) ?_
                    refine h_get (v := .ref b17) hx hb hts iX7 hown g t_a0 (by decide) so_8 rfl 7 (by decide) (hts (.fieldLink RX7 36 "CapLeague$RingSearch" "playerTop" "[I") (by decide +kernel)) rfl dX7_findGains_198 (by show va_rf (z.R a0 7) = _; rw [rb17]; rfl) ?_
                    refine lv_iload hx hb dX7_findGains_201 (lv_at hl 9 rfl) ?_
                    refine lv_aload_n hx hb dX7_findGains_203 rfl (lv_at hl 3 rfl) ?_
                    refine h_get (v := .ref b17) hx hb hts iX7 hown g t_a0 (by decide) so_8 rfl 7 (by decide) (hts (.fieldLink RX7 36 "CapLeague$RingSearch" "playerTop" "[I") (by decide +kernel)) rfl dX7_findGains_204 (by show va_rf (z.R a0 7) = _; rw [rb17]; rfl) ?_
                    refine lv_iload hx hb dX7_findGains_207 (lv_at hl 9 rfl) ?_
                    refine h_ald hx hb g tb17 (by decide) so_807 (xi_in (by omega) (by omega)) dX7_findGains_209 ?_
                    refine lv_topi (fun v46 ev46 => ?_)
                    have jv46 := hI.rd b17 v16.toNatClampNeg tb17 ev46 (rfl : h_bd 807 _ = ((-2147483648), 2147483647))
                    refine lv_aload_n hx hb dX7_findGains_210 rfl (lv_at hl 3 rfl) ?_
                    refine h_get (v := .ref b32) hx hb hts iX7 hown g t_a0 (by decide) so_8 rfl 6 (by decide) (hts (.fieldLink RX7 33 "CapLeague$RingSearch" "gains" "[[I") (by decide +kernel)) rfl dX7_findGains_211 (by show va_rf (z.R a0 6) = _; rw [rb32]; rfl) ?_
                    refine lv_iload hx hb dX7_findGains_214 (lv_at hl 9 rfl) ?_
                    obtain ⟨b47, rb47, tb47⟩ := hR.at b32 v16.toNatClampNeg tb32 (rfl : h_rs 806 _ = some (856, false)) (by rw [so_806]; exact h_lt (n := 60) (xi_in (by omega) (by omega)))
                    refine h_aldA (v := .ref b47) hx hb g tb32 (by decide) so_806 (xi_in (by omega) (by omega)) dX7_findGains_216 (by rw [rb47]; rfl) ?_
                    refine lv_iload hx hb dX7_findGains_217 (lv_at hl 2 rfl) ?_
                    refine h_ald hx hb g tb47 (by decide) so_856 (xi_in (by omega) (by omega)) dX7_findGains_219 ?_
                    refine lv_topi (fun v48 ev48 => ?_)
                    have jv48 := hI.rd b47 v28.toNatClampNeg tb47 ev48 (rfl : h_bd 856 _ = ((-2147483648), 2147483647))
                    refine va_mmax hx hb (hml.trans hl.1.symm) hown (hts (.methodLink RX7 114 Lib.Math.max.name) (by decide +kernel)) (hts (.static Lib.Math.max.name) (by decide +kernel)) (hts (.initialized "java/lang/Math") (by decide +kernel)) (hts (.code Lib.Math.max.name Lib.Math.max.code 2 (some .int)) (by decide +kernel)) (Nat.le_of_ble_eq_true rfl) (Nat.le_of_ble_eq_true rfl) (Nat.le_of_ble_eq_true rfl) (Nat.le_of_ble_eq_true rfl) dX7_findGains_220 ?_
                    refine lv_topi (fun v49 ev49 => ?_)
                    have jv49 := h_max (a := v46.toInt) (b := v48.toInt) ev49 rfl rfl
                    refine h_ast hx hb g tb17 (by decide) so_807 (xi_in (by omega) (by omega)) dX7_findGains_223 (fun I50 H locs eI50 g => ?_)
                    have hI := hI.wr eI50 tb17 (rfl : h_bd 807 _ = ((-2147483648), 2147483647)) (xi_lo _) (Int.le_of_lt_add_one (xi_hi _))
                    have hF := hF.wr eI50 tb17 rfl
                    obtain ⟨v51, ev51⟩ : ∃ z : Int32, z = v19 + 1 := ⟨_, rfl⟩
                    have jv51 : v51.toInt = v19.toInt + 1 := xi_add ev51 rfl (by decide) (by omega) (by omega)
                    refine lv_iinc (v := v51) (lv' := [(7, .int v51), (10, .int rh31), (9, .int 1), (8, .int v28), (0, .ref a0), (1, .int c), (2, .ref rh2), (3, .int v7), (4, .int rh9), (5, .int v12), (6, .int v16)]) hx hb dX7_findGains_224 hl (k := 10) rfl (by rw [ev51]; rfl) (by decide) rfl (fun ls hl => ?_)
                    refine lv_goto (tgt := 89) hx hb dX7_findGains_227 (by decide) ?_
                    exact ih89 I50 _ _ _ v51 g hI hF (lv_sub hl [4, 5, 6, 7, 8, 9, 10, 0] rfl) (by omega) (by omega)
                  · have ic44 := (xi_ne c44 rfl (by decide) : rh42.toInt ≠ 0)
                    refine lv_iload hx hb dX7_findGains_190 (lv_at hl 0 rfl) ?_
                    refine lv_goto (tgt := 196) hx hb dX7_findGains_192 (by decide) ?_
                    refine h_ast hx hb g tb33 (by decide) so_856 (xi_in (by omega) (by omega)) dX7_findGains_196 (fun I52 H locs eI52 g => ?_)
                    have hI := hI.wr eI52 tb33 (rfl : h_bd 856 _ = ((-2147483648), 2147483647)) (xi_lo _) (Int.le_of_lt_add_one (xi_hi _))
                    have hF := hF.wr eI52 tb33 rfl
                    refine lv_aload_n hx hb dX7_findGains_197 rfl (lv_at hl 3 rfl) ?_
                    refine h_get (v := .ref b17) hx hb hts iX7 hown g t_a0 (by decide) so_8 rfl 7 (by decide) (hts (.fieldLink RX7 36 "CapLeague$RingSearch" "playerTop" "[I") (by decide +kernel)) rfl dX7_findGains_198 (by show va_rf (z.R a0 7) = _; rw [rb17]; rfl) ?_
                    refine lv_iload hx hb dX7_findGains_201 (lv_at hl 9 rfl) ?_
                    refine lv_aload_n hx hb dX7_findGains_203 rfl (lv_at hl 3 rfl) ?_
                    refine h_get (v := .ref b17) hx hb hts iX7 hown g t_a0 (by decide) so_8 rfl 7 (by decide) (hts (.fieldLink RX7 36 "CapLeague$RingSearch" "playerTop" "[I") (by decide +kernel)) rfl dX7_findGains_204 (by show va_rf (z.R a0 7) = _; rw [rb17]; rfl) ?_
                    refine lv_iload hx hb dX7_findGains_207 (lv_at hl 9 rfl) ?_
                    refine h_ald hx hb g tb17 (by decide) so_807 (xi_in (by omega) (by omega)) dX7_findGains_209 ?_
                    refine lv_topi (fun v53 ev53 => ?_)
                    have jv53 := hI.rd b17 v16.toNatClampNeg tb17 ev53 (rfl : h_bd 807 _ = ((-2147483648), 2147483647))
                    refine lv_aload_n hx hb dX7_findGains_210 rfl (lv_at hl 3 rfl) ?_
                    refine h_get (v := .ref b32) hx hb hts iX7 hown g t_a0 (by decide) so_8 rfl 6 (by decide) (hts (.fieldLink RX7 33 "CapLeague$RingSearch" "gains" "[[I") (by decide +kernel)) rfl dX7_findGains_211 (by show va_rf (z.R a0 6) = _; rw [rb32]; rfl) ?_
                    refine lv_iload hx hb dX7_findGains_214 (lv_at hl 9 rfl) ?_
                    obtain ⟨b54, rb54, tb54⟩ := hR.at b32 v16.toNatClampNeg tb32 (rfl : h_rs 806 _ = some (856, false)) (by rw [so_806]; exact h_lt (n := 60) (xi_in (by omega) (by omega)))
                    refine h_aldA (v := .ref b54) hx hb g tb32 (by decide) so_806 (xi_in (by omega) (by omega)) dX7_findGains_216 (by rw [rb54]; rfl) ?_
                    refine lv_iload hx hb dX7_findGains_217 (lv_at hl 2 rfl) ?_
                    refine h_ald hx hb g tb54 (by decide) so_856 (xi_in (by omega) (by omega)) dX7_findGains_219 ?_
                    refine lv_topi (fun v55 ev55 => ?_)
                    have jv55 := hI.rd b54 v28.toNatClampNeg tb54 ev55 (rfl : h_bd 856 _ = ((-2147483648), 2147483647))
                    refine va_mmax hx hb (hml.trans hl.1.symm) hown (hts (.methodLink RX7 114 Lib.Math.max.name) (by decide +kernel)) (hts (.static Lib.Math.max.name) (by decide +kernel)) (hts (.initialized "java/lang/Math") (by decide +kernel)) (hts (.code Lib.Math.max.name Lib.Math.max.code 2 (some .int)) (by decide +kernel)) (Nat.le_of_ble_eq_true rfl) (Nat.le_of_ble_eq_true rfl) (Nat.le_of_ble_eq_true rfl) (Nat.le_of_ble_eq_true rfl) dX7_findGains_220 ?_
                    refine lv_topi (fun v56 ev56 => ?_)
                    have jv56 := h_max (a := v53.toInt) (b := v55.toInt) ev56 rfl rfl
                    refine h_ast hx hb g tb17 (by decide) so_807 (xi_in (by omega) (by omega)) dX7_findGains_223 (fun I57 H locs eI57 g => ?_)
                    have hI := hI.wr eI57 tb17 (rfl : h_bd 807 _ = ((-2147483648), 2147483647)) (xi_lo _) (Int.le_of_lt_add_one (xi_hi _))
                    have hF := hF.wr eI57 tb17 rfl
                    obtain ⟨v58, ev58⟩ : ∃ z : Int32, z = v19 + 1 := ⟨_, rfl⟩
                    have jv58 : v58.toInt = v19.toInt + 1 := xi_add ev58 rfl (by decide) (by omega) (by omega)
                    refine lv_iinc (v := v58) (lv' := [(7, .int v58), (10, .int rh31), (9, .int 1), (8, .int v28), (0, .ref a0), (1, .int c), (2, .ref rh2), (3, .int v7), (4, .int rh9), (5, .int v12), (6, .int v16)]) hx hb dX7_findGains_224 hl (k := 10) rfl (by rw [ev58]; rfl) (by decide) rfl (fun ls hl => ?_)
                    refine lv_goto (tgt := 89) hx hb dX7_findGains_227 (by decide) ?_
                    exact ih89 I57 _ _ _ v58 g hI hF (lv_sub hl [4, 5, 6, 7, 8, 9, 10, 0] rfl) (by omega) (by omega)
              · have ic29 := (xi_nlt c29 rfl rfl : v6.toInt ≤ v19.toInt)
                refine lv_iload hx hb dX7_findGains_121 (lv_at hl 8 rfl) ?_
                refine lv_aload_n hx hb dX7_findGains_123 rfl (lv_at hl 1 rfl) ?_
                refine h_get (v := .ref b3) hx hb hts iX7 hown g t_a0 (by decide) so_8 rfl 3 (by decide) (hts (.fieldLink RX7 22 "CapLeague$RingSearch" "start" "[I") (by decide +kernel)) rfl dX7_findGains_124 (by show va_rf (z.R a0 3) = _; rw [rb3]; rfl) ?_
                refine lv_iload_n hx hb dX7_findGains_127 rfl (lv_at hl 2 rfl) ?_
                refine lv_iconst (v := 1) hx hb dX7_findGains_128 (by decide) ?_
                refine lv_iadd hx hb dX7_findGains_129 ?_
                refine xw_i (v := v4) ev4.symm ?_
                refine h_ald hx hb g tb3 (by decide) so_803 (xi_in (by omega) (by omega)) dX7_findGains_130 ?_
                refine xw_i ((h_F.at hF tb3 rfl).trans (ev5.symm)) ?_
                refine lv_icmp_lt (tgt := 138) hx hb dX7_findGains_131 (by decide) (fun c59 => ?_) (fun c59 => ?_)
                · have ic59 := (xi_lt c59 rfl rfl : v19.toInt < v5.toInt)
                  refine lv_iconst (v := 0) hx hb dX7_findGains_138 (by decide) ?_
                  refine lv_istore (lv' := [(9, .int 0), (8, .int v28), (0, .ref a0), (1, .int c), (2, .ref rh2), (3, .int v7), (4, .int rh9), (5, .int v12), (6, .int v16), (7, .int v19)]) hx hb dX7_findGains_139 hl (by decide) rfl (fun ls hl => ?_)
                  refine lv_iload hx hb dX7_findGains_141 (lv_at hl 0 rfl) ?_
                  refine lv_if_eq (tgt := 158) hx hb dX7_findGains_143 (by decide) (fun _ => ?_) (fun h => absurd (by decide) h)
                  refine lv_iconst (v := 0) hx hb dX7_findGains_158 (by decide) ?_
                  refine lv_istore (lv' := [(10, .int 0), (9, .int 0), (8, .int v28), (0, .ref a0), (1, .int c), (2, .ref rh2), (3, .int v7), (4, .int rh9), (5, .int v12), (6, .int v16), (7, .int v19)]) hx hb dX7_findGains_159 hl (by decide) rfl (fun ls hl => ?_)
                  refine lv_aload_n hx hb dX7_findGains_161 rfl (lv_at hl 3 rfl) ?_
                  obtain ⟨b61, rb61, tb61⟩ := hR.at a0 6 t_a0 (rfl : h_rs 8 6 = some (806, false)) (by decide)
                  refine h_get (v := .ref b61) hx hb hts iX7 hown g t_a0 (by decide) so_8 rfl 6 (by decide) (hts (.fieldLink RX7 33 "CapLeague$RingSearch" "gains" "[[I") (by decide +kernel)) rfl dX7_findGains_162 (by show va_rf (z.R a0 6) = _; rw [rb61]; rfl) ?_
                  refine lv_iload hx hb dX7_findGains_165 (lv_at hl 9 rfl) ?_
                  obtain ⟨b62, rb62, tb62⟩ := hR.at b61 v16.toNatClampNeg tb61 (rfl : h_rs 806 _ = some (856, false)) (by rw [so_806]; exact h_lt (n := 60) (xi_in (by omega) (by omega)))
                  refine h_aldA (v := .ref b62) hx hb g tb61 (by decide) so_806 (xi_in (by omega) (by omega)) dX7_findGains_167 (by rw [rb62]; rfl) ?_
                  refine lv_iload hx hb dX7_findGains_168 (lv_at hl 2 rfl) ?_
                  refine lv_iload hx hb dX7_findGains_170 (lv_at hl 0 rfl) ?_
                  refine lv_if_le (tgt := 195) hx hb dX7_findGains_172 (by decide) (fun _ => ?_) (fun h => absurd (by decide) h)
                  refine lv_iconst (v := 0) hx hb dX7_findGains_195 (by decide) ?_
                  refine h_ast hx hb g tb62 (by decide) so_856 (xi_in (by omega) (by omega)) dX7_findGains_196 (fun I64 H locs eI64 g => ?_)
                  have hI := hI.wr eI64 tb62 (rfl : h_bd 856 _ = ((-2147483648), 2147483647)) (by decide) (by decide)
                  have hF := hF.wr eI64 tb62 rfl
                  refine lv_aload_n hx hb dX7_findGains_197 rfl (lv_at hl 3 rfl) ?_
                  refine h_get (v := .ref b17) hx hb hts iX7 hown g t_a0 (by decide) so_8 rfl 7 (by decide) (hts (.fieldLink RX7 36 "CapLeague$RingSearch" "playerTop" "[I") (by decide +kernel)) rfl dX7_findGains_198 (by show va_rf (z.R a0 7) = _; rw [rb17]; rfl) ?_
                  refine lv_iload hx hb dX7_findGains_201 (lv_at hl 9 rfl) ?_
                  refine lv_aload_n hx hb dX7_findGains_203 rfl (lv_at hl 3 rfl) ?_
                  refine h_get (v := .ref b17) hx hb hts iX7 hown g t_a0 (by decide) so_8 rfl 7 (by decide) (hts (.fieldLink RX7 36 "CapLeague$RingSearch" "playerTop" "[I") (by decide +kernel)) rfl dX7_findGains_204 (by show va_rf (z.R a0 7) = _; rw [rb17]; rfl) ?_
                  refine lv_iload hx hb dX7_findGains_207 (lv_at hl 9 rfl) ?_
                  refine h_ald hx hb g tb17 (by decide) so_807 (xi_in (by omega) (by omega)) dX7_findGains_209 ?_
                  refine lv_topi (fun v65 ev65 => ?_)
                  have jv65 := hI.rd b17 v16.toNatClampNeg tb17 ev65 (rfl : h_bd 807 _ = ((-2147483648), 2147483647))
                  refine lv_aload_n hx hb dX7_findGains_210 rfl (lv_at hl 3 rfl) ?_
                  refine h_get (v := .ref b61) hx hb hts iX7 hown g t_a0 (by decide) so_8 rfl 6 (by decide) (hts (.fieldLink RX7 33 "CapLeague$RingSearch" "gains" "[[I") (by decide +kernel)) rfl dX7_findGains_211 (by show va_rf (z.R a0 6) = _; rw [rb61]; rfl) ?_
                  refine lv_iload hx hb dX7_findGains_214 (lv_at hl 9 rfl) ?_
                  obtain ⟨b66, rb66, tb66⟩ := hR.at b61 v16.toNatClampNeg tb61 (rfl : h_rs 806 _ = some (856, false)) (by rw [so_806]; exact h_lt (n := 60) (xi_in (by omega) (by omega)))
                  refine h_aldA (v := .ref b66) hx hb g tb61 (by decide) so_806 (xi_in (by omega) (by omega)) dX7_findGains_216 (by rw [rb66]; rfl) ?_
                  refine lv_iload hx hb dX7_findGains_217 (lv_at hl 2 rfl) ?_
                  refine h_ald hx hb g tb66 (by decide) so_856 (xi_in (by omega) (by omega)) dX7_findGains_219 ?_
                  refine lv_topi (fun v67 ev67 => ?_)
                  have jv67 := hI.rd b66 v28.toNatClampNeg tb66 ev67 (rfl : h_bd 856 _ = ((-2147483648), 2147483647))
                  refine va_mmax hx hb (hml.trans hl.1.symm) hown (hts (.methodLink RX7 114 Lib.Math.max.name) (by decide +kernel)) (hts (.static Lib.Math.max.name) (by decide +kernel)) (hts (.initialized "java/lang/Math") (by decide +kernel)) (hts (.code Lib.Math.max.name Lib.Math.max.code 2 (some .int)) (by decide +kernel)) (Nat.le_of_ble_eq_true rfl) (Nat.le_of_ble_eq_true rfl) (Nat.le_of_ble_eq_true rfl) (Nat.le_of_ble_eq_true rfl) dX7_findGains_220 ?_
                  refine lv_topi (fun v68 ev68 => ?_)
                  have jv68 := h_max (a := v65.toInt) (b := v67.toInt) ev68 rfl rfl
                  refine h_ast hx hb g tb17 (by decide) so_807 (xi_in (by omega) (by omega)) dX7_findGains_223 (fun I69 H locs eI69 g => ?_)
                  have hI := hI.wr eI69 tb17 (rfl : h_bd 807 _ = ((-2147483648), 2147483647)) (xi_lo _) (Int.le_of_lt_add_one (xi_hi _))
                  have hF := hF.wr eI69 tb17 rfl
                  obtain ⟨v70, ev70⟩ : ∃ z : Int32, z = v19 + 1 := ⟨_, rfl⟩
                  have jv70 : v70.toInt = v19.toInt + 1 := xi_add ev70 rfl (by decide) (by omega) (by omega)
                  refine lv_iinc (v := v70) (lv' := [(7, .int v70), (10, .int 0), (9, .int 0), (8, .int v28), (0, .ref a0), (1, .int c), (2, .ref rh2), (3, .int v7), (4, .int rh9), (5, .int v12), (6, .int v16)]) hx hb dX7_findGains_224 hl (k := 10) rfl (by rw [ev70]; rfl) (by decide) rfl (fun ls hl => ?_)
                  refine lv_goto (tgt := 89) hx hb dX7_findGains_227 (by decide) ?_
                  exact ih89 I69 _ _ _ v70 g hI hF (lv_sub hl [4, 5, 6, 7, 8, 9, 10, 0] rfl) (by omega) (by omega)
                · have ic59 := (xi_nlt c59 rfl rfl : v5.toInt ≤ v19.toInt)
                  refine lv_iconst (v := 1) hx hb dX7_findGains_134 (by decide) ?_
                  refine lv_goto (tgt := 139) hx hb dX7_findGains_135 (by decide) ?_
                  refine lv_istore (lv' := [(9, .int 1), (8, .int v28), (0, .ref a0), (1, .int c), (2, .ref rh2), (3, .int v7), (4, .int rh9), (5, .int v12), (6, .int v16), (7, .int v19)]) hx hb dX7_findGains_139 hl (by decide) rfl (fun ls hl => ?_)
                  refine lv_iload hx hb dX7_findGains_141 (lv_at hl 0 rfl) ?_
                  refine lv_if_eq (tgt := 158) hx hb dX7_findGains_143 (by decide) (fun h => absurd h (by decide)) (fun _ => ?_)
                  refine lv_aload_n hx hb dX7_findGains_146 rfl (lv_at hl 2 rfl) ?_
                  refine lv_iload_n hx hb dX7_findGains_147 rfl (lv_at hl 3 rfl) ?_
                  refine lv_iload hx hb dX7_findGains_148 (lv_at hl 8 rfl) ?_
                  refine lv_iload hx hb dX7_findGains_150 (lv_at hl 1 rfl) ?_
                  refine vp_callSi (W.runV (As := [.int c, .int v16, .int v28]) (rest := []) ⟨hx, hb, hml, hown, hts⟩ (tX7_worthMore l E X A z I20 L0 a0 t_a0 c (c_t) h_c (by omega) v16 (v16.toInt) rfl v28 (v28.toInt) rfl) (cwV 3 hts gX7_findGains_X7_worthMore rfl rfl rfl (by decide +kernel) ⟨Nat.le_of_ble_eq_true rfl, Nat.le_of_ble_eq_true rfl⟩) ⟨h_blind _ _ _ _ _ _ _, h_recv g t_a0 (by decide) so_8 (q := (RX7, TX7, 13)) rfl, h_pre _ hE hk hX hA hI hR g⟩ rfl rfl hl.1 rfl (lv_room (Nat.le_of_ble_eq_true rfl)) dX7_findGains_152 ⟨Nat.le_of_ble_eq_true rfl, Nat.le_of_ble_eq_true rfl⟩) (fun rh72 h72 => ?_)
                  have jrh72 : -2147483648 ≤ rh72.toInt ∧ rh72.toInt ≤ 2147483647 := ⟨xi_lo _, Int.le_of_lt_add_one (xi_hi _)⟩
                  refine lv_goto (tgt := 159) hx hb dX7_findGains_155 (by decide) ?_
                  refine lv_istore (lv' := [(10, .int rh72), (9, .int 1), (8, .int v28), (0, .ref a0), (1, .int c), (2, .ref rh2), (3, .int v7), (4, .int rh9), (5, .int v12), (6, .int v16), (7, .int v19)]) hx hb dX7_findGains_159 hl (by decide) rfl (fun ls hl => ?_)
                  refine lv_aload_n hx hb dX7_findGains_161 rfl (lv_at hl 3 rfl) ?_
                  obtain ⟨b73, rb73, tb73⟩ := hR.at a0 6 t_a0 (rfl : h_rs 8 6 = some (806, false)) (by decide)
                  refine h_get (v := .ref b73) hx hb hts iX7 hown g t_a0 (by decide) so_8 rfl 6 (by decide) (hts (.fieldLink RX7 33 "CapLeague$RingSearch" "gains" "[[I") (by decide +kernel)) rfl dX7_findGains_162 (by show va_rf (z.R a0 6) = _; rw [rb73]; rfl) ?_
                  refine lv_iload hx hb dX7_findGains_165 (lv_at hl 9 rfl) ?_
                  obtain ⟨b74, rb74, tb74⟩ := hR.at b73 v16.toNatClampNeg tb73 (rfl : h_rs 806 _ = some (856, false)) (by rw [so_806]; exact h_lt (n := 60) (xi_in (by omega) (by omega)))
                  refine h_aldA (v := .ref b74) hx hb g tb73 (by decide) so_806 (xi_in (by omega) (by omega)) dX7_findGains_167 (by rw [rb74]; rfl) ?_
                  refine lv_iload hx hb dX7_findGains_168 (lv_at hl 2 rfl) ?_
                  refine lv_iload hx hb dX7_findGains_170 (lv_at hl 0 rfl) ?_
                  refine lv_if_le (tgt := 195) hx hb dX7_findGains_172 (by decide) (fun c75 => ?_) (fun c75 => ?_)
                  · have ic75 := (xi_le c75 rfl (by decide) : rh72.toInt ≤ 0)
                    refine lv_iconst (v := 0) hx hb dX7_findGains_195 (by decide) ?_
                    refine h_ast hx hb g tb74 (by decide) so_856 (xi_in (by omega) (by omega)) dX7_findGains_196 (fun I76 H locs eI76 g => ?_)
                    have hI := hI.wr eI76 tb74 (rfl : h_bd 856 _ = ((-2147483648), 2147483647)) (by decide) (by decide)
                    have hF := hF.wr eI76 tb74 rfl
                    refine lv_aload_n hx hb dX7_findGains_197 rfl (lv_at hl 3 rfl) ?_
                    refine h_get (v := .ref b17) hx hb hts iX7 hown g t_a0 (by decide) so_8 rfl 7 (by decide) (hts (.fieldLink RX7 36 "CapLeague$RingSearch" "playerTop" "[I") (by decide +kernel)) rfl dX7_findGains_198 (by show va_rf (z.R a0 7) = _; rw [rb17]; rfl) ?_
                    refine lv_iload hx hb dX7_findGains_201 (lv_at hl 9 rfl) ?_
                    refine lv_aload_n hx hb dX7_findGains_203 rfl (lv_at hl 3 rfl) ?_
                    refine h_get (v := .ref b17) hx hb hts iX7 hown g t_a0 (by decide) so_8 rfl 7 (by decide) (hts (.fieldLink RX7 36 "CapLeague$RingSearch" "playerTop" "[I") (by decide +kernel)) rfl dX7_findGains_204 (by show va_rf (z.R a0 7) = _; rw [rb17]; rfl) ?_
                    refine lv_iload hx hb dX7_findGains_207 (lv_at hl 9 rfl) ?_
                    refine h_ald hx hb g tb17 (by decide) so_807 (xi_in (by omega) (by omega)) dX7_findGains_209 ?_
                    refine lv_topi (fun v77 ev77 => ?_)
                    have jv77 := hI.rd b17 v16.toNatClampNeg tb17 ev77 (rfl : h_bd 807 _ = ((-2147483648), 2147483647))
                    refine lv_aload_n hx hb dX7_findGains_210 rfl (lv_at hl 3 rfl) ?_
                    refine h_get (v := .ref b73) hx hb hts iX7 hown g t_a0 (by decide) so_8 rfl 6 (by decide) (hts (.fieldLink RX7 33 "CapLeague$RingSearch" "gains" "[[I") (by decide +kernel)) rfl dX7_findGains_211 (by show va_rf (z.R a0 6) = _; rw [rb73]; rfl) ?_
                    refine lv_iload hx hb dX7_findGains_214 (lv_at hl 9 rfl) ?_
                    obtain ⟨b78, rb78, tb78⟩ := hR.at b73 v16.toNatClampNeg tb73 (rfl : h_rs 806 _ = some (856, false)) (by rw [so_806]; exact h_lt (n := 60) (xi_in (by omega) (by omega)))
                    refine h_aldA (v := .ref b78) hx hb g tb73 (by decide) so_806 (xi_in (by omega) (by omega)) dX7_findGains_216 (by rw [rb78]; rfl) ?_
                    refine lv_iload hx hb dX7_findGains_217 (lv_at hl 2 rfl) ?_
                    refine h_ald hx hb g tb78 (by decide) so_856 (xi_in (by omega) (by omega)) dX7_findGains_219 ?_
                    refine lv_topi (fun v79 ev79 => ?_)
                    have jv79 := hI.rd b78 v28.toNatClampNeg tb78 ev79 (rfl : h_bd 856 _ = ((-2147483648), 2147483647))
                    refine va_mmax hx hb (hml.trans hl.1.symm) hown (hts (.methodLink RX7 114 Lib.Math.max.name) (by decide +kernel)) (hts (.static Lib.Math.max.name) (by decide +kernel)) (hts (.initialized "java/lang/Math") (by decide +kernel)) (hts (.code Lib.Math.max.name Lib.Math.max.code 2 (some .int)) (by decide +kernel)) (Nat.le_of_ble_eq_true rfl) (Nat.le_of_ble_eq_true rfl) (Nat.le_of_ble_eq_true rfl) (Nat.le_of_ble_eq_true rfl) dX7_findGains_220 ?_
                    refine lv_topi (fun v80 ev80 => ?_)
                    have jv80 := h_max (a := v77.toInt) (b := v79.toInt) ev80 rfl rfl
                    refine h_ast hx hb g tb17 (by decide) so_807 (xi_in (by omega) (by omega)) dX7_findGains_223 (fun I81 H locs eI81 g => ?_)
                    have hI := hI.wr eI81 tb17 (rfl : h_bd 807 _ = ((-2147483648), 2147483647)) (xi_lo _) (Int.le_of_lt_add_one (xi_hi _))
                    have hF := hF.wr eI81 tb17 rfl
                    obtain ⟨v82, ev82⟩ : ∃ z : Int32, z = v19 + 1 := ⟨_, rfl⟩
                    have jv82 : v82.toInt = v19.toInt + 1 := xi_add ev82 rfl (by decide) (by omega) (by omega)
                    refine lv_iinc (v := v82) (lv' := [(7, .int v82), (10, .int rh72), (9, .int 1), (8, .int v28), (0, .ref a0), (1, .int c), (2, .ref rh2), (3, .int v7), (4, .int rh9), (5, .int v12), (6, .int v16)]) hx hb dX7_findGains_224 hl (k := 10) rfl (by rw [ev82]; rfl) (by decide) rfl (fun ls hl => ?_)
                    refine lv_goto (tgt := 89) hx hb dX7_findGains_227 (by decide) ?_
                    exact ih89 I81 _ _ _ v82 g hI hF (lv_sub hl [4, 5, 6, 7, 8, 9, 10, 0] rfl) (by omega) (by omega)
                  · have ic75 := (xi_nle c75 rfl (by decide) : 0 < rh72.toInt)
                    refine lv_aload_n hx hb dX7_findGains_175 rfl (lv_at hl 3 rfl) ?_
                    refine lv_iload hx hb dX7_findGains_176 (lv_at hl 9 rfl) ?_
                    refine lv_iload hx hb dX7_findGains_178 (lv_at hl 2 rfl) ?_
                    refine lv_iload_n hx hb dX7_findGains_180 rfl (lv_at hl 6 rfl) ?_
                    refine lv_iload hx hb dX7_findGains_181 (lv_at hl 7 rfl) ?_
                    refine lv_aload_n hx hb dX7_findGains_183 rfl (lv_at hl 5 rfl) ?_
                    refine va_calli (va_runV (As := [.int v16, .int v28, .int v7, .int rh9, .ref rh2]) (rest := [.int v28, .ref b74]) ⟨hx, hb, hml, hown, hts⟩ (tX7_isLegal l E X A z I20 L0 a0 t_a0 v16 (v16.toInt) rfl (by omega) v28 (v28.toInt) rfl (by omega) v7 (v7.toInt) rfl rh9 (rh9.toInt) rfl rh2 trh2) (cwV 5 hts gX7_findGains_X7_isLegal rfl rfl rfl (by decide +kernel) ⟨Nat.le_of_ble_eq_true rfl, Nat.le_of_ble_eq_true rfl⟩) ⟨h_blind _ _ _ _ _ _ _, h_recv g t_a0 (by decide) so_8 (q := (RX7, TX7, 13)) rfl, h_pre _ hE hk hX hA hI hR g⟩ rfl rfl hl.1 rfl (lv_room (Nat.le_of_ble_eq_true rfl)) dX7_findGains_184 ⟨Nat.le_of_ble_eq_true rfl, Nat.le_of_ble_eq_true rfl⟩) g.2.1 (fun q _ h => h) (fun q h => h) (fun rh83 I84 t H1 locs ht hvm h83 hB hz1 hk1 hS => ?_)
                    obtain ⟨hI, fh83, h83⟩ := h83
                    replace g := h_after g hB ht hS
                    generalize H1 = H at g
                    clear hB hk1 hz1 ht hvm hS
                    have hF := hF.call fh83 rfl
                    refine lv_if_eq (tgt := 195) hx hb dX7_findGains_187 (by decide) (fun c85 => ?_) (fun c85 => ?_)
                    · have ic85 := (xi_eq c85 rfl (by decide) : rh83.toInt = 0)
                      refine lv_iconst (v := 0) hx hb dX7_findGains_195 (by decide) ?_
                      refine h_ast hx hb g tb74 (by decide) so_856 (xi_in (by omega) (by omega)) dX7_findGains_196 (fun I86 H locs eI86 g => ?_)
                      have hI := hI.wr eI86 tb74 (rfl : h_bd 856 _ = ((-2147483648), 2147483647)) (by decide) (by decide)
                      have hF := hF.wr eI86 tb74 rfl
                      refine lv_aload_n hx hb dX7_findGains_197 rfl (lv_at hl 3 rfl) ?_
                      refine h_get (v := .ref b17) hx hb hts iX7 hown g t_a0 (by decide) so_8 rfl 7 (by decide) (hts (.fieldLink RX7 36 "CapLeague$RingSearch" "playerTop" "[I") (by decide +kernel)) rfl dX7_findGains_198 (by show va_rf (z.R a0 7) = _; rw [rb17]; rfl) ?_
                      refine lv_iload hx hb dX7_findGains_201 (lv_at hl 9 rfl) ?_
                      refine lv_aload_n hx hb dX7_findGains_203 rfl (lv_at hl 3 rfl) ?_
                      refine h_get (v := .ref b17) hx hb hts iX7 hown g t_a0 (by decide) so_8 rfl 7 (by decide) (hts (.fieldLink RX7 36 "CapLeague$RingSearch" "playerTop" "[I") (by decide +kernel)) rfl dX7_findGains_204 (by show va_rf (z.R a0 7) = _; rw [rb17]; rfl) ?_
                      refine lv_iload hx hb dX7_findGains_207 (lv_at hl 9 rfl) ?_
                      refine h_ald hx hb g tb17 (by decide) so_807 (xi_in (by omega) (by omega)) dX7_findGains_209 ?_
                      refine lv_topi (fun v87 ev87 => ?_)
                      have jv87 := hI.rd b17 v16.toNatClampNeg tb17 ev87 (rfl : h_bd 807 _ = ((-2147483648), 2147483647))
                      refine lv_aload_n hx hb dX7_findGains_210 rfl (lv_at hl 3 rfl) ?_
                      refine h_get (v := .ref b73) hx hb hts iX7 hown g t_a0 (by decide) so_8 rfl 6 (by decide) (hts (.fieldLink RX7 33 "CapLeague$RingSearch" "gains" "[[I") (by decide +kernel)) rfl dX7_findGains_211 (by show va_rf (z.R a0 6) = _; rw [rb73]; rfl) ?_
                      refine lv_iload hx hb dX7_findGains_214 (lv_at hl 9 rfl) ?_
                      obtain ⟨b88, rb88, tb88⟩ := hR.at b73 v16.toNatClampNeg tb73 (rfl : h_rs 806 _ = some (856, false)) (by rw [so_806]; exact h_lt (n := 60) (xi_in (by omega) (by omega)))
                      refine h_aldA (v := .ref b88) hx hb g tb73 (by decide) so_806 (xi_in (by omega) (by omega)) dX7_findGains_216 (by rw [rb88]; rfl) ?_
                      refine lv_iload hx hb dX7_findGains_217 (lv_at hl 2 rfl) ?_
                      refine h_ald hx hb g tb88 (by decide) so_856 (xi_in (by omega) (by omega)) dX7_findGains_219 ?_
                      refine lv_topi (fun v89 ev89 => ?_)
                      have jv89 := hI.rd b88 v28.toNatClampNeg tb88 ev89 (rfl : h_bd 856 _ = ((-2147483648), 2147483647))
                      refine va_mmax hx hb (hml.trans hl.1.symm) hown (hts (.methodLink RX7 114 Lib.Math.max.name) (by decide +kernel)) (hts (.static Lib.Math.max.name) (by decide +kernel)) (hts (.initialized "java/lang/Math") (by decide +kernel)) (hts (.code Lib.Math.max.name Lib.Math.max.code 2 (some .int)) (by decide +kernel)) (Nat.le_of_ble_eq_true rfl) (Nat.le_of_ble_eq_true rfl) (Nat.le_of_ble_eq_true rfl) (Nat.le_of_ble_eq_true rfl) dX7_findGains_220 ?_
                      refine lv_topi (fun v90 ev90 => ?_)
                      have jv90 := h_max (a := v87.toInt) (b := v89.toInt) ev90 rfl rfl
                      refine h_ast hx hb g tb17 (by decide) so_807 (xi_in (by omega) (by omega)) dX7_findGains_223 (fun I91 H locs eI91 g => ?_)
                      have hI := hI.wr eI91 tb17 (rfl : h_bd 807 _ = ((-2147483648), 2147483647)) (xi_lo _) (Int.le_of_lt_add_one (xi_hi _))
                      have hF := hF.wr eI91 tb17 rfl
                      obtain ⟨v92, ev92⟩ : ∃ z : Int32, z = v19 + 1 := ⟨_, rfl⟩
                      have jv92 : v92.toInt = v19.toInt + 1 := xi_add ev92 rfl (by decide) (by omega) (by omega)
                      refine lv_iinc (v := v92) (lv' := [(7, .int v92), (10, .int rh72), (9, .int 1), (8, .int v28), (0, .ref a0), (1, .int c), (2, .ref rh2), (3, .int v7), (4, .int rh9), (5, .int v12), (6, .int v16)]) hx hb dX7_findGains_224 hl (k := 10) rfl (by rw [ev92]; rfl) (by decide) rfl (fun ls hl => ?_)
                      refine lv_goto (tgt := 89) hx hb dX7_findGains_227 (by decide) ?_
                      exact ih89 I91 _ _ _ v92 g hI hF (lv_sub hl [4, 5, 6, 7, 8, 9, 10, 0] rfl) (by omega) (by omega)
                    · have ic85 := (xi_ne c85 rfl (by decide) : rh83.toInt ≠ 0)
                      refine lv_iload hx hb dX7_findGains_190 (lv_at hl 0 rfl) ?_
                      refine lv_goto (tgt := 196) hx hb dX7_findGains_192 (by decide) ?_
                      refine h_ast hx hb g tb74 (by decide) so_856 (xi_in (by omega) (by omega)) dX7_findGains_196 (fun I93 H locs eI93 g => ?_)
                      have hI := hI.wr eI93 tb74 (rfl : h_bd 856 _ = ((-2147483648), 2147483647)) (xi_lo _) (Int.le_of_lt_add_one (xi_hi _))
                      have hF := hF.wr eI93 tb74 rfl
                      refine lv_aload_n hx hb dX7_findGains_197 rfl (lv_at hl 3 rfl) ?_
                      refine h_get (v := .ref b17) hx hb hts iX7 hown g t_a0 (by decide) so_8 rfl 7 (by decide) (hts (.fieldLink RX7 36 "CapLeague$RingSearch" "playerTop" "[I") (by decide +kernel)) rfl dX7_findGains_198 (by show va_rf (z.R a0 7) = _; rw [rb17]; rfl) ?_
                      refine lv_iload hx hb dX7_findGains_201 (lv_at hl 9 rfl) ?_
                      refine lv_aload_n hx hb dX7_findGains_203 rfl (lv_at hl 3 rfl) ?_
                      refine h_get (v := .ref b17) hx hb hts iX7 hown g t_a0 (by decide) so_8 rfl 7 (by decide) (hts (.fieldLink RX7 36 "CapLeague$RingSearch" "playerTop" "[I") (by decide +kernel)) rfl dX7_findGains_204 (by show va_rf (z.R a0 7) = _; rw [rb17]; rfl) ?_
                      refine lv_iload hx hb dX7_findGains_207 (lv_at hl 9 rfl) ?_
                      refine h_ald hx hb g tb17 (by decide) so_807 (xi_in (by omega) (by omega)) dX7_findGains_209 ?_
                      refine lv_topi (fun v94 ev94 => ?_)
                      have jv94 := hI.rd b17 v16.toNatClampNeg tb17 ev94 (rfl : h_bd 807 _ = ((-2147483648), 2147483647))
                      refine lv_aload_n hx hb dX7_findGains_210 rfl (lv_at hl 3 rfl) ?_
                      refine h_get (v := .ref b73) hx hb hts iX7 hown g t_a0 (by decide) so_8 rfl 6 (by decide) (hts (.fieldLink RX7 33 "CapLeague$RingSearch" "gains" "[[I") (by decide +kernel)) rfl dX7_findGains_211 (by show va_rf (z.R a0 6) = _; rw [rb73]; rfl) ?_
                      refine lv_iload hx hb dX7_findGains_214 (lv_at hl 9 rfl) ?_
                      obtain ⟨b95, rb95, tb95⟩ := hR.at b73 v16.toNatClampNeg tb73 (rfl : h_rs 806 _ = some (856, false)) (by rw [so_806]; exact h_lt (n := 60) (xi_in (by omega) (by omega)))
                      refine h_aldA (v := .ref b95) hx hb g tb73 (by decide) so_806 (xi_in (by omega) (by omega)) dX7_findGains_216 (by rw [rb95]; rfl) ?_
                      refine lv_iload hx hb dX7_findGains_217 (lv_at hl 2 rfl) ?_
                      refine h_ald hx hb g tb95 (by decide) so_856 (xi_in (by omega) (by omega)) dX7_findGains_219 ?_
                      refine lv_topi (fun v96 ev96 => ?_)
                      have jv96 := hI.rd b95 v28.toNatClampNeg tb95 ev96 (rfl : h_bd 856 _ = ((-2147483648), 2147483647))
                      refine va_mmax hx hb (hml.trans hl.1.symm) hown (hts (.methodLink RX7 114 Lib.Math.max.name) (by decide +kernel)) (hts (.static Lib.Math.max.name) (by decide +kernel)) (hts (.initialized "java/lang/Math") (by decide +kernel)) (hts (.code Lib.Math.max.name Lib.Math.max.code 2 (some .int)) (by decide +kernel)) (Nat.le_of_ble_eq_true rfl) (Nat.le_of_ble_eq_true rfl) (Nat.le_of_ble_eq_true rfl) (Nat.le_of_ble_eq_true rfl) dX7_findGains_220 ?_
                      refine lv_topi (fun v97 ev97 => ?_)
                      have jv97 := h_max (a := v94.toInt) (b := v96.toInt) ev97 rfl rfl
                      refine h_ast hx hb g tb17 (by decide) so_807 (xi_in (by omega) (by omega)) dX7_findGains_223 (fun I98 H locs eI98 g => ?_)
                      have hI := hI.wr eI98 tb17 (rfl : h_bd 807 _ = ((-2147483648), 2147483647)) (xi_lo _) (Int.le_of_lt_add_one (xi_hi _))
                      have hF := hF.wr eI98 tb17 rfl
                      obtain ⟨v99, ev99⟩ : ∃ z : Int32, z = v19 + 1 := ⟨_, rfl⟩
                      have jv99 : v99.toInt = v19.toInt + 1 := xi_add ev99 rfl (by decide) (by omega) (by omega)
                      refine lv_iinc (v := v99) (lv' := [(7, .int v99), (10, .int rh72), (9, .int 1), (8, .int v28), (0, .ref a0), (1, .int c), (2, .ref rh2), (3, .int v7), (4, .int rh9), (5, .int v12), (6, .int v16)]) hx hb dX7_findGains_224 hl (k := 10) rfl (by rw [ev99]; rfl) (by decide) rfl (fun ls hl => ?_)
                      refine lv_goto (tgt := 89) hx hb dX7_findGains_227 (by decide) ?_
                      exact ih89 I98 _ _ _ v99 g hI hF (lv_sub hl [4, 5, 6, 7, 8, 9, 10, 0] rfl) (by omega) (by omega)
        exact loop89_1 _ I18 _ _ _ (0) g hI hF (lv_sub hl [2, 3, 4, 5, 6, 7, 1, 0] rfl) ⟨by decide, by decide⟩ (show (60 - (0 : Int)) < (((60 - (0 : Int)).toNat + 1 : Nat) : Int) by omega)
  exact loop56_0 _ I11 _ _ _ v6 g hI hF (lv_sub hl [4, 5, 3, 2, 1, 0] rfl) (by omega) (show (60 - v6.toInt) < (((60 - v6.toInt).toNat + 1 : Nat) : Int) by omega)
set_option maxHeartbeats 4000000 in
set_option maxRecDepth 100000 in
theorem tX7_keep (l : Launch) (E : tE) (X : tX) (A : Nat → Prop) (z : tZ) (I0 : tI) (L0 : tL) (a0 : Nat) (t_a0 : z.ty a0 = 8) (x : Int32) (x_t : Int) (h_x : x.toInt = x_t) (b_x : 0 ≤ x_t ∧ x_t ≤ 3) (y : Int32) (y_t : Int) (h_y : y.toInt = y_t) (b_y : 0 ≤ y_t ∧ y_t ≤ 2) (c : Int32) (c_t : Int) (h_c : c.toInt = c_t) (p : Int32) (p_t : Int) (h_p : p.toInt = p_t) : Met l yX7_keep wsX7_keep ({ frames := 1, cells := 0, slots := 0, locals := 64 }) (va_Pc [.ref a0, .int x, .int y, .int c, .int p] (h_P E X A z I0 L0)) (va_Qv (fun (I1 : tI) => h_I z I1 ∧ h_F [(8, 10), (811, 999), (812, 999)] z I0 I1 ∧ True) (fun (I1 : tI) t => h_B E A z I1 L0 t) A) 0 0 A := by
  refine Met.ofW (cc := cX7_keep) (maxL := 5) (ret := none) (by decide) rfl ?_
  intro pr_ ev_ s m args below meth cd_ s₁ B hml hv
  obtain ⟨rfl, hE, hk, hX, hA, hK, hI, hR, hB0⟩ := hv
  have g : h_G h_so h_fk E A z I0 L0 s s.heap s.heap [] := ⟨hK, va_S.rf, hB0⟩
  have hF : h_F [(8, 10), (811, 999), (812, 999)] z I0 I0 := h_F.rf
  have hx := B.exec
  have hb := B.bytes
  have hr := B.returns
  have hts := atoms_spec (ws := wsX7_keep) B.pre
  have hown : s.vm.findClass RX7 = some m.cls := findClass_of_methodNamed B.named
  have hlocks := B.notSynchronized
  have iX7 : ∀ w ∈ u_ws RX7 TX7 13, w ∈ wsX7_keep := by decide +kernel
  have hl := lv_entry ([.ref a0, .int x, .int y, .int c, .int p]) (n := 5) (Nat.le_of_ble_eq_true rfl)
  rw [lg_entry_eq]
  generalize (lg_sl ([.ref a0, .int x, .int y, .int c, .int p]) ++ List.replicate (5 - (lg_sl ([.ref a0, .int x, .int y, .int c, .int p])).length) Slot.unset).toArray = ls at hl ⊢
  have hl : lv_has ls 5 [(0, .ref a0), (1, .int x), (2, .int y), (3, .int c), (4, .int p)] := hl
  have b_c : -2147483648 ≤ c_t ∧ c_t ≤ 2147483647 := h_c ▸ ⟨xi_lo c, Int.le_of_lt_add_one (xi_hi c)⟩
  have b_p : -2147483648 ≤ p_t ∧ p_t ≤ 2147483647 := h_p ▸ ⟨xi_lo p, Int.le_of_lt_add_one (xi_hi p)⟩
  refine lv_aload_n hx hb dX7_keep_0 rfl (lv_at hl 0 rfl) ?_
  refine lv_iload_n hx hb dX7_keep_1 rfl (lv_at hl 1 rfl) ?_
  refine h_putI (ty := .int) (v := x) hx hb hts iX7 tyX7 tyX7_ok nmX7 hown g t_a0 (by decide) so_8 rfl 10 (by decide) rfl (hts (.fieldLink RX7 71 "CapLeague$RingSearch" "clubsInRing" "I") (by decide +kernel)) rfl rfl (by decide +kernel) rfl rfl dX7_keep_2 (fun I1 H locs eI1 g => ?_)
  have hI := hI.wr eI1 t_a0 (rfl : h_bd 8 10 = (0, 3)) (by rw [h_x]; omega) (by rw [h_x]; omega)
  have hF := hF.wr eI1 t_a0 rfl
  refine lv_aload_n hx hb dX7_keep_5 rfl (lv_at hl 0 rfl) ?_
  obtain ⟨b2, rb2, tb2⟩ := hR.at a0 11 t_a0 (rfl : h_rs 8 11 = some (811, false)) (by decide)
  refine h_get (v := .ref b2) hx hb hts iX7 hown g t_a0 (by decide) so_8 rfl 11 (by decide) (hts (.fieldLink RX7 42 "CapLeague$RingSearch" "clubRow" "[I") (by decide +kernel)) rfl dX7_keep_6 (by show va_rf (z.R a0 11) = _; rw [rb2]; rfl) ?_
  refine lv_iload_n hx hb dX7_keep_9 rfl (lv_at hl 2 rfl) ?_
  refine lv_iload_n hx hb dX7_keep_10 rfl (lv_at hl 3 rfl) ?_
  refine h_ast hx hb g tb2 (by decide) so_811 (xi_in (by rw [h_y]; omega) (by rw [h_y]; omega)) dX7_keep_11 (fun I3 H locs eI3 g => ?_)
  have hI := hI.wr eI3 tb2 (rfl : h_bd 811 _ = ((-2147483648), 2147483647)) (xi_lo _) (Int.le_of_lt_add_one (xi_hi _))
  have hF := hF.wr eI3 tb2 rfl
  refine lv_aload_n hx hb dX7_keep_12 rfl (lv_at hl 0 rfl) ?_
  obtain ⟨b4, rb4, tb4⟩ := hR.at a0 12 t_a0 (rfl : h_rs 8 12 = some (812, false)) (by decide)
  refine h_get (v := .ref b4) hx hb hts iX7 hown g t_a0 (by decide) so_8 rfl 12 (by decide) (hts (.fieldLink RX7 45 "CapLeague$RingSearch" "playerRow" "[I") (by decide +kernel)) rfl dX7_keep_13 (by show va_rf (z.R a0 12) = _; rw [rb4]; rfl) ?_
  refine lv_iload_n hx hb dX7_keep_16 rfl (lv_at hl 2 rfl) ?_
  refine lv_iload hx hb dX7_keep_17 (lv_at hl 4 rfl) ?_
  refine h_ast hx hb g tb4 (by decide) so_812 (xi_in (by rw [h_y]; omega) (by rw [h_y]; omega)) dX7_keep_19 (fun I5 H locs eI5 g => ?_)
  have hI := hI.wr eI5 tb4 (rfl : h_bd 812 _ = ((-2147483648), 2147483647)) (xi_lo _) (Int.le_of_lt_add_one (xi_hi _))
  have hF := hF.wr eI5 tb4 rfl
  have hS := g.2.1
  exact W.vret hx hb hr (fun t ht hW => ⟨⟨I5, rfl, ⟨hI, hF, trivial⟩, h_ret g ht⟩, hS.F ht⟩) hS.2.2 dX7_keep_20
set_option maxHeartbeats 4000000 in
set_option maxRecDepth 100000 in
theorem tX7_tryTwo (l : Launch) (E : tE) (X : tX) (A : Nat → Prop) (z : tZ) (I0 : tI) (L0 : tL) (a0 : Nat) (t_a0 : z.ty a0 = 8) (a : Int32) (a_t : Int) (h_a : a.toInt = a_t) (b_a : 0 ≤ a_t ∧ a_t ≤ 7) (b : Int32) (b_t : Int) (h_b : b.toInt = b_t) (b_b : 0 ≤ b_t ∧ b_t ≤ 7) : Met l yX7_tryTwo wsX7_tryTwo ({ frames := 2, cells := 0, slots := 0, locals := 128 }) (va_Pc [.ref a0, .int a, .int b] (h_P E X A z I0 L0)) (va_Qv (fun (I1 : tI) => h_I z I1 ∧ h_F [(8, 10), (811, 999), (812, 999), (8, 9)] z I0 I1 ∧ True) (fun (I1 : tI) t => h_B E A z I1 L0 t) A) 0 0 A := by
  refine Met.ofW (cc := cX7_tryTwo) (maxL := 7) (ret := none) (by decide) rfl ?_
  intro pr_ ev_ s m args below meth cd_ s₁ B hml hv
  obtain ⟨rfl, hE, hk, hX, hA, hK, hI, hR, hB0⟩ := hv
  have g : h_G h_so h_fk E A z I0 L0 s s.heap s.heap [] := ⟨hK, va_S.rf, hB0⟩
  have hF : h_F [(8, 10), (811, 999), (812, 999), (8, 9)] z I0 I0 := h_F.rf
  have hx := B.exec
  have hb := B.bytes
  have hr := B.returns
  have hts := atoms_spec (ws := wsX7_tryTwo) B.pre
  have hown : s.vm.findClass RX7 = some m.cls := findClass_of_methodNamed B.named
  have hlocks := B.notSynchronized
  have iX7 : ∀ w ∈ u_ws RX7 TX7 13, w ∈ wsX7_tryTwo := by decide +kernel
  have hl := lv_entry ([.ref a0, .int a, .int b]) (n := 7) (Nat.le_of_ble_eq_true rfl)
  rw [lg_entry_eq]
  generalize (lg_sl ([.ref a0, .int a, .int b]) ++ List.replicate (7 - (lg_sl ([.ref a0, .int a, .int b])).length) Slot.unset).toArray = ls at hl ⊢
  have hl : lv_has ls 7 [(0, .ref a0), (1, .int a), (2, .int b)] := hl
  refine lv_aload_n hx hb dX7_tryTwo_0 rfl (lv_at hl 0 rfl) ?_
  obtain ⟨b1, rb1, tb1⟩ := hR.at a0 3 t_a0 (rfl : h_rs 8 3 = some (803, false)) (by decide)
  refine h_get (v := .ref b1) hx hb hts iX7 hown g t_a0 (by decide) so_8 rfl 3 (by decide) (hts (.fieldLink RX7 22 "CapLeague$RingSearch" "start" "[I") (by decide +kernel)) rfl dX7_tryTwo_1 (by show va_rf (z.R a0 3) = _; rw [rb1]; rfl) ?_
  refine lv_iload_n hx hb dX7_tryTwo_4 rfl (lv_at hl 1 rfl) ?_
  refine h_ald hx hb g tb1 (by decide) so_803 (xi_in (by rw [h_a]; omega) (by rw [h_a]; omega)) dX7_tryTwo_5 ?_
  refine lv_topi (fun v2 ev2 => ?_)
  have jv2 := hI.rd b1 a.toNatClampNeg tb1 ev2 (rfl : h_bd 803 _ = (0, 60))
  refine lv_istore_n (lv' := [(3, .int v2), (0, .ref a0), (1, .int a), (2, .int b)]) hx hb dX7_tryTwo_6 rfl hl (by decide) rfl (fun ls hl => ?_)
  have loop7_0 : ∀ (n : Nat) (I4 : tI) (H : Heap) (locs : List Loc) (ls : Array Slot) (v3 : Int32), h_G h_so h_fk E A z I4 L0 s s.heap H locs → h_I z I4 → h_F [(8, 10), (811, 999), (812, 999), (8, 9)] z I0 I4 → lv_has ls 7 [(0, .ref a0), (1, .int a), (2, .int b), (3, .int v3)] → (0 ≤ v3.toInt ∧ v3.toInt ≤ 60) → (60 - v3.toInt) < (n : Int) → W pr_ l ev_ (headSpec wsX7_tryTwo ({ frames := 2, cells := 0, slots := 0, locals := 128 })).room s m ([.ref a0, .int a, .int b] : List Value).toArray below meth cd_ H locs 0 0 (MQ below (va_Qv (fun (I1 : tI) => h_I z I1 ∧ h_F [(8, 10), (811, 999), (812, 999), (8, 9)] z I0 I1 ∧ True) (fun (I1 : tI) t => h_B E A z I1 L0 t) A) ([.ref a0, .int a, .int b] : List Value).toArray s 0 0 A) (F0 m 7 ls []) := by
    intro n
    induction n with
    | zero => intro I4 H locs ls v3 g hI hF hl jv3 hn; exact absurd hn (by omega)
    | succ n ih7 =>
      intro I4 H locs ls v3 g hI hF hl jv3 hn
      refine lv_iload_n hx hb dX7_tryTwo_7 rfl (lv_at hl 3 rfl) ?_
      refine lv_aload_n hx hb dX7_tryTwo_8 rfl (lv_at hl 0 rfl) ?_
      refine h_get (v := .ref b1) hx hb hts iX7 hown g t_a0 (by decide) so_8 rfl 3 (by decide) (hts (.fieldLink RX7 22 "CapLeague$RingSearch" "start" "[I") (by decide +kernel)) rfl dX7_tryTwo_9 (by show va_rf (z.R a0 3) = _; rw [rb1]; rfl) ?_
      refine lv_iload_n hx hb dX7_tryTwo_12 rfl (lv_at hl 1 rfl) ?_
      refine lv_iconst (v := 1) hx hb dX7_tryTwo_13 (by decide) ?_
      refine lv_iadd hx hb dX7_tryTwo_14 ?_
      refine lv_topi (fun v5 ev5 => ?_)
      have jv5 : v5.toInt = a_t + 1 := xi_add ev5 h_a (by decide) (by omega) (by omega)
      refine h_ald hx hb g tb1 (by decide) so_803 (xi_in (by omega) (by omega)) dX7_tryTwo_15 ?_
      refine lv_topi (fun v6 ev6 => ?_)
      have jv6 := hI.rd b1 v5.toNatClampNeg tb1 ev6 (rfl : h_bd 803 _ = (0, 60))
      refine lv_icmp_ge (tgt := 152) hx hb dX7_tryTwo_16 (by decide) (fun c7 => ?_) (fun c7 => ?_)
      · have ic7 := (xi_le c7 rfl rfl : v6.toInt ≤ v3.toInt)
        have hS := g.2.1
        exact W.vret hx hb hr (fun t ht hW => ⟨⟨I4, rfl, ⟨hI, hF, trivial⟩, h_ret g ht⟩, hS.F ht⟩) hS.2.2 dX7_tryTwo_152
      · have ic7 := (xi_nle c7 rfl rfl : v3.toInt < v6.toInt)
        refine lv_aload_n hx hb dX7_tryTwo_19 rfl (lv_at hl 0 rfl) ?_
        refine h_get (v := .ref b1) hx hb hts iX7 hown g t_a0 (by decide) so_8 rfl 3 (by decide) (hts (.fieldLink RX7 22 "CapLeague$RingSearch" "start" "[I") (by decide +kernel)) rfl dX7_tryTwo_20 (by show va_rf (z.R a0 3) = _; rw [rb1]; rfl) ?_
        refine lv_iload_n hx hb dX7_tryTwo_23 rfl (lv_at hl 2 rfl) ?_
        refine h_ald hx hb g tb1 (by decide) so_803 (xi_in (by rw [h_b]; omega) (by rw [h_b]; omega)) dX7_tryTwo_24 ?_
        refine lv_topi (fun v8 ev8 => ?_)
        have jv8 := hI.rd b1 b.toNatClampNeg tb1 ev8 (rfl : h_bd 803 _ = (0, 60))
        refine lv_istore (lv' := [(4, .int v8), (0, .ref a0), (1, .int a), (2, .int b), (3, .int v3)]) hx hb dX7_tryTwo_25 hl (by decide) rfl (fun ls hl => ?_)
        have loop27_1 : ∀ (n : Nat) (I10 : tI) (H : Heap) (locs : List Loc) (ls : Array Slot) (v9 : Int32), h_G h_so h_fk E A z I10 L0 s s.heap H locs → h_I z I10 → h_F [(8, 10), (811, 999), (812, 999), (8, 9)] z I0 I10 → lv_has ls 7 [(0, .ref a0), (1, .int a), (2, .int b), (3, .int v3), (4, .int v9)] → (0 ≤ v9.toInt ∧ v9.toInt ≤ 60) → (60 - v9.toInt) < (n : Int) → W pr_ l ev_ (headSpec wsX7_tryTwo ({ frames := 2, cells := 0, slots := 0, locals := 128 })).room s m ([.ref a0, .int a, .int b] : List Value).toArray below meth cd_ H locs 0 0 (MQ below (va_Qv (fun (I1 : tI) => h_I z I1 ∧ h_F [(8, 10), (811, 999), (812, 999), (8, 9)] z I0 I1 ∧ True) (fun (I1 : tI) t => h_B E A z I1 L0 t) A) ([.ref a0, .int a, .int b] : List Value).toArray s 0 0 A) (F0 m 27 ls []) := by
          intro n
          induction n with
          | zero => intro I10 H locs ls v9 g hI hF hl jv9 hn; exact absurd hn (by omega)
          | succ n ih27 =>
            intro I10 H locs ls v9 g hI hF hl jv9 hn
            refine lv_iload hx hb dX7_tryTwo_27 (lv_at hl 4 rfl) ?_
            refine lv_aload_n hx hb dX7_tryTwo_29 rfl (lv_at hl 0 rfl) ?_
            refine h_get (v := .ref b1) hx hb hts iX7 hown g t_a0 (by decide) so_8 rfl 3 (by decide) (hts (.fieldLink RX7 22 "CapLeague$RingSearch" "start" "[I") (by decide +kernel)) rfl dX7_tryTwo_30 (by show va_rf (z.R a0 3) = _; rw [rb1]; rfl) ?_
            refine lv_iload_n hx hb dX7_tryTwo_33 rfl (lv_at hl 2 rfl) ?_
            refine lv_iconst (v := 1) hx hb dX7_tryTwo_34 (by decide) ?_
            refine lv_iadd hx hb dX7_tryTwo_35 ?_
            refine lv_topi (fun v11 ev11 => ?_)
            have jv11 : v11.toInt = b_t + 1 := xi_add ev11 h_b (by decide) (by omega) (by omega)
            refine h_ald hx hb g tb1 (by decide) so_803 (xi_in (by omega) (by omega)) dX7_tryTwo_36 ?_
            refine lv_topi (fun v12 ev12 => ?_)
            have jv12 := hI.rd b1 v11.toNatClampNeg tb1 ev12 (rfl : h_bd 803 _ = (0, 60))
            refine lv_icmp_ge (tgt := 146) hx hb dX7_tryTwo_37 (by decide) (fun c13 => ?_) (fun c13 => ?_)
            · have ic13 := (xi_le c13 rfl rfl : v12.toInt ≤ v9.toInt)
              obtain ⟨v14, ev14⟩ : ∃ z : Int32, z = v3 + 1 := ⟨_, rfl⟩
              have jv14 : v14.toInt = v3.toInt + 1 := xi_add ev14 rfl (by decide) (by omega) (by omega)
              refine lv_iinc (v := v14) (lv' := [(3, .int v14), (0, .ref a0), (1, .int a), (2, .int b), (4, .int v9)]) hx hb dX7_tryTwo_146 hl (k := 3) rfl (by rw [ev14]; rfl) (by decide) rfl (fun ls hl => ?_)
              refine lv_goto (tgt := 7) hx hb dX7_tryTwo_149 (by decide) ?_
              exact ih7 I10 _ _ _ v14 g hI hF (lv_sub hl [1, 2, 3, 0] rfl) (by omega) (by omega)
            · have ic13 := (xi_nle c13 rfl rfl : v9.toInt < v12.toInt)
              refine lv_aload_n hx hb dX7_tryTwo_40 rfl (lv_at hl 0 rfl) ?_
              obtain ⟨b15, rb15, tb15⟩ := hR.at a0 6 t_a0 (rfl : h_rs 8 6 = some (806, false)) (by decide)
              refine h_get (v := .ref b15) hx hb hts iX7 hown g t_a0 (by decide) so_8 rfl 6 (by decide) (hts (.fieldLink RX7 33 "CapLeague$RingSearch" "gains" "[[I") (by decide +kernel)) rfl dX7_tryTwo_41 (by show va_rf (z.R a0 6) = _; rw [rb15]; rfl) ?_
              refine lv_aload_n hx hb dX7_tryTwo_44 rfl (lv_at hl 0 rfl) ?_
              obtain ⟨b16, rb16, tb16⟩ := hR.at a0 2 t_a0 (rfl : h_rs 8 2 = some (802, false)) (by decide)
              refine h_get (v := .ref b16) hx hb hts iX7 hown g t_a0 (by decide) so_8 rfl 2 (by decide) (hts (.fieldLink RX7 18 "CapLeague$RingSearch" "line" "[I") (by decide +kernel)) rfl dX7_tryTwo_45 (by show va_rf (z.R a0 2) = _; rw [rb16]; rfl) ?_
              refine lv_iload_n hx hb dX7_tryTwo_48 rfl (lv_at hl 3 rfl) ?_
              refine h_ald hx hb g tb16 (by decide) so_802 (xi_in (by omega) (by omega)) dX7_tryTwo_49 ?_
              refine lv_topi (fun v17 ev17 => ?_)
              have jv17 := hI.rd b16 v3.toNatClampNeg tb16 ev17 (rfl : h_bd 802 _ = (0, 59))
              obtain ⟨b18, rb18, tb18⟩ := hR.at b15 v17.toNatClampNeg tb15 (rfl : h_rs 806 _ = some (856, false)) (by rw [so_806]; exact h_lt (n := 60) (xi_in (by omega) (by omega)))
              refine h_aldA (v := .ref b18) hx hb g tb15 (by decide) so_806 (xi_in (by omega) (by omega)) dX7_tryTwo_50 (by rw [rb18]; rfl) ?_
              refine lv_aload_n hx hb dX7_tryTwo_51 rfl (lv_at hl 0 rfl) ?_
              refine h_get (v := .ref b16) hx hb hts iX7 hown g t_a0 (by decide) so_8 rfl 2 (by decide) (hts (.fieldLink RX7 18 "CapLeague$RingSearch" "line" "[I") (by decide +kernel)) rfl dX7_tryTwo_52 (by show va_rf (z.R a0 2) = _; rw [rb16]; rfl) ?_
              refine lv_iload hx hb dX7_tryTwo_55 (lv_at hl 4 rfl) ?_
              refine h_ald hx hb g tb16 (by decide) so_802 (xi_in (by omega) (by omega)) dX7_tryTwo_57 ?_
              refine lv_topi (fun v19 ev19 => ?_)
              have jv19 := hI.rd b16 v9.toNatClampNeg tb16 ev19 (rfl : h_bd 802 _ = (0, 59))
              refine h_ald hx hb g tb18 (by decide) so_856 (xi_in (by omega) (by omega)) dX7_tryTwo_58 ?_
              refine lv_topi (fun v20 ev20 => ?_)
              have jv20 := hI.rd b18 v19.toNatClampNeg tb18 ev20 (rfl : h_bd 856 _ = ((-2147483648), 2147483647))
              refine lv_istore (lv' := [(5, .int v20), (0, .ref a0), (1, .int a), (2, .int b), (3, .int v3), (4, .int v9)]) hx hb dX7_tryTwo_59 hl (by decide) rfl (fun ls hl => ?_)
              refine lv_aload_n hx hb dX7_tryTwo_61 rfl (lv_at hl 1 rfl) ?_
              refine h_get (v := .ref b15) hx hb hts iX7 hown g t_a0 (by decide) so_8 rfl 6 (by decide) (hts (.fieldLink RX7 33 "CapLeague$RingSearch" "gains" "[[I") (by decide +kernel)) rfl dX7_tryTwo_62 (by show va_rf (z.R a0 6) = _; rw [rb15]; rfl) ?_
              refine lv_aload_n hx hb dX7_tryTwo_65 rfl (lv_at hl 1 rfl) ?_
              refine h_get (v := .ref b16) hx hb hts iX7 hown g t_a0 (by decide) so_8 rfl 2 (by decide) (hts (.fieldLink RX7 18 "CapLeague$RingSearch" "line" "[I") (by decide +kernel)) rfl dX7_tryTwo_66 (by show va_rf (z.R a0 2) = _; rw [rb16]; rfl) ?_
              refine lv_iload hx hb dX7_tryTwo_69 (lv_at hl 5 rfl) ?_
              refine h_ald hx hb g tb16 (by decide) so_802 (xi_in (by omega) (by omega)) dX7_tryTwo_71 ?_
              refine xw_i (ev19.symm) ?_
              obtain ⟨b21, rb21, tb21⟩ := hR.at b15 v19.toNatClampNeg tb15 (rfl : h_rs 806 _ = some (856, false)) (by rw [so_806]; exact h_lt (n := 60) (xi_in (by omega) (by omega)))
              refine h_aldA (v := .ref b21) hx hb g tb15 (by decide) so_806 (xi_in (by omega) (by omega)) dX7_tryTwo_72 (by rw [rb21]; rfl) ?_
              refine lv_aload_n hx hb dX7_tryTwo_73 rfl (lv_at hl 1 rfl) ?_
              refine h_get (v := .ref b16) hx hb hts iX7 hown g t_a0 (by decide) so_8 rfl 2 (by decide) (hts (.fieldLink RX7 18 "CapLeague$RingSearch" "line" "[I") (by decide +kernel)) rfl dX7_tryTwo_74 (by show va_rf (z.R a0 2) = _; rw [rb16]; rfl) ?_
              refine lv_iload_n hx hb dX7_tryTwo_77 rfl (lv_at hl 4 rfl) ?_
              refine h_ald hx hb g tb16 (by decide) so_802 (xi_in (by omega) (by omega)) dX7_tryTwo_78 ?_
              refine xw_i (ev17.symm) ?_
              refine h_ald hx hb g tb21 (by decide) so_856 (xi_in (by omega) (by omega)) dX7_tryTwo_79 ?_
              refine lv_topi (fun v22 ev22 => ?_)
              have jv22 := hI.rd b21 v17.toNatClampNeg tb21 ev22 (rfl : h_bd 856 _ = ((-2147483648), 2147483647))
              refine lv_istore (lv' := [(6, .int v22), (5, .int v20), (0, .ref a0), (1, .int a), (2, .int b), (3, .int v3), (4, .int v9)]) hx hb dX7_tryTwo_80 hl (by decide) rfl (fun ls hl => ?_)
              refine lv_iload hx hb dX7_tryTwo_82 (lv_at hl 1 rfl) ?_
              refine lv_if_le (tgt := 140) hx hb dX7_tryTwo_84 (by decide) (fun c23 => ?_) (fun c23 => ?_)
              · have ic23 := (xi_le c23 rfl (by decide) : v20.toInt ≤ 0)
                obtain ⟨v24, ev24⟩ : ∃ z : Int32, z = v9 + 1 := ⟨_, rfl⟩
                have jv24 : v24.toInt = v9.toInt + 1 := xi_add ev24 rfl (by decide) (by omega) (by omega)
                refine lv_iinc (v := v24) (lv' := [(4, .int v24), (6, .int v22), (5, .int v20), (0, .ref a0), (1, .int a), (2, .int b), (3, .int v3)]) hx hb dX7_tryTwo_140 hl (k := 6) rfl (by rw [ev24]; rfl) (by decide) rfl (fun ls hl => ?_)
                refine lv_goto (tgt := 27) hx hb dX7_tryTwo_143 (by decide) ?_
                exact ih27 I10 _ _ _ v24 g hI hF (lv_sub hl [3, 4, 5, 6, 0] rfl) (by omega) (by omega)
              · have ic23 := (xi_nle c23 rfl (by decide) : 0 < v20.toInt)
                refine lv_iload hx hb dX7_tryTwo_87 (lv_at hl 0 rfl) ?_
                refine lv_if_le (tgt := 140) hx hb dX7_tryTwo_89 (by decide) (fun c25 => ?_) (fun c25 => ?_)
                · have ic25 := (xi_le c25 rfl (by decide) : v22.toInt ≤ 0)
                  obtain ⟨v26, ev26⟩ : ∃ z : Int32, z = v9 + 1 := ⟨_, rfl⟩
                  have jv26 : v26.toInt = v9.toInt + 1 := xi_add ev26 rfl (by decide) (by omega) (by omega)
                  refine lv_iinc (v := v26) (lv' := [(4, .int v26), (6, .int v22), (5, .int v20), (0, .ref a0), (1, .int a), (2, .int b), (3, .int v3)]) hx hb dX7_tryTwo_140 hl (k := 6) rfl (by rw [ev26]; rfl) (by decide) rfl (fun ls hl => ?_)
                  refine lv_goto (tgt := 27) hx hb dX7_tryTwo_143 (by decide) ?_
                  exact ih27 I10 _ _ _ v26 g hI hF (lv_sub hl [3, 4, 5, 6, 0] rfl) (by omega) (by omega)
                · have ic25 := (xi_nle c25 rfl (by decide) : 0 < v22.toInt)
                  refine lv_iload hx hb dX7_tryTwo_92 (lv_at hl 1 rfl) ?_
                  refine lv_iload hx hb dX7_tryTwo_94 (lv_at hl 0 rfl) ?_
                  refine lv_iadd hx hb dX7_tryTwo_96 ?_
                  refine lv_topi (fun v27 ev27 => ?_)
                  have jv27 : -2147483648 ≤ v27.toInt ∧ v27.toInt ≤ 2147483647 := ⟨xi_lo _, Int.le_of_lt_add_one (xi_hi _)⟩
                  refine lv_aload_n hx hb dX7_tryTwo_97 rfl (lv_at hl 2 rfl) ?_
                  refine h_get (v := .int (I10 a0 9)) hx hb hts iX7 hown g t_a0 (by decide) so_8 rfl 9 (by decide) (hts (.fieldLink RX7 59 "CapLeague$RingSearch" "best" "I") (by decide +kernel)) rfl dX7_tryTwo_98 rfl ?_
                  refine lv_topi (fun v28 ev28 => ?_)
                  have jv28 := hI.rd a0 9 t_a0 ev28 (rfl : h_bd 8 9 = ((-2147483648), 2147483647))
                  refine lv_icmp_le (tgt := 140) hx hb dX7_tryTwo_101 (by decide) (fun c29 => ?_) (fun c29 => ?_)
                  · have ic29 := (xi_le c29 rfl rfl : v27.toInt ≤ v28.toInt)
                    obtain ⟨v30, ev30⟩ : ∃ z : Int32, z = v9 + 1 := ⟨_, rfl⟩
                    have jv30 : v30.toInt = v9.toInt + 1 := xi_add ev30 rfl (by decide) (by omega) (by omega)
                    refine lv_iinc (v := v30) (lv' := [(4, .int v30), (6, .int v22), (5, .int v20), (0, .ref a0), (1, .int a), (2, .int b), (3, .int v3)]) hx hb dX7_tryTwo_140 hl (k := 6) rfl (by rw [ev30]; rfl) (by decide) rfl (fun ls hl => ?_)
                    refine lv_goto (tgt := 27) hx hb dX7_tryTwo_143 (by decide) ?_
                    exact ih27 I10 _ _ _ v30 g hI hF (lv_sub hl [3, 4, 5, 6, 0] rfl) (by omega) (by omega)
                  · have ic29 := (xi_nle c29 rfl rfl : v28.toInt < v27.toInt)
                    refine lv_aload_n hx hb dX7_tryTwo_104 rfl (lv_at hl 2 rfl) ?_
                    refine lv_iload hx hb dX7_tryTwo_105 (lv_at hl 1 rfl) ?_
                    refine lv_iload hx hb dX7_tryTwo_107 (lv_at hl 0 rfl) ?_
                    refine lv_iadd hx hb dX7_tryTwo_109 ?_
                    refine xw_i (v := v27) ev27.symm ?_
                    refine h_putI (ty := .int) (v := v27) hx hb hts iX7 tyX7 tyX7_ok nmX7 hown g t_a0 (by decide) so_8 rfl 9 (by decide) rfl (hts (.fieldLink RX7 59 "CapLeague$RingSearch" "best" "I") (by decide +kernel)) rfl rfl (by decide +kernel) rfl rfl dX7_tryTwo_110 (fun I31 H locs eI31 g => ?_)
                    have hI := hI.wr eI31 t_a0 (rfl : h_bd 8 9 = ((-2147483648), 2147483647)) (xi_lo _) (Int.le_of_lt_add_one (xi_hi _))
                    have hF := hF.wr eI31 t_a0 rfl
                    refine lv_aload_n hx hb dX7_tryTwo_113 rfl (lv_at hl 2 rfl) ?_
                    refine lv_iconst (v := 2) hx hb dX7_tryTwo_114 (by decide) ?_
                    refine lv_iconst (v := 0) hx hb dX7_tryTwo_115 (by decide) ?_
                    refine lv_iload_n hx hb dX7_tryTwo_116 rfl (lv_at hl 3 rfl) ?_
                    refine lv_aload_n hx hb dX7_tryTwo_117 rfl (lv_at hl 2 rfl) ?_
                    refine h_get (v := .ref b16) hx hb hts iX7 hown g t_a0 (by decide) so_8 rfl 2 (by decide) (hts (.fieldLink RX7 18 "CapLeague$RingSearch" "line" "[I") (by decide +kernel)) rfl dX7_tryTwo_118 (by show va_rf (z.R a0 2) = _; rw [rb16]; rfl) ?_
                    refine lv_iload_n hx hb dX7_tryTwo_121 rfl (lv_at hl 5 rfl) ?_
                    refine h_ald hx hb g tb16 (by decide) so_802 (xi_in (by omega) (by omega)) dX7_tryTwo_122 ?_
                    refine xw_i ((h_n1 eI31 tb16 t_a0 (by decide)).trans (ev17.symm)) ?_
                    refine va_callv (va_runV (As := [.int 2, .int 0, .int a, .int v17]) (rest := []) ⟨hx, hb, hml, hown, hts⟩ (tX7_keep l E X A z I31 L0 a0 t_a0 2 (2) (by decide) (by omega) 0 (0) (by decide) (by omega) a (a_t) h_a v17 (v17.toInt) rfl) (cwV 4 hts gX7_tryTwo_X7_keep rfl rfl rfl (by decide +kernel) ⟨Nat.le_of_ble_eq_true rfl, Nat.le_of_ble_eq_true rfl⟩) ⟨h_blind _ _ _ _ _ _ _, h_recv g t_a0 (by decide) so_8 (q := (RX7, TX7, 13)) rfl, h_pre _ hE hk hX hA hI hR g⟩ rfl rfl hl.1 rfl (lv_room (Nat.le_of_ble_eq_true rfl)) dX7_tryTwo_123 ⟨Nat.le_of_ble_eq_true rfl, Nat.le_of_ble_eq_true rfl⟩) g.2.1 (fun q _ h => h) (fun q h => h) (fun I33 t H1 locs ht hvm h32 hB hz1 hk1 hS => ?_)
                    obtain ⟨hI, fh32, h32⟩ := h32
                    replace g := h_after g hB ht hS
                    generalize H1 = H at g
                    clear hB hk1 hz1 ht hvm hS
                    have hF := hF.call fh32 rfl
                    refine lv_aload_n hx hb dX7_tryTwo_126 rfl (lv_at hl 2 rfl) ?_
                    refine lv_iconst (v := 2) hx hb dX7_tryTwo_127 (by decide) ?_
                    refine lv_iconst (v := 1) hx hb dX7_tryTwo_128 (by decide) ?_
                    refine lv_iload_n hx hb dX7_tryTwo_129 rfl (lv_at hl 4 rfl) ?_
                    refine lv_aload_n hx hb dX7_tryTwo_130 rfl (lv_at hl 2 rfl) ?_
                    refine h_get (v := .ref b16) hx hb hts iX7 hown g t_a0 (by decide) so_8 rfl 2 (by decide) (hts (.fieldLink RX7 18 "CapLeague$RingSearch" "line" "[I") (by decide +kernel)) rfl dX7_tryTwo_131 (by show va_rf (z.R a0 2) = _; rw [rb16]; rfl) ?_
                    refine lv_iload hx hb dX7_tryTwo_134 (lv_at hl 6 rfl) ?_
                    refine h_ald hx hb g tb16 (by decide) so_802 (xi_in (by omega) (by omega)) dX7_tryTwo_136 ?_
                    refine xw_i ((h_F.at fh32 tb16 rfl).trans ((h_n1 eI31 tb16 t_a0 (by decide)).trans (ev19.symm))) ?_
                    refine va_callv (va_runV (As := [.int 2, .int 1, .int b, .int v19]) (rest := []) ⟨hx, hb, hml, hown, hts⟩ (tX7_keep l E X A z I33 L0 a0 t_a0 2 (2) (by decide) (by omega) 1 (1) (by decide) (by omega) b (b_t) h_b v19 (v19.toInt) rfl) (cwV 4 hts gX7_tryTwo_X7_keep rfl rfl rfl (by decide +kernel) ⟨Nat.le_of_ble_eq_true rfl, Nat.le_of_ble_eq_true rfl⟩) ⟨h_blind _ _ _ _ _ _ _, h_recv g t_a0 (by decide) so_8 (q := (RX7, TX7, 13)) rfl, h_pre _ hE hk hX hA hI hR g⟩ rfl rfl hl.1 rfl (lv_room (Nat.le_of_ble_eq_true rfl)) dX7_tryTwo_137 ⟨Nat.le_of_ble_eq_true rfl, Nat.le_of_ble_eq_true rfl⟩) g.2.1 (fun q _ h => h) (fun q h => h) (fun I35 t H1 locs ht hvm h34 hB hz1 hk1 hS => ?_)
                    obtain ⟨hI, fh34, h34⟩ := h34
                    replace g := h_after g hB ht hS
                    generalize H1 = H at g
                    clear hB hk1 hz1 ht hvm hS
                    have hF := hF.call fh34 rfl
                    obtain ⟨v36, ev36⟩ : ∃ z : Int32, z = v9 + 1 := ⟨_, rfl⟩
                    have jv36 : v36.toInt = v9.toInt + 1 := xi_add ev36 rfl (by decide) (by omega) (by omega)
                    refine lv_iinc (v := v36) (lv' := [(4, .int v36), (6, .int v22), (5, .int v20), (0, .ref a0), (1, .int a), (2, .int b), (3, .int v3)]) hx hb dX7_tryTwo_140 hl (k := 6) rfl (by rw [ev36]; rfl) (by decide) rfl (fun ls hl => ?_)
                    refine lv_goto (tgt := 27) hx hb dX7_tryTwo_143 (by decide) ?_
                    exact ih27 I35 _ _ _ v36 g hI hF (lv_sub hl [3, 4, 5, 6, 0] rfl) (by omega) (by omega)
        exact loop27_1 _ I4 _ _ _ v8 g hI hF (lv_sub hl [1, 2, 3, 4, 0] rfl) (by omega) (show (60 - v8.toInt) < (((60 - v8.toInt).toNat + 1 : Nat) : Int) by omega)
  exact loop7_0 _ I0 _ _ _ v2 g hI hF (lv_sub hl [1, 2, 3, 0] rfl) (by omega) (show (60 - v2.toInt) < (((60 - v2.toInt).toNat + 1 : Nat) : Int) by omega)
set_option maxHeartbeats 4000000 in
set_option maxRecDepth 100000 in
theorem tX7_tryThird (l : Launch) (E : tE) (X : tX) (A : Nat → Prop) (z : tZ) (I0 : tI) (L0 : tL) (a0 : Nat) (t_a0 : z.ty a0 = 8) (c : Int32) (c_t : Int) (h_c : c.toInt = c_t) (b_c : 0 ≤ c_t ∧ c_t ≤ 7) (a : Int32) (a_t : Int) (h_a : a.toInt = a_t) (p : Int32) (p_t : Int) (h_p : p.toInt = p_t) (b_p : 0 ≤ p_t ∧ p_t ≤ 59) (b : Int32) (b_t : Int) (h_b : b.toInt = b_t) (q : Int32) (q_t : Int) (h_q : q.toInt = q_t) (b_q : 0 ≤ q_t ∧ q_t ≤ 59) : Met l yX7_tryThird wsX7_tryThird ({ frames := 2, cells := 0, slots := 0, locals := 128 }) (va_Pc [.ref a0, .int c, .int a, .int p, .int b, .int q] (h_P E X A z I0 L0)) (va_Qv (fun (I1 : tI) => h_I z I1 ∧ h_F [(8, 10), (811, 999), (812, 999), (8, 9)] z I0 I1 ∧ True) (fun (I1 : tI) t => h_B E A z I1 L0 t) A) 0 0 A := by
  refine Met.ofW (cc := cX7_tryThird) (maxL := 10) (ret := none) (by decide) rfl ?_
  intro pr_ ev_ s m args below meth cd_ s₁ B hml hv
  obtain ⟨rfl, hE, hk, hX, hA, hK, hI, hR, hB0⟩ := hv
  have g : h_G h_so h_fk E A z I0 L0 s s.heap s.heap [] := ⟨hK, va_S.rf, hB0⟩
  have hF : h_F [(8, 10), (811, 999), (812, 999), (8, 9)] z I0 I0 := h_F.rf
  have hx := B.exec
  have hb := B.bytes
  have hr := B.returns
  have hts := atoms_spec (ws := wsX7_tryThird) B.pre
  have hown : s.vm.findClass RX7 = some m.cls := findClass_of_methodNamed B.named
  have hlocks := B.notSynchronized
  have iX7 : ∀ w ∈ u_ws RX7 TX7 13, w ∈ wsX7_tryThird := by decide +kernel
  have hl := lv_entry ([.ref a0, .int c, .int a, .int p, .int b, .int q]) (n := 10) (Nat.le_of_ble_eq_true rfl)
  rw [lg_entry_eq]
  generalize (lg_sl ([.ref a0, .int c, .int a, .int p, .int b, .int q]) ++ List.replicate (10 - (lg_sl ([.ref a0, .int c, .int a, .int p, .int b, .int q])).length) Slot.unset).toArray = ls at hl ⊢
  have hl : lv_has ls 10 [(0, .ref a0), (1, .int c), (2, .int a), (3, .int p), (4, .int b), (5, .int q)] := hl
  have b_a : -2147483648 ≤ a_t ∧ a_t ≤ 2147483647 := h_a ▸ ⟨xi_lo a, Int.le_of_lt_add_one (xi_hi a)⟩
  have b_b : -2147483648 ≤ b_t ∧ b_t ≤ 2147483647 := h_b ▸ ⟨xi_lo b, Int.le_of_lt_add_one (xi_hi b)⟩
  refine lv_aload_n hx hb dX7_tryThird_0 rfl (lv_at hl 0 rfl) ?_
  obtain ⟨b1, rb1, tb1⟩ := hR.at a0 6 t_a0 (rfl : h_rs 8 6 = some (806, false)) (by decide)
  refine h_get (v := .ref b1) hx hb hts iX7 hown g t_a0 (by decide) so_8 rfl 6 (by decide) (hts (.fieldLink RX7 33 "CapLeague$RingSearch" "gains" "[[I") (by decide +kernel)) rfl dX7_tryThird_1 (by show va_rf (z.R a0 6) = _; rw [rb1]; rfl) ?_
  refine lv_iload hx hb dX7_tryThird_4 (lv_at hl 5 rfl) ?_
  obtain ⟨b2, rb2, tb2⟩ := hR.at b1 q.toNatClampNeg tb1 (rfl : h_rs 806 _ = some (856, false)) (by rw [so_806]; exact h_lt (n := 60) (xi_in (by rw [h_q]; omega) (by rw [h_q]; omega)))
  refine h_aldA (v := .ref b2) hx hb g tb1 (by decide) so_806 (xi_in (by rw [h_q]; omega) (by rw [h_q]; omega)) dX7_tryThird_6 (by rw [rb2]; rfl) ?_
  refine lv_iload_n hx hb dX7_tryThird_7 rfl (lv_at hl 3 rfl) ?_
  refine h_ald hx hb g tb2 (by decide) so_856 (xi_in (by rw [h_p]; omega) (by rw [h_p]; omega)) dX7_tryThird_8 ?_
  refine lv_topi (fun v3 ev3 => ?_)
  have jv3 := hI.rd b2 p.toNatClampNeg tb2 ev3 (rfl : h_bd 856 _ = ((-2147483648), 2147483647))
  refine lv_istore (lv' := [(6, .int v3), (0, .ref a0), (1, .int c), (2, .int a), (3, .int p), (4, .int b), (5, .int q)]) hx hb dX7_tryThird_9 hl (by decide) rfl (fun ls hl => ?_)
  refine lv_aload_n hx hb dX7_tryThird_11 rfl (lv_at hl 1 rfl) ?_
  obtain ⟨b4, rb4, tb4⟩ := hR.at a0 3 t_a0 (rfl : h_rs 8 3 = some (803, false)) (by decide)
  refine h_get (v := .ref b4) hx hb hts iX7 hown g t_a0 (by decide) so_8 rfl 3 (by decide) (hts (.fieldLink RX7 22 "CapLeague$RingSearch" "start" "[I") (by decide +kernel)) rfl dX7_tryThird_12 (by show va_rf (z.R a0 3) = _; rw [rb4]; rfl) ?_
  refine lv_iload_n hx hb dX7_tryThird_15 rfl (lv_at hl 2 rfl) ?_
  refine h_ald hx hb g tb4 (by decide) so_803 (xi_in (by rw [h_c]; omega) (by rw [h_c]; omega)) dX7_tryThird_16 ?_
  refine lv_topi (fun v5 ev5 => ?_)
  have jv5 := hI.rd b4 c.toNatClampNeg tb4 ev5 (rfl : h_bd 803 _ = (0, 60))
  refine lv_istore (lv' := [(7, .int v5), (6, .int v3), (0, .ref a0), (1, .int c), (2, .int a), (3, .int p), (4, .int b), (5, .int q)]) hx hb dX7_tryThird_17 hl (by decide) rfl (fun ls hl => ?_)
  have loop19_0 : ∀ (n : Nat) (I7 : tI) (H : Heap) (locs : List Loc) (ls : Array Slot) (v6 : Int32), h_G h_so h_fk E A z I7 L0 s s.heap H locs → h_I z I7 → h_F [(8, 10), (811, 999), (812, 999), (8, 9)] z I0 I7 → lv_has ls 10 [(0, .ref a0), (1, .int c), (2, .int a), (3, .int p), (4, .int b), (5, .int q), (6, .int v3), (7, .int v6)] → (0 ≤ v6.toInt ∧ v6.toInt ≤ 60) → (60 - v6.toInt) < (n : Int) → W pr_ l ev_ (headSpec wsX7_tryThird ({ frames := 2, cells := 0, slots := 0, locals := 128 })).room s m ([.ref a0, .int c, .int a, .int p, .int b, .int q] : List Value).toArray below meth cd_ H locs 0 0 (MQ below (va_Qv (fun (I1 : tI) => h_I z I1 ∧ h_F [(8, 10), (811, 999), (812, 999), (8, 9)] z I0 I1 ∧ True) (fun (I1 : tI) t => h_B E A z I1 L0 t) A) ([.ref a0, .int c, .int a, .int p, .int b, .int q] : List Value).toArray s 0 0 A) (F0 m 19 ls []) := by
    intro n
    induction n with
    | zero => intro I7 H locs ls v6 g hI hF hl jv6 hn; exact absurd hn (by omega)
    | succ n ih19 =>
      intro I7 H locs ls v6 g hI hF hl jv6 hn
      refine lv_iload hx hb dX7_tryThird_19 (lv_at hl 7 rfl) ?_
      refine lv_aload_n hx hb dX7_tryThird_21 rfl (lv_at hl 0 rfl) ?_
      refine h_get (v := .ref b4) hx hb hts iX7 hown g t_a0 (by decide) so_8 rfl 3 (by decide) (hts (.fieldLink RX7 22 "CapLeague$RingSearch" "start" "[I") (by decide +kernel)) rfl dX7_tryThird_22 (by show va_rf (z.R a0 3) = _; rw [rb4]; rfl) ?_
      refine lv_iload_n hx hb dX7_tryThird_25 rfl (lv_at hl 1 rfl) ?_
      refine lv_iconst (v := 1) hx hb dX7_tryThird_26 (by decide) ?_
      refine lv_iadd hx hb dX7_tryThird_27 ?_
      refine lv_topi (fun v8 ev8 => ?_)
      have jv8 : v8.toInt = c_t + 1 := xi_add ev8 h_c (by decide) (by omega) (by omega)
      refine h_ald hx hb g tb4 (by decide) so_803 (xi_in (by omega) (by omega)) dX7_tryThird_28 ?_
      refine lv_topi (fun v9 ev9 => ?_)
      have jv9 := hI.rd b4 v8.toNatClampNeg tb4 ev9 (rfl : h_bd 803 _ = (0, 60))
      refine lv_icmp_ge (tgt := 140) hx hb dX7_tryThird_29 (by decide) (fun c10 => ?_) (fun c10 => ?_)
      · have ic10 := (xi_le c10 rfl rfl : v9.toInt ≤ v6.toInt)
        have hS := g.2.1
        exact W.vret hx hb hr (fun t ht hW => ⟨⟨I7, rfl, ⟨hI, hF, trivial⟩, h_ret g ht⟩, hS.F ht⟩) hS.2.2 dX7_tryThird_140
      · have ic10 := (xi_nle c10 rfl rfl : v6.toInt < v9.toInt)
        refine lv_aload_n hx hb dX7_tryThird_32 rfl (lv_at hl 0 rfl) ?_
        refine h_get (v := .ref b1) hx hb hts iX7 hown g t_a0 (by decide) so_8 rfl 6 (by decide) (hts (.fieldLink RX7 33 "CapLeague$RingSearch" "gains" "[[I") (by decide +kernel)) rfl dX7_tryThird_33 (by show va_rf (z.R a0 6) = _; rw [rb1]; rfl) ?_
        refine lv_iload_n hx hb dX7_tryThird_36 rfl (lv_at hl 3 rfl) ?_
        obtain ⟨b11, rb11, tb11⟩ := hR.at b1 p.toNatClampNeg tb1 (rfl : h_rs 806 _ = some (856, false)) (by rw [so_806]; exact h_lt (n := 60) (xi_in (by rw [h_p]; omega) (by rw [h_p]; omega)))
        refine h_aldA (v := .ref b11) hx hb g tb1 (by decide) so_806 (xi_in (by rw [h_p]; omega) (by rw [h_p]; omega)) dX7_tryThird_37 (by rw [rb11]; rfl) ?_
        refine lv_aload_n hx hb dX7_tryThird_38 rfl (lv_at hl 0 rfl) ?_
        obtain ⟨b12, rb12, tb12⟩ := hR.at a0 2 t_a0 (rfl : h_rs 8 2 = some (802, false)) (by decide)
        refine h_get (v := .ref b12) hx hb hts iX7 hown g t_a0 (by decide) so_8 rfl 2 (by decide) (hts (.fieldLink RX7 18 "CapLeague$RingSearch" "line" "[I") (by decide +kernel)) rfl dX7_tryThird_39 (by show va_rf (z.R a0 2) = _; rw [rb12]; rfl) ?_
        refine lv_iload hx hb dX7_tryThird_42 (lv_at hl 7 rfl) ?_
        refine h_ald hx hb g tb12 (by decide) so_802 (xi_in (by omega) (by omega)) dX7_tryThird_44 ?_
        refine lv_topi (fun v13 ev13 => ?_)
        have jv13 := hI.rd b12 v6.toNatClampNeg tb12 ev13 (rfl : h_bd 802 _ = (0, 59))
        refine h_ald hx hb g tb11 (by decide) so_856 (xi_in (by omega) (by omega)) dX7_tryThird_45 ?_
        refine lv_topi (fun v14 ev14 => ?_)
        have jv14 := hI.rd b11 v13.toNatClampNeg tb11 ev14 (rfl : h_bd 856 _ = ((-2147483648), 2147483647))
        refine lv_istore (lv' := [(8, .int v14), (0, .ref a0), (1, .int c), (2, .int a), (3, .int p), (4, .int b), (5, .int q), (6, .int v3), (7, .int v6)]) hx hb dX7_tryThird_46 hl (by decide) rfl (fun ls hl => ?_)
        refine lv_aload_n hx hb dX7_tryThird_48 rfl (lv_at hl 1 rfl) ?_
        refine h_get (v := .ref b1) hx hb hts iX7 hown g t_a0 (by decide) so_8 rfl 6 (by decide) (hts (.fieldLink RX7 33 "CapLeague$RingSearch" "gains" "[[I") (by decide +kernel)) rfl dX7_tryThird_49 (by show va_rf (z.R a0 6) = _; rw [rb1]; rfl) ?_
        refine lv_aload_n hx hb dX7_tryThird_52 rfl (lv_at hl 1 rfl) ?_
        refine h_get (v := .ref b12) hx hb hts iX7 hown g t_a0 (by decide) so_8 rfl 2 (by decide) (hts (.fieldLink RX7 18 "CapLeague$RingSearch" "line" "[I") (by decide +kernel)) rfl dX7_tryThird_53 (by show va_rf (z.R a0 2) = _; rw [rb12]; rfl) ?_
        refine lv_iload hx hb dX7_tryThird_56 (lv_at hl 8 rfl) ?_
        refine h_ald hx hb g tb12 (by decide) so_802 (xi_in (by omega) (by omega)) dX7_tryThird_58 ?_
        refine xw_i (ev13.symm) ?_
        obtain ⟨b15, rb15, tb15⟩ := hR.at b1 v13.toNatClampNeg tb1 (rfl : h_rs 806 _ = some (856, false)) (by rw [so_806]; exact h_lt (n := 60) (xi_in (by omega) (by omega)))
        refine h_aldA (v := .ref b15) hx hb g tb1 (by decide) so_806 (xi_in (by omega) (by omega)) dX7_tryThird_59 (by rw [rb15]; rfl) ?_
        refine lv_iload hx hb dX7_tryThird_60 (lv_at hl 6 rfl) ?_
        refine h_ald hx hb g tb15 (by decide) so_856 (xi_in (by rw [h_q]; omega) (by rw [h_q]; omega)) dX7_tryThird_62 ?_
        refine lv_topi (fun v16 ev16 => ?_)
        have jv16 := hI.rd b15 q.toNatClampNeg tb15 ev16 (rfl : h_bd 856 _ = ((-2147483648), 2147483647))
        refine lv_istore (lv' := [(9, .int v16), (8, .int v14), (0, .ref a0), (1, .int c), (2, .int a), (3, .int p), (4, .int b), (5, .int q), (6, .int v3), (7, .int v6)]) hx hb dX7_tryThird_63 hl (by decide) rfl (fun ls hl => ?_)
        refine lv_iload hx hb dX7_tryThird_65 (lv_at hl 1 rfl) ?_
        refine lv_if_le (tgt := 134) hx hb dX7_tryThird_67 (by decide) (fun c17 => ?_) (fun c17 => ?_)
        · have ic17 := (xi_le c17 rfl (by decide) : v14.toInt ≤ 0)
          obtain ⟨v18, ev18⟩ : ∃ z : Int32, z = v6 + 1 := ⟨_, rfl⟩
          have jv18 : v18.toInt = v6.toInt + 1 := xi_add ev18 rfl (by decide) (by omega) (by omega)
          refine lv_iinc (v := v18) (lv' := [(7, .int v18), (9, .int v16), (8, .int v14), (0, .ref a0), (1, .int c), (2, .int a), (3, .int p), (4, .int b), (5, .int q), (6, .int v3)]) hx hb dX7_tryThird_134 hl (k := 9) rfl (by rw [ev18]; rfl) (by decide) rfl (fun ls hl => ?_)
          refine lv_goto (tgt := 19) hx hb dX7_tryThird_137 (by decide) ?_
          exact ih19 I7 _ _ _ v18 g hI hF (lv_sub hl [3, 4, 5, 6, 7, 8, 9, 0] rfl) (by omega) (by omega)
        · have ic17 := (xi_nle c17 rfl (by decide) : 0 < v14.toInt)
          refine lv_iload hx hb dX7_tryThird_70 (lv_at hl 0 rfl) ?_
          refine lv_if_le (tgt := 134) hx hb dX7_tryThird_72 (by decide) (fun c19 => ?_) (fun c19 => ?_)
          · have ic19 := (xi_le c19 rfl (by decide) : v16.toInt ≤ 0)
            obtain ⟨v20, ev20⟩ : ∃ z : Int32, z = v6 + 1 := ⟨_, rfl⟩
            have jv20 : v20.toInt = v6.toInt + 1 := xi_add ev20 rfl (by decide) (by omega) (by omega)
            refine lv_iinc (v := v20) (lv' := [(7, .int v20), (9, .int v16), (8, .int v14), (0, .ref a0), (1, .int c), (2, .int a), (3, .int p), (4, .int b), (5, .int q), (6, .int v3)]) hx hb dX7_tryThird_134 hl (k := 9) rfl (by rw [ev20]; rfl) (by decide) rfl (fun ls hl => ?_)
            refine lv_goto (tgt := 19) hx hb dX7_tryThird_137 (by decide) ?_
            exact ih19 I7 _ _ _ v20 g hI hF (lv_sub hl [3, 4, 5, 6, 7, 8, 9, 0] rfl) (by omega) (by omega)
          · have ic19 := (xi_nle c19 rfl (by decide) : 0 < v16.toInt)
            refine lv_iload hx hb dX7_tryThird_75 (lv_at hl 1 rfl) ?_
            refine lv_iload hx hb dX7_tryThird_77 (lv_at hl 8 rfl) ?_
            refine lv_iadd hx hb dX7_tryThird_79 ?_
            refine lv_topi (fun v21 ev21 => ?_)
            have jv21 : -2147483648 ≤ v21.toInt ∧ v21.toInt ≤ 2147483647 := ⟨xi_lo _, Int.le_of_lt_add_one (xi_hi _)⟩
            refine lv_iload hx hb dX7_tryThird_80 (lv_at hl 0 rfl) ?_
            refine lv_iadd hx hb dX7_tryThird_82 ?_
            refine lv_topi (fun v22 ev22 => ?_)
            have jv22 : -2147483648 ≤ v22.toInt ∧ v22.toInt ≤ 2147483647 := ⟨xi_lo _, Int.le_of_lt_add_one (xi_hi _)⟩
            refine lv_aload_n hx hb dX7_tryThird_83 rfl (lv_at hl 2 rfl) ?_
            refine h_get (v := .int (I7 a0 9)) hx hb hts iX7 hown g t_a0 (by decide) so_8 rfl 9 (by decide) (hts (.fieldLink RX7 59 "CapLeague$RingSearch" "best" "I") (by decide +kernel)) rfl dX7_tryThird_84 rfl ?_
            refine lv_topi (fun v23 ev23 => ?_)
            have jv23 := hI.rd a0 9 t_a0 ev23 (rfl : h_bd 8 9 = ((-2147483648), 2147483647))
            refine lv_icmp_le (tgt := 134) hx hb dX7_tryThird_87 (by decide) (fun c24 => ?_) (fun c24 => ?_)
            · have ic24 := (xi_le c24 rfl rfl : v22.toInt ≤ v23.toInt)
              obtain ⟨v25, ev25⟩ : ∃ z : Int32, z = v6 + 1 := ⟨_, rfl⟩
              have jv25 : v25.toInt = v6.toInt + 1 := xi_add ev25 rfl (by decide) (by omega) (by omega)
              refine lv_iinc (v := v25) (lv' := [(7, .int v25), (9, .int v16), (8, .int v14), (0, .ref a0), (1, .int c), (2, .int a), (3, .int p), (4, .int b), (5, .int q), (6, .int v3)]) hx hb dX7_tryThird_134 hl (k := 9) rfl (by rw [ev25]; rfl) (by decide) rfl (fun ls hl => ?_)
              refine lv_goto (tgt := 19) hx hb dX7_tryThird_137 (by decide) ?_
              exact ih19 I7 _ _ _ v25 g hI hF (lv_sub hl [3, 4, 5, 6, 7, 8, 9, 0] rfl) (by omega) (by omega)
            · have ic24 := (xi_nle c24 rfl rfl : v23.toInt < v22.toInt)
              refine lv_aload_n hx hb dX7_tryThird_90 rfl (lv_at hl 2 rfl) ?_
              refine lv_iload hx hb dX7_tryThird_91 (lv_at hl 1 rfl) ?_
              refine lv_iload hx hb dX7_tryThird_93 (lv_at hl 8 rfl) ?_
              refine lv_iadd hx hb dX7_tryThird_95 ?_
              refine xw_i (v := v21) ev21.symm ?_
              refine lv_iload hx hb dX7_tryThird_96 (lv_at hl 0 rfl) ?_
              refine lv_iadd hx hb dX7_tryThird_98 ?_
              refine xw_i (v := v22) ev22.symm ?_
              refine h_putI (ty := .int) (v := v22) hx hb hts iX7 tyX7 tyX7_ok nmX7 hown g t_a0 (by decide) so_8 rfl 9 (by decide) rfl (hts (.fieldLink RX7 59 "CapLeague$RingSearch" "best" "I") (by decide +kernel)) rfl rfl (by decide +kernel) rfl rfl dX7_tryThird_99 (fun I26 H locs eI26 g => ?_)
              have hI := hI.wr eI26 t_a0 (rfl : h_bd 8 9 = ((-2147483648), 2147483647)) (xi_lo _) (Int.le_of_lt_add_one (xi_hi _))
              have hF := hF.wr eI26 t_a0 rfl
              refine lv_aload_n hx hb dX7_tryThird_102 rfl (lv_at hl 2 rfl) ?_
              refine lv_iconst (v := 3) hx hb dX7_tryThird_103 (by decide) ?_
              refine lv_iconst (v := 0) hx hb dX7_tryThird_104 (by decide) ?_
              refine lv_iload_n hx hb dX7_tryThird_105 rfl (lv_at hl 4 rfl) ?_
              refine lv_iload_n hx hb dX7_tryThird_106 rfl (lv_at hl 5 rfl) ?_
              refine va_callv (va_runV (As := [.int 3, .int 0, .int a, .int p]) (rest := []) ⟨hx, hb, hml, hown, hts⟩ (tX7_keep l E X A z I26 L0 a0 t_a0 3 (3) (by decide) (by omega) 0 (0) (by decide) (by omega) a (a_t) h_a p (p_t) h_p) (cwV 4 hts gX7_tryThird_X7_keep rfl rfl rfl (by decide +kernel) ⟨Nat.le_of_ble_eq_true rfl, Nat.le_of_ble_eq_true rfl⟩) ⟨h_blind _ _ _ _ _ _ _, h_recv g t_a0 (by decide) so_8 (q := (RX7, TX7, 13)) rfl, h_pre _ hE hk hX hA hI hR g⟩ rfl rfl hl.1 rfl (lv_room (Nat.le_of_ble_eq_true rfl)) dX7_tryThird_107 ⟨Nat.le_of_ble_eq_true rfl, Nat.le_of_ble_eq_true rfl⟩) g.2.1 (fun q _ h => h) (fun q h => h) (fun I28 t H1 locs ht hvm h27 hB hz1 hk1 hS => ?_)
              obtain ⟨hI, fh27, h27⟩ := h27
              replace g := h_after g hB ht hS
              generalize H1 = H at g
              clear hB hk1 hz1 ht hvm hS
              have hF := hF.call fh27 rfl
              refine lv_aload_n hx hb dX7_tryThird_110 rfl (lv_at hl 2 rfl) ?_
              refine lv_iconst (v := 3) hx hb dX7_tryThird_111 (by decide) ?_
              refine lv_iconst (v := 1) hx hb dX7_tryThird_112 (by decide) ?_
              refine lv_iload hx hb dX7_tryThird_113 (lv_at hl 6 rfl) ?_
              refine lv_iload hx hb dX7_tryThird_115 (lv_at hl 7 rfl) ?_
              refine va_callv (va_runV (As := [.int 3, .int 1, .int b, .int q]) (rest := []) ⟨hx, hb, hml, hown, hts⟩ (tX7_keep l E X A z I28 L0 a0 t_a0 3 (3) (by decide) (by omega) 1 (1) (by decide) (by omega) b (b_t) h_b q (q_t) h_q) (cwV 4 hts gX7_tryThird_X7_keep rfl rfl rfl (by decide +kernel) ⟨Nat.le_of_ble_eq_true rfl, Nat.le_of_ble_eq_true rfl⟩) ⟨h_blind _ _ _ _ _ _ _, h_recv g t_a0 (by decide) so_8 (q := (RX7, TX7, 13)) rfl, h_pre _ hE hk hX hA hI hR g⟩ rfl rfl hl.1 rfl (lv_room (Nat.le_of_ble_eq_true rfl)) dX7_tryThird_117 ⟨Nat.le_of_ble_eq_true rfl, Nat.le_of_ble_eq_true rfl⟩) g.2.1 (fun q _ h => h) (fun q h => h) (fun I30 t H1 locs ht hvm h29 hB hz1 hk1 hS => ?_)
              obtain ⟨hI, fh29, h29⟩ := h29
              replace g := h_after g hB ht hS
              generalize H1 = H at g
              clear hB hk1 hz1 ht hvm hS
              have hF := hF.call fh29 rfl
              refine lv_aload_n hx hb dX7_tryThird_120 rfl (lv_at hl 2 rfl) ?_
              refine lv_iconst (v := 3) hx hb dX7_tryThird_121 (by decide) ?_
              refine lv_iconst (v := 2) hx hb dX7_tryThird_122 (by decide) ?_
              refine lv_iload_n hx hb dX7_tryThird_123 rfl (lv_at hl 3 rfl) ?_
              refine lv_aload_n hx hb dX7_tryThird_124 rfl (lv_at hl 2 rfl) ?_
              refine h_get (v := .ref b12) hx hb hts iX7 hown g t_a0 (by decide) so_8 rfl 2 (by decide) (hts (.fieldLink RX7 18 "CapLeague$RingSearch" "line" "[I") (by decide +kernel)) rfl dX7_tryThird_125 (by show va_rf (z.R a0 2) = _; rw [rb12]; rfl) ?_
              refine lv_iload hx hb dX7_tryThird_128 (lv_at hl 9 rfl) ?_
              refine h_ald hx hb g tb12 (by decide) so_802 (xi_in (by omega) (by omega)) dX7_tryThird_130 ?_
              refine xw_i ((h_F.at fh29 tb12 rfl).trans ((h_F.at fh27 tb12 rfl).trans ((h_n1 eI26 tb12 t_a0 (by decide)).trans (ev13.symm)))) ?_
              refine va_callv (va_runV (As := [.int 3, .int 2, .int c, .int v13]) (rest := []) ⟨hx, hb, hml, hown, hts⟩ (tX7_keep l E X A z I30 L0 a0 t_a0 3 (3) (by decide) (by omega) 2 (2) (by decide) (by omega) c (c_t) h_c v13 (v13.toInt) rfl) (cwV 4 hts gX7_tryThird_X7_keep rfl rfl rfl (by decide +kernel) ⟨Nat.le_of_ble_eq_true rfl, Nat.le_of_ble_eq_true rfl⟩) ⟨h_blind _ _ _ _ _ _ _, h_recv g t_a0 (by decide) so_8 (q := (RX7, TX7, 13)) rfl, h_pre _ hE hk hX hA hI hR g⟩ rfl rfl hl.1 rfl (lv_room (Nat.le_of_ble_eq_true rfl)) dX7_tryThird_131 ⟨Nat.le_of_ble_eq_true rfl, Nat.le_of_ble_eq_true rfl⟩) g.2.1 (fun q _ h => h) (fun q h => h) (fun I32 t H1 locs ht hvm h31 hB hz1 hk1 hS => ?_)
              obtain ⟨hI, fh31, h31⟩ := h31
              replace g := h_after g hB ht hS
              generalize H1 = H at g
              clear hB hk1 hz1 ht hvm hS
              have hF := hF.call fh31 rfl
              obtain ⟨v33, ev33⟩ : ∃ z : Int32, z = v6 + 1 := ⟨_, rfl⟩
              have jv33 : v33.toInt = v6.toInt + 1 := xi_add ev33 rfl (by decide) (by omega) (by omega)
              refine lv_iinc (v := v33) (lv' := [(7, .int v33), (9, .int v16), (8, .int v14), (0, .ref a0), (1, .int c), (2, .int a), (3, .int p), (4, .int b), (5, .int q), (6, .int v3)]) hx hb dX7_tryThird_134 hl (k := 9) rfl (by rw [ev33]; rfl) (by decide) rfl (fun ls hl => ?_)
              refine lv_goto (tgt := 19) hx hb dX7_tryThird_137 (by decide) ?_
              exact ih19 I32 _ _ _ v33 g hI hF (lv_sub hl [3, 4, 5, 6, 7, 8, 9, 0] rfl) (by omega) (by omega)
  exact loop19_0 _ I0 _ _ _ v5 g hI hF (lv_sub hl [2, 3, 4, 5, 6, 7, 1, 0] rfl) (by omega) (show (60 - v5.toInt) < (((60 - v5.toInt).toNat + 1 : Nat) : Int) by omega)
set_option maxHeartbeats 4000000 in
set_option maxRecDepth 100000 in
theorem tX7_tryThree (l : Launch) (E : tE) (X : tX) (A : Nat → Prop) (z : tZ) (I0 : tI) (L0 : tL) (a0 : Nat) (t_a0 : z.ty a0 = 8) (a : Int32) (a_t : Int) (h_a : a.toInt = a_t) (b_a : 0 ≤ a_t ∧ a_t ≤ 7) (b : Int32) (b_t : Int) (h_b : b.toInt = b_t) (b_b : 0 ≤ b_t ∧ b_t ≤ 7) (c : Int32) (c_t : Int) (h_c : c.toInt = c_t) (b_c : 0 ≤ c_t ∧ c_t ≤ 7) : Met l yX7_tryThree wsX7_tryThree ({ frames := 3, cells := 0, slots := 0, locals := 192 }) (va_Pc [.ref a0, .int a, .int b, .int c] (h_P E X A z I0 L0)) (va_Qv (fun (I1 : tI) => h_I z I1 ∧ h_F [(8, 10), (811, 999), (812, 999), (8, 9)] z I0 I1 ∧ True) (fun (I1 : tI) t => h_B E A z I1 L0 t) A) 0 0 A := by
  refine Met.ofW (cc := cX7_tryThree) (maxL := 7) (ret := none) (by decide) rfl ?_
  intro pr_ ev_ s m args below meth cd_ s₁ B hml hv
  obtain ⟨rfl, hE, hk, hX, hA, hK, hI, hR, hB0⟩ := hv
  have g : h_G h_so h_fk E A z I0 L0 s s.heap s.heap [] := ⟨hK, va_S.rf, hB0⟩
  have hF : h_F [(8, 10), (811, 999), (812, 999), (8, 9)] z I0 I0 := h_F.rf
  have hx := B.exec
  have hb := B.bytes
  have hr := B.returns
  have hts := atoms_spec (ws := wsX7_tryThree) B.pre
  have hown : s.vm.findClass RX7 = some m.cls := findClass_of_methodNamed B.named
  have hlocks := B.notSynchronized
  have iX7 : ∀ w ∈ u_ws RX7 TX7 13, w ∈ wsX7_tryThree := by decide +kernel
  have hl := lv_entry ([.ref a0, .int a, .int b, .int c]) (n := 7) (Nat.le_of_ble_eq_true rfl)
  rw [lg_entry_eq]
  generalize (lg_sl ([.ref a0, .int a, .int b, .int c]) ++ List.replicate (7 - (lg_sl ([.ref a0, .int a, .int b, .int c])).length) Slot.unset).toArray = ls at hl ⊢
  have hl : lv_has ls 7 [(0, .ref a0), (1, .int a), (2, .int b), (3, .int c)] := hl
  refine lv_aload_n hx hb dX7_tryThree_0 rfl (lv_at hl 0 rfl) ?_
  obtain ⟨b1, rb1, tb1⟩ := hR.at a0 8 t_a0 (rfl : h_rs 8 8 = some (808, false)) (by decide)
  refine h_get (v := .ref b1) hx hb hts iX7 hown g t_a0 (by decide) so_8 rfl 8 (by decide) (hts (.fieldLink RX7 39 "CapLeague$RingSearch" "clubTop" "[I") (by decide +kernel)) rfl dX7_tryThree_1 (by show va_rf (z.R a0 8) = _; rw [rb1]; rfl) ?_
  refine lv_iload_n hx hb dX7_tryThree_4 rfl (lv_at hl 1 rfl) ?_
  refine h_ald hx hb g tb1 (by decide) so_808 (xi_in (by rw [h_a]; omega) (by rw [h_a]; omega)) dX7_tryThree_5 ?_
  refine lv_topi (fun v2 ev2 => ?_)
  have jv2 := hI.rd b1 a.toNatClampNeg tb1 ev2 (rfl : h_bd 808 _ = ((-2147483648), 2147483647))
  refine lv_aload_n hx hb dX7_tryThree_6 rfl (lv_at hl 0 rfl) ?_
  refine h_get (v := .ref b1) hx hb hts iX7 hown g t_a0 (by decide) so_8 rfl 8 (by decide) (hts (.fieldLink RX7 39 "CapLeague$RingSearch" "clubTop" "[I") (by decide +kernel)) rfl dX7_tryThree_7 (by show va_rf (z.R a0 8) = _; rw [rb1]; rfl) ?_
  refine lv_iload_n hx hb dX7_tryThree_10 rfl (lv_at hl 2 rfl) ?_
  refine h_ald hx hb g tb1 (by decide) so_808 (xi_in (by rw [h_b]; omega) (by rw [h_b]; omega)) dX7_tryThree_11 ?_
  refine lv_topi (fun v3 ev3 => ?_)
  have jv3 := hI.rd b1 b.toNatClampNeg tb1 ev3 (rfl : h_bd 808 _ = ((-2147483648), 2147483647))
  refine lv_iadd hx hb dX7_tryThree_12 ?_
  refine lv_topi (fun v4 ev4 => ?_)
  have jv4 : -2147483648 ≤ v4.toInt ∧ v4.toInt ≤ 2147483647 := ⟨xi_lo _, Int.le_of_lt_add_one (xi_hi _)⟩
  refine lv_aload_n hx hb dX7_tryThree_13 rfl (lv_at hl 0 rfl) ?_
  refine h_get (v := .ref b1) hx hb hts iX7 hown g t_a0 (by decide) so_8 rfl 8 (by decide) (hts (.fieldLink RX7 39 "CapLeague$RingSearch" "clubTop" "[I") (by decide +kernel)) rfl dX7_tryThree_14 (by show va_rf (z.R a0 8) = _; rw [rb1]; rfl) ?_
  refine lv_iload_n hx hb dX7_tryThree_17 rfl (lv_at hl 3 rfl) ?_
  refine h_ald hx hb g tb1 (by decide) so_808 (xi_in (by rw [h_c]; omega) (by rw [h_c]; omega)) dX7_tryThree_18 ?_
  refine lv_topi (fun v5 ev5 => ?_)
  have jv5 := hI.rd b1 c.toNatClampNeg tb1 ev5 (rfl : h_bd 808 _ = ((-2147483648), 2147483647))
  refine lv_iadd hx hb dX7_tryThree_19 ?_
  refine lv_topi (fun v6 ev6 => ?_)
  have jv6 : -2147483648 ≤ v6.toInt ∧ v6.toInt ≤ 2147483647 := ⟨xi_lo _, Int.le_of_lt_add_one (xi_hi _)⟩
  refine lv_aload_n hx hb dX7_tryThree_20 rfl (lv_at hl 0 rfl) ?_
  refine h_get (v := .int (I0 a0 9)) hx hb hts iX7 hown g t_a0 (by decide) so_8 rfl 9 (by decide) (hts (.fieldLink RX7 59 "CapLeague$RingSearch" "best" "I") (by decide +kernel)) rfl dX7_tryThree_21 rfl ?_
  refine lv_topi (fun v7 ev7 => ?_)
  have jv7 := hI.rd a0 9 t_a0 ev7 (rfl : h_bd 8 9 = ((-2147483648), 2147483647))
  refine lv_icmp_gt (tgt := 28) hx hb dX7_tryThree_24 (by decide) (fun c8 => ?_) (fun c8 => ?_)
  · have ic8 := (xi_lt c8 rfl rfl : v7.toInt < v6.toInt)
    refine lv_aload_n hx hb dX7_tryThree_28 rfl (lv_at hl 0 rfl) ?_
    obtain ⟨b9, rb9, tb9⟩ := hR.at a0 3 t_a0 (rfl : h_rs 8 3 = some (803, false)) (by decide)
    refine h_get (v := .ref b9) hx hb hts iX7 hown g t_a0 (by decide) so_8 rfl 3 (by decide) (hts (.fieldLink RX7 22 "CapLeague$RingSearch" "start" "[I") (by decide +kernel)) rfl dX7_tryThree_29 (by show va_rf (z.R a0 3) = _; rw [rb9]; rfl) ?_
    refine lv_iload_n hx hb dX7_tryThree_32 rfl (lv_at hl 1 rfl) ?_
    refine h_ald hx hb g tb9 (by decide) so_803 (xi_in (by rw [h_a]; omega) (by rw [h_a]; omega)) dX7_tryThree_33 ?_
    refine lv_topi (fun v10 ev10 => ?_)
    have jv10 := hI.rd b9 a.toNatClampNeg tb9 ev10 (rfl : h_bd 803 _ = (0, 60))
    refine lv_istore (lv' := [(4, .int v10), (0, .ref a0), (1, .int a), (2, .int b), (3, .int c)]) hx hb dX7_tryThree_34 hl (by decide) rfl (fun ls hl => ?_)
    have loop36_0 : ∀ (n : Nat) (I12 : tI) (H : Heap) (locs : List Loc) (ls : Array Slot) (v11 : Int32), h_G h_so h_fk E A z I12 L0 s s.heap H locs → h_I z I12 → h_F [(8, 10), (811, 999), (812, 999), (8, 9)] z I0 I12 → lv_has ls 7 [(0, .ref a0), (1, .int a), (2, .int b), (3, .int c), (4, .int v11)] → (0 ≤ v11.toInt ∧ v11.toInt ≤ 60) → (60 - v11.toInt) < (n : Int) → W pr_ l ev_ (headSpec wsX7_tryThree ({ frames := 3, cells := 0, slots := 0, locals := 192 })).room s m ([.ref a0, .int a, .int b, .int c] : List Value).toArray below meth cd_ H locs 0 0 (MQ below (va_Qv (fun (I1 : tI) => h_I z I1 ∧ h_F [(8, 10), (811, 999), (812, 999), (8, 9)] z I0 I1 ∧ True) (fun (I1 : tI) t => h_B E A z I1 L0 t) A) ([.ref a0, .int a, .int b, .int c] : List Value).toArray s 0 0 A) (F0 m 36 ls []) := by
      intro n
      induction n with
      | zero => intro I12 H locs ls v11 g hI hF hl jv11 hn; exact absurd hn (by omega)
      | succ n ih36 =>
        intro I12 H locs ls v11 g hI hF hl jv11 hn
        refine lv_iload hx hb dX7_tryThree_36 (lv_at hl 4 rfl) ?_
        refine lv_aload_n hx hb dX7_tryThree_38 rfl (lv_at hl 0 rfl) ?_
        refine h_get (v := .ref b9) hx hb hts iX7 hown g t_a0 (by decide) so_8 rfl 3 (by decide) (hts (.fieldLink RX7 22 "CapLeague$RingSearch" "start" "[I") (by decide +kernel)) rfl dX7_tryThree_39 (by show va_rf (z.R a0 3) = _; rw [rb9]; rfl) ?_
        refine lv_iload_n hx hb dX7_tryThree_42 rfl (lv_at hl 1 rfl) ?_
        refine lv_iconst (v := 1) hx hb dX7_tryThree_43 (by decide) ?_
        refine lv_iadd hx hb dX7_tryThree_44 ?_
        refine lv_topi (fun v13 ev13 => ?_)
        have jv13 : v13.toInt = a_t + 1 := xi_add ev13 h_a (by decide) (by omega) (by omega)
        refine h_ald hx hb g tb9 (by decide) so_803 (xi_in (by omega) (by omega)) dX7_tryThree_45 ?_
        refine lv_topi (fun v14 ev14 => ?_)
        have jv14 := hI.rd b9 v13.toNatClampNeg tb9 ev14 (rfl : h_bd 803 _ = (0, 60))
        refine lv_icmp_ge (tgt := 159) hx hb dX7_tryThree_46 (by decide) (fun c15 => ?_) (fun c15 => ?_)
        · have ic15 := (xi_le c15 rfl rfl : v14.toInt ≤ v11.toInt)
          have hS := g.2.1
          exact W.vret hx hb hr (fun t ht hW => ⟨⟨I12, rfl, ⟨hI, hF, trivial⟩, h_ret g ht⟩, hS.F ht⟩) hS.2.2 dX7_tryThree_159
        · have ic15 := (xi_nle c15 rfl rfl : v11.toInt < v14.toInt)
          refine lv_aload_n hx hb dX7_tryThree_49 rfl (lv_at hl 0 rfl) ?_
          refine h_get (v := .ref b9) hx hb hts iX7 hown g t_a0 (by decide) so_8 rfl 3 (by decide) (hts (.fieldLink RX7 22 "CapLeague$RingSearch" "start" "[I") (by decide +kernel)) rfl dX7_tryThree_50 (by show va_rf (z.R a0 3) = _; rw [rb9]; rfl) ?_
          refine lv_iload_n hx hb dX7_tryThree_53 rfl (lv_at hl 2 rfl) ?_
          refine h_ald hx hb g tb9 (by decide) so_803 (xi_in (by rw [h_b]; omega) (by rw [h_b]; omega)) dX7_tryThree_54 ?_
          refine lv_topi (fun v16 ev16 => ?_)
          have jv16 := hI.rd b9 b.toNatClampNeg tb9 ev16 (rfl : h_bd 803 _ = (0, 60))
          refine lv_istore (lv' := [(5, .int v16), (0, .ref a0), (1, .int a), (2, .int b), (3, .int c), (4, .int v11)]) hx hb dX7_tryThree_55 hl (by decide) rfl (fun ls hl => ?_)
          have loop57_1 : ∀ (n : Nat) (I18 : tI) (H : Heap) (locs : List Loc) (ls : Array Slot) (v17 : Int32), h_G h_so h_fk E A z I18 L0 s s.heap H locs → h_I z I18 → h_F [(8, 10), (811, 999), (812, 999), (8, 9)] z I0 I18 → lv_has ls 7 [(0, .ref a0), (1, .int a), (2, .int b), (3, .int c), (4, .int v11), (5, .int v17)] → (0 ≤ v17.toInt ∧ v17.toInt ≤ 60) → (60 - v17.toInt) < (n : Int) → W pr_ l ev_ (headSpec wsX7_tryThree ({ frames := 3, cells := 0, slots := 0, locals := 192 })).room s m ([.ref a0, .int a, .int b, .int c] : List Value).toArray below meth cd_ H locs 0 0 (MQ below (va_Qv (fun (I1 : tI) => h_I z I1 ∧ h_F [(8, 10), (811, 999), (812, 999), (8, 9)] z I0 I1 ∧ True) (fun (I1 : tI) t => h_B E A z I1 L0 t) A) ([.ref a0, .int a, .int b, .int c] : List Value).toArray s 0 0 A) (F0 m 57 ls []) := by
            intro n
            induction n with
            | zero => intro I18 H locs ls v17 g hI hF hl jv17 hn; exact absurd hn (by omega)
            | succ n ih57 =>
              intro I18 H locs ls v17 g hI hF hl jv17 hn
              refine lv_iload hx hb dX7_tryThree_57 (lv_at hl 5 rfl) ?_
              refine lv_aload_n hx hb dX7_tryThree_59 rfl (lv_at hl 0 rfl) ?_
              refine h_get (v := .ref b9) hx hb hts iX7 hown g t_a0 (by decide) so_8 rfl 3 (by decide) (hts (.fieldLink RX7 22 "CapLeague$RingSearch" "start" "[I") (by decide +kernel)) rfl dX7_tryThree_60 (by show va_rf (z.R a0 3) = _; rw [rb9]; rfl) ?_
              refine lv_iload_n hx hb dX7_tryThree_63 rfl (lv_at hl 2 rfl) ?_
              refine lv_iconst (v := 1) hx hb dX7_tryThree_64 (by decide) ?_
              refine lv_iadd hx hb dX7_tryThree_65 ?_
              refine lv_topi (fun v19 ev19 => ?_)
              have jv19 : v19.toInt = b_t + 1 := xi_add ev19 h_b (by decide) (by omega) (by omega)
              refine h_ald hx hb g tb9 (by decide) so_803 (xi_in (by omega) (by omega)) dX7_tryThree_66 ?_
              refine lv_topi (fun v20 ev20 => ?_)
              have jv20 := hI.rd b9 v19.toNatClampNeg tb9 ev20 (rfl : h_bd 803 _ = (0, 60))
              refine lv_icmp_ge (tgt := 153) hx hb dX7_tryThree_67 (by decide) (fun c21 => ?_) (fun c21 => ?_)
              · have ic21 := (xi_le c21 rfl rfl : v20.toInt ≤ v17.toInt)
                obtain ⟨v22, ev22⟩ : ∃ z : Int32, z = v11 + 1 := ⟨_, rfl⟩
                have jv22 : v22.toInt = v11.toInt + 1 := xi_add ev22 rfl (by decide) (by omega) (by omega)
                refine lv_iinc (v := v22) (lv' := [(4, .int v22), (0, .ref a0), (1, .int a), (2, .int b), (3, .int c), (5, .int v17)]) hx hb dX7_tryThree_153 hl (k := 4) rfl (by rw [ev22]; rfl) (by decide) rfl (fun ls hl => ?_)
                refine lv_goto (tgt := 36) hx hb dX7_tryThree_156 (by decide) ?_
                exact ih36 I18 _ _ _ v22 g hI hF (lv_sub hl [1, 2, 3, 4, 0] rfl) (by omega) (by omega)
              · have ic21 := (xi_nle c21 rfl rfl : v17.toInt < v20.toInt)
                refine lv_aload_n hx hb dX7_tryThree_70 rfl (lv_at hl 0 rfl) ?_
                obtain ⟨b23, rb23, tb23⟩ := hR.at a0 6 t_a0 (rfl : h_rs 8 6 = some (806, false)) (by decide)
                refine h_get (v := .ref b23) hx hb hts iX7 hown g t_a0 (by decide) so_8 rfl 6 (by decide) (hts (.fieldLink RX7 33 "CapLeague$RingSearch" "gains" "[[I") (by decide +kernel)) rfl dX7_tryThree_71 (by show va_rf (z.R a0 6) = _; rw [rb23]; rfl) ?_
                refine lv_aload_n hx hb dX7_tryThree_74 rfl (lv_at hl 0 rfl) ?_
                obtain ⟨b24, rb24, tb24⟩ := hR.at a0 2 t_a0 (rfl : h_rs 8 2 = some (802, false)) (by decide)
                refine h_get (v := .ref b24) hx hb hts iX7 hown g t_a0 (by decide) so_8 rfl 2 (by decide) (hts (.fieldLink RX7 18 "CapLeague$RingSearch" "line" "[I") (by decide +kernel)) rfl dX7_tryThree_75 (by show va_rf (z.R a0 2) = _; rw [rb24]; rfl) ?_
                refine lv_iload hx hb dX7_tryThree_78 (lv_at hl 5 rfl) ?_
                refine h_ald hx hb g tb24 (by decide) so_802 (xi_in (by omega) (by omega)) dX7_tryThree_80 ?_
                refine lv_topi (fun v25 ev25 => ?_)
                have jv25 := hI.rd b24 v17.toNatClampNeg tb24 ev25 (rfl : h_bd 802 _ = (0, 59))
                obtain ⟨b26, rb26, tb26⟩ := hR.at b23 v25.toNatClampNeg tb23 (rfl : h_rs 806 _ = some (856, false)) (by rw [so_806]; exact h_lt (n := 60) (xi_in (by omega) (by omega)))
                refine h_aldA (v := .ref b26) hx hb g tb23 (by decide) so_806 (xi_in (by omega) (by omega)) dX7_tryThree_81 (by rw [rb26]; rfl) ?_
                refine lv_aload_n hx hb dX7_tryThree_82 rfl (lv_at hl 0 rfl) ?_
                refine h_get (v := .ref b24) hx hb hts iX7 hown g t_a0 (by decide) so_8 rfl 2 (by decide) (hts (.fieldLink RX7 18 "CapLeague$RingSearch" "line" "[I") (by decide +kernel)) rfl dX7_tryThree_83 (by show va_rf (z.R a0 2) = _; rw [rb24]; rfl) ?_
                refine lv_iload hx hb dX7_tryThree_86 (lv_at hl 4 rfl) ?_
                refine h_ald hx hb g tb24 (by decide) so_802 (xi_in (by omega) (by omega)) dX7_tryThree_88 ?_
                refine lv_topi (fun v27 ev27 => ?_)
                have jv27 := hI.rd b24 v11.toNatClampNeg tb24 ev27 (rfl : h_bd 802 _ = (0, 59))
                refine h_ald hx hb g tb26 (by decide) so_856 (xi_in (by omega) (by omega)) dX7_tryThree_89 ?_
                refine lv_topi (fun v28 ev28 => ?_)
                have jv28 := hI.rd b26 v27.toNatClampNeg tb26 ev28 (rfl : h_bd 856 _ = ((-2147483648), 2147483647))
                refine lv_istore (lv' := [(6, .int v28), (0, .ref a0), (1, .int a), (2, .int b), (3, .int c), (4, .int v11), (5, .int v17)]) hx hb dX7_tryThree_90 hl (by decide) rfl (fun ls hl => ?_)
                refine lv_iload hx hb dX7_tryThree_92 (lv_at hl 0 rfl) ?_
                refine lv_if_le (tgt := 147) hx hb dX7_tryThree_94 (by decide) (fun c29 => ?_) (fun c29 => ?_)
                · have ic29 := (xi_le c29 rfl (by decide) : v28.toInt ≤ 0)
                  obtain ⟨v30, ev30⟩ : ∃ z : Int32, z = v17 + 1 := ⟨_, rfl⟩
                  have jv30 : v30.toInt = v17.toInt + 1 := xi_add ev30 rfl (by decide) (by omega) (by omega)
                  refine lv_iinc (v := v30) (lv' := [(5, .int v30), (6, .int v28), (0, .ref a0), (1, .int a), (2, .int b), (3, .int c), (4, .int v11)]) hx hb dX7_tryThree_147 hl (k := 6) rfl (by rw [ev30]; rfl) (by decide) rfl (fun ls hl => ?_)
                  refine lv_goto (tgt := 57) hx hb dX7_tryThree_150 (by decide) ?_
                  exact ih57 I18 _ _ _ v30 g hI hF (lv_sub hl [2, 3, 4, 5, 6, 0] rfl) (by omega) (by omega)
                · have ic29 := (xi_nle c29 rfl (by decide) : 0 < v28.toInt)
                  refine lv_iload hx hb dX7_tryThree_97 (lv_at hl 0 rfl) ?_
                  refine lv_aload_n hx hb dX7_tryThree_99 rfl (lv_at hl 1 rfl) ?_
                  obtain ⟨b31, rb31, tb31⟩ := hR.at a0 7 t_a0 (rfl : h_rs 8 7 = some (807, false)) (by decide)
                  refine h_get (v := .ref b31) hx hb hts iX7 hown g t_a0 (by decide) so_8 rfl 7 (by decide) (hts (.fieldLink RX7 36 "CapLeague$RingSearch" "playerTop" "[I") (by decide +kernel)) rfl dX7_tryThree_100 (by show va_rf (z.R a0 7) = _; rw [rb31]; rfl) ?_
                  refine lv_aload_n hx hb dX7_tryThree_103 rfl (lv_at hl 1 rfl) ?_
                  refine h_get (v := .ref b24) hx hb hts iX7 hown g t_a0 (by decide) so_8 rfl 2 (by decide) (hts (.fieldLink RX7 18 "CapLeague$RingSearch" "line" "[I") (by decide +kernel)) rfl dX7_tryThree_104 (by show va_rf (z.R a0 2) = _; rw [rb24]; rfl) ?_
                  refine lv_iload hx hb dX7_tryThree_107 (lv_at hl 5 rfl) ?_
                  refine h_ald hx hb g tb24 (by decide) so_802 (xi_in (by omega) (by omega)) dX7_tryThree_109 ?_
                  refine xw_i (ev27.symm) ?_
                  refine h_ald hx hb g tb31 (by decide) so_807 (xi_in (by omega) (by omega)) dX7_tryThree_110 ?_
                  refine lv_topi (fun v32 ev32 => ?_)
                  have jv32 := hI.rd b31 v27.toNatClampNeg tb31 ev32 (rfl : h_bd 807 _ = ((-2147483648), 2147483647))
                  refine lv_iadd hx hb dX7_tryThree_111 ?_
                  refine lv_topi (fun v33 ev33 => ?_)
                  have jv33 : -2147483648 ≤ v33.toInt ∧ v33.toInt ≤ 2147483647 := ⟨xi_lo _, Int.le_of_lt_add_one (xi_hi _)⟩
                  refine lv_aload_n hx hb dX7_tryThree_112 rfl (lv_at hl 1 rfl) ?_
                  refine h_get (v := .ref b1) hx hb hts iX7 hown g t_a0 (by decide) so_8 rfl 8 (by decide) (hts (.fieldLink RX7 39 "CapLeague$RingSearch" "clubTop" "[I") (by decide +kernel)) rfl dX7_tryThree_113 (by show va_rf (z.R a0 8) = _; rw [rb1]; rfl) ?_
                  refine lv_iload_n hx hb dX7_tryThree_116 rfl (lv_at hl 4 rfl) ?_
                  refine h_ald hx hb g tb1 (by decide) so_808 (xi_in (by rw [h_c]; omega) (by rw [h_c]; omega)) dX7_tryThree_117 ?_
                  refine xw_i ((h_F.at hF tb1 rfl).trans (ev5.symm)) ?_
                  refine lv_iadd hx hb dX7_tryThree_118 ?_
                  refine lv_topi (fun v34 ev34 => ?_)
                  have jv34 : -2147483648 ≤ v34.toInt ∧ v34.toInt ≤ 2147483647 := ⟨xi_lo _, Int.le_of_lt_add_one (xi_hi _)⟩
                  refine lv_aload_n hx hb dX7_tryThree_119 rfl (lv_at hl 1 rfl) ?_
                  refine h_get (v := .int (I18 a0 9)) hx hb hts iX7 hown g t_a0 (by decide) so_8 rfl 9 (by decide) (hts (.fieldLink RX7 59 "CapLeague$RingSearch" "best" "I") (by decide +kernel)) rfl dX7_tryThree_120 rfl ?_
                  refine lv_topi (fun v35 ev35 => ?_)
                  have jv35 := hI.rd a0 9 t_a0 ev35 (rfl : h_bd 8 9 = ((-2147483648), 2147483647))
                  refine lv_icmp_le (tgt := 147) hx hb dX7_tryThree_123 (by decide) (fun c36 => ?_) (fun c36 => ?_)
                  · have ic36 := (xi_le c36 rfl rfl : v34.toInt ≤ v35.toInt)
                    obtain ⟨v37, ev37⟩ : ∃ z : Int32, z = v17 + 1 := ⟨_, rfl⟩
                    have jv37 : v37.toInt = v17.toInt + 1 := xi_add ev37 rfl (by decide) (by omega) (by omega)
                    refine lv_iinc (v := v37) (lv' := [(5, .int v37), (6, .int v28), (0, .ref a0), (1, .int a), (2, .int b), (3, .int c), (4, .int v11)]) hx hb dX7_tryThree_147 hl (k := 6) rfl (by rw [ev37]; rfl) (by decide) rfl (fun ls hl => ?_)
                    refine lv_goto (tgt := 57) hx hb dX7_tryThree_150 (by decide) ?_
                    exact ih57 I18 _ _ _ v37 g hI hF (lv_sub hl [2, 3, 4, 5, 6, 0] rfl) (by omega) (by omega)
                  · have ic36 := (xi_nle c36 rfl rfl : v35.toInt < v34.toInt)
                    refine lv_aload_n hx hb dX7_tryThree_126 rfl (lv_at hl 1 rfl) ?_
                    refine lv_iload_n hx hb dX7_tryThree_127 rfl (lv_at hl 4 rfl) ?_
                    refine lv_iload_n hx hb dX7_tryThree_128 rfl (lv_at hl 2 rfl) ?_
                    refine lv_aload_n hx hb dX7_tryThree_129 rfl (lv_at hl 1 rfl) ?_
                    refine h_get (v := .ref b24) hx hb hts iX7 hown g t_a0 (by decide) so_8 rfl 2 (by decide) (hts (.fieldLink RX7 18 "CapLeague$RingSearch" "line" "[I") (by decide +kernel)) rfl dX7_tryThree_130 (by show va_rf (z.R a0 2) = _; rw [rb24]; rfl) ?_
                    refine lv_iload hx hb dX7_tryThree_133 (lv_at hl 5 rfl) ?_
                    refine h_ald hx hb g tb24 (by decide) so_802 (xi_in (by omega) (by omega)) dX7_tryThree_135 ?_
                    refine xw_i (ev27.symm) ?_
                    refine lv_iload_n hx hb dX7_tryThree_136 rfl (lv_at hl 3 rfl) ?_
                    refine lv_aload_n hx hb dX7_tryThree_137 rfl (lv_at hl 1 rfl) ?_
                    refine h_get (v := .ref b24) hx hb hts iX7 hown g t_a0 (by decide) so_8 rfl 2 (by decide) (hts (.fieldLink RX7 18 "CapLeague$RingSearch" "line" "[I") (by decide +kernel)) rfl dX7_tryThree_138 (by show va_rf (z.R a0 2) = _; rw [rb24]; rfl) ?_
                    refine lv_iload hx hb dX7_tryThree_141 (lv_at hl 6 rfl) ?_
                    refine h_ald hx hb g tb24 (by decide) so_802 (xi_in (by omega) (by omega)) dX7_tryThree_143 ?_
                    refine xw_i (ev25.symm) ?_
                    refine va_callv (va_runV (As := [.int c, .int a, .int v27, .int b, .int v25]) (rest := []) ⟨hx, hb, hml, hown, hts⟩ (tX7_tryThird l E X A z I18 L0 a0 t_a0 c (c_t) h_c (by omega) a (a_t) h_a v27 (v27.toInt) rfl (by omega) b (b_t) h_b v25 (v25.toInt) rfl (by omega)) (cwV 5 hts gX7_tryThree_X7_tryThird rfl rfl rfl (by decide +kernel) ⟨Nat.le_of_ble_eq_true rfl, Nat.le_of_ble_eq_true rfl⟩) ⟨h_blind _ _ _ _ _ _ _, h_recv g t_a0 (by decide) so_8 (q := (RX7, TX7, 13)) rfl, h_pre _ hE hk hX hA hI hR g⟩ rfl rfl hl.1 rfl (lv_room (Nat.le_of_ble_eq_true rfl)) dX7_tryThree_144 ⟨Nat.le_of_ble_eq_true rfl, Nat.le_of_ble_eq_true rfl⟩) g.2.1 (fun q _ h => h) (fun q h => h) (fun I39 t H1 locs ht hvm h38 hB hz1 hk1 hS => ?_)
                    obtain ⟨hI, fh38, h38⟩ := h38
                    replace g := h_after g hB ht hS
                    generalize H1 = H at g
                    clear hB hk1 hz1 ht hvm hS
                    have hF := hF.call fh38 rfl
                    obtain ⟨v40, ev40⟩ : ∃ z : Int32, z = v17 + 1 := ⟨_, rfl⟩
                    have jv40 : v40.toInt = v17.toInt + 1 := xi_add ev40 rfl (by decide) (by omega) (by omega)
                    refine lv_iinc (v := v40) (lv' := [(5, .int v40), (6, .int v28), (0, .ref a0), (1, .int a), (2, .int b), (3, .int c), (4, .int v11)]) hx hb dX7_tryThree_147 hl (k := 6) rfl (by rw [ev40]; rfl) (by decide) rfl (fun ls hl => ?_)
                    refine lv_goto (tgt := 57) hx hb dX7_tryThree_150 (by decide) ?_
                    exact ih57 I39 _ _ _ v40 g hI hF (lv_sub hl [2, 3, 4, 5, 6, 0] rfl) (by omega) (by omega)
          exact loop57_1 _ I12 _ _ _ v16 g hI hF (lv_sub hl [1, 2, 3, 4, 5, 0] rfl) (by omega) (show (60 - v16.toInt) < (((60 - v16.toInt).toNat + 1 : Nat) : Int) by omega)
    exact loop36_0 _ I0 _ _ _ v10 g hI hF (lv_sub hl [1, 2, 3, 4, 0] rfl) (by omega) (show (60 - v10.toInt) < (((60 - v10.toInt).toNat + 1 : Nat) : Int) by omega)
  · have ic8 := (xi_nlt c8 rfl rfl : v6.toInt ≤ v7.toInt)
    have hS := g.2.1
    exact W.vret hx hb hr (fun t ht hW => ⟨⟨I0, rfl, ⟨hI, hF, trivial⟩, h_ret g ht⟩, hS.F ht⟩) hS.2.2 dX7_tryThree_27
set_option maxHeartbeats 4000000 in
set_option maxRecDepth 100000 in
theorem tX7_findBest (l : Launch) (E : tE) (X : tX) (A : Nat → Prop) (z : tZ) (I0 : tI) (L0 : tL) (a0 : Nat) (t_a0 : z.ty a0 = 8) : Met l yX7_findBest wsX7_findBest ({ frames := 6, cells := 0, slots := 0, locals := 384 }) (va_Pc [.ref a0] (h_P E X A z I0 L0)) (va_Qi (fun r (I1 : tI) => h_I z I1 ∧ h_F [(803, 999), (802, 999), (804, 999), (805, 999), (2, 0), (2, 1), (2, 2), (2, 3), (808, 999), (807, 999), (856, 999), (8, 10), (811, 999), (812, 999), (8, 9)] z I0 I1 ∧ True) (fun (I1 : tI) t => h_B E A z I1 L0 t) A) 0 0 A := by
  refine Met.ofW (cc := cX7_findBest) (maxL := 4) (ret := (some .int)) (by decide) rfl ?_
  intro pr_ ev_ s m args below meth cd_ s₁ B hml hv
  obtain ⟨rfl, hE, hk, hX, hA, hK, hI, hR, hB0⟩ := hv
  have g : h_G h_so h_fk E A z I0 L0 s s.heap s.heap [] := ⟨hK, va_S.rf, hB0⟩
  have hF : h_F [(803, 999), (802, 999), (804, 999), (805, 999), (2, 0), (2, 1), (2, 2), (2, 3), (808, 999), (807, 999), (856, 999), (8, 10), (811, 999), (812, 999), (8, 9)] z I0 I0 := h_F.rf
  have hx := B.exec
  have hb := B.bytes
  have hr := B.returns
  have hts := atoms_spec (ws := wsX7_findBest) B.pre
  have hown : s.vm.findClass RX7 = some m.cls := findClass_of_methodNamed B.named
  have hlocks := B.notSynchronized
  have iX7 : ∀ w ∈ u_ws RX7 TX7 13, w ∈ wsX7_findBest := by decide +kernel
  have hl := lv_entry ([.ref a0]) (n := 4) (Nat.le_of_ble_eq_true rfl)
  rw [lg_entry_eq]
  generalize (lg_sl ([.ref a0]) ++ List.replicate (4 - (lg_sl ([.ref a0])).length) Slot.unset).toArray = ls at hl ⊢
  have hl : lv_has ls 4 [(0, .ref a0)] := hl
  refine lv_aload_n hx hb dX7_findBest_0 rfl (lv_at hl 0 rfl) ?_
  refine va_callv (va_runV (As := []) (rest := []) ⟨hx, hb, hml, hown, hts⟩ (tX7_lineUp l E X A z I0 L0 a0 t_a0) (cwV 0 hts gX7_findBest_X7_lineUp rfl rfl rfl (by decide +kernel) ⟨Nat.le_of_ble_eq_true rfl, Nat.le_of_ble_eq_true rfl⟩) ⟨h_blind _ _ _ _ _ _ _, h_recv g t_a0 (by decide) so_8 (q := (RX7, TX7, 13)) rfl, h_pre _ hE hk hX hA hI hR g⟩ rfl rfl hl.1 rfl (lv_room (Nat.le_of_ble_eq_true rfl)) dX7_findBest_1 ⟨Nat.le_of_ble_eq_true rfl, Nat.le_of_ble_eq_true rfl⟩) g.2.1 (fun q _ h => h) (fun q h => h) (fun I2 t H1 locs ht hvm h1 hB hz1 hk1 hS => ?_)
  obtain ⟨hI, fh1, h1⟩ := h1
  replace g := h_after g hB ht hS
  generalize H1 = H at g
  clear hB hk1 hz1 ht hvm hS
  have hF := hF.call fh1 rfl
  refine lv_iconst (v := 0) hx hb dX7_findBest_4 (by decide) ?_
  refine lv_istore_n (lv' := [(1, .int 0), (0, .ref a0)]) hx hb dX7_findBest_5 rfl hl (by decide) rfl (fun ls hl => ?_)
  have loop6_0 : ∀ (n : Nat) (I4 : tI) (H : Heap) (locs : List Loc) (ls : Array Slot) (v3 : Int32), h_G h_so h_fk E A z I4 L0 s s.heap H locs → h_I z I4 → h_F [(803, 999), (802, 999), (804, 999), (805, 999), (2, 0), (2, 1), (2, 2), (2, 3), (808, 999), (807, 999), (856, 999), (8, 10), (811, 999), (812, 999), (8, 9)] z I0 I4 → lv_has ls 4 [(0, .ref a0), (1, .int v3)] → (0 ≤ v3.toInt ∧ v3.toInt ≤ 8) → (8 - v3.toInt) < (n : Int) → W pr_ l ev_ (headSpec wsX7_findBest ({ frames := 6, cells := 0, slots := 0, locals := 384 })).room s m ([.ref a0] : List Value).toArray below meth cd_ H locs 0 0 (MQ below (va_Qi (fun r (I1 : tI) => h_I z I1 ∧ h_F [(803, 999), (802, 999), (804, 999), (805, 999), (2, 0), (2, 1), (2, 2), (2, 3), (808, 999), (807, 999), (856, 999), (8, 10), (811, 999), (812, 999), (8, 9)] z I0 I1 ∧ True) (fun (I1 : tI) t => h_B E A z I1 L0 t) A) ([.ref a0] : List Value).toArray s 0 0 A) (F0 m 6 ls []) := by
    intro n
    induction n with
    | zero => intro I4 H locs ls v3 g hI hF hl jv3 hn; exact absurd hn (by omega)
    | succ n ih6 =>
      intro I4 H locs ls v3 g hI hF hl jv3 hn
      refine lv_iload_n hx hb dX7_findBest_6 rfl (lv_at hl 1 rfl) ?_
      refine lv_bipush (v := 8) hx hb dX7_findBest_7 (by decide) ?_
      refine lv_icmp_ge (tgt := 23) hx hb dX7_findBest_9 (by decide) (fun c5 => ?_) (fun c5 => ?_)
      · have ic5 := (xi_le c5 (by decide) rfl : 8 ≤ v3.toInt)
        refine lv_aload_n hx hb dX7_findBest_23 rfl (lv_at hl 0 rfl) ?_
        refine lv_iconst (v := 0) hx hb dX7_findBest_24 (by decide) ?_
        refine h_putI (ty := .int) (v := 0) hx hb hts iX7 tyX7 tyX7_ok nmX7 hown g t_a0 (by decide) so_8 rfl 9 (by decide) rfl (hts (.fieldLink RX7 59 "CapLeague$RingSearch" "best" "I") (by decide +kernel)) rfl rfl (by decide +kernel) rfl rfl dX7_findBest_25 (fun I6 H locs eI6 g => ?_)
        have hI := hI.wr eI6 t_a0 (rfl : h_bd 8 9 = ((-2147483648), 2147483647)) (by decide) (by decide)
        have hF := hF.wr eI6 t_a0 rfl
        refine lv_iconst (v := 0) hx hb dX7_findBest_28 (by decide) ?_
        refine lv_istore_n (lv' := [(1, .int 0), (0, .ref a0)]) hx hb dX7_findBest_29 rfl hl (by decide) rfl (fun ls hl => ?_)
        have loop30_1 : ∀ (n : Nat) (I8 : tI) (H : Heap) (locs : List Loc) (ls : Array Slot) (v7 : Int32), h_G h_so h_fk E A z I8 L0 s s.heap H locs → h_I z I8 → h_F [(803, 999), (802, 999), (804, 999), (805, 999), (2, 0), (2, 1), (2, 2), (2, 3), (808, 999), (807, 999), (856, 999), (8, 10), (811, 999), (812, 999), (8, 9)] z I0 I8 → lv_has ls 4 [(0, .ref a0), (1, .int v7)] → (0 ≤ v7.toInt ∧ v7.toInt ≤ 8) → (8 - v7.toInt) < (n : Int) → W pr_ l ev_ (headSpec wsX7_findBest ({ frames := 6, cells := 0, slots := 0, locals := 384 })).room s m ([.ref a0] : List Value).toArray below meth cd_ H locs 0 0 (MQ below (va_Qi (fun r (I1 : tI) => h_I z I1 ∧ h_F [(803, 999), (802, 999), (804, 999), (805, 999), (2, 0), (2, 1), (2, 2), (2, 3), (808, 999), (807, 999), (856, 999), (8, 10), (811, 999), (812, 999), (8, 9)] z I0 I1 ∧ True) (fun (I1 : tI) t => h_B E A z I1 L0 t) A) ([.ref a0] : List Value).toArray s 0 0 A) (F0 m 30 ls []) := by
          intro n
          induction n with
          | zero => intro I8 H locs ls v7 g hI hF hl jv7 hn; exact absurd hn (by omega)
          | succ n ih30 =>
            intro I8 H locs ls v7 g hI hF hl jv7 hn
            refine lv_iload_n hx hb dX7_findBest_30 rfl (lv_at hl 1 rfl) ?_
            refine lv_bipush (v := 8) hx hb dX7_findBest_31 (by decide) ?_
            refine lv_icmp_ge (tgt := 64) hx hb dX7_findBest_33 (by decide) (fun c9 => ?_) (fun c9 => ?_)
            · have ic9 := (xi_le c9 (by decide) rfl : 8 ≤ v7.toInt)
              refine lv_iconst (v := 0) hx hb dX7_findBest_64 (by decide) ?_
              refine lv_istore_n (lv' := [(1, .int 0), (0, .ref a0)]) hx hb dX7_findBest_65 rfl hl (by decide) rfl (fun ls hl => ?_)
              have loop66_2 : ∀ (n : Nat) (I11 : tI) (H : Heap) (locs : List Loc) (ls : Array Slot) (v10 : Int32), h_G h_so h_fk E A z I11 L0 s s.heap H locs → h_I z I11 → h_F [(803, 999), (802, 999), (804, 999), (805, 999), (2, 0), (2, 1), (2, 2), (2, 3), (808, 999), (807, 999), (856, 999), (8, 10), (811, 999), (812, 999), (8, 9)] z I0 I11 → lv_has ls 4 [(0, .ref a0), (1, .int v10)] → (0 ≤ v10.toInt ∧ v10.toInt ≤ 8) → (8 - v10.toInt) < (n : Int) → W pr_ l ev_ (headSpec wsX7_findBest ({ frames := 6, cells := 0, slots := 0, locals := 384 })).room s m ([.ref a0] : List Value).toArray below meth cd_ H locs 0 0 (MQ below (va_Qi (fun r (I1 : tI) => h_I z I1 ∧ h_F [(803, 999), (802, 999), (804, 999), (805, 999), (2, 0), (2, 1), (2, 2), (2, 3), (808, 999), (807, 999), (856, 999), (8, 10), (811, 999), (812, 999), (8, 9)] z I0 I1 ∧ True) (fun (I1 : tI) t => h_B E A z I1 L0 t) A) ([.ref a0] : List Value).toArray s 0 0 A) (F0 m 66 ls []) := by
                intro n
                induction n with
                | zero => intro I11 H locs ls v10 g hI hF hl jv10 hn; exact absurd hn (by omega)
                | succ n ih66 =>
                  intro I11 H locs ls v10 g hI hF hl jv10 hn
                  refine lv_iload_n hx hb dX7_findBest_66 rfl (lv_at hl 1 rfl) ?_
                  refine lv_bipush (v := 8) hx hb dX7_findBest_67 (by decide) ?_
                  refine lv_icmp_ge (tgt := 122) hx hb dX7_findBest_69 (by decide) (fun c12 => ?_) (fun c12 => ?_)
                  · have ic12 := (xi_le c12 (by decide) rfl : 8 ≤ v10.toInt)
                    refine lv_aload_n hx hb dX7_findBest_122 rfl (lv_at hl 0 rfl) ?_
                    refine h_get (v := .int (I11 a0 9)) hx hb hts iX7 hown g t_a0 (by decide) so_8 rfl 9 (by decide) (hts (.fieldLink RX7 59 "CapLeague$RingSearch" "best" "I") (by decide +kernel)) rfl dX7_findBest_123 rfl ?_
                    refine lv_topi (fun v13 ev13 => ?_)
                    have jv13 := hI.rd a0 9 t_a0 ev13 (rfl : h_bd 8 9 = ((-2147483648), 2147483647))
                    refine lv_if_le (tgt := 136) hx hb dX7_findBest_126 (by decide) (fun c14 => ?_) (fun c14 => ?_)
                    · have ic14 := (xi_le c14 rfl (by decide) : v13.toInt ≤ 0)
                      refine lv_iconst (v := (-1)) hx hb dX7_findBest_136 (by decide) ?_
                      have hS := g.2.1
                      exact W.iret (v := (-1)) hx hb hr (fun t ht hW => ⟨⟨(-1), I11, rfl, ⟨hI, hF, trivial⟩, h_ret g ht⟩, hS.F ht⟩) hS.2.2 dX7_findBest_137
                    · have ic14 := (xi_nle c14 rfl (by decide) : 0 < v13.toInt)
                      refine lv_aload_n hx hb dX7_findBest_129 rfl (lv_at hl 0 rfl) ?_
                      refine h_get (v := .int v13) hx hb hts iX7 hown g t_a0 (by decide) so_8 rfl 9 (by decide) (hts (.fieldLink RX7 59 "CapLeague$RingSearch" "best" "I") (by decide +kernel)) rfl dX7_findBest_130 (congrArg Value.int (ev13.symm)) ?_
                      refine lv_goto (tgt := 137) hx hb dX7_findBest_133 (by decide) ?_
                      have hS := g.2.1
                      exact W.iret (v := v13) hx hb hr (fun t ht hW => ⟨⟨v13, I11, rfl, ⟨hI, hF, trivial⟩, h_ret g ht⟩, hS.F ht⟩) hS.2.2 dX7_findBest_137
                  · have ic12 := (xi_nle c12 (by decide) rfl : v10.toInt < 8)
                    refine lv_iload_n hx hb dX7_findBest_72 rfl (lv_at hl 1 rfl) ?_
                    refine lv_iconst (v := 1) hx hb dX7_findBest_73 (by decide) ?_
                    refine lv_iadd hx hb dX7_findBest_74 ?_
                    refine lv_topi (fun v15 ev15 => ?_)
                    have jv15 : v15.toInt = v10.toInt + 1 := xi_add ev15 rfl (by decide) (by omega) (by omega)
                    refine lv_istore_n (lv' := [(2, .int v15), (0, .ref a0), (1, .int v10)]) hx hb dX7_findBest_75 rfl hl (by decide) rfl (fun ls hl => ?_)
                    have loop76_3 : ∀ (n : Nat) (I17 : tI) (H : Heap) (locs : List Loc) (ls : Array Slot) (v16 : Int32), h_G h_so h_fk E A z I17 L0 s s.heap H locs → h_I z I17 → h_F [(803, 999), (802, 999), (804, 999), (805, 999), (2, 0), (2, 1), (2, 2), (2, 3), (808, 999), (807, 999), (856, 999), (8, 10), (811, 999), (812, 999), (8, 9)] z I0 I17 → lv_has ls 4 [(0, .ref a0), (1, .int v10), (2, .int v16)] → (1 ≤ v16.toInt ∧ v16.toInt ≤ 8) → (8 - v16.toInt) < (n : Int) → W pr_ l ev_ (headSpec wsX7_findBest ({ frames := 6, cells := 0, slots := 0, locals := 384 })).room s m ([.ref a0] : List Value).toArray below meth cd_ H locs 0 0 (MQ below (va_Qi (fun r (I1 : tI) => h_I z I1 ∧ h_F [(803, 999), (802, 999), (804, 999), (805, 999), (2, 0), (2, 1), (2, 2), (2, 3), (808, 999), (807, 999), (856, 999), (8, 10), (811, 999), (812, 999), (8, 9)] z I0 I1 ∧ True) (fun (I1 : tI) t => h_B E A z I1 L0 t) A) ([.ref a0] : List Value).toArray s 0 0 A) (F0 m 76 ls []) := by
                      intro n
                      induction n with
                      | zero => intro I17 H locs ls v16 g hI hF hl jv16 hn; exact absurd hn (by omega)
                      | succ n ih76 =>
                        intro I17 H locs ls v16 g hI hF hl jv16 hn
                        refine lv_iload_n hx hb dX7_findBest_76 rfl (lv_at hl 2 rfl) ?_
                        refine lv_bipush (v := 8) hx hb dX7_findBest_77 (by decide) ?_
                        refine lv_icmp_ge (tgt := 116) hx hb dX7_findBest_79 (by decide) (fun c18 => ?_) (fun c18 => ?_)
                        · have ic18 := (xi_le c18 (by decide) rfl : 8 ≤ v16.toInt)
                          obtain ⟨v19, ev19⟩ : ∃ z : Int32, z = v10 + 1 := ⟨_, rfl⟩
                          have jv19 : v19.toInt = v10.toInt + 1 := xi_add ev19 rfl (by decide) (by omega) (by omega)
                          refine lv_iinc (v := v19) (lv' := [(1, .int v19), (0, .ref a0), (2, .int v16)]) hx hb dX7_findBest_116 hl (k := 1) rfl (by rw [ev19]; rfl) (by decide) rfl (fun ls hl => ?_)
                          refine lv_goto (tgt := 66) hx hb dX7_findBest_119 (by decide) ?_
                          exact ih66 I17 _ _ _ v19 g hI hF (lv_sub hl [1, 0] rfl) (by omega) (by omega)
                        · have ic18 := (xi_nle c18 (by decide) rfl : v16.toInt < 8)
                          refine lv_iload_n hx hb dX7_findBest_82 rfl (lv_at hl 1 rfl) ?_
                          refine lv_iconst (v := 1) hx hb dX7_findBest_83 (by decide) ?_
                          refine lv_iadd hx hb dX7_findBest_84 ?_
                          refine xw_i (v := v15) ev15.symm ?_
                          refine lv_istore_n (lv' := [(3, .int v15), (0, .ref a0), (1, .int v10), (2, .int v16)]) hx hb dX7_findBest_85 rfl hl (by decide) rfl (fun ls hl => ?_)
                          have loop86_4 : ∀ (n : Nat) (I21 : tI) (H : Heap) (locs : List Loc) (ls : Array Slot) (v20 : Int32), h_G h_so h_fk E A z I21 L0 s s.heap H locs → h_I z I21 → h_F [(803, 999), (802, 999), (804, 999), (805, 999), (2, 0), (2, 1), (2, 2), (2, 3), (808, 999), (807, 999), (856, 999), (8, 10), (811, 999), (812, 999), (8, 9)] z I0 I21 → lv_has ls 4 [(0, .ref a0), (1, .int v10), (2, .int v16), (3, .int v20)] → (1 ≤ v20.toInt ∧ v20.toInt ≤ 8) → (8 - v20.toInt) < (n : Int) → W pr_ l ev_ (headSpec wsX7_findBest ({ frames := 6, cells := 0, slots := 0, locals := 384 })).room s m ([.ref a0] : List Value).toArray below meth cd_ H locs 0 0 (MQ below (va_Qi (fun r (I1 : tI) => h_I z I1 ∧ h_F [(803, 999), (802, 999), (804, 999), (805, 999), (2, 0), (2, 1), (2, 2), (2, 3), (808, 999), (807, 999), (856, 999), (8, 10), (811, 999), (812, 999), (8, 9)] z I0 I1 ∧ True) (fun (I1 : tI) t => h_B E A z I1 L0 t) A) ([.ref a0] : List Value).toArray s 0 0 A) (F0 m 86 ls []) := by
                            intro n
                            induction n with
                            | zero => intro I21 H locs ls v20 g hI hF hl jv20 hn; exact absurd hn (by omega)
                            | succ n ih86 =>
                              intro I21 H locs ls v20 g hI hF hl jv20 hn
                              refine lv_iload_n hx hb dX7_findBest_86 rfl (lv_at hl 3 rfl) ?_
                              refine lv_bipush (v := 8) hx hb dX7_findBest_87 (by decide) ?_
                              refine lv_icmp_ge (tgt := 110) hx hb dX7_findBest_89 (by decide) (fun c22 => ?_) (fun c22 => ?_)
                              · have ic22 := (xi_le c22 (by decide) rfl : 8 ≤ v20.toInt)
                                obtain ⟨v23, ev23⟩ : ∃ z : Int32, z = v16 + 1 := ⟨_, rfl⟩
                                have jv23 : v23.toInt = v16.toInt + 1 := xi_add ev23 rfl (by decide) (by omega) (by omega)
                                refine lv_iinc (v := v23) (lv' := [(2, .int v23), (0, .ref a0), (1, .int v10), (3, .int v20)]) hx hb dX7_findBest_110 hl (k := 2) rfl (by rw [ev23]; rfl) (by decide) rfl (fun ls hl => ?_)
                                refine lv_goto (tgt := 76) hx hb dX7_findBest_113 (by decide) ?_
                                exact ih76 I21 _ _ _ v23 g hI hF (lv_sub hl [1, 2, 0] rfl) (by omega) (by omega)
                              · have ic22 := (xi_nle c22 (by decide) rfl : v20.toInt < 8)
                                refine lv_iload_n hx hb dX7_findBest_92 rfl (lv_at hl 3 rfl) ?_
                                refine lv_iload_n hx hb dX7_findBest_93 rfl (lv_at hl 2 rfl) ?_
                                refine lv_icmp_eq (tgt := 104) hx hb dX7_findBest_94 (by decide) (fun c24 => ?_) (fun c24 => ?_)
                                · have ic24 := (xi_eq c24 rfl rfl : v20.toInt = v16.toInt)
                                  obtain ⟨v25, ev25⟩ : ∃ z : Int32, z = v20 + 1 := ⟨_, rfl⟩
                                  have jv25 : v25.toInt = v20.toInt + 1 := xi_add ev25 rfl (by decide) (by omega) (by omega)
                                  refine lv_iinc (v := v25) (lv' := [(3, .int v25), (0, .ref a0), (1, .int v10), (2, .int v16)]) hx hb dX7_findBest_104 hl (k := 3) rfl (by rw [ev25]; rfl) (by decide) rfl (fun ls hl => ?_)
                                  refine lv_goto (tgt := 86) hx hb dX7_findBest_107 (by decide) ?_
                                  exact ih86 I21 _ _ _ v25 g hI hF (lv_sub hl [1, 2, 3, 0] rfl) (by omega) (by omega)
                                · have ic24 := (xi_ne c24 rfl rfl : v20.toInt ≠ v16.toInt)
                                  refine lv_aload_n hx hb dX7_findBest_97 rfl (lv_at hl 0 rfl) ?_
                                  refine lv_iload_n hx hb dX7_findBest_98 rfl (lv_at hl 1 rfl) ?_
                                  refine lv_iload_n hx hb dX7_findBest_99 rfl (lv_at hl 2 rfl) ?_
                                  refine lv_iload_n hx hb dX7_findBest_100 rfl (lv_at hl 3 rfl) ?_
                                  refine va_callv (va_runV (As := [.int v10, .int v16, .int v20]) (rest := []) ⟨hx, hb, hml, hown, hts⟩ (tX7_tryThree l E X A z I21 L0 a0 t_a0 v10 (v10.toInt) rfl (by omega) v16 (v16.toInt) rfl (by omega) v20 (v20.toInt) rfl (by omega)) (cwV 3 hts gX7_findBest_X7_tryThree rfl rfl rfl (by decide +kernel) ⟨Nat.le_of_ble_eq_true rfl, Nat.le_of_ble_eq_true rfl⟩) ⟨h_blind _ _ _ _ _ _ _, h_recv g t_a0 (by decide) so_8 (q := (RX7, TX7, 13)) rfl, h_pre _ hE hk hX hA hI hR g⟩ rfl rfl hl.1 rfl (lv_room (Nat.le_of_ble_eq_true rfl)) dX7_findBest_101 ⟨Nat.le_of_ble_eq_true rfl, Nat.le_of_ble_eq_true rfl⟩) g.2.1 (fun q _ h => h) (fun q h => h) (fun I27 t H1 locs ht hvm h26 hB hz1 hk1 hS => ?_)
                                  obtain ⟨hI, fh26, h26⟩ := h26
                                  replace g := h_after g hB ht hS
                                  generalize H1 = H at g
                                  clear hB hk1 hz1 ht hvm hS
                                  have hF := hF.call fh26 rfl
                                  obtain ⟨v28, ev28⟩ : ∃ z : Int32, z = v20 + 1 := ⟨_, rfl⟩
                                  have jv28 : v28.toInt = v20.toInt + 1 := xi_add ev28 rfl (by decide) (by omega) (by omega)
                                  refine lv_iinc (v := v28) (lv' := [(3, .int v28), (0, .ref a0), (1, .int v10), (2, .int v16)]) hx hb dX7_findBest_104 hl (k := 3) rfl (by rw [ev28]; rfl) (by decide) rfl (fun ls hl => ?_)
                                  refine lv_goto (tgt := 86) hx hb dX7_findBest_107 (by decide) ?_
                                  exact ih86 I27 _ _ _ v28 g hI hF (lv_sub hl [1, 2, 3, 0] rfl) (by omega) (by omega)
                          exact loop86_4 _ I17 _ _ _ v15 g hI hF (lv_sub hl [1, 2, 3, 0] rfl) (by omega) (show (8 - v15.toInt) < (((8 - v15.toInt).toNat + 1 : Nat) : Int) by omega)
                    exact loop76_3 _ I11 _ _ _ v15 g hI hF (lv_sub hl [1, 2, 0] rfl) (by omega) (show (8 - v15.toInt) < (((8 - v15.toInt).toNat + 1 : Nat) : Int) by omega)
              exact loop66_2 _ I8 _ _ _ (0) g hI hF (lv_sub hl [1, 0] rfl) ⟨by decide, by decide⟩ (show (8 - (0 : Int)) < (((8 - (0 : Int)).toNat + 1 : Nat) : Int) by omega)
            · have ic9 := (xi_nle c9 (by decide) rfl : v7.toInt < 8)
              refine lv_iload_n hx hb dX7_findBest_36 rfl (lv_at hl 1 rfl) ?_
              refine lv_iconst (v := 1) hx hb dX7_findBest_37 (by decide) ?_
              refine lv_iadd hx hb dX7_findBest_38 ?_
              refine lv_topi (fun v29 ev29 => ?_)
              have jv29 : v29.toInt = v7.toInt + 1 := xi_add ev29 rfl (by decide) (by omega) (by omega)
              refine lv_istore_n (lv' := [(2, .int v29), (0, .ref a0), (1, .int v7)]) hx hb dX7_findBest_39 rfl hl (by decide) rfl (fun ls hl => ?_)
              have loop40_5 : ∀ (n : Nat) (I31 : tI) (H : Heap) (locs : List Loc) (ls : Array Slot) (v30 : Int32), h_G h_so h_fk E A z I31 L0 s s.heap H locs → h_I z I31 → h_F [(803, 999), (802, 999), (804, 999), (805, 999), (2, 0), (2, 1), (2, 2), (2, 3), (808, 999), (807, 999), (856, 999), (8, 10), (811, 999), (812, 999), (8, 9)] z I0 I31 → lv_has ls 4 [(0, .ref a0), (1, .int v7), (2, .int v30)] → (1 ≤ v30.toInt ∧ v30.toInt ≤ 8) → (8 - v30.toInt) < (n : Int) → W pr_ l ev_ (headSpec wsX7_findBest ({ frames := 6, cells := 0, slots := 0, locals := 384 })).room s m ([.ref a0] : List Value).toArray below meth cd_ H locs 0 0 (MQ below (va_Qi (fun r (I1 : tI) => h_I z I1 ∧ h_F [(803, 999), (802, 999), (804, 999), (805, 999), (2, 0), (2, 1), (2, 2), (2, 3), (808, 999), (807, 999), (856, 999), (8, 10), (811, 999), (812, 999), (8, 9)] z I0 I1 ∧ True) (fun (I1 : tI) t => h_B E A z I1 L0 t) A) ([.ref a0] : List Value).toArray s 0 0 A) (F0 m 40 ls []) := by
                intro n
                induction n with
                | zero => intro I31 H locs ls v30 g hI hF hl jv30 hn; exact absurd hn (by omega)
                | succ n ih40 =>
                  intro I31 H locs ls v30 g hI hF hl jv30 hn
                  refine lv_iload_n hx hb dX7_findBest_40 rfl (lv_at hl 2 rfl) ?_
                  refine lv_bipush (v := 8) hx hb dX7_findBest_41 (by decide) ?_
                  refine lv_icmp_ge (tgt := 58) hx hb dX7_findBest_43 (by decide) (fun c32 => ?_) (fun c32 => ?_)
                  · have ic32 := (xi_le c32 (by decide) rfl : 8 ≤ v30.toInt)
                    obtain ⟨v33, ev33⟩ : ∃ z : Int32, z = v7 + 1 := ⟨_, rfl⟩
                    have jv33 : v33.toInt = v7.toInt + 1 := xi_add ev33 rfl (by decide) (by omega) (by omega)
                    refine lv_iinc (v := v33) (lv' := [(1, .int v33), (0, .ref a0), (2, .int v30)]) hx hb dX7_findBest_58 hl (k := 1) rfl (by rw [ev33]; rfl) (by decide) rfl (fun ls hl => ?_)
                    refine lv_goto (tgt := 30) hx hb dX7_findBest_61 (by decide) ?_
                    exact ih30 I31 _ _ _ v33 g hI hF (lv_sub hl [1, 0] rfl) (by omega) (by omega)
                  · have ic32 := (xi_nle c32 (by decide) rfl : v30.toInt < 8)
                    refine lv_aload_n hx hb dX7_findBest_46 rfl (lv_at hl 0 rfl) ?_
                    refine lv_iload_n hx hb dX7_findBest_47 rfl (lv_at hl 1 rfl) ?_
                    refine lv_iload_n hx hb dX7_findBest_48 rfl (lv_at hl 2 rfl) ?_
                    refine va_callv (va_runV (As := [.int v7, .int v30]) (rest := []) ⟨hx, hb, hml, hown, hts⟩ (tX7_tryTwo l E X A z I31 L0 a0 t_a0 v7 (v7.toInt) rfl (by omega) v30 (v30.toInt) rfl (by omega)) (cwV 2 hts gX7_findBest_X7_tryTwo rfl rfl rfl (by decide +kernel) ⟨Nat.le_of_ble_eq_true rfl, Nat.le_of_ble_eq_true rfl⟩) ⟨h_blind _ _ _ _ _ _ _, h_recv g t_a0 (by decide) so_8 (q := (RX7, TX7, 13)) rfl, h_pre _ hE hk hX hA hI hR g⟩ rfl rfl hl.1 rfl (lv_room (Nat.le_of_ble_eq_true rfl)) dX7_findBest_49 ⟨Nat.le_of_ble_eq_true rfl, Nat.le_of_ble_eq_true rfl⟩) g.2.1 (fun q _ h => h) (fun q h => h) (fun I35 t H1 locs ht hvm h34 hB hz1 hk1 hS => ?_)
                    obtain ⟨hI, fh34, h34⟩ := h34
                    replace g := h_after g hB ht hS
                    generalize H1 = H at g
                    clear hB hk1 hz1 ht hvm hS
                    have hF := hF.call fh34 rfl
                    obtain ⟨v36, ev36⟩ : ∃ z : Int32, z = v30 + 1 := ⟨_, rfl⟩
                    have jv36 : v36.toInt = v30.toInt + 1 := xi_add ev36 rfl (by decide) (by omega) (by omega)
                    refine lv_iinc (v := v36) (lv' := [(2, .int v36), (0, .ref a0), (1, .int v7)]) hx hb dX7_findBest_52 hl (k := 2) rfl (by rw [ev36]; rfl) (by decide) rfl (fun ls hl => ?_)
                    refine lv_goto (tgt := 40) hx hb dX7_findBest_55 (by decide) ?_
                    exact ih40 I35 _ _ _ v36 g hI hF (lv_sub hl [1, 2, 0] rfl) (by omega) (by omega)
              exact loop40_5 _ I8 _ _ _ v29 g hI hF (lv_sub hl [1, 2, 0] rfl) (by omega) (show (8 - v29.toInt) < (((8 - v29.toInt).toNat + 1 : Nat) : Int) by omega)
        exact loop30_1 _ I6 _ _ _ (0) g hI hF (lv_sub hl [1, 0] rfl) ⟨by decide, by decide⟩ (show (8 - (0 : Int)) < (((8 - (0 : Int)).toNat + 1 : Nat) : Int) by omega)
      · have ic5 := (xi_nle c5 (by decide) rfl : v3.toInt < 8)
        refine lv_aload_n hx hb dX7_findBest_12 rfl (lv_at hl 0 rfl) ?_
        refine lv_iload_n hx hb dX7_findBest_13 rfl (lv_at hl 1 rfl) ?_
        refine va_callv (va_runV (As := [.int v3]) (rest := []) ⟨hx, hb, hml, hown, hts⟩ (tX7_findGains l E X A z I4 L0 a0 t_a0 v3 (v3.toInt) rfl (by omega)) (cwV 1 hts gX7_findBest_X7_findGains rfl rfl rfl (by decide +kernel) ⟨Nat.le_of_ble_eq_true rfl, Nat.le_of_ble_eq_true rfl⟩) ⟨h_blind _ _ _ _ _ _ _, h_recv g t_a0 (by decide) so_8 (q := (RX7, TX7, 13)) rfl, h_pre _ hE hk hX hA hI hR g⟩ rfl rfl hl.1 rfl (lv_room (Nat.le_of_ble_eq_true rfl)) dX7_findBest_14 ⟨Nat.le_of_ble_eq_true rfl, Nat.le_of_ble_eq_true rfl⟩) g.2.1 (fun q _ h => h) (fun q h => h) (fun I38 t H1 locs ht hvm h37 hB hz1 hk1 hS => ?_)
        obtain ⟨hI, fh37, h37⟩ := h37
        replace g := h_after g hB ht hS
        generalize H1 = H at g
        clear hB hk1 hz1 ht hvm hS
        have hF := hF.call fh37 rfl
        obtain ⟨v39, ev39⟩ : ∃ z : Int32, z = v3 + 1 := ⟨_, rfl⟩
        have jv39 : v39.toInt = v3.toInt + 1 := xi_add ev39 rfl (by decide) (by omega) (by omega)
        refine lv_iinc (v := v39) (lv' := [(1, .int v39), (0, .ref a0)]) hx hb dX7_findBest_17 hl (k := 1) rfl (by rw [ev39]; rfl) (by decide) rfl (fun ls hl => ?_)
        refine lv_goto (tgt := 6) hx hb dX7_findBest_20 (by decide) ?_
        exact ih6 I38 _ _ _ v39 g hI hF (lv_sub hl [1, 0] rfl) (by omega) (by omega)
  exact loop6_0 _ I2 _ _ _ (0) g hI hF (lv_sub hl [1, 0] rfl) ⟨by decide, by decide⟩ (show (8 - (0 : Int)) < (((8 - (0 : Int)).toNat + 1 : Nat) : Int) by omega)

