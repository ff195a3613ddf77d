set_option maxHeartbeats 4000000 in
set_option maxRecDepth 100000 in
theorem tX12_ringR (l : Launch) (E : tE) (X : tX) (A : Nat → Prop) (z : tZ) (I0 : tI) (L0 : tL) (a0 : Nat) (t_a0 : z.ty a0 = 13) (u_ : Nat → Int) (hmp : m_pre z I0 a0 u_) : Met l yX12_ring wsX12_ring ({ frames := 11, cells := 0, slots := 0, locals := 704 }) (va_Pc [.ref a0] (h_P E X A z I0 L0)) (va_Qi (fun r (I1 : tI) => h_I z I1 ∧ h_F [(13, 44), (13, 45), (1339, 999), (1340, 999), (1343, 999), (1342, 999), (13, 41), (1346, 999), (1347, 999)] z I0 I1 ∧ (((r_all (m_G z I0 a0 u_) (I0 (h_ad z a0 14)) (I0 a0 13).toInt.toNat).2 = [] ∧ r.toInt = -1 ∧ I1 a0 41 = I0 a0 41 ∧ (∀ k : Nat, I1 (h_ad z a0 46) k = I0 (h_ad z a0 46) k) ∧ ∀ k : Nat, I1 (h_ad z a0 47) k = I0 (h_ad z a0 47) k) ∨ ((r_all (m_G z I0 a0 u_) (I0 (h_ad z a0 14)) (I0 a0 13).toInt.toNat).2 ≠ [] ∧ r.toInt = (r_all (m_G z I0 a0 u_) (I0 (h_ad z a0 14)) (I0 a0 13).toInt.toNat).1 ∧ (I1 a0 41).toInt = ((r_all (m_G z I0 a0 u_) (I0 (h_ad z a0 14)) (I0 a0 13).toInt.toNat).2.length : Int) ∧ ∀ i : Nat, i < (r_all (m_G z I0 a0 u_) (I0 (h_ad z a0 14)) (I0 a0 13).toInt.toNat).2.length → (I1 (h_ad z a0 46) i).toInt = ((r_all (m_G z I0 a0 u_) (I0 (h_ad z a0 14)) (I0 a0 13).toInt.toNat).2.getD i (0, 0)).1 ∧ (I1 (h_ad z a0 47) i).toInt = ((((r_all (m_G z I0 a0 u_) (I0 (h_ad z a0 14)) (I0 a0 13).toInt.toNat).2.getD i (0, 0)).2 : Nat) : Int)))) (fun (I1 : tI) t => h_B E A z I1 L0 t) A) 0 0 A := by
  refine Met.ofW (cc := cX12_ring) (maxL := 4) (ret := (some .int)) (by decide) rfl ?_
  intro pr_ ev_ s m args below meth cd_ s₁ B hml hv
  obtain ⟨rfl, hE, hk, hX, hA, hK, hI, hR, hB0⟩ := hv
  have g : h_G h_so h_fk E A z I0 L0 s s.heap s.heap [] := ⟨hK, va_S.rf, hB0⟩
  have hF : h_F [(13, 44), (13, 45), (1339, 999), (1340, 999), (1343, 999), (1342, 999), (13, 41), (1346, 999), (1347, 999)] z I0 I0 := h_F.rf
  have hx := B.exec
  have hb := B.bytes
  have hr := B.returns
  have hts := atoms_spec (ws := wsX12_ring) B.pre
  have hown : s.vm.findClass RX12 = some m.cls := findClass_of_methodNamed B.named
  have hlocks := B.notSynchronized
  have iX12 : ∀ w ∈ u_ws RX12 TX12 51, w ∈ wsX12_ring := by decide +kernel
  have hl := lv_entry ([.ref a0]) (n := 4) (Nat.le_of_ble_eq_true rfl)
  rw [lg_entry_eq]
  generalize (lg_sl ([.ref a0]) ++ List.replicate (4 - (lg_sl ([.ref a0])).length) Slot.unset).toArray = ls at hl ⊢
  have hl : lv_has ls 4 [(0, .ref a0)] := hl
  obtain ⟨tc, rtc, ttc⟩ := hR.at a0 42 t_a0 (rfl : h_rs 13 42 = some (1342, false)) (by decide)
  have atc : h_ad z a0 42 = tc := h_ad.at rtc
  obtain ⟨tg, rtg, ttg⟩ := hR.at a0 43 t_a0 (rfl : h_rs 13 43 = some (1343, false)) (by decide)
  have atg : h_ad z a0 43 = tg := h_ad.at rtg
  obtain ⟨cb, rcb, tcb⟩ := hR.at a0 14 t_a0 (rfl : h_rs 13 14 = some (1314, false)) (by decide)
  have acb : h_ad z a0 14 = cb := h_ad.at rcb
  obtain ⟨rc, rrc, trc⟩ := hR.at a0 39 t_a0 (rfl : h_rs 13 39 = some (1339, false)) (by decide)
  have arc : h_ad z a0 39 = rc := h_ad.at rrc
  obtain ⟨rg, rrg, trg⟩ := hR.at a0 40 t_a0 (rfl : h_rs 13 40 = some (1340, false)) (by decide)
  have arg : h_ad z a0 40 = rg := h_ad.at rrg
  obtain ⟨td, rtd, ttd⟩ := hR.at a0 46 t_a0 (rfl : h_rs 13 46 = some (1346, false)) (by decide)
  have atd : h_ad z a0 46 = td := h_ad.at rtd
  obtain ⟨te, rte, tte⟩ := hR.at a0 47 t_a0 (rfl : h_rs 13 47 = some (1347, false)) (by decide)
  have ate : h_ad z a0 47 = te := h_ad.at rte
  obtain ⟨f0_12, ef0_12⟩ : ∃ v : Int32, v = I0 a0 12 := ⟨_, rfl⟩
  have qf0_12 : (I0 a0 12).toInt = f0_12.toInt := congrArg Int32.toInt ef0_12.symm
  have jf0_12 := hI.rd a0 12 t_a0 ef0_12 (rfl : h_bd 13 12 = (0, 9))
  obtain ⟨f0_13, ef0_13⟩ : ∃ v : Int32, v = I0 a0 13 := ⟨_, rfl⟩
  have qf0_13 : (I0 a0 13).toInt = f0_13.toInt := congrArg Int32.toInt ef0_13.symm
  have jf0_13 := hI.rd a0 13 t_a0 ef0_13 (rfl : h_bd 13 13 = (0, 60))
  obtain ⟨f0_41, ef0_41⟩ : ∃ v : Int32, v = I0 a0 41 := ⟨_, rfl⟩
  have qf0_41 : (I0 a0 41).toInt = f0_41.toInt := congrArg Int32.toInt ef0_41.symm
  have jf0_41 := hI.rd a0 41 t_a0 ef0_41 (rfl : h_bd 13 41 = (0, 3))
  obtain ⟨MG, eMG⟩ : ∃ f : Int → Nat → Nat → Int, f = m_G z I0 a0 u_ := ⟨_, rfl⟩
  obtain ⟨N, eN⟩ : ∃ n : Nat, n = f0_13.toInt.toNat := ⟨_, rfl⟩
  obtain ⟨CB, eCB⟩ : ∃ f : Nat → Int32, f = I0 cb := ⟨_, rfl⟩
  refine lv_aload_n hx hb dX12_ring_0 rfl (lv_at hl 0 rfl) ?_
  refine lv_iconst (v := 0) hx hb dX12_ring_1 (by decide) ?_
  refine h_putI (ty := .int) (v := 0) hx hb hts iX12 tyX12 tyX12_ok nmX12 hown g t_a0 (by decide) so_13 rfl 44 (by decide) rfl (hts (.fieldLink RX12 280 "CapLeagueModel" "bestSum" "I") (by decide +kernel)) rfl rfl (by decide +kernel) rfl rfl dX12_ring_2 (fun I1 H locs eI1 g => ?_)
  have hI := hI.wr eI1 t_a0 (rfl : h_bd 13 44 = ((-2147483648), 2147483647)) (by decide) (by decide)
  have hF := hF.wr eI1 t_a0 rfl
  refine lv_aload_n hx hb dX12_ring_5 rfl (lv_at hl 0 rfl) ?_
  refine lv_iconst (v := 0) hx hb dX12_ring_6 (by decide) ?_
  refine h_putI (ty := .int) (v := 0) hx hb hts iX12 tyX12 tyX12_ok nmX12 hown g t_a0 (by decide) so_13 rfl 45 (by decide) rfl (hts (.fieldLink RX12 286 "CapLeagueModel" "bestMany" "I") (by decide +kernel)) rfl rfl (by decide +kernel) rfl rfl dX12_ring_7 (fun I2 H locs eI2 g => ?_)
  have hI := hI.wr eI2 t_a0 (rfl : h_bd 13 45 = (0, 3)) (by decide) (by decide)
  have hF := hF.wr eI2 t_a0 rfl
  have hs00 : m_rs z I2 a0 (0, []) := by unfold m_rs; rw [(h_n2 eI2 (by decide)).trans (h_n0 eI1), h_n0 eI2]; exact ⟨by decide, by decide, fun i hi => absurd hi (Nat.not_lt_zero i)⟩
  refine lv_iconst (v := 0) hx hb dX12_ring_10 (by decide) ?_
  refine lv_istore_n (lv' := [(1, .int 0), (0, .ref a0)]) hx hb dX12_ring_11 rfl hl (by decide) rfl (fun ls hl => ?_)
  have loop12_0 : ∀ (n : Nat) (I4 : tI) (H : Heap) (locs : List Loc) (ls : Array Slot) (v3 : Int32), h_G h_so h_fk E A z I4 L0 s s.heap H locs → h_I z I4 → h_F [(13, 44), (13, 45), (1339, 999), (1340, 999), (1343, 999), (1342, 999), (13, 41), (1346, 999), (1347, 999)] z I0 I4 → lv_has ls 4 [(0, .ref a0), (1, .int v3)] → (0 ≤ v3.toInt ∧ v3.toInt ≤ 8) → h_F [(13, 44), (13, 45), (1339, 999), (1340, 999), (1343, 999), (1342, 999)] z I2 I4 → (m_rs z I4 a0 (r_up (fun (a : Int) (s : tS) => r_up (fun (b : Int) (s : tS) => r_two MG CB N a b s) (a + 1) (7 - a).toNat s) 0 (v3.toInt).toNat (0, []))) → (8 - v3.toInt) < (n : Int) → W pr_ l ev_ (headSpec wsX12_ring ({ frames := 11, cells := 0, slots := 0, locals := 704 })).room s m ([.ref a0] : List Value).toArray below meth cd_ H locs 0 0 (MQ below (va_Qi (fun r (I1 : tI) => h_I z I1 ∧ h_F [(13, 44), (13, 45), (1339, 999), (1340, 999), (1343, 999), (1342, 999), (13, 41), (1346, 999), (1347, 999)] z I0 I1 ∧ (((r_all (m_G z I0 a0 u_) (I0 (h_ad z a0 14)) (I0 a0 13).toInt.toNat).2 = [] ∧ r.toInt = -1 ∧ I1 a0 41 = I0 a0 41 ∧ (∀ k : Nat, I1 (h_ad z a0 46) k = I0 (h_ad z a0 46) k) ∧ ∀ k : Nat, I1 (h_ad z a0 47) k = I0 (h_ad z a0 47) k) ∨ ((r_all (m_G z I0 a0 u_) (I0 (h_ad z a0 14)) (I0 a0 13).toInt.toNat).2 ≠ [] ∧ r.toInt = (r_all (m_G z I0 a0 u_) (I0 (h_ad z a0 14)) (I0 a0 13).toInt.toNat).1 ∧ (I1 a0 41).toInt = ((r_all (m_G z I0 a0 u_) (I0 (h_ad z a0 14)) (I0 a0 13).toInt.toNat).2.length : Int) ∧ ∀ i : Nat, i < (r_all (m_G z I0 a0 u_) (I0 (h_ad z a0 14)) (I0 a0 13).toInt.toNat).2.length → (I1 (h_ad z a0 46) i).toInt = ((r_all (m_G z I0 a0 u_) (I0 (h_ad z a0 14)) (I0 a0 13).toInt.toNat).2.getD i (0, 0)).1 ∧ (I1 (h_ad z a0 47) i).toInt = ((((r_all (m_G z I0 a0 u_) (I0 (h_ad z a0 14)) (I0 a0 13).toInt.toNat).2.getD i (0, 0)).2 : Nat) : Int)))) (fun (I1 : tI) t => h_B E A z I1 L0 t) A) ([.ref a0] : List Value).toArray s 0 0 A) (F0 m 12 ls []) := by
    intro n
    induction n with
    | zero => intro I4 H locs ls v3 g hI hF hl jv3 hL12 hx12_0 hn; exact absurd hn (by omega)
    | succ n ih12 =>
      intro I4 H locs ls v3 g hI hF hl jv3 hL12 hx12_0 hn
      refine lv_iload_n hx hb dX12_ring_12 rfl (lv_at hl 1 rfl) ?_
      refine lv_bipush (v := 8) hx hb dX12_ring_13 (by decide) ?_
      refine lv_icmp_ge (tgt := 60) hx hb dX12_ring_15 (by decide) (fun c5 => ?_) (fun c5 => ?_)
      · have ic5 := (xi_le c5 (by decide) rfl : 8 ≤ v3.toInt)
        refine lv_iconst (v := 0) hx hb dX12_ring_60 (by decide) ?_
        refine lv_istore_n (lv' := [(1, .int 0), (0, .ref a0)]) hx hb dX12_ring_61 rfl hl (by decide) rfl (fun ls hl => ?_)
        have loop62_1 : ∀ (n : Nat) (I7 : tI) (H : Heap) (locs : List Loc) (ls : Array Slot) (v6 : Int32), h_G h_so h_fk E A z I7 L0 s s.heap H locs → h_I z I7 → h_F [(13, 44), (13, 45), (1339, 999), (1340, 999), (1343, 999), (1342, 999), (13, 41), (1346, 999), (1347, 999)] z I0 I7 → lv_has ls 4 [(0, .ref a0), (1, .int v6)] → (0 ≤ v6.toInt ∧ v6.toInt ≤ 8) → h_F [(13, 44), (13, 45), (1339, 999), (1340, 999), (1343, 999), (1342, 999)] z I4 I7 → (m_rs z I7 a0 (r_up (fun (a : Int) (s : tS) => r_up (fun (b : Int) (s : tS) => r_up (fun (c : Int) (s : tS) => if c = b then s else r_thr MG CB N a b c s) (a + 1) (7 - a).toNat s) (a + 1) (7 - a).toNat s) 0 (v6.toInt).toNat (r_al2 MG CB N (0, [])))) → (8 - v6.toInt) < (n : Int) → W pr_ l ev_ (headSpec wsX12_ring ({ frames := 11, cells := 0, slots := 0, locals := 704 })).room s m ([.ref a0] : List Value).toArray below meth cd_ H locs 0 0 (MQ below (va_Qi (fun r (I1 : tI) => h_I z I1 ∧ h_F [(13, 44), (13, 45), (1339, 999), (1340, 999), (1343, 999), (1342, 999), (13, 41), (1346, 999), (1347, 999)] z I0 I1 ∧ (((r_all (m_G z I0 a0 u_) (I0 (h_ad z a0 14)) (I0 a0 13).toInt.toNat).2 = [] ∧ r.toInt = -1 ∧ I1 a0 41 = I0 a0 41 ∧ (∀ k : Nat, I1 (h_ad z a0 46) k = I0 (h_ad z a0 46) k) ∧ ∀ k : Nat, I1 (h_ad z a0 47) k = I0 (h_ad z a0 47) k) ∨ ((r_all (m_G z I0 a0 u_) (I0 (h_ad z a0 14)) (I0 a0 13).toInt.toNat).2 ≠ [] ∧ r.toInt = (r_all (m_G z I0 a0 u_) (I0 (h_ad z a0 14)) (I0 a0 13).toInt.toNat).1 ∧ (I1 a0 41).toInt = ((r_all (m_G z I0 a0 u_) (I0 (h_ad z a0 14)) (I0 a0 13).toInt.toNat).2.length : Int) ∧ ∀ i : Nat, i < (r_all (m_G z I0 a0 u_) (I0 (h_ad z a0 14)) (I0 a0 13).toInt.toNat).2.length → (I1 (h_ad z a0 46) i).toInt = ((r_all (m_G z I0 a0 u_) (I0 (h_ad z a0 14)) (I0 a0 13).toInt.toNat).2.getD i (0, 0)).1 ∧ (I1 (h_ad z a0 47) i).toInt = ((((r_all (m_G z I0 a0 u_) (I0 (h_ad z a0 14)) (I0 a0 13).toInt.toNat).2.getD i (0, 0)).2 : Nat) : Int)))) (fun (I1 : tI) t => h_B E A z I1 L0 t) A) ([.ref a0] : List Value).toArray s 0 0 A) (F0 m 62 ls []) := by
          intro n
          induction n with
          | zero => intro I7 H locs ls v6 g hI hF hl jv6 hL62 hx62_0 hn; exact absurd hn (by omega)
          | succ n ih62 =>
            intro I7 H locs ls v6 g hI hF hl jv6 hL62 hx62_0 hn
            refine lv_iload_n hx hb dX12_ring_62 rfl (lv_at hl 1 rfl) ?_
            refine lv_bipush (v := 8) hx hb dX12_ring_63 (by decide) ?_
            refine lv_icmp_ge (tgt := 141) hx hb dX12_ring_65 (by decide) (fun c8 => ?_) (fun c8 => ?_)
            · have ic8 := (xi_le c8 (by decide) rfl : 8 ≤ v6.toInt)
              have hsA := hx62_0
              rw [show (v6.toInt).toNat = 8 by omega, r_al3_e, r_all_e] at hsA
              have hok := r_ok_all (g := MG) (cb := CB) (n := N)
              obtain ⟨R, eR⟩ : ∃ t : tS, t = r_all MG CB N := ⟨_, rfl⟩
              rw [← eR] at hsA hok
              unfold m_rs at hsA
              rw [arc, arg] at hsA
              obtain ⟨hsA1, hsA2, hsA3⟩ := hsA
              obtain ⟨v9, ev9⟩ : ∃ v : Int32, v = I7 a0 45 := ⟨_, rfl⟩
              rw [← ev9] at hsA2
              have jv9 := hI.rd a0 45 t_a0 ev9 (rfl : h_bd 13 45 = (0, 3))
              obtain ⟨v10, ev10⟩ : ∃ v : Int32, v = I7 a0 44 := ⟨_, rfl⟩
              rw [← ev10] at hsA1
              refine lv_aload_n hx hb dX12_ring_141 rfl (lv_at hl 0 rfl) ?_
              refine h_get (v := .int v9) hx hb hts iX12 hown g t_a0 (by decide) so_13 rfl 45 (by decide) (hts (.fieldLink RX12 286 "CapLeagueModel" "bestMany" "I") (by decide +kernel)) rfl dX12_ring_142 (congrArg Value.int (ev9.symm)) ?_
              refine lv_if_ne (tgt := 150) hx hb dX12_ring_145 (by decide) (fun c11 => ?_) (fun c11 => ?_)
              · have ic11 := (xi_ne c11 rfl (by decide) : v9.toInt ≠ 0)
                refine lv_aload_n hx hb dX12_ring_150 rfl (lv_at hl 0 rfl) ?_
                refine lv_aload_n hx hb dX12_ring_151 rfl (lv_at hl 0 rfl) ?_
                refine h_get (v := .int v9) hx hb hts iX12 hown g t_a0 (by decide) so_13 rfl 45 (by decide) (hts (.fieldLink RX12 286 "CapLeagueModel" "bestMany" "I") (by decide +kernel)) rfl dX12_ring_152 (congrArg Value.int (ev9.symm)) ?_
                refine h_putI (ty := .int) (v := v9) hx hb hts iX12 tyX12 tyX12_ok nmX12 hown g t_a0 (by decide) so_13 rfl 41 (by decide) rfl (hts (.fieldLink RX12 297 "CapLeagueModel" "ringMany" "I") (by decide +kernel)) rfl rfl (by decide +kernel) rfl rfl dX12_ring_155 (fun I12 H locs eI12 g => ?_)
                have hI := hI.wr eI12 t_a0 (rfl : h_bd 13 41 = (0, 3)) (by omega) (by omega)
                have hF := hF.wr eI12 t_a0 rfl
                refine lv_iconst (v := 0) hx hb dX12_ring_158 (by decide) ?_
                refine lv_istore_n (lv' := [(1, .int 0), (0, .ref a0)]) hx hb dX12_ring_159 rfl hl (by decide) rfl (fun ls hl => ?_)
                refine lv_iload_n hx hb dX12_ring_160 rfl (lv_at hl 0 rfl) ?_
                refine lv_iconst (v := 3) hx hb dX12_ring_161 (by decide) ?_
                refine lv_icmp_ge (tgt := 195) hx hb dX12_ring_162 (by decide) (fun h => absurd h (by decide)) (fun _ => ?_)
                refine lv_aload_n hx hb dX12_ring_165 rfl (lv_at hl 1 rfl) ?_
                refine h_get (v := .ref td) hx hb hts iX12 hown g t_a0 (by decide) so_13 rfl 46 (by decide) (hts (.fieldLink RX12 103 "CapLeagueModel" "toldClub" "[I") (by decide +kernel)) rfl dX12_ring_166 (by show va_rf (z.R a0 46) = _; rw [rtd]; rfl) ?_
                refine lv_iload_n hx hb dX12_ring_169 rfl (lv_at hl 0 rfl) ?_
                refine lv_aload_n hx hb dX12_ring_170 rfl (lv_at hl 1 rfl) ?_
                refine h_get (v := .ref rc) hx hb hts iX12 hown g t_a0 (by decide) so_13 rfl 39 (by decide) (hts (.fieldLink RX12 91 "CapLeagueModel" "ringClub" "[I") (by decide +kernel)) rfl dX12_ring_171 (by show va_rf (z.R a0 39) = _; rw [rrc]; rfl) ?_
                refine lv_iload_n hx hb dX12_ring_174 rfl (lv_at hl 0 rfl) ?_
                refine h_ald hx hb g trc (by decide) so_1339 (by unfold vp_in; decide) dX12_ring_175 ?_
                refine lv_topi (fun v14 ev14 => ?_)
                have jv14 := hI.rd rc (0 : Int32).toNatClampNeg trc ev14 (rfl : h_bd 1339 _ = ((-2147483648), 2147483647))
                refine h_ast hx hb g ttd (by decide) so_1346 (by unfold vp_in; decide) dX12_ring_176 (fun I15 H locs eI15 g => ?_)
                have hI := hI.wr eI15 ttd (rfl : h_bd 1346 _ = ((-2147483648), 2147483647)) (xi_lo _) (Int.le_of_lt_add_one (xi_hi _))
                have hF := hF.wr eI15 ttd rfl
                refine lv_aload_n hx hb dX12_ring_177 rfl (lv_at hl 1 rfl) ?_
                refine h_get (v := .ref te) hx hb hts iX12 hown g t_a0 (by decide) so_13 rfl 47 (by decide) (hts (.fieldLink RX12 106 "CapLeagueModel" "toldGives" "[I") (by decide +kernel)) rfl dX12_ring_178 (by show va_rf (z.R a0 47) = _; rw [rte]; rfl) ?_
                refine lv_iload_n hx hb dX12_ring_181 rfl (lv_at hl 0 rfl) ?_
                refine lv_aload_n hx hb dX12_ring_182 rfl (lv_at hl 1 rfl) ?_
                refine h_get (v := .ref rg) hx hb hts iX12 hown g t_a0 (by decide) so_13 rfl 40 (by decide) (hts (.fieldLink RX12 94 "CapLeagueModel" "ringGives" "[I") (by decide +kernel)) rfl dX12_ring_183 (by show va_rf (z.R a0 40) = _; rw [rrg]; rfl) ?_
                refine lv_iload_n hx hb dX12_ring_186 rfl (lv_at hl 0 rfl) ?_
                refine h_ald hx hb g trg (by decide) so_1340 (by unfold vp_in; decide) dX12_ring_187 ?_
                refine lv_topi (fun v16 ev16 => ?_)
                have jv16 := hI.rd rg (0 : Int32).toNatClampNeg trg ev16 (rfl : h_bd 1340 _ = ((-2147483648), 2147483647))
                refine h_ast hx hb g tte (by decide) so_1347 (by unfold vp_in; decide) dX12_ring_188 (fun I17 H locs eI17 g => ?_)
                have hI := hI.wr eI17 tte (rfl : h_bd 1347 _ = ((-2147483648), 2147483647)) (xi_lo _) (Int.le_of_lt_add_one (xi_hi _))
                have hF := hF.wr eI17 tte rfl
                refine lv_iinc (v := 1) (lv' := [(1, .int 1), (0, .ref a0)]) hx hb dX12_ring_189 hl (k := 0) rfl (by decide) (by decide) rfl (fun ls hl => ?_)
                refine lv_goto (tgt := 160) hx hb dX12_ring_192 (by decide) ?_
                refine lv_iload_n hx hb dX12_ring_160 rfl (lv_at hl 0 rfl) ?_
                refine lv_iconst (v := 3) hx hb dX12_ring_161 (by decide) ?_
                refine lv_icmp_ge (tgt := 195) hx hb dX12_ring_162 (by decide) (fun h => absurd h (by decide)) (fun _ => ?_)
                refine lv_aload_n hx hb dX12_ring_165 rfl (lv_at hl 1 rfl) ?_
                refine h_get (v := .ref td) hx hb hts iX12 hown g t_a0 (by decide) so_13 rfl 46 (by decide) (hts (.fieldLink RX12 103 "CapLeagueModel" "toldClub" "[I") (by decide +kernel)) rfl dX12_ring_166 (by show va_rf (z.R a0 46) = _; rw [rtd]; rfl) ?_
                refine lv_iload_n hx hb dX12_ring_169 rfl (lv_at hl 0 rfl) ?_
                refine lv_aload_n hx hb dX12_ring_170 rfl (lv_at hl 1 rfl) ?_
                refine h_get (v := .ref rc) hx hb hts iX12 hown g t_a0 (by decide) so_13 rfl 39 (by decide) (hts (.fieldLink RX12 91 "CapLeagueModel" "ringClub" "[I") (by decide +kernel)) rfl dX12_ring_171 (by show va_rf (z.R a0 39) = _; rw [rrc]; rfl) ?_
                refine lv_iload_n hx hb dX12_ring_174 rfl (lv_at hl 0 rfl) ?_
                refine h_ald hx hb g trc (by decide) so_1339 (by unfold vp_in; decide) dX12_ring_175 ?_
                refine lv_topi (fun v19 ev19 => ?_)
                have jv19 := hI.rd rc (1 : Int32).toNatClampNeg trc ev19 (rfl : h_bd 1339 _ = ((-2147483648), 2147483647))
                refine h_ast hx hb g ttd (by decide) so_1346 (by unfold vp_in; decide) dX12_ring_176 (fun I20 H locs eI20 g => ?_)
                have hI := hI.wr eI20 ttd (rfl : h_bd 1346 _ = ((-2147483648), 2147483647)) (xi_lo _) (Int.le_of_lt_add_one (xi_hi _))
                have hF := hF.wr eI20 ttd rfl
                refine lv_aload_n hx hb dX12_ring_177 rfl (lv_at hl 1 rfl) ?_
                refine h_get (v := .ref te) hx hb hts iX12 hown g t_a0 (by decide) so_13 rfl 47 (by decide) (hts (.fieldLink RX12 106 "CapLeagueModel" "toldGives" "[I") (by decide +kernel)) rfl dX12_ring_178 (by show va_rf (z.R a0 47) = _; rw [rte]; rfl) ?_
                refine lv_iload_n hx hb dX12_ring_181 rfl (lv_at hl 0 rfl) ?_
                refine lv_aload_n hx hb dX12_ring_182 rfl (lv_at hl 1 rfl) ?_
                refine h_get (v := .ref rg) hx hb hts iX12 hown g t_a0 (by decide) so_13 rfl 40 (by decide) (hts (.fieldLink RX12 94 "CapLeagueModel" "ringGives" "[I") (by decide +kernel)) rfl dX12_ring_183 (by show va_rf (z.R a0 40) = _; rw [rrg]; rfl) ?_
                refine lv_iload_n hx hb dX12_ring_186 rfl (lv_at hl 0 rfl) ?_
                refine h_ald hx hb g trg (by decide) so_1340 (by unfold vp_in; decide) dX12_ring_187 ?_
                refine lv_topi (fun v21 ev21 => ?_)
                have jv21 := hI.rd rg (1 : Int32).toNatClampNeg trg ev21 (rfl : h_bd 1340 _ = ((-2147483648), 2147483647))
                refine h_ast hx hb g tte (by decide) so_1347 (by unfold vp_in; decide) dX12_ring_188 (fun I22 H locs eI22 g => ?_)
                have hI := hI.wr eI22 tte (rfl : h_bd 1347 _ = ((-2147483648), 2147483647)) (xi_lo _) (Int.le_of_lt_add_one (xi_hi _))
                have hF := hF.wr eI22 tte rfl
                refine lv_iinc (v := 2) (lv' := [(1, .int 2), (0, .ref a0)]) hx hb dX12_ring_189 hl (k := 0) rfl (by decide) (by decide) rfl (fun ls hl => ?_)
                refine lv_goto (tgt := 160) hx hb dX12_ring_192 (by decide) ?_
                refine lv_iload_n hx hb dX12_ring_160 rfl (lv_at hl 0 rfl) ?_
                refine lv_iconst (v := 3) hx hb dX12_ring_161 (by decide) ?_
                refine lv_icmp_ge (tgt := 195) hx hb dX12_ring_162 (by decide) (fun h => absurd h (by decide)) (fun _ => ?_)
                refine lv_aload_n hx hb dX12_ring_165 rfl (lv_at hl 1 rfl) ?_
                refine h_get (v := .ref td) hx hb hts iX12 hown g t_a0 (by decide) so_13 rfl 46 (by decide) (hts (.fieldLink RX12 103 "CapLeagueModel" "toldClub" "[I") (by decide +kernel)) rfl dX12_ring_166 (by show va_rf (z.R a0 46) = _; rw [rtd]; rfl) ?_
                refine lv_iload_n hx hb dX12_ring_169 rfl (lv_at hl 0 rfl) ?_
                refine lv_aload_n hx hb dX12_ring_170 rfl (lv_at hl 1 rfl) ?_
                refine h_get (v := .ref rc) hx hb hts iX12 hown g t_a0 (by decide) so_13 rfl 39 (by decide) (hts (.fieldLink RX12 91 "CapLeagueModel" "ringClub" "[I") (by decide +kernel)) rfl dX12_ring_171 (by show va_rf (z.R a0 39) = _; rw [rrc]; rfl) ?_
                refine lv_iload_n hx hb dX12_ring_174 rfl (lv_at hl 0 rfl) ?_
                refine h_ald hx hb g trc (by decide) so_1339 (by unfold vp_in; decide) dX12_ring_175 ?_
                refine lv_topi (fun v24 ev24 => ?_)
                have jv24 := hI.rd rc (2 : Int32).toNatClampNeg trc ev24 (rfl : h_bd 1339 _ = ((-2147483648), 2147483647))
                refine h_ast hx hb g ttd (by decide) so_1346 (by unfold vp_in; decide) dX12_ring_176 (fun I25 H locs eI25 g => ?_)
                have hI := hI.wr eI25 ttd (rfl : h_bd 1346 _ = ((-2147483648), 2147483647)) (xi_lo _) (Int.le_of_lt_add_one (xi_hi _))
                have hF := hF.wr eI25 ttd rfl
                refine lv_aload_n hx hb dX12_ring_177 rfl (lv_at hl 1 rfl) ?_
                refine h_get (v := .ref te) hx hb hts iX12 hown g t_a0 (by decide) so_13 rfl 47 (by decide) (hts (.fieldLink RX12 106 "CapLeagueModel" "toldGives" "[I") (by decide +kernel)) rfl dX12_ring_178 (by show va_rf (z.R a0 47) = _; rw [rte]; rfl) ?_
                refine lv_iload_n hx hb dX12_ring_181 rfl (lv_at hl 0 rfl) ?_
                refine lv_aload_n hx hb dX12_ring_182 rfl (lv_at hl 1 rfl) ?_
                refine h_get (v := .ref rg) hx hb hts iX12 hown g t_a0 (by decide) so_13 rfl 40 (by decide) (hts (.fieldLink RX12 94 "CapLeagueModel" "ringGives" "[I") (by decide +kernel)) rfl dX12_ring_183 (by show va_rf (z.R a0 40) = _; rw [rrg]; rfl) ?_
                refine lv_iload_n hx hb dX12_ring_186 rfl (lv_at hl 0 rfl) ?_
                refine h_ald hx hb g trg (by decide) so_1340 (by unfold vp_in; decide) dX12_ring_187 ?_
                refine lv_topi (fun v26 ev26 => ?_)
                have jv26 := hI.rd rg (2 : Int32).toNatClampNeg trg ev26 (rfl : h_bd 1340 _ = ((-2147483648), 2147483647))
                refine h_ast hx hb g tte (by decide) so_1347 (by unfold vp_in; decide) dX12_ring_188 (fun I27 H locs eI27 g => ?_)
                have hI := hI.wr eI27 tte (rfl : h_bd 1347 _ = ((-2147483648), 2147483647)) (xi_lo _) (Int.le_of_lt_add_one (xi_hi _))
                have hF := hF.wr eI27 tte rfl
                refine lv_iinc (v := 3) (lv' := [(1, .int 3), (0, .ref a0)]) hx hb dX12_ring_189 hl (k := 0) rfl (by decide) (by decide) rfl (fun ls hl => ?_)
                refine lv_goto (tgt := 160) hx hb dX12_ring_192 (by decide) ?_
                refine lv_iload_n hx hb dX12_ring_160 rfl (lv_at hl 0 rfl) ?_
                refine lv_iconst (v := 3) hx hb dX12_ring_161 (by decide) ?_
                refine lv_icmp_ge (tgt := 195) hx hb dX12_ring_162 (by decide) (fun _ => ?_) (fun h => absurd (by decide) h)
                refine lv_aload_n hx hb dX12_ring_195 rfl (lv_at hl 1 rfl) ?_
                refine h_get (v := .int v10) hx hb hts iX12 hown g t_a0 (by decide) so_13 rfl 44 (by decide) (hts (.fieldLink RX12 280 "CapLeagueModel" "bestSum" "I") (by decide +kernel)) rfl dX12_ring_196 (congrArg Value.int ((h_n1 eI27 t_a0 tte (by decide)).trans ((h_n1 eI25 t_a0 ttd (by decide)).trans ((h_n1 eI22 t_a0 tte (by decide)).trans ((h_n1 eI20 t_a0 ttd (by decide)).trans ((h_n1 eI17 t_a0 tte (by decide)).trans ((h_n1 eI15 t_a0 ttd (by decide)).trans ((h_n2 eI12 (by decide)).trans (ev10.symm))))))))) ?_
                have hS := g.2.1
                exact W.iret (v := v10) hx hb hr (fun t ht hW => ⟨⟨v10, I27, rfl, ⟨hI, hF, (by rw [acb, ← ef0_13, ← eN, ← eCB, ← eMG, ← eR, atd, ate]; have ln : R.2.length ≤ 3 ∧ (R.2 = [] → R.2.length = 0) ∧ (R.2.length = 0 → R.2 = []) := ⟨by rcases hok with q | q; (rw [q.2]; decide); exact q.2.2, fun q => by rw [q]; rfl, List.eq_nil_of_length_eq_zero⟩; exact Or.inr ⟨fun q => absurd (ln.2.1 q) (by omega), by omega, by rw [(h_n1 eI27 t_a0 tte (by decide)).trans ((h_n1 eI25 t_a0 ttd (by decide)).trans ((h_n1 eI22 t_a0 tte (by decide)).trans ((h_n1 eI20 t_a0 ttd (by decide)).trans ((h_n1 eI17 t_a0 tte (by decide)).trans ((h_n1 eI15 t_a0 ttd (by decide)).trans (h_n0 eI12))))))]; omega, fun i hi => by rcases (show i = 0 ∨ i = 1 ∨ i = 2 by omega) with rfl | rfl | rfl; exact ⟨by have h9 := ((h_n1 eI27 ttd tte (by decide)).trans ((h_n2 eI25 (by decide)).trans ((h_n1 eI22 ttd tte (by decide)).trans ((h_n2 eI20 (by decide)).trans ((h_n1 eI17 ttd tte (by decide)).trans (h_n0 eI15)))))).trans (ev14.trans (h_n1 eI12 trc t_a0 (by decide))); rw [show (0 : Int32).toNatClampNeg = 0 by decide] at h9; rw [h9]; exact (hsA3 0 hi).1, by have h9 := ((h_n2 eI27 (by decide)).trans ((h_n1 eI25 tte ttd (by decide)).trans ((h_n2 eI22 (by decide)).trans ((h_n1 eI20 tte ttd (by decide)).trans (h_n0 eI17))))).trans (ev16.trans ((h_n1 eI15 trg ttd (by decide)).trans (h_n1 eI12 trg t_a0 (by decide)))); rw [show (0 : Int32).toNatClampNeg = 0 by decide] at h9; rw [h9]; exact (hsA3 0 hi).2⟩; exact ⟨by have h9 := ((h_n1 eI27 ttd tte (by decide)).trans ((h_n2 eI25 (by decide)).trans ((h_n1 eI22 ttd tte (by decide)).trans (h_n0 eI20)))).trans (ev19.trans ((h_n1 eI17 trc tte (by decide)).trans ((h_n1 eI15 trc ttd (by decide)).trans (h_n1 eI12 trc t_a0 (by decide))))); rw [show (1 : Int32).toNatClampNeg = 1 by decide] at h9; rw [h9]; exact (hsA3 1 hi).1, by have h9 := ((h_n2 eI27 (by decide)).trans ((h_n1 eI25 tte ttd (by decide)).trans (h_n0 eI22))).trans (ev21.trans ((h_n1 eI20 trg ttd (by decide)).trans ((h_n1 eI17 trg tte (by decide)).trans ((h_n1 eI15 trg ttd (by decide)).trans (h_n1 eI12 trg t_a0 (by decide)))))); rw [show (1 : Int32).toNatClampNeg = 1 by decide] at h9; rw [h9]; exact (hsA3 1 hi).2⟩; exact ⟨by have h9 := ((h_n1 eI27 ttd tte (by decide)).trans (h_n0 eI25)).trans (ev24.trans ((h_n1 eI22 trc tte (by decide)).trans ((h_n1 eI20 trc ttd (by decide)).trans ((h_n1 eI17 trc tte (by decide)).trans ((h_n1 eI15 trc ttd (by decide)).trans (h_n1 eI12 trc t_a0 (by decide))))))); rw [show (2 : Int32).toNatClampNeg = 2 by decide] at h9; rw [h9]; exact (hsA3 2 hi).1, by have h9 := (h_n0 eI27).trans (ev26.trans ((h_n1 eI25 trg ttd (by decide)).trans ((h_n1 eI22 trg tte (by decide)).trans ((h_n1 eI20 trg ttd (by decide)).trans ((h_n1 eI17 trg tte (by decide)).trans ((h_n1 eI15 trg ttd (by decide)).trans (h_n1 eI12 trg t_a0 (by decide)))))))); rw [show (2 : Int32).toNatClampNeg = 2 by decide] at h9; rw [h9]; exact (hsA3 2 hi).2⟩⟩)⟩, h_ret g ht⟩, hS.F ht⟩) hS.2.2 dX12_ring_199
              · have ic11 := (xi_eq c11 rfl (by decide) : v9.toInt = 0)
                refine lv_iconst (v := (-1)) hx hb dX12_ring_148 (by decide) ?_
                have hS := g.2.1
                exact W.iret (v := (-1)) hx hb hr (fun t ht hW => ⟨⟨(-1), I7, rfl, ⟨hI, hF, (by rw [acb, ← ef0_13, ← eN, ← eCB, ← eMG, ← eR, atd, ate]; have ln : R.2.length ≤ 3 ∧ (R.2 = [] → R.2.length = 0) ∧ (R.2.length = 0 → R.2 = []) := ⟨by rcases hok with q | q; (rw [q.2]; decide); exact q.2.2, fun q => by rw [q]; rfl, List.eq_nil_of_length_eq_zero⟩; exact Or.inl ⟨ln.2.2 (by omega), by decide, ((h_F.at hL62 t_a0 rfl).trans ((h_F.at hL12 t_a0 rfl).trans ((h_n2 eI2 (by decide)).trans ((h_n2 eI1 (by decide)).trans (ef0_41.symm))))).trans ef0_41, (fun k => (h_F.at hL62 ttd rfl).trans ((h_F.at hL12 ttd rfl).trans ((h_n1 eI2 ttd t_a0 (by decide)).trans (h_n1 eI1 ttd t_a0 (by decide))))), fun k => (h_F.at hL62 tte rfl).trans ((h_F.at hL12 tte rfl).trans ((h_n1 eI2 tte t_a0 (by decide)).trans (h_n1 eI1 tte t_a0 (by decide))))⟩)⟩, h_ret g ht⟩, hS.F ht⟩) hS.2.2 dX12_ring_149
            · have ic8 := (xi_nle c8 (by decide) rfl : v6.toInt < 8)
              refine lv_iload_n hx hb dX12_ring_68 rfl (lv_at hl 1 rfl) ?_
              refine lv_iconst (v := 1) hx hb dX12_ring_69 (by decide) ?_
              refine lv_iadd hx hb dX12_ring_70 ?_
              refine lv_topi (fun v29 ev29 => ?_)
              have jv29 : v29.toInt = v6.toInt + 1 := xi_add ev29 rfl (by decide) (by omega) (by omega)
              refine lv_istore_n (lv' := [(2, .int v29), (0, .ref a0), (1, .int v6)]) hx hb dX12_ring_71 rfl hl (by decide) rfl (fun ls hl => ?_)
              have loop72_2 : ∀ (n : Nat) (I31 : tI) (H : Heap) (locs : List Loc) (ls : Array Slot) (v30 : Int32), h_G h_so h_fk E A z I31 L0 s s.heap H locs → h_I z I31 → h_F [(13, 44), (13, 45), (1339, 999), (1340, 999), (1343, 999), (1342, 999), (13, 41), (1346, 999), (1347, 999)] z I0 I31 → lv_has ls 4 [(0, .ref a0), (1, .int v6), (2, .int v30)] → (1 ≤ v30.toInt ∧ v30.toInt ≤ 8) → h_F [(13, 44), (13, 45), (1339, 999), (1340, 999), (1343, 999), (1342, 999)] z I7 I31 → (m_rs z I31 a0 (r_up (fun (b : Int) (s : tS) => r_up (fun (c : Int) (s : tS) => if c = b then s else r_thr MG CB N v6.toInt b c s) (v6.toInt + 1) (7 - v6.toInt).toNat s) (v6.toInt + 1) (v30.toInt - v6.toInt - 1).toNat (r_up (fun (a : Int) (s : tS) => r_up (fun (b : Int) (s : tS) => r_up (fun (c : Int) (s : tS) => if c = b then s else r_thr MG CB N a b c s) (a + 1) (7 - a).toNat s) (a + 1) (7 - a).toNat s) 0 (v6.toInt).toNat (r_al2 MG CB N (0, []))))) → (v6.toInt + 1 ≤ v30.toInt) → (8 - v30.toInt) < (n : Int) → W pr_ l ev_ (headSpec wsX12_ring ({ frames := 11, cells := 0, slots := 0, locals := 704 })).room s m ([.ref a0] : List Value).toArray below meth cd_ H locs 0 0 (MQ below (va_Qi (fun r (I1 : tI) => h_I z I1 ∧ h_F [(13, 44), (13, 45), (1339, 999), (1340, 999), (1343, 999), (1342, 999), (13, 41), (1346, 999), (1347, 999)] z I0 I1 ∧ (((r_all (m_G z I0 a0 u_) (I0 (h_ad z a0 14)) (I0 a0 13).toInt.toNat).2 = [] ∧ r.toInt = -1 ∧ I1 a0 41 = I0 a0 41 ∧ (∀ k : Nat, I1 (h_ad z a0 46) k = I0 (h_ad z a0 46) k) ∧ ∀ k : Nat, I1 (h_ad z a0 47) k = I0 (h_ad z a0 47) k) ∨ ((r_all (m_G z I0 a0 u_) (I0 (h_ad z a0 14)) (I0 a0 13).toInt.toNat).2 ≠ [] ∧ r.toInt = (r_all (m_G z I0 a0 u_) (I0 (h_ad z a0 14)) (I0 a0 13).toInt.toNat).1 ∧ (I1 a0 41).toInt = ((r_all (m_G z I0 a0 u_) (I0 (h_ad z a0 14)) (I0 a0 13).toInt.toNat).2.length : Int) ∧ ∀ i : Nat, i < (r_all (m_G z I0 a0 u_) (I0 (h_ad z a0 14)) (I0 a0 13).toInt.toNat).2.length → (I1 (h_ad z a0 46) i).toInt = ((r_all (m_G z I0 a0 u_) (I0 (h_ad z a0 14)) (I0 a0 13).toInt.toNat).2.getD i (0, 0)).1 ∧ (I1 (h_ad z a0 47) i).toInt = ((((r_all (m_G z I0 a0 u_) (I0 (h_ad z a0 14)) (I0 a0 13).toInt.toNat).2.getD i (0, 0)).2 : Nat) : Int)))) (fun (I1 : tI) t => h_B E A z I1 L0 t) A) ([.ref a0] : List Value).toArray s 0 0 A) (F0 m 72 ls []) := by
                intro n
                induction n with
                | zero => intro I31 H locs ls v30 g hI hF hl jv30 hL72 hx72_0 hx72_1 hn; exact absurd hn (by omega)
                | succ n ih72 =>
                  intro I31 H locs ls v30 g hI hF hl jv30 hL72 hx72_0 hx72_1 hn
                  refine lv_iload_n hx hb dX12_ring_72 rfl (lv_at hl 2 rfl) ?_
                  refine lv_bipush (v := 8) hx hb dX12_ring_73 (by decide) ?_
                  refine lv_icmp_ge (tgt := 135) hx hb dX12_ring_75 (by decide) (fun c32 => ?_) (fun c32 => ?_)
                  · have ic32 := (xi_le c32 (by decide) rfl : 8 ≤ v30.toInt)
                    obtain ⟨v33, ev33⟩ : ∃ z : Int32, z = v6 + 1 := ⟨_, rfl⟩
                    have jv33 : v33.toInt = v6.toInt + 1 := xi_add ev33 rfl (by decide) (by omega) (by omega)
                    refine lv_iinc (v := v33) (lv' := [(1, .int v33), (0, .ref a0), (2, .int v30)]) hx hb dX12_ring_135 hl (k := 1) rfl (by rw [ev33]; rfl) (by decide) rfl (fun ls hl => ?_)
                    refine lv_goto (tgt := 62) hx hb dX12_ring_138 (by decide) ?_
                    exact ih62 I31 _ _ _ v33 g hI hF (lv_sub hl [1, 0] rfl) (by omega) (h_F.call (h_F.call (h_F.rf : h_F [(13, 44), (13, 45), (1339, 999), (1340, 999), (1343, 999), (1342, 999)] z I4 I4) hL62 rfl) hL72 rfl) (by rw [show (v33.toInt).toNat = v6.toInt.toNat + 1 by omega, r_up_1, show (0 + ((v6.toInt.toNat : Nat) : Int)) = v6.toInt by omega]; have h9 := hx72_0; rw [show (v30.toInt - v6.toInt - 1).toNat = (7 - v6.toInt).toNat by omega] at h9; exact h9) (by omega)
                  · have ic32 := (xi_nle c32 (by decide) rfl : v30.toInt < 8)
                    refine lv_iload_n hx hb dX12_ring_78 rfl (lv_at hl 1 rfl) ?_
                    refine lv_iconst (v := 1) hx hb dX12_ring_79 (by decide) ?_
                    refine lv_iadd hx hb dX12_ring_80 ?_
                    refine xw_i (v := v29) ev29.symm ?_
                    refine lv_istore_n (lv' := [(3, .int v29), (0, .ref a0), (1, .int v6), (2, .int v30)]) hx hb dX12_ring_81 rfl hl (by decide) rfl (fun ls hl => ?_)
                    have loop82_3 : ∀ (n : Nat) (I35 : tI) (H : Heap) (locs : List Loc) (ls : Array Slot) (v34 : Int32), h_G h_so h_fk E A z I35 L0 s s.heap H locs → h_I z I35 → h_F [(13, 44), (13, 45), (1339, 999), (1340, 999), (1343, 999), (1342, 999), (13, 41), (1346, 999), (1347, 999)] z I0 I35 → lv_has ls 4 [(0, .ref a0), (1, .int v6), (2, .int v30), (3, .int v34)] → (1 ≤ v34.toInt ∧ v34.toInt ≤ 8) → h_F [(13, 44), (13, 45), (1339, 999), (1340, 999), (1343, 999), (1342, 999)] z I31 I35 → (m_rs z I35 a0 (r_up (fun (c : Int) (s : tS) => if c = v30.toInt then s else r_thr MG CB N v6.toInt v30.toInt c s) (v6.toInt + 1) (v34.toInt - v6.toInt - 1).toNat (r_up (fun (b : Int) (s : tS) => r_up (fun (c : Int) (s : tS) => if c = b then s else r_thr MG CB N v6.toInt b c s) (v6.toInt + 1) (7 - v6.toInt).toNat s) (v6.toInt + 1) (v30.toInt - v6.toInt - 1).toNat (r_up (fun (a : Int) (s : tS) => r_up (fun (b : Int) (s : tS) => r_up (fun (c : Int) (s : tS) => if c = b then s else r_thr MG CB N a b c s) (a + 1) (7 - a).toNat s) (a + 1) (7 - a).toNat s) 0 (v6.toInt).toNat (r_al2 MG CB N (0, [])))))) → (v6.toInt + 1 ≤ v34.toInt) → (8 - v34.toInt) < (n : Int) → W pr_ l ev_ (headSpec wsX12_ring ({ frames := 11, cells := 0, slots := 0, locals := 704 })).room s m ([.ref a0] : List Value).toArray below meth cd_ H locs 0 0 (MQ below (va_Qi (fun r (I1 : tI) => h_I z I1 ∧ h_F [(13, 44), (13, 45), (1339, 999), (1340, 999), (1343, 999), (1342, 999), (13, 41), (1346, 999), (1347, 999)] z I0 I1 ∧ (((r_all (m_G z I0 a0 u_) (I0 (h_ad z a0 14)) (I0 a0 13).toInt.toNat).2 = [] ∧ r.toInt = -1 ∧ I1 a0 41 = I0 a0 41 ∧ (∀ k : Nat, I1 (h_ad z a0 46) k = I0 (h_ad z a0 46) k) ∧ ∀ k : Nat, I1 (h_ad z a0 47) k = I0 (h_ad z a0 47) k) ∨ ((r_all (m_G z I0 a0 u_) (I0 (h_ad z a0 14)) (I0 a0 13).toInt.toNat).2 ≠ [] ∧ r.toInt = (r_all (m_G z I0 a0 u_) (I0 (h_ad z a0 14)) (I0 a0 13).toInt.toNat).1 ∧ (I1 a0 41).toInt = ((r_all (m_G z I0 a0 u_) (I0 (h_ad z a0 14)) (I0 a0 13).toInt.toNat).2.length : Int) ∧ ∀ i : Nat, i < (r_all (m_G z I0 a0 u_) (I0 (h_ad z a0 14)) (I0 a0 13).toInt.toNat).2.length → (I1 (h_ad z a0 46) i).toInt = ((r_all (m_G z I0 a0 u_) (I0 (h_ad z a0 14)) (I0 a0 13).toInt.toNat).2.getD i (0, 0)).1 ∧ (I1 (h_ad z a0 47) i).toInt = ((((r_all (m_G z I0 a0 u_) (I0 (h_ad z a0 14)) (I0 a0 13).toInt.toNat).2.getD i (0, 0)).2 : Nat) : Int)))) (fun (I1 : tI) t => h_B E A z I1 L0 t) A) ([.ref a0] : List Value).toArray s 0 0 A) (F0 m 82 ls []) := by
                      intro n
                      induction n with
                      | zero => intro I35 H locs ls v34 g hI hF hl jv34 hL82 hx82_0 hx82_1 hn; exact absurd hn (by omega)
                      | succ n ih82 =>
                        intro I35 H locs ls v34 g hI hF hl jv34 hL82 hx82_0 hx82_1 hn
                        refine lv_iload_n hx hb dX12_ring_82 rfl (lv_at hl 3 rfl) ?_
                        refine lv_bipush (v := 8) hx hb dX12_ring_83 (by decide) ?_
                        refine lv_icmp_ge (tgt := 129) hx hb dX12_ring_85 (by decide) (fun c36 => ?_) (fun c36 => ?_)
                        · have ic36 := (xi_le c36 (by decide) rfl : 8 ≤ v34.toInt)
                          obtain ⟨v37, ev37⟩ : ∃ z : Int32, z = v30 + 1 := ⟨_, rfl⟩
                          have jv37 : v37.toInt = v30.toInt + 1 := xi_add ev37 rfl (by decide) (by omega) (by omega)
                          refine lv_iinc (v := v37) (lv' := [(2, .int v37), (0, .ref a0), (1, .int v6), (3, .int v34)]) hx hb dX12_ring_129 hl (k := 2) rfl (by rw [ev37]; rfl) (by decide) rfl (fun ls hl => ?_)
                          refine lv_goto (tgt := 72) hx hb dX12_ring_132 (by decide) ?_
                          exact ih72 I35 _ _ _ v37 g hI hF (lv_sub hl [1, 2, 0] rfl) (by omega) (h_F.call (h_F.call (h_F.rf : h_F [(13, 44), (13, 45), (1339, 999), (1340, 999), (1343, 999), (1342, 999)] z I7 I7) hL72 rfl) hL82 rfl) (by rw [show (v37.toInt - v6.toInt - 1).toNat = (v30.toInt - v6.toInt - 1).toNat + 1 by omega, r_up_1, show (v6.toInt + 1 + (((v30.toInt - v6.toInt - 1).toNat : Nat) : Int)) = v30.toInt by omega]; have h9 := hx82_0; rw [show (v34.toInt - v6.toInt - 1).toNat = (7 - v6.toInt).toNat by omega] at h9; exact h9) (by omega) (by omega)
                        · have ic36 := (xi_nle c36 (by decide) rfl : v34.toInt < 8)
                          refine lv_iload_n hx hb dX12_ring_88 rfl (lv_at hl 2 rfl) ?_
                          refine lv_iload_n hx hb dX12_ring_89 rfl (lv_at hl 3 rfl) ?_
                          refine lv_icmp_ne (tgt := 96) hx hb dX12_ring_90 (by decide) (fun c38 => ?_) (fun c38 => ?_)
                          · have ic38 := (xi_ne c38 rfl rfl : v30.toInt ≠ v34.toInt)
                            refine lv_aload_n hx hb dX12_ring_96 rfl (lv_at hl 0 rfl) ?_
                            refine h_get (v := .ref tc) hx hb hts iX12 hown g t_a0 (by decide) so_13 rfl 42 (by decide) (hts (.fieldLink RX12 97 "CapLeagueModel" "triedClub" "[I") (by decide +kernel)) rfl dX12_ring_97 (by show va_rf (z.R a0 42) = _; rw [rtc]; rfl) ?_
                            refine lv_iconst (v := 0) hx hb dX12_ring_100 (by decide) ?_
                            refine lv_iload_n hx hb dX12_ring_101 rfl (lv_at hl 1 rfl) ?_
                            refine h_ast hx hb g ttc (by decide) so_1342 (by unfold vp_in; decide) dX12_ring_102 (fun I39 H locs eI39 g => ?_)
                            have hI := hI.wr eI39 ttc (rfl : h_bd 1342 _ = (0, 7)) (by omega) (by omega)
                            have hF := hF.wr eI39 ttc rfl
                            refine lv_aload_n hx hb dX12_ring_103 rfl (lv_at hl 0 rfl) ?_
                            refine h_get (v := .ref tc) hx hb hts iX12 hown g t_a0 (by decide) so_13 rfl 42 (by decide) (hts (.fieldLink RX12 97 "CapLeagueModel" "triedClub" "[I") (by decide +kernel)) rfl dX12_ring_104 (by show va_rf (z.R a0 42) = _; rw [rtc]; rfl) ?_
                            refine lv_iconst (v := 1) hx hb dX12_ring_107 (by decide) ?_
                            refine lv_iload_n hx hb dX12_ring_108 rfl (lv_at hl 2 rfl) ?_
                            refine h_ast hx hb g ttc (by decide) so_1342 (by unfold vp_in; decide) dX12_ring_109 (fun I40 H locs eI40 g => ?_)
                            have hI := hI.wr eI40 ttc (rfl : h_bd 1342 _ = (0, 7)) (by omega) (by omega)
                            have hF := hF.wr eI40 ttc rfl
                            refine lv_aload_n hx hb dX12_ring_110 rfl (lv_at hl 0 rfl) ?_
                            refine h_get (v := .ref tc) hx hb hts iX12 hown g t_a0 (by decide) so_13 rfl 42 (by decide) (hts (.fieldLink RX12 97 "CapLeagueModel" "triedClub" "[I") (by decide +kernel)) rfl dX12_ring_111 (by show va_rf (z.R a0 42) = _; rw [rtc]; rfl) ?_
                            refine lv_iconst (v := 2) hx hb dX12_ring_114 (by decide) ?_
                            refine lv_iload_n hx hb dX12_ring_115 rfl (lv_at hl 3 rfl) ?_
                            refine h_ast hx hb g ttc (by decide) so_1342 (by unfold vp_in; decide) dX12_ring_116 (fun I41 H locs eI41 g => ?_)
                            have hI := hI.wr eI41 ttc (rfl : h_bd 1342 _ = (0, 7)) (by omega) (by omega)
                            have hF := hF.wr eI41 ttc rfl
                            refine lv_aload_n hx hb dX12_ring_117 rfl (lv_at hl 0 rfl) ?_
                            refine lv_iconst (v := 0) hx hb dX12_ring_118 (by decide) ?_
                            refine lv_iconst (v := 3) hx hb dX12_ring_119 (by decide) ?_
                            refine va_callv (va_runV (As := [.int 0, .int 3]) (rest := []) ⟨hx, hb, hml, hown, hts⟩ (tX12_givers30R l E X A z I41 L0 a0 t_a0 (u_) (hmp.F hR t_a0 (h_F.wr (h_F.wr (h_F.wr (h_F.call (h_F.call (h_F.call (h_F.call (h_F.wr (h_F.wr (h_F.rf : h_F [(13, 44), (13, 45), (1339, 999), (1340, 999), (1343, 999), (1342, 999), (13, 41), (1346, 999), (1347, 999)] z I0 I0) eI1 t_a0 rfl) eI2 t_a0 rfl) hL12 rfl) hL62 rfl) hL72 rfl) hL82 rfl) eI39 ttc rfl) eI40 ttc rfl) eI41 ttc rfl) (by decide)) (fun i hi => absurd hi (Nat.not_lt_zero i)) ((r_up (fun (c : Int) (s : tS) => if c = v30.toInt then s else r_thr MG CB N v6.toInt v30.toInt c s) (v6.toInt + 1) (v34.toInt - v6.toInt - 1).toNat (r_up (fun (b : Int) (s : tS) => r_up (fun (c : Int) (s : tS) => if c = b then s else r_thr MG CB N v6.toInt b c s) (v6.toInt + 1) (7 - v6.toInt).toNat s) (v6.toInt + 1) (v30.toInt - v6.toInt - 1).toNat (r_up (fun (a : Int) (s : tS) => r_up (fun (b : Int) (s : tS) => r_up (fun (c : Int) (s : tS) => if c = b then s else r_thr MG CB N a b c s) (a + 1) (7 - a).toNat s) (a + 1) (7 - a).toNat s) 0 (v6.toInt).toNat (r_al2 MG CB N (0, [])))))) (hx82_0.F hR t_a0 (h_F.wr (h_F.wr (h_F.wr (h_F.rf : h_F [(1342, 999)] z I35 I35) eI39 ttc rfl) eI40 ttc rfl) eI41 ttc rfl) rfl rfl (fun _ => rfl) (fun _ => rfl))) (cwV 2 hts gX12_ring_X12_givers rfl rfl rfl (by decide +kernel) ⟨Nat.le_of_ble_eq_true rfl, Nat.le_of_ble_eq_true rfl⟩) ⟨h_blind _ _ _ _ _ _ _, h_recv g t_a0 (by decide) so_13 (q := (RX12, TX12, 51)) rfl, h_pre _ hE hk hX hA hI hR g⟩ rfl rfl hl.1 rfl (lv_room (Nat.le_of_ble_eq_true rfl)) dX12_ring_120 ⟨Nat.le_of_ble_eq_true rfl, Nat.le_of_ble_eq_true rfl⟩) g.2.1 (fun q _ h => h) (fun q h => h) (fun I43 t H1 locs ht hvm h42 hB hz1 hk1 hS => ?_)
                            obtain ⟨hI, fh42, h42⟩ := h42
                            replace g := h_after g hB ht hS
                            generalize H1 = H at g
                            clear hB hk1 hz1 ht hvm hS
                            have hF := hF.call fh42 rfl
                            obtain ⟨h42p0, h42p1⟩ := h42
                            rw [m_G_F hR t_a0 (h_F.wr (h_F.wr (h_F.wr (h_F.call (h_F.call (h_F.call (h_F.call (h_F.wr (h_F.wr (h_F.rf : h_F [(13, 44), (13, 45), (1339, 999), (1340, 999), (1343, 999), (1342, 999), (13, 41), (1346, 999), (1347, 999)] z I0 I0) eI1 t_a0 rfl) eI2 t_a0 rfl) hL12 rfl) hL62 rfl) hL72 rfl) hL82 rfl) eI39 ttc rfl) eI40 ttc rfl) eI41 ttc rfl) (by decide) u_, ← eMG, show I41 (h_ad z a0 14) = I0 (h_ad z a0 14) from m_F hR t_a0 (h_F.wr (h_F.wr (h_F.wr (h_F.call (h_F.call (h_F.call (h_F.call (h_F.wr (h_F.wr (h_F.rf : h_F [(13, 44), (13, 45), (1339, 999), (1340, 999), (1343, 999), (1342, 999), (13, 41), (1346, 999), (1347, 999)] z I0 I0) eI1 t_a0 rfl) eI2 t_a0 rfl) hL12 rfl) hL62 rfl) hL72 rfl) hL82 rfl) eI39 ttc rfl) eI40 ttc rfl) eI41 ttc rfl) (by decide) 14 1314 rfl (by decide) (by decide) (by decide), acb, ← eCB, show I41 a0 13 = f0_13 from (h_n1 eI41 t_a0 ttc (by decide)).trans ((h_n1 eI40 t_a0 ttc (by decide)).trans ((h_n1 eI39 t_a0 ttc (by decide)).trans ((h_F.at hL82 t_a0 rfl).trans ((h_F.at hL72 t_a0 rfl).trans ((h_F.at hL62 t_a0 rfl).trans ((h_F.at hL12 t_a0 rfl).trans ((h_n2 eI2 (by decide)).trans ((h_n2 eI1 (by decide)).trans (ef0_13.symm))))))))), ← eN, atc, show I41 tc 0 = v6 from (by have h9 := (h_n2 eI41 (by decide)).trans ((h_n2 eI40 (by decide)).trans (h_n0 eI39)); rw [show (0 : Int32).toNatClampNeg = 0 by decide] at h9; exact h9), show I41 tc 1 = v30 from (by have h9 := (h_n2 eI41 (by decide)).trans (h_n0 eI40); rw [show (1 : Int32).toNatClampNeg = 1 by decide] at h9; exact h9), show I41 tc 2 = v34 from (by have h9 := h_n0 eI41; rw [show (2 : Int32).toNatClampNeg = 2 by decide] at h9; exact h9)] at h42p0
                            obtain ⟨v44, ev44⟩ : ∃ z : Int32, z = v34 + 1 := ⟨_, rfl⟩
                            have jv44 : v44.toInt = v34.toInt + 1 := xi_add ev44 rfl (by decide) (by omega) (by omega)
                            refine lv_iinc (v := v44) (lv' := [(3, .int v44), (0, .ref a0), (1, .int v6), (2, .int v30)]) hx hb dX12_ring_123 hl (k := 3) rfl (by rw [ev44]; rfl) (by decide) rfl (fun ls hl => ?_)
                            refine lv_goto (tgt := 82) hx hb dX12_ring_126 (by decide) ?_
                            exact ih82 I43 _ _ _ v44 g hI hF (lv_sub hl [1, 2, 3, 0] rfl) (by omega) (h_F.call (h_F.wr (h_F.wr (h_F.wr (h_F.call (h_F.rf : h_F [(13, 44), (13, 45), (1339, 999), (1340, 999), (1343, 999), (1342, 999)] z I31 I31) hL82 rfl) eI39 ttc rfl) eI40 ttc rfl) eI41 ttc rfl) fh42 rfl) (by rw [show (v44.toInt - v6.toInt - 1).toNat = (v34.toInt - v6.toInt - 1).toNat + 1 by omega, r_up_1, show (v6.toInt + 1 + (((v34.toInt - v6.toInt - 1).toNat : Nat) : Int)) = v34.toInt by omega]; rw [if_neg (by omega)]; exact h42p0) (by omega) (by omega)
                          · have ic38 := (xi_eq c38 rfl rfl : v30.toInt = v34.toInt)
                            refine lv_goto (tgt := 123) hx hb dX12_ring_93 (by decide) ?_
                            obtain ⟨v45, ev45⟩ : ∃ z : Int32, z = v34 + 1 := ⟨_, rfl⟩
                            have jv45 : v45.toInt = v34.toInt + 1 := xi_add ev45 rfl (by decide) (by omega) (by omega)
                            refine lv_iinc (v := v45) (lv' := [(3, .int v45), (0, .ref a0), (1, .int v6), (2, .int v30)]) hx hb dX12_ring_123 hl (k := 3) rfl (by rw [ev45]; rfl) (by decide) rfl (fun ls hl => ?_)
                            refine lv_goto (tgt := 82) hx hb dX12_ring_126 (by decide) ?_
                            exact ih82 I35 _ _ _ v45 g hI hF (lv_sub hl [1, 2, 3, 0] rfl) (by omega) (h_F.call (h_F.rf : h_F [(13, 44), (13, 45), (1339, 999), (1340, 999), (1343, 999), (1342, 999)] z I31 I31) hL82 rfl) (by rw [show (v45.toInt - v6.toInt - 1).toNat = (v34.toInt - v6.toInt - 1).toNat + 1 by omega, r_up_1, show (v6.toInt + 1 + (((v34.toInt - v6.toInt - 1).toNat : Nat) : Int)) = v34.toInt by omega]; rw [if_pos (by omega)]; exact hx82_0) (by omega) (by omega)
                    exact loop82_3 _ I31 _ _ _ v29 g hI hF (lv_sub hl [1, 2, 3, 0] rfl) (by omega) (h_F.rf : h_F [(13, 44), (13, 45), (1339, 999), (1340, 999), (1343, 999), (1342, 999)] z I31 I31) (by rw [show (v29.toInt - v6.toInt - 1).toNat = 0 by omega, r_up_0]; exact hx72_0) (by omega) (show (8 - v29.toInt) < (((8 - v29.toInt).toNat + 1 : Nat) : Int) by omega)
              exact loop72_2 _ I7 _ _ _ v29 g hI hF (lv_sub hl [1, 2, 0] rfl) (by omega) (h_F.rf : h_F [(13, 44), (13, 45), (1339, 999), (1340, 999), (1343, 999), (1342, 999)] z I7 I7) (by rw [show (v29.toInt - v6.toInt - 1).toNat = 0 by omega, r_up_0]; exact hx62_0) (by omega) (show (8 - v29.toInt) < (((8 - v29.toInt).toNat + 1 : Nat) : Int) by omega)
        have kc46 : (0 : Int32).toInt = 0 := by decide
        exact loop62_1 _ I4 _ _ _ (0) g hI hF (lv_sub hl [1, 0] rfl) ⟨by decide, by decide⟩ (h_F.rf : h_F [(13, 44), (13, 45), (1339, 999), (1340, 999), (1343, 999), (1342, 999)] z I4 I4) (by have h9 := hx12_0; rw [show (v3.toInt).toNat = 8 by omega, r_al2_e] at h9; rw [show ((0 : Int32).toInt).toNat = 0 by decide, r_up_0]; exact h9) (show (8 - (0 : Int)) < (((8 - (0 : Int)).toNat + 1 : Nat) : Int) by omega)
      · have ic5 := (xi_nle c5 (by decide) rfl : v3.toInt < 8)
        refine lv_iload_n hx hb dX12_ring_18 rfl (lv_at hl 1 rfl) ?_
        refine lv_iconst (v := 1) hx hb dX12_ring_19 (by decide) ?_
        refine lv_iadd hx hb dX12_ring_20 ?_
        refine lv_topi (fun v47 ev47 => ?_)
        have jv47 : v47.toInt = v3.toInt + 1 := xi_add ev47 rfl (by decide) (by omega) (by omega)
        refine lv_istore_n (lv' := [(2, .int v47), (0, .ref a0), (1, .int v3)]) hx hb dX12_ring_21 rfl hl (by decide) rfl (fun ls hl => ?_)
        have loop22_4 : ∀ (n : Nat) (I49 : tI) (H : Heap) (locs : List Loc) (ls : Array Slot) (v48 : Int32), h_G h_so h_fk E A z I49 L0 s s.heap H locs → h_I z I49 → h_F [(13, 44), (13, 45), (1339, 999), (1340, 999), (1343, 999), (1342, 999), (13, 41), (1346, 999), (1347, 999)] z I0 I49 → lv_has ls 4 [(0, .ref a0), (1, .int v3), (2, .int v48)] → (1 ≤ v48.toInt ∧ v48.toInt ≤ 8) → h_F [(13, 44), (13, 45), (1339, 999), (1340, 999), (1343, 999), (1342, 999)] z I4 I49 → (m_rs z I49 a0 (r_up (fun (b : Int) (s : tS) => r_two MG CB N v3.toInt b s) (v3.toInt + 1) (v48.toInt - v3.toInt - 1).toNat (r_up (fun (a : Int) (s : tS) => r_up (fun (b : Int) (s : tS) => r_two MG CB N a b s) (a + 1) (7 - a).toNat s) 0 (v3.toInt).toNat (0, [])))) → (v3.toInt + 1 ≤ v48.toInt) → (8 - v48.toInt) < (n : Int) → W pr_ l ev_ (headSpec wsX12_ring ({ frames := 11, cells := 0, slots := 0, locals := 704 })).room s m ([.ref a0] : List Value).toArray below meth cd_ H locs 0 0 (MQ below (va_Qi (fun r (I1 : tI) => h_I z I1 ∧ h_F [(13, 44), (13, 45), (1339, 999), (1340, 999), (1343, 999), (1342, 999), (13, 41), (1346, 999), (1347, 999)] z I0 I1 ∧ (((r_all (m_G z I0 a0 u_) (I0 (h_ad z a0 14)) (I0 a0 13).toInt.toNat).2 = [] ∧ r.toInt = -1 ∧ I1 a0 41 = I0 a0 41 ∧ (∀ k : Nat, I1 (h_ad z a0 46) k = I0 (h_ad z a0 46) k) ∧ ∀ k : Nat, I1 (h_ad z a0 47) k = I0 (h_ad z a0 47) k) ∨ ((r_all (m_G z I0 a0 u_) (I0 (h_ad z a0 14)) (I0 a0 13).toInt.toNat).2 ≠ [] ∧ r.toInt = (r_all (m_G z I0 a0 u_) (I0 (h_ad z a0 14)) (I0 a0 13).toInt.toNat).1 ∧ (I1 a0 41).toInt = ((r_all (m_G z I0 a0 u_) (I0 (h_ad z a0 14)) (I0 a0 13).toInt.toNat).2.length : Int) ∧ ∀ i : Nat, i < (r_all (m_G z I0 a0 u_) (I0 (h_ad z a0 14)) (I0 a0 13).toInt.toNat).2.length → (I1 (h_ad z a0 46) i).toInt = ((r_all (m_G z I0 a0 u_) (I0 (h_ad z a0 14)) (I0 a0 13).toInt.toNat).2.getD i (0, 0)).1 ∧ (I1 (h_ad z a0 47) i).toInt = ((((r_all (m_G z I0 a0 u_) (I0 (h_ad z a0 14)) (I0 a0 13).toInt.toNat).2.getD i (0, 0)).2 : Nat) : Int)))) (fun (I1 : tI) t => h_B E A z I1 L0 t) A) ([.ref a0] : List Value).toArray s 0 0 A) (F0 m 22 ls []) := by
          intro n
          induction n with
          | zero => intro I49 H locs ls v48 g hI hF hl jv48 hL22 hx22_0 hx22_1 hn; exact absurd hn (by omega)
          | succ n ih22 =>
            intro I49 H locs ls v48 g hI hF hl jv48 hL22 hx22_0 hx22_1 hn
            refine lv_iload_n hx hb dX12_ring_22 rfl (lv_at hl 2 rfl) ?_
            refine lv_bipush (v := 8) hx hb dX12_ring_23 (by decide) ?_
            refine lv_icmp_ge (tgt := 54) hx hb dX12_ring_25 (by decide) (fun c50 => ?_) (fun c50 => ?_)
            · have ic50 := (xi_le c50 (by decide) rfl : 8 ≤ v48.toInt)
              obtain ⟨v51, ev51⟩ : ∃ z : Int32, z = v3 + 1 := ⟨_, rfl⟩
              have jv51 : v51.toInt = v3.toInt + 1 := xi_add ev51 rfl (by decide) (by omega) (by omega)
              refine lv_iinc (v := v51) (lv' := [(1, .int v51), (0, .ref a0), (2, .int v48)]) hx hb dX12_ring_54 hl (k := 1) rfl (by rw [ev51]; rfl) (by decide) rfl (fun ls hl => ?_)
              refine lv_goto (tgt := 12) hx hb dX12_ring_57 (by decide) ?_
              exact ih12 I49 _ _ _ v51 g hI hF (lv_sub hl [1, 0] rfl) (by omega) (h_F.call (h_F.call (h_F.rf : h_F [(13, 44), (13, 45), (1339, 999), (1340, 999), (1343, 999), (1342, 999)] z I2 I2) hL12 rfl) hL22 rfl) (by rw [show (v51.toInt).toNat = v3.toInt.toNat + 1 by omega, r_up_1, show (0 + ((v3.toInt.toNat : Nat) : Int)) = v3.toInt by omega]; have h9 := hx22_0; rw [show (v48.toInt - v3.toInt - 1).toNat = (7 - v3.toInt).toNat by omega] at h9; exact h9) (by omega)
            · have ic50 := (xi_nle c50 (by decide) rfl : v48.toInt < 8)
              refine lv_aload_n hx hb dX12_ring_28 rfl (lv_at hl 0 rfl) ?_
              refine h_get (v := .ref tc) hx hb hts iX12 hown g t_a0 (by decide) so_13 rfl 42 (by decide) (hts (.fieldLink RX12 97 "CapLeagueModel" "triedClub" "[I") (by decide +kernel)) rfl dX12_ring_29 (by show va_rf (z.R a0 42) = _; rw [rtc]; rfl) ?_
              refine lv_iconst (v := 0) hx hb dX12_ring_32 (by decide) ?_
              refine lv_iload_n hx hb dX12_ring_33 rfl (lv_at hl 1 rfl) ?_
              refine h_ast hx hb g ttc (by decide) so_1342 (by unfold vp_in; decide) dX12_ring_34 (fun I52 H locs eI52 g => ?_)
              have hI := hI.wr eI52 ttc (rfl : h_bd 1342 _ = (0, 7)) (by omega) (by omega)
              have hF := hF.wr eI52 ttc rfl
              refine lv_aload_n hx hb dX12_ring_35 rfl (lv_at hl 0 rfl) ?_
              refine h_get (v := .ref tc) hx hb hts iX12 hown g t_a0 (by decide) so_13 rfl 42 (by decide) (hts (.fieldLink RX12 97 "CapLeagueModel" "triedClub" "[I") (by decide +kernel)) rfl dX12_ring_36 (by show va_rf (z.R a0 42) = _; rw [rtc]; rfl) ?_
              refine lv_iconst (v := 1) hx hb dX12_ring_39 (by decide) ?_
              refine lv_iload_n hx hb dX12_ring_40 rfl (lv_at hl 2 rfl) ?_
              refine h_ast hx hb g ttc (by decide) so_1342 (by unfold vp_in; decide) dX12_ring_41 (fun I53 H locs eI53 g => ?_)
              have hI := hI.wr eI53 ttc (rfl : h_bd 1342 _ = (0, 7)) (by omega) (by omega)
              have hF := hF.wr eI53 ttc rfl
              refine lv_aload_n hx hb dX12_ring_42 rfl (lv_at hl 0 rfl) ?_
              refine lv_iconst (v := 0) hx hb dX12_ring_43 (by decide) ?_
              refine lv_iconst (v := 2) hx hb dX12_ring_44 (by decide) ?_
              refine va_callv (va_runV (As := [.int 0, .int 2]) (rest := []) ⟨hx, hb, hml, hown, hts⟩ (tX12_givers20R l E X A z I53 L0 a0 t_a0 (u_) (hmp.F hR t_a0 (h_F.wr (h_F.wr (h_F.call (h_F.call (h_F.wr (h_F.wr (h_F.rf : h_F [(13, 44), (13, 45), (1339, 999), (1340, 999), (1343, 999), (1342, 999), (13, 41), (1346, 999), (1347, 999)] z I0 I0) eI1 t_a0 rfl) eI2 t_a0 rfl) hL12 rfl) hL22 rfl) eI52 ttc rfl) eI53 ttc rfl) (by decide)) (fun i hi => absurd hi (Nat.not_lt_zero i)) ((r_up (fun (b : Int) (s : tS) => r_two MG CB N v3.toInt b s) (v3.toInt + 1) (v48.toInt - v3.toInt - 1).toNat (r_up (fun (a : Int) (s : tS) => r_up (fun (b : Int) (s : tS) => r_two MG CB N a b s) (a + 1) (7 - a).toNat s) 0 (v3.toInt).toNat (0, [])))) (hx22_0.F hR t_a0 (h_F.wr (h_F.wr (h_F.rf : h_F [(1342, 999)] z I49 I49) eI52 ttc rfl) eI53 ttc rfl) rfl rfl (fun _ => rfl) (fun _ => rfl))) (cwV 2 hts gX12_ring_X12_givers rfl rfl rfl (by decide +kernel) ⟨Nat.le_of_ble_eq_true rfl, Nat.le_of_ble_eq_true rfl⟩) ⟨h_blind _ _ _ _ _ _ _, h_recv g t_a0 (by decide) so_13 (q := (RX12, TX12, 51)) rfl, h_pre _ hE hk hX hA hI hR g⟩ rfl rfl hl.1 rfl (lv_room (Nat.le_of_ble_eq_true rfl)) dX12_ring_45 ⟨Nat.le_of_ble_eq_true rfl, Nat.le_of_ble_eq_true rfl⟩) g.2.1 (fun q _ h => h) (fun q h => h) (fun I55 t H1 locs ht hvm h54 hB hz1 hk1 hS => ?_)
              obtain ⟨hI, fh54, h54⟩ := h54
              replace g := h_after g hB ht hS
              generalize H1 = H at g
              clear hB hk1 hz1 ht hvm hS
              have hF := hF.call fh54 rfl
              obtain ⟨h54p0, h54p1⟩ := h54
              rw [m_G_F hR t_a0 (h_F.wr (h_F.wr (h_F.call (h_F.call (h_F.wr (h_F.wr (h_F.rf : h_F [(13, 44), (13, 45), (1339, 999), (1340, 999), (1343, 999), (1342, 999), (13, 41), (1346, 999), (1347, 999)] z I0 I0) eI1 t_a0 rfl) eI2 t_a0 rfl) hL12 rfl) hL22 rfl) eI52 ttc rfl) eI53 ttc rfl) (by decide) u_, ← eMG, show I53 (h_ad z a0 14) = I0 (h_ad z a0 14) from m_F hR t_a0 (h_F.wr (h_F.wr (h_F.call (h_F.call (h_F.wr (h_F.wr (h_F.rf : h_F [(13, 44), (13, 45), (1339, 999), (1340, 999), (1343, 999), (1342, 999), (13, 41), (1346, 999), (1347, 999)] z I0 I0) eI1 t_a0 rfl) eI2 t_a0 rfl) hL12 rfl) hL22 rfl) eI52 ttc rfl) eI53 ttc rfl) (by decide) 14 1314 rfl (by decide) (by decide) (by decide), acb, ← eCB, show I53 a0 13 = f0_13 from (h_n1 eI53 t_a0 ttc (by decide)).trans ((h_n1 eI52 t_a0 ttc (by decide)).trans ((h_F.at hL22 t_a0 rfl).trans ((h_F.at hL12 t_a0 rfl).trans ((h_n2 eI2 (by decide)).trans ((h_n2 eI1 (by decide)).trans (ef0_13.symm)))))), ← eN, atc, show I53 tc 0 = v3 from (by have h9 := (h_n2 eI53 (by decide)).trans (h_n0 eI52); rw [show (0 : Int32).toNatClampNeg = 0 by decide] at h9; exact h9), show I53 tc 1 = v48 from (by have h9 := h_n0 eI53; rw [show (1 : Int32).toNatClampNeg = 1 by decide] at h9; exact h9)] at h54p0
              obtain ⟨v56, ev56⟩ : ∃ z : Int32, z = v48 + 1 := ⟨_, rfl⟩
              have jv56 : v56.toInt = v48.toInt + 1 := xi_add ev56 rfl (by decide) (by omega) (by omega)
              refine lv_iinc (v := v56) (lv' := [(2, .int v56), (0, .ref a0), (1, .int v3)]) hx hb dX12_ring_48 hl (k := 2) rfl (by rw [ev56]; rfl) (by decide) rfl (fun ls hl => ?_)
              refine lv_goto (tgt := 22) hx hb dX12_ring_51 (by decide) ?_
              exact ih22 I55 _ _ _ v56 g hI hF (lv_sub hl [1, 2, 0] rfl) (by omega) (h_F.call (h_F.wr (h_F.wr (h_F.call (h_F.rf : h_F [(13, 44), (13, 45), (1339, 999), (1340, 999), (1343, 999), (1342, 999)] z I4 I4) hL22 rfl) eI52 ttc rfl) eI53 ttc rfl) fh54 rfl) (by rw [show (v56.toInt - v3.toInt - 1).toNat = (v48.toInt - v3.toInt - 1).toNat + 1 by omega, r_up_1, show (v3.toInt + 1 + (((v48.toInt - v3.toInt - 1).toNat : Nat) : Int)) = v48.toInt by omega]; exact h54p0) (by omega) (by omega)
        exact loop22_4 _ I4 _ _ _ v47 g hI hF (lv_sub hl [1, 2, 0] rfl) (by omega) (h_F.rf : h_F [(13, 44), (13, 45), (1339, 999), (1340, 999), (1343, 999), (1342, 999)] z I4 I4) (by rw [show (v47.toInt - v3.toInt - 1).toNat = 0 by omega, r_up_0]; exact hx12_0) (by omega) (show (8 - v47.toInt) < (((8 - v47.toInt).toNat + 1 : Nat) : Int) by omega)
  have kc57 : (0 : Int32).toInt = 0 := by decide
  exact loop12_0 _ I2 _ _ _ (0) g hI hF (lv_sub hl [1, 0] rfl) ⟨by decide, by decide⟩ (h_F.rf : h_F [(13, 44), (13, 45), (1339, 999), (1340, 999), (1343, 999), (1342, 999)] z I2 I2) (by rw [show ((0 : Int32).toInt).toNat = 0 by decide, r_up_0]; exact hs00) (show (8 - (0 : Int)) < (((8 - (0 : Int)).toNat + 1 : Nat) : Int) by omega)

