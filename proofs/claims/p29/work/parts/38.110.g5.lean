set_option maxHeartbeats 4000000 in
set_option maxRecDepth 100000 in
theorem tX12_plainF (l : Launch) (E : tE) (X : tX) (A : Nat → Prop) (z : tZ) (I0 : tI) (L0 : tL) (k : Int32) (k_t : Int) (h_k : k.toInt = k_t) : Met l yX12_plain wsX12_plain ({ frames := 1, cells := 0, slots := 0, locals := 64 }) (va_Pc [.int k] (h_P E X A z I0 L0)) (vp_Si (fun r => (r.toInt = q_pl k_t.toNat ∨ k_t < 0) ∧ (k_t < 8 ∨ (0 ≤ r.toInt ∧ r.toInt ≤ 1)))) 0 0 (fun _ => False) := by
  refine Met.ofW (cc := cX12_plain) (maxL := 1) (ret := (some .int)) (by decide) rfl ?_
  intro pr_ ev_ s m args below meth cd_ s₁ B hml hv
  obtain ⟨rfl, hE, hk, hX, hA, hK, hI, hR, hB0⟩ := hv
  have g : h_G h_so h_fk E A z I0 L0 s s.heap s.heap [] := ⟨hK, va_S.rf, hB0⟩
  have hx := B.exec
  have hb := B.bytes
  have hr := B.returns
  have hts := atoms_spec (ws := wsX12_plain) B.pre
  have hown : s.vm.findClass RX12 = some m.cls := findClass_of_methodNamed B.named
  have hlocks := B.notSynchronized
  have hl := lv_entry ([.int k]) (n := 1) (Nat.le_of_ble_eq_true rfl)
  rw [lg_entry_eq]
  generalize (lg_sl ([.int k]) ++ List.replicate (1 - (lg_sl ([.int k])).length) Slot.unset).toArray = ls at hl ⊢
  have hl : lv_has ls 1 [(0, .int k)] := hl
  have b_k : -2147483648 ≤ k_t ∧ k_t ≤ 2147483647 := h_k ▸ ⟨xi_lo k, Int.le_of_lt_add_one (xi_hi k)⟩
  refine lv_iload_n hx hb dX12_plain_0 rfl (lv_at hl 0 rfl) ?_
  have qc1 : k.toInt = k_t := h_k
  rcases (show (k.toInt < 0 ∨ 9 < k.toInt) ∨ k.toInt = 0 ∨ k.toInt = 1 ∨ k.toInt = 2 ∨ k.toInt = 3 ∨ k.toInt = 4 ∨ k.toInt = 5 ∨ k.toInt = 6 ∨ k.toInt = 7 ∨ k.toInt = 8 ∨ k.toInt = 9 by omega) with c1 | c1 | c1 | c1 | c1 | c1 | c1 | c1 | c1 | c1 | c1
  · refine lv_tableOut (tgt := 72) hx hb dX12_plain_1 c1 (by decide) ?_
    refine lv_iconst (v := 0) hx hb dX12_plain_72 (by decide) ?_
    exact W.iret (v := 0) hx hb hr (fun t ht hW => ⟨0, rfl, ⟨(by by_cases h9 : k_t < 0; exact Or.inr h9; have e9 : q_pl k_t.toNat = 0 := (by unfold q_pl; repeat (first | rw [if_pos (by omega)] | rw [if_neg (by omega)])); exact Or.inl (by rw [e9]; decide)), (by have qr : (0 : Int32).toInt = 0 := (by decide); omega)⟩, ht⟩) (fun _ h => by cases h) dX12_plain_73
  · refine lv_tableIn (off := 55) (tgt := 56) hx hb dX12_plain_1 (by omega) (by omega) (by rw [show (k.toInt - 0).toNat = 0 by omega]; rfl) (by decide) ?_
    refine lv_sipush (v := 1000) hx hb dX12_plain_56 (by decide) ?_
    exact W.iret (v := 1000) hx hb hr (fun t ht hW => ⟨1000, rfl, ⟨(by by_cases h9 : k_t < 0; exact Or.inr h9; have e9 : q_pl k_t.toNat = 1000 := (by unfold q_pl; repeat (first | rw [if_pos (by omega)] | rw [if_neg (by omega)])); exact Or.inl (by rw [e9]; decide)), (by have qr : (1000 : Int32).toInt = 1000 := (by decide); omega)⟩, ht⟩) (fun _ h => by cases h) dX12_plain_59
  · refine lv_tableIn (off := 59) (tgt := 60) hx hb dX12_plain_1 (by omega) (by omega) (by rw [show (k.toInt - 0).toNat = 1 by omega]; rfl) (by decide) ?_
    refine lv_bipush (v := 15) hx hb dX12_plain_60 (by decide) ?_
    exact W.iret (v := 15) hx hb hr (fun t ht hW => ⟨15, rfl, ⟨(by by_cases h9 : k_t < 0; exact Or.inr h9; have e9 : q_pl k_t.toNat = 15 := (by unfold q_pl; repeat (first | rw [if_pos (by omega)] | rw [if_neg (by omega)])); exact Or.inl (by rw [e9]; decide)), (by have qr : (15 : Int32).toInt = 15 := (by decide); omega)⟩, ht⟩) (fun _ h => by cases h) dX12_plain_62
  · refine lv_tableIn (off := 62) (tgt := 63) hx hb dX12_plain_1 (by omega) (by omega) (by rw [show (k.toInt - 0).toNat = 2 by omega]; rfl) (by decide) ?_
    refine lv_iconst (v := 4) hx hb dX12_plain_63 (by decide) ?_
    exact W.iret (v := 4) hx hb hr (fun t ht hW => ⟨4, rfl, ⟨(by by_cases h9 : k_t < 0; exact Or.inr h9; have e9 : q_pl k_t.toNat = 4 := (by unfold q_pl; repeat (first | rw [if_pos (by omega)] | rw [if_neg (by omega)])); exact Or.inl (by rw [e9]; decide)), (by have qr : (4 : Int32).toInt = 4 := (by decide); omega)⟩, ht⟩) (fun _ h => by cases h) dX12_plain_64
  · refine lv_tableIn (off := 71) (tgt := 72) hx hb dX12_plain_1 (by omega) (by omega) (by rw [show (k.toInt - 0).toNat = 3 by omega]; rfl) (by decide) ?_
    refine lv_iconst (v := 0) hx hb dX12_plain_72 (by decide) ?_
    exact W.iret (v := 0) hx hb hr (fun t ht hW => ⟨0, rfl, ⟨(by by_cases h9 : k_t < 0; exact Or.inr h9; have e9 : q_pl k_t.toNat = 0 := (by unfold q_pl; repeat (first | rw [if_pos (by omega)] | rw [if_neg (by omega)])); exact Or.inl (by rw [e9]; decide)), (by have qr : (0 : Int32).toInt = 0 := (by decide); omega)⟩, ht⟩) (fun _ h => by cases h) dX12_plain_73
  · refine lv_tableIn (off := 64) (tgt := 65) hx hb dX12_plain_1 (by omega) (by omega) (by rw [show (k.toInt - 0).toNat = 4 by omega]; rfl) (by decide) ?_
    refine lv_bipush (v := 100) hx hb dX12_plain_65 (by decide) ?_
    exact W.iret (v := 100) hx hb hr (fun t ht hW => ⟨100, rfl, ⟨(by by_cases h9 : k_t < 0; exact Or.inr h9; have e9 : q_pl k_t.toNat = 100 := (by unfold q_pl; repeat (first | rw [if_pos (by omega)] | rw [if_neg (by omega)])); exact Or.inl (by rw [e9]; decide)), (by have qr : (100 : Int32).toInt = 100 := (by decide); omega)⟩, ht⟩) (fun _ h => by cases h) dX12_plain_67
  · refine lv_tableIn (off := 71) (tgt := 72) hx hb dX12_plain_1 (by omega) (by omega) (by rw [show (k.toInt - 0).toNat = 5 by omega]; rfl) (by decide) ?_
    refine lv_iconst (v := 0) hx hb dX12_plain_72 (by decide) ?_
    exact W.iret (v := 0) hx hb hr (fun t ht hW => ⟨0, rfl, ⟨(by by_cases h9 : k_t < 0; exact Or.inr h9; have e9 : q_pl k_t.toNat = 0 := (by unfold q_pl; repeat (first | rw [if_pos (by omega)] | rw [if_neg (by omega)])); exact Or.inl (by rw [e9]; decide)), (by have qr : (0 : Int32).toInt = 0 := (by decide); omega)⟩, ht⟩) (fun _ h => by cases h) dX12_plain_73
  · refine lv_tableIn (off := 71) (tgt := 72) hx hb dX12_plain_1 (by omega) (by omega) (by rw [show (k.toInt - 0).toNat = 6 by omega]; rfl) (by decide) ?_
    refine lv_iconst (v := 0) hx hb dX12_plain_72 (by decide) ?_
    exact W.iret (v := 0) hx hb hr (fun t ht hW => ⟨0, rfl, ⟨(by by_cases h9 : k_t < 0; exact Or.inr h9; have e9 : q_pl k_t.toNat = 0 := (by unfold q_pl; repeat (first | rw [if_pos (by omega)] | rw [if_neg (by omega)])); exact Or.inl (by rw [e9]; decide)), (by have qr : (0 : Int32).toInt = 0 := (by decide); omega)⟩, ht⟩) (fun _ h => by cases h) dX12_plain_73
  · refine lv_tableIn (off := 71) (tgt := 72) hx hb dX12_plain_1 (by omega) (by omega) (by rw [show (k.toInt - 0).toNat = 7 by omega]; rfl) (by decide) ?_
    refine lv_iconst (v := 0) hx hb dX12_plain_72 (by decide) ?_
    exact W.iret (v := 0) hx hb hr (fun t ht hW => ⟨0, rfl, ⟨(by by_cases h9 : k_t < 0; exact Or.inr h9; have e9 : q_pl k_t.toNat = 0 := (by unfold q_pl; repeat (first | rw [if_pos (by omega)] | rw [if_neg (by omega)])); exact Or.inl (by rw [e9]; decide)), (by have qr : (0 : Int32).toInt = 0 := (by decide); omega)⟩, ht⟩) (fun _ h => by cases h) dX12_plain_73
  · refine lv_tableIn (off := 67) (tgt := 68) hx hb dX12_plain_1 (by omega) (by omega) (by rw [show (k.toInt - 0).toNat = 8 by omega]; rfl) (by decide) ?_
    refine lv_iconst (v := 1) hx hb dX12_plain_68 (by decide) ?_
    exact W.iret (v := 1) hx hb hr (fun t ht hW => ⟨1, rfl, ⟨(by by_cases h9 : k_t < 0; exact Or.inr h9; have e9 : q_pl k_t.toNat = 1 := (by unfold q_pl; repeat (first | rw [if_pos (by omega)] | rw [if_neg (by omega)])); exact Or.inl (by rw [e9]; decide)), (by have qr : (1 : Int32).toInt = 1 := (by decide); omega)⟩, ht⟩) (fun _ h => by cases h) dX12_plain_69
  · refine lv_tableIn (off := 69) (tgt := 70) hx hb dX12_plain_1 (by omega) (by omega) (by rw [show (k.toInt - 0).toNat = 9 by omega]; rfl) (by decide) ?_
    refine lv_iconst (v := 1) hx hb dX12_plain_70 (by decide) ?_
    exact W.iret (v := 1) hx hb hr (fun t ht hW => ⟨1, rfl, ⟨(by by_cases h9 : k_t < 0; exact Or.inr h9; have e9 : q_pl k_t.toNat = 1 := (by unfold q_pl; repeat (first | rw [if_pos (by omega)] | rw [if_neg (by omega)])); exact Or.inl (by rw [e9]; decide)), (by have qr : (1 : Int32).toInt = 1 := (by decide); omega)⟩, ht⟩) (fun _ h => by cases h) dX12_plain_71
set_option maxHeartbeats 4000000 in
set_option maxRecDepth 100000 in
theorem tX12_lawsX (l : Launch) (E : tE) (X : tX) (A : Nat → Prop) (z : tZ) (I0 : tI) (L0 : tL) (a0 : Nat) (t_a0 : z.ty a0 = 13) (y : Int32) (y_t : Int) (h_y : y.toInt = y_t) (hJ : h_J1 (I0 (h_ad z a0 10))) : Met l yX12_laws wsX12_laws ({ frames := 9, cells := 0, slots := 0, locals := 576 }) (va_Pc [.ref a0, .int y] (h_P E X A z I0 L0)) (va_Qi (fun r (I1 : tI) => h_I z I1 ∧ h_F [(13, 5), (13, 3), (13, 4), (13, 7), (13, 6), (13, 8), (13, 9), (1310, 999), (13, 2), (13, 1), (1311, 999)] z I0 I1 ∧ ((¬ ((I0 a0 12).toInt ≤ y_t ∧ y_t ≤ 9) ∧ r.toInt = -2 ∧ I1 a0 8 = I0 a0 8 ∧ I1 a0 9 = I0 a0 9 ∧ (∀ k : Nat, I1 (h_ad z a0 10) k = I0 (h_ad z a0 10) k) ∧ ∀ k : Nat, I1 (h_ad z a0 11) k = I0 (h_ad z a0 11) k) ∨ (((I0 a0 12).toInt ≤ y_t ∧ y_t ≤ 9) ∧ (I1 a0 8).toInt = (q_text (q_at (I0 (h_ad z a0 0)) (I0 a0 1).toInt) 501 0 (fun _ => false) q_pl 0).1 ∧ (I1 a0 9).toInt = (q_text (q_at (I0 (h_ad z a0 0)) (I0 a0 1).toInt) 501 0 (fun _ => false) q_pl 0).2.1 ∧ r.toInt = (q_text (q_at (I0 (h_ad z a0 0)) (I0 a0 1).toInt) 501 0 (fun _ => false) q_pl 0).2.2.1 ∧ (((q_text (q_at (I0 (h_ad z a0 0)) (I0 a0 1).toInt) 501 0 (fun _ => false) q_pl 0).1 ≠ 0 ∧ (∀ k : Nat, (k < 160 ∨ 176 ≤ k) → I1 (h_ad z a0 10) k = I0 (h_ad z a0 10) k) ∧ ∀ k : Nat, I1 (h_ad z a0 11) k = I0 (h_ad z a0 11) k) ∨ ((q_text (q_at (I0 (h_ad z a0 0)) (I0 a0 1).toInt) 501 0 (fun _ => false) q_pl 0).1 = 0 ∧ (∀ i : Nat, i < 16 → (I1 (h_ad z a0 10) (16 * y_t.toNat + i)).toInt = (q_text (q_at (I0 (h_ad z a0 0)) (I0 a0 1).toInt) 501 0 (fun _ => false) q_pl 0).2.2.2 i) ∧ (∀ k : Nat, (k < 160 ∨ 176 ≤ k) → (k < 16 * y_t.toNat ∨ 16 * y_t.toNat + 16 ≤ k) → I1 (h_ad z a0 10) k = I0 (h_ad z a0 10) k) ∧ I1 (h_ad z a0 11) y_t.toNat = 1 ∧ ∀ k : Nat, k ≠ y_t.toNat → I1 (h_ad z a0 11) k = I0 (h_ad z a0 11) k)))) ∧ ((I1 a0 1).toInt = 0) ∧ (h_J1 (I1 (h_ad z a0 10)))) (fun (I1 : tI) t => h_B E A z I1 L0 t) A) 0 0 A := by
  refine Met.ofW (cc := cX12_laws) (maxL := 5) (ret := (some .int)) (by decide) rfl ?_
  intro pr_ ev_ s m args below meth cd_ s₁ B hml hv
  obtain ⟨rfl, hE, hk, hX, hA, hK, hI, hR, hB0⟩ := hv
  have g : h_G h_so h_fk E A z I0 L0 s s.heap s.heap [] := ⟨hK, va_S.rf, hB0⟩
  have hF : h_F [(13, 5), (13, 3), (13, 4), (13, 7), (13, 6), (13, 8), (13, 9), (1310, 999), (13, 2), (13, 1), (1311, 999)] z I0 I0 := h_F.rf
  have hx := B.exec
  have hb := B.bytes
  have hr := B.returns
  have hts := atoms_spec (ws := wsX12_laws) B.pre
  have hown : s.vm.findClass RX12 = some m.cls := findClass_of_methodNamed B.named
  have hlocks := B.notSynchronized
  have iX12 : ∀ w ∈ u_ws RX12 TX12 51, w ∈ wsX12_laws := by decide +kernel
  have hl := lv_entry ([.ref a0, .int y]) (n := 5) (Nat.le_of_ble_eq_true rfl)
  rw [lg_entry_eq]
  generalize (lg_sl ([.ref a0, .int y]) ++ List.replicate (5 - (lg_sl ([.ref a0, .int y])).length) Slot.unset).toArray = ls at hl ⊢
  have hl : lv_has ls 5 [(0, .ref a0), (1, .int y)] := hl
  have b_y : -2147483648 ≤ y_t ∧ y_t ≤ 2147483647 := h_y ▸ ⟨xi_lo y, Int.le_of_lt_add_one (xi_hi y)⟩
  obtain ⟨bt, rbt, tbt⟩ := hR.at a0 0 t_a0 (rfl : h_rs 13 0 = some (1300, false)) (by decide)
  have abt : h_ad z a0 0 = bt := h_ad.at rbt
  obtain ⟨lw, rlw, tlw⟩ := hR.at a0 10 t_a0 (rfl : h_rs 13 10 = some (1310, false)) (by decide)
  have alw : h_ad z a0 10 = lw := h_ad.at rlw
  obtain ⟨hy, rhy, thy⟩ := hR.at a0 11 t_a0 (rfl : h_rs 13 11 = some (1311, false)) (by decide)
  have ahy : h_ad z a0 11 = hy := h_ad.at rhy
  obtain ⟨f0_1, ef0_1⟩ : ∃ v : Int32, v = I0 a0 1 := ⟨_, rfl⟩
  have qf0_1 : (I0 a0 1).toInt = f0_1.toInt := congrArg Int32.toInt ef0_1.symm
  have jf0_1 := hI.rd a0 1 t_a0 ef0_1 (rfl : h_bd 13 1 = (0, 500))
  obtain ⟨f0_12, ef0_12⟩ : ∃ v : Int32, v = I0 a0 12 := ⟨_, rfl⟩
  have qf0_12 : (I0 a0 12).toInt = f0_12.toInt := congrArg Int32.toInt ef0_12.symm
  have jf0_12 := hI.rd a0 12 t_a0 ef0_12 (rfl : h_bd 13 12 = (0, 9))
  obtain ⟨f0_8, ef0_8⟩ : ∃ v : Int32, v = I0 a0 8 := ⟨_, rfl⟩
  have qf0_8 : (I0 a0 8).toInt = f0_8.toInt := congrArg Int32.toInt ef0_8.symm
  have jf0_8 := hI.rd a0 8 t_a0 ef0_8 (rfl : h_bd 13 8 = ((-2147483648), 2147483647))
  obtain ⟨f0_9, ef0_9⟩ : ∃ v : Int32, v = I0 a0 9 := ⟨_, rfl⟩
  have qf0_9 : (I0 a0 9).toInt = f0_9.toInt := congrArg Int32.toInt ef0_9.symm
  have jf0_9 := hI.rd a0 9 t_a0 ef0_9 (rfl : h_bd 13 9 = ((-2147483648), 2147483647))
  obtain ⟨gb, egb⟩ : ∃ g : Int → Int, g = q_at (I0 bt) f0_1.toInt := ⟨_, rfl⟩
  have hrw : ∀ k : Nat, (k < 160 ∨ 176 ≤ k) → (k < 16 * y_t.toNat ∨ 16 * y_t.toNat + 16 ≤ k) → I0 lw k = I0 lw k := fun _ _ _ => rfl
  have hrx : ∀ k : Nat, (k < 160 ∨ 176 ≤ k) → I0 lw k = I0 lw k := fun _ _ => rfl
  have hhl : ∀ k : Nat, I0 hy k = I0 hy k := fun _ => rfl
  rw [alw] at hJ
  refine lv_aload_n hx hb dX12_laws_0 rfl (lv_at hl 0 rfl) ?_
  refine lv_aload_n hx hb dX12_laws_1 rfl (lv_at hl 0 rfl) ?_
  refine h_get (v := .int f0_1) hx hb hts iX12 hown g t_a0 (by decide) so_13 rfl 1 (by decide) (hts (.fieldLink RX12 119 "CapLeagueModel" "taped" "I") (by decide +kernel)) rfl dX12_laws_2 (congrArg Value.int (ef0_1.symm)) ?_
  refine h_putI (ty := .int) (v := f0_1) hx hb hts iX12 tyX12 tyX12_ok nmX12 hown g t_a0 (by decide) so_13 rfl 2 (by decide) rfl (hts (.fieldLink RX12 122 "CapLeagueModel" "size" "I") (by decide +kernel)) rfl rfl (by decide +kernel) rfl rfl dX12_laws_5 (fun I1 H locs eI1 g => ?_)
  have hI := hI.wr eI1 t_a0 (rfl : h_bd 13 2 = (0, 500)) (by omega) (by omega)
  have hF := hF.wr eI1 t_a0 rfl
  have hsz : I1 a0 2 = f0_1 := h_n0 eI1
  have hrw : ∀ k : Nat, (k < 160 ∨ 176 ≤ k) → (k < 16 * y_t.toNat ∨ 16 * y_t.toNat + 16 ≤ k) → I1 lw k = I0 lw k := fun k hk hk2 => (h_n1 eI1 tlw t_a0 (by decide)).trans (hrw k hk hk2)
  have hrx : ∀ k : Nat, (k < 160 ∨ 176 ≤ k) → I1 lw k = I0 lw k := fun k hk => (h_n1 eI1 tlw t_a0 (by decide)).trans (hrx k hk)
  have hhl : ∀ k : Nat, I1 hy k = I0 hy k := fun k => (h_n1 eI1 thy t_a0 (by decide)).trans (hhl k)
  refine lv_aload_n hx hb dX12_laws_8 rfl (lv_at hl 0 rfl) ?_
  refine lv_iconst (v := 0) hx hb dX12_laws_9 (by decide) ?_
  refine h_putI (ty := .int) (v := 0) hx hb hts iX12 tyX12 tyX12_ok nmX12 hown g t_a0 (by decide) so_13 rfl 1 (by decide) rfl (hts (.fieldLink RX12 119 "CapLeagueModel" "taped" "I") (by decide +kernel)) rfl rfl (by decide +kernel) rfl rfl dX12_laws_10 (fun I2 H locs eI2 g => ?_)
  have hI := hI.wr eI2 t_a0 (rfl : h_bd 13 1 = (0, 500)) (by decide) (by decide)
  have hF := hF.wr eI2 t_a0 rfl
  have hsz : I2 a0 2 = f0_1 := (h_n2 eI2 (by decide)).trans hsz
  have hrw : ∀ k : Nat, (k < 160 ∨ 176 ≤ k) → (k < 16 * y_t.toNat ∨ 16 * y_t.toNat + 16 ≤ k) → I2 lw k = I0 lw k := fun k hk hk2 => (h_n1 eI2 tlw t_a0 (by decide)).trans (hrw k hk hk2)
  have hrx : ∀ k : Nat, (k < 160 ∨ 176 ≤ k) → I2 lw k = I0 lw k := fun k hk => (h_n1 eI2 tlw t_a0 (by decide)).trans (hrx k hk)
  have hhl : ∀ k : Nat, I2 hy k = I0 hy k := fun k => (h_n1 eI2 thy t_a0 (by decide)).trans (hhl k)
  have htp : I2 a0 1 = 0 := h_n0 eI2
  refine lv_iload_n hx hb dX12_laws_13 rfl (lv_at hl 1 rfl) ?_
  refine lv_i2l hx hb dX12_laws_14 rfl ?_
  refine lv_topl (fun v3 ev3 => ?_)
  have jv3 : v3.toInt = y_t := by rw [ev3, xi_64]; exact h_y
  refine lv_aload_n hx hb dX12_laws_15 rfl (lv_at hl 0 rfl) ?_
  refine h_get (v := .int f0_12) hx hb hts iX12 hown g t_a0 (by decide) so_13 rfl 12 (by decide) (hts (.fieldLink RX12 187 "CapLeagueModel" "clock" "I") (by decide +kernel)) rfl dX12_laws_16 (congrArg Value.int ((h_n2 eI2 (by decide)).trans ((h_n2 eI1 (by decide)).trans (ef0_12.symm)))) ?_
  refine lv_i2l hx hb dX12_laws_19 rfl ?_
  refine lv_topl (fun v4 ev4 => ?_)
  have jv4 : v4.toInt = f0_12.toInt := by rw [ev4, xi_64]
  refine lv_ldc2 (v := 9) hx hb hown (hts (.constantLong RX12 190 (9)) (by decide +kernel)) dX12_laws_20 ?_
  refine vp_callSi (W.runS (As := [.long v3, .long v4, .long 9]) (rest := []) ⟨hx, hb, hml, hown, hts⟩ (tX12_in l E X A z I2 L0 v3 (y_t) jv3 v4 (f0_12.toInt) jv4 9 (9) (by decide)) (va_cwS 3 hts gX12_laws_X12_in rfl rfl rfl (by decide +kernel) ⟨Nat.le_of_ble_eq_true rfl, Nat.le_of_ble_eq_true rfl⟩) ⟨h_blind _ _ _ _ _ _ _, h_pre _ hE hk hX hA hI hR g⟩ rfl rfl hl.1 rfl (lv_room (Nat.le_of_ble_eq_true rfl)) dX12_laws_23 ⟨Nat.le_of_ble_eq_true rfl, Nat.le_of_ble_eq_true rfl⟩) (fun rh5 h5 => ?_)
  rcases h5 with ⟨rfl, h5⟩ | ⟨rfl, h5⟩
  · skip
    refine lv_if_ne (tgt := 32) hx hb dX12_laws_26 (by decide) (fun h => absurd (by decide) h) (fun _ => ?_)
    refine lv_bipush (v := (-2)) hx hb dX12_laws_29 (by decide) ?_
    have hS := g.2.1
    exact W.iret (v := (-2)) hx hb hr (fun t ht hW => ⟨⟨(-2), I2, rfl, ⟨hI, hF, ⟨(by rw [abt, alw, ahy, qf0_1, qf0_12, ← egb]; exact Or.inl ⟨by omega, by decide, ((h_n2 eI2 (by decide)).trans ((h_n2 eI1 (by decide)).trans (ef0_8.symm))).trans ef0_8, ((h_n2 eI2 (by decide)).trans ((h_n2 eI1 (by decide)).trans (ef0_9.symm))).trans ef0_9, fun k => (h_n1 eI2 tlw t_a0 (by decide)).trans (h_n1 eI1 tlw t_a0 (by decide)), hhl⟩), (by rw [htp]; decide), (by rw [alw]; exact h_J1_out hJ (fun k _ => (h_n1 eI2 tlw t_a0 (by decide)).trans (h_n1 eI1 tlw t_a0 (by decide))))⟩⟩, h_ret g ht⟩, hS.F ht⟩) hS.2.2 dX12_laws_31
  · skip
    refine lv_if_ne (tgt := 32) hx hb dX12_laws_26 (by decide) (fun _ => ?_) (fun h => absurd h (by decide))
    refine lv_aload_n hx hb dX12_laws_32 rfl (lv_at hl 0 rfl) ?_
    refine lv_iconst (v := 0) hx hb dX12_laws_33 (by decide) ?_
    refine h_putI (ty := .int) (v := 0) hx hb hts iX12 tyX12 tyX12_ok nmX12 hown g t_a0 (by decide) so_13 rfl 8 (by decide) rfl (hts (.fieldLink RX12 166 "CapLeagueModel" "faultKind" "I") (by decide +kernel)) rfl rfl (by decide +kernel) rfl rfl dX12_laws_34 (fun I8 H locs eI8 g => ?_)
    have hI := hI.wr eI8 t_a0 (rfl : h_bd 13 8 = ((-2147483648), 2147483647)) (by decide) (by decide)
    have hF := hF.wr eI8 t_a0 rfl
    have hsz : I8 a0 2 = f0_1 := (h_n2 eI8 (by decide)).trans hsz
    have hrw : ∀ k : Nat, (k < 160 ∨ 176 ≤ k) → (k < 16 * y_t.toNat ∨ 16 * y_t.toNat + 16 ≤ k) → I8 lw k = I0 lw k := fun k hk hk2 => (h_n1 eI8 tlw t_a0 (by decide)).trans (hrw k hk hk2)
    have hrx : ∀ k : Nat, (k < 160 ∨ 176 ≤ k) → I8 lw k = I0 lw k := fun k hk => (h_n1 eI8 tlw t_a0 (by decide)).trans (hrx k hk)
    have hhl : ∀ k : Nat, I8 hy k = I0 hy k := fun k => (h_n1 eI8 thy t_a0 (by decide)).trans (hhl k)
    have htp : I8 a0 1 = 0 := (h_n2 eI8 (by decide)).trans htp
    refine lv_aload_n hx hb dX12_laws_37 rfl (lv_at hl 0 rfl) ?_
    refine lv_iconst (v := (-1)) hx hb dX12_laws_38 (by decide) ?_
    refine h_putI (ty := .int) (v := (-1)) hx hb hts iX12 tyX12 tyX12_ok nmX12 hown g t_a0 (by decide) so_13 rfl 9 (by decide) rfl (hts (.fieldLink RX12 13 "CapLeagueModel" "faultPlace" "I") (by decide +kernel)) rfl rfl (by decide +kernel) rfl rfl dX12_laws_39 (fun I9 H locs eI9 g => ?_)
    have hI := hI.wr eI9 t_a0 (rfl : h_bd 13 9 = ((-2147483648), 2147483647)) (by decide) (by decide)
    have hF := hF.wr eI9 t_a0 rfl
    have hsz : I9 a0 2 = f0_1 := (h_n2 eI9 (by decide)).trans hsz
    have hrw : ∀ k : Nat, (k < 160 ∨ 176 ≤ k) → (k < 16 * y_t.toNat ∨ 16 * y_t.toNat + 16 ≤ k) → I9 lw k = I0 lw k := fun k hk hk2 => (h_n1 eI9 tlw t_a0 (by decide)).trans (hrw k hk hk2)
    have hrx : ∀ k : Nat, (k < 160 ∨ 176 ≤ k) → I9 lw k = I0 lw k := fun k hk => (h_n1 eI9 tlw t_a0 (by decide)).trans (hrx k hk)
    have hhl : ∀ k : Nat, I9 hy k = I0 hy k := fun k => (h_n1 eI9 thy t_a0 (by decide)).trans (hhl k)
    have htp : I9 a0 1 = 0 := (h_n2 eI9 (by decide)).trans htp
    have hfa : I9 a0 8 = 0 ∧ I9 a0 9 = -1 := ⟨(h_n2 eI9 (by decide)).trans (h_n0 eI8), h_n0 eI9⟩
    refine lv_iconst (v := 0) hx hb dX12_laws_42 (by decide) ?_
    refine lv_istore_n (lv' := [(2, .int 0), (0, .ref a0), (1, .int y)]) hx hb dX12_laws_43 rfl hl (by decide) rfl (fun ls hl => ?_)
    have loop44_0 : ∀ (n : Nat) (I11 : tI) (H : Heap) (locs : List Loc) (ls : Array Slot) (v10 : Int32), h_G h_so h_fk E A z I11 L0 s s.heap H locs → h_I z I11 → h_F [(13, 5), (13, 3), (13, 4), (13, 7), (13, 6), (13, 8), (13, 9), (1310, 999), (13, 2), (13, 1), (1311, 999)] z I0 I11 → lv_has ls 5 [(0, .ref a0), (1, .int y), (2, .int v10)] → (0 ≤ v10.toInt ∧ v10.toInt ≤ 16) → (∀ i : Nat, (i : Int) < v10.toInt → (I11 lw (160 + i)).toInt = q_pl i) → (I11 a0 2 = f0_1) → (∀ k : Nat, (k < 160 ∨ 176 ≤ k) → (k < 16 * y_t.toNat ∨ 16 * y_t.toNat + 16 ≤ k) → I11 lw k = I0 lw k) → (I11 a0 8 = 0 ∧ I11 a0 9 = -1) → (∀ k : Nat, (k < 160 ∨ 176 ≤ k) → I11 lw k = I0 lw k) → (∀ k : Nat, I11 hy k = I0 hy k) → (I11 a0 1 = 0) → (16 - v10.toInt) < (n : Int) → W pr_ l ev_ (headSpec wsX12_laws ({ frames := 9, cells := 0, slots := 0, locals := 576 })).room s m ([.ref a0, .int y] : List Value).toArray below meth cd_ H locs 0 0 (MQ below (va_Qi (fun r (I1 : tI) => h_I z I1 ∧ h_F [(13, 5), (13, 3), (13, 4), (13, 7), (13, 6), (13, 8), (13, 9), (1310, 999), (13, 2), (13, 1), (1311, 999)] z I0 I1 ∧ ((¬ ((I0 a0 12).toInt ≤ y_t ∧ y_t ≤ 9) ∧ r.toInt = -2 ∧ I1 a0 8 = I0 a0 8 ∧ I1 a0 9 = I0 a0 9 ∧ (∀ k : Nat, I1 (h_ad z a0 10) k = I0 (h_ad z a0 10) k) ∧ ∀ k : Nat, I1 (h_ad z a0 11) k = I0 (h_ad z a0 11) k) ∨ (((I0 a0 12).toInt ≤ y_t ∧ y_t ≤ 9) ∧ (I1 a0 8).toInt = (q_text (q_at (I0 (h_ad z a0 0)) (I0 a0 1).toInt) 501 0 (fun _ => false) q_pl 0).1 ∧ (I1 a0 9).toInt = (q_text (q_at (I0 (h_ad z a0 0)) (I0 a0 1).toInt) 501 0 (fun _ => false) q_pl 0).2.1 ∧ r.toInt = (q_text (q_at (I0 (h_ad z a0 0)) (I0 a0 1).toInt) 501 0 (fun _ => false) q_pl 0).2.2.1 ∧ (((q_text (q_at (I0 (h_ad z a0 0)) (I0 a0 1).toInt) 501 0 (fun _ => false) q_pl 0).1 ≠ 0 ∧ (∀ k : Nat, (k < 160 ∨ 176 ≤ k) → I1 (h_ad z a0 10) k = I0 (h_ad z a0 10) k) ∧ ∀ k : Nat, I1 (h_ad z a0 11) k = I0 (h_ad z a0 11) k) ∨ ((q_text (q_at (I0 (h_ad z a0 0)) (I0 a0 1).toInt) 501 0 (fun _ => false) q_pl 0).1 = 0 ∧ (∀ i : Nat, i < 16 → (I1 (h_ad z a0 10) (16 * y_t.toNat + i)).toInt = (q_text (q_at (I0 (h_ad z a0 0)) (I0 a0 1).toInt) 501 0 (fun _ => false) q_pl 0).2.2.2 i) ∧ (∀ k : Nat, (k < 160 ∨ 176 ≤ k) → (k < 16 * y_t.toNat ∨ 16 * y_t.toNat + 16 ≤ k) → I1 (h_ad z a0 10) k = I0 (h_ad z a0 10) k) ∧ I1 (h_ad z a0 11) y_t.toNat = 1 ∧ ∀ k : Nat, k ≠ y_t.toNat → I1 (h_ad z a0 11) k = I0 (h_ad z a0 11) k)))) ∧ ((I1 a0 1).toInt = 0) ∧ (h_J1 (I1 (h_ad z a0 10)))) (fun (I1 : tI) t => h_B E A z I1 L0 t) A) ([.ref a0, .int y] : List Value).toArray s 0 0 A) (F0 m 44 ls []) := by
      intro n
      induction n with
      | zero => intro I11 H locs ls v10 g hI hF hl jv10 hx44_0 hsz hrw hfa hrx hhl htp hn; exact absurd hn (by omega)
      | succ n ih44 =>
        intro I11 H locs ls v10 g hI hF hl jv10 hx44_0 hsz hrw hfa hrx hhl htp hn
        refine lv_iload_n hx hb dX12_laws_44 rfl (lv_at hl 2 rfl) ?_
        refine lv_bipush (v := 16) hx hb dX12_laws_45 (by decide) ?_
        refine lv_icmp_ge (tgt := 70) hx hb dX12_laws_47 (by decide) (fun c12 => ?_) (fun c12 => ?_)
        · have ic12 := (xi_le c12 (by decide) rfl : 16 ≤ v10.toInt)
          have hru : h_ru I11 lw q_pl := fun i hi => hx44_0 i (by omega)
          refine lv_aload_n hx hb dX12_laws_70 rfl (lv_at hl 0 rfl) ?_
          refine lv_iconst (v := 0) hx hb dX12_laws_71 (by decide) ?_
          refine h_putI (ty := .int) (v := 0) hx hb hts iX12 tyX12 tyX12_ok nmX12 hown g t_a0 (by decide) so_13 rfl 6 (by decide) rfl (hts (.fieldLink RX12 140 "CapLeagueModel" "end" "I") (by decide +kernel)) rfl rfl (by decide +kernel) rfl rfl dX12_laws_72 (fun I13 H locs eI13 g => ?_)
          have hI := hI.wr eI13 t_a0 (rfl : h_bd 13 6 = (0, 500)) (by decide) (by decide)
          have hF := hF.wr eI13 t_a0 rfl
          have hsz : I13 a0 2 = f0_1 := (h_n2 eI13 (by decide)).trans hsz
          have hrw : ∀ k : Nat, (k < 160 ∨ 176 ≤ k) → (k < 16 * y_t.toNat ∨ 16 * y_t.toNat + 16 ≤ k) → I13 lw k = I0 lw k := fun k hk hk2 => (h_n1 eI13 tlw t_a0 (by decide)).trans (hrw k hk hk2)
          have hru : h_ru I13 lw q_pl := hru.c (fun k => h_n1 eI13 tlw t_a0 (by decide))
          have hfa : I13 a0 8 = 0 ∧ I13 a0 9 = -1 := ⟨(h_n2 eI13 (by decide)).trans hfa.1, (h_n2 eI13 (by decide)).trans hfa.2⟩
          have hrx : ∀ k : Nat, (k < 160 ∨ 176 ≤ k) → I13 lw k = I0 lw k := fun k hk => (h_n1 eI13 tlw t_a0 (by decide)).trans (hrx k hk)
          have hhl : ∀ k : Nat, I13 hy k = I0 hy k := fun k => (h_n1 eI13 thy t_a0 (by decide)).trans (hhl k)
          have htp : I13 a0 1 = 0 := (h_n2 eI13 (by decide)).trans htp
          have hFo := hF
          have hszo := hsz
          refine lv_aload_n hx hb dX12_laws_75 rfl (lv_at hl 0 rfl) ?_
          refine va_callv (va_runV (As := []) (rest := []) ⟨hx, hb, hml, hown, hts⟩ (tX12_scanF l E X A z I13 L0 a0 t_a0) (cwV 0 hts gX12_laws_X12_scan rfl rfl rfl (by decide +kernel) ⟨Nat.le_of_ble_eq_true rfl, Nat.le_of_ble_eq_true rfl⟩) ⟨h_blind _ _ _ _ _ _ _, h_recv g t_a0 (by decide) so_13 (q := (RX12, TX12, 51)) rfl, h_pre _ hE hk hX hA hI hR g⟩ rfl rfl hl.1 rfl (lv_room (Nat.le_of_ble_eq_true rfl)) dX12_laws_76 ⟨Nat.le_of_ble_eq_true rfl, Nat.le_of_ble_eq_true rfl⟩) g.2.1 (fun q _ h => h) (fun q h => h) (fun I15 t H1 locs ht hvm h14 hB hz1 hk1 hS => ?_)
          obtain ⟨hI, fh14, h14⟩ := h14
          replace g := h_after g hB ht hS
          generalize H1 = H at g
          clear hB hk1 hz1 ht hvm hS
          have hF := hF.call fh14 rfl
          have h14p0 := h14
          have hsz : I15 a0 2 = f0_1 := (fh14.at t_a0 rfl).trans hsz
          have hrw : ∀ k : Nat, (k < 160 ∨ 176 ≤ k) → (k < 16 * y_t.toNat ∨ 16 * y_t.toNat + 16 ≤ k) → I15 lw k = I0 lw k := fun k hk hk2 => (fh14.at tlw rfl).trans (hrw k hk hk2)
          have hru : h_ru I15 lw q_pl := hru.c (fun k => fh14.at tlw rfl)
          have hfa : I15 a0 8 = 0 ∧ I15 a0 9 = -1 := ⟨(fh14.at t_a0 rfl).trans hfa.1, (fh14.at t_a0 rfl).trans hfa.2⟩
          have hrx : ∀ k : Nat, (k < 160 ∨ 176 ≤ k) → I15 lw k = I0 lw k := fun k hk => (fh14.at tlw rfl).trans (hrx k hk)
          have hhl : ∀ k : Nat, I15 hy k = I0 hy k := fun k => (fh14.at thy rfl).trans (hhl k)
          have htp : I15 a0 1 = 0 := (fh14.at t_a0 rfl).trans htp
          rw [abt, show I13 bt = I0 bt from funext (fun k => hFo.at tbt rfl), show I13 a0 2 = f0_1 from hszo, ← egb, show I13 a0 6 = 0 from h_n0 eI13, show (0 : Int32).toInt = 0 by decide] at h14p0
          have htc := h14p0
          refine lv_iconst (v := 0) hx hb dX12_laws_79 (by decide) ?_
          refine lv_istore_n (lv' := [(2, .int 0), (0, .ref a0), (1, .int y)]) hx hb dX12_laws_80 rfl hl (by decide) rfl (fun ls hl => ?_)
          have hto := h_tld0
          refine lv_iconst (v := 0) hx hb dX12_laws_81 (by decide) ?_
          refine lv_istore_n (lv' := [(3, .int 0), (2, .int 0), (0, .ref a0), (1, .int y)]) hx hb dX12_laws_82 rfl hl (by decide) rfl (fun ls hl => ?_)
          have loop83_1 : ∀ (n : Nat) (I18 : tI) (H : Heap) (locs : List Loc) (ls : Array Slot) (v16 v17 : Int32) (u19 : Nat → Int) (P20 : Int) (T21 : Int → Bool), h_G h_so h_fk E A z I18 L0 s s.heap H locs → h_I z I18 → h_F [(13, 5), (13, 3), (13, 4), (13, 7), (13, 6), (13, 8), (13, 9), (1310, 999), (13, 2), (13, 1), (1311, 999)] z I0 I18 → lv_has ls 5 [(0, .ref a0), (1, .int y), (2, .int v16), (3, .int v17)] → ((-2147483648) ≤ v16.toInt ∧ v16.toInt ≤ 2147483647) → (0 ≤ v17.toInt ∧ v17.toInt ≤ 500) → (q_text gb 501 0 (fun _ => false) q_pl 0 = q_text gb (501 - v17.toInt).toNat P20 T21 u19 v17.toInt) → (v17.toInt ≤ P20 ∧ P20 ≤ 500) → (I18 a0 2 = f0_1) → (∀ k : Nat, (k < 160 ∨ 176 ≤ k) → (k < 16 * y_t.toNat ∨ 16 * y_t.toNat + 16 ≤ k) → I18 lw k = I0 lw k) → (h_ru I18 lw u19) → (I18 a0 8 = 0 ∧ I18 a0 9 = -1) → (h_tk gb I18 a0 P20) → (h_tld v16 T21) → (∀ k : Nat, (k < 160 ∨ 176 ≤ k) → I18 lw k = I0 lw k) → (∀ k : Nat, I18 hy k = I0 hy k) → (I18 a0 1 = 0) → (501 - P20) < (n : Int) → W pr_ l ev_ (headSpec wsX12_laws ({ frames := 9, cells := 0, slots := 0, locals := 576 })).room s m ([.ref a0, .int y] : List Value).toArray below meth cd_ H locs 0 0 (MQ below (va_Qi (fun r (I1 : tI) => h_I z I1 ∧ h_F [(13, 5), (13, 3), (13, 4), (13, 7), (13, 6), (13, 8), (13, 9), (1310, 999), (13, 2), (13, 1), (1311, 999)] z I0 I1 ∧ ((¬ ((I0 a0 12).toInt ≤ y_t ∧ y_t ≤ 9) ∧ r.toInt = -2 ∧ I1 a0 8 = I0 a0 8 ∧ I1 a0 9 = I0 a0 9 ∧ (∀ k : Nat, I1 (h_ad z a0 10) k = I0 (h_ad z a0 10) k) ∧ ∀ k : Nat, I1 (h_ad z a0 11) k = I0 (h_ad z a0 11) k) ∨ (((I0 a0 12).toInt ≤ y_t ∧ y_t ≤ 9) ∧ (I1 a0 8).toInt = (q_text (q_at (I0 (h_ad z a0 0)) (I0 a0 1).toInt) 501 0 (fun _ => false) q_pl 0).1 ∧ (I1 a0 9).toInt = (q_text (q_at (I0 (h_ad z a0 0)) (I0 a0 1).toInt) 501 0 (fun _ => false) q_pl 0).2.1 ∧ r.toInt = (q_text (q_at (I0 (h_ad z a0 0)) (I0 a0 1).toInt) 501 0 (fun _ => false) q_pl 0).2.2.1 ∧ (((q_text (q_at (I0 (h_ad z a0 0)) (I0 a0 1).toInt) 501 0 (fun _ => false) q_pl 0).1 ≠ 0 ∧ (∀ k : Nat, (k < 160 ∨ 176 ≤ k) → I1 (h_ad z a0 10) k = I0 (h_ad z a0 10) k) ∧ ∀ k : Nat, I1 (h_ad z a0 11) k = I0 (h_ad z a0 11) k) ∨ ((q_text (q_at (I0 (h_ad z a0 0)) (I0 a0 1).toInt) 501 0 (fun _ => false) q_pl 0).1 = 0 ∧ (∀ i : Nat, i < 16 → (I1 (h_ad z a0 10) (16 * y_t.toNat + i)).toInt = (q_text (q_at (I0 (h_ad z a0 0)) (I0 a0 1).toInt) 501 0 (fun _ => false) q_pl 0).2.2.2 i) ∧ (∀ k : Nat, (k < 160 ∨ 176 ≤ k) → (k < 16 * y_t.toNat ∨ 16 * y_t.toNat + 16 ≤ k) → I1 (h_ad z a0 10) k = I0 (h_ad z a0 10) k) ∧ I1 (h_ad z a0 11) y_t.toNat = 1 ∧ ∀ k : Nat, k ≠ y_t.toNat → I1 (h_ad z a0 11) k = I0 (h_ad z a0 11) k)))) ∧ ((I1 a0 1).toInt = 0) ∧ (h_J1 (I1 (h_ad z a0 10)))) (fun (I1 : tI) t => h_B E A z I1 L0 t) A) ([.ref a0, .int y] : List Value).toArray s 0 0 A) (F0 m 83 ls []) := by
            intro n
            induction n with
            | zero => intro I18 H locs ls v16 v17 u19 P20 T21 g hI hF hl jv16 jv17 hx83_0 hx83_1 hsz hrw hru hfa htc hto hrx hhl htp hn; exact absurd hn (by omega)
            | succ n ih83 =>
              intro I18 H locs ls v16 v17 u19 P20 T21 g hI hF hl jv16 jv17 hx83_0 hx83_1 hsz hrw hru hfa htc hto hrx hhl htp hn
              refine lv_aload_n hx hb dX12_laws_83 rfl (lv_at hl 0 rfl) ?_
              refine h_get (v := .int (I18 a0 3)) hx hb hts iX12 hown g t_a0 (by decide) so_13 rfl 3 (by decide) (hts (.fieldLink RX12 146 "CapLeagueModel" "sort" "I") (by decide +kernel)) rfl dX12_laws_84 rfl ?_
              refine lv_topi (fun v22 ev22 => ?_)
              have jv22 := hI.rd a0 3 t_a0 ev22 (rfl : h_bd 13 3 = ((-2147483648), 2147483647))
              have hu := htc
              unfold h_tk h_sc at hu
              rw [← ev22] at hu
              refine lv_iconst (v := 4) hx hb dX12_laws_87 (by decide) ?_
              refine lv_icmp_eq (tgt := 132) hx hb dX12_laws_88 (by decide) (fun c23 => ?_) (fun c23 => ?_)
              · have ic23 := (xi_eq c23 rfl (by decide) : v22.toInt = 4)
                have R : q_text gb 501 0 (fun _ => false) q_pl 0 = (0, -1, v17.toInt, u19) := hx83_0.trans (q_text_end (by omega) (by omega) (by omega))
                refine lv_iconst (v := 0) hx hb dX12_laws_132 (by decide) ?_
                refine lv_istore (lv' := [(4, .int 0), (0, .ref a0), (1, .int y), (2, .int v16), (3, .int v17)]) hx hb dX12_laws_133 hl (by decide) rfl (fun ls hl => ?_)
                have loop135_2 : ∀ (n : Nat) (I25 : tI) (H : Heap) (locs : List Loc) (ls : Array Slot) (v24 : Int32), h_G h_so h_fk E A z I25 L0 s s.heap H locs → h_I z I25 → h_F [(13, 5), (13, 3), (13, 4), (13, 7), (13, 6), (13, 8), (13, 9), (1310, 999), (13, 2), (13, 1), (1311, 999)] z I0 I25 → lv_has ls 5 [(0, .ref a0), (1, .int y), (3, .int v17), (4, .int v24)] → (0 ≤ v24.toInt ∧ v24.toInt ≤ 16) → (∀ j : Nat, (j : Int) < v24.toInt → I25 lw (16 * y_t.toNat + j) = I25 lw (160 + j)) → (h_ru I25 lw u19) → (I25 a0 2 = f0_1) → (∀ k : Nat, (k < 160 ∨ 176 ≤ k) → (k < 16 * y_t.toNat ∨ 16 * y_t.toNat + 16 ≤ k) → I25 lw k = I0 lw k) → (I25 a0 8 = 0 ∧ I25 a0 9 = -1) → (∀ k : Nat, I25 hy k = I0 hy k) → (I25 a0 1 = 0) → (16 - v24.toInt) < (n : Int) → W pr_ l ev_ (headSpec wsX12_laws ({ frames := 9, cells := 0, slots := 0, locals := 576 })).room s m ([.ref a0, .int y] : List Value).toArray below meth cd_ H locs 0 0 (MQ below (va_Qi (fun r (I1 : tI) => h_I z I1 ∧ h_F [(13, 5), (13, 3), (13, 4), (13, 7), (13, 6), (13, 8), (13, 9), (1310, 999), (13, 2), (13, 1), (1311, 999)] z I0 I1 ∧ ((¬ ((I0 a0 12).toInt ≤ y_t ∧ y_t ≤ 9) ∧ r.toInt = -2 ∧ I1 a0 8 = I0 a0 8 ∧ I1 a0 9 = I0 a0 9 ∧ (∀ k : Nat, I1 (h_ad z a0 10) k = I0 (h_ad z a0 10) k) ∧ ∀ k : Nat, I1 (h_ad z a0 11) k = I0 (h_ad z a0 11) k) ∨ (((I0 a0 12).toInt ≤ y_t ∧ y_t ≤ 9) ∧ (I1 a0 8).toInt = (q_text (q_at (I0 (h_ad z a0 0)) (I0 a0 1).toInt) 501 0 (fun _ => false) q_pl 0).1 ∧ (I1 a0 9).toInt = (q_text (q_at (I0 (h_ad z a0 0)) (I0 a0 1).toInt) 501 0 (fun _ => false) q_pl 0).2.1 ∧ r.toInt = (q_text (q_at (I0 (h_ad z a0 0)) (I0 a0 1).toInt) 501 0 (fun _ => false) q_pl 0).2.2.1 ∧ (((q_text (q_at (I0 (h_ad z a0 0)) (I0 a0 1).toInt) 501 0 (fun _ => false) q_pl 0).1 ≠ 0 ∧ (∀ k : Nat, (k < 160 ∨ 176 ≤ k) → I1 (h_ad z a0 10) k = I0 (h_ad z a0 10) k) ∧ ∀ k : Nat, I1 (h_ad z a0 11) k = I0 (h_ad z a0 11) k) ∨ ((q_text (q_at (I0 (h_ad z a0 0)) (I0 a0 1).toInt) 501 0 (fun _ => false) q_pl 0).1 = 0 ∧ (∀ i : Nat, i < 16 → (I1 (h_ad z a0 10) (16 * y_t.toNat + i)).toInt = (q_text (q_at (I0 (h_ad z a0 0)) (I0 a0 1).toInt) 501 0 (fun _ => false) q_pl 0).2.2.2 i) ∧ (∀ k : Nat, (k < 160 ∨ 176 ≤ k) → (k < 16 * y_t.toNat ∨ 16 * y_t.toNat + 16 ≤ k) → I1 (h_ad z a0 10) k = I0 (h_ad z a0 10) k) ∧ I1 (h_ad z a0 11) y_t.toNat = 1 ∧ ∀ k : Nat, k ≠ y_t.toNat → I1 (h_ad z a0 11) k = I0 (h_ad z a0 11) k)))) ∧ ((I1 a0 1).toInt = 0) ∧ (h_J1 (I1 (h_ad z a0 10)))) (fun (I1 : tI) t => h_B E A z I1 L0 t) A) ([.ref a0, .int y] : List Value).toArray s 0 0 A) (F0 m 135 ls []) := by
                  intro n
                  induction n with
                  | zero => intro I25 H locs ls v24 g hI hF hl jv24 hx135_0 hx135_1 hsz hrw hfa hhl htp hn; exact absurd hn (by omega)
                  | succ n ih135 =>
                    intro I25 H locs ls v24 g hI hF hl jv24 hx135_0 hx135_1 hsz hrw hfa hhl htp hn
                    refine lv_iload hx hb dX12_laws_135 (lv_at hl 3 rfl) ?_
                    refine lv_bipush (v := 16) hx hb dX12_laws_137 (by decide) ?_
                    refine lv_icmp_ge (tgt := 171) hx hb dX12_laws_139 (by decide) (fun c26 => ?_) (fun c26 => ?_)
                    · have ic26 := (xi_le c26 (by decide) rfl : 16 ≤ v24.toInt)
                      refine lv_aload_n hx hb dX12_laws_171 rfl (lv_at hl 0 rfl) ?_
                      refine h_get (v := .ref hy) hx hb hts iX12 hown g t_a0 (by decide) so_13 rfl 11 (by decide) (hts (.fieldLink RX12 21 "CapLeagueModel" "hasLaws" "[Z") (by decide +kernel)) rfl dX12_laws_172 (by show va_rf (z.R a0 11) = _; rw [rhy]; rfl) ?_
                      refine lv_iload_n hx hb dX12_laws_175 rfl (lv_at hl 1 rfl) ?_
                      refine lv_iconst (v := 1) hx hb dX12_laws_176 (by decide) ?_
                      refine h_zast hx hb g thy (by decide) so_1311 (xi_in (by rw [h_y]; omega) (by rw [h_y]; omega)) dX12_laws_177 (fun I27 H locs eI27 g => ?_)
                      rw [h_nz (by decide) (by decide)] at eI27
                      have hI := hI.wr eI27 thy (rfl : h_bd 1311 _ = (0, 1)) (by decide) (by decide)
                      have hF := hF.wr eI27 thy rfl
                      have hsz : I27 a0 2 = f0_1 := (h_n1 eI27 t_a0 thy (by decide)).trans hsz
                      have hrw : ∀ k : Nat, (k < 160 ∨ 176 ≤ k) → (k < 16 * y_t.toNat ∨ 16 * y_t.toNat + 16 ≤ k) → I27 lw k = I0 lw k := fun k hk hk2 => (h_n1 eI27 tlw thy (by decide)).trans (hrw k hk hk2)
                      have hfa : I27 a0 8 = 0 ∧ I27 a0 9 = -1 := ⟨(h_n1 eI27 t_a0 thy (by decide)).trans hfa.1, (h_n1 eI27 t_a0 thy (by decide)).trans hfa.2⟩
                      have htp : I27 a0 1 = 0 := (h_n1 eI27 t_a0 thy (by decide)).trans htp
                      refine lv_iload_n hx hb dX12_laws_178 rfl (lv_at hl 2 rfl) ?_
                      have hS := g.2.1
                      exact W.iret (v := v17) hx hb hr (fun t ht hW => ⟨⟨v17, I27, rfl, ⟨hI, hF, ⟨(by rw [abt, alw, ahy, qf0_1, qf0_12, ← egb]; rw [R]; exact Or.inr ⟨by omega, (by rw [hfa.1]; exact (by decide : (0 : Int32).toInt = 0)), (by rw [hfa.2]; exact (by decide : (-1 : Int32).toInt = -1)), rfl, Or.inr ⟨rfl, (fun i hi => by rw [h_n1 eI27 tlw thy (by decide), hx135_0 i (by omega)]; exact hx135_1 i hi), hrw, (by rw [← h_keq (i := y) (t := y_t) (k := y_t.toNat) h_y (by omega) (by omega)]; exact h_n0 eI27), (fun k hk => (h_n2 eI27 (h_kne (t := y_t) h_y (by omega) (by omega))).trans (hhl k))⟩⟩), (by rw [htp]; decide), (by rw [alw]; have ok9 := q_text_ok (g := gb) 501 0 (fun _ => false) q_pl 0 q_ok_pl; rw [R] at ok9; exact h_J1_new (y0 := y_t.toNat) hJ (by omega) (q_ok_hok (fun i hi => by rw [h_n1 eI27 tlw thy (by decide)]; exact hx135_1 i hi) (ok9 rfl)) (fun j hj => by rw [h_n1 eI27 tlw thy (by decide), h_n1 eI27 tlw thy (by decide)]; exact hx135_0 j (by omega)) hrw)⟩⟩, h_ret g ht⟩, hS.F ht⟩) hS.2.2 dX12_laws_179
                    · have ic26 := (xi_nle c26 (by decide) rfl : v24.toInt < 16)
                      refine lv_aload_n hx hb dX12_laws_142 rfl (lv_at hl 0 rfl) ?_
                      refine h_get (v := .ref lw) hx hb hts iX12 hown g t_a0 (by decide) so_13 rfl 10 (by decide) (hts (.fieldLink RX12 17 "CapLeagueModel" "laws" "[I") (by decide +kernel)) rfl dX12_laws_143 (by show va_rf (z.R a0 10) = _; rw [rlw]; rfl) ?_
                      refine lv_bipush (v := 16) hx hb dX12_laws_146 (by decide) ?_
                      refine lv_iload_n hx hb dX12_laws_148 rfl (lv_at hl 1 rfl) ?_
                      refine lv_imul hx hb dX12_laws_149 ?_
                      refine lv_topi (fun v28 ev28 => ?_)
                      have jv28 : v28.toInt = 16 * y_t := xi_mul ev28 (by decide) h_y (by omega) (by omega)
                      refine lv_iload hx hb dX12_laws_150 (lv_at hl 3 rfl) ?_
                      refine lv_iadd hx hb dX12_laws_152 ?_
                      refine lv_topi (fun v29 ev29 => ?_)
                      have jv29 : v29.toInt = v28.toInt + v24.toInt := xi_add ev29 rfl rfl (by omega) (by omega)
                      refine lv_aload_n hx hb dX12_laws_153 rfl (lv_at hl 0 rfl) ?_
                      refine h_get (v := .ref lw) hx hb hts iX12 hown g t_a0 (by decide) so_13 rfl 10 (by decide) (hts (.fieldLink RX12 17 "CapLeagueModel" "laws" "[I") (by decide +kernel)) rfl dX12_laws_154 (by show va_rf (z.R a0 10) = _; rw [rlw]; rfl) ?_
                      refine lv_sipush (v := 160) hx hb dX12_laws_157 (by decide) ?_
                      refine lv_iload hx hb dX12_laws_160 (lv_at hl 3 rfl) ?_
                      refine lv_iadd hx hb dX12_laws_162 ?_
                      refine lv_topi (fun v30 ev30 => ?_)
                      have jv30 : v30.toInt = 160 + v24.toInt := xi_add ev30 (by decide) rfl (by omega) (by omega)
                      refine h_ald hx hb g tlw (by decide) so_1310 (xi_in (by omega) (by omega)) dX12_laws_163 ?_
                      refine lv_topi (fun v31 ev31 => ?_)
                      have kv31 := h_lwr hI tlw (k := v30.toInt) rfl ev31 (by omega)
                      have jv31 : -2147483648 ≤ v31.toInt ∧ v31.toInt ≤ 2147483647 := ⟨xi_lo _, Int.le_of_lt_add_one (xi_hi _)⟩
                      refine h_ast hx hb g tlw (by decide) so_1310 (xi_in (by omega) (by omega)) dX12_laws_164 (fun I32 H locs eI32 g => ?_)
                      have hI := h_lww hI eI32 tlw (k := v29.toInt) rfl (by omega) (by omega) (by omega)
                      have hF := hF.wr eI32 tlw rfl
                      have hsz : I32 a0 2 = f0_1 := (h_n1 eI32 t_a0 tlw (by decide)).trans hsz
                      have hrw : ∀ k : Nat, (k < 160 ∨ 176 ≤ k) → (k < 16 * y_t.toNat ∨ 16 * y_t.toNat + 16 ≤ k) → I32 lw k = I0 lw k := fun k hk hk2 => (h_n2 eI32 (h_kne (t := v29.toInt) rfl (by omega) (by omega))).trans (hrw k hk hk2)
                      have hfa : I32 a0 8 = 0 ∧ I32 a0 9 = -1 := ⟨(h_n1 eI32 t_a0 tlw (by decide)).trans hfa.1, (h_n1 eI32 t_a0 tlw (by decide)).trans hfa.2⟩
                      have hhl : ∀ k : Nat, I32 hy k = I0 hy k := fun k => (h_n1 eI32 thy tlw (by decide)).trans (hhl k)
                      have htp : I32 a0 1 = 0 := (h_n1 eI32 t_a0 tlw (by decide)).trans htp
                      obtain ⟨v33, ev33⟩ : ∃ z : Int32, z = v24 + 1 := ⟨_, rfl⟩
                      have jv33 : v33.toInt = v24.toInt + 1 := xi_add ev33 rfl (by decide) (by omega) (by omega)
                      refine lv_iinc (v := v33) (lv' := [(4, .int v33), (0, .ref a0), (1, .int y), (3, .int v17)]) hx hb dX12_laws_165 hl (k := 3) rfl (by rw [ev33]; rfl) (by decide) rfl (fun ls hl => ?_)
                      refine lv_goto (tgt := 135) hx hb dX12_laws_168 (by decide) ?_
                      exact ih135 I32 _ _ _ v33 g hI hF (lv_sub hl [1, 2, 3, 0] rfl) (by omega) (q_cpmore (y := y_t.toNat) hx135_0 (by omega) (by omega) (by omega) eI32 (show v29.toInt = 16 * y_t.toNat + v24.toInt by omega) (show v30.toInt = 160 + v24.toInt by omega) ev31 (by omega)) (fun i hi => by rw [h_n2 eI32 (h_kne (t := v29.toInt) rfl (by omega) (by omega))]; exact hx135_1 i hi) hsz hrw hfa hhl htp (by omega)
                have kc34 : (0 : Int32).toInt = 0 := by decide
                exact loop135_2 _ I18 _ _ _ (0) g hI hF (lv_sub hl [1, 2, 4, 0] rfl) ⟨by decide, by decide⟩ (fun j hj => absurd hj (by omega)) (hru) hsz hrw hfa hhl htp (show (16 - (0 : Int)) < (((16 - (0 : Int)).toNat + 1 : Nat) : Int) by omega)
              · have ic23 := (xi_ne c23 rfl (by decide) : v22.toInt ≠ 4)
                refine lv_aload_n hx hb dX12_laws_91 rfl (lv_at hl 0 rfl) ?_
                refine h_get (v := .int v22) hx hb hts iX12 hown g t_a0 (by decide) so_13 rfl 3 (by decide) (hts (.fieldLink RX12 146 "CapLeagueModel" "sort" "I") (by decide +kernel)) rfl dX12_laws_92 (congrArg Value.int (ev22.symm)) ?_
                refine lv_iconst (v := 1) hx hb dX12_laws_95 (by decide) ?_
                refine lv_icmp_ne (tgt := 108) hx hb dX12_laws_96 (by decide) (fun c35 => ?_) (fun c35 => ?_)
                · have ic35 := (xi_ne c35 rfl (by decide) : v22.toInt ≠ 1)
                  refine lv_iconst (v := 0) hx hb dX12_laws_108 (by decide) ?_
                  refine lv_istore (lv' := [(4, .int 0), (0, .ref a0), (1, .int y), (2, .int v16), (3, .int v17)]) hx hb dX12_laws_109 hl (by decide) rfl (fun ls hl => ?_)
                  refine lv_aload_n hx hb dX12_laws_111 rfl (lv_at hl 1 rfl) ?_
                  refine lv_iload_n hx hb dX12_laws_112 rfl (lv_at hl 3 rfl) ?_
                  have hFo := hF
                  have hszo := hsz
                  refine va_calli (va_runV (As := [.int v16]) (rest := []) ⟨hx, hb, hml, hown, hts⟩ (tX12_readLineF l E X A z I18 L0 a0 t_a0 v16 (v16.toInt) rfl (u19) (by rw [alw]; exact hru) (T21) (hto) (P20) (by rw [abt, show I18 bt = I0 bt from funext (fun k => hF.at tbt rfl), show I18 a0 2 = f0_1 from hsz, ← egb]; exact htc)) (cwV 1 hts gX12_laws_X12_readLine rfl rfl rfl (by decide +kernel) ⟨Nat.le_of_ble_eq_true rfl, Nat.le_of_ble_eq_true rfl⟩) ⟨h_blind _ _ _ _ _ _ _, h_recv g t_a0 (by decide) so_13 (q := (RX12, TX12, 51)) rfl, h_pre _ hE hk hX hA hI hR g⟩ rfl rfl hl.1 rfl (lv_room (Nat.le_of_ble_eq_true rfl)) dX12_laws_113 ⟨Nat.le_of_ble_eq_true rfl, Nat.le_of_ble_eq_true rfl⟩) g.2.1 (fun q _ h => h) (fun q h => h) (fun rh36 I37 t H1 locs ht hvm h36 hB hz1 hk1 hS => ?_)
                  obtain ⟨hI, fh36, h36⟩ := h36
                  replace g := h_after g hB ht hS
                  generalize H1 = H at g
                  clear hB hk1 hz1 ht hvm hS
                  have hF := hF.call fh36 rfl
                  obtain ⟨h36, h36p0, h36p1⟩ := h36
                  have hsz : I37 a0 2 = f0_1 := (fh36.at t_a0 rfl).trans hsz
                  rw [alw] at h36p1
                  have hrw : ∀ k : Nat, (k < 160 ∨ 176 ≤ k) → (k < 16 * y_t.toNat ∨ 16 * y_t.toNat + 16 ≤ k) → I37 lw k = I0 lw k := fun k hk hk2 => (h36p1 k hk).trans (hrw k hk hk2)
                  have hrx : ∀ k : Nat, (k < 160 ∨ 176 ≤ k) → I37 lw k = I0 lw k := fun k hk => (h36p1 k hk).trans (hrx k hk)
                  have hhl : ∀ k : Nat, I37 hy k = I0 hy k := fun k => (fh36.at thy rfl).trans (hhl k)
                  have htp : I37 a0 1 = 0 := (fh36.at t_a0 rfl).trans htp
                  rw [abt, show I18 bt = I0 bt from funext (fun k => hFo.at tbt rfl), show I18 a0 2 = f0_1 from hszo, ← egb, alw] at h36p0
                  refine lv_if_ne (tgt := 121) hx hb dX12_laws_116 (by decide) (fun c38 => ?_) (fun c38 => ?_)
                  · have ic38 := (xi_ne c38 rfl (by decide) : rh36.toInt ≠ 0)
                    obtain ⟨l2, l3, l4, l5, l6, l7⟩ : (q_line gb P20 T21 u19).1 = 0 ∧ h_ru I37 lw (q_line gb P20 T21 u19).2.2.2 ∧ h_tk gb I37 a0 (q_line gb P20 T21 u19).2.2.1 ∧ I37 a0 8 = I18 a0 8 ∧ I37 a0 9 = I18 a0 9 ∧ P20 < (q_line gb P20 T21 u19).2.2.1 := by rcases h36p0 with q | q; exact q.2; exact absurd q.1 (by omega)
                    exact absurd (q_line_1 l2) (by omega)
                  · have ic38 := (xi_eq c38 rfl (by decide) : rh36.toInt = 0)
                    refine lv_iconst (v := (-1)) hx hb dX12_laws_119 (by decide) ?_
                    have hS := g.2.1
                    exact W.iret (v := (-1)) hx hb hr (fun t ht hW => ⟨⟨(-1), I37, rfl, ⟨hI, hF, ⟨(by rw [abt, alw, ahy, qf0_1, qf0_12, ← egb]; have li : (q_line gb P20 T21 u19).1 ≠ 0 ∧ (I37 a0 8).toInt = (q_line gb P20 T21 u19).1 ∧ (I37 a0 9).toInt = (q_line gb P20 T21 u19).2.1 := (by rcases h36p0 with q | q; exact absurd q.1 (by omega); exact q.2); have R : q_text gb 501 0 (fun _ => false) q_pl 0 = ((q_line gb P20 T21 u19).1, (q_line gb P20 T21 u19).2.1, -1, u19) := hx83_0.trans (q_text_f (by omega) (by omega) (by omega) li.1); rw [R]; exact Or.inr ⟨by omega, li.2.1, li.2.2, (by decide : (-1 : Int32).toInt = -1), Or.inl ⟨li.1, hrx, hhl⟩⟩), (by rw [htp]; decide), (by rw [alw]; exact h_J1_out hJ hrx)⟩⟩, h_ret g ht⟩, hS.F ht⟩) hS.2.2 dX12_laws_120
                · have ic35 := (xi_eq c35 rfl (by decide) : v22.toInt = 1)
                  refine lv_iconst (v := 1) hx hb dX12_laws_99 (by decide) ?_
                  refine lv_aload_n hx hb dX12_laws_100 rfl (lv_at hl 0 rfl) ?_
                  refine h_get (v := .int (I18 a0 4)) hx hb hts iX12 hown g t_a0 (by decide) so_13 rfl 4 (by decide) (hts (.fieldLink RX12 157 "CapLeagueModel" "what" "I") (by decide +kernel)) rfl dX12_laws_101 rfl ?_
                  refine lv_topi (fun v39 ev39 => ?_)
                  have jv39 := hI.rd a0 4 t_a0 ev39 (rfl : h_bd 13 4 = ((-1), 60))
                  rw [← ev39] at hu
                  have w07 : 0 ≤ v39.toInt ∧ v39.toInt ≤ 7 ∧ v39.toInt = q_w gb P20 ∧ q_k gb P20 = 1 := by omega
                  refine lv_ishl hx hb dX12_laws_104 ?_
                  refine lv_topi (fun v40 ev40 => ?_)
                  have jv40 : -2147483648 ≤ v40.toInt ∧ v40.toInt ≤ 2147483647 := ⟨xi_lo _, Int.le_of_lt_add_one (xi_hi _)⟩
                  refine lv_goto (tgt := 109) hx hb dX12_laws_105 (by decide) ?_
                  refine lv_istore (lv' := [(4, .int v40), (0, .ref a0), (1, .int y), (2, .int v16), (3, .int v17)]) hx hb dX12_laws_109 hl (by decide) rfl (fun ls hl => ?_)
                  refine lv_aload_n hx hb dX12_laws_111 rfl (lv_at hl 1 rfl) ?_
                  refine lv_iload_n hx hb dX12_laws_112 rfl (lv_at hl 3 rfl) ?_
                  have hFo := hF
                  have hszo := hsz
                  refine va_calli (va_runV (As := [.int v16]) (rest := []) ⟨hx, hb, hml, hown, hts⟩ (tX12_readLineF l E X A z I18 L0 a0 t_a0 v16 (v16.toInt) rfl (u19) (by rw [alw]; exact hru) (T21) (hto) (P20) (by rw [abt, show I18 bt = I0 bt from funext (fun k => hF.at tbt rfl), show I18 a0 2 = f0_1 from hsz, ← egb]; exact htc)) (cwV 1 hts gX12_laws_X12_readLine rfl rfl rfl (by decide +kernel) ⟨Nat.le_of_ble_eq_true rfl, Nat.le_of_ble_eq_true rfl⟩) ⟨h_blind _ _ _ _ _ _ _, h_recv g t_a0 (by decide) so_13 (q := (RX12, TX12, 51)) rfl, h_pre _ hE hk hX hA hI hR g⟩ rfl rfl hl.1 rfl (lv_room (Nat.le_of_ble_eq_true rfl)) dX12_laws_113 ⟨Nat.le_of_ble_eq_true rfl, Nat.le_of_ble_eq_true rfl⟩) g.2.1 (fun q _ h => h) (fun q h => h) (fun rh41 I42 t H1 locs ht hvm h41 hB hz1 hk1 hS => ?_)
                  obtain ⟨hI, fh41, h41⟩ := h41
                  replace g := h_after g hB ht hS
                  generalize H1 = H at g
                  clear hB hk1 hz1 ht hvm hS
                  have hF := hF.call fh41 rfl
                  obtain ⟨h41, h41p0, h41p1⟩ := h41
                  have hsz : I42 a0 2 = f0_1 := (fh41.at t_a0 rfl).trans hsz
                  rw [alw] at h41p1
                  have hrw : ∀ k : Nat, (k < 160 ∨ 176 ≤ k) → (k < 16 * y_t.toNat ∨ 16 * y_t.toNat + 16 ≤ k) → I42 lw k = I0 lw k := fun k hk hk2 => (h41p1 k hk).trans (hrw k hk hk2)
                  have hrx : ∀ k : Nat, (k < 160 ∨ 176 ≤ k) → I42 lw k = I0 lw k := fun k hk => (h41p1 k hk).trans (hrx k hk)
                  have hhl : ∀ k : Nat, I42 hy k = I0 hy k := fun k => (fh41.at thy rfl).trans (hhl k)
                  have htp : I42 a0 1 = 0 := (fh41.at t_a0 rfl).trans htp
                  rw [abt, show I18 bt = I0 bt from funext (fun k => hFo.at tbt rfl), show I18 a0 2 = f0_1 from hszo, ← egb, alw] at h41p0
                  refine lv_if_ne (tgt := 121) hx hb dX12_laws_116 (by decide) (fun c43 => ?_) (fun c43 => ?_)
                  · have ic43 := (xi_ne c43 rfl (by decide) : rh41.toInt ≠ 0)
                    obtain ⟨l2, l3, l4, l5, l6, l7⟩ : (q_line gb P20 T21 u19).1 = 0 ∧ h_ru I42 lw (q_line gb P20 T21 u19).2.2.2 ∧ h_tk gb I42 a0 (q_line gb P20 T21 u19).2.2.1 ∧ I42 a0 8 = I18 a0 8 ∧ I42 a0 9 = I18 a0 9 ∧ P20 < (q_line gb P20 T21 u19).2.2.1 := by rcases h41p0 with q | q; exact q.2; exact absurd q.1 (by omega)
                    have hru := l3
                    have htc := l4
                    have hfa : I42 a0 8 = 0 ∧ I42 a0 9 = -1 := ⟨l5.trans hfa.1, l6.trans hfa.2⟩
                    have hq := htc
                    unfold h_tk at hq
                    refine lv_iload_n hx hb dX12_laws_121 rfl (lv_at hl 3 rfl) ?_
                    refine lv_iload hx hb dX12_laws_122 (lv_at hl 0 rfl) ?_
                    refine lv_ior hx hb dX12_laws_124 ?_
                    refine lv_topi (fun v44 ev44 => ?_)
                    have jv44 : -2147483648 ≤ v44.toInt ∧ v44.toInt ≤ 2147483647 := ⟨xi_lo _, Int.le_of_lt_add_one (xi_hi _)⟩
                    have hto := hto.or (w := v39.toInt) w07.1 w07.2.1 rfl ev40 ev44
                    rw [w07.2.2.1] at hto
                    refine lv_istore_n (lv' := [(2, .int v44), (4, .int v40), (0, .ref a0), (1, .int y), (3, .int v17)]) hx hb dX12_laws_125 rfl hl (by decide) rfl (fun ls hl => ?_)
                    obtain ⟨v45, ev45⟩ : ∃ z : Int32, z = v17 + 1 := ⟨_, rfl⟩
                    have jv45 : v45.toInt = v17.toInt + 1 := xi_add ev45 rfl (by decide) (by omega) (by omega)
                    refine lv_iinc (v := v45) (lv' := [(3, .int v45), (2, .int v44), (4, .int v40), (0, .ref a0), (1, .int y)]) hx hb dX12_laws_126 hl (k := 4) rfl (by rw [ev45]; rfl) (by decide) rfl (fun ls hl => ?_)
                    refine lv_goto (tgt := 83) hx hb dX12_laws_129 (by decide) ?_
                    exact ih83 I42 _ _ _ v44 v45 ((q_line gb P20 T21 u19).2.2.2) ((q_line gb P20 T21 u19).2.2.1) ((fun c => T21 c || decide (c = q_w gb P20))) g hI hF (lv_sub hl [3, 4, 1, 0] rfl) (by omega) (by omega) (hx83_0.trans (q_text_go (m := v17.toInt) (by omega) (by omega) (by omega) (by omega) l2 rfl)) (by omega) hsz hrw hru hfa htc hto hrx hhl htp (by omega)
                  · have ic43 := (xi_eq c43 rfl (by decide) : rh41.toInt = 0)
                    refine lv_iconst (v := (-1)) hx hb dX12_laws_119 (by decide) ?_
                    have hS := g.2.1
                    exact W.iret (v := (-1)) hx hb hr (fun t ht hW => ⟨⟨(-1), I42, rfl, ⟨hI, hF, ⟨(by rw [abt, alw, ahy, qf0_1, qf0_12, ← egb]; have li : (q_line gb P20 T21 u19).1 ≠ 0 ∧ (I42 a0 8).toInt = (q_line gb P20 T21 u19).1 ∧ (I42 a0 9).toInt = (q_line gb P20 T21 u19).2.1 := (by rcases h41p0 with q | q; exact absurd q.1 (by omega); exact q.2); have R : q_text gb 501 0 (fun _ => false) q_pl 0 = ((q_line gb P20 T21 u19).1, (q_line gb P20 T21 u19).2.1, -1, u19) := hx83_0.trans (q_text_f (by omega) (by omega) (by omega) li.1); rw [R]; exact Or.inr ⟨by omega, li.2.1, li.2.2, (by decide : (-1 : Int32).toInt = -1), Or.inl ⟨li.1, hrx, hhl⟩⟩), (by rw [htp]; decide), (by rw [alw]; exact h_J1_out hJ hrx)⟩⟩, h_ret g ht⟩, hS.F ht⟩) hS.2.2 dX12_laws_120
          have kc46 : (0 : Int32).toInt = 0 := by decide
          have kc47 : (0 : Int32).toInt = 0 := by decide
          exact loop83_1 _ I15 _ _ _ (0) (0) (q_pl) ((0 : Int)) ((fun _ => false)) g hI hF (lv_sub hl [2, 3, 1, 0] rfl) ⟨by decide, by decide⟩ ⟨by decide, by decide⟩ (by rw [show (0 : Int32).toInt = 0 by decide, show ((501 : Int) - 0).toNat = 501 by decide]) (⟨by decide, by decide⟩) hsz hrw hru hfa htc hto hrx hhl htp (show (501 - (0 : Int)) < (((501 - (0 : Int)).toNat + 1 : Nat) : Int) by omega)
        · have ic12 := (xi_nle c12 (by decide) rfl : v10.toInt < 16)
          refine lv_aload_n hx hb dX12_laws_50 rfl (lv_at hl 0 rfl) ?_
          refine h_get (v := .ref lw) hx hb hts iX12 hown g t_a0 (by decide) so_13 rfl 10 (by decide) (hts (.fieldLink RX12 17 "CapLeagueModel" "laws" "[I") (by decide +kernel)) rfl dX12_laws_51 (by show va_rf (z.R a0 10) = _; rw [rlw]; rfl) ?_
          refine lv_sipush (v := 160) hx hb dX12_laws_54 (by decide) ?_
          refine lv_iload_n hx hb dX12_laws_57 rfl (lv_at hl 2 rfl) ?_
          refine lv_iadd hx hb dX12_laws_58 ?_
          refine lv_topi (fun v48 ev48 => ?_)
          have jv48 : v48.toInt = 160 + v10.toInt := xi_add ev48 (by decide) rfl (by omega) (by omega)
          refine lv_iload_n hx hb dX12_laws_59 rfl (lv_at hl 2 rfl) ?_
          refine vp_callSi (W.runS (As := [.int v10]) (rest := [.int v48, .ref lw]) ⟨hx, hb, hml, hown, hts⟩ (tX12_plainF l E X A z I11 L0 v10 (v10.toInt) rfl) (va_cwS 1 hts gX12_laws_X12_plain rfl rfl rfl (by decide +kernel) ⟨Nat.le_of_ble_eq_true rfl, Nat.le_of_ble_eq_true rfl⟩) ⟨h_blind _ _ _ _ _ _ _, h_pre _ hE hk hX hA hI hR g⟩ rfl rfl hl.1 rfl (lv_room (Nat.le_of_ble_eq_true rfl)) dX12_laws_60 ⟨Nat.le_of_ble_eq_true rfl, Nat.le_of_ble_eq_true rfl⟩) (fun rh49 h49 => ?_)
          obtain ⟨h49p0, h49p1⟩ := h49
          have jrh49 : -2147483648 ≤ rh49.toInt ∧ rh49.toInt ≤ 2147483647 := ⟨xi_lo _, Int.le_of_lt_add_one (xi_hi _)⟩
          refine h_ast hx hb g tlw (by decide) so_1310 (xi_in (by omega) (by omega)) dX12_laws_63 (fun I50 H locs eI50 g => ?_)
          have hI := h_lww hI eI50 tlw (k := v48.toInt) rfl (by omega) (by omega) (by omega)
          have hF := hF.wr eI50 tlw rfl
          have hsz : I50 a0 2 = f0_1 := (h_n1 eI50 t_a0 tlw (by decide)).trans hsz
          have hrw : ∀ k : Nat, (k < 160 ∨ 176 ≤ k) → (k < 16 * y_t.toNat ∨ 16 * y_t.toNat + 16 ≤ k) → I50 lw k = I0 lw k := fun k hk hk2 => (h_n2 eI50 (h_kne (t := v48.toInt) rfl (by omega) (by omega))).trans (hrw k hk hk2)
          have hfa : I50 a0 8 = 0 ∧ I50 a0 9 = -1 := ⟨(h_n1 eI50 t_a0 tlw (by decide)).trans hfa.1, (h_n1 eI50 t_a0 tlw (by decide)).trans hfa.2⟩
          have hrx : ∀ k : Nat, (k < 160 ∨ 176 ≤ k) → I50 lw k = I0 lw k := fun k hk => (h_n2 eI50 (h_kne (t := v48.toInt) rfl (by omega) (by omega))).trans (hrx k hk)
          have hhl : ∀ k : Nat, I50 hy k = I0 hy k := fun k => (h_n1 eI50 thy tlw (by decide)).trans (hhl k)
          have htp : I50 a0 1 = 0 := (h_n1 eI50 t_a0 tlw (by decide)).trans htp
          obtain ⟨v51, ev51⟩ : ∃ z : Int32, z = v10 + 1 := ⟨_, rfl⟩
          have jv51 : v51.toInt = v10.toInt + 1 := xi_add ev51 rfl (by decide) (by omega) (by omega)
          refine lv_iinc (v := v51) (lv' := [(2, .int v51), (0, .ref a0), (1, .int y)]) hx hb dX12_laws_64 hl (k := 2) rfl (by rw [ev51]; rfl) (by decide) rfl (fun ls hl => ?_)
          refine lv_goto (tgt := 44) hx hb dX12_laws_67 (by decide) ?_
          exact ih44 I50 _ _ _ v51 g hI hF (lv_sub hl [1, 2, 0] rfl) (by omega) (q_plmore hx44_0 (by omega) eI50 (show v48.toInt = 160 + v10.toInt by omega) (by rcases h49p0 with q | q; exact q; omega) (by omega)) hsz hrw hfa hrx hhl htp (by omega)
    have kc52 : (0 : Int32).toInt = 0 := by decide
    exact loop44_0 _ I9 _ _ _ (0) g hI hF (lv_sub hl [1, 2, 0] rfl) ⟨by decide, by decide⟩ (fun i hi => absurd hi (by omega)) hsz hrw hfa hrx hhl htp (show (16 - (0 : Int)) < (((16 - (0 : Int)).toNat + 1 : Nat) : Int) by omega)

