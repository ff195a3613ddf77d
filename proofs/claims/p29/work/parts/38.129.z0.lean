set_option maxHeartbeats 4000000 in
set_option maxRecDepth 100000 in
theorem tX12_plainZ (l : Launch) (E : tE) (X : tX) (A : Nat → Prop) (z : tZ) (I0 : tI) (L0 : tL) (k : Int32) (k_t : Int) (h_k : k.toInt = k_t) : Met l yX12_plain wsX12_plain ({ frames := 1, cells := 0, slots := 0, locals := 64 }) (va_Pc [.int k] (h_P E X A z I0 L0)) (vp_Si (fun r => (r.toInt = q_pl k_t.toNat ∨ k_t < 0) ∧ (k_t < 8 ∨ (0 ≤ r.toInt ∧ r.toInt ≤ 1)))) 0 0 (fun _ => False) := by
  refine Met.ofW (cc := cX12_plain) (maxL := 1) (ret := (some .int)) (by decide) rfl ?_
  intro pr_ ev_ s m args below meth cd_ s₁ B hml hv
  obtain ⟨rfl, hE, hk, hX, hA, hK, hI, hR, hB0⟩ := hv
  have g : h_G h_so h_fk E A z I0 L0 s s.heap s.heap [] := ⟨hK, va_S.rf, hB0⟩
  have hx := B.exec
  have hb := B.bytes
  have hr := B.returns
  have hts := atoms_spec (ws := wsX12_plain) B.pre
  have hown : s.vm.findClass RX12 = some m.cls := findClass_of_methodNamed B.named
  have hlocks := B.notSynchronized
  have hl := lv_entry ([.int k]) (n := 1) (Nat.le_of_ble_eq_true rfl)
  rw [lg_entry_eq]
  generalize (lg_sl ([.int k]) ++ List.replicate (1 - (lg_sl ([.int k])).length) Slot.unset).toArray = ls at hl ⊢
  have hl : lv_has ls 1 [(0, .int k)] := hl
  have b_k : -2147483648 ≤ k_t ∧ k_t ≤ 2147483647 := h_k ▸ ⟨xi_lo k, Int.le_of_lt_add_one (xi_hi k)⟩
  refine lv_iload_n hx hb dX12_plain_0 rfl (lv_at hl 0 rfl) ?_
  have qc1 : k.toInt = k_t := h_k
  rcases (show (k.toInt < 0 ∨ 9 < k.toInt) ∨ k.toInt = 0 ∨ k.toInt = 1 ∨ k.toInt = 2 ∨ k.toInt = 3 ∨ k.toInt = 4 ∨ k.toInt = 5 ∨ k.toInt = 6 ∨ k.toInt = 7 ∨ k.toInt = 8 ∨ k.toInt = 9 by omega) with c1 | c1 | c1 | c1 | c1 | c1 | c1 | c1 | c1 | c1 | c1
  · refine lv_tableOut (tgt := 72) hx hb dX12_plain_1 c1 (by decide) ?_
    refine lv_iconst (v := 0) hx hb dX12_plain_72 (by decide) ?_
    exact W.iret (v := 0) hx hb hr (fun t ht hW => ⟨0, rfl, ⟨(by by_cases h9 : k_t < 0; exact Or.inr h9; have e9 : q_pl k_t.toNat = 0 := (by unfold q_pl; repeat (first | rw [if_pos (by omega)] | rw [if_neg (by omega)])); exact Or.inl (by rw [e9]; decide)), (by have qr : (0 : Int32).toInt = 0 := (by decide); omega)⟩, ht⟩) (fun _ h => by cases h) dX12_plain_73
  · refine lv_tableIn (off := 55) (tgt := 56) hx hb dX12_plain_1 (by omega) (by omega) (by rw [show (k.toInt - 0).toNat = 0 by omega]; rfl) (by decide) ?_
    refine lv_sipush (v := 1000) hx hb dX12_plain_56 (by decide) ?_
    exact W.iret (v := 1000) hx hb hr (fun t ht hW => ⟨1000, rfl, ⟨(by by_cases h9 : k_t < 0; exact Or.inr h9; have e9 : q_pl k_t.toNat = 1000 := (by unfold q_pl; repeat (first | rw [if_pos (by omega)] | rw [if_neg (by omega)])); exact Or.inl (by rw [e9]; decide)), (by have qr : (1000 : Int32).toInt = 1000 := (by decide); omega)⟩, ht⟩) (fun _ h => by cases h) dX12_plain_59
  · refine lv_tableIn (off := 59) (tgt := 60) hx hb dX12_plain_1 (by omega) (by omega) (by rw [show (k.toInt - 0).toNat = 1 by omega]; rfl) (by decide) ?_
    refine lv_bipush (v := 15) hx hb dX12_plain_60 (by decide) ?_
    exact W.iret (v := 15) hx hb hr (fun t ht hW => ⟨15, rfl, ⟨(by by_cases h9 : k_t < 0; exact Or.inr h9; have e9 : q_pl k_t.toNat = 15 := (by unfold q_pl; repeat (first | rw [if_pos (by omega)] | rw [if_neg (by omega)])); exact Or.inl (by rw [e9]; decide)), (by have qr : (15 : Int32).toInt = 15 := (by decide); omega)⟩, ht⟩) (fun _ h => by cases h) dX12_plain_62
  · refine lv_tableIn (off := 62) (tgt := 63) hx hb dX12_plain_1 (by omega) (by omega) (by rw [show (k.toInt - 0).toNat = 2 by omega]; rfl) (by decide) ?_
    refine lv_iconst (v := 4) hx hb dX12_plain_63 (by decide) ?_
    exact W.iret (v := 4) hx hb hr (fun t ht hW => ⟨4, rfl, ⟨(by by_cases h9 : k_t < 0; exact Or.inr h9; have e9 : q_pl k_t.toNat = 4 := (by unfold q_pl; repeat (first | rw [if_pos (by omega)] | rw [if_neg (by omega)])); exact Or.inl (by rw [e9]; decide)), (by have qr : (4 : Int32).toInt = 4 := (by decide); omega)⟩, ht⟩) (fun _ h => by cases h) dX12_plain_64
  · refine lv_tableIn (off := 71) (tgt := 72) hx hb dX12_plain_1 (by omega) (by omega) (by rw [show (k.toInt - 0).toNat = 3 by omega]; rfl) (by decide) ?_
    refine lv_iconst (v := 0) hx hb dX12_plain_72 (by decide) ?_
    exact W.iret (v := 0) hx hb hr (fun t ht hW => ⟨0, rfl, ⟨(by by_cases h9 : k_t < 0; exact Or.inr h9; have e9 : q_pl k_t.toNat = 0 := (by unfold q_pl; repeat (first | rw [if_pos (by omega)] | rw [if_neg (by omega)])); exact Or.inl (by rw [e9]; decide)), (by have qr : (0 : Int32).toInt = 0 := (by decide); omega)⟩, ht⟩) (fun _ h => by cases h) dX12_plain_73
  · refine lv_tableIn (off := 64) (tgt := 65) hx hb dX12_plain_1 (by omega) (by omega) (by rw [show (k.toInt - 0).toNat = 4 by omega]; rfl) (by decide) ?_
    refine lv_bipush (v := 100) hx hb dX12_plain_65 (by decide) ?_
    exact W.iret (v := 100) hx hb hr (fun t ht hW => ⟨100, rfl, ⟨(by by_cases h9 : k_t < 0; exact Or.inr h9; have e9 : q_pl k_t.toNat = 100 := (by unfold q_pl; repeat (first | rw [if_pos (by omega)] | rw [if_neg (by omega)])); exact Or.inl (by rw [e9]; decide)), (by have qr : (100 : Int32).toInt = 100 := (by decide); omega)⟩, ht⟩) (fun _ h => by cases h) dX12_plain_67
  · refine lv_tableIn (off := 71) (tgt := 72) hx hb dX12_plain_1 (by omega) (by omega) (by rw [show (k.toInt - 0).toNat = 5 by omega]; rfl) (by decide) ?_
    refine lv_iconst (v := 0) hx hb dX12_plain_72 (by decide) ?_
    exact W.iret (v := 0) hx hb hr (fun t ht hW => ⟨0, rfl, ⟨(by by_cases h9 : k_t < 0; exact Or.inr h9; have e9 : q_pl k_t.toNat = 0 := (by unfold q_pl; repeat (first | rw [if_pos (by omega)] | rw [if_neg (by omega)])); exact Or.inl (by rw [e9]; decide)), (by have qr : (0 : Int32).toInt = 0 := (by decide); omega)⟩, ht⟩) (fun _ h => by cases h) dX12_plain_73
  · refine lv_tableIn (off := 71) (tgt := 72) hx hb dX12_plain_1 (by omega) (by omega) (by rw [show (k.toInt - 0).toNat = 6 by omega]; rfl) (by decide) ?_
    refine lv_iconst (v := 0) hx hb dX12_plain_72 (by decide) ?_
    exact W.iret (v := 0) hx hb hr (fun t ht hW => ⟨0, rfl, ⟨(by by_cases h9 : k_t < 0; exact Or.inr h9; have e9 : q_pl k_t.toNat = 0 := (by unfold q_pl; repeat (first | rw [if_pos (by omega)] | rw [if_neg (by omega)])); exact Or.inl (by rw [e9]; decide)), (by have qr : (0 : Int32).toInt = 0 := (by decide); omega)⟩, ht⟩) (fun _ h => by cases h) dX12_plain_73
  · refine lv_tableIn (off := 71) (tgt := 72) hx hb dX12_plain_1 (by omega) (by omega) (by rw [show (k.toInt - 0).toNat = 7 by omega]; rfl) (by decide) ?_
    refine lv_iconst (v := 0) hx hb dX12_plain_72 (by decide) ?_
    exact W.iret (v := 0) hx hb hr (fun t ht hW => ⟨0, rfl, ⟨(by by_cases h9 : k_t < 0; exact Or.inr h9; have e9 : q_pl k_t.toNat = 0 := (by unfold q_pl; repeat (first | rw [if_pos (by omega)] | rw [if_neg (by omega)])); exact Or.inl (by rw [e9]; decide)), (by have qr : (0 : Int32).toInt = 0 := (by decide); omega)⟩, ht⟩) (fun _ h => by cases h) dX12_plain_73
  · refine lv_tableIn (off := 67) (tgt := 68) hx hb dX12_plain_1 (by omega) (by omega) (by rw [show (k.toInt - 0).toNat = 8 by omega]; rfl) (by decide) ?_
    refine lv_iconst (v := 1) hx hb dX12_plain_68 (by decide) ?_
    exact W.iret (v := 1) hx hb hr (fun t ht hW => ⟨1, rfl, ⟨(by by_cases h9 : k_t < 0; exact Or.inr h9; have e9 : q_pl k_t.toNat = 1 := (by unfold q_pl; repeat (first | rw [if_pos (by omega)] | rw [if_neg (by omega)])); exact Or.inl (by rw [e9]; decide)), (by have qr : (1 : Int32).toInt = 1 := (by decide); omega)⟩, ht⟩) (fun _ h => by cases h) dX12_plain_69
  · refine lv_tableIn (off := 69) (tgt := 70) hx hb dX12_plain_1 (by omega) (by omega) (by rw [show (k.toInt - 0).toNat = 9 by omega]; rfl) (by decide) ?_
    refine lv_iconst (v := 1) hx hb dX12_plain_70 (by decide) ?_
    exact W.iret (v := 1) hx hb hr (fun t ht hW => ⟨1, rfl, ⟨(by by_cases h9 : k_t < 0; exact Or.inr h9; have e9 : q_pl k_t.toNat = 1 := (by unfold q_pl; repeat (first | rw [if_pos (by omega)] | rw [if_neg (by omega)])); exact Or.inl (by rw [e9]; decide)), (by have qr : (1 : Int32).toInt = 1 := (by decide); omega)⟩, ht⟩) (fun _ h => by cases h) dX12_plain_71

