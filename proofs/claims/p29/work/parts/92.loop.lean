theorem xsw_31 (z : Int) : (z < 0 ∨ 30 < z) ∨ ∃ k : Nat, k < 31 ∧ z = k := by
  by_cases h : z < 0 ∨ 30 < z
  · exact Or.inl h
  · exact Or.inr ⟨z.toNat, by omega, by omega⟩
theorem xsw_go {P : Prop} {k : Nat} (h : k < 31) (h0 : k = 0 → P) (h1 : k = 1 → P) (h2 : k = 2 → P) (h3 : k = 3 → P) (h4 : k = 4 → P) (h5 : k = 5 → P) (h6 : k = 6 → P) (h7 : k = 7 → P) (h8 : k = 8 → P) (h9 : k = 9 → P) (h10 : k = 10 → P) (h11 : k = 11 → P) (h12 : k = 12 → P) (h13 : k = 13 → P) (h14 : k = 14 → P) (h15 : k = 15 → P) (h16 : k = 16 → P) (h17 : k = 17 → P) (h18 : k = 18 → P) (h19 : k = 19 → P) (h20 : k = 20 → P) (h21 : k = 21 → P) (h22 : k = 22 → P) (h23 : k = 23 → P) (h24 : k = 24 → P) (h25 : k = 25 → P) (h26 : k = 26 → P) (h27 : k = 27 → P) (h28 : k = 28 → P) (h29 : k = 29 → P) (h30 : k = 30 → P) : P :=
  match k, h, h0, h1, h2, h3, h4, h5, h6, h7, h8, h9, h10, h11, h12, h13, h14, h15, h16, h17, h18, h19, h20, h21, h22, h23, h24, h25, h26, h27, h28, h29, h30 with
  | 0, _, g, _, _, _, _, _, _, _, _, _, _, _, _, _, _, _, _, _, _, _, _, _, _, _, _, _, _, _, _, _, _ => g rfl
  | 1, _, _, g, _, _, _, _, _, _, _, _, _, _, _, _, _, _, _, _, _, _, _, _, _, _, _, _, _, _, _, _, _ => g rfl
  | 2, _, _, _, g, _, _, _, _, _, _, _, _, _, _, _, _, _, _, _, _, _, _, _, _, _, _, _, _, _, _, _, _ => g rfl
  | 3, _, _, _, _, g, _, _, _, _, _, _, _, _, _, _, _, _, _, _, _, _, _, _, _, _, _, _, _, _, _, _, _ => g rfl
  | 4, _, _, _, _, _, g, _, _, _, _, _, _, _, _, _, _, _, _, _, _, _, _, _, _, _, _, _, _, _, _, _, _ => g rfl
  | 5, _, _, _, _, _, _, g, _, _, _, _, _, _, _, _, _, _, _, _, _, _, _, _, _, _, _, _, _, _, _, _, _ => g rfl
  | 6, _, _, _, _, _, _, _, g, _, _, _, _, _, _, _, _, _, _, _, _, _, _, _, _, _, _, _, _, _, _, _, _ => g rfl
  | 7, _, _, _, _, _, _, _, _, g, _, _, _, _, _, _, _, _, _, _, _, _, _, _, _, _, _, _, _, _, _, _, _ => g rfl
  | 8, _, _, _, _, _, _, _, _, _, g, _, _, _, _, _, _, _, _, _, _, _, _, _, _, _, _, _, _, _, _, _, _ => g rfl
  | 9, _, _, _, _, _, _, _, _, _, _, g, _, _, _, _, _, _, _, _, _, _, _, _, _, _, _, _, _, _, _, _, _ => g rfl
  | 10, _, _, _, _, _, _, _, _, _, _, _, g, _, _, _, _, _, _, _, _, _, _, _, _, _, _, _, _, _, _, _, _ => g rfl
  | 11, _, _, _, _, _, _, _, _, _, _, _, _, g, _, _, _, _, _, _, _, _, _, _, _, _, _, _, _, _, _, _, _ => g rfl
  | 12, _, _, _, _, _, _, _, _, _, _, _, _, _, g, _, _, _, _, _, _, _, _, _, _, _, _, _, _, _, _, _, _ => g rfl
  | 13, _, _, _, _, _, _, _, _, _, _, _, _, _, _, g, _, _, _, _, _, _, _, _, _, _, _, _, _, _, _, _, _ => g rfl
  | 14, _, _, _, _, _, _, _, _, _, _, _, _, _, _, _, g, _, _, _, _, _, _, _, _, _, _, _, _, _, _, _, _ => g rfl
  | 15, _, _, _, _, _, _, _, _, _, _, _, _, _, _, _, _, g, _, _, _, _, _, _, _, _, _, _, _, _, _, _, _ => g rfl
  | 16, _, _, _, _, _, _, _, _, _, _, _, _, _, _, _, _, _, g, _, _, _, _, _, _, _, _, _, _, _, _, _, _ => g rfl
  | 17, _, _, _, _, _, _, _, _, _, _, _, _, _, _, _, _, _, _, g, _, _, _, _, _, _, _, _, _, _, _, _, _ => g rfl
  | 18, _, _, _, _, _, _, _, _, _, _, _, _, _, _, _, _, _, _, _, g, _, _, _, _, _, _, _, _, _, _, _, _ => g rfl
  | 19, _, _, _, _, _, _, _, _, _, _, _, _, _, _, _, _, _, _, _, _, g, _, _, _, _, _, _, _, _, _, _, _ => g rfl
  | 20, _, _, _, _, _, _, _, _, _, _, _, _, _, _, _, _, _, _, _, _, _, g, _, _, _, _, _, _, _, _, _, _ => g rfl
  | 21, _, _, _, _, _, _, _, _, _, _, _, _, _, _, _, _, _, _, _, _, _, _, g, _, _, _, _, _, _, _, _, _ => g rfl
  | 22, _, _, _, _, _, _, _, _, _, _, _, _, _, _, _, _, _, _, _, _, _, _, _, g, _, _, _, _, _, _, _, _ => g rfl
  | 23, _, _, _, _, _, _, _, _, _, _, _, _, _, _, _, _, _, _, _, _, _, _, _, _, g, _, _, _, _, _, _, _ => g rfl
  | 24, _, _, _, _, _, _, _, _, _, _, _, _, _, _, _, _, _, _, _, _, _, _, _, _, _, g, _, _, _, _, _, _ => g rfl
  | 25, _, _, _, _, _, _, _, _, _, _, _, _, _, _, _, _, _, _, _, _, _, _, _, _, _, _, g, _, _, _, _, _ => g rfl
  | 26, _, _, _, _, _, _, _, _, _, _, _, _, _, _, _, _, _, _, _, _, _, _, _, _, _, _, _, g, _, _, _, _ => g rfl
  | 27, _, _, _, _, _, _, _, _, _, _, _, _, _, _, _, _, _, _, _, _, _, _, _, _, _, _, _, _, g, _, _, _ => g rfl
  | 28, _, _, _, _, _, _, _, _, _, _, _, _, _, _, _, _, _, _, _, _, _, _, _, _, _, _, _, _, _, g, _, _ => g rfl
  | 29, _, _, _, _, _, _, _, _, _, _, _, _, _, _, _, _, _, _, _, _, _, _, _, _, _, _, _, _, _, _, g, _ => g rfl
  | 30, _, _, _, _, _, _, _, _, _, _, _, _, _, _, _, _, _, _, _, _, _, _, _, _, _, _, _, _, _, _, _, g => g rfl
  | k + 31, h, _, _, _, _, _, _, _, _, _, _, _, _, _, _, _, _, _, _, _, _, _, _, _, _, _, _, _, _, _, _, _ => absurd h (by omega)
set_option maxHeartbeats 16000000 in
set_option maxRecDepth 100000 in
theorem law_loop {p : Program} {l : Launch} {e : Env} {s : State} {m : MethodId} {below : List Frame} {meth : Method} {c : Code} {b L : Nat} {xs : Nat → Int32} (C0 : lw_At p s m meth c b L xs) (hL : L ≤ 4096) {A : Nat → Prop} (hAe : (fun q : Nat => s.heap.size ≤ q) = A) {E : tE} {X : tX} (hk : h_Kr X s) (hX : h_S X A s s.heap) {cp mo : Nat} : ∀ (n : Nat) (i : Int32) (z : tZ) (I0 : tI) (L0 : tL) (H : Heap) (locs : List Loc) (ls : Array Slot) (cells slots : Nat), 0 ≤ i.toInt → i.toInt ≤ 4096 → (4104 - i.toInt) < (n : Int) → (cells : Int) * 8 ≤ 1608 + 3 * i.toInt → (slots : Int) * 8 ≤ 80000 + 17 * i.toInt → h_T E A s z I0 L0 H locs cp mo → lv_has ls 4 [(3, .int i), (2, .ref mo), (1, .ref cp), (0, .ref b)] → W p l e room_1 s m #[Value.ref b] below meth c H locs cells slots (lw_Z below #[Value.ref b] s) (F0 m 18 ls []) := by
  obtain ⟨hx, hb, hr, hml, hown, hts0, hSc, hbl, hlocks, hgv⟩ := id C0
  have hbA : ¬ A b := by rw [← hAe]; exact Nat.not_le.mpr hbl
  intro n
  induction n with
  | zero => intro i z I0 L0 H locs ls cells slots h0 h1 h2; omega
  | succ n ih =>
    intro i z I0 L0 H locs ls cells slots h0 h1 h2 hc hsl T hl
    have g := T.1
    have back : ∀ (z : tZ) (I0 : tI) (L0 : tL) (H : Heap) (locs : List Loc) (ls : Array Slot), i.toInt + 8 ≤ L → h_T E A s z I0 L0 H locs cp mo → lv_has ls 4 [(3, .int i), (2, .ref mo), (1, .ref cp), (0, .ref b)] → W p l e room_1 s m #[Value.ref b] below meth c H locs (cells + 3) (slots + 17) (lw_Z below #[Value.ref b] s) (F0 m 1241 ls []) := by
      intro z I0 L0 H locs ls h8 T hl
      obtain ⟨v, ev⟩ : ∃ z : Int32, z = i + 8 := ⟨_, rfl⟩
      have jv : v.toInt = i.toInt + 8 := xi_add ev rfl (by decide) (by omega) (by omega)
      refine lv_iinc (v := v) (lv' := [(3, .int v), (2, .ref mo), (1, .ref cp), (0, .ref b)]) hx hb dL_law_1241 hl (k := 0) rfl (by rw [ev]; rfl) (by decide) rfl (fun ls hl => ?_)
      refine lv_goto (tgt := 18) hx hb dL_law_1244 (by decide) ?_
      exact ih v z I0 L0 H locs ls (cells + 3) (slots + 17) (by omega) (by omega) (by omega) (by omega) (by omega) T hl
    refine lv_iload_n hx hb dL_law_18 rfl (lv_at hl 0 rfl) ?_
    refine lv_aload_n hx hb dL_law_19 rfl (lv_at hl 3 rfl) ?_
    refine va_slen hx hb hSc hbl hbA g.2.1 dL_law_20 ?_
    refine lv_topi (fun v1 e1 => ?_)
    have j1 : v1.toInt = L := by rw [e1]; exact nI_toInt (by omega)
    refine lv_bipush (v := 8) hx hb dL_law_21 (by decide) ?_
    refine lv_isub hx hb dL_law_23 ?_
    refine lv_topi (fun v2 e2 => ?_)
    have j2 : v2.toInt = v1.toInt - 8 := xi_sub e2 rfl (by decide) (by omega) (by omega)
    refine lv_icmp_gt (tgt := 1247) hx hb dL_law_24 (by decide) (fun c3 => ?_) (fun c3 => ?_)
    · refine lv_iconst (v := 1) hx hb dL_law_1247 (by decide) ?_
      refine va_forget (fun q hq => by have h9 := g.2.1.2.2 q hq; rw [← hAe] at h9; exact h9) ?_
      refine W.widen (k := 600000) (n := 7302250) (by omega) (by omega) ?_
      exact lw_ret hx hb hr hlocks dL_law_1248
    · have i3 := (xi_nlt c3 rfl rfl : i.toInt ≤ v2.toInt)
      have h8 : i.toInt + 8 ≤ L := by omega
      refine lv_aload_n hx hb dL_law_27 rfl (lv_at hl 3 rfl) ?_
      refine lv_iload_n hx hb dL_law_28 rfl (lv_at hl 0 rfl) ?_
      refine va_sld hx hb hSc hbl hbA g.2.1 (xi_in h0 (by omega)) dL_law_29 ?_
      refine lv_topi (fun v4 e4 => ?_)
      refine lv_bipush (v := 31) hx hb dL_law_30 (by decide) ?_
      refine lv_iand hx hb dL_law_32 ?_
      refine lv_topi (fun v5 e5 => ?_)
      rcases xsw_31 v5.toInt with hk5 | ⟨k5, hk5, ek5⟩
      · refine lv_tableOut (tgt := 1241) hx hb dL_law_33 hk5 (by decide) ?_
        exact W.widen (Nat.le_add_right _ _) (Nat.le_add_right _ _) (back z I0 L0 H locs ls h8 T hl)
      · refine xsw_go hk5 (fun ek => ?_) (fun ek => ?_) (fun ek => ?_) (fun ek => ?_) (fun ek => ?_) (fun ek => ?_) (fun ek => ?_) (fun ek => ?_) (fun ek => ?_) (fun ek => ?_) (fun ek => ?_) (fun ek => ?_) (fun ek => ?_) (fun ek => ?_) (fun ek => ?_) (fun ek => ?_) (fun ek => ?_) (fun ek => ?_) (fun ek => ?_) (fun ek => ?_) (fun ek => ?_) (fun ek => ?_) (fun ek => ?_) (fun ek => ?_) (fun ek => ?_) (fun ek => ?_) (fun ek => ?_) (fun ek => ?_) (fun ek => ?_) (fun ek => ?_) (fun ek => ?_)
        · refine lv_tableIn (off := 139) (tgt := 172) hx hb dL_law_33 (by omega) (by omega) (by rw [show (v5.toInt - 0).toNat = 0 by omega]; rfl) (by decide) ?_
          exact law_0 C0 hL hAe hk hX h0 h8 (by omega) (by omega) T hl (fun z I0 L0 H locs ls T hl => back z I0 L0 H locs ls h8 T hl)
        · refine lv_tableIn (off := 202) (tgt := 235) hx hb dL_law_33 (by omega) (by omega) (by rw [show (v5.toInt - 0).toNat = 1 by omega]; rfl) (by decide) ?_
          exact law_1 C0 hL hAe hk hX h0 h8 (by omega) (by omega) T hl (fun z I0 L0 H locs ls T hl => back z I0 L0 H locs ls h8 T hl)
        · refine lv_tableIn (off := 225) (tgt := 258) hx hb dL_law_33 (by omega) (by omega) (by rw [show (v5.toInt - 0).toNat = 2 by omega]; rfl) (by decide) ?_
          exact law_2 C0 hL hAe hk hX h0 h8 (by omega) (by omega) T hl (fun z I0 L0 H locs ls T hl => back z I0 L0 H locs ls h8 T hl)
        · refine lv_tableIn (off := 248) (tgt := 281) hx hb dL_law_33 (by omega) (by omega) (by rw [show (v5.toInt - 0).toNat = 3 by omega]; rfl) (by decide) ?_
          exact law_3 C0 hL hAe hk hX h0 h8 (by omega) (by omega) T hl (fun z I0 L0 H locs ls T hl => back z I0 L0 H locs ls h8 T hl)
        · refine lv_tableIn (off := 271) (tgt := 304) hx hb dL_law_33 (by omega) (by omega) (by rw [show (v5.toInt - 0).toNat = 4 by omega]; rfl) (by decide) ?_
          exact law_4 C0 hL hAe hk hX h0 h8 (by omega) (by omega) T hl (fun z I0 L0 H locs ls T hl => back z I0 L0 H locs ls h8 T hl)
        · refine lv_tableIn (off := 304) (tgt := 337) hx hb dL_law_33 (by omega) (by omega) (by rw [show (v5.toInt - 0).toNat = 5 by omega]; rfl) (by decide) ?_
          exact law_5 C0 hL hAe hk hX h0 h8 (by omega) (by omega) T hl (fun z I0 L0 H locs ls T hl => back z I0 L0 H locs ls h8 T hl)
        · refine lv_tableIn (off := 317) (tgt := 350) hx hb dL_law_33 (by omega) (by omega) (by rw [show (v5.toInt - 0).toNat = 6 by omega]; rfl) (by decide) ?_
          exact law_6 C0 hL hAe hk hX h0 h8 (by omega) (by omega) T hl (fun z I0 L0 H locs ls T hl => back z I0 L0 H locs ls h8 T hl)
        · refine lv_tableIn (off := 420) (tgt := 453) hx hb dL_law_33 (by omega) (by omega) (by rw [show (v5.toInt - 0).toNat = 7 by omega]; rfl) (by decide) ?_
          exact law_7 C0 hL hAe hk hX h0 h8 (by omega) (by omega) T hl (fun z I0 L0 H locs ls T hl => back z I0 L0 H locs ls h8 T hl)
        · refine lv_tableIn (off := 523) (tgt := 556) hx hb dL_law_33 (by omega) (by omega) (by rw [show (v5.toInt - 0).toNat = 8 by omega]; rfl) (by decide) ?_
          exact law_8 C0 hL hAe hk hX h0 h8 (by omega) (by omega) T hl (fun z I0 L0 H locs ls T hl => back z I0 L0 H locs ls h8 T hl)
        · refine lv_tableIn (off := 546) (tgt := 579) hx hb dL_law_33 (by omega) (by omega) (by rw [show (v5.toInt - 0).toNat = 9 by omega]; rfl) (by decide) ?_
          exact law_9 C0 hL hAe hk hX h0 h8 (by omega) (by omega) T hl (fun z I0 L0 H locs ls T hl => back z I0 L0 H locs ls h8 T hl)
        · refine lv_tableIn (off := 569) (tgt := 602) hx hb dL_law_33 (by omega) (by omega) (by rw [show (v5.toInt - 0).toNat = 10 by omega]; rfl) (by decide) ?_
          exact law_10 C0 hL hAe hk hX h0 h8 (by omega) (by omega) T hl (fun z I0 L0 H locs ls T hl => back z I0 L0 H locs ls h8 T hl)
        · refine lv_tableIn (off := 618) (tgt := 651) hx hb dL_law_33 (by omega) (by omega) (by rw [show (v5.toInt - 0).toNat = 11 by omega]; rfl) (by decide) ?_
          exact law_11 C0 hL hAe hk hX h0 h8 (by omega) (by omega) T hl (fun z I0 L0 H locs ls T hl => back z I0 L0 H locs ls h8 T hl)
        · refine lv_tableIn (off := 651) (tgt := 684) hx hb dL_law_33 (by omega) (by omega) (by rw [show (v5.toInt - 0).toNat = 12 by omega]; rfl) (by decide) ?_
          exact law_12 C0 hL hAe hk hX h0 h8 (by omega) (by omega) T hl (fun z I0 L0 H locs ls T hl => back z I0 L0 H locs ls h8 T hl)
        · refine lv_tableIn (off := 694) (tgt := 727) hx hb dL_law_33 (by omega) (by omega) (by rw [show (v5.toInt - 0).toNat = 13 by omega]; rfl) (by decide) ?_
          exact law_13 C0 hL hAe hk hX h0 h8 (by omega) (by omega) T hl (fun z I0 L0 H locs ls T hl => back z I0 L0 H locs ls h8 T hl)
        · refine lv_tableIn (off := 707) (tgt := 740) hx hb dL_law_33 (by omega) (by omega) (by rw [show (v5.toInt - 0).toNat = 14 by omega]; rfl) (by decide) ?_
          exact law_14 C0 hL hAe hk hX h0 h8 (by omega) (by omega) T hl (fun z I0 L0 H locs ls T hl => back z I0 L0 H locs ls h8 T hl)
        · refine lv_tableIn (off := 740) (tgt := 773) hx hb dL_law_33 (by omega) (by omega) (by rw [show (v5.toInt - 0).toNat = 15 by omega]; rfl) (by decide) ?_
          exact law_15 C0 hL hAe hk hX h0 h8 (by omega) (by omega) T hl (fun z I0 L0 H locs ls T hl => back z I0 L0 H locs ls h8 T hl)
        · refine lv_tableIn (off := 793) (tgt := 826) hx hb dL_law_33 (by omega) (by omega) (by rw [show (v5.toInt - 0).toNat = 16 by omega]; rfl) (by decide) ?_
          exact law_16 C0 hL hAe hk hX h0 h8 (by omega) (by omega) T hl (fun z I0 L0 H locs ls T hl => back z I0 L0 H locs ls h8 T hl)
        · refine lv_tableIn (off := 806) (tgt := 839) hx hb dL_law_33 (by omega) (by omega) (by rw [show (v5.toInt - 0).toNat = 17 by omega]; rfl) (by decide) ?_
          exact law_17 C0 hL hAe hk hX h0 h8 (by omega) (by omega) T hl (fun z I0 L0 H locs ls T hl => back z I0 L0 H locs ls h8 T hl)
        · refine lv_tableIn (off := 829) (tgt := 862) hx hb dL_law_33 (by omega) (by omega) (by rw [show (v5.toInt - 0).toNat = 18 by omega]; rfl) (by decide) ?_
          exact law_18 C0 hL hAe hk hX h0 h8 (by omega) (by omega) T hl (fun z I0 L0 H locs ls T hl => back z I0 L0 H locs ls h8 T hl)
        · refine lv_tableIn (off := 842) (tgt := 875) hx hb dL_law_33 (by omega) (by omega) (by rw [show (v5.toInt - 0).toNat = 19 by omega]; rfl) (by decide) ?_
          exact law_19 C0 hL hAe hk hX h0 h8 (by omega) (by omega) T hl (fun z I0 L0 H locs ls T hl => back z I0 L0 H locs ls h8 T hl)
        · refine lv_tableIn (off := 885) (tgt := 918) hx hb dL_law_33 (by omega) (by omega) (by rw [show (v5.toInt - 0).toNat = 20 by omega]; rfl) (by decide) ?_
          exact law_20 C0 hL hAe hk hX h0 h8 (by omega) (by omega) T hl (fun z I0 L0 H locs ls T hl => back z I0 L0 H locs ls h8 T hl)
        · refine lv_tableIn (off := 938) (tgt := 971) hx hb dL_law_33 (by omega) (by omega) (by rw [show (v5.toInt - 0).toNat = 21 by omega]; rfl) (by decide) ?_
          exact law_21 C0 hL hAe hk hX h0 h8 (by omega) (by omega) T hl (fun z I0 L0 H locs ls T hl => back z I0 L0 H locs ls h8 T hl)
        · refine lv_tableIn (off := 951) (tgt := 984) hx hb dL_law_33 (by omega) (by omega) (by rw [show (v5.toInt - 0).toNat = 22 by omega]; rfl) (by decide) ?_
          exact law_22 C0 hL hAe hk hX h0 h8 (by omega) (by omega) T hl (fun z I0 L0 H locs ls T hl => back z I0 L0 H locs ls h8 T hl)
        · refine lv_tableIn (off := 974) (tgt := 1007) hx hb dL_law_33 (by omega) (by omega) (by rw [show (v5.toInt - 0).toNat = 23 by omega]; rfl) (by decide) ?_
          exact law_23 C0 hL hAe hk hX h0 h8 (by omega) (by omega) T hl (fun z I0 L0 H locs ls T hl => back z I0 L0 H locs ls h8 T hl)
        · refine lv_tableIn (off := 987) (tgt := 1020) hx hb dL_law_33 (by omega) (by omega) (by rw [show (v5.toInt - 0).toNat = 24 by omega]; rfl) (by decide) ?_
          exact law_24 C0 hL hAe hk hX h0 h8 (by omega) (by omega) T hl (fun z I0 L0 H locs ls T hl => back z I0 L0 H locs ls h8 T hl)
        · refine lv_tableIn (off := 1030) (tgt := 1063) hx hb dL_law_33 (by omega) (by omega) (by rw [show (v5.toInt - 0).toNat = 25 by omega]; rfl) (by decide) ?_
          exact law_25 C0 hL hAe hk hX h0 h8 (by omega) (by omega) T hl (fun z I0 L0 H locs ls T hl => back z I0 L0 H locs ls h8 T hl)
        · refine lv_tableIn (off := 1063) (tgt := 1096) hx hb dL_law_33 (by omega) (by omega) (by rw [show (v5.toInt - 0).toNat = 26 by omega]; rfl) (by decide) ?_
          exact law_26 C0 hL hAe hk hX h0 h8 (by omega) (by omega) T hl (fun z I0 L0 H locs ls T hl => back z I0 L0 H locs ls h8 T hl)
        · refine lv_tableIn (off := 1106) (tgt := 1139) hx hb dL_law_33 (by omega) (by omega) (by rw [show (v5.toInt - 0).toNat = 27 by omega]; rfl) (by decide) ?_
          exact law_27 C0 hL hAe hk hX h0 h8 (by omega) (by omega) T hl (fun z I0 L0 H locs ls T hl => back z I0 L0 H locs ls h8 T hl)
        · refine lv_tableIn (off := 1149) (tgt := 1182) hx hb dL_law_33 (by omega) (by omega) (by rw [show (v5.toInt - 0).toNat = 28 by omega]; rfl) (by decide) ?_
          exact law_28 C0 hL hAe hk hX h0 h8 (by omega) (by omega) T hl (fun z I0 L0 H locs ls T hl => back z I0 L0 H locs ls h8 T hl)
        · refine lv_tableIn (off := 1162) (tgt := 1195) hx hb dL_law_33 (by omega) (by omega) (by rw [show (v5.toInt - 0).toNat = 29 by omega]; rfl) (by decide) ?_
          exact law_29 C0 hL hAe hk hX h0 h8 (by omega) (by omega) T hl (fun z I0 L0 H locs ls T hl => back z I0 L0 H locs ls h8 T hl)
        · refine lv_tableIn (off := 1185) (tgt := 1218) hx hb dL_law_33 (by omega) (by omega) (by rw [show (v5.toInt - 0).toNat = 30 by omega]; rfl) (by decide) ?_
          exact law_30 C0 hL hAe hk hX h0 h8 (by omega) (by omega) T hl (fun z I0 L0 H locs ls T hl => back z I0 L0 H locs ls h8 T hl)

