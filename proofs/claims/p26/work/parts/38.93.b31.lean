set_option maxHeartbeats 4000000 in
set_option maxRecDepth 100000 in
theorem tX11_chanceB (l : Launch) (E : tE) (X : tX) (A : Nat → Prop) (z : tZ) (I0 : tI) (L0 : tL) (a0 : Nat) (t_a0 : z.ty a0 = 12) (c : Int32) (c_t : Int) (h_c : c.toInt = c_t) (k : Int32) (k_t : Int) (h_k : k.toInt = k_t) (x : Int32) (x_t : Int) (h_x : x.toInt = x_t) (u_ : Nat → Int) (hcl : ∀ b : Nat, h_of (z.R (h_ad z (h_ad z (h_ad z a0 3) 0) 1)) (h_ad z (h_ad z (h_ad z a0 3) 0) 0) (I0 (h_ad z a0 3) 3).toInt b → h_lw I0 b (h_ad z b 0) (h_ad z b 1) u_) (hok : q_ok u_) (hex : (I0 (h_ad z a0 7) 1).toInt = 1 → ∀ c : Int, 0 ≤ c → c ≤ 7 → ∃ j : Nat, j < 8 ∧ ((I0 (h_ad z (h_ad z a0 7) 0)) j).toInt = c) : Met l yX11_chance wsX11_chance ({ frames := 5, cells := 0, slots := 0, locals := 320 }) (va_Pc [.ref a0, .int c, .int k, .int x] (h_P E X A z I0 L0)) (va_Ql (fun r (q1 : tI × tL) => h_I z q1.1 ∧ h_F [] z I0 q1.1 ∧ ((¬ (0 ≤ c_t ∧ c_t ≤ 7 ∧ 0 ≤ k_t ∧ k_t ≤ 1 ∧ 0 ≤ x_t ∧ x_t ≤ 1) ∧ r.toInt = -2) ∨ ((0 ≤ c_t ∧ c_t ≤ 7 ∧ 0 ≤ k_t ∧ k_t ≤ 1 ∧ 0 ≤ x_t ∧ x_t ≤ 1) ∧ (I0 (h_ad z a0 7) 1).toInt = 0 ∧ r.toInt = -4) ∨ ((0 ≤ c_t ∧ c_t ≤ 7 ∧ 0 ≤ k_t ∧ k_t ≤ 1 ∧ 0 ≤ x_t ∧ x_t ≤ 1) ∧ (I0 (h_ad z a0 7) 1).toInt = 1 ∧ ∃ rk a b : Int, q_at1 (I0 (h_ad z (h_ad z a0 7) 0)) c_t rk ∧ q_red (q_chN u_ rk k_t) (q_chD u_ rk k_t) a b ∧ ((x_t = 0 ∧ r.toInt = a) ∨ (x_t = 1 ∧ r.toInt = b))))) (fun (q1 : tI × tL) t => h_B E A z q1.1 q1.2 t) A) 0 0 A := by
  refine Met.ofW (cc := cX11_chance) (maxL := 4) (ret := (some .long)) (by decide) rfl ?_
  intro pr_ ev_ s m args below meth cd_ s₁ B hml hv
  obtain ⟨rfl, hE, hk, hX, hA, hK, hI, hR, hB0⟩ := hv
  have g : h_G h_so h_fk E A z I0 L0 s s.heap s.heap [] := ⟨hK, va_S.rf, hB0⟩
  have hF : h_F [] z I0 I0 := h_F.rf
  have hx := B.exec
  have hb := B.bytes
  have hr := B.returns
  have hts := atoms_spec (ws := wsX11_chance) B.pre
  have hown : s.vm.findClass RX11 = some m.cls := findClass_of_methodNamed B.named
  have hlocks := B.notSynchronized
  have iX11 : ∀ w ∈ u_ws RX11 TX11 8, w ∈ wsX11_chance := by decide +kernel
  have iX2 : ∀ w ∈ u_ws RX2 TX2 7, w ∈ wsX11_chance := by decide +kernel
  have hl := lv_entry ([.ref a0, .int c, .int k, .int x]) (n := 4) (Nat.le_of_ble_eq_true rfl)
  rw [lg_entry_eq]
  generalize (lg_sl ([.ref a0, .int c, .int k, .int x]) ++ List.replicate (4 - (lg_sl ([.ref a0, .int c, .int k, .int x])).length) Slot.unset).toArray = ls at hl ⊢
  have hl : lv_has ls 4 [(0, .ref a0), (1, .int c), (2, .int k), (3, .int x)] := hl
  have b_c : -2147483648 ≤ c_t ∧ c_t ≤ 2147483647 := h_c ▸ ⟨xi_lo c, Int.le_of_lt_add_one (xi_hi c)⟩
  have b_k : -2147483648 ≤ k_t ∧ k_t ≤ 2147483647 := h_k ▸ ⟨xi_lo k, Int.le_of_lt_add_one (xi_hi k)⟩
  have b_x : -2147483648 ≤ x_t ∧ x_t ≤ 2147483647 := h_x ▸ ⟨xi_lo x, Int.le_of_lt_add_one (xi_hi x)⟩
  obtain ⟨bk, rbk, tbk⟩ := hR.at a0 3 t_a0 (rfl : h_rs 12 3 = some (1, false)) (by decide)
  have abk : h_ad z a0 3 = bk := h_ad.at rbk
  obtain ⟨lb, rlb, tlb⟩ := hR.at bk 0 tbk (rfl : h_rs 1 0 = some (4, false)) (by decide)
  have alb : h_ad z bk 0 = lb := h_ad.at rlb
  obtain ⟨un, run, tun⟩ := hR.at lb 0 tlb (rfl : h_rs 4 0 = some (6, false)) (by decide)
  have aun : h_ad z lb 0 = un := h_ad.at run
  obtain ⟨tx, rtx, ttx⟩ := hR.at lb 1 tlb (rfl : h_rs 4 1 = some (401, false)) (by decide)
  have atx : h_ad z lb 1 = tx := h_ad.at rtx
  obtain ⟨dt, rdt, tdt⟩ := hR.at a0 7 t_a0 (rfl : h_rs 12 7 = some (3, false)) (by decide)
  have adt : h_ad z a0 7 = dt := h_ad.at rdt
  obtain ⟨rk, rrk, trk⟩ := hR.at dt 0 tdt (rfl : h_rs 3 0 = some (300, false)) (by decide)
  have ark : h_ad z dt 0 = rk := h_ad.at rrk
  obtain ⟨f0_3, ef0_3⟩ : ∃ v : Int32, v = I0 bk 3 := ⟨_, rfl⟩
  have qf0_3 : (I0 bk 3).toInt = f0_3.toInt := congrArg Int32.toInt ef0_3.symm
  have jf0_3 := hI.rd bk 3 tbk ef0_3 (rfl : h_bd 1 3 = (0, 9))
  obtain ⟨d0_1, ed0_1⟩ : ∃ v : Int32, v = I0 dt 1 := ⟨_, rfl⟩
  have qd0_1 : (I0 dt 1).toInt = d0_1.toInt := congrArg Int32.toInt ed0_1.symm
  have jd0_1 := hI.rd dt 1 tdt ed0_1 (rfl : h_bd 3 1 = (0, 1))
  rw [abk, alb, aun, atx, qf0_3] at hcl
  rw [adt, ark, ed0_1.symm] at hex
  refine lv_iload_n hx hb dX11_chance_0 rfl (lv_at hl 1 rfl) ?_
  refine vp_callSi (W.runS (As := [.int c]) (rest := []) ⟨hx, hb, hml, hown, hts⟩ (tX11_isClub l E X A z I0 L0 c (c_t) h_c) (va_cwS 1 hts gX11_chance_X11_isClub rfl rfl rfl (by decide +kernel) ⟨Nat.le_of_ble_eq_true rfl, Nat.le_of_ble_eq_true rfl⟩) ⟨h_blind _ _ _ _ _ _ _, h_pre _ hE hk hX hA hI hR g⟩ rfl rfl hl.1 rfl (lv_room (Nat.le_of_ble_eq_true rfl)) dX11_chance_1 ⟨Nat.le_of_ble_eq_true rfl, Nat.le_of_ble_eq_true rfl⟩) (fun rh1 h1 => ?_)
  rcases h1 with ⟨rfl, h1⟩ | ⟨rfl, h1⟩
  · skip
    refine lv_if_eq (tgt := 25) hx hb dX11_chance_4 (by decide) (fun _ => ?_) (fun h => absurd (by decide) h)
    refine lv_ldc2 (v := (-2)) hx hb hown (hts (.constantLong RX11 255 (-2)) (by decide +kernel)) dX11_chance_25 ?_
    have hS := g.2.1
    exact W.lret (v := (-2)) hx hb hr (fun t ht hW => ⟨⟨(-2), (I0, L0), rfl, ⟨hI, hF, (by rw [adt, ark, ← ed0_1]; exact Or.inl ⟨by omega, by decide⟩)⟩, h_ret g ht⟩, hS.F ht⟩) hS.2.2 dX11_chance_28
  · skip
    refine lv_if_eq (tgt := 25) hx hb dX11_chance_4 (by decide) (fun h => absurd h (by decide)) (fun _ => ?_)
    refine lv_iload_n hx hb dX11_chance_7 rfl (lv_at hl 2 rfl) ?_
    refine lv_if_lt (tgt := 25) hx hb dX11_chance_8 (by decide) (fun c4 => ?_) (fun c4 => ?_)
    · have ic4 := (xi_lt c4 h_k (by decide) : k_t < 0)
      refine lv_ldc2 (v := (-2)) hx hb hown (hts (.constantLong RX11 255 (-2)) (by decide +kernel)) dX11_chance_25 ?_
      have hS := g.2.1
      exact W.lret (v := (-2)) hx hb hr (fun t ht hW => ⟨⟨(-2), (I0, L0), rfl, ⟨hI, hF, (by rw [adt, ark, ← ed0_1]; exact Or.inl ⟨by omega, by decide⟩)⟩, h_ret g ht⟩, hS.F ht⟩) hS.2.2 dX11_chance_28
    · have ic4 := (xi_nlt c4 h_k (by decide) : 0 ≤ k_t)
      refine lv_iload_n hx hb dX11_chance_11 rfl (lv_at hl 2 rfl) ?_
      refine lv_iconst (v := 1) hx hb dX11_chance_12 (by decide) ?_
      refine lv_icmp_gt (tgt := 25) hx hb dX11_chance_13 (by decide) (fun c5 => ?_) (fun c5 => ?_)
      · have ic5 := (xi_lt c5 (by decide) h_k : 1 < k_t)
        refine lv_ldc2 (v := (-2)) hx hb hown (hts (.constantLong RX11 255 (-2)) (by decide +kernel)) dX11_chance_25 ?_
        have hS := g.2.1
        exact W.lret (v := (-2)) hx hb hr (fun t ht hW => ⟨⟨(-2), (I0, L0), rfl, ⟨hI, hF, (by rw [adt, ark, ← ed0_1]; exact Or.inl ⟨by omega, by decide⟩)⟩, h_ret g ht⟩, hS.F ht⟩) hS.2.2 dX11_chance_28
      · have ic5 := (xi_nlt c5 (by decide) h_k : k_t ≤ 1)
        refine lv_iload_n hx hb dX11_chance_16 rfl (lv_at hl 3 rfl) ?_
        refine lv_if_lt (tgt := 25) hx hb dX11_chance_17 (by decide) (fun c6 => ?_) (fun c6 => ?_)
        · have ic6 := (xi_lt c6 h_x (by decide) : x_t < 0)
          refine lv_ldc2 (v := (-2)) hx hb hown (hts (.constantLong RX11 255 (-2)) (by decide +kernel)) dX11_chance_25 ?_
          have hS := g.2.1
          exact W.lret (v := (-2)) hx hb hr (fun t ht hW => ⟨⟨(-2), (I0, L0), rfl, ⟨hI, hF, (by rw [adt, ark, ← ed0_1]; exact Or.inl ⟨by omega, by decide⟩)⟩, h_ret g ht⟩, hS.F ht⟩) hS.2.2 dX11_chance_28
        · have ic6 := (xi_nlt c6 h_x (by decide) : 0 ≤ x_t)
          refine lv_iload_n hx hb dX11_chance_20 rfl (lv_at hl 3 rfl) ?_
          refine lv_iconst (v := 1) hx hb dX11_chance_21 (by decide) ?_
          refine lv_icmp_le (tgt := 29) hx hb dX11_chance_22 (by decide) (fun c7 => ?_) (fun c7 => ?_)
          · have ic7 := (xi_le c7 h_x (by decide) : x_t ≤ 1)
            refine lv_aload_n hx hb dX11_chance_29 rfl (lv_at hl 0 rfl) ?_
            refine h_get (v := .ref dt) hx hb hts iX11 hown g t_a0 (by decide) so_12 rfl 7 (by decide) (hts (.fieldLink RX11 69 "CapLeague" "draft" "LCapLeague$Draft;") (by decide +kernel)) rfl dX11_chance_30 (by show va_rf (z.R a0 7) = _; rw [rdt]; rfl) ?_
            refine h_get (v := .int d0_1) hx hb hts iX2 hown g tdt (by decide) so_3 rfl 1 (by decide) (hts (.fieldLink RX11 257 "CapLeague$Draft" "tableTold" "Z") (by decide +kernel)) rfl dX11_chance_33 (congrArg Value.int (ed0_1.symm)) ?_
            refine lv_if_ne (tgt := 43) hx hb dX11_chance_36 (by decide) (fun c8 => ?_) (fun c8 => ?_)
            · have ic8 := (xi_ne c8 rfl (by decide) : d0_1.toInt ≠ 0)
              refine lv_aload_n hx hb dX11_chance_43 rfl (lv_at hl 0 rfl) ?_
              refine h_get (v := .ref dt) hx hb hts iX11 hown g t_a0 (by decide) so_12 rfl 7 (by decide) (hts (.fieldLink RX11 69 "CapLeague" "draft" "LCapLeague$Draft;") (by decide +kernel)) rfl dX11_chance_44 (by show va_rf (z.R a0 7) = _; rw [rdt]; rfl) ?_
              refine lv_iload_n hx hb dX11_chance_47 rfl (lv_at hl 1 rfl) ?_
              refine lv_iload_n hx hb dX11_chance_48 rfl (lv_at hl 2 rfl) ?_
              refine lv_aload_n hx hb dX11_chance_49 rfl (lv_at hl 0 rfl) ?_
              refine h_get (v := .ref bk) hx hb hts iX11 hown g t_a0 (by decide) so_12 rfl 3 (by decide) (hts (.fieldLink RX11 37 "CapLeague" "books" "LCapLeague$Books;") (by decide +kernel)) rfl dX11_chance_50 (by show va_rf (z.R a0 3) = _; rw [rbk]; rfl) ?_
              refine va_csq (W.runV (As := []) (rest := [.int k, .int c, .ref dt]) ⟨hx, hb, hml, hown, hts⟩ (tX0_lawsNowF l E X A z I0 L0 bk tbk) (cwV 0 hts gX11_chance_X0_lawsNow rfl rfl rfl (by decide +kernel) ⟨Nat.le_of_ble_eq_true rfl, Nat.le_of_ble_eq_true rfl⟩) ⟨h_blind _ _ _ _ _ _ _, h_recv g tbk (by decide) so_1 (q := (RX0, TX0, 9)) rfl, h_pre _ hE hk hX hA hI hR g⟩ rfl rfl hl.1 rfl (lv_room (Nat.le_of_ble_eq_true rfl)) dX11_chance_53 ⟨Nat.le_of_ble_eq_true rfl, Nat.le_of_ble_eq_true rfl⟩) (fun rh9 h9 => ?_)
              obtain ⟨h9, h9p0⟩ := h9
              obtain ⟨rh9, rfl, trh9⟩ := h9
              refine xw_v (v := .ref rh9) rfl ?_
              rw [alb, aun, atx, qf0_3] at h9p0
              obtain ⟨bb, ebb, hof⟩ := h9p0
              cases ebb
              have hlb := hcl _ hof
              refine va_callv (va_runV (As := [.int c, .int k, .ref rh9]) (rest := []) ⟨hx, hb, hml, hown, hts⟩ (tX2_findChanceB l E X A z I0 L0 dt tdt c (c_t) h_c k (k_t) h_k rh9 trh9 (u_) (hlb) (hok) (⟨by omega, by omega⟩) (by rw [ark]; exact hex (by omega) c_t (by omega) (by omega))) (cwV 3 hts gX11_chance_X2_findChance rfl rfl rfl (by decide +kernel) ⟨Nat.le_of_ble_eq_true rfl, Nat.le_of_ble_eq_true rfl⟩) ⟨h_blind _ _ _ _ _ _ _, h_recv g tdt (by decide) so_3 (q := (RX2, TX2, 7)) rfl, h_pre _ hE hk hX hA hI hR g⟩ rfl rfl hl.1 rfl (lv_room (Nat.le_of_ble_eq_true rfl)) dX11_chance_56 ⟨Nat.le_of_ble_eq_true rfl, Nat.le_of_ble_eq_true rfl⟩) g.2.1 (fun q _ h => h) (fun q h => h) (fun uh10 t H1 locs ht hvm h10 hB hz1 hk1 hS => ?_)
              obtain ⟨I11, L12⟩ := uh10
              obtain ⟨hI, fh10, h10⟩ := h10
              replace g := h_after g hB ht hS
              generalize H1 = H at g
              clear hB hk1 hz1 ht hvm hS
              have hF := hF.call fh10 rfl
              have h10p0 := h10
              rw [ark] at h10p0
              obtain ⟨rr, rq1, rq2⟩ := h10p0
              refine lv_iload_n hx hb dX11_chance_59 rfl (lv_at hl 3 rfl) ?_
              refine lv_if_ne (tgt := 73) hx hb dX11_chance_60 (by decide) (fun c13 => ?_) (fun c13 => ?_)
              · have ic13 := (xi_ne c13 h_x (by decide) : x_t ≠ 0)
                refine lv_aload_n hx hb dX11_chance_73 rfl (lv_at hl 0 rfl) ?_
                refine h_get (v := .ref dt) hx hb hts iX11 hown g t_a0 (by decide) so_12 rfl 7 (by decide) (hts (.fieldLink RX11 69 "CapLeague" "draft" "LCapLeague$Draft;") (by decide +kernel)) rfl dX11_chance_74 (by show va_rf (z.R a0 7) = _; rw [rdt]; rfl) ?_
                refine h_get (v := .long (L12 dt 6)) hx hb hts iX2 hown g tdt (by decide) so_3 rfl 6 (by decide) (hts (.fieldLink RX11 274 "CapLeague$Draft" "chanceBelow" "J") (by decide +kernel)) rfl dX11_chance_77 rfl ?_
                refine lv_topl (fun v14 ev14 => ?_)
                have hS := g.2.1
                exact W.lret (v := v14) hx hb hr (fun t ht hW => ⟨⟨v14, (I11, L12), rfl, ⟨hI, hF, (by rw [adt, ark, ← ed0_1]; exact Or.inr (Or.inr ⟨by omega, by omega, rr, _, _, rq1, rq2, Or.inr ⟨by omega, by rw [ev14]⟩⟩))⟩, h_ret g ht⟩, hS.F ht⟩) hS.2.2 dX11_chance_80
              · have ic13 := (xi_eq c13 h_x (by decide) : x_t = 0)
                refine lv_aload_n hx hb dX11_chance_63 rfl (lv_at hl 0 rfl) ?_
                refine h_get (v := .ref dt) hx hb hts iX11 hown g t_a0 (by decide) so_12 rfl 7 (by decide) (hts (.fieldLink RX11 69 "CapLeague" "draft" "LCapLeague$Draft;") (by decide +kernel)) rfl dX11_chance_64 (by show va_rf (z.R a0 7) = _; rw [rdt]; rfl) ?_
                refine h_get (v := .long (L12 dt 5)) hx hb hts iX2 hown g tdt (by decide) so_3 rfl 5 (by decide) (hts (.fieldLink RX11 270 "CapLeague$Draft" "chanceAbove" "J") (by decide +kernel)) rfl dX11_chance_67 rfl ?_
                refine lv_topl (fun v15 ev15 => ?_)
                refine lv_goto (tgt := 80) hx hb dX11_chance_70 (by decide) ?_
                have hS := g.2.1
                exact W.lret (v := v15) hx hb hr (fun t ht hW => ⟨⟨v15, (I11, L12), rfl, ⟨hI, hF, (by rw [adt, ark, ← ed0_1]; exact Or.inr (Or.inr ⟨by omega, by omega, rr, _, _, rq1, rq2, Or.inl ⟨by omega, by rw [ev15]⟩⟩))⟩, h_ret g ht⟩, hS.F ht⟩) hS.2.2 dX11_chance_80
            · have ic8 := (xi_eq c8 rfl (by decide) : d0_1.toInt = 0)
              refine lv_ldc2 (v := (-4)) hx hb hown (hts (.constantLong RX11 260 (-4)) (by decide +kernel)) dX11_chance_39 ?_
              have hS := g.2.1
              exact W.lret (v := (-4)) hx hb hr (fun t ht hW => ⟨⟨(-4), (I0, L0), rfl, ⟨hI, hF, (by rw [adt, ark, ← ed0_1]; exact Or.inr (Or.inl ⟨by omega, by omega, by decide⟩))⟩, h_ret g ht⟩, hS.F ht⟩) hS.2.2 dX11_chance_42
          · have ic7 := (xi_nle c7 h_x (by decide) : 1 < x_t)
            refine lv_ldc2 (v := (-2)) hx hb hown (hts (.constantLong RX11 255 (-2)) (by decide +kernel)) dX11_chance_25 ?_
            have hS := g.2.1
            exact W.lret (v := (-2)) hx hb hr (fun t ht hW => ⟨⟨(-2), (I0, L0), rfl, ⟨hI, hF, (by rw [adt, ark, ← ed0_1]; exact Or.inl ⟨by omega, by decide⟩)⟩, h_ret g ht⟩, hS.F ht⟩) hS.2.2 dX11_chance_28

