set_option maxHeartbeats 4000000 in
set_option maxRecDepth 100000 in
theorem tX11_waiveB (l : Launch) (E : tE) (X : tX) (A : Nat → Prop) (z : tZ) (I0 : tI) (L0 : tL) (a0 : Nat) (t_a0 : z.ty a0 = 12) (p : Int32) (p_t : Int) (h_p : p.toInt = p_t) (hnn : ∀ p : Nat, (p : Int) < (I0 (h_ad z a0 3) 2).toInt → z.R (h_ad z (h_ad z a0 3) 1) p ≠ none) (hsx : ∀ p : Nat, (p : Int) < (I0 (h_ad z a0 3) 2).toInt → 0 ≤ (I0 (h_ad z (h_ad z (h_ad z a0 3) 1) p) 5).toInt ∧ (I0 (h_ad z (h_ad z (h_ad z a0 3) 1) p) 5).toInt ≤ 100) : Met l yX11_waive wsX11_waive ({ frames := 4, cells := 0, slots := 0, locals := 256 }) (va_Pc [.ref a0, .int p] (h_P E X A z I0 L0)) (va_Qi (fun r (I1 : tI) => h_I z I1 ∧ h_F [(154, 999), (7, 0), (7, 1), (7, 2), (7, 3), (7, 4), (7, 5), (7, 6), (10, 3), (10, 4)] z I0 I1 ∧ ((¬ (0 ≤ p_t ∧ p_t < (I0 (h_ad z a0 3) 2).toInt) ∧ r.toInt = -2 ∧ I1 = I0) ∨ ((0 ≤ p_t ∧ p_t < (I0 (h_ad z a0 3) 2).toInt) ∧ (I0 (h_ad z (h_ad z (h_ad z a0 3) 1) p_t.toNat) 0).toInt = -1 ∧ r.toInt = -4 ∧ I1 = I0) ∨ ((0 ≤ p_t ∧ p_t < (I0 (h_ad z a0 3) 2).toInt) ∧ (I0 (h_ad z (h_ad z (h_ad z a0 3) 1) p_t.toNat) 0).toInt ≠ -1 ∧ r = q_rel (I0 (h_ad z a0 3) 3).toInt.toNat (q_prt (I0 (h_ad z (h_ad z (h_ad z a0 3) 1) p_t.toNat) 0) (I0 (h_ad z (h_ad z (h_ad z a0 3) 1) p_t.toNat) 1) (I0 (h_ad z (h_ad z (h_ad z a0 3) 1) p_t.toNat) 2) (I0 (h_ad z (h_ad z (h_ad z a0 3) 1) p_t.toNat) 3) (I0 (h_ad z (h_ad z (h_ad z a0 3) 1) p_t.toNat) 4) (I0 (h_ad z (h_ad z (h_ad z a0 3) 1) p_t.toNat) 5) (I0 (h_ad z (h_ad z (h_ad z a0 3) 1) p_t.toNat) 6)) (10 - (I0 (h_ad z a0 3) 3).toInt.toNat) ∧ (∀ k : Nat, I1 (h_ad z (h_ad z (h_ad z a0 3) 4) (I0 (h_ad z (h_ad z (h_ad z a0 3) 1) p_t.toNat) 0).toInt.toNat) k = q_dea (I0 (h_ad z a0 3) 3).toInt.toNat 10 (q_prt (I0 (h_ad z (h_ad z (h_ad z a0 3) 1) p_t.toNat) 0) (I0 (h_ad z (h_ad z (h_ad z a0 3) 1) p_t.toNat) 1) (I0 (h_ad z (h_ad z (h_ad z a0 3) 1) p_t.toNat) 2) (I0 (h_ad z (h_ad z (h_ad z a0 3) 1) p_t.toNat) 3) (I0 (h_ad z (h_ad z (h_ad z a0 3) 1) p_t.toNat) 4) (I0 (h_ad z (h_ad z (h_ad z a0 3) 1) p_t.toNat) 5) (I0 (h_ad z (h_ad z (h_ad z a0 3) 1) p_t.toNat) 6)) (I0 (h_ad z (h_ad z (h_ad z a0 3) 4) (I0 (h_ad z (h_ad z (h_ad z a0 3) 1) p_t.toNat) 0).toInt.toNat)) k) ∧ (I1 (h_ad z (h_ad z (h_ad z a0 3) 1) p_t.toNat) 0 = -1 ∧ I1 (h_ad z (h_ad z (h_ad z a0 3) 1) p_t.toNat) 5 = 0 ∧ I1 (h_ad z (h_ad z (h_ad z a0 3) 1) p_t.toNat) 6 = 0) ∧ (∀ a k : Nat, z.ty a ≠ 10 → a ≠ (h_ad z (h_ad z (h_ad z a0 3) 4) (I0 (h_ad z (h_ad z (h_ad z a0 3) 1) p_t.toNat) 0).toInt.toNat) → (a ≠ (h_ad z (h_ad z (h_ad z a0 3) 1) p_t.toNat) ∨ k = 7) → I1 a k = I0 a k) ∧ I1 (h_ad z a0 5) 3 = 0 ∧ I1 (h_ad z a0 5) 4 = 0))) (fun (I1 : tI) t => h_B E A z I1 L0 t) A) 0 0 A := by
  refine Met.ofW (cc := cX11_waive) (maxL := 3) (ret := (some .int)) (by decide) rfl ?_
  intro pr_ ev_ s m args below meth cd_ s₁ B hml hv
  obtain ⟨rfl, hE, hk, hX, hA, hK, hI, hR, hB0⟩ := hv
  have g : h_G h_so h_fk E A z I0 L0 s s.heap s.heap [] := ⟨hK, va_S.rf, hB0⟩
  have hF : h_F [(154, 999), (7, 0), (7, 1), (7, 2), (7, 3), (7, 4), (7, 5), (7, 6), (10, 3), (10, 4)] z I0 I0 := h_F.rf
  have hx := B.exec
  have hb := B.bytes
  have hr := B.returns
  have hts := atoms_spec (ws := wsX11_waive) B.pre
  have hown : s.vm.findClass RX11 = some m.cls := findClass_of_methodNamed B.named
  have hlocks := B.notSynchronized
  have iX11 : ∀ w ∈ u_ws RX11 TX11 8, w ∈ wsX11_waive := by decide +kernel
  have hl := lv_entry ([.ref a0, .int p]) (n := 3) (Nat.le_of_ble_eq_true rfl)
  rw [lg_entry_eq]
  generalize (lg_sl ([.ref a0, .int p]) ++ List.replicate (3 - (lg_sl ([.ref a0, .int p])).length) Slot.unset).toArray = ls at hl ⊢
  have hl : lv_has ls 3 [(0, .ref a0), (1, .int p)] := hl
  have b_p : -2147483648 ≤ p_t ∧ p_t ≤ 2147483647 := h_p ▸ ⟨xi_lo p, Int.le_of_lt_add_one (xi_hi p)⟩
  obtain ⟨bk, rbk, tbk⟩ := hR.at a0 3 t_a0 (rfl : h_rs 12 3 = some (1, false)) (by decide)
  have abk : h_ad z a0 3 = bk := h_ad.at rbk
  obtain ⟨pl, rpl, tpl⟩ := hR.at bk 1 tbk (rfl : h_rs 1 1 = some (101, false)) (by decide)
  have apl : h_ad z bk 1 = pl := h_ad.at rpl
  obtain ⟨f0_2, ef0_2⟩ : ∃ v : Int32, v = I0 bk 2 := ⟨_, rfl⟩
  have qf0_2 : (I0 bk 2).toInt = f0_2.toInt := congrArg Int32.toInt ef0_2.symm
  have jf0_2 := hI.rd bk 2 tbk ef0_2 (rfl : h_bd 1 2 = (0, 60))
  obtain ⟨f0_3, ef0_3⟩ : ∃ v : Int32, v = I0 bk 3 := ⟨_, rfl⟩
  have qf0_3 : (I0 bk 3).toInt = f0_3.toInt := congrArg Int32.toInt ef0_3.symm
  have jf0_3 := hI.rd bk 3 tbk ef0_3 (rfl : h_bd 1 3 = (0, 9))
  rw [abk] at hnn
  rw [apl, qf0_2] at hnn
  obtain ⟨bg, rbg, tbg⟩ := hR.at a0 5 t_a0 (rfl : h_rs 12 5 = some (10, false)) (by decide)
  have abg : h_ad z a0 5 = bg := h_ad.at rbg
  obtain ⟨dd, rdd, tdd⟩ := hR.at bk 4 tbk (rfl : h_rs 1 4 = some (104, false)) (by decide)
  have add : h_ad z bk 4 = dd := h_ad.at rdd
  rw [abk, apl, qf0_2] at hsx
  have hI0 := hI
  refine lv_aload_n hx hb dX11_waive_0 rfl (lv_at hl 0 rfl) ?_
  refine h_get (v := .ref bk) hx hb hts iX11 hown g t_a0 (by decide) so_12 rfl 3 (by decide) (hts (.fieldLink RX11 37 "CapLeague" "books" "LCapLeague$Books;") (by decide +kernel)) rfl dX11_waive_1 (by show va_rf (z.R a0 3) = _; rw [rbk]; rfl) ?_
  refine lv_iload_n hx hb dX11_waive_4 rfl (lv_at hl 1 rfl) ?_
  refine va_csq (W.runV (As := [.int p]) (rest := []) ⟨hx, hb, hml, hown, hts⟩ (tX0_playerAtF l E X A z I0 L0 bk tbk p (p_t) h_p) (cwV 1 hts gX11_waive_X0_playerAt rfl rfl rfl (by decide +kernel) ⟨Nat.le_of_ble_eq_true rfl, Nat.le_of_ble_eq_true rfl⟩) ⟨h_blind _ _ _ _ _ _ _, h_recv g tbk (by decide) so_1 (q := (RX0, TX0, 9)) rfl, h_pre _ hE hk hX hA hI hR g⟩ rfl rfl hl.1 rfl (lv_room (Nat.le_of_ble_eq_true rfl)) dX11_waive_5 ⟨Nat.le_of_ble_eq_true rfl, Nat.le_of_ble_eq_true rfl⟩) (fun rh1 h1 => ?_)
  obtain ⟨h1, h1p0⟩ := h1
  rcases h1 with rfl | ⟨rh1, rfl, trh1⟩
  · refine xw_v (v := .null) rfl ?_
    rw [apl, qf0_2] at h1p0
    have hno : ¬ (0 ≤ p_t ∧ p_t < f0_2.toInt) := by rcases h1p0 with ⟨a1, a2, a3⟩ | ⟨a1, _⟩; exact absurd a3.symm (hnn _ (by omega)); exact a1
    refine lv_astore_nN (lv' := [(2, .null), (0, .ref a0), (1, .int p)]) hx hb dX11_waive_8 rfl hl (by decide) rfl (fun ls hl => ?_)
    refine lv_aload_nN hx hb dX11_waive_9 rfl (lv_at hl 0 rfl) ?_
    refine lv_ifnonnullN hx hb dX11_waive_10 ?_
    refine lv_bipush (v := (-2)) hx hb dX11_waive_13 (by decide) ?_
    have hS := g.2.1
    exact W.iret (v := (-2)) hx hb hr (fun t ht hW => ⟨⟨(-2), I0, rfl, ⟨hI, hF, (by rw [abk, apl, qf0_2]; exact Or.inl ⟨hno, by decide, rfl⟩)⟩, h_ret g ht⟩, hS.F ht⟩) hS.2.2 dX11_waive_15
  · refine xw_v (v := .ref rh1) rfl ?_
    rw [apl, qf0_2] at h1p0
    have rp : z.R pl p_t.toNat = some rh1 := by rcases h1p0 with ⟨a1, a2, a3⟩ | ⟨_, a2⟩; exact a3.symm; cases a2
    have hpr : 0 ≤ p_t ∧ p_t < f0_2.toInt := by rcases h1p0 with ⟨a1, a2, a3⟩ | ⟨_, a2⟩; exact ⟨a1, a2⟩; cases a2
    have ap := h_ad.at rp
    refine lv_astore_n (lv' := [(2, .ref rh1), (0, .ref a0), (1, .int p)]) hx hb dX11_waive_8 rfl hl (by decide) rfl (fun ls hl => ?_)
    refine lv_aload_n hx hb dX11_waive_9 rfl (lv_at hl 0 rfl) ?_
    refine lv_ifnonnull (tgt := 16) hx hb dX11_waive_10 (by decide) ?_
    refine lv_aload_n hx hb dX11_waive_16 rfl (lv_at hl 0 rfl) ?_
    refine vp_callSi (W.runV (As := []) (rest := []) ⟨hx, hb, hml, hown, hts⟩ (tX6_isSignedB l E X A z I0 L0 rh1 trh1) (cwV 0 hts gX11_waive_X6_isSigned rfl rfl rfl (by decide +kernel) ⟨Nat.le_of_ble_eq_true rfl, Nat.le_of_ble_eq_true rfl⟩) ⟨h_blind _ _ _ _ _ _ _, h_recv g trh1 (by decide) so_7 (q := (RX6, TX6, 9)) rfl, h_pre _ hE hk hX hA hI hR g⟩ rfl rfl hl.1 rfl (lv_room (Nat.le_of_ble_eq_true rfl)) dX11_waive_17 ⟨Nat.le_of_ble_eq_true rfl, Nat.le_of_ble_eq_true rfl⟩) (fun rh2 h2 => ?_)
    obtain ⟨h2, h2p0⟩ := h2
    refine lv_if_ne (tgt := 26) hx hb dX11_waive_20 (by decide) (fun c3 => ?_) (fun c3 => ?_)
    · have ic3 := (xi_ne c3 rfl (by decide) : rh2.toInt ≠ 0)
      refine lv_aload_n hx hb dX11_waive_26 rfl (lv_at hl 1 rfl) ?_
      refine h_get (v := .ref bg) hx hb hts iX11 hown g t_a0 (by decide) so_12 rfl 5 (by decide) (hts (.fieldLink RX11 53 "CapLeague" "bargain" "LCapLeague$Trade;") (by decide +kernel)) rfl dX11_waive_27 (by show va_rf (z.R a0 5) = _; rw [rbg]; rfl) ?_
      refine va_callv (va_runV (As := []) (rest := []) ⟨hx, hb, hml, hown, hts⟩ (tX9_clearB l E X A z I0 L0 bg tbg) (cwV 0 hts gX11_waive_X9_clear rfl rfl rfl (by decide +kernel) ⟨Nat.le_of_ble_eq_true rfl, Nat.le_of_ble_eq_true rfl⟩) ⟨h_blind _ _ _ _ _ _ _, h_recv g tbg (by decide) so_10 (q := (RX9, TX9, 10)) rfl, h_pre _ hE hk hX hA hI hR g⟩ rfl rfl hl.1 rfl (lv_room (Nat.le_of_ble_eq_true rfl)) dX11_waive_30 ⟨Nat.le_of_ble_eq_true rfl, Nat.le_of_ble_eq_true rfl⟩) g.2.1 (fun q _ h => h) (fun q h => h) (fun I5 t H1 locs ht hvm h4 hB hz1 hk1 hS => ?_)
      obtain ⟨hI, fh4, h4⟩ := h4
      replace g := h_after g hB ht hS
      generalize H1 = H at g
      clear hB hk1 hz1 ht hvm hS
      have hF := hF.call fh4 rfl
      have h4p0 := h4
      refine lv_aload_n hx hb dX11_waive_33 rfl (lv_at hl 1 rfl) ?_
      refine h_get (v := .ref bk) hx hb hts iX11 hown g t_a0 (by decide) so_12 rfl 3 (by decide) (hts (.fieldLink RX11 37 "CapLeague" "books" "LCapLeague$Books;") (by decide +kernel)) rfl dX11_waive_34 (by show va_rf (z.R a0 3) = _; rw [rbk]; rfl) ?_
      refine lv_aload_n hx hb dX11_waive_37 rfl (lv_at hl 0 rfl) ?_
      refine va_calli (va_runV (As := [.ref rh1]) (rest := []) ⟨hx, hb, hml, hown, hts⟩ (tX0_releaseB l E X A z I5 L0 bk tbk rh1 trh1 (by rw [(h_F.at fh4 trh1 rfl : I5 rh1 0 = I0 rh1 0)]; omega) (by rw [(h_F.at fh4 trh1 rfl : I5 rh1 5 = I0 rh1 5)]; have h9 := hsx p_t.toNat (by omega); rw [ap] at h9; exact h9)) (cwV 1 hts gX11_waive_X0_release rfl rfl rfl (by decide +kernel) ⟨Nat.le_of_ble_eq_true rfl, Nat.le_of_ble_eq_true rfl⟩) ⟨h_blind _ _ _ _ _ _ _, h_recv g tbk (by decide) so_1 (q := (RX0, TX0, 9)) rfl, h_pre _ hE hk hX hA hI hR g⟩ rfl rfl hl.1 rfl (lv_room (Nat.le_of_ble_eq_true rfl)) dX11_waive_38 ⟨Nat.le_of_ble_eq_true rfl, Nat.le_of_ble_eq_true rfl⟩) g.2.1 (fun q _ h => h) (fun q h => h) (fun rh6 I7 t H1 locs ht hvm h6 hB hz1 hk1 hS => ?_)
      obtain ⟨hI, fh6, h6⟩ := h6
      replace g := h_after g hB ht hS
      generalize H1 = H at g
      clear hB hk1 hz1 ht hvm hS
      have hF := hF.call fh6 rfl
      obtain ⟨h6p0, h6p1, h6p2, h6p3⟩ := h6
      have jrh6 : -2147483648 ≤ rh6.toInt ∧ rh6.toInt ≤ 2147483647 := ⟨xi_lo _, Int.le_of_lt_add_one (xi_hi _)⟩
      rw [show I5 rh1 0 = I0 rh1 0 from h_F.at fh4 trh1 rfl, show I5 rh1 1 = I0 rh1 1 from h_F.at fh4 trh1 rfl, show I5 rh1 2 = I0 rh1 2 from h_F.at fh4 trh1 rfl, show I5 rh1 3 = I0 rh1 3 from h_F.at fh4 trh1 rfl, show I5 rh1 4 = I0 rh1 4 from h_F.at fh4 trh1 rfl, show I5 rh1 5 = I0 rh1 5 from h_F.at fh4 trh1 rfl, show I5 rh1 6 = I0 rh1 6 from h_F.at fh4 trh1 rfl, show I5 bk 3 = I0 bk 3 from h_F.at fh4 tbk rfl] at h6p0 h6p1
      rw [show I5 rh1 0 = I0 rh1 0 from h_F.at fh4 trh1 rfl] at h6p3
      rw [add] at h6p1 h6p3
      have hS := g.2.1
      exact W.iret (v := rh6) hx hb hr (fun t ht hW => ⟨⟨rh6, I7, rfl, ⟨hI, hF, (by rw [abk, apl, qf0_2]; rw [ap]; rw [abg, add]; obtain ⟨ro, rro, tro⟩ := hR.at dd (I0 rh1 0).toInt.toNat tdd (rfl : h_rs 104 _ = some (154, false)) (by rw [so_104]; show _ < 8; have h9 := hI0.rd rh1 0 trh1 rfl (rfl : h_bd 7 0 = (-1, 7)); omega); rw [h_ad.at rro] at h6p1 h6p3 ⊢; exact Or.inr (Or.inr ⟨hpr, by omega, h6p0, fun k => (h6p1 k).trans (by rw [show I5 ro = I0 ro from funext (fun k => h_F.at fh4 tro rfl)]), h6p2, fun a k h1 h2 h3 => (h6p3 a k h2 h3).trans (h_F_no10 fh4 h1), (h_F.at fh6 tbg rfl).trans h4p0.1, (h_F.at fh6 tbg rfl).trans h4p0.2⟩))⟩, h_ret g ht⟩, hS.F ht⟩) hS.2.2 dX11_waive_41
    · have ic3 := (xi_eq c3 rfl (by decide) : rh2.toInt = 0)
      refine lv_bipush (v := (-4)) hx hb dX11_waive_23 (by decide) ?_
      have hS := g.2.1
      exact W.iret (v := (-4)) hx hb hr (fun t ht hW => ⟨⟨(-4), I0, rfl, ⟨hI, hF, (by rw [abk, apl, qf0_2]; rw [ap]; exact Or.inr (Or.inl ⟨hpr, by omega, by decide, rfl⟩))⟩, h_ret g ht⟩, hS.F ht⟩) hS.2.2 dX11_waive_25

