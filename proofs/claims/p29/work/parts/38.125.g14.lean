set_option maxHeartbeats 4000000 in
set_option maxRecDepth 100000 in
theorem zX11_lawsX (l : Launch) (E : tE) (X : tX) (A : Nat → Prop) (z0 : tZ) (J0 : tI) (K0 : tL) (a0 : Nat) (t_a0 : z0.ty a0 = 12) (y : Int32) (y_t : Int) (h_y : y.toInt = y_t) (hU : h_U z0) : Met l yX11_laws wsX11_laws ({ frames := 9, cells := 3, slots := 17, locals := 576 }) (va_Pc [.ref a0, .int y] (h_P E X A z0 J0 K0)) (va_Qi (fun r (q1 : tZ × tI × tL) => h_I q1.1 q1.2.1 ∧ h_R q1.1 ∧ h_X [(5, 4), (5, 5), (5, 6), (5, 7), (5, 2), (5, 3), (600, 999), (601, 999), (6, 2), (5, 8), (9, 1)] [401] none z0 J0 K0 q1.1 q1.2.1 q1.2.2 ∧ h_Q [(5, 4), (5, 5), (5, 6), (5, 7), (5, 2), (5, 3), (600, 999), (601, 999), (6, 2), (5, 8), (9, 1)] none z0 q1.1 q1.2.1 ∧ ((¬ ((J0 (h_ad z0 a0 3) 3).toInt ≤ y_t ∧ y_t ≤ 9) ∧ r.toInt = -2 ∧ q1.2.1 (h_ad z0 a0 2) 2 = J0 (h_ad z0 a0 2) 2 ∧ q1.2.1 (h_ad z0 a0 2) 3 = J0 (h_ad z0 a0 2) 3 ∧ q1.1.R (h_ad z0 (h_ad z0 a0 1) 1) = z0.R (h_ad z0 (h_ad z0 a0 1) 1) ∧ (∀ b k : Nat, (z0.ty b = 6 ∨ z0.ty b = 600 ∨ z0.ty b = 601) → b ≠ (h_ad z0 (h_ad z0 a0 2) 1) → b ≠ (h_ad z0 (h_ad z0 (h_ad z0 a0 2) 1) 0) → b ≠ (h_ad z0 (h_ad z0 (h_ad z0 a0 2) 1) 1) → q1.2.1 b k = J0 b k)) ∨ (((J0 (h_ad z0 a0 3) 3).toInt ≤ y_t ∧ y_t ≤ 9) ∧ (q1.2.1 (h_ad z0 a0 2) 2).toInt = (q_text (q_at (J0 (h_ad z0 (h_ad z0 (h_ad z0 a0 2) 0) 0)) (J0 (h_ad z0 (h_ad z0 a0 2) 0) 1).toInt) 501 0 (fun _ => false) q_pl 0).1 ∧ (q1.2.1 (h_ad z0 a0 2) 3).toInt = (q_text (q_at (J0 (h_ad z0 (h_ad z0 (h_ad z0 a0 2) 0) 0)) (J0 (h_ad z0 (h_ad z0 a0 2) 0) 1).toInt) 501 0 (fun _ => false) q_pl 0).2.1 ∧ r.toInt = (q_text (q_at (J0 (h_ad z0 (h_ad z0 (h_ad z0 a0 2) 0) 0)) (J0 (h_ad z0 (h_ad z0 a0 2) 0) 1).toInt) 501 0 (fun _ => false) q_pl 0).2.2.1 ∧ (((q_text (q_at (J0 (h_ad z0 (h_ad z0 (h_ad z0 a0 2) 0) 0)) (J0 (h_ad z0 (h_ad z0 a0 2) 0) 1).toInt) 501 0 (fun _ => false) q_pl 0).1 ≠ 0 ∧ q1.1.R (h_ad z0 (h_ad z0 a0 1) 1) = z0.R (h_ad z0 (h_ad z0 a0 1) 1) ∧ (∀ b k : Nat, (z0.ty b = 6 ∨ z0.ty b = 600 ∨ z0.ty b = 601) → b ≠ (h_ad z0 (h_ad z0 a0 2) 1) → b ≠ (h_ad z0 (h_ad z0 (h_ad z0 a0 2) 1) 0) → b ≠ (h_ad z0 (h_ad z0 (h_ad z0 a0 2) 1) 1) → q1.2.1 b k = J0 b k)) ∨ ((q_text (q_at (J0 (h_ad z0 (h_ad z0 (h_ad z0 a0 2) 0) 0)) (J0 (h_ad z0 (h_ad z0 a0 2) 0) 1).toInt) 501 0 (fun _ => false) q_pl 0).1 = 0 ∧ 0 ≤ y_t ∧ ∃ t : Nat, q1.1.R (h_ad z0 (h_ad z0 a0 1) 1) = (fun k => if k = y_t.toNat then some t else z0.R (h_ad z0 (h_ad z0 a0 1) 1) k) ∧ h_lw q1.2.1 t (h_ad q1.1 t 0) (h_ad q1.1 t 1) (q_text (q_at (J0 (h_ad z0 (h_ad z0 (h_ad z0 a0 2) 0) 0)) (J0 (h_ad z0 (h_ad z0 a0 2) 0) 1).toInt) 501 0 (fun _ => false) q_pl 0).2.2.2 ∧ (∀ b k : Nat, (z0.ty b = 6 ∨ z0.ty b = 600 ∨ z0.ty b = 601) → b ≠ (h_ad z0 (h_ad z0 a0 2) 1) → b ≠ (h_ad z0 (h_ad z0 (h_ad z0 a0 2) 1) 0) → b ≠ (h_ad z0 (h_ad z0 (h_ad z0 a0 2) 1) 1) → (∀ t : Nat, z0.R (h_ad z0 (h_ad z0 a0 1) 1) y_t.toNat = some t → b ≠ t ∧ b ≠ h_ad z0 t 0 ∧ b ≠ h_ad z0 t 1) → q1.2.1 b k = J0 b k))))) ∧ ((q1.2.1 (h_ad z0 a0 0) 1).toInt = 0)) (fun (q1 : tZ × tI × tL) t => h_B E A q1.1 q1.2.1 q1.2.2 t) A) 3 17 A := by
  refine Met.ofW (cc := cX11_laws) (maxL := 3) (ret := (some .int)) (by decide) rfl ?_
  intro pr_ ev_ s m args below meth cd_ s₁ B hml hv
  obtain ⟨rfl, hE, hk, hX, hA, hK, hI, hR, hB0⟩ := hv
  obtain ⟨z, ez0⟩ : ∃ z : tZ, z = z0 := ⟨_, rfl⟩
  obtain ⟨I0, eJ0⟩ : ∃ I0 : tI, I0 = J0 := ⟨_, rfl⟩
  obtain ⟨L0, eK0⟩ : ∃ L0 : tL, L0 = K0 := ⟨_, rfl⟩
  rw [← ez0, ← eJ0] at hI
  rw [← ez0] at hR t_a0
  rw [← ez0, ← eJ0, ← eK0] at hB0
  have g : h_G h_so h_fk E A z I0 L0 s s.heap s.heap [] := ⟨hK, va_S.rf, hB0⟩
  replace hF : h_F [(5, 4), (5, 5), (5, 6), (5, 7), (5, 2), (5, 3), (600, 999), (601, 999), (6, 2), (5, 8), (9, 1)] z I0 I0 := h_F.rf
  have hx := B.exec
  have hb := B.bytes
  have hr := B.returns
  have hts := atoms_spec (ws := wsX11_laws) B.pre
  have hown : s.vm.findClass RX11 = some m.cls := findClass_of_methodNamed B.named
  have hlocks := B.notSynchronized
  have iX11 : ∀ w ∈ u_ws RX11 TX11 8, w ∈ wsX11_laws := by decide +kernel
  have iX4 : ∀ w ∈ u_ws RX4 TX4 9, w ∈ wsX11_laws := by decide +kernel
  have iX8 : ∀ w ∈ u_ws RX8 TX8 2, w ∈ wsX11_laws := by decide +kernel
  have hl := lv_entry ([.ref a0, .int y]) (n := 3) (Nat.le_of_ble_eq_true rfl)
  rw [lg_entry_eq]
  generalize (lg_sl ([.ref a0, .int y]) ++ List.replicate (3 - (lg_sl ([.ref a0, .int y])).length) Slot.unset).toArray = ls at hl ⊢
  have hl : lv_has ls 3 [(0, .ref a0), (1, .int y)] := hl
  have b_y : -2147483648 ≤ y_t ∧ y_t ≤ 2147483647 := h_y ▸ ⟨xi_lo y, Int.le_of_lt_add_one (xi_hi y)⟩
  replace hZ : h_X [(5, 4), (5, 5), (5, 6), (5, 7), (5, 2), (5, 3), (600, 999), (601, 999), (6, 2), (5, 8), (9, 1)] [401] none z0 J0 K0 z I0 L0 := by rw [ez0, eJ0, eK0]; exact h_X.rf
  replace hQ : h_Q [(5, 4), (5, 5), (5, 6), (5, 7), (5, 2), (5, 3), (600, 999), (601, 999), (6, 2), (5, 8), (9, 1)] none z0 z I0 := by rw [ez0]; exact h_Q.rf hU (fun b hb => by cases hb)
  obtain ⟨tp, rtp, ttp⟩ := hR.at a0 0 t_a0 (rfl : h_rs 12 0 = some (9, false)) (by decide)
  have atp : h_ad z0 a0 0 = tp := by rw [← ez0]; exact h_ad.at rtp
  obtain ⟨lb, rlb, tlb⟩ := hR.at a0 1 t_a0 (rfl : h_rs 12 1 = some (4, false)) (by decide)
  have alb : h_ad z0 a0 1 = lb := by rw [← ez0]; exact h_ad.at rlb
  obtain ⟨tx, rtx, ttx⟩ := hR.at lb 1 tlb (rfl : h_rs 4 1 = some (401, false)) (by decide)
  have atx : h_ad z0 lb 1 = tx := by rw [← ez0]; exact h_ad.at rtx
  obtain ⟨rd, rrd, trd⟩ := hR.at a0 2 t_a0 (rfl : h_rs 12 2 = some (5, false)) (by decide)
  have ard : h_ad z0 a0 2 = rd := by rw [← ez0]; exact h_ad.at rrd
  obtain ⟨qt, rqt, tqt⟩ := hR.at rd 0 trd (rfl : h_rs 5 0 = some (9, false)) (by decide)
  have aqt : h_ad z0 rd 0 = qt := by rw [← ez0]; exact h_ad.at rqt
  obtain ⟨bt, rbt, tbt⟩ := hR.at qt 0 tqt (rfl : h_rs 9 0 = some (900, false)) (by decide)
  have abt : h_ad z0 qt 0 = bt := by rw [← ez0]; exact h_ad.at rbt
  obtain ⟨rl, rrl, trl⟩ := hR.at rd 1 trd (rfl : h_rs 5 1 = some (6, false)) (by decide)
  have arl : h_ad z0 rd 1 = rl := by rw [← ez0]; exact h_ad.at rrl
  obtain ⟨rn, rrn, trn⟩ := hR.at rl 0 trl (rfl : h_rs 6 0 = some (600, false)) (by decide)
  have arn : h_ad z0 rl 0 = rn := by rw [← ez0]; exact h_ad.at rrn
  obtain ⟨ro, rro, tro⟩ := hR.at rl 1 trl (rfl : h_rs 6 1 = some (601, false)) (by decide)
  have aro : h_ad z0 rl 1 = ro := by rw [← ez0]; exact h_ad.at rro
  obtain ⟨bk, rbk, tbk⟩ := hR.at a0 3 t_a0 (rfl : h_rs 12 3 = some (1, false)) (by decide)
  have abk : h_ad z0 a0 3 = bk := by rw [← ez0]; exact h_ad.at rbk
  obtain ⟨c0, ec0⟩ : ∃ v : Int32, v = I0 bk 3 := ⟨_, rfl⟩
  have jc0 := hI.rd bk 3 tbk ec0 (rfl : h_bd 1 3 = (0, 9))
  have qc0 : J0 bk 3 = c0 := by rw [← eJ0]; exact ec0.symm
  obtain ⟨f2, ef2⟩ : ∃ v : Int32, v = I0 rd 2 := ⟨_, rfl⟩
  have jf2 := hI.rd rd 2 trd ef2 (rfl : h_bd 5 2 = ((-2147483648), 2147483647))
  have qf2 : J0 rd 2 = f2 := by rw [← eJ0]; exact ef2.symm
  obtain ⟨f3, ef3⟩ : ∃ v : Int32, v = I0 rd 3 := ⟨_, rfl⟩
  have jf3 := hI.rd rd 3 trd ef3 (rfl : h_bd 5 3 = ((-2147483648), 2147483647))
  have qf3 : J0 rd 3 = f3 := by rw [← eJ0]; exact ef3.symm
  obtain ⟨gb, egb⟩ : ∃ g : Int → Int, g = q_at (J0 bt) (J0 qt 1).toInt := ⟨_, rfl⟩
  have eg2 : q_at (I0 bt) (I0 qt 1).toInt = gb := by rw [egb, eJ0]
  have ztp : z0.ty tp = 9 := by rw [← ez0]; exact ttp
  have eIJ : I0 = J0 := eJ0
  refine lv_aload_n hx hb dX11_laws_0 rfl (lv_at hl 0 rfl) ?_
  refine h_get (v := .ref bk) hx hb hts iX11 hown g t_a0 (by decide) so_12 rfl 3 (by decide) (hts (.fieldLink RX11 37 "CapLeague" "books" "LCapLeague$Books;") (by decide +kernel)) rfl dX11_laws_1 (by show va_rf (z.R a0 3) = _; rw [rbk]; rfl) ?_
  refine lv_iload_n hx hb dX11_laws_4 rfl (lv_at hl 1 rfl) ?_
  refine vp_callSi (W.runV (As := [.int y]) (rest := []) ⟨hx, hb, hml, hown, hts⟩ (tX0_isNowX l E X A z I0 L0 bk tbk y (y_t) h_y) (cwV 1 hts gX11_laws_X0_isNowOrLater rfl rfl rfl (by decide +kernel) ⟨Nat.le_of_ble_eq_true rfl, Nat.le_of_ble_eq_true rfl⟩) ⟨h_blind _ _ _ _ _ _ _, h_recv g tbk (by decide) so_1 (q := (RX0, TX0, 9)) rfl, h_pre _ hE hk hX hA hI hR g⟩ rfl rfl hl.1 rfl (lv_room (Nat.le_of_ble_eq_true rfl)) dX11_laws_5 ⟨Nat.le_of_ble_eq_true rfl, Nat.le_of_ble_eq_true rfl⟩) (fun rh1 h1 => ?_)
  obtain ⟨h1, h1p0⟩ := h1
  rw [show I0 bk 3 = c0 from ec0.symm] at h1p0
  refine lv_if_eq (tgt := 21) hx hb dX11_laws_8 (by decide) (fun c2 => ?_) (fun c2 => ?_)
  · have ic2 := (xi_eq c2 rfl (by decide) : rh1.toInt = 0)
    refine lv_bipush (v := (-2)) hx hb dX11_laws_21 (by decide) ?_
    refine lv_istore_n (lv' := [(2, .int (-2)), (0, .ref a0), (1, .int y)]) hx hb dX11_laws_23 rfl hl (by decide) rfl (fun ls hl => ?_)
    refine lv_iload_n hx hb dX11_laws_24 rfl (lv_at hl 0 rfl) ?_
    refine lv_if_lt (tgt := 43) hx hb dX11_laws_25 (by decide) (fun _ => ?_) (fun h => absurd (by decide) h)
    refine lv_aload_n hx hb dX11_laws_43 rfl (lv_at hl 1 rfl) ?_
    refine h_get (v := .ref tp) hx hb hts iX11 hown g t_a0 (by decide) so_12 rfl 0 (by decide) (hts (.fieldLink RX11 10 "CapLeague" "tape" "LCapLeague$Tape;") (by decide +kernel)) rfl dX11_laws_44 (by show va_rf (z.R a0 0) = _; rw [rtp]; rfl) ?_
    refine lv_iconst (v := 0) hx hb dX11_laws_47 (by decide) ?_
    refine h_putI (ty := .int) (v := 0) hx hb hts iX8 tyX8 tyX8_ok nmX8 hown g ttp (by decide) so_9 rfl 1 (by decide) rfl (hts (.fieldLink RX11 81 "CapLeague$Tape" "size" "I") (by decide +kernel)) rfl rfl (by decide +kernel) rfl rfl dX11_laws_48 (fun I4 H locs eI4 g => ?_)
    replace hI := hI.wr eI4 ttp (rfl : h_bd 9 1 = (0, 500)) (by decide) (by decide)
    replace hF := hF.wr eI4 ttp rfl
    refine lv_iload_n hx hb dX11_laws_51 rfl (lv_at hl 0 rfl) ?_
    refine W.widen (k := 3) (n := 17) (by decide) (by decide) ?_
    replace hZ := hZ.tcall hF rfl
    replace hQ := hQ.tc hF rfl
    replace hS := g.2.1
    exact W.iret (v := (-2)) hx hb hr (fun t ht hW => ⟨⟨(-2), (z, I4, L0), rfl, ⟨hI, hR, hZ, hQ, ⟨(by show (¬ ((J0 (h_ad z0 a0 3) 3).toInt ≤ y_t ∧ y_t ≤ 9) ∧ ((-2) : Int32).toInt = -2 ∧ I4 (h_ad z0 a0 2) 2 = J0 (h_ad z0 a0 2) 2 ∧ I4 (h_ad z0 a0 2) 3 = J0 (h_ad z0 a0 2) 3 ∧ z.R (h_ad z0 (h_ad z0 a0 1) 1) = z0.R (h_ad z0 (h_ad z0 a0 1) 1) ∧ (∀ b k : Nat, (z0.ty b = 6 ∨ z0.ty b = 600 ∨ z0.ty b = 601) → b ≠ (h_ad z0 (h_ad z0 a0 2) 1) → b ≠ (h_ad z0 (h_ad z0 (h_ad z0 a0 2) 1) 0) → b ≠ (h_ad z0 (h_ad z0 (h_ad z0 a0 2) 1) 1) → I4 b k = J0 b k)) ∨ (((J0 (h_ad z0 a0 3) 3).toInt ≤ y_t ∧ y_t ≤ 9) ∧ (I4 (h_ad z0 a0 2) 2).toInt = (q_text (q_at (J0 (h_ad z0 (h_ad z0 (h_ad z0 a0 2) 0) 0)) (J0 (h_ad z0 (h_ad z0 a0 2) 0) 1).toInt) 501 0 (fun _ => false) q_pl 0).1 ∧ (I4 (h_ad z0 a0 2) 3).toInt = (q_text (q_at (J0 (h_ad z0 (h_ad z0 (h_ad z0 a0 2) 0) 0)) (J0 (h_ad z0 (h_ad z0 a0 2) 0) 1).toInt) 501 0 (fun _ => false) q_pl 0).2.1 ∧ ((-2) : Int32).toInt = (q_text (q_at (J0 (h_ad z0 (h_ad z0 (h_ad z0 a0 2) 0) 0)) (J0 (h_ad z0 (h_ad z0 a0 2) 0) 1).toInt) 501 0 (fun _ => false) q_pl 0).2.2.1 ∧ (((q_text (q_at (J0 (h_ad z0 (h_ad z0 (h_ad z0 a0 2) 0) 0)) (J0 (h_ad z0 (h_ad z0 a0 2) 0) 1).toInt) 501 0 (fun _ => false) q_pl 0).1 ≠ 0 ∧ z.R (h_ad z0 (h_ad z0 a0 1) 1) = z0.R (h_ad z0 (h_ad z0 a0 1) 1) ∧ (∀ b k : Nat, (z0.ty b = 6 ∨ z0.ty b = 600 ∨ z0.ty b = 601) → b ≠ (h_ad z0 (h_ad z0 a0 2) 1) → b ≠ (h_ad z0 (h_ad z0 (h_ad z0 a0 2) 1) 0) → b ≠ (h_ad z0 (h_ad z0 (h_ad z0 a0 2) 1) 1) → I4 b k = J0 b k)) ∨ ((q_text (q_at (J0 (h_ad z0 (h_ad z0 (h_ad z0 a0 2) 0) 0)) (J0 (h_ad z0 (h_ad z0 a0 2) 0) 1).toInt) 501 0 (fun _ => false) q_pl 0).1 = 0 ∧ 0 ≤ y_t ∧ ∃ t : Nat, z.R (h_ad z0 (h_ad z0 a0 1) 1) = (fun k => if k = y_t.toNat then some t else z0.R (h_ad z0 (h_ad z0 a0 1) 1) k) ∧ h_lw I4 t (h_ad z t 0) (h_ad z t 1) (q_text (q_at (J0 (h_ad z0 (h_ad z0 (h_ad z0 a0 2) 0) 0)) (J0 (h_ad z0 (h_ad z0 a0 2) 0) 1).toInt) 501 0 (fun _ => false) q_pl 0).2.2.2 ∧ (∀ b k : Nat, (z0.ty b = 6 ∨ z0.ty b = 600 ∨ z0.ty b = 601) → b ≠ (h_ad z0 (h_ad z0 a0 2) 1) → b ≠ (h_ad z0 (h_ad z0 (h_ad z0 a0 2) 1) 0) → b ≠ (h_ad z0 (h_ad z0 (h_ad z0 a0 2) 1) 1) → (∀ t : Nat, z0.R (h_ad z0 (h_ad z0 a0 1) 1) y_t.toNat = some t → b ≠ t ∧ b ≠ h_ad z0 t 0 ∧ b ≠ h_ad z0 t 1) → I4 b k = J0 b k)))); rw [ard, aqt, abt, arl, arn, aro, alb, atx, abk, qc0, ← egb]; rw [qf2, qf3]; exact Or.inl ⟨by omega, by decide, (h_n1 eI4 trd ttp (by decide)).trans (ef2.symm), (h_n1 eI4 trd ttp (by decide)).trans (ef3.symm), by rw [ez0], fun b k h1 _ _ _ => (by rw [eI4]; exact congrFun (h_up_ne (fun e9 => by rw [e9, ztp] at h1; omega)) k : I4 b k = I0 b k).trans (by rw [eIJ])⟩), (by show (I4 (h_ad z0 a0 0) 1).toInt = 0; rw [atp, h_n0 eI4]; decide)⟩⟩, h_ret g ht⟩, hS.F ht⟩) hS.2.2 dX11_laws_52
  · have ic2 := (xi_ne c2 rfl (by decide) : rh1.toInt ≠ 0)
    refine lv_aload_n hx hb dX11_laws_11 rfl (lv_at hl 0 rfl) ?_
    refine h_get (v := .ref rd) hx hb hts iX11 hown g t_a0 (by decide) so_12 rfl 2 (by decide) (hts (.fieldLink RX11 28 "CapLeague" "reader" "LCapLeague$LawReader;") (by decide +kernel)) rfl dX11_laws_12 (by show va_rf (z.R a0 2) = _; rw [rrd]; rfl) ?_
    refine va_calli (va_runV (As := []) (rest := []) ⟨hx, hb, hml, hown, hts⟩ (tX4_readTextF l E X A z I0 L0 rd trd) (cwV 0 hts gX11_laws_X4_readText rfl rfl rfl (by decide +kernel) ⟨Nat.le_of_ble_eq_true rfl, Nat.le_of_ble_eq_true rfl⟩) ⟨h_blind _ _ _ _ _ _ _, h_recv g trd (by decide) so_5 (q := (RX4, TX4, 9)) rfl, h_pre _ hE hk hX hA hI hR g⟩ rfl rfl hl.1 rfl (lv_room (Nat.le_of_ble_eq_true rfl)) dX11_laws_15 ⟨Nat.le_of_ble_eq_true rfl, Nat.le_of_ble_eq_true rfl⟩) g.2.1 (fun q _ h => h) (fun q h => h) (fun rh5 I6 t H1 locs ht hvm h5 hB hz1 hk1 hS => ?_)
    obtain ⟨hI, fh5, h5⟩ := h5
    replace g := h_after g hB ht hS
    generalize H1 = H at g
    clear hB hk1 hz1 ht hvm hS
    replace hF := hF.call fh5 rfl
    obtain ⟨h5, h5p0, h5p1, h5p2, h5p3, h5p4, h5p5⟩ := h5
    rw [h_ad.at rqt, h_ad.at rbt, eg2] at h5p0 h5p1 h5p2 h5p3 h5p4
    rw [h_ad.at rrl, h_ad.at rrn, h_ad.at rro] at h5p3 h5p5
    obtain ⟨v7, ev7⟩ : ∃ v : Int32, v = I6 rd 2 := ⟨_, rfl⟩
    rw [← ev7] at h5p0
    obtain ⟨v8, ev8⟩ : ∃ v : Int32, v = I6 rd 3 := ⟨_, rfl⟩
    rw [← ev8] at h5p1
    have fr1 : ∀ b k : Nat, (z0.ty b = 6 ∨ z0.ty b = 600 ∨ z0.ty b = 601) → b ≠ rl → b ≠ rn → b ≠ ro → I6 b k = J0 b k := fun b k h1 h2 h3 h4 => (h_ap.kin (k := k) h5p5 (by rw [ez0]; exact h1) h2 h3 h4).trans (by rw [eJ0])
    refine lv_goto (tgt := 23) hx hb dX11_laws_18 (by decide) ?_
    refine lv_istore_n (lv' := [(2, .int rh5), (0, .ref a0), (1, .int y)]) hx hb dX11_laws_23 rfl hl (by decide) rfl (fun ls hl => ?_)
    refine lv_iload_n hx hb dX11_laws_24 rfl (lv_at hl 0 rfl) ?_
    refine lv_if_lt (tgt := 43) hx hb dX11_laws_25 (by decide) (fun c9 => ?_) (fun c9 => ?_)
    · have ic9 := (xi_lt c9 rfl (by decide) : rh5.toInt < 0)
      refine lv_aload_n hx hb dX11_laws_43 rfl (lv_at hl 1 rfl) ?_
      refine h_get (v := .ref tp) hx hb hts iX11 hown g t_a0 (by decide) so_12 rfl 0 (by decide) (hts (.fieldLink RX11 10 "CapLeague" "tape" "LCapLeague$Tape;") (by decide +kernel)) rfl dX11_laws_44 (by show va_rf (z.R a0 0) = _; rw [rtp]; rfl) ?_
      refine lv_iconst (v := 0) hx hb dX11_laws_47 (by decide) ?_
      refine h_putI (ty := .int) (v := 0) hx hb hts iX8 tyX8 tyX8_ok nmX8 hown g ttp (by decide) so_9 rfl 1 (by decide) rfl (hts (.fieldLink RX11 81 "CapLeague$Tape" "size" "I") (by decide +kernel)) rfl rfl (by decide +kernel) rfl rfl dX11_laws_48 (fun I10 H locs eI10 g => ?_)
      replace hI := hI.wr eI10 ttp (rfl : h_bd 9 1 = (0, 500)) (by decide) (by decide)
      replace hF := hF.wr eI10 ttp rfl
      refine lv_iload_n hx hb dX11_laws_51 rfl (lv_at hl 0 rfl) ?_
      refine W.widen (k := 3) (n := 17) (by decide) (by decide) ?_
      replace hZ := hZ.tcall hF rfl
      replace hQ := hQ.tc hF rfl
      replace hS := g.2.1
      exact W.iret (v := rh5) hx hb hr (fun t ht hW => ⟨⟨rh5, (z, I10, L0), rfl, ⟨hI, hR, hZ, hQ, ⟨(by show (¬ ((J0 (h_ad z0 a0 3) 3).toInt ≤ y_t ∧ y_t ≤ 9) ∧ rh5.toInt = -2 ∧ I10 (h_ad z0 a0 2) 2 = J0 (h_ad z0 a0 2) 2 ∧ I10 (h_ad z0 a0 2) 3 = J0 (h_ad z0 a0 2) 3 ∧ z.R (h_ad z0 (h_ad z0 a0 1) 1) = z0.R (h_ad z0 (h_ad z0 a0 1) 1) ∧ (∀ b k : Nat, (z0.ty b = 6 ∨ z0.ty b = 600 ∨ z0.ty b = 601) → b ≠ (h_ad z0 (h_ad z0 a0 2) 1) → b ≠ (h_ad z0 (h_ad z0 (h_ad z0 a0 2) 1) 0) → b ≠ (h_ad z0 (h_ad z0 (h_ad z0 a0 2) 1) 1) → I10 b k = J0 b k)) ∨ (((J0 (h_ad z0 a0 3) 3).toInt ≤ y_t ∧ y_t ≤ 9) ∧ (I10 (h_ad z0 a0 2) 2).toInt = (q_text (q_at (J0 (h_ad z0 (h_ad z0 (h_ad z0 a0 2) 0) 0)) (J0 (h_ad z0 (h_ad z0 a0 2) 0) 1).toInt) 501 0 (fun _ => false) q_pl 0).1 ∧ (I10 (h_ad z0 a0 2) 3).toInt = (q_text (q_at (J0 (h_ad z0 (h_ad z0 (h_ad z0 a0 2) 0) 0)) (J0 (h_ad z0 (h_ad z0 a0 2) 0) 1).toInt) 501 0 (fun _ => false) q_pl 0).2.1 ∧ rh5.toInt = (q_text (q_at (J0 (h_ad z0 (h_ad z0 (h_ad z0 a0 2) 0) 0)) (J0 (h_ad z0 (h_ad z0 a0 2) 0) 1).toInt) 501 0 (fun _ => false) q_pl 0).2.2.1 ∧ (((q_text (q_at (J0 (h_ad z0 (h_ad z0 (h_ad z0 a0 2) 0) 0)) (J0 (h_ad z0 (h_ad z0 a0 2) 0) 1).toInt) 501 0 (fun _ => false) q_pl 0).1 ≠ 0 ∧ z.R (h_ad z0 (h_ad z0 a0 1) 1) = z0.R (h_ad z0 (h_ad z0 a0 1) 1) ∧ (∀ b k : Nat, (z0.ty b = 6 ∨ z0.ty b = 600 ∨ z0.ty b = 601) → b ≠ (h_ad z0 (h_ad z0 a0 2) 1) → b ≠ (h_ad z0 (h_ad z0 (h_ad z0 a0 2) 1) 0) → b ≠ (h_ad z0 (h_ad z0 (h_ad z0 a0 2) 1) 1) → I10 b k = J0 b k)) ∨ ((q_text (q_at (J0 (h_ad z0 (h_ad z0 (h_ad z0 a0 2) 0) 0)) (J0 (h_ad z0 (h_ad z0 a0 2) 0) 1).toInt) 501 0 (fun _ => false) q_pl 0).1 = 0 ∧ 0 ≤ y_t ∧ ∃ t : Nat, z.R (h_ad z0 (h_ad z0 a0 1) 1) = (fun k => if k = y_t.toNat then some t else z0.R (h_ad z0 (h_ad z0 a0 1) 1) k) ∧ h_lw I10 t (h_ad z t 0) (h_ad z t 1) (q_text (q_at (J0 (h_ad z0 (h_ad z0 (h_ad z0 a0 2) 0) 0)) (J0 (h_ad z0 (h_ad z0 a0 2) 0) 1).toInt) 501 0 (fun _ => false) q_pl 0).2.2.2 ∧ (∀ b k : Nat, (z0.ty b = 6 ∨ z0.ty b = 600 ∨ z0.ty b = 601) → b ≠ (h_ad z0 (h_ad z0 a0 2) 1) → b ≠ (h_ad z0 (h_ad z0 (h_ad z0 a0 2) 1) 0) → b ≠ (h_ad z0 (h_ad z0 (h_ad z0 a0 2) 1) 1) → (∀ t : Nat, z0.R (h_ad z0 (h_ad z0 a0 1) 1) y_t.toNat = some t → b ≠ t ∧ b ≠ h_ad z0 t 0 ∧ b ≠ h_ad z0 t 1) → I10 b k = J0 b k)))); rw [ard, aqt, abt, arl, arn, aro, alb, atx, abk, qc0, ← egb]; exact Or.inr ⟨by omega, by rw [show I10 rd 2 = v7 from (h_n1 eI10 trd ttp (by decide)).trans (ev7.symm)]; exact h5p0, by rw [show I10 rd 3 = v8 from (h_n1 eI10 trd ttp (by decide)).trans (ev8.symm)]; exact h5p1, h5p2, Or.inl ⟨(fun h9 => absurd (h5p3 h9).2 (by omega)), by rw [ez0], fun b k h1 h2 h3 h4 => (by rw [eI10]; exact congrFun (h_up_ne (fun e9 => by rw [e9, ztp] at h1; omega)) k : I10 b k = I6 b k).trans (fr1 b k h1 h2 h3 h4)⟩⟩), (by show (I10 (h_ad z0 a0 0) 1).toInt = 0; rw [atp, h_n0 eI10]; decide)⟩⟩, h_ret g ht⟩, hS.F ht⟩) hS.2.2 dX11_laws_52
    · have ic9 := (xi_nlt c9 rfl (by decide) : 0 ≤ rh5.toInt)
      refine lv_aload_n hx hb dX11_laws_28 rfl (lv_at hl 1 rfl) ?_
      refine h_get (v := .ref lb) hx hb hts iX11 hown g t_a0 (by decide) so_12 rfl 1 (by decide) (hts (.fieldLink RX11 19 "CapLeague" "lawBook" "LCapLeague$LawBook;") (by decide +kernel)) rfl dX11_laws_29 (by show va_rf (z.R a0 1) = _; rw [rlb]; rfl) ?_
      refine lv_iload_n hx hb dX11_laws_32 rfl (lv_at hl 2 rfl) ?_
      refine lv_aload_n hx hb dX11_laws_33 rfl (lv_at hl 1 rfl) ?_
      refine h_get (v := .ref rd) hx hb hts iX11 hown g t_a0 (by decide) so_12 rfl 2 (by decide) (hts (.fieldLink RX11 28 "CapLeague" "reader" "LCapLeague$LawReader;") (by decide +kernel)) rfl dX11_laws_34 (by show va_rf (z.R a0 2) = _; rw [rrd]; rfl) ?_
      refine h_get (v := .ref rl) hx hb hts iX4 hown g trd (by decide) so_5 rfl 1 (by decide) (hts (.fieldLink RX11 93 "CapLeague$LawReader" "read" "LCapLeague$Laws;") (by decide +kernel)) rfl dX11_laws_37 (by show va_rf (z.R rd 1) = _; rw [rrl]; rfl) ?_
      replace kf_bk_3 : I6 bk 3 = c0 := (h_F.at fh5 tbk rfl).trans (ec0.symm)
      replace kf_rd_2 : I6 rd 2 = v7 := ev7.symm
      replace kf_rd_3 : I6 rd 3 = v8 := ev8.symm
      replace hZ := hZ.tcall hF rfl
      replace hQ := hQ.tc hF rfl
      have e1 : (q_text gb 501 0 (fun _ => false) q_pl 0).1 = 0 := Classical.byContradiction (fun h9 => absurd (h5p4 h9) (by omega))
      refine va_callv (va_runV (As := [.int y, .ref rl]) (rest := []) ⟨hx, hb, hml, hown, hts⟩ (zX3_tellF l E X A z I6 L0 lb tlb y (y_t) h_y rl trl ((q_text gb 501 0 (fun _ => false) q_pl 0).2.2.2) (by rw [h_ad.at rrn, h_ad.at rro]; exact (h5p3 e1).1) hQ.1) (cwV 2 hts gX11_laws_X3_tell rfl rfl rfl (by decide +kernel) ⟨Nat.le_of_ble_eq_true rfl, Nat.le_of_ble_eq_true rfl⟩) ⟨h_blind _ _ _ _ _ _ _, h_recv g tlb (by decide) so_4 (q := (RX3, TX3, 2)) rfl, h_pre _ hE hk hX hA hI hR g⟩ rfl rfl hl.1 rfl (lv_room (Nat.le_of_ble_eq_true rfl)) dX11_laws_40 ⟨Nat.le_of_ble_eq_true rfl, Nat.le_of_ble_eq_true rfl⟩) g.2.1 (fun q _ h => h) (fun q h => h) (fun u t H1 locs ht hvm h11 hB hz1 hk1 hS => ?_)
      obtain ⟨z, I0, L12⟩ := u
      obtain ⟨hI, hR, xh11, qh11, h11⟩ := h11
      replace hI : h_I z I0 := hI
      replace hR : h_R z := hR
      have hB : h_B E A z I0 L12 t := hB
      have xh11 : h_X [(600, 999), (601, 999), (6, 2)] [401] none _ _ _ z I0 L12 := xh11
      have qh11 : h_Q [(600, 999), (601, 999), (6, 2)] none _ z I0 := qh11
      replace hQ := hQ.call xh11 qh11 rfl rfl
      replace hZ := hZ.call xh11 rfl (fun t h9 => h9) (fun b hb => by cases hb)
      replace kf_bk_3 : I0 bk 3 = c0 := (xh11.I tbk (by decide) (fun h9 => by cases h9) rfl).trans kf_bk_3
      replace kf_rd_2 : I0 rd 2 = v7 := (xh11.I trd (by decide) (fun h9 => by cases h9) rfl).trans kf_rd_2
      replace kf_rd_3 : I0 rd 3 = v8 := (xh11.I trd (by decide) (fun h9 => by cases h9) rfl).trans kf_rd_3
      have rtp := xh11.R t_a0 (by decide) (fun h9 => by cases h9) rfl rtp
      have rlb := xh11.R t_a0 (by decide) (fun h9 => by cases h9) rfl rlb
      have rtx := xh11.R tlb (by decide) (fun h9 => by cases h9) rfl rtx
      have rrd := xh11.R t_a0 (by decide) (fun h9 => by cases h9) rfl rrd
      have rqt := xh11.R trd (by decide) (fun h9 => by cases h9) rfl rqt
      have rbt := xh11.R tqt (by decide) (fun h9 => by cases h9) rfl rbt
      have rrl := xh11.R trd (by decide) (fun h9 => by cases h9) rfl rrl
      have rrn := xh11.R trl (by decide) (fun h9 => by cases h9) rfl rrn
      have rro := xh11.R trl (by decide) (fun h9 => by cases h9) rfl rro
      have rbk := xh11.R t_a0 (by decide) (fun h9 => by cases h9) rfl rbk
      replace t_a0 := xh11.ty t_a0 (by decide) (fun h9 => by cases h9)
      have ttp := xh11.ty ttp (by decide) (fun h9 => by cases h9)
      have tlb := xh11.ty tlb (by decide) (fun h9 => by cases h9)
      have ttx := xh11.ty ttx (by decide) (fun h9 => by cases h9)
      have trd := xh11.ty trd (by decide) (fun h9 => by cases h9)
      have tqt := xh11.ty tqt (by decide) (fun h9 => by cases h9)
      have tbt := xh11.ty tbt (by decide) (fun h9 => by cases h9)
      have trl := xh11.ty trl (by decide) (fun h9 => by cases h9)
      have trn := xh11.ty trn (by decide) (fun h9 => by cases h9)
      have tro := xh11.ty tro (by decide) (fun h9 => by cases h9)
      have tbk := xh11.ty tbk (by decide) (fun h9 => by cases h9)
      replace g := h_after g hB ht hS
      generalize H1 = H at g
      clear hB hk1 hz1 ht hvm hS
      replace hF : h_F [(5, 4), (5, 5), (5, 6), (5, 7), (5, 2), (5, 3), (600, 999), (601, 999), (6, 2), (5, 8), (9, 1)] z I0 I0 := h_F.rf
      refine W.cs (cells' := 3) (slots' := 17) rfl rfl ?_
      rw [ez0, atx] at h11
      obtain ⟨tt, t1, t2, t3⟩ := (Or.resolve_left h11 (fun h9 => h9 (by omega))).2.2
      have ttt : z.ty tt = 6 := hR.opt (k := y_t.toNat) ttx (rfl : h_rs 401 _ = some (6, true)) (by rw [so_401]; show _ < 10; omega) (by rw [t1]; exact if_pos rfl)
      obtain ⟨nn, rnn, tnn⟩ := hR.at tt 0 ttt (rfl : h_rs 6 0 = some (600, false)) (by decide)
      obtain ⟨ll, rll, tll⟩ := hR.at tt 1 ttt (rfl : h_rs 6 1 = some (601, false)) (by decide)
      refine lv_aload_n hx hb dX11_laws_43 rfl (lv_at hl 1 rfl) ?_
      refine h_get (v := .ref tp) hx hb hts iX11 hown g t_a0 (by decide) so_12 rfl 0 (by decide) (hts (.fieldLink RX11 10 "CapLeague" "tape" "LCapLeague$Tape;") (by decide +kernel)) rfl dX11_laws_44 (by show va_rf (z.R a0 0) = _; rw [rtp]; rfl) ?_
      refine lv_iconst (v := 0) hx hb dX11_laws_47 (by decide) ?_
      refine h_putI (ty := .int) (v := 0) hx hb hts iX8 tyX8 tyX8_ok nmX8 hown g ttp (by decide) so_9 rfl 1 (by decide) rfl (hts (.fieldLink RX11 81 "CapLeague$Tape" "size" "I") (by decide +kernel)) rfl rfl (by decide +kernel) rfl rfl dX11_laws_48 (fun I13 H locs eI13 g => ?_)
      replace hI := hI.wr eI13 ttp (rfl : h_bd 9 1 = (0, 500)) (by decide) (by decide)
      replace hF := hF.wr eI13 ttp rfl
      refine lv_iload_n hx hb dX11_laws_51 rfl (lv_at hl 0 rfl) ?_
      replace hZ := hZ.tcall hF rfl
      replace hQ := hQ.tc hF rfl
      replace hS := g.2.1
      exact W.iret (v := rh5) hx hb hr (fun t ht hW => ⟨⟨rh5, (z, I13, L12), rfl, ⟨hI, hR, hZ, hQ, ⟨(by show (¬ ((J0 (h_ad z0 a0 3) 3).toInt ≤ y_t ∧ y_t ≤ 9) ∧ rh5.toInt = -2 ∧ I13 (h_ad z0 a0 2) 2 = J0 (h_ad z0 a0 2) 2 ∧ I13 (h_ad z0 a0 2) 3 = J0 (h_ad z0 a0 2) 3 ∧ z.R (h_ad z0 (h_ad z0 a0 1) 1) = z0.R (h_ad z0 (h_ad z0 a0 1) 1) ∧ (∀ b k : Nat, (z0.ty b = 6 ∨ z0.ty b = 600 ∨ z0.ty b = 601) → b ≠ (h_ad z0 (h_ad z0 a0 2) 1) → b ≠ (h_ad z0 (h_ad z0 (h_ad z0 a0 2) 1) 0) → b ≠ (h_ad z0 (h_ad z0 (h_ad z0 a0 2) 1) 1) → I13 b k = J0 b k)) ∨ (((J0 (h_ad z0 a0 3) 3).toInt ≤ y_t ∧ y_t ≤ 9) ∧ (I13 (h_ad z0 a0 2) 2).toInt = (q_text (q_at (J0 (h_ad z0 (h_ad z0 (h_ad z0 a0 2) 0) 0)) (J0 (h_ad z0 (h_ad z0 a0 2) 0) 1).toInt) 501 0 (fun _ => false) q_pl 0).1 ∧ (I13 (h_ad z0 a0 2) 3).toInt = (q_text (q_at (J0 (h_ad z0 (h_ad z0 (h_ad z0 a0 2) 0) 0)) (J0 (h_ad z0 (h_ad z0 a0 2) 0) 1).toInt) 501 0 (fun _ => false) q_pl 0).2.1 ∧ rh5.toInt = (q_text (q_at (J0 (h_ad z0 (h_ad z0 (h_ad z0 a0 2) 0) 0)) (J0 (h_ad z0 (h_ad z0 a0 2) 0) 1).toInt) 501 0 (fun _ => false) q_pl 0).2.2.1 ∧ (((q_text (q_at (J0 (h_ad z0 (h_ad z0 (h_ad z0 a0 2) 0) 0)) (J0 (h_ad z0 (h_ad z0 a0 2) 0) 1).toInt) 501 0 (fun _ => false) q_pl 0).1 ≠ 0 ∧ z.R (h_ad z0 (h_ad z0 a0 1) 1) = z0.R (h_ad z0 (h_ad z0 a0 1) 1) ∧ (∀ b k : Nat, (z0.ty b = 6 ∨ z0.ty b = 600 ∨ z0.ty b = 601) → b ≠ (h_ad z0 (h_ad z0 a0 2) 1) → b ≠ (h_ad z0 (h_ad z0 (h_ad z0 a0 2) 1) 0) → b ≠ (h_ad z0 (h_ad z0 (h_ad z0 a0 2) 1) 1) → I13 b k = J0 b k)) ∨ ((q_text (q_at (J0 (h_ad z0 (h_ad z0 (h_ad z0 a0 2) 0) 0)) (J0 (h_ad z0 (h_ad z0 a0 2) 0) 1).toInt) 501 0 (fun _ => false) q_pl 0).1 = 0 ∧ 0 ≤ y_t ∧ ∃ t : Nat, z.R (h_ad z0 (h_ad z0 a0 1) 1) = (fun k => if k = y_t.toNat then some t else z0.R (h_ad z0 (h_ad z0 a0 1) 1) k) ∧ h_lw I13 t (h_ad z t 0) (h_ad z t 1) (q_text (q_at (J0 (h_ad z0 (h_ad z0 (h_ad z0 a0 2) 0) 0)) (J0 (h_ad z0 (h_ad z0 a0 2) 0) 1).toInt) 501 0 (fun _ => false) q_pl 0).2.2.2 ∧ (∀ b k : Nat, (z0.ty b = 6 ∨ z0.ty b = 600 ∨ z0.ty b = 601) → b ≠ (h_ad z0 (h_ad z0 a0 2) 1) → b ≠ (h_ad z0 (h_ad z0 (h_ad z0 a0 2) 1) 0) → b ≠ (h_ad z0 (h_ad z0 (h_ad z0 a0 2) 1) 1) → (∀ t : Nat, z0.R (h_ad z0 (h_ad z0 a0 1) 1) y_t.toNat = some t → b ≠ t ∧ b ≠ h_ad z0 t 0 ∧ b ≠ h_ad z0 t 1) → I13 b k = J0 b k)))); rw [ard, aqt, abt, arl, arn, aro, alb, atx, abk, qc0, ← egb]; exact Or.inr ⟨by omega, by rw [show I13 rd 2 = v7 from (h_n1 eI13 trd ttp (by decide)).trans (kf_rd_2)]; exact h5p0, by rw [show I13 rd 3 = v8 from (h_n1 eI13 trd ttp (by decide)).trans (kf_rd_3)]; exact h5p1, h5p2, Or.inr ⟨e1, by omega, tt, t1, (by rw [h_ad.at rnn, h_ad.at rll] at t2 ⊢; exact t2.w eI13 ttp ttt tnn tll (by decide) (by decide) (by decide)), fun b k h1 h2 h3 h4 h5 => (by rw [eI13]; exact congrFun (h_up_ne (fun e9 => by rw [e9, ztp] at h1; omega)) k : I13 b k = I0 b k).trans ((t3 b k (by omega) h5).trans (fr1 b k h1 h2 h3 h4))⟩⟩), (by show (I13 (h_ad z0 a0 0) 1).toInt = 0; rw [atp, h_n0 eI13]; decide)⟩⟩, h_ret g ht⟩, hS.F ht⟩) hS.2.2 dX11_laws_52

