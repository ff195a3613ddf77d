theorem h_arrP {args : Array Value} {s : State} {ty : FieldType} (h : (Cond.arrayClass ty).before args s = true) (hty : ∀ c, s.vm.findClass ("[" ++ ty.toString) = some c → va_RA s c ty) : ∃ cA : ClassId, ArrOfT s cA ty ∧ va_RA s cA ty := by
  obtain ⟨cA, kA, comp, h1, h2, h3⟩ := Cond.arrayClass_spec h
  exact ⟨cA, fun N z => ⟨(fun k h => by cases h), kA, h2, comp, h3⟩, hty cA h1⟩
theorem h_arrO {s : State} {C : String} (h : va_AO C s) : ∃ cA : ClassId, ArrOfT s cA (.object C) ∧ va_RA s cA (.object C) := by
  obtain ⟨comp, c, k, h1, h2, h3, h4, h5⟩ := Cond.arrayOver_spec h
  exact ⟨c, fun N z => ⟨(fun k h => by cases h), k, h3, comp, h4⟩, k, comp, h3, h4, h1, h5⟩
theorem h_arrG {s : State} (h : xG s) : ∃ cA : ClassId, ArrOfT s cA (.array .int) ∧ va_RA s cA (.array .int) := by
  obtain ⟨comp, c, k, h1, h3, h4, h5⟩ := h
  exact ⟨c, fun N z => ⟨(fun k h => by cases h), k, h3, comp, h4⟩, h5⟩
theorem h_I00 : h_I ((fun _ => 0, fun _ _ => none) : tZ) (fun _ _ => 0) := fun a k => h_bd0 0 k
theorem h_R00 : h_R ((fun _ => 0, fun _ _ => none) : tZ) := fun a k t n h _ => by cases (show (none : Option (Nat × Bool)) = some (t, n) from h)
set_option maxHeartbeats 16000000 in
set_option maxRecDepth 100000 in
theorem whole_start {p : Program} {e : Env} {s : State} {m : MethodId} {below : List Frame} {meth : Method} {c : Code} (l : Launch) {b L : Nat} {xs : Nat → Int32} (hL : L ≤ 4096) (C0 : lw_At p s m meth c b L xs) : W p l e room_1 s m #[Value.ref b] below meth c s.heap [] 0 0 (lw_Z below #[Value.ref b] s) (entryFrame m ([Value.ref b] : List Value).toArray 4) := by
  obtain ⟨hx, hb, hr, hml, hown, hts0, hSc, hbl, hlocks, hgv⟩ := id C0
  have hE := xs_E hts0
  have hts : ∀ w ∈ wsL_law, w.before #[Value.ref b] s = true := fun w h => hts0 w (wsL_law_in w h)
  obtain ⟨A, hAe⟩ : ∃ A : Nat → Prop, (fun q : Nat => s.heap.size ≤ q) = A := ⟨_, rfl⟩
  have hA : ∀ q : Nat, s.heap.size ≤ q → A q := fun q h => by rw [← hAe]; exact h
  have hbA : ¬ A b := by rw [← hAe]; exact Nat.not_le.mpr hbl
  obtain ⟨X, hk, hX⟩ := hs_X hts0 hgv (A := A) (fun a h => by rw [← hAe]; exact Nat.not_le.mpr h)
  obtain ⟨c0, iS0, hKn0⟩ := u_known (C := RX0) (T := TX0) (N := 9) (n := 9) hts0 inX0 (hts0 (.instantiable RX0 9) (by decide +kernel))
  obtain ⟨c1, iS1, hKn1⟩ := u_known (C := RX1) (T := TX1) (N := 4) (n := 4) hts0 inX1 (hts0 (.instantiable RX1 4) (by decide +kernel))
  obtain ⟨c2, iS2, hKn2⟩ := u_known (C := RX2) (T := TX2) (N := 7) (n := 7) hts0 inX2 (hts0 (.instantiable RX2 7) (by decide +kernel))
  obtain ⟨c3, iS3, hKn3⟩ := u_known (C := RX3) (T := TX3) (N := 2) (n := 2) hts0 inX3 (hts0 (.instantiable RX3 2) (by decide +kernel))
  obtain ⟨c4, iS4, hKn4⟩ := u_known (C := RX4) (T := TX4) (N := 9) (n := 9) hts0 inX4 (hts0 (.instantiable RX4 9) (by decide +kernel))
  obtain ⟨c5, iS5, hKn5⟩ := u_known (C := RX5) (T := TX5) (N := 3) (n := 3) hts0 inX5 (hts0 (.instantiable RX5 3) (by decide +kernel))
  obtain ⟨c6, iS6, hKn6⟩ := u_known (C := RX6) (T := TX6) (N := 9) (n := 9) hts0 inX6 (hts0 (.instantiable RX6 9) (by decide +kernel))
  obtain ⟨c7, iS7, hKn7⟩ := u_known (C := RX7) (T := TX7) (N := 13) (n := 13) hts0 inX7 (hts0 (.instantiable RX7 13) (by decide +kernel))
  obtain ⟨c8, iS8, hKn8⟩ := u_known (C := RX8) (T := TX8) (N := 2) (n := 2) hts0 inX8 (hts0 (.instantiable RX8 2) (by decide +kernel))
  obtain ⟨c9, iS9, hKn9⟩ := u_known (C := RX9) (T := TX9) (N := 10) (n := 10) hts0 inX9 (hts0 (.instantiable RX9 10) (by decide +kernel))
  obtain ⟨c10, iS10, hKn10⟩ := u_known (C := RX10) (T := TX10) (N := 4) (n := 4) hts0 inX10 (hts0 (.instantiable RX10 4) (by decide +kernel))
  obtain ⟨c11, iS11, hKn11⟩ := u_known (C := RX11) (T := TX11) (N := 8) (n := 8) hts0 inX11 (hts0 (.instantiable RX11 8) (by decide +kernel))
  obtain ⟨c12, iS12, hKn12⟩ := u_known (C := RX12) (T := TX12) (N := 51) (n := 51) hts0 inX12 (hts0 (.instantiable RX12 51) (by decide +kernel))
  obtain ⟨dC, dI, hKc⟩ : ∃ (dC : Nat → ClassId) (dI : Nat → Nat → Nat), ∀ (k : Nat) (q : vw_C), vwCl[k]? = some q → u_Kn s q.1 q.2.1 q.2.2 (dC k) (dI k) := by
    refine ⟨fun k => match k with | 0 => c0 | 1 => c1 | 2 => c2 | 3 => c3 | 4 => c4 | 5 => c5 | 6 => c6 | 7 => c7 | 8 => c8 | 9 => c9 | 10 => c10 | 11 => c11 | _ => c12, fun k => match k with | 0 => iS0 | 1 => iS1 | 2 => iS2 | 3 => iS3 | 4 => iS4 | 5 => iS5 | 6 => iS6 | 7 => iS7 | 8 => iS8 | 9 => iS9 | 10 => iS10 | 11 => iS11 | _ => iS12, ?_⟩
    intro k q hq
    match k, hq with
    | 0, hq => cases hq; exact hKn0
    | 1, hq => cases hq; exact hKn1
    | 2, hq => cases hq; exact hKn2
    | 3, hq => cases hq; exact hKn3
    | 4, hq => cases hq; exact hKn4
    | 5, hq => cases hq; exact hKn5
    | 6, hq => cases hq; exact hKn6
    | 7, hq => cases hq; exact hKn7
    | 8, hq => cases hq; exact hKn8
    | 9, hq => cases hq; exact hKn9
    | 10, hq => cases hq; exact hKn10
    | 11, hq => cases hq; exact hKn11
    | 12, hq => cases hq; exact hKn12
    | k + 13, hq => simp [vwCl] at hq
  obtain ⟨ci, aci, rci⟩ := h_arrP (hts0 (.arrayClass .int) (by decide +kernel)) (fun _ h => h)
  obtain ⟨cz, acz, rcz⟩ := h_arrP (hts0 (.arrayClass .boolean) (by decide +kernel)) (fun _ h => h)
  obtain ⟨cb, acb, rcb⟩ := h_arrP (hts0 (.arrayClass .byte) (by decide +kernel)) (fun _ h => h)
  obtain ⟨cL, acL, rcL⟩ := h_arrO hE.2.2.1
  obtain ⟨cP, acP, rcP⟩ := h_arrO hE.2.2.2.1
  obtain ⟨cA, acA, rcA⟩ := h_arrG hE.2.2.2.2
  obtain ⟨E, eE⟩ : ∃ E : tE, E = ((dC, dI), ci, cz, cb, cL, cP, cA) := ⟨_, rfl⟩
  have hK : va_K E.D vwCl (h_tys E) s := by
    subst eE
    refine ⟨hKc, fun k q hq => ?_⟩
    match k, hq with
    | 0, hq => cases hq; exact ⟨aci, rci⟩
    | 1, hq => cases hq; exact ⟨acz, rcz⟩
    | 2, hq => cases hq; exact ⟨acb, rcb⟩
    | 3, hq => cases hq; exact ⟨acL, rcL⟩
    | 4, hq => cases hq; exact ⟨acP, rcP⟩
    | 5, hq => cases hq; exact ⟨acA, rcA⟩
    | k + 6, hq => simp [h_tys] at hq
  obtain ⟨z, ez⟩ : ∃ z : tZ, z = ((fun _ => 0, fun _ _ => none) : tZ) := ⟨_, rfl⟩
  obtain ⟨I0, eI⟩ : ∃ I0 : tI, I0 = (fun _ _ => 0) := ⟨_, rfl⟩
  obtain ⟨L0, eL⟩ : ∃ L0 : tL, L0 = (fun _ _ => 0) := ⟨_, rfl⟩
  have hI : h_I z I0 := by rw [ez, eI]; exact h_I00
  have hR : h_R z := by rw [ez]; exact h_R00
  have g : h_G h_so h_fk E A z I0 L0 s s.heap s.heap [] := ⟨hK, va_S.rf, [], (fun k q h => by simp at h), ⟨fun i j p q h => by simp at h, fun k q h => by simp at h⟩, fun a h => absurd (by rw [ez]; rfl) h⟩
  have hU : h_U z := by rw [ez]; exact ⟨(fun a k b h => nomatch (show (none : Option Nat) = some b from h)), (fun a k h => rfl), (fun a k a2 k2 b h1 h2 h3 => nomatch (show (none : Option Nat) = some b from h3))⟩
  have H0 : h_0 [] z I0 := fun b k h1 h2 => by rw [eI]
  have iX11 := inlX11
  have iX12 := inlX12
  have hl := lv_entry ([.ref b]) (n := 4) (Nat.le_of_ble_eq_true rfl)
  rw [lg_entry_eq]
  generalize (lg_sl ([.ref b]) ++ List.replicate (4 - (lg_sl ([.ref b])).length) Slot.unset).toArray = ls at hl ⊢
  have hl : lv_has ls 4 [(0, .ref b)] := hl
  refine h_newO (C := RX11) (T := TX11) (N := 8) (ci := 11) hx hb hts iX11 tyX11 tyX11_ok hown (hts0 (.classLink RL 7 RX11) (by decide +kernel)) (hts0 (.instantiable RX11 8) (by decide +kernel)) (hts0 (.initialized RX11) (by decide +kernel)) g hA rfl so_61 (fun j hj => by rcases (show j = 0 ∨ j = 1 ∨ j = 2 ∨ j = 3 ∨ j = 4 ∨ j = 5 ∨ j = 6 ∨ j = 7 by omega) with rfl | rfl | rfl | rfl | rfl | rfl | rfl | rfl <;> rfl) (show 0 + 1 ≤ 600000 by decide) (show 0 + 8 ≤ 7302250 by decide) dL_law_0 (fun q1 H hq0 g => ?_)
  have hI := hI.nw (q := q1) (t := 61) (f := fun _ => none)
  have hR := hR.nw (q := q1) (t := 61) (f := fun _ => none) hq0 (fun k t2 n2 h => by cases (show (none : Option (Nat × Bool)) = some (t2, n2) from h))
  have hU := hU.nw (q := q1) (t := 61) hq0
  have H0 := H0.nw (q := q1) (t := 61) (f := fun _ => none)
  have tq1 : (z.nw q1 61 (fun _ => none)).ty q1 = 61 := nw_te
  have hzq1 : h_row I0 q1 (fun _ => 0) q1 = fun _ => 0 := h_row_e
  obtain ⟨z, ez⟩ : ∃ z1 : tZ, z1 = z.nw q1 61 (fun _ => none) := ⟨_, rfl⟩
  rw [← ez] at g hI hR hU H0 tq1 
  obtain ⟨I0, eI⟩ : ∃ J : tI, J = h_row I0 q1 (fun _ => 0) := ⟨_, rfl⟩
  rw [← eI] at g hI H0 hzq1 
  obtain ⟨L0, eL⟩ : ∃ J : tL, J = h_rL L0 q1 (fun _ => 0) := ⟨_, rfl⟩
  rw [← eL] at g
  refine W.cs (cells' := 1) (slots' := 8) rfl rfl ?_
  refine lv_dup hx hb dL_law_3 rfl ?_
  refine va_callv (va_runI (As := []) (rest := [.ref q1]) ⟨hx, hb, hml, hown, hts⟩ (zX11_initB l E X A z I0 L0 q1 tq1 hzq1 hU) (cwI 0 hts gL_law_X11_init rfl rfl rfl (hts0 (.initialized RX11) (by decide +kernel)) (hts0 (.methodLink RL 9 yX11_init) (by decide +kernel)) (hts0 (.instanceMethod yX11_init) (by decide +kernel)) rfl (by decide +kernel) ⟨Nat.le_of_ble_eq_true rfl, Nat.le_of_ble_eq_true rfl⟩) ⟨h_blind _ _ _ _ _ _ _, h_pre _ hE hk hX hA hI hR g⟩ rfl rfl hl.1 rfl (lv_room (Nat.le_of_ble_eq_true rfl)) dL_law_4 ⟨show 1 + 141 ≤ 600000 by decide, show 8 + 5849 ≤ 7302250 by decide⟩) g.2.1 (fun q _ h => h) (fun q h => h) (fun u t H1 locs ht hvm h1 hB hz1 hk1 hS => ?_)
  obtain ⟨z, I0, L0⟩ := u
  obtain ⟨hI, hR, x1, q9, t9, h1⟩ := h1
  have hI : h_I z I0 := hI
  have hR : h_R z := hR
  have hB : h_B E A z I0 L0 t := hB
  have x1 : h_X [(600, 999), (601, 999), (6, 2), (54, 3), (1100, 999)] [] (some q1) _ _ _ z I0 L0 := x1
  have q9 : h_Q [(600, 999), (601, 999), (6, 2), (54, 3), (1100, 999), (5, 3)] (some q1) _ z I0 := q9
  have H0 : h_0 [(600, 999), (601, 999), (6, 2), (54, 3), (1100, 999), (5, 3)] z I0 := H0.call x1 q9 rfl rfl rfl
  have hU := q9.1
  have tq1 : z.ty q1 = 12 := t9
  replace g := h_after g hB ht hS
  generalize H1 = H at g
  clear hB hk1 hz1 ht hvm hS
  refine W.cs (cells' := 142) (slots' := 5857) rfl rfl ?_
  obtain ⟨tp, rtp, ttp⟩ := hR.at q1 0 tq1 (rfl : h_rs 12 0 = some (9, false)) (by decide)
  obtain ⟨lb, rlb, tlb⟩ := hR.at q1 1 tq1 (rfl : h_rs 12 1 = some (4, false)) (by decide)
  obtain ⟨rd, rrd, trd⟩ := hR.at q1 2 tq1 (rfl : h_rs 12 2 = some (5, false)) (by decide)
  obtain ⟨bk, rbk, tbk⟩ := hR.at q1 3 tq1 (rfl : h_rs 12 3 = some (1, false)) (by decide)
  obtain ⟨tu, rtu, ttu⟩ := hR.at q1 4 tq1 (rfl : h_rs 12 4 = some (11, false)) (by decide)
  obtain ⟨bg, rbg, tbg⟩ := hR.at q1 5 tq1 (rfl : h_rs 12 5 = some (10, false)) (by decide)
  obtain ⟨rg, rrg, trg⟩ := hR.at q1 6 tq1 (rfl : h_rs 12 6 = some (8, false)) (by decide)
  obtain ⟨tx, rtx, ttx⟩ := hR.at lb 1 tlb (rfl : h_rs 4 1 = some (401, false)) (by decide)
  obtain ⟨un, run, tun⟩ := hR.at lb 0 tlb (rfl : h_rs 4 0 = some (6, false)) (by decide)
  obtain ⟨nU, rnU, tnU⟩ := hR.at un 0 tun (rfl : h_rs 6 0 = some (600, false)) (by decide)
  obtain ⟨lU, rlU, tlU⟩ := hR.at un 1 tun (rfl : h_rs 6 1 = some (601, false)) (by decide)
  have ral1 : z.R rd 0 = some tp := by obtain ⟨b9, r9, t9⟩ := hR.at rd 0 trd (rfl : h_rs 5 0 = some (9, false)) (by decide); have e9 : h_ad z (h_ad z q1 2) 0 = h_ad z q1 0 := h1.1; rw [h_ad.at rrd, h_ad.at r9, h_ad.at rtp] at e9; rw [r9, e9]
  have ral2 : z.R bk 0 = some lb := by obtain ⟨b9, r9, t9⟩ := hR.at bk 0 tbk (rfl : h_rs 1 0 = some (4, false)) (by decide); have e9 : h_ad z (h_ad z q1 3) 0 = h_ad z q1 1 := h1.2.1; rw [h_ad.at rbk, h_ad.at r9, h_ad.at rlb] at e9; rw [r9, e9]
  have ral3 : z.R bg 0 = some bk := by obtain ⟨b9, r9, t9⟩ := hR.at bg 0 tbg (rfl : h_rs 10 0 = some (1, false)) (by decide); have e9 : h_ad z (h_ad z q1 5) 0 = h_ad z q1 3 := h1.2.2.1; rw [h_ad.at rbg, h_ad.at r9, h_ad.at rbk] at e9; rw [r9, e9]
  have ral4 : z.R bg 1 = some tu := by obtain ⟨b9, r9, t9⟩ := hR.at bg 1 tbg (rfl : h_rs 10 1 = some (11, false)) (by decide); have e9 : h_ad z (h_ad z q1 5) 1 = h_ad z q1 4 := h1.2.2.2.1; rw [h_ad.at rbg, h_ad.at r9, h_ad.at rtu] at e9; rw [r9, e9]
  have ral5 : z.R rg 0 = some bk := by obtain ⟨b9, r9, t9⟩ := hR.at rg 0 trg (rfl : h_rs 8 0 = some (1, false)) (by decide); have e9 : h_ad z (h_ad z q1 6) 0 = h_ad z q1 3 := h1.2.2.2.2.1; rw [h_ad.at rrg, h_ad.at r9, h_ad.at rbk] at e9; rw [r9, e9]
  have ntx : ∀ k : Nat, z.R tx k = none := fun k => by have e9 : z.R (h_ad z (h_ad z q1 1) 1) = fun _ => none := h1.2.2.2.2.2.1; rw [h_ad.at rlb, h_ad.at rtx] at e9; rw [e9]
  have luU : h_lw I0 un nU lU q_pl := by have e9 : h_lw I0 (h_ad z (h_ad z q1 1) 0) (h_ad z (h_ad z (h_ad z q1 1) 0) 0) (h_ad z (h_ad z (h_ad z q1 1) 0) 1) q_pl := h1.2.2.2.2.2.2.1; rw [h_ad.at rlb, h_ad.at run, h_ad.at rnU, h_ad.at rlU] at e9; exact e9
  have vrd3 : I0 rd 3 = -1 := by have e9 : I0 (h_ad z q1 2) 2 = 0 ∧ I0 (h_ad z q1 2) 3 = -1 := h1.2.2.2.2.2.2.2.1; rw [h_ad.at rrd] at e9; exact e9.2
  obtain ⟨hd, rhd, thd⟩ := hR.at tu 0 ttu (rfl : h_rs 11 0 = some (1100, false)) (by decide)
  have cuH : ∀ k : Nat, k < 80 → (I0 hd k).toInt = (k : Int) / 10 := by have e9 : ∀ k : Nat, k < 80 → (I0 (h_ad z (h_ad z q1 4) 0) k).toInt = (k : Int) / 10 := h1.2.2.2.2.2.2.2.2; rw [h_ad.at rtu, h_ad.at rhd] at e9; exact e9
  refine lv_astore_n (lv' := [(1, .ref q1), (0, .ref b)]) hx hb dL_law_7 rfl hl (by decide) rfl (fun ls hl => ?_)
  refine h_newO (C := RX12) (T := TX12) (N := 51) (ci := 12) hx hb hts iX12 tyX12 tyX12_ok hown (hts0 (.classLink RL 10 RX12) (by decide +kernel)) (hts0 (.instantiable RX12 51) (by decide +kernel)) (hts0 (.initialized RX12) (by decide +kernel)) g hA rfl so_62 (fun j hj => by rcases (show j = 0 ∨ j = 1 ∨ j = 2 ∨ j = 3 ∨ j = 4 ∨ j = 5 ∨ j = 6 ∨ j = 7 ∨ j = 8 ∨ j = 9 ∨ j = 10 ∨ j = 11 ∨ j = 12 ∨ j = 13 ∨ j = 14 ∨ j = 15 ∨ j = 16 ∨ j = 17 ∨ j = 18 ∨ j = 19 ∨ j = 20 ∨ j = 21 ∨ j = 22 ∨ j = 23 ∨ j = 24 ∨ j = 25 ∨ j = 26 ∨ j = 27 ∨ j = 28 ∨ j = 29 ∨ j = 30 ∨ j = 31 ∨ j = 32 ∨ j = 33 ∨ j = 34 ∨ j = 35 ∨ j = 36 ∨ j = 37 ∨ j = 38 ∨ j = 39 ∨ j = 40 ∨ j = 41 ∨ j = 42 ∨ j = 43 ∨ j = 44 ∨ j = 45 ∨ j = 46 ∨ j = 47 ∨ j = 48 ∨ j = 49 ∨ j = 50 by omega) with rfl | rfl | rfl | rfl | rfl | rfl | rfl | rfl | rfl | rfl | rfl | rfl | rfl | rfl | rfl | rfl | rfl | rfl | rfl | rfl | rfl | rfl | rfl | rfl | rfl | rfl | rfl | rfl | rfl | rfl | rfl | rfl | rfl | rfl | rfl | rfl | rfl | rfl | rfl | rfl | rfl | rfl | rfl | rfl | rfl | rfl | rfl | rfl | rfl | rfl | rfl <;> rfl) (show 142 + 1 ≤ 600000 by decide) (show 5857 + 51 ≤ 7302250 by decide) dL_law_8 (fun q2 H hq0 g => ?_)
  have hI := hI.nw (q := q2) (t := 62) (f := fun _ => none)
  have hR := hR.nw (q := q2) (t := 62) (f := fun _ => none) hq0 (fun k t2 n2 h => by cases (show (none : Option (Nat × Bool)) = some (t2, n2) from h))
  have hU := hU.nw (q := q2) (t := 62) hq0
  have H0 := H0.nw (q := q2) (t := 62) (f := fun _ => none)
  have vrd3 : h_row I0 q2 (fun _ => 0) rd 3 = -1 := (congrFun (h_row_n (h_neq trd (by decide) hq0)) 3).trans vrd3
  have cuH : ∀ k : Nat, k < 80 → (h_row I0 q2 (fun _ => 0) hd k).toInt = (k : Int) / 10 := fun k hk => (congrArg Int32.toInt (congrFun (h_row_n (h_neq thd (by decide) hq0)) k)).trans (cuH k hk)
  have luU : h_lw (h_row I0 q2 (fun _ => 0)) un nU lU q_pl := luU.c (fun i => congrFun (h_row_n (h_neq tnU (by decide) hq0)) i) (congrFun (h_row_n (h_neq tun (by decide) hq0)) 2) (fun i => congrFun (h_row_n (h_neq tlU (by decide) hq0)) i)
  have ntx : ∀ k : Nat, (z.nw q2 62 (fun _ => none)).R tx k = none := fun k => h_nwr hq0 ttx (by decide) (ntx k)
  have rhd := h_nwr (q := q2) (t := 62) (f := fun _ => none) hq0 ttu (by decide) rhd
  have rtp := h_nwr (q := q2) (t := 62) (f := fun _ => none) hq0 tq1 (by decide) rtp
  have rlb := h_nwr (q := q2) (t := 62) (f := fun _ => none) hq0 tq1 (by decide) rlb
  have rrd := h_nwr (q := q2) (t := 62) (f := fun _ => none) hq0 tq1 (by decide) rrd
  have rbk := h_nwr (q := q2) (t := 62) (f := fun _ => none) hq0 tq1 (by decide) rbk
  have rtu := h_nwr (q := q2) (t := 62) (f := fun _ => none) hq0 tq1 (by decide) rtu
  have rbg := h_nwr (q := q2) (t := 62) (f := fun _ => none) hq0 tq1 (by decide) rbg
  have rrg := h_nwr (q := q2) (t := 62) (f := fun _ => none) hq0 tq1 (by decide) rrg
  have rtx := h_nwr (q := q2) (t := 62) (f := fun _ => none) hq0 tlb (by decide) rtx
  have run := h_nwr (q := q2) (t := 62) (f := fun _ => none) hq0 tlb (by decide) run
  have rnU := h_nwr (q := q2) (t := 62) (f := fun _ => none) hq0 tun (by decide) rnU
  have rlU := h_nwr (q := q2) (t := 62) (f := fun _ => none) hq0 tun (by decide) rlU
  have ral1 := h_nwr (q := q2) (t := 62) (f := fun _ => none) hq0 trd (by decide) ral1
  have ral2 := h_nwr (q := q2) (t := 62) (f := fun _ => none) hq0 tbk (by decide) ral2
  have ral3 := h_nwr (q := q2) (t := 62) (f := fun _ => none) hq0 tbg (by decide) ral3
  have ral4 := h_nwr (q := q2) (t := 62) (f := fun _ => none) hq0 tbg (by decide) ral4
  have ral5 := h_nwr (q := q2) (t := 62) (f := fun _ => none) hq0 trg (by decide) ral5
  have tq1 := h_nwk (q := q2) (t := 62) (f := fun _ => none) hq0 tq1 (by decide)
  have thd := h_nwk (q := q2) (t := 62) (f := fun _ => none) hq0 thd (by decide)
  have ttp := h_nwk (q := q2) (t := 62) (f := fun _ => none) hq0 ttp (by decide)
  have tlb := h_nwk (q := q2) (t := 62) (f := fun _ => none) hq0 tlb (by decide)
  have trd := h_nwk (q := q2) (t := 62) (f := fun _ => none) hq0 trd (by decide)
  have tbk := h_nwk (q := q2) (t := 62) (f := fun _ => none) hq0 tbk (by decide)
  have ttu := h_nwk (q := q2) (t := 62) (f := fun _ => none) hq0 ttu (by decide)
  have tbg := h_nwk (q := q2) (t := 62) (f := fun _ => none) hq0 tbg (by decide)
  have trg := h_nwk (q := q2) (t := 62) (f := fun _ => none) hq0 trg (by decide)
  have ttx := h_nwk (q := q2) (t := 62) (f := fun _ => none) hq0 ttx (by decide)
  have tun := h_nwk (q := q2) (t := 62) (f := fun _ => none) hq0 tun (by decide)
  have tnU := h_nwk (q := q2) (t := 62) (f := fun _ => none) hq0 tnU (by decide)
  have tlU := h_nwk (q := q2) (t := 62) (f := fun _ => none) hq0 tlU (by decide)
  have tq2 : (z.nw q2 62 (fun _ => none)).ty q2 = 62 := nw_te
  have hzq2 : h_row I0 q2 (fun _ => 0) q2 = fun _ => 0 := h_row_e
  obtain ⟨z, ez⟩ : ∃ z1 : tZ, z1 = z.nw q2 62 (fun _ => none) := ⟨_, rfl⟩
  rw [← ez] at g hI hR hU H0 tq2 tq1 thd ttp tlb trd tbk ttu tbg trg ttx tun tnU tlU rhd rtp rlb rrd rbk rtu rbg rrg rtx run rnU rlU ral1 ral2 ral3 ral4 ral5 ntx
  obtain ⟨I0, eI⟩ : ∃ J : tI, J = h_row I0 q2 (fun _ => 0) := ⟨_, rfl⟩
  rw [← eI] at g hI H0 hzq2 vrd3 luU cuH
  obtain ⟨L0, eL⟩ : ∃ J : tL, J = h_rL L0 q2 (fun _ => 0) := ⟨_, rfl⟩
  rw [← eL] at g
  refine W.cs (cells' := 143) (slots' := 5908) rfl rfl ?_
  refine lv_dup hx hb dL_law_11 rfl ?_
  refine va_callv (va_runI (As := []) (rest := [.ref q2]) ⟨hx, hb, hml, hown, hts⟩ (zX12_initB l E X A z I0 L0 q2 tq2 hzq2 hU) (cwI 0 hts gL_law_X12_init rfl rfl rfl (hts0 (.initialized RX12) (by decide +kernel)) (hts0 (.methodLink RL 12 yX12_init) (by decide +kernel)) (hts0 (.instanceMethod yX12_init) (by decide +kernel)) rfl (by decide +kernel) ⟨Nat.le_of_ble_eq_true rfl, Nat.le_of_ble_eq_true rfl⟩) ⟨h_blind _ _ _ _ _ _ _, h_pre _ hE hk hX hA hI hR g⟩ rfl rfl hl.1 rfl (lv_room (Nat.le_of_ble_eq_true rfl)) dL_law_12 ⟨show 143 + 33 ≤ 600000 by decide, show 5908 + 3500 ≤ 7302250 by decide⟩) g.2.1 (fun q _ h => h) (fun q h => h) (fun u t H1 locs ht hvm h1 hB hz1 hk1 hS => ?_)
  obtain ⟨z, I0, L0⟩ := u
  obtain ⟨hI, hR, x1, q9, t9, h1⟩ := h1
  have hI : h_I z I0 := hI
  have hR : h_R z := hR
  have hB : h_B E A z I0 L0 t := hB
  have x1 : h_X [(1310, 999), (1325, 999), (1326, 999), (1328, 999), (62, 9)] [] (some q2) _ _ _ z I0 L0 := x1
  have q9 : h_Q [(1310, 999), (1325, 999), (1326, 999), (1328, 999), (62, 9), (13, 9)] (some q2) _ z I0 := q9
  have H0 : h_0 [(600, 999), (601, 999), (6, 2), (54, 3), (1100, 999), (5, 3), (1310, 999), (1325, 999), (1326, 999), (1328, 999), (62, 9), (13, 9)] z I0 := H0.call x1 q9 rfl rfl rfl
  have hU := q9.1
  have vrd3 : I0 rd 3 = -1 := (x1.I trd (by decide) (h_sne trd tq2 (by decide)) rfl).trans vrd3
  have cuH : ∀ k : Nat, k < 80 → (I0 hd k).toInt = (k : Int) / 10 := fun k hk => (congrArg Int32.toInt (x1.I thd (by decide) (h_sne thd tq2 (by decide)) rfl)).trans (cuH k hk)
  have luU : h_lw I0 un nU lU q_pl := luU.c (fun i => x1.I tnU (by decide) (h_sne tnU tq2 (by decide)) rfl) (x1.I tun (by decide) (h_sne tun tq2 (by decide)) rfl) (fun i => x1.I tlU (by decide) (h_sne tlU tq2 (by decide)) rfl)
  have ntx : ∀ k : Nat, z.R tx k = none := fun k => x1.R ttx (by decide) (h_sne ttx tq2 (by decide)) rfl (ntx k)
  have rhd : z.R tu 0 = some hd := x1.R ttu (by decide) (h_sne ttu tq2 (by decide)) rfl rhd
  have rtp : z.R q1 0 = some tp := x1.R tq1 (by decide) (h_sne tq1 tq2 (by decide)) rfl rtp
  have rlb : z.R q1 1 = some lb := x1.R tq1 (by decide) (h_sne tq1 tq2 (by decide)) rfl rlb
  have rrd : z.R q1 2 = some rd := x1.R tq1 (by decide) (h_sne tq1 tq2 (by decide)) rfl rrd
  have rbk : z.R q1 3 = some bk := x1.R tq1 (by decide) (h_sne tq1 tq2 (by decide)) rfl rbk
  have rtu : z.R q1 4 = some tu := x1.R tq1 (by decide) (h_sne tq1 tq2 (by decide)) rfl rtu
  have rbg : z.R q1 5 = some bg := x1.R tq1 (by decide) (h_sne tq1 tq2 (by decide)) rfl rbg
  have rrg : z.R q1 6 = some rg := x1.R tq1 (by decide) (h_sne tq1 tq2 (by decide)) rfl rrg
  have rtx : z.R lb 1 = some tx := x1.R tlb (by decide) (h_sne tlb tq2 (by decide)) rfl rtx
  have run : z.R lb 0 = some un := x1.R tlb (by decide) (h_sne tlb tq2 (by decide)) rfl run
  have rnU : z.R un 0 = some nU := x1.R tun (by decide) (h_sne tun tq2 (by decide)) rfl rnU
  have rlU : z.R un 1 = some lU := x1.R tun (by decide) (h_sne tun tq2 (by decide)) rfl rlU
  have ral1 : z.R rd 0 = some tp := x1.R trd (by decide) (h_sne trd tq2 (by decide)) rfl ral1
  have ral2 : z.R bk 0 = some lb := x1.R tbk (by decide) (h_sne tbk tq2 (by decide)) rfl ral2
  have ral3 : z.R bg 0 = some bk := x1.R tbg (by decide) (h_sne tbg tq2 (by decide)) rfl ral3
  have ral4 : z.R bg 1 = some tu := x1.R tbg (by decide) (h_sne tbg tq2 (by decide)) rfl ral4
  have ral5 : z.R rg 0 = some bk := x1.R trg (by decide) (h_sne trg tq2 (by decide)) rfl ral5
  have tq1 : z.ty q1 = _ := x1.ty tq1 (by decide) (h_sne tq1 tq2 (by decide))
  have thd : z.ty hd = _ := x1.ty thd (by decide) (h_sne thd tq2 (by decide))
  have ttp : z.ty tp = _ := x1.ty ttp (by decide) (h_sne ttp tq2 (by decide))
  have tlb : z.ty lb = _ := x1.ty tlb (by decide) (h_sne tlb tq2 (by decide))
  have trd : z.ty rd = _ := x1.ty trd (by decide) (h_sne trd tq2 (by decide))
  have tbk : z.ty bk = _ := x1.ty tbk (by decide) (h_sne tbk tq2 (by decide))
  have ttu : z.ty tu = _ := x1.ty ttu (by decide) (h_sne ttu tq2 (by decide))
  have tbg : z.ty bg = _ := x1.ty tbg (by decide) (h_sne tbg tq2 (by decide))
  have trg : z.ty rg = _ := x1.ty trg (by decide) (h_sne trg tq2 (by decide))
  have ttx : z.ty tx = _ := x1.ty ttx (by decide) (h_sne ttx tq2 (by decide))
  have tun : z.ty un = _ := x1.ty tun (by decide) (h_sne tun tq2 (by decide))
  have tnU : z.ty nU = _ := x1.ty tnU (by decide) (h_sne tnU tq2 (by decide))
  have tlU : z.ty lU = _ := x1.ty tlU (by decide) (h_sne tlU tq2 (by decide))
  have tq2 : z.ty q2 = 13 := t9
  replace g := h_after g hB ht hS
  generalize H1 = H at g
  clear hB hk1 hz1 ht hvm hS
  refine W.cs (cells' := 176) (slots' := 9408) rfl rfl ?_
  refine lv_astore_n (lv' := [(2, .ref q2), (1, .ref q1), (0, .ref b)]) hx hb dL_law_15 rfl hl (by decide) rfl (fun ls hl => ?_)
  refine lv_iconst (v := 0) hx hb dL_law_16 (by decide) ?_
  refine lv_istore_n (lv' := [(3, .int 0), (2, .ref q2), (1, .ref q1), (0, .ref b)]) hx hb dL_law_17 rfl hl (by decide) rfl (fun ls hl => ?_)
  have J1 : h_J1 (I0 (h_ad z q2 10)) := h1.1
  have hm0 : ∀ k : Nat, k ≠ 9 → I0 q2 k = 0 := h1.2.1
  have hpl : ∀ i : Nat, i < 16 → (I0 (h_ad z q2 10) (176 + i)).toInt = q_pl i := h1.2.2.1
  have hm9 : I0 q2 9 = -1 := h1.2.2.2.1
  have h30 : (I0 q2 30).toInt = 0 := by rw [hm0 30 (by decide)]; decide
  obtain ⟨lw, rlw, tlw⟩ := hR.at q2 10 tq2 (rfl : h_rs 13 10 = some (1310, false)) (by decide)
  have alw := h_ad.at rlw
  obtain ⟨tb, rtb, ttb⟩ := hR.at q2 32 tq2 (rfl : h_rs 13 32 = some (1332, false)) (by decide)
  have atb := h_ad.at rtb
  have ard := h_ad.at rrd
  have atp := h_ad.at rtp
  have abk := h_ad.at rbk
  have alb := h_ad.at rlb
  have abg := h_ad.at rbg
  have atu := h_ad.at rtu
  have arg := h_ad.at rrg
  obtain ⟨bt, rbt, tbt⟩ := hR.at tp 0 ttp (rfl : h_rs 9 0 = some (900, false)) (by decide)
  have abt := h_ad.at rbt
  obtain ⟨mb, rmb, tmb⟩ := hR.at q2 0 tq2 (rfl : h_rs 13 0 = some (1300, false)) (by decide)
  have amb := h_ad.at rmb
  have atx := h_ad.at rtx
  have aun := h_ad.at run
  obtain ⟨hy, rhy, thy⟩ := hR.at q2 11 tq2 (rfl : h_rs 13 11 = some (1311, false)) (by decide)
  have ahy := h_ad.at rhy
  obtain ⟨dt, rdt, tdt⟩ := hR.at q1 7 tq1 (rfl : h_rs 12 7 = some (3, false)) (by decide)
  have adt := h_ad.at rdt
  obtain ⟨dr, rdr, tdr⟩ := hR.at dt 2 tdt (rfl : h_rs 3 2 = some (302, false)) (by decide)
  have adr := h_ad.at rdr
  obtain ⟨rl, rrl, trl⟩ := hR.at rd 1 trd (rfl : h_rs 5 1 = some (6, false)) (by decide)
  have arl := h_ad.at rrl
  obtain ⟨rn, rrn, trn⟩ := hR.at rl 0 trl (rfl : h_rs 6 0 = some (600, false)) (by decide)
  have arn := h_ad.at rrn
  obtain ⟨ro, rro, tro⟩ := hR.at rl 1 trl (rfl : h_rs 6 1 = some (601, false)) (by decide)
  have aro := h_ad.at rro
  obtain ⟨rk, rrk, trk⟩ := hR.at dt 0 tdt (rfl : h_rs 3 0 = some (300, false)) (by decide)
  have ark := h_ad.at rrk
  have R0_al : z.R rd 0 = some tp ∧ z.R bk 0 = some lb ∧ z.R bg 0 = some bk ∧ z.R bg 1 = some tu ∧ z.R rg 0 = some bk := ⟨ral1, ral2, ral3, ral4, ral5⟩
  have R0_tp : I0 tp 1 = I0 q2 1 ∧ I0 bt = I0 mb := ⟨(H0.at ttp (by decide) rfl).trans (H0.at tq2 (by decide) rfl).symm, funext (fun k => (H0.at tbt (by decide) rfl).trans (H0.at tmb (by decide) rfl).symm)⟩
  have R0_ck : I0 bk 3 = I0 q2 12 := (H0.at tbk (by decide) rfl).trans (H0.at tq2 (by decide) rfl).symm
  have R0_fa : I0 rd 2 = I0 q2 8 ∧ I0 rd 3 = I0 q2 9 := ⟨(H0.at trd (by decide) rfl).trans (H0.at tq2 (by decide) rfl).symm, vrd3.trans hm9.symm⟩
  have R0_bk : h_bk z I0 tx un lw hy := h_bk.init (funext (fun k => ntx k)) (fun k => (H0.at thy (by decide) rfl)) (by rw [h_ad.at rnU, h_ad.at rlU]; exact luU) (by rw [← alw]; exact hpl)
  have R0_dr : (I0 dr (I0 q2 12).toInt.toNat).toInt = (I0 q2 31).toInt ∧ ∀ k : Nat, (I0 q2 12).toInt < (k : Int) → I0 dr k = 0 := ⟨by rw [(H0.at tdr (by decide) rfl), show I0 q2 31 = 0 from (H0.at tq2 (by decide) rfl)], fun k _ => (H0.at tdr (by decide) rfl)⟩
  have R0_tb : I0 dt 1 = I0 q2 30 := (H0.at tdt (by decide) rfl).trans (H0.at tq2 (by decide) rfl).symm
  have R0_gb : h_gb z I0 q1 q2 := h_gb.init H0 hR tq1 tq2 hm0 (by rw [h_ad.at rtu, h_ad.at rhd]; exact cuH) h1.2.2.2.2.1 h1.2.2.2.2.2 hpl
  have e0 : (0 : Int32).toInt = 0 := by decide
  exact law_loop C0 hL hAe hk hX 4105 0 z I0 L0 H locs ls 176 9408 (by omega) (by omega) (by omega) (by omega) (by omega) ⟨g, hI, hR, tq1, tq2, J1, fun h9 => absurd h9 (by omega), hU, by rw [ard, atp, abk, alb, abg, atu, arg]; exact R0_al, by rw [atp, abt, amb]; exact R0_tp, by rw [abk]; exact R0_ck, by rw [ard]; exact R0_fa, by rw [alb, atx, aun, alw, ahy]; exact R0_bk, by rw [adt, adr]; exact R0_dr, by rw [adt]; exact R0_tb, by exact R0_gb⟩ hl

