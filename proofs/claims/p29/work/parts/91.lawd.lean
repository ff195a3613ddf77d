set_option maxHeartbeats 8000000 in
set_option maxRecDepth 100000 in
theorem law_24 {p : Program} {l : Launch} {e : Env} {s : State} {m : MethodId} {below : List Frame} {meth : Method} {c : Code} {b L : Nat} {xs : Nat → Int32} (C0 : lw_At p s m meth c b L xs) (hL : L ≤ 4096) {A : Nat → Prop} (hAe : (fun q : Nat => s.heap.size ≤ q) = A) {E : tE} {X : tX} (hk : h_Kr X s) (hX : h_S X A s s.heap) {i : Int32} (hi0 : 0 ≤ i.toInt) (hi8 : i.toInt + 8 ≤ L) {cp mo : Nat} {cells slots : Nat} (hcl : cells ≤ 500000) (hsl : slots ≤ 7000000) {z : tZ} {I0 : tI} {L0 : tL} {H : Heap} {locs : List Loc} {ls : Array Slot} (T : h_T E A s z I0 L0 H locs cp mo) (hl : lv_has ls 4 [(3, .int i), (2, .ref mo), (1, .ref cp), (0, .ref b)]) (kk : ∀ (z : tZ) (I0 : tI) (L0 : tL) (H : Heap) (locs : List Loc) (ls : Array Slot), h_T E A s z I0 L0 H locs cp mo → lv_has ls 4 [(3, .int i), (2, .ref mo), (1, .ref cp), (0, .ref b)] → W p l e room_1 s m #[Value.ref b] below meth c H locs (cells + 3) (slots + 17) (lw_Z below #[Value.ref b] s) (F0 m 1241 ls [])) : W p l e room_1 s m #[Value.ref b] below meth c H locs cells slots (lw_Z below #[Value.ref b] s) (F0 m 1020 ls []) := by
  obtain ⟨hx, hb, hr, hml, hown, hts0, hSc, hbl, hlocks, hgv⟩ := id C0
  have hE := xs_E hts0
  have hts : ∀ w ∈ wsL_law, w.before #[Value.ref b] s = true := fun w h => hts0 w (wsL_law_in w h)
  have hA : ∀ q : Nat, s.heap.size ≤ q → A q := fun q h => by rw [← hAe]; exact h
  have hbA : ¬ A b := by rw [← hAe]; exact Nat.not_le.mpr hbl
  obtain ⟨g, hI, hR, tcp, tmo, J1, J2, hU, R_al, R_tp, R_ck, R_fa, R_bk, R_dr, R_tb, R_gb⟩ := T
  unfold h_J2 at J2
  obtain ⟨lw, rlw, tlw⟩ := hR.at mo 10 tmo (rfl : h_rs 13 10 = some (1310, false)) (by decide)
  have alw : h_ad z mo 10 = lw := h_ad.at rlw
  obtain ⟨tb, rtb, ttb⟩ := hR.at mo 32 tmo (rfl : h_rs 13 32 = some (1332, false)) (by decide)
  have atb : h_ad z mo 32 = tb := h_ad.at rtb
  obtain ⟨rd, rrd, trd⟩ := hR.at cp 2 tcp (rfl : h_rs 12 2 = some (5, false)) (by decide)
  have ard : h_ad z cp 2 = rd := h_ad.at rrd
  obtain ⟨tp, rtp, ttp⟩ := hR.at cp 0 tcp (rfl : h_rs 12 0 = some (9, false)) (by decide)
  have atp : h_ad z cp 0 = tp := h_ad.at rtp
  obtain ⟨bk, rbk, tbk⟩ := hR.at cp 3 tcp (rfl : h_rs 12 3 = some (1, false)) (by decide)
  have abk : h_ad z cp 3 = bk := h_ad.at rbk
  obtain ⟨lb, rlb, tlb⟩ := hR.at cp 1 tcp (rfl : h_rs 12 1 = some (4, false)) (by decide)
  have alb : h_ad z cp 1 = lb := h_ad.at rlb
  obtain ⟨bg, rbg, tbg⟩ := hR.at cp 5 tcp (rfl : h_rs 12 5 = some (10, false)) (by decide)
  have abg : h_ad z cp 5 = bg := h_ad.at rbg
  obtain ⟨tu, rtu, ttu⟩ := hR.at cp 4 tcp (rfl : h_rs 12 4 = some (11, false)) (by decide)
  have atu : h_ad z cp 4 = tu := h_ad.at rtu
  obtain ⟨rg, rrg, trg⟩ := hR.at cp 6 tcp (rfl : h_rs 12 6 = some (8, false)) (by decide)
  have arg : h_ad z cp 6 = rg := h_ad.at rrg
  obtain ⟨bt, rbt, tbt⟩ := hR.at tp 0 ttp (rfl : h_rs 9 0 = some (900, false)) (by decide)
  have abt : h_ad z tp 0 = bt := h_ad.at rbt
  obtain ⟨mb, rmb, tmb⟩ := hR.at mo 0 tmo (rfl : h_rs 13 0 = some (1300, false)) (by decide)
  have amb : h_ad z mo 0 = mb := h_ad.at rmb
  obtain ⟨tx, rtx, ttx⟩ := hR.at lb 1 tlb (rfl : h_rs 4 1 = some (401, false)) (by decide)
  have atx : h_ad z lb 1 = tx := h_ad.at rtx
  obtain ⟨un, run, tun⟩ := hR.at lb 0 tlb (rfl : h_rs 4 0 = some (6, false)) (by decide)
  have aun : h_ad z lb 0 = un := h_ad.at run
  obtain ⟨hy, rhy, thy⟩ := hR.at mo 11 tmo (rfl : h_rs 13 11 = some (1311, false)) (by decide)
  have ahy : h_ad z mo 11 = hy := h_ad.at rhy
  obtain ⟨dt, rdt, tdt⟩ := hR.at cp 7 tcp (rfl : h_rs 12 7 = some (3, false)) (by decide)
  have adt : h_ad z cp 7 = dt := h_ad.at rdt
  obtain ⟨dr, rdr, tdr⟩ := hR.at dt 2 tdt (rfl : h_rs 3 2 = some (302, false)) (by decide)
  have adr : h_ad z dt 2 = dr := h_ad.at rdr
  obtain ⟨rl, rrl, trl⟩ := hR.at rd 1 trd (rfl : h_rs 5 1 = some (6, false)) (by decide)
  have arl : h_ad z rd 1 = rl := h_ad.at rrl
  obtain ⟨rn, rrn, trn⟩ := hR.at rl 0 trl (rfl : h_rs 6 0 = some (600, false)) (by decide)
  have arn : h_ad z rl 0 = rn := h_ad.at rrn
  obtain ⟨ro, rro, tro⟩ := hR.at rl 1 trl (rfl : h_rs 6 1 = some (601, false)) (by decide)
  have aro : h_ad z rl 1 = ro := h_ad.at rro
  obtain ⟨rk, rrk, trk⟩ := hR.at dt 0 tdt (rfl : h_rs 3 0 = some (300, false)) (by decide)
  have ark : h_ad z dt 0 = rk := h_ad.at rrk
  rw [alw] at J1
  rw [atb] at J2
  rw [ard, atp, abk, alb, abg, atu, arg] at R_al
  rw [atp, abt, amb] at R_tp
  rw [abk] at R_ck
  rw [ard] at R_fa
  rw [alb, atx, aun, alw, ahy] at R_bk
  rw [adt, adr] at R_dr
  rw [adt] at R_tb
  refine lv_aload_n hx hb dL_law_1020 rfl (lv_at hl 2 rfl) ?_
  refine lv_aload_n hx hb dL_law_1021 rfl (lv_at hl 3 rfl) ?_
  refine lv_iload_n hx hb dL_law_1022 rfl (lv_at hl 0 rfl) ?_
  refine lv_iconst (v := 1) hx hb dL_law_1023 (by decide) ?_
  refine lv_iadd hx hb dL_law_1024 ?_
  refine lv_topi (fun v1 ev1 => ?_)
  refine va_sld hx hb hSc hbl hbA g.2.1 (h_ix hi0 hi8 hL ev1 (k := 1) (by decide) (by decide) (by decide)) dL_law_1025 ?_
  refine lv_topi (fun v2 ev2 => ?_)
  refine lv_aload_n hx hb dL_law_1026 rfl (lv_at hl 3 rfl) ?_
  refine lv_iload_n hx hb dL_law_1027 rfl (lv_at hl 0 rfl) ?_
  refine lv_iconst (v := 2) hx hb dL_law_1028 (by decide) ?_
  refine lv_iadd hx hb dL_law_1029 ?_
  refine lv_topi (fun v3 ev3 => ?_)
  refine va_sld hx hb hSc hbl hbA g.2.1 (h_ix hi0 hi8 hL ev3 (k := 2) (by decide) (by decide) (by decide)) dL_law_1030 ?_
  refine lv_topi (fun v4 ev4 => ?_)
  refine lv_aload_n hx hb dL_law_1031 rfl (lv_at hl 3 rfl) ?_
  refine lv_iload_n hx hb dL_law_1032 rfl (lv_at hl 0 rfl) ?_
  refine lv_iconst (v := 3) hx hb dL_law_1033 (by decide) ?_
  refine lv_iadd hx hb dL_law_1034 ?_
  refine lv_topi (fun v5 ev5 => ?_)
  refine va_sld hx hb hSc hbl hbA g.2.1 (h_ix hi0 hi8 hL ev5 (k := 3) (by decide) (by decide) (by decide)) dL_law_1035 ?_
  refine lv_topi (fun v6 ev6 => ?_)
  have hIo := hI
  refine va_calll (va_runV (As := [.int v2, .int v4, .int v6]) (rest := []) ⟨hx, hb, hml, hown, hts⟩ (tX11_chance l E X A z I0 L0 cp tcp v2 (v2.toInt) rfl v4 (v4.toInt) rfl v6 (v6.toInt) rfl) (cwV 3 hts gL_law_X11_chance rfl rfl rfl (by decide +kernel) ⟨Nat.le_of_ble_eq_true rfl, Nat.le_of_ble_eq_true rfl⟩) ⟨h_blind _ _ _ _ _ _ _, h_recv g tcp (by decide) so_12 (q := (RX11, TX11, 8)) rfl, h_pre _ hE hk hX hA hI hR g⟩ rfl rfl hl.1 rfl (lv_room (Nat.le_of_ble_eq_true rfl)) dL_law_1036 ⟨show cells + 0 ≤ 600000 by omega, show slots + 0 ≤ 7302250 by omega⟩) g.2.1 (fun q _ h => h) (fun q h => h) (fun rh7 u t H1 locs ht hvm h7 hB hz1 hk1 hS => ?_)
  obtain ⟨I8, L9⟩ := u
  obtain ⟨hI, fh7, h7⟩ := h7
  have hI : h_I z I8 := hI
  have fh7 : h_F [] z I0 I8 := fh7
  have hB : h_B E A z I8 L9 t := hB
  replace J1 : h_J1 (I8 lw) := by rw [show I8 lw = I0 lw from funext (fun k => fh7.at tlw rfl)]; exact J1
  rw [← fh7.at tmo rfl, show I0 tb = I8 tb from funext (fun k => (fh7.at ttb rfl).symm)] at J2
  skip
  replace R_tp : I8 tp 1 = I8 mo 1 ∧ I8 bt = I8 mb := by rw [show I8 tp 1 = I0 tp 1 from fh7.at ttp rfl, show I8 mo 1 = I0 mo 1 from fh7.at tmo rfl, show I8 bt = I0 bt from funext (fun k => fh7.at tbt rfl), show I8 mb = I0 mb from funext (fun k => fh7.at tmb rfl)]; exact R_tp
  replace R_ck : I8 bk 3 = I8 mo 12 := by rw [show I8 bk 3 = I0 bk 3 from fh7.at tbk rfl, show I8 mo 12 = I0 mo 12 from fh7.at tmo rfl]; exact R_ck
  replace R_fa : I8 rd 2 = I8 mo 8 ∧ I8 rd 3 = I8 mo 9 := by rw [show I8 rd 2 = I0 rd 2 from fh7.at trd rfl, show I8 rd 3 = I0 rd 3 from fh7.at trd rfl, show I8 mo 8 = I0 mo 8 from fh7.at tmo rfl, show I8 mo 9 = I0 mo 9 from fh7.at tmo rfl]; exact R_fa
  replace R_bk : h_bk z I8 tx un lw hy := R_bk.F hR ttx tun tlw thy fh7 (fun _ => rfl) (fun _ => rfl) (fun _ => rfl) (fun _ => rfl) (fun _ => rfl)
  replace R_dr : (I8 dr (I8 mo 12).toInt.toNat).toInt = (I8 mo 31).toInt ∧ ∀ k : Nat, (I8 mo 12).toInt < (k : Int) → I8 dr k = 0 := by rw [show I8 dr = I0 dr from funext (fun k => fh7.at tdr rfl), show I8 mo 12 = I0 mo 12 from fh7.at tmo rfl, show I8 mo 31 = I0 mo 31 from fh7.at tmo rfl]; exact R_dr
  replace R_tb : I8 dt 1 = I8 mo 30 := by rw [show I8 dt 1 = I0 dt 1 from fh7.at tdt rfl, show I8 mo 30 = I0 mo 30 from fh7.at tmo rfl]; exact R_tb
  replace R_gb : h_gb z I8 cp mo := R_gb.F hR tcp tmo fh7 (by decide) (hIo.rd mo 13 tmo rfl (rfl : h_bd 13 13 = (0, 60))).2
  replace g := h_after g hB ht hS
  generalize H1 = H at g
  clear hB hk1 hz1 ht hvm hS
  refine lv_pop2_2 hx hb dL_law_1039 rfl ?_
  refine lv_aload_n hx hb dL_law_1040 rfl (lv_at hl 1 rfl) ?_
  refine lv_aload_n hx hb dL_law_1041 rfl (lv_at hl 3 rfl) ?_
  refine lv_iload_n hx hb dL_law_1042 rfl (lv_at hl 0 rfl) ?_
  refine lv_iconst (v := 1) hx hb dL_law_1043 (by decide) ?_
  refine lv_iadd hx hb dL_law_1044 ?_
  refine lv_topi (fun v10 ev10 => ?_)
  refine va_sld hx hb hSc hbl hbA g.2.1 (h_ix hi0 hi8 hL ev10 (k := 1) (by decide) (by decide) (by decide)) dL_law_1045 ?_
  refine xw_i (v := v2) (by rw [show v10 = v1 from ev10.trans ev1.symm]; exact ev2.symm) ?_
  refine lv_aload_n hx hb dL_law_1046 rfl (lv_at hl 3 rfl) ?_
  refine lv_iload_n hx hb dL_law_1047 rfl (lv_at hl 0 rfl) ?_
  refine lv_iconst (v := 2) hx hb dL_law_1048 (by decide) ?_
  refine lv_iadd hx hb dL_law_1049 ?_
  refine lv_topi (fun v12 ev12 => ?_)
  refine va_sld hx hb hSc hbl hbA g.2.1 (h_ix hi0 hi8 hL ev12 (k := 2) (by decide) (by decide) (by decide)) dL_law_1050 ?_
  refine xw_i (v := v4) (by rw [show v12 = v3 from ev12.trans ev3.symm]; exact ev4.symm) ?_
  refine lv_aload_n hx hb dL_law_1051 rfl (lv_at hl 3 rfl) ?_
  refine lv_iload_n hx hb dL_law_1052 rfl (lv_at hl 0 rfl) ?_
  refine lv_iconst (v := 3) hx hb dL_law_1053 (by decide) ?_
  refine lv_iadd hx hb dL_law_1054 ?_
  refine lv_topi (fun v14 ev14 => ?_)
  refine va_sld hx hb hSc hbl hbA g.2.1 (h_ix hi0 hi8 hL ev14 (k := 3) (by decide) (by decide) (by decide)) dL_law_1055 ?_
  refine xw_i (v := v6) (by rw [show v14 = v5 from ev14.trans ev5.symm]; exact ev6.symm) ?_
  refine vp_callSl (W.runV (As := [.int v2, .int v4, .int v6]) (rest := []) ⟨hx, hb, hml, hown, hts⟩ (tX12_chance l E X A z I8 L9 mo tmo v2 (v2.toInt) rfl v4 (v4.toInt) rfl v6 (v6.toInt) rfl (by rw [alw]; exact J1) (by rw [atb]; exact J2)) (cwV 3 hts gL_law_X12_chance rfl rfl rfl (by decide +kernel) ⟨Nat.le_of_ble_eq_true rfl, Nat.le_of_ble_eq_true rfl⟩) ⟨h_blind _ _ _ _ _ _ _, h_recv g tmo (by decide) so_13 (q := (RX12, TX12, 51)) rfl, h_pre _ hE hk hX hA hI hR g⟩ rfl rfl hl.1 rfl (lv_room (Nat.le_of_ble_eq_true rfl)) dL_law_1056 ⟨show cells + 0 ≤ 600000 by omega, show slots + 0 ≤ 7302250 by omega⟩) (fun rh16 h16 => ?_)
  refine lv_pop2_2 hx hb dL_law_1059 rfl ?_
  refine lv_goto (tgt := 1241) hx hb dL_law_1060 (by decide) ?_
  exact W.widen (by omega) (by omega) (kk z I8 L9 _ _ _ ⟨g, hI, hR, tcp, tmo, by rw [alw]; exact J1, by unfold h_J2; rw [atb]; exact J2, hU, by rw [ard, atp, abk, alb, abg, atu, arg]; exact R_al, by rw [atp, abt, amb]; exact R_tp, by rw [abk]; exact R_ck, by rw [ard]; exact R_fa, by rw [alb, atx, aun, alw, ahy]; exact R_bk, by rw [adt, adr]; exact R_dr, by rw [adt]; exact R_tb, by exact R_gb⟩ hl)
set_option maxHeartbeats 8000000 in
set_option maxRecDepth 100000 in
theorem law_25 {p : Program} {l : Launch} {e : Env} {s : State} {m : MethodId} {below : List Frame} {meth : Method} {c : Code} {b L : Nat} {xs : Nat → Int32} (C0 : lw_At p s m meth c b L xs) (hL : L ≤ 4096) {A : Nat → Prop} (hAe : (fun q : Nat => s.heap.size ≤ q) = A) {E : tE} {X : tX} (hk : h_Kr X s) (hX : h_S X A s s.heap) {i : Int32} (hi0 : 0 ≤ i.toInt) (hi8 : i.toInt + 8 ≤ L) {cp mo : Nat} {cells slots : Nat} (hcl : cells ≤ 500000) (hsl : slots ≤ 7000000) {z : tZ} {I0 : tI} {L0 : tL} {H : Heap} {locs : List Loc} {ls : Array Slot} (T : h_T E A s z I0 L0 H locs cp mo) (hl : lv_has ls 4 [(3, .int i), (2, .ref mo), (1, .ref cp), (0, .ref b)]) (kk : ∀ (z : tZ) (I0 : tI) (L0 : tL) (H : Heap) (locs : List Loc) (ls : Array Slot), h_T E A s z I0 L0 H locs cp mo → lv_has ls 4 [(3, .int i), (2, .ref mo), (1, .ref cp), (0, .ref b)] → W p l e room_1 s m #[Value.ref b] below meth c H locs (cells + 3) (slots + 17) (lw_Z below #[Value.ref b] s) (F0 m 1241 ls [])) : W p l e room_1 s m #[Value.ref b] below meth c H locs cells slots (lw_Z below #[Value.ref b] s) (F0 m 1063 ls []) := by
  obtain ⟨hx, hb, hr, hml, hown, hts0, hSc, hbl, hlocks, hgv⟩ := id C0
  have hE := xs_E hts0
  have hts : ∀ w ∈ wsL_law, w.before #[Value.ref b] s = true := fun w h => hts0 w (wsL_law_in w h)
  have hA : ∀ q : Nat, s.heap.size ≤ q → A q := fun q h => by rw [← hAe]; exact h
  have hbA : ¬ A b := by rw [← hAe]; exact Nat.not_le.mpr hbl
  obtain ⟨g, hI, hR, tcp, tmo, J1, J2, hU, R_al, R_tp, R_ck, R_fa, R_bk, R_dr, R_tb, R_gb⟩ := T
  unfold h_J2 at J2
  obtain ⟨lw, rlw, tlw⟩ := hR.at mo 10 tmo (rfl : h_rs 13 10 = some (1310, false)) (by decide)
  have alw : h_ad z mo 10 = lw := h_ad.at rlw
  obtain ⟨tb, rtb, ttb⟩ := hR.at mo 32 tmo (rfl : h_rs 13 32 = some (1332, false)) (by decide)
  have atb : h_ad z mo 32 = tb := h_ad.at rtb
  obtain ⟨rd, rrd, trd⟩ := hR.at cp 2 tcp (rfl : h_rs 12 2 = some (5, false)) (by decide)
  have ard : h_ad z cp 2 = rd := h_ad.at rrd
  obtain ⟨tp, rtp, ttp⟩ := hR.at cp 0 tcp (rfl : h_rs 12 0 = some (9, false)) (by decide)
  have atp : h_ad z cp 0 = tp := h_ad.at rtp
  obtain ⟨bk, rbk, tbk⟩ := hR.at cp 3 tcp (rfl : h_rs 12 3 = some (1, false)) (by decide)
  have abk : h_ad z cp 3 = bk := h_ad.at rbk
  obtain ⟨lb, rlb, tlb⟩ := hR.at cp 1 tcp (rfl : h_rs 12 1 = some (4, false)) (by decide)
  have alb : h_ad z cp 1 = lb := h_ad.at rlb
  obtain ⟨bg, rbg, tbg⟩ := hR.at cp 5 tcp (rfl : h_rs 12 5 = some (10, false)) (by decide)
  have abg : h_ad z cp 5 = bg := h_ad.at rbg
  obtain ⟨tu, rtu, ttu⟩ := hR.at cp 4 tcp (rfl : h_rs 12 4 = some (11, false)) (by decide)
  have atu : h_ad z cp 4 = tu := h_ad.at rtu
  obtain ⟨rg, rrg, trg⟩ := hR.at cp 6 tcp (rfl : h_rs 12 6 = some (8, false)) (by decide)
  have arg : h_ad z cp 6 = rg := h_ad.at rrg
  obtain ⟨bt, rbt, tbt⟩ := hR.at tp 0 ttp (rfl : h_rs 9 0 = some (900, false)) (by decide)
  have abt : h_ad z tp 0 = bt := h_ad.at rbt
  obtain ⟨mb, rmb, tmb⟩ := hR.at mo 0 tmo (rfl : h_rs 13 0 = some (1300, false)) (by decide)
  have amb : h_ad z mo 0 = mb := h_ad.at rmb
  obtain ⟨tx, rtx, ttx⟩ := hR.at lb 1 tlb (rfl : h_rs 4 1 = some (401, false)) (by decide)
  have atx : h_ad z lb 1 = tx := h_ad.at rtx
  obtain ⟨un, run, tun⟩ := hR.at lb 0 tlb (rfl : h_rs 4 0 = some (6, false)) (by decide)
  have aun : h_ad z lb 0 = un := h_ad.at run
  obtain ⟨hy, rhy, thy⟩ := hR.at mo 11 tmo (rfl : h_rs 13 11 = some (1311, false)) (by decide)
  have ahy : h_ad z mo 11 = hy := h_ad.at rhy
  obtain ⟨dt, rdt, tdt⟩ := hR.at cp 7 tcp (rfl : h_rs 12 7 = some (3, false)) (by decide)
  have adt : h_ad z cp 7 = dt := h_ad.at rdt
  obtain ⟨dr, rdr, tdr⟩ := hR.at dt 2 tdt (rfl : h_rs 3 2 = some (302, false)) (by decide)
  have adr : h_ad z dt 2 = dr := h_ad.at rdr
  obtain ⟨rl, rrl, trl⟩ := hR.at rd 1 trd (rfl : h_rs 5 1 = some (6, false)) (by decide)
  have arl : h_ad z rd 1 = rl := h_ad.at rrl
  obtain ⟨rn, rrn, trn⟩ := hR.at rl 0 trl (rfl : h_rs 6 0 = some (600, false)) (by decide)
  have arn : h_ad z rl 0 = rn := h_ad.at rrn
  obtain ⟨ro, rro, tro⟩ := hR.at rl 1 trl (rfl : h_rs 6 1 = some (601, false)) (by decide)
  have aro : h_ad z rl 1 = ro := h_ad.at rro
  obtain ⟨rk, rrk, trk⟩ := hR.at dt 0 tdt (rfl : h_rs 3 0 = some (300, false)) (by decide)
  have ark : h_ad z dt 0 = rk := h_ad.at rrk
  rw [alw] at J1
  rw [atb] at J2
  rw [ard, atp, abk, alb, abg, atu, arg] at R_al
  rw [atp, abt, amb] at R_tp
  rw [abk] at R_ck
  rw [ard] at R_fa
  rw [alb, atx, aun, alw, ahy] at R_bk
  rw [adt, adr] at R_dr
  rw [adt] at R_tb
  refine lv_aload_n hx hb dL_law_1063 rfl (lv_at hl 2 rfl) ?_
  refine lv_aload_n hx hb dL_law_1064 rfl (lv_at hl 3 rfl) ?_
  refine lv_iload_n hx hb dL_law_1065 rfl (lv_at hl 0 rfl) ?_
  refine lv_iconst (v := 1) hx hb dL_law_1066 (by decide) ?_
  refine lv_iadd hx hb dL_law_1067 ?_
  refine lv_topi (fun v1 ev1 => ?_)
  refine va_sld hx hb hSc hbl hbA g.2.1 (h_ix hi0 hi8 hL ev1 (k := 1) (by decide) (by decide) (by decide)) dL_law_1068 ?_
  refine lv_topi (fun v2 ev2 => ?_)
  refine lv_aload_n hx hb dL_law_1069 rfl (lv_at hl 3 rfl) ?_
  refine lv_iload_n hx hb dL_law_1070 rfl (lv_at hl 0 rfl) ?_
  refine lv_iconst (v := 2) hx hb dL_law_1071 (by decide) ?_
  refine lv_iadd hx hb dL_law_1072 ?_
  refine lv_topi (fun v3 ev3 => ?_)
  refine va_sld hx hb hSc hbl hbA g.2.1 (h_ix hi0 hi8 hL ev3 (k := 2) (by decide) (by decide) (by decide)) dL_law_1073 ?_
  refine lv_topi (fun v4 ev4 => ?_)
  have y0 := hI.rd mo 12 tmo rfl (rfl : h_bd 13 12 = (0, 9))
  obtain ⟨u_, hok, hr, hcl⟩ := R_bk.get (I0 mo 12).toInt y0.1 y0.2
  have hr2 : h_r12 (I0 (h_ad z mo 11)) (I0 (h_ad z mo 10)) (I0 mo 12).toInt u_ := by rw [ahy, alw]; exact hr
  have hob := R_gb.ob hr2
  have hcl2 : ∀ b : Nat, h_of (z.R (h_ad z (h_ad z (h_ad z cp 3) 0) 1)) (h_ad z (h_ad z (h_ad z cp 3) 0) 0) (I0 (h_ad z cp 3) 3).toInt b → h_lw I0 b (h_ad z b 0) (h_ad z b 1) u_ := by rw [abk, h_ad.at R_al.2.1, aun, atx, R_ck]; exact hcl
  have hIo := hI
  refine va_calli (va_runV (As := [.int v2, .int v4]) (rest := []) ⟨hx, hb, hml, hown, hts⟩ (tX11_drawB l E X A z I0 L0 cp tcp v2 (v2.toInt) rfl v4 (v4.toInt) rfl u_ hcl2 hok (R_gb.rk hI tmo hR)) (cwV 2 hts gL_law_X11_draw rfl rfl rfl (by decide +kernel) ⟨Nat.le_of_ble_eq_true rfl, Nat.le_of_ble_eq_true rfl⟩) ⟨h_blind _ _ _ _ _ _ _, h_recv g tcp (by decide) so_12 (q := (RX11, TX11, 8)) rfl, h_pre _ hE hk hX hA hI hR g⟩ rfl rfl hl.1 rfl (lv_room (Nat.le_of_ble_eq_true rfl)) dL_law_1074 ⟨show cells + 0 ≤ 600000 by omega, show slots + 0 ≤ 7302250 by omega⟩) g.2.1 (fun q _ h => h) (fun q h => h) (fun rh5 I6 t H1 locs ht hvm h5 hB hz1 hk1 hS => ?_)
  obtain ⟨hI, fh5, h5⟩ := h5
  replace J1 : h_J1 (I6 lw) := by rw [show I6 lw = I0 lw from funext (fun k => fh5.at tlw rfl)]; exact J1
  rw [← fh5.at tmo rfl, show I0 tb = I6 tb from funext (fun k => (fh5.at ttb rfl).symm)] at J2
  have oR_al := R_al
  have oR_tp := R_tp
  have oR_ck := R_ck
  have oR_fa := R_fa
  have oR_bk := R_bk
  have oR_dr := R_dr
  have oR_tb := R_tb
  have oR_gb := R_gb
  skip
  replace R_tp : I6 tp 1 = I6 mo 1 ∧ I6 bt = I6 mb := by rw [show I6 tp 1 = I0 tp 1 from fh5.at ttp rfl, show I6 mo 1 = I0 mo 1 from fh5.at tmo rfl, show I6 bt = I0 bt from funext (fun k => fh5.at tbt rfl), show I6 mb = I0 mb from funext (fun k => fh5.at tmb rfl)]; exact R_tp
  replace R_ck : I6 bk 3 = I6 mo 12 := by rw [show I6 bk 3 = I0 bk 3 from fh5.at tbk rfl, show I6 mo 12 = I0 mo 12 from fh5.at tmo rfl]; exact R_ck
  replace R_fa : I6 rd 2 = I6 mo 8 ∧ I6 rd 3 = I6 mo 9 := by rw [show I6 rd 2 = I0 rd 2 from fh5.at trd rfl, show I6 rd 3 = I0 rd 3 from fh5.at trd rfl, show I6 mo 8 = I0 mo 8 from fh5.at tmo rfl, show I6 mo 9 = I0 mo 9 from fh5.at tmo rfl]; exact R_fa
  replace R_bk : h_bk z I6 tx un lw hy := R_bk.F hR ttx tun tlw thy fh5 (fun _ => rfl) (fun _ => rfl) (fun _ => rfl) (fun _ => rfl) (fun _ => rfl)
  have gck : I0 (h_ad z cp 3) 3 = I0 mo 12 := by rw [abk]; exact oR_ck
  have gI := hIo
  have gdr : (I0 (h_ad z (h_ad z cp 7) 2) (I0 mo 12).toInt.toNat).toInt = (I0 mo 31).toInt ∧ ∀ k : Nat, (I0 mo 12).toInt < (k : Int) → I0 (h_ad z (h_ad z cp 7) 2) k = 0 := by rw [adt, adr]; exact oR_dr
  have gtb : I0 (h_ad z cp 7) 1 = I0 mo 30 := by rw [adt]; exact oR_tb
  have gP := h5
  have gF := fh5
  have ger : h_er z I0 I6 := fun a h9 => fh5.ref (by decide) rfl h9
  replace hr2 := ger.r12 hR tmo hr2
  replace g := h_after g hB ht hS
  generalize H1 = H at g
  clear hB hk1 hz1 ht hvm hS
  refine lv_pop hx hb dL_law_1077 rfl ?_
  refine lv_aload_n hx hb dL_law_1078 rfl (lv_at hl 1 rfl) ?_
  refine lv_aload_n hx hb dL_law_1079 rfl (lv_at hl 3 rfl) ?_
  refine lv_iload_n hx hb dL_law_1080 rfl (lv_at hl 0 rfl) ?_
  refine lv_iconst (v := 1) hx hb dL_law_1081 (by decide) ?_
  refine lv_iadd hx hb dL_law_1082 ?_
  refine lv_topi (fun v7 ev7 => ?_)
  refine va_sld hx hb hSc hbl hbA g.2.1 (h_ix hi0 hi8 hL ev7 (k := 1) (by decide) (by decide) (by decide)) dL_law_1083 ?_
  refine xw_i (v := v2) (by rw [show v7 = v1 from ev7.trans ev1.symm]; exact ev2.symm) ?_
  refine lv_aload_n hx hb dL_law_1084 rfl (lv_at hl 3 rfl) ?_
  refine lv_iload_n hx hb dL_law_1085 rfl (lv_at hl 0 rfl) ?_
  refine lv_iconst (v := 2) hx hb dL_law_1086 (by decide) ?_
  refine lv_iadd hx hb dL_law_1087 ?_
  refine lv_topi (fun v9 ev9 => ?_)
  refine va_sld hx hb hSc hbl hbA g.2.1 (h_ix hi0 hi8 hL ev9 (k := 2) (by decide) (by decide) (by decide)) dL_law_1088 ?_
  refine xw_i (v := v4) (by rw [show v9 = v3 from ev9.trans ev3.symm]; exact ev4.symm) ?_
  have hIo := hI
  refine va_calli (va_runV (As := [.int v2, .int v4]) (rest := []) ⟨hx, hb, hml, hown, hts⟩ (tX12_drawB l E X A z I6 L0 mo tmo v2 (v2.toInt) rfl v4 (v4.toInt) rfl u_ hr2 hok) (cwV 2 hts gL_law_X12_draw rfl rfl rfl (by decide +kernel) ⟨Nat.le_of_ble_eq_true rfl, Nat.le_of_ble_eq_true rfl⟩) ⟨h_blind _ _ _ _ _ _ _, h_recv g tmo (by decide) so_13 (q := (RX12, TX12, 51)) rfl, h_pre _ hE hk hX hA hI hR g⟩ rfl rfl hl.1 rfl (lv_room (Nat.le_of_ble_eq_true rfl)) dL_law_1089 ⟨show cells + 0 ≤ 600000 by omega, show slots + 0 ≤ 7302250 by omega⟩) g.2.1 (fun q _ h => h) (fun q h => h) (fun rh11 I12 t H1 locs ht hvm h11 hB hz1 hk1 hS => ?_)
  obtain ⟨hI, fh11, h11⟩ := h11
  replace J1 : h_J1 (I12 lw) := by rw [show I12 lw = I6 lw from funext (fun k => fh11.at tlw rfl)]; exact J1
  rw [← fh11.at tmo rfl, show I6 tb = I12 tb from funext (fun k => (fh11.at ttb rfl).symm)] at J2
  have oR_al := R_al
  have oR_tp := R_tp
  have oR_ck := R_ck
  have oR_fa := R_fa
  have oR_bk := R_bk
  have oR_dr := R_dr
  have oR_tb := R_tb
  have oR_gb := R_gb
  skip
  replace R_tp : I12 tp 1 = I12 mo 1 ∧ I12 bt = I12 mb := by rw [show I12 tp 1 = I6 tp 1 from fh11.at ttp rfl, show I12 mo 1 = I6 mo 1 from fh11.at tmo rfl, show I12 bt = I6 bt from funext (fun k => fh11.at tbt rfl), show I12 mb = I6 mb from funext (fun k => fh11.at tmb rfl)]; exact R_tp
  replace R_ck : I12 bk 3 = I12 mo 12 := by rw [show I12 bk 3 = I6 bk 3 from fh11.at tbk rfl, show I12 mo 12 = I6 mo 12 from fh11.at tmo rfl]; exact R_ck
  replace R_fa : I12 rd 2 = I12 mo 8 ∧ I12 rd 3 = I12 mo 9 := by rw [show I12 rd 2 = I6 rd 2 from fh11.at trd rfl, show I12 rd 3 = I6 rd 3 from fh11.at trd rfl, show I12 mo 8 = I6 mo 8 from fh11.at tmo rfl, show I12 mo 9 = I6 mo 9 from fh11.at tmo rfl]; exact R_fa
  replace R_bk : h_bk z I12 tx un lw hy := R_bk.F hR ttx tun tlw thy fh11 (fun _ => rfl) (fun _ => rfl) (fun _ => rfl) (fun _ => rfl) (fun _ => rfl)
  obtain ⟨same, Rd, Rt, Rn⟩ := g_draw2 R_gb hU hR gI tcp tmo gck gdr gtb hok gP gF h11 fh11
  rw [adt, adr] at Rd
  rw [adt] at Rt
  replace R_dr := Rd
  replace R_tb := Rt
  replace R_gb := Rn
  replace g := h_after g hB ht hS
  generalize H1 = H at g
  clear hB hk1 hz1 ht hvm hS
  refine lv_pop hx hb dL_law_1092 rfl ?_
  refine lv_goto (tgt := 1241) hx hb dL_law_1093 (by decide) ?_
  exact W.widen (by omega) (by omega) (kk z I12 L0 _ _ _ ⟨g, hI, hR, tcp, tmo, by rw [alw]; exact J1, by unfold h_J2; rw [atb]; exact J2, hU, by rw [ard, atp, abk, alb, abg, atu, arg]; exact R_al, by rw [atp, abt, amb]; exact R_tp, by rw [abk]; exact R_ck, by rw [ard]; exact R_fa, by rw [alb, atx, aun, alw, ahy]; exact R_bk, by rw [adt, adr]; exact R_dr, by rw [adt]; exact R_tb, by exact R_gb⟩ hl)
set_option maxHeartbeats 8000000 in
set_option maxRecDepth 100000 in
theorem law_26 {p : Program} {l : Launch} {e : Env} {s : State} {m : MethodId} {below : List Frame} {meth : Method} {c : Code} {b L : Nat} {xs : Nat → Int32} (C0 : lw_At p s m meth c b L xs) (hL : L ≤ 4096) {A : Nat → Prop} (hAe : (fun q : Nat => s.heap.size ≤ q) = A) {E : tE} {X : tX} (hk : h_Kr X s) (hX : h_S X A s s.heap) {i : Int32} (hi0 : 0 ≤ i.toInt) (hi8 : i.toInt + 8 ≤ L) {cp mo : Nat} {cells slots : Nat} (hcl : cells ≤ 500000) (hsl : slots ≤ 7000000) {z : tZ} {I0 : tI} {L0 : tL} {H : Heap} {locs : List Loc} {ls : Array Slot} (T : h_T E A s z I0 L0 H locs cp mo) (hl : lv_has ls 4 [(3, .int i), (2, .ref mo), (1, .ref cp), (0, .ref b)]) (kk : ∀ (z : tZ) (I0 : tI) (L0 : tL) (H : Heap) (locs : List Loc) (ls : Array Slot), h_T E A s z I0 L0 H locs cp mo → lv_has ls 4 [(3, .int i), (2, .ref mo), (1, .ref cp), (0, .ref b)] → W p l e room_1 s m #[Value.ref b] below meth c H locs (cells + 3) (slots + 17) (lw_Z below #[Value.ref b] s) (F0 m 1241 ls [])) : W p l e room_1 s m #[Value.ref b] below meth c H locs cells slots (lw_Z below #[Value.ref b] s) (F0 m 1096 ls []) := by
  obtain ⟨hx, hb, hr, hml, hown, hts0, hSc, hbl, hlocks, hgv⟩ := id C0
  have hE := xs_E hts0
  have hts : ∀ w ∈ wsL_law, w.before #[Value.ref b] s = true := fun w h => hts0 w (wsL_law_in w h)
  have hA : ∀ q : Nat, s.heap.size ≤ q → A q := fun q h => by rw [← hAe]; exact h
  have hbA : ¬ A b := by rw [← hAe]; exact Nat.not_le.mpr hbl
  obtain ⟨g, hI, hR, tcp, tmo, J1, J2, hU, R_al, R_tp, R_ck, R_fa, R_bk, R_dr, R_tb, R_gb⟩ := T
  unfold h_J2 at J2
  obtain ⟨lw, rlw, tlw⟩ := hR.at mo 10 tmo (rfl : h_rs 13 10 = some (1310, false)) (by decide)
  have alw : h_ad z mo 10 = lw := h_ad.at rlw
  obtain ⟨tb, rtb, ttb⟩ := hR.at mo 32 tmo (rfl : h_rs 13 32 = some (1332, false)) (by decide)
  have atb : h_ad z mo 32 = tb := h_ad.at rtb
  obtain ⟨rd, rrd, trd⟩ := hR.at cp 2 tcp (rfl : h_rs 12 2 = some (5, false)) (by decide)
  have ard : h_ad z cp 2 = rd := h_ad.at rrd
  obtain ⟨tp, rtp, ttp⟩ := hR.at cp 0 tcp (rfl : h_rs 12 0 = some (9, false)) (by decide)
  have atp : h_ad z cp 0 = tp := h_ad.at rtp
  obtain ⟨bk, rbk, tbk⟩ := hR.at cp 3 tcp (rfl : h_rs 12 3 = some (1, false)) (by decide)
  have abk : h_ad z cp 3 = bk := h_ad.at rbk
  obtain ⟨lb, rlb, tlb⟩ := hR.at cp 1 tcp (rfl : h_rs 12 1 = some (4, false)) (by decide)
  have alb : h_ad z cp 1 = lb := h_ad.at rlb
  obtain ⟨bg, rbg, tbg⟩ := hR.at cp 5 tcp (rfl : h_rs 12 5 = some (10, false)) (by decide)
  have abg : h_ad z cp 5 = bg := h_ad.at rbg
  obtain ⟨tu, rtu, ttu⟩ := hR.at cp 4 tcp (rfl : h_rs 12 4 = some (11, false)) (by decide)
  have atu : h_ad z cp 4 = tu := h_ad.at rtu
  obtain ⟨rg, rrg, trg⟩ := hR.at cp 6 tcp (rfl : h_rs 12 6 = some (8, false)) (by decide)
  have arg : h_ad z cp 6 = rg := h_ad.at rrg
  obtain ⟨bt, rbt, tbt⟩ := hR.at tp 0 ttp (rfl : h_rs 9 0 = some (900, false)) (by decide)
  have abt : h_ad z tp 0 = bt := h_ad.at rbt
  obtain ⟨mb, rmb, tmb⟩ := hR.at mo 0 tmo (rfl : h_rs 13 0 = some (1300, false)) (by decide)
  have amb : h_ad z mo 0 = mb := h_ad.at rmb
  obtain ⟨tx, rtx, ttx⟩ := hR.at lb 1 tlb (rfl : h_rs 4 1 = some (401, false)) (by decide)
  have atx : h_ad z lb 1 = tx := h_ad.at rtx
  obtain ⟨un, run, tun⟩ := hR.at lb 0 tlb (rfl : h_rs 4 0 = some (6, false)) (by decide)
  have aun : h_ad z lb 0 = un := h_ad.at run
  obtain ⟨hy, rhy, thy⟩ := hR.at mo 11 tmo (rfl : h_rs 13 11 = some (1311, false)) (by decide)
  have ahy : h_ad z mo 11 = hy := h_ad.at rhy
  obtain ⟨dt, rdt, tdt⟩ := hR.at cp 7 tcp (rfl : h_rs 12 7 = some (3, false)) (by decide)
  have adt : h_ad z cp 7 = dt := h_ad.at rdt
  obtain ⟨dr, rdr, tdr⟩ := hR.at dt 2 tdt (rfl : h_rs 3 2 = some (302, false)) (by decide)
  have adr : h_ad z dt 2 = dr := h_ad.at rdr
  obtain ⟨rl, rrl, trl⟩ := hR.at rd 1 trd (rfl : h_rs 5 1 = some (6, false)) (by decide)
  have arl : h_ad z rd 1 = rl := h_ad.at rrl
  obtain ⟨rn, rrn, trn⟩ := hR.at rl 0 trl (rfl : h_rs 6 0 = some (600, false)) (by decide)
  have arn : h_ad z rl 0 = rn := h_ad.at rrn
  obtain ⟨ro, rro, tro⟩ := hR.at rl 1 trl (rfl : h_rs 6 1 = some (601, false)) (by decide)
  have aro : h_ad z rl 1 = ro := h_ad.at rro
  obtain ⟨rk, rrk, trk⟩ := hR.at dt 0 tdt (rfl : h_rs 3 0 = some (300, false)) (by decide)
  have ark : h_ad z dt 0 = rk := h_ad.at rrk
  rw [alw] at J1
  rw [atb] at J2
  rw [ard, atp, abk, alb, abg, atu, arg] at R_al
  rw [atp, abt, amb] at R_tp
  rw [abk] at R_ck
  rw [ard] at R_fa
  rw [alb, atx, aun, alw, ahy] at R_bk
  rw [adt, adr] at R_dr
  rw [adt] at R_tb
  refine lv_aload_n hx hb dL_law_1096 rfl (lv_at hl 2 rfl) ?_
  refine lv_aload_n hx hb dL_law_1097 rfl (lv_at hl 3 rfl) ?_
  refine lv_iload_n hx hb dL_law_1098 rfl (lv_at hl 0 rfl) ?_
  refine lv_iconst (v := 1) hx hb dL_law_1099 (by decide) ?_
  refine lv_iadd hx hb dL_law_1100 ?_
  refine lv_topi (fun v1 ev1 => ?_)
  refine va_sld hx hb hSc hbl hbA g.2.1 (h_ix hi0 hi8 hL ev1 (k := 1) (by decide) (by decide) (by decide)) dL_law_1101 ?_
  refine lv_topi (fun v2 ev2 => ?_)
  refine lv_aload_n hx hb dL_law_1102 rfl (lv_at hl 3 rfl) ?_
  refine lv_iload_n hx hb dL_law_1103 rfl (lv_at hl 0 rfl) ?_
  refine lv_iconst (v := 2) hx hb dL_law_1104 (by decide) ?_
  refine lv_iadd hx hb dL_law_1105 ?_
  refine lv_topi (fun v3 ev3 => ?_)
  refine va_sld hx hb hSc hbl hbA g.2.1 (h_ix hi0 hi8 hL ev3 (k := 2) (by decide) (by decide) (by decide)) dL_law_1106 ?_
  refine lv_topi (fun v4 ev4 => ?_)
  refine lv_aload_n hx hb dL_law_1107 rfl (lv_at hl 3 rfl) ?_
  refine lv_iload_n hx hb dL_law_1108 rfl (lv_at hl 0 rfl) ?_
  refine lv_iconst (v := 3) hx hb dL_law_1109 (by decide) ?_
  refine lv_iadd hx hb dL_law_1110 ?_
  refine lv_topi (fun v5 ev5 => ?_)
  refine va_sld hx hb hSc hbl hbA g.2.1 (h_ix hi0 hi8 hL ev5 (k := 3) (by decide) (by decide) (by decide)) dL_law_1111 ?_
  refine lv_topi (fun v6 ev6 => ?_)
  refine vp_callSi (W.runV (As := [.int v2, .int v4, .int v6]) (rest := []) ⟨hx, hb, hml, hown, hts⟩ (tX11_turnB l E X A z I0 L0 cp tcp v2 (v2.toInt) rfl v4 (v4.toInt) rfl v6 (v6.toInt) rfl) (cwV 3 hts gL_law_X11_turn rfl rfl rfl (by decide +kernel) ⟨Nat.le_of_ble_eq_true rfl, Nat.le_of_ble_eq_true rfl⟩) ⟨h_blind _ _ _ _ _ _ _, h_recv g tcp (by decide) so_12 (q := (RX11, TX11, 8)) rfl, h_pre _ hE hk hX hA hI hR g⟩ rfl rfl hl.1 rfl (lv_room (Nat.le_of_ble_eq_true rfl)) dL_law_1112 ⟨show cells + 0 ≤ 600000 by omega, show slots + 0 ≤ 7302250 by omega⟩) (fun rh7 h7 => ?_)
  have gck : I0 (h_ad z cp 3) 3 = I0 mo 12 := by rw [abk]; exact R_ck
  have gI := hI
  have gP := h7
  have ger : h_er z I0 I0 := h_er.rf
  refine lv_pop hx hb dL_law_1115 rfl ?_
  refine lv_aload_n hx hb dL_law_1116 rfl (lv_at hl 1 rfl) ?_
  refine lv_aload_n hx hb dL_law_1117 rfl (lv_at hl 3 rfl) ?_
  refine lv_iload_n hx hb dL_law_1118 rfl (lv_at hl 0 rfl) ?_
  refine lv_iconst (v := 1) hx hb dL_law_1119 (by decide) ?_
  refine lv_iadd hx hb dL_law_1120 ?_
  refine lv_topi (fun v8 ev8 => ?_)
  refine va_sld hx hb hSc hbl hbA g.2.1 (h_ix hi0 hi8 hL ev8 (k := 1) (by decide) (by decide) (by decide)) dL_law_1121 ?_
  refine xw_i (v := v2) (by rw [show v8 = v1 from ev8.trans ev1.symm]; exact ev2.symm) ?_
  refine lv_aload_n hx hb dL_law_1122 rfl (lv_at hl 3 rfl) ?_
  refine lv_iload_n hx hb dL_law_1123 rfl (lv_at hl 0 rfl) ?_
  refine lv_iconst (v := 2) hx hb dL_law_1124 (by decide) ?_
  refine lv_iadd hx hb dL_law_1125 ?_
  refine lv_topi (fun v10 ev10 => ?_)
  refine va_sld hx hb hSc hbl hbA g.2.1 (h_ix hi0 hi8 hL ev10 (k := 2) (by decide) (by decide) (by decide)) dL_law_1126 ?_
  refine xw_i (v := v4) (by rw [show v10 = v3 from ev10.trans ev3.symm]; exact ev4.symm) ?_
  refine lv_aload_n hx hb dL_law_1127 rfl (lv_at hl 3 rfl) ?_
  refine lv_iload_n hx hb dL_law_1128 rfl (lv_at hl 0 rfl) ?_
  refine lv_iconst (v := 3) hx hb dL_law_1129 (by decide) ?_
  refine lv_iadd hx hb dL_law_1130 ?_
  refine lv_topi (fun v12 ev12 => ?_)
  refine va_sld hx hb hSc hbl hbA g.2.1 (h_ix hi0 hi8 hL ev12 (k := 3) (by decide) (by decide) (by decide)) dL_law_1131 ?_
  refine xw_i (v := v6) (by rw [show v12 = v5 from ev12.trans ev5.symm]; exact ev6.symm) ?_
  refine vp_callSi (W.runV (As := [.int v2, .int v4, .int v6]) (rest := []) ⟨hx, hb, hml, hown, hts⟩ (tX12_turnB l E X A z I0 L0 mo tmo v2 (v2.toInt) rfl v4 (v4.toInt) rfl v6 (v6.toInt) rfl) (cwV 3 hts gL_law_X12_turn rfl rfl rfl (by decide +kernel) ⟨Nat.le_of_ble_eq_true rfl, Nat.le_of_ble_eq_true rfl⟩) ⟨h_blind _ _ _ _ _ _ _, h_recv g tmo (by decide) so_13 (q := (RX12, TX12, 51)) rfl, h_pre _ hE hk hX hA hI hR g⟩ rfl rfl hl.1 rfl (lv_room (Nat.le_of_ble_eq_true rfl)) dL_law_1132 ⟨show cells + 0 ≤ 600000 by omega, show slots + 0 ≤ 7302250 by omega⟩) (fun rh14 h14 => ?_)
  have same := g_turn2 R_gb hU hR gI tcp tmo gck gP h14
  refine lv_pop hx hb dL_law_1135 rfl ?_
  refine lv_goto (tgt := 1241) hx hb dL_law_1136 (by decide) ?_
  exact W.widen (by omega) (by omega) (kk z I0 L0 _ _ _ ⟨g, hI, hR, tcp, tmo, by rw [alw]; exact J1, by unfold h_J2; rw [atb]; exact J2, hU, by rw [ard, atp, abk, alb, abg, atu, arg]; exact R_al, by rw [atp, abt, amb]; exact R_tp, by rw [abk]; exact R_ck, by rw [ard]; exact R_fa, by rw [alb, atx, aun, alw, ahy]; exact R_bk, by rw [adt, adr]; exact R_dr, by rw [adt]; exact R_tb, by exact R_gb⟩ hl)
set_option maxHeartbeats 8000000 in
set_option maxRecDepth 100000 in
theorem law_27 {p : Program} {l : Launch} {e : Env} {s : State} {m : MethodId} {below : List Frame} {meth : Method} {c : Code} {b L : Nat} {xs : Nat → Int32} (C0 : lw_At p s m meth c b L xs) (hL : L ≤ 4096) {A : Nat → Prop} (hAe : (fun q : Nat => s.heap.size ≤ q) = A) {E : tE} {X : tX} (hk : h_Kr X s) (hX : h_S X A s s.heap) {i : Int32} (hi0 : 0 ≤ i.toInt) (hi8 : i.toInt + 8 ≤ L) {cp mo : Nat} {cells slots : Nat} (hcl : cells ≤ 500000) (hsl : slots ≤ 7000000) {z : tZ} {I0 : tI} {L0 : tL} {H : Heap} {locs : List Loc} {ls : Array Slot} (T : h_T E A s z I0 L0 H locs cp mo) (hl : lv_has ls 4 [(3, .int i), (2, .ref mo), (1, .ref cp), (0, .ref b)]) (kk : ∀ (z : tZ) (I0 : tI) (L0 : tL) (H : Heap) (locs : List Loc) (ls : Array Slot), h_T E A s z I0 L0 H locs cp mo → lv_has ls 4 [(3, .int i), (2, .ref mo), (1, .ref cp), (0, .ref b)] → W p l e room_1 s m #[Value.ref b] below meth c H locs (cells + 3) (slots + 17) (lw_Z below #[Value.ref b] s) (F0 m 1241 ls [])) : W p l e room_1 s m #[Value.ref b] below meth c H locs cells slots (lw_Z below #[Value.ref b] s) (F0 m 1139 ls []) := by
  obtain ⟨hx, hb, hr, hml, hown, hts0, hSc, hbl, hlocks, hgv⟩ := id C0
  have hE := xs_E hts0
  have hts : ∀ w ∈ wsL_law, w.before #[Value.ref b] s = true := fun w h => hts0 w (wsL_law_in w h)
  have hA : ∀ q : Nat, s.heap.size ≤ q → A q := fun q h => by rw [← hAe]; exact h
  have hbA : ¬ A b := by rw [← hAe]; exact Nat.not_le.mpr hbl
  obtain ⟨g, hI, hR, tcp, tmo, J1, J2, hU, R_al, R_tp, R_ck, R_fa, R_bk, R_dr, R_tb, R_gb⟩ := T
  unfold h_J2 at J2
  obtain ⟨lw, rlw, tlw⟩ := hR.at mo 10 tmo (rfl : h_rs 13 10 = some (1310, false)) (by decide)
  have alw : h_ad z mo 10 = lw := h_ad.at rlw
  obtain ⟨tb, rtb, ttb⟩ := hR.at mo 32 tmo (rfl : h_rs 13 32 = some (1332, false)) (by decide)
  have atb : h_ad z mo 32 = tb := h_ad.at rtb
  obtain ⟨rd, rrd, trd⟩ := hR.at cp 2 tcp (rfl : h_rs 12 2 = some (5, false)) (by decide)
  have ard : h_ad z cp 2 = rd := h_ad.at rrd
  obtain ⟨tp, rtp, ttp⟩ := hR.at cp 0 tcp (rfl : h_rs 12 0 = some (9, false)) (by decide)
  have atp : h_ad z cp 0 = tp := h_ad.at rtp
  obtain ⟨bk, rbk, tbk⟩ := hR.at cp 3 tcp (rfl : h_rs 12 3 = some (1, false)) (by decide)
  have abk : h_ad z cp 3 = bk := h_ad.at rbk
  obtain ⟨lb, rlb, tlb⟩ := hR.at cp 1 tcp (rfl : h_rs 12 1 = some (4, false)) (by decide)
  have alb : h_ad z cp 1 = lb := h_ad.at rlb
  obtain ⟨bg, rbg, tbg⟩ := hR.at cp 5 tcp (rfl : h_rs 12 5 = some (10, false)) (by decide)
  have abg : h_ad z cp 5 = bg := h_ad.at rbg
  obtain ⟨tu, rtu, ttu⟩ := hR.at cp 4 tcp (rfl : h_rs 12 4 = some (11, false)) (by decide)
  have atu : h_ad z cp 4 = tu := h_ad.at rtu
  obtain ⟨rg, rrg, trg⟩ := hR.at cp 6 tcp (rfl : h_rs 12 6 = some (8, false)) (by decide)
  have arg : h_ad z cp 6 = rg := h_ad.at rrg
  obtain ⟨bt, rbt, tbt⟩ := hR.at tp 0 ttp (rfl : h_rs 9 0 = some (900, false)) (by decide)
  have abt : h_ad z tp 0 = bt := h_ad.at rbt
  obtain ⟨mb, rmb, tmb⟩ := hR.at mo 0 tmo (rfl : h_rs 13 0 = some (1300, false)) (by decide)
  have amb : h_ad z mo 0 = mb := h_ad.at rmb
  obtain ⟨tx, rtx, ttx⟩ := hR.at lb 1 tlb (rfl : h_rs 4 1 = some (401, false)) (by decide)
  have atx : h_ad z lb 1 = tx := h_ad.at rtx
  obtain ⟨un, run, tun⟩ := hR.at lb 0 tlb (rfl : h_rs 4 0 = some (6, false)) (by decide)
  have aun : h_ad z lb 0 = un := h_ad.at run
  obtain ⟨hy, rhy, thy⟩ := hR.at mo 11 tmo (rfl : h_rs 13 11 = some (1311, false)) (by decide)
  have ahy : h_ad z mo 11 = hy := h_ad.at rhy
  obtain ⟨dt, rdt, tdt⟩ := hR.at cp 7 tcp (rfl : h_rs 12 7 = some (3, false)) (by decide)
  have adt : h_ad z cp 7 = dt := h_ad.at rdt
  obtain ⟨dr, rdr, tdr⟩ := hR.at dt 2 tdt (rfl : h_rs 3 2 = some (302, false)) (by decide)
  have adr : h_ad z dt 2 = dr := h_ad.at rdr
  obtain ⟨rl, rrl, trl⟩ := hR.at rd 1 trd (rfl : h_rs 5 1 = some (6, false)) (by decide)
  have arl : h_ad z rd 1 = rl := h_ad.at rrl
  obtain ⟨rn, rrn, trn⟩ := hR.at rl 0 trl (rfl : h_rs 6 0 = some (600, false)) (by decide)
  have arn : h_ad z rl 0 = rn := h_ad.at rrn
  obtain ⟨ro, rro, tro⟩ := hR.at rl 1 trl (rfl : h_rs 6 1 = some (601, false)) (by decide)
  have aro : h_ad z rl 1 = ro := h_ad.at rro
  obtain ⟨rk, rrk, trk⟩ := hR.at dt 0 tdt (rfl : h_rs 3 0 = some (300, false)) (by decide)
  have ark : h_ad z dt 0 = rk := h_ad.at rrk
  rw [alw] at J1
  rw [atb] at J2
  rw [ard, atp, abk, alb, abg, atu, arg] at R_al
  rw [atp, abt, amb] at R_tp
  rw [abk] at R_ck
  rw [ard] at R_fa
  rw [alb, atx, aun, alw, ahy] at R_bk
  rw [adt, adr] at R_dr
  rw [adt] at R_tb
  refine lv_aload_n hx hb dL_law_1139 rfl (lv_at hl 2 rfl) ?_
  refine lv_aload_n hx hb dL_law_1140 rfl (lv_at hl 3 rfl) ?_
  refine lv_iload_n hx hb dL_law_1141 rfl (lv_at hl 0 rfl) ?_
  refine lv_iconst (v := 1) hx hb dL_law_1142 (by decide) ?_
  refine lv_iadd hx hb dL_law_1143 ?_
  refine lv_topi (fun v1 ev1 => ?_)
  refine va_sld hx hb hSc hbl hbA g.2.1 (h_ix hi0 hi8 hL ev1 (k := 1) (by decide) (by decide) (by decide)) dL_law_1144 ?_
  refine lv_topi (fun v2 ev2 => ?_)
  refine lv_aload_n hx hb dL_law_1145 rfl (lv_at hl 3 rfl) ?_
  refine lv_iload_n hx hb dL_law_1146 rfl (lv_at hl 0 rfl) ?_
  refine lv_iconst (v := 2) hx hb dL_law_1147 (by decide) ?_
  refine lv_iadd hx hb dL_law_1148 ?_
  refine lv_topi (fun v3 ev3 => ?_)
  refine va_sld hx hb hSc hbl hbA g.2.1 (h_ix hi0 hi8 hL ev3 (k := 2) (by decide) (by decide) (by decide)) dL_law_1149 ?_
  refine lv_topi (fun v4 ev4 => ?_)
  refine lv_aload_n hx hb dL_law_1150 rfl (lv_at hl 3 rfl) ?_
  refine lv_iload_n hx hb dL_law_1151 rfl (lv_at hl 0 rfl) ?_
  refine lv_iconst (v := 3) hx hb dL_law_1152 (by decide) ?_
  refine lv_iadd hx hb dL_law_1153 ?_
  refine lv_topi (fun v5 ev5 => ?_)
  refine va_sld hx hb hSc hbl hbA g.2.1 (h_ix hi0 hi8 hL ev5 (k := 3) (by decide) (by decide) (by decide)) dL_law_1154 ?_
  refine lv_topi (fun v6 ev6 => ?_)
  refine vp_callSi (W.runV (As := [.int v2, .int v4, .int v6]) (rest := []) ⟨hx, hb, hml, hown, hts⟩ (tX11_ownerB l E X A z I0 L0 cp tcp v2 (v2.toInt) rfl v4 (v4.toInt) rfl v6 (v6.toInt) rfl) (cwV 3 hts gL_law_X11_owner rfl rfl rfl (by decide +kernel) ⟨Nat.le_of_ble_eq_true rfl, Nat.le_of_ble_eq_true rfl⟩) ⟨h_blind _ _ _ _ _ _ _, h_recv g tcp (by decide) so_12 (q := (RX11, TX11, 8)) rfl, h_pre _ hE hk hX hA hI hR g⟩ rfl rfl hl.1 rfl (lv_room (Nat.le_of_ble_eq_true rfl)) dL_law_1155 ⟨show cells + 0 ≤ 600000 by omega, show slots + 0 ≤ 7302250 by omega⟩) (fun rh7 h7 => ?_)
  have gck : I0 (h_ad z cp 3) 3 = I0 mo 12 := by rw [abk]; exact R_ck
  have gI := hI
  have gP := h7
  have ger : h_er z I0 I0 := h_er.rf
  refine lv_aload_n hx hb dL_law_1158 rfl (lv_at hl 1 rfl) ?_
  refine lv_aload_n hx hb dL_law_1159 rfl (lv_at hl 3 rfl) ?_
  refine lv_iload_n hx hb dL_law_1160 rfl (lv_at hl 0 rfl) ?_
  refine lv_iconst (v := 1) hx hb dL_law_1161 (by decide) ?_
  refine lv_iadd hx hb dL_law_1162 ?_
  refine lv_topi (fun v8 ev8 => ?_)
  refine va_sld hx hb hSc hbl hbA g.2.1 (h_ix hi0 hi8 hL ev8 (k := 1) (by decide) (by decide) (by decide)) dL_law_1163 ?_
  refine xw_i (v := v2) (by rw [show v8 = v1 from ev8.trans ev1.symm]; exact ev2.symm) ?_
  refine lv_aload_n hx hb dL_law_1164 rfl (lv_at hl 3 rfl) ?_
  refine lv_iload_n hx hb dL_law_1165 rfl (lv_at hl 0 rfl) ?_
  refine lv_iconst (v := 2) hx hb dL_law_1166 (by decide) ?_
  refine lv_iadd hx hb dL_law_1167 ?_
  refine lv_topi (fun v10 ev10 => ?_)
  refine va_sld hx hb hSc hbl hbA g.2.1 (h_ix hi0 hi8 hL ev10 (k := 2) (by decide) (by decide) (by decide)) dL_law_1168 ?_
  refine xw_i (v := v4) (by rw [show v10 = v3 from ev10.trans ev3.symm]; exact ev4.symm) ?_
  refine lv_aload_n hx hb dL_law_1169 rfl (lv_at hl 3 rfl) ?_
  refine lv_iload_n hx hb dL_law_1170 rfl (lv_at hl 0 rfl) ?_
  refine lv_iconst (v := 3) hx hb dL_law_1171 (by decide) ?_
  refine lv_iadd hx hb dL_law_1172 ?_
  refine lv_topi (fun v12 ev12 => ?_)
  refine va_sld hx hb hSc hbl hbA g.2.1 (h_ix hi0 hi8 hL ev12 (k := 3) (by decide) (by decide) (by decide)) dL_law_1173 ?_
  refine xw_i (v := v6) (by rw [show v12 = v5 from ev12.trans ev5.symm]; exact ev6.symm) ?_
  refine vp_callSi (W.runV (As := [.int v2, .int v4, .int v6]) (rest := [.int rh7]) ⟨hx, hb, hml, hown, hts⟩ (tX12_ownerB l E X A z I0 L0 mo tmo v2 (v2.toInt) rfl v4 (v4.toInt) rfl v6 (v6.toInt) rfl) (cwV 3 hts gL_law_X12_owner rfl rfl rfl (by decide +kernel) ⟨Nat.le_of_ble_eq_true rfl, Nat.le_of_ble_eq_true rfl⟩) ⟨h_blind _ _ _ _ _ _ _, h_recv g tmo (by decide) so_13 (q := (RX12, TX12, 51)) rfl, h_pre _ hE hk hX hA hI hR g⟩ rfl rfl hl.1 rfl (lv_room (Nat.le_of_ble_eq_true rfl)) dL_law_1174 ⟨show cells + 0 ≤ 600000 by omega, show slots + 0 ≤ 7302250 by omega⟩) (fun rh14 h14 => ?_)
  have same := g_owner2 R_gb hU hR gI tcp tmo gck gP h14
  refine lv_icmp_eq (tgt := 1241) hx hb dL_law_1177 (by decide) (fun c15 => ?_) (fun h => absurd (xi_ne h rfl rfl : rh7.toInt ≠ rh14.toInt) (by omega))
  have ic15 := (xi_eq c15 rfl rfl : rh7.toInt = rh14.toInt)
  exact W.widen (by omega) (by omega) (kk z I0 L0 _ _ _ ⟨g, hI, hR, tcp, tmo, by rw [alw]; exact J1, by unfold h_J2; rw [atb]; exact J2, hU, by rw [ard, atp, abk, alb, abg, atu, arg]; exact R_al, by rw [atp, abt, amb]; exact R_tp, by rw [abk]; exact R_ck, by rw [ard]; exact R_fa, by rw [alb, atx, aun, alw, ahy]; exact R_bk, by rw [adt, adr]; exact R_dr, by rw [adt]; exact R_tb, by exact R_gb⟩ hl)
set_option maxHeartbeats 8000000 in
set_option maxRecDepth 100000 in
theorem law_28 {p : Program} {l : Launch} {e : Env} {s : State} {m : MethodId} {below : List Frame} {meth : Method} {c : Code} {b L : Nat} {xs : Nat → Int32} (C0 : lw_At p s m meth c b L xs) (hL : L ≤ 4096) {A : Nat → Prop} (hAe : (fun q : Nat => s.heap.size ≤ q) = A) {E : tE} {X : tX} (hk : h_Kr X s) (hX : h_S X A s s.heap) {i : Int32} (hi0 : 0 ≤ i.toInt) (hi8 : i.toInt + 8 ≤ L) {cp mo : Nat} {cells slots : Nat} (hcl : cells ≤ 500000) (hsl : slots ≤ 7000000) {z : tZ} {I0 : tI} {L0 : tL} {H : Heap} {locs : List Loc} {ls : Array Slot} (T : h_T E A s z I0 L0 H locs cp mo) (hl : lv_has ls 4 [(3, .int i), (2, .ref mo), (1, .ref cp), (0, .ref b)]) (kk : ∀ (z : tZ) (I0 : tI) (L0 : tL) (H : Heap) (locs : List Loc) (ls : Array Slot), h_T E A s z I0 L0 H locs cp mo → lv_has ls 4 [(3, .int i), (2, .ref mo), (1, .ref cp), (0, .ref b)] → W p l e room_1 s m #[Value.ref b] below meth c H locs (cells + 3) (slots + 17) (lw_Z below #[Value.ref b] s) (F0 m 1241 ls [])) : W p l e room_1 s m #[Value.ref b] below meth c H locs cells slots (lw_Z below #[Value.ref b] s) (F0 m 1182 ls []) := by
  obtain ⟨hx, hb, hr, hml, hown, hts0, hSc, hbl, hlocks, hgv⟩ := id C0
  have hE := xs_E hts0
  have hts : ∀ w ∈ wsL_law, w.before #[Value.ref b] s = true := fun w h => hts0 w (wsL_law_in w h)
  have hA : ∀ q : Nat, s.heap.size ≤ q → A q := fun q h => by rw [← hAe]; exact h
  have hbA : ¬ A b := by rw [← hAe]; exact Nat.not_le.mpr hbl
  obtain ⟨g, hI, hR, tcp, tmo, J1, J2, hU, R_al, R_tp, R_ck, R_fa, R_bk, R_dr, R_tb, R_gb⟩ := T
  unfold h_J2 at J2
  obtain ⟨lw, rlw, tlw⟩ := hR.at mo 10 tmo (rfl : h_rs 13 10 = some (1310, false)) (by decide)
  have alw : h_ad z mo 10 = lw := h_ad.at rlw
  obtain ⟨tb, rtb, ttb⟩ := hR.at mo 32 tmo (rfl : h_rs 13 32 = some (1332, false)) (by decide)
  have atb : h_ad z mo 32 = tb := h_ad.at rtb
  obtain ⟨rd, rrd, trd⟩ := hR.at cp 2 tcp (rfl : h_rs 12 2 = some (5, false)) (by decide)
  have ard : h_ad z cp 2 = rd := h_ad.at rrd
  obtain ⟨tp, rtp, ttp⟩ := hR.at cp 0 tcp (rfl : h_rs 12 0 = some (9, false)) (by decide)
  have atp : h_ad z cp 0 = tp := h_ad.at rtp
  obtain ⟨bk, rbk, tbk⟩ := hR.at cp 3 tcp (rfl : h_rs 12 3 = some (1, false)) (by decide)
  have abk : h_ad z cp 3 = bk := h_ad.at rbk
  obtain ⟨lb, rlb, tlb⟩ := hR.at cp 1 tcp (rfl : h_rs 12 1 = some (4, false)) (by decide)
  have alb : h_ad z cp 1 = lb := h_ad.at rlb
  obtain ⟨bg, rbg, tbg⟩ := hR.at cp 5 tcp (rfl : h_rs 12 5 = some (10, false)) (by decide)
  have abg : h_ad z cp 5 = bg := h_ad.at rbg
  obtain ⟨tu, rtu, ttu⟩ := hR.at cp 4 tcp (rfl : h_rs 12 4 = some (11, false)) (by decide)
  have atu : h_ad z cp 4 = tu := h_ad.at rtu
  obtain ⟨rg, rrg, trg⟩ := hR.at cp 6 tcp (rfl : h_rs 12 6 = some (8, false)) (by decide)
  have arg : h_ad z cp 6 = rg := h_ad.at rrg
  obtain ⟨bt, rbt, tbt⟩ := hR.at tp 0 ttp (rfl : h_rs 9 0 = some (900, false)) (by decide)
  have abt : h_ad z tp 0 = bt := h_ad.at rbt
  obtain ⟨mb, rmb, tmb⟩ := hR.at mo 0 tmo (rfl : h_rs 13 0 = some (1300, false)) (by decide)
  have amb : h_ad z mo 0 = mb := h_ad.at rmb
  obtain ⟨tx, rtx, ttx⟩ := hR.at lb 1 tlb (rfl : h_rs 4 1 = some (401, false)) (by decide)
  have atx : h_ad z lb 1 = tx := h_ad.at rtx
  obtain ⟨un, run, tun⟩ := hR.at lb 0 tlb (rfl : h_rs 4 0 = some (6, false)) (by decide)
  have aun : h_ad z lb 0 = un := h_ad.at run
  obtain ⟨hy, rhy, thy⟩ := hR.at mo 11 tmo (rfl : h_rs 13 11 = some (1311, false)) (by decide)
  have ahy : h_ad z mo 11 = hy := h_ad.at rhy
  obtain ⟨dt, rdt, tdt⟩ := hR.at cp 7 tcp (rfl : h_rs 12 7 = some (3, false)) (by decide)
  have adt : h_ad z cp 7 = dt := h_ad.at rdt
  obtain ⟨dr, rdr, tdr⟩ := hR.at dt 2 tdt (rfl : h_rs 3 2 = some (302, false)) (by decide)
  have adr : h_ad z dt 2 = dr := h_ad.at rdr
  obtain ⟨rl, rrl, trl⟩ := hR.at rd 1 trd (rfl : h_rs 5 1 = some (6, false)) (by decide)
  have arl : h_ad z rd 1 = rl := h_ad.at rrl
  obtain ⟨rn, rrn, trn⟩ := hR.at rl 0 trl (rfl : h_rs 6 0 = some (600, false)) (by decide)
  have arn : h_ad z rl 0 = rn := h_ad.at rrn
  obtain ⟨ro, rro, tro⟩ := hR.at rl 1 trl (rfl : h_rs 6 1 = some (601, false)) (by decide)
  have aro : h_ad z rl 1 = ro := h_ad.at rro
  obtain ⟨rk, rrk, trk⟩ := hR.at dt 0 tdt (rfl : h_rs 3 0 = some (300, false)) (by decide)
  have ark : h_ad z dt 0 = rk := h_ad.at rrk
  rw [alw] at J1
  rw [atb] at J2
  rw [ard, atp, abk, alb, abg, atu, arg] at R_al
  rw [atp, abt, amb] at R_tp
  rw [abk] at R_ck
  rw [ard] at R_fa
  rw [alb, atx, aun, alw, ahy] at R_bk
  rw [adt, adr] at R_dr
  rw [adt] at R_tb
  refine lv_aload_n hx hb dL_law_1182 rfl (lv_at hl 2 rfl) ?_
  have hIo := hI
  refine va_calli (va_runV (As := []) (rest := []) ⟨hx, hb, hml, hown, hts⟩ (tX11_nextB l E X A z I0 L0 cp tcp R_gb.nn (g_dn hU hR tcp)) (cwV 0 hts gL_law_X11_next rfl rfl rfl (by decide +kernel) ⟨Nat.le_of_ble_eq_true rfl, Nat.le_of_ble_eq_true rfl⟩) ⟨h_blind _ _ _ _ _ _ _, h_recv g tcp (by decide) so_12 (q := (RX11, TX11, 8)) rfl, h_pre _ hE hk hX hA hI hR g⟩ rfl rfl hl.1 rfl (lv_room (Nat.le_of_ble_eq_true rfl)) dL_law_1183 ⟨show cells + 0 ≤ 600000 by omega, show slots + 0 ≤ 7302250 by omega⟩) g.2.1 (fun q _ h => h) (fun q h => h) (fun rh1 I2 t H1 locs ht hvm h1 hB hz1 hk1 hS => ?_)
  obtain ⟨hI, fh1, h1⟩ := h1
  replace J1 : h_J1 (I2 lw) := by rw [show I2 lw = I0 lw from funext (fun k => fh1.at tlw rfl)]; exact J1
  rw [← fh1.at tmo rfl, show I0 tb = I2 tb from funext (fun k => (fh1.at ttb rfl).symm)] at J2
  have oR_al := R_al
  have oR_tp := R_tp
  have oR_ck := R_ck
  have oR_fa := R_fa
  have oR_bk := R_bk
  have oR_dr := R_dr
  have oR_tb := R_tb
  have oR_gb := R_gb
  skip
  replace R_tp : I2 tp 1 = I2 mo 1 ∧ I2 bt = I2 mb := by rw [show I2 tp 1 = I0 tp 1 from fh1.at ttp rfl, show I2 mo 1 = I0 mo 1 from fh1.at tmo rfl, show I2 bt = I0 bt from funext (fun k => fh1.at tbt rfl), show I2 mb = I0 mb from funext (fun k => fh1.at tmb rfl)]; exact R_tp
  replace R_fa : I2 rd 2 = I2 mo 8 ∧ I2 rd 3 = I2 mo 9 := by rw [show I2 rd 2 = I0 rd 2 from fh1.at trd rfl, show I2 rd 3 = I0 rd 3 from fh1.at trd rfl, show I2 mo 8 = I0 mo 8 from fh1.at tmo rfl, show I2 mo 9 = I0 mo 9 from fh1.at tmo rfl]; exact R_fa
  replace R_bk : h_bk z I2 tx un lw hy := R_bk.F hR ttx tun tlw thy fh1 (fun _ => rfl) (fun _ => rfl) (fun _ => rfl) (fun _ => rfl) (fun _ => rfl)
  have gck : I0 (h_ad z cp 3) 3 = I0 mo 12 := by rw [abk]; exact oR_ck
  have gI := hIo
  have gdr : (I0 (h_ad z (h_ad z cp 7) 2) (I0 mo 12).toInt.toNat).toInt = (I0 mo 31).toInt ∧ ∀ k : Nat, (I0 mo 12).toInt < (k : Int) → I0 (h_ad z (h_ad z cp 7) 2) k = 0 := by rw [adt, adr]; exact oR_dr
  have gtb : I0 (h_ad z cp 7) 1 = I0 mo 30 := by rw [adt]; exact oR_tb
  have gP := h1
  have gF := fh1
  have ger : h_er z I0 I2 := fun a h9 => fh1.ref (by decide) rfl h9
  replace g := h_after g hB ht hS
  generalize H1 = H at g
  clear hB hk1 hz1 ht hvm hS
  refine lv_pop hx hb dL_law_1186 rfl ?_
  refine lv_aload_n hx hb dL_law_1187 rfl (lv_at hl 1 rfl) ?_
  have hIo := hI
  refine va_calli (va_runV (As := []) (rest := []) ⟨hx, hb, hml, hown, hts⟩ (tX12_nextB l E X A z I2 L0 mo tmo) (cwV 0 hts gL_law_X12_next rfl rfl rfl (by decide +kernel) ⟨Nat.le_of_ble_eq_true rfl, Nat.le_of_ble_eq_true rfl⟩) ⟨h_blind _ _ _ _ _ _ _, h_recv g tmo (by decide) so_13 (q := (RX12, TX12, 51)) rfl, h_pre _ hE hk hX hA hI hR g⟩ rfl rfl hl.1 rfl (lv_room (Nat.le_of_ble_eq_true rfl)) dL_law_1188 ⟨show cells + 0 ≤ 600000 by omega, show slots + 0 ≤ 7302250 by omega⟩) g.2.1 (fun q _ h => h) (fun q h => h) (fun rh3 I4 t H1 locs ht hvm h3 hB hz1 hk1 hS => ?_)
  obtain ⟨hI, fh3, h3⟩ := h3
  replace J1 : h_J1 (I4 lw) := by rw [show I4 lw = I2 lw from funext (fun k => fh3.at tlw rfl)]; exact J1
  rw [show I2 tb = I4 tb from funext (fun k => (fh3.at ttb rfl).symm)] at J2
  replace J2 := fun q => J2 (h3.1 q)
  have oR_al := R_al
  have oR_tp := R_tp
  have oR_ck := R_ck
  have oR_fa := R_fa
  have oR_bk := R_bk
  have oR_dr := R_dr
  have oR_tb := R_tb
  have oR_gb := R_gb
  skip
  replace R_tp : I4 tp 1 = I4 mo 1 ∧ I4 bt = I4 mb := by rw [show I4 tp 1 = I2 tp 1 from fh3.at ttp rfl, show I4 mo 1 = I2 mo 1 from fh3.at tmo rfl, show I4 bt = I2 bt from funext (fun k => fh3.at tbt rfl), show I4 mb = I2 mb from funext (fun k => fh3.at tmb rfl)]; exact R_tp
  replace R_fa : I4 rd 2 = I4 mo 8 ∧ I4 rd 3 = I4 mo 9 := by rw [show I4 rd 2 = I2 rd 2 from fh3.at trd rfl, show I4 rd 3 = I2 rd 3 from fh3.at trd rfl, show I4 mo 8 = I2 mo 8 from fh3.at tmo rfl, show I4 mo 9 = I2 mo 9 from fh3.at tmo rfl]; exact R_fa
  replace R_bk : h_bk z I4 tx un lw hy := R_bk.F hR ttx tun tlw thy fh3 (fun _ => rfl) (fun _ => rfl) (fun _ => rfl) (fun _ => rfl) (fun _ => rfl)
  obtain ⟨same, Rk, Rd, Rt, Rn⟩ := g_next2 R_gb hU hR gI tcp tmo gck gdr gtb gP gF h3.2 fh3
  rw [abk] at Rk
  replace R_ck := Rk
  rw [adt, adr] at Rd
  rw [adt] at Rt
  replace R_dr := Rd
  replace R_tb := Rt
  replace R_gb := Rn
  replace g := h_after g hB ht hS
  generalize H1 = H at g
  clear hB hk1 hz1 ht hvm hS
  refine lv_pop hx hb dL_law_1191 rfl ?_
  refine lv_goto (tgt := 1241) hx hb dL_law_1192 (by decide) ?_
  exact W.widen (by omega) (by omega) (kk z I4 L0 _ _ _ ⟨g, hI, hR, tcp, tmo, by rw [alw]; exact J1, by unfold h_J2; rw [atb]; exact J2, hU, by rw [ard, atp, abk, alb, abg, atu, arg]; exact R_al, by rw [atp, abt, amb]; exact R_tp, by rw [abk]; exact R_ck, by rw [ard]; exact R_fa, by rw [alb, atx, aun, alw, ahy]; exact R_bk, by rw [adt, adr]; exact R_dr, by rw [adt]; exact R_tb, by exact R_gb⟩ hl)
set_option maxHeartbeats 8000000 in
set_option maxRecDepth 100000 in
theorem law_29 {p : Program} {l : Launch} {e : Env} {s : State} {m : MethodId} {below : List Frame} {meth : Method} {c : Code} {b L : Nat} {xs : Nat → Int32} (C0 : lw_At p s m meth c b L xs) (hL : L ≤ 4096) {A : Nat → Prop} (hAe : (fun q : Nat => s.heap.size ≤ q) = A) {E : tE} {X : tX} (hk : h_Kr X s) (hX : h_S X A s s.heap) {i : Int32} (hi0 : 0 ≤ i.toInt) (hi8 : i.toInt + 8 ≤ L) {cp mo : Nat} {cells slots : Nat} (hcl : cells ≤ 500000) (hsl : slots ≤ 7000000) {z : tZ} {I0 : tI} {L0 : tL} {H : Heap} {locs : List Loc} {ls : Array Slot} (T : h_T E A s z I0 L0 H locs cp mo) (hl : lv_has ls 4 [(3, .int i), (2, .ref mo), (1, .ref cp), (0, .ref b)]) (kk : ∀ (z : tZ) (I0 : tI) (L0 : tL) (H : Heap) (locs : List Loc) (ls : Array Slot), h_T E A s z I0 L0 H locs cp mo → lv_has ls 4 [(3, .int i), (2, .ref mo), (1, .ref cp), (0, .ref b)] → W p l e room_1 s m #[Value.ref b] below meth c H locs (cells + 3) (slots + 17) (lw_Z below #[Value.ref b] s) (F0 m 1241 ls [])) : W p l e room_1 s m #[Value.ref b] below meth c H locs cells slots (lw_Z below #[Value.ref b] s) (F0 m 1195 ls []) := by
  obtain ⟨hx, hb, hr, hml, hown, hts0, hSc, hbl, hlocks, hgv⟩ := id C0
  have hE := xs_E hts0
  have hts : ∀ w ∈ wsL_law, w.before #[Value.ref b] s = true := fun w h => hts0 w (wsL_law_in w h)
  have hA : ∀ q : Nat, s.heap.size ≤ q → A q := fun q h => by rw [← hAe]; exact h
  have hbA : ¬ A b := by rw [← hAe]; exact Nat.not_le.mpr hbl
  obtain ⟨g, hI, hR, tcp, tmo, J1, J2, hU, R_al, R_tp, R_ck, R_fa, R_bk, R_dr, R_tb, R_gb⟩ := T
  unfold h_J2 at J2
  obtain ⟨lw, rlw, tlw⟩ := hR.at mo 10 tmo (rfl : h_rs 13 10 = some (1310, false)) (by decide)
  have alw : h_ad z mo 10 = lw := h_ad.at rlw
  obtain ⟨tb, rtb, ttb⟩ := hR.at mo 32 tmo (rfl : h_rs 13 32 = some (1332, false)) (by decide)
  have atb : h_ad z mo 32 = tb := h_ad.at rtb
  obtain ⟨rd, rrd, trd⟩ := hR.at cp 2 tcp (rfl : h_rs 12 2 = some (5, false)) (by decide)
  have ard : h_ad z cp 2 = rd := h_ad.at rrd
  obtain ⟨tp, rtp, ttp⟩ := hR.at cp 0 tcp (rfl : h_rs 12 0 = some (9, false)) (by decide)
  have atp : h_ad z cp 0 = tp := h_ad.at rtp
  obtain ⟨bk, rbk, tbk⟩ := hR.at cp 3 tcp (rfl : h_rs 12 3 = some (1, false)) (by decide)
  have abk : h_ad z cp 3 = bk := h_ad.at rbk
  obtain ⟨lb, rlb, tlb⟩ := hR.at cp 1 tcp (rfl : h_rs 12 1 = some (4, false)) (by decide)
  have alb : h_ad z cp 1 = lb := h_ad.at rlb
  obtain ⟨bg, rbg, tbg⟩ := hR.at cp 5 tcp (rfl : h_rs 12 5 = some (10, false)) (by decide)
  have abg : h_ad z cp 5 = bg := h_ad.at rbg
  obtain ⟨tu, rtu, ttu⟩ := hR.at cp 4 tcp (rfl : h_rs 12 4 = some (11, false)) (by decide)
  have atu : h_ad z cp 4 = tu := h_ad.at rtu
  obtain ⟨rg, rrg, trg⟩ := hR.at cp 6 tcp (rfl : h_rs 12 6 = some (8, false)) (by decide)
  have arg : h_ad z cp 6 = rg := h_ad.at rrg
  obtain ⟨bt, rbt, tbt⟩ := hR.at tp 0 ttp (rfl : h_rs 9 0 = some (900, false)) (by decide)
  have abt : h_ad z tp 0 = bt := h_ad.at rbt
  obtain ⟨mb, rmb, tmb⟩ := hR.at mo 0 tmo (rfl : h_rs 13 0 = some (1300, false)) (by decide)
  have amb : h_ad z mo 0 = mb := h_ad.at rmb
  obtain ⟨tx, rtx, ttx⟩ := hR.at lb 1 tlb (rfl : h_rs 4 1 = some (401, false)) (by decide)
  have atx : h_ad z lb 1 = tx := h_ad.at rtx
  obtain ⟨un, run, tun⟩ := hR.at lb 0 tlb (rfl : h_rs 4 0 = some (6, false)) (by decide)
  have aun : h_ad z lb 0 = un := h_ad.at run
  obtain ⟨hy, rhy, thy⟩ := hR.at mo 11 tmo (rfl : h_rs 13 11 = some (1311, false)) (by decide)
  have ahy : h_ad z mo 11 = hy := h_ad.at rhy
  obtain ⟨dt, rdt, tdt⟩ := hR.at cp 7 tcp (rfl : h_rs 12 7 = some (3, false)) (by decide)
  have adt : h_ad z cp 7 = dt := h_ad.at rdt
  obtain ⟨dr, rdr, tdr⟩ := hR.at dt 2 tdt (rfl : h_rs 3 2 = some (302, false)) (by decide)
  have adr : h_ad z dt 2 = dr := h_ad.at rdr
  obtain ⟨rl, rrl, trl⟩ := hR.at rd 1 trd (rfl : h_rs 5 1 = some (6, false)) (by decide)
  have arl : h_ad z rd 1 = rl := h_ad.at rrl
  obtain ⟨rn, rrn, trn⟩ := hR.at rl 0 trl (rfl : h_rs 6 0 = some (600, false)) (by decide)
  have arn : h_ad z rl 0 = rn := h_ad.at rrn
  obtain ⟨ro, rro, tro⟩ := hR.at rl 1 trl (rfl : h_rs 6 1 = some (601, false)) (by decide)
  have aro : h_ad z rl 1 = ro := h_ad.at rro
  obtain ⟨rk, rrk, trk⟩ := hR.at dt 0 tdt (rfl : h_rs 3 0 = some (300, false)) (by decide)
  have ark : h_ad z dt 0 = rk := h_ad.at rrk
  rw [alw] at J1
  rw [atb] at J2
  rw [ard, atp, abk, alb, abg, atu, arg] at R_al
  rw [atp, abt, amb] at R_tp
  rw [abk] at R_ck
  rw [ard] at R_fa
  rw [alb, atx, aun, alw, ahy] at R_bk
  rw [adt, adr] at R_dr
  rw [adt] at R_tb
  refine lv_aload_n hx hb dL_law_1195 rfl (lv_at hl 2 rfl) ?_
  refine lv_aload_n hx hb dL_law_1196 rfl (lv_at hl 3 rfl) ?_
  refine lv_iload_n hx hb dL_law_1197 rfl (lv_at hl 0 rfl) ?_
  refine lv_iconst (v := 1) hx hb dL_law_1198 (by decide) ?_
  refine lv_iadd hx hb dL_law_1199 ?_
  refine lv_topi (fun v1 ev1 => ?_)
  refine va_sld hx hb hSc hbl hbA g.2.1 (h_ix hi0 hi8 hL ev1 (k := 1) (by decide) (by decide) (by decide)) dL_law_1200 ?_
  refine lv_topi (fun v2 ev2 => ?_)
  refine vp_callSi (W.runV (As := [.int v2]) (rest := []) ⟨hx, hb, hml, hown, hts⟩ (tX11_purse l E X A z I0 L0 cp tcp v2 (v2.toInt) rfl) (cwV 1 hts gL_law_X11_purse rfl rfl rfl (by decide +kernel) ⟨Nat.le_of_ble_eq_true rfl, Nat.le_of_ble_eq_true rfl⟩) ⟨h_blind _ _ _ _ _ _ _, h_recv g tcp (by decide) so_12 (q := (RX11, TX11, 8)) rfl, h_pre _ hE hk hX hA hI hR g⟩ rfl rfl hl.1 rfl (lv_room (Nat.le_of_ble_eq_true rfl)) dL_law_1201 ⟨show cells + 0 ≤ 600000 by omega, show slots + 0 ≤ 7302250 by omega⟩) (fun rh3 h3 => ?_)
  refine lv_pop hx hb dL_law_1204 rfl ?_
  refine lv_aload_n hx hb dL_law_1205 rfl (lv_at hl 1 rfl) ?_
  refine lv_aload_n hx hb dL_law_1206 rfl (lv_at hl 3 rfl) ?_
  refine lv_iload_n hx hb dL_law_1207 rfl (lv_at hl 0 rfl) ?_
  refine lv_iconst (v := 1) hx hb dL_law_1208 (by decide) ?_
  refine lv_iadd hx hb dL_law_1209 ?_
  refine lv_topi (fun v4 ev4 => ?_)
  refine va_sld hx hb hSc hbl hbA g.2.1 (h_ix hi0 hi8 hL ev4 (k := 1) (by decide) (by decide) (by decide)) dL_law_1210 ?_
  refine xw_i (v := v2) (by rw [show v4 = v1 from ev4.trans ev1.symm]; exact ev2.symm) ?_
  refine vp_callSi (W.runV (As := [.int v2]) (rest := []) ⟨hx, hb, hml, hown, hts⟩ (tX12_purse l E X A z I0 L0 mo tmo v2 (v2.toInt) rfl) (cwV 1 hts gL_law_X12_purse rfl rfl rfl (by decide +kernel) ⟨Nat.le_of_ble_eq_true rfl, Nat.le_of_ble_eq_true rfl⟩) ⟨h_blind _ _ _ _ _ _ _, h_recv g tmo (by decide) so_13 (q := (RX12, TX12, 51)) rfl, h_pre _ hE hk hX hA hI hR g⟩ rfl rfl hl.1 rfl (lv_room (Nat.le_of_ble_eq_true rfl)) dL_law_1211 ⟨show cells + 0 ≤ 600000 by omega, show slots + 0 ≤ 7302250 by omega⟩) (fun rh6 h6 => ?_)
  refine lv_pop hx hb dL_law_1214 rfl ?_
  refine lv_goto (tgt := 1241) hx hb dL_law_1215 (by decide) ?_
  exact W.widen (by omega) (by omega) (kk z I0 L0 _ _ _ ⟨g, hI, hR, tcp, tmo, by rw [alw]; exact J1, by unfold h_J2; rw [atb]; exact J2, hU, by rw [ard, atp, abk, alb, abg, atu, arg]; exact R_al, by rw [atp, abt, amb]; exact R_tp, by rw [abk]; exact R_ck, by rw [ard]; exact R_fa, by rw [alb, atx, aun, alw, ahy]; exact R_bk, by rw [adt, adr]; exact R_dr, by rw [adt]; exact R_tb, by exact R_gb⟩ hl)
set_option maxHeartbeats 8000000 in
set_option maxRecDepth 100000 in
theorem law_30 {p : Program} {l : Launch} {e : Env} {s : State} {m : MethodId} {below : List Frame} {meth : Method} {c : Code} {b L : Nat} {xs : Nat → Int32} (C0 : lw_At p s m meth c b L xs) (hL : L ≤ 4096) {A : Nat → Prop} (hAe : (fun q : Nat => s.heap.size ≤ q) = A) {E : tE} {X : tX} (hk : h_Kr X s) (hX : h_S X A s s.heap) {i : Int32} (hi0 : 0 ≤ i.toInt) (hi8 : i.toInt + 8 ≤ L) {cp mo : Nat} {cells slots : Nat} (hcl : cells ≤ 500000) (hsl : slots ≤ 7000000) {z : tZ} {I0 : tI} {L0 : tL} {H : Heap} {locs : List Loc} {ls : Array Slot} (T : h_T E A s z I0 L0 H locs cp mo) (hl : lv_has ls 4 [(3, .int i), (2, .ref mo), (1, .ref cp), (0, .ref b)]) (kk : ∀ (z : tZ) (I0 : tI) (L0 : tL) (H : Heap) (locs : List Loc) (ls : Array Slot), h_T E A s z I0 L0 H locs cp mo → lv_has ls 4 [(3, .int i), (2, .ref mo), (1, .ref cp), (0, .ref b)] → W p l e room_1 s m #[Value.ref b] below meth c H locs (cells + 3) (slots + 17) (lw_Z below #[Value.ref b] s) (F0 m 1241 ls [])) : W p l e room_1 s m #[Value.ref b] below meth c H locs cells slots (lw_Z below #[Value.ref b] s) (F0 m 1218 ls []) := by
  obtain ⟨hx, hb, hr, hml, hown, hts0, hSc, hbl, hlocks, hgv⟩ := id C0
  have hE := xs_E hts0
  have hts : ∀ w ∈ wsL_law, w.before #[Value.ref b] s = true := fun w h => hts0 w (wsL_law_in w h)
  have hA : ∀ q : Nat, s.heap.size ≤ q → A q := fun q h => by rw [← hAe]; exact h
  have hbA : ¬ A b := by rw [← hAe]; exact Nat.not_le.mpr hbl
  obtain ⟨g, hI, hR, tcp, tmo, J1, J2, hU, R_al, R_tp, R_ck, R_fa, R_bk, R_dr, R_tb, R_gb⟩ := T
  unfold h_J2 at J2
  obtain ⟨lw, rlw, tlw⟩ := hR.at mo 10 tmo (rfl : h_rs 13 10 = some (1310, false)) (by decide)
  have alw : h_ad z mo 10 = lw := h_ad.at rlw
  obtain ⟨tb, rtb, ttb⟩ := hR.at mo 32 tmo (rfl : h_rs 13 32 = some (1332, false)) (by decide)
  have atb : h_ad z mo 32 = tb := h_ad.at rtb
  obtain ⟨rd, rrd, trd⟩ := hR.at cp 2 tcp (rfl : h_rs 12 2 = some (5, false)) (by decide)
  have ard : h_ad z cp 2 = rd := h_ad.at rrd
  obtain ⟨tp, rtp, ttp⟩ := hR.at cp 0 tcp (rfl : h_rs 12 0 = some (9, false)) (by decide)
  have atp : h_ad z cp 0 = tp := h_ad.at rtp
  obtain ⟨bk, rbk, tbk⟩ := hR.at cp 3 tcp (rfl : h_rs 12 3 = some (1, false)) (by decide)
  have abk : h_ad z cp 3 = bk := h_ad.at rbk
  obtain ⟨lb, rlb, tlb⟩ := hR.at cp 1 tcp (rfl : h_rs 12 1 = some (4, false)) (by decide)
  have alb : h_ad z cp 1 = lb := h_ad.at rlb
  obtain ⟨bg, rbg, tbg⟩ := hR.at cp 5 tcp (rfl : h_rs 12 5 = some (10, false)) (by decide)
  have abg : h_ad z cp 5 = bg := h_ad.at rbg
  obtain ⟨tu, rtu, ttu⟩ := hR.at cp 4 tcp (rfl : h_rs 12 4 = some (11, false)) (by decide)
  have atu : h_ad z cp 4 = tu := h_ad.at rtu
  obtain ⟨rg, rrg, trg⟩ := hR.at cp 6 tcp (rfl : h_rs 12 6 = some (8, false)) (by decide)
  have arg : h_ad z cp 6 = rg := h_ad.at rrg
  obtain ⟨bt, rbt, tbt⟩ := hR.at tp 0 ttp (rfl : h_rs 9 0 = some (900, false)) (by decide)
  have abt : h_ad z tp 0 = bt := h_ad.at rbt
  obtain ⟨mb, rmb, tmb⟩ := hR.at mo 0 tmo (rfl : h_rs 13 0 = some (1300, false)) (by decide)
  have amb : h_ad z mo 0 = mb := h_ad.at rmb
  obtain ⟨tx, rtx, ttx⟩ := hR.at lb 1 tlb (rfl : h_rs 4 1 = some (401, false)) (by decide)
  have atx : h_ad z lb 1 = tx := h_ad.at rtx
  obtain ⟨un, run, tun⟩ := hR.at lb 0 tlb (rfl : h_rs 4 0 = some (6, false)) (by decide)
  have aun : h_ad z lb 0 = un := h_ad.at run
  obtain ⟨hy, rhy, thy⟩ := hR.at mo 11 tmo (rfl : h_rs 13 11 = some (1311, false)) (by decide)
  have ahy : h_ad z mo 11 = hy := h_ad.at rhy
  obtain ⟨dt, rdt, tdt⟩ := hR.at cp 7 tcp (rfl : h_rs 12 7 = some (3, false)) (by decide)
  have adt : h_ad z cp 7 = dt := h_ad.at rdt
  obtain ⟨dr, rdr, tdr⟩ := hR.at dt 2 tdt (rfl : h_rs 3 2 = some (302, false)) (by decide)
  have adr : h_ad z dt 2 = dr := h_ad.at rdr
  obtain ⟨rl, rrl, trl⟩ := hR.at rd 1 trd (rfl : h_rs 5 1 = some (6, false)) (by decide)
  have arl : h_ad z rd 1 = rl := h_ad.at rrl
  obtain ⟨rn, rrn, trn⟩ := hR.at rl 0 trl (rfl : h_rs 6 0 = some (600, false)) (by decide)
  have arn : h_ad z rl 0 = rn := h_ad.at rrn
  obtain ⟨ro, rro, tro⟩ := hR.at rl 1 trl (rfl : h_rs 6 1 = some (601, false)) (by decide)
  have aro : h_ad z rl 1 = ro := h_ad.at rro
  obtain ⟨rk, rrk, trk⟩ := hR.at dt 0 tdt (rfl : h_rs 3 0 = some (300, false)) (by decide)
  have ark : h_ad z dt 0 = rk := h_ad.at rrk
  rw [alw] at J1
  rw [atb] at J2
  rw [ard, atp, abk, alb, abg, atu, arg] at R_al
  rw [atp, abt, amb] at R_tp
  rw [abk] at R_ck
  rw [ard] at R_fa
  rw [alb, atx, aun, alw, ahy] at R_bk
  rw [adt, adr] at R_dr
  rw [adt] at R_tb
  refine lv_aload_n hx hb dL_law_1218 rfl (lv_at hl 2 rfl) ?_
  refine lv_aload_n hx hb dL_law_1219 rfl (lv_at hl 3 rfl) ?_
  refine lv_iload_n hx hb dL_law_1220 rfl (lv_at hl 0 rfl) ?_
  refine lv_iconst (v := 1) hx hb dL_law_1221 (by decide) ?_
  refine lv_iadd hx hb dL_law_1222 ?_
  refine lv_topi (fun v1 ev1 => ?_)
  refine va_sld hx hb hSc hbl hbA g.2.1 (h_ix hi0 hi8 hL ev1 (k := 1) (by decide) (by decide) (by decide)) dL_law_1223 ?_
  refine lv_topi (fun v2 ev2 => ?_)
  refine vp_callSi (W.runV (As := [.int v2]) (rest := []) ⟨hx, hb, hml, hown, hts⟩ (tX11_count l E X A z I0 L0 cp tcp v2 (v2.toInt) rfl) (cwV 1 hts gL_law_X11_count rfl rfl rfl (by decide +kernel) ⟨Nat.le_of_ble_eq_true rfl, Nat.le_of_ble_eq_true rfl⟩) ⟨h_blind _ _ _ _ _ _ _, h_recv g tcp (by decide) so_12 (q := (RX11, TX11, 8)) rfl, h_pre _ hE hk hX hA hI hR g⟩ rfl rfl hl.1 rfl (lv_room (Nat.le_of_ble_eq_true rfl)) dL_law_1224 ⟨show cells + 0 ≤ 600000 by omega, show slots + 0 ≤ 7302250 by omega⟩) (fun rh3 h3 => ?_)
  refine lv_pop hx hb dL_law_1227 rfl ?_
  refine lv_aload_n hx hb dL_law_1228 rfl (lv_at hl 1 rfl) ?_
  refine lv_aload_n hx hb dL_law_1229 rfl (lv_at hl 3 rfl) ?_
  refine lv_iload_n hx hb dL_law_1230 rfl (lv_at hl 0 rfl) ?_
  refine lv_iconst (v := 1) hx hb dL_law_1231 (by decide) ?_
  refine lv_iadd hx hb dL_law_1232 ?_
  refine lv_topi (fun v4 ev4 => ?_)
  refine va_sld hx hb hSc hbl hbA g.2.1 (h_ix hi0 hi8 hL ev4 (k := 1) (by decide) (by decide) (by decide)) dL_law_1233 ?_
  refine xw_i (v := v2) (by rw [show v4 = v1 from ev4.trans ev1.symm]; exact ev2.symm) ?_
  refine vp_callSi (W.runV (As := [.int v2]) (rest := []) ⟨hx, hb, hml, hown, hts⟩ (tX12_count l E X A z I0 L0 mo tmo v2 (v2.toInt) rfl) (cwV 1 hts gL_law_X12_count rfl rfl rfl (by decide +kernel) ⟨Nat.le_of_ble_eq_true rfl, Nat.le_of_ble_eq_true rfl⟩) ⟨h_blind _ _ _ _ _ _ _, h_recv g tmo (by decide) so_13 (q := (RX12, TX12, 51)) rfl, h_pre _ hE hk hX hA hI hR g⟩ rfl rfl hl.1 rfl (lv_room (Nat.le_of_ble_eq_true rfl)) dL_law_1234 ⟨show cells + 0 ≤ 600000 by omega, show slots + 0 ≤ 7302250 by omega⟩) (fun rh6 h6 => ?_)
  refine lv_pop hx hb dL_law_1237 rfl ?_
  refine lv_goto (tgt := 1241) hx hb dL_law_1238 (by decide) ?_
  exact W.widen (by omega) (by omega) (kk z I0 L0 _ _ _ ⟨g, hI, hR, tcp, tmo, by rw [alw]; exact J1, by unfold h_J2; rw [atb]; exact J2, hU, by rw [ard, atp, abk, alb, abg, atu, arg]; exact R_al, by rw [atp, abt, amb]; exact R_tp, by rw [abk]; exact R_ck, by rw [ard]; exact R_fa, by rw [alb, atx, aun, alw, ahy]; exact R_bk, by rw [adt, adr]; exact R_dr, by rw [adt]; exact R_tb, by exact R_gb⟩ hl)

