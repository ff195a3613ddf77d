set_option maxHeartbeats 8000000 in
set_option maxRecDepth 100000 in
theorem law_8 {p : Program} {l : Launch} {e : Env} {s : State} {m : MethodId} {below : List Frame} {meth : Method} {c : Code} {b L : Nat} {xs : Nat → Int32} (C0 : lw_At p s m meth c b L xs) (hL : L ≤ 4096) {A : Nat → Prop} (hAe : (fun q : Nat => s.heap.size ≤ q) = A) {E : tE} {X : tX} (hk : h_Kr X s) (hX : h_S X A s s.heap) {i : Int32} (hi0 : 0 ≤ i.toInt) (hi8 : i.toInt + 8 ≤ L) {cp mo : Nat} {cells slots : Nat} (hcl : cells ≤ 500000) (hsl : slots ≤ 7000000) {z : tZ} {I0 : tI} {L0 : tL} {H : Heap} {locs : List Loc} {ls : Array Slot} (T : h_T E A s z I0 L0 H locs cp mo) (hl : lv_has ls 4 [(3, .int i), (2, .ref mo), (1, .ref cp), (0, .ref b)]) (kk : ∀ (z : tZ) (I0 : tI) (L0 : tL) (H : Heap) (locs : List Loc) (ls : Array Slot), h_T E A s z I0 L0 H locs cp mo → lv_has ls 4 [(3, .int i), (2, .ref mo), (1, .ref cp), (0, .ref b)] → W p l e room_1 s m #[Value.ref b] below meth c H locs (cells + 3) (slots + 17) (lw_Z below #[Value.ref b] s) (F0 m 1241 ls [])) : W p l e room_1 s m #[Value.ref b] below meth c H locs cells slots (lw_Z below #[Value.ref b] s) (F0 m 556 ls []) := by
  obtain ⟨hx, hb, hr, hml, hown, hts0, hSc, hbl, hlocks, hgv⟩ := id C0
  have hE := xs_E hts0
  have hts : ∀ w ∈ wsL_law, w.before #[Value.ref b] s = true := fun w h => hts0 w (wsL_law_in w h)
  have hA : ∀ q : Nat, s.heap.size ≤ q → A q := fun q h => by rw [← hAe]; exact h
  have hbA : ¬ A b := by rw [← hAe]; exact Nat.not_le.mpr hbl
  obtain ⟨g, hI, hR, tcp, tmo, J1, J2, hU, R_al, R_tp, R_ck, R_fa, R_bk, R_dr, R_tb, R_gb⟩ := T
  unfold h_J2 at J2
  obtain ⟨lw, rlw, tlw⟩ := hR.at mo 10 tmo (rfl : h_rs 13 10 = some (1310, false)) (by decide)
  have alw : h_ad z mo 10 = lw := h_ad.at rlw
  obtain ⟨tb, rtb, ttb⟩ := hR.at mo 32 tmo (rfl : h_rs 13 32 = some (1332, false)) (by decide)
  have atb : h_ad z mo 32 = tb := h_ad.at rtb
  obtain ⟨rd, rrd, trd⟩ := hR.at cp 2 tcp (rfl : h_rs 12 2 = some (5, false)) (by decide)
  have ard : h_ad z cp 2 = rd := h_ad.at rrd
  obtain ⟨tp, rtp, ttp⟩ := hR.at cp 0 tcp (rfl : h_rs 12 0 = some (9, false)) (by decide)
  have atp : h_ad z cp 0 = tp := h_ad.at rtp
  obtain ⟨bk, rbk, tbk⟩ := hR.at cp 3 tcp (rfl : h_rs 12 3 = some (1, false)) (by decide)
  have abk : h_ad z cp 3 = bk := h_ad.at rbk
  obtain ⟨lb, rlb, tlb⟩ := hR.at cp 1 tcp (rfl : h_rs 12 1 = some (4, false)) (by decide)
  have alb : h_ad z cp 1 = lb := h_ad.at rlb
  obtain ⟨bg, rbg, tbg⟩ := hR.at cp 5 tcp (rfl : h_rs 12 5 = some (10, false)) (by decide)
  have abg : h_ad z cp 5 = bg := h_ad.at rbg
  obtain ⟨tu, rtu, ttu⟩ := hR.at cp 4 tcp (rfl : h_rs 12 4 = some (11, false)) (by decide)
  have atu : h_ad z cp 4 = tu := h_ad.at rtu
  obtain ⟨rg, rrg, trg⟩ := hR.at cp 6 tcp (rfl : h_rs 12 6 = some (8, false)) (by decide)
  have arg : h_ad z cp 6 = rg := h_ad.at rrg
  obtain ⟨bt, rbt, tbt⟩ := hR.at tp 0 ttp (rfl : h_rs 9 0 = some (900, false)) (by decide)
  have abt : h_ad z tp 0 = bt := h_ad.at rbt
  obtain ⟨mb, rmb, tmb⟩ := hR.at mo 0 tmo (rfl : h_rs 13 0 = some (1300, false)) (by decide)
  have amb : h_ad z mo 0 = mb := h_ad.at rmb
  obtain ⟨tx, rtx, ttx⟩ := hR.at lb 1 tlb (rfl : h_rs 4 1 = some (401, false)) (by decide)
  have atx : h_ad z lb 1 = tx := h_ad.at rtx
  obtain ⟨un, run, tun⟩ := hR.at lb 0 tlb (rfl : h_rs 4 0 = some (6, false)) (by decide)
  have aun : h_ad z lb 0 = un := h_ad.at run
  obtain ⟨hy, rhy, thy⟩ := hR.at mo 11 tmo (rfl : h_rs 13 11 = some (1311, false)) (by decide)
  have ahy : h_ad z mo 11 = hy := h_ad.at rhy
  obtain ⟨dt, rdt, tdt⟩ := hR.at cp 7 tcp (rfl : h_rs 12 7 = some (3, false)) (by decide)
  have adt : h_ad z cp 7 = dt := h_ad.at rdt
  obtain ⟨dr, rdr, tdr⟩ := hR.at dt 2 tdt (rfl : h_rs 3 2 = some (302, false)) (by decide)
  have adr : h_ad z dt 2 = dr := h_ad.at rdr
  obtain ⟨rl, rrl, trl⟩ := hR.at rd 1 trd (rfl : h_rs 5 1 = some (6, false)) (by decide)
  have arl : h_ad z rd 1 = rl := h_ad.at rrl
  obtain ⟨rn, rrn, trn⟩ := hR.at rl 0 trl (rfl : h_rs 6 0 = some (600, false)) (by decide)
  have arn : h_ad z rl 0 = rn := h_ad.at rrn
  obtain ⟨ro, rro, tro⟩ := hR.at rl 1 trl (rfl : h_rs 6 1 = some (601, false)) (by decide)
  have aro : h_ad z rl 1 = ro := h_ad.at rro
  obtain ⟨rk, rrk, trk⟩ := hR.at dt 0 tdt (rfl : h_rs 3 0 = some (300, false)) (by decide)
  have ark : h_ad z dt 0 = rk := h_ad.at rrk
  rw [alw] at J1
  rw [atb] at J2
  rw [ard, atp, abk, alb, abg, atu, arg] at R_al
  rw [atp, abt, amb] at R_tp
  rw [abk] at R_ck
  rw [ard] at R_fa
  rw [alb, atx, aun, alw, ahy] at R_bk
  rw [adt, adr] at R_dr
  rw [adt] at R_tb
  refine lv_aload_n hx hb dL_law_556 rfl (lv_at hl 2 rfl) ?_
  refine lv_aload_n hx hb dL_law_557 rfl (lv_at hl 3 rfl) ?_
  refine lv_iload_n hx hb dL_law_558 rfl (lv_at hl 0 rfl) ?_
  refine lv_iconst (v := 1) hx hb dL_law_559 (by decide) ?_
  refine lv_iadd hx hb dL_law_560 ?_
  refine lv_topi (fun v1 ev1 => ?_)
  refine va_sld hx hb hSc hbl hbA g.2.1 (h_ix hi0 hi8 hL ev1 (k := 1) (by decide) (by decide) (by decide)) dL_law_561 ?_
  refine lv_topi (fun v2 ev2 => ?_)
  have hIo := hI
  refine va_calli (va_runV (As := [.int v2]) (rest := []) ⟨hx, hb, hml, hown, hts⟩ (tX11_chooseB l E X A z I0 L0 cp tcp v2 (v2.toInt) rfl R_gb.nn) (cwV 1 hts gL_law_X11_choose rfl rfl rfl (by decide +kernel) ⟨Nat.le_of_ble_eq_true rfl, Nat.le_of_ble_eq_true rfl⟩) ⟨h_blind _ _ _ _ _ _ _, h_recv g tcp (by decide) so_12 (q := (RX11, TX11, 8)) rfl, h_pre _ hE hk hX hA hI hR g⟩ rfl rfl hl.1 rfl (lv_room (Nat.le_of_ble_eq_true rfl)) dL_law_562 ⟨show cells + 0 ≤ 600000 by omega, show slots + 0 ≤ 7302250 by omega⟩) g.2.1 (fun q _ h => h) (fun q h => h) (fun rh3 I4 t H1 locs ht hvm h3 hB hz1 hk1 hS => ?_)
  obtain ⟨hI, fh3, h3⟩ := h3
  replace J1 : h_J1 (I4 lw) := by rw [show I4 lw = I0 lw from funext (fun k => fh3.at tlw rfl)]; exact J1
  rw [← fh3.at tmo rfl, show I0 tb = I4 tb from funext (fun k => (fh3.at ttb rfl).symm)] at J2
  have oR_al := R_al
  have oR_tp := R_tp
  have oR_ck := R_ck
  have oR_fa := R_fa
  have oR_bk := R_bk
  have oR_dr := R_dr
  have oR_tb := R_tb
  have oR_gb := R_gb
  skip
  replace R_tp : I4 tp 1 = I4 mo 1 ∧ I4 bt = I4 mb := by rw [show I4 tp 1 = I0 tp 1 from fh3.at ttp rfl, show I4 mo 1 = I0 mo 1 from fh3.at tmo rfl, show I4 bt = I0 bt from funext (fun k => fh3.at tbt rfl), show I4 mb = I0 mb from funext (fun k => fh3.at tmb rfl)]; exact R_tp
  replace R_ck : I4 bk 3 = I4 mo 12 := by rw [show I4 bk 3 = I0 bk 3 from fh3.at tbk rfl, show I4 mo 12 = I0 mo 12 from fh3.at tmo rfl]; exact R_ck
  replace R_fa : I4 rd 2 = I4 mo 8 ∧ I4 rd 3 = I4 mo 9 := by rw [show I4 rd 2 = I0 rd 2 from fh3.at trd rfl, show I4 rd 3 = I0 rd 3 from fh3.at trd rfl, show I4 mo 8 = I0 mo 8 from fh3.at tmo rfl, show I4 mo 9 = I0 mo 9 from fh3.at tmo rfl]; exact R_fa
  replace R_bk : h_bk z I4 tx un lw hy := R_bk.F hR ttx tun tlw thy fh3 (fun _ => rfl) (fun _ => rfl) (fun _ => rfl) (fun _ => rfl) (fun _ => rfl)
  replace R_dr : (I4 dr (I4 mo 12).toInt.toNat).toInt = (I4 mo 31).toInt ∧ ∀ k : Nat, (I4 mo 12).toInt < (k : Int) → I4 dr k = 0 := by rw [show I4 dr = I0 dr from funext (fun k => fh3.at tdr rfl), show I4 mo 12 = I0 mo 12 from fh3.at tmo rfl, show I4 mo 31 = I0 mo 31 from fh3.at tmo rfl]; exact R_dr
  replace R_tb : I4 dt 1 = I4 mo 30 := by rw [show I4 dt 1 = I0 dt 1 from fh3.at tdt rfl, show I4 mo 30 = I0 mo 30 from fh3.at tmo rfl]; exact R_tb
  have gck : I0 (h_ad z cp 3) 3 = I0 mo 12 := by rw [abk]; exact oR_ck
  have gI := hIo
  have gP := h3
  have gF := fh3
  have ger : h_er z I0 I4 := fun a h9 => fh3.ref (by decide) rfl h9
  replace g := h_after g hB ht hS
  generalize H1 = H at g
  clear hB hk1 hz1 ht hvm hS
  refine lv_pop hx hb dL_law_565 rfl ?_
  refine lv_aload_n hx hb dL_law_566 rfl (lv_at hl 1 rfl) ?_
  refine lv_aload_n hx hb dL_law_567 rfl (lv_at hl 3 rfl) ?_
  refine lv_iload_n hx hb dL_law_568 rfl (lv_at hl 0 rfl) ?_
  refine lv_iconst (v := 1) hx hb dL_law_569 (by decide) ?_
  refine lv_iadd hx hb dL_law_570 ?_
  refine lv_topi (fun v5 ev5 => ?_)
  refine va_sld hx hb hSc hbl hbA g.2.1 (h_ix hi0 hi8 hL ev5 (k := 1) (by decide) (by decide) (by decide)) dL_law_571 ?_
  refine xw_i (v := v2) (by rw [show v5 = v1 from ev5.trans ev1.symm]; exact ev2.symm) ?_
  have hIo := hI
  refine va_calli (va_runV (As := [.int v2]) (rest := []) ⟨hx, hb, hml, hown, hts⟩ (tX12_chooseB l E X A z I4 L0 mo tmo v2 (v2.toInt) rfl) (cwV 1 hts gL_law_X12_choose rfl rfl rfl (by decide +kernel) ⟨Nat.le_of_ble_eq_true rfl, Nat.le_of_ble_eq_true rfl⟩) ⟨h_blind _ _ _ _ _ _ _, h_recv g tmo (by decide) so_13 (q := (RX12, TX12, 51)) rfl, h_pre _ hE hk hX hA hI hR g⟩ rfl rfl hl.1 rfl (lv_room (Nat.le_of_ble_eq_true rfl)) dL_law_572 ⟨show cells + 0 ≤ 600000 by omega, show slots + 0 ≤ 7302250 by omega⟩) g.2.1 (fun q _ h => h) (fun q h => h) (fun rh7 I8 t H1 locs ht hvm h7 hB hz1 hk1 hS => ?_)
  obtain ⟨hI, fh7, h7⟩ := h7
  replace J1 : h_J1 (I8 lw) := by rw [show I8 lw = I4 lw from funext (fun k => fh7.at tlw rfl)]; exact J1
  rw [← fh7.at tmo rfl, show I4 tb = I8 tb from funext (fun k => (fh7.at ttb rfl).symm)] at J2
  have oR_al := R_al
  have oR_tp := R_tp
  have oR_ck := R_ck
  have oR_fa := R_fa
  have oR_bk := R_bk
  have oR_dr := R_dr
  have oR_tb := R_tb
  have oR_gb := R_gb
  skip
  replace R_tp : I8 tp 1 = I8 mo 1 ∧ I8 bt = I8 mb := by rw [show I8 tp 1 = I4 tp 1 from fh7.at ttp rfl, show I8 mo 1 = I4 mo 1 from fh7.at tmo rfl, show I8 bt = I4 bt from funext (fun k => fh7.at tbt rfl), show I8 mb = I4 mb from funext (fun k => fh7.at tmb rfl)]; exact R_tp
  replace R_ck : I8 bk 3 = I8 mo 12 := by rw [show I8 bk 3 = I4 bk 3 from fh7.at tbk rfl, show I8 mo 12 = I4 mo 12 from fh7.at tmo rfl]; exact R_ck
  replace R_fa : I8 rd 2 = I8 mo 8 ∧ I8 rd 3 = I8 mo 9 := by rw [show I8 rd 2 = I4 rd 2 from fh7.at trd rfl, show I8 rd 3 = I4 rd 3 from fh7.at trd rfl, show I8 mo 8 = I4 mo 8 from fh7.at tmo rfl, show I8 mo 9 = I4 mo 9 from fh7.at tmo rfl]; exact R_fa
  replace R_bk : h_bk z I8 tx un lw hy := R_bk.F hR ttx tun tlw thy fh7 (fun _ => rfl) (fun _ => rfl) (fun _ => rfl) (fun _ => rfl) (fun _ => rfl)
  replace R_dr : (I8 dr (I8 mo 12).toInt.toNat).toInt = (I8 mo 31).toInt ∧ ∀ k : Nat, (I8 mo 12).toInt < (k : Int) → I8 dr k = 0 := by rw [show I8 dr = I4 dr from funext (fun k => fh7.at tdr rfl), show I8 mo 12 = I4 mo 12 from fh7.at tmo rfl, show I8 mo 31 = I4 mo 31 from fh7.at tmo rfl]; exact R_dr
  replace R_tb : I8 dt 1 = I8 mo 30 := by rw [show I8 dt 1 = I4 dt 1 from fh7.at tdt rfl, show I8 mo 30 = I4 mo 30 from fh7.at tmo rfl]; exact R_tb
  obtain ⟨same, Rn⟩ := g_choose2 R_gb hU hR gI tcp tmo gck gP gF h7 fh7
  replace R_gb := Rn
  replace g := h_after g hB ht hS
  generalize H1 = H at g
  clear hB hk1 hz1 ht hvm hS
  refine lv_pop hx hb dL_law_575 rfl ?_
  refine lv_goto (tgt := 1241) hx hb dL_law_576 (by decide) ?_
  exact W.widen (by omega) (by omega) (kk z I8 L0 _ _ _ ⟨g, hI, hR, tcp, tmo, by rw [alw]; exact J1, by unfold h_J2; rw [atb]; exact J2, hU, by rw [ard, atp, abk, alb, abg, atu, arg]; exact R_al, by rw [atp, abt, amb]; exact R_tp, by rw [abk]; exact R_ck, by rw [ard]; exact R_fa, by rw [alb, atx, aun, alw, ahy]; exact R_bk, by rw [adt, adr]; exact R_dr, by rw [adt]; exact R_tb, by exact R_gb⟩ hl)
set_option maxHeartbeats 8000000 in
set_option maxRecDepth 100000 in
theorem law_9 {p : Program} {l : Launch} {e : Env} {s : State} {m : MethodId} {below : List Frame} {meth : Method} {c : Code} {b L : Nat} {xs : Nat → Int32} (C0 : lw_At p s m meth c b L xs) (hL : L ≤ 4096) {A : Nat → Prop} (hAe : (fun q : Nat => s.heap.size ≤ q) = A) {E : tE} {X : tX} (hk : h_Kr X s) (hX : h_S X A s s.heap) {i : Int32} (hi0 : 0 ≤ i.toInt) (hi8 : i.toInt + 8 ≤ L) {cp mo : Nat} {cells slots : Nat} (hcl : cells ≤ 500000) (hsl : slots ≤ 7000000) {z : tZ} {I0 : tI} {L0 : tL} {H : Heap} {locs : List Loc} {ls : Array Slot} (T : h_T E A s z I0 L0 H locs cp mo) (hl : lv_has ls 4 [(3, .int i), (2, .ref mo), (1, .ref cp), (0, .ref b)]) (kk : ∀ (z : tZ) (I0 : tI) (L0 : tL) (H : Heap) (locs : List Loc) (ls : Array Slot), h_T E A s z I0 L0 H locs cp mo → lv_has ls 4 [(3, .int i), (2, .ref mo), (1, .ref cp), (0, .ref b)] → W p l e room_1 s m #[Value.ref b] below meth c H locs (cells + 3) (slots + 17) (lw_Z below #[Value.ref b] s) (F0 m 1241 ls [])) : W p l e room_1 s m #[Value.ref b] below meth c H locs cells slots (lw_Z below #[Value.ref b] s) (F0 m 579 ls []) := by
  obtain ⟨hx, hb, hr, hml, hown, hts0, hSc, hbl, hlocks, hgv⟩ := id C0
  have hE := xs_E hts0
  have hts : ∀ w ∈ wsL_law, w.before #[Value.ref b] s = true := fun w h => hts0 w (wsL_law_in w h)
  have hA : ∀ q : Nat, s.heap.size ≤ q → A q := fun q h => by rw [← hAe]; exact h
  have hbA : ¬ A b := by rw [← hAe]; exact Nat.not_le.mpr hbl
  obtain ⟨g, hI, hR, tcp, tmo, J1, J2, hU, R_al, R_tp, R_ck, R_fa, R_bk, R_dr, R_tb, R_gb⟩ := T
  unfold h_J2 at J2
  obtain ⟨lw, rlw, tlw⟩ := hR.at mo 10 tmo (rfl : h_rs 13 10 = some (1310, false)) (by decide)
  have alw : h_ad z mo 10 = lw := h_ad.at rlw
  obtain ⟨tb, rtb, ttb⟩ := hR.at mo 32 tmo (rfl : h_rs 13 32 = some (1332, false)) (by decide)
  have atb : h_ad z mo 32 = tb := h_ad.at rtb
  obtain ⟨rd, rrd, trd⟩ := hR.at cp 2 tcp (rfl : h_rs 12 2 = some (5, false)) (by decide)
  have ard : h_ad z cp 2 = rd := h_ad.at rrd
  obtain ⟨tp, rtp, ttp⟩ := hR.at cp 0 tcp (rfl : h_rs 12 0 = some (9, false)) (by decide)
  have atp : h_ad z cp 0 = tp := h_ad.at rtp
  obtain ⟨bk, rbk, tbk⟩ := hR.at cp 3 tcp (rfl : h_rs 12 3 = some (1, false)) (by decide)
  have abk : h_ad z cp 3 = bk := h_ad.at rbk
  obtain ⟨lb, rlb, tlb⟩ := hR.at cp 1 tcp (rfl : h_rs 12 1 = some (4, false)) (by decide)
  have alb : h_ad z cp 1 = lb := h_ad.at rlb
  obtain ⟨bg, rbg, tbg⟩ := hR.at cp 5 tcp (rfl : h_rs 12 5 = some (10, false)) (by decide)
  have abg : h_ad z cp 5 = bg := h_ad.at rbg
  obtain ⟨tu, rtu, ttu⟩ := hR.at cp 4 tcp (rfl : h_rs 12 4 = some (11, false)) (by decide)
  have atu : h_ad z cp 4 = tu := h_ad.at rtu
  obtain ⟨rg, rrg, trg⟩ := hR.at cp 6 tcp (rfl : h_rs 12 6 = some (8, false)) (by decide)
  have arg : h_ad z cp 6 = rg := h_ad.at rrg
  obtain ⟨bt, rbt, tbt⟩ := hR.at tp 0 ttp (rfl : h_rs 9 0 = some (900, false)) (by decide)
  have abt : h_ad z tp 0 = bt := h_ad.at rbt
  obtain ⟨mb, rmb, tmb⟩ := hR.at mo 0 tmo (rfl : h_rs 13 0 = some (1300, false)) (by decide)
  have amb : h_ad z mo 0 = mb := h_ad.at rmb
  obtain ⟨tx, rtx, ttx⟩ := hR.at lb 1 tlb (rfl : h_rs 4 1 = some (401, false)) (by decide)
  have atx : h_ad z lb 1 = tx := h_ad.at rtx
  obtain ⟨un, run, tun⟩ := hR.at lb 0 tlb (rfl : h_rs 4 0 = some (6, false)) (by decide)
  have aun : h_ad z lb 0 = un := h_ad.at run
  obtain ⟨hy, rhy, thy⟩ := hR.at mo 11 tmo (rfl : h_rs 13 11 = some (1311, false)) (by decide)
  have ahy : h_ad z mo 11 = hy := h_ad.at rhy
  obtain ⟨dt, rdt, tdt⟩ := hR.at cp 7 tcp (rfl : h_rs 12 7 = some (3, false)) (by decide)
  have adt : h_ad z cp 7 = dt := h_ad.at rdt
  obtain ⟨dr, rdr, tdr⟩ := hR.at dt 2 tdt (rfl : h_rs 3 2 = some (302, false)) (by decide)
  have adr : h_ad z dt 2 = dr := h_ad.at rdr
  obtain ⟨rl, rrl, trl⟩ := hR.at rd 1 trd (rfl : h_rs 5 1 = some (6, false)) (by decide)
  have arl : h_ad z rd 1 = rl := h_ad.at rrl
  obtain ⟨rn, rrn, trn⟩ := hR.at rl 0 trl (rfl : h_rs 6 0 = some (600, false)) (by decide)
  have arn : h_ad z rl 0 = rn := h_ad.at rrn
  obtain ⟨ro, rro, tro⟩ := hR.at rl 1 trl (rfl : h_rs 6 1 = some (601, false)) (by decide)
  have aro : h_ad z rl 1 = ro := h_ad.at rro
  obtain ⟨rk, rrk, trk⟩ := hR.at dt 0 tdt (rfl : h_rs 3 0 = some (300, false)) (by decide)
  have ark : h_ad z dt 0 = rk := h_ad.at rrk
  rw [alw] at J1
  rw [atb] at J2
  rw [ard, atp, abk, alb, abg, atu, arg] at R_al
  rw [atp, abt, amb] at R_tp
  rw [abk] at R_ck
  rw [ard] at R_fa
  rw [alb, atx, aun, alw, ahy] at R_bk
  rw [adt, adr] at R_dr
  rw [adt] at R_tb
  refine lv_aload_n hx hb dL_law_579 rfl (lv_at hl 2 rfl) ?_
  refine lv_aload_n hx hb dL_law_580 rfl (lv_at hl 3 rfl) ?_
  refine lv_iload_n hx hb dL_law_581 rfl (lv_at hl 0 rfl) ?_
  refine lv_iconst (v := 1) hx hb dL_law_582 (by decide) ?_
  refine lv_iadd hx hb dL_law_583 ?_
  refine lv_topi (fun v1 ev1 => ?_)
  refine va_sld hx hb hSc hbl hbA g.2.1 (h_ix hi0 hi8 hL ev1 (k := 1) (by decide) (by decide) (by decide)) dL_law_584 ?_
  refine lv_topi (fun v2 ev2 => ?_)
  have hIo := hI
  refine va_calli (va_runV (As := [.int v2]) (rest := []) ⟨hx, hb, hml, hown, hts⟩ (tX11_waiveB l E X A z I0 L0 cp tcp v2 (v2.toInt) rfl R_gb.nn (R_gb.sx hI tmo)) (cwV 1 hts gL_law_X11_waive rfl rfl rfl (by decide +kernel) ⟨Nat.le_of_ble_eq_true rfl, Nat.le_of_ble_eq_true rfl⟩) ⟨h_blind _ _ _ _ _ _ _, h_recv g tcp (by decide) so_12 (q := (RX11, TX11, 8)) rfl, h_pre _ hE hk hX hA hI hR g⟩ rfl rfl hl.1 rfl (lv_room (Nat.le_of_ble_eq_true rfl)) dL_law_585 ⟨show cells + 0 ≤ 600000 by omega, show slots + 0 ≤ 7302250 by omega⟩) g.2.1 (fun q _ h => h) (fun q h => h) (fun rh3 I4 t H1 locs ht hvm h3 hB hz1 hk1 hS => ?_)
  obtain ⟨hI, fh3, h3⟩ := h3
  replace J1 : h_J1 (I4 lw) := by rw [show I4 lw = I0 lw from funext (fun k => fh3.at tlw rfl)]; exact J1
  rw [← fh3.at tmo rfl, show I0 tb = I4 tb from funext (fun k => (fh3.at ttb rfl).symm)] at J2
  have oR_al := R_al
  have oR_tp := R_tp
  have oR_ck := R_ck
  have oR_fa := R_fa
  have oR_bk := R_bk
  have oR_dr := R_dr
  have oR_tb := R_tb
  have oR_gb := R_gb
  skip
  replace R_tp : I4 tp 1 = I4 mo 1 ∧ I4 bt = I4 mb := by rw [show I4 tp 1 = I0 tp 1 from fh3.at ttp rfl, show I4 mo 1 = I0 mo 1 from fh3.at tmo rfl, show I4 bt = I0 bt from funext (fun k => fh3.at tbt rfl), show I4 mb = I0 mb from funext (fun k => fh3.at tmb rfl)]; exact R_tp
  replace R_ck : I4 bk 3 = I4 mo 12 := by rw [show I4 bk 3 = I0 bk 3 from fh3.at tbk rfl, show I4 mo 12 = I0 mo 12 from fh3.at tmo rfl]; exact R_ck
  replace R_fa : I4 rd 2 = I4 mo 8 ∧ I4 rd 3 = I4 mo 9 := by rw [show I4 rd 2 = I0 rd 2 from fh3.at trd rfl, show I4 rd 3 = I0 rd 3 from fh3.at trd rfl, show I4 mo 8 = I0 mo 8 from fh3.at tmo rfl, show I4 mo 9 = I0 mo 9 from fh3.at tmo rfl]; exact R_fa
  replace R_bk : h_bk z I4 tx un lw hy := R_bk.F hR ttx tun tlw thy fh3 (fun _ => rfl) (fun _ => rfl) (fun _ => rfl) (fun _ => rfl) (fun _ => rfl)
  replace R_dr : (I4 dr (I4 mo 12).toInt.toNat).toInt = (I4 mo 31).toInt ∧ ∀ k : Nat, (I4 mo 12).toInt < (k : Int) → I4 dr k = 0 := by rw [show I4 dr = I0 dr from funext (fun k => fh3.at tdr rfl), show I4 mo 12 = I0 mo 12 from fh3.at tmo rfl, show I4 mo 31 = I0 mo 31 from fh3.at tmo rfl]; exact R_dr
  replace R_tb : I4 dt 1 = I4 mo 30 := by rw [show I4 dt 1 = I0 dt 1 from fh3.at tdt rfl, show I4 mo 30 = I0 mo 30 from fh3.at tmo rfl]; exact R_tb
  have gck : I0 (h_ad z cp 3) 3 = I0 mo 12 := by rw [abk]; exact oR_ck
  have gI := hIo
  have gP := h3
  have gF := fh3
  have ger : h_er z I0 I4 := fun a h9 => fh3.ref (by decide) rfl h9
  replace g := h_after g hB ht hS
  generalize H1 = H at g
  clear hB hk1 hz1 ht hvm hS
  refine lv_pop hx hb dL_law_588 rfl ?_
  refine lv_aload_n hx hb dL_law_589 rfl (lv_at hl 1 rfl) ?_
  refine lv_aload_n hx hb dL_law_590 rfl (lv_at hl 3 rfl) ?_
  refine lv_iload_n hx hb dL_law_591 rfl (lv_at hl 0 rfl) ?_
  refine lv_iconst (v := 1) hx hb dL_law_592 (by decide) ?_
  refine lv_iadd hx hb dL_law_593 ?_
  refine lv_topi (fun v5 ev5 => ?_)
  refine va_sld hx hb hSc hbl hbA g.2.1 (h_ix hi0 hi8 hL ev5 (k := 1) (by decide) (by decide) (by decide)) dL_law_594 ?_
  refine xw_i (v := v2) (by rw [show v5 = v1 from ev5.trans ev1.symm]; exact ev2.symm) ?_
  have hIo := hI
  refine va_calli (va_runV (As := [.int v2]) (rest := []) ⟨hx, hb, hml, hown, hts⟩ (tX12_waiveB l E X A z I4 L0 mo tmo v2 (v2.toInt) rfl (R_gb.bs hR gI tcp tmo ger)) (cwV 1 hts gL_law_X12_waive rfl rfl rfl (by decide +kernel) ⟨Nat.le_of_ble_eq_true rfl, Nat.le_of_ble_eq_true rfl⟩) ⟨h_blind _ _ _ _ _ _ _, h_recv g tmo (by decide) so_13 (q := (RX12, TX12, 51)) rfl, h_pre _ hE hk hX hA hI hR g⟩ rfl rfl hl.1 rfl (lv_room (Nat.le_of_ble_eq_true rfl)) dL_law_595 ⟨show cells + 0 ≤ 600000 by omega, show slots + 0 ≤ 7302250 by omega⟩) g.2.1 (fun q _ h => h) (fun q h => h) (fun rh7 I8 t H1 locs ht hvm h7 hB hz1 hk1 hS => ?_)
  obtain ⟨hI, fh7, h7⟩ := h7
  replace J1 : h_J1 (I8 lw) := by rw [show I8 lw = I4 lw from funext (fun k => fh7.at tlw rfl)]; exact J1
  rw [← fh7.at tmo rfl, show I4 tb = I8 tb from funext (fun k => (fh7.at ttb rfl).symm)] at J2
  have oR_al := R_al
  have oR_tp := R_tp
  have oR_ck := R_ck
  have oR_fa := R_fa
  have oR_bk := R_bk
  have oR_dr := R_dr
  have oR_tb := R_tb
  have oR_gb := R_gb
  skip
  replace R_tp : I8 tp 1 = I8 mo 1 ∧ I8 bt = I8 mb := by rw [show I8 tp 1 = I4 tp 1 from fh7.at ttp rfl, show I8 mo 1 = I4 mo 1 from fh7.at tmo rfl, show I8 bt = I4 bt from funext (fun k => fh7.at tbt rfl), show I8 mb = I4 mb from funext (fun k => fh7.at tmb rfl)]; exact R_tp
  replace R_ck : I8 bk 3 = I8 mo 12 := by rw [show I8 bk 3 = I4 bk 3 from fh7.at tbk rfl, show I8 mo 12 = I4 mo 12 from fh7.at tmo rfl]; exact R_ck
  replace R_fa : I8 rd 2 = I8 mo 8 ∧ I8 rd 3 = I8 mo 9 := by rw [show I8 rd 2 = I4 rd 2 from fh7.at trd rfl, show I8 rd 3 = I4 rd 3 from fh7.at trd rfl, show I8 mo 8 = I4 mo 8 from fh7.at tmo rfl, show I8 mo 9 = I4 mo 9 from fh7.at tmo rfl]; exact R_fa
  replace R_bk : h_bk z I8 tx un lw hy := R_bk.F hR ttx tun tlw thy fh7 (fun _ => rfl) (fun _ => rfl) (fun _ => rfl) (fun _ => rfl) (fun _ => rfl)
  replace R_dr : (I8 dr (I8 mo 12).toInt.toNat).toInt = (I8 mo 31).toInt ∧ ∀ k : Nat, (I8 mo 12).toInt < (k : Int) → I8 dr k = 0 := by rw [show I8 dr = I4 dr from funext (fun k => fh7.at tdr rfl), show I8 mo 12 = I4 mo 12 from fh7.at tmo rfl, show I8 mo 31 = I4 mo 31 from fh7.at tmo rfl]; exact R_dr
  replace R_tb : I8 dt 1 = I8 mo 30 := by rw [show I8 dt 1 = I4 dt 1 from fh7.at tdt rfl, show I8 mo 30 = I4 mo 30 from fh7.at tmo rfl]; exact R_tb
  obtain ⟨same, Rn⟩ := g_waive2 R_gb hU hR gI tcp tmo gck gP gF h7 fh7
  replace R_gb := Rn
  replace g := h_after g hB ht hS
  generalize H1 = H at g
  clear hB hk1 hz1 ht hvm hS
  refine lv_pop hx hb dL_law_598 rfl ?_
  refine lv_goto (tgt := 1241) hx hb dL_law_599 (by decide) ?_
  exact W.widen (by omega) (by omega) (kk z I8 L0 _ _ _ ⟨g, hI, hR, tcp, tmo, by rw [alw]; exact J1, by unfold h_J2; rw [atb]; exact J2, hU, by rw [ard, atp, abk, alb, abg, atu, arg]; exact R_al, by rw [atp, abt, amb]; exact R_tp, by rw [abk]; exact R_ck, by rw [ard]; exact R_fa, by rw [alb, atx, aun, alw, ahy]; exact R_bk, by rw [adt, adr]; exact R_dr, by rw [adt]; exact R_tb, by exact R_gb⟩ hl)
set_option maxHeartbeats 8000000 in
set_option maxRecDepth 100000 in
theorem law_10 {p : Program} {l : Launch} {e : Env} {s : State} {m : MethodId} {below : List Frame} {meth : Method} {c : Code} {b L : Nat} {xs : Nat → Int32} (C0 : lw_At p s m meth c b L xs) (hL : L ≤ 4096) {A : Nat → Prop} (hAe : (fun q : Nat => s.heap.size ≤ q) = A) {E : tE} {X : tX} (hk : h_Kr X s) (hX : h_S X A s s.heap) {i : Int32} (hi0 : 0 ≤ i.toInt) (hi8 : i.toInt + 8 ≤ L) {cp mo : Nat} {cells slots : Nat} (hcl : cells ≤ 500000) (hsl : slots ≤ 7000000) {z : tZ} {I0 : tI} {L0 : tL} {H : Heap} {locs : List Loc} {ls : Array Slot} (T : h_T E A s z I0 L0 H locs cp mo) (hl : lv_has ls 4 [(3, .int i), (2, .ref mo), (1, .ref cp), (0, .ref b)]) (kk : ∀ (z : tZ) (I0 : tI) (L0 : tL) (H : Heap) (locs : List Loc) (ls : Array Slot), h_T E A s z I0 L0 H locs cp mo → lv_has ls 4 [(3, .int i), (2, .ref mo), (1, .ref cp), (0, .ref b)] → W p l e room_1 s m #[Value.ref b] below meth c H locs (cells + 3) (slots + 17) (lw_Z below #[Value.ref b] s) (F0 m 1241 ls [])) : W p l e room_1 s m #[Value.ref b] below meth c H locs cells slots (lw_Z below #[Value.ref b] s) (F0 m 602 ls []) := by
  obtain ⟨hx, hb, hr, hml, hown, hts0, hSc, hbl, hlocks, hgv⟩ := id C0
  have hE := xs_E hts0
  have hts : ∀ w ∈ wsL_law, w.before #[Value.ref b] s = true := fun w h => hts0 w (wsL_law_in w h)
  have hA : ∀ q : Nat, s.heap.size ≤ q → A q := fun q h => by rw [← hAe]; exact h
  have hbA : ¬ A b := by rw [← hAe]; exact Nat.not_le.mpr hbl
  obtain ⟨g, hI, hR, tcp, tmo, J1, J2, hU, R_al, R_tp, R_ck, R_fa, R_bk, R_dr, R_tb, R_gb⟩ := T
  unfold h_J2 at J2
  obtain ⟨lw, rlw, tlw⟩ := hR.at mo 10 tmo (rfl : h_rs 13 10 = some (1310, false)) (by decide)
  have alw : h_ad z mo 10 = lw := h_ad.at rlw
  obtain ⟨tb, rtb, ttb⟩ := hR.at mo 32 tmo (rfl : h_rs 13 32 = some (1332, false)) (by decide)
  have atb : h_ad z mo 32 = tb := h_ad.at rtb
  obtain ⟨rd, rrd, trd⟩ := hR.at cp 2 tcp (rfl : h_rs 12 2 = some (5, false)) (by decide)
  have ard : h_ad z cp 2 = rd := h_ad.at rrd
  obtain ⟨tp, rtp, ttp⟩ := hR.at cp 0 tcp (rfl : h_rs 12 0 = some (9, false)) (by decide)
  have atp : h_ad z cp 0 = tp := h_ad.at rtp
  obtain ⟨bk, rbk, tbk⟩ := hR.at cp 3 tcp (rfl : h_rs 12 3 = some (1, false)) (by decide)
  have abk : h_ad z cp 3 = bk := h_ad.at rbk
  obtain ⟨lb, rlb, tlb⟩ := hR.at cp 1 tcp (rfl : h_rs 12 1 = some (4, false)) (by decide)
  have alb : h_ad z cp 1 = lb := h_ad.at rlb
  obtain ⟨bg, rbg, tbg⟩ := hR.at cp 5 tcp (rfl : h_rs 12 5 = some (10, false)) (by decide)
  have abg : h_ad z cp 5 = bg := h_ad.at rbg
  obtain ⟨tu, rtu, ttu⟩ := hR.at cp 4 tcp (rfl : h_rs 12 4 = some (11, false)) (by decide)
  have atu : h_ad z cp 4 = tu := h_ad.at rtu
  obtain ⟨rg, rrg, trg⟩ := hR.at cp 6 tcp (rfl : h_rs 12 6 = some (8, false)) (by decide)
  have arg : h_ad z cp 6 = rg := h_ad.at rrg
  obtain ⟨bt, rbt, tbt⟩ := hR.at tp 0 ttp (rfl : h_rs 9 0 = some (900, false)) (by decide)
  have abt : h_ad z tp 0 = bt := h_ad.at rbt
  obtain ⟨mb, rmb, tmb⟩ := hR.at mo 0 tmo (rfl : h_rs 13 0 = some (1300, false)) (by decide)
  have amb : h_ad z mo 0 = mb := h_ad.at rmb
  obtain ⟨tx, rtx, ttx⟩ := hR.at lb 1 tlb (rfl : h_rs 4 1 = some (401, false)) (by decide)
  have atx : h_ad z lb 1 = tx := h_ad.at rtx
  obtain ⟨un, run, tun⟩ := hR.at lb 0 tlb (rfl : h_rs 4 0 = some (6, false)) (by decide)
  have aun : h_ad z lb 0 = un := h_ad.at run
  obtain ⟨hy, rhy, thy⟩ := hR.at mo 11 tmo (rfl : h_rs 13 11 = some (1311, false)) (by decide)
  have ahy : h_ad z mo 11 = hy := h_ad.at rhy
  obtain ⟨dt, rdt, tdt⟩ := hR.at cp 7 tcp (rfl : h_rs 12 7 = some (3, false)) (by decide)
  have adt : h_ad z cp 7 = dt := h_ad.at rdt
  obtain ⟨dr, rdr, tdr⟩ := hR.at dt 2 tdt (rfl : h_rs 3 2 = some (302, false)) (by decide)
  have adr : h_ad z dt 2 = dr := h_ad.at rdr
  obtain ⟨rl, rrl, trl⟩ := hR.at rd 1 trd (rfl : h_rs 5 1 = some (6, false)) (by decide)
  have arl : h_ad z rd 1 = rl := h_ad.at rrl
  obtain ⟨rn, rrn, trn⟩ := hR.at rl 0 trl (rfl : h_rs 6 0 = some (600, false)) (by decide)
  have arn : h_ad z rl 0 = rn := h_ad.at rrn
  obtain ⟨ro, rro, tro⟩ := hR.at rl 1 trl (rfl : h_rs 6 1 = some (601, false)) (by decide)
  have aro : h_ad z rl 1 = ro := h_ad.at rro
  obtain ⟨rk, rrk, trk⟩ := hR.at dt 0 tdt (rfl : h_rs 3 0 = some (300, false)) (by decide)
  have ark : h_ad z dt 0 = rk := h_ad.at rrk
  rw [alw] at J1
  rw [atb] at J2
  rw [ard, atp, abk, alb, abg, atu, arg] at R_al
  rw [atp, abt, amb] at R_tp
  rw [abk] at R_ck
  rw [ard] at R_fa
  rw [alb, atx, aun, alw, ahy] at R_bk
  rw [adt, adr] at R_dr
  rw [adt] at R_tb
  refine lv_aload_n hx hb dL_law_602 rfl (lv_at hl 2 rfl) ?_
  refine lv_aload_n hx hb dL_law_603 rfl (lv_at hl 3 rfl) ?_
  refine lv_iload_n hx hb dL_law_604 rfl (lv_at hl 0 rfl) ?_
  refine lv_iconst (v := 1) hx hb dL_law_605 (by decide) ?_
  refine lv_iadd hx hb dL_law_606 ?_
  refine lv_topi (fun v1 ev1 => ?_)
  refine va_sld hx hb hSc hbl hbA g.2.1 (h_ix hi0 hi8 hL ev1 (k := 1) (by decide) (by decide) (by decide)) dL_law_607 ?_
  refine lv_topi (fun v2 ev2 => ?_)
  refine lv_aload_n hx hb dL_law_608 rfl (lv_at hl 3 rfl) ?_
  refine lv_iload_n hx hb dL_law_609 rfl (lv_at hl 0 rfl) ?_
  refine lv_iconst (v := 2) hx hb dL_law_610 (by decide) ?_
  refine lv_iadd hx hb dL_law_611 ?_
  refine lv_topi (fun v3 ev3 => ?_)
  refine va_sld hx hb hSc hbl hbA g.2.1 (h_ix hi0 hi8 hL ev3 (k := 2) (by decide) (by decide) (by decide)) dL_law_612 ?_
  refine lv_topi (fun v4 ev4 => ?_)
  refine h_nez hx hb dL_law_613 dL_law_616 dL_law_617 dL_law_620 (fun v5 ev5 jv5 => ?_)
  have hIo := hI
  refine va_calli (va_runV (As := [.int v2, .int v5]) (rest := []) ⟨hx, hb, hml, hown, hts⟩ (tX11_hurtB l E X A z I0 L0 cp tcp v2 (v2.toInt) rfl v5 (v5.toInt) rfl (by omega) R_gb.nn) (cwV 2 hts gL_law_X11_hurt rfl rfl rfl (by decide +kernel) ⟨Nat.le_of_ble_eq_true rfl, Nat.le_of_ble_eq_true rfl⟩) ⟨h_blind _ _ _ _ _ _ _, h_recv g tcp (by decide) so_12 (q := (RX11, TX11, 8)) rfl, h_pre _ hE hk hX hA hI hR g⟩ rfl rfl hl.1 rfl (lv_room (Nat.le_of_ble_eq_true rfl)) dL_law_621 ⟨show cells + 0 ≤ 600000 by omega, show slots + 0 ≤ 7302250 by omega⟩) g.2.1 (fun q _ h => h) (fun q h => h) (fun rh6 I7 t H1 locs ht hvm h6 hB hz1 hk1 hS => ?_)
  obtain ⟨hI, fh6, h6⟩ := h6
  replace J1 : h_J1 (I7 lw) := by rw [show I7 lw = I0 lw from funext (fun k => fh6.at tlw rfl)]; exact J1
  rw [← fh6.at tmo rfl, show I0 tb = I7 tb from funext (fun k => (fh6.at ttb rfl).symm)] at J2
  have oR_al := R_al
  have oR_tp := R_tp
  have oR_ck := R_ck
  have oR_fa := R_fa
  have oR_bk := R_bk
  have oR_dr := R_dr
  have oR_tb := R_tb
  have oR_gb := R_gb
  skip
  replace R_tp : I7 tp 1 = I7 mo 1 ∧ I7 bt = I7 mb := by rw [show I7 tp 1 = I0 tp 1 from fh6.at ttp rfl, show I7 mo 1 = I0 mo 1 from fh6.at tmo rfl, show I7 bt = I0 bt from funext (fun k => fh6.at tbt rfl), show I7 mb = I0 mb from funext (fun k => fh6.at tmb rfl)]; exact R_tp
  replace R_ck : I7 bk 3 = I7 mo 12 := by rw [show I7 bk 3 = I0 bk 3 from fh6.at tbk rfl, show I7 mo 12 = I0 mo 12 from fh6.at tmo rfl]; exact R_ck
  replace R_fa : I7 rd 2 = I7 mo 8 ∧ I7 rd 3 = I7 mo 9 := by rw [show I7 rd 2 = I0 rd 2 from fh6.at trd rfl, show I7 rd 3 = I0 rd 3 from fh6.at trd rfl, show I7 mo 8 = I0 mo 8 from fh6.at tmo rfl, show I7 mo 9 = I0 mo 9 from fh6.at tmo rfl]; exact R_fa
  replace R_bk : h_bk z I7 tx un lw hy := R_bk.F hR ttx tun tlw thy fh6 (fun _ => rfl) (fun _ => rfl) (fun _ => rfl) (fun _ => rfl) (fun _ => rfl)
  replace R_dr : (I7 dr (I7 mo 12).toInt.toNat).toInt = (I7 mo 31).toInt ∧ ∀ k : Nat, (I7 mo 12).toInt < (k : Int) → I7 dr k = 0 := by rw [show I7 dr = I0 dr from funext (fun k => fh6.at tdr rfl), show I7 mo 12 = I0 mo 12 from fh6.at tmo rfl, show I7 mo 31 = I0 mo 31 from fh6.at tmo rfl]; exact R_dr
  replace R_tb : I7 dt 1 = I7 mo 30 := by rw [show I7 dt 1 = I0 dt 1 from fh6.at tdt rfl, show I7 mo 30 = I0 mo 30 from fh6.at tmo rfl]; exact R_tb
  have gck : I0 (h_ad z cp 3) 3 = I0 mo 12 := by rw [abk]; exact oR_ck
  have gI := hIo
  have gP := h6
  have gF := fh6
  have ger : h_er z I0 I7 := fun a h9 => fh6.ref (by decide) rfl h9
  replace g := h_after g hB ht hS
  generalize H1 = H at g
  clear hB hk1 hz1 ht hvm hS
  refine lv_pop hx hb dL_law_624 rfl ?_
  refine lv_aload_n hx hb dL_law_625 rfl (lv_at hl 1 rfl) ?_
  refine lv_aload_n hx hb dL_law_626 rfl (lv_at hl 3 rfl) ?_
  refine lv_iload_n hx hb dL_law_627 rfl (lv_at hl 0 rfl) ?_
  refine lv_iconst (v := 1) hx hb dL_law_628 (by decide) ?_
  refine lv_iadd hx hb dL_law_629 ?_
  refine lv_topi (fun v8 ev8 => ?_)
  refine va_sld hx hb hSc hbl hbA g.2.1 (h_ix hi0 hi8 hL ev8 (k := 1) (by decide) (by decide) (by decide)) dL_law_630 ?_
  refine xw_i (v := v2) (by rw [show v8 = v1 from ev8.trans ev1.symm]; exact ev2.symm) ?_
  refine lv_aload_n hx hb dL_law_631 rfl (lv_at hl 3 rfl) ?_
  refine lv_iload_n hx hb dL_law_632 rfl (lv_at hl 0 rfl) ?_
  refine lv_iconst (v := 2) hx hb dL_law_633 (by decide) ?_
  refine lv_iadd hx hb dL_law_634 ?_
  refine lv_topi (fun v10 ev10 => ?_)
  refine va_sld hx hb hSc hbl hbA g.2.1 (h_ix hi0 hi8 hL ev10 (k := 2) (by decide) (by decide) (by decide)) dL_law_635 ?_
  refine xw_i (v := v4) (by rw [show v10 = v3 from ev10.trans ev3.symm]; exact ev4.symm) ?_
  refine h_nez hx hb dL_law_636 dL_law_639 dL_law_640 dL_law_643 (fun v12 ev12 jv12 => ?_)
  rw [show v12 = v5 from ev12.trans ev5.symm]
  have hIo := hI
  refine va_calli (va_runV (As := [.int v2, .int v5]) (rest := []) ⟨hx, hb, hml, hown, hts⟩ (tX12_hurtB l E X A z I7 L0 mo tmo v2 (v2.toInt) rfl v5 (v5.toInt) rfl (by omega)) (cwV 2 hts gL_law_X12_hurt rfl rfl rfl (by decide +kernel) ⟨Nat.le_of_ble_eq_true rfl, Nat.le_of_ble_eq_true rfl⟩) ⟨h_blind _ _ _ _ _ _ _, h_recv g tmo (by decide) so_13 (q := (RX12, TX12, 51)) rfl, h_pre _ hE hk hX hA hI hR g⟩ rfl rfl hl.1 rfl (lv_room (Nat.le_of_ble_eq_true rfl)) dL_law_644 ⟨show cells + 0 ≤ 600000 by omega, show slots + 0 ≤ 7302250 by omega⟩) g.2.1 (fun q _ h => h) (fun q h => h) (fun rh13 I14 t H1 locs ht hvm h13 hB hz1 hk1 hS => ?_)
  obtain ⟨hI, fh13, h13⟩ := h13
  replace J1 : h_J1 (I14 lw) := by rw [show I14 lw = I7 lw from funext (fun k => fh13.at tlw rfl)]; exact J1
  rw [← fh13.at tmo rfl, show I7 tb = I14 tb from funext (fun k => (fh13.at ttb rfl).symm)] at J2
  have oR_al := R_al
  have oR_tp := R_tp
  have oR_ck := R_ck
  have oR_fa := R_fa
  have oR_bk := R_bk
  have oR_dr := R_dr
  have oR_tb := R_tb
  have oR_gb := R_gb
  skip
  replace R_tp : I14 tp 1 = I14 mo 1 ∧ I14 bt = I14 mb := by rw [show I14 tp 1 = I7 tp 1 from fh13.at ttp rfl, show I14 mo 1 = I7 mo 1 from fh13.at tmo rfl, show I14 bt = I7 bt from funext (fun k => fh13.at tbt rfl), show I14 mb = I7 mb from funext (fun k => fh13.at tmb rfl)]; exact R_tp
  replace R_ck : I14 bk 3 = I14 mo 12 := by rw [show I14 bk 3 = I7 bk 3 from fh13.at tbk rfl, show I14 mo 12 = I7 mo 12 from fh13.at tmo rfl]; exact R_ck
  replace R_fa : I14 rd 2 = I14 mo 8 ∧ I14 rd 3 = I14 mo 9 := by rw [show I14 rd 2 = I7 rd 2 from fh13.at trd rfl, show I14 rd 3 = I7 rd 3 from fh13.at trd rfl, show I14 mo 8 = I7 mo 8 from fh13.at tmo rfl, show I14 mo 9 = I7 mo 9 from fh13.at tmo rfl]; exact R_fa
  replace R_bk : h_bk z I14 tx un lw hy := R_bk.F hR ttx tun tlw thy fh13 (fun _ => rfl) (fun _ => rfl) (fun _ => rfl) (fun _ => rfl) (fun _ => rfl)
  replace R_dr : (I14 dr (I14 mo 12).toInt.toNat).toInt = (I14 mo 31).toInt ∧ ∀ k : Nat, (I14 mo 12).toInt < (k : Int) → I14 dr k = 0 := by rw [show I14 dr = I7 dr from funext (fun k => fh13.at tdr rfl), show I14 mo 12 = I7 mo 12 from fh13.at tmo rfl, show I14 mo 31 = I7 mo 31 from fh13.at tmo rfl]; exact R_dr
  replace R_tb : I14 dt 1 = I14 mo 30 := by rw [show I14 dt 1 = I7 dt 1 from fh13.at tdt rfl, show I14 mo 30 = I7 mo 30 from fh13.at tmo rfl]; exact R_tb
  obtain ⟨same, Rn⟩ := g_hurt2 R_gb hU hR gI tcp tmo gck rfl gP gF h13 fh13
  replace R_gb := Rn
  replace g := h_after g hB ht hS
  generalize H1 = H at g
  clear hB hk1 hz1 ht hvm hS
  refine lv_pop hx hb dL_law_647 rfl ?_
  refine lv_goto (tgt := 1241) hx hb dL_law_648 (by decide) ?_
  exact W.widen (by omega) (by omega) (kk z I14 L0 _ _ _ ⟨g, hI, hR, tcp, tmo, by rw [alw]; exact J1, by unfold h_J2; rw [atb]; exact J2, hU, by rw [ard, atp, abk, alb, abg, atu, arg]; exact R_al, by rw [atp, abt, amb]; exact R_tp, by rw [abk]; exact R_ck, by rw [ard]; exact R_fa, by rw [alb, atx, aun, alw, ahy]; exact R_bk, by rw [adt, adr]; exact R_dr, by rw [adt]; exact R_tb, by exact R_gb⟩ hl)
set_option maxHeartbeats 8000000 in
set_option maxRecDepth 100000 in
theorem law_11 {p : Program} {l : Launch} {e : Env} {s : State} {m : MethodId} {below : List Frame} {meth : Method} {c : Code} {b L : Nat} {xs : Nat → Int32} (C0 : lw_At p s m meth c b L xs) (hL : L ≤ 4096) {A : Nat → Prop} (hAe : (fun q : Nat => s.heap.size ≤ q) = A) {E : tE} {X : tX} (hk : h_Kr X s) (hX : h_S X A s s.heap) {i : Int32} (hi0 : 0 ≤ i.toInt) (hi8 : i.toInt + 8 ≤ L) {cp mo : Nat} {cells slots : Nat} (hcl : cells ≤ 500000) (hsl : slots ≤ 7000000) {z : tZ} {I0 : tI} {L0 : tL} {H : Heap} {locs : List Loc} {ls : Array Slot} (T : h_T E A s z I0 L0 H locs cp mo) (hl : lv_has ls 4 [(3, .int i), (2, .ref mo), (1, .ref cp), (0, .ref b)]) (kk : ∀ (z : tZ) (I0 : tI) (L0 : tL) (H : Heap) (locs : List Loc) (ls : Array Slot), h_T E A s z I0 L0 H locs cp mo → lv_has ls 4 [(3, .int i), (2, .ref mo), (1, .ref cp), (0, .ref b)] → W p l e room_1 s m #[Value.ref b] below meth c H locs (cells + 3) (slots + 17) (lw_Z below #[Value.ref b] s) (F0 m 1241 ls [])) : W p l e room_1 s m #[Value.ref b] below meth c H locs cells slots (lw_Z below #[Value.ref b] s) (F0 m 651 ls []) := by
  obtain ⟨hx, hb, hr, hml, hown, hts0, hSc, hbl, hlocks, hgv⟩ := id C0
  have hE := xs_E hts0
  have hts : ∀ w ∈ wsL_law, w.before #[Value.ref b] s = true := fun w h => hts0 w (wsL_law_in w h)
  have hA : ∀ q : Nat, s.heap.size ≤ q → A q := fun q h => by rw [← hAe]; exact h
  have hbA : ¬ A b := by rw [← hAe]; exact Nat.not_le.mpr hbl
  obtain ⟨g, hI, hR, tcp, tmo, J1, J2, hU, R_al, R_tp, R_ck, R_fa, R_bk, R_dr, R_tb, R_gb⟩ := T
  unfold h_J2 at J2
  obtain ⟨lw, rlw, tlw⟩ := hR.at mo 10 tmo (rfl : h_rs 13 10 = some (1310, false)) (by decide)
  have alw : h_ad z mo 10 = lw := h_ad.at rlw
  obtain ⟨tb, rtb, ttb⟩ := hR.at mo 32 tmo (rfl : h_rs 13 32 = some (1332, false)) (by decide)
  have atb : h_ad z mo 32 = tb := h_ad.at rtb
  obtain ⟨rd, rrd, trd⟩ := hR.at cp 2 tcp (rfl : h_rs 12 2 = some (5, false)) (by decide)
  have ard : h_ad z cp 2 = rd := h_ad.at rrd
  obtain ⟨tp, rtp, ttp⟩ := hR.at cp 0 tcp (rfl : h_rs 12 0 = some (9, false)) (by decide)
  have atp : h_ad z cp 0 = tp := h_ad.at rtp
  obtain ⟨bk, rbk, tbk⟩ := hR.at cp 3 tcp (rfl : h_rs 12 3 = some (1, false)) (by decide)
  have abk : h_ad z cp 3 = bk := h_ad.at rbk
  obtain ⟨lb, rlb, tlb⟩ := hR.at cp 1 tcp (rfl : h_rs 12 1 = some (4, false)) (by decide)
  have alb : h_ad z cp 1 = lb := h_ad.at rlb
  obtain ⟨bg, rbg, tbg⟩ := hR.at cp 5 tcp (rfl : h_rs 12 5 = some (10, false)) (by decide)
  have abg : h_ad z cp 5 = bg := h_ad.at rbg
  obtain ⟨tu, rtu, ttu⟩ := hR.at cp 4 tcp (rfl : h_rs 12 4 = some (11, false)) (by decide)
  have atu : h_ad z cp 4 = tu := h_ad.at rtu
  obtain ⟨rg, rrg, trg⟩ := hR.at cp 6 tcp (rfl : h_rs 12 6 = some (8, false)) (by decide)
  have arg : h_ad z cp 6 = rg := h_ad.at rrg
  obtain ⟨bt, rbt, tbt⟩ := hR.at tp 0 ttp (rfl : h_rs 9 0 = some (900, false)) (by decide)
  have abt : h_ad z tp 0 = bt := h_ad.at rbt
  obtain ⟨mb, rmb, tmb⟩ := hR.at mo 0 tmo (rfl : h_rs 13 0 = some (1300, false)) (by decide)
  have amb : h_ad z mo 0 = mb := h_ad.at rmb
  obtain ⟨tx, rtx, ttx⟩ := hR.at lb 1 tlb (rfl : h_rs 4 1 = some (401, false)) (by decide)
  have atx : h_ad z lb 1 = tx := h_ad.at rtx
  obtain ⟨un, run, tun⟩ := hR.at lb 0 tlb (rfl : h_rs 4 0 = some (6, false)) (by decide)
  have aun : h_ad z lb 0 = un := h_ad.at run
  obtain ⟨hy, rhy, thy⟩ := hR.at mo 11 tmo (rfl : h_rs 13 11 = some (1311, false)) (by decide)
  have ahy : h_ad z mo 11 = hy := h_ad.at rhy
  obtain ⟨dt, rdt, tdt⟩ := hR.at cp 7 tcp (rfl : h_rs 12 7 = some (3, false)) (by decide)
  have adt : h_ad z cp 7 = dt := h_ad.at rdt
  obtain ⟨dr, rdr, tdr⟩ := hR.at dt 2 tdt (rfl : h_rs 3 2 = some (302, false)) (by decide)
  have adr : h_ad z dt 2 = dr := h_ad.at rdr
  obtain ⟨rl, rrl, trl⟩ := hR.at rd 1 trd (rfl : h_rs 5 1 = some (6, false)) (by decide)
  have arl : h_ad z rd 1 = rl := h_ad.at rrl
  obtain ⟨rn, rrn, trn⟩ := hR.at rl 0 trl (rfl : h_rs 6 0 = some (600, false)) (by decide)
  have arn : h_ad z rl 0 = rn := h_ad.at rrn
  obtain ⟨ro, rro, tro⟩ := hR.at rl 1 trl (rfl : h_rs 6 1 = some (601, false)) (by decide)
  have aro : h_ad z rl 1 = ro := h_ad.at rro
  obtain ⟨rk, rrk, trk⟩ := hR.at dt 0 tdt (rfl : h_rs 3 0 = some (300, false)) (by decide)
  have ark : h_ad z dt 0 = rk := h_ad.at rrk
  rw [alw] at J1
  rw [atb] at J2
  rw [ard, atp, abk, alb, abg, atu, arg] at R_al
  rw [atp, abt, amb] at R_tp
  rw [abk] at R_ck
  rw [ard] at R_fa
  rw [alb, atx, aun, alw, ahy] at R_bk
  rw [adt, adr] at R_dr
  rw [adt] at R_tb
  refine lv_aload_n hx hb dL_law_651 rfl (lv_at hl 2 rfl) ?_
  refine lv_aload_n hx hb dL_law_652 rfl (lv_at hl 3 rfl) ?_
  refine lv_iload_n hx hb dL_law_653 rfl (lv_at hl 0 rfl) ?_
  refine lv_iconst (v := 1) hx hb dL_law_654 (by decide) ?_
  refine lv_iadd hx hb dL_law_655 ?_
  refine lv_topi (fun v1 ev1 => ?_)
  refine va_sld hx hb hSc hbl hbA g.2.1 (h_ix hi0 hi8 hL ev1 (k := 1) (by decide) (by decide) (by decide)) dL_law_656 ?_
  refine lv_topi (fun v2 ev2 => ?_)
  refine lv_aload_n hx hb dL_law_657 rfl (lv_at hl 3 rfl) ?_
  refine lv_iload_n hx hb dL_law_658 rfl (lv_at hl 0 rfl) ?_
  refine lv_iconst (v := 2) hx hb dL_law_659 (by decide) ?_
  refine lv_iadd hx hb dL_law_660 ?_
  refine lv_topi (fun v3 ev3 => ?_)
  refine va_sld hx hb hSc hbl hbA g.2.1 (h_ix hi0 hi8 hL ev3 (k := 2) (by decide) (by decide) (by decide)) dL_law_661 ?_
  refine lv_topi (fun v4 ev4 => ?_)
  refine vp_callSi (W.runV (As := [.int v2, .int v4]) (rest := []) ⟨hx, hb, hml, hown, hts⟩ (tX11_aboutB l E X A z I0 L0 cp tcp v2 (v2.toInt) rfl v4 (v4.toInt) rfl R_gb.nn) (cwV 2 hts gL_law_X11_about rfl rfl rfl (by decide +kernel) ⟨Nat.le_of_ble_eq_true rfl, Nat.le_of_ble_eq_true rfl⟩) ⟨h_blind _ _ _ _ _ _ _, h_recv g tcp (by decide) so_12 (q := (RX11, TX11, 8)) rfl, h_pre _ hE hk hX hA hI hR g⟩ rfl rfl hl.1 rfl (lv_room (Nat.le_of_ble_eq_true rfl)) dL_law_662 ⟨show cells + 0 ≤ 600000 by omega, show slots + 0 ≤ 7302250 by omega⟩) (fun rh5 h5 => ?_)
  have gck : I0 (h_ad z cp 3) 3 = I0 mo 12 := by rw [abk]; exact R_ck
  have gI := hI
  have gP := h5
  have ger : h_er z I0 I0 := h_er.rf
  refine lv_pop hx hb dL_law_665 rfl ?_
  refine lv_aload_n hx hb dL_law_666 rfl (lv_at hl 1 rfl) ?_
  refine lv_aload_n hx hb dL_law_667 rfl (lv_at hl 3 rfl) ?_
  refine lv_iload_n hx hb dL_law_668 rfl (lv_at hl 0 rfl) ?_
  refine lv_iconst (v := 1) hx hb dL_law_669 (by decide) ?_
  refine lv_iadd hx hb dL_law_670 ?_
  refine lv_topi (fun v6 ev6 => ?_)
  refine va_sld hx hb hSc hbl hbA g.2.1 (h_ix hi0 hi8 hL ev6 (k := 1) (by decide) (by decide) (by decide)) dL_law_671 ?_
  refine xw_i (v := v2) (by rw [show v6 = v1 from ev6.trans ev1.symm]; exact ev2.symm) ?_
  refine lv_aload_n hx hb dL_law_672 rfl (lv_at hl 3 rfl) ?_
  refine lv_iload_n hx hb dL_law_673 rfl (lv_at hl 0 rfl) ?_
  refine lv_iconst (v := 2) hx hb dL_law_674 (by decide) ?_
  refine lv_iadd hx hb dL_law_675 ?_
  refine lv_topi (fun v8 ev8 => ?_)
  refine va_sld hx hb hSc hbl hbA g.2.1 (h_ix hi0 hi8 hL ev8 (k := 2) (by decide) (by decide) (by decide)) dL_law_676 ?_
  refine xw_i (v := v4) (by rw [show v8 = v3 from ev8.trans ev3.symm]; exact ev4.symm) ?_
  refine vp_callSi (W.runV (As := [.int v2, .int v4]) (rest := []) ⟨hx, hb, hml, hown, hts⟩ (tX12_aboutB l E X A z I0 L0 mo tmo v2 (v2.toInt) rfl v4 (v4.toInt) rfl) (cwV 2 hts gL_law_X12_about rfl rfl rfl (by decide +kernel) ⟨Nat.le_of_ble_eq_true rfl, Nat.le_of_ble_eq_true rfl⟩) ⟨h_blind _ _ _ _ _ _ _, h_recv g tmo (by decide) so_13 (q := (RX12, TX12, 51)) rfl, h_pre _ hE hk hX hA hI hR g⟩ rfl rfl hl.1 rfl (lv_room (Nat.le_of_ble_eq_true rfl)) dL_law_677 ⟨show cells + 0 ≤ 600000 by omega, show slots + 0 ≤ 7302250 by omega⟩) (fun rh10 h10 => ?_)
  have same := g_about2 R_gb hU hR gI tcp tmo gck gP h10
  refine lv_pop hx hb dL_law_680 rfl ?_
  refine lv_goto (tgt := 1241) hx hb dL_law_681 (by decide) ?_
  exact W.widen (by omega) (by omega) (kk z I0 L0 _ _ _ ⟨g, hI, hR, tcp, tmo, by rw [alw]; exact J1, by unfold h_J2; rw [atb]; exact J2, hU, by rw [ard, atp, abk, alb, abg, atu, arg]; exact R_al, by rw [atp, abt, amb]; exact R_tp, by rw [abk]; exact R_ck, by rw [ard]; exact R_fa, by rw [alb, atx, aun, alw, ahy]; exact R_bk, by rw [adt, adr]; exact R_dr, by rw [adt]; exact R_tb, by exact R_gb⟩ hl)
set_option maxHeartbeats 8000000 in
set_option maxRecDepth 100000 in
theorem law_12 {p : Program} {l : Launch} {e : Env} {s : State} {m : MethodId} {below : List Frame} {meth : Method} {c : Code} {b L : Nat} {xs : Nat → Int32} (C0 : lw_At p s m meth c b L xs) (hL : L ≤ 4096) {A : Nat → Prop} (hAe : (fun q : Nat => s.heap.size ≤ q) = A) {E : tE} {X : tX} (hk : h_Kr X s) (hX : h_S X A s s.heap) {i : Int32} (hi0 : 0 ≤ i.toInt) (hi8 : i.toInt + 8 ≤ L) {cp mo : Nat} {cells slots : Nat} (hcl : cells ≤ 500000) (hsl : slots ≤ 7000000) {z : tZ} {I0 : tI} {L0 : tL} {H : Heap} {locs : List Loc} {ls : Array Slot} (T : h_T E A s z I0 L0 H locs cp mo) (hl : lv_has ls 4 [(3, .int i), (2, .ref mo), (1, .ref cp), (0, .ref b)]) (kk : ∀ (z : tZ) (I0 : tI) (L0 : tL) (H : Heap) (locs : List Loc) (ls : Array Slot), h_T E A s z I0 L0 H locs cp mo → lv_has ls 4 [(3, .int i), (2, .ref mo), (1, .ref cp), (0, .ref b)] → W p l e room_1 s m #[Value.ref b] below meth c H locs (cells + 3) (slots + 17) (lw_Z below #[Value.ref b] s) (F0 m 1241 ls [])) : W p l e room_1 s m #[Value.ref b] below meth c H locs cells slots (lw_Z below #[Value.ref b] s) (F0 m 684 ls []) := by
  obtain ⟨hx, hb, hr, hml, hown, hts0, hSc, hbl, hlocks, hgv⟩ := id C0
  have hE := xs_E hts0
  have hts : ∀ w ∈ wsL_law, w.before #[Value.ref b] s = true := fun w h => hts0 w (wsL_law_in w h)
  have hA : ∀ q : Nat, s.heap.size ≤ q → A q := fun q h => by rw [← hAe]; exact h
  have hbA : ¬ A b := by rw [← hAe]; exact Nat.not_le.mpr hbl
  obtain ⟨g, hI, hR, tcp, tmo, J1, J2, hU, R_al, R_tp, R_ck, R_fa, R_bk, R_dr, R_tb, R_gb⟩ := T
  unfold h_J2 at J2
  obtain ⟨lw, rlw, tlw⟩ := hR.at mo 10 tmo (rfl : h_rs 13 10 = some (1310, false)) (by decide)
  have alw : h_ad z mo 10 = lw := h_ad.at rlw
  obtain ⟨tb, rtb, ttb⟩ := hR.at mo 32 tmo (rfl : h_rs 13 32 = some (1332, false)) (by decide)
  have atb : h_ad z mo 32 = tb := h_ad.at rtb
  obtain ⟨rd, rrd, trd⟩ := hR.at cp 2 tcp (rfl : h_rs 12 2 = some (5, false)) (by decide)
  have ard : h_ad z cp 2 = rd := h_ad.at rrd
  obtain ⟨tp, rtp, ttp⟩ := hR.at cp 0 tcp (rfl : h_rs 12 0 = some (9, false)) (by decide)
  have atp : h_ad z cp 0 = tp := h_ad.at rtp
  obtain ⟨bk, rbk, tbk⟩ := hR.at cp 3 tcp (rfl : h_rs 12 3 = some (1, false)) (by decide)
  have abk : h_ad z cp 3 = bk := h_ad.at rbk
  obtain ⟨lb, rlb, tlb⟩ := hR.at cp 1 tcp (rfl : h_rs 12 1 = some (4, false)) (by decide)
  have alb : h_ad z cp 1 = lb := h_ad.at rlb
  obtain ⟨bg, rbg, tbg⟩ := hR.at cp 5 tcp (rfl : h_rs 12 5 = some (10, false)) (by decide)
  have abg : h_ad z cp 5 = bg := h_ad.at rbg
  obtain ⟨tu, rtu, ttu⟩ := hR.at cp 4 tcp (rfl : h_rs 12 4 = some (11, false)) (by decide)
  have atu : h_ad z cp 4 = tu := h_ad.at rtu
  obtain ⟨rg, rrg, trg⟩ := hR.at cp 6 tcp (rfl : h_rs 12 6 = some (8, false)) (by decide)
  have arg : h_ad z cp 6 = rg := h_ad.at rrg
  obtain ⟨bt, rbt, tbt⟩ := hR.at tp 0 ttp (rfl : h_rs 9 0 = some (900, false)) (by decide)
  have abt : h_ad z tp 0 = bt := h_ad.at rbt
  obtain ⟨mb, rmb, tmb⟩ := hR.at mo 0 tmo (rfl : h_rs 13 0 = some (1300, false)) (by decide)
  have amb : h_ad z mo 0 = mb := h_ad.at rmb
  obtain ⟨tx, rtx, ttx⟩ := hR.at lb 1 tlb (rfl : h_rs 4 1 = some (401, false)) (by decide)
  have atx : h_ad z lb 1 = tx := h_ad.at rtx
  obtain ⟨un, run, tun⟩ := hR.at lb 0 tlb (rfl : h_rs 4 0 = some (6, false)) (by decide)
  have aun : h_ad z lb 0 = un := h_ad.at run
  obtain ⟨hy, rhy, thy⟩ := hR.at mo 11 tmo (rfl : h_rs 13 11 = some (1311, false)) (by decide)
  have ahy : h_ad z mo 11 = hy := h_ad.at rhy
  obtain ⟨dt, rdt, tdt⟩ := hR.at cp 7 tcp (rfl : h_rs 12 7 = some (3, false)) (by decide)
  have adt : h_ad z cp 7 = dt := h_ad.at rdt
  obtain ⟨dr, rdr, tdr⟩ := hR.at dt 2 tdt (rfl : h_rs 3 2 = some (302, false)) (by decide)
  have adr : h_ad z dt 2 = dr := h_ad.at rdr
  obtain ⟨rl, rrl, trl⟩ := hR.at rd 1 trd (rfl : h_rs 5 1 = some (6, false)) (by decide)
  have arl : h_ad z rd 1 = rl := h_ad.at rrl
  obtain ⟨rn, rrn, trn⟩ := hR.at rl 0 trl (rfl : h_rs 6 0 = some (600, false)) (by decide)
  have arn : h_ad z rl 0 = rn := h_ad.at rrn
  obtain ⟨ro, rro, tro⟩ := hR.at rl 1 trl (rfl : h_rs 6 1 = some (601, false)) (by decide)
  have aro : h_ad z rl 1 = ro := h_ad.at rro
  obtain ⟨rk, rrk, trk⟩ := hR.at dt 0 tdt (rfl : h_rs 3 0 = some (300, false)) (by decide)
  have ark : h_ad z dt 0 = rk := h_ad.at rrk
  rw [alw] at J1
  rw [atb] at J2
  rw [ard, atp, abk, alb, abg, atu, arg] at R_al
  rw [atp, abt, amb] at R_tp
  rw [abk] at R_ck
  rw [ard] at R_fa
  rw [alb, atx, aun, alw, ahy] at R_bk
  rw [adt, adr] at R_dr
  rw [adt] at R_tb
  refine lv_aload_n hx hb dL_law_684 rfl (lv_at hl 2 rfl) ?_
  refine lv_aload_n hx hb dL_law_685 rfl (lv_at hl 3 rfl) ?_
  refine lv_iload_n hx hb dL_law_686 rfl (lv_at hl 0 rfl) ?_
  refine lv_iconst (v := 1) hx hb dL_law_687 (by decide) ?_
  refine lv_iadd hx hb dL_law_688 ?_
  refine lv_topi (fun v1 ev1 => ?_)
  refine va_sld hx hb hSc hbl hbA g.2.1 (h_ix hi0 hi8 hL ev1 (k := 1) (by decide) (by decide) (by decide)) dL_law_689 ?_
  refine lv_topi (fun v2 ev2 => ?_)
  refine lv_aload_n hx hb dL_law_690 rfl (lv_at hl 3 rfl) ?_
  refine lv_iload_n hx hb dL_law_691 rfl (lv_at hl 0 rfl) ?_
  refine lv_iconst (v := 2) hx hb dL_law_692 (by decide) ?_
  refine lv_iadd hx hb dL_law_693 ?_
  refine lv_topi (fun v3 ev3 => ?_)
  refine va_sld hx hb hSc hbl hbA g.2.1 (h_ix hi0 hi8 hL ev3 (k := 2) (by decide) (by decide) (by decide)) dL_law_694 ?_
  refine lv_topi (fun v4 ev4 => ?_)
  refine lv_aload_n hx hb dL_law_695 rfl (lv_at hl 3 rfl) ?_
  refine lv_iload_n hx hb dL_law_696 rfl (lv_at hl 0 rfl) ?_
  refine lv_iconst (v := 3) hx hb dL_law_697 (by decide) ?_
  refine lv_iadd hx hb dL_law_698 ?_
  refine lv_topi (fun v5 ev5 => ?_)
  refine va_sld hx hb hSc hbl hbA g.2.1 (h_ix hi0 hi8 hL ev5 (k := 3) (by decide) (by decide) (by decide)) dL_law_699 ?_
  refine lv_topi (fun v6 ev6 => ?_)
  have y0 := hI.rd mo 12 tmo rfl (rfl : h_bd 13 12 = (0, 9))
  obtain ⟨u_, hok, hr, hcl⟩ := R_bk.get (I0 mo 12).toInt y0.1 y0.2
  have hr2 : h_r12 (I0 (h_ad z mo 11)) (I0 (h_ad z mo 10)) (I0 mo 12).toInt u_ := by rw [ahy, alw]; exact hr
  have hob := R_gb.ob hr2
  have hcl2 : ∀ b : Nat, h_of (z.R (h_ad z (h_ad z (h_ad z cp 3) 0) 1)) (h_ad z (h_ad z (h_ad z cp 3) 0) 0) (I0 (h_ad z cp 3) 3).toInt b → h_lw I0 b (h_ad z b 0) (h_ad z b 1) u_ := by rw [abk, h_ad.at R_al.2.1, aun, atx, R_ck]; exact hcl
  refine vp_callSi (W.runV (As := [.int v2, .int v4, .int v6]) (rest := []) ⟨hx, hb, hml, hown, hts⟩ (tX11_clubB l E X A z I0 L0 cp tcp v2 (v2.toInt) rfl v4 (v4.toInt) rfl v6 (v6.toInt) rfl u_ hcl2 hob R_gb.nn) (cwV 3 hts gL_law_X11_club rfl rfl rfl (by decide +kernel) ⟨Nat.le_of_ble_eq_true rfl, Nat.le_of_ble_eq_true rfl⟩) ⟨h_blind _ _ _ _ _ _ _, h_recv g tcp (by decide) so_12 (q := (RX11, TX11, 8)) rfl, h_pre _ hE hk hX hA hI hR g⟩ rfl rfl hl.1 rfl (lv_room (Nat.le_of_ble_eq_true rfl)) dL_law_700 ⟨show cells + 0 ≤ 600000 by omega, show slots + 0 ≤ 7302250 by omega⟩) (fun rh7 h7 => ?_)
  have gck : I0 (h_ad z cp 3) 3 = I0 mo 12 := by rw [abk]; exact R_ck
  have gI := hI
  have gP := h7
  have ger : h_er z I0 I0 := h_er.rf
  refine lv_pop hx hb dL_law_703 rfl ?_
  refine lv_aload_n hx hb dL_law_704 rfl (lv_at hl 1 rfl) ?_
  refine lv_aload_n hx hb dL_law_705 rfl (lv_at hl 3 rfl) ?_
  refine lv_iload_n hx hb dL_law_706 rfl (lv_at hl 0 rfl) ?_
  refine lv_iconst (v := 1) hx hb dL_law_707 (by decide) ?_
  refine lv_iadd hx hb dL_law_708 ?_
  refine lv_topi (fun v8 ev8 => ?_)
  refine va_sld hx hb hSc hbl hbA g.2.1 (h_ix hi0 hi8 hL ev8 (k := 1) (by decide) (by decide) (by decide)) dL_law_709 ?_
  refine xw_i (v := v2) (by rw [show v8 = v1 from ev8.trans ev1.symm]; exact ev2.symm) ?_
  refine lv_aload_n hx hb dL_law_710 rfl (lv_at hl 3 rfl) ?_
  refine lv_iload_n hx hb dL_law_711 rfl (lv_at hl 0 rfl) ?_
  refine lv_iconst (v := 2) hx hb dL_law_712 (by decide) ?_
  refine lv_iadd hx hb dL_law_713 ?_
  refine lv_topi (fun v10 ev10 => ?_)
  refine va_sld hx hb hSc hbl hbA g.2.1 (h_ix hi0 hi8 hL ev10 (k := 2) (by decide) (by decide) (by decide)) dL_law_714 ?_
  refine xw_i (v := v4) (by rw [show v10 = v3 from ev10.trans ev3.symm]; exact ev4.symm) ?_
  refine lv_aload_n hx hb dL_law_715 rfl (lv_at hl 3 rfl) ?_
  refine lv_iload_n hx hb dL_law_716 rfl (lv_at hl 0 rfl) ?_
  refine lv_iconst (v := 3) hx hb dL_law_717 (by decide) ?_
  refine lv_iadd hx hb dL_law_718 ?_
  refine lv_topi (fun v12 ev12 => ?_)
  refine va_sld hx hb hSc hbl hbA g.2.1 (h_ix hi0 hi8 hL ev12 (k := 3) (by decide) (by decide) (by decide)) dL_law_719 ?_
  refine xw_i (v := v6) (by rw [show v12 = v5 from ev12.trans ev5.symm]; exact ev6.symm) ?_
  refine vp_callSi (W.runV (As := [.int v2, .int v4, .int v6]) (rest := []) ⟨hx, hb, hml, hown, hts⟩ (tX12_clubB l E X A z I0 L0 mo tmo v2 (v2.toInt) rfl v4 (v4.toInt) rfl v6 (v6.toInt) rfl u_ hr2 hob (R_gb.pb hR gI tcp tmo ger _)) (cwV 3 hts gL_law_X12_club rfl rfl rfl (by decide +kernel) ⟨Nat.le_of_ble_eq_true rfl, Nat.le_of_ble_eq_true rfl⟩) ⟨h_blind _ _ _ _ _ _ _, h_recv g tmo (by decide) so_13 (q := (RX12, TX12, 51)) rfl, h_pre _ hE hk hX hA hI hR g⟩ rfl rfl hl.1 rfl (lv_room (Nat.le_of_ble_eq_true rfl)) dL_law_720 ⟨show cells + 0 ≤ 600000 by omega, show slots + 0 ≤ 7302250 by omega⟩) (fun rh14 h14 => ?_)
  have same := g_club2 R_gb hU hR gI tcp tmo gck rfl gP h14
  refine lv_pop hx hb dL_law_723 rfl ?_
  refine lv_goto (tgt := 1241) hx hb dL_law_724 (by decide) ?_
  exact W.widen (by omega) (by omega) (kk z I0 L0 _ _ _ ⟨g, hI, hR, tcp, tmo, by rw [alw]; exact J1, by unfold h_J2; rw [atb]; exact J2, hU, by rw [ard, atp, abk, alb, abg, atu, arg]; exact R_al, by rw [atp, abt, amb]; exact R_tp, by rw [abk]; exact R_ck, by rw [ard]; exact R_fa, by rw [alb, atx, aun, alw, ahy]; exact R_bk, by rw [adt, adr]; exact R_dr, by rw [adt]; exact R_tb, by exact R_gb⟩ hl)
set_option maxHeartbeats 8000000 in
set_option maxRecDepth 100000 in
theorem law_13 {p : Program} {l : Launch} {e : Env} {s : State} {m : MethodId} {below : List Frame} {meth : Method} {c : Code} {b L : Nat} {xs : Nat → Int32} (C0 : lw_At p s m meth c b L xs) (hL : L ≤ 4096) {A : Nat → Prop} (hAe : (fun q : Nat => s.heap.size ≤ q) = A) {E : tE} {X : tX} (hk : h_Kr X s) (hX : h_S X A s s.heap) {i : Int32} (hi0 : 0 ≤ i.toInt) (hi8 : i.toInt + 8 ≤ L) {cp mo : Nat} {cells slots : Nat} (hcl : cells ≤ 500000) (hsl : slots ≤ 7000000) {z : tZ} {I0 : tI} {L0 : tL} {H : Heap} {locs : List Loc} {ls : Array Slot} (T : h_T E A s z I0 L0 H locs cp mo) (hl : lv_has ls 4 [(3, .int i), (2, .ref mo), (1, .ref cp), (0, .ref b)]) (kk : ∀ (z : tZ) (I0 : tI) (L0 : tL) (H : Heap) (locs : List Loc) (ls : Array Slot), h_T E A s z I0 L0 H locs cp mo → lv_has ls 4 [(3, .int i), (2, .ref mo), (1, .ref cp), (0, .ref b)] → W p l e room_1 s m #[Value.ref b] below meth c H locs (cells + 3) (slots + 17) (lw_Z below #[Value.ref b] s) (F0 m 1241 ls [])) : W p l e room_1 s m #[Value.ref b] below meth c H locs cells slots (lw_Z below #[Value.ref b] s) (F0 m 727 ls []) := by
  obtain ⟨hx, hb, hr, hml, hown, hts0, hSc, hbl, hlocks, hgv⟩ := id C0
  have hE := xs_E hts0
  have hts : ∀ w ∈ wsL_law, w.before #[Value.ref b] s = true := fun w h => hts0 w (wsL_law_in w h)
  have hA : ∀ q : Nat, s.heap.size ≤ q → A q := fun q h => by rw [← hAe]; exact h
  have hbA : ¬ A b := by rw [← hAe]; exact Nat.not_le.mpr hbl
  obtain ⟨g, hI, hR, tcp, tmo, J1, J2, hU, R_al, R_tp, R_ck, R_fa, R_bk, R_dr, R_tb, R_gb⟩ := T
  unfold h_J2 at J2
  obtain ⟨lw, rlw, tlw⟩ := hR.at mo 10 tmo (rfl : h_rs 13 10 = some (1310, false)) (by decide)
  have alw : h_ad z mo 10 = lw := h_ad.at rlw
  obtain ⟨tb, rtb, ttb⟩ := hR.at mo 32 tmo (rfl : h_rs 13 32 = some (1332, false)) (by decide)
  have atb : h_ad z mo 32 = tb := h_ad.at rtb
  obtain ⟨rd, rrd, trd⟩ := hR.at cp 2 tcp (rfl : h_rs 12 2 = some (5, false)) (by decide)
  have ard : h_ad z cp 2 = rd := h_ad.at rrd
  obtain ⟨tp, rtp, ttp⟩ := hR.at cp 0 tcp (rfl : h_rs 12 0 = some (9, false)) (by decide)
  have atp : h_ad z cp 0 = tp := h_ad.at rtp
  obtain ⟨bk, rbk, tbk⟩ := hR.at cp 3 tcp (rfl : h_rs 12 3 = some (1, false)) (by decide)
  have abk : h_ad z cp 3 = bk := h_ad.at rbk
  obtain ⟨lb, rlb, tlb⟩ := hR.at cp 1 tcp (rfl : h_rs 12 1 = some (4, false)) (by decide)
  have alb : h_ad z cp 1 = lb := h_ad.at rlb
  obtain ⟨bg, rbg, tbg⟩ := hR.at cp 5 tcp (rfl : h_rs 12 5 = some (10, false)) (by decide)
  have abg : h_ad z cp 5 = bg := h_ad.at rbg
  obtain ⟨tu, rtu, ttu⟩ := hR.at cp 4 tcp (rfl : h_rs 12 4 = some (11, false)) (by decide)
  have atu : h_ad z cp 4 = tu := h_ad.at rtu
  obtain ⟨rg, rrg, trg⟩ := hR.at cp 6 tcp (rfl : h_rs 12 6 = some (8, false)) (by decide)
  have arg : h_ad z cp 6 = rg := h_ad.at rrg
  obtain ⟨bt, rbt, tbt⟩ := hR.at tp 0 ttp (rfl : h_rs 9 0 = some (900, false)) (by decide)
  have abt : h_ad z tp 0 = bt := h_ad.at rbt
  obtain ⟨mb, rmb, tmb⟩ := hR.at mo 0 tmo (rfl : h_rs 13 0 = some (1300, false)) (by decide)
  have amb : h_ad z mo 0 = mb := h_ad.at rmb
  obtain ⟨tx, rtx, ttx⟩ := hR.at lb 1 tlb (rfl : h_rs 4 1 = some (401, false)) (by decide)
  have atx : h_ad z lb 1 = tx := h_ad.at rtx
  obtain ⟨un, run, tun⟩ := hR.at lb 0 tlb (rfl : h_rs 4 0 = some (6, false)) (by decide)
  have aun : h_ad z lb 0 = un := h_ad.at run
  obtain ⟨hy, rhy, thy⟩ := hR.at mo 11 tmo (rfl : h_rs 13 11 = some (1311, false)) (by decide)
  have ahy : h_ad z mo 11 = hy := h_ad.at rhy
  obtain ⟨dt, rdt, tdt⟩ := hR.at cp 7 tcp (rfl : h_rs 12 7 = some (3, false)) (by decide)
  have adt : h_ad z cp 7 = dt := h_ad.at rdt
  obtain ⟨dr, rdr, tdr⟩ := hR.at dt 2 tdt (rfl : h_rs 3 2 = some (302, false)) (by decide)
  have adr : h_ad z dt 2 = dr := h_ad.at rdr
  obtain ⟨rl, rrl, trl⟩ := hR.at rd 1 trd (rfl : h_rs 5 1 = some (6, false)) (by decide)
  have arl : h_ad z rd 1 = rl := h_ad.at rrl
  obtain ⟨rn, rrn, trn⟩ := hR.at rl 0 trl (rfl : h_rs 6 0 = some (600, false)) (by decide)
  have arn : h_ad z rl 0 = rn := h_ad.at rrn
  obtain ⟨ro, rro, tro⟩ := hR.at rl 1 trl (rfl : h_rs 6 1 = some (601, false)) (by decide)
  have aro : h_ad z rl 1 = ro := h_ad.at rro
  obtain ⟨rk, rrk, trk⟩ := hR.at dt 0 tdt (rfl : h_rs 3 0 = some (300, false)) (by decide)
  have ark : h_ad z dt 0 = rk := h_ad.at rrk
  rw [alw] at J1
  rw [atb] at J2
  rw [ard, atp, abk, alb, abg, atu, arg] at R_al
  rw [atp, abt, amb] at R_tp
  rw [abk] at R_ck
  rw [ard] at R_fa
  rw [alb, atx, aun, alw, ahy] at R_bk
  rw [adt, adr] at R_dr
  rw [adt] at R_tb
  refine lv_aload_n hx hb dL_law_727 rfl (lv_at hl 2 rfl) ?_
  have hIo := hI
  refine va_calli (va_runV (As := []) (rest := []) ⟨hx, hb, hml, hown, hts⟩ (tX11_tradeB l E X A z I0 L0 cp tcp) (cwV 0 hts gL_law_X11_trade rfl rfl rfl (by decide +kernel) ⟨Nat.le_of_ble_eq_true rfl, Nat.le_of_ble_eq_true rfl⟩) ⟨h_blind _ _ _ _ _ _ _, h_recv g tcp (by decide) so_12 (q := (RX11, TX11, 8)) rfl, h_pre _ hE hk hX hA hI hR g⟩ rfl rfl hl.1 rfl (lv_room (Nat.le_of_ble_eq_true rfl)) dL_law_728 ⟨show cells + 0 ≤ 600000 by omega, show slots + 0 ≤ 7302250 by omega⟩) g.2.1 (fun q _ h => h) (fun q h => h) (fun rh1 I2 t H1 locs ht hvm h1 hB hz1 hk1 hS => ?_)
  obtain ⟨hI, fh1, h1⟩ := h1
  replace J1 : h_J1 (I2 lw) := by rw [show I2 lw = I0 lw from funext (fun k => fh1.at tlw rfl)]; exact J1
  rw [← fh1.at tmo rfl, show I0 tb = I2 tb from funext (fun k => (fh1.at ttb rfl).symm)] at J2
  have oR_al := R_al
  have oR_tp := R_tp
  have oR_ck := R_ck
  have oR_fa := R_fa
  have oR_bk := R_bk
  have oR_dr := R_dr
  have oR_tb := R_tb
  have oR_gb := R_gb
  skip
  replace R_tp : I2 tp 1 = I2 mo 1 ∧ I2 bt = I2 mb := by rw [show I2 tp 1 = I0 tp 1 from fh1.at ttp rfl, show I2 mo 1 = I0 mo 1 from fh1.at tmo rfl, show I2 bt = I0 bt from funext (fun k => fh1.at tbt rfl), show I2 mb = I0 mb from funext (fun k => fh1.at tmb rfl)]; exact R_tp
  replace R_ck : I2 bk 3 = I2 mo 12 := by rw [show I2 bk 3 = I0 bk 3 from fh1.at tbk rfl, show I2 mo 12 = I0 mo 12 from fh1.at tmo rfl]; exact R_ck
  replace R_fa : I2 rd 2 = I2 mo 8 ∧ I2 rd 3 = I2 mo 9 := by rw [show I2 rd 2 = I0 rd 2 from fh1.at trd rfl, show I2 rd 3 = I0 rd 3 from fh1.at trd rfl, show I2 mo 8 = I0 mo 8 from fh1.at tmo rfl, show I2 mo 9 = I0 mo 9 from fh1.at tmo rfl]; exact R_fa
  replace R_bk : h_bk z I2 tx un lw hy := R_bk.F hR ttx tun tlw thy fh1 (fun _ => rfl) (fun _ => rfl) (fun _ => rfl) (fun _ => rfl) (fun _ => rfl)
  replace R_dr : (I2 dr (I2 mo 12).toInt.toNat).toInt = (I2 mo 31).toInt ∧ ∀ k : Nat, (I2 mo 12).toInt < (k : Int) → I2 dr k = 0 := by rw [show I2 dr = I0 dr from funext (fun k => fh1.at tdr rfl), show I2 mo 12 = I0 mo 12 from fh1.at tmo rfl, show I2 mo 31 = I0 mo 31 from fh1.at tmo rfl]; exact R_dr
  replace R_tb : I2 dt 1 = I2 mo 30 := by rw [show I2 dt 1 = I0 dt 1 from fh1.at tdt rfl, show I2 mo 30 = I0 mo 30 from fh1.at tmo rfl]; exact R_tb
  have gck : I0 (h_ad z cp 3) 3 = I0 mo 12 := by rw [abk]; exact oR_ck
  have gI := hIo
  have gP := h1.2
  replace h1 := h1.1
  have gF := fh1
  have ger : h_er z I0 I2 := fun a h9 => fh1.ref (by decide) rfl h9
  replace g := h_after g hB ht hS
  generalize H1 = H at g
  clear hB hk1 hz1 ht hvm hS
  rcases h1 with ⟨rfl, -⟩
  refine lv_pop hx hb dL_law_731 rfl ?_
  refine lv_aload_n hx hb dL_law_732 rfl (lv_at hl 1 rfl) ?_
  have hIo := hI
  refine va_calli (va_runV (As := []) (rest := []) ⟨hx, hb, hml, hown, hts⟩ (tX12_tradeB l E X A z I2 L0 mo tmo) (cwV 0 hts gL_law_X12_trade rfl rfl rfl (by decide +kernel) ⟨Nat.le_of_ble_eq_true rfl, Nat.le_of_ble_eq_true rfl⟩) ⟨h_blind _ _ _ _ _ _ _, h_recv g tmo (by decide) so_13 (q := (RX12, TX12, 51)) rfl, h_pre _ hE hk hX hA hI hR g⟩ rfl rfl hl.1 rfl (lv_room (Nat.le_of_ble_eq_true rfl)) dL_law_733 ⟨show cells + 0 ≤ 600000 by omega, show slots + 0 ≤ 7302250 by omega⟩) g.2.1 (fun q _ h => h) (fun q h => h) (fun rh3 I4 t H1 locs ht hvm h3 hB hz1 hk1 hS => ?_)
  obtain ⟨hI, fh3, h3⟩ := h3
  replace J1 : h_J1 (I4 lw) := by rw [show I4 lw = I2 lw from funext (fun k => fh3.at tlw rfl)]; exact J1
  rw [← fh3.at tmo rfl, show I2 tb = I4 tb from funext (fun k => (fh3.at ttb rfl).symm)] at J2
  have oR_al := R_al
  have oR_tp := R_tp
  have oR_ck := R_ck
  have oR_fa := R_fa
  have oR_bk := R_bk
  have oR_dr := R_dr
  have oR_tb := R_tb
  have oR_gb := R_gb
  skip
  replace R_tp : I4 tp 1 = I4 mo 1 ∧ I4 bt = I4 mb := by rw [show I4 tp 1 = I2 tp 1 from fh3.at ttp rfl, show I4 mo 1 = I2 mo 1 from fh3.at tmo rfl, show I4 bt = I2 bt from funext (fun k => fh3.at tbt rfl), show I4 mb = I2 mb from funext (fun k => fh3.at tmb rfl)]; exact R_tp
  replace R_ck : I4 bk 3 = I4 mo 12 := by rw [show I4 bk 3 = I2 bk 3 from fh3.at tbk rfl, show I4 mo 12 = I2 mo 12 from fh3.at tmo rfl]; exact R_ck
  replace R_fa : I4 rd 2 = I4 mo 8 ∧ I4 rd 3 = I4 mo 9 := by rw [show I4 rd 2 = I2 rd 2 from fh3.at trd rfl, show I4 rd 3 = I2 rd 3 from fh3.at trd rfl, show I4 mo 8 = I2 mo 8 from fh3.at tmo rfl, show I4 mo 9 = I2 mo 9 from fh3.at tmo rfl]; exact R_fa
  replace R_bk : h_bk z I4 tx un lw hy := R_bk.F hR ttx tun tlw thy fh3 (fun _ => rfl) (fun _ => rfl) (fun _ => rfl) (fun _ => rfl) (fun _ => rfl)
  replace R_dr : (I4 dr (I4 mo 12).toInt.toNat).toInt = (I4 mo 31).toInt ∧ ∀ k : Nat, (I4 mo 12).toInt < (k : Int) → I4 dr k = 0 := by rw [show I4 dr = I2 dr from funext (fun k => fh3.at tdr rfl), show I4 mo 12 = I2 mo 12 from fh3.at tmo rfl, show I4 mo 31 = I2 mo 31 from fh3.at tmo rfl]; exact R_dr
  replace R_tb : I4 dt 1 = I4 mo 30 := by rw [show I4 dt 1 = I2 dt 1 from fh3.at tdt rfl, show I4 mo 30 = I2 mo 30 from fh3.at tmo rfl]; exact R_tb
  replace R_gb := g_trade2 (r1 := 0) (r2 := 0) R_gb hU hR gI tcp tmo gck gP gF h3.2 fh3
  replace h3 := h3.1
  replace g := h_after g hB ht hS
  generalize H1 = H at g
  clear hB hk1 hz1 ht hvm hS
  rcases h3 with ⟨rfl, -⟩
  refine lv_pop hx hb dL_law_736 rfl ?_
  refine lv_goto (tgt := 1241) hx hb dL_law_737 (by decide) ?_
  exact W.widen (by omega) (by omega) (kk z I4 L0 _ _ _ ⟨g, hI, hR, tcp, tmo, by rw [alw]; exact J1, by unfold h_J2; rw [atb]; exact J2, hU, by rw [ard, atp, abk, alb, abg, atu, arg]; exact R_al, by rw [atp, abt, amb]; exact R_tp, by rw [abk]; exact R_ck, by rw [ard]; exact R_fa, by rw [alb, atx, aun, alw, ahy]; exact R_bk, by rw [adt, adr]; exact R_dr, by rw [adt]; exact R_tb, by exact R_gb⟩ hl)
set_option maxHeartbeats 8000000 in
set_option maxRecDepth 100000 in
theorem law_14 {p : Program} {l : Launch} {e : Env} {s : State} {m : MethodId} {below : List Frame} {meth : Method} {c : Code} {b L : Nat} {xs : Nat → Int32} (C0 : lw_At p s m meth c b L xs) (hL : L ≤ 4096) {A : Nat → Prop} (hAe : (fun q : Nat => s.heap.size ≤ q) = A) {E : tE} {X : tX} (hk : h_Kr X s) (hX : h_S X A s s.heap) {i : Int32} (hi0 : 0 ≤ i.toInt) (hi8 : i.toInt + 8 ≤ L) {cp mo : Nat} {cells slots : Nat} (hcl : cells ≤ 500000) (hsl : slots ≤ 7000000) {z : tZ} {I0 : tI} {L0 : tL} {H : Heap} {locs : List Loc} {ls : Array Slot} (T : h_T E A s z I0 L0 H locs cp mo) (hl : lv_has ls 4 [(3, .int i), (2, .ref mo), (1, .ref cp), (0, .ref b)]) (kk : ∀ (z : tZ) (I0 : tI) (L0 : tL) (H : Heap) (locs : List Loc) (ls : Array Slot), h_T E A s z I0 L0 H locs cp mo → lv_has ls 4 [(3, .int i), (2, .ref mo), (1, .ref cp), (0, .ref b)] → W p l e room_1 s m #[Value.ref b] below meth c H locs (cells + 3) (slots + 17) (lw_Z below #[Value.ref b] s) (F0 m 1241 ls [])) : W p l e room_1 s m #[Value.ref b] below meth c H locs cells slots (lw_Z below #[Value.ref b] s) (F0 m 740 ls []) := by
  obtain ⟨hx, hb, hr, hml, hown, hts0, hSc, hbl, hlocks, hgv⟩ := id C0
  have hE := xs_E hts0
  have hts : ∀ w ∈ wsL_law, w.before #[Value.ref b] s = true := fun w h => hts0 w (wsL_law_in w h)
  have hA : ∀ q : Nat, s.heap.size ≤ q → A q := fun q h => by rw [← hAe]; exact h
  have hbA : ¬ A b := by rw [← hAe]; exact Nat.not_le.mpr hbl
  obtain ⟨g, hI, hR, tcp, tmo, J1, J2, hU, R_al, R_tp, R_ck, R_fa, R_bk, R_dr, R_tb, R_gb⟩ := T
  unfold h_J2 at J2
  obtain ⟨lw, rlw, tlw⟩ := hR.at mo 10 tmo (rfl : h_rs 13 10 = some (1310, false)) (by decide)
  have alw : h_ad z mo 10 = lw := h_ad.at rlw
  obtain ⟨tb, rtb, ttb⟩ := hR.at mo 32 tmo (rfl : h_rs 13 32 = some (1332, false)) (by decide)
  have atb : h_ad z mo 32 = tb := h_ad.at rtb
  obtain ⟨rd, rrd, trd⟩ := hR.at cp 2 tcp (rfl : h_rs 12 2 = some (5, false)) (by decide)
  have ard : h_ad z cp 2 = rd := h_ad.at rrd
  obtain ⟨tp, rtp, ttp⟩ := hR.at cp 0 tcp (rfl : h_rs 12 0 = some (9, false)) (by decide)
  have atp : h_ad z cp 0 = tp := h_ad.at rtp
  obtain ⟨bk, rbk, tbk⟩ := hR.at cp 3 tcp (rfl : h_rs 12 3 = some (1, false)) (by decide)
  have abk : h_ad z cp 3 = bk := h_ad.at rbk
  obtain ⟨lb, rlb, tlb⟩ := hR.at cp 1 tcp (rfl : h_rs 12 1 = some (4, false)) (by decide)
  have alb : h_ad z cp 1 = lb := h_ad.at rlb
  obtain ⟨bg, rbg, tbg⟩ := hR.at cp 5 tcp (rfl : h_rs 12 5 = some (10, false)) (by decide)
  have abg : h_ad z cp 5 = bg := h_ad.at rbg
  obtain ⟨tu, rtu, ttu⟩ := hR.at cp 4 tcp (rfl : h_rs 12 4 = some (11, false)) (by decide)
  have atu : h_ad z cp 4 = tu := h_ad.at rtu
  obtain ⟨rg, rrg, trg⟩ := hR.at cp 6 tcp (rfl : h_rs 12 6 = some (8, false)) (by decide)
  have arg : h_ad z cp 6 = rg := h_ad.at rrg
  obtain ⟨bt, rbt, tbt⟩ := hR.at tp 0 ttp (rfl : h_rs 9 0 = some (900, false)) (by decide)
  have abt : h_ad z tp 0 = bt := h_ad.at rbt
  obtain ⟨mb, rmb, tmb⟩ := hR.at mo 0 tmo (rfl : h_rs 13 0 = some (1300, false)) (by decide)
  have amb : h_ad z mo 0 = mb := h_ad.at rmb
  obtain ⟨tx, rtx, ttx⟩ := hR.at lb 1 tlb (rfl : h_rs 4 1 = some (401, false)) (by decide)
  have atx : h_ad z lb 1 = tx := h_ad.at rtx
  obtain ⟨un, run, tun⟩ := hR.at lb 0 tlb (rfl : h_rs 4 0 = some (6, false)) (by decide)
  have aun : h_ad z lb 0 = un := h_ad.at run
  obtain ⟨hy, rhy, thy⟩ := hR.at mo 11 tmo (rfl : h_rs 13 11 = some (1311, false)) (by decide)
  have ahy : h_ad z mo 11 = hy := h_ad.at rhy
  obtain ⟨dt, rdt, tdt⟩ := hR.at cp 7 tcp (rfl : h_rs 12 7 = some (3, false)) (by decide)
  have adt : h_ad z cp 7 = dt := h_ad.at rdt
  obtain ⟨dr, rdr, tdr⟩ := hR.at dt 2 tdt (rfl : h_rs 3 2 = some (302, false)) (by decide)
  have adr : h_ad z dt 2 = dr := h_ad.at rdr
  obtain ⟨rl, rrl, trl⟩ := hR.at rd 1 trd (rfl : h_rs 5 1 = some (6, false)) (by decide)
  have arl : h_ad z rd 1 = rl := h_ad.at rrl
  obtain ⟨rn, rrn, trn⟩ := hR.at rl 0 trl (rfl : h_rs 6 0 = some (600, false)) (by decide)
  have arn : h_ad z rl 0 = rn := h_ad.at rrn
  obtain ⟨ro, rro, tro⟩ := hR.at rl 1 trl (rfl : h_rs 6 1 = some (601, false)) (by decide)
  have aro : h_ad z rl 1 = ro := h_ad.at rro
  obtain ⟨rk, rrk, trk⟩ := hR.at dt 0 tdt (rfl : h_rs 3 0 = some (300, false)) (by decide)
  have ark : h_ad z dt 0 = rk := h_ad.at rrk
  rw [alw] at J1
  rw [atb] at J2
  rw [ard, atp, abk, alb, abg, atu, arg] at R_al
  rw [atp, abt, amb] at R_tp
  rw [abk] at R_ck
  rw [ard] at R_fa
  rw [alb, atx, aun, alw, ahy] at R_bk
  rw [adt, adr] at R_dr
  rw [adt] at R_tb
  refine lv_aload_n hx hb dL_law_740 rfl (lv_at hl 2 rfl) ?_
  refine lv_aload_n hx hb dL_law_741 rfl (lv_at hl 3 rfl) ?_
  refine lv_iload_n hx hb dL_law_742 rfl (lv_at hl 0 rfl) ?_
  refine lv_iconst (v := 1) hx hb dL_law_743 (by decide) ?_
  refine lv_iadd hx hb dL_law_744 ?_
  refine lv_topi (fun v1 ev1 => ?_)
  refine va_sld hx hb hSc hbl hbA g.2.1 (h_ix hi0 hi8 hL ev1 (k := 1) (by decide) (by decide) (by decide)) dL_law_745 ?_
  refine lv_topi (fun v2 ev2 => ?_)
  refine lv_aload_n hx hb dL_law_746 rfl (lv_at hl 3 rfl) ?_
  refine lv_iload_n hx hb dL_law_747 rfl (lv_at hl 0 rfl) ?_
  refine lv_iconst (v := 2) hx hb dL_law_748 (by decide) ?_
  refine lv_iadd hx hb dL_law_749 ?_
  refine lv_topi (fun v3 ev3 => ?_)
  refine va_sld hx hb hSc hbl hbA g.2.1 (h_ix hi0 hi8 hL ev3 (k := 2) (by decide) (by decide) (by decide)) dL_law_750 ?_
  refine lv_topi (fun v4 ev4 => ?_)
  have hIo := hI
  refine va_calli (va_runV (As := [.int v2, .int v4]) (rest := []) ⟨hx, hb, hml, hown, hts⟩ (tX11_giveB l E X A z I0 L0 cp tcp v2 (v2.toInt) rfl v4 (v4.toInt) rfl R_gb.nn R_gb.cb) (cwV 2 hts gL_law_X11_give rfl rfl rfl (by decide +kernel) ⟨Nat.le_of_ble_eq_true rfl, Nat.le_of_ble_eq_true rfl⟩) ⟨h_blind _ _ _ _ _ _ _, h_recv g tcp (by decide) so_12 (q := (RX11, TX11, 8)) rfl, h_pre _ hE hk hX hA hI hR g⟩ rfl rfl hl.1 rfl (lv_room (Nat.le_of_ble_eq_true rfl)) dL_law_751 ⟨show cells + 0 ≤ 600000 by omega, show slots + 0 ≤ 7302250 by omega⟩) g.2.1 (fun q _ h => h) (fun q h => h) (fun rh5 I6 t H1 locs ht hvm h5 hB hz1 hk1 hS => ?_)
  obtain ⟨hI, fh5, h5⟩ := h5
  replace J1 : h_J1 (I6 lw) := by rw [show I6 lw = I0 lw from funext (fun k => fh5.at tlw rfl)]; exact J1
  rw [← fh5.at tmo rfl, show I0 tb = I6 tb from funext (fun k => (fh5.at ttb rfl).symm)] at J2
  have oR_al := R_al
  have oR_tp := R_tp
  have oR_ck := R_ck
  have oR_fa := R_fa
  have oR_bk := R_bk
  have oR_dr := R_dr
  have oR_tb := R_tb
  have oR_gb := R_gb
  skip
  replace R_tp : I6 tp 1 = I6 mo 1 ∧ I6 bt = I6 mb := by rw [show I6 tp 1 = I0 tp 1 from fh5.at ttp rfl, show I6 mo 1 = I0 mo 1 from fh5.at tmo rfl, show I6 bt = I0 bt from funext (fun k => fh5.at tbt rfl), show I6 mb = I0 mb from funext (fun k => fh5.at tmb rfl)]; exact R_tp
  replace R_ck : I6 bk 3 = I6 mo 12 := by rw [show I6 bk 3 = I0 bk 3 from fh5.at tbk rfl, show I6 mo 12 = I0 mo 12 from fh5.at tmo rfl]; exact R_ck
  replace R_fa : I6 rd 2 = I6 mo 8 ∧ I6 rd 3 = I6 mo 9 := by rw [show I6 rd 2 = I0 rd 2 from fh5.at trd rfl, show I6 rd 3 = I0 rd 3 from fh5.at trd rfl, show I6 mo 8 = I0 mo 8 from fh5.at tmo rfl, show I6 mo 9 = I0 mo 9 from fh5.at tmo rfl]; exact R_fa
  replace R_bk : h_bk z I6 tx un lw hy := R_bk.F hR ttx tun tlw thy fh5 (fun _ => rfl) (fun _ => rfl) (fun _ => rfl) (fun _ => rfl) (fun _ => rfl)
  replace R_dr : (I6 dr (I6 mo 12).toInt.toNat).toInt = (I6 mo 31).toInt ∧ ∀ k : Nat, (I6 mo 12).toInt < (k : Int) → I6 dr k = 0 := by rw [show I6 dr = I0 dr from funext (fun k => fh5.at tdr rfl), show I6 mo 12 = I0 mo 12 from fh5.at tmo rfl, show I6 mo 31 = I0 mo 31 from fh5.at tmo rfl]; exact R_dr
  replace R_tb : I6 dt 1 = I6 mo 30 := by rw [show I6 dt 1 = I0 dt 1 from fh5.at tdt rfl, show I6 mo 30 = I0 mo 30 from fh5.at tmo rfl]; exact R_tb
  have gck : I0 (h_ad z cp 3) 3 = I0 mo 12 := by rw [abk]; exact oR_ck
  have gI := hIo
  have gP := h5
  have gF := fh5
  have ger : h_er z I0 I6 := fun a h9 => fh5.ref (by decide) rfl h9
  replace g := h_after g hB ht hS
  generalize H1 = H at g
  clear hB hk1 hz1 ht hvm hS
  refine lv_pop hx hb dL_law_754 rfl ?_
  refine lv_aload_n hx hb dL_law_755 rfl (lv_at hl 1 rfl) ?_
  refine lv_aload_n hx hb dL_law_756 rfl (lv_at hl 3 rfl) ?_
  refine lv_iload_n hx hb dL_law_757 rfl (lv_at hl 0 rfl) ?_
  refine lv_iconst (v := 1) hx hb dL_law_758 (by decide) ?_
  refine lv_iadd hx hb dL_law_759 ?_
  refine lv_topi (fun v7 ev7 => ?_)
  refine va_sld hx hb hSc hbl hbA g.2.1 (h_ix hi0 hi8 hL ev7 (k := 1) (by decide) (by decide) (by decide)) dL_law_760 ?_
  refine xw_i (v := v2) (by rw [show v7 = v1 from ev7.trans ev1.symm]; exact ev2.symm) ?_
  refine lv_aload_n hx hb dL_law_761 rfl (lv_at hl 3 rfl) ?_
  refine lv_iload_n hx hb dL_law_762 rfl (lv_at hl 0 rfl) ?_
  refine lv_iconst (v := 2) hx hb dL_law_763 (by decide) ?_
  refine lv_iadd hx hb dL_law_764 ?_
  refine lv_topi (fun v9 ev9 => ?_)
  refine va_sld hx hb hSc hbl hbA g.2.1 (h_ix hi0 hi8 hL ev9 (k := 2) (by decide) (by decide) (by decide)) dL_law_765 ?_
  refine xw_i (v := v4) (by rw [show v9 = v3 from ev9.trans ev3.symm]; exact ev4.symm) ?_
  have hIo := hI
  refine va_calli (va_runV (As := [.int v2, .int v4]) (rest := []) ⟨hx, hb, hml, hown, hts⟩ (tX12_giveB l E X A z I6 L0 mo tmo v2 (v2.toInt) rfl v4 (v4.toInt) rfl (R_gb.ft hR gI tcp tmo ger)) (cwV 2 hts gL_law_X12_give rfl rfl rfl (by decide +kernel) ⟨Nat.le_of_ble_eq_true rfl, Nat.le_of_ble_eq_true rfl⟩) ⟨h_blind _ _ _ _ _ _ _, h_recv g tmo (by decide) so_13 (q := (RX12, TX12, 51)) rfl, h_pre _ hE hk hX hA hI hR g⟩ rfl rfl hl.1 rfl (lv_room (Nat.le_of_ble_eq_true rfl)) dL_law_766 ⟨show cells + 0 ≤ 600000 by omega, show slots + 0 ≤ 7302250 by omega⟩) g.2.1 (fun q _ h => h) (fun q h => h) (fun rh11 I12 t H1 locs ht hvm h11 hB hz1 hk1 hS => ?_)
  obtain ⟨hI, fh11, h11⟩ := h11
  replace J1 : h_J1 (I12 lw) := by rw [show I12 lw = I6 lw from funext (fun k => fh11.at tlw rfl)]; exact J1
  rw [← fh11.at tmo rfl, show I6 tb = I12 tb from funext (fun k => (fh11.at ttb rfl).symm)] at J2
  have oR_al := R_al
  have oR_tp := R_tp
  have oR_ck := R_ck
  have oR_fa := R_fa
  have oR_bk := R_bk
  have oR_dr := R_dr
  have oR_tb := R_tb
  have oR_gb := R_gb
  skip
  replace R_tp : I12 tp 1 = I12 mo 1 ∧ I12 bt = I12 mb := by rw [show I12 tp 1 = I6 tp 1 from fh11.at ttp rfl, show I12 mo 1 = I6 mo 1 from fh11.at tmo rfl, show I12 bt = I6 bt from funext (fun k => fh11.at tbt rfl), show I12 mb = I6 mb from funext (fun k => fh11.at tmb rfl)]; exact R_tp
  replace R_ck : I12 bk 3 = I12 mo 12 := by rw [show I12 bk 3 = I6 bk 3 from fh11.at tbk rfl, show I12 mo 12 = I6 mo 12 from fh11.at tmo rfl]; exact R_ck
  replace R_fa : I12 rd 2 = I12 mo 8 ∧ I12 rd 3 = I12 mo 9 := by rw [show I12 rd 2 = I6 rd 2 from fh11.at trd rfl, show I12 rd 3 = I6 rd 3 from fh11.at trd rfl, show I12 mo 8 = I6 mo 8 from fh11.at tmo rfl, show I12 mo 9 = I6 mo 9 from fh11.at tmo rfl]; exact R_fa
  replace R_bk : h_bk z I12 tx un lw hy := R_bk.F hR ttx tun tlw thy fh11 (fun _ => rfl) (fun _ => rfl) (fun _ => rfl) (fun _ => rfl) (fun _ => rfl)
  replace R_dr : (I12 dr (I12 mo 12).toInt.toNat).toInt = (I12 mo 31).toInt ∧ ∀ k : Nat, (I12 mo 12).toInt < (k : Int) → I12 dr k = 0 := by rw [show I12 dr = I6 dr from funext (fun k => fh11.at tdr rfl), show I12 mo 12 = I6 mo 12 from fh11.at tmo rfl, show I12 mo 31 = I6 mo 31 from fh11.at tmo rfl]; exact R_dr
  replace R_tb : I12 dt 1 = I12 mo 30 := by rw [show I12 dt 1 = I6 dt 1 from fh11.at tdt rfl, show I12 mo 30 = I6 mo 30 from fh11.at tmo rfl]; exact R_tb
  obtain ⟨same, Rn⟩ := g_give2 R_gb hU hR gI tcp tmo gck rfl rfl gP gF h11 fh11
  replace R_gb := Rn
  replace g := h_after g hB ht hS
  generalize H1 = H at g
  clear hB hk1 hz1 ht hvm hS
  refine lv_pop hx hb dL_law_769 rfl ?_
  refine lv_goto (tgt := 1241) hx hb dL_law_770 (by decide) ?_
  exact W.widen (by omega) (by omega) (kk z I12 L0 _ _ _ ⟨g, hI, hR, tcp, tmo, by rw [alw]; exact J1, by unfold h_J2; rw [atb]; exact J2, hU, by rw [ard, atp, abk, alb, abg, atu, arg]; exact R_al, by rw [atp, abt, amb]; exact R_tp, by rw [abk]; exact R_ck, by rw [ard]; exact R_fa, by rw [alb, atx, aun, alw, ahy]; exact R_bk, by rw [adt, adr]; exact R_dr, by rw [adt]; exact R_tb, by exact R_gb⟩ hl)
set_option maxHeartbeats 8000000 in
set_option maxRecDepth 100000 in
theorem law_15 {p : Program} {l : Launch} {e : Env} {s : State} {m : MethodId} {below : List Frame} {meth : Method} {c : Code} {b L : Nat} {xs : Nat → Int32} (C0 : lw_At p s m meth c b L xs) (hL : L ≤ 4096) {A : Nat → Prop} (hAe : (fun q : Nat => s.heap.size ≤ q) = A) {E : tE} {X : tX} (hk : h_Kr X s) (hX : h_S X A s s.heap) {i : Int32} (hi0 : 0 ≤ i.toInt) (hi8 : i.toInt + 8 ≤ L) {cp mo : Nat} {cells slots : Nat} (hcl : cells ≤ 500000) (hsl : slots ≤ 7000000) {z : tZ} {I0 : tI} {L0 : tL} {H : Heap} {locs : List Loc} {ls : Array Slot} (T : h_T E A s z I0 L0 H locs cp mo) (hl : lv_has ls 4 [(3, .int i), (2, .ref mo), (1, .ref cp), (0, .ref b)]) (kk : ∀ (z : tZ) (I0 : tI) (L0 : tL) (H : Heap) (locs : List Loc) (ls : Array Slot), h_T E A s z I0 L0 H locs cp mo → lv_has ls 4 [(3, .int i), (2, .ref mo), (1, .ref cp), (0, .ref b)] → W p l e room_1 s m #[Value.ref b] below meth c H locs (cells + 3) (slots + 17) (lw_Z below #[Value.ref b] s) (F0 m 1241 ls [])) : W p l e room_1 s m #[Value.ref b] below meth c H locs cells slots (lw_Z below #[Value.ref b] s) (F0 m 773 ls []) := by
  obtain ⟨hx, hb, hr, hml, hown, hts0, hSc, hbl, hlocks, hgv⟩ := id C0
  have hE := xs_E hts0
  have hts : ∀ w ∈ wsL_law, w.before #[Value.ref b] s = true := fun w h => hts0 w (wsL_law_in w h)
  have hA : ∀ q : Nat, s.heap.size ≤ q → A q := fun q h => by rw [← hAe]; exact h
  have hbA : ¬ A b := by rw [← hAe]; exact Nat.not_le.mpr hbl
  obtain ⟨g, hI, hR, tcp, tmo, J1, J2, hU, R_al, R_tp, R_ck, R_fa, R_bk, R_dr, R_tb, R_gb⟩ := T
  unfold h_J2 at J2
  obtain ⟨lw, rlw, tlw⟩ := hR.at mo 10 tmo (rfl : h_rs 13 10 = some (1310, false)) (by decide)
  have alw : h_ad z mo 10 = lw := h_ad.at rlw
  obtain ⟨tb, rtb, ttb⟩ := hR.at mo 32 tmo (rfl : h_rs 13 32 = some (1332, false)) (by decide)
  have atb : h_ad z mo 32 = tb := h_ad.at rtb
  obtain ⟨rd, rrd, trd⟩ := hR.at cp 2 tcp (rfl : h_rs 12 2 = some (5, false)) (by decide)
  have ard : h_ad z cp 2 = rd := h_ad.at rrd
  obtain ⟨tp, rtp, ttp⟩ := hR.at cp 0 tcp (rfl : h_rs 12 0 = some (9, false)) (by decide)
  have atp : h_ad z cp 0 = tp := h_ad.at rtp
  obtain ⟨bk, rbk, tbk⟩ := hR.at cp 3 tcp (rfl : h_rs 12 3 = some (1, false)) (by decide)
  have abk : h_ad z cp 3 = bk := h_ad.at rbk
  obtain ⟨lb, rlb, tlb⟩ := hR.at cp 1 tcp (rfl : h_rs 12 1 = some (4, false)) (by decide)
  have alb : h_ad z cp 1 = lb := h_ad.at rlb
  obtain ⟨bg, rbg, tbg⟩ := hR.at cp 5 tcp (rfl : h_rs 12 5 = some (10, false)) (by decide)
  have abg : h_ad z cp 5 = bg := h_ad.at rbg
  obtain ⟨tu, rtu, ttu⟩ := hR.at cp 4 tcp (rfl : h_rs 12 4 = some (11, false)) (by decide)
  have atu : h_ad z cp 4 = tu := h_ad.at rtu
  obtain ⟨rg, rrg, trg⟩ := hR.at cp 6 tcp (rfl : h_rs 12 6 = some (8, false)) (by decide)
  have arg : h_ad z cp 6 = rg := h_ad.at rrg
  obtain ⟨bt, rbt, tbt⟩ := hR.at tp 0 ttp (rfl : h_rs 9 0 = some (900, false)) (by decide)
  have abt : h_ad z tp 0 = bt := h_ad.at rbt
  obtain ⟨mb, rmb, tmb⟩ := hR.at mo 0 tmo (rfl : h_rs 13 0 = some (1300, false)) (by decide)
  have amb : h_ad z mo 0 = mb := h_ad.at rmb
  obtain ⟨tx, rtx, ttx⟩ := hR.at lb 1 tlb (rfl : h_rs 4 1 = some (401, false)) (by decide)
  have atx : h_ad z lb 1 = tx := h_ad.at rtx
  obtain ⟨un, run, tun⟩ := hR.at lb 0 tlb (rfl : h_rs 4 0 = some (6, false)) (by decide)
  have aun : h_ad z lb 0 = un := h_ad.at run
  obtain ⟨hy, rhy, thy⟩ := hR.at mo 11 tmo (rfl : h_rs 13 11 = some (1311, false)) (by decide)
  have ahy : h_ad z mo 11 = hy := h_ad.at rhy
  obtain ⟨dt, rdt, tdt⟩ := hR.at cp 7 tcp (rfl : h_rs 12 7 = some (3, false)) (by decide)
  have adt : h_ad z cp 7 = dt := h_ad.at rdt
  obtain ⟨dr, rdr, tdr⟩ := hR.at dt 2 tdt (rfl : h_rs 3 2 = some (302, false)) (by decide)
  have adr : h_ad z dt 2 = dr := h_ad.at rdr
  obtain ⟨rl, rrl, trl⟩ := hR.at rd 1 trd (rfl : h_rs 5 1 = some (6, false)) (by decide)
  have arl : h_ad z rd 1 = rl := h_ad.at rrl
  obtain ⟨rn, rrn, trn⟩ := hR.at rl 0 trl (rfl : h_rs 6 0 = some (600, false)) (by decide)
  have arn : h_ad z rl 0 = rn := h_ad.at rrn
  obtain ⟨ro, rro, tro⟩ := hR.at rl 1 trl (rfl : h_rs 6 1 = some (601, false)) (by decide)
  have aro : h_ad z rl 1 = ro := h_ad.at rro
  obtain ⟨rk, rrk, trk⟩ := hR.at dt 0 tdt (rfl : h_rs 3 0 = some (300, false)) (by decide)
  have ark : h_ad z dt 0 = rk := h_ad.at rrk
  rw [alw] at J1
  rw [atb] at J2
  rw [ard, atp, abk, alb, abg, atu, arg] at R_al
  rw [atp, abt, amb] at R_tp
  rw [abk] at R_ck
  rw [ard] at R_fa
  rw [alb, atx, aun, alw, ahy] at R_bk
  rw [adt, adr] at R_dr
  rw [adt] at R_tb
  refine lv_aload_n hx hb dL_law_773 rfl (lv_at hl 2 rfl) ?_
  refine lv_aload_n hx hb dL_law_774 rfl (lv_at hl 3 rfl) ?_
  refine lv_iload_n hx hb dL_law_775 rfl (lv_at hl 0 rfl) ?_
  refine lv_iconst (v := 1) hx hb dL_law_776 (by decide) ?_
  refine lv_iadd hx hb dL_law_777 ?_
  refine lv_topi (fun v1 ev1 => ?_)
  refine va_sld hx hb hSc hbl hbA g.2.1 (h_ix hi0 hi8 hL ev1 (k := 1) (by decide) (by decide) (by decide)) dL_law_778 ?_
  refine lv_topi (fun v2 ev2 => ?_)
  refine lv_aload_n hx hb dL_law_779 rfl (lv_at hl 3 rfl) ?_
  refine lv_iload_n hx hb dL_law_780 rfl (lv_at hl 0 rfl) ?_
  refine lv_iconst (v := 2) hx hb dL_law_781 (by decide) ?_
  refine lv_iadd hx hb dL_law_782 ?_
  refine lv_topi (fun v3 ev3 => ?_)
  refine va_sld hx hb hSc hbl hbA g.2.1 (h_ix hi0 hi8 hL ev3 (k := 2) (by decide) (by decide) (by decide)) dL_law_783 ?_
  refine lv_topi (fun v4 ev4 => ?_)
  refine lv_aload_n hx hb dL_law_784 rfl (lv_at hl 3 rfl) ?_
  refine lv_iload_n hx hb dL_law_785 rfl (lv_at hl 0 rfl) ?_
  refine lv_iconst (v := 3) hx hb dL_law_786 (by decide) ?_
  refine lv_iadd hx hb dL_law_787 ?_
  refine lv_topi (fun v5 ev5 => ?_)
  refine va_sld hx hb hSc hbl hbA g.2.1 (h_ix hi0 hi8 hL ev5 (k := 3) (by decide) (by decide) (by decide)) dL_law_788 ?_
  refine lv_topi (fun v6 ev6 => ?_)
  refine lv_aload_n hx hb dL_law_789 rfl (lv_at hl 3 rfl) ?_
  refine lv_iload_n hx hb dL_law_790 rfl (lv_at hl 0 rfl) ?_
  refine lv_iconst (v := 4) hx hb dL_law_791 (by decide) ?_
  refine lv_iadd hx hb dL_law_792 ?_
  refine lv_topi (fun v7 ev7 => ?_)
  refine va_sld hx hb hSc hbl hbA g.2.1 (h_ix hi0 hi8 hL ev7 (k := 4) (by decide) (by decide) (by decide)) dL_law_793 ?_
  refine lv_topi (fun v8 ev8 => ?_)
  have hIo := hI
  refine va_calli (va_runV (As := [.int v2, .int v4, .int v6, .int v8]) (rest := []) ⟨hx, hb, hml, hown, hts⟩ (tX11_giveTurnB l E X A z I0 L0 cp tcp v2 (v2.toInt) rfl v4 (v4.toInt) rfl v6 (v6.toInt) rfl v8 (v8.toInt) rfl R_gb.cb R_gb.ho) (cwV 4 hts gL_law_X11_giveTurn rfl rfl rfl (by decide +kernel) ⟨Nat.le_of_ble_eq_true rfl, Nat.le_of_ble_eq_true rfl⟩) ⟨h_blind _ _ _ _ _ _ _, h_recv g tcp (by decide) so_12 (q := (RX11, TX11, 8)) rfl, h_pre _ hE hk hX hA hI hR g⟩ rfl rfl hl.1 rfl (lv_room (Nat.le_of_ble_eq_true rfl)) dL_law_794 ⟨show cells + 0 ≤ 600000 by omega, show slots + 0 ≤ 7302250 by omega⟩) g.2.1 (fun q _ h => h) (fun q h => h) (fun rh9 I10 t H1 locs ht hvm h9 hB hz1 hk1 hS => ?_)
  obtain ⟨hI, fh9, h9⟩ := h9
  replace J1 : h_J1 (I10 lw) := by rw [show I10 lw = I0 lw from funext (fun k => fh9.at tlw rfl)]; exact J1
  rw [← fh9.at tmo rfl, show I0 tb = I10 tb from funext (fun k => (fh9.at ttb rfl).symm)] at J2
  have oR_al := R_al
  have oR_tp := R_tp
  have oR_ck := R_ck
  have oR_fa := R_fa
  have oR_bk := R_bk
  have oR_dr := R_dr
  have oR_tb := R_tb
  have oR_gb := R_gb
  skip
  replace R_tp : I10 tp 1 = I10 mo 1 ∧ I10 bt = I10 mb := by rw [show I10 tp 1 = I0 tp 1 from fh9.at ttp rfl, show I10 mo 1 = I0 mo 1 from fh9.at tmo rfl, show I10 bt = I0 bt from funext (fun k => fh9.at tbt rfl), show I10 mb = I0 mb from funext (fun k => fh9.at tmb rfl)]; exact R_tp
  replace R_ck : I10 bk 3 = I10 mo 12 := by rw [show I10 bk 3 = I0 bk 3 from fh9.at tbk rfl, show I10 mo 12 = I0 mo 12 from fh9.at tmo rfl]; exact R_ck
  replace R_fa : I10 rd 2 = I10 mo 8 ∧ I10 rd 3 = I10 mo 9 := by rw [show I10 rd 2 = I0 rd 2 from fh9.at trd rfl, show I10 rd 3 = I0 rd 3 from fh9.at trd rfl, show I10 mo 8 = I0 mo 8 from fh9.at tmo rfl, show I10 mo 9 = I0 mo 9 from fh9.at tmo rfl]; exact R_fa
  replace R_bk : h_bk z I10 tx un lw hy := R_bk.F hR ttx tun tlw thy fh9 (fun _ => rfl) (fun _ => rfl) (fun _ => rfl) (fun _ => rfl) (fun _ => rfl)
  replace R_dr : (I10 dr (I10 mo 12).toInt.toNat).toInt = (I10 mo 31).toInt ∧ ∀ k : Nat, (I10 mo 12).toInt < (k : Int) → I10 dr k = 0 := by rw [show I10 dr = I0 dr from funext (fun k => fh9.at tdr rfl), show I10 mo 12 = I0 mo 12 from fh9.at tmo rfl, show I10 mo 31 = I0 mo 31 from fh9.at tmo rfl]; exact R_dr
  replace R_tb : I10 dt 1 = I10 mo 30 := by rw [show I10 dt 1 = I0 dt 1 from fh9.at tdt rfl, show I10 mo 30 = I0 mo 30 from fh9.at tmo rfl]; exact R_tb
  have gck : I0 (h_ad z cp 3) 3 = I0 mo 12 := by rw [abk]; exact oR_ck
  have gI := hIo
  have gdr : (I0 (h_ad z (h_ad z cp 7) 2) (I0 mo 12).toInt.toNat).toInt = (I0 mo 31).toInt ∧ ∀ k : Nat, (I0 mo 12).toInt < (k : Int) → I0 (h_ad z (h_ad z cp 7) 2) k = 0 := by rw [adt, adr]; exact oR_dr
  have gP := h9
  have gF := fh9
  have ger : h_er z I0 I10 := fun a h9 => fh9.ref (by decide) rfl h9
  replace g := h_after g hB ht hS
  generalize H1 = H at g
  clear hB hk1 hz1 ht hvm hS
  refine lv_pop hx hb dL_law_797 rfl ?_
  refine lv_aload_n hx hb dL_law_798 rfl (lv_at hl 1 rfl) ?_
  refine lv_aload_n hx hb dL_law_799 rfl (lv_at hl 3 rfl) ?_
  refine lv_iload_n hx hb dL_law_800 rfl (lv_at hl 0 rfl) ?_
  refine lv_iconst (v := 1) hx hb dL_law_801 (by decide) ?_
  refine lv_iadd hx hb dL_law_802 ?_
  refine lv_topi (fun v11 ev11 => ?_)
  refine va_sld hx hb hSc hbl hbA g.2.1 (h_ix hi0 hi8 hL ev11 (k := 1) (by decide) (by decide) (by decide)) dL_law_803 ?_
  refine xw_i (v := v2) (by rw [show v11 = v1 from ev11.trans ev1.symm]; exact ev2.symm) ?_
  refine lv_aload_n hx hb dL_law_804 rfl (lv_at hl 3 rfl) ?_
  refine lv_iload_n hx hb dL_law_805 rfl (lv_at hl 0 rfl) ?_
  refine lv_iconst (v := 2) hx hb dL_law_806 (by decide) ?_
  refine lv_iadd hx hb dL_law_807 ?_
  refine lv_topi (fun v13 ev13 => ?_)
  refine va_sld hx hb hSc hbl hbA g.2.1 (h_ix hi0 hi8 hL ev13 (k := 2) (by decide) (by decide) (by decide)) dL_law_808 ?_
  refine xw_i (v := v4) (by rw [show v13 = v3 from ev13.trans ev3.symm]; exact ev4.symm) ?_
  refine lv_aload_n hx hb dL_law_809 rfl (lv_at hl 3 rfl) ?_
  refine lv_iload_n hx hb dL_law_810 rfl (lv_at hl 0 rfl) ?_
  refine lv_iconst (v := 3) hx hb dL_law_811 (by decide) ?_
  refine lv_iadd hx hb dL_law_812 ?_
  refine lv_topi (fun v15 ev15 => ?_)
  refine va_sld hx hb hSc hbl hbA g.2.1 (h_ix hi0 hi8 hL ev15 (k := 3) (by decide) (by decide) (by decide)) dL_law_813 ?_
  refine xw_i (v := v6) (by rw [show v15 = v5 from ev15.trans ev5.symm]; exact ev6.symm) ?_
  refine lv_aload_n hx hb dL_law_814 rfl (lv_at hl 3 rfl) ?_
  refine lv_iload_n hx hb dL_law_815 rfl (lv_at hl 0 rfl) ?_
  refine lv_iconst (v := 4) hx hb dL_law_816 (by decide) ?_
  refine lv_iadd hx hb dL_law_817 ?_
  refine lv_topi (fun v17 ev17 => ?_)
  refine va_sld hx hb hSc hbl hbA g.2.1 (h_ix hi0 hi8 hL ev17 (k := 4) (by decide) (by decide) (by decide)) dL_law_818 ?_
  refine xw_i (v := v8) (by rw [show v17 = v7 from ev17.trans ev7.symm]; exact ev8.symm) ?_
  have hIo := hI
  refine va_calli (va_runV (As := [.int v2, .int v4, .int v6, .int v8]) (rest := []) ⟨hx, hb, hml, hown, hts⟩ (tX12_giveTurnB l E X A z I10 L0 mo tmo v2 (v2.toInt) rfl v4 (v4.toInt) rfl v6 (v6.toInt) rfl v8 (v8.toInt) rfl (R_gb.ft hR gI tcp tmo ger) (R_gb.h2 hR gI tcp tmo ger)) (cwV 4 hts gL_law_X12_giveTurn rfl rfl rfl (by decide +kernel) ⟨Nat.le_of_ble_eq_true rfl, Nat.le_of_ble_eq_true rfl⟩) ⟨h_blind _ _ _ _ _ _ _, h_recv g tmo (by decide) so_13 (q := (RX12, TX12, 51)) rfl, h_pre _ hE hk hX hA hI hR g⟩ rfl rfl hl.1 rfl (lv_room (Nat.le_of_ble_eq_true rfl)) dL_law_819 ⟨show cells + 0 ≤ 600000 by omega, show slots + 0 ≤ 7302250 by omega⟩) g.2.1 (fun q _ h => h) (fun q h => h) (fun rh19 I20 t H1 locs ht hvm h19 hB hz1 hk1 hS => ?_)
  obtain ⟨hI, fh19, h19⟩ := h19
  replace J1 : h_J1 (I20 lw) := by rw [show I20 lw = I10 lw from funext (fun k => fh19.at tlw rfl)]; exact J1
  rw [← fh19.at tmo rfl, show I10 tb = I20 tb from funext (fun k => (fh19.at ttb rfl).symm)] at J2
  have oR_al := R_al
  have oR_tp := R_tp
  have oR_ck := R_ck
  have oR_fa := R_fa
  have oR_bk := R_bk
  have oR_dr := R_dr
  have oR_tb := R_tb
  have oR_gb := R_gb
  skip
  replace R_tp : I20 tp 1 = I20 mo 1 ∧ I20 bt = I20 mb := by rw [show I20 tp 1 = I10 tp 1 from fh19.at ttp rfl, show I20 mo 1 = I10 mo 1 from fh19.at tmo rfl, show I20 bt = I10 bt from funext (fun k => fh19.at tbt rfl), show I20 mb = I10 mb from funext (fun k => fh19.at tmb rfl)]; exact R_tp
  replace R_ck : I20 bk 3 = I20 mo 12 := by rw [show I20 bk 3 = I10 bk 3 from fh19.at tbk rfl, show I20 mo 12 = I10 mo 12 from fh19.at tmo rfl]; exact R_ck
  replace R_fa : I20 rd 2 = I20 mo 8 ∧ I20 rd 3 = I20 mo 9 := by rw [show I20 rd 2 = I10 rd 2 from fh19.at trd rfl, show I20 rd 3 = I10 rd 3 from fh19.at trd rfl, show I20 mo 8 = I10 mo 8 from fh19.at tmo rfl, show I20 mo 9 = I10 mo 9 from fh19.at tmo rfl]; exact R_fa
  replace R_bk : h_bk z I20 tx un lw hy := R_bk.F hR ttx tun tlw thy fh19 (fun _ => rfl) (fun _ => rfl) (fun _ => rfl) (fun _ => rfl) (fun _ => rfl)
  replace R_dr : (I20 dr (I20 mo 12).toInt.toNat).toInt = (I20 mo 31).toInt ∧ ∀ k : Nat, (I20 mo 12).toInt < (k : Int) → I20 dr k = 0 := by rw [show I20 dr = I10 dr from funext (fun k => fh19.at tdr rfl), show I20 mo 12 = I10 mo 12 from fh19.at tmo rfl, show I20 mo 31 = I10 mo 31 from fh19.at tmo rfl]; exact R_dr
  replace R_tb : I20 dt 1 = I20 mo 30 := by rw [show I20 dt 1 = I10 dt 1 from fh19.at tdt rfl, show I20 mo 30 = I10 mo 30 from fh19.at tmo rfl]; exact R_tb
  obtain ⟨same, Rn⟩ := g_giveTurn2 R_gb hU hR gI tcp tmo gck rfl rfl gdr gP gF h19 fh19
  replace R_gb := Rn
  replace g := h_after g hB ht hS
  generalize H1 = H at g
  clear hB hk1 hz1 ht hvm hS
  refine lv_pop hx hb dL_law_822 rfl ?_
  refine lv_goto (tgt := 1241) hx hb dL_law_823 (by decide) ?_
  exact W.widen (by omega) (by omega) (kk z I20 L0 _ _ _ ⟨g, hI, hR, tcp, tmo, by rw [alw]; exact J1, by unfold h_J2; rw [atb]; exact J2, hU, by rw [ard, atp, abk, alb, abg, atu, arg]; exact R_al, by rw [atp, abt, amb]; exact R_tp, by rw [abk]; exact R_ck, by rw [ard]; exact R_fa, by rw [alb, atx, aun, alw, ahy]; exact R_bk, by rw [adt, adr]; exact R_dr, by rw [adt]; exact R_tb, by exact R_gb⟩ hl)

